set_option maxRecDepth 20000 in
set_option maxHeartbeats 2000000 in
theorem kX7_withPlaceN {D : va_G} {Nm : Nat → Prop} {G : gh} {now : Int → Int} {a : Nat} (hst : stO D Nm G now a) (hok : mOK now) (hN : Nok Nm G) {now' : Int → Int} {pl : Int} (hpl : 0 ≤ pl ∧ pl < 10) (hnew : now' pl = -1) (hag : ∀ p : Int, 0 ≤ p → p < 10 → p ≠ pl → agP now now' p) (hsm : ∀ j : Int, 1180 ≤ j → j < 3828 → now' j = now j) : CT ⟨"PostageCounter$State", "withPlace", "(ILPostageCounter$Plain;)LPostageCounter$State;"⟩ prog_9_method_2_code 5 (some (.object "PostageCounter$State")) 2 44 2 14 D [.ref a, .int (iI pl), .null] G ((fun _ => False)) (tR (fun b G' => stO D Nm G' now' b)) := by
  refine CT.enter (by decide +kernel) (Nat.le_of_ble_eq_true rfl) (fun F S ret hb hM hI => ?_)
  show V F 5 G 0 0 0 [(0, .ref a), (1, .int (iI pl)), (2, .null)] []
  obtain ⟨pa, la, wa, ea, h1, hpl0, hle0_, hwy0, hex0⟩ := hst
  obtain ⟨pf, hpa, hpf⟩ := hpl0
  refine r_bipush S dX7_withPlace_0 (by decide) ?_
  refine r_newQ (kk := 0) S hb w198 (by decide) rfl (by omega) (by omega) (by show _ ≤ 2; omega) (by show _ ≤ 14; omega) dX7_withPlace_2 (fun a2 hn2 hw2 => ?_)
  refine k_new hn2 (fun G2 hl2 hc2 => ?_)
  have hz2 := hn2
  have hle2 := hl2
  refine r_astore_n (L' := [(3, .ref a2), (0, .ref a), (1, .int (iI pl)), (2, .null)]) S dX7_withPlace_5 (by decide) rfl ?_
  refine r_iconst S dX7_withPlace_6 ?_
  refine r_istore (L' := [(4, .int (iI 0)), (3, .ref a2), (0, .ref a), (1, .int (iI pl)), (2, .null)]) S dX7_withPlace_7 (by decide) rfl ?_
  have L9 : ∀ (N : Nat) (Gk : gh) (f : Int → Option Nat) (i : Int), (10 - i).toNat < N → (gLe G Gk) → (Gk a2 = some (eQ D 0 10 f)) → (0 ≤ i ∧ i ≤ 10) → (∀ j : Int, 0 ≤ j → j < i → f j = if j = pl then none else pf j) → V F 5 Gk 1 10 9 [(0, .ref a), (1, .int (iI pl)), (2, .null), (3, .ref a2), (4, .int (iI i))] [] := by
    intro N
    induction N with
    | zero => intro Gk f i hN; exact absurd hN (Nat.not_lt_zero _)
    | succ N ih9 =>
      intro Gk f i hN9 hle har hi hf
      refine r_iload S dX7_withPlace_9 4 rfl ?_
      refine r_bipush S dX7_withPlace_11 (by decide) ?_
      refine r_icmp_ge S 43 dX7_withPlace_13 (by decide) (by omega) (by omega) (fun c13 => ?_) (fun c13 => ?_)
      · skip
        refine r_new S hb nwX7_10 (by show _ ≤ 2; omega) (by show _ ≤ 14; omega) dX7_withPlace_43 (fun a43 hn43 hw43 => ?_)
        refine k_new hn43 (fun G43 hl43 hc43 => ?_)
        have hz43 := hle.non hn43
        have hle43 := hle.tr hl43
        have ne_a2_a43 : a2 ≠ a43 := gLe.ne hn43 har
        refine r_dup S dX7_withPlace_46 ?_
        refine r_aload_n S dX7_withPlace_47 3 rfl ?_
        refine r_aload_n S dX7_withPlace_48 0 rfl ?_
        refine r_get S gtX7_15_X7 (hle43 _ _ h1.1) rfl dX7_withPlace_49 ?_
        refine r_aload_n S dX7_withPlace_52 0 rfl ?_
        refine r_get S gtX7_19_X7 (hle43 _ _ h1.1) rfl dX7_withPlace_53 ?_
        refine r_aload_n S dX7_withPlace_56 0 rfl ?_
        refine r_get S gtX7_23_X7 (hle43 _ _ h1.1) rfl dX7_withPlace_57 ?_
        refine (c_I_T (As := [.ref a2, .ref la, .ref wa, .ref ea]) (st := [.ref a43]) (M1 := fun x => x = a43) S (kX7_init hc43) moX7_init ⟨by decide, by decide⟩ ⟨(by show _ ≤ 2; omega), (by show _ ≤ 14; omega)⟩ rfl (Nat.le_of_ble_eq_true rfl) w200 w107 rfl rfl dX7_withPlace_60).goV S hb (fun x e => e ▸ hw43) (fun G60 hx60 hc60 => ?_)
        have hle60 := gLe.one hle43 hz43 hx60
        exact ret.tr (by first | exact Or.inl ⟨_, rfl⟩ | exact Or.inr ⟨_, rfl⟩) a43 dX7_withPlace_63 (by omega) (by omega) ⟨a2, la, wa, ea, ⟨hc60, hN.new hz43⟩, plA_with hok.1 ⟨(hx60 _ _ (hl43 _ _ har) ne_a2_a43), hN.new hz2⟩ hpf (gLe.ext hle60) (fun j j0 j1 => hf j j0 (by omega)) hpl (Or.inl ⟨hnew, rfl⟩) hag, (hle0_.cong hok.2.2.2.2.2.2.1 (fun j j0 j1 => hsm j (by omega) j1)).mono (gLe.ext hle60), (hwy0.cong hok.2.2.2.2.1 (fun j j0 j1 => hsm j (by omega) (by omega))).mono (gLe.ext hle60), (hex0.cong (fun k k0 k1 => hsm _ (by omega) (by omega))).mono (gLe.ext hle60)⟩
      · skip
        refine r_aload_n S dX7_withPlace_16 3 rfl ?_
        refine r_iload S dX7_withPlace_17 4 rfl ?_
        refine r_iload S dX7_withPlace_19 4 rfl ?_
        refine r_iload_n S dX7_withPlace_21 1 rfl ?_
        refine r_icmp_ne S 29 dX7_withPlace_22 (by decide) (by omega) (by omega) (fun c22 => ?_) (fun c22 => ?_)
        · skip
          refine r_aload_n S dX7_withPlace_29 0 rfl ?_
          refine r_get S gtX7_9_X7 (hle _ _ h1.1) rfl dX7_withPlace_30 ?_
          refine r_iload S dX7_withPlace_33 4 rfl ?_
          rcases hpf i (by omega) (by omega) with ⟨hk35, hf35⟩ | ⟨hk35, b35, hf35, hO35⟩
          · skip
            refine r_aaldN hf35 (hle _ _ hpa.1) rfl (by omega) (by omega) (by omega) S dX7_withPlace_35 ?_
            refine r_aastN S hb har rfl hw2 (by omega) (by omega) (by omega) dX7_withPlace_36 ?_
            refine k_upd hle hz2 (fun G36 hle36 ho36 hc36 => ?_)
            refine r_iinc_e (L' := [(4, .int (iI (1 + i))), (0, .ref a), (1, .int (iI pl)), (2, .null), (3, .ref a2)]) (1 + i) (by omega) S dX7_withPlace_37 4 rfl (by decide) rfl ?_
            refine r_goto S 9 dX7_withPlace_40 (by decide) ?_
            refine V.sub [1, 2, 3, 4, 0] rfl ?_
            exact ih9 G36 (upI f i none) (1 + i) (by omega) hle36 hc36 (by omega) (fun j j0 j1 => by by_cases e : j = i; rw [e, upI_s, if_neg (by omega), hf35]; rw [upI_n e]; exact hf j j0 (by omega))
          · skip
            refine r_aaldS hf35 (hle _ _ hpa.1) rfl (by omega) (by omega) (by omega) S dX7_withPlace_35 ?_
            refine rH_aast S hb har (hO.mono hO35 (gLe.ext hle)) hw2 (by omega) (by omega) (by omega) dX7_withPlace_36 ?_
            refine k_upd hle hz2 (fun G36 hle36 ho36 hc36 => ?_)
            refine r_iinc_e (L' := [(4, .int (iI (1 + i))), (0, .ref a), (1, .int (iI pl)), (2, .null), (3, .ref a2)]) (1 + i) (by omega) S dX7_withPlace_37 4 rfl (by decide) rfl ?_
            refine r_goto S 9 dX7_withPlace_40 (by decide) ?_
            refine V.sub [1, 2, 3, 4, 0] rfl ?_
            exact ih9 G36 (upI f i (some b35)) (1 + i) (by omega) hle36 hc36 (by omega) (fun j j0 j1 => by by_cases e : j = i; rw [e, upI_s, if_neg (by omega), hf35]; rw [upI_n e]; exact hf j j0 (by omega))
        · skip
          refine r_aload_nN S dX7_withPlace_25 2 rfl ?_
          refine r_goto S 36 dX7_withPlace_26 (by decide) ?_
          refine r_aastN S hb har rfl hw2 (by omega) (by omega) (by omega) dX7_withPlace_36 ?_
          refine k_upd hle hz2 (fun G36 hle36 ho36 hc36 => ?_)
          refine r_iinc_e (L' := [(4, .int (iI (1 + i))), (0, .ref a), (1, .int (iI pl)), (2, .null), (3, .ref a2)]) (1 + i) (by omega) S dX7_withPlace_37 4 rfl (by decide) rfl ?_
          refine r_goto S 9 dX7_withPlace_40 (by decide) ?_
          refine V.sub [1, 2, 3, 4, 0] rfl ?_
          exact ih9 G36 (upI f i none) (1 + i) (by omega) hle36 hc36 (by omega) (fun j j0 j1 => by by_cases e : j = i; rw [e, upI_s, if_pos (by omega)]; rw [upI_n e]; exact hf j j0 (by omega))
  refine V.sub [2, 3, 4, 1, 0] rfl ?_
  exact L9 _ G2 (fun _ => none) 0 (Nat.lt_succ_self _) hle2 hc2 (by omega) (fun j j0 j1 => by omega)

set_option maxRecDepth 20000 in
set_option maxHeartbeats 2000000 in
theorem kX7_withPlace {D : va_G} {Nm : Nat → Prop} {G : gh} {now : Int → Int} {a : Nat} (hst : stO D Nm G now a) (hok : mOK now) (hN : Nok Nm G) {now' : Int → Int} {pl : Int} (hpl : 0 ≤ pl ∧ pl < 10) {hb0 : Nat} (hne : now' pl ≠ -1) (hnew : hO D Nm G now' pl hb0) (hag : ∀ p : Int, 0 ≤ p → p < 10 → p ≠ pl → agP now now' p) (hsm : ∀ j : Int, 1180 ≤ j → j < 3828 → now' j = now j) : CT ⟨"PostageCounter$State", "withPlace", "(ILPostageCounter$Plain;)LPostageCounter$State;"⟩ prog_9_method_2_code 5 (some (.object "PostageCounter$State")) 2 44 2 14 D [.ref a, .int (iI pl), .ref hb0] G ((fun _ => False)) (tR (fun b G' => stO D Nm G' now' b)) := by
  refine CT.enter (by decide +kernel) (Nat.le_of_ble_eq_true rfl) (fun F S ret hb hM hI => ?_)
  show V F 5 G 0 0 0 [(0, .ref a), (1, .int (iI pl)), (2, .ref hb0)] []
  obtain ⟨pa, la, wa, ea, h1, hpl0, hle0_, hwy0, hex0⟩ := hst
  obtain ⟨pf, hpa, hpf⟩ := hpl0
  refine r_bipush S dX7_withPlace_0 (by decide) ?_
  refine r_newQ (kk := 0) S hb w198 (by decide) rfl (by omega) (by omega) (by show _ ≤ 2; omega) (by show _ ≤ 14; omega) dX7_withPlace_2 (fun a2 hn2 hw2 => ?_)
  refine k_new hn2 (fun G2 hl2 hc2 => ?_)
  have hz2 := hn2
  have hle2 := hl2
  refine r_astore_n (L' := [(3, .ref a2), (0, .ref a), (1, .int (iI pl)), (2, .ref hb0)]) S dX7_withPlace_5 (by decide) rfl ?_
  refine r_iconst S dX7_withPlace_6 ?_
  refine r_istore (L' := [(4, .int (iI 0)), (3, .ref a2), (0, .ref a), (1, .int (iI pl)), (2, .ref hb0)]) S dX7_withPlace_7 (by decide) rfl ?_
  have L9 : ∀ (N : Nat) (Gk : gh) (f : Int → Option Nat) (i : Int), (10 - i).toNat < N → (gLe G Gk) → (Gk a2 = some (eQ D 0 10 f)) → (0 ≤ i ∧ i ≤ 10) → (∀ j : Int, 0 ≤ j → j < i → f j = if j = pl then some hb0 else pf j) → V F 5 Gk 1 10 9 [(0, .ref a), (1, .int (iI pl)), (2, .ref hb0), (3, .ref a2), (4, .int (iI i))] [] := by
    intro N
    induction N with
    | zero => intro Gk f i hN; exact absurd hN (Nat.not_lt_zero _)
    | succ N ih9 =>
      intro Gk f i hN9 hle har hi hf
      refine r_iload S dX7_withPlace_9 4 rfl ?_
      refine r_bipush S dX7_withPlace_11 (by decide) ?_
      refine r_icmp_ge S 43 dX7_withPlace_13 (by decide) (by omega) (by omega) (fun c13 => ?_) (fun c13 => ?_)
      · skip
        refine r_new S hb nwX7_10 (by show _ ≤ 2; omega) (by show _ ≤ 14; omega) dX7_withPlace_43 (fun a43 hn43 hw43 => ?_)
        refine k_new hn43 (fun G43 hl43 hc43 => ?_)
        have hz43 := hle.non hn43
        have hle43 := hle.tr hl43
        have ne_a2_a43 : a2 ≠ a43 := gLe.ne hn43 har
        refine r_dup S dX7_withPlace_46 ?_
        refine r_aload_n S dX7_withPlace_47 3 rfl ?_
        refine r_aload_n S dX7_withPlace_48 0 rfl ?_
        refine r_get S gtX7_15_X7 (hle43 _ _ h1.1) rfl dX7_withPlace_49 ?_
        refine r_aload_n S dX7_withPlace_52 0 rfl ?_
        refine r_get S gtX7_19_X7 (hle43 _ _ h1.1) rfl dX7_withPlace_53 ?_
        refine r_aload_n S dX7_withPlace_56 0 rfl ?_
        refine r_get S gtX7_23_X7 (hle43 _ _ h1.1) rfl dX7_withPlace_57 ?_
        refine (c_I_T (As := [.ref a2, .ref la, .ref wa, .ref ea]) (st := [.ref a43]) (M1 := fun x => x = a43) S (kX7_init hc43) moX7_init ⟨by decide, by decide⟩ ⟨(by show _ ≤ 2; omega), (by show _ ≤ 14; omega)⟩ rfl (Nat.le_of_ble_eq_true rfl) w200 w107 rfl rfl dX7_withPlace_60).goV S hb (fun x e => e ▸ hw43) (fun G60 hx60 hc60 => ?_)
        have hle60 := gLe.one hle43 hz43 hx60
        exact ret.tr (by first | exact Or.inl ⟨_, rfl⟩ | exact Or.inr ⟨_, rfl⟩) a43 dX7_withPlace_63 (by omega) (by omega) ⟨a2, la, wa, ea, ⟨hc60, hN.new hz43⟩, plA_with hok.1 ⟨(hx60 _ _ (hl43 _ _ har) ne_a2_a43), hN.new hz2⟩ hpf (gLe.ext hle60) (fun j j0 j1 => hf j j0 (by omega)) hpl (Or.inr ⟨hne, hb0, rfl, hnew⟩) hag, (hle0_.cong hok.2.2.2.2.2.2.1 (fun j j0 j1 => hsm j (by omega) j1)).mono (gLe.ext hle60), (hwy0.cong hok.2.2.2.2.1 (fun j j0 j1 => hsm j (by omega) (by omega))).mono (gLe.ext hle60), (hex0.cong (fun k k0 k1 => hsm _ (by omega) (by omega))).mono (gLe.ext hle60)⟩
      · skip
        refine r_aload_n S dX7_withPlace_16 3 rfl ?_
        refine r_iload S dX7_withPlace_17 4 rfl ?_
        refine r_iload S dX7_withPlace_19 4 rfl ?_
        refine r_iload_n S dX7_withPlace_21 1 rfl ?_
        refine r_icmp_ne S 29 dX7_withPlace_22 (by decide) (by omega) (by omega) (fun c22 => ?_) (fun c22 => ?_)
        · skip
          refine r_aload_n S dX7_withPlace_29 0 rfl ?_
          refine r_get S gtX7_9_X7 (hle _ _ h1.1) rfl dX7_withPlace_30 ?_
          refine r_iload S dX7_withPlace_33 4 rfl ?_
          rcases hpf i (by omega) (by omega) with ⟨hk35, hf35⟩ | ⟨hk35, b35, hf35, hO35⟩
          · skip
            refine r_aaldN hf35 (hle _ _ hpa.1) rfl (by omega) (by omega) (by omega) S dX7_withPlace_35 ?_
            refine r_aastN S hb har rfl hw2 (by omega) (by omega) (by omega) dX7_withPlace_36 ?_
            refine k_upd hle hz2 (fun G36 hle36 ho36 hc36 => ?_)
            refine r_iinc_e (L' := [(4, .int (iI (1 + i))), (0, .ref a), (1, .int (iI pl)), (2, .ref hb0), (3, .ref a2)]) (1 + i) (by omega) S dX7_withPlace_37 4 rfl (by decide) rfl ?_
            refine r_goto S 9 dX7_withPlace_40 (by decide) ?_
            refine V.sub [1, 2, 3, 4, 0] rfl ?_
            exact ih9 G36 (upI f i none) (1 + i) (by omega) hle36 hc36 (by omega) (fun j j0 j1 => by by_cases e : j = i; rw [e, upI_s, if_neg (by omega), hf35]; rw [upI_n e]; exact hf j j0 (by omega))
          · skip
            refine r_aaldS hf35 (hle _ _ hpa.1) rfl (by omega) (by omega) (by omega) S dX7_withPlace_35 ?_
            refine rH_aast S hb har (hO.mono hO35 (gLe.ext hle)) hw2 (by omega) (by omega) (by omega) dX7_withPlace_36 ?_
            refine k_upd hle hz2 (fun G36 hle36 ho36 hc36 => ?_)
            refine r_iinc_e (L' := [(4, .int (iI (1 + i))), (0, .ref a), (1, .int (iI pl)), (2, .ref hb0), (3, .ref a2)]) (1 + i) (by omega) S dX7_withPlace_37 4 rfl (by decide) rfl ?_
            refine r_goto S 9 dX7_withPlace_40 (by decide) ?_
            refine V.sub [1, 2, 3, 4, 0] rfl ?_
            exact ih9 G36 (upI f i (some b35)) (1 + i) (by omega) hle36 hc36 (by omega) (fun j j0 j1 => by by_cases e : j = i; rw [e, upI_s, if_neg (by omega), hf35]; rw [upI_n e]; exact hf j j0 (by omega))
        · skip
          refine r_aload_n S dX7_withPlace_25 2 rfl ?_
          refine r_goto S 36 dX7_withPlace_26 (by decide) ?_
          refine rH_aast S hb har (hO.mono hnew (gLe.ext hle)) hw2 (by omega) (by omega) (by omega) dX7_withPlace_36 ?_
          refine k_upd hle hz2 (fun G36 hle36 ho36 hc36 => ?_)
          refine r_iinc_e (L' := [(4, .int (iI (1 + i))), (0, .ref a), (1, .int (iI pl)), (2, .ref hb0), (3, .ref a2)]) (1 + i) (by omega) S dX7_withPlace_37 4 rfl (by decide) rfl ?_
          refine r_goto S 9 dX7_withPlace_40 (by decide) ?_
          refine V.sub [1, 2, 3, 4, 0] rfl ?_
          exact ih9 G36 (upI f i (some hb0)) (1 + i) (by omega) hle36 hc36 (by omega) (fun j j0 j1 => by by_cases e : j = i; rw [e, upI_s, if_pos (by omega)]; rw [upI_n e]; exact hf j j0 (by omega))
  refine V.sub [2, 3, 4, 1, 0] rfl ?_
  exact L9 _ G2 (fun _ => none) 0 (Nat.lt_succ_self _) hle2 hc2 (by omega) (fun j j0 j1 => by omega)

set_option maxRecDepth 20000 in
set_option maxHeartbeats 2000000 in
theorem kX7_withWay {D : va_G} {Nm : Nat → Prop} {G : gh} {now : Int → Int} {a : Nat} (hst : stO D Nm G now a) (hok : mOK now) (hN : Nok Nm G) {now' : Int → Int} {w : Int} {v : Nat} (hw0 : 0 ≤ w ∧ w < 6) (hv : wyO D Nm G now' w v) (hag : ∀ j : Int, 0 ≤ j → j < 6 → j ≠ w → now' (1180 + j) = now (1180 + j) ∧ ∀ k : Int, 0 ≤ k → k < now (1180 + j) → now' (1186 + 8 * j + k) = now (1186 + 8 * j + k) ∧ now' (1234 + 8 * j + k) = now (1234 + 8 * j + k)) (hsm : ∀ j : Int, (j < 1180 ∨ 1282 ≤ j) → now' j = now j) : CT ⟨"PostageCounter$State", "withWay", "(ILPostageCounter$Way;)LPostageCounter$State;"⟩ prog_9_method_3_code 5 (some (.object "PostageCounter$State")) 2 44 2 14 D [.ref a, .int (iI w), .ref v] G ((fun _ => False)) (tR (fun b G' => stO D Nm G' now' b)) := by
  refine CT.enter (by decide +kernel) (Nat.le_of_ble_eq_true rfl) (fun F S ret hb hM hI => ?_)
  show V F 5 G 0 0 0 [(0, .ref a), (1, .int (iI w)), (2, .ref v)] []
  obtain ⟨pa, la, wa, ea, h1, hpl0, hle0_, hwy0, hex0⟩ := hst
  obtain ⟨wf, hwa, hwf⟩ := hwy0
  obtain ⟨y1, y2, y3, y4, hv0, hv1⟩ := id hv
  refine r_bipush S dX7_withWay_0 (by decide) ?_
  refine r_newQ (kk := 2) S hb w453 (by decide) rfl (by omega) (by omega) (by show _ ≤ 2; omega) (by show _ ≤ 14; omega) dX7_withWay_2 (fun a2 hn2 hw2 => ?_)
  refine k_new hn2 (fun G2 hl2 hc2 => ?_)
  have hz2 := hn2
  have hle2 := hl2
  refine r_astore_n (L' := [(3, .ref a2), (0, .ref a), (1, .int (iI w)), (2, .ref v)]) S dX7_withWay_5 (by decide) rfl ?_
  refine r_iconst S dX7_withWay_6 ?_
  refine r_istore (L' := [(4, .int (iI 0)), (3, .ref a2), (0, .ref a), (1, .int (iI w)), (2, .ref v)]) S dX7_withWay_7 (by decide) rfl ?_
  have L9 : ∀ (N : Nat) (Gk : gh) (f : Int → Option Nat) (i : Int), (6 - i).toNat < N → (gLe G Gk) → (Gk a2 = some (eQ D 2 6 f)) → (0 ≤ i ∧ i ≤ 6) → (∀ j : Int, 0 ≤ j → j < i → f j = if j = w then some v else wf j) → V F 5 Gk 1 6 9 [(0, .ref a), (1, .int (iI w)), (2, .ref v), (3, .ref a2), (4, .int (iI i))] [] := by
    intro N
    induction N with
    | zero => intro Gk f i hN; exact absurd hN (Nat.not_lt_zero _)
    | succ N ih9 =>
      intro Gk f i hN9 hle har hi hf
      refine r_iload S dX7_withWay_9 4 rfl ?_
      refine r_bipush S dX7_withWay_11 (by decide) ?_
      refine r_icmp_ge S 43 dX7_withWay_13 (by decide) (by omega) (by omega) (fun c13 => ?_) (fun c13 => ?_)
      · skip
        refine r_new S hb nwX7_10 (by show _ ≤ 2; omega) (by show _ ≤ 14; omega) dX7_withWay_43 (fun a43 hn43 hw43 => ?_)
        refine k_new hn43 (fun G43 hl43 hc43 => ?_)
        have hz43 := hle.non hn43
        have hle43 := hle.tr hl43
        have ne_a2_a43 : a2 ≠ a43 := gLe.ne hn43 har
        refine r_dup S dX7_withWay_46 ?_
        refine r_aload_n S dX7_withWay_47 0 rfl ?_
        refine r_get S gtX7_9_X7 (hle43 _ _ h1.1) rfl dX7_withWay_48 ?_
        refine r_aload_n S dX7_withWay_51 0 rfl ?_
        refine r_get S gtX7_15_X7 (hle43 _ _ h1.1) rfl dX7_withWay_52 ?_
        refine r_aload_n S dX7_withWay_55 3 rfl ?_
        refine r_aload_n S dX7_withWay_56 0 rfl ?_
        refine r_get S gtX7_23_X7 (hle43 _ _ h1.1) rfl dX7_withWay_57 ?_
        refine (c_I_T (As := [.ref pa, .ref la, .ref a2, .ref ea]) (st := [.ref a43]) (M1 := fun x => x = a43) S (kX7_init hc43) moX7_init ⟨by decide, by decide⟩ ⟨(by show _ ≤ 2; omega), (by show _ ≤ 14; omega)⟩ rfl (Nat.le_of_ble_eq_true rfl) w200 w107 rfl rfl dX7_withWay_60).goV S hb (fun x e => e ▸ hw43) (fun G60 hx60 hc60 => ?_)
        have hle60 := gLe.one hle43 hz43 hx60
        exact ret.tr (by first | exact Or.inl ⟨_, rfl⟩ | exact Or.inr ⟨_, rfl⟩) a43 dX7_withWay_63 (by omega) (by omega) ⟨pa, la, a2, ea, ⟨hc60, hN.new hz43⟩, (hpl0.cong hok.1 (fun j hj => hsm j (by omega))).mono (gLe.ext hle60), (hle0_.cong hok.2.2.2.2.2.2.1 (fun j j0 j1 => hsm j (by omega))).mono (gLe.ext hle60), wyA_with ⟨(hx60 _ _ (hl43 _ _ har) ne_a2_a43), hN.new hz2⟩ hwf (gLe.ext hle60) (fun j j0 j1 => hf j j0 (by omega)) hv hag, (hex0.cong (fun k k0 k1 => hsm _ (by omega))).mono (gLe.ext hle60)⟩
      · skip
        refine r_aload_n S dX7_withWay_16 3 rfl ?_
        refine r_iload S dX7_withWay_17 4 rfl ?_
        refine r_iload S dX7_withWay_19 4 rfl ?_
        refine r_iload_n S dX7_withWay_21 1 rfl ?_
        refine r_icmp_ne S 29 dX7_withWay_22 (by decide) (by omega) (by omega) (fun c22 => ?_) (fun c22 => ?_)
        · skip
          refine r_aload_n S dX7_withWay_29 0 rfl ?_
          refine r_get S gtX7_19_X7 (hle _ _ h1.1) rfl dX7_withWay_30 ?_
          refine r_iload S dX7_withWay_33 4 rfl ?_
          obtain ⟨b35, hf35, hO35⟩ := hwf i (by omega) (by omega)
          obtain ⟨ga35, ra35, gf35, rf35, w35, ww35⟩ := id hO35
          refine r_aaldS hf35 (hle _ _ hwa.1) rfl (by omega) (by omega) (by omega) S dX7_withWay_35 ?_
          refine r_aast S hb har (hle _ _ w35.1) ⟨_, rfl, by decide⟩ rfl hw2 (by omega) (by omega) (by omega) dX7_withWay_36 ?_
          refine k_upd hle hz2 (fun G36 hle36 ho36 hc36 => ?_)
          refine r_iinc_e (L' := [(4, .int (iI (1 + i))), (0, .ref a), (1, .int (iI w)), (2, .ref v), (3, .ref a2)]) (1 + i) (by omega) S dX7_withWay_37 4 rfl (by decide) rfl ?_
          refine r_goto S 9 dX7_withWay_40 (by decide) ?_
          refine V.sub [1, 2, 3, 4, 0] rfl ?_
          exact ih9 G36 (upI f i (some b35)) (1 + i) (by omega) hle36 hc36 (by omega) (fun j j0 j1 => by by_cases e : j = i; rw [e, upI_s, if_neg (by omega), hf35]; rw [upI_n e]; exact hf j j0 (by omega))
        · skip
          refine r_aload_n S dX7_withWay_25 2 rfl ?_
          refine r_goto S 36 dX7_withWay_26 (by decide) ?_
          refine r_aast S hb har (hle _ _ hv0.1) ⟨_, rfl, by decide⟩ rfl hw2 (by omega) (by omega) (by omega) dX7_withWay_36 ?_
          refine k_upd hle hz2 (fun G36 hle36 ho36 hc36 => ?_)
          refine r_iinc_e (L' := [(4, .int (iI (1 + i))), (0, .ref a), (1, .int (iI w)), (2, .ref v), (3, .ref a2)]) (1 + i) (by omega) S dX7_withWay_37 4 rfl (by decide) rfl ?_
          refine r_goto S 9 dX7_withWay_40 (by decide) ?_
          refine V.sub [1, 2, 3, 4, 0] rfl ?_
          exact ih9 G36 (upI f i (some v)) (1 + i) (by omega) hle36 hc36 (by omega) (fun j j0 j1 => by by_cases e : j = i; rw [e, upI_s, if_pos (by omega)]; rw [upI_n e]; exact hf j j0 (by omega))
  refine V.sub [2, 3, 4, 1, 0] rfl ?_
  exact L9 _ G2 (fun _ => none) 0 (Nat.lt_succ_self _) hle2 hc2 (by omega) (fun j j0 j1 => by omega)

set_option maxRecDepth 20000 in
set_option maxHeartbeats 2000000 in
theorem kX7_withExtra {D : va_G} {Nm : Nat → Prop} {G : gh} {now : Int → Int} {a : Nat} (hst : stO D Nm G now a) (hok : mOK now) (hN : Nok Nm G) {now' : Int → Int} {k pr : Int} (hk : 0 ≤ k ∧ k < 4) (hnx : ∀ j : Int, 0 ≤ j → j < 4 → now' (1282 + j) = if j = k then pr else now (1282 + j)) (hsm : ∀ j : Int, (j < 1282 ∨ 1286 ≤ j) → now' j = now j) : CT ⟨"PostageCounter$State", "withExtra", "(II)LPostageCounter$State;"⟩ prog_9_method_4_code 5 (some (.object "PostageCounter$State")) 2 44 2 14 D [.ref a, .int (iI k), .int (iI pr)] G ((fun _ => False)) (tR (fun b G' => stO D Nm G' now' b)) := by
  refine CT.enter (by decide +kernel) (Nat.le_of_ble_eq_true rfl) (fun F S ret hb hM hI => ?_)
  show V F 5 G 0 0 0 [(0, .ref a), (1, .int (iI k)), (2, .int (iI pr))] []
  obtain ⟨pa, la, wa, ea, h1, hpl0, hle0_, hwy0, hex0⟩ := hst
  obtain ⟨ef, hea, hef⟩ := hex0
  refine r_iconst S dX7_withExtra_0 ?_
  refine r_newI S hb w75 (by omega) (by omega) (by show _ ≤ 2; omega) (by show _ ≤ 14; omega) dX7_withExtra_1 (fun a1 hn1 hw1 => ?_)
  refine k_new hn1 (fun G1 hl1 hc1 => ?_)
  have hz1 := hn1
  have hle1 := hl1
  refine r_astore_n (L' := [(3, .ref a1), (0, .ref a), (1, .int (iI k)), (2, .int (iI pr))]) S dX7_withExtra_3 (by decide) rfl ?_
  refine r_iconst S dX7_withExtra_4 ?_
  refine r_istore (L' := [(4, .int (iI 0)), (3, .ref a1), (0, .ref a), (1, .int (iI k)), (2, .int (iI pr))]) S dX7_withExtra_5 (by decide) rfl ?_
  have L7 : ∀ (N : Nat) (Gk : gh) (f : Int → Int) (i : Int), (4 - i).toNat < N → (gLe G Gk) → (Gk a1 = some (eI D 4 f)) → (0 ≤ i ∧ i ≤ 4) → (∀ j : Int, 0 ≤ j → j < i → f j = if j = k then pr else ef j) → V F 5 Gk 1 4 7 [(0, .ref a), (1, .int (iI k)), (2, .int (iI pr)), (3, .ref a1), (4, .int (iI i))] [] := by
    intro N
    induction N with
    | zero => intro Gk f i hN; exact absurd hN (Nat.not_lt_zero _)
    | succ N ih7 =>
      intro Gk f i hN7 hle har hi hf
      refine r_iload S dX7_withExtra_7 4 rfl ?_
      refine r_iconst S dX7_withExtra_9 ?_
      refine r_icmp_ge S 40 dX7_withExtra_10 (by decide) (by omega) (by omega) (fun c10 => ?_) (fun c10 => ?_)
      · skip
        refine r_new S hb nwX7_10 (by show _ ≤ 2; omega) (by show _ ≤ 14; omega) dX7_withExtra_40 (fun a40 hn40 hw40 => ?_)
        refine k_new hn40 (fun G40 hl40 hc40 => ?_)
        have hz40 := hle.non hn40
        have hle40 := hle.tr hl40
        have ne_a1_a40 : a1 ≠ a40 := gLe.ne hn40 har
        refine r_dup S dX7_withExtra_43 ?_
        refine r_aload_n S dX7_withExtra_44 0 rfl ?_
        refine r_get S gtX7_9_X7 (hle40 _ _ h1.1) rfl dX7_withExtra_45 ?_
        refine r_aload_n S dX7_withExtra_48 0 rfl ?_
        refine r_get S gtX7_15_X7 (hle40 _ _ h1.1) rfl dX7_withExtra_49 ?_
        refine r_aload_n S dX7_withExtra_52 0 rfl ?_
        refine r_get S gtX7_19_X7 (hle40 _ _ h1.1) rfl dX7_withExtra_53 ?_
        refine r_aload_n S dX7_withExtra_56 3 rfl ?_
        refine (c_I_T (As := [.ref pa, .ref la, .ref wa, .ref a1]) (st := [.ref a40]) (M1 := fun x => x = a40) S (kX7_init hc40) moX7_init ⟨by decide, by decide⟩ ⟨(by show _ ≤ 2; omega), (by show _ ≤ 14; omega)⟩ rfl (Nat.le_of_ble_eq_true rfl) w200 w107 rfl rfl dX7_withExtra_57).goV S hb (fun x e => e ▸ hw40) (fun G57 hx57 hc57 => ?_)
        have hle57 := gLe.one hle40 hz40 hx57
        exact ret.tr (by first | exact Or.inl ⟨_, rfl⟩ | exact Or.inr ⟨_, rfl⟩) a40 dX7_withExtra_60 (by omega) (by omega) ⟨pa, la, wa, a1, ⟨hc57, hN.new hz40⟩, (hpl0.cong hok.1 (fun j hj => hsm j (by omega))).mono (gLe.ext hle57), (hle0_.cong hok.2.2.2.2.2.2.1 (fun j j0 j1 => hsm j (by omega))).mono (gLe.ext hle57), (hwy0.cong hok.2.2.2.2.1 (fun j j0 j1 => hsm j (by omega))).mono (gLe.ext hle57), ⟨f, ⟨(hx57 _ _ (hl40 _ _ har) ne_a1_a40), hN.new hz1⟩, fun j j0 j1 => by rw [hf j j0 (by omega), hnx j j0 j1]; by_cases e : j = k; rw [if_pos e, if_pos e]; rw [if_neg e, if_neg e]; exact hef j j0 j1⟩⟩
      · skip
        refine r_aload_n S dX7_withExtra_13 3 rfl ?_
        refine r_iload S dX7_withExtra_14 4 rfl ?_
        refine r_iload S dX7_withExtra_16 4 rfl ?_
        refine r_iload_n S dX7_withExtra_18 1 rfl ?_
        refine r_icmp_ne S 26 dX7_withExtra_19 (by decide) (by omega) (by omega) (fun c19 => ?_) (fun c19 => ?_)
        · skip
          refine r_aload_n S dX7_withExtra_26 0 rfl ?_
          refine r_get S gtX7_23_X7 (hle _ _ h1.1) rfl dX7_withExtra_27 ?_
          refine r_iload S dX7_withExtra_30 4 rfl ?_
          refine r_iald S (hle _ _ hea.1) (by omega) (by omega) (by omega) dX7_withExtra_32 ?_
          refine r_iast S hb har hw1 (by omega) (by omega) (by omega) dX7_withExtra_33 ?_
          refine k_upd hle hz1 (fun G33 hle33 ho33 hc33 => ?_)
          refine r_iinc_e (L' := [(4, .int (iI (1 + i))), (0, .ref a), (1, .int (iI k)), (2, .int (iI pr)), (3, .ref a1)]) (1 + i) (by omega) S dX7_withExtra_34 4 rfl (by decide) rfl ?_
          refine r_goto S 7 dX7_withExtra_37 (by decide) ?_
          refine V.sub [1, 2, 3, 4, 0] rfl ?_
          exact ih7 G33 (upI f i (ef i)) (1 + i) (by omega) hle33 hc33 (by omega) (fun j j0 j1 => by by_cases e : j = i; rw [e, upI_s, if_neg (by omega)]; rw [upI_n e]; exact hf j j0 (by omega))
        · skip
          refine r_iload_n S dX7_withExtra_22 2 rfl ?_
          refine r_goto S 33 dX7_withExtra_23 (by decide) ?_
          refine r_iast S hb har hw1 (by omega) (by omega) (by omega) dX7_withExtra_33 ?_
          refine k_upd hle hz1 (fun G33 hle33 ho33 hc33 => ?_)
          refine r_iinc_e (L' := [(4, .int (iI (1 + i))), (0, .ref a), (1, .int (iI k)), (2, .int (iI pr)), (3, .ref a1)]) (1 + i) (by omega) S dX7_withExtra_34 4 rfl (by decide) rfl ?_
          refine r_goto S 7 dX7_withExtra_37 (by decide) ?_
          refine V.sub [1, 2, 3, 4, 0] rfl ?_
          exact ih7 G33 (upI f i pr) (1 + i) (by omega) hle33 hc33 (by omega) (fun j j0 j1 => by by_cases e : j = i; rw [e, upI_s, if_pos (by omega)]; rw [upI_n e]; exact hf j j0 (by omega))
  refine V.sub [2, 3, 4, 1, 0] rfl ?_
  exact L7 _ G1 (fun _ => 0) 0 (Nat.lt_succ_self _) hle1 hc1 (by omega) (fun j j0 j1 => by omega)
