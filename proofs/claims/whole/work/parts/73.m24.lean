set_option maxRecDepth 20000 in
set_option maxHeartbeats 2000000 in
theorem kX5_tearings {D : va_G} {N : Nat → Prop} {G : gh} {now cf : Int → Int} {pl ca : Nat} (hpl : plA D N G now pl) (hok : mOK now) (hca : G ca = some (eI D 10 cf)) (hcf : ∀ p : Int, 0 ≤ p → p < 10 → 0 ≤ cf p ∧ cf p ≤ now (10 + p) ∧ (now p = 3 → cf p % 2 = 0)) : CT ⟨"PostageCounter$Payment", "tearings", "([LPostageCounter$Plain;[I)[J"⟩ prog_7_method_2_code 4 (some (.array .long)) 5 139 1 10 D [.ref pl, .ref ca] G ((fun _ => False)) (tR (fun b G' => G b = none ∧ ∃ sf : Int → BitVec 64, G' b = some (eJ D 10 (fun j => lB (sf j))) ∧ ∀ p : Int, 0 ≤ p → p < 10 → (now p = -1 → sf p = 0#64) ∧ (now p ≠ -1 → giveT now p (cf p) (PB (sf p))))) := by
  refine CT.enter (by decide +kernel) (Nat.le_of_ble_eq_true rfl) (fun F S ret hb hM hI => ?_)
  show V F 4 G 0 0 0 [(0, .ref pl), (1, .ref ca)] []
  obtain ⟨pf, hpa, hpf⟩ := hpl
  refine r_bipush S dX5_tearings_0 (by decide) ?_
  refine r_newJ S hb w642 (by omega) (by omega) (by show _ ≤ 1; omega) (by show _ ≤ 10; omega) dX5_tearings_2 (fun a2 hn2 hw2 => ?_)
  refine k_new hn2 (fun G2 hl2 hc2 => ?_)
  have hz2 := hn2
  have hle2 := hl2
  refine r_astore_n (L' := [(2, .ref a2), (0, .ref pl), (1, .ref ca)]) S dX5_tearings_4 (by decide) rfl ?_
  refine r_iconst S dX5_tearings_5 ?_
  refine r_istore_n (L' := [(3, .int (iI 0)), (2, .ref a2), (0, .ref pl), (1, .ref ca)]) S dX5_tearings_6 (by decide) rfl ?_
  have L7 : ∀ (N : Nat) (Gk : gh) (sf : Int → BitVec 64) (i : Int), (10 - i).toNat < N → (gLe G Gk) → (Gk a2 = some (eJ D 10 (fun j => lB (sf j)))) → (0 ≤ i ∧ i ≤ 10) → (∀ p : Int, 0 ≤ p → p < i → (now p = -1 → sf p = 0#64) ∧ (now p ≠ -1 → giveT now p (cf p) (PB (sf p)))) → (∀ j : Int, i ≤ j → sf j = 0#64) → V F 4 Gk 1 10 7 [(0, .ref pl), (1, .ref ca), (2, .ref a2), (3, .int (iI i))] [] := by
    intro N
    induction N with
    | zero => intro Gk sf i hN; exact absurd hN (Nat.not_lt_zero _)
    | succ N ih7 =>
      intro Gk sf i hN7 hle har hi hsf hz0
      refine r_iload_n S dX5_tearings_7 3 rfl ?_
      refine r_bipush S dX5_tearings_8 (by decide) ?_
      refine r_icmp_ge S 37 dX5_tearings_10 (by decide) (by omega) (by omega) (fun c10 => ?_) (fun c10 => ?_)
      · skip
        refine r_aload_n S dX5_tearings_37 2 rfl ?_
        exact ret.tr (by first | exact Or.inl ⟨_, rfl⟩ | exact Or.inr ⟨_, rfl⟩) a2 dX5_tearings_38 (by omega) (by omega) ⟨hz2, sf, har, fun p p0 p1 => hsf p p0 (by omega)⟩
      · skip
        have hKi := hok.1 i (by omega) (by omega)
        have hcfi := hcf i (by omega) (by omega)
        refine r_aload_n S dX5_tearings_13 0 rfl ?_
        refine r_iload_n S dX5_tearings_14 3 rfl ?_
        rcases hpf i (by omega) (by omega) with ⟨hk15, hf15⟩ | ⟨hk15, b15, hf15, hO15⟩
        · skip
          refine r_aaldN hf15 (hle _ _ hpa.1) rfl (by omega) (by omega) (by omega) S dX5_tearings_15 ?_
          refine r_ifnullN S 31 dX5_tearings_16 (by decide) ?_
          refine r_iinc_e (L' := [(3, .int (iI (1 + i))), (0, .ref pl), (1, .ref ca), (2, .ref a2)]) (1 + i) (by omega) S dX5_tearings_31 3 rfl (by decide) rfl ?_
          refine r_goto S 7 dX5_tearings_34 (by decide) ?_
          refine V.sub [1, 2, 3, 0] rfl ?_
          exact ih7 Gk sf (1 + i) (by omega) hle har (by omega) (fun p p0 p1 => by by_cases e : p = i; rw [e]; exact ⟨fun _ => hz0 i (by omega), fun q => absurd hk15 q⟩; exact hsf p p0 (by omega)) (fun j hj => hz0 j (by omega))
        · skip
          refine r_aaldS hf15 (hle _ _ hpa.1) rfl (by omega) (by omega) (by omega) S dX5_tearings_15 ?_
          refine r_ifnull S dX5_tearings_16 ?_
          refine r_aload_n S dX5_tearings_19 2 rfl ?_
          refine r_iload_n S dX5_tearings_20 3 rfl ?_
          refine r_aload_n S dX5_tearings_21 0 rfl ?_
          refine r_iload_n S dX5_tearings_22 3 rfl ?_
          refine r_aaldS hf15 (hle _ _ hpa.1) rfl (by omega) (by omega) (by omega) S dX5_tearings_23 ?_
          refine r_aload_n S dX5_tearings_24 1 rfl ?_
          refine r_iload_n S dX5_tearings_25 3 rfl ?_
          refine r_iald S (hle _ _ hca) (by omega) (by omega) (by omega) dX5_tearings_26 ?_
          refine (vdH_tearing (n := (cf i)) (hn := ⟨by omega, by omega⟩) (hev := hcfi.2.2) (hh := (hO.mono hO15 (gLe.ext hle))) hok ⟨by omega, by omega⟩ (st := [.int (iI i), .ref a2]) S  ⟨by decide, by decide⟩ ⟨(by show _ ≤ 1; omega), (by show _ ≤ 10; omega)⟩ (Nat.le_of_ble_eq_true rfl) w579 dX5_tearings_27).goL (fun r27 hc27 => ?_)
          refine r_last S hb har hw2 (by omega) (by omega) (by omega) dX5_tearings_30 ?_
          refine k_upd hle hz2 (fun G30 hle30 ho30 hc30 => ?_)
          refine r_iinc_e (L' := [(3, .int (iI (1 + i))), (0, .ref pl), (1, .ref ca), (2, .ref a2)]) (1 + i) (by omega) S dX5_tearings_31 3 rfl (by decide) rfl ?_
          refine r_goto S 7 dX5_tearings_34 (by decide) ?_
          refine V.sub [1, 2, 3, 0] rfl ?_
          exact ih7 G30 (upI sf i r27) (1 + i) (by omega) hle30 (by rw [← upJ]; exact hc30) (by omega) (fun p p0 p1 => by by_cases e : p = i; rw [e, upI_s]; exact ⟨fun q => absurd q hk15, fun _ => hc27⟩; rw [upI_n e]; exact hsf p p0 (by omega)) (fun j hj => by rw [upI_n (by omega)]; exact hz0 j (by omega))
  refine V.sub [2, 3, 1, 0] rfl ?_
  exact L7 _ G2 (fun _ => 0#64) 0 (Nat.lt_succ_self _) hle2 hc2 (by omega) (fun p p0 p1 => by omega) (fun j _ => rfl)

set_option maxRecDepth 20000 in
set_option maxHeartbeats 2000000 in
theorem kX5_rest {D : va_G} {Nm : Nat → Prop} {G : gh} {now nw cf : Int → Int} {sf : Int → BitVec 64} {sm : Int} {a fa ca sa : Nat} (ha : G a = some (eO 5 [.int (iI sm), .ref fa, .ref ca, .ref sa])) (hpl : plA D Nm G now fa) (hok : mOK now) (hca : G ca = some (eI D 10 cf)) (hsa : G sa = some (eJ D 10 (fun j => lB (sf j)))) (hcf : ∀ p : Int, 0 ≤ p → p < 10 → 0 ≤ cf p ∧ cf p ≤ now (10 + p)) (hok2 : mOK nw) (hwt : ∀ p : Int, 0 ≤ p → p < 10 → now p ≠ -1 → cf p ≠ 0 → wtOK now nw p (cf p) (sf p)) (hsame : ∀ p : Int, 0 ≤ p → p < 10 → (now p = -1 ∨ cf p = 0) → agP now nw p) (hN : Nok Nm G) : CT ⟨"PostageCounter$Payment", "rest", "()[LPostageCounter$Plain;"⟩ prog_7_method_3_code 4 (some (.array (.object "PostageCounter$Plain"))) 6 140 11 90 D [.ref a] G ((fun _ => False)) (tR (fun b G' => plA D Nm G' nw b)) := by
  refine CT.enter (by decide +kernel) (Nat.le_of_ble_eq_true rfl) (fun F S ret hb hM hI => ?_)
  show V F 4 G 0 0 0 [(0, .ref a)] []
  obtain ⟨pf, hpa, hpf⟩ := hpl
  refine r_bipush S dX5_rest_0 (by decide) ?_
  refine r_newQ (kk := 0) S hb w652 (by decide) rfl (by omega) (by omega) (by show _ ≤ 11; omega) (by show _ ≤ 90; omega) dX5_rest_2 (fun a2 hn2 hw2 => ?_)
  refine k_new hn2 (fun G2 hl2 hc2 => ?_)
  have hz2 := hn2
  have hle2 := hl2
  refine r_astore_n (L' := [(1, .ref a2), (0, .ref a)]) S dX5_rest_5 (by decide) rfl ?_
  refine r_iconst S dX5_rest_6 ?_
  refine r_istore_n (L' := [(2, .int (iI 0)), (1, .ref a2), (0, .ref a)]) S dX5_rest_7 (by decide) rfl ?_
  have L8 : ∀ (N : Nat) (Gk : gh) (f : Int → Option Nat) (i : Int), (10 - i).toNat < N → (gLe G Gk) → (Gk a2 = some (eQ D 0 10 f)) → (0 ≤ i ∧ i ≤ 10) → (∀ p : Int, 0 ≤ p → p < i → hP D (Np Nm a2) Gk nw p (f p)) → V F 4 Gk (1 + i.toNat) (10 + 8 * i.toNat) 8 [(0, .ref a), (1, .ref a2), (2, .int (iI i))] [] := by
    intro N
    induction N with
    | zero => intro Gk f i hN; exact absurd hN (Nat.not_lt_zero _)
    | succ N ih8 =>
      intro Gk f i hN8 hle har hi hf
      refine r_iload_n S dX5_rest_8 2 rfl ?_
      refine r_bipush S dX5_rest_9 (by decide) ?_
      refine r_icmp_ge S 63 dX5_rest_11 (by decide) (by omega) (by omega) (fun c11 => ?_) (fun c11 => ?_)
      · skip
        refine r_aload_n S dX5_rest_63 1 rfl ?_
        exact ret.tr (by first | exact Or.inl ⟨_, rfl⟩ | exact Or.inr ⟨_, rfl⟩) a2 dX5_rest_64 (by omega) (by omega) ⟨f, ⟨har, hN.new hz2⟩, fun p p0 p1 => (hf p p0 (by omega)).weak (Np_up Nm a2)⟩
      · skip
        have hKi := hok.1 i (by omega) (by omega)
        have hcfi := hcf i (by omega) (by omega)
        refine r_aload_n S dX5_rest_14 0 rfl ?_
        refine r_get S gtX5_15_X5 (hle _ _ ha) rfl dX5_rest_15 ?_
        refine r_iload_n S dX5_rest_18 2 rfl ?_
        rcases hpf i (by omega) (by omega) with ⟨hk19, hf19⟩ | ⟨hk19, b19, hf19, hO19⟩
        · skip
          refine r_aaldN hf19 (hle _ _ hpa.1) rfl (by omega) (by omega) (by omega) S dX5_rest_19 ?_
          refine r_astore_nN (L' := [(3, .null), (0, .ref a), (1, .ref a2), (2, .int (iI i))]) S dX5_rest_20 (by decide) rfl ?_
          refine r_aload_n S dX5_rest_21 2 rfl ?_
          refine r_iload_n S dX5_rest_22 3 rfl ?_
          refine r_aload_nN S dX5_rest_23 0 rfl ?_
          refine r_ifnullN S 36 dX5_rest_24 (by decide) ?_
          refine r_aload_nN S dX5_rest_36 0 rfl ?_
          refine r_goto S 56 dX5_rest_37 (by decide) ?_
          refine r_aastN S hb har rfl hw2 (by omega) (by omega) (by omega) dX5_rest_56 ?_
          refine k_upd hle hz2 (fun G56 hle56 ho56 hc56 => ?_)
          refine r_iinc_e (L' := [(2, .int (iI (1 + i))), (3, .null), (0, .ref a), (1, .ref a2)]) (1 + i) (by omega) S dX5_rest_57 3 rfl (by decide) rfl ?_
          refine r_goto S 8 dX5_rest_60 (by decide) ?_
          refine V.widen (ce' := (1 + (1 + i : Int).toNat)) (sl' := (10 + 8 * (1 + i : Int).toNat)) (by omega) (by omega) ?_
          refine V.sub [2, 3, 0] rfl ?_
          exact ih8 G56 (upI f i none) (1 + i) (by omega) hle56 hc56 (by omega) (fun p p0 p1 => by by_cases e : p = i; rw [e, upI_s]; exact Or.inl ⟨by rw [(hsame i (by omega) (by omega) (Or.inl hk19)).1]; exact hk19, rfl⟩; rw [upI_n e]; exact (hf p p0 (by omega)).mono (gExt.np ho56))
        · skip
          refine r_aaldS hf19 (hle _ _ hpa.1) rfl (by omega) (by omega) (by omega) S dX5_rest_19 ?_
          refine r_astore_n (L' := [(3, .ref b19), (0, .ref a), (1, .ref a2), (2, .int (iI i))]) S dX5_rest_20 (by decide) rfl ?_
          refine r_aload_n S dX5_rest_21 2 rfl ?_
          refine r_iload_n S dX5_rest_22 3 rfl ?_
          refine r_aload_n S dX5_rest_23 0 rfl ?_
          refine r_ifnull S dX5_rest_24 ?_
          refine r_aload_n S dX5_rest_27 1 rfl ?_
          refine r_get S gtX5_19_X5 (hle _ _ ha) rfl dX5_rest_28 ?_
          refine r_iload_n S dX5_rest_31 3 rfl ?_
          refine r_iald S (hle _ _ hca) (by omega) (by omega) (by omega) dX5_rest_32 ?_
          refine r_if_ne S 40 dX5_rest_33 (by decide) (by omega) (fun c33 => ?_) (fun c33 => ?_)
          · skip
            refine r_aload_n S dX5_rest_40 0 rfl ?_
            refine r_aload_n S dX5_rest_41 1 rfl ?_
            refine r_get S gtX5_19_X5 (hle _ _ ha) rfl dX5_rest_42 ?_
            refine r_iload_n S dX5_rest_45 3 rfl ?_
            refine r_iald S (hle _ _ hca) (by omega) (by omega) (by omega) dX5_rest_46 ?_
            refine r_aload_n S dX5_rest_47 1 rfl ?_
            refine r_get S gtX5_23_X5 (hle _ _ ha) rfl dX5_rest_48 ?_
            refine r_iload_n S dX5_rest_51 3 rfl ?_
            refine r_lald S (hle _ _ hsa) (by omega) (by omega) (by omega) dX5_rest_52 ?_
            refine (vdH_without (N := Np Nm a2) (now' := nw) (n := (cf i)) (z := (sf i)) (hn := ⟨by omega, by omega⟩) (hN := hN.np hle har) (hok2 := hok2) (hw := hwt i (by omega) (by omega) hk19 c33) (hh := hO.mono (hO.np hO19 hz2) (gLe.ext hle)) hok ⟨by omega, by omega⟩ (st := [.int (iI i), .ref a2]) S  ⟨by decide, by decide⟩ ⟨(by show _ ≤ 11; omega), (by show _ ≤ 90; omega)⟩ (Nat.le_of_ble_eq_true rfl) w653 dX5_rest_53).goR S hb (fun _ z => z.elim) (fun r53 G53 hx53 hc53 => ?_)
            have hle53 := hle.tr hx53.le
            refine rH_aast S hb (hx53 _ _ har (fun z => z)) hc53 hw2 (by omega) (by omega) (by omega) dX5_rest_56 ?_
            refine k_upd hle53 hz2 (fun G56 hle56 ho56 hc56 => ?_)
            refine r_iinc_e (L' := [(2, .int (iI (1 + i))), (3, .ref b19), (0, .ref a), (1, .ref a2)]) (1 + i) (by omega) S dX5_rest_57 3 rfl (by decide) rfl ?_
            refine r_goto S 8 dX5_rest_60 (by decide) ?_
            refine V.widen (ce' := (1 + (1 + i : Int).toNat)) (sl' := (10 + 8 * (1 + i : Int).toNat)) (by omega) (by omega) ?_
            refine V.sub [2, 3, 0] rfl ?_
            exact ih8 G56 (upI f i (some r53)) (1 + i) (by omega) hle56 hc56 (by omega) (fun p p0 p1 => by by_cases e : p = i; rw [e, upI_s]; exact Or.inr ⟨by rw [(hwt i (by omega) (by omega) hk19 c33).1]; exact hk19, r53, rfl, hc53.mono (gExt.np ho56)⟩; rw [upI_n e]; exact ((hf p p0 (by omega)).mono (gLe.ext hx53.le)).mono (gExt.np ho56))
          · skip
            refine r_aload_n S dX5_rest_36 0 rfl ?_
            refine r_goto S 56 dX5_rest_37 (by decide) ?_
            refine rH_aast S hb har (hO.mono hO19 (gLe.ext hle)) hw2 (by omega) (by omega) (by omega) dX5_rest_56 ?_
            refine k_upd hle hz2 (fun G56 hle56 ho56 hc56 => ?_)
            refine r_iinc_e (L' := [(2, .int (iI (1 + i))), (3, .ref b19), (0, .ref a), (1, .ref a2)]) (1 + i) (by omega) S dX5_rest_57 3 rfl (by decide) rfl ?_
            refine r_goto S 8 dX5_rest_60 (by decide) ?_
            refine V.widen (ce' := (1 + (1 + i : Int).toNat)) (sl' := (10 + 8 * (1 + i : Int).toNat)) (by omega) (by omega) ?_
            refine V.sub [2, 3, 0] rfl ?_
            exact ih8 G56 (upI f i (some b19)) (1 + i) (by omega) hle56 hc56 (by omega) (fun p p0 p1 => by by_cases e : p = i; rw [e, upI_s]; exact ((((hpf i (by omega) (by omega)).cong hok.1 ⟨by omega, by omega⟩ (hsame i (by omega) (by omega) (Or.inr c33))).np hz2).mono (gLe.ext hle)).mono (gExt.np ho56) |> fun q => hf19 ▸ q; rw [upI_n e]; exact (hf p p0 (by omega)).mono (gExt.np ho56))
  refine V.widen (ce' := (1 + (0 : Int).toNat)) (sl' := (10 + 8 * (0 : Int).toNat)) (by omega) (by omega) ?_
  refine V.sub [2, 1, 0] rfl ?_
  exact L8 _ G2 (fun _ => none) 0 (Nat.lt_succ_self _) hle2 hc2 (by omega) (fun p p0 p1 => by omega)
