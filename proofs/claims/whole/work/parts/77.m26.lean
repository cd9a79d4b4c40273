set_option maxRecDepth 20000 in
set_option maxHeartbeats 2000000 in
theorem kX7_withLetter {D : va_G} {Nm : Nat → Prop} {G : gh} {now : Int → Int} {a : Nat} (hst : stO D Nm G now a) (hok : mOK now) (hN : Nok Nm G) {now' : Int → Int} {bl : Nat} {v0 : List Value} (hbl : G bl = some (eO 2 v0)) (hbo : ltO D Nm G now' (now 1286) bl (fun _ => 0)) (h86 : now' 1286 = 1 + now 1286) (hag : ∀ l : Int, 0 ≤ l → l < now 1286 → agL now now' l) (hg : ∀ fc : Int, 1 ≤ fc → fc ≤ 500 → now' (3327 + fc) = now (3327 + fc)) (hsm : ∀ j : Int, j < 1286 → now' j = now j) : CT ⟨"PostageCounter$State", "withLetter", "(LPostageCounter$Letter;)LPostageCounter$State;"⟩ prog_9_method_5_code 4 (some (.object "PostageCounter$State")) 2 44 2 70 D [.ref a, .ref bl] G ((fun _ => False)) (tR (fun b G' => stO D Nm G' now' b)) := by
  refine CT.enter (by decide +kernel) (Nat.le_of_ble_eq_true rfl) (fun F S ret hb hM hI => ?_)
  show V F 4 G 0 0 0 [(0, .ref a), (1, .ref bl)] []
  obtain ⟨pa, la, wa, ea, h1, hpl0, hle0_, hwy0, hex0⟩ := hst
  obtain ⟨lf, gl, hla, hlf, hgl⟩ := hle0_
  have hn86 : 0 ≤ now 1286 ∧ now 1286 ≤ 60 := ⟨hok.2.2.2.2.2.2.1.1, hok.2.2.2.2.2.2.1.2.1⟩
  refine r_aload_n S dX7_withLetter_0 0 rfl ?_
  refine r_get S gtX7_15_X7 h1.1 rfl dX7_withLetter_1 ?_
  refine r_alenQ S hla.1 rfl dX7_withLetter_4 ?_
  rw [show (((now 1286).toNat : Nat) : Int) = now 1286 from Int.toNat_of_nonneg hn86.1]
  refine r_iconst S dX7_withLetter_5 ?_
  refine r_iadd_e (1 + now 1286) (by omega) S dX7_withLetter_6 ?_
  refine r_newQ (kk := 1) S hb w509 (by decide) rfl (by omega) (by omega) (by show _ ≤ 2; omega) (by show _ ≤ 70; omega) dX7_withLetter_7 (fun a7 hn7 hw7 => ?_)
  refine k_new hn7 (fun G7 hl7 hc7 => ?_)
  have hz7 := hn7
  have hle7 := hl7
  refine r_astore_n (L' := [(2, .ref a7), (0, .ref a), (1, .ref bl)]) S dX7_withLetter_10 (by decide) rfl ?_
  refine r_iconst S dX7_withLetter_11 ?_
  refine r_istore_n (L' := [(3, .int (iI 0)), (2, .ref a7), (0, .ref a), (1, .ref bl)]) S dX7_withLetter_12 (by decide) rfl ?_
  have L13 : ∀ (N : Nat) (Gk : gh) (f : Int → Option Nat) (i : Int), (now 1286 - i).toNat < N → (gLe G Gk) → (Gk a7 = some (eQ D 1 (1 + now 1286).toNat f)) → (0 ≤ i ∧ i ≤ now 1286) → (∀ j : Int, 0 ≤ j → j < i → f j = lf j) → V F 4 Gk 1 (1 + now 1286).toNat 13 [(0, .ref a), (1, .ref bl), (2, .ref a7), (3, .int (iI i))] [] := by
    intro N
    induction N with
    | zero => intro Gk f i hN; exact absurd hN (Nat.not_lt_zero _)
    | succ N ih13 =>
      intro Gk f i hN13 hle har hi hf
      refine r_iload_n S dX7_withLetter_13 3 rfl ?_
      refine r_aload_n S dX7_withLetter_14 0 rfl ?_
      refine r_get S gtX7_15_X7 (hle _ _ h1.1) rfl dX7_withLetter_15 ?_
      refine r_alenQ S (hle _ _ hla.1) rfl dX7_withLetter_18 ?_
      rw [show (((now 1286).toNat : Nat) : Int) = now 1286 from Int.toNat_of_nonneg hn86.1]
      refine r_icmp_ge S 37 dX7_withLetter_19 (by decide) (by omega) (by omega) (fun c19 => ?_) (fun c19 => ?_)
      · skip
        refine r_aload_n S dX7_withLetter_37 2 rfl ?_
        refine r_aload_n S dX7_withLetter_38 0 rfl ?_
        refine r_get S gtX7_15_X7 (hle _ _ h1.1) rfl dX7_withLetter_39 ?_
        refine r_alenQ S (hle _ _ hla.1) rfl dX7_withLetter_42 ?_
        rw [show (((now 1286).toNat : Nat) : Int) = now 1286 from Int.toNat_of_nonneg hn86.1]
        refine r_aload_n S dX7_withLetter_43 1 rfl ?_
        refine r_aast S hb har (hle _ _ hbl) ⟨_, rfl, by decide⟩ rfl hw7 (by omega) (by omega) (by omega) dX7_withLetter_44 ?_
        refine k_upd hle hz7 (fun G44 hle44 ho44 hc44 => ?_)
        refine r_new S hb nwX7_10 (by show _ ≤ 2; omega) (by show _ ≤ 70; omega) dX7_withLetter_45 (fun a45 hn45 hw45 => ?_)
        refine k_new hn45 (fun G45 hl45 hc45 => ?_)
        have hz45 := hle44.non hn45
        have hle45 := hle44.tr hl45
        have ne_a7_a45 : a7 ≠ a45 := gLe.ne hn45 hc44
        refine r_dup S dX7_withLetter_48 ?_
        refine r_aload_n S dX7_withLetter_49 0 rfl ?_
        refine r_get S gtX7_9_X7 (hle45 _ _ h1.1) rfl dX7_withLetter_50 ?_
        refine r_aload_n S dX7_withLetter_53 2 rfl ?_
        refine r_aload_n S dX7_withLetter_54 0 rfl ?_
        refine r_get S gtX7_19_X7 (hle45 _ _ h1.1) rfl dX7_withLetter_55 ?_
        refine r_aload_n S dX7_withLetter_58 0 rfl ?_
        refine r_get S gtX7_23_X7 (hle45 _ _ h1.1) rfl dX7_withLetter_59 ?_
        refine (c_I_T (As := [.ref pa, .ref a7, .ref wa, .ref ea]) (st := [.ref a45]) (M1 := fun x => x = a45) S (kX7_init hc45) moX7_init ⟨by decide, by decide⟩ ⟨(by show _ ≤ 2; omega), (by show _ ≤ 70; omega)⟩ rfl (Nat.le_of_ble_eq_true rfl) w200 w107 rfl rfl dX7_withLetter_62).goV S hb (fun x e => e ▸ hw45) (fun G62 hx62 hc62 => ?_)
        have hle62 := gLe.one hle45 hz45 hx62
        exact ret.tr (by first | exact Or.inl ⟨_, rfl⟩ | exact Or.inr ⟨_, rfl⟩) a45 dX7_withLetter_65 (by omega) (by omega) ⟨pa, a7, wa, ea, ⟨hc62, hN.new hz45⟩, (hpl0.cong hok.1 (fun j hj => hsm j (by omega))).mono (gLe.ext hle62), leA_more hn86.1 ⟨(hx62 _ _ (hl45 _ _ hc44) ne_a7_a45), hN.new hz7⟩ (by omega) hlf hgl (gLe.ext hle62) (fun j j0 j1 => by by_cases e : j = now 1286; rw [e, upI_s, if_pos rfl]; rw [upI_n e, if_neg e]; exact hf j j0 (by omega)) hbo h86 hag hg, (hwy0.cong hok.2.2.2.2.1 (fun j j0 j1 => hsm j (by omega))).mono (gLe.ext hle62), (hex0.cong (fun k k0 k1 => hsm _ (by omega))).mono (gLe.ext hle62)⟩
      · skip
        refine r_aload_n S dX7_withLetter_22 2 rfl ?_
        refine r_iload_n S dX7_withLetter_23 3 rfl ?_
        refine r_aload_n S dX7_withLetter_24 0 rfl ?_
        refine r_get S gtX7_15_X7 (hle _ _ h1.1) rfl dX7_withLetter_25 ?_
        refine r_iload_n S dX7_withLetter_28 3 rfl ?_
        obtain ⟨b29, hf29, hO29⟩ := hlf i (by omega) (by omega)
        obtain ⟨x29, hv29⟩ := hO29.obj
        refine r_aaldS hf29 (hle _ _ hla.1) rfl (by omega) (by omega) (by omega) S dX7_withLetter_29 ?_
        refine r_aast S hb har (hle _ _ hv29.1) ⟨_, rfl, by decide⟩ rfl hw7 (by omega) (by omega) (by omega) dX7_withLetter_30 ?_
        refine k_upd hle hz7 (fun G30 hle30 ho30 hc30 => ?_)
        refine r_iinc_e (L' := [(3, .int (iI (1 + i))), (0, .ref a), (1, .ref bl), (2, .ref a7)]) (1 + i) (by omega) S dX7_withLetter_31 3 rfl (by decide) rfl ?_
        refine r_goto S 13 dX7_withLetter_34 (by decide) ?_
        refine V.widen (ce' := 1) (sl' := (1 + now 1286).toNat) (by omega) (by omega) ?_
        refine V.sub [1, 2, 3, 0] rfl ?_
        exact ih13 G30 (upI f i (some b29)) (1 + i) (by omega) hle30 hc30 (by omega) (fun j j0 j1 => by by_cases e : j = i; rw [e, upI_s, hf29]; rw [upI_n e]; exact hf j j0 (by omega))
  refine V.widen (ce' := 1) (sl' := (1 + now 1286).toNat) (by omega) (by omega) ?_
  refine V.sub [2, 3, 1, 0] rfl ?_
  exact L13 _ G7 (fun _ => none) 0 (Nat.lt_succ_self _) hle7 hc7 (by omega) (fun j j0 j1 => by omega)

set_option maxRecDepth 20000 in
set_option maxHeartbeats 2000000 in
theorem kX7_withPayment {D : va_G} {Nm : Nat → Prop} {G : gh} {now : Int → Int} {a : Nat} (hst : stO D Nm G now a) (hok : mOK now) (hN : Nok Nm G) {now0 : Int → Int} {nw cf g : Int → Int} {sf : Int → BitVec 64} {sm l : Int} {pb fa ca sa : Nat} (hl : 0 ≤ l ∧ l < now 1286) (hpb : Im Nm G pb (eO 5 [.int (iI sm), .ref fa, .ref ca, .ref sa])) (hpla : plA D Nm G now0 fa) (hok0 : mOK now0) (hca : Im Nm G ca (eI D 10 cf)) (hsa : Im Nm G sa (eJ D 10 (fun j => lB (sf j)))) (hcf : ∀ p : Int, 0 ≤ p → p < 10 → 0 ≤ cf p ∧ cf p ≤ now0 (10 + p)) (hok2 : mOK nw) (hwt : ∀ p : Int, 0 ≤ p → p < 10 → now0 p ≠ -1 → cf p ≠ 0 → wtOK now0 nw p (cf p) (sf p)) (hsame : ∀ p : Int, 0 ≤ p → p < 10 → (now0 p = -1 ∨ cf p = 0) → agP now0 nw p) (hpy : pyO D Nm G nw l pb g) (his : nw (1467 + l) = 1) (hpr : nw (1287 + l) = now (1287 + l)) (h0 : now (1467 + l) = 0) (h86 : nw 1286 = now 1286) (hag : ∀ j : Int, 0 ≤ j → j < now 1286 → j ≠ l → agL now nw j) (hg : ∀ fc : Int, 1 ≤ fc → fc ≤ 500 → nw (3327 + fc) = now (3327 + fc) + g fc) (hsm : ∀ j : Int, 1180 ≤ j → j < 1286 → nw j = now j) : CT ⟨"PostageCounter$State", "withPayment", "(ILPostageCounter$Payment;)LPostageCounter$State;"⟩ prog_9_method_6_code 5 (some (.object "PostageCounter$State")) 7 163 80 300 D [.ref a, .int (iI l), .ref pb] G ((fun _ => False)) (tR (fun b G' => stO D Nm G' nw b)) := by
  refine CT.enter (by decide +kernel) (Nat.le_of_ble_eq_true rfl) (fun F S ret hb hM hI => ?_)
  show V F 5 G 0 0 0 [(0, .ref a), (1, .int (iI l)), (2, .ref pb)] []
  obtain ⟨pa, la, wa, ea, h1, hpl0, hle0_, hwy0, hex0⟩ := hst
  obtain ⟨lf, gl, hla, hlf, hgl⟩ := hle0_
  have hn86 : 0 ≤ now 1286 ∧ now 1286 ≤ 60 := ⟨hok.2.2.2.2.2.2.1.1, hok.2.2.2.2.2.2.1.2.1⟩
  refine r_aload_n S dX7_withPayment_0 0 rfl ?_
  refine r_get S gtX7_15_X7 h1.1 rfl dX7_withPayment_1 ?_
  refine r_alenQ S hla.1 rfl dX7_withPayment_4 ?_
  rw [show (((now 1286).toNat : Nat) : Int) = now 1286 from Int.toNat_of_nonneg hn86.1]
  refine r_newQ (kk := 1) S hb w509 (by decide) rfl (by omega) (by omega) (by show _ ≤ 80; omega) (by show _ ≤ 300; omega) dX7_withPayment_5 (fun a5 hn5 hw5 => ?_)
  refine k_new hn5 (fun G5 hl5 hc5 => ?_)
  have hz5 := hn5
  have hle5 := hl5
  refine r_astore_n (L' := [(3, .ref a5), (0, .ref a), (1, .int (iI l)), (2, .ref pb)]) S dX7_withPayment_8 (by decide) rfl ?_
  refine r_iconst S dX7_withPayment_9 ?_
  refine r_istore (L' := [(4, .int (iI 0)), (3, .ref a5), (0, .ref a), (1, .int (iI l)), (2, .ref pb)]) S dX7_withPayment_10 (by decide) rfl ?_
  have L12 : ∀ (N : Nat) (Gk : gh) (f : Int → Option Nat) (i : Int), (now 1286 - i).toNat < N → (gLe G Gk) → (Gk a5 = some (eQ D 1 (now 1286).toNat f)) → (0 ≤ i ∧ i ≤ now 1286) → (∀ j : Int, 0 ≤ j → j < i → j ≠ l → f j = lf j) → (nlP G Gk f l i a5 pb (now (1287 + l))) → V F 5 Gk (1 + i.toNat) ((now 1286).toNat + 2 * i.toNat) 12 [(0, .ref a), (1, .int (iI l)), (2, .ref pb), (3, .ref a5), (4, .int (iI i))] [] := by
    intro N
    induction N with
    | zero => intro Gk f i hN; exact absurd hN (Nat.not_lt_zero _)
    | succ N ih12 =>
      intro Gk f i hN12 hle har hi hf hnl
      refine r_iload S dX7_withPayment_12 4 rfl ?_
      refine r_aload_n S dX7_withPayment_14 0 rfl ?_
      refine r_get S gtX7_15_X7 (hle _ _ h1.1) rfl dX7_withPayment_15 ?_
      refine r_alenQ S (hle _ _ hla.1) rfl dX7_withPayment_18 ?_
      rw [show (((now 1286).toNat : Nat) : Int) = now 1286 from Int.toNat_of_nonneg hn86.1]
      refine r_icmp_ge S 66 dX7_withPayment_19 (by decide) (by omega) (by omega) (fun c19 => ?_) (fun c19 => ?_)
      · skip
        obtain ⟨bl, hbf, hbz, hba, hbl⟩ := hnl (by omega)
        refine r_new S hb nwX7_10 (by show _ ≤ 80; omega) (by show _ ≤ 300; omega) dX7_withPayment_66 (fun a66 hn66 hw66 => ?_)
        refine k_new hn66 (fun G66 hl66 hc66 => ?_)
        have hz66 := hle.non hn66
        have hle66 := hle.tr hl66
        have ne_a5_a66 : a5 ≠ a66 := gLe.ne hn66 har
        have ne_bl_a66 : bl ≠ a66 := gLe.ne hn66 hbl
        refine r_dup S dX7_withPayment_69 ?_
        refine r_aload_n S dX7_withPayment_70 2 rfl ?_
        refine (c_V_T (As := []) (st := [.ref a66, .ref a66]) S (kX5_rest (Nm := Np Nm a66) (hle66 _ _ hpb.1) ((hpla.mono (gLe.ext hle)).np hn66 |>.mono (gLe.ext hl66)) hok0 (hle66 _ _ hca.1) (hle66 _ _ hsa.1) hcf hok2 hwt hsame (hN.np hle66 hc66)) moX5_rest ⟨by decide, by decide⟩ ⟨(by show _ ≤ 80; omega), (by show _ ≤ 300; omega)⟩ rfl (Nat.le_of_ble_eq_true rfl) w648 w649 w650 (hle66 _ _ hpb.1) rfl rfl dX7_withPayment_71).goR S hb (fun _ z => z.elim) (fun r71 G71 hx71 hc71 => ?_)
        have hle71 := hle66.tr hx71.le
        refine r_aload_n S dX7_withPayment_74 3 rfl ?_
        refine r_aload_n S dX7_withPayment_75 0 rfl ?_
        refine r_get S gtX7_19_X7 (hle71 _ _ h1.1) rfl dX7_withPayment_76 ?_
        refine r_aload_n S dX7_withPayment_79 0 rfl ?_
        refine r_get S gtX7_23_X7 (hle71 _ _ h1.1) rfl dX7_withPayment_80 ?_
        refine (c_I_T (As := [.ref r71, .ref a5, .ref wa, .ref ea]) (st := [.ref a66]) (M1 := fun x => x = a66) S (kX7_init (hx71 _ _ hc66 (fun z => z))) moX7_init ⟨by decide, by decide⟩ ⟨(by show _ ≤ 80; omega), (by show _ ≤ 300; omega)⟩ rfl (Nat.le_of_ble_eq_true rfl) w200 w107 rfl rfl dX7_withPayment_83).goV S hb (fun x e => e ▸ hw66) (fun G83 hx83 hc83 => ?_)
        have hle83 := gLe.one hle71 hz66 hx83
        exact ret.tr (by first | exact Or.inl ⟨_, rfl⟩ | exact Or.inr ⟨_, rfl⟩) a66 dX7_withPayment_86 (by omega) (by omega) ⟨r71, a5, wa, ea, ⟨hc83, hN.new hz66⟩, (hc71.mono (gExt.up hx83 (fun _ z => Or.inr z))).weak (Np_up Nm a66), leA_paid ⟨(hx83 _ _ (hx71 _ _ (hl66 _ _ har) (fun z => z)) ne_a5_a66), hN.new hz5⟩ hlf hgl (gLe.ext hle83) hl (fun j j0 j1 => by by_cases e : j = l; rw [if_pos e, e]; exact hbf; rw [if_neg e]; exact hf j j0 (by omega) e) (Or.inr ⟨his, pb, ⟨by rw [hpr]; exact (hx83 _ _ (hx71 _ _ (hl66 _ _ hbl) (fun z => z)) ne_bl_a66), hN.new hbz⟩, hpy.mono (gLe.ext hle83)⟩) h86 hag h0 hg, (hwy0.cong hok.2.2.2.2.1 (fun j j0 j1 => hsm j (by omega) (by omega))).mono (gLe.ext hle83), (hex0.cong (fun k k0 k1 => hsm _ (by omega) (by omega))).mono (gLe.ext hle83)⟩
      · skip
        refine r_aload_n S dX7_withPayment_22 3 rfl ?_
        refine r_iload S dX7_withPayment_23 4 rfl ?_
        refine r_iload S dX7_withPayment_25 4 rfl ?_
        refine r_iload_n S dX7_withPayment_27 1 rfl ?_
        refine r_icmp_ne S 52 dX7_withPayment_28 (by decide) (by omega) (by omega) (fun c28 => ?_) (fun c28 => ?_)
        · skip
          refine r_aload_n S dX7_withPayment_52 0 rfl ?_
          refine r_get S gtX7_15_X7 (hle _ _ h1.1) rfl dX7_withPayment_53 ?_
          refine r_iload S dX7_withPayment_56 4 rfl ?_
          obtain ⟨b58, hf58, hO58⟩ := hlf i (by omega) (by omega)
          obtain ⟨x58, hv58⟩ := hO58.obj
          refine r_aaldS hf58 (hle _ _ hla.1) rfl (by omega) (by omega) (by omega) S dX7_withPayment_58 ?_
          refine r_aast S hb har (hle _ _ hv58.1) ⟨_, rfl, by decide⟩ rfl hw5 (by omega) (by omega) (by omega) dX7_withPayment_59 ?_
          refine k_upd hle hz5 (fun G59 hle59 ho59 hc59 => ?_)
          refine r_iinc_e (L' := [(4, .int (iI (1 + i))), (0, .ref a), (1, .int (iI l)), (2, .ref pb), (3, .ref a5)]) (1 + i) (by omega) S dX7_withPayment_60 4 rfl (by decide) rfl ?_
          refine r_goto S 12 dX7_withPayment_63 (by decide) ?_
          refine V.widen (ce' := (1 + (1 + i : Int).toNat)) (sl' := ((now 1286).toNat + 2 * (1 + i : Int).toNat)) (by omega) (by omega) ?_
          refine V.sub [1, 2, 3, 4, 0] rfl ?_
          exact ih12 G59 (upI f i (some b58)) (1 + i) (by omega) hle59 hc59 (by omega) (fun j j0 j1 j2 => by by_cases e : j = i; rw [e, upI_s, hf58]; rw [upI_n e]; exact hf j j0 (by omega) j2) (fun h => by obtain ⟨bl, h1, h2, h3, h4⟩ := hnl (by omega); exact ⟨bl, by rw [upI_n (by omega)]; exact h1, h2, h3, ho59 _ _ h3 h4⟩)
        · skip
          refine r_new S hb nwX7_34 (by show _ ≤ 80; omega) (by show _ ≤ 300; omega) dX7_withPayment_31 (fun a31 hn31 hw31 => ?_)
          refine k_new hn31 (fun G31 hl31 hc31 => ?_)
          have hz31 := hle.non hn31
          have hle31 := hle.tr hl31
          have ne_a5_a31 : a5 ≠ a31 := gLe.ne hn31 har
          refine r_dup S dX7_withPayment_34 ?_
          refine r_aload_n S dX7_withPayment_35 0 rfl ?_
          refine r_get S gtX7_15_X7 (hle31 _ _ h1.1) rfl dX7_withPayment_36 ?_
          refine r_iload S dX7_withPayment_39 4 rfl ?_
          obtain ⟨b41, hf41, hO41⟩ := hlf i (by omega) (by omega)
          obtain ⟨x41, hv41⟩ := hO41.obj
          refine r_aaldS hf41 (hle31 _ _ hla.1) rfl (by omega) (by omega) (by omega) S dX7_withPayment_41 ?_
          refine r_get S gtX7_36_X2 (hle31 _ _ hv41.1) rfl dX7_withPayment_42 ?_
          refine r_aload_n S dX7_withPayment_45 2 rfl ?_
          refine (c_I_T (As := [.int (iI (now (1287 + i))), .ref pb]) (st := [.ref a31, .int (iI i), .ref a5]) (M1 := fun x => x = a31) S (kX2_init hc31) moX2_init ⟨by decide, by decide⟩ ⟨(by show _ ≤ 80; omega), (by show _ ≤ 300; omega)⟩ rfl (Nat.le_of_ble_eq_true rfl) w647 w492 rfl rfl dX7_withPayment_46).goV S hb (fun x e => e ▸ hw31) (fun G46 hx46 hc46 => ?_)
          have hle46 := gLe.one hle31 hz31 hx46
          refine r_goto S 59 dX7_withPayment_49 (by decide) ?_
          refine r_aast S hb (hx46 _ _ (hl31 _ _ har) ne_a5_a31) hc46 ⟨_, rfl, by decide⟩ rfl hw5 (by omega) (by omega) (by omega) dX7_withPayment_59 ?_
          refine k_upd hle46 hz5 (fun G59 hle59 ho59 hc59 => ?_)
          refine r_iinc_e (L' := [(4, .int (iI (1 + i))), (0, .ref a), (1, .int (iI l)), (2, .ref pb), (3, .ref a5)]) (1 + i) (by omega) S dX7_withPayment_60 4 rfl (by decide) rfl ?_
          refine r_goto S 12 dX7_withPayment_63 (by decide) ?_
          refine V.widen (ce' := (1 + (1 + i : Int).toNat)) (sl' := ((now 1286).toNat + 2 * (1 + i : Int).toNat)) (by omega) (by omega) ?_
          refine V.sub [1, 2, 3, 4, 0] rfl ?_
          exact ih12 G59 (upI f i (some a31)) (1 + i) (by omega) hle59 hc59 (by omega) (fun j j0 j1 j2 => by rw [upI_n (by omega)]; exact hf j j0 (by omega) j2) (fun _ => ⟨a31, by rw [show l = i by omega, upI_s], hz31, Ne.symm ne_a5_a31, by rw [show (1287 + l : Int) = 1287 + i by omega]; exact (ho59 _ _ (Ne.symm ne_a5_a31) hc46)⟩)
  refine V.widen (ce' := (1 + (0 : Int).toNat)) (sl' := ((now 1286).toNat + 2 * (0 : Int).toNat)) (by omega) (by omega) ?_
  refine V.sub [2, 3, 4, 1, 0] rfl ?_
  exact L12 _ G5 (fun _ => none) 0 (Nat.lt_succ_self _) hle5 hc5 (by omega) (fun j j0 j1 => by omega) (fun h => by omega)
