set_option maxRecDepth 20000 in
set_option maxHeartbeats 2000000 in
theorem kX10_isPlace {D : va_G} {G : gh} {a : Int} (ha : inR a) : CP ⟨"PostageCounter", "isPlace", "(I)Z"⟩ prog_1_method_26_code 1 (some .boolean) 1 22 D [.int (iI a)] G (pI (fun z => (z = 1 ∧ (0 ≤ a ∧ a ≤ 9)) ∨ (z = 0 ∧ ¬ (0 ≤ a ∧ a ≤ 9)))) := by
  refine CP.enter (by decide +kernel) (Nat.le_of_ble_eq_true rfl) (fun F S ret => ?_)
  show V F 1 G 0 0 0 [(0, .int (iI a))] []
  refine r_iload_n S dX10_isPlace_0 0 rfl ?_
  refine r_iconst S dX10_isPlace_1 ?_
  refine r_bipush S dX10_isPlace_2 (by decide) ?_
  refine (c_S_P (As := [.int (iI a), .int (iI 0), .int (iI 9)]) (st := []) S (kX10_within (by omega) (by omega) (by omega)) moX10_within ⟨by decide, by decide⟩ ⟨by omega, by omega⟩ rfl (Nat.le_of_ble_eq_true rfl) w154 w155 rfl dX10_isPlace_4).goI (fun r4 hc4 => ?_)
  exact ret.z r4 dX10_isPlace_7 (by omega) (by omega)

set_option maxRecDepth 20000 in
set_option maxHeartbeats 2000000 in
theorem kX10_isFace {D : va_G} {G : gh} {a : Int} (ha : inR a) : CP ⟨"PostageCounter", "isFace", "(I)Z"⟩ prog_1_method_27_code 1 (some .boolean) 1 22 D [.int (iI a)] G (pI (fun z => (z = 1 ∧ (1 ≤ a ∧ a ≤ 500)) ∨ (z = 0 ∧ ¬ (1 ≤ a ∧ a ≤ 500)))) := by
  refine CP.enter (by decide +kernel) (Nat.le_of_ble_eq_true rfl) (fun F S ret => ?_)
  show V F 1 G 0 0 0 [(0, .int (iI a))] []
  refine r_iload_n S dX10_isFace_0 0 rfl ?_
  refine r_iconst S dX10_isFace_1 ?_
  refine r_sipush S dX10_isFace_2 (by decide) ?_
  refine (c_S_P (As := [.int (iI a), .int (iI 1), .int (iI 500)]) (st := []) S (kX10_within (by omega) (by omega) (by omega)) moX10_within ⟨by decide, by decide⟩ ⟨by omega, by omega⟩ rfl (Nat.le_of_ble_eq_true rfl) w154 w155 rfl dX10_isFace_5).goI (fun r5 hc5 => ?_)
  exact ret.z r5 dX10_isFace_8 (by omega) (by omega)

set_option maxRecDepth 20000 in
set_option maxHeartbeats 2000000 in
theorem kX10_isWay {D : va_G} {G : gh} {a : Int} (ha : inR a) : CP ⟨"PostageCounter", "isWay", "(I)Z"⟩ prog_1_method_28_code 1 (some .boolean) 1 22 D [.int (iI a)] G (pI (fun z => (z = 1 ∧ (0 ≤ a ∧ a ≤ 5)) ∨ (z = 0 ∧ ¬ (0 ≤ a ∧ a ≤ 5)))) := by
  refine CP.enter (by decide +kernel) (Nat.le_of_ble_eq_true rfl) (fun F S ret => ?_)
  show V F 1 G 0 0 0 [(0, .int (iI a))] []
  refine r_iload_n S dX10_isWay_0 0 rfl ?_
  refine r_iconst S dX10_isWay_1 ?_
  refine r_iconst S dX10_isWay_2 ?_
  refine (c_S_P (As := [.int (iI a), .int (iI 0), .int (iI 5)]) (st := []) S (kX10_within (by omega) (by omega) (by omega)) moX10_within ⟨by decide, by decide⟩ ⟨by omega, by omega⟩ rfl (Nat.le_of_ble_eq_true rfl) w154 w155 rfl dX10_isWay_3).goI (fun r3 hc3 => ?_)
  exact ret.z r3 dX10_isWay_6 (by omega) (by omega)

set_option maxRecDepth 20000 in
set_option maxHeartbeats 2000000 in
theorem kX10_isWeight {D : va_G} {G : gh} {w : UInt32} : CP ⟨"PostageCounter", "isWeight", "(F)Z"⟩ prog_1_method_30_code 1 (some .boolean) 0 0 D [.float w] G (pI (fun z => (z = 1 ∧ wOK w) ∨ (z = 0 ∧ ¬ wOK w))) := by
  refine CP.enter (by decide +kernel) (Nat.le_of_ble_eq_true rfl) (fun F S ret => ?_)
  show V F 1 G 0 0 0 [(0, .float w)] []
  have hR1 := fcL_R w FP.fconst0
  have hR2 := fcG_R w 1232348160
  refine r_fload_n S dX10_isWeight_0 0 rfl ?_
  refine r_fconst0 S dX10_isWeight_1 ?_
  refine r_fcL S dX10_isWeight_2 (fun hR2 => ?_)
  refine r_if_lt S 18 dX10_isWeight_3 (by decide) (by omega) (fun c3 => ?_) (fun c3 => ?_)
  · skip
    refine r_iconst S dX10_isWeight_18 ?_
    exact ret.z 0 dX10_isWeight_19 (by omega) (Or.inr ⟨rfl, fun h => by have := h.1; have := h.2; omega⟩)
  · skip
    refine r_fload_n S dX10_isWeight_6 0 rfl ?_
    refine r_ldcfw w469 S dX10_isWeight_7 ?_
    refine r_fcG S dX10_isWeight_10 (fun hR10 => ?_)
    refine r_if_gt S 18 dX10_isWeight_11 (by decide) (by omega) (fun c11 => ?_) (fun c11 => ?_)
    · skip
      refine r_iconst S dX10_isWeight_18 ?_
      exact ret.z 0 dX10_isWeight_19 (by omega) (Or.inr ⟨rfl, fun h => by have := h.1; have := h.2; omega⟩)
    · skip
      refine r_iconst S dX10_isWeight_14 ?_
      refine r_goto S 19 dX10_isWeight_15 (by decide) ?_
      exact ret.z 1 dX10_isWeight_19 (by omega) (Or.inl ⟨rfl, ⟨by omega, by omega⟩⟩)

set_option maxRecDepth 20000 in
set_option maxHeartbeats 2000000 in
theorem kX10_wholeGrams {D : va_G} {G : gh} {w : UInt32} : CP ⟨"PostageCounter", "wholeGrams", "(F)I"⟩ prog_1_method_31_code 2 (some .int) 0 0 D [.float w] G (pI (fun z => z = wholeF w)) := by
  refine CP.enter (by decide +kernel) (Nat.le_of_ble_eq_true rfl) (fun F S ret => ?_)
  show V F 2 G 0 0 0 [(0, .float w)] []
  have hR1 := fI_R w
  have hR2 := fcG_R (fF (fI w)) w
  refine r_fload_n S dX10_wholeGrams_0 0 rfl ?_
  refine r_f2i S dX10_wholeGrams_1 ?_
  refine r_istore_n (L' := [(1, .int (iI (fI w))), (0, .float w)]) S dX10_wholeGrams_2 (by decide) rfl ?_
  refine r_iload_n S dX10_wholeGrams_3 0 rfl ?_
  refine r_i2f S dX10_wholeGrams_4 ?_
  refine r_fload_n S dX10_wholeGrams_5 1 rfl ?_
  refine r_fcG S dX10_wholeGrams_6 (fun hR6 => ?_)
  refine r_if_ge S 16 dX10_wholeGrams_7 (by decide) (by omega) (fun c7 => ?_) (fun c7 => ?_)
  · skip
    refine r_iload_n S dX10_wholeGrams_16 0 rfl ?_
    exact ret.i (fI w) dX10_wholeGrams_17 (by unfold wholeF; rw [if_neg (by omega)])
  · skip
    refine r_iload_n S dX10_wholeGrams_10 0 rfl ?_
    refine r_iconst S dX10_wholeGrams_11 ?_
    refine r_iadd_e (1 + fI w) (by omega) S dX10_wholeGrams_12 ?_
    refine r_nm ?_
    refine r_goto S 17 dX10_wholeGrams_13 (by decide) ?_
    exact ret.i (iT (1 + fI w)) dX10_wholeGrams_17 (by unfold wholeF; rw [if_pos (by omega)])

set_option maxRecDepth 20000 in
set_option maxHeartbeats 2000000 in
theorem kX10_isLetter {D : va_G} {N0 : Nat → Prop} {B : Nat → Nat} {km rd : Int} {now reel : Int → Int} {hist : Int → Int → Int} {G : gh} (hq : cQ D N0 B now hist km rd reel G) (hok : mOK now) {l : Int} (hl : inR l) : CP ⟨"PostageCounter", "isLetter", "(I)Z"⟩ prog_1_method_29_code 2 (some .boolean) 1 22 D [.ref (B 0), .int (iI l)] G (pI (fun z => (z = 1 ∧ (0 ≤ l ∧ l < now 1286)) ∨ (z = 0 ∧ ¬ (0 ≤ l ∧ l < now 1286)))) := by
  refine CP.enter (by decide +kernel) (Nat.le_of_ble_eq_true rfl) (fun F S ret => ?_)
  show V F 2 G 0 0 0 [(0, .ref (B 0)), (1, .int (iI l))] []
  obtain ⟨rf, sa, bf, row, most, hcs, hst, hbf, hrf, hmost⟩ := hq
  obtain ⟨pa, la, wa, ea, h1, ⟨pf, hpa, hpf⟩, ⟨lf, gl, hla, hlf, hgl⟩, ⟨wf, hwa, hwf⟩, ⟨ef, hea, hef⟩⟩ := id hst
  have hn86 : 0 ≤ now 1286 ∧ now 1286 ≤ 60 := ⟨hok.2.2.2.2.2.2.1.1, hok.2.2.2.2.2.2.1.2.1⟩
  refine r_iload_n S dX10_isLetter_0 1 rfl ?_
  refine r_iconst S dX10_isLetter_1 ?_
  refine r_aload_n S dX10_isLetter_2 0 rfl ?_
  refine x_get_now S hcs gtX10_28_X10 dX10_isLetter_3 ?_
  refine r_get S gtX10_185_X7 h1.1 rfl dX10_isLetter_6 ?_
  refine r_alenQ S hla.1 rfl dX10_isLetter_9 ?_
  rw [show (((now 1286).toNat : Nat) : Int) = now 1286 from Int.toNat_of_nonneg hn86.1]
  refine r_iconst S dX10_isLetter_10 ?_
  refine r_isub_e (now 1286 - 1) (by omega) S dX10_isLetter_11 ?_
  refine (c_S_P (As := [.int (iI l), .int (iI 0), .int (iI (now 1286 - 1))]) (st := []) S (kX10_within (by omega) (by omega) (by omega)) moX10_within ⟨by decide, by decide⟩ ⟨by omega, by omega⟩ rfl (Nat.le_of_ble_eq_true rfl) w154 w155 rfl dX10_isLetter_12).goI (fun r12 hc12 => ?_)
  exact ret.z r12 dX10_isLetter_15 (by omega) (by omega)

set_option maxRecDepth 20000 in
set_option maxHeartbeats 2000000 in
theorem kX10_grams {D : va_G} {G : gh} {B : Nat → Nat} {w : UInt32} : CP ⟨"PostageCounter", "grams", "(F)I"⟩ prog_1_method_13_code 2 (some .int) 1 21 D [.ref (B 0), .float w] G (pI (fun z => sGrams w z)) := by
  refine CP.enter (by decide +kernel) (Nat.le_of_ble_eq_true rfl) (fun F S ret => ?_)
  show V F 2 G 0 0 0 [(0, .ref (B 0)), (1, .float w)] []
  refine r_fload_n S dX10_grams_0 1 rfl ?_
  refine (c_S_P (As := [.float w]) (st := []) S (kX10_isWeight) moX10_isWeight ⟨by decide, by decide⟩ ⟨by omega, by omega⟩ rfl (Nat.le_of_ble_eq_true rfl) w466 w467 rfl dX10_grams_1).goI (fun r1 hc1 => ?_)
  refine r_if_eq S 14 dX10_grams_4 (by decide) (by omega) (fun c4 => ?_) (fun c4 => ?_)
  · skip
    replace hc1 := zz0 hc1 c4
    refine r_bipush S dX10_grams_14 (by decide) ?_
    exact ret.i (-3) dX10_grams_16 (Or.inr ⟨hc1, rfl⟩)
  · skip
    replace hc1 := zz1 hc1 c4
    refine r_fload_n S dX10_grams_7 1 rfl ?_
    refine (c_S_P (As := [.float w]) (st := []) S (kX10_wholeGrams) moX10_wholeGrams ⟨by decide, by decide⟩ ⟨by omega, by omega⟩ rfl (Nat.le_of_ble_eq_true rfl) w470 w471 rfl dX10_grams_8).goI (fun r8 hc8 => ?_)
    refine r_goto S 16 dX10_grams_11 (by decide) ?_
    exact ret.i r8 dX10_grams_16 (Or.inl ⟨hc1, hc8⟩)

set_option maxRecDepth 20000 in
set_option maxHeartbeats 2000000 in
theorem kX10_given {D : va_G} {N0 : Nat → Prop} {B : Nat → Nat} {km rd : Int} {now reel : Int → Int} {hist : Int → Int → Int} {G : gh} (hq : cQ D N0 B now hist km rd reel G) (hok : mOK now) {l p : Int} (hl : inR l) (hp : inR p) : CP ⟨"PostageCounter", "given", "(II)I"⟩ prog_1_method_18_code 4 (some .int) 2 43 D [.ref (B 0), .int (iI l), .int (iI p)] G (pI (fun z => z = sGiven now l p)) := by
  refine CP.enter (by decide +kernel) (Nat.le_of_ble_eq_true rfl) (fun F S ret => ?_)
  show V F 4 G 0 0 0 [(0, .ref (B 0)), (1, .int (iI l)), (2, .int (iI p))] []
  have hq0 := hq
  obtain ⟨rf, sa, bf, row, most, hcs, hst, hbf, hrf, hmost⟩ := hq
  obtain ⟨pa, la, wa, ea, h1, ⟨pf, hpa, hpf⟩, ⟨lf, gl, hla, hlf, hgl⟩, ⟨wf, hwa, hwf⟩, ⟨ef, hea, hef⟩⟩ := id hst
  have hn86 : 0 ≤ now 1286 ∧ now 1286 ≤ 60 := ⟨hok.2.2.2.2.2.2.1.1, hok.2.2.2.2.2.2.1.2.1⟩
  refine r_aload_n S dX10_given_0 0 rfl ?_
  refine r_iload_n S dX10_given_1 1 rfl ?_
  refine (c_V_P (As := [.int (iI l)]) (st := []) S (kX10_isLetter hq0 hok (by omega)) moX10_isLetter ⟨by decide, by decide⟩ ⟨by omega, by omega⟩ rfl (Nat.le_of_ble_eq_true rfl) w514 w516 w4 (hcs.1) rfl rfl dX10_given_2).goI (fun r2 hc2 => ?_)
  refine r_if_eq S 15 dX10_given_5 (by decide) (by omega) (fun c5 => ?_) (fun c5 => ?_)
  · skip
    replace hc2 := zz0 hc2 c5
    refine r_bipush S dX10_given_15 (by decide) ?_
    exact ret.i (-3) dX10_given_17 (by unfold sGiven; rw [if_neg (by omega)])
  · skip
    replace hc2 := zz1 hc2 c5
    refine r_iload_n S dX10_given_8 2 rfl ?_
    refine (c_S_P (As := [.int (iI p)]) (st := []) S (kX10_isPlace (by omega)) moX10_isPlace ⟨by decide, by decide⟩ ⟨by omega, by omega⟩ rfl (Nat.le_of_ble_eq_true rfl) w151 w152 rfl dX10_given_9).goI (fun r9 hc9 => ?_)
    refine r_if_ne S 18 dX10_given_12 (by decide) (by omega) (fun c12 => ?_) (fun c12 => ?_)
    · skip
      replace hc9 := zz1 hc9 c12
      refine r_aload_n S dX10_given_18 0 rfl ?_
      refine x_get_now S hcs gtX10_28_X10 dX10_given_19 ?_
      refine r_get S gtX10_185_X7 h1.1 rfl dX10_given_22 ?_
      refine r_iload_n S dX10_given_25 1 rfl ?_
      obtain ⟨b26, hf26, hO26⟩ := hlf l (by omega) (by omega)
      rcases hO26 with ⟨his26, hv26, hz26⟩ | ⟨his26, pb26, hv26, hpy26⟩
      · skip
        refine r_aaldS hf26 hla.1 rfl (by omega) (by omega) (by omega) S dX10_given_26 ?_
        refine r_get S gtX10_201_X2 hv26.1 rfl dX10_given_27 ?_
        refine r_astore_nN (L' := [(3, .null), (0, .ref (B 0)), (1, .int (iI l)), (2, .int (iI p))]) S dX10_given_30 (by decide) rfl ?_
        refine r_aload_nN S dX10_given_31 0 rfl ?_
        refine r_ifnonnullN S dX10_given_32 ?_
        refine r_iconst S dX10_given_35 ?_
        refine r_goto S 45 dX10_given_36 (by decide) ?_
        exact ret.i 0 dX10_given_45 (by unfold sGiven; rw [if_pos (by omega)]; exact ((hok.2.2.2.2.2.2.2.2.2.1) l p (by omega) (by omega) (by omega) (by omega) his26).2.2.symm)
      · skip
        obtain ⟨qa26, qc26, qs26, cf26, sf26, nf26, p126, pok26, ppl26, pca26, psa26, pcs26, pgot26, pg26⟩ := id hpy26
        refine r_aaldS hf26 hla.1 rfl (by omega) (by omega) (by omega) S dX10_given_26 ?_
        refine r_get S gtX10_201_X2 hv26.1 rfl dX10_given_27 ?_
        refine r_astore_n (L' := [(3, .ref pb26), (0, .ref (B 0)), (1, .int (iI l)), (2, .int (iI p))]) S dX10_given_30 (by decide) rfl ?_
        refine r_aload_n S dX10_given_31 0 rfl ?_
        refine r_ifnonnull S 39 dX10_given_32 (by decide) ?_
        refine r_aload_n S dX10_given_39 0 rfl ?_
        refine r_get S gtX10_240_X5 p126.1 rfl dX10_given_40 ?_
        refine r_iload_n S dX10_given_43 3 rfl ?_
        refine r_iald S pca26.1 (by omega) (by omega) (by omega) dX10_given_44 ?_
        exact ret.i (cf26 p) dX10_given_45 (by unfold sGiven; rw [if_pos (by omega)]; exact (pcs26 p (by omega) (by omega)).1)
    · skip
      replace hc9 := zz0 hc9 c12
      refine r_bipush S dX10_given_15 (by decide) ?_
      exact ret.i (-3) dX10_given_17 (by unfold sGiven; rw [if_neg (by omega)])
