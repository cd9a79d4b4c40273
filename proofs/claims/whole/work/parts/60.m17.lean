set_option maxRecDepth 20000 in
set_option maxHeartbeats 2000000 in
theorem kX0_squareAt {D : va_G} {G : gh} {a : Nat} {q f n r c m : Int} {x fc lc : BitVec 64} (hB : bO G a q f n r c m x fc lc) (hm : 0 ≤ m ∧ m < 256) (hr : 0 ≤ r ∧ r ≤ 8) (hc : 1 ≤ c ∧ c ≤ 8) {i j : Int} (hi : inR i) (hj : inR j) : CP ⟨"PostageCounter$Block", "squareAt", "(II)I"⟩ prog_2_method_8_code 4 (some .int) 2 43 D [.ref a, .int (iI i), .int (iI j)] G (pI (fun z => z = sqrF f x r c m i j)) := by
  refine CP.enter (by decide +kernel) (Nat.le_of_ble_eq_true rfl) (fun F S ret => ?_)
  show V F 4 G 0 0 0 [(0, .ref a), (1, .int (iI i)), (2, .int (iI j))] []
  refine r_aload_n S dX0_squareAt_0 0 rfl ?_
  refine r_iload_n S dX0_squareAt_1 1 rfl ?_
  refine (c_B_P (As := [.int (iI i)]) (st := []) S (kX0_refusalOfRow hB hm (by omega) (by omega)) moX0_refusalOfRow ⟨by decide, by decide⟩ ⟨by omega, by omega⟩ rfl (Nat.le_of_ble_eq_true rfl) w360 rfl w318 ⟨by decide +kernel, by decide +kernel, by decide +kernel⟩ w316 w317 w319 hB rfl dX0_squareAt_2).goI (fun r2 hc2 => ?_)
  have hrf := refF_bd i r m
  replace hc2 : r2 = refF i r m := hc2
  refine r_istore_n (L' := [(3, .int (iI r2)), (0, .ref a), (1, .int (iI i)), (2, .int (iI j))]) S dX0_squareAt_5 (by decide) rfl ?_
  refine r_iload_n S dX0_squareAt_6 0 rfl ?_
  refine r_if_ge S 12 dX0_squareAt_7 (by decide) (by omega) (fun c7 => ?_) (fun c7 => ?_)
  · skip
    have hgg := refF_ge (i := i) (r := r) (m := m) (by omega)
    refine r_iload_n S dX0_squareAt_12 3 rfl ?_
    refine r_iconst S dX0_squareAt_13 ?_
    refine r_aload_n S dX0_squareAt_14 1 rfl ?_
    refine rB_columns S hB gtX0_21_X0 gtX0_21_X4 dX0_squareAt_15 ?_
    refine r_iconst S dX0_squareAt_18 ?_
    refine r_isub S dX0_squareAt_19 ?_
    refine (c_SN_P (host := "PostageCounter") (As := [.int (iI j), .int (iI 0), .int (iI (c - 1))]) (st := []) S (kX10_within (by omega) (by omega) (by omega)) moX10_within ⟨by decide, by decide⟩ ⟨by omega, by omega⟩ rfl (Nat.le_of_ble_eq_true rfl) (by decide) w155 rfl dX0_squareAt_20).goI (fun r20 hc20 => ?_)
    refine r_if_ne S 29 dX0_squareAt_23 (by decide) (by omega) (fun c23 => ?_) (fun c23 => ?_)
    · skip
      replace hc20 := zz1 hc20 c23
      refine r_aload_n S dX0_squareAt_29 1 rfl ?_
      refine rB_squares S hB gtX0_27_X0 gtX0_27_X4 dX0_squareAt_30 ?_
      refine r_lconst S 1#64 dX0_squareAt_33 (by decide) ?_
      refine r_iload_n S dX0_squareAt_34 2 rfl ?_
      refine r_aload_n S dX0_squareAt_35 1 rfl ?_
      refine rB_columns S hB gtX0_21_X0 gtX0_21_X4 dX0_squareAt_36 ?_
      refine r_imul S dX0_squareAt_39 ?_
      refine r_iload_n S dX0_squareAt_40 3 rfl ?_
      refine r_iadd_e (i * c + j) (by omega) S dX0_squareAt_41 ?_
      have hij := ij_bd (i := i) (j := j) hr hc hgg.1 (by omega)
      refine r_lshl S hij dX0_squareAt_42 ?_
      refine r_land S dX0_squareAt_43 ?_
      refine r_lconst S 0#64 dX0_squareAt_44 (by decide) ?_
      refine r_lcmp S dX0_squareAt_45 (fun z45 hz45 ez45 => ?_)
      refine r_if_eq S 56 dX0_squareAt_46 (by decide) (by omega) (fun c46 => ?_) (fun c46 => ?_)
      · skip
        refine r_iconst S dX0_squareAt_56 ?_
        exact ret.i 0 dX0_squareAt_57 (by unfold sqrF; rw [if_neg (by omega), if_neg (fun q => q hc20)]; rw [if_neg ((sq_at hij.1 hij.2).mp (ez45.mp c46))])
      · skip
        refine r_aload_n S dX0_squareAt_49 1 rfl ?_
        refine rB_face S hB gtX0_41_X0 gtX0_41_X4 dX0_squareAt_50 ?_
        refine r_goto S 57 dX0_squareAt_53 (by decide) ?_
        exact ret.i f dX0_squareAt_57 (by unfold sqrF; rw [if_neg (by omega), if_neg (fun q => q hc20)]; rw [if_pos (Classical.byContradiction (fun q => c46 (ez45.mpr ((sq_at hij.1 hij.2).mpr q))))])
    · skip
      replace hc20 := zz0 hc20 c23
      refine r_bipush S dX0_squareAt_26 (by decide) ?_
      exact ret.i (-13) dX0_squareAt_28 (by unfold sqrF; rw [if_neg (by omega), if_pos hc20])
  · skip
    refine r_iload_n S dX0_squareAt_10 0 rfl ?_
    exact ret.i r2 dX0_squareAt_11 (by unfold sqrF; rw [if_pos (by omega)]; exact hc2)

set_option maxRecDepth 20000 in
set_option maxHeartbeats 2000000 in
theorem kX4_pairAt {D : va_G} {G : gh} {a : Nat} {f n r c m : Int} {x fc lc : BitVec 64} (ha : G a = some (eO 4 [.int (iI r), .int (iI c), .int (iI m), .long (lB x), .long (lB fc), .long (lB lc), .int (iI f), .int (iI n)])) (hm : 0 ≤ m ∧ m < 256) (hr : 0 ≤ r ∧ r ≤ 8) (hc : 1 ≤ c ∧ c ≤ 8) {i j : Int} (hi : inR i) (hj : inR j) : CP ⟨"PostageCounter$Pair", "pairAt", "(II)I"⟩ prog_6_method_6_code 4 (some .int) 3 66 D [.ref a, .int (iI i), .int (iI j)] G (pI (fun z => z = prF f x r c m i j)) := by
  refine CP.enter (by decide +kernel) (Nat.le_of_ble_eq_true rfl) (fun F S ret => ?_)
  show V F 4 G 0 0 0 [(0, .ref a), (1, .int (iI i)), (2, .int (iI j))] []
  refine r_aload_n S dX4_pairAt_0 0 rfl ?_
  refine r_iload_n S dX4_pairAt_1 1 rfl ?_
  refine (c_U_P (C := "PostageCounter$Pair") (owner := "PostageCounter$Block") (x := ⟨"PostageCounter$Pair", "refusalOfRow", "(I)I"⟩) (As := [.int (iI i)]) (st := []) S (kX0_refusalOfRow (Or.inr ⟨rfl, ha⟩) hm (by omega) (by omega)) moX0_refusalOfRow (show lvl _ 2 1 22 from ⟨by decide, by decide⟩) ⟨by omega, by omega⟩ rfl (Nat.le_of_ble_eq_true rfl) w365 w366 w316 w320 ⟨by decide +kernel, by decide +kernel, by decide +kernel⟩ w316 w368 ha rfl rfl dX4_pairAt_2).goI (fun r2 hc2 => ?_)
  have hrf := refF_bd i r m
  replace hc2 : r2 = refF i r m := hc2
  refine r_istore_n (L' := [(3, .int (iI r2)), (0, .ref a), (1, .int (iI i)), (2, .int (iI j))]) S dX4_pairAt_5 (by decide) rfl ?_
  refine r_iload_n S dX4_pairAt_6 0 rfl ?_
  refine r_if_ge S 12 dX4_pairAt_7 (by decide) (by omega) (fun c7 => ?_) (fun c7 => ?_)
  · skip
    have hgg := refF_ge (i := i) (r := r) (m := m) (by omega)
    refine r_iload_n S dX4_pairAt_12 3 rfl ?_
    refine r_iconst S dX4_pairAt_13 ?_
    refine r_aload_n S dX4_pairAt_14 1 rfl ?_
    refine r_get S gtX4_18_X4 ha rfl dX4_pairAt_15 ?_
    refine r_iconst S dX4_pairAt_18 ?_
    refine r_idiv S dX4_pairAt_19 (by omega) (by omega) ?_
    refine r_iconst S dX4_pairAt_20 ?_
    refine r_isub_e (c / 2 - 1) (by omega) S dX4_pairAt_21 ?_
    refine (c_SN_P (host := "PostageCounter") (As := [.int (iI j), .int (iI 0), .int (iI (c / 2 - 1))]) (st := []) S (kX10_within (by omega) (by omega) (by omega)) moX10_within ⟨by decide, by decide⟩ ⟨by omega, by omega⟩ rfl (Nat.le_of_ble_eq_true rfl) (by decide) w155 rfl dX4_pairAt_22).goI (fun r22 hc22 => ?_)
    refine r_if_ne S 31 dX4_pairAt_25 (by decide) (by omega) (fun c25 => ?_) (fun c25 => ?_)
    · skip
      replace hc22 := zz1 hc22 c25
      refine r_aload_n S dX4_pairAt_31 1 rfl ?_
      refine r_iload_n S dX4_pairAt_32 2 rfl ?_
      refine r_iconst S dX4_pairAt_33 ?_
      refine r_iload_n S dX4_pairAt_34 3 rfl ?_
      refine r_imul S dX4_pairAt_35 ?_
      refine (c_U_P (C := "PostageCounter$Pair") (owner := "PostageCounter$Block") (x := ⟨"PostageCounter$Pair", "squareAt", "(II)I"⟩) (As := [.int (iI i), .int (iI (2 * j))]) (st := []) S (kX0_squareAt (Or.inr ⟨rfl, ha⟩) hm hr hc (by omega) (by omega)) moX0_squareAt (show lvl _ 4 2 43 from ⟨by decide, by decide⟩) ⟨by omega, by omega⟩ rfl (Nat.le_of_ble_eq_true rfl) w370 w371 w355 w359 ⟨by decide +kernel, by decide +kernel, by decide +kernel⟩ w355 w373 ha rfl rfl dX4_pairAt_36).goI (fun r36 hc36 => ?_)
      refine r_aload_n S dX4_pairAt_39 1 rfl ?_
      refine r_iload_n S dX4_pairAt_40 2 rfl ?_
      refine r_iconst S dX4_pairAt_41 ?_
      refine r_iload_n S dX4_pairAt_42 3 rfl ?_
      refine r_imul S dX4_pairAt_43 ?_
      refine r_iconst S dX4_pairAt_44 ?_
      refine r_iadd_e (1 + 2 * j) (by omega) S dX4_pairAt_45 ?_
      refine (c_U_P (C := "PostageCounter$Pair") (owner := "PostageCounter$Block") (x := ⟨"PostageCounter$Pair", "squareAt", "(II)I"⟩) (As := [.int (iI i), .int (iI (1 + 2 * j))]) (st := [.int (iI r36)]) S (kX0_squareAt (Or.inr ⟨rfl, ha⟩) hm hr hc (by omega) (by omega)) moX0_squareAt (show lvl _ 4 2 43 from ⟨by decide, by decide⟩) ⟨by omega, by omega⟩ rfl (Nat.le_of_ble_eq_true rfl) w370 w371 w355 w359 ⟨by decide +kernel, by decide +kernel, by decide +kernel⟩ w355 w373 ha rfl rfl dX4_pairAt_46).goI (fun r46 hc46 => ?_)
      refine r_iadd S dX4_pairAt_49 ?_
      exact ret.i (r36 + r46) dX4_pairAt_50 (by unfold prF; rw [if_neg (by omega), if_neg (fun q => q hc22), hc36, hc46, show 1 + 2 * j = 2 * j + 1 by omega])
    · skip
      replace hc22 := zz0 hc22 c25
      refine r_bipush S dX4_pairAt_28 (by decide) ?_
      exact ret.i (-13) dX4_pairAt_30 (by unfold prF; rw [if_neg (by omega), if_pos hc22])
  · skip
    refine r_iload_n S dX4_pairAt_10 0 rfl ?_
    exact ret.i r2 dX4_pairAt_11 (by unfold prF; rw [if_pos (by omega)]; exact hc2)

theorem last_y {now : Int → Int} {p q j k : Int} (hq : wBP q) (hu : un now p q j) : (now (460 + 64 * p + k) ≠ 0 ∧ j < k - k % q) ∨ (j % q = 0 ∧ j ≤ k ∧ k < j + q ∧ now (460 + 64 * p + k) ≠ 0) ↔ now (460 + 64 * p + k) ≠ 0 ∧ j - 1 < k - k % q := by
  have h1 := hu.1
  rcases hq with e | e <;> subst e <;> constructor
  · rintro (⟨a, b⟩ | ⟨a, b, c, d⟩)
    · exact ⟨a, by omega⟩
    · exact ⟨d, by omega⟩
  · rintro ⟨a, b⟩
    by_cases z : j < k - k % 1
    · exact Or.inl ⟨a, z⟩
    · exact Or.inr ⟨h1, by omega, by omega, a⟩
  · rintro (⟨a, b⟩ | ⟨a, b, c, d⟩)
    · exact ⟨a, by omega⟩
    · exact ⟨d, by omega⟩
  · rintro ⟨a, b⟩
    by_cases z : j < k - k % 2
    · exact Or.inl ⟨a, z⟩
    · exact Or.inr ⟨h1, by omega, by omega, a⟩
theorem last_n {now : Int → Int} {p q j k : Int} (hq : wBP q) (hpr : pairU now p q) (k0 : 0 ≤ k) (k1 : k < 64) (hu : ¬ un now p q j) : (now (460 + 64 * p + k) ≠ 0 ∧ j < k - k % q) ↔ now (460 + 64 * p + k) ≠ 0 ∧ j - 1 < k - k % q := by
  constructor
  · rintro ⟨a, b⟩; exact ⟨a, by omega⟩
  · rintro ⟨a, b⟩
    refine ⟨a, ?_⟩
    have hc := wBP_cases (x := k) hq
    rcases (show j < k - k % q ∨ j = k - k % q by omega) with z | z
    · exact z
    · exact absurd ⟨by rw [z]; exact hc.1, by rw [z]; exact (hpr k k0 k1).mp a⟩ hu

set_option maxRecDepth 20000 in
set_option maxHeartbeats 2000000 in
theorem kX0_lastUnits {D : va_G} {G : gh} {a : Nat} {q f n r c m : Int} {x fc lc : BitVec 64} (hB : bO G a q f n r c m x fc lc) (hs : shP r c) {now : Int → Int} {p : Int} (hq : wBP q) (hsq : sqOK now p x) (hpr : pairU now p q) (hx : ∀ k : Int, 0 ≤ k → k < 64 → bI x k = true → k < r * c) (hNw : (r * c) % q = 0) {mn : Int} (hmn : 1 ≤ mn ∧ mn ≤ 64) : CP ⟨"PostageCounter$Block", "lastUnits", "(I)J"⟩ prog_2_method_15_code 8 (some .long) 1 21 D [.ref a, .int (iI mn)] G (pL (fun z => ∀ k : Int, 0 ≤ k → k < 64 → (bI z k = true ↔ k < r * c ∧ now (460 + 64 * p + k) ≠ 0 ∧ cntU now p (r * c) q (k - k % q + q) < mn))) := by
  refine CP.enter (by decide +kernel) (Nat.le_of_ble_eq_true rfl) (fun F S ret => ?_)
  show V F 8 G 0 0 0 [(0, .ref a), (1, .int (iI mn))] []
  have hrc := rc_bd hs.1.1 hs.1.2 hs.2.1 hs.2.2
  refine r_lconst S 0#64 dX0_lastUnits_0 (by decide) ?_
  refine r_lstore_n (L' := [(2, .long (lB (0#64))), (0, .ref a), (1, .int (iI mn))]) S dX0_lastUnits_1 (by decide) rfl ?_
  refine r_iload_n S dX0_lastUnits_2 2 rfl ?_
  refine r_istore (L' := [(4, .int (iI mn)), (2, .long (lB (0#64))), (0, .ref a), (1, .int (iI mn))]) S dX0_lastUnits_3 (by decide) rfl ?_
  refine r_bipush S dX0_lastUnits_5 (by decide) ?_
  refine r_istore (L' := [(5, .int (iI 63)), (4, .int (iI mn)), (2, .long (lB (0#64))), (0, .ref a), (1, .int (iI mn))]) S dX0_lastUnits_7 (by decide) rfl ?_
  have L9 : ∀ (N : Nat) (la : BitVec 64) (lf : Int) (j : Int), (1 + j).toNat < N → (-1 ≤ j ∧ j ≤ 63) → (lf = mn - cntU now p (r * c) q (1 + j)) → (0 ≤ lf) → (∀ k : Int, 0 ≤ k → k < 64 → (bI la k = true ↔ now (460 + 64 * p + k) ≠ 0 ∧ j < k - k % q)) → V F 8 G 0 0 9 [(0, .ref a), (2, .long (lB la)), (4, .int (iI lf)), (5, .int (iI j))] [] := by
    intro N
    induction N with
    | zero => intro la lf j hN; exact absurd hN (Nat.not_lt_zero _)
    | succ N ih9 =>
      intro la lf j hN9 hj hl hl0 hb
      have hcnn := cntU_nn now p (r * c) q (1 + j)
      refine r_iload S dX0_lastUnits_9 3 rfl ?_
      refine r_if_lt S 48 dX0_lastUnits_11 (by decide) (by omega) (fun c11 => ?_) (fun c11 => ?_)
      · skip
        refine r_lload_n S dX0_lastUnits_48 1 rfl ?_
        exact ret.l la dX0_lastUnits_49 (lastU_end hq hrc.2 hNw hpr (fun k k0 k1 => Classical.byContradiction (fun z => by have := hx k (by omega) k1 ((hsq k (by omega) k1).mpr z); omega)) hmn.1 hj.1 hl hl0 (by omega) hb)
      · skip
        refine r_iload S dX0_lastUnits_14 2 rfl ?_
        refine r_if_le S 48 dX0_lastUnits_16 (by decide) (by omega) (fun c16 => ?_) (fun c16 => ?_)
        · skip
          refine r_lload_n S dX0_lastUnits_48 1 rfl ?_
          exact ret.l la dX0_lastUnits_49 (lastU_end hq hrc.2 hNw hpr (fun k k0 k1 => Classical.byContradiction (fun z => by have := hx k (by omega) k1 ((hsq k (by omega) k1).mpr z); omega)) hmn.1 hj.1 hl hl0 (by omega) hb)
        · skip
          refine r_aload_n S dX0_lastUnits_19 0 rfl ?_
          refine r_iload S dX0_lastUnits_20 3 rfl ?_
          refine (vdB_unitAt (s := j) (h0 := ⟨by omega, by omega⟩) (st := []) S hB ⟨by decide, by decide⟩ ⟨by omega, by omega⟩ (Nat.le_of_ble_eq_true rfl) w596 dX0_lastUnits_22).goL (fun r22 hc22 => ?_)
          have hun22 := uB_nz hq hsq hpr (s := j) (by omega) (by omega)
          rw [← hc22] at hun22
          refine r_lstore (L' := [(6, .long (lB r22)), (0, .ref a), (2, .long (lB la)), (4, .int (iI lf)), (5, .int (iI j))]) S dX0_lastUnits_25 (by decide) rfl ?_
          refine r_lload S dX0_lastUnits_27 0 rfl ?_
          refine r_lconst S 0#64 dX0_lastUnits_29 (by decide) ?_
          refine r_lcmp S dX0_lastUnits_30 (fun z30 hz30 ez30 => ?_)
          refine r_if_eq S 42 dX0_lastUnits_31 (by decide) (by omega) (fun c31 => ?_) (fun c31 => ?_)
          · skip
            have hu : ¬ un now p q j := fun z => hun22.mpr z (ez30.mp c31)
            refine r_iinc_e (L' := [(5, .int (iI (j - 1))), (6, .long (lB r22)), (0, .ref a), (2, .long (lB la)), (4, .int (iI lf))]) (j - 1) (by omega) S dX0_lastUnits_42 4 rfl (by decide) rfl ?_
            refine r_goto S 9 dX0_lastUnits_45 (by decide) ?_
            refine V.sub [2, 3, 4, 0] rfl ?_
            exact ih9 la lf (j - 1) (by omega) (by omega) (by have h := cntU_n (N := r * c) hu; rw [show 1 + (j - 1) = j by omega]; omega) (by omega) (fun k k0 k1 => by rw [hb k k0 k1]; exact last_n hq hpr k0 k1 hu)
          · skip
            have hu : un now p q j := hun22.mp (fun e => c31 (ez30.mpr e))
            refine r_lload_n S dX0_lastUnits_34 2 rfl ?_
            refine r_lload S dX0_lastUnits_35 0 rfl ?_
            refine r_lor S dX0_lastUnits_37 ?_
            refine r_lstore_n (L' := [(2, .long (lB (la ||| r22))), (6, .long (lB r22)), (0, .ref a), (4, .int (iI lf)), (5, .int (iI j))]) S dX0_lastUnits_38 (by decide) rfl ?_
            refine r_iinc_e (L' := [(4, .int (iI (lf - 1))), (2, .long (lB (la ||| r22))), (6, .long (lB r22)), (0, .ref a), (5, .int (iI j))]) (lf - 1) (by omega) S dX0_lastUnits_39 3 rfl (by decide) rfl ?_
            refine r_iinc_e (L' := [(5, .int (iI (j - 1))), (4, .int (iI (lf - 1))), (2, .long (lB (la ||| r22))), (6, .long (lB r22)), (0, .ref a)]) (j - 1) (by omega) S dX0_lastUnits_42 4 rfl (by decide) rfl ?_
            refine r_goto S 9 dX0_lastUnits_45 (by decide) ?_
            refine V.sub [4, 2, 1, 0] rfl ?_
            exact ih9 (la ||| r22) (lf - 1) (j - 1) (by omega) (by omega) (by have h := cntU_y (N := r * c) (un_lt hsq hx (by omega) (by omega) hu) hu; rw [show 1 + (j - 1) = j by omega]; omega) (by omega) (fun k k0 k1 => by rw [bB_or, hb k k0 k1, hc22, uB_bit hq hsq (by omega) (by omega) k0 k1]; exact last_y hq hu)
  refine V.sub [3, 2, 1, 0] rfl ?_
  exact L9 _ (0#64) mn 63 (Nat.lt_succ_self _) (by omega) (by rw [cntU_ge (by omega)]; omega) (by omega) (fun k k0 k1 => ⟨fun h => absurd h bB_0, fun h => by have := wBP_cases (x := k) hq; omega⟩)
