set_option maxRecDepth 20000 in
set_option maxHeartbeats 2000000 in
theorem kX6_kind {D : va_G} {G : gh} {a : Nat} : CP ⟨"PostageCounter$Plain", "kind", "()I"⟩ prog_8_method_2_code 1 (some .int) 0 0 D [.ref a] G (pI (fun z => z = 0)) := by
  refine CP.enter (by decide +kernel) (Nat.le_of_ble_eq_true rfl) (fun F S ret => ?_)
  show V F 1 G 0 0 0 [(0, .ref a)] []
  refine r_iconst S dX6_kind_0 ?_
  exact ret.i 0 dX6_kind_1 rfl

set_option maxRecDepth 20000 in
set_option maxHeartbeats 2000000 in
theorem kX3_kind {D : va_G} {G : gh} {a : Nat} : CP ⟨"PostageCounter$Over", "kind", "()I"⟩ prog_5_method_2_code 1 (some .int) 0 0 D [.ref a] G (pI (fun z => z = 4)) := by
  refine CP.enter (by decide +kernel) (Nat.le_of_ble_eq_true rfl) (fun F S ret => ?_)
  show V F 1 G 0 0 0 [(0, .ref a)] []
  refine r_iconst S dX3_kind_0 ?_
  exact ret.i 4 dX3_kind_1 rfl

set_option maxRecDepth 20000 in
set_option maxHeartbeats 2000000 in
theorem kX8_kind {D : va_G} {G : gh} {a : Nat} : CP ⟨"PostageCounter$Strip", "kind", "()I"⟩ prog_10_method_2_code 1 (some .int) 0 0 D [.ref a] G (pI (fun z => z = 1)) := by
  refine CP.enter (by decide +kernel) (Nat.le_of_ble_eq_true rfl) (fun F S ret => ?_)
  show V F 1 G 0 0 0 [(0, .ref a)] []
  refine r_iconst S dX8_kind_0 ?_
  exact ret.i 1 dX8_kind_1 rfl

set_option maxRecDepth 20000 in
set_option maxHeartbeats 2000000 in
theorem kX0_kind {D : va_G} {G : gh} {a : Nat} : CP ⟨"PostageCounter$Block", "kind", "()I"⟩ prog_2_method_3_code 1 (some .int) 0 0 D [.ref a] G (pI (fun z => z = 2)) := by
  refine CP.enter (by decide +kernel) (Nat.le_of_ble_eq_true rfl) (fun F S ret => ?_)
  show V F 1 G 0 0 0 [(0, .ref a)] []
  refine r_iconst S dX0_kind_0 ?_
  exact ret.i 2 dX0_kind_1 rfl

set_option maxRecDepth 20000 in
set_option maxHeartbeats 2000000 in
theorem kX4_kind {D : va_G} {G : gh} {a : Nat} : CP ⟨"PostageCounter$Pair", "kind", "()I"⟩ prog_6_method_2_code 1 (some .int) 0 0 D [.ref a] G (pI (fun z => z = 3)) := by
  refine CP.enter (by decide +kernel) (Nat.le_of_ble_eq_true rfl) (fun F S ret => ?_)
  show V F 1 G 0 0 0 [(0, .ref a)] []
  refine r_iconst S dX4_kind_0 ?_
  exact ret.i 3 dX4_kind_1 rfl

set_option maxRecDepth 20000 in
set_option maxHeartbeats 2000000 in
theorem kX6_together {D : va_G} {G : gh} {a : Nat} : CP ⟨"PostageCounter$Plain", "together", "()I"⟩ prog_8_method_3_code 1 (some .int) 0 0 D [.ref a] G (pI (fun z => z = 1)) := by
  refine CP.enter (by decide +kernel) (Nat.le_of_ble_eq_true rfl) (fun F S ret => ?_)
  show V F 1 G 0 0 0 [(0, .ref a)] []
  refine r_iconst S dX6_together_0 ?_
  exact ret.i 1 dX6_together_1 rfl

set_option maxRecDepth 20000 in
set_option maxHeartbeats 2000000 in
theorem kX4_together {D : va_G} {G : gh} {a : Nat} : CP ⟨"PostageCounter$Pair", "together", "()I"⟩ prog_6_method_3_code 1 (some .int) 0 0 D [.ref a] G (pI (fun z => z = 2)) := by
  refine CP.enter (by decide +kernel) (Nat.le_of_ble_eq_true rfl) (fun F S ret => ?_)
  show V F 1 G 0 0 0 [(0, .ref a)] []
  refine r_iconst S dX4_together_0 ?_
  exact ret.i 2 dX4_together_1 rfl

set_option maxRecDepth 20000 in
set_option maxHeartbeats 2000000 in
theorem kX6_tearing {D : va_G} {G : gh} {a : Nat} {n : Int} : CP ⟨"PostageCounter$Plain", "tearing", "(I)J"⟩ prog_8_method_7_code 2 (some .long) 0 0 D [.ref a, .int (iI n)] G (pL (fun z => z = 0#64)) := by
  refine CP.enter (by decide +kernel) (Nat.le_of_ble_eq_true rfl) (fun F S ret => ?_)
  show V F 2 G 0 0 0 [(0, .ref a), (1, .int (iI n))] []
  refine r_lconst S 0#64 dX6_tearing_0 (by decide) ?_
  exact ret.l (0#64) dX6_tearing_1 rfl

set_option maxRecDepth 20000 in
set_option maxHeartbeats 2000000 in
theorem kX6_worth {D : va_G} {N : Nat → Prop} {G : gh} {now : Int → Int} {p : Int} {a : Nat} (hh : hO D N G now p a) (h1 : now p ≠ 1) {n : Int} : CP ⟨"PostageCounter$Plain", "worth", "(I)I"⟩ prog_8_method_4_code 2 (some .int) 0 0 D [.ref a, .int (iI n)] G (pI (fun z => z = paysF now p n)) := by
  refine CP.enter (by decide +kernel) (Nat.le_of_ble_eq_true rfl) (fun F S ret => ?_)
  show V F 2 G 0 0 0 [(0, .ref a), (1, .int (iI n))] []
  refine r_iload_n S dX6_worth_0 1 rfl ?_
  refine r_aload_n S dX6_worth_1 0 rfl ?_
  refine rH_face S hh h1 gtX6_9_X0 gtX6_9_X3 gtX6_9_X4 gtX6_9_X6 dX6_worth_2 ?_
  refine r_imul S dX6_worth_5 ?_
  exact ret.i (n * (now (20 + p))) dX6_worth_6 (by unfold paysF; rw [if_neg h1])

set_option maxRecDepth 20000 in
set_option maxHeartbeats 2000000 in
theorem kX6_ofFace {D : va_G} {N : Nat → Prop} {G : gh} {now : Int → Int} {p : Int} {a : Nat} (hh : hO D N G now p a) (h1 : now p ≠ 1) (hk : 0 ≤ now (20 + p) ∧ now (20 + p) ≤ 500) {f n : Int} (hf : inR f) (hn : 0 ≤ n ∧ n ≤ 64) : CP ⟨"PostageCounter$Plain", "ofFace", "(II)I"⟩ prog_8_method_5_code 3 (some .int) 0 0 D [.ref a, .int (iI f), .int (iI n)] G (pI (fun z => z = goneF now p n f)) := by
  refine CP.enter (by decide +kernel) (Nat.le_of_ble_eq_true rfl) (fun F S ret => ?_)
  show V F 3 G 0 0 0 [(0, .ref a), (1, .int (iI f)), (2, .int (iI n))] []
  refine r_iload_n S dX6_ofFace_0 1 rfl ?_
  refine r_aload_n S dX6_ofFace_1 0 rfl ?_
  refine rH_face S hh h1 gtX6_9_X0 gtX6_9_X3 gtX6_9_X4 gtX6_9_X6 dX6_ofFace_2 ?_
  refine r_icmp_ne S 12 dX6_ofFace_5 (by decide) (by omega) (by omega) (fun c5 => ?_) (fun c5 => ?_)
  · skip
    refine r_iconst S dX6_ofFace_12 ?_
    exact ret.i 0 dX6_ofFace_13 (by rw [goneF_plain h1 hn.1, if_neg (by omega)])
  · skip
    refine r_iload_n S dX6_ofFace_8 2 rfl ?_
    refine r_goto S 13 dX6_ofFace_9 (by decide) ?_
    exact ret.i n dX6_ofFace_13 (by rw [goneF_plain h1 hn.1, if_pos (by omega)])

set_option maxRecDepth 20000 in
set_option maxHeartbeats 2000000 in
theorem kX6_pieces {D : va_G} {N : Nat → Prop} {G : gh} {now : Int → Int} {p : Int} {a : Nat} (hh : hO D N G now p a) (hk : 0 ≤ now (10 + p) ∧ now (10 + p) ≤ 64) : CP ⟨"PostageCounter$Plain", "pieces", "()I"⟩ prog_8_method_6_code 1 (some .int) 0 0 D [.ref a] G (pI (fun z => z = if now (10 + p) = 0 then 0 else 1)) := by
  refine CP.enter (by decide +kernel) (Nat.le_of_ble_eq_true rfl) (fun F S ret => ?_)
  show V F 1 G 0 0 0 [(0, .ref a)] []
  refine r_aload_n S dX6_pieces_0 0 rfl ?_
  refine rH_count S hh gtX6_15_X0 gtX6_15_X3 gtX6_15_X4 gtX6_15_X6 gtX6_15_X8 dX6_pieces_1 ?_
  refine r_if_ne S 11 dX6_pieces_4 (by decide) (by omega) (fun c4 => ?_) (fun c4 => ?_)
  · skip
    refine r_iconst S dX6_pieces_11 ?_
    exact ret.i 1 dX6_pieces_12 (by rw [if_neg (by omega)])
  · skip
    refine r_iconst S dX6_pieces_7 ?_
    refine r_goto S 12 dX6_pieces_8 (by decide) ?_
    exact ret.i 0 dX6_pieces_12 (by rw [if_pos (by omega)])

set_option maxRecDepth 20000 in
set_option maxHeartbeats 2000000 in
theorem kX8_stampAt {D : va_G} {G : gh} {now : Int → Int} {p : Int} {a fa : Nat} {sf : Int → Int} (ha : G a = some (eO 8 [.int (iI (fsF now p)), .int (iI (now (10 + p))), .ref fa])) (hfa : G fa = some (eI D 40 sf)) (hsf : ∀ k : Int, 0 ≤ k → k < now (10 + p) → sf k = now (60 + 40 * p + k)) (h1 : now p = 1) (hk : 0 ≤ now (10 + p) ∧ now (10 + p) ≤ 40) {i : Int} (hi : inR i) : CP ⟨"PostageCounter$Strip", "stampAt", "(I)I"⟩ prog_10_method_3_code 2 (some .int) 1 22 D [.ref a, .int (iI i)] G (pI (fun z => z = if 0 ≤ i ∧ i ≤ now (10 + p) - 1 then now (60 + 40 * p + i) else -13)) := by
  refine CP.enter (by decide +kernel) (Nat.le_of_ble_eq_true rfl) (fun F S ret => ?_)
  show V F 2 G 0 0 0 [(0, .ref a), (1, .int (iI i))] []
  refine r_iload_n S dX8_stampAt_0 1 rfl ?_
  refine r_iconst S dX8_stampAt_1 ?_
  refine r_aload_n S dX8_stampAt_2 0 rfl ?_
  refine r_get S gtX8_15_X8 ha rfl dX8_stampAt_3 ?_
  refine r_iconst S dX8_stampAt_6 ?_
  refine r_isub_e (now (10 + p) - 1) (by omega) S dX8_stampAt_7 ?_
  refine (c_SN_P (host := "PostageCounter") (As := [.int (iI i), .int (iI 0), .int (iI (now (10 + p) - 1))]) (st := []) S (kX10_within (by omega) (by omega) (by omega)) moX10_within ⟨by decide, by decide⟩ ⟨by omega, by omega⟩ rfl (Nat.le_of_ble_eq_true rfl) (by decide) w155 rfl dX8_stampAt_8).goI (fun r8 hc8 => ?_)
  refine r_if_eq S 32 dX8_stampAt_11 (by decide) (by omega) (fun c11 => ?_) (fun c11 => ?_)
  · skip
    replace hc8 := zz0 hc8 c11
    refine r_bipush S dX8_stampAt_32 (by decide) ?_
    exact ret.i (-13) dX8_stampAt_34 (by rw [if_neg hc8])
  · skip
    replace hc8 := zz1 hc8 c11
    refine r_iload_n S dX8_stampAt_14 1 rfl ?_
    refine r_aload_n S dX8_stampAt_15 0 rfl ?_
    refine r_get S gtX8_9_X8 ha rfl dX8_stampAt_16 ?_
    refine r_alenI S hfa dX8_stampAt_19 ?_
    refine r_icmp_ge S 32 dX8_stampAt_20 (by decide) (by omega) (by omega) (fun c20 => absurd c20 (by omega)) (fun c20 => ?_)
    refine r_aload_n S dX8_stampAt_23 0 rfl ?_
    refine r_get S gtX8_9_X8 ha rfl dX8_stampAt_24 ?_
    refine r_iload_n S dX8_stampAt_27 1 rfl ?_
    refine r_iald S hfa (by omega) (by omega) (by omega) dX8_stampAt_28 ?_
    refine r_goto S 34 dX8_stampAt_29 (by decide) ?_
    exact ret.i (sf i) dX8_stampAt_34 (by rw [if_pos hc8]; exact hsf i (by omega) (by omega))

set_option maxRecDepth 20000 in
set_option maxHeartbeats 2000000 in
theorem kX8_worth {D : va_G} {G : gh} {now : Int → Int} {p : Int} {a fa : Nat} {sf : Int → Int} (ha : G a = some (eO 8 [.int (iI (fsF now p)), .int (iI (now (10 + p))), .ref fa])) (hfa : G fa = some (eI D 40 sf)) (hsf : ∀ k : Int, 0 ≤ k → k < now (10 + p) → sf k = now (60 + 40 * p + k)) (h1 : now p = 1) (hk : 0 ≤ now (10 + p) ∧ now (10 + p) ≤ 40) {n : Int} (hn : 0 ≤ n ∧ n ≤ now (10 + p)) : CP ⟨"PostageCounter$Strip", "worth", "(I)I"⟩ prog_10_method_4_code 4 (some .int) 1 21 D [.ref a, .int (iI n)] G (pI (fun z => z = paysF now p n)) := by
  refine CP.enter (by decide +kernel) (Nat.le_of_ble_eq_true rfl) (fun F S ret => ?_)
  show V F 4 G 0 0 0 [(0, .ref a), (1, .int (iI n))] []
  refine r_iconst S dX8_worth_0 ?_
  refine r_istore_n (L' := [(2, .int (iI 0)), (0, .ref a), (1, .int (iI n))]) S dX8_worth_1 (by decide) rfl ?_
  refine r_iconst S dX8_worth_2 ?_
  refine r_aload_n S dX8_worth_3 1 rfl ?_
  refine r_get S gtX8_15_X8 ha rfl dX8_worth_4 ?_
  refine r_iload_n S dX8_worth_7 2 rfl ?_
  refine r_isub_e (now (10 + p) - n) (by omega) S dX8_worth_8 ?_
  refine r_mmax w405 w406 w41 w407 (by decide) (by decide) ⟨by omega, by omega⟩ (by omega) (by omega) S dX8_worth_9 ?_
  rw [show max 0 (now (10 + p) - n) = now (10 + p) - n by omega]
  refine r_istore_n (L' := [(3, .int (iI (now (10 + p) - n))), (2, .int (iI 0)), (0, .ref a), (1, .int (iI n))]) S dX8_worth_12 (by decide) rfl ?_
  have L13 : ∀ (N : Nat) (sm : Int) (j : Int), (now (10 + p) - j).toNat < N → (now (10 + p) - n ≤ j ∧ j ≤ now (10 + p)) → (sm = paysF now p n - paysF now p (now (10 + p) - j)) → V F 4 G 0 0 13 [(0, .ref a), (2, .int (iI sm)), (3, .int (iI j))] [] := by
    intro N
    induction N with
    | zero => intro sm j hN; exact absurd hN (Nat.not_lt_zero _)
    | succ N ih13 =>
      intro sm j hN13 hj hsm
      refine r_iload_n S dX8_worth_13 2 rfl ?_
      refine r_aload_n S dX8_worth_14 0 rfl ?_
      refine r_get S gtX8_15_X8 ha rfl dX8_worth_15 ?_
      refine r_icmp_ge S 45 dX8_worth_18 (by decide) (by omega) (by omega) (fun c18 => ?_) (fun c18 => ?_)
      · skip
        refine r_iload_n S dX8_worth_45 1 rfl ?_
        exact ret.i sm dX8_worth_46 (by rw [hsm, show now (10 + p) - j = 0 by omega, paysF_0]; omega)
      · skip
        refine r_iload_n S dX8_worth_21 2 rfl ?_
        refine r_aload_n S dX8_worth_22 0 rfl ?_
        refine r_get S gtX8_9_X8 ha rfl dX8_worth_23 ?_
        refine r_alenI S hfa dX8_worth_26 ?_
        refine r_icmp_ge S 45 dX8_worth_27 (by decide) (by omega) (by omega) (fun c27 => absurd c27 (by omega)) (fun c27 => ?_)
        refine r_iload_n S dX8_worth_30 1 rfl ?_
        refine r_aload_n S dX8_worth_31 0 rfl ?_
        refine r_get S gtX8_9_X8 ha rfl dX8_worth_32 ?_
        refine r_iload_n S dX8_worth_35 2 rfl ?_
        refine r_iald S hfa (by omega) (by omega) (by omega) dX8_worth_36 ?_
        refine r_iadd_e (sf j + sm) (by omega) S dX8_worth_37 ?_
        refine r_istore_n (L' := [(2, .int (iI (sf j + sm))), (0, .ref a), (3, .int (iI j))]) S dX8_worth_38 (by decide) rfl ?_
        have hsj := hsf j (by omega) (by omega)
        have hps := paysF_s h1 (m := now (10 + p) - j - 1) (by omega)
        rw [show 1 + (now (10 + p) - j - 1) = now (10 + p) - j by omega, show now (10 + p) - (now (10 + p) - j) = j by omega] at hps
        refine r_iinc_e (L' := [(3, .int (iI (1 + j))), (2, .int (iI (sf j + sm))), (0, .ref a)]) (1 + j) (by omega) S dX8_worth_39 2 rfl (by decide) rfl ?_
        refine r_goto S 13 dX8_worth_42 (by decide) ?_
        refine V.sub [2, 1, 0] rfl ?_
        exact ih13 (sf j + sm) (1 + j) (by omega) (by omega) (by rw [hsj, show now (10 + p) - (1 + j) = now (10 + p) - j - 1 by omega]; omega)
  refine V.sub [2, 1, 0] rfl ?_
  exact L13 _ 0 (now (10 + p) - n) (Nat.lt_succ_self _) (by omega) (by rw [show now (10 + p) - (now (10 + p) - n) = n by omega]; omega)

set_option maxRecDepth 20000 in
set_option maxHeartbeats 2000000 in
theorem kX8_ofFace {D : va_G} {G : gh} {now : Int → Int} {p : Int} {a fa : Nat} {sf : Int → Int} (ha : G a = some (eO 8 [.int (iI (fsF now p)), .int (iI (now (10 + p))), .ref fa])) (hfa : G fa = some (eI D 40 sf)) (hsf : ∀ k : Int, 0 ≤ k → k < now (10 + p) → sf k = now (60 + 40 * p + k)) (h1 : now p = 1) (hk : 0 ≤ now (10 + p) ∧ now (10 + p) ≤ 40) (hS : ∀ j : Int, 0 ≤ j → j < now (10 + p) → 0 ≤ now (60 + 40 * p + j) ∧ now (60 + 40 * p + j) ≤ 500) {f n : Int} (hf : inR f) (hn : 0 ≤ n ∧ n ≤ now (10 + p)) : CP ⟨"PostageCounter$Strip", "ofFace", "(II)I"⟩ prog_10_method_5_code 5 (some .int) 1 21 D [.ref a, .int (iI f), .int (iI n)] G (pI (fun z => z = goneF now p n f)) := by
  refine CP.enter (by decide +kernel) (Nat.le_of_ble_eq_true rfl) (fun F S ret => ?_)
  show V F 5 G 0 0 0 [(0, .ref a), (1, .int (iI f)), (2, .int (iI n))] []
  refine r_iconst S dX8_ofFace_0 ?_
  refine r_istore_n (L' := [(3, .int (iI 0)), (0, .ref a), (1, .int (iI f)), (2, .int (iI n))]) S dX8_ofFace_1 (by decide) rfl ?_
  refine r_iconst S dX8_ofFace_2 ?_
  refine r_aload_n S dX8_ofFace_3 1 rfl ?_
  refine r_get S gtX8_15_X8 ha rfl dX8_ofFace_4 ?_
  refine r_iload_n S dX8_ofFace_7 3 rfl ?_
  refine r_isub_e (now (10 + p) - n) (by omega) S dX8_ofFace_8 ?_
  refine r_mmax w405 w406 w41 w407 (by decide) (by decide) ⟨by omega, by omega⟩ (by omega) (by omega) S dX8_ofFace_9 ?_
  rw [show max 0 (now (10 + p) - n) = now (10 + p) - n by omega]
  refine r_istore (L' := [(4, .int (iI (now (10 + p) - n))), (3, .int (iI 0)), (0, .ref a), (1, .int (iI f)), (2, .int (iI n))]) S dX8_ofFace_12 (by decide) rfl ?_
  have L14 : ∀ (N : Nat) (sm : Int) (j : Int), (now (10 + p) - j).toNat < N → (now (10 + p) - n ≤ j ∧ j ≤ now (10 + p)) → (sm = goneF now p n f - goneF now p (now (10 + p) - j) f) → V F 5 G 0 0 14 [(0, .ref a), (1, .int (iI f)), (2, .int (iI n)), (3, .int (iI sm)), (4, .int (iI j))] [] := by
    intro N
    induction N with
    | zero => intro sm j hN; exact absurd hN (Nat.not_lt_zero _)
    | succ N ih14 =>
      intro sm j hN14 hj hsm
      refine r_iload S dX8_ofFace_14 4 rfl ?_
      refine r_aload_n S dX8_ofFace_16 0 rfl ?_
      refine r_get S gtX8_15_X8 ha rfl dX8_ofFace_17 ?_
      refine r_icmp_ge S 53 dX8_ofFace_20 (by decide) (by omega) (by omega) (fun c20 => ?_) (fun c20 => ?_)
      · skip
        refine r_iload_n S dX8_ofFace_53 3 rfl ?_
        exact ret.i sm dX8_ofFace_54 (by rw [hsm, show now (10 + p) - j = 0 by omega, goneF_0]; omega)
      · skip
        refine r_iload S dX8_ofFace_23 4 rfl ?_
        refine r_aload_n S dX8_ofFace_25 0 rfl ?_
        refine r_get S gtX8_9_X8 ha rfl dX8_ofFace_26 ?_
        refine r_alenI S hfa dX8_ofFace_29 ?_
        refine r_icmp_ge S 53 dX8_ofFace_30 (by decide) (by omega) (by omega) (fun c30 => absurd c30 (by omega)) (fun c30 => ?_)
        have hps := goneF_s (now := now) (p := p) (f := f) (m := now (10 + p) - j - 1) (by omega)
        rw [show 1 + (now (10 + p) - j - 1) = now (10 + p) - j by omega] at hps
        have hfk : faceK now p (now (10 + p) - j - 1) = now (60 + 40 * p + j) := by unfold faceK; rw [if_pos h1]; congr 1; omega
        rw [hfk] at hps
        have hsb := hS j (by omega) (by omega)
        refine r_aload_n S dX8_ofFace_33 0 rfl ?_
        refine r_get S gtX8_9_X8 ha rfl dX8_ofFace_34 ?_
        refine r_iload S dX8_ofFace_37 4 rfl ?_
        refine r_iald S hfa (by omega) (by omega) (by omega) dX8_ofFace_39 ?_
        rw [hsf j (by omega) (by omega)]
        refine r_iload_n S dX8_ofFace_40 1 rfl ?_
        refine r_icmp_ne S 47 dX8_ofFace_41 (by decide) (by omega) (by omega) (fun c41 => ?_) (fun c41 => ?_)
        · skip
          refine r_iinc_e (L' := [(4, .int (iI (1 + j))), (0, .ref a), (1, .int (iI f)), (2, .int (iI n)), (3, .int (iI sm))]) (1 + j) (by omega) S dX8_ofFace_47 4 rfl (by decide) rfl ?_
          refine r_goto S 14 dX8_ofFace_50 (by decide) ?_
          refine V.sub [1, 2, 3, 4, 0] rfl ?_
          exact ih14 sm (1 + j) (by omega) (by omega) (by rw [if_neg (by omega)] at hps; rw [show now (10 + p) - (1 + j) = now (10 + p) - j - 1 by omega]; omega)
        · skip
          refine r_iinc_e (L' := [(3, .int (iI (1 + sm))), (0, .ref a), (1, .int (iI f)), (2, .int (iI n)), (4, .int (iI j))]) (1 + sm) (by omega) S dX8_ofFace_44 3 rfl (by decide) rfl ?_
          refine r_iinc_e (L' := [(4, .int (iI (1 + j))), (3, .int (iI (1 + sm))), (0, .ref a), (1, .int (iI f)), (2, .int (iI n))]) (1 + j) (by omega) S dX8_ofFace_47 4 rfl (by decide) rfl ?_
          refine r_goto S 14 dX8_ofFace_50 (by decide) ?_
          refine V.sub [2, 3, 4, 1, 0] rfl ?_
          exact ih14 (1 + sm) (1 + j) (by omega) (by omega) (by rw [if_pos (by omega)] at hps; rw [show now (10 + p) - (1 + j) = now (10 + p) - j - 1 by omega]; omega)
  refine V.sub [2, 3, 4, 1, 0] rfl ?_
  exact L14 _ 0 (now (10 + p) - n) (Nat.lt_succ_self _) (by omega) (by rw [show now (10 + p) - (now (10 + p) - n) = n by omega]; omega)

set_option maxRecDepth 20000 in
set_option maxHeartbeats 2000000 in
theorem kX0_unitAt {D : va_G} {G : gh} {a : Nat} {q f n r c m : Int} {x fc lc : BitVec 64} (hB : bO G a q f n r c m x fc lc) (hq : q = 1) {s : Int} (h0 : 0 ≤ s ∧ s < 64) : CP ⟨"PostageCounter$Block", "unitAt", "(I)J"⟩ prog_2_method_5_code 2 (some .long) 0 0 D [.ref a, .int (iI s)] G (pL (fun z => z = uB q x s)) := by
  refine CP.enter (by decide +kernel) (Nat.le_of_ble_eq_true rfl) (fun F S ret => ?_)
  show V F 2 G 0 0 0 [(0, .ref a), (1, .int (iI s))] []
  refine r_aload_n S dX0_unitAt_0 0 rfl ?_
  refine rB_squares S hB gtX0_27_X0 gtX0_27_X4 dX0_unitAt_1 ?_
  refine r_lconst S 1#64 dX0_unitAt_4 (by decide) ?_
  refine r_iload_n S dX0_unitAt_5 1 rfl ?_
  refine r_lshl S ⟨by omega, by omega⟩ dX0_unitAt_6 ?_
  refine r_land S dX0_unitAt_7 ?_
  exact ret.l (x &&& ((1#64) <<< (Int.toNat s))) dX0_unitAt_8 (by unfold uB; rw [if_pos hq])

set_option maxRecDepth 20000 in
set_option maxHeartbeats 2000000 in
theorem kX4_unitAt {D : va_G} {G : gh} {a : Nat} {f n r c m : Int} {x fc lc : BitVec 64} (ha : G a = some (eO 4 [.int (iI r), .int (iI c), .int (iI m), .long (lB x), .long (lB fc), .long (lB lc), .int (iI f), .int (iI n)])) {s : Int} (h0 : 0 ≤ s ∧ s < 64) : CP ⟨"PostageCounter$Pair", "unitAt", "(I)J"⟩ prog_6_method_5_code 2 (some .long) 0 0 D [.ref a, .int (iI s)] G (pL (fun z => z = uB 2 x s)) := by
  refine CP.enter (by decide +kernel) (Nat.le_of_ble_eq_true rfl) (fun F S ret => ?_)
  show V F 2 G 0 0 0 [(0, .ref a), (1, .int (iI s))] []
  refine r_iload_n S dX4_unitAt_0 1 rfl ?_
  refine r_iconst S dX4_unitAt_1 ?_
  refine r_irem S dX4_unitAt_2 (by omega) (by omega) ?_
  refine r_if_ne S 19 dX4_unitAt_3 (by decide) (by omega) (fun c3 => ?_) (fun c3 => ?_)
  · skip
    refine r_lconst S 0#64 dX4_unitAt_19 (by decide) ?_
    exact ret.l (0#64) dX4_unitAt_20 (by unfold uB; rw [if_neg (by decide), if_neg (by omega)])
  · skip
    refine r_aload_n S dX4_unitAt_6 0 rfl ?_
    refine r_get S gtX4_22_X4 ha rfl dX4_unitAt_7 ?_
    refine r_ldc2 (BitVec.ofInt 64 (3)) w603 (by decide) S dX4_unitAt_10 ?_
    refine r_iload_n S dX4_unitAt_13 1 rfl ?_
    refine r_lshl S ⟨by omega, by omega⟩ dX4_unitAt_14 ?_
    refine r_land S dX4_unitAt_15 ?_
    refine r_goto S 20 dX4_unitAt_16 (by decide) ?_
    exact ret.l (x &&& ((BitVec.ofInt 64 (3)) <<< (Int.toNat s))) dX4_unitAt_20 (by unfold uB; rw [if_neg (by decide), if_pos (by omega)])

section VD
variable {F : fxT} {cc : ByteArray} {nL : Nat} {own : String} {rm : Room} {D : va_G} {N : Nat → Prop} {G : gh} {ce sl pc idx : Nat} {L : List (Nat × Value)} {st : List Value} {a : Nat}
set_option maxRecDepth 20000 in
theorem vdB_unitAt {q f n r c m : Int} {x fc lc : BitVec 64} {s : Int} (h0 : 0 ≤ s ∧ s < 64) (S : FX F cc nL own rm D) (hB : bO G a q f n r c m x fc lc) (hlv : 1 ≤ rm.frames ∧ 21 ≤ rm.locals) (hsl : ce + 0 ≤ rm.cells ∧ sl + 0 ≤ rm.slots) (hcat : (st.map fun v => v.category).sum ≤ 8) (hl : Cond.methodLink own idx ⟨"PostageCounter$Block", "unitAt", "(I)J"⟩ ∈ WS) (d : decode cc pc = .ok (.invokevirtual idx, 3)) : RnP F nL G ce sl pc (.int (iI s) :: .ref a :: st) st (pL (fun z => z = uB q x s)) := by
  have hB0 := hB
  rcases hB with ⟨hq, hb⟩ | ⟨hq, hb⟩
  · exact c_V_P (As := [.int (iI s)]) (st := st) S (kX0_unitAt hB0 hq h0) moX0_unitAt (show lvl rm 2 0 0 from ⟨by omega, by omega⟩) ⟨by omega, by omega⟩ rfl hcat hl w597 w598 hb rfl rfl d
  · exact c_U_P (C := "PostageCounter$Pair") (owner := "PostageCounter$Block") (x := ⟨"PostageCounter$Block", "unitAt", "(I)J"⟩) (As := [.int (iI s)]) (st := st) S ((show CP _ _ _ _ _ _ _ _ _ (pL (fun z => z = uB q x s)) from by rw [hq]; exact kX4_unitAt hb h0)) moX4_unitAt (show lvl rm 2 0 0 from ⟨by omega, by omega⟩) ⟨by omega, by omega⟩ rfl hcat hl w599 w597 w604 ⟨by decide +kernel, by decide +kernel, by decide +kernel⟩ w601 w600 hb rfl rfl d
set_option maxRecDepth 20000 in
theorem vdB_together {q f n r c m : Int} {x fc lc : BitVec 64}  (S : FX F cc nL own rm D) (hB : bO G a q f n r c m x fc lc) (hlv : 1 ≤ rm.frames ∧ 20 ≤ rm.locals) (hsl : ce + 0 ≤ rm.cells ∧ sl + 0 ≤ rm.slots) (hcat : (st.map fun v => v.category).sum ≤ 8) (hl : Cond.methodLink own idx ⟨"PostageCounter$Block", "together", "()I"⟩ ∈ WS) (d : decode cc pc = .ok (.invokevirtual idx, 3)) : RnP F nL G ce sl pc (.ref a :: st) st (pI (fun z => z = q)) := by
  have hB0 := hB
  rcases hB with ⟨hq, hb⟩ | ⟨hq, hb⟩
  · exact c_U_P (C := "PostageCounter$Block") (owner := "PostageCounter$Plain") (x := ⟨"PostageCounter$Block", "together", "()I"⟩) (As := []) (st := st) S ((show CP _ _ _ _ _ _ _ _ _ (pI (fun z => z = q)) from by rw [hq]; exact kX6_together)) moX6_together (show lvl rm 1 0 0 from ⟨by omega, by omega⟩) ⟨by omega, by omega⟩ rfl hcat hl w587 w550 w559 ⟨by decide +kernel, by decide +kernel, by decide +kernel⟩ w550 w589 hb rfl rfl d
  · exact c_U_P (C := "PostageCounter$Pair") (owner := "PostageCounter$Plain") (x := ⟨"PostageCounter$Block", "together", "()I"⟩) (As := []) (st := st) S ((show CP _ _ _ _ _ _ _ _ _ (pI (fun z => z = q)) from by rw [hq]; exact kX4_together)) moX4_together (show lvl rm 1 0 0 from ⟨by omega, by omega⟩) ⟨by omega, by omega⟩ rfl hcat hl w587 w550 w559 ⟨by decide +kernel, by decide +kernel, by decide +kernel⟩ w556 w590 hb rfl rfl d
end VD

set_option maxRecDepth 20000 in
set_option maxHeartbeats 2000000 in
theorem kX0_refusalOfRow {D : va_G} {G : gh} {a : Nat} {q f n r c m : Int} {x fc lc : BitVec 64} (hB : bO G a q f n r c m x fc lc) (hm : 0 ≤ m ∧ m < 256) (hr : 0 ≤ r ∧ r ≤ 8) {i : Int} (hi : inR i) : CP ⟨"PostageCounter$Block", "refusalOfRow", "(I)I"⟩ prog_2_method_7_code 2 (some .int) 1 22 D [.ref a, .int (iI i)] G (pI (fun z => z = (if ¬ (0 ≤ i ∧ i ≤ r - 1) then -13 else if m / (2 : Int) ^ i.toNat % 2 = 1 then -11 else 0))) := by
  refine CP.enter (by decide +kernel) (Nat.le_of_ble_eq_true rfl) (fun F S ret => ?_)
  show V F 2 G 0 0 0 [(0, .ref a), (1, .int (iI i))] []
  refine r_iload_n S dX0_refusalOfRow_0 1 rfl ?_
  refine r_iconst S dX0_refusalOfRow_1 ?_
  refine r_aload_n S dX0_refusalOfRow_2 0 rfl ?_
  refine rB_rows S hB gtX0_15_X0 gtX0_15_X4 dX0_refusalOfRow_3 ?_
  refine r_iconst S dX0_refusalOfRow_6 ?_
  refine r_isub S dX0_refusalOfRow_7 ?_
  refine (c_SN_P (host := "PostageCounter") (As := [.int (iI i), .int (iI 0), .int (iI (r - 1))]) (st := []) S (kX10_within (by omega) (by omega) (by omega)) moX10_within ⟨by decide, by decide⟩ ⟨by omega, by omega⟩ rfl (Nat.le_of_ble_eq_true rfl) (by decide) w155 rfl dX0_refusalOfRow_8).goI (fun r8 hc8 => ?_)
  refine r_if_ne S 17 dX0_refusalOfRow_11 (by decide) (by omega) (fun c11 => ?_) (fun c11 => ?_)
  · skip
    replace hc8 := zz1 hc8 c11
    refine r_aload_n S dX0_refusalOfRow_17 0 rfl ?_
    refine rB_missing S hB gtX0_24_X0 gtX0_24_X4 dX0_refusalOfRow_18 ?_
    refine r_iconst S dX0_refusalOfRow_21 ?_
    refine r_iload_n S dX0_refusalOfRow_22 1 rfl ?_
    refine r_ishl S dX0_refusalOfRow_23 (fun z23 hz23 ez23 => ?_)
    refine r_iand S dX0_refusalOfRow_24 (fun z24 hz24 ez24 => ?_)
    have hms := ms_and hm (r := i) ⟨by omega, by omega⟩ ez23 ez24 hz24
    refine r_if_eq S 33 dX0_refusalOfRow_25 (by decide) (by omega) (fun c25 => ?_) (fun c25 => ?_)
    · skip
      refine r_iconst S dX0_refusalOfRow_33 ?_
      exact ret.i 0 dX0_refusalOfRow_34 (by rw [if_neg (by omega), if_neg (by exact hms.mp c25)])
    · skip
      refine r_bipush S dX0_refusalOfRow_28 (by decide) ?_
      refine r_goto S 34 dX0_refusalOfRow_30 (by decide) ?_
      exact ret.i (-11) dX0_refusalOfRow_34 (by rw [if_neg (by omega), if_pos (by exact Classical.byContradiction (fun e => c25 (hms.mpr e)))])
  · skip
    replace hc8 := zz0 hc8 c11
    refine r_bipush S dX0_refusalOfRow_14 (by decide) ?_
    exact ret.i (-13) dX0_refusalOfRow_16 (by rw [if_pos (by omega)])
