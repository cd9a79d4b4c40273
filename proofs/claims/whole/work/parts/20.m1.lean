set_option maxRecDepth 20000 in
set_option maxHeartbeats 2000000 in
theorem kX11_in {D : va_G} {G : gh} {a b c : Int} (ha : inR a) (hb : inR b) (hc : inR c) : CP ⟨"PostageCounterModel", "in", "(III)Z"⟩ prog_13_method_3_code 3 (some .boolean) 0 0 D [.int (iI a), .int (iI b), .int (iI c)] G (pI (fun z => (z = 1 ∧ (b ≤ a ∧ a ≤ c)) ∨ (z = 0 ∧ ¬ (b ≤ a ∧ a ≤ c)))) := by
  refine CP.enter (by decide +kernel) (Nat.le_of_ble_eq_true rfl) (fun F S ret => ?_)
  show V F 3 G 0 0 0 [(0, .int (iI a)), (1, .int (iI b)), (2, .int (iI c))] []
  refine r_iload_n S dX11_in_0 0 rfl ?_
  refine r_iload_n S dX11_in_1 1 rfl ?_
  refine r_icmp_lt S 14 dX11_in_2 (by decide) (by omega) (by omega) (fun c2 => ?_) (fun c2 => ?_)
  · skip
    refine r_iconst S dX11_in_14 ?_
    exact ret.z 0 dX11_in_15 (by omega) (by omega)
  · skip
    refine r_iload_n S dX11_in_5 0 rfl ?_
    refine r_iload_n S dX11_in_6 2 rfl ?_
    refine r_icmp_gt S 14 dX11_in_7 (by decide) (by omega) (by omega) (fun c7 => ?_) (fun c7 => ?_)
    · skip
      refine r_iconst S dX11_in_14 ?_
      exact ret.z 0 dX11_in_15 (by omega) (by omega)
    · skip
      refine r_iconst S dX11_in_10 ?_
      refine r_goto S 15 dX11_in_11 (by decide) ?_
      exact ret.z 1 dX11_in_15 (by omega) (by omega)

set_option maxRecDepth 20000 in
set_option maxHeartbeats 2000000 in
theorem kX10_within {D : va_G} {G : gh} {a b c : Int} (ha : inR a) (hb : inR b) (hc : inR c) : CP ⟨"PostageCounter", "within", "(III)Z"⟩ prog_1_method_25_code 3 (some .boolean) 0 0 D [.int (iI a), .int (iI b), .int (iI c)] G (pI (fun z => (z = 1 ∧ (b ≤ a ∧ a ≤ c)) ∨ (z = 0 ∧ ¬ (b ≤ a ∧ a ≤ c)))) := by
  refine CP.enter (by decide +kernel) (Nat.le_of_ble_eq_true rfl) (fun F S ret => ?_)
  show V F 3 G 0 0 0 [(0, .int (iI a)), (1, .int (iI b)), (2, .int (iI c))] []
  refine r_iload_n S dX10_within_0 0 rfl ?_
  refine r_iload_n S dX10_within_1 1 rfl ?_
  refine r_icmp_lt S 14 dX10_within_2 (by decide) (by omega) (by omega) (fun c2 => ?_) (fun c2 => ?_)
  · skip
    refine r_iconst S dX10_within_14 ?_
    exact ret.z 0 dX10_within_15 (by omega) (by omega)
  · skip
    refine r_iload_n S dX10_within_5 0 rfl ?_
    refine r_iload_n S dX10_within_6 2 rfl ?_
    refine r_icmp_gt S 14 dX10_within_7 (by decide) (by omega) (by omega) (fun c7 => ?_) (fun c7 => ?_)
    · skip
      refine r_iconst S dX10_within_14 ?_
      exact ret.z 0 dX10_within_15 (by omega) (by omega)
    · skip
      refine r_iconst S dX10_within_10 ?_
      refine r_goto S 15 dX10_within_11 (by decide) ?_
      exact ret.z 1 dX10_within_15 (by omega) (by omega)

set_option maxRecDepth 20000 in
set_option maxHeartbeats 2000000 in
theorem kX11_isHeld {D : va_G} {A : Nat → Nat} {th ke km rd : Int} {now kept reel part best : Int → Int} {G : gh} (hm : mS D A th ke km rd now kept reel part best G) {p : Int} (hp : 0 ≤ p ∧ p < 10) (hk : inR (now p)) : CP ⟨"PostageCounterModel", "isHeld", "(I)Z"⟩ prog_13_method_6_code 2 (some .boolean) 0 0 D [.ref (A 0), .int (iI p)] G (pI (fun z => (z = 1 ∧ (now p ≠ -1)) ∨ (z = 0 ∧ ¬ (now p ≠ -1)))) := by
  refine CP.enter (by decide +kernel) (Nat.le_of_ble_eq_true rfl) (fun F S ret => ?_)
  show V F 2 G 0 0 0 [(0, .ref (A 0)), (1, .int (iI p))] []
  refine r_aload_n S dX11_isHeld_0 0 rfl ?_
  refine m_get_now S hm gtX11_7_X11 dX11_isHeld_1 ?_
  refine r_iconst S dX11_isHeld_4 ?_
  refine r_iload_n S dX11_isHeld_5 1 rfl ?_
  refine r_iadd_e p (by omega) S dX11_isHeld_6 ?_
  refine m_ld_now S hm (by omega) (by omega) dX11_isHeld_7 ?_
  refine r_iconst S dX11_isHeld_8 ?_
  refine r_icmp_eq S 16 dX11_isHeld_9 (by decide) (by omega) (by omega) (fun c9 => ?_) (fun c9 => ?_)
  · skip
    refine r_iconst S dX11_isHeld_16 ?_
    exact ret.z 0 dX11_isHeld_17 (by omega) (by omega)
  · skip
    refine r_iconst S dX11_isHeld_12 ?_
    refine r_goto S 17 dX11_isHeld_13 (by decide) ?_
    exact ret.z 1 dX11_isHeld_17 (by omega) (by omega)

set_option maxRecDepth 20000 in
set_option maxHeartbeats 2000000 in
theorem kX11_isSheet {D : va_G} {A : Nat → Nat} {th ke km rd : Int} {now kept reel part best : Int → Int} {G : gh} (hm : mS D A th ke km rd now kept reel part best G) {p : Int} (hp : 0 ≤ p ∧ p < 10) (hk : inR (now p)) : CP ⟨"PostageCounterModel", "isSheet", "(I)Z"⟩ prog_13_method_7_code 2 (some .boolean) 0 0 D [.ref (A 0), .int (iI p)] G (pI (fun z => (z = 1 ∧ (now p = 2 ∨ now p = 3)) ∨ (z = 0 ∧ ¬ (now p = 2 ∨ now p = 3)))) := by
  refine CP.enter (by decide +kernel) (Nat.le_of_ble_eq_true rfl) (fun F S ret => ?_)
  show V F 2 G 0 0 0 [(0, .ref (A 0)), (1, .int (iI p))] []
  refine r_aload_n S dX11_isSheet_0 0 rfl ?_
  refine m_get_now S hm gtX11_7_X11 dX11_isSheet_1 ?_
  refine r_iconst S dX11_isSheet_4 ?_
  refine r_iload_n S dX11_isSheet_5 1 rfl ?_
  refine r_iadd_e p (by omega) S dX11_isSheet_6 ?_
  refine m_ld_now S hm (by omega) (by omega) dX11_isSheet_7 ?_
  refine r_iconst S dX11_isSheet_8 ?_
  refine r_icmp_eq S 24 dX11_isSheet_9 (by decide) (by omega) (by omega) (fun c9 => ?_) (fun c9 => ?_)
  · skip
    refine r_iconst S dX11_isSheet_24 ?_
    refine r_goto S 29 dX11_isSheet_25 (by decide) ?_
    exact ret.z 1 dX11_isSheet_29 (by omega) (by omega)
  · skip
    refine r_aload_n S dX11_isSheet_12 0 rfl ?_
    refine m_get_now S hm gtX11_7_X11 dX11_isSheet_13 ?_
    refine r_iconst S dX11_isSheet_16 ?_
    refine r_iload_n S dX11_isSheet_17 1 rfl ?_
    refine r_iadd_e p (by omega) S dX11_isSheet_18 ?_
    refine m_ld_now S hm (by omega) (by omega) dX11_isSheet_19 ?_
    refine r_iconst S dX11_isSheet_20 ?_
    refine r_icmp_ne S 28 dX11_isSheet_21 (by decide) (by omega) (by omega) (fun c21 => ?_) (fun c21 => ?_)
    · skip
      refine r_iconst S dX11_isSheet_28 ?_
      exact ret.z 0 dX11_isSheet_29 (by omega) (by omega)
    · skip
      refine r_iconst S dX11_isSheet_24 ?_
      refine r_goto S 29 dX11_isSheet_25 (by decide) ?_
      exact ret.z 1 dX11_isSheet_29 (by omega) (by omega)

set_option maxRecDepth 20000 in
set_option maxHeartbeats 2000000 in
theorem kX11_squareAt {D : va_G} {A : Nat → Nat} {th ke km rd : Int} {now kept reel part best : Int → Int} {G : gh} (hm : mS D A th ke km rd now kept reel part best G) {p k : Int} : CP ⟨"PostageCounterModel", "squareAt", "(II)I"⟩ prog_13_method_8_code 3 (some .int) 0 0 D [.ref (A 0), .int (iI p), .int (iI k)] G (pI (fun z => z = 460 + 64 * p + k)) := by
  refine CP.enter (by decide +kernel) (Nat.le_of_ble_eq_true rfl) (fun F S ret => ?_)
  show V F 3 G 0 0 0 [(0, .ref (A 0)), (1, .int (iI p)), (2, .int (iI k))] []
  refine r_sipush S dX11_squareAt_0 (by decide) ?_
  refine r_bipush S dX11_squareAt_3 (by decide) ?_
  refine r_iload_n S dX11_squareAt_5 1 rfl ?_
  refine r_imul S dX11_squareAt_6 ?_
  refine r_iadd_e (460 + 64 * p) (by omega) S dX11_squareAt_7 ?_
  refine r_iload_n S dX11_squareAt_8 2 rfl ?_
  refine r_iadd_e (460 + 64 * p + k) (by omega) S dX11_squareAt_9 ?_
  exact ret.i (460 + 64 * p + k) dX11_squareAt_10 rfl

set_option maxRecDepth 20000 in
set_option maxHeartbeats 2000000 in
theorem kX11_stampAt {D : va_G} {A : Nat → Nat} {th ke km rd : Int} {now kept reel part best : Int → Int} {G : gh} (hm : mS D A th ke km rd now kept reel part best G) {p k : Int} : CP ⟨"PostageCounterModel", "stampAt", "(II)I"⟩ prog_13_method_9_code 3 (some .int) 0 0 D [.ref (A 0), .int (iI p), .int (iI k)] G (pI (fun z => z = 60 + 40 * p + k)) := by
  refine CP.enter (by decide +kernel) (Nat.le_of_ble_eq_true rfl) (fun F S ret => ?_)
  show V F 3 G 0 0 0 [(0, .ref (A 0)), (1, .int (iI p)), (2, .int (iI k))] []
  refine r_bipush S dX11_stampAt_0 (by decide) ?_
  refine r_bipush S dX11_stampAt_2 (by decide) ?_
  refine r_iload_n S dX11_stampAt_4 1 rfl ?_
  refine r_imul S dX11_stampAt_5 ?_
  refine r_iadd_e (60 + 40 * p) (by omega) S dX11_stampAt_6 ?_
  refine r_iload_n S dX11_stampAt_7 2 rfl ?_
  refine r_iadd_e (60 + 40 * p + k) (by omega) S dX11_stampAt_8 ?_
  exact ret.i (60 + 40 * p + k) dX11_stampAt_9 rfl

set_option maxRecDepth 20000 in
set_option maxHeartbeats 2000000 in
theorem kX11_squares {D : va_G} {A : Nat → Nat} {th ke km rd : Int} {now kept reel part best : Int → Int} {G : gh} (hm : mS D A th ke km rd now kept reel part best G) {p : Int} (hp : 0 ≤ p ∧ p < 10) : CP ⟨"PostageCounterModel", "squares", "(I)I"⟩ prog_13_method_10_code 2 (some .int) 0 0 D [.ref (A 0), .int (iI p)] G (pI (fun z => z = now (40 + p) * now (50 + p))) := by
  refine CP.enter (by decide +kernel) (Nat.le_of_ble_eq_true rfl) (fun F S ret => ?_)
  show V F 2 G 0 0 0 [(0, .ref (A 0)), (1, .int (iI p))] []
  refine r_aload_n S dX11_squares_0 0 rfl ?_
  refine m_get_now S hm gtX11_7_X11 dX11_squares_1 ?_
  refine r_bipush S dX11_squares_4 (by decide) ?_
  refine r_iload_n S dX11_squares_6 1 rfl ?_
  refine r_iadd S dX11_squares_7 ?_
  refine m_ld_now S hm (by omega) (by omega) dX11_squares_8 ?_
  refine r_aload_n S dX11_squares_9 0 rfl ?_
  refine m_get_now S hm gtX11_7_X11 dX11_squares_10 ?_
  refine r_bipush S dX11_squares_13 (by decide) ?_
  refine r_iload_n S dX11_squares_15 1 rfl ?_
  refine r_iadd S dX11_squares_16 ?_
  refine m_ld_now S hm (by omega) (by omega) dX11_squares_17 ?_
  refine r_imul S dX11_squares_18 ?_
  exact ret.i ((now (40 + p)) * (now (50 + p))) dX11_squares_19 rfl

set_option maxRecDepth 20000 in
set_option maxHeartbeats 2000000 in
theorem kX11_mayGive {D : va_G} {A : Nat → Nat} {th ke km rd : Int} {now kept reel part best : Int → Int} {G : gh} (hm : mS D A th ke km rd now kept reel part best G) {p n : Int} (hp : 0 ≤ p ∧ p < 10) (hk : inR (now p)) (hn : 0 ≤ n ∧ n ≤ 1000) : CP ⟨"PostageCounterModel", "mayGive", "(II)Z"⟩ prog_13_method_35_code 3 (some .boolean) 0 0 D [.ref (A 0), .int (iI p), .int (iI n)] G (pI (fun z => (z = 1 ∧ (now p = 3 → n % 2 = 0)) ∨ (z = 0 ∧ ¬ (now p = 3 → n % 2 = 0)))) := by
  refine CP.enter (by decide +kernel) (Nat.le_of_ble_eq_true rfl) (fun F S ret => ?_)
  show V F 3 G 0 0 0 [(0, .ref (A 0)), (1, .int (iI p)), (2, .int (iI n))] []
  refine r_aload_n S dX11_mayGive_0 0 rfl ?_
  refine m_get_now S hm gtX11_7_X11 dX11_mayGive_1 ?_
  refine r_iconst S dX11_mayGive_4 ?_
  refine r_iload_n S dX11_mayGive_5 1 rfl ?_
  refine r_iadd_e p (by omega) S dX11_mayGive_6 ?_
  refine m_ld_now S hm (by omega) (by omega) dX11_mayGive_7 ?_
  refine r_iconst S dX11_mayGive_8 ?_
  refine r_icmp_ne S 18 dX11_mayGive_9 (by decide) (by omega) (by omega) (fun c9 => ?_) (fun c9 => ?_)
  · skip
    refine r_iconst S dX11_mayGive_18 ?_
    refine r_goto S 23 dX11_mayGive_19 (by decide) ?_
    exact ret.z 1 dX11_mayGive_23 (by omega) (by omega)
  · skip
    refine r_iload_n S dX11_mayGive_12 2 rfl ?_
    refine r_iconst S dX11_mayGive_13 ?_
    refine r_irem S dX11_mayGive_14 (by omega) (by omega) ?_
    refine r_if_ne S 22 dX11_mayGive_15 (by decide) (by omega) (fun c15 => ?_) (fun c15 => ?_)
    · skip
      refine r_iconst S dX11_mayGive_22 ?_
      exact ret.z 0 dX11_mayGive_23 (by omega) (by omega)
    · skip
      refine r_iconst S dX11_mayGive_18 ?_
      refine r_goto S 23 dX11_mayGive_19 (by decide) ?_
      exact ret.z 1 dX11_mayGive_23 (by omega) (by omega)

set_option maxRecDepth 20000 in
set_option maxHeartbeats 2000000 in
theorem kX11_isOf {D : va_G} {A : Nat → Nat} {th ke km rd : Int} {now kept reel part best : Int → Int} {G : gh} (hm : mS D A th ke km rd now kept reel part best G) {p k : Int} (hp : 0 ≤ p ∧ p < 10) (hk : inR (now p)) (hk2 : inR k) : CP ⟨"PostageCounterModel", "isOf", "(II)Z"⟩ prog_13_method_19_code 4 (some .boolean) 0 0 D [.ref (A 0), .int (iI p), .int (iI k)] G (pI (fun z => (z = 1 ∧ (k = 0 ∨ now p = k ∨ (k = 2 ∧ now p = 3))) ∨ (z = 0 ∧ ¬ (k = 0 ∨ now p = k ∨ (k = 2 ∧ now p = 3))))) := by
  refine CP.enter (by decide +kernel) (Nat.le_of_ble_eq_true rfl) (fun F S ret => ?_)
  show V F 4 G 0 0 0 [(0, .ref (A 0)), (1, .int (iI p)), (2, .int (iI k))] []
  refine r_aload_n S dX11_isOf_0 0 rfl ?_
  refine m_get_now S hm gtX11_7_X11 dX11_isOf_1 ?_
  refine r_iconst S dX11_isOf_4 ?_
  refine r_iload_n S dX11_isOf_5 1 rfl ?_
  refine r_iadd_e p (by omega) S dX11_isOf_6 ?_
  refine m_ld_now S hm (by omega) (by omega) dX11_isOf_7 ?_
  refine r_istore_n (L' := [(3, .int (iI (now p))), (0, .ref (A 0)), (1, .int (iI p)), (2, .int (iI k))]) S dX11_isOf_8 (by decide) rfl ?_
  refine r_iload_n S dX11_isOf_9 3 rfl ?_
  refine r_if_eq S 28 dX11_isOf_10 (by decide) (by omega) (fun c10 => ?_) (fun c10 => ?_)
  · skip
    refine r_iconst S dX11_isOf_28 ?_
    refine r_goto S 33 dX11_isOf_29 (by decide) ?_
    exact ret.z 1 dX11_isOf_33 (by omega) (by omega)
  · skip
    refine r_iload_n S dX11_isOf_13 0 rfl ?_
    refine r_iload_n S dX11_isOf_14 3 rfl ?_
    refine r_icmp_eq S 28 dX11_isOf_15 (by decide) (by omega) (by omega) (fun c15 => ?_) (fun c15 => ?_)
    · skip
      refine r_iconst S dX11_isOf_28 ?_
      refine r_goto S 33 dX11_isOf_29 (by decide) ?_
      exact ret.z 1 dX11_isOf_33 (by omega) (by omega)
    · skip
      refine r_iload_n S dX11_isOf_18 3 rfl ?_
      refine r_iconst S dX11_isOf_19 ?_
      refine r_icmp_ne S 32 dX11_isOf_20 (by decide) (by omega) (by omega) (fun c20 => ?_) (fun c20 => ?_)
      · skip
        refine r_iconst S dX11_isOf_32 ?_
        exact ret.z 0 dX11_isOf_33 (by omega) (by omega)
      · skip
        refine r_iload_n S dX11_isOf_23 0 rfl ?_
        refine r_iconst S dX11_isOf_24 ?_
        refine r_icmp_ne S 32 dX11_isOf_25 (by decide) (by omega) (by omega) (fun c25 => ?_) (fun c25 => ?_)
        · skip
          refine r_iconst S dX11_isOf_32 ?_
          exact ret.z 0 dX11_isOf_33 (by omega) (by omega)
        · skip
          refine r_iconst S dX11_isOf_28 ?_
          refine r_goto S 33 dX11_isOf_29 (by decide) ?_
          exact ret.z 1 dX11_isOf_33 (by omega) (by omega)

set_option maxRecDepth 20000 in
set_option maxHeartbeats 2000000 in
theorem kX9_priceFor {D : va_G} {G : gh} {a ga pa n1 n2 : Nat} {n w : Int} {f h : Int → Int} (ha : G a = some (eO 9 [.int (iI n), .ref ga, .ref pa])) (hga : G ga = some (eI D n1 f)) (hpa : G pa = some (eI D n2 h)) (hn : 0 ≤ n ∧ n ≤ 8 ∧ n ≤ n1 ∧ n ≤ n2 ∧ n1 ≤ 8 ∧ n2 ≤ 8) (hR : ∀ j, 0 ≤ j → j < n → inR (f j)) (hw : inR w) : CP ⟨"PostageCounter$Way", "priceFor", "(I)I"⟩ prog_11_method_5_code 3 (some .int) 0 0 D [.ref a, .int (iI w)] G (pI (fun z => (∃ i, 0 ≤ i ∧ i < n ∧ w ≤ f i ∧ (∀ j, 0 ≤ j → j < i → f j < w) ∧ z = h i) ∨ (z = -1 ∧ ∀ j, 0 ≤ j → j < n → f j < w))) := by
  refine CP.enter (by decide +kernel) (Nat.le_of_ble_eq_true rfl) (fun F S ret => ?_)
  show V F 3 G 0 0 0 [(0, .ref a), (1, .int (iI w))] []
  refine r_iconst S dX9_priceFor_0 ?_
  refine r_istore_n (L' := [(2, .int (iI 0)), (0, .ref a), (1, .int (iI w))]) S dX9_priceFor_1 (by decide) rfl ?_
  have L2 : ∀ (N : Nat) (i : Int), (n - i).toNat < N → (0 ≤ i ∧ i ≤ n) → (∀ j, 0 ≤ j → j < i → f j < w) → V F 3 G 0 0 2 [(0, .ref a), (1, .int (iI w)), (2, .int (iI i))] [] := by
    intro N
    induction N with
    | zero => intro i hN; exact absurd hN (Nat.not_lt_zero _)
    | succ N ih2 =>
      intro i hN2 hi hf
      refine r_iload_n S dX9_priceFor_2 2 rfl ?_
      refine r_aload_n S dX9_priceFor_3 0 rfl ?_
      refine r_get S gtX9_15_X9 ha rfl dX9_priceFor_4 ?_
      refine r_icmp_ge S 33 dX9_priceFor_7 (by decide) (by omega) (by omega) (fun c7 => ?_) (fun c7 => ?_)
      · skip
        refine r_iconst S dX9_priceFor_33 ?_
        exact ret.i (-1) dX9_priceFor_34 (Or.inr ⟨by decide, fun j h0 h1 => hf j h0 (by omega)⟩)
      · skip
        refine r_aload_n S dX9_priceFor_10 0 rfl ?_
        refine r_get S gtX9_21_X9 ha rfl dX9_priceFor_11 ?_
        refine r_iload_n S dX9_priceFor_14 2 rfl ?_
        refine r_iald S hga (by omega) (by omega) (by omega) dX9_priceFor_15 ?_
        refine r_iload_n S dX9_priceFor_16 1 rfl ?_
        have hr17 := hR i hi.1 (by omega)
        refine r_icmp_lt S 27 dX9_priceFor_17 (by decide) (by omega) (by omega) (fun c17 => ?_) (fun c17 => ?_)
        · skip
          refine r_iinc_e (L' := [(2, .int (iI (1 + i))), (0, .ref a), (1, .int (iI w))]) (1 + i) (by omega) S dX9_priceFor_27 2 rfl (by decide) rfl ?_
          refine r_goto S 2 dX9_priceFor_30 (by decide) ?_
          refine V.sub [1, 2, 0] rfl ?_
          exact ih2 (1 + i) (by omega) (by omega) (fun j h0 h1 => by rcases (show j < i ∨ j = i by omega) with q | q; exact hf j h0 q; subst q; omega)
        · skip
          refine r_aload_n S dX9_priceFor_20 0 rfl ?_
          refine r_get S gtX9_25_X9 ha rfl dX9_priceFor_21 ?_
          refine r_iload_n S dX9_priceFor_24 2 rfl ?_
          refine r_iald S hpa (by omega) (by omega) (by omega) dX9_priceFor_25 ?_
          exact ret.i (h i) dX9_priceFor_26 (Or.inl ⟨i, hi.1, by omega, by omega, hf, rfl⟩)
  refine V.sub [1, 2, 0] rfl ?_
  exact L2 _ 0 (Nat.lt_succ_self _) (by omega) (fun j h0 h1 => absurd h1 (by omega))
