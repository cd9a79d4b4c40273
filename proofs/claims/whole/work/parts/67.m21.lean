set_option maxRecDepth 20000 in
set_option maxHeartbeats 2000000 in
theorem kX6_init_6 {D : va_G} {G : gh} {a : Nat} {f n : Int} {v0 v1 : Value} (ha : G a = some (eO 6 [v0, v1]))  : CT ⟨"PostageCounter$Plain", "<init>", "(II)V"⟩ prog_8_method_1_code 3 none 1 20 0 0 D [.ref a, .int (iI f), .int (iI n)] G (fun x => x = a) (tV (fun G' => G' a = some (eO 6 [.int (iI f), .int (iI n)]))) := by
  refine CT.enter (by decide +kernel) (Nat.le_of_ble_eq_true rfl) (fun F S ret hb hM hI => ?_)
  show V F 3 G 0 0 0 [(0, .ref a), (1, .int (iI f)), (2, .int (iI n))] []
  refine r_aload_n S dX6_init_0 0 rfl ?_
  refine r_objInit w164 w58 w59 (by decide) (by show _ + 12 ≤ _; decide) S dX6_init_1 ?_
  refine r_aload_n S dX6_init_4 0 rfl ?_
  refine r_iload_n S dX6_init_5 1 rfl ?_
  refine r_putF S hb (hI rfl) ptX6_9_X6 ha (hM _ rfl) (by show _ < 2; decide) rfl rfl dX6_init_6 ?_
  refine k_set (fun G6 hc6 ho6 => ?_)
  refine r_aload_n S dX6_init_9 0 rfl ?_
  refine r_iload_n S dX6_init_10 2 rfl ?_
  refine r_putF S hb (hI rfl) ptX6_15_X6 hc6 (hM _ rfl) (by show _ < 2; decide) rfl rfl dX6_init_11 ?_
  refine k_set (fun G11 hc11 ho11 => ?_)
  exact ret.tv dX6_init_14 (by omega) (by omega) hc11

set_option maxRecDepth 20000 in
set_option maxHeartbeats 2000000 in
theorem kX6_init_3 {D : va_G} {G : gh} {a : Nat} {f n : Int} {v0 v1 v2 : Value} (ha : G a = some (eO 3 [v0, v1, v2]))  : CT ⟨"PostageCounter$Plain", "<init>", "(II)V"⟩ prog_8_method_1_code 3 none 1 20 0 0 D [.ref a, .int (iI f), .int (iI n)] G (fun x => x = a) (tV (fun G' => G' a = some (eO 3 [.int (iI f), .int (iI n), v2]))) := by
  refine CT.enter (by decide +kernel) (Nat.le_of_ble_eq_true rfl) (fun F S ret hb hM hI => ?_)
  show V F 3 G 0 0 0 [(0, .ref a), (1, .int (iI f)), (2, .int (iI n))] []
  refine r_aload_n S dX6_init_0 0 rfl ?_
  refine r_objInit w164 w58 w59 (by decide) (by show _ + 12 ≤ _; decide) S dX6_init_1 ?_
  refine r_aload_n S dX6_init_4 0 rfl ?_
  refine r_iload_n S dX6_init_5 1 rfl ?_
  refine r_putF S hb (hI rfl) ptX6_9_X3 ha (hM _ rfl) (by show _ < 3; decide) rfl rfl dX6_init_6 ?_
  refine k_set (fun G6 hc6 ho6 => ?_)
  refine r_aload_n S dX6_init_9 0 rfl ?_
  refine r_iload_n S dX6_init_10 2 rfl ?_
  refine r_putF S hb (hI rfl) ptX6_15_X3 hc6 (hM _ rfl) (by show _ < 3; decide) rfl rfl dX6_init_11 ?_
  refine k_set (fun G11 hc11 ho11 => ?_)
  exact ret.tv dX6_init_14 (by omega) (by omega) hc11

set_option maxRecDepth 20000 in
set_option maxHeartbeats 2000000 in
theorem kX6_init_8 {D : va_G} {G : gh} {a : Nat} {f n : Int} {v0 v1 v2 : Value} (ha : G a = some (eO 8 [v0, v1, v2]))  : CT ⟨"PostageCounter$Plain", "<init>", "(II)V"⟩ prog_8_method_1_code 3 none 1 20 0 0 D [.ref a, .int (iI f), .int (iI n)] G (fun x => x = a) (tV (fun G' => G' a = some (eO 8 [.int (iI f), .int (iI n), v2]))) := by
  refine CT.enter (by decide +kernel) (Nat.le_of_ble_eq_true rfl) (fun F S ret hb hM hI => ?_)
  show V F 3 G 0 0 0 [(0, .ref a), (1, .int (iI f)), (2, .int (iI n))] []
  refine r_aload_n S dX6_init_0 0 rfl ?_
  refine r_objInit w164 w58 w59 (by decide) (by show _ + 12 ≤ _; decide) S dX6_init_1 ?_
  refine r_aload_n S dX6_init_4 0 rfl ?_
  refine r_iload_n S dX6_init_5 1 rfl ?_
  refine r_putF S hb (hI rfl) ptX6_9_X8 ha (hM _ rfl) (by show _ < 3; decide) rfl rfl dX6_init_6 ?_
  refine k_set (fun G6 hc6 ho6 => ?_)
  refine r_aload_n S dX6_init_9 0 rfl ?_
  refine r_iload_n S dX6_init_10 2 rfl ?_
  refine r_putF S hb (hI rfl) ptX6_15_X8 hc6 (hM _ rfl) (by show _ < 3; decide) rfl rfl dX6_init_11 ?_
  refine k_set (fun G11 hc11 ho11 => ?_)
  exact ret.tv dX6_init_14 (by omega) (by omega) hc11

set_option maxRecDepth 20000 in
set_option maxHeartbeats 2000000 in
theorem kX6_init_0 {D : va_G} {G : gh} {a : Nat} {f n : Int} {v0 v1 v2 v3 v4 v5 v6 v7 : Value} (ha : G a = some (eO 0 [v0, v1, v2, v3, v4, v5, v6, v7]))  : CT ⟨"PostageCounter$Plain", "<init>", "(II)V"⟩ prog_8_method_1_code 3 none 1 20 0 0 D [.ref a, .int (iI f), .int (iI n)] G (fun x => x = a) (tV (fun G' => G' a = some (eO 0 [.int (iI f), .int (iI n), v2, v3, v4, v5, v6, v7]))) := by
  refine CT.enter (by decide +kernel) (Nat.le_of_ble_eq_true rfl) (fun F S ret hb hM hI => ?_)
  show V F 3 G 0 0 0 [(0, .ref a), (1, .int (iI f)), (2, .int (iI n))] []
  refine r_aload_n S dX6_init_0 0 rfl ?_
  refine r_objInit w164 w58 w59 (by decide) (by show _ + 12 ≤ _; decide) S dX6_init_1 ?_
  refine r_aload_n S dX6_init_4 0 rfl ?_
  refine r_iload_n S dX6_init_5 1 rfl ?_
  refine r_putF S hb (hI rfl) ptX6_9_X0 ha (hM _ rfl) (by show _ < 8; decide) rfl rfl dX6_init_6 ?_
  refine k_set (fun G6 hc6 ho6 => ?_)
  refine r_aload_n S dX6_init_9 0 rfl ?_
  refine r_iload_n S dX6_init_10 2 rfl ?_
  refine r_putF S hb (hI rfl) ptX6_15_X0 hc6 (hM _ rfl) (by show _ < 8; decide) rfl rfl dX6_init_11 ?_
  refine k_set (fun G11 hc11 ho11 => ?_)
  exact ret.tv dX6_init_14 (by omega) (by omega) hc11

set_option maxRecDepth 20000 in
set_option maxHeartbeats 2000000 in
theorem kX6_init_4 {D : va_G} {G : gh} {a : Nat} {f n : Int} {v0 v1 v2 v3 v4 v5 v6 v7 : Value} (ha : G a = some (eO 4 [v0, v1, v2, v3, v4, v5, v6, v7]))  : CT ⟨"PostageCounter$Plain", "<init>", "(II)V"⟩ prog_8_method_1_code 3 none 1 20 0 0 D [.ref a, .int (iI f), .int (iI n)] G (fun x => x = a) (tV (fun G' => G' a = some (eO 4 [v0, v1, v2, v3, v4, v5, .int (iI f), .int (iI n)]))) := by
  refine CT.enter (by decide +kernel) (Nat.le_of_ble_eq_true rfl) (fun F S ret hb hM hI => ?_)
  show V F 3 G 0 0 0 [(0, .ref a), (1, .int (iI f)), (2, .int (iI n))] []
  refine r_aload_n S dX6_init_0 0 rfl ?_
  refine r_objInit w164 w58 w59 (by decide) (by show _ + 12 ≤ _; decide) S dX6_init_1 ?_
  refine r_aload_n S dX6_init_4 0 rfl ?_
  refine r_iload_n S dX6_init_5 1 rfl ?_
  refine r_putF S hb (hI rfl) ptX6_9_X4 ha (hM _ rfl) (by show _ < 8; decide) rfl rfl dX6_init_6 ?_
  refine k_set (fun G6 hc6 ho6 => ?_)
  refine r_aload_n S dX6_init_9 0 rfl ?_
  refine r_iload_n S dX6_init_10 2 rfl ?_
  refine r_putF S hb (hI rfl) ptX6_15_X4 hc6 (hM _ rfl) (by show _ < 8; decide) rfl rfl dX6_init_11 ?_
  refine k_set (fun G11 hc11 ho11 => ?_)
  exact ret.tv dX6_init_14 (by omega) (by omega) hc11

set_option maxRecDepth 20000 in
set_option maxHeartbeats 2000000 in
theorem kX3_init {D : va_G} {G : gh} {a : Nat} {b f n : Int} {v0 v1 v2 : Value} (ha : G a = some (eO 3 [v0, v1, v2]))  : CT ⟨"PostageCounter$Over", "<init>", "(III)V"⟩ prog_5_method_1_code 4 none 2 42 0 0 D [.ref a, .int (iI b), .int (iI f), .int (iI n)] G (fun x => x = a) (tV (fun G' => G' a = some (eO 3 [.int (iI f), .int (iI n), .int (iI b)]))) := by
  refine CT.enter (by decide +kernel) (Nat.le_of_ble_eq_true rfl) (fun F S ret hb hM hI => ?_)
  show V F 4 G 0 0 0 [(0, .ref a), (1, .int (iI b)), (2, .int (iI f)), (3, .int (iI n))] []
  refine r_aload_n S dX3_init_0 0 rfl ?_
  refine r_iload_n S dX3_init_1 2 rfl ?_
  refine r_iload_n S dX3_init_2 3 rfl ?_
  refine (c_I_T (As := [.int (iI f), .int (iI n)]) (st := []) (M1 := fun x => x = a) S (kX6_init_3 ha) moX6_init ⟨by decide, by decide⟩ ⟨by omega, by omega⟩ rfl (Nat.le_of_ble_eq_true rfl) w214 w162 rfl rfl dX3_init_3).goV S hb (fun x e => e ▸ (hM _ rfl)) (fun G3 hx3 hc3 => ?_)
  refine r_aload_n S dX3_init_6 0 rfl ?_
  refine r_iload_n S dX3_init_7 1 rfl ?_
  refine r_putF S hb (hI rfl) ptX3_9_X3 hc3 (hM _ rfl) (by show _ < 3; decide) rfl rfl dX3_init_8 ?_
  refine k_set (fun G8 hc8 ho8 => ?_)
  exact ret.tv dX3_init_11 (by omega) (by omega) hc8

set_option maxRecDepth 20000 in
set_option maxHeartbeats 2000000 in
theorem kX8_init {D : va_G} {G : gh} {a : Nat} {n : Int} {fa : Nat} {sf : Int → Int} {v0 v1 v2 : Value} (ha : G a = some (eO 8 [v0, v1, v2])) (hfa : G fa = some (eI D 40 sf)) (hne : fa ≠ a) (hn : 0 ≤ n ∧ n ≤ 40) : CT ⟨"PostageCounter$Strip", "<init>", "([II)V"⟩ prog_10_method_1_code 3 none 2 42 0 0 D [.ref a, .ref fa, .int (iI n)] G (fun x => x = a) (tV (fun G' => G' a = some (eO 8 [.int (iI (if n = 0 then 0 else sf (n - 1))), .int (iI n), .ref fa]))) := by
  refine CT.enter (by decide +kernel) (Nat.le_of_ble_eq_true rfl) (fun F S ret hb hM hI => ?_)
  show V F 3 G 0 0 0 [(0, .ref a), (1, .ref fa), (2, .int (iI n))] []
  refine r_aload_n S dX8_init_0 0 rfl ?_
  refine r_iload_n S dX8_init_1 2 rfl ?_
  refine r_if_le S 19 dX8_init_2 (by decide) (by omega) (fun c2 => ?_) (fun c2 => ?_)
  · skip
    refine r_iconst S dX8_init_19 ?_
    refine r_iload_n S dX8_init_20 2 rfl ?_
    refine (c_I_T (As := [.int (iI 0), .int (iI n)]) (st := []) (M1 := fun x => x = a) S (kX6_init_8 ha) moX6_init ⟨by decide, by decide⟩ ⟨by omega, by omega⟩ rfl (Nat.le_of_ble_eq_true rfl) w242 w162 rfl rfl dX8_init_21).goV S hb (fun x e => e ▸ (hM _ rfl)) (fun G21 hx21 hc21 => ?_)
    refine r_aload_n S dX8_init_24 0 rfl ?_
    refine r_aload_n S dX8_init_25 1 rfl ?_
    refine r_putF S hb (hI rfl) ptX8_9_X8 hc21 (hM _ rfl) (by show _ < 3; decide) rfl rfl dX8_init_26 ?_
    refine k_set (fun G26 hc26 ho26 => ?_)
    exact ret.tv dX8_init_29 (by omega) (by omega) (by first | (rw [if_pos (by omega)]; exact hc26) | (rw [if_neg (by omega)]; exact hc26))
  · skip
    refine r_iload_n S dX8_init_5 2 rfl ?_
    refine r_aload_n S dX8_init_6 1 rfl ?_
    refine r_alenI S hfa dX8_init_7 ?_
    refine r_icmp_gt S 19 dX8_init_8 (by decide) (by omega) (by omega) (fun c8 => absurd c8 (by omega)) (fun c8 => ?_)
    refine r_aload_n S dX8_init_11 1 rfl ?_
    refine r_iload_n S dX8_init_12 2 rfl ?_
    refine r_iconst S dX8_init_13 ?_
    refine r_isub S dX8_init_14 ?_
    refine r_iald S hfa (by omega) (by omega) (by omega) dX8_init_15 ?_
    refine r_goto S 20 dX8_init_16 (by decide) ?_
    refine r_iload_n S dX8_init_20 2 rfl ?_
    refine (c_I_T (As := [.int (iI (sf (n - 1))), .int (iI n)]) (st := []) (M1 := fun x => x = a) S (kX6_init_8 ha) moX6_init ⟨by decide, by decide⟩ ⟨by omega, by omega⟩ rfl (Nat.le_of_ble_eq_true rfl) w242 w162 rfl rfl dX8_init_21).goV S hb (fun x e => e ▸ (hM _ rfl)) (fun G21 hx21 hc21 => ?_)
    refine r_aload_n S dX8_init_24 0 rfl ?_
    refine r_aload_n S dX8_init_25 1 rfl ?_
    refine r_putF S hb (hI rfl) ptX8_9_X8 hc21 (hM _ rfl) (by show _ < 3; decide) rfl rfl dX8_init_26 ?_
    refine k_set (fun G26 hc26 ho26 => ?_)
    exact ret.tv dX8_init_29 (by omega) (by omega) (by first | (rw [if_pos (by omega)]; exact hc26) | (rw [if_neg (by omega)]; exact hc26))

set_option maxRecDepth 20000 in
set_option maxHeartbeats 2000000 in
theorem kX2_initN {D : va_G} {G : gh} {a : Nat} {pr : Int} {v0 v1 : Value} (ha : G a = some (eO 2 [v0, v1]))  : CT ⟨"PostageCounter$Letter", "<init>", "(ILPostageCounter$Payment;)V"⟩ prog_4_method_1_code 3 none 1 20 0 0 D [.ref a, .int (iI pr), .null] G (fun x => x = a) (tV (fun G' => G' a = some (eO 2 [.int (iI pr), .null]))) := by
  refine CT.enter (by decide +kernel) (Nat.le_of_ble_eq_true rfl) (fun F S ret hb hM hI => ?_)
  show V F 3 G 0 0 0 [(0, .ref a), (1, .int (iI pr)), (2, .null)] []
  refine r_aload_n S dX2_init_0 0 rfl ?_
  refine r_objInit w494 w58 w59 (by decide) (by show _ + 12 ≤ _; decide) S dX2_init_1 ?_
  refine r_aload_n S dX2_init_4 0 rfl ?_
  refine r_iload_n S dX2_init_5 1 rfl ?_
  refine r_putF S hb (hI rfl) ptX2_7_X2 ha (hM _ rfl) (by show _ < 2; decide) rfl rfl dX2_init_6 ?_
  refine k_set (fun G6 hc6 ho6 => ?_)
  refine r_aload_n S dX2_init_9 0 rfl ?_
  refine r_aload_nN S dX2_init_10 2 rfl ?_
  refine r_putF S hb (hI rfl) ptX2_13_X2 hc6 (hM _ rfl) (by show _ < 2; decide) rfl rfl dX2_init_11 ?_
  refine k_set (fun G11 hc11 ho11 => ?_)
  exact ret.tv dX2_init_14 (by omega) (by omega) hc11

set_option maxRecDepth 20000 in
set_option maxHeartbeats 2000000 in
theorem kX2_init {D : va_G} {G : gh} {a : Nat} {pr : Int} {v0 v1 : Value} {pb : Nat} (ha : G a = some (eO 2 [v0, v1]))  : CT ⟨"PostageCounter$Letter", "<init>", "(ILPostageCounter$Payment;)V"⟩ prog_4_method_1_code 3 none 1 20 0 0 D [.ref a, .int (iI pr), .ref pb] G (fun x => x = a) (tV (fun G' => G' a = some (eO 2 [.int (iI pr), .ref pb]))) := by
  refine CT.enter (by decide +kernel) (Nat.le_of_ble_eq_true rfl) (fun F S ret hb hM hI => ?_)
  show V F 3 G 0 0 0 [(0, .ref a), (1, .int (iI pr)), (2, .ref pb)] []
  refine r_aload_n S dX2_init_0 0 rfl ?_
  refine r_objInit w494 w58 w59 (by decide) (by show _ + 12 ≤ _; decide) S dX2_init_1 ?_
  refine r_aload_n S dX2_init_4 0 rfl ?_
  refine r_iload_n S dX2_init_5 1 rfl ?_
  refine r_putF S hb (hI rfl) ptX2_7_X2 ha (hM _ rfl) (by show _ < 2; decide) rfl rfl dX2_init_6 ?_
  refine k_set (fun G6 hc6 ho6 => ?_)
  refine r_aload_n S dX2_init_9 0 rfl ?_
  refine r_aload_n S dX2_init_10 2 rfl ?_
  refine r_putF S hb (hI rfl) ptX2_13_X2 hc6 (hM _ rfl) (by show _ < 2; decide) rfl rfl dX2_init_11 ?_
  refine k_set (fun G11 hc11 ho11 => ?_)
  exact ret.tv dX2_init_14 (by omega) (by omega) hc11

set_option maxRecDepth 20000 in
set_option maxHeartbeats 2000000 in
theorem kX5_init {D : va_G} {G : gh} {a : Nat} {sm : Int} {fa ca sa : Nat} {v0 v1 v2 v3 : Value} (ha : G a = some (eO 5 [v0, v1, v2, v3]))  : CT ⟨"PostageCounter$Payment", "<init>", "(I[LPostageCounter$Plain;[I[J)V"⟩ prog_7_method_1_code 5 none 1 20 0 0 D [.ref a, .int (iI sm), .ref fa, .ref ca, .ref sa] G (fun x => x = a) (tV (fun G' => G' a = some (eO 5 [.int (iI sm), .ref fa, .ref ca, .ref sa]))) := by
  refine CT.enter (by decide +kernel) (Nat.le_of_ble_eq_true rfl) (fun F S ret hb hM hI => ?_)
  show V F 5 G 0 0 0 [(0, .ref a), (1, .int (iI sm)), (2, .ref fa), (3, .ref ca), (4, .ref sa)] []
  refine r_aload_n S dX5_init_0 0 rfl ?_
  refine r_objInit w626 w58 w59 (by decide) (by show _ + 12 ≤ _; decide) S dX5_init_1 ?_
  refine r_aload_n S dX5_init_4 0 rfl ?_
  refine r_iload_n S dX5_init_5 1 rfl ?_
  refine r_putF S hb (hI rfl) ptX5_9_X5 ha (hM _ rfl) (by show _ < 4; decide) rfl rfl dX5_init_6 ?_
  refine k_set (fun G6 hc6 ho6 => ?_)
  refine r_aload_n S dX5_init_9 0 rfl ?_
  refine r_aload_n S dX5_init_10 2 rfl ?_
  refine r_putF S hb (hI rfl) ptX5_15_X5 hc6 (hM _ rfl) (by show _ < 4; decide) rfl rfl dX5_init_11 ?_
  refine k_set (fun G11 hc11 ho11 => ?_)
  refine r_aload_n S dX5_init_14 0 rfl ?_
  refine r_aload_n S dX5_init_15 3 rfl ?_
  refine r_putF S hb (hI rfl) ptX5_19_X5 hc11 (hM _ rfl) (by show _ < 4; decide) rfl rfl dX5_init_16 ?_
  refine k_set (fun G16 hc16 ho16 => ?_)
  refine r_aload_n S dX5_init_19 0 rfl ?_
  refine r_aload S dX5_init_20 4 rfl ?_
  refine r_putF S hb (hI rfl) ptX5_23_X5 hc16 (hM _ rfl) (by show _ < 4; decide) rfl rfl dX5_init_22 ?_
  refine k_set (fun G22 hc22 ho22 => ?_)
  exact ret.tv dX5_init_25 (by omega) (by omega) hc22

set_option maxRecDepth 20000 in
set_option maxHeartbeats 2000000 in
theorem kX7_init {D : va_G} {G : gh} {a : Nat} {pa la wa ea : Nat} {v0 v1 v2 v3 : Value} (ha : G a = some (eO 7 [v0, v1, v2, v3]))  : CT ⟨"PostageCounter$State", "<init>", "([LPostageCounter$Plain;[LPostageCounter$Letter;[LPostageCounter$Way;[I)V"⟩ prog_9_method_1_code 5 none 1 20 0 0 D [.ref a, .ref pa, .ref la, .ref wa, .ref ea] G (fun x => x = a) (tV (fun G' => G' a = some (eO 7 [.ref pa, .ref la, .ref wa, .ref ea]))) := by
  refine CT.enter (by decide +kernel) (Nat.le_of_ble_eq_true rfl) (fun F S ret hb hM hI => ?_)
  show V F 5 G 0 0 0 [(0, .ref a), (1, .ref pa), (2, .ref la), (3, .ref wa), (4, .ref ea)] []
  refine r_aload_n S dX7_init_0 0 rfl ?_
  refine r_objInit w109 w58 w59 (by decide) (by show _ + 12 ≤ _; decide) S dX7_init_1 ?_
  refine r_aload_n S dX7_init_4 0 rfl ?_
  refine r_aload_n S dX7_init_5 1 rfl ?_
  refine r_putF S hb (hI rfl) ptX7_9_X7 ha (hM _ rfl) (by show _ < 4; decide) rfl rfl dX7_init_6 ?_
  refine k_set (fun G6 hc6 ho6 => ?_)
  refine r_aload_n S dX7_init_9 0 rfl ?_
  refine r_aload_n S dX7_init_10 2 rfl ?_
  refine r_putF S hb (hI rfl) ptX7_15_X7 hc6 (hM _ rfl) (by show _ < 4; decide) rfl rfl dX7_init_11 ?_
  refine k_set (fun G11 hc11 ho11 => ?_)
  refine r_aload_n S dX7_init_14 0 rfl ?_
  refine r_aload_n S dX7_init_15 3 rfl ?_
  refine r_putF S hb (hI rfl) ptX7_19_X7 hc11 (hM _ rfl) (by show _ < 4; decide) rfl rfl dX7_init_16 ?_
  refine k_set (fun G16 hc16 ho16 => ?_)
  refine r_aload_n S dX7_init_19 0 rfl ?_
  refine r_aload S dX7_init_20 4 rfl ?_
  refine r_putF S hb (hI rfl) ptX7_23_X7 hc16 (hM _ rfl) (by show _ < 4; decide) rfl rfl dX7_init_22 ?_
  refine k_set (fun G22 hc22 ho22 => ?_)
  exact ret.tv dX7_init_25 (by omega) (by omega) hc22

set_option maxRecDepth 20000 in
set_option maxHeartbeats 2000000 in
theorem kX9_init {D : va_G} {G : gh} {a : Nat} {ga pa m0 : Nat} {gf pf : Int → Int} {v0 v1 v2 : Value} (ha : G a = some (eO 9 [v0, v1, v2])) (hga : G ga = some (eI D m0 gf)) (hpa : G pa = some (eI D m0 pf)) (hm0 : m0 ≤ 8) : CT ⟨"PostageCounter$Way", "<init>", "([I[I)V"⟩ prog_11_method_1_code 3 none 1 21 0 0 D [.ref a, .ref ga, .ref pa] G (fun x => x = a) (tV (fun G' => G' a = some (eO 9 [.int (iI m0), .ref ga, .ref pa]))) := by
  refine CT.enter (by decide +kernel) (Nat.le_of_ble_eq_true rfl) (fun F S ret hb hM hI => ?_)
  show V F 3 G 0 0 0 [(0, .ref a), (1, .ref ga), (2, .ref pa)] []
  refine r_aload_n S dX9_init_0 0 rfl ?_
  refine r_objInit w85 w58 w59 (by decide) (by show _ + 12 ≤ _; decide) S dX9_init_1 ?_
  refine r_aload_n S dX9_init_4 0 rfl ?_
  refine r_aload_n S dX9_init_5 1 rfl ?_
  refine r_alenI S hga dX9_init_6 ?_
  refine r_aload_n S dX9_init_7 2 rfl ?_
  refine r_alenI S hpa dX9_init_8 ?_
  refine r_mmin w86 w87 w41 w88 (by decide) (Nat.le_of_ble_eq_true rfl) ⟨by omega, by omega⟩ (by omega) (by omega) S dX9_init_9 ?_
  rw [show min (m0 : Int) m0 = m0 by omega]
  refine r_putF S hb (hI rfl) ptX9_15_X9 ha (hM _ rfl) (by show _ < 3; decide) rfl rfl dX9_init_12 ?_
  refine k_set (fun G12 hc12 ho12 => ?_)
  refine r_aload_n S dX9_init_15 0 rfl ?_
  refine r_aload_n S dX9_init_16 1 rfl ?_
  refine r_putF S hb (hI rfl) ptX9_21_X9 hc12 (hM _ rfl) (by show _ < 3; decide) rfl rfl dX9_init_17 ?_
  refine k_set (fun G17 hc17 ho17 => ?_)
  refine r_aload_n S dX9_init_20 0 rfl ?_
  refine r_aload_n S dX9_init_21 2 rfl ?_
  refine r_putF S hb (hI rfl) ptX9_25_X9 hc17 (hM _ rfl) (by show _ < 3; decide) rfl rfl dX9_init_22 ?_
  refine k_set (fun G22 hc22 ho22 => ?_)
  exact ret.tv dX9_init_25 (by omega) (by omega) hc22

set_option maxRecDepth 20000 in
set_option maxHeartbeats 2000000 in
theorem kX0_firstColumnOf {D : va_G} {G : gh} {r c : Int} (hs : shP r c) : CP ⟨"PostageCounter$Block", "firstColumnOf", "(II)J"⟩ prog_2_method_2_code 5 (some .long) 0 0 D [.int (iI r), .int (iI c)] G (pL (fun z => fcOK r c z)) := by
  refine CP.enter (by decide +kernel) (Nat.le_of_ble_eq_true rfl) (fun F S ret => ?_)
  show V F 5 G 0 0 0 [(0, .int (iI r)), (1, .int (iI c))] []
  have hsr := hs.1
  have hsc := hs.2
  refine r_lconst S 0#64 dX0_firstColumnOf_0 (by decide) ?_
  refine r_lstore_n (L' := [(2, .long (lB (0#64))), (0, .int (iI r)), (1, .int (iI c))]) S dX0_firstColumnOf_1 (by decide) rfl ?_
  refine r_iconst S dX0_firstColumnOf_2 ?_
  refine r_istore (L' := [(4, .int (iI 0)), (2, .long (lB (0#64))), (0, .int (iI r)), (1, .int (iI c))]) S dX0_firstColumnOf_3 (by decide) rfl ?_
  have L5 : ∀ (N : Nat) (cl : BitVec 64) (i : Int), (r - i).toNat < N → (0 ≤ i ∧ i ≤ r) → (∀ k : Int, 0 ≤ k → k < 64 → (bI cl k = true ↔ k < i * c ∧ k % c = 0)) → V F 5 G 0 0 5 [(0, .int (iI r)), (1, .int (iI c)), (2, .long (lB cl)), (4, .int (iI i))] [] := by
    intro N
    induction N with
    | zero => intro cl i hN; exact absurd hN (Nat.not_lt_zero _)
    | succ N ih5 =>
      intro cl i hN5 hi hcl
      refine r_iload S dX0_firstColumnOf_5 3 rfl ?_
      refine r_iload_n S dX0_firstColumnOf_7 0 rfl ?_
      refine r_icmp_ge S 26 dX0_firstColumnOf_8 (by decide) (by omega) (by omega) (fun c8 => ?_) (fun c8 => ?_)
      · skip
        refine r_lload_n S dX0_firstColumnOf_26 2 rfl ?_
        exact ret.l cl dX0_firstColumnOf_27 (fun k k0 k1 => by rw [hcl k k0 k1, show i = r by omega])
      · skip
        refine r_lload_n S dX0_firstColumnOf_11 2 rfl ?_
        refine r_lconst S 1#64 dX0_firstColumnOf_12 (by decide) ?_
        refine r_iload S dX0_firstColumnOf_13 3 rfl ?_
        refine r_iload_n S dX0_firstColumnOf_15 1 rfl ?_
        refine r_imul S dX0_firstColumnOf_16 ?_
        refine r_lshl S (ic_bd hs (by omega) (by omega)) dX0_firstColumnOf_17 ?_
        refine r_lor S dX0_firstColumnOf_18 ?_
        refine r_lstore_n (L' := [(2, .long (lB (cl ||| ((1#64) <<< (Int.toNat (i * c)))))), (0, .int (iI r)), (1, .int (iI c)), (4, .int (iI i))]) S dX0_firstColumnOf_19 (by decide) rfl ?_
        refine r_iinc_e (L' := [(4, .int (iI (1 + i))), (2, .long (lB (cl ||| ((1#64) <<< (Int.toNat (i * c)))))), (0, .int (iI r)), (1, .int (iI c))]) (1 + i) (by omega) S dX0_firstColumnOf_20 3 rfl (by decide) rfl ?_
        refine r_goto S 5 dX0_firstColumnOf_23 (by decide) ?_
        refine V.sub [2, 3, 1, 0] rfl ?_
        exact ih5 (cl ||| ((1#64) <<< (Int.toNat (i * c)))) (1 + i) (by omega) (by omega) (fun k k0 k1 => by have hib := ic_bd hs (i := i) (by omega) (by omega); rw [bB_or, hcl k k0 k1, bB_one (by omega) k0 k1, show ((Int.toNat (i * c) : Nat) : Int) = i * c by omega]; exact fc_step hs.2.1 hs.2.2)
  refine V.sub [2, 3, 1, 0] rfl ?_
  exact L5 _ (0#64) 0 (Nat.lt_succ_self _) (by have := hs.1; omega) (fun k k0 k1 => ⟨fun h => absurd h bB_0, fun h => by omega⟩)

set_option maxRecDepth 20000 in
set_option maxHeartbeats 2000000 in
theorem kX0_init_0 {D : va_G} {G : gh} {a : Nat} {f r c m : Int} {x : BitVec 64} {v0 v1 v2 v3 v4 v5 v6 v7 : Value} (ha : G a = some (eO 0 [v0, v1, v2, v3, v4, v5, v6, v7])) (hs : shP r c) : CT ⟨"PostageCounter$Block", "<init>", "(IIIIJ)V"⟩ prog_2_method_1_code 7 none 2 42 0 0 D [.ref a, .int (iI f), .int (iI r), .int (iI c), .int (iI m), .long (lB x)] G (fun x => x = a) (tV (fun G' => ∃ fc lc : BitVec 64, G' a = some (eO 0 [.int (iI f), .int (iI (cB x)), .int (iI r), .int (iI c), .int (iI m), .long (lB x), .long (lB fc), .long (lB lc)]) ∧ fcOK r c fc ∧ lcOK r c lc)) := by
  refine CT.enter (by decide +kernel) (Nat.le_of_ble_eq_true rfl) (fun F S ret hb hM hI => ?_)
  show V F 7 G 0 0 0 [(0, .ref a), (1, .int (iI f)), (2, .int (iI r)), (3, .int (iI c)), (4, .int (iI m)), (5, .long (lB x))] []
  refine r_aload_n S dX0_init_0 0 rfl ?_
  refine r_iload_n S dX0_init_1 1 rfl ?_
  refine r_lload S dX0_init_2 5 rfl ?_
  refine (c_S_P (As := [.long (lB x)]) (st := [.int (iI f), .ref a]) S kJ_bitCount moJ13_bitCount ⟨by decide, by decide⟩ ⟨by omega, by omega⟩ rfl (Nat.le_of_ble_eq_true rfl) w262 w263 rfl dX0_init_4).goI (fun r4 hc4 => ?_)
  rw [hc4]
  refine (c_I_T (As := [.int (iI f), .int (iI (cB x))]) (st := []) (M1 := fun x => x = a) S (kX6_init_0 ha) moX6_init ⟨by decide, by decide⟩ ⟨by omega, by omega⟩ rfl (Nat.le_of_ble_eq_true rfl) w268 w162 rfl rfl dX0_init_7).goV S hb (fun x e => e ▸ (hM _ rfl)) (fun G7 hx7 hc7 => ?_)
  refine r_aload_n S dX0_init_10 0 rfl ?_
  refine r_iload_n S dX0_init_11 2 rfl ?_
  refine r_putF S hb (hI rfl) ptX0_15_X0 hc7 (hM _ rfl) (by show _ < 8; decide) rfl rfl dX0_init_12 ?_
  refine k_set (fun G12 hc12 ho12 => ?_)
  refine r_aload_n S dX0_init_15 0 rfl ?_
  refine r_iload_n S dX0_init_16 3 rfl ?_
  refine r_putF S hb (hI rfl) ptX0_21_X0 hc12 (hM _ rfl) (by show _ < 8; decide) rfl rfl dX0_init_17 ?_
  refine k_set (fun G17 hc17 ho17 => ?_)
  refine r_aload_n S dX0_init_20 0 rfl ?_
  refine r_iload S dX0_init_21 4 rfl ?_
  refine r_putF S hb (hI rfl) ptX0_24_X0 hc17 (hM _ rfl) (by show _ < 8; decide) rfl rfl dX0_init_23 ?_
  refine k_set (fun G23 hc23 ho23 => ?_)
  refine r_aload_n S dX0_init_26 0 rfl ?_
  refine r_lload S dX0_init_27 5 rfl ?_
  refine r_putF S hb (hI rfl) ptX0_27_X0 hc23 (hM _ rfl) (by show _ < 8; decide) rfl rfl dX0_init_29 ?_
  refine k_set (fun G29 hc29 ho29 => ?_)
  refine r_aload_n S dX0_init_32 0 rfl ?_
  refine r_iload_n S dX0_init_33 2 rfl ?_
  refine r_iload_n S dX0_init_34 3 rfl ?_
  refine (c_S_P (As := [.int (iI r), .int (iI c)]) (st := [.ref a]) S (kX0_firstColumnOf hs) moX0_firstColumnOf ⟨by decide, by decide⟩ ⟨by omega, by omega⟩ rfl (Nat.le_of_ble_eq_true rfl) w269 w270 rfl dX0_init_35).goL (fun r35 hc35 => ?_)
  refine r_putF S hb (hI rfl) ptX0_35_X0 hc29 (hM _ rfl) (by show _ < 8; decide) rfl rfl dX0_init_38 ?_
  refine k_set (fun G38 hc38 ho38 => ?_)
  refine r_aload_n S dX0_init_41 0 rfl ?_
  refine r_aload_n S dX0_init_42 0 rfl ?_
  refine r_get S gtX0_35_X0 hc38 rfl dX0_init_43 ?_
  refine r_iload_n S dX0_init_46 3 rfl ?_
  refine r_iconst S dX0_init_47 ?_
  refine r_isub S dX0_init_48 ?_
  refine r_lshl S ⟨by have := hs.2; omega, by have := hs.2; omega⟩ dX0_init_49 ?_
  refine r_putF S hb (hI rfl) ptX0_38_X0 hc38 (hM _ rfl) (by show _ < 8; decide) rfl rfl dX0_init_50 ?_
  refine k_set (fun G50 hc50 ho50 => ?_)
  exact ret.tv dX0_init_53 (by omega) (by omega) ⟨_, _, hc50, hc35, lc_of hs hc35⟩

set_option maxRecDepth 20000 in
set_option maxHeartbeats 2000000 in
theorem kX0_init_4 {D : va_G} {G : gh} {a : Nat} {f r c m : Int} {x : BitVec 64} {v0 v1 v2 v3 v4 v5 v6 v7 : Value} (ha : G a = some (eO 4 [v0, v1, v2, v3, v4, v5, v6, v7])) (hs : shP r c) : CT ⟨"PostageCounter$Block", "<init>", "(IIIIJ)V"⟩ prog_2_method_1_code 7 none 2 42 0 0 D [.ref a, .int (iI f), .int (iI r), .int (iI c), .int (iI m), .long (lB x)] G (fun x => x = a) (tV (fun G' => ∃ fc lc : BitVec 64, G' a = some (eO 4 [.int (iI r), .int (iI c), .int (iI m), .long (lB x), .long (lB fc), .long (lB lc), .int (iI f), .int (iI (cB x))]) ∧ fcOK r c fc ∧ lcOK r c lc)) := by
  refine CT.enter (by decide +kernel) (Nat.le_of_ble_eq_true rfl) (fun F S ret hb hM hI => ?_)
  show V F 7 G 0 0 0 [(0, .ref a), (1, .int (iI f)), (2, .int (iI r)), (3, .int (iI c)), (4, .int (iI m)), (5, .long (lB x))] []
  refine r_aload_n S dX0_init_0 0 rfl ?_
  refine r_iload_n S dX0_init_1 1 rfl ?_
  refine r_lload S dX0_init_2 5 rfl ?_
  refine (c_S_P (As := [.long (lB x)]) (st := [.int (iI f), .ref a]) S kJ_bitCount moJ13_bitCount ⟨by decide, by decide⟩ ⟨by omega, by omega⟩ rfl (Nat.le_of_ble_eq_true rfl) w262 w263 rfl dX0_init_4).goI (fun r4 hc4 => ?_)
  rw [hc4]
  refine (c_I_T (As := [.int (iI f), .int (iI (cB x))]) (st := []) (M1 := fun x => x = a) S (kX6_init_4 ha) moX6_init ⟨by decide, by decide⟩ ⟨by omega, by omega⟩ rfl (Nat.le_of_ble_eq_true rfl) w268 w162 rfl rfl dX0_init_7).goV S hb (fun x e => e ▸ (hM _ rfl)) (fun G7 hx7 hc7 => ?_)
  refine r_aload_n S dX0_init_10 0 rfl ?_
  refine r_iload_n S dX0_init_11 2 rfl ?_
  refine r_putF S hb (hI rfl) ptX0_15_X4 hc7 (hM _ rfl) (by show _ < 8; decide) rfl rfl dX0_init_12 ?_
  refine k_set (fun G12 hc12 ho12 => ?_)
  refine r_aload_n S dX0_init_15 0 rfl ?_
  refine r_iload_n S dX0_init_16 3 rfl ?_
  refine r_putF S hb (hI rfl) ptX0_21_X4 hc12 (hM _ rfl) (by show _ < 8; decide) rfl rfl dX0_init_17 ?_
  refine k_set (fun G17 hc17 ho17 => ?_)
  refine r_aload_n S dX0_init_20 0 rfl ?_
  refine r_iload S dX0_init_21 4 rfl ?_
  refine r_putF S hb (hI rfl) ptX0_24_X4 hc17 (hM _ rfl) (by show _ < 8; decide) rfl rfl dX0_init_23 ?_
  refine k_set (fun G23 hc23 ho23 => ?_)
  refine r_aload_n S dX0_init_26 0 rfl ?_
  refine r_lload S dX0_init_27 5 rfl ?_
  refine r_putF S hb (hI rfl) ptX0_27_X4 hc23 (hM _ rfl) (by show _ < 8; decide) rfl rfl dX0_init_29 ?_
  refine k_set (fun G29 hc29 ho29 => ?_)
  refine r_aload_n S dX0_init_32 0 rfl ?_
  refine r_iload_n S dX0_init_33 2 rfl ?_
  refine r_iload_n S dX0_init_34 3 rfl ?_
  refine (c_S_P (As := [.int (iI r), .int (iI c)]) (st := [.ref a]) S (kX0_firstColumnOf hs) moX0_firstColumnOf ⟨by decide, by decide⟩ ⟨by omega, by omega⟩ rfl (Nat.le_of_ble_eq_true rfl) w269 w270 rfl dX0_init_35).goL (fun r35 hc35 => ?_)
  refine r_putF S hb (hI rfl) ptX0_35_X4 hc29 (hM _ rfl) (by show _ < 8; decide) rfl rfl dX0_init_38 ?_
  refine k_set (fun G38 hc38 ho38 => ?_)
  refine r_aload_n S dX0_init_41 0 rfl ?_
  refine r_aload_n S dX0_init_42 0 rfl ?_
  refine r_get S gtX0_35_X4 hc38 rfl dX0_init_43 ?_
  refine r_iload_n S dX0_init_46 3 rfl ?_
  refine r_iconst S dX0_init_47 ?_
  refine r_isub S dX0_init_48 ?_
  refine r_lshl S ⟨by have := hs.2; omega, by have := hs.2; omega⟩ dX0_init_49 ?_
  refine r_putF S hb (hI rfl) ptX0_38_X4 hc38 (hM _ rfl) (by show _ < 8; decide) rfl rfl dX0_init_50 ?_
  refine k_set (fun G50 hc50 ho50 => ?_)
  exact ret.tv dX0_init_53 (by omega) (by omega) ⟨_, _, hc50, hc35, lc_of hs hc35⟩

set_option maxRecDepth 20000 in
set_option maxHeartbeats 2000000 in
theorem kX4_init {D : va_G} {G : gh} {a : Nat} {f r c m : Int} {x : BitVec 64} {v0 v1 v2 v3 v4 v5 v6 v7 : Value} (ha : G a = some (eO 4 [v0, v1, v2, v3, v4, v5, v6, v7])) (hs : shP r c) : CT ⟨"PostageCounter$Pair", "<init>", "(IIIIJ)V"⟩ prog_6_method_1_code 7 none 3 68 0 0 D [.ref a, .int (iI f), .int (iI r), .int (iI c), .int (iI m), .long (lB x)] G (fun x => x = a) (tV (fun G' => ∃ fc lc : BitVec 64, G' a = some (eO 4 [.int (iI r), .int (iI c), .int (iI m), .long (lB x), .long (lB fc), .long (lB lc), .int (iI f), .int (iI (cB x))]) ∧ fcOK r c fc ∧ lcOK r c lc)) := by
  refine CT.enter (by decide +kernel) (Nat.le_of_ble_eq_true rfl) (fun F S ret hb hM hI => ?_)
  show V F 7 G 0 0 0 [(0, .ref a), (1, .int (iI f)), (2, .int (iI r)), (3, .int (iI c)), (4, .int (iI m)), (5, .long (lB x))] []
  refine r_aload_n S dX4_init_0 0 rfl ?_
  refine r_iload_n S dX4_init_1 1 rfl ?_
  refine r_iload_n S dX4_init_2 2 rfl ?_
  refine r_iload_n S dX4_init_3 3 rfl ?_
  refine r_iload S dX4_init_4 4 rfl ?_
  refine r_lload S dX4_init_6 5 rfl ?_
  refine (c_I_T (As := [.int (iI f), .int (iI r), .int (iI c), .int (iI m), .long (lB x)]) (st := []) (M1 := fun x => x = a) S (kX0_init_4 ha hs) moX0_init ⟨by decide, by decide⟩ ⟨by omega, by omega⟩ rfl (Nat.le_of_ble_eq_true rfl) w259 w260 rfl rfl dX4_init_8).goV S hb (fun x e => e ▸ (hM _ rfl)) (fun G8 hx8 hc8 => ?_)
  exact ret.tv dX4_init_11 (by omega) (by omega) hc8
