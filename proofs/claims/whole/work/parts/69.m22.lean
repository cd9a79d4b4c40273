set_option maxRecDepth 20000 in
set_option maxHeartbeats 2000000 in
theorem kX0_changed {D : va_G} {G : gh} {a : Nat} {q f n r c m : Int} {x fc lc : BitVec 64} (hB : bO G a q f n r c m x fc lc) (hs : shP r c) {m2 : Int} {y : BitVec 64} : CT ⟨"PostageCounter$Block", "changed", "(IJ)LPostageCounter$Block;"⟩ prog_2_method_4_code 4 (some (.object "PostageCounter$Block")) 3 68 1 8 D [.ref a, .int (iI m2), .long (lB y)] G ((fun _ => False)) (tR (fun b G' => G b = none ∧ ∃ fc2 lc2 : BitVec 64, G' b = some (eO 0 [.int (iI f), .int (iI (cB y)), .int (iI r), .int (iI c), .int (iI m2), .long (lB y), .long (lB fc2), .long (lB lc2)]) ∧ fcOK r c fc2 ∧ lcOK r c lc2)) := by
  refine CT.enter (by decide +kernel) (Nat.le_of_ble_eq_true rfl) (fun F S ret hb hM hI => ?_)
  show V F 4 G 0 0 0 [(0, .ref a), (1, .int (iI m2)), (2, .long (lB y))] []
  refine r_new S hb nwX0_16 (by show _ ≤ 1; omega) (by show _ ≤ 8; omega) dX0_changed_0 (fun a0 hn0 hw0 => ?_)
  refine k_new hn0 (fun G0 hl0 hc0 => ?_)
  have hz0 := hn0
  have hle0 := hl0
  refine r_dup S dX0_changed_3 ?_
  refine r_aload_n S dX0_changed_4 0 rfl ?_
  refine rB_face S (bO.le hB hle0) gtX0_41_X0 gtX0_41_X4 dX0_changed_5 ?_
  refine r_aload_n S dX0_changed_8 0 rfl ?_
  refine rB_rows S (bO.le hB hle0) gtX0_15_X0 gtX0_15_X4 dX0_changed_9 ?_
  refine r_aload_n S dX0_changed_12 0 rfl ?_
  refine rB_columns S (bO.le hB hle0) gtX0_21_X0 gtX0_21_X4 dX0_changed_13 ?_
  refine r_iload_n S dX0_changed_16 1 rfl ?_
  refine r_lload_n S dX0_changed_17 2 rfl ?_
  refine (c_I_T (As := [.int (iI f), .int (iI r), .int (iI c), .int (iI m2), .long (lB y)]) (st := [.ref a0]) (M1 := fun x => x = a0) S (kX0_init_0 hc0 hs) moX0_init ⟨by decide, by decide⟩ ⟨(by show _ ≤ 1; omega), (by show _ ≤ 8; omega)⟩ rfl (Nat.le_of_ble_eq_true rfl) w340 w260 rfl rfl dX0_changed_18).goV S hb (fun x e => e ▸ hw0) (fun G18 hx18 hc18 => ?_)
  have hle18 := gLe.one hle0 hz0 hx18
  exact ret.tr (by first | exact Or.inl ⟨_, rfl⟩ | exact Or.inr ⟨_, rfl⟩) a0 dX0_changed_21 (by omega) (by omega) (by obtain ⟨fc2, lc2, h1, h2, h3⟩ := hc18; exact ⟨hz0, fc2, lc2, h1, h2, h3⟩)

set_option maxRecDepth 20000 in
set_option maxHeartbeats 2000000 in
theorem kX4_changed {D : va_G} {G : gh} {a : Nat} {f n r c m : Int} {x fc lc : BitVec 64} (ha : G a = some (eO 4 [.int (iI r), .int (iI c), .int (iI m), .long (lB x), .long (lB fc), .long (lB lc), .int (iI f), .int (iI n)])) (hs : shP r c) {m2 : Int} {y : BitVec 64} : CT ⟨"PostageCounter$Pair", "changed", "(IJ)LPostageCounter$Block;"⟩ prog_6_method_4_code 4 (some (.object "PostageCounter$Block")) 4 94 1 8 D [.ref a, .int (iI m2), .long (lB y)] G ((fun _ => False)) (tR (fun b G' => G b = none ∧ ∃ fc2 lc2 : BitVec 64, G' b = some (eO 4 [.int (iI r), .int (iI c), .int (iI m2), .long (lB y), .long (lB fc2), .long (lB lc2), .int (iI f), .int (iI (cB y))]) ∧ fcOK r c fc2 ∧ lcOK r c lc2)) := by
  refine CT.enter (by decide +kernel) (Nat.le_of_ble_eq_true rfl) (fun F S ret hb hM hI => ?_)
  show V F 4 G 0 0 0 [(0, .ref a), (1, .int (iI m2)), (2, .long (lB y))] []
  refine r_new S hb nwX4_9 (by show _ ≤ 1; omega) (by show _ ≤ 8; omega) dX4_changed_0 (fun a0 hn0 hw0 => ?_)
  refine k_new hn0 (fun G0 hl0 hc0 => ?_)
  have hz0 := hn0
  have hle0 := hl0
  refine r_dup S dX4_changed_3 ?_
  refine r_aload_n S dX4_changed_4 0 rfl ?_
  refine r_get S gtX4_11_X4 (hle0 _ _ ha) rfl dX4_changed_5 ?_
  refine r_aload_n S dX4_changed_8 0 rfl ?_
  refine r_get S gtX4_15_X4 (hle0 _ _ ha) rfl dX4_changed_9 ?_
  refine r_aload_n S dX4_changed_12 0 rfl ?_
  refine r_get S gtX4_18_X4 (hle0 _ _ ha) rfl dX4_changed_13 ?_
  refine r_iload_n S dX4_changed_16 1 rfl ?_
  refine r_lload_n S dX4_changed_17 2 rfl ?_
  refine (c_I_T (As := [.int (iI f), .int (iI r), .int (iI c), .int (iI m2), .long (lB y)]) (st := [.ref a0]) (M1 := fun x => x = a0) S (kX4_init hc0 hs) moX4_init ⟨by decide, by decide⟩ ⟨(by show _ ≤ 1; omega), (by show _ ≤ 8; omega)⟩ rfl (Nat.le_of_ble_eq_true rfl) w337 w257 rfl rfl dX4_changed_18).goV S hb (fun x e => e ▸ hw0) (fun G18 hx18 hc18 => ?_)
  have hle18 := gLe.one hle0 hz0 hx18
  exact ret.tr (by first | exact Or.inl ⟨_, rfl⟩ | exact Or.inr ⟨_, rfl⟩) a0 dX4_changed_21 (by omega) (by omega) (by obtain ⟨fc2, lc2, h1, h2, h3⟩ := hc18; exact ⟨hz0, fc2, lc2, h1, h2, h3⟩)

section VD2
variable {F : fxT} {cc : ByteArray} {nL : Nat} {own : String} {rm : Room} {D : va_G} {N : Nat → Prop} {G : gh} {ce sl pc idx : Nat} {L : List (Nat × Value)} {st : List Value} {a : Nat}
set_option maxRecDepth 20000 in
theorem vdB_changed {q f n r c m : Int} {x fc lc : BitVec 64} {m2 : Int} {y : BitVec 64} (hs : shP r c) (S : FX F cc nL own rm D) (hB : bO G a q f n r c m x fc lc) (hlv : 5 ≤ rm.frames ∧ 117 ≤ rm.locals) (hsl : ce + 1 ≤ rm.cells ∧ sl + 8 ≤ rm.slots) (hcat : (st.map fun v => v.category).sum ≤ 8) (hl : Cond.methodLink own idx ⟨"PostageCounter$Block", "changed", "(IJ)LPostageCounter$Block;"⟩ ∈ WS) (d : decode cc pc = .ok (.invokevirtual idx, 3)) : RnT F nL G ce sl pc (.long (lB y) :: .int (iI m2) :: .ref a :: st) st 1 8 (fun _ => False) (tR (fun b G' => G b = none ∧ ∃ fc2 lc2 : BitVec 64, bO G' b q f (cB y) r c m2 y fc2 lc2 ∧ fcOK r c fc2 ∧ lcOK r c lc2)) := by
  have hB0 := hB
  rcases hB with ⟨hq, hb⟩ | ⟨hq, hb⟩
  · exact c_V_T (As := [.int (iI m2), .long (lB y)]) (st := st) S (CT.weak (kX0_changed hB0 hs) (fun v G2 hx hv => by obtain ⟨b, rfl, h0, fc2, lc2, h1, h2, h3⟩ := hv; exact ⟨b, rfl, h0, fc2, lc2, Or.inl ⟨hq, h1⟩, h2, h3⟩)) moX0_changed (show lvl rm 4 3 68 from ⟨by omega, by omega⟩) ⟨by omega, by omega⟩ rfl hcat hl w330 w331 hb rfl rfl d
  · exact c_U_T (C := "PostageCounter$Pair") (owner := "PostageCounter$Block") (x := ⟨"PostageCounter$Block", "changed", "(IJ)LPostageCounter$Block;"⟩) (As := [.int (iI m2), .long (lB y)]) (st := st) S (CT.weak (kX4_changed hb hs) (fun v G2 hx hv => by obtain ⟨b, rfl, h0, fc2, lc2, h1, h2, h3⟩ := hv; exact ⟨b, rfl, h0, fc2, lc2, Or.inr ⟨hq, h1⟩, h2, h3⟩)) moX4_changed (show lvl rm 4 4 94 from ⟨by omega, by omega⟩) ⟨by omega, by omega⟩ rfl hcat hl w332 w330 w338 ⟨by decide +kernel, by decide +kernel, by decide +kernel⟩ w334 w333 hb rfl rfl d
end VD2

set_option maxRecDepth 20000 in
set_option maxHeartbeats 2000000 in
theorem kX0_without {D : va_G} {G : gh} {a : Nat} {q f n r c m : Int} {x fc lc : BitVec 64} (hB : bO G a q f n r c m x fc lc) (hs : shP r c) {n0 : Int} {z : BitVec 64} : CT ⟨"PostageCounter$Block", "without", "(IJ)LPostageCounter$Plain;"⟩ prog_2_method_9_code 4 (some (.object "PostageCounter$Plain")) 5 117 1 8 D [.ref a, .int (iI n0), .long (lB z)] G ((fun _ => False)) (tR (fun b G' => G b = none ∧ ∃ fc2 lc2 : BitVec 64, bO G' b q f (cB (x &&& nB z)) r c m (x &&& nB z) fc2 lc2 ∧ fcOK r c fc2 ∧ lcOK r c lc2)) := by
  refine CT.enter (by decide +kernel) (Nat.le_of_ble_eq_true rfl) (fun F S ret hb hM hI => ?_)
  show V F 4 G 0 0 0 [(0, .ref a), (1, .int (iI n0)), (2, .long (lB z))] []
  refine r_aload_n S dX0_without_0 0 rfl ?_
  refine r_aload_n S dX0_without_1 0 rfl ?_
  refine rB_missing S hB gtX0_24_X0 gtX0_24_X4 dX0_without_2 ?_
  refine r_aload_n S dX0_without_5 0 rfl ?_
  refine rB_squares S hB gtX0_27_X0 gtX0_27_X4 dX0_without_6 ?_
  refine r_lload_n S dX0_without_9 2 rfl ?_
  refine r_ldc2 (BitVec.ofInt 64 (-1)) w328 (by decide) S dX0_without_10 ?_
  refine r_lxor S dX0_without_13 ?_
  refine r_land S dX0_without_14 ?_
  refine (vdB_changed (hs := hs) (st := []) S hB ⟨by decide, by decide⟩ ⟨(by show _ ≤ 1; omega), (by show _ ≤ 8; omega)⟩ (Nat.le_of_ble_eq_true rfl) w329 dX0_without_15).goR S hb (fun _ z => z.elim) (fun r15 G15 hx15 hc15 => ?_)
  have hle15 := hx15.le
  exact ret.tr (by first | exact Or.inl ⟨_, rfl⟩ | exact Or.inr ⟨_, rfl⟩) r15 dX0_without_18 (by omega) (by omega) hc15

set_option maxRecDepth 20000 in
set_option maxHeartbeats 2000000 in
theorem kX0_withoutRow {D : va_G} {G : gh} {a : Nat} {q f n r c m : Int} {x fc lc : BitVec 64} (hB : bO G a q f n r c m x fc lc) (hs : shP r c) (hm : 0 ≤ m ∧ m < 256) {i : Int} (hi : 0 ≤ i ∧ i < r) : CT ⟨"PostageCounter$Block", "withoutRow", "(I)LPostageCounter$Block;"⟩ prog_2_method_6_code 4 (some (.object "PostageCounter$Block")) 5 117 1 8 D [.ref a, .int (iI i)] G ((fun _ => False)) (tR (fun b G' => G b = none ∧ ∃ fc2 lc2 : BitVec 64, bO G' b q f (cB (x &&& nB (rwB c i))) r c (orM m i) (x &&& nB (rwB c i)) fc2 lc2 ∧ fcOK r c fc2 ∧ lcOK r c lc2)) := by
  refine CT.enter (by decide +kernel) (Nat.le_of_ble_eq_true rfl) (fun F S ret hb hM hI => ?_)
  show V F 4 G 0 0 0 [(0, .ref a), (1, .int (iI i))] []
  refine r_lconst S 1#64 dX0_withoutRow_0 (by decide) ?_
  refine r_aload_n S dX0_withoutRow_1 0 rfl ?_
  refine rB_columns S hB gtX0_21_X0 gtX0_21_X4 dX0_withoutRow_2 ?_
  refine r_lshl S ⟨by have := hs.2; omega, by have := hs.2; omega⟩ dX0_withoutRow_5 ?_
  refine r_lconst S 1#64 dX0_withoutRow_6 (by decide) ?_
  refine r_lsub S dX0_withoutRow_7 ?_
  refine r_iload_n S dX0_withoutRow_8 1 rfl ?_
  refine r_aload_n S dX0_withoutRow_9 0 rfl ?_
  refine rB_columns S hB gtX0_21_X0 gtX0_21_X4 dX0_withoutRow_10 ?_
  refine r_imul S dX0_withoutRow_13 ?_
  refine r_lshl S (ic_bd hs hi.1 hi.2) dX0_withoutRow_14 ?_
  refine r_lstore_n (L' := [(2, .long (lB ((((1#64) <<< (Int.toNat c)) - (1#64)) <<< (Int.toNat (i * c))))), (0, .ref a), (1, .int (iI i))]) S dX0_withoutRow_15 (by decide) rfl ?_
  refine r_aload_n S dX0_withoutRow_16 1 rfl ?_
  refine r_aload_n S dX0_withoutRow_17 1 rfl ?_
  refine rB_missing S hB gtX0_24_X0 gtX0_24_X4 dX0_withoutRow_18 ?_
  refine r_iconst S dX0_withoutRow_21 ?_
  refine r_iload_n S dX0_withoutRow_22 2 rfl ?_
  refine r_ishl S dX0_withoutRow_23 (fun z23 hz23 ez23 => ?_)
  refine r_ior S dX0_withoutRow_24 (fun z24 hz24 ez24 => ?_)
  have hor := ms_ior hm (r := i) ⟨hi.1, by have := hs.1; omega⟩ ez23 ez24 hz24
  refine r_aload_n S dX0_withoutRow_25 1 rfl ?_
  refine rB_squares S hB gtX0_27_X0 gtX0_27_X4 dX0_withoutRow_26 ?_
  refine r_lload_n S dX0_withoutRow_29 0 rfl ?_
  refine r_ldc2 (BitVec.ofInt 64 (-1)) w328 (by decide) S dX0_withoutRow_30 ?_
  refine r_lxor S dX0_withoutRow_33 ?_
  refine r_land S dX0_withoutRow_34 ?_
  refine (vdB_changed (hs := hs) (st := []) S hB ⟨by decide, by decide⟩ ⟨(by show _ ≤ 1; omega), (by show _ ≤ 8; omega)⟩ (Nat.le_of_ble_eq_true rfl) w329 dX0_withoutRow_35).goR S hb (fun _ z => z.elim) (fun r35 G35 hx35 hc35 => ?_)
  have hle35 := hx35.le
  exact ret.tr (by first | exact Or.inl ⟨_, rfl⟩ | exact Or.inr ⟨_, rfl⟩) r35 dX0_withoutRow_38 (by omega) (by omega) (by rw [← hor.1]; exact hc35)

set_option maxRecDepth 20000 in
set_option maxHeartbeats 2000000 in
theorem kX6_without {D : va_G} {G : gh} {a : Nat} {f n n0 : Int} {z : BitVec 64} (ha : G a = some (eO 6 [.int (iI f), .int (iI n)])) : CT ⟨"PostageCounter$Plain", "without", "(IJ)LPostageCounter$Plain;"⟩ prog_8_method_8_code 4 (some (.object "PostageCounter$Plain")) 2 42 1 8 D [.ref a, .int (iI n0), .long (lB z)] G ((fun _ => False)) (tR (fun b G' => G b = none ∧ G' b = some (eO 6 [.int (iI f), .int (iI (n - n0))]))) := by
  refine CT.enter (by decide +kernel) (Nat.le_of_ble_eq_true rfl) (fun F S ret hb hM hI => ?_)
  show V F 4 G 0 0 0 [(0, .ref a), (1, .int (iI n0)), (2, .long (lB z))] []
  refine r_new S hb nwX6_10 (by show _ ≤ 1; omega) (by show _ ≤ 8; omega) dX6_without_0 (fun a0 hn0 hw0 => ?_)
  refine k_new hn0 (fun G0 hl0 hc0 => ?_)
  have hz0 := hn0
  have hle0 := hl0
  refine r_dup S dX6_without_3 ?_
  refine r_aload_n S dX6_without_4 0 rfl ?_
  refine r_get S gtX6_9_X6 (hle0 _ _ ha) rfl dX6_without_5 ?_
  refine r_aload_n S dX6_without_8 0 rfl ?_
  refine r_get S gtX6_15_X6 (hle0 _ _ ha) rfl dX6_without_9 ?_
  refine r_iload_n S dX6_without_12 1 rfl ?_
  refine r_isub S dX6_without_13 ?_
  refine (c_I_T (As := [.int (iI f), .int (iI (n - n0))]) (st := [.ref a0]) (M1 := fun x => x = a0) S (kX6_init_6 hc0) moX6_init ⟨by decide, by decide⟩ ⟨(by show _ ≤ 1; omega), (by show _ ≤ 8; omega)⟩ rfl (Nat.le_of_ble_eq_true rfl) w673 w162 rfl rfl dX6_without_14).goV S hb (fun x e => e ▸ hw0) (fun G14 hx14 hc14 => ?_)
  have hle14 := gLe.one hle0 hz0 hx14
  exact ret.tr (by first | exact Or.inl ⟨_, rfl⟩ | exact Or.inr ⟨_, rfl⟩) a0 dX6_without_17 (by omega) (by omega) ⟨hz0, hc14⟩

set_option maxRecDepth 20000 in
set_option maxHeartbeats 2000000 in
theorem kX3_without {D : va_G} {G : gh} {a : Nat} {f n n0 b0 : Int} {z : BitVec 64} (ha : G a = some (eO 3 [.int (iI f), .int (iI n), .int (iI b0)])) : CT ⟨"PostageCounter$Over", "without", "(IJ)LPostageCounter$Plain;"⟩ prog_5_method_3_code 4 (some (.object "PostageCounter$Plain")) 3 65 1 8 D [.ref a, .int (iI n0), .long (lB z)] G ((fun _ => False)) (tR (fun b G' => G b = none ∧ G' b = some (eO 3 [.int (iI f), .int (iI (n - n0)), .int (iI b0)]))) := by
  refine CT.enter (by decide +kernel) (Nat.le_of_ble_eq_true rfl) (fun F S ret hb hM hI => ?_)
  show V F 4 G 0 0 0 [(0, .ref a), (1, .int (iI n0)), (2, .long (lB z))] []
  refine r_new S hb nwX3_10 (by show _ ≤ 1; omega) (by show _ ≤ 8; omega) dX3_without_0 (fun a0 hn0 hw0 => ?_)
  refine k_new hn0 (fun G0 hl0 hc0 => ?_)
  have hz0 := hn0
  have hle0 := hl0
  refine r_dup S dX3_without_3 ?_
  refine r_aload_n S dX3_without_4 0 rfl ?_
  refine r_get S gtX3_9_X3 (hle0 _ _ ha) rfl dX3_without_5 ?_
  refine r_aload_n S dX3_without_8 0 rfl ?_
  refine r_get S gtX3_15_X3 (hle0 _ _ ha) rfl dX3_without_9 ?_
  refine r_aload_n S dX3_without_12 0 rfl ?_
  refine r_get S gtX3_18_X3 (hle0 _ _ ha) rfl dX3_without_13 ?_
  refine r_iload_n S dX3_without_16 1 rfl ?_
  refine r_isub S dX3_without_17 ?_
  refine (c_I_T (As := [.int (iI b0), .int (iI f), .int (iI (n - n0))]) (st := [.ref a0]) (M1 := fun x => x = a0) S (kX3_init hc0) moX3_init ⟨by decide, by decide⟩ ⟨(by show _ ≤ 1; omega), (by show _ ≤ 8; omega)⟩ rfl (Nat.le_of_ble_eq_true rfl) w664 w212 rfl rfl dX3_without_18).goV S hb (fun x e => e ▸ hw0) (fun G18 hx18 hc18 => ?_)
  have hle18 := gLe.one hle0 hz0 hx18
  exact ret.tr (by first | exact Or.inl ⟨_, rfl⟩ | exact Or.inr ⟨_, rfl⟩) a0 dX3_without_21 (by omega) (by omega) ⟨hz0, hc18⟩

set_option maxRecDepth 20000 in
set_option maxHeartbeats 2000000 in
theorem kX8_without {D : va_G} {G : gh} {a fa : Nat} {f n n0 : Int} {z : BitVec 64} {sf : Int → Int} (ha : G a = some (eO 8 [.int (iI f), .int (iI n), .ref fa])) (hfa : G fa = some (eI D 40 sf)) (hn : 0 ≤ n ∧ n ≤ 40) (hm0 : 0 ≤ n0 ∧ n0 ≤ n) : CT ⟨"PostageCounter$Strip", "without", "(IJ)LPostageCounter$Plain;"⟩ prog_10_method_6_code 4 (some (.object "PostageCounter$Plain")) 3 64 1 8 D [.ref a, .int (iI n0), .long (lB z)] G ((fun _ => False)) (tR (fun b G' => G b = none ∧ G' b = some (eO 8 [.int (iI (if n - n0 = 0 then 0 else sf (n - n0 - 1))), .int (iI (n - n0)), .ref fa]))) := by
  refine CT.enter (by decide +kernel) (Nat.le_of_ble_eq_true rfl) (fun F S ret hb hM hI => ?_)
  show V F 4 G 0 0 0 [(0, .ref a), (1, .int (iI n0)), (2, .long (lB z))] []
  refine r_new S hb nwX8_10 (by show _ ≤ 1; omega) (by show _ ≤ 8; omega) dX8_without_0 (fun a0 hn0 hw0 => ?_)
  refine k_new hn0 (fun G0 hl0 hc0 => ?_)
  have hz0 := hn0
  have hle0 := hl0
  refine r_dup S dX8_without_3 ?_
  refine r_aload_n S dX8_without_4 0 rfl ?_
  refine r_get S gtX8_9_X8 (hle0 _ _ ha) rfl dX8_without_5 ?_
  refine r_aload_n S dX8_without_8 0 rfl ?_
  refine r_get S gtX8_15_X8 (hle0 _ _ ha) rfl dX8_without_9 ?_
  refine r_iload_n S dX8_without_12 1 rfl ?_
  refine r_isub S dX8_without_13 ?_
  refine (c_I_T (As := [.ref fa, .int (iI (n - n0))]) (st := [.ref a0]) (M1 := fun x => x = a0) S (kX8_init hc0 (hle0 _ _ hfa) (gLe.ne hn0 hfa) (by omega)) moX8_init ⟨by decide, by decide⟩ ⟨(by show _ ≤ 1; omega), (by show _ ≤ 8; omega)⟩ rfl (Nat.le_of_ble_eq_true rfl) w670 w240 rfl rfl dX8_without_14).goV S hb (fun x e => e ▸ hw0) (fun G14 hx14 hc14 => ?_)
  have hle14 := gLe.one hle0 hz0 hx14
  exact ret.tr (by first | exact Or.inl ⟨_, rfl⟩ | exact Or.inr ⟨_, rfl⟩) a0 dX8_without_17 (by omega) (by omega) ⟨hz0, hc14⟩

theorem sr_without {D : va_G} {N : Nat → Prop} {G2 : gh} {now now' : Int → Int} {p n : Int} {z : BitVec 64} {b fa : Nat} {sf : Int → Int} (hw : wtOK now now' p n z) (e : now p = 1) (hn : 0 ≤ n ∧ n ≤ now (10 + p)) (h40 : now (10 + p) ≤ 40) (s3 : ∀ k : Int, 0 ≤ k → k < now (10 + p) → sf k = now (60 + 40 * p + k)) (h1 : G2 b = some (eO 8 [.int (iI (if now (10 + p) - n = 0 then 0 else sf (now (10 + p) - n - 1))), .int (iI (now (10 + p) - n)), .ref fa])) (hnb : ¬ N b) (hfa : Im N G2 fa (eI D 40 sf)) : srO D N G2 now' p b := by
  obtain ⟨w0, w1, w2, w3, w4, w5, w6, w7, w8⟩ := hw
  refine ⟨fa, sf, ⟨?_, hnb⟩, hfa, fun k k0 k1 => ?_⟩
  · rw [w1, show fsF now' p = (if now (10 + p) - n = 0 then 0 else sf (now (10 + p) - n - 1)) by
      unfold fsF
      rw [w1]
      by_cases q : now (10 + p) - n = 0
      · rw [if_pos q, if_pos q]
      · rw [if_neg q, if_neg q, w6 _ (by omega) (by omega), s3 _ (by omega) (by omega)]]
    exact h1
  · rw [w1] at k1
    rw [w6 k k0 (by omega)]
    exact s3 k k0 (by omega)
theorem sh_without {N : Nat → Prop} {G2 : gh} {now now' : Int → Int} {p n m : Int} {x z fc2 lc2 : BitVec 64} {b : Nat} (hok2 : mOK now') (hp : 0 ≤ p ∧ p < 10) (hw : wtOK now now' p n z) (e : now p = 2 ∨ now p = 3) (h8 : now (40 + p) ≤ 8) (b2 : msOK now p m) (b3 : sqOK now p x) (hnb : ¬ N b) (h1 : bO G2 b (now p - 1) (now (20 + p)) (cB (x &&& nB z)) (now (40 + p)) (now (50 + p)) m (x &&& nB z) fc2 lc2) (h2 : fcOK (now (40 + p)) (now (50 + p)) fc2) (h3 : lcOK (now (40 + p)) (now (50 + p)) lc2) : shO N G2 now' p b := by
  have hsq := sq_without hw e b3
  have hms := ms_without hw h8 b2
  have e' : now' p = 2 ∨ now' p = 3 := by rw [hw.1]; exact e
  have hcb := cB_count hok2 hp e' hsq
  refine ⟨hnb, m, x &&& nB z, fc2, lc2, ?_, hms, hsq, ?_, ?_⟩
  · rw [hw.1, hw.2.2.1, hw.2.2.2.2.1, hw.2.2.2.2.2.1, ← hcb]; exact h1
  · rw [hw.2.2.2.2.1, hw.2.2.2.2.2.1]; exact h2
  · rw [hw.2.2.2.2.1, hw.2.2.2.2.2.1]; exact h3
section VH2
variable {F : fxT} {cc : ByteArray} {nL : Nat} {own : String} {rm : Room} {D : va_G} {N : Nat → Prop} {G : gh} {ce sl pc idx : Nat} {L : List (Nat × Value)} {st : List Value} {a : Nat}
set_option maxRecDepth 20000 in
set_option maxHeartbeats 1000000 in
theorem vdH_without {now : Int → Int} {p : Int} {now' : Int → Int} {n : Int} {z : BitVec 64} (hn : 0 ≤ n ∧ n ≤ now (10 + p)) (hN : Nok N G) (hok2 : mOK now') (hw : wtOK now now' p n z) (hh : hO D N G now p a) (hok : mOK now) (hp : 0 ≤ p ∧ p < 10) (S : FX F cc nL own rm D) (hlv : 6 ≤ rm.frames ∧ 140 ≤ rm.locals) (hsl : ce + 1 ≤ rm.cells ∧ sl + 8 ≤ rm.slots) (hcat : (st.map fun v => v.category).sum ≤ 8) (hl : Cond.methodLink own idx ⟨"PostageCounter$Plain", "without", "(IJ)LPostageCounter$Plain;"⟩ ∈ WS) (d : decode cc pc = .ok (.invokevirtual idx, 3)) : RnT F nL G ce sl pc (.long (lB z) :: .int (iI n) :: .ref a :: st) st 1 8 (fun _ => False) (tR (fun b G' => hO D N G' now' p b)) := by
  have hK := hok.1 p hp.1 hp.2
  have hK4 : 0 ≤ now (10 + p) ∧ now (10 + p) ≤ 64 ∧ 0 ≤ now (20 + p) ∧ now (20 + p) ≤ 500 := ⟨hK.2.2.1, hK.2.2.2.1, hK.2.2.2.2.1, hK.2.2.2.2.2.1⟩
  have hK40 : now p = 1 → now (10 + p) ≤ 40 := hK.2.2.2.2.2.2.2.2.2.2.2.2.1
  have hh0 := hh
  rcases hh with ⟨e, h⟩ | ⟨e, h⟩ | ⟨e, fa, sf, s1, s2, s3⟩ | ⟨e, hn_, m, x, fc, lc, hB, b2, b3, b4, b5⟩
  · exact c_V_T (As := [.int (iI n), .long (lB z)]) (st := st) S (CT.weak (kX6_without h.1) (fun v G2 hx hv => by obtain ⟨b, rfl, h0, h1⟩ := hv; exact ⟨b, rfl, Or.inl ⟨by rw [hw.1]; exact e, by rw [hw.2.1, hw.2.2.1]; exact h1, hN.new h0⟩⟩)) moX6_without (show lvl rm 4 2 42 from ⟨by omega, by omega⟩) ⟨by omega, by omega⟩ rfl hcat hl w654 w655 h.1 rfl rfl d
  · exact c_U_T (C := "PostageCounter$Over") (owner := "PostageCounter$Plain") (x := ⟨"PostageCounter$Plain", "without", "(IJ)LPostageCounter$Plain;"⟩) (As := [.int (iI n), .long (lB z)]) (st := st) S (CT.weak (kX3_without h.1) (fun v G2 hx hv => by obtain ⟨b, rfl, h0, h1⟩ := hv; exact ⟨b, rfl, Or.inr (Or.inl ⟨by rw [hw.1]; exact e, by rw [hw.2.1, hw.2.2.1, hw.2.2.2.1]; exact h1, hN.new h0⟩)⟩)) moX3_without (show lvl rm 4 3 65 from ⟨by omega, by omega⟩) ⟨by omega, by omega⟩ rfl hcat hl w656 w654 w671 ⟨by decide +kernel, by decide +kernel, by decide +kernel⟩ w661 w660 h.1 rfl rfl d
  · exact c_U_T (C := "PostageCounter$Strip") (owner := "PostageCounter$Plain") (x := ⟨"PostageCounter$Plain", "without", "(IJ)LPostageCounter$Plain;"⟩) (As := [.int (iI n), .long (lB z)]) (st := st) S (CT.weak (kX8_without s1.1 s2.1 ⟨hK4.1, hK40 e⟩ hn) (fun v G2 hx hv => by obtain ⟨b, rfl, h0, h1⟩ := hv; exact ⟨b, rfl, Or.inr (Or.inr (Or.inl ⟨by rw [hw.1]; exact e, sr_without hw e hn (hK40 e) s3 h1 (hN.new h0) (s2.mono (gExt.up hx (fun _ z => z.elim)))⟩))⟩)) moX8_without (show lvl rm 4 3 64 from ⟨by omega, by omega⟩) ⟨by omega, by omega⟩ rfl hcat hl w656 w654 w671 ⟨by decide +kernel, by decide +kernel, by decide +kernel⟩ w667 w666 s1.1 rfl rfl d
  · obtain ⟨c1, c2, c3, c4, c5, c6⟩ := sh_ctx hok hp e b3
    have hB0 := hB
    rcases hB with ⟨hq, hb⟩ | ⟨hq, hb⟩
    · exact c_U_T (C := "PostageCounter$Block") (owner := "PostageCounter$Plain") (x := ⟨"PostageCounter$Plain", "without", "(IJ)LPostageCounter$Plain;"⟩) (As := [.int (iI n), .long (lB z)]) (st := st) S (CT.weak (kX0_without hB0 c1) (fun v G2 hx hv => by obtain ⟨b, rfl, h0, fc2, lc2, h1, h2, h3⟩ := hv; exact ⟨b, rfl, Or.inr (Or.inr (Or.inr ⟨by rw [hw.1]; exact e, sh_without hok2 hp hw e hK.2.2.2.2.2.2.2.2.2.1 b2 b3 (hN.new h0) h1 h2 h3⟩))⟩)) moX0_without (show lvl rm 4 5 117 from ⟨by omega, by omega⟩) ⟨by omega, by omega⟩ rfl hcat hl w656 w654 w671 ⟨by decide +kernel, by decide +kernel, by decide +kernel⟩ w658 w657 hb rfl rfl d
    · exact c_U_T (C := "PostageCounter$Pair") (owner := "PostageCounter$Plain") (x := ⟨"PostageCounter$Plain", "without", "(IJ)LPostageCounter$Plain;"⟩) (As := [.int (iI n), .long (lB z)]) (st := st) S (CT.weak (kX0_without hB0 c1) (fun v G2 hx hv => by obtain ⟨b, rfl, h0, fc2, lc2, h1, h2, h3⟩ := hv; exact ⟨b, rfl, Or.inr (Or.inr (Or.inr ⟨by rw [hw.1]; exact e, sh_without hok2 hp hw e hK.2.2.2.2.2.2.2.2.2.1 b2 b3 (hN.new h0) h1 h2 h3⟩))⟩)) moX0_without (show lvl rm 4 5 117 from ⟨by omega, by omega⟩) ⟨by omega, by omega⟩ rfl hcat hl w656 w654 w671 ⟨by decide +kernel, by decide +kernel, by decide +kernel⟩ w658 w665 hb rfl rfl d
end VH2