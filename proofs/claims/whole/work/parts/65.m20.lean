theorem cp_l {y : MethodName} {bytes : ByteArray} {maxL fr lc : Nat} {ret : Option FieldType} {D : va_G} {As : List Value} {G : gh} {R R' : BitVec 64 → Prop} (h : ∀ z, R z → R' z) (hC : CP y bytes maxL ret fr lc D As G (pL R)) : CP y bytes maxL ret fr lc D As G (pL R') := hC.weak (fun v hv => by obtain ⟨z, e, q⟩ := hv; exact ⟨z, e, h z q⟩)

section VH
variable {F : fxT} {cc : ByteArray} {nL : Nat} {own : String} {rm : Room} {D : va_G} {N : Nat → Prop} {G : gh} {ce sl pc idx : Nat} {L : List (Nat × Value)} {st : List Value} {a : Nat}
set_option maxRecDepth 20000 in
set_option maxHeartbeats 1000000 in
theorem vdH_worth {now : Int → Int} {p : Int} {n : Int} (hn : 0 ≤ n ∧ n ≤ now (10 + p)) (hh : hO D N G now p a) (hok : mOK now) (hp : 0 ≤ p ∧ p < 10) (S : FX F cc nL own rm D) (hlv : 2 ≤ rm.frames ∧ 44 ≤ rm.locals) (hsl : ce + 0 ≤ rm.cells ∧ sl + 0 ≤ rm.slots) (hcat : (st.map fun v => v.category).sum ≤ 8) (hl : Cond.methodLink own idx ⟨"PostageCounter$Plain", "worth", "(I)I"⟩ ∈ WS) (d : decode cc pc = .ok (.invokevirtual idx, 3)) : RnP F nL G ce sl pc (.int (iI n) :: .ref a :: st) st (pI (fun z => z = paysF now p n)) := by
  have hK := hok.1 p hp.1 hp.2
  have hK4 : 0 ≤ now (10 + p) ∧ now (10 + p) ≤ 64 ∧ 0 ≤ now (20 + p) ∧ now (20 + p) ≤ 500 := ⟨hK.2.2.1, hK.2.2.2.1, hK.2.2.2.2.1, hK.2.2.2.2.2.1⟩
  have hK40 : now p = 1 → now (10 + p) ≤ 40 := hK.2.2.2.2.2.2.2.2.2.2.2.2.1
  have hh0 := hh
  rcases hh with ⟨e, h⟩ | ⟨e, h⟩ | ⟨e, fa, sf, s1, s2, s3⟩ | ⟨e, hn_, m, x, fc, lc, hB, b2, b3, b4, b5⟩
  · exact c_V_P (As := [.int (iI n)]) (st := st) S (kX6_worth hh0 (by omega)) moX6_worth (show lvl rm 2 0 0 from ⟨by omega, by omega⟩) ⟨by omega, by omega⟩ rfl hcat hl w396 w397 h.1 rfl rfl d
  · exact c_U_P (C := "PostageCounter$Over") (owner := "PostageCounter$Plain") (x := ⟨"PostageCounter$Plain", "worth", "(I)I"⟩) (As := [.int (iI n)]) (st := st) S (kX6_worth hh0 (by omega)) moX6_worth (show lvl rm 2 0 0 from ⟨by omega, by omega⟩) ⟨by omega, by omega⟩ rfl hcat hl w398 w396 w408 ⟨by decide +kernel, by decide +kernel, by decide +kernel⟩ w396 w400 h.1 rfl rfl d
  · exact c_U_P (C := "PostageCounter$Strip") (owner := "PostageCounter$Plain") (x := ⟨"PostageCounter$Plain", "worth", "(I)I"⟩) (As := [.int (iI n)]) (st := st) S (kX8_worth s1.1 s2.1 s3 e ⟨hK4.1, hK40 e⟩ hn) moX8_worth (show lvl rm 4 1 21 from ⟨by omega, by omega⟩) ⟨by omega, by omega⟩ rfl hcat hl w398 w396 w408 ⟨by decide +kernel, by decide +kernel, by decide +kernel⟩ w403 w402 s1.1 rfl rfl d
  · obtain ⟨c1, c2, c3, c4, c5, c6⟩ := sh_ctx hok hp e b3
    have hB0 := hB
    rcases hB with ⟨hq, hb⟩ | ⟨hq, hb⟩
    · exact c_U_P (C := "PostageCounter$Block") (owner := "PostageCounter$Plain") (x := ⟨"PostageCounter$Plain", "worth", "(I)I"⟩) (As := [.int (iI n)]) (st := st) S (kX6_worth hh0 (by omega)) moX6_worth (show lvl rm 2 0 0 from ⟨by omega, by omega⟩) ⟨by omega, by omega⟩ rfl hcat hl w398 w396 w408 ⟨by decide +kernel, by decide +kernel, by decide +kernel⟩ w396 w399 hb rfl rfl d
    · exact c_U_P (C := "PostageCounter$Pair") (owner := "PostageCounter$Plain") (x := ⟨"PostageCounter$Plain", "worth", "(I)I"⟩) (As := [.int (iI n)]) (st := st) S (kX6_worth hh0 (by omega)) moX6_worth (show lvl rm 2 0 0 from ⟨by omega, by omega⟩) ⟨by omega, by omega⟩ rfl hcat hl w398 w396 w408 ⟨by decide +kernel, by decide +kernel, by decide +kernel⟩ w396 w401 hb rfl rfl d

set_option maxRecDepth 20000 in
set_option maxHeartbeats 1000000 in
theorem vdH_ofFace {now : Int → Int} {p : Int} {f n : Int} (hf : inR f) (hn : 0 ≤ n ∧ n ≤ now (10 + p)) (hh : hO D N G now p a) (hok : mOK now) (hp : 0 ≤ p ∧ p < 10) (S : FX F cc nL own rm D) (hlv : 2 ≤ rm.frames ∧ 45 ≤ rm.locals) (hsl : ce + 0 ≤ rm.cells ∧ sl + 0 ≤ rm.slots) (hcat : (st.map fun v => v.category).sum ≤ 8) (hl : Cond.methodLink own idx ⟨"PostageCounter$Plain", "ofFace", "(II)I"⟩ ∈ WS) (d : decode cc pc = .ok (.invokevirtual idx, 3)) : RnP F nL G ce sl pc (.int (iI n) :: .int (iI f) :: .ref a :: st) st (pI (fun z => z = goneF now p n f)) := by
  have hK := hok.1 p hp.1 hp.2
  have hK4 : 0 ≤ now (10 + p) ∧ now (10 + p) ≤ 64 ∧ 0 ≤ now (20 + p) ∧ now (20 + p) ≤ 500 := ⟨hK.2.2.1, hK.2.2.2.1, hK.2.2.2.2.1, hK.2.2.2.2.2.1⟩
  have hK40 : now p = 1 → now (10 + p) ≤ 40 := hK.2.2.2.2.2.2.2.2.2.2.2.2.1
  have hh0 := hh
  rcases hh with ⟨e, h⟩ | ⟨e, h⟩ | ⟨e, fa, sf, s1, s2, s3⟩ | ⟨e, hn_, m, x, fc, lc, hB, b2, b3, b4, b5⟩
  · exact c_V_P (As := [.int (iI f), .int (iI n)]) (st := st) S (kX6_ofFace hh0 (by omega) ⟨hK4.2.2.1, hK4.2.2.2⟩ hf ⟨hn.1, by omega⟩) moX6_ofFace (show lvl rm 3 0 0 from ⟨by omega, by omega⟩) ⟨by omega, by omega⟩ rfl hcat hl w738 w739 h.1 rfl rfl d
  · exact c_U_P (C := "PostageCounter$Over") (owner := "PostageCounter$Plain") (x := ⟨"PostageCounter$Plain", "ofFace", "(II)I"⟩) (As := [.int (iI f), .int (iI n)]) (st := st) S (kX6_ofFace hh0 (by omega) ⟨hK4.2.2.1, hK4.2.2.2⟩ hf ⟨hn.1, by omega⟩) moX6_ofFace (show lvl rm 3 0 0 from ⟨by omega, by omega⟩) ⟨by omega, by omega⟩ rfl hcat hl w740 w738 w747 ⟨by decide +kernel, by decide +kernel, by decide +kernel⟩ w738 w742 h.1 rfl rfl d
  · exact c_U_P (C := "PostageCounter$Strip") (owner := "PostageCounter$Plain") (x := ⟨"PostageCounter$Plain", "ofFace", "(II)I"⟩) (As := [.int (iI f), .int (iI n)]) (st := st) S (kX8_ofFace s1.1 s2.1 s3 e ⟨hK4.1, hK40 e⟩ (fun j j0 j1 => by have := hok.2.1 p j hp.1 hp.2 j0 (by have := hK40 e; omega); omega) hf hn) moX8_ofFace (show lvl rm 5 1 21 from ⟨by omega, by omega⟩) ⟨by omega, by omega⟩ rfl hcat hl w740 w738 w747 ⟨by decide +kernel, by decide +kernel, by decide +kernel⟩ w745 w744 s1.1 rfl rfl d
  · obtain ⟨c1, c2, c3, c4, c5, c6⟩ := sh_ctx hok hp e b3
    have hB0 := hB
    rcases hB with ⟨hq, hb⟩ | ⟨hq, hb⟩
    · exact c_U_P (C := "PostageCounter$Block") (owner := "PostageCounter$Plain") (x := ⟨"PostageCounter$Plain", "ofFace", "(II)I"⟩) (As := [.int (iI f), .int (iI n)]) (st := st) S (kX6_ofFace hh0 (by omega) ⟨hK4.2.2.1, hK4.2.2.2⟩ hf ⟨hn.1, by omega⟩) moX6_ofFace (show lvl rm 3 0 0 from ⟨by omega, by omega⟩) ⟨by omega, by omega⟩ rfl hcat hl w740 w738 w747 ⟨by decide +kernel, by decide +kernel, by decide +kernel⟩ w738 w741 hb rfl rfl d
    · exact c_U_P (C := "PostageCounter$Pair") (owner := "PostageCounter$Plain") (x := ⟨"PostageCounter$Plain", "ofFace", "(II)I"⟩) (As := [.int (iI f), .int (iI n)]) (st := st) S (kX6_ofFace hh0 (by omega) ⟨hK4.2.2.1, hK4.2.2.2⟩ hf ⟨hn.1, by omega⟩) moX6_ofFace (show lvl rm 3 0 0 from ⟨by omega, by omega⟩) ⟨by omega, by omega⟩ rfl hcat hl w740 w738 w747 ⟨by decide +kernel, by decide +kernel, by decide +kernel⟩ w738 w743 hb rfl rfl d

set_option maxRecDepth 20000 in
set_option maxHeartbeats 1000000 in
theorem vdH_kind {now : Int → Int} {p : Int}  (hh : hO D N G now p a) (hok : mOK now) (hp : 0 ≤ p ∧ p < 10) (S : FX F cc nL own rm D) (hlv : 1 ≤ rm.frames ∧ 20 ≤ rm.locals) (hsl : ce + 0 ≤ rm.cells ∧ sl + 0 ≤ rm.slots) (hcat : (st.map fun v => v.category).sum ≤ 8) (hl : Cond.methodLink own idx ⟨"PostageCounter$Plain", "kind", "()I"⟩ ∈ WS) (d : decode cc pc = .ok (.invokevirtual idx, 3)) : RnP F nL G ce sl pc (.ref a :: st) st (pI (fun z => z = now p)) := by
  have hK := hok.1 p hp.1 hp.2
  have hK4 : 0 ≤ now (10 + p) ∧ now (10 + p) ≤ 64 ∧ 0 ≤ now (20 + p) ∧ now (20 + p) ≤ 500 := ⟨hK.2.2.1, hK.2.2.2.1, hK.2.2.2.2.1, hK.2.2.2.2.2.1⟩
  have hK40 : now p = 1 → now (10 + p) ≤ 40 := hK.2.2.2.2.2.2.2.2.2.2.2.2.1
  have hh0 := hh
  rcases hh with ⟨e, h⟩ | ⟨e, h⟩ | ⟨e, fa, sf, s1, s2, s3⟩ | ⟨e, hn_, m, x, fc, lc, hB, b2, b3, b4, b5⟩
  · exact c_V_P (As := []) (st := st) S ((show CP _ _ _ _ _ _ _ _ _ (pI (fun z => z = now p)) from by rw [show now p = 0 by omega]; exact kX6_kind)) moX6_kind (show lvl rm 1 0 0 from ⟨by omega, by omega⟩) ⟨by omega, by omega⟩ rfl hcat hl w379 w380 h.1 rfl rfl d
  · exact c_U_P (C := "PostageCounter$Over") (owner := "PostageCounter$Plain") (x := ⟨"PostageCounter$Plain", "kind", "()I"⟩) (As := []) (st := st) S ((show CP _ _ _ _ _ _ _ _ _ (pI (fun z => z = now p)) from by rw [show now p = 4 by omega]; exact kX3_kind)) moX3_kind (show lvl rm 1 0 0 from ⟨by omega, by omega⟩) ⟨by omega, by omega⟩ rfl hcat hl w381 w379 w394 ⟨by decide +kernel, by decide +kernel, by decide +kernel⟩ w386 w385 h.1 rfl rfl d
  · exact c_U_P (C := "PostageCounter$Strip") (owner := "PostageCounter$Plain") (x := ⟨"PostageCounter$Plain", "kind", "()I"⟩) (As := []) (st := st) S ((show CP _ _ _ _ _ _ _ _ _ (pI (fun z => z = now p)) from by rw [show now p = 1 by omega]; exact kX8_kind)) moX8_kind (show lvl rm 1 0 0 from ⟨by omega, by omega⟩) ⟨by omega, by omega⟩ rfl hcat hl w381 w379 w394 ⟨by decide +kernel, by decide +kernel, by decide +kernel⟩ w392 w391 s1.1 rfl rfl d
  · obtain ⟨c1, c2, c3, c4, c5, c6⟩ := sh_ctx hok hp e b3
    have hB0 := hB
    rcases hB with ⟨hq, hb⟩ | ⟨hq, hb⟩
    · exact c_U_P (C := "PostageCounter$Block") (owner := "PostageCounter$Plain") (x := ⟨"PostageCounter$Plain", "kind", "()I"⟩) (As := []) (st := st) S ((show CP _ _ _ _ _ _ _ _ _ (pI (fun z => z = now p)) from by rw [show now p = 2 by omega]; exact kX0_kind)) moX0_kind (show lvl rm 1 0 0 from ⟨by omega, by omega⟩) ⟨by omega, by omega⟩ rfl hcat hl w381 w379 w394 ⟨by decide +kernel, by decide +kernel, by decide +kernel⟩ w383 w382 hb rfl rfl d
    · exact c_U_P (C := "PostageCounter$Pair") (owner := "PostageCounter$Plain") (x := ⟨"PostageCounter$Plain", "kind", "()I"⟩) (As := []) (st := st) S ((show CP _ _ _ _ _ _ _ _ _ (pI (fun z => z = now p)) from by rw [show now p = 3 by omega]; exact kX4_kind)) moX4_kind (show lvl rm 1 0 0 from ⟨by omega, by omega⟩) ⟨by omega, by omega⟩ rfl hcat hl w381 w379 w394 ⟨by decide +kernel, by decide +kernel, by decide +kernel⟩ w389 w388 hb rfl rfl d

set_option maxRecDepth 20000 in
set_option maxHeartbeats 1000000 in
theorem vdH_together {now : Int → Int} {p : Int}  (hh : hO D N G now p a) (hok : mOK now) (hp : 0 ≤ p ∧ p < 10) (S : FX F cc nL own rm D) (hlv : 1 ≤ rm.frames ∧ 20 ≤ rm.locals) (hsl : ce + 0 ≤ rm.cells ∧ sl + 0 ≤ rm.slots) (hcat : (st.map fun v => v.category).sum ≤ 8) (hl : Cond.methodLink own idx ⟨"PostageCounter$Plain", "together", "()I"⟩ ∈ WS) (d : decode cc pc = .ok (.invokevirtual idx, 3)) : RnP F nL G ce sl pc (.ref a :: st) st (pI (fun z => z = tgF now p)) := by
  have hK := hok.1 p hp.1 hp.2
  have hK4 : 0 ≤ now (10 + p) ∧ now (10 + p) ≤ 64 ∧ 0 ≤ now (20 + p) ∧ now (20 + p) ≤ 500 := ⟨hK.2.2.1, hK.2.2.2.1, hK.2.2.2.2.1, hK.2.2.2.2.2.1⟩
  have hK40 : now p = 1 → now (10 + p) ≤ 40 := hK.2.2.2.2.2.2.2.2.2.2.2.2.1
  have hh0 := hh
  rcases hh with ⟨e, h⟩ | ⟨e, h⟩ | ⟨e, fa, sf, s1, s2, s3⟩ | ⟨e, hn_, m, x, fc, lc, hB, b2, b3, b4, b5⟩
  · exact c_V_P (As := []) (st := st) S ((show CP _ _ _ _ _ _ _ _ _ (pI (fun z => z = tgF now p)) from by rw [show tgF now p = 1 by unfold tgF; rw [if_neg (by omega)]]; exact kX6_together)) moX6_together (show lvl rm 1 0 0 from ⟨by omega, by omega⟩) ⟨by omega, by omega⟩ rfl hcat hl w550 w551 h.1 rfl rfl d
  · exact c_U_P (C := "PostageCounter$Over") (owner := "PostageCounter$Plain") (x := ⟨"PostageCounter$Plain", "together", "()I"⟩) (As := []) (st := st) S ((show CP _ _ _ _ _ _ _ _ _ (pI (fun z => z = tgF now p)) from by rw [show tgF now p = 1 by unfold tgF; rw [if_neg (by omega)]]; exact kX6_together)) moX6_together (show lvl rm 1 0 0 from ⟨by omega, by omega⟩) ⟨by omega, by omega⟩ rfl hcat hl w552 w550 w559 ⟨by decide +kernel, by decide +kernel, by decide +kernel⟩ w550 w554 h.1 rfl rfl d
  · exact c_U_P (C := "PostageCounter$Strip") (owner := "PostageCounter$Plain") (x := ⟨"PostageCounter$Plain", "together", "()I"⟩) (As := []) (st := st) S ((show CP _ _ _ _ _ _ _ _ _ (pI (fun z => z = tgF now p)) from by rw [show tgF now p = 1 by unfold tgF; rw [if_neg (by omega)]]; exact kX6_together)) moX6_together (show lvl rm 1 0 0 from ⟨by omega, by omega⟩) ⟨by omega, by omega⟩ rfl hcat hl w552 w550 w559 ⟨by decide +kernel, by decide +kernel, by decide +kernel⟩ w550 w558 s1.1 rfl rfl d
  · obtain ⟨c1, c2, c3, c4, c5, c6⟩ := sh_ctx hok hp e b3
    have hB0 := hB
    rcases hB with ⟨hq, hb⟩ | ⟨hq, hb⟩
    · exact c_U_P (C := "PostageCounter$Block") (owner := "PostageCounter$Plain") (x := ⟨"PostageCounter$Plain", "together", "()I"⟩) (As := []) (st := st) S ((show CP _ _ _ _ _ _ _ _ _ (pI (fun z => z = tgF now p)) from by rw [show tgF now p = 1 by unfold tgF; rw [if_neg (by omega)]]; exact kX6_together)) moX6_together (show lvl rm 1 0 0 from ⟨by omega, by omega⟩) ⟨by omega, by omega⟩ rfl hcat hl w552 w550 w559 ⟨by decide +kernel, by decide +kernel, by decide +kernel⟩ w550 w553 hb rfl rfl d
    · exact c_U_P (C := "PostageCounter$Pair") (owner := "PostageCounter$Plain") (x := ⟨"PostageCounter$Plain", "together", "()I"⟩) (As := []) (st := st) S ((show CP _ _ _ _ _ _ _ _ _ (pI (fun z => z = tgF now p)) from by rw [show tgF now p = 2 by unfold tgF; rw [if_pos (by omega)]]; exact kX4_together)) moX4_together (show lvl rm 1 0 0 from ⟨by omega, by omega⟩) ⟨by omega, by omega⟩ rfl hcat hl w552 w550 w559 ⟨by decide +kernel, by decide +kernel, by decide +kernel⟩ w556 w555 hb rfl rfl d

set_option maxRecDepth 20000 in
set_option maxHeartbeats 1000000 in
theorem vdH_pieces {now : Int → Int} {p : Int}  (hh : hO D N G now p a) (hok : mOK now) (hp : 0 ≤ p ∧ p < 10) (S : FX F cc nL own rm D) (hlv : 3 ≤ rm.frames ∧ 75 ≤ rm.locals) (hsl : ce + 0 ≤ rm.cells ∧ sl + 0 ≤ rm.slots) (hcat : (st.map fun v => v.category).sum ≤ 8) (hl : Cond.methodLink own idx ⟨"PostageCounter$Plain", "pieces", "()I"⟩ ∈ WS) (d : decode cc pc = .ok (.invokevirtual idx, 3)) : RnP F nL G ce sl pc (.ref a :: st) st (pI (fun z => z = pcsF now p)) := by
  have hK := hok.1 p hp.1 hp.2
  have hK4 : 0 ≤ now (10 + p) ∧ now (10 + p) ≤ 64 ∧ 0 ≤ now (20 + p) ∧ now (20 + p) ≤ 500 := ⟨hK.2.2.1, hK.2.2.2.1, hK.2.2.2.2.1, hK.2.2.2.2.2.1⟩
  have hK40 : now p = 1 → now (10 + p) ≤ 40 := hK.2.2.2.2.2.2.2.2.2.2.2.2.1
  have hh0 := hh
  rcases hh with ⟨e, h⟩ | ⟨e, h⟩ | ⟨e, fa, sf, s1, s2, s3⟩ | ⟨e, hn_, m, x, fc, lc, hB, b2, b3, b4, b5⟩
  · exact c_V_P (As := []) (st := st) S ((show CP _ _ _ _ _ _ _ _ _ (pI (fun z => z = pcsF now p)) from by rw [show pcsF now p = (if now (10 + p) = 0 then 0 else 1) from by unfold pcsF; rw [if_neg (c := now p = 2 ∨ now p = 3) (by omega)]]; exact kX6_pieces hh0 ⟨hK4.1, hK4.2.1⟩)) moX6_pieces (show lvl rm 1 0 0 from ⟨by omega, by omega⟩) ⟨by omega, by omega⟩ rfl hcat hl w410 w411 h.1 rfl rfl d
  · exact c_U_P (C := "PostageCounter$Over") (owner := "PostageCounter$Plain") (x := ⟨"PostageCounter$Plain", "pieces", "()I"⟩) (As := []) (st := st) S ((show CP _ _ _ _ _ _ _ _ _ (pI (fun z => z = pcsF now p)) from by rw [show pcsF now p = (if now (10 + p) = 0 then 0 else 1) from by unfold pcsF; rw [if_neg (c := now p = 2 ∨ now p = 3) (by omega)]]; exact kX6_pieces hh0 ⟨hK4.1, hK4.2.1⟩)) moX6_pieces (show lvl rm 1 0 0 from ⟨by omega, by omega⟩) ⟨by omega, by omega⟩ rfl hcat hl w412 w410 w427 ⟨by decide +kernel, by decide +kernel, by decide +kernel⟩ w410 w424 h.1 rfl rfl d
  · exact c_U_P (C := "PostageCounter$Strip") (owner := "PostageCounter$Plain") (x := ⟨"PostageCounter$Plain", "pieces", "()I"⟩) (As := []) (st := st) S ((show CP _ _ _ _ _ _ _ _ _ (pI (fun z => z = pcsF now p)) from by rw [show pcsF now p = (if now (10 + p) = 0 then 0 else 1) from by unfold pcsF; rw [if_neg (c := now p = 2 ∨ now p = 3) (by omega)]]; exact kX6_pieces hh0 ⟨hK4.1, hK4.2.1⟩)) moX6_pieces (show lvl rm 1 0 0 from ⟨by omega, by omega⟩) ⟨by omega, by omega⟩ rfl hcat hl w412 w410 w427 ⟨by decide +kernel, by decide +kernel, by decide +kernel⟩ w410 w426 s1.1 rfl rfl d
  · obtain ⟨c1, c2, c3, c4, c5, c6⟩ := sh_ctx hok hp e b3
    have hB0 := hB
    rcases hB with ⟨hq, hb⟩ | ⟨hq, hb⟩
    · exact c_U_P (C := "PostageCounter$Block") (owner := "PostageCounter$Plain") (x := ⟨"PostageCounter$Plain", "pieces", "()I"⟩) (As := []) (st := st) S ((show CP _ _ _ _ _ _ _ _ _ (pI (fun z => z = pcsF now p)) from by rw [← pcs_sheet hok hp e b3]; exact kX0_pieces hB0 c1 b4 b5 c3)) moX0_pieces (show lvl rm 1 2 55 from ⟨by omega, by omega⟩) ⟨by omega, by omega⟩ rfl hcat hl w412 w410 w427 ⟨by decide +kernel, by decide +kernel, by decide +kernel⟩ w414 w413 hb rfl rfl d
    · exact c_U_P (C := "PostageCounter$Pair") (owner := "PostageCounter$Plain") (x := ⟨"PostageCounter$Plain", "pieces", "()I"⟩) (As := []) (st := st) S ((show CP _ _ _ _ _ _ _ _ _ (pI (fun z => z = pcsF now p)) from by rw [← pcs_sheet hok hp e b3]; exact kX0_pieces hB0 c1 b4 b5 c3)) moX0_pieces (show lvl rm 1 2 55 from ⟨by omega, by omega⟩) ⟨by omega, by omega⟩ rfl hcat hl w412 w410 w427 ⟨by decide +kernel, by decide +kernel, by decide +kernel⟩ w414 w425 hb rfl rfl d

set_option maxRecDepth 20000 in
set_option maxHeartbeats 1000000 in
theorem vdH_tearing {now : Int → Int} {p : Int} {n : Int} (hn : 0 ≤ n ∧ n ≤ now (10 + p)) (hev : now p = 3 → n % 2 = 0) (hh : hO D N G now p a) (hok : mOK now) (hp : 0 ≤ p ∧ p < 10) (S : FX F cc nL own rm D) (hlv : 5 ≤ rm.frames ∧ 139 ≤ rm.locals) (hsl : ce + 0 ≤ rm.cells ∧ sl + 0 ≤ rm.slots) (hcat : (st.map fun v => v.category).sum ≤ 8) (hl : Cond.methodLink own idx ⟨"PostageCounter$Plain", "tearing", "(I)J"⟩ ∈ WS) (d : decode cc pc = .ok (.invokevirtual idx, 3)) : RnP F nL G ce sl pc (.int (iI n) :: .ref a :: st) st (pL (fun z => giveT now p n (PB z))) := by
  have hK := hok.1 p hp.1 hp.2
  have hK4 : 0 ≤ now (10 + p) ∧ now (10 + p) ≤ 64 ∧ 0 ≤ now (20 + p) ∧ now (20 + p) ≤ 500 := ⟨hK.2.2.1, hK.2.2.2.1, hK.2.2.2.2.1, hK.2.2.2.2.2.1⟩
  have hK40 : now p = 1 → now (10 + p) ≤ 40 := hK.2.2.2.2.2.2.2.2.2.2.2.2.1
  have hh0 := hh
  rcases hh with ⟨e, h⟩ | ⟨e, h⟩ | ⟨e, fa, sf, s1, s2, s3⟩ | ⟨e, hn_, m, x, fc, lc, hB, b2, b3, b4, b5⟩
  · exact c_V_P (As := [.int (iI n)]) (st := st) S (cp_l (fun z hz => Or.inr (Or.inr ⟨by omega, fun k _ _ hk => by rw [hz] at hk; exact bB_0 hk⟩)) kX6_tearing) moX6_tearing (show lvl rm 2 0 0 from ⟨by omega, by omega⟩) ⟨by omega, by omega⟩ rfl hcat hl w580 w581 h.1 rfl rfl d
  · exact c_U_P (C := "PostageCounter$Over") (owner := "PostageCounter$Plain") (x := ⟨"PostageCounter$Plain", "tearing", "(I)J"⟩) (As := [.int (iI n)]) (st := st) S (cp_l (fun z hz => Or.inr (Or.inr ⟨by omega, fun k _ _ hk => by rw [hz] at hk; exact bB_0 hk⟩)) kX6_tearing) moX6_tearing (show lvl rm 2 0 0 from ⟨by omega, by omega⟩) ⟨by omega, by omega⟩ rfl hcat hl w582 w580 w622 ⟨by decide +kernel, by decide +kernel, by decide +kernel⟩ w580 w619 h.1 rfl rfl d
  · exact c_U_P (C := "PostageCounter$Strip") (owner := "PostageCounter$Plain") (x := ⟨"PostageCounter$Plain", "tearing", "(I)J"⟩) (As := [.int (iI n)]) (st := st) S (cp_l (fun z hz => Or.inr (Or.inr ⟨by omega, fun k _ _ hk => by rw [hz] at hk; exact bB_0 hk⟩)) kX6_tearing) moX6_tearing (show lvl rm 2 0 0 from ⟨by omega, by omega⟩) ⟨by omega, by omega⟩ rfl hcat hl w582 w580 w622 ⟨by decide +kernel, by decide +kernel, by decide +kernel⟩ w580 w621 s1.1 rfl rfl d
  · obtain ⟨c1, c2, c3, c4, c5, c6⟩ := sh_ctx hok hp e b3
    have hB0 := hB
    rcases hB with ⟨hq, hb⟩ | ⟨hq, hb⟩
    · exact c_U_P (C := "PostageCounter$Block") (owner := "PostageCounter$Plain") (x := ⟨"PostageCounter$Plain", "tearing", "(I)J"⟩) (As := [.int (iI n)]) (st := st) S (cp_l (fun z hz => give_T hok hp e b3 hn hev hz) (kX0_tearing hB0 c1 b4 b5 c2 b3 c4 c3 c5 c6 (mn := n / (now p - 1)) (by rcases e with e | e <;> rw [e] <;> omega) (by rcases e with e | e <;> rw [e] <;> omega))) moX0_tearing (show lvl rm 4 4 116 from ⟨by omega, by omega⟩) ⟨by omega, by omega⟩ rfl hcat hl w582 w580 w622 ⟨by decide +kernel, by decide +kernel, by decide +kernel⟩ w584 w583 hb rfl rfl d
    · exact c_U_P (C := "PostageCounter$Pair") (owner := "PostageCounter$Plain") (x := ⟨"PostageCounter$Plain", "tearing", "(I)J"⟩) (As := [.int (iI n)]) (st := st) S (cp_l (fun z hz => give_T hok hp e b3 hn hev hz) (kX0_tearing hB0 c1 b4 b5 c2 b3 c4 c3 c5 c6 (mn := n / (now p - 1)) (by rcases e with e | e <;> rw [e] <;> omega) (by rcases e with e | e <;> rw [e] <;> omega))) moX0_tearing (show lvl rm 4 4 116 from ⟨by omega, by omega⟩) ⟨by omega, by omega⟩ rfl hcat hl w582 w580 w622 ⟨by decide +kernel, by decide +kernel, by decide +kernel⟩ w584 w620 hb rfl rfl d

end VH