def fcL (x y : UInt32) : Int := (Op.cmpValue (FP.fcmp x y) .l).toInt
def fcG (x y : UInt32) : Int := (Op.cmpValue (FP.fcmp x y) .g).toInt
def fI (x : UInt32) : Int := (FP.f2i x).toInt
def fF (a : Int) : UInt32 := FP.i2f (iI a)
theorem i32_inR (x : Int32) : inR x.toInt := ⟨by have := x.le_toInt; omega, by have := x.toInt_lt; omega⟩
section ROWS2
variable {F : fxT} {cc : ByteArray} {nL : Nat} {own : String} {rm : Room} {D : va_G} {G : gh} {ce sl pc : Nat} {L : List (Nat × Value)} {st : List Value}
theorem r_dup2 {a b : Value} (ha : a.category = 1) (hb : b.category = 1) (S : FX F cc nL own rm D) (d : decode cc pc = .ok (.dup2, 1)) (k : V F nL G ce sl (pc + 1) L (a :: b :: a :: b :: st)) : V F nL G ce sl pc L (a :: b :: st) := by
  obtain ⟨p, l, e, R, s, m, args, below, meth, c, Q, M, D', bm, G0⟩ := F
  intro H lo hG hM ls hl
  exact lv_dup2_11 S.1.1 S.1.2.1 d ha hb (k H lo hG hM ls hl)
theorem r_dupI {x : Int32} (S : FX F cc nL own rm D) (d : decode cc pc = .ok (.dup, 1)) (k : V F nL G ce sl (pc + 1) L (.int x :: .int x :: st)) : V F nL G ce sl pc L (.int x :: st) := by
  obtain ⟨p, l, e, R, s, m, args, below, meth, c, Q, M, D', bm, G0⟩ := F
  intro H lo hG hM ls hl
  exact lv_dup S.1.1 S.1.2.1 d rfl (k H lo hG hM ls hl)
theorem r_nm {a : Int} (k : V F nL G ce sl pc L (.int (iI (iI a).toInt) :: st)) : V F nL G ce sl pc L (.int (iI a) :: st) := by rw [iI_of] at k; exact k
theorem r_f2i {x : UInt32} (S : FX F cc nL own rm D) (d : decode cc pc = .ok (.f2i, 1)) (k : V F nL G ce sl (pc + 1) L (.int (iI (fI x)) :: st)) : V F nL G ce sl pc L (.float x :: st) := by
  obtain ⟨p, l, e, R, s, m, args, below, meth, c, Q, M, D', bm, G0⟩ := F
  intro H lo hG hM ls hl
  refine lv_f2i S.1.1 S.1.2.1 d ?_
  have := k H lo hG hM ls hl
  unfold fI at this
  rwa [iI_of] at this
theorem r_i2f {a : Int} (S : FX F cc nL own rm D) (d : decode cc pc = .ok (.i2f, 1)) (k : V F nL G ce sl (pc + 1) L (.float (fF a) :: st)) : V F nL G ce sl pc L (.int (iI a) :: st) := by
  obtain ⟨p, l, e, R, s, m, args, below, meth, c, Q, M, D', bm, G0⟩ := F
  intro H lo hG hM ls hl
  exact lv_i2f S.1.1 S.1.2.1 d (k H lo hG hM ls hl)
theorem r_fconst0 (S : FX F cc nL own rm D) (d : decode cc pc = .ok (.fconst 0, 1)) (k : V F nL G ce sl (pc + 1) L (.float FP.fconst0 :: st)) : V F nL G ce sl pc L st := by
  obtain ⟨p, l, e, R, s, m, args, below, meth, c, Q, M, D', bm, G0⟩ := F
  intro H lo hG hM ls hl
  exact lv_fconst0 S.1.1 S.1.2.1 d (k H lo hG hM ls hl)
theorem r_ldcf {i : Nat} {x : UInt32} (hw : Cond.constantFloat own i x ∈ WS) (S : FX F cc nL own rm D) (d : decode cc pc = .ok (.ldc i, 2)) (k : V F nL G ce sl (pc + 2) L (.float x :: st)) : V F nL G ce sl pc L st := by
  obtain ⟨p, l, e, R, s, m, args, below, meth, c, Q, M, D', bm, G0⟩ := F
  intro H lo hG hM ls hl
  exact lv_ldcf S.1.1 S.1.2.1 S.1.2.2.2.1 (S.1.2.2.2.2 _ hw) d (k H lo hG hM ls hl)
theorem r_fcL {x y : UInt32} (S : FX F cc nL own rm D) (d : decode cc pc = .ok (.fcmp .l, 1)) (k : inR (fcL x y) → V F nL G ce sl (pc + 1) L (.int (iI (fcL x y)) :: st)) : V F nL G ce sl pc L (.float y :: .float x :: st) := by
  obtain ⟨p, l, e, R, s, m, args, below, meth, c, Q, M, D', bm, G0⟩ := F
  intro H lo hG hM ls hl
  refine lv_fcmp S.1.1 S.1.2.1 d ?_
  have := k (i32_inR _) H lo hG hM ls hl
  unfold fcL at this
  rwa [iI_of] at this
theorem r_fcG {x y : UInt32} (S : FX F cc nL own rm D) (d : decode cc pc = .ok (.fcmp .g, 1)) (k : inR (fcG x y) → V F nL G ce sl (pc + 1) L (.int (iI (fcG x y)) :: st)) : V F nL G ce sl pc L (.float y :: .float x :: st) := by
  obtain ⟨p, l, e, R, s, m, args, below, meth, c, Q, M, D', bm, G0⟩ := F
  intro H lo hG hM ls hl
  refine lv_fcmp S.1.1 S.1.2.1 d ?_
  have := k (i32_inR _) H lo hG hM ls hl
  unfold fcG at this
  rwa [iI_of] at this
theorem lB_eq {x y : BitVec 64} : lB x = lB y ↔ x = y := ⟨fun h => by have := congrArg Int64.toBitVec h; exact this, fun h => by rw [h]⟩
theorem r_ldc2 {i : Nat} {v : Int64} (x : BitVec 64) (hw : Cond.constantLong own i v ∈ WS) (hv : v = lB x) (S : FX F cc nL own rm D) (d : decode cc pc = .ok (.ldc2_w i, 3)) (k : V F nL G ce sl (pc + 3) L (.long (lB x) :: st)) : V F nL G ce sl pc L st := by
  obtain ⟨p, l, e, R, s, m, args, below, meth, c, Q, M, D', bm, G0⟩ := F
  intro H lo hG hM ls hl
  subst hv
  exact lv_ldc2 S.1.1 S.1.2.1 S.1.2.2.2.1 (S.1.2.2.2.2 _ hw) d (k H lo hG hM ls hl)
theorem r_lcmp {x y : BitVec 64} (S : FX F cc nL own rm D) (d : decode cc pc = .ok (.lcmp, 1)) (k : ∀ z : Int, inR z → (z = 0 ↔ x = y) → V F nL G ce sl (pc + 1) L (.int (iI z) :: st)) : V F nL G ce sl pc L (.long (lB y) :: .long (lB x) :: st) := by
  obtain ⟨p, l, e, R, s, m, args, below, meth, c, Q, M, D', bm, G0⟩ := F
  intro H lo hG hM ls hl
  refine W.lcmp S.1.1 S.1.2.1 d ?_
  by_cases hxy : x = y
  · subst hxy
    rw [show lg_cmp (lB x) (lB x) = iI 0 by unfold lg_cmp; simp; decide]
    exact k 0 (by decide) ⟨fun _ => rfl, fun _ => rfl⟩ H lo hG hM ls hl
  · by_cases hlt : lB x > lB y
    · rw [show lg_cmp (lB x) (lB y) = iI 1 by unfold lg_cmp; rw [if_pos hlt]; decide]
      exact k 1 (by decide) ⟨fun h => by omega, fun h => absurd h hxy⟩ H lo hG hM ls hl
    · rw [show lg_cmp (lB x) (lB y) = iI (-1) by unfold lg_cmp; rw [if_neg hlt, if_neg (fun q => hxy (lB_eq.mp q))]; decide]
      exact k (-1) (by decide) ⟨fun h => by omega, fun h => absurd h hxy⟩ H lo hG hM ls hl
theorem r_tsw {dflt lo' hi off z : Int} {offs : Array Int} {len : Nat} (n : Int) (tgt : Nat) (S : FX F cc nL own rm D) (d : decode cc pc = .ok (.tableswitch dflt lo' hi offs, len)) (hz : z = n) (hn : lo' ≤ n ∧ n ≤ hi ∧ inR n) (ho : offs[(n - lo').toNat]? = some off) (ht : (pc : Int) + off = (tgt : Int)) (k : V F nL G ce sl tgt L st) : V F nL G ce sl pc L (.int (iI z) :: st) := by
  obtain ⟨p, l, e, R, s, m, args, below, meth, c, Q, M, D', bm, G0⟩ := F
  intro H lo hG hM ls hl
  subst hz
  exact lv_tableIn S.1.1 S.1.2.1 d (by rw [iI_toInt hn.2.2]; omega) (by rw [iI_toInt hn.2.2]; omega) (by rw [iI_toInt hn.2.2]; exact ho) ht (k H lo hG hM ls hl)
theorem r_tswD {dflt lo' hi z : Int} {offs : Array Int} {len : Nat} (tgt : Nat) (S : FX F cc nL own rm D) (d : decode cc pc = .ok (.tableswitch dflt lo' hi offs, len)) (hR : inR z) (hn : z < lo' ∨ hi < z) (ht : (pc : Int) + dflt = (tgt : Int)) (k : V F nL G ce sl tgt L st) : V F nL G ce sl pc L (.int (iI z) :: st) := by
  obtain ⟨p, l, e, R, s, m, args, below, meth, c, Q, M, D', bm, G0⟩ := F
  intro H lo hG hM ls hl
  exact lv_tableOut S.1.1 S.1.2.1 d (by rw [iI_toInt hR]; exact hn) ht (k H lo hG hM ls hl)
theorem r_aaldS {a n v : Nat} {kk : Nat} {C : String} {f : Int → Option Nat} {i : Int} (hv : f i = some v) (h : G a = some (eQ D kk n f)) (ht : (tyD D)[2 + kk]? = some (D.1 (102 + kk), .object C)) (h0 : 0 ≤ i) (h1 : i < n) (hn : n ≤ 2147483647) (S : FX F cc nL own rm D) (d : decode cc pc = .ok (.aaload, 1)) (k : V F nL G ce sl (pc + 1) L (.ref v :: st)) : V F nL G ce sl pc L (.int (iI i) :: .ref a :: st) := r_aald S h ht h0 h1 hn d (by rw [hv]; exact k)
theorem r_aaldN {a n : Nat} {kk : Nat} {C : String} {f : Int → Option Nat} {i : Int} (hv : f i = none) (h : G a = some (eQ D kk n f)) (ht : (tyD D)[2 + kk]? = some (D.1 (102 + kk), .object C)) (h0 : 0 ≤ i) (h1 : i < n) (hn : n ≤ 2147483647) (S : FX F cc nL own rm D) (d : decode cc pc = .ok (.aaload, 1)) (k : V F nL G ce sl (pc + 1) L (.null :: st)) : V F nL G ce sl pc L (.int (iI i) :: .ref a :: st) := r_aald S h ht h0 h1 hn d (by rw [hv]; exact k)
/-- instanceof: yes, no -/
theorem r_instY {a ci idx : Nat} {fs : List Value} {C nm : String} {T : u_T} {N : Nat} (h : G a = some (eO ci fs)) (hc : clX[ci]? = some (C, T, N)) (hl : Cond.classLink own idx nm ∈ WS) (hok : (C, nm) ∈ nwC) (S : FX F cc nL own rm D) (d : decode cc pc = .ok (.instanceof idx, 3)) (k : V F nL G ce sl (pc + 3) L (.int (iI 1) :: st)) : V F nL G ce sl pc L (.ref a :: st) := by
  obtain ⟨p, l, e, R, s, m, args, below, meth, c, Q, M, D', bm, G0⟩ := F
  obtain ⟨S1, hK, rfl, rfl, hG0⟩ := S
  intro H lo hG hM ls hls
  refine va_instY (C := C) S1.1 S1.2.1 S1.2.2.2.1 (S1.2.2.2.2 _ hl) (hK.2.1 _ hok) (t_recv hK hG hc h) d ?_
  rw [← iI_1]
  exact k H lo hG hM ls hls
theorem r_instNo {a ci idx : Nat} {fs : List Value} {C nm : String} {T : u_T} {N : Nat} (h : G a = some (eO ci fs)) (hc : clX[ci]? = some (C, T, N)) (hl : Cond.classLink own idx nm ∈ WS) (hok : (C, nm) ∈ ncP) (S : FX F cc nL own rm D) (d : decode cc pc = .ok (.instanceof idx, 3)) (k : V F nL G ce sl (pc + 3) L (.int (iI 0) :: st)) : V F nL G ce sl pc L (.ref a :: st) := by
  obtain ⟨p, l, e, R, s, m, args, below, meth, c, Q, M, D', bm, G0⟩ := F
  obtain ⟨S1, hK, rfl, rfl, hG0⟩ := S
  intro H lo hG hM ls hls
  refine va_instNo (C := C) S1.1 S1.2.1 S1.2.2.2.1 (S1.2.2.2.2 _ hl) (hK.2.2.2.1 _ hok) (t_recv hK hG hc h) d ?_
  rw [← iI_0]
  exact k H lo hG hM ls hls
theorem r_castY {a ci idx : Nat} {fs : List Value} {C nm : String} {T : u_T} {N : Nat} (h : G a = some (eO ci fs)) (hc : clX[ci]? = some (C, T, N)) (hl : Cond.classLink own idx nm ∈ WS) (hok : (C, nm) ∈ nwC) (S : FX F cc nL own rm D) (d : decode cc pc = .ok (.checkcast idx, 3)) (k : V F nL G ce sl (pc + 3) L (.ref a :: st)) : V F nL G ce sl pc L (.ref a :: st) := by
  obtain ⟨p, l, e, R, s, m, args, below, meth, c, Q, M, D', bm, G0⟩ := F
  obtain ⟨S1, hK, rfl, rfl, hG0⟩ := S
  intro H lo hG hM ls hls
  exact va_castY (C := C) S1.1 S1.2.1 S1.2.2.2.1 (S1.2.2.2.2 _ hl) (hK.2.1 _ hok) (t_recv hK hG hc h) d (k H lo hG hM ls hls)
theorem r_instS {a ci idx : Nat} {fs : List Value} {C : String} {T : u_T} {N : Nat} (h : G a = some (eO ci fs)) (hc : clX[ci]? = some (C, T, N)) (hl : Cond.classLink own idx C ∈ WS) (S : FX F cc nL own rm D) (d : decode cc pc = .ok (.instanceof idx, 3)) (k : V F nL G ce sl (pc + 3) L (.int (iI 1) :: st)) : V F nL G ce sl pc L (.ref a :: st) := by
  obtain ⟨p, l, e, R, s, m, args, below, meth, c, Q, M, D', bm, G0⟩ := F
  obtain ⟨S1, hK, rfl, rfl, hG0⟩ := S
  intro H lo hG hM ls hls
  refine va_instS S1.1 S1.2.1 S1.2.2.2.1 (S1.2.2.2.2 _ hl) (hK.1.1 ci _ hc).2 (t_recv hK hG hc h) d ?_
  rw [← iI_1]
  exact k H lo hG hM ls hls
theorem r_castS {a ci idx : Nat} {fs : List Value} {C : String} {T : u_T} {N : Nat} (h : G a = some (eO ci fs)) (hc : clX[ci]? = some (C, T, N)) (hl : Cond.classLink own idx C ∈ WS) (S : FX F cc nL own rm D) (d : decode cc pc = .ok (.checkcast idx, 3)) (k : V F nL G ce sl (pc + 3) L (.ref a :: st)) : V F nL G ce sl pc L (.ref a :: st) := by
  obtain ⟨p, l, e, R, s, m, args, below, meth, c, Q, M, D', bm, G0⟩ := F
  obtain ⟨S1, hK, rfl, rfl, hG0⟩ := S
  intro H lo hG hM ls hls
  exact va_castS S1.1 S1.2.1 S1.2.2.2.1 (S1.2.2.2.2 _ hl) (hK.1.1 ci _ hc).2 (t_recv hK hG hc h) d (k H lo hG hM ls hls)
theorem r_mmax {a b : Int} {idx : Nat} (hl : Cond.methodLink own idx Lib.Math.max.name ∈ WS) (h2 : Cond.static Lib.Math.max.name ∈ WS) (h3 : Cond.initialized "java/lang/Math" ∈ WS) (h4 : Cond.code Lib.Math.max.name Lib.Math.max.code 2 (some .int) ∈ WS) (hfr : 1 ≤ rm.frames) (hlo : (st.map fun v => v.category).sum + 13 ≤ rm.locals) (hc : ce ≤ rm.cells ∧ sl ≤ rm.slots) (ha : inR a) (hb : inR b) (S : FX F cc nL own rm D) (d : decode cc pc = .ok (.invokestatic idx, 3)) (k : V F nL G ce sl (pc + 3) L (.int (iI (max a b)) :: st)) : V F nL G ce sl pc L (.int (iI b) :: .int (iI a) :: st) := by
  obtain ⟨p, l, e, R, s, m, args, below, meth, c, Q, M, D', bm, G0⟩ := F
  obtain ⟨S1, hK, rfl, rfl, hG0⟩ := S
  intro H lo hG hM ls hls
  refine va_mmax S1.1 S1.2.1 (S1.2.2.1.trans hls.1.symm) S1.2.2.2.1 (S1.2.2.2.2 _ hl) (S1.2.2.2.2 _ h2) (S1.2.2.2.2 _ h3) (S1.2.2.2.2 _ h4) hfr hlo hc.1 hc.2 d ?_
  rw [show (if iI a < iI b then iI b else iI a) = iI (max a b) by
    by_cases h : a < b
    · rw [if_pos ((iI_lt ha hb).mpr h), show max a b = b by omega]
    · rw [if_neg (fun q => h ((iI_lt ha hb).mp q)), show max a b = a by omega]]
  exact k H lo hG hM ls hls
theorem r_mmin {a b : Int} {idx : Nat} (hl : Cond.methodLink own idx Lib.Math.min.name ∈ WS) (h2 : Cond.static Lib.Math.min.name ∈ WS) (h3 : Cond.initialized "java/lang/Math" ∈ WS) (h4 : Cond.code Lib.Math.min.name Lib.Math.min.code 2 (some .int) ∈ WS) (hfr : 1 ≤ rm.frames) (hlo : (st.map fun v => v.category).sum + 13 ≤ rm.locals) (hc : ce ≤ rm.cells ∧ sl ≤ rm.slots) (ha : inR a) (hb : inR b) (S : FX F cc nL own rm D) (d : decode cc pc = .ok (.invokestatic idx, 3)) (k : V F nL G ce sl (pc + 3) L (.int (iI (min a b)) :: st)) : V F nL G ce sl pc L (.int (iI b) :: .int (iI a) :: st) := by
  obtain ⟨p, l, e, R, s, m, args, below, meth, c, Q, M, D', bm, G0⟩ := F
  obtain ⟨S1, hK, rfl, rfl, hG0⟩ := S
  intro H lo hG hM ls hls
  refine va_mmin S1.1 S1.2.1 (S1.2.2.1.trans hls.1.symm) S1.2.2.2.1 (S1.2.2.2.2 _ hl) (S1.2.2.2.2 _ h2) (S1.2.2.2.2 _ h3) (S1.2.2.2.2 _ h4) hfr hlo hc.1 hc.2 d ?_
  rw [show (if iI b < iI a then iI b else iI a) = iI (min a b) by
    by_cases h : b < a
    · rw [if_pos ((iI_lt hb ha).mpr h), show min a b = b by omega]
    · rw [if_neg (fun q => h ((iI_lt hb ha).mp q)), show min a b = a by omega]]
  exact k H lo hG hM ls hls
end ROWS2
