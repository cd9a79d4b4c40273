/-! a walk: at pc with locals L and operands st over the ghost heap G -/
abbrev fxT : Type := Program × Launch × Env × Room × State × MethodId × Array Value × List Frame × Method × Code × (State → Prop) × (Nat → Prop) × va_G × Bool × gh
def mdH (M : Nat → Prop) (b : Bool) (G0 G : gh) (s : State) (H : Heap) (lo : List Loc) : Prop := match b with
  | true => H = s.heap ∧ lo = [] ∧ G = G0
  | false => gExt G0 G M ∧ va_S (fun q => M q ∨ s.heap.size ≤ q) s.heap H lo
def V (F : fxT) (nL : Nat) (G : gh) (ce sl pc : Nat) (L : List (Nat × Value)) (st : List Value) : Prop := match F with
  | (p, l, e, R, s, m, args, below, meth, c, Q, M, D, b, G0) => ∀ (H : Heap) (lo : List Loc), gOk D G H → mdH M b G0 G s H lo → ∀ ls : Array Slot, lv_has ls nL L → W p l e R s m args below meth c H lo ce sl Q (F0 m pc ls st)
def FX (F : fxT) (cc : ByteArray) (nL : Nat) (own : String) (rm : Room) (D : va_G) : Prop := match F with
  | (p, l, e, R, s, m, args, below, meth, c, Q, M, D', b, G0) => CallFix p m c cc nL s args WS own ∧ KK D s ∧ D' = D ∧ R = rm ∧ gOk D G0 s.heap
def fMut (F : fxT) : Prop := match F with
  | (p, l, e, R, s, m, args, below, meth, c, Q, M, D, b, G0) => b = false
def wr (F : fxT) (a : Nat) : Prop := match F with
  | (p, l, e, R, s, m, args, below, meth, c, Q, M, D, b, G0) => M a ∨ s.heap.size ≤ a
def fIn (F : fxT) : Prop := match F with
  | (p, l, e, R, s, m, args, below, meth, c, Q, M, D, b, G0) => meth.name = "<init>"
def stl (i : Nat) (v : Value) (L : List (Nat × Value)) : List (Nat × Value) := (i, v) :: L.filter (fun q => !(q.1 == i) && !(q.1 + 1 == i && q.2.category == 2))
def stl2 (i : Nat) (v : Value) (L : List (Nat × Value)) : List (Nat × Value) := (i, v) :: L.filter (fun q => !(q.1 == i) && (!(q.1 == i + 1) && !(q.1 + 1 == i && q.2.category == 2)))
section VR
variable {F : fxT} {cc : ByteArray} {nL : Nat} {own : String} {rm : Room} {D : va_G} {G : gh} {ce sl pc : Nat} {L L' : List (Nat × Value)} {st : List Value}
/-- fewer locals, in any order -/
theorem V.sub (ks : List Nat) (hl : lv_pick L ks = L') (k : V F nL G ce sl pc L' st) : V F nL G ce sl pc L st := by
  obtain ⟨p, l, e, R, s, m, args, below, meth, c, Q, M, D', bm, G0⟩ := F
  exact fun H lo hG hM ls hls => k H lo hG hM ls (lv_sub hls ks hl)
theorem V.g {G' : gh} (e : G = G') (k : V F nL G' ce sl pc L st) : V F nL G ce sl pc L st := e ▸ k
theorem V.widen {ce' sl' : Nat} (h1 : ce ≤ ce') (h2 : sl ≤ sl') (k : V F nL G ce' sl' pc L st) : V F nL G ce sl pc L st := by
  obtain ⟨p, l, e, R, s, m, args, below, meth, c, Q, M, D', bm, G0⟩ := F
  exact fun H lo hG hM ls hls => W.widen h1 h2 (k H lo hG hM ls hls)

theorem r_iconst (S : FX F cc nL own rm D) {n : Int} (d : decode cc pc = .ok (.iconst n, 1)) (k : V F nL G ce sl (pc + 1) L (.int (iI n) :: st)) : V F nL G ce sl pc L st := by
  obtain ⟨p, l, e, R, s, m, args, below, meth, c, Q, M, D', bm, G0⟩ := F
  intro H lo hG hM ls hl
  exact lv_iconst S.1.1 S.1.2.1 d rfl (k H lo hG hM ls hl)

theorem r_bipush (S : FX F cc nL own rm D) {n : Int} (d : decode cc pc = .ok (.bipush n, 2)) (hv : (Int8.ofInt n).toInt32 = iI n) (k : V F nL G ce sl (pc + 2) L (.int (iI n) :: st)) : V F nL G ce sl pc L st := by
  obtain ⟨p, l, e, R, s, m, args, below, meth, c, Q, M, D', bm, G0⟩ := F
  intro H lo hG hM ls hl
  exact lv_bipush S.1.1 S.1.2.1 d hv (k H lo hG hM ls hl)

theorem r_sipush (S : FX F cc nL own rm D) {n : Int} (d : decode cc pc = .ok (.sipush n, 3)) (hv : (Int16.ofInt n).toInt32 = iI n) (k : V F nL G ce sl (pc + 3) L (.int (iI n) :: st)) : V F nL G ce sl pc L st := by
  obtain ⟨p, l, e, R, s, m, args, below, meth, c, Q, M, D', bm, G0⟩ := F
  intro H lo hG hM ls hl
  exact lv_sipush S.1.1 S.1.2.1 d hv (k H lo hG hM ls hl)

theorem r_ldc (S : FX F cc nL own rm D) {i : Nat} {x : Int32} (z : Int) (hw : Cond.constant own i x ∈ WS) (hv : x = iI z) (d : decode cc pc = .ok (.ldc i, 2)) (k : V F nL G ce sl (pc + 2) L (.int (iI z) :: st)) : V F nL G ce sl pc L st := by
  obtain ⟨p, l, e, R, s, m, args, below, meth, c, Q, M, D', bm, G0⟩ := F
  intro H lo hG hM ls hl
  subst hv
  exact lv_ldc S.1.1 S.1.2.1 S.1.2.2.2.1 (S.1.2.2.2.2 _ hw) d (k H lo hG hM ls hl)

theorem r_lconst (S : FX F cc nL own rm D) {n : Fin 2} (x : BitVec 64) (d : decode cc pc = .ok (.lconst n, 1)) (hv : Int64.ofNat (n : Nat) = lB x) (k : V F nL G ce sl (pc + 1) L (.long (lB x) :: st)) : V F nL G ce sl pc L st := by
  obtain ⟨p, l, e, R, s, m, args, below, meth, c, Q, M, D', bm, G0⟩ := F
  intro H lo hG hM ls hl
  exact lv_lconst S.1.1 S.1.2.1 d hv (k H lo hG hM ls hl)

theorem r_null (S : FX F cc nL own rm D) (d : decode cc pc = .ok (.aconst_null, 1)) (k : V F nL G ce sl (pc + 1) L (.null :: st)) : V F nL G ce sl pc L st := by
  obtain ⟨p, l, e, R, s, m, args, below, meth, c, Q, M, D', bm, G0⟩ := F
  intro H lo hG hM ls hl
  exact lv_null S.1.1 S.1.2.1 d (k H lo hG hM ls hl)

theorem r_iload (S : FX F cc nL own rm D) {i : Nat} {x : Int32} (d : decode cc pc = .ok (.iload i, 2)) (k0 : Nat) (hk : L[k0]? = some (i, .int x)) (k : V F nL G ce sl (pc + 2) L (.int x :: st)) : V F nL G ce sl pc L st := by
  obtain ⟨p, l, e, R, s, m, args, below, meth, c, Q, M, D', bm, G0⟩ := F
  intro H lo hG hM ls hl
  exact lv_iload S.1.1 S.1.2.1 d (lv_at hl k0 hk) (k H lo hG hM ls hl)

theorem r_iload_n (S : FX F cc nL own rm D) {i : Fin 4} {x : Int32} (d : decode cc pc = .ok (.iload_n i, 1)) (k0 : Nat) (hk : L[k0]? = some ((i : Nat), .int x)) (k : V F nL G ce sl (pc + 1) L (.int x :: st)) : V F nL G ce sl pc L st := by
  obtain ⟨p, l, e, R, s, m, args, below, meth, c, Q, M, D', bm, G0⟩ := F
  intro H lo hG hM ls hl
  exact lv_iload_n S.1.1 S.1.2.1 d rfl (lv_at hl k0 hk) (k H lo hG hM ls hl)

theorem r_lload (S : FX F cc nL own rm D) {i : Nat} {x : Int64} (d : decode cc pc = .ok (.lload i, 2)) (k0 : Nat) (hk : L[k0]? = some (i, .long x)) (k : V F nL G ce sl (pc + 2) L (.long x :: st)) : V F nL G ce sl pc L st := by
  obtain ⟨p, l, e, R, s, m, args, below, meth, c, Q, M, D', bm, G0⟩ := F
  intro H lo hG hM ls hl
  exact lv_lload S.1.1 S.1.2.1 d (lv_at hl k0 hk) (k H lo hG hM ls hl)

theorem r_lload_n (S : FX F cc nL own rm D) {i : Fin 4} {x : Int64} (d : decode cc pc = .ok (.lload_n i, 1)) (k0 : Nat) (hk : L[k0]? = some ((i : Nat), .long x)) (k : V F nL G ce sl (pc + 1) L (.long x :: st)) : V F nL G ce sl pc L st := by
  obtain ⟨p, l, e, R, s, m, args, below, meth, c, Q, M, D', bm, G0⟩ := F
  intro H lo hG hM ls hl
  exact lv_lload_n S.1.1 S.1.2.1 d rfl (lv_at hl k0 hk) (k H lo hG hM ls hl)

theorem r_aload (S : FX F cc nL own rm D) {i : Nat} {x : Nat} (d : decode cc pc = .ok (.aload i, 2)) (k0 : Nat) (hk : L[k0]? = some (i, .ref x)) (k : V F nL G ce sl (pc + 2) L (.ref x :: st)) : V F nL G ce sl pc L st := by
  obtain ⟨p, l, e, R, s, m, args, below, meth, c, Q, M, D', bm, G0⟩ := F
  intro H lo hG hM ls hl
  exact lv_aload S.1.1 S.1.2.1 d (lv_at hl k0 hk) (k H lo hG hM ls hl)

theorem r_aload_n (S : FX F cc nL own rm D) {i : Fin 4} {x : Nat} (d : decode cc pc = .ok (.aload_n i, 1)) (k0 : Nat) (hk : L[k0]? = some ((i : Nat), .ref x)) (k : V F nL G ce sl (pc + 1) L (.ref x :: st)) : V F nL G ce sl pc L st := by
  obtain ⟨p, l, e, R, s, m, args, below, meth, c, Q, M, D', bm, G0⟩ := F
  intro H lo hG hM ls hl
  exact lv_aload_n S.1.1 S.1.2.1 d rfl (lv_at hl k0 hk) (k H lo hG hM ls hl)

theorem r_fload (S : FX F cc nL own rm D) {i : Nat} {x : UInt32} (d : decode cc pc = .ok (.fload i, 2)) (k0 : Nat) (hk : L[k0]? = some (i, .float x)) (k : V F nL G ce sl (pc + 2) L (.float x :: st)) : V F nL G ce sl pc L st := by
  obtain ⟨p, l, e, R, s, m, args, below, meth, c, Q, M, D', bm, G0⟩ := F
  intro H lo hG hM ls hl
  exact lv_fload S.1.1 S.1.2.1 d (lv_at hl k0 hk) (k H lo hG hM ls hl)

theorem r_fload_n (S : FX F cc nL own rm D) {i : Fin 4} {x : UInt32} (d : decode cc pc = .ok (.fload_n i, 1)) (k0 : Nat) (hk : L[k0]? = some ((i : Nat), .float x)) (k : V F nL G ce sl (pc + 1) L (.float x :: st)) : V F nL G ce sl pc L st := by
  obtain ⟨p, l, e, R, s, m, args, below, meth, c, Q, M, D', bm, G0⟩ := F
  intro H lo hG hM ls hl
  exact lv_fload_n S.1.1 S.1.2.1 d rfl (lv_at hl k0 hk) (k H lo hG hM ls hl)

theorem r_aloadN (S : FX F cc nL own rm D) {i : Nat} (d : decode cc pc = .ok (.aload i, 2)) (k0 : Nat) (hk : L[k0]? = some (i, .null)) (k : V F nL G ce sl (pc + 2) L (.null :: st)) : V F nL G ce sl pc L st := by
  obtain ⟨p, l, e, R, s, m, args, below, meth, c, Q, M, D', bm, G0⟩ := F
  intro H lo hG hM ls hl
  exact lv_aloadN S.1.1 S.1.2.1 d (lv_at hl k0 hk) (k H lo hG hM ls hl)

theorem r_aload_nN (S : FX F cc nL own rm D) {i : Fin 4} (d : decode cc pc = .ok (.aload_n i, 1)) (k0 : Nat) (hk : L[k0]? = some ((i : Nat), .null)) (k : V F nL G ce sl (pc + 1) L (.null :: st)) : V F nL G ce sl pc L st := by
  obtain ⟨p, l, e, R, s, m, args, below, meth, c, Q, M, D', bm, G0⟩ := F
  intro H lo hG hM ls hl
  exact lv_aload_nN S.1.1 S.1.2.1 d rfl (lv_at hl k0 hk) (k H lo hG hM ls hl)

theorem r_istore (S : FX F cc nL own rm D) {i : Nat} {x : Int32} (d : decode cc pc = .ok (.istore i, 2)) (hn : i < nL) (hL : stl i (.int x) L = L') (k : V F nL G ce sl (pc + 2) L' st) : V F nL G ce sl pc L (.int x :: st) := by
  obtain ⟨p, l, e, R, s, m, args, below, meth, c, Q, M, D', bm, G0⟩ := F
  intro H lo hG hM ls hl
  exact lv_istore S.1.1 S.1.2.1 d hl hn hL (fun ls hl => k H lo hG hM ls hl)

theorem r_istore_n (S : FX F cc nL own rm D) {i : Fin 4} {x : Int32} (d : decode cc pc = .ok (.istore_n i, 1)) (hn : (i : Nat) < nL) (hL : stl (i : Nat) (.int x) L = L') (k : V F nL G ce sl (pc + 1) L' st) : V F nL G ce sl pc L (.int x :: st) := by
  obtain ⟨p, l, e, R, s, m, args, below, meth, c, Q, M, D', bm, G0⟩ := F
  intro H lo hG hM ls hl
  exact lv_istore_n S.1.1 S.1.2.1 d rfl hl hn hL (fun ls hl => k H lo hG hM ls hl)

theorem r_astore (S : FX F cc nL own rm D) {i : Nat} {x : Nat} (d : decode cc pc = .ok (.astore i, 2)) (hn : i < nL) (hL : stl i (.ref x) L = L') (k : V F nL G ce sl (pc + 2) L' st) : V F nL G ce sl pc L (.ref x :: st) := by
  obtain ⟨p, l, e, R, s, m, args, below, meth, c, Q, M, D', bm, G0⟩ := F
  intro H lo hG hM ls hl
  exact lv_astore S.1.1 S.1.2.1 d hl hn hL (fun ls hl => k H lo hG hM ls hl)

theorem r_astore_n (S : FX F cc nL own rm D) {i : Fin 4} {x : Nat} (d : decode cc pc = .ok (.astore_n i, 1)) (hn : (i : Nat) < nL) (hL : stl (i : Nat) (.ref x) L = L') (k : V F nL G ce sl (pc + 1) L' st) : V F nL G ce sl pc L (.ref x :: st) := by
  obtain ⟨p, l, e, R, s, m, args, below, meth, c, Q, M, D', bm, G0⟩ := F
  intro H lo hG hM ls hl
  exact lv_astore_n S.1.1 S.1.2.1 d rfl hl hn hL (fun ls hl => k H lo hG hM ls hl)

theorem r_lstore (S : FX F cc nL own rm D) {i : Nat} {x : Int64} (d : decode cc pc = .ok (.lstore i, 2)) (hn : i + 1 < nL) (hL : stl2 i (.long x) L = L') (k : V F nL G ce sl (pc + 2) L' st) : V F nL G ce sl pc L (.long x :: st) := by
  obtain ⟨p, l, e, R, s, m, args, below, meth, c, Q, M, D', bm, G0⟩ := F
  intro H lo hG hM ls hl
  exact lv_lstore S.1.1 S.1.2.1 d hl hn hL (fun ls hl => k H lo hG hM ls hl)

theorem r_lstore_n (S : FX F cc nL own rm D) {i : Fin 4} {x : Int64} (d : decode cc pc = .ok (.lstore_n i, 1)) (hn : (i : Nat) + 1 < nL) (hL : stl2 (i : Nat) (.long x) L = L') (k : V F nL G ce sl (pc + 1) L' st) : V F nL G ce sl pc L (.long x :: st) := by
  obtain ⟨p, l, e, R, s, m, args, below, meth, c, Q, M, D', bm, G0⟩ := F
  intro H lo hG hM ls hl
  exact lv_lstore_n S.1.1 S.1.2.1 d rfl hl hn hL (fun ls hl => k H lo hG hM ls hl)

theorem r_astoreN (S : FX F cc nL own rm D) {i : Nat} (d : decode cc pc = .ok (.astore i, 2)) (hn : i < nL) (hL : stl i .null L = L') (k : V F nL G ce sl (pc + 2) L' st) : V F nL G ce sl pc L (.null :: st) := by
  obtain ⟨p, l, e, R, s, m, args, below, meth, c, Q, M, D', bm, G0⟩ := F
  intro H lo hG hM ls hl
  exact lv_astoreN S.1.1 S.1.2.1 d hl hn hL (fun ls hl => k H lo hG hM ls hl)

theorem r_astore_nN (S : FX F cc nL own rm D) {i : Fin 4} (d : decode cc pc = .ok (.astore_n i, 1)) (hn : (i : Nat) < nL) (hL : stl (i : Nat) .null L = L') (k : V F nL G ce sl (pc + 1) L' st) : V F nL G ce sl pc L (.null :: st) := by
  obtain ⟨p, l, e, R, s, m, args, below, meth, c, Q, M, D', bm, G0⟩ := F
  intro H lo hG hM ls hl
  exact lv_astore_nN S.1.1 S.1.2.1 d rfl hl hn hL (fun ls hl => k H lo hG hM ls hl)

theorem r_iinc (S : FX F cc nL own rm D) {i : Nat} {n a : Int} (d : decode cc pc = .ok (.iinc i n, 3)) (k0 : Nat) (hk : L[k0]? = some (i, .int (iI a))) (hn : i < nL) (hL : stl i (.int (iI (a + n))) L = L') (k : V F nL G ce sl (pc + 3) L' st) : V F nL G ce sl pc L st := by
  obtain ⟨p, l, e, R, s, m, args, below, meth, c, Q, M, D', bm, G0⟩ := F
  intro H lo hG hM ls hl
  exact lv_iinc (v := iI (a + n)) S.1.1 S.1.2.1 d hl hk (iI_add a n) hn hL (fun ls hl => k H lo hG hM ls hl)

theorem r_iadd (S : FX F cc nL own rm D) {a b : Int} (d : decode cc pc = .ok (.iadd, 1)) (k : V F nL G ce sl (pc + 1) L (.int (iI (a + b)) :: st)) : V F nL G ce sl pc L (.int (iI b) :: .int (iI a) :: st) := by
  obtain ⟨p, l, e, R, s, m, args, below, meth, c, Q, M, D', bm, G0⟩ := F
  intro H lo hG hM ls hl
  refine lv_iadd S.1.1 S.1.2.1 d ?_
  rw [iI_add]
  exact k H lo hG hM ls hl

theorem r_isub (S : FX F cc nL own rm D) {a b : Int} (d : decode cc pc = .ok (.isub, 1)) (k : V F nL G ce sl (pc + 1) L (.int (iI (a - b)) :: st)) : V F nL G ce sl pc L (.int (iI b) :: .int (iI a) :: st) := by
  obtain ⟨p, l, e, R, s, m, args, below, meth, c, Q, M, D', bm, G0⟩ := F
  intro H lo hG hM ls hl
  refine lv_isub S.1.1 S.1.2.1 d ?_
  rw [iI_sub]
  exact k H lo hG hM ls hl

theorem r_imul (S : FX F cc nL own rm D) {a b : Int} (d : decode cc pc = .ok (.imul, 1)) (k : V F nL G ce sl (pc + 1) L (.int (iI (a * b)) :: st)) : V F nL G ce sl pc L (.int (iI b) :: .int (iI a) :: st) := by
  obtain ⟨p, l, e, R, s, m, args, below, meth, c, Q, M, D', bm, G0⟩ := F
  intro H lo hG hM ls hl
  refine lv_imul S.1.1 S.1.2.1 d ?_
  rw [iI_mul]
  exact k H lo hG hM ls hl

theorem r_idiv (S : FX F cc nL own rm D) {a b : Int} (d : decode cc pc = .ok (.idiv, 1)) (ha : 0 ≤ a ∧ a ≤ 2147483647) (hb : 0 < b ∧ b ≤ 2147483647) (k : V F nL G ce sl (pc + 1) L (.int (iI (a / b)) :: st)) : V F nL G ce sl pc L (.int (iI b) :: .int (iI a) :: st) := by
  obtain ⟨p, l, e, R, s, m, args, below, meth, c, Q, M, D', bm, G0⟩ := F
  intro H lo hG hM ls hl
  refine lv_idiv S.1.1 S.1.2.1 d (by rw [← iI_0, iI_eq ⟨by omega, by omega⟩ ⟨by omega, by omega⟩]; omega) ?_
  rw [iI_div ha hb]
  exact k H lo hG hM ls hl

theorem r_irem (S : FX F cc nL own rm D) {a b : Int} (d : decode cc pc = .ok (.irem, 1)) (ha : 0 ≤ a ∧ a ≤ 2147483647) (hb : 0 < b ∧ b ≤ 2147483647) (k : V F nL G ce sl (pc + 1) L (.int (iI (a % b)) :: st)) : V F nL G ce sl pc L (.int (iI b) :: .int (iI a) :: st) := by
  obtain ⟨p, l, e, R, s, m, args, below, meth, c, Q, M, D', bm, G0⟩ := F
  intro H lo hG hM ls hl
  refine lv_irem S.1.1 S.1.2.1 d (by rw [← iI_0, iI_eq ⟨by omega, by omega⟩ ⟨by omega, by omega⟩]; omega) ?_
  rw [iI_rem ha hb]
  exact k H lo hG hM ls hl

theorem r_iand (S : FX F cc nL own rm D) {a b : Int} (d : decode cc pc = .ok (.iand, 1)) (k : ∀ z : Int, inR z → iI z = iI a &&& iI b → V F nL G ce sl (pc + 1) L (.int (iI z) :: st)) : V F nL G ce sl pc L (.int (iI b) :: .int (iI a) :: st) := by
  obtain ⟨p, l, e, R, s, m, args, below, meth, c, Q, M, D', bm, G0⟩ := F
  intro H lo hG hM ls hl
  refine lv_iand S.1.1 S.1.2.1 d ?_
  obtain ⟨z, hz, ez⟩ := iI_ex (iI a &&& iI b)
  rw [ez]
  exact k z hz ez.symm H lo hG hM ls hl

theorem r_ior (S : FX F cc nL own rm D) {a b : Int} (d : decode cc pc = .ok (.ior, 1)) (k : ∀ z : Int, inR z → iI z = iI a ||| iI b → V F nL G ce sl (pc + 1) L (.int (iI z) :: st)) : V F nL G ce sl pc L (.int (iI b) :: .int (iI a) :: st) := by
  obtain ⟨p, l, e, R, s, m, args, below, meth, c, Q, M, D', bm, G0⟩ := F
  intro H lo hG hM ls hl
  refine lv_ior S.1.1 S.1.2.1 d ?_
  obtain ⟨z, hz, ez⟩ := iI_ex (iI a ||| iI b)
  rw [ez]
  exact k z hz ez.symm H lo hG hM ls hl

theorem r_ishl (S : FX F cc nL own rm D) {a b : Int} (d : decode cc pc = .ok (.ishl, 1)) (k : ∀ z : Int, inR z → iI z = iI a <<< (iI b &&& 31) → V F nL G ce sl (pc + 1) L (.int (iI z) :: st)) : V F nL G ce sl pc L (.int (iI b) :: .int (iI a) :: st) := by
  obtain ⟨p, l, e, R, s, m, args, below, meth, c, Q, M, D', bm, G0⟩ := F
  intro H lo hG hM ls hl
  refine lv_ishl S.1.1 S.1.2.1 d ?_
  obtain ⟨z, hz, ez⟩ := iI_ex (iI a <<< (iI b &&& 31))
  rw [ez]
  exact k z hz ez.symm H lo hG hM ls hl

theorem r_ishr (S : FX F cc nL own rm D) {a b : Int} (d : decode cc pc = .ok (.ishr, 1)) (k : ∀ z : Int, inR z → iI z = iI a >>> (iI b &&& 31) → V F nL G ce sl (pc + 1) L (.int (iI z) :: st)) : V F nL G ce sl pc L (.int (iI b) :: .int (iI a) :: st) := by
  obtain ⟨p, l, e, R, s, m, args, below, meth, c, Q, M, D', bm, G0⟩ := F
  intro H lo hG hM ls hl
  refine lv_ishr S.1.1 S.1.2.1 d ?_
  obtain ⟨z, hz, ez⟩ := iI_ex (iI a >>> (iI b &&& 31))
  rw [ez]
  exact k z hz ez.symm H lo hG hM ls hl

theorem r_land (S : FX F cc nL own rm D) {x y : BitVec 64} (d : decode cc pc = .ok (.land, 1)) (k : V F nL G ce sl (pc + 1) L (.long (lB (x &&& y)) :: st)) : V F nL G ce sl pc L (.long (lB y) :: .long (lB x) :: st) := by
  obtain ⟨p, l, e, R, s, m, args, below, meth, c, Q, M, D', bm, G0⟩ := F
  intro H lo hG hM ls hl
  exact lv_land S.1.1 S.1.2.1 d (k H lo hG hM ls hl)

theorem r_lor (S : FX F cc nL own rm D) {x y : BitVec 64} (d : decode cc pc = .ok (.lor, 1)) (k : V F nL G ce sl (pc + 1) L (.long (lB (x ||| y)) :: st)) : V F nL G ce sl pc L (.long (lB y) :: .long (lB x) :: st) := by
  obtain ⟨p, l, e, R, s, m, args, below, meth, c, Q, M, D', bm, G0⟩ := F
  intro H lo hG hM ls hl
  exact lv_lor S.1.1 S.1.2.1 d (k H lo hG hM ls hl)

theorem r_lxor (S : FX F cc nL own rm D) {x y : BitVec 64} (d : decode cc pc = .ok (.lxor, 1)) (k : V F nL G ce sl (pc + 1) L (.long (lB (x ^^^ y)) :: st)) : V F nL G ce sl pc L (.long (lB y) :: .long (lB x) :: st) := by
  obtain ⟨p, l, e, R, s, m, args, below, meth, c, Q, M, D', bm, G0⟩ := F
  intro H lo hG hM ls hl
  exact lv_lxor S.1.1 S.1.2.1 d (k H lo hG hM ls hl)

theorem r_ladd (S : FX F cc nL own rm D) {x y : BitVec 64} (d : decode cc pc = .ok (.ladd, 1)) (k : V F nL G ce sl (pc + 1) L (.long (lB (x + y)) :: st)) : V F nL G ce sl pc L (.long (lB y) :: .long (lB x) :: st) := by
  obtain ⟨p, l, e, R, s, m, args, below, meth, c, Q, M, D', bm, G0⟩ := F
  intro H lo hG hM ls hl
  exact lv_ladd S.1.1 S.1.2.1 d (k H lo hG hM ls hl)

theorem r_lsub (S : FX F cc nL own rm D) {x y : BitVec 64} (d : decode cc pc = .ok (.lsub, 1)) (k : V F nL G ce sl (pc + 1) L (.long (lB (x - y)) :: st)) : V F nL G ce sl pc L (.long (lB y) :: .long (lB x) :: st) := by
  obtain ⟨p, l, e, R, s, m, args, below, meth, c, Q, M, D', bm, G0⟩ := F
  intro H lo hG hM ls hl
  exact lv_lsub S.1.1 S.1.2.1 d (k H lo hG hM ls hl)

theorem r_lneg (S : FX F cc nL own rm D) {x : BitVec 64} (d : decode cc pc = .ok (.lneg, 1)) (k : V F nL G ce sl (pc + 1) L (.long (lB (-x)) :: st)) : V F nL G ce sl pc L (.long (lB x) :: st) := by
  obtain ⟨p, l, e, R, s, m, args, below, meth, c, Q, M, D', bm, G0⟩ := F
  intro H lo hG hM ls hl
  exact lv_lneg S.1.1 S.1.2.1 d (k H lo hG hM ls hl)

theorem r_lshl (S : FX F cc nL own rm D) {x : BitVec 64} {a : Int} (ha : 0 ≤ a ∧ a < 64) (d : decode cc pc = .ok (.lshl, 1)) (k : V F nL G ce sl (pc + 1) L (.long (lB (x <<< a.toNat)) :: st)) : V F nL G ce sl pc L (.int (iI a) :: .long (lB x) :: st) := by
  obtain ⟨p, l, e, R, s, m, args, below, meth, c, Q, M, D', bm, G0⟩ := F
  intro H lo hG hM ls hl
  exact lv_lshl S.1.1 S.1.2.1 d (lB_shl x ha) (k H lo hG hM ls hl)

theorem r_lushr (S : FX F cc nL own rm D) {x : BitVec 64} {a : Int} (ha : 0 ≤ a ∧ a < 64) (d : decode cc pc = .ok (.lushr, 1)) (k : V F nL G ce sl (pc + 1) L (.long (lB (x >>> a.toNat)) :: st)) : V F nL G ce sl pc L (.int (iI a) :: .long (lB x) :: st) := by
  obtain ⟨p, l, e, R, s, m, args, below, meth, c, Q, M, D', bm, G0⟩ := F
  intro H lo hG hM ls hl
  exact lv_lushr S.1.1 S.1.2.1 d (lB_shr x ha) (k H lo hG hM ls hl)

theorem r_dup (S : FX F cc nL own rm D) {x : Nat} (d : decode cc pc = .ok (.dup, 1)) (k : V F nL G ce sl (pc + 1) L (.ref x :: .ref x :: st)) : V F nL G ce sl pc L (.ref x :: st) := by
  obtain ⟨p, l, e, R, s, m, args, below, meth, c, Q, M, D', bm, G0⟩ := F
  intro H lo hG hM ls hl
  exact lv_dup S.1.1 S.1.2.1 d rfl (k H lo hG hM ls hl)

theorem r_goto (S : FX F cc nL own rm D) {off : Int} (tgt : Nat) (d : decode cc pc = .ok (.goto off, 3)) (ht : (pc : Int) + off = (tgt : Int)) (k : V F nL G ce sl tgt L st) : V F nL G ce sl pc L st := by
  obtain ⟨p, l, e, R, s, m, args, below, meth, c, Q, M, D', bm, G0⟩ := F
  intro H lo hG hM ls hl
  exact lv_goto S.1.1 S.1.2.1 d ht (k H lo hG hM ls hl)

theorem r_icmp_eq (S : FX F cc nL own rm D) {a b : Int} {off : Int} (tgt : Nat) (d : decode cc pc = .ok (.if_icmp .eq off, 3)) (ht : (pc : Int) + off = (tgt : Int)) (ha : inR a) (hb : inR b) (kt : a = b → V F nL G ce sl tgt L st) (kf : a ≠ b → V F nL G ce sl (pc + 3) L st) : V F nL G ce sl pc L (.int (iI b) :: .int (iI a) :: st) := by
  obtain ⟨p, l, e, R, s, m, args, below, meth, c, Q, M, D', bm, G0⟩ := F
  intro H lo hG hM ls hl
  exact lv_icmp_eq S.1.1 S.1.2.1 d ht (fun c => kt ((iI_eq ha hb).mp c) H lo hG hM ls hl) (fun c => kf ((fun z => c ((iI_eq ha hb).mpr z))) H lo hG hM ls hl)

theorem r_if_eq (S : FX F cc nL own rm D) {a : Int} {off : Int} (tgt : Nat) (d : decode cc pc = .ok (.ifCond .eq off, 3)) (ht : (pc : Int) + off = (tgt : Int)) (ha : inR a) (kt : a = 0 → V F nL G ce sl tgt L st) (kf : a ≠ 0 → V F nL G ce sl (pc + 3) L st) : V F nL G ce sl pc L (.int (iI a) :: st) := by
  obtain ⟨p, l, e, R, s, m, args, below, meth, c, Q, M, D', bm, G0⟩ := F
  intro H lo hG hM ls hl
  have hb : inR 0 := by decide
  exact lv_if_eq S.1.1 S.1.2.1 d ht (fun c => kt (by rw [← iI_0] at c; exact (iI_eq ha hb).mp c) H lo hG hM ls hl) (fun c => kf (by rw [← iI_0] at c; exact (fun z => c ((iI_eq ha hb).mpr z))) H lo hG hM ls hl)

theorem r_icmp_ne (S : FX F cc nL own rm D) {a b : Int} {off : Int} (tgt : Nat) (d : decode cc pc = .ok (.if_icmp .ne off, 3)) (ht : (pc : Int) + off = (tgt : Int)) (ha : inR a) (hb : inR b) (kt : a ≠ b → V F nL G ce sl tgt L st) (kf : a = b → V F nL G ce sl (pc + 3) L st) : V F nL G ce sl pc L (.int (iI b) :: .int (iI a) :: st) := by
  obtain ⟨p, l, e, R, s, m, args, below, meth, c, Q, M, D', bm, G0⟩ := F
  intro H lo hG hM ls hl
  exact lv_icmp_ne S.1.1 S.1.2.1 d ht (fun c => kt ((fun z => c ((iI_eq ha hb).mpr z))) H lo hG hM ls hl) (fun c => kf ((iI_eq ha hb).mp c) H lo hG hM ls hl)

theorem r_if_ne (S : FX F cc nL own rm D) {a : Int} {off : Int} (tgt : Nat) (d : decode cc pc = .ok (.ifCond .ne off, 3)) (ht : (pc : Int) + off = (tgt : Int)) (ha : inR a) (kt : a ≠ 0 → V F nL G ce sl tgt L st) (kf : a = 0 → V F nL G ce sl (pc + 3) L st) : V F nL G ce sl pc L (.int (iI a) :: st) := by
  obtain ⟨p, l, e, R, s, m, args, below, meth, c, Q, M, D', bm, G0⟩ := F
  intro H lo hG hM ls hl
  have hb : inR 0 := by decide
  exact lv_if_ne S.1.1 S.1.2.1 d ht (fun c => kt (by rw [← iI_0] at c; exact (fun z => c ((iI_eq ha hb).mpr z))) H lo hG hM ls hl) (fun c => kf (by rw [← iI_0] at c; exact (iI_eq ha hb).mp c) H lo hG hM ls hl)

theorem r_icmp_lt (S : FX F cc nL own rm D) {a b : Int} {off : Int} (tgt : Nat) (d : decode cc pc = .ok (.if_icmp .lt off, 3)) (ht : (pc : Int) + off = (tgt : Int)) (ha : inR a) (hb : inR b) (kt : a < b → V F nL G ce sl tgt L st) (kf : b ≤ a → V F nL G ce sl (pc + 3) L st) : V F nL G ce sl pc L (.int (iI b) :: .int (iI a) :: st) := by
  obtain ⟨p, l, e, R, s, m, args, below, meth, c, Q, M, D', bm, G0⟩ := F
  intro H lo hG hM ls hl
  exact lv_icmp_lt S.1.1 S.1.2.1 d ht (fun c => kt ((iI_lt ha hb).mp c) H lo hG hM ls hl) (fun c => kf (Int.not_lt.mp (fun z => c ((iI_lt ha hb).mpr z))) H lo hG hM ls hl)

theorem r_if_lt (S : FX F cc nL own rm D) {a : Int} {off : Int} (tgt : Nat) (d : decode cc pc = .ok (.ifCond .lt off, 3)) (ht : (pc : Int) + off = (tgt : Int)) (ha : inR a) (kt : a < 0 → V F nL G ce sl tgt L st) (kf : 0 ≤ a → V F nL G ce sl (pc + 3) L st) : V F nL G ce sl pc L (.int (iI a) :: st) := by
  obtain ⟨p, l, e, R, s, m, args, below, meth, c, Q, M, D', bm, G0⟩ := F
  intro H lo hG hM ls hl
  have hb : inR 0 := by decide
  exact lv_if_lt S.1.1 S.1.2.1 d ht (fun c => kt (by rw [← iI_0] at c; exact (iI_lt ha hb).mp c) H lo hG hM ls hl) (fun c => kf (by rw [← iI_0] at c; exact Int.not_lt.mp (fun z => c ((iI_lt ha hb).mpr z))) H lo hG hM ls hl)

theorem r_icmp_ge (S : FX F cc nL own rm D) {a b : Int} {off : Int} (tgt : Nat) (d : decode cc pc = .ok (.if_icmp .ge off, 3)) (ht : (pc : Int) + off = (tgt : Int)) (ha : inR a) (hb : inR b) (kt : b ≤ a → V F nL G ce sl tgt L st) (kf : a < b → V F nL G ce sl (pc + 3) L st) : V F nL G ce sl pc L (.int (iI b) :: .int (iI a) :: st) := by
  obtain ⟨p, l, e, R, s, m, args, below, meth, c, Q, M, D', bm, G0⟩ := F
  intro H lo hG hM ls hl
  exact lv_icmp_ge S.1.1 S.1.2.1 d ht (fun c => kt ((iI_le hb ha).mp c) H lo hG hM ls hl) (fun c => kf (Int.not_le.mp (fun z => c ((iI_le hb ha).mpr z))) H lo hG hM ls hl)

theorem r_if_ge (S : FX F cc nL own rm D) {a : Int} {off : Int} (tgt : Nat) (d : decode cc pc = .ok (.ifCond .ge off, 3)) (ht : (pc : Int) + off = (tgt : Int)) (ha : inR a) (kt : 0 ≤ a → V F nL G ce sl tgt L st) (kf : a < 0 → V F nL G ce sl (pc + 3) L st) : V F nL G ce sl pc L (.int (iI a) :: st) := by
  obtain ⟨p, l, e, R, s, m, args, below, meth, c, Q, M, D', bm, G0⟩ := F
  intro H lo hG hM ls hl
  have hb : inR 0 := by decide
  exact lv_if_ge S.1.1 S.1.2.1 d ht (fun c => kt (by rw [← iI_0] at c; exact (iI_le hb ha).mp c) H lo hG hM ls hl) (fun c => kf (by rw [← iI_0] at c; exact Int.not_le.mp (fun z => c ((iI_le hb ha).mpr z))) H lo hG hM ls hl)

theorem r_icmp_gt (S : FX F cc nL own rm D) {a b : Int} {off : Int} (tgt : Nat) (d : decode cc pc = .ok (.if_icmp .gt off, 3)) (ht : (pc : Int) + off = (tgt : Int)) (ha : inR a) (hb : inR b) (kt : b < a → V F nL G ce sl tgt L st) (kf : a ≤ b → V F nL G ce sl (pc + 3) L st) : V F nL G ce sl pc L (.int (iI b) :: .int (iI a) :: st) := by
  obtain ⟨p, l, e, R, s, m, args, below, meth, c, Q, M, D', bm, G0⟩ := F
  intro H lo hG hM ls hl
  exact lv_icmp_gt S.1.1 S.1.2.1 d ht (fun c => kt ((iI_lt hb ha).mp c) H lo hG hM ls hl) (fun c => kf (Int.not_lt.mp (fun z => c ((iI_lt hb ha).mpr z))) H lo hG hM ls hl)

theorem r_if_gt (S : FX F cc nL own rm D) {a : Int} {off : Int} (tgt : Nat) (d : decode cc pc = .ok (.ifCond .gt off, 3)) (ht : (pc : Int) + off = (tgt : Int)) (ha : inR a) (kt : 0 < a → V F nL G ce sl tgt L st) (kf : a ≤ 0 → V F nL G ce sl (pc + 3) L st) : V F nL G ce sl pc L (.int (iI a) :: st) := by
  obtain ⟨p, l, e, R, s, m, args, below, meth, c, Q, M, D', bm, G0⟩ := F
  intro H lo hG hM ls hl
  have hb : inR 0 := by decide
  exact lv_if_gt S.1.1 S.1.2.1 d ht (fun c => kt (by rw [← iI_0] at c; exact (iI_lt hb ha).mp c) H lo hG hM ls hl) (fun c => kf (by rw [← iI_0] at c; exact Int.not_lt.mp (fun z => c ((iI_lt hb ha).mpr z))) H lo hG hM ls hl)

theorem r_icmp_le (S : FX F cc nL own rm D) {a b : Int} {off : Int} (tgt : Nat) (d : decode cc pc = .ok (.if_icmp .le off, 3)) (ht : (pc : Int) + off = (tgt : Int)) (ha : inR a) (hb : inR b) (kt : a ≤ b → V F nL G ce sl tgt L st) (kf : b < a → V F nL G ce sl (pc + 3) L st) : V F nL G ce sl pc L (.int (iI b) :: .int (iI a) :: st) := by
  obtain ⟨p, l, e, R, s, m, args, below, meth, c, Q, M, D', bm, G0⟩ := F
  intro H lo hG hM ls hl
  exact lv_icmp_le S.1.1 S.1.2.1 d ht (fun c => kt ((iI_le ha hb).mp c) H lo hG hM ls hl) (fun c => kf (Int.not_le.mp (fun z => c ((iI_le ha hb).mpr z))) H lo hG hM ls hl)

theorem r_if_le (S : FX F cc nL own rm D) {a : Int} {off : Int} (tgt : Nat) (d : decode cc pc = .ok (.ifCond .le off, 3)) (ht : (pc : Int) + off = (tgt : Int)) (ha : inR a) (kt : a ≤ 0 → V F nL G ce sl tgt L st) (kf : 0 < a → V F nL G ce sl (pc + 3) L st) : V F nL G ce sl pc L (.int (iI a) :: st) := by
  obtain ⟨p, l, e, R, s, m, args, below, meth, c, Q, M, D', bm, G0⟩ := F
  intro H lo hG hM ls hl
  have hb : inR 0 := by decide
  exact lv_if_le S.1.1 S.1.2.1 d ht (fun c => kt (by rw [← iI_0] at c; exact (iI_le ha hb).mp c) H lo hG hM ls hl) (fun c => kf (by rw [← iI_0] at c; exact Int.not_le.mp (fun z => c ((iI_le ha hb).mpr z))) H lo hG hM ls hl)

theorem r_ifnull (S : FX F cc nL own rm D) {x : Nat} {off : Int} (d : decode cc pc = .ok (.ifnull off, 3)) (k : V F nL G ce sl (pc + 3) L st) : V F nL G ce sl pc L (.ref x :: st) := by
  obtain ⟨p, l, e, R, s, m, args, below, meth, c, Q, M, D', bm, G0⟩ := F
  intro H lo hG hM ls hl
  exact lv_ifnull S.1.1 S.1.2.1 d (k H lo hG hM ls hl)

theorem r_ifnullN (S : FX F cc nL own rm D) {off : Int} (tgt : Nat) (d : decode cc pc = .ok (.ifnull off, 3)) (ht : (pc : Int) + off = (tgt : Int)) (k : V F nL G ce sl tgt L st) : V F nL G ce sl pc L (.null :: st) := by
  obtain ⟨p, l, e, R, s, m, args, below, meth, c, Q, M, D', bm, G0⟩ := F
  intro H lo hG hM ls hl
  exact lv_ifnullN S.1.1 S.1.2.1 d ht (k H lo hG hM ls hl)

theorem r_ifnonnull (S : FX F cc nL own rm D) {x : Nat} {off : Int} (tgt : Nat) (d : decode cc pc = .ok (.ifnonnull off, 3)) (ht : (pc : Int) + off = (tgt : Int)) (k : V F nL G ce sl tgt L st) : V F nL G ce sl pc L (.ref x :: st) := by
  obtain ⟨p, l, e, R, s, m, args, below, meth, c, Q, M, D', bm, G0⟩ := F
  intro H lo hG hM ls hl
  exact lv_ifnonnull S.1.1 S.1.2.1 d ht (k H lo hG hM ls hl)

theorem r_ifnonnullN (S : FX F cc nL own rm D) {off : Int} (d : decode cc pc = .ok (.ifnonnull off, 3)) (k : V F nL G ce sl (pc + 3) L st) : V F nL G ce sl pc L (.null :: st) := by
  obtain ⟨p, l, e, R, s, m, args, below, meth, c, Q, M, D', bm, G0⟩ := F
  intro H lo hG hM ls hl
  exact lv_ifnonnullN S.1.1 S.1.2.1 d (k H lo hG hM ls hl)

/-- field k of an object of class number ci, as the class own names it at place idx of its pool -/
def GetOK (own : String) (idx ci k : Nat) : Prop := ∃ (C : String) (T : u_T) (N : Nat) (ref : String), clX[ci]? = some (C, T, N) ∧ k < N ∧ (∀ w ∈ u_ws C T N, w ∈ WS) ∧ Cond.fieldLink own idx ref (T k).2.1 (T k).2.2.1 ∈ WS ∧ ((T k).1 = ref ∨ Cond.sameField ref (T k).1 (T k).2.1 (T k).2.2.1 ∈ WS)

theorem r_get (S : FX F cc nL own rm D) {idx ci k0 a : Nat} {fs : List Value} {v : Value} (f : GetOK own idx ci k0) (h : G a = some (eO ci fs)) (hv : fs[k0]? = some v) (d : decode cc pc = .ok (.getfield idx, 3)) (k : V F nL G ce sl (pc + 3) L (v :: st)) : V F nL G ce sl pc L (.ref a :: st) := by
  obtain ⟨p, l, e, R, s, m, args, below, meth, c, Q, M, D', bm, G0⟩ := F
  intro H lo hG hM ls hl
  obtain ⟨C, T, N, ref, h1, h2, h3, h4, h5⟩ := f
  obtain ⟨S1, hK, rfl, hR, hG0⟩ := S
  refine va_get (D := D') (cl := clX) (tys := tyD D') (ci := ci) (fs := fs) S1.1 S1.2.1 S1.2.2.2.2 h3 S1.2.2.2.1 hK.1 (hG.P1 h) 0 rfl h1 k0 h2 (S1.2.2.2.2 _ h4) (fun x hx => ?_) hv d (k H lo hG hM ls hl)
  rcases h5 with h5 | h5
  · rw [← h5]; exact hx
  · exact u_same (S1.2.2.2.2 _ h5) x hx

theorem r_iald (S : FX F cc nL own rm D) {a n : Nat} {f : Int → Int} {i : Int} (h : G a = some (eI D n f)) (h0 : 0 ≤ i) (h1 : i < n) (hn : n ≤ 2147483647) (d : decode cc pc = .ok (.iaload, 1)) (k : V F nL G ce sl (pc + 1) L (.int (iI (f i)) :: st)) : V F nL G ce sl pc L (.int (iI i) :: .ref a :: st) := by
  obtain ⟨p, l, e, R, s, m, args, below, meth, c, Q, M, D', bm, G0⟩ := F
  intro H lo hG hM ls hl
  obtain ⟨S1, hK, rfl, hR, hG0⟩ := S
  refine va_iald (D := D') (cl := clX) (tys := tyD D') S1.1 S1.2.1 hK.1 (hG.P1 h) 0 0 rfl rfl (iI_in h0 h1 hn) d ?_
  rw [iI_nat h0 (by omega), Int.toNat_of_nonneg h0]
  exact k H lo hG hM ls hl

theorem r_lald (S : FX F cc nL own rm D) {a n : Nat} {f : Int → Int64} {i : Int} (h : G a = some (eJ D n f)) (h0 : 0 ≤ i) (h1 : i < n) (hn : n ≤ 2147483647) (d : decode cc pc = .ok (.laload, 1)) (k : V F nL G ce sl (pc + 1) L (.long (f i) :: st)) : V F nL G ce sl pc L (.int (iI i) :: .ref a :: st) := by
  obtain ⟨p, l, e, R, s, m, args, below, meth, c, Q, M, D', bm, G0⟩ := F
  intro H lo hG hM ls hl
  obtain ⟨S1, hK, rfl, hR, hG0⟩ := S
  refine va_lald (D := D') (cl := clX) (tys := tyD D') S1.1 S1.2.1 hK.1 (hG.P1 h) 0 1 rfl rfl (iI_in h0 h1 hn) d ?_
  rw [iI_nat h0 (by omega), Int.toNat_of_nonneg h0]
  exact k H lo hG hM ls hl

theorem r_aald (S : FX F cc nL own rm D) {a n : Nat} {kk : Nat} {C : String} {f : Int → Option Nat} {i : Int} (h : G a = some (eQ D kk n f)) (ht : (tyD D)[2 + kk]? = some (D.1 (102 + kk), .object C)) (h0 : 0 ≤ i) (h1 : i < n) (hn : n ≤ 2147483647) (d : decode cc pc = .ok (.aaload, 1)) (k : V F nL G ce sl (pc + 1) L (va_rf (f i) :: st)) : V F nL G ce sl pc L (.int (iI i) :: .ref a :: st) := by
  obtain ⟨p, l, e, R, s, m, args, below, meth, c, Q, M, D', bm, G0⟩ := F
  intro H lo hG hM ls hl
  obtain ⟨S1, hK, rfl, hR, hG0⟩ := S
  refine va_aldq (D := D') (cl := clX) (tys := tyD D') S1.1 S1.2.1 hK.1 (hG.P1 h) 0 (2 + kk) rfl ht (iI_in h0 h1 hn) d ?_
  rw [iI_nat h0 (by omega), Int.toNat_of_nonneg h0]
  exact k H lo hG hM ls hl

theorem r_alenI (S : FX F cc nL own rm D) {a n : Nat} {f : Int → Int} (h : G a = some (eI D n f)) (d : decode cc pc = .ok (.arraylength, 1)) (k : V F nL G ce sl (pc + 1) L (.int (iI n) :: st)) : V F nL G ce sl pc L (.ref a :: st) := by
  obtain ⟨p, l, e, R, s, m, args, below, meth, c, Q, M, D', bm, G0⟩ := F
  intro H lo hG hM ls hl
  obtain ⟨S1, hK, rfl, hR, hG0⟩ := S
  exact va_alen (D := D') (cl := clX) (tys := tyD D') (v := iI n) S1.1 S1.2.1 hK.1 (hG.P1 h) 0 0 rfl rfl (Int32.ofInt_eq_ofNat).symm d (k H lo hG hM ls hl)

theorem r_alenQ (S : FX F cc nL own rm D) {a n : Nat} {kk : Nat} {C : String} {f : Int → Option Nat} (h : G a = some (eQ D kk n f)) (ht : (tyD D)[2 + kk]? = some (D.1 (102 + kk), .object C)) (d : decode cc pc = .ok (.arraylength, 1)) (k : V F nL G ce sl (pc + 1) L (.int (iI n) :: st)) : V F nL G ce sl pc L (.ref a :: st) := by
  obtain ⟨p, l, e, R, s, m, args, below, meth, c, Q, M, D', bm, G0⟩ := F
  intro H lo hG hM ls hl
  obtain ⟨S1, hK, rfl, hR, hG0⟩ := S
  exact va_alen (D := D') (cl := clX) (tys := tyD D') (v := iI n) S1.1 S1.2.1 hK.1 (hG.P1 h) 0 (2 + kk) rfl ht (Int32.ofInt_eq_ofNat).symm d (k H lo hG hM ls hl)

end VR
