/-! rows that write, and rows that make -/
theorem md_up {M : Nat → Prop} {G0 G : gh} {s : State} {H H1 : Heap} {lo : List Loc} {a k : Nat} {e : va_E} {D : va_G} (h : mdH M false G0 G s H lo) (hw : M a ∨ s.heap.size ≤ a) (hG0 : gOk D G0 s.heap) (z : H1.size = H.size) (oq : ∀ q : Nat, q ≠ a → H1[q]? = H[q]?) : mdH M false G0 (gUp G a e) s H1 (lo ++ [⟨a, k⟩]) := by
  obtain ⟨hE, hS⟩ := h
  refine ⟨fun x ex hx hn => ?_, hS.put z oq hw⟩
  have hxa : x ≠ a := by
    rintro rfl
    rcases hw with q | q
    · exact hn q
    · exact absurd (hG0.lt hx) (Nat.not_lt.mpr q)
  rw [gUp_n hxa]
  exact hE x ex hx hn
theorem md_new {M : Nat → Prop} {G0 G : gh} {s : State} {H H1 : Heap} {lo : List Loc} {e : va_E} {D : va_G} (h : mdH M false G0 G s H lo) (hG0 : gOk D G0 s.heap) (z : H1.size = H.size + 1) (oq : ∀ q : Nat, q < H.size → H1[q]? = H[q]?) : mdH M false G0 (gUp G H.size e) s H1 lo := by
  obtain ⟨hE, hS⟩ := h
  refine ⟨fun x ex hx hn => ?_, Nat.le_trans hS.1 (by omega), fun x h1 h2 => (oq x (Nat.lt_of_lt_of_le h1 hS.1)).trans (hS.2.1 x h1 h2), hS.2.2⟩
  have hxa : x ≠ H.size := by
    have := hG0.lt hx
    have := hS.1
    omega
  rw [gUp_n hxa]
  exact hE x ex hx hn
section ST
variable {F : fxT} {cc : ByteArray} {nL : Nat} {own : String} {rm : Room} {D : va_G} {G : gh} {ce sl pc : Nat} {L L' : List (Nat × Value)} {st : List Value}
/-- field k of class number ci may be written by the class own, as its pool's place idx names it; fin: a final field -/
def PutOK (own : String) (idx ci k : Nat) (fin : Bool) (ty : FieldType) : Prop := ∃ (C : String) (T : u_T) (N : Nat) (ref : String) (ty0 : Nat → FieldType), clX[ci]? = some (C, T, N) ∧ k < N ∧ (∀ w ∈ u_ws C T N, w ∈ WS) ∧ Cond.fieldLink own idx ref (T k).2.1 (T k).2.2.1 ∈ WS ∧ ((T k).1 = ref ∨ Cond.sameField ref (T k).1 (T k).2.1 (T k).2.2.1 ∈ WS) ∧ (T k).2.2.2 = fin ∧ (fin = true → (T k).1 = own) ∧ (∀ k, k < N → parseFieldDescriptor (T k).2.2.1 = some (ty0 k)) ∧ (∀ a, a < N → ∀ b, b < N → a ≠ b → (T a).2.1 ≠ (T b).2.1) ∧ parseFieldDescriptor (T k).2.2.1 = some ty
theorem r_put (S : FX F cc nL own rm D) (hb : fMut F) {idx ci k0 a : Nat} {fs : List Value} {v : Value} {ty : FieldType} (f : PutOK own idx ci k0 false ty) (h : G a = some (eO ci fs)) (hw : wr F a) (hl : k0 < fs.length) (hn : narrow ty v = v) (hfit : fits ty v = true) (d : decode cc pc = .ok (.putfield idx, 3)) (k : V F nL (gUp G a (eO ci (fs.set k0 v))) ce sl (pc + 3) L st) : V F nL G ce sl pc L (v :: .ref a :: st) := by
  obtain ⟨p, l, e, R, s, m, args, below, meth, c, Q, M, D', bm, G0⟩ := F
  obtain ⟨S1, hK, rfl, rfl, hG0⟩ := S
  have ht := S1.2.2.2.2
  have hb' : bm = false := hb
  subst hb'
  intro H lo hG hM ls hls
  obtain ⟨C, T, N, ref, ty0, h1, h2, h3, h4, h5, h6, -, h7, h8, h9⟩ := f
  have hap := va_apart (own := own) ht h3 ty0 h7 h8 hK.1 h1
  obtain ⟨r, hr1, cell, q1, q2, q3, q4⟩ := hG a _ h
  have hr : r = (C, T, N) := Option.some.inj (hr1.symm.trans h1)
  subst hr
  obtain ⟨hSl, hfc, kC, hkC, hkind⟩ := hK.1.1 ci _ h1
  obtain ⟨cf, kf, fi, fd, hi, hsl⟩ := hSl k0 h2
  have hlay := ht _ (h3 _ (u_in_lay h2))
  unfold u_lay at hlay
  rw [if_neg (by rw [h6]; decide)] at hlay
  have hst := (u_facts hfc hkC (u_lays ht h3 h2) hi).1
  have hsd := u_store hfc hkC hkind hlay hi h9 hn hfit
  have hi2 : s.fieldFound? ref (T k0).2.1 (T k0).2.2.1 = some (cf, kf, fi, fd) := by
    rcases h5 with h5 | h5
    · rw [← h5]; exact hi
    · exact u_same (ht _ h5) _ hi
  refine W.putK S1.1 S1.2.1 (f := fd) ⟨S1.2.2.2.1, ht _ h4, ⟨_, _, _, hi2⟩, hst⟩ (by rw [q2]; exact hsd) q1 q3 (by rw [hsl]; exact k2_hasslot (q4 k0 h2)) rfl rfl d fun H1 e1 e2 e3 => ?_
  rw [hsl] at e1 ⊢
  refine k H1 _ (hG.up ⟨_, h1, t_OB.to (V := updV (vp_V fs) k0 v) ⟨_, e1, q2, q3, t_set q4 hap h2 v⟩ (fun j _ => vp_updV_set hl v j)⟩ e3) (md_up hM hw hG0 e2 e3) ls hls
theorem r_putF (S : FX F cc nL own rm D) (hb : fMut F) (hin2 : fIn F) {idx ci k0 a : Nat} {fs : List Value} {v : Value} {ty : FieldType} (f : PutOK own idx ci k0 true ty) (h : G a = some (eO ci fs)) (hw : wr F a) (hl : k0 < fs.length) (hn : narrow ty v = v) (hfit : fits ty v = true) (d : decode cc pc = .ok (.putfield idx, 3)) (k : V F nL (gUp G a (eO ci (fs.set k0 v))) ce sl (pc + 3) L st) : V F nL G ce sl pc L (v :: .ref a :: st) := by
  obtain ⟨p, l, e, R, s, m, args, below, meth, c, Q, M, D', bm, G0⟩ := F
  obtain ⟨S1, hK, rfl, rfl, hG0⟩ := S
  have ht := S1.2.2.2.2
  have hb' : bm = false := hb
  subst hb'
  intro H lo hG hM ls hls
  obtain ⟨C, T, N, ref, ty0, h1, h2, h3, h4, h5, h6, hdecl, h7, h8, h9⟩ := f
  have hap := va_apart (own := own) ht h3 ty0 h7 h8 hK.1 h1
  obtain ⟨r, hr1, cell, q1, q2, q3, q4⟩ := hG a _ h
  have hr : r = (C, T, N) := Option.some.inj (hr1.symm.trans h1)
  subst hr
  obtain ⟨hSl, hfc, kC, hkC, hkind⟩ := hK.1.1 ci _ h1
  obtain ⟨cf, kf, fi, fd, hi, hsl⟩ := hSl k0 h2
  have hlay := ht _ (h3 _ (u_in_lay h2))
  unfold u_lay at hlay
  rw [if_pos h6] at hlay
  have hst := (u_facts hfc hkC (u_lays ht h3 h2) hi).1
  have hcf : m.cls = cf := by
    obtain ⟨_, _, c', _, _, _, -, -, hf', -, -, -, hown2, -⟩ := Cond.laysFinal_spec hlay
    have e1 : c' = cf := by have := hi.symm.trans hf'; simp at this; exact this.1.symm
    rw [hdecl rfl] at hown2
    rw [← e1]; exact Option.some.inj (S1.2.2.2.1.symm.trans hown2)
  have hsd := u_fits hfc hkC hkind (Or.inr hlay) hi h9 hn hfit
  have hi2 : s.fieldFound? ref (T k0).2.1 (T k0).2.2.1 = some (cf, kf, fi, fd) := by
    rcases h5 with h5 | h5
    · rw [← h5]; exact hi
    · exact u_same (ht _ h5) _ hi
  refine W.putFinK S1.1 S1.2.1 S1.2.2.2.1 (ht _ h4) hi2 hst hcf hin2 (by rw [q2]; exact hsd) q1 q3 (by rw [hsl]; exact k2_hasslot (q4 k0 h2)) rfl rfl d fun H1 e1 e2 e3 => ?_
  rw [hsl] at e1 ⊢
  refine k H1 _ (hG.up ⟨_, h1, t_OB.to (V := updV (vp_V fs) k0 v) ⟨_, e1, q2, q3, t_set q4 hap h2 v⟩ (fun j _ => vp_updV_set hl v j)⟩ e3) (md_up hM hw hG0 e2 e3) ls hls
theorem r_iast (S : FX F cc nL own rm D) (hb : fMut F) {a n : Nat} {f : Int → Int} {i x : Int} (h : G a = some (eI D n f)) (hw : wr F a) (h0 : 0 ≤ i) (h1 : i < n) (hn : n ≤ 2147483647) (d : decode cc pc = .ok (.iastore, 1)) (k : V F nL (gUp G a (eI D n (upI f i x))) ce sl (pc + 1) L st) : V F nL G ce sl pc L (.int (iI x) :: .int (iI i) :: .ref a :: st) := by
  obtain ⟨p, l, e, R, s, m, args, below, meth, c, Q, M, D', bm, G0⟩ := F
  obtain ⟨S1, hK, rfl, rfl, hG0⟩ := S
  have ht := S1.2.2.2.2
  have hb' : bm = false := hb
  subst hb'
  intro H lo hG hM ls hl
  refine W.iast S1.1 S1.2.1 (hG a _ h) ((hK.1.2 0 _ rfl).1 n _) (fun q => by cases q) (by show ¬ (_ ∨ (arrV _ _ _).slots.size ≤ _); rw [arrV_size]; exact iI_in h0 h1 hn) rfl rfl d fun H1 e z oq => ?_
  refine k H1 _ (hG.up ?_ oq) (md_up hM hw hG0 z oq) ls hl
  show H1[a]? = some (vp_cell _ _)
  rw [e]
  refine congrArg some ?_
  show (vp_cell _ (n, .inl _)).setSlot _ _ = vp_cell _ (n, .inl _)
  rw [vp_cell_i, vp_cell_i, arrV_store, iI_nat h0 (by omega)]
  congr 1
  funext q
  by_cases hq : q = i.toNat
  · subst hq
    simp [updV, upI, Int.toNat_of_nonneg h0]
  · have : ¬ (q : Int) = i := by omega
    simp [updV, upI, hq, this]
theorem r_last (S : FX F cc nL own rm D) (hb : fMut F) {a n : Nat} {f : Int → Int64} {i : Int} {x : Int64} (h : G a = some (eJ D n f)) (hw : wr F a) (h0 : 0 ≤ i) (h1 : i < n) (hn : n ≤ 2147483647) (d : decode cc pc = .ok (.lastore, 1)) (k : V F nL (gUp G a (eJ D n (upI f i x))) ce sl (pc + 1) L st) : V F nL G ce sl pc L (.long x :: .int (iI i) :: .ref a :: st) := by
  obtain ⟨p, l, e, R, s, m, args, below, meth, c, Q, M, D', bm, G0⟩ := F
  obtain ⟨S1, hK, rfl, rfl, hG0⟩ := S
  have ht := S1.2.2.2.2
  have hb' : bm = false := hb
  subst hb'
  intro H lo hG hM ls hl
  refine W.last S1.1 S1.2.1 (hG a _ h) ((hK.1.2 1 _ rfl).1 n _) (fun q => by cases q) (by show ¬ (_ ∨ (arrV _ _ _).slots.size ≤ _); rw [arrV_size]; exact iI_in h0 h1 hn) rfl rfl d fun H1 e z oq => ?_
  refine k H1 _ (hG.up ?_ oq) (md_up hM hw hG0 z oq) ls hl
  show H1[a]? = some (vp_cell _ _)
  rw [e]
  refine congrArg some ?_
  show (vp_cell _ (n, .inr (.inl _))).setSlot _ _ = vp_cell _ (n, .inr (.inl _))
  rw [vp_cell_l, vp_cell_l, arrV_store, iI_nat h0 (by omega)]
  congr 1
  funext q
  by_cases hq : q = i.toNat
  · subst hq
    simp [updV, upI, Int.toNat_of_nonneg h0]
  · have : ¬ (q : Int) = i := by omega
    simp [updV, upI, hq, this]
theorem q_store {cA : ClassId} {n : Nat} {f : Int → Option Nat} {i : Int} (h0 : 0 ≤ i) (h2 : i ≤ 2147483647) (r : Option Nat) : (arrV cA n (fun j => va_rf (f j))).setSlot (iI i).toNatClampNeg (va_rf r) = arrV cA n (fun j => va_rf (upI f i r j)) := by
  rw [arrV_store, iI_nat h0 h2]
  congr 1
  funext q
  by_cases hq : q = i.toNat
  · subst hq
    simp [updV, upI, Int.toNat_of_nonneg h0]
  · have : ¬ (q : Int) = i := by omega
    simp [updV, upI, hq, this]
/-- an object of class number ci may stand in an array over the class C -/
def AstOK (ci : Nat) (C : String) : Prop := ∃ (r : vw_C), clX[ci]? = some r ∧ (r.1 = C ∨ (r.1, C) ∈ nwC)
theorem r_aast (S : FX F cc nL own rm D) (hb : fMut F) {a n kk v ci : Nat} {vs : List Value} {C : String} {f : Int → Option Nat} {i : Int} (h : G a = some (eQ D kk n f)) (hv : G v = some (eO ci vs)) (hok : AstOK ci C) (hty : (tyD D)[2 + kk]? = some (D.1 (102 + kk), .object C)) (hw : wr F a) (h0 : 0 ≤ i) (h1 : i < n) (hn : n ≤ 2147483647) (d : decode cc pc = .ok (.aastore, 1)) (k : V F nL (gUp G a (eQ D kk n (upI f i (some v)))) ce sl (pc + 1) L st) : V F nL G ce sl pc L (.ref v :: .int (iI i) :: .ref a :: st) := by
  obtain ⟨p, l, e, R, s, m, args, below, meth, c, Q, M, D', bm, G0⟩ := F
  obtain ⟨S1, hK, rfl, rfl, hG0⟩ := S
  have ht := S1.2.2.2.2
  have hb' : bm = false := hb
  subst hb'
  intro H lo hG hM ls hl
  obtain ⟨r, hc, hok⟩ := hok
  obtain ⟨r', hr', cellV, g1, g2, g3, -⟩ := hG v _ hv
  have hcls := (hK.1.1 ci r hc).2
  obtain ⟨kA, comp, k1, k2, k3, -⟩ := (hK.1.2 _ _ hty).2
  obtain ⟨kE, hkE, -⟩ := Vm.findClass_spec k3
  have hasg : s.vm.assignable (D'.1 ci) comp = true := by
    rcases hok with hok | hok
    · rw [← hok] at k3
      cases hcls.1.symm.trans k3
      exact va_assign hcls
    · obtain ⟨c0, t1, f1, f2, f3⟩ := Cond.castable_spec (va_Nw.use (A := args) rfl (hK.2.1 _ hok))
      cases hcls.1.symm.trans f1
      cases k3.symm.trans f2
      exact f3
  obtain ⟨kC, hkC, -⟩ := hcls.2
  refine W.aast S1.1 S1.2.1 (hG a _ h) (fun q h => by cases h) (fun h => by cases h) k1 k2 rfl hkE ⟨fun q => (iI_in h0 h1 hn) (Or.inl q), by show _ < (arrV _ _ _).slots.size; rw [arrV_size]; exact Nat.not_le.mp fun q => (iI_in h0 h1 hn) (Or.inr q)⟩ g1 (fun q h => by rw [g3] at h; cases h) (by rw [g2]; exact hkC) (by rw [g2]; exact hasg) rfl rfl d fun H1 e z oq => ?_
  refine k H1 _ (hG.up ?_ oq) (md_up hM hw hG0 z oq) ls hl
  show H1[a]? = some (vp_cell _ _)
  rw [e]
  exact congrArg some (q_store h0 (by omega) (some v))
theorem r_aastN (S : FX F cc nL own rm D) (hb : fMut F) {a n kk : Nat} {C : String} {f : Int → Option Nat} {i : Int} (h : G a = some (eQ D kk n f)) (hty : (tyD D)[2 + kk]? = some (D.1 (102 + kk), .object C)) (hw : wr F a) (h0 : 0 ≤ i) (h1 : i < n) (hn : n ≤ 2147483647) (d : decode cc pc = .ok (.aastore, 1)) (k : V F nL (gUp G a (eQ D kk n (upI f i none))) ce sl (pc + 1) L st) : V F nL G ce sl pc L (.null :: .int (iI i) :: .ref a :: st) := by
  obtain ⟨p, l, e, R, s, m, args, below, meth, c, Q, M, D', bm, G0⟩ := F
  obtain ⟨S1, hK, rfl, rfl, hG0⟩ := S
  have ht := S1.2.2.2.2
  have hb' : bm = false := hb
  subst hb'
  intro H lo hG hM ls hl
  refine va_WaastN (C := C) S1.1 S1.2.1 (hG a _ h) ((hK.1.2 _ _ hty).1 n (fun j => va_rf (f j))) (fun h => by cases h) (by show ¬ (_ ∨ (arrV _ _ _).slots.size ≤ _); rw [arrV_size]; exact iI_in h0 h1 hn) rfl rfl d fun H1 e z oq => ?_
  refine k H1 _ (hG.up ?_ oq) (md_up hM hw hG0 z oq) ls hl
  show H1[a]? = some (vp_cell _ _)
  rw [e]
  exact congrArg some (q_store h0 (by omega) none)
/-- a new object of class number ci, its fields at their first values -/
def NewOK (own : String) (idx ci n : Nat) (fs : List Value) : Prop := ∃ (C : String) (T : u_T) (ty : Nat → FieldType), clX[ci]? = some (C, T, n) ∧ (∀ w ∈ u_ws C T n, w ∈ WS) ∧ Cond.classLink own idx C ∈ WS ∧ Cond.instantiable C n ∈ WS ∧ Cond.initialized C ∈ WS ∧ (∀ k, k < n → parseFieldDescriptor (T k).2.2.1 = some (ty k)) ∧ ∀ j, j < n → defaultValue (ty j) = vp_V fs j
theorem r_new (S : FX F cc nL own rm D) (hb : fMut F) {idx ci n : Nat} {fs : List Value} (f : NewOK own idx ci n fs) (hc : ce + 1 ≤ rm.cells) (hsl : sl + n ≤ rm.slots) (d : decode cc pc = .ok (.new idx, 3)) (k : ∀ a : Nat, G a = none → wr F a → V F nL (gUp G a (eO ci fs)) (ce + 1) (sl + n) (pc + 3) L (.ref a :: st)) : V F nL G ce sl pc L st := by
  obtain ⟨p, l, e, R, s, m, args, below, meth, c, Q, M, D', bm, G0⟩ := F
  obtain ⟨S1, hK, rfl, rfl, hG0⟩ := S
  have ht := S1.2.2.2.2
  have hb' : bm = false := hb
  subst hb'
  intro H lo hG hM ls hl
  obtain ⟨C, T, ty, h1, h2, h3, h4, h5, h6, h7⟩ := f
  have hKn := hK.1.1 ci _ h1
  refine W.newcK S1.1 S1.2.1 S1.2.2.2.1 (ht _ h3) (ht _ h4) (ht _ h5) rfl d hc hsl hKn.2.1 rfl fun H1 kC hkC e1 z1 o1 => ?_
  exact k H.size (hG.fresh (Nat.le_refl _)) (Or.inr hM.2.1) H1 lo (hG.new ⟨_, h1, (u_born ty ht h2 hKn hkC e1 h6).to h7⟩ o1) (md_new hM hG0 z1 o1) ls hl
theorem r_newI (S : FX F cc nL own rm D) (hb : fMut F) {i : Int} (hw : Cond.arrayClass .int ∈ WS) (h0 : 0 ≤ i) (h1 : i ≤ 134217728) (hc : ce + 1 ≤ rm.cells) (hsl : sl + i.toNat ≤ rm.slots) (d : decode cc pc = .ok (.newarray .int, 2)) (k : ∀ a : Nat, G a = none → wr F a → V F nL (gUp G a (eI D i.toNat (fun _ => 0))) (ce + 1) (sl + i.toNat) (pc + 2) L (.ref a :: st)) : V F nL G ce sl pc L (.int (iI i) :: st) := by
  obtain ⟨p, l, e, R, s, m, args, below, meth, c, Q, M, D', bm, G0⟩ := F
  obtain ⟨S1, hK, rfl, rfl, hG0⟩ := S
  have ht := S1.2.2.2.2
  have hb' : bm = false := hb
  subst hb'
  intro H lo hG hM ls hl
  refine va_newaK (atype := .int) S1.1 S1.2.1 (ht _ hw) rfl d rfl (fun q => by rw [← iI_0, iI_lt ⟨by omega, by omega⟩ ⟨by omega, by omega⟩] at q; omega) (iI_nat h0 (by omega)) (by show _ * 4 ≤ _; omega) hc hsl rfl fun H1 cA e1 z1 o1 hAr hNm => ?_
  have hcA : cA = D'.1 100 := Option.some.inj ((show s.vm.findClass ("[" ++ FieldType.int.toString) = some cA from hNm).symm.trans (hK.1.2 0 _ rfl).2)
  subst hcA
  refine k H.size (hG.fresh (Nat.le_refl _)) (Or.inr hM.2.1) H1 lo (hG.new ?_ o1) (md_new hM hG0 z1 o1) ls hl
  show H1[H.size]? = some (vp_cell _ (_, .inl _))
  rw [vp_cell_i]
  exact e1
theorem r_newJ (S : FX F cc nL own rm D) (hb : fMut F) {i : Int} (hw : Cond.arrayClass .long ∈ WS) (h0 : 0 ≤ i) (h1 : i ≤ 67108864) (hc : ce + 1 ≤ rm.cells) (hsl : sl + i.toNat ≤ rm.slots) (d : decode cc pc = .ok (.newarray .long, 2)) (k : ∀ a : Nat, G a = none → wr F a → V F nL (gUp G a (eJ D i.toNat (fun _ => 0))) (ce + 1) (sl + i.toNat) (pc + 2) L (.ref a :: st)) : V F nL G ce sl pc L (.int (iI i) :: st) := by
  obtain ⟨p, l, e, R, s, m, args, below, meth, c, Q, M, D', bm, G0⟩ := F
  obtain ⟨S1, hK, rfl, rfl, hG0⟩ := S
  have ht := S1.2.2.2.2
  have hb' : bm = false := hb
  subst hb'
  intro H lo hG hM ls hl
  refine va_newaK (atype := .long) S1.1 S1.2.1 (ht _ hw) rfl d rfl (fun q => by rw [← iI_0, iI_lt ⟨by omega, by omega⟩ ⟨by omega, by omega⟩] at q; omega) (iI_nat h0 (by omega)) (by show _ * 8 ≤ _; omega) hc hsl rfl fun H1 cA e1 z1 o1 hAr hNm => ?_
  have hcA : cA = D'.1 101 := Option.some.inj ((show s.vm.findClass ("[" ++ FieldType.long.toString) = some cA from hNm).symm.trans (hK.1.2 1 _ rfl).2)
  subst hcA
  refine k H.size (hG.fresh (Nat.le_refl _)) (Or.inr hM.2.1) H1 lo (hG.new ?_ o1) (md_new hM hG0 z1 o1) ls hl
  show H1[H.size]? = some (vp_cell _ (_, .inr (.inl _)))
  rw [vp_cell_l]
  exact e1
theorem r_newQ (S : FX F cc nL own rm D) (hb : fMut F) {kk idx : Nat} {C : String} {i : Int} (hcl : Cond.classLink own idx C ∈ WS) (hao : C ∈ aoL) (hty : (tyD D)[2 + kk]? = some (D.1 (102 + kk), .object C)) (h0 : 0 ≤ i) (h1 : i ≤ 134217728) (hc : ce + 1 ≤ rm.cells) (hsl : sl + i.toNat ≤ rm.slots) (d : decode cc pc = .ok (.anewarray idx, 3)) (k : ∀ a : Nat, G a = none → wr F a → V F nL (gUp G a (eQ D kk i.toNat (fun _ => none))) (ce + 1) (sl + i.toNat) (pc + 3) L (.ref a :: st)) : V F nL G ce sl pc L (.int (iI i) :: st) := by
  obtain ⟨p, l, e, R, s, m, args, below, meth, c, Q, M, D', bm, G0⟩ := F
  obtain ⟨S1, hK, rfl, rfl, hG0⟩ := S
  have ht := S1.2.2.2.2
  have hb' : bm = false := hb
  subst hb'
  intro H lo hG hM ls hl
  have hi : (iI i).toNatClampNeg = i.toNat := iI_nat h0 (by omega)
  refine W.anew S1.1 S1.2.1 S1.2.2.2.1 (ht _ hcl) (va_AO.use (hK.2.2.2.2.1 C hao)) rfl d rfl (fun q => by rw [← iI_0, iI_lt ⟨by omega, by omega⟩ ⟨by omega, by omega⟩] at q; omega) (by rw [hi]; omega) hc (by rw [hi]; exact hsl) fun cA kA comp f1 f2 f3 f4 => ?_
  rw [hi]
  have hcA : cA = D'.1 (102 + kk) := by
    obtain ⟨kA', comp', -, -, -, h9⟩ := (hK.1.2 _ _ hty).2
    exact Option.some.inj (f1.symm.trans h9)
  subst hcA
  generalize hH1 : H.push ({ cls := D'.1 (102 + kk), slots := Array.replicate i.toNat .null, vm := .none } : Cell) = H1
  have z1 : H1.size = H.size + 1 := by rw [← hH1, Array.size_push]
  have e1 : H1[H.size]? = some (arrV (D'.1 (102 + kk)) i.toNat (fun _ => .null)) := by rw [← hH1, Array.getElem?_push_size, ← arrV_new]
  have o1 : ∀ q : Nat, q < H.size → H1[q]? = H[q]? := fun q hq => by rw [← hH1, Array.getElem?_push, if_neg (Nat.ne_of_lt hq)]
  exact k H.size (hG.fresh (Nat.le_refl _)) (Or.inr hM.2.1) H1 lo (hG.new e1 o1) (md_new hM hG0 z1 o1) ls hl
end ST
