/-! more rows: l2i, arrays of arrays, clone, Object's constructor; new cells -/
def l2I (u : BitVec 64) : Int := (lB u).toInt32.toInt
def gLe (G G' : gh) : Prop := ∀ (a : Nat) (e : va_E), G a = some e → G' a = some e
theorem gLe.rf {G : gh} : gLe G G := fun _ _ h => h
theorem gLe.tr {G G1 G2 : gh} (h : gLe G G1) (h1 : gLe G1 G2) : gLe G G2 := fun a e q => h1 a e (h a e q)
theorem gLe.new {G : gh} {a : Nat} {e : va_E} (h : G a = none) : gLe G (gUp G a e) := fun b e' q => by
  rw [gUp_n (fun z => by rw [z, h] at q; cases q)]
  exact q
theorem gLe.non {G G' : gh} {a : Nat} (h : gLe G G') (q : G' a = none) : G a = none := by
  cases z : G a with
  | none => rfl
  | some e => rw [h a e z] at q; cases q
theorem gLe.ext {G G' : gh} {M : Nat → Prop} (h : gLe G G') : gExt G G' M := fun a e q _ => h a e q
theorem gExt.le {G G' : gh} (h : gExt G G' (fun _ => False)) : gLe G G' := fun a e q => h a e q (fun z => z)
/-- a change of one cell that the base doesn't have -/
theorem gLe.one {G Gk G' : gh} {a : Nat} (h : gLe G Gk) (hn : G a = none) (hx : gExt Gk G' (fun x => x = a)) : gLe G G' := fun b e q => hx b e (h b e q) (fun z => by rw [z, hn] at q; cases q)
theorem gLe.ne {G : gh} {a b : Nat} {e : va_E} (hn : G a = none) (hb : G b = some e) : b ≠ a := fun z => by rw [z, hn] at hb; cases hb
section ROWS3
variable {F : fxT} {cc : ByteArray} {nL : Nat} {own : String} {rm : Room} {D : va_G} {G Gk : gh} {ce sl pc : Nat} {L : List (Nat × Value)} {st : List Value}
theorem k_new {a : Nat} {e : va_E} (hn : G a = none) (k : ∀ G1 : gh, gLe G G1 → G1 a = some e → V F nL G1 ce sl pc L st) : V F nL (gUp G a e) ce sl pc L st := k _ (gLe.new hn) (gUp_s _ _ _)
theorem k_upd {a : Nat} {e : va_E} (hle : gLe G Gk) (hn : G a = none) (k : ∀ G1 : gh, gLe G G1 → (∀ (b : Nat) (e' : va_E), b ≠ a → Gk b = some e' → G1 b = some e') → G1 a = some e → V F nL G1 ce sl pc L st) : V F nL (gUp Gk a e) ce sl pc L st :=
  k _ (fun b e' q => by rw [gUp_n (gLe.ne hn q)]; exact hle b e' q) (fun b e' hne q => by rw [gUp_n hne]; exact q) (gUp_s _ _ _)
theorem r_l2i {u : BitVec 64} (S : FX F cc nL own rm D) (d : decode cc pc = .ok (.l2i, 1)) (k : V F nL G ce sl (pc + 1) L (.int (iI (l2I u)) :: st)) : V F nL G ce sl pc L (.long (lB u) :: st) := by
  obtain ⟨p, l, e, R, s, m, args, below, meth, c, Q, M, D', bm, G0⟩ := F
  intro H lo hG hM ls hl
  refine lv_l2i S.1.1 S.1.2.1 d rfl ?_
  have := k H lo hG hM ls hl
  unfold l2I at this
  rwa [iI_of] at this
theorem r_aaldA {a n v : Nat} {f : Int → Option Nat} {i : Int} (hv : f i = some v) (h : G a = some (eQ D 4 n f)) (h0 : 0 ≤ i) (h1 : i < n) (hn : n ≤ 2147483647) (S : FX F cc nL own rm D) (d : decode cc pc = .ok (.aaload, 1)) (k : V F nL G ce sl (pc + 1) L (.ref v :: st)) : V F nL G ce sl pc L (.int (iI i) :: .ref a :: st) := by
  obtain ⟨p, l, e, R, s, m, args, below, meth, c, Q, M, D', bm, G0⟩ := F
  intro H lo hG hM ls hl
  obtain ⟨S1, hK, rfl, hR, hG0⟩ := S
  have hin := iI_in h0 h1 hn
  have hlt : (iI i).toNatClampNeg < n := Nat.not_le.mp fun q => hin (Or.inr q)
  refine W.aald (v := .ref v) (ty := .array .int) S1.1 S1.2.1 (hG a _ h) ((hK.1.2 6 _ rfl).1 n (fun j => va_rf (f j))) rfl (fun q => by cases q) (by show ¬ (_ ∨ (arrV _ _ _).slots.size ≤ _); rw [arrV_size]; exact hin) (by show (arrV _ _ _).slots[_]? = _; rw [arrV_read _ _ hlt, iI_nat h0 (by omega)]; show some (va_rf (f (i.toNat : Int))) = _; rw [Int.toNat_of_nonneg h0, hv]; rfl) rfl rfl d ?_
  exact k H lo hG hM ls hl
theorem r_instNull {idx : Nat} (S : FX F cc nL own rm D) (d : decode cc pc = .ok (.instanceof idx, 3)) (k : V F nL G ce sl (pc + 3) L (.int (iI 0) :: st)) : V F nL G ce sl pc L (.null :: st) := by
  obtain ⟨p, l, e, R, s, m, args, below, meth, c, Q, M, D', bm, G0⟩ := F
  intro H lo hG hM ls hl
  refine lv_instN S.1.1 S.1.2.1 d ?_
  rw [← iI_0]
  exact k H lo hG hM ls hl
theorem r_objInit {a idx : Nat} (hl : Cond.methodLink own idx Lib.objectInit ∈ WS) (hi : Cond.instanceMethod Lib.objectInit ∈ WS) (hcd : Cond.code Lib.objectInit ⟨#[0xb1]⟩ 1 none ∈ WS) (hfr : 1 ≤ rm.frames) (hlo : (st.map fun v => v.category).sum + 12 ≤ rm.locals) (S : FX F cc nL own rm D) (d : decode cc pc = .ok (.invokespecial idx, 3)) (k : V F nL G ce sl (pc + 3) L st) : V F nL G ce sl pc L (.ref a :: st) := by
  obtain ⟨p, l, e, R, s, m, args, below, meth, c, Q, M, D', bm, G0⟩ := F
  obtain ⟨S1, hK, rfl, rfl, hG0⟩ := S
  intro H lo hG hM ls hls
  refine W.objInit S1.1 S1.2.1 S1.2.2.2.1 (S1.2.2.2.2 _ hl) (S1.2.2.2.2 _ hi) (S1.2.2.2.2 _ hcd) (g := F0 m pc ls (.ref a :: st)) rfl (by show ls.size = _; rw [hls.1, S1.2.2.1]) rfl d hfr (by show 2 * 0 + _ + 12 ≤ _; omega) ?_
  exact k H lo hG hM ls hls
theorem r_cloneI (S : FX F cc nL own rm D) (hb : fMut F) {idx a n : Nat} {f : Int → Int} (h : G a = some (eI D n f)) (hlink : Cond.methodLink own idx ⟨"[I", "clone", "()Ljava/lang/Object;"⟩ ∈ WS) (h2 : Cond.sameMethod "[I" "java/lang/Object" "clone" "()Ljava/lang/Object;" ∈ WS) (h3 : Cond.native ⟨"java/lang/Object", "clone", "()Ljava/lang/Object;"⟩ ∈ WS) (h4 : Cond.instanceMethod ⟨"java/lang/Object", "clone", "()Ljava/lang/Object;"⟩ ∈ WS) (h5 : Cond.selects "[I" ⟨"[I", "clone", "()Ljava/lang/Object;"⟩ ⟨"java/lang/Object", "clone", "()Ljava/lang/Object;"⟩ ∈ WS) (hfr : 1 ≤ rm.frames) (hlo : (st.map fun v => v.category).sum + 14 ≤ rm.locals) (hc : ce + 1 ≤ rm.cells) (hsl : sl + n ≤ rm.slots) (d : decode cc pc = .ok (.invokevirtual idx, 3)) (k : ∀ b : Nat, G b = none → wr F b → V F nL (gUp G b (eI D n f)) (ce + 1) (sl + n) (pc + 3) L (.ref b :: st)) : V F nL G ce sl pc L (.ref a :: st) := by
  obtain ⟨p, l, e, R, s, m, args, below, meth, c, Q, M, D', bm, G0⟩ := F
  obtain ⟨S1, hK, rfl, rfl, hG0⟩ := S
  have ht := S1.2.2.2.2
  have hb' : bm = false := hb
  subst hb'
  intro H lo hG hM ls hl
  have hcell : H[a]? = some (vp_cell (D'.1 100) (n, .inl (fun j => iI (f j)))) := hG a _ h
  have hsz : (vp_cell (D'.1 100) (n, .inl (fun j => iI (f j)))).slots.size = n := arrV_size _ _ _
  have hnm : s.vm.findClass "[I" = some (D'.1 100) := (hK.1.2 0 _ rfl).2
  obtain ⟨c0, t0', f1, f2, f3⟩ := Cond.castable_spec (va_Nw.use (A := args) rfl (hK.2.1 ("[I", "java/lang/Cloneable") (by decide)))
  cases hnm.symm.trans f1
  intro T hT X
  obtain ⟨-, kA, hkA, comp, hkind⟩ := State.isArrayOf_alike X.warmed.alike ((hK.1.2 0 _ rfl).1 0 (fun _ => .null))
  obtain ⟨-, kS, hkS, compS, hkindS⟩ := (hK.1.2 0 _ rfl).1 0 (fun _ => .null)
  obtain ⟨vm', X', st'⟩ := X.cloneArray S1.1 S1.2.2.2.1 (ht _ hlink) (ht _ h2) (ht _ h3) (ht _ h4) (ht _ h5) (a := a) (cell := vp_cell (D'.1 100) (n, .inl (fun j => iI (f j)))) (by rw [hT]; exact hcell) (fun k h => by cases h) (fun h => by cases h) hnm f2 f3
    (fun i v hv => by
      have hk' : T.vm.classes[D'.1 100]? = some kA := hkA
      have hfit : fits .int v = true := by
        have hi : i < n := by rw [← hsz]; exact (Array.getElem?_eq_some_iff.mp hv).1
        have := (show (arrV (D'.1 100) n (fun j => .int (iI (f j)))).slots[i]? = some v from hv)
        rw [arrV_read _ _ hi] at this
        cases this
        rfl
      have hk2 : T.vm.classes[(vp_cell (D'.1 100) (n, .inl (fun j => iI (f j)))).cls]? = some kA := hk'
      simpa [State.fitsSlot, State.slotType?, hk2, hkind] using hfit)
    (g := F0 m pc ls (.ref a :: st)) rfl (by show ls.size = _; rw [hl.1, S1.2.2.1]) rfl (by rw [S1.2.1]; exact d) hfr (by show 2 * 0 + _ + 14 ≤ _; omega) hc (by rw [hsz]; exact hsl) (hloader := Vm.clonesLoader_of_array hkS hkindS)
  rw [hsz] at X'
  generalize hH1 : H.push (vp_cell (D'.1 100) (n, .inl (fun j => iI (f j)))) = H1
  have z1 : H1.size = H.size + 1 := by rw [← hH1, Array.size_push]
  have e1 : H1[H.size]? = some (vp_cell (D'.1 100) (n, .inl (fun j => iI (f j)))) := by rw [← hH1, Array.getElem?_push_size]
  have o1 : ∀ q : Nat, q < H.size → H1[q]? = H[q]? := fun q hq => by rw [← hH1, Array.getElem?_push, if_neg (Nat.ne_of_lt hq)]
  obtain ⟨t, b1, b2⟩ := k H.size (hG.fresh (Nat.le_refl _)) (Or.inr hM.2.1) H1 lo (hG.new e1 o1) (md_new hM hG0 z1 o1) ls hl ((T.setVm vm').pushCell (vp_cell (D'.1 100) (n, .inl (fun j => iI (f j))))) (by rw [← hH1, ← hT]; rfl) X'
  refine ⟨t, st' t ?_, b2⟩
  rw [hT]
  exact b1
end ROWS3
