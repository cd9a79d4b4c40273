/-! a cast of an array to its own class -/
theorem asg_self (vm : Vm) (c : ClassId) : vm.assignable c c = true := by
  show vm.assignableAux (255 + 1) c c = true
  unfold Vm.assignableAux
  rw [beq_self_eq_true, Bool.true_or]
section RC
variable {F : fxT} {cc : ByteArray} {nL : Nat} {own : String} {rm : Room} {D : va_G} {G : gh} {ce sl pc : Nat} {L : List (Nat × Value)} {st : List Value}
theorem r_castI (S : FX F cc nL own rm D) {idx a n : Nat} {f : Int → Int} (h : G a = some (eI D n f)) (hl : Cond.classLink own idx "[I" ∈ WS) (d : decode cc pc = .ok (.checkcast idx, 3)) (k : V F nL G ce sl (pc + 3) L (.ref a :: st)) : V F nL G ce sl pc L (.ref a :: st) := by
  obtain ⟨p, l, e, R, s, m, args, below, meth, c, Q, M, D', bm, G0⟩ := F
  obtain ⟨S1, hK, rfl, rfl, hG0⟩ := S
  intro H lo hG hM ls hls
  have k' := k H lo hG hM ls hls
  have hcell : H[a]? = some (vp_cell (D'.1 100) (n, .inl (fun j => iI (f j)))) := hG a _ h
  have hnm : s.vm.findClass "[I" = some (D'.1 100) := (hK.1.2 0 _ rfl).2
  have has : s.vm.assignable (D'.1 100) (D'.1 100) = true := asg_self _ _
  intro T hT X
  obtain ⟨vm', X', st'⟩ := X.checkcastYes S1.1 S1.2.2.2.1 (S1.2.2.2.2 _ hl) (cell := vp_cell (D'.1 100) (n, .inl (fun j => iI (f j)))) (by rw [hT]; exact hcell) rfl hnm has (g := F0 m pc ls (.ref a :: st)) rfl rfl (by rw [S1.2.1]; exact d)
  obtain ⟨t, a1, b1⟩ := k' (T.setVm vm') hT X'
  exact ⟨t, st' t a1, b1⟩
end RC
