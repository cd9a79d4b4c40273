section ROWS2
variable {F : fxT} {cc : ByteArray} {nL : Nat} {own : String} {rm : Room} {D : va_G} {G : gh} {ce sl pc : Nat} {L : List (Nat × Value)} {st : List Value}
theorem r_dup2 {a b : Value} (ha : a.category = 1) (hb : b.category = 1) (S : FX F cc nL own rm D) (d : decode cc pc = .ok (.dup2, 1)) (k : V F nL G ce sl (pc + 1) L (a :: b :: a :: b :: st)) : V F nL G ce sl pc L (a :: b :: st) := by
  obtain ⟨p, l, e, R, s, m, args, below, meth, c, Q, M, D', bm, G0⟩ := F
  intro H lo hG hM ls hl
  exact lv_dup2_11 S.1.1 S.1.2.1 d ha hb (k H lo hG hM ls hl)
theorem r_dupI {x : Int32} (S : FX F cc nL own rm D) (d : decode cc pc = .ok (.dup, 1)) (k : V F nL G ce sl (pc + 1) L (.int x :: .int x :: st)) : V F nL G ce sl pc L (.int x :: st) := by
  obtain ⟨p, l, e, R, s, m, args, below, meth, c, Q, M, D', bm, G0⟩ := F
  intro H lo hG hM ls hl
  exact lv_dup S.1.1 S.1.2.1 d rfl (k H lo hG hM ls hl)
end ROWS2
