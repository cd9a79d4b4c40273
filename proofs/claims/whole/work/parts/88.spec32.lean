section LDCW
variable {F : fxT} {cc : ByteArray} {nL : Nat} {own : String} {rm : Room} {D : va_G} {G : gh} {ce sl pc : Nat} {L : List (Nat × Value)} {st : List Value}
theorem r_ldcfw {i : Nat} {x : UInt32} (hw : Cond.constantFloat own i x ∈ WS) (S : FX F cc nL own rm D) (d : decode cc pc = .ok (.ldc_w i, 3)) (k : V F nL G ce sl (pc + 3) L (.float x :: st)) : V F nL G ce sl pc L st := by
  obtain ⟨p, l, e, R, s, m, args, below, meth, c, Q, M, D', bm, G0⟩ := F
  intro H lo hG hM ls hl T hT X
  obtain ⟨t, a, b⟩ := k H lo hG hM ls hl T hT X
  obtain ⟨k0, cf, hk, hcf, hcp⟩ := Cond.constantFloat_spec S.1.2.2.2.1 (S.1.2.2.2.2 _ hw)
  obtain ⟨k', hk', he⟩ := X.warmed.alike.2.2 _ _ hk
  refine ⟨t, ?_, b⟩
  have hdg : decode c.code pc = .ok (.ldc_w i, 3) := by rw [S.1.2.1]; exact d
  have hx := S.1.1
  jvm_step X.here [hx, hdg, ldc_w.wp_float (s := T) (f := F0 m pc ls st) X.here.top hk' (by rw [he]; exact hcf) hcp]
  exact a
end LDCW
theorem fcA_eq {now : Int → Int} {p : Int} : (if now p = 1 then fsF now p else now (20 + p)) = (if now p ≠ 1 then now (20 + p) else if now (10 + p) = 0 then 0 else now (60 + 40 * p + (now (10 + p) - 1))) := by
  by_cases e : now p = 1
  · have h1 : ¬ (now p ≠ 1) := fun q => q e
    rw [if_pos e, if_neg h1]
    rfl
  · have h1 : now p ≠ 1 := e
    rw [if_neg e, if_pos h1]
abbrev fcA (now : Int → Int) (p : Int) : Int := if now p = 1 then fsF now p else now (20 + p)
/-- the class' squares are those of the state -/
theorem sh_look {now : Int → Int} {p m : Int} {x : BitVec 64} (hok : mOK now) (hp : 0 ≤ p ∧ p < 10) (hs : now p = 2 ∨ now p = 3) (hm : msOK now p m) (hsq : sqOK now p x) {a : Int} : refF a (now (40 + p)) m = (if ¬ (0 ≤ a ∧ a < now (40 + p)) then -13 else if now (1100 + 8 * p + a) = 1 then -11 else 0) := by
  unfold refF
  by_cases e : 0 ≤ a ∧ a < now (40 + p)
  · rw [if_neg (show ¬ ¬ (0 ≤ a ∧ a ≤ now (40 + p) - 1) by omega), if_neg (show ¬ ¬ (0 ≤ a ∧ a < now (40 + p)) by omega)]
    by_cases e2 : now (1100 + 8 * p + a) = 1
    · rw [if_pos e2, if_pos ((hm.2 a e.1 e.2).mpr e2)]
    · rw [if_neg e2, if_neg (fun q => e2 ((hm.2 a e.1 e.2).mp q))]
  · rw [if_pos (show ¬ (0 ≤ a ∧ a ≤ now (40 + p) - 1) by omega), if_pos e]
theorem sq_look {now : Int → Int} {p m : Int} {x : BitVec 64} (hok : mOK now) (hp : 0 ≤ p ∧ p < 10) (hs : now p = 2 ∨ now p = 3) (hm : msOK now p m) (hsq : sqOK now p x) {a b : Int} : sqrF (now (20 + p)) x (now (40 + p)) (now (50 + p)) m a b = (if ¬ (0 ≤ a ∧ a < now (40 + p)) then -13 else if now (1100 + 8 * p + a) = 1 then -11 else if 0 ≤ b ∧ b < now (50 + p) then now (460 + 64 * p + (now (50 + p) * a + b)) else -13) := by
  unfold sqrF
  have hr := sh_rc hok.1 hp hs
  rw [sh_look hok hp hs hm hsq]
  generalize hX : now (50 + p) * a + b = X
  by_cases e : 0 ≤ a ∧ a < now (40 + p)
  · have e' : ¬ ¬ (0 ≤ a ∧ a < now (40 + p)) := fun q => q e
    rw [if_neg e', if_neg e']
    by_cases e2 : now (1100 + 8 * p + a) = 1
    · rw [if_pos e2, if_pos e2, if_pos (by decide)]
    · rw [if_neg e2, if_neg e2, if_neg (by decide)]
      by_cases e3 : 0 ≤ b ∧ b < now (50 + p)
      · rw [if_neg (show ¬ ¬ (0 ≤ b ∧ b ≤ now (50 + p) - 1) by omega), if_pos e3]
        have hij := ij_bd (i := a) (j := b) (r := now (40 + p)) (c := now (50 + p)) ⟨by omega, by omega⟩ ⟨by omega, by omega⟩ ⟨e.1, by omega⟩ ⟨e3.1, by omega⟩
        have h1 := hsq (a * now (50 + p) + b) hij.1 hij.2
        have h2 := (hok.2.2.1 p (a * now (50 + p) + b) hp.1 hp.2 hij.1 hij.2).2.2 hs
        rw [← hX, show now (50 + p) * a + b = a * now (50 + p) + b by rw [Int.mul_comm]]
        by_cases e4 : bI x (a * now (50 + p) + b) = true
        · rw [if_pos e4]
          have := h1.mp e4
          omega
        · rw [if_neg e4]
          apply Classical.byContradiction
          intro q
          exact e4 (h1.mpr (fun z => q z.symm))
      · rw [if_pos (show ¬ (0 ≤ b ∧ b ≤ now (50 + p) - 1) by omega), if_neg e3]
  · rw [if_pos e, if_pos e, if_pos (by decide)]
