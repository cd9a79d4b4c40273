/-! what the acts make of a place -/
def onlyP (now nw : Int → Int) (p : Int) : Prop := ∀ j : Int, j ≠ p → j ≠ 10 + p → j ≠ 20 + p → j ≠ 30 + p → j ≠ 40 + p → j ≠ 50 + p → ¬ (60 + 40 * p ≤ j ∧ j < 100 + 40 * p) → ¬ (460 + 64 * p ≤ j ∧ j < 524 + 64 * p) → ¬ (1100 + 8 * p ≤ j ∧ j < 1108 + 8 * p) → nw j = now j
section ONLY
variable {now nw : Int → Int} {p q : Int}
theorem onlyP.ag (h : onlyP now nw p) (hp : 0 ≤ p ∧ p < 10) : ∀ q : Int, 0 ≤ q → q < 10 → q ≠ p → agP now nw q := by
  intro q h0 h1 hn
  have w : ∀ j : Int, j < 1180 → j ≠ p → j ≠ 10 + p → j ≠ 20 + p → j ≠ 30 + p → j ≠ 40 + p → j ≠ 50 + p → ¬ (60 + 40 * p ≤ j ∧ j < 100 + 40 * p) → ¬ (460 + 64 * p ≤ j ∧ j < 524 + 64 * p) → ¬ (1100 + 8 * p ≤ j ∧ j < 1108 + 8 * p) → nw j = now j := fun j _ => h j
  refine ⟨?_, ?_, ?_, ?_, ?_, ?_, fun k k0 k1 => ?_, fun k k0 k1 => ?_, fun r r0 r1 => ?_⟩ <;> (apply h <;> omega)
theorem onlyP.hi (h : onlyP now nw p) (hp : 0 ≤ p ∧ p < 10) : ∀ j : Int, 1180 ≤ j → j < 3828 → nw j = now j := by
  intro j h0 h1
  apply h <;> omega
theorem only_hold {k f o n : Int} : onlyP now (holdF now p k f o n) p := by
  intro j h0 h1 h2 h3 h4 h5 h6 h7 h8
  unfold holdF
  rw [if_neg h0, if_neg h1, if_neg h2, if_neg h3, if_neg (by omega), if_neg h8, if_neg h7]
theorem only_strip {reel : Int → Int} {rd : Int} (hrd : rd ≤ 40) : onlyP now (stripF now reel p rd) p := by
  intro j h0 h1 h2 h3 h4 h5 h6 h7 h8
  unfold stripF
  rw [if_neg (by omega)]
  exact only_hold j h0 h1 h2 h3 h4 h5 h6 h7 h8
theorem only_sheet {k r c f : Int} (hrc : r * c ≤ 64) : onlyP now (sheetF now p k r c f) p := by
  intro j h0 h1 h2 h3 h4 h5 h6 h7 h8
  unfold sheetF
  rw [if_neg (fun z => h7 ⟨z.1, by have := z.2; omega⟩), if_neg h4, if_neg h5]
  exact only_hold j h0 h1 h2 h3 h4 h5 h6 h7 h8
theorem only_clear : onlyP now (clearF now p) p := by
  intro j h0 h1 h2 h3 h4 h5 h6 h7 h8
  unfold clearF
  rw [if_neg h0, if_neg h1]
theorem only_lack {r : Int} (hr : 0 ≤ r ∧ r < 8) (hc : 0 ≤ now (50 + p) * r ∧ now (50 + p) * r + now (50 + p) ≤ 64) : onlyP now (lackF now p r) p := by
  intro j h0 h1 h2 h3 h4 h5 h6 h7 h8
  unfold lackF
  generalize now (50 + p) * r = X at hc ⊢
  rw [if_neg (by omega), if_neg (by omega), if_neg h1]
theorem hold_0 {k f o n : Int} : holdF now p k f o n p = k := by unfold holdF; rw [if_pos rfl]
theorem hold_10 {k f o n : Int} : holdF now p k f o n (10 + p) = n := by unfold holdF; rw [if_neg (by omega), if_pos rfl]
theorem hold_20 {k f o n : Int} : holdF now p k f o n (20 + p) = f := by unfold holdF; rw [if_neg (by omega), if_neg (by omega), if_pos rfl]
theorem hold_30 {k f o n : Int} : holdF now p k f o n (30 + p) = o := by unfold holdF; rw [if_neg (by omega), if_neg (by omega), if_neg (by omega), if_pos rfl]
theorem hO_plain {D : va_G} {N : Nat → Prop} {G : gh} {f n : Int} {a : Nat} (h : G a = some (eO 6 [.int (iI f), .int (iI n)])) (hn : ¬ N a) : hO D N G (holdF now p 0 f 0 n) p a := Or.inl ⟨hold_0, by rw [hold_20, hold_10]; exact ⟨h, hn⟩⟩
theorem hO_over {D : va_G} {N : Nat → Prop} {G : gh} {f n o : Int} {a : Nat} (h : G a = some (eO 3 [.int (iI f), .int (iI n), .int (iI o)])) (hn : ¬ N a) : hO D N G (holdF now p 4 f o n) p a := Or.inr (Or.inl ⟨hold_0, by rw [hold_20, hold_10, hold_30]; exact ⟨h, hn⟩⟩)
theorem strip_lo {reel : Int → Int} {rd j : Int} (hj : j < 60) (hp : 0 ≤ p) : stripF now reel p rd j = holdF now p 1 0 0 rd j := by unfold stripF; rw [if_neg (by omega)]
theorem hO_strip {D : va_G} {N : Nat → Prop} {G : gh} {reel sf : Int → Int} {rd : Int} {a fa : Nat} (hp : 0 ≤ p ∧ p < 10) (hrd : 0 ≤ rd) (h : G a = some (eO 8 [.int (iI (if rd = 0 then 0 else sf (rd - 1))), .int (iI rd), .ref fa])) (hn : ¬ N a) (hfa : G fa = some (eI D 40 sf)) (hfn : ¬ N fa) (hsf : ∀ k : Int, 0 ≤ k → k < rd → sf k = reel k) : hO D N G (stripF now reel p rd) p a := by
  have e10 : stripF now reel p rd (10 + p) = rd := by rw [strip_lo (by omega) hp.1, hold_10]
  have es : ∀ k : Int, 0 ≤ k → k < rd → stripF now reel p rd (60 + 40 * p + k) = reel k := fun k k0 k1 => by
    unfold stripF
    rw [if_pos (by omega), show 60 + 40 * p + k - (60 + 40 * p) = k by omega]
  refine Or.inr (Or.inr (Or.inl ⟨by rw [strip_lo (by omega) hp.1, hold_0], fa, sf, ⟨?_, hn⟩, ⟨hfa, hfn⟩, fun k k0 k1 => ?_⟩))
  · rw [e10]
    unfold fsF
    rw [e10]
    by_cases e : rd = 0
    · rw [if_pos e] at h ⊢
      exact h
    · rw [if_neg e] at h ⊢
      rw [es (rd - 1) (by omega) (by omega), ← hsf (rd - 1) (by omega) (by omega)]
      exact h
  · rw [e10] at k1
    rw [es k k0 k1]
    exact hsf k k0 k1
theorem clear_0 : clearF now p p = -1 := by unfold clearF; rw [if_pos rfl]
end ONLY
