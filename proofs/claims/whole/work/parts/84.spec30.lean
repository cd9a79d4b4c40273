/-- what a choice gives of a place -/
def chC (now : Int → Int) (row : Int → Int → Int) (p lf m : Int) : Prop := mayF now p m ∧ paysF now p m ≤ lf ∧ row (1 + p) (lf - paysF now p m) + m = row p lf
def mfR (now : Int → Int) (row : Int → Int → Int) (p lf z : Int) : Prop := (0 ≤ z ∧ z ≤ now (10 + p)) ∧ mayF now p z ∧ paysF now p z ≤ lf ∧ (z ≠ 0 → chC now row p lf z) ∧ ∀ m : Int, z < m → m ≤ now (10 + p) → ¬ chC now row p lf m
def cfR (now : Int → Int) (row : Int → Int → Int) (most sm : Int) (cf lf : Int → Int) (n : Int) : Prop := lf 0 = sm ∧ (∀ q : Int, 0 ≤ q → q ≤ n → 0 ≤ lf q ∧ lf q ≤ most) ∧ ∀ q : Int, 0 ≤ q → q < n → mfR now row q (lf q) (cf q) ∧ lf (1 + q) = lf q - paysF now q (cf q)
theorem cfR_0 {now : Int → Int} {row : Int → Int → Int} {most sm : Int} {cf : Int → Int} (h : 0 ≤ sm ∧ sm ≤ most) : cfR now row most sm cf (fun _ => sm) 0 := ⟨rfl, fun _ _ _ => h, fun q a b => by omega⟩
theorem cfR_s {now : Int → Int} {row : Int → Int → Int} {most sm n z : Int} {cf lf : Int → Int} (h : cfR now row most sm cf lf n) (hn : 0 ≤ n) (hz : mfR now row n (lf n) z) (hp : 0 ≤ paysF now n z) : cfR now row most sm (upI cf n z) (upI lf (1 + n) (lf n - paysF now n z)) (1 + n) := by
  obtain ⟨a, b, c⟩ := h
  have hb := b n hn (Int.le_refl _)
  refine ⟨by rw [upI_n (by omega)]; exact a, fun q q0 q1 => ?_, fun q q0 q1 => ?_⟩
  · by_cases e : q = 1 + n
    · rw [e, upI_s]
      have := hz.2.2.1
      omega
    · rw [upI_n e]; exact b q q0 (by omega)
  · by_cases e : q = n
    · rw [e, upI_s, upI_s, upI_n (by omega)]
      exact ⟨hz, rfl⟩
    · rw [upI_n e, upI_n (by omega), upI_n (by omega)]
      exact c q q0 (by omega)
