def chOK (now best : Int → Int) (p lf n : Int) : Prop := 0 ≤ n ∧ n ≤ now (10 + p) ∧ mayF now p n ∧ paysF now p n ≤ lf ∧ best (3200 + 3200 * p + (lf - paysF now p n)) + n = best (3200 * p + lf)
def chTop (now best : Int → Int) (p lf n : Int) : Prop := chOK now best p lf n ∧ ∀ m : Int, n < m → m ≤ now (10 + p) → ¬ chOK now best p lf m
/-- a letter is paid: the state behind the places below p -/
def payUp (now : Int → Int) (l : Int) (best : Int → Int) (sum p : Int) (g cnt lft : Int → Int) (T : Int → Int → Prop) : Prop :=
  lft 0 = sum ∧ (∀ q : Int, 0 ≤ q → q < p → chTop now best q (lft q) (cnt q) ∧ lft (1 + q) = lft q - paysF now q (cnt q) ∧ giveT now q (cnt q) (T q)) ∧
  (∀ q : Int, 0 ≤ q → q < p → g (1527 + 10 * l + q) = cnt q ∧ g (10 + q) = now (10 + q) - cnt q ∧ ∀ k : Int, 0 ≤ k → k < 64 → (T q k → g (460 + 64 * q + k) = 0 ∧ tq g l q k = 1) ∧ (¬ T q k → g (460 + 64 * q + k) = now (460 + 64 * q + k) ∧ tq g l q k = tq now l q k)) ∧
  (∀ q : Int, p ≤ q → q < 10 → g (10 + q) = now (10 + q) ∧ (∀ k : Int, 0 ≤ k → k < 64 → g (460 + 64 * q + k) = now (460 + 64 * q + k)) ∧ g (2127 + 20 * l + 2 * q) = now (2127 + 20 * l + 2 * q) ∧ g (2127 + 20 * l + 2 * q + 1) = now (2127 + 20 * l + 2 * q + 1)) ∧
  g (1407 + l) = now (1407 + l) + sumI cnt p.toNat ∧ (∀ f : Int, 0 ≤ f → f ≤ 500 → g (3327 + f) = now (3327 + f) + sumI (fun q => goneF now q (cnt q) f) p.toNat) ∧
  (∀ j : Int, (j < 10 ∨ (20 ≤ j ∧ j < 460) ∨ (1100 ≤ j ∧ j < 1527 + 10 * l ∧ j ≠ 1407 + l) ∨ (1537 + 10 * l ≤ j ∧ j < 2127 + 20 * l) ∨ (2147 + 20 * l ≤ j ∧ j < 3327) ∨ 3827 < j) → g j = now j)
theorem payUp_0 {now : Int → Int} {l sum : Int} {best : Int → Int} {T : Int → Int → Prop} : payUp now l best sum 0 now (fun _ => 0) (fun _ => sum) T := by
  refine ⟨rfl, fun q h0 h1 => absurd h1 (by omega), fun q h0 h1 => absurd h1 (by omega), fun q _ _ => ⟨rfl, fun _ _ _ => rfl, rfl, rfl⟩, ?_, fun f _ _ => ?_, fun _ _ => rfl⟩
  · show _ = _ + 0; omega
  · show _ = _ + 0; omega
theorem payUp_step {now : Int → Int} {l sum p n : Int} {best g g' cnt lft : Int → Int} {T : Int → Int → Prop} {Tn : Int → Prop} (h : payUp now l best sum p g cnt lft T) (hp : 0 ≤ p ∧ p < 10) (hl : 0 ≤ l ∧ l < 60) (hc : chTop now best p (lft p) n) (hg : giveOK g g' l p n Tn) (hT : giveT now p n Tn) (hgf : ∀ f : Int, goneF g p n f = goneF now p n f) : payUp now l best sum (1 + p) g' (upI cnt p n) (upI lft (1 + p) (lft p - paysF now p n)) (upI T p Tn) := by
  obtain ⟨a1, a2, a3, a4, a5, a6, a7⟩ := h
  obtain ⟨b1, b2, b3, b4, b5, b6⟩ := hg
  have hsum : ∀ F : Int → Int → Int, sumI (fun q => F q (upI cnt p n q)) (1 + p).toNat = sumI (fun q => F q (cnt q)) p.toNat + F p n := fun F => by
    rw [sumI_s _ hp.1, upI_s, sumI_cong (g := fun q => F q (cnt q)) (fun k k0 k1 => by show F k (upI cnt p n k) = _; rw [upI_n (by omega)])]
  refine ⟨by rw [upI_n (by omega)]; exact a1, fun q q0 q1 => ?_, fun q q0 q1 => ?_, fun q q0 q1 => ?_, ?_, fun f f0 f1 => ?_, fun j hj => ?_⟩
  · by_cases e : q = p
    · subst e
      rw [upI_s, upI_n (by omega), upI_s, upI_s]
      exact ⟨hc, rfl, hT⟩
    · rw [upI_n e, upI_n (by omega), upI_n (by omega), upI_n e]
      exact a2 q q0 (by omega)
  · by_cases e : q = p
    · subst e
      rw [upI_s, upI_s]
      have h4 := a4 q (by omega) hp.2
      refine ⟨b1, by rw [b3, h4.1], fun k k0 k1 => ?_⟩
      have h5 := b5 k k0 k1
      have hq : tq g l q k = tq now l q k := by
        unfold tq
        rcases (show k / 32 = 0 ∨ k / 32 = 1 by omega) with z | z <;> rw [z]
        · rw [show 2127 + 20 * l + 2 * q + 0 = 2127 + 20 * l + 2 * q by omega, h4.2.2.1]
        · rw [h4.2.2.2]
      rw [h4.2.1 k k0 k1, hq] at h5
      exact h5
    · rw [upI_n e, upI_n e]
      have h3 := a3 q q0 (by omega)
      refine ⟨by rw [b6 _ (by omega) (by omega) (by omega) (by omega) (by omega) (by omega) (by omega)]; exact h3.1, by rw [b6 _ (by omega) (by omega) (by omega) (by omega) (by omega) (by omega) (by omega)]; exact h3.2.1, fun k k0 k1 => ?_⟩
      have h5 := h3.2.2 k k0 k1
      have hq : tq g' l q k = tq g l q k := by
        unfold tq
        rw [b6 _ (by omega) (by omega) (by omega) (by omega) (by omega) (by omega) (by omega)]
      rw [b6 _ (by omega) (by omega) (by omega) (by omega) (by omega) (by omega) (by omega), hq]
      exact h5
  · have h4 := a4 q (by omega) q1
    refine ⟨by rw [b6 _ (by omega) (by omega) (by omega) (by omega) (by omega) (by omega) (by omega)]; exact h4.1, fun k k0 k1 => by rw [b6 _ (by omega) (by omega) (by omega) (by omega) (by omega) (by omega) (by omega)]; exact h4.2.1 k k0 k1, by rw [b6 _ (by omega) (by omega) (by omega) (by omega) (by omega) (by omega) (by omega)]; exact h4.2.2.1, by rw [b6 _ (by omega) (by omega) (by omega) (by omega) (by omega) (by omega) (by omega)]; exact h4.2.2.2⟩
  · have := hsum (fun _ x => x)
    rw [b2, a5, show sumI (upI cnt p n) (1 + p).toNat = sumI (fun q => (fun _ x => x) q (upI cnt p n q)) (1 + p).toNat from rfl, this]
    show _ = now (1407 + l) + (sumI cnt p.toNat + n)
    omega
  · have := hsum (fun q x => goneF now q x f)
    rw [b4 f f0 f1, a6 f f0 f1, this, hgf f]
    omega
  · rw [b6 j (by omega) (by omega) (by omega) (by omega) (by omega) (by omega) (by omega)]
    exact a7 j hj
