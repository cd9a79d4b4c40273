/-! the fewest stamps for each sum, from each place on -/
def minUp (now : Int → Int) (p m : Int) (B : Int → Int) (s v : Int) : Prop := v ≤ FAR ∧ (∀ n : Int, 0 ≤ n → n < m → mayF now p n → paysF now p n ≤ s → v ≤ B (s - paysF now p n) + n) ∧ (v = FAR ∨ ∃ n : Int, 0 ≤ n ∧ n < m ∧ mayF now p n ∧ paysF now p n ≤ s ∧ v = B (s - paysF now p n) + n)
theorem minUp_0 {now : Int → Int} {p s : Int} {B : Int → Int} : minUp now p 0 B s FAR := ⟨Int.le_refl _, fun n h0 h1 => absurd h1 (by omega), Or.inl rfl⟩
theorem minUp_step {now : Int → Int} {p n s v m : Int} {B : Int → Int} (h : minUp now p n B s v) (hn : 0 ≤ n) (hm : mayF now p n) (hp : paysF now p n ≤ s) (h1 : m ≤ v) (h2 : m ≤ B (s - paysF now p n) + n) (h3 : m = v ∨ m = B (s - paysF now p n) + n) : minUp now p (1 + n) B s m := by
  obtain ⟨a, b, c⟩ := h
  refine ⟨by omega, fun k k0 k1 k2 k3 => ?_, ?_⟩
  · rcases (show k < n ∨ k = n by omega) with q | q
    · have := b k k0 q k2 k3; omega
    · subst q; exact h2
  · rcases h3 with q | q
    · rcases c with c | ⟨k, k0, k1, k2, k3, k4⟩
      · exact Or.inl (by omega)
      · exact Or.inr ⟨k, k0, by omega, k2, k3, by omega⟩
    · exact Or.inr ⟨n, hn, by omega, hm, hp, q⟩
theorem minUp_skip {now : Int → Int} {p n s v : Int} {B : Int → Int} (h : minUp now p n B s v) (hm : mayF now p n → s < paysF now p n) : minUp now p (1 + n) B s v := by
  obtain ⟨a, b, c⟩ := h
  refine ⟨a, fun k k0 k1 k2 k3 => ?_, ?_⟩
  · rcases (show k < n ∨ k = n by omega) with q | q
    · exact b k k0 q k2 k3
    · subst q; have := hm k2; omega
  · rcases c with c | ⟨k, k0, k1, k2, k3, k4⟩
    · exact Or.inl c
    · exact Or.inr ⟨k, k0, by omega, k2, k3, k4⟩
theorem minUp_congr {now : Int → Int} {p n s v v' : Int} {B B' : Int → Int} (h : minUp now p n B s v) (hv : v' = v) (hB : ∀ x : Int, 0 ≤ x → x ≤ s → B' x = B x) (hp : ∀ k : Int, 0 ≤ k → k < n → 0 ≤ paysF now p k) : minUp now p n B' s v' := by
  subst hv
  obtain ⟨a, b, c⟩ := h
  refine ⟨a, fun k k0 k1 k2 k3 => ?_, ?_⟩
  · have := hp k k0 k1
    rw [hB _ (by omega) (by omega)]
    exact b k k0 k1 k2 k3
  · rcases c with c | ⟨k, k0, k1, k2, k3, k4⟩
    · exact Or.inl c
    · have := hp k k0 k1
      exact Or.inr ⟨k, k0, k1, k2, k3, by rw [hB _ (by omega) (by omega)]; exact k4⟩
theorem minUp_nn {now : Int → Int} {p n s v : Int} {B : Int → Int} (h : minUp now p n B s v) (hB : ∀ x : Int, 0 ≤ x → x ≤ s → 0 ≤ B x) (hp : ∀ k : Int, 0 ≤ k → k < n → 0 ≤ paysF now p k) : 0 ≤ v ∧ v ≤ 1000000 := by
  obtain ⟨a, b, c⟩ := h
  unfold FAR at a c
  rcases c with c | ⟨k, k0, k1, k2, k3, k4⟩
  · omega
  · have h1 := hp k k0 k1
    have h2 := hB (s - paysF now p k) (by omega) (by omega)
    omega
theorem paysF_bd {now : Int → Int} (hK : okK now) (hS : okS now) {p n : Int} (h0 : 0 ≤ p) (h1 : p < 10) (hn : 0 ≤ n) (hn2 : n ≤ now (10 + p)) : 0 ≤ paysF now p n ∧ paysF now p n ≤ 32000 := by
  have hk := hK p h0 h1
  unfold paysF
  by_cases e : now p = 1
  · rw [if_pos e]
    have := sumI_bd (f := fun k => now (60 + 40 * p + (now (10 + p) - (1 + k)))) (a := 0) (b := 500) (n := n.toNat) (fun k k0 k1 => by have := hS p (now (10 + p) - (1 + k)) h0 h1 (by omega) (by omega); show 0 ≤ now (60 + 40 * p + (now (10 + p) - (1 + k))) ∧ now (60 + 40 * p + (now (10 + p) - (1 + k))) ≤ 500; omega)
    omega
  · rw [if_neg e]
    have h2 : n * now (20 + p) ≤ 64 * 500 := Int.mul_le_mul (by omega) (by omega) (by omega) (by decide)
    have h3 : 0 ≤ n * now (20 + p) := Int.mul_nonneg (by omega) (by omega)
    omega
def rowOK (now best : Int → Int) (p : Int) : Prop := ∀ s : Int, 0 ≤ s → s < 3200 → minUp now p (1 + now (10 + p)) (fun x => best (3200 + 3200 * p + x)) s (best (3200 * p + s))
def waysOK (now best : Int → Int) : Prop := (∀ s : Int, 0 ≤ s → s < 3200 → best (32000 + s) = if s = 0 then 0 else 1000000) ∧ ∀ p : Int, 0 ≤ p → p < 10 → rowOK now best p
theorem waysOK_nnA {now best : Int → Int} (hok : mOK now) (h : waysOK now best) : ∀ (i : Nat) (s : Int), i ≤ 10 → 0 ≤ s → s < 3200 → 0 ≤ best (3200 * (10 - i) + s) ∧ best (3200 * (10 - i) + s) ≤ 1000000
  | 0, s, _, h0, h1 => by
    have := h.1 s h0 h1
    rw [show 3200 * (10 - ((0 : Nat) : Int)) + s = 32000 + s by omega, this]
    split <;> omega
  | i + 1, s, hi, h0, h1 => by
    have ih := waysOK_nnA hok h i
    have hr := h.2 (10 - ((i + 1 : Nat) : Int)) (by omega) (by omega) s h0 h1
    exact minUp_nn hr (fun x x0 x1 => by have := ih x (by omega) x0 (by omega); rw [show 3200 * (10 - (i : Int)) + x = 3200 + 3200 * (10 - ((i + 1 : Nat) : Int)) + x by omega] at this; exact this.1) (fun k k0 k1 => (paysF_bd hok.1 hok.2.1 (by omega) (by omega) k0 (by omega)).1)
theorem waysOK_nn {now best : Int → Int} (hok : mOK now) (h : waysOK now best) : ∀ s : Int, 0 ≤ s → s < 3200 → 0 ≤ best s ∧ best s ≤ 1000000 := fun s h0 h1 => by
  have := waysOK_nnA hok h 10 s (by omega) h0 h1
  rw [show 3200 * (10 - ((10 : Nat) : Int)) + s = s by omega] at this
  exact this
def isLeast (best : Int → Int) (pr z : Int) : Prop := (pr ≤ z ∧ z < 3200 ∧ best z < 1000000 ∧ ∀ x : Int, pr ≤ x → x < z → 1000000 ≤ best x) ∨ (z = -1 ∧ ∀ x : Int, pr ≤ x → x < 3200 → 1000000 ≤ best x)
def sFewest (now : Int → Int) (sm z : Int) : Prop := (¬ (0 ≤ sm ∧ sm ≤ 2500) ∧ z = -3) ∨ ((0 ≤ sm ∧ sm ≤ 2500) ∧ ∃ best : Int → Int, waysOK now best ∧ ((best sm < 1000000 ∧ z = best sm) ∨ (1000000 ≤ best sm ∧ z = -1)))
def sLeast (now : Int → Int) (pr z : Int) : Prop := (¬ (0 ≤ pr ∧ pr ≤ 2000) ∧ z = -3) ∨ ((0 ≤ pr ∧ pr ≤ 2000) ∧ ∃ best : Int → Int, waysOK now best ∧ isLeast best pr z)
