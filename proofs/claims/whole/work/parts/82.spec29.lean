/-- a place's row: all that can be given of it -/
def rowC (now : Int → Int) (row : Int → Int → Int) (most p m : Int) : Prop := ∀ s : Int, 0 ≤ s → s ≤ most → minUp now p m (row (1 + p)) s (row p s)
theorem minUp_bd {now : Int → Int} (hok : mOK now) {p m s v : Int} {B : Int → Int} (hp : 0 ≤ p ∧ p < 10) (hm : m ≤ 1 + now (10 + p)) (h : minUp now p m B s v) (hB : ∀ x : Int, 0 ≤ x → x ≤ s → 0 ≤ B x) : 0 ≤ v ∧ v ≤ 1000000 := minUp_nn h hB (fun k k0 k1 => (paysF_bd hok.1 hok.2.1 hp.1 hp.2 k0 (by omega)).1)
theorem rwBd_up {now : Int → Int} (hok : mOK now) {row : Int → Int → Int} {most p m : Int} {f : Int → Int} (hp : 0 ≤ p ∧ p < 10) (hm : m ≤ 1 + now (10 + p)) (h : rwBd row most p) (hf : ∀ s : Int, 0 ≤ s → s ≤ most → minUp now p m (row (1 + p)) s (f s)) : rwBd (upI row p f) most p := by
  intro i s i0 s0 s1
  by_cases e : i = p
  · rw [e, upI_s]
    exact minUp_bd hok hp hm (hf s s0 s1) (fun x x0 x1 => (h (1 + p) x (Or.inr rfl) x0 (by omega)).1)
  · rw [upI_n e]; exact h i s i0 s0 s1
theorem face_1 {now : Int → Int} (hok : mOK now) {p : Int} (hp : 0 ≤ p ∧ p < 10) (h1 : now p ≠ 1) (h2 : now p ≠ -1) : 1 ≤ now (20 + p) := by
  obtain ⟨k1, k2, k3, k4, k5, k6, k7, k8, k9, k10, k11, k12, k13, k14, k15, k16, k17⟩ := hok.1 p hp.1 hp.2
  by_cases e2 : now p = 2 ∨ now p = 3
  · exact (k14 e2).2.2
  · exact k17 (by omega)
theorem strip_1 {now : Int → Int} (hok : mOK now) {p n : Int} (hp : 0 ≤ p ∧ p < 10) (h1 : now p = 1) (hn : 0 ≤ n ∧ n ≤ now (10 + p)) : 0 ≤ paysF now p n ∧ paysF now p n ≤ 32000 := paysF_bd hok.1 hok.2.1 hp.1 hp.2 hn.1 hn.2
theorem tgF_1 (now : Int → Int) (p : Int) : (now p = 3 ∧ tgF now p = 2) ∨ (now p ≠ 3 ∧ tgF now p = 1) := by
  unfold tgF
  by_cases e : now p = 3
  · rw [if_pos e]; exact Or.inl ⟨e, rfl⟩
  · rw [if_neg e]; exact Or.inr ⟨e, rfl⟩
theorem mul_bd {a b : Int} (ha : 0 ≤ a ∧ a ≤ 64) (hb : 1 ≤ b ∧ b ≤ 500) : a ≤ a * b ∧ a * b ≤ 32000 := by
  have h1 : a * b ≤ 64 * 500 := Int.mul_le_mul ha.2 hb.2 (by omega) (by decide)
  have h2 := Int.mul_le_mul_of_nonneg_left hb.1 ha.1
  omega
/-- the first sum that is paid, from a price on -/
def fsR (row : Int → Int → Int) (most pr z : Int) : Prop := (pr ≤ z ∧ z ≤ most ∧ row 0 z < 1000000 ∧ ∀ x : Int, pr ≤ x → x < z → 1000000 ≤ row 0 x) ∨ (z = -1 ∧ ∀ x : Int, pr ≤ x → x ≤ most → 1000000 ≤ row 0 x)
