/-! the least sum: what the class's table tells of it -/
section LEAST
variable {now : Int → Int} {row : Int → Int → Int} {most : Int}
theorem waysC_bdA (hok : mOK now) (h : waysC now row most) : ∀ (i : Nat) (s : Int), i ≤ 10 → 0 ≤ s → s ≤ most → 0 ≤ row (10 - i) s ∧ row (10 - i) s ≤ 1000000
  | 0, s, _, h0, h1 => by
    have := h.1 s h0 h1
    rw [show (10 : Int) - ((0 : Nat) : Int) = 10 by omega, this]
    split <;> omega
  | i + 1, s, hi, h0, h1 => by
    have hr := h.2 (10 - ((i + 1 : Nat) : Int)) (by omega) (by omega) s h0 h1
    refine minUp_bd hok ⟨by omega, by omega⟩ (Int.le_refl _) hr (fun x x0 x1 => ?_)
    have := waysC_bdA hok h i x (by omega) x0 (by omega)
    rw [show (1 : Int) + (10 - ((i + 1 : Nat) : Int)) = 10 - (i : Int) by omega]
    exact this.1
theorem waysC_bd (hok : mOK now) (h : waysC now row most) : ∀ i s : Int, 0 ≤ i → i ≤ 10 → 0 ≤ s ∧ s ≤ most → 0 ≤ row i s ∧ row i s ≤ 1000000 := fun i s i0 i1 hs => by
  have := waysC_bdA hok h (10 - i).toNat s (by omega) hs.1 hs.2
  rw [show (10 : Int) - ((10 - i).toNat : Int) = i by omega] at this
  exact this
theorem rch_row (hok : mOK now) (h : waysC now row most) : ∀ (i : Nat) (s : Int), i ≤ 10 → 0 ≤ s → s ≤ most → rch now i s → row (10 - i) s ≤ 64 * i
  | 0, s, _, s0, s1, q => by
    have q : s = 0 := q
    rw [show (10 : Int) - ((0 : Nat) : Int) = 10 by omega, h.1 s s0 s1, if_pos q]
    omega
  | i + 1, s, hi, s0, s1, ⟨n, n0, n1, n2, n3⟩ => by
    have hr := h.2 (10 - ((i + 1 : Nat) : Int)) (by omega) (by omega) s s0 s1
    have hpe : (10 : Int) - ((i + 1 : Nat) : Int) = 9 - (i : Int) := by omega
    rw [hpe] at hr ⊢
    have hcnt := hok.1 (9 - (i : Int)) (by omega) (by omega)
    have hb := (paysF_bd hok.1 hok.2.1 (p := 9 - (i : Int)) (by omega) (by omega) n0 n1).1
    have hnn := rch_nn hok i _ (by omega) n3
    have ih := rch_row hok h i (s - paysF now (9 - (i : Int)) n) (by omega) hnn (by omega) n3
    have h5 := hr.2.1 n n0 (by omega) n2 (by omega)
    rw [show (1 : Int) + (9 - (i : Int)) = 10 - (i : Int) by omega] at h5
    omega
theorem few_hi {best : Int → Int} {s : Int} (hok : mOK now) (h : waysOK now best) (hs : 0 ≤ s ∧ s < 3200) (ha : allF now < s) : 1000000 ≤ best s := by
  apply Classical.byContradiction
  intro q
  have h1 := (rch_best hok h 10 s (by omega) hs.1 hs.2).1
  rw [show 3200 * (10 - ((10 : Nat) : Int)) + s = s by omega] at h1
  have h2 := rch_le hok 10 s (by omega) (h1 (by omega))
  rw [allU_eq hok] at h2
  omega
theorem reach_dn (hok : mOK now) {pr : Int} (hpr : 0 ≤ pr) : ∀ (m : Nat) (s : Int), pr ≤ s → s ≤ pr + m → rch now 10 s → ∃ x : Int, pr ≤ x ∧ x ≤ pr + 999 ∧ rch now 10 x
  | 0, s, h0, h1, h => ⟨s, h0, by omega, h⟩
  | m + 1, s, h0, h1, h => by
    by_cases e : s ≤ pr + 999
    · exact ⟨s, h0, e, h⟩
    · obtain ⟨d, d0, d1, d2⟩ := rch_less hok 10 s (by omega) h (by omega)
      exact reach_dn hok hpr m (s - d) (by omega) (by omega) d2
theorem least_ex (hok : mOK now) {pr : Int} (hpr : 0 ≤ pr ∧ pr ≤ 2000) (ha : pr ≤ allF now) : ∃ x : Int, pr ≤ x ∧ x ≤ min (allF now) (pr + 999) ∧ rch now 10 x := by
  have hr := rch_all hok 10 (by omega)
  rw [allU_eq hok] at hr
  by_cases e : allF now ≤ pr + 999
  · exact ⟨allF now, ha, by omega, hr⟩
  · obtain ⟨x, x0, x1, x2⟩ := reach_dn hok hpr.1 (allF now - pr).toNat (allF now) ha (by omega) hr
    exact ⟨x, x0, by omega, x2⟩
/-- what leastFrom leaves behind -/
def lfR (now : Int → Int) (row : Int → Int → Int) (most pr z : Int) : Prop := (allF now < pr ∧ z = -1) ∨ (waysC now row most ∧ pr ≤ z ∧ z ≤ most ∧ row 0 z < 1000000 ∧ ∀ x : Int, pr ≤ x → x < z → 1000000 ≤ row 0 x)
theorem lfR_of (hok : mOK now) {pr z : Int} (hpr : 0 ≤ pr ∧ pr ≤ 2000) (ha : pr ≤ allF now) (hm : most = min (allF now) (pr + 999)) (hc : waysC now row most) (h : fsR row most pr z) : lfR now row most pr z := by
  rcases h with ⟨a, b, c, d⟩ | ⟨a, b⟩
  · exact Or.inr ⟨hc, a, b, c, d⟩
  · obtain ⟨x, x0, x1, x2⟩ := least_ex hok hpr ha
    have h1 := rch_row hok hc 10 x (by omega) (by omega) (by omega) x2
    rw [show (10 : Int) - ((10 : Nat) : Int) = 0 by omega] at h1
    have h2 := b x x0 (by omega)
    omega
theorem lfR_least (hok : mOK now) {pr z : Int} (hpr : 0 ≤ pr ∧ pr ≤ 2000) (hm : 0 ≤ most ∧ most < 3000) (h : lfR now row most pr z) : ∀ best : Int → Int, waysOK now best → isLeast best pr z := by
  intro best hw
  rcases h with ⟨a, b⟩ | ⟨hc, a, b, c, d⟩
  · exact Or.inr ⟨b, fun x x0 x1 => few_hi hok hw ⟨by omega, x1⟩ (by omega)⟩
  · have he : ∀ x : Int, 0 ≤ x → x ≤ most → row 0 x = best x := fun x x0 x1 => by
      have := ways_eqp (p := 0) (s := x) hok hw hc (by omega) ⟨by decide, by decide⟩ ⟨x0, x1⟩
      rw [this]
      congr 1
      omega
    refine Or.inl ⟨a, by omega, by rw [← he z (by omega) b]; exact c, fun x x0 x1 => ?_⟩
    rw [← he x (by omega) (by omega)]
    exact d x x0 x1
theorem isLeast_one {best : Int → Int} {pr z z' : Int} (hpr : 0 ≤ pr) (h : isLeast best pr z) (h' : isLeast best pr z') : z = z' := by
  rcases h with ⟨a, b, c, d⟩ | ⟨a, b⟩ <;> rcases h' with ⟨a', b', c', d'⟩ | ⟨a', b'⟩
  · rcases Int.lt_trichotomy z z' with q | q | q
    · have := d' z a q; omega
    · exact q
    · have := d z' a' q; omega
  · have := b' z a b; omega
  · have := b z' a' b'; omega
  · omega
/-- the class's answers, by any table of the reference -/
def sLeastC (now : Int → Int) (pr z : Int) : Prop := (¬ (0 ≤ pr ∧ pr ≤ 2000) ∧ z = -3) ∨ ((0 ≤ pr ∧ pr ≤ 2000) ∧ ∀ best : Int → Int, waysOK now best → isLeast best pr z)
def sFewestC (now : Int → Int) (sm z : Int) : Prop := (¬ (0 ≤ sm ∧ sm ≤ 2500) ∧ z = -3) ∨ ((0 ≤ sm ∧ sm ≤ 2500) ∧ ∀ best : Int → Int, waysOK now best → (best sm < 1000000 ∧ z = best sm) ∨ (1000000 ≤ best sm ∧ z = -1))
theorem sLeast_one {pr z z' : Int} (h : sLeastC now pr z) (h' : sLeast now pr z') : z = z' := by
  rcases h with ⟨a, b⟩ | ⟨a, b⟩ <;> rcases h' with ⟨a', b'⟩ | ⟨a', best, b1, b2⟩
  · omega
  · exact absurd a' a
  · exact absurd a a'
  · exact isLeast_one a.1 (b best b1) b2
theorem sFewest_one {sm z z' : Int} (h : sFewestC now sm z) (h' : sFewest now sm z') : z = z' := by
  rcases h with ⟨a, b⟩ | ⟨a, b⟩ <;> rcases h' with ⟨a', b'⟩ | ⟨a', best, b1, b2⟩
  · omega
  · exact absurd a' a
  · exact absurd a a'
  · have := b best b1
    omega
theorem few_of (hok : mOK now) {sm z : Int} (hs : 0 ≤ sm ∧ sm ≤ 2500) (hc : waysC now row sm) (h : z = if (0 ≤ sm ∧ sm ≤ sm) ∧ row 0 sm < 1000000 then row 0 sm else -1) : ∀ best : Int → Int, waysOK now best → (best sm < 1000000 ∧ z = best sm) ∨ (1000000 ≤ best sm ∧ z = -1) := by
  intro best hw
  have he := ways_eqp (p := 0) (s := sm) hok hw hc (by omega) ⟨by decide, by decide⟩ ⟨hs.1, Int.le_refl _⟩
  rw [show 3200 * 0 + sm = sm by omega] at he
  rw [he] at h
  by_cases e : best sm < 1000000
  · rw [if_pos ⟨⟨hs.1, Int.le_refl _⟩, e⟩] at h
    exact Or.inl ⟨e, h⟩
  · rw [if_neg (fun q => e q.2)] at h
    exact Or.inr ⟨by omega, h⟩
end LEAST
