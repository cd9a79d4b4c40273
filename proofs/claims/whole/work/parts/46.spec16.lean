theorem payUp_loc {now : Int → Int} {l sum p : Int} {best g cnt lft : Int → Int} {T : Int → Int → Prop} (h : payUp now l best sum p g cnt lft T) (hp : 0 ≤ p ∧ p < 10) (hl : 0 ≤ l ∧ l < 60) : g p = now p ∧ g (10 + p) = now (10 + p) ∧ g (20 + p) = now (20 + p) ∧ g (40 + p) = now (40 + p) ∧ g (50 + p) = now (50 + p) ∧ (∀ j : Int, 60 ≤ j → j < 460 → g j = now j) ∧ ∀ k : Int, 0 ≤ k → k < 64 → g (460 + 64 * p + k) = now (460 + 64 * p + k) := by
  obtain ⟨a1, a2, a3, a4, a5, a6, a7⟩ := h
  have h4 := a4 p (Int.le_refl _) hp.2
  exact ⟨a7 _ (by omega), h4.1, a7 _ (by omega), a7 _ (by omega), a7 _ (by omega), fun j j0 j1 => a7 _ (by omega), h4.2.1⟩
theorem payUp_ok {now : Int → Int} {l sum p : Int} {best g cnt lft : Int → Int} {T : Int → Int → Prop} (hok : mOK now) (h : payUp now l best sum p g cnt lft T) (hp : 0 ≤ p ∧ p ≤ 10) (hl : 0 ≤ l ∧ l < 60) : okK g ∧ okS g ∧ okQ g := by
  obtain ⟨a1, a2, a3, a4, a5, a6, a7⟩ := h
  have hB : ∀ q : Int, 0 ≤ q → q < 10 → 0 ≤ g (10 + q) ∧ g (10 + q) ≤ now (10 + q) := fun q q0 q1 => by
    have hk := (hok.1 q q0 q1).2.2.1
    by_cases e : q < p
    · have h3 := (a3 q q0 e).2.1
      have h2 := (a2 q q0 e).1.1
      have h5 := h2.1
      have h6 := h2.2.1
      omega
    · have h4 := (a4 q (by omega) q1).1; omega
  have hC : ∀ q k : Int, 0 ≤ q → q < 10 → 0 ≤ k → k < 64 → g (460 + 64 * q + k) = 0 ∨ g (460 + 64 * q + k) = now (460 + 64 * q + k) := fun q k q0 q1 k0 k1 => by
    by_cases e : q < p
    · have h3 := (a3 q q0 e).2.2 k k0 k1
      rcases Classical.em (T q k) with z | z
      · exact Or.inl (h3.1 z).1
      · exact Or.inr (h3.2 z).1
    · exact Or.inr ((a4 q (by omega) q1).2.1 k k0 k1)
  have hA : ∀ j : Int, (j < 10 ∨ (20 ≤ j ∧ j < 460)) → g j = now j := fun j hj => a7 j (by omega)
  refine ⟨fun q q0 q1 => ?_, fun q a q0 q1 a0 a1 => ?_, fun q k q0 q1 k0 k1 => ?_⟩
  · obtain ⟨k1, k2, k3, k4, k5, k6, k7, k8, k9, k10, k11, k12, k13, k14, k15, k16, k17⟩ := hok.1 q q0 q1
    have hb := hB q q0 q1
    rw [hA q (by omega), hA (20 + q) (by omega), hA (30 + q) (by omega), hA (40 + q) (by omega), hA (50 + q) (by omega)]
    exact ⟨k1, k2, hb.1, by omega, k5, k6, k7, k8, k9, k10, k11, k12, fun z => by have := k13 z; omega, k14, k15, fun z => by have := k16 z; omega, k17⟩
  · obtain ⟨k1, k2, k3⟩ := hok.2.1 q a q0 q1 a0 a1
    have hb := hB q q0 q1
    rw [hA q (by omega), hA (60 + 40 * q + a) (by omega)]
    exact ⟨k1, k2, fun z z2 => k3 z (by omega)⟩
  · obtain ⟨u1, u2, u3⟩ := hok.2.2.1 q k q0 q1 k0 k1
    rw [hA q (by omega), hA (20 + q) (by omega)]
    rcases hC q k q0 q1 k0 k1 with z | z
    · rw [z]; exact ⟨by decide, by decide, fun _ => Or.inl rfl⟩
    · rw [z]; exact ⟨u1, u2, u3⟩
theorem pairU_of {now : Int → Int} (hC : okC now) {p w : Int} (hp : 0 ≤ p ∧ p < 10) (hw : wOf now p w) : pairU now p w := fun s s0 s1 => by
  rcases hw with ⟨q, e⟩ | ⟨q, e⟩
  · subst e; rw [show s - s % 1 = s by omega]
  · subst e
    have h := (hC p hp.1 hp.2 (Or.inr q)).2.2.1 q (s / 2) (by omega) (by omega)
    rcases (show s % 2 = 0 ∨ s % 2 = 1 by omega) with z | z
    · rw [show s - s % 2 = s by omega]
    · rw [show s - s % 2 = 2 * (s / 2) by omega, h, show 2 * (s / 2) + 1 = s by omega]
theorem goneF_cong {now g : Int → Int} {p n f : Int} (h1 : g p = now p) (h2 : g (10 + p) = now (10 + p)) (h3 : g (20 + p) = now (20 + p)) (h4 : ∀ j : Int, 60 ≤ j → j < 460 → g j = now j) (hp : 0 ≤ p ∧ p < 10) (hn : 0 ≤ n ∧ n ≤ now (10 + p)) (hm : now p = 1 → now (10 + p) ≤ 40) : goneF g p n f = goneF now p n f := by
  unfold goneF
  refine sumI_cong (fun k k0 k1 => ?_)
  have : faceK g p k = faceK now p k := by
    unfold faceK
    rw [h1, h2, h3]
    by_cases e : now p = 1
    · have := hm e
      rw [if_pos e, if_pos e, h4 _ (by omega) (by omega)]
    · rw [if_neg e, if_neg e]
  rw [this]
theorem giveT_cong {now g : Int → Int} {p n : Int} {T : Int → Prop} (h0 : g p = now p) (h1 : g (40 + p) = now (40 + p)) (h2 : g (50 + p) = now (50 + p)) (h : ∀ k : Int, 0 ≤ k → k < 64 → g (460 + 64 * p + k) = now (460 + 64 * p + k)) (hN : now (40 + p) * now (50 + p) ≤ 64) (hT : giveT g p n T) : giveT now p n T := by
  unfold giveT at hT ⊢
  rw [h0] at hT
  rcases hT with ⟨a, b, c⟩ | ⟨a, b, c⟩ | c
  · exact Or.inl ⟨a, b, tornT_cong h1 h2 h (Or.inl rfl) hN c⟩
  · exact Or.inr (Or.inl ⟨a, b, tornT_cong h1 h2 h (Or.inr rfl) hN c⟩)
  · exact Or.inr (Or.inr c)
theorem rc_le {now : Int → Int} (hK : okK now) {p : Int} (hp : 0 ≤ p ∧ p < 10) : 0 ≤ now (40 + p) * now (50 + p) ∧ now (40 + p) * now (50 + p) ≤ 64 := by
  obtain ⟨k1, k2, k3, k4, k5, k6, k7, k8, k9, k10, k11, k12, -⟩ := hK p hp.1 hp.2
  have h1 : now (40 + p) * now (50 + p) ≤ 8 * 8 := Int.mul_le_mul (by omega) (by omega) (by omega) (by decide)
  have h2 : 0 ≤ now (40 + p) * now (50 + p) := Int.mul_nonneg (by omega) (by omega)
  omega
theorem hex_ok {now : Int → Int} (hok : mOK now) {p w mn n : Int} (hp : 0 ≤ p ∧ p < 10) (hw : wOf now p w) (hn : w * mn = n) (hn2 : n ≤ now (10 + p)) (hmn : 1 ≤ mn) (hmn2 : mn < 3) : ∃ x y : Int, valU now p (now (40 + p) * now (50 + p)) w mn x y := by
  have hsh : isShP now p := by unfold isShP; rcases hw with h | h; exact Or.inl h.1; exact Or.inr h.1
  have hC := hok.2.2.2.2.2.2.2.2.1
  exact hex_of (wOf_BP hw) (rc_le hok.1 hp) (wOf_N hok.1 hp hsh hw) (pairU_of hC hp hw) ⟨hmn, hmn2⟩ (by rw [hn, ← (hC p hp.1 hp.2 hsh).1]; exact hn2)
theorem ways_bd {now best : Int → Int} (hok : mOK now) (h : waysOK now best) {p s : Int} (hp : 0 ≤ p ∧ p ≤ 10) (hs : 0 ≤ s ∧ s < 3200) : 0 ≤ best (3200 * p + s) ∧ best (3200 * p + s) ≤ 1000000 := by
  have := waysOK_nnA hok h (10 - p).toNat s (by omega) hs.1 hs.2
  rw [show 3200 * (10 - ((10 - p).toNat : Int)) + s = 3200 * p + s by omega] at this
  exact this
theorem ch_ex {now best : Int → Int} (h : waysOK now best) {p lf : Int} (hp : 0 ≤ p ∧ p < 10) (hl : 0 ≤ lf ∧ lf < 3200) (hb : best (3200 * p + lf) < 1000000) : ∃ m : Int, 0 ≤ m ∧ m ≤ now (10 + p) ∧ chOK now best p lf m := by
  rcases (h.2 p hp.1 hp.2 lf hl.1 hl.2).2.2 with q | ⟨n, n0, n1, n2, n3, n4⟩
  · unfold FAR at q; omega
  · exact ⟨n, n0, by omega, n0, by omega, n2, n3, n4.symm⟩
def payOK (now : Int → Int) (l : Int) (best : Int → Int) (sum : Int) (nw : Int → Int) : Prop := ∃ (g cnt lft : Int → Int) (T : Int → Int → Prop), payUp now l best sum 10 g cnt lft T ∧ nw = upI (upI g (1347 + l) sum) (1467 + l) 1
def sPay (now : Int → Int) (l : Int) (r : sR) : Prop := (¬ (0 ≤ l ∧ l < now 1286) ∧ r = (-3, none)) ∨ ((0 ≤ l ∧ l < now 1286) ∧ now (1467 + l) = 1 ∧ r = (-4, none)) ∨ ((0 ≤ l ∧ l < now 1286) ∧ now (1467 + l) ≠ 1 ∧ ∃ (best : Int → Int) (sum : Int), waysOK now best ∧ isLeast best (now (1287 + l)) sum ∧ ((sum = -1 ∧ r = (-1, none)) ∨ (sum ≠ -1 ∧ ∃ nw : Int → Int, payOK now l best sum nw ∧ r = (sum, some nw))))
