/-! giving stamps of a place -/
def faceK (now : Int → Int) (p k : Int) : Int := if now p = 1 then now (60 + 40 * p + (now (10 + p) - (1 + k))) else now (20 + p)
def goneF (now : Int → Int) (p n f : Int) : Int := sumI (fun k => if faceK now p k = f then 1 else 0) n.toNat
theorem valU_cong {now f : Int → Int} {p N w mn : Int} (h : ∀ k : Int, 0 ≤ k → k < 64 → f (460 + 64 * p + k) = now (460 + 64 * p + k)) (hN : N ≤ 64) : valU f p N w mn = valU now p N w mn := by
  funext x y
  unfold valU
  apply propext
  constructor <;> rintro ⟨a, b, c, d, e, g, i, j, k⟩
  · rw [h x a (by omega)] at i; rw [h y d (by omega)] at j; exact ⟨a, b, c, d, e, g, i, j, k⟩
  · rw [← h x a (by omega)] at i; rw [← h y d (by omega)] at j; exact ⟨a, b, c, d, e, g, i, j, k⟩
theorem cst_cong {now f : Int → Int} {p w : Int} (h1 : f (40 + p) = now (40 + p)) (h2 : f (50 + p) = now (50 + p)) (h : ∀ k : Int, 0 ≤ k → k < 64 → f (460 + 64 * p + k) = now (460 + 64 * p + k)) (hN : now (40 + p) * now (50 + p) ≤ 64) : cst f p w = cst now p w := by
  funext x y
  unfold cst
  rw [h1, h2]
  exact npc_congr (fun k k0 k1 => by unfold remP; rw [h k k0 (by omega)])
theorem cntU_cong {now f : Int → Int} {p N w x : Int} (h : ∀ k : Int, 0 ≤ k → k < 64 → f (460 + 64 * p + k) = now (460 + 64 * p + k)) (hx : 0 ≤ x) (hN : N ≤ 64) : cntU f p N w x = cntU now p N w x := by
  unfold cntU
  exact sumI_cong (fun k k0 k1 => by rw [h (x + k) (by omega) (by omega)])
theorem tornT_cong {now f : Int → Int} {p w mn : Int} {T : Int → Prop} (h1 : f (40 + p) = now (40 + p)) (h2 : f (50 + p) = now (50 + p)) (h : ∀ k : Int, 0 ≤ k → k < 64 → f (460 + 64 * p + k) = now (460 + 64 * p + k)) (hw : wBP w) (hN : now (40 + p) * now (50 + p) ≤ 64) (hT : tornT f p w mn T) : tornT now p w mn T := by
  unfold tornT at hT ⊢
  rw [h1, h2, valU_cong h hN, cst_cong h1 h2 h hN] at hT
  refine hT.imp (fun z => z) (fun z => ⟨z.1, fun s s0 s1 => ?_⟩)
  have := z.2 s s0 s1
  have hx : 0 ≤ s - s % w + w := by rcases hw with e | e <;> subst e <;> omega
  rw [h s s0 s1, cntU_cong h hx hN] at this
  exact this
theorem okK_cong {now f : Int → Int} (h : ∀ j : Int, j < 1100 → f j = now j) (hk : okK now) : okK f := fun p h0 h1 => by
  have := hk p h0 h1
  rw [h p (by omega), h (10 + p) (by omega), h (20 + p) (by omega), h (30 + p) (by omega), h (40 + p) (by omega), h (50 + p) (by omega)]
  exact this
theorem okQ_cong {now f : Int → Int} (h : ∀ j : Int, j < 1100 → f j = now j) (hk : okQ now) : okQ f := fun p k h0 h1 h2 h3 => by
  have := hk p k h0 h1 h2 h3
  rw [h p (by omega), h (20 + p) (by omega), h (460 + 64 * p + k) (by omega)]
  exact this
theorem pairU_cong {now f : Int → Int} {p w : Int} (h : ∀ k : Int, 0 ≤ k → k < 64 → f (460 + 64 * p + k) = now (460 + 64 * p + k)) (hw : wBP w) (hk : pairU now p w) : pairU f p w := fun s s0 s1 => by
  have hm : s - s % w ≤ s ∧ 0 ≤ s - s % w := by rcases hw with e | e <;> subst e <;> omega
  rw [h s s0 s1, h (s - s % w) (by omega) (by omega)]
  exact hk s s0 s1
/-- what giving n stamps of place p to letter l changes; T: the squares torn off -/
def giveOK (now nw : Int → Int) (l p n : Int) (T : Int → Prop) : Prop := nw (1527 + 10 * l + p) = n ∧ nw (1407 + l) = now (1407 + l) + n ∧ nw (10 + p) = now (10 + p) - n ∧ (∀ f : Int, 0 ≤ f → f ≤ 500 → nw (3327 + f) = now (3327 + f) + goneF now p n f) ∧ (∀ k : Int, 0 ≤ k → k < 64 → (T k → nw (460 + 64 * p + k) = 0 ∧ tq nw l p k = 1) ∧ (¬ T k → nw (460 + 64 * p + k) = now (460 + 64 * p + k) ∧ tq nw l p k = tq now l p k)) ∧ (∀ j : Int, j ≠ 1527 + 10 * l + p → j ≠ 1407 + l → j ≠ 10 + p → (j < 3327 ∨ 3827 < j) → (j < 460 + 64 * p ∨ 524 + 64 * p ≤ j) → j ≠ 2127 + 20 * l + 2 * p → j ≠ 2127 + 20 * l + 2 * p + 1 → nw j = now j)
def giveT (now : Int → Int) (p n : Int) (T : Int → Prop) : Prop := (0 < n ∧ now p = 2 ∧ tornT now p 1 n T) ∨ (0 < n ∧ now p = 3 ∧ tornT now p 2 (n / 2) T) ∨ (¬ (0 < n ∧ (now p = 2 ∨ now p = 3)) ∧ ∀ k : Int, 0 ≤ k → k < 64 → ¬ T k)
theorem faceK_bd {now : Int → Int} (hK : okK now) (hS : okS now) {p k : Int} (h0 : 0 ≤ p) (h1 : p < 10) (k0 : 0 ≤ k) (k1 : k < now (10 + p)) : 0 ≤ faceK now p k ∧ faceK now p k ≤ 500 := by
  have hk := hK p h0 h1
  unfold faceK
  by_cases e : now p = 1
  · rw [if_pos e]
    have := hS p (now (10 + p) - (1 + k)) h0 h1 (by omega) (by omega)
    omega
  · rw [if_neg e]; omega
theorem giveOK_mk {now f g nw nw2 : Int → Int} {l p n : Int} {T : Int → Prop} (hl : 0 ≤ l ∧ l < 60) (hp : 0 ≤ p ∧ p < 10) (hf : f = upI (upI now (1527 + 10 * l + p) n) (1407 + l) (now (1407 + l) + n)) (h1 : ∀ j : Int, (j < 3327 ∨ 3827 < j) → g j = f j) (h2 : ∀ x : Int, 0 ≤ x → x ≤ 500 → g (3327 + x) = now (3327 + x) + goneF now p n x) (h3 : tornAll g nw l p T) (h4 : nw2 = upI nw (10 + p) (now (10 + p) - n)) : giveOK now nw2 l p n T := by
  obtain ⟨a, b⟩ := h3
  have hb : ∀ j : Int, (j < 460 + 64 * p ∨ 524 + 64 * p ≤ j) → j ≠ 2127 + 20 * l + 2 * p → j ≠ 2127 + 20 * l + 2 * p + 1 → j ≠ 10 + p → nw2 j = g j := fun j j0 j1 j2 j3 => by rw [h4, upI_n j3]; exact b j j0 j1 j2
  have hg : ∀ j : Int, (j < 3327 ∨ 3827 < j) → j ≠ 1527 + 10 * l + p → j ≠ 1407 + l → g j = now j := fun j j0 j1 j2 => by rw [h1 j j0, hf, upI_n j2, upI_n j1]
  have htq : ∀ k : Int, 0 ≤ k → k < 64 → tq nw2 l p k = tq nw l p k ∧ tq g l p k = tq now l p k := fun k k0 k1 => by
    unfold tq
    rw [h4, upI_n (by omega), hg _ (by omega) (by omega) (by omega)]
    exact ⟨rfl, rfl⟩
  refine ⟨?_, ?_, ?_, fun x x0 x1 => ?_, fun k k0 k1 => ?_, fun j j1 j2 j3 j4 j5 j6 j7 => ?_⟩
  · rw [hb _ (by omega) (by omega) (by omega) (by omega), h1 _ (by omega), hf, upI_n (by omega), upI_s]
  · rw [hb _ (by omega) (by omega) (by omega) (by omega), h1 _ (by omega), hf, upI_s]
  · rw [h4, upI_s]
  · rw [hb _ (by omega) (by omega) (by omega) (by omega), h2 x x0 x1]
  · have hk := a k k0 k1
    have hq := htq k k0 k1
    rw [hq.1, h4, upI_n (by omega)]
    refine ⟨hk.1, fun q => ?_⟩
    have := hk.2 q
    rw [this.1, this.2, hq.2, hg _ (by omega) (by omega) (by omega)]
    exact ⟨rfl, rfl⟩
  · rw [hb j j5 j6 j7 j3, hg j j4 j1 j2]
