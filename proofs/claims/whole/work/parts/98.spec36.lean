/-! the acts keep the ranges -/
def lK (now : Int → Int) (p : Int) : Prop := -1 ≤ now p ∧ now p ≤ 4 ∧ 0 ≤ now (10 + p) ∧ now (10 + p) ≤ 64 ∧ 0 ≤ now (20 + p) ∧ now (20 + p) ≤ 500 ∧ 0 ≤ now (30 + p) ∧ now (30 + p) ≤ 500 ∧ 0 ≤ now (40 + p) ∧ now (40 + p) ≤ 8 ∧ 0 ≤ now (50 + p) ∧ now (50 + p) ≤ 8 ∧ (now p = 1 → now (10 + p) ≤ 40) ∧ (now p = 2 ∨ now p = 3 → 1 ≤ now (40 + p) ∧ 1 ≤ now (50 + p) ∧ 1 ≤ now (20 + p)) ∧ (now p = 3 → now (50 + p) % 2 = 0) ∧ (now p = -1 → now (10 + p) = 0) ∧ (now p = 0 ∨ now p = 4 → 1 ≤ now (20 + p))
def lS (now : Int → Int) (p : Int) : Prop := ∀ a : Int, 0 ≤ a → a < 40 → 0 ≤ now (60 + 40 * p + a) ∧ now (60 + 40 * p + a) ≤ 500 ∧ (now p = 1 → a < now (10 + p) → 1 ≤ now (60 + 40 * p + a))
def lQ (now : Int → Int) (p : Int) : Prop := ∀ k : Int, 0 ≤ k → k < 64 → 0 ≤ now (460 + 64 * p + k) ∧ now (460 + 64 * p + k) ≤ 500 ∧ (now p = 2 ∨ now p = 3 → now (460 + 64 * p + k) = 0 ∨ now (460 + 64 * p + k) = now (20 + p))
def lL (now : Int → Int) (p : Int) : Prop := ∀ r : Int, 0 ≤ r → r < 8 → 0 ≤ now (1100 + 8 * p + r) ∧ now (1100 + 8 * p + r) ≤ 1
def lC (now : Int → Int) (p : Int) : Prop := now p = 2 ∨ now p = 3 → now (10 + p) = sumI (fun k => if now (460 + 64 * p + k) = 0 then 0 else 1) (now (40 + p) * now (50 + p)).toNat ∧ (∀ k : Int, now (40 + p) * now (50 + p) ≤ k → k < 64 → now (460 + 64 * p + k) = 0) ∧ (now p = 3 → ∀ k : Int, 0 ≤ k → k < 32 → now (460 + 64 * p + 2 * k) = now (460 + 64 * p + (2 * k + 1))) ∧ ∀ r k : Int, 0 ≤ r → r < now (40 + p) → 0 ≤ k → k < now (50 + p) → now (1100 + 8 * p + r) = 1 → now (460 + 64 * p + (now (50 + p) * r + k)) = 0
def lA (now : Int → Int) (p : Int) : Prop := lK now p ∧ lS now p ∧ lQ now p ∧ lL now p ∧ lC now p
section LA
variable {now nw : Int → Int} {p q : Int}
theorem rcl_bd {r c : Int} (hr : 0 ≤ r ∧ r ≤ 8) (hc : 0 ≤ c ∧ c ≤ 8) : 0 ≤ r * c ∧ r * c ≤ 64 := by
  have h1 : 0 ≤ r * c := Int.mul_nonneg hr.1 hc.1
  have h2 : r * c ≤ 8 * c := Int.mul_le_mul_of_nonneg_right hr.2 hc.1
  omega
theorem crl_bd {r c k R : Int} (h0 : 0 ≤ r) (h1 : r < R) (hR : R ≤ 8) (hc : 0 ≤ c ∧ c ≤ 8) (hk : 0 ≤ k ∧ k < c) : 0 ≤ c * r + k ∧ c * r + k < 64 ∧ 0 ≤ c * r ∧ c * r + c ≤ R * c := by
  have e : c * r + c = (r + 1) * c := by rw [Int.add_mul, Int.mul_comm]; omega
  have h2 : (r + 1) * c ≤ R * c := Int.mul_le_mul_of_nonneg_right (by omega) hc.1
  have h3 : 0 ≤ c * r := Int.mul_nonneg hc.1 h0
  have h4 : R * c ≤ 8 * c := Int.mul_le_mul_of_nonneg_right hR hc.1
  omega
theorem lA_ag (h : agP now nw q) (k : lA now q) : lA nw q := by
  obtain ⟨a, b, c, d, e, f, hs, hq, hl⟩ := h
  obtain ⟨kK, kS, kQ, kL, kC⟩ := k
  refine ⟨?_, fun x x0 x1 => ?_, fun x x0 x1 => ?_, fun x x0 x1 => ?_, fun ht => ?_⟩
  · unfold lK
    rw [a, b, c, d, e, f]
    exact kK
  · rw [hs x x0 x1, a, b]
    exact kS x x0 x1
  · rw [hq x x0 x1, a, c]
    exact kQ x x0 x1
  · rw [hl x x0 x1]
    exact kL x x0 x1
  · rw [a] at ht ⊢
    obtain ⟨c1, c2, c3, c4⟩ := kC ht
    have hb := rcl_bd (r := now (40 + q)) (c := now (50 + q)) ⟨kK.2.2.2.2.2.2.2.2.1, kK.2.2.2.2.2.2.2.2.2.1⟩ ⟨kK.2.2.2.2.2.2.2.2.2.2.1, kK.2.2.2.2.2.2.2.2.2.2.2.1⟩
    rw [b, e, f]
    refine ⟨?_, fun x x0 x1 => ?_, fun h3 x x0 x1 => ?_, fun r x r0 r1 x0 x1 h1 => ?_⟩
    · rw [c1]
      exact sumI_cong (fun x x0 x1 => by rw [hq x x0 (by omega)])
    · rw [hq x (by omega) x1]
      exact c2 x x0 x1
    · rw [show 460 + 64 * q + 2 * x = 460 + 64 * q + (2 * x) from rfl, hq (2 * x) (by omega) (by omega), hq (2 * x + 1) (by omega) (by omega)]
      exact c3 h3 x x0 x1
    · have hcr := crl_bd r0 r1 kK.2.2.2.2.2.2.2.2.2.1 ⟨kK.2.2.2.2.2.2.2.2.2.2.1, kK.2.2.2.2.2.2.2.2.2.2.2.1⟩ ⟨x0, x1⟩
      rw [hl r r0 (by have := kK.2.2.2.2.2.2.2.2.2.1; omega)] at h1
      rw [hq _ hcr.1 hcr.2.1]
      exact c4 r x r0 r1 x0 x1 h1
theorem mOK.lA (hok : mOK now) (h0 : 0 ≤ p) (h1 : p < 10) : lA now p := ⟨hok.1 p h0 h1, fun a => hok.2.1 p a h0 h1, fun k => hok.2.2.1 p k h0 h1, fun r => hok.2.2.2.1 p r h0 h1, hok.2.2.2.2.2.2.2.2.1 p h0 h1⟩
/-- what lies behind the places -/
def bhP (now nw : Int → Int) : Prop := ∀ j : Int, j < 0 ∨ 1180 ≤ j → nw j = now j
theorem onlyP.bh (h : onlyP now nw p) (hp : 0 ≤ p ∧ p < 10) : bhP now nw := by
  intro j hj
  apply h <;> omega
theorem okW_bh (h : bhP now nw) (k : okW now) : okW nw := by
  intro w w0 w1
  rw [h _ (by omega)]
  have k1 := k w w0 w1
  refine ⟨k1.1, k1.2.1, fun x x0 x1 => ?_⟩
  rw [h _ (by omega), h _ (by omega)]
  exact k1.2.2 x x0 x1
theorem okE_bh (h : bhP now nw) (k : okE now) : okE nw := by
  intro x x0 x1
  rw [h _ (by omega)]
  exact k x x0 x1
theorem okN_bh (h : bhP now nw) (k : okN now) : okN nw := by
  unfold okN
  rw [h _ (by omega)]
  refine ⟨k.1, k.2.1, fun n n0 n1 => ?_⟩
  rw [h _ (by omega), h _ (by omega), h _ (by omega), h _ (by omega)]
  obtain ⟨a, b, c, d, e, f, g, i, j, l⟩ := k.2.2 n n0 n1
  refine ⟨a, b, c, d, e, f, g, i, j, fun p p0 p1 => ?_⟩
  rw [h _ (by omega)]
  exact l p p0 p1
theorem okG_bh (h : bhP now nw) (k : okG now) : okG nw := by
  intro x x0 x1
  rw [h _ (by omega)]
  exact k x x0 x1
theorem okT_bh (h : bhP now nw) (k : okT now) : okT nw := by
  intro l p l0 l1 p0 p1 e
  rw [h _ (by omega)] at l1
  rw [h _ (by omega)] at e
  rw [h _ (by omega), h _ (by omega), h _ (by omega)]
  exact k l p l0 l1 p0 p1 e
theorem okZ_bh (h : bhP now nw) (k : okZ now) : okZ nw := by
  intro j hj
  rw [h _ (by omega)]
  exact k j hj
theorem mOK_of (h : ∀ p : Int, 0 ≤ p → p < 10 → lA nw p) (hW : okW nw) (hE : okE nw) (hN : okN nw) (hG : okG nw) (hT : okT nw) (hZ : okZ nw) : mOK nw := ⟨fun p h0 h1 => (h p h0 h1).1, fun p a h0 h1 => (h p h0 h1).2.1 a, fun p k h0 h1 => (h p h0 h1).2.2.1 k, fun p r h0 h1 => (h p h0 h1).2.2.2.1 r, hW, hE, hN, hG, fun p h0 h1 => (h p h0 h1).2.2.2.2, hT, hZ⟩
theorem mOK_only (hok : mOK now) (hp : 0 ≤ p ∧ p < 10) (h : onlyP now nw p) (hl : lA nw p) : mOK nw := by
  have hb := h.bh hp
  refine mOK_of (fun q q0 q1 => ?_) (okW_bh hb hok.2.2.2.2.1) (okE_bh hb hok.2.2.2.2.2.1) (okN_bh hb hok.2.2.2.2.2.2.1) (okG_bh hb hok.2.2.2.2.2.2.2.1) (okT_bh hb hok.2.2.2.2.2.2.2.2.2.1) (okZ_bh hb hok.2.2.2.2.2.2.2.2.2.2)
  by_cases e : q = p
  · rw [e]; exact hl
  · exact lA_ag (h.ag hp q q0 q1 e) (hok.lA q0 q1)
theorem hold_40 {k f o n : Int} : holdF now p k f o n (40 + p) = 0 := by unfold holdF; rw [if_neg (by omega), if_neg (by omega), if_neg (by omega), if_neg (by omega), if_pos (Or.inl rfl)]
theorem hold_50 {k f o n : Int} : holdF now p k f o n (50 + p) = 0 := by unfold holdF; rw [if_neg (by omega), if_neg (by omega), if_neg (by omega), if_neg (by omega), if_pos (Or.inr rfl)]
theorem hold_S {k f o n a : Int} (hp : 0 ≤ p ∧ p < 10) (a0 : 0 ≤ a) (a1 : a < 40) : holdF now p k f o n (60 + 40 * p + a) = now (60 + 40 * p + a) := by unfold holdF; rw [if_neg (by omega), if_neg (by omega), if_neg (by omega), if_neg (by omega), if_neg (by omega), if_neg (by omega), if_neg (by omega)]
theorem hold_Q {k f o n x : Int} (hp : 0 ≤ p ∧ p < 10) (a0 : 0 ≤ x) (a1 : x < 64) : holdF now p k f o n (460 + 64 * p + x) = 0 := by unfold holdF; rw [if_neg (by omega), if_neg (by omega), if_neg (by omega), if_neg (by omega), if_neg (by omega), if_neg (by omega), if_pos (by omega)]
theorem hold_L {k f o n x : Int} (hp : 0 ≤ p ∧ p < 10) (a0 : 0 ≤ x) (a1 : x < 8) : holdF now p k f o n (1100 + 8 * p + x) = 0 := by unfold holdF; rw [if_neg (by omega), if_neg (by omega), if_neg (by omega), if_neg (by omega), if_neg (by omega), if_pos (by omega)]
theorem mOK_hold {k f o n : Int} (hok : mOK now) (hp : 0 ≤ p ∧ p < 10) (hk : k = 0 ∨ k = 4) (hf : 1 ≤ f ∧ f ≤ 500) (ho : 0 ≤ o ∧ o ≤ 500) (hn : 0 ≤ n ∧ n ≤ 64) : mOK (holdF now p k f o n) := by
  refine mOK_only hok hp only_hold ⟨?_, fun a a0 a1 => ?_, fun x x0 x1 => ?_, fun x x0 x1 => ?_, fun h => ?_⟩
  · unfold lK
    rw [hold_0, hold_10, hold_20, hold_30, hold_40, hold_50]
    omega
  · rw [hold_S hp a0 a1, hold_0]
    have := hok.2.1 p a hp.1 hp.2 a0 a1
    exact ⟨this.1, this.2.1, fun q => by omega⟩
  · rw [hold_Q hp x0 x1]
    exact ⟨by decide, by decide, fun _ => Or.inl rfl⟩
  · rw [hold_L hp x0 x1]
    exact ⟨by decide, by decide⟩
  · rw [hold_0] at h
    exfalso
    omega
theorem mOK_strip {reel : Int → Int} {rd : Int} (hok : mOK now) (hp : 0 ≤ p ∧ p < 10) (hrd : 0 ≤ rd ∧ rd ≤ 40) (hr : ∀ k : Int, 0 ≤ k → k < rd → 1 ≤ reel k ∧ reel k ≤ 500) : mOK (stripF now reel p rd) := by
  have hne : ∀ j : Int, ¬ (60 + 40 * p ≤ j ∧ j < 60 + 40 * p + rd) → stripF now reel p rd j = holdF now p 1 0 0 rd j := fun j hj => by unfold stripF; rw [if_neg hj]
  refine mOK_only hok hp (only_strip hrd.2) ⟨?_, fun a a0 a1 => ?_, fun x x0 x1 => ?_, fun x x0 x1 => ?_, fun h => ?_⟩
  · unfold lK
    rw [hne _ (by omega), hne _ (by omega), hne _ (by omega), hne _ (by omega), hne _ (by omega), hne _ (by omega), hold_0, hold_10, hold_20, hold_30, hold_40, hold_50]
    omega
  · rw [hne p (by omega), hne (10 + p) (by omega), hold_0, hold_10]
    by_cases e : a < rd
    · have e2 : stripF now reel p rd (60 + 40 * p + a) = reel a := by
        unfold stripF
        rw [if_pos (by omega), show 60 + 40 * p + a - (60 + 40 * p) = a by omega]
      rw [e2]
      have := hr a a0 e
      exact ⟨by omega, by omega, fun _ _ => by omega⟩
    · rw [hne _ (by omega), hold_S hp a0 a1]
      have := hok.2.1 p a hp.1 hp.2 a0 a1
      exact ⟨this.1, this.2.1, fun _ q => absurd q e⟩
  · rw [hne _ (by omega), hold_Q hp x0 x1]
    exact ⟨by decide, by decide, fun _ => Or.inl rfl⟩
  · rw [hne _ (by omega), hold_L hp x0 x1]
    exact ⟨by decide, by decide⟩
  · rw [hne _ (by omega), hold_0] at h
    exfalso
    omega
theorem clear_n {j : Int} (h : j ≠ p) (h2 : j ≠ 10 + p) : clearF now p j = now j := by unfold clearF; rw [if_neg h, if_neg h2]
theorem clear_10 : clearF now p (10 + p) = 0 := by unfold clearF; rw [if_neg (by omega), if_pos rfl]
theorem mOK_clear (hok : mOK now) (hp : 0 ≤ p ∧ p < 10) : mOK (clearF now p) := by
  refine mOK_only hok hp only_clear ⟨?_, fun a a0 a1 => ?_, fun x x0 x1 => ?_, fun x x0 x1 => ?_, fun h => ?_⟩
  · have hk := hok.1 p hp.1 hp.2
    unfold lK
    rw [clear_0, clear_10, clear_n (by omega) (by omega), clear_n (by omega) (by omega), clear_n (by omega) (by omega), clear_n (by omega) (by omega)]
    omega
  · rw [clear_n (by omega) (by omega), clear_0]
    have := hok.2.1 p a hp.1 hp.2 a0 a1
    exact ⟨this.1, this.2.1, fun q => by omega⟩
  · rw [clear_n (by omega) (by omega), clear_0]
    have := hok.2.2.1 p x hp.1 hp.2 x0 x1
    exact ⟨this.1, this.2.1, fun q => by omega⟩
  · rw [clear_n (by omega) (by omega)]
    exact hok.2.2.2.1 p x hp.1 hp.2 x0 x1
  · rw [clear_0] at h
    exfalso
    omega
end LA
