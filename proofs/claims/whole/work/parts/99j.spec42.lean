/-! a letter is paid: the next state, however it was reached -/
def payS (now : Int → Int) (l sum : Int) (cf : Int → Int) (T : Int → Int → Prop) (nw : Int → Int) : Prop :=
  (∀ q : Int, 0 ≤ q → q < 10 → (0 ≤ cf q ∧ cf q ≤ now (10 + q)) ∧ mayF now q (cf q) ∧ giveT now q (cf q) (T q)) ∧
  (∀ q : Int, 0 ≤ q → q < 10 → nw (1527 + 10 * l + q) = cf q ∧ nw (10 + q) = now (10 + q) - cf q ∧ ∀ k : Int, 0 ≤ k → k < 64 → (T q k → nw (460 + 64 * q + k) = 0 ∧ tq nw l q k = 1) ∧ (¬ T q k → nw (460 + 64 * q + k) = now (460 + 64 * q + k) ∧ tq nw l q k = 0)) ∧
  nw (1407 + l) = sumI cf 10 ∧ (∀ f : Int, 0 ≤ f → f ≤ 500 → nw (3327 + f) = now (3327 + f) + sumI (fun q => goneF now q (cf q) f) 10) ∧ nw (1347 + l) = sum ∧ nw (1467 + l) = 1 ∧
  ∀ j : Int, (j < 10 ∨ (20 ≤ j ∧ j < 460) ∨ (1100 ≤ j ∧ j < 1527 + 10 * l ∧ j ≠ 1347 + l ∧ j ≠ 1407 + l ∧ j ≠ 1467 + l) ∨ (1537 + 10 * l ≤ j ∧ j < 2127 + 20 * l) ∨ (2147 + 20 * l ≤ j ∧ j < 3327) ∨ 3827 < j) → nw j = now j
section PAY
variable {now nw nw' : Int → Int} {l sum : Int} {cf : Int → Int} {T T' : Int → Int → Prop}
theorem payS_of {best : Int → Int} (hok : mOK now) (hl : 0 ≤ l ∧ l < now 1286) (h0 : now (1467 + l) = 0) (h : payOK now l best sum nw) : ∃ (cnt lft : Int → Int) (T : Int → Int → Prop), lft 0 = sum ∧ (∀ q : Int, 0 ≤ q → q < 10 → chTop now best q (lft q) (cnt q) ∧ lft (1 + q) = lft q - paysF now q (cnt q)) ∧ payS now l sum cnt T nw := by
  obtain ⟨g, cnt, lft, T, ⟨a1, a2, a3, a4, a5, a6, a7⟩, rfl⟩ := h
  have hN := hok.2.2.2.2.2.2.1
  have hl2 : l < 60 := by have := hN.2.1; omega
  have hup : ∀ j : Int, j ≠ 1347 + l → j ≠ 1467 + l → upI (upI g (1347 + l) sum) (1467 + l) 1 j = g j := fun j e1 e2 => by rw [upI_n e2, upI_n e1]
  have htq : ∀ q k : Int, 0 ≤ q → q < 10 → 0 ≤ k → k < 64 → tq (upI (upI g (1347 + l) sum) (1467 + l) 1) l q k = tq g l q k ∧ tq now l q k = 0 := fun q k q0 q1 k0 k1 => by
    have ht := hok.2.2.2.2.2.2.2.2.2.1 l q hl.1 hl.2 q0 q1 h0
    refine ⟨by unfold tq; rw [hup _ (by omega) (by omega)], ?_⟩
    unfold tq
    rcases (show k / 32 = 0 ∨ k / 32 = 1 by omega) with e | e <;> rw [e]
    · rw [show 2127 + 20 * l + 2 * q + 0 = 2127 + 20 * l + 2 * q by omega, ht.1]
      exact shb_0 _
    · rw [ht.2.1]
      exact shb_0 _
  refine ⟨cnt, lft, T, a1, fun q q0 q1 => ⟨(a2 q q0 q1).1, (a2 q q0 q1).2.1⟩, fun q q0 q1 => ?_, fun q q0 q1 => ?_, ?_, fun f f0 f1 => ?_, ?_, ?_, fun j hj => ?_⟩
  · obtain ⟨b1, b2, b3⟩ := a2 q q0 q1
    exact ⟨⟨b1.1.1, b1.1.2.1⟩, b1.1.2.2.1, b3⟩
  · obtain ⟨b1, b2, b3⟩ := a3 q q0 q1
    refine ⟨by rw [hup _ (by omega) (by omega)]; exact b1, by rw [hup _ (by omega) (by omega)]; exact b2, fun k k0 k1 => ?_⟩
    have hk := b3 k k0 k1
    have ht := htq q k q0 q1 k0 k1
    rw [ht.2] at hk
    rw [hup _ (by omega) (by omega), ht.1]
    exact hk
  · rw [hup _ (by omega) (by omega), a5, ((hN.2.2 l hl.1 hl.2).2.2.2.2.2.2.2.2.1 h0).2]
    show 0 + sumI cnt 10 = _
    omega
  · rw [hup _ (by omega) (by omega), a6 f f0 f1]
    rfl
  · rw [upI_n (by omega), upI_s]
  · rw [upI_s]
  · rw [hup _ (by omega) (by omega)]
    exact a7 j (by omega)
theorem goneF_le {p n f : Int} (hn : 0 ≤ n) : 0 ≤ goneF now p n f := (goneF_bd now p n f hn).1
/-- the ranges are kept -/
theorem payS_lA (hok : mOK now) (hl : 0 ≤ l ∧ l < now 1286) (h : payS now l sum cf T nw) : ∀ p : Int, 0 ≤ p → p < 10 → lA nw p := by
  intro p p0 p1
  obtain ⟨h1, h2, h3, h4, h5, h6, h7⟩ := h
  have hl2 : l < 60 := by have := hok.2.2.2.2.2.2.1.2.1; omega
  obtain ⟨kK, kS, kQ, kL, kC⟩ := hok.lA p0 p1
  have e0 : nw p = now p := h7 p (by omega)
  have e20 : nw (20 + p) = now (20 + p) := h7 _ (by omega)
  have e30 : nw (30 + p) = now (30 + p) := h7 _ (by omega)
  have e40 : nw (40 + p) = now (40 + p) := h7 _ (by omega)
  have e50 : nw (50 + p) = now (50 + p) := h7 _ (by omega)
  obtain ⟨c1, c2, c3⟩ := h1 p p0 p1
  obtain ⟨d1, d2, d3⟩ := h2 p p0 p1
  have hsq : ∀ k : Int, 0 ≤ k → k < 64 → nw (460 + 64 * p + k) = 0 ∨ nw (460 + 64 * p + k) = now (460 + 64 * p + k) := fun k k0 k1 => by
    rcases Classical.em (T p k) with q | q
    · exact Or.inl ((d3 k k0 k1).1 q).1
    · exact Or.inr ((d3 k k0 k1).2 q).1
  refine ⟨?_, fun a a0 a1 => ?_, fun x x0 x1 => ?_, fun x x0 x1 => ?_, fun ht => ?_⟩
  · unfold lK
    rw [e0, e20, e30, e40, e50, d2]
    obtain ⟨k1, k2, k3, k4, k5, k6, k7, k8, k9, k10, k11, k12, k13, k14, k15, k16, k17⟩ := kK
    exact ⟨k1, k2, by omega, by omega, k5, k6, k7, k8, k9, k10, k11, k12, fun z => by have := k13 z; omega, k14, k15, fun z => by have := k16 z; omega, k17⟩
  · rw [h7 _ (by omega), e0, d2]
    have := kS a a0 a1
    exact ⟨this.1, this.2.1, fun z z2 => this.2.2 z (by omega)⟩
  · rw [e0, e20]
    have := kQ x x0 x1
    rcases hsq x x0 x1 with q | q
    · rw [q]; exact ⟨by decide, by decide, fun _ => Or.inl rfl⟩
    · rw [q]; exact this
  · rw [h7 _ (by omega)]
    exact kL x x0 x1
  · rw [e0] at ht ⊢
    obtain ⟨f1, f2, f3, f4⟩ := kC ht
    have hrc := rc_le hok.1 ⟨p0, p1⟩
    obtain ⟨t1, t2, t3⟩ := giveT_R hok ⟨p0, p1⟩ ht c1 c2 c3
    rw [e40, e50, d2]
    refine ⟨?_, fun x x0 x1 => ?_, fun h3' x x0 x1 => ?_, fun r x r0 r1 x0 x1 hm => ?_⟩
    · have hs : sumI (fun k => if now (460 + 64 * p + k) = 0 then (0 : Int) else 1) (now (40 + p) * now (50 + p)).toNat = sumI (fun k => (if nw (460 + 64 * p + k) = 0 then (0 : Int) else 1) + cInd (T p k)) (now (40 + p) * now (50 + p)).toNat := sumI_cong (fun k k0 k1 => by
        rcases Classical.em (T p k) with q | q
        · rw [cInd_t q, ((d3 k k0 (by omega)).1 q).1, if_neg (t1 k k0 (by omega) q).2, if_pos rfl]
          rfl
        · rw [cInd_f q, ((d3 k k0 (by omega)).2 q).1]
          omega)
      rw [f1, hs, sumI_add, t3]
      omega
    · rcases hsq x (by omega) x1 with q | q
      · exact q
      · rw [q]; exact f2 x x0 x1
    · have hpr := f3 h3' x x0 x1
      have u1 := t2 (2 * x) (by omega) (by omega)
      have u2 := t2 (2 * x + 1) (by omega) (by omega)
      rw [h3', show (2 * x + 1 - (2 * x + 1) % (3 - 1)) = 2 * x by omega] at u2
      rcases Classical.em (T p (2 * x)) with q | q
      · rw [((d3 (2 * x) (by omega) (by omega)).1 q).1, ((d3 (2 * x + 1) (by omega) (by omega)).1 (u2.mpr q)).1]
      · rw [((d3 (2 * x) (by omega) (by omega)).2 q).1, ((d3 (2 * x + 1) (by omega) (by omega)).2 (fun z => q (u2.mp z))).1]
        exact hpr
    · have hcr := crl_bd r0 r1 kK.2.2.2.2.2.2.2.2.2.1 ⟨kK.2.2.2.2.2.2.2.2.2.2.1, kK.2.2.2.2.2.2.2.2.2.2.2.1⟩ ⟨x0, x1⟩
      have := kK.2.2.2.2.2.2.2.2.2.1
      rw [h7 _ (by omega)] at hm
      rcases hsq _ hcr.1 hcr.2.1 with q | q
      · exact q
      · rw [q]; exact f4 r x r0 r1 x0 x1 hm
theorem payS_mOK (hok : mOK now) (hl : 0 ≤ l ∧ l < now 1286) (hs : 0 ≤ sum ∧ sum ≤ 3200) (h : payS now l sum cf T nw) : mOK nw := by
  have hlA := payS_lA hok hl h
  obtain ⟨h1, h2, h3, h4, h5, h6, h7⟩ := h
  have hN := hok.2.2.2.2.2.2.1
  have hn60 := hN.2.1
  have hl2 : l < 60 := by omega
  have e86 : nw 1286 = now 1286 := h7 _ (by omega)
  refine mOK_of hlA (okW_eq (fun j j0 j1 => h7 j (by omega)) hok.2.2.2.2.1) (okE_eq (fun j j0 j1 => h7 j (by omega)) hok.2.2.2.2.2.1) ?_ (fun f f0 f1 => ?_) (fun m p m0 m1 p0 p1 e => ?_) (okZ_eq (fun j hj => h7 j (by omega)) hok.2.2.2.2.2.2.2.2.2.2)
  · unfold okN
    rw [e86]
    refine ⟨hN.1, hN.2.1, fun m m0 m1 => ?_⟩
    obtain ⟨b1, b2, b3, b4, b5, b6, b7, b8, b9, b10⟩ := hN.2.2 m m0 m1
    by_cases q : m = l
    · subst q
      rw [h7 (1287 + m) (by omega), h5, h3, h6]
      have hb := sumI_bd (f := cf) (a := 0) (b := 64) (n := 10) (fun k k0 k1 => by
        have := (h1 k k0 (by omega)).1
        have := (hok.1 k k0 (by omega)).2.2.2.1
        omega)
      refine ⟨b1, b2, hs.1, hs.2, by omega, by omega, by decide, by decide, fun z => by omega, fun p p0 p1 => ?_⟩
      rw [(h2 p p0 p1).1]
      have := (h1 p p0 p1).1
      have := (hok.1 p p0 p1).2.2.2.1
      omega
    · rw [h7 (1287 + m) (by omega), h7 (1347 + m) (by omega), h7 (1407 + m) (by omega), h7 (1467 + m) (by omega)]
      refine ⟨b1, b2, b3, b4, b5, b6, b7, b8, b9, fun p p0 p1 => ?_⟩
      rw [h7 (1527 + 10 * m + p) (by omega)]
      exact b10 p p0 p1
  · rw [h4 f (by omega) f1]
    have := hok.2.2.2.2.2.2.2.1 f f0 f1
    have hb := sumI_bd (f := fun q => goneF now q (cf q) f) (a := 0) (b := 64) (n := 10) (fun k k0 k1 => by
      have h8 := (h1 k k0 (by omega)).1
      have := (hok.1 k k0 (by omega)).2.2.2.1
      have := goneF_bd now k (cf k) f h8.1
      show 0 ≤ goneF now k (cf k) f ∧ goneF now k (cf k) f ≤ 64
      omega)
    omega
  · rw [e86] at m1
    by_cases q : m = l
    · subst q
      rw [h6] at e
      cases e
    · rw [h7 (1467 + m) (by omega)] at e
      have := hok.2.2.2.2.2.2.2.2.2.1 m p m0 m1 p0 p1 e
      rw [h7 _ (by omega), h7 _ (by omega), h7 _ (by omega)]
      exact this
theorem pay_mOK {z : Int} (hok : mOK now) (h : sPay now l (z, some nw)) : mOK nw := by
  rcases h with ⟨-, h⟩ | ⟨-, -, h⟩ | ⟨hl, h0, best, sum, hw, hle, ⟨-, h⟩ | ⟨hs, nw2, hp, h⟩⟩
  · cases h
  · cases h
  · cases h
  · cases h
    have hN := hok.2.2.2.2.2.2.1.2.2 l hl.1 hl.2
    obtain ⟨cnt, lft, T, -, -, hS⟩ := payS_of hok hl (by omega) hp
    refine payS_mOK hok hl ?_ hS
    rcases hle with ⟨a, b, -⟩ | ⟨a, -⟩
    · omega
    · exact absurd a hs
end PAY
