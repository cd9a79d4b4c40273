/-! a row that goes
-/
section LACK
variable {now : Int → Int} {p r : Int}
theorem ms_orM {m r k : Int} (hm : 0 ≤ m ∧ m < 256) (hr : 0 ≤ r ∧ r < 8) (hk : 0 ≤ k ∧ k < 8) : (0 ≤ orM m r ∧ orM m r < 256) ∧ (orM m r / (2 : Int) ^ k.toNat % 2 = 1 ↔ m / (2 : Int) ^ k.toNat % 2 = 1 ∨ k = r) := by
  obtain ⟨a, rfl⟩ := Int.eq_ofNat_of_zero_le hm.1
  obtain ⟨b, rfl⟩ := Int.eq_ofNat_of_zero_le hr.1
  obtain ⟨c, rfl⟩ := Int.eq_ofNat_of_zero_le hk.1
  have h := or_bits ⟨a, by omega⟩ ⟨b, by omega⟩ ⟨c, by omega⟩
  refine ⟨h.1, ?_⟩
  have h2 := h.2
  simp only at h2
  rw [Int.toNat_natCast, h2, pw_nat a c]
  omega
/-- what stands where, behind lack -/
theorem lack_lo {j : Int} (hp : 0 ≤ p ∧ p < 10) (h : j < 460) (hc : 0 ≤ now (50 + p) * r) (hj : j ≠ 10 + p) (hr : 0 ≤ r) : lackF now p r j = now j := by
  unfold lackF
  generalize now (50 + p) * r = X at hc ⊢
  rw [if_neg (by omega), if_neg (by omega), if_neg hj]
theorem lack_10 (hp : 0 ≤ p ∧ p < 10) (hc : 0 ≤ now (50 + p) * r) (hr : 0 ≤ r) : lackF now p r (10 + p) = now (10 + p) - cntP now (460 + 64 * p + now (50 + p) * r) (now (50 + p)).toNat := by
  unfold lackF
  generalize now (50 + p) * r = X at hc ⊢
  rw [if_neg (by omega), if_neg (by omega), if_pos rfl]
theorem lack_Q {k : Int} (hp : 0 ≤ p ∧ p < 10) (k0 : 0 ≤ k) (k1 : k < 64) (hr : 0 ≤ r ∧ r < 8) : lackF now p r (460 + 64 * p + k) = if now (50 + p) * r ≤ k ∧ k < now (50 + p) * r + now (50 + p) then 0 else now (460 + 64 * p + k) := by
  unfold lackF
  generalize now (50 + p) * r = X
  rw [if_neg (by omega)]
  by_cases e : X ≤ k ∧ k < X + now (50 + p)
  · rw [if_pos e, if_pos (by omega)]
  · rw [if_neg e, if_neg (by omega), if_neg (by omega)]
theorem lack_L {k : Int} (hp : 0 ≤ p ∧ p < 10) (k0 : 0 ≤ k) (k1 : k < 8) (hr : 0 ≤ r ∧ r < 8) (hc : 0 ≤ now (50 + p) * r ∧ now (50 + p) * r + now (50 + p) ≤ 64) : lackF now p r (1100 + 8 * p + k) = if k = r then 1 else now (1100 + 8 * p + k) := by
  unfold lackF
  generalize now (50 + p) * r = X at hc ⊢
  by_cases e : k = r
  · rw [if_pos e, if_pos (by omega)]
  · rw [if_neg e, if_neg (by omega), if_neg (by omega), if_neg (by omega)]
theorem lack_C (hok : mOK now) (hp : 0 ≤ p ∧ p < 10) (hs : now p = 2 ∨ now p = 3) (hr : 0 ≤ r ∧ r < now (40 + p)) : 0 ≤ now (50 + p) * r ∧ now (50 + p) * r + now (50 + p) ≤ now (40 + p) * now (50 + p) ∧ now (40 + p) * now (50 + p) ≤ 64 ∧ r < 8 := by
  have hK := hok.1 p hp.1 hp.2
  have hc := sh_rc hok.1 hp hs
  have h1 := crl_bd (k := 0) hr.1 hr.2 hK.2.2.2.2.2.2.2.2.2.1 ⟨hK.2.2.2.2.2.2.2.2.2.2.1, hK.2.2.2.2.2.2.2.2.2.2.2.1⟩ ⟨Int.le_refl _, by omega⟩
  have h2 := rc_le hok.1 hp
  exact ⟨h1.2.2.1, h1.2.2.2, h2.2, by omega⟩
theorem lack_cnt (hok : mOK now) (hp : 0 ≤ p ∧ p < 10) (hs : now p = 2 ∨ now p = 3) (hr : 0 ≤ r ∧ r < now (40 + p)) : lackF now p r (10 + p) = sumI (fun k => if lackF now p r (460 + 64 * p + k) = 0 then 0 else 1) (now (40 + p) * now (50 + p)).toNat := by
  have hC := lack_C hok hp hs hr
  have hK := hok.1 p hp.1 hp.2
  have hc0 : 0 ≤ now (50 + p) := hK.2.2.2.2.2.2.2.2.2.2.1
  have h0 := (hok.2.2.2.2.2.2.2.2.1 p hp.1 hp.2 hs).1
  rw [lack_10 hp hC.1 hr.1, h0]
  generalize hX : now (50 + p) * r = X at hC
  generalize hN : now (40 + p) * now (50 + p) = N at hC
  have hg : ∀ k : Int, 0 ≤ k → (fun k => if X ≤ k ∧ k < X + now (50 + p) then (0 : Int) else if now (460 + 64 * p + k) = 0 then 0 else 1) k = if X ≤ k ∧ k < X + now (50 + p) then 0 else (fun k => if now (460 + 64 * p + k) = 0 then (0 : Int) else 1) k := fun k _ => rfl
  have hcut := sum_cut hC.1 hc0 hg N.toNat
  rw [show (min ((N.toNat : Int) - X) (now (50 + p))).toNat = (now (50 + p)).toNat by omega] at hcut
  rw [sumI_cong (f := fun k => if lackF now p r (460 + 64 * p + k) = 0 then (0 : Int) else 1) (g := fun k => if X ≤ k ∧ k < X + now (50 + p) then (0 : Int) else if now (460 + 64 * p + k) = 0 then 0 else 1) (fun k k0 k1 => by
    rw [lack_Q hp k0 (by omega) ⟨hr.1, hC.2.2.2⟩, hX]
    by_cases e2 : X ≤ k ∧ k < X + now (50 + p)
    · rw [if_pos e2, if_pos e2, if_pos rfl]
    · rw [if_neg e2, if_neg e2]), hcut]
  congr 1
  unfold cntP
  refine sumI_cong (fun k k0 k1 => ?_)
  have hq := hok.2.2.1 p (X + k) hp.1 hp.2 (by omega) (by omega)
  rw [show 460 + 64 * p + X + k = 460 + 64 * p + (X + k) by omega]
  by_cases e : now (460 + 64 * p + (X + k)) = 0
  · rw [if_neg (by omega), if_pos e]
  · rw [if_pos (by omega), if_neg e]
theorem mOK_lack (hok : mOK now) (hp : 0 ≤ p ∧ p < 10) (hs : now p = 2 ∨ now p = 3) (hr : 0 ≤ r ∧ r < now (40 + p)) : mOK (lackF now p r) := by
  have hC := lack_C hok hp hs hr
  have hK := hok.1 p hp.1 hp.2
  have hcnt := lack_cnt hok hp hs hr
  have e0 : lackF now p r p = now p := lack_lo hp (by omega) hC.1 (by omega) hr.1
  have e20 : lackF now p r (20 + p) = now (20 + p) := lack_lo hp (by omega) hC.1 (by omega) hr.1
  have e30 : lackF now p r (30 + p) = now (30 + p) := lack_lo hp (by omega) hC.1 (by omega) hr.1
  have e40 : lackF now p r (40 + p) = now (40 + p) := lack_lo hp (by omega) hC.1 (by omega) hr.1
  have e50 : lackF now p r (50 + p) = now (50 + p) := lack_lo hp (by omega) hC.1 (by omega) hr.1
  have hbd := sumI_bd (f := fun k => if lackF now p r (460 + 64 * p + k) = 0 then (0 : Int) else 1) (a := 0) (b := 1) (n := (now (40 + p) * now (50 + p)).toNat) (fun k _ _ => by
    show 0 ≤ (if lackF now p r (460 + 64 * p + k) = 0 then (0 : Int) else 1) ∧ (if lackF now p r (460 + 64 * p + k) = 0 then (0 : Int) else 1) ≤ 1
    split <;> omega)
  rw [← hcnt] at hbd
  have hc2 : now p = 3 → now (50 + p) % 2 = 0 := hK.2.2.2.2.2.2.2.2.2.2.2.2.2.2.1
  have hCok := hok.2.2.2.2.2.2.2.2.1 p hp.1 hp.2 hs
  refine mOK_only hok hp (only_lack ⟨hr.1, hC.2.2.2⟩ ⟨hC.1, by omega⟩) ⟨?_, fun a a0 a1 => ?_, fun x x0 x1 => ?_, fun x x0 x1 => ?_, fun _ => ?_⟩
  · unfold lK
    rw [e0, e20, e30, e40, e50]
    obtain ⟨k1, k2, k3, k4, k5, k6, k7, k8, k9, k10, k11, k12, k13, k14, k15, k16, k17⟩ := hK
    refine ⟨k1, k2, by omega, by omega, k5, k6, k7, k8, k9, k10, k11, k12, fun z => by omega, k14, k15, fun z => by omega, k17⟩
  · rw [lack_lo hp (by omega) hC.1 (by omega) hr.1, e0]
    have := hok.2.1 p a hp.1 hp.2 a0 a1
    exact ⟨this.1, this.2.1, fun q => by omega⟩
  · rw [lack_Q hp x0 x1 ⟨hr.1, hC.2.2.2⟩, e0, e20]
    have := hok.2.2.1 p x hp.1 hp.2 x0 x1
    by_cases e : now (50 + p) * r ≤ x ∧ x < now (50 + p) * r + now (50 + p)
    · rw [if_pos e]
      exact ⟨by decide, by decide, fun _ => Or.inl rfl⟩
    · rw [if_neg e]
      exact this
  · rw [lack_L hp x0 x1 ⟨hr.1, hC.2.2.2⟩ ⟨hC.1, by omega⟩]
    have := hok.2.2.2.1 p x hp.1 hp.2 x0 x1
    by_cases e : x = r
    · rw [if_pos e]; exact ⟨by decide, by decide⟩
    · rw [if_neg e]; exact this
  · rw [e0, e40, e50]
    refine ⟨hcnt, fun x x0 x1 => ?_, fun h3 x x0 x1 => ?_, fun r' x r0 r1 x0 x1 h1 => ?_⟩
    · rw [lack_Q hp (by omega) x1 ⟨hr.1, hC.2.2.2⟩, if_neg (by omega)]
      exact hCok.2.1 x x0 x1
    · have hev : (now (50 + p) * r) % 2 = 0 := by rw [Int.mul_comm]; exact even_mul (hc2 h3)
      have hev2 := hc2 h3
      have h4 := hCok.2.2.1 h3 x x0 x1
      rw [lack_Q (k := 2 * x) hp (by omega) (by omega) ⟨hr.1, hC.2.2.2⟩, lack_Q hp (by omega) (by omega) ⟨hr.1, hC.2.2.2⟩]
      generalize now (50 + p) * r = X at hev ⊢
      by_cases q : X ≤ 2 * x ∧ 2 * x < X + now (50 + p)
      · rw [if_pos q, if_pos (by omega)]
      · rw [if_neg q, if_neg (by omega)]
        exact h4
    · have hcr := crl_bd r0 r1 hK.2.2.2.2.2.2.2.2.2.1 ⟨hK.2.2.2.2.2.2.2.2.2.2.1, hK.2.2.2.2.2.2.2.2.2.2.2.1⟩ ⟨x0, x1⟩
      have hR := hK.2.2.2.2.2.2.2.2.2.1
      rw [lack_L hp r0 (by omega) ⟨hr.1, hC.2.2.2⟩ ⟨hC.1, by omega⟩] at h1
      rw [lack_Q hp hcr.1 hcr.2.1 ⟨hr.1, hC.2.2.2⟩]
      by_cases e : r' = r
      · rw [e, if_pos (by omega)]
      · rw [if_neg e] at h1
        by_cases q : now (50 + p) * r ≤ now (50 + p) * r' + x ∧ now (50 + p) * r' + x < now (50 + p) * r + now (50 + p)
        · rw [if_pos q]
        · rw [if_neg q]
          exact hCok.2.2.2 r' x r0 r1 x0 x1 h1
theorem hO_lack {D : va_G} {N : Nat → Prop} {G2 : gh} {m : Int} {x fc2 lc2 : BitVec 64} {b : Nat} (hok : mOK now) (hp : 0 ≤ p ∧ p < 10) (hs : now p = 2 ∨ now p = 3) (hr : 0 ≤ r ∧ r < now (40 + p)) (b2 : msOK now p m) (b3 : sqOK now p x) (hnb : ¬ N b) (h1 : bO G2 b (now p - 1) (now (20 + p)) (cB (x &&& nB (rwB (now (50 + p)) r))) (now (40 + p)) (now (50 + p)) (orM m r) (x &&& nB (rwB (now (50 + p)) r)) fc2 lc2) (h2 : fcOK (now (40 + p)) (now (50 + p)) fc2) (h3 : lcOK (now (40 + p)) (now (50 + p)) lc2) : cB (x &&& nB (rwB (now (50 + p)) r)) = lackF now p r (10 + p) ∧ hO D N G2 (lackF now p r) p b := by
  have hC := lack_C hok hp hs hr
  have hK := hok.1 p hp.1 hp.2
  have hok2 := mOK_lack hok hp hs hr
  have e0 : lackF now p r p = now p := lack_lo hp (by omega) hC.1 (by omega) hr.1
  have e20 : lackF now p r (20 + p) = now (20 + p) := lack_lo hp (by omega) hC.1 (by omega) hr.1
  have e40 : lackF now p r (40 + p) = now (40 + p) := lack_lo hp (by omega) hC.1 (by omega) hr.1
  have e50 : lackF now p r (50 + p) = now (50 + p) := lack_lo hp (by omega) hC.1 (by omega) hr.1
  have hs' := (sh_ctx hok hp hs b3).1
  have hsq : sqOK (lackF now p r) p (x &&& nB (rwB (now (50 + p)) r)) := by
    intro k k0 k1
    rw [bB_and, nB_bit k0 k1, b3 k k0 k1, rwB_bit hs' hr.1 hr.2 k0 k1, lack_Q hp k0 k1 ⟨hr.1, hC.2.2.2⟩, Int.mul_comm r]
    by_cases e : now (50 + p) * r ≤ k ∧ k < now (50 + p) * r + now (50 + p)
    · rw [if_pos e]
      exact ⟨fun q => absurd e q.2, fun q => absurd rfl q⟩
    · rw [if_neg e]
      exact ⟨fun q => q.1, fun q => ⟨q, e⟩⟩
  have hms : msOK (lackF now p r) p (orM m r) := by
    refine ⟨(ms_orM (k := 0) b2.1 ⟨hr.1, hC.2.2.2⟩ ⟨by decide, by decide⟩).1, fun k k0 k1 => ?_⟩
    rw [e40] at k1
    have hR := hK.2.2.2.2.2.2.2.2.2.1
    rw [(ms_orM (k := k) b2.1 ⟨hr.1, hC.2.2.2⟩ ⟨k0, by omega⟩).2, b2.2 k k0 k1, lack_L hp k0 (by omega) ⟨hr.1, hC.2.2.2⟩ ⟨hC.1, by omega⟩]
    by_cases e : k = r
    · rw [if_pos e]; exact ⟨fun _ => rfl, fun _ => Or.inr e⟩
    · rw [if_neg e]; exact ⟨fun q => q.resolve_right e, fun q => Or.inl q⟩
  have hcb := cB_count hok2 hp (by rw [e0]; exact hs) hsq
  refine ⟨hcb, Or.inr (Or.inr (Or.inr ⟨by rw [e0]; exact hs, hnb, orM m r, x &&& nB (rwB (now (50 + p)) r), fc2, lc2, ?_, hms, hsq, ?_, ?_⟩))⟩
  · rw [e0, e20, e40, e50, ← hcb]; exact h1
  · rw [e40, e50]; exact h2
  · rw [e40, e50]; exact h3
end LACK
