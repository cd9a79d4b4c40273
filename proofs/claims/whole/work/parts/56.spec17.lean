/-! what a holding pays, of which face, how many: the last ones of a strip first -/
theorem paysF_0 (now : Int → Int) (p : Int) : paysF now p 0 = 0 := by
  unfold paysF
  by_cases e : now p = 1
  · rw [if_pos e]; rfl
  · rw [if_neg e]; omega
theorem paysF_s {now : Int → Int} {p m : Int} (h : now p = 1) (hm : 0 ≤ m) : paysF now p (1 + m) = paysF now p m + now (60 + 40 * p + (now (10 + p) - (1 + m))) := by
  unfold paysF
  rw [if_pos h, if_pos h, sumI_s _ hm]
theorem facesF_pays {now : Int → Int} {p : Int} (h0 : 0 ≤ now (10 + p)) : facesF now p = paysF now p (now (10 + p)) := by
  unfold facesF
  by_cases e : now p = 1
  · rw [if_pos e]
    have : ∀ m : Nat, (m : Int) ≤ now (10 + p) → sumI (fun a => now (60 + 40 * p + a)) (now (10 + p) - m).toNat + paysF now p m = sumI (fun a => now (60 + 40 * p + a)) (now (10 + p)).toNat := by
      intro m
      induction m with
      | zero => intro _; rw [show ((0 : Nat) : Int) = 0 from rfl, paysF_0, show now (10 + p) - 0 = now (10 + p) by omega]; omega
      | succ m ih =>
        intro h
        have := ih (by omega)
        rw [show ((m + 1 : Nat) : Int) = 1 + (m : Int) by omega, paysF_s e (by omega)]
        rw [show (now (10 + p) - (m : Int)).toNat = (1 + (now (10 + p) - (1 + (m : Int)))).toNat by omega, sumI_s _ (by omega)] at this
        omega
    have h := this (now (10 + p)).toNat (by omega)
    rw [show (now (10 + p) - ((now (10 + p)).toNat : Int)).toNat = 0 by omega, show (((now (10 + p)).toNat : Nat) : Int) = now (10 + p) by omega] at h
    rw [← h]
    show (0 : Int) + _ = _
    omega
  · rw [if_neg e]
    unfold paysF
    rw [if_neg e]
theorem goneF_0 (now : Int → Int) (p f : Int) : goneF now p 0 f = 0 := rfl
theorem goneF_s {now : Int → Int} {p m f : Int} (hm : 0 ≤ m) : goneF now p (1 + m) f = goneF now p m f + (if faceK now p m = f then 1 else 0) := by
  unfold goneF
  rw [sumI_s _ hm]
theorem goneF_plain {now : Int → Int} {p n f : Int} (h : now p ≠ 1) (hn : 0 ≤ n) : goneF now p n f = if f = now (20 + p) then n else 0 := by
  unfold goneF faceK
  by_cases e : f = now (20 + p)
  · rw [if_pos e, sumI_cong (g := fun _ => 1) (fun k _ _ => by rw [if_neg h, if_pos e.symm])]
    have : ∀ m : Nat, sumI (fun _ => 1) m = m := by
      intro m
      induction m with
      | zero => rfl
      | succ m ih => show sumI (fun _ => 1) m + 1 = _; rw [ih]; omega
    rw [this]; omega
  · rw [if_neg e, sumI_cong (g := fun _ => 0) (fun k _ _ => by rw [if_neg h, if_neg (fun z => e z.symm)]), sumI_z]
theorem goneF_bd (now : Int → Int) (p n f : Int) (hn : 0 ≤ n) : 0 ≤ goneF now p n f ∧ goneF now p n f ≤ n := by
  have := sumI_bd (f := fun k => if faceK now p k = f then (1 : Int) else 0) (a := 0) (b := 1) (n := n.toNat) (fun k _ _ => by show 0 ≤ (if faceK now p k = f then (1 : Int) else 0) ∧ (if faceK now p k = f then (1 : Int) else 0) ≤ 1; split <;> omega)
  unfold goneF
  omega
/-- is there a bit of m at r -/
theorem ms_bit : ∀ (m : Fin 256) (r : Fin 8), (iI (m.val : Int) &&& (iI 1 <<< (iI (r.val : Int) &&& 31)) = iI 0) = (m.val / 2 ^ r.val % 2 = 0) := by decide +kernel
def orM (m r : Int) : Int := if m / (2 : Int) ^ r.toNat % 2 = 1 then m else m + 2 ^ r.toNat
theorem ms_or : ∀ (m : Fin 256) (r : Fin 8), iI (m.val : Int) ||| (iI 1 <<< (iI (r.val : Int) &&& 31)) = iI (orM m.val r.val) := by decide +kernel
theorem or_bits : ∀ (m : Fin 256) (r k : Fin 8), (0 ≤ orM m.val r.val ∧ orM m.val r.val < 256) ∧ ((orM m.val r.val / (2 : Int) ^ k.val % 2 = 1) = (m.val / 2 ^ k.val % 2 = 1 ∨ k.val = r.val)) := by decide +kernel
theorem pw_nat (m r : Nat) : ((m : Int) / (2 : Int) ^ r % 2 = 1) = (m / 2 ^ r % 2 = 1) := by
  rw [show ((2 : Int) ^ r) = ((2 ^ r : Nat) : Int) by simp, ← Int.natCast_ediv]
  apply propext
  omega
theorem ms_and {m r z z2 : Int} (hm : 0 ≤ m ∧ m < 256) (hr : 0 ≤ r ∧ r < 8) (h1 : iI z = iI 1 <<< (iI r &&& 31)) (h2 : iI z2 = iI m &&& iI z) (hz : inR z2) : z2 = 0 ↔ ¬ m / (2 : Int) ^ r.toNat % 2 = 1 := by
  obtain ⟨a, rfl⟩ := Int.eq_ofNat_of_zero_le hm.1
  obtain ⟨b, rfl⟩ := Int.eq_ofNat_of_zero_le hr.1
  have h := ms_bit ⟨a, by omega⟩ ⟨b, by omega⟩
  simp only at h
  rw [h1] at h2
  rw [show ((b : Int)).toNat = b by omega, pw_nat a b]
  constructor
  · intro e
    rw [e] at h2
    have := h.mp h2.symm
    omega
  · intro e
    have h3 := h.mpr (by omega)
    rw [h3] at h2
    exact (iI_eq hz (by decide)).mp h2
theorem ms_ior {m r z z2 : Int} (hm : 0 ≤ m ∧ m < 256) (hr : 0 ≤ r ∧ r < 8) (h1 : iI z = iI 1 <<< (iI r &&& 31)) (h2 : iI z2 = iI m ||| iI z) (hz : inR z2) : z2 = orM m r ∧ (0 ≤ orM m r ∧ orM m r < 256) ∧ ∀ k : Int, 0 ≤ k → k < 8 → (orM m r / (2 : Int) ^ k.toNat % 2 = 1 ↔ m / (2 : Int) ^ k.toNat % 2 = 1 ∨ k = r) := by
  obtain ⟨a, rfl⟩ := Int.eq_ofNat_of_zero_le hm.1
  obtain ⟨b, rfl⟩ := Int.eq_ofNat_of_zero_le hr.1
  have h := ms_or ⟨a, by omega⟩ ⟨b, by omega⟩
  simp only at h
  have hb := (or_bits ⟨a, by omega⟩ ⟨b, by omega⟩ ⟨0, by omega⟩).1
  simp only at hb
  refine ⟨?_, hb, fun k k0 k1 => ?_⟩
  · rw [h1, h] at h2
    exact (iI_eq hz ⟨by omega, by omega⟩).mp h2
  · obtain ⟨c, rfl⟩ := Int.eq_ofNat_of_zero_le k0
    have h3 := (or_bits ⟨a, by omega⟩ ⟨b, by omega⟩ ⟨c, by omega⟩).2
    simp only at h3
    rw [show ((c : Int)).toNat = c by omega, h3, pw_nat a c]
    omega
