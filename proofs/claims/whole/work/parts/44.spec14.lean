theorem sumI_ex {f : Int → Int} : ∀ (n m : Nat), m ≤ n → sumI f m < sumI f n → ∃ b : Int, (m : Int) ≤ b ∧ b < n ∧ 0 < f b
  | 0, m, hm, h => by
    have : m = 0 := by omega
    subst this
    omega
  | n + 1, m, hm, h => by
    by_cases e : m = n + 1
    · subst e; omega
    · by_cases q : 0 < f n
      · exact ⟨n, by omega, by omega, q⟩
      · have h2 : sumI f (n + 1) = sumI f n + f n := rfl
        obtain ⟨b, b0, b1, b2⟩ := sumI_ex (f := f) n m (by omega) (by omega)
        exact ⟨b, b0, by omega, b2⟩
theorem wBP_cases {w x : Int} (hw : wBP w) : (x - x % w) % w = 0 ∧ x - x % w ≤ x ∧ x < x - x % w + w ∧ (0 ≤ x → 0 ≤ x - x % w) := by rcases hw with e | e <;> subst e <;> omega
/-- enough stamps: there are units to be given -/
theorem hex_of {now : Int → Int} {p N w mn : Int} (hw : wBP w) (hN : 0 ≤ N ∧ N ≤ 64) (hNw : N % w = 0) (hpr : pairU now p w) (hmn : 1 ≤ mn ∧ mn < 3) (hc : w * mn ≤ sumI (fun k => if now (460 + 64 * p + k) = 0 then 0 else 1) N.toNat) : ∃ x y : Int, valU now p N w mn x y := by
  have hb := wBP_bd hw
  have hP : ∃ k : Nat, (k : Int) < N ∧ now (460 + 64 * p + k) ≠ 0 := by
    have h1 : 1 ≤ w * mn := by rcases hw with e | e <;> subst e <;> omega
    obtain ⟨b, b0, b1, b2⟩ := sumI_ex (f := fun k => if now (460 + 64 * p + k) = 0 then 0 else 1) N.toNat 0 (by omega) (by show (0 : Int) < _; omega)
    obtain ⟨k, rfl⟩ := Int.eq_ofNat_of_zero_le (by omega : 0 ≤ b)
    refine ⟨k, by omega, fun q => ?_⟩
    rw [if_pos q] at b2
    omega
  obtain ⟨a, ⟨ha, hq⟩, hmin⟩ := pk_least _ hP
  have hu := wBP_cases (x := (a : Int)) hw
  have hsu := (hpr a (by omega) (by omega)).mp hq
  have huN : (a : Int) - a % w < N := by omega
  by_cases e : mn = 1
  · exact ⟨_, _, hu.2.2.2 (by omega), huN, hu.1, hu.2.2.2 (by omega), huN, hu.1, hsu, hsu, fun _ => rfl, fun q => absurd e q⟩
  · have h0 : ∀ k : Int, 0 ≤ k → k < a → now (460 + 64 * p + k) = 0 := fun k k0 k1 => by
      obtain ⟨m, rfl⟩ := Int.eq_ofNat_of_zero_le k0
      have := hmin m (by omega)
      by_cases z : now (460 + 64 * p + (m : Int)) = 0
      · exact z
      · exact absurd ⟨by omega, z⟩ this
    have huw := mw_le hw hu.1 hNw huN
    have hz := sumI_bd (f := fun k => if now (460 + 64 * p + k) = 0 then (0 : Int) else 1) (a := 0) (b := 0) (n := ((a : Int) - a % w).toNat) (fun k k0 k1 => by
      show 0 ≤ (if now (460 + 64 * p + k) = 0 then (0 : Int) else 1) ∧ (if now (460 + 64 * p + k) = 0 then (0 : Int) else 1) ≤ 0
      rw [if_pos (h0 k k0 (by have := hu.2.2.2 (by omega); omega))]
      omega)
    have hle1 : ∀ k : Int, (fun k => if now (460 + 64 * p + k) = 0 then (0 : Int) else 1) k ≤ 1 := fun k => by show (if now (460 + 64 * p + k) = 0 then (0 : Int) else 1) ≤ 1; split <;> omega
    have hw1 : sumI (fun k => if now (460 + 64 * p + k) = 0 then (0 : Int) else 1) ((a : Int) - a % w + w).toNat ≤ w := by
      generalize hF : (fun k => if now (460 + 64 * p + k) = 0 then (0 : Int) else 1) = F at hz hle1
      have hu0 := hu.2.2.2 (by omega)
      rcases hw with e | e <;> subst e
      · rw [show ((a : Int) - a % 1 + 1).toNat = ((a : Int) - a % 1).toNat + 1 by omega]
        show sumI F _ + F _ ≤ 1
        have := hle1 (((a : Int) - a % 1).toNat : Int)
        omega
      · rw [show ((a : Int) - a % 2 + 2).toNat = ((a : Int) - a % 2).toNat + 1 + 1 by omega]
        show sumI F _ + F _ + F _ ≤ 2
        have h5 := hle1 (((a : Int) - a % 2).toNat : Int)
        have h6 := hle1 ((((a : Int) - a % 2).toNat + 1 : Nat) : Int)
        omega
    have h2 : w < w * mn := by rcases hw with e | e <;> subst e <;> omega
    obtain ⟨b, b0, b1, b2⟩ := sumI_ex (f := fun k => if now (460 + 64 * p + k) = 0 then 0 else 1) N.toNat ((a : Int) - a % w + w).toNat (by omega) (by omega)
    have hbq : now (460 + 64 * p + b) ≠ 0 := fun q => by rw [if_pos q] at b2; omega
    have hv := wBP_cases (x := b) hw
    have hsv := (hpr b (by omega) (by omega)).mp hbq
    have hu0 := hu.2.2.2 (by omega)
    refine ⟨(a : Int) - a % w, b - b % w, hu0, huN, hu.1, hv.2.2.2 (by omega), by omega, hv.1, hsu, hsv, fun q => absurd q e, fun _ => ?_⟩
    have h7 : (a : Int) - a % w + w ≤ b := by omega
    have h8 := mw_add hu.1
    rcases hw with e | e <;> subst e <;> omega
theorem paysF_cong {now f : Int → Int} {p n : Int} (h1 : f p = now p) (h2 : f (10 + p) = now (10 + p)) (h3 : f (20 + p) = now (20 + p)) (h4 : ∀ j : Int, 60 ≤ j → j < 460 → f j = now j) (hp : 0 ≤ p ∧ p < 10) (hn : 0 ≤ n ∧ n ≤ now (10 + p)) (hm : now p = 1 → now (10 + p) ≤ 40) : paysF f p n = paysF now p n := by
  unfold paysF
  rw [h1, h2, h3]
  by_cases e : now p = 1
  · rw [if_pos e, if_pos e]
    have := hm e
    exact sumI_cong (fun k k0 k1 => h4 _ (by omega) (by omega))
  · rw [if_neg e, if_neg e]
