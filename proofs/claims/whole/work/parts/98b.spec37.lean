/-! sheets: a new one, a row that goes; rates, extras, letters -/
theorem ones_bit {n k : Int} (hn : 1 ≤ n ∧ n ≤ 64) (k0 : 0 ≤ k) (k1 : k < 64) : bI (BitVec.ofInt 64 (-1) >>> (Int.toNat (64 - n))) k = true ↔ k < n := by
  have e1 : BitVec.ofInt 64 (-1) = BitVec.allOnes 64 := by decide
  unfold bI
  rw [e1, BitVec.getLsbD_ushiftRight, BitVec.getLsbD_allOnes]
  simp only [decide_eq_true_eq]
  omega
theorem sumI_ind : ∀ (m n : Nat), n ≤ m → ∀ f : Int → Int, (∀ k : Int, 0 ≤ k → k < n → f k = 1) → (∀ k : Int, n ≤ k → k < m → f k = 0) → sumI f m = n
  | 0, n, h, f, _, _ => by
    have : n = 0 := by omega
    rw [this]
    rfl
  | m + 1, n, h, f, h1, h0 => by
    show sumI f m + f m = _
    by_cases e : n = m + 1
    · rw [sumI_ind m m (Nat.le_refl _) f (fun k k0 k1 => h1 k k0 (by omega)) (fun k k0 k1 => by omega), h1 m (by omega) (by omega)]
      omega
    · rw [sumI_ind m n (by omega) f h1 (fun k k0 k1 => h0 k k0 (by omega)), h0 m (by omega) (by omega)]
      omega
theorem ones_cnt {n : Int} (hn : 1 ≤ n ∧ n ≤ 64) : cB (BitVec.ofInt 64 (-1) >>> (Int.toNat (64 - n))) = n := by
  rw [cB_eq]
  have := sumI_ind 64 n.toNat (by omega) (fB (BitVec.ofInt 64 (-1) >>> (Int.toNat (64 - n)))) (fun k k0 k1 => by
    unfold fB
    rw [if_pos ((ones_bit hn k0 (by omega)).mpr (by omega))]) (fun k k0 k1 => by
    unfold fB
    rw [if_neg (fun q => by have := (ones_bit hn (by omega) (by omega)).mp q; omega)])
  omega
/-- a part of a sum is cut out -/
theorem sum_cut {f g : Int → Int} {a c : Int} (ha : 0 ≤ a) (hc : 0 ≤ c) (hg : ∀ k : Int, 0 ≤ k → g k = if a ≤ k ∧ k < a + c then 0 else f k) : ∀ n : Nat, sumI g n = sumI f n - sumI (fun k => f (a + k)) (min (n - a) c).toNat
  | 0 => by
    rw [show (min (((0 : Nat) : Int) - a) c).toNat = 0 by omega]
    rfl
  | n + 1 => by
    show sumI g n + g n = sumI f n + f n - _
    rw [sum_cut ha hc hg n, hg n (by omega)]
    by_cases e : a ≤ (n : Int) ∧ (n : Int) < a + c
    · rw [if_pos e, show (min (((n + 1 : Nat) : Int) - a) c).toNat = (1 + ((n : Int) - a)).toNat by omega, sumI_s _ (by omega), show (min ((n : Int) - a) c).toNat = ((n : Int) - a).toNat by omega, show a + ((n : Int) - a) = n by omega]
      omega
    · rw [if_neg e, show (min (((n + 1 : Nat) : Int) - a) c).toNat = (min ((n : Int) - a) c).toNat by omega]
      omega
section SHL
variable {now : Int → Int} {p : Int}
theorem sheet_lo {k r c f j : Int} (hp : 0 ≤ p) (h : j < 460) (h4 : j ≠ 40 + p) (h5 : j ≠ 50 + p) : sheetF now p k r c f j = holdF now p k f 0 (r * c) j := by unfold sheetF; rw [if_neg (by omega), if_neg h4, if_neg h5]
theorem sheet_40 {k r c f : Int} (hp : 0 ≤ p ∧ p < 10) : sheetF now p k r c f (40 + p) = r := by unfold sheetF; rw [if_neg (by omega), if_pos rfl]
theorem sheet_50 {k r c f : Int} (hp : 0 ≤ p ∧ p < 10) : sheetF now p k r c f (50 + p) = c := by unfold sheetF; rw [if_neg (by omega), if_neg (by omega), if_pos rfl]
theorem sheet_Q {k r c f x : Int} (hp : 0 ≤ p ∧ p < 10) (x0 : 0 ≤ x) (x1 : x < 64) : sheetF now p k r c f (460 + 64 * p + x) = if x < r * c then f else 0 := by
  unfold sheetF
  by_cases e : x < r * c
  · rw [if_pos (by omega), if_pos e]
  · rw [if_neg (by omega), if_neg e, if_neg (by omega), if_neg (by omega)]
    exact hold_Q hp x0 x1
theorem sheet_L {k r c f x : Int} (hp : 0 ≤ p ∧ p < 10) (hrc : r * c ≤ 64) (x0 : 0 ≤ x) (x1 : x < 8) : sheetF now p k r c f (1100 + 8 * p + x) = 0 := by
  unfold sheetF
  rw [if_neg (by omega), if_neg (by omega), if_neg (by omega)]
  exact hold_L hp x0 x1
theorem even_mul {r c : Int} (h : c % 2 = 0) : (r * c) % 2 = 0 := by
  rw [Int.mul_emod, h]
  simp
theorem mOK_sheet {k r c f : Int} (hok : mOK now) (hp : 0 ≤ p ∧ p < 10) (hk : k = 2 ∨ k = 3) (hr : 1 ≤ r ∧ r ≤ 8) (hc : 1 ≤ c ∧ c ≤ 8) (hf : 1 ≤ f ∧ f ≤ 500) (h3 : k = 3 → c % 2 = 0) : mOK (sheetF now p k r c f) := by
  have hb := rcl_bd (r := r) (c := c) ⟨by omega, hr.2⟩ ⟨by omega, hc.2⟩
  have hpos : 1 ≤ r * c := Int.mul_pos (by omega : 0 < r) (by omega : 0 < c)
  refine mOK_only hok hp (only_sheet hb.2) ⟨?_, fun a a0 a1 => ?_, fun x x0 x1 => ?_, fun x x0 x1 => ?_, fun h => ?_⟩
  · unfold lK
    rw [sheet_40 hp, sheet_50 hp, sheet_lo hp.1 (by omega) (by omega) (by omega), sheet_lo hp.1 (by omega) (by omega) (by omega), sheet_lo hp.1 (by omega) (by omega) (by omega), sheet_lo hp.1 (by omega) (by omega) (by omega), hold_0, hold_10, hold_20, hold_30]
    generalize r * c = X at hb
    exact ⟨by omega, by omega, by omega, by omega, by omega, by omega, by omega, by omega, by omega, by omega, by omega, by omega, by omega, by omega, h3, by omega, by omega⟩
  · rw [sheet_lo hp.1 (by omega) (by omega) (by omega), sheet_lo hp.1 (by omega) (by omega) (by omega), hold_S hp a0 a1, hold_0]
    have := hok.2.1 p a hp.1 hp.2 a0 a1
    exact ⟨this.1, this.2.1, fun q => by omega⟩
  · rw [sheet_Q hp x0 x1, sheet_lo hp.1 (by omega) (by omega) (by omega), sheet_lo hp.1 (by omega) (by omega) (by omega), hold_0, hold_20]
    by_cases e : x < r * c
    · rw [if_pos e]
      exact ⟨by omega, by omega, fun _ => Or.inr rfl⟩
    · rw [if_neg e]
      exact ⟨by decide, by decide, fun _ => Or.inl rfl⟩
  · rw [sheet_L hp hb.2 x0 x1]
    exact ⟨by decide, by decide⟩
  · rw [sheet_40 hp, sheet_50 hp, sheet_lo hp.1 (by omega) (by omega) (by omega), sheet_lo hp.1 (by omega) (by omega) (by omega), hold_0, hold_10]
    refine ⟨?_, fun x x0 x1 => ?_, fun e x x0 x1 => ?_, fun r' x r0 r1 x0 x1 h1 => ?_⟩
    · have := sumI_ind (r * c).toNat (r * c).toNat (Nat.le_refl _) (fun x => if sheetF now p k r c f (460 + 64 * p + x) = 0 then 0 else 1) (fun x x0 x1 => by
        show (if _ then (0 : Int) else 1) = 1
        rw [sheet_Q hp x0 (by omega), show (if x < r * c then f else 0) = f from if_pos (by omega), if_neg (by omega)]) (fun x x0 x1 => by omega)
      omega
    · rw [sheet_Q hp (by omega) x1, if_neg (by omega)]
    · have he := even_mul (r := r) (h3 e)
      rw [sheet_Q hp (by omega) (by omega), sheet_Q hp (by omega) (by omega)]
      by_cases q : 2 * x < r * c
      · rw [if_pos q, if_pos (by omega)]
      · rw [if_neg q, if_neg (by omega)]
    · rw [sheet_L hp hb.2 r0 (by omega)] at h1
      cases h1
theorem bz_0 (r : Int) : (0 : Int) / 2 ^ r.toNat % 2 = 0 := by simp
theorem hO_sheet {D : va_G} {N : Nat → Prop} {G : gh} {k r c f : Int} {a : Nat} {fc lc : BitVec 64} (hp : 0 ≤ p ∧ p < 10) (hk : k = 2 ∨ k = 3) (hr : 1 ≤ r ∧ r ≤ 8) (hc : 1 ≤ c ∧ c ≤ 8) (h : (k = 2 ∧ G a = some (eO 0 [.int (iI f), .int (iI (cB (BitVec.ofInt 64 (-1) >>> (Int.toNat (64 - r * c))))), .int (iI r), .int (iI c), .int (iI 0), .long (lB (BitVec.ofInt 64 (-1) >>> (Int.toNat (64 - r * c)))), .long (lB fc), .long (lB lc)])) ∨ (k = 3 ∧ G a = some (eO 4 [.int (iI r), .int (iI c), .int (iI 0), .long (lB (BitVec.ofInt 64 (-1) >>> (Int.toNat (64 - r * c)))), .long (lB fc), .long (lB lc), .int (iI f), .int (iI (cB (BitVec.ofInt 64 (-1) >>> (Int.toNat (64 - r * c)))))]))) (hn : ¬ N a) (hf : 1 ≤ f ∧ f ≤ 500) (hfc : fcOK r c fc) (hlc : lcOK r c lc) : hO D N G (sheetF now p k r c f) p a := by
  have hb := rcl_bd (r := r) (c := c) ⟨by omega, hr.2⟩ ⟨by omega, hc.2⟩
  have hpos : 1 ≤ r * c := Int.mul_pos (by omega : 0 < r) (by omega : 0 < c)
  rw [ones_cnt ⟨hpos, hb.2⟩] at h
  refine Or.inr (Or.inr (Or.inr ⟨by rw [sheet_lo hp.1 (by omega) (by omega) (by omega), hold_0]; exact hk, hn, 0, BitVec.ofInt 64 (-1) >>> (Int.toNat (64 - r * c)), fc, lc, ?_, ⟨by decide, fun x x0 x1 => ?_⟩, fun x x0 x1 => ?_, by rw [sheet_40 hp, sheet_50 hp]; exact hfc, by rw [sheet_40 hp, sheet_50 hp]; exact hlc⟩))
  · rw [sheet_40 hp, sheet_50 hp, sheet_lo hp.1 (by omega) (by omega) (by omega), sheet_lo hp.1 (by omega) (by omega) (by omega), sheet_lo hp.1 (by omega) (by omega) (by omega), hold_0, hold_10, hold_20]
    rcases h with ⟨e, h⟩ | ⟨e, h⟩
    · exact Or.inl ⟨by omega, h⟩
    · exact Or.inr ⟨by omega, h⟩
  · rw [sheet_40 hp] at x1
    rw [sheet_L hp hb.2 x0 (by omega), bz_0]
  · rw [ones_bit ⟨hpos, hb.2⟩ x0 x1, sheet_Q hp x0 x1]
    by_cases e : x < r * c
    · rw [if_pos e]
      constructor
      · intro _; omega
      · intro _; exact e
    · rw [if_neg e]
      constructor
      · intro q; exact absurd q e
      · intro q; exact absurd rfl q
end SHL
