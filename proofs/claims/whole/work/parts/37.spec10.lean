theorem sh_amt : ∀ k : Fin 32, ((iI (k.val : Int) &&& 31).toBitVec.smod 32).toNat = k.val := by decide +kernel
theorem and1_bit (y : Int32) : (y &&& iI 1).toInt = if y.toBitVec.getLsbD 0 = true then 1 else 0 := by
  have h : (y &&& iI 1).toBitVec = y.toBitVec &&& 1#32 := rfl
  have h2 := BitVec.and_one_eq_setWidth_ofBool_getLsbD (x := y.toBitVec)
  show (y &&& iI 1).toBitVec.toInt = _
  rw [h, h2]
  cases y.toBitVec.getLsbD 0 <;> decide
theorem shb_bit {x k : Int} (h0 : 0 ≤ k) (h1 : k < 32) : shb x k = if (iI x).toBitVec.getLsbD k.toNat = true then 1 else 0 := by
  obtain ⟨n, rfl⟩ := Int.eq_ofNat_of_zero_le h0
  have hn : n < 32 := by omega
  unfold shb
  rw [and1_bit]
  have e : (iI x >>> (iI (n : Int) &&& 31)).toBitVec.getLsbD 0 = (iI x).toBitVec.getLsbD n := by
    show ((iI x).toBitVec.sshiftRight ((iI (n : Int) &&& 31).toBitVec.smod 32).toNat).getLsbD 0 = _
    rw [sh_amt ⟨n, hn⟩, BitVec.getLsbD_sshiftRight]
    simp [hn]
  rw [e]
  rfl
theorem shb_or {x z s k : Int} (hs : 0 ≤ s ∧ s < 32) (hk : 0 ≤ k ∧ k < 32) (h : iI z = iI x ||| (iI 1 <<< (iI s &&& 31))) : shb z k = if k = s then 1 else shb x k := by
  rw [shb_bit hk.1 hk.2, h]
  have e : (iI x ||| (iI 1 <<< (iI s &&& 31))).toBitVec.getLsbD k.toNat = ((iI x).toBitVec.getLsbD k.toNat || decide (k = s)) := by
    obtain ⟨n, rfl⟩ := Int.eq_ofNat_of_zero_le hs.1
    obtain ⟨m, rfl⟩ := Int.eq_ofNat_of_zero_le hk.1
    have hn : n < 32 := by omega
    have hm : m < 32 := by omega
    show ((iI x).toBitVec ||| (1#32 <<< ((iI (n : Int) &&& 31).toBitVec.smod 32).toNat)).getLsbD _ = _
    rw [sh_amt ⟨n, hn⟩, BitVec.getLsbD_or, BitVec.getLsbD_shiftLeft]
    simp only [Int.toNat_natCast, BitVec.getLsbD_one, hm]
    congr 1
    by_cases q : m = n
    · subst q; simp
    · have : ¬ ((m : Int) = n) := by omega
      simp [this]
      omega
  rw [e]
  by_cases q : k = s
  · simp [q]
  · rw [if_neg q, shb_bit hk.1 hk.2]
    simp [q]
/-- a square of place p is torn off for letter l -/
def tornOne (now nw : Int → Int) (l p s : Int) : Prop := nw (460 + 64 * p + s) = 0 ∧ (∀ k : Int, 0 ≤ k → k < 64 → tq nw l p k = if k = s then 1 else tq now l p k) ∧ ∀ j : Int, j ≠ 460 + 64 * p + s → j ≠ 2127 + 20 * l + 2 * p → j ≠ 2127 + 20 * l + 2 * p + 1 → nw j = now j
/-- what T names is torn off -/
def tornAll (now nw : Int → Int) (l p : Int) (T : Int → Prop) : Prop := (∀ k : Int, 0 ≤ k → k < 64 → (T k → nw (460 + 64 * p + k) = 0 ∧ tq nw l p k = 1) ∧ (¬ T k → nw (460 + 64 * p + k) = now (460 + 64 * p + k) ∧ tq nw l p k = tq now l p k)) ∧ ∀ j : Int, (j < 460 + 64 * p ∨ 524 + 64 * p ≤ j) → j ≠ 2127 + 20 * l + 2 * p → j ≠ 2127 + 20 * l + 2 * p + 1 → nw j = now j
theorem tornAll_0 {now : Int → Int} {l p : Int} : tornAll now now l p (fun _ => False) := ⟨fun k _ _ => ⟨fun h => h.elim, fun _ => ⟨rfl, rfl⟩⟩, fun _ _ _ _ => rfl⟩
theorem tornAll_step {now nw nw2 : Int → Int} {l p s : Int} {T T2 : Int → Prop} (h : tornAll now nw l p T) (h1 : tornOne nw nw2 l p s) (hp : 0 ≤ p ∧ p < 10) (hl : 0 ≤ l ∧ l < 60) (hs : 0 ≤ s ∧ s < 64) (hT : ∀ k : Int, 0 ≤ k → k < 64 → (T2 k ↔ T k ∨ k = s)) : tornAll now nw2 l p T2 := by
  obtain ⟨a, b⟩ := h
  obtain ⟨c, d, e⟩ := h1
  refine ⟨fun k k0 k1 => ⟨fun q => ?_, fun q => ?_⟩, fun j j0 j1 j2 => ?_⟩
  · by_cases z : k = s
    · subst z
      exact ⟨c, by rw [d k k0 k1, if_pos rfl]⟩
    · have hTk : T k := ((hT k k0 k1).mp q).resolve_right z
      rw [d k k0 k1, if_neg z, e _ (by omega) (by omega) (by omega)]
      exact (a k k0 k1).1 hTk
  · have z : k ≠ s := fun z => q ((hT k k0 k1).mpr (Or.inr z))
    have hTk : ¬ T k := fun y => q ((hT k k0 k1).mpr (Or.inl y))
    rw [d k k0 k1, if_neg z, e _ (by omega) (by omega) (by omega)]
    exact (a k k0 k1).2 hTk
  · rw [e j (by omega) j1 j2]
    exact b j j0 j1 j2
theorem tear_bits {now f g : Int → Int} {l p s z k : Int} (hg : g = upI f (2127 + 20 * l + 2 * p + (s / 32)) z) (hf : f = upI now (460 + 64 * p + s) 0) (hp : 0 ≤ p ∧ p < 10) (hl : 0 ≤ l ∧ l < 60) (hs : 0 ≤ s ∧ s < 64) (k0 : 0 ≤ k) (k1 : k < 64) (hz : iI z = iI (now (2127 + 20 * l + 2 * p + (s / 32))) ||| (iI 1 <<< (iI (s % 32) &&& 31))) : tq g l p k = if k = s then 1 else tq now l p k := by
  unfold tq
  by_cases e : k / 32 = s / 32
  · rw [e, hg, upI_s, shb_or ⟨by omega, by omega⟩ ⟨by omega, by omega⟩ hz]
    by_cases e2 : k = s
    · rw [if_pos (by omega), if_pos e2]
    · rw [if_neg (by omega), if_neg e2]
  · rw [hg, upI_n (by omega), hf, upI_n (by omega), if_neg (fun q => e (by rw [q]))]
