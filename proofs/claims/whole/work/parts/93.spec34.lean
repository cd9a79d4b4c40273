/-! the class' acts -/
def shB (bf : Int → Option Nat) (i : Int) : Int → Option Nat := fun j => if 0 ≤ j ∧ j < i - 1 then bf (1 + j) else bf j
theorem shB_1 (bf : Int → Option Nat) : shB bf 1 = bf := by
  funext j
  unfold shB
  rw [if_neg (by omega)]
theorem shB_at (bf : Int → Option Nat) {i j : Int} (h : i - 1 ≤ j) : shB bf i j = bf j := by
  unfold shB
  rw [if_neg (by omega)]
theorem shB_s {bf : Int → Option Nat} {i : Int} {s : Nat} (h : bf i = some s) (h1 : 1 ≤ i) : upI (shB bf i) (i - 1) (some s) = shB bf (1 + i) := by
  funext j
  by_cases e : j = i - 1
  · rw [e, upI_s]
    unfold shB
    rw [if_pos (by omega), show 1 + (i - 1) = i by omega, h]
  · rw [upI_n e]
    unfold shB
    by_cases c : 0 ≤ j ∧ j < i - 1
    · rw [if_pos c, if_pos (by omega)]
    · rw [if_neg c, if_neg (by omega)]
section AH
variable {D : va_G} {N : Nat → Prop} {now : Int → Int} {hist : Int → Int → Int} {G G1 : gh} {sa : Nat} {bf : Int → Option Nat} {km : Int}
def hbP (D : va_G) (N : Nat → Prop) (G : gh) (bf : Int → Option Nat) (hist : Int → Int → Int) (km : Int) : Prop := ∀ i : Int, 0 ≤ i → i < km → ∃ s : Nat, bf (km - 1 - i) = some s ∧ stO D N G (hist i) s
theorem act_h1 (hst : stO D N G now sa) (hbf : ∀ i : Int, 0 ≤ i → i < km → ∃ s : Nat, bf (km - 1 - i) = some s ∧ stO D N G (hist i) s) (hx : gExt G G1 N) (h0 : 0 ≤ km) (h32 : km < 32) : ∀ i : Int, 0 ≤ i → i < kmF km → ∃ s : Nat, upI bf km (some sa) (kmF km - 1 - i) = some s ∧ stO D N G1 (pushH now hist i) s := by
  intro i i0 i1
  unfold kmF at i1 ⊢
  rw [if_pos h32] at i1 ⊢
  unfold pushH
  by_cases e : i = 0
  · rw [if_pos e]
    exact ⟨sa, by rw [show 1 + km - 1 - i = km by omega, upI_s], hst.mono hx⟩
  · rw [if_neg e]
    obtain ⟨s, h1, h2⟩ := hbf (i - 1) (by omega) (by omega)
    exact ⟨s, by rw [upI_n (by omega), show 1 + km - 1 - i = km - 1 - (i - 1) by omega]; exact h1, h2.mono hx⟩
theorem act_h2 (hst : stO D N G now sa) (hbf : ∀ i : Int, 0 ≤ i → i < km → ∃ s : Nat, bf (km - 1 - i) = some s ∧ stO D N G (hist i) s) (hx : gExt G G1 N) (h32 : km = 32) : ∀ i : Int, 0 ≤ i → i < kmF km → ∃ s : Nat, upI (shB bf 32) 31 (some sa) (kmF km - 1 - i) = some s ∧ stO D N G1 (pushH now hist i) s := by
  intro i i0 i1
  unfold kmF at i1 ⊢
  rw [if_neg (by omega)] at i1 ⊢
  unfold pushH
  by_cases e : i = 0
  · rw [if_pos e]
    exact ⟨sa, by rw [show 32 - 1 - i = 31 by omega, upI_s], hst.mono hx⟩
  · rw [if_neg e]
    obtain ⟨s, h1, h2⟩ := hbf (i - 1) (by omega) (by omega)
    refine ⟨s, ?_, h2.mono hx⟩
    rw [upI_n (by omega)]
    unfold shB
    rw [if_pos (by omega), show 1 + (32 - 1 - i) = km - 1 - (i - 1) by omega]
    exact h1
theorem und_h (hbf : ∀ i : Int, 0 ≤ i → i < km → ∃ s : Nat, bf (km - 1 - i) = some s ∧ stO D N G (hist i) s) (hx : gExt G G1 N) : ∀ i : Int, 0 ≤ i → i < km - 1 → ∃ s : Nat, bf (km - 1 - 1 - i) = some s ∧ stO D N G1 (hist (1 + i)) s := by
  intro i i0 i1
  obtain ⟨s, h1, h2⟩ := hbf (1 + i) (by omega) (by omega)
  exact ⟨s, by rw [show km - 1 - 1 - i = km - 1 - (1 + i) by omega]; exact h1, h2.mono hx⟩
theorem hb_mono (hbf : ∀ i : Int, 0 ≤ i → i < km → ∃ s : Nat, bf (km - 1 - i) = some s ∧ stO D N G (hist i) s) (hx : gExt G G1 N) : ∀ i : Int, 0 ≤ i → i < km → ∃ s : Nat, bf (km - 1 - i) = some s ∧ stO D N G1 (hist i) s := by
  intro i i0 i1
  obtain ⟨s, h1, h2⟩ := hbf i i0 i1
  exact ⟨s, h1, h2.mono hx⟩
end AH
theorem rl_up {rf reel : Int → Int} {rd f : Int} (h : ∀ k : Int, 0 ≤ k → k < rd → rf k = reel k) : ∀ k : Int, 0 ≤ k → k < 1 + rd → upI rf rd f k = upI reel rd f k := by
  intro k k0 k1
  by_cases e : k = rd
  · rw [e, upI_s, upI_s]
  · rw [upI_n e, upI_n e]
    exact h k k0 (by omega)
theorem stO.objN {D : va_G} {N : Nat → Prop} {G : gh} {now : Int → Int} {a : Nat} (h : stO D N G now a) : ∃ vs : List Value, G a = some (eO 7 vs) ∧ ¬ N a := by
  obtain ⟨pa, la, wa, ea, h1, -⟩ := h
  exact ⟨_, h1.1, h1.2⟩
