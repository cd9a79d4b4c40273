def Nok (N : Nat → Prop) (G : gh) : Prop := ∀ b : Nat, N b → G b ≠ none
theorem Nok.le {N : Nat → Prop} {G G' : gh} (h : Nok N G) (hl : gLe G G') : Nok N G' := fun b hb e => h b hb (hl.non e)
theorem Nok.new {N : Nat → Prop} {G : gh} {b : Nat} (h : Nok N G) (e : G b = none) : ¬ N b := fun q => h b q e
theorem fc_step {c i k : Int} (h1 : 1 ≤ c) (h2 : c ≤ 8) : ((k < i * c ∧ k % c = 0) ∨ k = i * c) ↔ (k < (1 + i) * c ∧ k % c = 0) := by
  have : c = 1 ∨ c = 2 ∨ c = 3 ∨ c = 4 ∨ c = 5 ∨ c = 6 ∨ c = 7 ∨ c = 8 := by omega
  rcases this with h | h | h | h | h | h | h | h <;> subst h <;> constructor <;> intro q <;> omega
theorem ic_bd {c i r : Int} (hs : shP r c) (h0 : 0 ≤ i) (h1 : i < r) : 0 ≤ i * c ∧ i * c < 64 := by
  obtain ⟨⟨r0, r1⟩, c0, c1⟩ := hs
  have : c = 1 ∨ c = 2 ∨ c = 3 ∨ c = 4 ∨ c = 5 ∨ c = 6 ∨ c = 7 ∨ c = 8 := by omega
  rcases this with h | h | h | h | h | h | h | h <;> subst h <;> omega
theorem lc_of {r c : Int} {fc : BitVec 64} (hs : shP r c) (hf : fcOK r c fc) : lcOK r c (fc <<< (Int.toNat (c - 1))) := by
  intro k k0 k1
  obtain ⟨⟨r0, r1⟩, c0, c1⟩ := hs
  have hrc := rc_bd r0 r1 c0 c1
  rw [bB_shl k0 k1, show ((Int.toNat (c - 1) : Nat) : Int) = c - 1 by omega]
  constructor
  · rintro ⟨a, b⟩
    rw [hf _ (by omega) (by omega)] at b
    have : c = 1 ∨ c = 2 ∨ c = 3 ∨ c = 4 ∨ c = 5 ∨ c = 6 ∨ c = 7 ∨ c = 8 := by omega
    rcases this with h | h | h | h | h | h | h | h <;> subst h <;> omega
  · rintro ⟨a, b⟩
    have hk : c - 1 ≤ k := by
      have := md_c c0 c1 k0 a
      have : c = 1 ∨ c = 2 ∨ c = 3 ∨ c = 4 ∨ c = 5 ∨ c = 6 ∨ c = 7 ∨ c = 8 := by omega
      rcases this with h | h | h | h | h | h | h | h <;> subst h <;> omega
    refine ⟨hk, ?_⟩
    rw [hf _ (by omega) (by omega)]
    have : c = 1 ∨ c = 2 ∨ c = 3 ∨ c = 4 ∨ c = 5 ∨ c = 6 ∨ c = 7 ∨ c = 8 := by omega
    rcases this with h | h | h | h | h | h | h | h <;> subst h <;> omega
/-- a holding, n of it given, the squares z torn off -/
def wtOK (now now' : Int → Int) (p n : Int) (z : BitVec 64) : Prop := now' p = now p ∧ now' (10 + p) = now (10 + p) - n ∧ now' (20 + p) = now (20 + p) ∧ now' (30 + p) = now (30 + p) ∧ now' (40 + p) = now (40 + p) ∧ now' (50 + p) = now (50 + p) ∧ (∀ k : Int, 0 ≤ k → k < 40 → now' (60 + 40 * p + k) = now (60 + 40 * p + k)) ∧ (∀ r : Int, 0 ≤ r → r < 8 → now' (1100 + 8 * p + r) = now (1100 + 8 * p + r)) ∧ (now p = 2 ∨ now p = 3 → ∀ k : Int, 0 ≤ k → k < 64 → now' (460 + 64 * p + k) = if bI z k = true then 0 else now (460 + 64 * p + k))
theorem sq_without {now now' : Int → Int} {p n : Int} {x z : BitVec 64} (h : wtOK now now' p n z) (hk : now p = 2 ∨ now p = 3) (hsq : sqOK now p x) : sqOK now' p (x &&& nB z) := by
  intro k k0 k1
  rw [bB_and, nB_bit k0 k1, hsq k k0 k1, h.2.2.2.2.2.2.2.2 hk k k0 k1]
  by_cases e : bI z k = true
  · rw [if_pos e]
    exact ⟨fun q => absurd e q.2, fun q => absurd rfl q⟩
  · rw [if_neg e]
    exact ⟨fun q => q.1, fun q => ⟨q, e⟩⟩
theorem ms_without {now now' : Int → Int} {p n m : Int} {z : BitVec 64} (h : wtOK now now' p n z) (hr : now (40 + p) ≤ 8) (hm : msOK now p m) : msOK now' p m := by
  refine ⟨hm.1, fun r r0 r1 => ?_⟩
  rw [h.2.2.2.2.1] at r1
  rw [h.2.2.2.2.2.2.2.1 r r0 (by omega)]
  exact hm.2 r r0 r1
