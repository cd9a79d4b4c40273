/-! what is torn off: bits -/
def shb (x k : Int) : Int := ((iI x >>> (iI k &&& 31)) &&& iI 1).toInt
theorem and1_01 (y : Int32) : (y &&& iI 1).toInt = 0 ∨ (y &&& iI 1).toInt = 1 := by
  obtain ⟨j, hj, e⟩ := pk_andE y (m := iI 1) 1 (by decide)
  rw [e]
  have : j = 0 ∨ j = 1 := by omega
  rcases this with h | h <;> subst h
  · exact Or.inl (by decide)
  · exact Or.inr (by decide)
theorem shb_01 (x k : Int) : shb x k = 0 ∨ shb x k = 1 := and1_01 _
theorem shb_z {x k z z2 : Int} (h1 : iI z = iI x >>> (iI k &&& 31)) (h2 : iI z2 = iI z &&& iI 1) (hz : inR z2) : z2 = shb x k := by
  unfold shb
  rw [← h1, ← h2, iI_toInt hz]
def tq (now : Int → Int) (l p k : Int) : Int := shb (now (2127 + 20 * l + 2 * p + (k / 32))) (k % 32)
def tl (now : Int → Int) (l m : Int) : Int := tq now l (m / 64) (m % 64)
theorem tl_bd (now : Int → Int) (l : Int) (n : Nat) : 0 ≤ sumI (tl now l) n ∧ sumI (tl now l) n ≤ n := by
  have := sumI_bd (f := tl now l) (a := 0) (b := 1) (n := n) (fun k _ _ => by have := shb_01 (now (2127 + 20 * l + 2 * (k / 64) + (k % 64 / 32))) (k % 64 % 32); show 0 ≤ shb (now (2127 + 20 * l + 2 * (k / 64) + (k % 64 / 32))) (k % 64 % 32) ∧ shb (now (2127 + 20 * l + 2 * (k / 64) + (k % 64 / 32))) (k % 64 % 32) ≤ 1; omega)
  omega
def sTorn (now : Int → Int) (l i z : Int) : Prop := (¬ (0 ≤ l ∧ l < now 1286) ∧ z = -3) ∨ ((0 ≤ l ∧ l < now 1286) ∧ ∃ m : Int, 0 ≤ m ∧ m < 640 ∧ tl now l m = 1 ∧ sumI (tl now l) m.toNat = i ∧ z = 100 * (m / 64) + m % 64) ∨ ((0 ≤ l ∧ l < now 1286) ∧ (∀ m : Int, 0 ≤ m → m < 640 → tl now l m = 1 → sumI (tl now l) m.toNat ≠ i) ∧ z = -1)
