abbrev iT (z : Int) : Int := (iI z).toInt
def wholeF (w : UInt32) : Int := if fcG (fF (fI w)) w < 0 then (iI (1 + fI w)).toInt else fI w
theorem fI_R (w : UInt32) : inR (fI w) := i32_inR _
theorem fcL_R (x y : UInt32) : inR (fcL x y) := i32_inR _
theorem fcG_R (x y : UInt32) : inR (fcG x y) := i32_inR _
theorem wholeF_R (w : UInt32) : inR (wholeF w) := by unfold wholeF; split; exact i32_inR _; exact i32_inR _
def wOK (w : UInt32) : Prop := 0 ≤ fcL w FP.fconst0 ∧ fcG w 1232348160 ≤ 0
def exbit (e k : Int) : Int := (e / (2 : Int) ^ k.toNat) % 2
theorem exbit_of : ∀ (e : Fin 16) (k : Fin 4), (iI (e.val : Int) >>> (iI (k.val : Int) &&& 31)) &&& iI 1 = iI (exbit e.val k.val) := by decide +kernel
theorem exbit_z {e k z z2 : Int} (he : 0 ≤ e ∧ e ≤ 15) (hk : 0 ≤ k ∧ k < 4) (h1 : iI z = iI e >>> (iI k &&& 31)) (h2 : iI z2 = iI z &&& iI 1) (hz : inR z2) : z2 = exbit e k := by
  obtain ⟨a, rfl⟩ := Int.eq_ofNat_of_zero_le he.1
  obtain ⟨b, rfl⟩ := Int.eq_ofNat_of_zero_le hk.1
  have h := exbit_of ⟨a, by omega⟩ ⟨b, by omega⟩
  rw [h1, h] at h2
  refine (iI_eq hz ?_).mp h2
  unfold exbit
  constructor <;> omega
def exSum (now : Int → Int) (e : Int) : Int := sumI (fun k => if exbit e k = 1 then now (1282 + k) else 0) 4
def sRate (now : Int → Int) (w g pr : Int) : sR := if ¬ (0 ≤ w ∧ w ≤ 5 ∧ 1 ≤ g ∧ g ≤ 5000 ∧ 1 ≤ pr ∧ pr ≤ 1200) then (-3, none) else if 0 < now (1180 + w) ∧ (g ≤ now (1185 + 8 * w + now (1180 + w)) ∨ pr ≤ now (1233 + 8 * w + now (1180 + w))) then (-3, none) else if now (1180 + w) = 8 then (-5, none) else (1 + now (1180 + w), some (rateF now w g pr))
def sExtra (now : Int → Int) (k pr : Int) : sR := if ¬ (0 ≤ k ∧ k ≤ 3 ∧ 0 ≤ pr ∧ pr ≤ 200) then (-3, none) else (now (1282 + k), some (extraF now k pr))
def sGrams (w : UInt32) (z : Int) : Prop := (wOK w ∧ z = wholeF w) ∨ (¬ wOK w ∧ z = -3)
def prOK (way ex : Int) (w : UInt32) : Prop := 0 ≤ way ∧ way ≤ 5 ∧ wOK w ∧ 0 ≤ ex ∧ ex ≤ 15
/-- the price of a letter: of the first step whose grams are enough -/
def sPrice (now : Int → Int) (way : Int) (w : UInt32) (ex z : Int) : Prop := (¬ prOK way ex w ∧ z = -3) ∨ (prOK way ex w ∧ ∃ k : Int, 0 ≤ k ∧ k < now (1180 + way) ∧ wholeF w ≤ now (1186 + 8 * way + k) ∧ (∀ j : Int, 0 ≤ j → j < k → now (1186 + 8 * way + j) < wholeF w) ∧ z = exSum now ex + now (1234 + 8 * way + k)) ∨ (prOK way ex w ∧ (∀ j : Int, 0 ≤ j → j < now (1180 + way) → now (1186 + 8 * way + j) < wholeF w) ∧ z = -1)
theorem sPrice_one {now : Int → Int} {way ex z z2 : Int} {w : UInt32} (h : sPrice now way w ex z) (h2 : sPrice now way w ex z2) : z = z2 := by
  rcases h with ⟨a, b⟩ | ⟨a, k, k0, k1, k2, k3, b⟩ | ⟨a, k3, b⟩ <;> rcases h2 with ⟨a', b'⟩ | ⟨a', k', k0', k1', k2', k3', b'⟩ | ⟨a', k3', b'⟩
  · rw [b, b']
  · exact absurd a' a
  · exact absurd a' a
  · exact absurd a a'
  · have e : k = k' := by
      rcases Int.lt_trichotomy k k' with q | q | q
      · have := k3' k k0 q; omega
      · exact q
      · have := k3 k' k0' q; omega
    rw [b, b', e]
  · have := k3' k k0 k1; omega
  · exact absurd a a'
  · have := k3 k' k0' k1'; omega
  · rw [b, b']
theorem exSum_bd {now : Int → Int} (h : okE now) (e : Int) : 0 ≤ exSum now e ∧ exSum now e ≤ 800 := by
  have h := sumI_bd (f := fun k => if exbit e k = 1 then now (1282 + k) else 0) (a := 0) (b := 200) (n := 4) (fun k h0 h1 => by
    have := h k h0 (by omega)
    show 0 ≤ (if exbit e k = 1 then now (1282 + k) else 0) ∧ (if exbit e k = 1 then now (1282 + k) else 0) ≤ 200
    split <;> omega)
  unfold exSum
  omega
def sLetter (now : Int → Int) (way : Int) (w : UInt32) (ex : Int) (r : sR) : Prop := ∃ z : Int, sPrice now way w ex z ∧ r = if z < 0 then (z, none) else if now 1286 = 60 then (-5, none) else (now 1286, some (letterF now z))
def isLet (now : Int → Int) (l : Int) : Prop := 0 ≤ l ∧ l < now 1286
def sGiven (now : Int → Int) (l p : Int) : Int := if 0 ≤ l ∧ l < now 1286 ∧ 0 ≤ p ∧ p ≤ 9 then now (1527 + 10 * l + p) else -3
def sGone (now : Int → Int) (f : Int) : Int := if 1 ≤ f ∧ f ≤ 500 then now (3327 + f) else -3
def sTold (now : Int → Int) (l w : Int) : Int := if ¬ (0 ≤ l ∧ l < now 1286 ∧ 0 ≤ w ∧ w ≤ 5) then -3 else if w = 0 then now (1287 + l) else if w = 1 then now (1347 + l) else if w = 2 then (if now (1467 + l) = 1 then now (1347 + l) - now (1287 + l) else 0) else if w = 3 then now (1407 + l) else if w = 4 then (if now (1467 + l) = 1 ∨ now (1287 + l) ≤ allF now then 0 else now (1287 + l) - allF now) else now (1467 + l)
theorem facesF_bd {now : Int → Int} (hK : okK now) (hS : okS now) {p : Int} (h0 : 0 ≤ p) (h1 : p < 10) : 0 ≤ facesF now p ∧ facesF now p ≤ 32000 := by
  have hk := hK p h0 h1
  unfold facesF
  by_cases e : now p = 1
  · rw [if_pos e]
    have := sumI_bd (f := fun a => now (60 + 40 * p + a)) (a := 0) (b := 500) (n := (now (10 + p)).toNat) (fun k k0 k1 => by have := hS p k h0 h1 k0 (by omega); show 0 ≤ now (60 + 40 * p + k) ∧ now (60 + 40 * p + k) ≤ 500; omega)
    omega
  · rw [if_neg e]
    have h2 : now (10 + p) * now (20 + p) ≤ 64 * 500 := Int.mul_le_mul (by omega) (by omega) (by omega) (by decide)
    have h3 : 0 ≤ now (10 + p) * now (20 + p) := Int.mul_nonneg (by omega) (by omega)
    omega
theorem allF_bd {now : Int → Int} (hK : okK now) (hS : okS now) : 0 ≤ allF now ∧ allF now ≤ 320000 := by
  have h := sumI_bd (f := fun p => if now p = -1 then 0 else facesF now p) (a := 0) (b := 32000) (n := 10) (fun p h0 h1 => by
    have := facesF_bd hK hS h0 (by omega : p < 10)
    show 0 ≤ (if now p = -1 then 0 else facesF now p) ∧ (if now p = -1 then 0 else facesF now p) ≤ 32000
    split <;> omega)
  unfold allF
  omega
