/-! the state as the reference's array now; what the calls make of it -/
def sumI (f : Int → Int) : Nat → Int
  | 0 => 0
  | n + 1 => sumI f n + f n
theorem sumI_0 (f : Int → Int) : sumI f (Int.toNat 0) = 0 := rfl
theorem sumI_s (f : Int → Int) {i : Int} (h : 0 ≤ i) : sumI f (1 + i).toNat = sumI f i.toNat + f i := by
  obtain ⟨n, rfl⟩ := Int.eq_ofNat_of_zero_le h
  rw [show (1 + (n : Int)).toNat = n + 1 by omega, show ((n : Int)).toNat = n by omega]
  rfl
theorem sumI_cong {f g : Int → Int} : ∀ {n : Nat}, (∀ k : Int, 0 ≤ k → k < n → f k = g k) → sumI f n = sumI g n
  | 0, _ => rfl
  | n + 1, h => by
    show sumI f n + f n = sumI g n + g n
    rw [sumI_cong (fun k h0 h1 => h k h0 (by omega)), h n (by omega) (by omega)]
theorem sumI_bd {f : Int → Int} {a b : Int} : ∀ {n : Nat}, (∀ k : Int, 0 ≤ k → k < n → a ≤ f k ∧ f k ≤ b) → n * a ≤ sumI f n ∧ sumI f n ≤ n * b
  | 0, _ => by simp [sumI]
  | n + 1, h => by
    have h1 := sumI_bd (f := f) (a := a) (b := b) (n := n) (fun k h0 h1 => h k h0 (by omega))
    have h2 := h n (by omega) (by omega)
    have e : ((n + 1 : Nat) : Int) = n + 1 := by omega
    rw [e, Int.add_mul, Int.add_mul]
    show _ ≤ sumI f n + f n ∧ sumI f n + f n ≤ _
    omega
def FAR : Int := 1000000
/-- kinds, faces, sizes, .. stay in their ranges -/
def okK (now : Int → Int) : Prop := ∀ p : Int, 0 ≤ p → p < 10 → -1 ≤ now p ∧ now p ≤ 4 ∧ 0 ≤ now (10 + p) ∧ now (10 + p) ≤ 64 ∧ 0 ≤ now (20 + p) ∧ now (20 + p) ≤ 500 ∧ 0 ≤ now (30 + p) ∧ now (30 + p) ≤ 500 ∧ 0 ≤ now (40 + p) ∧ now (40 + p) ≤ 8 ∧ 0 ≤ now (50 + p) ∧ now (50 + p) ≤ 8 ∧ (now p = 1 → now (10 + p) ≤ 40) ∧ (now p = 2 ∨ now p = 3 → 1 ≤ now (40 + p) ∧ 1 ≤ now (50 + p) ∧ 1 ≤ now (20 + p)) ∧ (now p = 3 → now (50 + p) % 2 = 0) ∧ (now p = -1 → now (10 + p) = 0) ∧ (now p = 0 ∨ now p = 4 → 1 ≤ now (20 + p))
def okS (now : Int → Int) : Prop := ∀ p a : Int, 0 ≤ p → p < 10 → 0 ≤ a → a < 40 → 0 ≤ now (60 + 40 * p + a) ∧ now (60 + 40 * p + a) ≤ 500 ∧ (now p = 1 → a < now (10 + p) → 1 ≤ now (60 + 40 * p + a))
def okQ (now : Int → Int) : Prop := ∀ p k : Int, 0 ≤ p → p < 10 → 0 ≤ k → k < 64 → 0 ≤ now (460 + 64 * p + k) ∧ now (460 + 64 * p + k) ≤ 500 ∧ (now p = 2 ∨ now p = 3 → now (460 + 64 * p + k) = 0 ∨ now (460 + 64 * p + k) = now (20 + p))
def okL (now : Int → Int) : Prop := ∀ p r : Int, 0 ≤ p → p < 10 → 0 ≤ r → r < 8 → 0 ≤ now (1100 + 8 * p + r) ∧ now (1100 + 8 * p + r) ≤ 1
def okW (now : Int → Int) : Prop := ∀ w : Int, 0 ≤ w → w < 6 → 0 ≤ now (1180 + w) ∧ now (1180 + w) ≤ 8 ∧ ∀ k : Int, 0 ≤ k → k < now (1180 + w) → 1 ≤ now (1186 + 8 * w + k) ∧ now (1186 + 8 * w + k) ≤ 5000 ∧ 1 ≤ now (1234 + 8 * w + k) ∧ now (1234 + 8 * w + k) ≤ 1200
def okE (now : Int → Int) : Prop := ∀ k : Int, 0 ≤ k → k < 4 → 0 ≤ now (1282 + k) ∧ now (1282 + k) ≤ 200
def okN (now : Int → Int) : Prop := 0 ≤ now 1286 ∧ now 1286 ≤ 60 ∧ ∀ n : Int, 0 ≤ n → n < now 1286 → 0 ≤ now (1287 + n) ∧ now (1287 + n) ≤ 2000 ∧ 0 ≤ now (1347 + n) ∧ now (1347 + n) ≤ 3200 ∧ 0 ≤ now (1407 + n) ∧ now (1407 + n) ≤ 640 ∧ 0 ≤ now (1467 + n) ∧ now (1467 + n) ≤ 1 ∧ (now (1467 + n) = 0 → now (1347 + n) = 0 ∧ now (1407 + n) = 0) ∧ ∀ p : Int, 0 ≤ p → p < 10 → 0 ≤ now (1527 + 10 * n + p) ∧ now (1527 + 10 * n + p) ≤ 64
def okG (now : Int → Int) : Prop := ∀ f : Int, 1 ≤ f → f ≤ 500 → 0 ≤ now (3327 + f)
/-- a sheet's stamps are counted, its size is enough, pairs are whole -/
def okC (now : Int → Int) : Prop := ∀ p : Int, 0 ≤ p → p < 10 → now p = 2 ∨ now p = 3 → now (10 + p) = sumI (fun k => if now (460 + 64 * p + k) = 0 then 0 else 1) (now (40 + p) * now (50 + p)).toNat ∧ (∀ k : Int, now (40 + p) * now (50 + p) ≤ k → k < 64 → now (460 + 64 * p + k) = 0) ∧ (now p = 3 → ∀ k : Int, 0 ≤ k → k < 32 → now (460 + 64 * p + 2 * k) = now (460 + 64 * p + (2 * k + 1))) ∧ ∀ r k : Int, 0 ≤ r → r < now (40 + p) → 0 ≤ k → k < now (50 + p) → now (1100 + 8 * p + r) = 1 → now (460 + 64 * p + (now (50 + p) * r + k)) = 0
/-- of a letter that isn't paid nothing is torn; there is nothing outside -/
def okT (now : Int → Int) : Prop := ∀ l p : Int, 0 ≤ l → l < now 1286 → 0 ≤ p → p < 10 → now (1467 + l) = 0 → now (2127 + 20 * l + 2 * p) = 0 ∧ now (2127 + 20 * l + 2 * p + 1) = 0 ∧ now (1527 + 10 * l + p) = 0
def okZ (now : Int → Int) : Prop := ∀ j : Int, j < 0 ∨ 3828 ≤ j → now j = 0
def mOK (now : Int → Int) : Prop := okK now ∧ okS now ∧ okQ now ∧ okL now ∧ okW now ∧ okE now ∧ okN now ∧ okG now ∧ okC now ∧ okT now ∧ okZ now
/-- a place gets a new holding -/
def holdF (now : Int → Int) (p kind face old n : Int) : Int → Int := fun j => if j = p then kind else if j = 10 + p then n else if j = 20 + p then face else if j = 30 + p then old else if j = 40 + p ∨ j = 50 + p then 0 else if 1100 + 8 * p ≤ j ∧ j < 1108 + 8 * p then 0 else if 460 + 64 * p ≤ j ∧ j < 524 + 64 * p then 0 else now j
def stripF (now reel : Int → Int) (p rd : Int) : Int → Int := fun j => if 60 + 40 * p ≤ j ∧ j < 60 + 40 * p + rd then reel (j - (60 + 40 * p)) else holdF now p 1 0 0 rd j
def sheetF (now : Int → Int) (p kind rows columns face : Int) : Int → Int := fun j => if 460 + 64 * p ≤ j ∧ j < 460 + 64 * p + rows * columns then face else if j = 40 + p then rows else if j = 50 + p then columns else holdF now p kind face 0 (rows * columns) j
/-- how many of n squares from a place of the array on have a stamp -/
def cntP (f : Int → Int) (a : Int) (n : Nat) : Int := sumI (fun k => if 0 < f (a + k) then 1 else 0) n
def lackF (now : Int → Int) (p row : Int) : Int → Int := fun j => if j = 1100 + 8 * p + row then 1 else if 460 + 64 * p + now (50 + p) * row ≤ j ∧ j < 460 + 64 * p + now (50 + p) * row + now (50 + p) then 0 else if j = 10 + p then now j - cntP now (460 + 64 * p + now (50 + p) * row) (now (50 + p)).toNat else now j
def clearF (now : Int → Int) (p : Int) : Int → Int := fun j => if j = p then -1 else if j = 10 + p then 0 else now j
def rateF (now : Int → Int) (w grams price : Int) : Int → Int := fun j => if j = 1186 + 8 * w + now (1180 + w) then grams else if j = 1234 + 8 * w + now (1180 + w) then price else if j = 1180 + w then 1 + now (1180 + w) else now j
def extraF (now : Int → Int) (k price : Int) : Int → Int := fun j => if j = 1282 + k then price else now j
def letterF (now : Int → Int) (price : Int) : Int → Int := fun j => if j = 1287 + now 1286 then price else if j = 1347 + now 1286 ∨ j = 1407 + now 1286 ∨ j = 1467 + now 1286 then 0 else if 1527 + 10 * now 1286 ≤ j ∧ j < 1537 + 10 * now 1286 then 0 else if 2127 + 20 * now 1286 ≤ j ∧ j < 2147 + 20 * now 1286 then 0 else if j = 1286 then 1 + now 1286 else now j
/-- the sum of the faces at a place -/
def facesF (now : Int → Int) (p : Int) : Int := if now p = 1 then sumI (fun a => now (60 + 40 * p + a)) (now (10 + p)).toNat else now (10 + p) * now (20 + p)
def paysF (now : Int → Int) (p n : Int) : Int := if now p = 1 then sumI (fun k => now (60 + 40 * p + (now (10 + p) - (1 + k)))) n.toNat else n * now (20 + p)
def mayF (now : Int → Int) (p n : Int) : Prop := now p = 3 → n % 2 = 0
def allF (now : Int → Int) : Int := sumI (fun p => if now p = -1 then 0 else facesF now p) 10
/-- the latest states that are kept -/
def keptOK (ke km : Int) (kept : Int → Int) (hist : Int → Int → Int) : Prop := 0 ≤ ke ∧ ke < 32 ∧ 0 ≤ km ∧ km ≤ 32 ∧ ∀ i k : Int, 0 ≤ i → i < km → 0 ≤ k → k < 3828 → kept (3828 * ((ke + 31 - i) % 32) + k) = hist i k
def pushH (now : Int → Int) (hist : Int → Int → Int) : Int → Int → Int := fun i => if i = 0 then now else hist (i - 1)
def kmF (km : Int) : Int := if km < 32 then 1 + km else 32
