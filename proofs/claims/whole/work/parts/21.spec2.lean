theorem keptOK_push {ke km : Int} {kept kept' now : Int → Int} {hist : Int → Int → Int} (h : keptOK ke km kept hist) (h1 : ∀ k : Int, 0 ≤ k → k < 3828 → kept' (3828 * ke + k) = now k) (h2 : ∀ j : Int, j < 3828 * ke ∨ 3828 * ke + 3828 ≤ j → kept' j = kept j) : keptOK ((1 + ke) % 32) (kmF km) kept' (pushH now hist) := by
  obtain ⟨a, b, c, d, e⟩ := h
  refine ⟨by omega, by omega, by unfold kmF; split <;> omega, by unfold kmF; split <;> omega, fun i k hi hi2 hk hk2 => ?_⟩
  have hi3 : i < 32 ∧ i ≤ km := by unfold kmF at hi2; split at hi2 <;> omega
  by_cases h0 : i = 0
  · subst h0
    rw [show ((1 + ke) % 32 + 31 - 0) % 32 = ke by omega, h1 k hk hk2]
    simp [pushH]
  · have e1 : ((1 + ke) % 32 + 31 - i) % 32 = (ke + 31 - (i - 1)) % 32 := by omega
    rw [e1, h2 _ (by omega), e (i - 1) k (by omega) (by omega) hk hk2]
    simp [pushH, h0]
theorem keptOK_pop {ke km : Int} {kept : Int → Int} {hist : Int → Int → Int} (h : keptOK ke km kept hist) (h0 : km ≠ 0) : keptOK ((31 + ke) % 32) (km - 1) kept (fun i => hist (1 + i)) ∧ ∀ k : Int, 0 ≤ k → k < 3828 → kept (3828 * ((31 + ke) % 32) + k) = hist 0 k := by
  obtain ⟨a, b, c, d, e⟩ := h
  refine ⟨⟨by omega, by omega, by omega, by omega, fun i k hi hi2 hk hk2 => ?_⟩, fun k hk hk2 => ?_⟩
  · rw [show ((31 + ke) % 32 + 31 - i) % 32 = (ke + 31 - (1 + i)) % 32 by omega]
    exact e (1 + i) k (by omega) (by omega) hk hk2
  · rw [show (31 + ke) % 32 = (ke + 31 - 0) % 32 by omega]
    exact e 0 k (by omega) (by omega) hk hk2
/-- the reference, as its calls leave it -/
def mQ (D : va_G) (A : Nat → Nat) (now : Int → Int) (hist : Int → Int → Int) (km rd : Int) (reel : Int → Int) (G : gh) : Prop := ∃ (th ke : Int) (kept part best : Int → Int), mS D A th ke km rd now kept reel part best G ∧ keptOK ke km kept hist
/-- an answer, and the state behind the call: none, as it was -/
abbrev sR : Type := Int × Option (Int → Int)
def mEnd (D : va_G) (A : Nat → Nat) (now : Int → Int) (hist : Int → Int → Int) (km rd : Int) (reel : Int → Int) (r : sR) : Int → gh → Prop := fun z G => z = r.1 ∧ match r.2 with
  | none => mQ D A now hist km rd reel G
  | some nw => mQ D A nw (pushH now hist) (kmF km) rd reel G
theorem mEnd.m0 {D : va_G} {A : Nat → Nat} {now : Int → Int} {hist : Int → Int → Int} {km rd : Int} {reel : Int → Int} {r : sR} {z : Int} {G : gh} (e : r = (z, none)) (h : mQ D A now hist km rd reel G) : mEnd D A now hist km rd reel r z G := by rw [e]; exact ⟨rfl, h⟩
theorem mEnd.m1 {D : va_G} {A : Nat → Nat} {now nw : Int → Int} {hist : Int → Int → Int} {km rd : Int} {reel : Int → Int} {r : sR} {z : Int} {G : gh} (e : r = (z, some nw)) (h : mQ D A nw (pushH now hist) (kmF km) rd reel G) : mEnd D A now hist km rd reel r z G := by rw [e]; exact ⟨rfl, h⟩
def sPile (now : Int → Int) (p f n : Int) : sR := if ¬ (0 ≤ p ∧ p ≤ 9 ∧ 1 ≤ f ∧ f ≤ 500 ∧ 0 ≤ n ∧ n ≤ 60) then (-3, none) else if now p ≠ -1 then (-4, none) else (n, some (holdF now p 0 f 0 n))
def sOver (now : Int → Int) (p o f n : Int) : sR := if ¬ (0 ≤ p ∧ p ≤ 9 ∧ 1 ≤ o ∧ o ≤ 500 ∧ 1 ≤ f ∧ f ≤ 500 ∧ 0 ≤ n ∧ n ≤ 60) then (-3, none) else if now p ≠ -1 then (-4, none) else (n, some (holdF now p 4 f o n))
def sStrip (now reel : Int → Int) (rd p : Int) : sR := if ¬ (0 ≤ p ∧ p ≤ 9) then (-3, none) else if now p ≠ -1 then (-4, none) else (rd, some (stripF now reel p rd))
def sSheet (now : Int → Int) (p k rows cols f : Int) : sR := if ¬ (0 ≤ p ∧ p ≤ 9 ∧ 2 ≤ k ∧ k ≤ 3 ∧ 1 ≤ f ∧ f ≤ 500 ∧ rows ≤ 8 ∧ cols ≤ 8) then (-3, none) else if now p ≠ -1 then (-4, none) else if rows < 0 ∨ cols < 0 then (-14, none) else if rows = 0 ∨ cols = 0 ∨ (k = 3 ∧ cols % 2 = 1) then (-3, none) else (rows * cols, some (sheetF now p k rows cols f))
def sLack (now : Int → Int) (p r : Int) : sR := if ¬ (0 ≤ p ∧ p ≤ 9) then (-3, none) else if now p = -1 then (-11, none) else if ¬ (now p = 2 ∨ now p = 3) then (-12, none) else if ¬ (0 ≤ r ∧ r < now (40 + p)) then (-13, none) else if now (1100 + 8 * p + r) = 1 then (-11, none) else (cntP now (460 + 64 * p + now (50 + p) * r) (now (50 + p)).toNat, some (lackF now p r))
def sClear (now : Int → Int) (p : Int) : sR := if ¬ (0 ≤ p ∧ p ≤ 9) then (-3, none) else if now p = -1 then (-11, none) else (1, some (clearF now p))
def sLook (now : Int → Int) (p k a b : Int) : sR := (if ¬ (0 ≤ p ∧ p ≤ 9 ∧ 0 ≤ k ∧ k ≤ 4) then -3 else if now p = -1 then -11 else if ¬ (k = 0 ∨ now p = k ∨ (k = 2 ∧ now p = 3)) then -12 else if k = 0 then now (10 + p) else if k = 4 then now (30 + p) else if k = 1 then (if 0 ≤ a ∧ a < now (10 + p) then now (60 + 40 * p + a) else -13) else if ¬ (0 ≤ a ∧ a < now (40 + p)) then -13 else if now (1100 + 8 * p + a) = 1 then -11 else if k = 2 then (if 0 ≤ b ∧ b < now (50 + p) then now (460 + 64 * p + (now (50 + p) * a + b)) else -13) else if 0 ≤ b ∧ b < now (50 + p) / 2 then now (460 + 64 * p + (now (50 + p) * a + 2 * b)) + now (460 + 64 * p + (now (50 + p) * a + 2 * b + 1)) else -13, none)
def sReel (rd f : Int) : Int := if ¬ (1 ≤ f ∧ f ≤ 500) then -3 else if rd = 40 then -5 else 1 + rd
