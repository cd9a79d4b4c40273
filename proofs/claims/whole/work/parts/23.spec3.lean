theorem rc_bd {r c : Int} (h1 : 1 ≤ r) (h2 : r ≤ 8) (h3 : 1 ≤ c) (h4 : c ≤ 8) : 1 ≤ r * c ∧ r * c ≤ 64 := by
  have : r = 1 ∨ r = 2 ∨ r = 3 ∨ r = 4 ∨ r = 5 ∨ r = 6 ∨ r = 7 ∨ r = 8 := by omega
  rcases this with h | h | h | h | h | h | h | h <;> subst h <;> omega
theorem cr_bd {c r : Int} (h1 : 0 ≤ c) (h2 : c ≤ 8) (h3 : 0 ≤ r) (h4 : r < 8) : 0 ≤ c * r ∧ c * r + c ≤ 64 := by
  have : r = 0 ∨ r = 1 ∨ r = 2 ∨ r = 3 ∨ r = 4 ∨ r = 5 ∨ r = 6 ∨ r = 7 := by omega
  rcases this with h | h | h | h | h | h | h | h <;> subst h <;> omega
def mEndS (D : va_G) (A : Nat → Nat) (now : Int → Int) (hist : Int → Int → Int) (km rd : Int) (reel : Int → Int) (r : sR) : Int → gh → Prop := fun z G => z = r.1 ∧ match r.2 with
  | none => mQ D A now hist km rd reel G
  | some nw => mQ D A nw (pushH now hist) (kmF km) 0 reel G
theorem mEndS.m0 {D : va_G} {A : Nat → Nat} {now : Int → Int} {hist : Int → Int → Int} {km rd : Int} {reel : Int → Int} {r : sR} {z : Int} {G : gh} (e : r = (z, none)) (h : mQ D A now hist km rd reel G) : mEndS D A now hist km rd reel r z G := by rw [e]; exact ⟨rfl, h⟩
theorem mEndS.m1 {D : va_G} {A : Nat → Nat} {now nw : Int → Int} {hist : Int → Int → Int} {km rd : Int} {reel : Int → Int} {r : sR} {z : Int} {G : gh} (e : r = (z, some nw)) (h : mQ D A nw (pushH now hist) (kmF km) 0 reel G) : mEndS D A now hist km rd reel r z G := by rw [e]; exact ⟨rfl, h⟩
theorem cntP_bd (f : Int → Int) (a : Int) (n : Nat) : 0 ≤ cntP f a n ∧ cntP f a n ≤ n := by
  have h := sumI_bd (f := fun k => if 0 < f (a + k) then (1 : Int) else 0) (a := 0) (b := 1) (n := n) (fun k _ _ => by show 0 ≤ (if 0 < f (a + k) then (1 : Int) else 0) ∧ (if 0 < f (a + k) then (1 : Int) else 0) ≤ 1; split <;> omega)
  unfold cntP
  omega
