theorem ltO.obj {D : va_G} {N : Nat → Prop} {G : gh} {now : Int → Int} {l : Int} {b : Nat} {g : Int → Int} (h : ltO D N G now l b g) : ∃ x : Value, Im N G b (eO 2 [.int (iI (now (1287 + l))), x]) := by
  rcases h with ⟨-, h, -⟩ | ⟨-, pb, h, -⟩
  · exact ⟨_, h⟩
  · exact ⟨_, h⟩
theorem plA.np {D : va_G} {N : Nat → Prop} {G : gh} {now : Int → Int} {a b : Nat} (h : plA D N G now b) (ha : G a = none) : plA D (Np N a) G now b := by
  obtain ⟨f, h1, h2⟩ := h
  exact ⟨f, h1.np ha, fun p p0 p1 => (h2 p p0 p1).np ha⟩
theorem plA.weak {D : va_G} {N N2 : Nat → Prop} {G : gh} {now : Int → Int} {b : Nat} (h : plA D N2 G now b) (hN : ∀ x, N x → N2 x) : plA D N G now b := by
  obtain ⟨f, h1, h2⟩ := h
  exact ⟨f, h1.weak hN, fun p p0 p1 => (h2 p p0 p1).weak hN⟩
def nlP (G Gk : gh) (f : Int → Option Nat) (l i : Int) (a5 pb : Nat) (pr : Int) : Prop := l < i → ∃ bl : Nat, f l = some bl ∧ G bl = none ∧ bl ≠ a5 ∧ Gk bl = some (eO 2 [.int (iI pr), .ref pb])
