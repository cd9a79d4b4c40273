theorem lB_zero : lB 0#64 = 0 := rfl
section ROWSA
variable {F : fxT} {cc : ByteArray} {nL : Nat} {own : String} {rm : Room} {D : va_G} {N : Nat → Prop} {G : gh} {ce sl pc : Nat} {L : List (Nat × Value)} {st : List Value} {now : Int → Int} {p : Int}
/-- a holding goes into an array of them -/
theorem rH_aast (S : FX F cc nL own rm D) (hb : fMut F) {a n v : Nat} {f : Int → Option Nat} {i : Int} (h : G a = some (eQ D 0 n f)) (hh : hO D N G now p v) (hw : wr F a) (h0 : 0 ≤ i) (h1 : i < n) (hn : n ≤ 2147483647) (d : decode cc pc = .ok (.aastore, 1)) (k : V F nL (gUp G a (eQ D 0 n (upI f i (some v)))) ce sl (pc + 1) L st) : V F nL G ce sl pc L (.ref v :: .int (iI i) :: .ref a :: st) := by
  rcases hh with ⟨e, h'⟩ | ⟨e, h'⟩ | ⟨e, fa, sf, s1, s2, s3⟩ | ⟨e, hn_, m, x, fc, lc, hB, b2, b3, b4, b5⟩
  · exact r_aast S hb h h'.1 ⟨_, rfl, by decide⟩ rfl hw h0 h1 hn d k
  · exact r_aast S hb h h'.1 ⟨_, rfl, by decide⟩ rfl hw h0 h1 hn d k
  · exact r_aast S hb h s1.1 ⟨_, rfl, by decide⟩ rfl hw h0 h1 hn d k
  · rcases hB with ⟨hq, hb'⟩ | ⟨hq, hb'⟩
    · exact r_aast S hb h hb' ⟨_, rfl, by decide⟩ rfl hw h0 h1 hn d k
    · exact r_aast S hb h hb' ⟨_, rfl, by decide⟩ rfl hw h0 h1 hn d k
end ROWSA
section WEAK
variable {D : va_G} {N N2 : Nat → Prop} {G : gh} {now : Int → Int}
theorem Im.weak {a : Nat} {e : va_E} (h : Im N2 G a e) (hN : ∀ x, N x → N2 x) : Im N G a e := ⟨h.1, fun q => h.2 (hN a q)⟩
theorem hO.weak {p : Int} {a : Nat} (h : hO D N2 G now p a) (hN : ∀ x, N x → N2 x) : hO D N G now p a := by
  rcases h with ⟨e, h⟩ | ⟨e, h⟩ | ⟨e, fa, sf, s1, s2, s3⟩ | ⟨e, hn, m, x, fc, lc, hB, b⟩
  · exact Or.inl ⟨e, h.weak hN⟩
  · exact Or.inr (Or.inl ⟨e, h.weak hN⟩)
  · exact Or.inr (Or.inr (Or.inl ⟨e, fa, sf, s1.weak hN, s2.weak hN, s3⟩))
  · exact Or.inr (Or.inr (Or.inr ⟨e, fun q => hn (hN a q), m, x, fc, lc, hB, b⟩))
theorem hP.weak {p : Int} {o : Option Nat} (h : hP D N2 G now p o) (hN : ∀ x, N x → N2 x) : hP D N G now p o := by
  rcases h with h | ⟨h, a, e, h2⟩
  · exact Or.inl h
  · exact Or.inr ⟨h, a, e, h2.weak hN⟩
/-- with one cell more that isn't there yet -/
def Np (N : Nat → Prop) (a : Nat) : Nat → Prop := fun x => N x ∨ x = a
theorem Im.np {a b : Nat} {e : va_E} (h : Im N G b e) (ha : G a = none) : Im (Np N a) G b e := ⟨h.1, fun q => q.elim h.2 (fun z => gLe.ne ha h.1 z)⟩
theorem hO.np {p : Int} {a b : Nat} (h : hO D N G now p b) (ha : G a = none) : hO D (Np N a) G now p b := by
  rcases h with ⟨e, h⟩ | ⟨e, h⟩ | ⟨e, fa, sf, s1, s2, s3⟩ | ⟨e, hn, m, x, fc, lc, hB, b2⟩
  · exact Or.inl ⟨e, h.np ha⟩
  · exact Or.inr (Or.inl ⟨e, h.np ha⟩)
  · exact Or.inr (Or.inr (Or.inl ⟨e, fa, sf, s1.np ha, s2.np ha, s3⟩))
  · refine Or.inr (Or.inr (Or.inr ⟨e, fun q => q.elim hn (fun z => ?_), m, x, fc, lc, hB, b2⟩))
    rcases hB with ⟨-, hb⟩ | ⟨-, hb⟩
    · exact gLe.ne ha hb z
    · exact gLe.ne ha hb z
theorem hP.np {p : Int} {a : Nat} {o : Option Nat} (h : hP D N G now p o) (ha : G a = none) : hP D (Np N a) G now p o := by
  rcases h with h | ⟨h, b, e, h2⟩
  · exact Or.inl h
  · exact Or.inr ⟨h, b, e, h2.np ha⟩
theorem Np_up (N : Nat → Prop) (a : Nat) : ∀ x, N x → Np N a x := fun _ h => Or.inl h
/-- a store to the cell a keeps the rest -/
theorem gExt.np {G G1 : gh} {a : Nat} (ho : ∀ (b : Nat) (e : va_E), b ≠ a → G b = some e → G1 b = some e) : gExt G G1 (Np N a) := fun b e h hn => ho b e (fun z => hn (Or.inr z)) h
theorem Nok.np {G G1 : gh} {a : Nat} {e : va_E} (h : Nok N G) (hl : gLe G G1) (ha : G1 a = some e) : Nok (Np N a) G1 := fun b hb z => hb.elim (fun q => (h.le hl) b q z) (fun q => by rw [q, ha] at z; cases z)
end WEAK
