/-! what the class holds, in the ghost heap: cells that nobody changes any more (N names those that may change) -/
def Im (N : Nat → Prop) (G : gh) (a : Nat) (e : va_E) : Prop := G a = some e ∧ ¬ N a
theorem Im.mono {N : Nat → Prop} {G G' : gh} {a : Nat} {e : va_E} (h : Im N G a e) (hx : gExt G G' N) : Im N G' a e := ⟨hx a e h.1 h.2, h.2⟩
theorem gExt.up {G G' : gh} {M N : Nat → Prop} (h : gExt G G' M) (hM : ∀ a, M a → N a) : gExt G G' N := fun a e hg hn => h a e hg (fun z => hn (hM a z))
def sqOK (now : Int → Int) (p : Int) (x : BitVec 64) : Prop := ∀ k : Int, 0 ≤ k → k < 64 → (bI x k = true ↔ now (460 + 64 * p + k) ≠ 0)
def msOK (now : Int → Int) (p m : Int) : Prop := (0 ≤ m ∧ m < 256) ∧ ∀ r : Int, 0 ≤ r → r < now (40 + p) → (m / (2 : Int) ^ r.toNat % 2 = 1 ↔ now (1100 + 8 * p + r) = 1)
def fcOK (r c : Int) (x : BitVec 64) : Prop := ∀ k : Int, 0 ≤ k → k < 64 → (bI x k = true ↔ k < r * c ∧ k % c = 0)
def lcOK (r c : Int) (x : BitVec 64) : Prop := ∀ k : Int, 0 ≤ k → k < 64 → (bI x k = true ↔ k < r * c ∧ k % c = c - 1)
/-- a Block (q = 1) or a Pair (q = 2) at a -/
def bO (G : gh) (a : Nat) (q f n r c m : Int) (x fc lc : BitVec 64) : Prop := (q = 1 ∧ G a = some (eO 0 [.int (iI f), .int (iI n), .int (iI r), .int (iI c), .int (iI m), .long (lB x), .long (lB fc), .long (lB lc)])) ∨ (q = 2 ∧ G a = some (eO 4 [.int (iI r), .int (iI c), .int (iI m), .long (lB x), .long (lB fc), .long (lB lc), .int (iI f), .int (iI n)]))
theorem bO.mono {G G' : gh} {N : Nat → Prop} {a : Nat} {q f n r c m : Int} {x fc lc : BitVec 64} (h : bO G a q f n r c m x fc lc) (hn : ¬ N a) (hx : gExt G G' N) : bO G' a q f n r c m x fc lc := h.imp (fun z => ⟨z.1, hx _ _ z.2 hn⟩) (fun z => ⟨z.1, hx _ _ z.2 hn⟩)
/-- the sheet at place p -/
def shO (N : Nat → Prop) (G : gh) (now : Int → Int) (p : Int) (a : Nat) : Prop := ¬ N a ∧ ∃ (m : Int) (x fc lc : BitVec 64), bO G a (now p - 1) (now (20 + p)) (now (10 + p)) (now (40 + p)) (now (50 + p)) m x fc lc ∧ msOK now p m ∧ sqOK now p x ∧ fcOK (now (40 + p)) (now (50 + p)) fc ∧ lcOK (now (40 + p)) (now (50 + p)) lc
def fsF (now : Int → Int) (p : Int) : Int := if now (10 + p) = 0 then 0 else now (60 + 40 * p + (now (10 + p) - 1))
def srO (D : va_G) (N : Nat → Prop) (G : gh) (now : Int → Int) (p : Int) (a : Nat) : Prop := ∃ (fa : Nat) (sf : Int → Int), Im N G a (eO 8 [.int (iI (fsF now p)), .int (iI (now (10 + p))), .ref fa]) ∧ Im N G fa (eI D 40 sf) ∧ ∀ k : Int, 0 ≤ k → k < now (10 + p) → sf k = now (60 + 40 * p + k)
/-- what lies at place p is the object a -/
def hO (D : va_G) (N : Nat → Prop) (G : gh) (now : Int → Int) (p : Int) (a : Nat) : Prop :=
  (now p = 0 ∧ Im N G a (eO 6 [.int (iI (now (20 + p))), .int (iI (now (10 + p)))])) ∨
  (now p = 4 ∧ Im N G a (eO 3 [.int (iI (now (20 + p))), .int (iI (now (10 + p))), .int (iI (now (30 + p)))])) ∨
  (now p = 1 ∧ srO D N G now p a) ∨
  ((now p = 2 ∨ now p = 3) ∧ shO N G now p a)
def hP (D : va_G) (N : Nat → Prop) (G : gh) (now : Int → Int) (p : Int) (o : Option Nat) : Prop := (now p = -1 ∧ o = none) ∨ (now p ≠ -1 ∧ ∃ a, o = some a ∧ hO D N G now p a)
def plA (D : va_G) (N : Nat → Prop) (G : gh) (now : Int → Int) (a : Nat) : Prop := ∃ f : Int → Option Nat, Im N G a (eQ D 0 10 f) ∧ ∀ p : Int, 0 ≤ p → p < 10 → hP D N G now p (f p)
def exA (D : va_G) (N : Nat → Prop) (G : gh) (now : Int → Int) (a : Nat) : Prop := ∃ f : Int → Int, Im N G a (eI D 4 f) ∧ ∀ k : Int, 0 ≤ k → k < 4 → f k = now (1282 + k)
def wyO (D : va_G) (N : Nat → Prop) (G : gh) (now : Int → Int) (w : Int) (b : Nat) : Prop := ∃ (ga pa : Nat) (gf pf : Int → Int), Im N G b (eO 9 [.int (iI (now (1180 + w))), .ref ga, .ref pa]) ∧ Im N G ga (eI D (now (1180 + w)).toNat gf) ∧ Im N G pa (eI D (now (1180 + w)).toNat pf) ∧ ∀ k : Int, 0 ≤ k → k < now (1180 + w) → gf k = now (1186 + 8 * w + k) ∧ pf k = now (1234 + 8 * w + k)
def wyA (D : va_G) (N : Nat → Prop) (G : gh) (now : Int → Int) (a : Nat) : Prop := ∃ f : Int → Option Nat, Im N G a (eQ D 2 6 f) ∧ ∀ w : Int, 0 ≤ w → w < 6 → ∃ b, f w = some b ∧ wyO D N G now w b
/-- a payment: it holds what lay at the places (nf), what was given, what was torn off -/
def pyO (D : va_G) (N : Nat → Prop) (G : gh) (now : Int → Int) (l : Int) (b : Nat) (g : Int → Int) : Prop := ∃ (fa ca sa : Nat) (cf : Int → Int) (sf : Int → BitVec 64) (nf : Int → Int), Im N G b (eO 5 [.int (iI (now (1347 + l))), .ref fa, .ref ca, .ref sa]) ∧ mOK nf ∧ plA D N G nf fa ∧ Im N G ca (eI D 10 cf) ∧ Im N G sa (eJ D 10 (fun j => lB (sf j))) ∧ (∀ p : Int, 0 ≤ p → p < 10 → cf p = now (1527 + 10 * l + p) ∧ 0 ≤ cf p ∧ cf p ≤ nf (10 + p) ∧ ∀ k : Int, 0 ≤ k → k < 64 → (bI (sf p) k = true ↔ tq now l p k = 1)) ∧ now (1407 + l) = sumI cf 10 ∧ ∀ fc : Int, 1 ≤ fc → fc ≤ 500 → g fc = sumI (fun p => goneF nf p (cf p) fc) 10
def ltO (D : va_G) (N : Nat → Prop) (G : gh) (now : Int → Int) (l : Int) (b : Nat) (g : Int → Int) : Prop := (now (1467 + l) = 0 ∧ Im N G b (eO 2 [.int (iI (now (1287 + l))), .null]) ∧ ∀ fc : Int, g fc = 0) ∨ (now (1467 + l) = 1 ∧ ∃ pb : Nat, Im N G b (eO 2 [.int (iI (now (1287 + l))), .ref pb]) ∧ pyO D N G now l pb g)
def leA (D : va_G) (N : Nat → Prop) (G : gh) (now : Int → Int) (a : Nat) : Prop := ∃ (f : Int → Option Nat) (gl : Int → Int → Int), Im N G a (eQ D 1 (now 1286).toNat f) ∧ (∀ l : Int, 0 ≤ l → l < now 1286 → ∃ b, f l = some b ∧ ltO D N G now l b (gl l)) ∧ ∀ fc : Int, 1 ≤ fc → fc ≤ 500 → now (3327 + fc) = sumI (fun l => gl l fc) (now 1286).toNat
/-- the state now is the object a -/
def stO (D : va_G) (N : Nat → Prop) (G : gh) (now : Int → Int) (a : Nat) : Prop := ∃ pa la wa ea : Nat, Im N G a (eO 7 [.ref pa, .ref la, .ref wa, .ref ea]) ∧ plA D N G now pa ∧ leA D N G now la ∧ wyA D N G now wa ∧ exA D N G now ea
section MONO
variable {D : va_G} {N : Nat → Prop} {G G' : gh} {now : Int → Int}
theorem shO.mono {p : Int} {a : Nat} (h : shO N G now p a) (hx : gExt G G' N) : shO N G' now p a := by
  obtain ⟨hn, m, x, fc, lc, hb, h2⟩ := h
  exact ⟨hn, m, x, fc, lc, hb.mono hn hx, h2⟩
theorem srO.mono {p : Int} {a : Nat} (h : srO D N G now p a) (hx : gExt G G' N) : srO D N G' now p a := by
  obtain ⟨fa, sf, h1, h2, h3⟩ := h
  exact ⟨fa, sf, h1.mono hx, h2.mono hx, h3⟩
theorem hO.mono {p : Int} {a : Nat} (h : hO D N G now p a) (hx : gExt G G' N) : hO D N G' now p a := by
  rcases h with h | h | h | h
  · exact Or.inl ⟨h.1, h.2.mono hx⟩
  · exact Or.inr (Or.inl ⟨h.1, h.2.mono hx⟩)
  · exact Or.inr (Or.inr (Or.inl ⟨h.1, h.2.mono hx⟩))
  · exact Or.inr (Or.inr (Or.inr ⟨h.1, h.2.mono hx⟩))
theorem hP.mono {p : Int} {o : Option Nat} (h : hP D N G now p o) (hx : gExt G G' N) : hP D N G' now p o := by
  rcases h with h | ⟨h, a, e, h2⟩
  · exact Or.inl h
  · exact Or.inr ⟨h, a, e, h2.mono hx⟩
theorem plA.mono {a : Nat} (h : plA D N G now a) (hx : gExt G G' N) : plA D N G' now a := by
  obtain ⟨f, h1, h2⟩ := h
  exact ⟨f, h1.mono hx, fun p p0 p1 => (h2 p p0 p1).mono hx⟩
theorem exA.mono {a : Nat} (h : exA D N G now a) (hx : gExt G G' N) : exA D N G' now a := by
  obtain ⟨f, h1, h2⟩ := h
  exact ⟨f, h1.mono hx, h2⟩
theorem wyO.mono {w : Int} {b : Nat} (h : wyO D N G now w b) (hx : gExt G G' N) : wyO D N G' now w b := by
  obtain ⟨ga, pa, gf, pf, h1, h2, h3, h4⟩ := h
  exact ⟨ga, pa, gf, pf, h1.mono hx, h2.mono hx, h3.mono hx, h4⟩
theorem wyA.mono {a : Nat} (h : wyA D N G now a) (hx : gExt G G' N) : wyA D N G' now a := by
  obtain ⟨f, h1, h2⟩ := h
  refine ⟨f, h1.mono hx, fun w w0 w1 => ?_⟩
  obtain ⟨b, e, h3⟩ := h2 w w0 w1
  exact ⟨b, e, h3.mono hx⟩
theorem pyO.mono {l : Int} {b : Nat} {g : Int → Int} (h : pyO D N G now l b g) (hx : gExt G G' N) : pyO D N G' now l b g := by
  obtain ⟨fa, ca, sa, cf, sf, nf, h1, h2, h3, h4, h5, h6⟩ := h
  exact ⟨fa, ca, sa, cf, sf, nf, h1.mono hx, h2, h3.mono hx, h4.mono hx, h5.mono hx, h6⟩
theorem ltO.mono {l : Int} {b : Nat} {g : Int → Int} (h : ltO D N G now l b g) (hx : gExt G G' N) : ltO D N G' now l b g := by
  rcases h with ⟨h1, h2, h3⟩ | ⟨h1, pb, h2, h3⟩
  · exact Or.inl ⟨h1, h2.mono hx, h3⟩
  · exact Or.inr ⟨h1, pb, h2.mono hx, h3.mono hx⟩
theorem leA.mono {a : Nat} (h : leA D N G now a) (hx : gExt G G' N) : leA D N G' now a := by
  obtain ⟨f, gl, h1, h2, h3⟩ := h
  refine ⟨f, gl, h1.mono hx, fun l l0 l1 => ?_, h3⟩
  obtain ⟨b, e, h4⟩ := h2 l l0 l1
  exact ⟨b, e, h4.mono hx⟩
theorem stO.mono {a : Nat} (h : stO D N G now a) (hx : gExt G G' N) : stO D N G' now a := by
  obtain ⟨pa, la, wa, ea, h1, h2, h3, h4, h5⟩ := h
  exact ⟨pa, la, wa, ea, h1.mono hx, h2.mono hx, h3.mono hx, h4.mono hx, h5.mono hx⟩
end MONO
/-! the same object for another state that agrees there -/
def agP (now now' : Int → Int) (p : Int) : Prop := now' p = now p ∧ now' (10 + p) = now (10 + p) ∧ now' (20 + p) = now (20 + p) ∧ now' (30 + p) = now (30 + p) ∧ now' (40 + p) = now (40 + p) ∧ now' (50 + p) = now (50 + p) ∧ (∀ k : Int, 0 ≤ k → k < 40 → now' (60 + 40 * p + k) = now (60 + 40 * p + k)) ∧ (∀ k : Int, 0 ≤ k → k < 64 → now' (460 + 64 * p + k) = now (460 + 64 * p + k)) ∧ ∀ r : Int, 0 ≤ r → r < 8 → now' (1100 + 8 * p + r) = now (1100 + 8 * p + r)
section CONG
variable {D : va_G} {N : Nat → Prop} {G : gh} {now now' : Int → Int}
theorem agP_of {p : Int} (hp : 0 ≤ p ∧ p < 10) (h : ∀ j : Int, j < 1180 → now' j = now j) : agP now now' p := ⟨h _ (by omega), h _ (by omega), h _ (by omega), h _ (by omega), h _ (by omega), h _ (by omega), fun k k0 k1 => h _ (by omega), fun k k0 k1 => h _ (by omega), fun r r0 r1 => h _ (by omega)⟩
theorem hO.cong {p : Int} {a : Nat} (h : hO D N G now p a) (hk : okK now) (hp : 0 ≤ p ∧ p < 10) (e : agP now now' p) : hO D N G now' p a := by
  obtain ⟨e0, e1, e2, e3, e4, e5, e6, e7, e8⟩ := e
  have hK := hk p hp.1 hp.2
  unfold hO
  rw [e0, e1, e2, e3]
  rcases h with h | h | ⟨h, fa, sf, s1, s2, s3⟩ | ⟨h, hn, m, x, fc, lc, b1, b2, b3, b4, b5⟩
  · exact Or.inl h
  · exact Or.inr (Or.inl h)
  · have hc : now (10 + p) ≤ 40 := hK.2.2.2.2.2.2.2.2.2.2.2.2.1 h
    refine Or.inr (Or.inr (Or.inl ⟨h, fa, sf, ?_, s2, fun k k0 k1 => ?_⟩))
    · rw [e1, show fsF now' p = fsF now p by
        unfold fsF
        rw [e1]
        by_cases q : now (10 + p) = 0
        · rw [if_pos q, if_pos q]
        · rw [if_neg q, if_neg q, e6 _ (by omega) (by omega)]]
      exact s1
    · rw [e1] at k1
      rw [e6 k k0 (by omega)]
      exact s3 k k0 k1
  · refine Or.inr (Or.inr (Or.inr ⟨h, hn, m, x, fc, lc, ?_, ⟨b2.1, fun r r0 r1 => ?_⟩, fun k k0 k1 => ?_, ?_, ?_⟩))
    · rw [e0, e1, e2, e4, e5]; exact b1
    · rw [e4] at r1
      rw [e8 r r0 (by omega)]
      exact b2.2 r r0 r1
    · rw [e7 k k0 k1]; exact b3 k k0 k1
    · rw [e4, e5]; exact b4
    · rw [e4, e5]; exact b5
theorem hP.cong {p : Int} {o : Option Nat} (h : hP D N G now p o) (hk : okK now) (hp : 0 ≤ p ∧ p < 10) (e : agP now now' p) : hP D N G now' p o := by
  rcases h with h | ⟨h, a, q, h2⟩
  · exact Or.inl ⟨by rw [e.1]; exact h.1, h.2⟩
  · exact Or.inr ⟨by rw [e.1]; exact h, a, q, h2.cong hk hp e⟩
theorem plA.cong {a : Nat} (h : plA D N G now a) (hk : okK now) (e : ∀ j : Int, j < 1180 → now' j = now j) : plA D N G now' a := by
  obtain ⟨f, h1, h2⟩ := h
  exact ⟨f, h1, fun p p0 p1 => (h2 p p0 p1).cong hk ⟨p0, p1⟩ (agP_of ⟨p0, p1⟩ e)⟩
theorem exA.cong {a : Nat} (h : exA D N G now a) (e : ∀ k : Int, 0 ≤ k → k < 4 → now' (1282 + k) = now (1282 + k)) : exA D N G now' a := by
  obtain ⟨f, h1, h2⟩ := h
  exact ⟨f, h1, fun k k0 k1 => by rw [e k k0 k1]; exact h2 k k0 k1⟩
theorem wyO.cong {w : Int} {b : Nat} (h : wyO D N G now w b) (e : now' (1180 + w) = now (1180 + w)) (e2 : ∀ k : Int, 0 ≤ k → k < now (1180 + w) → now' (1186 + 8 * w + k) = now (1186 + 8 * w + k) ∧ now' (1234 + 8 * w + k) = now (1234 + 8 * w + k)) : wyO D N G now' w b := by
  obtain ⟨ga, pa, gf, pf, h1, h2, h3, h4⟩ := h
  refine ⟨ga, pa, gf, pf, by rw [e]; exact h1, by rw [e]; exact h2, by rw [e]; exact h3, fun k k0 k1 => ?_⟩
  rw [e] at k1
  rw [(e2 k k0 k1).1, (e2 k k0 k1).2]
  exact h4 k k0 k1
theorem wyA.cong {a : Nat} (h : wyA D N G now a) (hW : okW now) (e : ∀ j : Int, 1180 ≤ j → j < 1282 → now' j = now j) : wyA D N G now' a := by
  obtain ⟨f, h1, h2⟩ := h
  refine ⟨f, h1, fun w w0 w1 => ?_⟩
  obtain ⟨b, q, h3⟩ := h2 w w0 w1
  have := (hW w w0 w1).2.1
  exact ⟨b, q, h3.cong (e _ (by omega) (by omega)) (fun k k0 k1 => ⟨e _ (by omega) (by omega), e _ (by omega) (by omega)⟩)⟩
theorem pyO.cong {l : Int} {b : Nat} {g : Int → Int} (h : pyO D N G now l b g) (e1 : now' (1347 + l) = now (1347 + l)) (e2 : now' (1407 + l) = now (1407 + l)) (e3 : ∀ p : Int, 0 ≤ p → p < 10 → now' (1527 + 10 * l + p) = now (1527 + 10 * l + p) ∧ ∀ k : Int, 0 ≤ k → k < 64 → tq now' l p k = tq now l p k) : pyO D N G now' l b g := by
  obtain ⟨fa, ca, sa, cf, sf, nf, h1, h2, h3, h4, h5, h6, h7, h8⟩ := h
  refine ⟨fa, ca, sa, cf, sf, nf, by rw [e1]; exact h1, h2, h3, h4, h5, fun p p0 p1 => ?_, by rw [e2]; exact h7, h8⟩
  obtain ⟨i1, i2, i3, i4⟩ := h6 p p0 p1
  refine ⟨by rw [(e3 p p0 p1).1]; exact i1, i2, i3, fun k k0 k1 => ?_⟩
  rw [(e3 p p0 p1).2 k k0 k1]
  exact i4 k k0 k1
theorem ltO.cong {l : Int} {b : Nat} {g : Int → Int} (h : ltO D N G now l b g) (e0 : now' (1467 + l) = now (1467 + l)) (e4 : now' (1287 + l) = now (1287 + l)) (e1 : now' (1347 + l) = now (1347 + l)) (e2 : now' (1407 + l) = now (1407 + l)) (e3 : ∀ p : Int, 0 ≤ p → p < 10 → now' (1527 + 10 * l + p) = now (1527 + 10 * l + p) ∧ ∀ k : Int, 0 ≤ k → k < 64 → tq now' l p k = tq now l p k) : ltO D N G now' l b g := by
  unfold ltO
  rw [e0, e4]
  rcases h with h | ⟨h1, pb, h2, h3⟩
  · exact Or.inl h
  · exact Or.inr ⟨h1, pb, h2, h3.cong e1 e2 e3⟩
theorem tq_cong {l p k : Int} (h : ∀ j : Int, 2127 ≤ j → j < 3327 → now' j = now j) (hl : 0 ≤ l ∧ l < 60) (hp : 0 ≤ p ∧ p < 10) (hk : 0 ≤ k ∧ k < 64) : tq now' l p k = tq now l p k := by
  unfold tq
  rw [h _ (by omega) (by omega)]
theorem leA.cong {a : Nat} (h : leA D N G now a) (hN : okN now) (e : ∀ j : Int, 1286 ≤ j → j < 3828 → now' j = now j) : leA D N G now' a := by
  obtain ⟨f, gl, h1, h2, h3⟩ := h
  have n0 := hN.1
  have n1 := hN.2.1
  have en := e 1286 (by omega) (by omega)
  refine ⟨f, gl, by rw [en]; exact h1, fun l l0 l1 => ?_, fun fc f0 f1 => ?_⟩
  · rw [en] at l1
    obtain ⟨b, q, h4⟩ := h2 l l0 l1
    exact ⟨b, q, h4.cong (e _ (by omega) (by omega)) (e _ (by omega) (by omega)) (e _ (by omega) (by omega)) (e _ (by omega) (by omega)) (fun p p0 p1 => ⟨e _ (by omega) (by omega), fun k k0 k1 => tq_cong (fun j j0 j1 => e j (by omega) (by omega)) ⟨l0, by omega⟩ ⟨p0, p1⟩ ⟨k0, k1⟩⟩)⟩
  · rw [en, e _ (by omega) (by omega)]
    exact h3 fc f0 f1
end CONG
/-! rows for them -/
section ROWSB
variable {F : fxT} {cc : ByteArray} {nL : Nat} {own : String} {rm : Room} {D : va_G} {N : Nat → Prop} {G : gh} {ce sl pc : Nat} {L : List (Nat × Value)} {st : List Value} {a idx : Nat} {q f n r c m : Int} {x fc lc : BitVec 64}
theorem k_set {e : va_E} (k : ∀ G1 : gh, G1 a = some e → (∀ (b : Nat) (e' : va_E), b ≠ a → G b = some e' → G1 b = some e') → V F nL G1 ce sl pc L st) : V F nL (gUp G a e) ce sl pc L st := k _ (gUp_s _ _ _) (fun b e' hne h => by rw [gUp_n hne]; exact h)
theorem rB_face (S : FX F cc nL own rm D) (h : bO G a q f n r c m x fc lc) (g0 : GetOK own idx 0 0) (g4 : GetOK own idx 4 6) (d : decode cc pc = .ok (.getfield idx, 3)) (k : V F nL G ce sl (pc + 3) L (.int (iI f) :: st)) : V F nL G ce sl pc L (.ref a :: st) := by
  rcases h with ⟨-, h⟩ | ⟨-, h⟩
  · exact r_get S g0 h rfl d k
  · exact r_get S g4 h rfl d k
theorem rB_count (S : FX F cc nL own rm D) (h : bO G a q f n r c m x fc lc) (g0 : GetOK own idx 0 1) (g4 : GetOK own idx 4 7) (d : decode cc pc = .ok (.getfield idx, 3)) (k : V F nL G ce sl (pc + 3) L (.int (iI n) :: st)) : V F nL G ce sl pc L (.ref a :: st) := by
  rcases h with ⟨-, h⟩ | ⟨-, h⟩
  · exact r_get S g0 h rfl d k
  · exact r_get S g4 h rfl d k
theorem rB_rows (S : FX F cc nL own rm D) (h : bO G a q f n r c m x fc lc) (g0 : GetOK own idx 0 2) (g4 : GetOK own idx 4 0) (d : decode cc pc = .ok (.getfield idx, 3)) (k : V F nL G ce sl (pc + 3) L (.int (iI r) :: st)) : V F nL G ce sl pc L (.ref a :: st) := by
  rcases h with ⟨-, h⟩ | ⟨-, h⟩
  · exact r_get S g0 h rfl d k
  · exact r_get S g4 h rfl d k
theorem rB_columns (S : FX F cc nL own rm D) (h : bO G a q f n r c m x fc lc) (g0 : GetOK own idx 0 3) (g4 : GetOK own idx 4 1) (d : decode cc pc = .ok (.getfield idx, 3)) (k : V F nL G ce sl (pc + 3) L (.int (iI c) :: st)) : V F nL G ce sl pc L (.ref a :: st) := by
  rcases h with ⟨-, h⟩ | ⟨-, h⟩
  · exact r_get S g0 h rfl d k
  · exact r_get S g4 h rfl d k
theorem rB_missing (S : FX F cc nL own rm D) (h : bO G a q f n r c m x fc lc) (g0 : GetOK own idx 0 4) (g4 : GetOK own idx 4 2) (d : decode cc pc = .ok (.getfield idx, 3)) (k : V F nL G ce sl (pc + 3) L (.int (iI m) :: st)) : V F nL G ce sl pc L (.ref a :: st) := by
  rcases h with ⟨-, h⟩ | ⟨-, h⟩
  · exact r_get S g0 h rfl d k
  · exact r_get S g4 h rfl d k
theorem rB_squares (S : FX F cc nL own rm D) (h : bO G a q f n r c m x fc lc) (g0 : GetOK own idx 0 5) (g4 : GetOK own idx 4 3) (d : decode cc pc = .ok (.getfield idx, 3)) (k : V F nL G ce sl (pc + 3) L (.long (lB x) :: st)) : V F nL G ce sl pc L (.ref a :: st) := by
  rcases h with ⟨-, h⟩ | ⟨-, h⟩
  · exact r_get S g0 h rfl d k
  · exact r_get S g4 h rfl d k
theorem rB_firstColumn (S : FX F cc nL own rm D) (h : bO G a q f n r c m x fc lc) (g0 : GetOK own idx 0 6) (g4 : GetOK own idx 4 4) (d : decode cc pc = .ok (.getfield idx, 3)) (k : V F nL G ce sl (pc + 3) L (.long (lB fc) :: st)) : V F nL G ce sl pc L (.ref a :: st) := by
  rcases h with ⟨-, h⟩ | ⟨-, h⟩
  · exact r_get S g0 h rfl d k
  · exact r_get S g4 h rfl d k
theorem rB_lastColumn (S : FX F cc nL own rm D) (h : bO G a q f n r c m x fc lc) (g0 : GetOK own idx 0 7) (g4 : GetOK own idx 4 5) (d : decode cc pc = .ok (.getfield idx, 3)) (k : V F nL G ce sl (pc + 3) L (.long (lB lc) :: st)) : V F nL G ce sl pc L (.ref a :: st) := by
  rcases h with ⟨-, h⟩ | ⟨-, h⟩
  · exact r_get S g0 h rfl d k
  · exact r_get S g4 h rfl d k
theorem bO_of {now : Int → Int} {p : Int} (h : shO N G now p a) : ∃ (m : Int) (x fc lc : BitVec 64), bO G a (now p - 1) (now (20 + p)) (now (10 + p)) (now (40 + p)) (now (50 + p)) m x fc lc ∧ msOK now p m ∧ sqOK now p x ∧ fcOK (now (40 + p)) (now (50 + p)) fc ∧ lcOK (now (40 + p)) (now (50 + p)) lc := h.2
/-- how many stamps: of any holding -/
theorem rH_count {now : Int → Int} {p : Int} (S : FX F cc nL own rm D) (h : hO D N G now p a) (g0 : GetOK own idx 0 1) (g3 : GetOK own idx 3 1) (g4 : GetOK own idx 4 7) (g6 : GetOK own idx 6 1) (g8 : GetOK own idx 8 1) (d : decode cc pc = .ok (.getfield idx, 3)) (k : V F nL G ce sl (pc + 3) L (.int (iI (now (10 + p))) :: st)) : V F nL G ce sl pc L (.ref a :: st) := by
  rcases h with ⟨-, h⟩ | ⟨-, h⟩ | ⟨-, fa, sf, h, -⟩ | ⟨-, -, m, x, fc, lc, hb, -⟩
  · exact r_get S g6 h.1 rfl d k
  · exact r_get S g3 h.1 rfl d k
  · exact r_get S g8 h.1 rfl d k
  · exact rB_count S hb g0 g4 d k
/-- the face: of any but a strip -/
theorem rH_face {now : Int → Int} {p : Int} (S : FX F cc nL own rm D) (h : hO D N G now p a) (h1 : now p ≠ 1) (g0 : GetOK own idx 0 0) (g3 : GetOK own idx 3 0) (g4 : GetOK own idx 4 6) (g6 : GetOK own idx 6 0) (d : decode cc pc = .ok (.getfield idx, 3)) (k : V F nL G ce sl (pc + 3) L (.int (iI (now (20 + p))) :: st)) : V F nL G ce sl pc L (.ref a :: st) := by
  rcases h with ⟨-, h⟩ | ⟨-, h⟩ | ⟨e, -⟩ | ⟨-, -, m, x, fc, lc, hb, -⟩
  · exact r_get S g6 h.1 rfl d k
  · exact r_get S g3 h.1 rfl d k
  · exact absurd e h1
  · exact rB_face S hb g0 g4 d k
theorem rH_faceA {now : Int → Int} {p : Int} (S : FX F cc nL own rm D) (h : hO D N G now p a) (g0 : GetOK own idx 0 0) (g3 : GetOK own idx 3 0) (g4 : GetOK own idx 4 6) (g6 : GetOK own idx 6 0) (g8 : GetOK own idx 8 0) (d : decode cc pc = .ok (.getfield idx, 3)) (k : V F nL G ce sl (pc + 3) L (.int (iI (if now p = 1 then fsF now p else now (20 + p))) :: st)) : V F nL G ce sl pc L (.ref a :: st) := by
  rcases h with ⟨e, h⟩ | ⟨e, h⟩ | ⟨e, fa, sf, h, -⟩ | ⟨e, -, m, x, fc, lc, hb, -⟩
  · rw [if_neg (by omega)] at k; exact r_get S g6 h.1 rfl d k
  · rw [if_neg (by omega)] at k; exact r_get S g3 h.1 rfl d k
  · rw [if_pos e] at k; exact r_get S g8 h.1 rfl d k
  · rw [if_neg (by omega)] at k; exact rB_face S hb g0 g4 d k
end ROWSB
