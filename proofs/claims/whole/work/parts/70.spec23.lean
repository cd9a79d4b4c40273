/-! what kind of holding it is -/
section ROWSH
variable {F : fxT} {cc : ByteArray} {nL : Nat} {own : String} {rm : Room} {D : va_G} {N : Nat → Prop} {G : gh} {ce sl pc : Nat} {L : List (Nat × Value)} {st : List Value} {a idx : Nat} {now : Int → Int} {p : Int}
theorem rH_isB (S : FX F cc nL own rm D) (hh : hO D N G now p a) (hl : Cond.classLink own idx "PostageCounter$Block" ∈ WS) (d : decode cc pc = .ok (.instanceof idx, 3)) (ky : (now p = 2 ∨ now p = 3) → V F nL G ce sl (pc + 3) L (.int (iI 1) :: st)) (kn : ¬ (now p = 2 ∨ now p = 3) → V F nL G ce sl (pc + 3) L (.int (iI 0) :: st)) : V F nL G ce sl pc L (.ref a :: st) := by
  rcases hh with ⟨e, h⟩ | ⟨e, h⟩ | ⟨e, fa, sf, s1, s2, s3⟩ | ⟨e, hn_, m, x, fc, lc, hB, b2, b3, b4, b5⟩
  · exact r_instNo h.1 rfl hl (by decide) S d (kn (by omega))
  · exact r_instNo h.1 rfl hl (by decide) S d (kn (by omega))
  · exact r_instNo s1.1 rfl hl (by decide) S d (kn (by omega))
  · rcases hB with ⟨hq, hb⟩ | ⟨hq, hb⟩
    · exact r_instS hb rfl hl S d (ky (by omega))
    · exact r_instY hb rfl hl (by decide) S d (ky (by omega))
theorem rH_isS (S : FX F cc nL own rm D) (hh : hO D N G now p a) (hl : Cond.classLink own idx "PostageCounter$Strip" ∈ WS) (d : decode cc pc = .ok (.instanceof idx, 3)) (ky : (now p = 1) → V F nL G ce sl (pc + 3) L (.int (iI 1) :: st)) (kn : ¬ (now p = 1) → V F nL G ce sl (pc + 3) L (.int (iI 0) :: st)) : V F nL G ce sl pc L (.ref a :: st) := by
  rcases hh with ⟨e, h⟩ | ⟨e, h⟩ | ⟨e, fa, sf, s1, s2, s3⟩ | ⟨e, hn_, m, x, fc, lc, hB, b2, b3, b4, b5⟩
  · exact r_instNo h.1 rfl hl (by decide) S d (kn (by omega))
  · exact r_instNo h.1 rfl hl (by decide) S d (kn (by omega))
  · exact r_instS s1.1 rfl hl S d (ky (by omega))
  · rcases hB with ⟨hq, hb⟩ | ⟨hq, hb⟩
    · exact r_instNo hb rfl hl (by decide) S d (kn (by omega))
    · exact r_instNo hb rfl hl (by decide) S d (kn (by omega))
theorem rH_isP (S : FX F cc nL own rm D) (hh : hO D N G now p a) (hl : Cond.classLink own idx "PostageCounter$Pair" ∈ WS) (d : decode cc pc = .ok (.instanceof idx, 3)) (ky : (now p = 3) → V F nL G ce sl (pc + 3) L (.int (iI 1) :: st)) (kn : ¬ (now p = 3) → V F nL G ce sl (pc + 3) L (.int (iI 0) :: st)) : V F nL G ce sl pc L (.ref a :: st) := by
  rcases hh with ⟨e, h⟩ | ⟨e, h⟩ | ⟨e, fa, sf, s1, s2, s3⟩ | ⟨e, hn_, m, x, fc, lc, hB, b2, b3, b4, b5⟩
  · exact r_instNo h.1 rfl hl (by decide) S d (kn (by omega))
  · exact r_instNo h.1 rfl hl (by decide) S d (kn (by omega))
  · exact r_instNo s1.1 rfl hl (by decide) S d (kn (by omega))
  · rcases hB with ⟨hq, hb⟩ | ⟨hq, hb⟩
    · exact r_instNo hb rfl hl (by decide) S d (kn (by omega))
    · exact r_instS hb rfl hl S d (ky (by omega))
theorem rH_isO (S : FX F cc nL own rm D) (hh : hO D N G now p a) (hl : Cond.classLink own idx "PostageCounter$Over" ∈ WS) (d : decode cc pc = .ok (.instanceof idx, 3)) (ky : (now p = 4) → V F nL G ce sl (pc + 3) L (.int (iI 1) :: st)) (kn : ¬ (now p = 4) → V F nL G ce sl (pc + 3) L (.int (iI 0) :: st)) : V F nL G ce sl pc L (.ref a :: st) := by
  rcases hh with ⟨e, h⟩ | ⟨e, h⟩ | ⟨e, fa, sf, s1, s2, s3⟩ | ⟨e, hn_, m, x, fc, lc, hB, b2, b3, b4, b5⟩
  · exact r_instNo h.1 rfl hl (by decide) S d (kn (by omega))
  · exact r_instS h.1 rfl hl S d (ky (by omega))
  · exact r_instNo s1.1 rfl hl (by decide) S d (kn (by omega))
  · rcases hB with ⟨hq, hb⟩ | ⟨hq, hb⟩
    · exact r_instNo hb rfl hl (by decide) S d (kn (by omega))
    · exact r_instNo hb rfl hl (by decide) S d (kn (by omega))
theorem rH_castB (S : FX F cc nL own rm D) (hh : hO D N G now p a) (hk : now p = 2 ∨ now p = 3) (hl : Cond.classLink own idx "PostageCounter$Block" ∈ WS) (d : decode cc pc = .ok (.checkcast idx, 3)) (k : V F nL G ce sl (pc + 3) L (.ref a :: st)) : V F nL G ce sl pc L (.ref a :: st) := by
  rcases hh with ⟨e, h⟩ | ⟨e, h⟩ | ⟨e, fa, sf, s1, s2, s3⟩ | ⟨e, hn_, m, x, fc, lc, hB, b2, b3, b4, b5⟩
  · exfalso; omega
  · exfalso; omega
  · exfalso; omega
  · rcases hB with ⟨hq, hb⟩ | ⟨hq, hb⟩
    · exact r_castS hb rfl hl S d k
    · exact r_castY hb rfl hl (by decide) S d k
theorem rH_castS (S : FX F cc nL own rm D) (hh : hO D N G now p a) (hk : now p = 1) (hl : Cond.classLink own idx "PostageCounter$Strip" ∈ WS) (d : decode cc pc = .ok (.checkcast idx, 3)) (k : V F nL G ce sl (pc + 3) L (.ref a :: st)) : V F nL G ce sl pc L (.ref a :: st) := by
  rcases hh with ⟨e, h⟩ | ⟨e, h⟩ | ⟨e, fa, sf, s1, s2, s3⟩ | ⟨e, hn_, m, x, fc, lc, hB, b2, b3, b4, b5⟩
  · exfalso; omega
  · exfalso; omega
  · exact r_castS s1.1 rfl hl S d k
  · rcases hB with ⟨hq, hb⟩ | ⟨hq, hb⟩
    · exfalso; omega
    · exfalso; omega
theorem rH_castP (S : FX F cc nL own rm D) (hh : hO D N G now p a) (hk : now p = 3) (hl : Cond.classLink own idx "PostageCounter$Pair" ∈ WS) (d : decode cc pc = .ok (.checkcast idx, 3)) (k : V F nL G ce sl (pc + 3) L (.ref a :: st)) : V F nL G ce sl pc L (.ref a :: st) := by
  rcases hh with ⟨e, h⟩ | ⟨e, h⟩ | ⟨e, fa, sf, s1, s2, s3⟩ | ⟨e, hn_, m, x, fc, lc, hB, b2, b3, b4, b5⟩
  · exfalso; omega
  · exfalso; omega
  · exfalso; omega
  · rcases hB with ⟨hq, hb⟩ | ⟨hq, hb⟩
    · exfalso; omega
    · exact r_castS hb rfl hl S d k
theorem rH_castO (S : FX F cc nL own rm D) (hh : hO D N G now p a) (hk : now p = 4) (hl : Cond.classLink own idx "PostageCounter$Over" ∈ WS) (d : decode cc pc = .ok (.checkcast idx, 3)) (k : V F nL G ce sl (pc + 3) L (.ref a :: st)) : V F nL G ce sl pc L (.ref a :: st) := by
  rcases hh with ⟨e, h⟩ | ⟨e, h⟩ | ⟨e, fa, sf, s1, s2, s3⟩ | ⟨e, hn_, m, x, fc, lc, hB, b2, b3, b4, b5⟩
  · exfalso; omega
  · exact r_castS h.1 rfl hl S d k
  · exfalso; omega
  · rcases hB with ⟨hq, hb⟩ | ⟨hq, hb⟩
    · exfalso; omega
    · exfalso; omega
end ROWSH
/-- the i-th of what was torn off -/
def tsR (now : Int → Int) (l i z : Int) : Prop := (∃ m : Int, 0 ≤ m ∧ m < 640 ∧ tl now l m = 1 ∧ sumI (tl now l) m.toNat = i ∧ z = 100 * (m / 64) + m % 64) ∨ ((∀ m : Int, 0 ≤ m → m < 640 → tl now l m = 1 → sumI (tl now l) m.toNat ≠ i) ∧ z = -1)
theorem tq_fB {now : Int → Int} {l p k : Int} {x : BitVec 64} (h : ∀ k : Int, 0 ≤ k → k < 64 → (bI x k = true ↔ tq now l p k = 1)) (k0 : 0 ≤ k) (k1 : k < 64) : tq now l p k = fB x k := by
  unfold fB
  by_cases e : bI x k = true
  · rw [if_pos e]; exact (h k k0 k1).mp e
  · rw [if_neg e]
    rcases shb_01 (now (2127 + 20 * l + 2 * p + (k / 32))) (k % 32) with q | q
    · exact q
    · exact absurd ((h k k0 k1).mpr q) e
theorem tl_row {now : Int → Int} {l p : Int} {x : BitVec 64} (h : ∀ k : Int, 0 ≤ k → k < 64 → (bI x k = true ↔ tq now l p k = 1)) (hp : 0 ≤ p) : ∀ n : Nat, n ≤ 64 → sumI (tl now l) ((64 * p).toNat + n) = sumI (tl now l) (64 * p).toNat + sumI (fB x) n
  | 0, _ => by show _ = _ + 0; rw [Nat.add_zero]; omega
  | n + 1, hn => by
    show sumI (tl now l) ((64 * p).toNat + n) + tl now l (((64 * p).toNat + n : Nat) : Int) = _ + (sumI (fB x) n + fB x n)
    rw [tl_row h hp n (by omega)]
    unfold tl
    rw [show (((64 * p).toNat + n : Nat) : Int) / 64 = p by omega, show (((64 * p).toNat + n : Nat) : Int) % 64 = n by omega, tq_fB h (by omega) (by omega)]
    omega
theorem sumI_mono {f : Int → Int} (h : ∀ k : Int, 0 ≤ k → 0 ≤ f k) : ∀ (m n : Nat), sumI f n ≤ sumI f (n + m)
  | 0, n => Int.le_refl _
  | m + 1, n => by
    have h1 := sumI_mono h m n
    have h2 := h ((n + m : Nat) : Int) (by omega)
    show sumI f n ≤ sumI f (n + m) + f ((n + m : Nat) : Int)
    omega
theorem tl_01 (now : Int → Int) (l m : Int) : 0 ≤ tl now l m ∧ tl now l m ≤ 1 := by
  have := shb_01 (now (2127 + 20 * l + 2 * (m / 64) + (m % 64 / 32))) (m % 64 % 32)
  show 0 ≤ shb _ _ ∧ shb _ _ ≤ 1
  omega
theorem sTorn_ts {now : Int → Int} {l i z z2 : Int} (h : tsR now l i z) (h2 : sTorn now l i z2) (hl : 0 ≤ l ∧ l < now 1286) : z = z2 := by
  have hinc : ∀ m m' : Int, 0 ≤ m → m < m' → tl now l m = 1 → sumI (tl now l) m.toNat < sumI (tl now l) m'.toNat := by
    intro m m' m0 m1 hm
    have h1 := sumI_mono (f := tl now l) (fun k _ => (tl_01 now l k).1) (m' - (1 + m)).toNat (1 + m).toNat
    rw [show (1 + m).toNat + (m' - (1 + m)).toNat = m'.toNat by omega, sumI_s _ m0, hm] at h1
    omega
  rcases h2 with ⟨q, -⟩ | ⟨-, m, a, b, c, d, e⟩ | ⟨-, c, e⟩
  · exact absurd hl q
  · rcases h with ⟨m', a', b', c', d', e'⟩ | ⟨c', e'⟩
    · rcases Int.lt_trichotomy m m' with q | q | q
      · have := hinc m m' a q c; omega
      · rw [e, e', q]
      · have := hinc m' m a' q c'; omega
    · exact absurd d (c' m a b c)
  · rcases h with ⟨m', a', b', c', d', e'⟩ | ⟨c', e'⟩
    · exact absurd d' (c m' a' b' c')
    · rw [e, e']
/-- a row of the torn ones holds the i-th, or it lies behind -/
theorem ts_here {now : Int → Int} {l i p s lf : Int} {x : BitVec 64} (h : ∀ k : Int, 0 ≤ k → k < 64 → (bI x k = true ↔ tq now l p k = 1)) (hp : 0 ≤ p ∧ p < 10) (hl : lf = i - sumI (tl now l) (64 * p).toNat) (hs : 0 ≤ s ∧ s < 64) (hb : bI x s = true) (hc : sumI (fB x) s.toNat = lf) : tsR now l i (100 * p + s) := by
  refine Or.inl ⟨64 * p + s, by omega, by omega, ?_, ?_, ?_⟩
  · unfold tl
    rw [show (64 * p + s) / 64 = p by omega, show (64 * p + s) % 64 = s by omega]
    exact (h s hs.1 hs.2).mp hb
  · have := tl_row h hp.1 s.toNat (by omega)
    rw [show (64 * p + s).toNat = (64 * p).toNat + s.toNat by omega, this]
    omega
  · rw [show (64 * p + s) / 64 = p by omega, show (64 * p + s) % 64 = s by omega]
theorem ts_none {now : Int → Int} {l i : Int} (h : i < 0 ∨ sumI (tl now l) 640 ≤ i) : tsR now l i (-1) := by
  refine Or.inr ⟨fun m m0 m1 hm e => ?_, rfl⟩
  have h1 := (tl_bd now l m.toNat).1
  have h2 := sumI_mono (f := tl now l) (fun k _ => (tl_01 now l k).1) (640 - (1 + m).toNat) (1 + m).toNat
  rw [show (1 + m).toNat + (640 - (1 + m).toNat) = 640 by omega, sumI_s _ m0, hm] at h2
  omega
theorem upJ {f : Int → BitVec 64} {i : Int} {v : BitVec 64} : upI (fun j => lB (f j)) i (lB v) = fun j => lB (upI f i v j) := by
  funext j
  unfold upI
  by_cases e : j = i
  · rw [if_pos e, if_pos e]
  · rw [if_neg e, if_neg e]
