/-! bits of a long as a set of squares -/
def PB (x : BitVec 64) : Int → Prop := fun k => bI x k = true
theorem bB_and {x y : BitVec 64} {k : Int} : bI (x &&& y) k = true ↔ bI x k = true ∧ bI y k = true := by
  unfold bI; rw [BitVec.getLsbD_and, Bool.and_eq_true]
theorem bB_or {x y : BitVec 64} {k : Int} : bI (x ||| y) k = true ↔ bI x k = true ∨ bI y k = true := by
  unfold bI; rw [BitVec.getLsbD_or, Bool.or_eq_true]
theorem bB_not {x : BitVec 64} {k : Int} (h0 : 0 ≤ k) (h1 : k < 64) : bI (x ^^^ BitVec.ofInt 64 (-1)) k = true ↔ ¬ bI x k = true := by
  unfold bI
  rw [show BitVec.ofInt 64 (-1) = BitVec.allOnes 64 by decide, BitVec.xor_allOnes, BitVec.getLsbD_not, decide_eq_true (by omega : k.toNat < 64), Bool.true_and]
  cases x.getLsbD k.toNat <;> decide
theorem bB_shl {x : BitVec 64} {n : Nat} {k : Int} (h0 : 0 ≤ k) (h1 : k < 64) : bI (x <<< n) k = true ↔ (n : Int) ≤ k ∧ bI x (k - n) = true := by
  unfold bI
  rw [BitVec.getLsbD_shiftLeft, decide_eq_true (by omega : k.toNat < 64), Bool.true_and, Bool.and_eq_true]
  by_cases h : (n : Int) ≤ k
  · rw [show (k - (n : Int)).toNat = k.toNat - n by omega]
    have : ¬ k.toNat < n := by omega
    simp [this, h]
  · have : k.toNat < n := by omega
    simp [this, h]
theorem bB_shr {x : BitVec 64} {n : Nat} {k : Int} (h0 : 0 ≤ k) : bI (x >>> n) k = true ↔ bI x (k + n) = true := by
  unfold bI
  rw [BitVec.getLsbD_ushiftRight, show (k + (n : Int)).toNat = n + k.toNat by omega]
theorem bB_hi {x : BitVec 64} {k : Int} (h : 64 ≤ k) : ¬ bI x k = true := by
  unfold bI
  rw [BitVec.getLsbD_of_ge _ _ (by omega)]
  decide
theorem bB_ext {x y : BitVec 64} (h : ∀ k : Int, 0 ≤ k → k < 64 → (bI x k = true ↔ bI y k = true)) : x = y := by
  apply BitVec.eq_of_getLsbD_eq
  intro i hi
  have := h (i : Int) (by omega) (by omega)
  unfold bI at this
  rw [show ((i : Int)).toNat = i by omega] at this
  cases h1 : x.getLsbD i <;> cases h2 : y.getLsbD i <;> simp_all
theorem bB_0 {k : Int} : ¬ bI 0#64 k = true := by
  unfold bI; rw [BitVec.getLsbD_zero]; decide
theorem bB_nz {x : BitVec 64} (h : x ≠ 0#64) : ∃ k : Int, 0 ≤ k ∧ k < 64 ∧ bI x k = true := by
  apply Classical.byContradiction
  intro hn
  exact h (bB_ext (fun k k0 k1 => ⟨fun q => absurd ⟨k, k0, k1, q⟩ hn, fun q => absurd q bB_0⟩))
theorem bB_zz {x : BitVec 64} (h : ∀ k : Int, 0 ≤ k → k < 64 → ¬ bI x k = true) : x = 0#64 := bB_ext (fun k k0 k1 => ⟨fun q => absurd q (h k k0 k1), fun q => absurd q bB_0⟩)
theorem bB_low {x : BitVec 64} {k : Int} (h0 : 0 ≤ k) (h1 : k < 64) : bI (x &&& -x) k = true ↔ bI x k = true ∧ ∀ j : Int, 0 ≤ j → j < k → ¬ bI x j = true := by
  rw [bB_and]
  unfold bI
  rw [BitVec.getLsbD_neg, decide_eq_true (by omega : k.toNat < 64), Bool.true_and]
  constructor
  · rintro ⟨a, b⟩
    refine ⟨a, fun j j0 j1 q => ?_⟩
    have : decide (∃ j, j < k.toNat ∧ x.getLsbD j = true) = true := decide_eq_true ⟨j.toNat, by omega, q⟩
    rw [a, this] at b
    exact absurd b (by decide)
  · rintro ⟨a, b⟩
    refine ⟨a, ?_⟩
    have : decide (∃ j, j < k.toNat ∧ x.getLsbD j = true) = false := decide_eq_false (fun ⟨j, j1, q⟩ => b (j : Int) (by omega) (by omega) (by rw [show ((j : Int)).toNat = j by omega]; exact q))
    rw [a, this]
    decide
theorem bB_one {n : Nat} {k : Int} (hn : n < 64) (h0 : 0 ≤ k) (h1 : k < 64) : bI (1#64 <<< n) k = true ↔ k = n := by
  rw [bB_shl h0 h1]
  unfold bI
  rw [BitVec.getLsbD_one]
  constructor
  · rintro ⟨a, b⟩
    simp at b
    omega
  · intro e
    refine ⟨by omega, ?_⟩
    simp
    omega
theorem bB_3 {k : Int} (h0 : 0 ≤ k) (h1 : k < 64) : bI (BitVec.ofInt 64 3) k = true ↔ k = 0 ∨ k = 1 := by
  obtain ⟨n, rfl⟩ := Int.eq_ofNat_of_zero_le h0
  have : ∀ i : Fin 64, (BitVec.ofInt 64 3).getLsbD i.val = decide (i.val = 0 ∨ i.val = 1) := by decide
  have h : (BitVec.ofInt 64 3).getLsbD n = decide (n = 0 ∨ n = 1) := this ⟨n, by omega⟩
  unfold bI
  rw [show ((n : Int)).toNat = n by omega, h, decide_eq_true_eq]
  omega
theorem cB_eq (x : BitVec 64) : cB x = sumI (fB x) 64 := rfl
theorem sumI_le {f g : Int → Int} : ∀ {n : Nat}, (∀ k : Int, 0 ≤ k → k < n → f k ≤ g k) → sumI f n ≤ sumI g n
  | 0, _ => Int.le_refl _
  | n + 1, h => by
    have h1 := sumI_le (f := f) (g := g) (n := n) (fun k k0 k1 => h k k0 (by omega))
    have h2 := h n (by omega) (by omega)
    show sumI f n + f n ≤ sumI g n + g n
    omega
theorem sumI_lt {f g : Int → Int} : ∀ {n : Nat}, (∀ k : Int, 0 ≤ k → k < n → f k ≤ g k) → (∃ k : Int, 0 ≤ k ∧ k < n ∧ f k < g k) → sumI f n < sumI g n
  | 0, _, ⟨k, a, b, _⟩ => by omega
  | n + 1, h, ⟨k, a, b, c⟩ => by
    have h2 := h n (by omega) (by omega)
    show sumI f n + f n < sumI g n + g n
    by_cases e : k = n
    · subst e
      have h1 := sumI_le (f := f) (g := g) (n := n) (fun k k0 k1 => h k k0 (by omega))
      omega
    · have h1 := sumI_lt (f := f) (g := g) (n := n) (fun k k0 k1 => h k k0 (by omega)) ⟨k, a, by omega, c⟩
      omega
theorem sumI_add (f g : Int → Int) : ∀ n : Nat, sumI (fun k => f k + g k) n = sumI f n + sumI g n
  | 0 => rfl
  | n + 1 => by
    show sumI (fun k => f k + g k) n + (f n + g n) = sumI f n + f n + (sumI g n + g n)
    rw [sumI_add f g n]; omega
theorem sumI_z : ∀ n : Nat, sumI (fun _ => 0) n = 0
  | 0 => rfl
  | n + 1 => by show sumI (fun _ => 0) n + 0 = 0; rw [sumI_z n]; rfl
theorem sumI_one {k v : Int} : ∀ {n : Nat}, 0 ≤ k → k < n → sumI (fun j => if j = k then v else 0) n = v
  | 0, a, b => by omega
  | n + 1, a, b => by
    show sumI (fun j => if j = k then v else 0) n + (if (n : Int) = k then v else 0) = v
    by_cases e : (n : Int) = k
    · rw [if_pos e, sumI_cong (g := fun _ => 0) (fun j j0 j1 => by show (if j = k then v else 0) = 0; rw [if_neg (by omega)]), sumI_z]
      omega
    · rw [if_neg e, sumI_one a (by omega)]; omega
theorem cB_mono {x y : BitVec 64} (h : ∀ k : Int, 0 ≤ k → k < 64 → bI x k = true → bI y k = true) : cB x ≤ cB y := by
  rw [cB_eq, cB_eq]
  refine sumI_le (fun k k0 k1 => ?_)
  unfold fB
  by_cases e : bI x k = true
  · rw [if_pos e, if_pos (h k k0 (by omega) e)]; omega
  · rw [if_neg e]; split <;> omega
theorem cB_lt {x y : BitVec 64} (h : ∀ k : Int, 0 ≤ k → k < 64 → bI x k = true → bI y k = true) (hn : x ≠ y) : cB x + 1 ≤ cB y := by
  rw [cB_eq, cB_eq]
  have hk : ∃ k : Int, 0 ≤ k ∧ k < 64 ∧ ¬ bI x k = true ∧ bI y k = true := by
    apply Classical.byContradiction
    intro q
    refine hn (bB_ext (fun k k0 k1 => ⟨h k k0 k1, fun z => ?_⟩))
    by_cases e : bI x k = true
    · exact e
    · exact absurd ⟨k, k0, k1, e, z⟩ q
  obtain ⟨k, k0, k1, e1, e2⟩ := hk
  have := sumI_lt (f := fB x) (g := fB y) (n := 64) (fun j j0 j1 => by
    unfold fB
    by_cases e : bI x j = true
    · rw [if_pos e, if_pos (h j j0 (by omega) e)]; omega
    · rw [if_neg e]; split <;> omega) ⟨k, k0, by omega, by unfold fB; rw [if_neg e1, if_pos e2]; omega⟩
  omega
theorem cB_0 : cB 0#64 = 0 := by
  rw [cB_eq, sumI_cong (g := fun _ => 0) (fun k _ _ => by unfold fB; rw [if_neg bB_0]), sumI_z]
theorem cB_z {x : BitVec 64} (h : cB x ≤ 0) : x = 0#64 := by
  apply Classical.byContradiction
  intro q
  have := cB_lt (x := 0#64) (y := x) (fun k _ _ z => absurd z bB_0) (fun e => q e.symm)
  rw [cB_0] at this
  omega
/-! what hangs together with the lowest square -/
def grB (c : Int) (pc sm fc lc : BitVec 64) : BitVec 64 := (((pc ||| (((pc &&& (lc ^^^ BitVec.ofInt 64 (-1))) <<< (Int.toNat 1)) ||| ((pc &&& (fc ^^^ BitVec.ofInt 64 (-1))) >>> (Int.toNat 1)))) ||| (pc <<< (Int.toNat c))) ||| (pc >>> (Int.toNat c))) &&& sm
def shP (r c : Int) : Prop := (1 ≤ r ∧ r ≤ 8) ∧ (1 ≤ c ∧ c ≤ 8)
theorem md_s {c k : Int} (h1 : 1 ≤ c) (h2 : c ≤ 8) (h0 : 0 ≤ k) : ((1 ≤ k → (0 < k % c ↔ (k - 1) % c ≠ c - 1)) ∧ (k % c < c - 1 ↔ (k + 1) % c ≠ 0)) := by
  have : c = 1 ∨ c = 2 ∨ c = 3 ∨ c = 4 ∨ c = 5 ∨ c = 6 ∨ c = 7 ∨ c = 8 := by omega
  rcases this with h | h | h | h | h | h | h | h <;> subst h <;> constructor <;> omega
theorem grB_bit {r c k : Int} {pc sm fc lc : BitVec 64} (hs : shP r c) (hf : fcOK r c fc) (hl : lcOK r c lc) (hsm : ∀ k : Int, 0 ≤ k → k < 64 → bI sm k = true → k < r * c) (hp : ∀ k : Int, 0 ≤ k → k < 64 → bI pc k = true → bI sm k = true) (h0 : 0 ≤ k) (h1 : k < 64) :
    bI (grB c pc sm fc lc) k = true ↔ bI sm k = true ∧ (bI pc k = true ∨ ∃ j : Int, nbr c (r * c) k j ∧ 0 ≤ j ∧ j < 64 ∧ bI pc j = true) := by
  obtain ⟨⟨r0, r1⟩, c0, c1⟩ := hs
  have hrc := rc_bd r0 r1 c0 c1
  have hm := md_s c0 c1 h0
  unfold grB
  rw [bB_and, bB_or, bB_or, bB_or, bB_or, bB_shl h0 h1, bB_shr h0, bB_shl h0 h1, bB_shr h0, bB_and, bB_and, show ((Int.toNat 1 : Nat) : Int) = 1 by decide, show ((Int.toNat c : Nat) : Int) = c by omega]
  constructor
  · rintro ⟨h, hk⟩
    have hkN := hsm k h0 h1 hk
    refine ⟨hk, ?_⟩
    rcases h with ((h | h | h) | h) | h
    · exact Or.inl h
    · obtain ⟨a, b, e⟩ := h
      rw [bB_not (by omega) (by omega), hl (k - 1) (by omega) (by omega)] at e
      have e2 := hsm _ (by omega) (by omega) (hp _ (by omega) (by omega) b)
      exact Or.inr ⟨k - 1, Or.inl ⟨(hm.1 a).mpr (fun q => e ⟨e2, q⟩), rfl⟩, by omega, by omega, b⟩
    · obtain ⟨b, e⟩ := h
      have hk1 : k + 1 < 64 := by
        apply Classical.byContradiction
        intro q
        exact bB_hi (by omega) b
      rw [bB_not (by omega) (by omega), hf (k + 1) (by omega) (by omega)] at e
      have e2 := hsm _ (by omega) (by omega) (hp _ (by omega) (by omega) b)
      exact Or.inr ⟨1 + k, Or.inr (Or.inl ⟨hm.2.mpr (fun q => e ⟨e2, q⟩), rfl⟩), by omega, by omega, by rw [show 1 + k = k + 1 by omega]; exact b⟩
    · exact Or.inr ⟨k - c, Or.inr (Or.inr (Or.inl ⟨h.1, rfl⟩)), by omega, by omega, h.2⟩
    · have hk1 : k + c < 64 := by
        apply Classical.byContradiction
        intro q
        exact bB_hi (by omega) h
      have e2 := hsm _ (by omega) hk1 (hp _ (by omega) hk1 h)
      exact Or.inr ⟨c + k, Or.inr (Or.inr (Or.inr ⟨by omega, rfl⟩)), by omega, by omega, by rw [show c + k = k + c by omega]; exact h⟩
  · rintro ⟨hk, h⟩
    have hkN := hsm k h0 h1 hk
    refine ⟨?_, hk⟩
    rcases h with h | ⟨j, hn, j0, j1, h⟩
    · exact Or.inl (Or.inl (Or.inl h))
    · have hjN := hsm j j0 j1 (hp j j0 j1 h)
      rcases hn with ⟨a, rfl⟩ | ⟨a, rfl⟩ | ⟨a, rfl⟩ | ⟨a, rfl⟩
      · refine Or.inl (Or.inl (Or.inr (Or.inl ⟨by omega, h, ?_⟩)))
        rw [bB_not (by omega) (by omega), hl _ (by omega) (by omega)]
        exact fun q => (hm.1 (by omega)).mp a q.2
      · rw [show 1 + k = k + 1 by omega] at h hjN
        refine Or.inl (Or.inl (Or.inr (Or.inr ⟨h, ?_⟩)))
        rw [bB_not (by omega) (by omega), hf _ (by omega) (by omega)]
        exact fun q => hm.2.mp a q.2
      · exact Or.inl (Or.inr ⟨a, h⟩)
      · rw [show c + k = k + c by omega] at h
        exact Or.inr h
def fpOK (c N : Int) (sm y : BitVec 64) : Prop := ∃ k0 : Int, 0 ≤ k0 ∧ k0 < N ∧ bI sm k0 = true ∧ (∀ j : Int, 0 ≤ j → j < k0 → ¬ bI sm j = true) ∧ ∀ k : Int, 0 ≤ k → k < 64 → (bI y k = true ↔ conn c N (PB sm) k0 k)
theorem fp_low {sm : BitVec 64} {k0 : Int} (h0 : 0 ≤ k0) (h1 : k0 < 64) (hk : bI sm k0 = true) (hm : ∀ j : Int, 0 ≤ j → j < k0 → ¬ bI sm j = true) : ∀ k : Int, 0 ≤ k → k < 64 → (bI (sm &&& -sm) k = true ↔ k = k0) := fun k a b => by
  rw [bB_low a b]
  constructor
  · rintro ⟨c, d⟩
    rcases Int.lt_trichotomy k k0 with q | q | q
    · exact absurd c (hm k a q)
    · exact q
    · exact absurd hk (d k0 h0 q)
  · rintro rfl; exact ⟨hk, hm⟩
theorem low_ex {sm : BitVec 64} (h : sm ≠ 0#64) : ∃ k0 : Int, 0 ≤ k0 ∧ k0 < 64 ∧ bI sm k0 = true ∧ ∀ j : Int, 0 ≤ j → j < k0 → ¬ bI sm j = true := by
  obtain ⟨k, k0, k1, hk⟩ := bB_nz h
  have : ∀ n : Nat, ∀ k : Int, 0 ≤ k → k < n → n ≤ 64 → bI sm k = true → ∃ k0 : Int, 0 ≤ k0 ∧ k0 < 64 ∧ bI sm k0 = true ∧ ∀ j : Int, 0 ≤ j → j < k0 → ¬ bI sm j = true := by
    intro n
    induction n with
    | zero => intro k a b; omega
    | succ n ih =>
      intro k a b c d
      by_cases e : ∃ j : Int, 0 ≤ j ∧ j < n ∧ bI sm j = true
      · obtain ⟨j, j0, j1, hj⟩ := e
        exact ih j j0 j1 (by omega) hj
      · have hkn : k = n := by
          apply Classical.byContradiction
          intro q
          exact e ⟨k, a, by omega, d⟩
        exact ⟨k, a, by omega, d, fun j j0 j1 q => e ⟨j, j0, by omega, q⟩⟩
  exact this 64 k k0 k1 (Nat.le_refl _) hk
/-- at the fixpoint it is all that hangs together -/
theorem fp_fix {r c k0 : Int} {pc sm fc lc : BitVec 64} (hs : shP r c) (hf : fcOK r c fc) (hl : lcOK r c lc) (hsm : ∀ k : Int, 0 ≤ k → k < 64 → bI sm k = true → k < r * c) (hk0 : 0 ≤ k0 ∧ k0 < 64) (hsk : bI sm k0 = true) (hpk : bI pc k0 = true) (hpc : ∀ k : Int, 0 ≤ k → k < 64 → bI pc k = true → conn c (r * c) (PB sm) k0 k) (hfix : grB c pc sm fc lc = pc) : ∀ k : Int, 0 ≤ k → k < 64 → (bI pc k = true ↔ conn c (r * c) (PB sm) k0 k) := by
  have hrc := rc_bd hs.1.1 hs.1.2 hs.2.1 hs.2.2
  have hsub : ∀ k : Int, 0 ≤ k → k < 64 → bI pc k = true → bI sm k = true := fun k a b h => (conn_in (hpc k a b h) hk0.1 (hsm _ hk0.1 hk0.2 hsk) hsk).2.2
  refine fun k a b => ⟨hpc k a b, fun h => ?_⟩
  have := h (fun x => (0 ≤ x ∧ x < 64) ∧ bI pc x = true) ⟨hk0, hpk⟩ (fun x y hx hy hn => by
    have hy64 : y < 64 := by omega
    have hxN := hsm x hx.1.1 hx.1.2 (hsub x hx.1.1 hx.1.2 hx.2)
    have hsy := nbr_sym hs.2.1 hs.2.2 hx.1.1 hxN hn
    refine ⟨⟨hy.1, hy64⟩, ?_⟩
    rw [← hfix, grB_bit hs hf hl hsm hsub hy.1 hy64]
    exact ⟨hy.2.2, Or.inr ⟨x, hsy.1, hx.1.1, hx.1.2, hx.2⟩⟩)
  exact this.2
/-- one round more keeps to what hangs together, and there is more of it -/
theorem fp_grow {r c k0 : Int} {pc sm fc lc : BitVec 64} (hs : shP r c) (hf : fcOK r c fc) (hl : lcOK r c lc) (hsm : ∀ k : Int, 0 ≤ k → k < 64 → bI sm k = true → k < r * c) (hk0 : 0 ≤ k0 ∧ k0 < 64) (hsk : bI sm k0 = true) (hpk : bI pc k0 = true) (hpc : ∀ k : Int, 0 ≤ k → k < 64 → bI pc k = true → conn c (r * c) (PB sm) k0 k) (hfix : grB c pc sm fc lc ≠ pc) : bI (grB c pc sm fc lc) k0 = true ∧ (∀ k : Int, 0 ≤ k → k < 64 → bI (grB c pc sm fc lc) k = true → conn c (r * c) (PB sm) k0 k) ∧ cB pc + 1 ≤ cB (grB c pc sm fc lc) := by
  have hsub : ∀ k : Int, 0 ≤ k → k < 64 → bI pc k = true → bI sm k = true := fun k a b h => (conn_in (hpc k a b h) hk0.1 (hsm _ hk0.1 hk0.2 hsk) hsk).2.2
  refine ⟨(grB_bit hs hf hl hsm hsub hk0.1 hk0.2).mpr ⟨hsk, Or.inl hpk⟩, fun k a b h => ?_, cB_lt (fun k a b h => (grB_bit hs hf hl hsm hsub a b).mpr ⟨hsub k a b h, Or.inl h⟩) (fun e => hfix e.symm)⟩
  obtain ⟨h1, h2 | ⟨j, hn, j0, j1, h2⟩⟩ := (grB_bit hs hf hl hsm hsub a b).mp h
  · exact hpc k a b h2
  · have hkN := hsm k a b h1
    have hsy := nbr_sym hs.2.1 hs.2.2 a hkN hn
    exact conn_step (hpc j j0 j1 h2) a hkN h1 hsy.1
