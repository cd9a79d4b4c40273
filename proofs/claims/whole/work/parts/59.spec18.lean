/-! the searches of a sheet -/
def refF (i r m : Int) : Int := if ¬ (0 ≤ i ∧ i ≤ r - 1) then -13 else if m / (2 : Int) ^ i.toNat % 2 = 1 then -11 else 0
def sqrF (f : Int) (x : BitVec 64) (r c m i j : Int) : Int := if refF i r m < 0 then refF i r m else if ¬ (0 ≤ j ∧ j ≤ c - 1) then -13 else if bI x (i * c + j) = true then f else 0
def prF (f : Int) (x : BitVec 64) (r c m i j : Int) : Int := if refF i r m < 0 then refF i r m else if ¬ (0 ≤ j ∧ j ≤ c / 2 - 1) then -13 else sqrF f x r c m i (2 * j) + sqrF f x r c m i (2 * j + 1)
theorem refF_ge {i r m : Int} (h : 0 ≤ refF i r m) : (0 ≤ i ∧ i ≤ r - 1) ∧ refF i r m = 0 := by
  unfold refF at h ⊢
  by_cases e : 0 ≤ i ∧ i ≤ r - 1
  · rw [if_neg (fun q => q e)] at h ⊢
    by_cases e2 : m / (2 : Int) ^ i.toNat % 2 = 1
    · rw [if_pos e2] at h; omega
    · rw [if_neg e2]; exact ⟨e, rfl⟩
  · rw [if_pos e] at h; omega
theorem refF_bd (i r m : Int) : -13 ≤ refF i r m ∧ refF i r m ≤ 0 := by
  unfold refF
  split
  · omega
  · split <;> omega
theorem sqrF_bd {f : Int} {x : BitVec 64} {r c m i j : Int} (hf : 0 ≤ f ∧ f ≤ 500) : -13 ≤ sqrF f x r c m i j ∧ sqrF f x r c m i j ≤ 500 := by
  have := refF_bd i r m
  unfold sqrF
  split
  · omega
  · split
    · omega
    · split <;> omega
theorem sq_at {x : BitVec 64} {k : Int} (h0 : 0 ≤ k) (h1 : k < 64) : (x &&& (1#64 <<< (Int.toNat k))) = 0#64 ↔ ¬ bI x k = true := by
  constructor
  · intro e h
    have : bI (x &&& (1#64 <<< (Int.toNat k))) k = true := bB_and.mpr ⟨h, (bB_one (by omega) h0 h1).mpr (by omega)⟩
    rw [e] at this
    exact bB_0 this
  · intro h
    refine bB_zz (fun j j0 j1 q => ?_)
    rw [bB_and, bB_one (by omega) j0 j1] at q
    exact h (by rw [show k = j by omega]; exact q.1)
theorem ij_bd {i j r c : Int} (hr : 0 ≤ r ∧ r ≤ 8) (hc : 1 ≤ c ∧ c ≤ 8) (hi : 0 ≤ i ∧ i ≤ r - 1) (hj : 0 ≤ j ∧ j ≤ c - 1) : 0 ≤ i * c + j ∧ i * c + j < 64 := by
  have : c = 1 ∨ c = 2 ∨ c = 3 ∨ c = 4 ∨ c = 5 ∨ c = 6 ∨ c = 7 ∨ c = 8 := by omega
  rcases this with h | h | h | h | h | h | h | h <;> subst h <;> omega
theorem cntU_ge {now : Int → Int} {p N w x : Int} (h : N ≤ x) : cntU now p N w x = 0 := by
  unfold cntU
  rw [show (N - x).toNat = 0 by omega]
  rfl
theorem cntU_y {now : Int → Int} {p N w j : Int} (h : j < N) (hu : un now p w j) : cntU now p N w j = 1 + cntU now p N w (1 + j) := by
  rw [cntU_s1 h, if_pos (⟨hu.1, hu.2⟩ : j % w = 0 ∧ now (460 + 64 * p + j) ≠ 0)]
theorem cntU_n {now : Int → Int} {p N w j : Int} (hu : ¬ un now p w j) : cntU now p N w j = cntU now p N w (1 + j) := by
  by_cases h : j < N
  · rw [cntU_s1 h, if_neg (fun q => hu ⟨q.1, q.2⟩)]; omega
  · rw [cntU_ge (by omega), cntU_ge (by omega)]
/-- the last ones: the end of the search -/
theorem lastU_end {now : Int → Int} {p N w mn lf j : Int} {z : BitVec 64} (hw : wBP w) (hN : N ≤ 64) (hNw : N % w = 0) (hpr : pairU now p w) (hz : ∀ k : Int, N ≤ k → k < 64 → now (460 + 64 * p + k) = 0) (hmn : 1 ≤ mn) (hj : -1 ≤ j) (hl : lf = mn - cntU now p N w (1 + j)) (hl0 : 0 ≤ lf) (hex : j = -1 ∨ lf = 0) (hb : ∀ k : Int, 0 ≤ k → k < 64 → (bI z k = true ↔ now (460 + 64 * p + k) ≠ 0 ∧ j < k - k % w)) : ∀ k : Int, 0 ≤ k → k < 64 → (bI z k = true ↔ k < N ∧ now (460 + 64 * p + k) ≠ 0 ∧ cntU now p N w (k - k % w + w) < mn) := by
  intro k k0 k1
  have hwb := wBP_bd hw
  rw [hb k k0 k1]
  have hu := wBP_cases (x := k) hw
  have huk := hu.2.2.2 k0
  constructor
  · rintro ⟨a, b⟩
    have hkN : k < N := by
      apply Classical.byContradiction
      intro q
      exact a (hz k (by omega) k1)
    refine ⟨hkN, a, ?_⟩
    have hun : un now p w (k - k % w) := ⟨hu.1, (hpr k k0 k1).mp a⟩
    have h1 := mw_le hw hu.1 hNw (by omega)
    have h2 := cntU_step (now := now) (p := p) (N := N) hw hu.1 h1
    rw [if_pos hun.2] at h2
    have h3 := cntU_le (now := now) (p := p) (N := N) (w := w) (x := 1 + j) (y := k - k % w) (by omega) (by omega)
    omega
  · rintro ⟨b, a, d⟩
    refine ⟨a, ?_⟩
    apply Classical.byContradiction
    intro q
    have hj0 : j ≠ -1 := by omega
    have hl1 : lf = 0 := hex.resolve_left hj0
    have hjN : 1 + j ≤ N := by
      apply Classical.byContradiction
      intro z
      have := cntU_ge (now := now) (p := p) (w := w) (x := 1 + j) (N := N) (by omega)
      omega
    by_cases e : k - k % w + w ≤ 1 + j
    · have h3 := cntU_le (now := now) (p := p) (N := N) (w := w) e hjN
      omega
    · have hj2 : 1 + j = k - k % w + 1 ∧ w = 2 := by omega
      have h4 : ¬ un now p w (1 + j) := fun z => by have := z.1; rw [hj2.1, hj2.2] at this; have := hu.1; rw [hj2.2] at this; omega
      have h5 := cntU_n (N := N) h4
      rw [show 1 + (1 + j) = k - k % w + w by omega] at h5
      omega
/-- the least cost so far, of one more unit -/
def g1I (V : Int → Prop) (cs : Int → Int) (B : Int → BitVec 64) (fr sq few : Int) (best : BitVec 64) : Prop := (few = 65 ∧ best = 0#64 ∧ ∀ j : Int, fr ≤ j → j < sq → ¬ V j) ∨ ∃ b : Int, fr ≤ b ∧ b < sq ∧ V b ∧ best = B b ∧ few = cs b ∧ (∀ j : Int, fr ≤ j → j < sq → V j → cs b ≤ cs j) ∧ ∀ j : Int, fr ≤ j → j < b → V j → cs b < cs j
theorem g1I_0 {V : Int → Prop} {cs : Int → Int} {B : Int → BitVec 64} {fr : Int} : g1I V cs B fr fr 65 0#64 := Or.inl ⟨rfl, rfl, fun j a b => absurd b (by omega)⟩
theorem g1I_no {V : Int → Prop} {cs : Int → Int} {B : Int → BitVec 64} {fr sq few : Int} {best : BitVec 64} (h : g1I V cs B fr sq few best) (hv : ¬ V sq) : g1I V cs B fr (1 + sq) few best := by
  rcases h with ⟨a, b, c⟩ | ⟨b, b0, b1, b2, b3, b4, b5, b6⟩
  · refine Or.inl ⟨a, b, fun j j0 j1 => ?_⟩
    by_cases e : j = sq
    · rw [e]; exact hv
    · exact c j j0 (by omega)
  · refine Or.inr ⟨b, b0, by omega, b2, b3, b4, fun j j0 j1 hj => ?_, b6⟩
    by_cases e : j = sq
    · rw [e] at hj; exact absurd hj hv
    · exact b5 j j0 (by omega) hj
theorem g1I_keep {V : Int → Prop} {cs : Int → Int} {B : Int → BitVec 64} {fr sq few : Int} {best : BitVec 64} (h : g1I V cs B fr sq few best) (hf : few ≤ cs sq) (hc : cs sq ≤ 64) : g1I V cs B fr (1 + sq) few best := by
  rcases h with ⟨a, b, c⟩ | ⟨b, b0, b1, b2, b3, b4, b5, b6⟩
  · omega
  · refine Or.inr ⟨b, b0, by omega, b2, b3, b4, fun j j0 j1 hj => ?_, b6⟩
    by_cases e : j = sq
    · rw [e]; omega
    · exact b5 j j0 (by omega) hj
theorem g1I_take {V : Int → Prop} {cs : Int → Int} {B : Int → BitVec 64} {fr sq few : Int} {best : BitVec 64} (h : g1I V cs B fr sq few best) (hs : fr ≤ sq) (hv : V sq) (hf : cs sq < few) : g1I V cs B fr (1 + sq) (cs sq) (B sq) := by
  have hlt : ∀ j : Int, fr ≤ j → j < sq → V j → cs sq < cs j := by
    intro j j0 j1 hj
    rcases h with ⟨a, b, c⟩ | ⟨b, b0, b1, b2, b3, b4, b5, b6⟩
    · exact absurd hj (c j j0 j1)
    · have := b5 j j0 j1 hj; omega
  refine Or.inr ⟨sq, hs, by omega, hv, rfl, rfl, fun j j0 j1 hj => ?_, hlt⟩
  by_cases e : j = sq
  · rw [e]; exact Int.le_refl _
  · have := hlt j j0 (by omega) hj; omega
def g1R (V : Int → Prop) (cs : Int → Int) (B : Int → BitVec 64) (fr : Int) (z : BitVec 64) : Prop := (z = 0#64 ∧ ∀ j : Int, fr ≤ j → j < 64 → ¬ V j) ∨ ∃ b : Int, fr ≤ b ∧ b < 64 ∧ V b ∧ z = B b ∧ (∀ j : Int, fr ≤ j → j < 64 → V j → cs b ≤ cs j) ∧ ∀ j : Int, fr ≤ j → j < b → V j → cs b < cs j
theorem g1I_end {V : Int → Prop} {cs : Int → Int} {B : Int → BitVec 64} {fr sq few en : Int} {best : BitVec 64} (h : g1I V cs B fr sq few best) (hs : sq ≤ 64) (hen : en ≤ 64) (hlb : ∀ j : Int, fr ≤ j → j < 64 → V j → en ≤ cs j) (he : 64 ≤ sq ∨ few ≤ en) : g1R V cs B fr best := by
  rcases h with ⟨a, b, c⟩ | ⟨b, b0, b1, b2, b3, b4, b5, b6⟩
  · exact Or.inl ⟨b, fun j j0 j1 => c j j0 (by omega)⟩
  · refine Or.inr ⟨b, b0, by omega, b2, b3, fun j j0 j1 hj => ?_, b6⟩
    by_cases e : j < sq
    · exact b5 j j0 e hj
    · have := hlb j j0 j1 hj; omega
theorem g1I_few {V : Int → Prop} {cs : Int → Int} {B : Int → BitVec 64} {fr sq few : Int} {best : BitVec 64} (h : g1I V cs B fr sq few best) (hc : ∀ j : Int, 0 ≤ cs j ∧ cs j ≤ 64) : 0 ≤ few ∧ few ≤ 65 := by
  rcases h with ⟨a, -, -⟩ | ⟨b, b0, b1, b2, b3, b4, b5, b6⟩
  · omega
  · have := hc b; omega
/-- .. and of two -/
def g2I (V : Int → Int → Prop) (cs : Int → Int → Int) (B : Int → Int → BitVec 64) (i few : Int) (best : BitVec 64) : Prop := (few = 65 ∧ best = 0#64 ∧ ∀ u v : Int, u < i → ¬ V u v) ∨ ∃ a b : Int, a < i ∧ V a b ∧ best = B a b ∧ few = cs a b ∧ (∀ u v : Int, u < i → V u v → cs a b ≤ cs u v) ∧ ∀ u v : Int, V u v → (u < a ∨ (u = a ∧ v < b)) → cs a b < cs u v
theorem g2I_0 {V : Int → Int → Prop} {cs : Int → Int → Int} {B : Int → Int → BitVec 64} (hV : ∀ u v : Int, V u v → 0 ≤ u) : g2I V cs B 0 65 0#64 := Or.inl ⟨rfl, rfl, fun u v a b => by have := hV u v b; omega⟩
theorem g2I_no {V : Int → Int → Prop} {cs : Int → Int → Int} {B : Int → Int → BitVec 64} {i few : Int} {best : BitVec 64} (h : g2I V cs B i few best) (hv : ∀ v : Int, ¬ V i v) : g2I V cs B (1 + i) few best := by
  rcases h with ⟨a, b, c⟩ | ⟨a, b, b1, b2, b3, b4, b5, b6⟩
  · refine Or.inl ⟨a, b, fun u v hu => ?_⟩
    by_cases e : u = i
    · rw [e]; exact hv v
    · exact c u v (by omega)
  · refine Or.inr ⟨a, b, by omega, b2, b3, b4, fun u v hu hj => ?_, b6⟩
    by_cases e : u = i
    · rw [e] at hj; exact absurd hj (hv v)
    · exact b5 u v (by omega) hj
theorem g2I_keep {V : Int → Int → Prop} {cs : Int → Int → Int} {B : Int → Int → BitVec 64} {i few j : Int} {best : BitVec 64} (h : g2I V cs B i few best) (hm : ∀ v : Int, V i v → cs i j ≤ cs i v) (hf : few ≤ cs i j) (hc : cs i j ≤ 64) : g2I V cs B (1 + i) few best := by
  rcases h with ⟨a, b, c⟩ | ⟨a, b, b1, b2, b3, b4, b5, b6⟩
  · omega
  · refine Or.inr ⟨a, b, by omega, b2, b3, b4, fun u v hu hj => ?_, b6⟩
    by_cases e : u = i
    · rw [e] at hj ⊢; have := hm v hj; omega
    · exact b5 u v (by omega) hj
theorem g2I_take {V : Int → Int → Prop} {cs : Int → Int → Int} {B : Int → Int → BitVec 64} {i few j : Int} {best : BitVec 64} (h : g2I V cs B i few best) (hv : V i j) (hm : ∀ v : Int, V i v → cs i j ≤ cs i v) (hm2 : ∀ v : Int, V i v → v < j → cs i j < cs i v) (hf : cs i j < few) : g2I V cs B (1 + i) (cs i j) (B i j) := by
  have hlt : ∀ u v : Int, u < i → V u v → cs i j < cs u v := by
    intro u v hu hj
    rcases h with ⟨a, b, c⟩ | ⟨a, b, b1, b2, b3, b4, b5, b6⟩
    · exact absurd hj (c u v hu)
    · have := b5 u v hu hj; omega
  refine Or.inr ⟨i, j, by omega, hv, rfl, rfl, fun u v hu hj => ?_, fun u v hj hl => ?_⟩
  · by_cases e : u = i
    · rw [e] at hj ⊢; exact hm v hj
    · have := hlt u v (by omega) hj; omega
  · rcases hl with hl | ⟨hl, hl2⟩
    · exact hlt u v hl hj
    · rw [hl] at hj ⊢; exact hm2 v hj hl2
def g2R (V : Int → Int → Prop) (cs : Int → Int → Int) (B : Int → Int → BitVec 64) (z : BitVec 64) : Prop := (z = 0#64 ∧ ∀ u v : Int, ¬ V u v) ∨ ∃ a b : Int, V a b ∧ z = B a b ∧ (∀ u v : Int, V u v → cs a b ≤ cs u v) ∧ ∀ u v : Int, V u v → (u < a ∨ (u = a ∧ v < b)) → cs a b < cs u v
theorem g2I_end {V : Int → Int → Prop} {cs : Int → Int → Int} {B : Int → Int → BitVec 64} {i few en : Int} {best : BitVec 64} (h : g2I V cs B i few best) (hen : en ≤ 64) (hV : ∀ u v : Int, V u v → u < 64) (hlb : ∀ u v : Int, V u v → en ≤ cs u v) (he : 64 ≤ i ∨ few ≤ en) : g2R V cs B best := by
  rcases h with ⟨a, b, c⟩ | ⟨a, b, b1, b2, b3, b4, b5, b6⟩
  · exact Or.inl ⟨b, fun u v hj => c u v (by have := hV u v hj; omega) hj⟩
  · refine Or.inr ⟨a, b, b2, b3, fun u v hj => ?_, b6⟩
    by_cases e : u < i
    · exact b5 u v e hj
    · have := hlb u v hj; have := hV u v hj; omega
theorem g2I_few {V : Int → Int → Prop} {cs : Int → Int → Int} {B : Int → Int → BitVec 64} {i few : Int} {best : BitVec 64} (h : g2I V cs B i few best) (hc : ∀ u v : Int, 0 ≤ cs u v ∧ cs u v ≤ 64) : 0 ≤ few ∧ few ≤ 65 := by
  rcases h with ⟨a, -, -⟩ | ⟨a, b, b1, b2, b3, b4, b5, b6⟩
  · omega
  · have := hc a b; omega
/-- two units, the one behind the other -/
def un2 (now : Int → Int) (p q u v : Int) : Prop := 0 ≤ u ∧ u < v ∧ v < 64 ∧ un now p q u ∧ un now p q v
noncomputable def csB (c N : Int) (x y : BitVec 64) : Int := npc c N (PB (x &&& nB y))
theorem csB_bd {r c : Int} (hs : shP r c) (x y : BitVec 64) : 0 ≤ csB c (r * c) x y ∧ csB c (r * c) x y ≤ 64 := by
  have hrc := rc_bd hs.1.1 hs.1.2 hs.2.1 hs.2.2
  have := npc_bd c (r * c) (PB (x &&& nB y)) (by omega)
  unfold csB
  omega
