/-! pieces of a sheet: what hangs together -/
def nbr (c N k j : Int) : Prop := (0 < k % c ∧ j = k - 1) ∨ (k % c < c - 1 ∧ j = 1 + k) ∨ (c ≤ k ∧ j = k - c) ∨ (c + k < N ∧ j = c + k)
def conn (c N : Int) (P : Int → Prop) (k j : Int) : Prop := ∀ T : Int → Prop, T k → (∀ x y : Int, T x → (0 ≤ y ∧ y < N ∧ P y) → nbr c N x y → T y) → T j
def nbS (c N : Int) (g : Int → Int) (k : Int) : Prop := ((0 < k % c ∧ g (k - 1) < 0) ∨ (k % c < c - 1 ∧ g (1 + k) < 0)) ∨ ((c ≤ k ∧ g (k - c) < 0) ∨ (c + k < N ∧ g (c + k) < 0))
theorem nbS_of {c N k x : Int} {g : Int → Int} (h : nbr c N k x) (hx : g x < 0) : nbS c N g k := by
  rcases h with ⟨a, rfl⟩ | ⟨a, rfl⟩ | ⟨a, rfl⟩ | ⟨a, rfl⟩
  · exact Or.inl (Or.inl ⟨a, hx⟩)
  · exact Or.inl (Or.inr ⟨a, hx⟩)
  · exact Or.inr (Or.inl ⟨a, hx⟩)
  · exact Or.inr (Or.inr ⟨a, hx⟩)
theorem nbS_ex {c N k : Int} {g : Int → Int} (h : nbS c N g k) : ∃ x : Int, nbr c N k x ∧ g x < 0 := by
  rcases h with (⟨a, b⟩ | ⟨a, b⟩) | (⟨a, b⟩ | ⟨a, b⟩)
  · exact ⟨_, Or.inl ⟨a, rfl⟩, b⟩
  · exact ⟨_, Or.inr (Or.inl ⟨a, rfl⟩), b⟩
  · exact ⟨_, Or.inr (Or.inr (Or.inl ⟨a, rfl⟩)), b⟩
  · exact ⟨_, Or.inr (Or.inr (Or.inr ⟨a, rfl⟩)), b⟩
theorem md_c {c k r : Int} (h1 : 1 ≤ c) (h2 : c ≤ 8) (h0 : 0 ≤ k) (hN : k < r * c) : 0 ≤ k % c ∧ k % c < c ∧ (0 < k % c → 1 ≤ k) ∧ (k % c < c - 1 → 1 + k < r * c) := by
  have : c = 1 ∨ c = 2 ∨ c = 3 ∨ c = 4 ∨ c = 5 ∨ c = 6 ∨ c = 7 ∨ c = 8 := by omega
  rcases this with h | h | h | h | h | h | h | h <;> subst h <;> omega
theorem nbr_sym {c r k j : Int} (h1 : 1 ≤ c) (h2 : c ≤ 8) (hk : 0 ≤ k) (hk2 : k < r * c) (h : nbr c (r * c) k j) : nbr c (r * c) j k ∧ 0 ≤ j ∧ j < r * c := by
  unfold nbr at h ⊢
  have : c = 1 ∨ c = 2 ∨ c = 3 ∨ c = 4 ∨ c = 5 ∨ c = 6 ∨ c = 7 ∨ c = 8 := by omega
  rcases this with e | e | e | e | e | e | e | e <;> subst e <;> rcases h with h | h | h | h <;> omega
theorem conn_rf {c N : Int} {P : Int → Prop} {k : Int} : conn c N P k k := fun _ h _ => h
theorem conn_step {c N : Int} {P : Int → Prop} {k x y : Int} (h : conn c N P k x) (h0 : 0 ≤ y) (h1 : y < N) (hy : P y) (hn : nbr c N x y) : conn c N P k y := fun T hk hc => hc x y (h T hk hc) ⟨h0, h1, hy⟩ hn
theorem conn_tr {c N : Int} {P : Int → Prop} {a b d : Int} (h : conn c N P a b) (h2 : conn c N P b d) : conn c N P a d := h2 (fun x => conn c N P a x) h (fun x y hx hy hn => conn_step hx hy.1 hy.2.1 hy.2.2 hn)
theorem conn_mono {c N : Int} {P Q : Int → Prop} (hPQ : ∀ x, 0 ≤ x → x < N → P x → Q x) {a b : Int} (h : conn c N P a b) : conn c N Q a b := h (fun x => conn c N Q a x) conn_rf (fun x y hx hy hn => conn_step hx hy.1 hy.2.1 (hPQ y hy.1 hy.2.1 hy.2.2) hn)
theorem conn_in {c N : Int} {P : Int → Prop} {a b : Int} (h : conn c N P a b) (h0 : 0 ≤ a) (h1 : a < N) (ha : P a) : 0 ≤ b ∧ b < N ∧ P b := h (fun x => 0 ≤ x ∧ x < N ∧ P x) ⟨h0, h1, ha⟩ (fun x y _ hy _ => hy)
theorem conn_sym {c r : Int} {P : Int → Prop} {a b : Int} (h1 : 1 ≤ c) (h2 : c ≤ 8) (h : conn c (r * c) P a b) (h0 : 0 ≤ a) (ha1 : a < r * c) (ha : P a) : conn c (r * c) P b a := by
  have := h (fun x => (0 ≤ x ∧ x < r * c ∧ P x) ∧ conn c (r * c) P x a) ⟨⟨h0, ha1, ha⟩, conn_rf⟩ (fun x y hx hy hn => ⟨hy, by
    have hs := nbr_sym h1 h2 hx.1.1 hx.1.2.1 hn
    exact conn_tr (conn_step conn_rf hx.1.1 hx.1.2.1 hx.1.2.2 hs.1) hx.2⟩)
  exact this.2
/-- the squares that are left when all that hangs together with those before k is gone -/
def lft (c N : Int) (P : Int → Prop) (k : Int) : Int → Prop := fun j => P j ∧ ∀ i : Int, 0 ≤ i → i < k → P i → ¬ conn c N P i j
theorem conn_lft {c r : Int} {P : Int → Prop} {k j : Int} (h1 : 1 ≤ c) (h2 : c ≤ 8) (h0 : 0 ≤ k) (hk1 : k < r * c) (hk : lft c (r * c) P k k) : conn c (r * c) (lft c (r * c) P k) k j ↔ conn c (r * c) P k j := by
  refine ⟨fun h => conn_mono (fun x _ _ hx => hx.1) h, fun h => ?_⟩
  have := h (fun x => (0 ≤ x ∧ x < r * c ∧ lft c (r * c) P k x) ∧ conn c (r * c) (lft c (r * c) P k) k x) ⟨⟨h0, hk1, hk⟩, conn_rf⟩ (fun x y hx hy hn => by
    have hs := nbr_sym h1 h2 hx.1.1 hx.1.2.1 hn
    have hl : lft c (r * c) P k y := ⟨hy.2.2, fun i i0 i1 hi hc => hx.1.2.2.2 i i0 i1 hi (conn_step hc hx.1.1 hx.1.2.1 hx.1.2.2.1 hs.1)⟩
    exact ⟨⟨hy.1, hy.2.1, hl⟩, conn_step hx.2 hy.1 hy.2.1 hl hn⟩)
  exact this.2
noncomputable def cInd (p : Prop) : Int := @ite Int p (Classical.propDecidable p) 1 0
theorem cInd_t {p : Prop} (h : p) : cInd p = 1 := by unfold cInd; rw [if_pos h]
theorem cInd_f {p : Prop} (h : ¬ p) : cInd p = 0 := by unfold cInd; rw [if_neg h]
/-- how many pieces: the least squares of what hangs together -/
noncomputable def npc (c N : Int) (P : Int → Prop) : Int := sumI (fun k => cInd (lft c N P k k)) N.toNat
theorem sum_upd {F : Int → Int} (g : Int → Int) (k v : Int) : ∀ (n : Nat), 0 ≤ k → k < n → sumI (fun j => F (upI g k v j)) n = sumI (fun j => F (g j)) n - F (g k) + F v
  | 0, h0, h1 => by omega
  | n + 1, h0, h1 => by
    show sumI (fun j => F (upI g k v j)) n + F (upI g k v n) = sumI (fun j => F (g j)) n + F (g n) - F (g k) + F v
    by_cases e : k = n
    · subst e
      rw [upI_s, sumI_cong (g := fun j => F (g j)) (fun j j0 j1 => by show F (upI g _ v j) = _; rw [upI_n (by omega)])]
      omega
    · rw [sum_upd g k v n h0 (by omega), upI_n (by omega)]
      omega
def ones (g : Int → Int) (N : Int) : Int := sumI (fun j => if g j = 1 then 1 else 0) N.toNat
theorem ones_nn (g : Int → Int) (N : Int) : 0 ≤ ones g N := by
  have h := sumI_bd (f := fun j => if g j = 1 then (1 : Int) else 0) (a := 0) (b := 1) (n := N.toNat) (fun k _ _ => by show 0 ≤ (if g k = 1 then (1 : Int) else 0) ∧ (if g k = 1 then (1 : Int) else 0) ≤ 1; split <;> omega)
  unfold ones
  omega
theorem ones_upd {g : Int → Int} {N k : Int} (h0 : 0 ≤ k) (h1 : k < N) (hk : g k = 1) : ones (upI g k (-1)) N = ones g N - 1 := by
  have h := sum_upd (F := fun z => if z = 1 then (1 : Int) else 0) g k (-1) N.toNat h0 (by omega)
  rw [if_pos hk, if_neg (by decide)] at h
  unfold ones
  omega
theorem wipe_closed {c r fr : Int} {part g : Int → Int} (h1 : 1 ≤ c) (h2 : c ≤ 8) (hpt : ∀ j : Int, 0 ≤ j → j < r * c → part j = 0 ∨ part j = 1) (j1 : ∀ j : Int, (0 ≤ j ∧ j < r * c → g j = part j ∨ (g j = -1 ∧ part j = 1)) ∧ (¬ (0 ≤ j ∧ j < r * c) → g j = part j)) (j3 : g fr = -1) (j4 : ∀ x : Int, 0 ≤ x → x < r * c → g x = 1 → ¬ nbS c (r * c) g x) (hfr : 0 ≤ fr ∧ fr < r * c) : ∀ j : Int, 0 ≤ j → j < r * c → conn c (r * c) (fun x => part x = 1) fr j → g j = -1 := by
  intro j _ _ h
  have := h (fun x => (0 ≤ x ∧ x < r * c) ∧ g x = -1) ⟨hfr, j3⟩ (fun x y hx hy hn => ⟨⟨hy.1, hy.2.1⟩, by
    have hs := nbr_sym h1 h2 hx.1.1 hx.1.2 hn
    have hp : part y = 1 := hy.2.2
    rcases (j1 y).1 ⟨hy.1, hy.2.1⟩ with q | q
    · exact absurd (nbS_of hs.1 (by rw [hx.2]; decide)) (j4 y hy.1 hy.2.1 (by omega))
    · exact q.1⟩)
  exact this.2
theorem conn_iff {c N : Int} {P Q : Int → Prop} (h : ∀ x : Int, 0 ≤ x → x < N → (P x ↔ Q x)) {a b : Int} : conn c N P a b ↔ conn c N Q a b := ⟨conn_mono (fun x h0 h1 => (h x h0 h1).mp), conn_mono (fun x h0 h1 => (h x h0 h1).mpr)⟩
theorem lft_succ {c N : Int} {P : Int → Prop} {k j : Int} (h0 : 0 ≤ k) : lft c N P (1 + k) j ↔ lft c N P k j ∧ (P k → ¬ conn c N P k j) := by
  refine ⟨fun h => ⟨⟨h.1, fun i i0 i1 => h.2 i i0 (by omega)⟩, h.2 k h0 (by omega)⟩, fun h => ⟨h.1.1, fun i i0 i1 hi => ?_⟩⟩
  rcases (show i < k ∨ i = k by omega) with q | q
  · exact h.1.2 i i0 q hi
  · subst q; exact h.2 hi
theorem lft_skip {c N : Int} {P : Int → Prop} {k j : Int} (h0 : 0 ≤ k) (hk : ¬ lft c N P k k) : lft c N P (1 + k) j ↔ lft c N P k j := by
  rw [lft_succ h0]
  refine ⟨fun h => h.1, fun h => ⟨h, fun hPk hc => ?_⟩⟩
  refine hk ⟨hPk, fun i i0 i1 hi hci => h.2 i i0 i1 hi (conn_tr hci hc)⟩
theorem lft_0 {c N : Int} {P : Int → Prop} {j : Int} : lft c N P 0 j ↔ P j := ⟨fun h => h.1, fun h => ⟨h, fun i i0 i1 => absurd i1 (by omega)⟩⟩
theorem npc_congr {c N : Int} {P Q : Int → Prop} (h : ∀ x : Int, 0 ≤ x → x < N → (P x ↔ Q x)) : npc c N P = npc c N Q := by
  unfold npc
  refine sumI_cong (fun k k0 k1 => ?_)
  have hk : k < N := by omega
  have : lft c N P k k ↔ lft c N Q k k := by
    unfold lft
    refine ⟨fun hh => ⟨(h k k0 hk).mp hh.1, fun i i0 i1 hi hc => hh.2 i i0 i1 ((h i i0 (by omega)).mpr hi) ((conn_iff h).mpr hc)⟩, fun hh => ⟨(h k k0 hk).mpr hh.1, fun i i0 i1 hi hc => hh.2 i i0 i1 ((h i i0 (by omega)).mp hi) ((conn_iff h).mp hc)⟩⟩
  rw [propext this]
def remP (now : Int → Int) (p a b w k : Int) : Prop := now (460 + 64 * p + k) ≠ 0 ∧ ¬ ((a ≠ -1 ∧ a ≤ k ∧ k < a + w) ∨ (b ≠ -1 ∧ b ≤ k ∧ k < b + w))
noncomputable def pcsF (now : Int → Int) (p : Int) : Int := if now (10 + p) = 0 then 0 else if now p = 2 ∨ now p = 3 then npc (now (50 + p)) (now (40 + p) * now (50 + p)) (remP now p (-1) (-1) 1) else 1
noncomputable def sHold (now : Int → Int) (p w : Int) : Int := if ¬ (0 ≤ p ∧ p ≤ 9 ∧ 0 ≤ w ∧ w ≤ 4) then -3 else if now p = -1 then -11 else if w = 0 then now p else if w = 1 then now (10 + p) else if w = 2 then (if now p ≠ 1 then now (20 + p) else if now (10 + p) = 0 then 0 else now (60 + 40 * p + (now (10 + p) - 1))) else if w = 3 then facesF now p else pcsF now p
noncomputable def sDay (now : Int → Int) (rd km w : Int) : Int := if ¬ (0 ≤ w ∧ w ≤ 9) then -3 else if w = 0 then now 1286 else if w = 1 then sumI (fun l => now (1467 + l)) (now 1286).toNat else if w = 2 then sumI (fun l => if now (1467 + l) = 0 then 0 else now (1287 + l)) (now 1286).toNat else if w = 3 then sumI (fun l => now (1347 + l)) (now 1286).toNat else if w = 4 then sumI (fun l => now (1407 + l)) (now 1286).toNat else if w = 5 then sumI (fun p => now (10 + p)) 10 else if w = 6 then allF now else if w = 7 then sumI (fun p => if now p = 2 ∨ now p = 3 then pcsF now p else 0) 10 else if w = 8 then rd else km
def dB (w : Int) : Int := if w = 1 then 1467 else if w = 2 then 1287 else if w = 3 then 1347 else 1407
def dF (now : Int → Int) (w l : Int) : Int := if w = 2 ∧ now (1467 + l) = 0 then 0 else now (dB w + l)
theorem dF_sum {now : Int → Int} {rd km w : Int} (h : 1 ≤ w ∧ w ≤ 4) : sDay now rd km w = sumI (dF now w) (now 1286).toNat := by
  unfold sDay
  rw [if_neg (by omega), if_neg (by omega)]
  rcases (show w = 1 ∨ w = 2 ∨ w = 3 ∨ w = 4 by omega) with e | e | e | e <;> subst e
  · rw [if_pos rfl]
    exact sumI_cong (fun l _ _ => by unfold dF dB; rw [if_neg (by omega), if_pos rfl])
  · rw [if_neg (by decide), if_pos rfl]
    exact sumI_cong (fun l _ _ => by
      unfold dF dB
      by_cases e : now (1467 + l) = 0
      · rw [if_pos e, if_pos ⟨rfl, e⟩]
      · rw [if_neg e, if_neg (fun q => e q.2), if_neg (by decide), if_pos rfl])
  · rw [if_neg (by decide), if_neg (by decide), if_pos rfl]
    exact sumI_cong (fun l _ _ => by unfold dF dB; rw [if_neg (by omega), if_neg (by decide), if_neg (by decide), if_pos rfl])
  · rw [if_neg (by decide), if_neg (by decide), if_neg (by decide), if_pos rfl]
    exact sumI_cong (fun l _ _ => by unfold dF dB; rw [if_neg (by omega), if_neg (by decide), if_neg (by decide), if_neg (by decide)])
