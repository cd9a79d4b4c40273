/-! tearing off: which squares -/
theorem npc_bd (c N : Int) (P : Int → Prop) (h : 0 ≤ N) : 0 ≤ npc c N P ∧ npc c N P ≤ N := by
  have := sumI_bd (f := fun k => cInd (lft c N P k k)) (a := 0) (b := 1) (n := N.toNat) (fun k _ _ => by
    show 0 ≤ cInd _ ∧ cInd _ ≤ 1
    rcases Classical.em (lft c N P k k) with q | q
    · rw [cInd_t q]; omega
    · rw [cInd_f q]; omega)
  unfold npc
  omega
/-- two units of a sheet (one and the same where one is given) -/
def valU (now : Int → Int) (p N w mn x y : Int) : Prop := 0 ≤ x ∧ x < N ∧ x % w = 0 ∧ 0 ≤ y ∧ y < N ∧ y % w = 0 ∧ now (460 + 64 * p + x) ≠ 0 ∧ now (460 + 64 * p + y) ≠ 0 ∧ (mn = 1 → y = x) ∧ (mn ≠ 1 → x + w ≤ y)
noncomputable def cst (now : Int → Int) (p w x y : Int) : Int := npc (now (50 + p)) (now (40 + p) * now (50 + p)) (remP now p x y w)
def bestU (V : Int → Int → Prop) (cs : Int → Int → Int) (vis : Int → Int → Prop) (few a b : Int) : Prop := (∀ x y : Int, V x y → vis x y → few ≤ cs x y) ∧ ((a = -1 ∧ b = -1 ∧ few = 1000000) ∨ (V a b ∧ vis a b ∧ few = cs a b ∧ ∀ x y : Int, V x y → vis x y → x < a ∨ (x = a ∧ y < b) → cs a b < cs x y))
theorem bestU_same {V : Int → Int → Prop} {cs : Int → Int → Int} {vis vis2 : Int → Int → Prop} {few a b : Int} (h : bestU V cs vis few a b) (e : ∀ x y : Int, V x y → (vis2 x y ↔ vis x y)) : bestU V cs vis2 few a b := ⟨fun x y hv hx => h.1 x y hv ((e x y hv).mp hx), h.2.imp (fun z => z) (fun z => ⟨z.1, (e a b z.1).mpr z.2.1, z.2.2.1, fun x y hv hx => z.2.2.2 x y hv ((e x y hv).mp hx)⟩)⟩
theorem bestU_keep {V : Int → Int → Prop} {cs : Int → Int → Int} {vis vis2 : Int → Int → Prop} {few a b i j : Int} (h : bestU V cs vis few a b) (hf : few ≤ cs i j) (hvis : ∀ x y : Int, V x y → (vis2 x y ↔ vis x y ∨ (x = i ∧ y = j))) (hlt : ∀ x y : Int, V x y → vis x y → x < i ∨ (x = i ∧ y < j)) : bestU V cs vis2 few a b := by
  refine ⟨fun x y hv hx => ?_, h.2.imp (fun z => z) (fun z => ⟨z.1, (hvis a b z.1).mpr (Or.inl z.2.1), z.2.2.1, fun x y hv hx hl => ?_⟩)⟩
  · rcases (hvis x y hv).mp hx with q | ⟨rfl, rfl⟩
    · exact h.1 x y hv q
    · exact hf
  · rcases (hvis x y hv).mp hx with q | ⟨rfl, rfl⟩
    · exact z.2.2.2 x y hv q hl
    · have := hlt a b z.1 z.2.1; omega
theorem bestU_take {V : Int → Int → Prop} {cs : Int → Int → Int} {vis vis2 : Int → Int → Prop} {few a b i j : Int} (h : bestU V cs vis few a b) (hf : cs i j < few) (hV : V i j) (hvis : ∀ x y : Int, V x y → (vis2 x y ↔ vis x y ∨ (x = i ∧ y = j))) : bestU V cs vis2 (cs i j) i j := by
  refine ⟨fun x y hv hx => ?_, Or.inr ⟨hV, (hvis i j hV).mpr (Or.inr ⟨rfl, rfl⟩), rfl, fun x y hv hx hl => ?_⟩⟩
  · rcases (hvis x y hv).mp hx with q | ⟨rfl, rfl⟩
    · have := h.1 x y hv q; omega
    · exact Int.le_refl _
  · rcases (hvis x y hv).mp hx with q | ⟨rfl, rfl⟩
    · have := h.1 x y hv q; omega
    · omega
theorem bestU_one {V : Int → Int → Prop} {cs : Int → Int → Int} {few a b few' a' b' : Int} (h : bestU V cs (fun _ _ => True) few a b) (h' : bestU V cs (fun _ _ => True) few' a' b') (ha : V a b) (ha' : V a' b') (hl : few < 1000000) (hl' : few' < 1000000) : a = a' ∧ b = b' := by
  rcases h.2 with z | ⟨_, _, e, f⟩
  · omega
  · rcases h'.2 with z | ⟨_, _, e', f'⟩
    · omega
    · have h1 := h.1 a' b' ha' trivial
      have h2 := h'.1 a b ha trivial
      have h3 := f a' b' ha' trivial
      have h4 := f' a b ha trivial
      omega
def cntU (now : Int → Int) (p N w x : Int) : Int := sumI (fun j => if (x + j) % w = 0 ∧ now (460 + 64 * p + (x + j)) ≠ 0 then 1 else 0) (N - x).toNat
theorem sumI_front (f : Int → Int) : ∀ n : Nat, sumI f (n + 1) = f 0 + sumI (fun k => f (1 + k)) n
  | 0 => by show sumI f 0 + f ((0 : Nat) : Int) = f 0 + 0; show 0 + f 0 = f 0 + 0; omega
  | n + 1 => by
    show sumI f (n + 1) + f ((n + 1 : Nat) : Int) = f 0 + (sumI (fun k => f (1 + k)) n + f (1 + (n : Int)))
    rw [sumI_front f n, show ((n + 1 : Nat) : Int) = 1 + (n : Int) by omega]
    omega
theorem cntU_nn (now : Int → Int) (p N w x : Int) : 0 ≤ cntU now p N w x := by
  have h := sumI_bd (f := fun j => if (x + j) % w = 0 ∧ now (460 + 64 * p + (x + j)) ≠ 0 then (1 : Int) else 0) (a := 0) (b := 1) (n := (N - x).toNat) (fun k _ _ => by show 0 ≤ (if (x + k) % w = 0 ∧ now (460 + 64 * p + (x + k)) ≠ 0 then (1 : Int) else 0) ∧ (if (x + k) % w = 0 ∧ now (460 + 64 * p + (x + k)) ≠ 0 then (1 : Int) else 0) ≤ 1; split <;> omega)
  unfold cntU
  omega
theorem cntU_s1 {now : Int → Int} {p N w x : Int} (h1 : x < N) : cntU now p N w x = (if x % w = 0 ∧ now (460 + 64 * p + x) ≠ 0 then 1 else 0) + cntU now p N w (1 + x) := by
  unfold cntU
  rw [show (N - x).toNat = (N - (1 + x)).toNat + 1 by omega, sumI_front]
  congr 1
  · rw [show x + 0 = x by omega]
  · exact sumI_cong (fun k _ _ => by rw [show x + (1 + k) = 1 + x + k by omega])
theorem cntU_step {now : Int → Int} {p N w x : Int} (hw : w = 1 ∨ w = 2) (hx : x % w = 0) (h1 : x + w ≤ N) : cntU now p N w x = (if now (460 + 64 * p + x) ≠ 0 then 1 else 0) + cntU now p N w (x + w) := by
  rcases hw with e | e
  · subst e
    rw [cntU_s1 (by omega), show 1 + x = x + 1 by omega]
    congr 1
    by_cases q : now (460 + 64 * p + x) ≠ 0
    · rw [if_pos q, if_pos ⟨hx, q⟩]
    · rw [if_neg q, if_neg (fun z => q z.2)]
  · subst e
    rw [cntU_s1 (by omega), cntU_s1 (x := 1 + x) (by omega), show 1 + (1 + x) = x + 2 by omega, if_neg (c := (1 + x) % 2 = 0 ∧ _) (fun z => by omega)]
    by_cases q : now (460 + 64 * p + x) ≠ 0
    · rw [if_pos q, if_pos ⟨hx, q⟩]; omega
    · rw [if_neg q, if_neg (fun z => q z.2)]; omega
theorem cntU_mono {now : Int → Int} {p N w : Int} : ∀ (n : Nat) (x : Int), x + n ≤ N → cntU now p N w (x + n) ≤ cntU now p N w x
  | 0, x, _ => by rw [show x + ((0 : Nat) : Int) = x by omega]; exact Int.le_refl _
  | n + 1, x, h => by
    have h1 := cntU_mono (now := now) (p := p) (N := N) (w := w) n (1 + x) (by omega)
    rw [show 1 + x + (n : Int) = x + ((n + 1 : Nat) : Int) by omega] at h1
    rw [cntU_s1 (x := x) (by omega)]
    split <;> omega
/-- the squares that are torn off where mn units are given -/
def tornT (now : Int → Int) (p w mn : Int) (T : Int → Prop) : Prop := (mn < 3 ∧ ∃ few a b : Int, bestU (valU now p (now (40 + p) * now (50 + p)) w mn) (cst now p w) (fun _ _ => True) few a b ∧ few < 1000000 ∧ valU now p (now (40 + p) * now (50 + p)) w mn a b ∧ ∀ s : Int, 0 ≤ s → s < 64 → (T s ↔ (a ≤ s ∧ s < a + w) ∨ (b ≤ s ∧ s < b + w))) ∨ (3 ≤ mn ∧ ∀ s : Int, 0 ≤ s → s < 64 → (T s ↔ s < now (40 + p) * now (50 + p) ∧ now (460 + 64 * p + s) ≠ 0 ∧ cntU now p (now (40 + p) * now (50 + p)) w (s - s % w + w) < mn))
def isShP (now : Int → Int) (p : Int) : Prop := now p = 2 ∨ now p = 3
def wOf (now : Int → Int) (p w : Int) : Prop := (now p = 2 ∧ w = 1) ∨ (now p = 3 ∧ w = 2)
def wBP (w : Int) : Prop := w = 1 ∨ w = 2
def lfP (now : Int → Int) (p w i j lf : Int) : Prop := (now (460 + 64 * p + j) = 0 ∧ lf = 1000000) ∨ (now (460 + 64 * p + j) ≠ 0 ∧ lf = cst now p w i j)
theorem wOf_BP {now : Int → Int} {p w : Int} (h : wOf now p w) : wBP w := by rcases h with h | h; exact Or.inl h.2; exact Or.inr h.2
theorem wBP_bd {w : Int} (h : wBP w) : 1 ≤ w ∧ w ≤ 2 := by rcases h with h | h <;> subst h <;> decide
