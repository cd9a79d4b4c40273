theorem cntU_le {now : Int → Int} {p N w x y : Int} (h : x ≤ y) (hy : y ≤ N) : cntU now p N w y ≤ cntU now p N w x := by
  have := cntU_mono (now := now) (p := p) (N := N) (w := w) (y - x).toNat x (by omega)
  rw [show x + ((y - x).toNat : Int) = y by omega] at this
  exact this
theorem mw_le {w i N : Int} (hw : w = 1 ∨ w = 2) (hi : i % w = 0) (hN : N % w = 0) (h : i < N) : i + w ≤ N := by rcases hw with e | e <;> subst e <;> omega
theorem mw_add {w i : Int} (hi : i % w = 0) : (i + w) % w = 0 := by rw [Int.add_emod_right]; exact hi
theorem mw_sub {w i : Int} (hw : w = 1 ∨ w = 2) (hi : i % w = 0) : (i - w) % w = 0 := by rcases hw with e | e <;> subst e <;> omega
theorem mw_lt {w i j : Int} (hw : w = 1 ∨ w = 2) (hi : i % w = 0) (hj : j % w = 0) (h : i < j + w) : i ≤ j := by rcases hw with e | e <;> subst e <;> omega
theorem rc_even {r c : Int} (h1 : 1 ≤ r) (h2 : r ≤ 8) (hc : c % 2 = 0) : (r * c) % 2 = 0 := by
  have : r = 1 ∨ r = 2 ∨ r = 3 ∨ r = 4 ∨ r = 5 ∨ r = 6 ∨ r = 7 ∨ r = 8 := by omega
  rcases this with h | h | h | h | h | h | h | h <;> subst h <;> omega
theorem cst_bd {now : Int → Int} {p w x y : Int} (h : 0 ≤ now (40 + p) * now (50 + p) ∧ now (40 + p) * now (50 + p) ≤ 64) : 0 ≤ cst now p w x y ∧ cst now p w x y ≤ 64 := by
  have := npc_bd (now (50 + p)) (now (40 + p) * now (50 + p)) (remP now p x y w) h.1
  unfold cst
  omega
theorem tornAll_congr {now nw : Int → Int} {l p : Int} {T T2 : Int → Prop} (h : tornAll now nw l p T) (e : ∀ s : Int, 0 ≤ s → s < 64 → (T2 s ↔ T s)) : tornAll now nw l p T2 := ⟨fun k k0 k1 => ⟨fun q => (h.1 k k0 k1).1 ((e k k0 k1).mp q), fun q => (h.1 k k0 k1).2 (fun z => q ((e k k0 k1).mpr z))⟩, h.2⟩
/-- both squares of a unit have a stamp, or none -/
def pairU (now : Int → Int) (p w : Int) : Prop := ∀ s : Int, 0 ≤ s → s < 64 → (now (460 + 64 * p + s) ≠ 0 ↔ now (460 + 64 * p + (s - s % w)) ≠ 0)
theorem lastT_ok {now : Int → Int} {p N w mn lf j0 : Int} (hw : w = 1 ∨ w = 2) (hN : N ≤ 64) (hNw : N % w = 0) (hpr : pairU now p w) (hl : lf = mn - cntU now p N w j0) (hl0 : 0 ≤ lf) (hj : 0 ≤ j0) (hjw : j0 % w = 0) (hex : j0 = 0 ∨ lf = 0) (hjN : j0 ≤ N) : ∀ s : Int, 0 ≤ s → s < 64 → ((j0 ≤ s ∧ s < N ∧ now (460 + 64 * p + s) ≠ 0) ↔ (s < N ∧ now (460 + 64 * p + s) ≠ 0 ∧ cntU now p N w (s - s % w + w) < mn)) := by
  intro s s0 s1
  have hu : 0 ≤ s - s % w ∧ s - s % w ≤ s ∧ s < s - s % w + w ∧ (s - s % w) % w = 0 := by rcases hw with e | e <;> subst e <;> omega
  have hpu := hpr s s0 s1
  constructor
  · rintro ⟨a, b, c⟩
    refine ⟨b, c, ?_⟩
    have h1 := mw_le hw hu.2.2.2 hNw (by omega)
    have h2 := cntU_step (now := now) (p := p) (N := N) hw hu.2.2.2 h1
    rw [if_pos (hpu.mp c)] at h2
    have h3 := cntU_le (now := now) (p := p) (N := N) (w := w) (x := j0) (y := s - s % w) (by rcases hw with e | e <;> subst e <;> omega) (by omega)
    omega
  · rintro ⟨b, c, d⟩
    refine ⟨?_, b, c⟩
    rcases hex with e | e
    · omega
    · rcases (show s < j0 ∨ j0 ≤ s by omega) with q | q
      · have h3 := cntU_le (now := now) (p := p) (N := N) (w := w) (x := s - s % w + w) (y := j0) (by rcases hw with e | e <;> subst e <;> omega) hjN
        omega
      · exact q
theorem cntU_0 {now : Int → Int} {p N w : Int} : cntU now p N w N = 0 := by
  unfold cntU
  rw [show (N - N).toNat = 0 by omega]
  rfl
theorem unit_of {w i s : Int} (hw : w = 1 ∨ w = 2) (hi : i % w = 0) (h1 : i ≤ s) (h2 : s < i + w) : s - s % w = i := by rcases hw with e | e <;> subst e <;> omega
theorem mw_le0 {w i : Int} (hw : w = 1 ∨ w = 2) (hi : i % w = 0) : i < 0 → i + w ≤ 0 := by rcases hw with e | e <;> subst e <;> omega
theorem wOf_N {now : Int → Int} {p w : Int} (hKK : okK now) (hp : 0 ≤ p ∧ p < 10) (hsh : isShP now p) (hw : wOf now p w) : (now (40 + p) * now (50 + p)) % w = 0 := by
  have hK := hKK p hp.1 hp.2
  rcases hw with ⟨q, e⟩ | ⟨q, e⟩
  · rw [e]; omega
  · rw [e]; exact rc_even (by omega) (by omega) (by omega)
theorem sh_rc {now : Int → Int} {p : Int} (hKK : okK now) (hp : 0 ≤ p ∧ p < 10) (hsh : isShP now p) : 1 ≤ now (40 + p) ∧ now (40 + p) ≤ 8 ∧ 1 ≤ now (50 + p) ∧ now (50 + p) ≤ 8 ∧ inR (now p) := by
  have hK := hKK p hp.1 hp.2
  have h2 := hK.2.2.2.2.2.2.2.2.2.2.2.2.2.1 hsh
  exact ⟨h2.1, hK.2.2.2.2.2.2.2.2.2.1, h2.2.1, hK.2.2.2.2.2.2.2.2.2.2.2.1, by have := hK.1; have := hK.2.1; omega⟩
theorem visJ_step {now : Int → Int} {p N w mn x y i j : Int} (hw : wBP w) (hv : valU now p N w mn x y) (hjw : j % w = 0) : (x < i ∨ (x = i ∧ y < j + w)) ↔ ((x < i ∨ (x = i ∧ y < j)) ∨ (x = i ∧ y = j)) := by
  have hb := wBP_bd hw
  constructor
  · intro h
    rcases h with h | ⟨h, h2⟩
    · exact Or.inl (Or.inl h)
    · have := mw_lt hw hv.2.2.2.2.2.1 hjw h2; omega
  · intro h; omega
theorem visJ_same {now : Int → Int} {p N w mn x y i j : Int} (hw : wBP w) (hv : valU now p N w mn x y) (hjw : j % w = 0) (hq : now (460 + 64 * p + j) = 0) : (x < i ∨ (x = i ∧ y < j + w)) ↔ (x < i ∨ (x = i ∧ y < j)) := by
  rw [visJ_step hw hv hjw]
  constructor
  · intro h
    rcases h with h | h
    · exact h
    · exact absurd (by rw [h.2]; exact hq) hv.2.2.2.2.2.2.2.1
  · intro h; exact Or.inl h
theorem visI_of {now : Int → Int} {p N w mn x y i j e : Int} (hw : wBP w) (hv : valU now p N w mn x y) (hiw : i % w = 0) (hj : ((mn = 1 ∧ i ≤ j) ∨ (mn = 2 ∧ i + w ≤ j)) ∧ j ≤ N + 2) (he : (mn = 1 ∧ e = i + 1) ∨ (mn = 2 ∧ e = N)) (hje : e ≤ j) (hwb : 1 ≤ w ∧ w ≤ 2) : x < i + w ↔ (x < i ∨ (x = i ∧ y < j)) := by
  obtain ⟨v1, v2, v3, v4, v5, v6, v7, v8, v9, v10⟩ := hv
  constructor
  · intro h
    have := mw_lt hw v3 hiw h
    by_cases q : x = i
    · right
      refine ⟨q, ?_⟩
      rcases he with he | he
      · have := v9 he.1; omega
      · omega
    · left; omega
  · intro h; omega
theorem visI_skip {now : Int → Int} {p N w mn x y i : Int} (hw : wBP w) (hv : valU now p N w mn x y) (hiw : i % w = 0) (hq : now (460 + 64 * p + i) = 0) : x < i + w ↔ x < i := by
  have hb := wBP_bd hw
  constructor
  · intro h
    have := mw_lt hw hv.2.2.1 hiw h
    by_cases q : x = i
    · exact absurd (by rw [q]; exact hq) hv.2.2.2.2.2.2.1
    · omega
  · intro h; omega
theorem vis0_of {now : Int → Int} {p N w mn x y i j : Int} (hv : valU now p N w mn x y) (hj : (mn = 1 ∧ j = i) ∨ (mn = 2 ∧ j = i + w)) : (x < i ∨ (x = i ∧ y < j)) ↔ x < i := by
  constructor
  · intro h
    rcases h with h | ⟨h, h2⟩
    · exact h
    · rcases hj with q | q
      · have := hv.2.2.2.2.2.2.2.2.1 q.1; omega
      · have := hv.2.2.2.2.2.2.2.2.2 (by omega); omega
  · intro h; exact Or.inl h
theorem valU_mk {now : Int → Int} {p N w mn i j e : Int} (hj : ((mn = 1 ∧ i ≤ j) ∨ (mn = 2 ∧ i + w ≤ j)) ∧ j ≤ N + 2) (hi : 0 ≤ i) (hiw : i % w = 0) (hw : wBP w) (hjw : j % w = 0) (hje : j < e) (he : (mn = 1 ∧ e = i + 1) ∨ (mn = 2 ∧ e = N)) (hwb : 1 ≤ w ∧ w ≤ 2) (hQi : now (460 + 64 * p + i) ≠ 0) (hQj : now (460 + 64 * p + j) ≠ 0) (hiN : i < N) : valU now p N w mn i j := by
  refine ⟨hi, hiN, hiw, ?_, ?_, hjw, hQi, hQj, ?_, ?_⟩
  · omega
  · omega
  · intro q; omega
  · intro q; omega
