/-! counting pieces -/
noncomputable def szC (c N : Int) (P : Int → Prop) (k : Int) : Int := sumI (fun j => cInd (conn c N P k j)) 64
/-- how many pieces whose size is as Q says -/
noncomputable def pcw (c N : Int) (P : Int → Prop) (Q : Int → Prop) : Int := sumI (fun k => cInd (lft c N P k k ∧ Q (szC c N P k))) N.toNat
theorem cInd_01 (p : Prop) : 0 ≤ cInd p ∧ cInd p ≤ 1 := by
  rcases Classical.em p with h | h
  · rw [cInd_t h]; omega
  · rw [cInd_f h]; omega
theorem cInd_congr {p q : Prop} (h : p ↔ q) : cInd p = cInd q := by rw [propext h]
theorem pcw_T (c N : Int) (P : Int → Prop) : pcw c N P (fun _ => True) = npc c N P := by
  unfold pcw npc
  exact sumI_cong (fun k _ _ => cInd_congr ⟨fun h => h.1, fun h => ⟨h, trivial⟩⟩)
theorem pcw_nn (c N : Int) (P Q : Int → Prop) : 0 ≤ pcw c N P Q := by
  unfold pcw
  have := sumI_le (f := fun _ => 0) (g := fun k => cInd (lft c N P k k ∧ Q (szC c N P k))) (n := N.toNat) (fun k _ _ => (cInd_01 _).1)
  rw [sumI_z] at this
  exact this
theorem pcw_le (c N : Int) (P Q : Int → Prop) : pcw c N P Q ≤ npc c N P := by
  unfold pcw npc
  refine sumI_le (fun k _ _ => ?_)
  by_cases h : lft c N P k k
  · rw [cInd_t h]; exact (cInd_01 _).2
  · rw [cInd_f h, cInd_f (fun q => h q.1)]; exact Int.le_refl _
/-- what doesn't hang together with k0 hangs together as before when that is gone -/
theorem conn_off {c r : Int} {P P' : Int → Prop} {k0 k j : Int} (h1 : 1 ≤ c) (h2 : c ≤ 8) (hP : ∀ x : Int, 0 ≤ x → x < r * c → (P' x ↔ P x ∧ ¬ conn c (r * c) P k0 x)) (h0 : 0 ≤ k) (hk1 : k < r * c) (hk : P k) (hn : ¬ conn c (r * c) P k0 k) : conn c (r * c) P k j ↔ conn c (r * c) P' k j := by
  refine ⟨fun h => ?_, fun h => conn_mono (fun x x0 x1 hx => ((hP x x0 x1).mp hx).1) h⟩
  have := h (fun x => (0 ≤ x ∧ x < r * c ∧ P x) ∧ conn c (r * c) P' k x ∧ ¬ conn c (r * c) P k0 x) ⟨⟨h0, hk1, hk⟩, conn_rf, hn⟩ (fun x y hx hy hnb => by
    have hs := nbr_sym h1 h2 hx.1.1 hx.1.2.1 hnb
    have hny : ¬ conn c (r * c) P k0 y := fun q => hx.2.2 (conn_step q hx.1.1 hx.1.2.1 hx.1.2.2 hs.1)
    exact ⟨hy, conn_step hx.2.1 hy.1 hy.2.1 ((hP y hy.1 hy.2.1).mpr ⟨hy.2.2, hny⟩) hnb, hny⟩)
  exact this.2.1
theorem pcw_rm {c r : Int} {P P' Q : Int → Prop} {k0 : Int} (h1 : 1 ≤ c) (h2 : c ≤ 8) (h0 : 0 ≤ k0) (hk1 : k0 < r * c) (hk : P k0) (hmin : ∀ j : Int, 0 ≤ j → j < k0 → ¬ P j) (hP : ∀ x : Int, 0 ≤ x → x < r * c → (P' x ↔ P x ∧ ¬ conn c (r * c) P k0 x)) : pcw c (r * c) P Q = cInd (Q (szC c (r * c) P k0)) + pcw c (r * c) P' Q := by
  have hterm : ∀ k : Int, 0 ≤ k → k < (r * c).toNat → cInd (lft c (r * c) P k k ∧ Q (szC c (r * c) P k)) = (if k = k0 then cInd (Q (szC c (r * c) P k0)) else 0) + cInd (lft c (r * c) P' k k ∧ Q (szC c (r * c) P' k)) := by
    intro k a b
    have b' : k < r * c := by omega
    by_cases e : k = k0
    · subst e
      rw [if_pos rfl, cInd_f (p := lft c (r * c) P' k k ∧ _) (fun q => ((hP k a b').mp q.1.1).2 conn_rf), cInd_congr (p := lft c (r * c) P k k ∧ Q (szC c (r * c) P k)) (q := Q (szC c (r * c) P k)) ⟨fun q => q.2, fun q => ⟨⟨hk, fun i i0 i1 hi => absurd hi (hmin i i0 i1)⟩, q⟩⟩]
      omega
    · rw [if_neg e]
      have hl : lft c (r * c) P k k ↔ lft c (r * c) P' k k := by
        constructor
        · rintro ⟨p1, p2⟩
          have hlt : k0 < k := by
            rcases Int.lt_trichotomy k k0 with z | z | z
            · exact absurd p1 (hmin k a z)
            · exact absurd z e
            · exact z
          have hnc := p2 k0 h0 hlt hk
          refine ⟨(hP k a b').mpr ⟨p1, hnc⟩, fun i i0 i1 hi hc => ?_⟩
          have hi' := (hP i i0 (by omega)).mp hi
          exact p2 i i0 i1 hi'.1 (conn_mono (fun x x0 x1 hx => ((hP x x0 x1).mp hx).1) hc)
        · rintro ⟨p1, p2⟩
          have hp := (hP k a b').mp p1
          refine ⟨hp.1, fun i i0 i1 hi hc => ?_⟩
          have hni : ¬ conn c (r * c) P k0 i := fun q => hp.2 (conn_tr q hc)
          exact p2 i i0 i1 ((hP i i0 (by omega)).mpr ⟨hi, hni⟩) ((conn_off h1 h2 hP i0 (by omega) hi hni).mp hc)
      by_cases hlk : lft c (r * c) P k k
      · have hlk' := hl.mp hlk
        have hp := (hP k a b').mp hlk'.1
        have hz : szC c (r * c) P k = szC c (r * c) P' k := sumI_cong (fun j _ _ => cInd_congr (conn_off h1 h2 hP a b' hp.1 hp.2))
        rw [hz, cInd_congr (p := lft c (r * c) P k k ∧ _) (q := lft c (r * c) P' k k ∧ Q (szC c (r * c) P' k)) ⟨fun q => ⟨hlk', q.2⟩, fun q => ⟨hlk, q.2⟩⟩]
        omega
      · rw [cInd_f (fun q => hlk q.1), cInd_f (fun q => hlk (hl.mpr q.1))]
        omega
  unfold pcw
  rw [sumI_cong hterm, sumI_add, sumI_one h0 (by omega)]
theorem sz_eq {c N k0 : Int} {sm y : BitVec 64} (hy : ∀ k : Int, 0 ≤ k → k < 64 → (bI y k = true ↔ conn c N (PB sm) k0 k)) : szC c N (PB sm) k0 = cB y := by
  unfold szC
  rw [cB_eq]
  refine sumI_cong (fun k k0 k1 => ?_)
  unfold fB
  by_cases e : bI y k = true
  · rw [if_pos e, cInd_t ((hy k k0 (by omega)).mp e)]
  · rw [if_neg e, cInd_f (fun q => e ((hy k k0 (by omega)).mpr q))]
theorem pcw_fp {c r : Int} {sm y : BitVec 64} {Q : Int → Prop} (hs : shP r c) (h : fpOK c (r * c) sm y) : pcw c (r * c) (PB sm) Q = cInd (Q (cB y)) + pcw c (r * c) (PB (sm &&& (y ^^^ BitVec.ofInt 64 (-1)))) Q := by
  obtain ⟨k0, a, b, hk, hm, hy⟩ := h
  have hrc := rc_bd hs.1.1 hs.1.2 hs.2.1 hs.2.2
  rw [← sz_eq hy]
  refine pcw_rm hs.2.1 hs.2.2 a b hk hm (fun x x0 x1 => ?_)
  show bI _ x = true ↔ _
  rw [bB_and, bB_not x0 (by omega), hy x x0 (by omega)]
  exact Iff.rfl
theorem pcw_0 (c N : Int) (Q : Int → Prop) : pcw c N (PB 0#64) Q = 0 := by
  unfold pcw
  rw [sumI_cong (g := fun _ => 0) (fun k _ _ => cInd_f (fun q => bB_0 q.1.1)), sumI_z]
/-- cells of one kind are matched with cells of another, each with one of its own -/
noncomputable def cntC (A : Int → Prop) (n : Nat) : Int := sumI (fun k => cInd (A k)) n
theorem cnt_rm {B : Int → Prop} {j : Int} {m : Nat} (h0 : 0 ≤ j) (h1 : j < m) (hB : B j) : cntC B m = 1 + cntC (fun x => B x ∧ x ≠ j) m := by
  unfold cntC
  rw [sumI_cong (g := fun x => (if x = j then 1 else 0) + cInd (B x ∧ x ≠ j)) (fun k _ _ => by
    by_cases e : k = j
    · subst e; rw [if_pos rfl, cInd_t hB, cInd_f (fun q => q.2 rfl)]; omega
    · rw [if_neg e, cInd_congr (p := B k) (q := B k ∧ k ≠ j) ⟨fun q => ⟨q, e⟩, fun q => q.1⟩]; omega), sumI_add, sumI_one h0 h1]
theorem cnt_inj {rl : Int → Int → Prop} : ∀ (n : Nat) {A B : Int → Prop} {m : Nat}, (∀ k : Int, 0 ≤ k → k < n → A k → ∃ j : Int, 0 ≤ j ∧ j < m ∧ B j ∧ rl k j) → (∀ k k' j : Int, 0 ≤ k → k < n → 0 ≤ k' → k' < n → A k → A k' → rl k j → rl k' j → k = k') → cntC A n ≤ cntC B m
  | 0, A, B, m, _, _ => by
    have := sumI_le (f := fun _ => 0) (g := fun k => cInd (B k)) (n := m) (fun k _ _ => (cInd_01 _).1)
    rw [sumI_z] at this
    exact this
  | n + 1, A, B, m, h, hi => by
    by_cases hA : A (n : Int)
    · obtain ⟨j, j0, j1, hB, hr⟩ := h n (by omega) (by omega) hA
      have ih := cnt_inj n (A := A) (B := fun x => B x ∧ x ≠ j) (m := m) (fun k k0 k1 hk => by
        obtain ⟨j', a, b, c, d⟩ := h k k0 (by omega) hk
        refine ⟨j', a, b, ⟨c, fun e => ?_⟩, d⟩
        subst e
        have := hi k n j' k0 (by omega) (by omega) (by omega) hk hA d hr
        omega) (fun k k' j a b a' b' => hi k k' j a (by omega) a' (by omega))
      rw [cnt_rm j0 j1 hB]
      show cntC A n + cInd (A n) ≤ _
      rw [cInd_t hA]
      omega
    · have ih := cnt_inj n (A := A) (B := B) (m := m) (fun k k0 k1 hk => h k k0 (by omega) hk) (fun k k' j a b a' b' => hi k k' j a (by omega) a' (by omega))
      show cntC A n + cInd (A n) ≤ _
      rw [cInd_f hA]
      omega
theorem cnt_split (A B : Int → Prop) (n : Nat) : cntC A n = cntC (fun k => A k ∧ B k) n + cntC (fun k => A k ∧ ¬ B k) n := by
  unfold cntC
  rw [← sumI_add]
  refine sumI_cong (fun k _ _ => ?_)
  by_cases hA : A k
  · by_cases hB : B k
    · rw [cInd_t hA, cInd_t (⟨hA, hB⟩ : A k ∧ B k), cInd_f (fun q => q.2 hB)]; omega
    · rw [cInd_t hA, cInd_f (fun q => hB q.2), cInd_t (⟨hA, hB⟩ : A k ∧ ¬ B k)]; omega
  · rw [cInd_f hA, cInd_f (fun q => hA q.1), cInd_f (fun q => hA q.1)]; omega
/-- the least square of what hangs together with j -/
theorem lft_ex {c r : Int} {P : Int → Prop} (h1 : 1 ≤ c) (h2 : c ≤ 8) {j : Int} (h0 : 0 ≤ j) (hj : j < r * c) (hP : P j) : ∃ i : Int, 0 ≤ i ∧ i ≤ j ∧ lft c (r * c) P i i ∧ conn c (r * c) P i j := by
  have : ∀ n : Nat, ∀ i : Int, 0 ≤ i → i < n → i ≤ j → P i → conn c (r * c) P i j → ∃ i : Int, 0 ≤ i ∧ i ≤ j ∧ lft c (r * c) P i i ∧ conn c (r * c) P i j := by
    intro n
    induction n with
    | zero => intro i a b; omega
    | succ n ih =>
      intro i a b hle hi hc
      by_cases e : ∃ i' : Int, 0 ≤ i' ∧ i' < i ∧ P i' ∧ conn c (r * c) P i' i
      · obtain ⟨i', b0, b1, b2, b3⟩ := e
        exact ih i' b0 (by omega) (by omega) b2 (conn_tr b3 hc)
      · exact ⟨i, a, hle, ⟨hi, fun i' b0 b1 b2 b3 => e ⟨i', b0, b1, b2, b3⟩⟩, hc⟩
  exact this (j + 1).toNat j h0 (by omega) (Int.le_refl _) hP conn_rf
/-- pieces of what is left when R is gone: at least those that aren't gone whole -/
theorem npc_without {c r : Int} {P R : Int → Prop} (h1 : 1 ≤ c) (h2 : c ≤ 8) : npc c (r * c) P ≤ npc c (r * c) (fun k => P k ∧ ¬ R k) + cntC (fun k => lft c (r * c) P k k ∧ ∀ j : Int, 0 ≤ j → j < r * c → conn c (r * c) P k j → R j) (r * c).toNat := by
  have e : npc c (r * c) P = cntC (fun k => lft c (r * c) P k k) (r * c).toNat := rfl
  rw [e, cnt_split _ (fun k => ∀ j : Int, 0 ≤ j → j < r * c → conn c (r * c) P k j → R j)]
  have hi := cnt_inj (rl := fun k j => conn c (r * c) P k j) (r * c).toNat (A := fun k => lft c (r * c) P k k ∧ ¬ ∀ j : Int, 0 ≤ j → j < r * c → conn c (r * c) P k j → R j) (B := fun k => lft c (r * c) (fun k => P k ∧ ¬ R k) k k) (m := (r * c).toNat) (fun k k0 k1 hk => by
    have hex : ∃ j : Int, 0 ≤ j ∧ j < r * c ∧ conn c (r * c) P k j ∧ ¬ R j := by
      apply Classical.byContradiction
      intro q
      refine hk.2 (fun j j0 j1 hc => ?_)
      apply Classical.byContradiction
      exact fun z => q ⟨j, j0, j1, hc, z⟩
    obtain ⟨j, j0, j1, hc, hR⟩ := hex
    have hPj := (conn_in hc k0 (by omega) hk.1.1).2.2
    obtain ⟨i, i0, i1, il, ic⟩ := lft_ex (c := c) (r := r) (P := fun k => P k ∧ ¬ R k) h1 h2 j0 j1 ⟨hPj, hR⟩
    have ic' := conn_mono (Q := P) (fun x _ _ hx => hx.1) ic
    exact ⟨i, i0, by omega, il, conn_tr hc (conn_sym h1 h2 ic' i0 (by omega) il.1.1)⟩) (fun k k' j a0 a1 b0 b1 hk hk' hr hr' => by
    have c1 := conn_tr hr (conn_sym h1 h2 hr' b0 (by omega) hk'.1.1)
    have c2 := conn_tr hr' (conn_sym h1 h2 hr a0 (by omega) hk.1.1)
    rcases Int.lt_trichotomy k k' with q | q | q
    · exact absurd c1 (hk'.1.2 k a0 q hk.1.1)
    · exact q
    · exact absurd c2 (hk.1.2 k' b0 q hk'.1.1))
  have e2 : npc c (r * c) (fun k => P k ∧ ¬ R k) = cntC (fun k => lft c (r * c) (fun k => P k ∧ ¬ R k) k k) (r * c).toNat := rfl
  rw [e2]
  omega
