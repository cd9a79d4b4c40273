/-! what is torn off: how many squares, pairs whole, and no choice left -/
section TORN
variable {now : Int → Int} {p N w mn : Int} {T T' : Int → Prop}
theorem sumI_iv {a c : Int} (ha : 0 ≤ a) (hc : 0 ≤ c) : ∀ n : Nat, sumI (fun k => if a ≤ k ∧ k < a + c then 1 else 0) n = max 0 (min (n - a) c)
  | 0 => by
    show (0 : Int) = _
    omega
  | n + 1 => by
    show sumI (fun k => if a ≤ k ∧ k < a + c then 1 else 0) n + (if a ≤ (n : Int) ∧ (n : Int) < a + c then 1 else 0) = _
    rw [sumI_iv ha hc n]
    split <;> omega
theorem unit_sum {f : Int → Int} {x : Int} (hw : w = 1 ∨ w = 2) (hf : ∀ s : Int, 0 ≤ s → s < N → f s = f (s - s % w)) (h0 : 0 ≤ x) (hx : x % w = 0) (h1 : x + w ≤ N) : sumI f (x + w).toNat = sumI f x.toNat + w * f x := by
  rcases hw with e | e
  · subst e
    rw [show x + 1 = 1 + x by omega, sumI_s f h0]
    omega
  · subst e
    rw [show x + 2 = 1 + (1 + x) by omega, sumI_s f (by omega), sumI_s f h0, hf (1 + x) (by omega) (by omega), show 1 + x - (1 + x) % 2 = x by omega]
    omega
/-- a sum over the units from x on -/
theorem unit_cnt {f u : Int → Int} (hw : w = 1 ∨ w = 2) (hN : N % w = 0) (hN0 : 0 ≤ N) (hf : ∀ s : Int, 0 ≤ s → s < N → f s = f (s - s % w)) (hu0 : u N = 0) (hu : ∀ x : Int, 0 ≤ x → x % w = 0 → x + w ≤ N → u x = f x + u (x + w)) : ∀ (m : Nat) (x : Int), 0 ≤ x → x + w * m = N → x % w = 0 → sumI f N.toNat = sumI f x.toNat + w * u x
  | 0, x, h0, h1, h2 => by
    have : x = N := by rw [← h1]; simp
    rw [this, hu0]
    omega
  | m + 1, x, h0, h1, h2 => by
    have e : w * ((m + 1 : Nat) : Int) = w * m + w := by
      rw [show ((m + 1 : Nat) : Int) = (m : Int) + 1 by omega, Int.mul_add]
      omega
    have hm : 0 ≤ w * (m : Int) := Int.mul_nonneg (by omega) (by omega)
    rw [e] at h1
    have ih := unit_cnt hw hN hN0 hf hu0 hu m (x + w) (by omega) (by omega) (mw_add h2)
    rw [ih, unit_sum hw hf h0 h2 (by omega), hu x h0 h2 (by omega), Int.mul_add]
    omega
theorem cInd_if (q : Prop) : cInd q = 0 ∨ cInd q = 1 := by
  rcases Classical.em q with h | h
  · exact Or.inr (cInd_t h)
  · exact Or.inl (cInd_f h)
theorem cInd_iff {q r : Prop} (h : q ↔ r) : cInd q = cInd r := by rw [propext h]
/-- what tornT tells of the squares -/
def tnR (now : Int → Int) (p N w n : Int) (T : Int → Prop) : Prop := (∀ s : Int, 0 ≤ s → s < 64 → T s → s < N ∧ now (460 + 64 * p + s) ≠ 0) ∧ (∀ s : Int, 0 ≤ s → s < 64 → (T s ↔ T (s - s % w))) ∧ sumI (fun k => cInd (T k)) N.toNat = n
theorem unit_two {a s : Int} (hw : w = 1 ∨ w = 2) (ha : a % w = 0) : (a ≤ s ∧ s < a + w) ↔ (a ≤ s - s % w ∧ s - s % w < a + w) := by rcases hw with e | e <;> subst e <;> omega
theorem unit_lt {s : Int} (hw : w = 1 ∨ w = 2) (hN : N % w = 0) : s < N ↔ s - s % w < N := by rcases hw with e | e <;> subst e <;> omega
theorem unit_idem {s : Int} (hw : w = 1 ∨ w = 2) : s - s % w - (s - s % w) % w = s - s % w := by rcases hw with e | e <;> subst e <;> omega
theorem tornT_R (hw : w = 1 ∨ w = 2) (hN : N = now (40 + p) * now (50 + p)) (hNw : N % w = 0) (hN0 : 0 ≤ N ∧ N ≤ 64) (hpr : pairU now p w) (hmn : 1 ≤ mn) (hle : w * mn ≤ sumI (fun k => if now (460 + 64 * p + k) = 0 then 0 else 1) N.toNat) (h : tornT now p w mn T) : tnR now p N w (w * mn) T := by
  have hw0 : 1 ≤ w ∧ w ≤ 2 := wBP_bd hw
  unfold tornT at h
  rw [← hN] at h
  rcases h with ⟨m3, few, a, b, -, -, hV, hT⟩ | ⟨m3, hT⟩
  · obtain ⟨a0, a1, a2, b0, b1, b2, ca, cb, v1, v2⟩ := hV
    have aw := mw_le hw a2 hNw a1
    have bw := mw_le hw b2 hNw b1
    refine ⟨fun s s0 s1 hs => ?_, fun s s0 s1 => ?_, ?_⟩
    · rcases (hT s s0 s1).mp hs with q | q
      · refine ⟨by omega, (hpr s s0 s1).mpr ?_⟩
        rw [unit_of hw a2 q.1 q.2]
        exact ca
      · refine ⟨by omega, (hpr s s0 s1).mpr ?_⟩
        rw [unit_of hw b2 q.1 q.2]
        exact cb
    · have hu := wBP_cases (x := s) hw
      rw [hT s s0 s1, hT (s - s % w) (hu.2.2.2 s0) (by omega), ← unit_two hw a2, ← unit_two hw b2]
    · have ha := sumI_iv (a := a) (c := w) a0 (by omega) N.toNat
      have hb := sumI_iv (a := b) (c := w) b0 (by omega) N.toNat
      rw [show max 0 (min ((N.toNat : Int) - a) w) = w by omega] at ha
      rw [show max 0 (min ((N.toNat : Int) - b) w) = w by omega] at hb
      by_cases e : mn = 1
      · have eb := v1 e
        rw [e, sumI_cong (g := fun k => if a ≤ k ∧ k < a + w then 1 else 0) (fun k k0 k1 => by
          have hk := hT k k0 (by omega)
          rw [eb] at hk
          by_cases q : a ≤ k ∧ k < a + w
          · rw [if_pos q, cInd_t (hk.mpr (Or.inl q))]
          · rw [if_neg q, cInd_f (fun z => q ((hk.mp z).elim id id))]), ha]
        omega
      · have vb := v2 e
        rw [show mn = 2 by omega, sumI_cong (g := fun k => (if a ≤ k ∧ k < a + w then 1 else 0) + (if b ≤ k ∧ k < b + w then 1 else 0)) (fun k k0 k1 => by
          have hk := hT k k0 (by omega)
          by_cases q : a ≤ k ∧ k < a + w
          · rw [if_pos q, if_neg (by omega), cInd_t (hk.mpr (Or.inl q))]
            rfl
          · by_cases q2 : b ≤ k ∧ k < b + w
            · rw [if_neg q, if_pos q2, cInd_t (hk.mpr (Or.inr q2))]
              rfl
            · rw [if_neg q, if_neg q2, cInd_f (fun z => (hk.mp z).elim q q2)]
              rfl), sumI_add, ha, hb]
        omega
  · have hTw : ∀ s : Int, 0 ≤ s → s < 64 → (T s ↔ T (s - s % w)) := fun s s0 s1 => by
      have hu := wBP_cases (x := s) hw
      rw [hT s s0 s1, hT (s - s % w) (hu.2.2.2 s0) (by omega), unit_idem hw, ← unit_lt hw hNw, hpr s s0 s1]
    have hm0 : 0 ≤ N / w := Int.ediv_nonneg hN0.1 (by omega)
    have hNm : 0 + w * ((N / w).toNat : Int) = N := by
      rw [show (((N / w).toNat : Nat) : Int) = N / w by omega]
      rcases hw with e | e <;> subst e <;> omega
    have h1 := unit_cnt (f := fun k => if now (460 + 64 * p + k) = 0 then (0 : Int) else 1) (u := cntU now p N w) hw hNw hN0.1 (fun s s0 s1 => by
      have := hpr s s0 (by omega)
      show (if now (460 + 64 * p + s) = 0 then (0 : Int) else 1) = if now (460 + 64 * p + (s - s % w)) = 0 then 0 else 1
      by_cases q : now (460 + 64 * p + s) = 0
      · rw [if_pos q, if_pos (Classical.byContradiction fun z => this.mpr z q)]
      · rw [if_neg q, if_neg (this.mp q)]) cntU_0 (fun x x0 x1 x2 => by
      rw [cntU_step hw x1 x2]
      congr 1
      by_cases q : now (460 + 64 * p + x) = 0
      · rw [if_neg (fun z => z q), if_pos q]
      · rw [if_pos q, if_neg q]) (N / w).toNat 0 (by omega) hNm (by rcases hw with e | e <;> subst e <;> rfl)
    have h2 := unit_cnt (f := fun k => cInd (T k)) (u := fun x => min mn (cntU now p N w x)) hw hNw hN0.1 (fun s s0 s1 => cInd_iff (hTw s s0 (by omega))) (by rw [cntU_0]; omega) (fun x x0 x1 x2 => by
      have hc := cntU_step (now := now) (p := p) hw x1 x2
      have hx := hT x x0 (by omega)
      rw [show x - x % w + w = x + w by omega] at hx
      show min mn (cntU now p N w x) = cInd (T x) + min mn (cntU now p N w (x + w))
      rw [hc]
      by_cases q : now (460 + 64 * p + x) ≠ 0
      · rw [if_pos q]
        by_cases q2 : cntU now p N w (x + w) < mn
        · rw [cInd_t (hx.mpr ⟨by omega, q, q2⟩)]; omega
        · rw [cInd_f (fun z => q2 (hx.mp z).2.2)]; omega
      · rw [if_neg q, cInd_f (fun z => q (hx.mp z).2.1)]; omega) (N / w).toNat 0 (by omega) hNm (by rcases hw with e | e <;> subst e <;> rfl)
    refine ⟨fun s s0 s1 hs => ?_, hTw, ?_⟩
    · have := (hT s s0 s1).mp hs
      exact ⟨this.1, this.2.1⟩
    · rw [h1] at hle
      rw [h2]
      rw [show sumI (fun k => if now (460 + 64 * p + k) = 0 then (0 : Int) else 1) (0 : Int).toNat = 0 from rfl] at hle
      rw [show sumI (fun k => cInd (T k)) (0 : Int).toNat = 0 from rfl]
      have hmc : mn ≤ cntU now p N w 0 := by rcases hw with e | e <;> subst e <;> omega
      rw [show min mn (cntU now p N w 0) = mn by omega]
      omega
theorem tornT_one (h : tornT now p w mn T) (h' : tornT now p w mn T') : ∀ s : Int, 0 ≤ s → s < 64 → (T s ↔ T' s) := by
  intro s s0 s1
  rcases h with ⟨m3, few, a, b, c1, c2, hV, hT⟩ | ⟨m3, hT⟩ <;> rcases h' with ⟨m3', few', a', b', c1', c2', hV', hT'⟩ | ⟨m3', hT'⟩
  · obtain ⟨ea, eb⟩ := bestU_one c1 c1' hV hV' c2 c2'
    rw [hT s s0 s1, hT' s s0 s1, ea, eb]
  · omega
  · omega
  · rw [hT s s0 s1, hT' s s0 s1]
theorem giveT_one {n : Int} (h : giveT now p n T) (h' : giveT now p n T') : ∀ s : Int, 0 ≤ s → s < 64 → (T s ↔ T' s) := by
  intro s s0 s1
  rcases h with ⟨a, b, c⟩ | ⟨a, b, c⟩ | ⟨a, c⟩ <;> rcases h' with ⟨a', b', c'⟩ | ⟨a', b', c'⟩ | ⟨a', c'⟩
  · exact tornT_one c c' s s0 s1
  · omega
  · exact absurd ⟨a, Or.inl b⟩ a'
  · omega
  · exact tornT_one c c' s s0 s1
  · exact absurd ⟨a, Or.inr b⟩ a'
  · exact absurd ⟨a', Or.inl b'⟩ a
  · exact absurd ⟨a', Or.inr b'⟩ a
  · exact ⟨fun z => absurd z (c s s0 s1), fun z => absurd z (c' s s0 s1)⟩
/-- of a sheet: the squares that are torn off are as many as are given -/
theorem giveT_R {n : Int} (hok : mOK now) (hp : 0 ≤ p ∧ p < 10) (hs : now p = 2 ∨ now p = 3) (hn : 0 ≤ n ∧ n ≤ now (10 + p)) (hm : mayF now p n) (h : giveT now p n T) : tnR now p (now (40 + p) * now (50 + p)) (now p - 1) n T := by
  have hC := hok.2.2.2.2.2.2.2.2.1 p hp.1 hp.2 hs
  have hrc := rc_le hok.1 hp
  rcases h with ⟨a, b, c⟩ | ⟨a, b, c⟩ | ⟨a, c⟩
  · have hw : wOf now p 1 := Or.inl ⟨b, rfl⟩
    have := tornT_R (N := now (40 + p) * now (50 + p)) (Or.inl rfl) rfl (wOf_N hok.1 hp hs hw) hrc (pairU_of hok.2.2.2.2.2.2.2.2.1 hp hw) (by omega) (by rw [← hC.1]; omega) c
    rw [show now p - 1 = 1 by omega]
    rw [show (1 : Int) * n = n by omega] at this
    exact this
  · have hw : wOf now p 2 := Or.inr ⟨b, rfl⟩
    have he := hm b
    have := tornT_R (N := now (40 + p) * now (50 + p)) (Or.inr rfl) rfl (wOf_N hok.1 hp hs hw) hrc (pairU_of hok.2.2.2.2.2.2.2.2.1 hp hw) (by omega) (by rw [← hC.1]; omega) c
    rw [show now p - 1 = 2 by omega]
    rw [show (2 : Int) * (n / 2) = n by omega] at this
    exact this
  · have hn0 : n = 0 := by
      apply Classical.byContradiction
      intro q
      exact a ⟨by omega, hs⟩
    have hu : ∀ s : Int, 0 ≤ s → 0 ≤ s - s % (now p - 1) ∧ s - s % (now p - 1) ≤ s := fun s s0 => by
      have := wBP_cases (x := s) (w := now p - 1) (by unfold wBP; omega)
      exact ⟨this.2.2.2 s0, this.2.1⟩
    refine ⟨fun s s0 s1 z => absurd z (c s s0 s1), fun s s0 s1 => ⟨fun z => absurd z (c s s0 s1), fun z => absurd z (c _ (hu s s0).1 (by have := (hu s s0).2; omega))⟩, ?_⟩
    rw [hn0, sumI_cong (g := fun _ => 0) (fun k k0 k1 => cInd_f (c k k0 (by omega))), sumI_z]
end TORN
