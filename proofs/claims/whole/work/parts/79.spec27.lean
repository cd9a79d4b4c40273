/-! the class's table of the fewest stamps -/
def waysC (now : Int → Int) (row : Int → Int → Int) (most : Int) : Prop := (∀ s : Int, 0 ≤ s → s ≤ most → row 10 s = if s = 0 then 0 else 1000000) ∧ ∀ p : Int, 0 ≤ p → p < 10 → ∀ s : Int, 0 ≤ s → s ≤ most → minUp now p (1 + now (10 + p)) (row (1 + p)) s (row p s)
theorem minUp_one {now : Int → Int} {p m s v v' : Int} {B B' : Int → Int} (h : minUp now p m B s v) (h' : minUp now p m B' s v') (hB : ∀ x : Int, 0 ≤ x → x ≤ s → B x = B' x) (hp : ∀ k : Int, 0 ≤ k → k < m → 0 ≤ paysF now p k) : v = v' := by
  obtain ⟨a, b, c⟩ := h
  obtain ⟨a', b', c'⟩ := h'
  have h1 : v ≤ v' := by
    rcases c' with e | ⟨n, n0, n1, n2, n3, n4⟩
    · omega
    · have h5 := b n n0 n1 n2 n3
      have h6 := hp n n0 n1
      have h7 := hB (s - paysF now p n) (by omega) (by omega)
      omega
  have h2 : v' ≤ v := by
    rcases c with e | ⟨n, n0, n1, n2, n3, n4⟩
    · omega
    · have h5 := b' n n0 n1 n2 n3
      have h6 := hp n n0 n1
      have h7 := hB (s - paysF now p n) (by omega) (by omega)
      omega
  omega
theorem ways_eq {now best : Int → Int} {row : Int → Int → Int} {most : Int} (hok : mOK now) (h : waysOK now best) (hc : waysC now row most) (hm : most < 3200) : ∀ (i : Nat), i ≤ 10 → ∀ s : Int, 0 ≤ s → s ≤ most → row (10 - i) s = best (3200 * (10 - i) + s)
  | 0, _, s, s0, s1 => by
    rw [show (10 : Int) - ((0 : Nat) : Int) = 10 by omega, hc.1 s s0 s1, show (3200 : Int) * 10 + s = 32000 + s by omega, h.1 s s0 (by omega)]
  | i + 1, hi, s, s0, s1 => by
    have ih := ways_eq hok h hc hm i (by omega)
    have h1 := hc.2 (10 - ((i + 1 : Nat) : Int)) (by omega) (by omega) s s0 s1
    have h2 := h.2 (10 - ((i + 1 : Nat) : Int)) (by omega) (by omega) s s0 (by omega)
    refine minUp_one h1 h2 (fun x x0 x1 => ?_) (fun k k0 k1 => (paysF_bd hok.1 hok.2.1 (by omega) (by omega) k0 (by omega)).1)
    have := ih x x0 (by omega)
    rw [show (1 : Int) + (10 - ((i + 1 : Nat) : Int)) = 10 - (i : Int) by omega, this]
    congr 1
    omega
theorem ways_eqp {now best : Int → Int} {row : Int → Int → Int} {most p s : Int} (hok : mOK now) (h : waysOK now best) (hc : waysC now row most) (hm : most < 3200) (hp : 0 ≤ p ∧ p ≤ 10) (hs : 0 ≤ s ∧ s ≤ most) : row p s = best (3200 * p + s) := by
  have := ways_eq hok h hc hm (10 - p).toNat (by omega) s hs.1 hs.2
  rw [show (10 : Int) - ((10 - p).toNat : Int) = p by omega] at this
  exact this
theorem minUp_first {now : Int → Int} {p s : Int} {B : Int → Int} (hs : 0 ≤ s) (hB : B s ≤ 1000000) : minUp now p 1 B s (B s) := by
  refine ⟨hB, fun n n0 n1 n2 n3 => ?_, Or.inr ⟨0, by omega, by omega, fun _ => by decide, by rw [paysF_0]; exact hs, by rw [paysF_0]; simp⟩⟩
  rw [show n = 0 by omega, paysF_0]
  simp
/-- what offering stamps makes of a row -/
def offR (most pays st : Int) (f b : Int → Int) : Int → Int := fun s => if pays ≤ s ∧ s ≤ most ∧ b (s - pays) + st < f s then b (s - pays) + st else f s
theorem offR_min {most pays st s : Int} {f b : Int → Int} (hs : s ≤ most) : offR most pays st f b s = if pays ≤ s then min (f s) (b (s - pays) + st) else f s := by
  unfold offR
  by_cases e : pays ≤ s
  · rw [if_pos e]
    by_cases e2 : b (s - pays) + st < f s
    · rw [if_pos ⟨e, hs, e2⟩]; omega
    · rw [if_neg (fun q => e2 q.2.2)]; omega
  · rw [if_neg e, if_neg (fun q => e q.1)]
theorem minUp_strip {now : Int → Int} {p n s most : Int} {B f : Int → Int} (h1 : now p = 1) (hn : 0 ≤ n) (hs : s ≤ most) (h : minUp now p n B s (f s)) : minUp now p (1 + n) B s (offR most (paysF now p n) n f B s) := by
  rw [offR_min hs]
  by_cases e : paysF now p n ≤ s
  · rw [if_pos e]
    exact minUp_step h hn (fun q => by omega) e (by omega) (by omega) (by omega)
  · rw [if_neg e]
    exact minUp_skip h (fun _ => by omega)
/-- a unit more of stamps that are alike -/
theorem minUp_unit {now : Int → Int} {p T st s most : Int} {B f : Int → Int} (h1 : now p ≠ 1) (hT : 0 ≤ T) (hTg : now p = 3 → T % 2 = 0) (hst : 1 ≤ st) (hsg : now p = 3 → st % 2 = 0 ∧ st ≤ T + 2) (hs1 : now p ≠ 3 → st ≤ T + 1) (hface : 1 ≤ now (20 + p)) (hs : 0 ≤ s ∧ s ≤ most) (hB : ∀ x : Int, 0 ≤ x → x ≤ most → 0 ≤ B x) (h : ∀ x : Int, 0 ≤ x → x ≤ most → minUp now p (1 + T) B x (f x)) : minUp now p (1 + (T + st)) B s (offR most (st * now (20 + p)) st f f s) := by
  have hpay : ∀ n : Int, paysF now p n = n * now (20 + p) := fun n => by unfold paysF; rw [if_neg h1]
  rw [offR_min hs.2]
  have hsf : 1 ≤ st * now (20 + p) := by
    have := Int.mul_le_mul (a := 1) (b := 1) (c := st) (d := now (20 + p)) hst hface (by decide) (by omega)
    omega
  obtain ⟨a, b, c⟩ := h s hs.1 hs.2
  have hsplit : ∀ n : Int, (n - st) * now (20 + p) = n * now (20 + p) - st * now (20 + p) := fun n => Int.sub_mul _ _ _
  by_cases e : st * now (20 + p) ≤ s
  · rw [if_pos e]
    obtain ⟨a', b', c'⟩ := h (s - st * now (20 + p)) (by omega) (by omega)
    refine ⟨by omega, fun n n0 n1 n2 n3 => ?_, ?_⟩
    · by_cases en : n ≤ T
      · have := b n n0 (by omega) n2 n3; omega
      · have hn' : 0 ≤ n - st ∧ n - st ≤ T := by
          by_cases e3 : now p = 3
          · have := n2 e3; have := hTg e3; have := hsg e3; omega
          · have := hs1 e3; omega
        have := b' (n - st) hn'.1 (by omega) (fun q => by have := n2 q; have := hsg q; omega) (by rw [hpay, hsplit]; rw [hpay] at n3; omega)
        rw [hpay, hsplit, show s - st * now (20 + p) - (n * now (20 + p) - st * now (20 + p)) = s - n * now (20 + p) by omega] at this
        rw [hpay]
        omega
    · by_cases em : f s ≤ f (s - st * now (20 + p)) + st
      · rcases c with c | ⟨n, n0, n1, n2, n3, n4⟩
        · exact Or.inl (by omega)
        · exact Or.inr ⟨n, n0, by omega, n2, n3, by omega⟩
      · rcases c' with c' | ⟨n, n0, n1, n2, n3, n4⟩
        · unfold FAR at *; omega
        · refine Or.inr ⟨n + st, by omega, by omega, fun q => by have := n2 q; have := hsg q; omega, ?_, ?_⟩
          · rw [hpay] at n3 ⊢
            rw [Int.add_mul]; omega
          · rw [hpay] at n4 ⊢
            rw [Int.add_mul, show s - (n * now (20 + p) + st * now (20 + p)) = s - st * now (20 + p) - n * now (20 + p) by omega]
            omega
  · rw [if_neg e]
    refine ⟨a, fun n n0 n1 n2 n3 => ?_, ?_⟩
    · by_cases en : n ≤ T
      · exact b n n0 (by omega) n2 n3
      · exfalso
        have hns : st ≤ n := by
          by_cases e3 : now p = 3
          · have := n2 e3; have := hTg e3; have := hsg e3; omega
          · have := hs1 e3; omega
        rw [hpay] at n3
        have := Int.mul_le_mul_of_nonneg_right hns (show 0 ≤ now (20 + p) by omega)
        omega
    · rcases c with c | ⟨n, n0, n1, n2, n3, n4⟩
      · exact Or.inl c
      · exact Or.inr ⟨n, n0, by omega, n2, n3, n4⟩
/-! reachable sums -/
def rch (now : Int → Int) : Nat → Int → Prop
  | 0, s => s = 0
  | i + 1, s => ∃ n : Int, 0 ≤ n ∧ n ≤ now (10 + (9 - (i : Int))) ∧ mayF now (9 - (i : Int)) n ∧ rch now i (s - paysF now (9 - (i : Int)) n)
theorem rch_nn {now : Int → Int} (hok : mOK now) : ∀ (i : Nat) (s : Int), i ≤ 10 → rch now i s → 0 ≤ s
  | 0, s, _, h => by have : s = 0 := h; omega
  | i + 1, s, hi, ⟨n, n0, n1, n2, n3⟩ => by
    have := rch_nn hok i _ (by omega) n3
    have := (paysF_bd hok.1 hok.2.1 (p := 9 - (i : Int)) (by omega) (by omega) n0 n1).1
    omega
theorem rch_best {now best : Int → Int} (hok : mOK now) (h : waysOK now best) : ∀ (i : Nat) (s : Int), i ≤ 10 → 0 ≤ s → s < 3200 → (best (3200 * (10 - i) + s) < 1000000 → rch now i s) ∧ (rch now i s → best (3200 * (10 - i) + s) ≤ 64 * i)
  | 0, s, _, s0, s1 => by
    have := h.1 s s0 s1
    rw [show (3200 : Int) * (10 - ((0 : Nat) : Int)) + s = 32000 + s by omega, this]
    constructor
    · intro q
      show s = 0
      apply Classical.byContradiction
      intro e
      rw [if_neg e] at q
      omega
    · intro (q : s = 0)
      rw [if_pos q]; omega
  | i + 1, s, hi, s0, s1 => by
    have hr := h.2 (10 - ((i + 1 : Nat) : Int)) (by omega) (by omega) s s0 s1
    have hpe : (10 : Int) - ((i + 1 : Nat) : Int) = 9 - (i : Int) := by omega
    rw [hpe] at hr ⊢
    have hidx : ∀ x : Int, 3200 + 3200 * (9 - (i : Int)) + x = 3200 * (10 - (i : Int)) + x := fun x => by omega
    have hcnt := hok.1 (9 - (i : Int)) (by omega) (by omega)
    constructor
    · intro q
      rcases hr.2.2 with e | ⟨n, n0, n1, n2, n3, n4⟩
      · unfold FAR at e; omega
      · have hb := (paysF_bd hok.1 hok.2.1 (p := 9 - (i : Int)) (n := n) (by omega) (by omega) n0 (by omega)).1
        have := rch_best hok h i (s - paysF now (9 - (i : Int)) n) (by omega) (by omega) (by omega)
        simp only at n4
        rw [hidx] at n4
        exact ⟨n, n0, by omega, n2, this.1 (by omega)⟩
    · rintro ⟨n, n0, n1, n2, n3⟩
      have hb := (paysF_bd hok.1 hok.2.1 (p := 9 - (i : Int)) (n := n) (by omega) (by omega) n0 n1).1
      have hnn := rch_nn hok i _ (by omega) n3
      have := (rch_best hok h i (s - paysF now (9 - (i : Int)) n) (by omega) hnn (by omega)).2 n3
      have h5 := hr.2.1 n n0 (by omega) n2 (by omega)
      simp only at h5
      rw [hidx] at h5
      omega
theorem rch_less {now : Int → Int} (hok : mOK now) : ∀ (i : Nat) (s : Int), i ≤ 10 → rch now i s → 0 < s → ∃ d : Int, 1 ≤ d ∧ d ≤ 1000 ∧ rch now i (s - d)
  | 0, s, _, h, h0 => by have : s = 0 := h; omega
  | i + 1, s, hi, ⟨n, n0, n1, n2, n3⟩, hs => by
    have hk := hok.1 (9 - (i : Int)) (by omega) (by omega)
    obtain ⟨k1, k2, k3, k4, k5, k6, k7, k8, k9, k10, k11, k12, k13, k14, k15, k16, k17⟩ := hk
    by_cases e : n = 0
    · subst e
      rw [paysF_0] at n3
      obtain ⟨d, d0, d1, d2⟩ := rch_less hok i (s - 0) (by omega) n3 (by omega)
      exact ⟨d, d0, d1, 0, by omega, n1, n2, by rw [paysF_0, show s - d - 0 = s - 0 - d by omega]; exact d2⟩
    · have key : ∃ m : Int, 0 ≤ m ∧ m < n ∧ mayF now (9 - (i : Int)) m ∧ 1 ≤ paysF now (9 - (i : Int)) n - paysF now (9 - (i : Int)) m ∧ paysF now (9 - (i : Int)) n - paysF now (9 - (i : Int)) m ≤ 1000 := by
        by_cases e1 : now (9 - (i : Int)) = 1
        · have h40 := k13 e1
          have hst := hok.2.1 (9 - (i : Int)) (now (10 + (9 - (i : Int))) - n) (by omega) (by omega) (by omega) (by omega)
          have hps := paysF_s e1 (m := n - 1) (by omega)
          rw [show 1 + (n - 1) = n by omega] at hps
          have := hst.2.2 e1 (by omega)
          exact ⟨n - 1, by omega, by omega, fun q => by omega, by omega, by omega⟩
        · have hpay : ∀ n : Int, paysF now (9 - (i : Int)) n = n * now (20 + (9 - (i : Int))) := fun n => by unfold paysF; rw [if_neg e1]
          have hface : 1 ≤ now (20 + (9 - (i : Int))) := by
            by_cases e0 : now (9 - (i : Int)) = -1
            · have := k16 e0; omega
            · by_cases e2 : now (9 - (i : Int)) = 2 ∨ now (9 - (i : Int)) = 3
              · exact (k14 e2).2.2
              · exact k17 (by omega)
          by_cases e3 : now (9 - (i : Int)) = 3
          · have := n2 e3
            refine ⟨n - 2, by omega, by omega, fun _ => by omega, ?_, ?_⟩ <;> rw [hpay, hpay, Int.sub_mul] <;> omega
          · refine ⟨n - 1, by omega, by omega, fun q => absurd q e3, ?_, ?_⟩ <;> rw [hpay, hpay, Int.sub_mul] <;> omega
      obtain ⟨m, m0, m1, m2, m3, m4⟩ := key
      exact ⟨_, m3, m4, m, m0, by omega, m2, by rw [show s - (paysF now (9 - (i : Int)) n - paysF now (9 - (i : Int)) m) - paysF now (9 - (i : Int)) m = s - paysF now (9 - (i : Int)) n by omega]; exact n3⟩
/-- all that is in the drawer -/
theorem cnt_even {now : Int → Int} (hok : mOK now) {p : Int} (hp : 0 ≤ p ∧ p < 10) (h3 : now p = 3) : now (10 + p) % 2 = 0 := by
  have hC := hok.2.2.2.2.2.2.2.2.1 p hp.1 hp.2 (Or.inr h3)
  have hw : wOf now p 2 := Or.inr ⟨h3, rfl⟩
  have hN := wOf_N hok.1 hp (Or.inr h3) hw
  have hrc := rc_le hok.1 hp
  have hpair := hC.2.2.1 h3
  have : ∀ m : Nat, 2 * m ≤ 64 → sumI (fun k => if now (460 + 64 * p + k) = 0 then (0 : Int) else 1) (2 * m) % 2 = 0 := by
    intro m
    induction m with
    | zero => intro _; rfl
    | succ m ih =>
      intro hm
      have h1 := ih (by omega)
      have h2 := hpair (m : Int) (by omega) (by omega)
      show (sumI (fun k => if now (460 + 64 * p + k) = 0 then (0 : Int) else 1) (2 * m) + (if now (460 + 64 * p + ((2 * m : Nat) : Int)) = 0 then 0 else 1) + (if now (460 + 64 * p + ((2 * m + 1 : Nat) : Int)) = 0 then 0 else 1)) % 2 = 0
      rw [show ((2 * m : Nat) : Int) = 2 * (m : Int) by omega, show ((2 * m + 1 : Nat) : Int) = 2 * (m : Int) + 1 by omega, ← h2]
      split <;> omega
  have h := this ((now (40 + p) * now (50 + p)) / 2).toNat (by omega)
  rw [hC.1]
  rw [show 2 * ((now (40 + p) * now (50 + p)) / 2).toNat = (now (40 + p) * now (50 + p)).toNat by omega] at h
  exact h
def allU (now : Int → Int) : Nat → Int
  | 0 => 0
  | i + 1 => allU now i + paysF now (9 - (i : Int)) (now (10 + (9 - (i : Int))))
theorem rch_all {now : Int → Int} (hok : mOK now) : ∀ i : Nat, i ≤ 10 → rch now i (allU now i)
  | 0, _ => rfl
  | i + 1, hi => by
    have hk := hok.1 (9 - (i : Int)) (by omega) (by omega)
    refine ⟨now (10 + (9 - (i : Int))), by omega, Int.le_refl _, fun q => cnt_even hok ⟨by omega, by omega⟩ q, ?_⟩
    show rch now i (allU now i + paysF now (9 - (i : Int)) (now (10 + (9 - (i : Int)))) - paysF now (9 - (i : Int)) (now (10 + (9 - (i : Int)))))
    rw [Int.add_sub_cancel]
    exact rch_all hok i (by omega)
theorem pays_le {now : Int → Int} (hok : mOK now) {p n : Int} (hp : 0 ≤ p ∧ p < 10) (hn : 0 ≤ n ∧ n ≤ now (10 + p)) : paysF now p n ≤ paysF now p (now (10 + p)) := by
  have hk := hok.1 p hp.1 hp.2
  by_cases e1 : now p = 1
  · have h40 := hk.2.2.2.2.2.2.2.2.2.2.2.2.1 e1
    unfold paysF
    rw [if_pos e1, if_pos e1]
    have : ∀ m : Nat, n.toNat + m ≤ 40 → (n.toNat + m : Int) ≤ now (10 + p) → sumI (fun k => now (60 + 40 * p + (now (10 + p) - (1 + k)))) n.toNat ≤ sumI (fun k => now (60 + 40 * p + (now (10 + p) - (1 + k)))) (n.toNat + m) := by
      intro m
      induction m with
      | zero => intro _ _; exact Int.le_refl _
      | succ m ih =>
        intro h1 h2
        have h3 := ih (by omega) (by omega)
        have h4 := hok.2.1 p (now (10 + p) - (1 + ((n.toNat + m : Nat) : Int))) hp.1 hp.2 (by omega) (by omega)
        show _ ≤ sumI _ (n.toNat + m) + now (60 + 40 * p + (now (10 + p) - (1 + ((n.toNat + m : Nat) : Int))))
        omega
    have := this ((now (10 + p)).toNat - n.toNat) (by omega) (by omega)
    rw [show n.toNat + ((now (10 + p)).toNat - n.toNat) = (now (10 + p)).toNat by omega] at this
    exact this
  · unfold paysF
    rw [if_neg e1, if_neg e1]
    exact Int.mul_le_mul_of_nonneg_right hn.2 (by omega)
theorem rch_le {now : Int → Int} (hok : mOK now) : ∀ (i : Nat) (s : Int), i ≤ 10 → rch now i s → s ≤ allU now i
  | 0, s, _, h => by have : s = 0 := h; show s ≤ 0; omega
  | i + 1, s, hi, ⟨n, n0, n1, n2, n3⟩ => by
    have h1 := rch_le hok i _ (by omega) n3
    have h2 := pays_le hok (p := 9 - (i : Int)) ⟨by omega, by omega⟩ ⟨n0, n1⟩
    show s ≤ allU now i + _
    omega
theorem allU_eq {now : Int → Int} (hok : mOK now) : allU now 10 = allF now := by
  have hf : ∀ p : Int, 0 ≤ p → p < 10 → (if now p = -1 then 0 else facesF now p) = paysF now p (now (10 + p)) := by
    intro p p0 p1
    have hk := hok.1 p p0 p1
    by_cases e : now p = -1
    · rw [if_pos e, hk.2.2.2.2.2.2.2.2.2.2.2.2.2.2.2.1 e, paysF_0]
    · rw [if_neg e, facesF_pays hk.2.2.1]
  unfold allF
  rw [sumI_cong (g := fun p => paysF now p (now (10 + p))) (fun k k0 k1 => hf k k0 (by omega))]
  simp only [allU, sumI]
  simp
  omega
