/-! the acts on rates, extras, letters keep the ranges -/
section EQ
variable {now nw : Int → Int}
theorem okW_eq (h : ∀ j : Int, 1180 ≤ j → j < 1282 → nw j = now j) (k : okW now) : okW nw := by
  intro w w0 w1
  rw [h _ (by omega) (by omega)]
  have k1 := k w w0 w1
  refine ⟨k1.1, k1.2.1, fun x x0 x1 => ?_⟩
  rw [h _ (by omega) (by omega), h _ (by omega) (by omega)]
  exact k1.2.2 x x0 x1
theorem okE_eq (h : ∀ j : Int, 1282 ≤ j → j < 1286 → nw j = now j) (k : okE now) : okE nw := by
  intro x x0 x1
  rw [h _ (by omega) (by omega)]
  exact k x x0 x1
theorem okN_eq (h : ∀ j : Int, 1286 ≤ j → j < 2127 → nw j = now j) (k : okN now) : okN nw := by
  unfold okN
  have k2 := k.2.1
  rw [h _ (by omega) (by omega)]
  refine ⟨k.1, k.2.1, fun n n0 n1 => ?_⟩
  rw [h _ (by omega) (by omega), h _ (by omega) (by omega), h _ (by omega) (by omega), h _ (by omega) (by omega)]
  obtain ⟨a, b, c, d, e, f, g, i, j, l⟩ := k.2.2 n n0 n1
  refine ⟨a, b, c, d, e, f, g, i, j, fun p p0 p1 => ?_⟩
  rw [h _ (by omega) (by omega)]
  exact l p p0 p1
theorem okG_eq (h : ∀ j : Int, 3327 ≤ j → j < 3828 → nw j = now j) (k : okG now) : okG nw := by
  intro x x0 x1
  rw [h _ (by omega) (by omega)]
  exact k x x0 x1
theorem okT_eq (h : ∀ j : Int, 1286 ≤ j → j < 3327 → nw j = now j) (hN : now 1286 ≤ 60) (k : okT now) : okT nw := by
  intro l p l0 l1 p0 p1 e
  rw [h _ (by omega) (by omega)] at l1
  rw [h _ (by omega) (by omega)] at e
  rw [h _ (by omega) (by omega), h _ (by omega) (by omega), h _ (by omega) (by omega)]
  exact k l p l0 l1 p0 p1 e
theorem okZ_eq (h : ∀ j : Int, j < 0 ∨ 3828 ≤ j → nw j = now j) (k : okZ now) : okZ nw := by
  intro j hj
  rw [h _ hj]
  exact k j hj
theorem lA_lo (h : ∀ j : Int, j < 1180 → nw j = now j) (hok : mOK now) : ∀ p : Int, 0 ≤ p → p < 10 → lA nw p := fun p p0 p1 => lA_ag (agP_of ⟨p0, p1⟩ h) (hok.lA p0 p1)
/-! rate -/
theorem rate_n {w g pr j : Int} (h1 : j ≠ 1186 + 8 * w + now (1180 + w)) (h2 : j ≠ 1234 + 8 * w + now (1180 + w)) (h3 : j ≠ 1180 + w) : rateF now w g pr j = now j := by unfold rateF; rw [if_neg h1, if_neg h2, if_neg h3]
theorem rate_g {w g pr : Int} : rateF now w g pr (1186 + 8 * w + now (1180 + w)) = g := by unfold rateF; rw [if_pos rfl]
theorem rate_p {w g pr : Int} : rateF now w g pr (1234 + 8 * w + now (1180 + w)) = pr := by unfold rateF; rw [if_neg (by omega), if_pos rfl]
theorem rate_w {w g pr : Int} (hw : 0 ≤ w ∧ w < 6) (hn : 0 ≤ now (1180 + w)) : rateF now w g pr (1180 + w) = 1 + now (1180 + w) := by unfold rateF; rw [if_neg (by omega), if_neg (by omega), if_pos rfl]
theorem rate_out {w g pr : Int} (hw : 0 ≤ w ∧ w < 6) (hn : 0 ≤ now (1180 + w) ∧ now (1180 + w) < 8) : ∀ j : Int, (j < 1180 ∨ 1282 ≤ j) → rateF now w g pr j = now j := fun j hj => rate_n (by omega) (by omega) (by omega)
theorem rate_oth {w g pr : Int} (hok : mOK now) (hw : 0 ≤ w ∧ w < 6) (hn : 0 ≤ now (1180 + w) ∧ now (1180 + w) < 8) : ∀ j : Int, 0 ≤ j → j < 6 → j ≠ w → rateF now w g pr (1180 + j) = now (1180 + j) ∧ ∀ k : Int, 0 ≤ k → k < now (1180 + j) → rateF now w g pr (1186 + 8 * j + k) = now (1186 + 8 * j + k) ∧ rateF now w g pr (1234 + 8 * j + k) = now (1234 + 8 * j + k) := fun j j0 j1 jw => by
  have hj := (hok.2.2.2.2.1 j j0 j1).2.1
  exact ⟨rate_n (by omega) (by omega) (by omega), fun k k0 k1 => ⟨rate_n (by omega) (by omega) (by omega), rate_n (by omega) (by omega) (by omega)⟩⟩
theorem rate_own {w g pr : Int} (hw : 0 ≤ w ∧ w < 6) (hn : 0 ≤ now (1180 + w) ∧ now (1180 + w) < 8) : ∀ k : Int, 0 ≤ k → k < now (1180 + w) → rateF now w g pr (1186 + 8 * w + k) = now (1186 + 8 * w + k) ∧ rateF now w g pr (1234 + 8 * w + k) = now (1234 + 8 * w + k) := fun k k0 k1 => ⟨rate_n (by omega) (by omega) (by omega), rate_n (by omega) (by omega) (by omega)⟩
theorem mOK_rate {w g pr : Int} (hok : mOK now) (hw : 0 ≤ w ∧ w < 6) (hn : now (1180 + w) < 8) (hg : 1 ≤ g ∧ g ≤ 5000) (hp : 1 ≤ pr ∧ pr ≤ 1200) : mOK (rateF now w g pr) := by
  have hW := hok.2.2.2.2.1
  have hn0 : 0 ≤ now (1180 + w) ∧ now (1180 + w) < 8 := ⟨(hW w hw.1 hw.2).1, hn⟩
  have ho := rate_out (g := g) (pr := pr) hw hn0
  refine mOK_of (lA_lo (fun j hj => ho j (Or.inl hj)) hok) (fun v v0 v1 => ?_) (okE_eq (fun j h0 h1 => ho j (by omega)) hok.2.2.2.2.2.1) (okN_eq (fun j h0 h1 => ho j (by omega)) hok.2.2.2.2.2.2.1) (okG_eq (fun j h0 h1 => ho j (by omega)) hok.2.2.2.2.2.2.2.1) (okT_eq (fun j h0 h1 => ho j (by omega)) hok.2.2.2.2.2.2.1.2.1 hok.2.2.2.2.2.2.2.2.2.1) (okZ_eq (fun j hj => ho j (by omega)) hok.2.2.2.2.2.2.2.2.2.2)
  have hv := hW v v0 v1
  by_cases e : v = w
  · subst e
    rw [rate_w hw hn0.1]
    refine ⟨by omega, by omega, fun k k0 k1 => ?_⟩
    by_cases q : k = now (1180 + v)
    · rw [q, rate_g, rate_p]
      omega
    · have := rate_own (g := g) (pr := pr) hw hn0 k k0 (by omega)
      rw [this.1, this.2]
      exact hv.2.2 k k0 (by omega)
  · have := rate_oth (g := g) (pr := pr) hok hw hn0 v v0 v1 e
    rw [this.1]
    refine ⟨hv.1, hv.2.1, fun k k0 k1 => ?_⟩
    rw [(this.2 k k0 k1).1, (this.2 k k0 k1).2]
    exact hv.2.2 k k0 k1
theorem sRate_no {w g pr g0 p0 : Int} (h1 : g0 = if now (1180 + w) = 0 then 0 else now (1186 + 8 * w + (now (1180 + w) - 1))) (h2 : p0 = if now (1180 + w) = 0 then 0 else now (1234 + 8 * w + (now (1180 + w) - 1))) (hn : 0 ≤ now (1180 + w)) (h : ¬ ((1 + g0 ≤ g ∧ g ≤ 5000) ∧ (1 + p0 ≤ pr ∧ pr ≤ 1200))) : sRate now w g pr = (-3, none) := by
  unfold sRate
  by_cases e : ¬ (0 ≤ w ∧ w ≤ 5 ∧ 1 ≤ g ∧ g ≤ 5000 ∧ 1 ≤ pr ∧ pr ≤ 1200)
  · rw [if_pos e]
  · rw [if_neg e]
    by_cases q : now (1180 + w) = 0
    · rw [if_pos q] at h1 h2
      omega
    · rw [if_neg q] at h1 h2
      rw [show 1186 + 8 * w + (now (1180 + w) - 1) = 1185 + 8 * w + now (1180 + w) by omega] at h1
      rw [show 1234 + 8 * w + (now (1180 + w) - 1) = 1233 + 8 * w + now (1180 + w) by omega] at h2
      rw [if_pos (by omega)]
theorem sRate_ok {w g pr g0 p0 : Int} (h1 : g0 = if now (1180 + w) = 0 then 0 else now (1186 + 8 * w + (now (1180 + w) - 1))) (h2 : p0 = if now (1180 + w) = 0 then 0 else now (1234 + 8 * w + (now (1180 + w) - 1))) (hn : 0 ≤ now (1180 + w)) (hw : 0 ≤ w ∧ w ≤ 5) (h3 : 0 ≤ g0) (h4 : 0 ≤ p0) (h : (1 + g0 ≤ g ∧ g ≤ 5000) ∧ (1 + p0 ≤ pr ∧ pr ≤ 1200)) : sRate now w g pr = if now (1180 + w) = 8 then (-5, none) else (1 + now (1180 + w), some (rateF now w g pr)) := by
  unfold sRate
  rw [if_neg (by omega)]
  by_cases q : now (1180 + w) = 0
  · rw [if_neg (by omega)]
  · rw [if_neg q] at h1 h2
    rw [show 1186 + 8 * w + (now (1180 + w) - 1) = 1185 + 8 * w + now (1180 + w) by omega] at h1
    rw [show 1234 + 8 * w + (now (1180 + w) - 1) = 1233 + 8 * w + now (1180 + w) by omega] at h2
    rw [if_neg (by omega)]
/-! extra -/
theorem extra_k {k pr : Int} : ∀ j : Int, 0 ≤ j → j < 4 → extraF now k pr (1282 + j) = if j = k then pr else now (1282 + j) := fun j _ _ => by
  unfold extraF
  by_cases e : j = k
  · rw [if_pos e, if_pos (by omega)]
  · rw [if_neg e, if_neg (by omega)]
theorem extra_out {k pr : Int} (hk : 0 ≤ k ∧ k < 4) : ∀ j : Int, (j < 1282 ∨ 1286 ≤ j) → extraF now k pr j = now j := fun j hj => by
  unfold extraF
  rw [if_neg (by omega)]
theorem mOK_extra {k pr : Int} (hok : mOK now) (hk : 0 ≤ k ∧ k < 4) (hp : 0 ≤ pr ∧ pr ≤ 200) : mOK (extraF now k pr) := by
  have ho := extra_out (now := now) (pr := pr) hk
  refine mOK_of (lA_lo (fun j hj => ho j (by omega)) hok) (okW_eq (fun j h0 h1 => ho j (by omega)) hok.2.2.2.2.1) (fun x x0 x1 => ?_) (okN_eq (fun j h0 h1 => ho j (by omega)) hok.2.2.2.2.2.2.1) (okG_eq (fun j h0 h1 => ho j (by omega)) hok.2.2.2.2.2.2.2.1) (okT_eq (fun j h0 h1 => ho j (by omega)) hok.2.2.2.2.2.2.1.2.1 hok.2.2.2.2.2.2.2.2.2.1) (okZ_eq (fun j hj => ho j (by omega)) hok.2.2.2.2.2.2.2.2.2.2)
  rw [extra_k x x0 x1]
  have := hok.2.2.2.2.2.1 x x0 x1
  by_cases e : x = k
  · rw [if_pos e]; exact hp
  · rw [if_neg e]; exact this
/-! letter -/
theorem let_n {z j : Int} (h1 : j ≠ 1287 + now 1286) (h2 : j ≠ 1347 + now 1286) (h3 : j ≠ 1407 + now 1286) (h4 : j ≠ 1467 + now 1286) (h5 : ¬ (1527 + 10 * now 1286 ≤ j ∧ j < 1537 + 10 * now 1286)) (h6 : ¬ (2127 + 20 * now 1286 ≤ j ∧ j < 2147 + 20 * now 1286)) (h7 : j ≠ 1286) : letterF now z j = now j := by unfold letterF; rw [if_neg h1, if_neg (by omega), if_neg h5, if_neg h6, if_neg h7]
theorem let_86 {z : Int} (hn : 0 ≤ now 1286) : letterF now z 1286 = 1 + now 1286 := by unfold letterF; rw [if_neg (by omega), if_neg (by omega), if_neg (by omega), if_neg (by omega), if_pos rfl]
theorem let_pr {z : Int} : letterF now z (1287 + now 1286) = z := by unfold letterF; rw [if_pos rfl]
theorem let_0 {z j : Int} (h0 : j ≠ 1287 + now 1286) (h : j = 1347 + now 1286 ∨ j = 1407 + now 1286 ∨ j = 1467 + now 1286) : letterF now z j = 0 := by unfold letterF; rw [if_neg h0, if_pos h]
theorem let_gv {z p : Int} (hn : 0 ≤ now 1286 ∧ now 1286 < 60) (hp : 0 ≤ p ∧ p < 10) : letterF now z (1527 + 10 * now 1286 + p) = 0 := by unfold letterF; rw [if_neg (by omega), if_neg (by omega), if_pos (by omega)]
theorem let_tn {z j : Int} (hn : 0 ≤ now 1286 ∧ now 1286 < 60) (hj : 2127 + 20 * now 1286 ≤ j ∧ j < 2147 + 20 * now 1286) : letterF now z j = 0 := by unfold letterF; rw [if_neg (by omega), if_neg (by omega), if_neg (by omega), if_pos hj]
theorem let_lo {z : Int} (hn : 0 ≤ now 1286 ∧ now 1286 < 60) : ∀ j : Int, j < 1286 → letterF now z j = now j := fun j hj => let_n (by omega) (by omega) (by omega) (by omega) (by omega) (by omega) (by omega)
theorem let_hi {z : Int} (hn : 0 ≤ now 1286 ∧ now 1286 < 60) : ∀ j : Int, 3327 ≤ j → letterF now z j = now j := fun j hj => let_n (by omega) (by omega) (by omega) (by omega) (by omega) (by omega) (by omega)
theorem let_ag {z : Int} (hn : 0 ≤ now 1286 ∧ now 1286 < 60) : ∀ l : Int, 0 ≤ l → l < now 1286 → agL now (letterF now z) l := fun l l0 l1 => by
  refine ⟨let_n (by omega) (by omega) (by omega) (by omega) (by omega) (by omega) (by omega), let_n (by omega) (by omega) (by omega) (by omega) (by omega) (by omega) (by omega), let_n (by omega) (by omega) (by omega) (by omega) (by omega) (by omega) (by omega), let_n (by omega) (by omega) (by omega) (by omega) (by omega) (by omega) (by omega), fun p p0 p1 => ⟨let_n (by omega) (by omega) (by omega) (by omega) (by omega) (by omega) (by omega), fun k k0 k1 => ?_⟩⟩
  unfold tq
  rw [let_n (by omega) (by omega) (by omega) (by omega) (by omega) (by omega) (by omega)]
theorem mOK_letter {z : Int} (hok : mOK now) (hn : now 1286 < 60) (hz : 0 ≤ z ∧ z ≤ 2000) : mOK (letterF now z) := by
  have hN := hok.2.2.2.2.2.2.1
  have hn0 : 0 ≤ now 1286 ∧ now 1286 < 60 := ⟨hN.1, hn⟩
  have hT := hok.2.2.2.2.2.2.2.2.2.1
  have hlo := let_lo (z := z) hn0
  refine mOK_of (lA_lo (fun j hj => hlo j (by omega)) hok) (okW_eq (fun j h0 h1 => hlo j (by omega)) hok.2.2.2.2.1) (okE_eq (fun j h0 h1 => hlo j (by omega)) hok.2.2.2.2.2.1) ?_ (okG_eq (fun j h0 h1 => let_hi hn0 j h0) hok.2.2.2.2.2.2.2.1) (fun l p l0 l1 p0 p1 e => ?_) (okZ_eq (fun j hj => by rcases hj with q | q; exact hlo j (by omega); exact let_hi hn0 j (by omega)) hok.2.2.2.2.2.2.2.2.2.2)
  · unfold okN
    rw [let_86 hn0.1]
    refine ⟨by omega, by omega, fun m m0 m1 => ?_⟩
    by_cases q : m = now 1286
    · subst q
      rw [let_pr, let_0 (j := 1347 + now 1286) (by omega) (by omega), let_0 (j := 1407 + now 1286) (by omega) (by omega), let_0 (j := 1467 + now 1286) (by omega) (by omega)]
      refine ⟨hz.1, hz.2, by decide, by decide, by decide, by decide, by decide, by decide, fun _ => ⟨rfl, rfl⟩, fun p p0 p1 => ?_⟩
      rw [let_gv hn0 ⟨p0, p1⟩]
      decide
    · obtain ⟨a1, a2, a3, a4, a5⟩ := let_ag (z := z) hn0 m m0 (by omega)
      rw [a1, a2, a3, a4]
      obtain ⟨b1, b2, b3, b4, b5, b6, b7, b8, b9, b10⟩ := hN.2.2 m m0 (by omega)
      refine ⟨b1, b2, b3, b4, b5, b6, b7, b8, b9, fun p p0 p1 => ?_⟩
      rw [(a5 p p0 p1).1]
      exact b10 p p0 p1
  · rw [let_86 hn0.1] at l1
    by_cases q : l = now 1286
    · subst q
      rw [let_tn hn0 (by omega), let_tn hn0 (by omega), let_gv hn0 ⟨p0, p1⟩]
      exact ⟨rfl, rfl, rfl⟩
    · obtain ⟨a1, a2, a3, a4, a5⟩ := let_ag (z := z) hn0 l l0 (by omega)
      rw [a1] at e
      rw [(a5 p p0 p1).1, let_n (by omega) (by omega) (by omega) (by omega) (by omega) (by omega) (by omega), let_n (by omega) (by omega) (by omega) (by omega) (by omega) (by omega) (by omega)]
      exact hT l p l0 (by omega) p0 p1 e
end EQ
