/-! what is torn off -/
theorem div_q {q n mn : Int} (hq : wBP q) (h : n = q * mn) : n / q = mn := by rcases hq with e | e <;> subst e <;> omega
section TEAR
variable {now : Int → Int} {p q r c : Int} {x : BitVec 64}
theorem lb1 (hs : shP r c) (hq : wBP q) (hc : q = 2 → c % 2 = 0) (hsq : sqOK now p x) (hx : ∀ k : Int, 0 ≤ k → k < 64 → bI x k = true → k < r * c) (hpr : pairU now p q) {j : Int} (j0 : 0 ≤ j) (j1 : j < 64) (hu : un now p q j) : npc c (r * c) (PB x) - goU q 1 (pcw c (r * c) (PB x) (fun s => s = q)) (pcw c (r * c) (PB x) (fun s => s = 2 * q)) ≤ csB c (r * c) x (0#64 ||| uB q x j) := by
  refine lb_units hs hq hc hsq hx hpr (i := j) (j := j) (u := 1) ⟨j0, j1⟩ ⟨j0, j1⟩ hu hu (Or.inl ⟨rfl, rfl⟩) (fun k k0 k1 hk => ?_)
  rw [bB_or, uB_bit hq hsq j0 j1 k0 k1]
  constructor
  · rintro (h | h)
    · exact absurd h bB_0
    · exact Or.inl ⟨h.2.1, h.2.2.1⟩
  · rintro (h | h) <;> exact Or.inr ⟨hu.1, h.1, h.2, hk⟩
theorem lb2 (hs : shP r c) (hq : wBP q) (hc : q = 2 → c % 2 = 0) (hsq : sqOK now p x) (hx : ∀ k : Int, 0 ≤ k → k < 64 → bI x k = true → k < r * c) (hpr : pairU now p q) {u v : Int} (h : un2 now p q u v) : npc c (r * c) (PB x) - goU q 2 (pcw c (r * c) (PB x) (fun s => s = q)) (pcw c (r * c) (PB x) (fun s => s = 2 * q)) ≤ csB c (r * c) x (uB q x u ||| uB q x v) := by
  obtain ⟨u0, u1, v1, hu, hv⟩ := h
  have huv : u + q ≤ v := by
    have h1 := hu.1
    have h2 := hv.1
    rcases hq with e | e <;> subst e <;> omega
  refine lb_units hs hq hc hsq hx hpr (i := u) (j := v) (u := 2) ⟨u0, by omega⟩ ⟨by omega, v1⟩ hu hv (Or.inr ⟨rfl, huv⟩) (fun k k0 k1 hk => ?_)
  rw [bB_or, uB_bit hq hsq u0 (by omega) k0 k1, uB_bit hq hsq (by omega) v1 k0 k1]
  constructor
  · rintro (h | h)
    · exact Or.inl ⟨h.2.1, h.2.2.1⟩
    · exact Or.inr ⟨h.2.1, h.2.2.1⟩
  · rintro (h | h)
    · exact Or.inl ⟨hu.1, h.1, h.2, hk⟩
    · exact Or.inr ⟨hv.1, h.1, h.2, hk⟩
/-- the answer of tearing, for mn units -/
def tgR (now : Int → Int) (p q r c : Int) (x : BitVec 64) (mn : Int) (z : BitVec 64) : Prop := (mn = 0 ∧ z = 0#64) ∨ (mn = 1 ∧ g1R (un now p q) (fun j => csB c (r * c) x (0#64 ||| uB q x j)) (fun j => 0#64 ||| uB q x j) 0 z) ∨ (mn = 2 ∧ g2R (un2 now p q) (fun u v => csB c (r * c) x (uB q x u ||| uB q x v)) (fun u v => uB q x u ||| uB q x v) z) ∨ (3 ≤ mn ∧ ∀ k : Int, 0 ≤ k → k < 64 → (bI z k = true ↔ k < r * c ∧ now (460 + 64 * p + k) ≠ 0 ∧ cntU now p (r * c) q (k - k % q + q) < mn))
theorem tgR_T (hs : shP r c) (hq : wBP q) (hsq : sqOK now p x) (hx : ∀ k : Int, 0 ≤ k → k < 64 → bI x k = true → k < r * c) (hpr : pairU now p q) (er : r = now (40 + p)) (ec : c = now (50 + p)) {mn : Int} {z : BitVec 64} (hmn : 1 ≤ mn) (hex : mn < 3 → ∃ x y : Int, valU now p (r * c) q mn x y) (h : tgR now p q r c x mn z) : tornT now p q mn (PB z) := by
  have hrc := rc_bd hs.1.1 hs.1.2 hs.2.1 hs.2.2
  have hwb := wBP_bd hq
  subst er ec
  have hst : ∀ u s : Int, 0 ≤ u → un now p q u → u ≤ s → s < u + q → s < 64 → now (460 + 64 * p + s) ≠ 0 := by
    intro u s u0 hu a b d
    rw [hpr s (by omega) d, unit_of hq hu.1 a b]
    exact hu.2
  have huN : ∀ u : Int, 0 ≤ u → u < 64 → un now p q u → u < now (40 + p) * now (50 + p) := fun u a b hu => un_lt hsq hx a b hu
  rcases h with ⟨h, -⟩ | ⟨h, hz⟩ | ⟨h, hz⟩ | ⟨h, hz⟩
  · omega
  · have hc : ∀ j : Int, 0 ≤ j → j < 64 → un now p q j → csB (now (50 + p)) (now (40 + p) * now (50 + p)) x (0#64 ||| uB q x j) = cst now p q j j := by
      intro j j0 j1 hu
      refine cst_bits hq hsq ⟨by omega, hrc.2⟩ ⟨j0, j1⟩ ⟨j0, j1⟩ (fun k k0 k1 hk => ?_)
      rw [bB_or, uB_bit hq hsq j0 j1 k0 k1]
      constructor
      · rintro (h | h)
        · exact absurd h bB_0
        · exact Or.inl ⟨h.2.1, h.2.2.1⟩
      · rintro (h | h) <;> exact Or.inr ⟨hu.1, h.1, h.2, hk⟩
    obtain ⟨a, b, hv⟩ := hex (by omega)
    have hva : un now p q a := ⟨hv.2.2.1, hv.2.2.2.2.2.2.1⟩
    rcases hz with ⟨-, hz⟩ | ⟨b2, b0, b1, hub, hzb, hm1, hm2⟩
    · exact absurd hva (hz a hv.1 (by have := hv.2.1; omega))
    · have hV : ∀ u v : Int, valU now p (now (40 + p) * now (50 + p)) q mn u v → 0 ≤ u ∧ u < 64 ∧ un now p q u ∧ v = u := fun u v hv => ⟨hv.1, by have := hv.2.1; omega, ⟨hv.2.2.1, hv.2.2.2.2.2.2.1⟩, hv.2.2.2.2.2.2.2.2.1 h⟩
      have hb2N := huN b2 b0 b1 hub
      have hval : valU now p (now (40 + p) * now (50 + p)) q mn b2 b2 := ⟨b0, hb2N, hub.1, b0, hb2N, hub.1, hub.2, hub.2, fun _ => rfl, fun q => absurd h q⟩
      have hcb := cst_bd (now := now) (p := p) (w := q) (x := b2) (y := b2) ⟨by omega, hrc.2⟩
      refine Or.inl ⟨by omega, cst now p q b2 b2, b2, b2, ⟨fun u v hv _ => ?_, Or.inr ⟨hval, trivial, rfl, fun u v hv _ hl => ?_⟩⟩, by omega, hval, fun s s0 s1 => ?_⟩
      · obtain ⟨a0, a1, au, av⟩ := hV u v hv
        rw [av, ← hc b2 b0 b1 hub, ← hc u a0 a1 au]
        exact hm1 u a0 a1 au
      · obtain ⟨a0, a1, au, av⟩ := hV u v hv
        rw [av, ← hc b2 b0 b1 hub, ← hc u a0 a1 au]
        exact hm2 u a0 (by omega) au
      · show bI z s = true ↔ _
        rw [hzb]
        show bI (0#64 ||| uB q x b2) s = true ↔ _
        rw [bB_or, uB_bit hq hsq b0 b1 s0 s1]
        constructor
        · rintro (h | h)
          · exact absurd h bB_0
          · exact Or.inl ⟨h.2.1, h.2.2.1⟩
        · rintro (h | h) <;> exact Or.inr ⟨hub.1, h.1, h.2, hst b2 s b0 hub h.1 h.2 s1⟩
  · have hc : ∀ u v : Int, un2 now p q u v → csB (now (50 + p)) (now (40 + p) * now (50 + p)) x (uB q x u ||| uB q x v) = cst now p q u v := by
      intro u v hu
      obtain ⟨u0, u1, v1, hu, hv⟩ := hu
      refine cst_bits hq hsq ⟨by omega, hrc.2⟩ ⟨u0, by omega⟩ ⟨by omega, v1⟩ (fun k k0 k1 hk => ?_)
      rw [bB_or, uB_bit hq hsq u0 (by omega) k0 k1, uB_bit hq hsq (by omega) v1 k0 k1]
      constructor
      · rintro (h | h)
        · exact Or.inl ⟨h.2.1, h.2.2.1⟩
        · exact Or.inr ⟨h.2.1, h.2.2.1⟩
      · rintro (h | h)
        · exact Or.inl ⟨hu.1, h.1, h.2, hk⟩
        · exact Or.inr ⟨hv.1, h.1, h.2, hk⟩
    have hV : ∀ u v : Int, valU now p (now (40 + p) * now (50 + p)) q mn u v → un2 now p q u v := fun u v hv => ⟨hv.1, by have := hv.2.2.2.2.2.2.2.2.2 (by omega); omega, by have := hv.2.2.2.2.1; omega, ⟨hv.2.2.1, hv.2.2.2.2.2.2.1⟩, ⟨hv.2.2.2.2.2.1, hv.2.2.2.2.2.2.2.1⟩⟩
    obtain ⟨a, b, hv⟩ := hex (by omega)
    rcases hz with ⟨-, hz⟩ | ⟨b1, b2, hub, hzb, hm1, hm2⟩
    · exact absurd (hV a b hv) (hz a b)
    · have hub' := hub
      obtain ⟨u0, u1, v1, hu, hv2⟩ := hub
      have huv : b1 + q ≤ b2 := by
        have h1 := hu.1
        have h2 := hv2.1
        rcases hq with e | e <;> subst e <;> omega
      have hb1N := huN b1 u0 (by omega) hu
      have hb2N := huN b2 (by omega) v1 hv2
      have hval : valU now p (now (40 + p) * now (50 + p)) q mn b1 b2 := ⟨u0, hb1N, hu.1, by omega, hb2N, hv2.1, hu.2, hv2.2, fun z => by omega, fun _ => huv⟩
      have hcb := cst_bd (now := now) (p := p) (w := q) (x := b1) (y := b2) ⟨by omega, hrc.2⟩
      refine Or.inl ⟨by omega, cst now p q b1 b2, b1, b2, ⟨fun u v hv _ => ?_, Or.inr ⟨hval, trivial, rfl, fun u v hv _ hl => ?_⟩⟩, by omega, hval, fun s s0 s1 => ?_⟩
      · rw [← hc b1 b2 hub', ← hc u v (hV u v hv)]
        exact hm1 u v (hV u v hv)
      · rw [← hc b1 b2 hub', ← hc u v (hV u v hv)]
        exact hm2 u v (hV u v hv) hl
      · show bI z s = true ↔ _
        rw [hzb]
        show bI (uB q x b1 ||| uB q x b2) s = true ↔ _
        rw [bB_or, uB_bit hq hsq u0 (by omega) s0 s1, uB_bit hq hsq (by omega) v1 s0 s1]
        constructor
        · rintro (h | h)
          · exact Or.inl ⟨h.2.1, h.2.2.1⟩
          · exact Or.inr ⟨h.2.1, h.2.2.1⟩
        · rintro (h | h)
          · exact Or.inl ⟨hu.1, h.1, h.2, hst b1 s u0 hu h.1 h.2 s1⟩
          · exact Or.inr ⟨hv2.1, h.1, h.2, hst b2 s (by omega) hv2 h.1 h.2 s1⟩
  · exact Or.inr ⟨h, fun s s0 s1 => hz s s0 s1⟩
end TEAR
