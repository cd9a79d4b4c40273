/-! paying: the class's choice is the reference's; the next state in so many words -/
section PAY2
variable {now nw nw' : Int → Int} {l sum : Int} {cf cf' : Int → Int} {T T' : Int → Int → Prop}
theorem ch_iff {best : Int → Int} {row : Int → Int → Int} {most q lf m : Int} (hok : mOK now) (hw : waysOK now best) (hc : waysC now row most) (hm : most < 3000) (hq : 0 ≤ q ∧ q < 10) (hlf : 0 ≤ lf ∧ lf ≤ most) (h0 : 0 ≤ m) (h1 : m ≤ now (10 + q)) : chC now row q lf m ↔ chOK now best q lf m := by
  have hp := (paysF_bd hok.1 hok.2.1 hq.1 hq.2 h0 h1).1
  have e1 := ways_eqp (p := q) (s := lf) hok hw hc (by omega) ⟨hq.1, by omega⟩ hlf
  unfold chC chOK
  constructor
  · rintro ⟨a, b, c⟩
    have e2 := ways_eqp (p := 1 + q) (s := lf - paysF now q m) hok hw hc (by omega) ⟨by omega, by omega⟩ ⟨by omega, by omega⟩
    rw [e1, e2, show 3200 * (1 + q) + (lf - paysF now q m) = 3200 + 3200 * q + (lf - paysF now q m) by omega] at c
    exact ⟨h0, h1, a, b, c⟩
  · rintro ⟨-, -, a, b, c⟩
    have e2 := ways_eqp (p := 1 + q) (s := lf - paysF now q m) hok hw hc (by omega) ⟨by omega, by omega⟩ ⟨by omega, by omega⟩
    rw [e1, e2, show 3200 * (1 + q) + (lf - paysF now q m) = 3200 + 3200 * q + (lf - paysF now q m) by omega]
    exact ⟨a, b, c⟩
theorem pay_one {best : Int → Int} {row : Int → Int → Int} {most q lf z n : Int} (hok : mOK now) (hw : waysOK now best) (hc : waysC now row most) (hm : most < 3000) (hq : 0 ≤ q ∧ q < 10) (hlf : 0 ≤ lf ∧ lf ≤ most) (h : mfR now row q lf z) (h' : chTop now best q lf n) : z = n := by
  obtain ⟨⟨z0, z1⟩, z2, z3, z4, z5⟩ := h
  obtain ⟨hn, hnt⟩ := h'
  have n0 := hn.1
  have n1 := hn.2.1
  have hnc := (ch_iff hok hw hc hm hq hlf n0 n1).mpr hn
  have h1 : n ≤ z := by
    apply Classical.byContradiction
    intro g
    exact z5 n (by omega) n1 hnc
  by_cases e : z = 0
  · omega
  · have hzc := (ch_iff hok hw hc hm hq hlf z0 z1).mp (z4 e)
    apply Classical.byContradiction
    intro g
    exact hnt z (by omega) z1 hzc
theorem pay_cnt {best : Int → Int} {row : Int → Int → Int} {most : Int} {lf cnt lft : Int → Int} (hok : mOK now) (hw : waysOK now best) (hc : waysC now row most) (hm : most < 3000) (hcf : cfR now row most sum cf lf 10) (h0 : lft 0 = sum) (ht : ∀ q : Int, 0 ≤ q → q < 10 → chTop now best q (lft q) (cnt q) ∧ lft (1 + q) = lft q - paysF now q (cnt q)) : ∀ n : Nat, n ≤ 10 → lf n = lft n ∧ ∀ q : Int, 0 ≤ q → q < n → cf q = cnt q
  | 0, _ => ⟨by rw [show ((0 : Nat) : Int) = 0 from rfl, h0]; exact hcf.1, fun q q0 q1 => by omega⟩
  | n + 1, hn => by
    obtain ⟨i1, i2⟩ := pay_cnt hok hw hc hm hcf h0 ht n (by omega)
    have h1 := hcf.2.2 n (by omega) (by omega)
    have h2 := ht n (by omega) (by omega)
    have hb := hcf.2.1 n (by omega) (by omega)
    rw [← i1] at h2
    have e := pay_one hok hw hc hm ⟨by omega, by omega⟩ hb h1.1 h2.1
    rw [show ((n + 1 : Nat) : Int) = 1 + (n : Int) by omega]
    refine ⟨by rw [h1.2, h2.2, e], fun q q0 q1 => ?_⟩
    by_cases g : q = n
    · rw [g]; exact e
    · exact i2 q q0 (by omega)
/-- the words of what was torn off, out of a long -/
def wdB (x : BitVec 64) (i : Int) : Int := ((x >>> (Int.toNat (32 * i))).setWidth 32).toInt
theorem wd_bit {x : BitVec 64} {i k : Int} (hi : 0 ≤ i) (k0 : 0 ≤ k) (k1 : k < 32) : shb (wdB x i) k = if bI x (32 * i + k) = true then 1 else 0 := by
  rw [shb_bit k0 k1]
  have e : (iI (wdB x i)).toBitVec = (x >>> (Int.toNat (32 * i))).setWidth 32 := by
    show BitVec.ofInt 32 ((x >>> (Int.toNat (32 * i))).setWidth 32).toInt = _
    exact BitVec.ofInt_toInt
  rw [e, BitVec.getLsbD_setWidth, BitVec.getLsbD_ushiftRight]
  unfold bI
  rw [show (Int.toNat (32 * i)) + k.toNat = (32 * i + k).toNat by omega, decide_eq_true (by omega : k.toNat < 32), Bool.true_and]
def nwF (now : Int → Int) (l sum : Int) (cf : Int → Int) (sf : Int → BitVec 64) : Int → Int := fun j =>
  if 10 ≤ j ∧ j < 20 then now j - cf (j - 10)
  else if 460 ≤ j ∧ j < 1100 then (if bI (sf ((j - 460) / 64)) ((j - 460) % 64) = true then 0 else now j)
  else if j = 1347 + l then sum else if j = 1407 + l then sumI cf 10 else if j = 1467 + l then 1
  else if 1527 + 10 * l ≤ j ∧ j < 1537 + 10 * l then cf (j - (1527 + 10 * l))
  else if 2127 + 20 * l ≤ j ∧ j < 2147 + 20 * l then wdB (sf ((j - (2127 + 20 * l)) / 2)) ((j - (2127 + 20 * l)) % 2)
  else if 3327 ≤ j ∧ j < 3828 then now j + sumI (fun q => goneF now q (cf q) (j - 3327)) 10
  else now j
theorem nwF_S {sf : Int → BitVec 64} (hl : 0 ≤ l ∧ l < 60) (h : ∀ q : Int, 0 ≤ q → q < 10 → (0 ≤ cf q ∧ cf q ≤ now (10 + q)) ∧ mayF now q (cf q) ∧ giveT now q (cf q) (PB (sf q))) : payS now l sum cf (fun q => PB (sf q)) (nwF now l sum cf sf) := by
  refine ⟨h, fun q q0 q1 => ⟨?_, ?_, fun k k0 k1 => ?_⟩, ?_, fun f f0 f1 => ?_, ?_, ?_, fun j hj => ?_⟩
  · unfold nwF
    rw [if_neg (by omega), if_neg (by omega), if_neg (by omega), if_neg (by omega), if_neg (by omega), if_pos (by omega)]
    congr 1
    omega
  · unfold nwF
    rw [if_pos (by omega)]
    congr 2
    omega
  · have e1 : nwF now l sum cf sf (460 + 64 * q + k) = if bI (sf q) k = true then 0 else now (460 + 64 * q + k) := by
      unfold nwF
      rw [if_neg (by omega), if_pos (by omega), show (460 + 64 * q + k - 460) / 64 = q by omega, show (460 + 64 * q + k - 460) % 64 = k by omega]
    have e2 : tq (nwF now l sum cf sf) l q k = if bI (sf q) k = true then 1 else 0 := by
      unfold tq nwF
      rw [if_neg (by omega), if_neg (by omega), if_neg (by omega), if_neg (by omega), if_neg (by omega), if_neg (by omega), if_pos (by omega), show (2127 + 20 * l + 2 * q + k / 32 - (2127 + 20 * l)) / 2 = q by omega, show (2127 + 20 * l + 2 * q + k / 32 - (2127 + 20 * l)) % 2 = k / 32 by omega, wd_bit (by omega) (by omega) (by omega), show 32 * (k / 32) + k % 32 = k by omega]
    rw [e1, e2]
    constructor
    · intro (z : bI (sf q) k = true)
      rw [if_pos z, if_pos z]
      exact ⟨rfl, rfl⟩
    · intro (z : ¬ bI (sf q) k = true)
      rw [if_neg z, if_neg z]
      exact ⟨rfl, rfl⟩
  · unfold nwF
    rw [if_neg (by omega), if_neg (by omega), if_neg (by omega), if_pos rfl]
  · unfold nwF
    rw [if_neg (by omega), if_neg (by omega), if_neg (by omega), if_neg (by omega), if_neg (by omega), if_neg (by omega), if_neg (by omega), if_pos (by omega), show 3327 + f - 3327 = f by omega]
  · unfold nwF
    rw [if_neg (by omega), if_neg (by omega), if_pos rfl]
  · unfold nwF
    rw [if_neg (by omega), if_neg (by omega), if_neg (by omega), if_neg (by omega), if_pos rfl]
  · unfold nwF
    rw [if_neg (by omega), if_neg (by omega), if_neg (by omega), if_neg (by omega), if_neg (by omega), if_neg (by omega), if_neg (by omega), if_neg (by omega)]
theorem payS_ag (hl : 0 ≤ l ∧ l < 60) (h : payS now l sum cf T nw) (h' : payS now l sum cf' T' nw') (hc : ∀ q : Int, 0 ≤ q → q < 10 → cf' q = cf q) (hT : ∀ q k : Int, 0 ≤ q → q < 10 → 0 ≤ k → k < 64 → (T' q k ↔ T q k)) : (∀ j : Int, ¬ (2127 + 20 * l ≤ j ∧ j < 2147 + 20 * l) → nw' j = nw j) ∧ ∀ q k : Int, 0 ≤ q → q < 10 → 0 ≤ k → k < 64 → tq nw' l q k = tq nw l q k := by
  obtain ⟨h1, h2, h3, h4, h5, h6, h7⟩ := h
  obtain ⟨h1', h2', h3', h4', h5', h6', h7'⟩ := h'
  have hk : ∀ q k : Int, 0 ≤ q → q < 10 → 0 ≤ k → k < 64 → nw' (460 + 64 * q + k) = nw (460 + 64 * q + k) ∧ tq nw' l q k = tq nw l q k := fun q k q0 q1 k0 k1 => by
    have a := (h2 q q0 q1).2.2 k k0 k1
    have b := (h2' q q0 q1).2.2 k k0 k1
    have t := hT q k q0 q1 k0 k1
    rcases Classical.em (T q k) with z | z
    · rw [(a.1 z).1, (a.1 z).2, (b.1 (t.mpr z)).1, (b.1 (t.mpr z)).2]
      exact ⟨rfl, rfl⟩
    · rw [(a.2 z).1, (a.2 z).2, (b.2 (fun y => z (t.mp y))).1, (b.2 (fun y => z (t.mp y))).2]
      exact ⟨rfl, rfl⟩
  refine ⟨fun j hj => ?_, fun q k q0 q1 k0 k1 => (hk q k q0 q1 k0 k1).2⟩
  by_cases g1 : 10 ≤ j ∧ j < 20
  · have a := (h2 (j - 10) (by omega) (by omega)).2.1
    have b := (h2' (j - 10) (by omega) (by omega)).2.1
    rw [show 10 + (j - 10) = j by omega] at a b
    rw [a, b, hc _ (by omega) (by omega)]
  by_cases g2 : 460 ≤ j ∧ j < 1100
  · have a := (hk ((j - 460) / 64) ((j - 460) % 64) (by omega) (by omega) (by omega) (by omega)).1
    rw [show 460 + 64 * ((j - 460) / 64) + (j - 460) % 64 = j by omega] at a
    exact a
  by_cases g3 : 1527 + 10 * l ≤ j ∧ j < 1537 + 10 * l
  · have a := (h2 (j - (1527 + 10 * l)) (by omega) (by omega)).1
    have b := (h2' (j - (1527 + 10 * l)) (by omega) (by omega)).1
    rw [show 1527 + 10 * l + (j - (1527 + 10 * l)) = j by omega] at a b
    rw [a, b, hc _ (by omega) (by omega)]
  by_cases g4 : j = 1347 + l
  · rw [g4, h5, h5']
  by_cases g5 : j = 1407 + l
  · rw [g5, h3, h3']
    exact sumI_cong (fun k k0 k1 => hc k k0 (by omega))
  by_cases g6 : j = 1467 + l
  · rw [g6, h6, h6']
  by_cases g7 : 3327 ≤ j ∧ j ≤ 3827
  · have a := h4 (j - 3327) (by omega) (by omega)
    have b := h4' (j - 3327) (by omega) (by omega)
    rw [show 3327 + (j - 3327) = j by omega] at a b
    rw [a, b]
    congr 1
    exact sumI_cong (fun k k0 k1 => by rw [hc k k0 (by omega)])
  rw [h7 j (by omega), h7' j (by omega)]
/-- the same state object for either -/
theorem leA_ag {D : va_G} {N : Nat → Prop} {G : gh} {a : Nat} (h : leA D N G now a) (e86 : nw 1286 = now 1286) (hag : ∀ m : Int, 0 ≤ m → m < now 1286 → agL now nw m) (hg : ∀ fc : Int, 1 ≤ fc → fc ≤ 500 → nw (3327 + fc) = now (3327 + fc)) : leA D N G nw a := by
  obtain ⟨f, gl, h1, h2, h3⟩ := h
  refine ⟨f, gl, by rw [e86]; exact h1, fun m m0 m1 => ?_, fun fc f0 f1 => by rw [e86, hg fc f0 f1]; exact h3 fc f0 f1⟩
  rw [e86] at m1
  obtain ⟨b, q, h4⟩ := h2 m m0 m1
  obtain ⟨a1, a2, a3, a4, a5⟩ := hag m m0 m1
  exact ⟨b, q, h4.cong a1 a2 a3 a4 a5⟩
theorem stO_ag {D : va_G} {N : Nat → Prop} {G : gh} {a : Nat} (hok : mOK nw) (hl : 0 ≤ l ∧ l < 60) (h : stO D N G nw a) (h1 : ∀ j : Int, ¬ (2127 + 20 * l ≤ j ∧ j < 2147 + 20 * l) → nw' j = nw j) (h2 : ∀ q k : Int, 0 ≤ q → q < 10 → 0 ≤ k → k < 64 → tq nw' l q k = tq nw l q k) : stO D N G nw' a := by
  obtain ⟨pa, la, wa, ea, g1, g2, g3, g4, g5⟩ := h
  have hN := hok.2.2.2.2.2.2.1.2.1
  refine ⟨pa, la, wa, ea, g1, g2.cong hok.1 (fun j hj => h1 j (by omega)), leA_ag g3 (h1 _ (by omega)) (fun m m0 m1 => ?_) (fun fc f0 f1 => h1 _ (by omega)), g4.cong hok.2.2.2.2.1 (fun j j0 j1 => h1 j (by omega)), g5.cong (fun k k0 k1 => h1 _ (by omega))⟩
  refine ⟨h1 _ (by omega), h1 _ (by omega), h1 _ (by omega), h1 _ (by omega), fun p p0 p1 => ⟨h1 _ (by omega), fun k k0 k1 => ?_⟩⟩
  by_cases e : m = l
  · rw [e]; exact h2 p k p0 p1 k0 k1
  · unfold tq
    rw [h1 _ (by omega)]
theorem cQ_ag {D : va_G} {N : Nat → Prop} {B : Nat → Nat} {hist : Int → Int → Int} {km rd : Int} {reel : Int → Int} {G : gh} (hok : mOK nw) (hl : 0 ≤ l ∧ l < 60) (h : cQ D N B nw hist km rd reel G) (h1 : ∀ j : Int, ¬ (2127 + 20 * l ≤ j ∧ j < 2147 + 20 * l) → nw' j = nw j) (h2 : ∀ q k : Int, 0 ≤ q → q < 10 → 0 ≤ k → k < 64 → tq nw' l q k = tq nw l q k) : cQ D N B nw' hist km rd reel G := by
  obtain ⟨rf, sa, bf, row, most, a, b, c⟩ := h
  exact ⟨rf, sa, bf, row, most, a, stO_ag hok hl b h1 h2, c⟩
/-! what withPayment asks of the next state -/
theorem giveT_0 {p : Int} {Z : Int → Prop} (h : giveT now p 0 Z) : ∀ k : Int, 0 ≤ k → k < 64 → ¬ Z k := by
  rcases h with ⟨a, -⟩ | ⟨a, -⟩ | ⟨-, h⟩
  · omega
  · omega
  · exact h
theorem payS_same (hok : mOK now) (hl : 0 ≤ l ∧ l < 60) (h : payS now l sum cf T nw) : ∀ p : Int, 0 ≤ p → p < 10 → (now p = -1 ∨ cf p = 0) → agP now nw p := by
  intro p p0 p1 hp
  obtain ⟨h1, h2, h3, h4, h5, h6, h7⟩ := h
  obtain ⟨c1, c2, c3⟩ := h1 p p0 p1
  obtain ⟨d1, d2, d3⟩ := h2 p p0 p1
  have e : cf p = 0 := by
    rcases hp with q | q
    · have := (hok.1 p p0 p1).2.2.2.2.2.2.2.2.2.2.2.2.2.2.2.1 q
      omega
    · exact q
  rw [e] at c3
  have hz := giveT_0 c3
  refine ⟨h7 _ (by omega), by rw [d2, e]; omega, h7 _ (by omega), h7 _ (by omega), h7 _ (by omega), h7 _ (by omega), fun k k0 k1 => h7 _ (by omega), fun k k0 k1 => ((d3 k k0 k1).2 (hz k k0 k1)).1, fun r r0 r1 => h7 _ (by omega)⟩
theorem payS_wt {sf : Int → BitVec 64} (hl : 0 ≤ l ∧ l < 60) (h : payS now l sum cf (fun q => PB (sf q)) nw) : ∀ p : Int, 0 ≤ p → p < 10 → now p ≠ -1 → cf p ≠ 0 → wtOK now nw p (cf p) (sf p) := by
  intro p p0 p1 _ _
  obtain ⟨h1, h2, h3, h4, h5, h6, h7⟩ := h
  obtain ⟨d1, d2, d3⟩ := h2 p p0 p1
  refine ⟨h7 _ (by omega), d2, h7 _ (by omega), h7 _ (by omega), h7 _ (by omega), h7 _ (by omega), fun k k0 k1 => h7 _ (by omega), fun r r0 r1 => h7 _ (by omega), fun _ k k0 k1 => ?_⟩
  by_cases z : bI (sf p) k = true
  · rw [if_pos z]; exact ((d3 k k0 k1).1 z).1
  · rw [if_neg z]; exact ((d3 k k0 k1).2 z).1
theorem payS_agL (hl : 0 ≤ l ∧ l < 60) (hN : now 1286 ≤ 60) (h : payS now l sum cf T nw) : ∀ j : Int, 0 ≤ j → j < now 1286 → j ≠ l → agL now nw j := by
  intro j j0 j1 hj
  obtain ⟨h1, h2, h3, h4, h5, h6, h7⟩ := h
  refine ⟨h7 _ (by omega), h7 _ (by omega), h7 _ (by omega), h7 _ (by omega), fun p p0 p1 => ⟨h7 _ (by omega), fun k k0 k1 => ?_⟩⟩
  unfold tq
  rw [h7 _ (by omega)]
end PAY2
