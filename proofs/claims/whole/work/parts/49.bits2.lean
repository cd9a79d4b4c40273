def fB (x : BitVec 64) (k : Int) : Int := if bI x k = true then 1 else 0
theorem fB_nat (x : BitVec 64) (k : Nat) : fB x k = ((x.toNat.testBit k).toNat : Int) := by
  unfold fB bI
  rw [show ((k : Int)).toNat = k by omega, BitVec.getLsbD]
  cases x.toNat.testBit k <;> rfl
theorem fB_grp (x : BitVec 64) (k b : Nat) (hk : b = x.toNat / 256 ^ k % 256) : fB x ((8 * k + 0 : Nat) : Int) + fB x ((8 * k + 1 : Nat) : Int) + fB x ((8 * k + 2 : Nat) : Int) + fB x ((8 * k + 3 : Nat) : Int) + fB x ((8 * k + 4 : Nat) : Int) + fB x ((8 * k + 5 : Nat) : Int) + fB x ((8 * k + 6 : Nat) : Int) + fB x ((8 * k + 7 : Nat) : Int) = (g3B (g2B (g1B b)) : Int) := by
  have h := (by_g ⟨b, hk ▸ Nat.mod_lt _ (by decide)⟩).2.2.2.2.1
  simp only at h
  subst hk
  rw [h, by_bit _ _ _ (by decide), by_bit _ _ _ (by decide), by_bit _ _ _ (by decide), by_bit _ _ _ (by decide), by_bit _ _ _ (by decide), by_bit _ _ _ (by decide), by_bit _ _ _ (by decide), by_bit _ _ _ (by decide)]
  simp only [fB_nat]
  omega
theorem sumI_8 (f : Int → Int) (n : Nat) : sumI f (n + 8) = sumI f n + (f ((n + 0 : Nat) : Int) + f ((n + 1 : Nat) : Int) + f ((n + 2 : Nat) : Int) + f ((n + 3 : Nat) : Int) + f ((n + 4 : Nat) : Int) + f ((n + 5 : Nat) : Int) + f ((n + 6 : Nat) : Int) + f ((n + 7 : Nat) : Int)) := by
  show sumI f n + f ((n + 0 : Nat) : Int) + f ((n + 1 : Nat) : Int) + f ((n + 2 : Nat) : Int) + f ((n + 3 : Nat) : Int) + f ((n + 4 : Nat) : Int) + f ((n + 5 : Nat) : Int) + f ((n + 6 : Nat) : Int) + f ((n + 7 : Nat) : Int) = _
  omega
theorem cB_by (x : BitVec 64) {b0 b1 b2 b3 b4 b5 b6 b7 : Nat} (h0 : b0 = x.toNat % 256) (h1 : b1 = x.toNat / 256 ^ 1 % 256) (h2 : b2 = x.toNat / 256 ^ 2 % 256) (h3 : b3 = x.toNat / 256 ^ 3 % 256) (h4 : b4 = x.toNat / 256 ^ 4 % 256) (h5 : b5 = x.toNat / 256 ^ 5 % 256) (h6 : b6 = x.toNat / 256 ^ 6 % 256) (h7 : b7 = x.toNat / 256 ^ 7 % 256) : cB x = ((g3B (g2B (g1B b0)) + g3B (g2B (g1B b1)) + g3B (g2B (g1B b2)) + g3B (g2B (g1B b3)) + g3B (g2B (g1B b4)) + g3B (g2B (g1B b5)) + g3B (g2B (g1B b6)) + g3B (g2B (g1B b7)) : Nat) : Int) := by
  have e : cB x = sumI (fB x) (0 + 8 + 8 + 8 + 8 + 8 + 8 + 8 + 8) := rfl
  have g0 := fB_grp x 0 b0 (by rw [h0]; show _ = x.toNat / 1 % 256; rw [Nat.div_one])
  have g1 := fB_grp x 1 b1 h1
  have g2 := fB_grp x 2 b2 h2
  have g3 := fB_grp x 3 b3 h3
  have g4 := fB_grp x 4 b4 h4
  have g5 := fB_grp x 5 b5 h5
  have g6 := fB_grp x 6 b6 h6
  have g7 := fB_grp x 7 b7 h7
  rw [e, sumI_8, sumI_8, sumI_8, sumI_8, sumI_8, sumI_8, sumI_8, sumI_8]
  simp only [Nat.mul_zero, Nat.mul_one, Nat.zero_add, Nat.reduceMul, Nat.reduceAdd] at g0 g1 g2 g3 g4 g5 g6 g7 ⊢
  rw [g0, g1, g2, g3, g4, g5, g6, g7]
  show 0 + _ + _ + _ + _ + _ + _ + _ + _ = _
  omega
theorem by_z1 {a : Nat} (h : a % 16 ≤ 4) (h2 : a / 16 ≤ 4) : a ≤ 68 := by omega
theorem by_z {a0 a1 a2 a3 a4 a5 a6 a7 : Nat} (h0 : a0 % 16 ≤ 4) (g0 : a0 / 16 ≤ 4) (h1 : a1 % 16 ≤ 4) (g1 : a1 / 16 ≤ 4) (h2 : a2 % 16 ≤ 4) (g2 : a2 / 16 ≤ 4) (h3 : a3 % 16 ≤ 4) (g3 : a3 / 16 ≤ 4) (h4 : a4 % 16 ≤ 4) (g4 : a4 / 16 ≤ 4) (h5 : a5 % 16 ≤ 4) (g5 : a5 / 16 ≤ 4) (h6 : a6 % 16 ≤ 4) (g6 : a6 / 16 ≤ 4) (h7 : a7 % 16 ≤ 4) (g7 : a7 / 16 ≤ 4) : by8 a0 a1 a2 a3 a4 a5 a6 a7 ≤ 4919131752989213764 := by
  have k0 := by_z1 h0 g0
  have k1 := by_z1 h1 g1
  have k2 := by_z1 h2 g2
  have k3 := by_z1 h3 g3
  have k4 := by_z1 h4 g4
  have k5 := by_z1 h5 g5
  have k6 := by_z1 h6 g6
  have k7 := by_z1 h7 g7
  clear h0 g0 h1 g1 h2 g2 h3 g3 h4 g4 h5 g5 h6 g6 h7 g7
  unfold by8
  omega
def bcB (x : BitVec 64) : BitVec 64 := v3B x
theorem cB_val (x v w u : BitVec 64) (hv : v = v3B x + (v3B x >>> 8)) (hw : w = v + (v >>> 16)) (hu : u = w + (w >>> 32)) : ((u.toNat % 128 : Nat) : Int) = cB x := by
  have hx := x.isLt
  generalize e0 : x.toNat % 256 = b0
  generalize e1 : x.toNat / 256 % 256 = b1
  generalize e2 : x.toNat / 65536 % 256 = b2
  generalize e3 : x.toNat / 16777216 % 256 = b3
  generalize e4 : x.toNat / 4294967296 % 256 = b4
  generalize e5 : x.toNat / 1099511627776 % 256 = b5
  generalize e6 : x.toNat / 281474976710656 % 256 = b6
  generalize e7 : x.toNat / 72057594037927936 % 256 = b7
  have l0 : b0 < 256 := e0 ▸ Nat.mod_lt _ (by decide)
  have q0 := by_g ⟨b0, l0⟩
  have l1 : b1 < 256 := e1 ▸ Nat.mod_lt _ (by decide)
  have q1 := by_g ⟨b1, l1⟩
  have l2 : b2 < 256 := e2 ▸ Nat.mod_lt _ (by decide)
  have q2 := by_g ⟨b2, l2⟩
  have l3 : b3 < 256 := e3 ▸ Nat.mod_lt _ (by decide)
  have q3 := by_g ⟨b3, l3⟩
  have l4 : b4 < 256 := e4 ▸ Nat.mod_lt _ (by decide)
  have q4 := by_g ⟨b4, l4⟩
  have l5 : b5 < 256 := e5 ▸ Nat.mod_lt _ (by decide)
  have q5 := by_g ⟨b5, l5⟩
  have l6 : b6 < 256 := e6 ▸ Nat.mod_lt _ (by decide)
  have q6 := by_g ⟨b6, l6⟩
  have l7 : b7 < 256 := e7 ▸ Nat.mod_lt _ (by decide)
  have q7 := by_g ⟨b7, l7⟩
  simp only at q0 q1 q2 q3 q4 q5 q6 q7
  have hn : x.toNat = by8 b0 b1 b2 b3 b4 b5 b6 b7 := by rw [← e0, ← e1, ← e2, ← e3, ← e4, ← e5, ← e6, ← e7]; exact by_bytes _ hx
  have hall := by_all b0 b1 b2 b3 b4 b5 b6 b7 l0 l1 l2 l3 l4 l5 l6 l7
  have hz : f2B 3689348814741910323 (f1B 6148914691236517205 (by8 b0 b1 b2 b3 b4 b5 b6 b7)) = by8 (g2B (g1B b0)) (g2B (g1B b1)) (g2B (g1B b2)) (g2B (g1B b3)) (g2B (g1B b4)) (g2B (g1B b5)) (g2B (g1B b6)) (g2B (g1B b7)) := by
    have e1 : (6148914691236517205 : Nat) = 85 + 256 * (85 + 256 * (85 + 256 * (85 + 256 * (85 + 256 * (85 + 256 * (85 + 256 * 85)))))) := by decide
    have e2 : (3689348814741910323 : Nat) = 51 + 256 * (51 + 256 * (51 + 256 * (51 + 256 * (51 + 256 * (51 + 256 * (51 + 256 * 51)))))) := by decide
    unfold by8
    rw [e1, by_f1 _ _ _ l0, by_f1 _ _ _ l1, by_f1 _ _ _ l2, by_f1 _ _ _ l3, by_f1 _ _ _ l4, by_f1 _ _ _ l5, by_f1 _ _ _ l6, by_last1]
    rw [e2, by_f2 _ _ _ q0.1, by_f2 _ _ _ q1.1, by_f2 _ _ _ q2.1, by_f2 _ _ _ q3.1, by_f2 _ _ _ q4.1, by_f2 _ _ _ q5.1, by_f2 _ _ _ q6.1, by_last2]
  have hm : (v3B x).toNat = by8 (g3B (g2B (g1B b0))) (g3B (g2B (g1B b1))) (g3B (g2B (g1B b2))) (g3B (g2B (g1B b3))) (g3B (g2B (g1B b4))) (g3B (g2B (g1B b5))) (g3B (g2B (g1B b6))) (g3B (g2B (g1B b7))) := by
    unfold v3B
    rw [by_v3 _ (by rw [by_v2, by_v1, hn, hz]; exact by_z q0.2.2.1 q0.2.2.2.1 q1.2.2.1 q1.2.2.2.1 q2.2.2.1 q2.2.2.2.1 q3.2.2.1 q3.2.2.2.1 q4.2.2.1 q4.2.2.2.1 q5.2.2.1 q5.2.2.2.1 q6.2.2.1 q6.2.2.2.1 q7.2.2.1 q7.2.2.2.1), by_v2, by_v1, hn, hall]
  have hs := by_sum _ _ _ _ _ _ _ _ _ _ _ q0.2.2.2.2.2 q1.2.2.2.2.2 q2.2.2.2.2.2 q3.2.2.2.2.2 q4.2.2.2.2.2 q5.2.2.2.2.2 q6.2.2.2.2.2 q7.2.2.2.2.2 rfl rfl rfl
  rw [← hm] at hs
  have hsh : ∀ (y : BitVec 64) (k : Nat), (y >>> k).toNat = y.toNat / 2 ^ k := fun y k => by rw [BitVec.toNat_ushiftRight, Nat.shiftRight_eq_div_pow]
  have hv2 : v.toNat = (v3B x).toNat + (v3B x).toNat / 256 := by
    rw [hv, BitVec.toNat_add, hsh]
    exact Nat.mod_eq_of_lt hs.2.1
  rw [← hv2] at hs
  have hw2 : w.toNat = v.toNat + v.toNat / 65536 := by
    rw [hw, BitVec.toNat_add, hsh]
    exact Nat.mod_eq_of_lt hs.2.2.1
  rw [← hw2] at hs
  have hu2 : u.toNat = w.toNat + w.toNat / 4294967296 := by
    rw [hu, BitVec.toNat_add, hsh]
    exact Nat.mod_eq_of_lt hs.2.2.2
  rw [← hu2] at hs
  rw [hs.1, cB_by x e0.symm e1.symm e2.symm e3.symm e4.symm e5.symm e6.symm e7.symm]
theorem cB_bd (x : BitVec 64) : 0 ≤ cB x ∧ cB x ≤ 64 := by
  have := sumI_bd (f := fB x) (a := 0) (b := 1) (n := 64) (fun k _ _ => by unfold fB; split <;> omega)
  show 0 ≤ sumI (fB x) 64 ∧ sumI (fB x) 64 ≤ 64
  omega
theorem l2i_and (u : BitVec 64) : (lB u).toInt32 &&& iI 127 = iI ((u.toNat % 128 : Nat) : Int) := by
  apply Int32.toBitVec.inj
  show (BitVec.signExtend 32 u) &&& (iI 127).toBitVec = (iI ((u.toNat % 128 : Nat) : Int)).toBitVec
  have h1 : (iI ((u.toNat % 128 : Nat) : Int)).toBitVec = BitVec.ofNat 32 (u.toNat % 128) := by rw [iI_nI]; rfl
  have h2 : (iI 127).toBitVec = 127#32 := by decide
  rw [h1, h2]
  apply BitVec.eq_of_toNat_eq
  rw [BitVec.toNat_and, BitVec.signExtend_eq_setWidth_of_le _ (by decide), BitVec.toNat_setWidth, BitVec.toNat_ofNat]
  show u.toNat % 2 ^ 32 &&& (2 ^ 7 - 1) = _
  rw [Nat.and_two_pow_sub_one_eq_mod, BitVec.toNat_ofNat]
  omega
