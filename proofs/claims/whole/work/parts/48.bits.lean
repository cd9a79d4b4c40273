/-! how many bits -/
def bI (x : BitVec 64) (k : Int) : Bool := x.getLsbD k.toNat
def cB (x : BitVec 64) : Int := sumI (fun k => if bI x k = true then 1 else 0) 64
theorem by_c1 : ∀ (a : Fin 128) (c : Fin 2), (a.val + 128 * c.val) &&& 85 = a.val &&& 85 := by decide +kernel
theorem by_c2 : ∀ (a : Fin 64) (c : Fin 4), (a.val + 64 * c.val) &&& 51 = a.val &&& 51 := by decide +kernel
def g1B (a : Nat) : Nat := a - (a / 2 &&& 85)
def g2B (y : Nat) : Nat := (y &&& 51) + (y / 4 &&& 51)
def g3B (z : Nat) : Nat := z % 16 + z / 16
def f1B (M n : Nat) : Nat := n - (n / 2 &&& M)
def f2B (M n : Nat) : Nat := (n &&& M) + (n / 4 &&& M)
def f3B (M n : Nat) : Nat := (n + n / 16) &&& M
theorem by_spl (x m M : Nat) (hm : m < 256) : x &&& (m + 256 * M) = (x % 256 &&& m) + 256 * (x / 256 &&& M) := by
  have h1 := Nat.and_mod_two_pow (a := x) (b := m + 256 * M) (n := 8)
  have h2 := Nat.and_div_two_pow (a := x) (b := m + 256 * M) (n := 8)
  rw [show 2 ^ 8 = 256 from rfl] at h1 h2
  rw [show (m + 256 * M) % 256 = m by omega] at h1
  rw [show (m + 256 * M) / 256 = M by omega] at h2
  omega
theorem by_f1 (a b M : Nat) (ha : a < 256) : f1B (85 + 256 * M) (a + 256 * b) = g1B a + 256 * f1B M b := by
  unfold f1B g1B
  rw [by_spl _ _ _ (by decide), show (a + 256 * b) / 2 / 256 = b / 2 by omega, show (a + 256 * b) / 2 % 256 = a / 2 + 128 * (b % 2) by omega]
  have h := by_c1 ⟨a / 2, by omega⟩ ⟨b % 2, by omega⟩
  rw [show (a / 2 + 128 * (b % 2)) &&& 85 = a / 2 &&& 85 from h]
  have h3 : a / 2 &&& 85 ≤ a / 2 := Nat.and_le_left
  have h4 : b / 2 &&& M ≤ b / 2 := Nat.and_le_left
  omega
theorem by_f2 (a b M : Nat) (ha : a < 256) : f2B (51 + 256 * M) (a + 256 * b) = g2B a + 256 * f2B M b := by
  unfold f2B g2B
  rw [by_spl _ _ _ (by decide), by_spl _ _ _ (by decide), show (a + 256 * b) / 4 / 256 = b / 4 by omega, show (a + 256 * b) / 4 % 256 = a / 4 + 64 * (b % 4) by omega, show (a + 256 * b) % 256 = a by omega, show (a + 256 * b) / 256 = b by omega]
  have h := by_c2 ⟨a / 4, by omega⟩ ⟨b % 4, by omega⟩
  rw [show (a / 4 + 64 * (b % 4)) &&& 51 = a / 4 &&& 51 from h]
  omega
theorem by_c3 : ∀ a : Fin 256, (a.val &&& 15) = a.val % 16 := by decide +kernel
theorem by_f3 (a b M : Nat) (ha : a % 16 ≤ 4) (ha2 : a / 16 ≤ 4) (hb : b % 16 ≤ 4) : f3B (15 + 256 * M) (a + 256 * b) = g3B a + 256 * f3B M b := by
  unfold f3B g3B
  rw [by_spl _ _ _ (by decide), show (a + 256 * b + (a + 256 * b) / 16) / 256 = b + b / 16 by omega, show (a + 256 * b + (a + 256 * b) / 16) % 256 = a + a / 16 + 16 * (b % 16) by omega]
  have h := by_c3 ⟨a + a / 16 + 16 * (b % 16), by omega⟩
  rw [show (a + a / 16 + 16 * (b % 16)) &&& 15 = (a + a / 16 + 16 * (b % 16)) % 16 from h]
  omega
def bt1 (a i : Nat) : Nat := (a.testBit i).toNat
theorem by_g : ∀ a : Fin 256, g1B a.val < 256 ∧ g2B (g1B a.val) < 256 ∧ g2B (g1B a.val) % 16 ≤ 4 ∧ g2B (g1B a.val) / 16 ≤ 4 ∧ g3B (g2B (g1B a.val)) = bt1 a.val 0 + bt1 a.val 1 + bt1 a.val 2 + bt1 a.val 3 + bt1 a.val 4 + bt1 a.val 5 + bt1 a.val 6 + bt1 a.val 7 ∧ g3B (g2B (g1B a.val)) ≤ 8 := by decide +kernel
/-- eight bytes -/
def by8 (a0 a1 a2 a3 a4 a5 a6 a7 : Nat) : Nat := a0 + 256 * (a1 + 256 * (a2 + 256 * (a3 + 256 * (a4 + 256 * (a5 + 256 * (a6 + 256 * a7))))))
theorem by_last1 (a : Nat) : f1B 85 a = g1B a := rfl
theorem by_last2 (a : Nat) : f2B 51 a = g2B a := rfl
theorem by_last3 (a : Nat) (h : a % 16 ≤ 4) (h2 : a / 16 ≤ 4) : f3B 15 a = g3B a := by
  unfold f3B g3B
  have h := by_c3 ⟨a + a / 16, by omega⟩
  rw [show (a + a / 16) &&& 15 = (a + a / 16) % 16 from h]
  omega
theorem by_m16 (a R : Nat) (h : a % 16 ≤ 4) : (a + 256 * R) % 16 ≤ 4 := by omega
theorem by_all (a0 a1 a2 a3 a4 a5 a6 a7 : Nat) (h0 : a0 < 256) (h1 : a1 < 256) (h2 : a2 < 256) (h3 : a3 < 256) (h4 : a4 < 256) (h5 : a5 < 256) (h6 : a6 < 256) (h7 : a7 < 256) :
    f3B 1085102592571150095 (f2B 3689348814741910323 (f1B 6148914691236517205 (by8 a0 a1 a2 a3 a4 a5 a6 a7))) = by8 (g3B (g2B (g1B a0))) (g3B (g2B (g1B a1))) (g3B (g2B (g1B a2))) (g3B (g2B (g1B a3))) (g3B (g2B (g1B a4))) (g3B (g2B (g1B a5))) (g3B (g2B (g1B a6))) (g3B (g2B (g1B a7))) := by
  have e1 : (6148914691236517205 : Nat) = 85 + 256 * (85 + 256 * (85 + 256 * (85 + 256 * (85 + 256 * (85 + 256 * (85 + 256 * 85)))))) := by decide
  have e2 : (3689348814741910323 : Nat) = 51 + 256 * (51 + 256 * (51 + 256 * (51 + 256 * (51 + 256 * (51 + 256 * (51 + 256 * 51)))))) := by decide
  have e3 : (1085102592571150095 : Nat) = 15 + 256 * (15 + 256 * (15 + 256 * (15 + 256 * (15 + 256 * (15 + 256 * (15 + 256 * 15)))))) := by decide
  have q0 := by_g ⟨a0, h0⟩
  have q1 := by_g ⟨a1, h1⟩
  have q2 := by_g ⟨a2, h2⟩
  have q3 := by_g ⟨a3, h3⟩
  have q4 := by_g ⟨a4, h4⟩
  have q5 := by_g ⟨a5, h5⟩
  have q6 := by_g ⟨a6, h6⟩
  have q7 := by_g ⟨a7, h7⟩
  simp only at q0 q1 q2 q3 q4 q5 q6 q7
  unfold by8
  rw [e1, by_f1 _ _ _ h0, by_f1 _ _ _ h1, by_f1 _ _ _ h2, by_f1 _ _ _ h3, by_f1 _ _ _ h4, by_f1 _ _ _ h5, by_f1 _ _ _ h6, by_last1]
  rw [e2, by_f2 _ _ _ q0.1, by_f2 _ _ _ q1.1, by_f2 _ _ _ q2.1, by_f2 _ _ _ q3.1, by_f2 _ _ _ q4.1, by_f2 _ _ _ q5.1, by_f2 _ _ _ q6.1, by_last2]
  rw [e3, by_f3 _ _ _ q0.2.2.1 q0.2.2.2.1 (by_m16 _ _ q1.2.2.1), by_f3 _ _ _ q1.2.2.1 q1.2.2.2.1 (by_m16 _ _ q2.2.2.1), by_f3 _ _ _ q2.2.2.1 q2.2.2.2.1 (by_m16 _ _ q3.2.2.1), by_f3 _ _ _ q3.2.2.1 q3.2.2.2.1 (by_m16 _ _ q4.2.2.1), by_f3 _ _ _ q4.2.2.1 q4.2.2.2.1 (by_m16 _ _ q5.2.2.1), by_f3 _ _ _ q5.2.2.1 q5.2.2.2.1 (by_m16 _ _ q6.2.2.1), by_f3 _ _ _ q6.2.2.1 q6.2.2.2.1 q7.2.2.1, by_last3 _ q7.2.2.1 q7.2.2.2.1]
theorem by_dv (a R : Nat) (h : a < 256) : (a + 256 * R) / 256 = R := by omega
theorem by_dv2 (a R : Nat) (h : a < 65536) : (a + 65536 * R) / 65536 = R := by omega
theorem by_dv4 (a R : Nat) (h : a < 4294967296) : (a + 4294967296 * R) / 4294967296 = R := by omega
theorem by_s1 (p0 p1 p2 p3 p4 p5 p6 p7 : Nat) (h0 : p0 ≤ 8) : by8 p0 p1 p2 p3 p4 p5 p6 p7 + by8 p0 p1 p2 p3 p4 p5 p6 p7 / 256 = ((p0 + p1) + 256 * (p1 + p2)) + 65536 * (((p2 + p3) + 256 * (p3 + p4)) + 65536 * ((p4 + p5) + 256 * (p5 + p6) + 65536 * ((p6 + p7) + 256 * p7))) := by
  unfold by8
  rw [by_dv _ _ (by omega)]
  omega
theorem by_s2 (A B C E : Nat) (hA : A < 65536) : (A + 65536 * (B + 65536 * (C + 65536 * E))) + (A + 65536 * (B + 65536 * (C + 65536 * E))) / 65536 = ((A + B) + 65536 * (B + C)) + 4294967296 * ((C + E) + 65536 * E) := by
  rw [by_dv2 _ _ hA]
  omega
theorem by_s3 (X Y : Nat) (hX : X < 4294967296) : (X + 4294967296 * Y) + (X + 4294967296 * Y) / 4294967296 = (X + Y) + 4294967296 * Y := by
  rw [by_dv4 _ _ hX]
  omega
theorem by_m (S X : Nat) (h : S < 128) : (S + 128 * X) % 128 = S := by omega
theorem by_q1 (A B C E : Nat) : ((A + B) + 65536 * (B + C)) + ((C + E) + 65536 * E) + 4294967296 * ((C + E) + 65536 * E) = (A + B + C + E) + 65536 * ((B + C) + E + 65536 * ((C + E) + 65536 * E)) := by omega
theorem by_q2 (p0 p1 p2 p3 p4 p5 p6 p7 : Nat) : ((p0 + p1) + 256 * (p1 + p2)) + ((p2 + p3) + 256 * (p3 + p4)) + ((p4 + p5) + 256 * (p5 + p6)) + ((p6 + p7) + 256 * p7) = (p0 + p1 + p2 + p3 + p4 + p5 + p6 + p7) + 256 * ((p1 + p2) + (p3 + p4) + (p5 + p6) + p7) := by omega
theorem by_q3 (S T Z : Nat) : S + 256 * T + 65536 * Z = S + 128 * (2 * T + 512 * Z) := by omega
theorem by_b1 (A B C E : Nat) (hA : A ≤ 4112) (hB : B ≤ 4112) (hC : C ≤ 4112) (hE : E ≤ 4112) : A + 65536 * (B + 65536 * (C + 65536 * E)) < 18446744073709551616 := by omega
theorem by_b2 (A B C E : Nat) (hA : A ≤ 4112) (hB : B ≤ 4112) (hC : C ≤ 4112) (hE : E ≤ 4112) : ((A + B) + 65536 * (B + C)) + 4294967296 * ((C + E) + 65536 * E) < 18446744073709551616 := by omega
theorem by_b3 (A B C E : Nat) (hA : A ≤ 4112) (hB : B ≤ 4112) (hC : C ≤ 4112) (hE : E ≤ 4112) : ((A + B) + 65536 * (B + C)) + ((C + E) + 65536 * E) + 4294967296 * ((C + E) + 65536 * E) < 18446744073709551616 := by omega
theorem by_b4 (A B C : Nat) (hA : A ≤ 4112) (hB : B ≤ 4112) (hC : C ≤ 4112) : (A + B) + 65536 * (B + C) < 4294967296 := by omega
theorem by_b5 (p0 p1 p2 : Nat) (h0 : p0 ≤ 8) (h1 : p1 ≤ 8) (h2 : p2 ≤ 8) : (p0 + p1) + 256 * (p1 + p2) ≤ 4112 := by omega
theorem by_b6 (p0 p1 p2 p3 p4 p5 p6 p7 : Nat) (h0 : p0 ≤ 8) (h1 : p1 ≤ 8) (h2 : p2 ≤ 8) (h3 : p3 ≤ 8) (h4 : p4 ≤ 8) (h5 : p5 ≤ 8) (h6 : p6 ≤ 8) (h7 : p7 ≤ 8) : p0 + p1 + p2 + p3 + p4 + p5 + p6 + p7 < 128 := by omega
theorem by_b7 (p0 p1 : Nat) (h0 : p0 ≤ 8) (h1 : p1 ≤ 8) : (p0 + p1) + 256 * p1 ≤ 4112 := by omega
theorem by_sum (p0 p1 p2 p3 p4 p5 p6 p7 v w u : Nat) (h0 : p0 ≤ 8) (h1 : p1 ≤ 8) (h2 : p2 ≤ 8) (h3 : p3 ≤ 8) (h4 : p4 ≤ 8) (h5 : p5 ≤ 8) (h6 : p6 ≤ 8) (h7 : p7 ≤ 8) (hv : v = by8 p0 p1 p2 p3 p4 p5 p6 p7 + by8 p0 p1 p2 p3 p4 p5 p6 p7 / 256) (hw : w = v + v / 65536) (hu : u = w + w / 4294967296) : u % 128 = p0 + p1 + p2 + p3 + p4 + p5 + p6 + p7 ∧ v < 18446744073709551616 ∧ w < 18446744073709551616 ∧ u < 18446744073709551616 := by
  rw [by_s1 _ _ _ _ _ _ _ _ h0] at hv
  have hA := by_b5 p0 p1 p2 h0 h1 h2
  have hB := by_b5 p2 p3 p4 h2 h3 h4
  have hC := by_b5 p4 p5 p6 h4 h5 h6
  have hE := by_b7 p6 p7 h6 h7
  have hq := by_q2 p0 p1 p2 p3 p4 p5 p6 p7
  have hS := by_b6 p0 p1 p2 p3 p4 p5 p6 p7 h0 h1 h2 h3 h4 h5 h6 h7
  generalize (p0 + p1) + 256 * (p1 + p2) = A at hv hA hq
  generalize (p2 + p3) + 256 * (p3 + p4) = B at hv hB hq
  generalize (p4 + p5) + 256 * (p5 + p6) = C at hv hC hq
  generalize (p6 + p7) + 256 * p7 = E at hv hE hq
  have hX := by_b4 A B C hA hB hC
  rw [hv, by_s2 _ _ _ _ (Nat.lt_of_le_of_lt hA (by decide))] at hw
  rw [hw, by_s3 _ _ hX] at hu
  refine ⟨?_, ?_, ?_, ?_⟩
  · rw [hu, by_q1, hq, by_q3, by_m _ _ hS]
  · rw [hv]; exact by_b1 A B C E hA hB hC hE
  · rw [hw]; exact by_b2 A B C E hA hB hC hE
  · rw [hu]; exact by_b3 A B C E hA hB hC hE
/-- its bytes -/
theorem by_bytes (n : Nat) (h : n < 18446744073709551616) : n = by8 (n % 256) (n / 256 % 256) (n / 65536 % 256) (n / 16777216 % 256) (n / 4294967296 % 256) (n / 1099511627776 % 256) (n / 281474976710656 % 256) (n / 72057594037927936 % 256) := by
  have g := fun m : Nat => Nat.mod_add_div m 256
  have g0 := g n
  have g1 := g (n / 256)
  have g2 := g (n / 65536)
  have g3 := g (n / 16777216)
  have g4 := g (n / 4294967296)
  have g5 := g (n / 1099511627776)
  have g6 := g (n / 281474976710656)
  have g7 : n / 72057594037927936 % 256 = n / 72057594037927936 := Nat.mod_eq_of_lt (Nat.div_lt_of_lt_mul h)
  rw [Nat.div_div_eq_div_mul] at g1 g2 g3 g4 g5 g6
  clear g h
  simp only [Nat.reduceMul] at g1 g2 g3 g4 g5 g6
  unfold by8
  rw [g7, g6, g5, g4, g3, g2, g1, g0]
theorem by_bit (n k i : Nat) (hi : i < 8) : bt1 (n / 256 ^ k % 256) i = (n.testBit (8 * k + i)).toNat := by
  unfold bt1
  rw [show (256 : Nat) ^ k = 2 ^ (8 * k) by rw [Nat.pow_mul], show 256 = 2 ^ 8 from rfl, Nat.testBit_mod_two_pow, Nat.testBit_div_two_pow, decide_eq_true hi, Bool.true_and, Nat.add_comm]
def v3B (x : BitVec 64) : BitVec 64 := 
  let y := x - ((x >>> 1) &&& 6148914691236517205#64)
  let z := (y &&& 3689348814741910323#64) + ((y >>> 2) &&& 3689348814741910323#64)
  (z + (z >>> 4)) &&& 1085102592571150095#64
theorem by_v1 (x : BitVec 64) : (x - ((x >>> 1) &&& 6148914691236517205#64)).toNat = f1B 6148914691236517205 x.toNat := by
  unfold f1B
  have hx := x.isLt
  have h1 : ((x >>> 1) &&& 6148914691236517205#64).toNat = x.toNat / 2 &&& 6148914691236517205 := by
    rw [BitVec.toNat_and, BitVec.toNat_ushiftRight, Nat.shiftRight_eq_div_pow]; rfl
  have h2 : x.toNat / 2 &&& 6148914691236517205 ≤ x.toNat / 2 := Nat.and_le_left
  rw [BitVec.toNat_sub, h1]
  omega
theorem by_v2 (y : BitVec 64) : ((y &&& 3689348814741910323#64) + ((y >>> 2) &&& 3689348814741910323#64)).toNat = f2B 3689348814741910323 y.toNat := by
  unfold f2B
  have h1 : (y &&& 3689348814741910323#64).toNat = y.toNat &&& 3689348814741910323 := by rw [BitVec.toNat_and]; rfl
  have h2 : ((y >>> 2) &&& 3689348814741910323#64).toNat = y.toNat / 4 &&& 3689348814741910323 := by rw [BitVec.toNat_and, BitVec.toNat_ushiftRight, Nat.shiftRight_eq_div_pow]; rfl
  have h3 : y.toNat &&& 3689348814741910323 ≤ 3689348814741910323 := Nat.and_le_right
  have h4 : y.toNat / 4 &&& 3689348814741910323 ≤ 3689348814741910323 := Nat.and_le_right
  rw [BitVec.toNat_add, h1, h2]
  omega
theorem by_v3 (z : BitVec 64) (hz : z.toNat ≤ 4919131752989213764) : ((z + (z >>> 4)) &&& 1085102592571150095#64).toNat = f3B 1085102592571150095 z.toNat := by
  unfold f3B
  have h1 : (z >>> 4).toNat = z.toNat / 16 := by rw [BitVec.toNat_ushiftRight, Nat.shiftRight_eq_div_pow]
  rw [BitVec.toNat_and, BitVec.toNat_add, h1, Nat.mod_eq_of_lt (by omega)]
  rfl
