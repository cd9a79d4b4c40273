def rwB (c i : Int) : BitVec 64 := ((1#64 <<< (Int.toNat c)) - 1#64) <<< (Int.toNat (i * c))
theorem ones_bits : ∀ (c : Fin 9) (k : Fin 64), ((1#64 <<< c.val) - 1#64).getLsbD k.val = decide (k.val < c.val) := by decide +kernel
theorem rwB_bit {r c i k : Int} (hs : shP r c) (h0 : 0 ≤ i) (h1 : i < r) (k0 : 0 ≤ k) (k1 : k < 64) : bI (rwB c i) k = true ↔ i * c ≤ k ∧ k < i * c + c := by
  have hb := ic_bd hs h0 h1
  have hc := hs.2
  unfold rwB
  rw [bB_shl k0 k1, show ((Int.toNat (i * c) : Nat) : Int) = i * c by omega]
  constructor
  · rintro ⟨a, b⟩
    refine ⟨a, ?_⟩
    unfold bI at b
    have h := ones_bits ⟨c.toNat, by omega⟩ ⟨(k - i * c).toNat, by omega⟩
    simp only at h
    rw [h, decide_eq_true_eq] at b
    omega
  · rintro ⟨a, b⟩
    refine ⟨a, ?_⟩
    unfold bI
    have h := ones_bits ⟨c.toNat, by omega⟩ ⟨(k - i * c).toNat, by omega⟩
    simp only at h
    rw [h, decide_eq_true_eq]
    omega
theorem bO.le {G G' : gh} {a : Nat} {q f n r c m : Int} {x fc lc : BitVec 64} (h : bO G a q f n r c m x fc lc) (hl : gLe G G') : bO G' a q f n r c m x fc lc := h.imp (fun z => ⟨z.1, hl _ _ z.2⟩) (fun z => ⟨z.1, hl _ _ z.2⟩)
