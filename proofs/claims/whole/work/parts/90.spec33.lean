/-! what the class' readers answer -/
section SL
variable {now : Int → Int} {p k a b : Int}
theorem sk_bad (h : ¬ (0 ≤ p ∧ p ≤ 9 ∧ 0 ≤ k ∧ k ≤ 4)) : (sLook now p k a b).1 = -3 := by
  unfold sLook
  show (if _ then _ else _) = _
  rw [if_pos h]
theorem sk_no (h : 0 ≤ p ∧ p ≤ 9 ∧ 0 ≤ k ∧ k ≤ 4) (e : now p = -1) : (sLook now p k a b).1 = -11 := by
  unfold sLook
  show (if _ then _ else _) = _
  rw [if_neg (fun q => q h), if_pos e]
theorem sk_12 (h : 0 ≤ p ∧ p ≤ 9 ∧ 0 ≤ k ∧ k ≤ 4) (e : now p ≠ -1) (f : ¬ (k = 0 ∨ now p = k ∨ (k = 2 ∧ now p = 3))) : (sLook now p k a b).1 = -12 := by
  unfold sLook
  show (if _ then _ else _) = _
  rw [if_neg (fun q => q h), if_neg e, if_pos f]
theorem sk_of (h : 0 ≤ p ∧ p ≤ 9 ∧ 0 ≤ k ∧ k ≤ 4) (e : now p ≠ -1) (f : k = 0 ∨ now p = k ∨ (k = 2 ∧ now p = 3)) : (sLook now p k a b).1 = if k = 0 then now (10 + p) else if k = 4 then now (30 + p) else if k = 1 then (if 0 ≤ a ∧ a < now (10 + p) then now (60 + 40 * p + a) else -13) else if ¬ (0 ≤ a ∧ a < now (40 + p)) then -13 else if now (1100 + 8 * p + a) = 1 then -11 else if k = 2 then (if 0 ≤ b ∧ b < now (50 + p) then now (460 + 64 * p + (now (50 + p) * a + b)) else -13) else if 0 ≤ b ∧ b < now (50 + p) / 2 then now (460 + 64 * p + (now (50 + p) * a + 2 * b)) + now (460 + 64 * p + (now (50 + p) * a + 2 * b + 1)) else -13 := by
  unfold sLook
  show (if _ then _ else _) = _
  rw [if_neg (fun q => q h), if_neg e, if_neg (fun q => q f)]
theorem sk_0 (h : 0 ≤ p ∧ p ≤ 9) (e : now p ≠ -1) (hk : k = 0) : (sLook now p k a b).1 = now (10 + p) := by
  rw [sk_of ⟨h.1, h.2, by omega, by omega⟩ e (Or.inl hk), if_pos hk]
theorem sk_4 (h : 0 ≤ p ∧ p ≤ 9) (e : now p = 4) (hk : k = 4) : (sLook now p k a b).1 = now (30 + p) := by
  rw [sk_of ⟨h.1, h.2, by omega, by omega⟩ (by omega) (by omega), if_neg (by omega), if_pos hk]
theorem sk_1 (h : 0 ≤ p ∧ p ≤ 9) (e : now p = 1) (hk : k = 1) : (sLook now p k a b).1 = if 0 ≤ a ∧ a ≤ now (10 + p) - 1 then now (60 + 40 * p + a) else -13 := by
  rw [sk_of ⟨h.1, h.2, by omega, by omega⟩ (by omega) (by omega), if_neg (by omega), if_neg (by omega), if_pos hk]
  by_cases c : 0 ≤ a ∧ a < now (10 + p)
  · rw [if_pos c, if_pos (by omega)]
  · rw [if_neg c, if_neg (by omega)]
theorem sk_2 {m : Int} {x : BitVec 64} (h : 0 ≤ p ∧ p < 10) (hok : mOK now) (e : now p = 2 ∨ now p = 3) (hm : msOK now p m) (hsq : sqOK now p x) (hk : k = 2) : (sLook now p k a b).1 = sqrF (now (20 + p)) x (now (40 + p)) (now (50 + p)) m a b := by
  rw [sk_of ⟨h.1, by omega, by omega, by omega⟩ (by omega) (by omega), if_neg (by omega), if_neg (by omega), if_neg (by omega), sq_look hok h e hm hsq]
  by_cases c : ¬ (0 ≤ a ∧ a < now (40 + p))
  · rw [if_pos c, if_pos c]
  · rw [if_neg c, if_neg c]
    by_cases c2 : now (1100 + 8 * p + a) = 1
    · rw [if_pos c2, if_pos c2]
    · rw [if_neg c2, if_neg c2, if_pos hk]
theorem sk_3 {m : Int} {x : BitVec 64} (h : 0 ≤ p ∧ p < 10) (hok : mOK now) (e : now p = 3) (hm : msOK now p m) (hsq : sqOK now p x) (hk : k = 3) : (sLook now p k a b).1 = prF (now (20 + p)) x (now (40 + p)) (now (50 + p)) m a b := by
  rw [sk_of ⟨h.1, by omega, by omega, by omega⟩ (by omega) (by omega), if_neg (by omega), if_neg (by omega), if_neg (by omega)]
  unfold prF
  rw [sq_look hok h (Or.inr e) hm hsq, sq_look hok h (Or.inr e) hm hsq, sh_look hok h (Or.inr e) hm hsq]
  generalize now (50 + p) * a = X
  by_cases c : ¬ (0 ≤ a ∧ a < now (40 + p))
  · rw [if_pos c, if_pos c, if_pos (by decide)]
  · rw [if_neg c, if_neg c, if_neg c, if_neg c]
    by_cases c2 : now (1100 + 8 * p + a) = 1
    · rw [if_pos c2, if_pos c2, if_pos (by decide)]
    · rw [if_neg c2, if_neg c2, if_neg c2, if_neg c2, if_neg (show ¬ k = 2 by omega), if_neg (show ¬ (0 : Int) < 0 by decide)]
      by_cases c3 : 0 ≤ b ∧ b < now (50 + p) / 2
      · rw [if_pos c3, if_neg (by omega), if_pos (by omega), if_pos (by omega)]
        rw [show X + (2 * b + 1) = X + 2 * b + 1 by omega]
      · rw [if_neg c3, if_pos (by omega)]
end SL
section HX
variable {D : va_G} {N : Nat → Prop} {G : gh} {now : Int → Int} {p : Int} {a : Nat}
theorem hO.strip (h : hO D N G now p a) (e : now p = 1) : srO D N G now p a := by
  rcases h with ⟨q, -⟩ | ⟨q, -⟩ | ⟨-, h⟩ | ⟨q, -⟩
  · exfalso; omega
  · exfalso; omega
  · exact h
  · exfalso; omega
theorem hO.sheet (h : hO D N G now p a) (e : now p = 2 ∨ now p = 3) : shO N G now p a := by
  rcases h with ⟨q, -⟩ | ⟨q, -⟩ | ⟨q, -⟩ | ⟨-, h⟩
  · exfalso; omega
  · exfalso; omega
  · exfalso; omega
  · exact h
theorem hO.over (h : hO D N G now p a) (e : now p = 4) : G a = some (eO 3 [.int (iI (now (20 + p))), .int (iI (now (10 + p))), .int (iI (now (30 + p)))]) := by
  rcases h with ⟨q, -⟩ | ⟨-, h⟩ | ⟨q, -⟩ | ⟨q, -⟩
  · exfalso; omega
  · exact h.1
  · exfalso; omega
  · exfalso; omega
theorem bO.pair {q f n r c m : Int} {x fc lc : BitVec 64} (h : bO G a q f n r c m x fc lc) (e : q = 2) : G a = some (eO 4 [.int (iI r), .int (iI c), .int (iI m), .long (lB x), .long (lB fc), .long (lB lc), .int (iI f), .int (iI n)]) := by
  rcases h with ⟨q, -⟩ | ⟨-, h⟩
  · exfalso; omega
  · exact h
end HX
theorem shb_0 (k : Int) : shb 0 k = 0 := by
  have e : ∀ x : Int32, ((0 : Int32) >>> x) &&& 1 = 0 := fun x => by
    apply Int32.toBitVec_inj.mp
    simp
  unfold shb
  rw [show iI 0 = 0 from rfl, show iI 1 = 1 from rfl, e]
  rfl
/-- of a letter that isn't paid nothing is torn -/
theorem ts_un {now : Int → Int} {l i : Int} (hok : mOK now) (hl : 0 ≤ l ∧ l < now 1286) (h : now (1467 + l) = 0) : tsR now l i (-1) := by
  refine Or.inr ⟨fun m m0 m1 hm e => ?_, rfl⟩
  have ht := hok.2.2.2.2.2.2.2.2.2.1 l (m / 64) hl.1 hl.2 (by omega) (by omega) h
  unfold tl tq at hm
  rcases (show m % 64 / 32 = 0 ∨ m % 64 / 32 = 1 by omega) with q | q
  · rw [q, show (2127 + 20 * l + 2 * (m / 64) + 0 : Int) = 2127 + 20 * l + 2 * (m / 64) by omega, ht.1, shb_0] at hm
    cases hm
  · rw [q, ht.2.1, shb_0] at hm
    cases hm
theorem dF_1 {now : Int → Int} {w l : Int} (h : now (1467 + l) = 1) : dF now w l = now (dB w + l) := by
  unfold dF
  rw [if_neg (fun q => by omega)]
theorem dF_0 {now : Int → Int} {w l : Int} (hok : mOK now) (hl : 0 ≤ l ∧ l < now 1286) (hw : 1 ≤ w ∧ w ≤ 4) (h : now (1467 + l) = 0) : dF now w l = 0 := by
  have h1 := (hok.2.2.2.2.2.2.1.2.2 l hl.1 hl.2).2.2.2.2.2.2.2.2.1 h
  unfold dF dB
  rcases (show w = 1 ∨ w = 2 ∨ w = 3 ∨ w = 4 by omega) with e | e | e | e
  · rw [if_neg (fun q => by omega), if_pos e, h]
  · rw [if_pos ⟨e, h⟩]
  · rw [if_neg (fun q => by omega), if_neg (by omega), if_neg (by omega), if_pos e, h1.1]
  · rw [if_neg (fun q => by omega), if_neg (by omega), if_neg (by omega), if_neg (by omega), h1.2]
theorem dB_1 : dB 1 = 1467 := rfl
theorem dB_2 : dB 2 = 1287 := rfl
theorem dB_3 : dB 3 = 1347 := rfl
theorem dB_4 : dB 4 = 1407 := rfl
