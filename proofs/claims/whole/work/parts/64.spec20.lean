/-! sheets of a state -/
theorem sh_ctx {now : Int → Int} {p : Int} {x : BitVec 64} (hok : mOK now) (hp : 0 ≤ p ∧ p < 10) (h : now p = 2 ∨ now p = 3) (hsq : sqOK now p x) : shP (now (40 + p)) (now (50 + p)) ∧ wBP (now p - 1) ∧ (∀ k : Int, 0 ≤ k → k < 64 → bI x k = true → k < now (40 + p) * now (50 + p)) ∧ pairU now p (now p - 1) ∧ (now (40 + p) * now (50 + p)) % (now p - 1) = 0 ∧ (now p - 1 = 2 → now (50 + p) % 2 = 0) := by
  have hr := sh_rc hok.1 hp h
  have hw : wOf now p (now p - 1) := by unfold wOf; omega
  have hC := (hok.2.2.2.2.2.2.2.2.1) p hp.1 hp.2 h
  refine ⟨⟨⟨hr.1, hr.2.1⟩, hr.2.2.1, hr.2.2.2.1⟩, wOf_BP hw, fun k k0 k1 hk => ?_, pairU_of hok.2.2.2.2.2.2.2.2.1 hp hw, wOf_N hok.1 hp h hw, fun e => ?_⟩
  · apply Classical.byContradiction
    intro q
    exact (hsq k k0 k1).mp hk (hC.2.1 k (by omega) k1)
  · exact (hok.1 p hp.1 hp.2).2.2.2.2.2.2.2.2.2.2.2.2.2.2.1 (by omega)
/-- the count of a sheet is the number of its bits -/
theorem cB_count {now : Int → Int} {p : Int} {x : BitVec 64} (hok : mOK now) (hp : 0 ≤ p ∧ p < 10) (h : now p = 2 ∨ now p = 3) (hsq : sqOK now p x) : cB x = now (10 + p) := by
  have hC := (hok.2.2.2.2.2.2.2.2.1) p hp.1 hp.2 h
  have hrc := rc_le hok.1 hp
  rw [hC.1, cB_eq]
  have hz : ∀ n : Nat, (now (40 + p) * now (50 + p)).toNat + n ≤ 64 → sumI (fB x) ((now (40 + p) * now (50 + p)).toNat + n) = sumI (fun k => if now (460 + 64 * p + k) = 0 then 0 else 1) (now (40 + p) * now (50 + p)).toNat := by
    intro n
    induction n with
    | zero =>
      intro _
      refine sumI_cong (fun k k0 k1 => ?_)
      unfold fB
      by_cases e : now (460 + 64 * p + k) = 0
      · rw [if_pos e, if_neg (fun q => (hsq k k0 (by omega)).mp q e)]
      · rw [if_neg e, if_pos ((hsq k k0 (by omega)).mpr e)]
    | succ n ih =>
      intro hle
      show sumI (fB x) ((now (40 + p) * now (50 + p)).toNat + n) + fB x (((now (40 + p) * now (50 + p)).toNat + n : Nat) : Int) = _
      rw [ih (by omega)]
      unfold fB
      rw [if_neg (fun q => (hsq _ (by omega) (by omega)).mp q (hC.2.1 _ (by omega) (by omega)))]
      omega
  have := hz (64 - (now (40 + p) * now (50 + p)).toNat) (by omega)
  rw [show (now (40 + p) * now (50 + p)).toNat + (64 - (now (40 + p) * now (50 + p)).toNat) = 64 by omega] at this
  exact this
theorem pcs_sheet {now : Int → Int} {p : Int} {x : BitVec 64} (hok : mOK now) (hp : 0 ≤ p ∧ p < 10) (h : now p = 2 ∨ now p = 3) (hsq : sqOK now p x) : npc (now (50 + p)) (now (40 + p) * now (50 + p)) (PB x) = pcsF now p := by
  have hrc := rc_le hok.1 hp
  unfold pcsF
  by_cases e : now (10 + p) = 0
  · rw [if_pos e]
    have := cB_count hok hp h hsq
    exact npc_z (cB_z (by omega))
  · rw [if_neg e, if_pos h]
    refine npc_congr (fun k k0 k1 => ?_)
    show bI x k = true ↔ _
    rw [hsq k k0 (by omega)]
    unfold remP
    constructor
    · intro q; exact ⟨q, fun z => by omega⟩
    · intro q; exact q.1
def tgF (now : Int → Int) (p : Int) : Int := if now p = 3 then 2 else 1
theorem give_T {now : Int → Int} {p n : Int} {x z : BitVec 64} (hok : mOK now) (hp : 0 ≤ p ∧ p < 10) (h : now p = 2 ∨ now p = 3) (hsq : sqOK now p x) (hn : 0 ≤ n ∧ n ≤ now (10 + p)) (hev : now p = 3 → n % 2 = 0) (hz : tgR now p (now p - 1) (now (40 + p)) (now (50 + p)) x (n / (now p - 1)) z) : giveT now p n (PB z) := by
  obtain ⟨s1, s2, s3, s4, s5, s6⟩ := sh_ctx hok hp h hsq
  unfold giveT
  by_cases e : n = 0
  · refine Or.inr (Or.inr ⟨fun q => by omega, fun k k0 k1 hk => ?_⟩)
    rcases hz with ⟨-, hz⟩ | ⟨hz, -⟩ | ⟨hz, -⟩ | ⟨hz, -⟩
    · rw [hz] at hk; exact bB_0 hk
    · rw [e] at hz; simp at hz
    · rw [e] at hz; simp at hz
    · rw [e] at hz; simp at hz
  · rcases h with h | h
    · refine Or.inl ⟨by omega, h, ?_⟩
      rw [show now p - 1 = 1 by omega] at hz s2 s4
      rw [show n / 1 = n by omega] at hz
      exact tgR_T s1 s2 hsq s3 s4 rfl rfl (by omega) (fun q => hex_ok hok hp (Or.inl ⟨h, rfl⟩) (by omega) hn.2 (by omega) q) hz
    · have := hev h
      refine Or.inr (Or.inl ⟨by omega, h, ?_⟩)
      rw [show now p - 1 = 2 by omega] at hz s2 s4
      exact tgR_T s1 s2 hsq s3 s4 rfl rfl (by omega) (fun q => hex_ok hok hp (Or.inr ⟨h, rfl⟩) (by omega) hn.2 (by omega) q) hz
theorem CP.weak {y : MethodName} {bytes : ByteArray} {maxL fr lc : Nat} {ret : Option FieldType} {D : va_G} {As : List Value} {G : gh} {post post' : Option Value → Prop} (hC : CP y bytes maxL ret fr lc D As G post) (h : ∀ v, post v → post' v) : CP y bytes maxL ret fr lc D As G post' := by
  intro l p e ha hc hk s m args below hf happ hP ht
  obtain ⟨k, o, h1, h2, h3, hQ, hF⟩ := hC l p e ha hc hk s m args below hf happ hP ht
  obtain ⟨⟨v, rfl, hv⟩, hh⟩ := hQ
  exact ⟨k, _, h1, h2, h3, ⟨⟨v, rfl, h v hv⟩, hh⟩, hF⟩
theorem CT.weak {y : MethodName} {bytes : ByteArray} {maxL fr lc mc ms : Nat} {ret : Option FieldType} {D : va_G} {As : List Value} {G : gh} {M : Nat → Prop} {post post' : Option Value → gh → Prop} (hC : CT y bytes maxL ret fr lc mc ms D As G M post) (h : ∀ v G', gExt G G' M → post v G' → post' v G') : CT y bytes maxL ret fr lc mc ms D As G M post' := by
  intro l sz p e ha hc hk s m args below hf happ hP ht
  obtain ⟨k, o, h1, h2, h3, hQ, hF⟩ := hC l sz p e ha hc hk s m args below hf happ hP ht
  obtain ⟨⟨v, G', rfl, g1, g2, hv⟩, hh⟩ := hQ
  exact ⟨k, _, h1, h2, h3, ⟨⟨v, G', rfl, g1, g2, h v G' g2 hv⟩, hh⟩, hF⟩
