theorem off_0 {most pays st : Int} {f b : Int → Int} (hm : most < 3000) : (fun x => if most < x then offR most pays st f b x else f x) = f := by
  funext x
  by_cases e : most < x
  · rw [if_pos e]; unfold offR; rw [if_neg (fun q => by omega)]
  · rw [if_neg e]
theorem off_end {most pays st sm : Int} {f b : Int → Int} (h : sm < pays) : (fun x => if sm < x then offR most pays st f b x else f x) = offR most pays st f b := by
  funext x
  by_cases e : sm < x
  · rw [if_pos e]
  · rw [if_neg e]; unfold offR; rw [if_neg (fun q => by omega)]
theorem off_st {most pays st sm : Int} {f b : Int → Int} (h : pays ≤ sm) (hm : sm ≤ most) (hl : b (sm - pays) + st < f sm) : upI (fun x => if sm < x then offR most pays st f b x else f x) sm (b (sm - pays) + st) = (fun x => if sm - 1 < x then offR most pays st f b x else f x) := by
  funext x
  by_cases e : x = sm
  · rw [e, upI_s, if_pos (by omega)]; unfold offR; rw [if_pos ⟨h, hm, hl⟩]
  · rw [upI_n e]
    by_cases e2 : sm < x
    · rw [if_pos e2, if_pos (by omega)]
    · rw [if_neg e2, if_neg (by omega)]
theorem off_no {most pays st sm : Int} {f b : Int → Int} (h : pays ≤ sm) (hm : sm ≤ most) (hl : ¬ b (sm - pays) + st < f sm) : (fun x => if sm < x then offR most pays st f b x else f x) = (fun x => if sm - 1 < x then offR most pays st f b x else f x) := by
  funext x
  by_cases e : x = sm
  · rw [e, if_neg (by omega), if_pos (by omega)]; unfold offR; rw [if_neg (fun q => hl q.2.2)]
  · by_cases e2 : sm < x
    · rw [if_pos e2, if_pos (by omega)]
    · rw [if_neg e2, if_neg (by omega)]

set_option maxRecDepth 20000 in
set_option maxHeartbeats 2000000 in
theorem kX1_offer {D : va_G} {B : Nat → Nat} {row : Int → Int → Int} {most : Int} {G : gh} (hcc : cC D B row most G) (hmost : 0 ≤ most ∧ most < 3000) {i pays stp : Int} (hrw : rwBd row most i) (hi : 0 ≤ i ∧ i ≤ 9) (hp : 0 ≤ pays ∧ pays ≤ 40000) (hst : 0 ≤ stp ∧ stp ≤ 64) : CT ⟨"PostageCounter$Choices", "offer", "([I[III)V"⟩ prog_3_method_5_code 7 none 0 0 0 0 D [.ref (B 1), .ref (B (rB i)), .ref (B (rB (1 + i))), .int (iI pays), .int (iI stp)] G (cR B) (tV (fun G' => cC D B (upI row i (offR most pays stp (row i) (row (1 + i)))) most G')) := by
  refine CT.enter (by decide +kernel) (Nat.le_of_ble_eq_true rfl) (fun F S ret hb hM hI => ?_)
  show V F 7 G 0 0 0 [(0, .ref (B 1)), (1, .ref (B (rB i))), (2, .ref (B (rB (1 + i)))), (3, .int (iI pays)), (4, .int (iI stp))] []
  refine r_aload_n S dX1_offer_0 0 rfl ?_
  refine c_most S hcc gtX1_16_X1 dX1_offer_1 ?_
  refine r_istore (L' := [(5, .int (iI most)), (0, .ref (B 1)), (1, .ref (B (rB i))), (2, .ref (B (rB (1 + i)))), (3, .int (iI pays)), (4, .int (iI stp))]) S dX1_offer_4 (by decide) rfl ?_
  have L6 : ∀ (N : Nat) (Gk : gh) (sm : Int), (1 + sm).toNat < N → (gExt G Gk (cR B)) → (cC D B (upI row i (fun x => if sm < x then offR most pays stp (row i) (row (1 + i)) x else row i x)) most Gk) → (-1 ≤ sm ∧ sm ≤ most) → V F 7 Gk 0 0 6 [(0, .ref (B 1)), (1, .ref (B (rB i))), (2, .ref (B (rB (1 + i)))), (3, .int (iI pays)), (4, .int (iI stp)), (5, .int (iI sm))] [] := by
    intro N
    induction N with
    | zero => intro Gk sm hN; exact absurd hN (Nat.not_lt_zero _)
    | succ N ih6 =>
      intro Gk sm hN6 hxk hck hsm
      refine r_iload S dX1_offer_6 5 rfl ?_
      refine r_iload_n S dX1_offer_8 3 rfl ?_
      refine r_icmp_lt S 44 dX1_offer_9 (by decide) (by omega) (by omega) (fun c9 => ?_) (fun c9 => ?_)
      · skip
        exact ret.tv dX1_offer_44 (by omega) (by omega) (by rw [off_end (show sm < pays by omega)] at hck; exact hck)
      · skip
        have hb1 := hrw (1 + i) (sm - pays) (Or.inr rfl) (by omega) (by omega)
        have hb2 := hrw i sm (Or.inl rfl) (by omega) (by omega)
        refine r_aload_n S dX1_offer_12 2 rfl ?_
        refine r_iload S dX1_offer_13 5 rfl ?_
        refine r_iload_n S dX1_offer_15 3 rfl ?_
        refine r_isub S dX1_offer_16 ?_
        refine c_ld S hck ⟨by omega, by omega⟩ ⟨by omega, by omega⟩ dX1_offer_17 ?_
        have e17 : (upI row i (fun x => if sm < x then offR most pays stp (row i) (row (1 + i)) x else row i x)) (1 + i) (sm - pays) = row (1 + i) (sm - pays) := by rw [upI_n (by omega)]
        rw [e17]
        refine r_iload S dX1_offer_18 4 rfl ?_
        refine r_iadd_e (row (1 + i) (sm - pays) + stp) (by omega) S dX1_offer_20 ?_
        refine r_istore (L' := [(6, .int (iI (row (1 + i) (sm - pays) + stp))), (0, .ref (B 1)), (1, .ref (B (rB i))), (2, .ref (B (rB (1 + i)))), (3, .int (iI pays)), (4, .int (iI stp)), (5, .int (iI sm))]) S dX1_offer_21 (by decide) rfl ?_
        refine r_iload S dX1_offer_23 0 rfl ?_
        refine r_aload_n S dX1_offer_25 2 rfl ?_
        refine r_iload S dX1_offer_26 6 rfl ?_
        refine c_ld S hck ⟨by omega, by omega⟩ ⟨by omega, by omega⟩ dX1_offer_28 ?_
        rw [show (upI row i (fun x => if sm < x then offR most pays stp (row i) (row (1 + i)) x else row i x)) i sm = row i sm by rw [upI_s]; show (if sm < sm then _ else row i sm) = _; rw [if_neg (by omega)]]
        refine r_icmp_ge S 38 dX1_offer_29 (by decide) (by omega) (by omega) (fun c29 => ?_) (fun c29 => ?_)
        · skip
          refine r_iinc_e (L' := [(5, .int (iI (sm - 1))), (6, .int (iI (row (1 + i) (sm - pays) + stp))), (0, .ref (B 1)), (1, .ref (B (rB i))), (2, .ref (B (rB (1 + i)))), (3, .int (iI pays)), (4, .int (iI stp))]) (sm - 1) (by omega) S dX1_offer_38 6 rfl (by decide) rfl ?_
          refine r_goto S 6 dX1_offer_41 (by decide) ?_
          refine V.sub [2, 3, 4, 5, 6, 0] rfl ?_
          exact ih6 Gk (sm - 1) (by omega) hxk (by rw [off_no (show pays ≤ sm by omega) (by omega) (by omega)] at hck; exact hck) (by omega)
        · skip
          refine r_aload_n S dX1_offer_32 2 rfl ?_
          refine r_iload S dX1_offer_33 6 rfl ?_
          refine r_iload S dX1_offer_35 0 rfl ?_
          refine c_st S hb hM hck ⟨by omega, by omega⟩ ⟨by omega, by omega⟩ dX1_offer_37 (fun G37 hx37 hcc37 => ?_)
          have hxc37 := hxk.tr2 hx37
          refine r_iinc_e (L' := [(5, .int (iI (sm - 1))), (6, .int (iI (row (1 + i) (sm - pays) + stp))), (0, .ref (B 1)), (1, .ref (B (rB i))), (2, .ref (B (rB (1 + i)))), (3, .int (iI pays)), (4, .int (iI stp))]) (sm - 1) (by omega) S dX1_offer_38 6 rfl (by decide) rfl ?_
          refine r_goto S 6 dX1_offer_41 (by decide) ?_
          refine V.sub [2, 3, 4, 5, 6, 0] rfl ?_
          exact ih6 G37 (sm - 1) (by omega) hxc37 (by rw [upI_s, upI_up, off_st (show pays ≤ sm by omega) (by omega) (by omega)] at hcc37; rw [show sm - 1 = sm - 1 from rfl]; exact hcc37) (by omega)
  refine V.sub [1, 2, 3, 4, 5, 0] rfl ?_
  exact L6 _ G most (Nat.lt_succ_self _) (gExt.rf) (by rw [off_0 hmost.2]; rw [upI_id]; exact hcc) (by omega)

set_option maxRecDepth 20000 in
set_option maxHeartbeats 2000000 in
theorem kX1_offerS {D : va_G} {B : Nat → Nat} {row : Int → Int → Int} {most : Int} {G : gh} (hcc : cC D B row most G) (hmost : 0 ≤ most ∧ most < 3000) {i pays stp : Int} (hrw : rwBd row most i) (hi : 0 ≤ i ∧ i ≤ 9) (hp : 1 ≤ pays ∧ pays ≤ 40000) (hst : 0 ≤ stp ∧ stp ≤ 64) : CT ⟨"PostageCounter$Choices", "offer", "([I[III)V"⟩ prog_3_method_5_code 7 none 0 0 0 0 D [.ref (B 1), .ref (B (rB i)), .ref (B (rB i)), .int (iI pays), .int (iI stp)] G (cR B) (tV (fun G' => cC D B (upI row i (offR most pays stp (row i) (row i))) most G')) := by
  refine CT.enter (by decide +kernel) (Nat.le_of_ble_eq_true rfl) (fun F S ret hb hM hI => ?_)
  show V F 7 G 0 0 0 [(0, .ref (B 1)), (1, .ref (B (rB i))), (2, .ref (B (rB i))), (3, .int (iI pays)), (4, .int (iI stp))] []
  refine r_aload_n S dX1_offer_0 0 rfl ?_
  refine c_most S hcc gtX1_16_X1 dX1_offer_1 ?_
  refine r_istore (L' := [(5, .int (iI most)), (0, .ref (B 1)), (1, .ref (B (rB i))), (2, .ref (B (rB i))), (3, .int (iI pays)), (4, .int (iI stp))]) S dX1_offer_4 (by decide) rfl ?_
  have L6 : ∀ (N : Nat) (Gk : gh) (sm : Int), (1 + sm).toNat < N → (gExt G Gk (cR B)) → (cC D B (upI row i (fun x => if sm < x then offR most pays stp (row i) (row i) x else row i x)) most Gk) → (-1 ≤ sm ∧ sm ≤ most) → V F 7 Gk 0 0 6 [(0, .ref (B 1)), (1, .ref (B (rB i))), (2, .ref (B (rB i))), (3, .int (iI pays)), (4, .int (iI stp)), (5, .int (iI sm))] [] := by
    intro N
    induction N with
    | zero => intro Gk sm hN; exact absurd hN (Nat.not_lt_zero _)
    | succ N ih6 =>
      intro Gk sm hN6 hxk hck hsm
      refine r_iload S dX1_offer_6 5 rfl ?_
      refine r_iload_n S dX1_offer_8 3 rfl ?_
      refine r_icmp_lt S 44 dX1_offer_9 (by decide) (by omega) (by omega) (fun c9 => ?_) (fun c9 => ?_)
      · skip
        exact ret.tv dX1_offer_44 (by omega) (by omega) (by rw [off_end (show sm < pays by omega)] at hck; exact hck)
      · skip
        have hb1 := hrw i (sm - pays) (Or.inl rfl) (by omega) (by omega)
        have hb2 := hrw i sm (Or.inl rfl) (by omega) (by omega)
        refine r_aload_n S dX1_offer_12 2 rfl ?_
        refine r_iload S dX1_offer_13 5 rfl ?_
        refine r_iload_n S dX1_offer_15 3 rfl ?_
        refine r_isub S dX1_offer_16 ?_
        refine c_ld S hck ⟨by omega, by omega⟩ ⟨by omega, by omega⟩ dX1_offer_17 ?_
        have e17 : (upI row i (fun x => if sm < x then offR most pays stp (row i) (row i) x else row i x)) i (sm - pays) = row i (sm - pays) := by rw [upI_s]; show (if sm < sm - pays then _ else row i (sm - pays)) = _; rw [if_neg (by omega)]
        rw [e17]
        refine r_iload S dX1_offer_18 4 rfl ?_
        refine r_iadd_e (row i (sm - pays) + stp) (by omega) S dX1_offer_20 ?_
        refine r_istore (L' := [(6, .int (iI (row i (sm - pays) + stp))), (0, .ref (B 1)), (1, .ref (B (rB i))), (2, .ref (B (rB i))), (3, .int (iI pays)), (4, .int (iI stp)), (5, .int (iI sm))]) S dX1_offer_21 (by decide) rfl ?_
        refine r_iload S dX1_offer_23 0 rfl ?_
        refine r_aload_n S dX1_offer_25 2 rfl ?_
        refine r_iload S dX1_offer_26 6 rfl ?_
        refine c_ld S hck ⟨by omega, by omega⟩ ⟨by omega, by omega⟩ dX1_offer_28 ?_
        rw [show (upI row i (fun x => if sm < x then offR most pays stp (row i) (row i) x else row i x)) i sm = row i sm by rw [upI_s]; show (if sm < sm then _ else row i sm) = _; rw [if_neg (by omega)]]
        refine r_icmp_ge S 38 dX1_offer_29 (by decide) (by omega) (by omega) (fun c29 => ?_) (fun c29 => ?_)
        · skip
          refine r_iinc_e (L' := [(5, .int (iI (sm - 1))), (6, .int (iI (row i (sm - pays) + stp))), (0, .ref (B 1)), (1, .ref (B (rB i))), (2, .ref (B (rB i))), (3, .int (iI pays)), (4, .int (iI stp))]) (sm - 1) (by omega) S dX1_offer_38 6 rfl (by decide) rfl ?_
          refine r_goto S 6 dX1_offer_41 (by decide) ?_
          refine V.sub [2, 3, 4, 5, 6, 0] rfl ?_
          exact ih6 Gk (sm - 1) (by omega) hxk (by rw [off_no (show pays ≤ sm by omega) (by omega) (by omega)] at hck; exact hck) (by omega)
        · skip
          refine r_aload_n S dX1_offer_32 2 rfl ?_
          refine r_iload S dX1_offer_33 6 rfl ?_
          refine r_iload S dX1_offer_35 0 rfl ?_
          refine c_st S hb hM hck ⟨by omega, by omega⟩ ⟨by omega, by omega⟩ dX1_offer_37 (fun G37 hx37 hcc37 => ?_)
          have hxc37 := hxk.tr2 hx37
          refine r_iinc_e (L' := [(5, .int (iI (sm - 1))), (6, .int (iI (row i (sm - pays) + stp))), (0, .ref (B 1)), (1, .ref (B (rB i))), (2, .ref (B (rB i))), (3, .int (iI pays)), (4, .int (iI stp))]) (sm - 1) (by omega) S dX1_offer_38 6 rfl (by decide) rfl ?_
          refine r_goto S 6 dX1_offer_41 (by decide) ?_
          refine V.sub [2, 3, 4, 5, 6, 0] rfl ?_
          exact ih6 G37 (sm - 1) (by omega) hxc37 (by rw [upI_s, upI_up, off_st (show pays ≤ sm by omega) (by omega) (by omega)] at hcc37; rw [show sm - 1 = sm - 1 from rfl]; exact hcc37) (by omega)
  refine V.sub [1, 2, 3, 4, 5, 0] rfl ?_
  exact L6 _ G most (Nat.lt_succ_self _) (gExt.rf) (by rw [off_0 hmost.2]; rw [upI_id]; exact hcc) (by omega)
