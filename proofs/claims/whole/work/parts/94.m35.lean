set_option maxRecDepth 20000 in
set_option maxHeartbeats 2000000 in
theorem kX10_act {D : va_G} {N0 : Nat → Prop} {B : Nat → Nat} {km rd : Int} {now reel : Int → Int} {hist : Int → Int → Int} {G : gh} (hq : cQ D N0 B now hist km rd reel G) (hcN : ∀ b, cM B b → N0 b) {nw : Int → Int} {t : Nat} (ht : stO D N0 G nw t) (hkm : 0 ≤ km ∧ km ≤ 32) : CT ⟨"PostageCounter", "act", "(LPostageCounter$State;)V"⟩ prog_1_method_34_code 3 none 0 0 0 0 D [.ref (B 0), .ref t] G (cM B) (tV (fun G' => cQ D N0 B nw (pushH now hist) (kmF km) rd reel G')) := by
  refine CT.enter (by decide +kernel) (Nat.le_of_ble_eq_true rfl) (fun F S ret hb hM hI => ?_)
  show V F 3 G 0 0 0 [(0, .ref (B 0)), (1, .ref t)] []
  have hq0 := hq
  obtain ⟨rf, sa, bf, row, most, hcs, hst, hbf, hrf, hmost⟩ := hq
  obtain ⟨tv, htv, htn⟩ := ht.objN
  obtain ⟨sv, hsv, hsn⟩ := hst.objN
  have htm : ¬ cM B t := fun z => htn (hcN _ z)
  have hsm : ¬ cM B sa := fun z => hsn (hcN _ z)
  refine r_aload_n S dX10_act_0 0 rfl ?_
  refine x_get_acts S hcs gtX10_38_X10 dX10_act_1 ?_
  refine r_bipush S dX10_act_4 (by decide) ?_
  refine r_icmp_lt S 43 dX10_act_6 (by decide) (by omega) (by omega) (fun c6 => ?_) (fun c6 => ?_)
  · skip
    refine r_aload_n S dX10_act_43 0 rfl ?_
    refine x_get_before S hcs gtX10_34_X10 dX10_act_44 ?_
    refine r_aload_n S dX10_act_47 0 rfl ?_
    refine x_get_acts S hcs gtX10_38_X10 dX10_act_48 ?_
    refine r_aload_n S dX10_act_51 0 rfl ?_
    refine x_get_now S hcs gtX10_28_X10 dX10_act_52 ?_
    refine x_st_bef S hb hM hcs hsv ⟨by omega, by omega⟩ dX10_act_55 (fun G55 hx55 hcs55 => ?_)
    have hxc55 : gExt G G55 (cM B) := hx55
    refine r_aload_n S dX10_act_56 0 rfl ?_
    refine r_dup S dX10_act_57 ?_
    refine x_get_acts S hcs55 gtX10_38_X10 dX10_act_58 ?_
    refine r_iconst S dX10_act_61 ?_
    refine r_iadd_e (1 + km) (by omega) S dX10_act_62 ?_
    refine x_put_acts S hb hM hcs55 ptX10_38_X10 dX10_act_63 (fun G63 hx63 hcs63 => ?_)
    have hxc63 := hxc55.tr2 hx63
    refine r_aload_n S dX10_act_66 0 rfl ?_
    refine r_aload_n S dX10_act_67 1 rfl ?_
    refine x_put_now S hb hM hcs63 ptX10_28_X10 dX10_act_68 (fun G68 hx68 hcs68 => ?_)
    have hxc68 := hxc63.tr2 hx68
    exact ret.tv dX10_act_71 (by omega) (by omega) ⟨rf, t, _, row, most, (by have h := hcs68; unfold kmF; rw [if_pos (by omega)]; exact h), ht.mono (gExt.up hxc68 hcN), act_h1 hst hbf (gExt.up hxc68 hcN) hkm.1 (by omega), hrf, hmost⟩
  · skip
    refine r_iconst S dX10_act_9 ?_
    refine r_istore_n (L' := [(2, .int (iI 1)), (0, .ref (B 0)), (1, .ref t)]) S dX10_act_10 (by decide) rfl ?_
    have L11 : ∀ (N : Nat) (Gk : gh) (i : Int), (32 - i).toNat < N → (gExt G Gk (cM B)) → (cS D B rd km rf sa (shB bf i) row most Gk) → (1 ≤ i ∧ i ≤ 32) → V F 3 Gk 0 0 11 [(0, .ref (B 0)), (1, .ref t), (2, .int (iI i))] [] := by
      intro N
      induction N with
      | zero => intro Gk i hN; exact absurd hN (Nat.not_lt_zero _)
      | succ N ih11 =>
        intro Gk i hN11 hxk hck hi
        refine r_iload_n S dX10_act_11 2 rfl ?_
        refine r_bipush S dX10_act_12 (by decide) ?_
        refine r_icmp_ge S 37 dX10_act_14 (by decide) (by omega) (by omega) (fun c14 => ?_) (fun c14 => ?_)
        · skip
          have e32 : i = 32 := by omega
          rw [e32] at hck
          refine r_aload_n S dX10_act_37 0 rfl ?_
          refine r_bipush S dX10_act_38 (by decide) ?_
          refine x_put_acts S hb hM hck ptX10_38_X10 dX10_act_40 (fun G40 hx40 hcs40 => ?_)
          have hxc40 := hxk.tr2 hx40
          refine r_aload_n S dX10_act_43 0 rfl ?_
          refine x_get_before S hcs40 gtX10_34_X10 dX10_act_44 ?_
          refine r_aload_n S dX10_act_47 0 rfl ?_
          refine x_get_acts S hcs40 gtX10_38_X10 dX10_act_48 ?_
          refine r_aload_n S dX10_act_51 0 rfl ?_
          refine x_get_now S hcs40 gtX10_28_X10 dX10_act_52 ?_
          refine x_st_bef S hb hM hcs40 (hxc40 _ _ hsv hsm) ⟨by omega, by omega⟩ dX10_act_55 (fun G55 hx55 hcs55 => ?_)
          have hxc55 := hxc40.tr2 hx55
          refine r_aload_n S dX10_act_56 0 rfl ?_
          refine r_dup S dX10_act_57 ?_
          refine x_get_acts S hcs55 gtX10_38_X10 dX10_act_58 ?_
          refine r_iconst S dX10_act_61 ?_
          refine r_iadd_e 32 (by omega) S dX10_act_62 ?_
          refine x_put_acts S hb hM hcs55 ptX10_38_X10 dX10_act_63 (fun G63 hx63 hcs63 => ?_)
          have hxc63 := hxc55.tr2 hx63
          refine r_aload_n S dX10_act_66 0 rfl ?_
          refine r_aload_n S dX10_act_67 1 rfl ?_
          refine x_put_now S hb hM hcs63 ptX10_28_X10 dX10_act_68 (fun G68 hx68 hcs68 => ?_)
          have hxc68 := hxc63.tr2 hx68
          exact ret.tv dX10_act_71 (by omega) (by omega) ⟨rf, t, _, row, most, (by have h := hcs68; unfold kmF; rw [if_neg (by omega)]; exact h), ht.mono (gExt.up hxc68 hcN), act_h2 hst hbf (gExt.up hxc68 hcN) (by omega), hrf, hmost⟩
        · skip
          refine r_aload_n S dX10_act_17 0 rfl ?_
          refine x_get_before S hck gtX10_34_X10 dX10_act_18 ?_
          refine r_iload_n S dX10_act_21 2 rfl ?_
          refine r_iconst S dX10_act_22 ?_
          refine r_isub S dX10_act_23 ?_
          refine r_aload_n S dX10_act_24 0 rfl ?_
          refine x_get_before S hck gtX10_34_X10 dX10_act_25 ?_
          refine r_iload_n S dX10_act_28 2 rfl ?_
          obtain ⟨b29, hf29, hs29⟩ := hbf (km - i - 1) (by omega) (by omega)
          rw [show km - 1 - (km - i - 1) = i by omega] at hf29
          have hg29 : (shB bf i) i = some b29 := by rw [shB_at bf (by omega)]; exact hf29
          obtain ⟨vs29, hv29⟩ := (hs29.mono (gExt.up hxk hcN)).obj
          refine r_aaldS hg29 hck.2.2.2 rfl (by omega) (by omega) (by omega) S dX10_act_29 ?_
          refine x_st_bef S hb hM hck hv29 ⟨by omega, by omega⟩ dX10_act_30 (fun G30 hx30 hcs30 => ?_)
          have hxc30 := hxk.tr2 hx30
          refine r_iinc_e (L' := [(2, .int (iI (1 + i))), (0, .ref (B 0)), (1, .ref t)]) (1 + i) (by omega) S dX10_act_31 2 rfl (by decide) rfl ?_
          refine r_goto S 11 dX10_act_34 (by decide) ?_
          refine V.sub [1, 2, 0] rfl ?_
          exact ih11 G30 (1 + i) (by omega) hxc30 (by have h := hcs30; rw [shB_s hf29 (by omega)] at h; exact h) (by omega)
    refine V.sub [1, 2, 0] rfl ?_
    exact L11 _ G 1 (Nat.lt_succ_self _) gExt.rf (by rw [shB_1]; exact hcs) (by omega)

set_option maxRecDepth 20000 in
set_option maxHeartbeats 2000000 in
theorem kX10_undo {D : va_G} {N0 : Nat → Prop} {B : Nat → Nat} {km rd : Int} {now reel : Int → Int} {hist : Int → Int → Int} {G : gh} (hq : cQ D N0 B now hist km rd reel G) (hcN : ∀ b, cM B b → N0 b)  (hkm : 0 ≤ km ∧ km ≤ 32) : CT ⟨"PostageCounter", "undo", "()I"⟩ prog_1_method_24_code 1 (some .int) 0 0 0 0 D [.ref (B 0)] G (cM B) (tI (fun z G' => (km = 0 ∧ z = -1 ∧ cQ D N0 B now hist km rd reel G') ∨ (km ≠ 0 ∧ z = km - 1 ∧ cQ D N0 B (hist 0) (fun i => hist (1 + i)) (km - 1) rd reel G'))) := by
  refine CT.enter (by decide +kernel) (Nat.le_of_ble_eq_true rfl) (fun F S ret hb hM hI => ?_)
  show V F 1 G 0 0 0 [(0, .ref (B 0))] []
  have hq0 := hq
  obtain ⟨rf, sa, bf, row, most, hcs, hst, hbf, hrf, hmost⟩ := hq
  refine r_aload_n S dX10_undo_0 0 rfl ?_
  refine x_get_acts S hcs gtX10_38_X10 dX10_undo_1 ?_
  refine r_if_gt S 9 dX10_undo_4 (by decide) (by omega) (fun c4 => ?_) (fun c4 => ?_)
  · skip
    refine r_aload_n S dX10_undo_9 0 rfl ?_
    refine r_dup S dX10_undo_10 ?_
    refine x_get_acts S hcs gtX10_38_X10 dX10_undo_11 ?_
    refine r_iconst S dX10_undo_14 ?_
    refine r_isub S dX10_undo_15 ?_
    refine x_put_acts S hb hM hcs ptX10_38_X10 dX10_undo_16 (fun G16 hx16 hcs16 => ?_)
    have hxc16 : gExt G G16 (cM B) := hx16
    refine r_aload_n S dX10_undo_19 0 rfl ?_
    refine r_aload_n S dX10_undo_20 0 rfl ?_
    refine x_get_before S hcs16 gtX10_34_X10 dX10_undo_21 ?_
    refine r_aload_n S dX10_undo_24 0 rfl ?_
    refine x_get_acts S hcs16 gtX10_38_X10 dX10_undo_25 ?_
    obtain ⟨b28, hf28, hs28⟩ := hbf 0 (by omega) (by omega)
    rw [show km - 1 - 0 = km - 1 by omega] at hf28
    obtain ⟨vs28, hv28⟩ := (hs28.mono (gExt.up hxc16 hcN)).obj
    refine r_aaldS hf28 hcs16.2.2.2 rfl (by omega) (by omega) (by omega) S dX10_undo_28 ?_
    refine x_put_now S hb hM hcs16 ptX10_28_X10 dX10_undo_29 (fun G29 hx29 hcs29 => ?_)
    have hxc29 := hxc16.tr2 hx29
    refine r_aload_n S dX10_undo_32 0 rfl ?_
    refine x_get_acts S hcs29 gtX10_38_X10 dX10_undo_33 ?_
    exact ret.ti (km - 1) dX10_undo_36 (by omega) (by omega) (Or.inr ⟨by omega, rfl, rf, b28, bf, row, most, hcs29, (hs28.mono (gExt.up hxc29 hcN)), und_h hbf (gExt.up hxc29 hcN), hrf, hmost⟩)
  · skip
    refine r_iconst S dX10_undo_7 ?_
    exact ret.ti (-1) dX10_undo_8 (by omega) (by omega) (Or.inl ⟨by omega, rfl, hq0⟩)

set_option maxRecDepth 20000 in
set_option maxHeartbeats 2000000 in
theorem kX10_reel {D : va_G} {N0 : Nat → Prop} {B : Nat → Nat} {km rd : Int} {now reel : Int → Int} {hist : Int → Int → Int} {G : gh} (hq : cQ D N0 B now hist km rd reel G) (hcN : ∀ b, cM B b → N0 b) (hrd : 0 ≤ rd ∧ rd ≤ 40) {f : Int} (hf : inR f) : CT ⟨"PostageCounter", "reel", "(I)I"⟩ prog_1_method_4_code 2 (some .int) 2 42 0 0 D [.ref (B 0), .int (iI f)] G (cM B) (tI (fun z G' => z = sReel rd f ∧ if z < 0 then cQ D N0 B now hist km rd reel G' else cQ D N0 B now hist km (1 + rd) (upI reel rd f) G')) := by
  refine CT.enter (by decide +kernel) (Nat.le_of_ble_eq_true rfl) (fun F S ret hb hM hI => ?_)
  show V F 2 G 0 0 0 [(0, .ref (B 0)), (1, .int (iI f))] []
  have hq0 := hq
  obtain ⟨rf, sa, bf, row, most, hcs, hst, hbf, hrf, hmost⟩ := hq
  refine r_iload_n S dX10_reel_0 1 rfl ?_
  refine (c_S_P (As := [.int (iI f)]) (st := []) S (kX10_isFace (by omega)) moX10_isFace ⟨by decide, by decide⟩ ⟨(by show _ ≤ 0; omega), (by show _ ≤ 0; omega)⟩ rfl (Nat.le_of_ble_eq_true rfl) w157 w158 rfl dX10_reel_1).goI (fun r1 hc1 => ?_)
  refine r_if_ne S 10 dX10_reel_4 (by decide) (by omega) (fun c4 => ?_) (fun c4 => ?_)
  · skip
    replace hc1 := zz1 hc1 c4
    refine r_aload_n S dX10_reel_10 0 rfl ?_
    refine x_get_reelCount S hcs gtX10_20_X10 dX10_reel_11 ?_
    refine r_bipush S dX10_reel_14 (by decide) ?_
    refine r_icmp_lt S 22 dX10_reel_16 (by decide) (by omega) (by omega) (fun c16 => ?_) (fun c16 => ?_)
    · skip
      refine r_aload_n S dX10_reel_22 0 rfl ?_
      refine x_get_reelFaces S hcs gtX10_16_X10 dX10_reel_23 ?_
      refine r_aload_n S dX10_reel_26 0 rfl ?_
      refine x_get_reelCount S hcs gtX10_20_X10 dX10_reel_27 ?_
      refine r_iload_n S dX10_reel_30 1 rfl ?_
      refine x_st_reel S hb hM hcs ⟨by omega, by omega⟩ dX10_reel_31 (fun G31 hx31 hcs31 => ?_)
      have hxc31 : gExt G G31 (cM B) := hx31
      refine r_aload_n S dX10_reel_32 0 rfl ?_
      refine r_dup S dX10_reel_33 ?_
      refine x_get_reelCount S hcs31 gtX10_20_X10 dX10_reel_34 ?_
      refine r_iconst S dX10_reel_37 ?_
      refine r_iadd_e (1 + rd) (by omega) S dX10_reel_38 ?_
      refine x_put_reelCount S hb hM hcs31 ptX10_20_X10 dX10_reel_39 (fun G39 hx39 hcs39 => ?_)
      have hxc39 := hxc31.tr2 hx39
      refine r_aload_n S dX10_reel_42 0 rfl ?_
      refine x_get_reelCount S hcs39 gtX10_20_X10 dX10_reel_43 ?_
      exact ret.ti (1 + rd) dX10_reel_46 (by omega) (by omega) ⟨by unfold sReel; rw [if_neg (by omega), if_neg (by omega)], by rw [if_neg (by omega)]; exact ⟨_, sa, bf, row, most, hcs39, hst.mono (gExt.up hxc39 hcN), hb_mono hbf (gExt.up hxc39 hcN), rl_up hrf, hmost⟩⟩
    · skip
      refine r_bipush S dX10_reel_19 (by decide) ?_
      exact ret.ti (-5) dX10_reel_21 (by omega) (by omega) ⟨by unfold sReel; rw [if_neg (by omega), if_pos (by omega)], by rw [if_pos (by omega)]; exact hq0⟩
  · skip
    replace hc1 := zz0 hc1 c4
    refine r_bipush S dX10_reel_7 (by decide) ?_
    exact ret.ti (-3) dX10_reel_9 (by omega) (by omega) ⟨by unfold sReel; rw [if_pos (by omega)], by rw [if_pos (by omega)]; exact hq0⟩
