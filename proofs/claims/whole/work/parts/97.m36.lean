set_option maxRecDepth 20000 in
set_option maxHeartbeats 2000000 in
theorem kX10_putNew {D : va_G} {N0 : Nat → Prop} {B : Nat → Nat} {km rd : Int} {now reel : Int → Int} {hist : Int → Int → Int} {G : gh} (hq : cQ D N0 B now hist km rd reel G) (hcN : ∀ b, cM B b → N0 b) (hN : Nok N0 G) (hok : mOK now) (hkm : 0 ≤ km ∧ km ≤ 32) {p : Int} {nw : Int → Int} {oa : Nat} (hp : 0 ≤ p ∧ p < 10) (hnew : hO D N0 G nw p oa) (hne : nw p ≠ -1) (hag : ∀ q : Int, 0 ≤ q → q < 10 → q ≠ p → agP now nw q) (hsm : ∀ j : Int, 1180 ≤ j → j < 3828 → nw j = now j) : CT ⟨"PostageCounter", "putNew", "(ILPostageCounter$Plain;)I"⟩ prog_1_method_33_code 3 (some .int) 3 68 2 14 D [.ref (B 0), .int (iI p), .ref oa] G (cM B) (tI (cEnd D N0 B now hist km rd reel (if now p ≠ -1 then (-4, none) else (nw (10 + p), some nw)))) := by
  refine CT.enter (by decide +kernel) (Nat.le_of_ble_eq_true rfl) (fun F S ret hb hM hI => ?_)
  show V F 3 G 0 0 0 [(0, .ref (B 0)), (1, .int (iI p)), (2, .ref oa)] []
  have hq0 := hq
  obtain ⟨rf, sa, bf, row, most, hcs, hst, hbf, hrf, hmost⟩ := hq
  obtain ⟨pa, la, wa, ea, h1, ⟨pf, hpa, hpf⟩, ⟨lf, gl, hla, hlf, hgl⟩, ⟨wf, hwa, hwf⟩, ⟨ef, hea, hef⟩⟩ := id hst
  have hn86 : 0 ≤ now 1286 ∧ now 1286 ≤ 60 := ⟨hok.2.2.2.2.2.2.1.1, hok.2.2.2.2.2.2.1.2.1⟩
  refine r_aload_n S dX10_putNew_0 0 rfl ?_
  refine x_get_now S hcs gtX10_28_X10 dX10_putNew_1 ?_
  refine r_get S gtX10_66_X7 h1.1 rfl dX10_putNew_4 ?_
  refine r_iload_n S dX10_putNew_7 1 rfl ?_
  rcases hpf p (by omega) (by omega) with ⟨hk8, hf8⟩ | ⟨hk8, b8, hf8, hO8⟩
  · skip
    refine r_aaldN hf8 hpa.1 rfl (by omega) (by omega) (by omega) S dX10_putNew_8 ?_
    refine r_ifnullN S 15 dX10_putNew_9 (by decide) ?_
    refine r_aload_n S dX10_putNew_15 0 rfl ?_
    refine r_aload_n S dX10_putNew_16 0 rfl ?_
    refine x_get_now S hcs gtX10_28_X10 dX10_putNew_17 ?_
    refine r_iload_n S dX10_putNew_20 1 rfl ?_
    refine r_aload_n S dX10_putNew_21 2 rfl ?_
    refine (c_V_T (As := [.int (iI p), .ref oa]) (st := [.ref (B 0)]) S (kX7_withPlace hst hok hN hp hne hnew hag hsm) moX7_withPlace ⟨by decide, by decide⟩ ⟨(by show _ ≤ 2; omega), (by show _ ≤ 14; omega)⟩ rfl (Nat.le_of_ble_eq_true rfl) w194 w195 w196 (h1.1) rfl rfl dX10_putNew_22).goR S hb (fun _ z => z.elim) (fun r22 G22 hx22 hc22 => ?_)
    have hxc22 : gExt G G22 (cM B) := (gLe.ext hx22.le)
    refine (c_V_T (As := [.ref r22]) (st := []) S (kX10_act (cQ.keep (hcs.le hx22.le) hmost hxc22 hcN hst hbf hrf) hcN hc22 hkm) moX10_act ⟨by decide, by decide⟩ ⟨(by show _ ≤ 2; omega), (by show _ ≤ 14; omega)⟩ rfl (Nat.le_of_ble_eq_true rfl) w201 w203 w1 ((hcs.le hx22.le).1) rfl rfl dX10_putNew_25).goV S hb hM (fun G25 hx25 hc25 => ?_)
    have hxc25 := hxc22.tr2 hx25
    refine r_aload_n S dX10_putNew_28 2 rfl ?_
    refine rH_count S (hO.mono hnew (gExt.up hxc25 hcN)) gtX10_122_X0 gtX10_122_X3 gtX10_122_X4 gtX10_122_X6 gtX10_122_X8 dX10_putNew_29 ?_
    exact ret.ti (nw (10 + p)) dX10_putNew_32 (by omega) (by omega) (cEnd.m1 (by rw [if_neg (fun q => q hk8)]) hc25)
  · skip
    refine r_aaldS hf8 hpa.1 rfl (by omega) (by omega) (by omega) S dX10_putNew_8 ?_
    refine r_ifnull S dX10_putNew_9 ?_
    refine r_bipush S dX10_putNew_12 (by decide) ?_
    exact ret.ti (-4) dX10_putNew_14 (by omega) (by omega) (cEnd.m0 (by rw [if_pos hk8]) hq0)

set_option maxRecDepth 20000 in
set_option maxHeartbeats 2000000 in
theorem kX10_pile {D : va_G} {N0 : Nat → Prop} {B : Nat → Nat} {km rd : Int} {now reel : Int → Int} {hist : Int → Int → Int} {G : gh} (hq : cQ D N0 B now hist km rd reel G) (hcN : ∀ b, cM B b → N0 b) (hN : Nok N0 G) (hok : mOK now) (hkm : 0 ≤ km ∧ km ≤ 32) {p f n : Int} (hp : inR p) (hf : inR f) (hn : inR n) : CT ⟨"PostageCounter", "pile", "(III)I"⟩ prog_1_method_2_code 4 (some .int) 4 90 3 24 D [.ref (B 0), .int (iI p), .int (iI f), .int (iI n)] G (cM B) (tI (cEnd D N0 B now hist km rd reel (sPile now p f n))) := by
  refine CT.enter (by decide +kernel) (Nat.le_of_ble_eq_true rfl) (fun F S ret hb hM hI => ?_)
  show V F 4 G 0 0 0 [(0, .ref (B 0)), (1, .int (iI p)), (2, .int (iI f)), (3, .int (iI n))] []
  have hq0 := hq
  obtain ⟨rf, sa, bf, row, most, hcs, hst, hbf, hrf, hmost⟩ := hq
  obtain ⟨pa, la, wa, ea, h1, ⟨pf, hpa, hpf⟩, ⟨lf, gl, hla, hlf, hgl⟩, ⟨wf, hwa, hwf⟩, ⟨ef, hea, hef⟩⟩ := id hst
  have hn86 : 0 ≤ now 1286 ∧ now 1286 ≤ 60 := ⟨hok.2.2.2.2.2.2.1.1, hok.2.2.2.2.2.2.1.2.1⟩
  refine r_iload_n S dX10_pile_0 1 rfl ?_
  refine (c_S_P (As := [.int (iI p)]) (st := []) S (kX10_isPlace (by omega)) moX10_isPlace ⟨by decide, by decide⟩ ⟨(by show _ ≤ 3; omega), (by show _ ≤ 24; omega)⟩ rfl (Nat.le_of_ble_eq_true rfl) w151 w152 rfl dX10_pile_1).goI (fun r1 hc1 => ?_)
  refine r_if_eq S 24 dX10_pile_4 (by decide) (by omega) (fun c4 => ?_) (fun c4 => ?_)
  · skip
    replace hc1 := zz0 hc1 c4
    refine r_bipush S dX10_pile_24 (by decide) ?_
    exact ret.ti (-3) dX10_pile_26 (by omega) (by omega) (cEnd.m0 (by unfold sPile; rw [if_pos (by omega)]) hq0)
  · skip
    replace hc1 := zz1 hc1 c4
    refine r_iload_n S dX10_pile_7 2 rfl ?_
    refine (c_S_P (As := [.int (iI f)]) (st := []) S (kX10_isFace (by omega)) moX10_isFace ⟨by decide, by decide⟩ ⟨(by show _ ≤ 3; omega), (by show _ ≤ 24; omega)⟩ rfl (Nat.le_of_ble_eq_true rfl) w157 w158 rfl dX10_pile_8).goI (fun r8 hc8 => ?_)
    refine r_if_eq S 24 dX10_pile_11 (by decide) (by omega) (fun c11 => ?_) (fun c11 => ?_)
    · skip
      replace hc8 := zz0 hc8 c11
      refine r_bipush S dX10_pile_24 (by decide) ?_
      exact ret.ti (-3) dX10_pile_26 (by omega) (by omega) (cEnd.m0 (by unfold sPile; rw [if_pos (by omega)]) hq0)
    · skip
      replace hc8 := zz1 hc8 c11
      refine r_iload_n S dX10_pile_14 3 rfl ?_
      refine r_iconst S dX10_pile_15 ?_
      refine r_bipush S dX10_pile_16 (by decide) ?_
      refine (c_S_P (As := [.int (iI n), .int (iI 0), .int (iI 60)]) (st := []) S (kX10_within (by omega) (by omega) (by omega)) moX10_within ⟨by decide, by decide⟩ ⟨(by show _ ≤ 3; omega), (by show _ ≤ 24; omega)⟩ rfl (Nat.le_of_ble_eq_true rfl) w154 w155 rfl dX10_pile_18).goI (fun r18 hc18 => ?_)
      refine r_if_ne S 27 dX10_pile_21 (by decide) (by omega) (fun c21 => ?_) (fun c21 => ?_)
      · skip
        replace hc18 := zz1 hc18 c21
        refine r_aload_n S dX10_pile_27 0 rfl ?_
        refine r_iload_n S dX10_pile_28 1 rfl ?_
        refine r_new S hb nwX10_52 (by show _ ≤ 3; omega) (by show _ ≤ 24; omega) dX10_pile_29 (fun a29 hn29 hw29 => ?_)
        have hba29 := hcs.nea hn29
        have hnn29 := hN.new hn29
        refine k_new hn29 (fun G29 hl29 hc29 => ?_)
        have hxc29 : gExt G G29 (cM B) := (gLe.ext hl29)
        refine r_dup S dX10_pile_32 ?_
        refine r_iload_n S dX10_pile_33 2 rfl ?_
        refine r_iload_n S dX10_pile_34 3 rfl ?_
        refine (c_I_T (As := [.int (iI f), .int (iI n)]) (st := [.ref a29, .int (iI p), .ref (B 0)]) (M1 := fun x => x = a29) S (kX6_init_6 (f := f) (n := n) hc29) moX6_init ⟨by decide, by decide⟩ ⟨(by show _ ≤ 3; omega), (by show _ ≤ 24; omega)⟩ rfl (Nat.le_of_ble_eq_true rfl) w161 w162 rfl rfl dX10_pile_35).goV S hb (fun x e => e ▸ hw29) (fun G35 hx35 hc35 => ?_)
        have hxc35 : gExt G G35 (cM B) := fun b e hg hq => hx35 b e (hxc29 b e hg hq) (fun z => gLe.ne hn29 hg z)
        refine (c_V_T (As := [.int (iI p), .ref a29]) (st := []) S (kX10_putNew (cQ.keep ((hcs.le hl29).one hx35 hba29) hmost hxc35 hcN hst hbf hrf) hcN (Nok.cs hN hxc35 ((hcs.le hl29).one hx35 hba29)) hok hkm ⟨by omega, by omega⟩ (hO_plain hc35 hnn29) (by rw [hold_0]; omega) (only_hold.ag ⟨by omega, by omega⟩) (only_hold.hi ⟨by omega, by omega⟩)) moX10_putNew ⟨by decide, by decide⟩ ⟨(by show _ ≤ 3; omega), (by show _ ≤ 24; omega)⟩ rfl (Nat.le_of_ble_eq_true rfl) w190 w192 w0 (((hcs.le hl29).one hx35 hba29).1) rfl rfl dX10_pile_38).goI S hb hM (fun r38 G38 hx38 hc38 => ?_)
        have hxc38 := hxc35.tr2 hx38
        exact ret.ti r38 dX10_pile_41 (by omega) (by omega) (by unfold sPile; rw [if_neg (by omega)]; rw [hold_10] at hc38; exact hc38)
      · skip
        replace hc18 := zz0 hc18 c21
        refine r_bipush S dX10_pile_24 (by decide) ?_
        exact ret.ti (-3) dX10_pile_26 (by omega) (by omega) (cEnd.m0 (by unfold sPile; rw [if_pos (by omega)]) hq0)

set_option maxRecDepth 20000 in
set_option maxHeartbeats 2000000 in
theorem kX10_over {D : va_G} {N0 : Nat → Prop} {B : Nat → Nat} {km rd : Int} {now reel : Int → Int} {hist : Int → Int → Int} {G : gh} (hq : cQ D N0 B now hist km rd reel G) (hcN : ∀ b, cM B b → N0 b) (hN : Nok N0 G) (hok : mOK now) (hkm : 0 ≤ km ∧ km ≤ 32) {p o_ f n : Int} (hp : inR p) (ho_ : inR o_) (hf : inR f) (hn : inR n) : CT ⟨"PostageCounter", "over", "(IIII)I"⟩ prog_1_method_3_code 5 (some .int) 4 90 3 24 D [.ref (B 0), .int (iI p), .int (iI o_), .int (iI f), .int (iI n)] G (cM B) (tI (cEnd D N0 B now hist km rd reel (sOver now p o_ f n))) := by
  refine CT.enter (by decide +kernel) (Nat.le_of_ble_eq_true rfl) (fun F S ret hb hM hI => ?_)
  show V F 5 G 0 0 0 [(0, .ref (B 0)), (1, .int (iI p)), (2, .int (iI o_)), (3, .int (iI f)), (4, .int (iI n))] []
  have hq0 := hq
  obtain ⟨rf, sa, bf, row, most, hcs, hst, hbf, hrf, hmost⟩ := hq
  obtain ⟨pa, la, wa, ea, h1, ⟨pf, hpa, hpf⟩, ⟨lf, gl, hla, hlf, hgl⟩, ⟨wf, hwa, hwf⟩, ⟨ef, hea, hef⟩⟩ := id hst
  have hn86 : 0 ≤ now 1286 ∧ now 1286 ≤ 60 := ⟨hok.2.2.2.2.2.2.1.1, hok.2.2.2.2.2.2.1.2.1⟩
  refine r_iload_n S dX10_over_0 1 rfl ?_
  refine (c_S_P (As := [.int (iI p)]) (st := []) S (kX10_isPlace (by omega)) moX10_isPlace ⟨by decide, by decide⟩ ⟨(by show _ ≤ 3; omega), (by show _ ≤ 24; omega)⟩ rfl (Nat.le_of_ble_eq_true rfl) w151 w152 rfl dX10_over_1).goI (fun r1 hc1 => ?_)
  refine r_if_eq S 32 dX10_over_4 (by decide) (by omega) (fun c4 => ?_) (fun c4 => ?_)
  · skip
    replace hc1 := zz0 hc1 c4
    refine r_bipush S dX10_over_32 (by decide) ?_
    exact ret.ti (-3) dX10_over_34 (by omega) (by omega) (cEnd.m0 (by unfold sOver; rw [if_pos (by omega)]) hq0)
  · skip
    replace hc1 := zz1 hc1 c4
    refine r_iload_n S dX10_over_7 2 rfl ?_
    refine (c_S_P (As := [.int (iI o_)]) (st := []) S (kX10_isFace (by omega)) moX10_isFace ⟨by decide, by decide⟩ ⟨(by show _ ≤ 3; omega), (by show _ ≤ 24; omega)⟩ rfl (Nat.le_of_ble_eq_true rfl) w157 w158 rfl dX10_over_8).goI (fun r8 hc8 => ?_)
    refine r_if_eq S 32 dX10_over_11 (by decide) (by omega) (fun c11 => ?_) (fun c11 => ?_)
    · skip
      replace hc8 := zz0 hc8 c11
      refine r_bipush S dX10_over_32 (by decide) ?_
      exact ret.ti (-3) dX10_over_34 (by omega) (by omega) (cEnd.m0 (by unfold sOver; rw [if_pos (by omega)]) hq0)
    · skip
      replace hc8 := zz1 hc8 c11
      refine r_iload_n S dX10_over_14 3 rfl ?_
      refine (c_S_P (As := [.int (iI f)]) (st := []) S (kX10_isFace (by omega)) moX10_isFace ⟨by decide, by decide⟩ ⟨(by show _ ≤ 3; omega), (by show _ ≤ 24; omega)⟩ rfl (Nat.le_of_ble_eq_true rfl) w157 w158 rfl dX10_over_15).goI (fun r15 hc15 => ?_)
      refine r_if_eq S 32 dX10_over_18 (by decide) (by omega) (fun c18 => ?_) (fun c18 => ?_)
      · skip
        replace hc15 := zz0 hc15 c18
        refine r_bipush S dX10_over_32 (by decide) ?_
        exact ret.ti (-3) dX10_over_34 (by omega) (by omega) (cEnd.m0 (by unfold sOver; rw [if_pos (by omega)]) hq0)
      · skip
        replace hc15 := zz1 hc15 c18
        refine r_iload S dX10_over_21 4 rfl ?_
        refine r_iconst S dX10_over_23 ?_
        refine r_bipush S dX10_over_24 (by decide) ?_
        refine (c_S_P (As := [.int (iI n), .int (iI 0), .int (iI 60)]) (st := []) S (kX10_within (by omega) (by omega) (by omega)) moX10_within ⟨by decide, by decide⟩ ⟨(by show _ ≤ 3; omega), (by show _ ≤ 24; omega)⟩ rfl (Nat.le_of_ble_eq_true rfl) w154 w155 rfl dX10_over_26).goI (fun r26 hc26 => ?_)
        refine r_if_ne S 35 dX10_over_29 (by decide) (by omega) (fun c29 => ?_) (fun c29 => ?_)
        · skip
          replace hc26 := zz1 hc26 c29
          refine r_aload_n S dX10_over_35 0 rfl ?_
          refine r_iload_n S dX10_over_36 1 rfl ?_
          refine r_new S hb nwX10_61 (by show _ ≤ 3; omega) (by show _ ≤ 24; omega) dX10_over_37 (fun a37 hn37 hw37 => ?_)
          have hba37 := hcs.nea hn37
          have hnn37 := hN.new hn37
          refine k_new hn37 (fun G37 hl37 hc37 => ?_)
          have hxc37 : gExt G G37 (cM B) := (gLe.ext hl37)
          refine r_dup S dX10_over_40 ?_
          refine r_iload_n S dX10_over_41 2 rfl ?_
          refine r_iload_n S dX10_over_42 3 rfl ?_
          refine r_iload S dX10_over_43 4 rfl ?_
          refine (c_I_T (As := [.int (iI o_), .int (iI f), .int (iI n)]) (st := [.ref a37, .int (iI p), .ref (B 0)]) (M1 := fun x => x = a37) S (kX3_init (b := o_) (f := f) (n := n) hc37) moX3_init ⟨by decide, by decide⟩ ⟨(by show _ ≤ 3; omega), (by show _ ≤ 24; omega)⟩ rfl (Nat.le_of_ble_eq_true rfl) w211 w212 rfl rfl dX10_over_45).goV S hb (fun x e => e ▸ hw37) (fun G45 hx45 hc45 => ?_)
          have hxc45 : gExt G G45 (cM B) := fun b e hg hq => hx45 b e (hxc37 b e hg hq) (fun z => gLe.ne hn37 hg z)
          refine (c_V_T (As := [.int (iI p), .ref a37]) (st := []) S (kX10_putNew (cQ.keep ((hcs.le hl37).one hx45 hba37) hmost hxc45 hcN hst hbf hrf) hcN (Nok.cs hN hxc45 ((hcs.le hl37).one hx45 hba37)) hok hkm ⟨by omega, by omega⟩ (hO_over hc45 hnn37) (by rw [hold_0]; omega) (only_hold.ag ⟨by omega, by omega⟩) (only_hold.hi ⟨by omega, by omega⟩)) moX10_putNew ⟨by decide, by decide⟩ ⟨(by show _ ≤ 3; omega), (by show _ ≤ 24; omega)⟩ rfl (Nat.le_of_ble_eq_true rfl) w190 w192 w0 (((hcs.le hl37).one hx45 hba37).1) rfl rfl dX10_over_48).goI S hb hM (fun r48 G48 hx48 hc48 => ?_)
          have hxc48 := hxc45.tr2 hx48
          exact ret.ti r48 dX10_over_51 (by omega) (by omega) (by unfold sOver; rw [if_neg (by omega)]; rw [hold_10] at hc48; exact hc48)
        · skip
          replace hc26 := zz0 hc26 c29
          refine r_bipush S dX10_over_32 (by decide) ?_
          exact ret.ti (-3) dX10_over_34 (by omega) (by omega) (cEnd.m0 (by unfold sOver; rw [if_pos (by omega)]) hq0)

set_option maxRecDepth 20000 in
set_option maxHeartbeats 2000000 in
theorem kX10_clear {D : va_G} {N0 : Nat → Prop} {B : Nat → Nat} {km rd : Int} {now reel : Int → Int} {hist : Int → Int → Int} {G : gh} (hq : cQ D N0 B now hist km rd reel G) (hcN : ∀ b, cM B b → N0 b) (hN : Nok N0 G) (hok : mOK now) (hkm : 0 ≤ km ∧ km ≤ 32) {p : Int} (hp : inR p) : CT ⟨"PostageCounter", "clear", "(I)I"⟩ prog_1_method_8_code 2 (some .int) 3 68 2 14 D [.ref (B 0), .int (iI p)] G (cM B) (tI (cEnd D N0 B now hist km rd reel (sClear now p))) := by
  refine CT.enter (by decide +kernel) (Nat.le_of_ble_eq_true rfl) (fun F S ret hb hM hI => ?_)
  show V F 2 G 0 0 0 [(0, .ref (B 0)), (1, .int (iI p))] []
  have hq0 := hq
  obtain ⟨rf, sa, bf, row, most, hcs, hst, hbf, hrf, hmost⟩ := hq
  obtain ⟨pa, la, wa, ea, h1, ⟨pf, hpa, hpf⟩, ⟨lf, gl, hla, hlf, hgl⟩, ⟨wf, hwa, hwf⟩, ⟨ef, hea, hef⟩⟩ := id hst
  have hn86 : 0 ≤ now 1286 ∧ now 1286 ≤ 60 := ⟨hok.2.2.2.2.2.2.1.1, hok.2.2.2.2.2.2.1.2.1⟩
  refine r_iload_n S dX10_clear_0 1 rfl ?_
  refine (c_S_P (As := [.int (iI p)]) (st := []) S (kX10_isPlace (by omega)) moX10_isPlace ⟨by decide, by decide⟩ ⟨(by show _ ≤ 2; omega), (by show _ ≤ 14; omega)⟩ rfl (Nat.le_of_ble_eq_true rfl) w151 w152 rfl dX10_clear_1).goI (fun r1 hc1 => ?_)
  refine r_if_ne S 10 dX10_clear_4 (by decide) (by omega) (fun c4 => ?_) (fun c4 => ?_)
  · skip
    replace hc1 := zz1 hc1 c4
    refine r_aload_n S dX10_clear_10 0 rfl ?_
    refine x_get_now S hcs gtX10_28_X10 dX10_clear_11 ?_
    refine r_get S gtX10_66_X7 h1.1 rfl dX10_clear_14 ?_
    refine r_iload_n S dX10_clear_17 1 rfl ?_
    rcases hpf p (by omega) (by omega) with ⟨hk18, hf18⟩ | ⟨hk18, b18, hf18, hO18⟩
    · skip
      refine r_aaldN hf18 hpa.1 rfl (by omega) (by omega) (by omega) S dX10_clear_18 ?_
      refine r_ifnonnullN S dX10_clear_19 ?_
      refine r_bipush S dX10_clear_22 (by decide) ?_
      exact ret.ti (-11) dX10_clear_24 (by omega) (by omega) (cEnd.m0 (by unfold sClear; rw [if_neg (by omega), if_pos hk18]) hq0)
    · skip
      refine r_aaldS hf18 hpa.1 rfl (by omega) (by omega) (by omega) S dX10_clear_18 ?_
      refine r_ifnonnull S 25 dX10_clear_19 (by decide) ?_
      refine r_aload_n S dX10_clear_25 0 rfl ?_
      refine r_aload_n S dX10_clear_26 0 rfl ?_
      refine x_get_now S hcs gtX10_28_X10 dX10_clear_27 ?_
      refine r_iload_n S dX10_clear_30 1 rfl ?_
      refine r_null S dX10_clear_31 ?_
      refine (c_V_T (As := [.int (iI p), .null]) (st := [.ref (B 0)]) S (kX7_withPlaceN hst hok hN ⟨by omega, by omega⟩ clear_0 (only_clear.ag ⟨by omega, by omega⟩) (only_clear.hi ⟨by omega, by omega⟩)) moX7_withPlace ⟨by decide, by decide⟩ ⟨(by show _ ≤ 2; omega), (by show _ ≤ 14; omega)⟩ rfl (Nat.le_of_ble_eq_true rfl) w194 w195 w196 (h1.1) rfl rfl dX10_clear_32).goR S hb (fun _ z => z.elim) (fun r32 G32 hx32 hc32 => ?_)
      have hxc32 : gExt G G32 (cM B) := (gLe.ext hx32.le)
      refine (c_V_T (As := [.ref r32]) (st := []) S (kX10_act (cQ.keep (hcs.le hx32.le) hmost hxc32 hcN hst hbf hrf) hcN hc32 hkm) moX10_act ⟨by decide, by decide⟩ ⟨(by show _ ≤ 2; omega), (by show _ ≤ 14; omega)⟩ rfl (Nat.le_of_ble_eq_true rfl) w201 w203 w1 ((hcs.le hx32.le).1) rfl rfl dX10_clear_35).goV S hb hM (fun G35 hx35 hc35 => ?_)
      have hxc35 := hxc32.tr2 hx35
      refine r_iconst S dX10_clear_38 ?_
      exact ret.ti 1 dX10_clear_39 (by omega) (by omega) (cEnd.m1 (by unfold sClear; rw [if_neg (by omega), if_neg hk18]) hc35)
  · skip
    replace hc1 := zz0 hc1 c4
    refine r_bipush S dX10_clear_7 (by decide) ?_
    exact ret.ti (-3) dX10_clear_9 (by omega) (by omega) (cEnd.m0 (by unfold sClear; rw [if_pos (by omega)]) hq0)
