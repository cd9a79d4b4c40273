theorem lack_ref {now : Int → Int} {p i z : Int} (hp : 0 ≤ p ∧ p ≤ 9) (hk : now p ≠ -1) (hs : now p = 2 ∨ now p = 3) (h : z = if ¬ (0 ≤ i ∧ i < now (40 + p)) then -13 else if now (1100 + 8 * p + i) = 1 then -11 else 0) : (z < 0 → sLack now p i = (z, none)) ∧ (¬ z < 0 → (0 ≤ i ∧ i < now (40 + p)) ∧ sLack now p i = (cntP now (460 + 64 * p + now (50 + p) * i) (now (50 + p)).toNat, some (lackF now p i))) := by
  have hp' : ¬ ¬ (0 ≤ p ∧ p ≤ 9) := fun q => q hp
  have hs' : ¬ ¬ (now p = 2 ∨ now p = 3) := fun q => q hs
  unfold sLack
  rw [if_neg hp', if_neg hk, if_neg hs']
  by_cases q : 0 ≤ i ∧ i < now (40 + p)
  · have q' : ¬ ¬ (0 ≤ i ∧ i < now (40 + p)) := fun w => w q
    rw [if_neg q'] at h
    rw [if_neg q']
    by_cases q2 : now (1100 + 8 * p + i) = 1
    · rw [if_pos q2] at h
      rw [if_pos q2, h]
      exact ⟨fun _ => rfl, fun w => absurd (by decide) w⟩
    · rw [if_neg q2] at h
      rw [if_neg q2, h]
      exact ⟨fun w => absurd w (by decide), fun _ => ⟨q, rfl⟩⟩
  · rw [if_pos q] at h
    rw [if_pos q, h]
    exact ⟨fun _ => rfl, fun w => absurd (by decide) w⟩

section VDB2
variable {F : fxT} {cc : ByteArray} {nL : Nat} {own : String} {rm : Room} {D : va_G} {N : Nat → Prop} {G : gh} {ce sl pc idx : Nat} {L : List (Nat × Value)} {st : List Value} {a : Nat}
set_option maxRecDepth 20000 in
theorem vdB_refusalOfRow {q f n r c m : Int} {x fc lc : BitVec 64} {i : Int} (hm : 0 ≤ m ∧ m < 256) (hr : 0 ≤ r ∧ r ≤ 8) (hi : inR i) (S : FX F cc nL own rm D) (hB : bO G a q f n r c m x fc lc) (hlv : 2 ≤ rm.frames ∧ 43 ≤ rm.locals) (hsl : ce + 0 ≤ rm.cells ∧ sl + 0 ≤ rm.slots) (hcat : (st.map fun v => v.category).sum ≤ 8) (hl : Cond.methodLink own idx ⟨"PostageCounter$Block", "refusalOfRow", "(I)I"⟩ ∈ WS) (d : decode cc pc = .ok (.invokevirtual idx, 3)) : RnP F nL G ce sl pc (.int (iI i) :: .ref a :: st) st (pI (fun z => z = refF i r m)) := by
  have hB0 := hB
  rcases hB with ⟨hq, hb⟩ | ⟨hq, hb⟩
  · exact c_V_P (As := [.int (iI i)]) (st := st) S (kX0_refusalOfRow hB0 hm hr hi) moX0_refusalOfRow (show lvl rm 2 1 22 from ⟨by omega, by omega⟩) ⟨by omega, by omega⟩ rfl hcat hl w316 w317 hb rfl rfl d
  · exact c_U_P (C := "PostageCounter$Pair") (owner := "PostageCounter$Block") (x := ⟨"PostageCounter$Block", "refusalOfRow", "(I)I"⟩) (As := [.int (iI i)]) (st := st) S (kX0_refusalOfRow hB0 hm hr hi) moX0_refusalOfRow (show lvl rm 2 1 22 from ⟨by omega, by omega⟩) ⟨by omega, by omega⟩ rfl hcat hl w318 w316 w320 ⟨by decide +kernel, by decide +kernel, by decide +kernel⟩ w316 w319 hb rfl rfl d

set_option maxRecDepth 20000 in
theorem vdB_withoutRow {q f n r c m : Int} {x fc lc : BitVec 64} {i : Int} (hs : shP r c) (hm : 0 ≤ m ∧ m < 256) (hi : 0 ≤ i ∧ i < r) (S : FX F cc nL own rm D) (hB : bO G a q f n r c m x fc lc) (hlv : 6 ≤ rm.frames ∧ 140 ≤ rm.locals) (hsl : ce + 1 ≤ rm.cells ∧ sl + 8 ≤ rm.slots) (hcat : (st.map fun v => v.category).sum ≤ 8) (hl : Cond.methodLink own idx ⟨"PostageCounter$Block", "withoutRow", "(I)LPostageCounter$Block;"⟩ ∈ WS) (d : decode cc pc = .ok (.invokevirtual idx, 3)) : RnT F nL G ce sl pc (.int (iI i) :: .ref a :: st) st 1 8 (fun _ => False) (tR (fun b G' => G b = none ∧ ∃ fc2 lc2 : BitVec 64, bO G' b q f (cB (x &&& nB (rwB c i))) r c (orM m i) (x &&& nB (rwB c i)) fc2 lc2 ∧ fcOK r c fc2 ∧ lcOK r c lc2)) := by
  have hB0 := hB
  rcases hB with ⟨hq, hb⟩ | ⟨hq, hb⟩
  · exact c_V_T (As := [.int (iI i)]) (st := st) S (kX0_withoutRow hB0 hs hm hi) moX0_withoutRow (show lvl rm 4 5 117 from ⟨by omega, by omega⟩) ⟨by omega, by omega⟩ rfl hcat hl w323 w324 hb rfl rfl d
  · exact c_U_T (C := "PostageCounter$Pair") (owner := "PostageCounter$Block") (x := ⟨"PostageCounter$Block", "withoutRow", "(I)LPostageCounter$Block;"⟩) (As := [.int (iI i)]) (st := st) S (kX0_withoutRow hB0 hs hm hi) moX0_withoutRow (show lvl rm 4 5 117 from ⟨by omega, by omega⟩) ⟨by omega, by omega⟩ rfl hcat hl w325 w323 w327 ⟨by decide +kernel, by decide +kernel, by decide +kernel⟩ w323 w326 hb rfl rfl d

end VDB2

set_option maxRecDepth 20000 in
set_option maxHeartbeats 2000000 in
theorem kX10_lack {D : va_G} {N0 : Nat → Prop} {B : Nat → Nat} {km rd : Int} {now reel : Int → Int} {hist : Int → Int → Int} {G : gh} (hq : cQ D N0 B now hist km rd reel G) (hcN : ∀ b, cM B b → N0 b) (hN : Nok N0 G) (hok : mOK now) (hkm : 0 ≤ km ∧ km ≤ 32) {p i : Int} (hp : inR p) (hi : inR i) : CT ⟨"PostageCounter", "lack", "(II)I"⟩ prog_1_method_7_code 7 (some .int) 6 140 3 22 D [.ref (B 0), .int (iI p), .int (iI i)] G (cM B) (tI (cEnd D N0 B now hist km rd reel (sLack now p i))) := by
  refine CT.enter (by decide +kernel) (Nat.le_of_ble_eq_true rfl) (fun F S ret hb hM hI => ?_)
  show V F 7 G 0 0 0 [(0, .ref (B 0)), (1, .int (iI p)), (2, .int (iI i))] []
  have hq0 := hq
  obtain ⟨rf, sa, bf, row, most, hcs, hst, hbf, hrf, hmost⟩ := hq
  obtain ⟨pa, la, wa, ea, h1, ⟨pf, hpa, hpf⟩, ⟨lf, gl, hla, hlf, hgl⟩, ⟨wf, hwa, hwf⟩, ⟨ef, hea, hef⟩⟩ := id hst
  have hn86 : 0 ≤ now 1286 ∧ now 1286 ≤ 60 := ⟨hok.2.2.2.2.2.2.1.1, hok.2.2.2.2.2.2.1.2.1⟩
  refine r_iload_n S dX10_lack_0 1 rfl ?_
  refine (c_S_P (As := [.int (iI p)]) (st := []) S (kX10_isPlace (by omega)) moX10_isPlace ⟨by decide, by decide⟩ ⟨(by show _ ≤ 3; omega), (by show _ ≤ 22; omega)⟩ rfl (Nat.le_of_ble_eq_true rfl) w151 w152 rfl dX10_lack_1).goI (fun r1 hc1 => ?_)
  refine r_if_ne S 10 dX10_lack_4 (by decide) (by omega) (fun c4 => ?_) (fun c4 => ?_)
  · skip
    replace hc1 := zz1 hc1 c4
    refine r_aload_n S dX10_lack_10 0 rfl ?_
    refine x_get_now S hcs gtX10_28_X10 dX10_lack_11 ?_
    refine r_get S gtX10_66_X7 h1.1 rfl dX10_lack_14 ?_
    refine r_iload_n S dX10_lack_17 1 rfl ?_
    rcases hpf p (by omega) (by omega) with ⟨hk18, hf18⟩ | ⟨hk18, b18, hf18, hO18⟩
    · skip
      refine r_aaldN hf18 hpa.1 rfl (by omega) (by omega) (by omega) S dX10_lack_18 ?_
      refine r_astore_nN (L' := [(3, .null), (0, .ref (B 0)), (1, .int (iI p)), (2, .int (iI i))]) S dX10_lack_19 (by decide) rfl ?_
      refine r_aload_nN S dX10_lack_20 0 rfl ?_
      refine r_ifnonnullN S dX10_lack_21 ?_
      refine r_bipush S dX10_lack_24 (by decide) ?_
      exact ret.ti (-11) dX10_lack_26 (by omega) (by omega) (cEnd.m0 (by unfold sLack; rw [if_neg (by omega), if_pos hk18]) hq0)
    · skip
      refine r_aaldS hf18 hpa.1 rfl (by omega) (by omega) (by omega) S dX10_lack_18 ?_
      refine r_astore_n (L' := [(3, .ref b18), (0, .ref (B 0)), (1, .int (iI p)), (2, .int (iI i))]) S dX10_lack_19 (by decide) rfl ?_
      refine r_aload_n S dX10_lack_20 0 rfl ?_
      refine r_ifnonnull S 27 dX10_lack_21 (by decide) ?_
      refine r_aload_n S dX10_lack_27 0 rfl ?_
      refine rH_isB S hO18 w299 dX10_lack_28 (fun i28 => ?_) (fun i28 => ?_)
      · skip
        refine r_if_ne S 37 dX10_lack_31 (by decide) (by omega) (fun c31 => ?_) (fun c31 => absurd c31 (by omega))
        refine r_aload_n S dX10_lack_37 0 rfl ?_
        refine rH_castB S hO18 (by omega) w299 dX10_lack_38 ?_
        refine r_astore (L' := [(4, .ref b18), (3, .ref b18), (0, .ref (B 0)), (1, .int (iI p)), (2, .int (iI i))]) S dX10_lack_41 (by decide) rfl ?_
        refine r_aload S dX10_lack_43 0 rfl ?_
        refine r_iload_n S dX10_lack_45 4 rfl ?_
        have hpp : 0 ≤ p ∧ p < 10 := ⟨by omega, by omega⟩
        obtain ⟨hnn, m, x, fc, lc, hB, hms, hsq, hfc, hlc⟩ := hO18.sheet (by omega)
        have hrc := sh_rc hok.1 hpp (show isShP now p from i28)
        refine (vdB_refusalOfRow (i := i) hms.1 ⟨by omega, by omega⟩ (by omega) (st := []) S hB ⟨by decide, by decide⟩ ⟨(by show _ ≤ 3; omega), (by show _ ≤ 22; omega)⟩ (Nat.le_of_ble_eq_true rfl) w315 dX10_lack_46).goI (fun r46 hc46 => ?_)
        have hrb : -13 ≤ r46 ∧ r46 ≤ 0 := by rw [hc46]; exact refF_bd _ _ _
        have hlr := lack_ref (i := i) (z := r46) ⟨by omega, by omega⟩ hk18 i28 (hc46.trans (sh_look hok hpp i28 hms hsq))
        refine r_istore (L' := [(5, .int (iI r46)), (4, .ref b18), (3, .ref b18), (0, .ref (B 0)), (1, .int (iI p)), (2, .int (iI i))]) S dX10_lack_49 (by decide) rfl ?_
        refine r_iload S dX10_lack_51 0 rfl ?_
        refine r_if_ge S 59 dX10_lack_53 (by decide) (by omega) (fun c53 => ?_) (fun c53 => ?_)
        · skip
          refine r_aload S dX10_lack_59 1 rfl ?_
          refine r_iload_n S dX10_lack_61 5 rfl ?_
          have hir := (hlr.2 (by omega)).1
          refine (vdB_withoutRow (i := i) (sh_ctx hok hpp i28 hsq).1 hms.1 hir (st := []) S hB ⟨by decide, by decide⟩ ⟨(by show _ ≤ 3; omega), (by show _ ≤ 22; omega)⟩ (Nat.le_of_ble_eq_true rfl) w322 dX10_lack_62).goR S hb (fun _ z => z.elim) (fun r62 G62 hx62 hc62 => ?_)
          have hxc62 : gExt G G62 (cM B) := (gLe.ext hx62.le)
          obtain ⟨hf62, fc2, lc2, hB62, hfc2, hlc2⟩ := hc62
          have hlk := hO_lack (D := D) hok hpp i28 hir hms hsq (hN.new hf62) hB62 hfc2 hlc2
          rw [hlk.1] at hB62
          have hcz := lack_C hok hpp i28 hir
          refine r_astore (L' := [(6, .ref r62), (5, .int (iI r46)), (4, .ref b18), (3, .ref b18), (0, .ref (B 0)), (1, .int (iI p)), (2, .int (iI i))]) S dX10_lack_65 (by decide) rfl ?_
          refine r_aload_n S dX10_lack_67 4 rfl ?_
          refine r_aload_n S dX10_lack_68 4 rfl ?_
          refine x_get_now S (hcs.le hx62.le) gtX10_28_X10 dX10_lack_69 ?_
          refine r_iload_n S dX10_lack_72 5 rfl ?_
          refine r_aload S dX10_lack_73 0 rfl ?_
          refine (c_V_T (As := [.int (iI p), .ref r62]) (st := [.ref (B 0)]) S (kX7_withPlace (now' := lackF now p i) (hst.mono (gExt.up hxc62 hcN)) hok (Nok.cs hN hxc62 (hcs.le hx62.le)) hpp (by rw [lack_lo hpp (by omega) hcz.1 (by omega) hir.1]; omega) hlk.2 ((only_lack ⟨hir.1, hcz.2.2.2⟩ ⟨hcz.1, by omega⟩).ag hpp) ((only_lack ⟨hir.1, hcz.2.2.2⟩ ⟨hcz.1, by omega⟩).hi hpp)) moX7_withPlace ⟨by decide, by decide⟩ ⟨(by show _ ≤ 3; omega), (by show _ ≤ 22; omega)⟩ rfl (Nat.le_of_ble_eq_true rfl) w194 w195 w196 ((Im.mono h1 (gExt.up hxc62 hcN)).1) rfl rfl dX10_lack_75).goR S hb (fun _ z => z.elim) (fun r75 G75 hx75 hc75 => ?_)
          have hxc75 := hxc62.tr2 (gLe.ext hx75.le)
          refine (c_V_T (As := [.ref r75]) (st := []) S (kX10_act (cQ.keep ((hcs.le hx62.le).le hx75.le) hmost hxc75 hcN hst hbf hrf) hcN hc75 hkm) moX10_act ⟨by decide, by decide⟩ ⟨(by show _ ≤ 3; omega), (by show _ ≤ 22; omega)⟩ rfl (Nat.le_of_ble_eq_true rfl) w201 w203 w1 (((hcs.le hx62.le).le hx75.le).1) rfl rfl dX10_lack_78).goV S hb hM (fun G78 hx78 hc78 => ?_)
          have hxc78 := hxc75.tr2 hx78
          refine r_aload S dX10_lack_81 2 rfl ?_
          refine rB_count S (hB.mono hnn (gExt.up hxc78 hcN)) gtX10_106_X0 gtX10_106_X4 dX10_lack_83 ?_
          refine r_aload S dX10_lack_86 0 rfl ?_
          refine rB_count S ((hB62.mono (fun z => z) hx75).mono (nM (hcs.nea hf62)) hx78) gtX10_106_X0 gtX10_106_X4 dX10_lack_88 ?_
          refine r_isub_e (now (10 + p) - lackF now p i (10 + p)) (by omega) S dX10_lack_91 ?_
          exact ret.ti (now (10 + p) - lackF now p i (10 + p)) dX10_lack_92 (by omega) (by omega) (cEnd.m1 (by rw [(hlr.2 (by omega)).2, show now (10 + p) - lackF now p i (10 + p) = cntP now (460 + 64 * p + now (50 + p) * i) (now (50 + p)).toNat by rw [lack_10 hpp hcz.1 hir.1]; omega]) hc78)
        · skip
          refine r_iload S dX10_lack_56 0 rfl ?_
          exact ret.ti r46 dX10_lack_58 (by omega) (by omega) (cEnd.m0 (hlr.1 (by omega)) hq0)
      · skip
        refine r_if_ne S 37 dX10_lack_31 (by decide) (by omega) (fun c31 => absurd c31 (by omega)) (fun c31 => ?_)
        refine r_bipush S dX10_lack_34 (by decide) ?_
        exact ret.ti (-12) dX10_lack_36 (by omega) (by omega) (cEnd.m0 (by unfold sLack; rw [if_neg (by omega), if_neg hk18, if_pos i28]) hq0)
  · skip
    replace hc1 := zz0 hc1 c4
    refine r_bipush S dX10_lack_7 (by decide) ?_
    exact ret.ti (-3) dX10_lack_9 (by omega) (by omega) (cEnd.m0 (by unfold sLack; rw [if_pos (by omega)]) hq0)

set_option maxRecDepth 20000 in
set_option maxHeartbeats 2000000 in
theorem kX10_rate {D : va_G} {N0 : Nat → Prop} {B : Nat → Nat} {km rd : Int} {now reel : Int → Int} {hist : Int → Int → Int} {G : gh} (hq : cQ D N0 B now hist km rd reel G) (hcN : ∀ b, cM B b → N0 b) (hN : Nok N0 G) (hok : mOK now) (hkm : 0 ≤ km ∧ km ≤ 32) {way g pr : Int} (hw : inR way) (hg : inR g) (hpr : inR pr) : CT ⟨"PostageCounter", "rate", "(III)I"⟩ prog_1_method_11_code 5 (some .int) 3 68 5 34 D [.ref (B 0), .int (iI way), .int (iI g), .int (iI pr)] G (cM B) (tI (cEnd D N0 B now hist km rd reel (sRate now way g pr))) := by
  refine CT.enter (by decide +kernel) (Nat.le_of_ble_eq_true rfl) (fun F S ret hb hM hI => ?_)
  show V F 5 G 0 0 0 [(0, .ref (B 0)), (1, .int (iI way)), (2, .int (iI g)), (3, .int (iI pr))] []
  have hq0 := hq
  obtain ⟨rf, sa, bf, row, most, hcs, hst, hbf, hrf, hmost⟩ := hq
  obtain ⟨pa, la, wa, ea, h1, ⟨pf, hpa, hpf⟩, ⟨lf, gl, hla, hlf, hgl⟩, ⟨wf, hwa, hwf⟩, ⟨ef, hea, hef⟩⟩ := id hst
  have hn86 : 0 ≤ now 1286 ∧ now 1286 ≤ 60 := ⟨hok.2.2.2.2.2.2.1.1, hok.2.2.2.2.2.2.1.2.1⟩
  refine r_iload_n S dX10_rate_0 1 rfl ?_
  refine (c_S_P (As := [.int (iI way)]) (st := []) S (kX10_isWay (by omega)) moX10_isWay ⟨by decide, by decide⟩ ⟨(by show _ ≤ 5; omega), (by show _ ≤ 34; omega)⟩ rfl (Nat.le_of_ble_eq_true rfl) w432 w433 rfl dX10_rate_1).goI (fun r1 hc1 => ?_)
  refine r_if_ne S 10 dX10_rate_4 (by decide) (by omega) (fun c4 => ?_) (fun c4 => ?_)
  · skip
    replace hc1 := zz1 hc1 c4
    refine r_aload_n S dX10_rate_10 0 rfl ?_
    refine x_get_now S hcs gtX10_28_X10 dX10_rate_11 ?_
    refine r_get S gtX10_139_X7 h1.1 rfl dX10_rate_14 ?_
    refine r_iload_n S dX10_rate_17 1 rfl ?_
    obtain ⟨b18, hf18, hO18⟩ := hwf way (by omega) (by omega)
    obtain ⟨ga18, ra18, gf18, rf18, w18, wg18, wr18, ww18⟩ := id hO18
    refine r_aaldS hf18 hwa.1 rfl (by omega) (by omega) (by omega) S dX10_rate_18 ?_
    refine r_astore (L' := [(4, .ref b18), (0, .ref (B 0)), (1, .int (iI way)), (2, .int (iI g)), (3, .int (iI pr))]) S dX10_rate_19 (by decide) rfl ?_
    have hwp : 0 ≤ way ∧ way < 6 := ⟨by omega, by omega⟩
    have hWi := hok.2.2.2.2.1 way hwp.1 hwp.2
    refine r_iload_n S dX10_rate_21 3 rfl ?_
    refine r_aload S dX10_rate_22 0 rfl ?_
    refine (c_V_P (As := []) (st := [.int (iI g)]) S (kX9_lastGrams hO18 hok hwp) moX9_lastGrams ⟨by decide, by decide⟩ ⟨(by show _ ≤ 5; omega), (by show _ ≤ 34; omega)⟩ rfl (Nat.le_of_ble_eq_true rfl) w435 w436 w437 (w18.1) rfl rfl dX10_rate_24).goI (fun r24 hc24 => ?_)
    have hg0 : 0 ≤ r24 ∧ r24 ≤ 5000 := by rw [hc24]; by_cases q : now (1180 + way) = 0; rw [if_pos q]; exact ⟨by decide, by decide⟩; rw [if_neg q]; have := hWi.2.2 (now (1180 + way) - 1) (by omega) (by omega); omega
    refine r_iconst S dX10_rate_27 ?_
    refine r_iadd_e (1 + r24) (by omega) S dX10_rate_28 ?_
    refine r_sipush S dX10_rate_29 (by decide) ?_
    refine (c_S_P (As := [.int (iI g), .int (iI (1 + r24)), .int (iI 5000)]) (st := []) S (kX10_within (by omega) (by omega) (by omega)) moX10_within ⟨by decide, by decide⟩ ⟨(by show _ ≤ 5; omega), (by show _ ≤ 34; omega)⟩ rfl (Nat.le_of_ble_eq_true rfl) w154 w155 rfl dX10_rate_32).goI (fun r32 hc32 => ?_)
    refine r_if_eq S 55 dX10_rate_35 (by decide) (by omega) (fun c35 => ?_) (fun c35 => ?_)
    · skip
      replace hc32 := zz0 hc32 c35
      refine r_bipush S dX10_rate_55 (by decide) ?_
      exact ret.ti (-3) dX10_rate_57 (by omega) (by omega) (cEnd.m0 (sRate_no hc24 rfl hWi.1 (by omega)) hq0)
    · skip
      replace hc32 := zz1 hc32 c35
      refine r_iload_n S dX10_rate_38 4 rfl ?_
      refine r_aload S dX10_rate_39 0 rfl ?_
      refine (c_V_P (As := []) (st := [.int (iI pr)]) S (kX9_lastPrice hO18 hok hwp) moX9_lastPrice ⟨by decide, by decide⟩ ⟨(by show _ ≤ 5; omega), (by show _ ≤ 34; omega)⟩ rfl (Nat.le_of_ble_eq_true rfl) w439 w440 w441 (w18.1) rfl rfl dX10_rate_41).goI (fun r41 hc41 => ?_)
      have hp0 : 0 ≤ r41 ∧ r41 ≤ 1200 := by rw [hc41]; by_cases q : now (1180 + way) = 0; rw [if_pos q]; exact ⟨by decide, by decide⟩; rw [if_neg q]; have := hWi.2.2 (now (1180 + way) - 1) (by omega) (by omega); omega
      refine r_iconst S dX10_rate_44 ?_
      refine r_iadd_e (1 + r41) (by omega) S dX10_rate_45 ?_
      refine r_sipush S dX10_rate_46 (by decide) ?_
      refine (c_S_P (As := [.int (iI pr), .int (iI (1 + r41)), .int (iI 1200)]) (st := []) S (kX10_within (by omega) (by omega) (by omega)) moX10_within ⟨by decide, by decide⟩ ⟨(by show _ ≤ 5; omega), (by show _ ≤ 34; omega)⟩ rfl (Nat.le_of_ble_eq_true rfl) w154 w155 rfl dX10_rate_49).goI (fun r49 hc49 => ?_)
      refine r_if_ne S 58 dX10_rate_52 (by decide) (by omega) (fun c52 => ?_) (fun c52 => ?_)
      · skip
        replace hc49 := zz1 hc49 c52
        refine r_aload S dX10_rate_58 0 rfl ?_
        refine r_get S gtX10_151_X9 w18.1 rfl dX10_rate_60 ?_
        refine r_bipush S dX10_rate_63 (by decide) ?_
        refine r_icmp_lt S 71 dX10_rate_65 (by decide) (by omega) (by omega) (fun c65 => ?_) (fun c65 => ?_)
        · skip
          refine r_aload_n S dX10_rate_71 1 rfl ?_
          refine r_aload_n S dX10_rate_72 1 rfl ?_
          refine x_get_now S hcs gtX10_28_X10 dX10_rate_73 ?_
          refine r_iload_n S dX10_rate_76 2 rfl ?_
          refine r_aload S dX10_rate_77 0 rfl ?_
          refine r_iload_n S dX10_rate_79 3 rfl ?_
          refine r_iload_n S dX10_rate_80 4 rfl ?_
          refine (c_V_T (As := [.int (iI g), .int (iI pr)]) (st := [.int (iI way), .ref sa, .ref (B 0)]) S (kX9_withStep (now' := rateF now way g pr) hO18 hok hwp hN (by omega) (rate_w hwp hWi.1) rate_g rate_p (rate_own hwp ⟨hWi.1, by omega⟩)) moX9_withStep ⟨by decide, by decide⟩ ⟨(by show _ ≤ 5; omega), (by show _ ≤ 34; omega)⟩ rfl (Nat.le_of_ble_eq_true rfl) w443 w444 w445 (w18.1) rfl rfl dX10_rate_81).goR S hb (fun _ z => z.elim) (fun r81 G81 hx81 hc81 => ?_)
          have hxc81 : gExt G G81 (cM B) := (gLe.ext hx81.le)
          refine (c_V_T (As := [.int (iI way), .ref r81]) (st := [.ref (B 0)]) S (kX7_withWay (hst.mono (gExt.up hxc81 hcN)) hok (Nok.cs hN hxc81 (hcs.le hx81.le)) hwp hc81 (rate_oth hok hwp ⟨hWi.1, by omega⟩) (rate_out hwp ⟨hWi.1, by omega⟩)) moX7_withWay ⟨by decide, by decide⟩ ⟨(by show _ ≤ 5; omega), (by show _ ≤ 34; omega)⟩ rfl (Nat.le_of_ble_eq_true rfl) w449 w450 w451 ((Im.mono h1 (gExt.up hxc81 hcN)).1) rfl rfl dX10_rate_84).goR S hb (fun _ z => z.elim) (fun r84 G84 hx84 hc84 => ?_)
          have hxc84 := hxc81.tr2 (gLe.ext hx84.le)
          refine (c_V_T (As := [.ref r84]) (st := []) S (kX10_act (cQ.keep ((hcs.le hx81.le).le hx84.le) hmost hxc84 hcN hst hbf hrf) hcN hc84 hkm) moX10_act ⟨by decide, by decide⟩ ⟨(by show _ ≤ 5; omega), (by show _ ≤ 34; omega)⟩ rfl (Nat.le_of_ble_eq_true rfl) w201 w203 w1 (((hcs.le hx81.le).le hx84.le).1) rfl rfl dX10_rate_87).goV S hb hM (fun G87 hx87 hc87 => ?_)
          have hxc87 := hxc84.tr2 hx87
          have hq87 := hc87
          obtain ⟨rf2, sa2, bf2, row2, most2, hcs2, hst2, -, -, -⟩ := hc87
          obtain ⟨pa2, la2, wa2, ea2, h12, -, -, ⟨wf2, hwa2, hwf2⟩, -⟩ := hst2
          refine r_aload_n S dX10_rate_90 1 rfl ?_
          refine x_get_now S hcs2 gtX10_28_X10 dX10_rate_91 ?_
          refine r_get S gtX10_139_X7 h12.1 rfl dX10_rate_94 ?_
          refine r_iload_n S dX10_rate_97 2 rfl ?_
          obtain ⟨b98, hf98, hO98⟩ := hwf2 way hwp.1 hwp.2
          obtain ⟨ga98, ra98, gf98, rf98, w98, wx98⟩ := hO98
          refine r_aaldS hf98 hwa2.1 rfl (by omega) (by omega) (by omega) S dX10_rate_98 ?_
          refine r_get S gtX10_151_X9 w98.1 rfl dX10_rate_99 ?_
          exact ret.ti (rateF now way g pr (1180 + way)) dX10_rate_102 (by omega) (by omega) (cEnd.m1 (by rw [sRate_ok hc24 hc41 hWi.1 ⟨by omega, by omega⟩ hg0.1 hp0.1 ⟨by omega, by omega⟩, if_neg (by omega), rate_w hwp hWi.1]) hq87)
        · skip
          refine r_bipush S dX10_rate_68 (by decide) ?_
          exact ret.ti (-5) dX10_rate_70 (by omega) (by omega) (cEnd.m0 (by rw [sRate_ok hc24 hc41 hWi.1 ⟨by omega, by omega⟩ hg0.1 hp0.1 ⟨by omega, by omega⟩, if_pos (by omega)]) hq0)
      · skip
        replace hc49 := zz0 hc49 c52
        refine r_bipush S dX10_rate_55 (by decide) ?_
        exact ret.ti (-3) dX10_rate_57 (by omega) (by omega) (cEnd.m0 (sRate_no hc24 hc41 hWi.1 (by omega)) hq0)
  · skip
    replace hc1 := zz0 hc1 c4
    refine r_bipush S dX10_rate_7 (by decide) ?_
    exact ret.ti (-3) dX10_rate_9 (by omega) (by omega) (cEnd.m0 (by unfold sRate; rw [if_pos (by omega)]) hq0)

set_option maxRecDepth 20000 in
set_option maxHeartbeats 2000000 in
theorem kX10_extra {D : va_G} {N0 : Nat → Prop} {B : Nat → Nat} {km rd : Int} {now reel : Int → Int} {hist : Int → Int → Int} {G : gh} (hq : cQ D N0 B now hist km rd reel G) (hcN : ∀ b, cM B b → N0 b) (hN : Nok N0 G) (hok : mOK now) (hkm : 0 ≤ km ∧ km ≤ 32) {k pr : Int} (hk : inR k) (hpr : inR pr) : CT ⟨"PostageCounter", "extra", "(II)I"⟩ prog_1_method_12_code 4 (some .int) 3 68 2 14 D [.ref (B 0), .int (iI k), .int (iI pr)] G (cM B) (tI (cEnd D N0 B now hist km rd reel (sExtra now k pr))) := by
  refine CT.enter (by decide +kernel) (Nat.le_of_ble_eq_true rfl) (fun F S ret hb hM hI => ?_)
  show V F 4 G 0 0 0 [(0, .ref (B 0)), (1, .int (iI k)), (2, .int (iI pr))] []
  have hq0 := hq
  obtain ⟨rf, sa, bf, row, most, hcs, hst, hbf, hrf, hmost⟩ := hq
  obtain ⟨pa, la, wa, ea, h1, ⟨pf, hpa, hpf⟩, ⟨lf, gl, hla, hlf, hgl⟩, ⟨wf, hwa, hwf⟩, ⟨ef, hea, hef⟩⟩ := id hst
  have hn86 : 0 ≤ now 1286 ∧ now 1286 ≤ 60 := ⟨hok.2.2.2.2.2.2.1.1, hok.2.2.2.2.2.2.1.2.1⟩
  refine r_iload_n S dX10_extra_0 1 rfl ?_
  refine r_iconst S dX10_extra_1 ?_
  refine r_iconst S dX10_extra_2 ?_
  refine (c_S_P (As := [.int (iI k), .int (iI 0), .int (iI 3)]) (st := []) S (kX10_within (by omega) (by omega) (by omega)) moX10_within ⟨by decide, by decide⟩ ⟨(by show _ ≤ 2; omega), (by show _ ≤ 14; omega)⟩ rfl (Nat.le_of_ble_eq_true rfl) w154 w155 rfl dX10_extra_3).goI (fun r3 hc3 => ?_)
  refine r_if_eq S 20 dX10_extra_6 (by decide) (by omega) (fun c6 => ?_) (fun c6 => ?_)
  · skip
    replace hc3 := zz0 hc3 c6
    refine r_bipush S dX10_extra_20 (by decide) ?_
    exact ret.ti (-3) dX10_extra_22 (by omega) (by omega) (cEnd.m0 (by unfold sExtra; rw [if_pos (by omega)]) hq0)
  · skip
    replace hc3 := zz1 hc3 c6
    refine r_iload_n S dX10_extra_9 2 rfl ?_
    refine r_iconst S dX10_extra_10 ?_
    refine r_sipush S dX10_extra_11 (by decide) ?_
    refine (c_S_P (As := [.int (iI pr), .int (iI 0), .int (iI 200)]) (st := []) S (kX10_within (by omega) (by omega) (by omega)) moX10_within ⟨by decide, by decide⟩ ⟨(by show _ ≤ 2; omega), (by show _ ≤ 14; omega)⟩ rfl (Nat.le_of_ble_eq_true rfl) w154 w155 rfl dX10_extra_14).goI (fun r14 hc14 => ?_)
    refine r_if_ne S 23 dX10_extra_17 (by decide) (by omega) (fun c17 => ?_) (fun c17 => ?_)
    · skip
      replace hc14 := zz1 hc14 c17
      refine r_aload_n S dX10_extra_23 0 rfl ?_
      refine x_get_now S hcs gtX10_28_X10 dX10_extra_24 ?_
      refine r_get S gtX10_160_X7 h1.1 rfl dX10_extra_27 ?_
      refine r_iload_n S dX10_extra_30 1 rfl ?_
      refine r_iald S hea.1 (by omega) (by omega) (by omega) dX10_extra_31 ?_
      refine r_istore_n (L' := [(3, .int (iI (ef k))), (0, .ref (B 0)), (1, .int (iI k)), (2, .int (iI pr))]) S dX10_extra_32 (by decide) rfl ?_
      refine r_aload_n S dX10_extra_33 1 rfl ?_
      refine r_aload_n S dX10_extra_34 1 rfl ?_
      refine x_get_now S hcs gtX10_28_X10 dX10_extra_35 ?_
      refine r_iload_n S dX10_extra_38 2 rfl ?_
      refine r_iload_n S dX10_extra_39 3 rfl ?_
      refine (c_V_T (As := [.int (iI k), .int (iI pr)]) (st := [.ref (B 0)]) S (kX7_withExtra (now' := extraF now k pr) hst hok hN ⟨by omega, by omega⟩ extra_k (extra_out ⟨by omega, by omega⟩)) moX7_withExtra ⟨by decide, by decide⟩ ⟨(by show _ ≤ 2; omega), (by show _ ≤ 14; omega)⟩ rfl (Nat.le_of_ble_eq_true rfl) w458 w459 w460 (h1.1) rfl rfl dX10_extra_40).goR S hb (fun _ z => z.elim) (fun r40 G40 hx40 hc40 => ?_)
      have hxc40 : gExt G G40 (cM B) := (gLe.ext hx40.le)
      refine (c_V_T (As := [.ref r40]) (st := []) S (kX10_act (cQ.keep (hcs.le hx40.le) hmost hxc40 hcN hst hbf hrf) hcN hc40 hkm) moX10_act ⟨by decide, by decide⟩ ⟨(by show _ ≤ 2; omega), (by show _ ≤ 14; omega)⟩ rfl (Nat.le_of_ble_eq_true rfl) w201 w203 w1 ((hcs.le hx40.le).1) rfl rfl dX10_extra_43).goV S hb hM (fun G43 hx43 hc43 => ?_)
      have hxc43 := hxc40.tr2 hx43
      refine r_iload_n S dX10_extra_46 0 rfl ?_
      exact ret.ti (ef k) dX10_extra_47 (by omega) (by omega) (cEnd.m1 (by unfold sExtra; rw [if_neg (by omega), hef k (by omega) (by omega)]) hc43)
    · skip
      replace hc14 := zz0 hc14 c17
      refine r_bipush S dX10_extra_20 (by decide) ?_
      exact ret.ti (-3) dX10_extra_22 (by omega) (by omega) (cEnd.m0 (by unfold sExtra; rw [if_pos (by omega)]) hq0)

theorem sPrice_R2 {now : Int → Int} {way ex z : Int} {w : UInt32} (hok : mOK now) (h : sPrice now way w ex z) : (-3 ≤ z ∧ z ≤ 2000) ∧ inR z := by
  have he := exSum_bd hok.2.2.2.2.2.1 ex
  rcases h with ⟨a, b⟩ | ⟨a, k, k0, k1, k2, k3, b⟩ | ⟨a, k3, b⟩
  · omega
  · have hW := (hok.2.2.2.2.1 way a.1 (by have := a.2.1; omega)).2.2 k k0 k1
    omega
  · omega

set_option maxRecDepth 20000 in
set_option maxHeartbeats 2000000 in
theorem kX10_letter {D : va_G} {N0 : Nat → Prop} {B : Nat → Nat} {km rd : Int} {now reel : Int → Int} {hist : Int → Int → Int} {G : gh} (hq : cQ D N0 B now hist km rd reel G) (hcN : ∀ b, cM B b → N0 b) (hN : Nok N0 G) (hok : mOK now) (hkm : 0 ≤ km ∧ km ≤ 32) {way ex : Int} {wt : UInt32} (hw : inR way) (hex : inR ex) : CT ⟨"PostageCounter", "letter", "(IFI)I"⟩ prog_1_method_15_code 6 (some .int) 3 67 3 72 D [.ref (B 0), .int (iI way), .float wt, .int (iI ex)] G (cM B) (tI (fun z G' => ∃ r, sLetter now way wt ex r ∧ cEnd D N0 B now hist km rd reel r z G')) := by
  refine CT.enter (by decide +kernel) (Nat.le_of_ble_eq_true rfl) (fun F S ret hb hM hI => ?_)
  show V F 6 G 0 0 0 [(0, .ref (B 0)), (1, .int (iI way)), (2, .float wt), (3, .int (iI ex))] []
  have hq0 := hq
  obtain ⟨rf, sa, bf, row, most, hcs, hst, hbf, hrf, hmost⟩ := hq
  obtain ⟨pa, la, wa, ea, h1, ⟨pf, hpa, hpf⟩, ⟨lf, gl, hla, hlf, hgl⟩, ⟨wf, hwa, hwf⟩, ⟨ef, hea, hef⟩⟩ := id hst
  have hn86 : 0 ≤ now 1286 ∧ now 1286 ≤ 60 := ⟨hok.2.2.2.2.2.2.1.1, hok.2.2.2.2.2.2.1.2.1⟩
  refine r_aload_n S dX10_letter_0 0 rfl ?_
  refine r_iload_n S dX10_letter_1 1 rfl ?_
  refine r_fload_n S dX10_letter_2 2 rfl ?_
  refine r_iload_n S dX10_letter_3 3 rfl ?_
  refine (c_V_P (As := [.int (iI way), .float wt, .int (iI ex)]) (st := []) S (kX10_price hq0 hok (by omega) (by omega)) moX10_price ⟨by decide, by decide⟩ ⟨(by show _ ≤ 3; omega), (by show _ ≤ 72; omega)⟩ rfl (Nat.le_of_ble_eq_true rfl) w489 w474 w475 (hcs.1) rfl rfl dX10_letter_4).goI (fun r4 hc4 => ?_)
  have hpb := sPrice_R2 hok hc4
  refine r_istore (L' := [(4, .int (iI r4)), (0, .ref (B 0)), (1, .int (iI way)), (2, .float wt), (3, .int (iI ex))]) S dX10_letter_7 (by decide) rfl ?_
  refine r_iload S dX10_letter_9 0 rfl ?_
  refine r_if_ge S 17 dX10_letter_11 (by decide) (by omega) (fun c11 => ?_) (fun c11 => ?_)
  · skip
    refine r_aload_n S dX10_letter_17 1 rfl ?_
    refine x_get_now S hcs gtX10_28_X10 dX10_letter_18 ?_
    refine r_get S gtX10_185_X7 h1.1 rfl dX10_letter_21 ?_
    refine r_alenQ S hla.1 rfl dX10_letter_24 ?_
    rw [show (((now 1286).toNat : Nat) : Int) = now 1286 from Int.toNat_of_nonneg hn86.1]
    refine r_istore (L' := [(5, .int (iI (now 1286))), (4, .int (iI r4)), (0, .ref (B 0)), (1, .int (iI way)), (2, .float wt), (3, .int (iI ex))]) S dX10_letter_25 (by decide) rfl ?_
    refine r_iload S dX10_letter_27 0 rfl ?_
    refine r_bipush S dX10_letter_29 (by decide) ?_
    refine r_icmp_lt S 37 dX10_letter_31 (by decide) (by omega) (by omega) (fun c31 => ?_) (fun c31 => ?_)
    · skip
      refine r_aload_n S dX10_letter_37 2 rfl ?_
      refine r_aload_n S dX10_letter_38 2 rfl ?_
      refine x_get_now S hcs gtX10_28_X10 dX10_letter_39 ?_
      refine r_new S hb nwX10_189 (by show _ ≤ 3; omega) (by show _ ≤ 72; omega) dX10_letter_42 (fun a42 hn42 hw42 => ?_)
      have hba42 := hcs.nea hn42
      have hnn42 := hN.new hn42
      refine k_new hn42 (fun G42 hl42 hc42 => ?_)
      have hxc42 : gExt G G42 (cM B) := (gLe.ext hl42)
      refine r_dup S dX10_letter_45 ?_
      refine r_iload S dX10_letter_46 1 rfl ?_
      refine r_null S dX10_letter_48 ?_
      refine (c_I_T (As := [.int (iI r4), .null]) (st := [.ref a42, .ref sa, .ref (B 0)]) (M1 := fun x => x = a42) S (kX2_initN (pr := r4) hc42) moX2_init ⟨by decide, by decide⟩ ⟨(by show _ ≤ 3; omega), (by show _ ≤ 72; omega)⟩ rfl (Nat.le_of_ble_eq_true rfl) w491 w492 rfl rfl dX10_letter_49).goV S hb (fun x e => e ▸ hw42) (fun G49 hx49 hc49 => ?_)
      have hxc49 : gExt G G49 (cM B) := fun b e hg hq => hx49 b e (hxc42 b e hg hq) (fun z => gLe.ne hn42 hg z)
      refine (c_V_T (As := [.ref a42]) (st := [.ref (B 0)]) S (kX7_withLetter (now' := letterF now r4) (hst.mono (gExt.up hxc49 hcN)) hok (Nok.cs hN hxc49 ((hcs.le hl42).one hx49 hba42)) hc49 (Or.inl ⟨let_0 (by omega) (by omega), by rw [let_pr]; exact ⟨hc49, hnn42⟩, fun _ => rfl⟩) (let_86 hn86.1) (let_ag ⟨hn86.1, by omega⟩) (fun fc f0 f1 => let_hi ⟨hn86.1, by omega⟩ _ (by omega)) (let_lo ⟨hn86.1, by omega⟩)) moX7_withLetter ⟨by decide, by decide⟩ ⟨(by show _ ≤ 3; omega), (by show _ ≤ 72; omega)⟩ rfl (Nat.le_of_ble_eq_true rfl) w505 w506 w507 ((Im.mono h1 (gExt.up hxc49 hcN)).1) rfl rfl dX10_letter_52).goR S hb (fun _ z => z.elim) (fun r52 G52 hx52 hc52 => ?_)
      have hxc52 := hxc49.tr2 (gLe.ext hx52.le)
      refine (c_V_T (As := [.ref r52]) (st := []) S (kX10_act (cQ.keep (((hcs.le hl42).one hx49 hba42).le hx52.le) hmost hxc52 hcN hst hbf hrf) hcN hc52 hkm) moX10_act ⟨by decide, by decide⟩ ⟨(by show _ ≤ 3; omega), (by show _ ≤ 72; omega)⟩ rfl (Nat.le_of_ble_eq_true rfl) w201 w203 w1 ((((hcs.le hl42).one hx49 hba42).le hx52.le).1) rfl rfl dX10_letter_55).goV S hb hM (fun G55 hx55 hc55 => ?_)
      have hxc55 := hxc52.tr2 hx55
      refine r_iload S dX10_letter_58 0 rfl ?_
      exact ret.ti (now 1286) dX10_letter_60 (by omega) (by omega) ⟨(now 1286, some (letterF now r4)), ⟨r4, hc4, by rw [if_neg (by omega), if_neg (by omega)]⟩, cEnd.m1 rfl hc55⟩
    · skip
      refine r_bipush S dX10_letter_34 (by decide) ?_
      exact ret.ti (-5) dX10_letter_36 (by omega) (by omega) ⟨(-5, none), ⟨r4, hc4, by rw [if_neg (by omega), if_pos (by omega)]⟩, cEnd.m0 rfl hq0⟩
  · skip
    refine r_iload S dX10_letter_14 0 rfl ?_
    exact ret.ti r4 dX10_letter_16 (by omega) (by omega) ⟨(r4, none), ⟨r4, hc4, by rw [if_pos (by omega)]⟩, cEnd.m0 rfl hq0⟩
