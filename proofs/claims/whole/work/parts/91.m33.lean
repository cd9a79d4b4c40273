section VDB
variable {F : fxT} {cc : ByteArray} {nL : Nat} {own : String} {rm : Room} {D : va_G} {N : Nat → Prop} {G : gh} {ce sl pc idx : Nat} {L : List (Nat × Value)} {st : List Value} {a : Nat}
set_option maxRecDepth 20000 in
theorem vdB_squareAt {q f n r c m : Int} {x fc lc : BitVec 64} {i j : Int} (hm : 0 ≤ m ∧ m < 256) (hr : 0 ≤ r ∧ r ≤ 8) (hc : 1 ≤ c ∧ c ≤ 8) (hi : inR i) (hj : inR j) (S : FX F cc nL own rm D) (hB : bO G a q f n r c m x fc lc) (hlv : 3 ≤ rm.frames ∧ 66 ≤ rm.locals) (hsl : ce + 0 ≤ rm.cells ∧ sl + 0 ≤ rm.slots) (hcat : (st.map fun v => v.category).sum ≤ 8) (hl : Cond.methodLink own idx ⟨"PostageCounter$Block", "squareAt", "(II)I"⟩ ∈ WS) (d : decode cc pc = .ok (.invokevirtual idx, 3)) : RnP F nL G ce sl pc (.int (iI j) :: .int (iI i) :: .ref a :: st) st (pI (fun z => z = sqrF f x r c m i j)) := by
  have hB0 := hB
  rcases hB with ⟨hq, hb⟩ | ⟨hq, hb⟩
  · exact c_V_P (As := [.int (iI i), .int (iI j)]) (st := st) S (kX0_squareAt hB0 hm hr hc hi hj) moX0_squareAt (show lvl rm 4 2 43 from ⟨by omega, by omega⟩) ⟨by omega, by omega⟩ rfl hcat hl w355 w356 hb rfl rfl d
  · exact c_U_P (C := "PostageCounter$Pair") (owner := "PostageCounter$Block") (x := ⟨"PostageCounter$Block", "squareAt", "(II)I"⟩) (As := [.int (iI i), .int (iI j)]) (st := st) S (kX0_squareAt hB0 hm hr hc hi hj) moX0_squareAt (show lvl rm 4 2 43 from ⟨by omega, by omega⟩) ⟨by omega, by omega⟩ rfl hcat hl w357 w355 w359 ⟨by decide +kernel, by decide +kernel, by decide +kernel⟩ w355 w358 hb rfl rfl d

end VDB

set_option maxRecDepth 20000 in
set_option maxHeartbeats 2000000 in
theorem kX10_look {D : va_G} {N0 : Nat → Prop} {B : Nat → Nat} {km rd : Int} {now reel : Int → Int} {hist : Int → Int → Int} {G : gh} (hq : cQ D N0 B now hist km rd reel G) (hok : mOK now) {p k a b : Int} (hp : inR p) (hkk : inR k) (ha : inR a) (hb0 : inR b) : CP ⟨"PostageCounter", "look", "(IIII)I"⟩ prog_1_method_9_code 6 (some .int) 4 89 D [.ref (B 0), .int (iI p), .int (iI k), .int (iI a), .int (iI b)] G (pI (fun z => z = (sLook now p k a b).1)) := by
  refine CP.enter (by decide +kernel) (Nat.le_of_ble_eq_true rfl) (fun F S ret => ?_)
  show V F 6 G 0 0 0 [(0, .ref (B 0)), (1, .int (iI p)), (2, .int (iI k)), (3, .int (iI a)), (4, .int (iI b))] []
  have hq0 := hq
  obtain ⟨rf, sa, bf, row, most, hcs, hst, hbf, hrf, hmost⟩ := hq
  obtain ⟨pa, la, wa, ea, h1, ⟨pf, hpa, hpf⟩, ⟨lf, gl, hla, hlf, hgl⟩, ⟨wf, hwa, hwf⟩, ⟨ef, hea, hef⟩⟩ := id hst
  have hn86 : 0 ≤ now 1286 ∧ now 1286 ≤ 60 := ⟨hok.2.2.2.2.2.2.1.1, hok.2.2.2.2.2.2.1.2.1⟩
  refine r_iload_n S dX10_look_0 1 rfl ?_
  refine (c_S_P (As := [.int (iI p)]) (st := []) S (kX10_isPlace (by omega)) moX10_isPlace ⟨by decide, by decide⟩ ⟨by omega, by omega⟩ rfl (Nat.le_of_ble_eq_true rfl) w151 w152 rfl dX10_look_1).goI (fun r1 hc1 => ?_)
  refine r_if_eq S 16 dX10_look_4 (by decide) (by omega) (fun c4 => ?_) (fun c4 => ?_)
  · skip
    replace hc1 := zz0 hc1 c4
    refine r_bipush S dX10_look_16 (by decide) ?_
    exact ret.i (-3) dX10_look_18 (sk_bad (by omega)).symm
  · skip
    replace hc1 := zz1 hc1 c4
    refine r_iload_n S dX10_look_7 2 rfl ?_
    refine r_iconst S dX10_look_8 ?_
    refine r_iconst S dX10_look_9 ?_
    refine (c_S_P (As := [.int (iI k), .int (iI 0), .int (iI 4)]) (st := []) S (kX10_within (by omega) (by omega) (by omega)) moX10_within ⟨by decide, by decide⟩ ⟨by omega, by omega⟩ rfl (Nat.le_of_ble_eq_true rfl) w154 w155 rfl dX10_look_10).goI (fun r10 hc10 => ?_)
    refine r_if_ne S 19 dX10_look_13 (by decide) (by omega) (fun c13 => ?_) (fun c13 => ?_)
    · skip
      replace hc10 := zz1 hc10 c13
      refine r_aload_n S dX10_look_19 0 rfl ?_
      refine x_get_now S hcs gtX10_28_X10 dX10_look_20 ?_
      refine r_get S gtX10_66_X7 h1.1 rfl dX10_look_23 ?_
      refine r_iload_n S dX10_look_26 1 rfl ?_
      rcases hpf p (by omega) (by omega) with ⟨hk27, hf27⟩ | ⟨hk27, b27, hf27, hO27⟩
      · skip
        refine r_aaldN hf27 hpa.1 rfl (by omega) (by omega) (by omega) S dX10_look_27 ?_
        refine r_astoreN (L' := [(5, .null), (0, .ref (B 0)), (1, .int (iI p)), (2, .int (iI k)), (3, .int (iI a)), (4, .int (iI b))]) S dX10_look_28 (by decide) rfl ?_
        refine r_aloadN S dX10_look_30 0 rfl ?_
        refine r_ifnonnullN S dX10_look_32 ?_
        refine r_bipush S dX10_look_35 (by decide) ?_
        exact ret.i (-11) dX10_look_37 (sk_no ⟨by omega, by omega, by omega, by omega⟩ hk27).symm
      · skip
        refine r_aaldS hf27 hpa.1 rfl (by omega) (by omega) (by omega) S dX10_look_27 ?_
        refine r_astore (L' := [(5, .ref b27), (0, .ref (B 0)), (1, .int (iI p)), (2, .int (iI k)), (3, .int (iI a)), (4, .int (iI b))]) S dX10_look_28 (by decide) rfl ?_
        refine r_aload S dX10_look_30 0 rfl ?_
        refine r_ifnonnull S 38 dX10_look_32 (by decide) ?_
        refine r_iload_n S dX10_look_38 3 rfl ?_
        rcases Classical.em (k = 1) with k39_1 | k39_1
        · refine r_tsw 1 68 S dX10_look_39 k39_1 (by decide) rfl (by decide) ?_
          refine r_aload S dX10_look_68 0 rfl ?_
          refine rH_isS S hO27 w230 dX10_look_70 (fun i70 => ?_) (fun i70 => ?_)
          · skip
            refine r_if_eq S 88 dX10_look_73 (by decide) (by omega) (fun c73 => ?_) (fun c73 => ?_)
            · skip
              refine r_bipush S dX10_look_88 (by decide) ?_
              exact ret.i (-12) dX10_look_90 (sk_12 ⟨by omega, by omega, by omega, by omega⟩ hk27 (by omega)).symm
            · skip
              refine r_aload S dX10_look_76 0 rfl ?_
              refine rH_castS S hO27 (by omega) w230 dX10_look_78 ?_
              refine r_iload_n S dX10_look_81 4 rfl ?_
              obtain ⟨fa, sf, s1, s2, s3⟩ := hO27.strip (by omega)
              have hKi := hok.1 p (by omega) (by omega)
              refine (c_V_P (As := [.int (iI a)]) (st := []) S (kX8_stampAt s1.1 s2.1 s3 (by omega) ⟨by omega, by omega⟩ (by omega)) moX8_stampAt ⟨by decide, by decide⟩ ⟨by omega, by omega⟩ rfl (Nat.le_of_ble_eq_true rfl) w349 w350 w351 s1.1 rfl rfl dX10_look_82).goI (fun r82 hc82 => ?_)
              refine r_goto S 90 dX10_look_85 (by decide) ?_
              exact ret.i r82 dX10_look_90 (hc82.trans (sk_1 ⟨by omega, by omega⟩ (by omega) (by omega)).symm)
          · skip
            refine r_if_eq S 88 dX10_look_73 (by decide) (by omega) (fun c73 => ?_) (fun c73 => ?_)
            · skip
              refine r_bipush S dX10_look_88 (by decide) ?_
              exact ret.i (-12) dX10_look_90 (sk_12 ⟨by omega, by omega, by omega, by omega⟩ hk27 (by omega)).symm
            · skip
              refine r_aload S dX10_look_76 0 rfl ?_
              refine rH_castS S hO27 (by omega) w230 dX10_look_78 ?_
              refine r_iload_n S dX10_look_81 4 rfl ?_
              obtain ⟨fa, sf, s1, s2, s3⟩ := hO27.strip (by omega)
              have hKi := hok.1 p (by omega) (by omega)
              refine (c_V_P (As := [.int (iI a)]) (st := []) S (kX8_stampAt s1.1 s2.1 s3 (by omega) ⟨by omega, by omega⟩ (by omega)) moX8_stampAt ⟨by decide, by decide⟩ ⟨by omega, by omega⟩ rfl (Nat.le_of_ble_eq_true rfl) w349 w350 w351 s1.1 rfl rfl dX10_look_82).goI (fun r82 hc82 => ?_)
              refine r_goto S 90 dX10_look_85 (by decide) ?_
              exact ret.i r82 dX10_look_90 (hc82.trans (sk_1 ⟨by omega, by omega⟩ (by omega) (by omega)).symm)
        rcases Classical.em (k = 2) with k39_2 | k39_2
        · refine r_tsw 2 91 S dX10_look_39 k39_2 (by decide) rfl (by decide) ?_
          refine r_aload S dX10_look_91 0 rfl ?_
          refine rH_isB S hO27 w299 dX10_look_93 (fun i93 => ?_) (fun i93 => ?_)
          · skip
            refine r_if_eq S 113 dX10_look_96 (by decide) (by omega) (fun c96 => ?_) (fun c96 => ?_)
            · skip
              refine r_bipush S dX10_look_113 (by decide) ?_
              exact ret.i (-12) dX10_look_115 (sk_12 ⟨by omega, by omega, by omega, by omega⟩ hk27 (by omega)).symm
            · skip
              refine r_aload S dX10_look_99 0 rfl ?_
              refine rH_castB S hO27 (by omega) w299 dX10_look_101 ?_
              refine r_iload_n S dX10_look_104 4 rfl ?_
              refine r_iload S dX10_look_105 5 rfl ?_
              obtain ⟨hnn, m, x, fc, lc, hB, hms, hsq, hfc, hlc⟩ := hO27.sheet (by omega)
              have hrc := sh_rc hok.1 ⟨by omega, by omega⟩ (show isShP now p from (by omega : now p = 2 ∨ now p = 3))
              have hKi := hok.1 p (by omega) (by omega)
              refine (vdB_squareAt (i := a) (j := b) (st := []) hms.1 ⟨by omega, by omega⟩ ⟨by omega, by omega⟩ (by omega) (by omega) S hB ⟨by decide, by decide⟩ ⟨by omega, by omega⟩ (Nat.le_of_ble_eq_true rfl) w354 dX10_look_107).goI (fun r107 hc107 => ?_)
              refine r_goto S 115 dX10_look_110 (by decide) ?_
              exact ret.i r107 dX10_look_115 (hc107.trans (sk_2 ⟨by omega, by omega⟩ hok (by omega) hms hsq (by omega)).symm)
          · skip
            refine r_if_eq S 113 dX10_look_96 (by decide) (by omega) (fun c96 => ?_) (fun c96 => ?_)
            · skip
              refine r_bipush S dX10_look_113 (by decide) ?_
              exact ret.i (-12) dX10_look_115 (sk_12 ⟨by omega, by omega, by omega, by omega⟩ hk27 (by omega)).symm
            · skip
              refine r_aload S dX10_look_99 0 rfl ?_
              refine rH_castB S hO27 (by omega) w299 dX10_look_101 ?_
              refine r_iload_n S dX10_look_104 4 rfl ?_
              refine r_iload S dX10_look_105 5 rfl ?_
              obtain ⟨hnn, m, x, fc, lc, hB, hms, hsq, hfc, hlc⟩ := hO27.sheet (by omega)
              have hrc := sh_rc hok.1 ⟨by omega, by omega⟩ (show isShP now p from (by omega : now p = 2 ∨ now p = 3))
              have hKi := hok.1 p (by omega) (by omega)
              refine (vdB_squareAt (i := a) (j := b) (st := []) hms.1 ⟨by omega, by omega⟩ ⟨by omega, by omega⟩ (by omega) (by omega) S hB ⟨by decide, by decide⟩ ⟨by omega, by omega⟩ (Nat.le_of_ble_eq_true rfl) w354 dX10_look_107).goI (fun r107 hc107 => ?_)
              refine r_goto S 115 dX10_look_110 (by decide) ?_
              exact ret.i r107 dX10_look_115 (hc107.trans (sk_2 ⟨by omega, by omega⟩ hok (by omega) hms hsq (by omega)).symm)
        rcases Classical.em (k = 3) with k39_3 | k39_3
        · refine r_tsw 3 116 S dX10_look_39 k39_3 (by decide) rfl (by decide) ?_
          refine r_aload S dX10_look_116 0 rfl ?_
          refine rH_isP S hO27 w254 dX10_look_118 (fun i118 => ?_) (fun i118 => ?_)
          · skip
            refine r_if_eq S 138 dX10_look_121 (by decide) (by omega) (fun c121 => ?_) (fun c121 => ?_)
            · skip
              refine r_bipush S dX10_look_138 (by decide) ?_
              exact ret.i (-12) dX10_look_140 (sk_12 ⟨by omega, by omega, by omega, by omega⟩ hk27 (by omega)).symm
            · skip
              refine r_aload S dX10_look_124 0 rfl ?_
              refine rH_castP S hO27 (by omega) w254 dX10_look_126 ?_
              refine r_iload_n S dX10_look_129 4 rfl ?_
              refine r_iload S dX10_look_130 5 rfl ?_
              obtain ⟨hnn, m, x, fc, lc, hB, hms, hsq, hfc, hlc⟩ := hO27.sheet (by omega)
              have hrc := sh_rc hok.1 ⟨by omega, by omega⟩ (show isShP now p from (by omega : now p = 2 ∨ now p = 3))
              have hKi := hok.1 p (by omega) (by omega)
              have hb4 := hB.pair (by omega)
              refine (c_V_P (As := [.int (iI a), .int (iI b)]) (st := []) S (kX4_pairAt hb4 hms.1 ⟨by omega, by omega⟩ ⟨by omega, by omega⟩ (by omega) (by omega)) moX4_pairAt ⟨by decide, by decide⟩ ⟨by omega, by omega⟩ rfl (Nat.le_of_ble_eq_true rfl) w361 w362 w363 hb4 rfl rfl dX10_look_132).goI (fun r132 hc132 => ?_)
              refine r_goto S 140 dX10_look_135 (by decide) ?_
              exact ret.i r132 dX10_look_140 (hc132.trans (sk_3 ⟨by omega, by omega⟩ hok (by omega) hms hsq (by omega)).symm)
          · skip
            refine r_if_eq S 138 dX10_look_121 (by decide) (by omega) (fun c121 => ?_) (fun c121 => ?_)
            · skip
              refine r_bipush S dX10_look_138 (by decide) ?_
              exact ret.i (-12) dX10_look_140 (sk_12 ⟨by omega, by omega, by omega, by omega⟩ hk27 (by omega)).symm
            · skip
              refine r_aload S dX10_look_124 0 rfl ?_
              refine rH_castP S hO27 (by omega) w254 dX10_look_126 ?_
              refine r_iload_n S dX10_look_129 4 rfl ?_
              refine r_iload S dX10_look_130 5 rfl ?_
              obtain ⟨hnn, m, x, fc, lc, hB, hms, hsq, hfc, hlc⟩ := hO27.sheet (by omega)
              have hrc := sh_rc hok.1 ⟨by omega, by omega⟩ (show isShP now p from (by omega : now p = 2 ∨ now p = 3))
              have hKi := hok.1 p (by omega) (by omega)
              have hb4 := hB.pair (by omega)
              refine (c_V_P (As := [.int (iI a), .int (iI b)]) (st := []) S (kX4_pairAt hb4 hms.1 ⟨by omega, by omega⟩ ⟨by omega, by omega⟩ (by omega) (by omega)) moX4_pairAt ⟨by decide, by decide⟩ ⟨by omega, by omega⟩ rfl (Nat.le_of_ble_eq_true rfl) w361 w362 w363 hb4 rfl rfl dX10_look_132).goI (fun r132 hc132 => ?_)
              refine r_goto S 140 dX10_look_135 (by decide) ?_
              exact ret.i r132 dX10_look_140 (hc132.trans (sk_3 ⟨by omega, by omega⟩ hok (by omega) hms hsq (by omega)).symm)
        rcases Classical.em (k = 4) with k39_4 | k39_4
        · refine r_tsw 4 141 S dX10_look_39 k39_4 (by decide) rfl (by decide) ?_
          refine r_aload S dX10_look_141 0 rfl ?_
          refine rH_isO S hO27 w209 dX10_look_143 (fun i143 => ?_) (fun i143 => ?_)
          · skip
            refine r_if_eq S 160 dX10_look_146 (by decide) (by omega) (fun c146 => ?_) (fun c146 => ?_)
            · skip
              refine r_bipush S dX10_look_160 (by decide) ?_
              exact ret.i (-12) dX10_look_162 (sk_12 ⟨by omega, by omega, by omega, by omega⟩ hk27 (by omega)).symm
            · skip
              refine r_aload S dX10_look_149 0 rfl ?_
              refine rH_castO S hO27 (by omega) w209 dX10_look_151 ?_
              refine r_get S gtX10_119_X3 (hO.over hO27 (by omega)) rfl dX10_look_154 ?_
              refine r_goto S 162 dX10_look_157 (by decide) ?_
              exact ret.i (now (30 + p)) dX10_look_162 (sk_4 ⟨by omega, by omega⟩ (by omega) (by omega)).symm
          · skip
            refine r_if_eq S 160 dX10_look_146 (by decide) (by omega) (fun c146 => ?_) (fun c146 => ?_)
            · skip
              refine r_bipush S dX10_look_160 (by decide) ?_
              exact ret.i (-12) dX10_look_162 (sk_12 ⟨by omega, by omega, by omega, by omega⟩ hk27 (by omega)).symm
            · skip
              refine r_aload S dX10_look_149 0 rfl ?_
              refine rH_castO S hO27 (by omega) w209 dX10_look_151 ?_
              refine r_get S gtX10_119_X3 (hO.over hO27 (by omega)) rfl dX10_look_154 ?_
              refine r_goto S 162 dX10_look_157 (by decide) ?_
              exact ret.i (now (30 + p)) dX10_look_162 (sk_4 ⟨by omega, by omega⟩ (by omega) (by omega)).symm
        refine r_tswD 163 S dX10_look_39 (by omega) (by omega) (by decide) ?_
        refine r_aload S dX10_look_163 0 rfl ?_
        refine rH_count S hO27 gtX10_122_X0 gtX10_122_X3 gtX10_122_X4 gtX10_122_X6 gtX10_122_X8 dX10_look_165 ?_
        exact ret.i (now (10 + p)) dX10_look_168 (sk_0 ⟨by omega, by omega⟩ hk27 (by omega)).symm
    · skip
      replace hc10 := zz0 hc10 c13
      refine r_bipush S dX10_look_16 (by decide) ?_
      exact ret.i (-3) dX10_look_18 (sk_bad (by omega)).symm

set_option maxRecDepth 20000 in
set_option maxHeartbeats 2000000 in
theorem kX10_holding {D : va_G} {N0 : Nat → Prop} {B : Nat → Nat} {km rd : Int} {now reel : Int → Int} {hist : Int → Int → Int} {G : gh} (hq : cQ D N0 B now hist km rd reel G) (hok : mOK now) {p w : Int} (hp : inR p) (hw : inR w) : CP ⟨"PostageCounter", "holding", "(II)I"⟩ prog_1_method_10_code 4 (some .int) 3 75 D [.ref (B 0), .int (iI p), .int (iI w)] G (pI (fun z => z = sHold now p w)) := by
  refine CP.enter (by decide +kernel) (Nat.le_of_ble_eq_true rfl) (fun F S ret => ?_)
  show V F 4 G 0 0 0 [(0, .ref (B 0)), (1, .int (iI p)), (2, .int (iI w))] []
  have hq0 := hq
  obtain ⟨rf, sa, bf, row, most, hcs, hst, hbf, hrf, hmost⟩ := hq
  obtain ⟨pa, la, wa, ea, h1, ⟨pf, hpa, hpf⟩, ⟨lf, gl, hla, hlf, hgl⟩, ⟨wf, hwa, hwf⟩, ⟨ef, hea, hef⟩⟩ := id hst
  have hn86 : 0 ≤ now 1286 ∧ now 1286 ≤ 60 := ⟨hok.2.2.2.2.2.2.1.1, hok.2.2.2.2.2.2.1.2.1⟩
  refine r_iload_n S dX10_holding_0 1 rfl ?_
  refine (c_S_P (As := [.int (iI p)]) (st := []) S (kX10_isPlace (by omega)) moX10_isPlace ⟨by decide, by decide⟩ ⟨by omega, by omega⟩ rfl (Nat.le_of_ble_eq_true rfl) w151 w152 rfl dX10_holding_1).goI (fun r1 hc1 => ?_)
  refine r_if_eq S 16 dX10_holding_4 (by decide) (by omega) (fun c4 => ?_) (fun c4 => ?_)
  · skip
    replace hc1 := zz0 hc1 c4
    refine r_bipush S dX10_holding_16 (by decide) ?_
    exact ret.i (-3) dX10_holding_18 (by unfold sHold; rw [if_pos (by omega)])
  · skip
    replace hc1 := zz1 hc1 c4
    refine r_iload_n S dX10_holding_7 2 rfl ?_
    refine r_iconst S dX10_holding_8 ?_
    refine r_iconst S dX10_holding_9 ?_
    refine (c_S_P (As := [.int (iI w), .int (iI 0), .int (iI 4)]) (st := []) S (kX10_within (by omega) (by omega) (by omega)) moX10_within ⟨by decide, by decide⟩ ⟨by omega, by omega⟩ rfl (Nat.le_of_ble_eq_true rfl) w154 w155 rfl dX10_holding_10).goI (fun r10 hc10 => ?_)
    refine r_if_ne S 19 dX10_holding_13 (by decide) (by omega) (fun c13 => ?_) (fun c13 => ?_)
    · skip
      replace hc10 := zz1 hc10 c13
      refine r_aload_n S dX10_holding_19 0 rfl ?_
      refine x_get_now S hcs gtX10_28_X10 dX10_holding_20 ?_
      refine r_get S gtX10_66_X7 h1.1 rfl dX10_holding_23 ?_
      refine r_iload_n S dX10_holding_26 1 rfl ?_
      rcases hpf p (by omega) (by omega) with ⟨hk27, hf27⟩ | ⟨hk27, b27, hf27, hO27⟩
      · skip
        refine r_aaldN hf27 hpa.1 rfl (by omega) (by omega) (by omega) S dX10_holding_27 ?_
        refine r_astore_nN (L' := [(3, .null), (0, .ref (B 0)), (1, .int (iI p)), (2, .int (iI w))]) S dX10_holding_28 (by decide) rfl ?_
        refine r_aload_nN S dX10_holding_29 0 rfl ?_
        refine r_ifnonnullN S dX10_holding_30 ?_
        refine r_bipush S dX10_holding_33 (by decide) ?_
        exact ret.i (-11) dX10_holding_35 (by unfold sHold; rw [if_neg (by omega), if_pos hk27])
      · skip
        refine r_aaldS hf27 hpa.1 rfl (by omega) (by omega) (by omega) S dX10_holding_27 ?_
        refine r_astore_n (L' := [(3, .ref b27), (0, .ref (B 0)), (1, .int (iI p)), (2, .int (iI w))]) S dX10_holding_28 (by decide) rfl ?_
        refine r_aload_n S dX10_holding_29 0 rfl ?_
        refine r_ifnonnull S 36 dX10_holding_30 (by decide) ?_
        refine r_iload_n S dX10_holding_36 3 rfl ?_
        rcases Classical.em (w = 0) with k37_0 | k37_0
        · refine r_tsw 0 68 S dX10_holding_37 k37_0 (by decide) rfl (by decide) ?_
          refine r_aload_n S dX10_holding_68 0 rfl ?_
          refine (vdH_kind (hh := hO27) hok ⟨by omega, by omega⟩ (st := []) S  ⟨by decide, by decide⟩ ⟨by omega, by omega⟩ (Nat.le_of_ble_eq_true rfl) w378 dX10_holding_69).goI (fun r69 hc69 => ?_)
          exact ret.i r69 dX10_holding_72 (by unfold sHold; rw [if_neg (by omega), if_neg hk27, if_pos (by omega)]; exact hc69)
        rcases Classical.em (w = 1) with k37_1 | k37_1
        · refine r_tsw 1 73 S dX10_holding_37 k37_1 (by decide) rfl (by decide) ?_
          refine r_aload_n S dX10_holding_73 0 rfl ?_
          refine rH_count S hO27 gtX10_122_X0 gtX10_122_X3 gtX10_122_X4 gtX10_122_X6 gtX10_122_X8 dX10_holding_74 ?_
          exact ret.i (now (10 + p)) dX10_holding_77 (by unfold sHold; rw [if_neg (by omega), if_neg hk27, if_neg (by omega), if_pos (by omega)])
        rcases Classical.em (w = 2) with k37_2 | k37_2
        · refine r_tsw 2 78 S dX10_holding_37 k37_2 (by decide) rfl (by decide) ?_
          refine r_aload_n S dX10_holding_78 0 rfl ?_
          refine rH_faceA S hO27 gtX10_127_X0 gtX10_127_X3 gtX10_127_X4 gtX10_127_X6 gtX10_127_X8 dX10_holding_79 ?_
          exact ret.i (fcA now p) dX10_holding_82 (by unfold sHold; rw [if_neg (by omega), if_neg hk27, if_neg (by omega), if_neg (by omega), if_pos (by omega)]; exact fcA_eq)
        rcases Classical.em (w = 3) with k37_3 | k37_3
        · refine r_tsw 3 83 S dX10_holding_37 k37_3 (by decide) rfl (by decide) ?_
          refine r_aload_n S dX10_holding_83 0 rfl ?_
          refine r_aload_n S dX10_holding_84 0 rfl ?_
          refine rH_count S hO27 gtX10_122_X0 gtX10_122_X3 gtX10_122_X4 gtX10_122_X6 gtX10_122_X8 dX10_holding_85 ?_
          have hKi := hok.1 p (by omega) (by omega)
          refine (vdH_worth (n := (now (10 + p))) (hn := ⟨by omega, by omega⟩) (hh := hO27) hok ⟨by omega, by omega⟩ (st := []) S  ⟨by decide, by decide⟩ ⟨by omega, by omega⟩ (Nat.le_of_ble_eq_true rfl) w395 dX10_holding_88).goI (fun r88 hc88 => ?_)
          exact ret.i r88 dX10_holding_91 (by unfold sHold; rw [if_neg (by omega), if_neg hk27, if_neg (by omega), if_neg (by omega), if_neg (by omega), if_pos (by omega), facesF_pays (by have := hok.1 p (by omega) (by omega); omega)]; exact hc88)
        refine r_tswD 92 S dX10_holding_37 (by omega) (by omega) (by decide) ?_
        refine r_aload_n S dX10_holding_92 0 rfl ?_
        refine (vdH_pieces (hh := hO27) hok ⟨by omega, by omega⟩ (st := []) S  ⟨by decide, by decide⟩ ⟨by omega, by omega⟩ (Nat.le_of_ble_eq_true rfl) w409 dX10_holding_93).goI (fun r93 hc93 => ?_)
        exact ret.i r93 dX10_holding_96 (by unfold sHold; rw [if_neg (by omega), if_neg hk27, if_neg (by omega), if_neg (by omega), if_neg (by omega), if_neg (by omega)]; exact hc93)
    · skip
      replace hc10 := zz0 hc10 c13
      refine r_bipush S dX10_holding_16 (by decide) ?_
      exact ret.i (-3) dX10_holding_18 (by unfold sHold; rw [if_pos (by omega)])

set_option maxRecDepth 20000 in
set_option maxHeartbeats 2000000 in
theorem kX10_price {D : va_G} {N0 : Nat → Prop} {B : Nat → Nat} {km rd : Int} {now reel : Int → Int} {hist : Int → Int → Int} {G : gh} (hq : cQ D N0 B now hist km rd reel G) (hok : mOK now) {way ex : Int} {w : UInt32} (hwy : inR way) (hex : inR ex) : CP ⟨"PostageCounter", "price", "(IFI)I"⟩ prog_1_method_14_code 5 (some .int) 2 42 D [.ref (B 0), .int (iI way), .float w, .int (iI ex)] G (pI (fun z => sPrice now way w ex z)) := by
  refine CP.enter (by decide +kernel) (Nat.le_of_ble_eq_true rfl) (fun F S ret => ?_)
  show V F 5 G 0 0 0 [(0, .ref (B 0)), (1, .int (iI way)), (2, .float w), (3, .int (iI ex))] []
  have hq0 := hq
  obtain ⟨rf, sa, bf, row, most, hcs, hst, hbf, hrf, hmost⟩ := hq
  obtain ⟨pa, la, wa, ea, h1, ⟨pf, hpa, hpf⟩, ⟨lf, gl, hla, hlf, hgl⟩, ⟨wf, hwa, hwf⟩, ⟨ef, hea, hef⟩⟩ := id hst
  have hn86 : 0 ≤ now 1286 ∧ now 1286 ≤ 60 := ⟨hok.2.2.2.2.2.2.1.1, hok.2.2.2.2.2.2.1.2.1⟩
  refine r_iload_n S dX10_price_0 1 rfl ?_
  refine (c_S_P (As := [.int (iI way)]) (st := []) S (kX10_isWay (by omega)) moX10_isWay ⟨by decide, by decide⟩ ⟨by omega, by omega⟩ rfl (Nat.le_of_ble_eq_true rfl) w432 w433 rfl dX10_price_1).goI (fun r1 hc1 => ?_)
  refine r_if_eq S 24 dX10_price_4 (by decide) (by omega) (fun c4 => ?_) (fun c4 => ?_)
  · skip
    replace hc1 := zz0 hc1 c4
    refine r_bipush S dX10_price_24 (by decide) ?_
    exact ret.i (-3) dX10_price_26 (Or.inl ⟨fun q => by have := q.1; have := q.2.1; have := q.2.2.2.1; have := q.2.2.2.2; first | omega | exact absurd q.2.2.1 hc8, rfl⟩)
  · skip
    replace hc1 := zz1 hc1 c4
    refine r_fload_n S dX10_price_7 2 rfl ?_
    refine (c_S_P (As := [.float w]) (st := []) S (kX10_isWeight) moX10_isWeight ⟨by decide, by decide⟩ ⟨by omega, by omega⟩ rfl (Nat.le_of_ble_eq_true rfl) w466 w467 rfl dX10_price_8).goI (fun r8 hc8 => ?_)
    refine r_if_eq S 24 dX10_price_11 (by decide) (by omega) (fun c11 => ?_) (fun c11 => ?_)
    · skip
      replace hc8 := zz0 hc8 c11
      refine r_bipush S dX10_price_24 (by decide) ?_
      exact ret.i (-3) dX10_price_26 (Or.inl ⟨fun q => by have := q.1; have := q.2.1; have := q.2.2.2.1; have := q.2.2.2.2; first | omega | exact absurd q.2.2.1 hc8, rfl⟩)
    · skip
      replace hc8 := zz1 hc8 c11
      refine r_iload_n S dX10_price_14 3 rfl ?_
      refine r_iconst S dX10_price_15 ?_
      refine r_bipush S dX10_price_16 (by decide) ?_
      refine (c_S_P (As := [.int (iI ex), .int (iI 0), .int (iI 15)]) (st := []) S (kX10_within (by omega) (by omega) (by omega)) moX10_within ⟨by decide, by decide⟩ ⟨by omega, by omega⟩ rfl (Nat.le_of_ble_eq_true rfl) w154 w155 rfl dX10_price_18).goI (fun r18 hc18 => ?_)
      refine r_if_ne S 27 dX10_price_21 (by decide) (by omega) (fun c21 => ?_) (fun c21 => ?_)
      · skip
        replace hc18 := zz1 hc18 c21
        have hpr : prOK way ex w := ⟨by omega, by omega, hc8, by omega, by omega⟩
        refine r_aload_n S dX10_price_27 0 rfl ?_
        refine x_get_now S hcs gtX10_28_X10 dX10_price_28 ?_
        refine r_get S gtX10_139_X7 h1.1 rfl dX10_price_31 ?_
        refine r_iload_n S dX10_price_34 1 rfl ?_
        obtain ⟨b35, hf35, hO35⟩ := hwf way (by omega) (by omega)
        obtain ⟨ga35, ra35, gf35, rf35, w35, wg35, wr35, ww35⟩ := id hO35
        refine r_aaldS hf35 hwa.1 rfl (by omega) (by omega) (by omega) S dX10_price_35 ?_
        refine r_fload_n S dX10_price_36 2 rfl ?_
        refine (c_S_P (As := [.float w]) (st := [.ref b35]) S (kX10_wholeGrams) moX10_wholeGrams ⟨by decide, by decide⟩ ⟨by omega, by omega⟩ rfl (Nat.le_of_ble_eq_true rfl) w470 w471 rfl dX10_price_37).goI (fun r37 hc37 => ?_)
        have hwR := wholeF_R w
        have hWi := hok.2.2.2.2.1 way (by omega) (by omega)
        refine (c_V_P (As := [.int (iI r37)]) (st := []) S (kX9_priceFor w35.1 wg35.1 wr35.1 ⟨by omega, by omega, by omega, by omega, by omega, by omega⟩ (fun j j0 j1 => by rw [(ww35 j j0 j1).1]; have := hWi.2.2 j j0 j1; omega) (by omega)) moX9_priceFor ⟨by decide, by decide⟩ ⟨by omega, by omega⟩ rfl (Nat.le_of_ble_eq_true rfl) w477 w478 w479 (w35.1) rfl rfl dX10_price_40).goI (fun r40 hc40 => ?_)
        refine r_istore (L' := [(4, .int (iI r40)), (0, .ref (B 0)), (1, .int (iI way)), (2, .float w), (3, .int (iI ex))]) S dX10_price_43 (by decide) rfl ?_
        have hrR : inR r40 := by rcases hc40 with ⟨i, i0, i1, i2, i3, i4⟩ | ⟨h, -⟩; have := (ww35 i i0 i1).2; have := hWi.2.2 i i0 i1; omega; omega
        refine r_iload S dX10_price_45 0 rfl ?_
        refine r_iconst S dX10_price_47 ?_
        refine r_icmp_ne S 55 dX10_price_48 (by decide) (by omega) (by omega) (fun c48 => ?_) (fun c48 => ?_)
        · skip
          refine r_iload S dX10_price_55 0 rfl ?_
          refine r_aload_n S dX10_price_57 1 rfl ?_
          refine x_get_now S hcs gtX10_28_X10 dX10_price_58 ?_
          refine r_iload_n S dX10_price_61 4 rfl ?_
          refine (c_V_P (As := [.int (iI ex)]) (st := [.int (iI r40)]) S (kX7_costOf hst hok ⟨by omega, by omega⟩) moX7_costOf ⟨by decide, by decide⟩ ⟨by omega, by omega⟩ rfl (Nat.le_of_ble_eq_true rfl) w481 w482 w483 (h1.1) rfl rfl dX10_price_62).goI (fun r62 hc62 => ?_)
          refine r_iadd S dX10_price_65 ?_
          exact ret.i (r40 + r62) dX10_price_66 (Or.inr (Or.inl (by rcases hc40 with ⟨i, i0, i1, i2, i3, i4⟩ | ⟨h, -⟩; exact ⟨hpr, i, i0, i1, by rw [← (ww35 i i0 i1).1, ← hc37]; exact i2, fun j j0 j1 => by rw [← (ww35 j j0 (by omega)).1, ← hc37]; exact i3 j j0 j1, by rw [i4, (ww35 i i0 i1).2, hc62]; omega⟩; exfalso; omega)))
        · skip
          refine r_iconst S dX10_price_51 ?_
          refine r_goto S 66 dX10_price_52 (by decide) ?_
          exact ret.i (-1) dX10_price_66 (Or.inr (Or.inr ⟨hpr, fun j j0 j1 => by rcases hc40 with ⟨i, i0, i1, i2, i3, i4⟩ | ⟨-, h⟩; exfalso; have := (ww35 i i0 i1).2; have := hWi.2.2 i i0 i1; omega; rw [← (ww35 j j0 j1).1, ← hc37]; exact h j j0 j1, rfl⟩))
      · skip
        replace hc18 := zz0 hc18 c21
        refine r_bipush S dX10_price_24 (by decide) ?_
        exact ret.i (-3) dX10_price_26 (Or.inl ⟨fun q => by have := q.1; have := q.2.1; have := q.2.2.2.1; have := q.2.2.2.2; first | omega | exact absurd q.2.2.1 hc8, rfl⟩)
