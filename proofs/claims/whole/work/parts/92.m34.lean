set_option maxRecDepth 20000 in
set_option maxHeartbeats 2000000 in
theorem kX10_told {D : va_G} {N0 : Nat → Prop} {B : Nat → Nat} {km rd : Int} {now reel : Int → Int} {hist : Int → Int → Int} {G : gh} (hq : cQ D N0 B now hist km rd reel G) (hok : mOK now) {l w : Int} (hl : inR l) (hw : inR w) : CP ⟨"PostageCounter", "told", "(II)I"⟩ prog_1_method_17_code 4 (some .int) 3 69 D [.ref (B 0), .int (iI l), .int (iI w)] G (pI (fun z => z = sTold now l w)) := by
  refine CP.enter (by decide +kernel) (Nat.le_of_ble_eq_true rfl) (fun F S ret => ?_)
  show V F 4 G 0 0 0 [(0, .ref (B 0)), (1, .int (iI l)), (2, .int (iI w))] []
  have hq0 := hq
  obtain ⟨rf, sa, bf, row, most, hcs, hst, hbf, hrf, hmost⟩ := hq
  obtain ⟨pa, la, wa, ea, h1, ⟨pf, hpa, hpf⟩, ⟨lf, gl, hla, hlf, hgl⟩, ⟨wf, hwa, hwf⟩, ⟨ef, hea, hef⟩⟩ := id hst
  have hn86 : 0 ≤ now 1286 ∧ now 1286 ≤ 60 := ⟨hok.2.2.2.2.2.2.1.1, hok.2.2.2.2.2.2.1.2.1⟩
  refine r_aload_n S dX10_told_0 0 rfl ?_
  refine r_iload_n S dX10_told_1 1 rfl ?_
  refine (c_V_P (As := [.int (iI l)]) (st := []) S (kX10_isLetter hq0 hok (by omega)) moX10_isLetter ⟨by decide, by decide⟩ ⟨by omega, by omega⟩ rfl (Nat.le_of_ble_eq_true rfl) w514 w516 w4 (hcs.1) rfl rfl dX10_told_2).goI (fun r2 hc2 => ?_)
  refine r_if_eq S 17 dX10_told_5 (by decide) (by omega) (fun c5 => ?_) (fun c5 => ?_)
  · skip
    replace hc2 := zz0 hc2 c5
    refine r_bipush S dX10_told_17 (by decide) ?_
    exact ret.i (-3) dX10_told_19 (by unfold sTold; rw [if_pos (by omega)])
  · skip
    replace hc2 := zz1 hc2 c5
    refine r_iload_n S dX10_told_8 2 rfl ?_
    refine r_iconst S dX10_told_9 ?_
    refine r_iconst S dX10_told_10 ?_
    refine (c_S_P (As := [.int (iI w), .int (iI 0), .int (iI 5)]) (st := []) S (kX10_within (by omega) (by omega) (by omega)) moX10_within ⟨by decide, by decide⟩ ⟨by omega, by omega⟩ rfl (Nat.le_of_ble_eq_true rfl) w154 w155 rfl dX10_told_11).goI (fun r11 hc11 => ?_)
    refine r_if_ne S 20 dX10_told_14 (by decide) (by omega) (fun c14 => ?_) (fun c14 => ?_)
    · skip
      replace hc11 := zz1 hc11 c14
      refine r_aload_n S dX10_told_20 0 rfl ?_
      refine x_get_now S hcs gtX10_28_X10 dX10_told_21 ?_
      refine r_get S gtX10_185_X7 h1.1 rfl dX10_told_24 ?_
      refine r_iload_n S dX10_told_27 1 rfl ?_
      have hNl := hok.2.2.2.2.2.2.1.2.2 l (by omega) (by omega)
      have hAl := allF_bd hok.1 hok.2.1
      obtain ⟨b28, hf28, hO28⟩ := hlf l (by omega) (by omega)
      rcases hO28 with ⟨his28, hv28, hz28⟩ | ⟨his28, pb28, hv28, hpy28⟩
      · skip
        refine r_aaldS hf28 hla.1 rfl (by omega) (by omega) (by omega) S dX10_told_28 ?_
        refine r_astore_n (L' := [(3, .ref b28), (0, .ref (B 0)), (1, .int (iI l)), (2, .int (iI w))]) S dX10_told_29 (by decide) rfl ?_
        refine r_iload_n S dX10_told_30 3 rfl ?_
        rcases Classical.em (w = 0) with k31_0 | k31_0
        · refine r_tsw 0 64 S dX10_told_31 k31_0 (by decide) rfl (by decide) ?_
          refine r_aload_n S dX10_told_64 0 rfl ?_
          refine r_get S gtX10_205_X2 hv28.1 rfl dX10_told_65 ?_
          exact ret.i (now (1287 + l)) dX10_told_68 (by unfold sTold; rw [if_neg (by omega), if_pos (by omega)])
        rcases Classical.em (w = 1) with k31_1 | k31_1
        · refine r_tsw 1 69 S dX10_told_31 k31_1 (by decide) rfl (by decide) ?_
          refine r_aload_n S dX10_told_69 0 rfl ?_
          refine r_get S gtX10_201_X2 hv28.1 rfl dX10_told_70 ?_
          refine r_ifnonnullN S dX10_told_73 ?_
          refine r_iconst S dX10_told_76 ?_
          refine r_goto S 87 dX10_told_77 (by decide) ?_
          exact ret.i 0 dX10_told_87 (by unfold sTold; rw [if_neg (by omega), if_neg (by omega), if_pos (by omega)]; omega)
        rcases Classical.em (w = 2) with k31_2 | k31_2
        · refine r_tsw 2 88 S dX10_told_31 k31_2 (by decide) rfl (by decide) ?_
          refine r_aload_n S dX10_told_88 0 rfl ?_
          refine r_get S gtX10_201_X2 hv28.1 rfl dX10_told_89 ?_
          refine r_ifnonnullN S dX10_told_92 ?_
          refine r_iconst S dX10_told_95 ?_
          refine r_goto S 111 dX10_told_96 (by decide) ?_
          exact ret.i 0 dX10_told_111 (by unfold sTold; rw [if_neg (by omega), if_neg (by omega), if_neg (by omega), if_pos (by omega), if_neg (by omega)])
        rcases Classical.em (w = 3) with k31_3 | k31_3
        · refine r_tsw 3 112 S dX10_told_31 k31_3 (by decide) rfl (by decide) ?_
          refine r_aload_n S dX10_told_112 0 rfl ?_
          refine r_get S gtX10_201_X2 hv28.1 rfl dX10_told_113 ?_
          refine r_ifnonnullN S dX10_told_116 ?_
          refine r_iconst S dX10_told_119 ?_
          refine r_goto S 130 dX10_told_120 (by decide) ?_
          exact ret.i 0 dX10_told_130 (by unfold sTold; rw [if_neg (by omega), if_neg (by omega), if_neg (by omega), if_neg (by omega), if_pos (by omega)]; omega)
        rcases Classical.em (w = 4) with k31_4 | k31_4
        · refine r_tsw 4 131 S dX10_told_31 k31_4 (by decide) rfl (by decide) ?_
          refine r_aload_n S dX10_told_131 0 rfl ?_
          refine r_get S gtX10_201_X2 hv28.1 rfl dX10_told_132 ?_
          refine r_ifnullN S 142 dX10_told_135 (by decide) ?_
          refine r_iconst S dX10_told_142 ?_
          refine r_aload_n S dX10_told_143 0 rfl ?_
          refine r_get S gtX10_205_X2 hv28.1 rfl dX10_told_144 ?_
          refine r_aload_n S dX10_told_147 1 rfl ?_
          refine x_get_now S hcs gtX10_28_X10 dX10_told_148 ?_
          refine (c_V_P (As := []) (st := [.int (iI (now (1287 + l))), .int (iI 0)]) S (kX7_worth hst hok) moX7_worth ⟨by decide, by decide⟩ ⟨by omega, by omega⟩ rfl (Nat.le_of_ble_eq_true rfl) w522 w523 w524 (h1.1) rfl rfl dX10_told_151).goI (fun r151 hc151 => ?_)
          rw [hc151]
          refine r_isub_e (now (1287 + l) - allF now) (by omega) S dX10_told_154 ?_
          refine r_mmax w682 w406 w41 w407 (by decide) (Nat.le_of_ble_eq_true rfl) ⟨by omega, by omega⟩ (by omega) (by omega) S dX10_told_155 ?_
          exact ret.i (max 0 (now (1287 + l) - allF now)) dX10_told_158 (by unfold sTold; rw [if_neg (by omega), if_neg (by omega), if_neg (by omega), if_neg (by omega), if_neg (by omega), if_pos (by omega)]; by_cases e : now (1287 + l) ≤ allF now; rw [if_pos (Or.inr e)]; omega; rw [if_neg (by omega)]; omega)
        refine r_tswD 159 S dX10_told_31 (by omega) (by omega) (by decide) ?_
        refine r_aload_n S dX10_told_159 0 rfl ?_
        refine r_get S gtX10_201_X2 hv28.1 rfl dX10_told_160 ?_
        refine r_ifnonnullN S dX10_told_163 ?_
        refine r_iconst S dX10_told_166 ?_
        refine r_goto S 171 dX10_told_167 (by decide) ?_
        exact ret.i 0 dX10_told_171 (by unfold sTold; rw [if_neg (by omega), if_neg (by omega), if_neg (by omega), if_neg (by omega), if_neg (by omega), if_neg (by omega)]; omega)
      · skip
        obtain ⟨qa28, qc28, qs28, cf28, sf28, nf28, p128, pok28, ppl28, pca28, psa28, pcs28, pgot28, pg28⟩ := id hpy28
        refine r_aaldS hf28 hla.1 rfl (by omega) (by omega) (by omega) S dX10_told_28 ?_
        refine r_astore_n (L' := [(3, .ref b28), (0, .ref (B 0)), (1, .int (iI l)), (2, .int (iI w))]) S dX10_told_29 (by decide) rfl ?_
        refine r_iload_n S dX10_told_30 3 rfl ?_
        rcases Classical.em (w = 0) with k31_0 | k31_0
        · refine r_tsw 0 64 S dX10_told_31 k31_0 (by decide) rfl (by decide) ?_
          refine r_aload_n S dX10_told_64 0 rfl ?_
          refine r_get S gtX10_205_X2 hv28.1 rfl dX10_told_65 ?_
          exact ret.i (now (1287 + l)) dX10_told_68 (by unfold sTold; rw [if_neg (by omega), if_pos (by omega)])
        rcases Classical.em (w = 1) with k31_1 | k31_1
        · refine r_tsw 1 69 S dX10_told_31 k31_1 (by decide) rfl (by decide) ?_
          refine r_aload_n S dX10_told_69 0 rfl ?_
          refine r_get S gtX10_201_X2 hv28.1 rfl dX10_told_70 ?_
          refine r_ifnonnull S 80 dX10_told_73 (by decide) ?_
          refine r_aload_n S dX10_told_80 0 rfl ?_
          refine r_get S gtX10_201_X2 hv28.1 rfl dX10_told_81 ?_
          refine r_get S gtX10_227_X5 p128.1 rfl dX10_told_84 ?_
          exact ret.i (now (1347 + l)) dX10_told_87 (by unfold sTold; rw [if_neg (by omega), if_neg (by omega), if_pos (by omega)])
        rcases Classical.em (w = 2) with k31_2 | k31_2
        · refine r_tsw 2 88 S dX10_told_31 k31_2 (by decide) rfl (by decide) ?_
          refine r_aload_n S dX10_told_88 0 rfl ?_
          refine r_get S gtX10_201_X2 hv28.1 rfl dX10_told_89 ?_
          refine r_ifnonnull S 99 dX10_told_92 (by decide) ?_
          refine r_aload_n S dX10_told_99 0 rfl ?_
          refine r_get S gtX10_201_X2 hv28.1 rfl dX10_told_100 ?_
          refine r_get S gtX10_227_X5 p128.1 rfl dX10_told_103 ?_
          refine r_aload_n S dX10_told_106 0 rfl ?_
          refine r_get S gtX10_205_X2 hv28.1 rfl dX10_told_107 ?_
          refine r_isub_e (now (1347 + l) - now (1287 + l)) (by omega) S dX10_told_110 ?_
          exact ret.i (now (1347 + l) - now (1287 + l)) dX10_told_111 (by unfold sTold; rw [if_neg (by omega), if_neg (by omega), if_neg (by omega), if_pos (by omega), if_pos (by omega)])
        rcases Classical.em (w = 3) with k31_3 | k31_3
        · refine r_tsw 3 112 S dX10_told_31 k31_3 (by decide) rfl (by decide) ?_
          refine r_aload_n S dX10_told_112 0 rfl ?_
          refine r_get S gtX10_201_X2 hv28.1 rfl dX10_told_113 ?_
          refine r_ifnonnull S 123 dX10_told_116 (by decide) ?_
          refine r_aload_n S dX10_told_123 0 rfl ?_
          refine r_get S gtX10_201_X2 hv28.1 rfl dX10_told_124 ?_
          refine (c_V_P (As := []) (st := []) S (kX5_stamps hpy28) moX5_stamps ⟨by decide, by decide⟩ ⟨by omega, by omega⟩ rfl (Nat.le_of_ble_eq_true rfl) w678 w679 w680 (p128.1) rfl rfl dX10_told_127).goI (fun r127 hc127 => ?_)
          exact ret.i r127 dX10_told_130 (by unfold sTold; rw [if_neg (by omega), if_neg (by omega), if_neg (by omega), if_neg (by omega), if_pos (by omega)]; exact hc127)
        rcases Classical.em (w = 4) with k31_4 | k31_4
        · refine r_tsw 4 131 S dX10_told_31 k31_4 (by decide) rfl (by decide) ?_
          refine r_aload_n S dX10_told_131 0 rfl ?_
          refine r_get S gtX10_201_X2 hv28.1 rfl dX10_told_132 ?_
          refine r_ifnull S dX10_told_135 ?_
          refine r_iconst S dX10_told_138 ?_
          refine r_goto S 158 dX10_told_139 (by decide) ?_
          exact ret.i 0 dX10_told_158 (by unfold sTold; rw [if_neg (by omega), if_neg (by omega), if_neg (by omega), if_neg (by omega), if_neg (by omega), if_pos (by omega)]; rw [if_pos (by omega)])
        refine r_tswD 159 S dX10_told_31 (by omega) (by omega) (by decide) ?_
        refine r_aload_n S dX10_told_159 0 rfl ?_
        refine r_get S gtX10_201_X2 hv28.1 rfl dX10_told_160 ?_
        refine r_ifnonnull S 170 dX10_told_163 (by decide) ?_
        refine r_iconst S dX10_told_170 ?_
        exact ret.i 1 dX10_told_171 (by unfold sTold; rw [if_neg (by omega), if_neg (by omega), if_neg (by omega), if_neg (by omega), if_neg (by omega), if_neg (by omega)]; omega)
    · skip
      replace hc11 := zz0 hc11 c14
      refine r_bipush S dX10_told_17 (by decide) ?_
      exact ret.i (-3) dX10_told_19 (by unfold sTold; rw [if_pos (by omega)])

set_option maxRecDepth 20000 in
set_option maxHeartbeats 2000000 in
theorem kX10_torn {D : va_G} {N0 : Nat → Prop} {B : Nat → Nat} {km rd : Int} {now reel : Int → Int} {hist : Int → Int → Int} {G : gh} (hq : cQ D N0 B now hist km rd reel G) (hok : mOK now) {l i : Int} (hl : inR l) (hi : inR i) : CP ⟨"PostageCounter", "torn", "(II)I"⟩ prog_1_method_19_code 4 (some .int) 2 48 D [.ref (B 0), .int (iI l), .int (iI i)] G (pI (fun z => (¬ (0 ≤ l ∧ l < now 1286) ∧ z = -3) ∨ ((0 ≤ l ∧ l < now 1286) ∧ tsR now l i z))) := by
  refine CP.enter (by decide +kernel) (Nat.le_of_ble_eq_true rfl) (fun F S ret => ?_)
  show V F 4 G 0 0 0 [(0, .ref (B 0)), (1, .int (iI l)), (2, .int (iI i))] []
  have hq0 := hq
  obtain ⟨rf, sa, bf, row, most, hcs, hst, hbf, hrf, hmost⟩ := hq
  obtain ⟨pa, la, wa, ea, h1, ⟨pf, hpa, hpf⟩, ⟨lf, gl, hla, hlf, hgl⟩, ⟨wf, hwa, hwf⟩, ⟨ef, hea, hef⟩⟩ := id hst
  have hn86 : 0 ≤ now 1286 ∧ now 1286 ≤ 60 := ⟨hok.2.2.2.2.2.2.1.1, hok.2.2.2.2.2.2.1.2.1⟩
  refine r_aload_n S dX10_torn_0 0 rfl ?_
  refine r_iload_n S dX10_torn_1 1 rfl ?_
  refine (c_V_P (As := [.int (iI l)]) (st := []) S (kX10_isLetter hq0 hok (by omega)) moX10_isLetter ⟨by decide, by decide⟩ ⟨by omega, by omega⟩ rfl (Nat.le_of_ble_eq_true rfl) w514 w516 w4 (hcs.1) rfl rfl dX10_torn_2).goI (fun r2 hc2 => ?_)
  refine r_if_ne S 11 dX10_torn_5 (by decide) (by omega) (fun c5 => ?_) (fun c5 => ?_)
  · skip
    replace hc2 := zz1 hc2 c5
    refine r_aload_n S dX10_torn_11 0 rfl ?_
    refine x_get_now S hcs gtX10_28_X10 dX10_torn_12 ?_
    refine r_get S gtX10_185_X7 h1.1 rfl dX10_torn_15 ?_
    refine r_iload_n S dX10_torn_18 1 rfl ?_
    obtain ⟨b19, hf19, hO19⟩ := hlf l (by omega) (by omega)
    rcases hO19 with ⟨his19, hv19, hz19⟩ | ⟨his19, pb19, hv19, hpy19⟩
    · skip
      refine r_aaldS hf19 hla.1 rfl (by omega) (by omega) (by omega) S dX10_torn_19 ?_
      refine r_get S gtX10_201_X2 hv19.1 rfl dX10_torn_20 ?_
      refine r_astore_nN (L' := [(3, .null), (0, .ref (B 0)), (1, .int (iI l)), (2, .int (iI i))]) S dX10_torn_23 (by decide) rfl ?_
      refine r_aload_nN S dX10_torn_24 0 rfl ?_
      refine r_ifnonnullN S dX10_torn_25 ?_
      refine r_iconst S dX10_torn_28 ?_
      refine r_goto S 37 dX10_torn_29 (by decide) ?_
      exact ret.i (-1) dX10_torn_37 (Or.inr ⟨⟨by omega, by omega⟩, ts_un hok ⟨by omega, by omega⟩ his19⟩)
    · skip
      obtain ⟨qa19, qc19, qs19, cf19, sf19, nf19, p119, pok19, ppl19, pca19, psa19, pcs19, pgot19, pg19⟩ := id hpy19
      refine r_aaldS hf19 hla.1 rfl (by omega) (by omega) (by omega) S dX10_torn_19 ?_
      refine r_get S gtX10_201_X2 hv19.1 rfl dX10_torn_20 ?_
      refine r_astore_n (L' := [(3, .ref pb19), (0, .ref (B 0)), (1, .int (iI l)), (2, .int (iI i))]) S dX10_torn_23 (by decide) rfl ?_
      refine r_aload_n S dX10_torn_24 0 rfl ?_
      refine r_ifnonnull S 32 dX10_torn_25 (by decide) ?_
      refine r_aload_n S dX10_torn_32 0 rfl ?_
      refine r_iload_n S dX10_torn_33 3 rfl ?_
      refine (c_V_P (As := [.int (iI i)]) (st := []) S (kX5_tornSquare hpy19 (by omega)) moX5_tornSquare ⟨by decide, by decide⟩ ⟨by omega, by omega⟩ rfl (Nat.le_of_ble_eq_true rfl) w691 w692 w693 (p119.1) rfl rfl dX10_torn_34).goI (fun r34 hc34 => ?_)
      exact ret.i r34 dX10_torn_37 (Or.inr ⟨⟨by omega, by omega⟩, hc34⟩)
  · skip
    replace hc2 := zz0 hc2 c5
    refine r_bipush S dX10_torn_8 (by decide) ?_
    exact ret.i (-3) dX10_torn_10 (Or.inl ⟨by omega, rfl⟩)

set_option maxRecDepth 20000 in
set_option maxHeartbeats 2000000 in
theorem kX10_dayOfPaid {D : va_G} {N0 : Nat → Prop} {B : Nat → Nat} {km rd : Int} {now reel : Int → Int} {hist : Int → Int → Int} {G : gh} (hq : cQ D N0 B now hist km rd reel G) (hok : mOK now) {w : Int} (hw : 1 ≤ w ∧ w ≤ 4) : CP ⟨"PostageCounter", "dayOfPaid", "(I)I"⟩ prog_1_method_36_code 7 (some .int) 1 25 D [.ref (B 0), .int (iI w)] G (pI (fun z => z = sumI (dF now w) (now 1286).toNat)) := by
  refine CP.enter (by decide +kernel) (Nat.le_of_ble_eq_true rfl) (fun F S ret => ?_)
  show V F 7 G 0 0 0 [(0, .ref (B 0)), (1, .int (iI w))] []
  have hq0 := hq
  obtain ⟨rf, sa, bf, row, most, hcs, hst, hbf, hrf, hmost⟩ := hq
  obtain ⟨pa, la, wa, ea, h1, ⟨pf, hpa, hpf⟩, ⟨lf, gl, hla, hlf, hgl⟩, ⟨wf, hwa, hwf⟩, ⟨ef, hea, hef⟩⟩ := id hst
  have hn86 : 0 ≤ now 1286 ∧ now 1286 ≤ 60 := ⟨hok.2.2.2.2.2.2.1.1, hok.2.2.2.2.2.2.1.2.1⟩
  refine r_iconst S dX10_dayOfPaid_0 ?_
  refine r_istore_n (L' := [(2, .int (iI 0)), (0, .ref (B 0)), (1, .int (iI w))]) S dX10_dayOfPaid_1 (by decide) rfl ?_
  refine r_aload_n S dX10_dayOfPaid_2 1 rfl ?_
  refine x_get_now S hcs gtX10_28_X10 dX10_dayOfPaid_3 ?_
  refine r_get S gtX10_185_X7 h1.1 rfl dX10_dayOfPaid_6 ?_
  refine r_astore_n (L' := [(3, .ref la), (2, .int (iI 0)), (0, .ref (B 0)), (1, .int (iI w))]) S dX10_dayOfPaid_9 (by decide) rfl ?_
  refine r_aload_n S dX10_dayOfPaid_10 0 rfl ?_
  refine r_alenQ S hla.1 rfl dX10_dayOfPaid_11 ?_
  rw [show (((now 1286).toNat : Nat) : Int) = now 1286 from Int.toNat_of_nonneg hn86.1]
  refine r_istore (L' := [(4, .int (iI (now 1286))), (3, .ref la), (2, .int (iI 0)), (0, .ref (B 0)), (1, .int (iI w))]) S dX10_dayOfPaid_12 (by decide) rfl ?_
  refine r_iconst S dX10_dayOfPaid_14 ?_
  refine r_istore (L' := [(5, .int (iI 0)), (4, .int (iI (now 1286))), (3, .ref la), (2, .int (iI 0)), (0, .ref (B 0)), (1, .int (iI w))]) S dX10_dayOfPaid_15 (by decide) rfl ?_
  have L17 : ∀ (N : Nat) (sm : Int) (i : Int), (now 1286 - i).toNat < N → (0 ≤ i ∧ i ≤ now 1286) → (sm = sumI (dF now w) i.toNat) → V F 7 G 0 0 17 [(0, .ref (B 0)), (1, .int (iI w)), (2, .int (iI sm)), (3, .ref la), (4, .int (iI (now 1286))), (5, .int (iI i))] [] := by
    intro N
    induction N with
    | zero => intro sm i hN; exact absurd hN (Nat.not_lt_zero _)
    | succ N ih17 =>
      intro sm i hN17 hi hs
      refine r_iload S dX10_dayOfPaid_17 5 rfl ?_
      refine r_iload S dX10_dayOfPaid_19 4 rfl ?_
      refine r_icmp_ge S 112 dX10_dayOfPaid_21 (by decide) (by omega) (by omega) (fun c21 => ?_) (fun c21 => ?_)
      · skip
        refine r_iload_n S dX10_dayOfPaid_112 2 rfl ?_
        exact ret.i sm dX10_dayOfPaid_113 (by rw [hs, show i = now 1286 by omega])
      · skip
        refine r_aload_n S dX10_dayOfPaid_24 3 rfl ?_
        refine r_iload S dX10_dayOfPaid_25 5 rfl ?_
        obtain ⟨b27, hf27, hO27⟩ := hlf i (by omega) (by omega)
        rcases hO27 with ⟨his27, hv27, hz27⟩ | ⟨his27, pb27, hv27, hpy27⟩
        · skip
          refine r_aaldS hf27 hla.1 rfl (by omega) (by omega) (by omega) S dX10_dayOfPaid_27 ?_
          refine r_astore (L' := [(6, .ref b27), (0, .ref (B 0)), (1, .int (iI w)), (2, .int (iI sm)), (3, .ref la), (4, .int (iI (now 1286))), (5, .int (iI i))]) S dX10_dayOfPaid_28 (by decide) rfl ?_
          refine r_aload S dX10_dayOfPaid_30 0 rfl ?_
          refine r_get S gtX10_201_X2 hv27.1 rfl dX10_dayOfPaid_32 ?_
          refine r_ifnullN S 106 dX10_dayOfPaid_35 (by decide) ?_
          refine r_iinc_e (L' := [(5, .int (iI (1 + i))), (6, .ref b27), (0, .ref (B 0)), (1, .int (iI w)), (2, .int (iI sm)), (3, .ref la), (4, .int (iI (now 1286)))]) (1 + i) (by omega) S dX10_dayOfPaid_106 6 rfl (by decide) rfl ?_
          refine r_goto S 17 dX10_dayOfPaid_109 (by decide) ?_
          refine V.sub [2, 3, 4, 5, 6, 0] rfl ?_
          exact ih17 sm (1 + i) (by omega) (by omega) (by rw [sumI_s _ (by omega), hs, dF_0 hok ⟨by omega, by omega⟩ hw his27]; omega)
        · skip
          obtain ⟨qa27, qc27, qs27, cf27, sf27, nf27, p127, pok27, ppl27, pca27, psa27, pcs27, pgot27, pg27⟩ := id hpy27
          refine r_aaldS hf27 hla.1 rfl (by omega) (by omega) (by omega) S dX10_dayOfPaid_27 ?_
          refine r_astore (L' := [(6, .ref b27), (0, .ref (B 0)), (1, .int (iI w)), (2, .int (iI sm)), (3, .ref la), (4, .int (iI (now 1286))), (5, .int (iI i))]) S dX10_dayOfPaid_28 (by decide) rfl ?_
          refine r_aload S dX10_dayOfPaid_30 0 rfl ?_
          refine r_get S gtX10_201_X2 hv27.1 rfl dX10_dayOfPaid_32 ?_
          refine r_ifnull S dX10_dayOfPaid_35 ?_
          refine r_iload_n S dX10_dayOfPaid_38 2 rfl ?_
          rcases Classical.em (w = 1) with k39_1 | k39_1
          · refine r_tsw 1 64 S dX10_dayOfPaid_39 k39_1 (by decide) rfl (by decide) ?_
            refine r_iinc_e (L' := [(2, .int (iI (1 + sm))), (6, .ref b27), (0, .ref (B 0)), (1, .int (iI w)), (3, .ref la), (4, .int (iI (now 1286))), (5, .int (iI i))]) (1 + sm) (by omega) S dX10_dayOfPaid_64 3 rfl (by decide) rfl ?_
            refine r_goto S 106 dX10_dayOfPaid_67 (by decide) ?_
            refine r_iinc_e (L' := [(5, .int (iI (1 + i))), (2, .int (iI (1 + sm))), (6, .ref b27), (0, .ref (B 0)), (1, .int (iI w)), (3, .ref la), (4, .int (iI (now 1286)))]) (1 + i) (by omega) S dX10_dayOfPaid_106 6 rfl (by decide) rfl ?_
            refine r_goto S 17 dX10_dayOfPaid_109 (by decide) ?_
            refine V.sub [3, 4, 1, 5, 6, 0] rfl ?_
            exact ih17 (1 + sm) (1 + i) (by omega) (by omega) (by rw [sumI_s _ (by omega), hs, dF_1 his27]; unfold dB; first | (rw [if_pos (by omega)]; omega) | (rw [if_neg (by omega), if_pos (by omega)]; omega) | (rw [if_neg (by omega), if_neg (by omega), if_pos (by omega)]; omega) | (rw [if_neg (by omega), if_neg (by omega), if_neg (by omega), hc101]; omega))
          rcases Classical.em (w = 2) with k39_2 | k39_2
          · refine r_tsw 2 70 S dX10_dayOfPaid_39 k39_2 (by decide) rfl (by decide) ?_
            refine r_iload_n S dX10_dayOfPaid_70 3 rfl ?_
            refine r_aload S dX10_dayOfPaid_71 0 rfl ?_
            refine r_get S gtX10_205_X2 hv27.1 rfl dX10_dayOfPaid_73 ?_
            refine r_iadd_e (now (1287 + i) + sm) (by omega) S dX10_dayOfPaid_76 ?_
            refine r_istore_n (L' := [(2, .int (iI (now (1287 + i) + sm))), (6, .ref b27), (0, .ref (B 0)), (1, .int (iI w)), (3, .ref la), (4, .int (iI (now 1286))), (5, .int (iI i))]) S dX10_dayOfPaid_77 (by decide) rfl ?_
            refine r_goto S 106 dX10_dayOfPaid_78 (by decide) ?_
            refine r_iinc_e (L' := [(5, .int (iI (1 + i))), (2, .int (iI (now (1287 + i) + sm))), (6, .ref b27), (0, .ref (B 0)), (1, .int (iI w)), (3, .ref la), (4, .int (iI (now 1286)))]) (1 + i) (by omega) S dX10_dayOfPaid_106 6 rfl (by decide) rfl ?_
            refine r_goto S 17 dX10_dayOfPaid_109 (by decide) ?_
            refine V.sub [3, 4, 1, 5, 6, 0] rfl ?_
            exact ih17 (now (1287 + i) + sm) (1 + i) (by omega) (by omega) (by rw [sumI_s _ (by omega), hs, dF_1 his27]; unfold dB; first | (rw [if_pos (by omega)]; omega) | (rw [if_neg (by omega), if_pos (by omega)]; omega) | (rw [if_neg (by omega), if_neg (by omega), if_pos (by omega)]; omega) | (rw [if_neg (by omega), if_neg (by omega), if_neg (by omega), hc101]; omega))
          rcases Classical.em (w = 3) with k39_3 | k39_3
          · refine r_tsw 3 81 S dX10_dayOfPaid_39 k39_3 (by decide) rfl (by decide) ?_
            refine r_iload_n S dX10_dayOfPaid_81 3 rfl ?_
            refine r_aload S dX10_dayOfPaid_82 0 rfl ?_
            refine r_get S gtX10_201_X2 hv27.1 rfl dX10_dayOfPaid_84 ?_
            refine r_get S gtX10_227_X5 p127.1 rfl dX10_dayOfPaid_87 ?_
            refine r_iadd_e (now (1347 + i) + sm) (by omega) S dX10_dayOfPaid_90 ?_
            refine r_istore_n (L' := [(2, .int (iI (now (1347 + i) + sm))), (6, .ref b27), (0, .ref (B 0)), (1, .int (iI w)), (3, .ref la), (4, .int (iI (now 1286))), (5, .int (iI i))]) S dX10_dayOfPaid_91 (by decide) rfl ?_
            refine r_goto S 106 dX10_dayOfPaid_92 (by decide) ?_
            refine r_iinc_e (L' := [(5, .int (iI (1 + i))), (2, .int (iI (now (1347 + i) + sm))), (6, .ref b27), (0, .ref (B 0)), (1, .int (iI w)), (3, .ref la), (4, .int (iI (now 1286)))]) (1 + i) (by omega) S dX10_dayOfPaid_106 6 rfl (by decide) rfl ?_
            refine r_goto S 17 dX10_dayOfPaid_109 (by decide) ?_
            refine V.sub [3, 4, 1, 5, 6, 0] rfl ?_
            exact ih17 (now (1347 + i) + sm) (1 + i) (by omega) (by omega) (by rw [sumI_s _ (by omega), hs, dF_1 his27]; unfold dB; first | (rw [if_pos (by omega)]; omega) | (rw [if_neg (by omega), if_pos (by omega)]; omega) | (rw [if_neg (by omega), if_neg (by omega), if_pos (by omega)]; omega) | (rw [if_neg (by omega), if_neg (by omega), if_neg (by omega), hc101]; omega))
          refine r_tswD 95 S dX10_dayOfPaid_39 (by omega) (by omega) (by decide) ?_
          refine r_iload_n S dX10_dayOfPaid_95 3 rfl ?_
          refine r_aload S dX10_dayOfPaid_96 0 rfl ?_
          refine r_get S gtX10_201_X2 hv27.1 rfl dX10_dayOfPaid_98 ?_
          refine (c_V_P (As := []) (st := [.int (iI sm)]) S (kX5_stamps hpy27) moX5_stamps ⟨by decide, by decide⟩ ⟨by omega, by omega⟩ rfl (Nat.le_of_ble_eq_true rfl) w678 w679 w680 (p127.1) rfl rfl dX10_dayOfPaid_101).goI (fun r101 hc101 => ?_)
          refine r_iadd_e (r101 + sm) (by omega) S dX10_dayOfPaid_104 ?_
          refine r_istore_n (L' := [(2, .int (iI (r101 + sm))), (6, .ref b27), (0, .ref (B 0)), (1, .int (iI w)), (3, .ref la), (4, .int (iI (now 1286))), (5, .int (iI i))]) S dX10_dayOfPaid_105 (by decide) rfl ?_
          refine r_iinc_e (L' := [(5, .int (iI (1 + i))), (2, .int (iI (r101 + sm))), (6, .ref b27), (0, .ref (B 0)), (1, .int (iI w)), (3, .ref la), (4, .int (iI (now 1286)))]) (1 + i) (by omega) S dX10_dayOfPaid_106 6 rfl (by decide) rfl ?_
          refine r_goto S 17 dX10_dayOfPaid_109 (by decide) ?_
          refine V.sub [3, 4, 1, 5, 6, 0] rfl ?_
          exact ih17 (r101 + sm) (1 + i) (by omega) (by omega) (by rw [sumI_s _ (by omega), hs, dF_1 his27]; unfold dB; first | (rw [if_pos (by omega)]; omega) | (rw [if_neg (by omega), if_pos (by omega)]; omega) | (rw [if_neg (by omega), if_neg (by omega), if_pos (by omega)]; omega) | (rw [if_neg (by omega), if_neg (by omega), if_neg (by omega), hc101]; omega))
  refine V.sub [4, 5, 3, 2, 1, 0] rfl ?_
  exact L17 _ 0 0 (Nat.lt_succ_self _) (by omega) rfl

set_option maxRecDepth 20000 in
set_option maxHeartbeats 2000000 in
theorem kX10_day {D : va_G} {N0 : Nat → Prop} {B : Nat → Nat} {km rd : Int} {now reel : Int → Int} {hist : Int → Int → Int} {G : gh} (hq : cQ D N0 B now hist km rd reel G) (hok : mOK now) {w : Int} (hw : inR w) : CP ⟨"PostageCounter", "day", "(I)I"⟩ prog_1_method_22_code 2 (some .int) 4 100 D [.ref (B 0), .int (iI w)] G (pI (fun z => z = sDay now rd km w)) := by
  refine CP.enter (by decide +kernel) (Nat.le_of_ble_eq_true rfl) (fun F S ret => ?_)
  show V F 2 G 0 0 0 [(0, .ref (B 0)), (1, .int (iI w))] []
  have hq0 := hq
  obtain ⟨rf, sa, bf, row, most, hcs, hst, hbf, hrf, hmost⟩ := hq
  obtain ⟨pa, la, wa, ea, h1, ⟨pf, hpa, hpf⟩, ⟨lf, gl, hla, hlf, hgl⟩, ⟨wf, hwa, hwf⟩, ⟨ef, hea, hef⟩⟩ := id hst
  have hn86 : 0 ≤ now 1286 ∧ now 1286 ≤ 60 := ⟨hok.2.2.2.2.2.2.1.1, hok.2.2.2.2.2.2.1.2.1⟩
  refine r_iload_n S dX10_day_0 1 rfl ?_
  rcases Classical.em (w = 0) with k1_0 | k1_0
  · refine r_tsw 0 56 S dX10_day_1 k1_0 (by decide) rfl (by decide) ?_
    refine r_aload_n S dX10_day_56 0 rfl ?_
    refine x_get_now S hcs gtX10_28_X10 dX10_day_57 ?_
    refine r_get S gtX10_185_X7 h1.1 rfl dX10_day_60 ?_
    refine r_alenQ S hla.1 rfl dX10_day_63 ?_
    rw [show (((now 1286).toNat : Nat) : Int) = now 1286 from Int.toNat_of_nonneg hn86.1]
    exact ret.i (now 1286) dX10_day_64 (by unfold sDay; rw [if_neg (by omega), if_pos (by omega)])
  rcases Classical.em (w = 1) with k1_1 | k1_1
  · refine r_tsw 1 65 S dX10_day_1 k1_1 (by decide) rfl (by decide) ?_
    refine r_aload_n S dX10_day_65 0 rfl ?_
    refine r_iload_n S dX10_day_66 1 rfl ?_
    refine (c_V_P (As := [.int (iI w)]) (st := []) S (kX10_dayOfPaid hq0 hok ⟨by omega, by omega⟩) moX10_dayOfPaid ⟨by decide, by decide⟩ ⟨by omega, by omega⟩ rfl (Nat.le_of_ble_eq_true rfl) w715 w717 w14 (hcs.1) rfl rfl dX10_day_67).goI (fun r67 hc67 => ?_)
    exact ret.i r67 dX10_day_70 (hc67.trans (dF_sum ⟨by omega, by omega⟩).symm)
  rcases Classical.em (w = 2) with k1_2 | k1_2
  · refine r_tsw 2 65 S dX10_day_1 k1_2 (by decide) rfl (by decide) ?_
    refine r_aload_n S dX10_day_65 0 rfl ?_
    refine r_iload_n S dX10_day_66 1 rfl ?_
    refine (c_V_P (As := [.int (iI w)]) (st := []) S (kX10_dayOfPaid hq0 hok ⟨by omega, by omega⟩) moX10_dayOfPaid ⟨by decide, by decide⟩ ⟨by omega, by omega⟩ rfl (Nat.le_of_ble_eq_true rfl) w715 w717 w14 (hcs.1) rfl rfl dX10_day_67).goI (fun r67 hc67 => ?_)
    exact ret.i r67 dX10_day_70 (hc67.trans (dF_sum ⟨by omega, by omega⟩).symm)
  rcases Classical.em (w = 3) with k1_3 | k1_3
  · refine r_tsw 3 65 S dX10_day_1 k1_3 (by decide) rfl (by decide) ?_
    refine r_aload_n S dX10_day_65 0 rfl ?_
    refine r_iload_n S dX10_day_66 1 rfl ?_
    refine (c_V_P (As := [.int (iI w)]) (st := []) S (kX10_dayOfPaid hq0 hok ⟨by omega, by omega⟩) moX10_dayOfPaid ⟨by decide, by decide⟩ ⟨by omega, by omega⟩ rfl (Nat.le_of_ble_eq_true rfl) w715 w717 w14 (hcs.1) rfl rfl dX10_day_67).goI (fun r67 hc67 => ?_)
    exact ret.i r67 dX10_day_70 (hc67.trans (dF_sum ⟨by omega, by omega⟩).symm)
  rcases Classical.em (w = 4) with k1_4 | k1_4
  · refine r_tsw 4 65 S dX10_day_1 k1_4 (by decide) rfl (by decide) ?_
    refine r_aload_n S dX10_day_65 0 rfl ?_
    refine r_iload_n S dX10_day_66 1 rfl ?_
    refine (c_V_P (As := [.int (iI w)]) (st := []) S (kX10_dayOfPaid hq0 hok ⟨by omega, by omega⟩) moX10_dayOfPaid ⟨by decide, by decide⟩ ⟨by omega, by omega⟩ rfl (Nat.le_of_ble_eq_true rfl) w715 w717 w14 (hcs.1) rfl rfl dX10_day_67).goI (fun r67 hc67 => ?_)
    exact ret.i r67 dX10_day_70 (hc67.trans (dF_sum ⟨by omega, by omega⟩).symm)
  rcases Classical.em (w = 5) with k1_5 | k1_5
  · refine r_tsw 5 71 S dX10_day_1 k1_5 (by decide) rfl (by decide) ?_
    refine r_aload_n S dX10_day_71 0 rfl ?_
    refine x_get_now S hcs gtX10_28_X10 dX10_day_72 ?_
    refine (c_V_P (As := []) (st := []) S (kX7_stamps hst hok) moX7_stamps ⟨by decide, by decide⟩ ⟨by omega, by omega⟩ rfl (Nat.le_of_ble_eq_true rfl) w719 w720 w721 (h1.1) rfl rfl dX10_day_75).goI (fun r75 hc75 => ?_)
    exact ret.i r75 dX10_day_78 (by unfold sDay; rw [if_neg (by omega), if_neg (by omega), if_neg (by omega), if_neg (by omega), if_neg (by omega), if_neg (by omega), if_pos (by omega)]; exact hc75)
  rcases Classical.em (w = 6) with k1_6 | k1_6
  · refine r_tsw 6 79 S dX10_day_1 k1_6 (by decide) rfl (by decide) ?_
    refine r_aload_n S dX10_day_79 0 rfl ?_
    refine x_get_now S hcs gtX10_28_X10 dX10_day_80 ?_
    refine (c_V_P (As := []) (st := []) S (kX7_worth hst hok) moX7_worth ⟨by decide, by decide⟩ ⟨by omega, by omega⟩ rfl (Nat.le_of_ble_eq_true rfl) w522 w523 w524 (h1.1) rfl rfl dX10_day_83).goI (fun r83 hc83 => ?_)
    exact ret.i r83 dX10_day_86 (by unfold sDay; rw [if_neg (by omega), if_neg (by omega), if_neg (by omega), if_neg (by omega), if_neg (by omega), if_neg (by omega), if_neg (by omega), if_pos (by omega)]; exact hc83)
  rcases Classical.em (w = 7) with k1_7 | k1_7
  · refine r_tsw 7 87 S dX10_day_1 k1_7 (by decide) rfl (by decide) ?_
    refine r_aload_n S dX10_day_87 0 rfl ?_
    refine x_get_now S hcs gtX10_28_X10 dX10_day_88 ?_
    refine (c_V_P (As := []) (st := []) S (kX7_piecesOfSheets hst hok) moX7_piecesOfSheets ⟨by decide, by decide⟩ ⟨by omega, by omega⟩ rfl (Nat.le_of_ble_eq_true rfl) w723 w724 w725 (h1.1) rfl rfl dX10_day_91).goI (fun r91 hc91 => ?_)
    exact ret.i r91 dX10_day_94 (by unfold sDay; rw [if_neg (by omega), if_neg (by omega), if_neg (by omega), if_neg (by omega), if_neg (by omega), if_neg (by omega), if_neg (by omega), if_neg (by omega), if_pos (by omega)]; exact hc91)
  rcases Classical.em (w = 8) with k1_8 | k1_8
  · refine r_tsw 8 95 S dX10_day_1 k1_8 (by decide) rfl (by decide) ?_
    refine r_aload_n S dX10_day_95 0 rfl ?_
    refine x_get_reelCount S hcs gtX10_20_X10 dX10_day_96 ?_
    exact ret.i rd dX10_day_99 (by unfold sDay; rw [if_neg (by omega), if_neg (by omega), if_neg (by omega), if_neg (by omega), if_neg (by omega), if_neg (by omega), if_neg (by omega), if_neg (by omega), if_neg (by omega), if_pos (by omega)])
  rcases Classical.em (w = 9) with k1_9 | k1_9
  · refine r_tsw 9 100 S dX10_day_1 k1_9 (by decide) rfl (by decide) ?_
    refine r_aload_n S dX10_day_100 0 rfl ?_
    refine x_get_acts S hcs gtX10_38_X10 dX10_day_101 ?_
    exact ret.i km dX10_day_104 (by unfold sDay; rw [if_neg (by omega), if_neg (by omega), if_neg (by omega), if_neg (by omega), if_neg (by omega), if_neg (by omega), if_neg (by omega), if_neg (by omega), if_neg (by omega), if_neg (by omega)])
  refine r_tswD 105 S dX10_day_1 (by omega) (by omega) (by decide) ?_
  refine r_bipush S dX10_day_105 (by decide) ?_
  exact ret.i (-3) dX10_day_107 (by unfold sDay; rw [if_pos (by omega)])

set_option maxRecDepth 20000 in
set_option maxHeartbeats 2000000 in
theorem kX10_gone {D : va_G} {N0 : Nat → Prop} {B : Nat → Nat} {km rd : Int} {now reel : Int → Int} {hist : Int → Int → Int} {G : gh} (hq : cQ D N0 B now hist km rd reel G) (hok : mOK now) {f : Int} (hf : inR f) : CP ⟨"PostageCounter", "gone", "(I)I"⟩ prog_1_method_23_code 7 (some .int) 3 68 D [.ref (B 0), .int (iI f)] G (pI (fun z => z = sGone now f)) := by
  refine CP.enter (by decide +kernel) (Nat.le_of_ble_eq_true rfl) (fun F S ret => ?_)
  show V F 7 G 0 0 0 [(0, .ref (B 0)), (1, .int (iI f))] []
  have hq0 := hq
  obtain ⟨rf, sa, bf, row, most, hcs, hst, hbf, hrf, hmost⟩ := hq
  obtain ⟨pa, la, wa, ea, h1, ⟨pf, hpa, hpf⟩, ⟨lf, gl, hla, hlf, hgl⟩, ⟨wf, hwa, hwf⟩, ⟨ef, hea, hef⟩⟩ := id hst
  have hn86 : 0 ≤ now 1286 ∧ now 1286 ≤ 60 := ⟨hok.2.2.2.2.2.2.1.1, hok.2.2.2.2.2.2.1.2.1⟩
  refine r_iload_n S dX10_gone_0 1 rfl ?_
  refine (c_S_P (As := [.int (iI f)]) (st := []) S (kX10_isFace (by omega)) moX10_isFace ⟨by decide, by decide⟩ ⟨by omega, by omega⟩ rfl (Nat.le_of_ble_eq_true rfl) w157 w158 rfl dX10_gone_1).goI (fun r1 hc1 => ?_)
  refine r_if_ne S 10 dX10_gone_4 (by decide) (by omega) (fun c4 => ?_) (fun c4 => ?_)
  · skip
    replace hc1 := zz1 hc1 c4
    refine r_iconst S dX10_gone_10 ?_
    refine r_istore_n (L' := [(2, .int (iI 0)), (0, .ref (B 0)), (1, .int (iI f))]) S dX10_gone_11 (by decide) rfl ?_
    refine r_aload_n S dX10_gone_12 1 rfl ?_
    refine x_get_now S hcs gtX10_28_X10 dX10_gone_13 ?_
    refine r_get S gtX10_185_X7 h1.1 rfl dX10_gone_16 ?_
    refine r_astore_n (L' := [(3, .ref la), (2, .int (iI 0)), (0, .ref (B 0)), (1, .int (iI f))]) S dX10_gone_19 (by decide) rfl ?_
    refine r_aload_n S dX10_gone_20 0 rfl ?_
    refine r_alenQ S hla.1 rfl dX10_gone_21 ?_
    rw [show (((now 1286).toNat : Nat) : Int) = now 1286 from Int.toNat_of_nonneg hn86.1]
    refine r_istore (L' := [(4, .int (iI (now 1286))), (3, .ref la), (2, .int (iI 0)), (0, .ref (B 0)), (1, .int (iI f))]) S dX10_gone_22 (by decide) rfl ?_
    refine r_iconst S dX10_gone_24 ?_
    refine r_istore (L' := [(5, .int (iI 0)), (4, .int (iI (now 1286))), (3, .ref la), (2, .int (iI 0)), (0, .ref (B 0)), (1, .int (iI f))]) S dX10_gone_25 (by decide) rfl ?_
    have L27 : ∀ (N : Nat) (sm : Int) (i : Int), (now 1286 - i).toNat < N → (0 ≤ i ∧ i ≤ now 1286) → (sm = sumI (fun l => gl l f) i.toNat) → V F 7 G 0 0 27 [(0, .ref (B 0)), (1, .int (iI f)), (2, .int (iI sm)), (3, .ref la), (4, .int (iI (now 1286))), (5, .int (iI i))] [] := by
      intro N
      induction N with
      | zero => intro sm i hN; exact absurd hN (Nat.not_lt_zero _)
      | succ N ih27 =>
        intro sm i hN27 hi hs
        refine r_iload S dX10_gone_27 5 rfl ?_
        refine r_iload S dX10_gone_29 4 rfl ?_
        refine r_icmp_ge S 66 dX10_gone_31 (by decide) (by omega) (by omega) (fun c31 => ?_) (fun c31 => ?_)
        · skip
          refine r_iload_n S dX10_gone_66 2 rfl ?_
          exact ret.i sm dX10_gone_67 (by unfold sGone; rw [if_pos (by omega), hgl f (by omega) (by omega), hs, show i = now 1286 by omega])
        · skip
          refine r_aload_n S dX10_gone_34 3 rfl ?_
          refine r_iload S dX10_gone_35 5 rfl ?_
          obtain ⟨b37, hf37, hO37⟩ := hlf i (by omega) (by omega)
          rcases hO37 with ⟨his37, hv37, hz37⟩ | ⟨his37, pb37, hv37, hpy37⟩
          · skip
            refine r_aaldS hf37 hla.1 rfl (by omega) (by omega) (by omega) S dX10_gone_37 ?_
            refine r_astore (L' := [(6, .ref b37), (0, .ref (B 0)), (1, .int (iI f)), (2, .int (iI sm)), (3, .ref la), (4, .int (iI (now 1286))), (5, .int (iI i))]) S dX10_gone_38 (by decide) rfl ?_
            refine r_aload S dX10_gone_40 0 rfl ?_
            refine r_get S gtX10_201_X2 hv37.1 rfl dX10_gone_42 ?_
            refine r_ifnullN S 60 dX10_gone_45 (by decide) ?_
            refine r_iinc_e (L' := [(5, .int (iI (1 + i))), (6, .ref b37), (0, .ref (B 0)), (1, .int (iI f)), (2, .int (iI sm)), (3, .ref la), (4, .int (iI (now 1286)))]) (1 + i) (by omega) S dX10_gone_60 6 rfl (by decide) rfl ?_
            refine r_goto S 27 dX10_gone_63 (by decide) ?_
            refine V.sub [2, 3, 4, 5, 6, 0] rfl ?_
            exact ih27 sm (1 + i) (by omega) (by omega) (by rw [sumI_s _ (by omega), hs, hz37 f]; omega)
          · skip
            obtain ⟨qa37, qc37, qs37, cf37, sf37, nf37, p137, pok37, ppl37, pca37, psa37, pcs37, pgot37, pg37⟩ := id hpy37
            refine r_aaldS hf37 hla.1 rfl (by omega) (by omega) (by omega) S dX10_gone_37 ?_
            refine r_astore (L' := [(6, .ref b37), (0, .ref (B 0)), (1, .int (iI f)), (2, .int (iI sm)), (3, .ref la), (4, .int (iI (now 1286))), (5, .int (iI i))]) S dX10_gone_38 (by decide) rfl ?_
            refine r_aload S dX10_gone_40 0 rfl ?_
            refine r_get S gtX10_201_X2 hv37.1 rfl dX10_gone_42 ?_
            refine r_ifnull S dX10_gone_45 ?_
            refine r_iload_n S dX10_gone_48 3 rfl ?_
            refine r_aload S dX10_gone_49 0 rfl ?_
            refine r_get S gtX10_201_X2 hv37.1 rfl dX10_gone_51 ?_
            refine r_iload_n S dX10_gone_54 2 rfl ?_
            refine (c_V_P (As := [.int (iI f)]) (st := [.int (iI sm)]) S (kX5_stampsOf hpy37 (by omega) ⟨by omega, by omega⟩) moX5_stampsOf ⟨by decide, by decide⟩ ⟨by omega, by omega⟩ rfl (Nat.le_of_ble_eq_true rfl) w733 w734 w735 (p137.1) rfl rfl dX10_gone_55).goI (fun r55 hc55 => ?_)
            refine r_iadd_e (r55 + sm) (by omega) S dX10_gone_58 ?_
            refine r_istore_n (L' := [(2, .int (iI (r55 + sm))), (6, .ref b37), (0, .ref (B 0)), (1, .int (iI f)), (3, .ref la), (4, .int (iI (now 1286))), (5, .int (iI i))]) S dX10_gone_59 (by decide) rfl ?_
            refine r_iinc_e (L' := [(5, .int (iI (1 + i))), (2, .int (iI (r55 + sm))), (6, .ref b37), (0, .ref (B 0)), (1, .int (iI f)), (3, .ref la), (4, .int (iI (now 1286)))]) (1 + i) (by omega) S dX10_gone_60 6 rfl (by decide) rfl ?_
            refine r_goto S 27 dX10_gone_63 (by decide) ?_
            refine V.sub [3, 4, 1, 5, 6, 0] rfl ?_
            exact ih27 (r55 + sm) (1 + i) (by omega) (by omega) (by rw [sumI_s _ (by omega), hs, hc55]; exact Int.add_comm _ _)
    refine V.sub [4, 5, 3, 2, 1, 0] rfl ?_
    exact L27 _ 0 0 (Nat.lt_succ_self _) (by omega) rfl
  · skip
    replace hc1 := zz0 hc1 c4
    refine r_bipush S dX10_gone_7 (by decide) ?_
    exact ret.i (-3) dX10_gone_9 (by unfold sGone; rw [if_neg (by omega)])
