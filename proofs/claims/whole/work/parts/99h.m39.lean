set_option maxRecDepth 20000 in
set_option maxHeartbeats 2000000 in
theorem kX10_leastFrom {D : va_G} {N0 : Nat → Prop} {B : Nat → Nat} {km rd : Int} {now rf : Int → Int} {sa : Nat} {bf : Int → Option Nat} {row : Int → Int → Int} {most : Int} {G : gh} (hcs : cS D B rd km rf sa bf row most G) (hst : stO D N0 G now sa) (hmost : 0 ≤ most ∧ most < 3000) (hok : mOK now) (hcN : ∀ b, cM B b → N0 b) {pr : Int} (hpr : 0 ≤ pr ∧ pr ≤ 2000) : CT ⟨"PostageCounter", "leastFrom", "(I)I"⟩ prog_1_method_35_code 3 (some .int) 4 95 0 0 D [.ref (B 0), .int (iI pr)] G (cM B) (tI (fun z G' => ∃ (row' : Int → Int → Int) (most' : Int), cS D B rd km rf sa bf row' most' G' ∧ (0 ≤ most' ∧ most' < 3000) ∧ lfR now row' most' pr z)) := by
  refine CT.enter (by decide +kernel) (Nat.le_of_ble_eq_true rfl) (fun F S ret hb hM hI => ?_)
  show V F 3 G 0 0 0 [(0, .ref (B 0)), (1, .int (iI pr))] []
  obtain ⟨pa, la, wa, ea, h1, ⟨pf, hpa, hpf⟩, ⟨lf, gl, hla, hlf, hgl⟩, ⟨wf, hwa, hwf⟩, ⟨ef, hea, hef⟩⟩ := id hst
  have hn86 : 0 ≤ now 1286 ∧ now 1286 ≤ 60 := ⟨hok.2.2.2.2.2.2.1.1, hok.2.2.2.2.2.2.1.2.1⟩
  refine r_aload_n S dX10_leastFrom_0 0 rfl ?_
  refine x_get_now S hcs gtX10_28_X10 dX10_leastFrom_1 ?_
  refine (c_V_P (As := []) (st := []) S (kX7_worth hst hok) moX7_worth ⟨by decide, by decide⟩ ⟨(by show _ ≤ 0; omega), (by show _ ≤ 0; omega)⟩ rfl (Nat.le_of_ble_eq_true rfl) w522 w523 w524 (h1.1) rfl rfl dX10_leastFrom_4).goI (fun r4 hc4 => ?_)
  have hAl := allF_bd hok.1 hok.2.1
  rw [hc4]
  refine r_istore_n (L' := [(2, .int (iI (allF now))), (0, .ref (B 0)), (1, .int (iI pr))]) S dX10_leastFrom_7 (by decide) rfl ?_
  refine r_iload_n S dX10_leastFrom_8 0 rfl ?_
  refine r_iload_n S dX10_leastFrom_9 2 rfl ?_
  refine r_icmp_ge S 15 dX10_leastFrom_10 (by decide) (by omega) (by omega) (fun c10 => ?_) (fun c10 => ?_)
  · skip
    refine r_aload_n S dX10_leastFrom_15 1 rfl ?_
    refine x_get_choices S hcs gtX10_12_X10 dX10_leastFrom_16 ?_
    refine r_aload_n S dX10_leastFrom_19 1 rfl ?_
    refine x_get_now S hcs gtX10_28_X10 dX10_leastFrom_20 ?_
    refine r_get S gtX10_66_X7 h1.1 rfl dX10_leastFrom_23 ?_
    refine r_iload_n S dX10_leastFrom_26 0 rfl ?_
    refine r_iload_n S dX10_leastFrom_27 2 rfl ?_
    refine r_sipush S dX10_leastFrom_28 (by decide) ?_
    refine r_iadd_e (1000 + pr) (by omega) S dX10_leastFrom_31 ?_
    refine r_iconst S dX10_leastFrom_32 ?_
    refine r_isub_e (999 + pr) (by omega) S dX10_leastFrom_33 ?_
    refine r_mmin w527 w87 w41 w88 (by decide) (Nat.le_of_ble_eq_true rfl) ⟨by omega, by omega⟩ (by omega) (by omega) S dX10_leastFrom_34 ?_
    refine (c_V_T (As := [.ref pa, .int (iI (min (allF now) (999 + pr)))]) (st := []) S (kX1_reckon hcs.2.1 hok (fun b h => hcN b (cR_M h)) ⟨pf, hpa, hpf⟩ (hi := (min (allF now) (999 + pr))) ⟨by omega, by omega⟩) moX1_reckon ⟨by decide, by decide⟩ ⟨(by show _ ≤ 0; omega), (by show _ ≤ 0; omega)⟩ rfl (Nat.le_of_ble_eq_true rfl) w528 w529 w530 hcs.2.1.1 rfl rfl dX10_leastFrom_37).goV S hb (fun x e => hM x (cR_M e)) (fun G37 hy37 hc37 => ?_)
    obtain ⟨rw37, hd37, hw37⟩ := hc37
    have hcs37 := cS.cc hcs (fun b e hn hg => hy37 b e hg (fun ⟨i, i0, i1, ei⟩ => hn i i0 i1 ei)) hd37
    have hx37 := gExt.up hy37 (fun a h => cR_M h)
    have hwb37 := waysC_bd hok hw37
    have hxc37 : gExt G G37 (cM B) := hx37
    refine r_aload_n S dX10_leastFrom_40 1 rfl ?_
    refine x_get_choices S hcs37 gtX10_12_X10 dX10_leastFrom_41 ?_
    refine r_iload_n S dX10_leastFrom_44 2 rfl ?_
    refine (c_V_P (As := [.int (iI pr)]) (st := []) S (kX1_firstSum hcs37.2.1 ⟨by omega, by omega⟩ (fun s s0 s1 => hwb37 0 s (by decide) (by decide) ⟨s0, s1⟩) hpr) moX1_firstSum ⟨by decide, by decide⟩ ⟨(by show _ ≤ 0; omega), (by show _ ≤ 0; omega)⟩ rfl (Nat.le_of_ble_eq_true rfl) w560 w561 w562 (hcs37.2.1.1) rfl rfl dX10_leastFrom_45).goI (fun r45 hc45 => ?_)
    have hlf := lfR_of hok hpr (by omega) (show min (allF now) (999 + pr) = min (allF now) (pr + 999) by rw [Int.add_comm]) hw37 hc45
    have hlb : -1 ≤ r45 ∧ r45 ≤ 2999 := by rcases hlf with z | z <;> omega
    exact ret.ti r45 dX10_leastFrom_48 (by omega) (by omega) ⟨rw37, _, hcs37, ⟨by omega, by omega⟩, hlf⟩
  · skip
    refine r_iconst S dX10_leastFrom_13 ?_
    exact ret.ti (-1) dX10_leastFrom_14 (by omega) (by omega) ⟨row, most, hcs, hmost, Or.inl ⟨by omega, rfl⟩⟩

set_option maxRecDepth 20000 in
set_option maxHeartbeats 2000000 in
theorem kX10_fewest {D : va_G} {N0 : Nat → Prop} {B : Nat → Nat} {km rd : Int} {now reel : Int → Int} {hist : Int → Int → Int} {G : gh} (hq : cQ D N0 B now hist km rd reel G) (hcN : ∀ b, cM B b → N0 b) (hN : Nok N0 G) (hok : mOK now) (hkm : 0 ≤ km ∧ km ≤ 32) {sm : Int} (hsm : inR sm) : CT ⟨"PostageCounter", "fewest", "(I)I"⟩ prog_1_method_20_code 2 (some .int) 4 95 0 0 D [.ref (B 0), .int (iI sm)] G (cM B) (tI (fun z G' => sFewestC now sm z ∧ cQ D N0 B now hist km rd reel G')) := by
  refine CT.enter (by decide +kernel) (Nat.le_of_ble_eq_true rfl) (fun F S ret hb hM hI => ?_)
  show V F 2 G 0 0 0 [(0, .ref (B 0)), (1, .int (iI sm))] []
  have hq0 := hq
  obtain ⟨rf, sa, bf, row, most, hcs, hst, hbf, hrf, hmost⟩ := hq
  obtain ⟨pa, la, wa, ea, h1, ⟨pf, hpa, hpf⟩, ⟨lf, gl, hla, hlf, hgl⟩, ⟨wf, hwa, hwf⟩, ⟨ef, hea, hef⟩⟩ := id hst
  have hn86 : 0 ≤ now 1286 ∧ now 1286 ≤ 60 := ⟨hok.2.2.2.2.2.2.1.1, hok.2.2.2.2.2.2.1.2.1⟩
  refine r_iload_n S dX10_fewest_0 1 rfl ?_
  refine r_iconst S dX10_fewest_1 ?_
  refine r_sipush S dX10_fewest_2 (by decide) ?_
  refine (c_S_P (As := [.int (iI sm), .int (iI 0), .int (iI 2500)]) (st := []) S (kX10_within (by omega) (by omega) (by omega)) moX10_within ⟨by decide, by decide⟩ ⟨(by show _ ≤ 0; omega), (by show _ ≤ 0; omega)⟩ rfl (Nat.le_of_ble_eq_true rfl) w154 w155 rfl dX10_fewest_5).goI (fun r5 hc5 => ?_)
  refine r_if_ne S 14 dX10_fewest_8 (by decide) (by omega) (fun c8 => ?_) (fun c8 => ?_)
  · skip
    replace hc5 := zz1 hc5 c8
    refine r_iload_n S dX10_fewest_14 1 rfl ?_
    refine r_aload_n S dX10_fewest_15 0 rfl ?_
    refine x_get_now S hcs gtX10_28_X10 dX10_fewest_16 ?_
    refine (c_V_P (As := []) (st := [.int (iI sm)]) S (kX7_worth hst hok) moX7_worth ⟨by decide, by decide⟩ ⟨(by show _ ≤ 0; omega), (by show _ ≤ 0; omega)⟩ rfl (Nat.le_of_ble_eq_true rfl) w522 w523 w524 (h1.1) rfl rfl dX10_fewest_19).goI (fun r19 hc19 => ?_)
    have hAl := allF_bd hok.1 hok.2.1
    rw [hc19]
    refine r_icmp_le S 27 dX10_fewest_22 (by decide) (by omega) (by omega) (fun c22 => ?_) (fun c22 => ?_)
    · skip
      refine r_aload_n S dX10_fewest_27 0 rfl ?_
      refine x_get_choices S hcs gtX10_12_X10 dX10_fewest_28 ?_
      refine r_aload_n S dX10_fewest_31 0 rfl ?_
      refine x_get_now S hcs gtX10_28_X10 dX10_fewest_32 ?_
      refine r_get S gtX10_66_X7 h1.1 rfl dX10_fewest_35 ?_
      refine r_iload_n S dX10_fewest_38 1 rfl ?_
      refine (c_V_T (As := [.ref pa, .int (iI sm)]) (st := []) S (kX1_reckon hcs.2.1 hok (fun b h => hcN b (cR_M h)) ⟨pf, hpa, hpf⟩ (hi := sm) ⟨by omega, by omega⟩) moX1_reckon ⟨by decide, by decide⟩ ⟨(by show _ ≤ 0; omega), (by show _ ≤ 0; omega)⟩ rfl (Nat.le_of_ble_eq_true rfl) w528 w529 w530 hcs.2.1.1 rfl rfl dX10_fewest_39).goV S hb (fun x e => hM x (cR_M e)) (fun G39 hy39 hc39 => ?_)
      obtain ⟨rw39, hd39, hw39⟩ := hc39
      have hcs39 := cS.cc hcs (fun b e hn hg => hy39 b e hg (fun ⟨i, i0, i1, ei⟩ => hn i i0 i1 ei)) hd39
      have hx39 := gExt.up hy39 (fun a h => cR_M h)
      have hwb39 := waysC_bd hok hw39
      have hxc39 : gExt G G39 (cM B) := hx39
      refine r_aload_n S dX10_fewest_42 0 rfl ?_
      refine x_get_choices S hcs39 gtX10_12_X10 dX10_fewest_43 ?_
      refine r_iload_n S dX10_fewest_46 1 rfl ?_
      refine (c_V_P (As := [.int (iI sm)]) (st := []) S (kX1_stampsFor hcs39.2.1 ⟨by omega, by omega⟩ (fun s s0 s1 => hwb39 0 s (by decide) (by decide) ⟨s0, s1⟩) (by omega)) moX1_stampsFor ⟨by decide, by decide⟩ ⟨(by show _ ≤ 0; omega), (by show _ ≤ 0; omega)⟩ rfl (Nat.le_of_ble_eq_true rfl) w703 w704 w705 (hcs39.2.1.1) rfl rfl dX10_fewest_47).goI (fun r47 hc47 => ?_)
      have hfw := few_of hok ⟨by omega, by omega⟩ hw39 hc47
      have hfb : -1 ≤ r47 ∧ r47 ≤ 1000000 := by have := hwb39 0 sm (by decide) (by decide) ⟨by omega, by omega⟩; rw [hc47]; split <;> omega
      exact ret.ti r47 dX10_fewest_50 (by omega) (by omega) ⟨Or.inr ⟨⟨by omega, by omega⟩, hfw⟩, (cQ.keep hcs39 ⟨by omega, by omega⟩ hxc39 hcN hst hbf hrf)⟩
    · skip
      refine r_iconst S dX10_fewest_25 ?_
      exact ret.ti (-1) dX10_fewest_26 (by omega) (by omega) ⟨Or.inr ⟨⟨by omega, by omega⟩, fun best hw => Or.inr ⟨few_hi hok hw ⟨by omega, by omega⟩ (by omega), rfl⟩⟩, hq0⟩
  · skip
    replace hc5 := zz0 hc5 c8
    refine r_bipush S dX10_fewest_11 (by decide) ?_
    exact ret.ti (-3) dX10_fewest_13 (by omega) (by omega) ⟨Or.inl ⟨by omega, rfl⟩, hq0⟩

set_option maxRecDepth 20000 in
set_option maxHeartbeats 2000000 in
theorem kX10_least {D : va_G} {N0 : Nat → Prop} {B : Nat → Nat} {km rd : Int} {now reel : Int → Int} {hist : Int → Int → Int} {G : gh} (hq : cQ D N0 B now hist km rd reel G) (hcN : ∀ b, cM B b → N0 b) (hN : Nok N0 G) (hok : mOK now) (hkm : 0 ≤ km ∧ km ≤ 32) {pr : Int} (hpr : inR pr) : CT ⟨"PostageCounter", "least", "(I)I"⟩ prog_1_method_21_code 2 (some .int) 5 117 0 0 D [.ref (B 0), .int (iI pr)] G (cM B) (tI (fun z G' => sLeastC now pr z ∧ cQ D N0 B now hist km rd reel G')) := by
  refine CT.enter (by decide +kernel) (Nat.le_of_ble_eq_true rfl) (fun F S ret hb hM hI => ?_)
  show V F 2 G 0 0 0 [(0, .ref (B 0)), (1, .int (iI pr))] []
  have hq0 := hq
  obtain ⟨rf, sa, bf, row, most, hcs, hst, hbf, hrf, hmost⟩ := hq
  obtain ⟨pa, la, wa, ea, h1, ⟨pf, hpa, hpf⟩, ⟨lf, gl, hla, hlf, hgl⟩, ⟨wf, hwa, hwf⟩, ⟨ef, hea, hef⟩⟩ := id hst
  have hn86 : 0 ≤ now 1286 ∧ now 1286 ≤ 60 := ⟨hok.2.2.2.2.2.2.1.1, hok.2.2.2.2.2.2.1.2.1⟩
  refine r_iload_n S dX10_least_0 1 rfl ?_
  refine r_iconst S dX10_least_1 ?_
  refine r_sipush S dX10_least_2 (by decide) ?_
  refine (c_S_P (As := [.int (iI pr), .int (iI 0), .int (iI 2000)]) (st := []) S (kX10_within (by omega) (by omega) (by omega)) moX10_within ⟨by decide, by decide⟩ ⟨(by show _ ≤ 0; omega), (by show _ ≤ 0; omega)⟩ rfl (Nat.le_of_ble_eq_true rfl) w154 w155 rfl dX10_least_5).goI (fun r5 hc5 => ?_)
  refine r_if_eq S 19 dX10_least_8 (by decide) (by omega) (fun c8 => ?_) (fun c8 => ?_)
  · skip
    replace hc5 := zz0 hc5 c8
    refine r_bipush S dX10_least_19 (by decide) ?_
    exact ret.ti (-3) dX10_least_21 (by omega) (by omega) ⟨Or.inl ⟨by omega, rfl⟩, hq0⟩
  · skip
    replace hc5 := zz1 hc5 c8
    refine r_aload_n S dX10_least_11 0 rfl ?_
    refine r_iload_n S dX10_least_12 1 rfl ?_
    refine (c_V_T (As := [.int (iI pr)]) (st := []) S (kX10_leastFrom hcs hst hmost hok hcN ⟨by omega, by omega⟩) moX10_leastFrom ⟨by decide, by decide⟩ ⟨(by show _ ≤ 0; omega), (by show _ ≤ 0; omega)⟩ rfl (Nat.le_of_ble_eq_true rfl) w518 w520 w5 (hcs.1) rfl rfl dX10_least_13).goI S hb hM (fun r13 G13 hx13 hc13 => ?_)
    have hxc13 : gExt G G13 (cM B) := hx13
    obtain ⟨rw13, mo13, hcs13, hmo13, hlf13⟩ := hc13
    have hlb13 : -1 ≤ r13 ∧ r13 ≤ 2999 := by rcases hlf13 with z | z <;> omega
    refine r_goto S 21 dX10_least_16 (by decide) ?_
    exact ret.ti r13 dX10_least_21 (by omega) (by omega) ⟨Or.inr ⟨⟨by omega, by omega⟩, lfR_least hok ⟨by omega, by omega⟩ hmo13 hlf13⟩, (cQ.keep hcs13 hmo13 hxc13 hcN hst hbf hrf)⟩
