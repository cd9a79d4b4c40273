section PAY3
variable {now nw : Int → Int} {l sum : Int} {cf : Int → Int}
theorem pay_w {row : Int → Int → Int} {most pr z : Int} (h : lfR now row most pr z) (hz : z ≠ -1) : waysC now row most := by
  rcases h with ⟨-, e⟩ | h
  · exact absurd e hz
  · exact h.1
theorem pay_z {row : Int → Int → Int} {most pr z : Int} (h : lfR now row most pr z) (hz : z ≠ -1) (hp : 0 ≤ pr) : 0 ≤ z ∧ z ≤ most := by
  rcases h with ⟨-, e⟩ | h
  · exact absurd e hz
  · exact ⟨by have := h.2.1; omega, h.2.2.1⟩
theorem pay_g {q : Int} {x : BitVec 64} (h : (now q = -1 → x = 0#64) ∧ (now q ≠ -1 → giveT now q (cf q) (PB x))) : giveT now q (cf q) (PB x) := by
  by_cases e : now q = -1
  · rw [h.1 e]
    exact Or.inr (Or.inr ⟨fun z => by omega, fun k _ _ z => bB_0 z⟩)
  · exact h.2 e
theorem pay_r1 {r : sR} (h : sPay now l r) (hl : ¬ (0 ≤ l ∧ l < now 1286)) : r = (-3, none) := by
  rcases h with ⟨-, h⟩ | ⟨a, -⟩ | ⟨a, -⟩
  · exact h
  · exact absurd a hl
  · exact absurd a hl
theorem pay_r2 {r : sR} (h : sPay now l r) (hl : 0 ≤ l ∧ l < now 1286) (h1 : now (1467 + l) = 1) : r = (-4, none) := by
  rcases h with ⟨a, -⟩ | ⟨-, -, h⟩ | ⟨-, a, -⟩
  · exact absurd hl a
  · exact h
  · exact absurd h1 a
theorem pay_r3 {row : Int → Int → Int} {most : Int} {r : sR} (hok : mOK now) (hm : 0 ≤ most ∧ most < 3000) (hl : 0 ≤ l ∧ l < now 1286) (h0 : now (1467 + l) = 0) (hlf : lfR now row most (now (1287 + l)) sum) (hs : sum = -1) (h : sPay now l r) : r = (-1, none) := by
  have hN := hok.2.2.2.2.2.2.1.2.2 l hl.1 hl.2
  rcases h with ⟨a, -⟩ | ⟨-, a, -⟩ | ⟨-, -, best, s2, hw, hle, h⟩
  · exact absurd hl a
  · omega
  · have e := isLeast_one hN.1 (lfR_least hok ⟨hN.1, hN.2.1⟩ hm hlf best hw) hle
    rcases h with ⟨-, h⟩ | ⟨a, -⟩
    · exact h
    · omega
theorem pay_fin {row : Int → Int → Int} {most : Int} {lf2 : Int → Int} {sf : Int → BitVec 64} {r : sR} (hok : mOK now) (hl : 0 ≤ l ∧ l < now 1286) (h0 : now (1467 + l) = 0) (hm : 0 ≤ most ∧ most < 3000) (hlf : lfR now row most (now (1287 + l)) sum) (hs : sum ≠ -1) (hcf : cfR now row most sum cf lf2 10) (hS : payS now l sum cf (fun q => PB (sf q)) nw) (h : sPay now l r) : ∃ nw' : Int → Int, r = (sum, some nw') ∧ (∀ j : Int, ¬ (2127 + 20 * l ≤ j ∧ j < 2147 + 20 * l) → nw' j = nw j) ∧ ∀ q k : Int, 0 ≤ q → q < 10 → 0 ≤ k → k < 64 → tq nw' l q k = tq nw l q k := by
  have hN := hok.2.2.2.2.2.2.1.2.2 l hl.1 hl.2
  have hl60 : l < 60 := by have := hok.2.2.2.2.2.2.1.2.1; omega
  rcases h with ⟨a, -⟩ | ⟨-, a, -⟩ | ⟨-, -, best, s2, hw, hle, h⟩
  · exact absurd hl a
  · omega
  · have e := isLeast_one hN.1 (lfR_least hok ⟨hN.1, hN.2.1⟩ hm hlf best hw) hle
    subst e
    rcases h with ⟨a, -⟩ | ⟨-, nw', hp, h⟩
    · exact absurd a hs
    · obtain ⟨cnt, lft, T, t0, t1, hS'⟩ := payS_of hok hl h0 hp
      have hc := (pay_cnt hok hw (pay_w hlf hs) hm.2 hcf t0 t1 10 (Nat.le_refl _)).2
      have hcc : ∀ q : Int, 0 ≤ q → q < 10 → cnt q = cf q := fun q q0 q1 => (hc q q0 q1).symm
      have hag := payS_ag ⟨hl.1, hl60⟩ hS hS' hcc (fun q k q0 q1 k0 k1 => by
        have g1 := (hS.1 q q0 q1).2.2
        have g2 := (hS'.1 q q0 q1).2.2
        rw [hcc q q0 q1] at g2
        exact giveT_one g2 g1 k k0 k1)
      exact ⟨nw', h, hag.1, hag.2⟩
theorem pay_py {D : va_G} {N : Nat → Prop} {G : gh} {sf : Int → BitVec 64} {b fa ca sa : Nat} (hok : mOK now) (hS : payS now l sum cf (fun q => PB (sf q)) nw) (hpb : Im N G b (eO 5 [.int (iI sum), .ref fa, .ref ca, .ref sa])) (hpl : plA D N G now fa) (hca : Im N G ca (eI D 10 cf)) (hsa : Im N G sa (eJ D 10 (fun j => lB (sf j)))) : pyO D N G nw l b (fun fc => sumI (fun q => goneF now q (cf q) fc) 10) := by
  refine ⟨fa, ca, sa, cf, sf, now, by rw [hS.2.2.2.2.1]; exact hpb, hok, hpl, hca, hsa, fun p p0 p1 => ?_, hS.2.2.1, fun fc _ _ => rfl⟩
  have h1 := (hS.1 p p0 p1).1
  obtain ⟨d1, d2, d3⟩ := hS.2.1 p p0 p1
  refine ⟨d1.symm, h1.1, h1.2, fun k k0 k1 => ?_⟩
  have hk := d3 k k0 k1
  constructor
  · intro z
    exact (hk.1 z).2
  · intro z
    apply Classical.byContradiction
    intro y
    have := (hk.2 y).2
    omega
end PAY3

set_option maxRecDepth 20000 in
set_option maxHeartbeats 2000000 in
theorem kX10_pay {D : va_G} {N0 : Nat → Prop} {B : Nat → Nat} {km rd : Int} {now reel : Int → Int} {hist : Int → Int → Int} {G : gh} (hq : cQ D N0 B now hist km rd reel G) (hcN : ∀ b, cM B b → N0 b) (hN : Nok N0 G) (hok : mOK now) (hkm : 0 ≤ km ∧ km ≤ 32) {l : Int} (hlr : inR l) : CT ⟨"PostageCounter", "pay", "(I)I"⟩ prog_1_method_16_code 5 (some .int) 8 187 90 340 D [.ref (B 0), .int (iI l)] G (cM B) (tI (fun z G' => ∀ r : sR, sPay now l r → cEnd D N0 B now hist km rd reel r z G')) := by
  refine CT.enter (by decide +kernel) (Nat.le_of_ble_eq_true rfl) (fun F S ret hb hM hI => ?_)
  show V F 5 G 0 0 0 [(0, .ref (B 0)), (1, .int (iI l))] []
  have hq0 := hq
  obtain ⟨rf, sa, bf, row, most, hcs, hst, hbf, hrf, hmost⟩ := hq
  obtain ⟨pa, la, wa, ea, h1, ⟨pf, hpa, hpf⟩, ⟨lf, gl, hla, hlf, hgl⟩, ⟨wf, hwa, hwf⟩, ⟨ef, hea, hef⟩⟩ := id hst
  have hn86 : 0 ≤ now 1286 ∧ now 1286 ≤ 60 := ⟨hok.2.2.2.2.2.2.1.1, hok.2.2.2.2.2.2.1.2.1⟩
  refine r_aload_n S dX10_pay_0 0 rfl ?_
  refine r_iload_n S dX10_pay_1 1 rfl ?_
  refine (c_V_P (As := [.int (iI l)]) (st := []) S (kX10_isLetter hq0 hok (by omega)) moX10_isLetter ⟨by decide, by decide⟩ ⟨(by show _ ≤ 90; omega), (by show _ ≤ 340; omega)⟩ rfl (Nat.le_of_ble_eq_true rfl) w514 w516 w4 (hcs.1) rfl rfl dX10_pay_2).goI (fun r2 hc2 => ?_)
  refine r_if_ne S 11 dX10_pay_5 (by decide) (by omega) (fun c5 => ?_) (fun c5 => ?_)
  · skip
    replace hc2 := zz1 hc2 c5
    refine r_aload_n S dX10_pay_11 0 rfl ?_
    refine x_get_now S hcs gtX10_28_X10 dX10_pay_12 ?_
    refine r_get S gtX10_185_X7 h1.1 rfl dX10_pay_15 ?_
    refine r_iload_n S dX10_pay_18 1 rfl ?_
    obtain ⟨b19, hf19, hO19⟩ := hlf l (by omega) (by omega)
    rcases hO19 with ⟨his19, hv19, hz19⟩ | ⟨his19, pb19, hv19, hpy19⟩
    · skip
      refine r_aaldS hf19 hla.1 rfl (by omega) (by omega) (by omega) S dX10_pay_19 ?_
      refine r_astore_n (L' := [(2, .ref b19), (0, .ref (B 0)), (1, .int (iI l))]) S dX10_pay_20 (by decide) rfl ?_
      refine r_aload_n S dX10_pay_21 0 rfl ?_
      refine r_get S gtX10_201_X2 hv19.1 rfl dX10_pay_22 ?_
      refine r_ifnullN S 31 dX10_pay_25 (by decide) ?_
      have hl0 : 0 ≤ l ∧ l < now 1286 := ⟨by omega, by omega⟩
      have hl60 : l < 60 := by omega
      have hNl := hok.2.2.2.2.2.2.1.2.2 l hl0.1 hl0.2
      refine r_aload_n S dX10_pay_31 1 rfl ?_
      refine r_aload_n S dX10_pay_32 0 rfl ?_
      refine r_get S gtX10_205_X2 hv19.1 rfl dX10_pay_33 ?_
      refine (c_V_T (As := [.int (iI (now (1287 + l)))]) (st := []) S (kX10_leastFrom hcs hst hmost hok hcN ⟨hNl.1, hNl.2.1⟩) moX10_leastFrom ⟨by decide, by decide⟩ ⟨(by show _ ≤ 90; omega), (by show _ ≤ 340; omega)⟩ rfl (Nat.le_of_ble_eq_true rfl) w518 w520 w5 (hcs.1) rfl rfl dX10_pay_36).goI S hb hM (fun r36 G36 hx36 hc36 => ?_)
      have hxc36 : gExt G G36 (cM B) := hx36
      obtain ⟨rw36, mo36, hcs36, hmo36, hlf36⟩ := hc36
      have hlb36 : -1 ≤ r36 ∧ r36 ≤ 2999 := by rcases hlf36 with z | z <;> omega
      refine r_istore_n (L' := [(3, .int (iI r36)), (2, .ref b19), (0, .ref (B 0)), (1, .int (iI l))]) S dX10_pay_39 (by decide) rfl ?_
      refine r_iload_n S dX10_pay_40 0 rfl ?_
      refine r_iconst S dX10_pay_41 ?_
      refine r_icmp_ne S 47 dX10_pay_42 (by decide) (by omega) (by omega) (fun c42 => ?_) (fun c42 => ?_)
      · skip
        have hwc := pay_w hlf36 (by omega)
        have hzb := pay_z hlf36 (by omega) hNl.1
        refine r_aload_n S dX10_pay_47 2 rfl ?_
        refine x_get_choices S hcs36 gtX10_12_X10 dX10_pay_48 ?_
        refine r_aload_n S dX10_pay_51 2 rfl ?_
        refine x_get_now S hcs36 gtX10_28_X10 dX10_pay_52 ?_
        refine r_get S gtX10_66_X7 (Im.mono h1 (gExt.up hxc36 hcN)).1 rfl dX10_pay_55 ?_
        refine r_iload_n S dX10_pay_58 0 rfl ?_
        refine (c_V_T (As := [.ref pa, .int (iI r36)]) (st := []) S (kX1_countsFor (sm := r36) hcs36.2.1 hmo36 hok (plA.mono ⟨pf, hpa, hpf⟩ (gExt.up hxc36 hcN)) (waysC_bd hok hwc) ⟨by omega, by omega⟩) moX1_countsFor ⟨by decide, by decide⟩ ⟨(by show _ ≤ 90; omega), (by show _ ≤ 340; omega)⟩ rfl (Nat.le_of_ble_eq_true rfl) w564 w565 w566 (hcs36.2.1.1) rfl rfl dX10_pay_59).goR S hb (fun _ z => z.elim) (fun r59 G59 hx59 hc59 => ?_)
        have hxc59 := hxc36.tr2 (gLe.ext hx59.le)
        obtain ⟨hf59, cf, lf2, hca59, hcf⟩ := hc59
        have hcf2 : ∀ q : Int, 0 ≤ q → q < 10 → 0 ≤ cf q ∧ cf q ≤ now (10 + q) ∧ (now q = 3 → cf q % 2 = 0) := fun q q0 q1 => by have h := (hcf.2.2 q q0 q1).1; exact ⟨h.1.1, h.1.2, h.2.1⟩
        have hba59 := cS.nea hcs36 hf59
        have hnn59 := Nok.new (Nok.cs hN hxc36 hcs36) hf59
        refine r_astore (L' := [(4, .ref r59), (3, .int (iI r36)), (2, .ref b19), (0, .ref (B 0)), (1, .int (iI l))]) S dX10_pay_62 (by decide) rfl ?_
        refine r_aload_n S dX10_pay_64 3 rfl ?_
        refine r_aload_n S dX10_pay_65 3 rfl ?_
        refine x_get_now S (hcs36.le hx59.le) gtX10_28_X10 dX10_pay_66 ?_
        refine r_iload_n S dX10_pay_69 4 rfl ?_
        refine r_new S hb nwX10_214 (by show _ ≤ 90; omega) (by show _ ≤ 340; omega) dX10_pay_70 (fun a70 hn70 hw70 => ?_)
        have hba70 := (hcs36.le hx59.le).nea hn70
        have hnn70 := (Nok.cs hN hxc59 (hcs36.le hx59.le)).new hn70
        refine k_new hn70 (fun G70 hl70 hc70 => ?_)
        have ne_r59_a70 : r59 ≠ a70 := gLe.ne hn70 hca59
        have hxc70 := hxc59.tr2 (gLe.ext hl70)
        refine r_dup S dX10_pay_73 ?_
        refine r_iload_n S dX10_pay_74 1 rfl ?_
        refine r_aload_n S dX10_pay_75 3 rfl ?_
        refine x_get_now S ((hcs36.le hx59.le).le hl70) gtX10_28_X10 dX10_pay_76 ?_
        refine r_get S gtX10_66_X7 (Im.mono h1 (gExt.up hxc70 hcN)).1 rfl dX10_pay_79 ?_
        refine r_aload S dX10_pay_82 0 rfl ?_
        refine r_aload_n S dX10_pay_84 3 rfl ?_
        refine x_get_now S ((hcs36.le hx59.le).le hl70) gtX10_28_X10 dX10_pay_85 ?_
        refine r_get S gtX10_66_X7 (Im.mono h1 (gExt.up hxc70 hcN)).1 rfl dX10_pay_88 ?_
        refine r_aload S dX10_pay_91 0 rfl ?_
        refine (c_S_T (As := [.ref pa, .ref r59]) (st := [.ref r59, .ref pa, .int (iI r36), .ref a70, .ref a70, .int (iI l), .ref sa, .ref (B 0)]) S (kX5_tearings (plA.mono ⟨pf, hpa, hpf⟩ (gExt.up hxc70 hcN)) hok (hl70 _ _ hca59) hcf2) moX5_tearings ⟨by decide, by decide⟩ ⟨(by show _ ≤ 90; omega), (by show _ ≤ 340; omega)⟩ rfl (Nat.le_of_ble_eq_true rfl) w576 w577 rfl dX10_pay_93).goR S hb (fun _ z => z.elim) (fun r93 G93 hx93 hc93 => ?_)
        have hxc93 := hxc70.tr2 (gLe.ext hx93.le)
        obtain ⟨hf93, sf, hsa93, hsf⟩ := hc93
        have hgv : ∀ q : Int, 0 ≤ q → q < 10 → (0 ≤ cf q ∧ cf q ≤ now (10 + q)) ∧ mayF now q (cf q) ∧ giveT now q (cf q) (PB (sf q)) := fun q q0 q1 => ⟨⟨(hcf2 q q0 q1).1, (hcf2 q q0 q1).2.1⟩, (hcf2 q q0 q1).2.2, pay_g (hsf q q0 q1)⟩
        have hS := nwF_S (sum := r36) ⟨hl0.1, hl60⟩ hgv
        have hokF := payS_mOK hok hl0 ⟨by omega, by omega⟩ hS
        have hba93 := cS.nea ((hcs36.le hx59.le).le hl70) hf93
        have hnn93 := Nok.new (Nok.cs hN hxc70 ((hcs36.le hx59.le).le hl70)) hf93
        have ne_r59_r93 : r59 ≠ r93 := gLe.ne hf93 (hl70 _ _ hca59)
        have ne_a70_r93 : a70 ≠ r93 := gLe.ne hf93 hc70
        refine (c_I_T (As := [.int (iI r36), .ref pa, .ref r59, .ref r93]) (st := [.ref a70, .int (iI l), .ref sa, .ref (B 0)]) (M1 := fun x => x = a70) S (kX5_init (sm := r36) (fa := pa) (ca := r59) (sa := r93) (hx93 _ _ hc70 (fun z => z))) moX5_init ⟨by decide, by decide⟩ ⟨(by show _ ≤ 90; omega), (by show _ ≤ 340; omega)⟩ rfl (Nat.le_of_ble_eq_true rfl) w623 w624 rfl rfl dX10_pay_96).goV S hb (fun x e => e ▸ hw70) (fun G96 hx96 hc96 => ?_)
        have hxc96 : gExt G G96 (cM B) := fun b e hg hq => hx96 b e (hxc93 b e hg hq) (fun z => gLe.ne hn70 (hxc59 b e hg hq) z)
        refine (c_V_T (As := [.int (iI l), .ref a70]) (st := [.ref (B 0)]) S (kX7_withPayment (now0 := now) (nw := nwF now l r36 cf sf) (cf := cf) (sf := sf) (g := fun fc => sumI (fun q => goneF now q (cf q) fc) 10) (hst.mono (gExt.up hxc96 hcN)) hok (Nok.cs hN hxc96 ((((hcs36.le hx59.le).le hl70).le hx93.le).one hx96 hba70)) hl0 ⟨hc96, hnn70⟩ (plA.mono ⟨pf, hpa, hpf⟩ (gExt.up hxc96 hcN)) hok ⟨(hx96 _ _ (hx93 _ _ (hl70 _ _ hca59) (fun z => z)) ne_r59_a70), hnn59⟩ ⟨(hx96 _ _ hsa93 (Ne.symm ne_a70_r93)), hnn93⟩ (fun q q0 q1 => ⟨(hcf2 q q0 q1).1, (hcf2 q q0 q1).2.1⟩) hokF (payS_wt ⟨hl0.1, hl60⟩ hS) (payS_same hok ⟨hl0.1, hl60⟩ hS) (pay_py hok hS ⟨hc96, hnn70⟩ (plA.mono ⟨pf, hpa, hpf⟩ (gExt.up hxc96 hcN)) ⟨(hx96 _ _ (hx93 _ _ (hl70 _ _ hca59) (fun z => z)) ne_r59_a70), hnn59⟩ ⟨(hx96 _ _ hsa93 (Ne.symm ne_a70_r93)), hnn93⟩) hS.2.2.2.2.2.1 (hS.2.2.2.2.2.2 _ (by omega)) his19 (hS.2.2.2.2.2.2 _ (by omega)) (payS_agL ⟨hl0.1, hl60⟩ hn86.2 hS) (fun fc f0 f1 => hS.2.2.2.1 fc (by omega) f1) (fun j j0 j1 => hS.2.2.2.2.2.2 j (by omega))) moX7_withPayment ⟨by decide, by decide⟩ ⟨(by show _ ≤ 90; omega), (by show _ ≤ 340; omega)⟩ rfl (Nat.le_of_ble_eq_true rfl) w643 w644 w645 ((Im.mono h1 (gExt.up hxc96 hcN)).1) rfl rfl dX10_pay_99).goR S hb (fun _ z => z.elim) (fun r99 G99 hx99 hc99 => ?_)
        have hxc99 := hxc96.tr2 (gLe.ext hx99.le)
        refine (c_V_T (As := [.ref r99]) (st := []) S (kX10_act (cQ.keep (((((hcs36.le hx59.le).le hl70).le hx93.le).one hx96 hba70).le hx99.le) hmo36 hxc99 hcN hst hbf hrf) hcN hc99 hkm) moX10_act ⟨by decide, by decide⟩ ⟨(by show _ ≤ 90; omega), (by show _ ≤ 340; omega)⟩ rfl (Nat.le_of_ble_eq_true rfl) w201 w203 w1 ((((((hcs36.le hx59.le).le hl70).le hx93.le).one hx96 hba70).le hx99.le).1) rfl rfl dX10_pay_102).goV S hb hM (fun G102 hx102 hc102 => ?_)
        have hxc102 := hxc99.tr2 hx102
        refine r_iload_n S dX10_pay_105 1 rfl ?_
        exact ret.ti r36 dX10_pay_106 (by omega) (by omega) (fun r hr => by obtain ⟨nw', e1, e2, e3⟩ := pay_fin hok hl0 his19 hmo36 hlf36 (by omega) hcf hS hr; exact cEnd.m1 e1 (cQ_ag hokF ⟨hl0.1, hl60⟩ hc102 e2 e3))
      · skip
        refine r_iconst S dX10_pay_45 ?_
        exact ret.ti (-1) dX10_pay_46 (by omega) (by omega) (fun r hr => cEnd.m0 (pay_r3 hok hmo36 hl0 his19 hlf36 (by omega) hr) (cQ.keep hcs36 hmo36 hxc36 hcN hst hbf hrf))
    · skip
      obtain ⟨qa19, qc19, qs19, cf19, sf19, nf19, p119, pok19, ppl19, pca19, psa19, pcs19, pgot19, pg19⟩ := id hpy19
      refine r_aaldS hf19 hla.1 rfl (by omega) (by omega) (by omega) S dX10_pay_19 ?_
      refine r_astore_n (L' := [(2, .ref b19), (0, .ref (B 0)), (1, .int (iI l))]) S dX10_pay_20 (by decide) rfl ?_
      refine r_aload_n S dX10_pay_21 0 rfl ?_
      refine r_get S gtX10_201_X2 hv19.1 rfl dX10_pay_22 ?_
      refine r_ifnull S dX10_pay_25 ?_
      refine r_bipush S dX10_pay_28 (by decide) ?_
      exact ret.ti (-4) dX10_pay_30 (by omega) (by omega) (fun r hr => cEnd.m0 (pay_r2 hr ⟨by omega, by omega⟩ his19) hq0)
  · skip
    replace hc2 := zz0 hc2 c5
    refine r_bipush S dX10_pay_8 (by decide) ?_
    exact ret.ti (-3) dX10_pay_10 (by omega) (by omega) (fun r hr => cEnd.m0 (pay_r1 hr (by omega)) hq0)
