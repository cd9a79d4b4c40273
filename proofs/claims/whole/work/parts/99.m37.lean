def cEndS (D : va_G) (N : Nat → Prop) (B : Nat → Nat) (now : Int → Int) (hist : Int → Int → Int) (km rd : Int) (reel : Int → Int) (r : sR) : Int → gh → Prop := fun z G => z = r.1 ∧ match r.2 with
  | none => cQ D N B now hist km rd reel G
  | some nw => cQ D N B nw (pushH now hist) (kmF km) 0 reel G
theorem cEndS.m0 {D : va_G} {N : Nat → Prop} {B : Nat → Nat} {now : Int → Int} {hist : Int → Int → Int} {km rd : Int} {reel : Int → Int} {r : sR} {z : Int} {G : gh} (e : r = (z, none)) (h : cQ D N B now hist km rd reel G) : cEndS D N B now hist km rd reel r z G := by rw [e]; exact ⟨rfl, h⟩
theorem cEndS.m1 {D : va_G} {N : Nat → Prop} {B : Nat → Nat} {now nw : Int → Int} {hist : Int → Int → Int} {km rd : Int} {reel : Int → Int} {r : sR} {y z : Int} {G : gh} (e : r = (y, some nw)) (h : cEnd D N B now hist km 0 reel (y, some nw) z G) : cEndS D N B now hist km rd reel r z G := by rw [e]; exact h

set_option maxRecDepth 20000 in
set_option maxHeartbeats 2000000 in
theorem kX10_strip {D : va_G} {N0 : Nat → Prop} {B : Nat → Nat} {km rd : Int} {now reel : Int → Int} {hist : Int → Int → Int} {G : gh} (hq : cQ D N0 B now hist km rd reel G) (hcN : ∀ b, cM B b → N0 b) (hN : Nok N0 G) (hok : mOK now) (hkm : 0 ≤ km ∧ km ≤ 32) (hrd : 0 ≤ rd ∧ rd ≤ 40) {p : Int} (hp : inR p) : CT ⟨"PostageCounter", "strip", "(I)I"⟩ prog_1_method_5_code 3 (some .int) 4 90 4 70 D [.ref (B 0), .int (iI p)] G (cM B) (tI (cEndS D N0 B now hist km rd reel (sStrip now reel rd p))) := by
  refine CT.enter (by decide +kernel) (Nat.le_of_ble_eq_true rfl) (fun F S ret hb hM hI => ?_)
  show V F 3 G 0 0 0 [(0, .ref (B 0)), (1, .int (iI p))] []
  have hq0 := hq
  obtain ⟨rf, sa, bf, row, most, hcs, hst, hbf, hrf, hmost⟩ := hq
  obtain ⟨pa, la, wa, ea, h1, ⟨pf, hpa, hpf⟩, ⟨lf, gl, hla, hlf, hgl⟩, ⟨wf, hwa, hwf⟩, ⟨ef, hea, hef⟩⟩ := id hst
  have hn86 : 0 ≤ now 1286 ∧ now 1286 ≤ 60 := ⟨hok.2.2.2.2.2.2.1.1, hok.2.2.2.2.2.2.1.2.1⟩
  refine r_iload_n S dX10_strip_0 1 rfl ?_
  refine (c_S_P (As := [.int (iI p)]) (st := []) S (kX10_isPlace (by omega)) moX10_isPlace ⟨by decide, by decide⟩ ⟨(by show _ ≤ 4; omega), (by show _ ≤ 70; omega)⟩ rfl (Nat.le_of_ble_eq_true rfl) w151 w152 rfl dX10_strip_1).goI (fun r1 hc1 => ?_)
  refine r_if_ne S 10 dX10_strip_4 (by decide) (by omega) (fun c4 => ?_) (fun c4 => ?_)
  · skip
    replace hc1 := zz1 hc1 c4
    refine r_aload_n S dX10_strip_10 0 rfl ?_
    refine x_get_now S hcs gtX10_28_X10 dX10_strip_11 ?_
    refine r_get S gtX10_66_X7 h1.1 rfl dX10_strip_14 ?_
    refine r_iload_n S dX10_strip_17 1 rfl ?_
    rcases hpf p (by omega) (by omega) with ⟨hk18, hf18⟩ | ⟨hk18, b18, hf18, hO18⟩
    · skip
      refine r_aaldN hf18 hpa.1 rfl (by omega) (by omega) (by omega) S dX10_strip_18 ?_
      refine r_ifnullN S 25 dX10_strip_19 (by decide) ?_
      refine r_aload_n S dX10_strip_25 0 rfl ?_
      refine x_get_reelCount S hcs gtX10_20_X10 dX10_strip_26 ?_
      refine r_istore_n (L' := [(2, .int (iI rd)), (0, .ref (B 0)), (1, .int (iI p))]) S dX10_strip_29 (by decide) rfl ?_
      refine r_aload_n S dX10_strip_30 1 rfl ?_
      refine r_iconst S dX10_strip_31 ?_
      refine x_put_reelCount S hb hM hcs ptX10_20_X10 dX10_strip_32 (fun G32 hx32 hcs32 => ?_)
      have hxc32 : gExt G G32 (cM B) := hx32
      refine r_aload_n S dX10_strip_35 1 rfl ?_
      refine r_iload_n S dX10_strip_36 2 rfl ?_
      refine r_new S hb nwX10_70 (by show _ ≤ 4; omega) (by show _ ≤ 70; omega) dX10_strip_37 (fun a37 hn37 hw37 => ?_)
      have hba37 := hcs32.nea hn37
      have hnn37 := (Nok.cs hN hxc32 hcs32).new hn37
      refine k_new hn37 (fun G37 hl37 hc37 => ?_)
      have hxc37 := hxc32.tr2 (gLe.ext hl37)
      refine r_dup S dX10_strip_40 ?_
      refine r_aload_n S dX10_strip_41 1 rfl ?_
      refine x_get_reelFaces S (hcs32.le hl37) gtX10_16_X10 dX10_strip_42 ?_
      refine r_cloneI (st := [.ref a37, .ref a37, .int (iI p), .ref (B 0)]) S hb (hcs32.le hl37).2.2.1 w232 w233 w234 w235 w236 (by decide) (Nat.le_of_ble_eq_true rfl) (by show _ ≤ 4; omega) (by show _ ≤ 70; omega) dX10_strip_45 (fun a45 hn45 hw45 => ?_)
      have hba45 := (hcs32.le hl37).nea hn45
      have hnn45 := (Nok.cs hN hxc37 (hcs32.le hl37)).new hn45
      refine k_new hn45 (fun G45 hl45 hc45 => ?_)
      have ne_a37_a45 : a37 ≠ a45 := gLe.ne hn45 hc37
      have hxc45 := hxc37.tr2 (gLe.ext hl45)
      refine r_castI S hc45 w238 dX10_strip_48 ?_
      refine r_iload_n S dX10_strip_51 0 rfl ?_
      refine (c_I_T (As := [.ref a45, .int (iI rd)]) (st := [.ref a37, .int (iI p), .ref (B 0)]) (M1 := fun x => x = a37) S (kX8_init (n := rd) (hl45 _ _ hc37) hc45 (Ne.symm ne_a37_a45) ⟨by omega, by omega⟩) moX8_init ⟨by decide, by decide⟩ ⟨(by show _ ≤ 4; omega), (by show _ ≤ 70; omega)⟩ rfl (Nat.le_of_ble_eq_true rfl) w239 w240 rfl rfl dX10_strip_52).goV S hb (fun x e => e ▸ hw37) (fun G52 hx52 hc52 => ?_)
      have hxc52 : gExt G G52 (cM B) := fun b e hg hq => hx52 b e (hxc45 b e hg hq) (fun z => gLe.ne hn37 (hxc32 b e hg hq) z)
      refine (c_V_T (As := [.int (iI p), .ref a37]) (st := []) S (kX10_putNew (cQ.keep (rd := 0) (reel := reel) (((hcs32.le hl37).le hl45).one hx52 hba37) hmost hxc52 hcN hst hbf (fun k k0 k1 => by omega)) hcN (Nok.cs hN hxc52 (((hcs32.le hl37).le hl45).one hx52 hba37)) hok hkm ⟨by omega, by omega⟩ (hO_strip ⟨by omega, by omega⟩ hrd.1 hc52 hnn37 (hx52 _ _ hc45 (Ne.symm ne_a37_a45)) hnn45 hrf) (by rw [strip_lo (by omega) (by omega), hold_0]; omega) ((only_strip hrd.2).ag ⟨by omega, by omega⟩) ((only_strip hrd.2).hi ⟨by omega, by omega⟩)) moX10_putNew ⟨by decide, by decide⟩ ⟨(by show _ ≤ 4; omega), (by show _ ≤ 70; omega)⟩ rfl (Nat.le_of_ble_eq_true rfl) w190 w192 w0 ((((hcs32.le hl37).le hl45).one hx52 hba37).1) rfl rfl dX10_strip_55).goI S hb hM (fun r55 G55 hx55 hc55 => ?_)
      have hxc55 := hxc52.tr2 hx55
      exact ret.ti r55 dX10_strip_58 (by omega) (by omega) (cEndS.m1 (by unfold sStrip; rw [if_neg (by omega), if_neg (fun q => q hk18)]) (by rw [if_neg (fun q => q hk18), strip_lo (by omega) (by omega), hold_10] at hc55; exact hc55))
    · skip
      refine r_aaldS hf18 hpa.1 rfl (by omega) (by omega) (by omega) S dX10_strip_18 ?_
      refine r_ifnull S dX10_strip_19 ?_
      refine r_bipush S dX10_strip_22 (by decide) ?_
      exact ret.ti (-4) dX10_strip_24 (by omega) (by omega) (cEndS.m0 (by unfold sStrip; rw [if_neg (by omega), if_pos hk18]) hq0)
  · skip
    replace hc1 := zz0 hc1 c4
    refine r_bipush S dX10_strip_7 (by decide) ?_
    exact ret.ti (-3) dX10_strip_9 (by omega) (by omega) (cEndS.m0 (by unfold sStrip; rw [if_pos (by omega)]) hq0)

set_option maxRecDepth 20000 in
set_option maxHeartbeats 2000000 in
theorem kX10_sheet {D : va_G} {N0 : Nat → Prop} {B : Nat → Nat} {km rd : Int} {now reel : Int → Int} {hist : Int → Int → Int} {G : gh} (hq : cQ D N0 B now hist km rd reel G) (hcN : ∀ b, cM B b → N0 b) (hN : Nok N0 G) (hok : mOK now) (hkm : 0 ≤ km ∧ km ≤ 32) {p k rows cols f : Int} (hp : inR p) (hk : inR k) (hr : inR rows) (hc : inR cols) (hf : inR f) : CT ⟨"PostageCounter", "sheet", "(IIIII)I"⟩ prog_1_method_6_code 8 (some .int) 4 94 3 32 D [.ref (B 0), .int (iI p), .int (iI k), .int (iI rows), .int (iI cols), .int (iI f)] G (cM B) (tI (cEnd D N0 B now hist km rd reel (sSheet now p k rows cols f))) := by
  refine CT.enter (by decide +kernel) (Nat.le_of_ble_eq_true rfl) (fun F S ret hb hM hI => ?_)
  show V F 8 G 0 0 0 [(0, .ref (B 0)), (1, .int (iI p)), (2, .int (iI k)), (3, .int (iI rows)), (4, .int (iI cols)), (5, .int (iI f))] []
  have hq0 := hq
  obtain ⟨rf, sa, bf, row, most, hcs, hst, hbf, hrf, hmost⟩ := hq
  obtain ⟨pa, la, wa, ea, h1, ⟨pf, hpa, hpf⟩, ⟨lf, gl, hla, hlf, hgl⟩, ⟨wf, hwa, hwf⟩, ⟨ef, hea, hef⟩⟩ := id hst
  have hn86 : 0 ≤ now 1286 ∧ now 1286 ≤ 60 := ⟨hok.2.2.2.2.2.2.1.1, hok.2.2.2.2.2.2.1.2.1⟩
  refine r_iload_n S dX10_sheet_0 1 rfl ?_
  refine (c_S_P (As := [.int (iI p)]) (st := []) S (kX10_isPlace (by omega)) moX10_isPlace ⟨by decide, by decide⟩ ⟨(by show _ ≤ 3; omega), (by show _ ≤ 32; omega)⟩ rfl (Nat.le_of_ble_eq_true rfl) w151 w152 rfl dX10_sheet_1).goI (fun r1 hc1 => ?_)
  refine r_if_eq S 37 dX10_sheet_4 (by decide) (by omega) (fun c4 => ?_) (fun c4 => ?_)
  · skip
    replace hc1 := zz0 hc1 c4
    refine r_bipush S dX10_sheet_37 (by decide) ?_
    exact ret.ti (-3) dX10_sheet_39 (by omega) (by omega) (cEnd.m0 (by unfold sSheet; rw [if_pos (by omega)]) hq0)
  · skip
    replace hc1 := zz1 hc1 c4
    refine r_iload_n S dX10_sheet_7 2 rfl ?_
    refine r_iconst S dX10_sheet_8 ?_
    refine r_iconst S dX10_sheet_9 ?_
    refine (c_S_P (As := [.int (iI k), .int (iI 2), .int (iI 3)]) (st := []) S (kX10_within (by omega) (by omega) (by omega)) moX10_within ⟨by decide, by decide⟩ ⟨(by show _ ≤ 3; omega), (by show _ ≤ 32; omega)⟩ rfl (Nat.le_of_ble_eq_true rfl) w154 w155 rfl dX10_sheet_10).goI (fun r10 hc10 => ?_)
    refine r_if_eq S 37 dX10_sheet_13 (by decide) (by omega) (fun c13 => ?_) (fun c13 => ?_)
    · skip
      replace hc10 := zz0 hc10 c13
      refine r_bipush S dX10_sheet_37 (by decide) ?_
      exact ret.ti (-3) dX10_sheet_39 (by omega) (by omega) (cEnd.m0 (by unfold sSheet; rw [if_pos (by omega)]) hq0)
    · skip
      replace hc10 := zz1 hc10 c13
      refine r_iload S dX10_sheet_16 5 rfl ?_
      refine (c_S_P (As := [.int (iI f)]) (st := []) S (kX10_isFace (by omega)) moX10_isFace ⟨by decide, by decide⟩ ⟨(by show _ ≤ 3; omega), (by show _ ≤ 32; omega)⟩ rfl (Nat.le_of_ble_eq_true rfl) w157 w158 rfl dX10_sheet_18).goI (fun r18 hc18 => ?_)
      refine r_if_eq S 37 dX10_sheet_21 (by decide) (by omega) (fun c21 => ?_) (fun c21 => ?_)
      · skip
        replace hc18 := zz0 hc18 c21
        refine r_bipush S dX10_sheet_37 (by decide) ?_
        exact ret.ti (-3) dX10_sheet_39 (by omega) (by omega) (cEnd.m0 (by unfold sSheet; rw [if_pos (by omega)]) hq0)
      · skip
        replace hc18 := zz1 hc18 c21
        refine r_iload_n S dX10_sheet_24 3 rfl ?_
        refine r_bipush S dX10_sheet_25 (by decide) ?_
        refine r_icmp_gt S 37 dX10_sheet_27 (by decide) (by omega) (by omega) (fun c27 => ?_) (fun c27 => ?_)
        · skip
          refine r_bipush S dX10_sheet_37 (by decide) ?_
          exact ret.ti (-3) dX10_sheet_39 (by omega) (by omega) (cEnd.m0 (by unfold sSheet; rw [if_pos (by omega)]) hq0)
        · skip
          refine r_iload S dX10_sheet_30 4 rfl ?_
          refine r_bipush S dX10_sheet_32 (by decide) ?_
          refine r_icmp_le S 40 dX10_sheet_34 (by decide) (by omega) (by omega) (fun c34 => ?_) (fun c34 => ?_)
          · skip
            refine r_aload_n S dX10_sheet_40 0 rfl ?_
            refine x_get_now S hcs gtX10_28_X10 dX10_sheet_41 ?_
            refine r_get S gtX10_66_X7 h1.1 rfl dX10_sheet_44 ?_
            refine r_iload_n S dX10_sheet_47 1 rfl ?_
            rcases hpf p (by omega) (by omega) with ⟨hk48, hf48⟩ | ⟨hk48, b48, hf48, hO48⟩
            · skip
              refine r_aaldN hf48 hpa.1 rfl (by omega) (by omega) (by omega) S dX10_sheet_48 ?_
              refine r_ifnullN S 55 dX10_sheet_49 (by decide) ?_
              refine r_iload_n S dX10_sheet_55 3 rfl ?_
              refine r_if_lt S 64 dX10_sheet_56 (by decide) (by omega) (fun c56 => ?_) (fun c56 => ?_)
              · skip
                refine r_bipush S dX10_sheet_64 (by decide) ?_
                exact ret.ti (-14) dX10_sheet_66 (by omega) (by omega) (cEnd.m0 (by unfold sSheet; rw [if_neg (by omega), if_neg (fun q => q hk48), if_pos (by omega)]) hq0)
              · skip
                refine r_iload S dX10_sheet_59 4 rfl ?_
                refine r_if_ge S 67 dX10_sheet_61 (by decide) (by omega) (fun c61 => ?_) (fun c61 => ?_)
                · skip
                  refine r_iload_n S dX10_sheet_67 3 rfl ?_
                  refine r_if_eq S 88 dX10_sheet_68 (by decide) (by omega) (fun c68 => ?_) (fun c68 => ?_)
                  · skip
                    refine r_bipush S dX10_sheet_88 (by decide) ?_
                    exact ret.ti (-3) dX10_sheet_90 (by omega) (by omega) (cEnd.m0 (by unfold sSheet; rw [if_neg (by omega), if_neg (fun q => q hk48), if_neg (by omega), if_pos (by omega)]) hq0)
                  · skip
                    refine r_iload S dX10_sheet_71 4 rfl ?_
                    refine r_if_eq S 88 dX10_sheet_73 (by decide) (by omega) (fun c73 => ?_) (fun c73 => ?_)
                    · skip
                      refine r_bipush S dX10_sheet_88 (by decide) ?_
                      exact ret.ti (-3) dX10_sheet_90 (by omega) (by omega) (cEnd.m0 (by unfold sSheet; rw [if_neg (by omega), if_neg (fun q => q hk48), if_neg (by omega), if_pos (by omega)]) hq0)
                    · skip
                      refine r_iload_n S dX10_sheet_76 2 rfl ?_
                      refine r_iconst S dX10_sheet_77 ?_
                      refine r_icmp_ne S 91 dX10_sheet_78 (by decide) (by omega) (by omega) (fun c78 => ?_) (fun c78 => ?_)
                      · skip
                        have hrcb := rcl_bd (r := rows) (c := cols) ⟨by omega, by omega⟩ ⟨by omega, by omega⟩
                        have hrcp : 1 ≤ rows * cols := Int.mul_pos (by omega : 0 < rows) (by omega : 0 < cols)
                        refine r_ldc2 (BitVec.ofInt 64 (-1)) w253 (by decide) S dX10_sheet_91 ?_
                        refine r_bipush S dX10_sheet_94 (by decide) ?_
                        refine r_iload_n S dX10_sheet_96 3 rfl ?_
                        refine r_iload S dX10_sheet_97 4 rfl ?_
                        refine r_imul S dX10_sheet_99 ?_
                        refine r_isub_e (64 - rows * cols) (by omega) S dX10_sheet_100 ?_
                        refine r_lushr S ⟨by omega, by omega⟩ dX10_sheet_101 ?_
                        refine r_lstore (L' := [(6, .long (lB ((BitVec.ofInt 64 (-1)) >>> (Int.toNat (64 - rows * cols))))), (0, .ref (B 0)), (1, .int (iI p)), (2, .int (iI k)), (3, .int (iI rows)), (4, .int (iI cols)), (5, .int (iI f))]) S dX10_sheet_102 (by decide) rfl ?_
                        refine r_aload_n S dX10_sheet_104 1 rfl ?_
                        refine r_iload_n S dX10_sheet_105 2 rfl ?_
                        refine r_iload_n S dX10_sheet_106 3 rfl ?_
                        refine r_iconst S dX10_sheet_107 ?_
                        refine r_icmp_ne S 129 dX10_sheet_108 (by decide) (by omega) (by omega) (fun c108 => ?_) (fun c108 => ?_)
                        · skip
                          refine r_new S hb nwX10_87 (by show _ ≤ 3; omega) (by show _ ≤ 32; omega) dX10_sheet_129 (fun a129 hn129 hw129 => ?_)
                          have hba129 := hcs.nea hn129
                          have hnn129 := hN.new hn129
                          refine k_new hn129 (fun G129 hl129 hc129 => ?_)
                          have hxc129 : gExt G G129 (cM B) := (gLe.ext hl129)
                          refine r_dup S dX10_sheet_132 ?_
                          refine r_iload S dX10_sheet_133 6 rfl ?_
                          refine r_iload_n S dX10_sheet_135 4 rfl ?_
                          refine r_iload S dX10_sheet_136 5 rfl ?_
                          refine r_iconst S dX10_sheet_138 ?_
                          refine r_lload S dX10_sheet_139 0 rfl ?_
                          refine (c_I_T (As := [.int (iI f), .int (iI rows), .int (iI cols), .int (iI 0), .long (lB ((BitVec.ofInt 64 (-1)) >>> (Int.toNat (64 - rows * cols))))]) (st := [.ref a129, .int (iI p), .ref (B 0)]) (M1 := fun x => x = a129) S (kX0_init_0 hc129 ⟨⟨by omega, by omega⟩, by omega, by omega⟩) moX0_init ⟨by decide, by decide⟩ ⟨(by show _ ≤ 3; omega), (by show _ ≤ 32; omega)⟩ rfl (Nat.le_of_ble_eq_true rfl) w301 w260 rfl rfl dX10_sheet_141).goV S hb (fun x e => e ▸ hw129) (fun G141 hx141 hc141 => ?_)
                          have hxc141 : gExt G G141 (cM B) := fun b e hg hq => hx141 b e (hxc129 b e hg hq) (fun z => gLe.ne hn129 hg z)
                          obtain ⟨fc, lc, hq141, hfc, hlc⟩ := hc141
                          refine (c_V_T (As := [.int (iI p), .ref a129]) (st := []) S (kX10_putNew (cQ.keep ((hcs.le hl129).one hx141 hba129) hmost hxc141 hcN hst hbf hrf) hcN (Nok.cs hN hxc141 ((hcs.le hl129).one hx141 hba129)) hok hkm ⟨by omega, by omega⟩ (hO_sheet (k := k) ⟨by omega, by omega⟩ (by omega) ⟨by omega, by omega⟩ ⟨by omega, by omega⟩ (Or.inl ⟨by omega, hq141⟩) hnn129 ⟨by omega, by omega⟩ hfc hlc) (by rw [sheet_lo (by omega) (by omega) (by omega) (by omega), hold_0]; omega) ((only_sheet hrcb.2).ag ⟨by omega, by omega⟩) ((only_sheet hrcb.2).hi ⟨by omega, by omega⟩)) moX10_putNew ⟨by decide, by decide⟩ ⟨(by show _ ≤ 3; omega), (by show _ ≤ 32; omega)⟩ rfl (Nat.le_of_ble_eq_true rfl) w190 w192 w0 (((hcs.le hl129).one hx141 hba129).1) rfl rfl dX10_sheet_144).goI S hb hM (fun r144 G144 hx144 hc144 => ?_)
                          have hxc144 := hxc141.tr2 hx144
                          exact ret.ti r144 dX10_sheet_147 (by omega) (by omega) (by unfold sSheet; rw [if_neg (by omega), if_neg (fun q => q hk48), if_neg (by omega), if_neg (by omega)]; rw [if_neg (fun q => q hk48), sheet_lo (by omega) (by omega) (by omega) (by omega), hold_10] at hc144; exact hc144)
                        · skip
                          refine r_new S hb nwX10_82 (by show _ ≤ 3; omega) (by show _ ≤ 32; omega) dX10_sheet_111 (fun a111 hn111 hw111 => ?_)
                          have hba111 := hcs.nea hn111
                          have hnn111 := hN.new hn111
                          refine k_new hn111 (fun G111 hl111 hc111 => ?_)
                          have hxc111 : gExt G G111 (cM B) := (gLe.ext hl111)
                          refine r_dup S dX10_sheet_114 ?_
                          refine r_iload S dX10_sheet_115 6 rfl ?_
                          refine r_iload_n S dX10_sheet_117 4 rfl ?_
                          refine r_iload S dX10_sheet_118 5 rfl ?_
                          refine r_iconst S dX10_sheet_120 ?_
                          refine r_lload S dX10_sheet_121 0 rfl ?_
                          refine (c_I_T (As := [.int (iI f), .int (iI rows), .int (iI cols), .int (iI 0), .long (lB ((BitVec.ofInt 64 (-1)) >>> (Int.toNat (64 - rows * cols))))]) (st := [.ref a111, .int (iI p), .ref (B 0)]) (M1 := fun x => x = a111) S (kX4_init hc111 ⟨⟨by omega, by omega⟩, by omega, by omega⟩) moX4_init ⟨by decide, by decide⟩ ⟨(by show _ ≤ 3; omega), (by show _ ≤ 32; omega)⟩ rfl (Nat.le_of_ble_eq_true rfl) w256 w257 rfl rfl dX10_sheet_123).goV S hb (fun x e => e ▸ hw111) (fun G123 hx123 hc123 => ?_)
                          have hxc123 : gExt G G123 (cM B) := fun b e hg hq => hx123 b e (hxc111 b e hg hq) (fun z => gLe.ne hn111 hg z)
                          obtain ⟨fc, lc, hq123, hfc, hlc⟩ := hc123
                          refine r_goto S 144 dX10_sheet_126 (by decide) ?_
                          refine (c_V_T (As := [.int (iI p), .ref a111]) (st := []) S (kX10_putNew (cQ.keep ((hcs.le hl111).one hx123 hba111) hmost hxc123 hcN hst hbf hrf) hcN (Nok.cs hN hxc123 ((hcs.le hl111).one hx123 hba111)) hok hkm ⟨by omega, by omega⟩ (hO_sheet (k := k) ⟨by omega, by omega⟩ (by omega) ⟨by omega, by omega⟩ ⟨by omega, by omega⟩ (Or.inr ⟨by omega, hq123⟩) hnn111 ⟨by omega, by omega⟩ hfc hlc) (by rw [sheet_lo (by omega) (by omega) (by omega) (by omega), hold_0]; omega) ((only_sheet hrcb.2).ag ⟨by omega, by omega⟩) ((only_sheet hrcb.2).hi ⟨by omega, by omega⟩)) moX10_putNew ⟨by decide, by decide⟩ ⟨(by show _ ≤ 3; omega), (by show _ ≤ 32; omega)⟩ rfl (Nat.le_of_ble_eq_true rfl) w190 w192 w0 (((hcs.le hl111).one hx123 hba111).1) rfl rfl dX10_sheet_144).goI S hb hM (fun r144 G144 hx144 hc144 => ?_)
                          have hxc144 := hxc123.tr2 hx144
                          exact ret.ti r144 dX10_sheet_147 (by omega) (by omega) (by unfold sSheet; rw [if_neg (by omega), if_neg (fun q => q hk48), if_neg (by omega), if_neg (by omega)]; rw [if_neg (fun q => q hk48), sheet_lo (by omega) (by omega) (by omega) (by omega), hold_10] at hc144; exact hc144)
                      · skip
                        refine r_iload S dX10_sheet_81 4 rfl ?_
                        refine r_iconst S dX10_sheet_83 ?_
                        refine r_irem S dX10_sheet_84 (by omega) (by omega) ?_
                        refine r_if_eq S 91 dX10_sheet_85 (by decide) (by omega) (fun c85 => ?_) (fun c85 => ?_)
                        · skip
                          have hrcb := rcl_bd (r := rows) (c := cols) ⟨by omega, by omega⟩ ⟨by omega, by omega⟩
                          have hrcp : 1 ≤ rows * cols := Int.mul_pos (by omega : 0 < rows) (by omega : 0 < cols)
                          refine r_ldc2 (BitVec.ofInt 64 (-1)) w253 (by decide) S dX10_sheet_91 ?_
                          refine r_bipush S dX10_sheet_94 (by decide) ?_
                          refine r_iload_n S dX10_sheet_96 3 rfl ?_
                          refine r_iload S dX10_sheet_97 4 rfl ?_
                          refine r_imul S dX10_sheet_99 ?_
                          refine r_isub_e (64 - rows * cols) (by omega) S dX10_sheet_100 ?_
                          refine r_lushr S ⟨by omega, by omega⟩ dX10_sheet_101 ?_
                          refine r_lstore (L' := [(6, .long (lB ((BitVec.ofInt 64 (-1)) >>> (Int.toNat (64 - rows * cols))))), (0, .ref (B 0)), (1, .int (iI p)), (2, .int (iI k)), (3, .int (iI rows)), (4, .int (iI cols)), (5, .int (iI f))]) S dX10_sheet_102 (by decide) rfl ?_
                          refine r_aload_n S dX10_sheet_104 1 rfl ?_
                          refine r_iload_n S dX10_sheet_105 2 rfl ?_
                          refine r_iload_n S dX10_sheet_106 3 rfl ?_
                          refine r_iconst S dX10_sheet_107 ?_
                          refine r_icmp_ne S 129 dX10_sheet_108 (by decide) (by omega) (by omega) (fun c108 => ?_) (fun c108 => ?_)
                          · skip
                            refine r_new S hb nwX10_87 (by show _ ≤ 3; omega) (by show _ ≤ 32; omega) dX10_sheet_129 (fun a129 hn129 hw129 => ?_)
                            have hba129 := hcs.nea hn129
                            have hnn129 := hN.new hn129
                            refine k_new hn129 (fun G129 hl129 hc129 => ?_)
                            have hxc129 : gExt G G129 (cM B) := (gLe.ext hl129)
                            refine r_dup S dX10_sheet_132 ?_
                            refine r_iload S dX10_sheet_133 6 rfl ?_
                            refine r_iload_n S dX10_sheet_135 4 rfl ?_
                            refine r_iload S dX10_sheet_136 5 rfl ?_
                            refine r_iconst S dX10_sheet_138 ?_
                            refine r_lload S dX10_sheet_139 0 rfl ?_
                            refine (c_I_T (As := [.int (iI f), .int (iI rows), .int (iI cols), .int (iI 0), .long (lB ((BitVec.ofInt 64 (-1)) >>> (Int.toNat (64 - rows * cols))))]) (st := [.ref a129, .int (iI p), .ref (B 0)]) (M1 := fun x => x = a129) S (kX0_init_0 hc129 ⟨⟨by omega, by omega⟩, by omega, by omega⟩) moX0_init ⟨by decide, by decide⟩ ⟨(by show _ ≤ 3; omega), (by show _ ≤ 32; omega)⟩ rfl (Nat.le_of_ble_eq_true rfl) w301 w260 rfl rfl dX10_sheet_141).goV S hb (fun x e => e ▸ hw129) (fun G141 hx141 hc141 => ?_)
                            have hxc141 : gExt G G141 (cM B) := fun b e hg hq => hx141 b e (hxc129 b e hg hq) (fun z => gLe.ne hn129 hg z)
                            obtain ⟨fc, lc, hq141, hfc, hlc⟩ := hc141
                            refine (c_V_T (As := [.int (iI p), .ref a129]) (st := []) S (kX10_putNew (cQ.keep ((hcs.le hl129).one hx141 hba129) hmost hxc141 hcN hst hbf hrf) hcN (Nok.cs hN hxc141 ((hcs.le hl129).one hx141 hba129)) hok hkm ⟨by omega, by omega⟩ (hO_sheet (k := k) ⟨by omega, by omega⟩ (by omega) ⟨by omega, by omega⟩ ⟨by omega, by omega⟩ (Or.inl ⟨by omega, hq141⟩) hnn129 ⟨by omega, by omega⟩ hfc hlc) (by rw [sheet_lo (by omega) (by omega) (by omega) (by omega), hold_0]; omega) ((only_sheet hrcb.2).ag ⟨by omega, by omega⟩) ((only_sheet hrcb.2).hi ⟨by omega, by omega⟩)) moX10_putNew ⟨by decide, by decide⟩ ⟨(by show _ ≤ 3; omega), (by show _ ≤ 32; omega)⟩ rfl (Nat.le_of_ble_eq_true rfl) w190 w192 w0 (((hcs.le hl129).one hx141 hba129).1) rfl rfl dX10_sheet_144).goI S hb hM (fun r144 G144 hx144 hc144 => ?_)
                            have hxc144 := hxc141.tr2 hx144
                            exact ret.ti r144 dX10_sheet_147 (by omega) (by omega) (by unfold sSheet; rw [if_neg (by omega), if_neg (fun q => q hk48), if_neg (by omega), if_neg (by omega)]; rw [if_neg (fun q => q hk48), sheet_lo (by omega) (by omega) (by omega) (by omega), hold_10] at hc144; exact hc144)
                          · skip
                            refine r_new S hb nwX10_82 (by show _ ≤ 3; omega) (by show _ ≤ 32; omega) dX10_sheet_111 (fun a111 hn111 hw111 => ?_)
                            have hba111 := hcs.nea hn111
                            have hnn111 := hN.new hn111
                            refine k_new hn111 (fun G111 hl111 hc111 => ?_)
                            have hxc111 : gExt G G111 (cM B) := (gLe.ext hl111)
                            refine r_dup S dX10_sheet_114 ?_
                            refine r_iload S dX10_sheet_115 6 rfl ?_
                            refine r_iload_n S dX10_sheet_117 4 rfl ?_
                            refine r_iload S dX10_sheet_118 5 rfl ?_
                            refine r_iconst S dX10_sheet_120 ?_
                            refine r_lload S dX10_sheet_121 0 rfl ?_
                            refine (c_I_T (As := [.int (iI f), .int (iI rows), .int (iI cols), .int (iI 0), .long (lB ((BitVec.ofInt 64 (-1)) >>> (Int.toNat (64 - rows * cols))))]) (st := [.ref a111, .int (iI p), .ref (B 0)]) (M1 := fun x => x = a111) S (kX4_init hc111 ⟨⟨by omega, by omega⟩, by omega, by omega⟩) moX4_init ⟨by decide, by decide⟩ ⟨(by show _ ≤ 3; omega), (by show _ ≤ 32; omega)⟩ rfl (Nat.le_of_ble_eq_true rfl) w256 w257 rfl rfl dX10_sheet_123).goV S hb (fun x e => e ▸ hw111) (fun G123 hx123 hc123 => ?_)
                            have hxc123 : gExt G G123 (cM B) := fun b e hg hq => hx123 b e (hxc111 b e hg hq) (fun z => gLe.ne hn111 hg z)
                            obtain ⟨fc, lc, hq123, hfc, hlc⟩ := hc123
                            refine r_goto S 144 dX10_sheet_126 (by decide) ?_
                            refine (c_V_T (As := [.int (iI p), .ref a111]) (st := []) S (kX10_putNew (cQ.keep ((hcs.le hl111).one hx123 hba111) hmost hxc123 hcN hst hbf hrf) hcN (Nok.cs hN hxc123 ((hcs.le hl111).one hx123 hba111)) hok hkm ⟨by omega, by omega⟩ (hO_sheet (k := k) ⟨by omega, by omega⟩ (by omega) ⟨by omega, by omega⟩ ⟨by omega, by omega⟩ (Or.inr ⟨by omega, hq123⟩) hnn111 ⟨by omega, by omega⟩ hfc hlc) (by rw [sheet_lo (by omega) (by omega) (by omega) (by omega), hold_0]; omega) ((only_sheet hrcb.2).ag ⟨by omega, by omega⟩) ((only_sheet hrcb.2).hi ⟨by omega, by omega⟩)) moX10_putNew ⟨by decide, by decide⟩ ⟨(by show _ ≤ 3; omega), (by show _ ≤ 32; omega)⟩ rfl (Nat.le_of_ble_eq_true rfl) w190 w192 w0 (((hcs.le hl111).one hx123 hba111).1) rfl rfl dX10_sheet_144).goI S hb hM (fun r144 G144 hx144 hc144 => ?_)
                            have hxc144 := hxc123.tr2 hx144
                            exact ret.ti r144 dX10_sheet_147 (by omega) (by omega) (by unfold sSheet; rw [if_neg (by omega), if_neg (fun q => q hk48), if_neg (by omega), if_neg (by omega)]; rw [if_neg (fun q => q hk48), sheet_lo (by omega) (by omega) (by omega) (by omega), hold_10] at hc144; exact hc144)
                        · skip
                          refine r_bipush S dX10_sheet_88 (by decide) ?_
                          exact ret.ti (-3) dX10_sheet_90 (by omega) (by omega) (cEnd.m0 (by unfold sSheet; rw [if_neg (by omega), if_neg (fun q => q hk48), if_neg (by omega), if_pos (by omega)]) hq0)
                · skip
                  refine r_bipush S dX10_sheet_64 (by decide) ?_
                  exact ret.ti (-14) dX10_sheet_66 (by omega) (by omega) (cEnd.m0 (by unfold sSheet; rw [if_neg (by omega), if_neg (fun q => q hk48), if_pos (by omega)]) hq0)
            · skip
              refine r_aaldS hf48 hpa.1 rfl (by omega) (by omega) (by omega) S dX10_sheet_48 ?_
              refine r_ifnull S dX10_sheet_49 ?_
              refine r_bipush S dX10_sheet_52 (by decide) ?_
              exact ret.ti (-4) dX10_sheet_54 (by omega) (by omega) (cEnd.m0 (by unfold sSheet; rw [if_neg (by omega), if_pos hk48]) hq0)
          · skip
            refine r_bipush S dX10_sheet_37 (by decide) ?_
            exact ret.ti (-3) dX10_sheet_39 (by omega) (by omega) (cEnd.m0 (by unfold sSheet; rw [if_pos (by omega)]) hq0)
