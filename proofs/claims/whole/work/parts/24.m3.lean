set_option maxRecDepth 20000 in
set_option maxHeartbeats 2000000 in
theorem kX11_undo {D : va_G} {A : Nat → Nat} {km rd : Int} {now reel : Int → Int} {hist : Int → Int → Int} {G : gh} (hq : mQ D A now hist km rd reel G) (hout : km ≠ 0 → ∀ j, j < 0 ∨ 3828 ≤ j → now j = hist 0 j) : CT ⟨"PostageCounterModel", "undo", "()I"⟩ prog_13_method_5_code 2 (some .int) 0 0 0 0 D [.ref (A 0)] G (mM A) (tI (fun z G' => (km = 0 ∧ z = -1 ∧ mQ D A now hist km rd reel G') ∨ (km ≠ 0 ∧ z = km - 1 ∧ mQ D A (hist 0) (fun i => hist (1 + i)) (km - 1) rd reel G'))) := by
  refine CT.enter (by decide +kernel) (Nat.le_of_ble_eq_true rfl) (fun F S ret hb hM hI => ?_)
  show V F 2 G 0 0 0 [(0, .ref (A 0))] []
  obtain ⟨th, ke, kept, part, best, hm, hkp⟩ := hq
  have hke := hkp.1
  have hke2 := hkp.2.1
  have hkm := hkp.2.2.1
  have hkm2 := hkp.2.2.2.1
  refine r_aload_n S dX11_undo_0 0 rfl ?_
  refine r_iconst S dX11_undo_1 ?_
  refine m_put_th S hb hM hm ptX11_27_X11 dX11_undo_2 (fun G2 hm2 => ?_)
  refine r_aload_n S dX11_undo_5 0 rfl ?_
  refine m_get_km S hm2 gtX11_34_X11 dX11_undo_6 ?_
  refine r_if_ne S 14 dX11_undo_9 (by decide) (by omega) (fun c9 => ?_) (fun c9 => ?_)
  · skip
    refine r_aload_n S dX11_undo_14 0 rfl ?_
    refine r_aload_n S dX11_undo_15 0 rfl ?_
    refine m_get_ke S hm2 gtX11_31_X11 dX11_undo_16 ?_
    refine r_bipush S dX11_undo_19 (by decide) ?_
    refine r_iadd_e (31 + ke) (by omega) S dX11_undo_21 ?_
    refine r_bipush S dX11_undo_22 (by decide) ?_
    refine r_irem S dX11_undo_24 (by omega) (by omega) ?_
    refine m_put_ke S hb hM hm2 ptX11_31_X11 dX11_undo_25 (fun G25 hm25 => ?_)
    refine r_aload_n S dX11_undo_28 0 rfl ?_
    refine r_dup S dX11_undo_29 ?_
    refine m_get_km S hm25 gtX11_34_X11 dX11_undo_30 ?_
    refine r_iconst S dX11_undo_33 ?_
    refine r_isub S dX11_undo_34 ?_
    refine m_put_km S hb hM hm25 ptX11_34_X11 dX11_undo_35 (fun G35 hm35 => ?_)
    refine r_iconst S dX11_undo_38 ?_
    refine r_istore_n (L' := [(1, .int (iI 0)), (0, .ref (A 0))]) S dX11_undo_39 (by decide) rfl ?_
    have L40 : ∀ (N : Nat) (k : Int) (g : Int → Int), ∀ (G : gh), mS D A 0 ((31 + ke) % 32) (km - 1) rd g kept reel part best G →  (3828 - k).toNat < N → (0 ≤ k ∧ k ≤ 3828) → (∀ j, g j = if 0 ≤ j ∧ j < k then hist 0 j else now j) → V F 2 G 0 0 40 [(0, .ref (A 0)), (1, .int (iI k))] [] := by
      intro N
      induction N with
      | zero => intro k g G hm hN; exact absurd hN (Nat.not_lt_zero _)
      | succ N ih40 =>
        intro k g G hm hN40 hk i1
        have hpop := keptOK_pop hkp (by omega)
        refine r_iload_n S dX11_undo_40 1 rfl ?_
        refine r_sipush S dX11_undo_41 (by decide) ?_
        refine r_icmp_ge S 74 dX11_undo_44 (by decide) (by omega) (by omega) (fun c44 => ?_) (fun c44 => ?_)
        · skip
          refine r_aload_n S dX11_undo_74 0 rfl ?_
          refine m_get_km S hm gtX11_34_X11 dX11_undo_75 ?_
          exact ret.ti (km - 1) dX11_undo_78 (by omega) (by omega) (Or.inr ⟨by omega, by omega, _, _, _, _, _, by rw [show hist 0 = g from funext fun j => by rw [i1 j]; by_cases e : 0 ≤ j ∧ j < k; rw [if_pos e]; rw [if_neg e]; exact (hout (by omega) j (by omega)).symm]; exact hm, (keptOK_pop hkp (by omega)).1⟩)
        · skip
          refine r_aload_n S dX11_undo_47 0 rfl ?_
          refine m_get_now S hm gtX11_7_X11 dX11_undo_48 ?_
          refine r_iload_n S dX11_undo_51 1 rfl ?_
          refine r_aload_n S dX11_undo_52 0 rfl ?_
          refine m_get_kept S hm gtX11_14_X11 dX11_undo_53 ?_
          refine r_sipush S dX11_undo_56 (by decide) ?_
          refine r_aload_n S dX11_undo_59 0 rfl ?_
          refine m_get_ke S hm gtX11_31_X11 dX11_undo_60 ?_
          refine r_imul S dX11_undo_63 ?_
          refine r_iload_n S dX11_undo_64 1 rfl ?_
          refine r_iadd_e (3828 * ((31 + ke) % 32) + k) (by omega) S dX11_undo_65 ?_
          refine m_ld_kept S hm (by omega) (by omega) dX11_undo_66 ?_
          refine m_st_now S hb hM hm (by omega) (by omega) dX11_undo_67 (fun G67 f67 ef67 hm67 => ?_)
          refine r_iinc_e (L' := [(1, .int (iI (1 + k))), (0, .ref (A 0))]) (1 + k) (by omega) S dX11_undo_68 1 rfl (by decide) rfl ?_
          refine r_goto S 40 dX11_undo_71 (by decide) ?_
          refine V.sub [1, 0] rfl ?_
          exact ih40 (1 + k) f67 _ hm67 (by omega) (by omega) (fun j => by rw [ef67, hpop.2 k (by omega) (by omega)]; by_cases e : j = k; rw [e, upI_s, if_pos (by omega)]; rw [upI_n (by omega), i1 j]; by_cases e2 : 0 ≤ j ∧ j < k; rw [if_pos e2, if_pos (by omega)]; rw [if_neg e2, if_neg (by omega)])
    refine V.sub [1, 0] rfl ?_
    exact L40 _ 0 now _ hm35 (Nat.lt_succ_self _) (by omega) (fun j => by rw [if_neg (by omega)])
  · skip
    refine r_iconst S dX11_undo_12 ?_
    exact ret.ti (-1) dX11_undo_13 (by omega) (by omega) (Or.inl ⟨by omega, rfl, ⟨_, _, _, _, _, hm2, hkp⟩⟩)

set_option maxRecDepth 20000 in
set_option maxHeartbeats 2000000 in
theorem kX11_reel {D : va_G} {A : Nat → Nat} {km rd : Int} {now reel : Int → Int} {hist : Int → Int → Int} {G : gh} (hq : mQ D A now hist km rd reel G) (hok : mOK now) (hrd : 0 ≤ rd ∧ rd ≤ 40) {f : Int} (hf : inR f) : CT ⟨"PostageCounterModel", "reel", "(I)I"⟩ prog_13_method_14_code 2 (some .int) 1 22 0 0 D [.ref (A 0), .int (iI f)] G (mM A) (tI (fun z G' => z = sReel rd f ∧ if z < 0 then mQ D A now hist km rd reel G' else mQ D A now hist km (1 + rd) (upI reel rd f) G')) := by
  refine CT.enter (by decide +kernel) (Nat.le_of_ble_eq_true rfl) (fun F S ret hb hM hI => ?_)
  show V F 2 G 0 0 0 [(0, .ref (A 0)), (1, .int (iI f))] []
  obtain ⟨th, ke, kept, part, best, hm, hkp⟩ := hq
  refine r_aload_n S dX11_reel_0 0 rfl ?_
  refine r_iconst S dX11_reel_1 ?_
  refine m_put_th S hb hM hm ptX11_27_X11 dX11_reel_2 (fun G2 hm2 => ?_)
  refine r_iload_n S dX11_reel_5 1 rfl ?_
  refine r_iconst S dX11_reel_6 ?_
  refine r_sipush S dX11_reel_7 (by decide) ?_
  refine (c_S_P (As := [.int (iI f), .int (iI 1), .int (iI 500)]) (st := []) S (kX11_in (by omega) (by omega) (by omega)) moX11_in ⟨by decide, by decide⟩ ⟨by omega, by omega⟩ rfl (Nat.le_of_ble_eq_true rfl) w796 w797 rfl dX11_reel_10).goI (fun r10 hc10 => ?_)
  refine r_if_ne S 19 dX11_reel_13 (by decide) (by omega) (fun c13 => ?_) (fun c13 => ?_)
  · skip
    replace hc10 := zz1 hc10 c13
    refine r_aload_n S dX11_reel_19 0 rfl ?_
    refine m_get_rd S hm2 gtX11_56_X11 dX11_reel_20 ?_
    refine r_bipush S dX11_reel_23 (by decide) ?_
    refine r_icmp_ne S 31 dX11_reel_25 (by decide) (by omega) (by omega) (fun c25 => ?_) (fun c25 => ?_)
    · skip
      refine r_aload_n S dX11_reel_31 0 rfl ?_
      refine m_get_reel S hm2 gtX11_17_X11 dX11_reel_32 ?_
      refine r_aload_n S dX11_reel_35 0 rfl ?_
      refine m_get_rd S hm2 gtX11_56_X11 dX11_reel_36 ?_
      refine r_iload_n S dX11_reel_39 1 rfl ?_
      refine m_st_reel S hb hM hm2 (by omega) (by omega) dX11_reel_40 (fun G40 f40 ef40 hm40 => ?_)
      refine r_aload_n S dX11_reel_41 0 rfl ?_
      refine r_dup S dX11_reel_42 ?_
      refine m_get_rd S hm40 gtX11_56_X11 dX11_reel_43 ?_
      refine r_iconst S dX11_reel_46 ?_
      refine r_iadd_e (1 + rd) (by omega) S dX11_reel_47 ?_
      refine m_put_rd S hb hM hm40 ptX11_56_X11 dX11_reel_48 (fun G48 hm48 => ?_)
      refine r_aload_n S dX11_reel_51 0 rfl ?_
      refine m_get_rd S hm48 gtX11_56_X11 dX11_reel_52 ?_
      exact ret.ti (1 + rd) dX11_reel_55 (by omega) (by omega) ⟨by unfold sReel; rw [if_neg (by omega), if_neg (by omega)], by rw [if_neg (by omega), ← ef40]; exact ⟨_, _, _, _, _, hm48, hkp⟩⟩
    · skip
      refine r_bipush S dX11_reel_28 (by decide) ?_
      exact ret.ti (-5) dX11_reel_30 (by omega) (by omega) ⟨by unfold sReel; rw [if_neg (by omega), if_pos (by omega)], by rw [if_pos (by omega)]; exact ⟨_, _, _, _, _, hm2, hkp⟩⟩
  · skip
    replace hc10 := zz0 hc10 c13
    refine r_bipush S dX11_reel_16 (by decide) ?_
    exact ret.ti (-3) dX11_reel_18 (by omega) (by omega) ⟨by unfold sReel; rw [if_pos (by omega)], by rw [if_pos (by omega)]; exact ⟨_, _, _, _, _, hm2, hkp⟩⟩

set_option maxRecDepth 20000 in
set_option maxHeartbeats 2000000 in
theorem kX11_strip {D : va_G} {A : Nat → Nat} {km rd : Int} {now reel : Int → Int} {hist : Int → Int → Int} {G : gh} (hq : mQ D A now hist km rd reel G) (hok : mOK now) (hrd : 0 ≤ rd ∧ rd ≤ 40) {p : Int} (hp : inR p) : CT ⟨"PostageCounterModel", "strip", "(I)I"⟩ prog_13_method_15_code 3 (some .int) 2 48 0 0 D [.ref (A 0), .int (iI p)] G (mM A) (tI (mEndS D A now hist km rd reel (sStrip now reel rd p))) := by
  refine CT.enter (by decide +kernel) (Nat.le_of_ble_eq_true rfl) (fun F S ret hb hM hI => ?_)
  show V F 3 G 0 0 0 [(0, .ref (A 0)), (1, .int (iI p))] []
  obtain ⟨th, ke, kept, part, best, hm, hkp⟩ := hq
  refine r_aload_n S dX11_strip_0 0 rfl ?_
  refine r_iconst S dX11_strip_1 ?_
  refine m_put_th S hb hM hm ptX11_27_X11 dX11_strip_2 (fun G2 hm2 => ?_)
  refine r_iload_n S dX11_strip_5 1 rfl ?_
  refine r_iconst S dX11_strip_6 ?_
  refine r_bipush S dX11_strip_7 (by decide) ?_
  refine (c_S_P (As := [.int (iI p), .int (iI 0), .int (iI 9)]) (st := []) S (kX11_in (by omega) (by omega) (by omega)) moX11_in ⟨by decide, by decide⟩ ⟨by omega, by omega⟩ rfl (Nat.le_of_ble_eq_true rfl) w796 w797 rfl dX11_strip_9).goI (fun r9 hc9 => ?_)
  refine r_if_ne S 18 dX11_strip_12 (by decide) (by omega) (fun c12 => ?_) (fun c12 => ?_)
  · skip
    replace hc9 := zz1 hc9 c12
    refine r_aload_n S dX11_strip_18 0 rfl ?_
    refine r_iload_n S dX11_strip_19 1 rfl ?_
    refine (c_V_P (As := [.int (iI p)]) (st := []) S (kX11_isHeld hm2 (by omega) (by have := hok.1 p (by omega) (by omega); omega)) moX11_isHeld ⟨by decide, by decide⟩ ⟨by omega, by omega⟩ rfl (Nat.le_of_ble_eq_true rfl) w799 w801 w15 hm2.1 rfl rfl dX11_strip_20).goI (fun r20 hc20 => ?_)
    refine r_if_eq S 29 dX11_strip_23 (by decide) (by omega) (fun c23 => ?_) (fun c23 => ?_)
    · skip
      replace hc20 := zz0 hc20 c23
      refine r_aload_n S dX11_strip_29 0 rfl ?_
      refine r_iload_n S dX11_strip_30 1 rfl ?_
      refine r_iconst S dX11_strip_31 ?_
      refine r_iconst S dX11_strip_32 ?_
      refine r_iconst S dX11_strip_33 ?_
      refine r_aload_n S dX11_strip_34 0 rfl ?_
      refine m_get_rd S hm2 gtX11_56_X11 dX11_strip_35 ?_
      refine (c_V_T (As := [.int (iI p), .int (iI 1), .int (iI 0), .int (iI 0), .int (iI rd)]) (st := []) S (kX11_hold hm2 hkp (by omega)) moX11_hold ⟨by decide, by decide⟩ ⟨by omega, by omega⟩ rfl (Nat.le_of_ble_eq_true rfl) w803 w805 w16 hm2.1 rfl rfl dX11_strip_38).goV S hb hM (fun G38 hx38 hc38 => ?_)
      obtain ⟨ke38, kept38, now38, hm38, hkp38, hnw38⟩ := hc38
      refine r_iconst S dX11_strip_41 ?_
      refine r_istore_n (L' := [(2, .int (iI 0)), (0, .ref (A 0)), (1, .int (iI p))]) S dX11_strip_42 (by decide) rfl ?_
      have L43 : ∀ (N : Nat) (a : Int) (g : Int → Int), ∀ (G : gh), mS D A 0 ke38 (kmF km) rd g kept38 reel part best G →  (rd - a).toNat < N → (0 ≤ a ∧ a ≤ rd) → (∀ j, g j = if 60 + 40 * p ≤ j ∧ j < 60 + 40 * p + a then reel (j - (60 + 40 * p)) else holdF now p 1 0 0 rd j) → V F 3 G 0 0 43 [(0, .ref (A 0)), (1, .int (iI p)), (2, .int (iI a))] [] := by
        intro N
        induction N with
        | zero => intro a g G hm hN; exact absurd hN (Nat.not_lt_zero _)
        | succ N ih43 =>
          intro a g G hm hN43 ha i1
          refine r_iload_n S dX11_strip_43 2 rfl ?_
          refine r_aload_n S dX11_strip_44 0 rfl ?_
          refine m_get_rd S hm gtX11_56_X11 dX11_strip_45 ?_
          refine r_icmp_ge S 74 dX11_strip_48 (by decide) (by omega) (by omega) (fun c48 => ?_) (fun c48 => ?_)
          · skip
            refine r_aload_n S dX11_strip_74 0 rfl ?_
            refine r_iconst S dX11_strip_75 ?_
            refine m_put_rd S hb hM hm ptX11_56_X11 dX11_strip_76 (fun G76 hm76 => ?_)
            refine r_aload_n S dX11_strip_79 0 rfl ?_
            refine m_get_now S hm76 gtX11_7_X11 dX11_strip_80 ?_
            refine r_bipush S dX11_strip_83 (by decide) ?_
            refine r_iload_n S dX11_strip_85 1 rfl ?_
            refine r_iadd S dX11_strip_86 ?_
            refine m_ld_now S hm76 (by omega) (by omega) dX11_strip_87 ?_
            have h10 : g (10 + p) = rd := by rw [i1, if_neg (by omega)]; unfold holdF; rw [if_neg (by omega), if_pos rfl]
            rw [h10]
            exact ret.ti rd dX11_strip_88 (by omega) (by omega) (mEndS.m1 (by unfold sStrip; rw [if_neg (by omega), if_neg (by omega)]) ⟨_, _, _, _, _, by rw [show stripF now reel p rd = g from funext fun j => by rw [i1 j, show a = rd by omega]; rfl]; exact hm76, hkp38⟩)
          · skip
            refine r_aload_n S dX11_strip_51 0 rfl ?_
            refine m_get_now S hm gtX11_7_X11 dX11_strip_52 ?_
            refine r_aload_n S dX11_strip_55 0 rfl ?_
            refine r_iload_n S dX11_strip_56 1 rfl ?_
            refine r_iload_n S dX11_strip_57 2 rfl ?_
            refine (c_V_P (As := [.int (iI p), .int (iI a)]) (st := [.ref (A 1)]) S (kX11_stampAt hm ) moX11_stampAt ⟨by decide, by decide⟩ ⟨by omega, by omega⟩ rfl (Nat.le_of_ble_eq_true rfl) w827 w829 w19 hm.1 rfl rfl dX11_strip_58).goI (fun r58 hc58 => ?_)
            refine r_aload_n S dX11_strip_61 0 rfl ?_
            refine m_get_reel S hm gtX11_17_X11 dX11_strip_62 ?_
            refine r_iload_n S dX11_strip_65 2 rfl ?_
            refine m_ld_reel S hm (by omega) (by omega) dX11_strip_66 ?_
            refine m_st_now S hb hM hm (by omega) (by omega) dX11_strip_67 (fun G67 f67 ef67 hm67 => ?_)
            refine r_iinc_e (L' := [(2, .int (iI (1 + a))), (0, .ref (A 0)), (1, .int (iI p))]) (1 + a) (by omega) S dX11_strip_68 2 rfl (by decide) rfl ?_
            refine r_goto S 43 dX11_strip_71 (by decide) ?_
            refine V.sub [1, 2, 0] rfl ?_
            exact ih43 (1 + a) f67 _ hm67 (by omega) (by omega) (fun j => by rw [ef67, hc58]; by_cases e : j = 60 + 40 * p + a; rw [e, upI_s, if_pos (by omega)]; congr 1; omega; rw [upI_n (by omega), i1 j]; by_cases e2 : 60 + 40 * p ≤ j ∧ j < 60 + 40 * p + a; rw [if_pos e2, if_pos (by omega)]; rw [if_neg e2, if_neg (by omega)])
      refine V.sub [1, 2, 0] rfl ?_
      exact L43 _ 0 now38 _ hm38 (Nat.lt_succ_self _) (by omega) (fun j => by rw [if_neg (by omega), hnw38])
    · skip
      replace hc20 := zz1 hc20 c23
      refine r_bipush S dX11_strip_26 (by decide) ?_
      exact ret.ti (-4) dX11_strip_28 (by omega) (by omega) (mEndS.m0 (by unfold sStrip; rw [if_neg (by omega), if_pos (by omega)]) ⟨_, _, _, _, _, hm2, hkp⟩)
  · skip
    replace hc9 := zz0 hc9 c12
    refine r_bipush S dX11_strip_15 (by decide) ?_
    exact ret.ti (-3) dX11_strip_17 (by omega) (by omega) (mEndS.m0 (by unfold sStrip; rw [if_pos (by omega)]) ⟨_, _, _, _, _, hm2, hkp⟩)

set_option maxRecDepth 20000 in
set_option maxHeartbeats 2000000 in
theorem kX11_sheet {D : va_G} {A : Nat → Nat} {km rd : Int} {now reel : Int → Int} {hist : Int → Int → Int} {G : gh} (hq : mQ D A now hist km rd reel G) (hok : mOK now) {p k rows cols f : Int} (hp : inR p) (hk : inR k) (hr : inR rows) (hc : inR cols) (hf : inR f) : CT ⟨"PostageCounterModel", "sheet", "(IIIII)I"⟩ prog_13_method_16_code 7 (some .int) 2 48 0 0 D [.ref (A 0), .int (iI p), .int (iI k), .int (iI rows), .int (iI cols), .int (iI f)] G (mM A) (tI (mEnd D A now hist km rd reel (sSheet now p k rows cols f))) := by
  refine CT.enter (by decide +kernel) (Nat.le_of_ble_eq_true rfl) (fun F S ret hb hM hI => ?_)
  show V F 7 G 0 0 0 [(0, .ref (A 0)), (1, .int (iI p)), (2, .int (iI k)), (3, .int (iI rows)), (4, .int (iI cols)), (5, .int (iI f))] []
  obtain ⟨th, ke, kept, part, best, hm, hkp⟩ := hq
  refine r_aload_n S dX11_sheet_0 0 rfl ?_
  refine r_iconst S dX11_sheet_1 ?_
  refine m_put_th S hb hM hm ptX11_27_X11 dX11_sheet_2 (fun G2 hm2 => ?_)
  refine r_iload_n S dX11_sheet_5 1 rfl ?_
  refine r_iconst S dX11_sheet_6 ?_
  refine r_bipush S dX11_sheet_7 (by decide) ?_
  refine (c_S_P (As := [.int (iI p), .int (iI 0), .int (iI 9)]) (st := []) S (kX11_in (by omega) (by omega) (by omega)) moX11_in ⟨by decide, by decide⟩ ⟨by omega, by omega⟩ rfl (Nat.le_of_ble_eq_true rfl) w796 w797 rfl dX11_sheet_9).goI (fun r9 hc9 => ?_)
  refine r_if_eq S 49 dX11_sheet_12 (by decide) (by omega) (fun c12 => ?_) (fun c12 => ?_)
  · skip
    replace hc9 := zz0 hc9 c12
    refine r_bipush S dX11_sheet_49 (by decide) ?_
    exact ret.ti (-3) dX11_sheet_51 (by omega) (by omega) (mEnd.m0 (by unfold sSheet; rw [if_pos (by omega)]) ⟨_, _, _, _, _, hm2, hkp⟩)
  · skip
    replace hc9 := zz1 hc9 c12
    refine r_iload_n S dX11_sheet_15 2 rfl ?_
    refine r_iconst S dX11_sheet_16 ?_
    refine r_iconst S dX11_sheet_17 ?_
    refine (c_S_P (As := [.int (iI k), .int (iI 2), .int (iI 3)]) (st := []) S (kX11_in (by omega) (by omega) (by omega)) moX11_in ⟨by decide, by decide⟩ ⟨by omega, by omega⟩ rfl (Nat.le_of_ble_eq_true rfl) w796 w797 rfl dX11_sheet_18).goI (fun r18 hc18 => ?_)
    refine r_if_eq S 49 dX11_sheet_21 (by decide) (by omega) (fun c21 => ?_) (fun c21 => ?_)
    · skip
      replace hc18 := zz0 hc18 c21
      refine r_bipush S dX11_sheet_49 (by decide) ?_
      exact ret.ti (-3) dX11_sheet_51 (by omega) (by omega) (mEnd.m0 (by unfold sSheet; rw [if_pos (by omega)]) ⟨_, _, _, _, _, hm2, hkp⟩)
    · skip
      replace hc18 := zz1 hc18 c21
      refine r_iload S dX11_sheet_24 5 rfl ?_
      refine r_iconst S dX11_sheet_26 ?_
      refine r_sipush S dX11_sheet_27 (by decide) ?_
      refine (c_S_P (As := [.int (iI f), .int (iI 1), .int (iI 500)]) (st := []) S (kX11_in (by omega) (by omega) (by omega)) moX11_in ⟨by decide, by decide⟩ ⟨by omega, by omega⟩ rfl (Nat.le_of_ble_eq_true rfl) w796 w797 rfl dX11_sheet_30).goI (fun r30 hc30 => ?_)
      refine r_if_eq S 49 dX11_sheet_33 (by decide) (by omega) (fun c33 => ?_) (fun c33 => ?_)
      · skip
        replace hc30 := zz0 hc30 c33
        refine r_bipush S dX11_sheet_49 (by decide) ?_
        exact ret.ti (-3) dX11_sheet_51 (by omega) (by omega) (mEnd.m0 (by unfold sSheet; rw [if_pos (by omega)]) ⟨_, _, _, _, _, hm2, hkp⟩)
      · skip
        replace hc30 := zz1 hc30 c33
        refine r_iload_n S dX11_sheet_36 3 rfl ?_
        refine r_bipush S dX11_sheet_37 (by decide) ?_
        refine r_icmp_gt S 49 dX11_sheet_39 (by decide) (by omega) (by omega) (fun c39 => ?_) (fun c39 => ?_)
        · skip
          refine r_bipush S dX11_sheet_49 (by decide) ?_
          exact ret.ti (-3) dX11_sheet_51 (by omega) (by omega) (mEnd.m0 (by unfold sSheet; rw [if_pos (by omega)]) ⟨_, _, _, _, _, hm2, hkp⟩)
        · skip
          refine r_iload S dX11_sheet_42 4 rfl ?_
          refine r_bipush S dX11_sheet_44 (by decide) ?_
          refine r_icmp_le S 52 dX11_sheet_46 (by decide) (by omega) (by omega) (fun c46 => ?_) (fun c46 => ?_)
          · skip
            refine r_aload_n S dX11_sheet_52 0 rfl ?_
            refine r_iload_n S dX11_sheet_53 1 rfl ?_
            refine (c_V_P (As := [.int (iI p)]) (st := []) S (kX11_isHeld hm2 (by omega) (by have := hok.1 p (by omega) (by omega); omega)) moX11_isHeld ⟨by decide, by decide⟩ ⟨by omega, by omega⟩ rfl (Nat.le_of_ble_eq_true rfl) w799 w801 w15 hm2.1 rfl rfl dX11_sheet_54).goI (fun r54 hc54 => ?_)
            refine r_if_eq S 63 dX11_sheet_57 (by decide) (by omega) (fun c57 => ?_) (fun c57 => ?_)
            · skip
              replace hc54 := zz0 hc54 c57
              refine r_iload_n S dX11_sheet_63 3 rfl ?_
              refine r_if_lt S 72 dX11_sheet_64 (by decide) (by omega) (fun c64 => ?_) (fun c64 => ?_)
              · skip
                refine r_bipush S dX11_sheet_72 (by decide) ?_
                exact ret.ti (-14) dX11_sheet_74 (by omega) (by omega) (mEnd.m0 (by unfold sSheet; rw [if_neg (by omega), if_neg (by omega), if_pos (by omega)]) ⟨_, _, _, _, _, hm2, hkp⟩)
              · skip
                refine r_iload S dX11_sheet_67 4 rfl ?_
                refine r_if_ge S 75 dX11_sheet_69 (by decide) (by omega) (fun c69 => ?_) (fun c69 => ?_)
                · skip
                  refine r_iload_n S dX11_sheet_75 3 rfl ?_
                  refine r_if_eq S 97 dX11_sheet_76 (by decide) (by omega) (fun c76 => ?_) (fun c76 => ?_)
                  · skip
                    refine r_bipush S dX11_sheet_97 (by decide) ?_
                    exact ret.ti (-3) dX11_sheet_99 (by omega) (by omega) (mEnd.m0 (by unfold sSheet; rw [if_neg (by omega), if_neg (by omega), if_neg (by omega), if_pos (by omega)]) ⟨_, _, _, _, _, hm2, hkp⟩)
                  · skip
                    refine r_iload S dX11_sheet_79 4 rfl ?_
                    refine r_if_eq S 97 dX11_sheet_81 (by decide) (by omega) (fun c81 => ?_) (fun c81 => ?_)
                    · skip
                      refine r_bipush S dX11_sheet_97 (by decide) ?_
                      exact ret.ti (-3) dX11_sheet_99 (by omega) (by omega) (mEnd.m0 (by unfold sSheet; rw [if_neg (by omega), if_neg (by omega), if_neg (by omega), if_pos (by omega)]) ⟨_, _, _, _, _, hm2, hkp⟩)
                    · skip
                      refine r_iload_n S dX11_sheet_84 2 rfl ?_
                      refine r_iconst S dX11_sheet_85 ?_
                      refine r_icmp_ne S 100 dX11_sheet_86 (by decide) (by omega) (by omega) (fun c86 => ?_) (fun c86 => ?_)
                      · skip
                        have hrc := rc_bd (r := rows) (c := cols) (by omega) (by omega) (by omega) (by omega)
                        refine r_aload_n S dX11_sheet_100 0 rfl ?_
                        refine r_iload_n S dX11_sheet_101 1 rfl ?_
                        refine r_iload_n S dX11_sheet_102 2 rfl ?_
                        refine r_iload S dX11_sheet_103 5 rfl ?_
                        refine r_iconst S dX11_sheet_105 ?_
                        refine r_iload_n S dX11_sheet_106 3 rfl ?_
                        refine r_iload S dX11_sheet_107 4 rfl ?_
                        refine r_imul S dX11_sheet_109 ?_
                        refine (c_V_T (As := [.int (iI p), .int (iI k), .int (iI f), .int (iI 0), .int (iI (rows * cols))]) (st := []) S (kX11_hold hm2 hkp (by omega)) moX11_hold ⟨by decide, by decide⟩ ⟨by omega, by omega⟩ rfl (Nat.le_of_ble_eq_true rfl) w803 w805 w16 hm2.1 rfl rfl dX11_sheet_110).goV S hb hM (fun G110 hx110 hc110 => ?_)
                        obtain ⟨ke110, kept110, now110, hm110, hkp110, hnw110⟩ := hc110
                        refine r_aload_n S dX11_sheet_113 0 rfl ?_
                        refine m_get_now S hm110 gtX11_7_X11 dX11_sheet_114 ?_
                        refine r_bipush S dX11_sheet_117 (by decide) ?_
                        refine r_iload_n S dX11_sheet_119 1 rfl ?_
                        refine r_iadd S dX11_sheet_120 ?_
                        refine r_iload_n S dX11_sheet_121 3 rfl ?_
                        refine m_st_now S hb hM hm110 (by omega) (by omega) dX11_sheet_122 (fun G122 f122 ef122 hm122 => ?_)
                        refine r_aload_n S dX11_sheet_123 0 rfl ?_
                        refine m_get_now S hm122 gtX11_7_X11 dX11_sheet_124 ?_
                        refine r_bipush S dX11_sheet_127 (by decide) ?_
                        refine r_iload_n S dX11_sheet_129 1 rfl ?_
                        refine r_iadd S dX11_sheet_130 ?_
                        refine r_iload S dX11_sheet_131 4 rfl ?_
                        refine m_st_now S hb hM hm122 (by omega) (by omega) dX11_sheet_133 (fun G133 f133 ef133 hm133 => ?_)
                        refine r_iconst S dX11_sheet_134 ?_
                        refine r_istore (L' := [(6, .int (iI 0)), (0, .ref (A 0)), (1, .int (iI p)), (2, .int (iI k)), (3, .int (iI rows)), (4, .int (iI cols)), (5, .int (iI f))]) S dX11_sheet_135 (by decide) rfl ?_
                        have L137 : ∀ (N : Nat) (x : Int) (g : Int → Int), ∀ (G : gh), mS D A 0 ke110 (kmF km) rd g kept110 reel part best G →  (rows * cols - x).toNat < N → (0 ≤ x ∧ x ≤ rows * cols) → (∀ j, g j = if 460 + 64 * p ≤ j ∧ j < 460 + 64 * p + x then f else f133 j) → V F 7 G 0 0 137 [(0, .ref (A 0)), (1, .int (iI p)), (3, .int (iI rows)), (4, .int (iI cols)), (5, .int (iI f)), (6, .int (iI x))] [] := by
                          intro N
                          induction N with
                          | zero => intro x g G hm hN; exact absurd hN (Nat.not_lt_zero _)
                          | succ N ih137 =>
                            intro x g G hm hN137 hx i1
                            refine r_iload S dX11_sheet_137 5 rfl ?_
                            refine r_iload_n S dX11_sheet_139 2 rfl ?_
                            refine r_iload S dX11_sheet_140 3 rfl ?_
                            refine r_imul S dX11_sheet_142 ?_
                            refine r_icmp_ge S 166 dX11_sheet_143 (by decide) (by omega) (by omega) (fun c143 => ?_) (fun c143 => ?_)
                            · skip
                              refine r_iload_n S dX11_sheet_166 2 rfl ?_
                              refine r_iload S dX11_sheet_167 3 rfl ?_
                              refine r_imul S dX11_sheet_169 ?_
                              exact ret.ti (rows * cols) dX11_sheet_170 (by omega) (by omega) (mEnd.m1 (by unfold sSheet; rw [if_neg (by omega), if_neg (by omega), if_neg (by omega), if_neg (by omega)]) ⟨_, _, _, _, _, by rw [show sheetF now p k rows cols f = g from funext fun j => by rw [i1 j, show x = rows * cols by omega, ef133, ef122, hnw110]; unfold sheetF upI; (repeat' split) <;> first | rfl | omega]; exact hm, hkp110⟩)
                            · skip
                              refine r_aload_n S dX11_sheet_146 0 rfl ?_
                              refine m_get_now S hm gtX11_7_X11 dX11_sheet_147 ?_
                              refine r_aload_n S dX11_sheet_150 0 rfl ?_
                              refine r_iload_n S dX11_sheet_151 1 rfl ?_
                              refine r_iload S dX11_sheet_152 5 rfl ?_
                              refine (c_V_P (As := [.int (iI p), .int (iI x)]) (st := [.ref (A 1)]) S (kX11_squareAt hm ) moX11_squareAt ⟨by decide, by decide⟩ ⟨by omega, by omega⟩ rfl (Nat.le_of_ble_eq_true rfl) w811 w813 w18 hm.1 rfl rfl dX11_sheet_154).goI (fun r154 hc154 => ?_)
                              refine r_iload S dX11_sheet_157 4 rfl ?_
                              refine m_st_now S hb hM hm (by omega) (by omega) dX11_sheet_159 (fun G159 f159 ef159 hm159 => ?_)
                              refine r_iinc_e (L' := [(6, .int (iI (1 + x))), (0, .ref (A 0)), (1, .int (iI p)), (3, .int (iI rows)), (4, .int (iI cols)), (5, .int (iI f))]) (1 + x) (by omega) S dX11_sheet_160 5 rfl (by decide) rfl ?_
                              refine r_goto S 137 dX11_sheet_163 (by decide) ?_
                              refine V.sub [1, 2, 3, 4, 5, 0] rfl ?_
                              exact ih137 (1 + x) f159 _ hm159 (by omega) (by omega) (fun j => by rw [ef159, hc154]; by_cases e : j = 460 + 64 * p + x; rw [e, upI_s, if_pos (by omega)]; rw [upI_n (by omega), i1 j]; by_cases e2 : 460 + 64 * p ≤ j ∧ j < 460 + 64 * p + x; rw [if_pos e2, if_pos (by omega)]; rw [if_neg e2, if_neg (by omega)])
                        refine V.sub [1, 2, 4, 5, 6, 0] rfl ?_
                        exact L137 _ 0 f133 _ hm133 (Nat.lt_succ_self _) (by omega) (fun j => by rw [if_neg (by omega)])
                      · skip
                        refine r_iload S dX11_sheet_89 4 rfl ?_
                        refine r_iconst S dX11_sheet_91 ?_
                        refine r_irem S dX11_sheet_92 (by omega) (by omega) ?_
                        refine r_iconst S dX11_sheet_93 ?_
                        refine r_icmp_ne S 100 dX11_sheet_94 (by decide) (by omega) (by omega) (fun c94 => ?_) (fun c94 => ?_)
                        · skip
                          have hrc := rc_bd (r := rows) (c := cols) (by omega) (by omega) (by omega) (by omega)
                          refine r_aload_n S dX11_sheet_100 0 rfl ?_
                          refine r_iload_n S dX11_sheet_101 1 rfl ?_
                          refine r_iload_n S dX11_sheet_102 2 rfl ?_
                          refine r_iload S dX11_sheet_103 5 rfl ?_
                          refine r_iconst S dX11_sheet_105 ?_
                          refine r_iload_n S dX11_sheet_106 3 rfl ?_
                          refine r_iload S dX11_sheet_107 4 rfl ?_
                          refine r_imul S dX11_sheet_109 ?_
                          refine (c_V_T (As := [.int (iI p), .int (iI k), .int (iI f), .int (iI 0), .int (iI (rows * cols))]) (st := []) S (kX11_hold hm2 hkp (by omega)) moX11_hold ⟨by decide, by decide⟩ ⟨by omega, by omega⟩ rfl (Nat.le_of_ble_eq_true rfl) w803 w805 w16 hm2.1 rfl rfl dX11_sheet_110).goV S hb hM (fun G110 hx110 hc110 => ?_)
                          obtain ⟨ke110, kept110, now110, hm110, hkp110, hnw110⟩ := hc110
                          refine r_aload_n S dX11_sheet_113 0 rfl ?_
                          refine m_get_now S hm110 gtX11_7_X11 dX11_sheet_114 ?_
                          refine r_bipush S dX11_sheet_117 (by decide) ?_
                          refine r_iload_n S dX11_sheet_119 1 rfl ?_
                          refine r_iadd S dX11_sheet_120 ?_
                          refine r_iload_n S dX11_sheet_121 3 rfl ?_
                          refine m_st_now S hb hM hm110 (by omega) (by omega) dX11_sheet_122 (fun G122 f122 ef122 hm122 => ?_)
                          refine r_aload_n S dX11_sheet_123 0 rfl ?_
                          refine m_get_now S hm122 gtX11_7_X11 dX11_sheet_124 ?_
                          refine r_bipush S dX11_sheet_127 (by decide) ?_
                          refine r_iload_n S dX11_sheet_129 1 rfl ?_
                          refine r_iadd S dX11_sheet_130 ?_
                          refine r_iload S dX11_sheet_131 4 rfl ?_
                          refine m_st_now S hb hM hm122 (by omega) (by omega) dX11_sheet_133 (fun G133 f133 ef133 hm133 => ?_)
                          refine r_iconst S dX11_sheet_134 ?_
                          refine r_istore (L' := [(6, .int (iI 0)), (0, .ref (A 0)), (1, .int (iI p)), (2, .int (iI k)), (3, .int (iI rows)), (4, .int (iI cols)), (5, .int (iI f))]) S dX11_sheet_135 (by decide) rfl ?_
                          have L137 : ∀ (N : Nat) (x : Int) (g : Int → Int), ∀ (G : gh), mS D A 0 ke110 (kmF km) rd g kept110 reel part best G →  (rows * cols - x).toNat < N → (0 ≤ x ∧ x ≤ rows * cols) → (∀ j, g j = if 460 + 64 * p ≤ j ∧ j < 460 + 64 * p + x then f else f133 j) → V F 7 G 0 0 137 [(0, .ref (A 0)), (1, .int (iI p)), (3, .int (iI rows)), (4, .int (iI cols)), (5, .int (iI f)), (6, .int (iI x))] [] := by
                            intro N
                            induction N with
                            | zero => intro x g G hm hN; exact absurd hN (Nat.not_lt_zero _)
                            | succ N ih137 =>
                              intro x g G hm hN137 hx i1
                              refine r_iload S dX11_sheet_137 5 rfl ?_
                              refine r_iload_n S dX11_sheet_139 2 rfl ?_
                              refine r_iload S dX11_sheet_140 3 rfl ?_
                              refine r_imul S dX11_sheet_142 ?_
                              refine r_icmp_ge S 166 dX11_sheet_143 (by decide) (by omega) (by omega) (fun c143 => ?_) (fun c143 => ?_)
                              · skip
                                refine r_iload_n S dX11_sheet_166 2 rfl ?_
                                refine r_iload S dX11_sheet_167 3 rfl ?_
                                refine r_imul S dX11_sheet_169 ?_
                                exact ret.ti (rows * cols) dX11_sheet_170 (by omega) (by omega) (mEnd.m1 (by unfold sSheet; rw [if_neg (by omega), if_neg (by omega), if_neg (by omega), if_neg (by omega)]) ⟨_, _, _, _, _, by rw [show sheetF now p k rows cols f = g from funext fun j => by rw [i1 j, show x = rows * cols by omega, ef133, ef122, hnw110]; unfold sheetF upI; (repeat' split) <;> first | rfl | omega]; exact hm, hkp110⟩)
                              · skip
                                refine r_aload_n S dX11_sheet_146 0 rfl ?_
                                refine m_get_now S hm gtX11_7_X11 dX11_sheet_147 ?_
                                refine r_aload_n S dX11_sheet_150 0 rfl ?_
                                refine r_iload_n S dX11_sheet_151 1 rfl ?_
                                refine r_iload S dX11_sheet_152 5 rfl ?_
                                refine (c_V_P (As := [.int (iI p), .int (iI x)]) (st := [.ref (A 1)]) S (kX11_squareAt hm ) moX11_squareAt ⟨by decide, by decide⟩ ⟨by omega, by omega⟩ rfl (Nat.le_of_ble_eq_true rfl) w811 w813 w18 hm.1 rfl rfl dX11_sheet_154).goI (fun r154 hc154 => ?_)
                                refine r_iload S dX11_sheet_157 4 rfl ?_
                                refine m_st_now S hb hM hm (by omega) (by omega) dX11_sheet_159 (fun G159 f159 ef159 hm159 => ?_)
                                refine r_iinc_e (L' := [(6, .int (iI (1 + x))), (0, .ref (A 0)), (1, .int (iI p)), (3, .int (iI rows)), (4, .int (iI cols)), (5, .int (iI f))]) (1 + x) (by omega) S dX11_sheet_160 5 rfl (by decide) rfl ?_
                                refine r_goto S 137 dX11_sheet_163 (by decide) ?_
                                refine V.sub [1, 2, 3, 4, 5, 0] rfl ?_
                                exact ih137 (1 + x) f159 _ hm159 (by omega) (by omega) (fun j => by rw [ef159, hc154]; by_cases e : j = 460 + 64 * p + x; rw [e, upI_s, if_pos (by omega)]; rw [upI_n (by omega), i1 j]; by_cases e2 : 460 + 64 * p ≤ j ∧ j < 460 + 64 * p + x; rw [if_pos e2, if_pos (by omega)]; rw [if_neg e2, if_neg (by omega)])
                          refine V.sub [1, 2, 4, 5, 6, 0] rfl ?_
                          exact L137 _ 0 f133 _ hm133 (Nat.lt_succ_self _) (by omega) (fun j => by rw [if_neg (by omega)])
                        · skip
                          refine r_bipush S dX11_sheet_97 (by decide) ?_
                          exact ret.ti (-3) dX11_sheet_99 (by omega) (by omega) (mEnd.m0 (by unfold sSheet; rw [if_neg (by omega), if_neg (by omega), if_neg (by omega), if_pos (by omega)]) ⟨_, _, _, _, _, hm2, hkp⟩)
                · skip
                  refine r_bipush S dX11_sheet_72 (by decide) ?_
                  exact ret.ti (-14) dX11_sheet_74 (by omega) (by omega) (mEnd.m0 (by unfold sSheet; rw [if_neg (by omega), if_neg (by omega), if_pos (by omega)]) ⟨_, _, _, _, _, hm2, hkp⟩)
            · skip
              replace hc54 := zz1 hc54 c57
              refine r_bipush S dX11_sheet_60 (by decide) ?_
              exact ret.ti (-4) dX11_sheet_62 (by omega) (by omega) (mEnd.m0 (by unfold sSheet; rw [if_neg (by omega), if_pos (by omega)]) ⟨_, _, _, _, _, hm2, hkp⟩)
          · skip
            refine r_bipush S dX11_sheet_49 (by decide) ?_
            exact ret.ti (-3) dX11_sheet_51 (by omega) (by omega) (mEnd.m0 (by unfold sSheet; rw [if_pos (by omega)]) ⟨_, _, _, _, _, hm2, hkp⟩)

set_option maxRecDepth 20000 in
set_option maxHeartbeats 2000000 in
theorem kX11_lack {D : va_G} {A : Nat → Nat} {km rd : Int} {now reel : Int → Int} {hist : Int → Int → Int} {G : gh} (hq : mQ D A now hist km rd reel G) (hok : mOK now) {p r : Int} (hp : inR p) (hr : inR r) : CT ⟨"PostageCounterModel", "lack", "(II)I"⟩ prog_13_method_17_code 6 (some .int) 1 22 0 0 D [.ref (A 0), .int (iI p), .int (iI r)] G (mM A) (tI (mEnd D A now hist km rd reel (sLack now p r))) := by
  refine CT.enter (by decide +kernel) (Nat.le_of_ble_eq_true rfl) (fun F S ret hb hM hI => ?_)
  show V F 6 G 0 0 0 [(0, .ref (A 0)), (1, .int (iI p)), (2, .int (iI r))] []
  obtain ⟨th, ke, kept, part, best, hm, hkp⟩ := hq
  refine r_aload_n S dX11_lack_0 0 rfl ?_
  refine r_iconst S dX11_lack_1 ?_
  refine m_put_th S hb hM hm ptX11_27_X11 dX11_lack_2 (fun G2 hm2 => ?_)
  refine r_iload_n S dX11_lack_5 1 rfl ?_
  refine r_iconst S dX11_lack_6 ?_
  refine r_bipush S dX11_lack_7 (by decide) ?_
  refine (c_S_P (As := [.int (iI p), .int (iI 0), .int (iI 9)]) (st := []) S (kX11_in (by omega) (by omega) (by omega)) moX11_in ⟨by decide, by decide⟩ ⟨by omega, by omega⟩ rfl (Nat.le_of_ble_eq_true rfl) w796 w797 rfl dX11_lack_9).goI (fun r9 hc9 => ?_)
  refine r_if_ne S 18 dX11_lack_12 (by decide) (by omega) (fun c12 => ?_) (fun c12 => ?_)
  · skip
    replace hc9 := zz1 hc9 c12
    refine r_aload_n S dX11_lack_18 0 rfl ?_
    refine r_iload_n S dX11_lack_19 1 rfl ?_
    refine (c_V_P (As := [.int (iI p)]) (st := []) S (kX11_isHeld hm2 (by omega) (by have := hok.1 p (by omega) (by omega); omega)) moX11_isHeld ⟨by decide, by decide⟩ ⟨by omega, by omega⟩ rfl (Nat.le_of_ble_eq_true rfl) w799 w801 w15 hm2.1 rfl rfl dX11_lack_20).goI (fun r20 hc20 => ?_)
    refine r_if_ne S 29 dX11_lack_23 (by decide) (by omega) (fun c23 => ?_) (fun c23 => ?_)
    · skip
      replace hc20 := zz1 hc20 c23
      refine r_aload_n S dX11_lack_29 0 rfl ?_
      refine r_iload_n S dX11_lack_30 1 rfl ?_
      have hK := hok.1 p (by omega) (by omega)
      refine (c_V_P (As := [.int (iI p)]) (st := []) S (kX11_isSheet hm2 (by omega) (by have := hok.1 p (by omega) (by omega); omega)) moX11_isSheet ⟨by decide, by decide⟩ ⟨by omega, by omega⟩ rfl (Nat.le_of_ble_eq_true rfl) w839 w841 w20 hm2.1 rfl rfl dX11_lack_31).goI (fun r31 hc31 => ?_)
      refine r_if_ne S 40 dX11_lack_34 (by decide) (by omega) (fun c34 => ?_) (fun c34 => ?_)
      · skip
        replace hc31 := zz1 hc31 c34
        refine r_iload_n S dX11_lack_40 2 rfl ?_
        refine r_iconst S dX11_lack_41 ?_
        refine r_aload_n S dX11_lack_42 0 rfl ?_
        refine m_get_now S hm2 gtX11_7_X11 dX11_lack_43 ?_
        refine r_bipush S dX11_lack_46 (by decide) ?_
        refine r_iload_n S dX11_lack_48 1 rfl ?_
        refine r_iadd S dX11_lack_49 ?_
        refine m_ld_now S hm2 (by omega) (by omega) dX11_lack_50 ?_
        refine r_iconst S dX11_lack_51 ?_
        refine r_isub_e (now (40 + p) - 1) (by omega) S dX11_lack_52 ?_
        refine (c_S_P (As := [.int (iI r), .int (iI 0), .int (iI (now (40 + p) - 1))]) (st := []) S (kX11_in (by omega) (by omega) (by omega)) moX11_in ⟨by decide, by decide⟩ ⟨by omega, by omega⟩ rfl (Nat.le_of_ble_eq_true rfl) w796 w797 rfl dX11_lack_53).goI (fun r53 hc53 => ?_)
        refine r_if_ne S 62 dX11_lack_56 (by decide) (by omega) (fun c56 => ?_) (fun c56 => ?_)
        · skip
          replace hc53 := zz1 hc53 c56
          have hLk := hok.2.2.2.1 p r (by omega) (by omega) (by omega) (by omega)
          refine r_aload_n S dX11_lack_62 0 rfl ?_
          refine m_get_now S hm2 gtX11_7_X11 dX11_lack_63 ?_
          refine r_sipush S dX11_lack_66 (by decide) ?_
          refine r_bipush S dX11_lack_69 (by decide) ?_
          refine r_iload_n S dX11_lack_71 1 rfl ?_
          refine r_imul S dX11_lack_72 ?_
          refine r_iadd_e (1100 + 8 * p) (by omega) S dX11_lack_73 ?_
          refine r_iload_n S dX11_lack_74 2 rfl ?_
          refine r_iadd_e (1100 + 8 * p + r) (by omega) S dX11_lack_75 ?_
          refine m_ld_now S hm2 (by omega) (by omega) dX11_lack_76 ?_
          refine r_iconst S dX11_lack_77 ?_
          refine r_icmp_ne S 84 dX11_lack_78 (by decide) (by omega) (by omega) (fun c78 => ?_) (fun c78 => ?_)
          · skip
            refine r_aload_n S dX11_lack_84 0 rfl ?_
            refine (c_V_T (As := []) (st := []) S (kX11_keep hm2 hkp) moX11_keep ⟨by decide, by decide⟩ ⟨by omega, by omega⟩ rfl (Nat.le_of_ble_eq_true rfl) w807 w809 w17 hm2.1 rfl rfl dX11_lack_85).goV S hb hM (fun G85 hx85 hc85 => ?_)
            obtain ⟨ke85, kept85, hm85, hkp85⟩ := hc85
            refine r_aload_n S dX11_lack_88 0 rfl ?_
            refine m_get_now S hm85 gtX11_7_X11 dX11_lack_89 ?_
            refine r_sipush S dX11_lack_92 (by decide) ?_
            refine r_bipush S dX11_lack_95 (by decide) ?_
            refine r_iload_n S dX11_lack_97 1 rfl ?_
            refine r_imul S dX11_lack_98 ?_
            refine r_iadd_e (1100 + 8 * p) (by omega) S dX11_lack_99 ?_
            refine r_iload_n S dX11_lack_100 2 rfl ?_
            refine r_iadd_e (1100 + 8 * p + r) (by omega) S dX11_lack_101 ?_
            refine r_iconst S dX11_lack_102 ?_
            refine m_st_now S hb hM hm85 (by omega) (by omega) dX11_lack_103 (fun G103 f103 ef103 hm103 => ?_)
            refine r_iconst S dX11_lack_104 ?_
            refine r_istore_n (L' := [(3, .int (iI 0)), (0, .ref (A 0)), (1, .int (iI p)), (2, .int (iI r))]) S dX11_lack_105 (by decide) rfl ?_
            refine r_aload_n S dX11_lack_106 1 rfl ?_
            refine m_get_now S hm103 gtX11_7_X11 dX11_lack_107 ?_
            refine r_bipush S dX11_lack_110 (by decide) ?_
            refine r_iload_n S dX11_lack_112 2 rfl ?_
            refine r_iadd S dX11_lack_113 ?_
            refine m_ld_now S hm103 (by omega) (by omega) dX11_lack_114 ?_
            have hc50 : f103 (50 + p) = now (50 + p) := by rw [ef103, upI_n (by omega)]
            have hcr := cr_bd (c := now (50 + p)) (r := r) (by omega) (by omega) (by omega) (by omega)
            rw [hc50]
            refine r_istore (L' := [(4, .int (iI (now (50 + p)))), (3, .int (iI 0)), (0, .ref (A 0)), (1, .int (iI p)), (2, .int (iI r))]) S dX11_lack_115 (by decide) rfl ?_
            refine r_iconst S dX11_lack_117 ?_
            refine r_istore (L' := [(5, .int (iI 0)), (4, .int (iI (now (50 + p)))), (3, .int (iI 0)), (0, .ref (A 0)), (1, .int (iI p)), (2, .int (iI r))]) S dX11_lack_118 (by decide) rfl ?_
            have L120 : ∀ (N : Nat) (had : Int) (k : Int) (g : Int → Int), ∀ (G : gh), mS D A 0 ke85 (kmF km) rd g kept85 reel part best G →  (now (50 + p) - k).toNat < N → (0 ≤ k ∧ k ≤ now (50 + p)) → (had = cntP now (460 + 64 * p + now (50 + p) * r) k.toNat) → (∀ j, g j = if 460 + 64 * p + now (50 + p) * r ≤ j ∧ j < 460 + 64 * p + now (50 + p) * r + k then 0 else f103 j) → V F 6 G 0 0 120 [(0, .ref (A 0)), (1, .int (iI p)), (2, .int (iI r)), (3, .int (iI had)), (4, .int (iI (now (50 + p)))), (5, .int (iI k))] [] := by
              intro N
              induction N with
              | zero => intro had k g G hm hN; exact absurd hN (Nat.not_lt_zero _)
              | succ N ih120 =>
                intro had k g G hm hN120 hk hh i1
                refine r_iload S dX11_lack_120 5 rfl ?_
                refine r_iload S dX11_lack_122 4 rfl ?_
                refine r_icmp_ge S 179 dX11_lack_124 (by decide) (by omega) (by omega) (fun c124 => ?_) (fun c124 => ?_)
                · skip
                  refine r_aload_n S dX11_lack_179 0 rfl ?_
                  refine m_get_now S hm gtX11_7_X11 dX11_lack_180 ?_
                  refine r_bipush S dX11_lack_183 (by decide) ?_
                  refine r_iload_n S dX11_lack_185 1 rfl ?_
                  refine r_iadd S dX11_lack_186 ?_
                  refine r_dup2 rfl rfl S dX11_lack_187 ?_
                  refine m_ld_now S hm (by omega) (by omega) dX11_lack_188 ?_
                  have h10 : g (10 + p) = now (10 + p) := by rw [i1, if_neg (by omega), ef103, upI_n (by omega)]
                  rw [h10]
                  refine r_iload_n S dX11_lack_189 3 rfl ?_
                  refine r_isub_e (now (10 + p) - had) (by omega) S dX11_lack_190 ?_
                  refine m_st_now S hb hM hm (by omega) (by omega) dX11_lack_191 (fun G191 f191 ef191 hm191 => ?_)
                  refine r_iload_n S dX11_lack_192 3 rfl ?_
                  exact ret.ti had dX11_lack_193 (by omega) (by omega) (mEnd.m1 (by unfold sLack; rw [if_neg (by omega), if_neg (by omega), if_neg (by omega), if_neg (by omega), if_neg (by omega), hh, show k = now (50 + p) by omega]) ⟨_, _, _, _, _, by rw [show lackF now p r = f191 from funext fun j => by (by_cases e10 : j = 10 + p); subst e10; rw [ef191, upI_s, hh, show k = now (50 + p) by omega]; unfold lackF; rw [if_neg (by omega), if_neg (by omega), if_pos rfl]; rw [ef191, upI_n e10, i1 j, ef103, show k = now (50 + p) by omega]; unfold upI lackF; (repeat' split) <;> first | rfl | omega]; exact hm191, hkp85⟩)
                · skip
                  have L153 : ∀ (b : Int), ∀ (G : gh), mS D A 0 ke85 (kmF km) rd g kept85 reel part best G →  True → (b = if 0 < now (460 + 64 * p + now (50 + p) * r + k) then 1 else 0) → V F 6 G 0 0 153 [(0, .ref (A 0)), (1, .int (iI p)), (2, .int (iI r)), (3, .int (iI had)), (4, .int (iI (now (50 + p)))), (5, .int (iI k))] [.int (iI b), .int (iI had)] := by
                    intro b G hm _ hbb
                    refine r_iadd_e (b + had) (by omega) S dX11_lack_153 ?_
                    refine r_istore_n (L' := [(3, .int (iI (b + had))), (0, .ref (A 0)), (1, .int (iI p)), (2, .int (iI r)), (4, .int (iI (now (50 + p)))), (5, .int (iI k))]) S dX11_lack_154 (by decide) rfl ?_
                    refine r_aload_n S dX11_lack_155 1 rfl ?_
                    refine m_get_now S hm gtX11_7_X11 dX11_lack_156 ?_
                    refine r_aload_n S dX11_lack_159 1 rfl ?_
                    refine r_iload_n S dX11_lack_160 2 rfl ?_
                    refine r_iload S dX11_lack_161 4 rfl ?_
                    refine r_iload_n S dX11_lack_163 3 rfl ?_
                    refine r_imul S dX11_lack_164 ?_
                    refine r_iload S dX11_lack_165 5 rfl ?_
                    refine r_iadd_e ((now (50 + p)) * r + k) (by omega) S dX11_lack_167 ?_
                    refine (c_V_P (As := [.int (iI p), .int (iI ((now (50 + p)) * r + k))]) (st := [.ref (A 1)]) S (kX11_squareAt hm ) moX11_squareAt ⟨by decide, by decide⟩ ⟨by omega, by omega⟩ rfl (Nat.le_of_ble_eq_true rfl) w811 w813 w18 hm.1 rfl rfl dX11_lack_168).goI (fun r168 hc168 => ?_)
                    refine r_iconst S dX11_lack_171 ?_
                    refine m_st_now S hb hM hm (by omega) (by omega) dX11_lack_172 (fun G172 f172 ef172 hm172 => ?_)
                    refine r_iinc_e (L' := [(5, .int (iI (1 + k))), (3, .int (iI (b + had))), (0, .ref (A 0)), (1, .int (iI p)), (2, .int (iI r)), (4, .int (iI (now (50 + p))))]) (1 + k) (by omega) S dX11_lack_173 5 rfl (by decide) rfl ?_
                    refine r_goto S 120 dX11_lack_176 (by decide) ?_
                    refine V.sub [2, 3, 4, 1, 5, 0] rfl ?_
                    exact ih120 (b + had) (1 + k) f172 _ hm172 (by omega) (by omega) (by unfold cntP; rw [sumI_s _ (by omega), hbb, hh]; unfold cntP; omega) (fun j => by rw [ef172, show r168 = 460 + 64 * p + now (50 + p) * r + k by omega]; by_cases e : j = 460 + 64 * p + now (50 + p) * r + k; rw [e, upI_s, if_pos (by omega)]; rw [upI_n (by omega), i1 j]; by_cases e2 : 460 + 64 * p + now (50 + p) * r ≤ j ∧ j < 460 + 64 * p + now (50 + p) * r + k; rw [if_pos e2, if_pos (by omega)]; rw [if_neg e2, if_neg (by omega)])
                  refine r_iload_n S dX11_lack_127 3 rfl ?_
                  refine r_aload_n S dX11_lack_128 0 rfl ?_
                  refine m_get_now S hm gtX11_7_X11 dX11_lack_129 ?_
                  refine r_aload_n S dX11_lack_132 0 rfl ?_
                  refine r_iload_n S dX11_lack_133 1 rfl ?_
                  refine r_iload S dX11_lack_134 4 rfl ?_
                  refine r_iload_n S dX11_lack_136 2 rfl ?_
                  refine r_imul S dX11_lack_137 ?_
                  refine r_iload S dX11_lack_138 5 rfl ?_
                  refine r_iadd_e ((now (50 + p)) * r + k) (by omega) S dX11_lack_140 ?_
                  refine (c_V_P (As := [.int (iI p), .int (iI ((now (50 + p)) * r + k))]) (st := [.ref (A 1), .int (iI had)]) S (kX11_squareAt hm ) moX11_squareAt ⟨by decide, by decide⟩ ⟨by omega, by omega⟩ rfl (Nat.le_of_ble_eq_true rfl) w811 w813 w18 hm.1 rfl rfl dX11_lack_141).goI (fun r141 hc141 => ?_)
                  refine m_ld_now S hm (by omega) (by omega) dX11_lack_144 ?_
                  have hg144 : g r141 = now (460 + 64 * p + now (50 + p) * r + k) := by rw [i1, if_neg (by omega), ef103, upI_n (by omega), hc141]; congr 1; omega
                  have hq144 : inR (g r141) := by rw [hc141]; have := hok.2.2.1 p (now (50 + p) * r + k) (by omega) (by omega) (by omega) (by omega); rw [i1, if_neg (by omega), ef103, upI_n (by omega)]; omega
                  refine r_if_le S 152 dX11_lack_145 (by decide) (by omega) (fun c145 => ?_) (fun c145 => ?_)
                  · skip
                    refine r_iconst S dX11_lack_152 ?_
                    refine V.sub [0, 1, 2, 3, 4, 5] rfl ?_
                    exact L153 0 _ hm trivial (by rw [← hg144]; first | rw [if_pos (by omega)] | rw [if_neg (by omega)])
                  · skip
                    refine r_iconst S dX11_lack_148 ?_
                    refine r_goto S 153 dX11_lack_149 (by decide) ?_
                    refine V.sub [0, 1, 2, 3, 4, 5] rfl ?_
                    exact L153 1 _ hm trivial (by rw [← hg144]; first | rw [if_pos (by omega)] | rw [if_neg (by omega)])
            refine V.sub [3, 4, 5, 2, 1, 0] rfl ?_
            exact L120 _ 0 0 f103 _ hm103 (Nat.lt_succ_self _) (by omega) rfl (fun j => by rw [if_neg (by omega)])
          · skip
            refine r_bipush S dX11_lack_81 (by decide) ?_
            exact ret.ti (-11) dX11_lack_83 (by omega) (by omega) (mEnd.m0 (by unfold sLack; rw [if_neg (by omega), if_neg (by omega), if_neg (by omega), if_neg (by omega), if_pos (by omega)]) ⟨_, _, _, _, _, hm2, hkp⟩)
        · skip
          replace hc53 := zz0 hc53 c56
          refine r_bipush S dX11_lack_59 (by decide) ?_
          exact ret.ti (-13) dX11_lack_61 (by omega) (by omega) (mEnd.m0 (by unfold sLack; rw [if_neg (by omega), if_neg (by omega), if_neg (by omega), if_pos (by omega)]) ⟨_, _, _, _, _, hm2, hkp⟩)
      · skip
        replace hc31 := zz0 hc31 c34
        refine r_bipush S dX11_lack_37 (by decide) ?_
        exact ret.ti (-12) dX11_lack_39 (by omega) (by omega) (mEnd.m0 (by unfold sLack; rw [if_neg (by omega), if_neg (by omega), if_pos (by omega)]) ⟨_, _, _, _, _, hm2, hkp⟩)
    · skip
      replace hc20 := zz0 hc20 c23
      refine r_bipush S dX11_lack_26 (by decide) ?_
      exact ret.ti (-11) dX11_lack_28 (by omega) (by omega) (mEnd.m0 (by unfold sLack; rw [if_neg (by omega), if_pos (by omega)]) ⟨_, _, _, _, _, hm2, hkp⟩)
  · skip
    replace hc9 := zz0 hc9 c12
    refine r_bipush S dX11_lack_15 (by decide) ?_
    exact ret.ti (-3) dX11_lack_17 (by omega) (by omega) (mEnd.m0 (by unfold sLack; rw [if_pos (by omega)]) ⟨_, _, _, _, _, hm2, hkp⟩)

set_option maxRecDepth 20000 in
set_option maxHeartbeats 2000000 in
theorem kX11_clear {D : va_G} {A : Nat → Nat} {km rd : Int} {now reel : Int → Int} {hist : Int → Int → Int} {G : gh} (hq : mQ D A now hist km rd reel G) (hok : mOK now) {p : Int} (hp : inR p) : CT ⟨"PostageCounterModel", "clear", "(I)I"⟩ prog_13_method_18_code 2 (some .int) 1 22 0 0 D [.ref (A 0), .int (iI p)] G (mM A) (tI (mEnd D A now hist km rd reel (sClear now p))) := by
  refine CT.enter (by decide +kernel) (Nat.le_of_ble_eq_true rfl) (fun F S ret hb hM hI => ?_)
  show V F 2 G 0 0 0 [(0, .ref (A 0)), (1, .int (iI p))] []
  obtain ⟨th, ke, kept, part, best, hm, hkp⟩ := hq
  refine r_aload_n S dX11_clear_0 0 rfl ?_
  refine r_iconst S dX11_clear_1 ?_
  refine m_put_th S hb hM hm ptX11_27_X11 dX11_clear_2 (fun G2 hm2 => ?_)
  refine r_iload_n S dX11_clear_5 1 rfl ?_
  refine r_iconst S dX11_clear_6 ?_
  refine r_bipush S dX11_clear_7 (by decide) ?_
  refine (c_S_P (As := [.int (iI p), .int (iI 0), .int (iI 9)]) (st := []) S (kX11_in (by omega) (by omega) (by omega)) moX11_in ⟨by decide, by decide⟩ ⟨by omega, by omega⟩ rfl (Nat.le_of_ble_eq_true rfl) w796 w797 rfl dX11_clear_9).goI (fun r9 hc9 => ?_)
  refine r_if_ne S 18 dX11_clear_12 (by decide) (by omega) (fun c12 => ?_) (fun c12 => ?_)
  · skip
    replace hc9 := zz1 hc9 c12
    refine r_aload_n S dX11_clear_18 0 rfl ?_
    refine r_iload_n S dX11_clear_19 1 rfl ?_
    refine (c_V_P (As := [.int (iI p)]) (st := []) S (kX11_isHeld hm2 (by omega) (by have := hok.1 p (by omega) (by omega); omega)) moX11_isHeld ⟨by decide, by decide⟩ ⟨by omega, by omega⟩ rfl (Nat.le_of_ble_eq_true rfl) w799 w801 w15 hm2.1 rfl rfl dX11_clear_20).goI (fun r20 hc20 => ?_)
    refine r_if_ne S 29 dX11_clear_23 (by decide) (by omega) (fun c23 => ?_) (fun c23 => ?_)
    · skip
      replace hc20 := zz1 hc20 c23
      refine r_aload_n S dX11_clear_29 0 rfl ?_
      refine (c_V_T (As := []) (st := []) S (kX11_keep hm2 hkp) moX11_keep ⟨by decide, by decide⟩ ⟨by omega, by omega⟩ rfl (Nat.le_of_ble_eq_true rfl) w807 w809 w17 hm2.1 rfl rfl dX11_clear_30).goV S hb hM (fun G30 hx30 hc30 => ?_)
      obtain ⟨ke30, kept30, hm30, hkp30⟩ := hc30
      refine r_aload_n S dX11_clear_33 0 rfl ?_
      refine m_get_now S hm30 gtX11_7_X11 dX11_clear_34 ?_
      refine r_iconst S dX11_clear_37 ?_
      refine r_iload_n S dX11_clear_38 1 rfl ?_
      refine r_iadd_e p (by omega) S dX11_clear_39 ?_
      refine r_iconst S dX11_clear_40 ?_
      refine m_st_now S hb hM hm30 (by omega) (by omega) dX11_clear_41 (fun G41 f41 ef41 hm41 => ?_)
      refine r_aload_n S dX11_clear_42 0 rfl ?_
      refine m_get_now S hm41 gtX11_7_X11 dX11_clear_43 ?_
      refine r_bipush S dX11_clear_46 (by decide) ?_
      refine r_iload_n S dX11_clear_48 1 rfl ?_
      refine r_iadd S dX11_clear_49 ?_
      refine r_iconst S dX11_clear_50 ?_
      refine m_st_now S hb hM hm41 (by omega) (by omega) dX11_clear_51 (fun G51 f51 ef51 hm51 => ?_)
      refine r_iconst S dX11_clear_52 ?_
      exact ret.ti 1 dX11_clear_53 (by omega) (by omega) (mEnd.m1 (by unfold sClear; rw [if_neg (by omega), if_neg (by omega)]) ⟨_, _, _, _, _, by rw [show clearF now p = f51 from funext fun j => by rw [ef51, ef41]; unfold clearF upI; (repeat' split) <;> first | rfl | omega]; exact hm51, hkp30⟩)
    · skip
      replace hc20 := zz0 hc20 c23
      refine r_bipush S dX11_clear_26 (by decide) ?_
      exact ret.ti (-11) dX11_clear_28 (by omega) (by omega) (mEnd.m0 (by unfold sClear; rw [if_neg (by omega), if_pos (by omega)]) ⟨_, _, _, _, _, hm2, hkp⟩)
  · skip
    replace hc9 := zz0 hc9 c12
    refine r_bipush S dX11_clear_15 (by decide) ?_
    exact ret.ti (-3) dX11_clear_17 (by omega) (by omega) (mEnd.m0 (by unfold sClear; rw [if_pos (by omega)]) ⟨_, _, _, _, _, hm2, hkp⟩)
