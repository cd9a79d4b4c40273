set_option maxRecDepth 20000 in
set_option maxHeartbeats 2000000 in
theorem kX11_keep {D : va_G} {A : Nat → Nat} {th ke km rd : Int} {now kept reel part best : Int → Int} {G : gh} (hm : mS D A th ke km rd now kept reel part best G) {hist : Int → Int → Int} (hkp : keptOK ke km kept hist) : CT ⟨"PostageCounterModel", "keep", "()V"⟩ prog_13_method_4_code 2 none 0 0 0 0 D [.ref (A 0)] G (mM A) (tV (fun G' => ∃ (ke' : Int) (kept' : Int → Int), mS D A th ke' (kmF km) rd now kept' reel part best G' ∧ keptOK ke' (kmF km) kept' (pushH now hist))) := by
  refine CT.enter (by decide +kernel) (Nat.le_of_ble_eq_true rfl) (fun F S ret hb hM hI => ?_)
  show V F 2 G 0 0 0 [(0, .ref (A 0))] []
  have hke := hkp.1
  have hke2 := hkp.2.1
  have hkm := hkp.2.2.1
  have hkm2 := hkp.2.2.2.1
  refine r_iconst S dX11_keep_0 ?_
  refine r_istore_n (L' := [(1, .int (iI 0)), (0, .ref (A 0))]) S dX11_keep_1 (by decide) rfl ?_
  have L2 : ∀ (N : Nat) (k : Int) (kq : Int → Int), ∀ (G : gh), mS D A th ke km rd now kq reel part best G →  (3828 - k).toNat < N → (0 ≤ k ∧ k ≤ 3828) → (∀ x, 0 ≤ x → x < k → kq (3828 * ke + x) = now x) → (∀ j, j < 3828 * ke ∨ 3828 * ke + k ≤ j → kq j = kept j) → V F 2 G 0 0 2 [(0, .ref (A 0)), (1, .int (iI k))] [] := by
    intro N
    induction N with
    | zero => intro k kq G hm hN; exact absurd hN (Nat.not_lt_zero _)
    | succ N ih2 =>
      intro k kq G hm hN2 hk i1 i2
      refine r_iload_n S dX11_keep_2 1 rfl ?_
      refine r_sipush S dX11_keep_3 (by decide) ?_
      refine r_icmp_ge S 36 dX11_keep_6 (by decide) (by omega) (by omega) (fun c6 => ?_) (fun c6 => ?_)
      · skip
        refine r_aload_n S dX11_keep_36 0 rfl ?_
        refine r_aload_n S dX11_keep_37 0 rfl ?_
        refine m_get_ke S hm gtX11_31_X11 dX11_keep_38 ?_
        refine r_iconst S dX11_keep_41 ?_
        refine r_iadd_e (1 + ke) (by omega) S dX11_keep_42 ?_
        refine r_bipush S dX11_keep_43 (by decide) ?_
        refine r_irem S dX11_keep_45 (by omega) (by omega) ?_
        refine m_put_ke S hb hM hm ptX11_31_X11 dX11_keep_46 (fun G46 hm46 => ?_)
        refine r_aload_n S dX11_keep_49 0 rfl ?_
        refine r_aload_n S dX11_keep_50 0 rfl ?_
        refine m_get_km S hm46 gtX11_34_X11 dX11_keep_51 ?_
        refine r_bipush S dX11_keep_54 (by decide) ?_
        refine r_icmp_ge S 68 dX11_keep_56 (by decide) (by omega) (by omega) (fun c56 => ?_) (fun c56 => ?_)
        · skip
          refine r_bipush S dX11_keep_68 (by decide) ?_
          refine m_put_km S hb hM hm46 ptX11_34_X11 dX11_keep_70 (fun G70 hm70 => ?_)
          exact ret.tv dX11_keep_73 (by omega) (by omega) ⟨_, _, by have e : kmF km = 32 := (by unfold kmF; split <;> omega); rw [e]; exact hm70, keptOK_push hkp (fun x h0 h1 => i1 x h0 (by omega)) (fun j hj => i2 j (by omega))⟩
        · skip
          refine r_aload_n S dX11_keep_59 0 rfl ?_
          refine m_get_km S hm46 gtX11_34_X11 dX11_keep_60 ?_
          refine r_iconst S dX11_keep_63 ?_
          refine r_iadd_e (1 + km) (by omega) S dX11_keep_64 ?_
          refine r_goto S 70 dX11_keep_65 (by decide) ?_
          refine m_put_km S hb hM hm46 ptX11_34_X11 dX11_keep_70 (fun G70 hm70 => ?_)
          exact ret.tv dX11_keep_73 (by omega) (by omega) ⟨_, _, by have e : kmF km = 1 + km := (by unfold kmF; split <;> omega); rw [e]; exact hm70, keptOK_push hkp (fun x h0 h1 => i1 x h0 (by omega)) (fun j hj => i2 j (by omega))⟩
      · skip
        refine r_aload_n S dX11_keep_9 0 rfl ?_
        refine m_get_kept S hm gtX11_14_X11 dX11_keep_10 ?_
        refine r_sipush S dX11_keep_13 (by decide) ?_
        refine r_aload_n S dX11_keep_16 0 rfl ?_
        refine m_get_ke S hm gtX11_31_X11 dX11_keep_17 ?_
        refine r_imul S dX11_keep_20 ?_
        refine r_iload_n S dX11_keep_21 1 rfl ?_
        refine r_iadd_e (3828 * ke + k) (by omega) S dX11_keep_22 ?_
        refine r_aload_n S dX11_keep_23 0 rfl ?_
        refine m_get_now S hm gtX11_7_X11 dX11_keep_24 ?_
        refine r_iload_n S dX11_keep_27 1 rfl ?_
        refine m_ld_now S hm (by omega) (by omega) dX11_keep_28 ?_
        refine m_st_kept S hb hM hm (by omega) (by omega) dX11_keep_29 (fun G29 f29 ef29 hm29 => ?_)
        refine r_iinc_e (L' := [(1, .int (iI (1 + k))), (0, .ref (A 0))]) (1 + k) (by omega) S dX11_keep_30 1 rfl (by decide) rfl ?_
        refine r_goto S 2 dX11_keep_33 (by decide) ?_
        refine V.sub [1, 0] rfl ?_
        exact ih2 (1 + k) f29 _ hm29 (by omega) (by omega) (fun x h0 h1 => by rw [ef29]; by_cases e : x = k; subst e; exact upI_s _ _ _; rw [upI_n (by omega)]; exact i1 x h0 (by omega)) (fun j hj => by rw [ef29, upI_n (by omega)]; exact i2 j (by omega))
  refine V.sub [1, 0] rfl ?_
  exact L2 _ 0 kept _ hm (Nat.lt_succ_self _) (by omega) (fun x h0 h1 => absurd h1 (by omega)) (fun j _ => rfl)

set_option maxRecDepth 20000 in
set_option maxHeartbeats 2000000 in
theorem kX11_hold {D : va_G} {A : Nat → Nat} {th ke km rd : Int} {now kept reel part best : Int → Int} {G : gh} (hm : mS D A th ke km rd now kept reel part best G) {hist : Int → Int → Int} (hkp : keptOK ke km kept hist) {p kind face old n : Int} (hp : 0 ≤ p ∧ p < 10) : CT ⟨"PostageCounterModel", "hold", "(IIIII)V"⟩ prog_13_method_11_code 7 none 1 22 0 0 D [.ref (A 0), .int (iI p), .int (iI kind), .int (iI face), .int (iI old), .int (iI n)] G (mM A) (tV (fun G' => ∃ (ke' : Int) (kept' nw : Int → Int), mS D A th ke' (kmF km) rd nw kept' reel part best G' ∧ keptOK ke' (kmF km) kept' (pushH now hist) ∧ nw = holdF now p kind face old n)) := by
  refine CT.enter (by decide +kernel) (Nat.le_of_ble_eq_true rfl) (fun F S ret hb hM hI => ?_)
  show V F 7 G 0 0 0 [(0, .ref (A 0)), (1, .int (iI p)), (2, .int (iI kind)), (3, .int (iI face)), (4, .int (iI old)), (5, .int (iI n))] []
  refine r_aload_n S dX11_hold_0 0 rfl ?_
  refine (c_V_T (As := []) (st := []) S (kX11_keep hm hkp) moX11_keep ⟨by decide, by decide⟩ ⟨by omega, by omega⟩ rfl (Nat.le_of_ble_eq_true rfl) w807 w809 w17 hm.1 rfl rfl dX11_hold_1).goV S hb hM (fun G1 hx1 hc1 => ?_)
  obtain ⟨ke1, kept1, hm1, hkp1⟩ := hc1
  refine r_aload_n S dX11_hold_4 0 rfl ?_
  refine m_get_now S hm1 gtX11_7_X11 dX11_hold_5 ?_
  refine r_iconst S dX11_hold_8 ?_
  refine r_iload_n S dX11_hold_9 1 rfl ?_
  refine r_iadd_e p (by omega) S dX11_hold_10 ?_
  refine r_iload_n S dX11_hold_11 2 rfl ?_
  refine m_st_now S hb hM hm1 (by omega) (by omega) dX11_hold_12 (fun G12 f12 ef12 hm12 => ?_)
  refine r_aload_n S dX11_hold_13 0 rfl ?_
  refine m_get_now S hm12 gtX11_7_X11 dX11_hold_14 ?_
  refine r_bipush S dX11_hold_17 (by decide) ?_
  refine r_iload_n S dX11_hold_19 1 rfl ?_
  refine r_iadd S dX11_hold_20 ?_
  refine r_iload_n S dX11_hold_21 3 rfl ?_
  refine m_st_now S hb hM hm12 (by omega) (by omega) dX11_hold_22 (fun G22 f22 ef22 hm22 => ?_)
  refine r_aload_n S dX11_hold_23 0 rfl ?_
  refine m_get_now S hm22 gtX11_7_X11 dX11_hold_24 ?_
  refine r_bipush S dX11_hold_27 (by decide) ?_
  refine r_iload_n S dX11_hold_29 1 rfl ?_
  refine r_iadd S dX11_hold_30 ?_
  refine r_iload S dX11_hold_31 4 rfl ?_
  refine m_st_now S hb hM hm22 (by omega) (by omega) dX11_hold_33 (fun G33 f33 ef33 hm33 => ?_)
  refine r_aload_n S dX11_hold_34 0 rfl ?_
  refine m_get_now S hm33 gtX11_7_X11 dX11_hold_35 ?_
  refine r_bipush S dX11_hold_38 (by decide) ?_
  refine r_iload_n S dX11_hold_40 1 rfl ?_
  refine r_iadd S dX11_hold_41 ?_
  refine r_iload S dX11_hold_42 5 rfl ?_
  refine m_st_now S hb hM hm33 (by omega) (by omega) dX11_hold_44 (fun G44 f44 ef44 hm44 => ?_)
  refine r_aload_n S dX11_hold_45 0 rfl ?_
  refine m_get_now S hm44 gtX11_7_X11 dX11_hold_46 ?_
  refine r_bipush S dX11_hold_49 (by decide) ?_
  refine r_iload_n S dX11_hold_51 1 rfl ?_
  refine r_iadd S dX11_hold_52 ?_
  refine r_iconst S dX11_hold_53 ?_
  refine m_st_now S hb hM hm44 (by omega) (by omega) dX11_hold_54 (fun G54 f54 ef54 hm54 => ?_)
  refine r_aload_n S dX11_hold_55 0 rfl ?_
  refine m_get_now S hm54 gtX11_7_X11 dX11_hold_56 ?_
  refine r_bipush S dX11_hold_59 (by decide) ?_
  refine r_iload_n S dX11_hold_61 1 rfl ?_
  refine r_iadd S dX11_hold_62 ?_
  refine r_iconst S dX11_hold_63 ?_
  refine m_st_now S hb hM hm54 (by omega) (by omega) dX11_hold_64 (fun G64 f64 ef64 hm64 => ?_)
  refine r_iconst S dX11_hold_65 ?_
  refine r_istore (L' := [(6, .int (iI 0)), (0, .ref (A 0)), (1, .int (iI p)), (2, .int (iI kind)), (3, .int (iI face)), (4, .int (iI old)), (5, .int (iI n))]) S dX11_hold_66 (by decide) rfl ?_
  have L68 : ∀ (N : Nat) (r : Int) (g : Int → Int), ∀ (G : gh), mS D A th ke1 (kmF km) rd g kept1 reel part best G →  (8 - r).toNat < N → (0 ≤ r ∧ r ≤ 8) → (∀ j, g j = if 1100 + 8 * p ≤ j ∧ j < 1100 + 8 * p + r then 0 else f64 j) → V F 7 G 0 0 68 [(0, .ref (A 0)), (1, .int (iI p)), (6, .int (iI r))] [] := by
    intro N
    induction N with
    | zero => intro r g G hm hN; exact absurd hN (Nat.not_lt_zero _)
    | succ N ih68 =>
      intro r g G hm hN68 hr i1
      refine r_iload S dX11_hold_68 2 rfl ?_
      refine r_bipush S dX11_hold_70 (by decide) ?_
      refine r_icmp_ge S 98 dX11_hold_72 (by decide) (by omega) (by omega) (fun c72 => ?_) (fun c72 => ?_)
      · skip
        refine r_iconst S dX11_hold_98 ?_
        refine r_istore (L' := [(6, .int (iI 0)), (0, .ref (A 0)), (1, .int (iI p))]) S dX11_hold_99 (by decide) rfl ?_
        have L101 : ∀ (N : Nat) (k : Int) (g2 : Int → Int), ∀ (G : gh), mS D A th ke1 (kmF km) rd g2 kept1 reel part best G →  (64 - k).toNat < N → (0 ≤ k ∧ k ≤ 64) → (∀ j, g2 j = if 460 + 64 * p ≤ j ∧ j < 460 + 64 * p + k then 0 else g j) → V F 7 G 0 0 101 [(0, .ref (A 0)), (1, .int (iI p)), (6, .int (iI k))] [] := by
          intro N
          induction N with
          | zero => intro k g2 G hm hN; exact absurd hN (Nat.not_lt_zero _)
          | succ N ih101 =>
            intro k g2 G hm hN101 hk i2
            refine r_iload S dX11_hold_101 2 rfl ?_
            refine r_bipush S dX11_hold_103 (by decide) ?_
            refine r_icmp_ge S 127 dX11_hold_105 (by decide) (by omega) (by omega) (fun c105 => ?_) (fun c105 => ?_)
            · skip
              exact ret.tv dX11_hold_127 (by omega) (by omega) ⟨_, _, _, hm, hkp1, funext fun j => by rw [i2 j, i1 j, ef64, ef54, ef44, ef33, ef22, ef12, show k = 64 by omega, show r = 8 by omega]; unfold upI holdF; (repeat' split) <;> first | rfl | omega⟩
            · skip
              refine r_aload_n S dX11_hold_108 0 rfl ?_
              refine m_get_now S hm gtX11_7_X11 dX11_hold_109 ?_
              refine r_aload_n S dX11_hold_112 0 rfl ?_
              refine r_iload_n S dX11_hold_113 1 rfl ?_
              refine r_iload S dX11_hold_114 2 rfl ?_
              refine (c_V_P (As := [.int (iI p), .int (iI k)]) (st := [.ref (A 1)]) S (kX11_squareAt hm ) moX11_squareAt ⟨by decide, by decide⟩ ⟨by omega, by omega⟩ rfl (Nat.le_of_ble_eq_true rfl) w811 w813 w18 hm.1 rfl rfl dX11_hold_116).goI (fun r116 hc116 => ?_)
              refine r_iconst S dX11_hold_119 ?_
              refine m_st_now S hb hM hm (by omega) (by omega) dX11_hold_120 (fun G120 f120 ef120 hm120 => ?_)
              refine r_iinc_e (L' := [(6, .int (iI (1 + k))), (0, .ref (A 0)), (1, .int (iI p))]) (1 + k) (by omega) S dX11_hold_121 2 rfl (by decide) rfl ?_
              refine r_goto S 101 dX11_hold_124 (by decide) ?_
              refine V.sub [1, 2, 0] rfl ?_
              exact ih101 (1 + k) f120 _ hm120 (by omega) (by omega) (fun j => by rw [ef120, hc116]; by_cases e : j = 460 + 64 * p + k; rw [e, upI_s, if_pos (by omega)]; rw [upI_n (by omega), i2 j]; by_cases e2 : 460 + 64 * p ≤ j ∧ j < 460 + 64 * p + k; rw [if_pos e2, if_pos (by omega)]; rw [if_neg e2, if_neg (by omega)])
        refine V.sub [1, 2, 0] rfl ?_
        exact L101 _ 0 g _ hm (Nat.lt_succ_self _) (by omega) (fun j => by rw [if_neg (by omega)])
      · skip
        refine r_aload_n S dX11_hold_75 0 rfl ?_
        refine m_get_now S hm gtX11_7_X11 dX11_hold_76 ?_
        refine r_sipush S dX11_hold_79 (by decide) ?_
        refine r_bipush S dX11_hold_82 (by decide) ?_
        refine r_iload_n S dX11_hold_84 1 rfl ?_
        refine r_imul S dX11_hold_85 ?_
        refine r_iadd_e (1100 + 8 * p) (by omega) S dX11_hold_86 ?_
        refine r_iload S dX11_hold_87 2 rfl ?_
        refine r_iadd_e (1100 + 8 * p + r) (by omega) S dX11_hold_89 ?_
        refine r_iconst S dX11_hold_90 ?_
        refine m_st_now S hb hM hm (by omega) (by omega) dX11_hold_91 (fun G91 f91 ef91 hm91 => ?_)
        refine r_iinc_e (L' := [(6, .int (iI (1 + r))), (0, .ref (A 0)), (1, .int (iI p))]) (1 + r) (by omega) S dX11_hold_92 2 rfl (by decide) rfl ?_
        refine r_goto S 68 dX11_hold_95 (by decide) ?_
        refine V.sub [1, 2, 0] rfl ?_
        exact ih68 (1 + r) f91 _ hm91 (by omega) (by omega) (fun j => by rw [ef91]; by_cases e : j = 1100 + 8 * p + r; rw [e, upI_s, if_pos (by omega)]; rw [upI_n (by omega), i1 j]; by_cases e2 : 1100 + 8 * p ≤ j ∧ j < 1100 + 8 * p + r; rw [if_pos e2, if_pos (by omega)]; rw [if_neg e2, if_neg (by omega)])
  refine V.sub [1, 2, 0] rfl ?_
  exact L68 _ 0 f64 _ hm64 (Nat.lt_succ_self _) (by omega) (fun j => by rw [if_neg (by omega)])

set_option maxRecDepth 20000 in
set_option maxHeartbeats 2000000 in
theorem kX11_pile {D : va_G} {A : Nat → Nat} {km rd : Int} {now reel : Int → Int} {hist : Int → Int → Int} {G : gh} (hq : mQ D A now hist km rd reel G) (hok : mOK now) {p f n : Int} (hp : inR p) (hf : inR f) (hn : inR n) : CT ⟨"PostageCounterModel", "pile", "(III)I"⟩ prog_13_method_12_code 4 (some .int) 2 48 0 0 D [.ref (A 0), .int (iI p), .int (iI f), .int (iI n)] G (mM A) (tI (mEnd D A now hist km rd reel (sPile now p f n))) := by
  refine CT.enter (by decide +kernel) (Nat.le_of_ble_eq_true rfl) (fun F S ret hb hM hI => ?_)
  show V F 4 G 0 0 0 [(0, .ref (A 0)), (1, .int (iI p)), (2, .int (iI f)), (3, .int (iI n))] []
  obtain ⟨th, ke, kept, part, best, hm, hkp⟩ := hq
  refine r_aload_n S dX11_pile_0 0 rfl ?_
  refine r_iconst S dX11_pile_1 ?_
  refine m_put_th S hb hM hm ptX11_27_X11 dX11_pile_2 (fun G2 hm2 => ?_)
  refine r_iload_n S dX11_pile_5 1 rfl ?_
  refine r_iconst S dX11_pile_6 ?_
  refine r_bipush S dX11_pile_7 (by decide) ?_
  refine (c_S_P (As := [.int (iI p), .int (iI 0), .int (iI 9)]) (st := []) S (kX11_in (by omega) (by omega) (by omega)) moX11_in ⟨by decide, by decide⟩ ⟨by omega, by omega⟩ rfl (Nat.le_of_ble_eq_true rfl) w796 w797 rfl dX11_pile_9).goI (fun r9 hc9 => ?_)
  refine r_if_eq S 36 dX11_pile_12 (by decide) (by omega) (fun c12 => ?_) (fun c12 => ?_)
  · skip
    replace hc9 := zz0 hc9 c12
    refine r_bipush S dX11_pile_36 (by decide) ?_
    exact ret.ti (-3) dX11_pile_38 (by omega) (by omega) (mEnd.m0 (by unfold sPile; rw [if_pos (by omega)]) ⟨_, _, _, _, _, hm2, hkp⟩)
  · skip
    replace hc9 := zz1 hc9 c12
    refine r_iload_n S dX11_pile_15 2 rfl ?_
    refine r_iconst S dX11_pile_16 ?_
    refine r_sipush S dX11_pile_17 (by decide) ?_
    refine (c_S_P (As := [.int (iI f), .int (iI 1), .int (iI 500)]) (st := []) S (kX11_in (by omega) (by omega) (by omega)) moX11_in ⟨by decide, by decide⟩ ⟨by omega, by omega⟩ rfl (Nat.le_of_ble_eq_true rfl) w796 w797 rfl dX11_pile_20).goI (fun r20 hc20 => ?_)
    refine r_if_eq S 36 dX11_pile_23 (by decide) (by omega) (fun c23 => ?_) (fun c23 => ?_)
    · skip
      replace hc20 := zz0 hc20 c23
      refine r_bipush S dX11_pile_36 (by decide) ?_
      exact ret.ti (-3) dX11_pile_38 (by omega) (by omega) (mEnd.m0 (by unfold sPile; rw [if_pos (by omega)]) ⟨_, _, _, _, _, hm2, hkp⟩)
    · skip
      replace hc20 := zz1 hc20 c23
      refine r_iload_n S dX11_pile_26 3 rfl ?_
      refine r_iconst S dX11_pile_27 ?_
      refine r_bipush S dX11_pile_28 (by decide) ?_
      refine (c_S_P (As := [.int (iI n), .int (iI 0), .int (iI 60)]) (st := []) S (kX11_in (by omega) (by omega) (by omega)) moX11_in ⟨by decide, by decide⟩ ⟨by omega, by omega⟩ rfl (Nat.le_of_ble_eq_true rfl) w796 w797 rfl dX11_pile_30).goI (fun r30 hc30 => ?_)
      refine r_if_ne S 39 dX11_pile_33 (by decide) (by omega) (fun c33 => ?_) (fun c33 => ?_)
      · skip
        replace hc30 := zz1 hc30 c33
        refine r_aload_n S dX11_pile_39 0 rfl ?_
        refine r_iload_n S dX11_pile_40 1 rfl ?_
        refine (c_V_P (As := [.int (iI p)]) (st := []) S (kX11_isHeld hm2 (by omega) (by have := hok.1 p (by omega) (by omega); omega)) moX11_isHeld ⟨by decide, by decide⟩ ⟨by omega, by omega⟩ rfl (Nat.le_of_ble_eq_true rfl) w799 w801 w15 hm2.1 rfl rfl dX11_pile_41).goI (fun r41 hc41 => ?_)
        refine r_if_eq S 50 dX11_pile_44 (by decide) (by omega) (fun c44 => ?_) (fun c44 => ?_)
        · skip
          replace hc41 := zz0 hc41 c44
          refine r_aload_n S dX11_pile_50 0 rfl ?_
          refine r_iload_n S dX11_pile_51 1 rfl ?_
          refine r_iconst S dX11_pile_52 ?_
          refine r_iload_n S dX11_pile_53 2 rfl ?_
          refine r_iconst S dX11_pile_54 ?_
          refine r_iload_n S dX11_pile_55 3 rfl ?_
          refine (c_V_T (As := [.int (iI p), .int (iI 0), .int (iI f), .int (iI 0), .int (iI n)]) (st := []) S (kX11_hold hm2 hkp (by omega)) moX11_hold ⟨by decide, by decide⟩ ⟨by omega, by omega⟩ rfl (Nat.le_of_ble_eq_true rfl) w803 w805 w16 hm2.1 rfl rfl dX11_pile_56).goV S hb hM (fun G56 hx56 hc56 => ?_)
          obtain ⟨ke56, kept56, now56, hm56, hkp56, hnw56⟩ := hc56
          refine r_iload_n S dX11_pile_59 3 rfl ?_
          exact ret.ti n dX11_pile_60 (by omega) (by omega) (mEnd.m1 (by unfold sPile; rw [if_neg (by omega), if_neg (by omega)]) ⟨_, _, _, _, _, by rw [← hnw56]; exact hm56, hkp56⟩)
        · skip
          replace hc41 := zz1 hc41 c44
          refine r_bipush S dX11_pile_47 (by decide) ?_
          exact ret.ti (-4) dX11_pile_49 (by omega) (by omega) (mEnd.m0 (by unfold sPile; rw [if_neg (by omega), if_pos (by omega)]) ⟨_, _, _, _, _, hm2, hkp⟩)
      · skip
        replace hc30 := zz0 hc30 c33
        refine r_bipush S dX11_pile_36 (by decide) ?_
        exact ret.ti (-3) dX11_pile_38 (by omega) (by omega) (mEnd.m0 (by unfold sPile; rw [if_pos (by omega)]) ⟨_, _, _, _, _, hm2, hkp⟩)

set_option maxRecDepth 20000 in
set_option maxHeartbeats 2000000 in
theorem kX11_over {D : va_G} {A : Nat → Nat} {km rd : Int} {now reel : Int → Int} {hist : Int → Int → Int} {G : gh} (hq : mQ D A now hist km rd reel G) (hok : mOK now) {p o_ f n : Int} (hp : inR p) (ho_ : inR o_) (hf : inR f) (hn : inR n) : CT ⟨"PostageCounterModel", "over", "(IIII)I"⟩ prog_13_method_13_code 5 (some .int) 2 48 0 0 D [.ref (A 0), .int (iI p), .int (iI o_), .int (iI f), .int (iI n)] G (mM A) (tI (mEnd D A now hist km rd reel (sOver now p o_ f n))) := by
  refine CT.enter (by decide +kernel) (Nat.le_of_ble_eq_true rfl) (fun F S ret hb hM hI => ?_)
  show V F 5 G 0 0 0 [(0, .ref (A 0)), (1, .int (iI p)), (2, .int (iI o_)), (3, .int (iI f)), (4, .int (iI n))] []
  obtain ⟨th, ke, kept, part, best, hm, hkp⟩ := hq
  refine r_aload_n S dX11_over_0 0 rfl ?_
  refine r_iconst S dX11_over_1 ?_
  refine m_put_th S hb hM hm ptX11_27_X11 dX11_over_2 (fun G2 hm2 => ?_)
  refine r_iload_n S dX11_over_5 1 rfl ?_
  refine r_iconst S dX11_over_6 ?_
  refine r_bipush S dX11_over_7 (by decide) ?_
  refine (c_S_P (As := [.int (iI p), .int (iI 0), .int (iI 9)]) (st := []) S (kX11_in (by omega) (by omega) (by omega)) moX11_in ⟨by decide, by decide⟩ ⟨by omega, by omega⟩ rfl (Nat.le_of_ble_eq_true rfl) w796 w797 rfl dX11_over_9).goI (fun r9 hc9 => ?_)
  refine r_if_eq S 48 dX11_over_12 (by decide) (by omega) (fun c12 => ?_) (fun c12 => ?_)
  · skip
    replace hc9 := zz0 hc9 c12
    refine r_bipush S dX11_over_48 (by decide) ?_
    exact ret.ti (-3) dX11_over_50 (by omega) (by omega) (mEnd.m0 (by unfold sOver; rw [if_pos (by omega)]) ⟨_, _, _, _, _, hm2, hkp⟩)
  · skip
    replace hc9 := zz1 hc9 c12
    refine r_iload_n S dX11_over_15 2 rfl ?_
    refine r_iconst S dX11_over_16 ?_
    refine r_sipush S dX11_over_17 (by decide) ?_
    refine (c_S_P (As := [.int (iI o_), .int (iI 1), .int (iI 500)]) (st := []) S (kX11_in (by omega) (by omega) (by omega)) moX11_in ⟨by decide, by decide⟩ ⟨by omega, by omega⟩ rfl (Nat.le_of_ble_eq_true rfl) w796 w797 rfl dX11_over_20).goI (fun r20 hc20 => ?_)
    refine r_if_eq S 48 dX11_over_23 (by decide) (by omega) (fun c23 => ?_) (fun c23 => ?_)
    · skip
      replace hc20 := zz0 hc20 c23
      refine r_bipush S dX11_over_48 (by decide) ?_
      exact ret.ti (-3) dX11_over_50 (by omega) (by omega) (mEnd.m0 (by unfold sOver; rw [if_pos (by omega)]) ⟨_, _, _, _, _, hm2, hkp⟩)
    · skip
      replace hc20 := zz1 hc20 c23
      refine r_iload_n S dX11_over_26 3 rfl ?_
      refine r_iconst S dX11_over_27 ?_
      refine r_sipush S dX11_over_28 (by decide) ?_
      refine (c_S_P (As := [.int (iI f), .int (iI 1), .int (iI 500)]) (st := []) S (kX11_in (by omega) (by omega) (by omega)) moX11_in ⟨by decide, by decide⟩ ⟨by omega, by omega⟩ rfl (Nat.le_of_ble_eq_true rfl) w796 w797 rfl dX11_over_31).goI (fun r31 hc31 => ?_)
      refine r_if_eq S 48 dX11_over_34 (by decide) (by omega) (fun c34 => ?_) (fun c34 => ?_)
      · skip
        replace hc31 := zz0 hc31 c34
        refine r_bipush S dX11_over_48 (by decide) ?_
        exact ret.ti (-3) dX11_over_50 (by omega) (by omega) (mEnd.m0 (by unfold sOver; rw [if_pos (by omega)]) ⟨_, _, _, _, _, hm2, hkp⟩)
      · skip
        replace hc31 := zz1 hc31 c34
        refine r_iload S dX11_over_37 4 rfl ?_
        refine r_iconst S dX11_over_39 ?_
        refine r_bipush S dX11_over_40 (by decide) ?_
        refine (c_S_P (As := [.int (iI n), .int (iI 0), .int (iI 60)]) (st := []) S (kX11_in (by omega) (by omega) (by omega)) moX11_in ⟨by decide, by decide⟩ ⟨by omega, by omega⟩ rfl (Nat.le_of_ble_eq_true rfl) w796 w797 rfl dX11_over_42).goI (fun r42 hc42 => ?_)
        refine r_if_ne S 51 dX11_over_45 (by decide) (by omega) (fun c45 => ?_) (fun c45 => ?_)
        · skip
          replace hc42 := zz1 hc42 c45
          refine r_aload_n S dX11_over_51 0 rfl ?_
          refine r_iload_n S dX11_over_52 1 rfl ?_
          refine (c_V_P (As := [.int (iI p)]) (st := []) S (kX11_isHeld hm2 (by omega) (by have := hok.1 p (by omega) (by omega); omega)) moX11_isHeld ⟨by decide, by decide⟩ ⟨by omega, by omega⟩ rfl (Nat.le_of_ble_eq_true rfl) w799 w801 w15 hm2.1 rfl rfl dX11_over_53).goI (fun r53 hc53 => ?_)
          refine r_if_eq S 62 dX11_over_56 (by decide) (by omega) (fun c56 => ?_) (fun c56 => ?_)
          · skip
            replace hc53 := zz0 hc53 c56
            refine r_aload_n S dX11_over_62 0 rfl ?_
            refine r_iload_n S dX11_over_63 1 rfl ?_
            refine r_iconst S dX11_over_64 ?_
            refine r_iload_n S dX11_over_65 3 rfl ?_
            refine r_iload_n S dX11_over_66 2 rfl ?_
            refine r_iload S dX11_over_67 4 rfl ?_
            refine (c_V_T (As := [.int (iI p), .int (iI 4), .int (iI f), .int (iI o_), .int (iI n)]) (st := []) S (kX11_hold hm2 hkp (by omega)) moX11_hold ⟨by decide, by decide⟩ ⟨by omega, by omega⟩ rfl (Nat.le_of_ble_eq_true rfl) w803 w805 w16 hm2.1 rfl rfl dX11_over_69).goV S hb hM (fun G69 hx69 hc69 => ?_)
            obtain ⟨ke69, kept69, now69, hm69, hkp69, hnw69⟩ := hc69
            refine r_iload S dX11_over_72 4 rfl ?_
            exact ret.ti n dX11_over_74 (by omega) (by omega) (mEnd.m1 (by unfold sOver; rw [if_neg (by omega), if_neg (by omega)]) ⟨_, _, _, _, _, by rw [← hnw69]; exact hm69, hkp69⟩)
          · skip
            replace hc53 := zz1 hc53 c56
            refine r_bipush S dX11_over_59 (by decide) ?_
            exact ret.ti (-4) dX11_over_61 (by omega) (by omega) (mEnd.m0 (by unfold sOver; rw [if_neg (by omega), if_pos (by omega)]) ⟨_, _, _, _, _, hm2, hkp⟩)
        · skip
          replace hc42 := zz0 hc42 c45
          refine r_bipush S dX11_over_48 (by decide) ?_
          exact ret.ti (-3) dX11_over_50 (by omega) (by omega) (mEnd.m0 (by unfold sOver; rw [if_pos (by omega)]) ⟨_, _, _, _, _, hm2, hkp⟩)
