set_option maxRecDepth 20000 in
set_option maxHeartbeats 2000000 in
theorem kX11_tear {D : va_G} {A : Nat → Nat} {th ke km rd : Int} {now kept reel part best : Int → Int} {G : gh} (hm : mS D A th ke km rd now kept reel part best G) {l p s : Int} (hl : 0 ≤ l ∧ l < 60) (hp : 0 ≤ p ∧ p < 10) (hs : 0 ≤ s ∧ s < 64) : CT ⟨"PostageCounterModel", "tear", "(III)V"⟩ prog_13_method_38_code 4 none 1 22 0 0 D [.ref (A 0), .int (iI l), .int (iI p), .int (iI s)] G (mM A) (tV (fun G' => ∃ nw : Int → Int, mS D A th ke km rd nw kept reel part best G' ∧ tornOne now nw l p s)) := by
  refine CT.enter (by decide +kernel) (Nat.le_of_ble_eq_true rfl) (fun F S ret hb hM hI => ?_)
  show V F 4 G 0 0 0 [(0, .ref (A 0)), (1, .int (iI l)), (2, .int (iI p)), (3, .int (iI s))] []
  refine r_aload_n S dX11_tear_0 0 rfl ?_
  refine m_get_now S hm gtX11_7_X11 dX11_tear_1 ?_
  refine r_aload_n S dX11_tear_4 0 rfl ?_
  refine r_iload_n S dX11_tear_5 2 rfl ?_
  refine r_iload_n S dX11_tear_6 3 rfl ?_
  refine (c_V_P (As := [.int (iI p), .int (iI s)]) (st := [.ref (A 1)]) S (kX11_squareAt hm ) moX11_squareAt ⟨by decide, by decide⟩ ⟨by omega, by omega⟩ rfl (Nat.le_of_ble_eq_true rfl) w811 w813 w18 hm.1 rfl rfl dX11_tear_7).goI (fun r7 hc7 => ?_)
  refine r_iconst S dX11_tear_10 ?_
  refine m_st_now S hb hM hm (by omega) (by omega) dX11_tear_11 (fun G11 f11 ef11 hm11 => ?_)
  refine r_aload_n S dX11_tear_12 0 rfl ?_
  refine m_get_now S hm11 gtX11_7_X11 dX11_tear_13 ?_
  refine r_sipush S dX11_tear_16 (by decide) ?_
  refine r_bipush S dX11_tear_19 (by decide) ?_
  refine r_iload_n S dX11_tear_21 1 rfl ?_
  refine r_imul S dX11_tear_22 ?_
  refine r_iadd_e (2127 + 20 * l) (by omega) S dX11_tear_23 ?_
  refine r_iconst S dX11_tear_24 ?_
  refine r_iload_n S dX11_tear_25 2 rfl ?_
  refine r_imul S dX11_tear_26 ?_
  refine r_iadd_e (2127 + 20 * l + 2 * p) (by omega) S dX11_tear_27 ?_
  refine r_iload_n S dX11_tear_28 3 rfl ?_
  refine r_bipush S dX11_tear_29 (by decide) ?_
  refine r_idiv S dX11_tear_31 (by omega) (by omega) ?_
  refine r_iadd_e (2127 + 20 * l + 2 * p + s / 32) (by omega) S dX11_tear_32 ?_
  refine r_dup2 rfl rfl S dX11_tear_33 ?_
  refine m_ld_now S hm11 (by omega) (by omega) dX11_tear_34 ?_
  have e34 : f11 (2127 + 20 * l + 2 * p + (s / 32)) = now (2127 + 20 * l + 2 * p + (s / 32)) := by rw [ef11, hc7, upI_n (by omega)]
  rw [e34]
  refine r_iconst S dX11_tear_35 ?_
  refine r_iload_n S dX11_tear_36 3 rfl ?_
  refine r_bipush S dX11_tear_37 (by decide) ?_
  refine r_irem S dX11_tear_39 (by omega) (by omega) ?_
  refine r_ishl S dX11_tear_40 (fun z40 hz40 ez40 => ?_)
  refine r_ior S dX11_tear_41 (fun z41 hz41 ez41 => ?_)
  refine m_st_now S hb hM hm11 (by omega) (by omega) dX11_tear_42 (fun G42 f42 ef42 hm42 => ?_)
  exact ret.tv dX11_tear_43 (by omega) (by omega) ⟨_, hm42, by rw [ef42, ef11, hc7, upI_n (by omega), upI_s], fun k k0 k1 => tear_bits ef42 (by rw [ef11, hc7]) hp hl hs k0 k1 (by rw [ez41, ez40]), fun j j0 j1 j2 => by rw [ef42, upI_n (by omega), ef11, hc7, upI_n j0]⟩
