set_option maxRecDepth 20000 in
set_option maxHeartbeats 2000000 in
theorem lc_12 {F : fxT} {D : va_G} {A B : Nat → Nat} {G : gh} {ce sl : Nat} {b L : Nat} {xs : Nat → Int32} {i : Int} (S : FX F code 4 "PostageCounterLaw" room_1 D) (hb : fMut F) (hX : scX F b L xs) (hL : L ≤ 3072) (hwB : ∀ x, cM B x → wr F x) (hwA : ∀ x, mM A x → wr F x) (ha : apB B A) (hI : lwS D B A G) (h0 : 0 ≤ i) (hi : i + 6 ≤ L) (hce : ce + 120 ≤ 600000) (hsl : sl + 360 ≤ 7302250) (k : ∀ Gk : gh, lwS D B A Gk → V F 4 Gk (ce + 120) (sl + 360) 923 [(3, .int (iI i)), (2, .ref (A 0)), (1, .ref (B 0)), (0, .ref b)] []) : V F 4 G ce sl 594 [(3, .int (iI i)), (2, .ref (A 0)), (1, .ref (B 0)), (0, .ref b)] [] := by
  obtain ⟨now, hist, km, rd, reel, ho, hmq, hcq⟩ := hI
  have hNo := Nok_NN hcq hmq
  obtain ⟨fsx, hbx⟩ := hcq.b0
  refine r_aload_n S dL_law_594 2 rfl ?_
  refine r_aload_n S dL_law_595 3 rfl ?_
  refine r_iload_n S dL_law_596 0 rfl ?_
  refine r_iconst S dL_law_597 ?_
  refine r_iadd S dL_law_598 ?_
  refine r_sld hX hb hL S (by omega) (by omega) dL_law_599 ?_
  refine r_aload_n S dL_law_600 3 rfl ?_
  refine r_iload_n S dL_law_601 0 rfl ?_
  refine r_iconst S dL_law_602 ?_
  refine r_iadd S dL_law_603 ?_
  refine r_sld hX hb hL S (by omega) (by omega) dL_law_604 ?_
  refine r_i2f S dL_law_605 ?_
  refine r_ldcf w977 S dL_law_606 ?_
  refine r_fmul S (fm_ok _) dL_law_608 ?_
  refine r_aload_n S dL_law_609 3 rfl ?_
  refine r_iload_n S dL_law_610 0 rfl ?_
  refine r_iconst S dL_law_611 ?_
  refine r_iadd S dL_law_612 ?_
  refine r_sld hX hb hL S (by omega) (by omega) dL_law_613 ?_
  refine (c_V_P (As := [.int (iI (sx xs (i + 1))), .float (FP.fmul (fF (sx xs (i + 2))) 1040187392), .int (iI (sx xs (i + 3)))]) (st := []) S (kX10_price hcq ho.1 (sx_R _ _) (sx_R _ _)) moX10_price ⟨by decide, by decide⟩ ⟨(by show _ ≤ 600000; omega), (by show _ ≤ 7302250; omega)⟩ rfl (Nat.le_of_ble_eq_true rfl) w473 w474 w475 hbx rfl rfl dL_law_614).goI (fun zx hcx => ?_)
  refine r_aload_n S dL_law_617 1 rfl ?_
  refine r_aload_n S dL_law_618 3 rfl ?_
  refine r_iload_n S dL_law_619 0 rfl ?_
  refine r_iconst S dL_law_620 ?_
  refine r_iadd S dL_law_621 ?_
  refine r_sld hX hb hL S (by omega) (by omega) dL_law_622 ?_
  refine r_aload_n S dL_law_623 3 rfl ?_
  refine r_iload_n S dL_law_624 0 rfl ?_
  refine r_iconst S dL_law_625 ?_
  refine r_iadd S dL_law_626 ?_
  refine r_sld hX hb hL S (by omega) (by omega) dL_law_627 ?_
  refine r_i2f S dL_law_628 ?_
  refine r_ldcf w977 S dL_law_629 ?_
  refine r_fmul S (fm_ok _) dL_law_631 ?_
  refine r_aload_n S dL_law_632 3 rfl ?_
  refine r_iload_n S dL_law_633 0 rfl ?_
  refine r_iconst S dL_law_634 ?_
  refine r_iadd S dL_law_635 ?_
  refine r_sld hX hb hL S (by omega) (by omega) dL_law_636 ?_
  have hmq1 := hmq
  obtain ⟨fsm, hbm⟩ := hmq1.b0
  refine (c_V_T (As := [.int (iI (sx xs (i + 1))), .float (FP.fmul (fF (sx xs (i + 2))) 1040187392), .int (iI (sx xs (i + 3)))]) (st := [.int (iI zx)]) S (kX11_price hmq1 ho.1 (sx_R _ _) (sx_R _ _)) moX11_price ⟨by decide, by decide⟩ ⟨(by show _ ≤ 600000; omega), (by show _ ≤ 7302250; omega)⟩ rfl (Nat.le_of_ble_eq_true rfl) w899 w900 w901 hbm rfl rfl dL_law_637).goI S hb hwA (fun zm Gm hxm hcm => ?_)
  obtain ⟨ez, hs⟩ := st_price ho hcx hcq hcm hxm ha
  subst ez
  refine r_icmp_eqS S 923 dL_law_640 (by decide) ?_
  exact V.widen (by omega) (by omega) (k Gm hs)

set_option maxRecDepth 20000 in
set_option maxHeartbeats 2000000 in
theorem lc_13 {F : fxT} {D : va_G} {A B : Nat → Nat} {G : gh} {ce sl : Nat} {b L : Nat} {xs : Nat → Int32} {i : Int} (S : FX F code 4 "PostageCounterLaw" room_1 D) (hb : fMut F) (hX : scX F b L xs) (hL : L ≤ 3072) (hwB : ∀ x, cM B x → wr F x) (hwA : ∀ x, mM A x → wr F x) (ha : apB B A) (hI : lwS D B A G) (h0 : 0 ≤ i) (hi : i + 6 ≤ L) (hce : ce + 120 ≤ 600000) (hsl : sl + 360 ≤ 7302250) (k : ∀ Gk : gh, lwS D B A Gk → V F 4 Gk (ce + 120) (sl + 360) 923 [(3, .int (iI i)), (2, .ref (A 0)), (1, .ref (B 0)), (0, .ref b)] []) : V F 4 G ce sl 645 [(3, .int (iI i)), (2, .ref (A 0)), (1, .ref (B 0)), (0, .ref b)] [] := by
  obtain ⟨now, hist, km, rd, reel, ho, hmq, hcq⟩ := hI
  have hNo := Nok_NN hcq hmq
  obtain ⟨fsx, hbx⟩ := hcq.b0
  refine r_aload_n S dL_law_645 2 rfl ?_
  refine r_aload_n S dL_law_646 3 rfl ?_
  refine r_iload_n S dL_law_647 0 rfl ?_
  refine r_iconst S dL_law_648 ?_
  refine r_iadd S dL_law_649 ?_
  refine r_sld hX hb hL S (by omega) (by omega) dL_law_650 ?_
  refine r_aload_n S dL_law_651 3 rfl ?_
  refine r_iload_n S dL_law_652 0 rfl ?_
  refine r_iconst S dL_law_653 ?_
  refine r_iadd S dL_law_654 ?_
  refine r_sld hX hb hL S (by omega) (by omega) dL_law_655 ?_
  refine r_i2f S dL_law_656 ?_
  refine r_ldcf w977 S dL_law_657 ?_
  refine r_fmul S (fm_ok _) dL_law_659 ?_
  refine r_aload_n S dL_law_660 3 rfl ?_
  refine r_iload_n S dL_law_661 0 rfl ?_
  refine r_iconst S dL_law_662 ?_
  refine r_iadd S dL_law_663 ?_
  refine r_sld hX hb hL S (by omega) (by omega) dL_law_664 ?_
  refine (c_V_T (As := [.int (iI (sx xs (i + 1))), .float (FP.fmul (fF (sx xs (i + 2))) 1040187392), .int (iI (sx xs (i + 3)))]) (st := []) S (kX10_letter hcq (fun _ h => Or.inl h) hNo ho.1 ho.2.2.1 (sx_R _ _) (sx_R _ _)) moX10_letter ⟨by decide, by decide⟩ ⟨(by show _ ≤ 600000; omega), (by show _ ≤ 7302250; omega)⟩ rfl (Nat.le_of_ble_eq_true rfl) w485 w486 w487 hbx rfl rfl dL_law_665).goI S hb hwB (fun zx Gx hxx hcx => ?_)
  refine r_aload_n S dL_law_668 1 rfl ?_
  refine r_aload_n S dL_law_669 3 rfl ?_
  refine r_iload_n S dL_law_670 0 rfl ?_
  refine r_iconst S dL_law_671 ?_
  refine r_iadd S dL_law_672 ?_
  refine r_sld hX hb hL S (by omega) (by omega) dL_law_673 ?_
  refine r_aload_n S dL_law_674 3 rfl ?_
  refine r_iload_n S dL_law_675 0 rfl ?_
  refine r_iconst S dL_law_676 ?_
  refine r_iadd S dL_law_677 ?_
  refine r_sld hX hb hL S (by omega) (by omega) dL_law_678 ?_
  refine r_i2f S dL_law_679 ?_
  refine r_ldcf w977 S dL_law_680 ?_
  refine r_fmul S (fm_ok _) dL_law_682 ?_
  refine r_aload_n S dL_law_683 3 rfl ?_
  refine r_iload_n S dL_law_684 0 rfl ?_
  refine r_iconst S dL_law_685 ?_
  refine r_iadd S dL_law_686 ?_
  refine r_sld hX hb hL S (by omega) (by omega) dL_law_687 ?_
  have hmq1 := hmq.keep hxx ha.m
  obtain ⟨fsm, hbm⟩ := hmq1.b0
  refine (c_V_T (As := [.int (iI (sx xs (i + 1))), .float (FP.fmul (fF (sx xs (i + 2))) 1040187392), .int (iI (sx xs (i + 3)))]) (st := [.int (iI zx)]) S (kX11_letter hmq1 ho.1 (sx_R _ _) (sx_R _ _)) moX11_letter ⟨by decide, by decide⟩ ⟨(by show _ ≤ 600000; omega), (by show _ ≤ 7302250; omega)⟩ rfl (Nat.le_of_ble_eq_true rfl) w903 w904 w905 hbm rfl rfl dL_law_688).goI S hb hwA (fun zm Gm hxm hcm => ?_)
  obtain ⟨ez, hs⟩ := st_letter ho hcx hcm hxm ha
  subst ez
  refine r_icmp_eqS S 923 dL_law_691 (by decide) ?_
  exact V.widen (by omega) (by omega) (k Gm hs)

set_option maxRecDepth 20000 in
set_option maxHeartbeats 2000000 in
theorem lc_14 {F : fxT} {D : va_G} {A B : Nat → Nat} {G : gh} {ce sl : Nat} {b L : Nat} {xs : Nat → Int32} {i : Int} (S : FX F code 4 "PostageCounterLaw" room_1 D) (hb : fMut F) (hX : scX F b L xs) (hL : L ≤ 3072) (hwB : ∀ x, cM B x → wr F x) (hwA : ∀ x, mM A x → wr F x) (ha : apB B A) (hI : lwS D B A G) (h0 : 0 ≤ i) (hi : i + 6 ≤ L) (hce : ce + 120 ≤ 600000) (hsl : sl + 360 ≤ 7302250) (k : ∀ Gk : gh, lwS D B A Gk → V F 4 Gk (ce + 120) (sl + 360) 923 [(3, .int (iI i)), (2, .ref (A 0)), (1, .ref (B 0)), (0, .ref b)] []) : V F 4 G ce sl 696 [(3, .int (iI i)), (2, .ref (A 0)), (1, .ref (B 0)), (0, .ref b)] [] := by
  obtain ⟨now, hist, km, rd, reel, ho, hmq, hcq⟩ := hI
  have hNo := Nok_NN hcq hmq
  obtain ⟨fsx, hbx⟩ := hcq.b0
  refine r_aload_n S dL_law_696 2 rfl ?_
  refine r_aload_n S dL_law_697 3 rfl ?_
  refine r_iload_n S dL_law_698 0 rfl ?_
  refine r_iconst S dL_law_699 ?_
  refine r_iadd S dL_law_700 ?_
  refine r_sld hX hb hL S (by omega) (by omega) dL_law_701 ?_
  refine (c_V_T (As := [.int (iI (sx xs (i + 1)))]) (st := []) S (kX10_pay hcq (fun _ h => Or.inl h) hNo ho.1 ho.2.2.1 (sx_R _ _)) moX10_pay ⟨by decide, by decide⟩ ⟨(by show _ ≤ 600000; omega), (by show _ ≤ 7302250; omega)⟩ rfl (Nat.le_of_ble_eq_true rfl) w510 w511 w512 hbx rfl rfl dL_law_702).goI S hb hwB (fun zx Gx hxx hcx => ?_)
  refine r_aload_n S dL_law_705 1 rfl ?_
  refine r_aload_n S dL_law_706 3 rfl ?_
  refine r_iload_n S dL_law_707 0 rfl ?_
  refine r_iconst S dL_law_708 ?_
  refine r_iadd S dL_law_709 ?_
  refine r_sld hX hb hL S (by omega) (by omega) dL_law_710 ?_
  have hmq1 := hmq.keep hxx ha.m
  obtain ⟨fsm, hbm⟩ := hmq1.b0
  refine (c_V_T (As := [.int (iI (sx xs (i + 1)))]) (st := [.int (iI zx)]) S (kX11_pay hmq1 ho.1 (sx_R _ _)) moX11_pay ⟨by decide, by decide⟩ ⟨(by show _ ≤ 600000; omega), (by show _ ≤ 7302250; omega)⟩ rfl (Nat.le_of_ble_eq_true rfl) w908 w909 w910 hbm rfl rfl dL_law_711).goI S hb hwA (fun zm Gm hxm hcm => ?_)
  obtain ⟨ez, hs⟩ := st_pay ho hcx hcm hxm ha
  subst ez
  refine r_icmp_eqS S 923 dL_law_714 (by decide) ?_
  exact V.widen (by omega) (by omega) (k Gm hs)

set_option maxRecDepth 20000 in
set_option maxHeartbeats 2000000 in
theorem lc_15 {F : fxT} {D : va_G} {A B : Nat → Nat} {G : gh} {ce sl : Nat} {b L : Nat} {xs : Nat → Int32} {i : Int} (S : FX F code 4 "PostageCounterLaw" room_1 D) (hb : fMut F) (hX : scX F b L xs) (hL : L ≤ 3072) (hwB : ∀ x, cM B x → wr F x) (hwA : ∀ x, mM A x → wr F x) (ha : apB B A) (hI : lwS D B A G) (h0 : 0 ≤ i) (hi : i + 6 ≤ L) (hce : ce + 120 ≤ 600000) (hsl : sl + 360 ≤ 7302250) (k : ∀ Gk : gh, lwS D B A Gk → V F 4 Gk (ce + 120) (sl + 360) 923 [(3, .int (iI i)), (2, .ref (A 0)), (1, .ref (B 0)), (0, .ref b)] []) : V F 4 G ce sl 719 [(3, .int (iI i)), (2, .ref (A 0)), (1, .ref (B 0)), (0, .ref b)] [] := by
  obtain ⟨now, hist, km, rd, reel, ho, hmq, hcq⟩ := hI
  have hNo := Nok_NN hcq hmq
  obtain ⟨fsx, hbx⟩ := hcq.b0
  refine r_aload_n S dL_law_719 2 rfl ?_
  refine r_aload_n S dL_law_720 3 rfl ?_
  refine r_iload_n S dL_law_721 0 rfl ?_
  refine r_iconst S dL_law_722 ?_
  refine r_iadd S dL_law_723 ?_
  refine r_sld hX hb hL S (by omega) (by omega) dL_law_724 ?_
  refine r_aload_n S dL_law_725 3 rfl ?_
  refine r_iload_n S dL_law_726 0 rfl ?_
  refine r_iconst S dL_law_727 ?_
  refine r_iadd S dL_law_728 ?_
  refine r_sld hX hb hL S (by omega) (by omega) dL_law_729 ?_
  refine (c_V_P (As := [.int (iI (sx xs (i + 1))), .int (iI (sx xs (i + 2)))]) (st := []) S (kX10_told hcq ho.1 (sx_R _ _) (sx_R _ _)) moX10_told ⟨by decide, by decide⟩ ⟨(by show _ ≤ 600000; omega), (by show _ ≤ 7302250; omega)⟩ rfl (Nat.le_of_ble_eq_true rfl) w674 w675 w676 hbx rfl rfl dL_law_730).goI (fun zx hcx => ?_)
  refine r_aload_n S dL_law_733 1 rfl ?_
  refine r_aload_n S dL_law_734 3 rfl ?_
  refine r_iload_n S dL_law_735 0 rfl ?_
  refine r_iconst S dL_law_736 ?_
  refine r_iadd S dL_law_737 ?_
  refine r_sld hX hb hL S (by omega) (by omega) dL_law_738 ?_
  refine r_aload_n S dL_law_739 3 rfl ?_
  refine r_iload_n S dL_law_740 0 rfl ?_
  refine r_iconst S dL_law_741 ?_
  refine r_iadd S dL_law_742 ?_
  refine r_sld hX hb hL S (by omega) (by omega) dL_law_743 ?_
  have hmq1 := hmq
  obtain ⟨fsm, hbm⟩ := hmq1.b0
  refine (c_V_T (As := [.int (iI (sx xs (i + 1))), .int (iI (sx xs (i + 2)))]) (st := [.int (iI zx)]) S (kX11_told hmq1 ho.1 (sx_R _ _) (sx_R _ _)) moX11_told ⟨by decide, by decide⟩ ⟨(by show _ ≤ 600000; omega), (by show _ ≤ 7302250; omega)⟩ rfl (Nat.le_of_ble_eq_true rfl) w945 w946 w947 hbm rfl rfl dL_law_744).goI S hb hwA (fun zm Gm hxm hcm => ?_)
  obtain ⟨ez, hs⟩ := st_same ho hcx hcq hcm hxm ha
  subst ez
  refine r_icmp_eqS S 923 dL_law_747 (by decide) ?_
  exact V.widen (by omega) (by omega) (k Gm hs)

set_option maxRecDepth 20000 in
set_option maxHeartbeats 2000000 in
theorem lc_16 {F : fxT} {D : va_G} {A B : Nat → Nat} {G : gh} {ce sl : Nat} {b L : Nat} {xs : Nat → Int32} {i : Int} (S : FX F code 4 "PostageCounterLaw" room_1 D) (hb : fMut F) (hX : scX F b L xs) (hL : L ≤ 3072) (hwB : ∀ x, cM B x → wr F x) (hwA : ∀ x, mM A x → wr F x) (ha : apB B A) (hI : lwS D B A G) (h0 : 0 ≤ i) (hi : i + 6 ≤ L) (hce : ce + 120 ≤ 600000) (hsl : sl + 360 ≤ 7302250) (k : ∀ Gk : gh, lwS D B A Gk → V F 4 Gk (ce + 120) (sl + 360) 923 [(3, .int (iI i)), (2, .ref (A 0)), (1, .ref (B 0)), (0, .ref b)] []) : V F 4 G ce sl 752 [(3, .int (iI i)), (2, .ref (A 0)), (1, .ref (B 0)), (0, .ref b)] [] := by
  obtain ⟨now, hist, km, rd, reel, ho, hmq, hcq⟩ := hI
  have hNo := Nok_NN hcq hmq
  obtain ⟨fsx, hbx⟩ := hcq.b0
  refine r_aload_n S dL_law_752 2 rfl ?_
  refine r_aload_n S dL_law_753 3 rfl ?_
  refine r_iload_n S dL_law_754 0 rfl ?_
  refine r_iconst S dL_law_755 ?_
  refine r_iadd S dL_law_756 ?_
  refine r_sld hX hb hL S (by omega) (by omega) dL_law_757 ?_
  refine r_aload_n S dL_law_758 3 rfl ?_
  refine r_iload_n S dL_law_759 0 rfl ?_
  refine r_iconst S dL_law_760 ?_
  refine r_iadd S dL_law_761 ?_
  refine r_sld hX hb hL S (by omega) (by omega) dL_law_762 ?_
  refine (c_V_P (As := [.int (iI (sx xs (i + 1))), .int (iI (sx xs (i + 2)))]) (st := []) S (kX10_given hcq ho.1 (sx_R _ _) (sx_R _ _)) moX10_given ⟨by decide, by decide⟩ ⟨(by show _ ≤ 600000; omega), (by show _ ≤ 7302250; omega)⟩ rfl (Nat.le_of_ble_eq_true rfl) w683 w684 w685 hbx rfl rfl dL_law_763).goI (fun zx hcx => ?_)
  refine r_aload_n S dL_law_766 1 rfl ?_
  refine r_aload_n S dL_law_767 3 rfl ?_
  refine r_iload_n S dL_law_768 0 rfl ?_
  refine r_iconst S dL_law_769 ?_
  refine r_iadd S dL_law_770 ?_
  refine r_sld hX hb hL S (by omega) (by omega) dL_law_771 ?_
  refine r_aload_n S dL_law_772 3 rfl ?_
  refine r_iload_n S dL_law_773 0 rfl ?_
  refine r_iconst S dL_law_774 ?_
  refine r_iadd S dL_law_775 ?_
  refine r_sld hX hb hL S (by omega) (by omega) dL_law_776 ?_
  have hmq1 := hmq
  obtain ⟨fsm, hbm⟩ := hmq1.b0
  refine (c_V_T (As := [.int (iI (sx xs (i + 1))), .int (iI (sx xs (i + 2)))]) (st := [.int (iI zx)]) S (kX11_given hmq1 ho.1 (sx_R _ _) (sx_R _ _)) moX11_given ⟨by decide, by decide⟩ ⟨(by show _ ≤ 600000; omega), (by show _ ≤ 7302250; omega)⟩ rfl (Nat.le_of_ble_eq_true rfl) w953 w954 w955 hbm rfl rfl dL_law_777).goI S hb hwA (fun zm Gm hxm hcm => ?_)
  obtain ⟨ez, hs⟩ := st_same ho hcx hcq hcm hxm ha
  subst ez
  refine r_icmp_eqS S 923 dL_law_780 (by decide) ?_
  exact V.widen (by omega) (by omega) (k Gm hs)

set_option maxRecDepth 20000 in
set_option maxHeartbeats 2000000 in
theorem lc_17 {F : fxT} {D : va_G} {A B : Nat → Nat} {G : gh} {ce sl : Nat} {b L : Nat} {xs : Nat → Int32} {i : Int} (S : FX F code 4 "PostageCounterLaw" room_1 D) (hb : fMut F) (hX : scX F b L xs) (hL : L ≤ 3072) (hwB : ∀ x, cM B x → wr F x) (hwA : ∀ x, mM A x → wr F x) (ha : apB B A) (hI : lwS D B A G) (h0 : 0 ≤ i) (hi : i + 6 ≤ L) (hce : ce + 120 ≤ 600000) (hsl : sl + 360 ≤ 7302250) (k : ∀ Gk : gh, lwS D B A Gk → V F 4 Gk (ce + 120) (sl + 360) 923 [(3, .int (iI i)), (2, .ref (A 0)), (1, .ref (B 0)), (0, .ref b)] []) : V F 4 G ce sl 785 [(3, .int (iI i)), (2, .ref (A 0)), (1, .ref (B 0)), (0, .ref b)] [] := by
  obtain ⟨now, hist, km, rd, reel, ho, hmq, hcq⟩ := hI
  have hNo := Nok_NN hcq hmq
  obtain ⟨fsx, hbx⟩ := hcq.b0
  refine r_aload_n S dL_law_785 2 rfl ?_
  refine r_aload_n S dL_law_786 3 rfl ?_
  refine r_iload_n S dL_law_787 0 rfl ?_
  refine r_iconst S dL_law_788 ?_
  refine r_iadd S dL_law_789 ?_
  refine r_sld hX hb hL S (by omega) (by omega) dL_law_790 ?_
  refine r_aload_n S dL_law_791 3 rfl ?_
  refine r_iload_n S dL_law_792 0 rfl ?_
  refine r_iconst S dL_law_793 ?_
  refine r_iadd S dL_law_794 ?_
  refine r_sld hX hb hL S (by omega) (by omega) dL_law_795 ?_
  refine (c_V_P (As := [.int (iI (sx xs (i + 1))), .int (iI (sx xs (i + 2)))]) (st := []) S (kX10_torn hcq ho.1 (sx_R _ _) (sx_R _ _)) moX10_torn ⟨by decide, by decide⟩ ⟨(by show _ ≤ 600000; omega), (by show _ ≤ 7302250; omega)⟩ rfl (Nat.le_of_ble_eq_true rfl) w687 w688 w689 hbx rfl rfl dL_law_796).goI (fun zx hcx => ?_)
  refine r_aload_n S dL_law_799 1 rfl ?_
  refine r_aload_n S dL_law_800 3 rfl ?_
  refine r_iload_n S dL_law_801 0 rfl ?_
  refine r_iconst S dL_law_802 ?_
  refine r_iadd S dL_law_803 ?_
  refine r_sld hX hb hL S (by omega) (by omega) dL_law_804 ?_
  refine r_aload_n S dL_law_805 3 rfl ?_
  refine r_iload_n S dL_law_806 0 rfl ?_
  refine r_iconst S dL_law_807 ?_
  refine r_iadd S dL_law_808 ?_
  refine r_sld hX hb hL S (by omega) (by omega) dL_law_809 ?_
  have hmq1 := hmq
  obtain ⟨fsm, hbm⟩ := hmq1.b0
  refine (c_V_T (As := [.int (iI (sx xs (i + 1))), .int (iI (sx xs (i + 2)))]) (st := [.int (iI zx)]) S (kX11_torn hmq1 ho.1 (sx_R _ _) (sx_R _ _)) moX11_torn ⟨by decide, by decide⟩ ⟨(by show _ ≤ 600000; omega), (by show _ ≤ 7302250; omega)⟩ rfl (Nat.le_of_ble_eq_true rfl) w957 w958 w959 hbm rfl rfl dL_law_810).goI S hb hwA (fun zm Gm hxm hcm => ?_)
  obtain ⟨ez, hs⟩ := st_torn ho hcx hcq hcm hxm ha
  subst ez
  refine r_icmp_eqS S 923 dL_law_813 (by decide) ?_
  exact V.widen (by omega) (by omega) (k Gm hs)

set_option maxRecDepth 20000 in
set_option maxHeartbeats 2000000 in
theorem lc_18 {F : fxT} {D : va_G} {A B : Nat → Nat} {G : gh} {ce sl : Nat} {b L : Nat} {xs : Nat → Int32} {i : Int} (S : FX F code 4 "PostageCounterLaw" room_1 D) (hb : fMut F) (hX : scX F b L xs) (hL : L ≤ 3072) (hwB : ∀ x, cM B x → wr F x) (hwA : ∀ x, mM A x → wr F x) (ha : apB B A) (hI : lwS D B A G) (h0 : 0 ≤ i) (hi : i + 6 ≤ L) (hce : ce + 120 ≤ 600000) (hsl : sl + 360 ≤ 7302250) (k : ∀ Gk : gh, lwS D B A Gk → V F 4 Gk (ce + 120) (sl + 360) 923 [(3, .int (iI i)), (2, .ref (A 0)), (1, .ref (B 0)), (0, .ref b)] []) : V F 4 G ce sl 818 [(3, .int (iI i)), (2, .ref (A 0)), (1, .ref (B 0)), (0, .ref b)] [] := by
  obtain ⟨now, hist, km, rd, reel, ho, hmq, hcq⟩ := hI
  have hNo := Nok_NN hcq hmq
  obtain ⟨fsx, hbx⟩ := hcq.b0
  refine r_aload_n S dL_law_818 2 rfl ?_
  refine r_aload_n S dL_law_819 3 rfl ?_
  refine r_iload_n S dL_law_820 0 rfl ?_
  refine r_iconst S dL_law_821 ?_
  refine r_iadd S dL_law_822 ?_
  refine r_sld hX hb hL S (by omega) (by omega) dL_law_823 ?_
  refine (c_V_T (As := [.int (iI (sx xs (i + 1)))]) (st := []) S (kX10_fewest hcq (fun _ h => Or.inl h) hNo ho.1 ho.2.2.1 (sx_R _ _)) moX10_fewest ⟨by decide, by decide⟩ ⟨(by show _ ≤ 600000; omega), (by show _ ≤ 7302250; omega)⟩ rfl (Nat.le_of_ble_eq_true rfl) w699 w700 w701 hbx rfl rfl dL_law_824).goI S hb hwB (fun zx Gx hxx hcx => ?_)
  refine r_aload_n S dL_law_827 1 rfl ?_
  refine r_aload_n S dL_law_828 3 rfl ?_
  refine r_iload_n S dL_law_829 0 rfl ?_
  refine r_iconst S dL_law_830 ?_
  refine r_iadd S dL_law_831 ?_
  refine r_sld hX hb hL S (by omega) (by omega) dL_law_832 ?_
  have hmq1 := hmq.keep hxx ha.m
  obtain ⟨fsm, hbm⟩ := hmq1.b0
  refine (c_V_T (As := [.int (iI (sx xs (i + 1)))]) (st := [.int (iI zx)]) S (kX11_fewest hmq1 ho.1 (sx_R _ _)) moX11_fewest ⟨by decide, by decide⟩ ⟨(by show _ ≤ 600000; omega), (by show _ ≤ 7302250; omega)⟩ rfl (Nat.le_of_ble_eq_true rfl) w961 w962 w963 hbm rfl rfl dL_law_833).goI S hb hwA (fun zm Gm hxm hcm => ?_)
  obtain ⟨ez, hs⟩ := st_few ho hcx hcm hxm ha
  subst ez
  refine r_icmp_eqS S 923 dL_law_836 (by decide) ?_
  exact V.widen (by omega) (by omega) (k Gm hs)

set_option maxRecDepth 20000 in
set_option maxHeartbeats 2000000 in
theorem lc_19 {F : fxT} {D : va_G} {A B : Nat → Nat} {G : gh} {ce sl : Nat} {b L : Nat} {xs : Nat → Int32} {i : Int} (S : FX F code 4 "PostageCounterLaw" room_1 D) (hb : fMut F) (hX : scX F b L xs) (hL : L ≤ 3072) (hwB : ∀ x, cM B x → wr F x) (hwA : ∀ x, mM A x → wr F x) (ha : apB B A) (hI : lwS D B A G) (h0 : 0 ≤ i) (hi : i + 6 ≤ L) (hce : ce + 120 ≤ 600000) (hsl : sl + 360 ≤ 7302250) (k : ∀ Gk : gh, lwS D B A Gk → V F 4 Gk (ce + 120) (sl + 360) 923 [(3, .int (iI i)), (2, .ref (A 0)), (1, .ref (B 0)), (0, .ref b)] []) : V F 4 G ce sl 841 [(3, .int (iI i)), (2, .ref (A 0)), (1, .ref (B 0)), (0, .ref b)] [] := by
  obtain ⟨now, hist, km, rd, reel, ho, hmq, hcq⟩ := hI
  have hNo := Nok_NN hcq hmq
  obtain ⟨fsx, hbx⟩ := hcq.b0
  refine r_aload_n S dL_law_841 2 rfl ?_
  refine r_aload_n S dL_law_842 3 rfl ?_
  refine r_iload_n S dL_law_843 0 rfl ?_
  refine r_iconst S dL_law_844 ?_
  refine r_iadd S dL_law_845 ?_
  refine r_sld hX hb hL S (by omega) (by omega) dL_law_846 ?_
  refine (c_V_T (As := [.int (iI (sx xs (i + 1)))]) (st := []) S (kX10_least hcq (fun _ h => Or.inl h) hNo ho.1 ho.2.2.1 (sx_R _ _)) moX10_least ⟨by decide, by decide⟩ ⟨(by show _ ≤ 600000; omega), (by show _ ≤ 7302250; omega)⟩ rfl (Nat.le_of_ble_eq_true rfl) w707 w708 w709 hbx rfl rfl dL_law_847).goI S hb hwB (fun zx Gx hxx hcx => ?_)
  refine r_aload_n S dL_law_850 1 rfl ?_
  refine r_aload_n S dL_law_851 3 rfl ?_
  refine r_iload_n S dL_law_852 0 rfl ?_
  refine r_iconst S dL_law_853 ?_
  refine r_iadd S dL_law_854 ?_
  refine r_sld hX hb hL S (by omega) (by omega) dL_law_855 ?_
  have hmq1 := hmq.keep hxx ha.m
  obtain ⟨fsm, hbm⟩ := hmq1.b0
  refine (c_V_T (As := [.int (iI (sx xs (i + 1)))]) (st := [.int (iI zx)]) S (kX11_least hmq1 ho.1 (sx_R _ _)) moX11_least ⟨by decide, by decide⟩ ⟨(by show _ ≤ 600000; omega), (by show _ ≤ 7302250; omega)⟩ rfl (Nat.le_of_ble_eq_true rfl) w965 w966 w967 hbm rfl rfl dL_law_856).goI S hb hwA (fun zm Gm hxm hcm => ?_)
  obtain ⟨ez, hs⟩ := st_least ho hcx hcm hxm ha
  subst ez
  refine r_icmp_eqS S 923 dL_law_859 (by decide) ?_
  exact V.widen (by omega) (by omega) (k Gm hs)

set_option maxRecDepth 20000 in
set_option maxHeartbeats 2000000 in
theorem lc_20 {F : fxT} {D : va_G} {A B : Nat → Nat} {G : gh} {ce sl : Nat} {b L : Nat} {xs : Nat → Int32} {i : Int} (S : FX F code 4 "PostageCounterLaw" room_1 D) (hb : fMut F) (hX : scX F b L xs) (hL : L ≤ 3072) (hwB : ∀ x, cM B x → wr F x) (hwA : ∀ x, mM A x → wr F x) (ha : apB B A) (hI : lwS D B A G) (h0 : 0 ≤ i) (hi : i + 6 ≤ L) (hce : ce + 120 ≤ 600000) (hsl : sl + 360 ≤ 7302250) (k : ∀ Gk : gh, lwS D B A Gk → V F 4 Gk (ce + 120) (sl + 360) 923 [(3, .int (iI i)), (2, .ref (A 0)), (1, .ref (B 0)), (0, .ref b)] []) : V F 4 G ce sl 864 [(3, .int (iI i)), (2, .ref (A 0)), (1, .ref (B 0)), (0, .ref b)] [] := by
  obtain ⟨now, hist, km, rd, reel, ho, hmq, hcq⟩ := hI
  have hNo := Nok_NN hcq hmq
  obtain ⟨fsx, hbx⟩ := hcq.b0
  refine r_aload_n S dL_law_864 2 rfl ?_
  refine r_aload_n S dL_law_865 3 rfl ?_
  refine r_iload_n S dL_law_866 0 rfl ?_
  refine r_iconst S dL_law_867 ?_
  refine r_iadd S dL_law_868 ?_
  refine r_sld hX hb hL S (by omega) (by omega) dL_law_869 ?_
  refine (c_V_P (As := [.int (iI (sx xs (i + 1)))]) (st := []) S (kX10_day hcq ho.1 (sx_R _ _)) moX10_day ⟨by decide, by decide⟩ ⟨(by show _ ≤ 600000; omega), (by show _ ≤ 7302250; omega)⟩ rfl (Nat.le_of_ble_eq_true rfl) w711 w712 w713 hbx rfl rfl dL_law_870).goI (fun zx hcx => ?_)
  refine r_aload_n S dL_law_873 1 rfl ?_
  refine r_aload_n S dL_law_874 3 rfl ?_
  refine r_iload_n S dL_law_875 0 rfl ?_
  refine r_iconst S dL_law_876 ?_
  refine r_iadd S dL_law_877 ?_
  refine r_sld hX hb hL S (by omega) (by omega) dL_law_878 ?_
  have hmq1 := hmq
  obtain ⟨fsm, hbm⟩ := hmq1.b0
  refine (c_V_T (As := [.int (iI (sx xs (i + 1)))]) (st := [.int (iI zx)]) S (kX11_day hmq1 ho.1 ho.2.2.2.1 (sx_R _ _)) moX11_day ⟨by decide, by decide⟩ ⟨(by show _ ≤ 600000; omega), (by show _ ≤ 7302250; omega)⟩ rfl (Nat.le_of_ble_eq_true rfl) w969 w970 w971 hbm rfl rfl dL_law_879).goI S hb hwA (fun zm Gm hxm hcm => ?_)
  obtain ⟨ez, hs⟩ := st_same ho hcx hcq hcm hxm ha
  subst ez
  refine r_icmp_eqS S 923 dL_law_882 (by decide) ?_
  exact V.widen (by omega) (by omega) (k Gm hs)

set_option maxRecDepth 20000 in
set_option maxHeartbeats 2000000 in
theorem lc_21 {F : fxT} {D : va_G} {A B : Nat → Nat} {G : gh} {ce sl : Nat} {b L : Nat} {xs : Nat → Int32} {i : Int} (S : FX F code 4 "PostageCounterLaw" room_1 D) (hb : fMut F) (hX : scX F b L xs) (hL : L ≤ 3072) (hwB : ∀ x, cM B x → wr F x) (hwA : ∀ x, mM A x → wr F x) (ha : apB B A) (hI : lwS D B A G) (h0 : 0 ≤ i) (hi : i + 6 ≤ L) (hce : ce + 120 ≤ 600000) (hsl : sl + 360 ≤ 7302250) (k : ∀ Gk : gh, lwS D B A Gk → V F 4 Gk (ce + 120) (sl + 360) 923 [(3, .int (iI i)), (2, .ref (A 0)), (1, .ref (B 0)), (0, .ref b)] []) : V F 4 G ce sl 887 [(3, .int (iI i)), (2, .ref (A 0)), (1, .ref (B 0)), (0, .ref b)] [] := by
  obtain ⟨now, hist, km, rd, reel, ho, hmq, hcq⟩ := hI
  have hNo := Nok_NN hcq hmq
  obtain ⟨fsx, hbx⟩ := hcq.b0
  refine r_aload_n S dL_law_887 2 rfl ?_
  refine r_aload_n S dL_law_888 3 rfl ?_
  refine r_iload_n S dL_law_889 0 rfl ?_
  refine r_iconst S dL_law_890 ?_
  refine r_iadd S dL_law_891 ?_
  refine r_sld hX hb hL S (by omega) (by omega) dL_law_892 ?_
  refine (c_V_P (As := [.int (iI (sx xs (i + 1)))]) (st := []) S (kX10_gone hcq ho.1 (sx_R _ _)) moX10_gone ⟨by decide, by decide⟩ ⟨(by show _ ≤ 600000; omega), (by show _ ≤ 7302250; omega)⟩ rfl (Nat.le_of_ble_eq_true rfl) w729 w730 w731 hbx rfl rfl dL_law_893).goI (fun zx hcx => ?_)
  refine r_aload_n S dL_law_896 1 rfl ?_
  refine r_aload_n S dL_law_897 3 rfl ?_
  refine r_iload_n S dL_law_898 0 rfl ?_
  refine r_iconst S dL_law_899 ?_
  refine r_iadd S dL_law_900 ?_
  refine r_sld hX hb hL S (by omega) (by omega) dL_law_901 ?_
  have hmq1 := hmq
  obtain ⟨fsm, hbm⟩ := hmq1.b0
  refine (c_V_T (As := [.int (iI (sx xs (i + 1)))]) (st := [.int (iI zx)]) S (kX11_gone hmq1 ho.1 (sx_R _ _)) moX11_gone ⟨by decide, by decide⟩ ⟨(by show _ ≤ 600000; omega), (by show _ ≤ 7302250; omega)⟩ rfl (Nat.le_of_ble_eq_true rfl) w973 w974 w975 hbm rfl rfl dL_law_902).goI S hb hwA (fun zm Gm hxm hcm => ?_)
  obtain ⟨ez, hs⟩ := st_same ho hcx hcq hcm hxm ha
  subst ez
  refine r_icmp_eqS S 923 dL_law_905 (by decide) ?_
  exact V.widen (by omega) (by omega) (k Gm hs)

set_option maxRecDepth 20000 in
set_option maxHeartbeats 2000000 in
theorem lc_22 {F : fxT} {D : va_G} {A B : Nat → Nat} {G : gh} {ce sl : Nat} {b L : Nat} {xs : Nat → Int32} {i : Int} (S : FX F code 4 "PostageCounterLaw" room_1 D) (hb : fMut F) (hX : scX F b L xs) (hL : L ≤ 3072) (hwB : ∀ x, cM B x → wr F x) (hwA : ∀ x, mM A x → wr F x) (ha : apB B A) (hI : lwS D B A G) (h0 : 0 ≤ i) (hi : i + 6 ≤ L) (hce : ce + 120 ≤ 600000) (hsl : sl + 360 ≤ 7302250) (k : ∀ Gk : gh, lwS D B A Gk → V F 4 Gk (ce + 120) (sl + 360) 923 [(3, .int (iI i)), (2, .ref (A 0)), (1, .ref (B 0)), (0, .ref b)] []) : V F 4 G ce sl 910 [(3, .int (iI i)), (2, .ref (A 0)), (1, .ref (B 0)), (0, .ref b)] [] := by
  obtain ⟨now, hist, km, rd, reel, ho, hmq, hcq⟩ := hI
  have hNo := Nok_NN hcq hmq
  obtain ⟨fsx, hbx⟩ := hcq.b0
  refine r_aload_n S dL_law_910 2 rfl ?_
  refine (c_V_T (As := []) (st := []) S (kX10_undo hcq (fun _ h => Or.inl h) ho.2.2.1) moX10_undo ⟨by decide, by decide⟩ ⟨(by show _ ≤ 600000; omega), (by show _ ≤ 7302250; omega)⟩ rfl (Nat.le_of_ble_eq_true rfl) w748 w749 w750 hbx rfl rfl dL_law_911).goI S hb hwB (fun zx Gx hxx hcx => ?_)
  refine r_aload_n S dL_law_914 1 rfl ?_
  have hmq1 := hmq.keep hxx ha.m
  obtain ⟨fsm, hbm⟩ := hmq1.b0
  refine (c_V_T (As := []) (st := [.int (iI zx)]) S (kX11_undo hmq1 (undo_out ho)) moX11_undo ⟨by decide, by decide⟩ ⟨(by show _ ≤ 600000; omega), (by show _ ≤ 7302250; omega)⟩ rfl (Nat.le_of_ble_eq_true rfl) w788 w789 w790 hbm rfl rfl dL_law_915).goI S hb hwA (fun zm Gm hxm hcm => ?_)
  obtain ⟨ez, hs⟩ := st_undo ho hcx hcm hxm ha
  subst ez
  refine r_icmp_eqS S 923 dL_law_918 (by decide) ?_
  exact V.widen (by omega) (by omega) (k Gm hs)
