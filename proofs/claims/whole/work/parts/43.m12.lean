set_option maxRecDepth 20000 in
set_option maxHeartbeats 2000000 in
theorem kX11_give {D : va_G} {A : Nat → Nat} {th ke km rd : Int} {now kept reel part best : Int → Int} {G : gh} (hm : mS D A th ke km rd now kept reel part best G) {l p n : Int} (hKK : okK now) (hSS : okS now) (hQQ : okQ now) (hp : 0 ≤ p ∧ p < 10) (hl : 0 ≤ l ∧ l < 60) (hn : 0 ≤ n ∧ n ≤ now (10 + p)) (hN64 : now (40 + p) * now (50 + p) ≤ 64) (hpr : ∀ w, wOf now p w → pairU now p w) (hex : ∀ w mn, wOf now p w → w * mn = n → 1 ≤ mn → mn < 3 → ∃ x y : Int, valU now p (now (40 + p) * now (50 + p)) w mn x y) (hev : now p = 3 → n % 2 = 0) : CT ⟨"PostageCounterModel", "give", "(III)V"⟩ prog_13_method_40_code 6 none 4 108 0 0 D [.ref (A 0), .int (iI l), .int (iI p), .int (iI n)] G (mM A) (tV (fun G' => ∃ (nw part' : Int → Int) (T : Int → Prop), mS D A th ke km rd nw kept reel part' best G' ∧ giveOK now nw l p n T ∧ giveT now p n T)) := by
  refine CT.enter (by decide +kernel) (Nat.le_of_ble_eq_true rfl) (fun F S ret hb hM hI => ?_)
  show V F 6 G 0 0 0 [(0, .ref (A 0)), (1, .int (iI l)), (2, .int (iI p)), (3, .int (iI n))] []
  have hk1 := (hKK p hp.1 hp.2).1
  have hk2 := (hKK p hp.1 hp.2).2.1
  have hk3 := (hKK p hp.1 hp.2).2.2.2.1
  have hk4 : now p = 1 → now (10 + p) ≤ 40 := (hKK p hp.1 hp.2).2.2.2.2.2.2.2.2.2.2.2.2.1
  refine r_aload_n S dX11_give_0 0 rfl ?_
  refine m_get_now S hm gtX11_7_X11 dX11_give_1 ?_
  refine r_sipush S dX11_give_4 (by decide) ?_
  refine r_bipush S dX11_give_7 (by decide) ?_
  refine r_iload_n S dX11_give_9 1 rfl ?_
  refine r_imul S dX11_give_10 ?_
  refine r_iadd_e (1527 + 10 * l) (by omega) S dX11_give_11 ?_
  refine r_iload_n S dX11_give_12 2 rfl ?_
  refine r_iadd_e (1527 + 10 * l + p) (by omega) S dX11_give_13 ?_
  refine r_iload_n S dX11_give_14 3 rfl ?_
  refine m_st_now S hb hM hm (by omega) (by omega) dX11_give_15 (fun G15 f15 ef15 hm15 => ?_)
  refine r_aload_n S dX11_give_16 0 rfl ?_
  refine m_get_now S hm15 gtX11_7_X11 dX11_give_17 ?_
  refine r_sipush S dX11_give_20 (by decide) ?_
  refine r_iload_n S dX11_give_23 1 rfl ?_
  refine r_iadd S dX11_give_24 ?_
  refine r_dup2 rfl rfl S dX11_give_25 ?_
  refine m_ld_now S hm15 (by omega) (by omega) dX11_give_26 ?_
  have e26 : f15 (1407 + l) = now (1407 + l) := by rw [ef15, upI_n (by omega)]
  rw [e26]
  refine r_iload_n S dX11_give_27 3 rfl ?_
  refine r_iadd_e (n + now (1407 + l)) (by omega) S dX11_give_28 ?_
  refine m_st_now S hb hM hm15 (by omega) (by omega) dX11_give_29 (fun G29 f29 ef29 hm29 => ?_)
  have ef29b : f29 = upI (upI now (1527 + 10 * l + p) n) (1407 + l) (now (1407 + l) + n) := by rw [ef29, ef15]; congr 1 <;> omega
  refine r_iconst S dX11_give_30 ?_
  refine r_istore (L' := [(4, .int (iI 1)), (0, .ref (A 0)), (1, .int (iI l)), (2, .int (iI p)), (3, .int (iI n))]) S dX11_give_31 (by decide) rfl ?_
  have L33 : ∀ (N : Nat) (k : Int) (g : Int → Int), ∀ (G : gh), mS D A th ke km rd g kept reel part best G →  (1 + n - k).toNat < N → (1 ≤ k ∧ k ≤ 1 + n) → (∀ j, (j < 3327 ∨ 3827 < j) → g j = f29 j) → (∀ x, 0 ≤ x → x ≤ 500 → g (3327 + x) = now (3327 + x) + goneF now p (k - 1) x) → V F 6 G 0 0 33 [(0, .ref (A 0)), (1, .int (iI l)), (2, .int (iI p)), (3, .int (iI n)), (4, .int (iI k))] [] := by
    intro N
    induction N with
    | zero => intro k g G hm hN; exact absurd hN (Nat.not_lt_zero _)
    | succ N ih33 =>
      intro k g G hm hN33 hk i1 i2
      have hlo : ∀ j, j < 1100 → g j = now j := fun j hj => by rw [i1 j (by omega), ef29b, upI_n (by omega), upI_n (by omega)]
      refine r_iload S dX11_give_33 4 rfl ?_
      refine r_iload_n S dX11_give_35 3 rfl ?_
      refine r_icmp_gt S 108 dX11_give_36 (by decide) (by omega) (by omega) (fun c36 => ?_) (fun c36 => ?_)
      · skip
        refine r_iload_n S dX11_give_108 3 rfl ?_
        refine r_if_le S 132 dX11_give_109 (by decide) (by omega) (fun c109 => ?_) (fun c109 => ?_)
        · skip
          refine r_iload_n S dX11_give_132 3 rfl ?_
          refine r_if_le S 158 dX11_give_133 (by decide) (by omega) (fun c133 => ?_) (fun c133 => absurd c133 (by omega))
          refine r_aload_n S dX11_give_158 0 rfl ?_
          refine m_get_now S hm gtX11_7_X11 dX11_give_159 ?_
          refine r_bipush S dX11_give_162 (by decide) ?_
          refine r_iload_n S dX11_give_164 2 rfl ?_
          refine r_iadd S dX11_give_165 ?_
          refine r_dup2 rfl rfl S dX11_give_166 ?_
          refine m_ld_now S hm (by omega) (by omega) dX11_give_167 ?_
          rw [show g (10 + p) = now (10 + p) from hlo (10 + p) (by omega)]
          refine r_iload_n S dX11_give_168 3 rfl ?_
          refine r_isub_e (now (10 + p) - n) (by omega) S dX11_give_169 ?_
          refine m_st_now S hb hM hm (by omega) (by omega) dX11_give_170 (fun G170 f170 ef170 hm170 => ?_)
          exact ret.tv dX11_give_171 (by omega) (by omega) ⟨_, _, fun _ => False, hm170, giveOK_mk hl hp ef29b i1 (fun x x0 x1 => by rw [i2 x x0 x1, show k - 1 = n by omega]) tornAll_0 ef170, Or.inr (Or.inr ⟨by omega, fun _ _ _ q => q⟩)⟩
        · skip
          refine r_aload_n S dX11_give_112 0 rfl ?_
          refine m_get_now S hm gtX11_7_X11 dX11_give_113 ?_
          refine r_iconst S dX11_give_116 ?_
          refine r_iload_n S dX11_give_117 2 rfl ?_
          refine r_iadd_e p (by omega) S dX11_give_118 ?_
          refine m_ld_now S hm (by omega) (by omega) dX11_give_119 ?_
          rw [show g p = now p from hlo (p) (by omega)]
          refine r_iconst S dX11_give_120 ?_
          refine r_icmp_ne S 132 dX11_give_121 (by decide) (by omega) (by omega) (fun c121 => ?_) (fun c121 => ?_)
          · skip
            refine r_iload_n S dX11_give_132 3 rfl ?_
            refine r_if_le S 158 dX11_give_133 (by decide) (by omega) (fun c133 => absurd c133 (by omega)) (fun c133 => ?_)
            refine r_aload_n S dX11_give_136 0 rfl ?_
            refine m_get_now S hm gtX11_7_X11 dX11_give_137 ?_
            refine r_iconst S dX11_give_140 ?_
            refine r_iload_n S dX11_give_141 2 rfl ?_
            refine r_iadd_e p (by omega) S dX11_give_142 ?_
            refine m_ld_now S hm (by omega) (by omega) dX11_give_143 ?_
            rw [show g p = now p from hlo (p) (by omega)]
            refine r_iconst S dX11_give_144 ?_
            refine r_icmp_ne S 158 dX11_give_145 (by decide) (by omega) (by omega) (fun c145 => ?_) (fun c145 => ?_)
            · skip
              refine r_aload_n S dX11_give_158 0 rfl ?_
              refine m_get_now S hm gtX11_7_X11 dX11_give_159 ?_
              refine r_bipush S dX11_give_162 (by decide) ?_
              refine r_iload_n S dX11_give_164 2 rfl ?_
              refine r_iadd S dX11_give_165 ?_
              refine r_dup2 rfl rfl S dX11_give_166 ?_
              refine m_ld_now S hm (by omega) (by omega) dX11_give_167 ?_
              rw [show g (10 + p) = now (10 + p) from hlo (10 + p) (by omega)]
              refine r_iload_n S dX11_give_168 3 rfl ?_
              refine r_isub_e (now (10 + p) - n) (by omega) S dX11_give_169 ?_
              refine m_st_now S hb hM hm (by omega) (by omega) dX11_give_170 (fun G170 f170 ef170 hm170 => ?_)
              exact ret.tv dX11_give_171 (by omega) (by omega) ⟨_, _, fun _ => False, hm170, giveOK_mk hl hp ef29b i1 (fun x x0 x1 => by rw [i2 x x0 x1, show k - 1 = n by omega]) tornAll_0 ef170, Or.inr (Or.inr ⟨by omega, fun _ _ _ q => q⟩)⟩
            · skip
              refine r_aload_n S dX11_give_148 0 rfl ?_
              refine r_iload_n S dX11_give_149 1 rfl ?_
              refine r_iload_n S dX11_give_150 2 rfl ?_
              refine r_iload_n S dX11_give_151 3 rfl ?_
              refine r_iconst S dX11_give_152 ?_
              refine r_idiv S dX11_give_153 (by omega) (by omega) ?_
              refine r_iconst S dX11_give_154 ?_
              refine (c_V_T (As := [.int (iI l), .int (iI p), .int (iI (n / 2)), .int (iI 2)]) (st := []) S (kX11_tearOff hm (okK_cong hlo hKK) (okQ_cong hlo hQQ) hp (show isShP _ p from by unfold isShP; rw [hlo p (by omega)]; omega) hl (by omega) (show wOf _ p 2 from by unfold wOf; rw [hlo p (by omega)]; omega) (pairU_cong (fun k _ _ => hlo _ (by omega)) (Or.inr rfl) (hpr _ (by unfold wOf; omega))) (fun q => by rw [hlo (40 + p) (by omega), hlo (50 + p) (by omega), valU_cong (fun k _ _ => hlo _ (by omega)) hN64]; exact hex _ _ (by unfold wOf; omega) (by omega) (by omega) q)) moX11_tearOff ⟨by decide, by decide⟩ ⟨by omega, by omega⟩ rfl (Nat.le_of_ble_eq_true rfl) w937 w939 w34 hm.1 rfl rfl dX11_give_155).goV S hb hM (fun G155 hx155 hc155 => ?_)
              obtain ⟨nw155, pt155, T155, hm155, hta155, htt155⟩ := hc155
              have hnp : nw155 p = now p := by rw [hta155.2 p (by omega) (by omega) (by omega)]; exact hlo p (by omega)
              have hnm : nw155 (10 + p) = now (10 + p) := by rw [hta155.2 (10 + p) (by omega) (by omega) (by omega)]; exact hlo (10 + p) (by omega)
              refine r_aload_n S dX11_give_158 0 rfl ?_
              refine m_get_now S hm155 gtX11_7_X11 dX11_give_159 ?_
              refine r_bipush S dX11_give_162 (by decide) ?_
              refine r_iload_n S dX11_give_164 2 rfl ?_
              refine r_iadd S dX11_give_165 ?_
              refine r_dup2 rfl rfl S dX11_give_166 ?_
              refine m_ld_now S hm155 (by omega) (by omega) dX11_give_167 ?_
              rw [show nw155 (10 + p) = now (10 + p) from hnm]
              refine r_iload_n S dX11_give_168 3 rfl ?_
              refine r_isub_e (now (10 + p) - n) (by omega) S dX11_give_169 ?_
              refine m_st_now S hb hM hm155 (by omega) (by omega) dX11_give_170 (fun G170 f170 ef170 hm170 => ?_)
              exact ret.tv dX11_give_171 (by omega) (by omega) ⟨_, _, T155, hm170, giveOK_mk hl hp ef29b i1 (fun x x0 x1 => by rw [i2 x x0 x1, show k - 1 = n by omega]) hta155 ef170, Or.inr (Or.inl ⟨by omega, by omega, tornT_cong (hlo _ (by omega)) (hlo _ (by omega)) (fun k _ _ => hlo _ (by omega)) (Or.inr rfl) hN64 htt155⟩)⟩
          · skip
            refine r_aload_n S dX11_give_124 0 rfl ?_
            refine r_iload_n S dX11_give_125 1 rfl ?_
            refine r_iload_n S dX11_give_126 2 rfl ?_
            refine r_iload_n S dX11_give_127 3 rfl ?_
            refine r_iconst S dX11_give_128 ?_
            refine (c_V_T (As := [.int (iI l), .int (iI p), .int (iI n), .int (iI 1)]) (st := []) S (kX11_tearOff hm (okK_cong hlo hKK) (okQ_cong hlo hQQ) hp (show isShP _ p from by unfold isShP; rw [hlo p (by omega)]; omega) hl (by omega) (show wOf _ p 1 from by unfold wOf; rw [hlo p (by omega)]; omega) (pairU_cong (fun k _ _ => hlo _ (by omega)) (Or.inl rfl) (hpr _ (by unfold wOf; omega))) (fun q => by rw [hlo (40 + p) (by omega), hlo (50 + p) (by omega), valU_cong (fun k _ _ => hlo _ (by omega)) hN64]; exact hex _ _ (by unfold wOf; omega) (by omega) (by omega) q)) moX11_tearOff ⟨by decide, by decide⟩ ⟨by omega, by omega⟩ rfl (Nat.le_of_ble_eq_true rfl) w937 w939 w34 hm.1 rfl rfl dX11_give_129).goV S hb hM (fun G129 hx129 hc129 => ?_)
            obtain ⟨nw129, pt129, T129, hm129, hta129, htt129⟩ := hc129
            have hnp : nw129 p = now p := by rw [hta129.2 p (by omega) (by omega) (by omega)]; exact hlo p (by omega)
            have hnm : nw129 (10 + p) = now (10 + p) := by rw [hta129.2 (10 + p) (by omega) (by omega) (by omega)]; exact hlo (10 + p) (by omega)
            refine r_iload_n S dX11_give_132 3 rfl ?_
            refine r_if_le S 158 dX11_give_133 (by decide) (by omega) (fun c133 => absurd c133 (by omega)) (fun c133 => ?_)
            refine r_aload_n S dX11_give_136 0 rfl ?_
            refine m_get_now S hm129 gtX11_7_X11 dX11_give_137 ?_
            refine r_iconst S dX11_give_140 ?_
            refine r_iload_n S dX11_give_141 2 rfl ?_
            refine r_iadd_e p (by omega) S dX11_give_142 ?_
            refine m_ld_now S hm129 (by omega) (by omega) dX11_give_143 ?_
            rw [show nw129 p = now p from hnp]
            refine r_iconst S dX11_give_144 ?_
            refine r_icmp_ne S 158 dX11_give_145 (by decide) (by omega) (by omega) (fun c145 => ?_) (fun c145 => absurd c145 (by omega))
            refine r_aload_n S dX11_give_158 0 rfl ?_
            refine m_get_now S hm129 gtX11_7_X11 dX11_give_159 ?_
            refine r_bipush S dX11_give_162 (by decide) ?_
            refine r_iload_n S dX11_give_164 2 rfl ?_
            refine r_iadd S dX11_give_165 ?_
            refine r_dup2 rfl rfl S dX11_give_166 ?_
            refine m_ld_now S hm129 (by omega) (by omega) dX11_give_167 ?_
            rw [show nw129 (10 + p) = now (10 + p) from hnm]
            refine r_iload_n S dX11_give_168 3 rfl ?_
            refine r_isub_e (now (10 + p) - n) (by omega) S dX11_give_169 ?_
            refine m_st_now S hb hM hm129 (by omega) (by omega) dX11_give_170 (fun G170 f170 ef170 hm170 => ?_)
            exact ret.tv dX11_give_171 (by omega) (by omega) ⟨_, _, T129, hm170, giveOK_mk hl hp ef29b i1 (fun x x0 x1 => by rw [i2 x x0 x1, show k - 1 = n by omega]) hta129 ef170, Or.inl ⟨by omega, by omega, tornT_cong (hlo _ (by omega)) (hlo _ (by omega)) (fun k _ _ => hlo _ (by omega)) (Or.inl rfl) hN64 htt129⟩⟩
      · skip
        have hfb := faceK_bd hKK hSS hp.1 hp.2 (k := k - 1) (by omega) (by omega)
        have L85 : ∀ (fc : Int), ∀ (G : gh), mS D A th ke km rd g kept reel part best G →  True → (fc = faceK now p (k - 1)) → V F 6 G 0 0 85 [(0, .ref (A 0)), (1, .int (iI l)), (2, .int (iI p)), (3, .int (iI n)), (4, .int (iI k))] [.int (iI fc)] := by
          intro fc G hm _ hfc
          refine r_istore (L' := [(5, .int (iI fc)), (0, .ref (A 0)), (1, .int (iI l)), (2, .int (iI p)), (3, .int (iI n)), (4, .int (iI k))]) S dX11_give_85 (by decide) rfl ?_
          refine r_aload_n S dX11_give_87 1 rfl ?_
          refine m_get_now S hm gtX11_7_X11 dX11_give_88 ?_
          refine r_sipush S dX11_give_91 (by decide) ?_
          refine r_iload S dX11_give_94 0 rfl ?_
          refine r_iadd S dX11_give_96 ?_
          refine r_dup2 rfl rfl S dX11_give_97 ?_
          refine m_ld_now S hm (by omega) (by omega) dX11_give_98 ?_
          refine r_iconst S dX11_give_99 ?_
          refine r_iadd_e (1 + g (3327 + fc)) (by omega) S dX11_give_100 ?_
          refine m_st_now S hb hM hm (by omega) (by omega) dX11_give_101 (fun G101 f101 ef101 hm101 => ?_)
          refine r_iinc_e (L' := [(4, .int (iI (1 + k))), (5, .int (iI fc)), (0, .ref (A 0)), (1, .int (iI l)), (2, .int (iI p)), (3, .int (iI n))]) (1 + k) (by omega) S dX11_give_102 5 rfl (by decide) rfl ?_
          refine r_goto S 33 dX11_give_105 (by decide) ?_
          refine V.sub [2, 3, 4, 5, 0] rfl ?_
          exact ih33 (1 + k) f101 _ hm101 (by omega) (by omega) (fun j hj => by rw [ef101, hfc, upI_n (by omega)]; exact i1 j hj) (fun x x0 x1 => by rw [ef101, hfc]; unfold goneF; rw [show (1 + k - 1).toNat = (1 + (k - 1)).toNat by omega, sumI_s _ (by omega)]; by_cases e : x = faceK now p (k - 1); rw [e, upI_s, i2 _ (by omega) (by omega)]; unfold goneF; rw [if_pos rfl]; omega; rw [upI_n (by omega), i2 x x0 x1]; unfold goneF; rw [if_neg (fun q => e q.symm)]; omega)
        refine r_aload_n S dX11_give_39 0 rfl ?_
        refine m_get_now S hm gtX11_7_X11 dX11_give_40 ?_
        refine r_iconst S dX11_give_43 ?_
        refine r_iload_n S dX11_give_44 2 rfl ?_
        refine r_iadd_e p (by omega) S dX11_give_45 ?_
        refine m_ld_now S hm (by omega) (by omega) dX11_give_46 ?_
        rw [show g p = now p from hlo (p) (by omega)]
        refine r_iconst S dX11_give_47 ?_
        refine r_icmp_ne S 76 dX11_give_48 (by decide) (by omega) (by omega) (fun c48 => ?_) (fun c48 => ?_)
        · skip
          refine r_aload_n S dX11_give_76 0 rfl ?_
          refine m_get_now S hm gtX11_7_X11 dX11_give_77 ?_
          refine r_bipush S dX11_give_80 (by decide) ?_
          refine r_iload_n S dX11_give_82 2 rfl ?_
          refine r_iadd S dX11_give_83 ?_
          refine m_ld_now S hm (by omega) (by omega) dX11_give_84 ?_
          rw [show g (20 + p) = now (20 + p) from hlo (20 + p) (by omega)]
          refine V.sub [0, 1, 2, 3, 4] rfl ?_
          exact L85 (now (20 + p)) _ hm trivial (by unfold faceK; rw [if_neg (by omega)])
        · skip
          refine r_aload_n S dX11_give_51 0 rfl ?_
          refine m_get_now S hm gtX11_7_X11 dX11_give_52 ?_
          refine r_aload_n S dX11_give_55 0 rfl ?_
          refine r_iload_n S dX11_give_56 2 rfl ?_
          refine r_aload_n S dX11_give_57 0 rfl ?_
          refine m_get_now S hm gtX11_7_X11 dX11_give_58 ?_
          refine r_bipush S dX11_give_61 (by decide) ?_
          refine r_iload_n S dX11_give_63 2 rfl ?_
          refine r_iadd S dX11_give_64 ?_
          refine m_ld_now S hm (by omega) (by omega) dX11_give_65 ?_
          rw [show g (10 + p) = now (10 + p) from hlo (10 + p) (by omega)]
          refine r_iload S dX11_give_66 4 rfl ?_
          refine r_isub_e (now (10 + p) - k) (by omega) S dX11_give_68 ?_
          refine (c_V_P (As := [.int (iI p), .int (iI (now (10 + p) - k))]) (st := [.ref (A 1)]) S (kX11_stampAt hm ) moX11_stampAt ⟨by decide, by decide⟩ ⟨by omega, by omega⟩ rfl (Nat.le_of_ble_eq_true rfl) w827 w829 w19 hm.1 rfl rfl dX11_give_69).goI (fun r69 hc69 => ?_)
          refine m_ld_now S hm (by omega) (by omega) dX11_give_72 ?_
          have e72 : g r69 = faceK now p (k - 1) := by unfold faceK; rw [if_pos (by omega), hlo _ (by omega), hc69]; congr 1; omega
          rw [e72]
          refine r_goto S 85 dX11_give_73 (by decide) ?_
          refine V.sub [0, 1, 2, 3, 4] rfl ?_
          exact L85 (faceK now p (k - 1)) _ hm trivial rfl
  refine V.sub [1, 2, 3, 4, 0] rfl ?_
  exact L33 _ 1 f29 _ hm29 (Nat.lt_succ_self _) (by omega) (fun j _ => rfl) (fun x x0 x1 => by rw [ef29b, upI_n (by omega), upI_n (by omega)]; unfold goneF; rw [show (1 - 1 : Int).toNat = 0 by decide]; show _ = _ + 0; omega)
