set_option maxRecDepth 20000 in
set_option maxHeartbeats 2000000 in
theorem kX11_pay {D : va_G} {A : Nat → Nat} {km rd : Int} {now reel : Int → Int} {hist : Int → Int → Int} {G : gh} (hq : mQ D A now hist km rd reel G) (hok : mOK now) {l : Int} (hlr : inR l) : CT ⟨"PostageCounterModel", "pay", "(I)I"⟩ prog_13_method_41_code 6 (some .int) 5 133 0 0 D [.ref (A 0), .int (iI l)] G (mM A) (tI (fun z G' => ∃ r : sR, sPay now l r ∧ mEnd D A now hist km rd reel r z G')) := by
  refine CT.enter (by decide +kernel) (Nat.le_of_ble_eq_true rfl) (fun F S ret hb hM hI => ?_)
  show V F 6 G 0 0 0 [(0, .ref (A 0)), (1, .int (iI l))] []
  obtain ⟨th, ke, kept, part, best, hm, hkp⟩ := hq
  have hN0 := hok.2.2.2.2.2.2.1.1
  have hN1 := hok.2.2.2.2.2.2.1.2.1
  refine r_aload_n S dX11_pay_0 0 rfl ?_
  refine r_iconst S dX11_pay_1 ?_
  refine m_put_th S hb hM hm ptX11_27_X11 dX11_pay_2 (fun G2 hm2 => ?_)
  refine r_aload_n S dX11_pay_5 0 rfl ?_
  refine r_iload_n S dX11_pay_6 1 rfl ?_
  refine (c_V_P (As := [.int (iI l)]) (st := []) S (kX11_isLetter hm2 hok (by omega)) moX11_isLetter ⟨by decide, by decide⟩ ⟨by omega, by omega⟩ rfl (Nat.le_of_ble_eq_true rfl) w912 w914 w28 hm2.1 rfl rfl dX11_pay_7).goI (fun r7 hc7 => ?_)
  refine r_if_ne S 16 dX11_pay_10 (by decide) (by omega) (fun c10 => ?_) (fun c10 => ?_)
  · skip
    replace hc7 := zz1 hc7 c10
    have hl : 0 ≤ l ∧ l < 60 := ⟨by omega, by omega⟩
    have hN := hok.2.2.2.2.2.2.1.2.2 l (by omega) (by omega)
    refine r_aload_n S dX11_pay_16 0 rfl ?_
    refine m_get_now S hm2 gtX11_7_X11 dX11_pay_17 ?_
    refine r_sipush S dX11_pay_20 (by decide) ?_
    refine r_iload_n S dX11_pay_23 1 rfl ?_
    refine r_iadd S dX11_pay_24 ?_
    refine m_ld_now S hm2 (by omega) (by omega) dX11_pay_25 ?_
    refine r_iconst S dX11_pay_26 ?_
    refine r_icmp_ne S 33 dX11_pay_27 (by decide) (by omega) (by omega) (fun c27 => ?_) (fun c27 => ?_)
    · skip
      refine r_aload_n S dX11_pay_33 0 rfl ?_
      refine r_aload_n S dX11_pay_34 0 rfl ?_
      refine m_get_now S hm2 gtX11_7_X11 dX11_pay_35 ?_
      refine r_sipush S dX11_pay_38 (by decide) ?_
      refine r_iload_n S dX11_pay_41 1 rfl ?_
      refine r_iadd S dX11_pay_42 ?_
      refine m_ld_now S hm2 (by omega) (by omega) dX11_pay_43 ?_
      refine (c_V_T (As := [.int (iI (now (1287 + l)))]) (st := []) S (kX11_leastSum hm2 hok (by omega)) moX11_leastSum ⟨by decide, by decide⟩ ⟨by omega, by omega⟩ rfl (Nat.le_of_ble_eq_true rfl) w916 w918 w29 hm2.1 rfl rfl dX11_pay_44).goI S hb hM (fun r44 G44 hx44 hc44 => ?_)
      obtain ⟨best44, hm44, hw44, hl44⟩ := hc44
      refine r_istore_n (L' := [(2, .int (iI r44)), (0, .ref (A 0)), (1, .int (iI l))]) S dX11_pay_47 (by decide) rfl ?_
      have hlq : r44 = -1 ∨ (0 ≤ r44 ∧ r44 < 3200 ∧ best44 r44 < 1000000) := by unfold isLeast at hl44; rcases hl44 with ⟨q1, q2, q3, -⟩ | ⟨q1, -⟩; exact Or.inr ⟨by omega, q2, q3⟩; exact Or.inl q1
      refine r_iload_n S dX11_pay_48 0 rfl ?_
      refine r_iconst S dX11_pay_49 ?_
      refine r_icmp_ne S 55 dX11_pay_50 (by decide) (by omega) (by omega) (fun c50 => ?_) (fun c50 => ?_)
      · skip
        replace hlq : 0 ≤ r44 ∧ r44 < 3200 ∧ best44 r44 < 1000000 := by omega
        refine r_aload_n S dX11_pay_55 1 rfl ?_
        refine (c_V_T (As := []) (st := []) S (kX11_keep hm44 hkp) moX11_keep ⟨by decide, by decide⟩ ⟨by omega, by omega⟩ rfl (Nat.le_of_ble_eq_true rfl) w807 w809 w17 hm44.1 rfl rfl dX11_pay_56).goV S hb hM (fun G56 hx56 hc56 => ?_)
        obtain ⟨ke56, kept56, hm56, hkp56⟩ := hc56
        refine r_iload_n S dX11_pay_59 0 rfl ?_
        refine r_istore_n (L' := [(3, .int (iI r44)), (2, .int (iI r44)), (0, .ref (A 0)), (1, .int (iI l))]) S dX11_pay_60 (by decide) rfl ?_
        refine r_iconst S dX11_pay_61 ?_
        refine r_istore (L' := [(4, .int (iI 0)), (3, .int (iI r44)), (2, .int (iI r44)), (0, .ref (A 0)), (1, .int (iI l))]) S dX11_pay_62 (by decide) rfl ?_
        have L64 : ∀ (N : Nat) (lf : Int) (p : Int) (g : Int → Int) (pt : Int → Int) (cnt : Int → Int) (lft : Int → Int) (T : Int → Int → Prop), ∀ (G : gh), mS D A 0 ke56 (kmF km) rd g kept56 reel pt best44 G →  (10 - p).toNat < N → (0 ≤ p ∧ p ≤ 10) → (payUp now l best44 r44 p g cnt lft T) → (lf = lft p) → (0 ≤ lf ∧ lf < 3200 ∧ best44 (3200 * p + lf) < 1000000) → V F 6 G 0 0 64 [(0, .ref (A 0)), (1, .int (iI l)), (2, .int (iI r44)), (3, .int (iI lf)), (4, .int (iI p))] [] := by
          intro N
          induction N with
          | zero => intro lf p g pt cnt lft T G hm hN; exact absurd hN (Nat.not_lt_zero _)
          | succ N ih64 =>
            intro lf p g pt cnt lft T G hm hN64 hp hpu hlf hbd
            obtain ⟨gK, gS, gQ⟩ := payUp_ok hok hpu hp hl
            refine r_iload S dX11_pay_64 4 rfl ?_
            refine r_bipush S dX11_pay_66 (by decide) ?_
            refine r_icmp_ge S 181 dX11_pay_68 (by decide) (by omega) (by omega) (fun c68 => ?_) (fun c68 => ?_)
            · skip
              refine r_aload_n S dX11_pay_181 0 rfl ?_
              refine m_get_now S hm gtX11_7_X11 dX11_pay_182 ?_
              refine r_sipush S dX11_pay_185 (by decide) ?_
              refine r_iload_n S dX11_pay_188 1 rfl ?_
              refine r_iadd S dX11_pay_189 ?_
              refine r_iload_n S dX11_pay_190 2 rfl ?_
              refine m_st_now S hb hM hm (by omega) (by omega) dX11_pay_191 (fun G191 f191 ef191 hm191 => ?_)
              refine r_aload_n S dX11_pay_192 0 rfl ?_
              refine m_get_now S hm191 gtX11_7_X11 dX11_pay_193 ?_
              refine r_sipush S dX11_pay_196 (by decide) ?_
              refine r_iload_n S dX11_pay_199 1 rfl ?_
              refine r_iadd S dX11_pay_200 ?_
              refine r_iconst S dX11_pay_201 ?_
              refine m_st_now S hb hM hm191 (by omega) (by omega) dX11_pay_202 (fun G202 f202 ef202 hm202 => ?_)
              refine r_iload_n S dX11_pay_203 2 rfl ?_
              exact ret.ti r44 dX11_pay_204 (by omega) (by omega) ⟨_, Or.inr (Or.inr ⟨hc7, by omega, _, _, hw44, hl44, Or.inr ⟨by omega, f202, ⟨g, cnt, lft, T, by rw [← show p = 10 by omega]; exact hpu, by rw [ef202, ef191]⟩, rfl⟩⟩), mEnd.m1 rfl ⟨_, _, _, _, _, hm202, hkp56⟩⟩
            · skip
              have hp9 : 0 ≤ p ∧ p < 10 := ⟨by omega, by omega⟩
              obtain ⟨hl1, hl2, hl3, hl4, hl5, hl6, hl7⟩ := payUp_loc hpu hp9 hl
              have hkk := (hok.1 p hp9.1 hp9.2).2.1
              have hk0 := (hok.1 p hp9.1 hp9.2).1
              have hk1 := (hok.1 p hp9.1 hp9.2).2.2.1
              have hk2 := (hok.1 p hp9.1 hp9.2).2.2.2.1
              have hk40 : now p = 1 → now (10 + p) ≤ 40 := (hok.1 p hp9.1 hp9.2).2.2.2.2.2.2.2.2.2.2.2.2.1
              refine r_aload_n S dX11_pay_71 0 rfl ?_
              refine m_get_now S hm gtX11_7_X11 dX11_pay_72 ?_
              refine r_bipush S dX11_pay_75 (by decide) ?_
              refine r_iload S dX11_pay_77 4 rfl ?_
              refine r_iadd S dX11_pay_79 ?_
              refine m_ld_now S hm (by omega) (by omega) dX11_pay_80 ?_
              rw [hl2]
              refine r_istore (L' := [(5, .int (iI (now (10 + p)))), (0, .ref (A 0)), (1, .int (iI l)), (2, .int (iI r44)), (3, .int (iI lf)), (4, .int (iI p))]) S dX11_pay_81 (by decide) rfl ?_
              have L83 : ∀ (N : Nat) (n : Int), ∀ (G : gh), mS D A 0 ke56 (kmF km) rd g kept56 reel pt best44 G →  n.toNat < N → (0 ≤ n ∧ n ≤ now (10 + p)) → (∀ m : Int, n < m → m ≤ now (10 + p) → ¬ chOK now best44 p lf m) → V F 6 G 0 0 83 [(0, .ref (A 0)), (1, .int (iI l)), (2, .int (iI r44)), (3, .int (iI lf)), (4, .int (iI p)), (5, .int (iI n))] [] := by
                intro N
                induction N with
                | zero => intro n G hm hN; exact absurd hN (Nat.not_lt_zero _)
                | succ N ih83 =>
                  intro n G hm hN83 hn hno
                  have L149 : ∀ (_ : Unit), ∀ (G : gh), mS D A 0 ke56 (kmF km) rd g kept56 reel pt best44 G →  True → (¬ chOK now best44 p lf n) → V F 6 G 0 0 149 [(0, .ref (A 0)), (1, .int (iI l)), (2, .int (iI r44)), (3, .int (iI lf)), (4, .int (iI p)), (5, .int (iI n))] [] := by
                    intro _ G hm _ hnc
                    refine r_iinc_e (L' := [(5, .int (iI (n - 1))), (0, .ref (A 0)), (1, .int (iI l)), (2, .int (iI r44)), (3, .int (iI lf)), (4, .int (iI p))]) (n - 1) (by omega) S dX11_pay_149 5 rfl (by decide) rfl ?_
                    refine r_goto S 83 dX11_pay_152 (by decide) ?_
                    refine V.sub [1, 2, 3, 4, 5, 0] rfl ?_
                    exact ih83 (n - 1) _ hm (by obtain ⟨m, m0, m1, m2⟩ := ch_ex hw44 hp9 ⟨hbd.1, hbd.2.1⟩ hbd.2.2; by_cases e : m = n; exact absurd (e ▸ m2) hnc; by_cases e2 : n < m; exact absurd m2 (hno m e2 m1); omega) (by obtain ⟨m, m0, m1, m2⟩ := ch_ex hw44 hp9 ⟨hbd.1, hbd.2.1⟩ hbd.2.2; by_cases e : m = n; exact absurd (e ▸ m2) hnc; by_cases e2 : n < m; exact absurd m2 (hno m e2 m1); omega) (fun m m0 m1 => by by_cases e : m = n; rw [e]; exact hnc; exact hno m (by omega) m1)
                  refine r_aload_n S dX11_pay_83 0 rfl ?_
                  refine r_iload S dX11_pay_84 4 rfl ?_
                  refine r_iload S dX11_pay_86 5 rfl ?_
                  refine (c_V_P (As := [.int (iI p), .int (iI n)]) (st := []) S (kX11_mayGive hm (by omega) (by omega) (by omega)) moX11_mayGive ⟨by decide, by decide⟩ ⟨by omega, by omega⟩ rfl (Nat.le_of_ble_eq_true rfl) w929 w931 w32 hm.1 rfl rfl dX11_pay_88).goI (fun r88 hc88 => ?_)
                  refine r_if_eq S 149 dX11_pay_91 (by decide) (by omega) (fun c91 => ?_) (fun c91 => ?_)
                  · skip
                    replace hc88 := zz0 hc88 c91
                    refine V.sub [0, 1, 2, 3, 4, 5] rfl ?_
                    exact L149 () _ hm trivial (fun q => hc88 (fun z => q.2.2.1 (by rw [← hl1]; exact z)))
                  · skip
                    replace hc88 := zz1 hc88 c91
                    refine r_aload_n S dX11_pay_94 0 rfl ?_
                    refine r_iload S dX11_pay_95 4 rfl ?_
                    refine r_iload S dX11_pay_97 5 rfl ?_
                    refine (c_V_P (As := [.int (iI p), .int (iI n)]) (st := []) S (kX11_pays hm gK (by omega) (by omega)) moX11_pays ⟨by decide, by decide⟩ ⟨by omega, by omega⟩ rfl (Nat.le_of_ble_eq_true rfl) w925 w927 w31 hm.1 rfl rfl dX11_pay_99).goI (fun r99 hc99 => ?_)
                    have e99 : r99 = paysF now p n := by rw [hc99]; exact paysF_cong hl1 hl2 hl3 hl6 (by omega) (by omega) hk40
                    have hpb := paysF_bd hok.1 hok.2.1 (p := p) (n := n) (by omega) (by omega) (by omega) (by omega)
                    refine r_iload_n S dX11_pay_102 3 rfl ?_
                    refine r_icmp_gt S 149 dX11_pay_103 (by decide) (by omega) (by omega) (fun c103 => ?_) (fun c103 => ?_)
                    · skip
                      refine V.sub [0, 1, 2, 3, 4, 5] rfl ?_
                      exact L149 () _ hm trivial (fun q => by have := q.2.2.2.1; omega)
                    · skip
                      refine r_aload_n S dX11_pay_106 0 rfl ?_
                      refine m_get_best S hm gtX11_24_X11 dX11_pay_107 ?_
                      refine r_sipush S dX11_pay_110 (by decide) ?_
                      refine r_iload S dX11_pay_113 4 rfl ?_
                      refine r_iconst S dX11_pay_115 ?_
                      refine r_iadd_e (1 + p) (by omega) S dX11_pay_116 ?_
                      refine r_imul_e (3200 + 3200 * p) (by omega) S dX11_pay_117 ?_
                      refine r_iload_n S dX11_pay_118 3 rfl ?_
                      refine r_iadd_e (3200 + 3200 * p + lf) (by omega) S dX11_pay_119 ?_
                      refine r_aload_n S dX11_pay_120 0 rfl ?_
                      refine r_iload S dX11_pay_121 4 rfl ?_
                      refine r_iload S dX11_pay_123 5 rfl ?_
                      refine (c_V_P (As := [.int (iI p), .int (iI n)]) (st := [.int (iI (3200 + 3200 * p + lf)), .ref (A 5)]) S (kX11_pays hm gK (by omega) (by omega)) moX11_pays ⟨by decide, by decide⟩ ⟨by omega, by omega⟩ rfl (Nat.le_of_ble_eq_true rfl) w925 w927 w31 hm.1 rfl rfl dX11_pay_125).goI (fun r125 hc125 => ?_)
                      have e125 : r125 = paysF now p n := by rw [hc125]; exact paysF_cong hl1 hl2 hl3 hl6 (by omega) (by omega) hk40
                      refine r_isub_e (3200 + 3200 * p + lf - r125) (by omega) S dX11_pay_128 ?_
                      refine m_ld_best S hm (by omega) (by omega) dX11_pay_129 ?_
                      have hb1 : 0 ≤ best44 (3200 + 3200 * p + lf - r125) ∧ best44 (3200 + 3200 * p + lf - r125) ≤ 1000000 := by have h := ways_bd hok hw44 (p := 1 + p) (s := lf - r125) (by omega) (by omega); rw [show 3200 * (1 + p) + (lf - r125) = (3200 + 3200 * p + lf - r125) by omega] at h; exact h
                      have hb2 := ways_bd hok hw44 (p := p) (s := lf) (by omega) (by omega)
                      have hb3 : best44 (3200 + 3200 * p + (lf - paysF now p n)) = best44 (3200 + 3200 * p + lf - r125) := by rw [← e125]; congr 1; omega
                      refine r_iload S dX11_pay_130 5 rfl ?_
                      refine r_iadd_e (best44 (3200 + 3200 * p + lf - r125) + n) (by omega) S dX11_pay_132 ?_
                      refine r_aload_n S dX11_pay_133 0 rfl ?_
                      refine m_get_best S hm gtX11_24_X11 dX11_pay_134 ?_
                      refine r_sipush S dX11_pay_137 (by decide) ?_
                      refine r_iload S dX11_pay_140 4 rfl ?_
                      refine r_imul S dX11_pay_142 ?_
                      refine r_iload_n S dX11_pay_143 3 rfl ?_
                      refine r_iadd_e (3200 * p + lf) (by omega) S dX11_pay_144 ?_
                      refine m_ld_best S hm (by omega) (by omega) dX11_pay_145 ?_
                      refine r_icmp_eq S 155 dX11_pay_146 (by decide) (by omega) (by omega) (fun c146 => ?_) (fun c146 => ?_)
                      · skip
                        refine r_iload_n S dX11_pay_155 3 rfl ?_
                        refine r_aload_n S dX11_pay_156 0 rfl ?_
                        refine r_iload S dX11_pay_157 4 rfl ?_
                        refine r_iload S dX11_pay_159 5 rfl ?_
                        refine (c_V_P (As := [.int (iI p), .int (iI n)]) (st := [.int (iI lf)]) S (kX11_pays hm gK (by omega) (by omega)) moX11_pays ⟨by decide, by decide⟩ ⟨by omega, by omega⟩ rfl (Nat.le_of_ble_eq_true rfl) w925 w927 w31 hm.1 rfl rfl dX11_pay_161).goI (fun r161 hc161 => ?_)
                        have e161 : r161 = paysF now p n := by rw [hc161]; exact paysF_cong hl1 hl2 hl3 hl6 (by omega) (by omega) hk40
                        refine r_isub S dX11_pay_164 ?_
                        refine r_istore_n (L' := [(3, .int (iI (lf - r161))), (0, .ref (A 0)), (1, .int (iI l)), (2, .int (iI r44)), (4, .int (iI p)), (5, .int (iI n))]) S dX11_pay_165 (by decide) rfl ?_
                        refine r_aload_n S dX11_pay_166 1 rfl ?_
                        refine r_iload_n S dX11_pay_167 2 rfl ?_
                        refine r_iload S dX11_pay_168 4 rfl ?_
                        refine r_iload S dX11_pay_170 5 rfl ?_
                        refine (c_V_T (As := [.int (iI l), .int (iI p), .int (iI n)]) (st := []) S (kX11_give hm gK gS gQ (by omega) hl (by omega) (by rw [hl4, hl5]; exact (rc_le hok.1 hp9).2) (fun w hw => pairU_cong (fun k k0 k1 => hl7 k (by omega) (by omega)) (wOf_BP hw) (pairU_of hok.2.2.2.2.2.2.2.2.1 hp9 (by unfold wOf at hw ⊢; rw [← hl1]; exact hw))) (fun w mn hw hwn h1 h2 => by rw [hl4, hl5]; obtain ⟨x, y, hv⟩ := hex_ok hok hp9 (by unfold wOf at hw ⊢; rw [← hl1]; exact hw) hwn (by omega) h1 h2; exact ⟨x, y, by rw [valU_cong (fun k k0 k1 => hl7 k k0 k1) (rc_le hok.1 hp9).2]; exact hv⟩) hc88) moX11_give ⟨by decide, by decide⟩ ⟨by omega, by omega⟩ rfl (Nat.le_of_ble_eq_true rfl) w933 w935 w33 hm.1 rfl rfl dX11_pay_172).goV S hb hM (fun G172 hx172 hc172 => ?_)
                        obtain ⟨nw172, pt172, T172, hm172, hg172, ht172⟩ := hc172
                        have hct : chTop now best44 p (lft p) n := by rw [← hlf]; exact ⟨⟨by omega, by omega, fun z => hc88 (by rw [hl1]; exact z), by omega, by omega⟩, hno⟩
                        refine r_iinc_e (L' := [(4, .int (iI (1 + p))), (3, .int (iI (lf - r161))), (0, .ref (A 0)), (1, .int (iI l)), (2, .int (iI r44)), (5, .int (iI n))]) (1 + p) (by omega) S dX11_pay_175 4 rfl (by decide) rfl ?_
                        refine r_goto S 64 dX11_pay_178 (by decide) ?_
                        refine V.sub [2, 3, 4, 1, 0] rfl ?_
                        exact ih64 (lf - r161) (1 + p) nw172 pt172 (upI cnt p n) (upI lft (1 + p) (lft p - paysF now p n)) (upI T p T172) _ hm172 (by omega) (by omega) (payUp_step hpu hp9 hl hct hg172 (giveT_cong hl1 hl4 hl5 hl7 (rc_le hok.1 hp9).2 ht172) (fun f => goneF_cong hl1 hl2 hl3 hl6 hp9 (by omega) hk40)) (by rw [upI_s, e161, hlf]) ⟨by omega, by omega, by rw [show 3200 * (1 + p) + (lf - r161) = 3200 + 3200 * p + (lf - paysF now p n) by omega]; omega⟩
                      · skip
                        refine V.sub [0, 1, 2, 3, 4, 5] rfl ?_
                        exact L149 () _ hm trivial (fun q => by have h := q.2.2.2.2; omega)
              refine V.sub [1, 2, 3, 4, 5, 0] rfl ?_
              exact L83 _ (now (10 + p)) _ hm (Nat.lt_succ_self _) (by omega) (fun m m0 m1 => absurd m1 (by omega))
        refine V.sub [3, 4, 2, 1, 0] rfl ?_
        exact L64 _ r44 0 now part (fun _ => 0) (fun _ => r44) (fun _ _ => False) _ hm56 (Nat.lt_succ_self _) (by omega) payUp_0 rfl ⟨by omega, by omega, by rw [show 3200 * 0 + r44 = r44 by omega]; omega⟩
      · skip
        refine r_iconst S dX11_pay_53 ?_
        exact ret.ti (-1) dX11_pay_54 (by omega) (by omega) ⟨_, Or.inr (Or.inr ⟨hc7, by omega, _, _, hw44, hl44, Or.inl ⟨by omega, rfl⟩⟩), mEnd.m0 rfl ⟨_, _, _, _, _, hm44, hkp⟩⟩
    · skip
      refine r_bipush S dX11_pay_30 (by decide) ?_
      exact ret.ti (-4) dX11_pay_32 (by omega) (by omega) ⟨_, Or.inr (Or.inl ⟨hc7, by omega, rfl⟩), mEnd.m0 rfl ⟨_, _, _, _, _, hm2, hkp⟩⟩
  · skip
    replace hc7 := zz0 hc7 c10
    refine r_bipush S dX11_pay_13 (by decide) ?_
    exact ret.ti (-3) dX11_pay_15 (by omega) (by omega) ⟨_, Or.inl ⟨hc7, rfl⟩, mEnd.m0 rfl ⟨_, _, _, _, _, hm2, hkp⟩⟩
