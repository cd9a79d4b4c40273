set_option maxRecDepth 20000 in
set_option maxHeartbeats 2000000 in
theorem kX11_findWays {D : va_G} {A : Nat → Nat} {th ke km rd : Int} {now kept reel part best : Int → Int} {G : gh} (hm : mS D A th ke km rd now kept reel part best G) (hok : mOK now) : CT ⟨"PostageCounterModel", "findWays", "()V"⟩ prog_13_method_36_code 6 none 2 46 0 0 D [.ref (A 0)] G (mM A) (tV (fun G' => ∃ best' : Int → Int, mS D A th ke km rd now kept reel part best' G' ∧ waysOK now best')) := by
  refine CT.enter (by decide +kernel) (Nat.le_of_ble_eq_true rfl) (fun F S ret hb hM hI => ?_)
  show V F 6 G 0 0 0 [(0, .ref (A 0))] []
  refine r_iconst S dX11_findWays_0 ?_
  refine r_istore_n (L' := [(1, .int (iI 0)), (0, .ref (A 0))]) S dX11_findWays_1 (by decide) rfl ?_
  have L2 : ∀ (N : Nat) (s : Int) (bi : Int → Int), ∀ (G : gh), mS D A th ke km rd now kept reel part bi G →  (3200 - s).toNat < N → (0 ≤ s ∧ s ≤ 3200) → (∀ x, 0 ≤ x → x < s → bi (32000 + x) = if x = 0 then 0 else 1000000) → V F 6 G 0 0 2 [(0, .ref (A 0)), (1, .int (iI s))] [] := by
    intro N
    induction N with
    | zero => intro s bi G hm hN; exact absurd hN (Nat.not_lt_zero _)
    | succ N ih2 =>
      intro s bi G hm hN2 hs i0
      refine r_iload_n S dX11_findWays_2 1 rfl ?_
      refine r_sipush S dX11_findWays_3 (by decide) ?_
      refine r_icmp_ge S 35 dX11_findWays_6 (by decide) (by omega) (by omega) (fun c6 => ?_) (fun c6 => ?_)
      · skip
        refine r_bipush S dX11_findWays_35 (by decide) ?_
        refine r_istore_n (L' := [(1, .int (iI 9)), (0, .ref (A 0))]) S dX11_findWays_37 (by decide) rfl ?_
        have L38 : ∀ (N : Nat) (p : Int) (bt : Int → Int), ∀ (G : gh), mS D A th ke km rd now kept reel part bt G →  (1 + p).toNat < N → (-1 ≤ p ∧ p ≤ 9) → (∀ x, 0 ≤ x → x < 3200 → bt (32000 + x) = if x = 0 then 0 else 1000000) → (∀ q, p < q → q < 10 → rowOK now bt q) → (∀ j, 3200 + 3200 * p ≤ j → j < 35200 → 0 ≤ bt j ∧ bt j ≤ 1000000) → V F 6 G 0 0 38 [(0, .ref (A 0)), (1, .int (iI p))] [] := by
          intro N
          induction N with
          | zero => intro p bt G hm hN; exact absurd hN (Nat.not_lt_zero _)
          | succ N ih38 =>
            intro p bt G hm hN38 hp i1 i2 i3
            refine r_iload_n S dX11_findWays_38 1 rfl ?_
            refine r_if_lt S 201 dX11_findWays_39 (by decide) (by omega) (fun c39 => ?_) (fun c39 => ?_)
            · skip
              exact ret.tv dX11_findWays_201 (by omega) (by omega) ⟨_, hm, i1, fun q h0 h1 => i2 q (by omega) h1⟩
            · skip
              refine r_iconst S dX11_findWays_42 ?_
              refine r_istore_n (L' := [(2, .int (iI 0)), (0, .ref (A 0)), (1, .int (iI p))]) S dX11_findWays_43 (by decide) rfl ?_
              have L44 : ∀ (N : Nat) (x : Int) (bf : Int → Int), ∀ (G : gh), mS D A th ke km rd now kept reel part bf G →  (3200 - x).toNat < N → (0 ≤ x ∧ x ≤ 3200) → (∀ y, 0 ≤ y → y < x → bf (3200 * p + y) = 1000000) → (∀ j, 3200 + 3200 * p ≤ j → bf j = bt j) → V F 6 G 0 0 44 [(0, .ref (A 0)), (1, .int (iI p)), (2, .int (iI x))] [] := by
                intro N
                induction N with
                | zero => intro x bf G hm hN; exact absurd hN (Nat.not_lt_zero _)
                | succ N ih44 =>
                  intro x bf G hm hN44 hx f1 f2
                  have hK := hok.1 p (by omega) (by omega)
                  refine r_iload_n S dX11_findWays_44 2 rfl ?_
                  refine r_sipush S dX11_findWays_45 (by decide) ?_
                  refine r_icmp_ge S 71 dX11_findWays_48 (by decide) (by omega) (by omega) (fun c48 => ?_) (fun c48 => ?_)
                  · skip
                    refine r_iconst S dX11_findWays_71 ?_
                    refine r_istore_n (L' := [(2, .int (iI 0)), (0, .ref (A 0)), (1, .int (iI p))]) S dX11_findWays_72 (by decide) rfl ?_
                    have L73 : ∀ (N : Nat) (n : Int) (bg : Int → Int), ∀ (G : gh), mS D A th ke km rd now kept reel part bg G →  (1 + now (10 + p) - n).toNat < N → (0 ≤ n ∧ n ≤ 1 + now (10 + p)) → (∀ s, 0 ≤ s → s < 3200 → minUp now p n (fun x => bt (3200 + 3200 * p + x)) s (bg (3200 * p + s))) → (∀ j, 3200 + 3200 * p ≤ j → bg j = bt j) → V F 6 G 0 0 73 [(0, .ref (A 0)), (1, .int (iI p)), (2, .int (iI n))] [] := by
                      intro N
                      induction N with
                      | zero => intro n bg G hm hN; exact absurd hN (Nat.not_lt_zero _)
                      | succ N ih73 =>
                        intro n bg G hm hN73 hn u1 u4
                        refine r_iload_n S dX11_findWays_73 2 rfl ?_
                        refine r_aload_n S dX11_findWays_74 0 rfl ?_
                        refine m_get_now S hm gtX11_7_X11 dX11_findWays_75 ?_
                        refine r_bipush S dX11_findWays_78 (by decide) ?_
                        refine r_iload_n S dX11_findWays_80 1 rfl ?_
                        refine r_iadd S dX11_findWays_81 ?_
                        refine m_ld_now S hm (by omega) (by omega) dX11_findWays_82 ?_
                        refine r_icmp_gt S 195 dX11_findWays_83 (by decide) (by omega) (by omega) (fun c83 => ?_) (fun c83 => ?_)
                        · skip
                          refine r_iinc_e (L' := [(1, .int (iI (p - 1))), (0, .ref (A 0)), (2, .int (iI n))]) (p - 1) (by omega) S dX11_findWays_195 1 rfl (by decide) rfl ?_
                          refine r_goto S 38 dX11_findWays_198 (by decide) ?_
                          refine V.sub [1, 0] rfl ?_
                          exact ih38 (p - 1) bg _ hm (by omega) (by omega) (fun x h0 h1 => by rw [u4 _ (by omega)]; exact i1 x h0 h1) (fun q h0 h1 s hs0 hs1 => by rcases (show q = p ∨ p < q by omega) with e | e; subst e; rw [show 1 + now (10 + q) = n by omega]; exact minUp_congr (u1 s hs0 hs1) rfl (fun x _ _ => u4 _ (by omega)) (fun k k0 k1 => (paysF_bd hok.1 hok.2.1 (by omega) h1 k0 (by omega)).1); exact minUp_congr (i2 q e h1 s hs0 hs1) (u4 _ (by omega)) (fun x _ _ => u4 _ (by omega)) (fun k k0 k1 => (paysF_bd hok.1 hok.2.1 (by omega) h1 k0 (by omega)).1)) (fun j h0 h1 => by rcases (show 3200 + 3200 * p ≤ j ∨ j < 3200 + 3200 * p by omega) with e | e; rw [u4 j e]; exact i3 j e h1; have h := minUp_nn (u1 (j - 3200 * p) (by omega) (by omega)) (fun x x0 x1 => (i3 _ (by omega) (by omega)).1) (fun k k0 k1 => (paysF_bd hok.1 hok.2.1 (by omega) (by omega) k0 (by omega)).1); rw [show 3200 * p + (j - 3200 * p) = j by omega] at h; exact h)
                        · skip
                          refine r_aload_n S dX11_findWays_86 0 rfl ?_
                          refine r_iload_n S dX11_findWays_87 1 rfl ?_
                          refine r_iload_n S dX11_findWays_88 2 rfl ?_
                          refine (c_V_P (As := [.int (iI p), .int (iI n)]) (st := []) S (kX11_pays hm hok.1 (by omega) (by omega)) moX11_pays ⟨by decide, by decide⟩ ⟨by omega, by omega⟩ rfl (Nat.le_of_ble_eq_true rfl) w925 w927 w31 hm.1 rfl rfl dX11_findWays_89).goI (fun r89 hc89 => ?_)
                          refine r_istore_n (L' := [(3, .int (iI r89)), (0, .ref (A 0)), (1, .int (iI p)), (2, .int (iI n))]) S dX11_findWays_92 (by decide) rfl ?_
                          have hpb := paysF_bd hok.1 hok.2.1 (p := p) (n := n) (by omega) (by omega) (by omega) (by omega)
                          refine r_iload_n S dX11_findWays_93 0 rfl ?_
                          refine r_istore (L' := [(4, .int (iI r89)), (3, .int (iI r89)), (0, .ref (A 0)), (1, .int (iI p)), (2, .int (iI n))]) S dX11_findWays_94 (by decide) rfl ?_
                          have L96 : ∀ (N : Nat) (y : Int) (bh : Int → Int), ∀ (G : gh), mS D A th ke km rd now kept reel part bh G →  (3200 - y).toNat < N → (r89 ≤ y ∧ (y ≤ 3200 ∨ y = r89)) → (∀ s, 0 ≤ s → s < y → s < 3200 → minUp now p (1 + n) (fun x => bt (3200 + 3200 * p + x)) s (bh (3200 * p + s))) → (∀ s, y ≤ s → s < 3200 → minUp now p n (fun x => bt (3200 + 3200 * p + x)) s (bh (3200 * p + s))) → (∀ j, 3200 + 3200 * p ≤ j → bh j = bt j) → V F 6 G 0 0 96 [(0, .ref (A 0)), (1, .int (iI p)), (2, .int (iI n)), (3, .int (iI r89)), (4, .int (iI y))] [] := by
                            intro N
                            induction N with
                            | zero => intro y bh G hm hN; exact absurd hN (Nat.not_lt_zero _)
                            | succ N ih96 =>
                              intro y bh G hm hN96 hy v1 v2 v4
                              refine r_iload S dX11_findWays_96 4 rfl ?_
                              refine r_sipush S dX11_findWays_98 (by decide) ?_
                              refine r_icmp_ge S 189 dX11_findWays_101 (by decide) (by omega) (by omega) (fun c101 => ?_) (fun c101 => ?_)
                              · skip
                                refine r_iinc_e (L' := [(2, .int (iI (1 + n))), (0, .ref (A 0)), (1, .int (iI p)), (3, .int (iI r89)), (4, .int (iI y))]) (1 + n) (by omega) S dX11_findWays_189 2 rfl (by decide) rfl ?_
                                refine r_goto S 73 dX11_findWays_192 (by decide) ?_
                                refine V.sub [1, 2, 0] rfl ?_
                                exact ih73 (1 + n) bh _ hm (by omega) (by omega) (fun s h0 h1 => by by_cases e : y ≤ s; exact minUp_skip (v2 s e h1) (fun q => by first | exact absurd q hc107 | omega); exact v1 s h0 (by omega) h1) v4
                              · skip
                                refine r_aload_n S dX11_findWays_104 0 rfl ?_
                                refine r_iload_n S dX11_findWays_105 1 rfl ?_
                                refine r_iload_n S dX11_findWays_106 2 rfl ?_
                                refine (c_V_P (As := [.int (iI p), .int (iI n)]) (st := []) S (kX11_mayGive hm (by omega) (by omega) (by omega)) moX11_mayGive ⟨by decide, by decide⟩ ⟨by omega, by omega⟩ rfl (Nat.le_of_ble_eq_true rfl) w929 w931 w32 hm.1 rfl rfl dX11_findWays_107).goI (fun r107 hc107 => ?_)
                                refine r_if_eq S 189 dX11_findWays_110 (by decide) (by omega) (fun c110 => ?_) (fun c110 => ?_)
                                · skip
                                  replace hc107 := zz0 hc107 c110
                                  refine r_iinc_e (L' := [(2, .int (iI (1 + n))), (0, .ref (A 0)), (1, .int (iI p)), (3, .int (iI r89)), (4, .int (iI y))]) (1 + n) (by omega) S dX11_findWays_189 2 rfl (by decide) rfl ?_
                                  refine r_goto S 73 dX11_findWays_192 (by decide) ?_
                                  refine V.sub [1, 2, 0] rfl ?_
                                  exact ih73 (1 + n) bh _ hm (by omega) (by omega) (fun s h0 h1 => by by_cases e : y ≤ s; exact minUp_skip (v2 s e h1) (fun q => by first | exact absurd q hc107 | omega); exact v1 s h0 (by omega) h1) v4
                                · skip
                                  replace hc107 := zz1 hc107 c110
                                  refine r_aload_n S dX11_findWays_113 0 rfl ?_
                                  refine m_get_best S hm gtX11_24_X11 dX11_findWays_114 ?_
                                  refine r_sipush S dX11_findWays_117 (by decide) ?_
                                  refine r_iload_n S dX11_findWays_120 1 rfl ?_
                                  refine r_iconst S dX11_findWays_121 ?_
                                  refine r_iadd_e (1 + p) (by omega) S dX11_findWays_122 ?_
                                  refine r_imul_e (3200 + 3200 * p) (by omega) S dX11_findWays_123 ?_
                                  refine r_iload S dX11_findWays_124 4 rfl ?_
                                  refine r_iadd_e (3200 + 3200 * p + y) (by omega) S dX11_findWays_126 ?_
                                  refine r_iload_n S dX11_findWays_127 3 rfl ?_
                                  refine r_isub_e (3200 + 3200 * p + y - r89) (by omega) S dX11_findWays_128 ?_
                                  refine m_ld_best S hm (by omega) (by omega) dX11_findWays_129 ?_
                                  refine r_iload_n S dX11_findWays_130 2 rfl ?_
                                  refine r_iadd_e (bh (3200 + 3200 * p + y - r89) + n) (by omega) S dX11_findWays_131 ?_
                                  refine r_istore (L' := [(5, .int (iI (bh (3200 + 3200 * p + y - r89) + n))), (0, .ref (A 0)), (1, .int (iI p)), (2, .int (iI n)), (3, .int (iI r89)), (4, .int (iI y))]) S dX11_findWays_132 (by decide) rfl ?_
                                  have hst : bh (3200 + 3200 * p + y - r89) = bt (3200 + 3200 * p + (y - r89)) := by rw [v4 _ (by omega)]; congr 1; omega
                                  have hb1 := i3 (3200 + 3200 * p + (y - r89)) (by omega) (by omega)
                                  have hb2 := minUp_nn (v2 y (by omega) (by omega)) (fun x x0 x1 => (i3 _ (by omega) (by omega)).1) (fun k k0 k1 => (paysF_bd hok.1 hok.2.1 (by omega) (by omega) k0 (by omega)).1)
                                  have L182 : ∀ (m : Int), ∀ (G : gh), mS D A th ke km rd now kept reel part bh G →  True → (m ≤ bh (3200 * p + y) ∧ m ≤ n + bh (3200 + 3200 * p + y - r89) ∧ (m = bh (3200 * p + y) ∨ m = n + bh (3200 + 3200 * p + y - r89))) → V F 6 G 0 0 182 [(0, .ref (A 0)), (1, .int (iI p)), (2, .int (iI n)), (3, .int (iI r89)), (4, .int (iI y))] [.int (iI m), .int (iI (3200 * p + y)), .ref (A 5)] := by
                                    intro m G hm _ hm1
                                    refine m_st_best S hb hM hm (by omega) (by omega) dX11_findWays_182 (fun G182 f182 ef182 hm182 => ?_)
                                    refine r_iinc_e (L' := [(4, .int (iI (1 + y))), (0, .ref (A 0)), (1, .int (iI p)), (2, .int (iI n)), (3, .int (iI r89))]) (1 + y) (by omega) S dX11_findWays_183 4 rfl (by decide) rfl ?_
                                    refine r_goto S 96 dX11_findWays_186 (by decide) ?_
                                    refine V.sub [1, 2, 3, 4, 0] rfl ?_
                                    exact ih96 (1 + y) f182 _ hm182 (by omega) (by omega) (fun s h0 h1 h2 => by rw [ef182]; by_cases e : s = y; subst e; rw [upI_s]; exact minUp_step (v2 s (by omega) h2) (by omega) hc107 (by omega) (by omega) (by rw [← hc89]; omega) (by rw [← hc89]; omega); rw [upI_n (by omega)]; exact v1 s h0 (by omega) h2) (fun s h0 h1 => by rw [ef182, upI_n (by omega)]; exact v2 s (by omega) h1) (fun j hj => by rw [ef182, upI_n (by omega)]; exact v4 j hj)
                                  refine r_aload_n S dX11_findWays_134 1 rfl ?_
                                  refine m_get_best S hm gtX11_24_X11 dX11_findWays_135 ?_
                                  refine r_sipush S dX11_findWays_138 (by decide) ?_
                                  refine r_iload_n S dX11_findWays_141 2 rfl ?_
                                  refine r_imul S dX11_findWays_142 ?_
                                  refine r_iload S dX11_findWays_143 5 rfl ?_
                                  refine r_iadd_e (3200 * p + y) (by omega) S dX11_findWays_145 ?_
                                  refine r_iload S dX11_findWays_146 0 rfl ?_
                                  refine r_aload_n S dX11_findWays_148 1 rfl ?_
                                  refine m_get_best S hm gtX11_24_X11 dX11_findWays_149 ?_
                                  refine r_sipush S dX11_findWays_152 (by decide) ?_
                                  refine r_iload_n S dX11_findWays_155 2 rfl ?_
                                  refine r_imul S dX11_findWays_156 ?_
                                  refine r_iload S dX11_findWays_157 5 rfl ?_
                                  refine r_iadd_e (3200 * p + y) (by omega) S dX11_findWays_159 ?_
                                  refine m_ld_best S hm (by omega) (by omega) dX11_findWays_160 ?_
                                  refine r_icmp_ge S 169 dX11_findWays_161 (by decide) (by omega) (by omega) (fun c161 => ?_) (fun c161 => ?_)
                                  · skip
                                    refine r_aload_n S dX11_findWays_169 1 rfl ?_
                                    refine m_get_best S hm gtX11_24_X11 dX11_findWays_170 ?_
                                    refine r_sipush S dX11_findWays_173 (by decide) ?_
                                    refine r_iload_n S dX11_findWays_176 2 rfl ?_
                                    refine r_imul S dX11_findWays_177 ?_
                                    refine r_iload S dX11_findWays_178 5 rfl ?_
                                    refine r_iadd_e (3200 * p + y) (by omega) S dX11_findWays_180 ?_
                                    refine m_ld_best S hm (by omega) (by omega) dX11_findWays_181 ?_
                                    refine V.sub [1, 2, 3, 4, 5] rfl ?_
                                    exact L182 (bh (3200 * p + y)) _ hm trivial (by omega)
                                  · skip
                                    refine r_iload S dX11_findWays_164 0 rfl ?_
                                    refine r_goto S 182 dX11_findWays_166 (by decide) ?_
                                    refine V.sub [1, 2, 3, 4, 5] rfl ?_
                                    exact L182 (bh (3200 + 3200 * p + y - r89) + n) _ hm trivial (by omega)
                          refine V.sub [2, 3, 4, 1, 0] rfl ?_
                          exact L96 _ r89 bg _ hm (Nat.lt_succ_self _) (by omega) (fun s h0 h1 h2 => minUp_skip (u1 s h0 h2) (fun _ => by omega)) (fun s h0 h1 => u1 s (by omega) h1) u4
                    refine V.sub [1, 2, 0] rfl ?_
                    exact L73 _ 0 bf _ hm (Nat.lt_succ_self _) (by omega) (fun s h0 h1 => by rw [f1 s h0 (by omega)]; exact minUp_0) f2
                  · skip
                    refine r_aload_n S dX11_findWays_51 0 rfl ?_
                    refine m_get_best S hm gtX11_24_X11 dX11_findWays_52 ?_
                    refine r_sipush S dX11_findWays_55 (by decide) ?_
                    refine r_iload_n S dX11_findWays_58 1 rfl ?_
                    refine r_imul S dX11_findWays_59 ?_
                    refine r_iload_n S dX11_findWays_60 2 rfl ?_
                    refine r_iadd_e (3200 * p + x) (by omega) S dX11_findWays_61 ?_
                    refine r_ldc S 1000000 w924 (by decide) dX11_findWays_62 ?_
                    refine m_st_best S hb hM hm (by omega) (by omega) dX11_findWays_64 (fun G64 f64 ef64 hm64 => ?_)
                    refine r_iinc_e (L' := [(2, .int (iI (1 + x))), (0, .ref (A 0)), (1, .int (iI p))]) (1 + x) (by omega) S dX11_findWays_65 2 rfl (by decide) rfl ?_
                    refine r_goto S 44 dX11_findWays_68 (by decide) ?_
                    refine V.sub [1, 2, 0] rfl ?_
                    exact ih44 (1 + x) f64 _ hm64 (by omega) (by omega) (fun y h0 h1 => by rw [ef64]; by_cases e : y = x; subst e; rw [upI_s]; rw [upI_n (by omega)]; exact f1 y h0 (by omega)) (fun j hj => by rw [ef64, upI_n (by omega)]; exact f2 j hj)
              refine V.sub [1, 2, 0] rfl ?_
              exact L44 _ 0 bt _ hm (Nat.lt_succ_self _) (by omega) (fun y h0 h1 => absurd h1 (by omega)) (fun j _ => rfl)
        refine V.sub [1, 0] rfl ?_
        exact L38 _ 9 bi _ hm (Nat.lt_succ_self _) (by omega) (fun x h0 h1 => i0 x h0 (by omega)) (fun q h0 h1 => absurd h1 (by omega)) (fun j h0 h1 => by have := i0 (j - 32000) (by omega) (by omega); rw [show 32000 + (j - 32000) = j by omega] at this; rw [this]; split <;> omega)
      · skip
        have L28 : ∀ (b : Int), ∀ (G : gh), mS D A th ke km rd now kept reel part bi G →  True → (b = if s = 0 then 0 else 1000000) → V F 6 G 0 0 28 [(0, .ref (A 0)), (1, .int (iI s))] [.int (iI b), .int (iI (32000 + s)), .ref (A 5)] := by
          intro b G hm _ hbb
          refine m_st_best S hb hM hm (by omega) (by omega) dX11_findWays_28 (fun G28 f28 ef28 hm28 => ?_)
          refine r_iinc_e (L' := [(1, .int (iI (1 + s))), (0, .ref (A 0))]) (1 + s) (by omega) S dX11_findWays_29 1 rfl (by decide) rfl ?_
          refine r_goto S 2 dX11_findWays_32 (by decide) ?_
          refine V.sub [1, 0] rfl ?_
          exact ih2 (1 + s) f28 _ hm28 (by omega) (by omega) (fun x h0 h1 => by rw [ef28]; by_cases e : x = s; subst e; rw [upI_s]; exact hbb; rw [upI_n (by omega)]; exact i0 x h0 (by omega))
        refine r_aload_n S dX11_findWays_9 0 rfl ?_
        refine m_get_best S hm gtX11_24_X11 dX11_findWays_10 ?_
        refine r_sipush S dX11_findWays_13 (by decide) ?_
        refine r_iload_n S dX11_findWays_16 1 rfl ?_
        refine r_iadd S dX11_findWays_17 ?_
        refine r_iload_n S dX11_findWays_18 1 rfl ?_
        refine r_if_ne S 26 dX11_findWays_19 (by decide) (by omega) (fun c19 => ?_) (fun c19 => ?_)
        · skip
          refine r_ldc S 1000000 w924 (by decide) dX11_findWays_26 ?_
          refine V.sub [0, 1] rfl ?_
          exact L28 1000000 _ hm trivial (by first | rw [if_pos (by omega)] | rw [if_neg (by omega)])
        · skip
          refine r_iconst S dX11_findWays_22 ?_
          refine r_goto S 28 dX11_findWays_23 (by decide) ?_
          refine V.sub [0, 1] rfl ?_
          exact L28 0 _ hm trivial (by first | rw [if_pos (by omega)] | rw [if_neg (by omega)])
  refine V.sub [1, 0] rfl ?_
  exact L2 _ 0 best _ hm (Nat.lt_succ_self _) (by omega) (fun x h0 h1 => absurd h1 (by omega))

set_option maxRecDepth 20000 in
set_option maxHeartbeats 2000000 in
theorem kX11_leastSum {D : va_G} {A : Nat → Nat} {th ke km rd : Int} {now kept reel part best : Int → Int} {G : gh} (hm : mS D A th ke km rd now kept reel part best G) (hok : mOK now) {pr : Int} (hpr : 0 ≤ pr ∧ pr ≤ 2000) : CT ⟨"PostageCounterModel", "leastSum", "(I)I"⟩ prog_13_method_37_code 3 (some .int) 3 71 0 0 D [.ref (A 0), .int (iI pr)] G (mM A) (tI (fun z G' => ∃ best' : Int → Int, mS D A th ke km rd now kept reel part best' G' ∧ waysOK now best' ∧ isLeast best' pr z)) := by
  refine CT.enter (by decide +kernel) (Nat.le_of_ble_eq_true rfl) (fun F S ret hb hM hI => ?_)
  show V F 3 G 0 0 0 [(0, .ref (A 0)), (1, .int (iI pr))] []
  refine r_aload_n S dX11_leastSum_0 0 rfl ?_
  refine (c_V_T (As := []) (st := []) S (kX11_findWays hm hok) moX11_findWays ⟨by decide, by decide⟩ ⟨by omega, by omega⟩ rfl (Nat.le_of_ble_eq_true rfl) w920 w922 w30 hm.1 rfl rfl dX11_leastSum_1).goV S hb hM (fun G1 hx1 hc1 => ?_)
  obtain ⟨best1, hm1, hw1⟩ := hc1
  have hnn := waysOK_nn hok hw1
  refine r_iload_n S dX11_leastSum_4 1 rfl ?_
  refine r_istore_n (L' := [(2, .int (iI pr)), (0, .ref (A 0)), (1, .int (iI pr))]) S dX11_leastSum_5 (by decide) rfl ?_
  have L6 : ∀ (N : Nat) (s : Int), ∀ (G : gh), mS D A th ke km rd now kept reel part best1 G →  (3200 - s).toNat < N → (pr ≤ s ∧ s ≤ 3200) → (∀ x, pr ≤ x → x < s → 1000000 ≤ best1 x) → V F 3 G 0 0 6 [(0, .ref (A 0)), (2, .int (iI s))] [] := by
    intro N
    induction N with
    | zero => intro s G hm hN; exact absurd hN (Nat.not_lt_zero _)
    | succ N ih6 =>
      intro s G hm hN6 hs hf
      refine r_iload_n S dX11_leastSum_6 1 rfl ?_
      refine r_sipush S dX11_leastSum_7 (by decide) ?_
      refine r_icmp_ge S 32 dX11_leastSum_10 (by decide) (by omega) (by omega) (fun c10 => ?_) (fun c10 => ?_)
      · skip
        refine r_iconst S dX11_leastSum_32 ?_
        exact ret.ti (-1) dX11_leastSum_33 (by omega) (by omega) ⟨_, hm, hw1, Or.inr ⟨rfl, fun x h0 h1 => hf x h0 (by omega)⟩⟩
      · skip
        have hn13 := hnn s (by omega) (by omega)
        refine r_aload_n S dX11_leastSum_13 0 rfl ?_
        refine m_get_best S hm gtX11_24_X11 dX11_leastSum_14 ?_
        refine r_iload_n S dX11_leastSum_17 1 rfl ?_
        refine m_ld_best S hm (by omega) (by omega) dX11_leastSum_18 ?_
        refine r_ldc S 1000000 w924 (by decide) dX11_leastSum_19 ?_
        refine r_icmp_ge S 26 dX11_leastSum_21 (by decide) (by omega) (by omega) (fun c21 => ?_) (fun c21 => ?_)
        · skip
          refine r_iinc_e (L' := [(2, .int (iI (1 + s))), (0, .ref (A 0))]) (1 + s) (by omega) S dX11_leastSum_26 1 rfl (by decide) rfl ?_
          refine r_goto S 6 dX11_leastSum_29 (by decide) ?_
          refine V.sub [1, 0] rfl ?_
          exact ih6 (1 + s) _ hm (by omega) (by omega) (fun x h0 h1 => by rcases (show x < s ∨ x = s by omega) with q | q; exact hf x h0 q; subst q; omega)
        · skip
          refine r_iload_n S dX11_leastSum_24 1 rfl ?_
          exact ret.ti s dX11_leastSum_25 (by omega) (by omega) ⟨_, hm, hw1, Or.inl ⟨hs.1, by omega, by omega, hf⟩⟩
  refine V.sub [1, 0] rfl ?_
  exact L6 _ pr _ hm1 (Nat.lt_succ_self _) (by omega) (fun x h0 h1 => absurd h1 (by omega))

set_option maxRecDepth 20000 in
set_option maxHeartbeats 2000000 in
theorem kX11_fewest {D : va_G} {A : Nat → Nat} {km rd : Int} {now reel : Int → Int} {hist : Int → Int → Int} {G : gh} (hq : mQ D A now hist km rd reel G) (hok : mOK now) {sm : Int} (hsm : inR sm) : CT ⟨"PostageCounterModel", "fewest", "(I)I"⟩ prog_13_method_46_code 2 (some .int) 3 71 0 0 D [.ref (A 0), .int (iI sm)] G (mM A) (tI (fun z G' => sFewest now sm z ∧ mQ D A now hist km rd reel G')) := by
  refine CT.enter (by decide +kernel) (Nat.le_of_ble_eq_true rfl) (fun F S ret hb hM hI => ?_)
  show V F 2 G 0 0 0 [(0, .ref (A 0)), (1, .int (iI sm))] []
  obtain ⟨th, ke, kept, part, best, hm, hkp⟩ := hq
  refine r_aload_n S dX11_fewest_0 0 rfl ?_
  refine r_iconst S dX11_fewest_1 ?_
  refine m_put_th S hb hM hm ptX11_27_X11 dX11_fewest_2 (fun G2 hm2 => ?_)
  refine r_iload_n S dX11_fewest_5 1 rfl ?_
  refine r_iconst S dX11_fewest_6 ?_
  refine r_sipush S dX11_fewest_7 (by decide) ?_
  refine (c_S_P (As := [.int (iI sm), .int (iI 0), .int (iI 2500)]) (st := []) S (kX11_in (by omega) (by omega) (by omega)) moX11_in ⟨by decide, by decide⟩ ⟨by omega, by omega⟩ rfl (Nat.le_of_ble_eq_true rfl) w796 w797 rfl dX11_fewest_10).goI (fun r10 hc10 => ?_)
  refine r_if_ne S 19 dX11_fewest_13 (by decide) (by omega) (fun c13 => ?_) (fun c13 => ?_)
  · skip
    replace hc10 := zz1 hc10 c13
    refine r_aload_n S dX11_fewest_19 0 rfl ?_
    refine (c_V_T (As := []) (st := []) S (kX11_findWays hm2 hok) moX11_findWays ⟨by decide, by decide⟩ ⟨by omega, by omega⟩ rfl (Nat.le_of_ble_eq_true rfl) w920 w922 w30 hm2.1 rfl rfl dX11_fewest_20).goV S hb hM (fun G20 hx20 hc20 => ?_)
    obtain ⟨best20, hm20, hw20⟩ := hc20
    have hnn := waysOK_nn hok hw20
    have hn1 := hnn sm (by omega) (by omega)
    refine r_aload_n S dX11_fewest_23 0 rfl ?_
    refine m_get_best S hm20 gtX11_24_X11 dX11_fewest_24 ?_
    refine r_iload_n S dX11_fewest_27 1 rfl ?_
    refine m_ld_best S hm20 (by omega) (by omega) dX11_fewest_28 ?_
    refine r_ldc S 1000000 w924 (by decide) dX11_fewest_29 ?_
    refine r_icmp_ge S 43 dX11_fewest_31 (by decide) (by omega) (by omega) (fun c31 => ?_) (fun c31 => ?_)
    · skip
      refine r_iconst S dX11_fewest_43 ?_
      exact ret.ti (-1) dX11_fewest_44 (by omega) (by omega) ⟨Or.inr ⟨by omega, _, hw20, by omega⟩, ⟨_, _, _, _, _, hm20, hkp⟩⟩
    · skip
      refine r_aload_n S dX11_fewest_34 0 rfl ?_
      refine m_get_best S hm20 gtX11_24_X11 dX11_fewest_35 ?_
      refine r_iload_n S dX11_fewest_38 1 rfl ?_
      refine m_ld_best S hm20 (by omega) (by omega) dX11_fewest_39 ?_
      refine r_goto S 44 dX11_fewest_40 (by decide) ?_
      exact ret.ti (best20 sm) dX11_fewest_44 (by omega) (by omega) ⟨Or.inr ⟨by omega, _, hw20, by omega⟩, ⟨_, _, _, _, _, hm20, hkp⟩⟩
  · skip
    replace hc10 := zz0 hc10 c13
    refine r_bipush S dX11_fewest_16 (by decide) ?_
    exact ret.ti (-3) dX11_fewest_18 (by omega) (by omega) ⟨Or.inl ⟨by omega, rfl⟩, ⟨_, _, _, _, _, hm2, hkp⟩⟩

set_option maxRecDepth 20000 in
set_option maxHeartbeats 2000000 in
theorem kX11_least {D : va_G} {A : Nat → Nat} {km rd : Int} {now reel : Int → Int} {hist : Int → Int → Int} {G : gh} (hq : mQ D A now hist km rd reel G) (hok : mOK now) {pr : Int} (hpr : inR pr) : CT ⟨"PostageCounterModel", "least", "(I)I"⟩ prog_13_method_47_code 2 (some .int) 4 93 0 0 D [.ref (A 0), .int (iI pr)] G (mM A) (tI (fun z G' => sLeast now pr z ∧ mQ D A now hist km rd reel G')) := by
  refine CT.enter (by decide +kernel) (Nat.le_of_ble_eq_true rfl) (fun F S ret hb hM hI => ?_)
  show V F 2 G 0 0 0 [(0, .ref (A 0)), (1, .int (iI pr))] []
  obtain ⟨th, ke, kept, part, best, hm, hkp⟩ := hq
  refine r_aload_n S dX11_least_0 0 rfl ?_
  refine r_iconst S dX11_least_1 ?_
  refine m_put_th S hb hM hm ptX11_27_X11 dX11_least_2 (fun G2 hm2 => ?_)
  refine r_iload_n S dX11_least_5 1 rfl ?_
  refine r_iconst S dX11_least_6 ?_
  refine r_sipush S dX11_least_7 (by decide) ?_
  refine (c_S_P (As := [.int (iI pr), .int (iI 0), .int (iI 2000)]) (st := []) S (kX11_in (by omega) (by omega) (by omega)) moX11_in ⟨by decide, by decide⟩ ⟨by omega, by omega⟩ rfl (Nat.le_of_ble_eq_true rfl) w796 w797 rfl dX11_least_10).goI (fun r10 hc10 => ?_)
  refine r_if_eq S 24 dX11_least_13 (by decide) (by omega) (fun c13 => ?_) (fun c13 => ?_)
  · skip
    replace hc10 := zz0 hc10 c13
    refine r_bipush S dX11_least_24 (by decide) ?_
    exact ret.ti (-3) dX11_least_26 (by omega) (by omega) ⟨Or.inl ⟨by omega, rfl⟩, ⟨_, _, _, _, _, hm2, hkp⟩⟩
  · skip
    replace hc10 := zz1 hc10 c13
    refine r_aload_n S dX11_least_16 0 rfl ?_
    refine r_iload_n S dX11_least_17 1 rfl ?_
    refine (c_V_T (As := [.int (iI pr)]) (st := []) S (kX11_leastSum hm2 hok (by omega)) moX11_leastSum ⟨by decide, by decide⟩ ⟨by omega, by omega⟩ rfl (Nat.le_of_ble_eq_true rfl) w916 w918 w29 hm2.1 rfl rfl dX11_least_18).goI S hb hM (fun r18 G18 hx18 hc18 => ?_)
    obtain ⟨best18, hm18, hw18, hl18⟩ := hc18
    refine r_goto S 26 dX11_least_21 (by decide) ?_
    exact ret.ti r18 dX11_least_26 (by omega) (by omega) ⟨Or.inr ⟨by omega, _, hw18, hl18⟩, ⟨_, _, _, _, _, hm18, hkp⟩⟩
