set_option maxRecDepth 20000 in
set_option maxHeartbeats 2000000 in
theorem kX11_wipe {D : va_G} {A : Nat → Nat} {th ke km rd : Int} {now kept reel part best : Int → Int} {G : gh} (hm : mS D A th ke km rd now kept reel part best G) {fr r c : Int} (hr : 1 ≤ r ∧ r ≤ 8) (hc_ : 1 ≤ c ∧ c ≤ 8) (hfr : 0 ≤ fr ∧ fr < r * c) (hf1 : part fr = 1) (hpt : ∀ j, 0 ≤ j → j < r * c → part j = 0 ∨ part j = 1) : CT ⟨"PostageCounterModel", "wipe", "(III)V"⟩ prog_13_method_22_code 8 none 0 0 0 0 D [.ref (A 0), .int (iI fr), .int (iI r), .int (iI c)] G (mM A) (tV (fun G' => ∃ part' : Int → Int, mS D A th ke km rd now kept reel part' best G' ∧ (∀ j, 0 ≤ j → j < r * c → conn c (r * c) (fun x => part x = 1) fr j → part' j = 0) ∧ ∀ j, (0 ≤ j → j < r * c → ¬ conn c (r * c) (fun x => part x = 1) fr j) → part' j = part j)) := by
  refine CT.enter (by decide +kernel) (Nat.le_of_ble_eq_true rfl) (fun F S ret hb hM hI => ?_)
  show V F 8 G 0 0 0 [(0, .ref (A 0)), (1, .int (iI fr)), (2, .int (iI r)), (3, .int (iI c))] []
  have hrc := rc_bd hr.1 hr.2 hc_.1 hc_.2
  refine r_aload_n S dX11_wipe_0 0 rfl ?_
  refine m_get_part S hm gtX11_20_X11 dX11_wipe_1 ?_
  refine r_iload_n S dX11_wipe_4 1 rfl ?_
  refine r_iconst S dX11_wipe_5 ?_
  refine m_st_part S hb hM hm (by omega) (by omega) dX11_wipe_6 (fun G6 f6 ef6 hm6 => ?_)
  refine r_iconst S dX11_wipe_7 ?_
  refine r_istore (L' := [(4, .int (iI 1)), (0, .ref (A 0)), (1, .int (iI fr)), (2, .int (iI r)), (3, .int (iI c))]) S dX11_wipe_8 (by decide) rfl ?_
  have L10 : ∀ (N : Nat) (mo0 : Int) (g0 : Int → Int), ∀ (G : gh), mS D A th ke km rd now kept reel g0 best G →  (2 * ones g0 (r * c) + mo0).toNat < N → (mo0 = 0 ∨ mo0 = 1) → (∀ j, (0 ≤ j ∧ j < r * c → g0 j = part j ∨ (g0 j = -1 ∧ part j = 1)) ∧ (¬ (0 ≤ j ∧ j < r * c) → g0 j = part j)) → (∀ j, 0 ≤ j → j < r * c → g0 j = -1 → conn c (r * c) (fun x => part x = 1) fr j) → (g0 fr = -1) → (mo0 = 0 → ∀ x, 0 ≤ x → x < r * c → g0 x = 1 → ¬ nbS c (r * c) g0 x) → V F 8 G 0 0 10 [(0, .ref (A 0)), (1, .int (iI fr)), (2, .int (iI r)), (3, .int (iI c)), (4, .int (iI mo0))] [] := by
    intro N
    induction N with
    | zero => intro mo0 g0 G hm hN; exact absurd hN (Nat.not_lt_zero _)
    | succ N ih10 =>
      intro mo0 g0 G hm hN10 hmo j1 j2 j3 j4
      refine r_iload S dX11_wipe_10 4 rfl ?_
      refine r_if_eq S 164 dX11_wipe_12 (by decide) (by omega) (fun c12 => ?_) (fun c12 => ?_)
      · skip
        refine r_iconst S dX11_wipe_164 ?_
        refine r_istore (L' := [(5, .int (iI 0)), (0, .ref (A 0)), (1, .int (iI fr)), (2, .int (iI r)), (3, .int (iI c)), (4, .int (iI mo0))]) S dX11_wipe_165 (by decide) rfl ?_
        have L167 : ∀ (N : Nat) (k : Int) (h : Int → Int), ∀ (G : gh), mS D A th ke km rd now kept reel h best G →  (r * c - k).toNat < N → (0 ≤ k ∧ k ≤ r * c) → (∀ j, h j = if 0 ≤ j ∧ j < k then (if g0 j < 0 then 0 else g0 j) else g0 j) → V F 8 G 0 0 167 [(0, .ref (A 0)), (1, .int (iI fr)), (2, .int (iI r)), (3, .int (iI c)), (5, .int (iI k))] [] := by
          intro N
          induction N with
          | zero => intro k h G hm hN; exact absurd hN (Nat.not_lt_zero _)
          | succ N ih167 =>
            intro k h G hm hN167 hk2 h1_
            refine r_iload S dX11_wipe_167 4 rfl ?_
            refine r_iload_n S dX11_wipe_169 2 rfl ?_
            refine r_iload_n S dX11_wipe_170 3 rfl ?_
            refine r_imul S dX11_wipe_171 ?_
            refine r_icmp_ge S 209 dX11_wipe_172 (by decide) (by omega) (by omega) (fun c172 => ?_) (fun c172 => ?_)
            · skip
              exact ret.tv dX11_wipe_209 (by omega) (by omega) ⟨_, hm, fun j h0 h1 h2 => by rw [h1_ j, if_pos (by omega)]; have hz := wipe_closed hc_.1 hc_.2 hpt j1 j3 (j4 (by omega)) hfr j h0 h1 h2; rw [if_pos (by omega)], fun j hj => by rw [h1_ j]; by_cases e : 0 ≤ j ∧ j < k; rw [if_pos e]; have h1 := (j1 j).1 ⟨e.1, by omega⟩; have h2 := hpt j e.1 (by omega); rcases h1 with h1 | h1; rw [if_neg (by omega)]; exact h1; exact absurd (j2 j e.1 (by omega) h1.1) (hj e.1 (by omega)); rw [if_neg e]; exact (j1 j).2 (by omega)⟩
            · skip
              refine r_aload_n S dX11_wipe_175 0 rfl ?_
              refine m_get_part S hm gtX11_20_X11 dX11_wipe_176 ?_
              refine r_iload S dX11_wipe_179 4 rfl ?_
              refine r_aload_n S dX11_wipe_181 0 rfl ?_
              refine m_get_part S hm gtX11_20_X11 dX11_wipe_182 ?_
              refine r_iload S dX11_wipe_185 4 rfl ?_
              refine m_ld_part S hm (by omega) (by omega) dX11_wipe_187 ?_
              have hhk : h k = g0 k := by rw [h1_, if_neg (by omega)]
              have hg188 : -1 ≤ h k ∧ h k ≤ 1 := by rw [h1_, if_neg (by omega)]; have h1 := (j1 k).1 ⟨hk2.1, by omega⟩; have h2 := hpt k hk2.1 (by omega); omega
              refine r_if_ge S 195 dX11_wipe_188 (by decide) (by omega) (fun c188 => ?_) (fun c188 => ?_)
              · skip
                refine r_aload_n S dX11_wipe_195 0 rfl ?_
                refine m_get_part S hm gtX11_20_X11 dX11_wipe_196 ?_
                refine r_iload S dX11_wipe_199 4 rfl ?_
                refine m_ld_part S hm (by omega) (by omega) dX11_wipe_201 ?_
                refine m_st_part S hb hM hm (by omega) (by omega) dX11_wipe_202 (fun G202 f202 ef202 hm202 => ?_)
                refine r_iinc_e (L' := [(5, .int (iI (1 + k))), (0, .ref (A 0)), (1, .int (iI fr)), (2, .int (iI r)), (3, .int (iI c))]) (1 + k) (by omega) S dX11_wipe_203 4 rfl (by decide) rfl ?_
                refine r_goto S 167 dX11_wipe_206 (by decide) ?_
                refine V.sub [1, 2, 3, 4, 0] rfl ?_
                exact ih167 (1 + k) f202 _ hm202 (by omega) (by omega) (fun j => by rw [ef202]; by_cases e : j = k; rw [e, upI_s, if_pos (show 0 ≤ k ∧ k < 1 + k by omega)]; (first | rw [if_pos (by omega)] | (rw [if_neg (by omega)]; exact hhk)); rw [upI_n e, h1_ j]; by_cases e2 : 0 ≤ j ∧ j < k; rw [if_pos e2, if_pos (show 0 ≤ j ∧ j < 1 + k by omega)]; rw [if_neg e2, if_neg (show ¬ (0 ≤ j ∧ j < 1 + k) by omega)])
              · skip
                refine r_iconst S dX11_wipe_191 ?_
                refine r_goto S 202 dX11_wipe_192 (by decide) ?_
                refine m_st_part S hb hM hm (by omega) (by omega) dX11_wipe_202 (fun G202 f202 ef202 hm202 => ?_)
                refine r_iinc_e (L' := [(5, .int (iI (1 + k))), (0, .ref (A 0)), (1, .int (iI fr)), (2, .int (iI r)), (3, .int (iI c))]) (1 + k) (by omega) S dX11_wipe_203 4 rfl (by decide) rfl ?_
                refine r_goto S 167 dX11_wipe_206 (by decide) ?_
                refine V.sub [1, 2, 3, 4, 0] rfl ?_
                exact ih167 (1 + k) f202 _ hm202 (by omega) (by omega) (fun j => by rw [ef202]; by_cases e : j = k; rw [e, upI_s, if_pos (show 0 ≤ k ∧ k < 1 + k by omega)]; (first | rw [if_pos (by omega)] | (rw [if_neg (by omega)]; exact hhk)); rw [upI_n e, h1_ j]; by_cases e2 : 0 ≤ j ∧ j < k; rw [if_pos e2, if_pos (show 0 ≤ j ∧ j < 1 + k by omega)]; rw [if_neg e2, if_neg (show ¬ (0 ≤ j ∧ j < 1 + k) by omega)])
        refine V.sub [1, 2, 3, 4, 0] rfl ?_
        exact L167 _ 0 g0 _ hm (Nat.lt_succ_self _) (by omega) (fun j => by rw [if_neg (by omega)])
      · skip
        refine r_iconst S dX11_wipe_15 ?_
        refine r_istore (L' := [(4, .int (iI 0)), (0, .ref (A 0)), (1, .int (iI fr)), (2, .int (iI r)), (3, .int (iI c))]) S dX11_wipe_16 (by decide) rfl ?_
        refine r_iconst S dX11_wipe_18 ?_
        refine r_istore (L' := [(5, .int (iI 0)), (4, .int (iI 0)), (0, .ref (A 0)), (1, .int (iI fr)), (2, .int (iI r)), (3, .int (iI c))]) S dX11_wipe_19 (by decide) rfl ?_
        have L21 : ∀ (N : Nat) (mo : Int) (k : Int) (g : Int → Int), ∀ (G : gh), mS D A th ke km rd now kept reel g best G →  (r * c - k).toNat < N → (mo = 0 ∨ mo = 1) → (0 ≤ k ∧ k ≤ r * c) → (∀ j, (0 ≤ j ∧ j < r * c → g j = part j ∨ (g j = -1 ∧ part j = 1)) ∧ (¬ (0 ≤ j ∧ j < r * c) → g j = part j)) → (∀ j, 0 ≤ j → j < r * c → g j = -1 → conn c (r * c) (fun x => part x = 1) fr j) → (g fr = -1) → (mo = 0 → ∀ x, 0 ≤ x → x < k → g x = 1 → ¬ nbS c (r * c) g x) → (ones g (r * c) + mo ≤ ones g0 (r * c)) → V F 8 G 0 0 21 [(0, .ref (A 0)), (1, .int (iI fr)), (2, .int (iI r)), (3, .int (iI c)), (4, .int (iI mo)), (5, .int (iI k))] [] := by
          intro N
          induction N with
          | zero => intro mo k g G hm hN; exact absurd hN (Nat.not_lt_zero _)
          | succ N ih21 =>
            intro mo k g G hm hN21 hmo1 hk j1 j2 j3 j5 j6
            refine r_iload S dX11_wipe_21 5 rfl ?_
            refine r_iload_n S dX11_wipe_23 2 rfl ?_
            refine r_iload_n S dX11_wipe_24 3 rfl ?_
            refine r_imul S dX11_wipe_25 ?_
            refine r_icmp_ge S 161 dX11_wipe_26 (by decide) (by omega) (by omega) (fun c26 => ?_) (fun c26 => ?_)
            · skip
              refine r_goto S 10 dX11_wipe_161 (by decide) ?_
              refine V.sub [0, 1, 2, 3, 4] rfl ?_
              exact ih10 mo g _ hm (by have := ones_nn g (r * c); omega) (by omega) j1 j2 j3 (fun q x x0 x1 => j5 q x x0 (by omega))
            · skip
              have hmd := md_c hc_.1 hc_.2 hk.1 (by omega : k < r * c)
              have hg : ∀ y, 0 ≤ y → y < r * c → -1 ≤ g y ∧ g y ≤ 1 := fun y y0 y1 => by have h1 := (j1 y).1 ⟨y0, y1⟩; have h2 := hpt y y0 y1; omega
              have L75 : ∀ (b : Int), ∀ (G : gh), mS D A th ke km rd now kept reel g best G →  True → ((b = 1 ∧ ((0 < k % c ∧ g (k - 1) < 0) ∨ (k % c < c - 1 ∧ g (1 + k) < 0))) ∨ (b = 0 ∧ ¬ ((0 < k % c ∧ g (k - 1) < 0) ∨ (k % c < c - 1 ∧ g (1 + k) < 0)))) → V F 8 G 0 0 75 [(0, .ref (A 0)), (1, .int (iI fr)), (2, .int (iI r)), (3, .int (iI c)), (4, .int (iI mo)), (5, .int (iI k))] [.int (iI b)] := by
                intro b G hm _ hbb
                refine r_istore (L' := [(6, .int (iI b)), (0, .ref (A 0)), (1, .int (iI fr)), (2, .int (iI r)), (3, .int (iI c)), (4, .int (iI mo)), (5, .int (iI k))]) S dX11_wipe_75 (by decide) rfl ?_
                have L122 : ∀ (b2 : Int), ∀ (G : gh), mS D A th ke km rd now kept reel g best G →  True → ((b2 = 1 ∧ ((c ≤ k ∧ g (k - c) < 0) ∨ (c + k < r * c ∧ g (c + k) < 0))) ∨ (b2 = 0 ∧ ¬ ((c ≤ k ∧ g (k - c) < 0) ∨ (c + k < r * c ∧ g (c + k) < 0)))) → V F 8 G 0 0 122 [(0, .ref (A 0)), (1, .int (iI fr)), (2, .int (iI r)), (3, .int (iI c)), (4, .int (iI mo)), (5, .int (iI k)), (6, .int (iI b))] [.int (iI b2)] := by
                  intro b2 G hm _ hbb2
                  refine r_istore (L' := [(7, .int (iI b2)), (0, .ref (A 0)), (1, .int (iI fr)), (2, .int (iI r)), (3, .int (iI c)), (4, .int (iI mo)), (5, .int (iI k)), (6, .int (iI b))]) S dX11_wipe_122 (by decide) rfl ?_
                  have L155 : ∀ (mo2 : Int) (g1 : Int → Int), ∀ (G : gh), mS D A th ke km rd now kept reel g1 best G →  True → ((mo2 = mo ∧ g1 = g ∧ (g k = 1 → ¬ nbS c (r * c) g k)) ∨ (mo2 = 1 ∧ g1 = upI g k (-1) ∧ g k = 1 ∧ nbS c (r * c) g k)) → V F 8 G 0 0 155 [(0, .ref (A 0)), (1, .int (iI fr)), (2, .int (iI r)), (3, .int (iI c)), (4, .int (iI mo2)), (5, .int (iI k))] [] := by
                    intro mo2 g1 G hm _ hm2
                    refine r_iinc_e (L' := [(5, .int (iI (1 + k))), (0, .ref (A 0)), (1, .int (iI fr)), (2, .int (iI r)), (3, .int (iI c)), (4, .int (iI mo2))]) (1 + k) (by omega) S dX11_wipe_155 5 rfl (by decide) rfl ?_
                    refine r_goto S 21 dX11_wipe_158 (by decide) ?_
                    refine V.sub [1, 2, 3, 4, 5, 0] rfl ?_
                    exact ih21 mo2 (1 + k) g1 _ hm (by omega) (by omega) (by omega) (fun j => by rcases hm2 with ⟨-, e, -⟩ | ⟨-, e, e1, -⟩; rw [e]; exact j1 j; rw [e]; by_cases e2 : j = k; subst e2; rw [upI_s]; exact ⟨fun q => Or.inr ⟨rfl, by have := (j1 j).1 q; omega⟩, fun q => absurd ⟨hk.1, by omega⟩ q⟩; rw [upI_n e2]; exact j1 j) (fun j h0 h1 h2 => by rcases hm2 with ⟨-, e, -⟩ | ⟨-, e, e1, e3⟩; rw [e] at h2; exact j2 j h0 h1 h2; rw [e] at h2; by_cases e2 : j = k; subst e2; obtain ⟨x, hx, hx2⟩ := nbS_ex e3; have hs := nbr_sym hc_.1 hc_.2 h0 h1 hx; have hgx := hg x hs.2.1 hs.2.2; exact conn_step (j2 x hs.2.1 hs.2.2 (by omega)) h0 h1 (by have := (j1 j).1 ⟨h0, h1⟩; show part j = 1; omega) hs.1; rw [upI_n e2] at h2; exact j2 j h0 h1 h2) (by rcases hm2 with ⟨-, e, -⟩ | ⟨-, e, e1, -⟩; rw [e]; exact j3; rw [e]; by_cases e2 : fr = k; rw [e2, upI_s]; rw [upI_n e2]; exact j3) (fun q x x0 x1 => by rcases hm2 with ⟨e0, e, e1⟩ | ⟨e0, e, e1, -⟩; rw [e]; rcases (show x < k ∨ x = k by omega) with e2 | e2; exact j5 (by omega) x x0 e2; rw [e2]; exact e1; omega) (by rcases hm2 with ⟨e0, e, e1⟩ | ⟨e0, e, e1, -⟩; rw [e]; omega; rw [e, ones_upd hk.1 (by omega) e1]; omega)
                  refine r_aload_n S dX11_wipe_124 1 rfl ?_
                  refine m_get_part S hm gtX11_20_X11 dX11_wipe_125 ?_
                  refine r_iload S dX11_wipe_128 6 rfl ?_
                  refine m_ld_part S hm (by omega) (by omega) dX11_wipe_130 ?_
                  have hg131 := hg k (by omega) (by omega)
                  refine r_if_le S 155 dX11_wipe_131 (by decide) (by omega) (fun c131 => ?_) (fun c131 => ?_)
                  · skip
                    refine V.sub [1, 2, 3, 4, 5, 6] rfl ?_
                    exact L155 mo g _ hm trivial (Or.inl ⟨rfl, rfl, fun q => by unfold nbS; omega⟩)
                  · skip
                    refine r_iload S dX11_wipe_134 7 rfl ?_
                    refine r_if_ne S 144 dX11_wipe_136 (by decide) (by omega) (fun c136 => ?_) (fun c136 => ?_)
                    · skip
                      refine r_aload_n S dX11_wipe_144 1 rfl ?_
                      refine m_get_part S hm gtX11_20_X11 dX11_wipe_145 ?_
                      refine r_iload S dX11_wipe_148 6 rfl ?_
                      refine r_iconst S dX11_wipe_150 ?_
                      refine m_st_part S hb hM hm (by omega) (by omega) dX11_wipe_151 (fun G151 f151 ef151 hm151 => ?_)
                      refine r_iconst S dX11_wipe_152 ?_
                      refine r_istore (L' := [(4, .int (iI 1)), (7, .int (iI b2)), (0, .ref (A 0)), (1, .int (iI fr)), (2, .int (iI r)), (3, .int (iI c)), (5, .int (iI k)), (6, .int (iI b))]) S dX11_wipe_153 (by decide) rfl ?_
                      refine V.sub [2, 3, 4, 5, 0, 6] rfl ?_
                      exact L155 1 f151 _ hm151 trivial (Or.inr ⟨rfl, ef151, by omega, by unfold nbS; omega⟩)
                    · skip
                      refine r_iload S dX11_wipe_139 0 rfl ?_
                      refine r_if_eq S 155 dX11_wipe_141 (by decide) (by omega) (fun c141 => ?_) (fun c141 => ?_)
                      · skip
                        refine V.sub [1, 2, 3, 4, 5, 6] rfl ?_
                        exact L155 mo g _ hm trivial (Or.inl ⟨rfl, rfl, fun q => by unfold nbS; omega⟩)
                      · skip
                        refine r_aload_n S dX11_wipe_144 1 rfl ?_
                        refine m_get_part S hm gtX11_20_X11 dX11_wipe_145 ?_
                        refine r_iload S dX11_wipe_148 6 rfl ?_
                        refine r_iconst S dX11_wipe_150 ?_
                        refine m_st_part S hb hM hm (by omega) (by omega) dX11_wipe_151 (fun G151 f151 ef151 hm151 => ?_)
                        refine r_iconst S dX11_wipe_152 ?_
                        refine r_istore (L' := [(4, .int (iI 1)), (7, .int (iI b2)), (0, .ref (A 0)), (1, .int (iI fr)), (2, .int (iI r)), (3, .int (iI c)), (5, .int (iI k)), (6, .int (iI b))]) S dX11_wipe_153 (by decide) rfl ?_
                        refine V.sub [2, 3, 4, 5, 0, 6] rfl ?_
                        exact L155 1 f151 _ hm151 trivial (Or.inr ⟨rfl, ef151, by omega, by unfold nbS; omega⟩)
                refine r_iload S dX11_wipe_77 6 rfl ?_
                refine r_iload_n S dX11_wipe_79 4 rfl ?_
                refine r_icmp_lt S 95 dX11_wipe_80 (by decide) (by omega) (by omega) (fun c80 => ?_) (fun c80 => ?_)
                · skip
                  refine r_iload S dX11_wipe_95 6 rfl ?_
                  refine r_iload_n S dX11_wipe_97 4 rfl ?_
                  refine r_iadd_e (c + k) (by omega) S dX11_wipe_98 ?_
                  refine r_iload_n S dX11_wipe_99 3 rfl ?_
                  refine r_iload_n S dX11_wipe_100 4 rfl ?_
                  refine r_imul S dX11_wipe_101 ?_
                  refine r_icmp_ge S 121 dX11_wipe_102 (by decide) (by omega) (by omega) (fun c102 => ?_) (fun c102 => ?_)
                  · skip
                    refine r_iconst S dX11_wipe_121 ?_
                    refine V.sub [1, 2, 3, 4, 5, 6, 0] rfl ?_
                    exact L122 0 _ hm trivial (by omega)
                  · skip
                    refine r_aload_n S dX11_wipe_105 1 rfl ?_
                    refine m_get_part S hm gtX11_20_X11 dX11_wipe_106 ?_
                    refine r_iload S dX11_wipe_109 6 rfl ?_
                    refine r_iload_n S dX11_wipe_111 4 rfl ?_
                    refine r_iadd_e (c + k) (by omega) S dX11_wipe_112 ?_
                    refine m_ld_part S hm (by omega) (by omega) dX11_wipe_113 ?_
                    have hg114 := hg (c + k) (by omega) (by omega)
                    refine r_if_ge S 121 dX11_wipe_114 (by decide) (by omega) (fun c114 => ?_) (fun c114 => ?_)
                    · skip
                      refine r_iconst S dX11_wipe_121 ?_
                      refine V.sub [1, 2, 3, 4, 5, 6, 0] rfl ?_
                      exact L122 0 _ hm trivial (by omega)
                    · skip
                      refine r_iconst S dX11_wipe_117 ?_
                      refine r_goto S 122 dX11_wipe_118 (by decide) ?_
                      refine V.sub [1, 2, 3, 4, 5, 6, 0] rfl ?_
                      exact L122 1 _ hm trivial (by omega)
                · skip
                  refine r_aload_n S dX11_wipe_83 1 rfl ?_
                  refine m_get_part S hm gtX11_20_X11 dX11_wipe_84 ?_
                  refine r_iload S dX11_wipe_87 6 rfl ?_
                  refine r_iload_n S dX11_wipe_89 4 rfl ?_
                  refine r_isub S dX11_wipe_90 ?_
                  refine m_ld_part S hm (by omega) (by omega) dX11_wipe_91 ?_
                  have hg92 := hg (k - c) (by omega) (by omega)
                  refine r_if_lt S 117 dX11_wipe_92 (by decide) (by omega) (fun c92 => ?_) (fun c92 => ?_)
                  · skip
                    refine r_iconst S dX11_wipe_117 ?_
                    refine r_goto S 122 dX11_wipe_118 (by decide) ?_
                    refine V.sub [1, 2, 3, 4, 5, 6, 0] rfl ?_
                    exact L122 1 _ hm trivial (by omega)
                  · skip
                    refine r_iload S dX11_wipe_95 6 rfl ?_
                    refine r_iload_n S dX11_wipe_97 4 rfl ?_
                    refine r_iadd_e (c + k) (by omega) S dX11_wipe_98 ?_
                    refine r_iload_n S dX11_wipe_99 3 rfl ?_
                    refine r_iload_n S dX11_wipe_100 4 rfl ?_
                    refine r_imul S dX11_wipe_101 ?_
                    refine r_icmp_ge S 121 dX11_wipe_102 (by decide) (by omega) (by omega) (fun c102 => ?_) (fun c102 => ?_)
                    · skip
                      refine r_iconst S dX11_wipe_121 ?_
                      refine V.sub [1, 2, 3, 4, 5, 6, 0] rfl ?_
                      exact L122 0 _ hm trivial (by omega)
                    · skip
                      refine r_aload_n S dX11_wipe_105 1 rfl ?_
                      refine m_get_part S hm gtX11_20_X11 dX11_wipe_106 ?_
                      refine r_iload S dX11_wipe_109 6 rfl ?_
                      refine r_iload_n S dX11_wipe_111 4 rfl ?_
                      refine r_iadd_e (c + k) (by omega) S dX11_wipe_112 ?_
                      refine m_ld_part S hm (by omega) (by omega) dX11_wipe_113 ?_
                      have hg114 := hg (c + k) (by omega) (by omega)
                      refine r_if_ge S 121 dX11_wipe_114 (by decide) (by omega) (fun c114 => ?_) (fun c114 => ?_)
                      · skip
                        refine r_iconst S dX11_wipe_121 ?_
                        refine V.sub [1, 2, 3, 4, 5, 6, 0] rfl ?_
                        exact L122 0 _ hm trivial (by omega)
                      · skip
                        refine r_iconst S dX11_wipe_117 ?_
                        refine r_goto S 122 dX11_wipe_118 (by decide) ?_
                        refine V.sub [1, 2, 3, 4, 5, 6, 0] rfl ?_
                        exact L122 1 _ hm trivial (by omega)
              refine r_iload S dX11_wipe_29 5 rfl ?_
              refine r_iload_n S dX11_wipe_31 3 rfl ?_
              refine r_irem S dX11_wipe_32 (by omega) (by omega) ?_
              refine r_if_le S 48 dX11_wipe_33 (by decide) (by omega) (fun c33 => ?_) (fun c33 => ?_)
              · skip
                refine r_iload S dX11_wipe_48 5 rfl ?_
                refine r_iload_n S dX11_wipe_50 3 rfl ?_
                refine r_irem S dX11_wipe_51 (by omega) (by omega) ?_
                refine r_iload_n S dX11_wipe_52 3 rfl ?_
                refine r_iconst S dX11_wipe_53 ?_
                refine r_isub S dX11_wipe_54 ?_
                refine r_icmp_ge S 74 dX11_wipe_55 (by decide) (by omega) (by omega) (fun c55 => ?_) (fun c55 => ?_)
                · skip
                  refine r_iconst S dX11_wipe_74 ?_
                  refine V.sub [0, 1, 2, 3, 4, 5] rfl ?_
                  exact L75 0 _ hm trivial (by omega)
                · skip
                  refine r_aload_n S dX11_wipe_58 0 rfl ?_
                  refine m_get_part S hm gtX11_20_X11 dX11_wipe_59 ?_
                  refine r_iload S dX11_wipe_62 5 rfl ?_
                  refine r_iconst S dX11_wipe_64 ?_
                  refine r_iadd_e (1 + k) (by omega) S dX11_wipe_65 ?_
                  refine m_ld_part S hm (by omega) (by omega) dX11_wipe_66 ?_
                  have hg67 := hg (1 + k) (by omega) (by omega)
                  refine r_if_ge S 74 dX11_wipe_67 (by decide) (by omega) (fun c67 => ?_) (fun c67 => ?_)
                  · skip
                    refine r_iconst S dX11_wipe_74 ?_
                    refine V.sub [0, 1, 2, 3, 4, 5] rfl ?_
                    exact L75 0 _ hm trivial (by omega)
                  · skip
                    refine r_iconst S dX11_wipe_70 ?_
                    refine r_goto S 75 dX11_wipe_71 (by decide) ?_
                    refine V.sub [0, 1, 2, 3, 4, 5] rfl ?_
                    exact L75 1 _ hm trivial (by omega)
              · skip
                refine r_aload_n S dX11_wipe_36 0 rfl ?_
                refine m_get_part S hm gtX11_20_X11 dX11_wipe_37 ?_
                refine r_iload S dX11_wipe_40 5 rfl ?_
                refine r_iconst S dX11_wipe_42 ?_
                refine r_isub S dX11_wipe_43 ?_
                refine m_ld_part S hm (by omega) (by omega) dX11_wipe_44 ?_
                have hg45 := hg (k - 1) (by omega) (by omega)
                refine r_if_lt S 70 dX11_wipe_45 (by decide) (by omega) (fun c45 => ?_) (fun c45 => ?_)
                · skip
                  refine r_iconst S dX11_wipe_70 ?_
                  refine r_goto S 75 dX11_wipe_71 (by decide) ?_
                  refine V.sub [0, 1, 2, 3, 4, 5] rfl ?_
                  exact L75 1 _ hm trivial (by omega)
                · skip
                  refine r_iload S dX11_wipe_48 5 rfl ?_
                  refine r_iload_n S dX11_wipe_50 3 rfl ?_
                  refine r_irem S dX11_wipe_51 (by omega) (by omega) ?_
                  refine r_iload_n S dX11_wipe_52 3 rfl ?_
                  refine r_iconst S dX11_wipe_53 ?_
                  refine r_isub S dX11_wipe_54 ?_
                  refine r_icmp_ge S 74 dX11_wipe_55 (by decide) (by omega) (by omega) (fun c55 => ?_) (fun c55 => ?_)
                  · skip
                    refine r_iconst S dX11_wipe_74 ?_
                    refine V.sub [0, 1, 2, 3, 4, 5] rfl ?_
                    exact L75 0 _ hm trivial (by omega)
                  · skip
                    refine r_aload_n S dX11_wipe_58 0 rfl ?_
                    refine m_get_part S hm gtX11_20_X11 dX11_wipe_59 ?_
                    refine r_iload S dX11_wipe_62 5 rfl ?_
                    refine r_iconst S dX11_wipe_64 ?_
                    refine r_iadd_e (1 + k) (by omega) S dX11_wipe_65 ?_
                    refine m_ld_part S hm (by omega) (by omega) dX11_wipe_66 ?_
                    have hg67 := hg (1 + k) (by omega) (by omega)
                    refine r_if_ge S 74 dX11_wipe_67 (by decide) (by omega) (fun c67 => ?_) (fun c67 => ?_)
                    · skip
                      refine r_iconst S dX11_wipe_74 ?_
                      refine V.sub [0, 1, 2, 3, 4, 5] rfl ?_
                      exact L75 0 _ hm trivial (by omega)
                    · skip
                      refine r_iconst S dX11_wipe_70 ?_
                      refine r_goto S 75 dX11_wipe_71 (by decide) ?_
                      refine V.sub [0, 1, 2, 3, 4, 5] rfl ?_
                      exact L75 1 _ hm trivial (by omega)
        refine V.sub [2, 3, 4, 5, 1, 0] rfl ?_
        exact L21 _ 0 0 g0 _ hm (Nat.lt_succ_self _) (by omega) (by omega) j1 j2 j3 (fun _ x x0 x1 => absurd x1 (by omega)) (by omega)
  refine V.sub [1, 2, 3, 4, 0] rfl ?_
  exact L10 _ 1 f6 _ hm6 (Nat.lt_succ_self _) (by omega) (fun j => by rw [ef6]; by_cases e : j = fr; subst e; rw [upI_s]; exact ⟨fun _ => Or.inr ⟨rfl, hf1⟩, fun q => absurd hfr q⟩; rw [upI_n e]; exact ⟨fun _ => Or.inl rfl, fun _ => rfl⟩) (fun j h0 h1 h2 => by rw [ef6] at h2; by_cases e : j = fr; rw [e]; exact conn_rf; rw [upI_n e] at h2; have := hpt j h0 h1; omega) (by rw [ef6, upI_s]) (fun q => absurd q (by decide))
