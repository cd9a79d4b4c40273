set_option maxRecDepth 20000 in
set_option maxHeartbeats 2000000 in
theorem kX1_reckon {D : va_G} {B : Nat → Nat} {row : Int → Int → Int} {most : Int} {G : gh} (hcc : cC D B row most G) {N0 : Nat → Prop} {now : Int → Int} {pl : Nat} (hok : mOK now) (hcN : ∀ b, cR B b → N0 b) (hpl : plA D N0 G now pl) {hi : Int} (hhi : 0 ≤ hi ∧ hi ≤ 2999) : CT ⟨"PostageCounter$Choices", "reckon", "([LPostageCounter$Plain;I)V"⟩ prog_3_method_2_code 8 none 3 68 0 0 D [.ref (B 1), .ref pl, .int (iI hi)] G (cR B) (tV (fun G' => ∃ rw : Int → Int → Int, cC D B rw hi G' ∧ waysC now rw hi)) := by
  refine CT.enter (by decide +kernel) (Nat.le_of_ble_eq_true rfl) (fun F S ret hb hM hI => ?_)
  show V F 8 G 0 0 0 [(0, .ref (B 1)), (1, .ref pl), (2, .int (iI hi))] []
  obtain ⟨pf, hpa, hpf⟩ := hpl
  refine r_aload_n S dX1_reckon_0 0 rfl ?_
  refine r_iconst S dX1_reckon_1 ?_
  refine r_iload_n S dX1_reckon_2 2 rfl ?_
  refine r_sipush S dX1_reckon_3 (by decide) ?_
  refine r_mmin w532 w87 w41 w88 (by decide) (Nat.le_of_ble_eq_true rfl) ⟨by omega, by omega⟩ (by omega) (by omega) S dX1_reckon_6 ?_
  rw [show min hi 2999 = hi by omega]
  refine r_mmax w533 w406 w41 w407 (by decide) (Nat.le_of_ble_eq_true rfl) ⟨by omega, by omega⟩ (by omega) (by omega) S dX1_reckon_9 ?_
  rw [show max 0 hi = hi by omega]
  refine c_pmost S hb hM hcc ptX1_16_X1 dX1_reckon_12 (fun G12 hx12 hcc12 => ?_)
  have hxc12 := hx12
  refine r_aload_n S dX1_reckon_15 0 rfl ?_
  refine c_rows S hcc12 gtX1_13_X1 dX1_reckon_16 ?_
  refine r_bipush S dX1_reckon_19 (by decide) ?_
  refine c_aald S hcc12 ⟨by omega, by omega⟩ dX1_reckon_21 ?_
  refine r_astore_n (L' := [(3, .ref (B (rB 10))), (0, .ref (B 1)), (1, .ref pl), (2, .int (iI hi))]) S dX1_reckon_22 (by decide) rfl ?_
  refine r_iconst S dX1_reckon_23 ?_
  refine r_istore (L' := [(4, .int (iI 1)), (3, .ref (B (rB 10))), (0, .ref (B 1)), (1, .ref pl), (2, .int (iI hi))]) S dX1_reckon_24 (by decide) rfl ?_
  have L26 : ∀ (N : Nat) (Gk : gh) (f : Int → Int) (k : Int), (1 + hi - k).toNat < N → (gExt G Gk (cR B)) → (cC D B (upI row 10 f) hi Gk) → (1 ≤ k) → (∀ s : Int, 1 ≤ s → s < k → f s = 1000000) → (k ≤ 1 + hi ∨ k = 1) → V F 8 Gk 0 0 26 [(0, .ref (B 1)), (1, .ref pl), (3, .ref (B (rB 10))), (4, .int (iI k))] [] := by
    intro N
    induction N with
    | zero => intro Gk f k hN; exact absurd hN (Nat.not_lt_zero _)
    | succ N ih26 =>
      intro Gk f k hN26 hxk hck hk hf hk2
      refine r_iload S dX1_reckon_26 3 rfl ?_
      refine r_aload_n S dX1_reckon_28 0 rfl ?_
      refine c_most S hck gtX1_16_X1 dX1_reckon_29 ?_
      refine r_icmp_gt S 47 dX1_reckon_32 (by decide) (by omega) (by omega) (fun c32 => ?_) (fun c32 => ?_)
      · skip
        refine r_aload_n S dX1_reckon_47 2 rfl ?_
        refine r_iconst S dX1_reckon_48 ?_
        refine r_iconst S dX1_reckon_49 ?_
        refine c_st S hb hM hck ⟨by omega, by omega⟩ ⟨by omega, by omega⟩ dX1_reckon_50 (fun G50 hx50 hcc50 => ?_)
        have hxc50 := hxk.tr2 hx50
        refine r_bipush S dX1_reckon_51 (by decide) ?_
        replace hf : ∀ s : Int, 1 ≤ s → s ≤ hi → f s = 1000000 := fun s s0 s1 => hf s s0 (by omega)
        rw [upI_s, upI_up] at hcc50
        refine r_istore (L' := [(4, .int (iI 9)), (0, .ref (B 1)), (1, .ref pl), (3, .ref (B (rB 10)))]) S dX1_reckon_53 (by decide) rfl ?_
        have L55 : ∀ (N : Nat) (Gk : gh) (rw0 : Int → Int → Int) (p : Int), (1 + p).toNat < N → (gExt G Gk (cR B)) → (cC D B rw0 hi Gk) → (-1 ≤ p ∧ p ≤ 9) → (∀ s : Int, 0 ≤ s → s ≤ hi → rw0 10 s = if s = 0 then 0 else 1000000) → (∀ q : Int, p < q → q < 10 → ∀ s : Int, 0 ≤ s → s ≤ hi → minUp now q (1 + now (10 + q)) (rw0 (1 + q)) s (rw0 q s)) → (∀ q s : Int, p < q → q ≤ 10 → 0 ≤ s → s ≤ hi → 0 ≤ rw0 q s ∧ rw0 q s ≤ 1000000) → V F 8 Gk 0 0 55 [(0, .ref (B 1)), (1, .ref pl), (3, .ref (B (rB 10))), (4, .int (iI p))] [] := by
          intro N
          induction N with
          | zero => intro Gk rw0 p hN; exact absurd hN (Nat.not_lt_zero _)
          | succ N ih55 =>
            intro Gk rw0 p hN55 hxk hck hp h10 hq hbd
            refine r_iload S dX1_reckon_55 3 rfl ?_
            refine r_if_lt S 157 dX1_reckon_57 (by decide) (by omega) (fun c57 => ?_) (fun c57 => ?_)
            · skip
              exact ret.tv dX1_reckon_157 (by omega) (by omega) ⟨rw0, hck, h10, fun q q0 q1 s s0 s1 => hq q (by omega) q1 s s0 s1⟩
            · skip
              refine r_aload_n S dX1_reckon_60 0 rfl ?_
              refine c_rows S hck gtX1_13_X1 dX1_reckon_61 ?_
              refine r_iload S dX1_reckon_64 3 rfl ?_
              refine r_iconst S dX1_reckon_66 ?_
              refine r_iadd_e (1 + p) (by omega) S dX1_reckon_67 ?_
              refine c_aald S hck ⟨by omega, by omega⟩ dX1_reckon_68 ?_
              refine r_astore (L' := [(5, .ref (B (rB (1 + p)))), (0, .ref (B 1)), (1, .ref pl), (3, .ref (B (rB 10))), (4, .int (iI p))]) S dX1_reckon_69 (by decide) rfl ?_
              refine r_aload_n S dX1_reckon_71 1 rfl ?_
              refine c_rows S hck gtX1_13_X1 dX1_reckon_72 ?_
              refine r_iload S dX1_reckon_75 4 rfl ?_
              refine c_aald S hck ⟨by omega, by omega⟩ dX1_reckon_77 ?_
              refine r_astore (L' := [(6, .ref (B (rB p))), (5, .ref (B (rB (1 + p)))), (0, .ref (B 1)), (1, .ref pl), (3, .ref (B (rB 10))), (4, .int (iI p))]) S dX1_reckon_78 (by decide) rfl ?_
              refine r_iconst S dX1_reckon_80 ?_
              refine r_istore (L' := [(7, .int (iI 0)), (6, .ref (B (rB p))), (5, .ref (B (rB (1 + p)))), (0, .ref (B 1)), (1, .ref pl), (3, .ref (B (rB 10))), (4, .int (iI p))]) S dX1_reckon_81 (by decide) rfl ?_
              have L83 : ∀ (N : Nat) (Gk : gh) (f : Int → Int) (k : Int), (1 + hi - k).toNat < N → (gExt G Gk (cR B)) → (cC D B (upI rw0 p f) hi Gk) → (0 ≤ k ∧ k ≤ 1 + hi) → (∀ s : Int, 0 ≤ s → s < k → f s = rw0 (1 + p) s) → V F 8 Gk 0 0 83 [(0, .ref (B 1)), (1, .ref pl), (3, .ref (B (rB 10))), (4, .int (iI p)), (5, .ref (B (rB (1 + p)))), (6, .ref (B (rB p))), (7, .int (iI k))] [] := by
                intro N
                induction N with
                | zero => intro Gk f k hN; exact absurd hN (Nat.not_lt_zero _)
                | succ N ih83 =>
                  intro Gk f k hN83 hxk hck hk hf
                  refine r_iload S dX1_reckon_83 6 rfl ?_
                  refine r_aload_n S dX1_reckon_85 0 rfl ?_
                  refine c_most S hck gtX1_16_X1 dX1_reckon_86 ?_
                  refine r_icmp_gt S 108 dX1_reckon_89 (by decide) (by omega) (by omega) (fun c89 => ?_) (fun c89 => ?_)
                  · skip
                    have hKp := hok.1 p (by omega) (by omega)
                    have hf0 : ∀ s : Int, 0 ≤ s → s ≤ hi → minUp now p 1 ((upI rw0 p f) (1 + p)) s ((upI rw0 p f) p s) := fun s s0 s1 => by rw [upI_s, upI_n (show (1 + p) ≠ p by omega), hf s s0 (by omega)]; exact minUp_first s0 (hbd (1 + p) s (by omega) (by omega) s0 s1).2
                    have hrwb : rwBd (upI rw0 p f) hi p := fun i s hi_ s0 s1 => by rcases hi_ with e | e; rw [e, upI_s, hf s s0 (by omega)]; exact hbd (1 + p) s (by omega) (by omega) s0 s1; rw [e, upI_n (by omega)]; exact hbd (1 + p) s (by omega) (by omega) s0 s1
                    refine r_aload_n S dX1_reckon_108 1 rfl ?_
                    refine r_iload S dX1_reckon_109 3 rfl ?_
                    rcases hpf p (by omega) (by omega) with ⟨hk111, hf111⟩ | ⟨hk111, b111, hf111, hO111⟩
                    · skip
                      refine r_aaldN hf111 (Im.mono hpa (gExt.up hxk hcN)).1 rfl (by omega) (by omega) (by omega) S dX1_reckon_111 ?_
                      refine r_astoreN (L' := [(7, .null), (0, .ref (B 1)), (1, .ref pl), (3, .ref (B (rB 10))), (4, .int (iI p)), (5, .ref (B (rB (1 + p)))), (6, .ref (B (rB p)))]) S dX1_reckon_112 (by decide) rfl ?_
                      refine r_aloadN S dX1_reckon_114 0 rfl ?_
                      refine r_instNull S dX1_reckon_116 ?_
                      refine r_if_eq S 138 dX1_reckon_119 (by decide) (by omega) (fun c119 => ?_) (fun c119 => absurd c119 (by omega))
                      refine r_aloadN S dX1_reckon_138 0 rfl ?_
                      refine r_ifnullN S 151 dX1_reckon_140 (by decide) ?_
                      refine r_iinc_e (L' := [(4, .int (iI (p - 1))), (7, .null), (0, .ref (B 1)), (1, .ref pl), (3, .ref (B (rB 10))), (5, .ref (B (rB (1 + p)))), (6, .ref (B (rB p)))]) (p - 1) (by omega) S dX1_reckon_151 4 rfl (by decide) rfl ?_
                      refine r_goto S 55 dX1_reckon_154 (by decide) ?_
                      refine V.sub [2, 3, 4, 0] rfl ?_
                      exact ih55 Gk (upI rw0 p f) (p - 1) (by omega) hxk hck (by omega) (fun s s0 s1 => by rw [upI_n (by omega)]; exact h10 s s0 s1) (fun q q0 q1 s s0 s1 => by by_cases e : q = p; rw [e, upI_s, upI_n (by omega)]; exact (by rw [show 1 + now (10 + p) = 1 by omega]; have h := hf0 s s0 s1; rw [upI_s, upI_n (by omega)] at h; exact h); rw [upI_n e, upI_n (by omega)]; exact hq q (by omega) q1 s s0 s1) (fun q s q0 q1 s0 s1 => by by_cases e : q = p; rw [e, upI_s]; exact minUp_bd hok ⟨by omega, by omega⟩ (Int.le_refl _) (show minUp now p (1 + now (10 + p)) (rw0 (1 + p)) s (f s) from (by rw [show 1 + now (10 + p) = 1 by omega]; have h := hf0 s s0 s1; rw [upI_s, upI_n (by omega)] at h; exact h)) (fun x x0 x1 => (hbd (1 + p) x (by omega) (by omega) x0 (by omega)).1); rw [upI_n e]; exact hbd q s (by omega) q1 s0 s1)
                    · skip
                      refine r_aaldS hf111 (Im.mono hpa (gExt.up hxk hcN)).1 rfl (by omega) (by omega) (by omega) S dX1_reckon_111 ?_
                      refine r_astore (L' := [(7, .ref b111), (0, .ref (B 1)), (1, .ref pl), (3, .ref (B (rB 10))), (4, .int (iI p)), (5, .ref (B (rB (1 + p)))), (6, .ref (B (rB p)))]) S dX1_reckon_112 (by decide) rfl ?_
                      refine r_aload S dX1_reckon_114 0 rfl ?_
                      refine rH_isS S (hO.mono hO111 (gExt.up hxk hcN)) w535 dX1_reckon_116 (fun i116 => ?_) (fun i116 => ?_)
                      · skip
                        refine r_if_eq S 138 dX1_reckon_119 (by decide) (by omega) (fun c119 => absurd c119 (by omega)) (fun c119 => ?_)
                        refine r_aload_n S dX1_reckon_122 1 rfl ?_
                        refine r_aload S dX1_reckon_123 6 rfl ?_
                        refine r_aload S dX1_reckon_125 5 rfl ?_
                        refine r_aload S dX1_reckon_127 0 rfl ?_
                        refine rH_castS S (hO.mono hO111 (gExt.up hxk hcN)) (by omega) w535 dX1_reckon_129 ?_
                        have hsr := (hO.mono hO111 (gExt.up hxk hcN)).resolve_left (fun z => by omega) |>.resolve_left (fun z => by omega) |>.resolve_right (fun z => by omega)
                        refine (c_V_T (As := [.ref (B (rB p)), .ref (B (rB (1 + p))), .ref b111]) (st := []) S (kX1_addStrip hck ⟨by omega, by omega⟩ hrwb hok ⟨by omega, by omega⟩ hcN i116 hsr.2 hf0) moX1_addStrip ⟨by decide, by decide⟩ ⟨(by show _ ≤ 0; omega), (by show _ ≤ 0; omega)⟩ rfl (Nat.le_of_ble_eq_true rfl) w536 w538 w6 hck.1 rfl rfl dX1_reckon_132).goV S hb hM (fun G132 hx132 hcc132 => ?_)
                        obtain ⟨f132, hcd132, hfd132⟩ := hcc132
                        have hxc132 := hxk.tr2 hx132
                        refine r_goto S 151 dX1_reckon_135 (by decide) ?_
                        refine r_iinc_e (L' := [(4, .int (iI (p - 1))), (7, .ref b111), (0, .ref (B 1)), (1, .ref pl), (3, .ref (B (rB 10))), (5, .ref (B (rB (1 + p)))), (6, .ref (B (rB p)))]) (p - 1) (by omega) S dX1_reckon_151 4 rfl (by decide) rfl ?_
                        refine r_goto S 55 dX1_reckon_154 (by decide) ?_
                        refine V.sub [2, 3, 4, 0] rfl ?_
                        exact ih55 G132 (upI rw0 p f132) (p - 1) (by omega) hxc132 (by have h := hcd132; rw [upI_up] at h; exact h) (by omega) (fun s s0 s1 => by rw [upI_n (by omega)]; exact h10 s s0 s1) (fun q q0 q1 s s0 s1 => by by_cases e : q = p; rw [e, upI_s, upI_n (by omega)]; exact (by have h := hfd132 s s0 s1; rw [upI_n (by omega)] at h; exact h); rw [upI_n e, upI_n (by omega)]; exact hq q (by omega) q1 s s0 s1) (fun q s q0 q1 s0 s1 => by by_cases e : q = p; rw [e, upI_s]; exact minUp_bd hok ⟨by omega, by omega⟩ (Int.le_refl _) (show minUp now p (1 + now (10 + p)) (rw0 (1 + p)) s (f132 s) from (by have h := hfd132 s s0 s1; rw [upI_n (by omega)] at h; exact h)) (fun x x0 x1 => (hbd (1 + p) x (by omega) (by omega) x0 (by omega)).1); rw [upI_n e]; exact hbd q s (by omega) q1 s0 s1)
                      · skip
                        refine r_if_eq S 138 dX1_reckon_119 (by decide) (by omega) (fun c119 => ?_) (fun c119 => absurd c119 (by omega))
                        refine r_aload S dX1_reckon_138 0 rfl ?_
                        refine r_ifnull S dX1_reckon_140 ?_
                        refine r_aload_n S dX1_reckon_143 1 rfl ?_
                        refine r_aload S dX1_reckon_144 6 rfl ?_
                        refine r_aload S dX1_reckon_146 0 rfl ?_
                        refine (c_V_T (As := [.ref (B (rB p)), .ref b111]) (st := []) S (kX1_addAlike hck ⟨by omega, by omega⟩ hrwb hok ⟨by omega, by omega⟩ hcN i116 hk111 (hO.mono hO111 (gExt.up hxk hcN)) hf0) moX1_addAlike ⟨by decide, by decide⟩ ⟨(by show _ ≤ 0; omega), (by show _ ≤ 0; omega)⟩ rfl (Nat.le_of_ble_eq_true rfl) w545 w547 w8 hck.1 rfl rfl dX1_reckon_148).goV S hb hM (fun G148 hx148 hcc148 => ?_)
                        obtain ⟨f148, hcd148, hfd148⟩ := hcc148
                        have hxc148 := hxk.tr2 hx148
                        refine r_iinc_e (L' := [(4, .int (iI (p - 1))), (7, .ref b111), (0, .ref (B 1)), (1, .ref pl), (3, .ref (B (rB 10))), (5, .ref (B (rB (1 + p)))), (6, .ref (B (rB p)))]) (p - 1) (by omega) S dX1_reckon_151 4 rfl (by decide) rfl ?_
                        refine r_goto S 55 dX1_reckon_154 (by decide) ?_
                        refine V.sub [2, 3, 4, 0] rfl ?_
                        exact ih55 G148 (upI rw0 p f148) (p - 1) (by omega) hxc148 (by have h := hcd148; rw [upI_up] at h; exact h) (by omega) (fun s s0 s1 => by rw [upI_n (by omega)]; exact h10 s s0 s1) (fun q q0 q1 s s0 s1 => by by_cases e : q = p; rw [e, upI_s, upI_n (by omega)]; exact (by have h := hfd148 s s0 s1; rw [upI_n (by omega)] at h; exact h); rw [upI_n e, upI_n (by omega)]; exact hq q (by omega) q1 s s0 s1) (fun q s q0 q1 s0 s1 => by by_cases e : q = p; rw [e, upI_s]; exact minUp_bd hok ⟨by omega, by omega⟩ (Int.le_refl _) (show minUp now p (1 + now (10 + p)) (rw0 (1 + p)) s (f148 s) from (by have h := hfd148 s s0 s1; rw [upI_n (by omega)] at h; exact h)) (fun x x0 x1 => (hbd (1 + p) x (by omega) (by omega) x0 (by omega)).1); rw [upI_n e]; exact hbd q s (by omega) q1 s0 s1)
                  · skip
                    refine r_aload S dX1_reckon_92 5 rfl ?_
                    refine r_iload S dX1_reckon_94 6 rfl ?_
                    refine r_aload S dX1_reckon_96 4 rfl ?_
                    refine r_iload S dX1_reckon_98 6 rfl ?_
                    refine c_ld S hck ⟨by omega, by omega⟩ ⟨by omega, by omega⟩ dX1_reckon_100 ?_
                    rw [upI_n (show (1 + p) ≠ p by omega)]
                    refine c_st S hb hM hck ⟨by omega, by omega⟩ ⟨by omega, by omega⟩ dX1_reckon_101 (fun G101 hx101 hcc101 => ?_)
                    have hxc101 := hxk.tr2 hx101
                    refine r_iinc_e (L' := [(7, .int (iI (1 + k))), (0, .ref (B 1)), (1, .ref pl), (3, .ref (B (rB 10))), (4, .int (iI p)), (5, .ref (B (rB (1 + p)))), (6, .ref (B (rB p)))]) (1 + k) (by omega) S dX1_reckon_102 6 rfl (by decide) rfl ?_
                    refine r_goto S 83 dX1_reckon_105 (by decide) ?_
                    refine V.sub [1, 2, 3, 4, 5, 6, 0] rfl ?_
                    exact ih83 G101 (upI f k (rw0 (1 + p) k)) (1 + k) (by omega) hxc101 (by have h := hcc101; rw [upI_s, upI_up] at h; exact h) (by omega) (fun s s0 s1 => by by_cases e : s = k; rw [e, upI_s]; rw [upI_n e]; exact hf s s0 (by omega))
              refine V.sub [3, 4, 5, 6, 2, 1, 0] rfl ?_
              exact L83 _ Gk (rw0 p) 0 (Nat.lt_succ_self _) hxk (by rw [upI_id]; exact hck) (by omega) (fun s s0 s1 => by omega)
        refine V.sub [1, 2, 3, 0] rfl ?_
        exact L55 _ G50 (upI row 10 (upI f 0 0)) 9 (Nat.lt_succ_self _) hxc50 hcc50 (by omega) (fun s s0 s1 => by rw [upI_s]; by_cases e : s = 0; rw [e, upI_s, if_pos rfl]; rw [upI_n e, if_neg e]; exact hf s (by omega) (by omega)) (fun q q0 q1 => by omega) (fun q s q0 q1 s0 s1 => by rw [show q = 10 by omega, upI_s]; by_cases e : s = 0; rw [e, upI_s]; omega; rw [upI_n e, hf s (by omega) (by omega)]; omega)
      · skip
        refine r_aload_n S dX1_reckon_35 2 rfl ?_
        refine r_iload S dX1_reckon_36 3 rfl ?_
        refine r_ldc S 1000000 w534 (by decide) dX1_reckon_38 ?_
        refine c_st S hb hM hck ⟨by omega, by omega⟩ ⟨by omega, by omega⟩ dX1_reckon_40 (fun G40 hx40 hcc40 => ?_)
        have hxc40 := hxk.tr2 hx40
        refine r_iinc_e (L' := [(4, .int (iI (1 + k))), (0, .ref (B 1)), (1, .ref pl), (3, .ref (B (rB 10)))]) (1 + k) (by omega) S dX1_reckon_41 3 rfl (by decide) rfl ?_
        refine r_goto S 26 dX1_reckon_44 (by decide) ?_
        refine V.sub [1, 2, 3, 0] rfl ?_
        exact ih26 G40 (upI f k 1000000) (1 + k) (by omega) hxc40 (by have h := hcc40; rw [upI_s, upI_up] at h; exact h) (by omega) (fun s s0 s1 => by by_cases e : s = k; rw [e, upI_s]; rw [upI_n e]; exact hf s s0 (by omega)) (by omega)
  refine V.sub [2, 3, 1, 0] rfl ?_
  exact L26 _ G12 (row 10) 1 (Nat.lt_succ_self _) hxc12 (by rw [upI_id]; exact hcc12) (by omega) (fun s s0 s1 => by omega) (by omega)
