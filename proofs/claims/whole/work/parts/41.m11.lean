set_option maxRecDepth 20000 in
set_option maxHeartbeats 2000000 in
theorem kX11_tearOff {D : va_G} {A : Nat → Nat} {th ke km rd : Int} {now kept reel part best : Int → Int} {G : gh} (hm : mS D A th ke km rd now kept reel part best G) {l p mn w : Int} (hKK : okK now) (hQQ : okQ now) (hp : 0 ≤ p ∧ p < 10) (hsh : isShP now p) (hl : 0 ≤ l ∧ l < 60) (hmn : 1 ≤ mn ∧ mn ≤ 64) (hw : wOf now p w) (hpr : pairU now p w) (hex : mn < 3 → ∃ x y : Int, valU now p (now (40 + p) * now (50 + p)) w mn x y) : CT ⟨"PostageCounterModel", "tearOff", "(IIII)V"⟩ prog_13_method_39_code 12 none 3 77 0 0 D [.ref (A 0), .int (iI l), .int (iI p), .int (iI mn), .int (iI w)] G (mM A) (tV (fun G' => ∃ (nw part' : Int → Int) (T : Int → Prop), mS D A th ke km rd nw kept reel part' best G' ∧ tornAll now nw l p T ∧ tornT now p w mn T)) := by
  refine CT.enter (by decide +kernel) (Nat.le_of_ble_eq_true rfl) (fun F S ret hb hM hI => ?_)
  show V F 12 G 0 0 0 [(0, .ref (A 0)), (1, .int (iI l)), (2, .int (iI p)), (3, .int (iI mn)), (4, .int (iI w))] []
  have hsr := sh_rc hKK hp hsh
  have hrc := rc_bd (r := now (40 + p)) (c := now (50 + p)) hsr.1 hsr.2.1 hsr.2.2.1 hsr.2.2.2.1
  have hw2 := wOf_BP hw
  have hwb := wBP_bd hw2
  have hNw := wOf_N hKK hp hsh hw
  refine r_aload_n S dX11_tearOff_0 0 rfl ?_
  refine r_iload_n S dX11_tearOff_1 2 rfl ?_
  refine (c_V_P (As := [.int (iI p)]) (st := []) S (kX11_squares hm (by omega)) moX11_squares ⟨by decide, by decide⟩ ⟨by omega, by omega⟩ rfl (Nat.le_of_ble_eq_true rfl) w871 w873 w25 hm.1 rfl rfl dX11_tearOff_2).goI (fun r2 hc2 => ?_)
  subst hc2
  refine r_istore (L' := [(5, .int (iI ((now (40 + p)) * (now (50 + p))))), (0, .ref (A 0)), (1, .int (iI l)), (2, .int (iI p)), (3, .int (iI mn)), (4, .int (iI w))]) S dX11_tearOff_5 (by decide) rfl ?_
  refine r_iconst S dX11_tearOff_7 ?_
  refine r_istore (L' := [(6, .int (iI (-1))), (5, .int (iI ((now (40 + p)) * (now (50 + p))))), (0, .ref (A 0)), (1, .int (iI l)), (2, .int (iI p)), (3, .int (iI mn)), (4, .int (iI w))]) S dX11_tearOff_8 (by decide) rfl ?_
  refine r_iconst S dX11_tearOff_10 ?_
  refine r_istore (L' := [(7, .int (iI (-1))), (6, .int (iI (-1))), (5, .int (iI ((now (40 + p)) * (now (50 + p))))), (0, .ref (A 0)), (1, .int (iI l)), (2, .int (iI p)), (3, .int (iI mn)), (4, .int (iI w))]) S dX11_tearOff_11 (by decide) rfl ?_
  refine r_ldc S 1000000 w924 (by decide) dX11_tearOff_13 ?_
  refine r_istore (L' := [(8, .int (iI 1000000)), (7, .int (iI (-1))), (6, .int (iI (-1))), (5, .int (iI ((now (40 + p)) * (now (50 + p))))), (0, .ref (A 0)), (1, .int (iI l)), (2, .int (iI p)), (3, .int (iI mn)), (4, .int (iI w))]) S dX11_tearOff_15 (by decide) rfl ?_
  have L158 : ∀ (few : Int) (a : Int) (b : Int) (pt : Int → Int), ∀ (G : gh), mS D A th ke km rd now kept reel pt best G →  True → (0 ≤ few ∧ few ≤ 1000000 ∧ -1 ≤ a ∧ a < 64 ∧ -1 ≤ b ∧ b < 64) → (mn < 3 → bestU (valU now p (now (40 + p) * now (50 + p)) w mn) (cst now p w) (fun _ _ => True) few a b) → V F 12 G 0 0 158 [(0, .ref (A 0)), (1, .int (iI l)), (2, .int (iI p)), (3, .int (iI mn)), (4, .int (iI w)), (5, .int (iI (now (40 + p) * now (50 + p)))), (6, .int (iI a)), (7, .int (iI b)), (8, .int (iI few))] [] := by
    intro few a b pt G hm _ hbd hbe
    refine r_iload_n S dX11_tearOff_158 3 rfl ?_
    refine r_iconst S dX11_tearOff_159 ?_
    refine r_icmp_ge S 202 dX11_tearOff_160 (by decide) (by omega) (by omega) (fun c160 => ?_) (fun c160 => ?_)
    · skip
      refine r_iload_n S dX11_tearOff_202 3 rfl ?_
      refine r_istore (L' := [(9, .int (iI mn)), (0, .ref (A 0)), (1, .int (iI l)), (2, .int (iI p)), (3, .int (iI mn)), (4, .int (iI w)), (5, .int (iI (now (40 + p) * now (50 + p)))), (6, .int (iI a)), (7, .int (iI b)), (8, .int (iI few))]) S dX11_tearOff_203 (by decide) rfl ?_
      refine r_iload S dX11_tearOff_205 6 rfl ?_
      refine r_iload S dX11_tearOff_207 5 rfl ?_
      refine r_isub_e ((now (40 + p)) * (now (50 + p)) - w) (by omega) S dX11_tearOff_209 ?_
      refine r_istore (L' := [(10, .int (iI ((now (40 + p)) * (now (50 + p)) - w))), (9, .int (iI mn)), (0, .ref (A 0)), (1, .int (iI l)), (2, .int (iI p)), (3, .int (iI mn)), (4, .int (iI w)), (5, .int (iI (now (40 + p) * now (50 + p)))), (6, .int (iI a)), (7, .int (iI b)), (8, .int (iI few))]) S dX11_tearOff_210 (by decide) rfl ?_
      have L212 : ∀ (N : Nat) (lf : Int) (i : Int) (g : Int → Int), ∀ (G : gh), mS D A th ke km rd g kept reel pt best G →  (i + 2).toNat < N → (i % w = 0) → (-w ≤ i ∧ i < now (40 + p) * now (50 + p)) → (lf = mn - cntU now p (now (40 + p) * now (50 + p)) w (i + w)) → (0 ≤ lf ∧ lf ≤ 64) → (tornAll now g l p (fun s => i + w ≤ s ∧ s < now (40 + p) * now (50 + p) ∧ now (460 + 64 * p + s) ≠ 0)) → V F 12 G 0 0 212 [(0, .ref (A 0)), (1, .int (iI l)), (2, .int (iI p)), (3, .int (iI mn)), (4, .int (iI w)), (5, .int (iI (now (40 + p) * now (50 + p)))), (9, .int (iI lf)), (10, .int (iI i))] [] := by
        intro N
        induction N with
        | zero => intro lf i g G hm hN; exact absurd hN (Nat.not_lt_zero _)
        | succ N ih212 =>
          intro lf i g G hm hN212 hiw hi2 hlf2 hlf0 hT
          refine r_iload S dX11_tearOff_212 7 rfl ?_
          refine r_if_lt S 277 dX11_tearOff_214 (by decide) (by omega) (fun c214 => ?_) (fun c214 => ?_)
          · skip
            exact ret.tv dX11_tearOff_277 (by omega) (by omega) ⟨_, _, _, hm, hT, Or.inr ⟨by omega, lastT_ok hw2 (by omega) hNw hpr hlf2 hlf0.1 (by omega) (mw_add hiw) (by have := mw_le0 hw2 hiw; omega) (by have := mw_le hw2 hiw hNw (by omega); omega)⟩⟩
          · skip
            refine r_iload S dX11_tearOff_217 6 rfl ?_
            refine r_if_le S 277 dX11_tearOff_219 (by decide) (by omega) (fun c219 => ?_) (fun c219 => ?_)
            · skip
              exact ret.tv dX11_tearOff_277 (by omega) (by omega) ⟨_, _, _, hm, hT, Or.inr ⟨by omega, lastT_ok hw2 (by omega) hNw hpr hlf2 hlf0.1 (by omega) (mw_add hiw) (by have := mw_le0 hw2 hiw; omega) (by have := mw_le hw2 hiw hNw (by omega); omega)⟩⟩
            · skip
              have hQi1 := (hQQ p i hp.1 hp.2 (by omega) (by omega)).1
              have hQi2 := (hQQ p i hp.1 hp.2 (by omega) (by omega)).2.1
              have hiN := mw_le hw2 hiw hNw (by omega)
              refine r_aload_n S dX11_tearOff_222 0 rfl ?_
              refine m_get_now S hm gtX11_7_X11 dX11_tearOff_223 ?_
              refine r_aload_n S dX11_tearOff_226 0 rfl ?_
              refine r_iload_n S dX11_tearOff_227 2 rfl ?_
              refine r_iload S dX11_tearOff_228 7 rfl ?_
              refine (c_V_P (As := [.int (iI p), .int (iI i)]) (st := [.ref (A 1)]) S (kX11_squareAt hm ) moX11_squareAt ⟨by decide, by decide⟩ ⟨by omega, by omega⟩ rfl (Nat.le_of_ble_eq_true rfl) w811 w813 w18 hm.1 rfl rfl dX11_tearOff_230).goI (fun r230 hc230 => ?_)
              refine m_ld_now S hm (by omega) (by omega) dX11_tearOff_233 ?_
              have hg233 : g r230 = now (460 + 64 * p + i) := by rw [hc230]; exact ((hT.1 i (by omega) (by omega)).2 (fun q => by have := q.1; omega)).1
              rw [hg233]
              refine r_if_le S 267 dX11_tearOff_234 (by decide) (by omega) (fun c234 => ?_) (fun c234 => ?_)
              · skip
                refine r_iload S dX11_tearOff_267 7 rfl ?_
                refine r_iload S dX11_tearOff_269 4 rfl ?_
                refine r_isub S dX11_tearOff_271 ?_
                refine r_istore (L' := [(10, .int (iI (i - w))), (0, .ref (A 0)), (1, .int (iI l)), (2, .int (iI p)), (3, .int (iI mn)), (4, .int (iI w)), (5, .int (iI (now (40 + p) * now (50 + p)))), (9, .int (iI lf))]) S dX11_tearOff_272 (by decide) rfl ?_
                refine r_goto S 212 dX11_tearOff_274 (by decide) ?_
                refine V.sub [1, 2, 3, 4, 5, 6, 7, 0] rfl ?_
                exact ih212 lf (i - w) g _ hm (by omega) (mw_sub hw2 hiw) (by omega) (by rw [show i - w + w = i by omega, cntU_step hw2 hiw hiN, if_neg (by omega)]; omega) (by omega) (tornAll_congr hT (fun s s0 s1 => by have h9 := hpr s s0 s1; rw [show i - w + w = i by omega]; constructor; intro q; refine ⟨?_, q.2⟩; by_cases e9 : i + w ≤ s; exact e9; exact absurd (by rw [unit_of hw2 hiw q.1 (by omega)]; omega) (h9.mp q.2.2); intro q; exact ⟨by omega, q.2⟩))
              · skip
                refine r_iconst S dX11_tearOff_237 ?_
                refine r_istore (L' := [(11, .int (iI 0)), (0, .ref (A 0)), (1, .int (iI l)), (2, .int (iI p)), (3, .int (iI mn)), (4, .int (iI w)), (5, .int (iI (now (40 + p) * now (50 + p)))), (9, .int (iI lf)), (10, .int (iI i))]) S dX11_tearOff_238 (by decide) rfl ?_
                have L240 : ∀ (N : Nat) (k : Int) (g2 : Int → Int), ∀ (G : gh), mS D A th ke km rd g2 kept reel pt best G →  (w - k).toNat < N → (0 ≤ k ∧ k ≤ w) → (tornAll now g2 l p (fun s => (i + w ≤ s ∧ s < now (40 + p) * now (50 + p) ∧ now (460 + 64 * p + s) ≠ 0) ∨ (i ≤ s ∧ s < i + k))) → V F 12 G 0 0 240 [(0, .ref (A 0)), (1, .int (iI l)), (2, .int (iI p)), (3, .int (iI mn)), (4, .int (iI w)), (5, .int (iI (now (40 + p) * now (50 + p)))), (9, .int (iI lf)), (10, .int (iI i)), (11, .int (iI k))] [] := by
                  intro N
                  induction N with
                  | zero => intro k g2 G hm hN; exact absurd hN (Nat.not_lt_zero _)
                  | succ N ih240 =>
                    intro k g2 G hm hN240 hk hT2_
                    have hT2 := hT2_
                    refine r_iload S dX11_tearOff_240 8 rfl ?_
                    refine r_iload S dX11_tearOff_242 4 rfl ?_
                    refine r_icmp_ge S 264 dX11_tearOff_244 (by decide) (by omega) (by omega) (fun c244 => ?_) (fun c244 => ?_)
                    · skip
                      refine r_iinc_e (L' := [(9, .int (iI (lf - 1))), (0, .ref (A 0)), (1, .int (iI l)), (2, .int (iI p)), (3, .int (iI mn)), (4, .int (iI w)), (5, .int (iI (now (40 + p) * now (50 + p)))), (10, .int (iI i)), (11, .int (iI k))]) (lf - 1) (by omega) S dX11_tearOff_264 6 rfl (by decide) rfl ?_
                      refine r_iload S dX11_tearOff_267 7 rfl ?_
                      refine r_iload S dX11_tearOff_269 5 rfl ?_
                      refine r_isub S dX11_tearOff_271 ?_
                      refine r_istore (L' := [(10, .int (iI (i - w))), (9, .int (iI (lf - 1))), (0, .ref (A 0)), (1, .int (iI l)), (2, .int (iI p)), (3, .int (iI mn)), (4, .int (iI w)), (5, .int (iI (now (40 + p) * now (50 + p)))), (11, .int (iI k))]) S dX11_tearOff_272 (by decide) rfl ?_
                      refine r_goto S 212 dX11_tearOff_274 (by decide) ?_
                      refine V.sub [2, 3, 4, 5, 6, 7, 1, 0] rfl ?_
                      exact ih212 (lf - 1) (i - w) g2 _ hm (by omega) (mw_sub hw2 hiw) (by omega) (by rw [show i - w + w = i by omega, cntU_step hw2 hiw hiN, if_pos (by omega)]; omega) (by omega) (tornAll_congr hT2 (fun s s0 s1 => by have h9 := hpr s s0 s1; rw [show i - w + w = i by omega]; constructor; intro q; by_cases e9 : i + w ≤ s; exact Or.inl ⟨e9, q.2⟩; exact Or.inr ⟨q.1, by omega⟩; intro q; rcases q with q | q; exact ⟨by omega, q.2⟩; refine ⟨q.1, by omega, h9.mpr ?_⟩; rw [show s - s % w = i from unit_of hw2 hiw q.1 (by omega)]; omega))
                    · skip
                      refine r_aload_n S dX11_tearOff_247 0 rfl ?_
                      refine r_iload_n S dX11_tearOff_248 1 rfl ?_
                      refine r_iload_n S dX11_tearOff_249 2 rfl ?_
                      refine r_iload S dX11_tearOff_250 7 rfl ?_
                      refine r_iload S dX11_tearOff_252 8 rfl ?_
                      refine r_iadd S dX11_tearOff_254 ?_
                      refine (c_V_T (As := [.int (iI l), .int (iI p), .int (iI (i + k))]) (st := []) S (kX11_tear hm hl hp (by omega)) moX11_tear ⟨by decide, by decide⟩ ⟨by omega, by omega⟩ rfl (Nat.le_of_ble_eq_true rfl) w941 w943 w35 hm.1 rfl rfl dX11_tearOff_255).goV S hb hM (fun G255 hx255 hc255 => ?_)
                      obtain ⟨now255, hm255, ht255⟩ := hc255
                      refine r_iinc_e (L' := [(11, .int (iI (1 + k))), (0, .ref (A 0)), (1, .int (iI l)), (2, .int (iI p)), (3, .int (iI mn)), (4, .int (iI w)), (5, .int (iI (now (40 + p) * now (50 + p)))), (9, .int (iI lf)), (10, .int (iI i))]) (1 + k) (by omega) S dX11_tearOff_258 8 rfl (by decide) rfl ?_
                      refine r_goto S 240 dX11_tearOff_261 (by decide) ?_
                      refine V.sub [1, 2, 3, 4, 5, 6, 7, 8, 0] rfl ?_
                      exact ih240 (1 + k) now255 _ hm255 (by omega) (by omega) (tornAll_step hT2_ ht255 hp hl (by omega) (fun s s0 s1 => by omega))
                refine V.sub [1, 2, 3, 4, 5, 6, 7, 8, 0] rfl ?_
                exact L240 _ 0 g _ hm (Nat.lt_succ_self _) (by omega) (tornAll_congr hT (fun s s0 s1 => by omega))
      refine V.sub [2, 3, 4, 5, 6, 7, 1, 0] rfl ?_
      exact L212 _ mn ((now (40 + p)) * (now (50 + p)) - w) now _ hm (Nat.lt_succ_self _) (by have := mw_sub hw2 hNw; exact this) (by omega) (by rw [show now (40 + p) * now (50 + p) - w + w = now (40 + p) * now (50 + p) by omega, cntU_0]; omega) (by omega) (tornAll_congr tornAll_0 (fun s s0 s1 => by constructor; intro q; omega; intro q; exact q.elim))
    · skip
      obtain ⟨x0, y0, hv0⟩ := hex (by omega)
      have hB := hbe (by omega)
      have hfl : few < 1000000 := by have h1 := hB.1 x0 y0 hv0 trivial; have h2 := cst_bd (now := now) (p := p) (w := w) (x := x0) (y := y0) (by omega); omega
      have hVab : valU now p (now (40 + p) * now (50 + p)) w mn a b := (hB.2.resolve_left (fun q => by omega)).1
      have hV1 := hVab
      obtain ⟨va0, va1, vaw, vb0, vb1, vbw, -⟩ := hV1
      have haN := mw_le hw2 vaw hNw va1
      have hbN := mw_le hw2 vbw hNw vb1
      refine r_iconst S dX11_tearOff_163 ?_
      refine r_istore (L' := [(9, .int (iI 0)), (0, .ref (A 0)), (1, .int (iI l)), (2, .int (iI p)), (3, .int (iI mn)), (4, .int (iI w)), (5, .int (iI (now (40 + p) * now (50 + p)))), (6, .int (iI a)), (7, .int (iI b)), (8, .int (iI few))]) S dX11_tearOff_164 (by decide) rfl ?_
      have L166 : ∀ (N : Nat) (k : Int) (g : Int → Int), ∀ (G : gh), mS D A th ke km rd g kept reel pt best G →  (w - k).toNat < N → (0 ≤ k ∧ k ≤ w) → (tornAll now g l p (fun s => (a ≤ s ∧ s < a + k) ∨ (b ≤ s ∧ s < b + k))) → V F 12 G 0 0 166 [(0, .ref (A 0)), (1, .int (iI l)), (2, .int (iI p)), (3, .int (iI mn)), (4, .int (iI w)), (5, .int (iI (now (40 + p) * now (50 + p)))), (6, .int (iI a)), (7, .int (iI b)), (9, .int (iI k))] [] := by
        intro N
        induction N with
        | zero => intro k g G hm hN; exact absurd hN (Nat.not_lt_zero _)
        | succ N ih166 =>
          intro k g G hm hN166 hk hT
          refine r_iload S dX11_tearOff_166 8 rfl ?_
          refine r_iload S dX11_tearOff_168 4 rfl ?_
          refine r_icmp_ge S 201 dX11_tearOff_170 (by decide) (by omega) (by omega) (fun c170 => ?_) (fun c170 => ?_)
          · skip
            exact ret.tv dX11_tearOff_201 (by omega) (by omega) ⟨_, _, _, hm, hT, Or.inl ⟨by omega, few, a, b, hB, hfl, hVab, fun s s0 s1 => by rw [show k = w by omega]⟩⟩
          · skip
            refine r_aload_n S dX11_tearOff_173 0 rfl ?_
            refine r_iload_n S dX11_tearOff_174 1 rfl ?_
            refine r_iload_n S dX11_tearOff_175 2 rfl ?_
            refine r_iload S dX11_tearOff_176 6 rfl ?_
            refine r_iload S dX11_tearOff_178 8 rfl ?_
            refine r_iadd S dX11_tearOff_180 ?_
            refine (c_V_T (As := [.int (iI l), .int (iI p), .int (iI (a + k))]) (st := []) S (kX11_tear hm hl hp (by omega)) moX11_tear ⟨by decide, by decide⟩ ⟨by omega, by omega⟩ rfl (Nat.le_of_ble_eq_true rfl) w941 w943 w35 hm.1 rfl rfl dX11_tearOff_181).goV S hb hM (fun G181 hx181 hc181 => ?_)
            obtain ⟨now181, hm181, ht181⟩ := hc181
            refine r_aload_n S dX11_tearOff_184 0 rfl ?_
            refine r_iload_n S dX11_tearOff_185 1 rfl ?_
            refine r_iload_n S dX11_tearOff_186 2 rfl ?_
            refine r_iload S dX11_tearOff_187 7 rfl ?_
            refine r_iload S dX11_tearOff_189 8 rfl ?_
            refine r_iadd S dX11_tearOff_191 ?_
            refine (c_V_T (As := [.int (iI l), .int (iI p), .int (iI (b + k))]) (st := []) S (kX11_tear hm181 hl hp (by omega)) moX11_tear ⟨by decide, by decide⟩ ⟨by omega, by omega⟩ rfl (Nat.le_of_ble_eq_true rfl) w941 w943 w35 hm181.1 rfl rfl dX11_tearOff_192).goV S hb hM (fun G192 hx192 hc192 => ?_)
            obtain ⟨now192, hm192, ht192⟩ := hc192
            refine r_iinc_e (L' := [(9, .int (iI (1 + k))), (0, .ref (A 0)), (1, .int (iI l)), (2, .int (iI p)), (3, .int (iI mn)), (4, .int (iI w)), (5, .int (iI (now (40 + p) * now (50 + p)))), (6, .int (iI a)), (7, .int (iI b))]) (1 + k) (by omega) S dX11_tearOff_195 8 rfl (by decide) rfl ?_
            refine r_goto S 166 dX11_tearOff_198 (by decide) ?_
            refine V.sub [1, 2, 3, 4, 5, 6, 7, 8, 0] rfl ?_
            exact ih166 (1 + k) now192 _ hm192 (by omega) (by omega) (tornAll_step (T := fun s => ((a ≤ s ∧ s < a + k) ∨ (b ≤ s ∧ s < b + k)) ∨ s = a + k) (tornAll_step hT ht181 hp hl (by omega) (fun s s0 s1 => Iff.rfl)) ht192 hp hl (by omega) (fun s s0 s1 => by omega))
      refine V.sub [1, 2, 3, 4, 5, 6, 7, 8, 0] rfl ?_
      exact L166 _ 0 now _ hm (Nat.lt_succ_self _) (by omega) (tornAll_congr tornAll_0 (fun s s0 s1 => by constructor; intro q; omega; intro q; exact q.elim))
  refine r_iconst S dX11_tearOff_17 ?_
  refine r_istore (L' := [(9, .int (iI 0)), (8, .int (iI 1000000)), (7, .int (iI (-1))), (6, .int (iI (-1))), (5, .int (iI ((now (40 + p)) * (now (50 + p))))), (0, .ref (A 0)), (1, .int (iI l)), (2, .int (iI p)), (3, .int (iI mn)), (4, .int (iI w))]) S dX11_tearOff_18 (by decide) rfl ?_
  have L20 : ∀ (N : Nat) (few : Int) (a : Int) (b : Int) (i : Int) (pt : Int → Int), ∀ (G : gh), mS D A th ke km rd now kept reel pt best G →  (now (40 + p) * now (50 + p) - i).toNat < N → (0 ≤ few ∧ few ≤ 1000000 ∧ -1 ≤ a ∧ a < 64 ∧ -1 ≤ b ∧ b < 64) → (0 ≤ i ∧ i ≤ now (40 + p) * now (50 + p)) → (i % w = 0) → (bestU (valU now p (now (40 + p) * now (50 + p)) w mn) (cst now p w) (fun x y => x < i) few a b) → V F 12 G 0 0 20 [(0, .ref (A 0)), (1, .int (iI l)), (2, .int (iI p)), (3, .int (iI mn)), (4, .int (iI w)), (5, .int (iI (now (40 + p) * now (50 + p)))), (6, .int (iI a)), (7, .int (iI b)), (8, .int (iI few)), (9, .int (iI i))] [] := by
    intro N
    induction N with
    | zero => intro few a b i pt G hm hN; exact absurd hN (Nat.not_lt_zero _)
    | succ N ih20 =>
      intro few a b i pt G hm hN20 hbd hi hiw hbu
      refine r_iload S dX11_tearOff_20 9 rfl ?_
      refine r_iload S dX11_tearOff_22 5 rfl ?_
      refine r_icmp_ge S 158 dX11_tearOff_24 (by decide) (by omega) (by omega) (fun c24 => ?_) (fun c24 => ?_)
      · skip
        refine V.sub [0, 1, 2, 3, 4, 5, 6, 7, 8] rfl ?_
        exact L158 few a b pt _ hm trivial (by omega) (fun q => by first | omega | exact bestU_same hbu (fun x y hv => ⟨fun _ => by have := hv.2.1; omega, fun _ => trivial⟩))
      · skip
        refine r_iload_n S dX11_tearOff_27 3 rfl ?_
        refine r_iconst S dX11_tearOff_28 ?_
        refine r_icmp_ge S 158 dX11_tearOff_29 (by decide) (by omega) (by omega) (fun c29 => ?_) (fun c29 => ?_)
        · skip
          refine V.sub [0, 1, 2, 3, 4, 5, 6, 7, 8] rfl ?_
          exact L158 few a b pt _ hm trivial (by omega) (fun q => by first | omega | exact bestU_same hbu (fun x y hv => ⟨fun _ => by have := hv.2.1; omega, fun _ => trivial⟩))
        · skip
          have hQi1 := (hQQ p i hp.1 hp.2 hi.1 (by omega)).1
          have hQi2 := (hQQ p i hp.1 hp.2 hi.1 (by omega)).2.1
          refine r_aload_n S dX11_tearOff_32 0 rfl ?_
          refine m_get_now S hm gtX11_7_X11 dX11_tearOff_33 ?_
          refine r_aload_n S dX11_tearOff_36 0 rfl ?_
          refine r_iload_n S dX11_tearOff_37 2 rfl ?_
          refine r_iload S dX11_tearOff_38 9 rfl ?_
          refine (c_V_P (As := [.int (iI p), .int (iI i)]) (st := [.ref (A 1)]) S (kX11_squareAt hm ) moX11_squareAt ⟨by decide, by decide⟩ ⟨by omega, by omega⟩ rfl (Nat.le_of_ble_eq_true rfl) w811 w813 w18 hm.1 rfl rfl dX11_tearOff_40).goI (fun r40 hc40 => ?_)
          refine m_ld_now S hm (by omega) (by omega) dX11_tearOff_43 ?_
          rw [hc40]
          refine r_if_ne S 50 dX11_tearOff_44 (by decide) (by omega) (fun c44 => ?_) (fun c44 => ?_)
          · skip
            have hQi0 : now (460 + 64 * p + i) ≠ 0 := c44
            have L65 : ∀ (j0 : Int), ∀ (G : gh), mS D A th ke km rd now kept reel pt best G →  True → ((mn = 1 ∧ j0 = i) ∨ (mn = 2 ∧ j0 = i + w)) → V F 12 G 0 0 65 [(0, .ref (A 0)), (1, .int (iI l)), (2, .int (iI p)), (3, .int (iI mn)), (4, .int (iI w)), (5, .int (iI (now (40 + p) * now (50 + p)))), (6, .int (iI a)), (7, .int (iI b)), (8, .int (iI few)), (9, .int (iI i))] [.int (iI j0)] := by
              intro j0 G hm _ hj0
              refine r_istore (L' := [(10, .int (iI j0)), (0, .ref (A 0)), (1, .int (iI l)), (2, .int (iI p)), (3, .int (iI mn)), (4, .int (iI w)), (5, .int (iI (now (40 + p) * now (50 + p)))), (6, .int (iI a)), (7, .int (iI b)), (8, .int (iI few)), (9, .int (iI i))]) S dX11_tearOff_65 (by decide) rfl ?_
              have L67 : ∀ (N : Nat) (few : Int) (a : Int) (b : Int) (j : Int) (pt2 : Int → Int), ∀ (G : gh), mS D A th ke km rd now kept reel pt2 best G →  (now (40 + p) * now (50 + p) + 2 - j).toNat < N → (0 ≤ few ∧ few ≤ 1000000 ∧ -1 ≤ a ∧ a < 64 ∧ -1 ≤ b ∧ b < 64) → (((mn = 1 ∧ i ≤ j) ∨ (mn = 2 ∧ i + w ≤ j)) ∧ j ≤ now (40 + p) * now (50 + p) + 2) → (j % w = 0) → (bestU (valU now p (now (40 + p) * now (50 + p)) w mn) (cst now p w) (fun x y => x < i ∨ (x = i ∧ y < j)) few a b) → V F 12 G 0 0 67 [(0, .ref (A 0)), (1, .int (iI l)), (2, .int (iI p)), (3, .int (iI mn)), (4, .int (iI w)), (5, .int (iI (now (40 + p) * now (50 + p)))), (6, .int (iI a)), (7, .int (iI b)), (8, .int (iI few)), (9, .int (iI i)), (10, .int (iI j))] [] := by
                intro N
                induction N with
                | zero => intro few a b j pt2 G hm hN; exact absurd hN (Nat.not_lt_zero _)
                | succ N ih67 =>
                  intro few a b j pt2 G hm hN67 hbd hj hjw hbuj
                  have L83 : ∀ (e : Int), ∀ (G : gh), mS D A th ke km rd now kept reel pt2 best G →  True → ((mn = 1 ∧ e = i + 1) ∨ (mn = 2 ∧ e = now (40 + p) * now (50 + p))) → V F 12 G 0 0 83 [(0, .ref (A 0)), (1, .int (iI l)), (2, .int (iI p)), (3, .int (iI mn)), (4, .int (iI w)), (5, .int (iI (now (40 + p) * now (50 + p)))), (6, .int (iI a)), (7, .int (iI b)), (8, .int (iI few)), (9, .int (iI i)), (10, .int (iI j))] [.int (iI e), .int (iI j)] := by
                    intro e G hm _ he
                    refine r_icmp_ge S 148 dX11_tearOff_83 (by decide) (by omega) (by omega) (fun c83 => ?_) (fun c83 => ?_)
                    · skip
                      refine r_iload S dX11_tearOff_148 9 rfl ?_
                      refine r_iload S dX11_tearOff_150 4 rfl ?_
                      refine r_iadd S dX11_tearOff_152 ?_
                      refine r_istore (L' := [(9, .int (iI (i + w))), (0, .ref (A 0)), (1, .int (iI l)), (2, .int (iI p)), (3, .int (iI mn)), (4, .int (iI w)), (5, .int (iI (now (40 + p) * now (50 + p)))), (6, .int (iI a)), (7, .int (iI b)), (8, .int (iI few)), (10, .int (iI j))]) S dX11_tearOff_153 (by decide) rfl ?_
                      refine r_goto S 20 dX11_tearOff_155 (by decide) ?_
                      refine V.sub [1, 2, 3, 4, 5, 6, 7, 8, 9, 0] rfl ?_
                      exact ih20 few a b (i + w) pt2 _ hm (by omega) (by omega) (by have := mw_le hw2 hiw hNw (by omega); omega) (mw_add hiw) (bestU_same hbuj (fun x y hv => visI_of hw2 hv hiw hj he c83 hwb))
                    · skip
                      have hQj1 := (hQQ p j hp.1 hp.2 (by omega) (by omega)).1
                      have hQj2 := (hQQ p j hp.1 hp.2 (by omega) (by omega)).2.1
                      have L117 : ∀ (lf : Int) (pt3 : Int → Int), ∀ (G : gh), mS D A th ke km rd now kept reel pt3 best G →  True → (lfP now p w i j lf) → (0 ≤ lf ∧ lf ≤ 1000000) → V F 12 G 0 0 117 [(0, .ref (A 0)), (1, .int (iI l)), (2, .int (iI p)), (3, .int (iI mn)), (4, .int (iI w)), (5, .int (iI (now (40 + p) * now (50 + p)))), (6, .int (iI a)), (7, .int (iI b)), (8, .int (iI few)), (9, .int (iI i)), (10, .int (iI j))] [.int (iI lf)] := by
                        intro lf pt3 G hm _ hlf hlfb
                        refine r_istore (L' := [(11, .int (iI lf)), (0, .ref (A 0)), (1, .int (iI l)), (2, .int (iI p)), (3, .int (iI mn)), (4, .int (iI w)), (5, .int (iI (now (40 + p) * now (50 + p)))), (6, .int (iI a)), (7, .int (iI b)), (8, .int (iI few)), (9, .int (iI i)), (10, .int (iI j))]) S dX11_tearOff_117 (by decide) rfl ?_
                        have L138 : ∀ (few2 : Int) (a2 : Int) (b2 : Int), ∀ (G : gh), mS D A th ke km rd now kept reel pt3 best G →  True → (0 ≤ few2 ∧ few2 ≤ 1000000 ∧ -1 ≤ a2 ∧ a2 < 64 ∧ -1 ≤ b2 ∧ b2 < 64) → (bestU (valU now p (now (40 + p) * now (50 + p)) w mn) (cst now p w) (fun x y => x < i ∨ (x = i ∧ y < j + w)) few2 a2 b2) → V F 12 G 0 0 138 [(0, .ref (A 0)), (1, .int (iI l)), (2, .int (iI p)), (3, .int (iI mn)), (4, .int (iI w)), (5, .int (iI (now (40 + p) * now (50 + p)))), (6, .int (iI a2)), (7, .int (iI b2)), (8, .int (iI few2)), (9, .int (iI i)), (10, .int (iI j))] [] := by
                          intro few2 a2 b2 G hm _ hbd2 hbu2
                          refine r_iload S dX11_tearOff_138 10 rfl ?_
                          refine r_iload S dX11_tearOff_140 4 rfl ?_
                          refine r_iadd S dX11_tearOff_142 ?_
                          refine r_istore (L' := [(10, .int (iI (j + w))), (0, .ref (A 0)), (1, .int (iI l)), (2, .int (iI p)), (3, .int (iI mn)), (4, .int (iI w)), (5, .int (iI (now (40 + p) * now (50 + p)))), (6, .int (iI a2)), (7, .int (iI b2)), (8, .int (iI few2)), (9, .int (iI i))]) S dX11_tearOff_143 (by decide) rfl ?_
                          refine r_goto S 67 dX11_tearOff_145 (by decide) ?_
                          refine V.sub [1, 2, 3, 4, 5, 6, 7, 8, 9, 10, 0] rfl ?_
                          exact ih67 few2 a2 b2 (j + w) pt3 _ hm (by omega) (by omega) (by have := mw_le hw2 hjw hNw (by omega); omega) (mw_add hjw) hbu2
                        refine r_iload S dX11_tearOff_119 0 rfl ?_
                        refine r_iload S dX11_tearOff_121 9 rfl ?_
                        refine r_icmp_ge S 138 dX11_tearOff_123 (by decide) (by omega) (by omega) (fun c123 => ?_) (fun c123 => ?_)
                        · skip
                          refine V.sub [1, 2, 3, 4, 5, 6, 7, 8, 9, 10, 11] rfl ?_
                          exact L138 few a b _ hm trivial (by omega) (by rcases hlf with ⟨q1, q2⟩ | ⟨q1, q2⟩; exact bestU_same hbuj (fun x y hv => visJ_same hw2 hv hjw q1); exact bestU_keep hbuj (by omega) (fun x y hv => visJ_step hw2 hv hjw) (fun x y hv hx => hx))
                        · skip
                          refine r_iload S dX11_tearOff_126 0 rfl ?_
                          refine r_istore (L' := [(8, .int (iI lf)), (11, .int (iI lf)), (0, .ref (A 0)), (1, .int (iI l)), (2, .int (iI p)), (3, .int (iI mn)), (4, .int (iI w)), (5, .int (iI (now (40 + p) * now (50 + p)))), (6, .int (iI a)), (7, .int (iI b)), (9, .int (iI i)), (10, .int (iI j))]) S dX11_tearOff_128 (by decide) rfl ?_
                          refine r_iload S dX11_tearOff_130 10 rfl ?_
                          refine r_istore (L' := [(6, .int (iI i)), (8, .int (iI lf)), (11, .int (iI lf)), (0, .ref (A 0)), (1, .int (iI l)), (2, .int (iI p)), (3, .int (iI mn)), (4, .int (iI w)), (5, .int (iI (now (40 + p) * now (50 + p)))), (7, .int (iI b)), (9, .int (iI i)), (10, .int (iI j))]) S dX11_tearOff_132 (by decide) rfl ?_
                          refine r_iload S dX11_tearOff_134 11 rfl ?_
                          refine r_istore (L' := [(7, .int (iI j)), (6, .int (iI i)), (8, .int (iI lf)), (11, .int (iI lf)), (0, .ref (A 0)), (1, .int (iI l)), (2, .int (iI p)), (3, .int (iI mn)), (4, .int (iI w)), (5, .int (iI (now (40 + p) * now (50 + p)))), (9, .int (iI i)), (10, .int (iI j))]) S dX11_tearOff_136 (by decide) rfl ?_
                          refine V.sub [4, 5, 6, 7, 8, 9, 1, 0, 2, 10, 11] rfl ?_
                          exact L138 lf i j _ hm trivial (by omega) (by rcases hlf with ⟨q1, q2⟩ | ⟨q1, q2⟩; exact absurd c123 (by omega); rw [q2]; exact bestU_take hbuj (by omega) (valU_mk hj hi.1 hiw hw2 hjw c83 he hwb hQi0 q1 (by omega)) (fun x y hv => visJ_step hw2 hv hjw))
                      refine r_aload_n S dX11_tearOff_86 0 rfl ?_
                      refine m_get_now S hm gtX11_7_X11 dX11_tearOff_87 ?_
                      refine r_aload_n S dX11_tearOff_90 0 rfl ?_
                      refine r_iload_n S dX11_tearOff_91 2 rfl ?_
                      refine r_iload S dX11_tearOff_92 10 rfl ?_
                      refine (c_V_P (As := [.int (iI p), .int (iI j)]) (st := [.ref (A 1)]) S (kX11_squareAt hm ) moX11_squareAt ⟨by decide, by decide⟩ ⟨by omega, by omega⟩ rfl (Nat.le_of_ble_eq_true rfl) w811 w813 w18 hm.1 rfl rfl dX11_tearOff_94).goI (fun r94 hc94 => ?_)
                      refine m_ld_now S hm (by omega) (by omega) dX11_tearOff_97 ?_
                      rw [hc94]
                      refine r_if_ne S 106 dX11_tearOff_98 (by decide) (by omega) (fun c98 => ?_) (fun c98 => ?_)
                      · skip
                        have hcb := cst_bd (now := now) (p := p) (w := w) (x := i) (y := j) (by omega)
                        refine r_aload_n S dX11_tearOff_106 0 rfl ?_
                        refine r_iload_n S dX11_tearOff_107 2 rfl ?_
                        refine r_iload S dX11_tearOff_108 9 rfl ?_
                        refine r_iload S dX11_tearOff_110 10 rfl ?_
                        refine r_iload S dX11_tearOff_112 4 rfl ?_
                        refine (c_V_T (As := [.int (iI p), .int (iI i), .int (iI j), .int (iI w)]) (st := []) S (kX11_piecesWithout hm hKK hQQ hp hsh (by omega) (by omega) (by omega)) moX11_piecesWithout ⟨by decide, by decide⟩ ⟨by omega, by omega⟩ rfl (Nat.le_of_ble_eq_true rfl) w867 w869 w24 hm.1 rfl rfl dX11_tearOff_114).goI S hb hM (fun r114 G114 hx114 hc114 => ?_)
                        obtain ⟨hz114, part114, hm114⟩ := hc114
                        refine V.sub [0, 1, 2, 3, 4, 5, 6, 7, 8, 9, 10] rfl ?_
                        exact L117 r114 part114 _ hm114 trivial (Or.inr ⟨c98, hz114⟩) (by rw [show r114 = cst now p w i j from hz114]; omega)
                      · skip
                        refine r_ldc S 1000000 w924 (by decide) dX11_tearOff_101 ?_
                        refine r_goto S 117 dX11_tearOff_103 (by decide) ?_
                        refine V.sub [0, 1, 2, 3, 4, 5, 6, 7, 8, 9, 10] rfl ?_
                        exact L117 1000000 pt2 _ hm trivial (Or.inl ⟨c98, rfl⟩) (by omega)
                  refine r_iload S dX11_tearOff_67 10 rfl ?_
                  refine r_iload_n S dX11_tearOff_69 3 rfl ?_
                  refine r_iconst S dX11_tearOff_70 ?_
                  refine r_icmp_ne S 81 dX11_tearOff_71 (by decide) (by omega) (by omega) (fun c71 => ?_) (fun c71 => ?_)
                  · skip
                    refine r_iload S dX11_tearOff_81 5 rfl ?_
                    refine V.sub [0, 1, 2, 3, 4, 5, 6, 7, 8, 9, 10] rfl ?_
                    exact L83 (now (40 + p) * now (50 + p)) _ hm trivial (by omega)
                  · skip
                    refine r_iload S dX11_tearOff_74 9 rfl ?_
                    refine r_iconst S dX11_tearOff_76 ?_
                    refine r_iadd_e (1 + i) (by omega) S dX11_tearOff_77 ?_
                    refine r_goto S 83 dX11_tearOff_78 (by decide) ?_
                    refine V.sub [0, 1, 2, 3, 4, 5, 6, 7, 8, 9, 10] rfl ?_
                    exact L83 (1 + i) _ hm trivial (by omega)
              refine V.sub [1, 2, 3, 4, 5, 6, 7, 8, 9, 10, 0] rfl ?_
              exact L67 _ few a b j0 pt _ hm (Nat.lt_succ_self _) (by omega) (by have := mw_le hw2 hiw hNw (by omega); omega) (by rcases hj0 with q | q; rw [q.2]; exact hiw; rw [q.2]; exact mw_add hiw) (bestU_same hbu (fun x y hv => vis0_of hv hj0))
            refine r_iload_n S dX11_tearOff_50 3 rfl ?_
            refine r_iconst S dX11_tearOff_51 ?_
            refine r_icmp_ne S 60 dX11_tearOff_52 (by decide) (by omega) (by omega) (fun c52 => ?_) (fun c52 => ?_)
            · skip
              refine r_iload S dX11_tearOff_60 9 rfl ?_
              refine r_iload S dX11_tearOff_62 4 rfl ?_
              refine r_iadd S dX11_tearOff_64 ?_
              refine V.sub [0, 1, 2, 3, 4, 5, 6, 7, 8, 9] rfl ?_
              exact L65 (i + w) _ hm trivial (by omega)
            · skip
              refine r_iload S dX11_tearOff_55 9 rfl ?_
              refine r_goto S 65 dX11_tearOff_57 (by decide) ?_
              refine V.sub [0, 1, 2, 3, 4, 5, 6, 7, 8, 9] rfl ?_
              exact L65 i _ hm trivial (by omega)
          · skip
            refine r_goto S 148 dX11_tearOff_47 (by decide) ?_
            refine r_iload S dX11_tearOff_148 9 rfl ?_
            refine r_iload S dX11_tearOff_150 4 rfl ?_
            refine r_iadd S dX11_tearOff_152 ?_
            refine r_istore (L' := [(9, .int (iI (i + w))), (0, .ref (A 0)), (1, .int (iI l)), (2, .int (iI p)), (3, .int (iI mn)), (4, .int (iI w)), (5, .int (iI (now (40 + p) * now (50 + p)))), (6, .int (iI a)), (7, .int (iI b)), (8, .int (iI few))]) S dX11_tearOff_153 (by decide) rfl ?_
            refine r_goto S 20 dX11_tearOff_155 (by decide) ?_
            refine V.sub [1, 2, 3, 4, 5, 6, 7, 8, 9, 0] rfl ?_
            exact ih20 few a b (i + w) pt _ hm (by omega) (by omega) (by have := mw_le hw2 hiw hNw (by omega); omega) (mw_add hiw) (bestU_same hbu (fun x y hv => visI_skip hw2 hv hiw c44))
  refine V.sub [5, 6, 7, 8, 9, 4, 3, 2, 1, 0] rfl ?_
  exact L20 _ 1000000 (-1) (-1) 0 part _ hm (Nat.lt_succ_self _) (by omega) (by omega) (by simp) ⟨fun x y hv hx => absurd hx (by have := hv.1; omega), Or.inl ⟨rfl, rfl, rfl⟩⟩
