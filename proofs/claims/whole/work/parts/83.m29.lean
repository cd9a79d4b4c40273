set_option maxRecDepth 20000 in
set_option maxHeartbeats 2000000 in
theorem kX1_addStrip {D : va_G} {B : Nat → Nat} {row : Int → Int → Int} {most : Int} {G : gh} (hcc : cC D B row most G) (hmost : 0 ≤ most ∧ most < 3000) {N0 : Nat → Prop} {now : Int → Int} {p : Int} (hrw : rwBd row most p) (hok : mOK now) (hp : 0 ≤ p ∧ p < 10) (hcN : ∀ b, cR B b → N0 b) {sa : Nat} (e1 : now p = 1) (hs : srO D N0 G now p sa) (hf0 : ∀ s : Int, 0 ≤ s → s ≤ most → minUp now p 1 (row (1 + p)) s (row p s)) : CT ⟨"PostageCounter$Choices", "addStrip", "([I[ILPostageCounter$Strip;)V"⟩ prog_3_method_4_code 5 none 2 44 0 0 D [.ref (B 1), .ref (B (rB p)), .ref (B (rB (1 + p))), .ref sa] G (cR B) (tV (fun G' => ∃ f : Int → Int, cC D B (upI row p f) most G' ∧ ∀ s : Int, 0 ≤ s → s ≤ most → minUp now p (1 + now (10 + p)) (row (1 + p)) s (f s))) := by
  refine CT.enter (by decide +kernel) (Nat.le_of_ble_eq_true rfl) (fun F S ret hb hM hI => ?_)
  show V F 5 G 0 0 0 [(0, .ref (B 1)), (1, .ref (B (rB p))), (2, .ref (B (rB (1 + p)))), (3, .ref sa)] []
  have hK := hok.1 p hp.1 hp.2
  have hK4 : 0 ≤ now (10 + p) ∧ now (10 + p) ≤ 64 ∧ 0 ≤ now (20 + p) ∧ now (20 + p) ≤ 500 := ⟨hK.2.2.1, hK.2.2.2.1, hK.2.2.2.2.1, hK.2.2.2.2.2.1⟩
  have hK40 : now p = 1 → now (10 + p) ≤ 40 := hK.2.2.2.2.2.2.2.2.2.2.2.2.1
  obtain ⟨fa, sf, s1, s2, s3⟩ := hs
  refine r_iconst S dX1_addStrip_0 ?_
  refine r_istore (L' := [(4, .int (iI 1)), (0, .ref (B 1)), (1, .ref (B (rB p))), (2, .ref (B (rB (1 + p)))), (3, .ref sa)]) S dX1_addStrip_1 (by decide) rfl ?_
  have L3 : ∀ (N : Nat) (Gk : gh) (f : Int → Int) (n : Int), (1 + now (10 + p) - n).toNat < N → (gExt G Gk (cR B)) → (cC D B (upI row p f) most Gk) → (1 ≤ n ∧ n ≤ 1 + now (10 + p)) → (∀ s : Int, 0 ≤ s → s ≤ most → minUp now p n (row (1 + p)) s (f s)) → V F 5 Gk 0 0 3 [(0, .ref (B 1)), (1, .ref (B (rB p))), (2, .ref (B (rB (1 + p)))), (3, .ref sa), (4, .int (iI n))] [] := by
    intro N
    induction N with
    | zero => intro Gk f n hN; exact absurd hN (Nat.not_lt_zero _)
    | succ N ih3 =>
      intro Gk f n hN3 hxk hck hn hf
      refine r_iload S dX1_addStrip_3 4 rfl ?_
      refine r_aload_n S dX1_addStrip_5 3 rfl ?_
      refine r_get S gtX1_56_X8 (Im.mono s1 (gExt.up hxk hcN)).1 rfl dX1_addStrip_6 ?_
      refine r_icmp_gt S 32 dX1_addStrip_9 (by decide) (by omega) (by omega) (fun c9 => ?_) (fun c9 => ?_)
      · skip
        exact ret.tv dX1_addStrip_32 (by omega) (by omega) ⟨f, hck, fun s s0 s1 => by rw [show 1 + now (10 + p) = n by omega]; exact hf s s0 s1⟩
      · skip
        have hpb := strip_1 hok hp e1 (n := n) (by omega)
        refine r_aload_n S dX1_addStrip_12 0 rfl ?_
        refine r_aload_n S dX1_addStrip_13 1 rfl ?_
        refine r_aload_n S dX1_addStrip_14 2 rfl ?_
        refine r_aload_n S dX1_addStrip_15 3 rfl ?_
        refine r_iload S dX1_addStrip_16 4 rfl ?_
        refine (c_V_P (As := [.int (iI n)]) (st := [.ref (B (rB (1 + p))), .ref (B (rB p)), .ref (B 1)]) S (kX8_worth ((Im.mono s1 (gExt.up hxk hcN)).1) ((Im.mono s2 (gExt.up hxk hcN)).1) s3 e1 ⟨by omega, by omega⟩ ⟨by omega, by omega⟩) moX8_worth ⟨by decide, by decide⟩ ⟨by omega, by omega⟩ rfl (Nat.le_of_ble_eq_true rfl) w540 w403 w980 ((Im.mono s1 (gExt.up hxk hcN)).1) rfl rfl dX1_addStrip_18).goI (fun r18 hc18 => ?_)
        rw [hc18]
        refine r_iload S dX1_addStrip_21 4 rfl ?_
        refine (c_V_T (As := [.ref (B (rB p)), .ref (B (rB (1 + p))), .int (iI (paysF now p n)), .int (iI n)]) (st := []) S (kX1_offer hck hmost (rwBd_up hok hp (by omega) hrw hf) ⟨by omega, by omega⟩ ⟨by omega, by omega⟩ ⟨by omega, by omega⟩) moX1_offer ⟨by decide, by decide⟩ ⟨(by show _ ≤ 0; omega), (by show _ ≤ 0; omega)⟩ rfl (Nat.le_of_ble_eq_true rfl) w541 w543 w7 hck.1 rfl rfl dX1_addStrip_23).goV S hb hM (fun G23 hx23 hcc23 => ?_)
        have hxc23 := hxk.tr2 hx23
        refine r_iinc_e (L' := [(4, .int (iI (1 + n))), (0, .ref (B 1)), (1, .ref (B (rB p))), (2, .ref (B (rB (1 + p)))), (3, .ref sa)]) (1 + n) (by omega) S dX1_addStrip_26 4 rfl (by decide) rfl ?_
        refine r_goto S 3 dX1_addStrip_29 (by decide) ?_
        refine V.sub [1, 2, 3, 4, 0] rfl ?_
        exact ih3 G23 (offR most (paysF now p n) n f (row (1 + p))) (1 + n) (by omega) hxc23 (by have h := hcc23; rw [upI_s, upI_up, upI_n (show (1 + p) ≠ p by omega)] at h; exact h) (by omega) (fun s s0 s1 => minUp_strip e1 (by omega) s1 (hf s s0 s1))
  refine V.sub [1, 2, 3, 4, 0] rfl ?_
  exact L3 _ G (row p) 1 (Nat.lt_succ_self _) gExt.rf (by rw [upI_id]; exact hcc) (by omega) hf0

def ptP (now : Int → Int) (p lf pt : Int) : Prop := (0 < lf → pt = now (10 + p) - lf + tgF now p) ∧ tgF now p ≤ pt ∧ pt ≤ 130 ∧ (now p = 3 → pt % 2 = 0)
theorem ptP_0 {now : Int → Int} {p : Int} : ptP now p (now (10 + p)) (tgF now p) := ⟨fun _ => by omega, Int.le_refl _, by have := tgF_1 now p; omega, fun q => by have := tgF_1 now p; omega⟩
theorem ptP_1 {now : Int → Int} {p lf pt : Int} (h : ptP now p lf pt) : 1 ≤ pt ∧ pt ≤ 130 := ⟨by have := tgF_1 now p; have := h.2.1; omega, h.2.2.1⟩
theorem ptP_3 {now : Int → Int} {p lf pt : Int} (h : ptP now p lf pt) (q : now p = 3) : pt % 2 = 0 ∧ 2 ≤ pt ∧ (0 < lf → pt = now (10 + p) - lf + 2) := by
  have h1 := tgF_1 now p
  have h2 := h.2.1
  exact ⟨h.2.2.2 q, by omega, fun z => by have := h.1 z; omega⟩
theorem ptP_n {now : Int → Int} {p lf pt : Int} (h : ptP now p lf pt) (q : now p ≠ 3) : 0 < lf → pt = now (10 + p) - lf + 1 := fun z => by
  have h1 := tgF_1 now p
  have := h.1 z
  omega
theorem ptP_s {now : Int → Int} {p lf pt : Int} (h : ptP now p lf pt) (hl : 0 < lf ∧ lf ≤ now (10 + p) ∧ now (10 + p) ≤ 64) : ptP now p (lf - min pt lf) (2 * pt) := by
  have h1 := tgF_1 now p
  obtain ⟨a, b, c, d⟩ := h
  have := a hl.1
  exact ⟨fun z => by omega, by omega, by omega, fun _ => by omega⟩

set_option maxRecDepth 20000 in
set_option maxHeartbeats 2000000 in
theorem kX1_addAlike {D : va_G} {B : Nat → Nat} {row : Int → Int → Int} {most : Int} {G : gh} (hcc : cC D B row most G) (hmost : 0 ≤ most ∧ most < 3000) {N0 : Nat → Prop} {now : Int → Int} {p : Int} (hrw : rwBd row most p) (hok : mOK now) (hp : 0 ≤ p ∧ p < 10) (hcN : ∀ b, cR B b → N0 b) {ha0 : Nat} (h1 : now p ≠ 1) (hne : now p ≠ -1) (hh : hO D N0 G now p ha0) (hf0 : ∀ s : Int, 0 ≤ s → s ≤ most → minUp now p 1 (row (1 + p)) s (row p s)) : CT ⟨"PostageCounter$Choices", "addAlike", "([ILPostageCounter$Plain;)V"⟩ prog_3_method_3_code 7 none 1 26 0 0 D [.ref (B 1), .ref (B (rB p)), .ref ha0] G (cR B) (tV (fun G' => ∃ f : Int → Int, cC D B (upI row p f) most G' ∧ ∀ s : Int, 0 ≤ s → s ≤ most → minUp now p (1 + now (10 + p)) (row (1 + p)) s (f s))) := by
  refine CT.enter (by decide +kernel) (Nat.le_of_ble_eq_true rfl) (fun F S ret hb hM hI => ?_)
  show V F 7 G 0 0 0 [(0, .ref (B 1)), (1, .ref (B (rB p))), (2, .ref ha0)] []
  have hK := hok.1 p hp.1 hp.2
  have hK4 : 0 ≤ now (10 + p) ∧ now (10 + p) ≤ 64 ∧ 0 ≤ now (20 + p) ∧ now (20 + p) ≤ 500 := ⟨hK.2.2.1, hK.2.2.2.1, hK.2.2.2.2.1, hK.2.2.2.2.2.1⟩
  have hface := face_1 hok hp h1 hne
  refine r_aload_n S dX1_addAlike_0 2 rfl ?_
  refine rH_count S hh gtX1_40_X0 gtX1_40_X3 gtX1_40_X4 gtX1_40_X6 gtX1_40_X8 dX1_addAlike_1 ?_
  refine r_istore_n (L' := [(3, .int (iI (now (10 + p)))), (0, .ref (B 1)), (1, .ref (B (rB p))), (2, .ref ha0)]) S dX1_addAlike_4 (by decide) rfl ?_
  refine r_aload_n S dX1_addAlike_5 3 rfl ?_
  refine (vdH_together (hh := hh) hok hp (st := []) S  ⟨by decide, by decide⟩ ⟨(by show _ ≤ 0; omega), (by show _ ≤ 0; omega)⟩ (Nat.le_of_ble_eq_true rfl) w549 dX1_addAlike_6).goI (fun r6 hc6 => ?_)
  rw [hc6]
  refine r_istore (L' := [(4, .int (iI (tgF now p))), (3, .int (iI (now (10 + p)))), (0, .ref (B 1)), (1, .ref (B (rB p))), (2, .ref ha0)]) S dX1_addAlike_9 (by decide) rfl ?_
  refine r_iconst S dX1_addAlike_11 ?_
  refine r_istore (L' := [(5, .int (iI 0)), (4, .int (iI (tgF now p))), (3, .int (iI (now (10 + p)))), (0, .ref (B 1)), (1, .ref (B (rB p))), (2, .ref ha0)]) S dX1_addAlike_12 (by decide) rfl ?_
  have L14 : ∀ (N : Nat) (Gk : gh) (f : Int → Int) (lf : Int) (pt : Int) (i : Int), (64 - i).toNat < N → (gExt G Gk (cR B)) → (cC D B (upI row p f) most Gk) → (0 ≤ lf ∧ lf ≤ now (10 + p)) → (∀ s : Int, 0 ≤ s → s ≤ most → minUp now p (1 + (now (10 + p) - lf)) (row (1 + p)) s (f s)) → (now p = 3 → lf % 2 = 0) → (0 ≤ i ∧ i ≤ 64 ∧ lf ≤ 64 - i) → (ptP now p lf pt) → V F 7 Gk 0 0 14 [(0, .ref (B 1)), (1, .ref (B (rB p))), (2, .ref ha0), (3, .int (iI lf)), (4, .int (iI pt)), (5, .int (iI i))] [] := by
    intro N
    induction N with
    | zero => intro Gk f lf pt i hN; exact absurd hN (Nat.not_lt_zero _)
    | succ N ih14 =>
      intro Gk f lf pt i hN14 hxk hck hlf hf hev hi hpt
      refine r_iload S dX1_addAlike_14 5 rfl ?_
      refine r_bipush S dX1_addAlike_16 (by decide) ?_
      refine r_icmp_ge S 65 dX1_addAlike_18 (by decide) (by omega) (by omega) (fun c18 => ?_) (fun c18 => ?_)
      · skip
        exact ret.tv dX1_addAlike_65 (by omega) (by omega) ⟨f, hck, fun s s0 s1 => by have h := hf s s0 s1; rw [show now (10 + p) - lf = now (10 + p) by omega] at h; exact h⟩
      · skip
        refine r_iload_n S dX1_addAlike_21 3 rfl ?_
        refine r_if_le S 65 dX1_addAlike_22 (by decide) (by omega) (fun c22 => ?_) (fun c22 => ?_)
        · skip
          exact ret.tv dX1_addAlike_65 (by omega) (by omega) ⟨f, hck, fun s s0 s1 => by have h := hf s s0 s1; rw [show now (10 + p) - lf = now (10 + p) by omega] at h; exact h⟩
        · skip
          have hp1 := ptP_1 hpt
          have hmb := mul_bd (a := min pt lf) (b := now (20 + p)) ⟨by omega, by omega⟩ ⟨hface, by omega⟩
          refine r_iload S dX1_addAlike_25 4 rfl ?_
          refine r_iload_n S dX1_addAlike_27 3 rfl ?_
          refine r_mmin w532 w87 w41 w88 (by decide) (Nat.le_of_ble_eq_true rfl) ⟨by omega, by omega⟩ (by omega) (by omega) S dX1_addAlike_28 ?_
          refine r_istore (L' := [(6, .int (iI (min pt lf))), (0, .ref (B 1)), (1, .ref (B (rB p))), (2, .ref ha0), (3, .int (iI lf)), (4, .int (iI pt)), (5, .int (iI i))]) S dX1_addAlike_31 (by decide) rfl ?_
          refine r_aload_n S dX1_addAlike_33 1 rfl ?_
          refine r_aload_n S dX1_addAlike_34 2 rfl ?_
          refine r_aload_n S dX1_addAlike_35 2 rfl ?_
          refine r_iload S dX1_addAlike_36 0 rfl ?_
          refine r_aload_n S dX1_addAlike_38 3 rfl ?_
          refine rH_face S (hO.mono hh (gExt.up hxk hcN)) h1 gtX1_49_X0 gtX1_49_X3 gtX1_49_X4 gtX1_49_X6 dX1_addAlike_39 ?_
          refine r_imul S dX1_addAlike_42 ?_
          refine r_iload S dX1_addAlike_43 0 rfl ?_
          refine (c_V_T (As := [.ref (B (rB p)), .ref (B (rB p)), .int (iI ((min pt lf) * (now (20 + p)))), .int (iI (min pt lf))]) (st := []) S (kX1_offerS hck hmost (rwBd_up hok hp (by omega) hrw hf) ⟨by omega, by omega⟩ ⟨by omega, by omega⟩ ⟨by omega, by omega⟩) moX1_offer ⟨by decide, by decide⟩ ⟨(by show _ ≤ 0; omega), (by show _ ≤ 0; omega)⟩ rfl (Nat.le_of_ble_eq_true rfl) w541 w543 w7 hck.1 rfl rfl dX1_addAlike_45).goV S hb hM (fun G45 hx45 hcc45 => ?_)
          have hxc45 := hxk.tr2 hx45
          refine r_iload_n S dX1_addAlike_48 4 rfl ?_
          refine r_iload S dX1_addAlike_49 0 rfl ?_
          refine r_isub_e (lf - min pt lf) (by omega) S dX1_addAlike_51 ?_
          refine r_istore_n (L' := [(3, .int (iI (lf - min pt lf))), (6, .int (iI (min pt lf))), (0, .ref (B 1)), (1, .ref (B (rB p))), (2, .ref ha0), (4, .int (iI pt)), (5, .int (iI i))]) S dX1_addAlike_52 (by decide) rfl ?_
          refine r_iload S dX1_addAlike_53 5 rfl ?_
          refine r_iconst S dX1_addAlike_55 ?_
          refine r_imul_e (2 * pt) (by omega) S dX1_addAlike_56 ?_
          refine r_istore (L' := [(4, .int (iI (2 * pt))), (3, .int (iI (lf - min pt lf))), (6, .int (iI (min pt lf))), (0, .ref (B 1)), (1, .ref (B (rB p))), (2, .ref ha0), (5, .int (iI i))]) S dX1_addAlike_57 (by decide) rfl ?_
          refine r_iinc_e (L' := [(5, .int (iI (1 + i))), (4, .int (iI (2 * pt))), (3, .int (iI (lf - min pt lf))), (6, .int (iI (min pt lf))), (0, .ref (B 1)), (1, .ref (B (rB p))), (2, .ref ha0)]) (1 + i) (by omega) S dX1_addAlike_59 6 rfl (by decide) rfl ?_
          refine r_goto S 14 dX1_addAlike_62 (by decide) ?_
          refine V.sub [4, 5, 6, 2, 1, 0] rfl ?_
          exact ih14 G45 (offR most (min pt lf * now (20 + p)) (min pt lf) f f) (lf - min pt lf) (2 * pt) (1 + i) (by omega) hxc45 (by have h := hcc45; rw [upI_s, upI_up] at h; exact h) (by omega) (fun s s0 s1 => by have h := minUp_unit (most := most) (f := f) (B := row (1 + p)) (T := now (10 + p) - lf) (st := min pt lf) h1 (by omega) (fun q => by have := hev q; have := cnt_even hok hp q; omega) (by have := ptP_1 hpt; omega) (fun q => by have := hev q; have := ptP_3 hpt q; omega) (fun q => by have := ptP_n hpt q; omega) hface ⟨s0, s1⟩ (fun x x0 x1 => (hrw (1 + p) x (Or.inr rfl) x0 x1).1) hf; rw [show 1 + (now (10 + p) - lf + min pt lf) = 1 + (now (10 + p) - (lf - min pt lf)) by omega] at h; exact h) (fun q => by have := hev q; have := ptP_3 hpt q; omega) (by have := ptP_1 hpt; omega) (ptP_s hpt (by omega))
  refine V.sub [3, 4, 5, 2, 1, 0] rfl ?_
  exact L14 _ G (row p) (now (10 + p)) (tgF now p) 0 (Nat.lt_succ_self _) gExt.rf (by rw [upI_id]; exact hcc) (by omega) (by rw [show 1 + (now (10 + p) - now (10 + p)) = 1 by omega]; exact hf0) (fun q => cnt_even hok hp q) (by omega) ptP_0
