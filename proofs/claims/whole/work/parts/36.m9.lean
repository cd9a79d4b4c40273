set_option maxRecDepth 20000 in
set_option maxHeartbeats 2000000 in
theorem kX11_torn {D : va_G} {A : Nat → Nat} {km rd : Int} {now reel : Int → Int} {hist : Int → Int → Int} {G : gh} (hq : mQ D A now hist km rd reel G) (hok : mOK now) {l i : Int} (hl : inR l) (hi : inR i) : CT ⟨"PostageCounterModel", "torn", "(II)I"⟩ prog_13_method_45_code 6 (some .int) 2 43 0 0 D [.ref (A 0), .int (iI l), .int (iI i)] G (mM A) (tI (fun z G' => sTorn now l i z ∧ mQ D A now hist km rd reel G')) := by
  refine CT.enter (by decide +kernel) (Nat.le_of_ble_eq_true rfl) (fun F S ret hb hM hI => ?_)
  show V F 6 G 0 0 0 [(0, .ref (A 0)), (1, .int (iI l)), (2, .int (iI i))] []
  obtain ⟨th, ke, kept, part, best, hm, hkp⟩ := hq
  have hN := hok.2.2.2.2.2.2.1.1
  have hN2 := hok.2.2.2.2.2.2.1.2.1
  refine r_aload_n S dX11_torn_0 0 rfl ?_
  refine r_iconst S dX11_torn_1 ?_
  refine m_put_th S hb hM hm ptX11_27_X11 dX11_torn_2 (fun G2 hm2 => ?_)
  refine r_aload_n S dX11_torn_5 0 rfl ?_
  refine r_iload_n S dX11_torn_6 1 rfl ?_
  refine (c_V_P (As := [.int (iI l)]) (st := []) S (kX11_isLetter hm2 hok (by omega)) moX11_isLetter ⟨by decide, by decide⟩ ⟨by omega, by omega⟩ rfl (Nat.le_of_ble_eq_true rfl) w912 w914 w28 hm2.1 rfl rfl dX11_torn_7).goI (fun r7 hc7 => ?_)
  refine r_if_ne S 16 dX11_torn_10 (by decide) (by omega) (fun c10 => ?_) (fun c10 => ?_)
  · skip
    replace hc7 := zz1 hc7 c10
    refine r_iconst S dX11_torn_16 ?_
    refine r_istore_n (L' := [(3, .int (iI 0)), (0, .ref (A 0)), (1, .int (iI l)), (2, .int (iI i))]) S dX11_torn_17 (by decide) rfl ?_
    refine r_iconst S dX11_torn_18 ?_
    refine r_istore (L' := [(4, .int (iI 0)), (3, .int (iI 0)), (0, .ref (A 0)), (1, .int (iI l)), (2, .int (iI i))]) S dX11_torn_19 (by decide) rfl ?_
    have L21 : ∀ (N : Nat) (n : Int) (p : Int), ∀ (G : gh), mS D A 0 ke km rd now kept reel part best G →  (10 - p).toNat < N → (0 ≤ p ∧ p ≤ 10) → (n = sumI (tl now l) (64 * p).toNat) → (∀ m, 0 ≤ m → m < 64 * p → tl now l m = 1 → sumI (tl now l) m.toNat ≠ i) → V F 6 G 0 0 21 [(0, .ref (A 0)), (1, .int (iI l)), (2, .int (iI i)), (3, .int (iI n)), (4, .int (iI p))] [] := by
      intro N
      induction N with
      | zero => intro n p G hm hN; exact absurd hN (Nat.not_lt_zero _)
      | succ N ih21 =>
        intro n p G hm hN21 hp hn hf
        refine r_iload S dX11_torn_21 4 rfl ?_
        refine r_bipush S dX11_torn_23 (by decide) ?_
        refine r_icmp_ge S 103 dX11_torn_25 (by decide) (by omega) (by omega) (fun c25 => ?_) (fun c25 => ?_)
        · skip
          refine r_iconst S dX11_torn_103 ?_
          exact ret.ti (-1) dX11_torn_104 (by omega) (by omega) ⟨Or.inr (Or.inr ⟨by omega, fun m h0 h1 => hf m h0 (by omega), rfl⟩), ⟨_, _, _, _, _, hm, hkp⟩⟩
        · skip
          refine r_iconst S dX11_torn_28 ?_
          refine r_istore (L' := [(5, .int (iI 0)), (0, .ref (A 0)), (1, .int (iI l)), (2, .int (iI i)), (3, .int (iI n)), (4, .int (iI p))]) S dX11_torn_29 (by decide) rfl ?_
          have L31 : ∀ (N : Nat) (n2 : Int) (k : Int), ∀ (G : gh), mS D A 0 ke km rd now kept reel part best G →  (64 - k).toNat < N → (0 ≤ k ∧ k ≤ 64) → (n2 = sumI (tl now l) (64 * p + k).toNat) → (∀ m, 0 ≤ m → m < 64 * p + k → tl now l m = 1 → sumI (tl now l) m.toNat ≠ i) → V F 6 G 0 0 31 [(0, .ref (A 0)), (1, .int (iI l)), (2, .int (iI i)), (3, .int (iI n2)), (4, .int (iI p)), (5, .int (iI k))] [] := by
            intro N
            induction N with
            | zero => intro n2 k G hm hN; exact absurd hN (Nat.not_lt_zero _)
            | succ N ih31 =>
              intro n2 k G hm hN31 hk hn2 hf2
              refine r_iload S dX11_torn_31 5 rfl ?_
              refine r_bipush S dX11_torn_33 (by decide) ?_
              refine r_icmp_ge S 97 dX11_torn_35 (by decide) (by omega) (by omega) (fun c35 => ?_) (fun c35 => ?_)
              · skip
                refine r_iinc_e (L' := [(4, .int (iI (1 + p))), (0, .ref (A 0)), (1, .int (iI l)), (2, .int (iI i)), (3, .int (iI n2)), (5, .int (iI k))]) (1 + p) (by omega) S dX11_torn_97 4 rfl (by decide) rfl ?_
                refine r_goto S 21 dX11_torn_100 (by decide) ?_
                refine V.sub [1, 2, 3, 4, 0] rfl ?_
                exact ih21 n2 (1 + p) _ hm (by omega) (by omega) (by rw [hn2]; congr 1; omega) (fun m h0 h1 => hf2 m h0 (by omega))
              · skip
                have hbd := tl_bd now l (64 * p + k).toNat
                refine r_aload_n S dX11_torn_38 0 rfl ?_
                refine m_get_now S hm gtX11_7_X11 dX11_torn_39 ?_
                refine r_sipush S dX11_torn_42 (by decide) ?_
                refine r_bipush S dX11_torn_45 (by decide) ?_
                refine r_iload_n S dX11_torn_47 1 rfl ?_
                refine r_imul S dX11_torn_48 ?_
                refine r_iadd_e (2127 + 20 * l) (by omega) S dX11_torn_49 ?_
                refine r_iconst S dX11_torn_50 ?_
                refine r_iload S dX11_torn_51 4 rfl ?_
                refine r_imul S dX11_torn_53 ?_
                refine r_iadd_e (2127 + 20 * l + 2 * p) (by omega) S dX11_torn_54 ?_
                refine r_iload S dX11_torn_55 5 rfl ?_
                refine r_bipush S dX11_torn_57 (by decide) ?_
                refine r_idiv S dX11_torn_59 (by omega) (by omega) ?_
                refine r_iadd_e (2127 + 20 * l + 2 * p + k / 32) (by omega) S dX11_torn_60 ?_
                refine m_ld_now S hm (by omega) (by omega) dX11_torn_61 ?_
                refine r_iload S dX11_torn_62 5 rfl ?_
                refine r_bipush S dX11_torn_64 (by decide) ?_
                refine r_irem S dX11_torn_66 (by omega) (by omega) ?_
                refine r_ishr S dX11_torn_67 (fun z67 hz67 ez67 => ?_)
                refine r_iconst S dX11_torn_68 ?_
                refine r_iand S dX11_torn_69 (fun z69 hz69 ez69 => ?_)
                have hz69 := shb_z (x := now (2127 + 20 * l + 2 * p + (k / 32))) (k := k % 32) ez67 ez69 hz69
                have htl : tl now l (64 * p + k) = z69 := by unfold tl; rw [show (64 * p + k) / 64 = p by omega, show (64 * p + k) % 64 = k by omega]; exact hz69.symm
                have h01 := shb_01 (now (2127 + 20 * l + 2 * p + (k / 32))) (k % 32)
                refine r_iconst S dX11_torn_70 ?_
                refine r_icmp_ne S 91 dX11_torn_71 (by decide) (by omega) (by omega) (fun c71 => ?_) (fun c71 => ?_)
                · skip
                  refine r_iinc_e (L' := [(5, .int (iI (1 + k))), (0, .ref (A 0)), (1, .int (iI l)), (2, .int (iI i)), (3, .int (iI n2)), (4, .int (iI p))]) (1 + k) (by omega) S dX11_torn_91 5 rfl (by decide) rfl ?_
                  refine r_goto S 31 dX11_torn_94 (by decide) ?_
                  refine V.sub [1, 2, 3, 4, 5, 0] rfl ?_
                  exact ih31 n2 (1 + k) _ hm (by omega) (by omega) (by rw [show (64 * p + (1 + k)).toNat = (1 + (64 * p + k)).toNat by omega, sumI_s _ (by omega), ← hn2, htl]; omega) (fun m h0 h1 h2 => by rcases (show m < 64 * p + k ∨ m = 64 * p + k by omega) with q | q; exact hf2 m h0 q h2; rw [q, ← hn2]; rw [q, htl] at h2; omega)
                · skip
                  refine r_iload_n S dX11_torn_74 3 rfl ?_
                  refine r_iload_n S dX11_torn_75 2 rfl ?_
                  refine r_icmp_ne S 88 dX11_torn_76 (by decide) (by omega) (by omega) (fun c76 => ?_) (fun c76 => ?_)
                  · skip
                    refine r_iinc_e (L' := [(3, .int (iI (1 + n2))), (0, .ref (A 0)), (1, .int (iI l)), (2, .int (iI i)), (4, .int (iI p)), (5, .int (iI k))]) (1 + n2) (by omega) S dX11_torn_88 3 rfl (by decide) rfl ?_
                    refine r_iinc_e (L' := [(5, .int (iI (1 + k))), (3, .int (iI (1 + n2))), (0, .ref (A 0)), (1, .int (iI l)), (2, .int (iI i)), (4, .int (iI p))]) (1 + k) (by omega) S dX11_torn_91 5 rfl (by decide) rfl ?_
                    refine r_goto S 31 dX11_torn_94 (by decide) ?_
                    refine V.sub [2, 3, 4, 1, 5, 0] rfl ?_
                    exact ih31 (1 + n2) (1 + k) _ hm (by omega) (by omega) (by rw [show (64 * p + (1 + k)).toNat = (1 + (64 * p + k)).toNat by omega, sumI_s _ (by omega), ← hn2, htl]; omega) (fun m h0 h1 h2 => by rcases (show m < 64 * p + k ∨ m = 64 * p + k by omega) with q | q; exact hf2 m h0 q h2; rw [q, ← hn2]; rw [q, htl] at h2; omega)
                  · skip
                    refine r_bipush S dX11_torn_79 (by decide) ?_
                    refine r_iload S dX11_torn_81 4 rfl ?_
                    refine r_imul S dX11_torn_83 ?_
                    refine r_iload S dX11_torn_84 5 rfl ?_
                    refine r_iadd_e (100 * p + k) (by omega) S dX11_torn_86 ?_
                    exact ret.ti (100 * p + k) dX11_torn_87 (by omega) (by omega) ⟨Or.inr (Or.inl ⟨by omega, 64 * p + k, by omega, by omega, by omega, by rw [← hn2]; omega, by omega⟩), ⟨_, _, _, _, _, hm, hkp⟩⟩
          refine V.sub [1, 2, 3, 4, 5, 0] rfl ?_
          exact L31 _ n 0 _ hm (Nat.lt_succ_self _) (by omega) (by rw [hn]; congr 1; omega) (fun m h0 h1 => hf m h0 (by omega))
    refine V.sub [2, 3, 4, 1, 0] rfl ?_
    exact L21 _ 0 0 _ hm2 (Nat.lt_succ_self _) (by omega) rfl (fun m h0 h1 => absurd h1 (by omega))
  · skip
    replace hc7 := zz0 hc7 c10
    refine r_bipush S dX11_torn_13 (by decide) ?_
    exact ret.ti (-3) dX11_torn_15 (by omega) (by omega) ⟨Or.inl ⟨by omega, rfl⟩, ⟨_, _, _, _, _, hm2, hkp⟩⟩
