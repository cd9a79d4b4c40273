set_option maxRecDepth 20000 in
set_option maxHeartbeats 2000000 in
theorem kX0_gentlestOne {D : va_G} {G : gh} {a : Nat} {q f n r c m : Int} {x fc lc : BitVec 64} (hB : bO G a q f n r c m x fc lc) (hs : shP r c) (hf : fcOK r c fc) (hl : lcOK r c lc) {now : Int → Int} {p : Int} (hq : wBP q) (hsq : sqOK now p x) (hpr : pairU now p q) (hx : ∀ k : Int, 0 ≤ k → k < 64 → bI x k = true → k < r * c) {bf : BitVec 64} {fr en : Int} (hfr : 0 ≤ fr ∧ fr ≤ 64) (hen : -100 ≤ en ∧ en ≤ 64) (hlb : ∀ j : Int, fr ≤ j → j < 64 → un now p q j → en ≤ csB c (r * c) x (bf ||| uB q x j)) : CP ⟨"PostageCounter$Block", "gentlestOne", "(JII)J"⟩ prog_2_method_16_code 12 (some .long) 2 55 D [.ref a, .long (lB bf), .int (iI fr), .int (iI en)] G (pL (fun z => g1R (un now p q) (fun j => csB c (r * c) x (bf ||| uB q x j)) (fun j => bf ||| uB q x j) fr z)) := by
  refine CP.enter (by decide +kernel) (Nat.le_of_ble_eq_true rfl) (fun F S ret => ?_)
  show V F 12 G 0 0 0 [(0, .ref a), (1, .long (lB bf)), (3, .int (iI fr)), (4, .int (iI en))] []
  have hrc := rc_bd hs.1.1 hs.1.2 hs.2.1 hs.2.2
  refine r_lconst S 0#64 dX0_gentlestOne_0 (by decide) ?_
  refine r_lstore (L' := [(5, .long (lB (0#64))), (0, .ref a), (1, .long (lB bf)), (3, .int (iI fr)), (4, .int (iI en))]) S dX0_gentlestOne_1 (by decide) rfl ?_
  refine r_bipush S dX0_gentlestOne_3 (by decide) ?_
  refine r_istore (L' := [(7, .int (iI 65)), (5, .long (lB (0#64))), (0, .ref a), (1, .long (lB bf)), (3, .int (iI fr)), (4, .int (iI en))]) S dX0_gentlestOne_5 (by decide) rfl ?_
  refine r_iload_n S dX0_gentlestOne_7 4 rfl ?_
  refine r_istore (L' := [(8, .int (iI fr)), (7, .int (iI 65)), (5, .long (lB (0#64))), (0, .ref a), (1, .long (lB bf)), (3, .int (iI fr)), (4, .int (iI en))]) S dX0_gentlestOne_8 (by decide) rfl ?_
  have L10 : ∀ (N : Nat) (bs : BitVec 64) (fw : Int) (j : Int), (64 - j).toNat < N → (fr ≤ j ∧ j ≤ 64) → (g1I (un now p q) (fun j => csB c (r * c) x (bf ||| uB q x j)) (fun j => bf ||| uB q x j) fr j fw bs) → V F 12 G 0 0 10 [(0, .ref a), (1, .long (lB bf)), (4, .int (iI en)), (5, .long (lB bs)), (7, .int (iI fw)), (8, .int (iI j))] [] := by
    intro N
    induction N with
    | zero => intro bs fw j hN; exact absurd hN (Nat.not_lt_zero _)
    | succ N ih10 =>
      intro bs fw j hN10 hj hg
      have hfw := g1I_few hg (fun j => csB_bd hs _ _)
      refine r_iload S dX0_gentlestOne_10 5 rfl ?_
      refine r_bipush S dX0_gentlestOne_12 (by decide) ?_
      refine r_icmp_ge S 86 dX0_gentlestOne_14 (by decide) (by omega) (by omega) (fun c14 => ?_) (fun c14 => ?_)
      · skip
        refine r_lload S dX0_gentlestOne_86 3 rfl ?_
        exact ret.l bs dX0_gentlestOne_88 (g1I_end hg hj.2 hen.2 hlb (by omega))
      · skip
        refine r_iload S dX0_gentlestOne_17 4 rfl ?_
        refine r_iload S dX0_gentlestOne_19 2 rfl ?_
        refine r_icmp_le S 86 dX0_gentlestOne_21 (by decide) (by omega) (by omega) (fun c21 => ?_) (fun c21 => ?_)
        · skip
          refine r_lload S dX0_gentlestOne_86 3 rfl ?_
          exact ret.l bs dX0_gentlestOne_88 (g1I_end hg hj.2 hen.2 hlb (by omega))
        · skip
          refine r_aload_n S dX0_gentlestOne_24 0 rfl ?_
          refine r_iload S dX0_gentlestOne_25 5 rfl ?_
          refine (vdB_unitAt (s := j) (h0 := ⟨by omega, by omega⟩) (st := []) S hB ⟨by decide, by decide⟩ ⟨by omega, by omega⟩ (Nat.le_of_ble_eq_true rfl) w596 dX0_gentlestOne_27).goL (fun r27 hc27 => ?_)
          have hun27 := uB_nz hq hsq hpr (s := j) (by omega) (by omega)
          rw [← hc27] at hun27
          refine r_lstore (L' := [(9, .long (lB r27)), (0, .ref a), (1, .long (lB bf)), (4, .int (iI en)), (5, .long (lB bs)), (7, .int (iI fw)), (8, .int (iI j))]) S dX0_gentlestOne_30 (by decide) rfl ?_
          refine r_lload S dX0_gentlestOne_32 0 rfl ?_
          refine r_lconst S 0#64 dX0_gentlestOne_34 (by decide) ?_
          refine r_lcmp S dX0_gentlestOne_35 (fun z35 hz35 ez35 => ?_)
          refine r_if_ne S 44 dX0_gentlestOne_36 (by decide) (by omega) (fun c36 => ?_) (fun c36 => ?_)
          · skip
            have hu : un now p q j := hun27.mp (fun e => c36 (ez35.mpr e))
            refine r_aload_n S dX0_gentlestOne_44 1 rfl ?_
            refine r_aload_n S dX0_gentlestOne_45 1 rfl ?_
            refine rB_squares S hB gtX0_27_X0 gtX0_27_X4 dX0_gentlestOne_46 ?_
            refine r_lload_n S dX0_gentlestOne_49 2 rfl ?_
            refine r_lload S dX0_gentlestOne_50 0 rfl ?_
            refine r_lor S dX0_gentlestOne_52 ?_
            refine r_ldc2 (BitVec.ofInt 64 (-1)) w328 (by decide) S dX0_gentlestOne_53 ?_
            refine r_lxor S dX0_gentlestOne_56 ?_
            refine r_land S dX0_gentlestOne_57 ?_
            refine (c_B_P (As := [.long (lB (x &&& ((bf ||| r27) ^^^ (BitVec.ofInt 64 (-1)))))]) (st := []) S (kX0_piecesOf hB hs hf hl (fun k k0 k1 hk => hx k k0 k1 (bB_and.mp hk).1)) moX0_piecesOf ⟨by decide, by decide⟩ ⟨by omega, by omega⟩ rfl (Nat.le_of_ble_eq_true rfl) w416 rfl w978 ⟨by decide +kernel, by decide +kernel, by decide +kernel⟩ w418 w2 w993 hB rfl dX0_gentlestOne_58).goI (fun r58 hc58 => ?_)
            have e58 : r58 = csB c (r * c) x (bf ||| uB q x j) := by rw [← hc27]; exact hc58
            have hb58 := csB_bd hs x (bf ||| uB q x j)
            refine r_istore (L' := [(11, .int (iI r58)), (9, .long (lB r27)), (0, .ref a), (1, .long (lB bf)), (4, .int (iI en)), (5, .long (lB bs)), (7, .int (iI fw)), (8, .int (iI j))]) S dX0_gentlestOne_61 (by decide) rfl ?_
            refine r_iload S dX0_gentlestOne_63 0 rfl ?_
            refine r_iload S dX0_gentlestOne_65 6 rfl ?_
            refine r_icmp_ge S 80 dX0_gentlestOne_67 (by decide) (by omega) (by omega) (fun c67 => ?_) (fun c67 => ?_)
            · skip
              refine r_iinc_e (L' := [(8, .int (iI (1 + j))), (11, .int (iI r58)), (9, .long (lB r27)), (0, .ref a), (1, .long (lB bf)), (4, .int (iI en)), (5, .long (lB bs)), (7, .int (iI fw))]) (1 + j) (by omega) S dX0_gentlestOne_80 7 rfl (by decide) rfl ?_
              refine r_goto S 10 dX0_gentlestOne_83 (by decide) ?_
              refine V.sub [3, 4, 5, 6, 7, 0] rfl ?_
              exact ih10 bs fw (1 + j) (by omega) (by omega) (g1I_keep hg (by show fw ≤ csB c (r * c) x (bf ||| uB q x j); rw [← e58]; omega) (csB_bd hs _ _).2)
            · skip
              refine r_iload S dX0_gentlestOne_70 0 rfl ?_
              refine r_istore (L' := [(7, .int (iI r58)), (11, .int (iI r58)), (9, .long (lB r27)), (0, .ref a), (1, .long (lB bf)), (4, .int (iI en)), (5, .long (lB bs)), (8, .int (iI j))]) S dX0_gentlestOne_72 (by decide) rfl ?_
              refine r_lload_n S dX0_gentlestOne_74 4 rfl ?_
              refine r_lload S dX0_gentlestOne_75 2 rfl ?_
              refine r_lor S dX0_gentlestOne_77 ?_
              refine r_lstore (L' := [(5, .long (lB (bf ||| r27))), (7, .int (iI r58)), (11, .int (iI r58)), (9, .long (lB r27)), (0, .ref a), (1, .long (lB bf)), (4, .int (iI en)), (8, .int (iI j))]) S dX0_gentlestOne_78 (by decide) rfl ?_
              refine r_iinc_e (L' := [(8, .int (iI (1 + j))), (5, .long (lB (bf ||| r27))), (7, .int (iI r58)), (11, .int (iI r58)), (9, .long (lB r27)), (0, .ref a), (1, .long (lB bf)), (4, .int (iI en))]) (1 + j) (by omega) S dX0_gentlestOne_80 7 rfl (by decide) rfl ?_
              refine r_goto S 10 dX0_gentlestOne_83 (by decide) ?_
              refine V.sub [5, 6, 7, 1, 2, 0] rfl ?_
              exact ih10 (bf ||| r27) r58 (1 + j) (by omega) (by omega) (by have h := g1I_take hg hj.1 hu (by rw [← e58]; omega); rw [show csB c (r * c) x (bf ||| uB q x j) = r58 from e58.symm, ← hc27] at h; exact h)
          · skip
            have hu : ¬ un now p q j := fun z => hun27.mpr z (ez35.mp c36)
            refine r_bipush S dX0_gentlestOne_39 (by decide) ?_
            refine r_goto S 61 dX0_gentlestOne_41 (by decide) ?_
            refine r_istore (L' := [(11, .int (iI 65)), (9, .long (lB r27)), (0, .ref a), (1, .long (lB bf)), (4, .int (iI en)), (5, .long (lB bs)), (7, .int (iI fw)), (8, .int (iI j))]) S dX0_gentlestOne_61 (by decide) rfl ?_
            refine r_iload S dX0_gentlestOne_63 0 rfl ?_
            refine r_iload S dX0_gentlestOne_65 6 rfl ?_
            refine r_icmp_ge S 80 dX0_gentlestOne_67 (by decide) (by omega) (by omega) (fun c67 => ?_) (fun c67 => absurd c67 (by omega))
            refine r_iinc_e (L' := [(8, .int (iI (1 + j))), (11, .int (iI 65)), (9, .long (lB r27)), (0, .ref a), (1, .long (lB bf)), (4, .int (iI en)), (5, .long (lB bs)), (7, .int (iI fw))]) (1 + j) (by omega) S dX0_gentlestOne_80 7 rfl (by decide) rfl ?_
            refine r_goto S 10 dX0_gentlestOne_83 (by decide) ?_
            refine V.sub [3, 4, 5, 6, 7, 0] rfl ?_
            exact ih10 bs fw (1 + j) (by omega) (by omega) (g1I_no hg hu)
  refine V.sub [3, 4, 6, 2, 1, 0] rfl ?_
  exact L10 _ (0#64) 65 fr (Nat.lt_succ_self _) (by omega) g1I_0

set_option maxRecDepth 20000 in
set_option maxHeartbeats 2000000 in
theorem kX0_gentlestTwo {D : va_G} {G : gh} {a : Nat} {q f n r c m : Int} {x fc lc : BitVec 64} (hB : bO G a q f n r c m x fc lc) (hs : shP r c) (hf : fcOK r c fc) (hl : lcOK r c lc) {now : Int → Int} {p : Int} (hq : wBP q) (hsq : sqOK now p x) (hpr : pairU now p q) (hx : ∀ k : Int, 0 ≤ k → k < 64 → bI x k = true → k < r * c) {en : Int} (hen : -100 ≤ en ∧ en ≤ 64) (hlb : ∀ u v : Int, un2 now p q u v → en ≤ csB c (r * c) x (uB q x u ||| uB q x v)) : CP ⟨"PostageCounter$Block", "gentlestTwo", "(I)J"⟩ prog_2_method_17_code 11 (some .long) 3 86 D [.ref a, .int (iI en)] G (pL (fun z => g2R (un2 now p q) (fun u v => csB c (r * c) x (uB q x u ||| uB q x v)) (fun u v => uB q x u ||| uB q x v) z)) := by
  refine CP.enter (by decide +kernel) (Nat.le_of_ble_eq_true rfl) (fun F S ret => ?_)
  show V F 11 G 0 0 0 [(0, .ref a), (1, .int (iI en))] []
  have hrc := rc_bd hs.1.1 hs.1.2 hs.2.1 hs.2.2
  refine r_lconst S 0#64 dX0_gentlestTwo_0 (by decide) ?_
  refine r_lstore_n (L' := [(2, .long (lB (0#64))), (0, .ref a), (1, .int (iI en))]) S dX0_gentlestTwo_1 (by decide) rfl ?_
  refine r_bipush S dX0_gentlestTwo_2 (by decide) ?_
  refine r_istore (L' := [(4, .int (iI 65)), (2, .long (lB (0#64))), (0, .ref a), (1, .int (iI en))]) S dX0_gentlestTwo_4 (by decide) rfl ?_
  refine r_iconst S dX0_gentlestTwo_6 ?_
  refine r_istore (L' := [(5, .int (iI 0)), (4, .int (iI 65)), (2, .long (lB (0#64))), (0, .ref a), (1, .int (iI en))]) S dX0_gentlestTwo_7 (by decide) rfl ?_
  have L9 : ∀ (N : Nat) (bs : BitVec 64) (fw : Int) (i : Int), (64 - i).toNat < N → (0 ≤ i ∧ i ≤ 64) → (g2I (un2 now p q) (fun u v => csB c (r * c) x (uB q x u ||| uB q x v)) (fun u v => uB q x u ||| uB q x v) i fw bs) → V F 11 G 0 0 9 [(0, .ref a), (1, .int (iI en)), (2, .long (lB bs)), (4, .int (iI fw)), (5, .int (iI i))] [] := by
    intro N
    induction N with
    | zero => intro bs fw i hN; exact absurd hN (Nat.not_lt_zero _)
    | succ N ih9 =>
      intro bs fw i hN9 hj hg
      have hfw := g2I_few hg (fun u v => csB_bd hs _ _)
      refine r_iload S dX0_gentlestTwo_9 4 rfl ?_
      refine r_bipush S dX0_gentlestTwo_11 (by decide) ?_
      refine r_icmp_ge S 103 dX0_gentlestTwo_13 (by decide) (by omega) (by omega) (fun c13 => ?_) (fun c13 => ?_)
      · skip
        refine r_lload_n S dX0_gentlestTwo_103 2 rfl ?_
        exact ret.l bs dX0_gentlestTwo_104 (g2I_end hg hen.2 (fun u v h => by have := h.2.1; have := h.2.2.1; omega) (fun u v h => hlb u v h) (by omega))
      · skip
        refine r_iload S dX0_gentlestTwo_16 3 rfl ?_
        refine r_iload_n S dX0_gentlestTwo_18 1 rfl ?_
        refine r_icmp_le S 103 dX0_gentlestTwo_19 (by decide) (by omega) (by omega) (fun c19 => ?_) (fun c19 => ?_)
        · skip
          refine r_lload_n S dX0_gentlestTwo_103 2 rfl ?_
          exact ret.l bs dX0_gentlestTwo_104 (g2I_end hg hen.2 (fun u v h => by have := h.2.1; have := h.2.2.1; omega) (fun u v h => hlb u v h) (by omega))
        · skip
          refine r_aload_n S dX0_gentlestTwo_22 0 rfl ?_
          refine r_iload S dX0_gentlestTwo_23 4 rfl ?_
          refine (vdB_unitAt (s := i) (h0 := ⟨by omega, by omega⟩) (st := []) S hB ⟨by decide, by decide⟩ ⟨by omega, by omega⟩ (Nat.le_of_ble_eq_true rfl) w596 dX0_gentlestTwo_25).goL (fun r25 hc25 => ?_)
          have hun25 := uB_nz hq hsq hpr (s := i) (by omega) (by omega)
          rw [← hc25] at hun25
          refine r_lstore (L' := [(6, .long (lB r25)), (0, .ref a), (1, .int (iI en)), (2, .long (lB bs)), (4, .int (iI fw)), (5, .int (iI i))]) S dX0_gentlestTwo_28 (by decide) rfl ?_
          refine r_lload S dX0_gentlestTwo_30 0 rfl ?_
          refine r_lconst S 0#64 dX0_gentlestTwo_32 (by decide) ?_
          refine r_lcmp S dX0_gentlestTwo_33 (fun z33 hz33 ez33 => ?_)
          refine r_if_ne S 41 dX0_gentlestTwo_34 (by decide) (by omega) (fun c34 => ?_) (fun c34 => ?_)
          · skip
            have hu : un now p q i := hun25.mp (fun e => c34 (ez33.mpr e))
            refine r_aload_n S dX0_gentlestTwo_41 1 rfl ?_
            refine r_lload S dX0_gentlestTwo_42 0 rfl ?_
            refine r_iload S dX0_gentlestTwo_44 5 rfl ?_
            refine r_iconst S dX0_gentlestTwo_46 ?_
            refine r_iadd_e (1 + i) (by omega) S dX0_gentlestTwo_47 ?_
            refine r_iload_n S dX0_gentlestTwo_48 2 rfl ?_
            refine (c_B_P (As := [.long (lB r25), .int (iI (1 + i)), .int (iI en)]) (st := []) S (kX0_gentlestOne hB hs hf hl hq hsq hpr hx (by omega) hen (fun j j0 j1 hj => by rw [hc25]; exact hlb i j ⟨by omega, by omega, j1, hu, hj⟩)) moX0_gentlestOne ⟨by decide, by decide⟩ ⟨by omega, by omega⟩ rfl (Nat.le_of_ble_eq_true rfl) w615 rfl w987 ⟨by decide +kernel, by decide +kernel, by decide +kernel⟩ w617 w13 w998 hB rfl dX0_gentlestTwo_49).goL (fun r49 hc49 => ?_)
            rw [hc25] at hc49
            refine r_lstore (L' := [(8, .long (lB r49)), (6, .long (lB r25)), (0, .ref a), (1, .int (iI en)), (2, .long (lB bs)), (4, .int (iI fw)), (5, .int (iI i))]) S dX0_gentlestTwo_52 (by decide) rfl ?_
            refine r_lload S dX0_gentlestTwo_54 0 rfl ?_
            refine r_lconst S 0#64 dX0_gentlestTwo_56 (by decide) ?_
            refine r_lcmp S dX0_gentlestTwo_57 (fun z57 hz57 ez57 => ?_)
            refine r_if_ne S 66 dX0_gentlestTwo_58 (by decide) (by omega) (fun c58 => ?_) (fun c58 => ?_)
            · skip
              obtain ⟨b2, hb0, hb1, hub, hzb, hm1b, hm2b⟩ := hc49.resolve_left (fun z => c58 (ez57.mpr z.1))
              replace hzb : r49 = uB q x i ||| uB q x b2 := hzb
              have hv2 : un2 now p q i b2 := ⟨by omega, by omega, hb1, hu, hub⟩
              have hm1 : ∀ v : Int, un2 now p q i v → csB c (r * c) x (uB q x i ||| uB q x b2) ≤ csB c (r * c) x (uB q x i ||| uB q x v) := fun v z => hm1b v (by have := z.2.1; omega) z.2.2.1 z.2.2.2.2
              have hm2 : ∀ v : Int, un2 now p q i v → v < b2 → csB c (r * c) x (uB q x i ||| uB q x b2) < csB c (r * c) x (uB q x i ||| uB q x v) := fun v z zl => hm2b v (by have := z.2.1; omega) zl z.2.2.2.2
              refine r_aload_n S dX0_gentlestTwo_66 2 rfl ?_
              refine r_aload_n S dX0_gentlestTwo_67 2 rfl ?_
              refine rB_squares S hB gtX0_27_X0 gtX0_27_X4 dX0_gentlestTwo_68 ?_
              refine r_lload S dX0_gentlestTwo_71 0 rfl ?_
              refine r_ldc2 (BitVec.ofInt 64 (-1)) w328 (by decide) S dX0_gentlestTwo_73 ?_
              refine r_lxor S dX0_gentlestTwo_76 ?_
              refine r_land S dX0_gentlestTwo_77 ?_
              refine (c_B_P (As := [.long (lB (x &&& (r49 ^^^ (BitVec.ofInt 64 (-1)))))]) (st := []) S (kX0_piecesOf hB hs hf hl (fun k k0 k1 hk => hx k k0 k1 (bB_and.mp hk).1)) moX0_piecesOf ⟨by decide, by decide⟩ ⟨by omega, by omega⟩ rfl (Nat.le_of_ble_eq_true rfl) w416 rfl w978 ⟨by decide +kernel, by decide +kernel, by decide +kernel⟩ w418 w2 w993 hB rfl dX0_gentlestTwo_78).goI (fun r78 hc78 => ?_)
              have e78 : r78 = csB c (r * c) x (uB q x i ||| uB q x b2) := by rw [← hzb]; exact hc78
              have hb78 := csB_bd hs x (uB q x i ||| uB q x b2)
              refine r_istore (L' := [(10, .int (iI r78)), (8, .long (lB r49)), (6, .long (lB r25)), (0, .ref a), (1, .int (iI en)), (2, .long (lB bs)), (4, .int (iI fw)), (5, .int (iI i))]) S dX0_gentlestTwo_81 (by decide) rfl ?_
              refine r_iload S dX0_gentlestTwo_83 0 rfl ?_
              refine r_iload S dX0_gentlestTwo_85 6 rfl ?_
              refine r_icmp_ge S 97 dX0_gentlestTwo_87 (by decide) (by omega) (by omega) (fun c87 => ?_) (fun c87 => ?_)
              · skip
                refine r_iinc_e (L' := [(5, .int (iI (1 + i))), (10, .int (iI r78)), (8, .long (lB r49)), (6, .long (lB r25)), (0, .ref a), (1, .int (iI en)), (2, .long (lB bs)), (4, .int (iI fw))]) (1 + i) (by omega) S dX0_gentlestTwo_97 7 rfl (by decide) rfl ?_
                refine r_goto S 9 dX0_gentlestTwo_100 (by decide) ?_
                refine V.sub [4, 5, 6, 7, 0] rfl ?_
                exact ih9 bs fw (1 + i) (by omega) (by omega) (g2I_keep (j := b2) hg hm1 (by show fw ≤ csB c (r * c) x (uB q x i ||| uB q x b2); rw [← e78]; omega) (csB_bd hs _ _).2)
              · skip
                refine r_iload S dX0_gentlestTwo_90 0 rfl ?_
                refine r_istore (L' := [(4, .int (iI r78)), (10, .int (iI r78)), (8, .long (lB r49)), (6, .long (lB r25)), (0, .ref a), (1, .int (iI en)), (2, .long (lB bs)), (5, .int (iI i))]) S dX0_gentlestTwo_92 (by decide) rfl ?_
                refine r_lload S dX0_gentlestTwo_94 2 rfl ?_
                refine r_lstore_n (L' := [(2, .long (lB r49)), (4, .int (iI r78)), (10, .int (iI r78)), (8, .long (lB r49)), (6, .long (lB r25)), (0, .ref a), (1, .int (iI en)), (5, .int (iI i))]) S dX0_gentlestTwo_96 (by decide) rfl ?_
                refine r_iinc_e (L' := [(5, .int (iI (1 + i))), (2, .long (lB r49)), (4, .int (iI r78)), (10, .int (iI r78)), (8, .long (lB r49)), (6, .long (lB r25)), (0, .ref a), (1, .int (iI en))]) (1 + i) (by omega) S dX0_gentlestTwo_97 7 rfl (by decide) rfl ?_
                refine r_goto S 9 dX0_gentlestTwo_100 (by decide) ?_
                refine V.sub [6, 7, 1, 2, 0] rfl ?_
                exact ih9 r49 r78 (1 + i) (by omega) (by omega) (by have h := g2I_take hg hv2 hm1 hm2 (by rw [← e78]; omega); rw [show csB c (r * c) x (uB q x i ||| uB q x b2) = r78 from e78.symm, ← hzb] at h; exact h)
            · skip
              have hnv : ∀ v, ¬ un2 now p q i v := by
                rcases hc49 with ⟨-, h⟩ | ⟨b2, -, -, hb, hz, -⟩
                · exact fun v z => h v (by have := z.2.1; omega) z.2.2.1 z.2.2.2.2
                · exfalso
                  have e0 := ez57.mp c58
                  replace hz : r49 = uB q x i ||| uB q x b2 := hz
                  rw [hz] at e0
                  have h1 : bI (uB q x i ||| uB q x b2) i = true := bB_or.mpr (Or.inl ((uB_bit hq hsq (by omega) (by omega) (by omega) (by omega)).mpr ⟨hu.1, Int.le_refl _, by have := wBP_bd hq; omega, hu.2⟩))
                  rw [e0] at h1
                  exact bB_0 h1
              refine r_bipush S dX0_gentlestTwo_61 (by decide) ?_
              refine r_goto S 81 dX0_gentlestTwo_63 (by decide) ?_
              refine r_istore (L' := [(10, .int (iI 65)), (8, .long (lB r49)), (6, .long (lB r25)), (0, .ref a), (1, .int (iI en)), (2, .long (lB bs)), (4, .int (iI fw)), (5, .int (iI i))]) S dX0_gentlestTwo_81 (by decide) rfl ?_
              refine r_iload S dX0_gentlestTwo_83 0 rfl ?_
              refine r_iload S dX0_gentlestTwo_85 6 rfl ?_
              refine r_icmp_ge S 97 dX0_gentlestTwo_87 (by decide) (by omega) (by omega) (fun c87 => ?_) (fun c87 => absurd c87 (by omega))
              refine r_iinc_e (L' := [(5, .int (iI (1 + i))), (10, .int (iI 65)), (8, .long (lB r49)), (6, .long (lB r25)), (0, .ref a), (1, .int (iI en)), (2, .long (lB bs)), (4, .int (iI fw))]) (1 + i) (by omega) S dX0_gentlestTwo_97 7 rfl (by decide) rfl ?_
              refine r_goto S 9 dX0_gentlestTwo_100 (by decide) ?_
              refine V.sub [4, 5, 6, 7, 0] rfl ?_
              exact ih9 bs fw (1 + i) (by omega) (by omega) (g2I_no hg hnv)
          · skip
            have hu : ¬ un now p q i := fun z => hun25.mpr z (ez33.mp c34)
            have hnv : ∀ v, ¬ un2 now p q i v := fun v z => hu z.2.2.2.1
            refine r_lconst S 0#64 dX0_gentlestTwo_37 (by decide) ?_
            refine r_goto S 52 dX0_gentlestTwo_38 (by decide) ?_
            refine r_lstore (L' := [(8, .long (lB (0#64))), (6, .long (lB r25)), (0, .ref a), (1, .int (iI en)), (2, .long (lB bs)), (4, .int (iI fw)), (5, .int (iI i))]) S dX0_gentlestTwo_52 (by decide) rfl ?_
            refine r_lload S dX0_gentlestTwo_54 0 rfl ?_
            refine r_lconst S 0#64 dX0_gentlestTwo_56 (by decide) ?_
            refine r_lcmp S dX0_gentlestTwo_57 (fun z57 hz57 ez57 => ?_)
            have hz0 := ez57.mpr rfl
            refine r_if_ne S 66 dX0_gentlestTwo_58 (by decide) (by omega) (fun c58 => absurd c58 (by omega)) (fun c58 => ?_)
            refine r_bipush S dX0_gentlestTwo_61 (by decide) ?_
            refine r_goto S 81 dX0_gentlestTwo_63 (by decide) ?_
            refine r_istore (L' := [(10, .int (iI 65)), (8, .long (lB (0#64))), (6, .long (lB r25)), (0, .ref a), (1, .int (iI en)), (2, .long (lB bs)), (4, .int (iI fw)), (5, .int (iI i))]) S dX0_gentlestTwo_81 (by decide) rfl ?_
            refine r_iload S dX0_gentlestTwo_83 0 rfl ?_
            refine r_iload S dX0_gentlestTwo_85 6 rfl ?_
            refine r_icmp_ge S 97 dX0_gentlestTwo_87 (by decide) (by omega) (by omega) (fun c87 => ?_) (fun c87 => absurd c87 (by omega))
            refine r_iinc_e (L' := [(5, .int (iI (1 + i))), (10, .int (iI 65)), (8, .long (lB (0#64))), (6, .long (lB r25)), (0, .ref a), (1, .int (iI en)), (2, .long (lB bs)), (4, .int (iI fw))]) (1 + i) (by omega) S dX0_gentlestTwo_97 7 rfl (by decide) rfl ?_
            refine r_goto S 9 dX0_gentlestTwo_100 (by decide) ?_
            refine V.sub [4, 5, 6, 7, 0] rfl ?_
            exact ih9 bs fw (1 + i) (by omega) (by omega) (g2I_no hg hnv)
  refine V.sub [3, 4, 2, 1, 0] rfl ?_
  exact L9 _ (0#64) 65 0 (Nat.lt_succ_self _) (by omega) (g2I_0 (fun u v h => h.1))
