set_option maxRecDepth 20000 in
set_option maxHeartbeats 2000000 in
theorem kX0_piecesThatGo {D : va_G} {G : gh} {a : Nat} {q f n r c m : Int} {x fc lc : BitVec 64} (hB : bO G a q f n r c m x fc lc) (hs : shP r c) (hf : fcOK r c fc) (hl : lcOK r c lc) (hq : wBP q) (hx : ∀ k : Int, 0 ≤ k → k < 64 → bI x k = true → k < r * c) {u : Int} (hu : 0 ≤ u ∧ u ≤ 2) : CP ⟨"PostageCounter$Block", "piecesThatGo", "(I)I"⟩ prog_2_method_14_code 10 (some .int) 1 29 D [.ref a, .int (iI u)] G (pI (fun z => z = goU q u (pcw c (r * c) (PB x) (fun s => s = q)) (pcw c (r * c) (PB x) (fun s => s = 2 * q)))) := by
  refine CP.enter (by decide +kernel) (Nat.le_of_ble_eq_true rfl) (fun F S ret => ?_)
  show V F 10 G 0 0 0 [(0, .ref a), (1, .int (iI u))] []
  have hrc := rc_bd hs.1.1 hs.1.2 hs.2.1 hs.2.2
  have hqb := wBP_bd hq
  have ht1 := pcw_le c (r * c) (PB x) (fun s => s = q)
  have ht2 := pcw_le c (r * c) (PB x) (fun s => s = 2 * q)
  have ht3 := npc_bd c (r * c) (PB x) (by omega)
  refine r_iconst S dX0_piecesThatGo_0 ?_
  refine r_istore_n (L' := [(2, .int (iI 0)), (0, .ref a), (1, .int (iI u))]) S dX0_piecesThatGo_1 (by decide) rfl ?_
  refine r_iconst S dX0_piecesThatGo_2 ?_
  refine r_istore_n (L' := [(3, .int (iI 0)), (2, .int (iI 0)), (0, .ref a), (1, .int (iI u))]) S dX0_piecesThatGo_3 (by decide) rfl ?_
  refine r_aload_n S dX0_piecesThatGo_4 2 rfl ?_
  refine rB_squares S hB gtX0_27_X0 gtX0_27_X4 dX0_piecesThatGo_5 ?_
  refine r_lstore (L' := [(4, .long (lB x)), (3, .int (iI 0)), (2, .int (iI 0)), (0, .ref a), (1, .int (iI u))]) S dX0_piecesThatGo_8 (by decide) rfl ?_
  refine r_iconst S dX0_piecesThatGo_10 ?_
  refine r_istore (L' := [(6, .int (iI 0)), (4, .long (lB x)), (3, .int (iI 0)), (2, .int (iI 0)), (0, .ref a), (1, .int (iI u))]) S dX0_piecesThatGo_11 (by decide) rfl ?_
  have L13 : ∀ (N : Nat) (a1 : Int) (a2 : Int) (lf : BitVec 64) (i : Int), (64 - i).toNat < N → (0 ≤ i ∧ i ≤ 64) → (∀ k : Int, 0 ≤ k → k < 64 → bI lf k = true → k < r * c) → (a1 + pcw c (r * c) (PB lf) (fun s => s = q) = (pcw c (r * c) (PB x) (fun s => s = q))) → (a2 + pcw c (r * c) (PB lf) (fun s => s = 2 * q) = (pcw c (r * c) (PB x) (fun s => s = 2 * q))) → (cB lf ≤ 64 - i) → (0 ≤ a1 ∧ 0 ≤ a2) → V F 10 G 0 0 13 [(0, .ref a), (1, .int (iI u)), (2, .int (iI a1)), (3, .int (iI a2)), (4, .long (lB lf)), (6, .int (iI i))] [] := by
    intro N
    induction N with
    | zero => intro a1 a2 lf i hN; exact absurd hN (Nat.not_lt_zero _)
    | succ N ih13 =>
      intro a1 a2 lf i hN13 hi hsub h1 h2 hcb ha
      have hp1 := pcw_nn c (r * c) (PB lf) (fun s => s = q)
      have hp2 := pcw_nn c (r * c) (PB lf) (fun s => s = 2 * q)
      refine r_iload S dX0_piecesThatGo_13 5 rfl ?_
      refine r_bipush S dX0_piecesThatGo_15 (by decide) ?_
      refine r_icmp_ge S 95 dX0_piecesThatGo_17 (by decide) (by omega) (by omega) (fun c17 => ?_) (fun c17 => ?_)
      · skip
        have hz : lf = 0#64 := cB_z (by omega)
        rw [hz, pcw_0] at h1 h2
        refine r_iload_n S dX0_piecesThatGo_95 1 rfl ?_
        refine r_iconst S dX0_piecesThatGo_96 ?_
        refine r_icmp_ne S 112 dX0_piecesThatGo_97 (by decide) (by omega) (by omega) (fun c97 => ?_) (fun c97 => ?_)
        · skip
          refine r_iload_n S dX0_piecesThatGo_112 2 rfl ?_
          refine r_iload_n S dX0_piecesThatGo_113 1 rfl ?_
          refine r_mmin w610 w87 w41 w88 (by decide) (Nat.le_of_ble_eq_true rfl) ⟨by omega, by omega⟩ (by omega) (by omega) S dX0_piecesThatGo_114 ?_
          exact ret.i (min a1 u) dX0_piecesThatGo_117 (by unfold goU; rw [if_neg (fun z => by omega)]; omega)
        · skip
          refine r_iload_n S dX0_piecesThatGo_100 2 rfl ?_
          refine r_if_ne S 112 dX0_piecesThatGo_101 (by decide) (by omega) (fun c101 => ?_) (fun c101 => ?_)
          · skip
            refine r_iload_n S dX0_piecesThatGo_112 2 rfl ?_
            refine r_iload_n S dX0_piecesThatGo_113 1 rfl ?_
            refine r_mmin w610 w87 w41 w88 (by decide) (Nat.le_of_ble_eq_true rfl) ⟨by omega, by omega⟩ (by omega) (by omega) S dX0_piecesThatGo_114 ?_
            exact ret.i (min a1 u) dX0_piecesThatGo_117 (by unfold goU; rw [if_neg (fun z => by omega)]; omega)
          · skip
            refine r_iload_n S dX0_piecesThatGo_104 3 rfl ?_
            refine r_if_le S 112 dX0_piecesThatGo_105 (by decide) (by omega) (fun c105 => ?_) (fun c105 => ?_)
            · skip
              refine r_iload_n S dX0_piecesThatGo_112 2 rfl ?_
              refine r_iload_n S dX0_piecesThatGo_113 1 rfl ?_
              refine r_mmin w610 w87 w41 w88 (by decide) (Nat.le_of_ble_eq_true rfl) ⟨by omega, by omega⟩ (by omega) (by omega) S dX0_piecesThatGo_114 ?_
              exact ret.i (min a1 u) dX0_piecesThatGo_117 (by unfold goU; rw [if_neg (fun z => by omega)]; omega)
            · skip
              refine r_iconst S dX0_piecesThatGo_108 ?_
              refine r_goto S 117 dX0_piecesThatGo_109 (by decide) ?_
              exact ret.i 1 dX0_piecesThatGo_117 (by unfold goU; rw [if_pos ⟨by omega, by omega, by omega⟩])
      · skip
        refine r_lload S dX0_piecesThatGo_20 4 rfl ?_
        refine r_lconst S 0#64 dX0_piecesThatGo_22 (by decide) ?_
        refine r_lcmp S dX0_piecesThatGo_23 (fun z23 hz23 ez23 => ?_)
        refine r_if_eq S 95 dX0_piecesThatGo_24 (by decide) (by omega) (fun c24 => ?_) (fun c24 => ?_)
        · skip
          have hz : lf = 0#64 := ez23.mp c24
          rw [hz, pcw_0] at h1 h2
          refine r_iload_n S dX0_piecesThatGo_95 1 rfl ?_
          refine r_iconst S dX0_piecesThatGo_96 ?_
          refine r_icmp_ne S 112 dX0_piecesThatGo_97 (by decide) (by omega) (by omega) (fun c97 => ?_) (fun c97 => ?_)
          · skip
            refine r_iload_n S dX0_piecesThatGo_112 2 rfl ?_
            refine r_iload_n S dX0_piecesThatGo_113 1 rfl ?_
            refine r_mmin w610 w87 w41 w88 (by decide) (Nat.le_of_ble_eq_true rfl) ⟨by omega, by omega⟩ (by omega) (by omega) S dX0_piecesThatGo_114 ?_
            exact ret.i (min a1 u) dX0_piecesThatGo_117 (by unfold goU; rw [if_neg (fun z => by omega)]; omega)
          · skip
            refine r_iload_n S dX0_piecesThatGo_100 2 rfl ?_
            refine r_if_ne S 112 dX0_piecesThatGo_101 (by decide) (by omega) (fun c101 => ?_) (fun c101 => ?_)
            · skip
              refine r_iload_n S dX0_piecesThatGo_112 2 rfl ?_
              refine r_iload_n S dX0_piecesThatGo_113 1 rfl ?_
              refine r_mmin w610 w87 w41 w88 (by decide) (Nat.le_of_ble_eq_true rfl) ⟨by omega, by omega⟩ (by omega) (by omega) S dX0_piecesThatGo_114 ?_
              exact ret.i (min a1 u) dX0_piecesThatGo_117 (by unfold goU; rw [if_neg (fun z => by omega)]; omega)
            · skip
              refine r_iload_n S dX0_piecesThatGo_104 3 rfl ?_
              refine r_if_le S 112 dX0_piecesThatGo_105 (by decide) (by omega) (fun c105 => ?_) (fun c105 => ?_)
              · skip
                refine r_iload_n S dX0_piecesThatGo_112 2 rfl ?_
                refine r_iload_n S dX0_piecesThatGo_113 1 rfl ?_
                refine r_mmin w610 w87 w41 w88 (by decide) (Nat.le_of_ble_eq_true rfl) ⟨by omega, by omega⟩ (by omega) (by omega) S dX0_piecesThatGo_114 ?_
                exact ret.i (min a1 u) dX0_piecesThatGo_117 (by unfold goU; rw [if_neg (fun z => by omega)]; omega)
              · skip
                refine r_iconst S dX0_piecesThatGo_108 ?_
                refine r_goto S 117 dX0_piecesThatGo_109 (by decide) ?_
                exact ret.i 1 dX0_piecesThatGo_117 (by unfold goU; rw [if_pos ⟨by omega, by omega, by omega⟩])
        · skip
          refine r_aload_n S dX0_piecesThatGo_27 0 rfl ?_
          refine r_lload S dX0_piecesThatGo_28 4 rfl ?_
          refine (c_B_P (As := [.long (lB lf)]) (st := []) S (kX0_firstPieceOf hB hs hf hl hsub (fun e => c24 (ez23.mpr e))) moX0_firstPieceOf ⟨by decide, by decide⟩ ⟨by omega, by omega⟩ rfl (Nat.le_of_ble_eq_true rfl) w420 rfl w979 ⟨by decide +kernel, by decide +kernel, by decide +kernel⟩ w422 w3 w994 hB rfl dX0_piecesThatGo_30).goL (fun r30 hc30 => ?_)
          refine r_lstore (L' := [(7, .long (lB r30)), (0, .ref a), (1, .int (iI u)), (2, .int (iI a1)), (3, .int (iI a2)), (4, .long (lB lf)), (6, .int (iI i))]) S dX0_piecesThatGo_33 (by decide) rfl ?_
          refine r_lload S dX0_piecesThatGo_35 0 rfl ?_
          refine (c_S_P (As := [.long (lB r30)]) (st := []) S kJ_bitCount moJ13_bitCount ⟨by decide, by decide⟩ ⟨by omega, by omega⟩ rfl (Nat.le_of_ble_eq_true rfl) w262 w263 rfl dX0_piecesThatGo_37).goI (fun r37 hc37 => ?_)
          refine r_istore (L' := [(9, .int (iI r37)), (7, .long (lB r30)), (0, .ref a), (1, .int (iI u)), (2, .int (iI a1)), (3, .int (iI a2)), (4, .long (lB lf)), (6, .int (iI i))]) S dX0_piecesThatGo_40 (by decide) rfl ?_
          have hcb30 := cB_bd r30
          refine r_iload_n S dX0_piecesThatGo_42 4 rfl ?_
          refine r_iload S dX0_piecesThatGo_43 0 rfl ?_
          refine r_aload_n S dX0_piecesThatGo_45 2 rfl ?_
          refine (vdB_together (st := [.int (iI r37), .int (iI a1)]) S hB ⟨by decide, by decide⟩ ⟨by omega, by omega⟩ (Nat.le_of_ble_eq_true rfl) w586 dX0_piecesThatGo_46).goI (fun r46 hc46 => ?_)
          rw [hc46]
          refine r_icmp_ne S 56 dX0_piecesThatGo_49 (by decide) (by omega) (by omega) (fun c49 => ?_) (fun c49 => ?_)
          · skip
            refine r_iconst S dX0_piecesThatGo_56 ?_
            refine r_iadd_e a1 (by omega) S dX0_piecesThatGo_57 ?_
            refine r_istore_n (L' := [(2, .int (iI a1)), (9, .int (iI r37)), (7, .long (lB r30)), (0, .ref a), (1, .int (iI u)), (3, .int (iI a2)), (4, .long (lB lf)), (6, .int (iI i))]) S dX0_piecesThatGo_58 (by decide) rfl ?_
            refine r_iload_n S dX0_piecesThatGo_59 5 rfl ?_
            refine r_iload S dX0_piecesThatGo_60 1 rfl ?_
            refine r_iconst S dX0_piecesThatGo_62 ?_
            refine r_aload_n S dX0_piecesThatGo_63 3 rfl ?_
            refine (vdB_together (st := [.int (iI 2), .int (iI r37), .int (iI a2)]) S hB ⟨by decide, by decide⟩ ⟨by omega, by omega⟩ (Nat.le_of_ble_eq_true rfl) w586 dX0_piecesThatGo_64).goI (fun r64 hc64 => ?_)
            rw [hc64]
            refine r_imul S dX0_piecesThatGo_67 ?_
            refine r_icmp_ne S 75 dX0_piecesThatGo_68 (by decide) (by omega) (by omega) (fun c68 => ?_) (fun c68 => ?_)
            · skip
              refine r_iconst S dX0_piecesThatGo_75 ?_
              refine r_iadd_e a2 (by omega) S dX0_piecesThatGo_76 ?_
              refine r_istore_n (L' := [(3, .int (iI a2)), (2, .int (iI a1)), (9, .int (iI r37)), (7, .long (lB r30)), (0, .ref a), (1, .int (iI u)), (4, .long (lB lf)), (6, .int (iI i))]) S dX0_piecesThatGo_77 (by decide) rfl ?_
              refine r_lload S dX0_piecesThatGo_78 6 rfl ?_
              refine r_lload S dX0_piecesThatGo_80 3 rfl ?_
              refine r_ldc2 (BitVec.ofInt 64 (-1)) w328 (by decide) S dX0_piecesThatGo_82 ?_
              refine r_lxor S dX0_piecesThatGo_85 ?_
              refine r_land S dX0_piecesThatGo_86 ?_
              refine r_lstore (L' := [(4, .long (lB (lf &&& (r30 ^^^ (BitVec.ofInt 64 (-1)))))), (3, .int (iI a2)), (2, .int (iI a1)), (9, .int (iI r37)), (7, .long (lB r30)), (0, .ref a), (1, .int (iI u)), (6, .int (iI i))]) S dX0_piecesThatGo_87 (by decide) rfl ?_
              refine r_iinc_e (L' := [(6, .int (iI (1 + i))), (4, .long (lB (lf &&& (r30 ^^^ (BitVec.ofInt 64 (-1)))))), (3, .int (iI a2)), (2, .int (iI a1)), (9, .int (iI r37)), (7, .long (lB r30)), (0, .ref a), (1, .int (iI u))]) (1 + i) (by omega) S dX0_piecesThatGo_89 7 rfl (by decide) rfl ?_
              refine r_goto S 13 dX0_piecesThatGo_92 (by decide) ?_
              refine V.sub [6, 7, 3, 2, 1, 0] rfl ?_
              exact ih13 a1 a2 (lf &&& (r30 ^^^ (BitVec.ofInt 64 (-1)))) (1 + i) (by omega) (by omega) (fun k k0 k1 hk => hsub k k0 k1 (bB_and.mp hk).1) (by have h := pcw_fp hs hc30 (Q := fun s => s = q); rw [cInd_f (p := cB r30 = q) (by omega)] at h; omega) (by have h := pcw_fp hs hc30 (Q := fun s => s = 2 * q); rw [cInd_f (p := cB r30 = 2 * q) (by omega)] at h; omega) (by have h := fp_dec (by omega) hc30; omega) (by omega)
            · skip
              refine r_iconst S dX0_piecesThatGo_71 ?_
              refine r_goto S 76 dX0_piecesThatGo_72 (by decide) ?_
              refine r_iadd_e (1 + a2) (by omega) S dX0_piecesThatGo_76 ?_
              refine r_istore_n (L' := [(3, .int (iI (1 + a2))), (2, .int (iI a1)), (9, .int (iI r37)), (7, .long (lB r30)), (0, .ref a), (1, .int (iI u)), (4, .long (lB lf)), (6, .int (iI i))]) S dX0_piecesThatGo_77 (by decide) rfl ?_
              refine r_lload S dX0_piecesThatGo_78 6 rfl ?_
              refine r_lload S dX0_piecesThatGo_80 3 rfl ?_
              refine r_ldc2 (BitVec.ofInt 64 (-1)) w328 (by decide) S dX0_piecesThatGo_82 ?_
              refine r_lxor S dX0_piecesThatGo_85 ?_
              refine r_land S dX0_piecesThatGo_86 ?_
              refine r_lstore (L' := [(4, .long (lB (lf &&& (r30 ^^^ (BitVec.ofInt 64 (-1)))))), (3, .int (iI (1 + a2))), (2, .int (iI a1)), (9, .int (iI r37)), (7, .long (lB r30)), (0, .ref a), (1, .int (iI u)), (6, .int (iI i))]) S dX0_piecesThatGo_87 (by decide) rfl ?_
              refine r_iinc_e (L' := [(6, .int (iI (1 + i))), (4, .long (lB (lf &&& (r30 ^^^ (BitVec.ofInt 64 (-1)))))), (3, .int (iI (1 + a2))), (2, .int (iI a1)), (9, .int (iI r37)), (7, .long (lB r30)), (0, .ref a), (1, .int (iI u))]) (1 + i) (by omega) S dX0_piecesThatGo_89 7 rfl (by decide) rfl ?_
              refine r_goto S 13 dX0_piecesThatGo_92 (by decide) ?_
              refine V.sub [6, 7, 3, 2, 1, 0] rfl ?_
              exact ih13 a1 (1 + a2) (lf &&& (r30 ^^^ (BitVec.ofInt 64 (-1)))) (1 + i) (by omega) (by omega) (fun k k0 k1 hk => hsub k k0 k1 (bB_and.mp hk).1) (by have h := pcw_fp hs hc30 (Q := fun s => s = q); rw [cInd_f (p := cB r30 = q) (by omega)] at h; omega) (by have h := pcw_fp hs hc30 (Q := fun s => s = 2 * q); rw [cInd_t (p := cB r30 = 2 * q) (by omega)] at h; omega) (by have h := fp_dec (by omega) hc30; omega) (by omega)
          · skip
            refine r_iconst S dX0_piecesThatGo_52 ?_
            refine r_goto S 57 dX0_piecesThatGo_53 (by decide) ?_
            refine r_iadd_e (1 + a1) (by omega) S dX0_piecesThatGo_57 ?_
            refine r_istore_n (L' := [(2, .int (iI (1 + a1))), (9, .int (iI r37)), (7, .long (lB r30)), (0, .ref a), (1, .int (iI u)), (3, .int (iI a2)), (4, .long (lB lf)), (6, .int (iI i))]) S dX0_piecesThatGo_58 (by decide) rfl ?_
            refine r_iload_n S dX0_piecesThatGo_59 5 rfl ?_
            refine r_iload S dX0_piecesThatGo_60 1 rfl ?_
            refine r_iconst S dX0_piecesThatGo_62 ?_
            refine r_aload_n S dX0_piecesThatGo_63 3 rfl ?_
            refine (vdB_together (st := [.int (iI 2), .int (iI r37), .int (iI a2)]) S hB ⟨by decide, by decide⟩ ⟨by omega, by omega⟩ (Nat.le_of_ble_eq_true rfl) w586 dX0_piecesThatGo_64).goI (fun r64 hc64 => ?_)
            rw [hc64]
            refine r_imul S dX0_piecesThatGo_67 ?_
            refine r_icmp_ne S 75 dX0_piecesThatGo_68 (by decide) (by omega) (by omega) (fun c68 => ?_) (fun c68 => ?_)
            · skip
              refine r_iconst S dX0_piecesThatGo_75 ?_
              refine r_iadd_e a2 (by omega) S dX0_piecesThatGo_76 ?_
              refine r_istore_n (L' := [(3, .int (iI a2)), (2, .int (iI (1 + a1))), (9, .int (iI r37)), (7, .long (lB r30)), (0, .ref a), (1, .int (iI u)), (4, .long (lB lf)), (6, .int (iI i))]) S dX0_piecesThatGo_77 (by decide) rfl ?_
              refine r_lload S dX0_piecesThatGo_78 6 rfl ?_
              refine r_lload S dX0_piecesThatGo_80 3 rfl ?_
              refine r_ldc2 (BitVec.ofInt 64 (-1)) w328 (by decide) S dX0_piecesThatGo_82 ?_
              refine r_lxor S dX0_piecesThatGo_85 ?_
              refine r_land S dX0_piecesThatGo_86 ?_
              refine r_lstore (L' := [(4, .long (lB (lf &&& (r30 ^^^ (BitVec.ofInt 64 (-1)))))), (3, .int (iI a2)), (2, .int (iI (1 + a1))), (9, .int (iI r37)), (7, .long (lB r30)), (0, .ref a), (1, .int (iI u)), (6, .int (iI i))]) S dX0_piecesThatGo_87 (by decide) rfl ?_
              refine r_iinc_e (L' := [(6, .int (iI (1 + i))), (4, .long (lB (lf &&& (r30 ^^^ (BitVec.ofInt 64 (-1)))))), (3, .int (iI a2)), (2, .int (iI (1 + a1))), (9, .int (iI r37)), (7, .long (lB r30)), (0, .ref a), (1, .int (iI u))]) (1 + i) (by omega) S dX0_piecesThatGo_89 7 rfl (by decide) rfl ?_
              refine r_goto S 13 dX0_piecesThatGo_92 (by decide) ?_
              refine V.sub [6, 7, 3, 2, 1, 0] rfl ?_
              exact ih13 (1 + a1) a2 (lf &&& (r30 ^^^ (BitVec.ofInt 64 (-1)))) (1 + i) (by omega) (by omega) (fun k k0 k1 hk => hsub k k0 k1 (bB_and.mp hk).1) (by have h := pcw_fp hs hc30 (Q := fun s => s = q); rw [cInd_t (p := cB r30 = q) (by omega)] at h; omega) (by have h := pcw_fp hs hc30 (Q := fun s => s = 2 * q); rw [cInd_f (p := cB r30 = 2 * q) (by omega)] at h; omega) (by have h := fp_dec (by omega) hc30; omega) (by omega)
            · skip
              refine r_iconst S dX0_piecesThatGo_71 ?_
              refine r_goto S 76 dX0_piecesThatGo_72 (by decide) ?_
              refine r_iadd_e (1 + a2) (by omega) S dX0_piecesThatGo_76 ?_
              refine r_istore_n (L' := [(3, .int (iI (1 + a2))), (2, .int (iI (1 + a1))), (9, .int (iI r37)), (7, .long (lB r30)), (0, .ref a), (1, .int (iI u)), (4, .long (lB lf)), (6, .int (iI i))]) S dX0_piecesThatGo_77 (by decide) rfl ?_
              refine r_lload S dX0_piecesThatGo_78 6 rfl ?_
              refine r_lload S dX0_piecesThatGo_80 3 rfl ?_
              refine r_ldc2 (BitVec.ofInt 64 (-1)) w328 (by decide) S dX0_piecesThatGo_82 ?_
              refine r_lxor S dX0_piecesThatGo_85 ?_
              refine r_land S dX0_piecesThatGo_86 ?_
              refine r_lstore (L' := [(4, .long (lB (lf &&& (r30 ^^^ (BitVec.ofInt 64 (-1)))))), (3, .int (iI (1 + a2))), (2, .int (iI (1 + a1))), (9, .int (iI r37)), (7, .long (lB r30)), (0, .ref a), (1, .int (iI u)), (6, .int (iI i))]) S dX0_piecesThatGo_87 (by decide) rfl ?_
              refine r_iinc_e (L' := [(6, .int (iI (1 + i))), (4, .long (lB (lf &&& (r30 ^^^ (BitVec.ofInt 64 (-1)))))), (3, .int (iI (1 + a2))), (2, .int (iI (1 + a1))), (9, .int (iI r37)), (7, .long (lB r30)), (0, .ref a), (1, .int (iI u))]) (1 + i) (by omega) S dX0_piecesThatGo_89 7 rfl (by decide) rfl ?_
              refine r_goto S 13 dX0_piecesThatGo_92 (by decide) ?_
              refine V.sub [6, 7, 3, 2, 1, 0] rfl ?_
              exact ih13 (1 + a1) (1 + a2) (lf &&& (r30 ^^^ (BitVec.ofInt 64 (-1)))) (1 + i) (by omega) (by omega) (fun k k0 k1 hk => hsub k k0 k1 (bB_and.mp hk).1) (by have h := pcw_fp hs hc30 (Q := fun s => s = q); rw [cInd_t (p := cB r30 = q) (by omega)] at h; omega) (by have h := pcw_fp hs hc30 (Q := fun s => s = 2 * q); rw [cInd_t (p := cB r30 = 2 * q) (by omega)] at h; omega) (by have h := fp_dec (by omega) hc30; omega) (by omega)
  refine V.sub [4, 5, 3, 2, 1, 0] rfl ?_
  exact L13 _ 0 0 x 0 (Nat.lt_succ_self _) (by omega) hx (by omega) (by omega) (by have := cB_bd x; omega) (by omega)

set_option maxRecDepth 20000 in
set_option maxHeartbeats 2000000 in
theorem kX0_tearing {D : va_G} {G : gh} {a : Nat} {q f n r c m : Int} {x fc lc : BitVec 64} (hB : bO G a q f n r c m x fc lc) (hs : shP r c) (hf : fcOK r c fc) (hl : lcOK r c lc) {now : Int → Int} {p : Int} (hq : wBP q) (hsq : sqOK now p x) (hpr : pairU now p q) (hx : ∀ k : Int, 0 ≤ k → k < 64 → bI x k = true → k < r * c) (hNw : (r * c) % q = 0) (hc2 : q = 2 → c % 2 = 0) {n0 mn : Int} (hmn : n0 = q * mn) (hmn2 : 0 ≤ mn ∧ mn ≤ 64) : CP ⟨"PostageCounter$Block", "tearing", "(I)J"⟩ prog_2_method_13_code 4 (some .long) 4 116 D [.ref a, .int (iI n0)] G (pL (fun z => tgR now p q r c x mn z)) := by
  refine CP.enter (by decide +kernel) (Nat.le_of_ble_eq_true rfl) (fun F S ret => ?_)
  show V F 4 G 0 0 0 [(0, .ref a), (1, .int (iI n0))] []
  have hrc := rc_bd hs.1.1 hs.1.2 hs.2.1 hs.2.2
  have hqb := wBP_bd hq
  have hn0 : 0 ≤ n0 ∧ n0 ≤ 128 := by rcases hq with e | e <;> subst e <;> omega
  refine r_iload_n S dX0_tearing_0 1 rfl ?_
  refine r_iconst S dX0_tearing_1 ?_
  refine r_aload_n S dX0_tearing_2 0 rfl ?_
  refine (vdB_together (st := [.int (iI 1), .int (iI n0)]) S hB ⟨by decide, by decide⟩ ⟨by omega, by omega⟩ (Nat.le_of_ble_eq_true rfl) w586 dX0_tearing_3).goI (fun r3 hc3 => ?_)
  refine r_mmax w591 w406 w41 w407 (by decide) (Nat.le_of_ble_eq_true rfl) ⟨by omega, by omega⟩ (by omega) (by omega) S dX0_tearing_6 ?_
  rw [show max 1 r3 = q by omega]
  refine r_idiv S dX0_tearing_9 (by omega) (by omega) ?_
  rw [div_q hq hmn]
  refine r_istore_n (L' := [(2, .int (iI mn)), (0, .ref a), (1, .int (iI n0))]) S dX0_tearing_10 (by decide) rfl ?_
  refine r_iload_n S dX0_tearing_11 0 rfl ?_
  refine r_iconst S dX0_tearing_12 ?_
  refine r_icmp_le S 22 dX0_tearing_13 (by decide) (by omega) (by omega) (fun c13 => ?_) (fun c13 => ?_)
  · skip
    refine r_aload_n S dX0_tearing_22 1 rfl ?_
    refine (c_B_P (As := []) (st := []) S (kX0_pieces hB hs hf hl hx) moX0_pieces ⟨by decide, by decide⟩ ⟨by omega, by omega⟩ rfl (Nat.le_of_ble_eq_true rfl) w605 rfl w982 ⟨by decide +kernel, by decide +kernel, by decide +kernel⟩ w414 w983 w984 hB rfl dX0_tearing_23).goI (fun r23 hc23 => ?_)
    have hpb := npc_bd c (r * c) (PB x) (by omega)
    refine r_aload_n S dX0_tearing_26 1 rfl ?_
    refine r_iload_n S dX0_tearing_27 0 rfl ?_
    refine (c_B_P (As := [.int (iI mn)]) (st := [.int (iI r23)]) S (kX0_piecesThatGo hB hs hf hl hq hx (by omega)) moX0_piecesThatGo ⟨by decide, by decide⟩ ⟨by omega, by omega⟩ rfl (Nat.le_of_ble_eq_true rfl) w606 rfl w985 ⟨by decide +kernel, by decide +kernel, by decide +kernel⟩ w608 w11 w996 hB rfl dX0_tearing_28).goI (fun r28 hc28 => ?_)
    have hgo : 0 ≤ r28 ∧ r28 ≤ 2 := by have hp1 := pcw_nn c (r * c) (PB x) (fun s => s = q); rw [hc28]; unfold goU; split <;> omega
    refine r_isub S dX0_tearing_31 ?_
    refine r_istore_n (L' := [(3, .int (iI (r23 - r28))), (2, .int (iI mn)), (0, .ref a), (1, .int (iI n0))]) S dX0_tearing_32 (by decide) rfl ?_
    refine r_iload_n S dX0_tearing_33 1 rfl ?_
    refine r_iconst S dX0_tearing_34 ?_
    refine r_icmp_ne S 44 dX0_tearing_35 (by decide) (by omega) (by omega) (fun c35 => ?_) (fun c35 => ?_)
    · skip
      refine r_iload_n S dX0_tearing_44 1 rfl ?_
      refine r_iconst S dX0_tearing_45 ?_
      refine r_icmp_ne S 59 dX0_tearing_46 (by decide) (by omega) (by omega) (fun c46 => ?_) (fun c46 => ?_)
      · skip
        refine r_lconst S 0#64 dX0_tearing_59 (by decide) ?_
        exact ret.l (0#64) dX0_tearing_60 (Or.inl ⟨by omega, rfl⟩)
      · skip
        refine r_aload_n S dX0_tearing_49 2 rfl ?_
        refine r_lconst S 0#64 dX0_tearing_50 (by decide) ?_
        refine r_iconst S dX0_tearing_51 ?_
        refine r_iload_n S dX0_tearing_52 0 rfl ?_
        refine (c_B_P (As := [.long (lB (0#64)), .int (iI 0), .int (iI (r23 - r28))]) (st := []) S (kX0_gentlestOne hB hs hf hl hq hsq hpr hx (by omega) (by omega) (fun j j0 j1 hj => by rw [hc23, hc28, show mn = 1 by omega]; exact lb1 hs hq hc2 hsq hx hpr j0 j1 hj)) moX0_gentlestOne ⟨by decide, by decide⟩ ⟨by omega, by omega⟩ rfl (Nat.le_of_ble_eq_true rfl) w615 rfl w987 ⟨by decide +kernel, by decide +kernel, by decide +kernel⟩ w617 w13 w998 hB rfl dX0_tearing_53).goL (fun r53 hc53 => ?_)
        refine r_goto S 60 dX0_tearing_56 (by decide) ?_
        exact ret.l r53 dX0_tearing_60 (Or.inr (Or.inl ⟨by omega, hc53⟩))
    · skip
      refine r_aload_n S dX0_tearing_38 2 rfl ?_
      refine r_iload_n S dX0_tearing_39 0 rfl ?_
      refine (c_B_P (As := [.int (iI (r23 - r28))]) (st := []) S (kX0_gentlestTwo hB hs hf hl hq hsq hpr hx (by omega) (fun u v hj => by rw [hc23, hc28, show mn = 2 by omega]; exact lb2 hs hq hc2 hsq hx hpr hj)) moX0_gentlestTwo ⟨by decide, by decide⟩ ⟨by omega, by omega⟩ rfl (Nat.le_of_ble_eq_true rfl) w611 rfl w986 ⟨by decide +kernel, by decide +kernel, by decide +kernel⟩ w613 w12 w997 hB rfl dX0_tearing_40).goL (fun r40 hc40 => ?_)
      exact ret.l r40 dX0_tearing_43 (Or.inr (Or.inr (Or.inl ⟨by omega, hc40⟩)))
  · skip
    refine r_aload_n S dX0_tearing_16 1 rfl ?_
    refine r_iload_n S dX0_tearing_17 0 rfl ?_
    refine (c_B_P (As := [.int (iI mn)]) (st := []) S (kX0_lastUnits hB hs hq hsq hpr hx hNw (by omega)) moX0_lastUnits ⟨by decide, by decide⟩ ⟨by omega, by omega⟩ rfl (Nat.le_of_ble_eq_true rfl) w592 rfl w981 ⟨by decide +kernel, by decide +kernel, by decide +kernel⟩ w594 w10 w995 hB rfl dX0_tearing_18).goL (fun r18 hc18 => ?_)
    exact ret.l r18 dX0_tearing_21 (Or.inr (Or.inr (Or.inr ⟨by omega, hc18⟩)))
