theorem fp_dec {c N : Int} {sm y : BitVec 64} (hN : N ≤ 64) (h : fpOK c N sm y) : cB (sm &&& (y ^^^ BitVec.ofInt 64 (-1))) + 1 ≤ cB sm := by
  obtain ⟨k0, a, b, hk, hm, hy⟩ := h
  refine cB_lt (fun k _ _ q => (bB_and.mp q).1) (fun e => ?_)
  have h1 : bI (sm &&& (y ^^^ BitVec.ofInt 64 (-1))) k0 = true := by rw [e]; exact hk
  rw [bB_and, bB_not a (by omega)] at h1
  exact h1.2 ((hy k0 a (by omega)).mpr conn_rf)
def uB (q : Int) (x : BitVec 64) (s : Int) : BitVec 64 := if q = 1 then x &&& (1#64 <<< (Int.toNat s)) else if s % 2 = 0 then x &&& (BitVec.ofInt 64 3 <<< (Int.toNat s)) else 0#64
theorem npc_z {c N : Int} {x : BitVec 64} (h : x = 0#64) : npc c N (PB x) = 0 := by
  have h0 := pcw_0 c N (fun _ => True)
  rw [pcw_T] at h0
  rw [h]; exact h0

section CB
variable {F : fxT} {cc : ByteArray} {nL : Nat} {own : String} {rm : Room} {D : va_G} {G : gh} {ce sl pc idx n0 maxL fr lc0 : Nat} {L : List (Nat × Value)} {st st0 As : List Value} {y : MethodName} {bytes : ByteArray} {ret : Option FieldType}
theorem c_B_P {post : Option Value → Prop} {b : Nat} {q f n r c m : Int} {x fc lc : BitVec 64} (S : FX F cc nL own rm D) (hC : CP y bytes maxL ret fr lc0 D (.ref b :: As) G post) (ok : MetOK y bytes maxL ret n0) (hlv : lvl rm maxL fr lc0) (hsl : ce ≤ rm.cells ∧ sl ≤ rm.slots) (hn : As.length = n0) (hcat : (st.map fun v => v.category).sum ≤ 8) (hl : Cond.methodLink own idx y ∈ WS) (hy : y.cls = "PostageCounter$Block") (hsm : Cond.sameMethod y.cls y.cls y.name y.desc ∈ WS) (ho : y.cls ≠ "java/lang/invoke/MethodHandle" ∧ y.cls ≠ "java/lang/invoke/VarHandle" ∧ (parseMethodDescriptor y.desc).map (fun d => d.parameters.length) = some n0) (hin : Cond.instanceMethod y ∈ WS) (hse0 : Cond.selects "PostageCounter$Block" y y ∈ WS) (hse4 : Cond.selects "PostageCounter$Pair" y y ∈ WS) (hb : bO G b q f n r c m x fc lc) (hs0 : st0 = As.reverse ++ .ref b :: st) (d : decode cc pc = .ok (.invokevirtual idx, 3)) : RnP F nL G ce sl pc st0 st post := by
  obtain ⟨yc, yn, yd⟩ := y
  simp only at hy
  subst hy
  rcases hb with ⟨-, hb⟩ | ⟨-, hb⟩
  · exact c_V_P S hC ok hlv hsl hn hcat hl hin hse0 hb rfl hs0 d
  · exact c_U_P (C := "PostageCounter$Pair") (owner := "PostageCounter$Block") (x := ⟨"PostageCounter$Block", yn, yd⟩) S hC ok hlv hsl hn hcat hl hsm hin ok.1 ho hin hse4 hb rfl hs0 d
end CB

set_option maxRecDepth 20000 in
set_option maxHeartbeats 2000000 in
theorem kX0_firstPieceOf {D : va_G} {G : gh} {a : Nat} {q f n r c m : Int} {x fc lc : BitVec 64} (hB : bO G a q f n r c m x fc lc) (hs : shP r c) (hf : fcOK r c fc) (hl : lcOK r c lc) {sm : BitVec 64} (hsm : ∀ k : Int, 0 ≤ k → k < 64 → bI sm k = true → k < r * c) (hnz : sm ≠ 0#64) : CP ⟨"PostageCounter$Block", "firstPieceOf", "(J)J"⟩ prog_2_method_12_code 10 (some .long) 0 0 D [.ref a, .long (lB sm)] G (pL (fun y => fpOK c (r * c) sm y)) := by
  refine CP.enter (by decide +kernel) (Nat.le_of_ble_eq_true rfl) (fun F S ret => ?_)
  show V F 10 G 0 0 0 [(0, .ref a), (1, .long (lB sm))] []
  have hc0 := hs.2.1
  have hc1 := hs.2.2
  have hrc := rc_bd hs.1.1 hs.1.2 hs.2.1 hs.2.2
  obtain ⟨k0, k00, k01, hk, hm⟩ := low_ex hnz
  have hlow := fp_low k00 k01 hk hm
  refine r_lload_n S dX0_firstPieceOf_0 1 rfl ?_
  refine r_lload_n S dX0_firstPieceOf_1 1 rfl ?_
  refine r_lneg S dX0_firstPieceOf_2 ?_
  refine r_land S dX0_firstPieceOf_3 ?_
  refine r_lstore_n (L' := [(3, .long (lB (sm &&& (-sm)))), (0, .ref a), (1, .long (lB sm))]) S dX0_firstPieceOf_4 (by decide) rfl ?_
  refine r_iconst S dX0_firstPieceOf_5 ?_
  refine r_istore (L' := [(5, .int (iI 0)), (3, .long (lB (sm &&& (-sm)))), (0, .ref a), (1, .long (lB sm))]) S dX0_firstPieceOf_6 (by decide) rfl ?_
  have L8 : ∀ (N : Nat) (pp : BitVec 64) (i : Int), (64 - i).toNat < N → (0 ≤ i ∧ i ≤ 64) → (bI pp k0 = true) → (∀ k : Int, 0 ≤ k → k < 64 → bI pp k = true → conn c (r * c) (PB sm) k0 k) → (1 + i ≤ cB pp) → V F 10 G 0 0 8 [(0, .ref a), (1, .long (lB sm)), (3, .long (lB pp)), (5, .int (iI i))] [] := by
    intro N
    induction N with
    | zero => intro pp i hN; exact absurd hN (Nat.not_lt_zero _)
    | succ N ih8 =>
      intro pp i hN8 hi hp hcn hcb
      have hcbd := cB_bd pp
      refine r_iload S dX0_firstPieceOf_8 3 rfl ?_
      refine r_bipush S dX0_firstPieceOf_10 (by decide) ?_
      refine r_icmp_ge S 82 dX0_firstPieceOf_12 (by decide) (by omega) (by omega) (fun c12 => ?_) (fun c12 => ?_)
      · skip
        refine r_lload_n S dX0_firstPieceOf_82 2 rfl ?_
        exact ret.l pp dX0_firstPieceOf_83 (by exfalso; omega)
      · skip
        refine r_lload_n S dX0_firstPieceOf_15 2 rfl ?_
        refine r_aload_n S dX0_firstPieceOf_16 0 rfl ?_
        refine rB_lastColumn S hB gtX0_38_X0 gtX0_38_X4 dX0_firstPieceOf_17 ?_
        refine r_ldc2 (BitVec.ofInt 64 (-1)) w328 (by decide) S dX0_firstPieceOf_20 ?_
        refine r_lxor S dX0_firstPieceOf_23 ?_
        refine r_land S dX0_firstPieceOf_24 ?_
        refine r_iconst S dX0_firstPieceOf_25 ?_
        refine r_lshl S ⟨by decide, by decide⟩ dX0_firstPieceOf_26 ?_
        refine r_lload_n S dX0_firstPieceOf_27 2 rfl ?_
        refine r_aload_n S dX0_firstPieceOf_28 0 rfl ?_
        refine rB_firstColumn S hB gtX0_35_X0 gtX0_35_X4 dX0_firstPieceOf_29 ?_
        refine r_ldc2 (BitVec.ofInt 64 (-1)) w328 (by decide) S dX0_firstPieceOf_32 ?_
        refine r_lxor S dX0_firstPieceOf_35 ?_
        refine r_land S dX0_firstPieceOf_36 ?_
        refine r_iconst S dX0_firstPieceOf_37 ?_
        refine r_lushr S ⟨by decide, by decide⟩ dX0_firstPieceOf_38 ?_
        refine r_lor S dX0_firstPieceOf_39 ?_
        refine r_lstore (L' := [(6, .long (lB (((pp &&& (lc ^^^ (BitVec.ofInt 64 (-1)))) <<< (Int.toNat 1)) ||| ((pp &&& (fc ^^^ (BitVec.ofInt 64 (-1)))) >>> (Int.toNat 1))))), (0, .ref a), (1, .long (lB sm)), (3, .long (lB pp)), (5, .int (iI i))]) S dX0_firstPieceOf_40 (by decide) rfl ?_
        refine r_lload_n S dX0_firstPieceOf_42 3 rfl ?_
        refine r_lload S dX0_firstPieceOf_43 0 rfl ?_
        refine r_lor S dX0_firstPieceOf_45 ?_
        refine r_lload_n S dX0_firstPieceOf_46 3 rfl ?_
        refine r_aload_n S dX0_firstPieceOf_47 1 rfl ?_
        refine rB_columns S hB gtX0_21_X0 gtX0_21_X4 dX0_firstPieceOf_48 ?_
        refine r_lshl S ⟨by omega, by omega⟩ dX0_firstPieceOf_51 ?_
        refine r_lor S dX0_firstPieceOf_52 ?_
        refine r_lload_n S dX0_firstPieceOf_53 3 rfl ?_
        refine r_aload_n S dX0_firstPieceOf_54 1 rfl ?_
        refine rB_columns S hB gtX0_21_X0 gtX0_21_X4 dX0_firstPieceOf_55 ?_
        refine r_lushr S ⟨by omega, by omega⟩ dX0_firstPieceOf_58 ?_
        refine r_lor S dX0_firstPieceOf_59 ?_
        refine r_lload_n S dX0_firstPieceOf_60 2 rfl ?_
        refine r_land S dX0_firstPieceOf_61 ?_
        refine r_lstore (L' := [(8, .long (lB ((((pp ||| (((pp &&& (lc ^^^ (BitVec.ofInt 64 (-1)))) <<< (Int.toNat 1)) ||| ((pp &&& (fc ^^^ (BitVec.ofInt 64 (-1)))) >>> (Int.toNat 1)))) ||| (pp <<< (Int.toNat c))) ||| (pp >>> (Int.toNat c))) &&& sm))), (6, .long (lB (((pp &&& (lc ^^^ (BitVec.ofInt 64 (-1)))) <<< (Int.toNat 1)) ||| ((pp &&& (fc ^^^ (BitVec.ofInt 64 (-1)))) >>> (Int.toNat 1))))), (0, .ref a), (1, .long (lB sm)), (3, .long (lB pp)), (5, .int (iI i))]) S dX0_firstPieceOf_62 (by decide) rfl ?_
        obtain ⟨gr, hgr⟩ : ∃ y : BitVec 64, y = grB c pp sm fc lc := ⟨_, rfl⟩
        rw [show (((pp ||| (((pp &&& (lc ^^^ (BitVec.ofInt 64 (-1)))) <<< (Int.toNat 1)) ||| ((pp &&& (fc ^^^ (BitVec.ofInt 64 (-1)))) >>> (Int.toNat 1)))) ||| (pp <<< (Int.toNat c))) ||| (pp >>> (Int.toNat c))) &&& sm = gr from hgr.symm]
        refine r_lload S dX0_firstPieceOf_64 0 rfl ?_
        refine r_lload_n S dX0_firstPieceOf_66 4 rfl ?_
        refine r_lcmp S dX0_firstPieceOf_67 (fun z67 hz67 ez67 => ?_)
        refine r_if_ne S 73 dX0_firstPieceOf_68 (by decide) (by omega) (fun c68 => ?_) (fun c68 => ?_)
        · skip
          refine r_lload S dX0_firstPieceOf_73 0 rfl ?_
          refine r_lstore_n (L' := [(3, .long (lB gr)), (8, .long (lB gr)), (6, .long (lB (((pp &&& (lc ^^^ (BitVec.ofInt 64 (-1)))) <<< (Int.toNat 1)) ||| ((pp &&& (fc ^^^ (BitVec.ofInt 64 (-1)))) >>> (Int.toNat 1))))), (0, .ref a), (1, .long (lB sm)), (5, .int (iI i))]) S dX0_firstPieceOf_75 (by decide) rfl ?_
          refine r_iinc_e (L' := [(5, .int (iI (1 + i))), (3, .long (lB gr)), (8, .long (lB gr)), (6, .long (lB (((pp &&& (lc ^^^ (BitVec.ofInt 64 (-1)))) <<< (Int.toNat 1)) ||| ((pp &&& (fc ^^^ (BitVec.ofInt 64 (-1)))) >>> (Int.toNat 1))))), (0, .ref a), (1, .long (lB sm))]) (1 + i) (by omega) S dX0_firstPieceOf_76 5 rfl (by decide) rfl ?_
          refine r_goto S 8 dX0_firstPieceOf_79 (by decide) ?_
          obtain ⟨hg1, hg2, hg3⟩ := fp_grow hs hf hl hsm ⟨k00, k01⟩ hk hp hcn (show grB c pp sm fc lc ≠ pp from fun e => c68 (ez67.mpr (hgr.trans e)))
          rw [← hgr] at hg1 hg2 hg3
          refine V.sub [4, 5, 1, 0] rfl ?_
          exact ih8 gr (1 + i) (by omega) (by omega) hg1 hg2 (by omega)
        · skip
          refine r_lload_n S dX0_firstPieceOf_71 4 rfl ?_
          exact ret.l pp dX0_firstPieceOf_72 ⟨k0, k00, hsm k0 k00 k01 hk, hk, hm, fp_fix hs hf hl hsm ⟨k00, k01⟩ hk hp hcn (hgr.symm.trans (ez67.mp c68))⟩
  refine V.sub [2, 3, 1, 0] rfl ?_
  exact L8 _ (sm &&& (-sm)) 0 (Nat.lt_succ_self _) (by omega) ((hlow k0 k00 k01).mpr rfl) (fun k a b h => by rw [(hlow k a b).mp h]; exact conn_rf) (by have h := cB_lt (x := 0#64) (y := sm &&& -sm) (fun k _ _ z => absurd z bB_0) (fun e => by have h1 := (hlow k0 k00 k01).mpr rfl; rw [← e] at h1; exact bB_0 h1); rw [cB_0] at h; omega)

set_option maxRecDepth 20000 in
set_option maxHeartbeats 2000000 in
theorem kX0_piecesOf {D : va_G} {G : gh} {a : Nat} {q f n r c m : Int} {x fc lc : BitVec 64} (hB : bO G a q f n r c m x fc lc) (hs : shP r c) (hf : fcOK r c fc) (hl : lcOK r c lc) {sm : BitVec 64} (hsm : ∀ k : Int, 0 ≤ k → k < 64 → bI sm k = true → k < r * c) : CP ⟨"PostageCounter$Block", "piecesOf", "(J)I"⟩ prog_2_method_11_code 7 (some .int) 1 29 D [.ref a, .long (lB sm)] G (pI (fun z => z = npc c (r * c) (PB sm))) := by
  refine CP.enter (by decide +kernel) (Nat.le_of_ble_eq_true rfl) (fun F S ret => ?_)
  show V F 7 G 0 0 0 [(0, .ref a), (1, .long (lB sm))] []
  have hc0 := hs.2.1
  have hc1 := hs.2.2
  have hrc := rc_bd hs.1.1 hs.1.2 hs.2.1 hs.2.2
  refine r_iconst S dX0_piecesOf_0 ?_
  refine r_istore_n (L' := [(3, .int (iI 0)), (0, .ref a), (1, .long (lB sm))]) S dX0_piecesOf_1 (by decide) rfl ?_
  refine r_lload_n S dX0_piecesOf_2 2 rfl ?_
  refine r_lstore (L' := [(4, .long (lB sm)), (3, .int (iI 0)), (0, .ref a), (1, .long (lB sm))]) S dX0_piecesOf_3 (by decide) rfl ?_
  refine r_iconst S dX0_piecesOf_5 ?_
  refine r_istore (L' := [(6, .int (iI 0)), (4, .long (lB sm)), (3, .int (iI 0)), (0, .ref a), (1, .long (lB sm))]) S dX0_piecesOf_6 (by decide) rfl ?_
  have L8 : ∀ (N : Nat) (nn : Int) (lf : BitVec 64) (i : Int), (64 - i).toNat < N → (0 ≤ i ∧ i ≤ 64) → (∀ k : Int, 0 ≤ k → k < 64 → bI lf k = true → k < r * c) → (nn + npc c (r * c) (PB lf) = npc c (r * c) (PB sm)) → (cB lf ≤ 64 - i) → V F 7 G 0 0 8 [(0, .ref a), (3, .int (iI nn)), (4, .long (lB lf)), (6, .int (iI i))] [] := by
    intro N
    induction N with
    | zero => intro nn lf i hN; exact absurd hN (Nat.not_lt_zero _)
    | succ N ih8 =>
      intro nn lf i hN8 hi hsub hnn hcb
      refine r_iload S dX0_piecesOf_8 3 rfl ?_
      refine r_bipush S dX0_piecesOf_10 (by decide) ?_
      refine r_icmp_ge S 46 dX0_piecesOf_12 (by decide) (by omega) (by omega) (fun c12 => ?_) (fun c12 => ?_)
      · skip
        refine r_iload_n S dX0_piecesOf_46 1 rfl ?_
        exact ret.i nn dX0_piecesOf_47 (by have e := npc_z (c := c) (N := r * c) (x := lf) (cB_z (by omega)); omega)
      · skip
        refine r_lload S dX0_piecesOf_15 2 rfl ?_
        refine r_lconst S 0#64 dX0_piecesOf_17 (by decide) ?_
        refine r_lcmp S dX0_piecesOf_18 (fun z18 hz18 ez18 => ?_)
        refine r_if_eq S 46 dX0_piecesOf_19 (by decide) (by omega) (fun c19 => ?_) (fun c19 => ?_)
        · skip
          refine r_iload_n S dX0_piecesOf_46 1 rfl ?_
          exact ret.i nn dX0_piecesOf_47 (by have e := npc_z (c := c) (N := r * c) (x := lf) (ez18.mp c19); omega)
        · skip
          refine r_lload S dX0_piecesOf_22 2 rfl ?_
          refine r_aload_n S dX0_piecesOf_24 0 rfl ?_
          refine r_lload S dX0_piecesOf_25 2 rfl ?_
          refine (c_B_P (As := [.long (lB lf)]) (st := [.long (lB lf)]) S (kX0_firstPieceOf hB hs hf hl hsub (fun e => c19 (ez18.mpr e))) moX0_firstPieceOf ⟨by decide, by decide⟩ ⟨by omega, by omega⟩ rfl (Nat.le_of_ble_eq_true rfl) w420 rfl w979 ⟨by decide +kernel, by decide +kernel, by decide +kernel⟩ w422 w3 w994 hB rfl dX0_piecesOf_27).goL (fun r27 hc27 => ?_)
          refine r_ldc2 (BitVec.ofInt 64 (-1)) w328 (by decide) S dX0_piecesOf_30 ?_
          refine r_lxor S dX0_piecesOf_33 ?_
          refine r_land S dX0_piecesOf_34 ?_
          refine r_lstore (L' := [(4, .long (lB (lf &&& (r27 ^^^ (BitVec.ofInt 64 (-1)))))), (0, .ref a), (3, .int (iI nn)), (6, .int (iI i))]) S dX0_piecesOf_35 (by decide) rfl ?_
          refine r_iinc_e (L' := [(3, .int (iI (1 + nn))), (4, .long (lB (lf &&& (r27 ^^^ (BitVec.ofInt 64 (-1)))))), (0, .ref a), (6, .int (iI i))]) (1 + nn) (by omega) S dX0_piecesOf_37 2 rfl (by decide) rfl ?_
          refine r_iinc_e (L' := [(6, .int (iI (1 + i))), (3, .int (iI (1 + nn))), (4, .long (lB (lf &&& (r27 ^^^ (BitVec.ofInt 64 (-1)))))), (0, .ref a)]) (1 + i) (by omega) S dX0_piecesOf_40 3 rfl (by decide) rfl ?_
          refine r_goto S 8 dX0_piecesOf_43 (by decide) ?_
          refine V.sub [3, 1, 2, 0] rfl ?_
          exact ih8 (1 + nn) (lf &&& (r27 ^^^ (BitVec.ofInt 64 (-1)))) (1 + i) (by omega) (by omega) (fun k k0 k1 hk => hsub k k0 k1 (bB_and.mp hk).1) (by have h := pcw_fp hs hc27 (Q := fun _ => True); rw [pcw_T, pcw_T, cInd_t trivial] at h; omega) (by have h := fp_dec (by omega) hc27; omega)
  refine V.sub [3, 2, 1, 0] rfl ?_
  exact L8 _ 0 sm 0 (Nat.lt_succ_self _) (by omega) hsm (by omega) (by have := cB_bd sm; omega)

set_option maxRecDepth 20000 in
set_option maxHeartbeats 2000000 in
theorem kX0_pieces {D : va_G} {G : gh} {a : Nat} {q f n r c m : Int} {x fc lc : BitVec 64} (hB : bO G a q f n r c m x fc lc) (hs : shP r c) (hf : fcOK r c fc) (hl : lcOK r c lc) (hx : ∀ k : Int, 0 ≤ k → k < 64 → bI x k = true → k < r * c) : CP ⟨"PostageCounter$Block", "pieces", "()I"⟩ prog_2_method_10_code 1 (some .int) 2 55 D [.ref a] G (pI (fun z => z = npc c (r * c) (PB x))) := by
  refine CP.enter (by decide +kernel) (Nat.le_of_ble_eq_true rfl) (fun F S ret => ?_)
  show V F 1 G 0 0 0 [(0, .ref a)] []
  refine r_aload_n S dX0_pieces_0 0 rfl ?_
  refine r_aload_n S dX0_pieces_1 0 rfl ?_
  refine rB_squares S hB gtX0_27_X0 gtX0_27_X4 dX0_pieces_2 ?_
  refine (c_B_P (As := [.long (lB x)]) (st := []) S (kX0_piecesOf hB hs hf hl hx) moX0_piecesOf ⟨by decide, by decide⟩ ⟨by omega, by omega⟩ rfl (Nat.le_of_ble_eq_true rfl) w416 rfl w978 ⟨by decide +kernel, by decide +kernel, by decide +kernel⟩ w418 w2 w993 hB rfl dX0_pieces_5).goI (fun r5 hc5 => ?_)
  exact ret.i r5 dX0_pieces_8 hc5
