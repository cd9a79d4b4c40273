set_option maxRecDepth 20000 in
set_option maxHeartbeats 2000000 in
theorem kX7_worth {D : va_G} {N : Nat → Prop} {G : gh} {now : Int → Int} {a : Nat} (hst : stO D N G now a) (hok : mOK now) : CP ⟨"PostageCounter$State", "worth", "()I"⟩ prog_9_method_8_code 6 (some .int) 2 44 D [.ref a] G (pI (fun z => z = allF now)) := by
  refine CP.enter (by decide +kernel) (Nat.le_of_ble_eq_true rfl) (fun F S ret => ?_)
  show V F 6 G 0 0 0 [(0, .ref a)] []
  obtain ⟨pa, la, wa, ea, h1, ⟨pf, hpa, hpf⟩, ⟨lf, gl, hla, hlf, hgl⟩, ⟨wf, hwa, hwf⟩, ⟨ef, hea, hef⟩⟩ := hst
  refine r_iconst S dX7_worth_0 ?_
  refine r_istore_n (L' := [(1, .int (iI 0)), (0, .ref a)]) S dX7_worth_1 (by decide) rfl ?_
  refine r_aload_n S dX7_worth_2 1 rfl ?_
  refine r_get S gtX7_9_X7 h1.1 rfl dX7_worth_3 ?_
  refine r_astore_n (L' := [(2, .ref pa), (1, .int (iI 0)), (0, .ref a)]) S dX7_worth_6 (by decide) rfl ?_
  refine r_aload_n S dX7_worth_7 0 rfl ?_
  refine r_alenQ S hpa.1 rfl dX7_worth_8 ?_
  refine r_istore_n (L' := [(3, .int (iI 10)), (2, .ref pa), (1, .int (iI 0)), (0, .ref a)]) S dX7_worth_9 (by decide) rfl ?_
  refine r_iconst S dX7_worth_10 ?_
  refine r_istore (L' := [(4, .int (iI 0)), (3, .int (iI 10)), (2, .ref pa), (1, .int (iI 0)), (0, .ref a)]) S dX7_worth_11 (by decide) rfl ?_
  have L13 : ∀ (N : Nat) (sm : Int) (i : Int), (10 - i).toNat < N → (0 ≤ i ∧ i ≤ 10) → (sm = sumI (fun p => if now p = -1 then 0 else facesF now p) i.toNat) → V F 6 G 0 0 13 [(0, .ref a), (1, .int (iI sm)), (2, .ref pa), (3, .int (iI 10)), (4, .int (iI i))] [] := by
    intro N
    induction N with
    | zero => intro sm i hN; exact absurd hN (Nat.not_lt_zero _)
    | succ N ih13 =>
      intro sm i hN13 hi hs
      refine r_iload S dX7_worth_13 4 rfl ?_
      refine r_iload_n S dX7_worth_15 3 rfl ?_
      refine r_icmp_ge S 49 dX7_worth_16 (by decide) (by omega) (by omega) (fun c16 => ?_) (fun c16 => ?_)
      · skip
        refine r_iload_n S dX7_worth_49 1 rfl ?_
        exact ret.i sm dX7_worth_50 (by unfold allF; rw [hs, show i.toNat = 10 by omega])
      · skip
        have hKi := hok.1 i (by omega) (by omega)
        refine r_aload_n S dX7_worth_19 2 rfl ?_
        refine r_iload S dX7_worth_20 4 rfl ?_
        rcases hpf i (by omega) (by omega) with ⟨hk22, hf22⟩ | ⟨hk22, b22, hf22, hO22⟩
        · skip
          refine r_aaldN hf22 hpa.1 rfl (by omega) (by omega) (by omega) S dX7_worth_22 ?_
          refine r_astoreN (L' := [(5, .null), (0, .ref a), (1, .int (iI sm)), (2, .ref pa), (3, .int (iI 10)), (4, .int (iI i))]) S dX7_worth_23 (by decide) rfl ?_
          refine r_aloadN S dX7_worth_25 0 rfl ?_
          refine r_ifnullN S 43 dX7_worth_27 (by decide) ?_
          refine r_iinc_e (L' := [(4, .int (iI (1 + i))), (5, .null), (0, .ref a), (1, .int (iI sm)), (2, .ref pa), (3, .int (iI 10))]) (1 + i) (by omega) S dX7_worth_43 5 rfl (by decide) rfl ?_
          refine r_goto S 13 dX7_worth_46 (by decide) ?_
          refine V.sub [2, 3, 4, 5, 0] rfl ?_
          exact ih13 sm (1 + i) (by omega) (by omega) (by rw [sumI_s _ (by omega), hs, if_pos hk22]; omega)
        · skip
          refine r_aaldS hf22 hpa.1 rfl (by omega) (by omega) (by omega) S dX7_worth_22 ?_
          refine r_astore (L' := [(5, .ref b22), (0, .ref a), (1, .int (iI sm)), (2, .ref pa), (3, .int (iI 10)), (4, .int (iI i))]) S dX7_worth_23 (by decide) rfl ?_
          refine r_aload S dX7_worth_25 0 rfl ?_
          refine r_ifnull S dX7_worth_27 ?_
          refine r_iload_n S dX7_worth_30 2 rfl ?_
          refine r_aload S dX7_worth_31 0 rfl ?_
          refine r_aload S dX7_worth_33 0 rfl ?_
          refine rH_count S hO22 gtX7_49_X0 gtX7_49_X3 gtX7_49_X4 gtX7_49_X6 gtX7_49_X8 dX7_worth_35 ?_
          refine (vdH_worth (n := (now (10 + i))) (hn := ⟨by omega, by omega⟩) (hh := hO22) hok ⟨by omega, by omega⟩ (st := [.int (iI sm)]) S  ⟨by decide, by decide⟩ ⟨by omega, by omega⟩ (Nat.le_of_ble_eq_true rfl) w526 dX7_worth_38).goI (fun r38 hc38 => ?_)
          refine r_iadd_e (r38 + sm) (by omega) S dX7_worth_41 ?_
          refine r_istore_n (L' := [(1, .int (iI (r38 + sm))), (5, .ref b22), (0, .ref a), (2, .ref pa), (3, .int (iI 10)), (4, .int (iI i))]) S dX7_worth_42 (by decide) rfl ?_
          refine r_iinc_e (L' := [(4, .int (iI (1 + i))), (1, .int (iI (r38 + sm))), (5, .ref b22), (0, .ref a), (2, .ref pa), (3, .int (iI 10))]) (1 + i) (by omega) S dX7_worth_43 5 rfl (by decide) rfl ?_
          refine r_goto S 13 dX7_worth_46 (by decide) ?_
          refine V.sub [3, 1, 4, 5, 0] rfl ?_
          exact ih13 (r38 + sm) (1 + i) (by omega) (by omega) (by rw [sumI_s _ (by omega), hs, if_neg hk22, hc38, ← facesF_pays (by omega)]; exact Int.add_comm _ _)
  refine V.sub [4, 3, 2, 1, 0] rfl ?_
  exact L13 _ 0 0 (Nat.lt_succ_self _) (by omega) rfl

set_option maxRecDepth 20000 in
set_option maxHeartbeats 2000000 in
theorem kX7_stamps {D : va_G} {N : Nat → Prop} {G : gh} {now : Int → Int} {a : Nat} (hst : stO D N G now a) (hok : mOK now) : CP ⟨"PostageCounter$State", "stamps", "()I"⟩ prog_9_method_9_code 6 (some .int) 0 0 D [.ref a] G (pI (fun z => z = sumI (fun p => now (10 + p)) 10)) := by
  refine CP.enter (by decide +kernel) (Nat.le_of_ble_eq_true rfl) (fun F S ret => ?_)
  show V F 6 G 0 0 0 [(0, .ref a)] []
  obtain ⟨pa, la, wa, ea, h1, ⟨pf, hpa, hpf⟩, ⟨lf, gl, hla, hlf, hgl⟩, ⟨wf, hwa, hwf⟩, ⟨ef, hea, hef⟩⟩ := hst
  refine r_iconst S dX7_stamps_0 ?_
  refine r_istore_n (L' := [(1, .int (iI 0)), (0, .ref a)]) S dX7_stamps_1 (by decide) rfl ?_
  refine r_aload_n S dX7_stamps_2 1 rfl ?_
  refine r_get S gtX7_9_X7 h1.1 rfl dX7_stamps_3 ?_
  refine r_astore_n (L' := [(2, .ref pa), (1, .int (iI 0)), (0, .ref a)]) S dX7_stamps_6 (by decide) rfl ?_
  refine r_aload_n S dX7_stamps_7 0 rfl ?_
  refine r_alenQ S hpa.1 rfl dX7_stamps_8 ?_
  refine r_istore_n (L' := [(3, .int (iI 10)), (2, .ref pa), (1, .int (iI 0)), (0, .ref a)]) S dX7_stamps_9 (by decide) rfl ?_
  refine r_iconst S dX7_stamps_10 ?_
  refine r_istore (L' := [(4, .int (iI 0)), (3, .int (iI 10)), (2, .ref pa), (1, .int (iI 0)), (0, .ref a)]) S dX7_stamps_11 (by decide) rfl ?_
  have L13 : ∀ (N : Nat) (sm : Int) (i : Int), (10 - i).toNat < N → (0 ≤ i ∧ i ≤ 10) → (sm = sumI (fun p => now (10 + p)) i.toNat) → V F 6 G 0 0 13 [(0, .ref a), (1, .int (iI sm)), (2, .ref pa), (3, .int (iI 10)), (4, .int (iI i))] [] := by
    intro N
    induction N with
    | zero => intro sm i hN; exact absurd hN (Nat.not_lt_zero _)
    | succ N ih13 =>
      intro sm i hN13 hi hs
      refine r_iload S dX7_stamps_13 4 rfl ?_
      refine r_iload_n S dX7_stamps_15 3 rfl ?_
      refine r_icmp_ge S 44 dX7_stamps_16 (by decide) (by omega) (by omega) (fun c16 => ?_) (fun c16 => ?_)
      · skip
        refine r_iload_n S dX7_stamps_44 1 rfl ?_
        exact ret.i sm dX7_stamps_45 (by rw [hs, show i.toNat = 10 by omega])
      · skip
        have hKi := hok.1 i (by omega) (by omega)
        refine r_aload_n S dX7_stamps_19 2 rfl ?_
        refine r_iload S dX7_stamps_20 4 rfl ?_
        rcases hpf i (by omega) (by omega) with ⟨hk22, hf22⟩ | ⟨hk22, b22, hf22, hO22⟩
        · skip
          refine r_aaldN hf22 hpa.1 rfl (by omega) (by omega) (by omega) S dX7_stamps_22 ?_
          refine r_astoreN (L' := [(5, .null), (0, .ref a), (1, .int (iI sm)), (2, .ref pa), (3, .int (iI 10)), (4, .int (iI i))]) S dX7_stamps_23 (by decide) rfl ?_
          refine r_aloadN S dX7_stamps_25 0 rfl ?_
          refine r_ifnullN S 38 dX7_stamps_27 (by decide) ?_
          refine r_iinc_e (L' := [(4, .int (iI (1 + i))), (5, .null), (0, .ref a), (1, .int (iI sm)), (2, .ref pa), (3, .int (iI 10))]) (1 + i) (by omega) S dX7_stamps_38 5 rfl (by decide) rfl ?_
          refine r_goto S 13 dX7_stamps_41 (by decide) ?_
          refine V.sub [2, 3, 4, 5, 0] rfl ?_
          exact ih13 sm (1 + i) (by omega) (by omega) (by rw [sumI_s _ (by omega), hs]; omega)
        · skip
          refine r_aaldS hf22 hpa.1 rfl (by omega) (by omega) (by omega) S dX7_stamps_22 ?_
          refine r_astore (L' := [(5, .ref b22), (0, .ref a), (1, .int (iI sm)), (2, .ref pa), (3, .int (iI 10)), (4, .int (iI i))]) S dX7_stamps_23 (by decide) rfl ?_
          refine r_aload S dX7_stamps_25 0 rfl ?_
          refine r_ifnull S dX7_stamps_27 ?_
          refine r_iload_n S dX7_stamps_30 2 rfl ?_
          refine r_aload S dX7_stamps_31 0 rfl ?_
          refine rH_count S hO22 gtX7_49_X0 gtX7_49_X3 gtX7_49_X4 gtX7_49_X6 gtX7_49_X8 dX7_stamps_33 ?_
          refine r_iadd_e (now (10 + i) + sm) (by omega) S dX7_stamps_36 ?_
          refine r_istore_n (L' := [(1, .int (iI (now (10 + i) + sm))), (5, .ref b22), (0, .ref a), (2, .ref pa), (3, .int (iI 10)), (4, .int (iI i))]) S dX7_stamps_37 (by decide) rfl ?_
          refine r_iinc_e (L' := [(4, .int (iI (1 + i))), (1, .int (iI (now (10 + i) + sm))), (5, .ref b22), (0, .ref a), (2, .ref pa), (3, .int (iI 10))]) (1 + i) (by omega) S dX7_stamps_38 5 rfl (by decide) rfl ?_
          refine r_goto S 13 dX7_stamps_41 (by decide) ?_
          refine V.sub [3, 1, 4, 5, 0] rfl ?_
          exact ih13 (now (10 + i) + sm) (1 + i) (by omega) (by omega) (by rw [sumI_s _ (by omega), hs]; exact Int.add_comm _ _)
  refine V.sub [4, 3, 2, 1, 0] rfl ?_
  exact L13 _ 0 0 (Nat.lt_succ_self _) (by omega) rfl

set_option maxRecDepth 20000 in
set_option maxHeartbeats 2000000 in
theorem kX7_piecesOfSheets {D : va_G} {N : Nat → Prop} {G : gh} {now : Int → Int} {a : Nat} (hst : stO D N G now a) (hok : mOK now) : CP ⟨"PostageCounter$State", "piecesOfSheets", "()I"⟩ prog_9_method_10_code 6 (some .int) 3 75 D [.ref a] G (pI (fun z => z = sumI (fun p => if now p = 2 ∨ now p = 3 then pcsF now p else 0) 10)) := by
  refine CP.enter (by decide +kernel) (Nat.le_of_ble_eq_true rfl) (fun F S ret => ?_)
  show V F 6 G 0 0 0 [(0, .ref a)] []
  obtain ⟨pa, la, wa, ea, h1, ⟨pf, hpa, hpf⟩, ⟨lf, gl, hla, hlf, hgl⟩, ⟨wf, hwa, hwf⟩, ⟨ef, hea, hef⟩⟩ := hst
  refine r_iconst S dX7_piecesOfSheets_0 ?_
  refine r_istore_n (L' := [(1, .int (iI 0)), (0, .ref a)]) S dX7_piecesOfSheets_1 (by decide) rfl ?_
  refine r_aload_n S dX7_piecesOfSheets_2 1 rfl ?_
  refine r_get S gtX7_9_X7 h1.1 rfl dX7_piecesOfSheets_3 ?_
  refine r_astore_n (L' := [(2, .ref pa), (1, .int (iI 0)), (0, .ref a)]) S dX7_piecesOfSheets_6 (by decide) rfl ?_
  refine r_aload_n S dX7_piecesOfSheets_7 0 rfl ?_
  refine r_alenQ S hpa.1 rfl dX7_piecesOfSheets_8 ?_
  refine r_istore_n (L' := [(3, .int (iI 10)), (2, .ref pa), (1, .int (iI 0)), (0, .ref a)]) S dX7_piecesOfSheets_9 (by decide) rfl ?_
  refine r_iconst S dX7_piecesOfSheets_10 ?_
  refine r_istore (L' := [(4, .int (iI 0)), (3, .int (iI 10)), (2, .ref pa), (1, .int (iI 0)), (0, .ref a)]) S dX7_piecesOfSheets_11 (by decide) rfl ?_
  have L13 : ∀ (N : Nat) (sm : Int) (i : Int), (10 - i).toNat < N → (0 ≤ i ∧ i ≤ 10) → (sm = sumI (fun p => if now p = 2 ∨ now p = 3 then pcsF now p else 0) i.toNat) → V F 6 G 0 0 13 [(0, .ref a), (1, .int (iI sm)), (2, .ref pa), (3, .int (iI 10)), (4, .int (iI i))] [] := by
    intro N
    induction N with
    | zero => intro sm i hN; exact absurd hN (Nat.not_lt_zero _)
    | succ N ih13 =>
      intro sm i hN13 hi hs
      refine r_iload S dX7_piecesOfSheets_13 4 rfl ?_
      refine r_iload_n S dX7_piecesOfSheets_15 3 rfl ?_
      refine r_icmp_ge S 47 dX7_piecesOfSheets_16 (by decide) (by omega) (by omega) (fun c16 => ?_) (fun c16 => ?_)
      · skip
        refine r_iload_n S dX7_piecesOfSheets_47 1 rfl ?_
        exact ret.i sm dX7_piecesOfSheets_48 (by rw [hs, show i.toNat = 10 by omega])
      · skip
        refine r_aload_n S dX7_piecesOfSheets_19 2 rfl ?_
        refine r_iload S dX7_piecesOfSheets_20 4 rfl ?_
        rcases hpf i (by omega) (by omega) with ⟨hk22, hf22⟩ | ⟨hk22, b22, hf22, hO22⟩
        · skip
          refine r_aaldN hf22 hpa.1 rfl (by omega) (by omega) (by omega) S dX7_piecesOfSheets_22 ?_
          refine r_astoreN (L' := [(5, .null), (0, .ref a), (1, .int (iI sm)), (2, .ref pa), (3, .int (iI 10)), (4, .int (iI i))]) S dX7_piecesOfSheets_23 (by decide) rfl ?_
          refine r_aloadN S dX7_piecesOfSheets_25 0 rfl ?_
          refine r_instNull S dX7_piecesOfSheets_27 ?_
          refine r_if_eq S 41 dX7_piecesOfSheets_30 (by decide) (by omega) (fun c30 => ?_) (fun c30 => absurd c30 (by omega))
          refine r_iinc_e (L' := [(4, .int (iI (1 + i))), (5, .null), (0, .ref a), (1, .int (iI sm)), (2, .ref pa), (3, .int (iI 10))]) (1 + i) (by omega) S dX7_piecesOfSheets_41 5 rfl (by decide) rfl ?_
          refine r_goto S 13 dX7_piecesOfSheets_44 (by decide) ?_
          refine V.sub [2, 3, 4, 5, 0] rfl ?_
          exact ih13 sm (1 + i) (by omega) (by omega) (by rw [sumI_s _ (by omega), hs, if_neg (by omega)]; omega)
        · skip
          refine r_aaldS hf22 hpa.1 rfl (by omega) (by omega) (by omega) S dX7_piecesOfSheets_22 ?_
          refine r_astore (L' := [(5, .ref b22), (0, .ref a), (1, .int (iI sm)), (2, .ref pa), (3, .int (iI 10)), (4, .int (iI i))]) S dX7_piecesOfSheets_23 (by decide) rfl ?_
          refine r_aload S dX7_piecesOfSheets_25 0 rfl ?_
          refine rH_isB S hO22 w727 dX7_piecesOfSheets_27 (fun i27 => ?_) (fun i27 => ?_)
          · skip
            refine r_if_eq S 41 dX7_piecesOfSheets_30 (by decide) (by omega) (fun c30 => absurd c30 (by omega)) (fun c30 => ?_)
            refine r_iload_n S dX7_piecesOfSheets_33 2 rfl ?_
            refine r_aload S dX7_piecesOfSheets_34 0 rfl ?_
            refine (vdH_pieces (hh := hO22) hok ⟨by omega, by omega⟩ (st := [.int (iI sm)]) S  ⟨by decide, by decide⟩ ⟨by omega, by omega⟩ (Nat.le_of_ble_eq_true rfl) w728 dX7_piecesOfSheets_36).goI (fun r36 hc36 => ?_)
            refine r_iadd_e (r36 + sm) (by omega) S dX7_piecesOfSheets_39 ?_
            refine r_istore_n (L' := [(1, .int (iI (r36 + sm))), (5, .ref b22), (0, .ref a), (2, .ref pa), (3, .int (iI 10)), (4, .int (iI i))]) S dX7_piecesOfSheets_40 (by decide) rfl ?_
            refine r_iinc_e (L' := [(4, .int (iI (1 + i))), (1, .int (iI (r36 + sm))), (5, .ref b22), (0, .ref a), (2, .ref pa), (3, .int (iI 10))]) (1 + i) (by omega) S dX7_piecesOfSheets_41 5 rfl (by decide) rfl ?_
            refine r_goto S 13 dX7_piecesOfSheets_44 (by decide) ?_
            refine V.sub [3, 1, 4, 5, 0] rfl ?_
            exact ih13 (r36 + sm) (1 + i) (by omega) (by omega) (by rw [sumI_s _ (by omega), hs, if_pos i27, hc36]; exact Int.add_comm _ _)
          · skip
            refine r_if_eq S 41 dX7_piecesOfSheets_30 (by decide) (by omega) (fun c30 => ?_) (fun c30 => absurd c30 (by omega))
            refine r_iinc_e (L' := [(4, .int (iI (1 + i))), (5, .ref b22), (0, .ref a), (1, .int (iI sm)), (2, .ref pa), (3, .int (iI 10))]) (1 + i) (by omega) S dX7_piecesOfSheets_41 5 rfl (by decide) rfl ?_
            refine r_goto S 13 dX7_piecesOfSheets_44 (by decide) ?_
            refine V.sub [2, 3, 4, 5, 0] rfl ?_
            exact ih13 sm (1 + i) (by omega) (by omega) (by rw [sumI_s _ (by omega), hs, if_neg i27]; omega)
  refine V.sub [4, 3, 2, 1, 0] rfl ?_
  exact L13 _ 0 0 (Nat.lt_succ_self _) (by omega) rfl

theorem exb_and : ∀ (e : Fin 16) (k : Fin 4), (iI (e.val : Int) &&& (iI 1 <<< (iI (k.val : Int) &&& 31)) = iI 0) = ¬ (exbit e.val k.val = 1) := by decide +kernel
theorem exb_z {e k z z2 : Int} (he : 0 ≤ e ∧ e ≤ 15) (hk : 0 ≤ k ∧ k < 4) (h1 : iI z = iI 1 <<< (iI k &&& 31)) (h2 : iI z2 = iI e &&& iI z) (hz : inR z2) : z2 = 0 ↔ ¬ exbit e k = 1 := by
  obtain ⟨a, rfl⟩ := Int.eq_ofNat_of_zero_le he.1
  obtain ⟨b, rfl⟩ := Int.eq_ofNat_of_zero_le hk.1
  have h := exb_and ⟨a, by omega⟩ ⟨b, by omega⟩
  simp only at h
  rw [h1] at h2
  rw [← h, ← h2]
  exact (iI_eq hz (by decide)).symm

set_option maxRecDepth 20000 in
set_option maxHeartbeats 2000000 in
theorem kX7_costOf {D : va_G} {N : Nat → Prop} {G : gh} {now : Int → Int} {a : Nat} (hst : stO D N G now a) (hok : mOK now) {e : Int} (he : 0 ≤ e ∧ e ≤ 15) : CP ⟨"PostageCounter$State", "costOf", "(I)I"⟩ prog_9_method_7_code 4 (some .int) 0 0 D [.ref a, .int (iI e)] G (pI (fun z => z = exSum now e)) := by
  refine CP.enter (by decide +kernel) (Nat.le_of_ble_eq_true rfl) (fun F S ret => ?_)
  show V F 4 G 0 0 0 [(0, .ref a), (1, .int (iI e))] []
  obtain ⟨pa, la, wa, ea, h1, ⟨pf, hpa, hpf⟩, ⟨lf, gl, hla, hlf, hgl⟩, ⟨wf, hwa, hwf⟩, ⟨ef, hea, hef⟩⟩ := hst
  refine r_iconst S dX7_costOf_0 ?_
  refine r_istore_n (L' := [(2, .int (iI 0)), (0, .ref a), (1, .int (iI e))]) S dX7_costOf_1 (by decide) rfl ?_
  refine r_iconst S dX7_costOf_2 ?_
  refine r_istore_n (L' := [(3, .int (iI 0)), (2, .int (iI 0)), (0, .ref a), (1, .int (iI e))]) S dX7_costOf_3 (by decide) rfl ?_
  have L4 : ∀ (N : Nat) (sm : Int) (i : Int), (4 - i).toNat < N → (0 ≤ i ∧ i ≤ 4) → (sm = sumI (fun k => if exbit e k = 1 then now (1282 + k) else 0) i.toNat) → V F 4 G 0 0 4 [(0, .ref a), (1, .int (iI e)), (2, .int (iI sm)), (3, .int (iI i))] [] := by
    intro N
    induction N with
    | zero => intro sm i hN; exact absurd hN (Nat.not_lt_zero _)
    | succ N ih4 =>
      intro sm i hN4 hi hs
      refine r_iload_n S dX7_costOf_4 3 rfl ?_
      refine r_iconst S dX7_costOf_5 ?_
      refine r_icmp_ge S 32 dX7_costOf_6 (by decide) (by omega) (by omega) (fun c6 => ?_) (fun c6 => ?_)
      · skip
        refine r_iload_n S dX7_costOf_32 2 rfl ?_
        exact ret.i sm dX7_costOf_33 (by unfold exSum; rw [hs, show i.toNat = 4 by omega])
      · skip
        refine r_iload_n S dX7_costOf_9 1 rfl ?_
        refine r_iconst S dX7_costOf_10 ?_
        refine r_iload_n S dX7_costOf_11 3 rfl ?_
        refine r_ishl S dX7_costOf_12 (fun z12 hz12 ez12 => ?_)
        refine r_iand S dX7_costOf_13 (fun z13 hz13 ez13 => ?_)
        have hxb := exb_z he (k := i) ⟨by omega, by omega⟩ ez12 ez13 hz13
        refine r_if_eq S 26 dX7_costOf_14 (by decide) (by omega) (fun c14 => ?_) (fun c14 => ?_)
        · skip
          refine r_iinc_e (L' := [(3, .int (iI (1 + i))), (0, .ref a), (1, .int (iI e)), (2, .int (iI sm))]) (1 + i) (by omega) S dX7_costOf_26 3 rfl (by decide) rfl ?_
          refine r_goto S 4 dX7_costOf_29 (by decide) ?_
          refine V.sub [1, 2, 3, 0] rfl ?_
          exact ih4 sm (1 + i) (by omega) (by omega) (by rw [sumI_s _ (by omega), hs, if_neg (hxb.mp c14)]; omega)
        · skip
          refine r_iload_n S dX7_costOf_17 2 rfl ?_
          refine r_aload_n S dX7_costOf_18 0 rfl ?_
          refine r_get S gtX7_23_X7 h1.1 rfl dX7_costOf_19 ?_
          refine r_iload_n S dX7_costOf_22 3 rfl ?_
          refine r_iald S hea.1 (by omega) (by omega) (by omega) dX7_costOf_23 ?_
          rw [hef i (by omega) (by omega)]
          refine r_iadd_e (now (1282 + i) + sm) (by omega) S dX7_costOf_24 ?_
          refine r_istore_n (L' := [(2, .int (iI (now (1282 + i) + sm))), (0, .ref a), (1, .int (iI e)), (3, .int (iI i))]) S dX7_costOf_25 (by decide) rfl ?_
          refine r_iinc_e (L' := [(3, .int (iI (1 + i))), (2, .int (iI (now (1282 + i) + sm))), (0, .ref a), (1, .int (iI e))]) (1 + i) (by omega) S dX7_costOf_26 3 rfl (by decide) rfl ?_
          refine r_goto S 4 dX7_costOf_29 (by decide) ?_
          refine V.sub [2, 3, 1, 0] rfl ?_
          exact ih4 (now (1282 + i) + sm) (1 + i) (by omega) (by omega) (by rw [sumI_s _ (by omega), hs, if_pos (Classical.byContradiction (fun q => c14 (hxb.mpr q)))]; exact Int.add_comm _ _)
  refine V.sub [2, 3, 1, 0] rfl ?_
  exact L4 _ 0 0 (Nat.lt_succ_self _) (by omega) rfl

set_option maxRecDepth 20000 in
set_option maxHeartbeats 2000000 in
theorem kX5_stamps {D : va_G} {N : Nat → Prop} {G : gh} {now : Int → Int} {l : Int} {a : Nat} {g : Int → Int} (hpy : pyO D N G now l a g) : CP ⟨"PostageCounter$Payment", "stamps", "()I"⟩ prog_7_method_4_code 6 (some .int) 0 0 D [.ref a] G (pI (fun z => z = now (1407 + l))) := by
  refine CP.enter (by decide +kernel) (Nat.le_of_ble_eq_true rfl) (fun F S ret => ?_)
  show V F 6 G 0 0 0 [(0, .ref a)] []
  obtain ⟨fa, ca, sa, cf, sf, nf, h1, hok, ⟨pf, hpa, hpf⟩, hca, hsa, hcs, hgot, hg⟩ := hpy
  refine r_iconst S dX5_stamps_0 ?_
  refine r_istore_n (L' := [(1, .int (iI 0)), (0, .ref a)]) S dX5_stamps_1 (by decide) rfl ?_
  refine r_aload_n S dX5_stamps_2 1 rfl ?_
  refine r_get S gtX5_19_X5 h1.1 rfl dX5_stamps_3 ?_
  refine r_astore_n (L' := [(2, .ref ca), (1, .int (iI 0)), (0, .ref a)]) S dX5_stamps_6 (by decide) rfl ?_
  refine r_aload_n S dX5_stamps_7 0 rfl ?_
  refine r_alenI S hca.1 dX5_stamps_8 ?_
  refine r_istore_n (L' := [(3, .int (iI 10)), (2, .ref ca), (1, .int (iI 0)), (0, .ref a)]) S dX5_stamps_9 (by decide) rfl ?_
  refine r_iconst S dX5_stamps_10 ?_
  refine r_istore (L' := [(4, .int (iI 0)), (3, .int (iI 10)), (2, .ref ca), (1, .int (iI 0)), (0, .ref a)]) S dX5_stamps_11 (by decide) rfl ?_
  have L13 : ∀ (N : Nat) (sm : Int) (i : Int), (10 - i).toNat < N → (0 ≤ i ∧ i ≤ 10) → (sm = sumI cf i.toNat) → V F 6 G 0 0 13 [(0, .ref a), (1, .int (iI sm)), (2, .ref ca), (3, .int (iI 10)), (4, .int (iI i))] [] := by
    intro N
    induction N with
    | zero => intro sm i hN; exact absurd hN (Nat.not_lt_zero _)
    | succ N ih13 =>
      intro sm i hN13 hi hs
      refine r_iload S dX5_stamps_13 4 rfl ?_
      refine r_iload_n S dX5_stamps_15 3 rfl ?_
      refine r_icmp_ge S 36 dX5_stamps_16 (by decide) (by omega) (by omega) (fun c16 => ?_) (fun c16 => ?_)
      · skip
        refine r_iload_n S dX5_stamps_36 1 rfl ?_
        exact ret.i sm dX5_stamps_37 (by rw [hgot, hs, show i.toNat = 10 by omega])
      · skip
        refine r_aload_n S dX5_stamps_19 2 rfl ?_
        refine r_iload S dX5_stamps_20 4 rfl ?_
        refine r_iald S hca.1 (by omega) (by omega) (by omega) dX5_stamps_22 ?_
        refine r_istore (L' := [(5, .int (iI (cf i))), (0, .ref a), (1, .int (iI sm)), (2, .ref ca), (3, .int (iI 10)), (4, .int (iI i))]) S dX5_stamps_23 (by decide) rfl ?_
        refine r_iload_n S dX5_stamps_25 2 rfl ?_
        refine r_iload S dX5_stamps_26 0 rfl ?_
        refine r_iadd_e (cf i + sm) (by omega) S dX5_stamps_28 ?_
        refine r_istore_n (L' := [(1, .int (iI (cf i + sm))), (5, .int (iI (cf i))), (0, .ref a), (2, .ref ca), (3, .int (iI 10)), (4, .int (iI i))]) S dX5_stamps_29 (by decide) rfl ?_
        refine r_iinc_e (L' := [(4, .int (iI (1 + i))), (1, .int (iI (cf i + sm))), (5, .int (iI (cf i))), (0, .ref a), (2, .ref ca), (3, .int (iI 10))]) (1 + i) (by omega) S dX5_stamps_30 5 rfl (by decide) rfl ?_
        refine r_goto S 13 dX5_stamps_33 (by decide) ?_
        refine V.sub [3, 1, 4, 5, 0] rfl ?_
        exact ih13 (cf i + sm) (1 + i) (by omega) (by omega) (by rw [sumI_s _ (by omega), hs]; exact Int.add_comm _ _)
  refine V.sub [4, 3, 2, 1, 0] rfl ?_
  exact L13 _ 0 0 (Nat.lt_succ_self _) (by omega) rfl

set_option maxRecDepth 20000 in
set_option maxHeartbeats 2000000 in
theorem kX5_stampsOf {D : va_G} {N : Nat → Prop} {G : gh} {now : Int → Int} {l : Int} {a : Nat} {g : Int → Int} (hpy : pyO D N G now l a g) {fc : Int} (hfr : inR fc) (hfc : 1 ≤ fc ∧ fc ≤ 500) : CP ⟨"PostageCounter$Payment", "stampsOf", "(I)I"⟩ prog_7_method_5_code 4 (some .int) 2 45 D [.ref a, .int (iI fc)] G (pI (fun z => z = g fc)) := by
  refine CP.enter (by decide +kernel) (Nat.le_of_ble_eq_true rfl) (fun F S ret => ?_)
  show V F 4 G 0 0 0 [(0, .ref a), (1, .int (iI fc))] []
  obtain ⟨fa, ca, sa, cf, sf, nf, h1, hok, ⟨pf, hpa, hpf⟩, hca, hsa, hcs, hgot, hg⟩ := hpy
  refine r_iconst S dX5_stampsOf_0 ?_
  refine r_istore_n (L' := [(2, .int (iI 0)), (0, .ref a), (1, .int (iI fc))]) S dX5_stampsOf_1 (by decide) rfl ?_
  refine r_iconst S dX5_stampsOf_2 ?_
  refine r_istore_n (L' := [(3, .int (iI 0)), (2, .int (iI 0)), (0, .ref a), (1, .int (iI fc))]) S dX5_stampsOf_3 (by decide) rfl ?_
  have L4 : ∀ (N : Nat) (sm : Int) (i : Int), (10 - i).toNat < N → (0 ≤ i ∧ i ≤ 10) → (sm = sumI (fun p => goneF nf p (cf p) fc) i.toNat) → V F 4 G 0 0 4 [(0, .ref a), (1, .int (iI fc)), (2, .int (iI sm)), (3, .int (iI i))] [] := by
    intro N
    induction N with
    | zero => intro sm i hN; exact absurd hN (Nat.not_lt_zero _)
    | succ N ih4 =>
      intro sm i hN4 hi hs
      refine r_iload_n S dX5_stampsOf_4 3 rfl ?_
      refine r_bipush S dX5_stampsOf_5 (by decide) ?_
      refine r_icmp_ge S 44 dX5_stampsOf_7 (by decide) (by omega) (by omega) (fun c7 => ?_) (fun c7 => ?_)
      · skip
        refine r_iload_n S dX5_stampsOf_44 2 rfl ?_
        exact ret.i sm dX5_stampsOf_45 (by rw [hg fc hfc.1 hfc.2, hs, show i.toNat = 10 by omega])
      · skip
        have hcsi := hcs i (by omega) (by omega)
        have hKi := hok.1 i (by omega) (by omega)
        refine r_aload_n S dX5_stampsOf_10 0 rfl ?_
        refine r_get S gtX5_15_X5 h1.1 rfl dX5_stampsOf_11 ?_
        refine r_iload_n S dX5_stampsOf_14 3 rfl ?_
        rcases hpf i (by omega) (by omega) with ⟨hk15, hf15⟩ | ⟨hk15, b15, hf15, hO15⟩
        · skip
          refine r_aaldN hf15 hpa.1 rfl (by omega) (by omega) (by omega) S dX5_stampsOf_15 ?_
          refine r_ifnullN S 38 dX5_stampsOf_16 (by decide) ?_
          refine r_iinc_e (L' := [(3, .int (iI (1 + i))), (0, .ref a), (1, .int (iI fc)), (2, .int (iI sm))]) (1 + i) (by omega) S dX5_stampsOf_38 3 rfl (by decide) rfl ?_
          refine r_goto S 4 dX5_stampsOf_41 (by decide) ?_
          refine V.sub [1, 2, 3, 0] rfl ?_
          exact ih4 sm (1 + i) (by omega) (by omega) (by rw [sumI_s _ (by omega), hs, show cf i = 0 by omega, goneF_0]; omega)
        · skip
          refine r_aaldS hf15 hpa.1 rfl (by omega) (by omega) (by omega) S dX5_stampsOf_15 ?_
          refine r_ifnull S dX5_stampsOf_16 ?_
          refine r_iload_n S dX5_stampsOf_19 2 rfl ?_
          refine r_aload_n S dX5_stampsOf_20 0 rfl ?_
          refine r_get S gtX5_15_X5 h1.1 rfl dX5_stampsOf_21 ?_
          refine r_iload_n S dX5_stampsOf_24 3 rfl ?_
          refine r_aaldS hf15 hpa.1 rfl (by omega) (by omega) (by omega) S dX5_stampsOf_25 ?_
          refine r_iload_n S dX5_stampsOf_26 1 rfl ?_
          refine r_aload_n S dX5_stampsOf_27 0 rfl ?_
          refine r_get S gtX5_19_X5 h1.1 rfl dX5_stampsOf_28 ?_
          refine r_iload_n S dX5_stampsOf_31 3 rfl ?_
          refine r_iald S hca.1 (by omega) (by omega) (by omega) dX5_stampsOf_32 ?_
          refine (vdH_ofFace (f := fc) (n := (cf i)) (hf := hfr) (hn := ⟨by omega, by omega⟩) (hh := hO15) hok ⟨by omega, by omega⟩ (st := [.int (iI sm)]) S  ⟨by decide, by decide⟩ ⟨by omega, by omega⟩ (Nat.le_of_ble_eq_true rfl) w737 dX5_stampsOf_33).goI (fun r33 hc33 => ?_)
          refine r_iadd_e (r33 + sm) (by omega) S dX5_stampsOf_36 ?_
          refine r_istore_n (L' := [(2, .int (iI (r33 + sm))), (0, .ref a), (1, .int (iI fc)), (3, .int (iI i))]) S dX5_stampsOf_37 (by decide) rfl ?_
          refine r_iinc_e (L' := [(3, .int (iI (1 + i))), (2, .int (iI (r33 + sm))), (0, .ref a), (1, .int (iI fc))]) (1 + i) (by omega) S dX5_stampsOf_38 3 rfl (by decide) rfl ?_
          refine r_goto S 4 dX5_stampsOf_41 (by decide) ?_
          refine V.sub [2, 3, 1, 0] rfl ?_
          exact ih4 (r33 + sm) (1 + i) (by omega) (by omega) (by rw [sumI_s _ (by omega), hs, hc33]; exact Int.add_comm _ _)
  refine V.sub [2, 3, 1, 0] rfl ?_
  exact L4 _ 0 0 (Nat.lt_succ_self _) (by omega) rfl

set_option maxRecDepth 20000 in
set_option maxHeartbeats 2000000 in
theorem kX5_squareAfter {D : va_G} {G : gh} {x : BitVec 64} {i : Int} (hi : 0 ≤ i ∧ i < cB x ∧ i ≤ 64) : CP ⟨"PostageCounter$Payment", "squareAfter", "(JI)I"⟩ prog_7_method_7_code 5 (some .int) 0 0 D [.long (lB x), .int (iI i)] G (pI (fun z => (0 ≤ z ∧ z < 64) ∧ bI x z = true ∧ sumI (fB x) z.toNat = i)) := by
  refine CP.enter (by decide +kernel) (Nat.le_of_ble_eq_true rfl) (fun F S ret => ?_)
  show V F 5 G 0 0 0 [(0, .long (lB x)), (2, .int (iI i))] []
  refine r_iload_n S dX5_squareAfter_0 1 rfl ?_
  refine r_istore_n (L' := [(3, .int (iI i)), (0, .long (lB x)), (2, .int (iI i))]) S dX5_squareAfter_1 (by decide) rfl ?_
  refine r_iconst S dX5_squareAfter_2 ?_
  refine r_istore (L' := [(4, .int (iI 0)), (3, .int (iI i)), (0, .long (lB x)), (2, .int (iI i))]) S dX5_squareAfter_3 (by decide) rfl ?_
  have L5 : ∀ (N : Nat) (lf : Int) (s : Int), (64 - s).toNat < N → (0 ≤ s ∧ s ≤ 64) → (lf = i - sumI (fB x) s.toNat) → (0 ≤ lf) → V F 5 G 0 0 5 [(0, .long (lB x)), (3, .int (iI lf)), (4, .int (iI s))] [] := by
    intro N
    induction N with
    | zero => intro lf s hN; exact absurd hN (Nat.not_lt_zero _)
    | succ N ih5 =>
      intro lf s hN5 hs hl hl0
      have hsb := sumI_bd (f := fB x) (a := 0) (b := 1) (n := s.toNat) (fun k _ _ => by unfold fB; split <;> omega)
      refine r_iload S dX5_squareAfter_5 2 rfl ?_
      refine r_bipush S dX5_squareAfter_7 (by decide) ?_
      refine r_icmp_ge S 39 dX5_squareAfter_9 (by decide) (by omega) (by omega) (fun c9 => ?_) (fun c9 => ?_)
      · skip
        refine r_iconst S dX5_squareAfter_39 ?_
        exact ret.i (-1) dX5_squareAfter_40 (by exfalso; have h := cB_eq x; rw [show s.toNat = 64 by omega] at hl; omega)
      · skip
        refine r_lload_n S dX5_squareAfter_12 0 rfl ?_
        refine r_lconst S 1#64 dX5_squareAfter_13 (by decide) ?_
        refine r_iload S dX5_squareAfter_14 2 rfl ?_
        refine r_lshl S (by omega) dX5_squareAfter_16 ?_
        refine r_land S dX5_squareAfter_17 ?_
        refine r_lconst S 0#64 dX5_squareAfter_18 (by decide) ?_
        refine r_lcmp S dX5_squareAfter_19 (fun z19 hz19 ez19 => ?_)
        have hsq := sq_at (x := x) (k := s) (by omega) (by omega)
        refine r_if_eq S 33 dX5_squareAfter_20 (by decide) (by omega) (fun c20 => ?_) (fun c20 => ?_)
        · skip
          refine r_iinc_e (L' := [(4, .int (iI (1 + s))), (0, .long (lB x)), (3, .int (iI lf))]) (1 + s) (by omega) S dX5_squareAfter_33 2 rfl (by decide) rfl ?_
          refine r_goto S 5 dX5_squareAfter_36 (by decide) ?_
          refine V.sub [1, 2, 0] rfl ?_
          exact ih5 lf (1 + s) (by omega) (by omega) (by rw [sumI_s _ (by omega), show fB x s = 0 by unfold fB; rw [if_neg (hsq.mp (ez19.mp c20))]]; omega) hl0
        · skip
          refine r_iload_n S dX5_squareAfter_23 1 rfl ?_
          refine r_if_ne S 30 dX5_squareAfter_24 (by decide) (by omega) (fun c24 => ?_) (fun c24 => ?_)
          · skip
            refine r_iinc_e (L' := [(3, .int (iI (lf - 1))), (0, .long (lB x)), (4, .int (iI s))]) (lf - 1) (by omega) S dX5_squareAfter_30 1 rfl (by decide) rfl ?_
            refine r_iinc_e (L' := [(4, .int (iI (1 + s))), (3, .int (iI (lf - 1))), (0, .long (lB x))]) (1 + s) (by omega) S dX5_squareAfter_33 2 rfl (by decide) rfl ?_
            refine r_goto S 5 dX5_squareAfter_36 (by decide) ?_
            refine V.sub [2, 1, 0] rfl ?_
            exact ih5 (lf - 1) (1 + s) (by omega) (by omega) (by rw [sumI_s _ (by omega), show fB x s = 1 by unfold fB; rw [if_pos (Classical.byContradiction (fun q => c20 (ez19.mpr (hsq.mpr q))))]]; omega) (by omega)
          · skip
            refine r_iload S dX5_squareAfter_27 2 rfl ?_
            exact ret.i s dX5_squareAfter_29 ⟨⟨by omega, by omega⟩, Classical.byContradiction (fun q => c20 (ez19.mpr (hsq.mpr q))), by omega⟩
  refine V.sub [2, 1, 0] rfl ?_
  exact L5 _ i 0 (Nat.lt_succ_self _) (by omega) (by show i = i - 0; omega) (by omega)

set_option maxRecDepth 20000 in
set_option maxHeartbeats 2000000 in
theorem kX5_tornSquare {D : va_G} {N : Nat → Prop} {G : gh} {now : Int → Int} {l : Int} {a : Nat} {g : Int → Int} (hpy : pyO D N G now l a g) {i : Int} (hi : inR i) : CP ⟨"PostageCounter$Payment", "tornSquare", "(I)I"⟩ prog_7_method_6_code 5 (some .int) 1 24 D [.ref a, .int (iI i)] G (pI (fun z => tsR now l i z)) := by
  refine CP.enter (by decide +kernel) (Nat.le_of_ble_eq_true rfl) (fun F S ret => ?_)
  show V F 5 G 0 0 0 [(0, .ref a), (1, .int (iI i))] []
  obtain ⟨fa, ca, sa, cf, sf, nf, h1, hok, ⟨pf, hpa, hpf⟩, hca, hsa, hcs, hgot, hg⟩ := hpy
  refine r_iload_n S dX5_tornSquare_0 1 rfl ?_
  refine r_if_ge S 6 dX5_tornSquare_1 (by decide) (by omega) (fun c1 => ?_) (fun c1 => ?_)
  · skip
    refine r_iload_n S dX5_tornSquare_6 1 rfl ?_
    refine r_istore_n (L' := [(2, .int (iI i)), (0, .ref a), (1, .int (iI i))]) S dX5_tornSquare_7 (by decide) rfl ?_
    refine r_iconst S dX5_tornSquare_8 ?_
    refine r_istore_n (L' := [(3, .int (iI 0)), (2, .int (iI i)), (0, .ref a), (1, .int (iI i))]) S dX5_tornSquare_9 (by decide) rfl ?_
    have L10 : ∀ (N : Nat) (lf : Int) (p : Int), (10 - p).toNat < N → (0 ≤ p ∧ p ≤ 10) → (lf = i - sumI (tl now l) (64 * p).toNat) → (0 ≤ lf ∧ lf ≤ 2147483647) → V F 5 G 0 0 10 [(0, .ref a), (2, .int (iI lf)), (3, .int (iI p))] [] := by
      intro N
      induction N with
      | zero => intro lf p hN; exact absurd hN (Nat.not_lt_zero _)
      | succ N ih10 =>
        intro lf p hN10 hp hl hl0
        refine r_iload_n S dX5_tornSquare_10 2 rfl ?_
        refine r_bipush S dX5_tornSquare_11 (by decide) ?_
        refine r_icmp_ge S 60 dX5_tornSquare_13 (by decide) (by omega) (by omega) (fun c13 => ?_) (fun c13 => ?_)
        · skip
          refine r_iconst S dX5_tornSquare_60 ?_
          exact ret.i (-1) dX5_tornSquare_61 (ts_none (Or.inr (by rw [show (64 * p).toNat = 640 by omega] at hl; omega)))
        · skip
          refine r_aload_n S dX5_tornSquare_16 0 rfl ?_
          refine r_get S gtX5_23_X5 h1.1 rfl dX5_tornSquare_17 ?_
          refine r_iload_n S dX5_tornSquare_20 2 rfl ?_
          refine r_lald S hsa.1 (by omega) (by omega) (by omega) dX5_tornSquare_21 ?_
          refine (c_S_P (As := [.long (lB (sf p))]) (st := []) S kJ_bitCount moJ13_bitCount ⟨by decide, by decide⟩ ⟨by omega, by omega⟩ rfl (Nat.le_of_ble_eq_true rfl) w695 w263 rfl dX5_tornSquare_22).goI (fun r22 hc22 => ?_)
          refine r_istore (L' := [(4, .int (iI r22)), (0, .ref a), (2, .int (iI lf)), (3, .int (iI p))]) S dX5_tornSquare_25 (by decide) rfl ?_
          have hcsp := (hcs p (by omega) (by omega)).2.2.2
          have hcb := cB_bd (sf p)
          have hrow := tl_row hcsp (by omega) 64 (Nat.le_refl _)
          rw [← cB_eq, ← hc22, show (64 * p).toNat + 64 = (64 * (1 + p)).toNat by omega] at hrow
          refine r_iload_n S dX5_tornSquare_27 2 rfl ?_
          refine r_iload S dX5_tornSquare_28 0 rfl ?_
          refine r_icmp_ge S 49 dX5_tornSquare_30 (by decide) (by omega) (by omega) (fun c30 => ?_) (fun c30 => ?_)
          · skip
            refine r_iload_n S dX5_tornSquare_49 2 rfl ?_
            refine r_iload S dX5_tornSquare_50 0 rfl ?_
            refine r_isub S dX5_tornSquare_52 ?_
            refine r_istore_n (L' := [(2, .int (iI (lf - r22))), (4, .int (iI r22)), (0, .ref a), (3, .int (iI p))]) S dX5_tornSquare_53 (by decide) rfl ?_
            refine r_iinc_e (L' := [(3, .int (iI (1 + p))), (2, .int (iI (lf - r22))), (4, .int (iI r22)), (0, .ref a)]) (1 + p) (by omega) S dX5_tornSquare_54 3 rfl (by decide) rfl ?_
            refine r_goto S 10 dX5_tornSquare_57 (by decide) ?_
            refine V.sub [3, 1, 0] rfl ?_
            exact ih10 (lf - r22) (1 + p) (by omega) (by omega) (by omega) (by omega)
          · skip
            refine r_bipush S dX5_tornSquare_33 (by decide) ?_
            refine r_iload_n S dX5_tornSquare_35 3 rfl ?_
            refine r_imul S dX5_tornSquare_36 ?_
            refine r_aload_n S dX5_tornSquare_37 1 rfl ?_
            refine r_get S gtX5_23_X5 h1.1 rfl dX5_tornSquare_38 ?_
            refine r_iload_n S dX5_tornSquare_41 3 rfl ?_
            refine r_lald S hsa.1 (by omega) (by omega) (by omega) dX5_tornSquare_42 ?_
            refine r_iload_n S dX5_tornSquare_43 2 rfl ?_
            refine (c_S_P (As := [.long (lB (sf p)), .int (iI lf)]) (st := [.int (iI (100 * p))]) S (kX5_squareAfter ⟨by omega, by omega, by omega⟩) moX5_squareAfter ⟨by decide, by decide⟩ ⟨by omega, by omega⟩ rfl (Nat.le_of_ble_eq_true rfl) w696 w697 rfl dX5_tornSquare_44).goI (fun r44 hc44 => ?_)
            refine r_iadd_e (100 * p + r44) (by omega) S dX5_tornSquare_47 ?_
            exact ret.i (100 * p + r44) dX5_tornSquare_48 (ts_here hcsp ⟨by omega, by omega⟩ hl hc44.1 hc44.2.1 hc44.2.2)
    refine V.sub [2, 1, 0] rfl ?_
    exact L10 _ i 0 (Nat.lt_succ_self _) (by omega) (by show i = i - 0; omega) (by omega)
  · skip
    refine r_iconst S dX5_tornSquare_4 ?_
    exact ret.i (-1) dX5_tornSquare_5 (ts_none (Or.inl (by omega)))
