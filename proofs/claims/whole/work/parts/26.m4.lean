set_option maxRecDepth 20000 in
set_option maxHeartbeats 2000000 in
theorem kX11_whole {D : va_G} {G : gh} {w : UInt32} : CP ⟨"PostageCounterModel", "whole", "(F)I"⟩ prog_13_method_29_code 2 (some .int) 0 0 D [.float w] G (pI (fun z => z = wholeF w)) := by
  refine CP.enter (by decide +kernel) (Nat.le_of_ble_eq_true rfl) (fun F S ret => ?_)
  show V F 2 G 0 0 0 [(0, .float w)] []
  have hR1 := fI_R w
  have hR2 := fcG_R (fF (fI w)) w
  refine r_fload_n S dX11_whole_0 0 rfl ?_
  refine r_f2i S dX11_whole_1 ?_
  refine r_istore_n (L' := [(1, .int (iI (fI w))), (0, .float w)]) S dX11_whole_2 (by decide) rfl ?_
  refine r_iload_n S dX11_whole_3 0 rfl ?_
  refine r_i2f S dX11_whole_4 ?_
  refine r_fload_n S dX11_whole_5 1 rfl ?_
  refine r_fcG S dX11_whole_6 (fun hR6 => ?_)
  refine r_if_ge S 16 dX11_whole_7 (by decide) (by omega) (fun c7 => ?_) (fun c7 => ?_)
  · skip
    refine r_iload_n S dX11_whole_16 0 rfl ?_
    exact ret.i (fI w) dX11_whole_17 (by unfold wholeF; rw [if_neg (by omega)])
  · skip
    refine r_iload_n S dX11_whole_10 0 rfl ?_
    refine r_iconst S dX11_whole_11 ?_
    refine r_iadd_e (1 + fI w) (by omega) S dX11_whole_12 ?_
    refine r_nm ?_
    refine r_goto S 17 dX11_whole_13 (by decide) ?_
    exact ret.i (iT (1 + fI w)) dX11_whole_17 (by unfold wholeF; rw [if_pos (by omega)])

set_option maxRecDepth 20000 in
set_option maxHeartbeats 2000000 in
theorem kX11_grams {D : va_G} {A : Nat → Nat} {km rd : Int} {now reel : Int → Int} {hist : Int → Int → Int} {G : gh} (hq : mQ D A now hist km rd reel G) (hok : mOK now) {w : UInt32} : CT ⟨"PostageCounterModel", "grams", "(F)I"⟩ prog_13_method_30_code 2 (some .int) 1 21 0 0 D [.ref (A 0), .float w] G (mM A) (tI (fun z G' => sGrams w z ∧ mQ D A now hist km rd reel G')) := by
  refine CT.enter (by decide +kernel) (Nat.le_of_ble_eq_true rfl) (fun F S ret hb hM hI => ?_)
  show V F 2 G 0 0 0 [(0, .ref (A 0)), (1, .float w)] []
  obtain ⟨th, ke, kept, part, best, hm, hkp⟩ := hq
  refine r_aload_n S dX11_grams_0 0 rfl ?_
  refine r_iconst S dX11_grams_1 ?_
  refine m_put_th S hb hM hm ptX11_27_X11 dX11_grams_2 (fun G2 hm2 => ?_)
  refine r_fload_n S dX11_grams_5 1 rfl ?_
  refine r_fconst0 S dX11_grams_6 ?_
  refine r_fcL S dX11_grams_7 (fun hR7 => ?_)
  refine r_if_lt S 25 dX11_grams_8 (by decide) (by omega) (fun c8 => ?_) (fun c8 => ?_)
  · skip
    refine r_bipush S dX11_grams_25 (by decide) ?_
    exact ret.ti (-3) dX11_grams_27 (by omega) (by omega) ⟨(Or.inr ⟨fun h => by have := h.1; have := h.2; omega, rfl⟩), ⟨_, _, _, _, _, hm2, hkp⟩⟩
  · skip
    refine r_fload_n S dX11_grams_11 1 rfl ?_
    refine r_ldcf w895 S dX11_grams_12 ?_
    refine r_fcG S dX11_grams_14 (fun hR14 => ?_)
    refine r_if_gt S 25 dX11_grams_15 (by decide) (by omega) (fun c15 => ?_) (fun c15 => ?_)
    · skip
      refine r_bipush S dX11_grams_25 (by decide) ?_
      exact ret.ti (-3) dX11_grams_27 (by omega) (by omega) ⟨(Or.inr ⟨fun h => by have := h.1; have := h.2; omega, rfl⟩), ⟨_, _, _, _, _, hm2, hkp⟩⟩
    · skip
      refine r_fload_n S dX11_grams_18 1 rfl ?_
      refine (c_S_P (As := [.float w]) (st := []) S (kX11_whole) moX11_whole ⟨by decide, by decide⟩ ⟨by omega, by omega⟩ rfl (Nat.le_of_ble_eq_true rfl) w896 w897 rfl dX11_grams_19).goI (fun r19 hc19 => ?_)
      refine r_goto S 27 dX11_grams_22 (by decide) ?_
      exact ret.ti r19 dX11_grams_27 (by omega) (by omega) ⟨(Or.inl ⟨⟨by omega, by omega⟩, hc19⟩), ⟨_, _, _, _, _, hm2, hkp⟩⟩

set_option maxRecDepth 20000 in
set_option maxHeartbeats 2000000 in
theorem kX11_pays {D : va_G} {A : Nat → Nat} {th ke km rd : Int} {now kept reel part best : Int → Int} {G : gh} (hm : mS D A th ke km rd now kept reel part best G) {p n : Int} (hok : okK now) (hp : 0 ≤ p ∧ p < 10) (hn : 0 ≤ n ∧ n ≤ now (10 + p)) : CP ⟨"PostageCounterModel", "pays", "(II)I"⟩ prog_13_method_34_code 5 (some .int) 1 22 D [.ref (A 0), .int (iI p), .int (iI n)] G (pI (fun z => z = paysF now p n)) := by
  refine CP.enter (by decide +kernel) (Nat.le_of_ble_eq_true rfl) (fun F S ret => ?_)
  show V F 5 G 0 0 0 [(0, .ref (A 0)), (1, .int (iI p)), (2, .int (iI n))] []
  have hK := hok p (by omega) (by omega)
  refine r_aload_n S dX11_pays_0 0 rfl ?_
  refine m_get_now S hm gtX11_7_X11 dX11_pays_1 ?_
  refine r_iconst S dX11_pays_4 ?_
  refine r_iload_n S dX11_pays_5 1 rfl ?_
  refine r_iadd_e p (by omega) S dX11_pays_6 ?_
  refine m_ld_now S hm (by omega) (by omega) dX11_pays_7 ?_
  refine r_iconst S dX11_pays_8 ?_
  refine r_icmp_eq S 24 dX11_pays_9 (by decide) (by omega) (by omega) (fun c9 => ?_) (fun c9 => ?_)
  · skip
    refine r_iconst S dX11_pays_24 ?_
    refine r_istore_n (L' := [(3, .int (iI 0)), (0, .ref (A 0)), (1, .int (iI p)), (2, .int (iI n))]) S dX11_pays_25 (by decide) rfl ?_
    refine r_iconst S dX11_pays_26 ?_
    refine r_istore (L' := [(4, .int (iI 1)), (3, .int (iI 0)), (0, .ref (A 0)), (1, .int (iI p)), (2, .int (iI n))]) S dX11_pays_27 (by decide) rfl ?_
    have L29 : ∀ (N : Nat) (sm : Int) (k : Int), (1 + n - k).toNat < N → (1 ≤ k ∧ k ≤ 1 + n) → (sm = sumI (fun k => now (60 + 40 * p + (now (10 + p) - (1 + k)))) (k - 1).toNat) → V F 5 G 0 0 29 [(0, .ref (A 0)), (1, .int (iI p)), (2, .int (iI n)), (3, .int (iI sm)), (4, .int (iI k))] [] := by
      intro N
      induction N with
      | zero => intro sm k hN; exact absurd hN (Nat.not_lt_zero _)
      | succ N ih29 =>
        intro sm k hN29 hk hs
        refine r_iload S dX11_pays_29 4 rfl ?_
        refine r_iload_n S dX11_pays_31 2 rfl ?_
        refine r_icmp_gt S 66 dX11_pays_32 (by decide) (by omega) (by omega) (fun c32 => ?_) (fun c32 => ?_)
        · skip
          refine r_iload_n S dX11_pays_66 3 rfl ?_
          exact ret.i sm dX11_pays_67 (by unfold paysF; rw [if_pos (by omega), hs, show (k - 1).toNat = n.toNat by omega])
        · skip
          refine r_iload_n S dX11_pays_35 3 rfl ?_
          refine r_aload_n S dX11_pays_36 0 rfl ?_
          refine m_get_now S hm gtX11_7_X11 dX11_pays_37 ?_
          refine r_aload_n S dX11_pays_40 0 rfl ?_
          refine r_iload_n S dX11_pays_41 1 rfl ?_
          refine r_aload_n S dX11_pays_42 0 rfl ?_
          refine m_get_now S hm gtX11_7_X11 dX11_pays_43 ?_
          refine r_bipush S dX11_pays_46 (by decide) ?_
          refine r_iload_n S dX11_pays_48 1 rfl ?_
          refine r_iadd S dX11_pays_49 ?_
          refine m_ld_now S hm (by omega) (by omega) dX11_pays_50 ?_
          refine r_iload S dX11_pays_51 4 rfl ?_
          refine r_isub_e (now (10 + p) - k) (by omega) S dX11_pays_53 ?_
          refine (c_V_P (As := [.int (iI p), .int (iI (now (10 + p) - k))]) (st := [.ref (A 1), .int (iI sm)]) S (kX11_stampAt hm ) moX11_stampAt ⟨by decide, by decide⟩ ⟨by omega, by omega⟩ rfl (Nat.le_of_ble_eq_true rfl) w827 w829 w19 hm.1 rfl rfl dX11_pays_54).goI (fun r54 hc54 => ?_)
          refine m_ld_now S hm (by omega) (by omega) dX11_pays_57 ?_
          refine r_iadd_e (now r54 + sm) (by omega) S dX11_pays_58 ?_
          refine r_istore_n (L' := [(3, .int (iI (now r54 + sm))), (0, .ref (A 0)), (1, .int (iI p)), (2, .int (iI n)), (4, .int (iI k))]) S dX11_pays_59 (by decide) rfl ?_
          refine r_iinc_e (L' := [(4, .int (iI (1 + k))), (3, .int (iI (now r54 + sm))), (0, .ref (A 0)), (1, .int (iI p)), (2, .int (iI n))]) (1 + k) (by omega) S dX11_pays_60 4 rfl (by decide) rfl ?_
          refine r_goto S 29 dX11_pays_63 (by decide) ?_
          refine V.sub [2, 3, 4, 1, 0] rfl ?_
          exact ih29 (now r54 + sm) (1 + k) (by omega) (by omega) (by rw [show (1 + k - 1).toNat = (1 + (k - 1)).toNat by omega, sumI_s _ (by omega), hs, hc54, show 1 + (k - 1) = k by omega] <;> omega)
    refine V.sub [2, 3, 4, 1, 0] rfl ?_
    exact L29 _ 0 1 (Nat.lt_succ_self _) (by omega) rfl
  · skip
    refine r_iload_n S dX11_pays_12 2 rfl ?_
    refine r_aload_n S dX11_pays_13 0 rfl ?_
    refine m_get_now S hm gtX11_7_X11 dX11_pays_14 ?_
    refine r_bipush S dX11_pays_17 (by decide) ?_
    refine r_iload_n S dX11_pays_19 1 rfl ?_
    refine r_iadd S dX11_pays_20 ?_
    refine m_ld_now S hm (by omega) (by omega) dX11_pays_21 ?_
    refine r_imul S dX11_pays_22 ?_
    exact ret.i (n * (now (20 + p))) dX11_pays_23 (by unfold paysF; rw [if_neg (by omega)])

set_option maxRecDepth 20000 in
set_option maxHeartbeats 2000000 in
theorem kX11_facesOf {D : va_G} {A : Nat → Nat} {th ke km rd : Int} {now kept reel part best : Int → Int} {G : gh} (hm : mS D A th ke km rd now kept reel part best G) {p : Int} (hok : mOK now) (hp : 0 ≤ p ∧ p < 10) : CP ⟨"PostageCounterModel", "facesOf", "(I)I"⟩ prog_13_method_25_code 4 (some .int) 1 22 D [.ref (A 0), .int (iI p)] G (pI (fun z => z = facesF now p)) := by
  refine CP.enter (by decide +kernel) (Nat.le_of_ble_eq_true rfl) (fun F S ret => ?_)
  show V F 4 G 0 0 0 [(0, .ref (A 0)), (1, .int (iI p))] []
  have hK := hok.1 p (by omega) (by omega)
  refine r_aload_n S dX11_facesOf_0 0 rfl ?_
  refine m_get_now S hm gtX11_7_X11 dX11_facesOf_1 ?_
  refine r_iconst S dX11_facesOf_4 ?_
  refine r_iload_n S dX11_facesOf_5 1 rfl ?_
  refine r_iadd_e p (by omega) S dX11_facesOf_6 ?_
  refine m_ld_now S hm (by omega) (by omega) dX11_facesOf_7 ?_
  refine r_iconst S dX11_facesOf_8 ?_
  refine r_icmp_eq S 32 dX11_facesOf_9 (by decide) (by omega) (by omega) (fun c9 => ?_) (fun c9 => ?_)
  · skip
    refine r_iconst S dX11_facesOf_32 ?_
    refine r_istore_n (L' := [(2, .int (iI 0)), (0, .ref (A 0)), (1, .int (iI p))]) S dX11_facesOf_33 (by decide) rfl ?_
    refine r_iconst S dX11_facesOf_34 ?_
    refine r_istore_n (L' := [(3, .int (iI 0)), (2, .int (iI 0)), (0, .ref (A 0)), (1, .int (iI p))]) S dX11_facesOf_35 (by decide) rfl ?_
    have L36 : ∀ (N : Nat) (sm : Int) (k : Int), (now (10 + p) - k).toNat < N → (0 ≤ k ∧ k ≤ now (10 + p)) → (sm = sumI (fun a => now (60 + 40 * p + a)) k.toNat) → V F 4 G 0 0 36 [(0, .ref (A 0)), (1, .int (iI p)), (2, .int (iI sm)), (3, .int (iI k))] [] := by
      intro N
      induction N with
      | zero => intro sm k hN; exact absurd hN (Nat.not_lt_zero _)
      | succ N ih36 =>
        intro sm k hN36 hk hs
        refine r_iload_n S dX11_facesOf_36 3 rfl ?_
        refine r_aload_n S dX11_facesOf_37 0 rfl ?_
        refine m_get_now S hm gtX11_7_X11 dX11_facesOf_38 ?_
        refine r_bipush S dX11_facesOf_41 (by decide) ?_
        refine r_iload_n S dX11_facesOf_43 1 rfl ?_
        refine r_iadd S dX11_facesOf_44 ?_
        refine m_ld_now S hm (by omega) (by omega) dX11_facesOf_45 ?_
        refine r_icmp_ge S 69 dX11_facesOf_46 (by decide) (by omega) (by omega) (fun c46 => ?_) (fun c46 => ?_)
        · skip
          refine r_iload_n S dX11_facesOf_69 2 rfl ?_
          exact ret.i sm dX11_facesOf_70 (by unfold facesF; rw [if_pos (by omega), hs, show k.toNat = (now (10 + p)).toNat by omega])
        · skip
          refine r_iload_n S dX11_facesOf_49 2 rfl ?_
          refine r_aload_n S dX11_facesOf_50 0 rfl ?_
          refine m_get_now S hm gtX11_7_X11 dX11_facesOf_51 ?_
          refine r_aload_n S dX11_facesOf_54 0 rfl ?_
          refine r_iload_n S dX11_facesOf_55 1 rfl ?_
          refine r_iload_n S dX11_facesOf_56 3 rfl ?_
          refine (c_V_P (As := [.int (iI p), .int (iI k)]) (st := [.ref (A 1), .int (iI sm)]) S (kX11_stampAt hm ) moX11_stampAt ⟨by decide, by decide⟩ ⟨by omega, by omega⟩ rfl (Nat.le_of_ble_eq_true rfl) w827 w829 w19 hm.1 rfl rfl dX11_facesOf_57).goI (fun r57 hc57 => ?_)
          refine m_ld_now S hm (by omega) (by omega) dX11_facesOf_60 ?_
          refine r_iadd_e (now r57 + sm) (by omega) S dX11_facesOf_61 ?_
          refine r_istore_n (L' := [(2, .int (iI (now r57 + sm))), (0, .ref (A 0)), (1, .int (iI p)), (3, .int (iI k))]) S dX11_facesOf_62 (by decide) rfl ?_
          refine r_iinc_e (L' := [(3, .int (iI (1 + k))), (2, .int (iI (now r57 + sm))), (0, .ref (A 0)), (1, .int (iI p))]) (1 + k) (by omega) S dX11_facesOf_63 3 rfl (by decide) rfl ?_
          refine r_goto S 36 dX11_facesOf_66 (by decide) ?_
          refine V.sub [2, 3, 1, 0] rfl ?_
          exact ih36 (now r57 + sm) (1 + k) (by omega) (by omega) (by rw [sumI_s _ (by omega), hs, hc57] <;> omega)
    refine V.sub [2, 3, 1, 0] rfl ?_
    exact L36 _ 0 0 (Nat.lt_succ_self _) (by omega) rfl
  · skip
    refine r_aload_n S dX11_facesOf_12 0 rfl ?_
    refine m_get_now S hm gtX11_7_X11 dX11_facesOf_13 ?_
    refine r_bipush S dX11_facesOf_16 (by decide) ?_
    refine r_iload_n S dX11_facesOf_18 1 rfl ?_
    refine r_iadd S dX11_facesOf_19 ?_
    refine m_ld_now S hm (by omega) (by omega) dX11_facesOf_20 ?_
    refine r_aload_n S dX11_facesOf_21 0 rfl ?_
    refine m_get_now S hm gtX11_7_X11 dX11_facesOf_22 ?_
    refine r_bipush S dX11_facesOf_25 (by decide) ?_
    refine r_iload_n S dX11_facesOf_27 1 rfl ?_
    refine r_iadd S dX11_facesOf_28 ?_
    refine m_ld_now S hm (by omega) (by omega) dX11_facesOf_29 ?_
    refine r_imul S dX11_facesOf_30 ?_
    exact ret.i ((now (10 + p)) * (now (20 + p))) dX11_facesOf_31 (by unfold facesF; rw [if_neg (by omega)])

set_option maxRecDepth 20000 in
set_option maxHeartbeats 2000000 in
theorem kX11_allFaces {D : va_G} {A : Nat → Nat} {th ke km rd : Int} {now kept reel part best : Int → Int} {G : gh} (hm : mS D A th ke km rd now kept reel part best G) (hok : mOK now) : CP ⟨"PostageCounterModel", "allFaces", "()I"⟩ prog_13_method_42_code 3 (some .int) 2 45 D [.ref (A 0)] G (pI (fun z => z = allF now)) := by
  refine CP.enter (by decide +kernel) (Nat.le_of_ble_eq_true rfl) (fun F S ret => ?_)
  show V F 3 G 0 0 0 [(0, .ref (A 0))] []
  refine r_iconst S dX11_allFaces_0 ?_
  refine r_istore_n (L' := [(1, .int (iI 0)), (0, .ref (A 0))]) S dX11_allFaces_1 (by decide) rfl ?_
  refine r_iconst S dX11_allFaces_2 ?_
  refine r_istore_n (L' := [(2, .int (iI 0)), (1, .int (iI 0)), (0, .ref (A 0))]) S dX11_allFaces_3 (by decide) rfl ?_
  have L4 : ∀ (N : Nat) (sm : Int) (p : Int), (10 - p).toNat < N → (0 ≤ p ∧ p ≤ 10) → (sm = sumI (fun p => if now p = -1 then 0 else facesF now p) p.toNat) → V F 3 G 0 0 4 [(0, .ref (A 0)), (1, .int (iI sm)), (2, .int (iI p))] [] := by
    intro N
    induction N with
    | zero => intro sm p hN; exact absurd hN (Nat.not_lt_zero _)
    | succ N ih4 =>
      intro sm p hN4 hp hs
      refine r_iload_n S dX11_allFaces_4 2 rfl ?_
      refine r_bipush S dX11_allFaces_5 (by decide) ?_
      refine r_icmp_ge S 36 dX11_allFaces_7 (by decide) (by omega) (by omega) (fun c7 => ?_) (fun c7 => ?_)
      · skip
        refine r_iload_n S dX11_allFaces_36 1 rfl ?_
        exact ret.i sm dX11_allFaces_37 (by unfold allF; rw [hs, show p.toNat = 10 by omega])
      · skip
        have hK := hok.1 p (by omega) (by omega)
        have L28 : ∀ (b : Int), True → (b = if now p = -1 then 0 else facesF now p) → V F 3 G 0 0 28 [(0, .ref (A 0)), (1, .int (iI sm)), (2, .int (iI p))] [.int (iI b), .int (iI sm)] := by
          intro b _ hbb
          refine r_iadd_e (b + sm) (by omega) S dX11_allFaces_28 ?_
          refine r_istore_n (L' := [(1, .int (iI (b + sm))), (0, .ref (A 0)), (2, .int (iI p))]) S dX11_allFaces_29 (by decide) rfl ?_
          refine r_iinc_e (L' := [(2, .int (iI (1 + p))), (1, .int (iI (b + sm))), (0, .ref (A 0))]) (1 + p) (by omega) S dX11_allFaces_30 2 rfl (by decide) rfl ?_
          refine r_goto S 4 dX11_allFaces_33 (by decide) ?_
          refine V.sub [2, 1, 0] rfl ?_
          exact ih4 (b + sm) (1 + p) (by omega) (by omega) (by rw [sumI_s _ (by omega), hs, hbb] <;> omega)
        refine r_iload_n S dX11_allFaces_10 1 rfl ?_
        refine r_aload_n S dX11_allFaces_11 0 rfl ?_
        refine r_iload_n S dX11_allFaces_12 2 rfl ?_
        refine (c_V_P (As := [.int (iI p)]) (st := [.int (iI sm)]) S (kX11_isHeld hm (by omega) (by have := hok.1 p (by omega) (by omega); omega)) moX11_isHeld ⟨by decide, by decide⟩ ⟨by omega, by omega⟩ rfl (Nat.le_of_ble_eq_true rfl) w799 w801 w15 hm.1 rfl rfl dX11_allFaces_13).goI (fun r13 hc13 => ?_)
        refine r_if_eq S 27 dX11_allFaces_16 (by decide) (by omega) (fun c16 => ?_) (fun c16 => ?_)
        · skip
          replace hc13 := zz0 hc13 c16
          refine r_iconst S dX11_allFaces_27 ?_
          refine V.sub [0, 1, 2] rfl ?_
          exact L28 0 trivial (by first | rw [if_pos (by omega)] | (rw [if_neg (by omega)]; exact hc21))
        · skip
          replace hc13 := zz1 hc13 c16
          refine r_aload_n S dX11_allFaces_19 0 rfl ?_
          refine r_iload_n S dX11_allFaces_20 2 rfl ?_
          refine (c_V_P (As := [.int (iI p)]) (st := [.int (iI sm)]) S (kX11_facesOf hm hok (by omega)) moX11_facesOf ⟨by decide, by decide⟩ ⟨by omega, by omega⟩ rfl (Nat.le_of_ble_eq_true rfl) w859 w861 w22 hm.1 rfl rfl dX11_allFaces_21).goI (fun r21 hc21 => ?_)
          refine r_goto S 28 dX11_allFaces_24 (by decide) ?_
          refine V.sub [0, 1, 2] rfl ?_
          exact L28 r21 trivial (by first | rw [if_pos (by omega)] | (rw [if_neg (by omega)]; exact hc21))
  refine V.sub [2, 1, 0] rfl ?_
  exact L4 _ 0 0 (Nat.lt_succ_self _) (by omega) rfl

set_option maxRecDepth 20000 in
set_option maxHeartbeats 2000000 in
theorem kX11_isLetter {D : va_G} {A : Nat → Nat} {th ke km rd : Int} {now kept reel part best : Int → Int} {G : gh} (hm : mS D A th ke km rd now kept reel part best G) {l : Int} (hok : mOK now) (hl : inR l) : CP ⟨"PostageCounterModel", "isLetter", "(I)Z"⟩ prog_13_method_33_code 2 (some .boolean) 1 22 D [.ref (A 0), .int (iI l)] G (pI (fun z => (z = 1 ∧ (0 ≤ l ∧ l < now 1286)) ∨ (z = 0 ∧ ¬ (0 ≤ l ∧ l < now 1286)))) := by
  refine CP.enter (by decide +kernel) (Nat.le_of_ble_eq_true rfl) (fun F S ret => ?_)
  show V F 2 G 0 0 0 [(0, .ref (A 0)), (1, .int (iI l))] []
  have hN := hok.2.2.2.2.2.2.1.1
  have hN2 := hok.2.2.2.2.2.2.1.2.1
  refine r_iload_n S dX11_isLetter_0 1 rfl ?_
  refine r_iconst S dX11_isLetter_1 ?_
  refine r_aload_n S dX11_isLetter_2 0 rfl ?_
  refine m_get_now S hm gtX11_7_X11 dX11_isLetter_3 ?_
  refine r_sipush S dX11_isLetter_6 (by decide) ?_
  refine m_ld_now S hm (by omega) (by omega) dX11_isLetter_9 ?_
  refine r_iconst S dX11_isLetter_10 ?_
  refine r_isub_e (now 1286 - 1) (by omega) S dX11_isLetter_11 ?_
  refine (c_S_P (As := [.int (iI l), .int (iI 0), .int (iI (now 1286 - 1))]) (st := []) S (kX11_in (by omega) (by omega) (by omega)) moX11_in ⟨by decide, by decide⟩ ⟨by omega, by omega⟩ rfl (Nat.le_of_ble_eq_true rfl) w796 w797 rfl dX11_isLetter_12).goI (fun r12 hc12 => ?_)
  exact ret.z r12 dX11_isLetter_15 (by omega) (by omega)

set_option maxRecDepth 20000 in
set_option maxHeartbeats 2000000 in
theorem kX11_rate {D : va_G} {A : Nat → Nat} {km rd : Int} {now reel : Int → Int} {hist : Int → Int → Int} {G : gh} (hq : mQ D A now hist km rd reel G) (hok : mOK now) {w g pr : Int} (hw : inR w) (hg : inR g) (hpr : inR pr) : CT ⟨"PostageCounterModel", "rate", "(III)I"⟩ prog_13_method_27_code 5 (some .int) 1 22 0 0 D [.ref (A 0), .int (iI w), .int (iI g), .int (iI pr)] G (mM A) (tI (mEnd D A now hist km rd reel (sRate now w g pr))) := by
  refine CT.enter (by decide +kernel) (Nat.le_of_ble_eq_true rfl) (fun F S ret hb hM hI => ?_)
  show V F 5 G 0 0 0 [(0, .ref (A 0)), (1, .int (iI w)), (2, .int (iI g)), (3, .int (iI pr))] []
  obtain ⟨th, ke, kept, part, best, hm, hkp⟩ := hq
  refine r_aload_n S dX11_rate_0 0 rfl ?_
  refine r_iconst S dX11_rate_1 ?_
  refine m_put_th S hb hM hm ptX11_27_X11 dX11_rate_2 (fun G2 hm2 => ?_)
  refine r_iload_n S dX11_rate_5 1 rfl ?_
  refine r_iconst S dX11_rate_6 ?_
  refine r_iconst S dX11_rate_7 ?_
  refine (c_S_P (As := [.int (iI w), .int (iI 0), .int (iI 5)]) (st := []) S (kX11_in (by omega) (by omega) (by omega)) moX11_in ⟨by decide, by decide⟩ ⟨by omega, by omega⟩ rfl (Nat.le_of_ble_eq_true rfl) w796 w797 rfl dX11_rate_8).goI (fun r8 hc8 => ?_)
  refine r_if_eq S 36 dX11_rate_11 (by decide) (by omega) (fun c11 => ?_) (fun c11 => ?_)
  · skip
    replace hc8 := zz0 hc8 c11
    refine r_bipush S dX11_rate_36 (by decide) ?_
    exact ret.ti (-3) dX11_rate_38 (by omega) (by omega) (mEnd.m0 (by unfold sRate; rw [if_pos (by omega)]) ⟨_, _, _, _, _, hm2, hkp⟩)
  · skip
    replace hc8 := zz1 hc8 c11
    refine r_iload_n S dX11_rate_14 2 rfl ?_
    refine r_iconst S dX11_rate_15 ?_
    refine r_sipush S dX11_rate_16 (by decide) ?_
    refine (c_S_P (As := [.int (iI g), .int (iI 1), .int (iI 5000)]) (st := []) S (kX11_in (by omega) (by omega) (by omega)) moX11_in ⟨by decide, by decide⟩ ⟨by omega, by omega⟩ rfl (Nat.le_of_ble_eq_true rfl) w796 w797 rfl dX11_rate_19).goI (fun r19 hc19 => ?_)
    refine r_if_eq S 36 dX11_rate_22 (by decide) (by omega) (fun c22 => ?_) (fun c22 => ?_)
    · skip
      replace hc19 := zz0 hc19 c22
      refine r_bipush S dX11_rate_36 (by decide) ?_
      exact ret.ti (-3) dX11_rate_38 (by omega) (by omega) (mEnd.m0 (by unfold sRate; rw [if_pos (by omega)]) ⟨_, _, _, _, _, hm2, hkp⟩)
    · skip
      replace hc19 := zz1 hc19 c22
      refine r_iload_n S dX11_rate_25 3 rfl ?_
      refine r_iconst S dX11_rate_26 ?_
      refine r_sipush S dX11_rate_27 (by decide) ?_
      refine (c_S_P (As := [.int (iI pr), .int (iI 1), .int (iI 1200)]) (st := []) S (kX11_in (by omega) (by omega) (by omega)) moX11_in ⟨by decide, by decide⟩ ⟨by omega, by omega⟩ rfl (Nat.le_of_ble_eq_true rfl) w796 w797 rfl dX11_rate_30).goI (fun r30 hc30 => ?_)
      refine r_if_ne S 39 dX11_rate_33 (by decide) (by omega) (fun c33 => ?_) (fun c33 => ?_)
      · skip
        replace hc30 := zz1 hc30 c33
        have hW := hok.2.2.2.2.1 w (by omega) (by omega)
        refine r_aload_n S dX11_rate_39 0 rfl ?_
        refine m_get_now S hm2 gtX11_7_X11 dX11_rate_40 ?_
        refine r_sipush S dX11_rate_43 (by decide) ?_
        refine r_iload_n S dX11_rate_46 1 rfl ?_
        refine r_iadd S dX11_rate_47 ?_
        refine m_ld_now S hm2 (by omega) (by omega) dX11_rate_48 ?_
        refine r_istore (L' := [(4, .int (iI (now (1180 + w)))), (0, .ref (A 0)), (1, .int (iI w)), (2, .int (iI g)), (3, .int (iI pr))]) S dX11_rate_49 (by decide) rfl ?_
        have L103 : ∀ (_ : Unit), ∀ (G : gh), mS D A 0 ke km rd now kept reel part best G →  True → (¬ (0 < now (1180 + w) ∧ (g ≤ now (1185 + 8 * w + now (1180 + w)) ∨ pr ≤ now (1233 + 8 * w + now (1180 + w))))) → V F 5 G 0 0 103 [(0, .ref (A 0)), (1, .int (iI w)), (2, .int (iI g)), (3, .int (iI pr)), (4, .int (iI (now (1180 + w))))] [] := by
          intro _ G hm _ hno
          refine r_iload S dX11_rate_103 4 rfl ?_
          refine r_bipush S dX11_rate_105 (by decide) ?_
          refine r_icmp_ne S 113 dX11_rate_107 (by decide) (by omega) (by omega) (fun c107 => ?_) (fun c107 => ?_)
          · skip
            refine r_aload_n S dX11_rate_113 0 rfl ?_
            refine (c_V_T (As := []) (st := []) S (kX11_keep hm hkp) moX11_keep ⟨by decide, by decide⟩ ⟨by omega, by omega⟩ rfl (Nat.le_of_ble_eq_true rfl) w807 w809 w17 hm.1 rfl rfl dX11_rate_114).goV S hb hM (fun G114 hx114 hc114 => ?_)
            obtain ⟨ke114, kept114, hm114, hkp114⟩ := hc114
            refine r_aload_n S dX11_rate_117 0 rfl ?_
            refine m_get_now S hm114 gtX11_7_X11 dX11_rate_118 ?_
            refine r_sipush S dX11_rate_121 (by decide) ?_
            refine r_bipush S dX11_rate_124 (by decide) ?_
            refine r_iload_n S dX11_rate_126 1 rfl ?_
            refine r_imul S dX11_rate_127 ?_
            refine r_iadd_e (1186 + 8 * w) (by omega) S dX11_rate_128 ?_
            refine r_iload S dX11_rate_129 4 rfl ?_
            refine r_iadd_e (1186 + 8 * w + now (1180 + w)) (by omega) S dX11_rate_131 ?_
            refine r_iload_n S dX11_rate_132 2 rfl ?_
            refine m_st_now S hb hM hm114 (by omega) (by omega) dX11_rate_133 (fun G133 f133 ef133 hm133 => ?_)
            refine r_aload_n S dX11_rate_134 0 rfl ?_
            refine m_get_now S hm133 gtX11_7_X11 dX11_rate_135 ?_
            refine r_sipush S dX11_rate_138 (by decide) ?_
            refine r_bipush S dX11_rate_141 (by decide) ?_
            refine r_iload_n S dX11_rate_143 1 rfl ?_
            refine r_imul S dX11_rate_144 ?_
            refine r_iadd_e (1234 + 8 * w) (by omega) S dX11_rate_145 ?_
            refine r_iload S dX11_rate_146 4 rfl ?_
            refine r_iadd_e (1234 + 8 * w + now (1180 + w)) (by omega) S dX11_rate_148 ?_
            refine r_iload_n S dX11_rate_149 3 rfl ?_
            refine m_st_now S hb hM hm133 (by omega) (by omega) dX11_rate_150 (fun G150 f150 ef150 hm150 => ?_)
            refine r_aload_n S dX11_rate_151 0 rfl ?_
            refine m_get_now S hm150 gtX11_7_X11 dX11_rate_152 ?_
            refine r_sipush S dX11_rate_155 (by decide) ?_
            refine r_iload_n S dX11_rate_158 1 rfl ?_
            refine r_iadd S dX11_rate_159 ?_
            refine r_dup2 rfl rfl S dX11_rate_160 ?_
            refine m_ld_now S hm150 (by omega) (by omega) dX11_rate_161 ?_
            have h61 : f150 (1180 + w) = now (1180 + w) := by rw [ef150, upI_n (by omega), ef133, upI_n (by omega)]
            rw [h61]
            refine r_iconst S dX11_rate_162 ?_
            refine r_iadd_e (1 + now (1180 + w)) (by omega) S dX11_rate_163 ?_
            refine m_st_now S hb hM hm150 (by omega) (by omega) dX11_rate_164 (fun G164 f164 ef164 hm164 => ?_)
            refine r_iload S dX11_rate_165 4 rfl ?_
            refine r_iconst S dX11_rate_167 ?_
            refine r_iadd_e (1 + now (1180 + w)) (by omega) S dX11_rate_168 ?_
            exact ret.ti (1 + now (1180 + w)) dX11_rate_169 (by omega) (by omega) (mEnd.m1 (by unfold sRate; rw [if_neg (by omega), if_neg (by omega), if_neg (by omega)]) ⟨_, _, _, _, _, by rw [show rateF now w g pr = f164 from funext fun j => by rw [ef164, ef150, ef133]; unfold rateF upI; (repeat' split) <;> first | rfl | omega]; exact hm164, hkp114⟩)
          · skip
            refine r_bipush S dX11_rate_110 (by decide) ?_
            exact ret.ti (-5) dX11_rate_112 (by omega) (by omega) (mEnd.m0 (by unfold sRate; rw [if_neg (by omega), if_neg (by omega), if_pos (by omega)]) ⟨_, _, _, _, _, hm, hkp⟩)
        refine r_iload S dX11_rate_51 0 rfl ?_
        refine r_if_le S 103 dX11_rate_53 (by decide) (by omega) (fun c53 => ?_) (fun c53 => ?_)
        · skip
          refine V.sub [1, 2, 3, 4, 0] rfl ?_
          exact L103 () _ hm2 trivial (by omega)
        · skip
          have hWk := hW.2.2 (now (1180 + w) - 1) (by omega) (by omega)
          rw [show 1186 + 8 * w + (now (1180 + w) - 1) = 1185 + 8 * w + now (1180 + w) by omega, show 1234 + 8 * w + (now (1180 + w) - 1) = 1233 + 8 * w + now (1180 + w) by omega] at hWk
          refine r_iload_n S dX11_rate_56 3 rfl ?_
          refine r_aload_n S dX11_rate_57 1 rfl ?_
          refine m_get_now S hm2 gtX11_7_X11 dX11_rate_58 ?_
          refine r_sipush S dX11_rate_61 (by decide) ?_
          refine r_bipush S dX11_rate_64 (by decide) ?_
          refine r_iload_n S dX11_rate_66 2 rfl ?_
          refine r_imul S dX11_rate_67 ?_
          refine r_iadd_e (1186 + 8 * w) (by omega) S dX11_rate_68 ?_
          refine r_iload S dX11_rate_69 0 rfl ?_
          refine r_iadd_e (1186 + 8 * w + now (1180 + w)) (by omega) S dX11_rate_71 ?_
          refine r_iconst S dX11_rate_72 ?_
          refine r_isub_e (1185 + 8 * w + now (1180 + w)) (by omega) S dX11_rate_73 ?_
          refine m_ld_now S hm2 (by omega) (by omega) dX11_rate_74 ?_
          refine r_icmp_le S 100 dX11_rate_75 (by decide) (by omega) (by omega) (fun c75 => ?_) (fun c75 => ?_)
          · skip
            refine r_bipush S dX11_rate_100 (by decide) ?_
            exact ret.ti (-3) dX11_rate_102 (by omega) (by omega) (mEnd.m0 (by unfold sRate; rw [if_neg (by omega), if_pos (by omega)]) ⟨_, _, _, _, _, hm2, hkp⟩)
          · skip
            refine r_iload_n S dX11_rate_78 4 rfl ?_
            refine r_aload_n S dX11_rate_79 1 rfl ?_
            refine m_get_now S hm2 gtX11_7_X11 dX11_rate_80 ?_
            refine r_sipush S dX11_rate_83 (by decide) ?_
            refine r_bipush S dX11_rate_86 (by decide) ?_
            refine r_iload_n S dX11_rate_88 2 rfl ?_
            refine r_imul S dX11_rate_89 ?_
            refine r_iadd_e (1234 + 8 * w) (by omega) S dX11_rate_90 ?_
            refine r_iload S dX11_rate_91 0 rfl ?_
            refine r_iadd_e (1234 + 8 * w + now (1180 + w)) (by omega) S dX11_rate_93 ?_
            refine r_iconst S dX11_rate_94 ?_
            refine r_isub_e (1233 + 8 * w + now (1180 + w)) (by omega) S dX11_rate_95 ?_
            refine m_ld_now S hm2 (by omega) (by omega) dX11_rate_96 ?_
            refine r_icmp_gt S 103 dX11_rate_97 (by decide) (by omega) (by omega) (fun c97 => ?_) (fun c97 => ?_)
            · skip
              refine V.sub [1, 2, 3, 4, 0] rfl ?_
              exact L103 () _ hm2 trivial (by omega)
            · skip
              refine r_bipush S dX11_rate_100 (by decide) ?_
              exact ret.ti (-3) dX11_rate_102 (by omega) (by omega) (mEnd.m0 (by unfold sRate; rw [if_neg (by omega), if_pos (by omega)]) ⟨_, _, _, _, _, hm2, hkp⟩)
      · skip
        replace hc30 := zz0 hc30 c33
        refine r_bipush S dX11_rate_36 (by decide) ?_
        exact ret.ti (-3) dX11_rate_38 (by omega) (by omega) (mEnd.m0 (by unfold sRate; rw [if_pos (by omega)]) ⟨_, _, _, _, _, hm2, hkp⟩)

set_option maxRecDepth 20000 in
set_option maxHeartbeats 2000000 in
theorem kX11_extra {D : va_G} {A : Nat → Nat} {km rd : Int} {now reel : Int → Int} {hist : Int → Int → Int} {G : gh} (hq : mQ D A now hist km rd reel G) (hok : mOK now) {k pr : Int} (hk : inR k) (hpr : inR pr) : CT ⟨"PostageCounterModel", "extra", "(II)I"⟩ prog_13_method_28_code 4 (some .int) 1 22 0 0 D [.ref (A 0), .int (iI k), .int (iI pr)] G (mM A) (tI (mEnd D A now hist km rd reel (sExtra now k pr))) := by
  refine CT.enter (by decide +kernel) (Nat.le_of_ble_eq_true rfl) (fun F S ret hb hM hI => ?_)
  show V F 4 G 0 0 0 [(0, .ref (A 0)), (1, .int (iI k)), (2, .int (iI pr))] []
  obtain ⟨th, ke, kept, part, best, hm, hkp⟩ := hq
  refine r_aload_n S dX11_extra_0 0 rfl ?_
  refine r_iconst S dX11_extra_1 ?_
  refine m_put_th S hb hM hm ptX11_27_X11 dX11_extra_2 (fun G2 hm2 => ?_)
  refine r_iload_n S dX11_extra_5 1 rfl ?_
  refine r_iconst S dX11_extra_6 ?_
  refine r_iconst S dX11_extra_7 ?_
  refine (c_S_P (As := [.int (iI k), .int (iI 0), .int (iI 3)]) (st := []) S (kX11_in (by omega) (by omega) (by omega)) moX11_in ⟨by decide, by decide⟩ ⟨by omega, by omega⟩ rfl (Nat.le_of_ble_eq_true rfl) w796 w797 rfl dX11_extra_8).goI (fun r8 hc8 => ?_)
  refine r_if_eq S 25 dX11_extra_11 (by decide) (by omega) (fun c11 => ?_) (fun c11 => ?_)
  · skip
    replace hc8 := zz0 hc8 c11
    refine r_bipush S dX11_extra_25 (by decide) ?_
    exact ret.ti (-3) dX11_extra_27 (by omega) (by omega) (mEnd.m0 (by unfold sExtra; rw [if_pos (by omega)]) ⟨_, _, _, _, _, hm2, hkp⟩)
  · skip
    replace hc8 := zz1 hc8 c11
    refine r_iload_n S dX11_extra_14 2 rfl ?_
    refine r_iconst S dX11_extra_15 ?_
    refine r_sipush S dX11_extra_16 (by decide) ?_
    refine (c_S_P (As := [.int (iI pr), .int (iI 0), .int (iI 200)]) (st := []) S (kX11_in (by omega) (by omega) (by omega)) moX11_in ⟨by decide, by decide⟩ ⟨by omega, by omega⟩ rfl (Nat.le_of_ble_eq_true rfl) w796 w797 rfl dX11_extra_19).goI (fun r19 hc19 => ?_)
    refine r_if_ne S 28 dX11_extra_22 (by decide) (by omega) (fun c22 => ?_) (fun c22 => ?_)
    · skip
      replace hc19 := zz1 hc19 c22
      refine r_aload_n S dX11_extra_28 0 rfl ?_
      refine (c_V_T (As := []) (st := []) S (kX11_keep hm2 hkp) moX11_keep ⟨by decide, by decide⟩ ⟨by omega, by omega⟩ rfl (Nat.le_of_ble_eq_true rfl) w807 w809 w17 hm2.1 rfl rfl dX11_extra_29).goV S hb hM (fun G29 hx29 hc29 => ?_)
      obtain ⟨ke29, kept29, hm29, hkp29⟩ := hc29
      refine r_aload_n S dX11_extra_32 0 rfl ?_
      refine m_get_now S hm29 gtX11_7_X11 dX11_extra_33 ?_
      refine r_sipush S dX11_extra_36 (by decide) ?_
      refine r_iload_n S dX11_extra_39 1 rfl ?_
      refine r_iadd S dX11_extra_40 ?_
      refine m_ld_now S hm29 (by omega) (by omega) dX11_extra_41 ?_
      refine r_istore_n (L' := [(3, .int (iI (now (1282 + k)))), (0, .ref (A 0)), (1, .int (iI k)), (2, .int (iI pr))]) S dX11_extra_42 (by decide) rfl ?_
      refine r_aload_n S dX11_extra_43 1 rfl ?_
      refine m_get_now S hm29 gtX11_7_X11 dX11_extra_44 ?_
      refine r_sipush S dX11_extra_47 (by decide) ?_
      refine r_iload_n S dX11_extra_50 2 rfl ?_
      refine r_iadd S dX11_extra_51 ?_
      refine r_iload_n S dX11_extra_52 3 rfl ?_
      refine m_st_now S hb hM hm29 (by omega) (by omega) dX11_extra_53 (fun G53 f53 ef53 hm53 => ?_)
      refine r_iload_n S dX11_extra_54 0 rfl ?_
      exact ret.ti (now (1282 + k)) dX11_extra_55 (by omega) (by omega) (mEnd.m1 (by unfold sExtra; rw [if_neg (by omega)]) ⟨_, _, _, _, _, by rw [show extraF now k pr = f53 from funext fun j => by rw [ef53]; rfl]; exact hm53, hkp29⟩)
    · skip
      replace hc19 := zz0 hc19 c22
      refine r_bipush S dX11_extra_25 (by decide) ?_
      exact ret.ti (-3) dX11_extra_27 (by omega) (by omega) (mEnd.m0 (by unfold sExtra; rw [if_pos (by omega)]) ⟨_, _, _, _, _, hm2, hkp⟩)

set_option maxRecDepth 20000 in
set_option maxHeartbeats 2000000 in
theorem kX11_given {D : va_G} {A : Nat → Nat} {km rd : Int} {now reel : Int → Int} {hist : Int → Int → Int} {G : gh} (hq : mQ D A now hist km rd reel G) (hok : mOK now) {l p : Int} (hl : inR l) (hp : inR p) : CT ⟨"PostageCounterModel", "given", "(II)I"⟩ prog_13_method_44_code 3 (some .int) 2 43 0 0 D [.ref (A 0), .int (iI l), .int (iI p)] G (mM A) (tI (mEnd D A now hist km rd reel ((sGiven now l p, none)))) := by
  refine CT.enter (by decide +kernel) (Nat.le_of_ble_eq_true rfl) (fun F S ret hb hM hI => ?_)
  show V F 3 G 0 0 0 [(0, .ref (A 0)), (1, .int (iI l)), (2, .int (iI p))] []
  obtain ⟨th, ke, kept, part, best, hm, hkp⟩ := hq
  have hN := hok.2.2.2.2.2.2.1.1
  have hN2 := hok.2.2.2.2.2.2.1.2.1
  refine r_aload_n S dX11_given_0 0 rfl ?_
  refine r_iconst S dX11_given_1 ?_
  refine m_put_th S hb hM hm ptX11_27_X11 dX11_given_2 (fun G2 hm2 => ?_)
  refine r_aload_n S dX11_given_5 0 rfl ?_
  refine r_iload_n S dX11_given_6 1 rfl ?_
  refine (c_V_P (As := [.int (iI l)]) (st := []) S (kX11_isLetter hm2 hok (by omega)) moX11_isLetter ⟨by decide, by decide⟩ ⟨by omega, by omega⟩ rfl (Nat.le_of_ble_eq_true rfl) w912 w914 w28 hm2.1 rfl rfl dX11_given_7).goI (fun r7 hc7 => ?_)
  refine r_if_eq S 41 dX11_given_10 (by decide) (by omega) (fun c10 => ?_) (fun c10 => ?_)
  · skip
    replace hc7 := zz0 hc7 c10
    refine r_bipush S dX11_given_41 (by decide) ?_
    exact ret.ti (-3) dX11_given_43 (by omega) (by omega) (mEnd.m0 (by unfold sGiven; rw [if_neg (by omega)]) ⟨_, _, _, _, _, hm2, hkp⟩)
  · skip
    replace hc7 := zz1 hc7 c10
    refine r_iload_n S dX11_given_13 2 rfl ?_
    refine r_iconst S dX11_given_14 ?_
    refine r_bipush S dX11_given_15 (by decide) ?_
    refine (c_S_P (As := [.int (iI p), .int (iI 0), .int (iI 9)]) (st := []) S (kX11_in (by omega) (by omega) (by omega)) moX11_in ⟨by decide, by decide⟩ ⟨by omega, by omega⟩ rfl (Nat.le_of_ble_eq_true rfl) w796 w797 rfl dX11_given_17).goI (fun r17 hc17 => ?_)
    refine r_if_eq S 41 dX11_given_20 (by decide) (by omega) (fun c20 => ?_) (fun c20 => ?_)
    · skip
      replace hc17 := zz0 hc17 c20
      refine r_bipush S dX11_given_41 (by decide) ?_
      exact ret.ti (-3) dX11_given_43 (by omega) (by omega) (mEnd.m0 (by unfold sGiven; rw [if_neg (by omega)]) ⟨_, _, _, _, _, hm2, hkp⟩)
    · skip
      replace hc17 := zz1 hc17 c20
      refine r_aload_n S dX11_given_23 0 rfl ?_
      refine m_get_now S hm2 gtX11_7_X11 dX11_given_24 ?_
      refine r_sipush S dX11_given_27 (by decide) ?_
      refine r_bipush S dX11_given_30 (by decide) ?_
      refine r_iload_n S dX11_given_32 1 rfl ?_
      refine r_imul S dX11_given_33 ?_
      refine r_iadd_e (1527 + 10 * l) (by omega) S dX11_given_34 ?_
      refine r_iload_n S dX11_given_35 2 rfl ?_
      refine r_iadd_e (1527 + 10 * l + p) (by omega) S dX11_given_36 ?_
      refine m_ld_now S hm2 (by omega) (by omega) dX11_given_37 ?_
      refine r_goto S 43 dX11_given_38 (by decide) ?_
      exact ret.ti (now (1527 + 10 * l + p)) dX11_given_43 (by omega) (by omega) (mEnd.m0 (by unfold sGiven; rw [if_pos (by omega)]) ⟨_, _, _, _, _, hm2, hkp⟩)

set_option maxRecDepth 20000 in
set_option maxHeartbeats 2000000 in
theorem kX11_gone {D : va_G} {A : Nat → Nat} {km rd : Int} {now reel : Int → Int} {hist : Int → Int → Int} {G : gh} (hq : mQ D A now hist km rd reel G) (hok : mOK now) {f : Int} (hf : inR f) : CT ⟨"PostageCounterModel", "gone", "(I)I"⟩ prog_13_method_49_code 2 (some .int) 1 22 0 0 D [.ref (A 0), .int (iI f)] G (mM A) (tI (mEnd D A now hist km rd reel ((sGone now f, none)))) := by
  refine CT.enter (by decide +kernel) (Nat.le_of_ble_eq_true rfl) (fun F S ret hb hM hI => ?_)
  show V F 2 G 0 0 0 [(0, .ref (A 0)), (1, .int (iI f))] []
  obtain ⟨th, ke, kept, part, best, hm, hkp⟩ := hq
  refine r_aload_n S dX11_gone_0 0 rfl ?_
  refine r_iconst S dX11_gone_1 ?_
  refine m_put_th S hb hM hm ptX11_27_X11 dX11_gone_2 (fun G2 hm2 => ?_)
  refine r_iload_n S dX11_gone_5 1 rfl ?_
  refine r_iconst S dX11_gone_6 ?_
  refine r_sipush S dX11_gone_7 (by decide) ?_
  refine (c_S_P (As := [.int (iI f), .int (iI 1), .int (iI 500)]) (st := []) S (kX11_in (by omega) (by omega) (by omega)) moX11_in ⟨by decide, by decide⟩ ⟨by omega, by omega⟩ rfl (Nat.le_of_ble_eq_true rfl) w796 w797 rfl dX11_gone_10).goI (fun r10 hc10 => ?_)
  refine r_if_eq S 29 dX11_gone_13 (by decide) (by omega) (fun c13 => ?_) (fun c13 => ?_)
  · skip
    replace hc10 := zz0 hc10 c13
    refine r_bipush S dX11_gone_29 (by decide) ?_
    exact ret.ti (-3) dX11_gone_31 (by omega) (by omega) (mEnd.m0 (by unfold sGone; rw [if_neg (by omega)]) ⟨_, _, _, _, _, hm2, hkp⟩)
  · skip
    replace hc10 := zz1 hc10 c13
    refine r_aload_n S dX11_gone_16 0 rfl ?_
    refine m_get_now S hm2 gtX11_7_X11 dX11_gone_17 ?_
    refine r_sipush S dX11_gone_20 (by decide) ?_
    refine r_iload_n S dX11_gone_23 1 rfl ?_
    refine r_iadd S dX11_gone_24 ?_
    refine m_ld_now S hm2 (by omega) (by omega) dX11_gone_25 ?_
    refine r_goto S 31 dX11_gone_26 (by decide) ?_
    exact ret.ti (now (3327 + f)) dX11_gone_31 (by omega) (by omega) (mEnd.m0 (by unfold sGone; rw [if_pos (by omega)]) ⟨_, _, _, _, _, hm2, hkp⟩)
