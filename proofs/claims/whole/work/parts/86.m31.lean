set_option maxRecDepth 20000 in
set_option maxHeartbeats 2000000 in
theorem kX1_stampsFor {D : va_G} {B : Nat → Nat} {row : Int → Int → Int} {most : Int} {G : gh} (hcc : cC D B row most G) (hmost : 0 ≤ most ∧ most < 3000) (hr0 : ∀ s : Int, 0 ≤ s → s ≤ most → 0 ≤ row 0 s ∧ row 0 s ≤ 1000000) {sm : Int} (hsm : inR sm) : CP ⟨"PostageCounter$Choices", "stampsFor", "(I)I"⟩ prog_3_method_6_code 2 (some .int) 1 22 D [.ref (B 1), .int (iI sm)] G (pI (fun z => z = if (0 ≤ sm ∧ sm ≤ most) ∧ row 0 sm < 1000000 then row 0 sm else -1)) := by
  refine CP.enter (by decide +kernel) (Nat.le_of_ble_eq_true rfl) (fun F S ret => ?_)
  show V F 2 G 0 0 0 [(0, .ref (B 1)), (1, .int (iI sm))] []
  refine r_iload_n S dX1_stampsFor_0 1 rfl ?_
  refine r_iconst S dX1_stampsFor_1 ?_
  refine r_aload_n S dX1_stampsFor_2 0 rfl ?_
  refine c_most S hcc gtX1_16_X1 dX1_stampsFor_3 ?_
  refine (c_SN_P (host := "PostageCounter") (As := [.int (iI sm), .int (iI 0), .int (iI most)]) (st := []) S (kX10_within (by omega) (by omega) (by omega)) moX10_within ⟨by decide, by decide⟩ ⟨by omega, by omega⟩ rfl (Nat.le_of_ble_eq_true rfl) (by decide) w155 rfl dX1_stampsFor_6).goI (fun r6 hc6 => ?_)
  refine r_if_eq S 36 dX1_stampsFor_9 (by decide) (by omega) (fun c9 => ?_) (fun c9 => ?_)
  · skip
    replace hc6 := zz0 hc6 c9
    refine r_iconst S dX1_stampsFor_36 ?_
    exact ret.i (-1) dX1_stampsFor_37 (by rw [if_neg (by omega)])
  · skip
    replace hc6 := zz1 hc6 c9
    have hb0 := hr0 sm (by omega) (by omega)
    refine r_aload_n S dX1_stampsFor_12 0 rfl ?_
    refine c_rows S hcc gtX1_13_X1 dX1_stampsFor_13 ?_
    refine r_iconst S dX1_stampsFor_16 ?_
    refine c_aald S hcc ⟨by omega, by omega⟩ dX1_stampsFor_17 ?_
    refine r_iload_n S dX1_stampsFor_18 1 rfl ?_
    refine c_ld S hcc ⟨by omega, by omega⟩ ⟨by omega, by omega⟩ dX1_stampsFor_19 ?_
    refine r_ldc S 1000000 w534 (by decide) dX1_stampsFor_20 ?_
    refine r_icmp_ge S 36 dX1_stampsFor_22 (by decide) (by omega) (by omega) (fun c22 => ?_) (fun c22 => ?_)
    · skip
      refine r_iconst S dX1_stampsFor_36 ?_
      exact ret.i (-1) dX1_stampsFor_37 (by rw [if_neg (by omega)])
    · skip
      refine r_aload_n S dX1_stampsFor_25 0 rfl ?_
      refine c_rows S hcc gtX1_13_X1 dX1_stampsFor_26 ?_
      refine r_iconst S dX1_stampsFor_29 ?_
      refine c_aald S hcc ⟨by omega, by omega⟩ dX1_stampsFor_30 ?_
      refine r_iload_n S dX1_stampsFor_31 1 rfl ?_
      refine c_ld S hcc ⟨by omega, by omega⟩ ⟨by omega, by omega⟩ dX1_stampsFor_32 ?_
      refine r_goto S 37 dX1_stampsFor_33 (by decide) ?_
      exact ret.i (row 0 sm) dX1_stampsFor_37 (by rw [if_pos (by omega)])

set_option maxRecDepth 20000 in
set_option maxHeartbeats 2000000 in
theorem kX1_firstSum {D : va_G} {B : Nat → Nat} {row : Int → Int → Int} {most : Int} {G : gh} (hcc : cC D B row most G) (hmost : 0 ≤ most ∧ most < 3000) (hr0 : ∀ s : Int, 0 ≤ s → s ≤ most → 0 ≤ row 0 s ∧ row 0 s ≤ 1000000) {pr : Int} (hpr : 0 ≤ pr ∧ pr ≤ 2000) : CP ⟨"PostageCounter$Choices", "firstSum", "(I)I"⟩ prog_3_method_7_code 3 (some .int) 1 21 D [.ref (B 1), .int (iI pr)] G (pI (fun z => fsR row most pr z)) := by
  refine CP.enter (by decide +kernel) (Nat.le_of_ble_eq_true rfl) (fun F S ret => ?_)
  show V F 3 G 0 0 0 [(0, .ref (B 1)), (1, .int (iI pr))] []
  refine r_iconst S dX1_firstSum_0 ?_
  refine r_iload_n S dX1_firstSum_1 1 rfl ?_
  refine r_mmax w533 w406 w41 w407 (by decide) (Nat.le_of_ble_eq_true rfl) ⟨by omega, by omega⟩ (by omega) (by omega) S dX1_firstSum_2 ?_
  rw [show max 0 pr = pr by omega]
  refine r_istore_n (L' := [(2, .int (iI pr)), (0, .ref (B 1)), (1, .int (iI pr))]) S dX1_firstSum_5 (by decide) rfl ?_
  have L6 : ∀ (N : Nat) (k : Int), (1 + most - k).toNat < N → (pr ≤ k ∧ k ≤ 4000) → (∀ x : Int, pr ≤ x → x < k → 1000000 ≤ row 0 x) → V F 3 G 0 0 6 [(0, .ref (B 1)), (2, .int (iI k))] [] := by
    intro N
    induction N with
    | zero => intro k hN; exact absurd hN (Nat.not_lt_zero _)
    | succ N ih6 =>
      intro k hN6 hk hf
      refine r_iload_n S dX1_firstSum_6 1 rfl ?_
      refine r_aload_n S dX1_firstSum_7 0 rfl ?_
      refine c_most S hcc gtX1_16_X1 dX1_firstSum_8 ?_
      refine r_icmp_gt S 35 dX1_firstSum_11 (by decide) (by omega) (by omega) (fun c11 => ?_) (fun c11 => ?_)
      · skip
        refine r_iconst S dX1_firstSum_35 ?_
        exact ret.i (-1) dX1_firstSum_36 (Or.inr ⟨rfl, fun x x0 x1 => hf x x0 (by omega)⟩)
      · skip
        have hb0 := hr0 k (by omega) (by omega)
        refine r_aload_n S dX1_firstSum_14 0 rfl ?_
        refine c_rows S hcc gtX1_13_X1 dX1_firstSum_15 ?_
        refine r_iconst S dX1_firstSum_18 ?_
        refine c_aald S hcc ⟨by omega, by omega⟩ dX1_firstSum_19 ?_
        refine r_iload_n S dX1_firstSum_20 1 rfl ?_
        refine c_ld S hcc ⟨by omega, by omega⟩ ⟨by omega, by omega⟩ dX1_firstSum_21 ?_
        refine r_ldc S 1000000 w534 (by decide) dX1_firstSum_22 ?_
        refine r_icmp_ge S 29 dX1_firstSum_24 (by decide) (by omega) (by omega) (fun c24 => ?_) (fun c24 => ?_)
        · skip
          refine r_iinc_e (L' := [(2, .int (iI (1 + k))), (0, .ref (B 1))]) (1 + k) (by omega) S dX1_firstSum_29 1 rfl (by decide) rfl ?_
          refine r_goto S 6 dX1_firstSum_32 (by decide) ?_
          refine V.sub [1, 0] rfl ?_
          exact ih6 (1 + k) (by omega) (by omega) (fun x x0 x1 => by by_cases e : x = k; rw [e]; omega; exact hf x x0 (by omega))
        · skip
          refine r_iload_n S dX1_firstSum_27 1 rfl ?_
          exact ret.i k dX1_firstSum_28 (Or.inl ⟨by omega, by omega, by omega, hf⟩)
  refine V.sub [1, 0] rfl ?_
  exact L6 _ pr (Nat.lt_succ_self _) (by omega) (fun x x0 x1 => by omega)

theorem mf_ev {now : Int → Int} {p n : Int} (ht : (now p = 3 ∧ tgF now p = 2) ∨ (now p ≠ 3 ∧ tgF now p = 1)) (h : mayF now p n) : 0 < n → 0 ≤ n - tgF now p ∧ 1 ≤ tgF now p := by
  intro hn
  rcases ht with ⟨e, e2⟩ | ⟨e, e2⟩
  · have := h e; omega
  · omega
theorem mf_may {now : Int → Int} {p n : Int} (ht : (now p = 3 ∧ tgF now p = 2) ∨ (now p ≠ 3 ∧ tgF now p = 1)) (h : mayF now p n) : mayF now p (n - tgF now p) := fun q => by
  have := h q
  omega
theorem mf_step {now : Int → Int} {row : Int → Int → Int} {p lf n : Int} (ht : (now p = 3 ∧ tgF now p = 2) ∨ (now p ≠ 3 ∧ tgF now p = 1)) (h : mayF now p n) (hno : ∀ m : Int, n < m → m ≤ now (10 + p) → ¬ chC now row p lf m) (hn : ¬ chC now row p lf n) : ∀ m : Int, n - tgF now p < m → m ≤ now (10 + p) → ¬ chC now row p lf m := by
  intro m m0 m1 hc
  by_cases e : n < m
  · exact hno m e m1 hc
  · by_cases e2 : m = n
    · rw [e2] at hc; exact hn hc
    · rcases ht with ⟨q, q2⟩ | ⟨q, q2⟩
      · have h1 := h q
        have h2 := hc.1 q
        omega
      · omega

set_option maxRecDepth 20000 in
set_option maxHeartbeats 2000000 in
theorem kX1_mostFrom {D : va_G} {B : Nat → Nat} {row : Int → Int → Int} {most : Int} {G : gh} (hcc : cC D B row most G) (hmost : 0 ≤ most ∧ most < 3000) {N0 : Nat → Prop} {now : Int → Int} {p lf : Int} (hok : mOK now) (hp : 0 ≤ p ∧ p < 10) (hrw : ∀ i s : Int, 0 ≤ i → i ≤ 10 → 0 ≤ s ∧ s ≤ most → 0 ≤ row i s ∧ row i s ≤ 1000000) (hlf : 0 ≤ lf ∧ lf ≤ most) {ha0 : Nat} (hh : hO D N0 G now p ha0) : CP ⟨"PostageCounter$Choices", "mostFrom", "(LPostageCounter$Plain;II)I"⟩ prog_3_method_9_code 7 (some .int) 2 44 D [.ref (B 1), .ref ha0, .int (iI p), .int (iI lf)] G (pI (fun z => mfR now row p lf z)) := by
  refine CP.enter (by decide +kernel) (Nat.le_of_ble_eq_true rfl) (fun F S ret => ?_)
  show V F 7 G 0 0 0 [(0, .ref (B 1)), (1, .ref ha0), (2, .int (iI p)), (3, .int (iI lf))] []
  have hK := hok.1 p hp.1 hp.2
  have hK4 : 0 ≤ now (10 + p) ∧ now (10 + p) ≤ 64 ∧ 0 ≤ now (20 + p) ∧ now (20 + p) ≤ 500 := ⟨hK.2.2.1, hK.2.2.2.1, hK.2.2.2.2.1, hK.2.2.2.2.2.1⟩
  have htg := tgF_1 now p
  refine r_iconst S dX1_mostFrom_0 ?_
  refine r_aload_n S dX1_mostFrom_1 1 rfl ?_
  refine (vdH_together (hh := hh) hok hp (st := [.int (iI 1)]) S  ⟨by decide, by decide⟩ ⟨by omega, by omega⟩ (Nat.le_of_ble_eq_true rfl) w549 dX1_mostFrom_2).goI (fun r2 hc2 => ?_)
  rw [hc2]
  refine r_mmax w533 w406 w41 w407 (by decide) (Nat.le_of_ble_eq_true rfl) ⟨by omega, by omega⟩ (by omega) (by omega) S dX1_mostFrom_5 ?_
  rw [show max 1 (tgF now p) = tgF now p by omega]
  refine r_istore (L' := [(4, .int (iI (tgF now p))), (0, .ref (B 1)), (1, .ref ha0), (2, .int (iI p)), (3, .int (iI lf))]) S dX1_mostFrom_8 (by decide) rfl ?_
  refine r_aload_n S dX1_mostFrom_10 2 rfl ?_
  refine rH_count S hh gtX1_40_X0 gtX1_40_X3 gtX1_40_X4 gtX1_40_X6 gtX1_40_X8 dX1_mostFrom_11 ?_
  refine r_istore (L' := [(5, .int (iI (now (10 + p)))), (4, .int (iI (tgF now p))), (0, .ref (B 1)), (1, .ref ha0), (2, .int (iI p)), (3, .int (iI lf))]) S dX1_mostFrom_14 (by decide) rfl ?_
  have L16 : ∀ (N : Nat) (n : Int), n.toNat < N → (0 ≤ n ∧ n ≤ now (10 + p)) → (mayF now p n) → (∀ m : Int, n < m → m ≤ now (10 + p) → ¬ chC now row p lf m) → V F 7 G 0 0 16 [(0, .ref (B 1)), (1, .ref ha0), (2, .int (iI p)), (3, .int (iI lf)), (4, .int (iI (tgF now p))), (5, .int (iI n))] [] := by
    intro N
    induction N with
    | zero => intro n hN; exact absurd hN (Nat.not_lt_zero _)
    | succ N ih16 =>
      intro n hN16 hn hev hno
      refine r_iload S dX1_mostFrom_16 5 rfl ?_
      refine r_if_le S 75 dX1_mostFrom_18 (by decide) (by omega) (fun c18 => ?_) (fun c18 => ?_)
      · skip
        refine r_iconst S dX1_mostFrom_75 ?_
        exact ret.i 0 dX1_mostFrom_76 ⟨⟨by omega, by omega⟩, fun _ => by decide, by rw [paysF_0]; omega, fun q => absurd rfl q, fun m m0 m1 => hno m (by omega) m1⟩
      · skip
        refine r_aload_n S dX1_mostFrom_21 1 rfl ?_
        refine r_iload S dX1_mostFrom_22 5 rfl ?_
        refine (vdH_worth (n := n) (hn := ⟨by omega, by omega⟩) (hh := hh) hok hp (st := []) S  ⟨by decide, by decide⟩ ⟨by omega, by omega⟩ (Nat.le_of_ble_eq_true rfl) w573 dX1_mostFrom_24).goI (fun r24 hc24 => ?_)
        have hpb24 := paysF_bd hok.1 hok.2.1 (p := p) (n := n) (by omega) (by omega) (by omega) (by omega)
        rw [hc24]
        refine r_istore (L' := [(6, .int (iI (paysF now p n))), (0, .ref (B 1)), (1, .ref ha0), (2, .int (iI p)), (3, .int (iI lf)), (4, .int (iI (tgF now p))), (5, .int (iI n))]) S dX1_mostFrom_27 (by decide) rfl ?_
        refine r_iload S dX1_mostFrom_29 0 rfl ?_
        refine r_iload_n S dX1_mostFrom_31 4 rfl ?_
        refine r_icmp_gt S 65 dX1_mostFrom_32 (by decide) (by omega) (by omega) (fun c32 => ?_) (fun c32 => ?_)
        · skip
          refine r_iload S dX1_mostFrom_65 6 rfl ?_
          refine r_iload S dX1_mostFrom_67 5 rfl ?_
          refine r_isub_e (n - tgF now p) (by omega) S dX1_mostFrom_69 ?_
          refine r_istore (L' := [(5, .int (iI (n - tgF now p))), (6, .int (iI (paysF now p n))), (0, .ref (B 1)), (1, .ref ha0), (2, .int (iI p)), (3, .int (iI lf)), (4, .int (iI (tgF now p)))]) S dX1_mostFrom_70 (by decide) rfl ?_
          refine r_goto S 16 dX1_mostFrom_72 (by decide) ?_
          refine V.sub [2, 3, 4, 5, 6, 0] rfl ?_
          exact ih16 (n - tgF now p) (by have := mf_ev htg hev; omega) (by have := mf_ev htg hev; omega) (mf_may htg hev) (fun m m0 m1 => mf_step htg hev hno (fun q => by have := q.2.1; omega) m m0 m1)
        · skip
          have hb1 := hrw (1 + p) (lf - paysF now p n) (by omega) (by omega) (by omega)
          have hb2 := hrw p lf (by omega) (by omega) (by omega)
          refine r_aload_n S dX1_mostFrom_35 1 rfl ?_
          refine c_rows S hcc gtX1_13_X1 dX1_mostFrom_36 ?_
          refine r_iload_n S dX1_mostFrom_39 3 rfl ?_
          refine r_iconst S dX1_mostFrom_40 ?_
          refine r_iadd_e (1 + p) (by omega) S dX1_mostFrom_41 ?_
          refine c_aald S hcc ⟨by omega, by omega⟩ dX1_mostFrom_42 ?_
          refine r_iload_n S dX1_mostFrom_43 4 rfl ?_
          refine r_iload S dX1_mostFrom_44 0 rfl ?_
          refine r_isub_e (lf - paysF now p n) (by omega) S dX1_mostFrom_46 ?_
          refine c_ld S hcc ⟨by omega, by omega⟩ ⟨by omega, by omega⟩ dX1_mostFrom_47 ?_
          refine r_iload S dX1_mostFrom_48 6 rfl ?_
          refine r_iadd_e (n + row (1 + p) (lf - paysF now p n)) (by omega) S dX1_mostFrom_50 ?_
          refine r_aload_n S dX1_mostFrom_51 1 rfl ?_
          refine c_rows S hcc gtX1_13_X1 dX1_mostFrom_52 ?_
          refine r_iload_n S dX1_mostFrom_55 3 rfl ?_
          refine c_aald S hcc ⟨by omega, by omega⟩ dX1_mostFrom_56 ?_
          refine r_iload_n S dX1_mostFrom_57 4 rfl ?_
          refine c_ld S hcc ⟨by omega, by omega⟩ ⟨by omega, by omega⟩ dX1_mostFrom_58 ?_
          refine r_icmp_ne S 65 dX1_mostFrom_59 (by decide) (by omega) (by omega) (fun c59 => ?_) (fun c59 => ?_)
          · skip
            refine r_iload S dX1_mostFrom_65 6 rfl ?_
            refine r_iload S dX1_mostFrom_67 5 rfl ?_
            refine r_isub_e (n - tgF now p) (by omega) S dX1_mostFrom_69 ?_
            refine r_istore (L' := [(5, .int (iI (n - tgF now p))), (6, .int (iI (paysF now p n))), (0, .ref (B 1)), (1, .ref ha0), (2, .int (iI p)), (3, .int (iI lf)), (4, .int (iI (tgF now p)))]) S dX1_mostFrom_70 (by decide) rfl ?_
            refine r_goto S 16 dX1_mostFrom_72 (by decide) ?_
            refine V.sub [2, 3, 4, 5, 6, 0] rfl ?_
            exact ih16 (n - tgF now p) (by have := mf_ev htg hev; omega) (by have := mf_ev htg hev; omega) (mf_may htg hev) (fun m m0 m1 => mf_step htg hev hno (fun q => by have := q.2.2; omega) m m0 m1)
          · skip
            refine r_iload S dX1_mostFrom_62 6 rfl ?_
            exact ret.i n dX1_mostFrom_64 ⟨hn, hev, by omega, fun _ => ⟨hev, by omega, by omega⟩, hno⟩
  refine V.sub [2, 3, 4, 5, 1, 0] rfl ?_
  exact L16 _ (now (10 + p)) (Nat.lt_succ_self _) ⟨by omega, by omega⟩ (fun q => cnt_even hok hp q) (fun m m0 m1 => by omega)

theorem cfR_null {now : Int → Int} {row : Int → Int → Int} {most sm n : Int} {cf lf : Int → Int} (hok : mOK now) (h : cfR now row most sm cf lf n) (hn : 0 ≤ n ∧ n < 10) (hk : now n = -1) (hz : ∀ q : Int, n ≤ q → cf q = 0) : cfR now row most sm cf (upI lf (1 + n) (lf n - paysF now n 0)) (1 + n) := by
  have hc := (hok.1 n hn.1 hn.2).2.2.2.2.2.2.2.2.2.2.2.2.2.2.2.1 hk
  have hb := h.2.1 n hn.1 (Int.le_refl _)
  have := cfR_s (z := 0) h hn.1 ⟨⟨by omega, by omega⟩, fun q => by omega, by rw [paysF_0]; omega, fun q => absurd rfl q, fun m m0 m1 => by omega⟩ (by rw [paysF_0]; omega)
  rw [← hz n (Int.le_refl _), upI_id] at this
  rw [hz n (Int.le_refl _)] at this
  exact this

set_option maxRecDepth 20000 in
set_option maxHeartbeats 2000000 in
theorem kX1_countsFor {D : va_G} {B : Nat → Nat} {row : Int → Int → Int} {most : Int} {G : gh} (hcc : cC D B row most G) (hmost : 0 ≤ most ∧ most < 3000) {N0 : Nat → Prop} {now : Int → Int} {pl : Nat} {sm : Int} (hok : mOK now) (hpl : plA D N0 G now pl) (hrw : ∀ i s : Int, 0 ≤ i → i ≤ 10 → 0 ≤ s ∧ s ≤ most → 0 ≤ row i s ∧ row i s ≤ 1000000) (hsm : 0 ≤ sm ∧ sm ≤ most) : CT ⟨"PostageCounter$Choices", "countsFor", "([LPostageCounter$Plain;I)[I"⟩ prog_3_method_8_code 7 (some (.array .int)) 3 70 1 10 D [.ref (B 1), .ref pl, .int (iI sm)] G ((fun _ => False)) (tR (fun b G' => G b = none ∧ ∃ cf lf : Int → Int, G' b = some (eI D 10 cf) ∧ cfR now row most sm cf lf 10)) := by
  refine CT.enter (by decide +kernel) (Nat.le_of_ble_eq_true rfl) (fun F S ret hb hM hI => ?_)
  show V F 7 G 0 0 0 [(0, .ref (B 1)), (1, .ref pl), (2, .int (iI sm))] []
  obtain ⟨pf, hpa, hpf⟩ := hpl
  refine r_bipush S dX1_countsFor_0 (by decide) ?_
  refine r_newI S hb w75 (by omega) (by omega) (by show _ ≤ 1; omega) (by show _ ≤ 10; omega) dX1_countsFor_2 (fun a2 hn2 hw2 => ?_)
  refine k_new hn2 (fun G2 hl2 hc2 => ?_)
  have hz2 := hn2
  have hle2 := hl2
  refine r_astore_n (L' := [(3, .ref a2), (0, .ref (B 1)), (1, .ref pl), (2, .int (iI sm))]) S dX1_countsFor_4 (by decide) rfl ?_
  refine r_iload_n S dX1_countsFor_5 3 rfl ?_
  refine r_istore (L' := [(4, .int (iI sm)), (3, .ref a2), (0, .ref (B 1)), (1, .ref pl), (2, .int (iI sm))]) S dX1_countsFor_6 (by decide) rfl ?_
  refine r_iconst S dX1_countsFor_8 ?_
  refine r_istore (L' := [(5, .int (iI 0)), (4, .int (iI sm)), (3, .ref a2), (0, .ref (B 1)), (1, .ref pl), (2, .int (iI sm))]) S dX1_countsFor_9 (by decide) rfl ?_
  have L11 : ∀ (N : Nat) (Gk : gh) (cf : Int → Int) (lf : Int → Int) (left : Int) (p : Int), (10 - p).toNat < N → (gLe G Gk) → (Gk a2 = some (eI D 10 cf)) → (0 ≤ p ∧ p ≤ 10) → (cfR now row most sm cf lf p) → (∀ q : Int, p ≤ q → cf q = 0) → (left = lf p) → V F 7 Gk 1 10 11 [(0, .ref (B 1)), (1, .ref pl), (3, .ref a2), (4, .int (iI left)), (5, .int (iI p))] [] := by
    intro N
    induction N with
    | zero => intro Gk cf lf left p hN; exact absurd hN (Nat.not_lt_zero _)
    | succ N ih11 =>
      intro Gk cf lf left p hN11 hle har hp hcf hz0 hlfe
      refine r_iload S dX1_countsFor_11 4 rfl ?_
      refine r_bipush S dX1_countsFor_13 (by decide) ?_
      refine r_icmp_ge S 76 dX1_countsFor_15 (by decide) (by omega) (by omega) (fun c15 => ?_) (fun c15 => ?_)
      · skip
        refine r_aload_n S dX1_countsFor_76 2 rfl ?_
        exact ret.tr (by first | exact Or.inl ⟨_, rfl⟩ | exact Or.inr ⟨_, rfl⟩) a2 dX1_countsFor_77 (by omega) (by omega) ⟨hz2, cf, lf, har, by rw [show (10:Int) = p by omega]; exact hcf⟩
      · skip
        have hKp := hok.1 p (by omega) (by omega)
        have hlfp : 0 ≤ left ∧ left ≤ most := by have h := hcf.2.1 p (by omega) (Int.le_refl _); rw [← hlfe] at h; exact h
        refine r_aload_n S dX1_countsFor_18 1 rfl ?_
        refine r_iload S dX1_countsFor_19 4 rfl ?_
        rcases hpf p (by omega) (by omega) with ⟨hk21, hf21⟩ | ⟨hk21, b21, hf21, hO21⟩
        · skip
          refine r_aaldN hf21 (hle _ _ hpa.1) rfl (by omega) (by omega) (by omega) S dX1_countsFor_21 ?_
          refine r_astoreN (L' := [(6, .null), (0, .ref (B 1)), (1, .ref pl), (3, .ref a2), (4, .int (iI left)), (5, .int (iI p))]) S dX1_countsFor_22 (by decide) rfl ?_
          refine r_aloadN S dX1_countsFor_24 0 rfl ?_
          refine r_ifnullN S 70 dX1_countsFor_26 (by decide) ?_
          refine r_iinc_e (L' := [(5, .int (iI (1 + p))), (6, .null), (0, .ref (B 1)), (1, .ref pl), (3, .ref a2), (4, .int (iI left))]) (1 + p) (by omega) S dX1_countsFor_70 5 rfl (by decide) rfl ?_
          refine r_goto S 11 dX1_countsFor_73 (by decide) ?_
          refine V.widen (ce' := 1) (sl' := 10) (by omega) (by omega) ?_
          refine V.sub [2, 3, 4, 5, 0] rfl ?_
          exact ih11 Gk cf (upI lf (1 + p) (lf p - paysF now p 0)) left (1 + p) (by omega) hle har (by omega) (cfR_null hok hcf ⟨by omega, by omega⟩ hk21 hz0) (fun q q0 => hz0 q (by omega)) (by rw [upI_s, paysF_0]; omega)
        · skip
          refine r_aaldS hf21 (hle _ _ hpa.1) rfl (by omega) (by omega) (by omega) S dX1_countsFor_21 ?_
          refine r_astore (L' := [(6, .ref b21), (0, .ref (B 1)), (1, .ref pl), (3, .ref a2), (4, .int (iI left)), (5, .int (iI p))]) S dX1_countsFor_22 (by decide) rfl ?_
          refine r_aload S dX1_countsFor_24 0 rfl ?_
          refine r_ifnull S dX1_countsFor_26 ?_
          refine r_iload S dX1_countsFor_29 4 rfl ?_
          refine r_iconst S dX1_countsFor_31 ?_
          refine r_aload_n S dX1_countsFor_32 1 rfl ?_
          refine c_most S (cC.le hcc hle) gtX1_16_X1 dX1_countsFor_33 ?_
          refine (c_SN_P (host := "PostageCounter") (As := [.int (iI left), .int (iI 0), .int (iI most)]) (st := []) S (kX10_within (by omega) (by omega) (by omega)) moX10_within ⟨by decide, by decide⟩ ⟨(by show _ ≤ 1; omega), (by show _ ≤ 10; omega)⟩ rfl (Nat.le_of_ble_eq_true rfl) (by decide) w155 rfl dX1_countsFor_36).goI (fun r36 hc36 => ?_)
          have hr36 : r36 ≠ 0 := by rcases hc36 with h | h; omega; exact absurd ⟨by omega, by omega⟩ h.2
          refine r_if_eq S 70 dX1_countsFor_39 (by decide) (by omega) (fun c39 => absurd c39 (by omega)) (fun c39 => ?_)
          refine r_aload_n S dX1_countsFor_42 3 rfl ?_
          refine r_iload S dX1_countsFor_43 5 rfl ?_
          refine r_aload_n S dX1_countsFor_45 1 rfl ?_
          refine r_aload S dX1_countsFor_46 0 rfl ?_
          refine r_iload S dX1_countsFor_48 5 rfl ?_
          refine r_iload S dX1_countsFor_50 4 rfl ?_
          refine (c_V_P (As := [.ref b21, .int (iI p), .int (iI left)]) (st := [.int (iI p), .ref a2]) S (kX1_mostFrom (cC.le hcc hle) hmost hok ⟨by omega, by omega⟩ hrw hlfp (hO.mono hO21 (gLe.ext hle))) moX1_mostFrom ⟨by decide, by decide⟩ ⟨(by show _ ≤ 1; omega), (by show _ ≤ 10; omega)⟩ rfl (Nat.le_of_ble_eq_true rfl) w569 w571 w9 (cC.le hcc hle).1 rfl rfl dX1_countsFor_52).goI (fun r52 hc52 => ?_)
          have hpb52 := paysF_bd hok.1 hok.2.1 (p := p) (n := r52) (by omega) (by omega) hc52.1.1 hc52.1.2
          refine r_iast S hb har hw2 (by omega) (by omega) (by omega) dX1_countsFor_55 ?_
          refine k_upd hle hz2 (fun G55 hle55 ho55 hc55 => ?_)
          refine r_iload S dX1_countsFor_56 4 rfl ?_
          refine r_aload S dX1_countsFor_58 0 rfl ?_
          refine r_aload_n S dX1_countsFor_60 3 rfl ?_
          refine r_iload S dX1_countsFor_61 5 rfl ?_
          refine r_iald S hc55 (by omega) (by omega) (by omega) dX1_countsFor_63 ?_
          rw [upI_s]
          refine (vdH_worth (n := r52) (hn := hc52.1) (hh := (hO.mono hO21 (gLe.ext hle55))) hok ⟨by omega, by omega⟩ (st := [.int (iI left)]) S  ⟨by decide, by decide⟩ ⟨(by show _ ≤ 1; omega), (by show _ ≤ 10; omega)⟩ (Nat.le_of_ble_eq_true rfl) w573 dX1_countsFor_64).goI (fun r64 hc64 => ?_)
          rw [hc64]
          refine r_isub_e (left - paysF now p r52) (by omega) S dX1_countsFor_67 ?_
          refine r_istore (L' := [(4, .int (iI (left - paysF now p r52))), (6, .ref b21), (0, .ref (B 1)), (1, .ref pl), (3, .ref a2), (5, .int (iI p))]) S dX1_countsFor_68 (by decide) rfl ?_
          refine r_iinc_e (L' := [(5, .int (iI (1 + p))), (4, .int (iI (left - paysF now p r52))), (6, .ref b21), (0, .ref (B 1)), (1, .ref pl), (3, .ref a2)]) (1 + p) (by omega) S dX1_countsFor_70 5 rfl (by decide) rfl ?_
          refine r_goto S 11 dX1_countsFor_73 (by decide) ?_
          refine V.widen (ce' := 1) (sl' := 10) (by omega) (by omega) ?_
          refine V.sub [3, 4, 5, 1, 0] rfl ?_
          exact ih11 G55 (upI cf p r52) (upI lf (1 + p) (lf p - paysF now p r52)) (left - paysF now p r52) (1 + p) (by omega) hle55 hc55 (by omega) (cfR_s hcf (by omega) (by rw [← hlfe]; exact hc52) hpb52.1) (fun q q0 => by rw [upI_n (by omega)]; exact hz0 q (by omega)) (by rw [upI_s, hlfe])
  refine V.widen (ce' := 1) (sl' := 10) (by omega) (by omega) ?_
  refine V.sub [3, 4, 2, 1, 0] rfl ?_
  exact L11 _ G2 (fun _ => 0) (fun _ => sm) sm 0 (Nat.lt_succ_self _) hle2 hc2 (by omega) (cfR_0 hsm) (fun q q0 => rfl) rfl
