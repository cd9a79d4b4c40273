set_option maxRecDepth 20000 in
set_option maxHeartbeats 2000000 in
theorem kX11_pieces {D : va_G} {A : Nat → Nat} {th ke km rd : Int} {now kept reel part best : Int → Int} {G : gh} (hm : mS D A th ke km rd now kept reel part best G) {r c : Int} (hr : 1 ≤ r ∧ r ≤ 8) (hc_ : 1 ≤ c ∧ c ≤ 8) (hpt : ∀ j, 0 ≤ j → j < r * c → part j = 0 ∨ part j = 1) : CT ⟨"PostageCounterModel", "pieces", "(II)I"⟩ prog_13_method_21_code 5 (some .int) 1 27 0 0 D [.ref (A 0), .int (iI r), .int (iI c)] G (mM A) (tI (fun z G' => z = npc c (r * c) (fun x => part x = 1) ∧ ∃ part' : Int → Int, mS D A th ke km rd now kept reel part' best G')) := by
  refine CT.enter (by decide +kernel) (Nat.le_of_ble_eq_true rfl) (fun F S ret hb hM hI => ?_)
  show V F 5 G 0 0 0 [(0, .ref (A 0)), (1, .int (iI r)), (2, .int (iI c))] []
  have hrc := rc_bd hr.1 hr.2 hc_.1 hc_.2
  refine r_iconst S dX11_pieces_0 ?_
  refine r_istore_n (L' := [(3, .int (iI 0)), (0, .ref (A 0)), (1, .int (iI r)), (2, .int (iI c))]) S dX11_pieces_1 (by decide) rfl ?_
  refine r_iconst S dX11_pieces_2 ?_
  refine r_istore (L' := [(4, .int (iI 0)), (3, .int (iI 0)), (0, .ref (A 0)), (1, .int (iI r)), (2, .int (iI c))]) S dX11_pieces_3 (by decide) rfl ?_
  have L5 : ∀ (N : Nat) (n : Int) (k : Int) (g : Int → Int), ∀ (G : gh), mS D A th ke km rd now kept reel g best G →  (r * c - k).toNat < N → (0 ≤ k ∧ k ≤ r * c) → (n = sumI (fun k => cInd (lft c (r * c) (fun x => part x = 1) k k)) k.toNat) → (∀ j, 0 ≤ j → j < r * c → (g j = 1 ↔ lft c (r * c) (fun x => part x = 1) k j) ∧ (g j = 0 ∨ g j = 1)) → V F 5 G 0 0 5 [(0, .ref (A 0)), (1, .int (iI r)), (2, .int (iI c)), (3, .int (iI n)), (4, .int (iI k))] [] := by
    intro N
    induction N with
    | zero => intro n k g G hm hN; exact absurd hN (Nat.not_lt_zero _)
    | succ N ih5 =>
      intro n k g G hm hN5 hk hn j1
      refine r_iload S dX11_pieces_5 4 rfl ?_
      refine r_iload_n S dX11_pieces_7 1 rfl ?_
      refine r_iload_n S dX11_pieces_8 2 rfl ?_
      refine r_imul S dX11_pieces_9 ?_
      refine r_icmp_ge S 40 dX11_pieces_10 (by decide) (by omega) (by omega) (fun c10 => ?_) (fun c10 => ?_)
      · skip
        refine r_iload_n S dX11_pieces_40 3 rfl ?_
        exact ret.ti n dX11_pieces_41 (by omega) (by omega) ⟨by unfold npc; rw [hn, show k = r * c by omega], _, hm⟩
      · skip
        have hgk := (j1 k hk.1 (by omega)).2
        have hgl := (j1 k hk.1 (by omega)).1
        refine r_aload_n S dX11_pieces_13 0 rfl ?_
        refine m_get_part S hm gtX11_20_X11 dX11_pieces_14 ?_
        refine r_iload S dX11_pieces_17 4 rfl ?_
        refine m_ld_part S hm (by omega) (by omega) dX11_pieces_19 ?_
        refine r_if_le S 34 dX11_pieces_20 (by decide) (by omega) (fun c20 => ?_) (fun c20 => ?_)
        · skip
          refine r_iinc_e (L' := [(4, .int (iI (1 + k))), (0, .ref (A 0)), (1, .int (iI r)), (2, .int (iI c)), (3, .int (iI n))]) (1 + k) (by omega) S dX11_pieces_34 4 rfl (by decide) rfl ?_
          refine r_goto S 5 dX11_pieces_37 (by decide) ?_
          refine V.sub [1, 2, 3, 4, 0] rfl ?_
          exact ih5 n (1 + k) g _ hm (by omega) (by omega) (by rw [sumI_s _ hk.1, hn, cInd_f (fun q => by have := hgl.mpr q; omega)] <;> omega) (fun j h0 h1 => by rw [lft_skip hk.1 (fun q => by have := hgl.mpr q; omega)]; exact j1 j h0 h1)
        · skip
          refine r_iinc_e (L' := [(3, .int (iI (1 + n))), (0, .ref (A 0)), (1, .int (iI r)), (2, .int (iI c)), (4, .int (iI k))]) (1 + n) (by omega) S dX11_pieces_23 3 rfl (by decide) rfl ?_
          refine r_aload_n S dX11_pieces_26 1 rfl ?_
          refine r_iload S dX11_pieces_27 4 rfl ?_
          refine r_iload_n S dX11_pieces_29 2 rfl ?_
          refine r_iload_n S dX11_pieces_30 3 rfl ?_
          refine (c_V_T (As := [.int (iI k), .int (iI r), .int (iI c)]) (st := []) S (kX11_wipe hm hr hc_ ⟨by omega, by omega⟩ (by omega) (fun j h0 h1 => (j1 j h0 h1).2)) moX11_wipe ⟨by decide, by decide⟩ ⟨by omega, by omega⟩ rfl (Nat.le_of_ble_eq_true rfl) w879 w881 w27 hm.1 rfl rfl dX11_pieces_31).goV S hb hM (fun G31 hx31 hc31 => ?_)
          obtain ⟨part31, hm31, hwa31, hwb31⟩ := hc31
          refine r_iinc_e (L' := [(4, .int (iI (1 + k))), (3, .int (iI (1 + n))), (0, .ref (A 0)), (1, .int (iI r)), (2, .int (iI c))]) (1 + k) (by omega) S dX11_pieces_34 4 rfl (by decide) rfl ?_
          refine r_goto S 5 dX11_pieces_37 (by decide) ?_
          refine V.sub [2, 3, 4, 1, 0] rfl ?_
          exact ih5 (1 + n) (1 + k) part31 _ hm31 (by omega) (by omega) (by rw [sumI_s _ hk.1, hn, cInd_t (hgl.mp (by omega))] <;> omega) (pieces_step hc_.1 hc_.2 hk.1 (by omega) j1 (by omega) hwa31 hwb31)
  refine V.sub [2, 3, 4, 1, 0] rfl ?_
  exact L5 _ 0 0 part _ hm (Nat.lt_succ_self _) (by omega) rfl (fun j h0 h1 => ⟨(lft_0 (P := fun x => part x = 1)).symm, hpt j h0 h1⟩)

set_option maxRecDepth 20000 in
set_option maxHeartbeats 2000000 in
theorem kX11_piecesWithout {D : va_G} {A : Nat → Nat} {th ke km rd : Int} {now kept reel part best : Int → Int} {G : gh} (hm : mS D A th ke km rd now kept reel part best G) {p a b w : Int} (hKK : okK now) (hQQ : okQ now) (hp : 0 ≤ p ∧ p < 10) (hsh : now p = 2 ∨ now p = 3) (ha : -1 ≤ a ∧ a ≤ 100) (hb_ : -1 ≤ b ∧ b ≤ 100) (hw : 0 ≤ w ∧ w ≤ 2) : CT ⟨"PostageCounterModel", "piecesWithout", "(IIII)I"⟩ prog_13_method_23_code 7 (some .int) 2 51 0 0 D [.ref (A 0), .int (iI p), .int (iI a), .int (iI b), .int (iI w)] G (mM A) (tI (fun z G' => z = npc (now (50 + p)) (now (40 + p) * now (50 + p)) (remP now p a b w) ∧ ∃ part' : Int → Int, mS D A th ke km rd now kept reel part' best G')) := by
  refine CT.enter (by decide +kernel) (Nat.le_of_ble_eq_true rfl) (fun F S ret hb hM hI => ?_)
  show V F 7 G 0 0 0 [(0, .ref (A 0)), (1, .int (iI p)), (2, .int (iI a)), (3, .int (iI b)), (4, .int (iI w))] []
  have hK := hKK p hp.1 hp.2
  have hrc := rc_bd (r := now (40 + p)) (c := now (50 + p)) (by omega) (by omega) (by omega) (by omega)
  refine r_iconst S dX11_piecesWithout_0 ?_
  refine r_istore (L' := [(5, .int (iI 0)), (0, .ref (A 0)), (1, .int (iI p)), (2, .int (iI a)), (3, .int (iI b)), (4, .int (iI w))]) S dX11_piecesWithout_1 (by decide) rfl ?_
  have L3 : ∀ (N : Nat) (k : Int) (g : Int → Int), ∀ (G : gh), mS D A th ke km rd now kept reel g best G →  (now (40 + p) * now (50 + p) - k).toNat < N → (0 ≤ k ∧ k ≤ now (40 + p) * now (50 + p)) → (∀ j, 0 ≤ j → j < k → (g j = 1 ∧ remP now p a b w j) ∨ (g j = 0 ∧ ¬ remP now p a b w j)) → V F 7 G 0 0 3 [(0, .ref (A 0)), (1, .int (iI p)), (2, .int (iI a)), (3, .int (iI b)), (4, .int (iI w)), (5, .int (iI k))] [] := by
    intro N
    induction N with
    | zero => intro k g G hm hN; exact absurd hN (Nat.not_lt_zero _)
    | succ N ih3 =>
      intro k g G hm hN3 hk f1
      refine r_iload S dX11_piecesWithout_3 5 rfl ?_
      refine r_aload_n S dX11_piecesWithout_5 0 rfl ?_
      refine r_iload_n S dX11_piecesWithout_6 1 rfl ?_
      refine (c_V_P (As := [.int (iI p)]) (st := [.int (iI k)]) S (kX11_squares hm (by omega)) moX11_squares ⟨by decide, by decide⟩ ⟨by omega, by omega⟩ rfl (Nat.le_of_ble_eq_true rfl) w871 w873 w25 hm.1 rfl rfl dX11_piecesWithout_7).goI (fun r7 hc7 => ?_)
      refine r_icmp_ge S 98 dX11_piecesWithout_10 (by decide) (by omega) (by omega) (fun c10 => ?_) (fun c10 => ?_)
      · skip
        refine r_aload_n S dX11_piecesWithout_98 0 rfl ?_
        refine r_aload_n S dX11_piecesWithout_99 0 rfl ?_
        refine m_get_now S hm gtX11_7_X11 dX11_piecesWithout_100 ?_
        refine r_bipush S dX11_piecesWithout_103 (by decide) ?_
        refine r_iload_n S dX11_piecesWithout_105 1 rfl ?_
        refine r_iadd S dX11_piecesWithout_106 ?_
        refine m_ld_now S hm (by omega) (by omega) dX11_piecesWithout_107 ?_
        refine r_aload_n S dX11_piecesWithout_108 0 rfl ?_
        refine m_get_now S hm gtX11_7_X11 dX11_piecesWithout_109 ?_
        refine r_bipush S dX11_piecesWithout_112 (by decide) ?_
        refine r_iload_n S dX11_piecesWithout_114 1 rfl ?_
        refine r_iadd S dX11_piecesWithout_115 ?_
        refine m_ld_now S hm (by omega) (by omega) dX11_piecesWithout_116 ?_
        refine (c_V_T (As := [.int (iI (now (40 + p))), .int (iI (now (50 + p)))]) (st := []) S (kX11_pieces hm (by omega) (by omega) (fun j h0 h1 => by have := (f1 j h0 (by omega)); omega)) moX11_pieces ⟨by decide, by decide⟩ ⟨by omega, by omega⟩ rfl (Nat.le_of_ble_eq_true rfl) w875 w877 w26 hm.1 rfl rfl dX11_piecesWithout_117).goI S hb hM (fun r117 G117 hx117 hc117 => ?_)
        obtain ⟨hz117, part117, hm117⟩ := hc117
        exact ret.ti r117 dX11_piecesWithout_120 (by omega) (by omega) ⟨by rw [hz117]; exact npc_congr (fun x h0 h1 => by have := f1 x h0 (by omega); constructor; intro q; rcases this with h | h; exact h.2; have q : g x = 1 := q; omega; intro q; rcases this with h | h; exact h.1; exact absurd q h.2), _, hm117⟩
      · skip
        have L58 : ∀ (o : Int), ∀ (G : gh), mS D A th ke km rd now kept reel g best G →  True → ((o = 1 ∧ ((a ≠ -1 ∧ a ≤ k ∧ k < a + w) ∨ (b ≠ -1 ∧ b ≤ k ∧ k < b + w))) ∨ (o = 0 ∧ ¬ ((a ≠ -1 ∧ a ≤ k ∧ k < a + w) ∨ (b ≠ -1 ∧ b ≤ k ∧ k < b + w)))) → V F 7 G 0 0 58 [(0, .ref (A 0)), (1, .int (iI p)), (2, .int (iI a)), (3, .int (iI b)), (4, .int (iI w)), (5, .int (iI k))] [.int (iI o)] := by
          intro o G hm _ ho
          refine r_istore (L' := [(6, .int (iI o)), (0, .ref (A 0)), (1, .int (iI p)), (2, .int (iI a)), (3, .int (iI b)), (4, .int (iI w)), (5, .int (iI k))]) S dX11_piecesWithout_58 (by decide) rfl ?_
          have hQ := hQQ p k hp.1 hp.2 hk.1 (by omega)
          have L91 : ∀ (m : Int), ∀ (G : gh), mS D A th ke km rd now kept reel g best G →  True → ((m = 1 ∧ remP now p a b w k) ∨ (m = 0 ∧ ¬ remP now p a b w k)) → V F 7 G 0 0 91 [(0, .ref (A 0)), (1, .int (iI p)), (2, .int (iI a)), (3, .int (iI b)), (4, .int (iI w)), (5, .int (iI k))] [.int (iI m), .int (iI k), .ref (A 4)] := by
            intro m G hm _ hm_
            refine m_st_part S hb hM hm (by omega) (by omega) dX11_piecesWithout_91 (fun G91 f91 ef91 hm91 => ?_)
            refine r_iinc_e (L' := [(5, .int (iI (1 + k))), (0, .ref (A 0)), (1, .int (iI p)), (2, .int (iI a)), (3, .int (iI b)), (4, .int (iI w))]) (1 + k) (by omega) S dX11_piecesWithout_92 5 rfl (by decide) rfl ?_
            refine r_goto S 3 dX11_piecesWithout_95 (by decide) ?_
            refine V.sub [1, 2, 3, 4, 5, 0] rfl ?_
            exact ih3 (1 + k) f91 _ hm91 (by omega) (by omega) (fun j h0 h1 => by rw [ef91]; by_cases e : j = k; rw [e, upI_s]; exact hm_; rw [upI_n e]; exact f1 j h0 (by omega))
          refine r_aload_n S dX11_piecesWithout_60 1 rfl ?_
          refine m_get_part S hm gtX11_20_X11 dX11_piecesWithout_61 ?_
          refine r_iload S dX11_piecesWithout_64 6 rfl ?_
          refine r_iload S dX11_piecesWithout_66 0 rfl ?_
          refine r_if_ne S 86 dX11_piecesWithout_68 (by decide) (by omega) (fun c68 => ?_) (fun c68 => ?_)
          · skip
            refine r_iconst S dX11_piecesWithout_86 ?_
            refine r_goto S 91 dX11_piecesWithout_87 (by decide) ?_
            refine V.sub [1, 2, 3, 4, 5, 6] rfl ?_
            exact L91 0 _ hm trivial (by unfold remP; first | omega | (rw [hc79] at c83; omega))
          · skip
            refine r_aload_n S dX11_piecesWithout_71 1 rfl ?_
            refine m_get_now S hm gtX11_7_X11 dX11_piecesWithout_72 ?_
            refine r_aload_n S dX11_piecesWithout_75 1 rfl ?_
            refine r_iload_n S dX11_piecesWithout_76 2 rfl ?_
            refine r_iload S dX11_piecesWithout_77 6 rfl ?_
            refine (c_V_P (As := [.int (iI p), .int (iI k)]) (st := [.ref (A 1), .int (iI k), .ref (A 4)]) S (kX11_squareAt hm ) moX11_squareAt ⟨by decide, by decide⟩ ⟨by omega, by omega⟩ rfl (Nat.le_of_ble_eq_true rfl) w811 w813 w18 hm.1 rfl rfl dX11_piecesWithout_79).goI (fun r79 hc79 => ?_)
            refine m_ld_now S hm (by omega) (by omega) dX11_piecesWithout_82 ?_
            rw [hc79]
            refine r_if_ne S 90 dX11_piecesWithout_83 (by decide) (by omega) (fun c83 => ?_) (fun c83 => ?_)
            · skip
              refine r_iconst S dX11_piecesWithout_90 ?_
              refine V.sub [1, 2, 3, 4, 5, 6] rfl ?_
              exact L91 1 _ hm trivial (by unfold remP; first | omega | (rw [hc79] at c83; omega))
            · skip
              refine r_iconst S dX11_piecesWithout_86 ?_
              refine r_goto S 91 dX11_piecesWithout_87 (by decide) ?_
              refine V.sub [1, 2, 3, 4, 5, 6] rfl ?_
              exact L91 0 _ hm trivial (by unfold remP; first | omega | (rw [hc79] at c83; omega))
        refine r_iload_n S dX11_piecesWithout_13 2 rfl ?_
        refine r_iconst S dX11_piecesWithout_14 ?_
        refine r_icmp_eq S 33 dX11_piecesWithout_15 (by decide) (by omega) (by omega) (fun c15 => ?_) (fun c15 => ?_)
        · skip
          refine r_iload_n S dX11_piecesWithout_33 3 rfl ?_
          refine r_iconst S dX11_piecesWithout_34 ?_
          refine r_icmp_eq S 57 dX11_piecesWithout_35 (by decide) (by omega) (by omega) (fun c35 => ?_) (fun c35 => ?_)
          · skip
            refine r_iconst S dX11_piecesWithout_57 ?_
            refine V.sub [0, 1, 2, 3, 4, 5] rfl ?_
            exact L58 0 _ hm trivial (by omega)
          · skip
            refine r_iload S dX11_piecesWithout_38 5 rfl ?_
            refine r_iload_n S dX11_piecesWithout_40 3 rfl ?_
            refine r_icmp_lt S 57 dX11_piecesWithout_41 (by decide) (by omega) (by omega) (fun c41 => ?_) (fun c41 => ?_)
            · skip
              refine r_iconst S dX11_piecesWithout_57 ?_
              refine V.sub [0, 1, 2, 3, 4, 5] rfl ?_
              exact L58 0 _ hm trivial (by omega)
            · skip
              refine r_iload S dX11_piecesWithout_44 5 rfl ?_
              refine r_iload_n S dX11_piecesWithout_46 3 rfl ?_
              refine r_iload S dX11_piecesWithout_47 4 rfl ?_
              refine r_iadd S dX11_piecesWithout_49 ?_
              refine r_icmp_ge S 57 dX11_piecesWithout_50 (by decide) (by omega) (by omega) (fun c50 => ?_) (fun c50 => ?_)
              · skip
                refine r_iconst S dX11_piecesWithout_57 ?_
                refine V.sub [0, 1, 2, 3, 4, 5] rfl ?_
                exact L58 0 _ hm trivial (by omega)
              · skip
                refine r_iconst S dX11_piecesWithout_53 ?_
                refine r_goto S 58 dX11_piecesWithout_54 (by decide) ?_
                refine V.sub [0, 1, 2, 3, 4, 5] rfl ?_
                exact L58 1 _ hm trivial (by omega)
        · skip
          refine r_iload S dX11_piecesWithout_18 5 rfl ?_
          refine r_iload_n S dX11_piecesWithout_20 2 rfl ?_
          refine r_icmp_lt S 33 dX11_piecesWithout_21 (by decide) (by omega) (by omega) (fun c21 => ?_) (fun c21 => ?_)
          · skip
            refine r_iload_n S dX11_piecesWithout_33 3 rfl ?_
            refine r_iconst S dX11_piecesWithout_34 ?_
            refine r_icmp_eq S 57 dX11_piecesWithout_35 (by decide) (by omega) (by omega) (fun c35 => ?_) (fun c35 => ?_)
            · skip
              refine r_iconst S dX11_piecesWithout_57 ?_
              refine V.sub [0, 1, 2, 3, 4, 5] rfl ?_
              exact L58 0 _ hm trivial (by omega)
            · skip
              refine r_iload S dX11_piecesWithout_38 5 rfl ?_
              refine r_iload_n S dX11_piecesWithout_40 3 rfl ?_
              refine r_icmp_lt S 57 dX11_piecesWithout_41 (by decide) (by omega) (by omega) (fun c41 => ?_) (fun c41 => ?_)
              · skip
                refine r_iconst S dX11_piecesWithout_57 ?_
                refine V.sub [0, 1, 2, 3, 4, 5] rfl ?_
                exact L58 0 _ hm trivial (by omega)
              · skip
                refine r_iload S dX11_piecesWithout_44 5 rfl ?_
                refine r_iload_n S dX11_piecesWithout_46 3 rfl ?_
                refine r_iload S dX11_piecesWithout_47 4 rfl ?_
                refine r_iadd S dX11_piecesWithout_49 ?_
                refine r_icmp_ge S 57 dX11_piecesWithout_50 (by decide) (by omega) (by omega) (fun c50 => ?_) (fun c50 => ?_)
                · skip
                  refine r_iconst S dX11_piecesWithout_57 ?_
                  refine V.sub [0, 1, 2, 3, 4, 5] rfl ?_
                  exact L58 0 _ hm trivial (by omega)
                · skip
                  refine r_iconst S dX11_piecesWithout_53 ?_
                  refine r_goto S 58 dX11_piecesWithout_54 (by decide) ?_
                  refine V.sub [0, 1, 2, 3, 4, 5] rfl ?_
                  exact L58 1 _ hm trivial (by omega)
          · skip
            refine r_iload S dX11_piecesWithout_24 5 rfl ?_
            refine r_iload_n S dX11_piecesWithout_26 2 rfl ?_
            refine r_iload S dX11_piecesWithout_27 4 rfl ?_
            refine r_iadd S dX11_piecesWithout_29 ?_
            refine r_icmp_lt S 53 dX11_piecesWithout_30 (by decide) (by omega) (by omega) (fun c30 => ?_) (fun c30 => ?_)
            · skip
              refine r_iconst S dX11_piecesWithout_53 ?_
              refine r_goto S 58 dX11_piecesWithout_54 (by decide) ?_
              refine V.sub [0, 1, 2, 3, 4, 5] rfl ?_
              exact L58 1 _ hm trivial (by omega)
            · skip
              refine r_iload_n S dX11_piecesWithout_33 3 rfl ?_
              refine r_iconst S dX11_piecesWithout_34 ?_
              refine r_icmp_eq S 57 dX11_piecesWithout_35 (by decide) (by omega) (by omega) (fun c35 => ?_) (fun c35 => ?_)
              · skip
                refine r_iconst S dX11_piecesWithout_57 ?_
                refine V.sub [0, 1, 2, 3, 4, 5] rfl ?_
                exact L58 0 _ hm trivial (by omega)
              · skip
                refine r_iload S dX11_piecesWithout_38 5 rfl ?_
                refine r_iload_n S dX11_piecesWithout_40 3 rfl ?_
                refine r_icmp_lt S 57 dX11_piecesWithout_41 (by decide) (by omega) (by omega) (fun c41 => ?_) (fun c41 => ?_)
                · skip
                  refine r_iconst S dX11_piecesWithout_57 ?_
                  refine V.sub [0, 1, 2, 3, 4, 5] rfl ?_
                  exact L58 0 _ hm trivial (by omega)
                · skip
                  refine r_iload S dX11_piecesWithout_44 5 rfl ?_
                  refine r_iload_n S dX11_piecesWithout_46 3 rfl ?_
                  refine r_iload S dX11_piecesWithout_47 4 rfl ?_
                  refine r_iadd S dX11_piecesWithout_49 ?_
                  refine r_icmp_ge S 57 dX11_piecesWithout_50 (by decide) (by omega) (by omega) (fun c50 => ?_) (fun c50 => ?_)
                  · skip
                    refine r_iconst S dX11_piecesWithout_57 ?_
                    refine V.sub [0, 1, 2, 3, 4, 5] rfl ?_
                    exact L58 0 _ hm trivial (by omega)
                  · skip
                    refine r_iconst S dX11_piecesWithout_53 ?_
                    refine r_goto S 58 dX11_piecesWithout_54 (by decide) ?_
                    refine V.sub [0, 1, 2, 3, 4, 5] rfl ?_
                    exact L58 1 _ hm trivial (by omega)
  refine V.sub [1, 2, 3, 4, 5, 0] rfl ?_
  exact L3 _ 0 part _ hm (Nat.lt_succ_self _) (by omega) (fun j h0 h1 => absurd h1 (by omega))

set_option maxRecDepth 20000 in
set_option maxHeartbeats 2000000 in
theorem kX11_piecesOf {D : va_G} {A : Nat → Nat} {th ke km rd : Int} {now kept reel part best : Int → Int} {G : gh} (hm : mS D A th ke km rd now kept reel part best G) {p : Int} (hok : mOK now) (hp : 0 ≤ p ∧ p < 10) : CT ⟨"PostageCounterModel", "piecesOf", "(I)I"⟩ prog_13_method_24_code 2 (some .int) 3 77 0 0 D [.ref (A 0), .int (iI p)] G (mM A) (tI (fun z G' => z = pcsF now p ∧ ∃ part' : Int → Int, mS D A th ke km rd now kept reel part' best G')) := by
  refine CT.enter (by decide +kernel) (Nat.le_of_ble_eq_true rfl) (fun F S ret hb hM hI => ?_)
  show V F 2 G 0 0 0 [(0, .ref (A 0)), (1, .int (iI p))] []
  have hK := hok.1 p hp.1 hp.2
  refine r_aload_n S dX11_piecesOf_0 0 rfl ?_
  refine m_get_now S hm gtX11_7_X11 dX11_piecesOf_1 ?_
  refine r_bipush S dX11_piecesOf_4 (by decide) ?_
  refine r_iload_n S dX11_piecesOf_6 1 rfl ?_
  refine r_iadd S dX11_piecesOf_7 ?_
  refine m_ld_now S hm (by omega) (by omega) dX11_piecesOf_8 ?_
  refine r_if_ne S 16 dX11_piecesOf_9 (by decide) (by omega) (fun c9 => ?_) (fun c9 => ?_)
  · skip
    refine r_aload_n S dX11_piecesOf_16 0 rfl ?_
    refine r_iload_n S dX11_piecesOf_17 1 rfl ?_
    refine (c_V_P (As := [.int (iI p)]) (st := []) S (kX11_isSheet hm (by omega) (by have := hok.1 p (by omega) (by omega); omega)) moX11_isSheet ⟨by decide, by decide⟩ ⟨by omega, by omega⟩ rfl (Nat.le_of_ble_eq_true rfl) w839 w841 w20 hm.1 rfl rfl dX11_piecesOf_18).goI (fun r18 hc18 => ?_)
    refine r_if_eq S 35 dX11_piecesOf_21 (by decide) (by omega) (fun c21 => ?_) (fun c21 => ?_)
    · skip
      replace hc18 := zz0 hc18 c21
      refine r_iconst S dX11_piecesOf_35 ?_
      exact ret.ti 1 dX11_piecesOf_36 (by omega) (by omega) ⟨by unfold pcsF; rw [if_neg (by omega), if_neg (by omega)], _, hm⟩
    · skip
      replace hc18 := zz1 hc18 c21
      refine r_aload_n S dX11_piecesOf_24 0 rfl ?_
      refine r_iload_n S dX11_piecesOf_25 1 rfl ?_
      refine r_iconst S dX11_piecesOf_26 ?_
      refine r_iconst S dX11_piecesOf_27 ?_
      refine r_iconst S dX11_piecesOf_28 ?_
      refine (c_V_T (As := [.int (iI p), .int (iI (-1)), .int (iI (-1)), .int (iI 1)]) (st := []) S (kX11_piecesWithout hm hok.1 hok.2.2.1 (by omega) (by omega) (by omega) (by omega) (by omega)) moX11_piecesWithout ⟨by decide, by decide⟩ ⟨by omega, by omega⟩ rfl (Nat.le_of_ble_eq_true rfl) w867 w869 w24 hm.1 rfl rfl dX11_piecesOf_29).goI S hb hM (fun r29 G29 hx29 hc29 => ?_)
      obtain ⟨hz29, part29, hm29⟩ := hc29
      refine r_goto S 36 dX11_piecesOf_32 (by decide) ?_
      exact ret.ti r29 dX11_piecesOf_36 (by omega) (by omega) ⟨by unfold pcsF; rw [if_neg (by omega), if_pos (by omega)]; exact hz29, _, hm29⟩
  · skip
    refine r_iconst S dX11_piecesOf_12 ?_
    refine r_goto S 36 dX11_piecesOf_13 (by decide) ?_
    exact ret.ti 0 dX11_piecesOf_36 (by omega) (by omega) ⟨by unfold pcsF; rw [if_pos (by omega)], _, hm⟩

set_option maxRecDepth 20000 in
set_option maxHeartbeats 2000000 in
theorem kX11_holding {D : va_G} {A : Nat → Nat} {km rd : Int} {now reel : Int → Int} {hist : Int → Int → Int} {G : gh} (hq : mQ D A now hist km rd reel G) (hok : mOK now) {p w : Int} (hp : inR p) (hw : inR w) : CT ⟨"PostageCounterModel", "holding", "(II)I"⟩ prog_13_method_26_code 3 (some .int) 4 98 0 0 D [.ref (A 0), .int (iI p), .int (iI w)] G (mM A) (tI (mEnd D A now hist km rd reel ((sHold now p w, none)))) := by
  refine CT.enter (by decide +kernel) (Nat.le_of_ble_eq_true rfl) (fun F S ret hb hM hI => ?_)
  show V F 3 G 0 0 0 [(0, .ref (A 0)), (1, .int (iI p)), (2, .int (iI w))] []
  obtain ⟨th, ke, kept, part, best, hm, hkp⟩ := hq
  refine r_aload_n S dX11_holding_0 0 rfl ?_
  refine r_iconst S dX11_holding_1 ?_
  refine m_put_th S hb hM hm ptX11_27_X11 dX11_holding_2 (fun G2 hm2 => ?_)
  refine r_iload_n S dX11_holding_5 1 rfl ?_
  refine r_iconst S dX11_holding_6 ?_
  refine r_bipush S dX11_holding_7 (by decide) ?_
  refine (c_S_P (As := [.int (iI p), .int (iI 0), .int (iI 9)]) (st := []) S (kX11_in (by omega) (by omega) (by omega)) moX11_in ⟨by decide, by decide⟩ ⟨by omega, by omega⟩ rfl (Nat.le_of_ble_eq_true rfl) w796 w797 rfl dX11_holding_9).goI (fun r9 hc9 => ?_)
  refine r_if_eq S 24 dX11_holding_12 (by decide) (by omega) (fun c12 => ?_) (fun c12 => ?_)
  · skip
    replace hc9 := zz0 hc9 c12
    refine r_bipush S dX11_holding_24 (by decide) ?_
    exact ret.ti (-3) dX11_holding_26 (by omega) (by omega) (mEnd.m0 (by unfold sHold; rw [if_pos (by omega)]) ⟨_, _, _, _, _, hm2, hkp⟩)
  · skip
    replace hc9 := zz1 hc9 c12
    refine r_iload_n S dX11_holding_15 2 rfl ?_
    refine r_iconst S dX11_holding_16 ?_
    refine r_iconst S dX11_holding_17 ?_
    refine (c_S_P (As := [.int (iI w), .int (iI 0), .int (iI 4)]) (st := []) S (kX11_in (by omega) (by omega) (by omega)) moX11_in ⟨by decide, by decide⟩ ⟨by omega, by omega⟩ rfl (Nat.le_of_ble_eq_true rfl) w796 w797 rfl dX11_holding_18).goI (fun r18 hc18 => ?_)
    refine r_if_ne S 27 dX11_holding_21 (by decide) (by omega) (fun c21 => ?_) (fun c21 => ?_)
    · skip
      replace hc18 := zz1 hc18 c21
      have hK := hok.1 p (by omega) (by omega)
      refine r_aload_n S dX11_holding_27 0 rfl ?_
      refine r_iload_n S dX11_holding_28 1 rfl ?_
      refine (c_V_P (As := [.int (iI p)]) (st := []) S (kX11_isHeld hm2 (by omega) (by have := hok.1 p (by omega) (by omega); omega)) moX11_isHeld ⟨by decide, by decide⟩ ⟨by omega, by omega⟩ rfl (Nat.le_of_ble_eq_true rfl) w799 w801 w15 hm2.1 rfl rfl dX11_holding_29).goI (fun r29 hc29 => ?_)
      refine r_if_ne S 38 dX11_holding_32 (by decide) (by omega) (fun c32 => ?_) (fun c32 => ?_)
      · skip
        replace hc29 := zz1 hc29 c32
        refine r_iload_n S dX11_holding_38 2 rfl ?_
        rcases Classical.em (w = 0) with k39_0 | k39_0
        · refine r_tsw 0 68 S dX11_holding_39 k39_0 (by decide) rfl (by decide) ?_
          refine r_aload_n S dX11_holding_68 0 rfl ?_
          refine m_get_now S hm2 gtX11_7_X11 dX11_holding_69 ?_
          refine r_iconst S dX11_holding_72 ?_
          refine r_iload_n S dX11_holding_73 1 rfl ?_
          refine r_iadd_e p (by omega) S dX11_holding_74 ?_
          refine m_ld_now S hm2 (by omega) (by omega) dX11_holding_75 ?_
          exact ret.ti (now p) dX11_holding_76 (by omega) (by omega) (mEnd.m0 (by unfold sHold; rw [if_neg (by omega), if_neg (by omega), if_pos (by omega)]) ⟨_, _, _, _, _, hm2, hkp⟩)
        rcases Classical.em (w = 1) with k39_1 | k39_1
        · refine r_tsw 1 77 S dX11_holding_39 k39_1 (by decide) rfl (by decide) ?_
          refine r_aload_n S dX11_holding_77 0 rfl ?_
          refine m_get_now S hm2 gtX11_7_X11 dX11_holding_78 ?_
          refine r_bipush S dX11_holding_81 (by decide) ?_
          refine r_iload_n S dX11_holding_83 1 rfl ?_
          refine r_iadd S dX11_holding_84 ?_
          refine m_ld_now S hm2 (by omega) (by omega) dX11_holding_85 ?_
          exact ret.ti (now (10 + p)) dX11_holding_86 (by omega) (by omega) (mEnd.m0 (by unfold sHold; rw [if_neg (by omega), if_neg (by omega), if_neg (by omega), if_pos (by omega)]) ⟨_, _, _, _, _, hm2, hkp⟩)
        rcases Classical.em (w = 2) with k39_2 | k39_2
        · refine r_tsw 2 87 S dX11_holding_39 k39_2 (by decide) rfl (by decide) ?_
          refine r_aload_n S dX11_holding_87 0 rfl ?_
          refine m_get_now S hm2 gtX11_7_X11 dX11_holding_88 ?_
          refine r_iconst S dX11_holding_91 ?_
          refine r_iload_n S dX11_holding_92 1 rfl ?_
          refine r_iadd_e p (by omega) S dX11_holding_93 ?_
          refine m_ld_now S hm2 (by omega) (by omega) dX11_holding_94 ?_
          refine r_iconst S dX11_holding_95 ?_
          refine r_icmp_eq S 109 dX11_holding_96 (by decide) (by omega) (by omega) (fun c96 => ?_) (fun c96 => ?_)
          · skip
            refine r_aload_n S dX11_holding_109 0 rfl ?_
            refine m_get_now S hm2 gtX11_7_X11 dX11_holding_110 ?_
            refine r_bipush S dX11_holding_113 (by decide) ?_
            refine r_iload_n S dX11_holding_115 1 rfl ?_
            refine r_iadd S dX11_holding_116 ?_
            refine m_ld_now S hm2 (by omega) (by omega) dX11_holding_117 ?_
            refine r_if_ne S 125 dX11_holding_118 (by decide) (by omega) (fun c118 => ?_) (fun c118 => ?_)
            · skip
              refine r_aload_n S dX11_holding_125 0 rfl ?_
              refine m_get_now S hm2 gtX11_7_X11 dX11_holding_126 ?_
              refine r_aload_n S dX11_holding_129 0 rfl ?_
              refine r_iload_n S dX11_holding_130 1 rfl ?_
              refine r_aload_n S dX11_holding_131 0 rfl ?_
              refine m_get_now S hm2 gtX11_7_X11 dX11_holding_132 ?_
              refine r_bipush S dX11_holding_135 (by decide) ?_
              refine r_iload_n S dX11_holding_137 1 rfl ?_
              refine r_iadd S dX11_holding_138 ?_
              refine m_ld_now S hm2 (by omega) (by omega) dX11_holding_139 ?_
              refine r_iconst S dX11_holding_140 ?_
              refine r_isub_e (now (10 + p) - 1) (by omega) S dX11_holding_141 ?_
              refine (c_V_P (As := [.int (iI p), .int (iI (now (10 + p) - 1))]) (st := [.ref (A 1)]) S (kX11_stampAt hm2 ) moX11_stampAt ⟨by decide, by decide⟩ ⟨by omega, by omega⟩ rfl (Nat.le_of_ble_eq_true rfl) w827 w829 w19 hm2.1 rfl rfl dX11_holding_142).goI (fun r142 hc142 => ?_)
              refine m_ld_now S hm2 (by omega) (by omega) dX11_holding_145 ?_
              exact ret.ti (now r142) dX11_holding_146 (by omega) (by omega) (mEnd.m0 (by unfold sHold; rw [if_neg (by omega), if_neg (by omega), if_neg (by omega), if_neg (by omega), if_pos (by omega), if_neg (by omega), if_neg (by omega), hc142]) ⟨_, _, _, _, _, hm2, hkp⟩)
            · skip
              refine r_iconst S dX11_holding_121 ?_
              refine r_goto S 146 dX11_holding_122 (by decide) ?_
              exact ret.ti 0 dX11_holding_146 (by omega) (by omega) (mEnd.m0 (by unfold sHold; rw [if_neg (by omega), if_neg (by omega), if_neg (by omega), if_neg (by omega), if_pos (by omega), if_neg (by omega), if_pos (by omega)]) ⟨_, _, _, _, _, hm2, hkp⟩)
          · skip
            refine r_aload_n S dX11_holding_99 0 rfl ?_
            refine m_get_now S hm2 gtX11_7_X11 dX11_holding_100 ?_
            refine r_bipush S dX11_holding_103 (by decide) ?_
            refine r_iload_n S dX11_holding_105 1 rfl ?_
            refine r_iadd S dX11_holding_106 ?_
            refine m_ld_now S hm2 (by omega) (by omega) dX11_holding_107 ?_
            exact ret.ti (now (20 + p)) dX11_holding_108 (by omega) (by omega) (mEnd.m0 (by unfold sHold; rw [if_neg (by omega), if_neg (by omega), if_neg (by omega), if_neg (by omega), if_pos (by omega), if_pos (by omega)]) ⟨_, _, _, _, _, hm2, hkp⟩)
        rcases Classical.em (w = 3) with k39_3 | k39_3
        · refine r_tsw 3 147 S dX11_holding_39 k39_3 (by decide) rfl (by decide) ?_
          refine r_aload_n S dX11_holding_147 0 rfl ?_
          refine r_iload_n S dX11_holding_148 1 rfl ?_
          refine (c_V_P (As := [.int (iI p)]) (st := []) S (kX11_facesOf hm2 hok (by omega)) moX11_facesOf ⟨by decide, by decide⟩ ⟨by omega, by omega⟩ rfl (Nat.le_of_ble_eq_true rfl) w859 w861 w22 hm2.1 rfl rfl dX11_holding_149).goI (fun r149 hc149 => ?_)
          exact ret.ti r149 dX11_holding_152 (by omega) (by omega) (mEnd.m0 (by unfold sHold; rw [if_neg (by omega), if_neg (by omega), if_neg (by omega), if_neg (by omega), if_neg (by omega), if_pos (by omega), ← hc149]) ⟨_, _, _, _, _, hm2, hkp⟩)
        refine r_tswD 153 S dX11_holding_39 (by omega) (by omega) (by decide) ?_
        refine r_aload_n S dX11_holding_153 0 rfl ?_
        refine r_iload_n S dX11_holding_154 1 rfl ?_
        refine (c_V_T (As := [.int (iI p)]) (st := []) S (kX11_piecesOf hm2 hok (by omega)) moX11_piecesOf ⟨by decide, by decide⟩ ⟨by omega, by omega⟩ rfl (Nat.le_of_ble_eq_true rfl) w863 w865 w23 hm2.1 rfl rfl dX11_holding_155).goI S hb hM (fun r155 G155 hx155 hc155 => ?_)
        obtain ⟨hz155, part155, hm155⟩ := hc155
        exact ret.ti r155 dX11_holding_158 (by omega) (by omega) (mEnd.m0 (by unfold sHold; rw [if_neg (by omega), if_neg (by omega), if_neg (by omega), if_neg (by omega), if_neg (by omega), if_neg (by omega), ← hz155]) ⟨_, _, _, _, _, hm155, hkp⟩)
      · skip
        replace hc29 := zz0 hc29 c32
        refine r_bipush S dX11_holding_35 (by decide) ?_
        exact ret.ti (-11) dX11_holding_37 (by omega) (by omega) (mEnd.m0 (by unfold sHold; rw [if_neg (by omega), if_pos (by omega)]) ⟨_, _, _, _, _, hm2, hkp⟩)
    · skip
      replace hc18 := zz0 hc18 c21
      refine r_bipush S dX11_holding_24 (by decide) ?_
      exact ret.ti (-3) dX11_holding_26 (by omega) (by omega) (mEnd.m0 (by unfold sHold; rw [if_pos (by omega)]) ⟨_, _, _, _, _, hm2, hkp⟩)

set_option maxRecDepth 20000 in
set_option maxHeartbeats 2000000 in
theorem kX11_day {D : va_G} {A : Nat → Nat} {km rd : Int} {now reel : Int → Int} {hist : Int → Int → Int} {G : gh} (hq : mQ D A now hist km rd reel G) (hok : mOK now) (hrd : 0 ≤ rd ∧ rd ≤ 40) {w : Int} (hw : inR w) : CT ⟨"PostageCounterModel", "day", "(I)I"⟩ prog_13_method_48_code 5 (some .int) 4 98 0 0 D [.ref (A 0), .int (iI w)] G (mM A) (tI (mEnd D A now hist km rd reel ((sDay now rd km w, none)))) := by
  refine CT.enter (by decide +kernel) (Nat.le_of_ble_eq_true rfl) (fun F S ret hb hM hI => ?_)
  show V F 5 G 0 0 0 [(0, .ref (A 0)), (1, .int (iI w))] []
  obtain ⟨th, ke, kept, part, best, hm, hkp⟩ := hq
  have hN := hok.2.2.2.2.2.2.1.1
  have hN2 := hok.2.2.2.2.2.2.1.2.1
  have hkm := hkp.2.2.1
  have hkm2 := hkp.2.2.2.1
  refine r_aload_n S dX11_day_0 0 rfl ?_
  refine r_iconst S dX11_day_1 ?_
  refine m_put_th S hb hM hm ptX11_27_X11 dX11_day_2 (fun G2 hm2 => ?_)
  refine r_iload_n S dX11_day_5 1 rfl ?_
  refine r_iconst S dX11_day_6 ?_
  refine r_bipush S dX11_day_7 (by decide) ?_
  refine (c_S_P (As := [.int (iI w), .int (iI 0), .int (iI 9)]) (st := []) S (kX11_in (by omega) (by omega) (by omega)) moX11_in ⟨by decide, by decide⟩ ⟨by omega, by omega⟩ rfl (Nat.le_of_ble_eq_true rfl) w796 w797 rfl dX11_day_9).goI (fun r9 hc9 => ?_)
  refine r_if_ne S 18 dX11_day_12 (by decide) (by omega) (fun c12 => ?_) (fun c12 => ?_)
  · skip
    replace hc9 := zz1 hc9 c12
    refine r_aload_n S dX11_day_18 0 rfl ?_
    refine m_get_now S hm2 gtX11_7_X11 dX11_day_19 ?_
    refine r_sipush S dX11_day_22 (by decide) ?_
    refine m_ld_now S hm2 (by omega) (by omega) dX11_day_25 ?_
    refine r_istore_n (L' := [(2, .int (iI (now 1286))), (0, .ref (A 0)), (1, .int (iI w))]) S dX11_day_26 (by decide) rfl ?_
    refine r_iconst S dX11_day_27 ?_
    refine r_istore_n (L' := [(3, .int (iI 0)), (2, .int (iI (now 1286))), (0, .ref (A 0)), (1, .int (iI w))]) S dX11_day_28 (by decide) rfl ?_
    have L82 : ∀ (_ : Unit), ∀ (G : gh), mS D A 0 ke km rd now kept reel part best G →  True → (1 ≤ w ∧ w ≤ 4) → V F 5 G 0 0 82 [(0, .ref (A 0)), (1, .int (iI w)), (2, .int (iI (now 1286))), (3, .int (iI 0))] [] := by
      intro _ G hm _ hw14
      refine r_iconst S dX11_day_82 ?_
      refine r_istore (L' := [(4, .int (iI 0)), (0, .ref (A 0)), (1, .int (iI w)), (2, .int (iI (now 1286))), (3, .int (iI 0))]) S dX11_day_83 (by decide) rfl ?_
      have L85 : ∀ (N : Nat) (sm : Int) (l : Int), ∀ (G : gh), mS D A 0 ke km rd now kept reel part best G →  (now 1286 - l).toNat < N → (0 ≤ l ∧ l ≤ now 1286) → (sm = sumI (dF now w) l.toNat) → V F 5 G 0 0 85 [(0, .ref (A 0)), (1, .int (iI w)), (2, .int (iI (now 1286))), (3, .int (iI sm)), (4, .int (iI l))] [] := by
        intro N
        induction N with
        | zero => intro sm l G hm hN; exact absurd hN (Nat.not_lt_zero _)
        | succ N ih85 =>
          intro sm l G hm hN85 hl hs
          refine r_iload S dX11_day_85 4 rfl ?_
          refine r_iload_n S dX11_day_87 2 rfl ?_
          refine r_icmp_ge S 167 dX11_day_88 (by decide) (by omega) (by omega) (fun c88 => ?_) (fun c88 => ?_)
          · skip
            refine r_iload_n S dX11_day_167 3 rfl ?_
            exact ret.ti sm dX11_day_168 (by omega) (by omega) (mEnd.m0 (by rw [dF_sum hw14, hs, show l = now 1286 by omega]) ⟨_, _, _, _, _, hm, hkp⟩)
          · skip
            have hNl := hok.2.2.2.2.2.2.1.2.2 l (by omega) (by omega)
            have L159 : ∀ (b : Int), ∀ (G : gh), mS D A 0 ke km rd now kept reel part best G →  True → (b = dF now w l) → V F 5 G 0 0 159 [(0, .ref (A 0)), (1, .int (iI w)), (2, .int (iI (now 1286))), (3, .int (iI sm)), (4, .int (iI l))] [.int (iI b), .int (iI sm)] := by
              intro b G hm _ hbb
              refine r_iadd_e (b + sm) (by omega) S dX11_day_159 ?_
              refine r_istore_n (L' := [(3, .int (iI (b + sm))), (0, .ref (A 0)), (1, .int (iI w)), (2, .int (iI (now 1286))), (4, .int (iI l))]) S dX11_day_160 (by decide) rfl ?_
              refine r_iinc_e (L' := [(4, .int (iI (1 + l))), (3, .int (iI (b + sm))), (0, .ref (A 0)), (1, .int (iI w)), (2, .int (iI (now 1286)))]) (1 + l) (by omega) S dX11_day_161 4 rfl (by decide) rfl ?_
              refine r_goto S 85 dX11_day_164 (by decide) ?_
              refine V.sub [2, 3, 4, 1, 0] rfl ?_
              exact ih85 (b + sm) (1 + l) _ hm (by omega) (by omega) (by rw [sumI_s _ (by omega), hs, hbb] <;> omega)
            refine r_iload_n S dX11_day_91 3 rfl ?_
            refine r_iload_n S dX11_day_92 1 rfl ?_
            refine r_iconst S dX11_day_93 ?_
            refine r_icmp_ne S 115 dX11_day_94 (by decide) (by omega) (by omega) (fun c94 => ?_) (fun c94 => ?_)
            · skip
              have L155 : ∀ (bs : Int), ∀ (G : gh), mS D A 0 ke km rd now kept reel part best G →  True → (dB w = bs) → (bs = 1467 ∨ bs = 1287 ∨ bs = 1347 ∨ bs = 1407) → V F 5 G 0 0 155 [(0, .ref (A 0)), (1, .int (iI w)), (2, .int (iI (now 1286))), (3, .int (iI sm)), (4, .int (iI l))] [.int (iI bs), .ref (A 1), .int (iI sm)] := by
                intro bs G hm _ hbs hbs2
                refine r_iload S dX11_day_155 4 rfl ?_
                refine r_iadd S dX11_day_157 ?_
                refine m_ld_now S hm (by omega) (by omega) dX11_day_158 ?_
                refine V.sub [0, 1, 2, 3, 4] rfl ?_
                exact L159 (now (bs + l)) _ hm trivial (by unfold dF; rw [if_neg (by omega), hbs])
              refine r_aload_n S dX11_day_115 0 rfl ?_
              refine m_get_now S hm gtX11_7_X11 dX11_day_116 ?_
              refine r_iload_n S dX11_day_119 1 rfl ?_
              refine r_iconst S dX11_day_120 ?_
              refine r_icmp_ne S 130 dX11_day_121 (by decide) (by omega) (by omega) (fun c121 => ?_) (fun c121 => ?_)
              · skip
                refine r_iload_n S dX11_day_130 1 rfl ?_
                refine r_iconst S dX11_day_131 ?_
                refine r_icmp_ne S 141 dX11_day_132 (by decide) (by omega) (by omega) (fun c132 => ?_) (fun c132 => ?_)
                · skip
                  refine r_iload_n S dX11_day_141 1 rfl ?_
                  refine r_iconst S dX11_day_142 ?_
                  refine r_icmp_ne S 152 dX11_day_143 (by decide) (by omega) (by omega) (fun c143 => ?_) (fun c143 => ?_)
                  · skip
                    refine r_sipush S dX11_day_152 (by decide) ?_
                    refine V.sub [0, 1, 2, 3, 4] rfl ?_
                    exact L155 1407 _ hm trivial (by unfold dB; rw [if_neg (by omega), if_neg (by omega), if_neg (by omega)]) (by omega)
                  · skip
                    refine r_sipush S dX11_day_146 (by decide) ?_
                    refine r_goto S 155 dX11_day_149 (by decide) ?_
                    refine V.sub [0, 1, 2, 3, 4] rfl ?_
                    exact L155 1347 _ hm trivial (by unfold dB; rw [if_neg (by omega), if_neg (by omega), if_pos (by omega)]) (by omega)
                · skip
                  refine r_sipush S dX11_day_135 (by decide) ?_
                  refine r_goto S 155 dX11_day_138 (by decide) ?_
                  refine V.sub [0, 1, 2, 3, 4] rfl ?_
                  exact L155 1287 _ hm trivial (by unfold dB; rw [if_neg (by omega), if_pos (by omega)]) (by omega)
              · skip
                refine r_sipush S dX11_day_124 (by decide) ?_
                refine r_goto S 155 dX11_day_127 (by decide) ?_
                refine V.sub [0, 1, 2, 3, 4] rfl ?_
                exact L155 1467 _ hm trivial (by unfold dB; rw [if_pos (by omega)]) (by omega)
            · skip
              refine r_aload_n S dX11_day_97 0 rfl ?_
              refine m_get_now S hm gtX11_7_X11 dX11_day_98 ?_
              refine r_sipush S dX11_day_101 (by decide) ?_
              refine r_iload S dX11_day_104 4 rfl ?_
              refine r_iadd S dX11_day_106 ?_
              refine m_ld_now S hm (by omega) (by omega) dX11_day_107 ?_
              refine r_if_ne S 115 dX11_day_108 (by decide) (by omega) (fun c108 => ?_) (fun c108 => ?_)
              · skip
                have L155 : ∀ (bs : Int), ∀ (G : gh), mS D A 0 ke km rd now kept reel part best G →  True → (dB w = bs) → (bs = 1467 ∨ bs = 1287 ∨ bs = 1347 ∨ bs = 1407) → V F 5 G 0 0 155 [(0, .ref (A 0)), (1, .int (iI w)), (2, .int (iI (now 1286))), (3, .int (iI sm)), (4, .int (iI l))] [.int (iI bs), .ref (A 1), .int (iI sm)] := by
                  intro bs G hm _ hbs hbs2
                  refine r_iload S dX11_day_155 4 rfl ?_
                  refine r_iadd S dX11_day_157 ?_
                  refine m_ld_now S hm (by omega) (by omega) dX11_day_158 ?_
                  refine V.sub [0, 1, 2, 3, 4] rfl ?_
                  exact L159 (now (bs + l)) _ hm trivial (by unfold dF; rw [if_neg (by omega), hbs])
                refine r_aload_n S dX11_day_115 0 rfl ?_
                refine m_get_now S hm gtX11_7_X11 dX11_day_116 ?_
                refine r_iload_n S dX11_day_119 1 rfl ?_
                refine r_iconst S dX11_day_120 ?_
                refine r_icmp_ne S 130 dX11_day_121 (by decide) (by omega) (by omega) (fun c121 => ?_) (fun c121 => ?_)
                · skip
                  refine r_iload_n S dX11_day_130 1 rfl ?_
                  refine r_iconst S dX11_day_131 ?_
                  refine r_icmp_ne S 141 dX11_day_132 (by decide) (by omega) (by omega) (fun c132 => ?_) (fun c132 => ?_)
                  · skip
                    refine r_iload_n S dX11_day_141 1 rfl ?_
                    refine r_iconst S dX11_day_142 ?_
                    refine r_icmp_ne S 152 dX11_day_143 (by decide) (by omega) (by omega) (fun c143 => ?_) (fun c143 => ?_)
                    · skip
                      refine r_sipush S dX11_day_152 (by decide) ?_
                      refine V.sub [0, 1, 2, 3, 4] rfl ?_
                      exact L155 1407 _ hm trivial (by unfold dB; rw [if_neg (by omega), if_neg (by omega), if_neg (by omega)]) (by omega)
                    · skip
                      refine r_sipush S dX11_day_146 (by decide) ?_
                      refine r_goto S 155 dX11_day_149 (by decide) ?_
                      refine V.sub [0, 1, 2, 3, 4] rfl ?_
                      exact L155 1347 _ hm trivial (by unfold dB; rw [if_neg (by omega), if_neg (by omega), if_pos (by omega)]) (by omega)
                  · skip
                    refine r_sipush S dX11_day_135 (by decide) ?_
                    refine r_goto S 155 dX11_day_138 (by decide) ?_
                    refine V.sub [0, 1, 2, 3, 4] rfl ?_
                    exact L155 1287 _ hm trivial (by unfold dB; rw [if_neg (by omega), if_pos (by omega)]) (by omega)
                · skip
                  refine r_sipush S dX11_day_124 (by decide) ?_
                  refine r_goto S 155 dX11_day_127 (by decide) ?_
                  refine V.sub [0, 1, 2, 3, 4] rfl ?_
                  exact L155 1467 _ hm trivial (by unfold dB; rw [if_pos (by omega)]) (by omega)
              · skip
                refine r_iconst S dX11_day_111 ?_
                refine r_goto S 159 dX11_day_112 (by decide) ?_
                refine V.sub [0, 1, 2, 3, 4] rfl ?_
                exact L159 0 _ hm trivial (by unfold dF; rw [if_pos (by omega)])
      refine V.sub [1, 2, 3, 4, 0] rfl ?_
      exact L85 _ 0 0 _ hm (Nat.lt_succ_self _) (by omega) rfl
    refine r_iload_n S dX11_day_29 3 rfl ?_
    rcases Classical.em (w = 0) with k30_0 | k30_0
    · refine r_tsw 0 80 S dX11_day_30 k30_0 (by decide) rfl (by decide) ?_
      refine r_iload_n S dX11_day_80 1 rfl ?_
      exact ret.ti (now 1286) dX11_day_81 (by omega) (by omega) (mEnd.m0 (by unfold sDay; rw [if_neg (by omega), if_pos (by omega)]) ⟨_, _, _, _, _, hm2, hkp⟩)
    rcases Classical.em (w = 1) with k30_1 | k30_1
    · refine r_tsw 1 82 S dX11_day_30 k30_1 (by decide) rfl (by decide) ?_
      refine V.sub [2, 3, 1, 0] rfl ?_
      exact L82 () _ hm2 trivial (by omega)
    rcases Classical.em (w = 2) with k30_2 | k30_2
    · refine r_tsw 2 82 S dX11_day_30 k30_2 (by decide) rfl (by decide) ?_
      refine V.sub [2, 3, 1, 0] rfl ?_
      exact L82 () _ hm2 trivial (by omega)
    rcases Classical.em (w = 3) with k30_3 | k30_3
    · refine r_tsw 3 82 S dX11_day_30 k30_3 (by decide) rfl (by decide) ?_
      refine V.sub [2, 3, 1, 0] rfl ?_
      exact L82 () _ hm2 trivial (by omega)
    rcases Classical.em (w = 4) with k30_4 | k30_4
    · refine r_tsw 4 82 S dX11_day_30 k30_4 (by decide) rfl (by decide) ?_
      refine V.sub [2, 3, 1, 0] rfl ?_
      exact L82 () _ hm2 trivial (by omega)
    rcases Classical.em (w = 5) with k30_5 | k30_5
    · refine r_tsw 5 169 S dX11_day_30 k30_5 (by decide) rfl (by decide) ?_
      refine r_iconst S dX11_day_169 ?_
      refine r_istore (L' := [(4, .int (iI 0)), (3, .int (iI 0)), (2, .int (iI (now 1286))), (0, .ref (A 0)), (1, .int (iI w))]) S dX11_day_170 (by decide) rfl ?_
      have L172 : ∀ (N : Nat) (sm : Int) (p : Int), ∀ (G : gh), mS D A 0 ke km rd now kept reel part best G →  (10 - p).toNat < N → (0 ≤ p ∧ p ≤ 10) → (sm = sumI (fun p => now (10 + p)) p.toNat) → V F 5 G 0 0 172 [(0, .ref (A 0)), (1, .int (iI w)), (2, .int (iI (now 1286))), (3, .int (iI sm)), (4, .int (iI p))] [] := by
        intro N
        induction N with
        | zero => intro sm p G hm hN; exact absurd hN (Nat.not_lt_zero _)
        | succ N ih172 =>
          intro sm p G hm hN172 hp hs
          refine r_iload S dX11_day_172 4 rfl ?_
          refine r_bipush S dX11_day_174 (by decide) ?_
          refine r_icmp_ge S 198 dX11_day_176 (by decide) (by omega) (by omega) (fun c176 => ?_) (fun c176 => ?_)
          · skip
            refine r_iload_n S dX11_day_198 3 rfl ?_
            exact ret.ti sm dX11_day_199 (by omega) (by omega) (mEnd.m0 (by unfold sDay; rw [if_neg (by omega), if_neg (by omega), if_neg (by omega), if_neg (by omega), if_neg (by omega), if_neg (by omega), if_pos (by omega), hs, show p.toNat = 10 by omega]) ⟨_, _, _, _, _, hm, hkp⟩)
          · skip
            refine r_iload_n S dX11_day_179 3 rfl ?_
            refine r_aload_n S dX11_day_180 0 rfl ?_
            refine m_get_now S hm gtX11_7_X11 dX11_day_181 ?_
            refine r_bipush S dX11_day_184 (by decide) ?_
            refine r_iload S dX11_day_186 4 rfl ?_
            refine r_iadd S dX11_day_188 ?_
            refine m_ld_now S hm (by omega) (by omega) dX11_day_189 ?_
            refine r_iadd_e (now (10 + p) + sm) (by omega) S dX11_day_190 ?_
            refine r_istore_n (L' := [(3, .int (iI (now (10 + p) + sm))), (0, .ref (A 0)), (1, .int (iI w)), (2, .int (iI (now 1286))), (4, .int (iI p))]) S dX11_day_191 (by decide) rfl ?_
            refine r_iinc_e (L' := [(4, .int (iI (1 + p))), (3, .int (iI (now (10 + p) + sm))), (0, .ref (A 0)), (1, .int (iI w)), (2, .int (iI (now 1286)))]) (1 + p) (by omega) S dX11_day_192 4 rfl (by decide) rfl ?_
            refine r_goto S 172 dX11_day_195 (by decide) ?_
            refine V.sub [2, 3, 4, 1, 0] rfl ?_
            exact ih172 (now (10 + p) + sm) (1 + p) _ hm (by omega) (by omega) (by rw [sumI_s _ (by omega), hs] <;> omega)
      refine V.sub [3, 4, 2, 1, 0] rfl ?_
      exact L172 _ 0 0 _ hm2 (Nat.lt_succ_self _) (by omega) rfl
    rcases Classical.em (w = 6) with k30_6 | k30_6
    · refine r_tsw 6 200 S dX11_day_30 k30_6 (by decide) rfl (by decide) ?_
      refine r_aload_n S dX11_day_200 2 rfl ?_
      refine (c_V_P (As := []) (st := []) S (kX11_allFaces hm2 hok) moX11_allFaces ⟨by decide, by decide⟩ ⟨by omega, by omega⟩ rfl (Nat.le_of_ble_eq_true rfl) w949 w951 w36 hm2.1 rfl rfl dX11_day_201).goI (fun r201 hc201 => ?_)
      exact ret.ti r201 dX11_day_204 (by omega) (by omega) (mEnd.m0 (by unfold sDay; rw [if_neg (by omega), if_neg (by omega), if_neg (by omega), if_neg (by omega), if_neg (by omega), if_neg (by omega), if_neg (by omega), if_pos (by omega), ← hc201]) ⟨_, _, _, _, _, hm2, hkp⟩)
    rcases Classical.em (w = 7) with k30_7 | k30_7
    · refine r_tsw 7 205 S dX11_day_30 k30_7 (by decide) rfl (by decide) ?_
      refine r_iconst S dX11_day_205 ?_
      refine r_istore (L' := [(4, .int (iI 0)), (3, .int (iI 0)), (2, .int (iI (now 1286))), (0, .ref (A 0)), (1, .int (iI w))]) S dX11_day_206 (by decide) rfl ?_
      have L208 : ∀ (N : Nat) (sm : Int) (p : Int) (pt : Int → Int), ∀ (G : gh), mS D A 0 ke km rd now kept reel pt best G →  (10 - p).toNat < N → (0 ≤ p ∧ p ≤ 10) → (sm = sumI (fun p => if now p = 2 ∨ now p = 3 then pcsF now p else 0) p.toNat) → V F 5 G 0 0 208 [(0, .ref (A 0)), (1, .int (iI w)), (2, .int (iI (now 1286))), (3, .int (iI sm)), (4, .int (iI p))] [] := by
        intro N
        induction N with
        | zero => intro sm p pt G hm hN; exact absurd hN (Nat.not_lt_zero _)
        | succ N ih208 =>
          intro sm p pt G hm hN208 hp hs
          refine r_iload S dX11_day_208 4 rfl ?_
          refine r_bipush S dX11_day_210 (by decide) ?_
          refine r_icmp_ge S 243 dX11_day_212 (by decide) (by omega) (by omega) (fun c212 => ?_) (fun c212 => ?_)
          · skip
            refine r_iload_n S dX11_day_243 3 rfl ?_
            exact ret.ti sm dX11_day_244 (by omega) (by omega) (mEnd.m0 (by unfold sDay; rw [if_neg (by omega), if_neg (by omega), if_neg (by omega), if_neg (by omega), if_neg (by omega), if_neg (by omega), if_neg (by omega), if_neg (by omega), if_pos (by omega), hs, show p.toNat = 10 by omega]) ⟨_, _, _, _, _, hm, hkp⟩)
          · skip
            have hK := hok.1 p (by omega) (by omega)
            have L235 : ∀ (b : Int) (pt2 : Int → Int), ∀ (G : gh), mS D A 0 ke km rd now kept reel pt2 best G →  True → (b = if now p = 2 ∨ now p = 3 then pcsF now p else 0) → V F 5 G 0 0 235 [(0, .ref (A 0)), (1, .int (iI w)), (2, .int (iI (now 1286))), (3, .int (iI sm)), (4, .int (iI p))] [.int (iI b), .int (iI sm)] := by
              intro b pt2 G hm _ hbb
              refine r_iadd_e (b + sm) (by omega) S dX11_day_235 ?_
              refine r_istore_n (L' := [(3, .int (iI (b + sm))), (0, .ref (A 0)), (1, .int (iI w)), (2, .int (iI (now 1286))), (4, .int (iI p))]) S dX11_day_236 (by decide) rfl ?_
              refine r_iinc_e (L' := [(4, .int (iI (1 + p))), (3, .int (iI (b + sm))), (0, .ref (A 0)), (1, .int (iI w)), (2, .int (iI (now 1286)))]) (1 + p) (by omega) S dX11_day_237 4 rfl (by decide) rfl ?_
              refine r_goto S 208 dX11_day_240 (by decide) ?_
              refine V.sub [2, 3, 4, 1, 0] rfl ?_
              exact ih208 (b + sm) (1 + p) pt2 _ hm (by omega) (by omega) (by rw [sumI_s _ (by omega), hs, hbb] <;> omega)
            refine r_iload_n S dX11_day_215 3 rfl ?_
            refine r_aload_n S dX11_day_216 0 rfl ?_
            refine r_iload S dX11_day_217 4 rfl ?_
            refine (c_V_P (As := [.int (iI p)]) (st := [.int (iI sm)]) S (kX11_isSheet hm (by omega) (by have := hok.1 p (by omega) (by omega); omega)) moX11_isSheet ⟨by decide, by decide⟩ ⟨by omega, by omega⟩ rfl (Nat.le_of_ble_eq_true rfl) w839 w841 w20 hm.1 rfl rfl dX11_day_219).goI (fun r219 hc219 => ?_)
            refine r_if_eq S 234 dX11_day_222 (by decide) (by omega) (fun c222 => ?_) (fun c222 => ?_)
            · skip
              replace hc219 := zz0 hc219 c222
              refine r_iconst S dX11_day_234 ?_
              refine V.sub [0, 1, 2, 3, 4] rfl ?_
              exact L235 0 pt _ hm trivial (by rw [if_neg (by omega)])
            · skip
              replace hc219 := zz1 hc219 c222
              refine r_aload_n S dX11_day_225 0 rfl ?_
              refine r_iload S dX11_day_226 4 rfl ?_
              refine (c_V_T (As := [.int (iI p)]) (st := [.int (iI sm)]) S (kX11_piecesOf hm hok (by omega)) moX11_piecesOf ⟨by decide, by decide⟩ ⟨by omega, by omega⟩ rfl (Nat.le_of_ble_eq_true rfl) w863 w865 w23 hm.1 rfl rfl dX11_day_228).goI S hb hM (fun r228 G228 hx228 hc228 => ?_)
              obtain ⟨hz228, part228, hm228⟩ := hc228
              refine r_goto S 235 dX11_day_231 (by decide) ?_
              refine V.sub [0, 1, 2, 3, 4] rfl ?_
              exact L235 r228 part228 _ hm228 trivial (by rw [if_pos (by omega)]; exact hz228)
      refine V.sub [3, 4, 2, 1, 0] rfl ?_
      exact L208 _ 0 0 part _ hm2 (Nat.lt_succ_self _) (by omega) rfl
    rcases Classical.em (w = 8) with k30_8 | k30_8
    · refine r_tsw 8 245 S dX11_day_30 k30_8 (by decide) rfl (by decide) ?_
      refine r_aload_n S dX11_day_245 2 rfl ?_
      refine m_get_rd S hm2 gtX11_56_X11 dX11_day_246 ?_
      exact ret.ti rd dX11_day_249 (by omega) (by omega) (mEnd.m0 (by unfold sDay; rw [if_neg (by omega), if_neg (by omega), if_neg (by omega), if_neg (by omega), if_neg (by omega), if_neg (by omega), if_neg (by omega), if_neg (by omega), if_neg (by omega), if_pos (by omega)]) ⟨_, _, _, _, _, hm2, hkp⟩)
    refine r_tswD 250 S dX11_day_30 (by omega) (by omega) (by decide) ?_
    refine r_aload_n S dX11_day_250 2 rfl ?_
    refine m_get_km S hm2 gtX11_34_X11 dX11_day_251 ?_
    exact ret.ti km dX11_day_254 (by omega) (by omega) (mEnd.m0 (by unfold sDay; rw [if_neg (by omega), if_neg (by omega), if_neg (by omega), if_neg (by omega), if_neg (by omega), if_neg (by omega), if_neg (by omega), if_neg (by omega), if_neg (by omega), if_neg (by omega)]) ⟨_, _, _, _, _, hm2, hkp⟩)
  · skip
    replace hc9 := zz0 hc9 c12
    refine r_bipush S dX11_day_15 (by decide) ?_
    exact ret.ti (-3) dX11_day_17 (by omega) (by omega) (mEnd.m0 (by unfold sDay; rw [if_pos (by omega)]) ⟨_, _, _, _, _, hm2, hkp⟩)
