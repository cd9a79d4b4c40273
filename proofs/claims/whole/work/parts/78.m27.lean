set_option maxRecDepth 20000 in
set_option maxHeartbeats 2000000 in
theorem kX9_lastGrams {D : va_G} {Nm : Nat → Prop} {G : gh} {now : Int → Int} {w : Int} {a : Nat} (hwy : wyO D Nm G now w a) (hok : mOK now) (hw : 0 ≤ w ∧ w < 6) : CP ⟨"PostageCounter$Way", "lastGrams", "()I"⟩ prog_11_method_2_code 1 (some .int) 0 0 D [.ref a] G (pI (fun z => z = if now (1180 + w) = 0 then 0 else now (1186 + 8 * w + (now (1180 + w) - 1)))) := by
  refine CP.enter (by decide +kernel) (Nat.le_of_ble_eq_true rfl) (fun F S ret => ?_)
  show V F 1 G 0 0 0 [(0, .ref a)] []
  obtain ⟨ga, ra, gf, rf, h1, hga, hra, hgr⟩ := hwy
  have hW := hok.2.2.2.2.1 w hw.1 hw.2
  refine r_aload_n S dX9_lastGrams_0 0 rfl ?_
  refine r_get S gtX9_15_X9 h1.1 rfl dX9_lastGrams_1 ?_
  refine r_if_ne S 11 dX9_lastGrams_4 (by decide) (by omega) (fun c4 => ?_) (fun c4 => ?_)
  · skip
    refine r_aload_n S dX9_lastGrams_11 0 rfl ?_
    refine r_get S gtX9_21_X9 h1.1 rfl dX9_lastGrams_12 ?_
    refine r_aload_n S dX9_lastGrams_15 0 rfl ?_
    refine r_get S gtX9_15_X9 h1.1 rfl dX9_lastGrams_16 ?_
    refine r_iconst S dX9_lastGrams_19 ?_
    refine r_isub_e (now (1180 + w) - 1) (by omega) S dX9_lastGrams_20 ?_
    refine r_iald S hga.1 (by omega) (by omega) (by omega) dX9_lastGrams_21 ?_
    exact ret.i (gf (now (1180 + w) - 1)) dX9_lastGrams_22 (by rw [if_neg (by omega)]; rw [(hgr (now (1180 + w) - 1) (by omega) (by omega)).1])
  · skip
    refine r_iconst S dX9_lastGrams_7 ?_
    refine r_goto S 22 dX9_lastGrams_8 (by decide) ?_
    exact ret.i 0 dX9_lastGrams_22 (by rw [if_pos (by omega)])

set_option maxRecDepth 20000 in
set_option maxHeartbeats 2000000 in
theorem kX9_lastPrice {D : va_G} {Nm : Nat → Prop} {G : gh} {now : Int → Int} {w : Int} {a : Nat} (hwy : wyO D Nm G now w a) (hok : mOK now) (hw : 0 ≤ w ∧ w < 6) : CP ⟨"PostageCounter$Way", "lastPrice", "()I"⟩ prog_11_method_3_code 1 (some .int) 0 0 D [.ref a] G (pI (fun z => z = if now (1180 + w) = 0 then 0 else now (1234 + 8 * w + (now (1180 + w) - 1)))) := by
  refine CP.enter (by decide +kernel) (Nat.le_of_ble_eq_true rfl) (fun F S ret => ?_)
  show V F 1 G 0 0 0 [(0, .ref a)] []
  obtain ⟨ga, ra, gf, rf, h1, hga, hra, hgr⟩ := hwy
  have hW := hok.2.2.2.2.1 w hw.1 hw.2
  refine r_aload_n S dX9_lastPrice_0 0 rfl ?_
  refine r_get S gtX9_15_X9 h1.1 rfl dX9_lastPrice_1 ?_
  refine r_if_ne S 11 dX9_lastPrice_4 (by decide) (by omega) (fun c4 => ?_) (fun c4 => ?_)
  · skip
    refine r_aload_n S dX9_lastPrice_11 0 rfl ?_
    refine r_get S gtX9_25_X9 h1.1 rfl dX9_lastPrice_12 ?_
    refine r_aload_n S dX9_lastPrice_15 0 rfl ?_
    refine r_get S gtX9_15_X9 h1.1 rfl dX9_lastPrice_16 ?_
    refine r_iconst S dX9_lastPrice_19 ?_
    refine r_isub_e (now (1180 + w) - 1) (by omega) S dX9_lastPrice_20 ?_
    refine r_iald S hra.1 (by omega) (by omega) (by omega) dX9_lastPrice_21 ?_
    exact ret.i (rf (now (1180 + w) - 1)) dX9_lastPrice_22 (by rw [if_neg (by omega)]; rw [(hgr (now (1180 + w) - 1) (by omega) (by omega)).2])
  · skip
    refine r_iconst S dX9_lastPrice_7 ?_
    refine r_goto S 22 dX9_lastPrice_8 (by decide) ?_
    exact ret.i 0 dX9_lastPrice_22 (by rw [if_pos (by omega)])

set_option maxRecDepth 20000 in
set_option maxHeartbeats 2000000 in
theorem kX9_withStep {D : va_G} {Nm : Nat → Prop} {G : gh} {now : Int → Int} {w : Int} {a : Nat} (hwy : wyO D Nm G now w a) (hok : mOK now) (hw : 0 ≤ w ∧ w < 6) (hN : Nok Nm G) {now' : Int → Int} {g pr : Int} (h8 : now (1180 + w) < 8) (h0 : now' (1180 + w) = 1 + now (1180 + w)) (hg : now' (1186 + 8 * w + now (1180 + w)) = g) (hpr : now' (1234 + 8 * w + now (1180 + w)) = pr) (hsm : ∀ k : Int, 0 ≤ k → k < now (1180 + w) → now' (1186 + 8 * w + k) = now (1186 + 8 * w + k) ∧ now' (1234 + 8 * w + k) = now (1234 + 8 * w + k)) : CT ⟨"PostageCounter$Way", "withStep", "(II)LPostageCounter$Way;"⟩ prog_11_method_4_code 6 (some (.object "PostageCounter$Way")) 2 43 3 20 D [.ref a, .int (iI g), .int (iI pr)] G ((fun _ => False)) (tR (fun b G' => wyO D Nm G' now' w b)) := by
  refine CT.enter (by decide +kernel) (Nat.le_of_ble_eq_true rfl) (fun F S ret hb hM hI => ?_)
  show V F 6 G 0 0 0 [(0, .ref a), (1, .int (iI g)), (2, .int (iI pr))] []
  obtain ⟨ga, ra, gf, rf, h1, hga, hra, hgr⟩ := hwy
  have hW := hok.2.2.2.2.1 w hw.1 hw.2
  refine r_aload_n S dX9_withStep_0 0 rfl ?_
  refine r_get S gtX9_15_X9 h1.1 rfl dX9_withStep_1 ?_
  refine r_iconst S dX9_withStep_4 ?_
  refine r_iadd_e (1 + now (1180 + w)) (by omega) S dX9_withStep_5 ?_
  refine r_newI S hb w75 (by omega) (by omega) (by show _ ≤ 3; omega) (by show _ ≤ 20; omega) dX9_withStep_6 (fun a6 hn6 hw6 => ?_)
  refine k_new hn6 (fun G6 hl6 hc6 => ?_)
  have hz6 := hn6
  have hle6 := hl6
  refine r_astore_n (L' := [(3, .ref a6), (0, .ref a), (1, .int (iI g)), (2, .int (iI pr))]) S dX9_withStep_8 (by decide) rfl ?_
  refine r_aload_n S dX9_withStep_9 1 rfl ?_
  refine r_get S gtX9_15_X9 (hle6 _ _ h1.1) rfl dX9_withStep_10 ?_
  refine r_iconst S dX9_withStep_13 ?_
  refine r_iadd_e (1 + now (1180 + w)) (by omega) S dX9_withStep_14 ?_
  refine r_newI S hb w75 (by omega) (by omega) (by show _ ≤ 3; omega) (by show _ ≤ 20; omega) dX9_withStep_15 (fun a15 hn15 hw15 => ?_)
  refine k_new hn15 (fun G15 hl15 hc15 => ?_)
  have hz15 := hle6.non hn15
  have hle15 := hle6.tr hl15
  have ne_a6_a15 : a6 ≠ a15 := gLe.ne hn15 hc6
  refine r_astore (L' := [(4, .ref a15), (3, .ref a6), (0, .ref a), (1, .int (iI g)), (2, .int (iI pr))]) S dX9_withStep_17 (by decide) rfl ?_
  refine r_iconst S dX9_withStep_19 ?_
  refine r_istore (L' := [(5, .int (iI 0)), (4, .ref a15), (3, .ref a6), (0, .ref a), (1, .int (iI g)), (2, .int (iI pr))]) S dX9_withStep_20 (by decide) rfl ?_
  have L22 : ∀ (N : Nat) (Gk : gh) (f : Int → Int) (h : Int → Int) (i : Int), (now (1180 + w) - i).toNat < N → (gLe G Gk) → (Gk a6 = some (eI D (1 + now (1180 + w)).toNat f)) → (Gk a15 = some (eI D (1 + now (1180 + w)).toNat h)) → (0 ≤ i ∧ i ≤ now (1180 + w)) → (∀ j : Int, 0 ≤ j → j < i → f j = gf j ∧ h j = rf j) → V F 6 Gk 2 ((1 + now (1180 + w)).toNat + (1 + now (1180 + w)).toNat) 22 [(0, .ref a), (1, .int (iI g)), (2, .int (iI pr)), (3, .ref a6), (4, .ref a15), (5, .int (iI i))] [] := by
    intro N
    induction N with
    | zero => intro Gk f h i hN; exact absurd hN (Nat.not_lt_zero _)
    | succ N ih22 =>
      intro Gk f h i hN22 hle har har2 hi hf
      refine r_iload S dX9_withStep_22 5 rfl ?_
      refine r_aload_n S dX9_withStep_24 0 rfl ?_
      refine r_get S gtX9_15_X9 (hle _ _ h1.1) rfl dX9_withStep_25 ?_
      refine r_icmp_ge S 60 dX9_withStep_28 (by decide) (by omega) (by omega) (fun c28 => ?_) (fun c28 => ?_)
      · skip
        have hi2 : i = now (1180 + w) := by omega
        refine r_aload_n S dX9_withStep_60 3 rfl ?_
        refine r_aload_n S dX9_withStep_61 0 rfl ?_
        refine r_get S gtX9_15_X9 (hle _ _ h1.1) rfl dX9_withStep_62 ?_
        refine r_iload_n S dX9_withStep_65 1 rfl ?_
        refine r_iast S hb har hw6 (by omega) (by omega) (by omega) dX9_withStep_66 ?_
        refine k_upd hle hz6 (fun G66 hle66 ho66 hc66 => ?_)
        refine r_aload S dX9_withStep_67 4 rfl ?_
        refine r_aload_n S dX9_withStep_69 0 rfl ?_
        refine r_get S gtX9_15_X9 (hle66 _ _ h1.1) rfl dX9_withStep_70 ?_
        refine r_iload_n S dX9_withStep_73 2 rfl ?_
        refine r_iast S hb (ho66 _ _ (Ne.symm ne_a6_a15) har2) hw15 (by omega) (by omega) (by omega) dX9_withStep_74 ?_
        refine k_upd hle66 hz15 (fun G74 hle74 ho74 hc74 => ?_)
        refine r_new S hb nwX9_16 (by show _ ≤ 3; omega) (by show _ ≤ 20; omega) dX9_withStep_75 (fun a75 hn75 hw75 => ?_)
        refine k_new hn75 (fun G75 hl75 hc75 => ?_)
        have hz75 := hle74.non hn75
        have hle75 := hle74.tr hl75
        have ne_a6_a75 : a6 ≠ a75 := gLe.ne hn75 (ho74 _ _ ne_a6_a15 hc66)
        have ne_a15_a75 : a15 ≠ a75 := gLe.ne hn75 hc74
        refine r_dup S dX9_withStep_78 ?_
        refine r_aload_n S dX9_withStep_79 3 rfl ?_
        refine r_aload S dX9_withStep_80 4 rfl ?_
        refine (c_I_T (As := [.ref a6, .ref a15]) (st := [.ref a75]) (M1 := fun x => x = a75) S (kX9_init (m0 := (1 + now (1180 + w)).toNat) hc75 (hl75 _ _ (ho74 _ _ ne_a6_a15 hc66)) (hl75 _ _ hc74) (by omega)) moX9_init ⟨by decide, by decide⟩ ⟨(by show _ ≤ 3; omega), (by show _ ≤ 20; omega)⟩ rfl (Nat.le_of_ble_eq_true rfl) w448 w83 rfl rfl dX9_withStep_82).goV S hb (fun x e => e ▸ hw75) (fun G82 hx82 hc82 => ?_)
        have hle82 := gLe.one hle75 hz75 hx82
        exact ret.tr (by first | exact Or.inl ⟨_, rfl⟩ | exact Or.inr ⟨_, rfl⟩) a75 dX9_withStep_85 (by omega) (by omega) ⟨a6, a15, _, _, ⟨by rw [h0, show (1 + now (1180 + w) : Int) = ((1 + now (1180 + w)).toNat : Int) by omega]; exact hc82, hN.new hz75⟩, ⟨by rw [h0]; exact (hx82 _ _ (hl75 _ _ (ho74 _ _ ne_a6_a15 hc66)) ne_a6_a75), hN.new hz6⟩, ⟨by rw [h0]; exact (hx82 _ _ (hl75 _ _ hc74) ne_a15_a75), hN.new hz15⟩, fun k k0 k1 => by by_cases e : k = now (1180 + w); rw [e, upI_s, upI_s]; exact ⟨hg.symm, hpr.symm⟩; rw [upI_n e, upI_n e, (hf k k0 (by omega)).1, (hf k k0 (by omega)).2, (hsm k k0 (by omega)).1, (hsm k k0 (by omega)).2]; exact hgr k k0 (by omega)⟩
      · skip
        refine r_aload_n S dX9_withStep_31 3 rfl ?_
        refine r_iload S dX9_withStep_32 5 rfl ?_
        refine r_aload_n S dX9_withStep_34 0 rfl ?_
        refine r_get S gtX9_21_X9 (hle _ _ h1.1) rfl dX9_withStep_35 ?_
        refine r_iload S dX9_withStep_38 5 rfl ?_
        refine r_iald S (hle _ _ hga.1) (by omega) (by omega) (by omega) dX9_withStep_40 ?_
        refine r_iast S hb har hw6 (by omega) (by omega) (by omega) dX9_withStep_41 ?_
        refine k_upd hle hz6 (fun G41 hle41 ho41 hc41 => ?_)
        refine r_aload S dX9_withStep_42 4 rfl ?_
        refine r_iload S dX9_withStep_44 5 rfl ?_
        refine r_aload_n S dX9_withStep_46 0 rfl ?_
        refine r_get S gtX9_25_X9 (hle41 _ _ h1.1) rfl dX9_withStep_47 ?_
        refine r_iload S dX9_withStep_50 5 rfl ?_
        refine r_iald S (hle41 _ _ hra.1) (by omega) (by omega) (by omega) dX9_withStep_52 ?_
        refine r_iast S hb (ho41 _ _ (Ne.symm ne_a6_a15) har2) hw15 (by omega) (by omega) (by omega) dX9_withStep_53 ?_
        refine k_upd hle41 hz15 (fun G53 hle53 ho53 hc53 => ?_)
        refine r_iinc_e (L' := [(5, .int (iI (1 + i))), (0, .ref a), (1, .int (iI g)), (2, .int (iI pr)), (3, .ref a6), (4, .ref a15)]) (1 + i) (by omega) S dX9_withStep_54 5 rfl (by decide) rfl ?_
        refine r_goto S 22 dX9_withStep_57 (by decide) ?_
        refine V.widen (ce' := 2) (sl' := ((1 + now (1180 + w)).toNat + (1 + now (1180 + w)).toNat)) (by omega) (by omega) ?_
        refine V.sub [1, 2, 3, 4, 5, 0] rfl ?_
        exact ih22 G53 (upI f i (gf i)) (upI h i (rf i)) (1 + i) (by omega) hle53 (ho53 _ _ ne_a6_a15 hc41) hc53 (by omega) (fun j j0 j1 => by by_cases e : j = i; rw [e, upI_s, upI_s]; exact ⟨rfl, rfl⟩; rw [upI_n e, upI_n e]; exact hf j j0 (by omega))
  refine V.widen (ce' := 2) (sl' := ((1 + now (1180 + w)).toNat + (1 + now (1180 + w)).toNat)) (by omega) (by omega) ?_
  refine V.sub [3, 4, 5, 2, 1, 0] rfl ?_
  exact L22 _ G15 (fun _ => 0) (fun _ => 0) 0 (Nat.lt_succ_self _) hle15 (hl15 _ _ hc6) hc15 (by omega) (fun j j0 j1 => by omega)
