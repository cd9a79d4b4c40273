/-! THE CLAIM OUT OF ONE WALK OF THE LAW'S BODY. Your part is whole_start (and what it stands on); all else here is the same for every law, but numbers. -/
def R_law : String := "PostageCounterLaw"
def lw_P (b : Addr) (xs : List Int32) (args : Array Value) (s : State) : Prop := args = #[.ref b] ∧ s.IntsAt b xs ∧ xs.length ≤ 3072 ∧ (Jvm.Cond.and given_1 narrow_1).before args s = true
def lw_Q (_ : Array Value) (s : State) (o : Outcome) (t : State) : Prop := o = .returned (some (.int 1)) ∧ Framed s o t [] 600000 7302250
def lw_Z (below : List Frame) (a : Array Value) (s : State) : State → Prop := fun t => ∃ o, t.status = .running ∧ Ended t below o ∧ lw_Q a s o t
/-- the law's own end, with 1 on the stack, nothing written that was there before, its room as the claim has it -/
theorem lw_ret {p : Program} {l : Launch} {e : Env} {s : State} {m : MethodId} {below : List Frame} {meth : Method} {c : Code} {b : Nat} (hx : p.tables.exec = Jvm.exec) (hb : c.code = code) (hr : meth.sig.returnType = ret) (hlocks : meth.locks = false) {pc : Nat} {H : Heap} {ls : Array Slot} (hdg : decode code pc = .ok (.ireturn, 1)) : W p l e room_1 s m #[Value.ref b] below meth c H [] 600000 7302250 (lw_Z below #[Value.ref b] s) (F0 m pc ls [.int 1]) := by
  intro T hT X
  obtain ⟨fs, hret, hrun, hended, hW, hframe⟩ := X.leave (v := some (.int 1)) (hlocks := hlocks) (fun h => by rw [hr] at h; cases h)
  have hmeth' : T.vm.method? m = some meth := X.method'
  refine ⟨T.setFrames fs, ?_, .returned (some (.int 1)), hrun, hended, rfl, ⟨_, rfl⟩, hW, hframe⟩
  jvm_step X.here [X.here.top, hx, hb, hdg, hmeth', hr, ret, narrow_b1]
  (try refine ⟨rfl, ?_⟩); (try refine ⟨rfl, ?_⟩)
  first | (intro acts; rw [hret _ acts rfl rfl rfl]) | rw [hret _ _ rfl rfl rfl]
  exact Steps.refl _
/-- what holds at the law's entry: the machine, the code, the tables' words (any of lw_tbl by 'hts w (by decide +kernel)'), the script of L ints xs at the cell b, what the Statement gives of the start (any of its parts by flat_of_before) -/
def lw_At (p : Program) (s : State) (m : MethodId) (meth : Method) (c : Code) (b L : Nat) (xs : Nat → Int32) : Prop :=
  p.tables.exec = Jvm.exec ∧ c.code = code ∧ meth.sig.returnType = ret ∧ c.maxLocals = 4 ∧ s.vm.findClass R_law = some m.cls ∧ (∀ w ∈ lw_tbl, w.before #[Value.ref b] s = true) ∧ va_X b L xs s s.heap ∧ b < s.heap.size ∧ meth.locks = false ∧ (Jvm.Cond.and given_1 narrow_1).before #[Value.ref b] s = true

theorem tbW {w : Cond} (h : w ∈ WS) : w ∈ lw_tbl := (List.mem_filter.mp h).1
/-- the classes and their fields, the array classes, what can be cast: out of the tables and what the start gives -/
theorem KK_start {p : Program} {s : State} {m : MethodId} {meth : Method} {c : Code} {b L : Nat} {xs : Nat → Int32} (C0 : lw_At p s m meth c b L xs) : ∃ D : va_G, KK D s := by
  obtain ⟨hx, hb, hr, hml, hown, hts, hX, hbl, hlocks, hgv⟩ := C0
  have hW : ∀ w ∈ WS, w.before #[Value.ref b] s = true := fun w h => hts w (tbW h)
  obtain ⟨c0, i0, k0⟩ := u_known (C := RX0) (T := TX0) (N := 8) (n := 8) hW uw0 (hts _ (tbW w300))
  obtain ⟨c1, i1, k1⟩ := u_known (C := RX1) (T := TX1) (N := 2) (n := 2) hW uw1 (hts _ (tbW w61))
  obtain ⟨c2, i2, k2⟩ := u_known (C := RX2) (T := TX2) (N := 2) (n := 2) hW uw2 (hts _ (tbW w490))
  obtain ⟨c3, i3, k3⟩ := u_known (C := RX3) (T := TX3) (N := 3) (n := 3) hW uw3 (hts _ (tbW w210))
  obtain ⟨c4, i4, k4⟩ := u_known (C := RX4) (T := TX4) (N := 8) (n := 8) hW uw4 (hts _ (tbW w255))
  obtain ⟨c5, i5, k5⟩ := u_known (C := RX5) (T := TX5) (N := 4) (n := 4) hW uw5 (hts _ (tbW w575))
  obtain ⟨c6, i6, k6⟩ := u_known (C := RX6) (T := TX6) (N := 2) (n := 2) hW uw6 (hts _ (tbW w160))
  obtain ⟨c7, i7, k7⟩ := u_known (C := RX7) (T := TX7) (N := 4) (n := 4) hW uw7 (hts _ (tbW w101))
  obtain ⟨c8, i8, k8⟩ := u_known (C := RX8) (T := TX8) (N := 3) (n := 3) hW uw8 (hts _ (tbW w231))
  obtain ⟨c9, i9, k9⟩ := u_known (C := RX9) (T := TX9) (N := 3) (n := 3) hW uw9 (hts _ (tbW w81))
  obtain ⟨c10, i10, k10⟩ := u_known (C := RX10) (T := TX10) (N := 6) (n := 6) hW uw10 (hts _ (tbW w53))
  obtain ⟨c11, i11, k11⟩ := u_known (C := RX11) (T := TX11) (N := 9) (n := 9) hW uw11 (hts _ (tbW w753))
  obtain ⟨a0, ka0, q0, f0, g0, e0⟩ := Cond.arrayClass_spec (hts _ (tbW w75))
  obtain ⟨a1, ka1, q1, f1, g1, e1⟩ := Cond.arrayClass_spec (hts _ (tbW w642))
  obtain ⟨q2, a2, ka2, n2, -, g2, e2, f2⟩ := Cond.arrayOver_spec (hts _ w103)
  obtain ⟨q3, a3, ka3, n3, -, g3, e3, f3⟩ := Cond.arrayOver_spec (hts _ w105)
  obtain ⟨q4, a4, ka4, n4, -, g4, e4, f4⟩ := Cond.arrayOver_spec (hts _ w80)
  obtain ⟨q5, a5, ka5, n5, -, g5, e5, f5⟩ := Cond.arrayOver_spec (hts _ w127)
  obtain ⟨q6, a6, ka6, n6, -, g6, e6, f6⟩ := arrayOverA_spec (hts _ w67)
  have hq6 : q6 = a0 := Option.some.inj (n6.symm.trans f0)
  refine ⟨(fun k => if k = 0 then c0 else if k = 1 then c1 else if k = 2 then c2 else if k = 3 then c3 else if k = 4 then c4 else if k = 5 then c5 else if k = 6 then c6 else if k = 7 then c7 else if k = 8 then c8 else if k = 9 then c9 else if k = 10 then c10 else if k = 11 then c11 else if k = 100 then a0 else if k = 101 then a1 else if k = 102 then a2 else if k = 103 then a3 else if k = 104 then a4 else if k = 105 then a5 else a6, fun k => if k = 0 then i0 else if k = 1 then i1 else if k = 2 then i2 else if k = 3 then i3 else if k = 4 then i4 else if k = 5 then i5 else if k = 6 then i6 else if k = 7 then i7 else if k = 8 then i8 else if k = 9 then i9 else if k = 10 then i10 else i11), ⟨fun k q hq => ?_, fun k q hq => ?_⟩, ?_, ?_, ?_, ?_, ?_⟩
  · match k, hq with
    | 0, hq => cases hq; exact k0
    | 1, hq => cases hq; exact k1
    | 2, hq => cases hq; exact k2
    | 3, hq => cases hq; exact k3
    | 4, hq => cases hq; exact k4
    | 5, hq => cases hq; exact k5
    | 6, hq => cases hq; exact k6
    | 7, hq => cases hq; exact k7
    | 8, hq => cases hq; exact k8
    | 9, hq => cases hq; exact k9
    | 10, hq => cases hq; exact k10
    | 11, hq => cases hq; exact k11
    | k + 12, hq => simp [clX] at hq
  · match k, hq with
    | 0, hq => cases hq; exact ⟨fun n z => ⟨fun k h => (by cases h), ka0, g0, q0, e0⟩, f0⟩
    | 1, hq => cases hq; exact ⟨fun n z => ⟨fun k h => (by cases h), ka1, g1, q1, e1⟩, f1⟩
    | 2, hq => cases hq; exact ⟨fun n z => ⟨fun k h => (by cases h), ka2, g2, q2, e2⟩, ka2, q2, g2, e2, n2, f2⟩
    | 3, hq => cases hq; exact ⟨fun n z => ⟨fun k h => (by cases h), ka3, g3, q3, e3⟩, ka3, q3, g3, e3, n3, f3⟩
    | 4, hq => cases hq; exact ⟨fun n z => ⟨fun k h => (by cases h), ka4, g4, q4, e4⟩, ka4, q4, g4, e4, n4, f4⟩
    | 5, hq => cases hq; exact ⟨fun n z => ⟨fun k h => (by cases h), ka5, g5, q5, e5⟩, ka5, q5, g5, e5, n5, f5⟩
    | 6, hq => cases hq; exact ⟨fun n z => ⟨fun k h => (by cases h), ka6, g6, q6, e6⟩, f6⟩
    | k + 7, hq => simp [tyD] at hq
  · exact List.forall_mem_cons.mpr ⟨va_Nw.of rfl (hts _ w992), List.forall_mem_cons.mpr ⟨va_Nw.of rfl (hts _ w989), List.forall_mem_cons.mpr ⟨va_Nw.of rfl (hts _ w988), List.forall_mem_cons.mpr ⟨va_Nw.of rfl (hts _ w991), List.forall_mem_cons.mpr ⟨va_Nw.of rfl (hts _ w990), List.forall_mem_cons.mpr ⟨va_Nw.of rfl (hts _ w237), fun _ h => absurd h List.not_mem_nil⟩⟩⟩⟩⟩⟩
  · exact List.forall_mem_cons.mpr ⟨va_Nw.of rfl (hts _ w62), List.forall_mem_cons.mpr ⟨va_Nw.of rfl (hts _ w321), List.forall_mem_cons.mpr ⟨va_Nw.of rfl (hts _ w568), List.forall_mem_cons.mpr ⟨va_Nw.of rfl (hts _ w369), List.forall_mem_cons.mpr ⟨va_Nw.of rfl (hts _ w353), fun _ h => absurd h List.not_mem_nil⟩⟩⟩⟩⟩
  · have hg := flat_of_before _ hgv
    exact List.forall_mem_cons.mpr ⟨va_Nc.of (hg (.not (.castable "PostageCounter$Plain" "PostageCounter$Strip")) (by decide +kernel)), List.forall_mem_cons.mpr ⟨va_Nc.of (hg (.not (.castable "PostageCounter$Over" "PostageCounter$Strip")) (by decide +kernel)), List.forall_mem_cons.mpr ⟨va_Nc.of (hg (.not (.castable "PostageCounter$Block" "PostageCounter$Strip")) (by decide +kernel)), List.forall_mem_cons.mpr ⟨va_Nc.of (hg (.not (.castable "PostageCounter$Pair" "PostageCounter$Strip")) (by decide +kernel)), List.forall_mem_cons.mpr ⟨va_Nc.of (hg (.not (.castable "PostageCounter$Plain" "PostageCounter$Block")) (by decide +kernel)), List.forall_mem_cons.mpr ⟨va_Nc.of (hg (.not (.castable "PostageCounter$Over" "PostageCounter$Block")) (by decide +kernel)), List.forall_mem_cons.mpr ⟨va_Nc.of (hg (.not (.castable "PostageCounter$Strip" "PostageCounter$Block")) (by decide +kernel)), List.forall_mem_cons.mpr ⟨va_Nc.of (hg (.not (.castable "PostageCounter$Plain" "PostageCounter$Pair")) (by decide +kernel)), List.forall_mem_cons.mpr ⟨va_Nc.of (hg (.not (.castable "PostageCounter$Over" "PostageCounter$Pair")) (by decide +kernel)), List.forall_mem_cons.mpr ⟨va_Nc.of (hg (.not (.castable "PostageCounter$Strip" "PostageCounter$Pair")) (by decide +kernel)), List.forall_mem_cons.mpr ⟨va_Nc.of (hg (.not (.castable "PostageCounter$Block" "PostageCounter$Pair")) (by decide +kernel)), List.forall_mem_cons.mpr ⟨va_Nc.of (hg (.not (.castable "PostageCounter$Plain" "PostageCounter$Over")) (by decide +kernel)), List.forall_mem_cons.mpr ⟨va_Nc.of (hg (.not (.castable "PostageCounter$Strip" "PostageCounter$Over")) (by decide +kernel)), List.forall_mem_cons.mpr ⟨va_Nc.of (hg (.not (.castable "PostageCounter$Block" "PostageCounter$Over")) (by decide +kernel)), List.forall_mem_cons.mpr ⟨va_Nc.of (hg (.not (.castable "PostageCounter$Pair" "PostageCounter$Over")) (by decide +kernel)), fun _ h => absurd h List.not_mem_nil⟩⟩⟩⟩⟩⟩⟩⟩⟩⟩⟩⟩⟩⟩⟩
  · exact List.forall_mem_cons.mpr ⟨va_AO.of (hts _ w103), List.forall_mem_cons.mpr ⟨va_AO.of (hts _ w105), List.forall_mem_cons.mpr ⟨va_AO.of (hts _ w80), List.forall_mem_cons.mpr ⟨va_AO.of (hts _ w127), fun _ h => absurd h List.not_mem_nil⟩⟩⟩⟩
  · exact ⟨ka6, g6, by rw [e6, hq6]; rfl⟩
theorem nwL_7 : NewOK "PostageCounterLaw" 7 10 6 [.null, .null, .int 0, .null, .null, .int 0] := ⟨RX10, TX10, tyX10, rfl, uw10, w52, w53, w38, tyX10_ok, by decide⟩
theorem nwL_10 : NewOK "PostageCounterLaw" 10 11 9 [.int 0, .null, .null, .int 0, .int 0, .null, .int 0, .null, .null] := ⟨RX11, TX11, tyX11, rfl, uw11, w752, w753, w43, tyX11_ok, by decide⟩
set_option maxRecDepth 20000 in
set_option maxHeartbeats 4000000 in
theorem lw_loop {F : fxT} {D : va_G} {A B : Nat → Nat} {b L : Nat} {xs : Nat → Int32} (S : FX F code 4 "PostageCounterLaw" room_1 D) (hb : fMut F) (hX : scX F b L xs) (hL : L ≤ 3072) (hwB : ∀ x, cM B x → wr F x) (hwA : ∀ x, mM A x → wr F x) (ha : apB B A) (hend : ∀ (G : gh) (ce sl : Nat) (Lc : List (Nat × Value)), ce ≤ 600000 → sl ≤ 7302250 → V F 4 G ce sl 930 Lc [.int (iI 1)]) : ∀ (N : Nat) (i : Int) (G : gh), ((L : Int) - i).toNat < N → lwS D B A G → 0 ≤ i → i ≤ L → V F 4 G (100 + 20 * i.toNat) (200000 + 60 * i.toNat) 18 [(3, .int (iI i)), (2, .ref (A 0)), (1, .ref (B 0)), (0, .ref b)] [] := by
  intro N
  induction N with
  | zero => intro i G hN; exact absurd hN (Nat.not_lt_zero _)
  | succ N ih =>
    intro i G hN hI h0 hiL
    refine r_iload_n S dL_law_18 0 rfl ?_
    refine r_aload_n S dL_law_19 3 rfl ?_
    refine r_slen hX hb S dL_law_20 ?_
    refine r_bipush S dL_law_21 (by decide) ?_
    refine r_isub S dL_law_23 ?_
    refine r_icmp_gt S 929 dL_law_24 (by decide) (by omega) (by omega) (fun c24 => ?_) (fun c24 => ?_)
    · refine r_iconst S dL_law_929 ?_
      exact hend _ _ _ _ (by omega) (by omega)
    · have K : ∀ Gk : gh, lwS D B A Gk → V F 4 Gk (100 + 20 * i.toNat + 120) (200000 + 60 * i.toNat + 360) 923 [(3, .int (iI i)), (2, .ref (A 0)), (1, .ref (B 0)), (0, .ref b)] [] := fun Gk hk => by
        refine r_iinc (L' := [(3, .int (iI (i + 6))), (2, .ref (A 0)), (1, .ref (B 0)), (0, .ref b)]) S dL_law_923 0 rfl (by decide) rfl ?_
        refine r_goto S 18 dL_law_926 (by decide) ?_
        have h := ih (i + 6) Gk (by omega) hk (by omega) (by omega)
        rw [show 100 + 20 * (i + 6).toNat = 100 + 20 * i.toNat + 120 by omega, show 200000 + 60 * (i + 6).toNat = 200000 + 60 * i.toNat + 360 by omega] at h
        exact h
      refine r_aload_n S dL_law_27 3 rfl ?_
      refine r_iload_n S dL_law_28 0 rfl ?_
      refine r_sld hX hb hL S (by omega) (by omega) dL_law_29 ?_
      refine r_bipush S dL_law_30 (by decide) ?_
      refine r_iand S dL_law_32 (fun z hz ez => ?_)
      rcases Classical.em (z = 0) with q0 | q0
      · refine r_tsw 0 140 S dL_law_33 q0 (by decide) rfl (by decide) ?_
        exact lc_0 S hb hX hL hwB hwA ha hI h0 (by omega) (by omega) (by omega) K
      rcases Classical.em (z = 1) with q1 | q1
      · refine r_tsw 1 183 S dL_law_33 q1 (by decide) rfl (by decide) ?_
        exact lc_1 S hb hX hL hwB hwA ha hI h0 (by omega) (by omega) (by omega) K
      rcases Classical.em (z = 2) with q2 | q2
      · refine r_tsw 2 236 S dL_law_33 q2 (by decide) rfl (by decide) ?_
        exact lc_2 S hb hX hL hwB hwA ha hI h0 (by omega) (by omega) (by omega) K
      rcases Classical.em (z = 3) with q3 | q3
      · refine r_tsw 3 259 S dL_law_33 q3 (by decide) rfl (by decide) ?_
        exact lc_3 S hb hX hL hwB hwA ha hI h0 (by omega) (by omega) (by omega) K
      rcases Classical.em (z = 4) with q4 | q4
      · refine r_tsw 4 282 S dL_law_33 q4 (by decide) rfl (by decide) ?_
        exact lc_4 S hb hX hL hwB hwA ha hI h0 (by omega) (by omega) (by omega) K
      rcases Classical.em (z = 5) with q5 | q5
      · refine r_tsw 5 345 S dL_law_33 q5 (by decide) rfl (by decide) ?_
        exact lc_5 S hb hX hL hwB hwA ha hI h0 (by omega) (by omega) (by omega) K
      rcases Classical.em (z = 6) with q6 | q6
      · refine r_tsw 6 378 S dL_law_33 q6 (by decide) rfl (by decide) ?_
        exact lc_6 S hb hX hL hwB hwA ha hI h0 (by omega) (by omega) (by omega) K
      rcases Classical.em (z = 7) with q7 | q7
      · refine r_tsw 7 401 S dL_law_33 q7 (by decide) rfl (by decide) ?_
        exact lc_7 S hb hX hL hwB hwA ha hI h0 (by omega) (by omega) (by omega) K
      rcases Classical.em (z = 8) with q8 | q8
      · refine r_tsw 8 454 S dL_law_33 q8 (by decide) rfl (by decide) ?_
        exact lc_8 S hb hX hL hwB hwA ha hI h0 (by omega) (by omega) (by omega) K
      rcases Classical.em (z = 9) with q9 | q9
      · refine r_tsw 9 487 S dL_law_33 q9 (by decide) rfl (by decide) ?_
        exact lc_9 S hb hX hL hwB hwA ha hI h0 (by omega) (by omega) (by omega) K
      rcases Classical.em (z = 10) with q10 | q10
      · refine r_tsw 10 530 S dL_law_33 q10 (by decide) rfl (by decide) ?_
        exact lc_10 S hb hX hL hwB hwA ha hI h0 (by omega) (by omega) (by omega) K
      rcases Classical.em (z = 11) with q11 | q11
      · refine r_tsw 11 563 S dL_law_33 q11 (by decide) rfl (by decide) ?_
        exact lc_11 S hb hX hL hwB hwA ha hI h0 (by omega) (by omega) (by omega) K
      rcases Classical.em (z = 12) with q12 | q12
      · refine r_tsw 12 594 S dL_law_33 q12 (by decide) rfl (by decide) ?_
        exact lc_12 S hb hX hL hwB hwA ha hI h0 (by omega) (by omega) (by omega) K
      rcases Classical.em (z = 13) with q13 | q13
      · refine r_tsw 13 645 S dL_law_33 q13 (by decide) rfl (by decide) ?_
        exact lc_13 S hb hX hL hwB hwA ha hI h0 (by omega) (by omega) (by omega) K
      rcases Classical.em (z = 14) with q14 | q14
      · refine r_tsw 14 696 S dL_law_33 q14 (by decide) rfl (by decide) ?_
        exact lc_14 S hb hX hL hwB hwA ha hI h0 (by omega) (by omega) (by omega) K
      rcases Classical.em (z = 15) with q15 | q15
      · refine r_tsw 15 719 S dL_law_33 q15 (by decide) rfl (by decide) ?_
        exact lc_15 S hb hX hL hwB hwA ha hI h0 (by omega) (by omega) (by omega) K
      rcases Classical.em (z = 16) with q16 | q16
      · refine r_tsw 16 752 S dL_law_33 q16 (by decide) rfl (by decide) ?_
        exact lc_16 S hb hX hL hwB hwA ha hI h0 (by omega) (by omega) (by omega) K
      rcases Classical.em (z = 17) with q17 | q17
      · refine r_tsw 17 785 S dL_law_33 q17 (by decide) rfl (by decide) ?_
        exact lc_17 S hb hX hL hwB hwA ha hI h0 (by omega) (by omega) (by omega) K
      rcases Classical.em (z = 18) with q18 | q18
      · refine r_tsw 18 818 S dL_law_33 q18 (by decide) rfl (by decide) ?_
        exact lc_18 S hb hX hL hwB hwA ha hI h0 (by omega) (by omega) (by omega) K
      rcases Classical.em (z = 19) with q19 | q19
      · refine r_tsw 19 841 S dL_law_33 q19 (by decide) rfl (by decide) ?_
        exact lc_19 S hb hX hL hwB hwA ha hI h0 (by omega) (by omega) (by omega) K
      rcases Classical.em (z = 20) with q20 | q20
      · refine r_tsw 20 864 S dL_law_33 q20 (by decide) rfl (by decide) ?_
        exact lc_20 S hb hX hL hwB hwA ha hI h0 (by omega) (by omega) (by omega) K
      rcases Classical.em (z = 21) with q21 | q21
      · refine r_tsw 21 887 S dL_law_33 q21 (by decide) rfl (by decide) ?_
        exact lc_21 S hb hX hL hwB hwA ha hI h0 (by omega) (by omega) (by omega) K
      rcases Classical.em (z = 22) with q22 | q22
      · refine r_tsw 22 910 S dL_law_33 q22 (by decide) rfl (by decide) ?_
        exact lc_22 S hb hX hL hwB hwA ha hI h0 (by omega) (by omega) (by omega) K
      refine r_tswD 923 S dL_law_33 hz (by omega) (by decide) ?_
      exact V.widen (by omega) (by omega) (K G hI)
set_option maxRecDepth 20000 in
set_option maxHeartbeats 4000000 in
theorem lw_body {F : fxT} {D : va_G} {b L : Nat} {xs : Nat → Int32} (S : FX F code 4 "PostageCounterLaw" room_1 D) (hb : fMut F) (hX : scX F b L xs) (hL : L ≤ 3072) (hend : ∀ (G : gh) (ce sl : Nat) (Lc : List (Nat × Value)), ce ≤ 600000 → sl ≤ 7302250 → V F 4 G ce sl 930 Lc [.int (iI 1)]) (G : gh) : V F 4 G 0 0 0 [(0, .ref b)] [] := by
  refine r_newZ S hb nwL_7 (by show _ ≤ 600000; omega) (by show _ ≤ 7302250; omega) dL_law_0 (fun a0 h0 => ?_)
  refine k_new (h0 a0 (Nat.le_refl _)).1 (fun G0 hl0 hx0 => ?_)
  refine r_dup S dL_law_3 ?_
  refine (c_I_T (As := []) (st := [.ref a0]) (M1 := fun x => x = a0) S (kX10_init (hist := fun _ _ => 0) (reel := fun _ => 0) hx0) moX10_init ⟨by decide, by decide⟩ ⟨(by show _ ≤ 600000; omega), (by show _ ≤ 7302250; omega)⟩ rfl (Nat.le_of_ble_eq_true rfl) w54 w55 rfl rfl dL_law_4).goV S hb (fun x e => e ▸ (h0 a0 (Nat.le_refl _)).2) (fun G4 hx4 hc4 => ?_)
  obtain ⟨B, hB0, hBgt, hBN, hcq⟩ := hc4
  refine r_astore_n (L' := [(1, .ref a0), (0, .ref b)]) S dL_law_7 (by decide) rfl ?_
  refine r_newZ S hb nwL_10 (by show _ ≤ 600000; omega) (by show _ ≤ 7302250; omega) dL_law_8 (fun a1 h1 => ?_)
  refine k_new (h1 a1 (Nat.le_refl _)).1 (fun G8 hl8 hx8 => ?_)
  refine r_dup S dL_law_11 ?_
  refine (c_I_T (As := []) (st := [.ref a1]) (M1 := fun x => x = a1) S (kX11_init (hist := fun _ _ => 0) (reel0 := fun _ => 0) (fun _ => rfl) (by rw [iI_0]; exact hx8)) moX11_init ⟨by decide, by decide⟩ ⟨(by show _ ≤ 600000; omega), (by show _ ≤ 7302250; omega)⟩ rfl (Nat.le_of_ble_eq_true rfl) w754 w755 rfl rfl dL_law_12).goV S hb (fun x e => e ▸ (h1 a1 (Nat.le_refl _)).2) (fun G12 hx12 hc12 => ?_)
  obtain ⟨A, hA0, hAgt, hmq⟩ := hc12
  refine r_astore_n (L' := [(2, .ref a1), (1, .ref a0), (0, .ref b)]) S dL_law_15 (by decide) rfl ?_
  refine r_iconst S dL_law_16 ?_
  refine r_istore_n (L' := [(3, .int (iI 0)), (2, .ref a1), (1, .ref a0), (0, .ref b)]) S dL_law_17 (by decide) rfl ?_
  have hBge : ∀ i : Nat, i < 16 → a0 ≤ B i := fun i hi => by
    by_cases e : i = 0
    · rw [e, hB0]; exact Nat.le_refl _
    · exact Nat.le_of_lt (hBgt i (by omega) hi)
  have hAge : ∀ j : Nat, j < 6 → a1 ≤ A j := fun j hj => by
    by_cases e : j = 0
    · rw [e, hA0]; exact Nat.le_refl _
    · exact Nat.le_of_lt (hAgt j (by omega) hj)
  have hwB : ∀ x, cM B x → wr F x := fun x ⟨i, hi, e⟩ => e ▸ (h0 _ (hBge i hi)).2
  have hwA : ∀ x, mM A x → wr F x := fun x ⟨j, hj, e⟩ => e ▸ (h1 _ (hAge j hj)).2
  have ha : apB B A := fun i j hi hj e => hBN (B i) ⟨i, hi, rfl⟩ (by rw [e]; exact (h1 _ (hAge j hj)).1)
  have hcq4 : cQ D (NN B A) B now0 (fun _ _ => 0) 0 0 (fun _ => 0) G4 := hcq.grow (fun x hx => hx.elim Or.inl (fun ⟨j, hj, e⟩ => Or.inr (by rw [e]; exact (h1 _ (hAge j hj)).1)))
  have hcq8 := hcq4.kept (M := fun _ => False) hl8.ext (fun _ z => z.elim) (fun _ _ z => z)
  have hcq12 := hcq8.kept hx12 (fun x hx => Or.inr ⟨0, by omega, hx.trans hA0.symm⟩) (fun i hi e => ha i 0 hi (by omega) (e.trans hA0.symm))
  have hI : lwS D B A G12 := ⟨now0, fun _ _ => 0, 0, 0, fun _ => 0, ⟨mOK_0, fun i i0 i1 => by omega, by decide, by decide, fun k k0 k1 => by omega⟩, hmq, hcq12⟩
  have h := lw_loop S hb hX hL hwB hwA ha hend _ 0 G12 (Nat.lt_succ_self _) hI (Int.le_refl _) (by omega)
  rw [hB0, hA0] at h
  exact V.widen (by show _ ≤ 100 + 20 * (0 : Int).toNat; omega) (by show _ ≤ 200000 + 60 * (0 : Int).toNat; omega) h
/-- the law's end -/
theorem lw_end {p : Program} {e : Env} {s : State} {m : MethodId} {below : List Frame} {meth : Method} {c : Code} {l : Launch} {b : Nat} {D : va_G} (hx : p.tables.exec = Jvm.exec) (hb : c.code = code) (hr : meth.sig.returnType = ret) (hlocks : meth.locks = false) (G : gh) (ce sl : Nat) (Lc : List (Nat × Value)) (hc : ce ≤ 600000) (hsl : sl ≤ 7302250) : V (p, l, e, room_1, s, m, #[Value.ref b], below, meth, c, lw_Z below #[Value.ref b] s, (fun _ => False), D, false, (fun _ => none)) 4 G ce sl 930 Lc [.int (iI 1)] := by
  intro H lo hG hM ls hls
  refine W.widen (k := 600000) (n := 7302250) hc hsl ?_
  refine va_forget (fun q hq => (hM.2.2.2 q hq).elim False.elim id) ?_
  rw [iI_1]
  exact lw_ret hx hb hr hlocks dL_law_930
