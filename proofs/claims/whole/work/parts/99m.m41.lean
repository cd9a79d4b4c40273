/-! the start: nothing in the drawer -/
def now0 : Int → Int := fun j => if 0 ≤ j ∧ j < 10 then -1 else 0
theorem now0_p {p : Int} (h : 0 ≤ p ∧ p < 10) : now0 p = -1 := by unfold now0; rw [if_pos h]
theorem now0_z {j : Int} (h : ¬ (0 ≤ j ∧ j < 10)) : now0 j = 0 := by unfold now0; rw [if_neg h]
theorem mOK_0 : mOK now0 := by
  refine ⟨fun p p0 p1 => ?_, fun p a p0 p1 a0 a1 => ?_, fun p k p0 p1 k0 k1 => ?_, fun p r p0 p1 r0 r1 => ?_, fun w w0 w1 => ?_, fun k k0 k1 => ?_, ?_, fun f f0 f1 => ?_, fun p p0 p1 h => ?_, fun l p l0 l1 p0 p1 e => ?_, fun j hj => now0_z (by omega)⟩
  · rw [now0_p ⟨p0, p1⟩, now0_z (j := 10 + p) (by omega), now0_z (j := 20 + p) (by omega), now0_z (j := 30 + p) (by omega), now0_z (j := 40 + p) (by omega), now0_z (j := 50 + p) (by omega)]
    omega
  · rw [now0_z (j := 60 + 40 * p + a) (by omega), now0_p ⟨p0, p1⟩]
    exact ⟨by decide, by decide, fun q => by omega⟩
  · rw [now0_z (j := 460 + 64 * p + k) (by omega)]
    exact ⟨by decide, by decide, fun _ => Or.inl rfl⟩
  · rw [now0_z (by omega)]
    exact ⟨by decide, by decide⟩
  · rw [now0_z (j := 1180 + w) (by omega)]
    exact ⟨by decide, by decide, fun k k0 k1 => by omega⟩
  · rw [now0_z (by omega)]
    exact ⟨by decide, by decide⟩
  · unfold okN
    rw [now0_z (j := 1286) (by omega)]
    exact ⟨by decide, by decide, fun n n0 n1 => by omega⟩
  · rw [now0_z (by omega)]
    exact Int.le_refl _
  · rw [now0_p ⟨p0, p1⟩] at h
    omega
  · rw [now0_z (j := 1286) (by omega)] at l1
    omega
/-- the ghost that the walk began with -/
def fG (F : fxT) : gh := match F with
  | (p, l, e, R, s, m, args, below, meth, c, Q, M, D, b, G0) => G0
/-- a new cell is told in other words -/
theorem V.reg {F : fxT} {cc : ByteArray} {nL : Nat} {own : String} {rm : Room} {D : va_G} {G : gh} {ce sl pc : Nat} {L : List (Nat × Value)} {st : List Value} {t : Nat} {e e1 : va_E} (S : FX F cc nL own rm D) (hb : fMut F) (h0 : fG F t = none) (h : G t = some e) (hs : ∀ H : Heap, va_at D clX (t, e) H → va_at D clX (t, e1) H) (k : ∀ G1 : gh, G1 t = some e1 → (∀ (x : Nat) (ex : va_E), x ≠ t → G x = some ex → G1 x = some ex) → V F nL G1 ce sl pc L st) : V F nL G ce sl pc L st := by
  have k := k (gUp G t e1) (gUp_s _ _ _) (fun x ex hx hg => by rw [gUp_n hx]; exact hg)
  obtain ⟨p, l, e, R, s, m, args, below, meth, c, Q, M, D', bm, G0⟩ := F
  obtain ⟨S1, hK, rfl, rfl, hG0⟩ := S
  have hb' : bm = false := hb
  subst hb'
  intro H lo hG hM ls hls
  refine k H lo (fun x ex hx => ?_) ⟨fun x ex hx hn => ?_, hM.2⟩ ls hls
  · by_cases q : x = t
    · subst q
      rw [gUp_s] at hx
      cases hx
      exact hs H (hG x _ h)
    · rw [gUp_n q] at hx
      exact hG x ex hx
  · have hxt : x ≠ t := fun q => by
      rw [q, show G0 t = none from h0] at hx
      cases hx
    rw [gUp_n hxt]
    exact hM.1 x ex hx hn
/-- a method's start, where also: what is new lies behind what was there -/
theorem CT.enterZ {y : MethodName} {cc : ByteArray} {nL : Nat} {ret : Option FieldType} {fr lc mc ms : Nat} {D : va_G} {As : List Value} {G : gh} {M : Nat → Prop} {post : Option Value → gh → Prop} (hy : plainName y.cls = true) (hn : (lg_sl As).length ≤ nL)
    (h : ∀ F : fxT, FX F cc nL y.cls { frames := fr, cells := mc, slots := ms, locals := lc } D → RT F cc nL ret mc ms post → fMut F → (∀ a, M a → wr F a) → (y.name = "<init>" → fIn F) → (∀ a, wr F a → M a ∨ ∀ (x : Nat) (e : va_E), G x = some e → x < a) → fG F = G → V F nL G 0 0 0 (lv_args 0 As) []) : CT y cc nL ret fr lc mc ms D As G M post := by
  intro l sz
  refine Met.ofW (cc := cc) (maxL := nL) (ret := ret) hy rfl ?_
  intro p e s m args below meth c s₁ B hml hv
  obtain ⟨rfl, hK, hG, rfl⟩ := hv
  have hts0 := atoms_spec (ws := Cond.code y cc nL ret :: WS) B.pre
  have hts : ∀ w ∈ WS, w.before As.toArray s = true := fun w hw => hts0 w (List.mem_cons_of_mem _ hw)
  have hown : s.vm.findClass y.cls = some m.cls := findClass_of_methodNamed B.named
  have hnm : meth.name = y.name := (name_of_methodNamed B.named B.method).1
  have hl := lv_entry As (n := nL) hn
  rw [lg_entry_eq]
  generalize (lg_sl As ++ List.replicate (nL - (lg_sl As).length) Slot.unset).toArray = ls at hl ⊢
  refine h (p, l, e, { frames := fr, cells := mc, slots := ms, locals := lc }, s, m, As.toArray, below, meth, c, MQ below (ctQc D G s.heap.size M post) As.toArray s mc ms (fun q => M q ∨ s.heap.size ≤ q), M, D, false, G) ⟨⟨B.exec, B.bytes, hml, hown, hts⟩, hK, rfl, rfl, hG⟩ ?_ rfl (fun a ha => Or.inl ha) (fun q => hnm.trans q) (fun a ha => ha.imp id (fun q x e hx => Nat.lt_of_lt_of_le (hG.lt hx) q)) rfl s.heap [] hG ⟨gExt.rf, va_S.rf⟩ ls hl
  intro G' ce sl pc L v hce hsl hret hpost H lo hG' hM ls' hl'
  obtain ⟨hE, hS⟩ := hM
  refine W.widen (k := mc) (n := ms) hce hsl ?_
  exact w_ret B.exec B.bytes B.returns B.notSynchronized hret (fun t ht _ => ⟨⟨v, G', rfl, by rw [ht]; exact hG', hE, hpost⟩, hS.F ht⟩) hS.2.2
theorem gTab_o {D : va_G} {G : gh} {a N K : Nat} : gTab D G a N K a = some (eQ D 4 N (fun j => some (a + 1 + j.toNat))) := by unfold gTab; rw [if_pos rfl]
theorem gTab_r {D : va_G} {G : gh} {a N K : Nat} : ∀ j : Nat, j < N → gTab D G a N K (a + 1 + j) = some (eI D K (fun _ => 0)) := fun j hj => by
  unfold gTab
  rw [if_neg (by omega), if_pos (by omega)]
theorem gTab_l {D : va_G} {G : gh} {a N K : Nat} (h : ∀ x : Nat, a ≤ x → G x = none) : gLe G (gTab D G a N K) := fun b e hb => by
  have hba : b < a := Nat.lt_of_not_le (fun q => by rw [h b q] at hb; cases hb)
  unfold gTab
  rw [if_neg (by omega), if_neg (by omega)]
  exact hb
/-- the same objects, where less may be said to change -/
theorem Im.grow {N N' : Nat → Prop} {G : gh} {a : Nat} {e : va_E} (hx : ∀ b : Nat, N' b → N b ∨ G b = none) (h : Im N G a e) : Im N' G a e := ⟨h.1, fun q => by
  rcases hx a q with z | z
  · exact h.2 z
  · rw [h.1] at z; cases z⟩
section GROW
variable {D : va_G} {N N' : Nat → Prop} {G : gh} {now : Int → Int}
theorem hO.grow {p : Int} {a : Nat} (hx : ∀ b : Nat, N' b → N b ∨ G b = none) (h : hO D N G now p a) : hO D N' G now p a := by
  rcases h with h | h | ⟨h, fa, sf, h1, h2, h3⟩ | ⟨h, hn, m, x, fc, lc, hb, h2⟩
  · exact Or.inl ⟨h.1, h.2.grow hx⟩
  · exact Or.inr (Or.inl ⟨h.1, h.2.grow hx⟩)
  · exact Or.inr (Or.inr (Or.inl ⟨h, fa, sf, h1.grow hx, h2.grow hx, h3⟩))
  · refine Or.inr (Or.inr (Or.inr ⟨h, fun q => ?_, m, x, fc, lc, hb, h2⟩))
    rcases hx a q with z | z
    · exact hn z
    · rcases hb with ⟨-, hb⟩ | ⟨-, hb⟩ <;> rw [hb] at z <;> cases z
theorem plA.grow {a : Nat} (hx : ∀ b : Nat, N' b → N b ∨ G b = none) (h : plA D N G now a) : plA D N' G now a := by
  obtain ⟨f, h1, h2⟩ := h
  exact ⟨f, h1.grow hx, fun p p0 p1 => (h2 p p0 p1).imp id (fun ⟨q, b, e, h3⟩ => ⟨q, b, e, h3.grow hx⟩)⟩
theorem stO.grow {a : Nat} (hx : ∀ b : Nat, N' b → N b ∨ G b = none) (h : stO D N G now a) : stO D N' G now a := by
  obtain ⟨pa, la, wa, ea, h1, h2, ⟨lf, gl, h3, h3', h3''⟩, ⟨wf, h4, h4'⟩, ⟨ef, h5, h5'⟩⟩ := h
  refine ⟨pa, la, wa, ea, h1.grow hx, h2.grow hx, ⟨lf, gl, h3.grow hx, fun l l0 l1 => ?_, h3''⟩, ⟨wf, h4.grow hx, fun w w0 w1 => ?_⟩, ⟨ef, h5.grow hx, h5'⟩⟩
  · obtain ⟨b, e, h6⟩ := h3' l l0 l1
    refine ⟨b, e, ?_⟩
    rcases h6 with ⟨q1, q2, q3⟩ | ⟨q1, pb, q2, fa, ca, sa, cf, sf, nf, r1, r2, r3, r4, r5, r6⟩
    · exact Or.inl ⟨q1, q2.grow hx, q3⟩
    · exact Or.inr ⟨q1, pb, q2.grow hx, fa, ca, sa, cf, sf, nf, r1.grow hx, r2, r3.grow hx, r4.grow hx, r5.grow hx, r6⟩
  · obtain ⟨b, e, ga, pa, gf, pf, r1, r2, r3, r4⟩ := h4' w w0 w1
    exact ⟨b, e, ga, pa, gf, pf, r1.grow hx, r2.grow hx, r3.grow hx, r4⟩
end GROW

set_option maxRecDepth 20000 in
set_option maxHeartbeats 2000000 in
theorem kX10_emptyState {D : va_G} {N0 : Nat → Prop} {G : gh} (hN : Nok N0 G) : CT ⟨"PostageCounter", "emptyState", "()LPostageCounter$State;"⟩ prog_1_method_32_code 3 (some (.object "PostageCounter$State")) 2 44 8 27 D [] G ((fun _ => False)) (tR (fun b G' => stO D N0 G' now0 b)) := by
  refine CT.enter (by decide +kernel) (Nat.le_of_ble_eq_true rfl) (fun F S ret hb hM hI => ?_)
  show V F 3 G 0 0 0 [] []
  refine r_bipush S dX10_emptyState_0 (by decide) ?_
  refine r_newQ (kk := 2) S hb w79 (by decide) rfl (by omega) (by omega) (by show _ ≤ 8; omega) (by show _ ≤ 27; omega) dX10_emptyState_2 (fun a2 hn2 hw2 => ?_)
  refine k_new hn2 (fun G2 hl2 hc2 => ?_)
  have hz2 := hn2
  have hle2 := hl2
  refine r_astore_n (L' := [(0, .ref a2)]) S dX10_emptyState_5 (by decide) rfl ?_
  refine r_new S hb nwX10_144 (by show _ ≤ 8; omega) (by show _ ≤ 27; omega) dX10_emptyState_6 (fun a6 hn6 hw6 => ?_)
  refine k_new hn6 (fun G6 hl6 hc6 => ?_)
  have hz6 := hle2.non hn6
  have hle6 := hle2.tr hl6
  have ne_a2_a6 : a2 ≠ a6 := gLe.ne hn6 hc2
  refine r_dup S dX10_emptyState_9 ?_
  refine r_iconst S dX10_emptyState_10 ?_
  refine r_newI S hb w75 (by omega) (by omega) (by show _ ≤ 8; omega) (by show _ ≤ 27; omega) dX10_emptyState_11 (fun a11 hn11 hw11 => ?_)
  refine k_new hn11 (fun G11 hl11 hc11 => ?_)
  have hz11 := hle6.non hn11
  have hle11 := hle6.tr hl11
  have ne_a2_a11 : a2 ≠ a11 := gLe.ne hn11 (hl6 _ _ hc2)
  have ne_a6_a11 : a6 ≠ a11 := gLe.ne hn11 hc6
  refine r_iconst S dX10_emptyState_13 ?_
  refine r_newI S hb w75 (by omega) (by omega) (by show _ ≤ 8; omega) (by show _ ≤ 27; omega) dX10_emptyState_14 (fun a14 hn14 hw14 => ?_)
  refine k_new hn14 (fun G14 hl14 hc14 => ?_)
  have hz14 := hle11.non hn14
  have hle14 := hle11.tr hl14
  have ne_a2_a14 : a2 ≠ a14 := gLe.ne hn14 (hl11 _ _ (hl6 _ _ hc2))
  have ne_a6_a14 : a6 ≠ a14 := gLe.ne hn14 (hl11 _ _ hc6)
  have ne_a11_a14 : a11 ≠ a14 := gLe.ne hn14 hc11
  refine (c_I_T (As := [.ref a11, .ref a14]) (st := [.ref a6]) (M1 := fun x => x = a6) S (kX9_init (m0 := 0) (hl14 _ _ (hl11 _ _ hc6)) (hl14 _ _ hc11) hc14 (by omega)) moX9_init ⟨by decide, by decide⟩ ⟨(by show _ ≤ 8; omega), (by show _ ≤ 27; omega)⟩ rfl (Nat.le_of_ble_eq_true rfl) w82 w83 rfl rfl dX10_emptyState_16).goV S hb (fun x e => e ▸ hw6) (fun G16 hx16 hc16 => ?_)
  have hle16 := gLe.one hle14 hz6 hx16
  refine r_astore_n (L' := [(1, .ref a6), (0, .ref a2)]) S dX10_emptyState_19 (by decide) rfl ?_
  refine r_iconst S dX10_emptyState_20 ?_
  refine r_istore_n (L' := [(2, .int (iI 0)), (1, .ref a6), (0, .ref a2)]) S dX10_emptyState_21 (by decide) rfl ?_
  have L22 : ∀ (N : Nat) (Gk : gh) (f : Int → Option Nat) (i : Int), (6 - i).toNat < N → (gLe G Gk) → (Gk a2 = some (eQ D 2 6 f)) → (Gk a6 = some (eO 9 [.int (iI 0), .ref a11, .ref a14])) → (Gk a11 = some (eI D 0 (fun _ => 0))) → (Gk a14 = some (eI D 0 (fun _ => 0))) → (0 ≤ i ∧ i ≤ 6) → (∀ j : Int, 0 ≤ j → j < i → f j = some a6) → V F 3 Gk 4 9 22 [(0, .ref a2), (1, .ref a6), (2, .int (iI i))] [] := by
    intro N
    induction N with
    | zero => intro Gk f i hN; exact absurd hN (Nat.not_lt_zero _)
    | succ N ih22 =>
      intro Gk f i hN22 hle har h6 h11 h14 hi hf
      refine r_iload_n S dX10_emptyState_22 2 rfl ?_
      refine r_bipush S dX10_emptyState_23 (by decide) ?_
      refine r_icmp_ge S 38 dX10_emptyState_25 (by decide) (by omega) (by omega) (fun c25 => ?_) (fun c25 => ?_)
      · skip
        refine r_new S hb nwX10_32 (by show _ ≤ 8; omega) (by show _ ≤ 27; omega) dX10_emptyState_38 (fun a38 hn38 hw38 => ?_)
        refine k_new hn38 (fun G38 hl38 hc38 => ?_)
        have hz38 := hle.non hn38
        have hle38 := hle.tr hl38
        have ne_a2_a38 : a2 ≠ a38 := gLe.ne hn38 har
        have ne_a6_a38 : a6 ≠ a38 := gLe.ne hn38 h6
        have ne_a11_a38 : a11 ≠ a38 := gLe.ne hn38 h11
        have ne_a14_a38 : a14 ≠ a38 := gLe.ne hn38 h14
        refine r_dup S dX10_emptyState_41 ?_
        refine r_bipush S dX10_emptyState_42 (by decide) ?_
        refine r_newQ (kk := 0) S hb w102 (by decide) rfl (by omega) (by omega) (by show _ ≤ 8; omega) (by show _ ≤ 27; omega) dX10_emptyState_44 (fun a44 hn44 hw44 => ?_)
        refine k_new hn44 (fun G44 hl44 hc44 => ?_)
        have hz44 := hle38.non hn44
        have hle44 := hle38.tr hl44
        have ne_a2_a44 : a2 ≠ a44 := gLe.ne hn44 (hl38 _ _ har)
        have ne_a6_a44 : a6 ≠ a44 := gLe.ne hn44 (hl38 _ _ h6)
        have ne_a11_a44 : a11 ≠ a44 := gLe.ne hn44 (hl38 _ _ h11)
        have ne_a14_a44 : a14 ≠ a44 := gLe.ne hn44 (hl38 _ _ h14)
        have ne_a38_a44 : a38 ≠ a44 := gLe.ne hn44 hc38
        refine r_iconst S dX10_emptyState_47 ?_
        refine r_newQ (kk := 1) S hb w104 (by decide) rfl (by omega) (by omega) (by show _ ≤ 8; omega) (by show _ ≤ 27; omega) dX10_emptyState_48 (fun a48 hn48 hw48 => ?_)
        refine k_new hn48 (fun G48 hl48 hc48 => ?_)
        have hz48 := hle44.non hn48
        have hle48 := hle44.tr hl48
        have ne_a2_a48 : a2 ≠ a48 := gLe.ne hn48 (hl44 _ _ (hl38 _ _ har))
        have ne_a6_a48 : a6 ≠ a48 := gLe.ne hn48 (hl44 _ _ (hl38 _ _ h6))
        have ne_a11_a48 : a11 ≠ a48 := gLe.ne hn48 (hl44 _ _ (hl38 _ _ h11))
        have ne_a14_a48 : a14 ≠ a48 := gLe.ne hn48 (hl44 _ _ (hl38 _ _ h14))
        have ne_a38_a48 : a38 ≠ a48 := gLe.ne hn48 (hl44 _ _ hc38)
        have ne_a44_a48 : a44 ≠ a48 := gLe.ne hn48 hc44
        refine r_aload_n S dX10_emptyState_51 0 rfl ?_
        refine r_iconst S dX10_emptyState_52 ?_
        refine r_newI S hb w75 (by omega) (by omega) (by show _ ≤ 8; omega) (by show _ ≤ 27; omega) dX10_emptyState_53 (fun a53 hn53 hw53 => ?_)
        refine k_new hn53 (fun G53 hl53 hc53 => ?_)
        have hz53 := hle48.non hn53
        have hle53 := hle48.tr hl53
        have ne_a2_a53 : a2 ≠ a53 := gLe.ne hn53 (hl48 _ _ (hl44 _ _ (hl38 _ _ har)))
        have ne_a6_a53 : a6 ≠ a53 := gLe.ne hn53 (hl48 _ _ (hl44 _ _ (hl38 _ _ h6)))
        have ne_a11_a53 : a11 ≠ a53 := gLe.ne hn53 (hl48 _ _ (hl44 _ _ (hl38 _ _ h11)))
        have ne_a14_a53 : a14 ≠ a53 := gLe.ne hn53 (hl48 _ _ (hl44 _ _ (hl38 _ _ h14)))
        have ne_a38_a53 : a38 ≠ a53 := gLe.ne hn53 (hl48 _ _ (hl44 _ _ hc38))
        have ne_a44_a53 : a44 ≠ a53 := gLe.ne hn53 (hl48 _ _ hc44)
        have ne_a48_a53 : a48 ≠ a53 := gLe.ne hn53 hc48
        refine (c_I_T (As := [.ref a44, .ref a48, .ref a2, .ref a53]) (st := [.ref a38]) (M1 := fun x => x = a38) S (kX7_init (hl53 _ _ (hl48 _ _ (hl44 _ _ hc38)))) moX7_init ⟨by decide, by decide⟩ ⟨(by show _ ≤ 8; omega), (by show _ ≤ 27; omega)⟩ rfl (Nat.le_of_ble_eq_true rfl) w106 w107 rfl rfl dX10_emptyState_55).goV S hb (fun x e => e ▸ hw38) (fun G55 hx55 hc55 => ?_)
        have hle55 := gLe.one hle53 hz38 hx55
        exact ret.tr (by first | exact Or.inl ⟨_, rfl⟩ | exact Or.inr ⟨_, rfl⟩) a38 dX10_emptyState_58 (by omega) (by omega) ⟨a44, a48, a2, a53, ⟨hc55, hN.new hz38⟩, ⟨fun _ => none, ⟨(hx55 _ _ (hl53 _ _ (hl48 _ _ hc44)) (Ne.symm ne_a38_a44)), hN.new hz44⟩, fun p p0 p1 => Or.inl ⟨now0_p ⟨p0, p1⟩, rfl⟩⟩, ⟨fun _ => none, fun _ _ => 0, ⟨by rw [now0_z (by omega)]; exact (hx55 _ _ (hl53 _ _ hc48) (Ne.symm ne_a38_a48)), hN.new hz48⟩, fun l l0 l1 => by rw [now0_z (by omega)] at l1; omega, fun fc f0 f1 => by rw [now0_z (j := 3327 + fc) (by omega), now0_z (j := 1286) (by omega)]; rfl⟩, ⟨f, ⟨(hx55 _ _ (hl53 _ _ (hl48 _ _ (hl44 _ _ (hl38 _ _ har)))) ne_a2_a38), hN.new hz2⟩, fun w w0 w1 => ⟨a6, hf w w0 (by omega), a11, a14, fun _ => 0, fun _ => 0, ⟨by rw [now0_z (by omega)]; exact (hx55 _ _ (hl53 _ _ (hl48 _ _ (hl44 _ _ (hl38 _ _ h6)))) ne_a6_a38), hN.new hz6⟩, ⟨by rw [now0_z (by omega)]; exact (hx55 _ _ (hl53 _ _ (hl48 _ _ (hl44 _ _ (hl38 _ _ h11)))) ne_a11_a38), hN.new hz11⟩, ⟨by rw [now0_z (by omega)]; exact (hx55 _ _ (hl53 _ _ (hl48 _ _ (hl44 _ _ (hl38 _ _ h14)))) ne_a14_a38), hN.new hz14⟩, fun k k0 k1 => by rw [now0_z (j := 1180 + w) (by omega)] at k1; omega⟩⟩, ⟨fun _ => 0, ⟨(hx55 _ _ hc53 (Ne.symm ne_a38_a53)), hN.new hz53⟩, fun k k0 k1 => (now0_z (by omega)).symm⟩⟩
      · skip
        refine r_aload_n S dX10_emptyState_28 0 rfl ?_
        refine r_iload_n S dX10_emptyState_29 2 rfl ?_
        refine r_aload_n S dX10_emptyState_30 1 rfl ?_
        refine r_aast S hb har h6 ⟨_, rfl, by decide⟩ rfl hw2 (by omega) (by omega) (by omega) dX10_emptyState_31 ?_
        refine k_upd hle hz2 (fun G31 hle31 ho31 hc31 => ?_)
        refine r_iinc_e (L' := [(2, .int (iI (1 + i))), (0, .ref a2), (1, .ref a6)]) (1 + i) (by omega) S dX10_emptyState_32 2 rfl (by decide) rfl ?_
        refine r_goto S 22 dX10_emptyState_35 (by decide) ?_
        refine V.widen (ce' := 4) (sl' := 9) (by omega) (by omega) ?_
        refine V.sub [1, 2, 0] rfl ?_
        exact ih22 G31 (upI f i (some a6)) (1 + i) (by omega) hle31 hc31 (ho31 _ _ (Ne.symm ne_a2_a6) h6) (ho31 _ _ (Ne.symm ne_a2_a11) h11) (ho31 _ _ (Ne.symm ne_a2_a14) h14) (by omega) (fun j j0 j1 => by by_cases e : j = i; rw [e, upI_s]; rw [upI_n e]; exact hf j j0 (by omega))
  refine V.widen (ce' := 4) (sl' := 9) (by omega) (by omega) ?_
  refine V.sub [2, 1, 0] rfl ?_
  exact L22 _ G16 (fun _ => none) 0 (Nat.lt_succ_self _) hle16 (hx16 _ _ (hl14 _ _ (hl11 _ _ (hl6 _ _ hc2))) ne_a2_a6) hc16 (hx16 _ _ (hl14 _ _ hc11) (Ne.symm ne_a6_a11)) (hx16 _ _ hc14 (Ne.symm ne_a6_a14)) (by omega) (fun j j0 j1 => by omega)
