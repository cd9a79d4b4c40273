/-! contracts over the ghost heap: CP changes nothing, CT may change what M names, and make cells -/
def cpPc (D : va_G) (As : List Value) (G : gh) : Array Value → State → Prop := fun v U => v = As.toArray ∧ KK D U ∧ gOk D G U.heap
def cpQc (post : Option Value → Prop) : Array Value → State → Outcome → State → Prop := fun _ st o t => (∃ v, o = .returned v ∧ post v) ∧ t.heap = st.heap
def ctPc (D : va_G) (As : List Value) (G : gh) (sz : Nat) : Array Value → State → Prop := fun v U => v = As.toArray ∧ KK D U ∧ gOk D G U.heap ∧ U.heap.size = sz
def ctQc (D : va_G) (G : gh) (sz : Nat) (M : Nat → Prop) (post : Option Value → gh → Prop) : Array Value → State → Outcome → State → Prop := fun _ st o t => (∃ v G', o = .returned v ∧ gOk D G' t.heap ∧ gExt G G' M ∧ post v G') ∧ va_F (fun q => M q ∨ sz ≤ q) st t
def CP (y : MethodName) (cc : ByteArray) (nL : Nat) (ret : Option FieldType) (fr lc : Nat) (D : va_G) (As : List Value) (G : gh) (post : Option Value → Prop) : Prop :=
  ∀ l : Launch, Met l y (Cond.code y cc nL ret :: WS) { frames := fr, cells := 0, slots := 0, locals := lc } (cpPc D As G) (cpQc post) 0 0 (fun _ => False)
def CT (y : MethodName) (cc : ByteArray) (nL : Nat) (ret : Option FieldType) (fr lc mc ms : Nat) (D : va_G) (As : List Value) (G : gh) (M : Nat → Prop) (post : Option Value → gh → Prop) : Prop :=
  ∀ (l : Launch) (sz : Nat), Met l y (Cond.code y cc nL ret :: WS) { frames := fr, cells := mc, slots := ms, locals := lc } (ctPc D As G sz) (ctQc D G sz M post) mc ms (fun q => M q ∨ sz ≤ q)
theorem cp_blind {D : va_G} {As : List Value} {G : gh} : FrameBlind (cpPc D As G) := fun a U g mk h => ⟨h.1, h.2.1.calling, h.2.2⟩
theorem ct_blind {D : va_G} {As : List Value} {G : gh} {sz : Nat} : FrameBlind (ctPc D As G sz) := fun a U g mk h => ⟨h.1, h.2.1.calling, h.2.2.1, h.2.2.2⟩
/-- an end: which instruction gives which answer -/
def isRet (cc : ByteArray) (pc : Nat) (ret : Option FieldType) (v : Option Value) : Prop :=
  (ret = some .int ∧ decode cc pc = .ok (.ireturn, 1) ∧ ∃ z : Int32, v = some (.int z)) ∨
  (ret = some .boolean ∧ decode cc pc = .ok (.ireturn, 1) ∧ (v = some (.int (iI 0)) ∨ v = some (.int (iI 1)))) ∨
  (ret = some .long ∧ decode cc pc = .ok (.lreturn, 1) ∧ ∃ z : Int64, v = some (.long z)) ∨
  (ret = none ∧ decode cc pc = .ok (.return_, 1) ∧ v = none) ∨
  (∃ rt, ret = some rt ∧ ((∃ n, rt = .object n) ∨ ∃ t, rt = .array t) ∧ decode cc pc = .ok (.areturn, 1) ∧ (v = some .null ∨ ∃ a, v = some (.ref a)))
def RT (F : fxT) (cc : ByteArray) (nL : Nat) (ret : Option FieldType) (mc ms : Nat) (post : Option Value → gh → Prop) : Prop :=
  ∀ (G : gh) (ce sl pc : Nat) (L : List (Nat × Value)) (v : Option Value), ce ≤ mc → sl ≤ ms → isRet cc pc ret v → post v G → V F nL G ce sl pc L v.toList
section CALLS
variable {p : Program} {l : Launch} {e : Env} {R : Room} {s : State} {m : MethodId} {args : Array Value} {below : List Frame} {meth : Method} {c : Code} {H : Heap} {locs : List Loc} {cells slots : Nat}
theorem w_ret {cc : ByteArray} {ret : Option FieldType} {Qc : Array Value → State → Outcome → State → Prop} {free : Addr → Prop} {v : Option Value} {pc : Nat} {ls : Array Slot} (hx : p.tables.exec = Jvm.exec) (hb : c.code = cc) (hr : meth.sig.returnType = ret) (hlocks : meth.locks = false)
    (hret : isRet cc pc ret v) (hq : ∀ t : State, t.heap = H → s.WarmedH t.vm → Qc args s (.returned v) t) (hf : ∀ q ∈ locs, free q.base) :
    W p l e R s m args below meth c H locs cells slots (MQ below Qc args s cells slots free) (F0 m pc ls v.toList) := by
  rcases hret with ⟨rfl, d, z, rfl⟩ | ⟨rfl, d, rfl | rfl⟩ | ⟨rfl, d, z, rfl⟩ | ⟨rfl, d, rfl⟩ | ⟨rt, rfl, hrt, d, rfl | ⟨a, rfl⟩⟩
  · exact W.iret hx hb hr hq hf d hlocks
  · exact W.zret hx hb hr (by decide) hq hf d hlocks
  · exact W.zret hx hb hr (by decide) hq hf d hlocks
  · exact W.lret hx hb hr hq hf d hlocks
  · exact W.vret hx hb hr hq hf d hlocks
  · exact W.aret hx hb hr hrt (Or.inl rfl) hq hf d hlocks
  · exact W.aret hx hb hr hrt (Or.inr ⟨a, rfl⟩) hq hf d hlocks
end CALLS
/-- the walk of a method that changes nothing -/
theorem CP.enter {y : MethodName} {cc : ByteArray} {nL : Nat} {ret : Option FieldType} {fr lc : Nat} {D : va_G} {As : List Value} {G : gh} {post : Option Value → Prop} (hy : plainName y.cls = true) (hn : (lg_sl As).length ≤ nL)
    (h : ∀ F : fxT, FX F cc nL y.cls { frames := fr, cells := 0, slots := 0, locals := lc } D → RT F cc nL ret 0 0 (fun v G' => post v ∧ G' = G) → V F nL G 0 0 0 (lv_args 0 As) []) : CP y cc nL ret fr lc D As G post := by
  intro l
  refine Met.ofW (cc := cc) (maxL := nL) (ret := ret) hy rfl ?_
  intro p e s m args below meth c s₁ B hml hv
  obtain ⟨rfl, hK, hG⟩ := hv
  have hts0 := atoms_spec (ws := Cond.code y cc nL ret :: WS) B.pre
  have hts : ∀ w ∈ WS, w.before As.toArray s = true := fun w hw => hts0 w (List.mem_cons_of_mem _ hw)
  have hown : s.vm.findClass y.cls = some m.cls := findClass_of_methodNamed B.named
  have hl := lv_entry As (n := nL) hn
  rw [lg_entry_eq]
  generalize (lg_sl As ++ List.replicate (nL - (lg_sl As).length) Slot.unset).toArray = ls at hl ⊢
  refine h (p, l, e, { frames := fr, cells := 0, slots := 0, locals := lc }, s, m, As.toArray, below, meth, c, MQ below (cpQc post) As.toArray s 0 0 (fun _ => False), fun _ => False, D, true, G) ⟨⟨B.exec, B.bytes, hml, hown, hts⟩, hK, rfl, rfl, hG⟩ ?_ s.heap [] hG ⟨rfl, rfl, rfl⟩ ls hl
  intro G' ce sl pc L v hce hsl hret hpost H lo hG' hM ls' hl'
  obtain ⟨rfl, rfl, rfl⟩ := hM
  refine W.widen (k := 0) (n := 0) hce hsl ?_
  exact w_ret B.exec B.bytes B.returns B.notSynchronized hret (fun t ht _ => ⟨⟨v, rfl, hpost.1⟩, ht⟩) (fun q hq => by cases hq)
/-- the walk of a method that may change what M names -/
theorem CT.enter {y : MethodName} {cc : ByteArray} {nL : Nat} {ret : Option FieldType} {fr lc mc ms : Nat} {D : va_G} {As : List Value} {G : gh} {M : Nat → Prop} {post : Option Value → gh → Prop} (hy : plainName y.cls = true) (hn : (lg_sl As).length ≤ nL)
    (h : ∀ F : fxT, FX F cc nL y.cls { frames := fr, cells := mc, slots := ms, locals := lc } D → RT F cc nL ret mc ms post → fMut F → (∀ a, M a → wr F a) → (y.name = "<init>" → fIn F) → V F nL G 0 0 0 (lv_args 0 As) []) : CT y cc nL ret fr lc mc ms D As G M post := by
  intro l sz
  refine Met.ofW (cc := cc) (maxL := nL) (ret := ret) hy rfl ?_
  intro p e s m args below meth c s₁ B hml hv
  obtain ⟨rfl, hK, hG, rfl⟩ := hv
  have hts0 := atoms_spec (ws := Cond.code y cc nL ret :: WS) B.pre
  have hts : ∀ w ∈ WS, w.before As.toArray s = true := fun w hw => hts0 w (List.mem_cons_of_mem _ hw)
  have hown : s.vm.findClass y.cls = some m.cls := findClass_of_methodNamed B.named
  have hnm : meth.name = y.name := (name_of_methodNamed B.named B.method).1
  have hl := lv_entry As (n := nL) hn
  rw [lg_entry_eq]
  generalize (lg_sl As ++ List.replicate (nL - (lg_sl As).length) Slot.unset).toArray = ls at hl ⊢
  refine h (p, l, e, { frames := fr, cells := mc, slots := ms, locals := lc }, s, m, As.toArray, below, meth, c, MQ below (ctQc D G s.heap.size M post) As.toArray s mc ms (fun q => M q ∨ s.heap.size ≤ q), M, D, false, G) ⟨⟨B.exec, B.bytes, hml, hown, hts⟩, hK, rfl, rfl, hG⟩ ?_ rfl (fun a ha => Or.inl ha) (fun q => hnm.trans q) s.heap [] hG ⟨gExt.rf, va_S.rf⟩ ls hl
  intro G' ce sl pc L v hce hsl hret hpost H lo hG' hM ls' hl'
  obtain ⟨hE, hS⟩ := hM
  refine W.widen (k := mc) (n := ms) hce hsl ?_
  exact w_ret B.exec B.bytes B.returns B.notSynchronized hret (fun t ht _ => ⟨⟨v, G', rfl, by rw [ht]; exact hG', hE, hpost⟩, hS.F ht⟩) hS.2.2
/-! calls -/
section RUNS
variable {F : fxT} {cc : ByteArray} {nL : Nat} {own : String} {rm : Room} {D : va_G} {G : gh} {ce sl pc : Nat} {L : List (Nat × Value)} {st : List Value}
/-- what a method's contract gives to any call of it: Rn, the machine goes on behind the call -/
def RnP (F : fxT) (nL : Nat) (G : gh) (ce sl pc : Nat) (st0 st : List Value) (post : Option Value → Prop) : Prop := match F with
  | (p, l, e, R, s, m, args, below, meth, c, Q, M, D, b, G0) => ∀ (H : Heap) (lo : List Loc) (ls : Array Slot), gOk D G H → ls.size = nL → ∃ a : Array Value, va_Run p l e R s m args below meth c H lo ce sl 0 0 (F0 m pc ls st0) st (cpQc post a) (fun _ => False)
def RnT (F : fxT) (nL : Nat) (G : gh) (ce sl pc : Nat) (st0 st : List Value) (mc ms : Nat) (M1 : Nat → Prop) (post : Option Value → gh → Prop) : Prop := match F with
  | (p, l, e, R, s, m, args, below, meth, c, Q, M, D, b, G0) => ∀ (H : Heap) (lo : List Loc) (ls : Array Slot), gOk D G H → ls.size = nL → ∃ a : Array Value, va_Run p l e R s m args below meth c H lo ce sl mc ms (F0 m pc ls st0) st (ctQc D G H.size M1 post a) (fun q => M1 q ∨ H.size ≤ q)
theorem RnP.go {st0 : List Value} {post : Option Value → Prop} (h : RnP F nL G ce sl pc st0 st post) (k : ∀ v : Option Value, post v → V F nL G ce sl (pc + 3) L (v.toList ++ st)) : V F nL G ce sl pc L st0 := by
  obtain ⟨p, l, e, R, s, m, args, below, meth, c, Q, M, D', bm, G0⟩ := F
  intro H lo hG hM ls hl
  obtain ⟨a, hr⟩ := h H lo ls hG hl.1
  intro T hT X
  obtain ⟨v, st₀, t, T', L1, h0, X', hL, e1, e2, ⟨⟨v', hv, hp⟩, hh⟩, stp⟩ := hr T hT X
  cases hv
  have hL1 : L1 = [] := by
    cases L1 with
    | nil => rfl
    | cons q _ => exact absurd (hL q List.mem_cons_self) (fun z => z)
  subst hL1
  rw [List.append_nil] at X'
  obtain ⟨t2, a1, b1⟩ := k v hp H lo hG hM ls hl T' (by rw [e1, hh, h0]) X'
  exact ⟨t2, stp t2 a1, b1⟩
theorem RnT.go {st0 : List Value} {mc ms : Nat} {M1 : Nat → Prop} {post : Option Value → gh → Prop} (h : RnT F nL G ce sl pc st0 st mc ms M1 post) (hb : fMut F) (hM1 : ∀ a, M1 a → wr F a) (k : ∀ (v : Option Value) (G' : gh), gExt G G' M1 → post v G' → V F nL G' (ce + mc) (sl + ms) (pc + 3) L (v.toList ++ st)) (hF : gOk F.2.2.2.2.2.2.2.2.2.2.2.2.1 F.2.2.2.2.2.2.2.2.2.2.2.2.2.2 F.2.2.2.2.1.heap) : V F nL G ce sl pc L st0 := by
  obtain ⟨p, l, e, R, s, m, args, below, meth, c, Q, M, D', bm, G0⟩ := F
  have hb' : bm = false := hb
  subst hb'
  intro H lo hG hM ls hl
  obtain ⟨a, hr⟩ := h H lo ls hG hl.1
  obtain ⟨hE, hS⟩ := hM
  intro T hT X
  obtain ⟨v, st₀, t, T', L1, h0, X', hL, e1, e2, ⟨⟨v', G', hv, hG', hE', hp⟩, hz, hk⟩, stp⟩ := hr T hT X
  cases hv
  rw [h0] at hz hk
  have hw : ∀ q : Nat, (M1 q ∨ H.size ≤ q) → (M q ∨ s.heap.size ≤ q) := fun q hq => hq.elim (fun z => hM1 q z) (fun z => Or.inr (Nat.le_trans hS.1 z))
  have hE2 : gExt G0 G' M := fun x ex hx hn => by
    refine hE' x ex (hE x ex hx hn) (fun z => ?_)
    rcases hM1 x z with q | q
    · exact hn q
    · exact absurd (hF.lt hx) (Nat.not_lt.mpr q)
  obtain ⟨t2, a1, b1⟩ := k v G' hE' hp T'.heap (lo ++ L1) (by rw [e1]; exact hG') ⟨hE2, Nat.le_trans hS.1 (by rw [e1]; exact hz), fun q h1 h2 => by rw [e1, hk q (Nat.lt_of_lt_of_le h1 hS.1) (fun z => h2 (hw q z))]; exact hS.2.1 q h1 h2, fun q hq => by
      rcases List.mem_append.mp hq with h | h
      · exact hS.2.2 q h
      · exact hw _ (hL q h)⟩ ls hl T' rfl X'
  exact ⟨t2, stp t2 a1, b1⟩
theorem FX.g0 (S : FX F cc nL own rm D) : gOk F.2.2.2.2.2.2.2.2.2.2.2.2.1 F.2.2.2.2.2.2.2.2.2.2.2.2.2.2 F.2.2.2.2.1.heap := by
  obtain ⟨p, l, e, R, s, m, args, below, meth, c, Q, M, D', bm, G0⟩ := F
  obtain ⟨-, -, rfl, -, h⟩ := S
  exact h
/-- what is said once of a method that is called -/
def MetOK (y : MethodName) (bytes : ByteArray) (maxL : Nat) (ret : Option FieldType) (n : Nat) : Prop := Cond.code y bytes maxL ret ∈ WS ∧ Cond.initialized y.cls ∈ WS ∧ (y.cls ≠ "java/lang/invoke/MethodHandle" ∧ y.cls ≠ "java/lang/invoke/VarHandle" ∧ (parseMethodDescriptor y.desc).map (fun d => d.parameters.length) = some n)
def lvl (rm : Room) (maxL fr lc : Nat) : Prop := fr + 1 ≤ rm.frames ∧ 8 + (maxL + 11) + lc ≤ rm.locals
theorem good_cons {w : Cond} (h : w ∈ WS) : GoodIn WS (w :: WS) := fun x hx => (List.mem_cons.mp hx).elim (fun e => e ▸ ws_good w h) (fun h => ws_good x h)
theorem t_recv {G : gh} {H : Heap} {s : State} {a ci : Nat} {fs : List Value} {q : vw_C} (hK : KK D s) (hG : gOk D G H) (hc : clX[ci]? = some q) (h : G a = some (eO ci fs)) : ∃ cell : Cell, H[a]? = some cell ∧ cell.vm.isStatics = false ∧ s.vm.findClass q.1 = some cell.cls :=
  va_recv hK.1 (hG.P1 h) (q0 := 0) hc rfl
end RUNS
