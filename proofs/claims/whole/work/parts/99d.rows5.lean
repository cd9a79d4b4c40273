/-! a table of rows: 'multianewarray' of two dimensions, of int -/
section MULTI
/-- the outer array when its first i places are filled; rows lie behind it -/
def mu_out (cA : ClassId) (N h0 i : Nat) : Cell := arrV cA N (fun j => if j < i then .ref (h0 + 1 + j) else .null)
def mu_row (cC : ClassId) (K : Nat) : Cell := arrV cC K (fun _ => .int 0)
def mu_st (T : State) (cA cC : ClassId) (N K : Nat) : Nat → State
  | 0 => T.pushCell (mu_out cA N T.heap.size 0)
  | i + 1 => ((mu_st T cA cC N K i).pushCell (mu_row cC K)).setCell T.heap.size (mu_out cA N T.heap.size (i + 1))
theorem mu_out_set (cA : ClassId) (N h0 i : Nat) : (mu_out cA N h0 i).setSlot i (.ref (h0 + 1 + i)) = mu_out cA N h0 (i + 1) := by
  unfold mu_out
  rw [arrV_store]
  congr 1
  funext j
  unfold updV
  by_cases e : j = i
  · rw [if_pos e, if_pos (by omega), e]
  · rw [if_neg e]
    show (if j < i then Value.ref (h0 + 1 + j) else Value.null) = _
    by_cases q : j < i
    · rw [if_pos q, if_pos (by omega)]
    · rw [if_neg q, if_neg (by omega)]
theorem mu_out_0 (cA : ClassId) (N h0 : Nat) : mu_out cA N h0 0 = arrV cA N (fun _ => .null) := by
  unfold mu_out
  congr 1
theorem mu_out_sz (cA : ClassId) (N h0 i : Nat) : (mu_out cA N h0 i).slots.size = N := arrV_size _ _ _
theorem mu_facts (T : State) (cA cC : ClassId) (N K : Nat) : ∀ i : Nat, (mu_st T cA cC N K i).heap.size = T.heap.size + 1 + i ∧ (mu_st T cA cC N K i).heap[T.heap.size]? = some (mu_out cA N T.heap.size i) ∧ (mu_st T cA cC N K i).vm = T.vm ∧ (mu_st T cA cC N K i).slotsUsed = T.slotsUsed + N + i * K ∧ (∀ q : Nat, q < T.heap.size → (mu_st T cA cC N K i).heap[q]? = T.heap[q]?) ∧ ∀ j : Nat, j < i → (mu_st T cA cC N K i).heap[T.heap.size + 1 + j]? = some (mu_row cC K)
  | 0 => by
    refine ⟨by simp [mu_st], by simp [mu_st], rfl, ?_, fun q hq => State.heap_pushCell_of_lt _ _ hq, fun j hj => absurd hj (Nat.not_lt_zero _)⟩
    show T.slotsUsed + (mu_out cA N T.heap.size 0).slots.size = _
    rw [mu_out_sz]
    omega
  | i + 1 => by
    obtain ⟨f1, f2, f3, f4, f5, f6⟩ := mu_facts T cA cC N K i
    have hp : ∀ q : Nat, q < T.heap.size + 1 + i → ((mu_st T cA cC N K i).pushCell (mu_row cC K)).heap[q]? = (mu_st T cA cC N K i).heap[q]? := fun q hq => State.heap_pushCell_of_lt _ _ (by rw [f1]; exact hq)
    have hs : ((mu_st T cA cC N K i).pushCell (mu_row cC K)).heap[T.heap.size + 1 + i]? = some (mu_row cC K) := by
      rw [← f1]
      exact State.heap_pushCell_size _ _
    have hz : ((mu_st T cA cC N K i).pushCell (mu_row cC K)).heap[T.heap.size]? = some (mu_out cA N T.heap.size i) := by rw [hp _ (by omega)]; exact f2
    have ho : ∀ q : Nat, q ≠ T.heap.size → (mu_st T cA cC N K (i + 1)).heap[q]? = ((mu_st T cA cC N K i).pushCell (mu_row cC K)).heap[q]? := fun q hq => heapAt_setCell_ne _ (Ne.symm hq)
    refine ⟨?_, ?_, f3, ?_, fun q hq => ?_, fun j hj => ?_⟩
    · show (((mu_st T cA cC N K i).pushCell (mu_row cC K)).setCell T.heap.size _).heap.size = _
      rw [size_setCell]
      show ((mu_st T cA cC N K i).heap.push _).size = _
      rw [Array.size_push, f1]
      omega
    · exact heapAt_setCell_self _ (Array.getElem?_eq_some_iff.mp hz).1
    · show (mu_st T cA cC N K i).slotsUsed + (mu_row cC K).slots.size = _
      rw [f4, show (mu_row cC K).slots.size = K from arrV_size _ _ _, Nat.succ_mul]
      omega
    · rw [ho q (by omega), hp q (by omega)]
      exact f5 q hq
    · rw [ho _ (by omega)]
      by_cases e : j = i
      · rw [e]; exact hs
      · rw [hp _ (by omega)]
        exact f6 j (by omega)
theorem mu_top (T : State) (g : JFrame) (cA cC : ClassId) (N K : Nat) : ∀ i : Nat, mu_st (T.setTop g) cA cC N K i = (mu_st T cA cC N K i).setTop g
  | 0 => rfl
  | i + 1 => by
    show ((mu_st (T.setTop g) cA cC N K i).pushCell _).setCell _ _ = _
    rw [mu_top T g cA cC N K i]
    rfl
theorem mu_stand {p : Program} {l : Launch} {e : Env} {R : Room} {s : State} {m : MethodId} {args : Array Value} {below : List Frame} {meth : Method} {c : Code} {T : State} {lo : List Loc} {ce sl : Nat} (X : Stand p l e R s m args below meth c T lo ce sl) (cA cC : ClassId) (N K : Nat) : ∀ i : Nat, Stand p l e R s m args below meth c (mu_st T cA cC N K i) lo (ce + 1 + i) (sl + N + i * K)
  | 0 => by
    have h := X.pushed (mu_out cA N T.heap.size 0)
    rw [mu_out_sz] at h
    rw [show sl + N + 0 * K = sl + N by omega]
    exact h
  | i + 1 => by
    have Xi := mu_stand X cA cC N K i
    obtain ⟨f1, f2, -, -, -, -⟩ := mu_facts T cA cC N K i
    have h1 := Xi.pushed (mu_row cC K)
    rw [show (mu_row cC K).slots.size = K from arrV_size _ _ _] at h1
    have hz : ((mu_st T cA cC N K i).pushCell (mu_row cC K)).heap[T.heap.size]? = some (mu_out cA N T.heap.size i) := (State.heap_pushCell_of_lt _ _ (show T.heap.size < (mu_st T cA cC N K i).heap.size by rw [f1]; omega)).trans f2
    have h2 := (h1.stored hz i (.ref (T.heap.size + 1 + i))).dropFresh (fun x hx => by
      rw [List.mem_singleton.mp hx]
      exact X.heapGrown)
    rw [mu_out_set] at h2
    rw [show sl + N + (i + 1) * K = sl + N + i * K + K by rw [Nat.succ_mul]; omega]
    exact h2
variable {E : CtlPost} {e : Env} {dd : Bool} {acts : List Action} {s : State}
theorem mu_new {c comp : ClassId} {k : Class} {ty : FieldType} {N : Nat} {v : Value} (hk : s.vm.classes[c]? = some k) (hkind : k.kind = .array comp ty) (h1 : ¬ N > e.platform.arrayLengthLimit) (h2 : ¬ N * componentBytes ty > e.platform.maxHeapBytes) (hf : fits ty v = true) (hd : v.isDefault = true) {Q : Addr → Pre} (h3 : s.heap.size < e.platform.maxCells) (h4 : s.slotsUsed + N ≤ e.platform.maxSlots) (hq : Q s.heap.size dd acts (s.pushCell (arrV c N (fun _ => v)))) : wp (Jvm.newArray c N v) Q E e dd acts s := by
  rw [← arrV_new] at hq
  have hfit : ∀ (i : Nat) (w : Value), (Array.replicate N v)[i]? = some w → s.fitsSlot c .none i w = true := by
    intro i w hw
    rw [Array.getElem?_replicate] at hw
    split at hw
    · cases hw
      simp [State.fitsSlot, State.slotType?, hk, hkind, hf]
    · cases hw
  have hall : allocActs (Array.replicate N v) s.heap.size acts = acts := by
    unfold allocActs
    rw [if_pos]
    rw [Array.all_replicate]
    split <;> simp [hd]
  simp only [Jvm.newArray, Jvm.arrayFits, wp_bind', W.ask, W.ite, h1, if_false, wp_pure', W.theClass, hk, hkind, h2, W.alloc, W.stop, Option.some.injEq, exists_eq_left', Array.size_replicate, hall]
  rw [if_neg (by omega)]
  exact ⟨h3, h4, hfit, hq⟩
theorem mu_make1 {comp cc : ClassId} {kc : Class} {m : Int32} (hk : s.vm.classes[comp]? = some kc) (hkind : kc.kind = .array cc .int) (hm : ¬ m < 0) (h1 : ¬ m.toNatClampNeg > e.platform.arrayLengthLimit) (h2 : ¬ m.toNatClampNeg * componentBytes .int > e.platform.maxHeapBytes) (h3 : s.heap.size < e.platform.maxCells) (h4 : s.slotsUsed + m.toNatClampNeg ≤ e.platform.maxSlots) {Q : Addr → Pre} (hq : Q s.heap.size dd acts (s.pushCell (mu_row comp m.toNatClampNeg))) : wp (multianewarray.make comp [m]) Q E e dd acts s := by
  rw [multianewarray.make]
  simp only [wp_bind', W.ite, hm, if_false, wp_pure', W.theClass, hk, hkind, Option.some.injEq, exists_eq_left']
  exact mu_new hk hkind h1 h2 rfl rfl h3 h4 hq
theorem mu_make2 {c comp cc : ClassId} {k kc : Class} {n m : Int32} (hk : s.vm.classes[c]? = some k) (hkind : k.kind = .array comp (.array .int)) (hkc : s.vm.classes[comp]? = some kc) (hkindc : kc.kind = .array cc .int) (hn : ¬ n < 0) (hm : ¬ m < 0) (h1 : ¬ n.toNatClampNeg > e.platform.arrayLengthLimit) (h2 : ¬ n.toNatClampNeg * componentBytes (.array .int) > e.platform.maxHeapBytes) (h3 : ¬ m.toNatClampNeg > e.platform.arrayLengthLimit) (h4 : ¬ m.toNatClampNeg * componentBytes .int > e.platform.maxHeapBytes) (h5 : s.heap.size + (1 + n.toNatClampNeg) ≤ e.platform.maxCells) (h6 : s.slotsUsed + (n.toNatClampNeg + n.toNatClampNeg * m.toNatClampNeg) ≤ e.platform.maxSlots) {Q : Addr → Pre} (hq : ∀ (d' : Bool) (acts' : List Action), Q s.heap.size d' acts' (mu_st s c comp n.toNatClampNeg m.toNatClampNeg n.toNatClampNeg)) : wp (multianewarray.make c [n, m]) Q E e dd acts s := by
  generalize hN : n.toNatClampNeg = N at h1 h2 h5 h6 hq
  generalize hK : m.toNatClampNeg = K at h3 h4 h6 hq
  have hfind : ([m].find? (· < 0)) = none := by simp [hm]
  rw [multianewarray.make]
  simp only [wp_bind', W.ite, hn, if_false, wp_pure', W.theClass, hk, hkind, Option.some.injEq, exists_eq_left', hN]
  refine mu_new hk hkind h1 h2 rfl rfl (by omega) (by have := Nat.zero_le (N * K); omega) ?_
  simp only [hfind]
  rw [ite_self, wp_bind', Std.Legacy.Range.forIn_eq_forIn_range', show ([:N] : Std.Legacy.Range).size = N by simp [Std.Legacy.Range.size]]
  show wp (forIn (List.range' 0 N 1) PUnit.unit _) _ E e dd acts _
  rw [← mu_out_0 c N s.heap.size]
  refine wp_forIn_inv (fun rest s' => ∃ i : Nat, i ≤ N ∧ rest = List.range' i (N - i) ∧ s' = mu_st s c comp N K i) _ _ ⟨0, Nat.zero_le _, rfl, rfl⟩ ?_ ?_
  · rintro x rest s' d' acts' Q' ⟨i, hi, hl, rfl⟩ hnext
    have hlt : i < N := by
      apply Classical.byContradiction
      intro q
      rw [show N - i = 0 by omega] at hl
      cases hl
    rw [show N - i = (N - (i + 1)) + 1 by omega, List.range'_succ] at hl
    obtain ⟨rfl, hrest⟩ := List.cons.inj hl
    obtain ⟨f1, f2, f3, f4, -, -⟩ := mu_facts s c comp N K x
    have hmul : x * K + K ≤ N * K := by
      have := Nat.mul_le_mul_right K (show x + 1 ≤ N from hlt)
      rw [Nat.succ_mul] at this
      exact this
    simp only [wp_bind']
    refine mu_make1 (by rw [f3]; exact hkc) hkindc hm (by rw [hK]; exact h3) (by rw [hK]; exact h4) (by rw [f1]; omega) (by rw [f4, hK]; omega) ?_
    rw [hK]
    simp only [wp_bind', W.writeLoc, wp_pure']
    refine ⟨mu_out c N s.heap.size x, (State.heap_pushCell_of_lt _ _ (show s.heap.size < (mu_st s c comp N K x).heap.size by rw [f1]; omega)).trans f2, (fun q => by cases q), by rw [mu_out_sz]; exact hlt, ?_, hnext _ _ _ ⟨x + 1, hlt, hrest, ?_⟩⟩
    · show State.fitsSlot _ c .none x _ = true
      simp [State.fitsSlot, State.slotType?, f3, hk, hkind, fits]
    · rw [f1, mu_out_set]
      rfl
  · rintro s' d' acts' ⟨i, hi, hl, rfl⟩
    have hiN : i = N := by
      apply Classical.byContradiction
      intro q
      rw [show N - i = (N - (i + 1)) + 1 by omega, List.range'_succ] at hl
      cases hl
    subst hiN
    simp only [wp_pure']
    exact hq _ _
end MULTI
section MULTI2
variable {F : fxT} {cc : ByteArray} {nL : Nat} {own : String} {rm : Room} {D : va_G} {G : gh} {ce sl pc : Nat} {L : List (Nat × Value)} {st : List Value}
/-- the ghost with a table of rows at a -/
def gTab (D : va_G) (G : gh) (a N K : Nat) : gh := fun x => if x = a then some (eQ D 4 N (fun j => some (a + 1 + j.toNat))) else if a < x ∧ x < a + 1 + N then some (eI D K (fun _ => 0)) else G x
theorem arrV_ext {cA : ClassId} {N : Nat} {f g : Nat → Value} (h : ∀ j : Nat, j < N → f j = g j) : arrV cA N f = arrV cA N g := by
  unfold arrV
  congr 1
  exact congrArg _ (funext fun j => h j.val j.isLt)
theorem r_multi (S : FX F cc nL own rm D) (hb : fMut F) {idx : Nat} {n k : Int} (hcl : Cond.classLink own idx "[[I" ∈ WS) (hn : 0 ≤ n ∧ n ≤ 1000) (hk : 0 ≤ k ∧ k ≤ 100000) (hc : ce + (1 + n.toNat) ≤ rm.cells) (hsl : sl + (n.toNat + n.toNat * k.toNat) ≤ rm.slots) (d : decode cc pc = .ok (.multianewarray idx 2, 4)) (kk : ∀ a : Nat, (∀ x : Nat, a ≤ x → G x = none ∧ wr F x) → V F nL (gTab D G a n.toNat k.toNat) (ce + (1 + n.toNat)) (sl + (n.toNat + n.toNat * k.toNat)) (pc + 4) L (.ref a :: st)) : V F nL G ce sl pc L (.int (iI k) :: .int (iI n) :: st) := by
  obtain ⟨p, l, e, R, s, m, args, below, meth, c, Q, M, D', bm, G0⟩ := F
  obtain ⟨S1, hK, rfl, rfl, hG0⟩ := S
  have hb' : bm = false := hb
  subst hb'
  intro H lo hG hM ls hl T hT X
  have en : (iI n).toNatClampNeg = n.toNat := iI_nat hn.1 (by omega)
  have ek : (iI k).toNatClampNeg = k.toNat := iI_nat hk.1 (by omega)
  have hpl : e.platform.magicAccessors = ({} : Platform).magicAccessors := by rw [X.admits.platform]
  obtain ⟨c0, hf0, hcl0⟩ := Cond.classLink_spec S1.2.2.2.1 (S1.2.2.2.2 _ hcl) e.platform hpl
  have hfA : s.vm.findClass "[[I" = some (D'.1 106) := (hK.1.2 6 _ rfl).2
  have hc0 : c0 = D'.1 106 := Option.some.inj (hf0.symm.trans hfA)
  subst hc0
  obtain ⟨hg1, hwarm, hready⟩ := State.classEntry (e := e) X.warmed hcl0
  generalize T.vm.noted m.cls idx (.cls (D'.1 106)) = vm1 at hg1 hwarm hready
  have X1 := X.noted hwarm
  obtain ⟨kA, hkA, hkindA⟩ := hK.2.2.2.2.2
  obtain ⟨-, kC, hkC, cq, hkindC⟩ := (hK.1.2 0 _ rfl).1 0 (fun _ => .null)
  obtain ⟨kA1, hkA1, heA⟩ := hwarm.alike.2.2 _ _ hkA
  obtain ⟨kC1, hkC1, heC⟩ := hwarm.alike.2.2 _ _ (show s.vm.classes[D'.1 100]? = some kC from hkC)
  have hkindA1 : kA1.kind = .array (D'.1 100) (.array .int) := by rw [heA]; exact hkindA
  have hkindC1 : kC1.kind = .array cq .int := by rw [heC]; exact hkindC
  obtain ⟨hr1, hr2⟩ := X.roomAbove hc hsl
  have XF := mu_stand X1 (D'.1 106) (D'.1 100) n.toNat k.toNat n.toNat
  obtain ⟨f1, f2, -, -, f5, f6⟩ := mu_facts (T.setVm vm1) (D'.1 106) (D'.1 100) n.toNat k.toNat n.toNat
  have eT : (T.setVm vm1).heap = H := hT
  rw [eT] at f1 f2 f5 f6
  have hfr : ∀ x : Nat, H.size ≤ x → G x = none ∧ (M x ∨ s.heap.size ≤ x) := fun x hx => ⟨hG.fresh hx, Or.inr (Nat.le_trans hM.2.1 hx)⟩
  have hGt : gOk D' (gTab D' G H.size n.toNat k.toNat) (mu_st (T.setVm vm1) (D'.1 106) (D'.1 100) n.toNat k.toNat n.toNat).heap := by
    intro x ex hx
    unfold gTab at hx
    by_cases q : x = H.size
    · rw [if_pos q] at hx
      cases hx
      subst q
      show _ = some (vp_cell _ (_, .inr (.inr (.inr (.inr _)))))
      rw [f2, vp_cell_q]
      unfold mu_out
      exact congrArg some (arrV_ext fun j hj => by
        rw [if_pos hj]
        show Value.ref _ = Value.ref _
        congr 1)
    · rw [if_neg q] at hx
      by_cases q2 : H.size < x ∧ x < H.size + 1 + n.toNat
      · rw [if_pos q2] at hx
        cases hx
        have h6 := f6 (x - (H.size + 1)) (by omega)
        rw [show H.size + 1 + (x - (H.size + 1)) = x by omega] at h6
        show _ = some (vp_cell _ (_, .inl _))
        rw [h6, vp_cell_i]
        rfl
      · rw [if_neg q2] at hx
        exact (hG x ex hx).kept (f5 x (hG.lt hx))
  have hMt : mdH M false G0 (gTab D' G H.size n.toNat k.toNat) s (mu_st (T.setVm vm1) (D'.1 106) (D'.1 100) n.toNat k.toNat n.toNat).heap lo := by
    obtain ⟨hE, hS⟩ := hM
    refine ⟨fun x ex hx hq => ?_, by rw [f1]; have := hS.1; omega, fun x h1 h2 => (f5 x (Nat.lt_of_lt_of_le h1 hS.1)).trans (hS.2.1 x h1 h2), hS.2.2⟩
    have hxl := hG0.lt hx
    have := hS.1
    unfold gTab
    rw [if_neg (by omega), if_neg (by omega)]
    exact hE x ex hx hq
  have hce : ce + (1 + n.toNat) = ce + 1 + n.toNat := by omega
  have hse : sl + (n.toNat + n.toNat * k.toNat) = sl + n.toNat + n.toNat * k.toNat := by omega
  have kV := kk H.size hfr _ lo hGt hMt ls hl
  rw [hce, hse] at kV
  obtain ⟨t, a1, b1⟩ := kV _ rfl XF
  refine ⟨t, ?_, b1⟩
  have hx := S1.1
  have hdg : decode c.code pc = .ok (.multianewarray idx 2, 4) := by rw [S1.2.1]; exact d
  have hlim := Launch.admits_arrayLengthLimit X.admits
  have hmax := Launch.admits_maxHeapBytes X.admits
  jvm_step X.here [hx, hdg]
  simp only [multianewarray.sem, wp_bind', W.resolveClassAt_links (State.method?_setTop (F0 m pc ls (.int (iI k) :: .int (iI n) :: st)) X.here.top) hg1]
  rw [W.popN, if_neg (by decide)]
  refine ⟨F0 m pc ls (.int (iI k) :: .int (iI n) :: st), State.topJava?_setTop' (s := T.setVm vm1) _ X.here.top, [.int (iI n), .int (iI k)], st, rfl, rfl, ?_⟩
  simp only [List.mapM_cons, List.mapM_nil, wp_bind', wp_pure']
  refine mu_make2 (k := kA1) (kc := kC1) (comp := D'.1 100) (cc := cq) hkA1 hkindA1 hkC1 hkindC1 (fun q => by rw [← iI_0, iI_lt ⟨by omega, by omega⟩ ⟨by omega, by omega⟩] at q; omega) (fun q => by rw [← iI_0, iI_lt ⟨by omega, by omega⟩ ⟨by omega, by omega⟩] at q; omega) (by rw [hlim, en]; omega) (by rw [hmax, en]; show ¬ _ * 4 > _; omega) (by rw [hlim, ek]; omega) (by rw [hmax, ek]; show ¬ _ * 4 > _; omega) (by rw [en]; exact hr1) (by rw [en, ek]; exact hr2) (fun d' acts' => ?_)
  rw [en, ek]
  have eS : ((T.setTop (F0 m pc ls (.int (iI k) :: .int (iI n) :: st))).setVm vm1).setTop { F0 m pc ls (.int (iI k) :: .int (iI n) :: st) with stack := st } = (T.setVm vm1).setTop { F0 m pc ls (.int (iI k) :: .int (iI n) :: st) with stack := st } := by
    show ((T.setVm vm1).setTop _).setTop _ = _
    rw [State.setTop_setTop]
  rw [eS, mu_top]
  simp only [wp_bind', W.mark, W.pushRef, State.topJava?_setTop' _ XF.here.top, Option.some.injEq, exists_eq_left', State.setTop_setTop, State.heap_setTop]
  intro acts
  simp [jvm, XF.here.top]
  rw [show T.heap.size = H.size by rw [hT]]
  exact a1
end MULTI2
