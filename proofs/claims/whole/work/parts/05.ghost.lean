def WS : List Cond := lw_tbl.filter goodWord
theorem ws_good : GoodIn WS WS := fun w h => ⟨h, good_of_word (List.mem_filter.mp h).2⟩
theorem ws_of {w : Cond} (i : Nat) (h : (lw_tbl[i]? == some w && goodWord w) = true) : w ∈ WS := by
  rw [Bool.and_eq_true] at h
  exact List.mem_filter.mpr ⟨List.mem_of_getElem? (i := i) (eq_of_beq h.1), h.2⟩
theorem tb_of {w : Cond} (i : Nat) (h : (lw_tbl[i]? == some w) = true) : w ∈ lw_tbl := List.mem_of_getElem? (i := i) (eq_of_beq h)
/-! the classes and array classes of the worlds; what the tables say of them -/
def clX : List vw_C := [(RX0, TX0, 8), (RX1, TX1, 2), (RX2, TX2, 2), (RX3, TX3, 3), (RX4, TX4, 8), (RX5, TX5, 4), (RX6, TX6, 2), (RX7, TX7, 4), (RX8, TX8, 3), (RX9, TX9, 3), (RX10, TX10, 6), (RX11, TX11, 9)]
def tyD (D : va_G) : List (ClassId × FieldType) := [(D.1 100, .int), (D.1 101, .long), (D.1 102, .object "PostageCounter$Plain"), (D.1 103, .object "PostageCounter$Letter"), (D.1 104, .object "PostageCounter$Way"), (D.1 105, .object "PostageCounter$State"), (D.1 106, .array .int)]
def nwC : List (String × String) := [("PostageCounter$Block", "PostageCounter$Plain"), ("PostageCounter$Over", "PostageCounter$Plain"), ("PostageCounter$Pair", "PostageCounter$Block"), ("PostageCounter$Pair", "PostageCounter$Plain"), ("PostageCounter$Strip", "PostageCounter$Plain"), ("[I", "java/lang/Cloneable")]
def nwN : List (String × Nat × MethodName × String) := [("PostageCounter", 11, ⟨"PostageCounter$Choices", "<init>", "()V"⟩, "PostageCounter"), ("PostageCounter$Block", 53, ⟨"PostageCounter", "within", "(III)Z"⟩, "PostageCounter"), ("PostageCounter$Choices", 61, ⟨"PostageCounter", "within", "(III)Z"⟩, "PostageCounter"), ("PostageCounter$Pair", 32, ⟨"PostageCounter", "within", "(III)Z"⟩, "PostageCounter"), ("PostageCounter$Strip", 19, ⟨"PostageCounter", "within", "(III)Z"⟩, "PostageCounter")]
def ncP : List (String × String) := [("PostageCounter$Plain", "PostageCounter$Strip"), ("PostageCounter$Over", "PostageCounter$Strip"), ("PostageCounter$Block", "PostageCounter$Strip"), ("PostageCounter$Pair", "PostageCounter$Strip"), ("PostageCounter$Plain", "PostageCounter$Block"), ("PostageCounter$Over", "PostageCounter$Block"), ("PostageCounter$Strip", "PostageCounter$Block"), ("PostageCounter$Plain", "PostageCounter$Pair"), ("PostageCounter$Over", "PostageCounter$Pair"), ("PostageCounter$Strip", "PostageCounter$Pair"), ("PostageCounter$Block", "PostageCounter$Pair"), ("PostageCounter$Plain", "PostageCounter$Over"), ("PostageCounter$Strip", "PostageCounter$Over"), ("PostageCounter$Block", "PostageCounter$Over"), ("PostageCounter$Pair", "PostageCounter$Over")]
def aoL : List String := ["PostageCounter$Plain", "PostageCounter$Letter", "PostageCounter$Way", "PostageCounter$State"]
def va_AOi (D : va_G) (U : State) : Prop := ∃ kA : Class, U.vm.classes[D.1 106]? = some kA ∧ kA.kind = .array (D.1 100) (.array .int)
theorem va_AOi.moved {D : va_G} {u U : State} (hvm : u.vm.Alike U.vm) (h : va_AOi D u) : va_AOi D U := by
  obtain ⟨kA, h1, h2⟩ := h
  obtain ⟨k', hk', he⟩ := hvm.2.2 _ _ h1
  exact ⟨k', hk', by rw [he]; exact h2⟩
def KK (D : va_G) (U : State) : Prop := va_K D clX (tyD D) U ∧ (∀ q ∈ nwC, va_Nw (.castable q.1 q.2) U) ∧ (∀ q ∈ nwN, va_Nw (.methodLinkNest q.1 q.2.1 q.2.2.1 q.2.2.2) U) ∧ (∀ q ∈ ncP, va_Nc q.1 q.2 U) ∧ (∀ C ∈ aoL, va_AO C U) ∧ va_AOi D U
theorem KK.warm {D : va_G} {s U : State} (h : KK D s) (hW : s.WarmedH U.vm) : KK D U :=
  ⟨h.1.moved hW.alike, fun q hq => (h.2.1 q hq).warmC hW, fun q hq => (h.2.2.1 q hq).warmM hW, fun q hq => (h.2.2.2.1 q hq).moved hW.alike, fun C hC => (h.2.2.2.2.1 C hC).moved hW.alike, h.2.2.2.2.2.moved hW.alike⟩
theorem KK.calling {D : va_G} {U : State} {g : JFrame} {mk : MethodId} {a : Array Value} (h : KK D U) : KK D (U.calling g mk a) :=
  ⟨va_K.moved (u := U) (U := U.calling g mk a) (Vm.Alike.refl U.vm) h.1, fun q hq => va_Nw.same (u := U) rfl rfl (h.2.1 q hq), fun q hq => va_Nw.same (u := U) rfl rfl (h.2.2.1 q hq), fun q hq => va_Nc.moved (u := U) (U := U.calling g mk a) (Vm.Alike.refl U.vm) (h.2.2.2.1 q hq), fun C hC => va_AO.moved (u := U) (U := U.calling g mk a) (Vm.Alike.refl U.vm) (h.2.2.2.2.1 C hC), va_AOi.moved (u := U) (U := U.calling g mk a) (Vm.Alike.refl U.vm) h.2.2.2.2.2⟩

/-! the ghost heap -/
abbrev gh : Type := Nat → Option va_E
def gUp (G : gh) (a : Nat) (e : va_E) : gh := fun x => if x = a then some e else G x
theorem gUp_s (G : gh) (a : Nat) (e : va_E) : gUp G a e a = some e := if_pos rfl
theorem gUp_n {G : gh} {a b : Nat} {e : va_E} (h : b ≠ a) : gUp G a e b = G b := if_neg h
def gOk (D : va_G) (G : gh) (H : Heap) : Prop := ∀ (a : Nat) (e : va_E), G a = some e → va_at D clX (a, e) H
def gExt (G G' : gh) (M : Nat → Prop) : Prop := ∀ (a : Nat) (e : va_E), G a = some e → ¬ M a → G' a = some e
theorem gExt.rf {G : gh} {M : Nat → Prop} : gExt G G M := fun _ _ h _ => h
theorem gExt.tr {G G1 G2 : gh} {M M1 : Nat → Prop} (h : gExt G G1 M) (h1 : gExt G1 G2 M1) (hM : ∀ a e, G a = some e → M1 a → M a) : gExt G G2 M := fun a e hg hn => h1 a e (h a e hg hn) (fun z => hn (hM a e hg z))
theorem gOk.lt {D : va_G} {G : gh} {H : Heap} (h : gOk D G H) {a : Nat} {e : va_E} (hg : G a = some e) : a < H.size := (h a e hg).lt
theorem gOk.fresh {D : va_G} {G : gh} {H : Heap} (h : gOk D G H) {a : Nat} (ha : H.size ≤ a) : G a = none := by
  cases hg : G a with
  | none => rfl
  | some e => exact absurd (h.lt hg) (Nat.not_lt.mpr ha)
theorem gOk.up {D : va_G} {G : gh} {H H1 : Heap} {a : Nat} {e : va_E} (h : gOk D G H) (he : va_at D clX (a, e) H1) (oq : ∀ q : Nat, q ≠ a → H1[q]? = H[q]?) : gOk D (gUp G a e) H1 := by
  intro b e' hb
  by_cases hba : b = a
  · subst hba
    rw [gUp_s] at hb
    cases hb
    exact he
  · rw [gUp_n hba] at hb
    exact (h b e' hb).kept (oq b hba)
theorem gOk.new {D : va_G} {G : gh} {H H1 : Heap} {e : va_E} (h : gOk D G H) (he : va_at D clX (H.size, e) H1) (oq : ∀ q : Nat, q < H.size → H1[q]? = H[q]?) : gOk D (gUp G H.size e) H1 := by
  intro b e' hb
  by_cases hba : b = H.size
  · subst hba
    rw [gUp_s] at hb
    cases hb
    exact he
  · rw [gUp_n hba] at hb
    exact (h b e' hb).kept (oq b (h.lt hb))
theorem gOk.P1 {D : va_G} {G : gh} {H : Heap} (h : gOk D G H) {a : Nat} {e : va_E} (hg : G a = some e) : va_P D clX [(a, e)] H := fun k q hk => by
  have hz : k < 1 := (List.getElem?_eq_some_iff.mp hk).1
  rw [show k = 0 by omega] at hk
  cases hk
  exact h a e hg
/-! whole numbers -/
def iI (z : Int) : Int32 := Int32.ofInt z
abbrev inR (z : Int) : Prop := -2147483648 ≤ z ∧ z ≤ 2147483647
theorem iI_toInt {z : Int} (h : inR z) : (iI z).toInt = z := Int32.toInt_ofInt_of_le (by have := h.1; omega) (by have := h.2; omega)
theorem iI_of (x : Int32) : iI x.toInt = x := Int32.ofInt_toInt x
theorem iI_ex (x : Int32) : ∃ z : Int, inR z ∧ x = iI z := ⟨x.toInt, ⟨by have := x.le_toInt; omega, by have := x.toInt_lt; omega⟩, (iI_of x).symm⟩
theorem iI_add (a b : Int) : iI a + iI b = iI (a + b) := (Int32.ofInt_add a b).symm
theorem iI_sub (a b : Int) : iI a - iI b = iI (a - b) := (Int32.ofInt_sub a b).symm
theorem iI_mul (a b : Int) : iI a * iI b = iI (a * b) := (Int32.ofInt_mul a b).symm
theorem iI_lt {a b : Int} (ha : inR a) (hb : inR b) : iI a < iI b ↔ a < b := by rw [Int32.lt_iff_toInt_lt, iI_toInt ha, iI_toInt hb]
theorem iI_le {a b : Int} (ha : inR a) (hb : inR b) : iI a ≤ iI b ↔ a ≤ b := by rw [Int32.le_iff_toInt_le, iI_toInt ha, iI_toInt hb]
theorem iI_eq {a b : Int} (ha : inR a) (hb : inR b) : iI a = iI b ↔ a = b := ⟨fun h => by rw [← iI_toInt ha, h, iI_toInt hb], fun h => by rw [h]⟩
theorem iI_0 : iI 0 = 0 := by decide
theorem iI_1 : iI 1 = 1 := by decide
theorem iI_nat {z : Int} (h0 : 0 ≤ z) (h : z ≤ 2147483647) : (iI z).toNatClampNeg = z.toNat := by
  show (iI z).toInt.toNat = _
  rw [iI_toInt ⟨by omega, h⟩]
theorem iI_in {z : Int} {n : Nat} (h0 : 0 ≤ z) (h1 : z < n) (hn : n ≤ 2147483647) : vp_in (iI z) n := by
  rw [vp_in_iff, iI_toInt ⟨by omega, by omega⟩]
  exact ⟨h0, h1⟩

theorem iI_nI (n : Nat) : iI (n : Int) = nI n := Int32.ofInt_eq_ofNat
theorem iI_div {a b : Int} (ha : 0 ≤ a ∧ a ≤ 2147483647) (hb : 0 < b ∧ b ≤ 2147483647) : iI a / iI b = iI (a / b) := by
  obtain ⟨n, rfl⟩ := Int.eq_ofNat_of_zero_le ha.1
  obtain ⟨m, rfl⟩ := Int.eq_ofNat_of_zero_le (Int.le_of_lt hb.1)
  rw [iI_nI, iI_nI, pk_div (by omega) (by omega) (by omega), ← iI_nI, Int.natCast_ediv]
theorem iI_rem {a b : Int} (ha : 0 ≤ a ∧ a ≤ 2147483647) (hb : 0 < b ∧ b ≤ 2147483647) : iI a - iI a / iI b * iI b = iI (a % b) := by
  obtain ⟨n, rfl⟩ := Int.eq_ofNat_of_zero_le ha.1
  obtain ⟨m, rfl⟩ := Int.eq_ofNat_of_zero_le (Int.le_of_lt hb.1)
  rw [iI_nI, iI_nI, pk_rem (by omega) (by omega) (by omega), ← iI_nI, Int.natCast_emod]
def lB (x : BitVec 64) : Int64 := Int64.ofBitVec x
theorem lB_k : ∀ k : Fin 64, ((nI k.val).toInt64 &&& 63).toBitVec.smod 64 = BitVec.ofNat 64 k.val := by decide +kernel
theorem lB_u : ∀ k : Fin 64, ((nI k.val).toInt64.toUInt64 &&& Int64.toUInt64 63) = UInt64.ofNat k.val := by decide +kernel
theorem lB_shl (x : BitVec 64) {a : Int} (ha : 0 ≤ a ∧ a < 64) : lB x <<< ((iI a).toInt64 &&& 63) = lB (x <<< a.toNat) := by
  obtain ⟨n, rfl⟩ := Int.eq_ofNat_of_zero_le ha.1
  have hn : n < 64 := by omega
  rw [iI_nI]
  show Int64.ofBitVec (x <<< ((nI n).toInt64 &&& 63).toBitVec.smod 64) = _
  rw [lB_k ⟨n, hn⟩]
  show Int64.ofBitVec (x <<< (BitVec.ofNat 64 n).toNat) = _
  rw [BitVec.toNat_ofNat, Nat.mod_eq_of_lt (by omega)]
  rfl
theorem lB_shr (x : BitVec 64) {a : Int} (ha : 0 ≤ a ∧ a < 64) : ((lB x).toUInt64 >>> ((iI a).toInt64.toUInt64 &&& Int64.toUInt64 63)).toInt64 = lB (x >>> a.toNat) := by
  obtain ⟨n, rfl⟩ := Int.eq_ofNat_of_zero_le ha.1
  have hn : n < 64 := by omega
  rw [iI_nI, lB_u ⟨n, hn⟩]
  apply Int64.toBitVec.inj
  show (x >>> ((UInt64.ofNat n).toBitVec % 64).toNat) = x >>> n
  congr 1
  rw [BitVec.toNat_umod]
  show (UInt64.ofNat n).toNat % 64 = n
  rw [UInt64.toNat_ofNat_of_lt' (by show n < 2 ^ 64; omega)]
  omega
/-! arrays -/
def upI {α : Type} (f : Int → α) (k : Int) (v : α) : Int → α := fun j => if j = k then v else f j
theorem upI_s {α : Type} (f : Int → α) (k : Int) (v : α) : upI f k v k = v := if_pos rfl
theorem upI_n {α : Type} {f : Int → α} {k j : Int} {v : α} (h : j ≠ k) : upI f k v j = f j := if_neg h
def eI (D : va_G) (n : Nat) (f : Int → Int) : va_E := .inl (D.1 100, n, .inl (fun j => iI (f j)))
def eJ (D : va_G) (n : Nat) (f : Int → Int64) : va_E := .inl (D.1 101, n, .inr (.inl (fun j => f j)))
def eQ (D : va_G) (k : Nat) (n : Nat) (f : Int → Option Nat) : va_E := .inl (D.1 (102 + k), n, .inr (.inr (.inr (.inr (fun j => f j)))))
def eO (ci : Nat) (fs : List Value) : va_E := .inr (ci, fs)
