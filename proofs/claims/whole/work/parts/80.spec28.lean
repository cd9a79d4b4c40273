/-! the class's cells that change: B 0 itself, B 1 the choices, B 2 the rows, B 3 .. B 13 each row, B 14 the reel, B 15 what was before -/
def cM (B : Nat → Nat) : Nat → Prop := fun a => ∃ i : Nat, i < 16 ∧ a = B i
theorem cM_i {B : Nat → Nat} (i : Nat) (h : i < 16) : cM B (B i) := ⟨i, h, rfl⟩
/-- of these the choices' own -/
def cR (B : Nat → Nat) : Nat → Prop := fun a => ∃ i : Nat, 1 ≤ i ∧ i < 14 ∧ a = B i
theorem cR_i {B : Nat → Nat} (i : Nat) (h0 : 1 ≤ i) (h : i < 14) : cR B (B i) := ⟨i, h0, h, rfl⟩
theorem cR_M {B : Nat → Nat} {a : Nat} (h : cR B a) : cM B a := by
  obtain ⟨i, -, i1, e⟩ := h
  exact ⟨i, by omega, e⟩
def rB (i : Int) : Nat := 3 + i.toNat
def cC (D : va_G) (B : Nat → Nat) (row : Int → Int → Int) (most : Int) (G : gh) : Prop := G (B 1) = some (eO 1 [.ref (B 2), .int (iI most)]) ∧ G (B 2) = some (eQ D 4 11 (fun i => some (B (rB i)))) ∧ (∀ i : Int, 0 ≤ i → i ≤ 10 → G (B (rB i)) = some (eI D 3000 (row i))) ∧ ∀ i j : Nat, i < 16 → j < 16 → B i = B j → i = j
section CC
variable {D : va_G} {B : Nat → Nat} {row : Int → Int → Int} {most : Int} {G G1 : gh}
theorem cC.keep (h : cC D B row most G) {a : Nat} (ho : ∀ (b : Nat) (e : va_E), b ≠ a → G b = some e → G1 b = some e) {k : Nat} (ha : a = B k) (hk : k < 16) (h1 : k ≠ 1) (h2 : k ≠ 2) (h3 : k < 3 ∨ 14 ≤ k) : cC D B row most G1 := by
  have hne : ∀ i : Nat, i < 16 → i ≠ k → B i ≠ a := fun i hi e q => e (h.2.2.2 i k hi hk (q.trans ha))
  exact ⟨ho _ _ (hne 1 (by omega) (by omega)) h.1, ho _ _ (hne 2 (by omega) (by omega)) h.2.1, fun i i0 i1 => ho _ _ (hne _ (by unfold rB; omega) (by unfold rB; omega)) (h.2.2.1 i i0 i1), h.2.2.2⟩
theorem cC.row' (h : cC D B row most G) {i : Int} (hi : 0 ≤ i ∧ i ≤ 10) {f : Int → Int} (ha : G1 (B (rB i)) = some (eI D 3000 f)) (ho : ∀ (b : Nat) (e : va_E), b ≠ B (rB i) → G b = some e → G1 b = some e) : cC D B (upI row i f) most G1 := by
  have hk : rB i < 16 := by unfold rB; omega
  have hne : ∀ j : Nat, j < 16 → j ≠ rB i → B j ≠ B (rB i) := fun j hj e q => e (h.2.2.2 j _ hj hk q)
  refine ⟨ho _ _ (hne 1 (by omega) (by unfold rB; omega)) h.1, ho _ _ (hne 2 (by omega) (by unfold rB; omega)) h.2.1, fun j j0 j1 => ?_, h.2.2.2⟩
  by_cases e : j = i
  · rw [e, upI_s]; exact ha
  · rw [upI_n e]
    exact ho _ _ (hne _ (by unfold rB; omega) (by unfold rB; omega)) (h.2.2.1 j j0 j1)
theorem cC.most' (h : cC D B row most G) {m : Int} (ha : G1 (B 1) = some (eO 1 [.ref (B 2), .int (iI m)])) (ho : ∀ (b : Nat) (e : va_E), b ≠ B 1 → G b = some e → G1 b = some e) : cC D B row m G1 := by
  have hne : ∀ j : Nat, j < 16 → j ≠ 1 → B j ≠ B 1 := fun j hj e q => e (h.2.2.2 j _ hj (by omega) q)
  exact ⟨ha, ho _ _ (hne 2 (by omega) (by omega)) h.2.1, fun j j0 j1 => ho _ _ (hne _ (by unfold rB; omega) (by unfold rB; omega)) (h.2.2.1 j j0 j1), h.2.2.2⟩
theorem upI_up {α : Type} (f : Int → α) (k : Int) (u v : α) : upI (upI f k u) k v = upI f k v := by
  funext j
  unfold upI
  by_cases e : j = k
  · rw [if_pos e, if_pos e]
  · rw [if_neg e, if_neg e, if_neg e]
theorem upI_id {α : Type} (f : Int → α) (k : Int) : upI f k (f k) = f := by
  funext j
  unfold upI
  by_cases e : j = k
  · rw [if_pos e, e]
  · rw [if_neg e]
theorem gExt.one {a : Nat} {M : Nat → Prop} (hM : M a) (ho : ∀ (b : Nat) (e : va_E), b ≠ a → G b = some e → G1 b = some e) : gExt G G1 M := fun b e h hn => ho b e (fun z => hn (by rw [z]; exact hM)) h
theorem gExt.tr2 {G2 : gh} {M : Nat → Prop} (h : gExt G G1 M) (h1 : gExt G1 G2 M) : gExt G G2 M := fun a e hg hn => h1 a e (h a e hg hn) hn
variable {F : fxT} {cc : ByteArray} {nL : Nat} {own : String} {rm : Room} {ce sl pc : Nat} {L : List (Nat × Value)} {st : List Value}
theorem c_ld (S : FX F cc nL own rm D) (h : cC D B row most G) {i s : Int} (hi : 0 ≤ i ∧ i ≤ 10) (hs : 0 ≤ s ∧ s < 3000) (d : decode cc pc = .ok (.iaload, 1)) (k : V F nL G ce sl (pc + 1) L (.int (iI (row i s)) :: st)) : V F nL G ce sl pc L (.int (iI s) :: .ref (B (rB i)) :: st) := r_iald S (h.2.2.1 i hi.1 hi.2) hs.1 hs.2 (by decide) d k
theorem c_st (S : FX F cc nL own rm D) (hb : fMut F) (hM : ∀ a, cR B a → wr F a) (h : cC D B row most G) {i s x : Int} (hi : 0 ≤ i ∧ i ≤ 10) (hs : 0 ≤ s ∧ s < 3000) (d : decode cc pc = .ok (.iastore, 1)) (k : ∀ G1 : gh, gExt G G1 (cR B) → cC D B (upI row i (upI (row i) s x)) most G1 → V F nL G1 ce sl (pc + 1) L st) : V F nL G ce sl pc L (.int (iI x) :: .int (iI s) :: .ref (B (rB i)) :: st) := by
  have hm : cR B (B (rB i)) := cR_i _ (by unfold rB; omega) (by unfold rB; omega)
  refine r_iast S hb (h.2.2.1 i hi.1 hi.2) (hM _ hm) hs.1 hs.2 (by decide) d (k_set (fun G1 h1 ho => ?_))
  exact k G1 (gExt.one hm ho) (h.row' hi h1 ho)
theorem c_rows (S : FX F cc nL own rm D) (h : cC D B row most G) {idx : Nat} (f : GetOK own idx 1 0) (d : decode cc pc = .ok (.getfield idx, 3)) (k : V F nL G ce sl (pc + 3) L (.ref (B 2) :: st)) : V F nL G ce sl pc L (.ref (B 1) :: st) := r_get S f h.1 rfl d k
theorem c_most (S : FX F cc nL own rm D) (h : cC D B row most G) {idx : Nat} (f : GetOK own idx 1 1) (d : decode cc pc = .ok (.getfield idx, 3)) (k : V F nL G ce sl (pc + 3) L (.int (iI most) :: st)) : V F nL G ce sl pc L (.ref (B 1) :: st) := r_get S f h.1 rfl d k
theorem c_aald (S : FX F cc nL own rm D) (h : cC D B row most G) {i : Int} (hi : 0 ≤ i ∧ i ≤ 10) (d : decode cc pc = .ok (.aaload, 1)) (k : V F nL G ce sl (pc + 1) L (.ref (B (rB i)) :: st)) : V F nL G ce sl pc L (.int (iI i) :: .ref (B 2) :: st) := r_aaldA rfl h.2.1 hi.1 (by omega) (by decide) S d k
theorem c_pmost (S : FX F cc nL own rm D) (hb : fMut F) (hM : ∀ a, cR B a → wr F a) (h : cC D B row most G) {idx : Nat} {x : Int} (f : PutOK own idx 1 1 false .int) (d : decode cc pc = .ok (.putfield idx, 3)) (k : ∀ G1 : gh, gExt G G1 (cR B) → cC D B row x G1 → V F nL G1 ce sl (pc + 3) L st) : V F nL G ce sl pc L (.int (iI x) :: .ref (B 1) :: st) := by
  have hm : cR B (B 1) := cR_i _ (by omega) (by omega)
  refine r_put S hb f h.1 (hM _ hm) (by show 1 < 2; decide) rfl rfl d (k_set (fun G1 h1 ho => ?_))
  exact k G1 (gExt.one hm ho) (h.most' h1 ho)
end CC
/-- rows whose sums are counted -/
def rwBd (row : Int → Int → Int) (most p : Int) : Prop := ∀ i s : Int, (i = p ∨ i = 1 + p) → 0 ≤ s → s ≤ most → 0 ≤ row i s ∧ row i s ≤ 1000000
theorem cC.le {D : va_G} {B : Nat → Nat} {row : Int → Int → Int} {most : Int} {G G1 : gh} (h : cC D B row most G) (hl : gLe G G1) : cC D B row most G1 := ⟨hl _ _ h.1, hl _ _ h.2.1, fun i i0 i1 => hl _ _ (h.2.2.1 i i0 i1), h.2.2.2⟩
theorem offR_bd {most pays st s : Int} {f b : Int → Int} (hst : 0 ≤ st) (hs : 0 ≤ s ∧ s ≤ most) (hp : 0 ≤ pays) (hf : 0 ≤ f s ∧ f s ≤ 1000000) (hb : ∀ x : Int, 0 ≤ x → x ≤ most → 0 ≤ b x) : 0 ≤ offR most pays st f b s ∧ offR most pays st f b s ≤ 1000000 := by
  rw [offR_min hs.2]
  by_cases e : pays ≤ s
  · rw [if_pos e]
    have := hb (s - pays) (by omega) (by omega)
    omega
  · rw [if_neg e]; exact hf
