/-! the class itself -/
def cS (D : va_G) (B : Nat → Nat) (rc ac : Int) (rf : Int → Int) (sa : Nat) (bf : Int → Option Nat) (row : Int → Int → Int) (most : Int) (G : gh) : Prop := G (B 0) = some (eO 10 [.ref (B 1), .ref (B 14), .int (iI rc), .ref sa, .ref (B 15), .int (iI ac)]) ∧ cC D B row most G ∧ G (B 14) = some (eI D 40 rf) ∧ G (B 15) = some (eQ D 3 32 bf)
section CS
variable {D : va_G} {B : Nat → Nat} {rc ac most : Int} {rf : Int → Int} {sa : Nat} {bf : Int → Option Nat} {row : Int → Int → Int} {G G1 : gh}
theorem cS.inj (h : cS D B rc ac rf sa bf row most G) {i j : Nat} (hi : i < 16) (hj : j < 16) (hn : i ≠ j) : B i ≠ B j := fun q => hn (h.2.1.2.2.2 i j hi hj q)
theorem cS.le (h : cS D B rc ac rf sa bf row most G) (hl : gLe G G1) : cS D B rc ac rf sa bf row most G1 := ⟨hl _ _ h.1, h.2.1.le hl, hl _ _ h.2.2.1, hl _ _ h.2.2.2⟩
theorem cS.at (h : cS D B rc ac rf sa bf row most G) : ∀ i : Nat, i < 16 → ∃ e, G (B i) = some e := by
  intro i hi
  by_cases e0 : i = 0
  · exact ⟨_, e0 ▸ h.1⟩
  by_cases e1 : i = 1
  · exact ⟨_, e1 ▸ h.2.1.1⟩
  by_cases e2 : i = 2
  · exact ⟨_, e2 ▸ h.2.1.2.1⟩
  by_cases e3 : i = 14
  · exact ⟨_, e3 ▸ h.2.2.1⟩
  by_cases e4 : i = 15
  · exact ⟨_, e4 ▸ h.2.2.2⟩
  have := h.2.1.2.2.1 ((i : Int) - 3) (by omega) (by omega)
  rw [show rB ((i : Int) - 3) = i by unfold rB; omega] at this
  exact ⟨_, this⟩
theorem cS.nea (h : cS D B rc ac rf sa bf row most G) {a : Nat} (hn : G a = none) : ∀ i : Nat, i < 16 → B i ≠ a := fun i hi e => by
  obtain ⟨x, hx⟩ := h.at i hi
  rw [e, hn] at hx
  cases hx
theorem cS.one (h : cS D B rc ac rf sa bf row most G) {a : Nat} (hx : gExt G G1 (fun x => x = a)) (ha : ∀ i : Nat, i < 16 → B i ≠ a) : cS D B rc ac rf sa bf row most G1 := ⟨hx _ _ h.1 (ha 0 (by omega)), ⟨hx _ _ h.2.1.1 (ha 1 (by omega)), hx _ _ h.2.1.2.1 (ha 2 (by omega)), fun i i0 i1 => hx _ _ (h.2.1.2.2.1 i i0 i1) (ha _ (by unfold rB; omega)), h.2.1.2.2.2⟩, hx _ _ h.2.2.1 (ha 14 (by omega)), hx _ _ h.2.2.2 (ha 15 (by omega))⟩
theorem cS.cc (h : cS D B rc ac rf sa bf row most G) {row' : Int → Int → Int} {most' : Int} (hk : ∀ (b : Nat) (e : va_E), (∀ j : Nat, 1 ≤ j → j < 14 → b ≠ B j) → G b = some e → G1 b = some e) (hc : cC D B row' most' G1) : cS D B rc ac rf sa bf row' most' G1 := ⟨hk _ _ (fun j j0 j1 => h.inj (by omega) (by omega) (by omega)) h.1, hc, hk _ _ (fun j j0 j1 => h.inj (by omega) (by omega) (by omega)) h.2.2.1, hk _ _ (fun j j0 j1 => h.inj (by omega) (by omega) (by omega)) h.2.2.2⟩
theorem nM {a : Nat} (h : ∀ i : Nat, i < 16 → B i ≠ a) : ¬ cM B a := fun ⟨i, hi, e⟩ => h i hi e.symm
theorem Nok.cs {N : Nat → Prop} {G0 : gh} (h : Nok N G0) (hx : gExt G0 G1 (cM B)) (hs : cS D B rc ac rf sa bf row most G1) : Nok N G1 := fun b hb z => by
  rcases Classical.em (cM B b) with ⟨i, hi, e⟩ | q
  · exact hs.nea z i hi e.symm
  · cases hg : G0 b with
    | none => exact h b hb hg
    | some e => rw [hx b e hg q] at z; cases z
variable {F : fxT} {cc : ByteArray} {nL : Nat} {own : String} {rm : Room} {ce sl pc : Nat} {L : List (Nat × Value)} {st : List Value}
theorem x_get_choices (S : FX F cc nL own rm D) (h : cS D B rc ac rf sa bf row most G) {idx : Nat} (f : GetOK own idx 10 0) (d : decode cc pc = .ok (.getfield idx, 3)) (k : V F nL G ce sl (pc + 3) L (.ref (B 1) :: st)) : V F nL G ce sl pc L (.ref (B 0) :: st) := r_get S f h.1 rfl d k
theorem x_get_reelFaces (S : FX F cc nL own rm D) (h : cS D B rc ac rf sa bf row most G) {idx : Nat} (f : GetOK own idx 10 1) (d : decode cc pc = .ok (.getfield idx, 3)) (k : V F nL G ce sl (pc + 3) L (.ref (B 14) :: st)) : V F nL G ce sl pc L (.ref (B 0) :: st) := r_get S f h.1 rfl d k
theorem x_get_reelCount (S : FX F cc nL own rm D) (h : cS D B rc ac rf sa bf row most G) {idx : Nat} (f : GetOK own idx 10 2) (d : decode cc pc = .ok (.getfield idx, 3)) (k : V F nL G ce sl (pc + 3) L (.int (iI rc) :: st)) : V F nL G ce sl pc L (.ref (B 0) :: st) := r_get S f h.1 rfl d k
theorem x_get_now (S : FX F cc nL own rm D) (h : cS D B rc ac rf sa bf row most G) {idx : Nat} (f : GetOK own idx 10 3) (d : decode cc pc = .ok (.getfield idx, 3)) (k : V F nL G ce sl (pc + 3) L (.ref sa :: st)) : V F nL G ce sl pc L (.ref (B 0) :: st) := r_get S f h.1 rfl d k
theorem x_get_before (S : FX F cc nL own rm D) (h : cS D B rc ac rf sa bf row most G) {idx : Nat} (f : GetOK own idx 10 4) (d : decode cc pc = .ok (.getfield idx, 3)) (k : V F nL G ce sl (pc + 3) L (.ref (B 15) :: st)) : V F nL G ce sl pc L (.ref (B 0) :: st) := r_get S f h.1 rfl d k
theorem x_get_acts (S : FX F cc nL own rm D) (h : cS D B rc ac rf sa bf row most G) {idx : Nat} (f : GetOK own idx 10 5) (d : decode cc pc = .ok (.getfield idx, 3)) (k : V F nL G ce sl (pc + 3) L (.int (iI ac) :: st)) : V F nL G ce sl pc L (.ref (B 0) :: st) := r_get S f h.1 rfl d k
theorem x_put_reelCount (S : FX F cc nL own rm D) (hb : fMut F) (hM : ∀ a, cM B a → wr F a) (h : cS D B rc ac rf sa bf row most G) {idx : Nat} {x : Int} (f : PutOK own idx 10 2 false .int) (d : decode cc pc = .ok (.putfield idx, 3)) (k : ∀ G1 : gh, gExt G G1 (cM B) → cS D B x ac rf sa bf row most G1 → V F nL G1 ce sl (pc + 3) L st) : V F nL G ce sl pc L (.int (iI x) :: .ref (B 0) :: st) := by
  have hm : cM B (B 0) := cM_i _ (by omega)
  refine r_put S hb f h.1 (hM _ hm) (by show 2 < 6; decide) rfl rfl d (k_set (fun G1 h1 ho => ?_))
  exact k G1 (gExt.one hm ho) ⟨h1, h.2.1.keep ho rfl (by omega) (by omega) (by omega) (by omega), ho _ _ (h.inj (by omega) (by omega) (by omega)) h.2.2.1, ho _ _ (h.inj (by omega) (by omega) (by omega)) h.2.2.2⟩
theorem x_put_now (S : FX F cc nL own rm D) (hb : fMut F) (hM : ∀ a, cM B a → wr F a) (h : cS D B rc ac rf sa bf row most G) {idx : Nat} {x : Nat} (f : PutOK own idx 10 3 false (.object "PostageCounter$State")) (d : decode cc pc = .ok (.putfield idx, 3)) (k : ∀ G1 : gh, gExt G G1 (cM B) → cS D B rc ac rf x bf row most G1 → V F nL G1 ce sl (pc + 3) L st) : V F nL G ce sl pc L (.ref x :: .ref (B 0) :: st) := by
  have hm : cM B (B 0) := cM_i _ (by omega)
  refine r_put S hb f h.1 (hM _ hm) (by show 3 < 6; decide) rfl rfl d (k_set (fun G1 h1 ho => ?_))
  exact k G1 (gExt.one hm ho) ⟨h1, h.2.1.keep ho rfl (by omega) (by omega) (by omega) (by omega), ho _ _ (h.inj (by omega) (by omega) (by omega)) h.2.2.1, ho _ _ (h.inj (by omega) (by omega) (by omega)) h.2.2.2⟩
theorem x_put_acts (S : FX F cc nL own rm D) (hb : fMut F) (hM : ∀ a, cM B a → wr F a) (h : cS D B rc ac rf sa bf row most G) {idx : Nat} {x : Int} (f : PutOK own idx 10 5 false .int) (d : decode cc pc = .ok (.putfield idx, 3)) (k : ∀ G1 : gh, gExt G G1 (cM B) → cS D B rc x rf sa bf row most G1 → V F nL G1 ce sl (pc + 3) L st) : V F nL G ce sl pc L (.int (iI x) :: .ref (B 0) :: st) := by
  have hm : cM B (B 0) := cM_i _ (by omega)
  refine r_put S hb f h.1 (hM _ hm) (by show 5 < 6; decide) rfl rfl d (k_set (fun G1 h1 ho => ?_))
  exact k G1 (gExt.one hm ho) ⟨h1, h.2.1.keep ho rfl (by omega) (by omega) (by omega) (by omega), ho _ _ (h.inj (by omega) (by omega) (by omega)) h.2.2.1, ho _ _ (h.inj (by omega) (by omega) (by omega)) h.2.2.2⟩
theorem x_st_reel (S : FX F cc nL own rm D) (hb : fMut F) (hM : ∀ a, cM B a → wr F a) (h : cS D B rc ac rf sa bf row most G) {i x : Int} (hi : 0 ≤ i ∧ i < 40) (d : decode cc pc = .ok (.iastore, 1)) (k : ∀ G1 : gh, gExt G G1 (cM B) → cS D B rc ac (upI rf i x) sa bf row most G1 → V F nL G1 ce sl (pc + 1) L st) : V F nL G ce sl pc L (.int (iI x) :: .int (iI i) :: .ref (B 14) :: st) := by
  have hm : cM B (B 14) := cM_i _ (by omega)
  refine r_iast S hb h.2.2.1 (hM _ hm) hi.1 hi.2 (by decide) d (k_set (fun G1 h1 ho => ?_))
  exact k G1 (gExt.one hm ho) ⟨ho _ _ (h.inj (by omega) (by omega) (by omega)) h.1, h.2.1.keep ho rfl (by omega) (by omega) (by omega) (by omega), h1, ho _ _ (h.inj (by omega) (by omega) (by omega)) h.2.2.2⟩
theorem x_st_bef (S : FX F cc nL own rm D) (hb : fMut F) (hM : ∀ a, cM B a → wr F a) (h : cS D B rc ac rf sa bf row most G) {i : Int} {v : Nat} {vs : List Value} (hv : G v = some (eO 7 vs)) (hi : 0 ≤ i ∧ i < 32) (d : decode cc pc = .ok (.aastore, 1)) (k : ∀ G1 : gh, gExt G G1 (cM B) → cS D B rc ac rf sa (upI bf i (some v)) row most G1 → V F nL G1 ce sl (pc + 1) L st) : V F nL G ce sl pc L (.ref v :: .int (iI i) :: .ref (B 15) :: st) := by
  have hm : cM B (B 15) := cM_i _ (by omega)
  refine r_aast S hb h.2.2.2 hv ⟨_, rfl, by decide⟩ rfl (hM _ hm) hi.1 hi.2 (by decide) d (k_set (fun G1 h1 ho => ?_))
  exact k G1 (gExt.one hm ho) ⟨ho _ _ (h.inj (by omega) (by omega) (by omega)) h.1, h.2.1.keep ho rfl (by omega) (by omega) (by omega) (by omega), ho _ _ (h.inj (by omega) (by omega) (by omega)) h.2.2.1, h1⟩
end CS
/-- the class, as its calls leave it -/
def cQ (D : va_G) (N : Nat → Prop) (B : Nat → Nat) (now : Int → Int) (hist : Int → Int → Int) (km rd : Int) (reel : Int → Int) (G : gh) : Prop := ∃ (rf : Int → Int) (sa : Nat) (bf : Int → Option Nat) (row : Int → Int → Int) (most : Int), cS D B rd km rf sa bf row most G ∧ stO D N G now sa ∧ (∀ i : Int, 0 ≤ i → i < km → ∃ s : Nat, bf (km - 1 - i) = some s ∧ stO D N G (hist i) s) ∧ (∀ k : Int, 0 ≤ k → k < rd → rf k = reel k) ∧ 0 ≤ most ∧ most < 3000
def cEnd (D : va_G) (N : Nat → Prop) (B : Nat → Nat) (now : Int → Int) (hist : Int → Int → Int) (km rd : Int) (reel : Int → Int) (r : sR) : Int → gh → Prop := fun z G => z = r.1 ∧ match r.2 with
  | none => cQ D N B now hist km rd reel G
  | some nw => cQ D N B nw (pushH now hist) (kmF km) rd reel G
section CQ
variable {D : va_G} {N : Nat → Prop} {B : Nat → Nat} {now nw : Int → Int} {hist : Int → Int → Int} {km rd : Int} {reel : Int → Int} {G G1 : gh} {r : sR} {z : Int}
theorem cEnd.m0 (e : r = (z, none)) (h : cQ D N B now hist km rd reel G) : cEnd D N B now hist km rd reel r z G := by rw [e]; exact ⟨rfl, h⟩
theorem cEnd.m1 (e : r = (z, some nw)) (h : cQ D N B nw (pushH now hist) (kmF km) rd reel G) : cEnd D N B now hist km rd reel r z G := by rw [e]; exact ⟨rfl, h⟩
theorem stO.obj {a : Nat} (h : stO D N G now a) : ∃ vs : List Value, G a = some (eO 7 vs) := by
  obtain ⟨pa, la, wa, ea, h1, -⟩ := h
  exact ⟨_, h1.1⟩
/-- nothing but the choices' rows has changed, or there are new cells -/
theorem cQ.keep {rf : Int → Int} {sa : Nat} {bf : Int → Option Nat} {row : Int → Int → Int} {most : Int} (hs : cS D B rd km rf sa bf row most G1) (hm : 0 ≤ most ∧ most < 3000) (hx : gExt G G1 (cM B)) (hcN : ∀ b, cM B b → N b) (hst : stO D N G now sa) (hbf : ∀ i : Int, 0 ≤ i → i < km → ∃ s : Nat, bf (km - 1 - i) = some s ∧ stO D N G (hist i) s) (hrf : ∀ k : Int, 0 ≤ k → k < rd → rf k = reel k) : cQ D N B now hist km rd reel G1 := by
  refine ⟨rf, sa, bf, row, most, hs, hst.mono (gExt.up hx hcN), fun i i0 i1 => ?_, hrf, hm⟩
  obtain ⟨s, h1, h2⟩ := hbf i i0 i1
  exact ⟨s, h1, h2.mono (gExt.up hx hcN)⟩
end CQ
