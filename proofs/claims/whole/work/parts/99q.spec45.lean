/-! class and reference side by side -/
def NN (B A : Nat → Nat) : Nat → Prop := fun x => cM B x ∨ mM A x
def apB (B A : Nat → Nat) : Prop := ∀ i j : Nat, i < 16 → j < 6 → B i ≠ A j
def okAll (now : Int → Int) (hist : Int → Int → Int) (km rd : Int) (reel : Int → Int) : Prop := mOK now ∧ (∀ i : Int, 0 ≤ i → i < km → mOK (hist i)) ∧ (0 ≤ km ∧ km ≤ 32) ∧ (0 ≤ rd ∧ rd ≤ 40) ∧ ∀ k : Int, 0 ≤ k → k < rd → 1 ≤ reel k ∧ reel k ≤ 500
/-- what holds between two calls of the law -/
def lwS (D : va_G) (B A : Nat → Nat) (G : gh) : Prop := ∃ (now : Int → Int) (hist : Int → Int → Int) (km rd : Int) (reel : Int → Int), okAll now hist km rd reel ∧ mQ D A now hist km rd reel G ∧ cQ D (NN B A) B now hist km rd reel G
section SIDE
variable {D : va_G} {A B : Nat → Nat} {now : Int → Int} {hist : Int → Int → Int} {km rd : Int} {reel : Int → Int} {G G1 G2 : gh} {M : Nat → Prop}
theorem mQ.keep (h : mQ D A now hist km rd reel G) (hx : gExt G G1 M) (hn : ∀ j : Nat, j < 6 → ¬ M (A j)) : mQ D A now hist km rd reel G1 := by
  obtain ⟨th, ke, kept, part, best, ⟨h0, h1, h2, h3, h4, h5, h6⟩, hk⟩ := h
  exact ⟨th, ke, kept, part, best, ⟨hx _ _ h0 (hn 0 (by omega)), hx _ _ h1 (hn 1 (by omega)), hx _ _ h2 (hn 2 (by omega)), hx _ _ h3 (hn 3 (by omega)), hx _ _ h4 (hn 4 (by omega)), hx _ _ h5 (hn 5 (by omega)), h6⟩, hk⟩
theorem cS.keep {rc ac most : Int} {rf : Int → Int} {sa : Nat} {bf : Int → Option Nat} {row : Int → Int → Int} (h : cS D B rc ac rf sa bf row most G) (hx : gExt G G1 M) (hn : ∀ i : Nat, i < 16 → ¬ M (B i)) : cS D B rc ac rf sa bf row most G1 :=
  ⟨hx _ _ h.1 (hn 0 (by omega)), ⟨hx _ _ h.2.1.1 (hn 1 (by omega)), hx _ _ h.2.1.2.1 (hn 2 (by omega)), fun i i0 i1 => hx _ _ (h.2.1.2.2.1 i i0 i1) (hn _ (by unfold rB; omega)), h.2.1.2.2.2⟩, hx _ _ h.2.2.1 (hn 14 (by omega)), hx _ _ h.2.2.2 (hn 15 (by omega))⟩
theorem cQ.kept {N : Nat → Prop} (h : cQ D N B now hist km rd reel G) (hx : gExt G G1 M) (hM : ∀ x, M x → N x) (hn : ∀ i : Nat, i < 16 → ¬ M (B i)) : cQ D N B now hist km rd reel G1 := by
  obtain ⟨rf, sa, bf, row, most, hcs, hst, hbf, hrf, hmost⟩ := h
  refine ⟨rf, sa, bf, row, most, hcs.keep hx hn, hst.mono (gExt.up hx hM), fun i i0 i1 => ?_, hrf, hmost⟩
  obtain ⟨s, h1, h2⟩ := hbf i i0 i1
  exact ⟨s, h1, h2.mono (gExt.up hx hM)⟩
theorem cQ.grow {N N' : Nat → Prop} (hx : ∀ b : Nat, N' b → N b ∨ G b = none) (h : cQ D N B now hist km rd reel G) : cQ D N' B now hist km rd reel G := by
  obtain ⟨rf, sa, bf, row, most, hcs, hst, hbf, hrf, hmost⟩ := h
  refine ⟨rf, sa, bf, row, most, hcs, hst.grow hx, fun i i0 i1 => ?_, hrf, hmost⟩
  obtain ⟨s, h1, h2⟩ := hbf i i0 i1
  exact ⟨s, h1, h2.grow hx⟩
theorem mQ.b0 (h : mQ D A now hist km rd reel G) : ∃ fs : List Value, G (A 0) = some (eO 11 fs) := by
  obtain ⟨th, ke, kept, part, best, h0, -⟩ := h
  exact ⟨_, h0.1⟩
theorem cQ.b0 {N : Nat → Prop} (h : cQ D N B now hist km rd reel G) : ∃ fs : List Value, G (B 0) = some (eO 10 fs) := by
  obtain ⟨rf, sa, bf, row, most, h0, -⟩ := h
  exact ⟨_, h0.1⟩
theorem mQ.ne (h : mQ D A now hist km rd reel G) : ∀ j : Nat, j < 6 → G (A j) ≠ none := by
  obtain ⟨th, ke, kept, part, best, ⟨h0, h1, h2, h3, h4, h5, h6⟩, hk⟩ := h
  intro j hj
  rcases (show j = 0 ∨ j = 1 ∨ j = 2 ∨ j = 3 ∨ j = 4 ∨ j = 5 by omega) with e | e | e | e | e | e <;> subst e
  · rw [h0]; exact fun z => by cases z
  · rw [h1]; exact fun z => by cases z
  · rw [h2]; exact fun z => by cases z
  · rw [h3]; exact fun z => by cases z
  · rw [h4]; exact fun z => by cases z
  · rw [h5]; exact fun z => by cases z
theorem Nok_NN {N : Nat → Prop} (hc : cQ D N B now hist km rd reel G) (hm : mQ D A now hist km rd reel G) : Nok (NN B A) G := fun x hx => by
  rcases hx with ⟨i, hi, rfl⟩ | ⟨j, hj, rfl⟩
  · obtain ⟨rf, sa, bf, row, most, hcs, -⟩ := hc
    obtain ⟨e, he⟩ := hcs.at i hi
    rw [he]
    exact fun z => by cases z
  · exact hm.ne j hj
theorem apB.m (ha : apB B A) : ∀ j : Nat, j < 6 → ¬ cM B (A j) := fun j hj ⟨i, hi, e⟩ => ha i j hi hj e.symm
theorem apB.c (ha : apB B A) : ∀ i : Nat, i < 16 → ¬ mM A (B i) := fun i hi ⟨j, hj, e⟩ => ha i j hi hj e
theorem st_read (ho : okAll now hist km rd reel) (hc : cQ D (NN B A) B now hist km rd reel G1) (hm : mQ D A now hist km rd reel G2) (hx : gExt G1 G2 (mM A)) (ha : apB B A) : lwS D B A G2 := ⟨now, hist, km, rd, reel, ho, hm, hc.kept hx (fun _ h => Or.inr h) ha.c⟩
theorem okAll.push {nw : Int → Int} {rd' : Int} (ho : okAll now hist km rd reel) (h : mOK nw) (hrd : 0 ≤ rd' ∧ rd' ≤ rd) : okAll nw (pushH now hist) (kmF km) rd' reel := by
  obtain ⟨o1, o2, o3, o4, o5⟩ := ho
  refine ⟨h, fun i i0 i1 => ?_, by unfold kmF; split <;> omega, by omega, fun k k0 k1 => o5 k k0 (by omega)⟩
  unfold pushH
  by_cases e : i = 0
  · rw [if_pos e]; exact o1
  · rw [if_neg e]
    refine o2 _ (by omega) ?_
    unfold kmF at i1
    split at i1 <;> omega
theorem st_end {r : sR} {z z' : Int} (ho : okAll now hist km rd reel) (hr : ∀ nw : Int → Int, r.2 = some nw → mOK nw) (hc : cEnd D (NN B A) B now hist km rd reel r z G1) (hm : mEnd D A now hist km rd reel r z' G2) (hx : gExt G1 G2 (mM A)) (ha : apB B A) : z' = z ∧ lwS D B A G2 := by
  obtain ⟨y, o⟩ := r
  obtain ⟨c1, c2⟩ := hc
  obtain ⟨m1, m2⟩ := hm
  refine ⟨m1.trans c1.symm, ?_⟩
  cases o with
  | none => exact st_read ho c2 m2 hx ha
  | some nw => exact st_read (ho.push (hr nw rfl) ⟨ho.2.2.2.1.1, Int.le_refl _⟩) c2 m2 hx ha
theorem st_endS {r : sR} {z z' : Int} (ho : okAll now hist km rd reel) (hr : ∀ nw : Int → Int, r.2 = some nw → mOK nw) (hc : cEndS D (NN B A) B now hist km rd reel r z G1) (hm : mEndS D A now hist km rd reel r z' G2) (hx : gExt G1 G2 (mM A)) (ha : apB B A) : z' = z ∧ lwS D B A G2 := by
  obtain ⟨y, o⟩ := r
  obtain ⟨c1, c2⟩ := hc
  obtain ⟨m1, m2⟩ := hm
  refine ⟨m1.trans c1.symm, ?_⟩
  cases o with
  | none => exact st_read ho c2 m2 hx ha
  | some nw => exact st_read (ho.push (rd' := 0) (hr nw rfl) ⟨Int.le_refl _, ho.2.2.2.1.1⟩) c2 m2 hx ha
theorem st_reel {z z' f : Int} (ho : okAll now hist km rd reel) (hc : z = sReel rd f ∧ if z < 0 then cQ D (NN B A) B now hist km rd reel G1 else cQ D (NN B A) B now hist km (1 + rd) (upI reel rd f) G1) (hm : z' = sReel rd f ∧ if z' < 0 then mQ D A now hist km rd reel G2 else mQ D A now hist km (1 + rd) (upI reel rd f) G2) (hx : gExt G1 G2 (mM A)) (ha : apB B A) : z' = z ∧ lwS D B A G2 := by
  obtain ⟨c1, c2⟩ := hc
  obtain ⟨m1, m2⟩ := hm
  have e := m1.trans c1.symm
  refine ⟨e, ?_⟩
  rw [e] at m2
  obtain ⟨o1, o2, o3, o4, o5⟩ := ho
  by_cases q : z < 0
  · rw [if_pos q] at c2 m2
    exact st_read ⟨o1, o2, o3, o4, o5⟩ c2 m2 hx ha
  · rw [if_neg q] at c2 m2
    unfold sReel at c1
    by_cases q1 : ¬ (1 ≤ f ∧ f ≤ 500)
    · rw [if_pos q1] at c1; omega
    · rw [if_neg q1] at c1
      by_cases q2 : rd = 40
      · rw [if_pos q2] at c1; omega
      · refine st_read ⟨o1, o2, o3, by omega, fun k k0 k1 => ?_⟩ c2 m2 hx ha
        by_cases e : k = rd
        · rw [e, upI_s]; omega
        · rw [upI_n e]; exact o5 k k0 (by omega)
theorem st_undo {z z' : Int} (ho : okAll now hist km rd reel) (hc : (km = 0 ∧ z = -1 ∧ cQ D (NN B A) B now hist km rd reel G1) ∨ (km ≠ 0 ∧ z = km - 1 ∧ cQ D (NN B A) B (hist 0) (fun i => hist (1 + i)) (km - 1) rd reel G1)) (hm : (km = 0 ∧ z' = -1 ∧ mQ D A now hist km rd reel G2) ∨ (km ≠ 0 ∧ z' = km - 1 ∧ mQ D A (hist 0) (fun i => hist (1 + i)) (km - 1) rd reel G2)) (hx : gExt G1 G2 (mM A)) (ha : apB B A) : z' = z ∧ lwS D B A G2 := by
  rcases hc with ⟨k0, c1, c2⟩ | ⟨k0, c1, c2⟩ <;> rcases hm with ⟨k1, m1, m2⟩ | ⟨k1, m1, m2⟩
  · exact ⟨m1.trans c1.symm, st_read ho c2 m2 hx ha⟩
  · exact absurd k0 k1
  · exact absurd k1 k0
  · obtain ⟨o1, o2, o3, o4, o5⟩ := ho
    exact ⟨m1.trans c1.symm, st_read ⟨o2 0 (by omega) (by omega), fun i i0 i1 => o2 _ (by omega) (by omega), by omega, o4, o5⟩ c2 m2 hx ha⟩
theorem undo_out (ho : okAll now hist km rd reel) : km ≠ 0 → ∀ j, j < 0 ∨ 3828 ≤ j → now j = hist 0 j := fun hk j hj => by
  rw [ho.1.2.2.2.2.2.2.2.2.2.2 j hj, (ho.2.1 0 (by omega) (by have := ho.2.2.1.1; omega)).2.2.2.2.2.2.2.2.2.2 j hj]
theorem st_letter {z z' way ex : Int} {w : UInt32} (ho : okAll now hist km rd reel) (hc : ∃ r, sLetter now way w ex r ∧ cEnd D (NN B A) B now hist km rd reel r z G1) (hm : ∃ r, sLetter now way w ex r ∧ mEnd D A now hist km rd reel r z' G2) (hx : gExt G1 G2 (mM A)) (ha : apB B A) : z' = z ∧ lwS D B A G2 := by
  obtain ⟨r, ⟨y, hy, er⟩, hc⟩ := hc
  obtain ⟨r', ⟨y', hy', er'⟩, hm⟩ := hm
  have e := sPrice_one hy' hy
  subst e
  rw [← er] at er'
  subst er'
  refine st_end ho (fun nw h => ?_) hc hm hx ha
  have hb := sPrice_R2 ho.1 hy
  have hn := ho.1.2.2.2.2.2.2.1
  rw [er] at h
  split at h
  · cases h
  · split at h
    · cases h
    · cases h
      have h60 := hn.2.1
      exact mOK_letter ho.1 (by omega) (by omega)
theorem st_pay {z z' l : Int} (ho : okAll now hist km rd reel) (hc : ∀ r : sR, sPay now l r → cEnd D (NN B A) B now hist km rd reel r z G1) (hm : ∃ r : sR, sPay now l r ∧ mEnd D A now hist km rd reel r z' G2) (hx : gExt G1 G2 (mM A)) (ha : apB B A) : z' = z ∧ lwS D B A G2 := by
  obtain ⟨r, hr, hm⟩ := hm
  refine st_end ho (fun nw h => ?_) (hc r hr) hm hx ha
  obtain ⟨y, o⟩ := r
  have h : o = some nw := h
  subst h
  exact pay_mOK ho.1 hr
/-! each act's next state is in its ranges -/
theorem pile_ok {p f n : Int} (hok : mOK now) : ∀ nw : Int → Int, (sPile now p f n).2 = some nw → mOK nw := fun nw h => by
  unfold sPile at h
  split at h
  · cases h
  · split at h
    · cases h
    · cases h
      exact mOK_hold hok ⟨by omega, by omega⟩ (Or.inl rfl) ⟨by omega, by omega⟩ ⟨by omega, by omega⟩ ⟨by omega, by omega⟩
theorem over_ok {p o f n : Int} (hok : mOK now) : ∀ nw : Int → Int, (sOver now p o f n).2 = some nw → mOK nw := fun nw h => by
  unfold sOver at h
  split at h
  · cases h
  · split at h
    · cases h
    · cases h
      exact mOK_hold hok ⟨by omega, by omega⟩ (Or.inr rfl) ⟨by omega, by omega⟩ ⟨by omega, by omega⟩ ⟨by omega, by omega⟩
theorem strip_ok {p : Int} (ho : okAll now hist km rd reel) : ∀ nw : Int → Int, (sStrip now reel rd p).2 = some nw → mOK nw := fun nw h => by
  unfold sStrip at h
  split at h
  · cases h
  · split at h
    · cases h
    · cases h
      exact mOK_strip ho.1 ⟨by omega, by omega⟩ ho.2.2.2.1 ho.2.2.2.2
theorem sheet_ok {p k r c f : Int} (hok : mOK now) : ∀ nw : Int → Int, (sSheet now p k r c f).2 = some nw → mOK nw := fun nw h => by
  unfold sSheet at h
  split at h
  · cases h
  · split at h
    · cases h
    · split at h
      · cases h
      · split at h
        · cases h
        · cases h
          exact mOK_sheet hok ⟨by omega, by omega⟩ (by omega) ⟨by omega, by omega⟩ ⟨by omega, by omega⟩ ⟨by omega, by omega⟩ (fun q => by omega)
theorem lack_ok {p r : Int} (hok : mOK now) : ∀ nw : Int → Int, (sLack now p r).2 = some nw → mOK nw := fun nw h => by
  unfold sLack at h
  split at h
  · cases h
  · split at h
    · cases h
    · split at h
      · cases h
      · split at h
        · cases h
        · split at h
          · cases h
          · cases h
            exact mOK_lack hok ⟨by omega, by omega⟩ (by omega) ⟨by omega, by omega⟩
theorem clear_ok {p : Int} (hok : mOK now) : ∀ nw : Int → Int, (sClear now p).2 = some nw → mOK nw := fun nw h => by
  unfold sClear at h
  split at h
  · cases h
  · split at h
    · cases h
    · cases h
      exact mOK_clear hok ⟨by omega, by omega⟩
theorem rate_ok {w g pr : Int} (hok : mOK now) : ∀ nw : Int → Int, (sRate now w g pr).2 = some nw → mOK nw := fun nw h => by
  unfold sRate at h
  split at h
  · cases h
  · split at h
    · cases h
    · split at h
      · cases h
      · cases h
        have := (hok.2.2.2.2.1 w (by omega) (by omega)).2.1
        exact mOK_rate hok ⟨by omega, by omega⟩ (by omega) ⟨by omega, by omega⟩ ⟨by omega, by omega⟩
theorem extra_ok {k pr : Int} (hok : mOK now) : ∀ nw : Int → Int, (sExtra now k pr).2 = some nw → mOK nw := fun nw h => by
  unfold sExtra at h
  split at h
  · cases h
  · cases h
    exact mOK_extra hok ⟨by omega, by omega⟩ ⟨by omega, by omega⟩
/-! the calls that read alone -/
theorem st_same {z z' y : Int} (ho : okAll now hist km rd reel) (hc : z = y) (hq : cQ D (NN B A) B now hist km rd reel G1) (hm : mEnd D A now hist km rd reel (y, none) z' G2) (hx : gExt G1 G2 (mM A)) (ha : apB B A) : z' = z ∧ lwS D B A G2 := ⟨hm.1.trans hc.symm, st_read ho hq hm.2 hx ha⟩
theorem sLook_none {p k a b : Int} : sLook now p k a b = ((sLook now p k a b).1, none) := rfl
theorem st_look {z z' p k a b : Int} (ho : okAll now hist km rd reel) (hc : z = (sLook now p k a b).1) (hq : cQ D (NN B A) B now hist km rd reel G1) (hm : mEnd D A now hist km rd reel (sLook now p k a b) z' G2) (hx : gExt G1 G2 (mM A)) (ha : apB B A) : z' = z ∧ lwS D B A G2 := st_same ho hc hq hm hx ha
theorem st_grams {z z' : Int} {w : UInt32} (ho : okAll now hist km rd reel) (hc : sGrams w z) (hq : cQ D (NN B A) B now hist km rd reel G1) (hm : sGrams w z' ∧ mQ D A now hist km rd reel G2) (hx : gExt G1 G2 (mM A)) (ha : apB B A) : z' = z ∧ lwS D B A G2 := by
  refine ⟨?_, st_read ho hq hm.2 hx ha⟩
  rcases hc with ⟨a, b⟩ | ⟨a, b⟩ <;> rcases hm.1 with ⟨a', b'⟩ | ⟨a', b'⟩
  · rw [b, b']
  · exact absurd a a'
  · exact absurd a' a
  · rw [b, b']
theorem st_price {z z' way ex : Int} {w : UInt32} (ho : okAll now hist km rd reel) (hc : sPrice now way w ex z) (hq : cQ D (NN B A) B now hist km rd reel G1) (hm : sPrice now way w ex z' ∧ mQ D A now hist km rd reel G2) (hx : gExt G1 G2 (mM A)) (ha : apB B A) : z' = z ∧ lwS D B A G2 := ⟨sPrice_one hm.1 hc, st_read ho hq hm.2 hx ha⟩
theorem st_torn {z z' l i : Int} (ho : okAll now hist km rd reel) (hc : (¬ (0 ≤ l ∧ l < now 1286) ∧ z = -3) ∨ ((0 ≤ l ∧ l < now 1286) ∧ tsR now l i z)) (hq : cQ D (NN B A) B now hist km rd reel G1) (hm : sTorn now l i z' ∧ mQ D A now hist km rd reel G2) (hx : gExt G1 G2 (mM A)) (ha : apB B A) : z' = z ∧ lwS D B A G2 := by
  refine ⟨?_, st_read ho hq hm.2 hx ha⟩
  rcases hc with ⟨a, b⟩ | ⟨a, b⟩
  · rcases hm.1 with ⟨a', b'⟩ | ⟨a', b'⟩ | ⟨a', b'⟩
    · rw [b, b']
    · exact absurd a' a
    · exact absurd a' a
  · exact (sTorn_ts b hm.1 a).symm
theorem st_few {z z' sm : Int} (ho : okAll now hist km rd reel) (hc : sFewestC now sm z ∧ cQ D (NN B A) B now hist km rd reel G1) (hm : sFewest now sm z' ∧ mQ D A now hist km rd reel G2) (hx : gExt G1 G2 (mM A)) (ha : apB B A) : z' = z ∧ lwS D B A G2 := ⟨(sFewest_one hc.1 hm.1).symm, st_read ho hc.2 hm.2 hx ha⟩
theorem st_least {z z' pr : Int} (ho : okAll now hist km rd reel) (hc : sLeastC now pr z ∧ cQ D (NN B A) B now hist km rd reel G1) (hm : sLeast now pr z' ∧ mQ D A now hist km rd reel G2) (hx : gExt G1 G2 (mM A)) (ha : apB B A) : z' = z ∧ lwS D B A G2 := ⟨(sLeast_one hc.1 hm.1).symm, st_read ho hc.2 hm.2 hx ha⟩
end SIDE
/-! rows of the law's own body -/
def sx (xs : Nat → Int32) (i : Int) : Int := (xs i.toNat).toInt
theorem sx_R (xs : Nat → Int32) (i : Int) : inR (sx xs i) := i32_inR _
def scX (F : fxT) (b L : Nat) (xs : Nat → Int32) : Prop := match F with
  | (p, l, e, R, s, m, args, below, meth, c, Q, M, D, bm, G0) => va_X b L xs s s.heap ∧ b < s.heap.size ∧ ¬ M b
section LAWROWS
variable {F : fxT} {cc : ByteArray} {nL : Nat} {own : String} {rm : Room} {D : va_G} {G : gh} {ce sl pc : Nat} {Lc : List (Nat × Value)} {st : List Value}
theorem r_sld {b L : Nat} {xs : Nat → Int32} (hX : scX F b L xs) (hb : fMut F) (hL : L ≤ 3072) (S : FX F cc nL own rm D) {i : Int} (h0 : 0 ≤ i) (h1 : i < L) (d : decode cc pc = .ok (.iaload, 1)) (k : V F nL G ce sl (pc + 1) Lc (.int (iI (sx xs i)) :: st)) : V F nL G ce sl pc Lc (.int (iI i) :: .ref b :: st) := by
  obtain ⟨p, l, e, R, s, m, args, below, meth, c, Q, M, D', bm, G0⟩ := F
  have hb' : bm = false := hb
  subst hb'
  intro H lo hG hM ls hl
  have hk := k H lo hG hM ls hl
  rw [show iI (sx xs i) = xs (iI i).toNatClampNeg by rw [iI_nat h0 (by omega)]; exact iI_of _] at hk
  exact va_sld S.1.1 S.1.2.1 hX.1 hX.2.1 (fun q => q.elim hX.2.2 (fun z => absurd hX.2.1 (Nat.not_lt.mpr z))) hM.2 (iI_in h0 h1 (by omega)) d hk
theorem r_slen {b L : Nat} {xs : Nat → Int32} (hX : scX F b L xs) (hb : fMut F) (S : FX F cc nL own rm D) (d : decode cc pc = .ok (.arraylength, 1)) (k : V F nL G ce sl (pc + 1) Lc (.int (iI L) :: st)) : V F nL G ce sl pc Lc (.ref b :: st) := by
  obtain ⟨p, l, e, R, s, m, args, below, meth, c, Q, M, D', bm, G0⟩ := F
  have hb' : bm = false := hb
  subst hb'
  intro H lo hG hM ls hl
  have hk := k H lo hG hM ls hl
  rw [iI_nI] at hk
  exact va_slen S.1.1 S.1.2.1 hX.1 hX.2.1 (fun q => q.elim hX.2.2 (fun z => absurd hX.2.1 (Nat.not_lt.mpr z))) hM.2 d hk
theorem r_fmul (S : FX F cc nL own rm D) {x y : UInt32} (hn : vf_n32 (FP.fmul x y)) (d : decode cc pc = .ok (.fmul, 1)) (k : V F nL G ce sl (pc + 1) Lc (.float (FP.fmul x y) :: st)) : V F nL G ce sl pc Lc (.float y :: .float x :: st) := by
  obtain ⟨p, l, e, R, s, m, args, below, meth, c, Q, M, D', bm, G0⟩ := F
  intro H lo hG hM ls hl
  exact lv_fmul S.1.1 S.1.2.1 d hn (k H lo hG hM ls hl)
theorem r_icmp_eqS (S : FX F cc nL own rm D) {a : Int} {off : Int} (tgt : Nat) (d : decode cc pc = .ok (.if_icmp .eq off, 3)) (ht : (pc : Int) + off = (tgt : Int)) (kt : V F nL G ce sl tgt Lc st) : V F nL G ce sl pc Lc (.int (iI a) :: .int (iI a) :: st) := by
  obtain ⟨p, l, e, R, s, m, args, below, meth, c, Q, M, D', bm, G0⟩ := F
  intro H lo hG hM ls hl
  exact lv_icmp_eq S.1.1 S.1.2.1 d ht (fun _ => kt H lo hG hM ls hl) (fun q => absurd rfl q)
theorem r_newZ (S : FX F cc nL own rm D) (hb : fMut F) {idx ci n : Nat} {fs : List Value} (f : NewOK own idx ci n fs) (hc : ce + 1 ≤ rm.cells) (hsl : sl + n ≤ rm.slots) (d : decode cc pc = .ok (.new idx, 3)) (k : ∀ a : Nat, (∀ x : Nat, a ≤ x → G x = none ∧ wr F x) → V F nL (gUp G a (eO ci fs)) (ce + 1) (sl + n) (pc + 3) Lc (.ref a :: st)) : V F nL G ce sl pc Lc st := by
  obtain ⟨p, l, e, R, s, m, args, below, meth, c, Q, M, D', bm, G0⟩ := F
  obtain ⟨S1, hK, rfl, rfl, hG0⟩ := S
  have ht := S1.2.2.2.2
  have hb' : bm = false := hb
  subst hb'
  intro H lo hG hM ls hl
  obtain ⟨C, T, ty, h1, h2, h3, h4, h5, h6, h7⟩ := f
  have hKn := hK.1.1 ci _ h1
  refine W.newcK S1.1 S1.2.1 S1.2.2.2.1 (ht _ h3) (ht _ h4) (ht _ h5) rfl d hc hsl hKn.2.1 rfl fun H1 kC hkC e1 z1 o1 => ?_
  exact k H.size (fun x hx => ⟨hG.fresh hx, Or.inr (Nat.le_trans hM.2.1 hx)⟩) H1 lo (hG.new ⟨_, h1, (u_born ty ht h2 hKn hkC e1 h6).to h7⟩ o1) (md_new hM hG0 z1 o1) ls hl
end LAWROWS
