/-! the next state's parts -/
section NEXT
variable {D : va_G} {N : Nat → Prop} {G G' : gh} {now now' : Int → Int}
/-- the places, one of them another -/
theorem plA_with {f pf : Int → Option Nat} {b : Nat} {pl : Int} {o : Option Nat} (hok : okK now) (har : Im N G' b (eQ D 0 10 f)) (hpf : ∀ p : Int, 0 ≤ p → p < 10 → hP D N G now p (pf p)) (hx : gExt G G' N) (hf : ∀ j : Int, 0 ≤ j → j < 10 → f j = if j = pl then o else pf j) (hp : 0 ≤ pl ∧ pl < 10) (ho : hP D N G now' pl o) (hag : ∀ p : Int, 0 ≤ p → p < 10 → p ≠ pl → agP now now' p) : plA D N G' now' b := by
  refine ⟨f, har, fun p p0 p1 => ?_⟩
  rw [hf p p0 p1]
  by_cases e : p = pl
  · rw [if_pos e, e]; exact ho.mono hx
  · rw [if_neg e]
    exact ((hpf p p0 p1).cong hok ⟨p0, p1⟩ (hag p p0 p1 e)).mono hx
theorem wyA_with {f wf : Int → Option Nat} {b v : Nat} {w : Int} (har : Im N G' b (eQ D 2 6 f)) (hwf : ∀ w : Int, 0 ≤ w → w < 6 → ∃ b, wf w = some b ∧ wyO D N G now w b) (hx : gExt G G' N) (hf : ∀ j : Int, 0 ≤ j → j < 6 → f j = if j = w then some v else wf j) (hv : wyO D N G now' w v) (hag : ∀ j : Int, 0 ≤ j → j < 6 → j ≠ w → now' (1180 + j) = now (1180 + j) ∧ ∀ k : Int, 0 ≤ k → k < now (1180 + j) → now' (1186 + 8 * j + k) = now (1186 + 8 * j + k) ∧ now' (1234 + 8 * j + k) = now (1234 + 8 * j + k)) : wyA D N G' now' b := by
  refine ⟨f, har, fun p p0 p1 => ?_⟩
  rw [hf p p0 p1]
  by_cases e : p = w
  · rw [if_pos e, e]; exact ⟨v, rfl, hv.mono hx⟩
  · rw [if_neg e]
    obtain ⟨b2, q, h⟩ := hwf p p0 p1
    exact ⟨b2, q, (h.cong (hag p p0 p1 e).1 (hag p p0 p1 e).2).mono hx⟩
/-- a letter's cells agree -/
def agL (now now' : Int → Int) (l : Int) : Prop := now' (1467 + l) = now (1467 + l) ∧ now' (1287 + l) = now (1287 + l) ∧ now' (1347 + l) = now (1347 + l) ∧ now' (1407 + l) = now (1407 + l) ∧ ∀ p : Int, 0 ≤ p → p < 10 → now' (1527 + 10 * l + p) = now (1527 + 10 * l + p) ∧ ∀ k : Int, 0 ≤ k → k < 64 → tq now' l p k = tq now l p k
theorem leA_more {f lf : Int → Option Nat} {gl : Int → Int → Int} {b v : Nat} {nn : Nat} (hn : 0 ≤ now 1286) (har : Im N G' b (eQ D 1 nn f)) (hnn : (nn : Int) = 1 + now 1286) (hlf : ∀ l : Int, 0 ≤ l → l < now 1286 → ∃ b, lf l = some b ∧ ltO D N G now l b (gl l)) (hgl : ∀ fc : Int, 1 ≤ fc → fc ≤ 500 → now (3327 + fc) = sumI (fun l => gl l fc) (now 1286).toNat) (hx : gExt G G' N) (hf : ∀ j : Int, 0 ≤ j → j < 1 + now 1286 → f j = if j = now 1286 then some v else lf j) (hv : ltO D N G now' (now 1286) v (fun _ => 0)) (h1 : now' 1286 = 1 + now 1286) (hag : ∀ l : Int, 0 ≤ l → l < now 1286 → agL now now' l) (hg : ∀ fc : Int, 1 ≤ fc → fc ≤ 500 → now' (3327 + fc) = now (3327 + fc)) : leA D N G' now' b := by
  refine ⟨f, upI gl (now 1286) (fun _ => 0), ?_, fun l l0 l1 => ?_, fun fc f0 f1 => ?_⟩
  · rw [h1, show (1 + now 1286).toNat = nn by omega]; exact har
  · rw [h1] at l1
    rw [hf l l0 l1]
    by_cases e : l = now 1286
    · rw [if_pos e, e, upI_s]; exact ⟨v, rfl, hv.mono hx⟩
    · rw [if_neg e, upI_n e]
      obtain ⟨b2, q, h⟩ := hlf l l0 (by omega)
      obtain ⟨a1, a2, a3, a4, a5⟩ := hag l l0 (by omega)
      exact ⟨b2, q, (h.cong a1 a2 a3 a4 a5).mono hx⟩
  · rw [hg fc f0 f1, hgl fc f0 f1, h1, sumI_s _ hn, upI_s]
    rw [sumI_cong (f := fun l => upI gl (now 1286) (fun _ => 0) l fc) (g := fun l => gl l fc) (fun k k0 k1 => by show upI gl (now 1286) (fun _ => 0) k fc = gl k fc; rw [upI_n (by omega)])]
    omega
/-- a letter is paid -/
theorem leA_paid {f lf : Int → Option Nat} {gl : Int → Int → Int} {g : Int → Int} {l : Int} {a : Nat} {bl : Nat} (har : Im N G' a (eQ D 1 (now 1286).toNat f)) (hlf : ∀ l : Int, 0 ≤ l → l < now 1286 → ∃ b, lf l = some b ∧ ltO D N G now l b (gl l)) (hgl : ∀ fc : Int, 1 ≤ fc → fc ≤ 500 → now (3327 + fc) = sumI (fun l => gl l fc) (now 1286).toNat) (hx : gExt G G' N) (hl : 0 ≤ l ∧ l < now 1286) (hf : ∀ j : Int, 0 ≤ j → j < now 1286 → f j = if j = l then some bl else lf j) (hv : ltO D N G' now' l bl g) (h1 : now' 1286 = now 1286) (hag : ∀ j : Int, 0 ≤ j → j < now 1286 → j ≠ l → agL now now' j) (h0 : now (1467 + l) = 0) (hg : ∀ fc : Int, 1 ≤ fc → fc ≤ 500 → now' (3327 + fc) = now (3327 + fc) + g fc) : leA D N G' now' a := by
  refine ⟨f, upI gl l g, ?_, fun j j0 j1 => ?_, fun fc f0 f1 => ?_⟩
  · rw [h1]; exact har
  · rw [h1] at j1
    rw [hf j j0 j1]
    by_cases e : j = l
    · rw [if_pos e, e, upI_s]; exact ⟨bl, rfl, hv⟩
    · rw [if_neg e, upI_n e]
      obtain ⟨b2, q, h⟩ := hlf j j0 j1
      obtain ⟨a1, a2, a3, a4, a5⟩ := hag j j0 j1 e
      exact ⟨b2, q, (h.cong a1 a2 a3 a4 a5).mono hx⟩
  · rw [hg fc f0 f1, hgl fc f0 f1, h1]
    obtain ⟨b2, q, h⟩ := hlf l hl.1 hl.2
    have hz : gl l fc = 0 := by
      rcases h with ⟨-, -, h⟩ | ⟨h, -⟩
      · exact h fc
      · omega
    rw [sumI_cong (f := fun j => upI gl l g j fc) (g := fun j => gl j fc + (if j = l then g fc else 0)) (fun k k0 k1 => by
      show upI gl l g k fc = _
      by_cases e : k = l
      · rw [if_pos e, e, upI_s, hz]; omega
      · rw [if_neg e, upI_n e]; omega), sumI_add, sumI_one hl.1 (by omega)]
end NEXT
