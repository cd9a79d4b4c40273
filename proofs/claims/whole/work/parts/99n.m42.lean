set_option maxRecDepth 20000 in
set_option maxHeartbeats 2000000 in
theorem kX1_init {D : va_G} {G : gh} {a : Nat} {v0 v1 : Value} (ha : G a = some (eO 1 [v0, v1])) : CT ⟨"PostageCounter$Choices", "<init>", "()V"⟩ prog_3_method_1_code 1 none 1 20 12 33011 D [.ref a] G (fun x => x = a) (tV (fun G' => ∃ t : Nat, a < t ∧ G' a = some (eO 1 [.ref t, .int (iI 0)]) ∧ G' t = some (eQ D 4 11 (fun j => some (t + 1 + j.toNat))) ∧ ∀ j : Nat, j < 11 → G' (t + 1 + j) = some (eI D 3000 (fun _ => 0)))) := by
  refine CT.enterZ (by decide +kernel) (Nat.le_of_ble_eq_true rfl) (fun F S ret hb hM hI hlo hg0 => ?_)
  show V F 1 G 0 0 0 [(0, .ref a)] []
  refine r_aload_n S dX1_init_0 0 rfl ?_
  refine r_objInit w65 w58 w59 (by decide) (by show _ + 12 ≤ _; decide) S dX1_init_1 ?_
  refine r_aload_n S dX1_init_4 0 rfl ?_
  refine r_bipush S dX1_init_5 (by decide) ?_
  refine r_sipush S dX1_init_7 (by decide) ?_
  refine r_multi S hb w66 ⟨by decide, by decide⟩ ⟨by decide, by decide⟩ (Nat.le_of_ble_eq_true rfl) (Nat.le_of_ble_eq_true rfl) dX1_init_10 (fun t ht => ?_)
  have hat : a < t := by
    rcases hlo t (ht t (Nat.le_refl _)).2 with q | q
    · rw [q] at ht
      rw [(ht a (Nat.le_refl _)).1] at ha
      cases ha
    · exact q a _ ha
  have hl := gTab_l (D := D) (N := Int.toNat 11) (K := Int.toNat 3000) (fun x hx => (ht x hx).1)
  have h1 := hl _ _ ha
  have h2 : gTab D G t (Int.toNat 11) (Int.toNat 3000) t = some (eQ D 4 11 (fun j => some (t + 1 + j.toNat))) := gTab_o
  have h3 : ∀ j : Nat, j < 11 → gTab D G t (Int.toNat 11) (Int.toNat 3000) (t + 1 + j) = some (eI D 3000 (fun _ => 0)) := gTab_r
  generalize gTab D G t (Int.toNat 11) (Int.toNat 3000) = G10 at h1 h2 h3
  refine r_putF S hb (hI rfl) ptX1_13_X1 h1 (hM _ rfl) (by show _ < 2; decide) rfl rfl dX1_init_14 ?_
  refine k_set (fun G14 hc14 ho14 => ?_)
  refine r_aload_n S dX1_init_17 0 rfl ?_
  refine r_iconst S dX1_init_18 ?_
  refine r_put S hb ptX1_16_X1 hc14 (hM _ rfl) (by show _ < 2; decide) rfl rfl dX1_init_19 ?_
  refine k_set (fun G19 hc19 ho19 => ?_)
  exact ret.tv dX1_init_22 (Nat.le_of_ble_eq_true rfl) (Nat.le_of_ble_eq_true rfl) ⟨t, hat, hc19, ho19 _ _ (by omega) (ho14 _ _ (by omega) h2), fun j hj => ho19 _ _ (by omega) (ho14 _ _ (by omega) (h3 j hj))⟩

/-- the class' cells, as its constructor lays them -/
def mkB (a c t r b : Nat) : Nat → Nat := fun i => if i = 0 then a else if i = 1 then c else if i < 14 then t + (i - 2) else if i = 14 then r else b
section MKB
variable {a c t r b : Nat}
theorem mkB_0 : mkB a c t r b 0 = a := rfl
theorem mkB_1 : mkB a c t r b 1 = c := rfl
theorem mkB_2 : mkB a c t r b 2 = t := rfl
theorem mkB_14 : mkB a c t r b 14 = r := rfl
theorem mkB_15 : mkB a c t r b 15 = b := rfl
theorem mkB_t {i : Nat} (h0 : 2 ≤ i) (h1 : i < 14) : mkB a c t r b i = t + (i - 2) := by unfold mkB; rw [if_neg (by omega), if_neg (by omega), if_pos h1]
theorem mkB_r {i : Int} (h0 : 0 ≤ i) (h1 : i ≤ 10) : mkB a c t r b (rB i) = t + 1 + i.toNat := by
  rw [mkB_t (by unfold rB; omega) (by unfold rB; omega)]
  unfold rB
  omega
theorem mkB_c (P : Nat → Prop) (h0 : P a) (h1 : P c) (ht : ∀ j : Nat, j < 12 → P (t + j)) (hr : P r) (hb : P b) : ∀ i : Nat, i < 16 → P (mkB a c t r b i) := by
  intro i hi
  unfold mkB
  by_cases e0 : i = 0
  · rw [if_pos e0]; exact h0
  · rw [if_neg e0]
    by_cases e1 : i = 1
    · rw [if_pos e1]; exact h1
    · rw [if_neg e1]
      by_cases e2 : i < 14
      · rw [if_pos e2]; exact ht _ (by omega)
      · rw [if_neg e2]
        by_cases e3 : i = 14
        · rw [if_pos e3]; exact hr
        · rw [if_neg e3]; exact hb
theorem mkB_cs : ∀ i : Nat, i < 16 → (i = 0 ∧ mkB a c t r b i = a) ∨ (i = 1 ∧ mkB a c t r b i = c) ∨ ((2 ≤ i ∧ i < 14) ∧ mkB a c t r b i = t + (i - 2)) ∨ (i = 14 ∧ mkB a c t r b i = r) ∨ (i = 15 ∧ mkB a c t r b i = b) := fun i hi => by
  by_cases e0 : i = 0
  · rw [e0]; exact Or.inl ⟨rfl, rfl⟩
  by_cases e1 : i = 1
  · rw [e1]; exact Or.inr (Or.inl ⟨rfl, rfl⟩)
  by_cases e2 : i < 14
  · exact Or.inr (Or.inr (Or.inl ⟨⟨by omega, e2⟩, mkB_t (by omega) e2⟩))
  by_cases e3 : i = 14
  · rw [e3]; exact Or.inr (Or.inr (Or.inr (Or.inl ⟨rfl, rfl⟩)))
  · rw [show i = 15 by omega]; exact Or.inr (Or.inr (Or.inr (Or.inr ⟨rfl, rfl⟩)))
theorem mkB_inj (h1 : a < c) (h2 : c < t) (r0 : r ≠ a) (r1 : r ≠ c) (r2 : ∀ j : Nat, j < 12 → r ≠ t + j) (b0 : b ≠ a) (b1 : b ≠ c) (b2 : ∀ j : Nat, j < 12 → b ≠ t + j) (br : b ≠ r) : ∀ i j : Nat, i < 16 → j < 16 → mkB a c t r b i = mkB a c t r b j → i = j := by
  have hr : ¬ (t ≤ r ∧ r < t + 12) := fun q => r2 (r - t) (by omega) (by omega)
  have hb : ¬ (t ≤ b ∧ b < t + 12) := fun q => b2 (b - t) (by omega) (by omega)
  intro i j hi hj h
  have ci := mkB_cs (a := a) (c := c) (t := t) (r := r) (b := b) i hi
  have cj := mkB_cs (a := a) (c := c) (t := t) (r := r) (b := b) j hj
  rw [← h] at cj
  generalize mkB a c t r b i = X at ci cj
  rcases ci with ci | ci | ci | ci | ci <;> rcases cj with cj | cj | cj | cj | cj <;> omega
end MKB
set_option maxRecDepth 20000 in
set_option maxHeartbeats 4000000 in
theorem kX10_init {D : va_G} {G : gh} {a : Nat} {v0 v1 v2 v3 v4 v5 : Value} {hist : Int → Int → Int} {reel : Int → Int} (ha : G a = some (eO 10 [v0, v1, v2, v3, v4, v5])) : CT ⟨"PostageCounter", "<init>", "()V"⟩ prog_1_method_1_code 1 none 3 66 25 33120 D [.ref a] G (fun x => x = a) (tV (fun G' => ∃ B : Nat → Nat, B 0 = a ∧ (∀ i : Nat, 1 ≤ i → i < 16 → a < B i) ∧ Nok (cM B) G' ∧ cQ D (cM B) B now0 hist 0 0 reel G')) := by
  refine CT.enterZ (by decide +kernel) (Nat.le_of_ble_eq_true rfl) (fun F S ret hb hM hI hlo hg0 => ?_)
  have hnew : ∀ (Gk : gh) (x : Nat) (e : va_E), Gk a = some e → Gk x = none → wr F x → a < x := fun Gk x e h1 h2 h3 => by
    rcases hlo x h3 with q | q
    · rw [q, h1] at h2; cases h2
    · exact q a _ ha
  show V F 1 G 0 0 0 [(0, .ref a)] []
  refine r_aload_n S dX10_init_0 0 rfl ?_
  refine r_objInit w57 w58 w59 (by decide) (by show _ + 12 ≤ _; decide) S dX10_init_1 ?_
  refine r_aload_n S dX10_init_4 0 rfl ?_
  refine r_new S hb nwX10_9 (by show _ ≤ 25; omega) (by show _ ≤ 33120; omega) dX10_init_5 (fun c hn5 hw5 => ?_)
  refine k_new hn5 (fun G5 hl5 hc5 => ?_)
  have ha5 := hl5 _ _ ha
  have hac := hnew G c _ ha hn5 hw5
  refine r_dup S dX10_init_8 ?_
  refine (c_IN_T (As := []) (st := [.ref c, .ref a]) (M1 := fun x => x = c) (host := "PostageCounter") S (kX1_init hc5) moX1_init ⟨by decide, by decide⟩ ⟨(by show _ ≤ 25; omega), (by show _ ≤ 33120; omega)⟩ rfl (Nat.le_of_ble_eq_true rfl) (by decide) w63 rfl rfl dX10_init_9).goV S hb (fun x e => e ▸ hw5) (fun G9 hx9 hc9 => ?_)
  obtain ⟨t, hct, hcc9, ht9, hr9⟩ := hc9
  have ha9 := hx9 _ _ ha5 (by omega)
  refine r_putF S hb (hI rfl) ptX10_12_X10 ha9 (hM _ rfl) (by show _ < 6; decide) rfl rfl dX10_init_12 ?_
  refine k_set (fun G12 ha12 ho12 => ?_)
  have hcc12 := ho12 _ _ (by omega) hcc9
  have ht12 := ho12 _ _ (by omega) ht9
  have hr12 : ∀ j : Nat, j < 11 → G12 (t + 1 + j) = some (eI D 3000 (fun _ => 0)) := fun j hj => ho12 _ _ (by omega) (hr9 j hj)
  refine r_aload_n S dX10_init_15 0 rfl ?_
  refine r_bipush S dX10_init_16 (by decide) ?_
  refine r_newI S hb w75 (by decide) (by decide) (by show _ ≤ 25; omega) (by show _ ≤ 33120; omega) dX10_init_18 (fun r hn18 hw18 => ?_)
  refine k_new hn18 (fun G18 hl18 hrr18 => ?_)
  have har := hnew G12 r _ ha12 hn18 hw18
  have hrc : r ≠ c := fun q => by rw [q, hcc12] at hn18; cases hn18
  have hrt : ∀ j : Nat, j < 12 → r ≠ t + j := fun j hj q => by
    by_cases e : j = 0
    · rw [q, e, Nat.add_zero, ht12] at hn18; cases hn18
    · rw [q, show t + j = t + 1 + (j - 1) by omega, hr12 _ (by omega)] at hn18; cases hn18
  have ha18 := hl18 _ _ ha12
  have hcc18 := hl18 _ _ hcc12
  have ht18 := hl18 _ _ ht12
  have hr18 : ∀ j : Nat, j < 11 → G18 (t + 1 + j) = some (eI D 3000 (fun _ => 0)) := fun j hj => hl18 _ _ (hr12 j hj)
  refine r_putF S hb (hI rfl) ptX10_16_X10 ha18 (hM _ rfl) (by show _ < 6; decide) rfl rfl dX10_init_20 ?_
  refine k_set (fun G20 ha20 ho20 => ?_)
  refine r_aload_n S dX10_init_23 0 rfl ?_
  refine r_iconst S dX10_init_24 ?_
  refine r_put S hb ptX10_20_X10 ha20 (hM _ rfl) (by show _ < 6; decide) rfl rfl dX10_init_25 ?_
  refine k_set (fun G25 ha25 ho25 => ?_)
  have hcc25 := ho25 _ _ (by omega) (ho20 _ _ (by omega) hcc18)
  have ht25 := ho25 _ _ (by omega) (ho20 _ _ (by omega) ht18)
  have hr25 : ∀ j : Nat, j < 11 → G25 (t + 1 + j) = some (eI D 3000 (fun _ => 0)) := fun j hj => ho25 _ _ (by omega) (ho20 _ _ (by omega) (hr18 j hj))
  have hrr25 := ho25 _ _ (by omega) (ho20 _ _ (by omega) hrr18)
  refine r_aload_n S dX10_init_28 0 rfl ?_
  refine (c_S_T (As := []) (st := [.ref a]) S (kX10_emptyState (N0 := fun x => G25 x ≠ none) (fun b hb => hb)) moX10_emptyState ⟨by decide, by decide⟩ ⟨(by show _ ≤ 25; omega), (by show _ ≤ 33120; omega)⟩ rfl (Nat.le_of_ble_eq_true rfl) w76 w77 rfl dX10_init_29).goR S hb (fun _ z => z.elim) (fun s0 G29 hx29 hs29 => ?_)
  have ha29 := hx29 _ _ ha25 (fun z => z)
  refine r_put S hb ptX10_28_X10 ha29 (hM _ rfl) (by show _ < 6; decide) rfl rfl dX10_init_32 ?_
  refine k_set (fun G32 ha32 ho32 => ?_)
  have hs32 := hs29.mono (G' := G32) (fun b e hg hn => ho32 b e (fun q => hn (by show G25 b ≠ none; rw [q, ha25]; exact fun z => by cases z)) hg)
  have hcc32 := ho32 _ _ (by omega) (hx29 _ _ hcc25 (fun z => z))
  have ht32 := ho32 _ _ (by omega) (hx29 _ _ ht25 (fun z => z))
  have hr32 : ∀ j : Nat, j < 11 → G32 (t + 1 + j) = some (eI D 3000 (fun _ => 0)) := fun j hj => ho32 _ _ (by omega) (hx29 _ _ (hr25 j hj) (fun z => z))
  have hrr32 := ho32 _ _ (by omega) (hx29 _ _ hrr25 (fun z => z))
  refine r_aload_n S dX10_init_35 0 rfl ?_
  refine r_bipush S dX10_init_36 (by decide) ?_
  refine r_newQ (kk := 3) S hb w100 (by decide) rfl (by decide) (by decide) (by show _ ≤ 25; omega) (by show _ ≤ 33120; omega) dX10_init_38 (fun b hn38 hw38 => ?_)
  refine k_new hn38 (fun G38 hl38 hb38 => ?_)
  have hab := hnew G32 b _ ha32 hn38 hw38
  have hbc : b ≠ c := fun q => by rw [q, hcc32] at hn38; cases hn38
  have hbt : ∀ j : Nat, j < 12 → b ≠ t + j := fun j hj q => by
    by_cases e : j = 0
    · rw [q, e, Nat.add_zero, ht32] at hn38; cases hn38
    · rw [q, show t + j = t + 1 + (j - 1) by omega, hr32 _ (by omega)] at hn38; cases hn38
  have hbr : b ≠ r := fun q => by rw [q, hrr32] at hn38; cases hn38
  have hsB : stO D (cM (mkB a c t r b)) G32 now0 s0 := by
    refine hs32.grow (fun x hx => ?_)
    obtain ⟨i, hi, rfl⟩ := hx
    refine mkB_c (fun x => G25 x ≠ none ∨ G32 x = none) (Or.inl ?_) (Or.inl ?_) (fun j hj => Or.inl ?_) (Or.inl ?_) (Or.inr hn38) i hi
    · rw [ha25]; exact fun z => by cases z
    · rw [hcc25]; exact fun z => by cases z
    · by_cases e : j = 0
      · rw [e, Nat.add_zero, ht25]; exact fun z => by cases z
      · rw [show t + j = t + 1 + (j - 1) by omega, hr25 _ (by omega)]; exact fun z => by cases z
    · rw [hrr25]; exact fun z => by cases z
  have ha38 := hl38 _ _ ha32
  refine r_putF S hb (hI rfl) ptX10_34_X10 ha38 (hM _ rfl) (by show _ < 6; decide) rfl rfl dX10_init_41 ?_
  refine k_set (fun G41 ha41 ho41 => ?_)
  refine r_aload_n S dX10_init_44 0 rfl ?_
  refine r_iconst S dX10_init_45 ?_
  refine r_put S hb ptX10_38_X10 ha41 (hM _ rfl) (by show _ < 6; decide) rfl rfl dX10_init_46 ?_
  refine k_set (fun G46 ha46 ho46 => ?_)
  have hGt : fG F t = none := by
    rw [hg0]
    cases hq : G t with
    | none => rfl
    | some e =>
      rcases hlo c hw5 with q | q
      · omega
      · have := q t e hq
        omega
  refine V.reg (e1 := eQ D 4 11 (fun i => some (mkB a c t r b (rB i)))) S hb hGt (ho46 _ _ (by omega) (ho41 _ _ (by omega) (hl38 _ _ ht32))) (fun H hH => ?_) (fun G47 ht46 ho47 => ?_)
  · show H[t]? = some (vp_cell _ (_, .inr (.inr (.inr (.inr _)))))
    rw [show H[t]? = some (vp_cell _ (_, .inr (.inr (.inr (.inr _))))) from hH, vp_cell_q, vp_cell_q]
    exact congrArg some (arrV_ext fun j hj => by
      show va_rf (some (t + 1 + (j : Int).toNat)) = va_rf (some (mkB a c t r b (rB (j : Int))))
      rw [mkB_r (by omega) (by omega)])
  have hup : ∀ (x : Nat) (e : va_E), x ≠ a → x ≠ t → G38 x = some e → G47 x = some e := fun x e hx hx2 h => ho47 _ _ hx2 (ho46 _ _ hx (ho41 _ _ hx h))
  have ha47 := ho47 _ _ (by omega) ha46
  have hcc46 := hup _ _ (by omega) (by omega) (hl38 _ _ hcc32)
  have hr46 : ∀ j : Nat, j < 11 → G47 (t + 1 + j) = some (eI D 3000 (fun _ => 0)) := fun j hj => hup _ _ (by omega) (by omega) (hl38 _ _ (hr32 j hj))
  have hrt0 := hrt 0 (by omega)
  have hbt0 := hbt 0 (by omega)
  have hrr46 := hup _ _ (by omega) (by omega) (hl38 _ _ hrr32)
  have hb46 := hup _ _ (by omega) (by omega) hb38
  have hs46 : stO D (cM (mkB a c t r b)) G47 now0 s0 := (hsB.mono (gLe.ext hl38)).mono (fun x e hg hn => hup x e (fun q => hn ⟨0, by omega, q⟩) (fun q => hn ⟨2, by omega, q⟩) hg)
  have hcS : cS D (mkB a c t r b) 0 0 (fun _ => 0) s0 (fun _ => none) (fun _ _ => 0) 0 G47 := by
    refine ⟨ha47, ⟨hcc46, ht46, fun i i0 i1 => ?_, mkB_inj hac hct (by omega) hrc hrt (by omega) hbc hbt hbr⟩, hrr46, hb46⟩
    rw [mkB_r i0 i1]
    exact hr46 _ (by omega)
  refine ret.tv dX10_init_49 (by omega) (by omega) ⟨mkB a c t r b, mkB_0, fun i i0 i1 => ?_, fun x hx => ?_, fun _ => 0, s0, fun _ => none, fun _ _ => 0, 0, hcS, hs46, fun i i0 i1 => by omega, fun k k0 k1 => by omega, Int.le_refl _, by decide⟩
  · by_cases e1 : i = 1
    · rw [e1, mkB_1]; exact hac
    · by_cases e2 : i < 14
      · rw [mkB_t (by omega) e2]; omega
      · by_cases e3 : i = 14
        · rw [e3, mkB_14]; exact har
        · rw [show i = 15 by omega, mkB_15]; exact hab
  · obtain ⟨i, hi, rfl⟩ := hx
    obtain ⟨e, he⟩ := hcS.at i hi
    rw [he]
    exact fun z => by cases z
