/-- the reference's cells, as its constructor lays them -/
def mkA (a n1 n2 n3 n4 n5 : Nat) : Nat → Nat := fun i => if i = 0 then a else if i = 1 then n1 else if i = 2 then n2 else if i = 3 then n3 else if i = 4 then n4 else n5
theorem mkA_cs {a n1 n2 n3 n4 n5 : Nat} : ∀ i : Nat, i < 6 → (i = 0 ∧ mkA a n1 n2 n3 n4 n5 i = a) ∨ (i = 1 ∧ mkA a n1 n2 n3 n4 n5 i = n1) ∨ (i = 2 ∧ mkA a n1 n2 n3 n4 n5 i = n2) ∨ (i = 3 ∧ mkA a n1 n2 n3 n4 n5 i = n3) ∨ (i = 4 ∧ mkA a n1 n2 n3 n4 n5 i = n4) ∨ (i = 5 ∧ mkA a n1 n2 n3 n4 n5 i = n5) := fun i hi => by
  rcases (show i = 0 ∨ i = 1 ∨ i = 2 ∨ i = 3 ∨ i = 4 ∨ i = 5 by omega) with e | e | e | e | e | e <;> subst e
  · exact Or.inl ⟨rfl, rfl⟩
  · exact Or.inr (Or.inl ⟨rfl, rfl⟩)
  · exact Or.inr (Or.inr (Or.inl ⟨rfl, rfl⟩))
  · exact Or.inr (Or.inr (Or.inr (Or.inl ⟨rfl, rfl⟩)))
  · exact Or.inr (Or.inr (Or.inr (Or.inr (Or.inl ⟨rfl, rfl⟩))))
  · exact Or.inr (Or.inr (Or.inr (Or.inr (Or.inr ⟨rfl, rfl⟩))))
set_option maxRecDepth 20000 in
set_option maxHeartbeats 4000000 in
theorem kX11_init {D : va_G} {G : gh} {a : Nat} {hist : Int → Int → Int} {reel0 : Int → Int} (hr0 : ∀ k : Int, reel0 k = 0) (ha : G a = some (eO 11 [.int (iI 0), .null, .null, .int (iI 0), .int (iI 0), .null, .int (iI 0), .null, .null])) : CT ⟨"PostageCounterModel", "<init>", "()V"⟩ prog_13_method_1_code 2 none 1 20 5 161628 D [.ref a] G (fun x => x = a) (tV (fun G' => ∃ A : Nat → Nat, A 0 = a ∧ (∀ i : Nat, 1 ≤ i → i < 6 → a < A i) ∧ mQ D A now0 hist 0 0 reel0 G')) := by
  have hr1 : reel0 = fun _ => 0 := funext hr0
  subst hr1
  refine CT.enterZ (by decide +kernel) (Nat.le_of_ble_eq_true rfl) (fun F S ret hb hM hI hlo hg0 => ?_)
  have hnew : ∀ (Gk : gh) (x : Nat) (e : va_E), Gk a = some e → Gk x = none → wr F x → a < x := fun Gk x e h1 h2 h3 => by
    rcases hlo x h3 with q | q
    · rw [q, h1] at h2; cases h2
    · exact q a _ ha
  show V F 2 G 0 0 0 [(0, .ref a)] []
  refine r_aload_n S dX11_init_0 0 rfl ?_
  refine r_objInit w757 w58 w59 (by decide) (by show _ + 12 ≤ _; decide) S dX11_init_1 ?_
  refine r_aload_n S dX11_init_4 0 rfl ?_
  refine r_sipush S dX11_init_5 (by decide) ?_
  refine r_newI S hb w75 (by decide) (by decide) (by show _ ≤ 5; omega) (by show _ ≤ 161628; omega) dX11_init_8 (fun n1 hn8 hw8 => ?_)
  have ha_n1 := hnew G n1 _ ha hn8 hw8
  refine k_new hn8 (fun G8 hl8 hn1 => ?_)
  have ha8 := hl8 _ _ ha
  refine r_putF S hb (hI rfl) ptX11_7_X11 ha8 (hM _ rfl) (by show _ < 9; decide) rfl rfl dX11_init_10 ?_
  refine k_set (fun G10 ha10 ho10 => ?_)
  have hn1_10 := ho10 _ _ (by omega) hn1
  refine r_aload_n S dX11_init_13 0 rfl ?_
  refine r_ldc S 122496 w758 (by decide) dX11_init_14 ?_
  refine r_newI S hb w75 (by decide) (by decide) (by show _ ≤ 5; omega) (by show _ ≤ 161628; omega) dX11_init_16 (fun n2 hn16 hw16 => ?_)
  have ha_n2 := hnew G10 n2 _ ha10 hn16 hw16
  have ne_n2_n1 : n2 ≠ n1 := fun q => by rw [q, hn1_10] at hn16; cases hn16
  refine k_new hn16 (fun G16 hl16 hn2 => ?_)
  have ha16 := hl16 _ _ ha10
  refine r_putF S hb (hI rfl) ptX11_14_X11 ha16 (hM _ rfl) (by show _ < 9; decide) rfl rfl dX11_init_18 ?_
  refine k_set (fun G18 ha18 ho18 => ?_)
  have hn1_18 := ho18 _ _ (by omega) (hl16 _ _ hn1_10)
  have hn2_18 := ho18 _ _ (by omega) hn2
  refine r_aload_n S dX11_init_21 0 rfl ?_
  refine r_bipush S dX11_init_22 (by decide) ?_
  refine r_newI S hb w75 (by decide) (by decide) (by show _ ≤ 5; omega) (by show _ ≤ 161628; omega) dX11_init_24 (fun n3 hn24 hw24 => ?_)
  have ha_n3 := hnew G18 n3 _ ha18 hn24 hw24
  have ne_n3_n1 : n3 ≠ n1 := fun q => by rw [q, hn1_18] at hn24; cases hn24
  have ne_n3_n2 : n3 ≠ n2 := fun q => by rw [q, hn2_18] at hn24; cases hn24
  refine k_new hn24 (fun G24 hl24 hn3 => ?_)
  have ha24 := hl24 _ _ ha18
  refine r_putF S hb (hI rfl) ptX11_17_X11 ha24 (hM _ rfl) (by show _ < 9; decide) rfl rfl dX11_init_26 ?_
  refine k_set (fun G26 ha26 ho26 => ?_)
  have hn1_26 := ho26 _ _ (by omega) (hl24 _ _ hn1_18)
  have hn2_26 := ho26 _ _ (by omega) (hl24 _ _ hn2_18)
  have hn3_26 := ho26 _ _ (by omega) hn3
  refine r_aload_n S dX11_init_29 0 rfl ?_
  refine r_bipush S dX11_init_30 (by decide) ?_
  refine r_newI S hb w75 (by decide) (by decide) (by show _ ≤ 5; omega) (by show _ ≤ 161628; omega) dX11_init_32 (fun n4 hn32 hw32 => ?_)
  have ha_n4 := hnew G26 n4 _ ha26 hn32 hw32
  have ne_n4_n1 : n4 ≠ n1 := fun q => by rw [q, hn1_26] at hn32; cases hn32
  have ne_n4_n2 : n4 ≠ n2 := fun q => by rw [q, hn2_26] at hn32; cases hn32
  have ne_n4_n3 : n4 ≠ n3 := fun q => by rw [q, hn3_26] at hn32; cases hn32
  refine k_new hn32 (fun G32 hl32 hn4 => ?_)
  have ha32 := hl32 _ _ ha26
  refine r_putF S hb (hI rfl) ptX11_20_X11 ha32 (hM _ rfl) (by show _ < 9; decide) rfl rfl dX11_init_34 ?_
  refine k_set (fun G34 ha34 ho34 => ?_)
  have hn1_34 := ho34 _ _ (by omega) (hl32 _ _ hn1_26)
  have hn2_34 := ho34 _ _ (by omega) (hl32 _ _ hn2_26)
  have hn3_34 := ho34 _ _ (by omega) (hl32 _ _ hn3_26)
  have hn4_34 := ho34 _ _ (by omega) hn4
  refine r_aload_n S dX11_init_37 0 rfl ?_
  refine r_ldc S 35200 w759 (by decide) dX11_init_38 ?_
  refine r_newI S hb w75 (by decide) (by decide) (by show _ ≤ 5; omega) (by show _ ≤ 161628; omega) dX11_init_40 (fun n5 hn40 hw40 => ?_)
  have ha_n5 := hnew G34 n5 _ ha34 hn40 hw40
  have ne_n5_n1 : n5 ≠ n1 := fun q => by rw [q, hn1_34] at hn40; cases hn40
  have ne_n5_n2 : n5 ≠ n2 := fun q => by rw [q, hn2_34] at hn40; cases hn40
  have ne_n5_n3 : n5 ≠ n3 := fun q => by rw [q, hn3_34] at hn40; cases hn40
  have ne_n5_n4 : n5 ≠ n4 := fun q => by rw [q, hn4_34] at hn40; cases hn40
  refine k_new hn40 (fun G40 hl40 hn5 => ?_)
  have ha40 := hl40 _ _ ha34
  refine r_putF S hb (hI rfl) ptX11_24_X11 ha40 (hM _ rfl) (by show _ < 9; decide) rfl rfl dX11_init_42 ?_
  refine k_set (fun G42 ha42 ho42 => ?_)
  have hn1_42 := ho42 _ _ (by omega) (hl40 _ _ hn1_34)
  have hn2_42 := ho42 _ _ (by omega) (hl40 _ _ hn2_34)
  have hn3_42 := ho42 _ _ (by omega) (hl40 _ _ hn3_34)
  have hn4_42 := ho42 _ _ (by omega) (hl40 _ _ hn4_34)
  have hn5_42 := ho42 _ _ (by omega) hn5
  have hm : mS D (mkA a n1 n2 n3 n4 n5) 0 0 0 0 (fun _ => 0) (fun _ => 0) (fun _ => 0) (fun _ => 0) (fun _ => 0) G42 := by
    refine ⟨ha42, hn1_42, hn2_42, hn3_42, hn4_42, hn5_42, fun i j hi hj h => ?_⟩
    have ci := mkA_cs (a := a) (n1 := n1) (n2 := n2) (n3 := n3) (n4 := n4) (n5 := n5) i hi
    have cj := mkA_cs (a := a) (n1 := n1) (n2 := n2) (n3 := n3) (n4 := n4) (n5 := n5) j hj
    rw [← h] at cj
    generalize mkA a n1 n2 n3 n4 n5 i = X at ci cj
    rcases ci with ci | ci | ci | ci | ci | ci <;> rcases cj with cj | cj | cj | cj | cj | cj <;> omega
  have hMA : ∀ i : Nat, i < 6 → wr F (mkA a n1 n2 n3 n4 n5 i) := fun i hi => by
    rcases mkA_cs (a := a) (n1 := n1) (n2 := n2) (n3 := n3) (n4 := n4) (n5 := n5) i hi with e | e | e | e | e | e <;> rw [e.2]
    · exact hM _ rfl
    · exact hw8
    · exact hw16
    · exact hw24
    · exact hw32
    · exact hw40
  have hgt : ∀ i : Nat, 1 ≤ i → i < 6 → a < mkA a n1 n2 n3 n4 n5 i := fun i i0 hi => by
    rcases mkA_cs (a := a) (n1 := n1) (n2 := n2) (n3 := n3) (n4 := n4) (n5 := n5) i hi with e | e | e | e | e | e <;> rw [e.2] <;> omega
  have hA0 : mkA a n1 n2 n3 n4 n5 0 = a := rfl
  have hM' : ∀ x : Nat, mM (mkA a n1 n2 n3 n4 n5) x → wr F x := fun x ⟨i, hi, e⟩ => e ▸ hMA i hi
  refine r_iconst S dX11_init_45 ?_
  refine r_istore_n (L' := [(1, .int (iI 0)), (0, .ref a)]) S dX11_init_46 (by decide) rfl ?_
  rw [← hA0]
  generalize mkA a n1 n2 n3 n4 n5 = A at hm hM' hgt hA0 ⊢
  have L47 : ∀ (N : Nat) (f : Int → Int) (i : Int) (Gk : gh), (10 - i).toNat < N → mS D A 0 0 0 0 f (fun _ => 0) (fun _ => 0) (fun _ => 0) (fun _ => 0) Gk → (0 ≤ i ∧ i ≤ 10) → (∀ j : Int, f j = if 0 ≤ j ∧ j < i then -1 else 0) → V F 2 Gk 5 161628 47 [(1, .int (iI i)), (0, .ref (A 0))] [] := by
    intro N
    induction N with
    | zero => intro f i Gk hN; exact absurd hN (Nat.not_lt_zero _)
    | succ N ih =>
      intro f i Gk hN hm hi hf
      refine r_iload_n S dX11_init_47 0 rfl ?_
      refine r_bipush S dX11_init_48 (by decide) ?_
      refine r_icmp_ge S 68 dX11_init_50 (by decide) (by omega) (by omega) (fun c50 => ?_) (fun c50 => ?_)
      · have ef : f = now0 := funext fun j => by
          rw [hf j]
          unfold now0
          rw [show i = 10 by omega]
        rw [ef] at hm
        exact ret.tv dX11_init_68 (by omega) (by omega) ⟨A, hA0, hgt, 0, 0, _, _, _, hm, ⟨by decide, by decide, by decide, by decide, fun i k i0 i1 => by omega⟩⟩
      · refine r_aload_n S dX11_init_53 1 rfl ?_
        refine m_get_now S hm gtX11_7_X11 dX11_init_54 ?_
        refine r_iconst S dX11_init_57 ?_
        refine r_iload_n S dX11_init_58 0 rfl ?_
        refine r_iadd_e i (by omega) S dX11_init_59 ?_
        refine r_iconst S dX11_init_60 ?_
        refine m_st_now S hb hM' hm hi.1 (by omega) dX11_init_61 (fun G61 f61 ef61 hm61 => ?_)
        refine r_iinc (L' := [(1, .int (iI (i + 1))), (0, .ref (A 0))]) S dX11_init_62 0 rfl (by decide) rfl ?_
        refine r_goto S 47 dX11_init_65 (by decide) ?_
        refine ih f61 (i + 1) G61 (by omega) hm61 (by omega) (fun j => ?_)
        rw [ef61]
        by_cases e : j = i
        · rw [e, upI_s, if_pos (by omega)]
        · rw [upI_n e, hf j]
          by_cases q : 0 ≤ j ∧ j < i
          · rw [if_pos q, if_pos (by omega)]
          · rw [if_neg q, if_neg (by omega)]
  refine V.widen (ce' := 5) (sl' := 161628) (by omega) (by omega) ?_
  exact L47 _ (fun _ => 0) 0 _ (Nat.lt_succ_self _) hm (by omega) (fun j => by rw [if_neg (by omega)])
