theorem pieces_step {c r k : Int} {P : Int → Prop} {g g' : Int → Int} (h1 : 1 ≤ c) (h2 : c ≤ 8) (hk0 : 0 ≤ k) (hk1 : k < r * c) (j1 : ∀ j : Int, 0 ≤ j → j < r * c → (g j = 1 ↔ lft c (r * c) P k j) ∧ (g j = 0 ∨ g j = 1)) (hgk : g k = 1) (ha : ∀ j : Int, 0 ≤ j → j < r * c → conn c (r * c) (fun x => g x = 1) k j → g' j = 0) (hb : ∀ j : Int, (0 ≤ j → j < r * c → ¬ conn c (r * c) (fun x => g x = 1) k j) → g' j = g j) : ∀ j : Int, 0 ≤ j → j < r * c → (g' j = 1 ↔ lft c (r * c) P (1 + k) j) ∧ (g' j = 0 ∨ g' j = 1) := by
  intro j j0 j2
  have hlk : lft c (r * c) P k k := ((j1 k hk0 hk1).1).mp hgk
  have hcc : conn c (r * c) (fun x => g x = 1) k j ↔ conn c (r * c) P k j := (conn_iff (fun x x0 x1 => (j1 x x0 x1).1)).trans (conn_lft h1 h2 hk0 hk1 hlk)
  by_cases e : conn c (r * c) P k j
  · have hz := ha j j0 j2 (hcc.mpr e)
    refine ⟨⟨fun q => by omega, fun q => absurd e (((lft_succ hk0).mp q).2 hlk.1)⟩, Or.inl hz⟩
  · have hz := hb j (fun _ _ q => e (hcc.mp q))
    rw [hz, lft_succ hk0]
    refine ⟨⟨fun q => ⟨((j1 j j0 j2).1).mp q, fun _ => e⟩, fun q => ((j1 j j0 j2).1).mpr q.1⟩, (j1 j j0 j2).2⟩
