/-! units of a sheet as bits -/
def un (now : Int → Int) (p q j : Int) : Prop := j % q = 0 ∧ now (460 + 64 * p + j) ≠ 0
def nB (x : BitVec 64) : BitVec 64 := x ^^^ BitVec.ofInt 64 (-1)
theorem nB_bit {x : BitVec 64} {k : Int} (h0 : 0 ≤ k) (h1 : k < 64) : bI (nB x) k = true ↔ ¬ bI x k = true := bB_not h0 h1
section UNITS
variable {now : Int → Int} {p q : Int} {x : BitVec 64}
theorem uB_bit (hq : wBP q) (hsq : sqOK now p x) {s k : Int} (s0 : 0 ≤ s) (s1 : s < 64) (k0 : 0 ≤ k) (k1 : k < 64) : bI (uB q x s) k = true ↔ s % q = 0 ∧ s ≤ k ∧ k < s + q ∧ now (460 + 64 * p + k) ≠ 0 := by
  unfold uB
  rcases hq with e | e <;> subst e
  · rw [if_pos rfl, bB_and, hsq k k0 k1, bB_one (by omega) k0 k1]
    constructor
    · rintro ⟨a, b⟩; exact ⟨by omega, by omega, by omega, a⟩
    · rintro ⟨a, b, c, d⟩; exact ⟨d, by omega⟩
  · rw [if_neg (by decide)]
    by_cases hs : s % 2 = 0
    · rw [if_pos hs, bB_and, hsq k k0 k1, bB_shl k0 k1]
      constructor
      · rintro ⟨a, b, c⟩
        rw [bB_3 (by omega) (by omega)] at c
        exact ⟨hs, by omega, by omega, a⟩
      · rintro ⟨a, b, c, d⟩
        refine ⟨d, by omega, ?_⟩
        rw [bB_3 (by omega) (by omega)]
        omega
    · rw [if_neg hs]
      exact ⟨fun h => absurd h bB_0, fun h => absurd h.1 hs⟩
theorem uB_nz (hq : wBP q) (hsq : sqOK now p x) (hpr : pairU now p q) {s : Int} (s0 : 0 ≤ s) (s1 : s < 64) : uB q x s ≠ 0#64 ↔ un now p q s := by
  have hb := wBP_bd hq
  constructor
  · intro h
    obtain ⟨k, k0, k1, hk⟩ := bB_nz h
    obtain ⟨a, b, c, d⟩ := (uB_bit hq hsq s0 s1 k0 k1).mp hk
    refine ⟨a, ?_⟩
    have := (hpr k k0 k1).mp d
    rw [unit_of hq a b c] at this
    exact this
  · intro h e
    have : bI (uB q x s) s = true := (uB_bit hq hsq s0 s1 s0 s1).mpr ⟨h.1, Int.le_refl _, by omega, h.2⟩
    rw [e] at this
    exact bB_0 this
theorem un_lt (hsq : sqOK now p x) {N : Int} (hx : ∀ k : Int, 0 ≤ k → k < 64 → bI x k = true → k < N) {s : Int} (s0 : 0 ≤ s) (s1 : s < 64) (h : un now p q s) : s < N := hx s s0 s1 ((hsq s s0 s1).mpr h.2)
/-- what is left behind two units (or one) -/
theorem cst_bits (hq : wBP q) (hsq : sqOK now p x) {a b : Int} {y : BitVec 64} (hN : 0 ≤ now (40 + p) * now (50 + p) ∧ now (40 + p) * now (50 + p) ≤ 64) (ha : 0 ≤ a ∧ a < 64) (hb : 0 ≤ b ∧ b < 64) (hy : ∀ k : Int, 0 ≤ k → k < 64 → now (460 + 64 * p + k) ≠ 0 → (bI y k = true ↔ (a ≤ k ∧ k < a + q) ∨ (b ≤ k ∧ k < b + q))) : npc (now (50 + p)) (now (40 + p) * now (50 + p)) (PB (x &&& nB y)) = cst now p q a b := by
  unfold cst
  refine npc_congr (fun k k0 k1 => ?_)
  have h64 : k < 64 := by omega
  show bI _ k = true ↔ _
  rw [bB_and, nB_bit k0 h64, hsq k k0 h64]
  unfold remP
  constructor
  · rintro ⟨u, v⟩
    refine ⟨u, fun z => v ((hy k k0 h64 u).mpr ?_)⟩
    rcases z with z | z
    · exact Or.inl z.2
    · exact Or.inr z.2
  · rintro ⟨u, v⟩
    refine ⟨u, fun z => v ?_⟩
    rcases (hy k k0 h64 u).mp z with z | z
    · exact Or.inl ⟨by omega, z⟩
    · exact Or.inr ⟨by omega, z⟩
/-- the two squares of a pair hang together -/
theorem conn_unit {r c : Int} (hs : shP r c) (hq : wBP q) (hc : q = 2 → c % 2 = 0) (hsq : sqOK now p x) (hx : ∀ k : Int, 0 ≤ k → k < 64 → bI x k = true → k < r * c) (hpr : pairU now p q) {s : Int} (s0 : 0 ≤ s) (s1 : s < 64) (h : bI x s = true) : conn c (r * c) (PB x) (s - s % q) s ∧ conn c (r * c) (PB x) s (s - s % q) := by
  have hrc := rc_bd hs.1.1 hs.1.2 hs.2.1 hs.2.2
  have hsN := hx s s0 s1 h
  rcases hq with e | e <;> subst e
  · rw [show s - s % 1 = s by omega]; exact ⟨conn_rf, conn_rf⟩
  · by_cases e : s % 2 = 0
    · rw [show s - s % 2 = s by omega]; exact ⟨conn_rf, conn_rf⟩
    · have hu : bI x (s - s % 2) = true := (hsq _ (by omega) (by omega)).mpr ((hpr s s0 s1).mp ((hsq s s0 s1).mp h))
      have hn : nbr c (r * c) (s - s % 2) s := by
        refine Or.inr (Or.inl ⟨?_, by omega⟩)
        have h2 := hc rfl
        have : c = 1 ∨ c = 2 ∨ c = 3 ∨ c = 4 ∨ c = 5 ∨ c = 6 ∨ c = 7 ∨ c = 8 := by have := hs.2.1; have := hs.2.2; omega
        rcases this with h | h | h | h | h | h | h | h <;> subst h <;> omega
      have hn2 := nbr_sym hs.2.1 hs.2.2 (by omega) (by omega) hn
      exact ⟨conn_step conn_rf s0 hsN h hn, conn_step conn_rf (by omega) (by omega) hu hn2.1⟩
theorem sumI_rng {a q v : Int} (hq : q = 1 ∨ q = 2) (h0 : 0 ≤ a) : ∀ {n : Nat}, a + q ≤ n → sumI (fun s => if a ≤ s ∧ s < a + q then v else 0) n = q * v := by
  intro n hn
  rcases hq with e | e <;> subst e
  · rw [sumI_cong (g := fun s => if s = a then v else 0) (fun k k0 k1 => by
      by_cases e : k = a
      · rw [if_pos (by omega), if_pos e]
      · rw [if_neg (by omega), if_neg e]), sumI_one h0 (by omega)]
    omega
  · rw [sumI_cong (g := fun s => (if s = a then v else 0) + (if s = a + 1 then v else 0)) (fun k k0 k1 => by
      by_cases e : k = a
      · rw [if_pos (by omega), if_pos e, if_neg (by omega)]; omega
      · by_cases e2 : k = a + 1
        · rw [if_pos (by omega), if_neg e, if_pos e2]; omega
        · rw [if_neg (by omega), if_neg e, if_neg e2]; omega), sumI_add, sumI_one h0 (by omega), sumI_one (by omega) (by omega)]
    omega
/-- a piece within two units: its least square, its size -/
theorem pc_in {r c : Int} (hs : shP r c) (hq : wBP q) (hc : q = 2 → c % 2 = 0) (hsq : sqOK now p x) (hx : ∀ k : Int, 0 ≤ k → k < 64 → bI x k = true → k < r * c) (hpr : pairU now p q) {i j k : Int} (hi : 0 ≤ i ∧ i < 64) (hj : 0 ≤ j ∧ j < 64) (ui : un now p q i) (uj : un now p q j) (hij : i = j ∨ i + q ≤ j) (k0 : 0 ≤ k) (k1 : k < r * c) (hl : lft c (r * c) (PB x) k k) (hR : ∀ s : Int, 0 ≤ s → s < r * c → conn c (r * c) (PB x) k s → ((i ≤ s ∧ s < i + q) ∨ (j ≤ s ∧ s < j + q))) : (k = i ∨ k = j) ∧ szC c (r * c) (PB x) k = q * (cInd (conn c (r * c) (PB x) k i) + (if i = j then 0 else cInd (conn c (r * c) (PB x) k j))) := by
  have hrc := rc_bd hs.1.1 hs.1.2 hs.2.1 hs.2.2
  have hqb := wBP_bd hq
  have hcu := fun {s : Int} (s0 : 0 ≤ s) (s1 : s < 64) (h : bI x s = true) => conn_unit hs hq hc hsq hx hpr s0 s1 h
  have hiN : i + q ≤ r * c ∧ j + q ≤ r * c := by
    have e1 := un_lt hsq hx hi.1 hi.2 ui
    have e2 := un_lt hsq hx hj.1 hj.2 uj
    have hNw : (r * c) % q = 0 := by
      rcases hq with e | e
      · subst e; omega
      · subst e; exact rc_even hs.1.1 hs.1.2 (hc rfl)
    exact ⟨mw_le hq ui.1 hNw e1, mw_le hq uj.1 hNw e2⟩
  have hhead : ∀ s u : Int, 0 ≤ s → s < r * c → u % q = 0 → u ≤ s → s < u + q → bI x s = true → (conn c (r * c) (PB x) k s ↔ conn c (r * c) (PB x) k u) := by
    intro s u a b c d e f
    have hu := unit_of hq c d e
    have := hcu a (by omega) f
    rw [hu] at this
    exact ⟨fun h => conn_tr h this.2, fun h => conn_tr h this.1⟩
  have hkP : bI x k = true := hl.1
  refine ⟨?_, ?_⟩
  · have hk := hR k k0 k1 conn_rf
    have hcase : ∀ u : Int, 0 ≤ u → u % q = 0 → u ≤ k → k < u + q → k = u := by
      intro u u0 hu a b
      apply Classical.byContradiction
      intro hne
      have e := unit_of hq hu a b
      have hcc := (hcu k0 (by omega) hkP).1
      rw [e] at hcc
      have hPu : bI x u = true := (hsq u u0 (by omega)).mpr (by have := (hpr k k0 (by omega)).mp ((hsq k k0 (by omega)).mp hkP); rw [e] at this; exact this)
      exact hl.2 u u0 (by omega) hPu hcc
    rcases hk with h | h
    · exact Or.inl (hcase i hi.1 ui.1 h.1 h.2)
    · exact Or.inr (hcase j hj.1 uj.1 h.1 h.2)
  · have hbits : ∀ s u : Int, 0 ≤ u → u < 64 → un now p q u → u ≤ s → s < u + q → u + q ≤ r * c → bI x s = true := by
      intro s u u0 u1 hu a b d
      refine (hsq s (by omega) (by omega)).mpr ((hpr s (by omega) (by omega)).mpr ?_)
      rw [unit_of hq hu.1 a b]
      exact hu.2
    unfold szC
    by_cases e : i = j
    · subst e
      rw [if_pos rfl, Int.add_zero, ← sumI_rng (v := cInd (conn c (r * c) (PB x) k i)) hq hi.1 (n := 64) (by omega)]
      refine sumI_cong (fun s s0 s1 => ?_)
      by_cases h : i ≤ s ∧ s < i + q
      · rw [if_pos h]
        exact cInd_congr (hhead s i s0 (by omega) ui.1 h.1 h.2 (hbits s i hi.1 hi.2 ui h.1 h.2 hiN.1))
      · rw [if_neg h]
        refine cInd_f (fun z => h ?_)
        have := conn_in z k0 k1 hkP
        have := hR s s0 this.2.1 z
        omega
    · have hij2 : i + q ≤ j := by omega
      rw [if_neg e, Int.mul_add, ← sumI_rng (v := cInd (conn c (r * c) (PB x) k i)) hq hi.1 (n := 64) (by omega), ← sumI_rng (v := cInd (conn c (r * c) (PB x) k j)) hq hj.1 (n := 64) (by omega), ← sumI_add]
      refine sumI_cong (fun s s0 s1 => ?_)
      by_cases h : i ≤ s ∧ s < i + q
      · rw [if_pos h, if_neg (by omega), Int.add_zero]
        exact cInd_congr (hhead s i s0 (by omega) ui.1 h.1 h.2 (hbits s i hi.1 hi.2 ui h.1 h.2 hiN.1))
      · rw [if_neg h, Int.zero_add]
        by_cases h' : j ≤ s ∧ s < j + q
        · rw [if_pos h']
          exact cInd_congr (hhead s j s0 (by omega) uj.1 h'.1 h'.2 (hbits s j hj.1 hj.2 uj h'.1 h'.2 hiN.2))
        · rw [if_neg h']
          refine cInd_f (fun z => ?_)
          have := conn_in z k0 k1 hkP
          have := hR s s0 this.2.1 z
          omega
/-- how many pieces go at the most -/
def goU (q u n1 n2 : Int) : Int := if u = 2 ∧ n1 = 0 ∧ 0 < n2 then 1 else min n1 u
theorem cnt_one {A : Int → Prop} {j : Int} (h : ∀ k : Int, 0 ≤ k → A k → k = j) : ∀ n : Nat, cntC A n ≤ 1
  | 0 => by show (0 : Int) ≤ 1; decide
  | n + 1 => by
    show cntC A n + cInd (A n) ≤ 1
    by_cases e : A (n : Int)
    · have hj := h n (by omega) e
      have : cntC A n = 0 := by
        unfold cntC
        rw [sumI_cong (g := fun _ => 0) (fun k k0 k1 => cInd_f (fun z => by have := h k k0 z; omega)), sumI_z]
      rw [this, cInd_t e]; omega
    · have := cnt_one h n
      rw [cInd_f e]; omega
theorem cnt_two {A : Int → Prop} {i j : Int} (h : ∀ k : Int, 0 ≤ k → A k → k = i ∨ k = j) (n : Nat) : cntC A n ≤ 2 := by
  rw [cnt_split A (fun k => k = i)]
  have h1 := cnt_one (A := fun k => A k ∧ k = i) (j := i) (fun k _ z => z.2) n
  have h2 := cnt_one (A := fun k => A k ∧ ¬ k = i) (j := j) (fun k k0 z => (h k k0 z.1).resolve_left z.2) n
  omega
theorem cnt_mono {A B : Int → Prop} {n : Nat} (h : ∀ k : Int, 0 ≤ k → k < n → A k → B k) : cntC A n ≤ cntC B n := by
  unfold cntC
  refine sumI_le (fun k k0 k1 => ?_)
  by_cases e : A k
  · rw [cInd_t e, cInd_t (h k k0 k1 e)]; omega
  · rw [cInd_f e]; exact (cInd_01 _).1
theorem cnt_none {A : Int → Prop} {n : Nat} (h : ∀ k : Int, 0 ≤ k → k < n → ¬ A k) : cntC A n = 0 := by
  unfold cntC
  rw [sumI_cong (g := fun _ => 0) (fun k k0 k1 => cInd_f (h k k0 k1)), sumI_z]
theorem lb_units {r c : Int} (hs : shP r c) (hq : wBP q) (hc : q = 2 → c % 2 = 0) (hsq : sqOK now p x) (hx : ∀ k : Int, 0 ≤ k → k < 64 → bI x k = true → k < r * c) (hpr : pairU now p q) {i j u : Int} {y : BitVec 64} (hi : 0 ≤ i ∧ i < 64) (hj : 0 ≤ j ∧ j < 64) (ui : un now p q i) (uj : un now p q j) (hij : (u = 1 ∧ i = j) ∨ (u = 2 ∧ i + q ≤ j)) (hy : ∀ k : Int, 0 ≤ k → k < 64 → now (460 + 64 * p + k) ≠ 0 → (bI y k = true ↔ (i ≤ k ∧ k < i + q) ∨ (j ≤ k ∧ k < j + q))) :
    npc c (r * c) (PB x) - goU q u (pcw c (r * c) (PB x) (fun s => s = q)) (pcw c (r * c) (PB x) (fun s => s = 2 * q)) ≤ npc c (r * c) (PB (x &&& nB y)) := by
  have hrc := rc_bd hs.1.1 hs.1.2 hs.2.1 hs.2.2
  have hqb := wBP_bd hq
  have h1 := npc_without (c := c) (r := r) (P := PB x) (R := fun k => bI y k = true) hs.2.1 hs.2.2
  have e1 : npc c (r * c) (PB (x &&& nB y)) = npc c (r * c) (fun k => PB x k ∧ ¬ bI y k = true) := npc_congr (fun k k0 k1 => by
    show bI _ k = true ↔ _
    rw [bB_and, nB_bit k0 (by omega)]
    exact Iff.rfl)
  rw [e1]
  generalize hA : (fun k => lft c (r * c) (PB x) k k ∧ ∀ j : Int, 0 ≤ j → j < r * c → conn c (r * c) (PB x) k j → bI y j = true) = A at h1
  have hAk : ∀ k : Int, 0 ≤ k → k < r * c → A k → (k = i ∨ k = j) ∧ szC c (r * c) (PB x) k = q * (cInd (conn c (r * c) (PB x) k i) + (if i = j then 0 else cInd (conn c (r * c) (PB x) k j))) ∧ lft c (r * c) (PB x) k k := by
    intro k k0 k1 hk
    rw [← hA] at hk
    have := pc_in hs hq hc hsq hx hpr hi hj ui uj (by omega) k0 k1 hk.1 (fun s s0 s1 hcn => by
      have hsP := (conn_in hcn k0 k1 hk.1.1).2.2
      exact (hy s s0 (by omega) ((hsq s s0 (by omega)).mp hsP)).mp (hk.2 s s0 s1 hcn))
    exact ⟨this.1, this.2, hk.1⟩
  have hn1 : pcw c (r * c) (PB x) (fun s => s = q) = cntC (fun k => lft c (r * c) (PB x) k k ∧ szC c (r * c) (PB x) k = q) (r * c).toNat := rfl
  have hn2 : pcw c (r * c) (PB x) (fun s => s = 2 * q) = cntC (fun k => lft c (r * c) (PB x) k k ∧ szC c (r * c) (PB x) k = 2 * q) (r * c).toNat := rfl
  have p1 := pcw_nn c (r * c) (PB x) (fun s => s = q)
  have p2 := pcw_nn c (r * c) (PB x) (fun s => s = 2 * q)
  rcases hij with ⟨hu, hij⟩ | ⟨hu, hij⟩
  · subst hij
    have a1 : cntC A (r * c).toNat ≤ pcw c (r * c) (PB x) (fun s => s = q) := by
      rw [hn1]
      refine cnt_mono (fun k k0 k1 hk => ?_)
      obtain ⟨b1, b2, b3⟩ := hAk k k0 (by omega) hk
      have hki : k = i := by omega
      refine ⟨b3, ?_⟩
      rw [b2, hki, cInd_t conn_rf, if_pos rfl]; omega
    have a2 : cntC A (r * c).toNat ≤ 1 := by
      have : cntC A (r * c).toNat = cntC (fun k => A k ∧ k < r * c) (r * c).toNat := by
        unfold cntC
        exact sumI_cong (fun k k0 k1 => cInd_congr ⟨fun z => ⟨z, by omega⟩, fun z => z.1⟩)
      rw [this]
      exact cnt_one (j := i) (fun k k0 z => by have := (hAk k k0 z.2 z.1).1; omega) _
    unfold goU
    rw [if_neg (by omega)]
    omega
  · have hne : i ≠ j := by omega
    by_cases hcn : conn c (r * c) (PB x) i j
    · have hPi : bI x i = true := (hsq i hi.1 hi.2).mpr ui.2
      have hPj : bI x j = true := (hsq j hj.1 hj.2).mpr uj.2
      have hkey : ∀ k : Int, 0 ≤ k → k < r * c → A k → k = i ∧ szC c (r * c) (PB x) k = 2 * q := by
        intro k k0 k1 hk
        obtain ⟨b1, b2, b3⟩ := hAk k k0 k1 hk
        have hki : k = i := by
          rcases b1 with e | e
          · exact e
          · subst e
            exact absurd hcn (b3.2 i hi.1 (by omega) hPi)
        refine ⟨hki, ?_⟩
        rw [b2, hki, cInd_t conn_rf, cInd_t hcn, if_neg hne]; omega
      have a2 : cntC A (r * c).toNat ≤ 1 := by
        have : cntC A (r * c).toNat = cntC (fun k => A k ∧ k < r * c) (r * c).toNat := by
          unfold cntC
          exact sumI_cong (fun k k0 k1 => cInd_congr ⟨fun z => ⟨z, by omega⟩, fun z => z.1⟩)
        rw [this]
        exact cnt_one (j := i) (fun k k0 z => (hkey k k0 z.2 z.1).1) _
      have a3 : cntC A (r * c).toNat ≤ pcw c (r * c) (PB x) (fun s => s = 2 * q) := by
        rw [hn2]
        refine cnt_mono (fun k k0 k1 hk => ?_)
        exact ⟨(hAk k k0 (by omega) hk).2.2, (hkey k k0 (by omega) hk).2⟩
      unfold goU
      by_cases g : u = 2 ∧ pcw c (r * c) (PB x) (fun s => s = q) = 0 ∧ 0 < pcw c (r * c) (PB x) (fun s => s = 2 * q)
      · rw [if_pos g]; omega
      · rw [if_neg g]; omega
    · have a1 : cntC A (r * c).toNat ≤ pcw c (r * c) (PB x) (fun s => s = q) := by
        rw [hn1]
        refine cnt_mono (fun k k0 k1 hk => ?_)
        obtain ⟨b1, b2, b3⟩ := hAk k k0 (by omega) hk
        refine ⟨b3, ?_⟩
        rw [b2, if_neg hne]
        rcases b1 with e | e
        · rw [e, cInd_t conn_rf, cInd_f hcn]; omega
        · have hPi : bI x i = true := (hsq i hi.1 hi.2).mpr ui.2
          have hPj : bI x j = true := (hsq j hj.1 hj.2).mpr uj.2
          rw [e, cInd_t conn_rf, cInd_f (fun z => hcn (conn_sym hs.2.1 hs.2.2 z hj.1 (hx j hj.1 hj.2 hPj) hPj))]; omega
      have a2 : cntC A (r * c).toNat ≤ 2 := by
        have : cntC A (r * c).toNat = cntC (fun k => A k ∧ k < r * c) (r * c).toNat := by
          unfold cntC
          exact sumI_cong (fun k k0 k1 => cInd_congr ⟨fun z => ⟨z, by omega⟩, fun z => z.1⟩)
        rw [this]
        exact cnt_two (i := i) (j := j) (fun k k0 z => (hAk k k0 z.2 z.1).1) _
      unfold goU
      by_cases g : u = 2 ∧ pcw c (r * c) (PB x) (fun s => s = q) = 0 ∧ 0 < pcw c (r * c) (PB x) (fun s => s = 2 * q)
      · rw [if_pos g]; omega
      · rw [if_neg g]; omega
end UNITS
