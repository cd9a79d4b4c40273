theorem sPrice_R {now : Int → Int} (hok : mOK now) {way ex z : Int} {w : UInt32} (h : sPrice now way w ex z) : inR z := by
  rcases h with ⟨-, b⟩ | ⟨a, k, k0, k1, k2, k3, b⟩ | ⟨-, -, b⟩
  · subst b; decide
  · have h1 := exSum_bd hok.2.2.2.2.2.1 ex
    have h2 := (hok.2.2.2.2.1 way a.1 (by have := a.2.1; omega)).2.2 k k0 k1
    subst b
    constructor <;> omega
  · subst b; decide
