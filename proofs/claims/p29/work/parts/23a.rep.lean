/-! the model's row of numbers shows a scene of the class -/
/-- where the lamp k's number w lies -/
def aL (k w : Nat) : Nat := 390 + 12 * k + w
theorem aL_lt {k w : Nat} (hk : k < 8) (hw : w < 12) : aL k w < 486 := by unfold aL; omega
theorem aLI (k w : Nat) : (390 : Int32) + 12 * nI k + nI w = nI (aL k w) := by
  have h1 : (12 : Int32) * nI k = nI (12 * k) := by
    show nI 12 * nI k = _
    rw [pk_mul]
  rw [h1, show (390 : Int32) = nI 390 from rfl, nI_add, nI_add]
  rfl
theorem tgI (x y : Nat) : (6 : Int32) + 24 * nI y + nI x = nI (6 + 24 * y + x) := by
  have h1 : (24 : Int32) * nI y = nI (24 * y) := by
    show nI 24 * nI y = _
    rw [pk_mul]
  rw [h1, show (6 : Int32) = nI 6 from rfl, nI_add, nI_add]
theorem cl0 : (0 : Int32).toNatClampNeg = 0 := by decide
theorem cl1 : (1 : Int32).toNatClampNeg = 1 := by decide
theorem cl2 : (2 : Int32).toNatClampNeg = 2 := by decide
theorem cl3 : (3 : Int32).toNatClampNeg = 3 := by decide
theorem cl4 : (4 : Int32).toNatClampNeg = 4 := by decide
theorem cl5 : (5 : Int32).toNatClampNeg = 5 := by decide
theorem cl6 : (6 : Int32).toNatClampNeg = 6 := by decide
def BDs (f : Nat → Int32) : Prop := (rgI (f 2) (-10) 10 ∧ rgI (f 3) (-10) 10) ∧ (∀ j, j < 384 → rgI (f (6 + j)) 0 255) ∧ ∀ k, k < 8 → rgI (f (aL k 8)) 0 255 ∧ rgI (f (aL k 9)) 0 255 ∧ rgI (f (aL k 10)) 0 900 ∧ (f (aL k 11) = 0 ∨ f (aL k 11) = 1) ∧ ∀ i, i < 8 → rgI (f (aL k i)) (-20) 40
def REP (s : Nat) (V : Mm) (f : Nat → Int32) (c r lc : Nat) : Prop :=
  (f 0 = nI c ∧ f 1 = nI r ∧ f 4 = nI lc ∧ 1 ≤ c ∧ c ≤ 24 ∧ 1 ≤ r ∧ r ≤ 16 ∧ lc ≤ 8) ∧ BDs f ∧
  (∀ k, k < 8 → V (s + 9) k = f (aL k 8) ∧ V (s + 10) k = f (aL k 9) ∧ V (s + 11) k = f (aL k 10) ∧ V (s + 12) k = f (aL k 11)) ∧
  (∀ k i, k < 8 → i < 4 → V (s + 13) (4 * k + i) = f (aL k i) ∧ V (s + 14) (4 * k + i) = f (aL k (4 + i))) ∧
  (∀ x y, x < c → y < r → V (s + 8) (y * c + x) = f (6 + 24 * y + x))
theorem mn_sw (a b : Int32) : (if a < b then a else b) = if b < a then b else a := by
  by_cases h : a < b
  · rw [if_pos h]
    by_cases h2 : b < a
    · exact absurd h2 (Int32.not_lt.mpr (Int32.le_of_lt h))
    · rw [if_neg h2]
  · by_cases h2 : b < a
    · rw [if_neg h, if_pos h2]
    · rw [if_neg h, if_neg h2]; exact Int32.le_antisymm (Int32.not_lt.mp h) (Int32.not_lt.mp h2)
theorem le_pred {n : Int32} {c : Nat} (h1 : 1 ≤ c) (hc : c < 2147483648) : n ≤ nI c - 1 ↔ n < nI c := by
  obtain ⟨d, rfl⟩ : ∃ d, c = d + 1 := ⟨c - 1, by omega⟩
  rw [nI_pred, Int32.le_iff_toInt_le, Int32.lt_iff_toInt_lt, nI_toInt (by omega), nI_toInt hc]
  omega
theorem le_pred0 {n : Int32} {c : Nat} (hc : c < 2147483648) : (0 ≤ n ∧ n ≤ nI c - 1) ↔ (0 ≤ n ∧ n < nI c) := by
  rcases Nat.eq_zero_or_pos c with rfl | h1
  · constructor
    · intro h; exact absurd (Int32.le_trans h.1 h.2) (by decide)
    · intro h; exact absurd (Int32.lt_of_le_of_lt h.1 h.2) (by decide)
  · rw [le_pred h1 hc]
