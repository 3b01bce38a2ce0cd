/-! the model's weights -/
/-- z is the set of the lamps that shine, but for the one that is left out -/
def HZ (s : Nat) (V : Mm) (lc : Nat) (w0 z : Int32) : Prop := ∀ n, n < 8 → (bitB z n = true ↔ (n < lc ∧ V (s + 12) n = 1 ∧ ¬ nI n = w0 ∧ goodB V s n = true))
def WG (μ : Mm) (w : Nat → Int32) (n : Nat) : Mm := setRow (uM μ 0 11 (covV w n)) 5 n w
theorem WG_out {μ : Mm} {w : Nat → Int32} {n p q : Nat} (h1 : ¬ (p = 0 ∧ q = 11)) (h2 : p ≠ 5) : WG μ w n p q = μ p q := by
  rw [WG, setRow_out (fun z => h2 z.1), uM_n h1]
theorem WG_1 {μ : Mm} {w : Nat → Int32} {n : Nat} : WG μ w n 1 = μ 1 := funext fun q => WG_out (by omega) (by decide)
theorem WG_R {μ : Mm} {w : Nat → Int32} {n s c r lc : Nat} {V : Mm} (h : REP s V (μ 1) c r lc) : REP s V (WG μ w n 1) c r lc := by rw [WG_1]; exact h
theorem WG_11 {μ : Mm} {w : Nat → Int32} {n : Nat} : WG μ w n 0 11 = covV w n := by rw [WG, setRow_out (by omega), uM_s]
theorem WG_0 {μ : Mm} {w : Nat → Int32} : WG μ w 0 = uM μ 0 11 0 := setRow_0 _ _ _
theorem WG_s {μ : Mm} {w : Nat → Int32} {n : Nat} {v : Int32} (hv : covV w (n + 1) = v) : uM (uM (WG μ w n) 5 n (w n)) 0 11 v = WG μ w (n + 1) := by
  subst hv
  funext p q
  by_cases h1 : p = 0 ∧ q = 11
  · obtain ⟨rfl, rfl⟩ := h1
    rw [uM_s, WG_11]
  · rw [uM_n h1]
    by_cases h2 : p = 5
    · subst h2
      by_cases h3 : q = n
      · subst h3
        rw [uM_s, WG, setRow, if_pos ⟨rfl, Nat.lt_succ_self q⟩]
      · rw [uM_n (fun z => h3 z.2), WG, WG, setRow, setRow]
        by_cases h4 : q < n
        · rw [if_pos ⟨rfl, h4⟩, if_pos ⟨rfl, by omega⟩]
        · rw [if_neg (fun z => h4 z.2), if_neg (fun z => by have := z.2; omega), uM_n (by omega), uM_n (by omega)]
    · rw [uM_n (fun z => h2 z.1), WG_out h1 h2, WG_out h1 h2]
theorem WG_s1 {μ : Mm} {w : Nat → Int32} {n : Nat} (h : 0 < w n) : uM (uM (WG μ w n) 5 n (w n)) 0 11 (covV w n ||| oneI n) = WG μ w (n + 1) := WG_s (orN_t (decide_eq_true h))
theorem WG_s0 {μ : Mm} {w : Nat → Int32} {n : Nat} (h : w n ≤ 0) : uM (uM (WG μ w n) 5 n (w n)) 0 11 (covV w n ||| 0) = WG μ w (n + 1) := WG_s (by
  rw [Int32.or_zero]
  exact orN_f (fun z => Int32.not_lt.mpr h (of_decide_eq_true z)))
