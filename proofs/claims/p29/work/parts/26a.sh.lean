/-! the model's sharing -/
/-- the first of the greatest weights above 0; -1: none -/
def moN (w : Nat → Int32) : Nat → Int32
  | 0 => -1
  | n + 1 => if 0 < w n ∧ (moN w n < 0 ∨ w (tn (moN w n)) < w n) then nI n else moN w n
theorem mo_nat {w : Nat → Int32} : ∀ {n : Nat}, ¬ moN w n < 0 → ∃ k, k < n ∧ moN w n = nI k ∧ 0 < w k := by
  intro n
  induction n with
  | zero => intro h; exact absurd (by decide : (-1 : Int32) < 0) h
  | succ n ih =>
    intro h
    rw [moN] at h ⊢
    by_cases c : 0 < w n ∧ (moN w n < 0 ∨ w (tn (moN w n)) < w n)
    · rw [if_pos c]; exact ⟨n, Nat.lt_succ_self n, rfl, c.1⟩
    · rw [if_neg c] at h ⊢
      obtain ⟨k, hk, e, hw⟩ := ih h
      exact ⟨k, by omega, e, hw⟩
def shL (w : Nat → Int32) (lc : Nat) (t : Int32) (n : Nat) : Int32 := if 0 < w n then t * w n / sumN lc w else 0
def shrM (μ : Mm) (lc : Nat) (t : Int32) : Mm := if moN (μ 5) lc < 0 then setRow μ 6 lc (shL (μ 5) lc t) else uM (setRow μ 6 lc (shL (μ 5) lc t)) 6 (tn (moN (μ 5) lc)) (shL (μ 5) lc t (tn (moN (μ 5) lc)) + misN t (shL (μ 5) lc t) lc)
