/-! the model's keeping and balancing, in the class's words -/
theorem mx_sw (a b : Int32) : (if a < b then b else a) = if b < a then a else b := by
  by_cases h : a < b
  · rw [if_pos h]
    by_cases h2 : b < a
    · exact absurd h2 (Int32.not_lt.mpr (Int32.le_of_lt h))
    · rw [if_neg h2]
  · by_cases h2 : b < a
    · rw [if_neg h, if_pos h2]
    · rw [if_neg h, if_neg h2]; exact Int32.le_antisymm (Int32.not_lt.mp h2) (Int32.not_lt.mp h)
theorem cl_l2 (li fl l : Int32) : (if (if li < l then li else l) < fl then fl else (if li < l then li else l)) = mxI fl (mnI li l) := by
  have e : (if li < l then li else l) = mnI li l := mn_sw li l
  rw [e]
  exact mx_sw _ _
theorem by_pos (d m : Int32) : (if d < m then d else m) = mnI d m := mn_sw d m
theorem by_neg {d l fl : Int32} (hd : bd d 1000000000) (hl : bd l 100000000) (hf : bd fl 100000000) : -(if -d < l - fl then -d else l - fl) = mxI d (fl - l) := by
  have a := bd_neg hd (by decide)
  have b := bd_sub hl hf (by decide)
  have c := bd_sub hf hl (by decide)
  unfold mxI
  by_cases h : -d < l - fl
  · rw [if_pos h]
    have h1 := Int32.lt_iff_toInt_lt.mp h
    have h2 : ¬ d < fl - l := fun z => by
      have := Int32.lt_iff_toInt_lt.mp z
      omega
    rw [if_neg h2]
    exact Int32.neg_neg
  · rw [if_neg h]
    have h1 := Int32.le_iff_toInt_le.mp (Int32.not_lt.mp h)
    have e : -(l - fl) = fl - l := by grind
    rw [e]
    by_cases h2 : d < fl - l
    · rw [if_pos h2]
    · rw [if_neg h2]
      have h3 := Int32.le_iff_toInt_le.mp (Int32.not_lt.mp h2)
      apply Int32.toInt_inj.mp
      omega
/-- what is missing stays small -/
theorem bmV_bd {cv m0 : Int32} {li fl l : Nat → Int32} (h0 : bd m0 4000) (hl : ∀ k, k < 8 → bd (li k) 300 ∧ bd (fl k) 300 ∧ bd (l k) 300) : ∀ n, n ≤ 8 → bd (bmV cv li fl l m0 n) (4000 * 4 ^ n) := by
  intro n
  induction n with
  | zero => intro _; exact bd_mono h0 (by decide)
  | succ n ih =>
    intro hn
    have ih := ih (by omega)
    have p : 4 ^ (n + 1) = 4 * 4 ^ n := by rw [Nat.pow_succ]; omega
    have p1 : 1 ≤ 4 ^ n := Nat.one_le_pow _ _ (by decide)
    have p8 : 4 ^ n ≤ 4 ^ 7 := Nat.pow_le_pow_right (by decide) (by omega)
    have p9 : (4 : Nat) ^ 7 = 16384 := by decide
    rw [bmV]
    by_cases hc : bitB cv n = true
    · rw [if_pos hc]
      obtain ⟨h1, h2, h3⟩ := hl n (by omega)
      have a := (bd_sub h2 h3 (by decide)).2
      have b := (bd_sub h1 h3 (by decide)).2
      have q : ∀ v : Int32, bd v (4000 * 4 ^ n) → bd (bmV cv li fl l m0 n - v) (4000 * 4 ^ (n + 1)) := fun v hv => bd_mono (bd_sub ih hv (by omega)).2 (by omega)
      by_cases hs : bmV cv li fl l m0 n ≤ 0
      · rw [if_pos hs]
        apply q
        unfold mxI
        split
        · exact bd_mono a (by omega)
        · exact ih
      · rw [if_neg hs]
        apply q
        unfold mnI
        split
        · exact bd_mono b (by omega)
        · exact ih
    · rw [if_neg hc]; exact bd_mono ih (by omega)
