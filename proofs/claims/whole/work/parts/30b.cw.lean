theorem alg_s (a b p q : Int32) : (a - p) + (b - q) = (a + b) - (p + q) := by grind
theorem alg_0 (a p : Int32) : (a - p) + 0 = (a + 1) - (p + 1) := by grind
theorem alg_1 (a p : Int32) : (a - p) + 1 = (a + 1) - (p + 0) := by grind
theorem nine_sum {f : Nat → Int32} : ∀ n, sumN n (fun x => if f x = 0 then (0 : Int32) else 1) = nI n - sumN n (fun x => if f x = 0 then (1 : Int32) else 0) := by
  intro n
  induction n with
  | zero =>
    show (0 : Int32) = nI 0 - 0
    decide
  | succ n ih =>
    show sumN n (fun x => if f x = 0 then (0 : Int32) else 1) + (if f n = 0 then (0 : Int32) else 1) = nI (n + 1) - (sumN n (fun x => if f x = 0 then (1 : Int32) else 0) + (if f n = 0 then (1 : Int32) else 0))
    rw [ih, ← nI_1]
    generalize sumN n (fun x => if f x = 0 then (1 : Int32) else 0) = P
    by_cases h : f n = 0
    · rw [if_pos h, if_pos h]; exact alg_0 _ _
    · rw [if_neg h, if_neg h]; exact alg_1 _ _
theorem cw_sum {V : Mm} {c : Nat} {z sx sy : Int32} {g : Nat → Int32} (hg : ∀ y x, x < c → g (c * y + x) = if stP V 0 z sx sy c x y = 0 then 1 else 0) : ∀ r, cwN V 0 z sx sy c r = nI (c * r) - sumN (c * r) g := by
  intro r
  induction r with
  | zero =>
    show (0 : Int32) = nI (c * 0) - sumN (c * 0) g
    rw [Nat.mul_zero]
    show (0 : Int32) = nI 0 - 0
    decide
  | succ y ih =>
    have h1 := nine_sum (f := fun x => stP V 0 z sx sy c x y) c
    have h2 : sumN c (fun x => if stP V 0 z sx sy c x y = 0 then (1 : Int32) else 0) = sumN c (fun x => g (c * y + x)) := sumN_congr fun x hx => (hg y x hx).symm
    rw [h2] at h1
    refine (congr (congrArg HAdd.hAdd ih) h1).trans ?_
    rw [Nat.mul_succ, sum_app, ← nI_add]
    exact alg_s _ _ _ _
theorem cw_pst {V : Mm} {lc c : Nat} (r : Nat) : cwN V 0 (zzS V lc) (V 0 2) (V 0 3) c r = nI (c * r) - pstJ V lc c r 0 := by
  unfold pstJ
  refine cw_sum (fun y x hx => ?_) r
  show (if stJ V lc c (c * y + x) = 0 then (1 : Int32) else 0) = _
  rw [Nat.mul_comm c y, stJ_xy hx]
theorem aL0 (k w : Nat) : aL k w = aL k 0 + w := by unfold aL; omega
theorem row_V2 {V : Mm} {w k : Nat} {v : Int32} : ∀ p q : Nat, p < 15 → ¬ (p = 0 ∧ q = 6) → uM (uM V w k v) 0 6 1 p q = if p = w ∧ q = k then v else V p q := fun p q _ h => by
  rw [uM_n h]; rfl
theorem wk_ans {V μ : Mm} {c r lc k : Nat} (hM : MI V c r lc μ) (hk : k < 8) : (if wkB V 0 k = true then 1 else 0) = μ 1 (aL k 11) := by
  have h := (hM.1.2.2.1 k hk).2.2.2
  have v := (hM.1.2.1.2.2 k hk).2.2.2.1
  unfold wkB
  rw [h]
  rcases v with v | v <;> rw [v] <;> decide
