/-! the model's reader, on the same plain functions as the class's -/
def hrB (b : Nat → Int32) (L p : Nat) : Int32 := if p < L then b p else -1
/-- the model's text: length L, the bytes b -/
def TM (b : Nat → Int32) (L : Nat) (m : Mm) : Prop := m 0 5 = nI L ∧ L ≤ 150 ∧ (∀ i, i < L → m 4 i = b i) ∧ ∀ i, L ≤ i → b i = 0
theorem hr_P {b : Nat → Int32} {L p : Nat} (hz : ∀ i, L ≤ i → b i = 0) (P : Int32 → Prop) (h0 : ¬ P 0) (h1 : ¬ P (-1)) : P (hrB b L p) ↔ P (b p) := by
  unfold hrB
  by_cases h : p < L
  · rw [if_pos h]
  · rw [if_neg h, hz p (by omega)]
    exact ⟨fun z => absurd z h1, fun z => absurd z h0⟩
theorem hr_lt {b : Nat → Int32} {L p : Nat} (hz : ∀ i, L ≤ i → b i = 0) (P : Int32 → Prop) (h0 : ¬ P 0) (h : P (b p)) : p < L := by
  rcases Nat.lt_or_ge p L with q | q
  · exact q
  · rw [hz p q] at h; exact absurd h h0
def pmM (μ : Mm) (p : Nat) (w : Int32) (n : Nat → Int32) : Mm := fun a j => if a = 0 ∧ j = 19 then nI p else if a = 0 ∧ j = 20 then w else if a = 8 ∧ j < 5 then n j else μ a j
theorem pm_19 (μ : Mm) (p : Nat) (w : Int32) (n : Nat → Int32) : pmM μ p w n 0 19 = nI p := by simp [pmM]
theorem pm_20 (μ : Mm) (p : Nat) (w : Int32) (n : Nat → Int32) : pmM μ p w n 0 20 = w := by simp [pmM]
theorem pm_n {μ : Mm} {p : Nat} {w : Int32} {n : Nat → Int32} {j : Nat} (h : j < 5) : pmM μ p w n 8 j = n j := by simp [pmM, h]
theorem pm_o {μ : Mm} {p : Nat} {w : Int32} {n : Nat → Int32} {a j : Nat} (h : ¬ (a = 0 ∧ (j = 19 ∨ j = 20))) (h2 : a ≠ 8) : pmM μ p w n a j = μ a j := by
  unfold pmM
  rw [if_neg (by omega), if_neg (by omega), if_neg (by omega)]
theorem pm_u19 (μ : Mm) (p q : Nat) (w : Int32) (n : Nat → Int32) : uM (pmM μ p w n) 0 19 (nI q) = pmM μ q w n := by
  funext a j
  by_cases h : a = 0 ∧ j = 19
  · simp [uM, pmM, h]
  · simp [uM, pmM, h]
theorem pm_u20 (μ : Mm) (p : Nat) (x w : Int32) (n : Nat → Int32) : uM (pmM μ p w n) 0 20 x = pmM μ p x n := by
  funext a j
  by_cases h : a = 0 ∧ j = 20
  · simp [uM, pmM, h]
  · simp [uM, pmM, h]
theorem pm_st {μ : Mm} {p : Nat} {w x : Int32} {n : Nat → Int32} {i : Nat} (hi : i < 5) : uM (pmM μ p w n) 8 i x = pmM μ p w (upN n i x) := by
  funext a j
  by_cases h : a = 8 ∧ j = i
  · obtain ⟨rfl, rfl⟩ := h
    simp [uM, pmM, upN, hi]
  · by_cases h2 : a = 8
    · subst h2
      have hj : j ≠ i := fun z => h ⟨rfl, z⟩
      simp [uM, pmM, upN, hj]
    · simp [uM, pmM, h2]
theorem pm_0 (μ : Mm) (q : Nat) : uM μ 0 19 (nI q) = pmM μ q (μ 0 20) (μ 8) := by
  funext a j
  simp only [uM, pmM]
  by_cases h1 : a = 0 ∧ j = 19
  · rw [if_pos h1, if_pos h1]
  · rw [if_neg h1, if_neg h1]
    by_cases h2 : a = 0 ∧ j = 20
    · obtain ⟨rfl, rfl⟩ := h2; rw [if_pos ⟨rfl, rfl⟩]
    · rw [if_neg h2]
      by_cases h4 : a = 8 ∧ j < 5
      · obtain ⟨rfl, hj⟩ := h4; rw [if_pos ⟨rfl, hj⟩]
      · rw [if_neg h4]
theorem TM.len {b : Nat → Int32} {L p : Nat} {m : Mm} {w : Int32} {n : Nat → Int32} (h : TM b L m) : pmM m p w n 0 5 = nI L := (pm_o (by omega) (by decide)).trans h.1
theorem TM.tx {b : Nat → Int32} {L p i : Nat} {m : Mm} {w : Int32} {n : Nat → Int32} (h : TM b L m) (hi : i < L) : pmM m p w n 4 i = b i := (pm_o (by omega) (by decide)).trans (h.2.2.1 i hi)
/-! words -/
def iw (b : Nat → Int32) (s e many : Nat) (x0 x1 x2 x3 : Int32) : Prop := e = s + many ∧ b s = x0 ∧ b (s + 1) = x1 ∧ b (s + 2) = x2 ∧ b (s + 3) = x3
theorem isW_4 {b : Nat → Int32} {s e i : Nat} (h : lnS i = 4) : isW b s e i ↔ iw b s e 4 (chS i 0) (chS i 1) (chS i 2) (chS i 3) := by
  unfold isW iw
  rw [h]
  constructor
  · intro z; exact ⟨z.1, z.2 0 (by decide), z.2 1 (by decide), z.2 2 (by decide), z.2 3 (by decide)⟩
  · intro z
    refine ⟨z.1, fun k hk => ?_⟩
    rcases (show k = 0 ∨ k = 1 ∨ k = 2 ∨ k = 3 by omega) with rfl | rfl | rfl | rfl
    · exact z.2.1
    · exact z.2.2.1
    · exact z.2.2.2.1
    · exact z.2.2.2.2
theorem isW_5 {b : Nat → Int32} {s e i : Nat} (h : lnS i = 5) : isW b s e i ↔ iw b s e 5 (chS i 0) (chS i 1) (chS i 2) (chS i 3) ∧ b (s + 4) = chS i 4 := by
  unfold isW iw
  rw [h]
  constructor
  · intro z; exact ⟨⟨z.1, z.2 0 (by decide), z.2 1 (by decide), z.2 2 (by decide), z.2 3 (by decide)⟩, z.2 4 (by decide)⟩
  · intro z
    refine ⟨z.1.1, fun k hk => ?_⟩
    rcases (show k = 0 ∨ k = 1 ∨ k = 2 ∨ k = 3 ∨ k = 4 by omega) with rfl | rfl | rfl | rfl | rfl
    · exact z.1.2.1
    · exact z.1.2.2.1
    · exact z.1.2.2.2.1
    · exact z.1.2.2.2.2
    · exact z.2
theorem isW_6 {b : Nat → Int32} {s e i : Nat} (h : lnS i = 6) : isW b s e i ↔ iw b s e 6 (chS i 0) (chS i 1) (chS i 2) (chS i 3) ∧ b (s + 4) = chS i 4 ∧ b (s + 5) = chS i 5 := by
  unfold isW iw
  rw [h]
  constructor
  · intro z; exact ⟨⟨z.1, z.2 0 (by decide), z.2 1 (by decide), z.2 2 (by decide), z.2 3 (by decide)⟩, z.2 4 (by decide), z.2 5 (by decide)⟩
  · intro z
    refine ⟨z.1.1, fun k hk => ?_⟩
    rcases (show k = 0 ∨ k = 1 ∨ k = 2 ∨ k = 3 ∨ k = 4 ∨ k = 5 by omega) with rfl | rfl | rfl | rfl | rfl | rfl
    · exact z.1.2.1
    · exact z.1.2.2.1
    · exact z.1.2.2.2.1
    · exact z.1.2.2.2.2
    · exact z.2.1
    · exact z.2.2
theorem w_0 {b : Nat → Int32} {s e : Nat} : isW b s e 0 ↔ iw b s e 4 119 97 108 108 := isW_4 (i := 0) rfl
theorem w_1 {b : Nat → Int32} {s e : Nat} : isW b s e 1 ↔ iw b s e 5 112 97 105 110 ∧ b (s + 4) = 116 := isW_5 (i := 1) rfl
theorem w_2 {b : Nat → Int32} {s e : Nat} : isW b s e 2 ↔ iw b s e 4 108 97 109 112 := isW_4 (i := 2) rfl
theorem w_3 {b : Nat → Int32} {s e : Nat} : isW b s e 3 ↔ iw b s e 6 99 111 114 110 ∧ b (s + 4) = 101 ∧ b (s + 5) = 114 := isW_6 (i := 3) rfl
theorem w_4 {b : Nat → Int32} {s e : Nat} : isW b s e 4 ↔ iw b s e 5 115 104 105 102 ∧ b (s + 4) = 116 := isW_5 (i := 4) rfl
theorem w_5 {b : Nat → Int32} {s e : Nat} : isW b s e 5 ↔ iw b s e 4 102 97 105 108 := isW_4 (i := 5) rfl
theorem w_6 {b : Nat → Int32} {s e : Nat} : isW b s e 6 ↔ iw b s e 4 109 101 110 100 := isW_4 (i := 6) rfl
theorem w_7 {b : Nat → Int32} {s e : Nat} : isW b s e 7 ↔ iw b s e 4 98 117 114 110 := isW_4 (i := 7) rfl
theorem wd_short {b : Nat → Int32} {s e : Nat} (h : e < s + 4) : wdOf b s e = 0 := by
  unfold wdOf
  rw [pI_f (fun z => by have := (w_0.mp z).1; omega), pI_f (fun z => by have := (w_1.mp z).1.1; omega), pI_f (fun z => by have := (w_2.mp z).1; omega), pI_f (fun z => by have := (w_3.mp z).1.1; omega), pI_f (fun z => by have := (w_4.mp z).1.1; omega), pI_f (fun z => by have := (w_5.mp z).1; omega), pI_f (fun z => by have := (w_6.mp z).1; omega), pI_f (fun z => by have := (w_7.mp z).1; omega)]
/-! numbers read over other numbers -/
theorem rdNs_n {b : Nat → Int32} : ∀ (k i p : Nat) (n n2 : Nat → Int32), (rdNs b k i p n).1 = (rdNs b k i p n2).1 ∧ (rdNs b k i p n).2.1 = (rdNs b k i p n2).2.1 ∧ ((rdNs b k i p n).1 = true → ∀ j, (i ≤ j → j < i + k → (rdNs b k i p n).2.2 j = (rdNs b k i p n2).2.2 j) ∧ (j < i → (rdNs b k i p n).2.2 j = n j)) := by
  intro k
  induction k with
  | zero => intro i p n n2; exact ⟨rfl, rfl, fun _ j => ⟨fun h1 h2 => by omega, fun _ => rfl⟩⟩
  | succ k ih =>
    intro i p n n2
    rw [rdNs, rdNs]
    by_cases h : (rdN b p).1 = true
    · rw [if_pos h, if_pos h]
      have a := ih (i + 1) (rdN b p).2.1 (upN n i (rdN b p).2.2) (upN n2 i (rdN b p).2.2)
      refine ⟨a.1, a.2.1, fun ht j => ⟨fun h1 h2 => ?_, fun h1 => ?_⟩⟩
      · by_cases e : j = i
        · subst e
          have c := ih (j + 1) (rdN b p).2.1 (upN n2 j (rdN b p).2.2) (upN n j (rdN b p).2.2)
          rw [(a.2.2 ht j).2 (by omega), (c.2.2 (by rw [← a.1]; exact ht) j).2 (by omega)]
          simp [upN]
        · exact (a.2.2 ht j).1 (by omega) (by omega)
      · rw [(a.2.2 ht j).2 (by omega)]
        have : j ≠ i := by omega
        simp [upN, this]
    · rw [if_neg h, if_neg h]
      exact ⟨rfl, rfl, fun z => Bool.noConfusion z⟩
theorem neg_one_mul' (v : Int32) : -1 * v = -v := by grind
