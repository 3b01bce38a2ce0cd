/-! the command text: what a reader makes of the bytes b, from the place p on; nothing stands at 150 or behind -/
/-- behind the run of bytes that keep P -/
def rwF (P : Int32 → Bool) (b : Nat → Int32) : Nat → Nat → Nat
  | 0, p => p
  | n + 1, p => if P (b p) then rwF P b n (p + 1) else p
def rwP (P : Int32 → Bool) (b : Nat → Int32) (p : Nat) : Nat := rwF P b (151 - p) p
theorem rwP_go {P : Int32 → Bool} {b : Nat → Int32} {p : Nat} (hp : p ≤ 150) (h : P (b p) = true) : rwP P b p = rwP P b (p + 1) := by
  have e : 151 - p = (151 - (p + 1)) + 1 := by omega
  rw [rwP, e, rwF, if_pos h, rwP]
theorem rwP_st {P : Int32 → Bool} {b : Nat → Int32} {p : Nat} (h : ¬ P (b p) = true) : rwP P b p = p := by
  rw [rwP]
  cases 151 - p with
  | zero => rfl
  | succ n => rw [rwF, if_neg h]
theorem rwF_bd {P : Int32 → Bool} {b : Nat → Int32} {L : Nat} (hz : ∀ i, L ≤ i → P (b i) = false) : ∀ n p : Nat, p ≤ L → p ≤ rwF P b n p ∧ rwF P b n p ≤ L := by
  intro n
  induction n with
  | zero => intro p hp; exact ⟨Nat.le_refl _, hp⟩
  | succ n ih =>
    intro p hp
    rw [rwF]
    by_cases h : P (b p) = true
    · rw [if_pos h]
      have hlt : p < L := by
        rcases Nat.lt_or_ge p L with q | q
        · exact q
        · rw [hz p q] at h; cases h
      have := ih (p + 1) hlt
      omega
    · rw [if_neg h]; omega
def isSp (x : Int32) : Bool := decide (x = 32)
def isLt (x : Int32) : Bool := decide (97 ≤ x ∧ x ≤ 122)
abbrev isDg (x : Int32) : Prop := 48 ≤ x ∧ x ≤ 57
abbrev sk (b : Nat → Int32) (p : Nat) : Nat := rwP isSp b p
abbrev lt (b : Nat → Int32) (p : Nat) : Nat := rwP isLt b p
theorem sk_bd {b : Nat → Int32} {L p : Nat} (hz : ∀ i, L ≤ i → b i = 0) (hp : p ≤ L) : p ≤ sk b p ∧ sk b p ≤ L := rwF_bd (fun i hi => by rw [hz i hi]; decide) _ p hp
theorem lt_bd {b : Nat → Int32} {L p : Nat} (hz : ∀ i, L ≤ i → b i = 0) (hp : p ≤ L) : p ≤ lt b p ∧ lt b p ≤ L := rwF_bd (fun i hi => by rw [hz i hi]; decide) _ p hp
theorem sk_go {b : Nat → Int32} {p : Nat} (hp : p ≤ 150) (h : b p = 32) : sk b (p + 1) = sk b p := (rwP_go hp (by rw [h]; decide)).symm
theorem sk_st {b : Nat → Int32} {p : Nat} (h : ¬ b p = 32) : sk b p = p := rwP_st (by simp only [isSp, decide_eq_true_eq]; exact h)
theorem lt_go {b : Nat → Int32} {p : Nat} (hp : p ≤ 150) (h : 97 ≤ b p ∧ b p ≤ 122) : lt b (p + 1) = lt b p := (rwP_go hp (decide_eq_true h)).symm
theorem lt_st {b : Nat → Int32} {p : Nat} (h : ¬ (97 ≤ b p ∧ b p ≤ 122)) : lt b p = p := rwP_st (by simp only [isLt, decide_eq_true_eq]; exact h)
/-- the text i stands from s to e -/
def isW (b : Nat → Int32) (s e i : Nat) : Prop := e = s + lnS i ∧ ∀ k, k < lnS i → b (s + k) = chS i k
/-- x if c, else y -/
noncomputable def pI (c : Prop) (x y : Nat) : Nat := @ite _ c (Classical.propDecidable c) x y
theorem pI_t {c : Prop} {x y : Nat} (h : c) : pI c x y = x := if_pos h
theorem pI_f {c : Prop} {x y : Nat} (h : ¬ c) : pI c x y = y := if_neg h
/-- the word from s to e: 1 wall, 2 paint, 3 lamp, 4 corner, 5 shift, 6 fail, 7 mend, 8 burn, 0 none -/
noncomputable def wdOf (b : Nat → Int32) (s e : Nat) : Nat := pI (isW b s e 0) 1 (pI (isW b s e 1) 2 (pI (isW b s e 2) 3 (pI (isW b s e 3) 4 (pI (isW b s e 4) 5 (pI (isW b s e 5) 6 (pI (isW b s e 6) 7 (pI (isW b s e 7) 8 0)))))))
theorem wdOf_le (b : Nat → Int32) (s e : Nat) : wdOf b s e ≤ 8 := by
  unfold wdOf
  by_cases h0 : isW b s e 0
  · rw [pI_t h0]; decide
  rw [pI_f h0]
  by_cases h1 : isW b s e 1
  · rw [pI_t h1]; decide
  rw [pI_f h1]
  by_cases h2 : isW b s e 2
  · rw [pI_t h2]; decide
  rw [pI_f h2]
  by_cases h3 : isW b s e 3
  · rw [pI_t h3]; decide
  rw [pI_f h3]
  by_cases h4 : isW b s e 4
  · rw [pI_t h4]; decide
  rw [pI_f h4]
  by_cases h5 : isW b s e 5
  · rw [pI_t h5]; decide
  rw [pI_f h5]
  by_cases h6 : isW b s e 6
  · rw [pI_t h6]; decide
  rw [pI_f h6]
  by_cases h7 : isW b s e 7
  · rw [pI_t h7]; decide
  rw [pI_f h7]; decide
/-- how many numbers the word takes -/
def nOf (w : Nat) : Nat := if w = 2 then 5 else if w = 4 then 4 else if w = 1 ∨ w = 3 ∨ w = 5 then 2 else 1
theorem nOf_le (w : Nat) : nOf w ≤ 5 := by
  unfold nOf
  split
  · omega
  · split
    · omega
    · split <;> omega
/-- up to n digits from p on, behind the value v -/
def dgF (b : Nat → Int32) : Nat → Nat → Int32 → Nat × Int32
  | 0, p, v => (p, v)
  | n + 1, p, v => if isDg (b p) then dgF b n (p + 1) (10 * v + b p - 48) else (p, v)
theorem dgF_bd {b : Nat → Int32} {L : Nat} (hz : ∀ i, L ≤ i → b i = 0) : ∀ (n p : Nat) (v : Int32), p ≤ L → p ≤ (dgF b n p v).1 ∧ (dgF b n p v).1 ≤ L := by
  intro n
  induction n with
  | zero => intro p v hp; exact ⟨Nat.le_refl _, hp⟩
  | succ n ih =>
    intro p v hp
    rw [dgF]
    by_cases h : isDg (b p)
    · rw [if_pos h]
      have hlt : p < L := by
        rcases Nat.lt_or_ge p L with q | q
        · exact q
        · rw [hz p q] at h; exact absurd h (by decide)
      have := ih (p + 1) (10 * v + b p - 48) hlt
      omega
    · rw [if_neg h]; exact ⟨Nat.le_refl _, hp⟩
/-- behind the sign, if there is one at q -/
def sgP (b : Nat → Int32) (q : Nat) : Nat := if b q = 45 then q + 1 else q
def sgI (b : Nat → Int32) (q : Nat) : Int32 := if b q = 45 then 1 else 0
def sgV (b : Nat → Int32) (q : Nat) (v : Int32) : Int32 := if b q = 45 then -v else v
/-- a number: found, the place, its value -/
def rdN (b : Nat → Int32) (p : Nat) : Bool × Nat × Int32 :=
  if b p = 32 then if isDg (b (sgP b (sk b p))) then (true, (dgF b 4 (sgP b (sk b p)) 0).1, sgV b (sk b p) (dgF b 4 (sgP b (sk b p)) 0).2) else (false, sgP b (sk b p), 0) else (false, p, 0)
theorem rdN_0 {b : Nat → Int32} {p : Nat} (h : ¬ b p = 32) : rdN b p = (false, p, 0) := if_neg h
theorem rdN_1 {b : Nat → Int32} {p : Nat} (h : b p = 32) (h2 : ¬ isDg (b (sgP b (sk b p)))) : rdN b p = (false, sgP b (sk b p), 0) := by rw [rdN, if_pos h, if_neg h2]
theorem rdN_2 {b : Nat → Int32} {p : Nat} (h : b p = 32) (h2 : isDg (b (sgP b (sk b p)))) : rdN b p = (true, (dgF b 4 (sgP b (sk b p)) 0).1, sgV b (sk b p) (dgF b 4 (sgP b (sk b p)) 0).2) := by rw [rdN, if_pos h, if_pos h2]
theorem sgP_bd {b : Nat → Int32} {L q : Nat} (hz : ∀ i, L ≤ i → b i = 0) (hq : q ≤ L) : q ≤ sgP b q ∧ sgP b q ≤ L := by
  unfold sgP
  by_cases h : b q = 45
  · rw [if_pos h]
    have hlt : q < L := by
      rcases Nat.lt_or_ge q L with z | z
      · exact z
      · rw [hz q z] at h; exact absurd h (by decide)
    omega
  · rw [if_neg h]; omega
theorem rdN_bd {b : Nat → Int32} {L p : Nat} (hz : ∀ i, L ≤ i → b i = 0) (hp : p ≤ L) : p ≤ (rdN b p).2.1 ∧ (rdN b p).2.1 ≤ L := by
  have h1 := sk_bd hz hp
  have h2 := sgP_bd hz h1.2
  by_cases h : b p = 32
  · by_cases h3 : isDg (b (sgP b (sk b p)))
    · rw [rdN_2 h h3]
      have := dgF_bd hz 4 (sgP b (sk b p)) 0 h2.2
      show p ≤ (dgF b 4 (sgP b (sk b p)) 0).1 ∧ _
      exact ⟨by omega, this.2⟩
    · rw [rdN_1 h h3]; exact ⟨Nat.le_trans h1.1 h2.1, h2.2⟩
  · rw [rdN_0 h]; exact ⟨Nat.le_refl _, hp⟩
def upN (n : Nat → Int32) (i : Nat) (x : Int32) : Nat → Int32 := fun j => if j = i then x else n j
/-- k numbers, from the number i on -/
def rdNs (b : Nat → Int32) : Nat → Nat → Nat → (Nat → Int32) → Bool × Nat × (Nat → Int32)
  | 0, _, p, n => (true, p, n)
  | k + 1, i, p, n => if (rdN b p).1 = true then rdNs b k (i + 1) (rdN b p).2.1 (upN n i (rdN b p).2.2) else (false, (rdN b p).2.1, n)
theorem rdNs_bd {b : Nat → Int32} {L : Nat} (hz : ∀ i, L ≤ i → b i = 0) : ∀ (k i p : Nat) (n : Nat → Int32), p ≤ L → p ≤ (rdNs b k i p n).2.1 ∧ (rdNs b k i p n).2.1 ≤ L := by
  intro k
  induction k with
  | zero => intro i p n hp; exact ⟨Nat.le_refl _, hp⟩
  | succ k ih =>
    intro i p n hp
    have h1 := rdN_bd hz hp
    rw [rdNs]
    by_cases h : (rdN b p).1 = true
    · rw [if_pos h]
      have := ih (i + 1) (rdN b p).2.1 (upN n i (rdN b p).2.2) h1.2
      omega
    · rw [if_neg h]; exact h1
abbrev CR : Type := Bool × Nat × Int32 × Int32 × (Nat → Int32)
/-- behind the numbers -/
def rdE (b : Nat → Int32) (f w : Int32) (r : Bool × Nat × (Nat → Int32)) : CR :=
  if r.1 = true then if b (sk b r.2.1) = 59 then (true, sk b r.2.1 + 1, f, w, r.2.2) else (false, sk b r.2.1, nI (sk b r.2.1), w, r.2.2) else (false, r.2.1, nI r.2.1, w, r.2.2)
/-- behind the word w that stands from s to e -/
def rdW (b : Nat → Int32) (f : Int32) (n : Nat → Int32) (s e w : Nat) : CR :=
  if w = 0 then (false, e, nI s, 0, n) else rdE b f (nI w) (rdNs b (nOf w) 0 e (fun _ => 0))
/-- a command: read, the place, the fault, the word, the numbers -/
noncomputable def rdC (b : Nat → Int32) (L p : Nat) (f w : Int32) (n : Nat → Int32) : CR :=
  if L ≤ sk b p then (false, sk b p, f, w, n) else rdW b f n (sk b p) (lt b (sk b p)) (wdOf b (sk b p) (lt b (sk b p)))
theorem rdE_bd {b : Nat → Int32} {L : Nat} (hz : ∀ i, L ≤ i → b i = 0) {f w : Int32} {r : Bool × Nat × (Nat → Int32)} (hr : r.2.1 ≤ L) : (rdE b f w r).2.1 ≤ L ∧ ((rdE b f w r).1 = true → r.2.1 < (rdE b f w r).2.1) := by
  have h1 := sk_bd hz hr
  unfold rdE
  by_cases h : r.1 = true
  · rw [if_pos h]
    by_cases h2 : b (sk b r.2.1) = 59
    · rw [if_pos h2]
      have hlt : sk b r.2.1 < L := by
        rcases Nat.lt_or_ge (sk b r.2.1) L with z | z
        · exact z
        · rw [hz _ z] at h2; exact absurd h2 (by decide)
      exact ⟨hlt, fun _ => Nat.lt_succ_of_le h1.1⟩
    · rw [if_neg h2]; exact ⟨h1.2, fun z => Bool.noConfusion z⟩
  · rw [if_neg h]; exact ⟨hr, fun z => Bool.noConfusion z⟩
theorem rdC_bd {b : Nat → Int32} {L p : Nat} (hz : ∀ i, L ≤ i → b i = 0) (hp : p ≤ L) (f w : Int32) (n : Nat → Int32) : (rdC b L p f w n).2.1 ≤ L ∧ ((rdC b L p f w n).1 = true → p < (rdC b L p f w n).2.1) := by
  have h1 := sk_bd hz hp
  have h2 := lt_bd hz h1.2
  unfold rdC
  by_cases h : L ≤ sk b p
  · rw [if_pos h]; exact ⟨h1.2, fun z => Bool.noConfusion z⟩
  · rw [if_neg h]
    unfold rdW
    by_cases h3 : wdOf b (sk b p) (lt b (sk b p)) = 0
    · rw [if_pos h3]; exact ⟨h2.2, fun z => Bool.noConfusion z⟩
    · rw [if_neg h3]
      have h4 := rdNs_bd hz (nOf (wdOf b (sk b p) (lt b (sk b p)))) 0 (lt b (sk b p)) (fun _ => 0) h2.2
      have h5 := rdE_bd hz (f := f) (w := nI (wdOf b (sk b p) (lt b (sk b p)))) (r := rdNs b (nOf (wdOf b (sk b p) (lt b (sk b p)))) 0 (lt b (sk b p)) (fun _ => 0)) h4.2
      exact ⟨h5.1, fun z => by have := h5.2 z; omega⟩
/-- all commands, at most k -/
noncomputable def rdA (b : Nat → Int32) (L : Nat) : Nat → CR → CR
  | 0, r => r
  | k + 1, r => if (rdC b L r.2.1 r.2.2.1 r.2.2.2.1 r.2.2.2.2).1 = true then rdA b L k (rdC b L r.2.1 r.2.2.1 r.2.2.2.1 r.2.2.2.2) else rdC b L r.2.1 r.2.2.1 r.2.2.2.1 r.2.2.2.2
/-! the class's side: its text and its reader in the memory -/
def bt (μ : Mm) (i : Nat) : Int32 := if i < 150 then μ 105 i else 0
/-- the text is whole: length L, nothing behind it -/
def TX (μ : Mm) (L : Nat) : Prop := μ 102 2 = nI L ∧ L ≤ 150 ∧ ∀ i, L ≤ i → bt μ i = 0
def cmM (μ : Mm) (p : Nat) (f w : Int32) (n : Nat → Int32) : Mm := fun a j => if a = 102 ∧ j = 3 then nI p else if a = 102 ∧ j = 4 then f else if a = 102 ∧ j = 5 then w else if a = 106 ∧ j < 5 then n j else μ a j
abbrev CM (μ : Mm) (r : CR) : Mm := cmM μ r.2.1 r.2.2.1 r.2.2.2.1 r.2.2.2.2
theorem gt_bt {μ : Mm} {p : Nat} (h : p < 2147483648) : gt μ 105 150 (nI p) = bt μ p := by
  unfold bt
  by_cases hp : p < 150
  · rw [if_pos hp, gt_nI hp (by decide)]
  · rw [if_neg hp, gt_out (Or.inr (by rw [nI_clamp h]; omega))]
theorem bt_cm (μ : Mm) (p : Nat) (f w : Int32) (n : Nat → Int32) : bt (cmM μ p f w n) = bt μ := by
  funext i
  simp [bt, cmM]
theorem cm_2 (μ : Mm) (p : Nat) (f w : Int32) (n : Nat → Int32) : cmM μ p f w n 102 2 = μ 102 2 := by simp [cmM]
theorem cm_3 (μ : Mm) (p : Nat) (f w : Int32) (n : Nat → Int32) : cmM μ p f w n 102 3 = nI p := by simp [cmM]
theorem cm_4 (μ : Mm) (p : Nat) (f w : Int32) (n : Nat → Int32) : cmM μ p f w n 102 4 = f := by simp [cmM]
theorem cm_5 (μ : Mm) (p : Nat) (f w : Int32) (n : Nat → Int32) : cmM μ p f w n 102 5 = w := by simp [cmM]
theorem cm_n {μ : Mm} {p : Nat} {f w : Int32} {n : Nat → Int32} {j : Nat} (h : j < 5) : cmM μ p f w n 106 j = n j := by simp [cmM, h]
theorem cm_o {μ : Mm} {p : Nat} {f w : Int32} {n : Nat → Int32} {a j : Nat} (h : a ≠ 102) (h2 : a ≠ 106) : cmM μ p f w n a j = μ a j := by simp [cmM, h, h2]
theorem cm_u3 (μ : Mm) (p q : Nat) (f w : Int32) (n : Nat → Int32) : uM (cmM μ p f w n) 102 3 (nI q) = cmM μ q f w n := by
  funext a j
  by_cases h : a = 102 ∧ j = 3
  · simp [uM, cmM, h]
  · simp [uM, cmM, h]
theorem cm_u4 (μ : Mm) (p : Nat) (f x w : Int32) (n : Nat → Int32) : uM (cmM μ p f w n) 102 4 x = cmM μ p x w n := by
  funext a j
  by_cases h : a = 102 ∧ j = 4
  · simp [uM, cmM, h]
  · simp [uM, cmM, h]
theorem cm_u5 (μ : Mm) (p : Nat) (f x w : Int32) (n : Nat → Int32) : uM (cmM μ p f w n) 102 5 x = cmM μ p f x n := by
  funext a j
  by_cases h : a = 102 ∧ j = 5
  · simp [uM, cmM, h]
  · simp [uM, cmM, h]
theorem cm_st (μ : Mm) (p : Nat) (f w x : Int32) (n : Nat → Int32) {i : Nat} (hi : i < 5) : stR (cmM μ p f w n) 106 5 (nI i) x = cmM μ p f w (upN n i x) := by
  rw [stR_nI hi (by decide)]
  funext a j
  by_cases h : a = 106 ∧ j = i
  · obtain ⟨rfl, rfl⟩ := h
    simp [uM, cmM, upN, hi]
  · by_cases h2 : a = 106
    · subst h2
      have hj : j ≠ i := fun z => h ⟨rfl, z⟩
      simp [uM, cmM, upN, hj]
    · simp [uM, cmM, h2]
theorem cm_cl (μ : Mm) (p : Nat) (f w : Int32) (n : Nat → Int32) : setRow (cmM μ p f w n) 106 5 (fun _ => 0) = cmM μ p f w (fun _ => 0) := by
  funext a j
  by_cases h : a = 106 ∧ j < 5
  · simp [setRow, cmM, h]
  · simp [setRow, cmM, h]
theorem cm_cm (μ : Mm) (p p2 : Nat) (f w f2 w2 : Int32) (n n2 : Nat → Int32) : cmM (cmM μ p f w n) p2 f2 w2 n2 = cmM μ p2 f2 w2 n2 := by
  funext a j
  simp only [cmM]
  by_cases h1 : a = 102 ∧ j = 3 <;> by_cases h2 : a = 102 ∧ j = 4 <;> by_cases h3 : a = 102 ∧ j = 5 <;> by_cases h4 : a = 106 ∧ j < 5 <;> simp [h1, h2, h3, h4]
theorem cm_rw (μ : Mm) : uM (uM μ 102 3 0) 102 4 (-1000) = cmM μ 0 (-1000) (μ 102 5) (μ 106) := by
  funext a j
  by_cases h2 : a = 102
  · subst h2
    by_cases h3 : j = 3
    · subst h3; simp [uM, cmM]; rfl
    · by_cases h4 : j = 4
      · subst h4; simp [uM, cmM]
      · by_cases h5 : j = 5
        · subst h5; simp [uM, cmM]
        · simp [uM, cmM, h3, h4, h5]
  · by_cases h6 : a = 106
    · subst h6; simp [uM, cmM]
    · simp [uM, cmM, h2, h6]
theorem TX.cm {μ : Mm} {L : Nat} (h : TX μ L) (p : Nat) (f w : Int32) (n : Nat → Int32) : TX (cmM μ p f w n) L := ⟨by rw [cm_2]; exact h.1, h.2.1, fun i hi => by rw [bt_cm]; exact h.2.2 i hi⟩
theorem nI_sub {a b : Nat} (h : b ≤ a) (ha : a < 2147483648) : nI a - nI b = nI (a - b) := by
  have e : nI a = nI (a - b) + nI b := by rw [nI_add]; congr 1; omega
  rw [e, Int32.add_sub_cancel]
/-- all of the text, from its start -/
noncomputable def ffC (μ : Mm) (L : Nat) : CR := rdA (bt μ) L 150 (true, 0, -1000, μ 102 5, μ 106)
