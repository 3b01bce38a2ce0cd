/-! saving and bringing back -/
def pm (pn : Nat) : Nat := if pn = 4 then 3 else pn
theorem pm_lt {pn : Nat} (h : pn ≤ 4) : pm pn < 4 := by
  unfold pm; split <;> omega
def svA (pn : Nat) (μ : Mm) : Mm := if pn = 4 then uM (setRow μ 2 1458 (fun q => μ 2 (q + 486))) 0 3 (nI 3) else μ
theorem svA_o {pn p q : Nat} {μ : Mm} (h1 : p ≠ 2) (h2 : ¬ (p = 0 ∧ q = 3)) : svA pn μ p q = μ p q := by
  unfold svA
  split
  · rw [uM_n h2, setRow_out (fun z => h1 z.1)]
  · rfl
theorem svA_3 {pn : Nat} {μ : Mm} (h3 : μ 0 3 = nI pn) : svA pn μ 0 3 = nI (pm pn) := by
  unfold svA pm
  by_cases e : pn = 4
  · rw [if_pos e, if_pos e, uM_s]
  · rw [if_neg e, if_neg e]; exact h3
def stc (B : Mm) (lo n : Nat) : Mm := fun p q => if p = 2 ∧ lo ≤ q ∧ q < lo + n then B 3 (q - lo) else B p q
theorem stc_o {B : Mm} {lo n p q : Nat} (h : ¬ (p = 2 ∧ lo ≤ q ∧ q < lo + n)) : stc B lo n p q = B p q := if_neg h
theorem stc_0 {B : Mm} {lo : Nat} : stc B lo 0 = B := by
  funext p q
  exact if_neg (by omega)
theorem stc_s {B : Mm} {lo n : Nat} : uM (stc B lo n) 2 (lo + n) (B 3 n) = stc B lo (n + 1) := by
  funext p q
  by_cases e : p = 2 ∧ q = lo + n
  · obtain ⟨rfl, rfl⟩ := e
    rw [uM_s, stc, if_pos ⟨rfl, by omega, by omega⟩, show lo + n - lo = n by omega]
  · rw [uM_n e, stc, stc]
    by_cases e2 : p = 2 ∧ lo ≤ q ∧ q < lo + n
    · rw [if_pos e2, if_pos (by omega)]
    · rw [if_neg e2, if_neg (by omega)]
def svM (pn : Nat) (μ : Mm) : Mm := uM (stc (svA pn μ) (486 * pm pn) 486) 0 3 (nI (pm pn + 1))
theorem svI {p n : Nat} : (486 : Int32) * nI p + nI n = nI (486 * p + n) := by
  show nI 486 * nI p + nI n = _
  rw [pk_mul, nI_add]
theorem svM_o {pn p q : Nat} {μ : Mm} (h1 : p ≠ 2) (h2 : ¬ (p = 0 ∧ q = 3)) : svM pn μ p q = μ p q := by
  unfold svM
  rw [uM_n h2, stc_o (fun z => h1 z.1), svA_o h1 h2]
/-- the slots behind a saving: j is the number of the slot -/
theorem svM_l {pn q : Nat} {μ : Mm} (hq : q < 486) : svM pn μ 2 (486 * pm pn + q) = μ 3 q := by
  unfold svM
  rw [uM_n (by omega), stc, if_pos ⟨rfl, by omega, by omega⟩, svA_o (by decide) (by omega)]
  congr 1; omega
theorem svM_s {pn j q : Nat} {μ : Mm} (hj : j < pm pn) (hq : q < 486) : svM pn μ 2 (486 * j + q) = if pn = 4 then μ 2 (486 * (j + 1) + q) else μ 2 (486 * j + q) := by
  have h1 : 486 * j + q < 486 * pm pn := by
    have : 486 * (j + 1) ≤ 486 * pm pn := Nat.mul_le_mul_left _ hj
    omega
  unfold svM
  rw [uM_n (by omega), stc_o (by omega)]
  unfold svA
  by_cases e : pn = 4
  · have : pm pn = 3 := if_pos e
    rw [if_pos e, if_pos e, uM_n (by omega), setRow_in (by omega)]
    congr 1; omega
  · rw [if_neg e, if_neg e]
/-! what a call leaves as it was -/
def KP (μ m : Mm) : Prop := ∀ p q : Nat, p ≠ 3 → p ≠ 5 → p ≠ 6 → p ≠ 7 → p ≠ 8 → ¬ (p = 0 ∧ (q = 6 ∨ q = 7 ∨ 11 ≤ q)) → m p q = μ p q
def SVD (pn : Nat) (μ m : Mm) : Prop := m 0 3 = nI (pm pn + 1) ∧ (∀ q, q < 486 → m 2 (486 * pm pn + q) = μ 1 q) ∧ (∀ j q, j < pm pn → q < 486 → m 2 (486 * j + q) = if pn = 4 then μ 2 (486 * (j + 1) + q) else μ 2 (486 * j + q)) ∧ ∀ p q : Nat, p ≠ 1 → p ≠ 2 → p ≠ 3 → p ≠ 5 → p ≠ 6 → p ≠ 7 → p ≠ 8 → ¬ (p = 0 ∧ (q = 3 ∨ q = 6 ∨ q = 7 ∨ 11 ≤ q)) → m p q = μ p q
def OPS (pn : Nat) (V : Mm) (c r lc : Nat) (a : Int32) (μ : Mm) (v : Int32) (m : Mm) : Prop := a = v ∧ m 0 6 = 0 ∧ MI V c r lc m ∧ SVD pn μ m
def ENP (pn : Nat) (x : Int32) (μ : Mm) (v : Int32) (m : Mm) : Prop := (0 < x ∧ uM μ 0 6 x = m) ∨ (¬ 0 < x ∧ μ 0 7 = v ∧ uM (svM pn μ) 0 6 0 = m)
theorem MI_e {V μ m : Mm} {c r lc : Nat} (h : MI V c r lc μ) (e1 : m 1 = μ 1) (e8 : m 0 8 = μ 0 8) : MI V c r lc m := by
  unfold MI
  rw [e1, e8]; exact h
def lay (μ : Mm) : Mm := setRow μ 3 486 (μ 1)
theorem lay_1 {μ : Mm} : lay μ 1 = μ 1 := funext fun q => setRow_out (by omega)
theorem lay_o {μ : Mm} {p q : Nat} (h : p ≠ 3) : lay μ p q = μ p q := setRow_out (fun z => h z.1)
theorem MI_lay {V μ : Mm} {c r lc : Nat} (h : MI V c r lc μ) : MI V c r lc (lay μ) := MI_e h lay_1 (lay_o (by decide))
theorem KP_f {μ : Mm} {x : Int32} : KP μ (uM (lay μ) 0 6 x) := fun p q h3 h5 h6 h7 h8 h0 => by
  rw [uM_n (by omega), lay_o h3]
theorem KP_u {μ : Mm} {x : Int32} : KP μ (uM μ 0 6 x) := fun p q h3 h5 h6 h7 h8 h0 => uM_n (by omega)
theorem fin_ok {V μ m1 m : Mm} {c r lc pn : Nat} {a v : Int32} (h : OPOK V c r lc a (lay μ) m1) (he : ENP pn 0 m1 v m) : OPS pn V c r lc a μ v m := by
  obtain ⟨g1, g2, g3⟩ := h
  rcases he with ⟨h0, _⟩ | ⟨_, h7, rfl⟩
  · exact absurd h0 (by decide)
  · have e3 : ∀ q, q < 486 → m1 3 q = μ 1 q := fun q hq => by
      rw [g3 3 q (by decide) (by omega) (by decide) (by decide) (by decide)]
      exact setRow_in hq
    have e2 : ∀ q, m1 2 q = μ 2 q := fun q => by
      rw [g3 2 q (by decide) (by omega) (by decide) (by decide) (by decide), lay_o (by decide)]
    refine ⟨g2.symm.trans h7, uM_s _ _ _ _, MI_e g1 (funext fun q => ?_) ?_, ?_, fun q hq => ?_, fun j q hj hq => ?_, fun p q h1 h2 h3 h5 h6 h7 h8 h0 => ?_⟩
    · rw [uM_n (by omega), svM_o (by decide) (by omega)]
    · rw [uM_n (by omega), svM_o (by decide) (by omega)]
    · rw [uM_n (by omega)]; unfold svM; rw [uM_s]
    · rw [uM_n (by omega), svM_l hq, e3 q hq]
    · rw [uM_n (by omega), svM_s hj hq, e2, e2]
    · rw [uM_n (by omega), svM_o h2 (by omega), g3 p q h1 (by omega) h5 h6 h7, lay_o h3]
def P2 (pn : Nat) (A : Prop) (V : Mm) (c r lc : Nat) (a : Int32) (μ : Mm) (v : Int32) (m : Mm) : Prop := (¬ A ∧ m 0 6 = 1 ∧ KP μ m) ∨ (A ∧ OPS pn V c r lc a μ v m)
def P3 (pn : Nat) (A B : Prop) (V : Mm) (c r lc : Nat) (a : Int32) (μ : Mm) (v : Int32) (m : Mm) : Prop := (¬ A ∧ m 0 6 = 1 ∧ KP μ m) ∨ (A ∧ ¬ B ∧ m 0 6 = 2 ∧ KP μ m) ∨ (A ∧ B ∧ OPS pn V c r lc a μ v m)
theorem op2_3 {A : Prop} {V μ m : Mm} {c r lc pn : Nat} {a k : Int32} (h : (¬ A ∧ 1 = k ∧ lay μ = m) ∨ (A ∧ 0 = k ∧ OPOK V c r lc a (lay μ) m)) (h3 : μ 0 3 = nI pn) : m 0 3 = nI pn := by
  rcases h with ⟨_, _, rfl⟩ | ⟨_, _, _, _, g⟩
  · rw [lay_o (by decide)]; exact h3
  · rw [g 0 3 (by decide) (by decide) (by decide) (by decide) (by decide), lay_o (by decide)]; exact h3
theorem op3_3 {A B : Prop} {V μ m : Mm} {c r lc pn : Nat} {a k : Int32} (h : (¬ A ∧ 1 = k ∧ lay μ = m) ∨ (A ∧ ¬ B ∧ 2 = k ∧ lay μ = m) ∨ (A ∧ B ∧ 0 = k ∧ OPOK V c r lc a (lay μ) m)) (h3 : μ 0 3 = nI pn) : m 0 3 = nI pn := by
  rcases h with ⟨_, _, rfl⟩ | ⟨_, _, _, rfl⟩ | ⟨_, _, _, _, _, g⟩
  · rw [lay_o (by decide)]; exact h3
  · rw [lay_o (by decide)]; exact h3
  · rw [g 0 3 (by decide) (by decide) (by decide) (by decide) (by decide), lay_o (by decide)]; exact h3
theorem fin_f {μ m1 m : Mm} {pn : Nat} {x v : Int32} (hx : 0 < x) (h : lay μ = m1) (he : ENP pn x m1 v m) : m 0 6 = x ∧ KP μ m := by
  subst h
  rcases he with ⟨_, rfl⟩ | ⟨h0, _⟩
  · exact ⟨uM_s _ _ _ _, KP_f⟩
  · exact absurd hx h0
theorem fin2 {A : Prop} {V μ m1 m : Mm} {c r lc pn : Nat} {a k v : Int32} (h : (¬ A ∧ 1 = k ∧ lay μ = m1) ∨ (A ∧ 0 = k ∧ OPOK V c r lc a (lay μ) m1)) (he : ENP pn k m1 v m) : P2 pn A V c r lc a μ v m := by
  rcases h with ⟨ha, rfl, h⟩ | ⟨ha, rfl, h⟩
  · exact Or.inl ⟨ha, fin_f (by decide) h he⟩
  · exact Or.inr ⟨ha, fin_ok h he⟩
theorem fin3 {A B : Prop} {V μ m1 m : Mm} {c r lc pn : Nat} {a k v : Int32} (h : (¬ A ∧ 1 = k ∧ lay μ = m1) ∨ (A ∧ ¬ B ∧ 2 = k ∧ lay μ = m1) ∨ (A ∧ B ∧ 0 = k ∧ OPOK V c r lc a (lay μ) m1)) (he : ENP pn k m1 v m) : P3 pn A B V c r lc a μ v m := by
  rcases h with ⟨ha, rfl, h⟩ | ⟨ha, hb, rfl, h⟩ | ⟨ha, hb, rfl, h⟩
  · exact Or.inl ⟨ha, fin_f (by decide) h he⟩
  · exact Or.inr (Or.inl ⟨ha, hb, fin_f (by decide) h he⟩)
  · exact Or.inr (Or.inr ⟨ha, hb, fin_ok h he⟩)
/-! the rectangle's four corners -/
def rcX (x u : Int32) (i : Nat) : Int32 := if i = 0 ∨ i = 3 then x else u
def rcY (y v : Int32) (i : Nat) : Int32 := if i < 2 then y else v
def rcV (V : Mm) (k : Nat) (x y u v : Int32) : Nat → Mm
  | 0 => V
  | i + 1 => mvc (rcV V k x y u v i) 0 (4 * k + i) (rcX x u i) (rcY y v i)
theorem rcV_4 (V : Mm) (k : Nat) (x y u v : Int32) : rcV V k x y u v 4 = rectM V k x y u v := rfl
