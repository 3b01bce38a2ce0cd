/-! what the model's changes do, in the class's words -/
def RS1 (μ m : Mm) : Prop := ∀ p q : Nat, p ≠ 1 → ¬ (p = 0 ∧ (q = 7 ∨ (11 ≤ q ∧ q ≤ 17))) → p ≠ 5 → p ≠ 6 → p ≠ 7 → m p q = μ p q
def OPOK (V : Mm) (c r lc : Nat) (a : Int32) (μ m : Mm) : Prop := MI V c r lc m ∧ m 0 7 = a ∧ RS1 μ m
def PL (c r : Nat) (x y : Int32) : Prop := (0 ≤ x ∧ x < nI c) ∧ (0 ≤ y ∧ y < nI r)
def LPn (lc : Nat) (n : Int32) : Prop := 0 ≤ n ∧ n < nI lc
theorem RS1_r {μ : Mm} : RS1 μ μ := fun _ _ _ _ _ _ _ => rfl
theorem RS1_t {a b d : Mm} (h : RS1 a b) (h2 : RS1 b d) : RS1 a d := fun p q h1 h3 h5 h6 h7 => (h2 p q h1 h3 h5 h6 h7).trans (h p q h1 h3 h5 h6 h7)
theorem RS1_c {a b : Mm} (h : SCR a b) : RS1 a b := fun p q _ h3 h5 h6 _ => h p q (by omega) h5 h6
theorem RS1_uM {a b : Mm} {k j : Nat} {v : Int32} (h : RS1 a b) (hk : k = 1 ∨ (k = 0 ∧ (j = 7 ∨ (11 ≤ j ∧ j ≤ 17))) ∨ k = 5 ∨ k = 6 ∨ k = 7) : RS1 a (uM b k j v) := fun p q h1 h3 h5 h6 h7 => by
  rw [uM_n (by omega)]; exact h p q h1 h3 h5 h6 h7
theorem MI_V {V V2 μ : Mm} {c r lc : Nat} (h : MI V c r lc μ) (hV : ∀ p q : Nat, p < 15 → ¬ (p = 0 ∧ q = 6) → V2 p q = V p q) : MI V2 c r lc μ := by
  obtain ⟨⟨h1, h2, h3, h4, h5⟩, g2, g3, g5, g8⟩ := h
  refine ⟨⟨h1, h2, fun k hk => ?_, fun k i hk hi => ?_, fun x y hx hy => ?_⟩, ?_, ?_, ?_, g8⟩
  · rw [hV _ _ (by decide) (by omega), hV _ _ (by decide) (by omega), hV _ _ (by decide) (by omega), hV _ _ (by decide) (by omega)]; exact h3 k hk
  · rw [hV _ _ (by decide) (by omega), hV _ _ (by decide) (by omega)]; exact h4 k i hk hi
  · rw [hV _ _ (by decide) (by omega)]; exact h5 x y hx hy
  · rw [hV _ _ (by decide) (by omega)]; exact g2
  · rw [hV _ _ (by decide) (by omega)]; exact g3
  · rw [hV _ _ (by decide) (by omega)]; exact g5
theorem MI_7 {V μ : Mm} {c r lc : Nat} {v : Int32} (h : MI V c r lc μ) : MI V c r lc (uM μ 0 7 v) := by
  have e1 : uM μ 0 7 v 1 = μ 1 := funext fun q => uM_n (by omega)
  unfold MI
  rw [e1, uM_n (by decide)]
  exact h
theorem rg_nat {x lo hi : Int32} {a b : Nat} (h : rgI x lo hi) (hl : lo = nI a) (hh : hi = nI b) (hb : b < 2147483648) (hab : a ≤ b) : ∃ i, a ≤ i ∧ i ≤ b ∧ x = nI i := by
  subst hl
  subst hh
  have h0 : 0 ≤ x := Int32.le_trans (nI_pos' (by omega)) h.1
  obtain ⟨j, hj, rfl⟩ := nI_of (Int32.not_lt.mpr h0)
  exact ⟨j, (nI_leI (by omega) hj).mp h.1, (nI_leI hj hb).mp h.2, rfl⟩
/-- a stretch of the row of numbers is 0 -/
def zr (B : Mm) (lo hi : Nat) : Mm := fun p q => if p = 1 ∧ lo ≤ q ∧ q < hi then 0 else B p q
theorem zr_0 {B : Mm} {lo : Nat} : zr B lo lo = B := by
  funext p q
  exact if_neg (by omega)
theorem zr_s {B : Mm} {lo n : Nat} (h : lo ≤ n) : uM (zr B lo n) 1 n 0 = zr B lo (n + 1) := by
  funext p q
  by_cases e : p = 1 ∧ q = n
  · obtain ⟨rfl, rfl⟩ := e
    rw [uM_s, zr, if_pos ⟨rfl, h, Nat.lt_succ_self q⟩]
  · rw [uM_n e, zr, zr]
    by_cases e2 : p = 1 ∧ lo ≤ q ∧ q < n
    · rw [if_pos e2, if_pos (by omega)]
    · rw [if_neg e2, if_neg (by omega)]
theorem zr_o {B : Mm} {lo n p q : Nat} (h : ¬ (p = 1 ∧ lo ≤ q ∧ q < n)) : zr B lo n p q = B p q := if_neg h
theorem zr_i {B : Mm} {lo n q : Nat} (h : lo ≤ q ∧ q < n) : zr B lo n 1 q = 0 := if_pos ⟨rfl, h⟩
theorem RS1_zr {a b : Mm} {lo n : Nat} (h : RS1 a b) : RS1 a (zr b lo n) := fun p q h1 h3 h5 h6 h7 => by
  rw [zr_o (by omega)]; exact h p q h1 h3 h5 h6 h7
/-! begin -/
def bgB (μ : Mm) (a b : Int32) : Mm := uM (uM (uM (uM (uM μ 0 7 (μ 1 0 * μ 1 1)) 1 0 a) 1 1 b) 1 2 0) 1 3 0
theorem bgB_o {μ : Mm} {a b : Int32} {q : Nat} (h : 4 ≤ q) : bgB μ a b 1 q = μ 1 q := by
  unfold bgB; rw [uM_n (by omega), uM_n (by omega), uM_n (by omega), uM_n (by omega), uM_n (by omega)]
theorem bg_ok {V μ : Mm} {c r lc : Nat} {a b : Int32} (hM : MI V c r lc μ) (hw : wallOK a b) : OPOK (wallM V 0 a b) (tn a) (tn b) lc (nI (c * r)) μ (zr (bgB μ a b) 6 390) := by
  obtain ⟨i, i1, i2, rfl⟩ := rg_nat hw.1 (a := 1) (b := 24) rfl rfl (by decide) (by decide)
  obtain ⟨j, j1, j2, rfl⟩ := rg_nat hw.2 (a := 1) (b := 16) rfl rfl (by decide) (by decide)
  obtain ⟨⟨h1, h2, h3, h4, h5⟩, g2, g3, g5, g8⟩ := hM
  rw [show tn (nI i) = i from nI_clamp (by omega), show tn (nI j) = j from nI_clamp (by omega)]
  have eL : ∀ k w, zr (bgB μ (nI i) (nI j)) 6 390 1 (aL k w) = μ 1 (aL k w) := fun k w => by
    have : 390 ≤ aL k w := by unfold aL; omega
    rw [zr_o (by omega), bgB_o (by omega)]
  have e0 : zr (bgB μ (nI i) (nI j)) 6 390 1 0 = nI i := by
    rw [zr_o (by omega)]; unfold bgB; rw [uM_n (by omega), uM_n (by omega), uM_n (by omega), uM_s]
  have e1 : zr (bgB μ (nI i) (nI j)) 6 390 1 1 = nI j := by
    rw [zr_o (by omega)]; unfold bgB; rw [uM_n (by omega), uM_n (by omega), uM_s]
  have e2 : zr (bgB μ (nI i) (nI j)) 6 390 1 2 = 0 := by
    rw [zr_o (by omega)]; unfold bgB; rw [uM_n (by omega), uM_s]
  have e3 : zr (bgB μ (nI i) (nI j)) 6 390 1 3 = 0 := by
    rw [zr_o (by omega)]; unfold bgB; rw [uM_s]
  have e4 : zr (bgB μ (nI i) (nI j)) 6 390 1 4 = μ 1 4 := by
    rw [zr_o (by omega), bgB_o (by omega)]
  have e5 : zr (bgB μ (nI i) (nI j)) 6 390 1 5 = μ 1 5 := by
    rw [zr_o (by omega), bgB_o (by omega)]
  have wS : ∀ q, wallM V 0 (nI i) (nI j) 0 q = if q = 0 then nI i else if q = 1 then nI j else if q = 2 ∨ q = 3 then 0 else if q = 6 then 1 else V 0 q := fun q => by
    unfold wallM
    by_cases h6 : q = 6
    · subst h6; rw [uM_s]; rfl
    · rw [uM_n (by omega), setRow_out (by omega)]
      by_cases q3 : q = 3
      · subst q3; rw [uM_s]; rfl
      · rw [uM_n (by omega)]
        by_cases q2 : q = 2
        · subst q2; rw [uM_s]; rfl
        · rw [uM_n (by omega)]
          by_cases q1 : q = 1
          · subst q1; rw [uM_s]; rfl
          · rw [uM_n (by omega), if_neg (c := q = 1) q1, if_neg (c := q = 2 ∨ q = 3) (by omega), if_neg (c := q = 6) h6]
            by_cases q0 : q = 0
            · subst q0; rw [uM_s]; rfl
            · rw [uM_n (by omega), if_neg q0]
  refine ⟨⟨⟨⟨e0, e1, e4.trans h1.2.2.1, i1, i2, j1, j2, h1.2.2.2.2.2.2.2⟩, ⟨?_, ?_, ?_⟩, fun k hk => ?_, fun k w hk hw => ?_, fun x y hx hy => ?_⟩, ?_, ?_, ?_, ?_⟩, ?_, ?_⟩
  · rw [e2, e3]; exact ⟨⟨by decide, by decide⟩, by decide, by decide⟩
  · intro q hq; rw [zr_i (by omega)]; exact ⟨by decide, by decide⟩
  · intro k hk; rw [eL, eL, eL, eL]
    have z := h2.2.2 k hk
    refine ⟨z.1, z.2.1, z.2.2.1, z.2.2.2.1, fun w hw => ?_⟩
    rw [eL]; exact z.2.2.2.2 w hw
  · rw [eL, eL, eL, eL, wallM_out (by omega) (by omega), wallM_out (by omega) (by omega), wallM_out (by omega) (by omega), wallM_out (by omega) (by omega)]; exact h3 k hk
  · rw [eL, eL, wallM_out (by omega) (by omega), wallM_out (by omega) (by omega)]; exact h4 k w hk hw
  · rw [zr_i (by omega)]
    unfold wallM
    rw [uM_n (by omega), setRow_in]
    have := ix_lt2 hy hx
    have := cr_le i2 j2
    omega
  · rw [e2, wS]; rfl
  · rw [e3, wS]; rfl
  · rw [e5, wS]; exact g5
  · rw [zr_o (by omega)]; unfold bgB
    rw [uM_n (by omega), uM_n (by omega), uM_n (by omega), uM_n (by omega), uM_n (by omega)]; exact g8
  · rw [zr_o (by omega)]; unfold bgB
    rw [uM_n (by omega), uM_n (by omega), uM_n (by omega), uM_n (by omega), uM_s, h1.1, h1.2.1, pk_mul]
  · exact RS1_zr (RS1_uM (RS1_uM (RS1_uM (RS1_uM (RS1_uM RS1_r (by decide)) (by decide)) (by decide)) (by decide)) (by decide))
/-! paint -/
theorem MI_pt {V m : Mm} {c r lc X Y : Nat} {t : Int32} (h : MI V c r lc m) (hX : X < c) (hY : Y < r) (ht : rgI t 0 255) : MI (uM V 8 (Y * c + X) t) c r lc (uM m 1 (6 + 24 * Y + X) t) := by
  obtain ⟨⟨h1, h2, h3, h4, h5⟩, g2, g3, g5, g8⟩ := h
  have hc := h1.2.2.2.2.1
  have hr := h1.2.2.2.2.2.2.1
  have eL : ∀ k w, uM m 1 (6 + 24 * Y + X) t 1 (aL k w) = m 1 (aL k w) := fun k w => by
    have : 390 ≤ aL k w := by unfold aL; omega
    rw [uM_n (by omega)]
  have eS : ∀ q, q < 6 → uM m 1 (6 + 24 * Y + X) t 1 q = m 1 q := fun q hq => uM_n (by omega)
  refine ⟨⟨?_, ⟨?_, ?_, ?_⟩, fun k hk => ?_, fun k w hk hw => ?_, fun x y hx hy => ?_⟩, ?_, ?_, ?_, ?_⟩
  · rw [eS _ (by decide), eS _ (by decide), eS _ (by decide)]; exact h1
  · rw [eS _ (by decide), eS _ (by decide)]; exact h2.1
  · intro j hj
    by_cases e : 6 + j = 6 + 24 * Y + X
    · rw [e, uM_s]; exact ht
    · rw [uM_n (by omega)]; exact h2.2.1 j hj
  · intro k hk; rw [eL, eL, eL, eL]
    have z := h2.2.2 k hk
    refine ⟨z.1, z.2.1, z.2.2.1, z.2.2.2.1, fun w hw => ?_⟩
    rw [eL]; exact z.2.2.2.2 w hw
  · rw [eL, eL, eL, eL, uM_n (by omega), uM_n (by omega), uM_n (by omega), uM_n (by omega)]; exact h3 k hk
  · rw [eL, eL, uM_n (by omega), uM_n (by omega)]; exact h4 k w hk hw
  · by_cases e : y = Y ∧ x = X
    · obtain ⟨rfl, rfl⟩ := e
      rw [uM_s]; exact (uM_s _ _ _ _).symm
    · have e2 : ¬ (y * c + x = Y * c + X) := fun z => e (ixInj hX hx z)
      rw [uM_n (by omega), uM_n (by omega)]; exact h5 x y hx hy
  · rw [eS _ (by decide), uM_n (by omega)]; exact g2
  · rw [eS _ (by decide), uM_n (by omega)]; exact g3
  · rw [eS _ (by decide), uM_n (by omega)]; exact g5
  · rw [uM_n (by omega)]; exact g8
/-- the class's painting Z and the model's memory go side by side -/
def PTI (c r lc : Nat) (μ : Mm) (Z : Int32 × Mm) (m : Mm) : Prop := MI Z.2 c r lc m ∧ m 0 7 = Z.1 ∧ RS1 μ m
theorem PTI_s {c r lc X Y : Nat} {t v : Int32} {μ m : Mm} {Z : Int32 × Mm} (h : PTI c r lc μ Z m) (hX : X < c) (hY : Y < r) (ht : rgI t 0 255) (hv : v = if Z.2 8 (Y * c + X) = t then m 0 7 + 0 else m 0 7 + 1) : PTI c r lc μ (if Z.2 8 (Y * c + X) = t then Z.1 else Z.1 + 1, uM Z.2 8 (Y * c + X) t) (uM (uM m 0 7 v) 1 (6 + 24 * Y + X) t) := by
  obtain ⟨h1, h2, h3⟩ := h
  refine ⟨MI_pt (MI_7 h1) hX hY ht, ?_, RS1_uM (RS1_uM h3 (by decide)) (Or.inl rfl)⟩
  rw [uM_n (by omega), uM_s, hv, h2, Int32.add_zero]
theorem tg_MI {V m : Mm} {c r lc X Y : Nat} (h : MI V c r lc m) (hX : X < c) (hY : Y < r) : m 1 (6 + 24 * Y + X) = V 8 (Y * c + X) := (h.1.2.2.2.2 X Y hX hY).symm
/-! the rows of a lamp -/
theorem aL_inj {k w i v : Nat} (hw : w < 12) (hv : v < 12) (h : aL k w = aL i v) : k = i ∧ w = v := by unfold aL at h; omega
theorem MI_lp {V V2 m : Mm} {c r lc l2 : Nat} {m2 : Mm} (h : MI V c r lc m) (hS : ∀ q, q < 390 → q ≠ 4 → m2 1 q = m 1 q) (hL : m2 1 4 = nI l2) (hl : l2 ≤ 8) (h8 : m2 0 8 = m 0 8) (hV0 : ∀ q, q < 5 → V2 0 q = V 0 q) (hV8 : V2 8 = V 8)
    (hb : ∀ k, k < 8 → rgI (m2 1 (aL k 8)) 0 255 ∧ rgI (m2 1 (aL k 9)) 0 255 ∧ rgI (m2 1 (aL k 10)) 0 900 ∧ (m2 1 (aL k 11) = 0 ∨ m2 1 (aL k 11) = 1) ∧ ∀ i, i < 8 → rgI (m2 1 (aL k i)) (-20) 40)
    (hr : ∀ k, k < 8 → V2 9 k = m2 1 (aL k 8) ∧ V2 10 k = m2 1 (aL k 9) ∧ V2 11 k = m2 1 (aL k 10) ∧ V2 12 k = m2 1 (aL k 11))
    (hc : ∀ k i, k < 8 → i < 4 → V2 13 (4 * k + i) = m2 1 (aL k i) ∧ V2 14 (4 * k + i) = m2 1 (aL k (4 + i))) : MI V2 c r l2 m2 := by
  obtain ⟨⟨h1, h2, h3, h4, h5⟩, g2, g3, g5, g8⟩ := h
  have hcc := h1.2.2.2.2.1
  have hrr := h1.2.2.2.2.2.2.1
  refine ⟨⟨?_, ⟨?_, ?_, hb⟩, ?_, ?_, fun x y hx hy => ?_⟩, ?_, ?_, ?_, ?_⟩
  · rw [hS _ (by decide) (by decide), hS _ (by decide) (by decide), hL]; exact ⟨h1.1, h1.2.1, rfl, h1.2.2.2.1, hcc, h1.2.2.2.2.2.1, hrr, hl⟩
  · rw [hS _ (by decide) (by decide), hS _ (by decide) (by decide)]; exact h2.1
  · intro j hj; rw [hS _ (by omega) (by omega)]; exact h2.2.1 j hj
  · intro k hk; exact hr k hk
  · intro k i hk hi; exact hc k i hk hi
  · rw [hS _ (by omega) (by omega)]
    show V2 8 _ = _
    rw [hV8]; exact h5 x y hx hy
  · rw [hS _ (by decide) (by decide), hV0 _ (by decide)]; exact g2
  · rw [hS _ (by decide) (by decide), hV0 _ (by decide)]; exact g3
  · rw [hS _ (by decide) (by decide), hV0 _ (by decide)]; exact g5
  · rw [h8]; exact g8

theorem aL_ge (k w : Nat) : 390 ≤ aL k w := by unfold aL; omega
theorem hangC_r {V : Mm} {lc p q : Nat} {a b : Int32} (h1 : p ≠ 13) (h2 : p ≠ 14) (h3 : ¬ (p = 0 ∧ q = 6)) : ∀ i, hangC V 0 lc a b i p q = hang0 V 0 lc a b p q := by
  intro i
  induction i with
  | zero => rfl
  | succ i ih => rw [hangC, mvc_out (by omega) (by omega) h3, ih]
theorem hangC_c {V : Mm} {lc p q : Nat} {a b : Int32} (hp : p = 13 ∨ p = 14) : ∀ i, hangC V 0 lc a b i p q = if 4 * lc ≤ q ∧ q < 4 * lc + i then 0 else V p q := by
  intro i
  induction i with
  | zero =>
    rw [if_neg (by omega)]
    show hang0 V 0 lc a b p q = _
    unfold hang0
    rw [uM_n (by omega), uM_n (by omega), uM_n (by omega), uM_n (by omega), uM_n (by omega)]
  | succ i ih =>
    rw [hangC]
    unfold mvc
    by_cases e : q = 4 * lc + i
    · rw [if_pos (by omega), uM_n (by omega)]
      rcases hp with rfl | rfl
      · rw [uM_n (by omega), e, uM_s]
      · rw [e, uM_s]
    · rw [uM_n (by omega), uM_n (by omega), uM_n (by omega), ih]
      by_cases e2 : 4 * lc ≤ q ∧ q < 4 * lc + i
      · rw [if_pos e2, if_pos (by omega)]
      · rw [if_neg e2, if_neg (by omega)]
def adB (μ : Mm) (lc : Nat) (a b : Int32) : Mm := uM (uM (uM (uM (zr (uM μ 0 7 (nI lc)) (aL lc 0) (aL lc 0 + 12)) 1 (aL lc 8) a) 1 (aL lc 9) b) 1 (aL lc 11) 1) 1 4 (nI (lc + 1))
theorem adB_l {μ : Mm} {lc k w : Nat} {a b : Int32} (hw : w < 12) : adB μ lc a b 1 (aL k w) = if k = lc then (if w = 8 then a else if w = 9 then b else if w = 11 then 1 else 0) else μ 1 (aL k w) := by
  have g := aL_ge k w
  unfold adB
  rw [uM_n (by omega)]
  by_cases e : k = lc
  · subst e
    rw [if_pos rfl]
    have u : ∀ v, v < 12 → aL k w = aL k v → w = v := fun v hv z => (aL_inj hw hv z).2
    by_cases w11 : w = 11
    · subst w11; rw [uM_s]; rfl
    · rw [uM_n (fun z => w11 (u 11 (by decide) z.2))]
      by_cases w9 : w = 9
      · subst w9; rw [uM_s]; rfl
      · rw [uM_n (fun z => w9 (u 9 (by decide) z.2))]
        by_cases w8 : w = 8
        · subst w8; rw [uM_s]; rfl
        · rw [uM_n (fun z => w8 (u 8 (by decide) z.2)), zr_i (by unfold aL; omega), if_neg w8, if_neg w9, if_neg w11]
  · rw [if_neg e]
    have u : ∀ v, v < 12 → ¬ (1 = 1 ∧ aL k w = aL lc v) := fun v hv z => e (aL_inj hw hv z.2).1
    rw [uM_n (u 11 (by decide)), uM_n (u 9 (by decide)), uM_n (u 8 (by decide)), zr_o (by unfold aL; omega), uM_n (by omega)]
theorem ad_ok {V μ : Mm} {c r lc : Nat} {a b : Int32} (hM : MI V c r lc μ) (hn : nlOK a b) (hl : lc < 8) : OPOK (hang V 0 lc a b) c r (lc + 1) (nI lc) μ (adB μ lc a b) := by
  have hR := hM.1
  refine ⟨MI_lp hM (fun q h1 h2 => ?_) ?_ (by omega) ?_ (fun q hq => hang_out (by omega) (by omega)) (funext fun q => hang_out (by omega) (by omega)) (fun k hk => ?_) (fun k hk => ?_) (fun k i hk hi => ?_), ?_, ?_⟩
  · unfold adB
    rw [uM_n (by omega), uM_n (by unfold aL; omega), uM_n (by unfold aL; omega), uM_n (by unfold aL; omega), zr_o (by unfold aL; omega), uM_n (by omega)]
  · unfold adB; rw [uM_s]
  · unfold adB
    rw [uM_n (by omega), uM_n (by omega), uM_n (by omega), uM_n (by omega), zr_o (by omega), uM_n (by omega)]
  · rw [adB_l (by decide), adB_l (by decide), adB_l (by decide), adB_l (by decide)]
    have z := hR.2.1.2.2 k hk
    by_cases e : k = lc
    · simp only [if_pos e]
      refine ⟨hn.1, hn.2, ⟨(by decide : (0 : Int32) ≤ 0), (by decide : (0 : Int32) ≤ 900)⟩, Or.inr rfl, fun i hi => ?_⟩
      rw [adB_l (by omega), if_pos e, if_neg (by omega), if_neg (by omega), if_neg (by omega)]
      exact ⟨by decide, by decide⟩
    · simp only [if_neg e]
      refine ⟨z.1, z.2.1, z.2.2.1, z.2.2.2.1, fun i hi => ?_⟩
      rw [adB_l (by omega), if_neg e]; exact z.2.2.2.2 i hi
  · rw [adB_l (by decide), adB_l (by decide), adB_l (by decide), adB_l (by decide)]
    have z := hR.2.2.1 k hk
    have u : ∀ p q, p ≠ 13 → p ≠ 14 → 0 < p → hang V 0 lc a b p q = hang0 V 0 lc a b p q := fun p q h1 h2 h3 => by
      unfold hang; rw [uM_n (by omega), hangC_r h1 h2 (by omega)]
    rw [u 9 k (by decide) (by decide) (by decide), u 10 k (by decide) (by decide) (by decide), u 11 k (by decide) (by decide) (by decide), u 12 k (by decide) (by decide) (by decide)]
    unfold hang0
    by_cases e : k = lc
    · subst e
      simp only [if_true]
      refine ⟨?_, ?_, ?_, ?_⟩
      · rw [uM_n (by omega), uM_n (by omega), uM_n (by omega), uM_s]; try rfl
      · rw [uM_n (by omega), uM_n (by omega), uM_s]; try rfl
      · rw [uM_n (by omega), uM_s]; try rfl
      · rw [uM_s]; try rfl
    · simp only [if_neg e]
      refine ⟨?_, ?_, ?_, ?_⟩
      · rw [uM_n (by omega), uM_n (by omega), uM_n (by omega), uM_n (by omega), uM_n (by omega)]; exact z.1
      · rw [uM_n (by omega), uM_n (by omega), uM_n (by omega), uM_n (by omega), uM_n (by omega)]; exact z.2.1
      · rw [uM_n (by omega), uM_n (by omega), uM_n (by omega), uM_n (by omega), uM_n (by omega)]; exact z.2.2.1
      · rw [uM_n (by omega), uM_n (by omega), uM_n (by omega), uM_n (by omega), uM_n (by omega)]; exact z.2.2.2
  · rw [adB_l (by omega), adB_l (by omega)]
    have z := hR.2.2.2.1 k i hk hi
    unfold hang
    rw [uM_n (by omega), uM_n (by omega), hangC_c (Or.inl rfl), hangC_c (Or.inr rfl)]
    by_cases e : k = lc
    · subst e
      have q : 4 * k ≤ 4 * k + i ∧ 4 * k + i < 4 * k + 4 := by omega
      rw [if_pos q, if_pos q]
      simp only [if_true]
      constructor
      · rw [if_neg (show ¬ i = 8 by omega), if_neg (show ¬ i = 9 by omega), if_neg (show ¬ i = 11 by omega)]
      · rw [if_neg (show ¬ 4 + i = 8 by omega), if_neg (show ¬ 4 + i = 9 by omega), if_neg (show ¬ 4 + i = 11 by omega)]
    · have q : ¬ (4 * lc ≤ 4 * k + i ∧ 4 * k + i < 4 * lc + 4) := by omega
      rw [if_neg q, if_neg q, if_neg e, if_neg e]; exact z
  · unfold adB
    rw [uM_n (by omega), uM_n (by omega), uM_n (by omega), uM_n (by omega), zr_o (by omega), uM_s]
  · exact RS1_uM (RS1_uM (RS1_uM (RS1_uM (RS1_zr (RS1_uM RS1_r (by decide))) (Or.inl rfl)) (Or.inl rfl)) (Or.inl rfl)) (Or.inl rfl)
/-! corners -/
theorem mvc_c {V : Mm} {j q : Nat} {x y : Int32} : mvc V 0 j x y 13 q = (if q = j then x else V 13 q) ∧ mvc V 0 j x y 14 q = if q = j then y else V 14 q := by
  unfold mvc
  constructor
  · rw [uM_n (by omega), uM_n (by omega)]
    by_cases e : q = j
    · subst e; rw [if_pos rfl]; exact uM_s _ _ _ _
    · rw [if_neg e]; exact uM_n (by omega)
  · rw [uM_n (by omega)]
    by_cases e : q = j
    · subst e; rw [if_pos rfl]; exact uM_s _ _ _ _
    · rw [if_neg e, uM_n (by omega), uM_n (by omega)]
def cnB (μ : Mm) (k i : Nat) (x y : Int32) : Mm := uM (uM μ 1 (aL k i) x) 1 (aL k (4 + i)) y
theorem cnB_l {μ : Mm} {k i n w : Nat} {x y : Int32} (hw : w < 12) (hi : i < 4) : cnB μ k i x y 1 (aL n w) = if n = k ∧ w = 4 + i then y else if n = k ∧ w = i then x else μ 1 (aL n w) := by
  unfold cnB
  by_cases e : n = k ∧ w = 4 + i
  · obtain ⟨rfl, rfl⟩ := e; rw [uM_s, if_pos ⟨rfl, rfl⟩]
  · rw [if_neg e, uM_n (fun z => e (aL_inj hw (by omega) z.2))]
    by_cases e2 : n = k ∧ w = i
    · obtain ⟨rfl, rfl⟩ := e2; rw [uM_s, if_pos ⟨rfl, rfl⟩]
    · rw [if_neg e2, uM_n (fun z => e2 (aL_inj hw (by omega) z.2))]
theorem cn_MI {V μ : Mm} {c r lc k i : Nat} {x y : Int32} (hM : MI V c r lc μ) (hi : i < 4) (hxy : coOK x y) : MI (mvc V 0 (4 * k + i) x y) c r lc (cnB μ k i x y) := by
  have hR := hM.1
  have o : ∀ q, q < 390 → cnB μ k i x y 1 q = μ 1 q := fun q hq => by
    have := aL_ge k i
    have := aL_ge k (4 + i)
    unfold cnB; rw [uM_n (by omega), uM_n (by omega)]
  refine MI_lp hM (fun q h1 h2 => o q h1) ((o 4 (by decide)).trans hR.1.2.2.1) hR.1.2.2.2.2.2.2.2 ?_ (fun q hq => mvc_out (by omega) (by omega) (by omega)) (funext fun q => mvc_out (by omega) (by omega) (by omega)) (fun n hn => ?_) (fun n hn => ?_) (fun n j hn hj => ?_)
  · unfold cnB; rw [uM_n (by omega), uM_n (by omega)]
  · have z := hR.2.1.2.2 n hn
    rw [cnB_l (by decide) hi, cnB_l (by decide) hi, cnB_l (by decide) hi, cnB_l (by decide) hi]
    rw [if_neg (by omega), if_neg (by omega), if_neg (by omega), if_neg (by omega), if_neg (by omega), if_neg (by omega), if_neg (by omega), if_neg (by omega)]
    refine ⟨z.1, z.2.1, z.2.2.1, z.2.2.2.1, fun j hj => ?_⟩
    rw [cnB_l (by omega) hi]
    split
    · exact hxy.2
    · split
      · exact hxy.1
      · exact z.2.2.2.2 j hj
  · have z := hR.2.2.1 n hn
    rw [cnB_l (by decide) hi, cnB_l (by decide) hi, cnB_l (by decide) hi, cnB_l (by decide) hi]
    rw [if_neg (by omega), if_neg (by omega), if_neg (by omega), if_neg (by omega), if_neg (by omega), if_neg (by omega), if_neg (by omega), if_neg (by omega)]
    rw [mvc_out (by omega) (by omega) (by omega), mvc_out (by omega) (by omega) (by omega), mvc_out (by omega) (by omega) (by omega), mvc_out (by omega) (by omega) (by omega)]
    exact z
  · have z := hR.2.2.2.1 n j hn hj
    rw [cnB_l (by omega) hi, cnB_l (by omega) hi, mvc_c.1, mvc_c.2]
    by_cases e : n = k ∧ j = i
    · obtain ⟨rfl, rfl⟩ := e
      rw [if_pos rfl, if_pos rfl, if_neg (by omega), if_pos ⟨rfl, rfl⟩, if_pos ⟨rfl, rfl⟩]
      exact ⟨rfl, rfl⟩
    · rw [if_neg (by omega), if_neg (by omega), if_neg (by omega), if_neg (by omega), if_neg (by omega), if_neg (by omega)]
      exact z
theorem cnB_R {a μ : Mm} {k i : Nat} {x y : Int32} (h : RS1 a μ) : RS1 a (cnB μ k i x y) := RS1_uM (RS1_uM h (Or.inl rfl)) (Or.inl rfl)
/-! one number of a lamp -/
def nbB (μ : Mm) (k w : Nat) (v : Int32) : Mm := uM μ 1 (aL k w) v
theorem nbB_l {μ : Mm} {k w n u : Nat} {v : Int32} (hw : w < 12) (hu : u < 12) : nbB μ k w v 1 (aL n u) = if n = k ∧ u = w then v else μ 1 (aL n u) := by
  unfold nbB
  by_cases e : n = k ∧ u = w
  · obtain ⟨rfl, rfl⟩ := e; rw [uM_s, if_pos ⟨rfl, rfl⟩]
  · rw [if_neg e, uM_n (fun z => e (aL_inj hu hw z.2))]
theorem nb_MI {V V2 μ : Mm} {c r lc k w : Nat} {v : Int32} (hM : MI V c r lc μ) (hw : 8 ≤ w ∧ w < 12) (hv : (w = 8 ∨ w = 9 → rgI v 0 255) ∧ (w = 10 → rgI v 0 900) ∧ (w = 11 → v = 0 ∨ v = 1)) (hV : ∀ p q : Nat, p < 15 → ¬ (p = 0 ∧ q = 6) → V2 p q = if p = w + 1 ∧ q = k then v else V p q) : MI V2 c r lc (nbB μ k w v) := by
  have hR := hM.1
  have o : ∀ q, q < 390 → nbB μ k w v 1 q = μ 1 q := fun q hq => by
    have := aL_ge k w
    unfold nbB; rw [uM_n (by omega)]
  refine MI_lp hM (fun q h1 h2 => o q h1) ((o 4 (by decide)).trans hR.1.2.2.1) hR.1.2.2.2.2.2.2.2 ?_ (fun q hq => ?_) (funext fun q => ?_) (fun n hn => ?_) (fun n hn => ?_) (fun n j hn hj => ?_)
  · unfold nbB; rw [uM_n (by omega)]
  · rw [hV _ _ (by decide) (by omega), if_neg (by omega)]
  · rw [hV _ _ (by decide) (by omega), if_neg (by omega)]
  · have z := hR.2.1.2.2 n hn
    rw [nbB_l hw.2 (by decide), nbB_l hw.2 (by decide), nbB_l hw.2 (by decide), nbB_l hw.2 (by decide)]
    refine ⟨?_, ?_, ?_, ?_, fun j hj => ?_⟩
    · split
      · exact hv.1 (by omega)
      · exact z.1
    · split
      · exact hv.1 (by omega)
      · exact z.2.1
    · split
      · exact hv.2.1 (by omega)
      · exact z.2.2.1
    · split
      · exact hv.2.2 (by omega)
      · exact z.2.2.2.1
    · rw [nbB_l hw.2 (by omega), if_neg (by omega)]; exact z.2.2.2.2 j hj
  · have z := hR.2.2.1 n hn
    rw [nbB_l hw.2 (by decide), nbB_l hw.2 (by decide), nbB_l hw.2 (by decide), nbB_l hw.2 (by decide), hV _ _ (by decide) (by omega), hV _ _ (by decide) (by omega), hV _ _ (by decide) (by omega), hV _ _ (by decide) (by omega)]
    refine ⟨?_, ?_, ?_, ?_⟩
    · by_cases e : n = k ∧ 8 = w
      · rw [if_pos e, if_pos (by omega)]
      · rw [if_neg e, if_neg (by omega)]; exact z.1
    · by_cases e : n = k ∧ 9 = w
      · rw [if_pos e, if_pos (by omega)]
      · rw [if_neg e, if_neg (by omega)]; exact z.2.1
    · by_cases e : n = k ∧ 10 = w
      · rw [if_pos e, if_pos (by omega)]
      · rw [if_neg e, if_neg (by omega)]; exact z.2.2.1
    · by_cases e : n = k ∧ 11 = w
      · rw [if_pos e, if_pos (by omega)]
      · rw [if_neg e, if_neg (by omega)]; exact z.2.2.2
  · have z := hR.2.2.2.1 n j hn hj
    rw [nbB_l hw.2 (by omega), nbB_l hw.2 (by omega), if_neg (by omega), if_neg (by omega), hV _ _ (by decide) (by omega), hV _ _ (by decide) (by omega), if_neg (by omega), if_neg (by omega)]
    exact z
theorem nbB_R {a μ : Mm} {k w : Nat} {v : Int32} (h : RS1 a μ) : RS1 a (nbB μ k w v) := RS1_uM h (Or.inl rfl)
/-! the wall is moved -/
def mvB (μ : Mm) (a b : Int32) : Mm := uM (uM μ 1 2 a) 1 3 b
theorem mv_MI {V μ : Mm} {c r lc : Nat} {a b : Int32} (hM : MI V c r lc μ) (hs : shOK a b) : MI (movM V a b) c r lc (mvB μ a b) := by
  obtain ⟨⟨h1, h2, h3, h4, h5⟩, g2, g3, g5, g8⟩ := hM
  have o : ∀ q, q ≠ 2 → q ≠ 3 → mvB μ a b 1 q = μ 1 q := fun q q2 q3 => by unfold mvB; rw [uM_n (by omega), uM_n (by omega)]
  have e2 : mvB μ a b 1 2 = a := by unfold mvB; rw [uM_n (by omega), uM_s]
  have e3 : mvB μ a b 1 3 = b := by unfold mvB; rw [uM_s]
  have l : ∀ k w, mvB μ a b 1 (aL k w) = μ 1 (aL k w) := fun k w => by
    have := aL_ge k w
    exact o _ (by omega) (by omega)
  refine ⟨⟨?_, ⟨?_, fun j hj => ?_, fun k hk => ?_⟩, fun k hk => ?_, fun k i hk hi => ?_, fun x y hx hy => ?_⟩, ?_, ?_, ?_, ?_⟩
  · rw [o _ (by decide) (by decide), o _ (by decide) (by decide), o _ (by decide) (by decide)]; exact h1
  · rw [e2, e3]; exact hs
  · rw [o _ (by omega) (by omega)]; exact h2.2.1 j hj
  · rw [l, l, l, l]
    have z := h2.2.2 k hk
    refine ⟨z.1, z.2.1, z.2.2.1, z.2.2.2.1, fun i hi => ?_⟩
    rw [l]; exact z.2.2.2.2 i hi
  · rw [l, l, l, l, movM_out (by omega), movM_out (by omega), movM_out (by omega), movM_out (by omega)]; exact h3 k hk
  · rw [l, l, movM_out (by omega), movM_out (by omega)]; exact h4 k i hk hi
  · rw [o _ (by omega) (by omega), movM_out (by omega)]; exact h5 x y hx hy
  · rw [e2]; unfold movM; rw [uM_n (by omega), uM_n (by omega), uM_s]
  · rw [e3]; unfold movM; rw [uM_n (by omega), uM_s]
  · rw [o _ (by decide) (by decide), movM_out (by omega)]; exact g5
  · unfold mvB; rw [uM_n (by omega), uM_n (by omega)]; exact g8
theorem sum_app {g : Nat → Int32} {n : Nat} : ∀ k, sumN (n + k) g = sumN n g + sumN k (fun x => g (n + x))
  | 0 => (Int32.add_zero _).symm
  | k + 1 => by
    show sumN (n + k) g + g (n + k) = sumN n g + (sumN k (fun x => g (n + x)) + g (n + k))
    rw [sum_app k, Int32.add_assoc]
