/-! the light of one place: the model's words are the class's -/
theorem l1_0 {w : Nat → Int32} {lc n : Nat} {t : Int32} (hw : WB w lc) (h0 : w n = 0) : l1V w t n = 0 := by
  unfold l1V
  by_cases hs : sumN 8 w ≤ 0
  · rw [if_pos hs]
  · rw [if_neg hs]
    by_cases e : n = hvN w 8
    · exfalso
      rcases hv_mo hw 8 (Nat.le_refl _) with h | h
      · apply hs
        rw [sumN_congr (g := fun _ => 0) (fun k hk => h.2.2 k hk)]
        decide
      · rw [← e, h0] at h; exact absurd h.2.2 (by decide)
    · rw [if_neg e, shV0 h0]
def k1V (w li fl : Nat → Int32) (t : Int32) (lc : Nat) : Nat → Int32 := l2V (covV w lc) li fl (l1V w t)
def d0V (w li fl : Nat → Int32) (t : Int32) (lc : Nat) : Int32 := t - sumN lc (k1V w li fl t lc)
def dV (w li fl : Nat → Int32) (t : Int32) (lc : Nat) (n : Nat) : Int32 := bmV (covV w lc) li fl (k1V w li fl t lc) (d0V w li fl t lc) n
def k2V (w li fl : Nat → Int32) (t : Int32) (lc : Nat) (n : Nat) : Int32 := nlV (covV w lc) li fl (k1V w li fl t lc) (d0V w li fl t lc) n
section
variable {w li fl : Nat → Int32} {t : Int32} {lc : Nat}
theorem k1_on {n : Nat} (hb : bitB (covV w lc) n = true) : k1V w li fl t lc n = (if (if li n < l1V w t n then li n else l1V w t n) < fl n then fl n else (if li n < l1V w t n then li n else l1V w t n)) := by
  rw [cl_l2]; exact if_pos hb
theorem k1_off {n : Nat} (hb : ¬ bitB (covV w lc) n = true) : k1V w li fl t lc n = l1V w t n := if_neg hb
theorem dV_neg {n : Nat} (hb : bitB (covV w lc) n = true) (hd : dV w li fl t lc n ≤ 0) : dV w li fl t lc (n + 1) = dV w li fl t lc n - mxI (dV w li fl t lc n) (fl n - k1V w li fl t lc n) := by
  unfold dV at *; rw [bmV, if_pos hb, if_pos hd]
theorem dV_pos {n : Nat} (hb : bitB (covV w lc) n = true) (hd : ¬ dV w li fl t lc n ≤ 0) : dV w li fl t lc (n + 1) = dV w li fl t lc n - mnI (dV w li fl t lc n) (li n - k1V w li fl t lc n) := by
  unfold dV at *; rw [bmV, if_pos hb, if_neg hd]
theorem dV_off {n : Nat} (hb : ¬ bitB (covV w lc) n = true) : dV w li fl t lc (n + 1) = dV w li fl t lc n := by
  unfold dV; rw [bmV, if_neg hb]
theorem k2_neg {n : Nat} (hb : bitB (covV w lc) n = true) (hd : dV w li fl t lc n ≤ 0) : k2V w li fl t lc n = k1V w li fl t lc n + mxI (dV w li fl t lc n) (fl n - k1V w li fl t lc n) := by
  unfold k2V dV at *; rw [nlV, if_pos hb, if_pos hd]
theorem k2_pos {n : Nat} (hb : bitB (covV w lc) n = true) (hd : ¬ dV w li fl t lc n ≤ 0) : k2V w li fl t lc n = k1V w li fl t lc n + mnI (dV w li fl t lc n) (li n - k1V w li fl t lc n) := by
  unfold k2V dV at *; rw [nlV, if_pos hb, if_neg hd]
theorem k2_off {n : Nat} (hb : ¬ bitB (covV w lc) n = true) : k2V w li fl t lc n = k1V w li fl t lc n := by
  unfold k2V; rw [nlV, if_neg hb]
theorem tel1 (n : Nat) : k2V w li fl t lc n + dV w li fl t lc (n + 1) = k1V w li fl t lc n + dV w li fl t lc n := by
  by_cases hb : bitB (covV w lc) n = true
  · by_cases hd : dV w li fl t lc n ≤ 0
    · rw [dV_neg hb hd, k2_neg hb hd]; grind
    · rw [dV_pos hb hd, k2_pos hb hd]; grind
  · rw [dV_off hb, k2_off hb]
theorem tel : ∀ n, sumN n (k2V w li fl t lc) + dV w li fl t lc n = sumN n (k1V w li fl t lc) + d0V w li fl t lc
  | 0 => rfl
  | n + 1 => by
    have h1 := tel1 (w := w) (li := li) (fl := fl) (t := t) (lc := lc) n
    have h2 := tel n
    show sumN n (k2V w li fl t lc) + k2V w li fl t lc n + dV w li fl t lc (n + 1) = sumN n (k1V w li fl t lc) + k1V w li fl t lc n + d0V w li fl t lc
    grind
theorem tel_lc : sumN lc (k2V w li fl t lc) = t - dV w li fl t lc lc := by
  have h := tel (w := w) (li := li) (fl := fl) (t := t) (lc := lc) lc
  have e : d0V w li fl t lc = t - sumN lc (k1V w li fl t lc) := rfl
  grind
theorem mis_sum {f : Nat → Int32} : ∀ n, misN t f n = t - sumN n f
  | 0 => by
    show t = t - 0
    grind
  | n + 1 => by
    show misN t f n - f n = t - (sumN n f + f n)
    rw [mis_sum n]; grind
theorem cov_off (h8 : lc ≤ 8) (hw : WB w lc) {n : Nat} (hn : n < 8) (hb : ¬ bitB (covV w lc) n = true) : w n = 0 := by
  rcases Nat.lt_or_ge n lc with q | q
  · unfold covV at hb
    rw [bitB_orN hn lc h8] at hb
    have h0 : ¬ 0 < w n := fun z => hb (by simp [q, z])
    exact Int32.le_antisymm (Int32.not_lt.mp h0) (hw.1 n hn).1
  · exact hw.2 n q hn
theorem cov_ge (h8 : lc ≤ 8) {n : Nat} (hn : n < 8) (q : lc ≤ n) : ¬ bitB (covV w lc) n = true := by
  unfold covV
  rw [bitB_orN hn lc h8]
  simp; omega
theorem k1_z (h8 : lc ≤ 8) (hw : WB w lc) {n : Nat} (hn : n < 8) (hb : ¬ bitB (covV w lc) n = true) : k1V w li fl t lc n = 0 := by
  rw [k1_off hb, l1_0 hw (cov_off h8 hw hn hb)]
theorem vL2_k1 (h8 : lc ≤ 8) (hw : WB w lc) : vL2 w li fl t = k1V w li fl t lc := by
  unfold vL2 k1V; rw [cov_8 hw 8 h8 (Nat.le_refl _)]
theorem vM_d0 (h8 : lc ≤ 8) (hw : WB w lc) : vM w li fl t = d0V w li fl t lc := by
  unfold vM
  rw [vL2_k1 h8 hw, mis0 (lc := lc) 8 h8 (fun k h1 h2 => k1_z h8 hw h2 (cov_ge h8 h2 h1)), mis_sum]
  rfl
theorem dV_ge (h8 : lc ≤ 8) : ∀ N, lc ≤ N → N ≤ 8 → dV w li fl t lc N = dV w li fl t lc lc := by
  intro N
  induction N with
  | zero => intro h _; rw [show lc = 0 by omega]
  | succ N ih =>
    intro h h9
    rcases Nat.lt_or_ge N lc with q | q
    · rw [show lc = N + 1 by omega]
    · rw [dV_off (cov_ge h8 (by omega) q), ih q (by omega)]
theorem vL_k2 (h8 : lc ≤ 8) (hw : WB w lc) (n : Nat) : vL w li fl t n = k2V w li fl t lc n := by
  unfold vL k2V
  rw [vL2_k1 h8 hw, vM_d0 h8 hw, cov_8 hw 8 h8 (Nat.le_refl _)]
theorem vB_k2 (h8 : lc ≤ 8) (hw : WB w lc) : vB w li fl t = sumN lc (k2V w li fl t lc) := by
  unfold vB
  rw [vL2_k1 h8 hw, vM_d0 h8 hw, cov_8 hw 8 h8 (Nat.le_refl _), tel_lc, ← dV_ge h8 8 h8 (Nat.le_refl _)]
  rfl
theorem k1_bd (h8 : lc ≤ 8) (hw : WB w lc) (hl : ∀ k, k < 8 → (0 ≤ (li k).toInt ∧ (li k).toInt ≤ 255) ∧ (0 ≤ (fl k).toInt ∧ (fl k).toInt ≤ 255)) : ∀ n, n < 8 → bd (k1V w li fl t lc n) 300 := by
  intro n hn
  by_cases hb : bitB (covV w lc) n = true
  · rw [k1_on hb]
    have h := hl n hn
    unfold bd
    by_cases a : li n < l1V w t n
    · rw [if_pos a]
      split <;> omega
    · rw [if_neg a]
      have a1 := Int32.le_iff_toInt_le.mp (Int32.not_lt.mp a)
      by_cases b : l1V w t n < fl n
      · rw [if_pos b]; omega
      · rw [if_neg b]
        have b1 := Int32.le_iff_toInt_le.mp (Int32.not_lt.mp b)
        omega
  · rw [k1_z h8 hw hn hb]; unfold bd; decide
theorem sum_b3 {f : Nat → Int32} (h : ∀ n, n < 8 → bd (f n) 300) : ∀ n, n ≤ 8 → bd (sumN n f) (300 * n) := by
  intro n
  induction n with
  | zero => intro _; show (0 : Int32).toInt.natAbs ≤ 0; decide
  | succ n ih =>
    intro hn
    exact bd_mono (bd_add (ih (by omega)) (h n (by omega)) (by omega)).2 (by omega)
theorem dV_bd (h8 : lc ≤ 8) (hw : WB w lc) (ht : bd t 255) (hl : ∀ k, k < 8 → (0 ≤ (li k).toInt ∧ (li k).toInt ≤ 255) ∧ (0 ≤ (fl k).toInt ∧ (fl k).toInt ≤ 255)) {n : Nat} (hn : n < 8) : bd (dV w li fl t lc n) 1000000000 := by
  have k := k1_bd (t := t) h8 hw hl
  have s := sum_b3 k lc h8
  have d := (bd_sub ht s (by omega)).2
  have e := bmV_bd (cv := covV w lc) (m0 := d0V w li fl t lc) (li := li) (fl := fl) (l := k1V w li fl t lc) (bd_mono d (by omega)) (fun k hk => ⟨by have := hl k hk; unfold bd; omega, by have := hl k hk; unfold bd; omega, k1_bd h8 hw hl k hk⟩) n (by omega)
  have p8 : 4 ^ n ≤ 4 ^ 7 := Nat.pow_le_pow_right (by decide) (by omega)
  have p9 : (4 : Nat) ^ 7 = 16384 := by decide
  exact bd_mono e (by omega)
end
theorem lim_rg {s : Nat} {V : Mm} {f : Nat → Int32} {c r lc k : Nat} (hR : REP s V f c r lc) (hk : k < 8) : 0 ≤ (lim V s k).toInt ∧ (lim V s k).toInt ≤ 255 := by
  have h1 := hR.2.2.1 k hk
  obtain ⟨g, _, u, _⟩ := hR.2.1.2.2 k hk
  unfold lim
  rw [h1.1, h1.2.2.1]
  have g1 := Int32.le_iff_toInt_le.mp g.1
  have g2 := Int32.le_iff_toInt_le.mp g.2
  have u1 := Int32.le_iff_toInt_le.mp u.1
  have u2 := Int32.le_iff_toInt_le.mp u.2
  rw [show (0 : Int32).toInt = 0 from rfl] at g1 u1
  rw [show (255 : Int32).toInt = 255 from rfl] at g2
  rw [show (900 : Int32).toInt = 900 from rfl] at u2
  have sb := bd_sub (x := 1000) (a := 1000) (b := 900) (by unfold bd; decide) (bd_rg u (by decide) (by decide)) (by decide)
  have m := bd_mul (bd_rg (n := 255) g (by decide) (by decide)) sb.2 (by decide)
  rw [show (1000 : Int32).toInt = 1000 from rfl] at sb
  have n0 : 0 ≤ (f (aL k 8)).toInt * (1000 - (f (aL k 10)).toInt) := Int.mul_nonneg g1 (by omega)
  have n1 : (f (aL k 8)).toInt * (1000 - (f (aL k 10)).toInt) ≤ 255 * 1000 := Int.mul_le_mul g2 (by omega) (by omega) (by decide)
  have e := m.1
  rw [sb.1] at e
  rw [← e] at n0 n1
  rw [Int32.toInt_div, show (1000 : Int32).toInt = 1000 from rfl, Int.tdiv_eq_ediv_of_nonneg n0, Int.bmod_eq_of_le (by omega) (by omega)]
  omega
theorem flo_rg {s : Nat} {V : Mm} {f : Nat → Int32} {c r lc k : Nat} (hR : REP s V f c r lc) (hk : k < 8) : 0 ≤ (flo V s k).toInt ∧ (flo V s k).toInt ≤ 255 := by
  have h1 := hR.2.2.1 k hk
  obtain ⟨_, g, _⟩ := hR.2.1.2.2 k hk
  have g1 := Int32.le_iff_toInt_le.mp g.1
  have g2 := Int32.le_iff_toInt_le.mp g.2
  unfold flo
  split
  · exact lim_rg hR hk
  · rw [h1.2.1]; exact ⟨g1, g2⟩
theorem li_fl {s : Nat} {V : Mm} {f : Nat → Int32} {c r lc : Nat} (hR : REP s V f c r lc) : ∀ k, k < 8 → (0 ≤ (lim V s k).toInt ∧ (lim V s k).toInt ≤ 255) ∧ (0 ≤ (flo V s k).toInt ∧ (flo V s k).toInt ≤ 255) := fun _ hk => ⟨lim_rg hR hk, flo_rg hR hk⟩
theorem tg_bd {s : Nat} {V : Mm} {f : Nat → Int32} {c r lc x y : Nat} (hR : REP s V f c r lc) (hx : x < c) (hy : y < r) : bd (V (s + 8) (y * c + x)) 255 := by
  rw [hR.2.2.2.2 x y hx hy, Nat.add_assoc]
  have h := hR.1
  exact bd_rg (hR.2.1.2.1 (24 * y + x) (by omega)) (by decide) (by decide)
/-! what a place's reckoning leaves as it was -/
def SC0 (μ m : Mm) : Prop := ∀ p q : Nat, ¬ (p = 0 ∧ (q = 11 ∨ q = 12)) → p ≠ 5 → p ≠ 6 → m p q = μ p q
def SCR (μ m : Mm) : Prop := ∀ p q : Nat, ¬ (p = 0 ∧ 11 ≤ q ∧ q ≤ 17) → p ≠ 5 → p ≠ 6 → m p q = μ p q
theorem SC0_t {a b d : Mm} (h : SC0 a b) (h2 : SC0 b d) : SC0 a d := fun p q h1 h5 h6 => (h2 p q h1 h5 h6).trans (h p q h1 h5 h6)
theorem SCR_r {a : Mm} : SCR a a := fun _ _ _ _ _ => rfl
theorem SCR_0 {a b : Mm} (h : SC0 a b) : SCR a b := fun p q h1 h5 h6 => h p q (by omega) h5 h6
theorem SCR_t {a b d : Mm} (h : SCR a b) (h2 : SCR b d) : SCR a d := fun p q h1 h5 h6 => (h2 p q h1 h5 h6).trans (h p q h1 h5 h6)
theorem SCR_uM {a b : Mm} {k j : Nat} {v : Int32} (h : SCR a b) (hk : (k = 0 ∧ 11 ≤ j ∧ j ≤ 17) ∨ k = 5 ∨ k = 6) : SCR a (uM b k j v) := fun p q h1 h5 h6 => by
  rw [uM_n (by omega)]; exact h p q h1 h5 h6
theorem SC0_1 {a b : Mm} (h : SC0 a b) : b 1 = a 1 := funext fun q => h 1 q (by omega) (by decide) (by decide)
theorem SCR_1 {a b : Mm} (h : SCR a b) : b 1 = a 1 := funext fun q => h 1 q (by omega) (by decide) (by decide)
def shnM (μ : Mm) (w li fl : Nat → Int32) (t : Int32) (lc : Nat) : Mm := uM (setRow (setRow (shrM (WG μ w lc) lc t) 6 lc (k1V w li fl t lc)) 6 lc (k2V w li fl t lc)) 0 12 (sumN lc (k2V w li fl t lc))
/-- what a place's reckoning shows -/
def SHP (s : Nat) (V : Mm) (z sx sy : Int32) (c lc x y : Nat) (μ m : Mm) : Prop := SC0 μ m ∧ m 0 11 = cvP V s z sx sy x y ∧ m 0 12 = brP V s z sx sy c x y ∧ (∀ n, n < lc → m 6 n = ltP V s z sx sy c x y n) ∧ ∀ n, n < lc → m 5 n = plW V s z (2 * (nI x + sx) + 1) (2 * (nI y + sy) + 1) n
theorem shn_ok {s : Nat} {V μ : Mm} {c r lc x y : Nat} {w0 z : Int32} (hR : REP s V (μ 1) c r lc) (hz : HZ s V lc w0 z) (hx : x < c) (hy : y < r) : SHP s V z (μ 1 2) (μ 1 3) c lc x y μ (shnM μ (plW V s z (2 * (nI x + μ 1 2) + 1) (2 * (nI y + μ 1 3) + 1)) (lim V s) (flo V s) (V (s + 8) (y * c + x)) lc) := by
  have h8 : lc ≤ 8 := hR.1.2.2.2.2.2.2.2
  have hc : c ≤ 24 := hR.1.2.2.2.2.1
  have hr : r ≤ 16 := hR.1.2.2.2.2.2.2.1
  have hW := WB_pl hR hz (show x < 24 by omega) (show y < 16 by omega) (bd_rg hR.2.1.1.1 (by decide) (by decide)) (bd_rg hR.2.1.1.2 (by decide) (by decide))
  unfold shnM
  refine ⟨?_, ?_, ?_, ?_, ?_⟩
  · intro p q h1 h5 h6
    rw [uM_n (by omega), setRow_out (fun z => h6 z.1), setRow_out (fun z => h6 z.1), shrM_o h6, WG_out (by omega) h5]
  · rw [uM_n (by decide), setRow_out (by omega), setRow_out (by omega), shrM_o (by decide), WG_11]
    exact (cov_8 hW 8 h8 (Nat.le_refl _)).symm
  · rw [uM_s]; exact (vB_k2 h8 hW).symm
  · intro n hn
    rw [uM_n (by omega)]
    exact (if_pos ⟨rfl, hn⟩ : setRow _ 6 lc _ 6 n = _).trans (vL_k2 h8 hW n).symm
  · intro n hn
    rw [uM_n (by omega), setRow_out (by omega), setRow_out (by omega), shrM_o (by decide), WG_5 hn]
theorem setRow_sum {μ : Mm} {a n : Nat} {f : Nat → Int32} : sumN n (setRow μ a n f a) = sumN n f := sumN_congr fun _ hk => setRow_in hk
