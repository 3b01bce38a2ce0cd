/-! the lights lie between floor and limit -/
theorem k2_rg {w li fl : Nat → Int32} {t : Int32} {lc : Nat} (h8 : lc ≤ 8) (hw : WB w lc) (ht : bd t 255) (hl : ∀ k, k < 8 → (0 ≤ (li k).toInt ∧ (li k).toInt ≤ 255) ∧ (0 ≤ (fl k).toInt ∧ (fl k).toInt ≤ 255)) (hf : ∀ k, k < 8 → (fl k).toInt ≤ (li k).toInt) {n : Nat} (hn : n < 8) (hb : bitB (covV w lc) n = true) : 0 ≤ (k2V w li fl t lc n).toInt ∧ (k2V w li fl t lc n).toInt ≤ (li n).toInt := by
  have hd := dV_bd (n := n) h8 hw ht hl hn
  have kb := k1_bd (t := t) h8 hw hl n hn
  have h := hl n hn
  have f := hf n hn
  have k1 : (fl n).toInt ≤ (k1V w li fl t lc n).toInt ∧ (k1V w li fl t lc n).toInt ≤ (li n).toInt := by
    rw [k1_on hb]
    by_cases a : li n < l1V w t n
    · rw [if_pos a]
      split
      · omega
      · have := Int32.le_iff_toInt_le.mp (Int32.not_lt.mp ‹_›); omega
    · rw [if_neg a]
      have a1 := Int32.le_iff_toInt_le.mp (Int32.not_lt.mp a)
      split
      · omega
      · have := Int32.le_iff_toInt_le.mp (Int32.not_lt.mp ‹_›); omega
  have fb : bd (fl n) 300 := by unfold bd; omega
  have lb : bd (li n) 300 := by unfold bd; omega
  have e1 := bd_sub fb kb (by decide)
  have e2 := bd_sub lb kb (by decide)
  by_cases d : dV w li fl t lc n ≤ 0
  · rw [k2_neg hb d]
    have d1 := Int32.le_iff_toInt_le.mp d
    rw [Int32.toInt_zero] at d1
    unfold mxI
    by_cases q : dV w li fl t lc n < fl n - k1V w li fl t lc n
    · rw [if_pos q, (bd_add kb e1.2 (by decide)).1, e1.1]; omega
    · rw [if_neg q]
      have q1 := Int32.le_iff_toInt_le.mp (Int32.not_lt.mp q)
      rw [(bd_add kb hd (by decide)).1]
      rw [e1.1] at q1
      omega
  · rw [k2_pos hb d]
    have d1 := Int32.lt_iff_toInt_lt.mp (Int32.not_le.mp d)
    rw [Int32.toInt_zero] at d1
    unfold mnI
    by_cases q : li n - k1V w li fl t lc n < dV w li fl t lc n
    · rw [if_pos q, (bd_add kb e2.2 (by decide)).1, e2.1]; omega
    · rw [if_neg q]
      have q1 := Int32.le_iff_toInt_le.mp (Int32.not_lt.mp q)
      rw [(bd_add kb hd (by decide)).1]
      rw [e2.1] at q1
      omega
theorem fl_li (V : Mm) (s k : Nat) : (flo V s k).toInt ≤ (lim V s k).toInt := by
  unfold flo
  split
  · exact Int.le_refl _
  · exact Int32.le_iff_toInt_le.mp (Int32.not_lt.mp ‹_›)
theorem jxy {c r j : Nat} (hj : j < c * r) : j % c < c ∧ j / c < r := by
  have hc : 0 < c := by
    rcases Nat.eq_zero_or_pos c with q | q
    · subst q; omega
    · exact q
  exact ⟨Nat.mod_lt j hc, (Nat.div_lt_iff_lt_mul hc).mpr (by rw [Nat.mul_comm r c]; exact hj)⟩
theorem lt_rg {V μ : Mm} {c r lc j k : Nat} (hM : MI V c r lc μ) (hj : j < c * r) (hk : k < 8) (hb : bitB (cvJ V lc c j) k = true) : 0 ≤ (ltJ V lc c k j).toInt ∧ (ltJ V lc c k j).toInt ≤ (lim V 0 k).toInt := by
  obtain ⟨⟨hc1, hc2⟩, ⟨hr1, hr2⟩, h8⟩ := MI_lc hM
  obtain ⟨hx, hy⟩ := jxy hj
  have b2 : bd (V 0 2) 10 := by rw [← hM.2.1]; exact bd_rg hM.1.2.1.1.1 (by decide) (by decide)
  have b3 : bd (V 0 3) 10 := by rw [← hM.2.2.1]; exact bd_rg hM.1.2.1.1.2 (by decide) (by decide)
  have hW : WB (plW V 0 (zzS V lc) (2 * (nI (j % c) + V 0 2) + 1) (2 * (nI (j / c) + V 0 3) + 1)) lc := WB_pl hM.1 (HZ_zz h8) (by omega) (by omega) b2 b3
  have ht := tg_bd hM.1 hx hy
  unfold ltJ ltP
  rw [vL_k2 h8 hW]
  unfold cvJ cvP at hb
  rw [cov_8 hW 8 h8 (Nat.le_refl _)] at hb
  exact k2_rg h8 hW ht (li_fl hM.1) (fun k _ => fl_li V 0 k) hk hb
theorem sl_le {V μ : Mm} {c r lc k : Nat} (hM : MI V c r lc μ) (hk : k < 8) : ∀ n, n ≤ c * r → 0 ≤ (sumN n (fun j => if bitB (cvJ V lc c j) k = true then ltJ V lc c k j else 0)).toInt ∧ (sumN n (fun j => if bitB (cvJ V lc c j) k = true then ltJ V lc c k j else 0)).toInt ≤ (sumN n (fun j => if bitB (cvJ V lc c j) k = true then (1 : Int32) else 0)).toInt * (lim V 0 k).toInt := by
  have hcr : c * r ≤ 384 := cr_le hM.1.1.2.2.2.2.1 hM.1.1.2.2.2.2.2.2.1
  have hl := lim_rg hM.1 hk
  intro n
  induction n with
  | zero => intro _; exact ⟨Int.le_refl 0, by show (0 : Int32).toInt ≤ (0 : Int32).toInt * _; rw [Int32.toInt_zero, Int.zero_mul]; exact Int.le_refl 0⟩
  | succ n ih =>
    intro hn
    have ih := ih (by omega)
    have p := cnt_bd (f := fun j => if bitB (cvJ V lc c j) k = true then (1 : Int32) else 0) (fun j => by
      show (if bitB (cvJ V lc c j) k = true then (1 : Int32) else 0) = 0 ∨ _
      split
      · exact Or.inr rfl
      · exact Or.inl rfl) n (by omega)
    have p2 : (sumN n (fun j => if bitB (cvJ V lc c j) k = true then (1 : Int32) else 0)).toInt * (lim V 0 k).toInt ≤ 384 * 255 := Int.mul_le_mul (by omega) hl.2 hl.1 (by decide)
    show 0 ≤ (sumN n (fun j => if bitB (cvJ V lc c j) k = true then ltJ V lc c k j else 0) + (if bitB (cvJ V lc c n) k = true then ltJ V lc c k n else 0)).toInt ∧ (sumN n (fun j => if bitB (cvJ V lc c j) k = true then ltJ V lc c k j else 0) + (if bitB (cvJ V lc c n) k = true then ltJ V lc c k n else 0)).toInt ≤ (sumN n (fun j => if bitB (cvJ V lc c j) k = true then (1 : Int32) else 0) + (if bitB (cvJ V lc c n) k = true then (1 : Int32) else 0)).toInt * (lim V 0 k).toInt
    by_cases hb : bitB (cvJ V lc c n) k = true
    · rw [if_pos hb, if_pos hb]
      have l := lt_rg hM (show n < c * r by omega) hk hb
      rw [(bd_add (a := 97920) (b := 255) (by unfold bd; omega) (by unfold bd; omega) (by decide)).1]
      rw [(bd_add (x := sumN n (fun j => if bitB (cvJ V lc c j) k = true then (1 : Int32) else 0)) (y := 1) (a := 384) (b := 1) (by unfold bd; omega) (by unfold bd; decide) (by decide)).1, show (1 : Int32).toInt = 1 from rfl, Int.add_mul]
      omega
    · rw [if_neg hb, if_neg hb, Int32.add_zero, Int32.add_zero]; exact ih
theorem ld_rg {V μ : Mm} {c r lc k : Nat} (hM : MI V c r lc μ) (hk : k < 8) : 0 ≤ (ldJ V lc c r k).toInt ∧ (ldJ V lc c r k).toInt ≤ 100 := by
  have hcr : c * r ≤ 384 := cr_le hM.1.1.2.2.2.2.1 hM.1.1.2.2.2.2.2.2.1
  have hl := lim_rg hM.1 hk
  have p := plc_bd (V := V) (lc := lc) (k := k) hcr
  have s : 0 ≤ (slJ V lc c r k).toInt ∧ (slJ V lc c r k).toInt ≤ (plcJ V lc c r k).toInt * (lim V 0 k).toInt := sl_le hM hk (c * r) (Nat.le_refl _)
  have p2 : (plcJ V lc c r k).toInt * (lim V 0 k).toInt ≤ 384 * 255 := Int.mul_le_mul (by omega) hl.2 hl.1 (by decide)
  have e := (bd_mul (x := plcJ V lc c r k) (y := lim V 0 k) (a := 384) (b := 255) (by unfold bd; omega) (by unfold bd; omega) (by decide)).1
  have e2 := (bd_mul (x := 100) (y := slJ V lc c r k) (a := 100) (b := 97920) (by unfold bd; decide) (by unfold bd; omega) (by decide)).1
  rw [ld_eq hM.1 hk]
  by_cases q : plcJ V lc c r k * lim V 0 k = 0
  · rw [if_pos q]; decide
  · rw [if_neg q]
    rw [← e] at s p2
    have z : (plcJ V lc c r k * lim V 0 k).toInt ≠ 0 := fun h => q (Int32.toInt_inj.mp h)
    rw [show (100 : Int32).toInt = 100 from rfl] at e2
    generalize plcJ V lc c r k * lim V 0 k = P at *
    have a : 0 ≤ 100 * (slJ V lc c r k).toInt / P.toInt := Int.ediv_nonneg (by omega) (by omega)
    have b : 100 * (slJ V lc c r k).toInt / P.toInt ≤ 100 := Int.ediv_le_of_le_mul (by omega) (by omega)
    rw [Int32.toInt_div, e2, Int.tdiv_eq_ediv_of_nonneg (by omega), Int.bmod_eq_of_le (by omega) (by omega)]
    exact ⟨a, b⟩
/-! burning -/
theorem wear_rg {x h l : Int32} (hx : rgI x 0 900) (hh : rgI h 1 9999) (hl : 0 ≤ l.toInt ∧ l.toInt ≤ 100) : rgI (if x + h * l / 100 < 900 then x + h * l / 100 else 900) 0 900 := by
  have x1 := Int32.le_iff_toInt_le.mp hx.1
  have x2 := Int32.le_iff_toInt_le.mp hx.2
  have h1 := Int32.le_iff_toInt_le.mp hh.1
  have h2 := Int32.le_iff_toInt_le.mp hh.2
  rw [show (0 : Int32).toInt = 0 from rfl] at x1
  rw [show (900 : Int32).toInt = 900 from rfl] at x2
  rw [show (1 : Int32).toInt = 1 from rfl] at h1
  rw [show (9999 : Int32).toInt = 9999 from rfl] at h2
  have m := bd_mul (x := h) (y := l) (a := 9999) (b := 100) (by unfold bd; omega) (by unfold bd; omega) (by decide)
  have n0 : 0 ≤ h.toInt * l.toInt := Int.mul_nonneg (by omega) hl.1
  have n1 : h.toInt * l.toInt ≤ 9999 * 100 := Int.mul_le_mul h2 hl.2 hl.1 (by decide)
  rw [← m.1] at n0 n1
  have d : (h * l / 100).toInt = (h * l).toInt / 100 := by
    rw [Int32.toInt_div, show (100 : Int32).toInt = 100 from rfl, Int.tdiv_eq_ediv_of_nonneg n0, Int.bmod_eq_of_le (by omega) (by omega)]
  have a := bd_add (x := x) (y := h * l / 100) (a := 900) (b := 9999) (by unfold bd; omega) (by unfold bd; omega) (by decide)
  split
  · refine ⟨?_, Int32.le_of_lt ‹_›⟩
    rw [Int32.le_iff_toInt_le, a.1, Int32.toInt_zero]; omega
  · exact ⟨by decide, by decide⟩
def BRI (V : Mm) (c r lc : Nat) (ld : Nat → Int32) (h : Int32) (a n : Nat) (μ m : Mm) : Prop := MI (brnM V ld h a) c r lc m ∧ RS1 μ m ∧ (∀ k, k < lc → m 7 k = ld k) ∧ m 0 7 = maxN n (brnM V ld h lc 11)
theorem brn_wk {V m : Mm} {c r lc a n : Nat} {ld : Nat → Int32} {h : Int32} (hM : MI (brnM V ld h a) c r lc m) (hn : n < 8) : m 1 (aL n 11) = V 12 n := by
  rw [← (hM.1.2.2.1 n hn).2.2.2]
  exact brnM_out (by omega) a (Or.inl (by decide))
theorem wk_1 {V : Mm} {n : Nat} (h : V 12 n = 1) : wkB V 0 n = true := by
  unfold wkB
  rw [show (0 : Nat) + 12 = 12 from rfl, h]; rfl
theorem wk_0 {V : Mm} {n : Nat} (h : ¬ V 12 n = 1) : ¬ wkB V 0 n = true := by
  unfold wkB
  rw [show (0 : Nat) + 12 = 12 from rfl, beq_iff_eq]; exact h
theorem BRI_off {V μ m : Mm} {c r lc n : Nat} {ld : Nat → Int32} {h : Int32} (hB : BRI V c r lc ld h n n μ m) (hn : n < 8) (h1 : ¬ m 1 (aL n 11) = 1) : BRI V c r lc ld h (n + 1) n μ m := by
  rw [brn_wk hB.1 hn] at h1
  have e : brnM V ld h (n + 1) = brnM V ld h n := if_neg (wk_0 h1)
  unfold BRI
  rw [e]
  exact hB
theorem BRI_on {V μ m : Mm} {c r lc n : Nat} {ld : Nat → Int32} {h : Int32} (hB : BRI V c r lc ld h n n μ m) (hn : n < 8) (hh : rgI h 1 9999) (hl : 0 ≤ (ld n).toInt ∧ (ld n).toInt ≤ 100) (h1 : m 1 (aL n 11) = 1) : BRI V c r lc ld h (n + 1) n μ (uM m 1 (aL n 10) (if 900 < m 1 (aL n 10) + h * ld n / 100 then 900 else m 1 (aL n 10) + h * ld n / 100)) := by
  rw [brn_wk hB.1 hn] at h1
  have e : brnM V ld h (n + 1) = wearM (brnM V ld h n) n (h * ld n / 100) := if_pos (wk_1 h1)
  obtain ⟨g1, g2, g3, g4⟩ := hB
  have w : brnM V ld h n 11 n = m 1 (aL n 10) := (g1.1.2.2.1 n hn).2.2.1
  unfold BRI
  rw [e, mn_sw]
  refine ⟨?_, RS1_uM g2 (Or.inl rfl), fun k hk => ?_, ?_⟩
  · unfold wearM
    rw [w]
    exact nb_MI g1 (by decide) ⟨by omega, fun _ => wear_rg ((g1.1.2.1.2.2 n hn).2.2.1) hh hl, by omega⟩ row_V2
  · rw [uM_n (by omega)]; exact g3 k hk
  · rw [uM_n (by omega)]; exact g4
theorem brn_fix {V : Mm} {ld : Nat → Int32} {h : Int32} {n : Nat} : ∀ i, brnM V ld h (n + 1 + i) 11 n = brnM V ld h (n + 1) 11 n
  | 0 => rfl
  | i + 1 => by
    have ih := brn_fix (V := V) (ld := ld) (h := h) (n := n) i
    show (if wkB V 0 (n + 1 + i) = true then wearM (brnM V ld h (n + 1 + i)) (n + 1 + i) (h * ld (n + 1 + i) / 100) else brnM V ld h (n + 1 + i)) 11 n = _
    split
    · unfold wearM
      rw [uM_n (by omega), uM_n (by omega)]; exact ih
    · exact ih
theorem BRI_w {V μ m : Mm} {c r lc n : Nat} {ld : Nat → Int32} {h : Int32} (hB : BRI V c r lc ld h (n + 1) n μ m) (hn : n < lc) (h8 : lc ≤ 8) : m 1 (aL n 10) = brnM V ld h lc 11 n := by
  rw [← (hB.1.1.2.2.1 n (by omega)).2.2.1]
  have e := brn_fix (V := V) (ld := ld) (h := h) (n := n) (lc - (n + 1))
  rw [show n + 1 + (lc - (n + 1)) = lc by omega] at e
  exact e.symm
theorem BRI_s {V μ m : Mm} {c r lc n : Nat} {ld : Nat → Int32} {h v : Int32} (hB : BRI V c r lc ld h (n + 1) n μ m) (hv : maxN (n + 1) (brnM V ld h lc 11) = v) : BRI V c r lc ld h (n + 1) (n + 1) μ (uM m 0 7 v) :=
  ⟨MI_7 hB.1, RS1_uM hB.2.1 (by decide), fun k hk => by rw [uM_n (by omega)]; exact hB.2.2.1 k hk, by rw [uM_s, hv]⟩
theorem MI_hr {B m : Mm} {c r lc : Nat} {h : Int32} (hM : MI B c r lc m) : MI (uM B 0 4 (B 0 4 + h)) c r lc (uM m 1 5 (m 1 5 + h)) := by
  have hM2 : MI (uM B 0 4 (B 0 4 + h)) c r lc (uM m 1 5 (m 1 5 + h)) := by
    have hR := hM.1
    have eL : ∀ k w, uM m 1 5 (m 1 5 + h) 1 (aL k w) = m 1 (aL k w) := fun k w => by
      have := aL_ge k w
      rw [uM_n (by omega)]
    have eV : ∀ p q, 0 < p → uM B 0 4 (B 0 4 + h) p q = B p q := fun p q hp => uM_n (by omega)
    refine ⟨⟨?_, ⟨?_, fun j hj => ?_, fun k hk => ?_⟩, fun k hk => ?_, fun k i hk hi => ?_, fun x y hx hy => ?_⟩, ?_, ?_, ?_, ?_⟩
    · rw [uM_n (by omega), uM_n (by omega), uM_n (by omega)]; exact hR.1
    · rw [uM_n (by omega), uM_n (by omega)]; exact hR.2.1.1
    · rw [uM_n (by omega)]; exact hR.2.1.2.1 j hj
    · have := aL_ge k
      have z := hR.2.1.2.2 k hk
      rw [uM_n (by have := aL_ge k 8; omega), uM_n (by have := aL_ge k 9; omega), uM_n (by have := aL_ge k 10; omega), uM_n (by have := aL_ge k 11; omega)]
      refine ⟨z.1, z.2.1, z.2.2.1, z.2.2.2.1, fun i hi => ?_⟩
      rw [uM_n (by have := aL_ge k i; omega)]; exact z.2.2.2.2 i hi
    · rw [eL, eL, eL, eL, eV _ _ (by decide), eV _ _ (by decide), eV _ _ (by decide), eV _ _ (by decide)]; exact hR.2.2.1 k hk
    · rw [eL, eL, eV _ _ (by decide), eV _ _ (by decide)]; exact hR.2.2.2.1 k i hk hi
    · rw [uM_n (by omega), uM_n (by omega)]; exact hR.2.2.2.2 x y hx hy
    · rw [uM_n (by omega), uM_n (by omega)]; exact hM.2.1
    · rw [uM_n (by omega), uM_n (by omega)]; exact hM.2.2.1
    · rw [uM_s, uM_s, hM.2.2.2.1]
    · rw [uM_n (by omega)]; exact hM.2.2.2.2
  exact hM2
