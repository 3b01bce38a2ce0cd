/-! the lights lie between floor and limit -/
theorem k2_rg {w li fl : Nat → Int32} {t : Int32} {lc : Nat} (h8 : lc ≤ 8) (hw : WB w lc) (ht : bd t 255) (hl : ∀ k, k < 8 → (0 ≤ (li k).toInt ∧ (li k).toInt ≤ 255) ∧ (0 ≤ (fl k).toInt ∧ (fl k).toInt ≤ 255)) (hf : ∀ k, k < 8 → (fl k).toInt ≤ (li k).toInt) {n : Nat} (hn : n < 8) (hb : bitB (covV w lc) n = true) : 0 ≤ (k2V w li fl t lc n).toInt ∧ (k2V w li fl t lc n).toInt ≤ (li n).toInt := by
  have hd := dV_bd (n := n) h8 hw ht hl hn
  have kb := k1_bd (t := t) h8 hw hl n hn
  have h := hl n hn
  have f := hf n hn
  have k1 : (fl n).toInt ≤ (k1V w li fl t lc n).toInt ∧ (k1V w li fl t lc n).toInt ≤ (li n).toInt := by
    rw [k1_on hb]
    by_cases a : li n < l1V w t n
    · rw [if_pos a]
      split
      · omega
      · have := Int32.le_iff_toInt_le.mp (Int32.not_lt.mp ‹_›); omega
    · rw [if_neg a]
      have a1 := Int32.le_iff_toInt_le.mp (Int32.not_lt.mp a)
      split
      · omega
      · have := Int32.le_iff_toInt_le.mp (Int32.not_lt.mp ‹_›); omega
  have fb : bd (fl n) 300 := by unfold bd; omega
  have lb : bd (li n) 300 := by unfold bd; omega
  have e1 := bd_sub fb kb (by decide)
  have e2 := bd_sub lb kb (by decide)
  by_cases d : dV w li fl t lc n ≤ 0
  · rw [k2_neg hb d]
    have d1 := Int32.le_iff_toInt_le.mp d
    rw [Int32.toInt_zero] at d1
    unfold mxI
    by_cases q : dV w li fl t lc n < fl n - k1V w li fl t lc n
    · rw [if_pos q, (bd_add kb e1.2 (by decide)).1, e1.1]; omega
    · rw [if_neg q]
      have q1 := Int32.le_iff_toInt_le.mp (Int32.not_lt.mp q)
      rw [(bd_add kb hd (by decide)).1]
      rw [e1.1] at q1
      omega
  · rw [k2_pos hb d]
    have d1 := Int32.lt_iff_toInt_lt.mp (Int32.not_le.mp d)
    rw [Int32.toInt_zero] at d1
    unfold mnI
    by_cases q : li n - k1V w li fl t lc n < dV w li fl t lc n
    · rw [if_pos q, (bd_add kb e2.2 (by decide)).1, e2.1]; omega
    · rw [if_neg q]
      have q1 := Int32.le_iff_toInt_le.mp (Int32.not_lt.mp q)
      rw [(bd_add kb hd (by decide)).1]
      rw [e2.1] at q1
      omega
theorem fl_li (V : Mm) (s k : Nat) : (flo V s k).toInt ≤ (lim V s k).toInt := by
  unfold flo
  split
  · exact Int.le_refl _
  · exact Int32.le_iff_toInt_le.mp (Int32.not_lt.mp ‹_›)
theorem jxy {c r j : Nat} (hj : j < c * r) : j % c < c ∧ j / c < r := by
  have hc : 0 < c := by
    rcases Nat.eq_zero_or_pos c with q | q
    · subst q; omega
    · exact q
  exact ⟨Nat.mod_lt j hc, (Nat.div_lt_iff_lt_mul hc).mpr (by rw [Nat.mul_comm r c]; exact hj)⟩
theorem lt_rg {V μ : Mm} {c r lc j k : Nat} (hM : MI V c r lc μ) (hj : j < c * r) (hk : k < 8) (hb : bitB (cvJ V lc c j) k = true) : 0 ≤ (ltJ V lc c k j).toInt ∧ (ltJ V lc c k j).toInt ≤ (lim V 0 k).toInt := by
  obtain ⟨⟨hc1, hc2⟩, ⟨hr1, hr2⟩, h8⟩ := MI_lc hM
  obtain ⟨hx, hy⟩ := jxy hj
  have b2 : bd (V 0 2) 10 := by rw [← hM.2.1]; exact bd_rg hM.1.2.1.1.1 (by decide) (by decide)
  have b3 : bd (V 0 3) 10 := by rw [← hM.2.2.1]; exact bd_rg hM.1.2.1.1.2 (by decide) (by decide)
  have hW : WB (plW V 0 (zzS V lc) (2 * (nI (j % c) + V 0 2) + 1) (2 * (nI (j / c) + V 0 3) + 1)) lc := WB_pl hM.1 (HZ_zz h8) (by omega) (by omega) b2 b3
  have ht := tg_bd hM.1 hx hy
  unfold ltJ ltP
  rw [vL_k2 h8 hW]
  unfold cvJ cvP at hb
  rw [cov_8 hW 8 h8 (Nat.le_refl _)] at hb
  exact k2_rg h8 hW ht (li_fl hM.1) (fun k _ => fl_li V 0 k) hk hb
theorem sl_le {V μ : Mm} {c r lc k : Nat} (hM : MI V c r lc μ) (hk : k < 8) : ∀ n, n ≤ c * r → 0 ≤ (sumN n (fun j => if bitB (cvJ V lc c j) k = true then ltJ V lc c k j else 0)).toInt ∧ (sumN n (fun j => if bitB (cvJ V lc c j) k = true then ltJ V lc c k j else 0)).toInt ≤ (sumN n (fun j => if bitB (cvJ V lc c j) k = true then (1 : Int32) else 0)).toInt * (lim V 0 k).toInt := by
  have hcr : c * r ≤ 384 := cr_le hM.1.1.2.2.2.2.1 hM.1.1.2.2.2.2.2.2.1
  have hl := lim_rg hM.1 hk
  intro n
  induction n with
  | zero => intro _; exact ⟨Int.le_refl 0, by show (0 : Int32).toInt ≤ (0 : Int32).toInt * _; rw [Int32.toInt_zero, Int.zero_mul]; exact Int.le_refl 0⟩
  | succ n ih =>
    intro hn
    have ih := ih (by omega)
    have p := cnt_bd (f := fun j => if bitB (cvJ V lc c j) k = true then (1 : Int32) else 0) (fun j => by
      show (if bitB (cvJ V lc c j) k = true then (1 : Int32) else 0) = 0 ∨ _
      split
      · exact Or.inr rfl
      · exact Or.inl rfl) n (by omega)
    have p2 : (sumN n (fun j => if bitB (cvJ V lc c j) k = true then (1 : Int32) else 0)).toInt * (lim V 0 k).toInt ≤ 384 * 255 := Int.mul_le_mul (by omega) hl.2 hl.1 (by decide)
    show 0 ≤ (sumN n (fun j => if bitB (cvJ V lc c j) k = true then ltJ V lc c k j else 0) + (if bitB (cvJ V lc c n) k = true then ltJ V lc c k n else 0)).toInt ∧ (sumN n (fun j => if bitB (cvJ V lc c j) k = true then ltJ V lc c k j else 0) + (if bitB (cvJ V lc c n) k = true then ltJ V lc c k n else 0)).toInt ≤ (sumN n (fun j => if bitB (cvJ V lc c j) k = true then (1 : Int32) else 0) + (if bitB (cvJ V lc c n) k = true then (1 : Int32) else 0)).toInt * (lim V 0 k).toInt
    by_cases hb : bitB (cvJ V lc c n) k = true
    · rw [if_pos hb, if_pos hb]
      have l := lt_rg hM (show n < c * r by omega) hk hb
      rw [(bd_add (a := 97920) (b := 255) (by unfold bd; omega) (by unfold bd; omega) (by decide)).1]
      rw [(bd_add (x := sumN n (fun j => if bitB (cvJ V lc c j) k = true then (1 : Int32) else 0)) (y := 1) (a := 384) (b := 1) (by unfold bd; omega) (by unfold bd; decide) (by decide)).1, show (1 : Int32).toInt = 1 from rfl, Int.add_mul]
      omega
    · rw [if_neg hb, if_neg hb, Int32.add_zero, Int32.add_zero]; exact ih
theorem ld_rg {V μ : Mm} {c r lc k : Nat} (hM : MI V c r lc μ) (hk : k < 8) : 0 ≤ (ldJ V lc c r k).toInt ∧ (ldJ V lc c r k).toInt ≤ 100 := by
  have hcr : c * r ≤ 384 := cr_le hM.1.1.2.2.2.2.1 hM.1.1.2.2.2.2.2.2.1
  have hl := lim_rg hM.1 hk
  have p := plc_bd (V := V) (lc := lc) (k := k) hcr
  have s : 0 ≤ (slJ V lc c r k).toInt ∧ (slJ V lc c r k).toInt ≤ (plcJ V lc c r k).toInt * (lim V 0 k).toInt := sl_le hM hk (c * r) (Nat.le_refl _)
  have p2 : (plcJ V lc c r k).toInt * (lim V 0 k).toInt ≤ 384 * 255 := Int.mul_le_mul (by omega) hl.2 hl.1 (by decide)
  have e := (bd_mul (x := plcJ V lc c r k) (y := lim V 0 k) (a := 384) (b := 255) (by unfold bd; omega) (by unfold bd; omega) (by decide)).1
  have e2 := (bd_mul (x := 100) (y := slJ V lc c r k) (a := 100) (b := 97920) (by unfold bd; decide) (by unfold bd; omega) (by decide)).1
  rw [ld_eq hM.1 hk]
  by_cases q : plcJ V lc c r k * lim V 0 k = 0
  · rw [if_pos q]; decide
  · rw [if_neg q]
    rw [← e] at s p2
    have z : (plcJ V lc c r k * lim V 0 k).toInt ≠ 0 := fun h => q (Int32.toInt_inj.mp h)
    rw [show (100 : Int32).toInt = 100 from rfl] at e2
    generalize plcJ V lc c r k * lim V 0 k = P at *
    have a : 0 ≤ 100 * (slJ V lc c r k).toInt / P.toInt := Int.ediv_nonneg (by omega) (by omega)
    have b : 100 * (slJ V lc c r k).toInt / P.toInt ≤ 100 := Int.ediv_le_of_le_mul (by omega) (by omega)
    rw [Int32.toInt_div, e2, Int.tdiv_eq_ediv_of_nonneg (by omega), Int.bmod_eq_of_le (by omega) (by omega)]
    exact ⟨a, b⟩
/-! burning -/
theorem wear_rg {x h l : Int32} (hx : rgI x 0 900) (hh : rgI h 1 9999) (hl : 0 ≤ l.toInt ∧ l.toInt ≤ 100) : rgI (if x + h * l / 100 < 900 then x + h * l / 100 else 900) 0 900 := by
  have x1 := Int32.le_iff_toInt_le.mp hx.1
  have x2 := Int32.le_iff_toInt_le.mp hx.2
  have h1 := Int32.le_iff_toInt_le.mp hh.1
  have h2 := Int32.le_iff_toInt_le.mp hh.2
  rw [show (0 : Int32).toInt = 0 from rfl] at x1
  rw [show (900 : Int32).toInt = 900 from rfl] at x2
  rw [show (1 : Int32).toInt = 1 from rfl] at h1
  rw [show (9999 : Int32).toInt = 9999 from rfl] at h2
  have m := bd_mul (x := h) (y := l) (a := 9999) (b := 100) (by unfold bd; omega) (by unfold bd; omega) (by decide)
  have n0 : 0 ≤ h.toInt * l.toInt := Int.mul_nonneg (by omega) hl.1
  have n1 : h.toInt * l.toInt ≤ 9999 * 100 := Int.mul_le_mul h2 hl.2 hl.1 (by decide)
  rw [← m.1] at n0 n1
  have d : (h * l / 100).toInt = (h * l).toInt / 100 := by
    rw [Int32.toInt_div, show (100 : Int32).toInt = 100 from rfl, Int.tdiv_eq_ediv_of_nonneg n0, Int.bmod_eq_of_le (by omega) (by omega)]
  have a := bd_add (x := x) (y := h * l / 100) (a := 900) (b := 9999) (by unfold bd; omega) (by unfold bd; omega) (by decide)
  split
  · refine ⟨?_, Int32.le_of_lt ‹_›⟩
    rw [Int32.le_iff_toInt_le, a.1, Int32.toInt_zero]; omega
  · exact ⟨by decide, by decide⟩
