/-! the model's sharing is the class's -/
def WB (w : Nat → Int32) (lc : Nat) : Prop := (∀ n, n < 8 → 0 ≤ w n ∧ bd (w n) 60000) ∧ ∀ n, lc ≤ n → n < 8 → w n = 0
theorem sum0 {w : Nat → Int32} {lc : Nat} : ∀ N, lc ≤ N → (∀ k, lc ≤ k → k < N → w k = 0) → sumN N w = sumN lc w := by
  intro N
  induction N with
  | zero => intro h _; rw [show lc = 0 by omega]
  | succ N ih =>
    intro h hz
    rcases Nat.lt_or_ge N lc with q | q
    · rw [show lc = N + 1 by omega]
    · show sumN N w + w N = _
      rw [ih q (fun k h1 h2 => hz k h1 (by omega)), hz N q (by omega), Int32.add_zero]
theorem sum_bd {w : Nat → Int32} {lc : Nat} (hw : WB w lc) : ∀ n, n ≤ 8 → bd (sumN n w) (60000 * n) ∧ 0 ≤ (sumN n w).toInt ∧ ∀ k, k < n → 0 < w k → 0 < (sumN n w).toInt := by
  intro n
  induction n with
  | zero => intro _; exact ⟨by show (0 : Int32).toInt.natAbs ≤ 0; decide, by show 0 ≤ (0 : Int32).toInt; decide, fun k hk => absurd hk (Nat.not_lt_zero k)⟩
  | succ n ih =>
    intro hn
    obtain ⟨h1, h2, h3⟩ := ih (by omega)
    have a := bd_add h1 (hw.1 n (by omega)).2 (by omega)
    have b := Int32.le_iff_toInt_le.mp (hw.1 n (by omega)).1
    rw [Int32.toInt_zero] at b
    have e : (sumN (n + 1) w).toInt = (sumN n w).toInt + (w n).toInt := a.1
    refine ⟨bd_mono a.2 (by omega), by rw [e]; omega, fun k hk h0 => ?_⟩
    rw [e]
    rcases Nat.lt_succ_iff_lt_or_eq.mp hk with q | rfl
    · have := h3 k q h0; omega
    · have := Int32.lt_iff_toInt_lt.mp h0
      rw [Int32.toInt_zero] at this
      omega
theorem sum_nz {w : Nat → Int32} {lc n k : Nat} (hw : WB w lc) (hn : n ≤ 8) (hk : k < n) (h0 : 0 < w k) : ¬ sumN n w = 0 := fun z => by
  have := (sum_bd hw n hn).2.2 k hk h0
  rw [z, Int32.toInt_zero] at this
  omega
theorem hv_mo {w : Nat → Int32} {lc : Nat} (hw : WB w lc) : ∀ n, n ≤ 8 → (moN w n < 0 ∧ hvN w n = 0 ∧ ∀ k, k < n → w k = 0) ∨ (¬ moN w n < 0 ∧ hvN w n = tn (moN w n) ∧ 0 < w (hvN w n)) := by
  intro n
  induction n with
  | zero => intro _; exact Or.inl ⟨by show (-1 : Int32) < 0; decide, rfl, fun k hk => absurd hk (Nat.not_lt_zero k)⟩
  | succ n ih =>
    intro hn
    have hpos : ¬ nI n < 0 := nI_pos (by omega)
    have htn : tn (nI n) = n := nI_clamp (by omega)
    rcases ih (by omega) with ⟨h1, h2, h3⟩ | ⟨h1, h2, h3⟩
    · by_cases h0 : 0 < w n
      · have e : moN w (n + 1) = nI n := if_pos ⟨h0, Or.inl h1⟩
        have f : hvN w (n + 1) = n := by
          show (if w n ≤ w (hvN w n) then hvN w n else n) = n
          rw [h2]
          rcases Nat.eq_zero_or_pos n with q | q
          · subst q; exact if_pos (Int32.le_refl _)
          · rw [h3 0 q]; exact if_neg (Int32.not_le.mpr h0)
        exact Or.inr ⟨by rw [e]; exact hpos, by rw [f, e, htn], by rw [f]; exact h0⟩
      · have hz : w n = 0 := Int32.le_antisymm (Int32.not_lt.mp h0) (hw.1 n (by omega)).1
        have e : moN w (n + 1) = moN w n := if_neg (fun z => h0 z.1)
        have f : hvN w (n + 1) = 0 := by
          show (if w n ≤ w (hvN w n) then hvN w n else n) = 0
          rw [h2, hz]
          exact if_pos (hw.1 0 (by decide)).1
        refine Or.inl ⟨by rw [e]; exact h1, f, fun k hk => ?_⟩
        rcases Nat.lt_succ_iff_lt_or_eq.mp hk with q | rfl
        · exact h3 k q
        · exact hz
    · by_cases hle : w n ≤ w (hvN w n)
      · have e : moN w (n + 1) = moN w n := if_neg (fun z => z.2.elim h1 (fun q => Int32.not_lt.mpr hle (by rw [h2]; exact q)))
        have f : hvN w (n + 1) = hvN w n := if_pos hle
        exact Or.inr ⟨by rw [e]; exact h1, by rw [f, e, h2], by rw [f]; exact h3⟩
      · have hlt := Int32.not_le.mp hle
        have e : moN w (n + 1) = nI n := if_pos ⟨Int32.lt_trans h3 hlt, Or.inr (by rw [← h2]; exact hlt)⟩
        have f : hvN w (n + 1) = n := if_neg hle
        exact Or.inr ⟨by rw [e]; exact hpos, by rw [f, e, htn], by rw [f]; exact Int32.lt_trans h3 hlt⟩
theorem hv_8 {w : Nat → Int32} {lc : Nat} (hw : WB w lc) : ∀ N, lc ≤ N → N ≤ 8 → hvN w N = hvN w lc := by
  intro N
  induction N with
  | zero => intro h _; rw [show lc = 0 by omega]
  | succ N ih =>
    intro h h8
    rcases Nat.lt_or_ge N lc with q | q
    · rw [show lc = N + 1 by omega]
    · rw [← ih q (by omega)]
      have hb : hvN w N < 8 := by rcases hvN_lt w N with z | z <;> omega
      exact if_pos (by rw [hw.2 N q (by omega)]; exact (hw.1 _ hb).1)
theorem mis0 {t : Int32} {f : Nat → Int32} {lc : Nat} : ∀ N, lc ≤ N → (∀ k, lc ≤ k → k < N → f k = 0) → misN t f N = misN t f lc := by
  intro N
  induction N with
  | zero => intro h _; rw [show lc = 0 by omega]
  | succ N ih =>
    intro h hz
    rcases Nat.lt_or_ge N lc with q | q
    · rw [show lc = N + 1 by omega]
    · show misN t f N - f N = _
      rw [ih q (fun k h1 h2 => hz k h1 (by omega)), hz N q (by omega), Int32.sub_zero]
theorem mo_congr {a b : Nat → Int32} : ∀ n, n ≤ 8 → (∀ k, k < n → a k = b k) → moN a n = moN b n := by
  intro n
  induction n with
  | zero => intro _ _; rfl
  | succ n ih =>
    intro hn h
    have ih := ih (by omega) (fun k hk => h k (by omega))
    rw [moN, moN, ← ih, h n (by omega)]
    by_cases hm : moN a n < 0
    · simp only [hm, true_or]
    · obtain ⟨k, hk, e, -⟩ := mo_nat hm
      have q : tn (moN a n) = k := by rw [e]; exact nI_clamp (by omega)
      rw [q, h k (by omega)]
theorem shV0 {w : Nat → Int32} {t : Int32} {n : Nat} (h : w n = 0) : shV w t n = 0 := by
  show t * w n / sumN 8 w = 0
  rw [h, Int32.mul_zero, Int32.zero_div]
/-- the lights behind the model's sharing -/
theorem shr_l1 {μ : Mm} {w : Nat → Int32} {lc : Nat} {t : Int32} (h8 : lc ≤ 8) (hw : WB w lc) (h5 : ∀ n, n < lc → μ 5 n = w n) : ∀ n, n < lc → shrM μ lc t 6 n = l1V w t n := by
  intro n hn
  have eS : sumN lc (μ 5) = sumN 8 w := (sumN_congr h5).trans (sum0 8 h8 hw.2).symm
  have em : moN (μ 5) lc = moN w lc := mo_congr lc h8 h5
  have eL : ∀ k, k < lc → shL (μ 5) lc t k = shV w t k := fun k hk => by
    unfold shL
    rw [h5 k hk, eS]
    by_cases h0 : 0 < w k
    · rw [if_pos h0]; rfl
    · rw [if_neg h0, shV0 (Int32.le_antisymm (Int32.not_lt.mp h0) (hw.1 k (by omega)).1)]
  have eM : misN t (shL (μ 5) lc t) lc = misN t (shV w t) 8 := (misN_congr eL).trans (mis0 8 h8 (fun k h1 h2 => shV0 (hw.2 k h1 h2))).symm
  rcases hv_mo hw lc h8 with ⟨m1, m2, m3⟩ | ⟨m1, m2, m3⟩
  · have z : sumN 8 w = 0 := by
      rw [sum0 8 h8 hw.2]
      have : ∀ N, N ≤ lc → sumN N w = 0 := by
        intro N
        induction N with
        | zero => intro _; rfl
        | succ N ih => intro hN; show sumN N w + w N = 0; rw [ih (by omega), m3 N (by omega)]; rfl
      exact this lc (Nat.le_refl _)
    unfold shrM
    rw [em, if_pos m1]
    show (if (6 : Nat) = 6 ∧ n < lc then shL (μ 5) lc t n else μ 6 n) = _
    rw [if_pos ⟨rfl, hn⟩, eL n hn, shV0 (m3 n hn)]
    unfold l1V
    rw [z, if_pos (by decide)]
  · have ek : moN w lc = nI (hvN w lc) ∧ hvN w lc < lc := by
      obtain ⟨k, hk, e, -⟩ := mo_nat m1
      have q : hvN w lc = k := by rw [m2, e]; exact nI_clamp (by omega)
      rw [q]; exact ⟨e, hk⟩
    have hv : hvN w 8 = hvN w lc := hv_8 hw 8 h8 (by decide)
    have hs : ¬ sumN 8 w ≤ 0 := by
      have := (sum_bd hw 8 (by decide)).2.2 (hvN w lc) (by omega) m3
      intro z
      have := Int32.le_iff_toInt_le.mp z
      rw [Int32.toInt_zero] at this
      omega
    have et : tn (moN w lc) = hvN w lc := m2.symm
    unfold shrM l1V
    rw [em, if_neg m1, if_neg hs, et, hv, eM, eL _ ek.2]
    by_cases hn2 : n = hvN w lc
    · subst hn2
      rw [uM_s, if_pos rfl]
    · rw [uM_n (fun z => hn2 z.2), if_neg hn2]
      show (if (6 : Nat) = 6 ∧ n < lc then shL (μ 5) lc t n else μ 6 n) = _
      rw [if_pos ⟨rfl, hn⟩, eL n hn]
theorem ht_bd {s : Nat} {V : Mm} {f : Nat → Int32} {c r lc k i : Nat} {px py : Int32} (hR : REP s V f c r lc) (hk : k < 8) (hi : i < 4) (hx : bd px 70) (hy : bd py 70) : bd (htS V s k px py i) 48000 := by
  have e : i % 4 = i := by omega
  have x0 := cx_bd (j := i) hR hk
  have y0 := cy_bd (j := i) hR hk
  rw [e] at x0 y0
  have x1 := cx_bd (j := i + 1) hR hk
  have y1 := cy_bd (j := i + 1) hR hk
  have two : bd 2 2 := by unfold bd; decide
  have wx : bd (wayX V s k i) 160 := (bd_mul two (bd_sub x1 x0 (by decide)).2 (by decide)).2
  have wy : bd (wayY V s k i) 160 := (bd_mul two (bd_sub y1 y0 (by decide)).2 (by decide)).2
  have a := (bd_sub hy (bd_mul two y0 (by decide)).2 (by decide)).2
  have b := (bd_sub hx (bd_mul two x0 (by decide)).2 (by decide)).2
  exact bd_mono (bd_sub (bd_mul wx a (by decide)).2 (bd_mul wy b (by decide)).2 (by decide)).2 (by decide)
theorem near_bd {s : Nat} {V : Mm} {f : Nat → Int32} {c r lc k : Nat} {px py : Int32} (hR : REP s V f c r lc) (hk : k < 8) (hx : bd px 70) (hy : bd py 70) : ∀ n, n ≤ 4 → (∀ i, i < n → 0 ≤ htS V s k px py i) → bd (nearS V s k px py n) 48000 ∧ -1 ≤ (nearS V s k px py n).toInt := by
  intro n
  induction n with
  | zero => intro _ _; exact ⟨by show (-1 : Int32).toInt.natAbs ≤ 48000; decide, by show -1 ≤ (-1 : Int32).toInt; decide⟩
  | succ n ih =>
    intro hn h
    have ih := ih (by omega) (fun i hi => h i (by omega))
    by_cases hl : lenS V s k n ≤ 0
    · rw [nearS, if_pos hl]; exact ih
    · have hh := h n (by omega)
      have d := div_nn hh (Int32.not_le.mp hl)
      have hb := ht_bd (i := n) hR hk (by omega) hx hy
      have d0 := Int32.le_iff_toInt_le.mp d.1
      rw [Int32.toInt_zero] at d0
      have d2 : bd (htS V s k px py n / lenS V s k n) 48000 ∧ -1 ≤ (htS V s k px py n / lenS V s k n).toInt := by
        unfold bd at hb ⊢
        have := d.2
        omega
      rw [nearS, if_neg hl]
      by_cases h1 : 0 ≤ nearS V s k px py n
      · rw [if_pos h1]
        by_cases h2 : htS V s k px py n / lenS V s k n < nearS V s k px py n
        · rw [if_pos h2]; exact d2
        · rw [if_neg h2]; exact ih
      · rw [if_neg h1]; exact d2
theorem wgt_b {s : Nat} {V : Mm} {f : Nat → Int32} {c r lc k : Nat} {px py : Int32} (hR : REP s V f c r lc) (hk : k < 8) (hx : bd px 70) (hy : bd py 70) : 0 ≤ wgt V s k px py ∧ bd (wgt V s k px py) 60000 := by
  unfold wgt
  by_cases h : allN 4 (fun i => decide (0 ≤ htS V s k px py i)) = true
  · rw [if_pos h]
    have n := near_bd hR hk hx hy 4 (by decide) (fun i hi => of_decide_eq_true (allN_iff.mp h i hi))
    have a := bd_add (x := 1) (a := 1) (by unfold bd; decide) n.1 (by decide)
    refine ⟨?_, bd_mono a.2 (by decide)⟩
    rw [Int32.le_iff_toInt_le, Int32.toInt_zero, a.1, show (1 : Int32).toInt = 1 from rfl]
    omega
  · rw [if_neg h]; exact ⟨Int32.le_refl 0, by unfold bd; decide⟩
/-- the point of a place lies near -/
theorem pt_bd {x : Nat} {sx : Int32} (hx : x < 24) (hs : bd sx 10) : bd (2 * (nI x + sx) + 1) 70 := by
  have a : bd (nI x) 23 := by
    unfold bd
    rw [nI_toInt (by omega)]
    omega
  exact bd_mono (bd_add (bd_mul (x := 2) (a := 2) (by unfold bd; decide) (bd_add a hs (by decide)).2 (by decide)).2 (y := 1) (b := 1) (by unfold bd; decide) (by decide)).2 (by decide)
theorem WB_pl {s : Nat} {V : Mm} {f : Nat → Int32} {c r lc x y : Nat} {w0 z sx sy : Int32} (hR : REP s V f c r lc) (hz : HZ s V lc w0 z) (hx : x < 24) (hy : y < 16) (hsx : bd sx 10) (hsy : bd sy 10) : WB (plW V s z (2 * (nI x + sx) + 1) (2 * (nI y + sy) + 1)) lc := by
  refine ⟨fun n hn => ?_, fun n h1 h2 => if_neg (fun q => absurd ((hz n h2).mp q).1 (by omega))⟩
  unfold plW
  by_cases h : bitB z n = true
  · rw [if_pos h]; exact wgt_b hR hn (pt_bd hx hsx) (pt_bd (by omega) hsy)
  · rw [if_neg h]; exact ⟨Int32.le_refl 0, by unfold bd; decide⟩
