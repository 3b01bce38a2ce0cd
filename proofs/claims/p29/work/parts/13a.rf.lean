def RFI (μ : Mm) (lc c : Nat) (m : Mm) (n : Nat) : Prop := m 93 5 = nI n ∧ SV μ (orN lc (shiB μ 0)) c m n ∧ PR μ 75 0 (orN lc (shiB μ 0)) m ∧ sameRf μ m
theorem RFI_0 (μ : Mm) (lc c : Nat) : RFI μ lc c (uM (prepM μ 75 0 (orN lc (shiB μ 0)) 8) 93 5 0) 0 := by
  have hp := PR_prep μ (d := 75) (s := 0) (Or.inl rfl) (Or.inl rfl) (orN lc (shiB μ 0))
  have hso := prepM_so μ 75 0 (orN lc (shiB μ 0)) 8
  refine ⟨by rw [uM_s]; rfl, fun y x _ h => absurd h (Nat.not_lt_zero _), ⟨?_, fun k hk => ⟨?_, ?_⟩, fun j q h8 hj => ?_⟩, fun p q h1 h2 h3 h4 => ?_⟩
  · rw [uM_n (by omega)]; exact hp.1
  · rw [uM_n (by omega)]; exact (hp.2.1 k hk).1
  · rw [uM_n (by omega)]; exact (hp.2.1 k hk).2
  · rw [uM_n (by omega)]; exact hp.2.2 j q h8 hj
  · rw [uM_n (by omega)]; exact hso p q (by omega)
theorem RFI_step {μ m : Mm} {lc c x y : Nat} {sx sy : Int32} (h2 : sx = μ 0 2) (h3 : sy = μ 0 3) (hx : x < c) (hlt : y * c + x < 384) (h : RFI μ lc c m (y * c + x)) :
    RFI μ lc c (kpM (dimF m 75 0 (2 * (nI x + sx) + 1) (2 * (nI y + sy) + 1) (μ 8 (y * c + x))) (y * c + x)) (y * c + (x + 1)) := by
  obtain ⟨h5, hS, hP, hR⟩ := h
  have hv := dimF_val (d := 75) (s := 0) (Or.inl rfl) (Or.inl rfl) hP (2 * (nI x + sx) + 1) (2 * (nI y + sy) + 1) (μ 8 (y * c + x))
  have hso := dimF_so m 75 0 (2 * (nI x + sx) + 1) (2 * (nI y + sy) + 1) (μ 8 (y * c + x))
  generalize dimF m 75 0 (2 * (nI x + sx) + 1) (2 * (nI y + sy) + 1) (μ 8 (y * c + x)) = m2 at hv hso ⊢
  obtain ⟨v5, v6, v7, v8, vP⟩ := hv
  subst h2 h3
  refine ⟨?_, SV_keep hx hlt hS hso v5 ?_ ?_ v8, ⟨?_, fun k hk => ⟨?_, ?_⟩, fun j q h8 hj => ?_⟩, fun p q g1 g2 g3 g4 => ?_⟩
  · unfold kpM; rw [uM_s]; rfl
  · unfold brP; rw [show μ (0 + 8) (y * c + x) = μ 8 (y * c + x) from rfl]; exact v6
  · unfold stP; rw [show μ (0 + 8) (y * c + x) = μ 8 (y * c + x) from rfl]; exact v7
  · unfold kpM; rw [uM_n (by omega), klN_out (by omega)]; exact vP.1
  · unfold kpM; rw [uM_n (by omega), klN_out (by omega)]; exact (vP.2.1 k hk).1
  · unfold kpM; rw [uM_n (by omega), klN_out (by omega)]; exact (vP.2.1 k hk).2
  · unfold kpM; rw [uM_n (by omega), klN_out (by omega)]; exact vP.2.2 j q h8 hj
  · unfold kpM; rw [uM_n (by omega), klN_out (by omega), hso p q (by omega)]; exact hR p q g1 g2 g3 g4
theorem SVok_of {μ m : Mm} {lc c r : Nat} (h : sameRf μ m) (h5 : m 93 5 = nI (c * r)) (hS : SV μ (orN lc (shiB μ 0)) c m (c * r)) : SVok m lc c r := by
  have hsc := scE_rf h
  have e2 : m 0 2 = μ 0 2 := h 0 2 (by omega) (by omega) (by omega) (by omega)
  have e3 : m 0 3 = μ 0 3 := h 0 3 (by omega) (by omega) (by omega) (by omega)
  refine ⟨h5, fun y x hx hl => ?_⟩
  obtain ⟨g1, g2, g3, g4⟩ := hS y x hx hl
  rw [shi_sc hsc, e2, e3, cvP_sc hsc, brP_sc hsc, stP_sc hsc]
  refine ⟨g1, g2, g3, fun k hk => ?_⟩
  rw [ltP_sc hsc]; exact g4 k hk
theorem RF_end {μ m : Mm} {lc c r : Nat} (h : RFI μ lc c m (r * c)) : SVok (uM m 0 6 0) lc c r ∧ uM m 0 6 0 0 6 = 0 ∧ sameRf μ (uM m 0 6 0) := by
  obtain ⟨h5, hS, -, hR⟩ := h
  have hs : sameRf μ (uM m 0 6 0) := fun p q g1 g2 g3 g4 => by rw [uM_n (by omega)]; exact hR p q g1 g2 g3 g4
  refine ⟨SVok_of hs ?_ fun y x hx hl => ?_, uM_s _ _ _ _, hs⟩
  · rw [uM_n (by omega), Nat.mul_comm c r]; exact h5
  · have hl2 : y * c + x < r * c := by rw [Nat.mul_comm r c]; exact hl
    rw [uM_n (by omega), uM_n (by omega), uM_n (by omega)]
    obtain ⟨g1, g2, g3, g4⟩ := hS y x hx hl2
    exact ⟨g1, g2, g3, fun k hk => by rw [uM_n (by omega)]; exact g4 k hk⟩
