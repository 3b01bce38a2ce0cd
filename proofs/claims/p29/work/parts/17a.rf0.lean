def Rf0 (μ : Mm) (lc c r : Nat) (m : Mm) : Prop := sameRf μ m ∧ (m 0 6 = 0 → SVok m lc c r)
theorem Rf0_refl {μ : Mm} {c r lc la cn : Nat} (h : CIv μ c r lc la cn) : Rf0 μ lc c r μ := ⟨fun _ _ _ _ _ _ => rfl, h.2.2.2.2.2.2⟩
theorem sameRf_trans {a b d : Mm} (h : sameRf a b) (h2 : sameRf b d) : sameRf a d := fun p q h3 h4 h5 h6 => (h2 p q h3 h4 h5 h6).trans (h p q h3 h4 h5 h6)
theorem RfP_Rf0 {μ m : Mm} {lc c r : Nat} (h : RfP μ lc c r m) : Rf0 μ lc c r m := ⟨h.2.2, fun _ => h.1⟩
theorem Rf0_RfP {μ m m2 : Mm} {lc c r : Nat} (h : Rf0 μ lc c r m) (h2 : RfP m lc c r m2) : RfP μ lc c r m2 := ⟨h2.1, h2.2.1, sameRf_trans h.1 h2.2.2⟩
theorem Rf0_s {μ m : Mm} {lc c r : Nat} (h : Rf0 μ lc c r m) (q : Nat) (hq : q < 6) : m 0 q = μ 0 q := h.1 0 q (by omega) (by omega) (by omega) (by omega)
theorem Rf0_r {μ m : Mm} {lc c r : Nat} (h : Rf0 μ lc c r m) (p q : Nat) (h1 : 1 ≤ p) (hp : p < 75) : m p q = μ p q := h.1 p q (by omega) (by omega) (by omega) (by omega)
theorem CIv_rf {μ m : Mm} {c r lc la cn : Nat} (h : CIv μ c r lc la cn) (hm : Rf0 μ lc c r m) : CIv m c r lc la cn := by
  obtain ⟨hc, hr, hlc, hla, hcn, hg, hv⟩ := h
  exact ⟨(Rf0_s hm 0 (by omega)).trans hc, (Rf0_s hm 1 (by omega)).trans hr, (Rf0_s hm 5 (by omega)).trans hlc, (hm.1 107 1 (by omega) (by omega) (by omega) (by omega)).trans hla, (hm.1 107 2 (by omega) (by omega) (by omega) (by omega)).trans hcn, hg, hm.2⟩
section RFJ
variable {μ m : Mm} {lc c r : Nat}
theorem zzS_rf (h : sameRf μ m) : zzS m lc = zzS μ lc := by unfold zzS; rw [shi_sc (scE_rf h)]
theorem s23_rf (h : sameRf μ m) : m 0 2 = μ 0 2 ∧ m 0 3 = μ 0 3 := ⟨h 0 2 (by omega) (by omega) (by omega) (by omega), h 0 3 (by omega) (by omega) (by omega) (by omega)⟩
theorem cvJ_rf (h : sameRf μ m) : cvJ m lc c = cvJ μ lc c := by funext j; unfold cvJ; rw [zzS_rf h, (s23_rf h).1, (s23_rf h).2, cvP_sc (scE_rf h)]
theorem brJ_rf (h : sameRf μ m) : brJ m lc c = brJ μ lc c := by funext j; unfold brJ; rw [zzS_rf h, (s23_rf h).1, (s23_rf h).2, brP_sc (scE_rf h)]
theorem stJ_rf (h : sameRf μ m) : stJ m lc c = stJ μ lc c := by funext j; unfold stJ; rw [zzS_rf h, (s23_rf h).1, (s23_rf h).2, stP_sc (scE_rf h)]
theorem ltJ_rf (h : sameRf μ m) {k : Nat} : ltJ m lc c k = ltJ μ lc c k := by funext j; unfold ltJ; rw [zzS_rf h, (s23_rf h).1, (s23_rf h).2, ltP_sc (scE_rf h)]
theorem row_rf (h : sameRf μ m) (p : Nat) (h1 : 1 ≤ p) (hp : p < 75) : m p = μ p := funext fun q => h p q (by omega) (by omega) (by omega) (by omega)
theorem mxlJ_rf (h : sameRf μ m) {k : Nat} : mxlJ m lc c k = mxlJ μ lc c k := by
  funext n
  induction n with
  | zero => rfl
  | succ n ih => simp only [mxlJ, ih, cvJ_rf h, ltJ_rf h]
theorem lvV_rf (h : sameRf μ m) {k w : Nat} : lvV m lc c r k w = lvV μ lc c r k w := by
  have e1 : lim m 0 k = lim μ 0 k := lim_sc (scE_rf h)
  unfold lvV
  split
  · rw [row_rf h 9 (by decide) (by decide)]
  · rw [row_rf h 10 (by decide) (by decide)]
  · rw [row_rf h 11 (by decide) (by decide)]
  · unfold wkB; rw [show m (0 + 12) k = μ (0 + 12) k from congrFun (row_rf h 12 (by decide) (by decide)) k]
  · exact e1
  · exact flo_sc (scE_rf h)
  · rw [good_sc (scE_rf h)]
  · unfold plcJ; rw [cvJ_rf h]
  · unfold slJ; rw [cvJ_rf h, ltJ_rf h]
  · unfold ldJ plcJ slJ; rw [cvJ_rf h, ltJ_rf h, e1]
  · rw [mxlJ_rf h]
  · unfold onlJ; rw [cvJ_rf h]
theorem whV_rf (h : sameRf μ m) {tl : Int32} {w : Nat} : whV m lc c r tl w = whV μ lc c r tl w := by
  have e : ∀ q, q < 6 → m 0 q = μ 0 q := fun q hq => h 0 q (by omega) (by omega) (by omega) (by omega)
  unfold whV
  split
  · exact e 0 (by decide)
  · exact e 1 (by decide)
  · exact e 2 (by decide)
  · exact e 3 (by decide)
  · exact e 5 (by decide)
  · rw [row_rf h 12 (by decide) (by decide)]
  · unfold pstJ; rw [stJ_rf h]
  · unfold pstJ; rw [stJ_rf h]
  · unfold pstJ; rw [stJ_rf h]
  · unfold pstJ; rw [stJ_rf h]
  · rw [row_rf h 8 (by decide) (by decide)]
  · unfold sbJ; rw [brJ_rf h]
  · exact e 4 (by decide)
  · unfold sevJ; rw [cvJ_rf h]
  · rfl
theorem plV_rf (h : sameRf μ m) {x y w : Nat} : plV m lc c x y w = plV μ lc c x y w := by
  have e1 : lim m 0 = lim μ 0 := funext fun k => lim_sc (scE_rf h)
  have e2 : flo m 0 = flo μ 0 := funext fun k => flo_sc (scE_rf h)
  unfold plV
  split
  · rw [row_rf h 8 (by decide) (by decide)]
  · rw [zzS_rf h, (s23_rf h).1, (s23_rf h).2, brP_sc (scE_rf h)]
  · rw [zzS_rf h, (s23_rf h).1, (s23_rf h).2, stP_sc (scE_rf h)]
  · rw [zzS_rf h, (s23_rf h).1, (s23_rf h).2, cvP_sc (scE_rf h)]
  · unfold smL; rw [zzS_rf h, (s23_rf h).1, (s23_rf h).2, cvP_sc (scE_rf h), e1]
  · unfold smF; rw [zzS_rf h, (s23_rf h).1, (s23_rf h).2, cvP_sc (scE_rf h), e2]
end RFJ
def gC (μ : Mm) (k i : Nat) : Int32 := if i % 2 = 0 then μ 13 (4 * k + i / 2) else μ 14 (4 * k + i / 2)
theorem gC_e (μ : Mm) (k i : Nat) : gC μ k (2 * i) = μ 13 (4 * k + i) := by
  unfold gC; rw [if_pos (by omega), show 2 * i / 2 = i by omega]
theorem gC_o (μ : Mm) (k i : Nat) : gC μ k (2 * i + 1) = μ 14 (4 * k + i) := by
  unfold gC; rw [if_neg (by omega), show (2 * i + 1) / 2 = i by omega]
theorem hF2 {h : Int64} {μ : Mm} {k i : Nat} : hF h (gC μ k) (2 * (i + 1)) = 31 * (31 * hF h (gC μ k) (2 * i) + (μ 13 (4 * k + i)).toInt64) + (μ 14 (4 * k + i)).toInt64 := by
  show 31 * (31 * hF h (gC μ k) (2 * i) + (gC μ k (2 * i)).toInt64) + (gC μ k (2 * i + 1)).toInt64 = _
  rw [gC_e, gC_o]
theorem c_gt {k i : Nat} {K : Int32} (hK : K = nI k) (hk : k < 2147483648) (hi : i < 2147483648) (c : K < nI i) : k < i := by
  subst hK; exact (nI_ltI hk hi).mp c
theorem c_ngt {k i : Nat} {K : Int32} (hK : K = nI k) (hi : i < 2147483648) (c : ¬ K < nI i) : i ≤ k := by
  subst hK; exact Nat.le_of_not_lt fun q => c (nI_lt q hi)
theorem Rf0_trans {μ m m2 : Mm} {lc c r : Nat} (h : Rf0 μ lc c r m) (h2 : Rf0 m lc c r m2) : Rf0 μ lc c r m2 := ⟨sameRf_trans h.1 h2.1, h2.2⟩
theorem ix_of {c r j : Nat} (h : j < c * r) : j % c < c ∧ j / c < r ∧ j / c * c + j % c = j := by
  have hc : 0 < c := by
    rcases Nat.eq_zero_or_pos c with q | q
    · subst q; omega
    · exact q
  exact ⟨Nat.mod_lt j hc, (Nat.div_lt_iff_lt_mul hc).mpr (by rw [Nat.mul_comm r c]; exact h), by rw [Nat.mul_comm]; exact Nat.div_add_mod j c⟩
theorem dgL_rf {μ m : Mm} {lc c r k : Nat} {h : Int64} (hm : sameRf μ m) : dgLs μ lc c r h (k + 1) = hF (hF (dgLs μ lc c r h k) (lvV m lc c r k) 12) (gC m k) 8 := by
  have e1 : lvV m lc c r k = lvV μ lc c r k := funext fun w => lvV_rf hm
  have e2 : gC m k = gC μ k := by funext i; unfold gC; rw [row_rf hm 13 (by decide) (by decide), row_rf hm 14 (by decide) (by decide)]
  rw [e1, e2]
  rfl
theorem dgP_rf {μ m : Mm} {lc c j : Nat} {h : Int64} (hm : sameRf μ m) : dgPs μ lc c h (j + 1) = dgP m lc c (j % c) (j / c) (dgPs μ lc c h j) := by
  have e1 : plV m lc c (j % c) (j / c) = plV μ lc c (j % c) (j / c) := funext fun w => plV_rf hm
  show dgP μ lc c (j % c) (j / c) (dgPs μ lc c h j) = _
  unfold dgP
  rw [e1, zzS_rf hm, (s23_rf hm).1, (s23_rf hm).2, cvP_sc (scE_rf hm), show ltP m 0 (zzS μ lc) (μ 0 2) (μ 0 3) c (j % c) (j / c) = ltP μ 0 (zzS μ lc) (μ 0 2) (μ 0 3) c (j % c) (j / c) from funext fun k => ltP_sc (scE_rf hm)]
