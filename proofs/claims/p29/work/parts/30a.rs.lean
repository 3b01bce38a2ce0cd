/-! p29: two memories that show the same scene, cell by cell within the ranges -/
def lnR (j : Nat) : Nat := if j = 0 then 384 else if j < 5 then 8 else 32
def RS (s t : Nat) (V W : Mm) : Prop := (∀ q, q < 6 → V s q = W t q) ∧ ∀ j q, j < 7 → q < lnR j → V (s + 8 + j) q = W (t + 8 + j) q
theorem RS.refl {s : Nat} {V : Mm} : RS s s V V := ⟨fun _ _ => rfl, fun _ _ _ _ => rfl⟩
theorem RS.symm {s t : Nat} {V W : Mm} (h : RS s t V W) : RS t s W V := ⟨fun q hq => (h.1 q hq).symm, fun j q hj hq => (h.2 j q hj hq).symm⟩
theorem RS.trans {s t u : Nat} {V W U : Mm} (h : RS s t V W) (h2 : RS t u W U) : RS s u V U := ⟨fun q hq => (h.1 q hq).trans (h2.1 q hq), fun j q hj hq => (h.2 j q hj hq).trans (h2.2 j q hj hq)⟩
theorem RS.keep {s t : Nat} {V W V2 : Mm} (h : RS s t V W) (hk : ∀ p q : Nat, s ≤ p → p < s + 15 → ¬ (p = s ∧ q = 6) → V2 p q = V p q) : RS s t V2 W :=
  ⟨fun q hq => (hk s q (Nat.le_refl _) (by omega) (by omega)).trans (h.1 q hq), fun j q hj hq => (hk _ q (by omega) (by omega) (by omega)).trans (h.2 j q hj hq)⟩
theorem cpB_at {μ : Mm} {s o j q : Nat} (hq : q < lnR j) : ∀ i, i ≤ 7 → j < i → cpB μ s o i (s + 8 + j) q = μ (o + 8 + j) q := by
  intro i
  induction i with
  | zero => intro _ h; omega
  | succ i ih =>
    intro h7 h
    show setRow (cpB μ s o i) (s + 8 + i) (lnR i) (μ (o + 8 + i)) (s + 8 + j) q = _
    by_cases e : j = i
    · subst e; exact setRow_in hq
    · rw [setRow_out (by omega)]; exact ih (by omega) (by omega)
theorem cpB_f {μ : Mm} {s o q : Nat} (hq : q < 6) : ∀ i, cpB μ s o i s q = μ o q := by
  intro i
  induction i with
  | zero =>
    show cpA μ s o s q = _
    unfold cpA
    rcases (show q = 0 ∨ q = 1 ∨ q = 2 ∨ q = 3 ∨ q = 4 ∨ q = 5 by omega) with rfl | rfl | rfl | rfl | rfl | rfl
    · rw [uM_n (by omega), uM_n (by omega), uM_n (by omega), uM_n (by omega), uM_n (by omega), uM_s]
    · rw [uM_n (by omega), uM_n (by omega), uM_n (by omega), uM_n (by omega), uM_s]
    · rw [uM_n (by omega), uM_n (by omega), uM_n (by omega), uM_s]
    · rw [uM_n (by omega), uM_n (by omega), uM_s]
    · rw [uM_n (by omega), uM_s]
    · rw [uM_s]
  | succ i ih =>
    show setRow (cpB μ s o i) (s + 8 + i) (lnR i) (μ (o + 8 + i)) s q = _
    rw [setRow_out (by omega)]; exact ih
theorem RS_cp (V : Mm) (s o : Nat) : RS s o (cpS V s o) V :=
  ⟨fun q hq => by unfold cpS; rw [uM_n (by omega)]; exact cpB_f hq 7, fun j q hj hq => by unfold cpS; rw [uM_n (by omega)]; exact cpB_at hq 7 (by decide) hj⟩
section RSC
variable {V W : Mm}
theorem rs_tg (h : RS 0 0 V W) {q : Nat} (hq : q < 384) : V (0 + 8) q = W (0 + 8) q := h.2 0 q (by decide) hq
theorem rs_gr (h : RS 0 0 V W) {q : Nat} (hq : q < 8) : V (0 + 9) q = W (0 + 9) q := h.2 1 q (by decide) hq
theorem rs_le (h : RS 0 0 V W) {q : Nat} (hq : q < 8) : V (0 + 10) q = W (0 + 10) q := h.2 2 q (by decide) hq
theorem rs_we (h : RS 0 0 V W) {q : Nat} (hq : q < 8) : V (0 + 11) q = W (0 + 11) q := h.2 3 q (by decide) hq
theorem rs_wk (h : RS 0 0 V W) {q : Nat} (hq : q < 8) : V (0 + 12) q = W (0 + 12) q := h.2 4 q (by decide) hq
theorem rs_cx (h : RS 0 0 V W) {k j : Nat} (hk : k < 8) (hj : j < 4) : V (0 + 13) (4 * k + j) = W (0 + 13) (4 * k + j) := h.2 5 _ (by decide) (by show _ < 32; omega)
theorem rs_cy (h : RS 0 0 V W) {k j : Nat} (hk : k < 8) (hj : j < 4) : V (0 + 14) (4 * k + j) = W (0 + 14) (4 * k + j) := h.2 6 _ (by decide) (by show _ < 32; omega)
theorem lim_c (h : RS 0 0 V W) {k : Nat} (hk : k < 8) : lim V 0 k = lim W 0 k := by unfold lim; rw [rs_gr h hk, rs_we h hk]
theorem flo_c (h : RS 0 0 V W) {k : Nat} (hk : k < 8) : flo V 0 k = flo W 0 k := by unfold flo; rw [lim_c h hk, rs_le h hk]
theorem lf_c (h : RS 0 0 V W) : ∀ k, k < 8 → lim V 0 k = lim W 0 k ∧ flo V 0 k = flo W 0 k := fun _ hk => ⟨lim_c h hk, flo_c h hk⟩
theorem m4lt (i : Nat) : i % 4 < 4 := Nat.mod_lt _ (by decide)
theorem turn_c (h : RS 0 0 V W) {k i : Nat} (hk : k < 8) (hi : i < 4) : turnS V 0 k i = turnS W 0 k i := by
  unfold turnS
  rw [rs_cx h hk (m4lt (i + 1)), rs_cx h hk hi, rs_cy h hk (m4lt (i + 2)), rs_cy h hk (m4lt (i + 1)), rs_cy h hk hi, rs_cx h hk (m4lt (i + 2))]
theorem area_c (h : RS 0 0 V W) {k : Nat} (hk : k < 8) : areaS V 0 k 4 = areaS W 0 k 4 := sumN_congr fun i hi => by
  rw [rs_cx h hk hi, rs_cy h hk (m4lt (i + 1)), rs_cy h hk hi, rs_cx h hk (m4lt (i + 1))]
theorem good_c (h : RS 0 0 V W) {k : Nat} (hk : k < 8) : goodB V 0 k = goodB W 0 k := by
  unfold goodB
  rw [area_c h hk, allN_congr fun i hi => by rw [turn_c h hk hi]]
theorem wk_c (h : RS 0 0 V W) {k : Nat} (hk : k < 8) : wkB V 0 k = wkB W 0 k := by unfold wkB; rw [rs_wk h hk]
theorem shi_c (h : RS 0 0 V W) {k : Nat} (hk : k < 8) : shiB V 0 k = shiB W 0 k := by unfold shiB; rw [wk_c h hk, good_c h hk]
theorem zz_c (h : RS 0 0 V W) {lc : Nat} (h8 : lc ≤ 8) : zzS V lc = zzS W lc := orN_congr fun k hk => shi_c h (by omega)
theorem ht_c (h : RS 0 0 V W) {k i : Nat} {px py : Int32} (hk : k < 8) (hi : i < 4) : htS V 0 k px py i = htS W 0 k px py i := by
  unfold htS wayX wayY
  rw [rs_cx h hk (m4lt (i + 1)), rs_cx h hk hi, rs_cy h hk (m4lt (i + 1)), rs_cy h hk hi]
theorem len_c (h : RS 0 0 V W) {k i : Nat} (hk : k < 8) (hi : i < 4) : lenS V 0 k i = lenS W 0 k i := by
  unfold lenS wayX wayY
  rw [rs_cx h hk (m4lt (i + 1)), rs_cx h hk hi, rs_cy h hk (m4lt (i + 1)), rs_cy h hk hi]
theorem near_c (h : RS 0 0 V W) {k : Nat} {px py : Int32} (hk : k < 8) : ∀ n, n ≤ 4 → nearS V 0 k px py n = nearS W 0 k px py n
  | 0, _ => rfl
  | n + 1, hn => by
    have ih := near_c h (px := px) (py := py) hk n (by omega)
    simp only [nearS]
    rw [ih, len_c h hk (show n < 4 by omega), ht_c h hk (show n < 4 by omega)]
theorem wgt_c (h : RS 0 0 V W) {k : Nat} {px py : Int32} (hk : k < 8) : wgt V 0 k px py = wgt W 0 k px py := by
  unfold wgt
  rw [near_c h hk 4 (Nat.le_refl _), allN_congr fun i hi => by rw [ht_c h hk hi]]
theorem plW_c (h : RS 0 0 V W) {z px py : Int32} {n : Nat} (hn : n < 8) : plW V 0 z px py n = plW W 0 z px py n := by unfold plW; rw [wgt_c h hn]
end RSC
section VC
variable {w w2 li li2 fl fl2 : Nat → Int32} {t : Int32}
theorem cov_c (h : ∀ k, k < 8 → w k = w2 k) : covV w 8 = covV w2 8 := orN_congr fun k hk => by rw [h k hk]
theorem shV_c (h : ∀ k, k < 8 → w k = w2 k) {n : Nat} (hn : n < 8) : shV w t n = shV w2 t n := by unfold shV; rw [h n hn, sumN_congr h]
theorem l1_c (h : ∀ k, k < 8 → w k = w2 k) {n : Nat} (hn : n < 8) : l1V w t n = l1V w2 t n := by
  unfold l1V
  rw [sumN_congr h, hvN_congr (N := 8) (by decide) (Nat.le_refl _) h, shV_c h hn, misN_congr fun k hk => shV_c h hk]
theorem l2_c (h : ∀ k, k < 8 → w k = w2 k) (hl : ∀ k, k < 8 → li k = li2 k ∧ fl k = fl2 k) {n : Nat} (hn : n < 8) : vL2 w li fl t n = vL2 w2 li2 fl2 t n := by
  unfold vL2 l2V
  rw [cov_c h, l1_c h hn, (hl n hn).1, (hl n hn).2]
theorem vM_c (h : ∀ k, k < 8 → w k = w2 k) (hl : ∀ k, k < 8 → li k = li2 k ∧ fl k = fl2 k) : vM w li fl t = vM w2 li2 fl2 t := misN_congr fun k hk => l2_c h hl hk
theorem vL_c (h : ∀ k, k < 8 → w k = w2 k) (hl : ∀ k, k < 8 → li k = li2 k ∧ fl k = fl2 k) {n : Nat} (hn : n < 8) : vL w li fl t n = vL w2 li2 fl2 t n := by
  unfold vL
  rw [cov_c h, vM_c h hl]
  exact nlV_congr (fun k hk _ => hl k (by omega)) (fun k hk => l2_c h hl (by omega))
theorem vB_c (h : ∀ k, k < 8 → w k = w2 k) (hl : ∀ k, k < 8 → li k = li2 k ∧ fl k = fl2 k) : vB w li fl t = vB w2 li2 fl2 t := by
  unfold vB
  rw [cov_c h, vM_c h hl, bmV_congr (fun k hk _ => hl k hk) (fun k hk => l2_c h hl hk)]
theorem vS_c (h : ∀ k, k < 8 → w k = w2 k) (hl : ∀ k, k < 8 → li k = li2 k ∧ fl k = fl2 k) : vS w li fl t = vS w2 li2 fl2 t := by
  unfold vS
  rw [vB_c h hl, cov_c h]
end VC
section RSD
variable {V W : Mm}
theorem cvP_c (h : RS 0 0 V W) {z sx sy : Int32} {x y : Nat} : cvP V 0 z sx sy x y = cvP W 0 z sx sy x y := cov_c fun _ hk => plW_c h hk
theorem stP_c (h : RS 0 0 V W) {z sx sy : Int32} {c x y : Nat} (hj : y * c + x < 384) : stP V 0 z sx sy c x y = stP W 0 z sx sy c x y := by
  unfold stP
  rw [rs_tg h hj]
  exact vS_c (fun _ hk => plW_c h hk) (lf_c h)
theorem brP_c (h : RS 0 0 V W) {z sx sy : Int32} {c x y : Nat} (hj : y * c + x < 384) : brP V 0 z sx sy c x y = brP W 0 z sx sy c x y := by
  unfold brP
  rw [rs_tg h hj]
  exact vB_c (fun _ hk => plW_c h hk) (lf_c h)
theorem ltP_c (h : RS 0 0 V W) {z sx sy : Int32} {c x y n : Nat} (hj : y * c + x < 384) (hn : n < 8) : ltP V 0 z sx sy c x y n = ltP W 0 z sx sy c x y n := by
  unfold ltP
  rw [rs_tg h hj]
  exact vL_c (fun _ hk => plW_c h hk) (lf_c h) hn
theorem cwN_c (h : RS 0 0 V W) {z sx sy : Int32} {c : Nat} (hc : c ≤ 24) : ∀ n, n ≤ 16 → cwN V 0 z sx sy c n = cwN W 0 z sx sy c n
  | 0, _ => rfl
  | n + 1, hn => by
    show cwN V 0 z sx sy c n + sumN c (fun x => if stP V 0 z sx sy c x n = 0 then 0 else 1) = cwN W 0 z sx sy c n + sumN c (fun x => if stP W 0 z sx sy c x n = 0 then 0 else 1)
    rw [cwN_c h hc n (by omega), sumN_congr fun x hx => by rw [stP_c h (ix_lt (show n < 16 by omega) hx hc)]]
theorem jj (c : Nat) {j : Nat} (hj : j < 384) : j / c * c + j % c < 384 := by rw [Nat.mul_comm, Nat.div_add_mod]; exact hj
variable {lc c r : Nat}
theorem cvJ_c (h : RS 0 0 V W) (h8 : lc ≤ 8) : cvJ V lc c = cvJ W lc c := by
  funext j
  unfold cvJ
  rw [zz_c h h8, h.1 2 (by decide), h.1 3 (by decide), cvP_c h]
theorem brJ_c (h : RS 0 0 V W) (h8 : lc ≤ 8) {j : Nat} (hj : j < 384) : brJ V lc c j = brJ W lc c j := by
  unfold brJ
  rw [zz_c h h8, h.1 2 (by decide), h.1 3 (by decide), brP_c h (jj c hj)]
theorem stJ_c (h : RS 0 0 V W) (h8 : lc ≤ 8) {j : Nat} (hj : j < 384) : stJ V lc c j = stJ W lc c j := by
  unfold stJ
  rw [zz_c h h8, h.1 2 (by decide), h.1 3 (by decide), stP_c h (jj c hj)]
theorem ltJ_c (h : RS 0 0 V W) (h8 : lc ≤ 8) {k j : Nat} (hj : j < 384) (hk : k < 8) : ltJ V lc c k j = ltJ W lc c k j := by
  unfold ltJ
  rw [zz_c h h8, h.1 2 (by decide), h.1 3 (by decide), ltP_c h (jj c hj) hk]
theorem plcJ_c (h : RS 0 0 V W) (h8 : lc ≤ 8) {k : Nat} : plcJ V lc c r k = plcJ W lc c r k := by unfold plcJ; rw [cvJ_c h h8]
theorem slJ_c (h : RS 0 0 V W) (h8 : lc ≤ 8) (hcr : c * r ≤ 384) {k : Nat} (hk : k < 8) : slJ V lc c r k = slJ W lc c r k := sumN_congr fun j hj => by rw [cvJ_c h h8, ltJ_c h h8 (by omega) hk]
theorem mxlJ_c (h : RS 0 0 V W) (h8 : lc ≤ 8) {k : Nat} (hk : k < 8) : ∀ n, n ≤ 384 → mxlJ V lc c k n = mxlJ W lc c k n
  | 0, _ => rfl
  | n + 1, hn => by simp only [mxlJ]; rw [mxlJ_c h h8 hk n (by omega), cvJ_c h h8, ltJ_c h h8 (show n < 384 by omega) hk]
theorem onlJ_c (h : RS 0 0 V W) (h8 : lc ≤ 8) {k : Nat} : onlJ V lc c r k = onlJ W lc c r k := by unfold onlJ; rw [cvJ_c h h8]
theorem ldJ_c (h : RS 0 0 V W) (h8 : lc ≤ 8) (hcr : c * r ≤ 384) {k : Nat} (hk : k < 8) : ldJ V lc c r k = ldJ W lc c r k := by
  unfold ldJ
  rw [plcJ_c h h8, slJ_c h h8 hcr hk, lim_c h hk]
theorem pstJ_c (h : RS 0 0 V W) (h8 : lc ≤ 8) (hcr : c * r ≤ 384) {z : Int32} : pstJ V lc c r z = pstJ W lc c r z := sumN_congr fun j hj => by rw [stJ_c h h8 (show j < 384 by omega)]
theorem sbJ_c (h : RS 0 0 V W) (h8 : lc ≤ 8) (hcr : c * r ≤ 384) : sbJ V lc c r = sbJ W lc c r := sumN_congr fun j hj => brJ_c h h8 (by omega)
theorem sevJ_c (h : RS 0 0 V W) (h8 : lc ≤ 8) : sevJ V lc c r = sevJ W lc c r := by unfold sevJ; rw [cvJ_c h h8]
theorem lvV_c (h : RS 0 0 V W) (h8 : lc ≤ 8) (hcr : c * r ≤ 384) {k : Nat} (hk : k < 8) (w : Nat) : lvV V lc c r k w = lvV W lc c r k w := by
  unfold lvV
  split
  · exact rs_gr h hk
  · exact rs_le h hk
  · exact rs_we h hk
  · rw [wk_c h hk]
  · exact lim_c h hk
  · exact flo_c h hk
  · rw [good_c h hk]
  · exact plcJ_c h h8
  · exact slJ_c h h8 hcr hk
  · exact ldJ_c h h8 hcr hk
  · exact mxlJ_c h h8 hk _ hcr
  · exact onlJ_c h h8
theorem whV_c (h : RS 0 0 V W) (h8 : lc ≤ 8) (hcr : c * r ≤ 384) (tl : Int32) (w : Nat) : whV V lc c r tl w = whV W lc c r tl w := by
  unfold whV
  split
  · exact h.1 0 (by decide)
  · exact h.1 1 (by decide)
  · exact h.1 2 (by decide)
  · exact h.1 3 (by decide)
  · exact h.1 5 (by decide)
  · exact sumN_congr fun k hk => rs_wk h (show k < 8 by omega)
  · exact pstJ_c h h8 hcr
  · exact pstJ_c h h8 hcr
  · exact pstJ_c h h8 hcr
  · exact pstJ_c h h8 hcr
  · exact sumN_congr fun j hj => rs_tg h (show j < 384 by omega)
  · exact sbJ_c h h8 hcr
  · exact h.1 4 (by decide)
  · exact sevJ_c h h8
  · rfl
theorem smL_c (h : RS 0 0 V W) (h8 : lc ≤ 8) {z : Int32} : smL V lc z = smL W lc z := sumN_congr fun k hk => by rw [lim_c h (show k < 8 by omega)]
theorem smF_c (h : RS 0 0 V W) (h8 : lc ≤ 8) {z : Int32} : smF V lc z = smF W lc z := sumN_congr fun k hk => by rw [flo_c h (show k < 8 by omega)]
theorem plV_c (h : RS 0 0 V W) (h8 : lc ≤ 8) {x y : Nat} (hj : y * c + x < 384) (w : Nat) : plV V lc c x y w = plV W lc c x y w := by
  have e2 := h.1 2 (by decide)
  have e3 := h.1 3 (by decide)
  unfold plV
  split
  · exact rs_tg h hj
  · rw [zz_c h h8, e2, e3, brP_c h hj]
  · rw [zz_c h h8, e2, e3, stP_c h hj]
  · rw [zz_c h h8, e2, e3, cvP_c h]
  · rw [zz_c h h8, e2, e3, cvP_c h, smL_c h h8]
  · rw [zz_c h h8, e2, e3, cvP_c h, smF_c h h8]
/-- light() of a lamp, weight() -/
def ltV (V : Mm) (lc c x y k : Nat) : Int32 := if bitB (cvP V 0 (zzS V lc) (V 0 2) (V 0 3) x y) k = true then ltP V 0 (zzS V lc) (V 0 2) (V 0 3) c x y k else -1000
def wtV (V : Mm) (lc x y k : Nat) : Int32 := if bitB (cvP V 0 (zzS V lc) (V 0 2) (V 0 3) x y) k = true then wgt V 0 k (2 * (nI x + V 0 2) + 1) (2 * (nI y + V 0 3) + 1) else -1000
theorem ltV_c (h : RS 0 0 V W) (h8 : lc ≤ 8) {x y k : Nat} (hj : y * c + x < 384) (hk : k < 8) : ltV V lc c x y k = ltV W lc c x y k := by
  unfold ltV
  rw [zz_c h h8, h.1 2 (by decide), h.1 3 (by decide), cvP_c h, ltP_c h hj hk]
theorem wtV_c (h : RS 0 0 V W) (h8 : lc ≤ 8) {x y k : Nat} (hk : k < 8) : wtV V lc x y k = wtV W lc x y k := by
  unfold wtV
  rw [zz_c h h8, h.1 2 (by decide), h.1 3 (by decide), cvP_c h, wgt_c h hk]
theorem ndJ_c (h : RS 0 0 V W) (h8 : lc ≤ 8) {k : Nat} (hk : k < 8) : ∀ n, n ≤ 384 → ndJ V lc c k n = ndJ W lc c k n
  | 0, _ => rfl
  | n + 1, hn => by
    simp only [ndJ]
    rw [ndJ_c h h8 hk n (by omega), cvJ_c h h8, ltJ_c h h8 (show n < 384 by omega) hk, brJ_c h h8 (show n < 384 by omega), show V 8 n = W 8 n from rs_tg h (show n < 384 by omega)]
theorem lfN_c (h : RS 0 0 V W) (h8 : lc ≤ 8) {idx : Int32} : ∀ n, n ≤ 384 → lfN V lc c idx n = lfN W lc c idx n
  | 0, _ => rfl
  | n + 1, hn => by
    simp only [lfN]
    rw [lfN_c h h8 n (by omega), stJ_c h h8 (show n < 384 by omega)]
theorem fnd_c (h : RS 0 0 V W) (h8 : lc ≤ 8) {idx : Int32} : ∀ n, n ≤ 384 → fnd V lc c idx n = fnd W lc c idx n
  | 0, _ => rfl
  | n + 1, hn => by
    simp only [fnd]
    rw [fnd_c h h8 n (by omega), lfN_c h h8 n (by omega), stJ_c h h8 (show n < 384 by omega)]
theorem wrV_c (h : RS 0 0 V W) (h8 : lc ≤ 8) (hcr : c * r ≤ 384) {idx : Int32} : wrV V lc c r idx = wrV W lc c r idx := by
  unfold wrV
  rw [fnd_c h h8 _ hcr]
theorem wrgV_c (h : RS 0 0 V W) (h8 : lc ≤ 8) (hc : c ≤ 24) (hr : r ≤ 16) {k : Nat} : wrgV V lc c k r = wrgV W lc c k r := by
  unfold wrgV
  rw [zz_c h h8, h.1 2 (by decide), h.1 3 (by decide), cwN_c h hc r hr]
theorem dlN_c (h : RS 0 0 V W) (h8 : lc ≤ 8) (hc : c ≤ 24) (hr : r ≤ 16) : ∀ n, dlN V lc c r n = dlN W lc c r n
  | 0 => rfl
  | n + 1 => by
    simp only [dlN]
    rw [dlN_c h h8 hc hr n, wrgV_c h h8 hc hr]
theorem shW_c (h : RS 0 0 V W) (h8 : lc ≤ 8) (hc : c ≤ 24) (hr : r ≤ 16) : shW V lc c r = shW W lc c r := by
  funext sx sy
  unfold shW
  rw [zz_c h h8, cwN_c h hc r hr]
theorem bsC_c (h : RS 0 0 V W) (h8 : lc ≤ 8) (hc : c ≤ 24) (hr : r ≤ 16) {k : Nat} {sy : Int32} : ∀ j z, bsC V lc c r k sy j z = bsC W lc c r k sy j z
  | 0, _ => rfl
  | j + 1, z => by
    simp only [bsC]
    rw [bsC_c h h8 hc hr j z, shW_c h h8 hc hr]
theorem bsR_c (h : RS 0 0 V W) (h8 : lc ≤ 8) (hc : c ≤ 24) (hr : r ≤ 16) {k : Nat} : ∀ i, bsR V lc c r k i = bsR W lc c r k i
  | 0 => rfl
  | i + 1 => by
    simp only [bsR]
    rw [bsR_c h h8 hc hr i, bsC_c h h8 hc hr]
theorem hF_congr {f g : Nat → Int32} {a : Int64} : ∀ n, (∀ i, i < n → f i = g i) → hF a f n = hF a g n
  | 0, _ => rfl
  | n + 1, h => by
    show 31 * hF a f n + (f n).toInt64 = 31 * hF a g n + (g n).toInt64
    rw [hF_congr n (fun i hi => h i (by omega)), h n (by omega)]
theorem dgL_c (h : RS 0 0 V W) (h8 : lc ≤ 8) (hcr : c * r ≤ 384) {k : Nat} (hk : k < 8) {a : Int64} : dgL V lc c r k a = dgL W lc c r k a := by
  unfold dgL
  rw [hF_congr (a := a) 12 (fun i _ => lvV_c h h8 hcr hk i)]
  refine hF_congr 8 (fun i hi => ?_)
  have hi2 : i / 2 < 4 := by omega
  rw [show V 13 (4 * k + i / 2) = W 13 (4 * k + i / 2) from rs_cx h hk hi2, show V 14 (4 * k + i / 2) = W 14 (4 * k + i / 2) from rs_cy h hk hi2]
theorem dgLs_c (h : RS 0 0 V W) (h8 : lc ≤ 8) (hcr : c * r ≤ 384) {a : Int64} : ∀ n, n ≤ 8 → dgLs V lc c r a n = dgLs W lc c r a n
  | 0, _ => rfl
  | n + 1, hn => by
    simp only [dgLs]
    rw [dgLs_c h h8 hcr n (by omega), dgL_c h h8 hcr (show n < 8 by omega)]
theorem dgP_c (h : RS 0 0 V W) (h8 : lc ≤ 8) {x y : Nat} (hj : y * c + x < 384) {a : Int64} : dgP V lc c x y a = dgP W lc c x y a := by
  unfold dgP
  rw [hF_congr (a := a) 6 (fun i _ => plV_c h h8 hj i)]
  exact hF_congr lc (fun k hk => ltV_c h h8 hj (show k < 8 by omega))
theorem dgPs_c (h : RS 0 0 V W) (h8 : lc ≤ 8) {a : Int64} : ∀ n, n ≤ 384 → dgPs V lc c a n = dgPs W lc c a n
  | 0, _ => rfl
  | n + 1, hn => by
    simp only [dgPs]
    rw [dgPs_c h h8 n (by omega), dgP_c h h8 (jj c (show n < 384 by omega))]
theorem dgV_c (h : RS 0 0 V W) (h8 : lc ≤ 8) (hcr : c * r ≤ 384) {tl pn : Int32} : dgV V lc c r tl pn = dgV W lc c r tl pn := by
  unfold dgV
  rw [hF_congr 15 (fun i _ => whV_c h h8 hcr tl i), dgLs_c h h8 hcr lc h8, dgPs_c h h8 _ hcr]
/-- what the law calls seen -/
def snV (V : Mm) (lc c r : Nat) : Int64 := dgPs V lc c (dgLs V lc c r (hF 7 (whV V lc c r 0) 14) lc) (c * r)
theorem snV_c (h : RS 0 0 V W) (h8 : lc ≤ 8) (hcr : c * r ≤ 384) : snV V lc c r = snV W lc c r := by
  unfold snV
  rw [hF_congr 14 (fun i _ => whV_c h h8 hcr 0 i), dgLs_c h h8 hcr lc h8, dgPs_c h h8 _ hcr]
end RSD
