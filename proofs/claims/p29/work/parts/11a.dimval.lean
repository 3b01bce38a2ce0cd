def plW (μ : Mm) (s : Nat) (z px py : Int32) (n : Nat) : Int32 := if bitB z n = true then wgt μ s n px py else 0
/-- the dimmer d is prepared for the scene s of μ, with the lamps z -/
def PR (μ : Mm) (d s : Nat) (z : Int32) (m : Mm) : Prop := m d 4 = z ∧ (∀ k, k < 8 → m (d + 5) k = lim μ s k ∧ m (d + 6) k = flo μ s k) ∧ scE s μ m
theorem PR_prep (μ : Mm) {d s : Nat} (hd : isD d) (hs : isS s) (z : Int32) : PR μ d s z (prepM μ d s z 8) := by
  refine ⟨?_, fun k hk => ⟨?_, ?_⟩, scE_so (prepM_so μ d s z 8) hs (isD_ge hd).1⟩
  · unfold prepM; rw [setRow_out (by omega), setRow_out (by omega), uM_s]
  · unfold prepM; rw [setRow_out (by omega), setRow_in hk]
  · unfold prepM; rw [setRow_in hk]
theorem hvN_congr {f g : Nat → Int32} : ∀ {n N : Nat}, 0 < N → n ≤ N → (∀ k, k < N → f k = g k) → hvN f n = hvN g n
  | 0, _, _, _, _ => rfl
  | n + 1, N, hN, hn, h => by
    have ih := hvN_congr (n := n) (N := N) hN (by omega) h
    have hl : hvN g n < N := by rcases hvN_lt g n with q | q <;> omega
    unfold hvN
    rw [ih, h n (by omega), h _ hl]
theorem dimL_5 {m : Mm} {d : Nat} {w : Nat → Int32} {k : Nat} : dimL m d w 8 (d + 5) k = m (d + 5) k := by
  unfold dimL; rw [setRow_out (by omega), setRow_out (by omega), uM_n (by omega)]
theorem dimL_6 {m : Mm} {d : Nat} {w : Nat → Int32} {k : Nat} : dimL m d w 8 (d + 6) k = m (d + 6) k := by
  unfold dimL; rw [setRow_out (by omega), setRow_out (by omega), uM_n (by omega)]
theorem dimL_7 {m : Mm} {d : Nat} {w : Nat → Int32} {k : Nat} (hk : k < 8) : dimL m d w 8 (d + 7) k = w k := by
  unfold dimL; rw [setRow_out (by omega), setRow_in hk]
theorem dimL_8 {m : Mm} {d : Nat} {w : Nat → Int32} {k : Nat} (hk : k < 8) : dimL m d w 8 (d + 8) k = 0 := by
  unfold dimL; rw [setRow_in hk]
theorem shM_8 {m : Mm} {d : Nat} {w : Nat → Int32} {t : Int32} (h7 : ∀ k, k < 8 → m (d + 7) k = w k) (h8 : ∀ k, k < 8 → m (d + 8) k = 0) {k : Nat} (hk : k < 8) : shM m d t (d + 8) k = l1V w t k := by
  have e1 : sumN 8 (m (d + 7)) = sumN 8 w := sumN_congr h7
  have e2 : hvN (m (d + 7)) 8 = hvN w 8 := hvN_congr (N := 8) (by decide) (by decide) h7
  have e3 : ∀ j, j < 8 → shV (m (d + 7)) t j = shV w t j := fun j hj => by unfold shV; rw [e1, h7 j hj]
  have e4 : misN t (shV (m (d + 7)) t) 8 = misN t (shV w t) 8 := misN_congr e3
  have hh : hvN w 8 < 8 := by rcases hvN_lt w 8 with h | h <;> omega
  unfold shM l1V
  rw [e1]
  by_cases hs : sumN 8 w ≤ 0
  · rw [if_pos hs, if_pos hs]; exact h8 k hk
  · rw [if_neg hs, if_neg hs, e2, e4, e3 _ hh]
    by_cases he : k = hvN w 8
    · rw [if_pos he, ← he, uM_s]
    · rw [if_neg he, uM_n (by omega), setRow_in hk, e3 k hk]
theorem dimF_val {μ m : Mm} {d s : Nat} {z : Int32} (hd : isD d) (hs : isS s) (h : PR μ d s z m) (px py t : Int32) :
    dimF m d s px py t d 5 = covV (plW μ s z px py) 8 ∧ dimF m d s px py t d 6 = vB (plW μ s z px py) (lim μ s) (flo μ s) t ∧ dimF m d s px py t d 7 = vS (plW μ s z px py) (lim μ s) (flo μ s) t ∧ (∀ k, k < 8 → dimF m d s px py t (d + 8) k = vL (plW μ s z px py) (lim μ s) (flo μ s) t k) ∧ PR μ d s z (dimF m d s px py t) := by
  obtain ⟨h4, h56, hso⟩ := h
  have hd75 := (isD_ge hd).1
  have ew : wvV m d s px py = plW μ s z px py := by
    funext n
    unfold wvV plW
    rw [h4, wgt_sc hso]
  obtain ⟨w, hw⟩ : ∃ w, w = plW μ s z px py := ⟨_, rfl⟩
  obtain ⟨m1, hm1⟩ : ∃ m1, m1 = dimL m d w 8 := ⟨_, rfl⟩
  obtain ⟨m2, hm2⟩ : ∃ m2, m2 = shM m1 d t := ⟨_, rfl⟩
  obtain ⟨m3, hm3⟩ : ∃ m3, m3 = klM m2 d := ⟨_, rfl⟩
  obtain ⟨m4, hm4⟩ : ∃ m4, m4 = baM m3 d t := ⟨_, rfl⟩
  have eF : dimF m d s px py t = uM m4 d 7 (stV (m4 d 6) (m4 d 5) t) := by
    unfold dimF
    rw [ew, ← hw, ← hm1, ← hm2, ← hm3, ← hm4]
  rw [← hw]
  have a5 : m1 d 5 = covV w 8 := by rw [hm1]; exact dimL_cov m d w 8
  have a8 : ∀ k, k < 8 → m2 (d + 8) k = l1V w t k := fun k hk => by
    rw [hm2]
    exact shM_8 (fun j hj => by rw [hm1]; exact dimL_7 hj) (fun j hj => by rw [hm1]; exact dimL_8 hj) hk
  have s2 : sameOut (d + 8) (d + 9) m1 m2 := by rw [hm2]; exact shM_so m1 d t
  have s3 : sameOut (d + 8) (d + 9) m2 m3 := by rw [hm3]; exact klM_so m2 d
  have li2 : ∀ k, k < 8 → m2 (d + 5) k = lim μ s k ∧ m2 (d + 6) k = flo μ s k := fun k hk => by
    rw [s2 _ _ (by omega), s2 _ _ (by omega), hm1, dimL_5, dimL_6]
    exact h56 k hk
  have c2 : m2 d 5 = covV w 8 := by rw [s2 _ _ (by omega)]; exact a5
  have a8' : ∀ k, k < 8 → m3 (d + 8) k = vL2 w (lim μ s) (flo μ s) t k := fun k hk => by
    rw [hm3]
    unfold klM
    rw [setRow_in hk]
    unfold l2V vL2 l2V
    rw [c2, (li2 k hk).1, (li2 k hk).2, a8 k hk]
  have li3 : ∀ k, k < 8 → m3 (d + 5) k = lim μ s k ∧ m3 (d + 6) k = flo μ s k := fun k hk => by
    rw [s3 _ _ (by omega), s3 _ _ (by omega)]
    exact li2 k hk
  have c3 : m3 d 5 = covV w 8 := by rw [s3 _ _ (by omega)]; exact c2
  have em : misN t (m3 (d + 8)) 8 = vM w (lim μ s) (flo μ s) t := misN_congr a8'
  have b6 : m4 d 6 = vB w (lim μ s) (flo μ s) t := by
    rw [hm4]
    unfold baM vB
    rw [uM_s, c3, em, bmV_congr (fun k hk _ => li3 k hk) a8']
  have b8 : ∀ k, k < 8 → m4 (d + 8) k = vL w (lim μ s) (flo μ s) t k := fun k hk => by
    rw [hm4]
    unfold baM vL
    rw [uM_n (by omega), setRow_in hk, c3, em]
    exact nlV_congr (fun j hj _ => li3 j (by omega)) (fun j hj => a8' j (by omega))
  have b5 : m4 d 5 = covV w 8 := by
    rw [hm4]
    unfold baM
    rw [uM_n (by omega), setRow_out (by omega)]
    exact c3
  have b4 : m4 d 4 = z := by
    rw [hm4]
    unfold baM
    rw [uM_n (by omega), setRow_out (by omega), s3 _ _ (by omega), s2 _ _ (by omega), hm1, dimL_sh]
    exact h4
  have l4 : ∀ k, k < 8 → m4 (d + 5) k = lim μ s k ∧ m4 (d + 6) k = flo μ s k := fun k hk => by
    rw [hm4]
    unfold baM
    rw [uM_n (by omega), setRow_out (by omega), uM_n (by omega), setRow_out (by omega)]
    exact li3 k hk
  refine ⟨?_, ?_, ?_, fun k hk => ?_, ?_, fun k hk => ?_, scE_trans hso (scE_so (dimF_so m d s px py t) hs hd75)⟩
  · rw [eF, uM_n (by omega)]; exact b5
  · rw [eF, uM_n (by omega)]; exact b6
  · rw [eF, uM_s, b6, b5]; rfl
  · rw [eF, uM_n (by omega)]; exact b8 k hk
  · rw [eF, uM_n (by omega)]; exact b4
  · rw [eF, uM_n (by omega), uM_n (by omega)]; exact l4 k hk
def stP (μ : Mm) (s : Nat) (z sx sy : Int32) (c x y : Nat) : Int32 := vS (plW μ s z (2 * (nI x + sx) + 1) (2 * (nI y + sy) + 1)) (lim μ s) (flo μ s) (μ (s + 8) (y * c + x))
def cwN (μ : Mm) (s : Nat) (z sx sy : Int32) (c : Nat) : Nat → Int32
  | 0 => 0
  | y + 1 => cwN μ s z sx sy c y + sumN c (fun x => if stP μ s z sx sy c x y = 0 then 0 else 1)
def cvP (μ : Mm) (s : Nat) (z sx sy : Int32) (x y : Nat) : Int32 := covV (plW μ s z (2 * (nI x + sx) + 1) (2 * (nI y + sy) + 1)) 8
def brP (μ : Mm) (s : Nat) (z sx sy : Int32) (c x y : Nat) : Int32 := vB (plW μ s z (2 * (nI x + sx) + 1) (2 * (nI y + sy) + 1)) (lim μ s) (flo μ s) (μ (s + 8) (y * c + x))
def ltP (μ : Mm) (s : Nat) (z sx sy : Int32) (c x y n : Nat) : Int32 := vL (plW μ s z (2 * (nI x + sx) + 1) (2 * (nI y + sy) + 1)) (lim μ s) (flo μ s) (μ (s + 8) (y * c + x)) n
theorem plW_sc {s : Nat} {z px py : Int32} {μ μ' : Mm} (h : scE s μ μ') : plW μ' s z px py = plW μ s z px py := by
  funext n; unfold plW; rw [wgt_sc h]
theorem stP_sc {s c x y : Nat} {z sx sy : Int32} {μ μ' : Mm} (h : scE s μ μ') : stP μ' s z sx sy c x y = stP μ s z sx sy c x y := by
  unfold stP; rw [plW_sc h, show lim μ' s = lim μ s from funext fun k => lim_sc h, show flo μ' s = flo μ s from funext fun k => flo_sc h, h 8 _ (by decide) (by decide)]
theorem cvP_sc {s x y : Nat} {z sx sy : Int32} {μ μ' : Mm} (h : scE s μ μ') : cvP μ' s z sx sy x y = cvP μ s z sx sy x y := by
  unfold cvP; rw [plW_sc h]
theorem brP_sc {s c x y : Nat} {z sx sy : Int32} {μ μ' : Mm} (h : scE s μ μ') : brP μ' s z sx sy c x y = brP μ s z sx sy c x y := by
  unfold brP; rw [plW_sc h, show lim μ' s = lim μ s from funext fun k => lim_sc h, show flo μ' s = flo μ s from funext fun k => flo_sc h, h 8 _ (by decide) (by decide)]
theorem ltP_sc {s c x y n : Nat} {z sx sy : Int32} {μ μ' : Mm} (h : scE s μ μ') : ltP μ' s z sx sy c x y n = ltP μ s z sx sy c x y n := by
  unfold ltP; rw [plW_sc h, show lim μ' s = lim μ s from funext fun k => lim_sc h, show flo μ' s = flo μ s from funext fun k => flo_sc h, h 8 _ (by decide) (by decide)]
theorem cwN_sc {s c : Nat} {z sx sy : Int32} {μ μ' : Mm} (h : scE s μ μ') : ∀ n, cwN μ' s z sx sy c n = cwN μ s z sx sy c n
  | 0 => rfl
  | n + 1 => by
    have e2 : sumN c (fun x => if stP μ' s z sx sy c x n = 0 then (0 : Int32) else 1) = sumN c (fun x => if stP μ s z sx sy c x n = 0 then (0 : Int32) else 1) := sumN_congr fun x _ => by rw [stP_sc h]
    show cwN μ' s z sx sy c n + sumN c (fun x => if stP μ' s z sx sy c x n = 0 then (0 : Int32) else 1) = cwN μ s z sx sy c n + sumN c (fun x => if stP μ s z sx sy c x n = 0 then (0 : Int32) else 1)
    rw [cwN_sc h n, e2]
theorem ixInj {c y x y2 x2 : Nat} (h1 : x < c) (h2 : x2 < c) (h : y2 * c + x2 = y * c + x) : y2 = y ∧ x2 = x := by
  have a1 : (y2 * c + x2) / c = y2 := by rw [Nat.mul_comm, Nat.mul_add_div (by omega), Nat.div_eq_of_lt h2]; omega
  have a2 : (y * c + x) / c = y := by rw [Nat.mul_comm, Nat.mul_add_div (by omega), Nat.div_eq_of_lt h1]; omega
  rw [h, a2] at a1
  subst a1
  exact ⟨rfl, by omega⟩
/-! the survey -/
def klN (m : Mm) (N : Nat) : Nat → Mm
  | 0 => uM (uM (uM m 99 N (m 75 5)) 100 N (m 75 6)) 101 N (m 75 7)
  | i + 1 => uM (klN m N i) 98 (384 * i + N) (m 83 i)
def kpM (m : Mm) (N : Nat) : Mm := uM (klN m N 8) 93 5 (nI (N + 1))
theorem klN_out {m : Mm} {N p q : Nat} (h : ¬ (98 ≤ p ∧ p ≤ 101)) : ∀ i, klN m N i p q = m p q
  | 0 => by
    show uM (uM (uM m 99 N (m 75 5)) 100 N (m 75 6)) 101 N (m 75 7) p q = _
    rw [uM_n (by omega), uM_n (by omega), uM_n (by omega)]
  | i + 1 => by
    show uM (klN m N i) 98 (384 * i + N) (m 83 i) p q = _
    rw [uM_n (by omega)]; exact klN_out h i
theorem klN_hi {m : Mm} {N p q : Nat} (h : 99 ≤ p) : ∀ i, klN m N i p q = uM (uM (uM m 99 N (m 75 5)) 100 N (m 75 6)) 101 N (m 75 7) p q
  | 0 => rfl
  | i + 1 => by
    show uM (klN m N i) 98 (384 * i + N) (m 83 i) p q = _
    rw [uM_n (by omega)]; exact klN_hi h i
theorem klN_98 {m : Mm} {N k j : Nat} (hN : N < 384) (hj : j < 384) : ∀ i, klN m N i 98 (384 * k + j) = if j = N ∧ k < i then m 83 k else m 98 (384 * k + j)
  | 0 => by
    show uM (uM (uM m 99 N (m 75 5)) 100 N (m 75 6)) 101 N (m 75 7) 98 (384 * k + j) = _
    rw [uM_n (by omega), uM_n (by omega), uM_n (by omega), if_neg (by omega)]
  | i + 1 => by
    show uM (klN m N i) 98 (384 * i + N) (m 83 i) 98 (384 * k + j) = _
    by_cases h : k = i ∧ j = N
    · obtain ⟨rfl, rfl⟩ := h
      rw [uM_s, if_pos (by omega)]
    · rw [uM_n (by omega), klN_98 hN hj i]
      by_cases h2 : j = N ∧ k < i
      · rw [if_pos h2, if_pos (by omega)]
      · rw [if_neg h2, if_neg (by omega)]
/-- the first n places of the survey in m are those of the scene 0 of μ -/
def SV (μ : Mm) (z : Int32) (c : Nat) (m : Mm) (n : Nat) : Prop := ∀ y x : Nat, x < c → y * c + x < n → m 99 (y * c + x) = cvP μ 0 z (μ 0 2) (μ 0 3) x y ∧ m 100 (y * c + x) = brP μ 0 z (μ 0 2) (μ 0 3) c x y ∧ m 101 (y * c + x) = stP μ 0 z (μ 0 2) (μ 0 3) c x y ∧ ∀ k, k < 8 → m 98 (384 * k + (y * c + x)) = ltP μ 0 z (μ 0 2) (μ 0 3) c x y k
def SVok (μ : Mm) (lc c r : Nat) : Prop := μ 93 5 = nI (c * r) ∧ SV μ (orN lc (shiB μ 0)) c μ (c * r)
/-- only the survey, and the scene's mark, may differ -/
def sameRf (μ m : Mm) : Prop := ∀ p q : Nat, ¬ (p = 0 ∧ q = 6) → ¬ (75 ≤ p ∧ p < 84) → ¬ (p = 93 ∧ q = 5) → ¬ (98 ≤ p ∧ p ≤ 101) → m p q = μ p q
theorem scE_rf {μ m : Mm} (h : sameRf μ m) : scE 0 μ m := fun j q h8 hj => h _ _ (by omega) (by omega) (by omega) (by omega)
theorem SV_keep {μ m m2 : Mm} {z : Int32} {c x y : Nat} (hx : x < c) (hlt : y * c + x < 384) (h : SV μ z c m (y * c + x)) (hso : sameOut 75 84 m m2)
    (h5 : m2 75 5 = cvP μ 0 z (μ 0 2) (μ 0 3) x y) (h6 : m2 75 6 = brP μ 0 z (μ 0 2) (μ 0 3) c x y) (h7 : m2 75 7 = stP μ 0 z (μ 0 2) (μ 0 3) c x y) (h8 : ∀ k, k < 8 → m2 83 k = ltP μ 0 z (μ 0 2) (μ 0 3) c x y k) : SV μ z c (kpM m2 (y * c + x)) (y * c + x + 1) := by
  intro y2 x2 hx2 hl
  unfold kpM
  rw [uM_n (by omega), uM_n (by omega), uM_n (by omega), klN_hi (by omega), klN_hi (by omega), klN_hi (by omega)]
  by_cases he : y2 * c + x2 = y * c + x
  · obtain ⟨rfl, rfl⟩ := ixInj hx hx2 he
    refine ⟨?_, ?_, ?_, fun k hk => ?_⟩
    · rw [uM_n (by omega), uM_n (by omega), uM_s]; exact h5
    · rw [uM_n (by omega), uM_s]; exact h6
    · rw [uM_s]; exact h7
    · rw [uM_n (by omega), klN_98 hlt hlt, if_pos (by omega)]; exact h8 k hk
  · obtain ⟨g1, g2, g3, g4⟩ := h y2 x2 hx2 (by omega)
    refine ⟨?_, ?_, ?_, fun k hk => ?_⟩
    · rw [uM_n (by omega), uM_n (by omega), uM_n (by omega), hso _ _ (by omega)]; exact g1
    · rw [uM_n (by omega), uM_n (by omega), uM_n (by omega), hso _ _ (by omega)]; exact g2
    · rw [uM_n (by omega), uM_n (by omega), uM_n (by omega), hso _ _ (by omega)]; exact g3
    · rw [uM_n (by omega), klN_98 hlt (by omega), if_neg (by omega), hso _ _ (by omega)]; exact g4 k hk
def covB (μ : Mm) (k j : Nat) : Bool := bitB (μ 99 j) k
def mxlN (μ : Mm) (k : Nat) : Nat → Int32
  | 0 => 0
  | j + 1 => if covB μ k j = true then mxI (mxlN μ k j) (μ 98 (384 * k + j)) else mxlN μ k j
def plcN (μ : Mm) (k N : Nat) : Int32 := sumN N (fun j => if covB μ k j = true then 1 else 0)
def slN (μ : Mm) (k N : Nat) : Int32 := sumN N (fun j => if covB μ k j = true then μ 98 (384 * k + j) else 0)
def pstN (μ : Mm) (z : Int32) (N : Nat) : Int32 := sumN N (fun j => if μ 101 j = z then 1 else 0)
def ldN (μ : Mm) (k N : Nat) (l : Int32) : Int32 := if plcN μ k N * l ≤ 0 then 0 else 100 * slN μ k N / (plcN μ k N * l)
