/-! the model over all places -/
def MI (V : Mm) (c r lc : Nat) (μ : Mm) : Prop := REP 0 V (μ 1) c r lc ∧ μ 1 2 = V 0 2 ∧ μ 1 3 = V 0 3 ∧ μ 1 5 = V 0 4 ∧ μ 0 8 = -1000
theorem MI_SC {V μ m : Mm} {c r lc : Nat} (h : MI V c r lc μ) (hs : SCR μ m) : MI V c r lc m := by
  have e := SCR_1 hs
  have e8 : m 0 8 = μ 0 8 := hs 0 8 (by decide) (by decide) (by decide)
  unfold MI
  rw [e, e8]
  exact h
theorem MI_lc {V μ : Mm} {c r lc : Nat} (h : MI V c r lc μ) : (1 ≤ c ∧ c ≤ 24) ∧ (1 ≤ r ∧ r ≤ 16) ∧ lc ≤ 8 := ⟨⟨h.1.1.2.2.2.1, h.1.1.2.2.2.2.1⟩, ⟨h.1.1.2.2.2.2.2.1, h.1.1.2.2.2.2.2.2.1⟩, h.1.1.2.2.2.2.2.2.2⟩
theorem sum_in {a : Int32} {f : Nat → Int32} {n : Nat} {v : Int32} (h : f n = v) : a + sumN (n + 1) f = a + sumN n f + v := by
  subst h; exact (Int32.add_assoc _ _ _).symm
theorem st_SHP {s : Nat} {V μ m : Mm} {c r lc x y : Nat} {z sx sy : Int32} (hS : SHP s V z sx sy c lc x y μ m) (hR : REP s V (μ 1) c r lc) (hx : x < c) (hy : y < r) : stV (m 0 12) (m 0 11) (m 1 (6 + 24 * y + x)) = stP V s z sx sy c x y := by
  rw [hS.2.1, hS.2.2.1, SC0_1 hS.1, ← hR.2.2.2.2 x y hx hy]
  rfl
def SHJ (V : Mm) (lc c j : Nat) (μ m : Mm) : Prop := SC0 μ m ∧ m 0 11 = cvJ V lc c j ∧ m 0 12 = brJ V lc c j ∧ (∀ n, n < lc → m 6 n = ltJ V lc c n j) ∧ ∀ n, n < lc → m 5 n = plW V 0 (zzS V lc) (2 * (nI (j % c) + V 0 2) + 1) (2 * (nI (j / c) + V 0 3) + 1) n
theorem st_SHJ {V μ m : Mm} {c r lc x y : Nat} (hS : SHJ V lc c (y * c + x) μ m) (hR : MI V c r lc μ) (hx : x < c) (hy : y < r) : stV (m 0 12) (m 0 11) (m 1 (6 + 24 * y + x)) = stJ V lc c (y * c + x) := by
  rw [hS.2.1, hS.2.2.1, SC0_1 hS.1, ← hR.1.2.2.2.2 x y hx hy]
  unfold stJ stP cvJ brJ
  rw [(ixd hx).1, (ixd hx).2]
  rfl
theorem tg_SHJ {V μ m : Mm} {c r lc x y j : Nat} (hS : SHJ V lc c j μ m) (hR : MI V c r lc μ) (hx : x < c) (hy : y < r) : m 1 (6 + 24 * y + x) = V 8 (y * c + x) := by
  rw [SC0_1 hS.1]; exact (hR.1.2.2.2.2 x y hx hy).symm
/-! counting bits as the model does -/
def pcF : Nat → Int32 → Int32 → Option Int32
  | 0, _, _ => none
  | k + 1, v, n => if v = 0 then some n else pcF k (v &&& (v - 1)) (n + 1)
theorem pcF_t {k : Nat} {v n R : Int32} (h : pcF (k + 1) v n = some R) (h0 : v = 0) : n = R := by
  rw [pcF, if_pos h0] at h; exact Option.some.inj h
theorem pcF_f {k : Nat} {v n R : Int32} (h : pcF (k + 1) v n = some R) (h0 : ¬ v = 0) : pcF k (v &&& (v - 1)) (n + 1) = some R := by
  rw [pcF, if_neg h0] at h; exact h
def orM (n : Nat) (f : Nat → Bool) : Nat := match n with
  | 0 => 0
  | n + 1 => orM n f + if f n = true then 2 ^ n else 0
theorem orM_lt {f : Nat → Bool} : ∀ n, orM n f < 2 ^ n
  | 0 => Nat.one_pos
  | n + 1 => by
    have h := orM_lt (f := f) n
    show orM n f + (if f n = true then 2 ^ n else 0) < 2 ^ (n + 1)
    rw [Nat.pow_succ]
    split <;> omega
theorem or_k : ∀ k, k < 8 → ∀ j, j < 2 ^ k → nI j ||| oneI k = nI (j + 2 ^ k) := by decide +kernel
theorem orN_M {f : Nat → Bool} : ∀ n, n ≤ 8 → orN n f = nI (orM n f)
  | 0, _ => rfl
  | n + 1, h => by
    have ih := orN_M (f := f) n (by omega)
    by_cases hf : f n = true
    · rw [orN_t hf, ih, orM, if_pos hf]
      exact or_k n (by omega) _ (orM_lt n)
    · rw [orN_f hf, ih, orM, if_neg hf]; rfl
theorem bits_k : ∀ j, j < 256 → pcF 9 (nI j) 0 = some (bcI (nI j)) := by decide +kernel
theorem one_k : ∀ k, k < 8 → ∀ j, j < 256 → ((bitB (nI j) k = true ∧ bcI (nI j) = 1) ↔ nI j = oneI k) := by decide +kernel
theorem cv_nI (V : Mm) (lc c j : Nat) : ∃ i, i < 256 ∧ cvJ V lc c j = nI i := by
  unfold cvJ cvP covV
  exact ⟨_, orM_lt 8, orN_M 8 (Nat.le_refl _)⟩
theorem cv_bits (V : Mm) (lc c j : Nat) : pcF 9 (cvJ V lc c j) 0 = some (bcI (cvJ V lc c j)) := by
  obtain ⟨i, hi, e⟩ := cv_nI V lc c j
  rw [e]; exact bits_k i hi
theorem cv_one {V : Mm} {lc c j k : Nat} (hk : k < 8) : (bitB (cvJ V lc c j) k = true ∧ bcI (cvJ V lc c j) = 1) ↔ cvJ V lc c j = oneI k := by
  obtain ⟨i, hi, e⟩ := cv_nI V lc c j
  rw [e]; exact one_k k hk i hi
/-! the sums of one lamp -/
def SUMP (V : Mm) (lc c k N : Nat) (μ m : Mm) : Prop := SCR μ m ∧ m 0 13 = sumN N (fun j => if bitB (cvJ V lc c j) k = true then 1 else 0) ∧ m 0 14 = sumN N (fun j => if bitB (cvJ V lc c j) k = true then ltJ V lc c k j else 0) ∧ m 0 15 = mxlJ V lc c k N ∧ m 0 16 = sumN N (fun j => if cvJ V lc c j = oneI k then 1 else 0) ∧ m 0 17 = ndJ V lc c k N
theorem SUMP_0 {V : Mm} {lc c k : Nat} {μ : Mm} : SUMP V lc c k 0 μ (uM (uM (uM (uM (uM μ 0 13 0) 0 14 0) 0 15 0) 0 16 0) 0 17 0) := by
  refine ⟨SCR_uM (SCR_uM (SCR_uM (SCR_uM (SCR_uM SCR_r (by decide)) (by decide)) (by decide)) (by decide)) (by decide), ?_, ?_, ?_, ?_, ?_⟩
  · rw [uM_n (by decide), uM_n (by decide), uM_n (by decide), uM_n (by decide), uM_s]; rfl
  · rw [uM_n (by decide), uM_n (by decide), uM_n (by decide), uM_s]; rfl
  · rw [uM_n (by decide), uM_n (by decide), uM_s]; rfl
  · rw [uM_n (by decide), uM_s]; rfl
  · rw [uM_s]; rfl
theorem SUMP_off {V : Mm} {lc c k N : Nat} {μ m m9 : Mm} (h : SUMP V lc c k N μ m) (hk : k < 8) (hs : SHJ V lc c N m m9) (hb : ¬ bitB (cvJ V lc c N) k = true) : SUMP V lc c k (N + 1) μ m9 := by
  obtain ⟨h0, h1, h2, h3, h4, h5⟩ := h
  have g := hs.1
  have ho : ¬ cvJ V lc c N = oneI k := fun z => hb ((cv_one hk).mpr z).1
  refine ⟨SCR_t h0 (SCR_0 g), ?_, ?_, ?_, ?_, ?_⟩
  · rw [g _ _ (by decide) (by decide) (by decide), h1]
    show _ = sumN N _ + (if bitB (cvJ V lc c N) k = true then 1 else 0)
    rw [if_neg hb, Int32.add_zero]
  · rw [g _ _ (by decide) (by decide) (by decide), h2]
    show _ = sumN N _ + (if bitB (cvJ V lc c N) k = true then ltJ V lc c k N else 0)
    rw [if_neg hb, Int32.add_zero]
  · rw [g _ _ (by decide) (by decide) (by decide), h3, mxlJ, if_neg hb]
  · rw [g _ _ (by decide) (by decide) (by decide), h4]
    show _ = sumN N _ + (if cvJ V lc c N = oneI k then 1 else 0)
    rw [if_neg ho, Int32.add_zero]
  · rw [g _ _ (by decide) (by decide) (by decide), h5, ndJ, if_neg hb]
/-- the memory behind a place that the lamp covers -/
def sumW (m9 : Mm) (l g o d : Int32) : Mm := uM (uM (uM (uM (uM m9 0 13 (m9 0 13 + 1)) 0 14 (m9 0 14 + l)) 0 15 g) 0 16 (m9 0 16 + o)) 0 17 d
theorem SUMP_on {V : Mm} {lc c k N : Nat} {μ m m9 : Mm} {g o d : Int32} (h : SUMP V lc c k N μ m) (hk : k < 8) (hs : SHJ V lc c N m m9) (hb : bitB (cvJ V lc c N) k = true)
    (hg : mxI (m9 0 15) (ltJ V lc c k N) = g) (ho : (if bcI (cvJ V lc c N) = 1 then 1 else 0) = o) (hd : mxI (m9 0 17) (ltJ V lc c k N + V 8 N - brJ V lc c N) = d) : SUMP V lc c k (N + 1) μ (sumW m9 (ltJ V lc c k N) g o d) := by
  obtain ⟨h0, h1, h2, h3, h4, h5⟩ := h
  have g9 := hs.1
  subst hg
  subst ho
  subst hd
  unfold sumW
  refine ⟨SCR_uM (SCR_uM (SCR_uM (SCR_uM (SCR_uM (SCR_t h0 (SCR_0 g9)) (by decide)) (by decide)) (by decide)) (by decide)) (by decide), ?_, ?_, ?_, ?_, ?_⟩
  · rw [uM_n (by decide), uM_n (by decide), uM_n (by decide), uM_n (by decide), uM_s, g9 _ _ (by decide) (by decide) (by decide), h1]
    show _ = sumN N _ + (if bitB (cvJ V lc c N) k = true then 1 else 0)
    rw [if_pos hb]
  · rw [uM_n (by decide), uM_n (by decide), uM_n (by decide), uM_s, g9 _ _ (by decide) (by decide) (by decide), h2]
    show _ = sumN N _ + (if bitB (cvJ V lc c N) k = true then ltJ V lc c k N else 0)
    rw [if_pos hb]
  · rw [uM_n (by decide), uM_n (by decide), uM_s, g9 _ _ (by decide) (by decide) (by decide), h3, mxlJ, if_pos hb]
  · rw [uM_n (by decide), uM_s, g9 _ _ (by decide) (by decide) (by decide), h4]
    show _ = sumN N _ + (if cvJ V lc c N = oneI k then 1 else 0)
    by_cases q : bcI (cvJ V lc c N) = 1
    · rw [if_pos q, if_pos ((cv_one hk).mp ⟨hb, q⟩)]
    · rw [if_neg q, if_neg (fun z => q ((cv_one hk).mpr z).2)]
  · rw [uM_s, g9 _ _ (by decide) (by decide) (by decide), h5, ndJ, if_pos hb]
theorem cnt_bd {f : Nat → Int32} (h : ∀ j, f j = 0 ∨ f j = 1) : ∀ n, n ≤ 384 → 0 ≤ (sumN n f).toInt ∧ (sumN n f).toInt ≤ n := by
  intro n
  induction n with
  | zero => intro _; exact ⟨Int.le_refl 0, Int.le_refl 0⟩
  | succ n ih =>
    intro hn
    have ih := ih (by omega)
    have e := bd_add (x := sumN n f) (y := f n) (a := 384) (b := 1) (by unfold bd; omega) (by unfold bd; rcases h n with q | q <;> rw [q] <;> decide) (by decide)
    have v : (f n).toInt = 0 ∨ (f n).toInt = 1 := by rcases h n with q | q <;> rw [q] <;> decide
    show 0 ≤ (sumN n f + f n).toInt ∧ (sumN n f + f n).toInt ≤ _
    rw [e.1]
    omega
theorem plc_bd {V : Mm} {lc c r k : Nat} (h : c * r ≤ 384) : 0 ≤ (plcJ V lc c r k).toInt ∧ (plcJ V lc c r k).toInt ≤ 384 := by
  have e := cnt_bd (f := fun j => if bitB (cvJ V lc c j) k = true then 1 else 0) (fun j => by
    show (if bitB (cvJ V lc c j) k = true then (1 : Int32) else 0) = 0 ∨ _
    split
    · exact Or.inr rfl
    · exact Or.inl rfl) (c * r) h
  unfold plcJ
  omega
theorem ld_eq {V : Mm} {f : Nat → Int32} {c r lc k : Nat} (hR : REP 0 V f c r lc) (hk : k < 8) : ldJ V lc c r k = if plcJ V lc c r k * lim V 0 k = 0 then 0 else 100 * slJ V lc c r k / (plcJ V lc c r k * lim V 0 k) := by
  have p := plc_bd (V := V) (lc := lc) (k := k) (cr_le hR.1.2.2.2.2.1 hR.1.2.2.2.2.2.2.1)
  have l := lim_rg hR hk
  have e := (bd_mul (x := plcJ V lc c r k) (y := lim V 0 k) (a := 384) (b := 255) (by unfold bd; omega) (by unfold bd; omega) (by decide)).1
  have n : 0 ≤ (plcJ V lc c r k).toInt * (lim V 0 k).toInt := Int.mul_nonneg p.1 l.1
  unfold ldJ
  by_cases q : plcJ V lc c r k * lim V 0 k = 0
  · rw [if_pos q, if_pos (by rw [q]; decide)]
  · rw [if_neg q, if_neg (fun z => q (Int32.le_antisymm z (by rw [Int32.le_iff_toInt_le, e, Int32.toInt_zero]; exact n)))]
