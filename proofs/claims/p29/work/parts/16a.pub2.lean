theorem saveM_out {μ : Mm} {la cn p q : Nat} (h : la < 4) (hp : p < 15 ∨ (75 ≤ p ∧ p ≠ 107)) : saveM μ la cn p q = μ p q := by
  unfold saveM
  rw [uM_n (by omega), cpS_out (isS_sl (by omega)) (Or.inl rfl) (by omega), uM_n (by omega)]
theorem saveM_row {μ : Mm} {la cn p : Nat} (h : la < 4) (hp : p < 15 ∨ (75 ≤ p ∧ p ≠ 107)) : saveM μ la cn p = μ p := funext fun q => saveM_out h hp
theorem saveM_1 {μ : Mm} {la cn : Nat} (h : la < 4) : saveM μ la cn 107 1 = nI ((la + 1) % 4) := by
  unfold saveM
  rw [uM_n (by omega), cpS_out (isS_sl (by omega)) (Or.inl rfl) (by omega), uM_s]
theorem saveM_2 {μ : Mm} {la cn : Nat} (h : cn ≤ 4) : saveM μ la cn 107 2 = nI (if cn < 4 then cn + 1 else 4) := by
  unfold saveM
  rw [uM_s, nI_1]
  by_cases hc : cn < 4
  · rw [if_pos hc, if_neg]
    exact fun q => absurd ((nI_ltI (a := 4) (b := cn + 1) (by omega) (by omega)).mp q) (by omega)
  · rw [if_neg hc, if_pos]
    · rfl
    · exact nI_lt (a := 4) (b := cn + 1) (by omega) (by omega)
theorem scE_save {μ : Mm} {la cn : Nat} (h : la < 4) : scE 0 μ (saveM μ la cn) := fun j q _ hj => saveM_out h (by omega)
theorem SVok_same {μ m : Mm} {lc c r : Nat} (h : SVok μ lc c r) (hsc : scE 0 μ m) (h2 : m 0 2 = μ 0 2) (h3 : m 0 3 = μ 0 3) (h5 : m 93 5 = μ 93 5) (hS : ∀ p q, 98 ≤ p → p ≤ 101 → m p q = μ p q) : SVok m lc c r := by
  obtain ⟨g5, g⟩ := h
  refine ⟨h5.trans g5, fun y x hx hl => ?_⟩
  obtain ⟨e1, e2, e3, e4⟩ := g y x hx hl
  rw [shi_sc hsc, h2, h3, cvP_sc hsc, brP_sc hsc, stP_sc hsc, hS _ _ (by omega) (by omega), hS _ _ (by omega) (by omega), hS _ _ (by omega) (by omega)]
  refine ⟨e1, e2, e3, fun k hk => ?_⟩
  rw [ltP_sc hsc, hS _ _ (by omega) (by omega)]
  exact e4 k hk
theorem CIv_save {μ : Mm} {c r lc la cn : Nat} (h : CIv μ c r lc la cn) : CIv (saveM μ la cn) c r lc ((la + 1) % 4) (if cn < 4 then cn + 1 else 4) := by
  obtain ⟨hc, hr, hlc, hla, hcn, ⟨g1, g2, g3, g4, g5, g6, g7⟩, hv⟩ := h
  refine ⟨(saveM_out g6 (by omega)).trans hc, (saveM_out g6 (by omega)).trans hr, (saveM_out g6 (by omega)).trans hlc, saveM_1 g6, saveM_2 g7, ⟨g1, g2, g3, g4, g5, by omega, by split <;> omega⟩, fun h0 => ?_⟩
  rw [saveM_out g6 (by omega)] at h0
  exact SVok_same (hv h0) (scE_save g6) (saveM_out g6 (by omega)) (saveM_out g6 (by omega)) (saveM_out g6 (by omega)) (fun p q _ _ => saveM_out g6 (by omega))
theorem mvc_6 (μ : Mm) (j : Nat) (x y : Int32) : mvc μ 0 j x y 0 6 = 1 := uM_s _ _ _ _
theorem mvc_out {μ : Mm} {s j p q : Nat} {x y : Int32} (h1 : p ≠ s + 13) (h2 : p ≠ s + 14) (h3 : ¬ (p = s ∧ q = 6)) : mvc μ s j x y p q = μ p q := by
  unfold mvc; rw [uM_n h3, uM_n (by omega), uM_n (by omega)]
def rectM (μ : Mm) (k : Nat) (x y u v : Int32) : Mm := mvc (mvc (mvc (mvc μ 0 (4 * k + 0) x y) 0 (4 * k + 1) u y) 0 (4 * k + 2) u v) 0 (4 * k + 3) x v
theorem rectM_out {μ : Mm} {k p q : Nat} {x y u v : Int32} (h1 : p ≠ 13) (h2 : p ≠ 14) (h3 : ¬ (p = 0 ∧ q = 6)) : rectM μ k x y u v p q = μ p q := by
  unfold rectM
  rw [mvc_out (by omega) (by omega) h3, mvc_out (by omega) (by omega) h3, mvc_out (by omega) (by omega) h3, mvc_out (by omega) (by omega) h3]
def movM (μ : Mm) (a b : Int32) : Mm := uM (uM (uM μ 0 2 a) 0 3 b) 0 6 1
theorem movM_out {μ : Mm} {p q : Nat} {a b : Int32} (h3 : ¬ (p = 0 ∧ (q = 6 ∨ q = 2 ∨ q = 3))) : movM μ a b p q = μ p q := by
  unfold movM; rw [uM_n (by omega), uM_n (by omega), uM_n (by omega)]
/-! searches over the places -/
def lfN (μ : Mm) (lc c : Nat) (idx : Int32) : Nat → Int32
  | 0 => idx
  | j + 1 => if stJ μ lc c j = 0 then lfN μ lc c idx j else lfN μ lc c idx j + (-1)
def fnd (μ : Mm) (lc c : Nat) (idx : Int32) : Nat → Option Nat
  | 0 => none
  | j + 1 => match fnd μ lc c idx j with
    | some v => some v
    | none => if stJ μ lc c j = 0 then none else if lfN μ lc c idx j = 0 then some j else none
theorem fnd_mono {μ : Mm} {lc c : Nat} {idx : Int32} {j v : Nat} (h : fnd μ lc c idx j = some v) : ∀ n, fnd μ lc c idx (j + n) = some v
  | 0 => h
  | n + 1 => by
    show (match fnd μ lc c idx (j + n) with
      | some v => some v
      | none => if stJ μ lc c (j + n) = 0 then none else if lfN μ lc c idx (j + n) = 0 then some (j + n) else none) = _
    rw [fnd_mono h n]
def wrV (μ : Mm) (lc c r : Nat) (idx : Int32) : Int32 := match fnd μ lc c idx (c * r) with
  | none => -1000
  | some j => 100 * nI (j / c) + nI (j % c)
theorem fnd_next {μ : Mm} {lc c j : Nat} {idx : Int32} (h : fnd μ lc c idx j = none) (h2 : stJ μ lc c j = 0 ∨ ¬ lfN μ lc c idx j = 0) : fnd μ lc c idx (j + 1) = none := by
  unfold fnd
  rw [h]
  rcases h2 with h2 | h2
  · simp only [if_pos h2]
  · simp only [if_neg h2]; split <;> rfl
theorem fnd_here {μ : Mm} {lc c r x y : Nat} {idx : Int32} (hx : x < c) (hy : y < r) (h : fnd μ lc c idx (y * c + x) = none) (h1 : ¬ stJ μ lc c (y * c + x) = 0) (h2 : lfN μ lc c idx (y * c + x) = 0) : wrV μ lc c r idx = 100 * nI y + nI x := by
  have e : fnd μ lc c idx (y * c + x + 1) = some (y * c + x) := by
    unfold fnd
    rw [h]
    simp only [if_neg h1, if_pos h2]
  have hl := ix_lt2 hy hx
  have e2 := fnd_mono e (c * r - (y * c + x + 1))
  rw [show y * c + x + 1 + (c * r - (y * c + x + 1)) = c * r by omega] at e2
  unfold wrV
  rw [e2]
  have a1 : (y * c + x) / c = y := by rw [Nat.mul_comm, Nat.mul_add_div (by omega), Nat.div_eq_of_lt hx]; omega
  have a2 : (y * c + x) % c = x := by rw [Nat.mul_comm, Nat.mul_add_mod, Nat.mod_eq_of_lt hx]
  show 100 * nI ((y * c + x) / c) + nI ((y * c + x) % c) = _
  rw [a1, a2]
theorem ixd {c x y : Nat} (hx : x < c) : (y * c + x) / c = y ∧ (y * c + x) % c = x :=
  ⟨by rw [Nat.mul_comm, Nat.mul_add_div (by omega), Nat.div_eq_of_lt hx]; omega, by rw [Nat.mul_comm, Nat.mul_add_mod, Nat.mod_eq_of_lt hx]⟩
theorem stJ_xy {μ : Mm} {lc c x y : Nat} (hx : x < c) : stJ μ lc c (y * c + x) = stP μ 0 (zzS μ lc) (μ 0 2) (μ 0 3) c x y := by
  unfold stJ; rw [(ixd hx).1, (ixd hx).2]
def dlN (μ : Mm) (lc c r : Nat) : Nat → Int32 × Int32
  | 0 => (-1, -1000)
  | i + 1 => if wrgV μ lc c i r ≤ (dlN μ lc c r i).1 then dlN μ lc c r i else (wrgV μ lc c i r, nI i)
def shW (μ : Mm) (lc c r : Nat) (sx sy : Int32) : Int32 := cwN μ 0 (zzS μ lc) sx sy c r
def bsC (μ : Mm) (lc c r : Nat) (k : Nat) (sy : Int32) : Nat → Int32 × Int32 → Int32 × Int32
  | 0, z => z
  | j + 1, z => if (bsC μ lc c r k sy j z).1 ≤ shW μ lc c r (-nI k + nI j) sy then bsC μ lc c r k sy j z else (shW μ lc c r (-nI k + nI j) sy, 100 * (sy + 10) + (-nI k + nI j + 10))
def bsR (μ : Mm) (lc c r : Nat) (k : Nat) : Nat → Int32 × Int32
  | 0 => (385, 0)
  | i + 1 => bsC μ lc c r k (-nI k + nI i) (2 * k + 1) (bsR μ lc c r k i)
def ndJ (μ : Mm) (lc c k : Nat) : Nat → Int32
  | 0 => 0
  | j + 1 => if bitB (cvJ μ lc c j) k = true then mxI (ndJ μ lc c k j) (ltJ μ lc c k j + μ 8 j - brJ μ lc c j) else ndJ μ lc c k j
theorem nk_le {k i : Nat} (hk : k ≤ 3) (hi : i ≤ 7) : (nI k < -nI k + nI i) ↔ 2 * k < i := by
  rcases (show k = 0 ∨ k = 1 ∨ k = 2 ∨ k = 3 by omega) with rfl | rfl | rfl | rfl <;> rcases (show i = 0 ∨ i = 1 ∨ i = 2 ∨ i = 3 ∨ i = 4 ∨ i = 5 ∨ i = 6 ∨ i = 7 by omega) with rfl | rfl | rfl | rfl | rfl | rfl | rfl | rfl <;> decide
theorem nk_1 (k i : Nat) : -nI k + nI i + 1 = -nI k + nI (i + 1) := by rw [← nI_1, Int32.add_assoc]
def dgL (μ : Mm) (lc c r k : Nat) (h : Int64) : Int64 := hF (hF h (lvV μ lc c r k) 12) (fun i => if i % 2 = 0 then μ 13 (4 * k + i / 2) else μ 14 (4 * k + i / 2)) 8
def dgP (μ : Mm) (lc c x y : Nat) (h : Int64) : Int64 := hF (hF h (plV μ lc c x y) 6) (fun k => if bitB (cvP μ 0 (zzS μ lc) (μ 0 2) (μ 0 3) x y) k = true then ltP μ 0 (zzS μ lc) (μ 0 2) (μ 0 3) c x y k else -1000) lc
def dgLs (μ : Mm) (lc c r : Nat) (h : Int64) : Nat → Int64
  | 0 => h
  | k + 1 => dgL μ lc c r k (dgLs μ lc c r h k)
def dgPs (μ : Mm) (lc c : Nat) (h : Int64) : Nat → Int64
  | 0 => h
  | j + 1 => dgP μ lc c (j % c) (j / c) (dgPs μ lc c h j)
def dgV (μ : Mm) (lc c r : Nat) (tl pn : Int32) : Int64 := dgPs μ lc c (dgLs μ lc c r (hF (31 * 43276 + pn.toInt64) (whV μ lc c r tl) 15) lc) (c * r)
theorem CIv_so {μ m : Mm} {c r lc la cn : Nat} (h : CIv μ c r lc la cn) (hs : sameOut 84 93 μ m) : CIv m c r lc la cn := by
  obtain ⟨hc, hr, hlc, hla, hcn, hg, hv⟩ := h
  refine ⟨(hs _ _ (by omega)).trans hc, (hs _ _ (by omega)).trans hr, (hs _ _ (by omega)).trans hlc, (hs _ _ (by omega)).trans hla, (hs _ _ (by omega)).trans hcn, hg, fun h0 => ?_⟩
  rw [hs _ _ (by omega)] at h0
  exact SVok_same (hv h0) (scE_so hs (Or.inl rfl) (by decide)) (hs _ _ (by omega)) (hs _ _ (by omega)) (hs _ _ (by omega)) (fun p q _ _ => hs _ _ (by omega))
theorem wrg_so {μ m : Mm} {lc c k r : Nat} (hs : sameOut 84 93 μ m) : wrgV m lc c k r = wrgV μ lc c k r := by
  have hsc := scE_so hs (s := 0) (Or.inl rfl) (by decide)
  unfold wrgV zzS
  rw [cwN_sc hsc, shi_sc hsc, hs 0 2 (by omega), hs 0 3 (by omega)]
