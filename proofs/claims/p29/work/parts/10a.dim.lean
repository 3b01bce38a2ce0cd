/-! memories that agree but for some places -/
def sameOut (lo hi : Nat) (μ μ' : Mm) : Prop := ∀ p q : Nat, (p < lo ∨ hi ≤ p) → μ' p q = μ p q
theorem so_refl {lo hi : Nat} {μ : Mm} : sameOut lo hi μ μ := fun _ _ _ => rfl
theorem so_uM {lo hi k j : Nat} {x : Int32} {μ μ' : Mm} (h : sameOut lo hi μ μ') (h1 : lo ≤ k) (h2 : k < hi) : sameOut lo hi μ (uM μ' k j x) := fun p q hp => by
  rw [uM_n (by omega)]; exact h p q hp
theorem so_setRow {lo hi k n : Nat} {f : Nat → Int32} {μ μ' : Mm} (h : sameOut lo hi μ μ') (h1 : lo ≤ k) (h2 : k < hi) : sameOut lo hi μ (setRow μ' k n f) := fun p q hp => by
  rw [setRow_out (by omega)]; exact h p q hp
theorem so_trans {lo hi : Nat} {a b c : Mm} (h : sameOut lo hi a b) (h2 : sameOut lo hi b c) : sameOut lo hi a c := fun p q hp => (h2 p q hp).trans (h p q hp)
theorem so_mono {lo hi lo2 hi2 : Nat} {a b : Mm} (h : sameOut lo hi a b) (h1 : lo2 ≤ lo) (h2 : hi ≤ hi2) : sameOut lo2 hi2 a b := fun p q hp => h p q (by omega)
theorem isS_le {s : Nat} (h : isS s) : s ≤ 60 := by unfold isS at h; omega
theorem isD_ge {d : Nat} (h : isD d) : 75 ≤ d ∧ d ≤ 84 := by unfold isD at h; omega
theorem so_s {lo hi s j q : Nat} {μ μ' : Mm} (h : sameOut lo hi μ μ') (hs : isS s) (hlo : 75 ≤ lo) (hj : j < 15) : μ' (s + j) q = μ (s + j) q := h _ _ (by have := isS_le hs; omega)
/-- the rows of the scene s are the same -/
def scE (s : Nat) (μ μ' : Mm) : Prop := ∀ j q : Nat, 8 ≤ j → j < 15 → μ' (s + j) q = μ (s + j) q
theorem scE_so {lo hi s : Nat} {μ μ' : Mm} (h : sameOut lo hi μ μ') (hs : isS s) (hlo : 75 ≤ lo) : scE s μ μ' := fun j q _ hj => so_s h hs hlo hj
theorem scE_trans {s : Nat} {a b c : Mm} (h : scE s a b) (h2 : scE s b c) : scE s a c := fun j q h8 hj => (h2 j q h8 hj).trans (h j q h8 hj)
theorem lim_sc {s k : Nat} {μ μ' : Mm} (h : scE s μ μ') : lim μ' s k = lim μ s k := by
  unfold lim; rw [h 9 k (by decide) (by decide), h 11 k (by decide) (by decide)]
theorem flo_sc {s k : Nat} {μ μ' : Mm} (h : scE s μ μ') : flo μ' s k = flo μ s k := by
  unfold flo; rw [lim_sc h, h 10 k (by decide) (by decide)]
theorem wgt_sc {s k : Nat} {px py : Int32} {μ μ' : Mm} (h : scE s μ μ') : wgt μ' s k px py = wgt μ s k px py := by
  have e1 : μ' (s + 13) = μ (s + 13) := funext fun q => h 13 q (by decide) (by decide)
  have e2 : μ' (s + 14) = μ (s + 14) := funext fun q => h 14 q (by decide) (by decide)
  have w1 : wayX μ' s k = wayX μ s k := by funext i; unfold wayX; rw [e1]
  have w2 : wayY μ' s k = wayY μ s k := by funext i; unfold wayY; rw [e2]
  have h1 : htS μ' s k px py = htS μ s k px py := by funext i; unfold htS; rw [w1, w2, e1, e2]
  have l1 : lenS μ' s k = lenS μ s k := by funext i; unfold lenS; rw [w1, w2]
  have n1 : nearS μ' s k px py = nearS μ s k px py := by
    funext i
    induction i with
    | zero => rfl
    | succ i ih => simp only [nearS, ih, h1, l1]
  unfold wgt
  rw [h1, n1]
theorem good_sc {s k : Nat} {μ μ' : Mm} (h : scE s μ μ') : goodB μ' s k = goodB μ s k := by
  have e1 : μ' (s + 13) = μ (s + 13) := funext fun q => h 13 q (by decide) (by decide)
  have e2 : μ' (s + 14) = μ (s + 14) := funext fun q => h 14 q (by decide) (by decide)
  have t1 : turnS μ' s k = turnS μ s k := by funext i; unfold turnS; rw [e1, e2]
  have a1 : areaS μ' s k = areaS μ s k := by funext i; unfold areaS; rw [e1, e2]
  unfold goodB
  rw [t1, a1]
theorem shi_sc {s : Nat} {μ μ' : Mm} (h : scE s μ μ') : shiB μ' s = shiB μ s := by
  funext k
  unfold shiB wkB
  rw [good_sc h, h 12 k (by decide) (by decide)]
theorem lim_so {lo hi s k : Nat} {μ μ' : Mm} (h : sameOut lo hi μ μ') (hs : isS s) (hlo : 75 ≤ lo) : lim μ' s k = lim μ s k := lim_sc (scE_so h hs hlo)
theorem flo_so {lo hi s k : Nat} {μ μ' : Mm} (h : sameOut lo hi μ μ') (hs : isS s) (hlo : 75 ≤ lo) : flo μ' s k = flo μ s k := flo_sc (scE_so h hs hlo)
theorem wgt_so {lo hi s k : Nat} {px py : Int32} {μ μ' : Mm} (h : sameOut lo hi μ μ') (hs : isS s) (hlo : 75 ≤ lo) : wgt μ' s k px py = wgt μ s k px py := wgt_sc (scE_so h hs hlo)
theorem shi_so {lo hi s : Nat} {μ μ' : Mm} (h : sameOut lo hi μ μ') (hs : isS s) (hlo : 75 ≤ lo) : shiB μ' s = shiB μ s := shi_sc (scE_so h hs hlo)
/-! the lights of one place, out of rows of eight -/
def mnI (x y : Int32) : Int32 := if y < x then y else x
def mxI (x y : Int32) : Int32 := if x < y then y else x
def misN (t : Int32) (f : Nat → Int32) : Nat → Int32
  | 0 => t
  | n + 1 => misN t f n - f n
def hvN (w : Nat → Int32) : Nat → Nat
  | 0 => 0
  | n + 1 => if w n ≤ w (hvN w n) then hvN w n else n
theorem hvN_lt (w : Nat → Int32) : ∀ n, hvN w n < n ∨ hvN w n = 0
  | 0 => Or.inr rfl
  | n + 1 => by
    unfold hvN
    split
    · rcases hvN_lt w n with h | h
      · left; omega
      · right; exact h
    · left; omega
def shV (w : Nat → Int32) (t : Int32) (n : Nat) : Int32 := t * w n / sumN 8 w
def l1V (w : Nat → Int32) (t : Int32) (n : Nat) : Int32 := if sumN 8 w ≤ 0 then 0 else if n = hvN w 8 then shV w t n + misN t (shV w t) 8 else shV w t n
def l2V (cv : Int32) (li fl l : Nat → Int32) (n : Nat) : Int32 := if bitB cv n = true then mxI (fl n) (mnI (li n) (l n)) else l n
def bmV (cv : Int32) (li fl l : Nat → Int32) (m0 : Int32) : Nat → Int32
  | 0 => m0
  | n + 1 => if bitB cv n = true then bmV cv li fl l m0 n - (if bmV cv li fl l m0 n ≤ 0 then mxI (bmV cv li fl l m0 n) (fl n - l n) else mnI (bmV cv li fl l m0 n) (li n - l n)) else bmV cv li fl l m0 n
def nlV (cv : Int32) (li fl l : Nat → Int32) (m0 : Int32) (n : Nat) : Int32 := if bitB cv n = true then l n + (if bmV cv li fl l m0 n ≤ 0 then mxI (bmV cv li fl l m0 n) (fl n - l n) else mnI (bmV cv li fl l m0 n) (li n - l n)) else l n
def stV (b cv t : Int32) : Int32 := if b = t then 0 else if cv = 0 then 1 else if t ≤ b then 3 else 2
/-! the same on a dimmer's memory -/
def prepM (μ : Mm) (d s : Nat) (z : Int32) (i : Nat) : Mm := setRow (setRow (uM μ d 4 z) (d + 5) i (lim μ s)) (d + 6) i (flo μ s)
theorem prepM_so (μ : Mm) (d s : Nat) (z : Int32) (i : Nat) : sameOut d (d + 9) μ (prepM μ d s z i) := so_setRow (so_setRow (so_uM so_refl (by omega) (by omega)) (by omega) (by omega)) (by omega) (by omega)
theorem prepM_0 (μ : Mm) (d s : Nat) (z : Int32) : prepM μ d s z 0 = uM μ d 4 z := by
  unfold prepM; rw [setRow_0, setRow_0]
theorem uM_comm {μ : Mm} {a b i j : Nat} {x y : Int32} (h : ¬ (a = b ∧ i = j)) : uM (uM μ a i x) b j y = uM (uM μ b j y) a i x := by
  funext p q
  simp only [uM]
  by_cases h1 : p = b ∧ q = j
  · by_cases h2 : p = a ∧ q = i
    · omega
    · rw [if_pos h1, if_neg h2, if_pos h1]
  · by_cases h2 : p = a ∧ q = i
    · rw [if_neg h1, if_pos h2, if_pos h2]
    · rw [if_neg h1, if_neg h2, if_neg h2, if_neg h1]
theorem uM_over (μ : Mm) (a i : Nat) (x y : Int32) : uM (uM μ a i x) a i y = uM μ a i y := by
  funext p q
  simp only [uM]
  by_cases h1 : p = a ∧ q = i
  · rw [if_pos h1, if_pos h1]
  · rw [if_neg h1, if_neg h1, if_neg h1]
theorem uM_setRow {μ : Mm} {a b i n : Nat} {x : Int32} {f : Nat → Int32} (h : a ≠ b) : uM (setRow μ a n f) b i x = setRow (uM μ b i x) a n f := by
  funext p q
  simp only [uM, setRow]
  by_cases h1 : p = b ∧ q = i
  · have h2 : ¬ (p = a ∧ q < n) := by omega
    rw [if_pos h1, if_neg h2, if_pos h1]
  · rw [if_neg h1]
    by_cases h2 : p = a ∧ q < n
    · rw [if_pos h2, if_pos h2]
    · rw [if_neg h2, if_neg h2, if_neg h1]
theorem uM_self (μ : Mm) (a i : Nat) : uM μ a i (μ a i) = μ := by
  funext p q
  simp only [uM]
  by_cases h1 : p = a ∧ q = i
  · rw [if_pos h1, h1.1, h1.2]
  · rw [if_neg h1]
theorem setRow_keep {μ : Mm} {a n : Nat} {f : Nat → Int32} (h : f n = μ a n) : setRow μ a (n + 1) f = setRow μ a n f := by
  have h1 := setRow_succ μ a n f
  have h2 : setRow μ a n f a n = f n := by rw [setRow_out (by omega), h]
  rw [← h1, ← h2, uM_self]
theorem prepM_succ (μ : Mm) (d s : Nat) (z : Int32) (i : Nat) : uM (uM (prepM μ d s z i) (d + 5) i (lim μ s i)) (d + 6) i (flo μ s i) = prepM μ d s z (i + 1) := by
  unfold prepM
  rw [← setRow_succ _ (d + 6) i, ← setRow_succ _ (d + 5) i, uM_setRow (by omega)]
def wvV (μ : Mm) (d s : Nat) (px py : Int32) (n : Nat) : Int32 := if bitB (μ d 4) n = true then wgt μ s n px py else 0
def covV (w : Nat → Int32) (n : Nat) : Int32 := orN n (fun k => decide (0 < w k))
def dimL (μ : Mm) (d : Nat) (w : Nat → Int32) (i : Nat) : Mm := setRow (setRow (uM μ d 5 (covV w i)) (d + 7) i w) (d + 8) i (fun _ => 0)
theorem dimL_so (μ : Mm) (d : Nat) (w : Nat → Int32) (i : Nat) : sameOut d (d + 9) μ (dimL μ d w i) := so_setRow (so_setRow (so_uM so_refl (by omega) (by omega)) (by omega) (by omega)) (by omega) (by omega)
theorem dimL_0 (μ : Mm) (d : Nat) (w : Nat → Int32) : dimL μ d w 0 = uM μ d 5 0 := by
  unfold dimL; rw [setRow_0, setRow_0]; rfl
theorem dimL_cov (μ : Mm) (d : Nat) (w : Nat → Int32) (i : Nat) : dimL μ d w i d 5 = covV w i := by
  unfold dimL; rw [setRow_out (by omega), setRow_out (by omega), uM_s]
theorem dimL_sh (μ : Mm) (d : Nat) (w : Nat → Int32) (i : Nat) : dimL μ d w i d 4 = μ d 4 := by
  unfold dimL; rw [setRow_out (by omega), setRow_out (by omega), uM_n (by omega)]
theorem dimL_succ (μ : Mm) (d : Nat) (w : Nat → Int32) (i : Nat) : uM (uM (uM (dimL μ d w i) (d + 7) i (w i)) (d + 8) i 0) d 5 (covV w (i + 1)) = dimL μ d w (i + 1) := by
  unfold dimL
  rw [← setRow_succ _ (d + 8) i, ← setRow_succ _ (d + 7) i]
  rw [uM_comm (a := d + 8) (by omega), uM_comm (a := d + 7) (by omega), uM_setRow (by omega : d + 8 ≠ d), uM_setRow (by omega : d + 7 ≠ d), uM_over, uM_setRow (by omega : d + 8 ≠ d + 7)]
theorem covV_t {w : Nat → Int32} {i : Nat} (h : ¬ w i ≤ 0) : covV w (i + 1) = covV w i ||| oneI i := if_pos (decide_eq_true (Int32.not_le.mp h))
theorem covV_f {w : Nat → Int32} {i : Nat} (h : w i ≤ 0) : covV w (i + 1) = covV w i := if_neg (fun q => absurd (of_decide_eq_true q) (Int32.not_lt.mpr h))
def shM (μ : Mm) (d : Nat) (t : Int32) : Mm := if sumN 8 (μ (d + 7)) ≤ 0 then μ else uM (setRow μ (d + 8) 8 (shV (μ (d + 7)) t)) (d + 8) (hvN (μ (d + 7)) 8) (shV (μ (d + 7)) t (hvN (μ (d + 7)) 8) + misN t (shV (μ (d + 7)) t) 8)
def klM (μ : Mm) (d : Nat) : Mm := setRow μ (d + 8) 8 (l2V (μ d 5) (μ (d + 5)) (μ (d + 6)) (μ (d + 8)))
def baM (μ : Mm) (d : Nat) (t : Int32) : Mm := uM (setRow μ (d + 8) 8 (nlV (μ d 5) (μ (d + 5)) (μ (d + 6)) (μ (d + 8)) (misN t (μ (d + 8)) 8))) d 6 (t - bmV (μ d 5) (μ (d + 5)) (μ (d + 6)) (μ (d + 8)) (misN t (μ (d + 8)) 8) 8)
def dimF (μ : Mm) (d s : Nat) (px py t : Int32) : Mm :=
  uM (baM (klM (shM (dimL μ d (wvV μ d s px py) 8) d t) d) d t) d 7 (stV (baM (klM (shM (dimL μ d (wvV μ d s px py) 8) d t) d) d t d 6) (baM (klM (shM (dimL μ d (wvV μ d s px py) 8) d t) d) d t d 5) t)
theorem shM_so (μ : Mm) (d : Nat) (t : Int32) : sameOut (d + 8) (d + 9) μ (shM μ d t) := by
  unfold shM
  split
  · exact so_refl
  · exact so_uM (so_setRow so_refl (by omega) (by omega)) (by omega) (by omega)
theorem klM_so (μ : Mm) (d : Nat) : sameOut (d + 8) (d + 9) μ (klM μ d) := so_setRow so_refl (by omega) (by omega)
theorem baM_so (μ : Mm) (d : Nat) (t : Int32) : sameOut d (d + 9) μ (baM μ d t) := so_uM (so_setRow so_refl (by omega) (by omega)) (by omega) (by omega)
theorem dimF_so (μ : Mm) (d s : Nat) (px py t : Int32) : sameOut d (d + 9) μ (dimF μ d s px py t) :=
  so_uM (so_trans (so_trans (so_trans (dimL_so μ d _ 8) (so_mono (shM_so _ d t) (by omega) (by omega))) (so_mono (klM_so _ d) (by omega) (by omega))) (baM_so _ d t)) (by omega) (by omega)
/-! what the dimmer holds behind dimPoint -/
def vL1 (w : Nat → Int32) (t : Int32) : Nat → Int32 := l1V w t
def vL2 (w li fl : Nat → Int32) (t : Int32) : Nat → Int32 := l2V (covV w 8) li fl (l1V w t)
def vM (w li fl : Nat → Int32) (t : Int32) : Int32 := misN t (vL2 w li fl t) 8
def vL (w li fl : Nat → Int32) (t : Int32) : Nat → Int32 := nlV (covV w 8) li fl (vL2 w li fl t) (vM w li fl t)
def vB (w li fl : Nat → Int32) (t : Int32) : Int32 := t - bmV (covV w 8) li fl (vL2 w li fl t) (vM w li fl t) 8
def vS (w li fl : Nat → Int32) (t : Int32) : Int32 := stV (vB w li fl t) (covV w 8) t
theorem misN_congr {t : Int32} {f g : Nat → Int32} : ∀ {n : Nat}, (∀ k, k < n → f k = g k) → misN t f n = misN t g n
  | 0, _ => rfl
  | n + 1, h => by
    show misN t f n - f n = misN t g n - g n
    rw [misN_congr (fun k hk => h k (by omega)), h n (by omega)]
theorem bmV_congr {cv m0 : Int32} {li li2 fl fl2 l l2 : Nat → Int32} : ∀ {n : Nat}, (∀ k, k < n → bitB cv k = true → li k = li2 k ∧ fl k = fl2 k) → (∀ k, k < n → l k = l2 k) → bmV cv li fl l m0 n = bmV cv li2 fl2 l2 m0 n
  | 0, _, _ => rfl
  | n + 1, h, h2 => by
    have ih := bmV_congr (cv := cv) (m0 := m0) (n := n) (fun k hk => h k (by omega)) (fun k hk => h2 k (by omega))
    simp only [bmV, ih, h2 n (by omega)]
    by_cases hb : bitB cv n = true
    · rw [(h n (by omega) hb).1, (h n (by omega) hb).2]
    · rw [if_neg hb, if_neg hb]
theorem nlV_congr {cv m0 : Int32} {li li2 fl fl2 l l2 : Nat → Int32} {n : Nat} (h : ∀ k, k < n + 1 → bitB cv k = true → li k = li2 k ∧ fl k = fl2 k) (h2 : ∀ k, k < n + 1 → l k = l2 k) : nlV cv li fl l m0 n = nlV cv li2 fl2 l2 m0 n := by
  have ih := bmV_congr (cv := cv) (m0 := m0) (n := n) (fun k hk => h k (by omega)) (fun k hk => h2 k (by omega))
  simp only [nlV, ih, h2 n (by omega)]
  by_cases hb : bitB cv n = true
  · rw [(h n (by omega) hb).1, (h n (by omega) hb).2]
  · rw [if_neg hb, if_neg hb]
