/-! the commands: what they do, what a run of them does -/
abbrev tn (x : Int32) : Nat := x.toNatClampNeg
theorem nat_lt {x : Int32} {c : Nat} (h0 : 0 ≤ x) (h : x < nI c) (hc : c < 2147483648) : ∃ j, j < c ∧ x = nI j := by
  obtain ⟨j, hj, rfl⟩ := nI_of (Int32.not_lt.mpr h0)
  exact ⟨j, (nI_ltI hj hc).mp h, rfl⟩
theorem nat_le {x N : Int32} {n : Nat} (hN : N = nI n) (h : rgI x 0 N) (hn : n < 2147483648) : ∃ j, j ≤ n ∧ x = nI j := by
  subst hN
  obtain ⟨j, hj, rfl⟩ := nI_of (Int32.not_lt.mpr h.1)
  exact ⟨j, (nI_leI hj hn).mp h.2, rfl⟩
/-- the command w with the numbers n is allowed -/
def cmdOK (μ : Mm) (w : Nat) (n : Nat → Int32) : Prop := match w with
  | 1 => wallOK (n 0) (n 1)
  | 2 => (plOK μ (n 0) (n 1) ∧ plOK μ (n 2) (n 3)) ∧ ptOK (n 0) (n 1) (n 2) (n 3) (n 4)
  | 3 => nlOK (n 0) (n 1) ∧ μ 0 5 < 8
  | 4 => (lpOK μ (n 0) ∧ rgI (n 1) 0 3) ∧ coOK (n 2) (n 3)
  | 5 => shOK (n 0) (n 1)
  | 6 => lpOK μ (n 0)
  | 7 => lpOK μ (n 0)
  | _ => rgI (n 0) 1 9999
/-- the command w with the numbers n turns μ into m -/
def doC (μ : Mm) (lc c r : Nat) (w : Nat) (n : Nat → Int32) (m : Mm) : Prop := match w with
  | 1 => wallM μ 0 (n 0) (n 1) = m
  | 2 => uM (ptR 8 (n 4) c (tn (n 0)) (tn (n 2) - tn (n 0) + 1) (tn (n 1)) (tn (n 3) - tn (n 1) + 1) (0, μ)).2 0 6 1 = m
  | 3 => hang μ 0 lc (n 0) (n 1) = m
  | 4 => mvc μ 0 (4 * tn (n 0) + tn (n 1)) (n 2) (n 3) = m
  | 5 => movM μ (n 0) (n 1) = m
  | 6 => uM (uM μ 12 (tn (n 0)) 0) 0 6 1 = m
  | 7 => uM (uM μ 12 (tn (n 0)) 1) 0 6 1 = m
  | _ => ∃ m0, RfP μ lc c r m0 ∧ burnM m0 (ldJ μ lc c r) (n 0) lc = m
theorem doC2 {μ : Mm} {lc c r x y u v : Nat} {n : Nat → Int32} (ex : n 0 = nI x) (ey : n 1 = nI y) (eu : n 2 = nI u) (ev : n 3 = nI v) (hx : x < 2147483648) (hy : y < 2147483648) (hu : u < 2147483648) (hv : v < 2147483648) : doC μ lc c r 2 n (uM (ptR (0 + 8) (n 4) c x (u - x + 1) y (v - y + 1) (0, μ)).2 0 6 1) := by
  show uM (ptR 8 (n 4) c (tn (n 0)) (tn (n 2) - tn (n 0) + 1) (tn (n 1)) (tn (n 3) - tn (n 1) + 1) (0, μ)).2 0 6 1 = _
  rw [ex, ey, eu, ev, tn, tn, tn, tn, nI_clamp hx, nI_clamp hy, nI_clamp hu, nI_clamp hv]
theorem doC4 {μ : Mm} {lc c r k i : Nat} {n : Nat → Int32} (ek : n 0 = nI k) (ei : n 1 = nI i) (hk : k < 2147483648) (hi : i < 2147483648) : doC μ lc c r 4 n (mvc μ 0 (4 * k + i) (n 2) (n 3)) := by
  show mvc μ 0 (4 * tn (n 0) + tn (n 1)) (n 2) (n 3) = _
  rw [ek, ei, tn, tn, nI_clamp hk, nI_clamp hi]
theorem doC6 {μ : Mm} {lc c r k : Nat} {n : Nat → Int32} (ek : n 0 = nI k) (hk : k < 2147483648) : doC μ lc c r 6 n (uM (uM μ (0 + 12) k (if (0 : Int32) = 0 then 0 else 1)) 0 6 1) := by
  show uM (uM μ 12 (tn (n 0)) 0) 0 6 1 = _
  rw [ek, tn, nI_clamp hk, if_pos rfl]
theorem doC7 {μ : Mm} {lc c r k : Nat} {n : Nat → Int32} (ek : n 0 = nI k) (hk : k < 2147483648) : doC μ lc c r 7 n (uM (uM μ (0 + 12) k (if (1 : Int32) = 0 then 0 else 1)) 0 6 1) := by
  show uM (uM μ 12 (tn (n 0)) 1) 0 6 1 = _
  rw [ek, tn, nI_clamp hk, if_neg (by decide)]
theorem brnM_or (m : Mm) (ld : Nat → Int32) (h : Int32) : ∀ i, brnM m ld h i = m ∨ brnM m ld h i 0 6 = 1 := by
  intro i
  induction i with
  | zero => exact Or.inl rfl
  | succ i ih =>
    rw [brnM]
    by_cases hk : wkB m 0 i = true
    · rw [if_pos hk]; exact Or.inr (uM_s _ _ _ _)
    · rw [if_neg hk]; exact ih
theorem hangC_out {μ : Mm} {k p q : Nat} {g l : Int32} (h1 : p < 9 ∨ 15 ≤ p) (h2 : ¬ (p = 0 ∧ (q = 5 ∨ q = 6))) : ∀ i, hangC μ 0 k g l i p q = μ p q := by
  intro i
  induction i with
  | zero =>
    show uM (uM (uM (uM (uM μ 0 5 _) _ k g) _ k l) _ k 0) _ k 1 p q = _
    rw [uM_n (by omega), uM_n (by omega), uM_n (by omega), uM_n (by omega), uM_n (by omega)]
  | succ i ih =>
    rw [hangC, mvc_out (by omega) (by omega) (by omega)]
    exact ih
theorem hang_out {μ : Mm} {k p q : Nat} {g l : Int32} (h1 : p < 9 ∨ 15 ≤ p) (h2 : ¬ (p = 0 ∧ (q = 5 ∨ q = 6))) : hang μ 0 k g l p q = μ p q := by
  rw [hang, uM_n (by omega)]
  exact hangC_out h1 h2 4
theorem hang_5 {μ : Mm} {k : Nat} {g l : Int32} : hang μ 0 k g l 0 5 = nI (k + 1) := by
  rw [hang, uM_n (by omega), hangC, mvc_out (by omega) (by omega) (by omega), hangC, mvc_out (by omega) (by omega) (by omega), hangC, mvc_out (by omega) (by omega) (by omega), hangC, mvc_out (by omega) (by omega) (by omega)]
  rw [hangC, hang0, uM_n (by omega), uM_n (by omega), uM_n (by omega), uM_n (by omega), uM_s, nI_1]
theorem wallM_out {μ : Mm} {p q : Nat} {a b : Int32} (h1 : p ≠ 8) (h2 : ¬ (p = 0 ∧ (q < 4 ∨ q = 6))) : wallM μ 0 a b p q = μ p q := by
  rw [wallM, uM_n (by omega)]
  show setRow _ 8 384 _ p q = _
  rw [setRow, if_neg (by omega), uM_n (by omega), uM_n (by omega), uM_n (by omega), uM_n (by omega)]
theorem wallM_0 {μ : Mm} {a b : Int32} : wallM μ 0 a b 0 0 = a ∧ wallM μ 0 a b 0 1 = b := by
  constructor
  · rw [wallM, uM_n (by omega)]
    show setRow _ 8 384 _ 0 0 = _
    rw [setRow, if_neg (by omega), uM_n (by omega), uM_n (by omega), uM_n (by omega), uM_s]
  · rw [wallM, uM_n (by omega)]
    show setRow _ 8 384 _ 0 1 = _
    rw [setRow, if_neg (by omega), uM_n (by omega), uM_n (by omega), uM_s]
def cmC (w : Nat) (n : Nat → Int32) (c : Nat) : Nat := if w = 1 then tn (n 0) else c
def cmR (w : Nat) (n : Nat → Int32) (r : Nat) : Nat := if w = 1 then tn (n 1) else r
def cmL (w : Nat) (lc : Nat) : Nat := if w = 3 then lc + 1 else lc
/-- a command leaves all but the scene and its survey -/
theorem doC_out {μ m : Mm} {c r lc w p q : Nat} {n : Nat → Int32} (hd : doC μ lc c r w n m) (hp : (15 ≤ p ∧ p < 75) ∨ 102 ≤ p) : m p q = μ p q := by
  unfold doC at hd
  split at hd
  · subst hd; exact wallM_out (by omega) (by omega)
  · subst hd; rw [uM_n (by omega), ptR_out (by omega)]
  · subst hd; exact hang_out (by omega) (by omega)
  · subst hd; exact mvc_out (by omega) (by omega) (by omega)
  · subst hd; exact movM_out (by omega)
  · subst hd; rw [uM_n (by omega), uM_n (by omega)]
  · subst hd; rw [uM_n (by omega), uM_n (by omega)]
  · obtain ⟨m0, hR, rfl⟩ := hd
    rw [burnM, uM_n (by omega), brnM_out (by omega) lc (by omega)]
    exact hR.2.2 p q (by omega) (by omega) (by omega) (by omega)
theorem doC_CIv {μ m : Mm} {c r lc la cn w : Nat} {n : Nat → Int32} (h : CIv μ c r lc la cn) (hw : 1 ≤ w) (hw8 : w ≤ 8) (ho : cmdOK μ w n) (hd : doC μ lc c r w n m) : CIv m (cmC w n c) (cmR w n r) (cmL w lc) la cn := by
  have e1 : m 107 1 = nI la := (doC_out hd (by omega)).trans h.2.2.2.1
  have e2 : m 107 2 = nI cn := (doC_out hd (by omega)).trans h.2.2.2.2.1
  obtain ⟨hc, hr, hlc, hla, hcn, ⟨g1, g2, g3, g4, g5, g6, g7⟩, hv⟩ := h
  have n0 : (1 : Int32) = 0 → False := by decide
  rcases (show w = 1 ∨ w = 2 ∨ w = 3 ∨ w = 4 ∨ w = 5 ∨ w = 6 ∨ w = 7 ∨ w = 8 by omega) with rfl | rfl | rfl | rfl | rfl | rfl | rfl | rfl
  · have hd2 : wallM μ 0 (n 0) (n 1) = m := hd
    have ho2 : wallOK (n 0) (n 1) := ho
    obtain ⟨a, ha, ea⟩ := nat_le (n := 24) rfl (⟨Int32.le_trans (by decide) ho2.1.1, ho2.1.2⟩ : rgI (n 0) 0 24) (by decide)
    obtain ⟨b, hb, eb⟩ := nat_le (n := 16) rfl (⟨Int32.le_trans (by decide) ho2.2.1, ho2.2.2⟩ : rgI (n 1) 0 16) (by decide)
    have ha1 : 1 ≤ a := by have := ho2.1.1; rw [ea] at this; exact (nI_leI (a := 1) (by decide) (by omega)).mp this
    have hb1 : 1 ≤ b := by have := ho2.2.1; rw [eb] at this; exact (nI_leI (a := 1) (by decide) (by omega)).mp this
    have ta : tn (n 0) = a := by rw [ea, tn, nI_clamp (by omega)]
    have tb : tn (n 1) = b := by rw [eb, tn, nI_clamp (by omega)]
    show CIv m (tn (n 0)) (tn (n 1)) lc la cn
    rw [ta, tb]
    subst hd2
    refine ⟨wallM_0.1.trans ea, wallM_0.2.trans eb, (wallM_out (by omega) (by omega)).trans hlc, e1, e2, ⟨ha1, ha, hb1, hb, g5, g6, g7⟩, fun h0 => (n0 ((uM_s _ _ _ _).symm.trans h0)).elim⟩
  · have hd2 : uM (ptR 8 (n 4) c (tn (n 0)) (tn (n 2) - tn (n 0) + 1) (tn (n 1)) (tn (n 3) - tn (n 1) + 1) (0, μ)).2 0 6 1 = m := hd
    subst hd2
    exact ⟨by rw [uM_n (by omega), ptR_out (by omega)]; exact hc, by rw [uM_n (by omega), ptR_out (by omega)]; exact hr, by rw [uM_n (by omega), ptR_out (by omega)]; exact hlc, e1, e2, ⟨g1, g2, g3, g4, g5, g6, g7⟩, fun h0 => (n0 ((uM_s _ _ _ _).symm.trans h0)).elim⟩
  · have hd2 : hang μ 0 lc (n 0) (n 1) = m := hd
    have ho2 : nlOK (n 0) (n 1) ∧ μ 0 5 < 8 := ho
    have hl : lc < 8 := by have := ho2.2; rw [hlc] at this; exact (nI_ltI (b := 8) (by omega) (by decide)).mp this
    subst hd2
    exact ⟨(hang_out (by omega) (by omega)).trans hc, (hang_out (by omega) (by omega)).trans hr, hang_5, e1, e2, ⟨g1, g2, g3, g4, by show lc + 1 ≤ 8; omega, g6, g7⟩, fun h0 => (n0 ((uM_s _ _ _ _).symm.trans h0)).elim⟩
  · have hd2 : mvc μ 0 (4 * tn (n 0) + tn (n 1)) (n 2) (n 3) = m := hd
    subst hd2
    exact ⟨(mvc_out (by omega) (by omega) (by omega)).trans hc, (mvc_out (by omega) (by omega) (by omega)).trans hr, (mvc_out (by omega) (by omega) (by omega)).trans hlc, e1, e2, ⟨g1, g2, g3, g4, g5, g6, g7⟩, fun h0 => (n0 ((uM_s _ _ _ _).symm.trans h0)).elim⟩
  · have hd2 : movM μ (n 0) (n 1) = m := hd
    subst hd2
    exact ⟨(movM_out (by omega)).trans hc, (movM_out (by omega)).trans hr, (movM_out (by omega)).trans hlc, e1, e2, ⟨g1, g2, g3, g4, g5, g6, g7⟩, fun h0 => (n0 ((uM_s _ _ _ _).symm.trans h0)).elim⟩
  · have hd2 : uM (uM μ 12 (tn (n 0)) 0) 0 6 1 = m := hd
    subst hd2
    exact ⟨by rw [uM_n (by omega), uM_n (by omega)]; exact hc, by rw [uM_n (by omega), uM_n (by omega)]; exact hr, by rw [uM_n (by omega), uM_n (by omega)]; exact hlc, e1, e2, ⟨g1, g2, g3, g4, g5, g6, g7⟩, fun h0 => (n0 ((uM_s _ _ _ _).symm.trans h0)).elim⟩
  · have hd2 : uM (uM μ 12 (tn (n 0)) 1) 0 6 1 = m := hd
    subst hd2
    exact ⟨by rw [uM_n (by omega), uM_n (by omega)]; exact hc, by rw [uM_n (by omega), uM_n (by omega)]; exact hr, by rw [uM_n (by omega), uM_n (by omega)]; exact hlc, e1, e2, ⟨g1, g2, g3, g4, g5, g6, g7⟩, fun h0 => (n0 ((uM_s _ _ _ _).symm.trans h0)).elim⟩
  · obtain ⟨m0, hR, rfl⟩ := (hd : ∃ m0, RfP μ lc c r m0 ∧ burnM m0 (ldJ μ lc c r) (n 0) lc = m)
    have hs : ∀ q, q ≠ 4 → q < 6 → burnM m0 (ldJ μ lc c r) (n 0) lc 0 q = μ 0 q := fun q h4 h6 => by
      rw [burnM, uM_n (by omega), brnM_out (by omega) lc (by omega)]
      exact rf_s hR q h6
    refine ⟨(hs 0 (by omega) (by omega)).trans hc, (hs 1 (by omega) (by omega)).trans hr, (hs 5 (by omega) (by omega)).trans hlc, e1, e2, ⟨g1, g2, g3, g4, g5, g6, g7⟩, fun h0 => ?_⟩
    rw [burnM, uM_n (by omega)] at h0
    rcases brnM_or m0 (ldJ μ lc c r) (n 0) lc with hb | hb
    · rw [burnM, hb]
      exact SVok_same hR.1 (fun j q _ _ => uM_n (by omega)) (uM_n (by omega)) (uM_n (by omega)) (uM_n (by omega)) (fun p q h1 h2 => uM_n (by omega))
    · exact (n0 (hb.symm.trans h0)).elim
theorem CIv_cm {μ : Mm} {c r lc la cn : Nat} (h : CIv μ c r lc la cn) (p : Nat) (f w : Int32) (n : Nat → Int32) : CIv (cmM μ p f w n) c r lc la cn := by
  obtain ⟨hc, hr, hlc, hla, hcn, g, hv⟩ := h
  refine ⟨(cm_o (by omega) (by omega)).trans hc, (cm_o (by omega) (by omega)).trans hr, (cm_o (by omega) (by omega)).trans hlc, (cm_o (by omega) (by omega)).trans hla, (cm_o (by omega) (by omega)).trans hcn, g, fun h0 => ?_⟩
  rw [cm_o (by omega) (by omega)] at h0
  exact SVok_same (hv h0) (fun j q _ _ => cm_o (by omega) (by omega)) (cm_o (by omega) (by omega)) (cm_o (by omega) (by omega)) (cm_o (by omega) (by omega)) (fun p q h1 h2 => cm_o (by omega) (by omega))
theorem cm_self {μ : Mm} {p : Nat} (h : μ 102 3 = nI p) : cmM μ p (μ 102 4) (μ 102 5) (μ 106) = μ := by
  funext a j
  simp only [cmM]
  by_cases h1 : a = 102 ∧ j = 3
  · obtain ⟨rfl, rfl⟩ := h1; rw [if_pos ⟨rfl, rfl⟩]; exact h.symm
  · rw [if_neg h1]
    by_cases h2 : a = 102 ∧ j = 4
    · obtain ⟨rfl, rfl⟩ := h2; rw [if_pos ⟨rfl, rfl⟩]
    · rw [if_neg h2]
      by_cases h3 : a = 102 ∧ j = 5
      · obtain ⟨rfl, rfl⟩ := h3; rw [if_pos ⟨rfl, rfl⟩]
      · rw [if_neg h3]
        by_cases h4 : a = 106 ∧ j < 5
        · obtain ⟨rfl, hj⟩ := h4; rw [if_pos ⟨rfl, hj⟩]
        · rw [if_neg h4]
theorem X_muE {tw : Bool} {Λ : List LE} {M : MD} {Q : Rs → Mm → Prop} {ls : List (Nat × Value)} {st : List Value} {μ μ2 : Mm} {pc : Nat} (h : μ2 = μ) (k : X tw Λ M Q pc ls st μ2) : X tw Λ M Q pc ls st μ := h ▸ k
/-- the command read last: its word, its numbers -/
abbrev wOf (m : Mm) : Nat := tn (m 102 5)
/-- a run of at most F commands from the place p on: k are done, and the memory is m at the end -/
def runC (L : Nat) : Nat → Nat → Nat → Nat → Nat → Mm → Nat → Mm → Prop
  | 0, _, _, _, _, μ, k, m => k = 0 ∧ μ = m
  | F + 1, p, c, r, lc, μ, k, m =>
    ((rdC (bt μ) L p (μ 102 4) (μ 102 5) (μ 106)).1 = true ∧ cmdOK (CM μ (rdC (bt μ) L p (μ 102 4) (μ 102 5) (μ 106))) (wOf (CM μ (rdC (bt μ) L p (μ 102 4) (μ 102 5) (μ 106)))) (CM μ (rdC (bt μ) L p (μ 102 4) (μ 102 5) (μ 106)) 106) ∧ ∃ k1 μ1, k = k1 + 1 ∧ doC (CM μ (rdC (bt μ) L p (μ 102 4) (μ 102 5) (μ 106))) lc c r (wOf (CM μ (rdC (bt μ) L p (μ 102 4) (μ 102 5) (μ 106)))) (CM μ (rdC (bt μ) L p (μ 102 4) (μ 102 5) (μ 106)) 106) μ1 ∧
      runC L F (rdC (bt μ) L p (μ 102 4) (μ 102 5) (μ 106)).2.1 (cmC (wOf (CM μ (rdC (bt μ) L p (μ 102 4) (μ 102 5) (μ 106)))) (CM μ (rdC (bt μ) L p (μ 102 4) (μ 102 5) (μ 106)) 106) c) (cmR (wOf (CM μ (rdC (bt μ) L p (μ 102 4) (μ 102 5) (μ 106)))) (CM μ (rdC (bt μ) L p (μ 102 4) (μ 102 5) (μ 106)) 106) r) (cmL (wOf (CM μ (rdC (bt μ) L p (μ 102 4) (μ 102 5) (μ 106)))) lc) μ1 k1 m) ∨
    (¬ ((rdC (bt μ) L p (μ 102 4) (μ 102 5) (μ 106)).1 = true ∧ cmdOK (CM μ (rdC (bt μ) L p (μ 102 4) (μ 102 5) (μ 106))) (wOf (CM μ (rdC (bt μ) L p (μ 102 4) (μ 102 5) (μ 106)))) (CM μ (rdC (bt μ) L p (μ 102 4) (μ 102 5) (μ 106)) 106)) ∧ k = 0 ∧ CM μ (rdC (bt μ) L p (μ 102 4) (μ 102 5) (μ 106)) = m)
theorem rdC_wd {b : Nat → Int32} {L p : Nat} {f w : Int32} {n : Nat → Int32} (h : (rdC b L p f w n).1 = true) : ∃ k, 1 ≤ k ∧ k ≤ 8 ∧ (rdC b L p f w n).2.2.2.1 = nI k ∧ (rdC b L p f w n).2.2.1 = f := by
  unfold rdC at h ⊢
  by_cases h1 : L ≤ sk b p
  · rw [if_pos h1] at h; exact Bool.noConfusion h
  · rw [if_neg h1] at h ⊢
    unfold rdW at h ⊢
    by_cases h2 : wdOf b (sk b p) (lt b (sk b p)) = 0
    · rw [if_pos h2] at h; exact Bool.noConfusion h
    · rw [if_neg h2] at h ⊢
      unfold rdE at h ⊢
      by_cases h3 : (rdNs b (nOf (wdOf b (sk b p) (lt b (sk b p)))) 0 (lt b (sk b p)) fun _ => 0).1 = true
      · rw [if_pos h3] at h ⊢
        by_cases h4 : b (sk b (rdNs b (nOf (wdOf b (sk b p) (lt b (sk b p)))) 0 (lt b (sk b p)) fun _ => 0).2.1) = 59
        · rw [if_pos h4]; exact ⟨_, by omega, wdOf_le _ _ _, rfl, rfl⟩
        · rw [if_neg h4] at h; exact Bool.noConfusion h
      · rw [if_neg h3] at h; exact Bool.noConfusion h
theorem TX_same {μ m : Mm} {L : Nat} (h : TX μ L) (h2 : m 102 2 = μ 102 2) (h5 : ∀ q, m 105 q = μ 105 q) : TX m L := ⟨h2.trans h.1, h.2.1, fun i hi => by have := h.2.2 i hi; unfold bt at this ⊢; rw [h5]; exact this⟩
theorem bt_same {μ m : Mm} (h5 : ∀ q, m 105 q = μ 105 q) : bt m = bt μ := by
  funext i; unfold bt; rw [h5]
