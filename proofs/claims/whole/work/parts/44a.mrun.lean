/-! carrying out -/
def RS2 (μ m : Mm) : Prop := ∀ p q : Nat, p ≠ 1 → ¬ (p = 0 ∧ (q = 7 ∨ 11 ≤ q)) → p ≠ 5 → p ≠ 6 → p ≠ 7 → p ≠ 8 → m p q = μ p q
theorem RS2_r {μ : Mm} : RS2 μ μ := fun _ _ _ _ _ _ _ _ => rfl
theorem RS2_t {a b d : Mm} (h : RS2 a b) (h2 : RS2 b d) : RS2 a d := fun p q h1 h3 h5 h6 h7 h8 => (h2 p q h1 h3 h5 h6 h7 h8).trans (h p q h1 h3 h5 h6 h7 h8)
theorem RS2_1 {a b : Mm} (h : RS1 a b) : RS2 a b := fun p q h1 h3 h5 h6 h7 _ => h p q h1 (by omega) h5 h6 h7
theorem RS2_pm {μ : Mm} {p : Nat} {w : Int32} {n : Nat → Int32} : RS2 μ (pmM μ p w n) := fun _ _ _ h3 _ _ _ h8 => pm_o (by omega) h8
theorem TM_2 {b : Nat → Int32} {L : Nat} {μ m : Mm} (h : TM b L μ) (hs : RS2 μ m) : TM b L m := ⟨(hs 0 5 (by decide) (by decide) (by decide) (by decide) (by decide) (by decide)).trans h.1, h.2.1, fun i hi => (hs 4 i (by decide) (by omega) (by decide) (by decide) (by decide) (by decide)).trans (h.2.2.1 i hi), h.2.2.2⟩
theorem pm_self {m : Mm} {p : Nat} (h : m 0 19 = nI p) : pmM m p (m 0 20) (m 8) = m := by
  rw [← pm_0, ← h, uM_self]
theorem MI_pm {V μ : Mm} {c r lc p : Nat} {w : Int32} {n : Nat → Int32} (h : MI V c r lc μ) : MI V c r lc (pmM μ p w n) := MI_e h (funext fun q => pm_o (by omega) (by decide)) (pm_o (by omega) (by decide))
theorem brn_V {V m0 : Mm} {lc c r : Nat} {ld : Nat → Int32} {h : Int32} (hR : RfP V lc c r m0) : ∀ i p q, p < 15 → ¬ (p = 0 ∧ q = 6) → brnM m0 ld h i p q = brnM V ld h i p q := by
  intro i
  induction i with
  | zero => intro p q hp h0; exact hR.2.2 p q h0 (by omega) (by omega) (by omega)
  | succ i ih =>
    intro p q hp h0
    have e : wkB m0 0 i = wkB V 0 i := by
      unfold wkB
      rw [show m0 (0 + 12) i = V (0 + 12) i from hR.2.2 _ _ (by omega) (by omega) (by omega) (by omega)]
    rw [brnM, brnM, e]
    by_cases k : wkB V 0 i = true
    · rw [if_pos k, if_pos k]
      unfold wearM
      rw [uM_n h0, uM_n h0, ih 11 i (by decide) (by omega)]
      by_cases z : p = 11 ∧ q = i
      · obtain ⟨rfl, rfl⟩ := z; rw [uM_s, uM_s]
      · rw [uM_n z, uM_n z]; exact ih p q hp h0
    · rw [if_neg k, if_neg k]; exact ih p q hp h0
theorem burn_V {V m0 : Mm} {lc c r : Nat} {ld : Nat → Int32} {h : Int32} (hR : RfP V lc c r m0) : ∀ p q, p < 15 → ¬ (p = 0 ∧ q = 6) → burnM m0 ld h lc p q = burnM V ld h lc p q := fun p q hp h0 => by
  unfold burnM
  rw [brn_V hR lc 0 4 (by decide) (by omega)]
  by_cases z : p = 0 ∧ q = 4
  · obtain ⟨rfl, rfl⟩ := z; rw [uM_s, uM_s]
  · rw [uM_n z, uM_n z]; exact brn_V hR lc p q hp h0
/-- what carrying out a command says -/
def DOP (V : Mm) (c r lc wd : Nat) (n : Nat → Int32) (μ : Mm) (x : Int32) (m : Mm) : Prop := (¬ cmdOK V wd n ∧ ¬ x = 0 ∧ RS2 μ m ∧ m 1 = μ 1) ∨ (cmdOK V wd n ∧ 0 = x ∧ RS2 μ m ∧ m 0 19 = μ 0 19 ∧ ∀ V2, doC V lc c r wd n V2 → MI V2 (cmC wd n c) (cmR wd n r) (cmL wd lc) m)
theorem dop2 {A : Prop} {V V1 μ m : Mm} {c r lc c1 r1 l1 wd : Nat} {a x : Int32} {n : Nat → Int32} (h : (¬ A ∧ 1 = x ∧ μ = m) ∨ (A ∧ 0 = x ∧ OPOK V1 c1 r1 l1 a μ m)) (hA : A ↔ cmdOK V wd n) (hd : ∀ V2, doC V lc c r wd n V2 → ∀ p q : Nat, p < 15 → ¬ (p = 0 ∧ q = 6) → V2 p q = V1 p q) (ec : cmC wd n c = c1) (er : cmR wd n r = r1) (el : cmL wd lc = l1) : DOP V c r lc wd n μ x m := by
  subst ec
  subst er
  subst el
  rcases h with ⟨h1, rfl, rfl⟩ | ⟨h1, rfl, h2⟩
  · exact Or.inl ⟨fun z => h1 (hA.mpr z), by decide, RS2_r, rfl⟩
  · exact Or.inr ⟨hA.mp h1, rfl, RS2_1 h2.2.2, h2.2.2 0 19 (by decide) (by decide) (by decide) (by decide) (by decide), fun V2 hV => MI_V h2.1 (hd V2 hV)⟩
theorem dop3 {A B : Prop} {V V1 μ m : Mm} {c r lc c1 r1 l1 wd : Nat} {a x : Int32} {n : Nat → Int32} (h : (¬ A ∧ 1 = x ∧ μ = m) ∨ (A ∧ ¬ B ∧ 2 = x ∧ μ = m) ∨ (A ∧ B ∧ 0 = x ∧ OPOK V1 c1 r1 l1 a μ m)) (hA : (A ∧ B) ↔ cmdOK V wd n) (hd : ∀ V2, doC V lc c r wd n V2 → ∀ p q : Nat, p < 15 → ¬ (p = 0 ∧ q = 6) → V2 p q = V1 p q) (ec : cmC wd n c = c1) (er : cmR wd n r = r1) (el : cmL wd lc = l1) : DOP V c r lc wd n μ x m := by
  subst ec
  subst er
  subst el
  rcases h with ⟨h1, rfl, rfl⟩ | ⟨h1, hb, rfl, rfl⟩ | ⟨h1, hb, rfl, h2⟩
  · exact Or.inl ⟨fun z => h1 (hA.mpr z).1, by decide, RS2_r, rfl⟩
  · exact Or.inl ⟨fun z => hb (hA.mpr z).2, by decide, RS2_r, rfl⟩
  · exact Or.inr ⟨hA.mp ⟨h1, hb⟩, rfl, RS2_1 h2.2.2, h2.2.2 0 19 (by decide) (by decide) (by decide) (by decide) (by decide), fun V2 hV => MI_V h2.1 (hd V2 hV)⟩
def HVd (V : Mm) (c r lc : Nat) : Prop := V 0 0 = nI c ∧ V 0 1 = nI r ∧ V 0 5 = nI lc
theorem pl_iff {V : Mm} {c r lc : Nat} {x y : Int32} (h : HVd V c r lc) : PL c r x y ↔ plOK V x y := by
  unfold PL plOK
  rw [h.1, h.2.1, and_assoc]
theorem lp_iff {V : Mm} {c r lc : Nat} {n : Int32} (h : HVd V c r lc) : LPn lc n ↔ lpOK V n := by
  unfold LPn lpOK
  rw [h.2.2]
theorem l8_iff {V : Mm} {c r lc : Nat} (h : HVd V c r lc) (h8 : lc ≤ 8) : lc < 8 ↔ V 0 5 < 8 := by
  rw [h.2.2]; exact (nI_ltI (b := 8) (by omega) (by decide)).symm
theorem HVd_C {V : Mm} {c r lc la cn : Nat} (h : CIv V c r lc la cn) : HVd V c r lc := ⟨h.1, h.2.1, h.2.2.1⟩
theorem eqV {a b : Mm} (h : a = b) : ∀ p q : Nat, p < 15 → ¬ (p = 0 ∧ q = 6) → b p q = a p q := fun p q _ _ => by rw [h]
theorem rdW_wd {b : Nat → Int32} {f : Int32} {n : Nat → Int32} {s e wd : Nat} (h : (rdW b f n s e wd).1 = true) : ¬ wd = 0 ∧ (rdW b f n s e wd).2.2.2.1 = nI wd := by
  unfold rdW at h ⊢
  by_cases h2 : wd = 0
  · rw [if_pos h2] at h; exact Bool.noConfusion h
  · rw [if_neg h2] at h ⊢
    refine ⟨h2, ?_⟩
    unfold rdE at h ⊢
    split
    · split <;> rfl
    · rfl
/-! a run of commands -/
noncomputable abbrev RD (b : Nat → Int32) (L p : Nat) (W : Mm) : CR := rdC b L p (W 102 4) (W 102 5) (W 106)
def FIN (V : Mm) (k la cn : Nat) (μ : Mm) (N : Nat) (m : Mm) : Prop := N = k ∧ ∃ c r lc, CIv V c r lc la cn ∧ MI V c r lc m ∧ RS2 μ m
def RNI (b : Nat → Int32) (L : Nat) (V : Mm) (k la cn : Nat) (μ : Mm) (F p c r lc : Nat) (W : Mm) (k1 N : Nat) (m : Mm) : Prop := runC L F p c r lc W k1 V ∧ N + k1 = k ∧ CIv W c r lc la cn ∧ MI W c r lc m ∧ TX W L ∧ bt W = b ∧ 150 ≤ F + p ∧ p ≤ L ∧ m 0 19 = nI (sk b p) ∧ RS2 μ m
def RUNI (b : Nat → Int32) (L : Nat) (V : Mm) (k la cn : Nat) (μ : Mm) (G : Int32) (N : Nat) (m : Mm) (kf : Nat) : Prop := (G = 1 ∧ ∃ F p c r lc W k1, RNI b L V k la cn μ F p c r lc W k1 N m ∧ L + 1 < p + kf) ∨ (G = 0 ∧ FIN V k la cn μ N m ∧ 0 < kf)
theorem CM_V {W m : Mm} {c r lc : Nat} {R : CR} (h : MI W c r lc m) : MI (CM W R) c r lc m := MI_V h (fun p q hp _ => cm_o (by omega) (by omega))
/-- the run stands still -/
theorem run_st {b : Nat → Int32} {L : Nat} {V : Mm} {k la cn : Nat} {μ : Mm} {F p c r lc : Nat} {W : Mm} {k1 N : Nat} {m m2 : Mm} (h : RNI b L V k la cn μ F p c r lc W k1 N m) (hs : ¬ ((RD b L p W).1 = true ∧ cmdOK (CM W (RD b L p W)) (wOf (CM W (RD b L p W))) (CM W (RD b L p W) 106))) (hR : RS2 m m2) (h1 : m2 1 = m 1) : FIN V k la cn μ N m2 := by
  obtain ⟨hr, hN, hC, hM, hX, hb, hF, hp, h19, hR0⟩ := h
  have hM2 : MI W c r lc m2 := MI_e hM h1 (hR 0 8 (by decide) (by decide) (by decide) (by decide) (by decide) (by decide))
  subst hb
  cases F with
  | zero =>
    obtain ⟨rfl, rfl⟩ : k1 = 0 ∧ W = V := hr
    exact ⟨by omega, c, r, lc, hC, hM2, RS2_t hR0 hR⟩
  | succ F =>
    rcases hr with ⟨a, b1, _⟩ | ⟨_, rfl, rfl⟩
    · exact absurd ⟨a, b1⟩ hs
    · exact ⟨by omega, c, r, lc, CIv_cm hC _ _ _ _, CM_V hM2, RS2_t hR0 hR⟩
theorem RD_end {b : Nat → Int32} {L p : Nat} {W : Mm} (h : L ≤ sk b p) : ¬ (RD b L p W).1 = true := by
  unfold RD rdC
  rw [if_pos h]; exact fun z => Bool.noConfusion z
/-- the run goes on by a command -/
theorem run_go {b : Nat → Int32} {L : Nat} {V : Mm} {k la cn : Nat} {μ : Mm} {F p c r lc : Nat} {W : Mm} {k1 N kf wd : Nat} {m m2 : Mm} (h : RNI b L V k la cn μ F p c r lc W k1 N m) (hk : L + 1 < p + (kf + 1)) (hL : L ≤ 150) (hz : ∀ i, L ≤ i → b i = 0) (h1 : (RD b L p W).1 = true) (hw : wOf (CM W (RD b L p W)) = wd) (hc : cmdOK (CM W (RD b L p W)) wd (CM W (RD b L p W) 106)) (hR : RS2 m m2) (h19 : m2 0 19 = nI (sk b (RD b L p W).2.1))
    (hm : ∀ V2, doC (CM W (RD b L p W)) lc c r wd (CM W (RD b L p W) 106) V2 → MI V2 (cmC wd (CM W (RD b L p W) 106) c) (cmR wd (CM W (RD b L p W) 106) r) (cmL wd lc) m2) : RUNI b L V k la cn μ 1 (N + 1) m2 kf := by
  obtain ⟨hr, hN, hC, hM, hX, hb, hF, hp, h19', hR0⟩ := h
  subst hb
  subst hw
  have hbd := rdC_bd hz hp (W 102 4) (W 102 5) (W 106)
  have hlt := hbd.2 h1
  have hle := hbd.1
  cases F with
  | zero => omega
  | succ F =>
    rcases hr with ⟨_, _, k2, W2, rfl, hd, hr2⟩ | ⟨hn, _, _⟩
    · obtain ⟨kk, hk1, hk8, ek, _⟩ := rdC_wd h1
      have ew : wOf (CM W (RD (bt W) L p W)) = kk := by
        have e5 : CM W (RD (bt W) L p W) 102 5 = (RD (bt W) L p W).2.2.2.1 := cm_5 _ _ _ _ _
        show tn (CM W (RD (bt W) L p W) 102 5) = kk
        rw [e5, ek]
        exact nI_clamp (by omega)
      have hC2 := doC_CIv (CIv_cm hC _ _ _ _) (by rw [ew]; exact hk1) (by rw [ew]; exact hk8) hc hd
      have e105 : ∀ q, W2 105 q = W 105 q := fun q => (doC_out hd (by omega)).trans (cm_o (by decide) (by decide))
      have e2 : W2 102 2 = W 102 2 := (doC_out hd (by omega)).trans (cm_2 _ _ _ _ _)
      exact Or.inl ⟨rfl, F, _, _, _, _, W2, k2, ⟨hr2, by omega, hC2, hm W2 hd, TX_same hX e2 e105, bt_same e105, by show 150 ≤ F + (rdC (bt W) L p (W 102 4) (W 102 5) (W 106)).2.1; omega, hle, h19, RS2_t hR0 hR⟩, by show L + 1 < (rdC (bt W) L p (W 102 4) (W 102 5) (W 106)).2.1 + kf; omega⟩
    · exact absurd ⟨h1, hc⟩ hn
theorem fin_ok2 {V μ m1 m : Mm} {c r lc pn : Nat} {a v : Int32} (g1 : MI V c r lc m1) (g2 : m1 0 7 = a) (g3 : RS2 (lay μ) m1) (he : ENP pn 0 m1 v m) : OPS pn V c r lc a μ v m := by
  rcases he with ⟨h0, _⟩ | ⟨_, h7, rfl⟩
  · exact absurd h0 (by decide)
  · have e3 : ∀ q, q < 486 → m1 3 q = μ 1 q := fun q hq => by
      rw [g3 3 q (by decide) (by omega) (by decide) (by decide) (by decide) (by decide)]
      exact setRow_in hq
    have e2 : ∀ q, m1 2 q = μ 2 q := fun q => by
      rw [g3 2 q (by decide) (by omega) (by decide) (by decide) (by decide) (by decide), lay_o (by decide)]
    refine ⟨g2.symm.trans h7, uM_s _ _ _ _, MI_e g1 (funext fun q => ?_) ?_, ?_, fun q hq => ?_, fun j q hj hq => ?_, fun p q h1 h2 h3 h5 h6 h7 h8 h0 => ?_⟩
    · rw [uM_n (by omega), svM_o (by decide) (by omega)]
    · rw [uM_n (by omega), svM_o (by decide) (by omega)]
    · rw [uM_n (by omega)]; unfold svM; rw [uM_s]
    · rw [uM_n (by omega), svM_l hq, e3 q hq]
    · rw [uM_n (by omega), svM_s hj hq, e2, e2]
    · rw [uM_n (by omega), svM_o h2 (by omega), g3 p q h1 (by omega) h5 h6 h7 h8, lay_o h3]
theorem FIN_7 {V : Mm} {k la cn : Nat} {μ : Mm} {N : Nat} {m : Mm} {v : Int32} (h : FIN V k la cn μ N m) : FIN V k la cn μ N (uM m 0 7 v) := by
  obtain ⟨h0, c, r, lc, h1, h2, h3⟩ := h
  exact ⟨h0, c, r, lc, h1, MI_7 h2, fun p q g1 g3 g5 g6 g7 g8 => by rw [uM_n (by omega)]; exact h3 p q g1 g3 g5 g6 g7 g8⟩
