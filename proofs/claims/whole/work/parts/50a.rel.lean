/-! class and model side by side -/
theorem REP_f {s : Nat} {V : Mm} {f g : Nat → Int32} {c r lc : Nat} (h : REP s V f c r lc) (hg : ∀ q, q < 486 → g q = f q) : REP s V g c r lc := by
  obtain ⟨h1, h2, h3, h4, h5⟩ := h
  have hc := h1.2.2.2.2.1
  have hr := h1.2.2.2.2.2.2.1
  have eL : ∀ k w, k < 8 → w < 12 → g (aL k w) = f (aL k w) := fun k w hk hw => hg _ (aL_lt hk hw)
  refine ⟨?_, ⟨?_, fun j hj => ?_, fun k hk => ?_⟩, fun k hk => ?_, fun k i hk hi => ?_, fun x y hx hy => ?_⟩
  · rw [hg _ (by decide), hg _ (by decide), hg _ (by decide)]; exact h1
  · rw [hg _ (by decide), hg _ (by decide)]; exact h2.1
  · rw [hg _ (by omega)]; exact h2.2.1 j hj
  · rw [eL k 8 hk (by decide), eL k 9 hk (by decide), eL k 10 hk (by decide), eL k 11 hk (by decide)]
    have z := h2.2.2 k hk
    exact ⟨z.1, z.2.1, z.2.2.1, z.2.2.2.1, fun i hi => by rw [eL k i hk (by omega)]; exact z.2.2.2.2 i hi⟩
  · rw [eL k 8 hk (by decide), eL k 9 hk (by decide), eL k 10 hk (by decide), eL k 11 hk (by decide)]; exact h3 k hk
  · rw [eL k i hk (by omega), eL k (4 + i) hk (by omega)]; exact h4 k i hk hi
  · rw [hg _ (by omega)]; exact h5 x y hx hy
theorem REP_V {s : Nat} {V W : Mm} {f : Nat → Int32} {c r lc : Nat} (h : REP s V f c r lc) (hV : ∀ p q : Nat, s < p → p < s + 15 → W p q = V p q) : REP s W f c r lc := by
  obtain ⟨h1, h2, h3, h4, h5⟩ := h
  refine ⟨h1, h2, fun k hk => ?_, fun k i hk hi => ?_, fun x y hx hy => ?_⟩
  · rw [hV _ _ (by omega) (by omega), hV _ _ (by omega) (by omega), hV _ _ (by omega) (by omega), hV _ _ (by omega) (by omega)]; exact h3 k hk
  · rw [hV _ _ (by omega) (by omega), hV _ _ (by omega) (by omega)]; exact h4 k i hk hi
  · rw [hV _ _ (by omega) (by omega)]; exact h5 x y hx hy
def SREP (s : Nat) (V : Mm) (f : Nat → Int32) : Prop := ∃ c r lc, REP s V f c r lc ∧ V s 0 = nI c ∧ V s 1 = nI r ∧ V s 5 = nI lc ∧ V s 2 = f 2 ∧ V s 3 = f 3 ∧ V s 4 = f 5
theorem SREP_f {s : Nat} {V : Mm} {f g : Nat → Int32} (h : SREP s V f) (hg : ∀ q, q < 486 → g q = f q) : SREP s V g := by
  obtain ⟨c, r, lc, h1, h2, h3, h4, h5, h6, h7⟩ := h
  exact ⟨c, r, lc, REP_f h1 hg, h2, h3, h4, by rw [hg _ (by decide)]; exact h5, by rw [hg _ (by decide)]; exact h6, by rw [hg _ (by decide)]; exact h7⟩
theorem SREP_V {s : Nat} {V W : Mm} {f : Nat → Int32} (h : SREP s V f) (hV : ∀ p q : Nat, s ≤ p → p < s + 15 → ¬ (p = s ∧ q = 6) → W p q = V p q) : SREP s W f := by
  obtain ⟨c, r, lc, h1, h2, h3, h4, h5, h6, h7⟩ := h
  refine ⟨c, r, lc, REP_V h1 (fun p q a b => hV p q (by omega) b (by omega)), ?_, ?_, ?_, ?_, ?_, ?_⟩
  · rw [hV _ _ (by omega) (by omega) (by omega)]; exact h2
  · rw [hV _ _ (by omega) (by omega) (by omega)]; exact h3
  · rw [hV _ _ (by omega) (by omega) (by omega)]; exact h4
  · rw [hV _ _ (by omega) (by omega) (by omega)]; exact h5
  · rw [hV _ _ (by omega) (by omega) (by omega)]; exact h6
  · rw [hV _ _ (by omega) (by omega) (by omega)]; exact h7
/-! a scene is copied -/
def lnR (j : Nat) : Nat := if j = 0 then 384 else if j < 5 then 8 else 32
theorem cpB_at {μ : Mm} {s o j q : Nat} (hq : q < lnR j) : ∀ i, i ≤ 7 → j < i → cpB μ s o i (s + 8 + j) q = μ (o + 8 + j) q := by
  intro i
  induction i with
  | zero => intro _ h; omega
  | succ i ih =>
    intro h7 h
    show setRow (cpB μ s o i) (s + 8 + i) (lnR i) (μ (o + 8 + i)) (s + 8 + j) q = _
    by_cases e : j = i
    · subst e; exact setRow_in hq
    · rw [setRow_out (by omega)]; exact ih (by omega) (by omega)
theorem cpB_f {μ : Mm} {s o q : Nat} (hq : q < 6) : ∀ i, cpB μ s o i s q = μ o q := by
  intro i
  induction i with
  | zero =>
    show cpA μ s o s q = _
    unfold cpA
    rcases (show q = 0 ∨ q = 1 ∨ q = 2 ∨ q = 3 ∨ q = 4 ∨ q = 5 by omega) with rfl | rfl | rfl | rfl | rfl | rfl
    · rw [uM_n (by omega), uM_n (by omega), uM_n (by omega), uM_n (by omega), uM_n (by omega), uM_s]
    · rw [uM_n (by omega), uM_n (by omega), uM_n (by omega), uM_n (by omega), uM_s]
    · rw [uM_n (by omega), uM_n (by omega), uM_n (by omega), uM_s]
    · rw [uM_n (by omega), uM_n (by omega), uM_s]
    · rw [uM_n (by omega), uM_s]
    · rw [uM_s]
  | succ i ih =>
    show setRow (cpB μ s o i) (s + 8 + i) (lnR i) (μ (o + 8 + i)) s q = _
    rw [setRow_out (by omega)]; exact ih
theorem SREP_cp {s o : Nat} {V : Mm} {f : Nat → Int32} (h : SREP o V f) : SREP s (cpS V s o) f := by
  obtain ⟨c, r, lc, ⟨h1, hb, h3, h4, h5⟩, g1, g2, g3, g4, g5, g6⟩ := h
  have hc := h1.2.2.2.2.1
  have hr := h1.2.2.2.2.2.2.1
  have hf : ∀ q, q < 6 → cpS V s o s q = V o q := fun q hq => by
    unfold cpS; rw [uM_n (by omega)]; exact cpB_f hq 7
  have hrw : ∀ j q, j < 7 → q < lnR j → cpS V s o (s + 8 + j) q = V (o + 8 + j) q := fun j q hj hq => by
    unfold cpS; rw [uM_n (by omega)]; exact cpB_at hq 7 (by decide) hj
  refine ⟨c, r, lc, ⟨h1, hb, fun k hk => ?_, fun k i hk hi => ?_, fun x y hx hy => ?_⟩, ?_, ?_, ?_, ?_, ?_, ?_⟩
  · have a := h3 k hk
    have e1 := hrw 1 k (by decide) (by show k < 8; omega)
    have e2 := hrw 2 k (by decide) (by show k < 8; omega)
    have e3 := hrw 3 k (by decide) (by show k < 8; omega)
    have e4 := hrw 4 k (by decide) (by show k < 8; omega)
    exact ⟨e1.trans a.1, e2.trans a.2.1, e3.trans a.2.2.1, e4.trans a.2.2.2⟩
  · have a := h4 k i hk hi
    have e1 := hrw 5 (4 * k + i) (by decide) (by show 4 * k + i < 32; omega)
    have e2 := hrw 6 (4 * k + i) (by decide) (by show 4 * k + i < 32; omega)
    exact ⟨e1.trans a.1, e2.trans a.2⟩
  · have l1 := ix_lt2 hy hx
    have l2 := cr_le hc hr
    exact (hrw 0 (y * c + x) (by decide) (by show y * c + x < 384; omega)).trans (h5 x y hx hy)
  · rw [hf _ (by decide)]; exact g1
  · rw [hf _ (by decide)]; exact g2
  · rw [hf _ (by decide)]; exact g3
  · rw [hf _ (by decide)]; exact g4
  · rw [hf _ (by decide)]; exact g5
  · rw [hf _ (by decide)]; exact g6
/-- where the saved state j lies -/
def slP (la cn j : Nat) : Nat := 15 * ((la + 4 - (cn - 1 - j)) % 4 + 1)
def RLc (V μ : Mm) (c r lc la cn L : Nat) : Prop := CIv V c r lc la cn ∧ MI V c r lc μ ∧ μ 0 3 = nI cn ∧ TX V L ∧ TM (bt V) L μ ∧ ∀ j, j < cn → SREP (slP la cn j) V (fun q => μ 2 (486 * j + q))
theorem RLc_0 {V μ : Mm} {c r lc la cn L : Nat} (h : RLc V μ c r lc la cn L) : SREP 0 V (μ 1) := by
  have hM := h.2.1
  exact ⟨c, r, lc, hM.1, h.1.1, h.1.2.1, h.1.2.2.1, hM.2.1.symm, hM.2.2.1.symm, hM.2.2.2.1.symm⟩
theorem MI_sv {V μ : Mm} {c r lc la cn : Nat} (h : MI V c r lc μ) (hla : la < 4) : MI (saveM V la cn) c r lc μ := MI_V h (fun p q hp _ => saveM_out hla (by omega))
theorem sv_slot {V : Mm} {la cn p q : Nat} (hp : 15 ≤ p) (hp2 : p < 75) : saveM V la cn p q = cpS (uM V 107 1 (nI ((la + 1) % 4))) (15 * ((la + 1) % 4 + 1)) 0 p q := by
  unfold saveM; rw [uM_n (by omega)]
/-- a change with a saving -/
theorem RLc_sv {V W V2 μ m : Mm} {c r lc la cn L c2 r2 l2 : Nat} {a v : Int32} (h : RLc V μ c r lc la cn L) (hC : CIv V2 c2 r2 l2 ((la + 1) % 4) (if cn < 4 then cn + 1 else 4)) (hO : OPS cn W c2 r2 l2 a μ v m) (hW : ∀ p q : Nat, p < 15 → ¬ (p = 0 ∧ q = 6) → V2 p q = W p q) (hK : ∀ p q : Nat, 15 ≤ p → p < 75 → V2 p q = saveM V la cn p q) (hT : TX V2 L) (hb : bt V2 = bt V) : RLc V2 m c2 r2 l2 ((la + 1) % 4) (if cn < 4 then cn + 1 else 4) L := by
  obtain ⟨g1, g2, g3, g4, g5, g6⟩ := h
  obtain ⟨_, _, o3, s1, s2, s3, s4⟩ := hO
  have hla : la < 4 := g1.2.2.2.2.2.1.2.2.2.2.2.1
  have hcn : cn ≤ 4 := g1.2.2.2.2.2.1.2.2.2.2.2.2
  have hpm : pm cn + 1 = if cn < 4 then cn + 1 else 4 := by unfold pm; split <;> split <;> omega
  refine ⟨hC, MI_V o3 hW, ?_, hT, ?_, fun j hj => ?_⟩
  · rw [s1, hpm]
  · rw [hb]
    exact ⟨(s4 0 5 (by decide) (by decide) (by decide) (by decide) (by decide) (by decide) (by decide) (by decide)).trans g5.1, g5.2.1, fun i hi => (s4 4 i (by decide) (by decide) (by decide) (by decide) (by decide) (by decide) (by decide) (by omega)).trans (g5.2.2.1 i hi), g5.2.2.2⟩
  · rw [← hpm] at hj ⊢
    by_cases e : j = pm cn
    · subst e
      have es : slP ((la + 1) % 4) (pm cn + 1) (pm cn) = 15 * ((la + 1) % 4 + 1) := by unfold slP; omega
      rw [es]
      have z : SREP 0 (uM V 107 1 (nI ((la + 1) % 4))) (μ 1) := SREP_V (RLc_0 ⟨g1, g2, g3, g4, g5, g6⟩) (fun p q _ hp _ => uM_n (by omega))
      have z2 : SREP (15 * ((la + 1) % 4 + 1)) (cpS (uM V 107 1 (nI ((la + 1) % 4))) (15 * ((la + 1) % 4 + 1)) 0) (μ 1) := SREP_cp z
      exact SREP_f (SREP_V z2 (fun p q h1 h2 _ => (hK p q (by omega) (by omega)).trans (sv_slot (by omega) (by omega)))) (fun q hq => s2 q hq)
    · have hj2 : j < pm cn := by omega
      by_cases e4 : cn = 4
      · have hp3 : pm cn = 3 := if_pos e4
        have es : slP ((la + 1) % 4) (pm cn + 1) j = slP la cn (j + 1) := by unfold slP; omega
        rw [es]
        have hne : slP la cn (j + 1) + 15 ≤ 15 * ((la + 1) % 4 + 1) ∨ 15 * ((la + 1) % 4 + 1) + 15 ≤ slP la cn (j + 1) := by unfold slP; omega
        have hlo : 15 ≤ slP la cn (j + 1) ∧ slP la cn (j + 1) + 15 ≤ 75 := by unfold slP; omega
        refine SREP_f (SREP_V (g6 (j + 1) (by omega)) (fun p q h1 h2 _ => ?_)) (fun q hq => by rw [s3 j q hj2 hq, if_pos e4])
        rw [hK p q (by omega) (by omega), sv_slot (by omega) (by omega), cpS_out (isS_sl (by omega)) (Or.inl rfl) (by omega), uM_n (by omega)]
      · have hp3 : pm cn = cn := if_neg e4
        have es : slP ((la + 1) % 4) (pm cn + 1) j = slP la cn j := by unfold slP; omega
        rw [es]
        have hne : slP la cn j + 15 ≤ 15 * ((la + 1) % 4 + 1) ∨ 15 * ((la + 1) % 4 + 1) + 15 ≤ slP la cn j := by unfold slP; omega
        have hlo : 15 ≤ slP la cn j ∧ slP la cn j + 15 ≤ 75 := by unfold slP; omega
        refine SREP_f (SREP_V (g6 j (by omega)) (fun p q h1 h2 _ => ?_)) (fun q hq => by rw [s3 j q hj2 hq, if_neg e4])
        rw [hK p q (by omega) (by omega), sv_slot (by omega) (by omega), cpS_out (isS_sl (by omega)) (Or.inl rfl) (by omega), uM_n (by omega)]
/-- nothing was changed -/
theorem RLc_q {V V2 μ m : Mm} {c r lc la cn L : Nat} (h : RLc V μ c r lc la cn L) (hC : CIv V2 c r lc la cn) (hs : ∀ p q : Nat, ¬ (p = 0 ∧ q = 6) → (p < 75 ∨ 102 ≤ p) → V2 p q = V p q) (hk : KP μ m) : RLc V2 m c r lc la cn L := by
  obtain ⟨g1, g2, g3, g4, g5, g6⟩ := h
  have e105 : ∀ q, V2 105 q = V 105 q := fun q => hs _ _ (by omega) (by omega)
  refine ⟨hC, MI_e (MI_V g2 (fun p q hp h0 => hs p q h0 (by omega))) (funext fun q => hk 1 q (by decide) (by decide) (by decide) (by decide) (by decide) (by omega)) (hk 0 8 (by decide) (by decide) (by decide) (by decide) (by decide) (by decide)), (hk 0 3 (by decide) (by decide) (by decide) (by decide) (by decide) (by decide)).trans g3, TX_same g4 (hs _ _ (by omega) (by omega)) e105, ?_, fun j hj => ?_⟩
  · rw [bt_same e105]
    exact ⟨(hk 0 5 (by decide) (by decide) (by decide) (by decide) (by decide) (by decide)).trans g5.1, g5.2.1, fun i hi => (hk 4 i (by decide) (by decide) (by decide) (by decide) (by decide) (by omega)).trans (g5.2.2.1 i hi), g5.2.2.2⟩
  · have hlo : 15 ≤ slP la cn j ∧ slP la cn j + 15 ≤ 75 := by unfold slP; omega
    exact SREP_f (SREP_V (g6 j hj) (fun p q h1 h2 _ => hs p q (by omega) (by omega))) (fun q hq => hk 2 _ (by decide) (by decide) (by decide) (by decide) (by decide) (by omega))
theorem RLc_k {V μ m : Mm} {c r lc la cn L : Nat} (h : RLc V μ c r lc la cn L) (hk : KP μ m) : RLc V m c r lc la cn L := RLc_q h h.1 (fun _ _ _ _ => rfl) hk
theorem RLc_rf {V V2 μ m : Mm} {c r lc la cn L : Nat} (h : RLc V μ c r lc la cn L) (hR : Rf0 V lc c r V2) (hk : KP μ m) : RLc V2 m c r lc la cn L := RLc_q h (CIv_rf h.1 hR) (fun p q h0 hp => hR.1 p q h0 (by omega) (by omega) (by omega)) hk
theorem RLc_so {V V2 μ m : Mm} {c r lc la cn L : Nat} (h : RLc V μ c r lc la cn L) (hR : sameOut 84 93 V V2) (hk : KP μ m) : RLc V2 m c r lc la cn L := RLc_q h (CIv_so h.1 hR) (fun p q _ hp => hR p q (by omega)) hk
/-- undo -/
theorem RLc_un {V μ : Mm} {c r lc la cn L : Nat} (h : RLc V μ c r lc la (cn + 1) L) : ∃ c2 r2 l2, RLc (restM V la cn) (uM (setRow (uM μ 0 3 (nI cn)) 1 486 (fun q => μ 2 (486 * cn + q))) 0 6 0) c2 r2 l2 ((la + 3) % 4) cn L := by
  obtain ⟨g1, g2, g3, g4, g5, g6⟩ := h
  have hla : la < 4 := g1.2.2.2.2.2.1.2.2.2.2.2.1
  have hcn : cn + 1 ≤ 4 := g1.2.2.2.2.2.1.2.2.2.2.2.2
  have z := g6 cn (by omega)
  have es : slP la (cn + 1) cn = 15 * (la + 1) := by unfold slP; omega
  rw [es] at z
  obtain ⟨c2, r2, l2, k1, k2, k3, k4, k5, k6, k7⟩ := SREP_cp (s := 0) z
  have ho : ∀ p q, 107 ≠ p → restM V la cn p q = cpS V 0 (15 * (la + 1)) p q := fun p q hp => by
    unfold restM; rw [uM_n (by omega), uM_n (by omega)]
  have hf : ∀ p q, 15 ≤ p → 107 ≠ p → restM V la cn p q = V p q := fun p q hp hp2 => by
    rw [ho p q hp2]; exact cpS_out (Or.inl rfl) (isS_sl hla) (by omega)
  have e105 : ∀ q, restM V la cn 105 q = V 105 q := fun q => hf _ _ (by omega) (by omega)
  have m1 : ∀ q, q < 486 → uM (setRow (uM μ 0 3 (nI cn)) 1 486 (fun q => μ 2 (486 * cn + q))) 0 6 0 1 q = μ 2 (486 * cn + q) := fun q hq => by
    rw [uM_n (by omega)]; exact setRow_in hq
  have mo : ∀ p q, p ≠ 1 → ¬ (p = 0 ∧ (q = 3 ∨ q = 6)) → uM (setRow (uM μ 0 3 (nI cn)) 1 486 (fun q => μ 2 (486 * cn + q))) 0 6 0 p q = μ p q := fun p q hp hq => by
    rw [uM_n (by omega), setRow_out (by omega), uM_n (by omega)]
  have b := k1.1
  refine ⟨c2, r2, l2, ⟨(ho _ _ (by decide)).trans k2, (ho _ _ (by decide)).trans k3, (ho _ _ (by decide)).trans k4, ?_, ?_, ⟨b.2.2.2.1, b.2.2.2.2.1, b.2.2.2.2.2.1, b.2.2.2.2.2.2.1, b.2.2.2.2.2.2.2, by omega, by omega⟩, fun h0 => ?_⟩, ⟨REP_f (REP_V k1 (fun p q _ hp => ho p q (by omega))) m1, ?_, ?_, ?_, ?_⟩, ?_, TX_same g4 (hf _ _ (by omega) (by omega)) e105, ?_, fun j hj => ?_⟩
  · unfold restM; rw [uM_n (by omega), uM_s]
  · unfold restM; rw [uM_s]
  · rw [ho _ _ (by decide)] at h0
    unfold cpS at h0
    rw [uM_s] at h0
    exact absurd h0 (by decide)
  · rw [m1 _ (by decide), ho _ _ (by decide)]; exact k5.symm
  · rw [m1 _ (by decide), ho _ _ (by decide)]; exact k6.symm
  · rw [m1 _ (by decide), ho _ _ (by decide)]; exact k7.symm
  · rw [mo _ _ (by decide) (by decide)]; exact g2.2.2.2.2
  · rw [uM_n (by omega), setRow_out (by omega), uM_s]
  · rw [bt_same e105]
    exact ⟨(mo _ _ (by decide) (by decide)).trans g5.1, g5.2.1, fun i hi => (mo _ _ (by decide) (by omega)).trans (g5.2.2.1 i hi), g5.2.2.2⟩
  · have es2 : slP ((la + 3) % 4) cn j = slP la (cn + 1) j := by unfold slP; omega
    rw [es2]
    have hlo : 15 ≤ slP la (cn + 1) j ∧ slP la (cn + 1) j + 15 ≤ 75 := by unfold slP; omega
    exact SREP_f (SREP_V (g6 j (by omega)) (fun p q h1 h2 _ => hf p q (by omega) (by omega))) (fun q hq => mo 2 _ (by decide) (by omega))
