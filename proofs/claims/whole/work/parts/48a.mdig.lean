/-! the model's digest -/
def KPD (μ m : Mm) : Prop := ∀ p q : Nat, ¬ (p = 0 ∧ 11 ≤ q) → p ≠ 5 → p ≠ 6 → m p q = μ p q
def HM (μ : Mm) (h : Int64) (m : Mm) : Prop := KPD μ m ∧ jL (m 0 22) (m 0 1022) = h
theorem jL_uL (μ : Mm) (v : Int64) : jL (uL μ 0 22 v 0 22) (uL μ 0 22 v 0 1022) = v := by
  unfold uL
  rw [uM_n (by omega), uM_s, show 22 + 1000 = 1022 from rfl, uM_s]
  exact jL_hl v
theorem KPD_r {μ : Mm} : KPD μ μ := fun _ _ _ _ _ => rfl
theorem KPD_c {μ a b : Mm} (h : KPD μ a) (h2 : SCR a b) : KPD μ b := fun p q h1 h5 h6 => (h2 p q (by omega) h5 h6).trans (h p q h1 h5 h6)
theorem HM_c {μ a b : Mm} {h : Int64} (hm : HM μ h a) (h2 : SCR a b) : HM μ h b := ⟨KPD_c hm.1 h2, by rw [h2 0 22 (by decide) (by decide) (by decide), h2 0 1022 (by decide) (by decide) (by decide)]; exact hm.2⟩
theorem HM_x {μ a : Mm} {h v : Int64} (hm : HM μ h a) : HM μ v (uL a 0 22 v) := ⟨fun p q h1 h5 h6 => by unfold uL; rw [uM_n (by omega), uM_n (by omega)]; exact hm.1 p q h1 h5 h6, jL_uL _ _⟩
theorem MI_D {V μ m : Mm} {c r lc : Nat} (h : MI V c r lc μ) (hs : KPD μ m) : MI V c r lc m := MI_e h (funext fun q => hs 1 q (by omega) (by decide) (by decide)) (hs 0 8 (by decide) (by decide) (by decide))
theorem KP_D {μ m : Mm} (h : KPD (uM μ 0 6 0) m) : m 0 6 = 0 ∧ KP μ m := ⟨(h 0 6 (by decide) (by decide) (by decide)).trans (uM_s _ _ _ _), fun p q h3 h5 h6 h7 h8 h0 => (h p q (by omega) h5 h6).trans (uM_n (by omega))⟩
theorem co_MI {V m : Mm} {c r lc k i : Nat} (h : MI V c r lc m) (hk : k < 8) (hi : i < 4) : m 1 (aL k i) = V 13 (4 * k + i) ∧ m 1 (aL k (4 + i)) = V 14 (4 * k + i) := ⟨((h.1.2.2.2.1 k i hk hi).1).symm, ((h.1.2.2.2.1 k i hk hi).2).symm⟩
theorem MI_6 {V μ : Mm} {c r lc : Nat} {v : Int32} (h : MI V c r lc μ) : MI V c r lc (uM μ 0 6 v) := MI_e h (funext fun q => uM_n (by omega)) (uM_n (by omega))
