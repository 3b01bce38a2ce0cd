theorem RUNI_0 {b : Nat → Int32} {L : Nat} {V : Mm} {k la cn : Nat} {μ : Mm} {G : Int32} {N : Nat} {m : Mm} (h : RUNI b L V k la cn μ G N m 0) : False := by
  rcases h with ⟨_, F, p, c, r, lc, W, k1, h, hk⟩ | ⟨_, _, h⟩
  · have := h.2.2.2.2.2.2.2.1; omega
  · omega
theorem RUNI_t {b : Nat → Int32} {L : Nat} {V : Mm} {k la cn : Nat} {μ : Mm} {G : Int32} {N kf : Nat} {m : Mm} (h : RUNI b L V k la cn μ G N m kf) (hG : ¬ G = 0) : ∃ F p c r lc W k1, RNI b L V k la cn μ F p c r lc W k1 N m ∧ L + 1 < p + kf := by
  rcases h with ⟨_, h⟩ | ⟨h0, _⟩
  · exact h
  · exact absurd h0 hG
theorem RUNI_f {b : Nat → Int32} {L : Nat} {V : Mm} {k la cn : Nat} {μ : Mm} {G : Int32} {N kf : Nat} {m : Mm} (h : RUNI b L V k la cn μ G N m kf) (hG : G = 0) : FIN V k la cn μ N m := by
  rcases h with ⟨h1, _⟩ | ⟨_, h, _⟩
  · rw [h1] at hG; exact absurd hG (by decide)
  · exact h
theorem FIN_3 {V : Mm} {k la cn : Nat} {μ : Mm} {N pn : Nat} {m : Mm} (h : FIN V k la cn (lay μ) N m) (h3 : μ 0 3 = nI pn) : m 0 3 = nI pn := by
  obtain ⟨_, _, _, _, _, _, hR⟩ := h
  rw [hR 0 3 (by decide) (by decide) (by decide) (by decide) (by decide) (by decide), lay_o (by decide)]; exact h3
theorem lay_pm {μ : Mm} {p : Nat} {w : Int32} {n : Nat → Int32} : RS2 (lay μ) (lay (pmM μ p w n)) := fun a q h1 h3 h5 h6 h7 h8 => by
  by_cases e : a = 3 ∧ q < 486
  · obtain ⟨rfl, hq⟩ := e
    exact (setRow_in hq).trans ((pm_o (by omega) (by decide)).trans (setRow_in (f := μ 1) hq).symm)
  · unfold lay
    rw [setRow_out e, setRow_out e, pm_o (by omega) h8]
theorem TM_lay {b : Nat → Int32} {L : Nat} {μ : Mm} (h : TM b L μ) : TM b L (lay μ) := ⟨(lay_o (by decide)).trans h.1, h.2.1, fun i hi => (lay_o (by decide)).trans (h.2.2.1 i hi), h.2.2.2⟩
theorem FIN_ends {V : Mm} {k la cn : Nat} {μ : Mm} {N pn : Nat} {m m8 : Mm} {v : Int32} (h : FIN V k la cn (lay μ) N m) (he : ENP pn 0 (uM m 0 7 (nI N)) v m8) : ∃ c2 r2 l2, CIv V c2 r2 l2 la cn ∧ OPS pn V c2 r2 l2 (nI k) μ v m8 := by
  obtain ⟨rfl, c, r, lc, hC, hM, hR⟩ := FIN_7 (v := nI N) h
  exact ⟨c, r, lc, hC, fin_ok2 hM (uM_s _ _ _ _) hR he⟩
