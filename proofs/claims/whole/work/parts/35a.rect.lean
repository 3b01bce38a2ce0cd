theorem pls1 {x lo hi u : Int32} {a b : Nat} (h : rgI x lo hi) (hl : lo.toInt.natAbs ≤ 1000) (hh : hi.toInt.natAbs ≤ 1000) : x + 1 ≤ u ↔ x < u := by
  have e := (bd_add (x := x) (y := 1) (a := 1000) (b := 1) (bd_rg h hl hh) (by unfold bd; decide) (by decide)).1
  rw [Int32.le_iff_toInt_le, Int32.lt_iff_toInt_lt, e, show (1 : Int32).toInt = 1 from rfl]
  omega
theorem rc_co {x y u v : Int32} (h : rcOK x y u v) (i : Nat) : coOK (rcX x u i) (rcY y v i) := by
  obtain ⟨⟨h1, h2⟩, ⟨h3, h4⟩, h5, h6⟩ := h
  have t : (39 : Int32) ≤ 40 := by decide
  unfold rcX rcY
  constructor
  · split
    · exact ⟨h1.1, Int32.le_trans h1.2 t⟩
    · exact ⟨Int32.le_trans h1.1 (Int32.le_of_lt h3), h4⟩
  · split
    · exact ⟨h2.1, Int32.le_trans h2.2 t⟩
    · exact ⟨Int32.le_trans h2.1 (Int32.le_of_lt h5), h6⟩
theorem lp_ans {V μ : Mm} {c r lc k j : Nat} (hM : MI V c r lc μ) (hk : k < 8) (hj : j ≤ 2) : lvV V lc c r k j = μ 1 (aL k (8 + j)) := by
  have h := hM.1.2.2.1 k hk
  rcases (show j = 0 ∨ j = 1 ∨ j = 2 by omega) with rfl | rfl | rfl
  · exact h.1
  · exact h.2.1
  · exact h.2.2.1
theorem rc_step {V m : Mm} {c r lc k i : Nat} {x y u v X1 Y1 : Int32} (hX : rcX x u i = X1) (hY : rcY y v i = Y1) (hM : MI (rcV V k x y u v i) c r lc m) (hi : i < 4) (hrc : rcOK x y u v) : MI (rcV V k x y u v (i + 1)) c r lc (cnB m k i X1 Y1) := by
  subst hX
  subst hY
  exact cn_MI hM hi (rc_co hrc i)
