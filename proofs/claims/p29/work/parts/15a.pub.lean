theorem plOK_nI {μ : Mm} {c r x y : Nat} (hc : μ 0 0 = nI c) (hr : μ 0 1 = nI r) (h1 : c ≤ 24) (h2 : r ≤ 16) (hx : x < c) (hy : y < r) : plOK μ (nI x) (nI y) := by
  refine ⟨nI_pos' (by omega), ?_, nI_pos' (by omega), ?_⟩
  · rw [hc]; exact nI_lt hx (by omega)
  · rw [hr]; exact nI_lt hy (by omega)
theorem lpOK_nI {μ : Mm} {lc k : Nat} (hlc : μ 0 5 = nI lc) (h8 : lc ≤ 8) (hk : k < lc) : lpOK μ (nI k) := by
  refine ⟨nI_pos' (by omega), ?_⟩
  rw [hlc]; exact nI_lt hk (by omega)
theorem rg_nI {w n : Nat} {N : Int32} (hN : N = nI n) (hn : n < 2147483648) (h : w ≤ n) : rgI (nI w) 0 N := by
  subst hN
  exact ⟨nI_pos' (by omega), nI_le h hn⟩
def wearM (m : Mm) (k : Nat) (z : Int32) : Mm := uM (uM m 11 k (if m 11 k + z < 900 then m 11 k + z else 900)) 0 6 1
def brnM (m : Mm) (ld : Nat → Int32) (h : Int32) : Nat → Mm
  | 0 => m
  | i + 1 => if wkB m 0 i = true then wearM (brnM m ld h i) i (h * ld i / 100) else brnM m ld h i
theorem brnM_out {m : Mm} {ld : Nat → Int32} {h : Int32} {p q : Nat} (h1 : ¬ (p = 0 ∧ q = 6)) : ∀ i, (p ≠ 11 ∨ i ≤ q) → brnM m ld h i p q = m p q
  | 0, _ => rfl
  | i + 1, h2 => by
    show (if wkB m 0 i = true then wearM (brnM m ld h i) i (h * ld i / 100) else brnM m ld h i) p q = _
    split
    · unfold wearM
      rw [uM_n h1, uM_n (by omega)]
      exact brnM_out h1 i (by omega)
    · exact brnM_out h1 i (by omega)
theorem brn_ld {m : Mm} {ld : Nat → Int32} {h l : Int32} {N k i : Nat} : ldN (brnM m ld h i) k N l = ldN m k N l := by
  have e99 : brnM m ld h i 99 = m 99 := funext fun q => brnM_out (by omega) i (by omega)
  have e98 : brnM m ld h i 98 = m 98 := funext fun q => brnM_out (by omega) i (by omega)
  unfold ldN plcN slN covB
  rw [e99, e98]
def burnM (m : Mm) (ld : Nat → Int32) (h : Int32) (lc : Nat) : Mm := uM (brnM m ld h lc) 0 4 (brnM m ld h lc 0 4 + h)
theorem ld_J {μ m : Mm} {lc c r k : Nat} (h : RfP μ lc c r m) (hk : k < 8) : ldN m k (c * r) (lim m 0 k) = ldJ μ lc c r k := by
  unfold ldN ldJ
  rw [plc_J h, sl_J h hk, rf_lim h]
def wrgV (μ : Mm) (lc c k : Nat) (r : Nat) : Int32 := cwN μ 0 (zzS μ lc &&& (oneI k ^^^ (-1))) (μ 0 2) (μ 0 3) c r
