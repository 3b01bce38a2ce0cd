/-! bits of a set -/
theorem sh_k : ∀ k, k < 8 → ((nI k &&& 31).toBitVec.smod 32#32).toNat = k := by decide +kernel
theorem bitB_get {x : Int32} {k : Nat} (hk : k < 8) : bitB x k = x.toBitVec.getLsbD k := by
  have e : ((x >>> (nI k &&& 31)) &&& 1).toBitVec = (x.toBitVec.sshiftRight k) &&& 1#32 := by
    rw [Int32.toBitVec_and, Int32.toBitVec_shiftRight]
    unfold BitVec.sshiftRight'
    rw [show ((nI k &&& 31).toBitVec.smod 32).toNat = k from sh_k k hk]
    rfl
  unfold bitB
  have h : (x.toBitVec.sshiftRight k &&& 1#32 = 1#32) ↔ x.toBitVec.getLsbD k = true := by
    rw [BitVec.and_one_eq_setWidth_ofBool_getLsbD, BitVec.getLsbD_sshiftRight]
    have : (0 + k) < 32 := by omega
    have h32 : k < 32 := by omega
    rw [BitVec.getLsbD] at *
    cases hb : x.toBitVec.toNat.testBit k <;> simp [hb, hk, this, h32, BitVec.getLsbD]
  rw [Bool.eq_iff_iff, beq_iff_eq, ← h, ← e, ← Int32.toBitVec_inj]
  rfl
theorem bitB_or {x y : Int32} {k : Nat} (hk : k < 8) : bitB (x ||| y) k = (bitB x k || bitB y k) := by
  rw [bitB_get hk, bitB_get hk, bitB_get hk, Int32.toBitVec_or, BitVec.getLsbD_or]
theorem bitB_and {x y : Int32} {k : Nat} (hk : k < 8) : bitB (x &&& y) k = (bitB x k && bitB y k) := by
  rw [bitB_get hk, bitB_get hk, bitB_get hk, Int32.toBitVec_and, BitVec.getLsbD_and]
theorem bitB_one {n k : Nat} (hn : n < 8) (hk : k < 8) : bitB (oneI n) k = decide (k = n) := (by decide +kernel : ∀ n, n < 8 → ∀ k, k < 8 → bitB (oneI n) k = decide (k = n)) n hn k hk
theorem bitB_not1 {n k : Nat} (hn : n < 8) (hk : k < 8) : bitB (oneI n ^^^ (-1)) k = !decide (k = n) := (by decide +kernel : ∀ n, n < 8 → ∀ k, k < 8 → bitB (oneI n ^^^ (-1)) k = !decide (k = n)) n hn k hk
theorem bitB_0 {k : Nat} (hk : k < 8) : bitB 0 k = false := (by decide +kernel : ∀ k, k < 8 → bitB 0 k = false) k hk
theorem bitB_orN {f : Nat → Bool} {k : Nat} (hk : k < 8) : ∀ N, N ≤ 8 → bitB (orN N f) k = (decide (k < N) && f k) := by
  intro N
  induction N with
  | zero => intro _; rw [show orN 0 f = 0 from rfl, bitB_0 hk]; simp
  | succ N ih =>
    intro hN
    have ih := ih (by omega)
    by_cases hf : f N = true
    · rw [orN_t hf, bitB_or hk, ih, bitB_one (by omega) hk]
      by_cases e : k = N
      · subst e; simp [hf]
      · have : (k < N + 1) ↔ k < N := by omega
        simp [e, this]
    · rw [orN_f hf, ih]
      by_cases e : k = N
      · subst e
        have hf2 : f k = false := by simpa using hf
        simp [hf2]
      · have : (k < N + 1) ↔ k < N := by omega
        simp [this]
theorem WG_5 {μ : Mm} {w : Nat → Int32} {lc n : Nat} (h : n < lc) : WG μ w lc 5 n = w n := if_pos ⟨rfl, h⟩
theorem WG_cv {μ : Mm} {w : Nat → Int32} {lc : Nat} (h8 : lc ≤ 8) : ∀ n, n < lc → (bitB (WG μ w lc 0 11) n = true ↔ 0 < WG μ w lc 5 n) := by
  intro n hn
  rw [WG_11, WG_5 hn]
  unfold covV
  rw [bitB_orN (by omega) lc h8]
  simp [hn]
theorem WG_all {μ : Mm} {w : Nat → Int32} {lc : Nat} (h8 : lc ≤ 8) (hw : WB w lc) : ∀ n, n < lc → 0 < WG μ w lc 5 n → ¬ sumN lc (WG μ w lc 5) = 0 := by
  intro n hn h0
  rw [sumN_congr (fun k hk => WG_5 hk)]
  rw [WG_5 hn] at h0
  exact sum_nz hw h8 hn h0
theorem cov_8 {w : Nat → Int32} {lc : Nat} (hw : WB w lc) : ∀ N, lc ≤ N → N ≤ 8 → covV w N = covV w lc := by
  intro N
  induction N with
  | zero => intro h _; rw [show lc = 0 by omega]
  | succ N ih =>
    intro h h8
    rcases Nat.lt_or_ge N lc with q | q
    · rw [show lc = N + 1 by omega]
    · rw [← ih q (by omega)]
      exact orN_f (fun z => by
        have := of_decide_eq_true z
        rw [hw.2 N q (by omega)] at this
        exact absurd this (by decide))
theorem HZ_zz {s : Nat} {V : Mm} {lc : Nat} (h8 : lc ≤ 8) : HZ s V lc (-1000) (orN lc (shiB V s)) := by
  intro n hn
  rw [bitB_orN hn lc h8]
  have : ¬ nI n = -1000 := (by decide +kernel : ∀ n, n < 8 → ¬ nI n = -1000) n hn
  simp [shiB, wkB, this]
theorem HZ_but {s : Nat} {V : Mm} {lc k : Nat} (h8 : lc ≤ 8) (hk : k < 8) : HZ s V lc (nI k) (orN lc (shiB V s) &&& (oneI k ^^^ (-1))) := by
  intro n hn
  rw [bitB_and hn, bitB_orN hn lc h8, bitB_not1 hk hn]
  have : nI n = nI k ↔ n = k := nI_eq (by omega) (by omega)
  rw [this]
  simp only [shiB, wkB, Bool.and_eq_true, decide_eq_true_eq, beq_iff_eq, Bool.not_eq_true', decide_eq_false_iff_not]
  constructor
  · intro h; exact ⟨h.1.1, h.1.2.1, h.2, h.1.2.2⟩
  · intro h; exact ⟨⟨h.1, h.2.1, h.2.2.2⟩, h.2.2.1⟩
theorem shrM_o {μ : Mm} {lc p q : Nat} {t : Int32} (h : p ≠ 6) : shrM μ lc t p q = μ p q := by
  unfold shrM
  split
  · exact setRow_out (fun z => h z.1)
  · rw [uM_n (fun z => h z.1), setRow_out (fun z => h z.1)]
theorem shrM_r {μ : Mm} {lc p : Nat} {t : Int32} (h : p ≠ 6) : shrM μ lc t p = μ p := funext fun _ => shrM_o h
theorem setRow_r {μ : Mm} {a n p : Nat} {f : Nat → Int32} (h : p ≠ a) : setRow μ a n f p = μ p := funext fun _ => setRow_out (fun z => h z.1)
theorem setRow_ge {μ : Mm} {a n j : Nat} {f : Nat → Int32} (h : n ≤ j) : setRow μ a n f a j = μ a j := setRow_out (fun z => by omega)
/-- a place that keeps its number need not be written -/
theorem setRow_id {μ : Mm} {a n : Nat} {f : Nat → Int32} (h : f n = μ a n) : setRow μ a (n + 1) f = setRow μ a n f := by
  rw [← setRow_succ, h]
  funext p q
  by_cases e : p = a ∧ q = n
  · obtain ⟨rfl, rfl⟩ := e; rw [uM_s, setRow_ge (Nat.le_refl _)]
  · rw [uM_n e]
