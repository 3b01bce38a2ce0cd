def sgM (b : Nat → Int32) (q : Nat) : Int32 := if b q = 45 then -1 else 1
theorem sgM_v (b : Nat → Int32) (q : Nat) (v : Int32) : sgV b q v = sgM b q * v := by
  unfold sgV sgM
  by_cases h : b q = 45
  · rw [if_pos h, if_pos h, neg_one_mul']
  · rw [if_neg h, if_neg h, Int32.one_mul]
/-! behind the word and its numbers -/
theorem rdW_f1 {b : Nat → Int32} {f : Int32} {n0 n n2 : Nat → Int32} {s e wd q : Nat} (hw : ¬ wd = 0) (hd : rdNs b (nOf wd) 0 e n = (false, q, n2)) : (rdW b f n0 s e wd).1 = false ∧ nI q = (rdW b f n0 s e wd).2.2.1 := by
  have h := rdNs_n (b := b) (nOf wd) 0 e n (fun _ => 0)
  rw [hd] at h
  rw [rdW, if_neg hw, rdE, if_neg (by rw [← h.1]; exact fun z => Bool.noConfusion z)]
  exact ⟨rfl, by rw [← h.2.1]⟩
theorem rdW_f2 {b : Nat → Int32} {f : Int32} {n0 n n2 : Nat → Int32} {s e wd q : Nat} (hw : ¬ wd = 0) (hd : rdNs b (nOf wd) 0 e n = (true, q, n2)) (h59 : ¬ b (sk b q) = 59) : (rdW b f n0 s e wd).1 = false ∧ nI (sk b q) = (rdW b f n0 s e wd).2.2.1 := by
  have h := rdNs_n (b := b) (nOf wd) 0 e n (fun _ => 0)
  rw [hd] at h
  rw [rdW, if_neg hw, rdE, if_pos (by rw [← h.1]), ← h.2.1, if_neg h59]
  exact ⟨rfl, rfl⟩
theorem rdW_t {b : Nat → Int32} {f : Int32} {n0 n n2 : Nat → Int32} {s e wd q : Nat} (hw : ¬ wd = 0) (hd : rdNs b (nOf wd) 0 e n = (true, q, n2)) (h59 : b (sk b q) = 59) : (rdW b f n0 s e wd).1 = true ∧ (rdW b f n0 s e wd).2.1 = sk b q + 1 ∧ ∀ j, j < nOf wd → n2 j = (rdW b f n0 s e wd).2.2.2.2 j := by
  have h := rdNs_n (b := b) (nOf wd) 0 e n (fun _ => 0)
  rw [hd] at h
  rw [rdW, if_neg hw, rdE, if_pos (by rw [← h.1]), ← h.2.1, if_pos h59]
  refine ⟨rfl, rfl, fun j hj => ?_⟩
  exact ((h.2.2 rfl) j).1 (by omega) (by omega)
theorem rdW_0 {b : Nat → Int32} {f : Int32} {n0 : Nat → Int32} {s e : Nat} : (rdW b f n0 s e 0).1 = false ∧ nI s = (rdW b f n0 s e 0).2.2.1 := by
  rw [rdW, if_pos rfl]; exact ⟨rfl, rfl⟩
theorem rdC_W {b : Nat → Int32} {L p : Nat} {f w : Int32} {n : Nat → Int32} (h : ¬ L ≤ sk b p) : rdC b L p f w n = rdW b f n (sk b p) (lt b (sk b p)) (wdOf b (sk b p) (lt b (sk b p))) := if_neg h
theorem rdA_end {b : Nat → Int32} {L k : Nat} {r : CR} (h : L ≤ sk b r.2.1) : (rdA b L k r).2.2.1 = r.2.2.1 := by
  cases k with
  | zero => rfl
  | succ k =>
    have e : rdC b L r.2.1 r.2.2.1 r.2.2.2.1 r.2.2.2.2 = (false, sk b r.2.1, r.2.2.1, r.2.2.2.1, r.2.2.2.2) := if_pos h
    rw [rdA, e, if_neg (fun z => Bool.noConfusion z)]
