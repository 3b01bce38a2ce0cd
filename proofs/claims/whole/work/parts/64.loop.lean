theorem script_ge {L i : Nat} (hL : L ≤ 3072) (hi : i ≤ L) (h : ¬ nI L - 6 < nI i) : i + 6 ≤ L := by
  have a := Int32.le_iff_toInt_le.mp (Int32.not_lt.mp h)
  have b := (bd_sub (x := nI L) (y := 6) (a := 3072) (b := 6) (by unfold bd; rw [nI_toInt (by omega)]; omega) (by unfold bd; decide) (by decide)).1
  rw [b, nI_toInt (by omega), nI_toInt (by omega), show (6 : Int32).toInt = 6 from rfl] at a
  omega
theorem and31 (v : Int32) : ∃ k, k < 32 ∧ v &&& 31 = nI k := by
  refine ⟨(v &&& 31).toBitVec.toNat, ?_, ?_⟩
  · rw [Int32.toBitVec_and, BitVec.toNat_and]
    exact Nat.lt_succ_of_le Nat.and_le_right
  · apply Int32.toBitVec_inj.mp
    apply BitVec.eq_of_toNat_eq
    show _ = (BitVec.ofNat 32 _).toNat
    rw [BitVec.toNat_ofNat, Nat.mod_eq_of_lt (BitVec.isLt _)]
set_option maxRecDepth 20000 in
theorem law_loop {sc : Nat × (Nat → Int32)} {HH : List (Nat × Nat × Nat × Nat)} {c0 s0 : Nat} (hL : sc.1 ≤ 3072) (hc0 : c0 + 600 ≤ 601024) (hs0 : s0 + 4000 ≤ 7293034) : ∀ (kf n : Nat) (ω : WDt), REL ω.1 ω.2.1 → 6 * n ≤ sc.1 → sc.1 < 6 * n + kf → XL (.inr sc) mLaw HH (c0 + n) (s0 + 6 * n) 23 [(0, .ref 3), (1, .ref 0), (2, .ref 1), (3, .ref 2), (4, .int (nI (6 * n)))] [] ω := by
  intro kf
  induction kf with
  | zero => intro n ω _ h1 h2; omega
  | succ kf ih =>
    intro n ω h h1 h2
    generalize hi : 6 * n = i at h1 h2 ⊢
    have hEnd : ∀ ω2 : WDt, REL ω2.1 ω2.2.1 → i + 6 ≤ sc.1 → XL (.inr sc) mLaw HH (c0 + n + 1) (s0 + i + 6) 1773 [(0, .ref 3), (1, .ref 0), (2, .ref 1), (3, .ref 2), (4, .int (nI i))] [] ω2 := by
      intro ω2 hR h6
      refine L_iinc 1773 4 (nI (i + 6)) _ dL_law_1773 rfl (nI_add i 6) (by decide) rfl ?_
      refine L_goto 1776 23 dL_law_1776 (by decide) ?_
      refine L_sub [1, 2, 3, 4, 0] _ rfl ?_
      have hk := ih (n + 1) ω2 hR (by omega) (by omega)
      rw [show 6 * (n + 1) = i + 6 by omega, show c0 + (n + 1) = c0 + n + 1 by omega, show s0 + (i + 6) = s0 + i + 6 by omega] at hk
      exact hk
    refine L_iload 23 4 dL_law_23 rfl ?_
    refine L_aload_n 25 0 dL_law_25 rfl rfl ?_
    refine L_slen 26 dL_law_26 ?_
    refine L_bipush 27 6 dL_law_27 (by decide) ?_
    refine L_isub 29 dL_law_29 ?_
    refine L_icmp_gt 30 1779 dL_law_30 (by decide) (fun c_30 => ?_) (fun c_30 => ?_)
    · refine L_iconst 1779 1 dL_law_1779 (by decide) ?_
      exact L_end 1780 dL_law_1780 (by omega) (by omega)
    have h6 := script_ge hL h1 c_30
    have hEnd : ∀ ω2 : WDt, REL ω2.1 ω2.2.1 → XL (.inr sc) mLaw HH (c0 + n + 1) (s0 + i + 6) 1773 [(0, .ref 3), (1, .ref 0), (2, .ref 1), (3, .ref 2), (4, .int (nI i))] [] ω2 := fun ω2 hR => hEnd ω2 hR h6
    refine L_aload_n 33 0 dL_law_33 rfl rfl ?_
    refine L_iload 34 4 dL_law_34 rfl ?_
    refine L_sld 36 dL_law_36 (by omega) (by omega) ?_
    refine L_bipush 37 31 dL_law_37 (by decide) ?_
    refine L_iand 39 dL_law_39 ?_
    obtain ⟨k, hk, ek⟩ := and31 (sc.2 i)
    rw [ek]
    rcases (show k = 0 ∨ k = 1 ∨ k = 2 ∨ k = 3 ∨ k = 4 ∨ k = 5 ∨ k = 6 ∨ k = 7 ∨ k = 8 ∨ k = 9 ∨ k = 10 ∨ k = 11 ∨ k = 12 ∨ k = 13 ∨ k = 14 ∨ k = 15 ∨ k = 16 ∨ k = 17 ∨ k = 18 ∨ k = 19 ∨ k = 20 ∨ k = 21 ∨ k = 22 ∨ k = 23 ∨ k = 24 ∨ k = 25 ∨ 26 ≤ k by omega) with rfl | rfl | rfl | rfl | rfl | rfl | rfl | rfl | rfl | rfl | rfl | rfl | rfl | rfl | rfl | rfl | rfl | rfl | rfl | rfl | rfl | rfl | rfl | rfl | rfl | rfl | hge
    · refine L_tabIn (off := 120) 40 160 dL_law_40 (by decide) (by decide) (by decide +kernel) (by decide) ?_
      exact c_law_begin h (by omega) hL (by omega) (by omega) hEnd
    · refine L_tabIn (off := 188) 40 228 dL_law_40 (by decide) (by decide) (by decide +kernel) (by decide) ?_
      exact c_law_paint h (by omega) hL (by omega) (by omega) hEnd
    · refine L_tabIn (off := 292) 40 332 dL_law_40 (by decide) (by decide) (by decide +kernel) (by decide) ?_
      exact c_law_addLamp h (by omega) hL (by omega) (by omega) hEnd
    · refine L_tabIn (off := 360) 40 400 dL_law_40 (by decide) (by decide) (by decide +kernel) (by decide) ?_
      exact c_law_setCorner h (by omega) hL (by omega) (by omega) hEnd
    · refine L_tabIn (off := 452) 40 492 dL_law_40 (by decide) (by decide) (by decide +kernel) (by decide) ?_
      exact c_law_setRectangle h (by omega) hL (by omega) (by omega) hEnd
    · refine L_tabIn (off := 556) 40 596 dL_law_40 (by decide) (by decide) (by decide +kernel) (by decide) ?_
      exact c_law_setLamp h (by omega) hL (by omega) (by omega) hEnd
    · refine L_tabIn (off := 636) 40 676 dL_law_40 (by decide) (by decide) (by decide +kernel) (by decide) ?_
      exact c_law_setWorks h (by omega) hL (by omega) (by omega) hEnd
    · refine L_tabIn (off := 720) 40 760 dL_law_40 (by decide) (by decide) (by decide +kernel) (by decide) ?_
      exact c_law_shift h (by omega) hL (by omega) (by omega) hEnd
    · refine L_tabIn (off := 788) 40 828 dL_law_40 (by decide) (by decide) (by decide +kernel) (by decide) ?_
      exact c_law_burn h (by omega) hL (by omega) (by omega) hEnd
    · refine L_tabIn (off := 844) 40 884 dL_law_40 (by decide) (by decide) (by decide +kernel) (by decide) ?_
      exact c_law_place h (by omega) hL (by omega) (by omega) hEnd
    · refine L_tabIn (off := 924) 40 964 dL_law_40 (by decide) (by decide) (by decide +kernel) (by decide) ?_
      exact c_law_light h (by omega) hL (by omega) (by omega) hEnd
    · refine L_tabIn (off := 1004) 40 1044 dL_law_40 (by decide) (by decide) (by decide +kernel) (by decide) ?_
      exact c_law_weight h (by omega) hL (by omega) (by omega) hEnd
    · refine L_tabIn (off := 1084) 40 1124 dL_law_40 (by decide) (by decide) (by decide +kernel) (by decide) ?_
      exact c_law_lamp h (by omega) hL (by omega) (by omega) hEnd
    · refine L_tabIn (off := 1152) 40 1192 dL_law_40 (by decide) (by decide) (by decide +kernel) (by decide) ?_
      exact c_law_corner h (by omega) hL (by omega) (by omega) hEnd
    · refine L_tabIn (off := 1232) 40 1272 dL_law_40 (by decide) (by decide) (by decide +kernel) (by decide) ?_
      exact c_law_whole h (by omega) hL (by omega) (by omega) hEnd
    · refine L_tabIn (off := 1288) 40 1328 dL_law_40 (by decide) (by decide) (by decide +kernel) (by decide) ?_
      exact c_law_wrong h (by omega) hL (by omega) (by omega) hEnd
    · refine L_tabIn (off := 1344) 40 1384 dL_law_40 (by decide) (by decide) (by decide +kernel) (by decide) ?_
      exact c_law_wrongWithout h (by omega) hL (by omega) (by omega) hEnd
    · refine L_tabIn (off := 1400) 40 1440 dL_law_40 (by decide) (by decide) (by decide +kernel) (by decide) ?_
      exact c_law_dearestLamp h (by omega) hL (by omega) (by omega) hEnd
    · refine L_tabIn (off := 1413) 40 1453 dL_law_40 (by decide) (by decide) (by decide +kernel) (by decide) ?_
      exact c_law_wrongShifted h (by omega) hL (by omega) (by omega) hEnd
    · refine L_tabIn (off := 1481) 40 1521 dL_law_40 (by decide) (by decide) (by decide +kernel) (by decide) ?_
      exact c_law_bestShift h (by omega) hL (by omega) (by omega) hEnd
    · refine L_tabIn (off := 1537) 40 1577 dL_law_40 (by decide) (by decide) (by decide +kernel) (by decide) ?_
      exact c_law_neededLimit h (by omega) hL (by omega) (by omega) hEnd
    · refine L_tabIn (off := 1593) 40 1633 dL_law_40 (by decide) (by decide) (by decide +kernel) (by decide) ?_
      exact c_law_type h (by omega) hL (by omega) (by omega) hEnd
    · refine L_tabIn (off := 1649) 40 1689 dL_law_40 (by decide) (by decide) (by decide +kernel) (by decide) ?_
      exact c_law_clearCommands h (by omega) hL (by omega) (by omega) hEnd
    · refine L_tabIn (off := 1662) 40 1702 dL_law_40 (by decide) (by decide) (by decide +kernel) (by decide) ?_
      exact c_law_runCommands h (by omega) hL (by omega) (by omega) hEnd
    · refine L_tabIn (off := 1675) 40 1715 dL_law_40 (by decide) (by decide) (by decide +kernel) (by decide) ?_
      exact c_law_undo h (by omega) hL (by omega) (by omega) hEnd
    · refine L_tabIn (off := 1719) 40 1759 dL_law_40 (by decide) (by decide) (by decide +kernel) (by decide) ?_
      exact c_law_digest h (by omega) hL (by omega) (by omega) hEnd
    · refine L_tabOut 40 1773 dL_law_40 (Or.inr (by rw [nI_toInt (by omega)]; omega)) (by decide) ?_
      exact L_wid (Nat.le_succ _) (Nat.le_add_right _ 6) (hEnd ω h)
