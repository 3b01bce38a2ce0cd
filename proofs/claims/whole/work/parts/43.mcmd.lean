set_option maxHeartbeats 4000000 in
set_option maxRecDepth 100000 in
theorem e_X7_numbersOf (v : Nat) (μ : Mm) (h1 : 1 ≤ v) (h8 : v ≤ 8) : EvN ΛM mX7_numbersOf [.int (nI v - 1)] μ (qE (nI (nOf v)) μ) := by
  refine EvN_ofQ (by decide +kernel) rfl (fun _ => rfl) (fun _ => Nat.le_of_ble_eq_true rfl) (ls := [(0, .int (nI v - 1))]) ?_
  have hv := (show v = 1 ∨ v = 2 ∨ v = 3 ∨ v = 4 ∨ v = 5 ∨ v = 6 ∨ v = 7 ∨ v = 8 by omega)
  refine X_iload_n 0 0 dX7_numbersOf_0 rfl rfl ?_
  refine X_iconst 1 (1) dX7_numbersOf_1 (by decide) ?_
  refine X_icmp_ne 2 9 dX7_numbersOf_2 (by decide) (fun c_2 => ?_) (fun c_2 => ?_)
  · refine X_iload_n 9 0 dX7_numbersOf_9 rfl rfl ?_
    refine X_iconst 10 (3) dX7_numbersOf_10 (by decide) ?_
    refine X_icmp_ne 11 18 dX7_numbersOf_11 (by decide) (fun c_11 => ?_) (fun c_11 => ?_)
    · refine X_iload_n 18 0 dX7_numbersOf_18 rfl rfl ?_
      refine X_if_eq 19 32 dX7_numbersOf_19 (by decide) (fun c_19 => ?_) (fun c_19 => ?_)
      · refine X_iconst 32 (2) dX7_numbersOf_32 (by decide) ?_
        refine X_goto 33 37 dX7_numbersOf_33 (by decide) ?_
        refine X_iret 37 dX7_numbersOf_37 rfl rfl ⟨_, rfl, _, rfl, ?_⟩
        refine ⟨?_, rfl⟩
        rcases hv with rfl | rfl | rfl | rfl | rfl | rfl | rfl | rfl <;> first | rfl | exact absurd c_2 (by decide) | exact absurd c_11 (by decide) | exact absurd c_19 (by decide) | exact absurd c_24 (by decide) | exact absurd c_29 (by decide)
      · refine X_iload_n 22 0 dX7_numbersOf_22 rfl rfl ?_
        refine X_iconst 23 (2) dX7_numbersOf_23 (by decide) ?_
        refine X_icmp_eq 24 32 dX7_numbersOf_24 (by decide) (fun c_24 => ?_) (fun c_24 => ?_)
        · refine X_iconst 32 (2) dX7_numbersOf_32 (by decide) ?_
          refine X_goto 33 37 dX7_numbersOf_33 (by decide) ?_
          refine X_iret 37 dX7_numbersOf_37 rfl rfl ⟨_, rfl, _, rfl, ?_⟩
          refine ⟨?_, rfl⟩
          rcases hv with rfl | rfl | rfl | rfl | rfl | rfl | rfl | rfl <;> first | rfl | exact absurd c_2 (by decide) | exact absurd c_11 (by decide) | exact absurd c_19 (by decide) | exact absurd c_24 (by decide) | exact absurd c_29 (by decide)
        · refine X_iload_n 27 0 dX7_numbersOf_27 rfl rfl ?_
          refine X_iconst 28 (4) dX7_numbersOf_28 (by decide) ?_
          refine X_icmp_ne 29 36 dX7_numbersOf_29 (by decide) (fun c_29 => ?_) (fun c_29 => ?_)
          · refine X_iconst 36 (1) dX7_numbersOf_36 (by decide) ?_
            refine X_iret 37 dX7_numbersOf_37 rfl rfl ⟨_, rfl, _, rfl, ?_⟩
            refine ⟨?_, rfl⟩
            rcases hv with rfl | rfl | rfl | rfl | rfl | rfl | rfl | rfl <;> first | rfl | exact absurd c_2 (by decide) | exact absurd c_11 (by decide) | exact absurd c_19 (by decide) | exact absurd c_24 (by decide) | exact absurd c_29 (by decide)
          · refine X_iconst 32 (2) dX7_numbersOf_32 (by decide) ?_
            refine X_goto 33 37 dX7_numbersOf_33 (by decide) ?_
            refine X_iret 37 dX7_numbersOf_37 rfl rfl ⟨_, rfl, _, rfl, ?_⟩
            refine ⟨?_, rfl⟩
            rcases hv with rfl | rfl | rfl | rfl | rfl | rfl | rfl | rfl <;> first | rfl | exact absurd c_2 (by decide) | exact absurd c_11 (by decide) | exact absurd c_19 (by decide) | exact absurd c_24 (by decide) | exact absurd c_29 (by decide)
    · refine X_iconst 14 (4) dX7_numbersOf_14 (by decide) ?_
      refine X_goto 15 37 dX7_numbersOf_15 (by decide) ?_
      refine X_iret 37 dX7_numbersOf_37 rfl rfl ⟨_, rfl, _, rfl, ?_⟩
      refine ⟨?_, rfl⟩
      rcases hv with rfl | rfl | rfl | rfl | rfl | rfl | rfl | rfl <;> first | rfl | exact absurd c_2 (by decide) | exact absurd c_11 (by decide) | exact absurd c_19 (by decide) | exact absurd c_24 (by decide) | exact absurd c_29 (by decide)
  · refine X_iconst 5 (5) dX7_numbersOf_5 (by decide) ?_
    refine X_goto 6 37 dX7_numbersOf_6 (by decide) ?_
    refine X_iret 37 dX7_numbersOf_37 rfl rfl ⟨_, rfl, _, rfl, ?_⟩
    refine ⟨?_, rfl⟩
    rcases hv with rfl | rfl | rfl | rfl | rfl | rfl | rfl | rfl <;> first | rfl | exact absurd c_2 (by decide) | exact absurd c_11 (by decide) | exact absurd c_19 (by decide) | exact absurd c_24 (by decide) | exact absurd c_29 (by decide)
set_option maxHeartbeats 4000000 in
set_option maxRecDepth 100000 in
theorem e_X7_isNumber (b : Nat → Int32) (L p : Nat) (w : Int32) (n : Nat → Int32) (k : Nat) (μ : Mm) (hT : TM b L μ) (hp : p ≤ L) (hk : k < 5) : EvN ΛM mX7_isNumber [.ref 0, .int (nI k)] (pmM μ p w n) (qI (fun x m => (x = 1 ∧ (rdN b p).1 = true ∧ pmM μ (rdN b p).2.1 w (upN n k (rdN b p).2.2) = m) ∨ (x = 0 ∧ (rdN b p).1 = false ∧ ∃ n2, pmM μ (rdN b p).2.1 w n2 = m))) := by
  refine EvN_ofQ (by decide +kernel) rfl (fun _ => rfl) (fun _ => Nat.le_of_ble_eq_true rfl) (ls := [(0, .ref 0), (1, .int (nI k))]) ?_
  have hL := hT.2.1
  have hb := sk_bd hT.2.2.2 hp
  have hg := sgP_bd hT.2.2.2 hb.2
  refine X_aload_n 0 0 dX7_isNumber_0 rfl rfl ?_
  refine X_cVI 1 [] (e_X7_skips b L p w n _ hT hp) dX7_isNumber_1 lm_RX7_236 0 ⟨wm_X7_skips, by decide +kernel, rfl, rfl⟩ rfl ⟨Nat.le_of_ble_eq_true rfl, Nat.le_of_ble_eq_true rfl⟩ lyM vc7 rfl rfl (Nat.le_of_ble_eq_true rfl) ?_
  rintro _ _ (⟨rfl, b_1, rfl⟩ | ⟨rfl, b_1, rfl⟩)
  · refine X_if_ne 4 9 dX7_isNumber_4 (by decide) (fun _ => ?_) (fun c_0 => by exact absurd c_0 (by decide))
    refine X_aload_n 9 0 dX7_isNumber_9 rfl rfl ?_
    refine X_cVI 10 [] (e_X7_here b L (sk b p) _ _ _ hT (by omega)) dX7_isNumber_10 lm_RX7_229 0 ⟨wm_X7_here, by decide +kernel, rfl, rfl⟩ rfl ⟨Nat.le_of_ble_eq_true rfl, Nat.le_of_ble_eq_true rfl⟩ lyM vc7 rfl rfl (Nat.le_of_ble_eq_true rfl) ?_
    rintro _ _ ⟨rfl, rfl⟩
    refine X_bipush 13 (45) dX7_isNumber_13 (by decide) ?_
    refine X_icmp_ne 15 22 dX7_isNumber_15 (by decide) (fun c_15 => ?_) (fun c_15 => ?_)
    · rw [hr_P hT.2.2.2 (fun x => x = 45) (by decide) (by decide)] at c_15
      have hs : (sgP b (sk b p)) = (sk b p) := if_neg c_15
      have hz : sgM b (sk b p) = 1 := if_neg c_15
      refine X_iconst 22 (1) dX7_isNumber_22 (by decide) ?_
      refine X_istore_n 23 [(2, .int _), (0, .ref _), (1, .int _)] dX7_isNumber_23 rfl (by decide) rfl ?_
      refine X_aload_n 24 1 dX7_isNumber_24 rfl rfl ?_
      refine X_dupr 25 dX7_isNumber_25 ?_
      refine X_getI (f := 19) 26 dX7_isNumber_26 lf_RX7_226 iw7 vc7 (by decide) lyM rfl ?_
      rw [pm_19]
      refine X_iload_n 29 0 dX7_isNumber_29 rfl rfl ?_
      refine X_if_ge 30 37 dX7_isNumber_30 (by decide) (fun _ => ?_) (fun c_0 => by exact absurd c_0 (by decide))
      refine X_iconst 37 (0) dX7_isNumber_37 (by decide) ?_
      refine X_iadd 38 dX7_isNumber_38 ?_
      first | rw [Int32.add_zero] | rw [nI_1]
      refine X_putI (f := 19) 39 dX7_isNumber_39 lf_RX7_226 iw7 vc7 (by decide) lyM tyX7_ok nmX7 rfl rfl rfl (by decide) rfl rfl ?_
      rw [pm_u19, ← hs]
      refine X_lsE (ls2 := [(2, .int (sgM b (sk b p))), (0, .ref 0), (1, .int (nI k))]) (by rw [hz]) ?_
      refine X_iconst 42 (0) dX7_isNumber_42 (by decide) ?_
      refine X_istore_n 43 [(3, .int _), (2, .int _), (0, .ref _), (1, .int _)] dX7_isNumber_43 rfl (by decide) rfl ?_
      refine X_iconst 44 (0) dX7_isNumber_44 (by decide) ?_
      refine X_istore 45 [(4, .int _), (3, .int _), (2, .int _), (0, .ref _), (1, .int _)] dX7_isNumber_45 (by decide) rfl ?_
      refine X_sub [3, 4, 2, 1, 0] [(0, .ref _), (1, .int _), (2, .int _), (3, .int _), (4, .int _)] rfl ?_
      have L_47 : ∀ (kf : Nat) (q : Nat) (m : Nat) (v : Int32), q ≤ L → m ≤ 4 → m < kf → dgF b m q v = dgF b 4 (sgP b (sk b p)) 0 → (m = 4 → q = (sgP b (sk b p))) → (m < 4 → isDg (b (sgP b (sk b p)))) → ∀ (x47_3 : Int32) (x47_4 : Int32) (μ47 : Mm), nI (4 - m) = x47_3 → v = x47_4 → pmM μ q w n = μ47 → X false ΛM mX7_isNumber (QN (qI (fun x m => (x = 1 ∧ (rdN b p).1 = true ∧ pmM μ (rdN b p).2.1 w (upN n k (rdN b p).2.2) = m) ∨ (x = 0 ∧ (rdN b p).1 = false ∧ ∃ n2, pmM μ (rdN b p).2.1 w n2 = m)))) 47 [(0, .ref 0), (1, .int (nI k)), (2, .int (sgM b (sk b p))), (3, .int x47_3), (4, .int x47_4)] [] μ47 := by
        intro kf
        induction kf with
        | zero => intro q m v hp47_0 hp47_1 hp47_2 hp47_3 hp47_4 hp47_5; exfalso; omega
        | succ kf ih_47 =>
          intro q m v hp47_0 hp47_1 hp47_2 hp47_3 hp47_4 hp47_5 x47_3 x47_4 μ47
          rintro rfl rfl rfl
          refine X_iload_n 47 3 dX7_isNumber_47 rfl rfl ?_
          refine X_iconst 48 (4) dX7_isNumber_48 (by decide) ?_
          refine X_icmp_ge 49 97 dX7_isNumber_49 (by decide) (fun c_49 => ?_) (fun c_49 => ?_)
          · have hm : m = 0 := by have := c_ge (k := 4) rfl (by decide) (by omega) c_49; omega
            subst hm
            have hd : dgF b 4 (sgP b (sk b p)) 0 = (q, v) := hp47_3.symm
            have hX : (4 - 0 = 0 → ¬ isDg (b (sgP b (sk b p))) ∧ q = (sgP b (sk b p))) ∧ (0 < 4 - 0 → isDg (b (sgP b (sk b p)))) := ⟨fun z => absurd z (by decide), fun _ => hp47_5 (by decide)⟩
            refine X_aload_n 97 0 dX7_isNumber_97 rfl rfl ?_
            refine X_getR (f := 21) 98 dX7_isNumber_98 lf_RX7_35 iw7 vc7 (by decide) lyM rfl ?_
            refine X_iload_n 101 1 dX7_isNumber_101 rfl rfl ?_
            refine X_iload_n 102 2 dX7_isNumber_102 rfl rfl ?_
            refine X_iload 103 4 dX7_isNumber_103 rfl ?_
            refine X_imul 105 dX7_isNumber_105 ?_
            refine X_iast 106 dX7_isNumber_106 lyM8 (vp_in_nI (N := 5) hk (by decide)) ?_
            rw [nI_clamp (by omega), pm_st hk]
            refine X_iload_n 107 3 dX7_isNumber_107 rfl rfl ?_
            refine X_if_le 108 115 dX7_isNumber_108 (by decide) (fun c_108 => ?_) (fun c_108 => ?_)
            · have h9 := hX.1 (by have := (nI_leI (b := 0) (by omega) (by decide)).mp c_108; omega)
              refine X_iconst 115 (0) dX7_isNumber_115 (by decide) ?_
              refine X_iret 116 dX7_isNumber_116 rfl rfl ⟨_, rfl, _, rfl, ?_⟩
              refine Or.inr ⟨rfl, ?_⟩
              first
                | (rw [rdN_2 b_1 h9, hd, sgM_v]; exact ⟨rfl, rfl⟩)
                | (rw [rdN_1 b_1 h9.1, ← h9.2]; exact ⟨rfl, _, rfl⟩)
            · have h9 := hX.2 (Nat.pos_of_ne_zero (fun z => c_108 (by rw [z]; decide)))
              refine X_iconst 111 (1) dX7_isNumber_111 (by decide) ?_
              refine X_goto 112 116 dX7_isNumber_112 (by decide) ?_
              refine X_iret 116 dX7_isNumber_116 rfl rfl ⟨_, rfl, _, rfl, ?_⟩
              refine Or.inl ⟨rfl, ?_⟩
              first
                | (rw [rdN_2 b_1 h9, hd, sgM_v]; exact ⟨rfl, rfl⟩)
                | (rw [rdN_1 b_1 h9.1, ← h9.2]; exact ⟨rfl, _, rfl⟩)
          · have h4 : 4 - m < 4 := c_lt (k := 4) rfl (by decide) (by omega) c_49
            obtain ⟨m, rfl⟩ : ∃ j, m = j + 1 := ⟨m - 1, by omega⟩
            refine X_aload_n 52 0 dX7_isNumber_52 rfl rfl ?_
            refine X_cVI 53 [] (e_X7_here b L q _ _ _ hT (by omega)) dX7_isNumber_53 lm_RX7_229 0 ⟨wm_X7_here, by decide +kernel, rfl, rfl⟩ rfl ⟨Nat.le_of_ble_eq_true rfl, Nat.le_of_ble_eq_true rfl⟩ lyM vc7 rfl rfl (Nat.le_of_ble_eq_true rfl) ?_
            rintro _ _ ⟨rfl, rfl⟩
            refine X_bipush 56 (48) dX7_isNumber_56 (by decide) ?_
            refine X_bipush 58 (57) dX7_isNumber_58 (by decide) ?_
            refine X_cSI 60 [.int _, .int _, .int _] (e_X7_in _ _ _ _) dX7_isNumber_60 lm_RX7_41 3 ⟨wm_X7_in, by decide +kernel, rfl, rfl⟩ rfl ⟨Nat.le_of_ble_eq_true rfl, Nat.le_of_ble_eq_true rfl⟩ rfl (Nat.le_of_ble_eq_true rfl) ?_
            rintro _ _ ⟨rfl, ⟨rfl, b_60⟩ | ⟨rfl, b_60⟩⟩
            · have b_61 : isDg (b q) := (hr_P hT.2.2.2 (fun x => 48 ≤ x ∧ x ≤ 57) (by decide) (by decide)).mp b_60
              rw [dgF, if_pos b_61] at hp47_3
              have hql := hr_lt hT.2.2.2 (fun x => isDg x) (by decide) b_61
              refine X_if_eq 63 97 dX7_isNumber_63 (by decide) (fun c_0 => by exact absurd c_0 (by decide)) (fun _ => ?_)
              refine X_bipush 66 (10) dX7_isNumber_66 (by decide) ?_
              refine X_iload 68 4 dX7_isNumber_68 rfl ?_
              refine X_imul 70 dX7_isNumber_70 ?_
              refine X_aload_n 71 0 dX7_isNumber_71 rfl rfl ?_
              refine X_cVI 72 [] (e_X7_here b L q _ _ _ hT (by omega)) dX7_isNumber_72 lm_RX7_229 0 ⟨wm_X7_here, by decide +kernel, rfl, rfl⟩ rfl ⟨Nat.le_of_ble_eq_true rfl, Nat.le_of_ble_eq_true rfl⟩ lyM vc7 rfl rfl (Nat.le_of_ble_eq_true rfl) ?_
              rintro _ _ ⟨rfl, rfl⟩
              rw [show hrB b L q = b q from if_pos hql]
              refine X_iadd 75 dX7_isNumber_75 ?_
              refine X_bipush 76 (48) dX7_isNumber_76 (by decide) ?_
              refine X_isub 78 dX7_isNumber_78 ?_
              refine X_istore 79 [(4, .int _), (0, .ref _), (1, .int _), (2, .int _), (3, .int _)] dX7_isNumber_79 (by decide) rfl ?_
              refine X_iinc 81 4 (_ + 1) [(3, .int _), (4, .int _), (0, .ref _), (1, .int _), (2, .int _)] dX7_isNumber_81 rfl rfl (by decide) rfl ?_
              refine X_aload_n 84 2 dX7_isNumber_84 rfl rfl ?_
              refine X_dupr 85 dX7_isNumber_85 ?_
              refine X_getI (f := 19) 86 dX7_isNumber_86 lf_RX7_226 iw7 vc7 (by decide) lyM rfl ?_
              rw [pm_19]
              refine X_iconst 89 (1) dX7_isNumber_89 (by decide) ?_
              refine X_iadd 90 dX7_isNumber_90 ?_
              rw [nI_1 q]
              refine X_putI (f := 19) 91 dX7_isNumber_91 lf_RX7_226 iw7 vc7 (by decide) lyM tyX7_ok nmX7 rfl rfl rfl (by decide) rfl rfl ?_
              refine X_goto 94 47 dX7_isNumber_94 (by decide) ?_
              refine X_sub [2, 3, 4, 0, 1] [(0, .ref _), (1, .int _), (2, .int _), (3, .int _), (4, .int _)] rfl ?_
              exact ih_47 (q + 1) m (10 * v + b q - 48) (by omega) (by omega) (by omega) hp47_3 (fun z => by omega) (fun _ => by rcases Nat.lt_or_ge (m + 1) 4 with z | z; exact hp47_5 z; rw [← hp47_4 (by omega)]; exact b_61) _ _ _  (by rw [nI_1]; congr 1; omega) (by rfl) (by exact (pm_u19 _ _ _ _ _).symm)
            · have b_61 : ¬ isDg (b q) := fun z => b_60 ((hr_P hT.2.2.2 (fun x => 48 ≤ x ∧ x ≤ 57) (by decide) (by decide)).mpr z)
              have hd : dgF b 4 (sgP b (sk b p)) 0 = (q, v) := by rw [← hp47_3, dgF, if_neg b_61]
              have hX : (4 - (m + 1) = 0 → ¬ isDg (b (sgP b (sk b p))) ∧ q = (sgP b (sk b p))) ∧ (0 < 4 - (m + 1) → isDg (b (sgP b (sk b p)))) := ⟨fun z => ⟨by rw [← hp47_4 (by omega)]; exact b_61, hp47_4 (by omega)⟩, fun z => hp47_5 (by omega)⟩
              refine X_if_eq 63 97 dX7_isNumber_63 (by decide) (fun _ => ?_) (fun c_0 => by exact absurd c_0 (by decide))
              refine X_aload_n 97 0 dX7_isNumber_97 rfl rfl ?_
              refine X_getR (f := 21) 98 dX7_isNumber_98 lf_RX7_35 iw7 vc7 (by decide) lyM rfl ?_
              refine X_iload_n 101 1 dX7_isNumber_101 rfl rfl ?_
              refine X_iload_n 102 2 dX7_isNumber_102 rfl rfl ?_
              refine X_iload 103 4 dX7_isNumber_103 rfl ?_
              refine X_imul 105 dX7_isNumber_105 ?_
              refine X_iast 106 dX7_isNumber_106 lyM8 (vp_in_nI (N := 5) hk (by decide)) ?_
              rw [nI_clamp (by omega), pm_st hk]
              refine X_iload_n 107 3 dX7_isNumber_107 rfl rfl ?_
              refine X_if_le 108 115 dX7_isNumber_108 (by decide) (fun c_108 => ?_) (fun c_108 => ?_)
              · have h9 := hX.1 (by have := (nI_leI (b := 0) (by omega) (by decide)).mp c_108; omega)
                refine X_iconst 115 (0) dX7_isNumber_115 (by decide) ?_
                refine X_iret 116 dX7_isNumber_116 rfl rfl ⟨_, rfl, _, rfl, ?_⟩
                refine Or.inr ⟨rfl, ?_⟩
                first
                  | (rw [rdN_2 b_1 h9, hd, sgM_v]; exact ⟨rfl, rfl⟩)
                  | (rw [rdN_1 b_1 h9.1, ← h9.2]; exact ⟨rfl, _, rfl⟩)
              · have h9 := hX.2 (Nat.pos_of_ne_zero (fun z => c_108 (by rw [z]; decide)))
                refine X_iconst 111 (1) dX7_isNumber_111 (by decide) ?_
                refine X_goto 112 116 dX7_isNumber_112 (by decide) ?_
                refine X_iret 116 dX7_isNumber_116 rfl rfl ⟨_, rfl, _, rfl, ?_⟩
                refine Or.inl ⟨rfl, ?_⟩
                first
                  | (rw [rdN_2 b_1 h9, hd, sgM_v]; exact ⟨rfl, rfl⟩)
                  | (rw [rdN_1 b_1 h9.1, ← h9.2]; exact ⟨rfl, _, rfl⟩)
      exact L_47 5 (sgP b (sk b p)) 4 0 hg.2 (by omega) (by omega) rfl (fun _ => rfl) (fun z => absurd z (by decide)) _ _ _  (by rfl) (by rfl) (by rfl)
    · rw [hr_P hT.2.2.2 (fun x => x = 45) (by decide) (by decide)] at c_15
      have hs : (sgP b (sk b p)) = (sk b p) + 1 := if_pos c_15
      have hz : sgM b (sk b p) = -1 := if_pos c_15
      refine X_iconst 18 (-1) dX7_isNumber_18 (by decide) ?_
      refine X_goto 19 23 dX7_isNumber_19 (by decide) ?_
      refine X_istore_n 23 [(2, .int _), (0, .ref _), (1, .int _)] dX7_isNumber_23 rfl (by decide) rfl ?_
      refine X_aload_n 24 1 dX7_isNumber_24 rfl rfl ?_
      refine X_dupr 25 dX7_isNumber_25 ?_
      refine X_getI (f := 19) 26 dX7_isNumber_26 lf_RX7_226 iw7 vc7 (by decide) lyM rfl ?_
      rw [pm_19]
      refine X_iload_n 29 0 dX7_isNumber_29 rfl rfl ?_
      refine X_if_ge 30 37 dX7_isNumber_30 (by decide) (fun c_0 => by exact absurd c_0 (by decide)) (fun _ => ?_)
      refine X_iconst 33 (1) dX7_isNumber_33 (by decide) ?_
      refine X_goto 34 38 dX7_isNumber_34 (by decide) ?_
      refine X_iadd 38 dX7_isNumber_38 ?_
      first | rw [Int32.add_zero] | rw [nI_1]
      refine X_putI (f := 19) 39 dX7_isNumber_39 lf_RX7_226 iw7 vc7 (by decide) lyM tyX7_ok nmX7 rfl rfl rfl (by decide) rfl rfl ?_
      rw [pm_u19, ← hs]
      refine X_lsE (ls2 := [(2, .int (sgM b (sk b p))), (0, .ref 0), (1, .int (nI k))]) (by rw [hz]) ?_
      refine X_iconst 42 (0) dX7_isNumber_42 (by decide) ?_
      refine X_istore_n 43 [(3, .int _), (2, .int _), (0, .ref _), (1, .int _)] dX7_isNumber_43 rfl (by decide) rfl ?_
      refine X_iconst 44 (0) dX7_isNumber_44 (by decide) ?_
      refine X_istore 45 [(4, .int _), (3, .int _), (2, .int _), (0, .ref _), (1, .int _)] dX7_isNumber_45 (by decide) rfl ?_
      refine X_sub [3, 4, 2, 1, 0] [(0, .ref _), (1, .int _), (2, .int _), (3, .int _), (4, .int _)] rfl ?_
      have L_47 : ∀ (kf : Nat) (q : Nat) (m : Nat) (v : Int32), q ≤ L → m ≤ 4 → m < kf → dgF b m q v = dgF b 4 (sgP b (sk b p)) 0 → (m = 4 → q = (sgP b (sk b p))) → (m < 4 → isDg (b (sgP b (sk b p)))) → ∀ (x47_3 : Int32) (x47_4 : Int32) (μ47 : Mm), nI (4 - m) = x47_3 → v = x47_4 → pmM μ q w n = μ47 → X false ΛM mX7_isNumber (QN (qI (fun x m => (x = 1 ∧ (rdN b p).1 = true ∧ pmM μ (rdN b p).2.1 w (upN n k (rdN b p).2.2) = m) ∨ (x = 0 ∧ (rdN b p).1 = false ∧ ∃ n2, pmM μ (rdN b p).2.1 w n2 = m)))) 47 [(0, .ref 0), (1, .int (nI k)), (2, .int (sgM b (sk b p))), (3, .int x47_3), (4, .int x47_4)] [] μ47 := by
        intro kf
        induction kf with
        | zero => intro q m v hp47_0 hp47_1 hp47_2 hp47_3 hp47_4 hp47_5; exfalso; omega
        | succ kf ih_47 =>
          intro q m v hp47_0 hp47_1 hp47_2 hp47_3 hp47_4 hp47_5 x47_3 x47_4 μ47
          rintro rfl rfl rfl
          refine X_iload_n 47 3 dX7_isNumber_47 rfl rfl ?_
          refine X_iconst 48 (4) dX7_isNumber_48 (by decide) ?_
          refine X_icmp_ge 49 97 dX7_isNumber_49 (by decide) (fun c_49 => ?_) (fun c_49 => ?_)
          · have hm : m = 0 := by have := c_ge (k := 4) rfl (by decide) (by omega) c_49; omega
            subst hm
            have hd : dgF b 4 (sgP b (sk b p)) 0 = (q, v) := hp47_3.symm
            have hX : (4 - 0 = 0 → ¬ isDg (b (sgP b (sk b p))) ∧ q = (sgP b (sk b p))) ∧ (0 < 4 - 0 → isDg (b (sgP b (sk b p)))) := ⟨fun z => absurd z (by decide), fun _ => hp47_5 (by decide)⟩
            refine X_aload_n 97 0 dX7_isNumber_97 rfl rfl ?_
            refine X_getR (f := 21) 98 dX7_isNumber_98 lf_RX7_35 iw7 vc7 (by decide) lyM rfl ?_
            refine X_iload_n 101 1 dX7_isNumber_101 rfl rfl ?_
            refine X_iload_n 102 2 dX7_isNumber_102 rfl rfl ?_
            refine X_iload 103 4 dX7_isNumber_103 rfl ?_
            refine X_imul 105 dX7_isNumber_105 ?_
            refine X_iast 106 dX7_isNumber_106 lyM8 (vp_in_nI (N := 5) hk (by decide)) ?_
            rw [nI_clamp (by omega), pm_st hk]
            refine X_iload_n 107 3 dX7_isNumber_107 rfl rfl ?_
            refine X_if_le 108 115 dX7_isNumber_108 (by decide) (fun c_108 => ?_) (fun c_108 => ?_)
            · have h9 := hX.1 (by have := (nI_leI (b := 0) (by omega) (by decide)).mp c_108; omega)
              refine X_iconst 115 (0) dX7_isNumber_115 (by decide) ?_
              refine X_iret 116 dX7_isNumber_116 rfl rfl ⟨_, rfl, _, rfl, ?_⟩
              refine Or.inr ⟨rfl, ?_⟩
              first
                | (rw [rdN_2 b_1 h9, hd, sgM_v]; exact ⟨rfl, rfl⟩)
                | (rw [rdN_1 b_1 h9.1, ← h9.2]; exact ⟨rfl, _, rfl⟩)
            · have h9 := hX.2 (Nat.pos_of_ne_zero (fun z => c_108 (by rw [z]; decide)))
              refine X_iconst 111 (1) dX7_isNumber_111 (by decide) ?_
              refine X_goto 112 116 dX7_isNumber_112 (by decide) ?_
              refine X_iret 116 dX7_isNumber_116 rfl rfl ⟨_, rfl, _, rfl, ?_⟩
              refine Or.inl ⟨rfl, ?_⟩
              first
                | (rw [rdN_2 b_1 h9, hd, sgM_v]; exact ⟨rfl, rfl⟩)
                | (rw [rdN_1 b_1 h9.1, ← h9.2]; exact ⟨rfl, _, rfl⟩)
          · have h4 : 4 - m < 4 := c_lt (k := 4) rfl (by decide) (by omega) c_49
            obtain ⟨m, rfl⟩ : ∃ j, m = j + 1 := ⟨m - 1, by omega⟩
            refine X_aload_n 52 0 dX7_isNumber_52 rfl rfl ?_
            refine X_cVI 53 [] (e_X7_here b L q _ _ _ hT (by omega)) dX7_isNumber_53 lm_RX7_229 0 ⟨wm_X7_here, by decide +kernel, rfl, rfl⟩ rfl ⟨Nat.le_of_ble_eq_true rfl, Nat.le_of_ble_eq_true rfl⟩ lyM vc7 rfl rfl (Nat.le_of_ble_eq_true rfl) ?_
            rintro _ _ ⟨rfl, rfl⟩
            refine X_bipush 56 (48) dX7_isNumber_56 (by decide) ?_
            refine X_bipush 58 (57) dX7_isNumber_58 (by decide) ?_
            refine X_cSI 60 [.int _, .int _, .int _] (e_X7_in _ _ _ _) dX7_isNumber_60 lm_RX7_41 3 ⟨wm_X7_in, by decide +kernel, rfl, rfl⟩ rfl ⟨Nat.le_of_ble_eq_true rfl, Nat.le_of_ble_eq_true rfl⟩ rfl (Nat.le_of_ble_eq_true rfl) ?_
            rintro _ _ ⟨rfl, ⟨rfl, b_60⟩ | ⟨rfl, b_60⟩⟩
            · have b_61 : isDg (b q) := (hr_P hT.2.2.2 (fun x => 48 ≤ x ∧ x ≤ 57) (by decide) (by decide)).mp b_60
              rw [dgF, if_pos b_61] at hp47_3
              have hql := hr_lt hT.2.2.2 (fun x => isDg x) (by decide) b_61
              refine X_if_eq 63 97 dX7_isNumber_63 (by decide) (fun c_0 => by exact absurd c_0 (by decide)) (fun _ => ?_)
              refine X_bipush 66 (10) dX7_isNumber_66 (by decide) ?_
              refine X_iload 68 4 dX7_isNumber_68 rfl ?_
              refine X_imul 70 dX7_isNumber_70 ?_
              refine X_aload_n 71 0 dX7_isNumber_71 rfl rfl ?_
              refine X_cVI 72 [] (e_X7_here b L q _ _ _ hT (by omega)) dX7_isNumber_72 lm_RX7_229 0 ⟨wm_X7_here, by decide +kernel, rfl, rfl⟩ rfl ⟨Nat.le_of_ble_eq_true rfl, Nat.le_of_ble_eq_true rfl⟩ lyM vc7 rfl rfl (Nat.le_of_ble_eq_true rfl) ?_
              rintro _ _ ⟨rfl, rfl⟩
              rw [show hrB b L q = b q from if_pos hql]
              refine X_iadd 75 dX7_isNumber_75 ?_
              refine X_bipush 76 (48) dX7_isNumber_76 (by decide) ?_
              refine X_isub 78 dX7_isNumber_78 ?_
              refine X_istore 79 [(4, .int _), (0, .ref _), (1, .int _), (2, .int _), (3, .int _)] dX7_isNumber_79 (by decide) rfl ?_
              refine X_iinc 81 4 (_ + 1) [(3, .int _), (4, .int _), (0, .ref _), (1, .int _), (2, .int _)] dX7_isNumber_81 rfl rfl (by decide) rfl ?_
              refine X_aload_n 84 2 dX7_isNumber_84 rfl rfl ?_
              refine X_dupr 85 dX7_isNumber_85 ?_
              refine X_getI (f := 19) 86 dX7_isNumber_86 lf_RX7_226 iw7 vc7 (by decide) lyM rfl ?_
              rw [pm_19]
              refine X_iconst 89 (1) dX7_isNumber_89 (by decide) ?_
              refine X_iadd 90 dX7_isNumber_90 ?_
              rw [nI_1 q]
              refine X_putI (f := 19) 91 dX7_isNumber_91 lf_RX7_226 iw7 vc7 (by decide) lyM tyX7_ok nmX7 rfl rfl rfl (by decide) rfl rfl ?_
              refine X_goto 94 47 dX7_isNumber_94 (by decide) ?_
              refine X_sub [2, 3, 4, 0, 1] [(0, .ref _), (1, .int _), (2, .int _), (3, .int _), (4, .int _)] rfl ?_
              exact ih_47 (q + 1) m (10 * v + b q - 48) (by omega) (by omega) (by omega) hp47_3 (fun z => by omega) (fun _ => by rcases Nat.lt_or_ge (m + 1) 4 with z | z; exact hp47_5 z; rw [← hp47_4 (by omega)]; exact b_61) _ _ _  (by rw [nI_1]; congr 1; omega) (by rfl) (by exact (pm_u19 _ _ _ _ _).symm)
            · have b_61 : ¬ isDg (b q) := fun z => b_60 ((hr_P hT.2.2.2 (fun x => 48 ≤ x ∧ x ≤ 57) (by decide) (by decide)).mpr z)
              have hd : dgF b 4 (sgP b (sk b p)) 0 = (q, v) := by rw [← hp47_3, dgF, if_neg b_61]
              have hX : (4 - (m + 1) = 0 → ¬ isDg (b (sgP b (sk b p))) ∧ q = (sgP b (sk b p))) ∧ (0 < 4 - (m + 1) → isDg (b (sgP b (sk b p)))) := ⟨fun z => ⟨by rw [← hp47_4 (by omega)]; exact b_61, hp47_4 (by omega)⟩, fun z => hp47_5 (by omega)⟩
              refine X_if_eq 63 97 dX7_isNumber_63 (by decide) (fun _ => ?_) (fun c_0 => by exact absurd c_0 (by decide))
              refine X_aload_n 97 0 dX7_isNumber_97 rfl rfl ?_
              refine X_getR (f := 21) 98 dX7_isNumber_98 lf_RX7_35 iw7 vc7 (by decide) lyM rfl ?_
              refine X_iload_n 101 1 dX7_isNumber_101 rfl rfl ?_
              refine X_iload_n 102 2 dX7_isNumber_102 rfl rfl ?_
              refine X_iload 103 4 dX7_isNumber_103 rfl ?_
              refine X_imul 105 dX7_isNumber_105 ?_
              refine X_iast 106 dX7_isNumber_106 lyM8 (vp_in_nI (N := 5) hk (by decide)) ?_
              rw [nI_clamp (by omega), pm_st hk]
              refine X_iload_n 107 3 dX7_isNumber_107 rfl rfl ?_
              refine X_if_le 108 115 dX7_isNumber_108 (by decide) (fun c_108 => ?_) (fun c_108 => ?_)
              · have h9 := hX.1 (by have := (nI_leI (b := 0) (by omega) (by decide)).mp c_108; omega)
                refine X_iconst 115 (0) dX7_isNumber_115 (by decide) ?_
                refine X_iret 116 dX7_isNumber_116 rfl rfl ⟨_, rfl, _, rfl, ?_⟩
                refine Or.inr ⟨rfl, ?_⟩
                first
                  | (rw [rdN_2 b_1 h9, hd, sgM_v]; exact ⟨rfl, rfl⟩)
                  | (rw [rdN_1 b_1 h9.1, ← h9.2]; exact ⟨rfl, _, rfl⟩)
              · have h9 := hX.2 (Nat.pos_of_ne_zero (fun z => c_108 (by rw [z]; decide)))
                refine X_iconst 111 (1) dX7_isNumber_111 (by decide) ?_
                refine X_goto 112 116 dX7_isNumber_112 (by decide) ?_
                refine X_iret 116 dX7_isNumber_116 rfl rfl ⟨_, rfl, _, rfl, ?_⟩
                refine Or.inl ⟨rfl, ?_⟩
                first
                  | (rw [rdN_2 b_1 h9, hd, sgM_v]; exact ⟨rfl, rfl⟩)
                  | (rw [rdN_1 b_1 h9.1, ← h9.2]; exact ⟨rfl, _, rfl⟩)
      exact L_47 5 (sgP b (sk b p)) 4 0 hg.2 (by omega) (by omega) rfl (fun _ => rfl) (fun z => absurd z (by decide)) _ _ _  (by rfl) (by rfl) (by rfl)
  · refine X_if_ne 4 9 dX7_isNumber_4 (by decide) (fun c_0 => by exact absurd c_0 (by decide)) (fun _ => ?_)
    refine X_iconst 7 (0) dX7_isNumber_7 (by decide) ?_
    refine X_iret 8 dX7_isNumber_8 rfl rfl ⟨_, rfl, _, rfl, ?_⟩
    refine Or.inr ⟨rfl, ?_⟩
    rw [rdN_0 b_1]; exact ⟨rfl, n, by rw [sk_st b_1]⟩
set_option maxHeartbeats 4000000 in
set_option maxRecDepth 100000 in
theorem e_X7_isCommand (b : Nat → Int32) (L p : Nat) (w : Int32) (n : Nat → Int32) (f : Int32) (n0 : Nat → Int32) (μ : Mm) (hT : TM b L μ) (hp : p ≤ L) : EvN ΛM mX7_isCommand [.ref 0] (pmM μ p w n) (qI (fun x m => (x = 1 ∧ (rdW b f n0 p (lt b p) (wdOf b p (lt b p))).1 = true ∧ ∃ n2, pmM μ (sk b (rdW b f n0 p (lt b p) (wdOf b p (lt b p))).2.1) (nI (wdOf b p (lt b p)) - 1) n2 = m ∧ ∀ j, j < nOf (wdOf b p (lt b p)) → n2 j = (rdW b f n0 p (lt b p) (wdOf b p (lt b p))).2.2.2.2 j) ∨ (x = 0 ∧ (rdW b f n0 p (lt b p) (wdOf b p (lt b p))).1 = false ∧ ∃ q2 w2 n2, pmM μ q2 w2 n2 = m ∧ nI q2 = (rdW b f n0 p (lt b p) (wdOf b p (lt b p))).2.2.1 ∧ q2 ≤ L))) := by
  refine EvN_ofQ (by decide +kernel) rfl (fun _ => rfl) (fun _ => Nat.le_of_ble_eq_true rfl) (ls := [(0, .ref 0)]) ?_
  have hL := hT.2.1
  have hb1 := lt_bd hT.2.2.2 hp
  have hw8 := wdOf_le b p (lt b p)
  have hn5 : nOf (wdOf b p (lt b p)) ≤ 5 := nOf_le _
  refine X_aload_n 0 0 dX7_isCommand_0 rfl rfl ?_
  refine X_getI (f := 19) 1 dX7_isCommand_1 lf_RX7_226 iw7 vc7 (by decide) lyM rfl ?_
  rw [pm_19]
  refine X_istore_n 4 [(1, .int _), (0, .ref _)] dX7_isCommand_4 rfl (by decide) rfl ?_
  refine X_sub [1, 0] [(0, .ref _), (1, .int _)] rfl ?_
  have L_5 : ∀ (kf : Nat) (q : Nat), q ≤ L → L < q + kf → lt b q = lt b p → ∀  (μ5 : Mm), pmM μ q w n = μ5 → X false ΛM mX7_isCommand (QN (qI (fun x m => (x = 1 ∧ (rdW b f n0 p (lt b p) (wdOf b p (lt b p))).1 = true ∧ ∃ n2, pmM μ (sk b (rdW b f n0 p (lt b p) (wdOf b p (lt b p))).2.1) (nI (wdOf b p (lt b p)) - 1) n2 = m ∧ ∀ j, j < nOf (wdOf b p (lt b p)) → n2 j = (rdW b f n0 p (lt b p) (wdOf b p (lt b p))).2.2.2.2 j) ∨ (x = 0 ∧ (rdW b f n0 p (lt b p) (wdOf b p (lt b p))).1 = false ∧ ∃ q2 w2 n2, pmM μ q2 w2 n2 = m ∧ nI q2 = (rdW b f n0 p (lt b p) (wdOf b p (lt b p))).2.2.1 ∧ q2 ≤ L)))) 5 [(0, .ref 0), (1, .int (nI p))] [] μ5 := by
    intro kf
    induction kf with
    | zero => intro q hp5_0 hp5_1 hp5_2; exfalso; omega
    | succ kf ih_5 =>
      intro q hp5_0 hp5_1 hp5_2  μ5
      rintro rfl
      refine X_aload_n 5 0 dX7_isCommand_5 rfl rfl ?_
      refine X_cVI 6 [] (e_X7_here b L q _ _ _ hT (by omega)) dX7_isCommand_6 lm_RX7_229 0 ⟨wm_X7_here, by decide +kernel, rfl, rfl⟩ rfl ⟨Nat.le_of_ble_eq_true rfl, Nat.le_of_ble_eq_true rfl⟩ lyM vc7 rfl rfl (Nat.le_of_ble_eq_true rfl) ?_
      rintro _ _ ⟨rfl, rfl⟩
      refine X_bipush 9 (97) dX7_isCommand_9 (by decide) ?_
      refine X_bipush 11 (122) dX7_isCommand_11 (by decide) ?_
      refine X_cSI 13 [.int _, .int _, .int _] (e_X7_in _ _ _ _) dX7_isCommand_13 lm_RX7_41 3 ⟨wm_X7_in, by decide +kernel, rfl, rfl⟩ rfl ⟨Nat.le_of_ble_eq_true rfl, Nat.le_of_ble_eq_true rfl⟩ rfl (Nat.le_of_ble_eq_true rfl) ?_
      rintro _ _ ⟨rfl, ⟨rfl, b_13⟩ | ⟨rfl, b_13⟩⟩
      · rw [hr_P hT.2.2.2 (fun x => 97 ≤ x ∧ x ≤ 122) (by decide) (by decide)] at b_13
        have hlq := hr_lt hT.2.2.2 (fun x => 97 ≤ x ∧ x ≤ 122) (by decide) b_13
        refine X_if_eq 16 32 dX7_isCommand_16 (by decide) (fun c_0 => by exact absurd c_0 (by decide)) (fun _ => ?_)
        refine X_aload_n 19 0 dX7_isCommand_19 rfl rfl ?_
        refine X_dupr 20 dX7_isCommand_20 ?_
        refine X_getI (f := 19) 21 dX7_isCommand_21 lf_RX7_226 iw7 vc7 (by decide) lyM rfl ?_
        rw [pm_19]
        refine X_iconst 24 (1) dX7_isCommand_24 (by decide) ?_
        refine X_iadd 25 dX7_isCommand_25 ?_
        rw [nI_1]
        refine X_putI (f := 19) 26 dX7_isCommand_26 lf_RX7_226 iw7 vc7 (by decide) lyM tyX7_ok nmX7 rfl rfl rfl (by decide) rfl rfl ?_
        refine X_goto 29 5 dX7_isCommand_29 (by decide) ?_
        exact ih_5 (q + 1) (by omega) (by omega) (by rw [lt_go (by omega) b_13]; exact hp5_2) _  (by exact (pm_u19 _ _ _ _ _).symm)
      · rw [hr_P hT.2.2.2 (fun x => 97 ≤ x ∧ x ≤ 122) (by decide) (by decide)] at b_13
        have hq : q = lt b p := by rw [← hp5_2, lt_st b_13]
        subst hq
        refine X_if_eq 16 32 dX7_isCommand_16 (by decide) (fun _ => ?_) (fun c_0 => by exact absurd c_0 (by decide))
        refine X_aload_n 32 0 dX7_isCommand_32 rfl rfl ?_
        refine X_aload_n 33 0 dX7_isCommand_33 rfl rfl ?_
        refine X_iload_n 34 1 dX7_isCommand_34 rfl rfl ?_
        refine X_cVI 35 [.int _] (e_X7_wordFrom b L (lt b p) w n p _ hT (by omega) (by omega)) dX7_isCommand_35 lm_RX7_240 1 ⟨wm_X7_wordFrom, by decide +kernel, rfl, rfl⟩ rfl ⟨Nat.le_of_ble_eq_true rfl, Nat.le_of_ble_eq_true rfl⟩ lyM vc7 rfl rfl (Nat.le_of_ble_eq_true rfl) ?_
        rintro _ _ ⟨rfl, rfl⟩
        refine X_putI (f := 20) 38 dX7_isCommand_38 lf_RX7_243 iw7 vc7 (by decide) lyM tyX7_ok nmX7 rfl rfl rfl (by decide) rfl rfl ?_
        rw [pm_u20]
        refine X_aload_n 41 0 dX7_isCommand_41 rfl rfl ?_
        refine X_getI (f := 20) 42 dX7_isCommand_42 lf_RX7_243 iw7 vc7 (by decide) lyM rfl ?_
        rw [pm_20]
        refine X_if_ge 45 55 dX7_isCommand_45 (by decide) (fun c_45 => ?_) (fun c_45 => ?_)
        · have hw0 : ¬ (wdOf b p (lt b p)) = 0 := fun z => absurd c_45 (by rw [z]; decide)
          refine X_iconst 55 (0) dX7_isCommand_55 (by decide) ?_
          refine X_istore_n 56 [(2, .int _), (0, .ref _), (1, .int _)] dX7_isCommand_56 rfl (by decide) rfl ?_
          refine X_sub [1, 2, 0] [(0, .ref _), (1, .int _), (2, .int _)] rfl ?_
          have L_57 : ∀ (kf : Nat) (i : Nat) (q : Nat) (n2 : Nat → Int32), i ≤ nOf (wdOf b p (lt b p)) → nOf (wdOf b p (lt b p)) < i + kf → q ≤ L → rdNs b (nOf (wdOf b p (lt b p)) - i) i q n2 = rdNs b (nOf (wdOf b p (lt b p))) 0 (lt b p) n → ∀ (x57_2 : Int32) (μ57 : Mm), nI i = x57_2 → pmM μ q (nI (wdOf b p (lt b p)) - 1) n2 = μ57 → X false ΛM mX7_isCommand (QN (qI (fun x m => (x = 1 ∧ (rdW b f n0 p (lt b p) (wdOf b p (lt b p))).1 = true ∧ ∃ n2, pmM μ (sk b (rdW b f n0 p (lt b p) (wdOf b p (lt b p))).2.1) (nI (wdOf b p (lt b p)) - 1) n2 = m ∧ ∀ j, j < nOf (wdOf b p (lt b p)) → n2 j = (rdW b f n0 p (lt b p) (wdOf b p (lt b p))).2.2.2.2 j) ∨ (x = 0 ∧ (rdW b f n0 p (lt b p) (wdOf b p (lt b p))).1 = false ∧ ∃ q2 w2 n2, pmM μ q2 w2 n2 = m ∧ nI q2 = (rdW b f n0 p (lt b p) (wdOf b p (lt b p))).2.2.1 ∧ q2 ≤ L)))) 57 [(0, .ref 0), (1, .int (nI p)), (2, .int x57_2)] [] μ57 := by
            intro kf
            induction kf with
            | zero => intro i q n2 hp57_0 hp57_1 hp57_2 hp57_3; exfalso; omega
            | succ kf ih_57 =>
              intro i q n2 hp57_0 hp57_1 hp57_2 hp57_3 x57_2 μ57
              rintro rfl rfl
              refine X_iload_n 57 2 dX7_isCommand_57 rfl rfl ?_
              refine X_aload_n 58 0 dX7_isCommand_58 rfl rfl ?_
              refine X_getI (f := 20) 59 dX7_isCommand_59 lf_RX7_243 iw7 vc7 (by decide) lyM rfl ?_
              rw [pm_20]
              refine X_cSI 62 [.int _] (e_X7_numbersOf (wdOf b p (lt b p)) _ (by omega) hw8) dX7_isCommand_62 lm_RX7_246 1 ⟨wm_X7_numbersOf, by decide +kernel, rfl, rfl⟩ rfl ⟨Nat.le_of_ble_eq_true rfl, Nat.le_of_ble_eq_true rfl⟩ rfl (Nat.le_of_ble_eq_true rfl) ?_
              rintro _ _ ⟨rfl, rfl⟩
              refine X_icmp_ge 65 84 dX7_isCommand_65 (by decide) (fun c_65 => ?_) (fun c_65 => ?_)
              · have hi : nOf (wdOf b p (lt b p)) ≤ i := c_ge rfl (by omega) (by omega) c_65
                have hd : rdNs b (nOf (wdOf b p (lt b p))) 0 (lt b p) n = (true, q, n2) := by rw [← hp57_3, show nOf (wdOf b p (lt b p)) - i = 0 by omega]; rfl
                have hb2 := sk_bd hT.2.2.2 hp57_2
                refine X_aload_n 84 0 dX7_isCommand_84 rfl rfl ?_
                refine X_cVI 85 [] (e_X7_skips b L q _ n2 _ hT hp57_2) dX7_isCommand_85 lm_RX7_236 0 ⟨wm_X7_skips, by decide +kernel, rfl, rfl⟩ rfl ⟨Nat.le_of_ble_eq_true rfl, Nat.le_of_ble_eq_true rfl⟩ lyM vc7 rfl rfl (Nat.le_of_ble_eq_true rfl) ?_
                rintro _ _ (⟨rfl, b_85, rfl⟩ | ⟨rfl, b_85, rfl⟩)
                · refine X_istore_n 88 [(2, .int _), (0, .ref _), (1, .int _)] dX7_isCommand_88 rfl (by decide) rfl ?_
                  refine X_aload_n 89 1 dX7_isCommand_89 rfl rfl ?_
                  refine X_cVI 90 [] (e_X7_here b L (sk b q) _ _ _ hT (by omega)) dX7_isCommand_90 lm_RX7_229 0 ⟨wm_X7_here, by decide +kernel, rfl, rfl⟩ rfl ⟨Nat.le_of_ble_eq_true rfl, Nat.le_of_ble_eq_true rfl⟩ lyM vc7 rfl rfl (Nat.le_of_ble_eq_true rfl) ?_
                  rintro _ _ ⟨rfl, rfl⟩
                  refine X_bipush 93 (59) dX7_isCommand_93 (by decide) ?_
                  refine X_icmp_eq 95 100 dX7_isCommand_95 (by decide) (fun c_95 => ?_) (fun c_95 => ?_)
                  · rw [hr_P hT.2.2.2 (fun x => x = 59) (by decide) (by decide)] at c_95
                    have hl59 := hr_lt hT.2.2.2 (fun x => x = 59) (by decide) c_95
                    refine X_aload_n 100 1 dX7_isCommand_100 rfl rfl ?_
                    refine X_dupr 101 dX7_isCommand_101 ?_
                    refine X_getI (f := 19) 102 dX7_isCommand_102 lf_RX7_226 iw7 vc7 (by decide) lyM rfl ?_
                    rw [pm_19]
                    refine X_iconst 105 (1) dX7_isCommand_105 (by decide) ?_
                    refine X_iadd 106 dX7_isCommand_106 ?_
                    rw [nI_1]
                    refine X_putI (f := 19) 107 dX7_isCommand_107 lf_RX7_226 iw7 vc7 (by decide) lyM tyX7_ok nmX7 rfl rfl rfl (by decide) rfl rfl ?_
                    rw [pm_u19]
                    refine X_aload_n 110 1 dX7_isCommand_110 rfl rfl ?_
                    refine X_cVI 111 [] (e_X7_skips b L (sk b q + 1) _ n2 _ hT (by omega)) dX7_isCommand_111 lm_RX7_236 0 ⟨wm_X7_skips, by decide +kernel, rfl, rfl⟩ rfl ⟨Nat.le_of_ble_eq_true rfl, Nat.le_of_ble_eq_true rfl⟩ lyM vc7 rfl rfl (Nat.le_of_ble_eq_true rfl) ?_
                    rintro _ _ (⟨rfl, b_111, rfl⟩ | ⟨rfl, b_111, rfl⟩)
                    · refine X_istore_n 114 [(2, .int _), (0, .ref _), (1, .int _)] dX7_isCommand_114 rfl (by decide) rfl ?_
                      refine X_iconst 115 (1) dX7_isCommand_115 (by decide) ?_
                      refine X_iret 116 dX7_isCommand_116 rfl rfl ⟨_, rfl, _, rfl, ?_⟩
                      refine Or.inl ⟨rfl, ?_⟩
                      have ht := rdW_t (f := f) (n0 := n0) (s := p) hw0 hd c_95
                      exact ⟨ht.1, n2, by rw [ht.2.1], ht.2.2⟩
                    · refine X_istore_n 114 [(2, .int _), (0, .ref _), (1, .int _)] dX7_isCommand_114 rfl (by decide) rfl ?_
                      refine X_iconst 115 (1) dX7_isCommand_115 (by decide) ?_
                      refine X_iret 116 dX7_isCommand_116 rfl rfl ⟨_, rfl, _, rfl, ?_⟩
                      refine Or.inl ⟨rfl, ?_⟩
                      have ht := rdW_t (f := f) (n0 := n0) (s := p) hw0 hd c_95
                      exact ⟨ht.1, n2, by rw [ht.2.1], ht.2.2⟩
                  · rw [hr_P hT.2.2.2 (fun x => x = 59) (by decide) (by decide)] at c_95
                    refine X_iconst 98 (0) dX7_isCommand_98 (by decide) ?_
                    refine X_iret 99 dX7_isCommand_99 rfl rfl ⟨_, rfl, _, rfl, ?_⟩
                    refine Or.inr ⟨rfl, ?_⟩
                    exact ⟨(rdW_f2 hw0 hd c_95).1, _, _, _, rfl, (rdW_f2 hw0 hd c_95).2, hb2.2⟩
                · refine X_istore_n 88 [(2, .int _), (0, .ref _), (1, .int _)] dX7_isCommand_88 rfl (by decide) rfl ?_
                  refine X_aload_n 89 1 dX7_isCommand_89 rfl rfl ?_
                  refine X_cVI 90 [] (e_X7_here b L (sk b q) _ _ _ hT (by omega)) dX7_isCommand_90 lm_RX7_229 0 ⟨wm_X7_here, by decide +kernel, rfl, rfl⟩ rfl ⟨Nat.le_of_ble_eq_true rfl, Nat.le_of_ble_eq_true rfl⟩ lyM vc7 rfl rfl (Nat.le_of_ble_eq_true rfl) ?_
                  rintro _ _ ⟨rfl, rfl⟩
                  refine X_bipush 93 (59) dX7_isCommand_93 (by decide) ?_
                  refine X_icmp_eq 95 100 dX7_isCommand_95 (by decide) (fun c_95 => ?_) (fun c_95 => ?_)
                  · rw [hr_P hT.2.2.2 (fun x => x = 59) (by decide) (by decide)] at c_95
                    have hl59 := hr_lt hT.2.2.2 (fun x => x = 59) (by decide) c_95
                    refine X_aload_n 100 1 dX7_isCommand_100 rfl rfl ?_
                    refine X_dupr 101 dX7_isCommand_101 ?_
                    refine X_getI (f := 19) 102 dX7_isCommand_102 lf_RX7_226 iw7 vc7 (by decide) lyM rfl ?_
                    rw [pm_19]
                    refine X_iconst 105 (1) dX7_isCommand_105 (by decide) ?_
                    refine X_iadd 106 dX7_isCommand_106 ?_
                    rw [nI_1]
                    refine X_putI (f := 19) 107 dX7_isCommand_107 lf_RX7_226 iw7 vc7 (by decide) lyM tyX7_ok nmX7 rfl rfl rfl (by decide) rfl rfl ?_
                    rw [pm_u19]
                    refine X_aload_n 110 1 dX7_isCommand_110 rfl rfl ?_
                    refine X_cVI 111 [] (e_X7_skips b L (sk b q + 1) _ n2 _ hT (by omega)) dX7_isCommand_111 lm_RX7_236 0 ⟨wm_X7_skips, by decide +kernel, rfl, rfl⟩ rfl ⟨Nat.le_of_ble_eq_true rfl, Nat.le_of_ble_eq_true rfl⟩ lyM vc7 rfl rfl (Nat.le_of_ble_eq_true rfl) ?_
                    rintro _ _ (⟨rfl, b_111, rfl⟩ | ⟨rfl, b_111, rfl⟩)
                    · refine X_istore_n 114 [(2, .int _), (0, .ref _), (1, .int _)] dX7_isCommand_114 rfl (by decide) rfl ?_
                      refine X_iconst 115 (1) dX7_isCommand_115 (by decide) ?_
                      refine X_iret 116 dX7_isCommand_116 rfl rfl ⟨_, rfl, _, rfl, ?_⟩
                      refine Or.inl ⟨rfl, ?_⟩
                      have ht := rdW_t (f := f) (n0 := n0) (s := p) hw0 hd c_95
                      exact ⟨ht.1, n2, by rw [ht.2.1], ht.2.2⟩
                    · refine X_istore_n 114 [(2, .int _), (0, .ref _), (1, .int _)] dX7_isCommand_114 rfl (by decide) rfl ?_
                      refine X_iconst 115 (1) dX7_isCommand_115 (by decide) ?_
                      refine X_iret 116 dX7_isCommand_116 rfl rfl ⟨_, rfl, _, rfl, ?_⟩
                      refine Or.inl ⟨rfl, ?_⟩
                      have ht := rdW_t (f := f) (n0 := n0) (s := p) hw0 hd c_95
                      exact ⟨ht.1, n2, by rw [ht.2.1], ht.2.2⟩
                  · rw [hr_P hT.2.2.2 (fun x => x = 59) (by decide) (by decide)] at c_95
                    refine X_iconst 98 (0) dX7_isCommand_98 (by decide) ?_
                    refine X_iret 99 dX7_isCommand_99 rfl rfl ⟨_, rfl, _, rfl, ?_⟩
                    refine Or.inr ⟨rfl, ?_⟩
                    exact ⟨(rdW_f2 hw0 hd c_95).1, _, _, _, rfl, (rdW_f2 hw0 hd c_95).2, hb2.2⟩
              · have hi : i < nOf (wdOf b p (lt b p)) := c_lt rfl (by omega) (by omega) c_65
                have hs := congrArg (fun m => rdNs b m i q n2) (show nOf (wdOf b p (lt b p)) - i = (nOf (wdOf b p (lt b p)) - (i + 1)) + 1 by omega)
                simp only [rdNs] at hs
                refine X_aload_n 68 0 dX7_isCommand_68 rfl rfl ?_
                refine X_iload_n 69 2 dX7_isCommand_69 rfl rfl ?_
                refine X_cVI 70 [.int _] (e_X7_isNumber b L q _ n2 i _ hT hp57_2 (by omega)) dX7_isCommand_70 lm_RX7_249 1 ⟨wm_X7_isNumber, by decide +kernel, rfl, rfl⟩ rfl ⟨Nat.le_of_ble_eq_true rfl, Nat.le_of_ble_eq_true rfl⟩ lyM vc7 rfl rfl (Nat.le_of_ble_eq_true rfl) ?_
                rintro _ _ (⟨rfl, b_70, rfl⟩ | ⟨rfl, b_70, n9, rfl⟩)
                · rw [if_pos b_70] at hs
                  refine X_if_ne 73 78 dX7_isCommand_73 (by decide) (fun _ => ?_) (fun c_0 => by exact absurd c_0 (by decide))
                  refine X_iinc 78 2 (_ + 1) [(2, .int _), (0, .ref _), (1, .int _)] dX7_isCommand_78 rfl rfl (by decide) rfl ?_
                  refine X_goto 81 57 dX7_isCommand_81 (by decide) ?_
                  refine X_sub [1, 2, 0] [(0, .ref _), (1, .int _), (2, .int _)] rfl ?_
                  exact ih_57 (i + 1) (rdN b q).2.1 (upN n2 i (rdN b q).2.2) (by omega) (by omega) (rdN_bd hT.2.2.2 hp57_2).2 (by rw [← hs]; exact hp57_3) _ _  (by exact (nI_1 i).symm) (by rfl)
                · have hd : rdNs b (nOf (wdOf b p (lt b p))) 0 (lt b p) n = (false, (rdN b q).2.1, n2) := by rw [← hp57_3, hs, if_neg (by rw [b_70]; decide)]
                  refine X_if_ne 73 78 dX7_isCommand_73 (by decide) (fun c_0 => by exact absurd c_0 (by decide)) (fun _ => ?_)
                  refine X_iconst 76 (0) dX7_isCommand_76 (by decide) ?_
                  refine X_iret 77 dX7_isCommand_77 rfl rfl ⟨_, rfl, _, rfl, ?_⟩
                  refine Or.inr ⟨rfl, ?_⟩
                  exact ⟨(rdW_f1 hw0 hd).1, _, _, _, rfl, (rdW_f1 hw0 hd).2, (rdN_bd hT.2.2.2 hp57_2).2⟩
          exact L_57 6 0 (lt b p) n (by omega) (by omega) hb1.2 rfl _ _  (by rfl) (by rfl)
        · have hw0 : (wdOf b p (lt b p)) = 0 := by
            rcases Nat.eq_zero_or_pos (wdOf b p (lt b p)) with z | z
            · exact z
            · exact absurd (show (0 : Int32) ≤ nI (wdOf b p (lt b p)) - 1 by rw [show nI (wdOf b p (lt b p)) - 1 = nI ((wdOf b p (lt b p)) - 1) from nI_sub (b := 1) z (by omega)]; exact nI_pos' (by omega)) c_45
          refine X_aload_n 48 0 dX7_isCommand_48 rfl rfl ?_
          refine X_iload_n 49 1 dX7_isCommand_49 rfl rfl ?_
          refine X_putI (f := 19) 50 dX7_isCommand_50 lf_RX7_226 iw7 vc7 (by decide) lyM tyX7_ok nmX7 rfl rfl rfl (by decide) rfl rfl ?_
          rw [pm_u19]
          refine X_iconst 53 (0) dX7_isCommand_53 (by decide) ?_
          refine X_iret 54 dX7_isCommand_54 rfl rfl ⟨_, rfl, _, rfl, ?_⟩
          refine Or.inr ⟨rfl, ?_⟩
          rw [hw0]; exact ⟨rdW_0.1, p, _, n, rfl, rdW_0.2, hp⟩
  exact L_5 (L + 1) p (by omega) (by omega) rfl _  (by rfl)
set_option maxHeartbeats 4000000 in
set_option maxRecDepth 100000 in
theorem e_X7_faultOfText (b : Nat → Int32) (L : Nat) (w0 : Int32) (n0 : Nat → Int32) (μ : Mm) (hT : TM b L μ) : EvN ΛM mX7_faultOfText [.ref 0] μ (qI (fun x m => (rdA b L 150 (true, 0, -1000, w0, n0)).2.2.1 = x ∧ (x = -1000 ∨ ¬ x < 0) ∧ ∃ p w n, pmM μ p w n = m)) := by
  refine EvN_ofQ (by decide +kernel) rfl (fun _ => rfl) (fun _ => Nat.le_of_ble_eq_true rfl) (ls := [(0, .ref 0)]) ?_
  have hL := hT.2.1
  refine X_aload_n 0 0 dX7_faultOfText_0 rfl rfl ?_
  refine X_iconst 1 (0) dX7_faultOfText_1 (by decide) ?_
  refine X_putI (f := 19) 2 dX7_faultOfText_2 lf_RX7_226 iw7 vc7 (by decide) lyM tyX7_ok nmX7 rfl rfl rfl (by decide) rfl rfl ?_
  refine X_muE (μ2 := pmM μ 0 (μ 0 20) (μ 8)) (pm_0 μ 0).symm ?_
  refine X_aload_n 5 0 dX7_faultOfText_5 rfl rfl ?_
  refine X_cVI 6 [] (e_X7_skips b L 0 _ _ _ hT (by omega)) dX7_faultOfText_6 lm_RX7_236 0 ⟨wm_X7_skips, by decide +kernel, rfl, rfl⟩ rfl ⟨Nat.le_of_ble_eq_true rfl, Nat.le_of_ble_eq_true rfl⟩ lyM vc7 rfl rfl (Nat.le_of_ble_eq_true rfl) ?_
  rintro _ _ (⟨rfl, b_6, rfl⟩ | ⟨rfl, b_6, rfl⟩)
  · refine X_istore_n 9 [(1, .int _), (0, .ref _)] dX7_faultOfText_9 rfl (by decide) rfl ?_
    refine X_sub [1] [(0, .ref _)] rfl ?_
    have L_10 : ∀ (kf : Nat) (i : Nat) (r : CR) (w : Int32) (n : Nat → Int32), i ≤ r.2.1 → r.2.1 ≤ L → L < i + kf → rdA b L (150 - i) r = (rdA b L 150 (true, 0, -1000, w0, n0)) → r.2.2.1 = -1000 → ∀  (μ10 : Mm), pmM μ (sk b r.2.1) w n = μ10 → X false ΛM mX7_faultOfText (QN (qI (fun x m => (rdA b L 150 (true, 0, -1000, w0, n0)).2.2.1 = x ∧ (x = -1000 ∨ ¬ x < 0) ∧ ∃ p w n, pmM μ p w n = m))) 10 [(0, .ref 0)] [] μ10 := by
      intro kf
      induction kf with
      | zero => intro i r w n hp10_0 hp10_1 hp10_2 hp10_3 hp10_4; exfalso; omega
      | succ kf ih_10 =>
        intro i r w n hp10_0 hp10_1 hp10_2 hp10_3 hp10_4  μ10
        rintro rfl
        refine X_aload_n 10 0 dX7_faultOfText_10 rfl rfl ?_
        refine X_getI (f := 19) 11 dX7_faultOfText_11 lf_RX7_226 iw7 vc7 (by decide) lyM rfl ?_
        refine X_aload_n 14 0 dX7_faultOfText_14 rfl rfl ?_
        refine X_getI (f := 5) 15 dX7_faultOfText_15 lf_RX7_208 iw7 vc7 (by decide) lyM rfl ?_
        rw [pm_19, hT.len]
        refine X_icmp_ge 18 33 dX7_faultOfText_18 (by decide) (fun c_18 => ?_) (fun c_18 => ?_)
        · have hge : L ≤ sk b r.2.1 := c_ge rfl (by omega) (by have := (sk_bd hT.2.2.2 hp10_1).2; omega) c_18
          refine X_sipush 33 (-1000) dX7_faultOfText_33 (by decide) ?_
          refine X_iret 36 dX7_faultOfText_36 rfl rfl ⟨_, rfl, _, rfl, ?_⟩
          exact ⟨by rw [← hp10_3, rdA_end hge]; exact hp10_4, Or.inl rfl, _, _, _, rfl⟩
        · have hnl : ¬ L ≤ sk b r.2.1 := fun z => c_18 (nI_le z (by have := (sk_bd hT.2.2.2 hp10_1).2; omega))
          have hC := rdC_W (f := r.2.2.1) (w := r.2.2.2.1) (n := r.2.2.2.2) hnl
          have hbd := rdC_bd hT.2.2.2 hp10_1 r.2.2.1 r.2.2.2.1 r.2.2.2.2
          have hsk := sk_bd hT.2.2.2 hp10_1
          have hs := congrArg (fun m => rdA b L m r) (show 150 - i = (150 - (i + 1)) + 1 by omega)
          simp only [rdA] at hs
          refine X_aload_n 21 0 dX7_faultOfText_21 rfl rfl ?_
          refine X_cVI 22 [] (e_X7_isCommand b L (sk b r.2.1) w n r.2.2.1 r.2.2.2.2 _ hT (by omega)) dX7_faultOfText_22 lm_RX7_252 0 ⟨wm_X7_isCommand, by decide +kernel, rfl, rfl⟩ rfl ⟨Nat.le_of_ble_eq_true rfl, Nat.le_of_ble_eq_true rfl⟩ lyM vc7 rfl rfl (Nat.le_of_ble_eq_true rfl) ?_
          rintro _ _ (⟨rfl, b_22, n9, rfl, hn9⟩ | ⟨rfl, b_22, q9, w9, n9, rfl, hq9⟩)
          · rw [← hC] at b_22
            rw [if_pos b_22] at hs
            refine X_if_ne 25 10 dX7_faultOfText_25 (by decide) (fun _ => ?_) (fun c_0 => by exact absurd c_0 (by decide))
            exact ih_10 (i + 1) (rdC b L r.2.1 r.2.2.1 r.2.2.2.1 r.2.2.2.2) _ _ (by have := hbd.2 b_22; omega) hbd.1 (by omega) (by rw [← hs]; exact hp10_3) (by obtain ⟨_, _, _, _, e⟩ := rdC_wd b_22; rw [e]; exact hp10_4) _  (by rw [hC])
          · rw [← hC] at b_22 hq9
            rw [if_neg (by rw [b_22]; decide)] at hs
            refine X_if_ne 25 10 dX7_faultOfText_25 (by decide) (fun c_0 => by exact absurd c_0 (by decide)) (fun _ => ?_)
            refine X_aload_n 28 0 dX7_faultOfText_28 rfl rfl ?_
            refine X_getI (f := 19) 29 dX7_faultOfText_29 lf_RX7_226 iw7 vc7 (by decide) lyM rfl ?_
            rw [pm_19]
            refine X_iret 32 dX7_faultOfText_32 rfl rfl ⟨_, rfl, _, rfl, ?_⟩
            exact ⟨by rw [← hp10_3, hs]; exact hq9.1.symm, Or.inr (Int32.not_lt.mpr (nI_pos' (by omega))), _, _, _, rfl⟩
    exact L_10 (L + 1) 0 (true, 0, -1000, w0, n0) _ _ (Nat.zero_le _) (Nat.zero_le _) (by omega) rfl rfl _  (by rfl)
  · refine X_istore_n 9 [(1, .int _), (0, .ref _)] dX7_faultOfText_9 rfl (by decide) rfl ?_
    refine X_sub [1] [(0, .ref _)] rfl ?_
    have L_10 : ∀ (kf : Nat) (i : Nat) (r : CR) (w : Int32) (n : Nat → Int32), i ≤ r.2.1 → r.2.1 ≤ L → L < i + kf → rdA b L (150 - i) r = (rdA b L 150 (true, 0, -1000, w0, n0)) → r.2.2.1 = -1000 → ∀  (μ10 : Mm), pmM μ (sk b r.2.1) w n = μ10 → X false ΛM mX7_faultOfText (QN (qI (fun x m => (rdA b L 150 (true, 0, -1000, w0, n0)).2.2.1 = x ∧ (x = -1000 ∨ ¬ x < 0) ∧ ∃ p w n, pmM μ p w n = m))) 10 [(0, .ref 0)] [] μ10 := by
      intro kf
      induction kf with
      | zero => intro i r w n hp10_0 hp10_1 hp10_2 hp10_3 hp10_4; exfalso; omega
      | succ kf ih_10 =>
        intro i r w n hp10_0 hp10_1 hp10_2 hp10_3 hp10_4  μ10
        rintro rfl
        refine X_aload_n 10 0 dX7_faultOfText_10 rfl rfl ?_
        refine X_getI (f := 19) 11 dX7_faultOfText_11 lf_RX7_226 iw7 vc7 (by decide) lyM rfl ?_
        refine X_aload_n 14 0 dX7_faultOfText_14 rfl rfl ?_
        refine X_getI (f := 5) 15 dX7_faultOfText_15 lf_RX7_208 iw7 vc7 (by decide) lyM rfl ?_
        rw [pm_19, hT.len]
        refine X_icmp_ge 18 33 dX7_faultOfText_18 (by decide) (fun c_18 => ?_) (fun c_18 => ?_)
        · have hge : L ≤ sk b r.2.1 := c_ge rfl (by omega) (by have := (sk_bd hT.2.2.2 hp10_1).2; omega) c_18
          refine X_sipush 33 (-1000) dX7_faultOfText_33 (by decide) ?_
          refine X_iret 36 dX7_faultOfText_36 rfl rfl ⟨_, rfl, _, rfl, ?_⟩
          exact ⟨by rw [← hp10_3, rdA_end hge]; exact hp10_4, Or.inl rfl, _, _, _, rfl⟩
        · have hnl : ¬ L ≤ sk b r.2.1 := fun z => c_18 (nI_le z (by have := (sk_bd hT.2.2.2 hp10_1).2; omega))
          have hC := rdC_W (f := r.2.2.1) (w := r.2.2.2.1) (n := r.2.2.2.2) hnl
          have hbd := rdC_bd hT.2.2.2 hp10_1 r.2.2.1 r.2.2.2.1 r.2.2.2.2
          have hsk := sk_bd hT.2.2.2 hp10_1
          have hs := congrArg (fun m => rdA b L m r) (show 150 - i = (150 - (i + 1)) + 1 by omega)
          simp only [rdA] at hs
          refine X_aload_n 21 0 dX7_faultOfText_21 rfl rfl ?_
          refine X_cVI 22 [] (e_X7_isCommand b L (sk b r.2.1) w n r.2.2.1 r.2.2.2.2 _ hT (by omega)) dX7_faultOfText_22 lm_RX7_252 0 ⟨wm_X7_isCommand, by decide +kernel, rfl, rfl⟩ rfl ⟨Nat.le_of_ble_eq_true rfl, Nat.le_of_ble_eq_true rfl⟩ lyM vc7 rfl rfl (Nat.le_of_ble_eq_true rfl) ?_
          rintro _ _ (⟨rfl, b_22, n9, rfl, hn9⟩ | ⟨rfl, b_22, q9, w9, n9, rfl, hq9⟩)
          · rw [← hC] at b_22
            rw [if_pos b_22] at hs
            refine X_if_ne 25 10 dX7_faultOfText_25 (by decide) (fun _ => ?_) (fun c_0 => by exact absurd c_0 (by decide))
            exact ih_10 (i + 1) (rdC b L r.2.1 r.2.2.1 r.2.2.2.1 r.2.2.2.2) _ _ (by have := hbd.2 b_22; omega) hbd.1 (by omega) (by rw [← hs]; exact hp10_3) (by obtain ⟨_, _, _, _, e⟩ := rdC_wd b_22; rw [e]; exact hp10_4) _  (by rw [hC])
          · rw [← hC] at b_22 hq9
            rw [if_neg (by rw [b_22]; decide)] at hs
            refine X_if_ne 25 10 dX7_faultOfText_25 (by decide) (fun c_0 => by exact absurd c_0 (by decide)) (fun _ => ?_)
            refine X_aload_n 28 0 dX7_faultOfText_28 rfl rfl ?_
            refine X_getI (f := 19) 29 dX7_faultOfText_29 lf_RX7_226 iw7 vc7 (by decide) lyM rfl ?_
            rw [pm_19]
            refine X_iret 32 dX7_faultOfText_32 rfl rfl ⟨_, rfl, _, rfl, ?_⟩
            exact ⟨by rw [← hp10_3, hs]; exact hq9.1.symm, Or.inr (Int32.not_lt.mpr (nI_pos' (by omega))), _, _, _, rfl⟩
    exact L_10 (L + 1) 0 (true, 0, -1000, w0, n0) _ _ (Nat.zero_le _) (Nat.zero_le _) (by omega) rfl rfl _  (by rfl)
