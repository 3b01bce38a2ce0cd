set_option maxHeartbeats 4000000 in
set_option maxRecDepth 100000 in
theorem e_X7_shares (lc : Nat) (t : Int32) (μ : Mm) (h4 : μ 1 4 = nI lc) (h8 : lc ≤ 8) (hcv : ∀ n, n < lc → (bitB (μ 0 11) n = true ↔ 0 < μ 5 n)) (hall : ∀ n, n < lc → 0 < μ 5 n → ¬ sumN lc (μ 5) = 0) : EvN ΛM mX7_shares [.ref 0, .int t] μ (qV (fun μ' => shrM μ lc t = μ')) := by
  refine EvN_ofQ (by decide +kernel) rfl (fun _ => rfl) (fun _ => Nat.le_of_ble_eq_true rfl) (ls := [(0, .ref 0), (1, .int t)]) ?_
  refine X_iconst 0 (0) dX7_shares_0 (by decide) ?_
  refine X_istore_n 1 [(2, .int _), (0, .ref _), (1, .int _)] dX7_shares_1 rfl (by decide) rfl ?_
  refine X_iconst 2 (-1) dX7_shares_2 (by decide) ?_
  refine X_istore_n 3 [(3, .int _), (2, .int _), (0, .ref _), (1, .int _)] dX7_shares_3 rfl (by decide) rfl ?_
  refine X_iconst 4 (0) dX7_shares_4 (by decide) ?_
  refine X_istore 5 [(4, .int _), (3, .int _), (2, .int _), (0, .ref _), (1, .int _)] dX7_shares_5 (by decide) rfl ?_
  refine X_sub [3, 4, 2, 1, 0] [(0, .ref _), (1, .int _), (2, .int _), (3, .int _), (4, .int _)] rfl ?_
  have L_7 : ∀ (kf : Nat) (n : Nat), n ≤ lc → lc < n + kf → ∀ (x7_2 : Int32) (x7_3 : Int32) (x7_4 : Int32), sumN n (μ 5) = x7_2 → moN (μ 5) n = x7_3 → nI n = x7_4 → X false ΛM mX7_shares (QN (qV (fun μ' => shrM μ lc t = μ'))) 7 [(0, .ref 0), (1, .int t), (2, .int x7_2), (3, .int x7_3), (4, .int x7_4)] [] μ := by
    intro kf
    induction kf with
    | zero => intro n hp7_0 hp7_1; exfalso; omega
    | succ kf ih_7 =>
      intro n hp7_0 hp7_1 x7_2 x7_3 x7_4
      rintro rfl rfl rfl
      refine X_iload 7 4 dX7_shares_7 rfl ?_
      refine X_aload_n 9 0 dX7_shares_9 rfl rfl ?_
      refine X_getR (f := 0) 10 dX7_shares_10 lf_RX7_7 iw7 vc7 (by decide) lyM rfl ?_
      refine X_iconst 13 (4) dX7_shares_13 (by decide) ?_
      refine X_iald 14 dX7_shares_14 lyM1 (vp_in_nI (n := 4) (by decide) (by decide)) ?_
      rw [cl4]
      rw [h4]
      refine X_icmp_ge 15 70 dX7_shares_15 (by decide) (fun c_15 => ?_) (fun c_15 => ?_)
      · have hge : lc ≤ n := c_ge rfl (by omega) (by omega) c_15
        have hie : lc = n := by omega
        subst hie
        refine X_iload_n 70 1 dX7_shares_70 rfl rfl ?_
        refine X_istore 71 [(4, .int _), (0, .ref _), (1, .int _), (2, .int _), (3, .int _)] dX7_shares_71 (by decide) rfl ?_
        refine X_iconst 73 (0) dX7_shares_73 (by decide) ?_
        refine X_istore 74 [(5, .int _), (4, .int _), (0, .ref _), (1, .int _), (2, .int _), (3, .int _)] dX7_shares_74 (by decide) rfl ?_
        refine X_sub [2, 3, 4, 5, 1, 0] [(0, .ref _), (1, .int _), (2, .int _), (3, .int _), (4, .int _), (5, .int _)] rfl ?_
        have L_76 : ∀ (kf : Nat) (n : Nat), n ≤ lc → lc < n + kf → ∀ (x76_4 : Int32) (x76_5 : Int32) (μ76 : Mm), misN t (shL (μ 5) lc t) n = x76_4 → nI n = x76_5 → setRow μ 6 n (shL (μ 5) lc t) = μ76 → X false ΛM mX7_shares (QN (qV (fun μ' => shrM μ lc t = μ'))) 76 [(0, .ref 0), (1, .int t), (2, .int (sumN lc (μ 5))), (3, .int (moN (μ 5) lc)), (4, .int x76_4), (5, .int x76_5)] [] μ76 := by
          intro kf
          induction kf with
          | zero => intro n hp76_0 hp76_1; exfalso; omega
          | succ kf ih_76 =>
            intro n hp76_0 hp76_1 x76_4 x76_5 μ76
            rintro rfl rfl rfl
            refine X_iload 76 5 dX7_shares_76 rfl ?_
            refine X_aload_n 78 0 dX7_shares_78 rfl rfl ?_
            refine X_getR (f := 0) 79 dX7_shares_79 lf_RX7_7 iw7 vc7 (by decide) lyM rfl ?_
            refine X_iconst 82 (4) dX7_shares_82 (by decide) ?_
            refine X_iald 83 dX7_shares_83 lyM1 (vp_in_nI (n := 4) (by decide) (by decide)) ?_
            rw [cl4]
            rw [setRow_out (by omega), h4]
            refine X_icmp_ge 84 136 dX7_shares_84 (by decide) (fun c_84 => ?_) (fun c_84 => ?_)
            · have hge : lc ≤ n := c_ge rfl (by omega) (by omega) c_84
              have hie : lc = n := by omega
              subst hie
              refine X_iload_n 136 3 dX7_shares_136 rfl rfl ?_
              refine X_if_lt 137 151 dX7_shares_137 (by decide) (fun c_137 => ?_) (fun c_137 => ?_)
              · refine X_vret 151 dX7_shares_151 rfl ⟨_, rfl, rfl, ?_⟩
                first | exact if_pos c_137 | exact if_neg c_137
              · obtain ⟨k, hk, ek, -⟩ := mo_nat c_137
                refine X_aload_n 140 0 dX7_shares_140 rfl rfl ?_
                refine X_getR (f := 10) 141 dX7_shares_141 lf_RX7_29 iw7 vc7 (by decide) lyM rfl ?_
                refine X_iload_n 144 3 dX7_shares_144 rfl rfl ?_
                refine X_dup2 145 dX7_shares_145 ?_
                refine X_iald 146 dX7_shares_146 lyM6 (by rw [ek]; exact vp_in_nI (N := 8) (by omega) (by decide)) ?_
                rw [show setRow μ 6 lc (shL (μ 5) lc t) 6 (moN (μ 5) lc).toNatClampNeg = (shL (μ 5) lc t) (tn (moN (μ 5) lc)) from if_pos ⟨rfl, by rw [ek, nI_clamp (by omega)]; exact hk⟩]
                refine X_iload 147 4 dX7_shares_147 rfl ?_
                refine X_iadd 149 dX7_shares_149 ?_
                refine X_iast 150 dX7_shares_150 lyM6 (by rw [ek]; exact vp_in_nI (N := 8) (by omega) (by decide)) ?_
                refine X_vret 151 dX7_shares_151 rfl ⟨_, rfl, rfl, ?_⟩
                first | exact if_pos c_137 | exact if_neg c_137
            · have hlt : n < lc := c_lt rfl (by omega) (by omega) c_84
              have hn8 : n < 8 := by omega
              refine X_aload_n 87 0 dX7_shares_87 rfl rfl ?_
              refine X_getR (f := 10) 88 dX7_shares_88 lf_RX7_29 iw7 vc7 (by decide) lyM rfl ?_
              refine X_iload 91 5 dX7_shares_91 rfl ?_
              refine X_aload_n 93 0 dX7_shares_93 rfl rfl ?_
              refine X_iload 94 5 dX7_shares_94 rfl ?_
              refine X_cVI 96 [.int _] (e_X7_isOn _ _) dX7_shares_96 lm_RX7_91 1 ⟨wm_X7_isOn, by decide +kernel, rfl, rfl⟩ rfl ⟨Nat.le_of_ble_eq_true rfl, Nat.le_of_ble_eq_true rfl⟩ lyM vc7 rfl rfl (Nat.le_of_ble_eq_true rfl) ?_
              rintro _ _ ⟨rfl, ⟨rfl, b_96⟩ | ⟨rfl, b_96⟩⟩
              · rw [setRow_out (by omega)] at b_96
                have hw0 : 0 < μ 5 n := (hcv n hlt).mp b_96
                have hv : (shL (μ 5) lc t) n = t * μ 5 n / sumN lc (μ 5) := if_pos hw0
                refine X_if_eq 99 116 dX7_shares_99 (by decide) (fun c_0 => by exact absurd c_0 (by decide)) (fun _ => ?_)
                refine X_iload_n 102 1 dX7_shares_102 rfl rfl ?_
                refine X_aload_n 103 0 dX7_shares_103 rfl rfl ?_
                refine X_getR (f := 9) 104 dX7_shares_104 lf_RX7_26 iw7 vc7 (by decide) lyM rfl ?_
                refine X_iload 107 5 dX7_shares_107 rfl ?_
                refine X_iald 109 dX7_shares_109 lyM5 (vp_in_nI hn8 (by decide)) ?_
                rw [nI_clamp (by omega), setRow_out (by omega)]
                refine X_imul 110 dX7_shares_110 ?_
                refine X_iload_n 111 2 dX7_shares_111 rfl rfl ?_
                refine X_idiv 112 dX7_shares_112 (hall n hlt hw0) ?_
                refine X_goto 113 117 dX7_shares_113 (by decide) ?_
                refine X_iast 117 dX7_shares_117 lyM6 (vp_in_nI hn8 (by decide)) ?_
                rw [nI_clamp (by omega)]
                refine X_muE (μ2 := setRow μ 6 (n + 1) (shL (μ 5) lc t)) (by rw [← setRow_succ, hv]) ?_
                refine X_iload 118 4 dX7_shares_118 rfl ?_
                refine X_aload_n 120 0 dX7_shares_120 rfl rfl ?_
                refine X_getR (f := 10) 121 dX7_shares_121 lf_RX7_29 iw7 vc7 (by decide) lyM rfl ?_
                refine X_iload 124 5 dX7_shares_124 rfl ?_
                refine X_iald 126 dX7_shares_126 lyM6 (vp_in_nI hn8 (by decide)) ?_
                rw [nI_clamp (by omega), show setRow μ 6 (n + 1) (shL (μ 5) lc t) 6 n = (shL (μ 5) lc t) n from if_pos ⟨rfl, Nat.lt_succ_self n⟩]
                refine X_isub 127 dX7_shares_127 ?_
                refine X_istore 128 [(4, .int _), (0, .ref _), (1, .int _), (2, .int _), (3, .int _), (5, .int _)] dX7_shares_128 (by decide) rfl ?_
                refine X_iinc 130 5 (_ + 1) [(5, .int _), (4, .int _), (0, .ref _), (1, .int _), (2, .int _), (3, .int _)] dX7_shares_130 rfl rfl (by decide) rfl ?_
                refine X_goto 133 76 dX7_shares_133 (by decide) ?_
                refine X_sub [2, 3, 4, 5, 1, 0] [(0, .ref _), (1, .int _), (2, .int _), (3, .int _), (4, .int _), (5, .int _)] rfl ?_
                exact ih_76 (n + 1) (by omega) (by omega) _ _ _  (by rfl) (by exact (nI_1 n).symm) (by rfl)
              · rw [setRow_out (by omega)] at b_96
                have hw0 : ¬ 0 < μ 5 n := fun z => b_96 ((hcv n hlt).mpr z)
                have hv : (shL (μ 5) lc t) n = 0 := if_neg hw0
                refine X_if_eq 99 116 dX7_shares_99 (by decide) (fun _ => ?_) (fun c_0 => by exact absurd c_0 (by decide))
                refine X_iconst 116 (0) dX7_shares_116 (by decide) ?_
                refine X_iast 117 dX7_shares_117 lyM6 (vp_in_nI hn8 (by decide)) ?_
                rw [nI_clamp (by omega)]
                refine X_muE (μ2 := setRow μ 6 (n + 1) (shL (μ 5) lc t)) (by rw [← setRow_succ, hv]) ?_
                refine X_iload 118 4 dX7_shares_118 rfl ?_
                refine X_aload_n 120 0 dX7_shares_120 rfl rfl ?_
                refine X_getR (f := 10) 121 dX7_shares_121 lf_RX7_29 iw7 vc7 (by decide) lyM rfl ?_
                refine X_iload 124 5 dX7_shares_124 rfl ?_
                refine X_iald 126 dX7_shares_126 lyM6 (vp_in_nI hn8 (by decide)) ?_
                rw [nI_clamp (by omega), show setRow μ 6 (n + 1) (shL (μ 5) lc t) 6 n = (shL (μ 5) lc t) n from if_pos ⟨rfl, Nat.lt_succ_self n⟩]
                refine X_isub 127 dX7_shares_127 ?_
                refine X_istore 128 [(4, .int _), (0, .ref _), (1, .int _), (2, .int _), (3, .int _), (5, .int _)] dX7_shares_128 (by decide) rfl ?_
                refine X_iinc 130 5 (_ + 1) [(5, .int _), (4, .int _), (0, .ref _), (1, .int _), (2, .int _), (3, .int _)] dX7_shares_130 rfl rfl (by decide) rfl ?_
                refine X_goto 133 76 dX7_shares_133 (by decide) ?_
                refine X_sub [2, 3, 4, 5, 1, 0] [(0, .ref _), (1, .int _), (2, .int _), (3, .int _), (4, .int _), (5, .int _)] rfl ?_
                exact ih_76 (n + 1) (by omega) (by omega) _ _ _  (by rfl) (by exact (nI_1 n).symm) (by rfl)
        exact L_76 (lc + 1) 0 (by omega) (by omega) _ _ _  (by rfl) (by exact nI_0) (by exact setRow_0 _ _ _)
      · have hlt : n < lc := c_lt rfl (by omega) (by omega) c_15
        have hn8 : n < 8 := by omega
        refine X_iload_n 18 2 dX7_shares_18 rfl rfl ?_
        refine X_aload_n 19 0 dX7_shares_19 rfl rfl ?_
        refine X_getR (f := 9) 20 dX7_shares_20 lf_RX7_26 iw7 vc7 (by decide) lyM rfl ?_
        refine X_iload 23 4 dX7_shares_23 rfl ?_
        refine X_iald 25 dX7_shares_25 lyM5 (vp_in_nI hn8 (by decide)) ?_
        rw [nI_clamp (by omega)]
        refine X_iadd 26 dX7_shares_26 ?_
        refine X_istore_n 27 [(2, .int _), (0, .ref _), (1, .int _), (3, .int _), (4, .int _)] dX7_shares_27 rfl (by decide) rfl ?_
        refine X_aload_n 28 1 dX7_shares_28 rfl rfl ?_
        refine X_iload 29 4 dX7_shares_29 rfl ?_
        refine X_cVI 31 [.int _] (e_X7_isOn _ _) dX7_shares_31 lm_RX7_91 1 ⟨wm_X7_isOn, by decide +kernel, rfl, rfl⟩ rfl ⟨Nat.le_of_ble_eq_true rfl, Nat.le_of_ble_eq_true rfl⟩ lyM vc7 rfl rfl (Nat.le_of_ble_eq_true rfl) ?_
        rintro _ _ ⟨rfl, ⟨rfl, b_31⟩ | ⟨rfl, b_31⟩⟩
        · have hw0 : 0 < μ 5 n := (hcv n hlt).mp b_31
          refine X_if_eq 34 62 dX7_shares_34 (by decide) (fun c_0 => by exact absurd c_0 (by decide)) (fun _ => ?_)
          refine X_iload_n 37 3 dX7_shares_37 rfl rfl ?_
          refine X_if_lt 38 57 dX7_shares_38 (by decide) (fun c_38 => ?_) (fun c_38 => ?_)
          · have hp : (0 < μ 5 n ∧ (moN (μ 5) n < 0 ∨ μ 5 (tn (moN (μ 5) n)) < μ 5 n)) := ⟨hw0, Or.inl c_38⟩
            refine X_iload 57 4 dX7_shares_57 rfl ?_
            refine X_goto 59 63 dX7_shares_59 (by decide) ?_
            refine X_istore_n 63 [(3, .int _), (2, .int _), (0, .ref _), (1, .int _), (4, .int _)] dX7_shares_63 rfl (by decide) rfl ?_
            refine X_iinc 64 4 (_ + 1) [(4, .int _), (3, .int _), (2, .int _), (0, .ref _), (1, .int _)] dX7_shares_64 rfl rfl (by decide) rfl ?_
            refine X_goto 67 7 dX7_shares_67 (by decide) ?_
            refine X_sub [3, 4, 2, 1, 0] [(0, .ref _), (1, .int _), (2, .int _), (3, .int _), (4, .int _)] rfl ?_
            exact ih_7 (n + 1) (by omega) (by omega) _ _ _  (by rfl) (by (first | exact if_pos hp | exact if_neg hp)) (by exact (nI_1 n).symm)
          · obtain ⟨k, hk, ek, -⟩ := mo_nat c_38
            refine X_aload_n 41 1 dX7_shares_41 rfl rfl ?_
            refine X_getR (f := 9) 42 dX7_shares_42 lf_RX7_26 iw7 vc7 (by decide) lyM rfl ?_
            refine X_iload 45 4 dX7_shares_45 rfl ?_
            refine X_iald 47 dX7_shares_47 lyM5 (vp_in_nI hn8 (by decide)) ?_
            rw [nI_clamp (by omega)]
            refine X_aload_n 48 1 dX7_shares_48 rfl rfl ?_
            refine X_getR (f := 9) 49 dX7_shares_49 lf_RX7_26 iw7 vc7 (by decide) lyM rfl ?_
            refine X_iload_n 52 3 dX7_shares_52 rfl rfl ?_
            refine X_iald 53 dX7_shares_53 lyM5 (by rw [ek]; exact vp_in_nI (N := 8) (by omega) (by decide)) ?_
            refine X_icmp_le 54 62 dX7_shares_54 (by decide) (fun c_54 => ?_) (fun c_54 => ?_)
            · have hp : ¬ (0 < μ 5 n ∧ (moN (μ 5) n < 0 ∨ μ 5 (tn (moN (μ 5) n)) < μ 5 n)) := fun z => z.2.elim c_38 (fun q => Int32.not_lt.mpr c_54 q)
              refine X_iload_n 62 3 dX7_shares_62 rfl rfl ?_
              refine X_istore_n 63 [(3, .int _), (2, .int _), (0, .ref _), (1, .int _), (4, .int _)] dX7_shares_63 rfl (by decide) rfl ?_
              refine X_iinc 64 4 (_ + 1) [(4, .int _), (3, .int _), (2, .int _), (0, .ref _), (1, .int _)] dX7_shares_64 rfl rfl (by decide) rfl ?_
              refine X_goto 67 7 dX7_shares_67 (by decide) ?_
              refine X_sub [3, 4, 2, 1, 0] [(0, .ref _), (1, .int _), (2, .int _), (3, .int _), (4, .int _)] rfl ?_
              exact ih_7 (n + 1) (by omega) (by omega) _ _ _  (by rfl) (by (first | exact if_pos hp | exact if_neg hp)) (by exact (nI_1 n).symm)
            · have hp : (0 < μ 5 n ∧ (moN (μ 5) n < 0 ∨ μ 5 (tn (moN (μ 5) n)) < μ 5 n)) := ⟨hw0, Or.inr (Int32.not_le.mp c_54)⟩
              refine X_iload 57 4 dX7_shares_57 rfl ?_
              refine X_goto 59 63 dX7_shares_59 (by decide) ?_
              refine X_istore_n 63 [(3, .int _), (2, .int _), (0, .ref _), (1, .int _), (4, .int _)] dX7_shares_63 rfl (by decide) rfl ?_
              refine X_iinc 64 4 (_ + 1) [(4, .int _), (3, .int _), (2, .int _), (0, .ref _), (1, .int _)] dX7_shares_64 rfl rfl (by decide) rfl ?_
              refine X_goto 67 7 dX7_shares_67 (by decide) ?_
              refine X_sub [3, 4, 2, 1, 0] [(0, .ref _), (1, .int _), (2, .int _), (3, .int _), (4, .int _)] rfl ?_
              exact ih_7 (n + 1) (by omega) (by omega) _ _ _  (by rfl) (by (first | exact if_pos hp | exact if_neg hp)) (by exact (nI_1 n).symm)
        · have hw0 : ¬ 0 < μ 5 n := fun z => b_31 ((hcv n hlt).mpr z)
          have hp : ¬ (0 < μ 5 n ∧ (moN (μ 5) n < 0 ∨ μ 5 (tn (moN (μ 5) n)) < μ 5 n)) := fun z => hw0 z.1
          refine X_if_eq 34 62 dX7_shares_34 (by decide) (fun _ => ?_) (fun c_0 => by exact absurd c_0 (by decide))
          refine X_iload_n 62 3 dX7_shares_62 rfl rfl ?_
          refine X_istore_n 63 [(3, .int _), (2, .int _), (0, .ref _), (1, .int _), (4, .int _)] dX7_shares_63 rfl (by decide) rfl ?_
          refine X_iinc 64 4 (_ + 1) [(4, .int _), (3, .int _), (2, .int _), (0, .ref _), (1, .int _)] dX7_shares_64 rfl rfl (by decide) rfl ?_
          refine X_goto 67 7 dX7_shares_67 (by decide) ?_
          refine X_sub [3, 4, 2, 1, 0] [(0, .ref _), (1, .int _), (2, .int _), (3, .int _), (4, .int _)] rfl ?_
          exact ih_7 (n + 1) (by omega) (by omega) _ _ _  (by rfl) (by (first | exact if_pos hp | exact if_neg hp)) (by exact (nI_1 n).symm)
  exact L_7 (lc + 1) 0 (by omega) (by omega) _ _ _  (by rfl) (by rfl) (by exact nI_0)
