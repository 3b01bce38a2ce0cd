set_option maxHeartbeats 4000000 in
set_option maxRecDepth 100000 in
theorem e_X7_weighs (s : Nat) (V : Mm) (c r lc : Nat) (z : Int32) (x y : Nat) (μ : Mm) (hR : REP s V (μ 1) c r lc) (hz : HZ s V lc (μ 0 8) z) : EvN ΛM mX7_weighs [.ref 0, .int (nI x), .int (nI y)] μ (qV (fun μ' => WG μ (plW V s z (2 * (nI x + μ 1 2) + 1) (2 * (nI y + μ 1 3) + 1)) lc = μ')) := by
  refine EvN_ofQ (by decide +kernel) rfl (fun _ => rfl) (fun _ => Nat.le_of_ble_eq_true rfl) (ls := [(0, .ref 0), (1, .int (nI x)), (2, .int (nI y))]) ?_
  have h8 := hR.1.2.2.2.2.2.2.2
  refine X_iconst 0 (2) dX7_weighs_0 (by decide) ?_
  refine X_iload_n 1 1 dX7_weighs_1 rfl rfl ?_
  refine X_aload_n 2 0 dX7_weighs_2 rfl rfl ?_
  refine X_getR (f := 0) 3 dX7_weighs_3 lf_RX7_7 iw7 vc7 (by decide) lyM rfl ?_
  refine X_iconst 6 (2) dX7_weighs_6 (by decide) ?_
  refine X_iald 7 dX7_weighs_7 lyM1 (vp_in_nI (n := 2) (by decide) (by decide)) ?_
  rw [cl2]
  refine X_iadd 8 dX7_weighs_8 ?_
  refine X_imul 9 dX7_weighs_9 ?_
  refine X_iconst 10 (1) dX7_weighs_10 (by decide) ?_
  refine X_iadd 11 dX7_weighs_11 ?_
  refine X_istore_n 12 [(3, .int _), (0, .ref _), (1, .int _), (2, .int _)] dX7_weighs_12 rfl (by decide) rfl ?_
  refine X_iconst 13 (2) dX7_weighs_13 (by decide) ?_
  refine X_iload_n 14 3 dX7_weighs_14 rfl rfl ?_
  refine X_aload_n 15 1 dX7_weighs_15 rfl rfl ?_
  refine X_getR (f := 0) 16 dX7_weighs_16 lf_RX7_7 iw7 vc7 (by decide) lyM rfl ?_
  refine X_iconst 19 (3) dX7_weighs_19 (by decide) ?_
  refine X_iald 20 dX7_weighs_20 lyM1 (vp_in_nI (n := 3) (by decide) (by decide)) ?_
  rw [cl3]
  refine X_iadd 21 dX7_weighs_21 ?_
  refine X_imul 22 dX7_weighs_22 ?_
  refine X_iconst 23 (1) dX7_weighs_23 (by decide) ?_
  refine X_iadd 24 dX7_weighs_24 ?_
  refine X_istore 25 [(4, .int _), (3, .int _), (0, .ref _), (1, .int _), (2, .int _)] dX7_weighs_25 (by decide) rfl ?_
  refine X_aload_n 27 2 dX7_weighs_27 rfl rfl ?_
  refine X_iconst 28 (0) dX7_weighs_28 (by decide) ?_
  refine X_putI (f := 11) 29 dX7_weighs_29 lf_RX7_80 iw7 vc7 (by decide) lyM tyX7_ok nmX7 rfl rfl rfl (by decide) rfl rfl ?_
  refine X_iconst 32 (0) dX7_weighs_32 (by decide) ?_
  refine X_istore 33 [(5, .int _), (4, .int _), (3, .int _), (0, .ref _), (1, .int _), (2, .int _)] dX7_weighs_33 (by decide) rfl ?_
  refine X_sub [3, 4, 5, 2, 1, 0] [(0, .ref _), (1, .int _), (2, .int _), (3, .int _), (4, .int _), (5, .int _)] rfl ?_
  have L_35 : ∀ (kf : Nat) (n : Nat), n ≤ lc → lc < n + kf → ∀ (x35_5 : Int32) (μ35 : Mm), nI n = x35_5 → WG μ (plW V s z (2 * (nI x + μ 1 2) + 1) (2 * (nI y + μ 1 3) + 1)) n = μ35 → X false ΛM mX7_weighs (QN (qV (fun μ' => WG μ (plW V s z (2 * (nI x + μ 1 2) + 1) (2 * (nI y + μ 1 3) + 1)) lc = μ'))) 35 [(0, .ref 0), (1, .int (nI x)), (2, .int (nI y)), (3, .int ((2 * (nI x + μ 1 2) + 1))), (4, .int ((2 * (nI y + μ 1 3) + 1))), (5, .int x35_5)] [] μ35 := by
    intro kf
    induction kf with
    | zero => intro n hp35_0 hp35_1; exfalso; omega
    | succ kf ih_35 =>
      intro n hp35_0 hp35_1 x35_5 μ35
      rintro rfl rfl
      refine X_iload 35 5 dX7_weighs_35 rfl ?_
      refine X_aload_n 37 0 dX7_weighs_37 rfl rfl ?_
      refine X_getR (f := 0) 38 dX7_weighs_38 lf_RX7_7 iw7 vc7 (by decide) lyM rfl ?_
      refine X_iconst 41 (4) dX7_weighs_41 (by decide) ?_
      refine X_iald 42 dX7_weighs_42 lyM1 (vp_in_nI (n := 4) (by decide) (by decide)) ?_
      rw [cl4]
      rw [WG_out (by omega) (by decide), hR.1.2.2.1]
      refine X_icmp_ge 43 141 dX7_weighs_43 (by decide) (fun c_43 => ?_) (fun c_43 => ?_)
      · have hge : lc ≤ n := c_ge rfl (by omega) (by omega) c_43
        have hie : lc = n := by omega
        subst hie
        refine X_vret 141 dX7_weighs_141 rfl ⟨_, rfl, rfl, ?_⟩
        rfl
      · have hlt : n < lc := c_lt rfl (by omega) (by omega) c_43
        have hn8 : n < 8 := by omega
        refine X_aload_n 46 0 dX7_weighs_46 rfl rfl ?_
        refine X_iload 47 5 dX7_weighs_47 rfl ?_
        refine X_bipush 49 (11) dX7_weighs_49 (by decide) ?_
        refine X_cVI 51 [.int _, .int _] (e_X7_of n 11 _ hn8 (by decide)) dX7_weighs_51 lm_RX7_61 2 ⟨wm_X7_of, by decide +kernel, rfl, rfl⟩ rfl ⟨Nat.le_of_ble_eq_true rfl, Nat.le_of_ble_eq_true rfl⟩ lyM vc7 rfl rfl (Nat.le_of_ble_eq_true rfl) ?_
        rintro _ _ ⟨rfl, rfl⟩
        rw [WG_out (by omega) (by decide), ← (hR.2.2.1 n hn8).2.2.2]
        refine X_iconst 54 (1) dX7_weighs_54 (by decide) ?_
        refine X_icmp_ne 55 80 dX7_weighs_55 (by decide) (fun c_55 => ?_) (fun c_55 => ?_)
        · have hb : ¬ bitB z n = true := fun q => c_55 ((hz n hn8).mp q).2.1
          have hwn : (plW V s z (2 * (nI x + μ 1 2) + 1) (2 * (nI y + μ 1 3) + 1)) n = 0 := if_neg hb
          refine X_iconst 80 (0) dX7_weighs_80 (by decide) ?_
          refine X_istore 81 [(6, .int _), (0, .ref _), (1, .int _), (2, .int _), (3, .int _), (4, .int _), (5, .int _)] dX7_weighs_81 (by decide) rfl ?_
          refine X_aload_n 83 1 dX7_weighs_83 rfl rfl ?_
          refine X_getR (f := 9) 84 dX7_weighs_84 lf_RX7_26 iw7 vc7 (by decide) lyM rfl ?_
          refine X_iload 87 6 dX7_weighs_87 rfl ?_
          refine X_iload 89 0 dX7_weighs_89 rfl ?_
          refine X_if_eq 91 106 dX7_weighs_91 (by decide) (fun _ => ?_) (fun c_0 => by exact absurd c_0 (by decide))
          refine X_iconst 106 (0) dX7_weighs_106 (by decide) ?_
          refine X_iast 107 dX7_weighs_107 lyM5 (vp_in_nI hn8 (by decide)) ?_
          rw [nI_clamp (by omega)]
          refine X_muE (μ2 := uM (WG μ (plW V s z (2 * (nI x + μ 1 2) + 1) (2 * (nI y + μ 1 3) + 1)) n) 5 n ((plW V s z (2 * (nI x + μ 1 2) + 1) (2 * (nI y + μ 1 3) + 1)) n)) (by rw [hwn]) ?_
          refine X_aload_n 108 1 dX7_weighs_108 rfl rfl ?_
          refine X_dupr 109 dX7_weighs_109 ?_
          refine X_getI (f := 11) 110 dX7_weighs_110 lf_RX7_80 iw7 vc7 (by decide) lyM rfl ?_
          rw [uM_n (by omega), WG_11]
          refine X_aload_n 113 1 dX7_weighs_113 rfl rfl ?_
          refine X_getR (f := 9) 114 dX7_weighs_114 lf_RX7_26 iw7 vc7 (by decide) lyM rfl ?_
          refine X_iload 117 6 dX7_weighs_117 rfl ?_
          refine X_iald 119 dX7_weighs_119 lyM5 (vp_in_nI hn8 (by decide)) ?_
          rw [nI_clamp (by omega), uM_s]
          refine X_if_le 120 130 dX7_weighs_120 (by decide) (fun c_120 => ?_) (fun c_120 => ?_)
          · refine X_iconst 130 (0) dX7_weighs_130 (by decide) ?_
            refine X_ior 131 dX7_weighs_131 ?_
            refine X_putI (f := 11) 132 dX7_weighs_132 lf_RX7_80 iw7 vc7 (by decide) lyM tyX7_ok nmX7 rfl rfl rfl (by decide) rfl rfl ?_
            refine X_iinc 135 6 (_ + 1) [(5, .int _), (6, .int _), (0, .ref _), (1, .int _), (2, .int _), (3, .int _), (4, .int _)] dX7_weighs_135 rfl rfl (by decide) rfl ?_
            refine X_goto 138 35 dX7_weighs_138 (by decide) ?_
            refine X_sub [2, 3, 4, 5, 6, 0] [(0, .ref _), (1, .int _), (2, .int _), (3, .int _), (4, .int _), (5, .int _)] rfl ?_
            exact ih_35 (n + 1) (by omega) (by omega) _ _  (by exact (nI_1 n).symm) (by (first | exact (WG_s1 (Int32.not_le.mp c_120)).symm | exact (WG_s0 c_120).symm))
          · refine X_iconst 123 (1) dX7_weighs_123 (by decide) ?_
            refine X_iload 124 6 dX7_weighs_124 rfl ?_
            refine X_ishl 126 dX7_weighs_126 ?_
            refine X_goto 127 131 dX7_weighs_127 (by decide) ?_
            refine X_ior 131 dX7_weighs_131 ?_
            refine X_putI (f := 11) 132 dX7_weighs_132 lf_RX7_80 iw7 vc7 (by decide) lyM tyX7_ok nmX7 rfl rfl rfl (by decide) rfl rfl ?_
            refine X_iinc 135 6 (_ + 1) [(5, .int _), (6, .int _), (0, .ref _), (1, .int _), (2, .int _), (3, .int _), (4, .int _)] dX7_weighs_135 rfl rfl (by decide) rfl ?_
            refine X_goto 138 35 dX7_weighs_138 (by decide) ?_
            refine X_sub [2, 3, 4, 5, 6, 0] [(0, .ref _), (1, .int _), (2, .int _), (3, .int _), (4, .int _), (5, .int _)] rfl ?_
            exact ih_35 (n + 1) (by omega) (by omega) _ _  (by exact (nI_1 n).symm) (by (first | exact (WG_s1 (Int32.not_le.mp c_120)).symm | exact (WG_s0 c_120).symm))
        · refine X_iload 58 5 dX7_weighs_58 rfl ?_
          refine X_aload_n 60 0 dX7_weighs_60 rfl rfl ?_
          refine X_getI (f := 8) 61 dX7_weighs_61 lf_RX7_22 iw7 vc7 (by decide) lyM rfl ?_
          rw [WG_out (by omega) (by decide)]
          refine X_icmp_eq 64 80 dX7_weighs_64 (by decide) (fun c_64 => ?_) (fun c_64 => ?_)
          · have hb : ¬ bitB z n = true := fun q => ((hz n hn8).mp q).2.2.1 c_64
            have hwn : (plW V s z (2 * (nI x + μ 1 2) + 1) (2 * (nI y + μ 1 3) + 1)) n = 0 := if_neg hb
            refine X_iconst 80 (0) dX7_weighs_80 (by decide) ?_
            refine X_istore 81 [(6, .int _), (0, .ref _), (1, .int _), (2, .int _), (3, .int _), (4, .int _), (5, .int _)] dX7_weighs_81 (by decide) rfl ?_
            refine X_aload_n 83 1 dX7_weighs_83 rfl rfl ?_
            refine X_getR (f := 9) 84 dX7_weighs_84 lf_RX7_26 iw7 vc7 (by decide) lyM rfl ?_
            refine X_iload 87 6 dX7_weighs_87 rfl ?_
            refine X_iload 89 0 dX7_weighs_89 rfl ?_
            refine X_if_eq 91 106 dX7_weighs_91 (by decide) (fun _ => ?_) (fun c_0 => by exact absurd c_0 (by decide))
            refine X_iconst 106 (0) dX7_weighs_106 (by decide) ?_
            refine X_iast 107 dX7_weighs_107 lyM5 (vp_in_nI hn8 (by decide)) ?_
            rw [nI_clamp (by omega)]
            refine X_muE (μ2 := uM (WG μ (plW V s z (2 * (nI x + μ 1 2) + 1) (2 * (nI y + μ 1 3) + 1)) n) 5 n ((plW V s z (2 * (nI x + μ 1 2) + 1) (2 * (nI y + μ 1 3) + 1)) n)) (by rw [hwn]) ?_
            refine X_aload_n 108 1 dX7_weighs_108 rfl rfl ?_
            refine X_dupr 109 dX7_weighs_109 ?_
            refine X_getI (f := 11) 110 dX7_weighs_110 lf_RX7_80 iw7 vc7 (by decide) lyM rfl ?_
            rw [uM_n (by omega), WG_11]
            refine X_aload_n 113 1 dX7_weighs_113 rfl rfl ?_
            refine X_getR (f := 9) 114 dX7_weighs_114 lf_RX7_26 iw7 vc7 (by decide) lyM rfl ?_
            refine X_iload 117 6 dX7_weighs_117 rfl ?_
            refine X_iald 119 dX7_weighs_119 lyM5 (vp_in_nI hn8 (by decide)) ?_
            rw [nI_clamp (by omega), uM_s]
            refine X_if_le 120 130 dX7_weighs_120 (by decide) (fun c_120 => ?_) (fun c_120 => ?_)
            · refine X_iconst 130 (0) dX7_weighs_130 (by decide) ?_
              refine X_ior 131 dX7_weighs_131 ?_
              refine X_putI (f := 11) 132 dX7_weighs_132 lf_RX7_80 iw7 vc7 (by decide) lyM tyX7_ok nmX7 rfl rfl rfl (by decide) rfl rfl ?_
              refine X_iinc 135 6 (_ + 1) [(5, .int _), (6, .int _), (0, .ref _), (1, .int _), (2, .int _), (3, .int _), (4, .int _)] dX7_weighs_135 rfl rfl (by decide) rfl ?_
              refine X_goto 138 35 dX7_weighs_138 (by decide) ?_
              refine X_sub [2, 3, 4, 5, 6, 0] [(0, .ref _), (1, .int _), (2, .int _), (3, .int _), (4, .int _), (5, .int _)] rfl ?_
              exact ih_35 (n + 1) (by omega) (by omega) _ _  (by exact (nI_1 n).symm) (by (first | exact (WG_s1 (Int32.not_le.mp c_120)).symm | exact (WG_s0 c_120).symm))
            · refine X_iconst 123 (1) dX7_weighs_123 (by decide) ?_
              refine X_iload 124 6 dX7_weighs_124 rfl ?_
              refine X_ishl 126 dX7_weighs_126 ?_
              refine X_goto 127 131 dX7_weighs_127 (by decide) ?_
              refine X_ior 131 dX7_weighs_131 ?_
              refine X_putI (f := 11) 132 dX7_weighs_132 lf_RX7_80 iw7 vc7 (by decide) lyM tyX7_ok nmX7 rfl rfl rfl (by decide) rfl rfl ?_
              refine X_iinc 135 6 (_ + 1) [(5, .int _), (6, .int _), (0, .ref _), (1, .int _), (2, .int _), (3, .int _), (4, .int _)] dX7_weighs_135 rfl rfl (by decide) rfl ?_
              refine X_goto 138 35 dX7_weighs_138 (by decide) ?_
              refine X_sub [2, 3, 4, 5, 6, 0] [(0, .ref _), (1, .int _), (2, .int _), (3, .int _), (4, .int _), (5, .int _)] rfl ?_
              exact ih_35 (n + 1) (by omega) (by omega) _ _  (by exact (nI_1 n).symm) (by (first | exact (WG_s1 (Int32.not_le.mp c_120)).symm | exact (WG_s0 c_120).symm))
          · refine X_aload_n 67 0 dX7_weighs_67 rfl rfl ?_
            refine X_iload 68 5 dX7_weighs_68 rfl ?_
            refine X_cVI 70 [.int _] (e_X7_isGood s V c r lc n _ (WG_R hR) hn8) dX7_weighs_70 lm_RX7_83 1 ⟨wm_X7_isGood, by decide +kernel, rfl, rfl⟩ rfl ⟨Nat.le_of_ble_eq_true rfl, Nat.le_of_ble_eq_true rfl⟩ lyM vc7 rfl rfl (Nat.le_of_ble_eq_true rfl) ?_
            rintro _ _ ⟨rfl, ⟨rfl, b_70⟩ | ⟨rfl, b_70⟩⟩
            · have hb : bitB z n = true := (hz n hn8).mpr ⟨hlt, c_55, c_64, b_70⟩
              have hwn : (plW V s z (2 * (nI x + μ 1 2) + 1) (2 * (nI y + μ 1 3) + 1)) n = wgt V s n (2 * (nI x + μ 1 2) + 1) (2 * (nI y + μ 1 3) + 1) := if_pos hb
              refine X_if_eq 73 80 dX7_weighs_73 (by decide) (fun c_0 => by exact absurd c_0 (by decide)) (fun _ => ?_)
              refine X_iconst 76 (1) dX7_weighs_76 (by decide) ?_
              refine X_goto 77 81 dX7_weighs_77 (by decide) ?_
              refine X_istore 81 [(6, .int _), (0, .ref _), (1, .int _), (2, .int _), (3, .int _), (4, .int _), (5, .int _)] dX7_weighs_81 (by decide) rfl ?_
              refine X_aload_n 83 1 dX7_weighs_83 rfl rfl ?_
              refine X_getR (f := 9) 84 dX7_weighs_84 lf_RX7_26 iw7 vc7 (by decide) lyM rfl ?_
              refine X_iload 87 6 dX7_weighs_87 rfl ?_
              refine X_iload 89 0 dX7_weighs_89 rfl ?_
              refine X_if_eq 91 106 dX7_weighs_91 (by decide) (fun c_0 => by exact absurd c_0 (by decide)) (fun _ => ?_)
              refine X_aload_n 94 1 dX7_weighs_94 rfl rfl ?_
              refine X_iload 95 6 dX7_weighs_95 rfl ?_
              refine X_iload_n 97 4 dX7_weighs_97 rfl rfl ?_
              refine X_iload 98 5 dX7_weighs_98 rfl ?_
              refine X_cVI 100 [.int _, .int _, .int _] (e_X7_weightAt s V c r lc n _ _ _ (WG_R hR) hn8) dX7_weighs_100 lm_RX7_87 3 ⟨wm_X7_weightAt, by decide +kernel, rfl, rfl⟩ rfl ⟨Nat.le_of_ble_eq_true rfl, Nat.le_of_ble_eq_true rfl⟩ lyM vc7 rfl rfl (Nat.le_of_ble_eq_true rfl) ?_
              rintro _ _ ⟨rfl, rfl⟩
              refine X_goto 103 107 dX7_weighs_103 (by decide) ?_
              refine X_iast 107 dX7_weighs_107 lyM5 (vp_in_nI hn8 (by decide)) ?_
              rw [nI_clamp (by omega)]
              refine X_muE (μ2 := uM (WG μ (plW V s z (2 * (nI x + μ 1 2) + 1) (2 * (nI y + μ 1 3) + 1)) n) 5 n ((plW V s z (2 * (nI x + μ 1 2) + 1) (2 * (nI y + μ 1 3) + 1)) n)) (by rw [hwn]) ?_
              refine X_aload_n 108 1 dX7_weighs_108 rfl rfl ?_
              refine X_dupr 109 dX7_weighs_109 ?_
              refine X_getI (f := 11) 110 dX7_weighs_110 lf_RX7_80 iw7 vc7 (by decide) lyM rfl ?_
              rw [uM_n (by omega), WG_11]
              refine X_aload_n 113 1 dX7_weighs_113 rfl rfl ?_
              refine X_getR (f := 9) 114 dX7_weighs_114 lf_RX7_26 iw7 vc7 (by decide) lyM rfl ?_
              refine X_iload 117 6 dX7_weighs_117 rfl ?_
              refine X_iald 119 dX7_weighs_119 lyM5 (vp_in_nI hn8 (by decide)) ?_
              rw [nI_clamp (by omega), uM_s]
              refine X_if_le 120 130 dX7_weighs_120 (by decide) (fun c_120 => ?_) (fun c_120 => ?_)
              · refine X_iconst 130 (0) dX7_weighs_130 (by decide) ?_
                refine X_ior 131 dX7_weighs_131 ?_
                refine X_putI (f := 11) 132 dX7_weighs_132 lf_RX7_80 iw7 vc7 (by decide) lyM tyX7_ok nmX7 rfl rfl rfl (by decide) rfl rfl ?_
                refine X_iinc 135 6 (_ + 1) [(5, .int _), (6, .int _), (0, .ref _), (1, .int _), (2, .int _), (3, .int _), (4, .int _)] dX7_weighs_135 rfl rfl (by decide) rfl ?_
                refine X_goto 138 35 dX7_weighs_138 (by decide) ?_
                refine X_sub [2, 3, 4, 5, 6, 0] [(0, .ref _), (1, .int _), (2, .int _), (3, .int _), (4, .int _), (5, .int _)] rfl ?_
                exact ih_35 (n + 1) (by omega) (by omega) _ _  (by exact (nI_1 n).symm) (by (first | exact (WG_s1 (Int32.not_le.mp c_120)).symm | exact (WG_s0 c_120).symm))
              · refine X_iconst 123 (1) dX7_weighs_123 (by decide) ?_
                refine X_iload 124 6 dX7_weighs_124 rfl ?_
                refine X_ishl 126 dX7_weighs_126 ?_
                refine X_goto 127 131 dX7_weighs_127 (by decide) ?_
                refine X_ior 131 dX7_weighs_131 ?_
                refine X_putI (f := 11) 132 dX7_weighs_132 lf_RX7_80 iw7 vc7 (by decide) lyM tyX7_ok nmX7 rfl rfl rfl (by decide) rfl rfl ?_
                refine X_iinc 135 6 (_ + 1) [(5, .int _), (6, .int _), (0, .ref _), (1, .int _), (2, .int _), (3, .int _), (4, .int _)] dX7_weighs_135 rfl rfl (by decide) rfl ?_
                refine X_goto 138 35 dX7_weighs_138 (by decide) ?_
                refine X_sub [2, 3, 4, 5, 6, 0] [(0, .ref _), (1, .int _), (2, .int _), (3, .int _), (4, .int _), (5, .int _)] rfl ?_
                exact ih_35 (n + 1) (by omega) (by omega) _ _  (by exact (nI_1 n).symm) (by (first | exact (WG_s1 (Int32.not_le.mp c_120)).symm | exact (WG_s0 c_120).symm))
            · have hb : ¬ bitB z n = true := fun q => b_70 ((hz n hn8).mp q).2.2.2
              have hwn : (plW V s z (2 * (nI x + μ 1 2) + 1) (2 * (nI y + μ 1 3) + 1)) n = 0 := if_neg hb
              refine X_if_eq 73 80 dX7_weighs_73 (by decide) (fun _ => ?_) (fun c_0 => by exact absurd c_0 (by decide))
              refine X_iconst 80 (0) dX7_weighs_80 (by decide) ?_
              refine X_istore 81 [(6, .int _), (0, .ref _), (1, .int _), (2, .int _), (3, .int _), (4, .int _), (5, .int _)] dX7_weighs_81 (by decide) rfl ?_
              refine X_aload_n 83 1 dX7_weighs_83 rfl rfl ?_
              refine X_getR (f := 9) 84 dX7_weighs_84 lf_RX7_26 iw7 vc7 (by decide) lyM rfl ?_
              refine X_iload 87 6 dX7_weighs_87 rfl ?_
              refine X_iload 89 0 dX7_weighs_89 rfl ?_
              refine X_if_eq 91 106 dX7_weighs_91 (by decide) (fun _ => ?_) (fun c_0 => by exact absurd c_0 (by decide))
              refine X_iconst 106 (0) dX7_weighs_106 (by decide) ?_
              refine X_iast 107 dX7_weighs_107 lyM5 (vp_in_nI hn8 (by decide)) ?_
              rw [nI_clamp (by omega)]
              refine X_muE (μ2 := uM (WG μ (plW V s z (2 * (nI x + μ 1 2) + 1) (2 * (nI y + μ 1 3) + 1)) n) 5 n ((plW V s z (2 * (nI x + μ 1 2) + 1) (2 * (nI y + μ 1 3) + 1)) n)) (by rw [hwn]) ?_
              refine X_aload_n 108 1 dX7_weighs_108 rfl rfl ?_
              refine X_dupr 109 dX7_weighs_109 ?_
              refine X_getI (f := 11) 110 dX7_weighs_110 lf_RX7_80 iw7 vc7 (by decide) lyM rfl ?_
              rw [uM_n (by omega), WG_11]
              refine X_aload_n 113 1 dX7_weighs_113 rfl rfl ?_
              refine X_getR (f := 9) 114 dX7_weighs_114 lf_RX7_26 iw7 vc7 (by decide) lyM rfl ?_
              refine X_iload 117 6 dX7_weighs_117 rfl ?_
              refine X_iald 119 dX7_weighs_119 lyM5 (vp_in_nI hn8 (by decide)) ?_
              rw [nI_clamp (by omega), uM_s]
              refine X_if_le 120 130 dX7_weighs_120 (by decide) (fun c_120 => ?_) (fun c_120 => ?_)
              · refine X_iconst 130 (0) dX7_weighs_130 (by decide) ?_
                refine X_ior 131 dX7_weighs_131 ?_
                refine X_putI (f := 11) 132 dX7_weighs_132 lf_RX7_80 iw7 vc7 (by decide) lyM tyX7_ok nmX7 rfl rfl rfl (by decide) rfl rfl ?_
                refine X_iinc 135 6 (_ + 1) [(5, .int _), (6, .int _), (0, .ref _), (1, .int _), (2, .int _), (3, .int _), (4, .int _)] dX7_weighs_135 rfl rfl (by decide) rfl ?_
                refine X_goto 138 35 dX7_weighs_138 (by decide) ?_
                refine X_sub [2, 3, 4, 5, 6, 0] [(0, .ref _), (1, .int _), (2, .int _), (3, .int _), (4, .int _), (5, .int _)] rfl ?_
                exact ih_35 (n + 1) (by omega) (by omega) _ _  (by exact (nI_1 n).symm) (by (first | exact (WG_s1 (Int32.not_le.mp c_120)).symm | exact (WG_s0 c_120).symm))
              · refine X_iconst 123 (1) dX7_weighs_123 (by decide) ?_
                refine X_iload 124 6 dX7_weighs_124 rfl ?_
                refine X_ishl 126 dX7_weighs_126 ?_
                refine X_goto 127 131 dX7_weighs_127 (by decide) ?_
                refine X_ior 131 dX7_weighs_131 ?_
                refine X_putI (f := 11) 132 dX7_weighs_132 lf_RX7_80 iw7 vc7 (by decide) lyM tyX7_ok nmX7 rfl rfl rfl (by decide) rfl rfl ?_
                refine X_iinc 135 6 (_ + 1) [(5, .int _), (6, .int _), (0, .ref _), (1, .int _), (2, .int _), (3, .int _), (4, .int _)] dX7_weighs_135 rfl rfl (by decide) rfl ?_
                refine X_goto 138 35 dX7_weighs_138 (by decide) ?_
                refine X_sub [2, 3, 4, 5, 6, 0] [(0, .ref _), (1, .int _), (2, .int _), (3, .int _), (4, .int _), (5, .int _)] rfl ?_
                exact ih_35 (n + 1) (by omega) (by omega) _ _  (by exact (nI_1 n).symm) (by (first | exact (WG_s1 (Int32.not_le.mp c_120)).symm | exact (WG_s0 c_120).symm))
  exact L_35 (lc + 1) 0 (by omega) (by omega) _ _  (by exact nI_0) (by exact WG_0)
set_option maxHeartbeats 4000000 in
set_option maxRecDepth 100000 in
theorem e_X7_isOn (n : Nat) (μ : Mm) : EvN ΛM mX7_isOn [.ref 0, .int (nI n)] μ (qB (bitB (μ 0 11) n = true) μ) := by
  refine EvN_ofQ (by decide +kernel) rfl (fun _ => rfl) (fun _ => Nat.le_of_ble_eq_true rfl) (ls := [(0, .ref 0), (1, .int (nI n))]) ?_
  refine X_aload_n 0 0 dX7_isOn_0 rfl rfl ?_
  refine X_getI (f := 11) 1 dX7_isOn_1 lf_RX7_80 iw7 vc7 (by decide) lyM rfl ?_
  refine X_iload_n 4 1 dX7_isOn_4 rfl rfl ?_
  refine X_ishr 5 dX7_isOn_5 ?_
  refine X_iconst 6 (1) dX7_isOn_6 (by decide) ?_
  refine X_iand 7 dX7_isOn_7 ?_
  refine X_iconst 8 (1) dX7_isOn_8 (by decide) ?_
  refine X_icmp_ne 9 16 dX7_isOn_9 (by decide) (fun c_9 => ?_) (fun c_9 => ?_)
  · refine X_iconst 16 (0) dX7_isOn_16 (by decide) ?_
    refine X_iret 17 dX7_isOn_17 rfl rfl ⟨_, rfl, _, rfl, ?_⟩
    refine ⟨rfl, Or.inr ⟨rfl, ?_⟩⟩
    first | exact bitB_t c_9 | exact bitB_f c_9
  · refine X_iconst 12 (1) dX7_isOn_12 (by decide) ?_
    refine X_goto 13 17 dX7_isOn_13 (by decide) ?_
    refine X_iret 17 dX7_isOn_17 rfl rfl ⟨_, rfl, _, rfl, ?_⟩
    refine ⟨rfl, Or.inl ⟨rfl, ?_⟩⟩
    first | exact bitB_t c_9 | exact bitB_f c_9
set_option maxHeartbeats 4000000 in
set_option maxRecDepth 100000 in
theorem e_X7_sumOfLights (lc : Nat) (μ : Mm) (h4 : μ 1 4 = nI lc) (h8 : lc ≤ 8) : EvN ΛM mX7_sumOfLights [.ref 0] μ (qE (sumN lc (μ 6)) μ) := by
  refine EvN_ofQ (by decide +kernel) rfl (fun _ => rfl) (fun _ => Nat.le_of_ble_eq_true rfl) (ls := [(0, .ref 0)]) ?_
  refine X_iconst 0 (0) dX7_sumOfLights_0 (by decide) ?_
  refine X_istore_n 1 [(1, .int _), (0, .ref _)] dX7_sumOfLights_1 rfl (by decide) rfl ?_
  refine X_iconst 2 (0) dX7_sumOfLights_2 (by decide) ?_
  refine X_istore_n 3 [(2, .int _), (1, .int _), (0, .ref _)] dX7_sumOfLights_3 rfl (by decide) rfl ?_
  refine X_sub [2, 1, 0] [(0, .ref _), (1, .int _), (2, .int _)] rfl ?_
  have L_4 : ∀ (kf : Nat) (n : Nat), n ≤ lc → lc < n + kf → ∀ (x4_1 : Int32) (x4_2 : Int32), sumN n (μ 6) = x4_1 → nI n = x4_2 → X false ΛM mX7_sumOfLights (QN (qE (sumN lc (μ 6)) μ)) 4 [(0, .ref 0), (1, .int x4_1), (2, .int x4_2)] [] μ := by
    intro kf
    induction kf with
    | zero => intro n hp4_0 hp4_1; exfalso; omega
    | succ kf ih_4 =>
      intro n hp4_0 hp4_1 x4_1 x4_2
      rintro rfl rfl
      refine X_iload_n 4 2 dX7_sumOfLights_4 rfl rfl ?_
      refine X_aload_n 5 0 dX7_sumOfLights_5 rfl rfl ?_
      refine X_getR (f := 0) 6 dX7_sumOfLights_6 lf_RX7_7 iw7 vc7 (by decide) lyM rfl ?_
      refine X_iconst 9 (4) dX7_sumOfLights_9 (by decide) ?_
      refine X_iald 10 dX7_sumOfLights_10 lyM1 (vp_in_nI (n := 4) (by decide) (by decide)) ?_
      rw [cl4]
      rw [h4]
      refine X_icmp_ge 11 29 dX7_sumOfLights_11 (by decide) (fun c_11 => ?_) (fun c_11 => ?_)
      · have hge : lc ≤ n := c_ge rfl (by omega) (by omega) c_11
        have hie : lc = n := by omega
        subst hie
        refine X_iload_n 29 1 dX7_sumOfLights_29 rfl rfl ?_
        refine X_iret 30 dX7_sumOfLights_30 rfl rfl ⟨_, rfl, _, rfl, ?_⟩
        exact ⟨rfl, rfl⟩
      · have hlt : n < lc := c_lt rfl (by omega) (by omega) c_11
        have hn8 : n < 8 := by omega
        refine X_iload_n 14 1 dX7_sumOfLights_14 rfl rfl ?_
        refine X_aload_n 15 0 dX7_sumOfLights_15 rfl rfl ?_
        refine X_getR (f := 10) 16 dX7_sumOfLights_16 lf_RX7_29 iw7 vc7 (by decide) lyM rfl ?_
        refine X_iload_n 19 2 dX7_sumOfLights_19 rfl rfl ?_
        refine X_iald 20 dX7_sumOfLights_20 lyM6 (vp_in_nI hn8 (by decide)) ?_
        rw [nI_clamp (by omega)]
        refine X_iadd 21 dX7_sumOfLights_21 ?_
        refine X_istore_n 22 [(1, .int _), (0, .ref _), (2, .int _)] dX7_sumOfLights_22 rfl (by decide) rfl ?_
        refine X_iinc 23 2 (_ + 1) [(2, .int _), (1, .int _), (0, .ref _)] dX7_sumOfLights_23 rfl rfl (by decide) rfl ?_
        refine X_goto 26 4 dX7_sumOfLights_26 (by decide) ?_
        refine X_sub [2, 1, 0] [(0, .ref _), (1, .int _), (2, .int _)] rfl ?_
        exact ih_4 (n + 1) (by omega) (by omega) _ _  (by rfl) (by exact (nI_1 n).symm)
  exact L_4 (lc + 1) 0 (by omega) (by omega) _ _  (by rfl) (by exact nI_0)
