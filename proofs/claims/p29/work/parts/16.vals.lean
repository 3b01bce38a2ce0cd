set_option maxHeartbeats 4000000 in
set_option maxRecDepth 100000 in
theorem e_X6_placeValue (c r lc la cn : Nat) (x y w : Nat) (μ : Mm) (hI : CIv μ c r lc la cn) (hx : x < c) (hy : y < r) (hw : w ≤ 5) : EvN ΛC mX6_placeValue [.ref 109, .int (nI (y * c + x)), .int (nI w)] μ (qI (fun v9 m => plV μ lc c x y w = v9 ∧ RfP μ lc c r m)) := by
  refine EvN_ofQ (by decide +kernel) rfl (fun _ => rfl) (fun _ => Nat.le_of_ble_eq_true rfl) (ls := [(0, .ref 109), (1, .int (nI (y * c + x))), (2, .int (nI w))]) ?_
  obtain ⟨hc, hr, hlc, hla, hcn, ⟨g1, g2, g3, g4, g5, g6, g7⟩, hv⟩ := hI
  have hcr := cr_le g2 g4
  have hp : y * c + x < 384 := ix_lt (by omega) hx (by omega)
  refine X_aload_n 0 0 dX6_placeValue_0 rfl rfl ?_
  refine X_getR (f := 1) 1 dX6_placeValue_1 lf_RX6_19 iw6 vc6 (by decide) lyL rfl ?_
  refine X_aload_n 4 0 dX6_placeValue_4 rfl rfl ?_
  refine X_getR (f := 0) 5 dX6_placeValue_5 lf_RX6_12 iw6 vc6 (by decide) lyL rfl ?_
  refine X_cVV 8 [.ref _] (e_X5_refresh lc c r _ hc hr hlc g5 g2 g4 hv) dX6_placeValue_8 lm_RX6_98 1 ⟨wm_X5_refresh, by decide +kernel, rfl, rfl⟩ rfl ⟨Nat.le_of_ble_eq_true rfl, Nat.le_of_ble_eq_true rfl⟩ lyV vc5 rfl rfl (Nat.le_of_ble_eq_true rfl) ?_
  rintro m hR0
  have hR : RfP μ lc c r m := hR0
  have hlcm : m 0 5 = nI lc := (rf_s hR 5 (by decide)).trans hlc
  have hmc : m 0 0 = nI c := (rf_s hR 0 (by decide)).trans hc
  have hmr : m 0 1 = nI r := (rf_s hR 1 (by decide)).trans hr
  have hN : m 93 5 = nI (c * r) := hR.1.1
  refine X_iload_n 11 2 dX6_placeValue_11 rfl rfl ?_
  rcases (show w = 0 ∨ w = 1 ∨ w = 2 ∨ w = 3 ∨ w = 4 ∨ w = 5 by omega) with rfl | rfl | rfl | rfl | rfl | rfl
  · refine X_tabIn (off := 36) 12 48 dX6_placeValue_12 (by decide) (by decide) (by decide +kernel) (by decide) ?_
    refine X_aload_n 48 0 dX6_placeValue_48 rfl rfl ?_
    refine X_getR (f := 0) 49 dX6_placeValue_49 lf_RX6_12 iw6 vc6 (by decide) lyL rfl ?_
    refine X_iload_n 52 1 dX6_placeValue_52 rfl rfl ?_
    refine X_cVI 53 [.int _] (e_X4_targetAt 0 (Or.inl rfl) _ _) dX6_placeValue_53 lm_RX6_208 1 ⟨wm_X4_targetAt, by decide +kernel, rfl, rfl⟩ rfl ⟨Nat.le_of_ble_eq_true rfl, Nat.le_of_ble_eq_true rfl⟩ (lyS 0 (Or.inl rfl)) vc4 rfl rfl (Nat.le_of_ble_eq_true rfl) ?_
    rintro _ _ ⟨rfl, rfl⟩
    refine X_iret 56 dX6_placeValue_56 rfl rfl ⟨_, rfl, _, rfl, ?_⟩
    refine ⟨?_, hR⟩
    rw [gt_nI hp (by decide)]
    exact (rf_r hR 8 _ (by decide) (by decide)).symm
  · refine X_tabIn (off := 45) 12 57 dX6_placeValue_12 (by decide) (by decide) (by decide +kernel) (by decide) ?_
    refine X_aload_n 57 0 dX6_placeValue_57 rfl rfl ?_
    refine X_getR (f := 1) 58 dX6_placeValue_58 lf_RX6_19 iw6 vc6 (by decide) lyL rfl ?_
    refine X_iload_n 61 1 dX6_placeValue_61 rfl rfl ?_
    refine X_cVI 62 [.int _] (e_X5_brightnessAt _ _ (by first | omega | assumption)) dX6_placeValue_62 lm_RX6_211 1 ⟨wm_X5_brightnessAt, by decide +kernel, rfl, rfl⟩ rfl ⟨Nat.le_of_ble_eq_true rfl, Nat.le_of_ble_eq_true rfl⟩ lyV vc5 rfl rfl (Nat.le_of_ble_eq_true rfl) ?_
    rintro _ _ ⟨rfl, rfl⟩
    refine X_iret 65 dX6_placeValue_65 rfl rfl ⟨_, rfl, _, rfl, ?_⟩
    exact ⟨(RfP_get hR hx hy).2.1.symm, hR⟩
  · refine X_tabIn (off := 54) 12 66 dX6_placeValue_12 (by decide) (by decide) (by decide +kernel) (by decide) ?_
    refine X_aload_n 66 0 dX6_placeValue_66 rfl rfl ?_
    refine X_getR (f := 1) 67 dX6_placeValue_67 lf_RX6_19 iw6 vc6 (by decide) lyL rfl ?_
    refine X_iload_n 70 1 dX6_placeValue_70 rfl rfl ?_
    refine X_cVI 71 [.int _] (e_X5_stateAt _ _ (by first | omega | assumption)) dX6_placeValue_71 lm_RX6_192 1 ⟨wm_X5_stateAt, by decide +kernel, rfl, rfl⟩ rfl ⟨Nat.le_of_ble_eq_true rfl, Nat.le_of_ble_eq_true rfl⟩ lyV vc5 rfl rfl (Nat.le_of_ble_eq_true rfl) ?_
    rintro _ _ ⟨rfl, rfl⟩
    refine X_iret 74 dX6_placeValue_74 rfl rfl ⟨_, rfl, _, rfl, ?_⟩
    exact ⟨(RfP_get hR hx hy).2.2.1.symm, hR⟩
  · refine X_tabIn (off := 63) 12 75 dX6_placeValue_12 (by decide) (by decide) (by decide +kernel) (by decide) ?_
    refine X_aload_n 75 0 dX6_placeValue_75 rfl rfl ?_
    refine X_getR (f := 1) 76 dX6_placeValue_76 lf_RX6_19 iw6 vc6 (by decide) lyL rfl ?_
    refine X_iload_n 79 1 dX6_placeValue_79 rfl rfl ?_
    refine X_cVI 80 [.int _] (e_X5_coveringAt _ _ (by first | omega | assumption)) dX6_placeValue_80 lm_RX6_258 1 ⟨wm_X5_coveringAt, by decide +kernel, rfl, rfl⟩ rfl ⟨Nat.le_of_ble_eq_true rfl, Nat.le_of_ble_eq_true rfl⟩ lyV vc5 rfl rfl (Nat.le_of_ble_eq_true rfl) ?_
    rintro _ _ ⟨rfl, rfl⟩
    refine X_iret 83 dX6_placeValue_83 rfl rfl ⟨_, rfl, _, rfl, ?_⟩
    exact ⟨(RfP_get hR hx hy).1.symm, hR⟩
  · refine X_tabIn (off := 72) 12 84 dX6_placeValue_12 (by decide) (by decide) (by decide +kernel) (by decide) ?_
    refine X_aload_n 84 0 dX6_placeValue_84 rfl rfl ?_
    refine X_getR (f := 0) 85 dX6_placeValue_85 lf_RX6_12 iw6 vc6 (by decide) lyL rfl ?_
    refine X_aload_n 88 0 dX6_placeValue_88 rfl rfl ?_
    refine X_getR (f := 1) 89 dX6_placeValue_89 lf_RX6_19 iw6 vc6 (by decide) lyL rfl ?_
    refine X_iload_n 92 1 dX6_placeValue_92 rfl rfl ?_
    refine X_cVI 93 [.int _] (e_X5_coveringAt _ _ (by first | omega | assumption)) dX6_placeValue_93 lm_RX6_258 1 ⟨wm_X5_coveringAt, by decide +kernel, rfl, rfl⟩ rfl ⟨Nat.le_of_ble_eq_true rfl, Nat.le_of_ble_eq_true rfl⟩ lyV vc5 rfl rfl (Nat.le_of_ble_eq_true rfl) ?_
    rintro _ _ ⟨rfl, rfl⟩
    refine X_cVI 96 [.int _] (e_X4_sumOfLimits 0 (Or.inl rfl) _ lc _ hlcm g5) dX6_placeValue_96 lm_RX6_261 1 ⟨wm_X4_sumOfLimits, by decide +kernel, rfl, rfl⟩ rfl ⟨Nat.le_of_ble_eq_true rfl, Nat.le_of_ble_eq_true rfl⟩ (lyS 0 (Or.inl rfl)) vc4 rfl rfl (Nat.le_of_ble_eq_true rfl) ?_
    rintro _ _ ⟨rfl, rfl⟩
    refine X_iret 99 dX6_placeValue_99 rfl rfl ⟨_, rfl, _, rfl, ?_⟩
    refine ⟨?_, hR⟩
    rw [(RfP_get hR hx hy).1]
    exact sumN_congr fun k _ => by rw [rf_lim hR]
  · refine X_tabOut 12 100 dX6_placeValue_12 (by decide) (by decide) ?_
    refine X_aload_n 100 0 dX6_placeValue_100 rfl rfl ?_
    refine X_getR (f := 0) 101 dX6_placeValue_101 lf_RX6_12 iw6 vc6 (by decide) lyL rfl ?_
    refine X_aload_n 104 0 dX6_placeValue_104 rfl rfl ?_
    refine X_getR (f := 1) 105 dX6_placeValue_105 lf_RX6_19 iw6 vc6 (by decide) lyL rfl ?_
    refine X_iload_n 108 1 dX6_placeValue_108 rfl rfl ?_
    refine X_cVI 109 [.int _] (e_X5_coveringAt _ _ (by first | omega | assumption)) dX6_placeValue_109 lm_RX6_258 1 ⟨wm_X5_coveringAt, by decide +kernel, rfl, rfl⟩ rfl ⟨Nat.le_of_ble_eq_true rfl, Nat.le_of_ble_eq_true rfl⟩ lyV vc5 rfl rfl (Nat.le_of_ble_eq_true rfl) ?_
    rintro _ _ ⟨rfl, rfl⟩
    refine X_cVI 112 [.int _] (e_X4_sumOfFloors 0 (Or.inl rfl) _ lc _ hlcm g5) dX6_placeValue_112 lm_RX6_264 1 ⟨wm_X4_sumOfFloors, by decide +kernel, rfl, rfl⟩ rfl ⟨Nat.le_of_ble_eq_true rfl, Nat.le_of_ble_eq_true rfl⟩ (lyS 0 (Or.inl rfl)) vc4 rfl rfl (Nat.le_of_ble_eq_true rfl) ?_
    rintro _ _ ⟨rfl, rfl⟩
    refine X_iret 115 dX6_placeValue_115 rfl rfl ⟨_, rfl, _, rfl, ?_⟩
    refine ⟨?_, hR⟩
    rw [(RfP_get hR hx hy).1]
    exact sumN_congr fun k _ => by rw [rf_flo hR]
set_option maxHeartbeats 4000000 in
set_option maxRecDepth 100000 in
theorem e_X6_lampValue (c r lc la cn : Nat) (k w : Nat) (μ : Mm) (hI : CIv μ c r lc la cn) (hk : k < lc) (hw : w ≤ 11) : EvN ΛC mX6_lampValue [.ref 109, .int (nI k), .int (nI w)] μ (qI (fun v9 m => lvV μ lc c r k w = v9 ∧ RfP μ lc c r m)) := by
  refine EvN_ofQ (by decide +kernel) rfl (fun _ => rfl) (fun _ => Nat.le_of_ble_eq_true rfl) (ls := [(0, .ref 109), (1, .int (nI k)), (2, .int (nI w))]) ?_
  obtain ⟨hc, hr, hlc, hla, hcn, ⟨g1, g2, g3, g4, g5, g6, g7⟩, hv⟩ := hI
  have hcr := cr_le g2 g4
  have hk8 : k < 8 := by omega
  refine X_aload_n 0 0 dX6_lampValue_0 rfl rfl ?_
  refine X_getR (f := 1) 1 dX6_lampValue_1 lf_RX6_19 iw6 vc6 (by decide) lyL rfl ?_
  refine X_aload_n 4 0 dX6_lampValue_4 rfl rfl ?_
  refine X_getR (f := 0) 5 dX6_lampValue_5 lf_RX6_12 iw6 vc6 (by decide) lyL rfl ?_
  refine X_cVV 8 [.ref _] (e_X5_refresh lc c r _ hc hr hlc g5 g2 g4 hv) dX6_lampValue_8 lm_RX6_98 1 ⟨wm_X5_refresh, by decide +kernel, rfl, rfl⟩ rfl ⟨Nat.le_of_ble_eq_true rfl, Nat.le_of_ble_eq_true rfl⟩ lyV vc5 rfl rfl (Nat.le_of_ble_eq_true rfl) ?_
  rintro m hR0
  have hR : RfP μ lc c r m := hR0
  have hlcm : m 0 5 = nI lc := (rf_s hR 5 (by decide)).trans hlc
  have hmc : m 0 0 = nI c := (rf_s hR 0 (by decide)).trans hc
  have hmr : m 0 1 = nI r := (rf_s hR 1 (by decide)).trans hr
  have hN : m 93 5 = nI (c * r) := hR.1.1
  refine X_iload_n 11 2 dX6_lampValue_11 rfl rfl ?_
  rcases (show w = 0 ∨ w = 1 ∨ w = 2 ∨ w = 3 ∨ w = 4 ∨ w = 5 ∨ w = 6 ∨ w = 7 ∨ w = 8 ∨ w = 9 ∨ w = 10 ∨ w = 11 by omega) with rfl | rfl | rfl | rfl | rfl | rfl | rfl | rfl | rfl | rfl | rfl | rfl
  · refine X_tabIn (off := 60) 12 72 dX6_lampValue_12 (by decide) (by decide) (by decide +kernel) (by decide) ?_
    refine X_aload_n 72 0 dX6_lampValue_72 rfl rfl ?_
    refine X_getR (f := 0) 73 dX6_lampValue_73 lf_RX6_12 iw6 vc6 (by decide) lyL rfl ?_
    refine X_getR (f := 8) 76 dX6_lampValue_76 lf_RX6_267 iw4 vc4 (by decide) (lyS 0 (Or.inl rfl)) rfl ?_
    refine X_iload_n 79 1 dX6_lampValue_79 rfl rfl ?_
    refine X_cVI 80 [.int _] (e_X3_get ((0 + 2)) ((0 + 9)) 8 (rS_gr 0 (Or.inl rfl)) _ _) dX6_lampValue_80 lm_RX6_271 1 ⟨wm_X3_get, by decide +kernel, rfl, rfl⟩ rfl ⟨Nat.le_of_ble_eq_true rfl, Nat.le_of_ble_eq_true rfl⟩ (rS_gr 0 (Or.inl rfl)).1 vc3 rfl rfl (Nat.le_of_ble_eq_true rfl) ?_
    rintro _ _ ⟨rfl, rfl⟩
    rw [gt_nI (by omega) (by decide)]
    refine X_iret 83 dX6_lampValue_83 rfl rfl ⟨_, rfl, _, rfl, ?_⟩
    exact ⟨(rf_r hR 9 _ (by decide) (by decide)).symm, hR⟩
  · refine X_tabIn (off := 72) 12 84 dX6_lampValue_12 (by decide) (by decide) (by decide +kernel) (by decide) ?_
    refine X_aload_n 84 0 dX6_lampValue_84 rfl rfl ?_
    refine X_getR (f := 0) 85 dX6_lampValue_85 lf_RX6_12 iw6 vc6 (by decide) lyL rfl ?_
    refine X_getR (f := 9) 88 dX6_lampValue_88 lf_RX6_276 iw4 vc4 (by decide) (lyS 0 (Or.inl rfl)) rfl ?_
    refine X_iload_n 91 1 dX6_lampValue_91 rfl rfl ?_
    refine X_cVI 92 [.int _] (e_X3_get ((0 + 3)) ((0 + 10)) 8 (rS_le 0 (Or.inl rfl)) _ _) dX6_lampValue_92 lm_RX6_271 1 ⟨wm_X3_get, by decide +kernel, rfl, rfl⟩ rfl ⟨Nat.le_of_ble_eq_true rfl, Nat.le_of_ble_eq_true rfl⟩ (rS_le 0 (Or.inl rfl)).1 vc3 rfl rfl (Nat.le_of_ble_eq_true rfl) ?_
    rintro _ _ ⟨rfl, rfl⟩
    rw [gt_nI (by omega) (by decide)]
    refine X_iret 95 dX6_lampValue_95 rfl rfl ⟨_, rfl, _, rfl, ?_⟩
    exact ⟨(rf_r hR 10 _ (by decide) (by decide)).symm, hR⟩
  · refine X_tabIn (off := 84) 12 96 dX6_lampValue_12 (by decide) (by decide) (by decide +kernel) (by decide) ?_
    refine X_aload_n 96 0 dX6_lampValue_96 rfl rfl ?_
    refine X_getR (f := 0) 97 dX6_lampValue_97 lf_RX6_12 iw6 vc6 (by decide) lyL rfl ?_
    refine X_getR (f := 10) 100 dX6_lampValue_100 lf_RX6_279 iw4 vc4 (by decide) (lyS 0 (Or.inl rfl)) rfl ?_
    refine X_iload_n 103 1 dX6_lampValue_103 rfl rfl ?_
    refine X_cVI 104 [.int _] (e_X3_get ((0 + 4)) ((0 + 11)) 8 (rS_we 0 (Or.inl rfl)) _ _) dX6_lampValue_104 lm_RX6_271 1 ⟨wm_X3_get, by decide +kernel, rfl, rfl⟩ rfl ⟨Nat.le_of_ble_eq_true rfl, Nat.le_of_ble_eq_true rfl⟩ (rS_we 0 (Or.inl rfl)).1 vc3 rfl rfl (Nat.le_of_ble_eq_true rfl) ?_
    rintro _ _ ⟨rfl, rfl⟩
    rw [gt_nI (by omega) (by decide)]
    refine X_iret 107 dX6_lampValue_107 rfl rfl ⟨_, rfl, _, rfl, ?_⟩
    exact ⟨(rf_r hR 11 _ (by decide) (by decide)).symm, hR⟩
  · refine X_tabIn (off := 96) 12 108 dX6_lampValue_12 (by decide) (by decide) (by decide +kernel) (by decide) ?_
    refine X_aload_n 108 0 dX6_lampValue_108 rfl rfl ?_
    refine X_getR (f := 0) 109 dX6_lampValue_109 lf_RX6_12 iw6 vc6 (by decide) lyL rfl ?_
    refine X_iload_n 112 1 dX6_lampValue_112 rfl rfl ?_
    refine X_cVI 113 [.int _] (e_X4_isWorking 0 (Or.inl rfl) _ _ (by first | omega | assumption)) dX6_lampValue_113 lm_RX6_119 1 ⟨wm_X4_isWorking, by decide +kernel, rfl, rfl⟩ rfl ⟨Nat.le_of_ble_eq_true rfl, Nat.le_of_ble_eq_true rfl⟩ (lyS 0 (Or.inl rfl)) vc4 rfl rfl (Nat.le_of_ble_eq_true rfl) ?_
    rintro _ _ ⟨rfl, ⟨rfl, b_113⟩ | ⟨rfl, b_113⟩⟩
    · have hwk : wkB μ 0 k = true := by rw [show wkB m 0 k = wkB μ 0 k from congrArg (· == 1) (rf_r hR 12 _ (by decide) (by decide))] at b_113; exact b_113
      refine X_if_eq 116 123 dX6_lampValue_116 (by decide) (fun c_0 => by exact absurd c_0 (by decide)) (fun _ => ?_)
      refine X_iconst 119 (1) dX6_lampValue_119 (by decide) ?_
      refine X_goto 120 124 dX6_lampValue_120 (by decide) ?_
      refine X_iret 124 dX6_lampValue_124 rfl rfl ⟨_, rfl, _, rfl, ?_⟩
      first | exact ⟨if_pos hwk, hR⟩ | exact ⟨if_neg hwk, hR⟩
    · have hwk : ¬ wkB μ 0 k = true := by rw [show wkB m 0 k = wkB μ 0 k from congrArg (· == 1) (rf_r hR 12 _ (by decide) (by decide))] at b_113; exact b_113
      refine X_if_eq 116 123 dX6_lampValue_116 (by decide) (fun _ => ?_) (fun c_0 => by exact absurd c_0 (by decide))
      refine X_iconst 123 (0) dX6_lampValue_123 (by decide) ?_
      refine X_iret 124 dX6_lampValue_124 rfl rfl ⟨_, rfl, _, rfl, ?_⟩
      first | exact ⟨if_pos hwk, hR⟩ | exact ⟨if_neg hwk, hR⟩
  · refine X_tabIn (off := 113) 12 125 dX6_lampValue_12 (by decide) (by decide) (by decide +kernel) (by decide) ?_
    refine X_aload_n 125 0 dX6_lampValue_125 rfl rfl ?_
    refine X_getR (f := 0) 126 dX6_lampValue_126 lf_RX6_12 iw6 vc6 (by decide) lyL rfl ?_
    refine X_iload_n 129 1 dX6_lampValue_129 rfl rfl ?_
    refine X_cVI 130 [.int _] (e_X4_limitOf 0 (Or.inl rfl) _ _ (by first | omega | assumption)) dX6_lampValue_130 lm_RX6_282 1 ⟨wm_X4_limitOf, by decide +kernel, rfl, rfl⟩ rfl ⟨Nat.le_of_ble_eq_true rfl, Nat.le_of_ble_eq_true rfl⟩ (lyS 0 (Or.inl rfl)) vc4 rfl rfl (Nat.le_of_ble_eq_true rfl) ?_
    rintro _ _ ⟨rfl, rfl⟩
    refine X_iret 133 dX6_lampValue_133 rfl rfl ⟨_, rfl, _, rfl, ?_⟩
    exact ⟨(rf_lim hR).symm, hR⟩
  · refine X_tabIn (off := 122) 12 134 dX6_lampValue_12 (by decide) (by decide) (by decide +kernel) (by decide) ?_
    refine X_aload_n 134 0 dX6_lampValue_134 rfl rfl ?_
    refine X_getR (f := 0) 135 dX6_lampValue_135 lf_RX6_12 iw6 vc6 (by decide) lyL rfl ?_
    refine X_iload_n 138 1 dX6_lampValue_138 rfl rfl ?_
    refine X_cVI 139 [.int _] (e_X4_floorOf 0 (Or.inl rfl) _ _ (by first | omega | assumption)) dX6_lampValue_139 lm_RX6_285 1 ⟨wm_X4_floorOf, by decide +kernel, rfl, rfl⟩ rfl ⟨Nat.le_of_ble_eq_true rfl, Nat.le_of_ble_eq_true rfl⟩ (lyS 0 (Or.inl rfl)) vc4 rfl rfl (Nat.le_of_ble_eq_true rfl) ?_
    rintro _ _ ⟨rfl, rfl⟩
    refine X_iret 142 dX6_lampValue_142 rfl rfl ⟨_, rfl, _, rfl, ?_⟩
    exact ⟨(rf_flo hR).symm, hR⟩
  · refine X_tabIn (off := 131) 12 143 dX6_lampValue_12 (by decide) (by decide) (by decide +kernel) (by decide) ?_
    refine X_aload_n 143 0 dX6_lampValue_143 rfl rfl ?_
    refine X_getR (f := 0) 144 dX6_lampValue_144 lf_RX6_12 iw6 vc6 (by decide) lyL rfl ?_
    refine X_iload_n 147 1 dX6_lampValue_147 rfl rfl ?_
    refine X_cVI 148 [.int _] (e_X4_isGood 0 (Or.inl rfl) _ _ (by first | omega | assumption)) dX6_lampValue_148 lm_RX6_91 1 ⟨wm_X4_isGood, by decide +kernel, rfl, rfl⟩ rfl ⟨Nat.le_of_ble_eq_true rfl, Nat.le_of_ble_eq_true rfl⟩ (lyS 0 (Or.inl rfl)) vc4 rfl rfl (Nat.le_of_ble_eq_true rfl) ?_
    rintro _ _ ⟨rfl, ⟨rfl, b_148⟩ | ⟨rfl, b_148⟩⟩
    · rw [good_sc (scE_rf hR.2.2)] at b_148
      refine X_if_eq 151 158 dX6_lampValue_151 (by decide) (fun c_0 => by exact absurd c_0 (by decide)) (fun _ => ?_)
      refine X_iconst 154 (1) dX6_lampValue_154 (by decide) ?_
      refine X_goto 155 159 dX6_lampValue_155 (by decide) ?_
      refine X_iret 159 dX6_lampValue_159 rfl rfl ⟨_, rfl, _, rfl, ?_⟩
      first | exact ⟨if_pos b_148, hR⟩ | exact ⟨if_neg b_148, hR⟩
    · rw [good_sc (scE_rf hR.2.2)] at b_148
      refine X_if_eq 151 158 dX6_lampValue_151 (by decide) (fun _ => ?_) (fun c_0 => by exact absurd c_0 (by decide))
      refine X_iconst 158 (0) dX6_lampValue_158 (by decide) ?_
      refine X_iret 159 dX6_lampValue_159 rfl rfl ⟨_, rfl, _, rfl, ?_⟩
      first | exact ⟨if_pos b_148, hR⟩ | exact ⟨if_neg b_148, hR⟩
  · refine X_tabIn (off := 148) 12 160 dX6_lampValue_12 (by decide) (by decide) (by decide +kernel) (by decide) ?_
    refine X_aload_n 160 0 dX6_lampValue_160 rfl rfl ?_
    refine X_getR (f := 1) 161 dX6_lampValue_161 lf_RX6_19 iw6 vc6 (by decide) lyL rfl ?_
    refine X_iload_n 164 1 dX6_lampValue_164 rfl rfl ?_
    refine X_cVI 165 [.int _] (e_X5_placesOf k (c * r) _ hN hcr hk8) dX6_lampValue_165 lm_RX6_101 1 ⟨wm_X5_placesOf, by decide +kernel, rfl, rfl⟩ rfl ⟨Nat.le_of_ble_eq_true rfl, Nat.le_of_ble_eq_true rfl⟩ lyV vc5 rfl rfl (Nat.le_of_ble_eq_true rfl) ?_
    rintro _ _ ⟨rfl, rfl⟩
    refine X_iret 168 dX6_lampValue_168 rfl rfl ⟨_, rfl, _, rfl, ?_⟩
    exact ⟨(plc_J hR).symm, hR⟩
  · refine X_tabIn (off := 157) 12 169 dX6_lampValue_12 (by decide) (by decide) (by decide +kernel) (by decide) ?_
    refine X_aload_n 169 0 dX6_lampValue_169 rfl rfl ?_
    refine X_getR (f := 1) 170 dX6_lampValue_170 lf_RX6_19 iw6 vc6 (by decide) lyL rfl ?_
    refine X_iload_n 173 1 dX6_lampValue_173 rfl rfl ?_
    refine X_cVI 174 [.int _] (e_X5_sumOfLights k (c * r) _ hN hcr hk8) dX6_lampValue_174 lm_RX6_288 1 ⟨wm_X5_sumOfLights, by decide +kernel, rfl, rfl⟩ rfl ⟨Nat.le_of_ble_eq_true rfl, Nat.le_of_ble_eq_true rfl⟩ lyV vc5 rfl rfl (Nat.le_of_ble_eq_true rfl) ?_
    rintro _ _ ⟨rfl, rfl⟩
    refine X_iret 177 dX6_lampValue_177 rfl rfl ⟨_, rfl, _, rfl, ?_⟩
    exact ⟨(sl_J hR hk8).symm, hR⟩
  · refine X_tabIn (off := 166) 12 178 dX6_lampValue_12 (by decide) (by decide) (by decide +kernel) (by decide) ?_
    refine X_aload_n 178 0 dX6_lampValue_178 rfl rfl ?_
    refine X_getR (f := 1) 179 dX6_lampValue_179 lf_RX6_19 iw6 vc6 (by decide) lyL rfl ?_
    refine X_iload_n 182 1 dX6_lampValue_182 rfl rfl ?_
    refine X_aload_n 183 0 dX6_lampValue_183 rfl rfl ?_
    refine X_getR (f := 0) 184 dX6_lampValue_184 lf_RX6_12 iw6 vc6 (by decide) lyL rfl ?_
    refine X_iload_n 187 1 dX6_lampValue_187 rfl rfl ?_
    refine X_cVI 188 [.int _] (e_X4_limitOf 0 (Or.inl rfl) _ _ (by first | omega | assumption)) dX6_lampValue_188 lm_RX6_282 1 ⟨wm_X4_limitOf, by decide +kernel, rfl, rfl⟩ rfl ⟨Nat.le_of_ble_eq_true rfl, Nat.le_of_ble_eq_true rfl⟩ (lyS 0 (Or.inl rfl)) vc4 rfl rfl (Nat.le_of_ble_eq_true rfl) ?_
    rintro _ _ ⟨rfl, rfl⟩
    refine X_cVI 191 [.int _, .int _] (e_X5_loadOf k (c * r) _ _ hN hcr hk8) dX6_lampValue_191 lm_RX6_291 2 ⟨wm_X5_loadOf, by decide +kernel, rfl, rfl⟩ rfl ⟨Nat.le_of_ble_eq_true rfl, Nat.le_of_ble_eq_true rfl⟩ lyV vc5 rfl rfl (Nat.le_of_ble_eq_true rfl) ?_
    rintro _ _ ⟨rfl, rfl⟩
    refine X_iret 194 dX6_lampValue_194 rfl rfl ⟨_, rfl, _, rfl, ?_⟩
    exact ⟨(ld_J hR hk8).symm, hR⟩
  · refine X_tabIn (off := 183) 12 195 dX6_lampValue_12 (by decide) (by decide) (by decide +kernel) (by decide) ?_
    refine X_aload_n 195 0 dX6_lampValue_195 rfl rfl ?_
    refine X_getR (f := 1) 196 dX6_lampValue_196 lf_RX6_19 iw6 vc6 (by decide) lyL rfl ?_
    refine X_iload_n 199 1 dX6_lampValue_199 rfl rfl ?_
    refine X_cVI 200 [.int _] (e_X5_greatestLightOf k (c * r) _ hN hcr hk8) dX6_lampValue_200 lm_RX6_294 1 ⟨wm_X5_greatestLightOf, by decide +kernel, rfl, rfl⟩ rfl ⟨Nat.le_of_ble_eq_true rfl, Nat.le_of_ble_eq_true rfl⟩ lyV vc5 rfl rfl (Nat.le_of_ble_eq_true rfl) ?_
    rintro _ _ ⟨rfl, rfl⟩
    refine X_iret 203 dX6_lampValue_203 rfl rfl ⟨_, rfl, _, rfl, ?_⟩
    exact ⟨(mxl_J hR hk8 (Nat.le_refl _)).symm, hR⟩
  · refine X_tabOut 12 204 dX6_lampValue_12 (by decide) (by decide) ?_
    refine X_aload_n 204 0 dX6_lampValue_204 rfl rfl ?_
    refine X_getR (f := 1) 205 dX6_lampValue_205 lf_RX6_19 iw6 vc6 (by decide) lyL rfl ?_
    refine X_iload_n 208 1 dX6_lampValue_208 rfl rfl ?_
    refine X_cVI 209 [.int _] (e_X5_placesOnlyOf k (c * r) _ hN hcr hk8) dX6_lampValue_209 lm_RX6_297 1 ⟨wm_X5_placesOnlyOf, by decide +kernel, rfl, rfl⟩ rfl ⟨Nat.le_of_ble_eq_true rfl, Nat.le_of_ble_eq_true rfl⟩ lyV vc5 rfl rfl (Nat.le_of_ble_eq_true rfl) ?_
    rintro _ _ ⟨rfl, rfl⟩
    refine X_iret 212 dX6_lampValue_212 rfl rfl ⟨_, rfl, _, rfl, ?_⟩
    exact ⟨(onl_J hR).symm, hR⟩
set_option maxHeartbeats 4000000 in
set_option maxRecDepth 100000 in
theorem e_X6_wholeValue (c r lc la cn : Nat) (w : Nat) (μ : Mm) (hI : CIv μ c r lc la cn) (hw : w ≤ 14) : EvN ΛC mX6_wholeValue [.ref 109, .int (nI w)] μ (qI (fun v9 m => whV μ lc c r (μ 102 2) w = v9 ∧ RfP μ lc c r m)) := by
  refine EvN_ofQ (by decide +kernel) rfl (fun _ => rfl) (fun _ => Nat.le_of_ble_eq_true rfl) (ls := [(0, .ref 109), (1, .int (nI w))]) ?_
  obtain ⟨hc, hr, hlc, hla, hcn, ⟨g1, g2, g3, g4, g5, g6, g7⟩, hv⟩ := hI
  have hcr := cr_le g2 g4
  refine X_aload_n 0 0 dX6_wholeValue_0 rfl rfl ?_
  refine X_getR (f := 1) 1 dX6_wholeValue_1 lf_RX6_19 iw6 vc6 (by decide) lyL rfl ?_
  refine X_aload_n 4 0 dX6_wholeValue_4 rfl rfl ?_
  refine X_getR (f := 0) 5 dX6_wholeValue_5 lf_RX6_12 iw6 vc6 (by decide) lyL rfl ?_
  refine X_cVV 8 [.ref _] (e_X5_refresh lc c r _ hc hr hlc g5 g2 g4 hv) dX6_wholeValue_8 lm_RX6_98 1 ⟨wm_X5_refresh, by decide +kernel, rfl, rfl⟩ rfl ⟨Nat.le_of_ble_eq_true rfl, Nat.le_of_ble_eq_true rfl⟩ lyV vc5 rfl rfl (Nat.le_of_ble_eq_true rfl) ?_
  rintro m hR0
  have hR : RfP μ lc c r m := hR0
  have hlcm : m 0 5 = nI lc := (rf_s hR 5 (by decide)).trans hlc
  have hmc : m 0 0 = nI c := (rf_s hR 0 (by decide)).trans hc
  have hmr : m 0 1 = nI r := (rf_s hR 1 (by decide)).trans hr
  have hN : m 93 5 = nI (c * r) := hR.1.1
  refine X_iload_n 11 1 dX6_wholeValue_11 rfl rfl ?_
  rcases (show w = 0 ∨ w = 1 ∨ w = 2 ∨ w = 3 ∨ w = 4 ∨ w = 5 ∨ w = 6 ∨ w = 7 ∨ w = 8 ∨ w = 9 ∨ w = 10 ∨ w = 11 ∨ w = 12 ∨ w = 13 ∨ w = 14 by omega) with rfl | rfl | rfl | rfl | rfl | rfl | rfl | rfl | rfl | rfl | rfl | rfl | rfl | rfl | rfl
  · refine X_tabIn (off := 72) 12 84 dX6_wholeValue_12 (by decide) (by decide) (by decide +kernel) (by decide) ?_
    refine X_aload_n 84 0 dX6_wholeValue_84 rfl rfl ?_
    refine X_getR (f := 0) 85 dX6_wholeValue_85 lf_RX6_12 iw6 vc6 (by decide) lyL rfl ?_
    refine X_getI (f := 0) 88 dX6_wholeValue_88 lf_RX6_189 iw4 vc4 (by decide) (lyS 0 (Or.inl rfl)) rfl ?_
    refine X_iret 91 dX6_wholeValue_91 rfl rfl ⟨_, rfl, _, rfl, ?_⟩
    exact ⟨(rf_s hR 0 (by decide)).symm, hR⟩
  · refine X_tabIn (off := 80) 12 92 dX6_wholeValue_12 (by decide) (by decide) (by decide +kernel) (by decide) ?_
    refine X_aload_n 92 0 dX6_wholeValue_92 rfl rfl ?_
    refine X_getR (f := 0) 93 dX6_wholeValue_93 lf_RX6_12 iw6 vc6 (by decide) lyL rfl ?_
    refine X_getI (f := 1) 96 dX6_wholeValue_96 lf_RX6_186 iw4 vc4 (by decide) (lyS 0 (Or.inl rfl)) rfl ?_
    refine X_iret 99 dX6_wholeValue_99 rfl rfl ⟨_, rfl, _, rfl, ?_⟩
    exact ⟨(rf_s hR 1 (by decide)).symm, hR⟩
  · refine X_tabIn (off := 88) 12 100 dX6_wholeValue_12 (by decide) (by decide) (by decide +kernel) (by decide) ?_
    refine X_aload_n 100 0 dX6_wholeValue_100 rfl rfl ?_
    refine X_getR (f := 0) 101 dX6_wholeValue_101 lf_RX6_12 iw6 vc6 (by decide) lyL rfl ?_
    refine X_getI (f := 2) 104 dX6_wholeValue_104 lf_RX6_163 iw4 vc4 (by decide) (lyS 0 (Or.inl rfl)) rfl ?_
    refine X_iret 107 dX6_wholeValue_107 rfl rfl ⟨_, rfl, _, rfl, ?_⟩
    exact ⟨(rf_s hR 2 (by decide)).symm, hR⟩
  · refine X_tabIn (off := 96) 12 108 dX6_wholeValue_12 (by decide) (by decide) (by decide +kernel) (by decide) ?_
    refine X_aload_n 108 0 dX6_wholeValue_108 rfl rfl ?_
    refine X_getR (f := 0) 109 dX6_wholeValue_109 lf_RX6_12 iw6 vc6 (by decide) lyL rfl ?_
    refine X_getI (f := 3) 112 dX6_wholeValue_112 lf_RX6_170 iw4 vc4 (by decide) (lyS 0 (Or.inl rfl)) rfl ?_
    refine X_iret 115 dX6_wholeValue_115 rfl rfl ⟨_, rfl, _, rfl, ?_⟩
    exact ⟨(rf_s hR 3 (by decide)).symm, hR⟩
  · refine X_tabIn (off := 104) 12 116 dX6_wholeValue_12 (by decide) (by decide) (by decide +kernel) (by decide) ?_
    refine X_aload_n 116 0 dX6_wholeValue_116 rfl rfl ?_
    refine X_getR (f := 0) 117 dX6_wholeValue_117 lf_RX6_12 iw6 vc6 (by decide) lyL rfl ?_
    refine X_getI (f := 5) 120 dX6_wholeValue_120 lf_RX6_198 iw4 vc4 (by decide) (lyS 0 (Or.inl rfl)) rfl ?_
    refine X_iret 123 dX6_wholeValue_123 rfl rfl ⟨_, rfl, _, rfl, ?_⟩
    exact ⟨(rf_s hR 5 (by decide)).symm, hR⟩
  · refine X_tabIn (off := 112) 12 124 dX6_wholeValue_12 (by decide) (by decide) (by decide +kernel) (by decide) ?_
    refine X_aload_n 124 0 dX6_wholeValue_124 rfl rfl ?_
    refine X_getR (f := 0) 125 dX6_wholeValue_125 lf_RX6_12 iw6 vc6 (by decide) lyL rfl ?_
    refine X_cVI 128 [] (e_X4_workingLamps 0 (Or.inl rfl) lc _ hlcm g5) dX6_wholeValue_128 lm_RX6_300 0 ⟨wm_X4_workingLamps, by decide +kernel, rfl, rfl⟩ rfl ⟨Nat.le_of_ble_eq_true rfl, Nat.le_of_ble_eq_true rfl⟩ (lyS 0 (Or.inl rfl)) vc4 rfl rfl (Nat.le_of_ble_eq_true rfl) ?_
    rintro _ _ ⟨rfl, rfl⟩
    refine X_iret 131 dX6_wholeValue_131 rfl rfl ⟨_, rfl, _, rfl, ?_⟩
    refine ⟨?_, hR⟩
    exact sumN_congr fun k _ => (rf_r hR 12 k (by decide) (by decide)).symm
  · refine X_tabIn (off := 120) 12 132 dX6_wholeValue_12 (by decide) (by decide) (by decide +kernel) (by decide) ?_
    refine X_aload_n 132 0 dX6_wholeValue_132 rfl rfl ?_
    refine X_getR (f := 1) 133 dX6_wholeValue_133 lf_RX6_19 iw6 vc6 (by decide) lyL rfl ?_
    refine X_iload_n 136 1 dX6_wholeValue_136 rfl rfl ?_
    refine X_bipush 137 (6) dX6_wholeValue_137 (by decide) ?_
    refine X_isub 139 dX6_wholeValue_139 ?_
    refine X_cVI 140 [.int _] (e_X5_placesInState _ (c * r) _ hN hcr) dX6_wholeValue_140 lm_RX6_303 1 ⟨wm_X5_placesInState, by decide +kernel, rfl, rfl⟩ rfl ⟨Nat.le_of_ble_eq_true rfl, Nat.le_of_ble_eq_true rfl⟩ lyV vc5 rfl rfl (Nat.le_of_ble_eq_true rfl) ?_
    rintro _ _ ⟨rfl, rfl⟩
    refine X_iret 143 dX6_wholeValue_143 rfl rfl ⟨_, rfl, _, rfl, ?_⟩
    exact ⟨(pst_J hR).symm, hR⟩
  · refine X_tabIn (off := 120) 12 132 dX6_wholeValue_12 (by decide) (by decide) (by decide +kernel) (by decide) ?_
    refine X_aload_n 132 0 dX6_wholeValue_132 rfl rfl ?_
    refine X_getR (f := 1) 133 dX6_wholeValue_133 lf_RX6_19 iw6 vc6 (by decide) lyL rfl ?_
    refine X_iload_n 136 1 dX6_wholeValue_136 rfl rfl ?_
    refine X_bipush 137 (6) dX6_wholeValue_137 (by decide) ?_
    refine X_isub 139 dX6_wholeValue_139 ?_
    refine X_cVI 140 [.int _] (e_X5_placesInState _ (c * r) _ hN hcr) dX6_wholeValue_140 lm_RX6_303 1 ⟨wm_X5_placesInState, by decide +kernel, rfl, rfl⟩ rfl ⟨Nat.le_of_ble_eq_true rfl, Nat.le_of_ble_eq_true rfl⟩ lyV vc5 rfl rfl (Nat.le_of_ble_eq_true rfl) ?_
    rintro _ _ ⟨rfl, rfl⟩
    refine X_iret 143 dX6_wholeValue_143 rfl rfl ⟨_, rfl, _, rfl, ?_⟩
    exact ⟨(pst_J hR).symm, hR⟩
  · refine X_tabIn (off := 120) 12 132 dX6_wholeValue_12 (by decide) (by decide) (by decide +kernel) (by decide) ?_
    refine X_aload_n 132 0 dX6_wholeValue_132 rfl rfl ?_
    refine X_getR (f := 1) 133 dX6_wholeValue_133 lf_RX6_19 iw6 vc6 (by decide) lyL rfl ?_
    refine X_iload_n 136 1 dX6_wholeValue_136 rfl rfl ?_
    refine X_bipush 137 (6) dX6_wholeValue_137 (by decide) ?_
    refine X_isub 139 dX6_wholeValue_139 ?_
    refine X_cVI 140 [.int _] (e_X5_placesInState _ (c * r) _ hN hcr) dX6_wholeValue_140 lm_RX6_303 1 ⟨wm_X5_placesInState, by decide +kernel, rfl, rfl⟩ rfl ⟨Nat.le_of_ble_eq_true rfl, Nat.le_of_ble_eq_true rfl⟩ lyV vc5 rfl rfl (Nat.le_of_ble_eq_true rfl) ?_
    rintro _ _ ⟨rfl, rfl⟩
    refine X_iret 143 dX6_wholeValue_143 rfl rfl ⟨_, rfl, _, rfl, ?_⟩
    exact ⟨(pst_J hR).symm, hR⟩
  · refine X_tabIn (off := 120) 12 132 dX6_wholeValue_12 (by decide) (by decide) (by decide +kernel) (by decide) ?_
    refine X_aload_n 132 0 dX6_wholeValue_132 rfl rfl ?_
    refine X_getR (f := 1) 133 dX6_wholeValue_133 lf_RX6_19 iw6 vc6 (by decide) lyL rfl ?_
    refine X_iload_n 136 1 dX6_wholeValue_136 rfl rfl ?_
    refine X_bipush 137 (6) dX6_wholeValue_137 (by decide) ?_
    refine X_isub 139 dX6_wholeValue_139 ?_
    refine X_cVI 140 [.int _] (e_X5_placesInState _ (c * r) _ hN hcr) dX6_wholeValue_140 lm_RX6_303 1 ⟨wm_X5_placesInState, by decide +kernel, rfl, rfl⟩ rfl ⟨Nat.le_of_ble_eq_true rfl, Nat.le_of_ble_eq_true rfl⟩ lyV vc5 rfl rfl (Nat.le_of_ble_eq_true rfl) ?_
    rintro _ _ ⟨rfl, rfl⟩
    refine X_iret 143 dX6_wholeValue_143 rfl rfl ⟨_, rfl, _, rfl, ?_⟩
    exact ⟨(pst_J hR).symm, hR⟩
  · refine X_tabIn (off := 132) 12 144 dX6_wholeValue_12 (by decide) (by decide) (by decide +kernel) (by decide) ?_
    refine X_aload_n 144 0 dX6_wholeValue_144 rfl rfl ?_
    refine X_getR (f := 0) 145 dX6_wholeValue_145 lf_RX6_12 iw6 vc6 (by decide) lyL rfl ?_
    refine X_cVI 148 [] (e_X4_sumOfTargets 0 (Or.inl rfl) c r _ hmc hmr hcr) dX6_wholeValue_148 lm_RX6_306 0 ⟨wm_X4_sumOfTargets, by decide +kernel, rfl, rfl⟩ rfl ⟨Nat.le_of_ble_eq_true rfl, Nat.le_of_ble_eq_true rfl⟩ (lyS 0 (Or.inl rfl)) vc4 rfl rfl (Nat.le_of_ble_eq_true rfl) ?_
    rintro _ _ ⟨rfl, rfl⟩
    refine X_iret 151 dX6_wholeValue_151 rfl rfl ⟨_, rfl, _, rfl, ?_⟩
    refine ⟨?_, hR⟩
    exact sumN_congr fun j _ => (rf_r hR 8 j (by decide) (by decide)).symm
  · refine X_tabIn (off := 140) 12 152 dX6_wholeValue_12 (by decide) (by decide) (by decide +kernel) (by decide) ?_
    refine X_aload_n 152 0 dX6_wholeValue_152 rfl rfl ?_
    refine X_getR (f := 1) 153 dX6_wholeValue_153 lf_RX6_19 iw6 vc6 (by decide) lyL rfl ?_
    refine X_cVI 156 [] (e_X5_sumOfBrightness (c * r) _ hN hcr) dX6_wholeValue_156 lm_RX6_309 0 ⟨wm_X5_sumOfBrightness, by decide +kernel, rfl, rfl⟩ rfl ⟨Nat.le_of_ble_eq_true rfl, Nat.le_of_ble_eq_true rfl⟩ lyV vc5 rfl rfl (Nat.le_of_ble_eq_true rfl) ?_
    rintro _ _ ⟨rfl, rfl⟩
    refine X_iret 159 dX6_wholeValue_159 rfl rfl ⟨_, rfl, _, rfl, ?_⟩
    exact ⟨(sb_J hR).symm, hR⟩
  · refine X_tabIn (off := 148) 12 160 dX6_wholeValue_12 (by decide) (by decide) (by decide +kernel) (by decide) ?_
    refine X_aload_n 160 0 dX6_wholeValue_160 rfl rfl ?_
    refine X_getR (f := 0) 161 dX6_wholeValue_161 lf_RX6_12 iw6 vc6 (by decide) lyL rfl ?_
    refine X_getI (f := 4) 164 dX6_wholeValue_164 lf_RX6_312 iw4 vc4 (by decide) (lyS 0 (Or.inl rfl)) rfl ?_
    refine X_iret 167 dX6_wholeValue_167 rfl rfl ⟨_, rfl, _, rfl, ?_⟩
    exact ⟨(rf_s hR 4 (by decide)).symm, hR⟩
  · refine X_tabIn (off := 156) 12 168 dX6_wholeValue_12 (by decide) (by decide) (by decide +kernel) (by decide) ?_
    refine X_aload_n 168 0 dX6_wholeValue_168 rfl rfl ?_
    refine X_getR (f := 1) 169 dX6_wholeValue_169 lf_RX6_19 iw6 vc6 (by decide) lyL rfl ?_
    refine X_cVI 172 [] (e_X5_placesOfSeveral (c * r) _ hN hcr) dX6_wholeValue_172 lm_RX6_315 0 ⟨wm_X5_placesOfSeveral, by decide +kernel, rfl, rfl⟩ rfl ⟨Nat.le_of_ble_eq_true rfl, Nat.le_of_ble_eq_true rfl⟩ lyV vc5 rfl rfl (Nat.le_of_ble_eq_true rfl) ?_
    rintro _ _ ⟨rfl, rfl⟩
    refine X_iret 175 dX6_wholeValue_175 rfl rfl ⟨_, rfl, _, rfl, ?_⟩
    exact ⟨(sev_J hR).symm, hR⟩
  · refine X_tabOut 12 176 dX6_wholeValue_12 (by decide) (by decide) ?_
    refine X_aload_n 176 0 dX6_wholeValue_176 rfl rfl ?_
    refine X_getR (f := 4) 177 dX6_wholeValue_177 lf_RX6_40 iw6 vc6 (by decide) lyL rfl ?_
    refine X_getI (f := 2) 180 dX6_wholeValue_180 lf_RX6_219 iw0 vc0 (by decide) lyC rfl ?_
    refine X_iret 183 dX6_wholeValue_183 rfl rfl ⟨_, rfl, _, rfl, ?_⟩
    exact ⟨(hR.2.2 102 2 (by omega) (by omega) (by omega) (by omega)).symm, hR⟩
set_option maxHeartbeats 4000000 in
set_option maxRecDepth 100000 in
theorem e_X6_wrongIfFailed (c r lc la cn : Nat) (k : Nat) (μ : Mm) (hI : CIv μ c r lc la cn) : EvN ΛC mX6_wrongIfFailed [.ref 109, .int (nI k)] μ (qI (fun v9 m => wrgV μ lc c k r = v9 ∧ sameOut 84 93 μ m)) := by
  refine EvN_ofQ (by decide +kernel) rfl (fun _ => rfl) (fun _ => Nat.le_of_ble_eq_true rfl) (ls := [(0, .ref 109), (1, .int (nI k))]) ?_
  obtain ⟨hc, hr, hlc, hla, hcn, ⟨g1, g2, g3, g4, g5, g6, g7⟩, hv⟩ := hI
  have hcr := cr_le g2 g4
  refine X_aload_n 0 0 dX6_wrongIfFailed_0 rfl rfl ?_
  refine X_getR (f := 0) 1 dX6_wrongIfFailed_1 lf_RX6_12 iw6 vc6 (by decide) lyL rfl ?_
  refine X_cVI 4 [] (e_X4_shiningLamps 0 (Or.inl rfl) lc _ hlc g5) dX6_wrongIfFailed_4 lm_RX6_201 0 ⟨wm_X4_shiningLamps, by decide +kernel, rfl, rfl⟩ rfl ⟨Nat.le_of_ble_eq_true rfl, Nat.le_of_ble_eq_true rfl⟩ (lyS 0 (Or.inl rfl)) vc4 rfl rfl (Nat.le_of_ble_eq_true rfl) ?_
  rintro _ _ ⟨rfl, rfl⟩
  refine X_iconst 7 (1) dX6_wrongIfFailed_7 (by decide) ?_
  refine X_iload_n 8 1 dX6_wrongIfFailed_8 rfl rfl ?_
  refine X_ishl 9 dX6_wrongIfFailed_9 ?_
  refine X_iconst 10 (-1) dX6_wrongIfFailed_10 (by decide) ?_
  refine X_ixor 11 dX6_wrongIfFailed_11 ?_
  refine X_iand 12 dX6_wrongIfFailed_12 ?_
  refine X_istore_n 13 [(2, .int _), (0, .ref _), (1, .int _)] dX6_wrongIfFailed_13 rfl (by decide) rfl ?_
  refine X_aload_n 14 1 dX6_wrongIfFailed_14 rfl rfl ?_
  refine X_getR (f := 2) 15 dX6_wrongIfFailed_15 lf_RX6_26 iw6 vc6 (by decide) lyL rfl ?_
  refine X_aload_n 18 1 dX6_wrongIfFailed_18 rfl rfl ?_
  refine X_getR (f := 0) 19 dX6_wrongIfFailed_19 lf_RX6_12 iw6 vc6 (by decide) lyL rfl ?_
  refine X_iload_n 22 0 dX6_wrongIfFailed_22 rfl rfl ?_
  refine X_aload_n 23 1 dX6_wrongIfFailed_23 rfl rfl ?_
  refine X_getR (f := 0) 24 dX6_wrongIfFailed_24 lf_RX6_12 iw6 vc6 (by decide) lyL rfl ?_
  refine X_getI (f := 2) 27 dX6_wrongIfFailed_27 lf_RX6_163 iw4 vc4 (by decide) (lyS 0 (Or.inl rfl)) rfl ?_
  refine X_aload_n 30 1 dX6_wrongIfFailed_30 rfl rfl ?_
  refine X_getR (f := 0) 31 dX6_wrongIfFailed_31 lf_RX6_12 iw6 vc6 (by decide) lyL rfl ?_
  refine X_getI (f := 3) 34 dX6_wrongIfFailed_34 lf_RX6_170 iw4 vc4 (by decide) (lyS 0 (Or.inl rfl)) rfl ?_
  refine X_cVI 37 [.ref _, .int _, .int _, .int _] (e_X1_countWrong 84 (Or.inr rfl) 0 (Or.inl rfl) _ _ _ c r _ hc hr g2 g4) dX6_wrongIfFailed_37 lm_RX6_204 4 ⟨wm_X1_countWrong, by decide +kernel, rfl, rfl⟩ rfl ⟨Nat.le_of_ble_eq_true rfl, Nat.le_of_ble_eq_true rfl⟩ (lyD 84 (Or.inr rfl)) vc1 rfl rfl (Nat.le_of_ble_eq_true rfl) ?_
  rintro _ m ⟨rfl, hso⟩
  refine X_iret 40 dX6_wrongIfFailed_40 rfl rfl ⟨_, rfl, _, rfl, ?_⟩
  exact ⟨rfl, hso⟩
set_option maxHeartbeats 4000000 in
set_option maxRecDepth 100000 in
theorem e_X6_burnHours (c r lc la cn : Nat) (h : Int32) (μ : Mm) (hI : CIv μ c r lc la cn) : EvN ΛC mX6_burnHours [.ref 109, .int h] μ (qV (fun μ' => ∃ m, RfP μ lc c r m ∧ burnM m (ldJ μ lc c r) h lc = μ')) := by
  refine EvN_ofQ (by decide +kernel) rfl (fun _ => rfl) (fun _ => Nat.le_of_ble_eq_true rfl) (ls := [(0, .ref 109), (1, .int h)]) ?_
  obtain ⟨hc, hr, hlc, hla, hcn, ⟨g1, g2, g3, g4, g5, g6, g7⟩, hv⟩ := hI
  have hcr := cr_le g2 g4
  refine X_aload_n 0 0 dX6_burnHours_0 rfl rfl ?_
  refine X_getR (f := 1) 1 dX6_burnHours_1 lf_RX6_19 iw6 vc6 (by decide) lyL rfl ?_
  refine X_aload_n 4 0 dX6_burnHours_4 rfl rfl ?_
  refine X_getR (f := 0) 5 dX6_burnHours_5 lf_RX6_12 iw6 vc6 (by decide) lyL rfl ?_
  refine X_cVV 8 [.ref _] (e_X5_refresh lc c r _ hc hr hlc g5 g2 g4 hv) dX6_burnHours_8 lm_RX6_98 1 ⟨wm_X5_refresh, by decide +kernel, rfl, rfl⟩ rfl ⟨Nat.le_of_ble_eq_true rfl, Nat.le_of_ble_eq_true rfl⟩ lyV vc5 rfl rfl (Nat.le_of_ble_eq_true rfl) ?_
  rintro m hR0
  have hR : RfP μ lc c r m := hR0
  have hlcm : m 0 5 = nI lc := (rf_s hR 5 (by decide)).trans hlc
  have hmc : m 0 0 = nI c := (rf_s hR 0 (by decide)).trans hc
  have hmr : m 0 1 = nI r := (rf_s hR 1 (by decide)).trans hr
  have hN : m 93 5 = nI (c * r) := hR.1.1
  refine X_iconst 11 (0) dX6_burnHours_11 (by decide) ?_
  refine X_istore_n 12 [(2, .int _), (0, .ref _), (1, .int _)] dX6_burnHours_12 rfl (by decide) rfl ?_
  refine X_sub [1, 2, 0] [(0, .ref _), (1, .int _), (2, .int _)] rfl ?_
  have L_13 : ∀ (kf : Nat) (i : Nat), i ≤ lc → lc < i + kf → ∀ (x13_2 : Int32) (μ13 : Mm), nI i = x13_2 → brnM m (ldJ μ lc c r) h i = μ13 → X false ΛC mX6_burnHours (QN (qV (fun μ' => ∃ m, RfP μ lc c r m ∧ burnM m (ldJ μ lc c r) h lc = μ'))) 13 [(0, .ref 109), (1, .int h), (2, .int x13_2)] [] μ13 := by
    intro kf
    induction kf with
    | zero => intro i hp13_0 hp13_1; exfalso; omega
    | succ kf ih_13 =>
      intro i hp13_0 hp13_1 x13_2 μ13
      rintro rfl rfl
      have hlb : brnM m (ldJ μ lc c r) h i 0 5 = nI lc := (brnM_out (by omega) i (by omega)).trans hlcm
      refine X_iload_n 13 2 dX6_burnHours_13 rfl rfl ?_
      refine X_aload_n 14 0 dX6_burnHours_14 rfl rfl ?_
      refine X_getR (f := 0) 15 dX6_burnHours_15 lf_RX6_12 iw6 vc6 (by decide) lyL rfl ?_
      refine X_getI (f := 5) 18 dX6_burnHours_18 lf_RX6_198 iw4 vc4 (by decide) (lyS 0 (Or.inl rfl)) rfl ?_
      refine X_icmp_ge 21 70 dX6_burnHours_21 (by decide) (fun c_21 => ?_) (fun c_21 => ?_)
      · have hge : lc ≤ i := c_ge hlb (by omega) (by omega) c_21
        have hie : lc = i := by omega
        subst hie
        refine X_aload_n 70 0 dX6_burnHours_70 rfl rfl ?_
        refine X_getR (f := 0) 71 dX6_burnHours_71 lf_RX6_12 iw6 vc6 (by decide) lyL rfl ?_
        refine X_iload_n 74 1 dX6_burnHours_74 rfl rfl ?_
        refine X_cVV 75 [.int _] (e_X4_countHours 0 (Or.inl rfl) _ _) dX6_burnHours_75 lm_RX6_321 1 ⟨wm_X4_countHours, by decide +kernel, rfl, rfl⟩ rfl ⟨Nat.le_of_ble_eq_true rfl, Nat.le_of_ble_eq_true rfl⟩ (lyS 0 (Or.inl rfl)) vc4 rfl rfl (Nat.le_of_ble_eq_true rfl) ?_
        rintro _ rfl
        refine X_vret 78 dX6_burnHours_78 rfl ⟨_, rfl, rfl, ?_⟩
        exact ⟨m, hR, rfl⟩
      · have hlt : i < lc := c_lt hlb (by omega) (by omega) c_21
        refine X_aload_n 24 0 dX6_burnHours_24 rfl rfl ?_
        refine X_getR (f := 0) 25 dX6_burnHours_25 lf_RX6_12 iw6 vc6 (by decide) lyL rfl ?_
        refine X_iload_n 28 2 dX6_burnHours_28 rfl rfl ?_
        refine X_cVI 29 [.int _] (e_X4_isWorking 0 (Or.inl rfl) _ _ (by first | omega | assumption)) dX6_burnHours_29 lm_RX6_119 1 ⟨wm_X4_isWorking, by decide +kernel, rfl, rfl⟩ rfl ⟨Nat.le_of_ble_eq_true rfl, Nat.le_of_ble_eq_true rfl⟩ (lyS 0 (Or.inl rfl)) vc4 rfl rfl (Nat.le_of_ble_eq_true rfl) ?_
        rintro _ _ ⟨rfl, ⟨rfl, b_29⟩ | ⟨rfl, b_29⟩⟩
        · rw [show wkB (brnM m (ldJ μ lc c r) h i) 0 i = wkB m 0 i from congrArg (· == 1) (brnM_out (by omega) i (by omega))] at b_29
          refine X_if_eq 32 64 dX6_burnHours_32 (by decide) (fun c_0 => by exact absurd c_0 (by decide)) (fun _ => ?_)
          refine X_aload_n 35 0 dX6_burnHours_35 rfl rfl ?_
          refine X_getR (f := 0) 36 dX6_burnHours_36 lf_RX6_12 iw6 vc6 (by decide) lyL rfl ?_
          refine X_iload_n 39 2 dX6_burnHours_39 rfl rfl ?_
          refine X_iload_n 40 1 dX6_burnHours_40 rfl rfl ?_
          refine X_aload_n 41 0 dX6_burnHours_41 rfl rfl ?_
          refine X_getR (f := 1) 42 dX6_burnHours_42 lf_RX6_19 iw6 vc6 (by decide) lyL rfl ?_
          refine X_iload_n 45 2 dX6_burnHours_45 rfl rfl ?_
          refine X_aload_n 46 0 dX6_burnHours_46 rfl rfl ?_
          refine X_getR (f := 0) 47 dX6_burnHours_47 lf_RX6_12 iw6 vc6 (by decide) lyL rfl ?_
          refine X_iload_n 50 2 dX6_burnHours_50 rfl rfl ?_
          refine X_cVI 51 [.int _] (e_X4_limitOf 0 (Or.inl rfl) _ _ (by first | omega | assumption)) dX6_burnHours_51 lm_RX6_282 1 ⟨wm_X4_limitOf, by decide +kernel, rfl, rfl⟩ rfl ⟨Nat.le_of_ble_eq_true rfl, Nat.le_of_ble_eq_true rfl⟩ (lyS 0 (Or.inl rfl)) vc4 rfl rfl (Nat.le_of_ble_eq_true rfl) ?_
          rintro _ _ ⟨rfl, rfl⟩
          rw [show lim (brnM m (ldJ μ lc c r) h i) 0 i = lim m 0 i by unfold lim; rw [brnM_out (by omega) i (by omega), brnM_out (by omega) i (by omega)]]
          refine X_cVI 54 [.int _, .int _] (e_X5_loadOf i (c * r) _ _ ((brnM_out (by omega) i (by omega)).trans hN) hcr (by omega)) dX6_burnHours_54 lm_RX6_291 2 ⟨wm_X5_loadOf, by decide +kernel, rfl, rfl⟩ rfl ⟨Nat.le_of_ble_eq_true rfl, Nat.le_of_ble_eq_true rfl⟩ lyV vc5 rfl rfl (Nat.le_of_ble_eq_true rfl) ?_
          rintro _ _ ⟨rfl, rfl⟩
          rw [brn_ld, ld_J hR (by omega)]
          refine X_imul 57 dX6_burnHours_57 ?_
          refine X_bipush 58 (100) dX6_burnHours_58 (by decide) ?_
          refine X_idiv 60 dX6_burnHours_60 (by decide) ?_
          refine X_cVV 61 [.int _, .int _] (e_X4_wearOut 0 (Or.inl rfl) _ _ _ (by first | omega | assumption)) dX6_burnHours_61 lm_RX6_318 2 ⟨wm_X4_wearOut, by decide +kernel, rfl, rfl⟩ rfl ⟨Nat.le_of_ble_eq_true rfl, Nat.le_of_ble_eq_true rfl⟩ (lyS 0 (Or.inl rfl)) vc4 rfl rfl (Nat.le_of_ble_eq_true rfl) ?_
          rintro _ rfl
          refine X_iinc 64 2 (_ + 1) [(2, .int _), (0, .ref _), (1, .int _)] dX6_burnHours_64 rfl rfl (by decide) rfl ?_
          refine X_goto 67 13 dX6_burnHours_67 (by decide) ?_
          refine X_sub [1, 2, 0] [(0, .ref _), (1, .int _), (2, .int _)] rfl ?_
          exact ih_13 (i + 1) (by omega) (by omega) _ _  (by exact (nI_1 i).symm) (by (first | exact if_pos b_29 | exact if_neg b_29))
        · rw [show wkB (brnM m (ldJ μ lc c r) h i) 0 i = wkB m 0 i from congrArg (· == 1) (brnM_out (by omega) i (by omega))] at b_29
          refine X_if_eq 32 64 dX6_burnHours_32 (by decide) (fun _ => ?_) (fun c_0 => by exact absurd c_0 (by decide))
          refine X_iinc 64 2 (_ + 1) [(2, .int _), (0, .ref _), (1, .int _)] dX6_burnHours_64 rfl rfl (by decide) rfl ?_
          refine X_goto 67 13 dX6_burnHours_67 (by decide) ?_
          refine X_sub [1, 2, 0] [(0, .ref _), (1, .int _), (2, .int _)] rfl ?_
          exact ih_13 (i + 1) (by omega) (by omega) _ _  (by exact (nI_1 i).symm) (by (first | exact if_pos b_29 | exact if_neg b_29))
  exact L_13 (lc + 1) 0 (by omega) (by omega) _ _  (by exact nI_0) (by rfl)
