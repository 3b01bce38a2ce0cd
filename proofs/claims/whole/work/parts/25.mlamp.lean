set_option maxHeartbeats 4000000 in
set_option maxRecDepth 100000 in
theorem e_X7_isGood (s : Nat) (V : Mm) (c r lc : Nat) (k : Nat) (μ : Mm) (hR : REP s V (μ 1) c r lc) (hk : k < 8) : EvN ΛM mX7_isGood [.ref 0, .int (nI k)] μ (qB (goodB V s k = true) μ) := by
  refine EvN_ofQ (by decide +kernel) rfl (fun _ => rfl) (fun _ => Nat.le_of_ble_eq_true rfl) (ls := [(0, .ref 0), (1, .int (nI k))]) ?_
  refine X_iconst 0 (0) dX7_isGood_0 (by decide) ?_
  refine X_istore_n 1 [(2, .int _), (0, .ref _), (1, .int _)] dX7_isGood_1 rfl (by decide) rfl ?_
  refine X_iconst 2 (0) dX7_isGood_2 (by decide) ?_
  refine X_istore_n 3 [(3, .int _), (2, .int _), (0, .ref _), (1, .int _)] dX7_isGood_3 rfl (by decide) rfl ?_
  refine X_sub [2, 3, 1, 0] [(0, .ref _), (1, .int _), (2, .int _), (3, .int _)] rfl ?_
  have L_4 : ∀ (kf : Nat) (i : Nat), i ≤ 4 → 4 < i + kf → allN i (fun i => decide (0 ≤ turnS V s k i)) = true → ∀ (x4_2 : Int32) (x4_3 : Int32), 4 * areaS V s k i = x4_2 → nI i = x4_3 → X false ΛM mX7_isGood (QN (qB (goodB V s k = true) μ)) 4 [(0, .ref 0), (1, .int (nI k)), (2, .int x4_2), (3, .int x4_3)] [] μ := by
    intro kf
    induction kf with
    | zero => intro i hp4_0 hp4_1 hp4_2; exfalso; omega
    | succ kf ih_4 =>
      intro i hp4_0 hp4_1 hp4_2 x4_2 x4_3
      rintro rfl rfl
      refine X_iload_n 4 3 dX7_isGood_4 rfl rfl ?_
      refine X_iconst 5 (4) dX7_isGood_5 (by decide) ?_
      refine X_icmp_ge 6 137 dX7_isGood_6 (by decide) (fun c_6 => ?_) (fun c_6 => ?_)
      · have hge : 4 ≤ i := c_ge rfl (by decide) (by omega) c_6
        have hie : i = 4 := by omega
        subst hie
        refine X_iload_n 137 2 dX7_isGood_137 rfl rfl ?_
        refine X_if_le 138 145 dX7_isGood_138 (by decide) (fun c_138 => ?_) (fun c_138 => ?_)
        · refine X_iconst 145 (0) dX7_isGood_145 (by decide) ?_
          refine X_iret 146 dX7_isGood_146 rfl rfl ⟨_, rfl, _, rfl, ?_⟩
          refine ⟨rfl, Or.inr ⟨rfl, ?_⟩⟩
          have hab := bd_mono (area_bd hR hk 4 (by decide)) (by decide : 3200 * 4 ≤ 500000000)
          first | exact Bool.and_eq_true_iff.mpr ⟨hp4_2, decide_eq_true ((four_pos hab).mp (Int32.not_le.mp c_138))⟩ | exact fun h => Int32.not_lt.mpr c_138 ((four_pos hab).mpr (of_decide_eq_true (Bool.and_eq_true_iff.mp h).2))
        · refine X_iconst 141 (1) dX7_isGood_141 (by decide) ?_
          refine X_goto 142 146 dX7_isGood_142 (by decide) ?_
          refine X_iret 146 dX7_isGood_146 rfl rfl ⟨_, rfl, _, rfl, ?_⟩
          refine ⟨rfl, Or.inl ⟨rfl, ?_⟩⟩
          have hab := bd_mono (area_bd hR hk 4 (by decide)) (by decide : 3200 * 4 ≤ 500000000)
          first | exact Bool.and_eq_true_iff.mpr ⟨hp4_2, decide_eq_true ((four_pos hab).mp (Int32.not_le.mp c_138))⟩ | exact fun h => Int32.not_lt.mpr c_138 ((four_pos hab).mpr (of_decide_eq_true (Bool.and_eq_true_iff.mp h).2))
      · have hlt : i < 4 := c_lt rfl (by decide) (by omega) c_6
        refine X_aload_n 9 0 dX7_isGood_9 rfl rfl ?_
        refine X_iload_n 10 1 dX7_isGood_10 rfl rfl ?_
        refine X_iload_n 11 3 dX7_isGood_11 rfl rfl ?_
        refine X_iconst 12 (1) dX7_isGood_12 (by decide) ?_
        refine X_iadd 13 dX7_isGood_13 ?_
        rw [nI_1]
        refine X_cVI 14 [.int _, .int _] (e_X7_pointX s V c r lc k (i + 1) _ hR hk (by omega)) dX7_isGood_14 lm_RX7_71 2 ⟨wm_X7_pointX, by decide +kernel, rfl, rfl⟩ rfl ⟨Nat.le_of_ble_eq_true rfl, Nat.le_of_ble_eq_true rfl⟩ lyM vc7 rfl rfl (Nat.le_of_ble_eq_true rfl) ?_
        rintro _ _ ⟨rfl, rfl⟩
        refine X_aload_n 17 0 dX7_isGood_17 rfl rfl ?_
        refine X_iload_n 18 1 dX7_isGood_18 rfl rfl ?_
        refine X_iload_n 19 3 dX7_isGood_19 rfl rfl ?_
        refine X_cVI 20 [.int _, .int _] (e_X7_pointX s V c r lc k i _ hR hk (by omega)) dX7_isGood_20 lm_RX7_71 2 ⟨wm_X7_pointX, by decide +kernel, rfl, rfl⟩ rfl ⟨Nat.le_of_ble_eq_true rfl, Nat.le_of_ble_eq_true rfl⟩ lyM vc7 rfl rfl (Nat.le_of_ble_eq_true rfl) ?_
        rintro _ _ ⟨rfl, rfl⟩
        refine X_isub 23 dX7_isGood_23 ?_
        refine X_istore 24 [(4, .int _), (0, .ref _), (1, .int _), (2, .int _), (3, .int _)] dX7_isGood_24 (by decide) rfl ?_
        refine X_aload_n 26 1 dX7_isGood_26 rfl rfl ?_
        refine X_iload_n 27 2 dX7_isGood_27 rfl rfl ?_
        refine X_iload_n 28 4 dX7_isGood_28 rfl rfl ?_
        refine X_iconst 29 (1) dX7_isGood_29 (by decide) ?_
        refine X_iadd 30 dX7_isGood_30 ?_
        rw [nI_1]
        refine X_cVI 31 [.int _, .int _] (e_X7_pointY s V c r lc k (i + 1) _ hR hk (by omega)) dX7_isGood_31 lm_RX7_74 2 ⟨wm_X7_pointY, by decide +kernel, rfl, rfl⟩ rfl ⟨Nat.le_of_ble_eq_true rfl, Nat.le_of_ble_eq_true rfl⟩ lyM vc7 rfl rfl (Nat.le_of_ble_eq_true rfl) ?_
        rintro _ _ ⟨rfl, rfl⟩
        refine X_aload_n 34 1 dX7_isGood_34 rfl rfl ?_
        refine X_iload_n 35 2 dX7_isGood_35 rfl rfl ?_
        refine X_iload_n 36 4 dX7_isGood_36 rfl rfl ?_
        refine X_cVI 37 [.int _, .int _] (e_X7_pointY s V c r lc k i _ hR hk (by omega)) dX7_isGood_37 lm_RX7_74 2 ⟨wm_X7_pointY, by decide +kernel, rfl, rfl⟩ rfl ⟨Nat.le_of_ble_eq_true rfl, Nat.le_of_ble_eq_true rfl⟩ lyM vc7 rfl rfl (Nat.le_of_ble_eq_true rfl) ?_
        rintro _ _ ⟨rfl, rfl⟩
        refine X_isub 40 dX7_isGood_40 ?_
        refine X_istore 41 [(5, .int _), (4, .int _), (0, .ref _), (1, .int _), (2, .int _), (3, .int _)] dX7_isGood_41 (by decide) rfl ?_
        refine X_aload_n 43 2 dX7_isGood_43 rfl rfl ?_
        refine X_iload_n 44 3 dX7_isGood_44 rfl rfl ?_
        refine X_iload_n 45 5 dX7_isGood_45 rfl rfl ?_
        refine X_iconst 46 (2) dX7_isGood_46 (by decide) ?_
        refine X_iadd 47 dX7_isGood_47 ?_
        rw [nI_2]
        refine X_cVI 48 [.int _, .int _] (e_X7_pointX s V c r lc k (i + 2) _ hR hk (by omega)) dX7_isGood_48 lm_RX7_71 2 ⟨wm_X7_pointX, by decide +kernel, rfl, rfl⟩ rfl ⟨Nat.le_of_ble_eq_true rfl, Nat.le_of_ble_eq_true rfl⟩ lyM vc7 rfl rfl (Nat.le_of_ble_eq_true rfl) ?_
        rintro _ _ ⟨rfl, rfl⟩
        refine X_aload_n 51 2 dX7_isGood_51 rfl rfl ?_
        refine X_iload_n 52 3 dX7_isGood_52 rfl rfl ?_
        refine X_iload_n 53 5 dX7_isGood_53 rfl rfl ?_
        refine X_iconst 54 (1) dX7_isGood_54 (by decide) ?_
        refine X_iadd 55 dX7_isGood_55 ?_
        rw [nI_1]
        refine X_cVI 56 [.int _, .int _] (e_X7_pointX s V c r lc k (i + 1) _ hR hk (by omega)) dX7_isGood_56 lm_RX7_71 2 ⟨wm_X7_pointX, by decide +kernel, rfl, rfl⟩ rfl ⟨Nat.le_of_ble_eq_true rfl, Nat.le_of_ble_eq_true rfl⟩ lyM vc7 rfl rfl (Nat.le_of_ble_eq_true rfl) ?_
        rintro _ _ ⟨rfl, rfl⟩
        refine X_isub 59 dX7_isGood_59 ?_
        refine X_istore 60 [(6, .int _), (5, .int _), (4, .int _), (0, .ref _), (1, .int _), (2, .int _), (3, .int _)] dX7_isGood_60 (by decide) rfl ?_
        refine X_aload_n 62 3 dX7_isGood_62 rfl rfl ?_
        refine X_iload_n 63 4 dX7_isGood_63 rfl rfl ?_
        refine X_iload_n 64 6 dX7_isGood_64 rfl rfl ?_
        refine X_iconst 65 (2) dX7_isGood_65 (by decide) ?_
        refine X_iadd 66 dX7_isGood_66 ?_
        rw [nI_2]
        refine X_cVI 67 [.int _, .int _] (e_X7_pointY s V c r lc k (i + 2) _ hR hk (by omega)) dX7_isGood_67 lm_RX7_74 2 ⟨wm_X7_pointY, by decide +kernel, rfl, rfl⟩ rfl ⟨Nat.le_of_ble_eq_true rfl, Nat.le_of_ble_eq_true rfl⟩ lyM vc7 rfl rfl (Nat.le_of_ble_eq_true rfl) ?_
        rintro _ _ ⟨rfl, rfl⟩
        refine X_aload_n 70 3 dX7_isGood_70 rfl rfl ?_
        refine X_iload_n 71 4 dX7_isGood_71 rfl rfl ?_
        refine X_iload_n 72 6 dX7_isGood_72 rfl rfl ?_
        refine X_iconst 73 (1) dX7_isGood_73 (by decide) ?_
        refine X_iadd 74 dX7_isGood_74 ?_
        rw [nI_1]
        refine X_cVI 75 [.int _, .int _] (e_X7_pointY s V c r lc k (i + 1) _ hR hk (by omega)) dX7_isGood_75 lm_RX7_74 2 ⟨wm_X7_pointY, by decide +kernel, rfl, rfl⟩ rfl ⟨Nat.le_of_ble_eq_true rfl, Nat.le_of_ble_eq_true rfl⟩ lyM vc7 rfl rfl (Nat.le_of_ble_eq_true rfl) ?_
        rintro _ _ ⟨rfl, rfl⟩
        refine X_isub 78 dX7_isGood_78 ?_
        refine X_istore 79 [(7, .int _), (6, .int _), (5, .int _), (4, .int _), (0, .ref _), (1, .int _), (2, .int _), (3, .int _)] dX7_isGood_79 (by decide) rfl ?_
        refine X_iload 81 3 dX7_isGood_81 rfl ?_
        refine X_iload 83 0 dX7_isGood_83 rfl ?_
        refine X_imul 85 dX7_isGood_85 ?_
        refine X_iload 86 2 dX7_isGood_86 rfl ?_
        refine X_iload 88 1 dX7_isGood_88 rfl ?_
        refine X_imul 90 dX7_isGood_90 ?_
        refine X_isub 91 dX7_isGood_91 ?_
        rw [turn_m hlt]
        refine X_if_ge 92 97 dX7_isGood_92 (by decide) (fun c_92 => ?_) (fun c_92 => ?_)
        · have h0 : 0 ≤ turnS V s k i := Int32.not_lt.mp fun z => absurd c_92 (Int32.not_le.mpr ((four_neg (turn_bd hR hk hlt)).mpr z))
          refine X_iload_n 97 6 dX7_isGood_97 rfl rfl ?_
          refine X_aload_n 98 4 dX7_isGood_98 rfl rfl ?_
          refine X_iload_n 99 5 dX7_isGood_99 rfl rfl ?_
          refine X_iload_n 100 7 dX7_isGood_100 rfl rfl ?_
          refine X_cVI 101 [.int _, .int _] (e_X7_pointX s V c r lc k i _ hR hk (by omega)) dX7_isGood_101 lm_RX7_71 2 ⟨wm_X7_pointX, by decide +kernel, rfl, rfl⟩ rfl ⟨Nat.le_of_ble_eq_true rfl, Nat.le_of_ble_eq_true rfl⟩ lyM vc7 rfl rfl (Nat.le_of_ble_eq_true rfl) ?_
          rintro _ _ ⟨rfl, rfl⟩
          refine X_aload_n 104 4 dX7_isGood_104 rfl rfl ?_
          refine X_iload_n 105 5 dX7_isGood_105 rfl rfl ?_
          refine X_iload_n 106 7 dX7_isGood_106 rfl rfl ?_
          refine X_iconst 107 (1) dX7_isGood_107 (by decide) ?_
          refine X_iadd 108 dX7_isGood_108 ?_
          rw [nI_1]
          refine X_cVI 109 [.int _, .int _] (e_X7_pointY s V c r lc k (i + 1) _ hR hk (by omega)) dX7_isGood_109 lm_RX7_74 2 ⟨wm_X7_pointY, by decide +kernel, rfl, rfl⟩ rfl ⟨Nat.le_of_ble_eq_true rfl, Nat.le_of_ble_eq_true rfl⟩ lyM vc7 rfl rfl (Nat.le_of_ble_eq_true rfl) ?_
          rintro _ _ ⟨rfl, rfl⟩
          refine X_imul 112 dX7_isGood_112 ?_
          refine X_aload_n 113 4 dX7_isGood_113 rfl rfl ?_
          refine X_iload_n 114 5 dX7_isGood_114 rfl rfl ?_
          refine X_iload_n 115 7 dX7_isGood_115 rfl rfl ?_
          refine X_cVI 116 [.int _, .int _] (e_X7_pointY s V c r lc k i _ hR hk (by omega)) dX7_isGood_116 lm_RX7_74 2 ⟨wm_X7_pointY, by decide +kernel, rfl, rfl⟩ rfl ⟨Nat.le_of_ble_eq_true rfl, Nat.le_of_ble_eq_true rfl⟩ lyM vc7 rfl rfl (Nat.le_of_ble_eq_true rfl) ?_
          rintro _ _ ⟨rfl, rfl⟩
          refine X_aload_n 119 4 dX7_isGood_119 rfl rfl ?_
          refine X_iload_n 120 5 dX7_isGood_120 rfl rfl ?_
          refine X_iload_n 121 7 dX7_isGood_121 rfl rfl ?_
          refine X_iconst 122 (1) dX7_isGood_122 (by decide) ?_
          refine X_iadd 123 dX7_isGood_123 ?_
          rw [nI_1]
          refine X_cVI 124 [.int _, .int _] (e_X7_pointX s V c r lc k (i + 1) _ hR hk (by omega)) dX7_isGood_124 lm_RX7_71 2 ⟨wm_X7_pointX, by decide +kernel, rfl, rfl⟩ rfl ⟨Nat.le_of_ble_eq_true rfl, Nat.le_of_ble_eq_true rfl⟩ lyM vc7 rfl rfl (Nat.le_of_ble_eq_true rfl) ?_
          rintro _ _ ⟨rfl, rfl⟩
          refine X_imul 127 dX7_isGood_127 ?_
          refine X_isub 128 dX7_isGood_128 ?_
          refine X_iadd 129 dX7_isGood_129 ?_
          rw [area_m hlt]
          refine X_istore_n 130 [(2, .int _), (7, .int _), (6, .int _), (5, .int _), (4, .int _), (0, .ref _), (1, .int _), (3, .int _)] dX7_isGood_130 rfl (by decide) rfl ?_
          refine X_iinc 131 7 (_ + 1) [(3, .int _), (2, .int _), (7, .int _), (6, .int _), (5, .int _), (4, .int _), (0, .ref _), (1, .int _)] dX7_isGood_131 rfl rfl (by decide) rfl ?_
          refine X_goto 134 4 dX7_isGood_134 (by decide) ?_
          refine X_sub [6, 7, 1, 0] [(0, .ref _), (1, .int _), (2, .int _), (3, .int _)] rfl ?_
          exact ih_4 (i + 1) (by omega) (by omega) (allN_succ hp4_2 (decide_eq_true h0)) _ _  (by rfl) (by exact (nI_1 i).symm)
        · refine X_iconst 95 (0) dX7_isGood_95 (by decide) ?_
          refine X_iret 96 dX7_isGood_96 rfl rfl ⟨_, rfl, _, rfl, ?_⟩
          refine ⟨rfl, Or.inr ⟨rfl, ?_⟩⟩
          exact fun h => c_92 (Int32.not_lt.mp fun z => Int32.not_lt.mpr (of_decide_eq_true (allN_iff.mp (Bool.and_eq_true_iff.mp h).1 i hlt)) ((four_neg (turn_bd hR hk hlt)).mp z))
  exact L_4 5 0 (by omega) (by omega) rfl _ _  (by rfl) (by exact nI_0)
set_option maxHeartbeats 4000000 in
set_option maxRecDepth 100000 in
theorem e_X7_weightAt (s : Nat) (V : Mm) (c r lc : Nat) (k : Nat) (px py : Int32) (μ : Mm) (hR : REP s V (μ 1) c r lc) (hk : k < 8) : EvN ΛM mX7_weightAt [.ref 0, .int (nI k), .int px, .int py] μ (qE (wgt V s k px py) μ) := by
  refine EvN_ofQ (by decide +kernel) rfl (fun _ => rfl) (fun _ => Nat.le_of_ble_eq_true rfl) (ls := [(0, .ref 0), (1, .int (nI k)), (2, .int px), (3, .int py)]) ?_
  refine X_iconst 0 (-1) dX7_weightAt_0 (by decide) ?_
  refine X_istore 1 [(4, .int _), (0, .ref _), (1, .int _), (2, .int _), (3, .int _)] dX7_weightAt_1 (by decide) rfl ?_
  refine X_iconst 3 (0) dX7_weightAt_3 (by decide) ?_
  refine X_istore 4 [(5, .int _), (4, .int _), (0, .ref _), (1, .int _), (2, .int _), (3, .int _)] dX7_weightAt_4 (by decide) rfl ?_
  refine X_sub [2, 3, 4, 5, 1, 0] [(0, .ref _), (1, .int _), (2, .int _), (3, .int _), (4, .int _), (5, .int _)] rfl ?_
  have L_6 : ∀ (kf : Nat) (i : Nat), i ≤ 4 → 4 < i + kf → allN i (fun i => decide (0 ≤ htS V s k px py i)) = true → ∀ (x6_4 : Int32) (x6_5 : Int32), nearS V s k px py i = x6_4 → nI i = x6_5 → X false ΛM mX7_weightAt (QN (qE (wgt V s k px py) μ)) 6 [(0, .ref 0), (1, .int (nI k)), (2, .int px), (3, .int py), (4, .int x6_4), (5, .int x6_5)] [] μ := by
    intro kf
    induction kf with
    | zero => intro i hp6_0 hp6_1 hp6_2; exfalso; omega
    | succ kf ih_6 =>
      intro i hp6_0 hp6_1 hp6_2 x6_4 x6_5
      rintro rfl rfl
      refine X_iload 6 5 dX7_weightAt_6 rfl ?_
      refine X_iconst 8 (4) dX7_weightAt_8 (by decide) ?_
      refine X_icmp_ge 9 145 dX7_weightAt_9 (by decide) (fun c_9 => ?_) (fun c_9 => ?_)
      · have hge : 4 ≤ i := c_ge rfl (by decide) (by omega) c_9
        have hie : i = 4 := by omega
        subst hie
        refine X_iconst 145 (1) dX7_weightAt_145 (by decide) ?_
        refine X_iload 146 4 dX7_weightAt_146 rfl ?_
        refine X_iadd 148 dX7_weightAt_148 ?_
        refine X_iret 149 dX7_weightAt_149 rfl rfl ⟨_, rfl, _, rfl, ?_⟩
        exact ⟨if_pos hp6_2, rfl⟩
      · have hlt : i < 4 := c_lt rfl (by decide) (by omega) c_9
        refine X_aload_n 12 0 dX7_weightAt_12 rfl rfl ?_
        refine X_iload_n 13 1 dX7_weightAt_13 rfl rfl ?_
        refine X_iload 14 5 dX7_weightAt_14 rfl ?_
        refine X_iconst 16 (1) dX7_weightAt_16 (by decide) ?_
        refine X_iadd 17 dX7_weightAt_17 ?_
        rw [nI_1]
        refine X_cVI 18 [.int _, .int _] (e_X7_pointX s V c r lc k (i + 1) _ hR hk (by omega)) dX7_weightAt_18 lm_RX7_71 2 ⟨wm_X7_pointX, by decide +kernel, rfl, rfl⟩ rfl ⟨Nat.le_of_ble_eq_true rfl, Nat.le_of_ble_eq_true rfl⟩ lyM vc7 rfl rfl (Nat.le_of_ble_eq_true rfl) ?_
        rintro _ _ ⟨rfl, rfl⟩
        refine X_aload_n 21 0 dX7_weightAt_21 rfl rfl ?_
        refine X_iload_n 22 1 dX7_weightAt_22 rfl rfl ?_
        refine X_iload 23 5 dX7_weightAt_23 rfl ?_
        refine X_cVI 25 [.int _, .int _] (e_X7_pointX s V c r lc k i _ hR hk (by omega)) dX7_weightAt_25 lm_RX7_71 2 ⟨wm_X7_pointX, by decide +kernel, rfl, rfl⟩ rfl ⟨Nat.le_of_ble_eq_true rfl, Nat.le_of_ble_eq_true rfl⟩ lyM vc7 rfl rfl (Nat.le_of_ble_eq_true rfl) ?_
        rintro _ _ ⟨rfl, rfl⟩
        refine X_isub 28 dX7_weightAt_28 ?_
        rw [way_x hlt]
        refine X_istore 29 [(6, .int _), (0, .ref _), (1, .int _), (2, .int _), (3, .int _), (4, .int _), (5, .int _)] dX7_weightAt_29 (by decide) rfl ?_
        refine X_aload_n 31 1 dX7_weightAt_31 rfl rfl ?_
        refine X_iload_n 32 2 dX7_weightAt_32 rfl rfl ?_
        refine X_iload 33 6 dX7_weightAt_33 rfl ?_
        refine X_iconst 35 (1) dX7_weightAt_35 (by decide) ?_
        refine X_iadd 36 dX7_weightAt_36 ?_
        rw [nI_1]
        refine X_cVI 37 [.int _, .int _] (e_X7_pointY s V c r lc k (i + 1) _ hR hk (by omega)) dX7_weightAt_37 lm_RX7_74 2 ⟨wm_X7_pointY, by decide +kernel, rfl, rfl⟩ rfl ⟨Nat.le_of_ble_eq_true rfl, Nat.le_of_ble_eq_true rfl⟩ lyM vc7 rfl rfl (Nat.le_of_ble_eq_true rfl) ?_
        rintro _ _ ⟨rfl, rfl⟩
        refine X_aload_n 40 1 dX7_weightAt_40 rfl rfl ?_
        refine X_iload_n 41 2 dX7_weightAt_41 rfl rfl ?_
        refine X_iload 42 6 dX7_weightAt_42 rfl ?_
        refine X_cVI 44 [.int _, .int _] (e_X7_pointY s V c r lc k i _ hR hk (by omega)) dX7_weightAt_44 lm_RX7_74 2 ⟨wm_X7_pointY, by decide +kernel, rfl, rfl⟩ rfl ⟨Nat.le_of_ble_eq_true rfl, Nat.le_of_ble_eq_true rfl⟩ lyM vc7 rfl rfl (Nat.le_of_ble_eq_true rfl) ?_
        rintro _ _ ⟨rfl, rfl⟩
        refine X_isub 47 dX7_weightAt_47 ?_
        rw [way_y hlt]
        refine X_istore 48 [(7, .int _), (6, .int _), (0, .ref _), (1, .int _), (2, .int _), (3, .int _), (4, .int _), (5, .int _)] dX7_weightAt_48 (by decide) rfl ?_
        refine X_iload 50 1 dX7_weightAt_50 rfl ?_
        refine X_iload_n 52 5 dX7_weightAt_52 rfl rfl ?_
        refine X_aload_n 53 2 dX7_weightAt_53 rfl rfl ?_
        refine X_iload_n 54 3 dX7_weightAt_54 rfl rfl ?_
        refine X_iload 55 7 dX7_weightAt_55 rfl ?_
        refine X_cVI 57 [.int _, .int _] (e_X7_pointY s V c r lc k i _ hR hk (by omega)) dX7_weightAt_57 lm_RX7_74 2 ⟨wm_X7_pointY, by decide +kernel, rfl, rfl⟩ rfl ⟨Nat.le_of_ble_eq_true rfl, Nat.le_of_ble_eq_true rfl⟩ lyM vc7 rfl rfl (Nat.le_of_ble_eq_true rfl) ?_
        rintro _ _ ⟨rfl, rfl⟩
        refine X_isub 60 dX7_weightAt_60 ?_
        refine X_imul 61 dX7_weightAt_61 ?_
        refine X_iload 62 0 dX7_weightAt_62 rfl ?_
        refine X_iload_n 64 4 dX7_weightAt_64 rfl rfl ?_
        refine X_aload_n 65 2 dX7_weightAt_65 rfl rfl ?_
        refine X_iload_n 66 3 dX7_weightAt_66 rfl rfl ?_
        refine X_iload 67 7 dX7_weightAt_67 rfl ?_
        refine X_cVI 69 [.int _, .int _] (e_X7_pointX s V c r lc k i _ hR hk (by omega)) dX7_weightAt_69 lm_RX7_71 2 ⟨wm_X7_pointX, by decide +kernel, rfl, rfl⟩ rfl ⟨Nat.le_of_ble_eq_true rfl, Nat.le_of_ble_eq_true rfl⟩ lyM vc7 rfl rfl (Nat.le_of_ble_eq_true rfl) ?_
        rintro _ _ ⟨rfl, rfl⟩
        refine X_isub 72 dX7_weightAt_72 ?_
        refine X_imul 73 dX7_weightAt_73 ?_
        refine X_isub 74 dX7_weightAt_74 ?_
        rw [ht_m hlt]
        refine X_istore 75 [(8, .int _), (7, .int _), (6, .int _), (0, .ref _), (1, .int _), (2, .int _), (3, .int _), (4, .int _), (5, .int _)] dX7_weightAt_75 (by decide) rfl ?_
        refine X_iload 77 0 dX7_weightAt_77 rfl ?_
        refine X_if_ge 79 84 dX7_weightAt_79 (by decide) (fun c_79 => ?_) (fun c_79 => ?_)
        · refine X_iload 84 2 dX7_weightAt_84 rfl ?_
          refine X_cSI 86 [.int _] (e_X7_size _ _) dX7_weightAt_86 lm_RX7_77 1 ⟨wm_X7_size, by decide +kernel, rfl, rfl⟩ rfl ⟨Nat.le_of_ble_eq_true rfl, Nat.le_of_ble_eq_true rfl⟩ rfl (Nat.le_of_ble_eq_true rfl) ?_
          rintro _ _ ⟨rfl, rfl⟩
          refine X_iload 89 1 dX7_weightAt_89 rfl ?_
          refine X_cSI 91 [.int _] (e_X7_size _ _) dX7_weightAt_91 lm_RX7_77 1 ⟨wm_X7_size, by decide +kernel, rfl, rfl⟩ rfl ⟨Nat.le_of_ble_eq_true rfl, Nat.le_of_ble_eq_true rfl⟩ rfl (Nat.le_of_ble_eq_true rfl) ?_
          rintro _ _ ⟨rfl, rfl⟩
          refine X_iadd 94 dX7_weightAt_94 ?_
          rw [show absI (wayX V s k i) + absI (wayY V s k i) = lenS V s k i from rfl]
          refine X_istore 95 [(9, .int _), (8, .int _), (7, .int _), (6, .int _), (0, .ref _), (1, .int _), (2, .int _), (3, .int _), (4, .int _), (5, .int _)] dX7_weightAt_95 (by decide) rfl ?_
          refine X_iload 97 0 dX7_weightAt_97 rfl ?_
          refine X_if_ne 99 106 dX7_weightAt_99 (by decide) (fun c_99 => ?_) (fun c_99 => ?_)
          · have hlp : ¬ lenS V s k i ≤ 0 := fun z => c_99 (Int32.le_antisymm z (len_nn hR hk hlt))
            refine X_iload 106 1 dX7_weightAt_106 rfl ?_
            refine X_iload 108 0 dX7_weightAt_108 rfl ?_
            refine X_idiv 110 dX7_weightAt_110 c_99 ?_
            refine X_istore 111 [(10, .int _), (9, .int _), (8, .int _), (7, .int _), (6, .int _), (0, .ref _), (1, .int _), (2, .int _), (3, .int _), (4, .int _), (5, .int _)] dX7_weightAt_111 (by decide) rfl ?_
            refine X_iload 113 0 dX7_weightAt_113 rfl ?_
            refine X_if_lt 115 135 dX7_weightAt_115 (by decide) (fun c_115 => ?_) (fun c_115 => ?_)
            · exact absurd c_115 (Int32.not_lt.mpr (div_nn c_79 (Int32.not_le.mp hlp)).1)
            · refine X_iload 118 9 dX7_weightAt_118 rfl ?_
              refine X_if_lt 120 130 dX7_weightAt_120 (by decide) (fun c_120 => ?_) (fun c_120 => ?_)
              · refine X_iload 130 0 dX7_weightAt_130 rfl ?_
                refine X_goto 132 137 dX7_weightAt_132 (by decide) ?_
                refine X_istore 137 [(4, .int _), (10, .int _), (9, .int _), (8, .int _), (7, .int _), (6, .int _), (0, .ref _), (1, .int _), (2, .int _), (3, .int _), (5, .int _)] dX7_weightAt_137 (by decide) rfl ?_
                refine X_iinc 139 10 (_ + 1) [(5, .int _), (4, .int _), (10, .int _), (9, .int _), (8, .int _), (7, .int _), (6, .int _), (0, .ref _), (1, .int _), (2, .int _), (3, .int _)] dX7_weightAt_139 rfl rfl (by decide) rfl ?_
                refine X_goto 142 6 dX7_weightAt_142 (by decide) ?_
                refine X_sub [7, 8, 9, 10, 1, 0] [(0, .ref _), (1, .int _), (2, .int _), (3, .int _), (4, .int _), (5, .int _)] rfl ?_
                exact ih_6 (i + 1) (by omega) (by omega) (allN_succ hp6_2 (decide_eq_true c_79)) _ _  (by (first | exact if_pos hlz | exact (if_neg hlp).trans (if_neg (Int32.not_le.mpr c_120)) | exact (if_neg hlp).trans ((if_pos (Int32.not_lt.mp c_120)).trans (if_neg (Int32.not_lt.mpr c_127))) | exact (if_neg hlp).trans ((if_pos (Int32.not_lt.mp c_120)).trans (if_pos (Int32.not_le.mp c_127))))) (by exact (nI_1 i).symm)
              · refine X_iload 123 0 dX7_weightAt_123 rfl ?_
                refine X_iload 125 9 dX7_weightAt_125 rfl ?_
                refine X_icmp_ge 127 135 dX7_weightAt_127 (by decide) (fun c_127 => ?_) (fun c_127 => ?_)
                · refine X_iload 135 9 dX7_weightAt_135 rfl ?_
                  refine X_istore 137 [(4, .int _), (10, .int _), (9, .int _), (8, .int _), (7, .int _), (6, .int _), (0, .ref _), (1, .int _), (2, .int _), (3, .int _), (5, .int _)] dX7_weightAt_137 (by decide) rfl ?_
                  refine X_iinc 139 10 (_ + 1) [(5, .int _), (4, .int _), (10, .int _), (9, .int _), (8, .int _), (7, .int _), (6, .int _), (0, .ref _), (1, .int _), (2, .int _), (3, .int _)] dX7_weightAt_139 rfl rfl (by decide) rfl ?_
                  refine X_goto 142 6 dX7_weightAt_142 (by decide) ?_
                  refine X_sub [7, 8, 9, 10, 1, 0] [(0, .ref _), (1, .int _), (2, .int _), (3, .int _), (4, .int _), (5, .int _)] rfl ?_
                  exact ih_6 (i + 1) (by omega) (by omega) (allN_succ hp6_2 (decide_eq_true c_79)) _ _  (by (first | exact if_pos hlz | exact (if_neg hlp).trans (if_neg (Int32.not_le.mpr c_120)) | exact (if_neg hlp).trans ((if_pos (Int32.not_lt.mp c_120)).trans (if_neg (Int32.not_lt.mpr c_127))) | exact (if_neg hlp).trans ((if_pos (Int32.not_lt.mp c_120)).trans (if_pos (Int32.not_le.mp c_127))))) (by exact (nI_1 i).symm)
                · refine X_iload 130 0 dX7_weightAt_130 rfl ?_
                  refine X_goto 132 137 dX7_weightAt_132 (by decide) ?_
                  refine X_istore 137 [(4, .int _), (10, .int _), (9, .int _), (8, .int _), (7, .int _), (6, .int _), (0, .ref _), (1, .int _), (2, .int _), (3, .int _), (5, .int _)] dX7_weightAt_137 (by decide) rfl ?_
                  refine X_iinc 139 10 (_ + 1) [(5, .int _), (4, .int _), (10, .int _), (9, .int _), (8, .int _), (7, .int _), (6, .int _), (0, .ref _), (1, .int _), (2, .int _), (3, .int _)] dX7_weightAt_139 rfl rfl (by decide) rfl ?_
                  refine X_goto 142 6 dX7_weightAt_142 (by decide) ?_
                  refine X_sub [7, 8, 9, 10, 1, 0] [(0, .ref _), (1, .int _), (2, .int _), (3, .int _), (4, .int _), (5, .int _)] rfl ?_
                  exact ih_6 (i + 1) (by omega) (by omega) (allN_succ hp6_2 (decide_eq_true c_79)) _ _  (by (first | exact if_pos hlz | exact (if_neg hlp).trans (if_neg (Int32.not_le.mpr c_120)) | exact (if_neg hlp).trans ((if_pos (Int32.not_lt.mp c_120)).trans (if_neg (Int32.not_lt.mpr c_127))) | exact (if_neg hlp).trans ((if_pos (Int32.not_lt.mp c_120)).trans (if_pos (Int32.not_le.mp c_127))))) (by exact (nI_1 i).symm)
          · have hlz : lenS V s k i ≤ 0 := by rw [c_99]; decide
            refine X_iconst 102 (-1) dX7_weightAt_102 (by decide) ?_
            refine X_goto 103 111 dX7_weightAt_103 (by decide) ?_
            refine X_istore 111 [(10, .int _), (9, .int _), (8, .int _), (7, .int _), (6, .int _), (0, .ref _), (1, .int _), (2, .int _), (3, .int _), (4, .int _), (5, .int _)] dX7_weightAt_111 (by decide) rfl ?_
            refine X_iload 113 0 dX7_weightAt_113 rfl ?_
            refine X_if_lt 115 135 dX7_weightAt_115 (by decide) (fun _ => ?_) (fun c_0 => by exact absurd c_0 (by decide))
            refine X_iload 135 9 dX7_weightAt_135 rfl ?_
            refine X_istore 137 [(4, .int _), (10, .int _), (9, .int _), (8, .int _), (7, .int _), (6, .int _), (0, .ref _), (1, .int _), (2, .int _), (3, .int _), (5, .int _)] dX7_weightAt_137 (by decide) rfl ?_
            refine X_iinc 139 10 (_ + 1) [(5, .int _), (4, .int _), (10, .int _), (9, .int _), (8, .int _), (7, .int _), (6, .int _), (0, .ref _), (1, .int _), (2, .int _), (3, .int _)] dX7_weightAt_139 rfl rfl (by decide) rfl ?_
            refine X_goto 142 6 dX7_weightAt_142 (by decide) ?_
            refine X_sub [7, 8, 9, 10, 1, 0] [(0, .ref _), (1, .int _), (2, .int _), (3, .int _), (4, .int _), (5, .int _)] rfl ?_
            exact ih_6 (i + 1) (by omega) (by omega) (allN_succ hp6_2 (decide_eq_true c_79)) _ _  (by (first | exact if_pos hlz | exact (if_neg hlp).trans (if_neg (Int32.not_le.mpr c_120)) | exact (if_neg hlp).trans ((if_pos (Int32.not_lt.mp c_120)).trans (if_neg (Int32.not_lt.mpr c_127))) | exact (if_neg hlp).trans ((if_pos (Int32.not_lt.mp c_120)).trans (if_pos (Int32.not_le.mp c_127))))) (by exact (nI_1 i).symm)
        · refine X_iconst 82 (0) dX7_weightAt_82 (by decide) ?_
          refine X_iret 83 dX7_weightAt_83 rfl rfl ⟨_, rfl, _, rfl, ?_⟩
          exact ⟨if_neg (fun h => c_79 (of_decide_eq_true (allN_iff.mp h i hlt))), rfl⟩
  exact L_6 5 0 (by omega) (by omega) rfl _ _  (by rfl) (by exact nI_0)
