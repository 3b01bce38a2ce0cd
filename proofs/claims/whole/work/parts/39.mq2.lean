set_option maxHeartbeats 4000000 in
set_option maxRecDepth 100000 in
theorem e_X7_working (V : Mm) (c r lc : Nat) (μ : Mm) (hM : MI V c r lc μ) : EvN ΛM mX7_working [.ref 0] μ (qE (sumN lc (V 12)) μ) := by
  refine EvN_ofQ (by decide +kernel) rfl (fun _ => rfl) (fun _ => Nat.le_of_ble_eq_true rfl) (ls := [(0, .ref 0)]) ?_
  obtain ⟨⟨hc1, hc2⟩, ⟨hr1, hr2⟩, h8⟩ := MI_lc hM
  refine X_iconst 0 (0) dX7_working_0 (by decide) ?_
  refine X_istore_n 1 [(1, .int _), (0, .ref _)] dX7_working_1 rfl (by decide) rfl ?_
  refine X_iconst 2 (0) dX7_working_2 (by decide) ?_
  refine X_istore_n 3 [(2, .int _), (1, .int _), (0, .ref _)] dX7_working_3 rfl (by decide) rfl ?_
  refine X_sub [2, 1, 0] [(0, .ref _), (1, .int _), (2, .int _)] rfl ?_
  have L_4 : ∀ (kf : Nat) (n : Nat), n ≤ lc → lc < n + kf → ∀ (x4_1 : Int32) (x4_2 : Int32), sumN n (V 12) = x4_1 → nI n = x4_2 → X false ΛM mX7_working (QN (qE (sumN lc (V 12)) μ)) 4 [(0, .ref 0), (1, .int x4_1), (2, .int x4_2)] [] μ := by
    intro kf
    induction kf with
    | zero => intro n hp4_0 hp4_1; exfalso; omega
    | succ kf ih_4 =>
      intro n hp4_0 hp4_1 x4_1 x4_2
      rintro rfl rfl
      refine X_iload_n 4 2 dX7_working_4 rfl rfl ?_
      refine X_aload_n 5 0 dX7_working_5 rfl rfl ?_
      refine X_getR (f := 0) 6 dX7_working_6 lf_RX7_7 iw7 vc7 (by decide) lyM rfl ?_
      refine X_iconst 9 (4) dX7_working_9 (by decide) ?_
      refine X_iald 10 dX7_working_10 lyM1 (vp_in_nI (n := 4) (by decide) (by decide)) ?_
      rw [cl4]
      rw [hM.1.1.2.2.1]
      refine X_icmp_ge 11 30 dX7_working_11 (by decide) (fun c_11 => ?_) (fun c_11 => ?_)
      · have hge : lc ≤ n := c_ge rfl (by omega) (by omega) c_11
        have hie : lc = n := by omega
        subst hie
        refine X_iload_n 30 1 dX7_working_30 rfl rfl ?_
        refine X_iret 31 dX7_working_31 rfl rfl ⟨_, rfl, _, rfl, ?_⟩
        exact ⟨rfl, rfl⟩
      · have hlt : n < lc := c_lt rfl (by omega) (by omega) c_11
        have hn8 : n < 8 := by omega
        refine X_iload_n 14 1 dX7_working_14 rfl rfl ?_
        refine X_aload_n 15 0 dX7_working_15 rfl rfl ?_
        refine X_iload_n 16 2 dX7_working_16 rfl rfl ?_
        refine X_bipush 17 (11) dX7_working_17 (by decide) ?_
        refine X_cVI 19 [.int _, .int _] (e_X7_of n 11 _ hn8 (by decide)) dX7_working_19 lm_RX7_61 2 ⟨wm_X7_of, by decide +kernel, rfl, rfl⟩ rfl ⟨Nat.le_of_ble_eq_true rfl, Nat.le_of_ble_eq_true rfl⟩ lyM vc7 rfl rfl (Nat.le_of_ble_eq_true rfl) ?_
        rintro _ _ ⟨rfl, rfl⟩
        rw [← (hM.1.2.2.1 n hn8).2.2.2]
        refine X_iadd 22 dX7_working_22 ?_
        refine X_istore_n 23 [(1, .int _), (0, .ref _), (2, .int _)] dX7_working_23 rfl (by decide) rfl ?_
        refine X_iinc 24 2 (_ + 1) [(2, .int _), (1, .int _), (0, .ref _)] dX7_working_24 rfl rfl (by decide) rfl ?_
        refine X_goto 27 4 dX7_working_27 (by decide) ?_
        refine X_sub [2, 1, 0] [(0, .ref _), (1, .int _), (2, .int _)] rfl ?_
        exact ih_4 (n + 1) (by omega) (by omega) _ _  (by rfl) (by exact (nI_1 n).symm)
  exact L_4 (lc + 1) 0 (by omega) (by omega) _ _  (by rfl) (by exact nI_0)
set_option maxHeartbeats 4000000 in
set_option maxRecDepth 100000 in
theorem e_X7_overPlaces (V : Mm) (c r lc : Nat) (w : Nat) (μ : Mm) (hM : MI V c r lc μ) (hw : w ≤ 14) : EvN ΛM mX7_overPlaces [.ref 0, .int (nI w)] μ (qI (fun v m => sumN (c * r) (ovV V lc c (nI w)) = v ∧ SCR μ m)) := by
  refine EvN_ofQ (by decide +kernel) rfl (fun _ => rfl) (fun _ => Nat.le_of_ble_eq_true rfl) (ls := [(0, .ref 0), (1, .int (nI w))]) ?_
  obtain ⟨⟨hc1, hc2⟩, ⟨hr1, hr2⟩, h8⟩ := MI_lc hM
  refine X_iconst 0 (0) dX7_overPlaces_0 (by decide) ?_
  refine X_istore_n 1 [(2, .int _), (0, .ref _), (1, .int _)] dX7_overPlaces_1 rfl (by decide) rfl ?_
  refine X_iconst 2 (0) dX7_overPlaces_2 (by decide) ?_
  refine X_istore_n 3 [(3, .int _), (2, .int _), (0, .ref _), (1, .int _)] dX7_overPlaces_3 rfl (by decide) rfl ?_
  refine X_sub [2, 3, 1, 0] [(0, .ref _), (1, .int _), (2, .int _), (3, .int _)] rfl ?_
  have L_4 : ∀ (kf : Nat) (y : Nat) (m : Mm), y ≤ r → r < y + kf → SCR μ m → ∀ (x4_2 : Int32) (x4_3 : Int32), sumN (y * c) (ovV V lc c (nI w)) = x4_2 → nI y = x4_3 → X false ΛM mX7_overPlaces (QN (qI (fun v m => sumN (c * r) (ovV V lc c (nI w)) = v ∧ SCR μ m))) 4 [(0, .ref 0), (1, .int (nI w)), (2, .int x4_2), (3, .int x4_3)] [] m := by
    intro kf
    induction kf with
    | zero => intro y m hp4_0 hp4_1 hp4_2; exfalso; omega
    | succ kf ih_4 =>
      intro y m hp4_0 hp4_1 hp4_2 x4_2 x4_3
      rintro rfl rfl
      refine X_iload_n 4 3 dX7_overPlaces_4 rfl rfl ?_
      refine X_aload_n 5 0 dX7_overPlaces_5 rfl rfl ?_
      refine X_getR (f := 0) 6 dX7_overPlaces_6 lf_RX7_7 iw7 vc7 (by decide) lyM rfl ?_
      refine X_iconst 9 (1) dX7_overPlaces_9 (by decide) ?_
      refine X_iald 10 dX7_overPlaces_10 lyM1 (vp_in_nI (n := 1) (by decide) (by decide)) ?_
      rw [cl1]
      rw [SCR_1 hp4_2, hM.1.1.2.1]
      refine X_icmp_ge 11 127 dX7_overPlaces_11 (by decide) (fun c_11 => ?_) (fun c_11 => ?_)
      · have hge : r ≤ y := c_ge rfl (by omega) (by omega) c_11
        have hie : r = y := by omega
        subst hie
        refine X_iload_n 127 2 dX7_overPlaces_127 rfl rfl ?_
        refine X_iret 128 dX7_overPlaces_128 rfl rfl ⟨_, rfl, _, rfl, ?_⟩
        exact ⟨by rw [Nat.mul_comm], hp4_2⟩
      · have hlty : y < r := c_lt rfl (by omega) (by omega) c_11
        refine X_iconst 14 (0) dX7_overPlaces_14 (by decide) ?_
        refine X_istore 15 [(4, .int _), (0, .ref _), (1, .int _), (2, .int _), (3, .int _)] dX7_overPlaces_15 (by decide) rfl ?_
        refine X_sub [1, 2, 3, 4, 0] [(0, .ref _), (1, .int _), (2, .int _), (3, .int _), (4, .int _)] rfl ?_
        have L_17 : ∀ (kf : Nat) (x : Nat) (m2 : Mm), x ≤ c → c < x + kf → SCR μ m2 → ∀ (x17_2 : Int32) (x17_4 : Int32), sumN (y * c + x) (ovV V lc c (nI w)) = x17_2 → nI x = x17_4 → X false ΛM mX7_overPlaces (QN (qI (fun v m => sumN (c * r) (ovV V lc c (nI w)) = v ∧ SCR μ m))) 17 [(0, .ref 0), (1, .int (nI w)), (2, .int x17_2), (3, .int (nI y)), (4, .int x17_4)] [] m2 := by
          intro kf
          induction kf with
          | zero => intro x m2 hp17_0 hp17_1 hp17_2; exfalso; omega
          | succ kf ih_17 =>
            intro x m2 hp17_0 hp17_1 hp17_2 x17_2 x17_4
            rintro rfl rfl
            refine X_iload 17 4 dX7_overPlaces_17 rfl ?_
            refine X_aload_n 19 0 dX7_overPlaces_19 rfl rfl ?_
            refine X_getR (f := 0) 20 dX7_overPlaces_20 lf_RX7_7 iw7 vc7 (by decide) lyM rfl ?_
            refine X_iconst 23 (0) dX7_overPlaces_23 (by decide) ?_
            refine X_iald 24 dX7_overPlaces_24 lyM1 (vp_in_nI (n := 0) (by decide) (by decide)) ?_
            rw [cl0]
            rw [SCR_1 hp17_2, hM.1.1.1]
            refine X_icmp_ge 25 121 dX7_overPlaces_25 (by decide) (fun c_25 => ?_) (fun c_25 => ?_)
            · have hge : c ≤ x := c_ge rfl (by omega) (by omega) c_25
              have hie : c = x := by omega
              subst hie
              refine X_iinc 121 3 (_ + 1) [(3, .int _), (0, .ref _), (1, .int _), (2, .int _), (4, .int _)] dX7_overPlaces_121 rfl rfl (by decide) rfl ?_
              refine X_goto 124 4 dX7_overPlaces_124 (by decide) ?_
              refine X_sub [1, 2, 3, 0] [(0, .ref _), (1, .int _), (2, .int _), (3, .int _)] rfl ?_
              exact ih_4 (y + 1) _ (by omega) (by omega) hp17_2 _ _  (by rw [Nat.succ_mul]) (by exact (nI_1 y).symm)
            · have hltx : x < c := c_lt rfl (by omega) (by omega) c_25
              refine X_aload_n 28 0 dX7_overPlaces_28 rfl rfl ?_
              refine X_iload 29 4 dX7_overPlaces_29 rfl ?_
              refine X_iload_n 31 3 dX7_overPlaces_31 rfl rfl ?_
              refine X_cVV 32 [.int _, .int _] (e_shJ V c r lc x y m2 (MI_SC hM hp17_2) hltx hlty) dX7_overPlaces_32 lm_RX7_115 2 ⟨wm_X7_shines, by decide +kernel, rfl, rfl⟩ rfl ⟨Nat.le_of_ble_eq_true rfl, Nat.le_of_ble_eq_true rfl⟩ lyM vc7 rfl rfl (Nat.le_of_ble_eq_true rfl) ?_
              rintro m9 hS9
              refine X_iload_n 35 1 dX7_overPlaces_35 rfl rfl ?_
              refine X_bipush 36 (13) dX7_overPlaces_36 (by decide) ?_
              refine X_icmp_ne 38 60 dX7_overPlaces_38 (by decide) (fun c_38 => ?_) (fun c_38 => ?_)
              · refine X_aload_n 60 0 dX7_overPlaces_60 rfl rfl ?_
                refine X_iload 61 4 dX7_overPlaces_61 rfl ?_
                refine X_iload_n 63 3 dX7_overPlaces_63 rfl rfl ?_
                refine X_cVI 64 [.int _, .int _] (e_X7_state x y _ (by omega) (by omega)) dX7_overPlaces_64 lm_RX7_118 2 ⟨wm_X7_state, by decide +kernel, rfl, rfl⟩ rfl ⟨Nat.le_of_ble_eq_true rfl, Nat.le_of_ble_eq_true rfl⟩ lyM vc7 rfl rfl (Nat.le_of_ble_eq_true rfl) ?_
                rintro _ _ ⟨rfl, rfl⟩
                rw [st_SHJ hS9 (MI_SC hM hp17_2) hltx hlty]
                refine X_iload_n 67 1 dX7_overPlaces_67 rfl rfl ?_
                refine X_bipush 68 (6) dX7_overPlaces_68 (by decide) ?_
                refine X_isub 70 dX7_overPlaces_70 ?_
                refine X_icmp_ne 71 78 dX7_overPlaces_71 (by decide) (fun c_71 => ?_) (fun c_71 => ?_)
                · refine X_iconst 78 (0) dX7_overPlaces_78 (by decide) ?_
                  refine X_istore 79 [(5, .int _), (0, .ref _), (1, .int _), (2, .int _), (3, .int _), (4, .int _)] dX7_overPlaces_79 (by decide) rfl ?_
                  refine X_iload_n 81 3 dX7_overPlaces_81 rfl rfl ?_
                  refine X_iload_n 82 2 dX7_overPlaces_82 rfl rfl ?_
                  refine X_bipush 83 (10) dX7_overPlaces_83 (by decide) ?_
                  refine X_icmp_ne 85 98 dX7_overPlaces_85 (by decide) (fun c_85 => ?_) (fun c_85 => ?_)
                  · refine X_iload_n 98 2 dX7_overPlaces_98 rfl rfl ?_
                    refine X_bipush 99 (11) dX7_overPlaces_99 (by decide) ?_
                    refine X_icmp_ne 101 111 dX7_overPlaces_101 (by decide) (fun c_101 => ?_) (fun c_101 => ?_)
                    · refine X_iload 111 0 dX7_overPlaces_111 rfl ?_
                      try rw [hS9.2.2.1]
                      refine X_iadd 113 dX7_overPlaces_113 ?_
                      refine X_istore_n 114 [(2, .int _), (5, .int _), (0, .ref _), (1, .int _), (3, .int _), (4, .int _)] dX7_overPlaces_114 rfl (by decide) rfl ?_
                      refine X_iinc 115 5 (_ + 1) [(4, .int _), (2, .int _), (5, .int _), (0, .ref _), (1, .int _), (3, .int _)] dX7_overPlaces_115 rfl rfl (by decide) rfl ?_
                      refine X_goto 118 17 dX7_overPlaces_118 (by decide) ?_
                      refine X_sub [3, 4, 1, 5, 0] [(0, .ref _), (1, .int _), (2, .int _), (3, .int _), (4, .int _)] rfl ?_
                      exact ih_17 (x + 1) _ (by omega) (by omega) (SCR_t hp17_2 (SCR_0 hS9.1)) _ _  (by (first | exact sum_st (if_pos c_85) | exact sum_st ((if_neg c_85).trans (if_pos c_101)) | exact sum_st ((if_neg c_85).trans ((if_neg c_101).trans ((if_pos c_38).trans (if_pos (Int32.not_le.mp c_49))))) | exact sum_st ((if_neg c_85).trans ((if_neg c_101).trans ((if_pos c_38).trans (if_neg (Int32.not_lt.mpr c_49))))) | exact sum_st ((if_neg c_85).trans ((if_neg c_101).trans ((if_neg c_38).trans (if_pos c_71)))) | exact sum_st ((if_neg c_85).trans ((if_neg c_101).trans ((if_neg c_38).trans (if_neg c_71)))))) (by exact (nI_1 x).symm)
                    · refine X_aload_n 104 1 dX7_overPlaces_104 rfl rfl ?_
                      refine X_getI (f := 12) 105 dX7_overPlaces_105 lf_RX7_112 iw7 vc7 (by decide) lyM rfl ?_
                      refine X_goto 108 113 dX7_overPlaces_108 (by decide) ?_
                      try rw [hS9.2.2.1]
                      refine X_iadd 113 dX7_overPlaces_113 ?_
                      refine X_istore_n 114 [(2, .int _), (5, .int _), (0, .ref _), (1, .int _), (3, .int _), (4, .int _)] dX7_overPlaces_114 rfl (by decide) rfl ?_
                      refine X_iinc 115 5 (_ + 1) [(4, .int _), (2, .int _), (5, .int _), (0, .ref _), (1, .int _), (3, .int _)] dX7_overPlaces_115 rfl rfl (by decide) rfl ?_
                      refine X_goto 118 17 dX7_overPlaces_118 (by decide) ?_
                      refine X_sub [3, 4, 1, 5, 0] [(0, .ref _), (1, .int _), (2, .int _), (3, .int _), (4, .int _)] rfl ?_
                      exact ih_17 (x + 1) _ (by omega) (by omega) (SCR_t hp17_2 (SCR_0 hS9.1)) _ _  (by (first | exact sum_st (if_pos c_85) | exact sum_st ((if_neg c_85).trans (if_pos c_101)) | exact sum_st ((if_neg c_85).trans ((if_neg c_101).trans ((if_pos c_38).trans (if_pos (Int32.not_le.mp c_49))))) | exact sum_st ((if_neg c_85).trans ((if_neg c_101).trans ((if_pos c_38).trans (if_neg (Int32.not_lt.mpr c_49))))) | exact sum_st ((if_neg c_85).trans ((if_neg c_101).trans ((if_neg c_38).trans (if_pos c_71)))) | exact sum_st ((if_neg c_85).trans ((if_neg c_101).trans ((if_neg c_38).trans (if_neg c_71)))))) (by exact (nI_1 x).symm)
                  · refine X_aload_n 88 1 dX7_overPlaces_88 rfl rfl ?_
                    refine X_iload 89 5 dX7_overPlaces_89 rfl ?_
                    refine X_iload_n 91 4 dX7_overPlaces_91 rfl rfl ?_
                    refine X_cVI 92 [.int _, .int _] (e_X7_target x y _ (by omega) (by omega)) dX7_overPlaces_92 lm_RX7_94 2 ⟨wm_X7_target, by decide +kernel, rfl, rfl⟩ rfl ⟨Nat.le_of_ble_eq_true rfl, Nat.le_of_ble_eq_true rfl⟩ lyM vc7 rfl rfl (Nat.le_of_ble_eq_true rfl) ?_
                    rintro _ _ ⟨rfl, rfl⟩
                    rw [tg_SHJ hS9 (MI_SC hM hp17_2) hltx hlty]
                    refine X_goto 95 113 dX7_overPlaces_95 (by decide) ?_
                    try rw [hS9.2.2.1]
                    refine X_iadd 113 dX7_overPlaces_113 ?_
                    refine X_istore_n 114 [(2, .int _), (5, .int _), (0, .ref _), (1, .int _), (3, .int _), (4, .int _)] dX7_overPlaces_114 rfl (by decide) rfl ?_
                    refine X_iinc 115 5 (_ + 1) [(4, .int _), (2, .int _), (5, .int _), (0, .ref _), (1, .int _), (3, .int _)] dX7_overPlaces_115 rfl rfl (by decide) rfl ?_
                    refine X_goto 118 17 dX7_overPlaces_118 (by decide) ?_
                    refine X_sub [3, 4, 1, 5, 0] [(0, .ref _), (1, .int _), (2, .int _), (3, .int _), (4, .int _)] rfl ?_
                    exact ih_17 (x + 1) _ (by omega) (by omega) (SCR_t hp17_2 (SCR_0 hS9.1)) _ _  (by (first | exact sum_st (if_pos c_85) | exact sum_st ((if_neg c_85).trans (if_pos c_101)) | exact sum_st ((if_neg c_85).trans ((if_neg c_101).trans ((if_pos c_38).trans (if_pos (Int32.not_le.mp c_49))))) | exact sum_st ((if_neg c_85).trans ((if_neg c_101).trans ((if_pos c_38).trans (if_neg (Int32.not_lt.mpr c_49))))) | exact sum_st ((if_neg c_85).trans ((if_neg c_101).trans ((if_neg c_38).trans (if_pos c_71)))) | exact sum_st ((if_neg c_85).trans ((if_neg c_101).trans ((if_neg c_38).trans (if_neg c_71)))))) (by exact (nI_1 x).symm)
                · refine X_iconst 74 (1) dX7_overPlaces_74 (by decide) ?_
                  refine X_goto 75 79 dX7_overPlaces_75 (by decide) ?_
                  refine X_istore 79 [(5, .int _), (0, .ref _), (1, .int _), (2, .int _), (3, .int _), (4, .int _)] dX7_overPlaces_79 (by decide) rfl ?_
                  refine X_iload_n 81 3 dX7_overPlaces_81 rfl rfl ?_
                  refine X_iload_n 82 2 dX7_overPlaces_82 rfl rfl ?_
                  refine X_bipush 83 (10) dX7_overPlaces_83 (by decide) ?_
                  refine X_icmp_ne 85 98 dX7_overPlaces_85 (by decide) (fun c_85 => ?_) (fun c_85 => ?_)
                  · refine X_iload_n 98 2 dX7_overPlaces_98 rfl rfl ?_
                    refine X_bipush 99 (11) dX7_overPlaces_99 (by decide) ?_
                    refine X_icmp_ne 101 111 dX7_overPlaces_101 (by decide) (fun c_101 => ?_) (fun c_101 => ?_)
                    · refine X_iload 111 0 dX7_overPlaces_111 rfl ?_
                      try rw [hS9.2.2.1]
                      refine X_iadd 113 dX7_overPlaces_113 ?_
                      refine X_istore_n 114 [(2, .int _), (5, .int _), (0, .ref _), (1, .int _), (3, .int _), (4, .int _)] dX7_overPlaces_114 rfl (by decide) rfl ?_
                      refine X_iinc 115 5 (_ + 1) [(4, .int _), (2, .int _), (5, .int _), (0, .ref _), (1, .int _), (3, .int _)] dX7_overPlaces_115 rfl rfl (by decide) rfl ?_
                      refine X_goto 118 17 dX7_overPlaces_118 (by decide) ?_
                      refine X_sub [3, 4, 1, 5, 0] [(0, .ref _), (1, .int _), (2, .int _), (3, .int _), (4, .int _)] rfl ?_
                      exact ih_17 (x + 1) _ (by omega) (by omega) (SCR_t hp17_2 (SCR_0 hS9.1)) _ _  (by (first | exact sum_st (if_pos c_85) | exact sum_st ((if_neg c_85).trans (if_pos c_101)) | exact sum_st ((if_neg c_85).trans ((if_neg c_101).trans ((if_pos c_38).trans (if_pos (Int32.not_le.mp c_49))))) | exact sum_st ((if_neg c_85).trans ((if_neg c_101).trans ((if_pos c_38).trans (if_neg (Int32.not_lt.mpr c_49))))) | exact sum_st ((if_neg c_85).trans ((if_neg c_101).trans ((if_neg c_38).trans (if_pos c_71)))) | exact sum_st ((if_neg c_85).trans ((if_neg c_101).trans ((if_neg c_38).trans (if_neg c_71)))))) (by exact (nI_1 x).symm)
                    · refine X_aload_n 104 1 dX7_overPlaces_104 rfl rfl ?_
                      refine X_getI (f := 12) 105 dX7_overPlaces_105 lf_RX7_112 iw7 vc7 (by decide) lyM rfl ?_
                      refine X_goto 108 113 dX7_overPlaces_108 (by decide) ?_
                      try rw [hS9.2.2.1]
                      refine X_iadd 113 dX7_overPlaces_113 ?_
                      refine X_istore_n 114 [(2, .int _), (5, .int _), (0, .ref _), (1, .int _), (3, .int _), (4, .int _)] dX7_overPlaces_114 rfl (by decide) rfl ?_
                      refine X_iinc 115 5 (_ + 1) [(4, .int _), (2, .int _), (5, .int _), (0, .ref _), (1, .int _), (3, .int _)] dX7_overPlaces_115 rfl rfl (by decide) rfl ?_
                      refine X_goto 118 17 dX7_overPlaces_118 (by decide) ?_
                      refine X_sub [3, 4, 1, 5, 0] [(0, .ref _), (1, .int _), (2, .int _), (3, .int _), (4, .int _)] rfl ?_
                      exact ih_17 (x + 1) _ (by omega) (by omega) (SCR_t hp17_2 (SCR_0 hS9.1)) _ _  (by (first | exact sum_st (if_pos c_85) | exact sum_st ((if_neg c_85).trans (if_pos c_101)) | exact sum_st ((if_neg c_85).trans ((if_neg c_101).trans ((if_pos c_38).trans (if_pos (Int32.not_le.mp c_49))))) | exact sum_st ((if_neg c_85).trans ((if_neg c_101).trans ((if_pos c_38).trans (if_neg (Int32.not_lt.mpr c_49))))) | exact sum_st ((if_neg c_85).trans ((if_neg c_101).trans ((if_neg c_38).trans (if_pos c_71)))) | exact sum_st ((if_neg c_85).trans ((if_neg c_101).trans ((if_neg c_38).trans (if_neg c_71)))))) (by exact (nI_1 x).symm)
                  · refine X_aload_n 88 1 dX7_overPlaces_88 rfl rfl ?_
                    refine X_iload 89 5 dX7_overPlaces_89 rfl ?_
                    refine X_iload_n 91 4 dX7_overPlaces_91 rfl rfl ?_
                    refine X_cVI 92 [.int _, .int _] (e_X7_target x y _ (by omega) (by omega)) dX7_overPlaces_92 lm_RX7_94 2 ⟨wm_X7_target, by decide +kernel, rfl, rfl⟩ rfl ⟨Nat.le_of_ble_eq_true rfl, Nat.le_of_ble_eq_true rfl⟩ lyM vc7 rfl rfl (Nat.le_of_ble_eq_true rfl) ?_
                    rintro _ _ ⟨rfl, rfl⟩
                    rw [tg_SHJ hS9 (MI_SC hM hp17_2) hltx hlty]
                    refine X_goto 95 113 dX7_overPlaces_95 (by decide) ?_
                    try rw [hS9.2.2.1]
                    refine X_iadd 113 dX7_overPlaces_113 ?_
                    refine X_istore_n 114 [(2, .int _), (5, .int _), (0, .ref _), (1, .int _), (3, .int _), (4, .int _)] dX7_overPlaces_114 rfl (by decide) rfl ?_
                    refine X_iinc 115 5 (_ + 1) [(4, .int _), (2, .int _), (5, .int _), (0, .ref _), (1, .int _), (3, .int _)] dX7_overPlaces_115 rfl rfl (by decide) rfl ?_
                    refine X_goto 118 17 dX7_overPlaces_118 (by decide) ?_
                    refine X_sub [3, 4, 1, 5, 0] [(0, .ref _), (1, .int _), (2, .int _), (3, .int _), (4, .int _)] rfl ?_
                    exact ih_17 (x + 1) _ (by omega) (by omega) (SCR_t hp17_2 (SCR_0 hS9.1)) _ _  (by (first | exact sum_st (if_pos c_85) | exact sum_st ((if_neg c_85).trans (if_pos c_101)) | exact sum_st ((if_neg c_85).trans ((if_neg c_101).trans ((if_pos c_38).trans (if_pos (Int32.not_le.mp c_49))))) | exact sum_st ((if_neg c_85).trans ((if_neg c_101).trans ((if_pos c_38).trans (if_neg (Int32.not_lt.mpr c_49))))) | exact sum_st ((if_neg c_85).trans ((if_neg c_101).trans ((if_neg c_38).trans (if_pos c_71)))) | exact sum_st ((if_neg c_85).trans ((if_neg c_101).trans ((if_neg c_38).trans (if_neg c_71)))))) (by exact (nI_1 x).symm)
              · refine X_aload_n 41 0 dX7_overPlaces_41 rfl rfl ?_
                refine X_getI (f := 11) 42 dX7_overPlaces_42 lf_RX7_80 iw7 vc7 (by decide) lyM rfl ?_
                refine X_cSI 45 [.int _] (e_X7_bits _ _ _ (by rw [hS9.2.1]; exact cv_bits V lc c (y * c + x))) dX7_overPlaces_45 lm_RX7_136 1 ⟨wm_X7_bits, by decide +kernel, rfl, rfl⟩ rfl ⟨Nat.le_of_ble_eq_true rfl, Nat.le_of_ble_eq_true rfl⟩ rfl (Nat.le_of_ble_eq_true rfl) ?_
                rintro _ _ ⟨rfl, rfl⟩
                refine X_iconst 48 (1) dX7_overPlaces_48 (by decide) ?_
                refine X_icmp_le 49 56 dX7_overPlaces_49 (by decide) (fun c_49 => ?_) (fun c_49 => ?_)
                · refine X_iconst 56 (0) dX7_overPlaces_56 (by decide) ?_
                  refine X_goto 57 79 dX7_overPlaces_57 (by decide) ?_
                  refine X_istore 79 [(5, .int _), (0, .ref _), (1, .int _), (2, .int _), (3, .int _), (4, .int _)] dX7_overPlaces_79 (by decide) rfl ?_
                  refine X_iload_n 81 3 dX7_overPlaces_81 rfl rfl ?_
                  refine X_iload_n 82 2 dX7_overPlaces_82 rfl rfl ?_
                  refine X_bipush 83 (10) dX7_overPlaces_83 (by decide) ?_
                  refine X_icmp_ne 85 98 dX7_overPlaces_85 (by decide) (fun c_85 => ?_) (fun c_85 => ?_)
                  · refine X_iload_n 98 2 dX7_overPlaces_98 rfl rfl ?_
                    refine X_bipush 99 (11) dX7_overPlaces_99 (by decide) ?_
                    refine X_icmp_ne 101 111 dX7_overPlaces_101 (by decide) (fun c_101 => ?_) (fun c_101 => ?_)
                    · refine X_iload 111 0 dX7_overPlaces_111 rfl ?_
                      try rw [hS9.2.2.1]
                      refine X_iadd 113 dX7_overPlaces_113 ?_
                      refine X_istore_n 114 [(2, .int _), (5, .int _), (0, .ref _), (1, .int _), (3, .int _), (4, .int _)] dX7_overPlaces_114 rfl (by decide) rfl ?_
                      refine X_iinc 115 5 (_ + 1) [(4, .int _), (2, .int _), (5, .int _), (0, .ref _), (1, .int _), (3, .int _)] dX7_overPlaces_115 rfl rfl (by decide) rfl ?_
                      refine X_goto 118 17 dX7_overPlaces_118 (by decide) ?_
                      refine X_sub [3, 4, 1, 5, 0] [(0, .ref _), (1, .int _), (2, .int _), (3, .int _), (4, .int _)] rfl ?_
                      exact ih_17 (x + 1) _ (by omega) (by omega) (SCR_t hp17_2 (SCR_0 hS9.1)) _ _  (by (first | exact sum_st (if_pos c_85) | exact sum_st ((if_neg c_85).trans (if_pos c_101)) | exact sum_st ((if_neg c_85).trans ((if_neg c_101).trans ((if_pos c_38).trans (if_pos (Int32.not_le.mp c_49))))) | exact sum_st ((if_neg c_85).trans ((if_neg c_101).trans ((if_pos c_38).trans (if_neg (Int32.not_lt.mpr c_49))))) | exact sum_st ((if_neg c_85).trans ((if_neg c_101).trans ((if_neg c_38).trans (if_pos c_71)))) | exact sum_st ((if_neg c_85).trans ((if_neg c_101).trans ((if_neg c_38).trans (if_neg c_71)))))) (by exact (nI_1 x).symm)
                    · refine X_aload_n 104 1 dX7_overPlaces_104 rfl rfl ?_
                      refine X_getI (f := 12) 105 dX7_overPlaces_105 lf_RX7_112 iw7 vc7 (by decide) lyM rfl ?_
                      refine X_goto 108 113 dX7_overPlaces_108 (by decide) ?_
                      try rw [hS9.2.2.1]
                      refine X_iadd 113 dX7_overPlaces_113 ?_
                      refine X_istore_n 114 [(2, .int _), (5, .int _), (0, .ref _), (1, .int _), (3, .int _), (4, .int _)] dX7_overPlaces_114 rfl (by decide) rfl ?_
                      refine X_iinc 115 5 (_ + 1) [(4, .int _), (2, .int _), (5, .int _), (0, .ref _), (1, .int _), (3, .int _)] dX7_overPlaces_115 rfl rfl (by decide) rfl ?_
                      refine X_goto 118 17 dX7_overPlaces_118 (by decide) ?_
                      refine X_sub [3, 4, 1, 5, 0] [(0, .ref _), (1, .int _), (2, .int _), (3, .int _), (4, .int _)] rfl ?_
                      exact ih_17 (x + 1) _ (by omega) (by omega) (SCR_t hp17_2 (SCR_0 hS9.1)) _ _  (by (first | exact sum_st (if_pos c_85) | exact sum_st ((if_neg c_85).trans (if_pos c_101)) | exact sum_st ((if_neg c_85).trans ((if_neg c_101).trans ((if_pos c_38).trans (if_pos (Int32.not_le.mp c_49))))) | exact sum_st ((if_neg c_85).trans ((if_neg c_101).trans ((if_pos c_38).trans (if_neg (Int32.not_lt.mpr c_49))))) | exact sum_st ((if_neg c_85).trans ((if_neg c_101).trans ((if_neg c_38).trans (if_pos c_71)))) | exact sum_st ((if_neg c_85).trans ((if_neg c_101).trans ((if_neg c_38).trans (if_neg c_71)))))) (by exact (nI_1 x).symm)
                  · refine X_aload_n 88 1 dX7_overPlaces_88 rfl rfl ?_
                    refine X_iload 89 5 dX7_overPlaces_89 rfl ?_
                    refine X_iload_n 91 4 dX7_overPlaces_91 rfl rfl ?_
                    refine X_cVI 92 [.int _, .int _] (e_X7_target x y _ (by omega) (by omega)) dX7_overPlaces_92 lm_RX7_94 2 ⟨wm_X7_target, by decide +kernel, rfl, rfl⟩ rfl ⟨Nat.le_of_ble_eq_true rfl, Nat.le_of_ble_eq_true rfl⟩ lyM vc7 rfl rfl (Nat.le_of_ble_eq_true rfl) ?_
                    rintro _ _ ⟨rfl, rfl⟩
                    rw [tg_SHJ hS9 (MI_SC hM hp17_2) hltx hlty]
                    refine X_goto 95 113 dX7_overPlaces_95 (by decide) ?_
                    try rw [hS9.2.2.1]
                    refine X_iadd 113 dX7_overPlaces_113 ?_
                    refine X_istore_n 114 [(2, .int _), (5, .int _), (0, .ref _), (1, .int _), (3, .int _), (4, .int _)] dX7_overPlaces_114 rfl (by decide) rfl ?_
                    refine X_iinc 115 5 (_ + 1) [(4, .int _), (2, .int _), (5, .int _), (0, .ref _), (1, .int _), (3, .int _)] dX7_overPlaces_115 rfl rfl (by decide) rfl ?_
                    refine X_goto 118 17 dX7_overPlaces_118 (by decide) ?_
                    refine X_sub [3, 4, 1, 5, 0] [(0, .ref _), (1, .int _), (2, .int _), (3, .int _), (4, .int _)] rfl ?_
                    exact ih_17 (x + 1) _ (by omega) (by omega) (SCR_t hp17_2 (SCR_0 hS9.1)) _ _  (by (first | exact sum_st (if_pos c_85) | exact sum_st ((if_neg c_85).trans (if_pos c_101)) | exact sum_st ((if_neg c_85).trans ((if_neg c_101).trans ((if_pos c_38).trans (if_pos (Int32.not_le.mp c_49))))) | exact sum_st ((if_neg c_85).trans ((if_neg c_101).trans ((if_pos c_38).trans (if_neg (Int32.not_lt.mpr c_49))))) | exact sum_st ((if_neg c_85).trans ((if_neg c_101).trans ((if_neg c_38).trans (if_pos c_71)))) | exact sum_st ((if_neg c_85).trans ((if_neg c_101).trans ((if_neg c_38).trans (if_neg c_71)))))) (by exact (nI_1 x).symm)
                · refine X_iconst 52 (1) dX7_overPlaces_52 (by decide) ?_
                  refine X_goto 53 79 dX7_overPlaces_53 (by decide) ?_
                  refine X_istore 79 [(5, .int _), (0, .ref _), (1, .int _), (2, .int _), (3, .int _), (4, .int _)] dX7_overPlaces_79 (by decide) rfl ?_
                  refine X_iload_n 81 3 dX7_overPlaces_81 rfl rfl ?_
                  refine X_iload_n 82 2 dX7_overPlaces_82 rfl rfl ?_
                  refine X_bipush 83 (10) dX7_overPlaces_83 (by decide) ?_
                  refine X_icmp_ne 85 98 dX7_overPlaces_85 (by decide) (fun c_85 => ?_) (fun c_85 => ?_)
                  · refine X_iload_n 98 2 dX7_overPlaces_98 rfl rfl ?_
                    refine X_bipush 99 (11) dX7_overPlaces_99 (by decide) ?_
                    refine X_icmp_ne 101 111 dX7_overPlaces_101 (by decide) (fun c_101 => ?_) (fun c_101 => ?_)
                    · refine X_iload 111 0 dX7_overPlaces_111 rfl ?_
                      try rw [hS9.2.2.1]
                      refine X_iadd 113 dX7_overPlaces_113 ?_
                      refine X_istore_n 114 [(2, .int _), (5, .int _), (0, .ref _), (1, .int _), (3, .int _), (4, .int _)] dX7_overPlaces_114 rfl (by decide) rfl ?_
                      refine X_iinc 115 5 (_ + 1) [(4, .int _), (2, .int _), (5, .int _), (0, .ref _), (1, .int _), (3, .int _)] dX7_overPlaces_115 rfl rfl (by decide) rfl ?_
                      refine X_goto 118 17 dX7_overPlaces_118 (by decide) ?_
                      refine X_sub [3, 4, 1, 5, 0] [(0, .ref _), (1, .int _), (2, .int _), (3, .int _), (4, .int _)] rfl ?_
                      exact ih_17 (x + 1) _ (by omega) (by omega) (SCR_t hp17_2 (SCR_0 hS9.1)) _ _  (by (first | exact sum_st (if_pos c_85) | exact sum_st ((if_neg c_85).trans (if_pos c_101)) | exact sum_st ((if_neg c_85).trans ((if_neg c_101).trans ((if_pos c_38).trans (if_pos (Int32.not_le.mp c_49))))) | exact sum_st ((if_neg c_85).trans ((if_neg c_101).trans ((if_pos c_38).trans (if_neg (Int32.not_lt.mpr c_49))))) | exact sum_st ((if_neg c_85).trans ((if_neg c_101).trans ((if_neg c_38).trans (if_pos c_71)))) | exact sum_st ((if_neg c_85).trans ((if_neg c_101).trans ((if_neg c_38).trans (if_neg c_71)))))) (by exact (nI_1 x).symm)
                    · refine X_aload_n 104 1 dX7_overPlaces_104 rfl rfl ?_
                      refine X_getI (f := 12) 105 dX7_overPlaces_105 lf_RX7_112 iw7 vc7 (by decide) lyM rfl ?_
                      refine X_goto 108 113 dX7_overPlaces_108 (by decide) ?_
                      try rw [hS9.2.2.1]
                      refine X_iadd 113 dX7_overPlaces_113 ?_
                      refine X_istore_n 114 [(2, .int _), (5, .int _), (0, .ref _), (1, .int _), (3, .int _), (4, .int _)] dX7_overPlaces_114 rfl (by decide) rfl ?_
                      refine X_iinc 115 5 (_ + 1) [(4, .int _), (2, .int _), (5, .int _), (0, .ref _), (1, .int _), (3, .int _)] dX7_overPlaces_115 rfl rfl (by decide) rfl ?_
                      refine X_goto 118 17 dX7_overPlaces_118 (by decide) ?_
                      refine X_sub [3, 4, 1, 5, 0] [(0, .ref _), (1, .int _), (2, .int _), (3, .int _), (4, .int _)] rfl ?_
                      exact ih_17 (x + 1) _ (by omega) (by omega) (SCR_t hp17_2 (SCR_0 hS9.1)) _ _  (by (first | exact sum_st (if_pos c_85) | exact sum_st ((if_neg c_85).trans (if_pos c_101)) | exact sum_st ((if_neg c_85).trans ((if_neg c_101).trans ((if_pos c_38).trans (if_pos (Int32.not_le.mp c_49))))) | exact sum_st ((if_neg c_85).trans ((if_neg c_101).trans ((if_pos c_38).trans (if_neg (Int32.not_lt.mpr c_49))))) | exact sum_st ((if_neg c_85).trans ((if_neg c_101).trans ((if_neg c_38).trans (if_pos c_71)))) | exact sum_st ((if_neg c_85).trans ((if_neg c_101).trans ((if_neg c_38).trans (if_neg c_71)))))) (by exact (nI_1 x).symm)
                  · refine X_aload_n 88 1 dX7_overPlaces_88 rfl rfl ?_
                    refine X_iload 89 5 dX7_overPlaces_89 rfl ?_
                    refine X_iload_n 91 4 dX7_overPlaces_91 rfl rfl ?_
                    refine X_cVI 92 [.int _, .int _] (e_X7_target x y _ (by omega) (by omega)) dX7_overPlaces_92 lm_RX7_94 2 ⟨wm_X7_target, by decide +kernel, rfl, rfl⟩ rfl ⟨Nat.le_of_ble_eq_true rfl, Nat.le_of_ble_eq_true rfl⟩ lyM vc7 rfl rfl (Nat.le_of_ble_eq_true rfl) ?_
                    rintro _ _ ⟨rfl, rfl⟩
                    rw [tg_SHJ hS9 (MI_SC hM hp17_2) hltx hlty]
                    refine X_goto 95 113 dX7_overPlaces_95 (by decide) ?_
                    try rw [hS9.2.2.1]
                    refine X_iadd 113 dX7_overPlaces_113 ?_
                    refine X_istore_n 114 [(2, .int _), (5, .int _), (0, .ref _), (1, .int _), (3, .int _), (4, .int _)] dX7_overPlaces_114 rfl (by decide) rfl ?_
                    refine X_iinc 115 5 (_ + 1) [(4, .int _), (2, .int _), (5, .int _), (0, .ref _), (1, .int _), (3, .int _)] dX7_overPlaces_115 rfl rfl (by decide) rfl ?_
                    refine X_goto 118 17 dX7_overPlaces_118 (by decide) ?_
                    refine X_sub [3, 4, 1, 5, 0] [(0, .ref _), (1, .int _), (2, .int _), (3, .int _), (4, .int _)] rfl ?_
                    exact ih_17 (x + 1) _ (by omega) (by omega) (SCR_t hp17_2 (SCR_0 hS9.1)) _ _  (by (first | exact sum_st (if_pos c_85) | exact sum_st ((if_neg c_85).trans (if_pos c_101)) | exact sum_st ((if_neg c_85).trans ((if_neg c_101).trans ((if_pos c_38).trans (if_pos (Int32.not_le.mp c_49))))) | exact sum_st ((if_neg c_85).trans ((if_neg c_101).trans ((if_pos c_38).trans (if_neg (Int32.not_lt.mpr c_49))))) | exact sum_st ((if_neg c_85).trans ((if_neg c_101).trans ((if_neg c_38).trans (if_pos c_71)))) | exact sum_st ((if_neg c_85).trans ((if_neg c_101).trans ((if_neg c_38).trans (if_neg c_71)))))) (by exact (nI_1 x).symm)
        exact L_17 (c + 1) 0 _ (by omega) (by omega) hp4_2 _ _  (by rfl) (by exact nI_0)
  exact L_4 (r + 1) 0 _ (by omega) (by omega) SCR_r _ _  (by rw [Nat.zero_mul]; rfl) (by exact nI_0)
set_option maxHeartbeats 4000000 in
set_option maxRecDepth 100000 in
theorem e_X7_wholeOf (V : Mm) (c r lc : Nat) (w : Nat) (μ : Mm) (hM : MI V c r lc μ) (hV : V 0 0 = nI c ∧ V 0 1 = nI r ∧ V 0 5 = nI lc) (hw : w ≤ 14) : EvN ΛM mX7_wholeOf [.ref 0, .int (nI w)] μ (qI (fun v m => whV V lc c r (μ 0 5) w = v ∧ SCR μ m)) := by
  refine EvN_ofQ (by decide +kernel) rfl (fun _ => rfl) (fun _ => Nat.le_of_ble_eq_true rfl) (ls := [(0, .ref 0), (1, .int (nI w))]) ?_
  obtain ⟨⟨hc1, hc2⟩, ⟨hr1, hr2⟩, h8⟩ := MI_lc hM
  refine X_iload_n 0 1 dX7_wholeOf_0 rfl rfl ?_
  rcases (show w = 5 ∨ w = 12 ∨ w = 14 ∨ ¬ (w = 5 ∨ w = 12 ∨ w = 14) by omega) with rfl | rfl | rfl | hno
  · refine X_lookup (off := 35) 1 36 dX7_wholeOf_1 (by decide +kernel) (by decide +kernel) (by decide) ?_
    refine X_aload_n 36 0 dX7_wholeOf_36 rfl rfl ?_
    refine X_cVI 37 [] (e_X7_working V c r lc _ hM) dX7_wholeOf_37 lm_RX7_205 0 ⟨wm_X7_working, by decide +kernel, rfl, rfl⟩ rfl ⟨Nat.le_of_ble_eq_true rfl, Nat.le_of_ble_eq_true rfl⟩ lyM vc7 rfl rfl (Nat.le_of_ble_eq_true rfl) ?_
    rintro _ _ ⟨rfl, rfl⟩
    refine X_iret 40 dX7_wholeOf_40 rfl rfl ⟨_, rfl, _, rfl, ?_⟩
    exact ⟨rfl, SCR_r⟩
  · refine X_lookup (off := 40) 1 41 dX7_wholeOf_1 (by decide +kernel) (by decide +kernel) (by decide) ?_
    refine X_aload_n 41 0 dX7_wholeOf_41 rfl rfl ?_
    refine X_getR (f := 0) 42 dX7_wholeOf_42 lf_RX7_7 iw7 vc7 (by decide) lyM rfl ?_
    refine X_iconst 45 (5) dX7_wholeOf_45 (by decide) ?_
    refine X_iald 46 dX7_wholeOf_46 lyM1 (vp_in_nI (n := 5) (by decide) (by decide)) ?_
    rw [cl5]
    refine X_iret 47 dX7_wholeOf_47 rfl rfl ⟨_, rfl, _, rfl, ?_⟩
    exact ⟨hM.2.2.2.1.symm, SCR_r⟩
  · refine X_lookup (off := 47) 1 48 dX7_wholeOf_1 (by decide +kernel) (by decide +kernel) (by decide) ?_
    refine X_aload_n 48 0 dX7_wholeOf_48 rfl rfl ?_
    refine X_getI (f := 5) 49 dX7_wholeOf_49 lf_RX7_208 iw7 vc7 (by decide) lyM rfl ?_
    refine X_iret 52 dX7_wholeOf_52 rfl rfl ⟨_, rfl, _, rfl, ?_⟩
    exact ⟨rfl, SCR_r⟩
  · refine X_lookup (off := 52) 1 53 dX7_wholeOf_1 (by decide +kernel) (by exact lk_out w (by omega) hno) (by decide) ?_
    refine X_iload_n 53 1 dX7_wholeOf_53 rfl rfl ?_
    refine X_iconst 54 (5) dX7_wholeOf_54 (by decide) ?_
    refine X_icmp_ge 55 67 dX7_wholeOf_55 (by decide) (fun c_55 => ?_) (fun c_55 => ?_)
    · have h_55 : 5 ≤ w := c_ge (k := 5) rfl (by omega) (by omega) c_55
      refine X_aload_n 67 0 dX7_wholeOf_67 rfl rfl ?_
      refine X_iload_n 68 1 dX7_wholeOf_68 rfl rfl ?_
      refine X_cVI 69 [.int _] (e_X7_overPlaces V c r lc w _ hM hw) dX7_wholeOf_69 lm_RX7_211 1 ⟨wm_X7_overPlaces, by decide +kernel, rfl, rfl⟩ rfl ⟨Nat.le_of_ble_eq_true rfl, Nat.le_of_ble_eq_true rfl⟩ lyM vc7 rfl rfl (Nat.le_of_ble_eq_true rfl) ?_
      rintro _ m9 ⟨rfl, hS9⟩
      refine X_iret 72 dX7_wholeOf_72 rfl rfl ⟨_, rfl, _, rfl, ?_⟩
      first
        | exact ⟨(ov_whV (show w = 6 ∨ w = 7 ∨ w = 8 ∨ w = 9 ∨ w = 10 ∨ w = 11 ∨ w = 13 by omega)).symm, hS9⟩
        | (refine ⟨?_, SCR_r⟩
           rcases (show w = 0 ∨ w = 1 ∨ w = 2 ∨ w = 3 ∨ w = 4 by omega) with rfl | rfl | rfl | rfl | rfl
           · exact hV.1.trans hM.1.1.1.symm
           · exact hV.2.1.trans hM.1.1.2.1.symm
           · exact hM.2.1.symm
           · exact hM.2.2.1.symm
           · exact hV.2.2.trans hM.1.1.2.2.1.symm)
    · have h_55 : w < 5 := c_lt (k := 5) rfl (by omega) (by omega) c_55
      refine X_aload_n 58 0 dX7_wholeOf_58 rfl rfl ?_
      refine X_getR (f := 0) 59 dX7_wholeOf_59 lf_RX7_7 iw7 vc7 (by decide) lyM rfl ?_
      refine X_iload_n 62 1 dX7_wholeOf_62 rfl rfl ?_
      refine X_iald 63 dX7_wholeOf_63 lyM1 (vp_in_nI (N := 486) (by omega) (by decide)) ?_
      rw [nI_clamp (by omega)]
      refine X_goto 64 72 dX7_wholeOf_64 (by decide) ?_
      refine X_iret 72 dX7_wholeOf_72 rfl rfl ⟨_, rfl, _, rfl, ?_⟩
      first
        | exact ⟨(ov_whV (show w = 6 ∨ w = 7 ∨ w = 8 ∨ w = 9 ∨ w = 10 ∨ w = 11 ∨ w = 13 by omega)).symm, hS9⟩
        | (refine ⟨?_, SCR_r⟩
           rcases (show w = 0 ∨ w = 1 ∨ w = 2 ∨ w = 3 ∨ w = 4 by omega) with rfl | rfl | rfl | rfl | rfl
           · exact hV.1.trans hM.1.1.1.symm
           · exact hV.2.1.trans hM.1.1.2.1.symm
           · exact hM.2.1.symm
           · exact hM.2.2.1.symm
           · exact hV.2.2.trans hM.1.1.2.2.1.symm)
set_option maxHeartbeats 4000000 in
set_option maxRecDepth 100000 in
theorem e_X7_whole (V : Mm) (c r lc : Nat) (w : Int32) (μ : Mm) (hM : MI V c r lc μ) (hV : V 0 0 = nI c ∧ V 0 1 = nI r ∧ V 0 5 = nI lc) : EvN ΛM mX7_whole [.ref 0, .int w] μ (qI (Q2 (rgI w 0 14) (whV V lc c r (μ 0 5) (tn w)) μ)) := by
  refine EvN_ofQ (by decide +kernel) rfl (fun _ => rfl) (fun _ => Nat.le_of_ble_eq_true rfl) (ls := [(0, .ref 0), (1, .int w)]) ?_
  obtain ⟨⟨hc1, hc2⟩, ⟨hr1, hr2⟩, h8⟩ := MI_lc hM
  refine X_iload_n 0 1 dX7_whole_0 rfl rfl ?_
  refine X_iconst 1 (0) dX7_whole_1 (by decide) ?_
  refine X_bipush 2 (14) dX7_whole_2 (by decide) ?_
  refine X_cSI 4 [.int _, .int _, .int _] (e_X7_in _ _ _ _) dX7_whole_4 lm_RX7_41 3 ⟨wm_X7_in, by decide +kernel, rfl, rfl⟩ rfl ⟨Nat.le_of_ble_eq_true rfl, Nat.le_of_ble_eq_true rfl⟩ rfl (Nat.le_of_ble_eq_true rfl) ?_
  rintro _ _ ⟨rfl, ⟨rfl, b_4⟩ | ⟨rfl, b_4⟩⟩
  · refine X_if_eq 7 22 dX7_whole_7 (by decide) (fun c_0 => by exact absurd c_0 (by decide)) (fun _ => ?_)
    obtain ⟨j, hw, rfl⟩ := nat_le (n := 14) rfl b_4 (by omega)
    have ew : tn (nI j) = j := nI_clamp (by omega)
    refine X_aload_n 10 0 dX7_whole_10 rfl rfl ?_
    refine X_aload_n 11 0 dX7_whole_11 rfl rfl ?_
    refine X_iload_n 12 1 dX7_whole_12 rfl rfl ?_
    refine X_cVI 13 [.int _] (e_X7_wholeOf V c r lc j _ hM hV hw) dX7_whole_13 lm_RX7_214 1 ⟨wm_X7_wholeOf, by decide +kernel, rfl, rfl⟩ rfl ⟨Nat.le_of_ble_eq_true rfl, Nat.le_of_ble_eq_true rfl⟩ lyM vc7 rfl rfl (Nat.le_of_ble_eq_true rfl) ?_
    rintro _ m9 ⟨rfl, hS9⟩
    refine X_cVI 16 [.int _] (e_X7_tells _ _) dX7_whole_16 lm_RX7_58 1 ⟨wm_X7_tells, by decide +kernel, rfl, rfl⟩ rfl ⟨Nat.le_of_ble_eq_true rfl, Nat.le_of_ble_eq_true rfl⟩ lyM vc7 rfl rfl (Nat.le_of_ble_eq_true rfl) ?_
    rintro _ _ ⟨rfl, rfl⟩
    refine X_goto 19 27 dX7_whole_19 (by decide) ?_
    refine X_iret 27 dX7_whole_27 rfl rfl ⟨_, rfl, _, rfl, ?_⟩
    first
      | exact Or.inl ⟨b_4, uM_s _ _ _ _, KP_u⟩
      | exact Or.inr ⟨b_4, by rw [ew], q_ok hS9⟩
  · refine X_if_eq 7 22 dX7_whole_7 (by decide) (fun _ => ?_) (fun c_0 => by exact absurd c_0 (by decide))
    refine X_aload_n 22 0 dX7_whole_22 rfl rfl ?_
    refine X_iconst 23 (1) dX7_whole_23 (by decide) ?_
    refine X_cVI 24 [.int _] (e_X7_fails _ _) dX7_whole_24 lm_RX7_48 1 ⟨wm_X7_fails, by decide +kernel, rfl, rfl⟩ rfl ⟨Nat.le_of_ble_eq_true rfl, Nat.le_of_ble_eq_true rfl⟩ lyM vc7 rfl rfl (Nat.le_of_ble_eq_true rfl) ?_
    rintro _ _ ⟨rfl, rfl⟩
    refine X_iret 27 dX7_whole_27 rfl rfl ⟨_, rfl, _, rfl, ?_⟩
    first
      | exact Or.inl ⟨b_4, uM_s _ _ _ _, KP_u⟩
      | exact Or.inr ⟨b_4, by rw [ew], q_ok hS9⟩
set_option maxHeartbeats 4000000 in
set_option maxRecDepth 100000 in
theorem e_X7_wrong (V : Mm) (c r lc : Nat) (idx : Int32) (μ : Mm) (hM : MI V c r lc μ) : EvN ΛM mX7_wrong [.ref 0, .int idx] μ (qI (Q2 (¬ idx < 0) (wrV V lc c r idx) μ)) := by
  refine EvN_ofQ (by decide +kernel) rfl (fun _ => rfl) (fun _ => Nat.le_of_ble_eq_true rfl) (ls := [(0, .ref 0), (1, .int idx)]) ?_
  obtain ⟨⟨hc1, hc2⟩, ⟨hr1, hr2⟩, h8⟩ := MI_lc hM
  refine X_iload_n 0 1 dX7_wrong_0 rfl rfl ?_
  refine X_if_ge 1 10 dX7_wrong_1 (by decide) (fun c_1 => ?_) (fun c_1 => ?_)
  · refine X_iload_n 10 1 dX7_wrong_10 rfl rfl ?_
    refine X_istore_n 11 [(2, .int _), (0, .ref _), (1, .int _)] dX7_wrong_11 rfl (by decide) rfl ?_
    refine X_iconst 12 (0) dX7_wrong_12 (by decide) ?_
    refine X_istore_n 13 [(3, .int _), (2, .int _), (0, .ref _), (1, .int _)] dX7_wrong_13 rfl (by decide) rfl ?_
    refine X_sub [2, 3, 1, 0] [(0, .ref _), (1, .int _), (2, .int _), (3, .int _)] rfl ?_
    have L_14 : ∀ (kf : Nat) (y : Nat) (m : Mm), y ≤ r → r < y + kf → (SCR μ m ∧ fnd V lc c idx (y * c) = none) → ∀ (x14_2 : Int32) (x14_3 : Int32), lfN V lc c idx (y * c) = x14_2 → nI y = x14_3 → X false ΛM mX7_wrong (QN (qI (Q2 (¬ idx < 0) (wrV V lc c r idx) μ))) 14 [(0, .ref 0), (1, .int idx), (2, .int x14_2), (3, .int x14_3)] [] m := by
      intro kf
      induction kf with
      | zero => intro y m hp14_0 hp14_1 hp14_2; exfalso; omega
      | succ kf ih_14 =>
        intro y m hp14_0 hp14_1 hp14_2 x14_2 x14_3
        rintro rfl rfl
        refine X_iload_n 14 3 dX7_wrong_14 rfl rfl ?_
        refine X_aload_n 15 0 dX7_wrong_15 rfl rfl ?_
        refine X_getR (f := 0) 16 dX7_wrong_16 lf_RX7_7 iw7 vc7 (by decide) lyM rfl ?_
        refine X_iconst 19 (1) dX7_wrong_19 (by decide) ?_
        refine X_iald 20 dX7_wrong_20 lyM1 (vp_in_nI (n := 1) (by decide) (by decide)) ?_
        rw [cl1]
        rw [SCR_1 hp14_2.1, hM.1.1.2.1]
        refine X_icmp_ge 21 86 dX7_wrong_21 (by decide) (fun c_21 => ?_) (fun c_21 => ?_)
        · have hge : r ≤ y := c_ge rfl (by omega) (by omega) c_21
          have hie : r = y := by omega
          subst hie
          refine X_aload_n 86 0 dX7_wrong_86 rfl rfl ?_
          refine X_sipush 87 (-1000) dX7_wrong_87 (by decide) ?_
          refine X_cVI 90 [.int _] (e_X7_tells _ _) dX7_wrong_90 lm_RX7_58 1 ⟨wm_X7_tells, by decide +kernel, rfl, rfl⟩ rfl ⟨Nat.le_of_ble_eq_true rfl, Nat.le_of_ble_eq_true rfl⟩ lyM vc7 rfl rfl (Nat.le_of_ble_eq_true rfl) ?_
          rintro _ _ ⟨rfl, rfl⟩
          refine X_iret 93 dX7_wrong_93 rfl rfl ⟨_, rfl, _, rfl, ?_⟩
          exact Or.inr ⟨fun z => Int32.not_lt.mpr c_1 z, wr_none (by rw [Nat.mul_comm]; exact hp14_2.2), q_ok hp14_2.1⟩
        · have hlty : y < r := c_lt rfl (by omega) (by omega) c_21
          refine X_iconst 24 (0) dX7_wrong_24 (by decide) ?_
          refine X_istore 25 [(4, .int _), (0, .ref _), (1, .int _), (2, .int _), (3, .int _)] dX7_wrong_25 (by decide) rfl ?_
          refine X_sub [1, 2, 3, 4, 0] [(0, .ref _), (1, .int _), (2, .int _), (3, .int _), (4, .int _)] rfl ?_
          have L_27 : ∀ (kf : Nat) (x : Nat) (m2 : Mm), x ≤ c → c < x + kf → (SCR μ m2 ∧ fnd V lc c idx (y * c + x) = none) → ∀ (x27_2 : Int32) (x27_4 : Int32), lfN V lc c idx (y * c + x) = x27_2 → nI x = x27_4 → X false ΛM mX7_wrong (QN (qI (Q2 (¬ idx < 0) (wrV V lc c r idx) μ))) 27 [(0, .ref 0), (1, .int idx), (2, .int x27_2), (3, .int (nI y)), (4, .int x27_4)] [] m2 := by
            intro kf
            induction kf with
            | zero => intro x m2 hp27_0 hp27_1 hp27_2; exfalso; omega
            | succ kf ih_27 =>
              intro x m2 hp27_0 hp27_1 hp27_2 x27_2 x27_4
              rintro rfl rfl
              refine X_iload 27 4 dX7_wrong_27 rfl ?_
              refine X_aload_n 29 0 dX7_wrong_29 rfl rfl ?_
              refine X_getR (f := 0) 30 dX7_wrong_30 lf_RX7_7 iw7 vc7 (by decide) lyM rfl ?_
              refine X_iconst 33 (0) dX7_wrong_33 (by decide) ?_
              refine X_iald 34 dX7_wrong_34 lyM1 (vp_in_nI (n := 0) (by decide) (by decide)) ?_
              rw [cl0]
              rw [SCR_1 hp27_2.1, hM.1.1.1]
              refine X_icmp_ge 35 80 dX7_wrong_35 (by decide) (fun c_35 => ?_) (fun c_35 => ?_)
              · have hge : c ≤ x := c_ge rfl (by omega) (by omega) c_35
                have hie : c = x := by omega
                subst hie
                refine X_iinc 80 3 (_ + 1) [(3, .int _), (0, .ref _), (1, .int _), (2, .int _), (4, .int _)] dX7_wrong_80 rfl rfl (by decide) rfl ?_
                refine X_goto 83 14 dX7_wrong_83 (by decide) ?_
                refine X_sub [1, 2, 3, 0] [(0, .ref _), (1, .int _), (2, .int _), (3, .int _)] rfl ?_
                exact ih_14 (y + 1) _ (by omega) (by omega) ⟨hp27_2.1, by rw [Nat.succ_mul]; exact hp27_2.2⟩ _ _  (by rw [Nat.succ_mul]) (by exact (nI_1 y).symm)
              · have hltx : x < c := c_lt rfl (by omega) (by omega) c_35
                refine X_aload_n 38 0 dX7_wrong_38 rfl rfl ?_
                refine X_iload 39 4 dX7_wrong_39 rfl ?_
                refine X_iload_n 41 3 dX7_wrong_41 rfl rfl ?_
                refine X_cVV 42 [.int _, .int _] (e_shJ V c r lc x y m2 (MI_SC hM hp27_2.1) hltx hlty) dX7_wrong_42 lm_RX7_115 2 ⟨wm_X7_shines, by decide +kernel, rfl, rfl⟩ rfl ⟨Nat.le_of_ble_eq_true rfl, Nat.le_of_ble_eq_true rfl⟩ lyM vc7 rfl rfl (Nat.le_of_ble_eq_true rfl) ?_
                rintro m9 hS9
                refine X_aload_n 45 0 dX7_wrong_45 rfl rfl ?_
                refine X_iload 46 4 dX7_wrong_46 rfl ?_
                refine X_iload_n 48 3 dX7_wrong_48 rfl rfl ?_
                refine X_cVI 49 [.int _, .int _] (e_X7_state x y _ (by omega) (by omega)) dX7_wrong_49 lm_RX7_118 2 ⟨wm_X7_state, by decide +kernel, rfl, rfl⟩ rfl ⟨Nat.le_of_ble_eq_true rfl, Nat.le_of_ble_eq_true rfl⟩ lyM vc7 rfl rfl (Nat.le_of_ble_eq_true rfl) ?_
                rintro _ _ ⟨rfl, rfl⟩
                rw [st_SHJ hS9 (MI_SC hM hp27_2.1) hltx hlty]
                refine X_if_eq 52 74 dX7_wrong_52 (by decide) (fun c_52 => ?_) (fun c_52 => ?_)
                · have hn := fnd_next hp27_2.2 (Or.inl c_52)
                  have hl : lfN V lc c idx (y * c + x + 1) = lfN V lc c idx (y * c + x) := if_pos c_52
                  refine X_iinc 74 4 (_ + 1) [(4, .int _), (0, .ref _), (1, .int _), (2, .int _), (3, .int _)] dX7_wrong_74 rfl rfl (by decide) rfl ?_
                  refine X_goto 77 27 dX7_wrong_77 (by decide) ?_
                  refine X_sub [1, 2, 3, 4, 0] [(0, .ref _), (1, .int _), (2, .int _), (3, .int _), (4, .int _)] rfl ?_
                  exact ih_27 (x + 1) _ (by omega) (by omega) ⟨SCR_t hp27_2.1 (SCR_0 hS9.1), hn⟩ _ _  (by exact hl) (by exact (nI_1 x).symm)
                · refine X_iload_n 55 2 dX7_wrong_55 rfl rfl ?_
                  refine X_if_ne 56 71 dX7_wrong_56 (by decide) (fun c_56 => ?_) (fun c_56 => ?_)
                  · have hn := fnd_next hp27_2.2 (Or.inr c_56)
                    have hl : lfN V lc c idx (y * c + x + 1) = lfN V lc c idx (y * c + x) + (-1) := if_neg c_52
                    refine X_iinc 71 2 (_ + (-1)) [(2, .int _), (0, .ref _), (1, .int _), (3, .int _), (4, .int _)] dX7_wrong_71 rfl rfl (by decide) rfl ?_
                    refine X_iinc 74 4 (_ + 1) [(4, .int _), (2, .int _), (0, .ref _), (1, .int _), (3, .int _)] dX7_wrong_74 rfl rfl (by decide) rfl ?_
                    refine X_goto 77 27 dX7_wrong_77 (by decide) ?_
                    refine X_sub [2, 3, 1, 4, 0] [(0, .ref _), (1, .int _), (2, .int _), (3, .int _), (4, .int _)] rfl ?_
                    exact ih_27 (x + 1) _ (by omega) (by omega) ⟨SCR_t hp27_2.1 (SCR_0 hS9.1), hn⟩ _ _  (by exact hl) (by exact (nI_1 x).symm)
                  · refine X_aload_n 59 0 dX7_wrong_59 rfl rfl ?_
                    refine X_bipush 60 (100) dX7_wrong_60 (by decide) ?_
                    refine X_iload_n 62 3 dX7_wrong_62 rfl rfl ?_
                    refine X_imul 63 dX7_wrong_63 ?_
                    refine X_iload 64 4 dX7_wrong_64 rfl ?_
                    refine X_iadd 66 dX7_wrong_66 ?_
                    refine X_cVI 67 [.int _] (e_X7_tells _ _) dX7_wrong_67 lm_RX7_58 1 ⟨wm_X7_tells, by decide +kernel, rfl, rfl⟩ rfl ⟨Nat.le_of_ble_eq_true rfl, Nat.le_of_ble_eq_true rfl⟩ lyM vc7 rfl rfl (Nat.le_of_ble_eq_true rfl) ?_
                    rintro _ _ ⟨rfl, rfl⟩
                    refine X_iret 70 dX7_wrong_70 rfl rfl ⟨_, rfl, _, rfl, ?_⟩
                    exact Or.inr ⟨fun z => Int32.not_lt.mpr c_1 z, fnd_here hltx hlty hp27_2.2 c_52 c_56, q_ok (SCR_t hp27_2.1 (SCR_0 hS9.1))⟩
          exact L_27 (c + 1) 0 _ (by omega) (by omega) hp14_2 _ _  (by rfl) (by exact nI_0)
    exact L_14 (r + 1) 0 _ (by omega) (by omega) ⟨SCR_r, by rw [Nat.zero_mul]; rfl⟩ _ _  (by rw [Nat.zero_mul]; rfl) (by exact nI_0)
  · refine X_aload_n 4 0 dX7_wrong_4 rfl rfl ?_
    refine X_iconst 5 (1) dX7_wrong_5 (by decide) ?_
    refine X_cVI 6 [.int _] (e_X7_fails _ _) dX7_wrong_6 lm_RX7_48 1 ⟨wm_X7_fails, by decide +kernel, rfl, rfl⟩ rfl ⟨Nat.le_of_ble_eq_true rfl, Nat.le_of_ble_eq_true rfl⟩ lyM vc7 rfl rfl (Nat.le_of_ble_eq_true rfl) ?_
    rintro _ _ ⟨rfl, rfl⟩
    refine X_iret 9 dX7_wrong_9 rfl rfl ⟨_, rfl, _, rfl, ?_⟩
    exact Or.inl ⟨fun z => z (Int32.not_le.mp c_1), uM_s _ _ _ _, KP_u⟩
set_option maxHeartbeats 4000000 in
set_option maxRecDepth 100000 in
theorem e_X7_wrongBut (V : Mm) (c r lc : Nat) (k : Nat) (μ : Mm) (hM : MI V c r lc μ) (hk : k < lc) : EvN ΛM mX7_wrongBut [.ref 0, .int (nI k)] μ (qI (fun v m => wrgV V lc c k r = v ∧ SCR μ m)) := by
  refine EvN_ofQ (by decide +kernel) rfl (fun _ => rfl) (fun _ => Nat.le_of_ble_eq_true rfl) (ls := [(0, .ref 0), (1, .int (nI k))]) ?_
  obtain ⟨⟨hc1, hc2⟩, ⟨hr1, hr2⟩, h8⟩ := MI_lc hM
  refine X_aload_n 0 0 dX7_wrongBut_0 rfl rfl ?_
  refine X_iload_n 1 1 dX7_wrongBut_1 rfl rfl ?_
  refine X_putI (f := 8) 2 dX7_wrongBut_2 lf_RX7_22 iw7 vc7 (by decide) lyM tyX7_ok nmX7 rfl rfl rfl (by decide) rfl rfl ?_
  refine X_aload_n 5 0 dX7_wrongBut_5 rfl rfl ?_
  refine X_cVI 6 [] (e_X7_wrongOnes 0 V c r lc (zzS V lc &&& (oneI k ^^^ (-1))) _ (by rw [uM8_1]; exact hM.1) (by rw [uM_s]; exact HZ_but h8 (by omega))) dX7_wrongBut_6 lm_RX7_156 0 ⟨wm_X7_wrongOnes, by decide +kernel, rfl, rfl⟩ rfl ⟨Nat.le_of_ble_eq_true rfl, Nat.le_of_ble_eq_true rfl⟩ lyM vc7 rfl rfl (Nat.le_of_ble_eq_true rfl) ?_
  rintro _ m9 ⟨rfl, hS9⟩
  rw [uM8_1, hM.2.1, hM.2.2.1]
  refine X_istore_n 9 [(2, .int _), (0, .ref _), (1, .int _)] dX7_wrongBut_9 rfl (by decide) rfl ?_
  refine X_aload_n 10 1 dX7_wrongBut_10 rfl rfl ?_
  refine X_sipush 11 (-1000) dX7_wrongBut_11 (by decide) ?_
  refine X_putI (f := 8) 14 dX7_wrongBut_14 lf_RX7_22 iw7 vc7 (by decide) lyM tyX7_ok nmX7 rfl rfl rfl (by decide) rfl rfl ?_
  refine X_iload_n 17 0 dX7_wrongBut_17 rfl rfl ?_
  refine X_iret 18 dX7_wrongBut_18 rfl rfl ⟨_, rfl, _, rfl, ?_⟩
  exact ⟨rfl, SCR_bt hM hS9⟩
set_option maxHeartbeats 4000000 in
set_option maxRecDepth 100000 in
theorem e_X7_wrongWithout (V : Mm) (c r lc : Nat) (n : Int32) (μ : Mm) (hM : MI V c r lc μ) : EvN ΛM mX7_wrongWithout [.ref 0, .int n] μ (qI (Q2 (LPn lc n) (wrgV V lc c (tn n) r) μ)) := by
  refine EvN_ofQ (by decide +kernel) rfl (fun _ => rfl) (fun _ => Nat.le_of_ble_eq_true rfl) (ls := [(0, .ref 0), (1, .int n)]) ?_
  obtain ⟨⟨hc1, hc2⟩, ⟨hr1, hr2⟩, h8⟩ := MI_lc hM
  refine X_aload_n 0 0 dX7_wrongWithout_0 rfl rfl ?_
  refine X_iload_n 1 1 dX7_wrongWithout_1 rfl rfl ?_
  refine X_cVI 2 [.int _] (e_X7_isLamp n lc μ hM.1.1.2.2.1 h8) dX7_wrongWithout_2 lm_RX7_150 1 ⟨wm_X7_isLamp, by decide +kernel, rfl, rfl⟩ rfl ⟨Nat.le_of_ble_eq_true rfl, Nat.le_of_ble_eq_true rfl⟩ lyM vc7 rfl rfl (Nat.le_of_ble_eq_true rfl) ?_
  rintro _ _ ⟨rfl, ⟨rfl, b_2⟩ | ⟨rfl, b_2⟩⟩
  · refine X_if_eq 5 20 dX7_wrongWithout_5 (by decide) (fun c_0 => by exact absurd c_0 (by decide)) (fun _ => ?_)
    obtain ⟨k, hk, rfl⟩ := nat_lt b_2.1 b_2.2 (by omega)
    have en : tn (nI k) = k := nI_clamp (by omega)
    have hk8 : k < 8 := by omega
    refine X_aload_n 8 0 dX7_wrongWithout_8 rfl rfl ?_
    refine X_aload_n 9 0 dX7_wrongWithout_9 rfl rfl ?_
    refine X_iload_n 10 1 dX7_wrongWithout_10 rfl rfl ?_
    refine X_cVI 11 [.int _] (e_X7_wrongBut V c r lc k _ hM hk) dX7_wrongWithout_11 lm_RX7_217 1 ⟨wm_X7_wrongBut, by decide +kernel, rfl, rfl⟩ rfl ⟨Nat.le_of_ble_eq_true rfl, Nat.le_of_ble_eq_true rfl⟩ lyM vc7 rfl rfl (Nat.le_of_ble_eq_true rfl) ?_
    rintro _ m9 ⟨rfl, hS9⟩
    refine X_cVI 14 [.int _] (e_X7_tells _ _) dX7_wrongWithout_14 lm_RX7_58 1 ⟨wm_X7_tells, by decide +kernel, rfl, rfl⟩ rfl ⟨Nat.le_of_ble_eq_true rfl, Nat.le_of_ble_eq_true rfl⟩ lyM vc7 rfl rfl (Nat.le_of_ble_eq_true rfl) ?_
    rintro _ _ ⟨rfl, rfl⟩
    refine X_goto 17 25 dX7_wrongWithout_17 (by decide) ?_
    refine X_iret 25 dX7_wrongWithout_25 rfl rfl ⟨_, rfl, _, rfl, ?_⟩
    first
      | exact Or.inl ⟨b_2, uM_s _ _ _ _, KP_u⟩
      | exact Or.inr ⟨b_2, by rw [en], q_ok hS9⟩
  · refine X_if_eq 5 20 dX7_wrongWithout_5 (by decide) (fun _ => ?_) (fun c_0 => by exact absurd c_0 (by decide))
    refine X_aload_n 20 0 dX7_wrongWithout_20 rfl rfl ?_
    refine X_iconst 21 (1) dX7_wrongWithout_21 (by decide) ?_
    refine X_cVI 22 [.int _] (e_X7_fails _ _) dX7_wrongWithout_22 lm_RX7_48 1 ⟨wm_X7_fails, by decide +kernel, rfl, rfl⟩ rfl ⟨Nat.le_of_ble_eq_true rfl, Nat.le_of_ble_eq_true rfl⟩ lyM vc7 rfl rfl (Nat.le_of_ble_eq_true rfl) ?_
    rintro _ _ ⟨rfl, rfl⟩
    refine X_iret 25 dX7_wrongWithout_25 rfl rfl ⟨_, rfl, _, rfl, ?_⟩
    first
      | exact Or.inl ⟨b_2, uM_s _ _ _ _, KP_u⟩
      | exact Or.inr ⟨b_2, by rw [en], q_ok hS9⟩
set_option maxHeartbeats 4000000 in
set_option maxRecDepth 100000 in
theorem e_X7_dearestLamp (V : Mm) (c r lc : Nat) (μ : Mm) (hM : MI V c r lc μ) : EvN ΛM mX7_dearestLamp [.ref 0] μ (qI (fun v m => (dlN V lc c r lc).2 = v ∧ m 0 6 = 0 ∧ KP μ m)) := by
  refine EvN_ofQ (by decide +kernel) rfl (fun _ => rfl) (fun _ => Nat.le_of_ble_eq_true rfl) (ls := [(0, .ref 0)]) ?_
  obtain ⟨⟨hc1, hc2⟩, ⟨hr1, hr2⟩, h8⟩ := MI_lc hM
  refine X_sipush 0 (-1000) dX7_dearestLamp_0 (by decide) ?_
  refine X_istore_n 3 [(1, .int _), (0, .ref _)] dX7_dearestLamp_3 rfl (by decide) rfl ?_
  refine X_iconst 4 (-1) dX7_dearestLamp_4 (by decide) ?_
  refine X_istore_n 5 [(2, .int _), (1, .int _), (0, .ref _)] dX7_dearestLamp_5 rfl (by decide) rfl ?_
  refine X_iconst 6 (0) dX7_dearestLamp_6 (by decide) ?_
  refine X_istore_n 7 [(3, .int _), (2, .int _), (1, .int _), (0, .ref _)] dX7_dearestLamp_7 rfl (by decide) rfl ?_
  refine X_sub [3, 2, 1, 0] [(0, .ref _), (1, .int _), (2, .int _), (3, .int _)] rfl ?_
  have L_8 : ∀ (kf : Nat) (n : Nat) (m : Mm), n ≤ lc → lc < n + kf → SCR μ m → ∀ (x8_1 : Int32) (x8_2 : Int32) (x8_3 : Int32), (dlN V lc c r n).2 = x8_1 → (dlN V lc c r n).1 = x8_2 → nI n = x8_3 → X false ΛM mX7_dearestLamp (QN (qI (fun v m => (dlN V lc c r lc).2 = v ∧ m 0 6 = 0 ∧ KP μ m))) 8 [(0, .ref 0), (1, .int x8_1), (2, .int x8_2), (3, .int x8_3)] [] m := by
    intro kf
    induction kf with
    | zero => intro n m hp8_0 hp8_1 hp8_2; exfalso; omega
    | succ kf ih_8 =>
      intro n m hp8_0 hp8_1 hp8_2 x8_1 x8_2 x8_3
      rintro rfl rfl rfl
      refine X_iload_n 8 3 dX7_dearestLamp_8 rfl rfl ?_
      refine X_aload_n 9 0 dX7_dearestLamp_9 rfl rfl ?_
      refine X_getR (f := 0) 10 dX7_dearestLamp_10 lf_RX7_7 iw7 vc7 (by decide) lyM rfl ?_
      refine X_iconst 13 (4) dX7_dearestLamp_13 (by decide) ?_
      refine X_iald 14 dX7_dearestLamp_14 lyM1 (vp_in_nI (n := 4) (by decide) (by decide)) ?_
      rw [cl4]
      rw [SCR_1 hp8_2, hM.1.1.2.2.1]
      refine X_icmp_ge 15 56 dX7_dearestLamp_15 (by decide) (fun c_15 => ?_) (fun c_15 => ?_)
      · have hge : lc ≤ n := c_ge rfl (by omega) (by omega) c_15
        have hie : lc = n := by omega
        subst hie
        refine X_aload_n 56 0 dX7_dearestLamp_56 rfl rfl ?_
        refine X_iload_n 57 1 dX7_dearestLamp_57 rfl rfl ?_
        refine X_cVI 58 [.int _] (e_X7_tells _ _) dX7_dearestLamp_58 lm_RX7_58 1 ⟨wm_X7_tells, by decide +kernel, rfl, rfl⟩ rfl ⟨Nat.le_of_ble_eq_true rfl, Nat.le_of_ble_eq_true rfl⟩ lyM vc7 rfl rfl (Nat.le_of_ble_eq_true rfl) ?_
        rintro _ _ ⟨rfl, rfl⟩
        refine X_iret 61 dX7_dearestLamp_61 rfl rfl ⟨_, rfl, _, rfl, ?_⟩
        exact ⟨rfl, q_ok hp8_2⟩
      · have hlt : n < lc := c_lt rfl (by omega) (by omega) c_15
        have hn8 : n < 8 := by omega
        refine X_aload_n 18 0 dX7_dearestLamp_18 rfl rfl ?_
        refine X_iload_n 19 3 dX7_dearestLamp_19 rfl rfl ?_
        refine X_cVI 20 [.int _] (e_X7_wrongBut V c r lc n _ (MI_SC hM hp8_2) hlt) dX7_dearestLamp_20 lm_RX7_217 1 ⟨wm_X7_wrongBut, by decide +kernel, rfl, rfl⟩ rfl ⟨Nat.le_of_ble_eq_true rfl, Nat.le_of_ble_eq_true rfl⟩ lyM vc7 rfl rfl (Nat.le_of_ble_eq_true rfl) ?_
        rintro _ m9 ⟨rfl, hS9⟩
        refine X_istore 23 [(4, .int _), (0, .ref _), (1, .int _), (2, .int _), (3, .int _)] dX7_dearestLamp_23 (by decide) rfl ?_
        refine X_iload 25 0 dX7_dearestLamp_25 rfl ?_
        refine X_iload_n 27 3 dX7_dearestLamp_27 rfl rfl ?_
        refine X_icmp_le 28 35 dX7_dearestLamp_28 (by decide) (fun c_28 => ?_) (fun c_28 => ?_)
        · refine X_iload_n 35 2 dX7_dearestLamp_35 rfl rfl ?_
          refine X_istore_n 36 [(1, .int _), (4, .int _), (0, .ref _), (2, .int _), (3, .int _)] dX7_dearestLamp_36 rfl (by decide) rfl ?_
          refine X_iload 37 1 dX7_dearestLamp_37 rfl ?_
          refine X_iload_n 39 3 dX7_dearestLamp_39 rfl rfl ?_
          refine X_icmp_le 40 48 dX7_dearestLamp_40 (by decide) (fun c_40 => ?_) (fun c_40 => ?_)
          · refine X_iload_n 48 3 dX7_dearestLamp_48 rfl rfl ?_
            refine X_istore_n 49 [(2, .int _), (1, .int _), (4, .int _), (0, .ref _), (3, .int _)] dX7_dearestLamp_49 rfl (by decide) rfl ?_
            refine X_iinc 50 4 (_ + 1) [(3, .int _), (2, .int _), (1, .int _), (4, .int _), (0, .ref _)] dX7_dearestLamp_50 rfl rfl (by decide) rfl ?_
            refine X_goto 53 8 dX7_dearestLamp_53 (by decide) ?_
            refine X_sub [4, 2, 1, 0] [(0, .ref _), (1, .int _), (2, .int _), (3, .int _)] rfl ?_
            exact ih_8 (n + 1) _ (by omega) (by omega) (SCR_t hp8_2 hS9) _ _ _  (by (first | exact congrArg Prod.snd (if_pos c_28) | exact congrArg Prod.snd (if_neg c_28))) (by (first | exact absurd c_28 c_40 | exact absurd c_40 c_28 | exact congrArg Prod.fst (if_pos c_28) | exact congrArg Prod.fst (if_neg c_28))) (by exact (nI_1 n).symm)
          · refine X_iload 43 1 dX7_dearestLamp_43 rfl ?_
            refine X_goto 45 49 dX7_dearestLamp_45 (by decide) ?_
            refine X_istore_n 49 [(2, .int _), (1, .int _), (4, .int _), (0, .ref _), (3, .int _)] dX7_dearestLamp_49 rfl (by decide) rfl ?_
            refine X_iinc 50 4 (_ + 1) [(3, .int _), (2, .int _), (1, .int _), (4, .int _), (0, .ref _)] dX7_dearestLamp_50 rfl rfl (by decide) rfl ?_
            refine X_goto 53 8 dX7_dearestLamp_53 (by decide) ?_
            refine X_sub [4, 2, 1, 0] [(0, .ref _), (1, .int _), (2, .int _), (3, .int _)] rfl ?_
            exact ih_8 (n + 1) _ (by omega) (by omega) (SCR_t hp8_2 hS9) _ _ _  (by (first | exact congrArg Prod.snd (if_pos c_28) | exact congrArg Prod.snd (if_neg c_28))) (by (first | exact absurd c_28 c_40 | exact absurd c_40 c_28 | exact congrArg Prod.fst (if_pos c_28) | exact congrArg Prod.fst (if_neg c_28))) (by exact (nI_1 n).symm)
        · refine X_iload_n 31 4 dX7_dearestLamp_31 rfl rfl ?_
          refine X_goto 32 36 dX7_dearestLamp_32 (by decide) ?_
          refine X_istore_n 36 [(1, .int _), (4, .int _), (0, .ref _), (2, .int _), (3, .int _)] dX7_dearestLamp_36 rfl (by decide) rfl ?_
          refine X_iload 37 1 dX7_dearestLamp_37 rfl ?_
          refine X_iload_n 39 3 dX7_dearestLamp_39 rfl rfl ?_
          refine X_icmp_le 40 48 dX7_dearestLamp_40 (by decide) (fun c_40 => ?_) (fun c_40 => ?_)
          · refine X_iload_n 48 3 dX7_dearestLamp_48 rfl rfl ?_
            refine X_istore_n 49 [(2, .int _), (1, .int _), (4, .int _), (0, .ref _), (3, .int _)] dX7_dearestLamp_49 rfl (by decide) rfl ?_
            refine X_iinc 50 4 (_ + 1) [(3, .int _), (2, .int _), (1, .int _), (4, .int _), (0, .ref _)] dX7_dearestLamp_50 rfl rfl (by decide) rfl ?_
            refine X_goto 53 8 dX7_dearestLamp_53 (by decide) ?_
            refine X_sub [4, 2, 1, 0] [(0, .ref _), (1, .int _), (2, .int _), (3, .int _)] rfl ?_
            exact ih_8 (n + 1) _ (by omega) (by omega) (SCR_t hp8_2 hS9) _ _ _  (by (first | exact congrArg Prod.snd (if_pos c_28) | exact congrArg Prod.snd (if_neg c_28))) (by (first | exact absurd c_28 c_40 | exact absurd c_40 c_28 | exact congrArg Prod.fst (if_pos c_28) | exact congrArg Prod.fst (if_neg c_28))) (by exact (nI_1 n).symm)
          · refine X_iload 43 1 dX7_dearestLamp_43 rfl ?_
            refine X_goto 45 49 dX7_dearestLamp_45 (by decide) ?_
            refine X_istore_n 49 [(2, .int _), (1, .int _), (4, .int _), (0, .ref _), (3, .int _)] dX7_dearestLamp_49 rfl (by decide) rfl ?_
            refine X_iinc 50 4 (_ + 1) [(3, .int _), (2, .int _), (1, .int _), (4, .int _), (0, .ref _)] dX7_dearestLamp_50 rfl rfl (by decide) rfl ?_
            refine X_goto 53 8 dX7_dearestLamp_53 (by decide) ?_
            refine X_sub [4, 2, 1, 0] [(0, .ref _), (1, .int _), (2, .int _), (3, .int _)] rfl ?_
            exact ih_8 (n + 1) _ (by omega) (by omega) (SCR_t hp8_2 hS9) _ _ _  (by (first | exact congrArg Prod.snd (if_pos c_28) | exact congrArg Prod.snd (if_neg c_28))) (by (first | exact absurd c_28 c_40 | exact absurd c_40 c_28 | exact congrArg Prod.fst (if_pos c_28) | exact congrArg Prod.fst (if_neg c_28))) (by exact (nI_1 n).symm)
  exact L_8 (lc + 1) 0 _ (by omega) (by omega) SCR_r _ _ _  (by rfl) (by rfl) (by exact nI_0)
set_option maxHeartbeats 4000000 in
set_option maxRecDepth 100000 in
theorem e_X7_wrongBy (V : Mm) (c r lc : Nat) (a b : Int32) (μ : Mm) (hM : MI V c r lc μ) (hs : shOK a b) : EvN ΛM mX7_wrongBy [.ref 0, .int a, .int b] μ (qI (fun v m => shW V lc c r a b = v ∧ SCA μ m)) := by
  refine EvN_ofQ (by decide +kernel) rfl (fun _ => rfl) (fun _ => Nat.le_of_ble_eq_true rfl) (ls := [(0, .ref 0), (1, .int a), (2, .int b)]) ?_
  obtain ⟨⟨hc1, hc2⟩, ⟨hr1, hr2⟩, h8⟩ := MI_lc hM
  refine X_aload_n 0 0 dX7_wrongBy_0 rfl rfl ?_
  refine X_cVV 1 [] (e_X7_laysAside _) dX7_wrongBy_1 lm_RX7_162 0 ⟨wm_X7_laysAside, by decide +kernel, rfl, rfl⟩ rfl ⟨Nat.le_of_ble_eq_true rfl, Nat.le_of_ble_eq_true rfl⟩ lyM vc7 rfl rfl (Nat.le_of_ble_eq_true rfl) ?_
  rintro _ rfl
  refine X_muE (μ2 := lay μ) rfl ?_
  refine X_aload_n 4 0 dX7_wrongBy_4 rfl rfl ?_
  refine X_getR (f := 0) 5 dX7_wrongBy_5 lf_RX7_7 iw7 vc7 (by decide) lyM rfl ?_
  refine X_iconst 8 (2) dX7_wrongBy_8 (by decide) ?_
  refine X_iload_n 9 1 dX7_wrongBy_9 rfl rfl ?_
  refine X_iast 10 dX7_wrongBy_10 lyM1 (vp_in_nI (n := 2) (by decide) (by decide)) ?_
  rw [cl2]
  refine X_aload_n 11 0 dX7_wrongBy_11 rfl rfl ?_
  refine X_getR (f := 0) 12 dX7_wrongBy_12 lf_RX7_7 iw7 vc7 (by decide) lyM rfl ?_
  refine X_iconst 15 (3) dX7_wrongBy_15 (by decide) ?_
  refine X_iload_n 16 2 dX7_wrongBy_16 rfl rfl ?_
  refine X_iast 17 dX7_wrongBy_17 lyM1 (vp_in_nI (n := 3) (by decide) (by decide)) ?_
  rw [cl3]
  refine X_muE (μ2 := mvB (lay μ) a b) rfl ?_
  have hM2 := mv_MI (MI_lay hM) hs
  refine X_aload_n 18 0 dX7_wrongBy_18 rfl rfl ?_
  refine X_cVI 19 [] (e_X7_wrongOnes 0 V c r lc (zzS V lc) _ (mv_REP (MI_lay hM) hs) (by rw [hM2.2.2.2.2]; exact HZ_zz h8)) dX7_wrongBy_19 lm_RX7_156 0 ⟨wm_X7_wrongOnes, by decide +kernel, rfl, rfl⟩ rfl ⟨Nat.le_of_ble_eq_true rfl, Nat.le_of_ble_eq_true rfl⟩ lyM vc7 rfl rfl (Nat.le_of_ble_eq_true rfl) ?_
  rintro _ m9 ⟨rfl, hS9⟩
  rw [show mvB (lay μ) a b 1 2 = a from (uM_n (by omega)).trans (uM_s _ _ _ _), show mvB (lay μ) a b 1 3 = b from uM_s _ _ _ _]
  refine X_istore_n 22 [(3, .int _), (0, .ref _), (1, .int _), (2, .int _)] dX7_wrongBy_22 rfl (by decide) rfl ?_
  refine X_aload_n 23 1 dX7_wrongBy_23 rfl rfl ?_
  refine X_cVV 24 [] (e_X7_bringsBack _) dX7_wrongBy_24 lm_RX7_220 0 ⟨wm_X7_bringsBack, by decide +kernel, rfl, rfl⟩ rfl ⟨Nat.le_of_ble_eq_true rfl, Nat.le_of_ble_eq_true rfl⟩ lyM vc7 rfl rfl (Nat.le_of_ble_eq_true rfl) ?_
  rintro _ rfl
  refine X_iload_n 27 0 dX7_wrongBy_27 rfl rfl ?_
  refine X_iret 28 dX7_wrongBy_28 rfl rfl ⟨_, rfl, _, rfl, ?_⟩
  exact ⟨rfl, SCA_by hS9⟩
set_option maxHeartbeats 4000000 in
set_option maxRecDepth 100000 in
theorem e_X7_wrongShifted (V : Mm) (c r lc : Nat) (a b : Int32) (μ : Mm) (hM : MI V c r lc μ) : EvN ΛM mX7_wrongShifted [.ref 0, .int a, .int b] μ (qI (Q2 (shOK a b) (shW V lc c r a b) μ)) := by
  refine EvN_ofQ (by decide +kernel) rfl (fun _ => rfl) (fun _ => Nat.le_of_ble_eq_true rfl) (ls := [(0, .ref 0), (1, .int a), (2, .int b)]) ?_
  obtain ⟨⟨hc1, hc2⟩, ⟨hr1, hr2⟩, h8⟩ := MI_lc hM
  refine X_iload_n 0 1 dX7_wrongShifted_0 rfl rfl ?_
  refine X_bipush 1 (-10) dX7_wrongShifted_1 (by decide) ?_
  refine X_bipush 3 (10) dX7_wrongShifted_3 (by decide) ?_
  refine X_cSI 5 [.int _, .int _, .int _] (e_X7_in _ _ _ _) dX7_wrongShifted_5 lm_RX7_41 3 ⟨wm_X7_in, by decide +kernel, rfl, rfl⟩ rfl ⟨Nat.le_of_ble_eq_true rfl, Nat.le_of_ble_eq_true rfl⟩ rfl (Nat.le_of_ble_eq_true rfl) ?_
  rintro _ _ ⟨rfl, ⟨rfl, b_5⟩ | ⟨rfl, b_5⟩⟩
  · refine X_if_eq 8 35 dX7_wrongShifted_8 (by decide) (fun c_0 => by exact absurd c_0 (by decide)) (fun _ => ?_)
    refine X_iload_n 11 2 dX7_wrongShifted_11 rfl rfl ?_
    refine X_bipush 12 (-10) dX7_wrongShifted_12 (by decide) ?_
    refine X_bipush 14 (10) dX7_wrongShifted_14 (by decide) ?_
    refine X_cSI 16 [.int _, .int _, .int _] (e_X7_in _ _ _ _) dX7_wrongShifted_16 lm_RX7_41 3 ⟨wm_X7_in, by decide +kernel, rfl, rfl⟩ rfl ⟨Nat.le_of_ble_eq_true rfl, Nat.le_of_ble_eq_true rfl⟩ rfl (Nat.le_of_ble_eq_true rfl) ?_
    rintro _ _ ⟨rfl, ⟨rfl, b_16⟩ | ⟨rfl, b_16⟩⟩
    · refine X_if_eq 19 35 dX7_wrongShifted_19 (by decide) (fun c_0 => by exact absurd c_0 (by decide)) (fun _ => ?_)
      refine X_aload_n 22 0 dX7_wrongShifted_22 rfl rfl ?_
      refine X_aload_n 23 0 dX7_wrongShifted_23 rfl rfl ?_
      refine X_iload_n 24 1 dX7_wrongShifted_24 rfl rfl ?_
      refine X_iload_n 25 2 dX7_wrongShifted_25 rfl rfl ?_
      refine X_cVI 26 [.int _, .int _] (e_X7_wrongBy V c r lc a b _ hM ⟨b_5, b_16⟩) dX7_wrongShifted_26 lm_RX7_223 2 ⟨wm_X7_wrongBy, by decide +kernel, rfl, rfl⟩ rfl ⟨Nat.le_of_ble_eq_true rfl, Nat.le_of_ble_eq_true rfl⟩ lyM vc7 rfl rfl (Nat.le_of_ble_eq_true rfl) ?_
      rintro _ m9 ⟨rfl, hS9⟩
      refine X_cVI 29 [.int _] (e_X7_tells _ _) dX7_wrongShifted_29 lm_RX7_58 1 ⟨wm_X7_tells, by decide +kernel, rfl, rfl⟩ rfl ⟨Nat.le_of_ble_eq_true rfl, Nat.le_of_ble_eq_true rfl⟩ lyM vc7 rfl rfl (Nat.le_of_ble_eq_true rfl) ?_
      rintro _ _ ⟨rfl, rfl⟩
      refine X_goto 32 40 dX7_wrongShifted_32 (by decide) ?_
      refine X_iret 40 dX7_wrongShifted_40 rfl rfl ⟨_, rfl, _, rfl, ?_⟩
      first
        | exact Or.inl ⟨fun z => b_5 z.1, uM_s _ _ _ _, KP_u⟩
        | exact Or.inl ⟨fun z => b_16 z.2, uM_s _ _ _ _, KP_u⟩
        | exact Or.inr ⟨⟨b_5, b_16⟩, rfl, uM_s _ _ _ _, KP_a hS9⟩
    · refine X_if_eq 19 35 dX7_wrongShifted_19 (by decide) (fun _ => ?_) (fun c_0 => by exact absurd c_0 (by decide))
      refine X_aload_n 35 0 dX7_wrongShifted_35 rfl rfl ?_
      refine X_iconst 36 (1) dX7_wrongShifted_36 (by decide) ?_
      refine X_cVI 37 [.int _] (e_X7_fails _ _) dX7_wrongShifted_37 lm_RX7_48 1 ⟨wm_X7_fails, by decide +kernel, rfl, rfl⟩ rfl ⟨Nat.le_of_ble_eq_true rfl, Nat.le_of_ble_eq_true rfl⟩ lyM vc7 rfl rfl (Nat.le_of_ble_eq_true rfl) ?_
      rintro _ _ ⟨rfl, rfl⟩
      refine X_iret 40 dX7_wrongShifted_40 rfl rfl ⟨_, rfl, _, rfl, ?_⟩
      first
        | exact Or.inl ⟨fun z => b_5 z.1, uM_s _ _ _ _, KP_u⟩
        | exact Or.inl ⟨fun z => b_16 z.2, uM_s _ _ _ _, KP_u⟩
        | exact Or.inr ⟨⟨b_5, b_16⟩, rfl, uM_s _ _ _ _, KP_a hS9⟩
  · refine X_if_eq 8 35 dX7_wrongShifted_8 (by decide) (fun _ => ?_) (fun c_0 => by exact absurd c_0 (by decide))
    refine X_aload_n 35 0 dX7_wrongShifted_35 rfl rfl ?_
    refine X_iconst 36 (1) dX7_wrongShifted_36 (by decide) ?_
    refine X_cVI 37 [.int _] (e_X7_fails _ _) dX7_wrongShifted_37 lm_RX7_48 1 ⟨wm_X7_fails, by decide +kernel, rfl, rfl⟩ rfl ⟨Nat.le_of_ble_eq_true rfl, Nat.le_of_ble_eq_true rfl⟩ lyM vc7 rfl rfl (Nat.le_of_ble_eq_true rfl) ?_
    rintro _ _ ⟨rfl, rfl⟩
    refine X_iret 40 dX7_wrongShifted_40 rfl rfl ⟨_, rfl, _, rfl, ?_⟩
    first
      | exact Or.inl ⟨fun z => b_5 z.1, uM_s _ _ _ _, KP_u⟩
      | exact Or.inl ⟨fun z => b_16 z.2, uM_s _ _ _ _, KP_u⟩
      | exact Or.inr ⟨⟨b_5, b_16⟩, rfl, uM_s _ _ _ _, KP_a hS9⟩
set_option maxHeartbeats 4000000 in
set_option maxRecDepth 100000 in
theorem e_X7_neededLimit (V : Mm) (c r lc : Nat) (n : Int32) (μ : Mm) (hM : MI V c r lc μ) : EvN ΛM mX7_neededLimit [.ref 0, .int n] μ (qI (Q2 (LPn lc n) (ndJ V lc c (tn n) (c * r)) μ)) := by
  refine EvN_ofQ (by decide +kernel) rfl (fun _ => rfl) (fun _ => Nat.le_of_ble_eq_true rfl) (ls := [(0, .ref 0), (1, .int n)]) ?_
  obtain ⟨⟨hc1, hc2⟩, ⟨hr1, hr2⟩, h8⟩ := MI_lc hM
  refine X_aload_n 0 0 dX7_neededLimit_0 rfl rfl ?_
  refine X_iload_n 1 1 dX7_neededLimit_1 rfl rfl ?_
  refine X_cVI 2 [.int _] (e_X7_isLamp n lc μ hM.1.1.2.2.1 h8) dX7_neededLimit_2 lm_RX7_150 1 ⟨wm_X7_isLamp, by decide +kernel, rfl, rfl⟩ rfl ⟨Nat.le_of_ble_eq_true rfl, Nat.le_of_ble_eq_true rfl⟩ lyM vc7 rfl rfl (Nat.le_of_ble_eq_true rfl) ?_
  rintro _ _ ⟨rfl, ⟨rfl, b_2⟩ | ⟨rfl, b_2⟩⟩
  · refine X_if_ne 5 14 dX7_neededLimit_5 (by decide) (fun _ => ?_) (fun c_0 => by exact absurd c_0 (by decide))
    obtain ⟨k, hk, rfl⟩ := nat_lt b_2.1 b_2.2 (by omega)
    have en : tn (nI k) = k := nI_clamp (by omega)
    have hk8 : k < 8 := by omega
    refine X_aload_n 14 0 dX7_neededLimit_14 rfl rfl ?_
    refine X_iload_n 15 1 dX7_neededLimit_15 rfl rfl ?_
    refine X_cVV 16 [.int _] (e_X7_sums V c r lc k _ hM hk) dX7_neededLimit_16 lm_RX7_139 1 ⟨wm_X7_sums, by decide +kernel, rfl, rfl⟩ rfl ⟨Nat.le_of_ble_eq_true rfl, Nat.le_of_ble_eq_true rfl⟩ lyM vc7 rfl rfl (Nat.le_of_ble_eq_true rfl) ?_
    rintro m9 hS9
    refine X_aload_n 19 0 dX7_neededLimit_19 rfl rfl ?_
    refine X_aload_n 20 0 dX7_neededLimit_20 rfl rfl ?_
    refine X_getI (f := 17) 21 dX7_neededLimit_21 lf_RX7_133 iw7 vc7 (by decide) lyM rfl ?_
    rw [hS9.2.2.2.2.2]
    refine X_cVI 24 [.int _] (e_X7_tells _ _) dX7_neededLimit_24 lm_RX7_58 1 ⟨wm_X7_tells, by decide +kernel, rfl, rfl⟩ rfl ⟨Nat.le_of_ble_eq_true rfl, Nat.le_of_ble_eq_true rfl⟩ lyM vc7 rfl rfl (Nat.le_of_ble_eq_true rfl) ?_
    rintro _ _ ⟨rfl, rfl⟩
    refine X_iret 27 dX7_neededLimit_27 rfl rfl ⟨_, rfl, _, rfl, ?_⟩
    exact Or.inr ⟨b_2, by rw [en], q_ok hS9.1⟩
  · refine X_if_ne 5 14 dX7_neededLimit_5 (by decide) (fun c_0 => by exact absurd c_0 (by decide)) (fun _ => ?_)
    refine X_aload_n 8 0 dX7_neededLimit_8 rfl rfl ?_
    refine X_iconst 9 (1) dX7_neededLimit_9 (by decide) ?_
    refine X_cVI 10 [.int _] (e_X7_fails _ _) dX7_neededLimit_10 lm_RX7_48 1 ⟨wm_X7_fails, by decide +kernel, rfl, rfl⟩ rfl ⟨Nat.le_of_ble_eq_true rfl, Nat.le_of_ble_eq_true rfl⟩ lyM vc7 rfl rfl (Nat.le_of_ble_eq_true rfl) ?_
    rintro _ _ ⟨rfl, rfl⟩
    refine X_iret 13 dX7_neededLimit_13 rfl rfl ⟨_, rfl, _, rfl, ?_⟩
    exact Or.inl ⟨b_2, uM_s _ _ _ _, KP_u⟩
set_option maxHeartbeats 4000000 in
set_option maxRecDepth 100000 in
theorem e_X7_bestShift (V : Mm) (c r lc : Nat) (a : Int32) (μ : Mm) (hM : MI V c r lc μ) : EvN ΛM mX7_bestShift [.ref 0, .int a] μ (qI (Q2 (rgI a 0 3) (bsR V lc c r (tn a) (2 * tn a + 1)).2 μ)) := by
  refine EvN_ofQ (by decide +kernel) rfl (fun _ => rfl) (fun _ => Nat.le_of_ble_eq_true rfl) (ls := [(0, .ref 0), (1, .int a)]) ?_
  obtain ⟨⟨hc1, hc2⟩, ⟨hr1, hr2⟩, h8⟩ := MI_lc hM
  refine X_iload_n 0 1 dX7_bestShift_0 rfl rfl ?_
  refine X_iconst 1 (0) dX7_bestShift_1 (by decide) ?_
  refine X_iconst 2 (3) dX7_bestShift_2 (by decide) ?_
  refine X_cSI 3 [.int _, .int _, .int _] (e_X7_in _ _ _ _) dX7_bestShift_3 lm_RX7_41 3 ⟨wm_X7_in, by decide +kernel, rfl, rfl⟩ rfl ⟨Nat.le_of_ble_eq_true rfl, Nat.le_of_ble_eq_true rfl⟩ rfl (Nat.le_of_ble_eq_true rfl) ?_
  rintro _ _ ⟨rfl, ⟨rfl, b_3⟩ | ⟨rfl, b_3⟩⟩
  · refine X_if_ne 6 15 dX7_bestShift_6 (by decide) (fun _ => ?_) (fun c_0 => by exact absurd c_0 (by decide))
    obtain ⟨k, hk, ea⟩ := nat_le (n := 3) rfl b_3 (by omega)
    have ew : tn a = k := by rw [ea]; exact nI_clamp (by omega)
    refine X_lsE (ls2 := [(0, .ref 0), (1, .int (nI k))]) (by rw [ea]) ?_
    refine X_sipush 15 (-1000) dX7_bestShift_15 (by decide) ?_
    refine X_istore_n 18 [(2, .int _), (0, .ref _), (1, .int _)] dX7_bestShift_18 rfl (by decide) rfl ?_
    refine X_iconst 19 (0) dX7_bestShift_19 (by decide) ?_
    refine X_istore_n 20 [(3, .int _), (2, .int _), (0, .ref _), (1, .int _)] dX7_bestShift_20 rfl (by decide) rfl ?_
    refine X_iload_n 21 3 dX7_bestShift_21 rfl rfl ?_
    refine X_ineg 22 dX7_bestShift_22 ?_
    refine X_istore 23 [(4, .int _), (3, .int _), (2, .int _), (0, .ref _), (1, .int _)] dX7_bestShift_23 (by decide) rfl ?_
    refine X_sub [3, 4, 2, 1, 0] [(0, .ref _), (1, .int _), (2, .int _), (3, .int _), (4, .int _)] rfl ?_
    have L_25 : ∀ (kf : Nat) (i : Nat) (m : Mm) (B : Int32) (F : Int32), i ≤ 2 * k + 1 → 2 * k + 1 < i + kf → (SCA μ m ∧ BSI (bsR V lc c r k i) B F i) → ∀ (x25_2 : Int32) (x25_3 : Int32) (x25_4 : Int32), B = x25_2 → F = x25_3 → -nI k + nI i = x25_4 → X false ΛM mX7_bestShift (QN (qI (Q2 (rgI a 0 3) (bsR V lc c r (tn a) (2 * tn a + 1)).2 μ))) 25 [(0, .ref 0), (1, .int (nI k)), (2, .int x25_2), (3, .int x25_3), (4, .int x25_4)] [] m := by
      intro kf
      induction kf with
      | zero => intro i m B F hp25_0 hp25_1 hp25_2; exfalso; omega
      | succ kf ih_25 =>
        intro i m B F hp25_0 hp25_1 hp25_2 x25_2 x25_3 x25_4
        rintro rfl rfl rfl
        refine X_iload 25 4 dX7_bestShift_25 rfl ?_
        refine X_iload_n 27 1 dX7_bestShift_27 rfl rfl ?_
        refine X_icmp_gt 28 94 dX7_bestShift_28 (by decide) (fun c_28 => ?_) (fun c_28 => ?_)
        · have hge := (nk_le hk (by omega)).mp c_28
          have hie : 2 * k + 1 = i := by omega
          subst hie
          refine X_aload_n 94 0 dX7_bestShift_94 rfl rfl ?_
          refine X_iload_n 95 2 dX7_bestShift_95 rfl rfl ?_
          refine X_cVI 96 [.int _] (e_X7_tells _ _) dX7_bestShift_96 lm_RX7_58 1 ⟨wm_X7_tells, by decide +kernel, rfl, rfl⟩ rfl ⟨Nat.le_of_ble_eq_true rfl, Nat.le_of_ble_eq_true rfl⟩ lyM vc7 rfl rfl (Nat.le_of_ble_eq_true rfl) ?_
          rintro _ _ ⟨rfl, rfl⟩
          refine X_iret 99 dX7_bestShift_99 rfl rfl ⟨_, rfl, _, rfl, ?_⟩
          refine Or.inr ⟨b_3, ?_, uM_s _ _ _ _, KP_a hp25_2.1⟩
          rw [ew]
          rcases hp25_2.2 with ⟨h0, _⟩ | ⟨h0, _⟩
          · omega
          · exact congrArg Prod.snd h0
        · have hli : ¬ 2 * k < i := fun z => c_28 ((nk_le hk (by omega)).mpr z)
          refine X_iload_n 31 1 dX7_bestShift_31 rfl rfl ?_
          refine X_ineg 32 dX7_bestShift_32 ?_
          refine X_istore 33 [(5, .int _), (0, .ref _), (1, .int _), (2, .int _), (3, .int _), (4, .int _)] dX7_bestShift_33 (by decide) rfl ?_
          refine X_sub [1, 2, 3, 4, 5, 0] [(0, .ref _), (1, .int _), (2, .int _), (3, .int _), (4, .int _), (5, .int _)] rfl ?_
          have L_35 : ∀ (kf : Nat) (j : Nat) (m2 : Mm) (B2 : Int32) (F2 : Int32), j ≤ 2 * k + 1 → 2 * k + 1 < j + kf → (SCA μ m2 ∧ BSI (bsC V lc c r k (-nI k + nI i) j (bsR V lc c r k i)) B2 F2 (i + j)) → ∀ (x35_2 : Int32) (x35_3 : Int32) (x35_5 : Int32), B2 = x35_2 → F2 = x35_3 → -nI k + nI j = x35_5 → X false ΛM mX7_bestShift (QN (qI (Q2 (rgI a 0 3) (bsR V lc c r (tn a) (2 * tn a + 1)).2 μ))) 35 [(0, .ref 0), (1, .int (nI k)), (2, .int x35_2), (3, .int x35_3), (4, .int (-nI k + nI i)), (5, .int x35_5)] [] m2 := by
            intro kf
            induction kf with
            | zero => intro j m2 B2 F2 hp35_0 hp35_1 hp35_2; exfalso; omega
            | succ kf ih_35 =>
              intro j m2 B2 F2 hp35_0 hp35_1 hp35_2 x35_2 x35_3 x35_5
              rintro rfl rfl rfl
              refine X_iload 35 5 dX7_bestShift_35 rfl ?_
              refine X_iload_n 37 1 dX7_bestShift_37 rfl rfl ?_
              refine X_icmp_gt 38 88 dX7_bestShift_38 (by decide) (fun c_38 => ?_) (fun c_38 => ?_)
              · have hge := (nk_le hk (by omega)).mp c_38
                have hie : 2 * k + 1 = j := by omega
                subst hie
                refine X_iinc 88 4 (_ + 1) [(4, .int _), (0, .ref _), (1, .int _), (2, .int _), (3, .int _), (5, .int _)] dX7_bestShift_88 rfl rfl (by decide) rfl ?_
                refine X_goto 91 25 dX7_bestShift_91 (by decide) ?_
                refine X_sub [1, 2, 3, 4, 0] [(0, .ref _), (1, .int _), (2, .int _), (3, .int _), (4, .int _)] rfl ?_
                exact ih_25 (i + 1) _ B2 F2 (by omega) (by omega) ⟨hp35_2.1, BSI_up hp35_2.2 (by omega)⟩ _ _ _  (by rfl) (by rfl) (by exact (nk_1 k i).symm)
              · have hlj : ¬ 2 * k < j := fun z => c_38 ((nk_le hk (by omega)).mpr z)
                refine X_aload_n 41 0 dX7_bestShift_41 rfl rfl ?_
                refine X_iload 42 5 dX7_bestShift_42 rfl ?_
                refine X_iload 44 4 dX7_bestShift_44 rfl ?_
                refine X_cVI 46 [.int _, .int _] (e_X7_wrongBy V c r lc (-nI k + nI j) (-nI k + nI i) _ (MI_A hM hp35_2.1) ⟨sh_k3 k (by omega) j (by omega), sh_k3 k (by omega) i (by omega)⟩) dX7_bestShift_46 lm_RX7_223 2 ⟨wm_X7_wrongBy, by decide +kernel, rfl, rfl⟩ rfl ⟨Nat.le_of_ble_eq_true rfl, Nat.le_of_ble_eq_true rfl⟩ lyM vc7 rfl rfl (Nat.le_of_ble_eq_true rfl) ?_
                rintro _ m9 ⟨rfl, hS9⟩
                have hwb : (shW V lc c r (-nI k + nI j) (-nI k + nI i)).toInt ≤ 384 := by
                  have h9 := (cwN_le (V := V) (s := 0) (z := zzS V lc) (sx := -nI k + nI j) (sy := -nI k + nI i) hc2 r hr2).2
                  unfold shW
                  omega
                have hcd := code_k k (by omega) i (by omega) j (by omega)
                refine X_istore 49 [(6, .int _), (0, .ref _), (1, .int _), (2, .int _), (3, .int _), (4, .int _), (5, .int _)] dX7_bestShift_49 (by decide) rfl ?_
                refine X_iload_n 51 3 dX7_bestShift_51 rfl rfl ?_
                refine X_sipush 52 (-1000) dX7_bestShift_52 (by decide) ?_
                refine X_icmp_eq 55 64 dX7_bestShift_55 (by decide) (fun c_55 => ?_) (fun c_55 => ?_)
                · refine X_bipush 64 (100) dX7_bestShift_64 (by decide) ?_
                  refine X_iload 66 5 dX7_bestShift_66 rfl ?_
                  refine X_bipush 68 (10) dX7_bestShift_68 (by decide) ?_
                  refine X_iadd 70 dX7_bestShift_70 ?_
                  refine X_imul 71 dX7_bestShift_71 ?_
                  refine X_iload 72 6 dX7_bestShift_72 rfl ?_
                  refine X_iadd 74 dX7_bestShift_74 ?_
                  refine X_bipush 75 (10) dX7_bestShift_75 (by decide) ?_
                  refine X_iadd 77 dX7_bestShift_77 ?_
                  refine X_istore_n 78 [(2, .int _), (6, .int _), (0, .ref _), (1, .int _), (3, .int _), (4, .int _), (5, .int _)] dX7_bestShift_78 rfl (by decide) rfl ?_
                  rw [Int32.add_assoc (100 * _) (-nI k + nI j) 10]
                  have hB := BSI_y (w := shW V lc c r (-nI k + nI j) (-nI k + nI i)) (code := 100 * (-nI k + nI i + 10) + (-nI k + nI j + 10)) hp35_2.2 hwb hcd (by first | exact Or.inl c_55 | exact Or.inr c_61)
                  refine X_iload 79 1 dX7_bestShift_79 rfl ?_
                  refine X_istore_n 81 [(3, .int _), (2, .int _), (6, .int _), (0, .ref _), (1, .int _), (4, .int _), (5, .int _)] dX7_bestShift_81 rfl (by decide) rfl ?_
                  refine X_iinc 82 6 (_ + 1) [(5, .int _), (3, .int _), (2, .int _), (6, .int _), (0, .ref _), (1, .int _), (4, .int _)] dX7_bestShift_82 rfl rfl (by decide) rfl ?_
                  refine X_goto 85 35 dX7_bestShift_85 (by decide) ?_
                  refine X_sub [4, 5, 2, 1, 6, 0] [(0, .ref _), (1, .int _), (2, .int _), (3, .int _), (4, .int _), (5, .int _)] rfl ?_
                  exact ih_35 (j + 1) _ _ _ (by omega) (by omega) ⟨SCA_t hp35_2.1 hS9, hB⟩ _ _ _  (by rfl) (by rfl) (by exact (nk_1 k j).symm)
                · refine X_iload 58 0 dX7_bestShift_58 rfl ?_
                  refine X_iload_n 60 4 dX7_bestShift_60 rfl rfl ?_
                  refine X_icmp_ge 61 82 dX7_bestShift_61 (by decide) (fun c_61 => ?_) (fun c_61 => ?_)
                  · have hB := BSI_n (code := 100 * (-nI k + nI i + 10) + (-nI k + nI j + 10)) hp35_2.2 c_55 c_61
                    refine X_iinc 82 6 (_ + 1) [(5, .int _), (6, .int _), (0, .ref _), (1, .int _), (2, .int _), (3, .int _), (4, .int _)] dX7_bestShift_82 rfl rfl (by decide) rfl ?_
                    refine X_goto 85 35 dX7_bestShift_85 (by decide) ?_
                    refine X_sub [2, 3, 4, 5, 6, 0] [(0, .ref _), (1, .int _), (2, .int _), (3, .int _), (4, .int _), (5, .int _)] rfl ?_
                    exact ih_35 (j + 1) _ _ _ (by omega) (by omega) ⟨SCA_t hp35_2.1 hS9, hB⟩ _ _ _  (by rfl) (by rfl) (by exact (nk_1 k j).symm)
                  · refine X_bipush 64 (100) dX7_bestShift_64 (by decide) ?_
                    refine X_iload 66 5 dX7_bestShift_66 rfl ?_
                    refine X_bipush 68 (10) dX7_bestShift_68 (by decide) ?_
                    refine X_iadd 70 dX7_bestShift_70 ?_
                    refine X_imul 71 dX7_bestShift_71 ?_
                    refine X_iload 72 6 dX7_bestShift_72 rfl ?_
                    refine X_iadd 74 dX7_bestShift_74 ?_
                    refine X_bipush 75 (10) dX7_bestShift_75 (by decide) ?_
                    refine X_iadd 77 dX7_bestShift_77 ?_
                    refine X_istore_n 78 [(2, .int _), (6, .int _), (0, .ref _), (1, .int _), (3, .int _), (4, .int _), (5, .int _)] dX7_bestShift_78 rfl (by decide) rfl ?_
                    rw [Int32.add_assoc (100 * _) (-nI k + nI j) 10]
                    have hB := BSI_y (w := shW V lc c r (-nI k + nI j) (-nI k + nI i)) (code := 100 * (-nI k + nI i + 10) + (-nI k + nI j + 10)) hp35_2.2 hwb hcd (by first | exact Or.inl c_55 | exact Or.inr c_61)
                    refine X_iload 79 1 dX7_bestShift_79 rfl ?_
                    refine X_istore_n 81 [(3, .int _), (2, .int _), (6, .int _), (0, .ref _), (1, .int _), (4, .int _), (5, .int _)] dX7_bestShift_81 rfl (by decide) rfl ?_
                    refine X_iinc 82 6 (_ + 1) [(5, .int _), (3, .int _), (2, .int _), (6, .int _), (0, .ref _), (1, .int _), (4, .int _)] dX7_bestShift_82 rfl rfl (by decide) rfl ?_
                    refine X_goto 85 35 dX7_bestShift_85 (by decide) ?_
                    refine X_sub [4, 5, 2, 1, 6, 0] [(0, .ref _), (1, .int _), (2, .int _), (3, .int _), (4, .int _), (5, .int _)] rfl ?_
                    exact ih_35 (j + 1) _ _ _ (by omega) (by omega) ⟨SCA_t hp35_2.1 hS9, hB⟩ _ _ _  (by rfl) (by rfl) (by exact (nk_1 k j).symm)
          exact L_35 (2 * k + 2) 0 _ _ _ (by omega) (by omega) hp25_2 _ _ _  (by rfl) (by rfl) (by exact Int32.add_zero _)
    exact L_25 (2 * k + 2) 0 _ _ _ (by omega) (by omega) ⟨SCA_r, Or.inl ⟨rfl, rfl, rfl⟩⟩ _ _ _  (by rfl) (by rfl) (by exact Int32.add_zero _)
  · refine X_if_ne 6 15 dX7_bestShift_6 (by decide) (fun c_0 => by exact absurd c_0 (by decide)) (fun _ => ?_)
    refine X_aload_n 9 0 dX7_bestShift_9 rfl rfl ?_
    refine X_iconst 10 (1) dX7_bestShift_10 (by decide) ?_
    refine X_cVI 11 [.int _] (e_X7_fails _ _) dX7_bestShift_11 lm_RX7_48 1 ⟨wm_X7_fails, by decide +kernel, rfl, rfl⟩ rfl ⟨Nat.le_of_ble_eq_true rfl, Nat.le_of_ble_eq_true rfl⟩ lyM vc7 rfl rfl (Nat.le_of_ble_eq_true rfl) ?_
    rintro _ _ ⟨rfl, rfl⟩
    refine X_iret 14 dX7_bestShift_14 rfl rfl ⟨_, rfl, _, rfl, ?_⟩
    exact Or.inl ⟨b_3, uM_s _ _ _ _, KP_u⟩
