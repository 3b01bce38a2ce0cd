set_option maxHeartbeats 4000000 in
set_option maxRecDepth 100000 in
theorem e_X5_refresh (lc c r : Nat) (μ : Mm) (hc : μ 0 0 = nI c) (hr : μ 0 1 = nI r) (hlc : μ 0 5 = nI lc) (h8 : lc ≤ 8) (h1 : c ≤ 24) (h2 : r ≤ 16) (hv : μ 0 6 = 0 → SVok μ lc c r) : EvN ΛC mX5_refresh [.ref 93, .ref 0] μ (qV (fun μ' => SVok μ' lc c r ∧ μ' 0 6 = 0 ∧ sameRf μ μ')) := by
  refine EvN_ofQ (by decide +kernel) rfl (fun _ => rfl) (fun _ => Nat.le_of_ble_eq_true rfl) (ls := [(0, .ref 93), (1, .ref 0)]) ?_
  refine X_aload_n 0 1 dX5_refresh_0 rfl rfl ?_
  refine X_ifnull 1 dX5_refresh_1 ?_
  refine X_aload_n 4 1 dX5_refresh_4 rfl rfl ?_
  refine X_getI (f := 6) 5 dX5_refresh_5 lf_RX5_36 iw4 vc4 (by decide) (lyS 0 (Or.inl rfl)) rfl ?_
  refine X_if_ne 8 12 dX5_refresh_8 (by decide) (fun c_8 => ?_) (fun c_8 => ?_)
  · refine X_aload_n 12 0 dX5_refresh_12 rfl rfl ?_
    refine X_getR (f := 0) 13 dX5_refresh_13 lf_RX5_12 iw5 vc5 (by decide) lyV rfl ?_
    refine X_aload_n 16 1 dX5_refresh_16 rfl rfl ?_
    refine X_aload_n 17 1 dX5_refresh_17 rfl rfl ?_
    refine X_cVI 18 [] (e_X4_shiningLamps 0 (Or.inl rfl) lc _ hlc h8) dX5_refresh_18 lm_RX5_42 0 ⟨wm_X4_shiningLamps, by decide +kernel, rfl, rfl⟩ rfl ⟨Nat.le_of_ble_eq_true rfl, Nat.le_of_ble_eq_true rfl⟩ (lyS 0 (Or.inl rfl)) vc4 rfl rfl (Nat.le_of_ble_eq_true rfl) ?_
    rintro _ _ ⟨rfl, rfl⟩
    refine X_cVV 21 [.ref _, .int _] (e_X1_prepare 75 (Or.inl rfl) 0 (Or.inl rfl) _ _) dX5_refresh_21 lm_RX5_46 2 ⟨wm_X1_prepare, by decide +kernel, rfl, rfl⟩ rfl ⟨Nat.le_of_ble_eq_true rfl, Nat.le_of_ble_eq_true rfl⟩ (lyD 75 (Or.inl rfl)) vc1 rfl rfl (Nat.le_of_ble_eq_true rfl) ?_
    rintro _ rfl
    refine X_aload_n 24 0 dX5_refresh_24 rfl rfl ?_
    refine X_iconst 25 (0) dX5_refresh_25 (by decide) ?_
    refine X_putI (f := 5) 26 dX5_refresh_26 lf_RX5_50 iw5 vc5 (by decide) lyV tyX5_ok nmX5 rfl rfl rfl (by decide) rfl rfl ?_
    refine X_iconst 29 (0) dX5_refresh_29 (by decide) ?_
    refine X_istore_n 30 [(2, .int _), (0, .ref _), (1, .ref _)] dX5_refresh_30 rfl (by decide) rfl ?_
    refine X_sub [1, 2, 0] [(0, .ref _), (1, .ref _), (2, .int _)] rfl ?_
    have L_31 : ∀ (kf : Nat) (y : Nat) (m : Mm), y ≤ r → r < y + kf → RFI μ lc c m (y * c) → ∀ (x31_2 : Int32), nI y = x31_2 → X false ΛC mX5_refresh (QN (qV (fun μ' => SVok μ' lc c r ∧ μ' 0 6 = 0 ∧ sameRf μ μ'))) 31 [(0, .ref 93), (1, .ref 0), (2, .int x31_2)] [] m := by
      intro kf
      induction kf with
      | zero => intro y m hp31_0 hp31_1 hp31_2; exfalso; omega
      | succ kf ih_31 =>
        intro y m hp31_0 hp31_1 hp31_2 x31_2
        rintro rfl
        have hmc : m 0 0 = nI c := (hp31_2.2.2.2 0 0 (by omega) (by omega) (by omega) (by omega)).trans hc
        have hmr : m 0 1 = nI r := (hp31_2.2.2.2 0 1 (by omega) (by omega) (by omega) (by omega)).trans hr
        refine X_iload_n 31 2 dX5_refresh_31 rfl rfl ?_
        refine X_aload_n 32 1 dX5_refresh_32 rfl rfl ?_
        refine X_getI (f := 1) 33 dX5_refresh_33 lf_RX5_54 iw4 vc4 (by decide) (lyS 0 (Or.inl rfl)) rfl ?_
        refine X_icmp_ge 36 97 dX5_refresh_36 (by decide) (fun c_36 => ?_) (fun c_36 => ?_)
        · have hge : r ≤ y := c_ge hmr (by omega) (by omega) c_36
          have hie : r = y := by omega
          subst hie
          refine X_aload_n 97 1 dX5_refresh_97 rfl rfl ?_
          refine X_iconst 98 (0) dX5_refresh_98 (by decide) ?_
          refine X_putI (f := 6) 99 dX5_refresh_99 lf_RX5_36 iw4 vc4 (by decide) (lyS 0 (Or.inl rfl)) tyX4_ok nmX4 rfl rfl rfl (by decide) rfl rfl ?_
          refine X_vret 102 dX5_refresh_102 rfl ⟨_, rfl, rfl, ?_⟩
          exact RF_end hp31_2
        · have hlt : y < r := c_lt hmr (by omega) (by omega) c_36
          refine X_iconst 39 (0) dX5_refresh_39 (by decide) ?_
          refine X_istore_n 40 [(3, .int _), (0, .ref _), (1, .ref _), (2, .int _)] dX5_refresh_40 rfl (by decide) rfl ?_
          refine X_sub [1, 2, 3, 0] [(0, .ref _), (1, .ref _), (2, .int _), (3, .int _)] rfl ?_
          have L_41 : ∀ (kf : Nat) (x : Nat) (m : Mm), x ≤ c → c < x + kf → RFI μ lc c m (y * c + x) → ∀ (x41_3 : Int32), nI x = x41_3 → X false ΛC mX5_refresh (QN (qV (fun μ' => SVok μ' lc c r ∧ μ' 0 6 = 0 ∧ sameRf μ μ'))) 41 [(0, .ref 93), (1, .ref 0), (2, .int (nI y)), (3, .int x41_3)] [] m := by
            intro kf
            induction kf with
            | zero => intro x m hp41_0 hp41_1 hp41_2; exfalso; omega
            | succ kf ih_41 =>
              intro x m hp41_0 hp41_1 hp41_2 x41_3
              rintro rfl
              have hmc : m 0 0 = nI c := (hp41_2.2.2.2 0 0 (by omega) (by omega) (by omega) (by omega)).trans hc
              refine X_iload_n 41 3 dX5_refresh_41 rfl rfl ?_
              refine X_aload_n 42 1 dX5_refresh_42 rfl rfl ?_
              refine X_getI (f := 0) 43 dX5_refresh_43 lf_RX5_57 iw4 vc4 (by decide) (lyS 0 (Or.inl rfl)) rfl ?_
              refine X_icmp_ge 46 91 dX5_refresh_46 (by decide) (fun c_46 => ?_) (fun c_46 => ?_)
              · have hge : c ≤ x := c_ge hmc (by omega) (by omega) c_46
                have hie : c = x := by omega
                subst hie
                refine X_iinc 91 2 (_ + 1) [(2, .int _), (0, .ref _), (1, .ref _), (3, .int _)] dX5_refresh_91 rfl rfl (by decide) rfl ?_
                refine X_goto 94 31 dX5_refresh_94 (by decide) ?_
                refine X_sub [1, 2, 0] [(0, .ref _), (1, .ref _), (2, .int _)] rfl ?_
                exact ih_31 (y + 1) _ (by omega) (by omega) (by rw [Nat.succ_mul]; exact hp41_2) _  (by exact (nI_1 y).symm)
              · have hlx : x < c := c_lt hmc (by omega) (by omega) c_46
                have hix : y * c + x < 384 := ix_lt (by omega) hlx (by omega)
                have hm2 : m 0 2 = μ 0 2 := hp41_2.2.2.2 0 2 (by omega) (by omega) (by omega) (by omega)
                have hm3 : m 0 3 = μ 0 3 := hp41_2.2.2.2 0 3 (by omega) (by omega) (by omega) (by omega)
                have hm8 : m 8 (y * c + x) = μ 8 (y * c + x) := hp41_2.2.2.2 8 _ (by omega) (by omega) (by omega) (by omega)
                refine X_aload_n 49 0 dX5_refresh_49 rfl rfl ?_
                refine X_getR (f := 0) 50 dX5_refresh_50 lf_RX5_12 iw5 vc5 (by decide) lyV rfl ?_
                refine X_aload_n 53 1 dX5_refresh_53 rfl rfl ?_
                refine X_iload_n 54 3 dX5_refresh_54 rfl rfl ?_
                refine X_aload_n 55 1 dX5_refresh_55 rfl rfl ?_
                refine X_getI (f := 2) 56 dX5_refresh_56 lf_RX5_60 iw4 vc4 (by decide) (lyS 0 (Or.inl rfl)) rfl ?_
                rw [hm2]
                refine X_cSI 59 [.int _, .int _] (e_X6_pointOf _ _ _) dX5_refresh_59 lm_RX5_63 2 ⟨wm_X6_pointOf, by decide +kernel, rfl, rfl⟩ rfl ⟨Nat.le_of_ble_eq_true rfl, Nat.le_of_ble_eq_true rfl⟩ rfl (Nat.le_of_ble_eq_true rfl) ?_
                rintro _ _ ⟨rfl, rfl⟩
                refine X_iload_n 62 2 dX5_refresh_62 rfl rfl ?_
                refine X_aload_n 63 1 dX5_refresh_63 rfl rfl ?_
                refine X_getI (f := 3) 64 dX5_refresh_64 lf_RX5_67 iw4 vc4 (by decide) (lyS 0 (Or.inl rfl)) rfl ?_
                rw [hm3]
                refine X_cSI 67 [.int _, .int _] (e_X6_pointOf _ _ _) dX5_refresh_67 lm_RX5_63 2 ⟨wm_X6_pointOf, by decide +kernel, rfl, rfl⟩ rfl ⟨Nat.le_of_ble_eq_true rfl, Nat.le_of_ble_eq_true rfl⟩ rfl (Nat.le_of_ble_eq_true rfl) ?_
                rintro _ _ ⟨rfl, rfl⟩
                refine X_aload_n 70 1 dX5_refresh_70 rfl rfl ?_
                refine X_aload_n 71 0 dX5_refresh_71 rfl rfl ?_
                refine X_getI (f := 5) 72 dX5_refresh_72 lf_RX5_50 iw5 vc5 (by decide) lyV rfl ?_
                rw [hp41_2.1]
                refine X_cVI 75 [.int _] (e_X4_targetAt 0 (Or.inl rfl) _ _) dX5_refresh_75 lm_RX5_70 1 ⟨wm_X4_targetAt, by decide +kernel, rfl, rfl⟩ rfl ⟨Nat.le_of_ble_eq_true rfl, Nat.le_of_ble_eq_true rfl⟩ (lyS 0 (Or.inl rfl)) vc4 rfl rfl (Nat.le_of_ble_eq_true rfl) ?_
                rintro _ _ ⟨rfl, rfl⟩
                rw [gt_nI hix (by decide), show m (0 + 8) (y * c + x) = μ 8 (y * c + x) from hm8]
                refine X_cVV 78 [.ref _, .int _, .int _, .int _] (e_X1_dimPoint 75 (Or.inl rfl) 0 (Or.inl rfl) _ _ _ _) dX5_refresh_78 lm_RX5_74 4 ⟨wm_X1_dimPoint, by decide +kernel, rfl, rfl⟩ rfl ⟨Nat.le_of_ble_eq_true rfl, Nat.le_of_ble_eq_true rfl⟩ (lyD 75 (Or.inl rfl)) vc1 rfl rfl (Nat.le_of_ble_eq_true rfl) ?_
                rintro _ rfl
                refine X_aload_n 81 0 dX5_refresh_81 rfl rfl ?_
                refine X_cVV 82 [] (e_X5_keepPlace (y * c + x) _ ((dimF_so _ 75 0 _ _ _ 93 5 (by omega)).trans hp41_2.1) hix) dX5_refresh_82 lm_RX5_78 0 ⟨wm_X5_keepPlace, by decide +kernel, rfl, rfl⟩ rfl ⟨Nat.le_of_ble_eq_true rfl, Nat.le_of_ble_eq_true rfl⟩ lyV vc5 rfl rfl (Nat.le_of_ble_eq_true rfl) ?_
                rintro _ rfl
                have hnx := RFI_step (sx := μ 0 2) (sy := μ 0 3) rfl rfl hlx hix hp41_2
                refine X_iinc 85 3 (_ + 1) [(3, .int _), (0, .ref _), (1, .ref _), (2, .int _)] dX5_refresh_85 rfl rfl (by decide) rfl ?_
                refine X_goto 88 41 dX5_refresh_88 (by decide) ?_
                refine X_sub [1, 2, 3, 0] [(0, .ref _), (1, .ref _), (2, .int _), (3, .int _)] rfl ?_
                exact ih_41 (x + 1) _ (by omega) (by omega) hnx _  (by exact (nI_1 x).symm)
          exact L_41 (c + 1) 0 _ (by omega) (by omega) hp31_2 _  (by exact nI_0)
    exact L_31 (r + 1) 0 _ (by omega) (by omega) (by rw [Nat.zero_mul]; exact RFI_0 μ lc c) _  (by exact nI_0)
  · refine X_vret 11 dX5_refresh_11 rfl ⟨_, rfl, rfl, ?_⟩
    exact ⟨hv c_8, c_8, fun _ _ _ _ _ _ => rfl⟩
