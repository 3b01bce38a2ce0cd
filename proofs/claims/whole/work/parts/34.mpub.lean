set_option maxHeartbeats 4000000 in
set_option maxRecDepth 100000 in
theorem e_X7_laysAside  (μ : Mm) : EvN ΛM mX7_laysAside [.ref 0] μ (qV (fun m => setRow μ 3 486 (μ 1) = m)) := by
  refine EvN_ofQ (by decide +kernel) rfl (fun _ => rfl) (fun _ => Nat.le_of_ble_eq_true rfl) (ls := [(0, .ref 0)]) ?_
  refine X_iconst 0 (0) dX7_laysAside_0 (by decide) ?_
  refine X_istore_n 1 [(1, .int _), (0, .ref _)] dX7_laysAside_1 rfl (by decide) rfl ?_
  refine X_sub [1, 0] [(0, .ref _), (1, .int _)] rfl ?_
  have L_2 : ∀ (kf : Nat) (n : Nat), n ≤ 486 → 486 < n + kf → ∀ (x2_1 : Int32) (μ2 : Mm), nI n = x2_1 → setRow μ 3 n (μ 1) = μ2 → X false ΛM mX7_laysAside (QN (qV (fun m => setRow μ 3 486 (μ 1) = m))) 2 [(0, .ref 0), (1, .int x2_1)] [] μ2 := by
    intro kf
    induction kf with
    | zero => intro n hp2_0 hp2_1; exfalso; omega
    | succ kf ih_2 =>
      intro n hp2_0 hp2_1 x2_1 μ2
      rintro rfl rfl
      refine X_iload_n 2 1 dX7_laysAside_2 rfl rfl ?_
      refine X_sipush 3 (486) dX7_laysAside_3 (by decide) ?_
      refine X_icmp_ge 6 27 dX7_laysAside_6 (by decide) (fun c_6 => ?_) (fun c_6 => ?_)
      · have hge := c_ge (k := 486) rfl (by omega) (by omega) c_6
        have hie : 486 = n := by omega
        subst hie
        refine X_vret 27 dX7_laysAside_27 rfl ⟨_, rfl, rfl, ?_⟩
        rfl
      · have hltn := c_lt (k := 486) rfl (by omega) (by omega) c_6
        refine X_aload_n 9 0 dX7_laysAside_9 rfl rfl ?_
        refine X_getR (f := 2) 10 dX7_laysAside_10 lf_RX7_16 iw7 vc7 (by decide) lyM rfl ?_
        refine X_iload_n 13 1 dX7_laysAside_13 rfl rfl ?_
        refine X_aload_n 14 0 dX7_laysAside_14 rfl rfl ?_
        refine X_getR (f := 0) 15 dX7_laysAside_15 lf_RX7_7 iw7 vc7 (by decide) lyM rfl ?_
        refine X_iload_n 18 1 dX7_laysAside_18 rfl rfl ?_
        refine X_iald 19 dX7_laysAside_19 lyM1 (vp_in_nI (N := 486) (by omega) (by decide)) ?_
        rw [nI_clamp (by omega), setRow_out (by omega)]
        refine X_iast 20 dX7_laysAside_20 lyM3 (vp_in_nI (N := 486) (by omega) (by decide)) ?_
        rw [nI_clamp (by omega)]
        refine X_iinc 21 1 (_ + 1) [(1, .int _), (0, .ref _)] dX7_laysAside_21 rfl rfl (by decide) rfl ?_
        refine X_goto 24 2 dX7_laysAside_24 (by decide) ?_
        refine X_sub [1, 0] [(0, .ref _), (1, .int _)] rfl ?_
        exact ih_2 (n + 1) (by omega) (by omega) _ _  (by exact (nI_1 n).symm) (by exact (setRow_succ _ _ _ _).symm)
  exact L_2 487 0 (by omega) (by omega) _ _  (by exact nI_0) (by exact setRow_0 _ _ _)
set_option maxHeartbeats 4000000 in
set_option maxRecDepth 100000 in
theorem e_X7_bringsBack  (μ : Mm) : EvN ΛM mX7_bringsBack [.ref 0] μ (qV (fun m => setRow μ 1 486 (μ 3) = m)) := by
  refine EvN_ofQ (by decide +kernel) rfl (fun _ => rfl) (fun _ => Nat.le_of_ble_eq_true rfl) (ls := [(0, .ref 0)]) ?_
  refine X_iconst 0 (0) dX7_bringsBack_0 (by decide) ?_
  refine X_istore_n 1 [(1, .int _), (0, .ref _)] dX7_bringsBack_1 rfl (by decide) rfl ?_
  refine X_sub [1, 0] [(0, .ref _), (1, .int _)] rfl ?_
  have L_2 : ∀ (kf : Nat) (n : Nat), n ≤ 486 → 486 < n + kf → ∀ (x2_1 : Int32) (μ2 : Mm), nI n = x2_1 → setRow μ 1 n (μ 3) = μ2 → X false ΛM mX7_bringsBack (QN (qV (fun m => setRow μ 1 486 (μ 3) = m))) 2 [(0, .ref 0), (1, .int x2_1)] [] μ2 := by
    intro kf
    induction kf with
    | zero => intro n hp2_0 hp2_1; exfalso; omega
    | succ kf ih_2 =>
      intro n hp2_0 hp2_1 x2_1 μ2
      rintro rfl rfl
      refine X_iload_n 2 1 dX7_bringsBack_2 rfl rfl ?_
      refine X_sipush 3 (486) dX7_bringsBack_3 (by decide) ?_
      refine X_icmp_ge 6 27 dX7_bringsBack_6 (by decide) (fun c_6 => ?_) (fun c_6 => ?_)
      · have hge := c_ge (k := 486) rfl (by omega) (by omega) c_6
        have hie : 486 = n := by omega
        subst hie
        refine X_vret 27 dX7_bringsBack_27 rfl ⟨_, rfl, rfl, ?_⟩
        rfl
      · have hltn := c_lt (k := 486) rfl (by omega) (by omega) c_6
        refine X_aload_n 9 0 dX7_bringsBack_9 rfl rfl ?_
        refine X_getR (f := 0) 10 dX7_bringsBack_10 lf_RX7_7 iw7 vc7 (by decide) lyM rfl ?_
        refine X_iload_n 13 1 dX7_bringsBack_13 rfl rfl ?_
        refine X_aload_n 14 0 dX7_bringsBack_14 rfl rfl ?_
        refine X_getR (f := 2) 15 dX7_bringsBack_15 lf_RX7_16 iw7 vc7 (by decide) lyM rfl ?_
        refine X_iload_n 18 1 dX7_bringsBack_18 rfl rfl ?_
        refine X_iald 19 dX7_bringsBack_19 lyM3 (vp_in_nI (N := 486) (by omega) (by decide)) ?_
        rw [nI_clamp (by omega), setRow_out (by omega)]
        refine X_iast 20 dX7_bringsBack_20 lyM1 (vp_in_nI (N := 486) (by omega) (by decide)) ?_
        rw [nI_clamp (by omega)]
        refine X_iinc 21 1 (_ + 1) [(1, .int _), (0, .ref _)] dX7_bringsBack_21 rfl rfl (by decide) rfl ?_
        refine X_goto 24 2 dX7_bringsBack_24 (by decide) ?_
        refine X_sub [1, 0] [(0, .ref _), (1, .int _)] rfl ?_
        exact ih_2 (n + 1) (by omega) (by omega) _ _  (by exact (nI_1 n).symm) (by exact (setRow_succ _ _ _ _).symm)
  exact L_2 487 0 (by omega) (by omega) _ _  (by exact nI_0) (by exact setRow_0 _ _ _)
set_option maxHeartbeats 4000000 in
set_option maxRecDepth 100000 in
theorem e_X7_saves (pn : Nat) (μ : Mm) (h3 : μ 0 3 = nI pn) (hpn : pn ≤ 4) : EvN ΛM mX7_saves [.ref 0] μ (qV (fun m => svM pn μ = m)) := by
  refine EvN_ofQ (by decide +kernel) rfl (fun _ => rfl) (fun _ => Nat.le_of_ble_eq_true rfl) (ls := [(0, .ref 0)]) ?_
  refine X_aload_n 0 0 dX7_saves_0 rfl rfl ?_
  refine X_getI (f := 3) 1 dX7_saves_1 lf_RX7_45 iw7 vc7 (by decide) lyM rfl ?_
  refine X_iconst 4 (4) dX7_saves_4 (by decide) ?_
  rw [h3]
  refine X_icmp_ne 5 49 dX7_saves_5 (by decide) (fun c_5 => ?_) (fun c_5 => ?_)
  · have hq : ¬ pn = 4 := fun q => c_5 (by rw [q]; rfl)
    refine X_muE (μ2 := svA pn μ) (by first | exact if_neg hq | exact (if_pos hq).trans (by subst hq; rfl)) ?_
    have hpm := pm_lt hpn
    refine X_iconst 49 (0) dX7_saves_49 (by decide) ?_
    refine X_istore_n 50 [(1, .int _), (0, .ref _)] dX7_saves_50 rfl (by decide) rfl ?_
    refine X_sub [1, 0] [(0, .ref _), (1, .int _)] rfl ?_
    have L_51 : ∀ (kf : Nat) (n : Nat), n ≤ 486 → 486 < n + kf → ∀ (x51_1 : Int32) (μ51 : Mm), nI n = x51_1 → stc (svA pn μ) (486 * pm pn) n = μ51 → X false ΛM mX7_saves (QN (qV (fun m => svM pn μ = m))) 51 [(0, .ref 0), (1, .int x51_1)] [] μ51 := by
      intro kf
      induction kf with
      | zero => intro n hp51_0 hp51_1; exfalso; omega
      | succ kf ih_51 =>
        intro n hp51_0 hp51_1 x51_1 μ51
        rintro rfl rfl
        refine X_iload_n 51 1 dX7_saves_51 rfl rfl ?_
        refine X_sipush 52 (486) dX7_saves_52 (by decide) ?_
        refine X_icmp_ge 55 85 dX7_saves_55 (by decide) (fun c_55 => ?_) (fun c_55 => ?_)
        · have hge := c_ge (k := 486) rfl (by omega) (by omega) c_55
          have hie : 486 = n := by omega
          subst hie
          refine X_aload_n 85 0 dX7_saves_85 rfl rfl ?_
          refine X_dupr 86 dX7_saves_86 ?_
          refine X_getI (f := 3) 87 dX7_saves_87 lf_RX7_45 iw7 vc7 (by decide) lyM rfl ?_
          rw [stc_o (by omega), svA_3 h3]
          refine X_iconst 90 (1) dX7_saves_90 (by decide) ?_
          refine X_iadd 91 dX7_saves_91 ?_
          rw [nI_1]
          refine X_putI (f := 3) 92 dX7_saves_92 lf_RX7_45 iw7 vc7 (by decide) lyM tyX7_ok nmX7 rfl rfl rfl (by decide) rfl rfl ?_
          refine X_vret 95 dX7_saves_95 rfl ⟨_, rfl, rfl, ?_⟩
          rfl
        · have hltn := c_lt (k := 486) rfl (by omega) (by omega) c_55
          refine X_aload_n 58 0 dX7_saves_58 rfl rfl ?_
          refine X_getR (f := 1) 59 dX7_saves_59 lf_RX7_13 iw7 vc7 (by decide) lyM rfl ?_
          refine X_sipush 62 (486) dX7_saves_62 (by decide) ?_
          refine X_aload_n 65 0 dX7_saves_65 rfl rfl ?_
          refine X_getI (f := 3) 66 dX7_saves_66 lf_RX7_45 iw7 vc7 (by decide) lyM rfl ?_
          rw [stc_o (by omega), svA_3 h3]
          refine X_imul 69 dX7_saves_69 ?_
          refine X_iload_n 70 1 dX7_saves_70 rfl rfl ?_
          refine X_iadd 71 dX7_saves_71 ?_
          rw [svI]
          refine X_aload_n 72 0 dX7_saves_72 rfl rfl ?_
          refine X_getR (f := 2) 73 dX7_saves_73 lf_RX7_16 iw7 vc7 (by decide) lyM rfl ?_
          refine X_iload_n 76 1 dX7_saves_76 rfl rfl ?_
          refine X_iald 77 dX7_saves_77 lyM3 (vp_in_nI (N := 486) (by omega) (by decide)) ?_
          rw [nI_clamp (by omega), stc_o (by omega)]
          refine X_iast 78 dX7_saves_78 lyM2 (vp_in_nI (N := 1944) (by omega) (by decide)) ?_
          rw [nI_clamp (by omega)]
          refine X_iinc 79 1 (_ + 1) [(1, .int _), (0, .ref _)] dX7_saves_79 rfl rfl (by decide) rfl ?_
          refine X_goto 82 51 dX7_saves_82 (by decide) ?_
          refine X_sub [1, 0] [(0, .ref _), (1, .int _)] rfl ?_
          exact ih_51 (n + 1) (by omega) (by omega) _ _  (by exact (nI_1 n).symm) (by exact stc_s.symm)
    exact L_51 487 0 (by omega) (by omega) _ _  (by exact nI_0) (by exact stc_0)
  · have hq : pn = 4 := (nI_eq (by omega) (by decide)).mp c_5
    refine X_iconst 8 (0) dX7_saves_8 (by decide) ?_
    refine X_istore_n 9 [(1, .int _), (0, .ref _)] dX7_saves_9 rfl (by decide) rfl ?_
    refine X_sub [1, 0] [(0, .ref _), (1, .int _)] rfl ?_
    have L_10 : ∀ (kf : Nat) (n : Nat), n ≤ 1458 → 1458 < n + kf → ∀ (x10_1 : Int32) (μ10 : Mm), nI n = x10_1 → setRow μ 2 n (fun q => μ 2 (q + 486)) = μ10 → X false ΛM mX7_saves (QN (qV (fun m => svM pn μ = m))) 10 [(0, .ref 0), (1, .int x10_1)] [] μ10 := by
      intro kf
      induction kf with
      | zero => intro n hp10_0 hp10_1; exfalso; omega
      | succ kf ih_10 =>
        intro n hp10_0 hp10_1 x10_1 μ10
        rintro rfl rfl
        refine X_iload_n 10 1 dX7_saves_10 rfl rfl ?_
        refine X_sipush 11 (1458) dX7_saves_11 (by decide) ?_
        refine X_icmp_ge 14 39 dX7_saves_14 (by decide) (fun c_14 => ?_) (fun c_14 => ?_)
        · have hge := c_ge (k := 1458) rfl (by omega) (by omega) c_14
          have hie : 1458 = n := by omega
          subst hie
          refine X_aload_n 39 0 dX7_saves_39 rfl rfl ?_
          refine X_dupr 40 dX7_saves_40 ?_
          refine X_getI (f := 3) 41 dX7_saves_41 lf_RX7_45 iw7 vc7 (by decide) lyM rfl ?_
          rw [setRow_out (by omega), h3]
          refine X_iconst 44 (1) dX7_saves_44 (by decide) ?_
          refine X_isub 45 dX7_saves_45 ?_
          refine X_putI (f := 3) 46 dX7_saves_46 lf_RX7_45 iw7 vc7 (by decide) lyM tyX7_ok nmX7 rfl rfl rfl (by decide) rfl rfl ?_
          refine X_muE (μ2 := svA pn μ) (by first | exact if_neg hq | exact (if_pos hq).trans (by subst hq; rfl)) ?_
          have hpm := pm_lt hpn
          refine X_iconst 49 (0) dX7_saves_49 (by decide) ?_
          refine X_istore_n 50 [(1, .int _), (0, .ref _)] dX7_saves_50 rfl (by decide) rfl ?_
          refine X_sub [1, 0] [(0, .ref _), (1, .int _)] rfl ?_
          have L_51 : ∀ (kf : Nat) (n : Nat), n ≤ 486 → 486 < n + kf → ∀ (x51_1 : Int32) (μ51 : Mm), nI n = x51_1 → stc (svA pn μ) (486 * pm pn) n = μ51 → X false ΛM mX7_saves (QN (qV (fun m => svM pn μ = m))) 51 [(0, .ref 0), (1, .int x51_1)] [] μ51 := by
            intro kf
            induction kf with
            | zero => intro n hp51_0 hp51_1; exfalso; omega
            | succ kf ih_51 =>
              intro n hp51_0 hp51_1 x51_1 μ51
              rintro rfl rfl
              refine X_iload_n 51 1 dX7_saves_51 rfl rfl ?_
              refine X_sipush 52 (486) dX7_saves_52 (by decide) ?_
              refine X_icmp_ge 55 85 dX7_saves_55 (by decide) (fun c_55 => ?_) (fun c_55 => ?_)
              · have hge := c_ge (k := 486) rfl (by omega) (by omega) c_55
                have hie : 486 = n := by omega
                subst hie
                refine X_aload_n 85 0 dX7_saves_85 rfl rfl ?_
                refine X_dupr 86 dX7_saves_86 ?_
                refine X_getI (f := 3) 87 dX7_saves_87 lf_RX7_45 iw7 vc7 (by decide) lyM rfl ?_
                rw [stc_o (by omega), svA_3 h3]
                refine X_iconst 90 (1) dX7_saves_90 (by decide) ?_
                refine X_iadd 91 dX7_saves_91 ?_
                rw [nI_1]
                refine X_putI (f := 3) 92 dX7_saves_92 lf_RX7_45 iw7 vc7 (by decide) lyM tyX7_ok nmX7 rfl rfl rfl (by decide) rfl rfl ?_
                refine X_vret 95 dX7_saves_95 rfl ⟨_, rfl, rfl, ?_⟩
                rfl
              · have hltn := c_lt (k := 486) rfl (by omega) (by omega) c_55
                refine X_aload_n 58 0 dX7_saves_58 rfl rfl ?_
                refine X_getR (f := 1) 59 dX7_saves_59 lf_RX7_13 iw7 vc7 (by decide) lyM rfl ?_
                refine X_sipush 62 (486) dX7_saves_62 (by decide) ?_
                refine X_aload_n 65 0 dX7_saves_65 rfl rfl ?_
                refine X_getI (f := 3) 66 dX7_saves_66 lf_RX7_45 iw7 vc7 (by decide) lyM rfl ?_
                rw [stc_o (by omega), svA_3 h3]
                refine X_imul 69 dX7_saves_69 ?_
                refine X_iload_n 70 1 dX7_saves_70 rfl rfl ?_
                refine X_iadd 71 dX7_saves_71 ?_
                rw [svI]
                refine X_aload_n 72 0 dX7_saves_72 rfl rfl ?_
                refine X_getR (f := 2) 73 dX7_saves_73 lf_RX7_16 iw7 vc7 (by decide) lyM rfl ?_
                refine X_iload_n 76 1 dX7_saves_76 rfl rfl ?_
                refine X_iald 77 dX7_saves_77 lyM3 (vp_in_nI (N := 486) (by omega) (by decide)) ?_
                rw [nI_clamp (by omega), stc_o (by omega)]
                refine X_iast 78 dX7_saves_78 lyM2 (vp_in_nI (N := 1944) (by omega) (by decide)) ?_
                rw [nI_clamp (by omega)]
                refine X_iinc 79 1 (_ + 1) [(1, .int _), (0, .ref _)] dX7_saves_79 rfl rfl (by decide) rfl ?_
                refine X_goto 82 51 dX7_saves_82 (by decide) ?_
                refine X_sub [1, 0] [(0, .ref _), (1, .int _)] rfl ?_
                exact ih_51 (n + 1) (by omega) (by omega) _ _  (by exact (nI_1 n).symm) (by exact stc_s.symm)
          exact L_51 487 0 (by omega) (by omega) _ _  (by exact nI_0) (by exact stc_0)
        · have hltn := c_lt (k := 1458) rfl (by omega) (by omega) c_14
          refine X_aload_n 17 0 dX7_saves_17 rfl rfl ?_
          refine X_getR (f := 1) 18 dX7_saves_18 lf_RX7_13 iw7 vc7 (by decide) lyM rfl ?_
          refine X_iload_n 21 1 dX7_saves_21 rfl rfl ?_
          refine X_aload_n 22 0 dX7_saves_22 rfl rfl ?_
          refine X_getR (f := 1) 23 dX7_saves_23 lf_RX7_13 iw7 vc7 (by decide) lyM rfl ?_
          refine X_iload_n 26 1 dX7_saves_26 rfl rfl ?_
          refine X_sipush 27 (486) dX7_saves_27 (by decide) ?_
          refine X_iadd 30 dX7_saves_30 ?_
          rw [show nI n + 486 = nI (n + 486) from nI_add n 486]
          refine X_iald 31 dX7_saves_31 lyM2 (vp_in_nI (N := 1944) (by omega) (by decide)) ?_
          rw [nI_clamp (by omega), setRow_out (by omega)]
          refine X_iast 32 dX7_saves_32 lyM2 (vp_in_nI (N := 1944) (by omega) (by decide)) ?_
          rw [nI_clamp (by omega)]
          refine X_iinc 33 1 (_ + 1) [(1, .int _), (0, .ref _)] dX7_saves_33 rfl rfl (by decide) rfl ?_
          refine X_goto 36 10 dX7_saves_36 (by decide) ?_
          refine X_sub [1, 0] [(0, .ref _), (1, .int _)] rfl ?_
          exact ih_10 (n + 1) (by omega) (by omega) _ _  (by exact (nI_1 n).symm) (by exact (setRow_succ _ _ _ _).symm)
    exact L_10 1459 0 (by omega) (by omega) _ _  (by exact nI_0) (by exact setRow_0 _ _ _)
set_option maxHeartbeats 4000000 in
set_option maxRecDepth 100000 in
theorem e_X7_ends (pn : Nat) (x : Int32) (μ : Mm) (h3 : μ 0 3 = nI pn) (hpn : pn ≤ 4) : EvN ΛM mX7_ends [.ref 0, .int x] μ (qI (fun v m => ENP pn x μ v m)) := by
  refine EvN_ofQ (by decide +kernel) rfl (fun _ => rfl) (fun _ => Nat.le_of_ble_eq_true rfl) (ls := [(0, .ref 0), (1, .int x)]) ?_
  refine X_iload_n 0 1 dX7_ends_0 rfl rfl ?_
  refine X_if_le 1 10 dX7_ends_1 (by decide) (fun c_1 => ?_) (fun c_1 => ?_)
  · refine X_aload_n 10 0 dX7_ends_10 rfl rfl ?_
    refine X_cVV 11 [] (e_X7_saves pn _ h3 hpn) dX7_ends_11 lm_RX7_52 0 ⟨wm_X7_saves, by decide +kernel, rfl, rfl⟩ rfl ⟨Nat.le_of_ble_eq_true rfl, Nat.le_of_ble_eq_true rfl⟩ lyM vc7 rfl rfl (Nat.le_of_ble_eq_true rfl) ?_
    rintro _ rfl
    refine X_aload_n 14 0 dX7_ends_14 rfl rfl ?_
    refine X_aload_n 15 0 dX7_ends_15 rfl rfl ?_
    refine X_getI (f := 7) 16 dX7_ends_16 lf_RX7_55 iw7 vc7 (by decide) lyM rfl ?_
    rw [svM_o (by decide) (by omega)]
    refine X_cVI 19 [.int _] (e_X7_tells _ _) dX7_ends_19 lm_RX7_58 1 ⟨wm_X7_tells, by decide +kernel, rfl, rfl⟩ rfl ⟨Nat.le_of_ble_eq_true rfl, Nat.le_of_ble_eq_true rfl⟩ lyM vc7 rfl rfl (Nat.le_of_ble_eq_true rfl) ?_
    rintro _ _ ⟨rfl, rfl⟩
    refine X_iret 22 dX7_ends_22 rfl rfl ⟨_, rfl, _, rfl, ?_⟩
    exact Or.inr ⟨fun z => Int32.not_lt.mpr c_1 z, rfl, rfl⟩
  · refine X_aload_n 4 0 dX7_ends_4 rfl rfl ?_
    refine X_iload_n 5 1 dX7_ends_5 rfl rfl ?_
    refine X_cVI 6 [.int _] (e_X7_fails x _) dX7_ends_6 lm_RX7_48 1 ⟨wm_X7_fails, by decide +kernel, rfl, rfl⟩ rfl ⟨Nat.le_of_ble_eq_true rfl, Nat.le_of_ble_eq_true rfl⟩ lyM vc7 rfl rfl (Nat.le_of_ble_eq_true rfl) ?_
    rintro _ _ ⟨rfl, rfl⟩
    refine X_iret 9 dX7_ends_9 rfl rfl ⟨_, rfl, _, rfl, ?_⟩
    exact Or.inl ⟨Int32.not_le.mp c_1, rfl⟩
set_option maxHeartbeats 4000000 in
set_option maxRecDepth 100000 in
theorem e_X7_undo (pn : Nat) (μ : Mm) (h3 : μ 0 3 = nI pn) (hpn : pn ≤ 4) : EvN ΛM mX7_undo [.ref 0] μ (qI (fun v m => (pn = 0 ∧ uM μ 0 6 1 = m) ∨ (¬ pn = 0 ∧ nI (pn - 1) = v ∧ uM (setRow (uM μ 0 3 (nI (pn - 1))) 1 486 (fun q => μ 2 (486 * (pn - 1) + q))) 0 6 0 = m))) := by
  refine EvN_ofQ (by decide +kernel) rfl (fun _ => rfl) (fun _ => Nat.le_of_ble_eq_true rfl) (ls := [(0, .ref 0)]) ?_
  refine X_aload_n 0 0 dX7_undo_0 rfl rfl ?_
  refine X_getI (f := 3) 1 dX7_undo_1 lf_RX7_45 iw7 vc7 (by decide) lyM rfl ?_
  rw [h3]
  refine X_if_ne 4 13 dX7_undo_4 (by decide) (fun c_4 => ?_) (fun c_4 => ?_)
  · have hq : ¬ pn = 0 := fun q => c_4 (by rw [q]; rfl)
    refine X_aload_n 13 0 dX7_undo_13 rfl rfl ?_
    refine X_dupr 14 dX7_undo_14 ?_
    refine X_getI (f := 3) 15 dX7_undo_15 lf_RX7_45 iw7 vc7 (by decide) lyM rfl ?_
    rw [h3]
    refine X_iconst 18 (1) dX7_undo_18 (by decide) ?_
    refine X_isub 19 dX7_undo_19 ?_
    rw [show nI pn - 1 = nI (pn - 1) from nI_sub (a := pn) (b := 1) (by omega) (by omega)]
    refine X_putI (f := 3) 20 dX7_undo_20 lf_RX7_45 iw7 vc7 (by decide) lyM tyX7_ok nmX7 rfl rfl rfl (by decide) rfl rfl ?_
    refine X_iconst 23 (0) dX7_undo_23 (by decide) ?_
    refine X_istore_n 24 [(1, .int _), (0, .ref _)] dX7_undo_24 rfl (by decide) rfl ?_
    refine X_sub [1, 0] [(0, .ref _), (1, .int _)] rfl ?_
    have L_25 : ∀ (kf : Nat) (n : Nat), n ≤ 486 → 486 < n + kf → ∀ (x25_1 : Int32) (μ25 : Mm), nI n = x25_1 → setRow (uM μ 0 3 (nI (pn - 1))) 1 n (fun q => μ 2 (486 * (pn - 1) + q)) = μ25 → X false ΛM mX7_undo (QN (qI (fun v m => (pn = 0 ∧ uM μ 0 6 1 = m) ∨ (¬ pn = 0 ∧ nI (pn - 1) = v ∧ uM (setRow (uM μ 0 3 (nI (pn - 1))) 1 486 (fun q => μ 2 (486 * (pn - 1) + q))) 0 6 0 = m)))) 25 [(0, .ref 0), (1, .int x25_1)] [] μ25 := by
      intro kf
      induction kf with
      | zero => intro n hp25_0 hp25_1; exfalso; omega
      | succ kf ih_25 =>
        intro n hp25_0 hp25_1 x25_1 μ25
        rintro rfl rfl
        refine X_iload_n 25 1 dX7_undo_25 rfl rfl ?_
        refine X_sipush 26 (486) dX7_undo_26 (by decide) ?_
        refine X_icmp_ge 29 59 dX7_undo_29 (by decide) (fun c_29 => ?_) (fun c_29 => ?_)
        · have hge := c_ge (k := 486) rfl (by omega) (by omega) c_29
          have hie : 486 = n := by omega
          subst hie
          refine X_aload_n 59 0 dX7_undo_59 rfl rfl ?_
          refine X_aload_n 60 0 dX7_undo_60 rfl rfl ?_
          refine X_getI (f := 3) 61 dX7_undo_61 lf_RX7_45 iw7 vc7 (by decide) lyM rfl ?_
          rw [setRow_out (by omega), uM_s]
          refine X_cVI 64 [.int _] (e_X7_tells _ _) dX7_undo_64 lm_RX7_58 1 ⟨wm_X7_tells, by decide +kernel, rfl, rfl⟩ rfl ⟨Nat.le_of_ble_eq_true rfl, Nat.le_of_ble_eq_true rfl⟩ lyM vc7 rfl rfl (Nat.le_of_ble_eq_true rfl) ?_
          rintro _ _ ⟨rfl, rfl⟩
          refine X_iret 67 dX7_undo_67 rfl rfl ⟨_, rfl, _, rfl, ?_⟩
          exact Or.inr ⟨hq, rfl, rfl⟩
        · have hltn := c_lt (k := 486) rfl (by omega) (by omega) c_29
          refine X_aload_n 32 0 dX7_undo_32 rfl rfl ?_
          refine X_getR (f := 0) 33 dX7_undo_33 lf_RX7_7 iw7 vc7 (by decide) lyM rfl ?_
          refine X_iload_n 36 1 dX7_undo_36 rfl rfl ?_
          refine X_aload_n 37 0 dX7_undo_37 rfl rfl ?_
          refine X_getR (f := 1) 38 dX7_undo_38 lf_RX7_13 iw7 vc7 (by decide) lyM rfl ?_
          refine X_sipush 41 (486) dX7_undo_41 (by decide) ?_
          refine X_aload_n 44 0 dX7_undo_44 rfl rfl ?_
          refine X_getI (f := 3) 45 dX7_undo_45 lf_RX7_45 iw7 vc7 (by decide) lyM rfl ?_
          rw [setRow_out (by omega), uM_s]
          refine X_imul 48 dX7_undo_48 ?_
          refine X_iload_n 49 1 dX7_undo_49 rfl rfl ?_
          refine X_iadd 50 dX7_undo_50 ?_
          rw [svI]
          refine X_iald 51 dX7_undo_51 lyM2 (vp_in_nI (N := 1944) (by omega) (by decide)) ?_
          rw [nI_clamp (by omega), setRow_out (by omega), uM_n (by omega)]
          refine X_iast 52 dX7_undo_52 lyM1 (vp_in_nI (N := 486) (by omega) (by decide)) ?_
          rw [nI_clamp (by omega)]
          refine X_iinc 53 1 (_ + 1) [(1, .int _), (0, .ref _)] dX7_undo_53 rfl rfl (by decide) rfl ?_
          refine X_goto 56 25 dX7_undo_56 (by decide) ?_
          refine X_sub [1, 0] [(0, .ref _), (1, .int _)] rfl ?_
          exact ih_25 (n + 1) (by omega) (by omega) _ _  (by exact (nI_1 n).symm) (by exact (setRow_succ _ _ _ _).symm)
    exact L_25 487 0 (by omega) (by omega) _ _  (by exact nI_0) (by exact setRow_0 _ _ _)
  · have hq : pn = 0 := (nI_eq (by omega) (by decide)).mp c_4
    refine X_aload_n 7 0 dX7_undo_7 rfl rfl ?_
    refine X_iconst 8 (1) dX7_undo_8 (by decide) ?_
    refine X_cVI 9 [.int _] (e_X7_fails _ _) dX7_undo_9 lm_RX7_48 1 ⟨wm_X7_fails, by decide +kernel, rfl, rfl⟩ rfl ⟨Nat.le_of_ble_eq_true rfl, Nat.le_of_ble_eq_true rfl⟩ lyM vc7 rfl rfl (Nat.le_of_ble_eq_true rfl) ?_
    rintro _ _ ⟨rfl, rfl⟩
    refine X_iret 12 dX7_undo_12 rfl rfl ⟨_, rfl, _, rfl, ?_⟩
    exact Or.inl ⟨hq, rfl⟩
set_option maxHeartbeats 4000000 in
set_option maxRecDepth 100000 in
theorem e_X7_begin (V : Mm) (c r lc pn : Nat) (a b : Int32) (μ : Mm) (hM : MI V c r lc μ) (h3 : μ 0 3 = nI pn) (hpn : pn ≤ 4) : EvN ΛM mX7_begin [.ref 0, .int a, .int b] μ (qI (P2 pn (wallOK a b) (wallM V 0 a b) (tn a) (tn b) lc (nI (c * r)) μ)) := by
  refine EvN_ofQ (by decide +kernel) rfl (fun _ => rfl) (fun _ => Nat.le_of_ble_eq_true rfl) (ls := [(0, .ref 0), (1, .int a), (2, .int b)]) ?_
  refine X_aload_n 0 0 dX7_begin_0 rfl rfl ?_
  refine X_cVV 1 [] (e_X7_laysAside _) dX7_begin_1 lm_RX7_162 0 ⟨wm_X7_laysAside, by decide +kernel, rfl, rfl⟩ rfl ⟨Nat.le_of_ble_eq_true rfl, Nat.le_of_ble_eq_true rfl⟩ lyM vc7 rfl rfl (Nat.le_of_ble_eq_true rfl) ?_
  rintro _ rfl
  refine X_muE (μ2 := lay μ) rfl ?_
  refine X_aload_n 4 0 dX7_begin_4 rfl rfl ?_
  refine X_aload_n 5 0 dX7_begin_5 rfl rfl ?_
  refine X_iload_n 6 1 dX7_begin_6 rfl rfl ?_
  refine X_iload_n 7 2 dX7_begin_7 rfl rfl ?_
  refine X_cVI 8 [.int _, .int _] (e_X7_begins V c r lc a b _ (MI_lay hM)) dX7_begin_8 lm_RX7_165 2 ⟨wm_X7_begins, by decide +kernel, rfl, rfl⟩ rfl ⟨Nat.le_of_ble_eq_true rfl, Nat.le_of_ble_eq_true rfl⟩ lyM vc7 rfl rfl (Nat.le_of_ble_eq_true rfl) ?_
  rintro x9 m9 h9
  refine X_cVI 11 [.int _] (e_X7_ends pn x9 _ (op2_3 h9 h3) hpn) dX7_begin_11 lm_RX7_168 1 ⟨wm_X7_ends, by decide +kernel, rfl, rfl⟩ rfl ⟨Nat.le_of_ble_eq_true rfl, Nat.le_of_ble_eq_true rfl⟩ lyM vc7 rfl rfl (Nat.le_of_ble_eq_true rfl) ?_
  rintro v8 m8 h8e
  refine X_iret 14 dX7_begin_14 rfl rfl ⟨_, rfl, _, rfl, ?_⟩
  exact fin2 h9 h8e
set_option maxHeartbeats 4000000 in
set_option maxRecDepth 100000 in
theorem e_X7_paint (V : Mm) (c r lc pn : Nat) (x y u v t : Int32) (μ : Mm) (hM : MI V c r lc μ) (h3 : μ 0 3 = nI pn) (hpn : pn ≤ 4) : EvN ΛM mX7_paint [.ref 0, .int x, .int y, .int u, .int v, .int t] μ (qI (P3 pn (PL c r x y ∧ PL c r u v) (ptOK x y u v t) (uM (ptR 8 t c (tn x) (tn u - tn x + 1) (tn y) (tn v - tn y + 1) (0, V)).2 0 6 1) c r lc (ptR 8 t c (tn x) (tn u - tn x + 1) (tn y) (tn v - tn y + 1) (0, V)).1 μ)) := by
  refine EvN_ofQ (by decide +kernel) rfl (fun _ => rfl) (fun _ => Nat.le_of_ble_eq_true rfl) (ls := [(0, .ref 0), (1, .int x), (2, .int y), (3, .int u), (4, .int v), (5, .int t)]) ?_
  refine X_aload_n 0 0 dX7_paint_0 rfl rfl ?_
  refine X_cVV 1 [] (e_X7_laysAside _) dX7_paint_1 lm_RX7_162 0 ⟨wm_X7_laysAside, by decide +kernel, rfl, rfl⟩ rfl ⟨Nat.le_of_ble_eq_true rfl, Nat.le_of_ble_eq_true rfl⟩ lyM vc7 rfl rfl (Nat.le_of_ble_eq_true rfl) ?_
  rintro _ rfl
  refine X_muE (μ2 := lay μ) rfl ?_
  refine X_aload_n 4 0 dX7_paint_4 rfl rfl ?_
  refine X_aload_n 5 0 dX7_paint_5 rfl rfl ?_
  refine X_iload_n 6 1 dX7_paint_6 rfl rfl ?_
  refine X_iload_n 7 2 dX7_paint_7 rfl rfl ?_
  refine X_iload_n 8 3 dX7_paint_8 rfl rfl ?_
  refine X_iload 9 4 dX7_paint_9 rfl ?_
  refine X_iload 11 5 dX7_paint_11 rfl ?_
  refine X_cVI 13 [.int _, .int _, .int _, .int _, .int _] (e_X7_paints V c r lc x y u v t _ (MI_lay hM)) dX7_paint_13 lm_RX7_171 5 ⟨wm_X7_paints, by decide +kernel, rfl, rfl⟩ rfl ⟨Nat.le_of_ble_eq_true rfl, Nat.le_of_ble_eq_true rfl⟩ lyM vc7 rfl rfl (Nat.le_of_ble_eq_true rfl) ?_
  rintro x9 m9 h9
  refine X_cVI 16 [.int _] (e_X7_ends pn x9 _ (op3_3 h9 h3) hpn) dX7_paint_16 lm_RX7_168 1 ⟨wm_X7_ends, by decide +kernel, rfl, rfl⟩ rfl ⟨Nat.le_of_ble_eq_true rfl, Nat.le_of_ble_eq_true rfl⟩ lyM vc7 rfl rfl (Nat.le_of_ble_eq_true rfl) ?_
  rintro v8 m8 h8e
  refine X_iret 19 dX7_paint_19 rfl rfl ⟨_, rfl, _, rfl, ?_⟩
  exact fin3 h9 h8e
set_option maxHeartbeats 4000000 in
set_option maxRecDepth 100000 in
theorem e_X7_addLamp (V : Mm) (c r lc pn : Nat) (a b : Int32) (μ : Mm) (hM : MI V c r lc μ) (h3 : μ 0 3 = nI pn) (hpn : pn ≤ 4) : EvN ΛM mX7_addLamp [.ref 0, .int a, .int b] μ (qI (P3 pn (nlOK a b) (lc < 8) (hang V 0 lc a b) c r (lc + 1) (nI lc) μ)) := by
  refine EvN_ofQ (by decide +kernel) rfl (fun _ => rfl) (fun _ => Nat.le_of_ble_eq_true rfl) (ls := [(0, .ref 0), (1, .int a), (2, .int b)]) ?_
  refine X_aload_n 0 0 dX7_addLamp_0 rfl rfl ?_
  refine X_cVV 1 [] (e_X7_laysAside _) dX7_addLamp_1 lm_RX7_162 0 ⟨wm_X7_laysAside, by decide +kernel, rfl, rfl⟩ rfl ⟨Nat.le_of_ble_eq_true rfl, Nat.le_of_ble_eq_true rfl⟩ lyM vc7 rfl rfl (Nat.le_of_ble_eq_true rfl) ?_
  rintro _ rfl
  refine X_muE (μ2 := lay μ) rfl ?_
  refine X_aload_n 4 0 dX7_addLamp_4 rfl rfl ?_
  refine X_aload_n 5 0 dX7_addLamp_5 rfl rfl ?_
  refine X_iload_n 6 1 dX7_addLamp_6 rfl rfl ?_
  refine X_iload_n 7 2 dX7_addLamp_7 rfl rfl ?_
  refine X_cVI 8 [.int _, .int _] (e_X7_adds V c r lc a b _ (MI_lay hM)) dX7_addLamp_8 lm_RX7_175 2 ⟨wm_X7_adds, by decide +kernel, rfl, rfl⟩ rfl ⟨Nat.le_of_ble_eq_true rfl, Nat.le_of_ble_eq_true rfl⟩ lyM vc7 rfl rfl (Nat.le_of_ble_eq_true rfl) ?_
  rintro x9 m9 h9
  refine X_cVI 11 [.int _] (e_X7_ends pn x9 _ (op3_3 h9 h3) hpn) dX7_addLamp_11 lm_RX7_168 1 ⟨wm_X7_ends, by decide +kernel, rfl, rfl⟩ rfl ⟨Nat.le_of_ble_eq_true rfl, Nat.le_of_ble_eq_true rfl⟩ lyM vc7 rfl rfl (Nat.le_of_ble_eq_true rfl) ?_
  rintro v8 m8 h8e
  refine X_iret 14 dX7_addLamp_14 rfl rfl ⟨_, rfl, _, rfl, ?_⟩
  exact fin3 h9 h8e
set_option maxHeartbeats 4000000 in
set_option maxRecDepth 100000 in
theorem e_X7_setCorner (V : Mm) (c r lc pn : Nat) (n i x y : Int32) (μ : Mm) (hM : MI V c r lc μ) (h3 : μ 0 3 = nI pn) (hpn : pn ≤ 4) : EvN ΛM mX7_setCorner [.ref 0, .int n, .int i, .int x, .int y] μ (qI (P3 pn ((LPn lc n ∧ rgI i 0 3)) (coOK x y) (mvc V 0 (4 * tn n + tn i) x y) c r lc (if goodB (mvc V 0 (4 * tn n + tn i) x y) 0 (tn n) = true then 1 else 0) μ)) := by
  refine EvN_ofQ (by decide +kernel) rfl (fun _ => rfl) (fun _ => Nat.le_of_ble_eq_true rfl) (ls := [(0, .ref 0), (1, .int n), (2, .int i), (3, .int x), (4, .int y)]) ?_
  refine X_aload_n 0 0 dX7_setCorner_0 rfl rfl ?_
  refine X_cVV 1 [] (e_X7_laysAside _) dX7_setCorner_1 lm_RX7_162 0 ⟨wm_X7_laysAside, by decide +kernel, rfl, rfl⟩ rfl ⟨Nat.le_of_ble_eq_true rfl, Nat.le_of_ble_eq_true rfl⟩ lyM vc7 rfl rfl (Nat.le_of_ble_eq_true rfl) ?_
  rintro _ rfl
  refine X_muE (μ2 := lay μ) rfl ?_
  refine X_aload_n 4 0 dX7_setCorner_4 rfl rfl ?_
  refine X_aload_n 5 0 dX7_setCorner_5 rfl rfl ?_
  refine X_iload_n 6 1 dX7_setCorner_6 rfl rfl ?_
  refine X_iload_n 7 2 dX7_setCorner_7 rfl rfl ?_
  refine X_iload_n 8 3 dX7_setCorner_8 rfl rfl ?_
  refine X_iload 9 4 dX7_setCorner_9 rfl ?_
  refine X_cVI 11 [.int _, .int _, .int _, .int _] (e_X7_corners V c r lc n i x y _ (MI_lay hM)) dX7_setCorner_11 lm_RX7_178 4 ⟨wm_X7_corners, by decide +kernel, rfl, rfl⟩ rfl ⟨Nat.le_of_ble_eq_true rfl, Nat.le_of_ble_eq_true rfl⟩ lyM vc7 rfl rfl (Nat.le_of_ble_eq_true rfl) ?_
  rintro x9 m9 h9
  refine X_cVI 14 [.int _] (e_X7_ends pn x9 _ (op3_3 h9 h3) hpn) dX7_setCorner_14 lm_RX7_168 1 ⟨wm_X7_ends, by decide +kernel, rfl, rfl⟩ rfl ⟨Nat.le_of_ble_eq_true rfl, Nat.le_of_ble_eq_true rfl⟩ lyM vc7 rfl rfl (Nat.le_of_ble_eq_true rfl) ?_
  rintro v8 m8 h8e
  refine X_iret 17 dX7_setCorner_17 rfl rfl ⟨_, rfl, _, rfl, ?_⟩
  exact fin3 h9 h8e
set_option maxHeartbeats 4000000 in
set_option maxRecDepth 100000 in
theorem e_X7_setWorks (V : Mm) (c r lc pn : Nat) (n z : Int32) (μ : Mm) (hM : MI V c r lc μ) (h3 : μ 0 3 = nI pn) (hpn : pn ≤ 4) : EvN ΛM mX7_setWorks [.ref 0, .int n, .int z] μ (qI (P2 pn (LPn lc n) (uM (uM V 12 (tn n) (if z = 0 then 0 else 1)) 0 6 1) c r lc (if wkB V 0 (tn n) = true then 1 else 0) μ)) := by
  refine EvN_ofQ (by decide +kernel) rfl (fun _ => rfl) (fun _ => Nat.le_of_ble_eq_true rfl) (ls := [(0, .ref 0), (1, .int n), (2, .int z)]) ?_
  refine X_aload_n 0 0 dX7_setWorks_0 rfl rfl ?_
  refine X_cVV 1 [] (e_X7_laysAside _) dX7_setWorks_1 lm_RX7_162 0 ⟨wm_X7_laysAside, by decide +kernel, rfl, rfl⟩ rfl ⟨Nat.le_of_ble_eq_true rfl, Nat.le_of_ble_eq_true rfl⟩ lyM vc7 rfl rfl (Nat.le_of_ble_eq_true rfl) ?_
  rintro _ rfl
  refine X_muE (μ2 := lay μ) rfl ?_
  refine X_aload_n 4 0 dX7_setWorks_4 rfl rfl ?_
  refine X_aload_n 5 0 dX7_setWorks_5 rfl rfl ?_
  refine X_iload_n 6 1 dX7_setWorks_6 rfl rfl ?_
  refine X_iload_n 7 2 dX7_setWorks_7 rfl rfl ?_
  refine X_cVI 8 [.int _, .int _] (e_X7_works V c r lc n z _ (MI_lay hM)) dX7_setWorks_8 lm_RX7_182 2 ⟨wm_X7_works, by decide +kernel, rfl, rfl⟩ rfl ⟨Nat.le_of_ble_eq_true rfl, Nat.le_of_ble_eq_true rfl⟩ lyM vc7 rfl rfl (Nat.le_of_ble_eq_true rfl) ?_
  rintro x9 m9 h9
  refine X_cVI 11 [.int _] (e_X7_ends pn x9 _ (op2_3 h9 h3) hpn) dX7_setWorks_11 lm_RX7_168 1 ⟨wm_X7_ends, by decide +kernel, rfl, rfl⟩ rfl ⟨Nat.le_of_ble_eq_true rfl, Nat.le_of_ble_eq_true rfl⟩ lyM vc7 rfl rfl (Nat.le_of_ble_eq_true rfl) ?_
  rintro v8 m8 h8e
  refine X_iret 14 dX7_setWorks_14 rfl rfl ⟨_, rfl, _, rfl, ?_⟩
  exact fin2 h9 h8e
set_option maxHeartbeats 4000000 in
set_option maxRecDepth 100000 in
theorem e_X7_shift (V : Mm) (c r lc pn : Nat) (a b : Int32) (μ : Mm) (hM : MI V c r lc μ) (h3 : μ 0 3 = nI pn) (hpn : pn ≤ 4) : EvN ΛM mX7_shift [.ref 0, .int a, .int b] μ (qI (P2 pn (shOK a b) (movM V a b) c r lc (nI (c * r) - pstJ (movM V a b) lc c r 0) μ)) := by
  refine EvN_ofQ (by decide +kernel) rfl (fun _ => rfl) (fun _ => Nat.le_of_ble_eq_true rfl) (ls := [(0, .ref 0), (1, .int a), (2, .int b)]) ?_
  refine X_aload_n 0 0 dX7_shift_0 rfl rfl ?_
  refine X_cVV 1 [] (e_X7_laysAside _) dX7_shift_1 lm_RX7_162 0 ⟨wm_X7_laysAside, by decide +kernel, rfl, rfl⟩ rfl ⟨Nat.le_of_ble_eq_true rfl, Nat.le_of_ble_eq_true rfl⟩ lyM vc7 rfl rfl (Nat.le_of_ble_eq_true rfl) ?_
  rintro _ rfl
  refine X_muE (μ2 := lay μ) rfl ?_
  refine X_aload_n 4 0 dX7_shift_4 rfl rfl ?_
  refine X_aload_n 5 0 dX7_shift_5 rfl rfl ?_
  refine X_iload_n 6 1 dX7_shift_6 rfl rfl ?_
  refine X_iload_n 7 2 dX7_shift_7 rfl rfl ?_
  refine X_cVI 8 [.int _, .int _] (e_X7_shifts V c r lc a b _ (MI_lay hM)) dX7_shift_8 lm_RX7_186 2 ⟨wm_X7_shifts, by decide +kernel, rfl, rfl⟩ rfl ⟨Nat.le_of_ble_eq_true rfl, Nat.le_of_ble_eq_true rfl⟩ lyM vc7 rfl rfl (Nat.le_of_ble_eq_true rfl) ?_
  rintro x9 m9 h9
  refine X_cVI 11 [.int _] (e_X7_ends pn x9 _ (op2_3 h9 h3) hpn) dX7_shift_11 lm_RX7_168 1 ⟨wm_X7_ends, by decide +kernel, rfl, rfl⟩ rfl ⟨Nat.le_of_ble_eq_true rfl, Nat.le_of_ble_eq_true rfl⟩ lyM vc7 rfl rfl (Nat.le_of_ble_eq_true rfl) ?_
  rintro v8 m8 h8e
  refine X_iret 14 dX7_shift_14 rfl rfl ⟨_, rfl, _, rfl, ?_⟩
  exact fin2 h9 h8e
set_option maxHeartbeats 4000000 in
set_option maxRecDepth 100000 in
theorem e_X7_burn (V : Mm) (c r lc pn : Nat) (h : Int32) (μ : Mm) (hM : MI V c r lc μ) (h3 : μ 0 3 = nI pn) (hpn : pn ≤ 4) : EvN ΛM mX7_burn [.ref 0, .int h] μ (qI (P2 pn (rgI h 1 9999) (burnM V (ldJ V lc c r) h lc) c r lc (maxN lc (brnM V (ldJ V lc c r) h lc 11)) μ)) := by
  refine EvN_ofQ (by decide +kernel) rfl (fun _ => rfl) (fun _ => Nat.le_of_ble_eq_true rfl) (ls := [(0, .ref 0), (1, .int h)]) ?_
  refine X_aload_n 0 0 dX7_burn_0 rfl rfl ?_
  refine X_cVV 1 [] (e_X7_laysAside _) dX7_burn_1 lm_RX7_162 0 ⟨wm_X7_laysAside, by decide +kernel, rfl, rfl⟩ rfl ⟨Nat.le_of_ble_eq_true rfl, Nat.le_of_ble_eq_true rfl⟩ lyM vc7 rfl rfl (Nat.le_of_ble_eq_true rfl) ?_
  rintro _ rfl
  refine X_muE (μ2 := lay μ) rfl ?_
  refine X_aload_n 4 0 dX7_burn_4 rfl rfl ?_
  refine X_aload_n 5 0 dX7_burn_5 rfl rfl ?_
  refine X_iload_n 6 1 dX7_burn_6 rfl rfl ?_
  refine X_cVI 7 [.int _] (e_X7_burns V c r lc h _ (MI_lay hM)) dX7_burn_7 lm_RX7_189 1 ⟨wm_X7_burns, by decide +kernel, rfl, rfl⟩ rfl ⟨Nat.le_of_ble_eq_true rfl, Nat.le_of_ble_eq_true rfl⟩ lyM vc7 rfl rfl (Nat.le_of_ble_eq_true rfl) ?_
  rintro x9 m9 h9
  refine X_cVI 10 [.int _] (e_X7_ends pn x9 _ (op2_3 h9 h3) hpn) dX7_burn_10 lm_RX7_168 1 ⟨wm_X7_ends, by decide +kernel, rfl, rfl⟩ rfl ⟨Nat.le_of_ble_eq_true rfl, Nat.le_of_ble_eq_true rfl⟩ lyM vc7 rfl rfl (Nat.le_of_ble_eq_true rfl) ?_
  rintro v8 m8 h8e
  refine X_iret 13 dX7_burn_13 rfl rfl ⟨_, rfl, _, rfl, ?_⟩
  exact fin2 h9 h8e
