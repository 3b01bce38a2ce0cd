set_option maxHeartbeats 4000000 in
set_option maxRecDepth 100000 in
theorem e_X7_isCorner (i : Int32) (μ : Mm) : EvN ΛM mX7_isCorner [.int i] μ (qB (rgI i 0 3) μ) := by
  refine EvN_ofQ (by decide +kernel) rfl (fun _ => rfl) (fun _ => Nat.le_of_ble_eq_true rfl) (ls := [(0, .int i)]) ?_
  refine X_iload_n 0 0 dX7_isCorner_0 rfl rfl ?_
  refine X_iconst 1 (0) dX7_isCorner_1 (by decide) ?_
  refine X_iconst 2 (3) dX7_isCorner_2 (by decide) ?_
  refine X_cSI 3 [.int _, .int _, .int _] (e_X7_in _ _ _ _) dX7_isCorner_3 lm_RX7_41 3 ⟨wm_X7_in, by decide +kernel, rfl, rfl⟩ rfl ⟨Nat.le_of_ble_eq_true rfl, Nat.le_of_ble_eq_true rfl⟩ rfl (Nat.le_of_ble_eq_true rfl) ?_
  rintro _ _ ⟨rfl, ⟨rfl, b_3⟩ | ⟨rfl, b_3⟩⟩
  · refine X_iret 6 dX7_isCorner_6 rfl rfl ⟨_, rfl, _, rfl, ?_⟩
    refine ⟨rfl, Or.inl ⟨rfl, ?_⟩⟩
    (first | assumption | (simp_all; done))
  · refine X_iret 6 dX7_isCorner_6 rfl rfl ⟨_, rfl, _, rfl, ?_⟩
    refine ⟨rfl, Or.inr ⟨rfl, ?_⟩⟩
    (first | assumption | (simp_all; done))
set_option maxHeartbeats 4000000 in
set_option maxRecDepth 100000 in
theorem e_X7_corners (V : Mm) (c r lc : Nat) (n i x y : Int32) (μ : Mm) (hM : MI V c r lc μ) : EvN ΛM mX7_corners [.ref 0, .int n, .int i, .int x, .int y] μ (qI (fun k9 m9 => (¬ ((LPn lc n ∧ rgI i 0 3)) ∧ 1 = k9 ∧ μ = m9) ∨ (((LPn lc n ∧ rgI i 0 3)) ∧ ¬ coOK x y ∧ 2 = k9 ∧ μ = m9) ∨ (((LPn lc n ∧ rgI i 0 3)) ∧ coOK x y ∧ 0 = k9 ∧ OPOK (mvc V 0 (4 * tn n + tn i) x y) c r lc (if goodB (mvc V 0 (4 * tn n + tn i) x y) 0 (tn n) = true then 1 else 0) μ m9))) := by
  refine EvN_ofQ (by decide +kernel) rfl (fun _ => rfl) (fun _ => Nat.le_of_ble_eq_true rfl) (ls := [(0, .ref 0), (1, .int n), (2, .int i), (3, .int x), (4, .int y)]) ?_
  obtain ⟨⟨hc1, hc2⟩, ⟨hr1, hr2⟩, h8⟩ := MI_lc hM
  refine X_aload_n 0 0 dX7_corners_0 rfl rfl ?_
  refine X_iload_n 1 1 dX7_corners_1 rfl rfl ?_
  refine X_cVI 2 [.int _] (e_X7_isLamp n lc μ hM.1.1.2.2.1 h8) dX7_corners_2 lm_RX7_150 1 ⟨wm_X7_isLamp, by decide +kernel, rfl, rfl⟩ rfl ⟨Nat.le_of_ble_eq_true rfl, Nat.le_of_ble_eq_true rfl⟩ lyM vc7 rfl rfl (Nat.le_of_ble_eq_true rfl) ?_
  rintro _ _ ⟨rfl, ⟨rfl, b_2⟩ | ⟨rfl, b_2⟩⟩
  · refine X_if_eq 5 15 dX7_corners_5 (by decide) (fun c_0 => by exact absurd c_0 (by decide)) (fun _ => ?_)
    refine X_iload_n 8 2 dX7_corners_8 rfl rfl ?_
    refine X_cSI 9 [.int _] (e_X7_isCorner _ _) dX7_corners_9 lm_RX7_153 1 ⟨wm_X7_isCorner, by decide +kernel, rfl, rfl⟩ rfl ⟨Nat.le_of_ble_eq_true rfl, Nat.le_of_ble_eq_true rfl⟩ rfl (Nat.le_of_ble_eq_true rfl) ?_
    rintro _ _ ⟨rfl, ⟨rfl, b_9⟩ | ⟨rfl, b_9⟩⟩
    · refine X_if_ne 12 17 dX7_corners_12 (by decide) (fun _ => ?_) (fun c_0 => by exact absurd c_0 (by decide))
      refine X_iload_n 17 3 dX7_corners_17 rfl rfl ?_
      refine X_bipush 18 (-20) dX7_corners_18 (by decide) ?_
      refine X_bipush 20 (40) dX7_corners_20 (by decide) ?_
      refine X_cSI 22 [.int _, .int _, .int _] (e_X7_in _ _ _ _) dX7_corners_22 lm_RX7_41 3 ⟨wm_X7_in, by decide +kernel, rfl, rfl⟩ rfl ⟨Nat.le_of_ble_eq_true rfl, Nat.le_of_ble_eq_true rfl⟩ rfl (Nat.le_of_ble_eq_true rfl) ?_
      rintro _ _ ⟨rfl, ⟨rfl, b_22⟩ | ⟨rfl, b_22⟩⟩
      · refine X_if_eq 25 40 dX7_corners_25 (by decide) (fun c_0 => by exact absurd c_0 (by decide)) (fun _ => ?_)
        refine X_iload 28 4 dX7_corners_28 rfl ?_
        refine X_bipush 30 (-20) dX7_corners_30 (by decide) ?_
        refine X_bipush 32 (40) dX7_corners_32 (by decide) ?_
        refine X_cSI 34 [.int _, .int _, .int _] (e_X7_in _ _ _ _) dX7_corners_34 lm_RX7_41 3 ⟨wm_X7_in, by decide +kernel, rfl, rfl⟩ rfl ⟨Nat.le_of_ble_eq_true rfl, Nat.le_of_ble_eq_true rfl⟩ rfl (Nat.le_of_ble_eq_true rfl) ?_
        rintro _ _ ⟨rfl, ⟨rfl, b_34⟩ | ⟨rfl, b_34⟩⟩
        · refine X_if_ne 37 42 dX7_corners_37 (by decide) (fun _ => ?_) (fun c_0 => by exact absurd c_0 (by decide))
          have hco : coOK x y := ⟨b_22, b_34⟩
          obtain ⟨k, hk, rfl⟩ := nat_lt b_2.1 b_2.2 (by omega)
          obtain ⟨j, hj, rfl⟩ := nat_le (n := 3) rfl b_9 (by omega)
          have en : tn (nI k) = k := nI_clamp (by omega)
          have ei : tn (nI j) = j := nI_clamp (by omega)
          refine X_aload_n 42 0 dX7_corners_42 rfl rfl ?_
          refine X_iload_n 43 1 dX7_corners_43 rfl rfl ?_
          refine X_iconst 44 (0) dX7_corners_44 (by decide) ?_
          refine X_iload_n 45 2 dX7_corners_45 rfl rfl ?_
          refine X_iadd 46 dX7_corners_46 ?_
          rw [Int32.zero_add]
          refine X_iload_n 47 3 dX7_corners_47 rfl rfl ?_
          refine X_cVV 48 [.int _, .int _, .int _] (e_X7_put k j _ _ (by omega) (by omega)) dX7_corners_48 lm_RX7_146 3 ⟨wm_X7_put, by decide +kernel, rfl, rfl⟩ rfl ⟨Nat.le_of_ble_eq_true rfl, Nat.le_of_ble_eq_true rfl⟩ lyM vc7 rfl rfl (Nat.le_of_ble_eq_true rfl) ?_
          rintro _ rfl
          refine X_aload_n 51 0 dX7_corners_51 rfl rfl ?_
          refine X_iload_n 52 1 dX7_corners_52 rfl rfl ?_
          refine X_iconst 53 (4) dX7_corners_53 (by decide) ?_
          refine X_iload_n 54 2 dX7_corners_54 rfl rfl ?_
          refine X_iadd 55 dX7_corners_55 ?_
          rw [show (4 : Int32) + nI j = nI (4 + j) from nI_add 4 _]
          refine X_iload 56 4 dX7_corners_56 rfl ?_
          refine X_cVV 58 [.int _, .int _, .int _] (e_X7_put k (4 + j) _ _ (by omega) (by omega)) dX7_corners_58 lm_RX7_146 3 ⟨wm_X7_put, by decide +kernel, rfl, rfl⟩ rfl ⟨Nat.le_of_ble_eq_true rfl, Nat.le_of_ble_eq_true rfl⟩ lyM vc7 rfl rfl (Nat.le_of_ble_eq_true rfl) ?_
          rintro _ rfl
          refine X_aload_n 61 0 dX7_corners_61 rfl rfl ?_
          refine X_aload_n 62 0 dX7_corners_62 rfl rfl ?_
          refine X_iload_n 63 1 dX7_corners_63 rfl rfl ?_
          refine X_cVI 64 [.int _] (e_X7_isGood 0 (mvc V 0 (4 * k + j) x y) c r lc k _ (cn_MI (k := k) hM (show j < 4 by omega) hco).1 (by omega)) dX7_corners_64 lm_RX7_83 1 ⟨wm_X7_isGood, by decide +kernel, rfl, rfl⟩ rfl ⟨Nat.le_of_ble_eq_true rfl, Nat.le_of_ble_eq_true rfl⟩ lyM vc7 rfl rfl (Nat.le_of_ble_eq_true rfl) ?_
          rintro _ _ ⟨rfl, ⟨rfl, b_64⟩ | ⟨rfl, b_64⟩⟩
          · refine X_if_eq 67 74 dX7_corners_67 (by decide) (fun c_0 => by exact absurd c_0 (by decide)) (fun _ => ?_)
            refine X_iconst 70 (1) dX7_corners_70 (by decide) ?_
            refine X_goto 71 75 dX7_corners_71 (by decide) ?_
            refine X_putI (f := 7) 75 dX7_corners_75 lf_RX7_55 iw7 vc7 (by decide) lyM tyX7_ok nmX7 rfl rfl rfl (by decide) rfl rfl ?_
            refine X_iconst 78 (0) dX7_corners_78 (by decide) ?_
            refine X_iret 79 dX7_corners_79 rfl rfl ⟨_, rfl, _, rfl, ?_⟩
            refine Or.inr (Or.inr ⟨⟨b_2, b_9⟩, hco, rfl, ?_⟩)
            rw [en, ei]
            refine ⟨MI_7 (cn_MI (k := k) hM (show j < 4 by omega) hco), ?_, RS1_uM (cnB_R RS1_r) (by decide)⟩
            rw [uM_s]
            first | exact (if_pos b_64).symm | exact (if_neg b_64).symm
          · refine X_if_eq 67 74 dX7_corners_67 (by decide) (fun _ => ?_) (fun c_0 => by exact absurd c_0 (by decide))
            refine X_iconst 74 (0) dX7_corners_74 (by decide) ?_
            refine X_putI (f := 7) 75 dX7_corners_75 lf_RX7_55 iw7 vc7 (by decide) lyM tyX7_ok nmX7 rfl rfl rfl (by decide) rfl rfl ?_
            refine X_iconst 78 (0) dX7_corners_78 (by decide) ?_
            refine X_iret 79 dX7_corners_79 rfl rfl ⟨_, rfl, _, rfl, ?_⟩
            refine Or.inr (Or.inr ⟨⟨b_2, b_9⟩, hco, rfl, ?_⟩)
            rw [en, ei]
            refine ⟨MI_7 (cn_MI (k := k) hM (show j < 4 by omega) hco), ?_, RS1_uM (cnB_R RS1_r) (by decide)⟩
            rw [uM_s]
            first | exact (if_pos b_64).symm | exact (if_neg b_64).symm
        · refine X_if_ne 37 42 dX7_corners_37 (by decide) (fun c_0 => by exact absurd c_0 (by decide)) (fun _ => ?_)
          refine X_iconst 40 (2) dX7_corners_40 (by decide) ?_
          refine X_iret 41 dX7_corners_41 rfl rfl ⟨_, rfl, _, rfl, ?_⟩
          first | exact Or.inr (Or.inl ⟨⟨b_2, b_9⟩, fun z => b_22 z.1, rfl, rfl⟩) | exact Or.inr (Or.inl ⟨⟨b_2, b_9⟩, fun z => b_34 z.2, rfl, rfl⟩)
      · refine X_if_eq 25 40 dX7_corners_25 (by decide) (fun _ => ?_) (fun c_0 => by exact absurd c_0 (by decide))
        refine X_iconst 40 (2) dX7_corners_40 (by decide) ?_
        refine X_iret 41 dX7_corners_41 rfl rfl ⟨_, rfl, _, rfl, ?_⟩
        first | exact Or.inr (Or.inl ⟨⟨b_2, b_9⟩, fun z => b_22 z.1, rfl, rfl⟩) | exact Or.inr (Or.inl ⟨⟨b_2, b_9⟩, fun z => b_34 z.2, rfl, rfl⟩)
    · refine X_if_ne 12 17 dX7_corners_12 (by decide) (fun c_0 => by exact absurd c_0 (by decide)) (fun _ => ?_)
      refine X_iconst 15 (1) dX7_corners_15 (by decide) ?_
      refine X_iret 16 dX7_corners_16 rfl rfl ⟨_, rfl, _, rfl, ?_⟩
      first | exact Or.inl ⟨fun z => b_2 z.1, rfl, rfl⟩ | exact Or.inl ⟨fun z => b_9 z.2, rfl, rfl⟩
  · refine X_if_eq 5 15 dX7_corners_5 (by decide) (fun _ => ?_) (fun c_0 => by exact absurd c_0 (by decide))
    refine X_iconst 15 (1) dX7_corners_15 (by decide) ?_
    refine X_iret 16 dX7_corners_16 rfl rfl ⟨_, rfl, _, rfl, ?_⟩
    first | exact Or.inl ⟨fun z => b_2 z.1, rfl, rfl⟩ | exact Or.inl ⟨fun z => b_9 z.2, rfl, rfl⟩
set_option maxHeartbeats 4000000 in
set_option maxRecDepth 100000 in
theorem e_X7_shifts (V : Mm) (c r lc : Nat) (a b : Int32) (μ : Mm) (hM : MI V c r lc μ) : EvN ΛM mX7_shifts [.ref 0, .int a, .int b] μ (qI (fun k9 m9 => (¬ shOK a b ∧ 1 = k9 ∧ μ = m9) ∨ (shOK a b ∧ 0 = k9 ∧ OPOK (movM V a b) c r lc (nI (c * r) - pstJ (movM V a b) lc c r 0) μ m9))) := by
  refine EvN_ofQ (by decide +kernel) rfl (fun _ => rfl) (fun _ => Nat.le_of_ble_eq_true rfl) (ls := [(0, .ref 0), (1, .int a), (2, .int b)]) ?_
  obtain ⟨⟨hc1, hc2⟩, ⟨hr1, hr2⟩, h8⟩ := MI_lc hM
  refine X_iload_n 0 1 dX7_shifts_0 rfl rfl ?_
  refine X_bipush 1 (-10) dX7_shifts_1 (by decide) ?_
  refine X_bipush 3 (10) dX7_shifts_3 (by decide) ?_
  refine X_cSI 5 [.int _, .int _, .int _] (e_X7_in _ _ _ _) dX7_shifts_5 lm_RX7_41 3 ⟨wm_X7_in, by decide +kernel, rfl, rfl⟩ rfl ⟨Nat.le_of_ble_eq_true rfl, Nat.le_of_ble_eq_true rfl⟩ rfl (Nat.le_of_ble_eq_true rfl) ?_
  rintro _ _ ⟨rfl, ⟨rfl, b_5⟩ | ⟨rfl, b_5⟩⟩
  · refine X_if_eq 8 22 dX7_shifts_8 (by decide) (fun c_0 => by exact absurd c_0 (by decide)) (fun _ => ?_)
    refine X_iload_n 11 2 dX7_shifts_11 rfl rfl ?_
    refine X_bipush 12 (-10) dX7_shifts_12 (by decide) ?_
    refine X_bipush 14 (10) dX7_shifts_14 (by decide) ?_
    refine X_cSI 16 [.int _, .int _, .int _] (e_X7_in _ _ _ _) dX7_shifts_16 lm_RX7_41 3 ⟨wm_X7_in, by decide +kernel, rfl, rfl⟩ rfl ⟨Nat.le_of_ble_eq_true rfl, Nat.le_of_ble_eq_true rfl⟩ rfl (Nat.le_of_ble_eq_true rfl) ?_
    rintro _ _ ⟨rfl, ⟨rfl, b_16⟩ | ⟨rfl, b_16⟩⟩
    · refine X_if_ne 19 24 dX7_shifts_19 (by decide) (fun _ => ?_) (fun c_0 => by exact absurd c_0 (by decide))
      have hsh : shOK a b := ⟨b_5, b_16⟩
      have hM2 := mv_MI hM hsh
      refine X_aload_n 24 0 dX7_shifts_24 rfl rfl ?_
      refine X_getR (f := 0) 25 dX7_shifts_25 lf_RX7_7 iw7 vc7 (by decide) lyM rfl ?_
      refine X_iconst 28 (2) dX7_shifts_28 (by decide) ?_
      refine X_iload_n 29 1 dX7_shifts_29 rfl rfl ?_
      refine X_iast 30 dX7_shifts_30 lyM1 (vp_in_nI (n := 2) (by decide) (by decide)) ?_
      rw [cl2]
      refine X_aload_n 31 0 dX7_shifts_31 rfl rfl ?_
      refine X_getR (f := 0) 32 dX7_shifts_32 lf_RX7_7 iw7 vc7 (by decide) lyM rfl ?_
      refine X_iconst 35 (3) dX7_shifts_35 (by decide) ?_
      refine X_iload_n 36 2 dX7_shifts_36 rfl rfl ?_
      refine X_iast 37 dX7_shifts_37 lyM1 (vp_in_nI (n := 3) (by decide) (by decide)) ?_
      rw [cl3]
      refine X_muE (μ2 := mvB μ a b) rfl ?_
      refine X_aload_n 38 0 dX7_shifts_38 rfl rfl ?_
      refine X_aload_n 39 0 dX7_shifts_39 rfl rfl ?_
      refine X_cVI 40 [] (e_X7_wrongOnes 0 (movM V a b) c r lc (zzS (movM V a b) lc) _ hM2.1 (by rw [hM2.2.2.2.2]; exact HZ_zz h8)) dX7_shifts_40 lm_RX7_156 0 ⟨wm_X7_wrongOnes, by decide +kernel, rfl, rfl⟩ rfl ⟨Nat.le_of_ble_eq_true rfl, Nat.le_of_ble_eq_true rfl⟩ lyM vc7 rfl rfl (Nat.le_of_ble_eq_true rfl) ?_
      rintro _ m9 ⟨rfl, hS9⟩
      rw [hM2.2.1, hM2.2.2.1, cw_pst]
      refine X_putI (f := 7) 43 dX7_shifts_43 lf_RX7_55 iw7 vc7 (by decide) lyM tyX7_ok nmX7 rfl rfl rfl (by decide) rfl rfl ?_
      refine X_iconst 46 (0) dX7_shifts_46 (by decide) ?_
      refine X_iret 47 dX7_shifts_47 rfl rfl ⟨_, rfl, _, rfl, ?_⟩
      exact Or.inr ⟨hsh, rfl, MI_7 (MI_SC hM2 (SCR_0 hS9)), uM_s _ _ _ _, RS1_uM (RS1_t (RS1_uM (RS1_uM RS1_r (Or.inl rfl)) (Or.inl rfl)) (RS1_c (SCR_0 hS9))) (by decide)⟩
    · refine X_if_ne 19 24 dX7_shifts_19 (by decide) (fun c_0 => by exact absurd c_0 (by decide)) (fun _ => ?_)
      refine X_iconst 22 (1) dX7_shifts_22 (by decide) ?_
      refine X_iret 23 dX7_shifts_23 rfl rfl ⟨_, rfl, _, rfl, ?_⟩
      first | exact Or.inl ⟨fun z => b_5 z.1, rfl, rfl⟩ | exact Or.inl ⟨fun z => b_16 z.2, rfl, rfl⟩
  · refine X_if_eq 8 22 dX7_shifts_8 (by decide) (fun _ => ?_) (fun c_0 => by exact absurd c_0 (by decide))
    refine X_iconst 22 (1) dX7_shifts_22 (by decide) ?_
    refine X_iret 23 dX7_shifts_23 rfl rfl ⟨_, rfl, _, rfl, ?_⟩
    first | exact Or.inl ⟨fun z => b_5 z.1, rfl, rfl⟩ | exact Or.inl ⟨fun z => b_16 z.2, rfl, rfl⟩
set_option maxHeartbeats 4000000 in
set_option maxRecDepth 100000 in
theorem e_X7_works (V : Mm) (c r lc : Nat) (n z : Int32) (μ : Mm) (hM : MI V c r lc μ) : EvN ΛM mX7_works [.ref 0, .int n, .int z] μ (qI (fun k9 m9 => (¬ LPn lc n ∧ 1 = k9 ∧ μ = m9) ∨ (LPn lc n ∧ 0 = k9 ∧ OPOK (uM (uM V 12 (tn n) (if z = 0 then 0 else 1)) 0 6 1) c r lc (if wkB V 0 (tn n) = true then 1 else 0) μ m9))) := by
  refine EvN_ofQ (by decide +kernel) rfl (fun _ => rfl) (fun _ => Nat.le_of_ble_eq_true rfl) (ls := [(0, .ref 0), (1, .int n), (2, .int z)]) ?_
  obtain ⟨⟨hc1, hc2⟩, ⟨hr1, hr2⟩, h8⟩ := MI_lc hM
  refine X_aload_n 0 0 dX7_works_0 rfl rfl ?_
  refine X_iload_n 1 1 dX7_works_1 rfl rfl ?_
  refine X_cVI 2 [.int _] (e_X7_isLamp n lc μ hM.1.1.2.2.1 h8) dX7_works_2 lm_RX7_150 1 ⟨wm_X7_isLamp, by decide +kernel, rfl, rfl⟩ rfl ⟨Nat.le_of_ble_eq_true rfl, Nat.le_of_ble_eq_true rfl⟩ lyM vc7 rfl rfl (Nat.le_of_ble_eq_true rfl) ?_
  rintro _ _ ⟨rfl, ⟨rfl, b_2⟩ | ⟨rfl, b_2⟩⟩
  · refine X_if_ne 5 10 dX7_works_5 (by decide) (fun _ => ?_) (fun c_0 => by exact absurd c_0 (by decide))
    obtain ⟨k, hk, rfl⟩ := nat_lt b_2.1 b_2.2 (by omega)
    have en : tn (nI k) = k := nI_clamp (by omega)
    have hk8 : k < 8 := by omega
    refine X_aload_n 10 0 dX7_works_10 rfl rfl ?_
    refine X_aload_n 11 0 dX7_works_11 rfl rfl ?_
    refine X_iload_n 12 1 dX7_works_12 rfl rfl ?_
    refine X_bipush 13 (11) dX7_works_13 (by decide) ?_
    refine X_cVI 15 [.int _, .int _] (e_X7_of k 11 _ hk8 (by decide)) dX7_works_15 lm_RX7_61 2 ⟨wm_X7_of, by decide +kernel, rfl, rfl⟩ rfl ⟨Nat.le_of_ble_eq_true rfl, Nat.le_of_ble_eq_true rfl⟩ lyM vc7 rfl rfl (Nat.le_of_ble_eq_true rfl) ?_
    rintro _ _ ⟨rfl, rfl⟩
    refine X_putI (f := 7) 18 dX7_works_18 lf_RX7_55 iw7 vc7 (by decide) lyM tyX7_ok nmX7 rfl rfl rfl (by decide) rfl rfl ?_
    refine X_aload_n 21 0 dX7_works_21 rfl rfl ?_
    refine X_iload_n 22 1 dX7_works_22 rfl rfl ?_
    refine X_bipush 23 (11) dX7_works_23 (by decide) ?_
    refine X_iload_n 25 2 dX7_works_25 rfl rfl ?_
    refine X_if_eq 26 33 dX7_works_26 (by decide) (fun c_26 => ?_) (fun c_26 => ?_)
    · refine X_iconst 33 (0) dX7_works_33 (by decide) ?_
      refine X_cVV 34 [.int _, .int _, .int _] (e_X7_put k 11 _ _ hk8 (by decide)) dX7_works_34 lm_RX7_146 3 ⟨wm_X7_put, by decide +kernel, rfl, rfl⟩ rfl ⟨Nat.le_of_ble_eq_true rfl, Nat.le_of_ble_eq_true rfl⟩ lyM vc7 rfl rfl (Nat.le_of_ble_eq_true rfl) ?_
      rintro _ rfl
      refine X_iconst 37 (0) dX7_works_37 (by decide) ?_
      refine X_iret 38 dX7_works_38 rfl rfl ⟨_, rfl, _, rfl, ?_⟩
      refine Or.inr ⟨b_2, rfl, ?_⟩
      rw [en]
      first
        | rw [if_pos c_26]; exact ⟨nb_MI (MI_7 hM) (by decide) ⟨by omega, by omega, fun _ => Or.inl rfl⟩ row_V2, (uM_n (by omega)).trans ((uM_s _ _ _ _).trans (wk_ans hM hk8).symm), nbB_R (RS1_uM RS1_r (by decide))⟩
        | rw [if_neg c_26]; exact ⟨nb_MI (MI_7 hM) (by decide) ⟨by omega, by omega, fun _ => Or.inr rfl⟩ row_V2, (uM_n (by omega)).trans ((uM_s _ _ _ _).trans (wk_ans hM hk8).symm), nbB_R (RS1_uM RS1_r (by decide))⟩
    · refine X_iconst 29 (1) dX7_works_29 (by decide) ?_
      refine X_goto 30 34 dX7_works_30 (by decide) ?_
      refine X_cVV 34 [.int _, .int _, .int _] (e_X7_put k 11 _ _ hk8 (by decide)) dX7_works_34 lm_RX7_146 3 ⟨wm_X7_put, by decide +kernel, rfl, rfl⟩ rfl ⟨Nat.le_of_ble_eq_true rfl, Nat.le_of_ble_eq_true rfl⟩ lyM vc7 rfl rfl (Nat.le_of_ble_eq_true rfl) ?_
      rintro _ rfl
      refine X_iconst 37 (0) dX7_works_37 (by decide) ?_
      refine X_iret 38 dX7_works_38 rfl rfl ⟨_, rfl, _, rfl, ?_⟩
      refine Or.inr ⟨b_2, rfl, ?_⟩
      rw [en]
      first
        | rw [if_pos c_26]; exact ⟨nb_MI (MI_7 hM) (by decide) ⟨by omega, by omega, fun _ => Or.inl rfl⟩ row_V2, (uM_n (by omega)).trans ((uM_s _ _ _ _).trans (wk_ans hM hk8).symm), nbB_R (RS1_uM RS1_r (by decide))⟩
        | rw [if_neg c_26]; exact ⟨nb_MI (MI_7 hM) (by decide) ⟨by omega, by omega, fun _ => Or.inr rfl⟩ row_V2, (uM_n (by omega)).trans ((uM_s _ _ _ _).trans (wk_ans hM hk8).symm), nbB_R (RS1_uM RS1_r (by decide))⟩
  · refine X_if_ne 5 10 dX7_works_5 (by decide) (fun c_0 => by exact absurd c_0 (by decide)) (fun _ => ?_)
    refine X_iconst 8 (1) dX7_works_8 (by decide) ?_
    refine X_iret 9 dX7_works_9 rfl rfl ⟨_, rfl, _, rfl, ?_⟩
    exact Or.inl ⟨b_2, rfl, rfl⟩
set_option maxHeartbeats 4000000 in
set_option maxRecDepth 100000 in
theorem e_X7_burns (V : Mm) (c r lc : Nat) (h : Int32) (μ : Mm) (hM : MI V c r lc μ) : EvN ΛM mX7_burns [.ref 0, .int h] μ (qI (fun k9 m9 => (¬ rgI h 1 9999 ∧ 1 = k9 ∧ μ = m9) ∨ (rgI h 1 9999 ∧ 0 = k9 ∧ OPOK (burnM V (ldJ V lc c r) h lc) c r lc (maxN lc (brnM V (ldJ V lc c r) h lc 11)) μ m9))) := by
  refine EvN_ofQ (by decide +kernel) rfl (fun _ => rfl) (fun _ => Nat.le_of_ble_eq_true rfl) (ls := [(0, .ref 0), (1, .int h)]) ?_
  obtain ⟨⟨hc1, hc2⟩, ⟨hr1, hr2⟩, h8⟩ := MI_lc hM
  refine X_iload_n 0 1 dX7_burns_0 rfl rfl ?_
  refine X_iconst 1 (1) dX7_burns_1 (by decide) ?_
  refine X_sipush 2 (9999) dX7_burns_2 (by decide) ?_
  refine X_cSI 5 [.int _, .int _, .int _] (e_X7_in _ _ _ _) dX7_burns_5 lm_RX7_41 3 ⟨wm_X7_in, by decide +kernel, rfl, rfl⟩ rfl ⟨Nat.le_of_ble_eq_true rfl, Nat.le_of_ble_eq_true rfl⟩ rfl (Nat.le_of_ble_eq_true rfl) ?_
  rintro _ _ ⟨rfl, ⟨rfl, b_5⟩ | ⟨rfl, b_5⟩⟩
  · refine X_if_ne 8 13 dX7_burns_8 (by decide) (fun _ => ?_) (fun c_0 => by exact absurd c_0 (by decide))
    refine X_iconst 13 (0) dX7_burns_13 (by decide) ?_
    refine X_istore_n 14 [(2, .int _), (0, .ref _), (1, .int _)] dX7_burns_14 rfl (by decide) rfl ?_
    refine X_sub [1, 2, 0] [(0, .ref _), (1, .int _), (2, .int _)] rfl ?_
    have L_15 : ∀ (kf : Nat) (n : Nat) (m : Mm), n ≤ lc → lc < n + kf → (MI V c r lc m ∧ RS1 μ m ∧ ∀ k, k < n → m 7 k = ldJ V lc c r k) → ∀ (x15_2 : Int32), nI n = x15_2 → X false ΛM mX7_burns (QN (qI (fun k9 m9 => (¬ rgI h 1 9999 ∧ 1 = k9 ∧ μ = m9) ∨ (rgI h 1 9999 ∧ 0 = k9 ∧ OPOK (burnM V (ldJ V lc c r) h lc) c r lc (maxN lc (brnM V (ldJ V lc c r) h lc 11)) μ m9)))) 15 [(0, .ref 0), (1, .int h), (2, .int x15_2)] [] m := by
      intro kf
      induction kf with
      | zero => intro n m hp15_0 hp15_1 hp15_2; exfalso; omega
      | succ kf ih_15 =>
        intro n m hp15_0 hp15_1 hp15_2 x15_2
        rintro rfl
        refine X_iload_n 15 2 dX7_burns_15 rfl rfl ?_
        refine X_aload_n 16 0 dX7_burns_16 rfl rfl ?_
        refine X_getR (f := 0) 17 dX7_burns_17 lf_RX7_7 iw7 vc7 (by decide) lyM rfl ?_
        refine X_iconst 20 (4) dX7_burns_20 (by decide) ?_
        refine X_iald 21 dX7_burns_21 lyM1 (vp_in_nI (n := 4) (by decide) (by decide)) ?_
        rw [cl4]
        rw [hp15_2.1.1.1.2.2.1]
        refine X_icmp_ge 22 42 dX7_burns_22 (by decide) (fun c_22 => ?_) (fun c_22 => ?_)
        · have hge : lc ≤ n := c_ge rfl (by omega) (by omega) c_22
          have hie : lc = n := by omega
          subst hie
          refine X_aload_n 42 0 dX7_burns_42 rfl rfl ?_
          refine X_iconst 43 (0) dX7_burns_43 (by decide) ?_
          refine X_putI (f := 7) 44 dX7_burns_44 lf_RX7_55 iw7 vc7 (by decide) lyM tyX7_ok nmX7 rfl rfl rfl (by decide) rfl rfl ?_
          have hB0 : BRI V c r lc (ldJ V lc c r) h 0 0 μ (uM m 0 7 0) := ⟨MI_7 hp15_2.1, RS1_uM hp15_2.2.1 (by decide), fun k hk => by rw [uM_n (by omega)]; exact hp15_2.2.2 k hk, uM_s _ _ _ _⟩
          refine X_iconst 47 (0) dX7_burns_47 (by decide) ?_
          refine X_istore_n 48 [(2, .int _), (0, .ref _), (1, .int _)] dX7_burns_48 rfl (by decide) rfl ?_
          refine X_sub [1, 2, 0] [(0, .ref _), (1, .int _), (2, .int _)] rfl ?_
          have L_49 : ∀ (kf : Nat) (n : Nat) (m : Mm), n ≤ lc → lc < n + kf → BRI V c r lc (ldJ V lc c r) h n n μ m → ∀ (x49_2 : Int32), nI n = x49_2 → X false ΛM mX7_burns (QN (qI (fun k9 m9 => (¬ rgI h 1 9999 ∧ 1 = k9 ∧ μ = m9) ∨ (rgI h 1 9999 ∧ 0 = k9 ∧ OPOK (burnM V (ldJ V lc c r) h lc) c r lc (maxN lc (brnM V (ldJ V lc c r) h lc 11)) μ m9)))) 49 [(0, .ref 0), (1, .int h), (2, .int x49_2)] [] m := by
            intro kf
            induction kf with
            | zero => intro n m hp49_0 hp49_1 hp49_2; exfalso; omega
            | succ kf ih_49 =>
              intro n m hp49_0 hp49_1 hp49_2 x49_2
              rintro rfl
              refine X_iload_n 49 2 dX7_burns_49 rfl rfl ?_
              refine X_aload_n 50 0 dX7_burns_50 rfl rfl ?_
              refine X_getR (f := 0) 51 dX7_burns_51 lf_RX7_7 iw7 vc7 (by decide) lyM rfl ?_
              refine X_iconst 54 (4) dX7_burns_54 (by decide) ?_
              refine X_iald 55 dX7_burns_55 lyM1 (vp_in_nI (n := 4) (by decide) (by decide)) ?_
              rw [cl4]
              rw [hp49_2.1.1.1.2.2.1]
              refine X_icmp_ge 56 140 dX7_burns_56 (by decide) (fun c_56 => ?_) (fun c_56 => ?_)
              · have hge : lc ≤ n := c_ge rfl (by omega) (by omega) c_56
                have hie : lc = n := by omega
                subst hie
                refine X_aload_n 140 0 dX7_burns_140 rfl rfl ?_
                refine X_getR (f := 0) 141 dX7_burns_141 lf_RX7_7 iw7 vc7 (by decide) lyM rfl ?_
                refine X_iconst 144 (5) dX7_burns_144 (by decide) ?_
                refine X_dup2 145 dX7_burns_145 ?_
                refine X_iald 146 dX7_burns_146 lyM1 (vp_in_nI (n := 5) (by decide) (by decide)) ?_
                rw [cl5]
                refine X_iload_n 147 1 dX7_burns_147 rfl rfl ?_
                refine X_iadd 148 dX7_burns_148 ?_
                refine X_iast 149 dX7_burns_149 lyM1 (vp_in_nI (n := 5) (by decide) (by decide)) ?_
                rw [cl5]
                refine X_iconst 150 (0) dX7_burns_150 (by decide) ?_
                refine X_iret 151 dX7_burns_151 rfl rfl ⟨_, rfl, _, rfl, ?_⟩
                exact Or.inr ⟨b_5, rfl, MI_hr hp49_2.1, (uM_n (by omega)).trans hp49_2.2.2.2, RS1_uM hp49_2.2.1 (Or.inl rfl)⟩
              · have hlt : n < lc := c_lt rfl (by omega) (by omega) c_56
                have hn8 : n < 8 := by omega
                refine X_aload_n 59 0 dX7_burns_59 rfl rfl ?_
                refine X_iload_n 60 2 dX7_burns_60 rfl rfl ?_
                refine X_bipush 61 (11) dX7_burns_61 (by decide) ?_
                refine X_cVI 63 [.int _, .int _] (e_X7_of n 11 _ hn8 (by decide)) dX7_burns_63 lm_RX7_61 2 ⟨wm_X7_of, by decide +kernel, rfl, rfl⟩ rfl ⟨Nat.le_of_ble_eq_true rfl, Nat.le_of_ble_eq_true rfl⟩ lyM vc7 rfl rfl (Nat.le_of_ble_eq_true rfl) ?_
                rintro _ _ ⟨rfl, rfl⟩
                refine X_iconst 66 (1) dX7_burns_66 (by decide) ?_
                refine X_icmp_ne 67 102 dX7_burns_67 (by decide) (fun c_67 => ?_) (fun c_67 => ?_)
                · have hm := BRI_off hp49_2 hn8 c_67
                  refine X_aload_n 102 0 dX7_burns_102 rfl rfl ?_
                  refine X_aload_n 103 0 dX7_burns_103 rfl rfl ?_
                  refine X_iload_n 104 2 dX7_burns_104 rfl rfl ?_
                  refine X_bipush 105 (10) dX7_burns_105 (by decide) ?_
                  refine X_cVI 107 [.int _, .int _] (e_X7_of n 10 _ hn8 (by decide)) dX7_burns_107 lm_RX7_61 2 ⟨wm_X7_of, by decide +kernel, rfl, rfl⟩ rfl ⟨Nat.le_of_ble_eq_true rfl, Nat.le_of_ble_eq_true rfl⟩ lyM vc7 rfl rfl (Nat.le_of_ble_eq_true rfl) ?_
                  rintro _ _ ⟨rfl, rfl⟩
                  rw [BRI_w hm hlt h8]
                  refine X_aload_n 110 0 dX7_burns_110 rfl rfl ?_
                  refine X_getI (f := 7) 111 dX7_burns_111 lf_RX7_55 iw7 vc7 (by decide) lyM rfl ?_
                  rw [hm.2.2.2]
                  refine X_icmp_le 114 127 dX7_burns_114 (by decide) (fun c_114 => ?_) (fun c_114 => ?_)
                  · have hv : maxN (n + 1) (brnM V (ldJ V lc c r) h lc 11) = maxN n (brnM V (ldJ V lc c r) h lc 11) := if_neg (Int32.not_lt.mpr c_114)
                    refine X_aload_n 127 0 dX7_burns_127 rfl rfl ?_
                    refine X_getI (f := 7) 128 dX7_burns_128 lf_RX7_55 iw7 vc7 (by decide) lyM rfl ?_
                    try rw [hm.2.2.2]
                    refine X_putI (f := 7) 131 dX7_burns_131 lf_RX7_55 iw7 vc7 (by decide) lyM tyX7_ok nmX7 rfl rfl rfl (by decide) rfl rfl ?_
                    refine X_iinc 134 2 (_ + 1) [(2, .int _), (0, .ref _), (1, .int _)] dX7_burns_134 rfl rfl (by decide) rfl ?_
                    refine X_goto 137 49 dX7_burns_137 (by decide) ?_
                    refine X_sub [1, 2, 0] [(0, .ref _), (1, .int _), (2, .int _)] rfl ?_
                    exact ih_49 (n + 1) _ (by omega) (by omega) (BRI_s hm hv) _  (by exact (nI_1 n).symm)
                  · have hv : maxN (n + 1) (brnM V (ldJ V lc c r) h lc 11) = brnM V (ldJ V lc c r) h lc 11 n := if_pos (Int32.not_le.mp c_114)
                    refine X_aload_n 117 0 dX7_burns_117 rfl rfl ?_
                    refine X_iload_n 118 2 dX7_burns_118 rfl rfl ?_
                    refine X_bipush 119 (10) dX7_burns_119 (by decide) ?_
                    refine X_cVI 121 [.int _, .int _] (e_X7_of n 10 _ hn8 (by decide)) dX7_burns_121 lm_RX7_61 2 ⟨wm_X7_of, by decide +kernel, rfl, rfl⟩ rfl ⟨Nat.le_of_ble_eq_true rfl, Nat.le_of_ble_eq_true rfl⟩ lyM vc7 rfl rfl (Nat.le_of_ble_eq_true rfl) ?_
                    rintro _ _ ⟨rfl, rfl⟩
                    rw [BRI_w hm hlt h8]
                    refine X_goto 124 131 dX7_burns_124 (by decide) ?_
                    try rw [hm.2.2.2]
                    refine X_putI (f := 7) 131 dX7_burns_131 lf_RX7_55 iw7 vc7 (by decide) lyM tyX7_ok nmX7 rfl rfl rfl (by decide) rfl rfl ?_
                    refine X_iinc 134 2 (_ + 1) [(2, .int _), (0, .ref _), (1, .int _)] dX7_burns_134 rfl rfl (by decide) rfl ?_
                    refine X_goto 137 49 dX7_burns_137 (by decide) ?_
                    refine X_sub [1, 2, 0] [(0, .ref _), (1, .int _), (2, .int _)] rfl ?_
                    exact ih_49 (n + 1) _ (by omega) (by omega) (BRI_s hm hv) _  (by exact (nI_1 n).symm)
                · refine X_aload_n 70 0 dX7_burns_70 rfl rfl ?_
                  refine X_iload_n 71 2 dX7_burns_71 rfl rfl ?_
                  refine X_bipush 72 (10) dX7_burns_72 (by decide) ?_
                  refine X_sipush 74 (900) dX7_burns_74 (by decide) ?_
                  refine X_aload_n 77 0 dX7_burns_77 rfl rfl ?_
                  refine X_iload_n 78 2 dX7_burns_78 rfl rfl ?_
                  refine X_bipush 79 (10) dX7_burns_79 (by decide) ?_
                  refine X_cVI 81 [.int _, .int _] (e_X7_of n 10 _ hn8 (by decide)) dX7_burns_81 lm_RX7_61 2 ⟨wm_X7_of, by decide +kernel, rfl, rfl⟩ rfl ⟨Nat.le_of_ble_eq_true rfl, Nat.le_of_ble_eq_true rfl⟩ lyM vc7 rfl rfl (Nat.le_of_ble_eq_true rfl) ?_
                  rintro _ _ ⟨rfl, rfl⟩
                  refine X_iload_n 84 1 dX7_burns_84 rfl rfl ?_
                  refine X_aload_n 85 0 dX7_burns_85 rfl rfl ?_
                  refine X_getR (f := 18) 86 dX7_burns_86 lf_RX7_32 iw7 vc7 (by decide) lyM rfl ?_
                  refine X_iload_n 89 2 dX7_burns_89 rfl rfl ?_
                  refine X_iald 90 dX7_burns_90 lyM7 (vp_in_nI hn8 (by decide)) ?_
                  rw [nI_clamp (by omega), hp49_2.2.2.1 n hlt]
                  refine X_imul 91 dX7_burns_91 ?_
                  refine X_bipush 92 (100) dX7_burns_92 (by decide) ?_
                  refine X_idiv 94 dX7_burns_94 (by decide) ?_
                  refine X_iadd 95 dX7_burns_95 ?_
                  refine X_cSI 96 [.int _, .int _] (e_X7_lesser _ _ _) dX7_burns_96 lm_RX7_68 2 ⟨wm_X7_lesser, by decide +kernel, rfl, rfl⟩ rfl ⟨Nat.le_of_ble_eq_true rfl, Nat.le_of_ble_eq_true rfl⟩ rfl (Nat.le_of_ble_eq_true rfl) ?_
                  rintro _ _ ⟨rfl, rfl⟩
                  refine X_cVV 99 [.int _, .int _, .int _] (e_X7_put n 10 _ _ hn8 (by decide)) dX7_burns_99 lm_RX7_146 3 ⟨wm_X7_put, by decide +kernel, rfl, rfl⟩ rfl ⟨Nat.le_of_ble_eq_true rfl, Nat.le_of_ble_eq_true rfl⟩ lyM vc7 rfl rfl (Nat.le_of_ble_eq_true rfl) ?_
                  rintro _ rfl
                  have hm := BRI_on hp49_2 hn8 b_5 (ld_rg hM hn8) c_67
                  refine X_aload_n 102 0 dX7_burns_102 rfl rfl ?_
                  refine X_aload_n 103 0 dX7_burns_103 rfl rfl ?_
                  refine X_iload_n 104 2 dX7_burns_104 rfl rfl ?_
                  refine X_bipush 105 (10) dX7_burns_105 (by decide) ?_
                  refine X_cVI 107 [.int _, .int _] (e_X7_of n 10 _ hn8 (by decide)) dX7_burns_107 lm_RX7_61 2 ⟨wm_X7_of, by decide +kernel, rfl, rfl⟩ rfl ⟨Nat.le_of_ble_eq_true rfl, Nat.le_of_ble_eq_true rfl⟩ lyM vc7 rfl rfl (Nat.le_of_ble_eq_true rfl) ?_
                  rintro _ _ ⟨rfl, rfl⟩
                  rw [BRI_w hm hlt h8]
                  refine X_aload_n 110 0 dX7_burns_110 rfl rfl ?_
                  refine X_getI (f := 7) 111 dX7_burns_111 lf_RX7_55 iw7 vc7 (by decide) lyM rfl ?_
                  rw [hm.2.2.2]
                  refine X_icmp_le 114 127 dX7_burns_114 (by decide) (fun c_114 => ?_) (fun c_114 => ?_)
                  · have hv : maxN (n + 1) (brnM V (ldJ V lc c r) h lc 11) = maxN n (brnM V (ldJ V lc c r) h lc 11) := if_neg (Int32.not_lt.mpr c_114)
                    refine X_aload_n 127 0 dX7_burns_127 rfl rfl ?_
                    refine X_getI (f := 7) 128 dX7_burns_128 lf_RX7_55 iw7 vc7 (by decide) lyM rfl ?_
                    try rw [hm.2.2.2]
                    refine X_putI (f := 7) 131 dX7_burns_131 lf_RX7_55 iw7 vc7 (by decide) lyM tyX7_ok nmX7 rfl rfl rfl (by decide) rfl rfl ?_
                    refine X_iinc 134 2 (_ + 1) [(2, .int _), (0, .ref _), (1, .int _)] dX7_burns_134 rfl rfl (by decide) rfl ?_
                    refine X_goto 137 49 dX7_burns_137 (by decide) ?_
                    refine X_sub [1, 2, 0] [(0, .ref _), (1, .int _), (2, .int _)] rfl ?_
                    exact ih_49 (n + 1) _ (by omega) (by omega) (BRI_s hm hv) _  (by exact (nI_1 n).symm)
                  · have hv : maxN (n + 1) (brnM V (ldJ V lc c r) h lc 11) = brnM V (ldJ V lc c r) h lc 11 n := if_pos (Int32.not_le.mp c_114)
                    refine X_aload_n 117 0 dX7_burns_117 rfl rfl ?_
                    refine X_iload_n 118 2 dX7_burns_118 rfl rfl ?_
                    refine X_bipush 119 (10) dX7_burns_119 (by decide) ?_
                    refine X_cVI 121 [.int _, .int _] (e_X7_of n 10 _ hn8 (by decide)) dX7_burns_121 lm_RX7_61 2 ⟨wm_X7_of, by decide +kernel, rfl, rfl⟩ rfl ⟨Nat.le_of_ble_eq_true rfl, Nat.le_of_ble_eq_true rfl⟩ lyM vc7 rfl rfl (Nat.le_of_ble_eq_true rfl) ?_
                    rintro _ _ ⟨rfl, rfl⟩
                    rw [BRI_w hm hlt h8]
                    refine X_goto 124 131 dX7_burns_124 (by decide) ?_
                    try rw [hm.2.2.2]
                    refine X_putI (f := 7) 131 dX7_burns_131 lf_RX7_55 iw7 vc7 (by decide) lyM tyX7_ok nmX7 rfl rfl rfl (by decide) rfl rfl ?_
                    refine X_iinc 134 2 (_ + 1) [(2, .int _), (0, .ref _), (1, .int _)] dX7_burns_134 rfl rfl (by decide) rfl ?_
                    refine X_goto 137 49 dX7_burns_137 (by decide) ?_
                    refine X_sub [1, 2, 0] [(0, .ref _), (1, .int _), (2, .int _)] rfl ?_
                    exact ih_49 (n + 1) _ (by omega) (by omega) (BRI_s hm hv) _  (by exact (nI_1 n).symm)
          exact L_49 (lc + 1) 0 _ (by omega) (by omega) hB0 _  (by exact nI_0)
        · have hlt : n < lc := c_lt rfl (by omega) (by omega) c_22
          have hn8 : n < 8 := by omega
          refine X_aload_n 25 0 dX7_burns_25 rfl rfl ?_
          refine X_getR (f := 18) 26 dX7_burns_26 lf_RX7_32 iw7 vc7 (by decide) lyM rfl ?_
          refine X_iload_n 29 2 dX7_burns_29 rfl rfl ?_
          refine X_aload_n 30 0 dX7_burns_30 rfl rfl ?_
          refine X_iload_n 31 2 dX7_burns_31 rfl rfl ?_
          refine X_cVI 32 [.int _] (e_X7_load V c r lc n _ hp15_2.1 hlt) dX7_burns_32 lm_RX7_159 1 ⟨wm_X7_load, by decide +kernel, rfl, rfl⟩ rfl ⟨Nat.le_of_ble_eq_true rfl, Nat.le_of_ble_eq_true rfl⟩ lyM vc7 rfl rfl (Nat.le_of_ble_eq_true rfl) ?_
          rintro _ m9 ⟨rfl, hS9⟩
          refine X_iast 35 dX7_burns_35 lyM7 (vp_in_nI hn8 (by decide)) ?_
          rw [nI_clamp (by omega)]
          refine X_iinc 36 2 (_ + 1) [(2, .int _), (0, .ref _), (1, .int _)] dX7_burns_36 rfl rfl (by decide) rfl ?_
          refine X_goto 39 15 dX7_burns_39 (by decide) ?_
          refine X_sub [1, 2, 0] [(0, .ref _), (1, .int _), (2, .int _)] rfl ?_
          exact ih_15 (n + 1) _ (by omega) (by omega) ⟨by have h2 := MI_SC hp15_2.1 hS9.1; exact ⟨by rw [show uM m9 7 n (ldJ V lc c r n) 1 = m9 1 from funext fun q => uM_n (by omega)]; exact h2.1, by rw [uM_n (by omega)]; exact h2.2.1, by rw [uM_n (by omega)]; exact h2.2.2.1, by rw [uM_n (by omega)]; exact h2.2.2.2.1, by rw [uM_n (by omega)]; exact h2.2.2.2.2⟩, RS1_uM (RS1_t hp15_2.2.1 (RS1_c hS9.1)) (by omega), fun k hk => by
              by_cases e : k = n
              · subst e; rw [uM_s]
              · rw [uM_n (by omega), hS9.1 7 k (by omega) (by decide) (by decide)]; exact hp15_2.2.2 k (by omega)⟩ _  (by exact (nI_1 n).symm)
    exact L_15 (lc + 1) 0 _ (by omega) (by omega) ⟨hM, RS1_r, fun k hk => absurd hk (Nat.not_lt_zero k)⟩ _  (by exact nI_0)
  · refine X_if_ne 8 13 dX7_burns_8 (by decide) (fun c_0 => by exact absurd c_0 (by decide)) (fun _ => ?_)
    refine X_iconst 11 (1) dX7_burns_11 (by decide) ?_
    refine X_iret 12 dX7_burns_12 rfl rfl ⟨_, rfl, _, rfl, ?_⟩
    exact Or.inl ⟨b_5, rfl, rfl⟩
