set_option maxHeartbeats 4000000 in
set_option maxRecDepth 100000 in
theorem e_X6_begin (c r lc la cn : Nat) (a b : Int32) (μ : Mm) (hI : CIv μ c r lc la cn) (hw : wallOK a b) : EvN ΛC mX6_begin [.ref 109, .int a, .int b] μ (qI (fun v9 m9 => nI (c * r) = v9 ∧ wallM (saveM μ la cn) 0 a b = m9)) := by
  refine EvN_ofQ (by decide +kernel) rfl (fun _ => rfl) (fun _ => Nat.le_of_ble_eq_true rfl) (ls := [(0, .ref 109), (1, .int a), (2, .int b)]) ?_
  obtain ⟨hc, hr, hlc, hla, hcn, ⟨g1, g2, g3, g4, g5, g6, g7⟩, hv⟩ := hI
  have hcr := cr_le g2 g4
  refine X_iload_n 0 1 dX6_begin_0 rfl rfl ?_
  refine X_iload_n 1 2 dX6_begin_1 rfl rfl ?_
  refine X_cSI 2 [.int _, .int _] (e_X6_faultOfWall _ _ _) dX6_begin_2 lm_RX6_44 2 ⟨wm_X6_faultOfWall, by decide +kernel, rfl, rfl⟩ rfl ⟨Nat.le_of_ble_eq_true rfl, Nat.le_of_ble_eq_true rfl⟩ rfl (Nat.le_of_ble_eq_true rfl) ?_
  rintro _ _ ⟨rfl, ⟨rfl, f_2⟩ | ⟨rfl, f_2⟩⟩
  · refine X_cSV 5 [.int _] (e_X6_refuseArgument _ _ (by decide)) dX6_begin_5 lm_RX6_48 1 ⟨wm_X6_refuseArgument, by decide +kernel, rfl, rfl⟩ rfl ⟨Nat.le_of_ble_eq_true rfl, Nat.le_of_ble_eq_true rfl⟩ rfl (Nat.le_of_ble_eq_true rfl) ?_
    rintro _ rfl
    refine X_aload_n 8 0 dX6_begin_8 rfl rfl ?_
    refine X_getR (f := 3) 9 dX6_begin_9 lf_RX6_33 iw6 vc6 (by decide) lyL rfl ?_
    refine X_aload_n 12 0 dX6_begin_12 rfl rfl ?_
    refine X_getR (f := 0) 13 dX6_begin_13 lf_RX6_12 iw6 vc6 (by decide) lyL rfl ?_
    refine X_cVV 16 [.ref _] (e_X2_save la cn _ hla g6 hcn g7) dX6_begin_16 lm_RX6_52 1 ⟨wm_X2_save, by decide +kernel, rfl, rfl⟩ rfl ⟨Nat.le_of_ble_eq_true rfl, Nat.le_of_ble_eq_true rfl⟩ lyH vc2 rfl rfl (Nat.le_of_ble_eq_true rfl) ?_
    rintro _ rfl
    refine X_aload_n 19 0 dX6_begin_19 rfl rfl ?_
    refine X_getR (f := 0) 20 dX6_begin_20 lf_RX6_12 iw6 vc6 (by decide) lyL rfl ?_
    refine X_cVI 23 [] (e_X4_placeCount 0 (Or.inl rfl) _) dX6_begin_23 lm_RX6_56 0 ⟨wm_X4_placeCount, by decide +kernel, rfl, rfl⟩ rfl ⟨Nat.le_of_ble_eq_true rfl, Nat.le_of_ble_eq_true rfl⟩ (lyS 0 (Or.inl rfl)) vc4 rfl rfl (Nat.le_of_ble_eq_true rfl) ?_
    rintro _ _ ⟨rfl, rfl⟩
    rw [saveM_out g6 (by omega), saveM_out g6 (by omega), hc, hr, pk_mul]
    refine X_istore_n 26 [(3, .int _), (0, .ref _), (1, .int _), (2, .int _)] dX6_begin_26 rfl (by decide) rfl ?_
    refine X_aload_n 27 1 dX6_begin_27 rfl rfl ?_
    refine X_getR (f := 0) 28 dX6_begin_28 lf_RX6_12 iw6 vc6 (by decide) lyL rfl ?_
    refine X_iload_n 31 2 dX6_begin_31 rfl rfl ?_
    refine X_iload_n 32 3 dX6_begin_32 rfl rfl ?_
    refine X_cVV 33 [.int _, .int _] (e_X4_startWall 0 (Or.inl rfl) _ _ _) dX6_begin_33 lm_RX6_60 2 ⟨wm_X4_startWall, by decide +kernel, rfl, rfl⟩ rfl ⟨Nat.le_of_ble_eq_true rfl, Nat.le_of_ble_eq_true rfl⟩ (lyS 0 (Or.inl rfl)) vc4 rfl rfl (Nat.le_of_ble_eq_true rfl) ?_
    rintro _ rfl
    refine X_iload_n 36 0 dX6_begin_36 rfl rfl ?_
    refine X_iret 37 dX6_begin_37 rfl rfl ⟨_, rfl, _, rfl, ?_⟩
    exact ⟨rfl, rfl⟩
  · exact absurd hw f_2
set_option maxHeartbeats 4000000 in
set_option maxRecDepth 100000 in
theorem e_X6_paint (c r lc la cn : Nat) (x y u v : Nat) (t : Int32) (μ : Mm) (hI : CIv μ c r lc la cn) (h1 : x ≤ u) (h2 : u < c) (h4 : y ≤ v) (h5 : v < r) (ht : rgI t 0 255) : EvN ΛC mX6_paint [.ref 109, .int (nI x), .int (nI y), .int (nI u), .int (nI v), .int t] μ (qI (fun v9 m9 => (ptR 8 t c x (u - x + 1) y (v - y + 1) (0, (saveM μ la cn))).1 = v9 ∧ uM (ptR 8 t c x (u - x + 1) y (v - y + 1) (0, (saveM μ la cn))).2 0 6 1 = m9)) := by
  refine EvN_ofQ (by decide +kernel) rfl (fun _ => rfl) (fun _ => Nat.le_of_ble_eq_true rfl) (ls := [(0, .ref 109), (1, .int (nI x)), (2, .int (nI y)), (3, .int (nI u)), (4, .int (nI v)), (5, .int t)]) ?_
  obtain ⟨hc, hr, hlc, hla, hcn, ⟨g1, g2, g3, g4, g5, g6, g7⟩, hv⟩ := hI
  have hcr := cr_le g2 g4
  have hp1 := plOK_nI hc hr g2 g4 (show x < c by omega) (show y < r by omega)
  have hp2 := plOK_nI hc hr g2 g4 h2 h5
  have hp3 : ptOK (nI x) (nI y) (nI u) (nI v) t := ⟨nI_le h1 (by omega), nI_le h4 (by omega), ht⟩
  refine X_aload_n 0 0 dX6_paint_0 rfl rfl ?_
  refine X_iload_n 1 1 dX6_paint_1 rfl rfl ?_
  refine X_iload_n 2 2 dX6_paint_2 rfl rfl ?_
  refine X_iload_n 3 3 dX6_paint_3 rfl rfl ?_
  refine X_iload 4 4 dX6_paint_4 rfl ?_
  refine X_iload 6 5 dX6_paint_6 rfl ?_
  refine X_cVI 8 [.int _, .int _, .int _, .int _, .int _] (e_X6_faultOfPainting _ _ _ _ _ _) dX6_paint_8 lm_RX6_64 5 ⟨wm_X6_faultOfPainting, by decide +kernel, rfl, rfl⟩ rfl ⟨Nat.le_of_ble_eq_true rfl, Nat.le_of_ble_eq_true rfl⟩ lyL vc6 rfl rfl (Nat.le_of_ble_eq_true rfl) ?_
  rintro _ _ ⟨rfl, ⟨rfl, f_8⟩ | ⟨rfl, f_8⟩ | ⟨rfl, f_8⟩⟩
  · refine X_istore 11 [(6, .int _), (0, .ref _), (1, .int _), (2, .int _), (3, .int _), (4, .int _), (5, .int _)] dX6_paint_11 (by decide) rfl ?_
    refine X_iload 13 0 dX6_paint_13 rfl ?_
    refine X_cSV 15 [.int _] (e_X6_refuseIndex _ _ (by decide)) dX6_paint_15 lm_RX6_68 1 ⟨wm_X6_refuseIndex, by decide +kernel, rfl, rfl⟩ rfl ⟨Nat.le_of_ble_eq_true rfl, Nat.le_of_ble_eq_true rfl⟩ rfl (Nat.le_of_ble_eq_true rfl) ?_
    rintro _ rfl
    refine X_iload 18 0 dX6_paint_18 rfl ?_
    refine X_cSV 20 [.int _] (e_X6_refuseArgument _ _ (by decide)) dX6_paint_20 lm_RX6_48 1 ⟨wm_X6_refuseArgument, by decide +kernel, rfl, rfl⟩ rfl ⟨Nat.le_of_ble_eq_true rfl, Nat.le_of_ble_eq_true rfl⟩ rfl (Nat.le_of_ble_eq_true rfl) ?_
    rintro _ rfl
    refine X_aload_n 23 1 dX6_paint_23 rfl rfl ?_
    refine X_getR (f := 3) 24 dX6_paint_24 lf_RX6_33 iw6 vc6 (by decide) lyL rfl ?_
    refine X_aload_n 27 1 dX6_paint_27 rfl rfl ?_
    refine X_getR (f := 0) 28 dX6_paint_28 lf_RX6_12 iw6 vc6 (by decide) lyL rfl ?_
    refine X_cVV 31 [.ref _] (e_X2_save la cn _ hla g6 hcn g7) dX6_paint_31 lm_RX6_52 1 ⟨wm_X2_save, by decide +kernel, rfl, rfl⟩ rfl ⟨Nat.le_of_ble_eq_true rfl, Nat.le_of_ble_eq_true rfl⟩ lyH vc2 rfl rfl (Nat.le_of_ble_eq_true rfl) ?_
    rintro _ rfl
    refine X_aload_n 34 1 dX6_paint_34 rfl rfl ?_
    refine X_getR (f := 0) 35 dX6_paint_35 lf_RX6_12 iw6 vc6 (by decide) lyL rfl ?_
    refine X_iload_n 38 2 dX6_paint_38 rfl rfl ?_
    refine X_iload_n 39 3 dX6_paint_39 rfl rfl ?_
    refine X_iload_n 40 4 dX6_paint_40 rfl rfl ?_
    refine X_iload 41 5 dX6_paint_41 rfl ?_
    refine X_iload 43 6 dX6_paint_43 rfl ?_
    refine X_cVI 45 [.int _, .int _, .int _, .int _, .int _] (e_X4_setTargets 0 (Or.inl rfl) x y u v c t _ ((saveM_out g6 (by omega)).trans hc) h1 h2 g2 h4 (by omega)) dX6_paint_45 lm_RX6_71 5 ⟨wm_X4_setTargets, by decide +kernel, rfl, rfl⟩ rfl ⟨Nat.le_of_ble_eq_true rfl, Nat.le_of_ble_eq_true rfl⟩ (lyS 0 (Or.inl rfl)) vc4 rfl rfl (Nat.le_of_ble_eq_true rfl) ?_
    rintro _ _ ⟨rfl, rfl⟩
    refine X_iret 48 dX6_paint_48 rfl rfl ⟨_, rfl, _, rfl, ?_⟩
    exact ⟨rfl, rfl⟩
  · exact absurd ⟨hp1, hp2⟩ f_8
  · exact absurd hp3 f_8.2
set_option maxHeartbeats 4000000 in
set_option maxRecDepth 100000 in
theorem e_X6_addLamp (c r lc la cn : Nat) (a b : Int32) (μ : Mm) (hI : CIv μ c r lc la cn) (hn : nlOK a b) (hl : lc < 8) : EvN ΛC mX6_addLamp [.ref 109, .int a, .int b] μ (qI (fun v9 m9 => nI lc = v9 ∧ hang (saveM μ la cn) 0 lc a b = m9)) := by
  refine EvN_ofQ (by decide +kernel) rfl (fun _ => rfl) (fun _ => Nat.le_of_ble_eq_true rfl) (ls := [(0, .ref 109), (1, .int a), (2, .int b)]) ?_
  obtain ⟨hc, hr, hlc, hla, hcn, ⟨g1, g2, g3, g4, g5, g6, g7⟩, hv⟩ := hI
  have hcr := cr_le g2 g4
  have hl5 : μ 0 5 < 8 := by rw [hlc]; exact nI_lt (b := 8) hl (by decide)
  refine X_aload_n 0 0 dX6_addLamp_0 rfl rfl ?_
  refine X_iload_n 1 1 dX6_addLamp_1 rfl rfl ?_
  refine X_iload_n 2 2 dX6_addLamp_2 rfl rfl ?_
  refine X_cVI 3 [.int _, .int _] (e_X6_faultOfNewLamp _ _ _) dX6_addLamp_3 lm_RX6_74 2 ⟨wm_X6_faultOfNewLamp, by decide +kernel, rfl, rfl⟩ rfl ⟨Nat.le_of_ble_eq_true rfl, Nat.le_of_ble_eq_true rfl⟩ lyL vc6 rfl rfl (Nat.le_of_ble_eq_true rfl) ?_
  rintro _ _ ⟨rfl, ⟨rfl, f_3⟩ | ⟨rfl, f_3⟩ | ⟨rfl, f_3⟩⟩
  · refine X_istore_n 6 [(3, .int _), (0, .ref _), (1, .int _), (2, .int _)] dX6_addLamp_6 rfl (by decide) rfl ?_
    refine X_iload_n 7 0 dX6_addLamp_7 rfl rfl ?_
    refine X_cSV 8 [.int _] (e_X6_refuseArgument _ _ (by decide)) dX6_addLamp_8 lm_RX6_48 1 ⟨wm_X6_refuseArgument, by decide +kernel, rfl, rfl⟩ rfl ⟨Nat.le_of_ble_eq_true rfl, Nat.le_of_ble_eq_true rfl⟩ rfl (Nat.le_of_ble_eq_true rfl) ?_
    rintro _ rfl
    refine X_iload_n 11 0 dX6_addLamp_11 rfl rfl ?_
    refine X_cSV 12 [.int _] (e_X6_refuseState _ _ (by decide)) dX6_addLamp_12 lm_RX6_77 1 ⟨wm_X6_refuseState, by decide +kernel, rfl, rfl⟩ rfl ⟨Nat.le_of_ble_eq_true rfl, Nat.le_of_ble_eq_true rfl⟩ rfl (Nat.le_of_ble_eq_true rfl) ?_
    rintro _ rfl
    refine X_aload_n 15 1 dX6_addLamp_15 rfl rfl ?_
    refine X_getR (f := 3) 16 dX6_addLamp_16 lf_RX6_33 iw6 vc6 (by decide) lyL rfl ?_
    refine X_aload_n 19 1 dX6_addLamp_19 rfl rfl ?_
    refine X_getR (f := 0) 20 dX6_addLamp_20 lf_RX6_12 iw6 vc6 (by decide) lyL rfl ?_
    refine X_cVV 23 [.ref _] (e_X2_save la cn _ hla g6 hcn g7) dX6_addLamp_23 lm_RX6_52 1 ⟨wm_X2_save, by decide +kernel, rfl, rfl⟩ rfl ⟨Nat.le_of_ble_eq_true rfl, Nat.le_of_ble_eq_true rfl⟩ lyH vc2 rfl rfl (Nat.le_of_ble_eq_true rfl) ?_
    rintro _ rfl
    refine X_aload_n 26 1 dX6_addLamp_26 rfl rfl ?_
    refine X_getR (f := 0) 27 dX6_addLamp_27 lf_RX6_12 iw6 vc6 (by decide) lyL rfl ?_
    refine X_iload_n 30 2 dX6_addLamp_30 rfl rfl ?_
    refine X_iload_n 31 3 dX6_addLamp_31 rfl rfl ?_
    refine X_cVI 32 [.int _, .int _] (e_X4_hangLamp 0 (Or.inl rfl) lc a b _ ((saveM_out g6 (by omega)).trans hlc) hl) dX6_addLamp_32 lm_RX6_80 2 ⟨wm_X4_hangLamp, by decide +kernel, rfl, rfl⟩ rfl ⟨Nat.le_of_ble_eq_true rfl, Nat.le_of_ble_eq_true rfl⟩ (lyS 0 (Or.inl rfl)) vc4 rfl rfl (Nat.le_of_ble_eq_true rfl) ?_
    rintro _ _ ⟨rfl, rfl⟩
    refine X_iret 35 dX6_addLamp_35 rfl rfl ⟨_, rfl, _, rfl, ?_⟩
    exact ⟨rfl, rfl⟩
  · exact absurd hn f_3
  · exact absurd hl5 f_3.2
set_option maxHeartbeats 4000000 in
set_option maxRecDepth 100000 in
theorem e_X6_setCorner (c r lc la cn : Nat) (k i : Nat) (x y : Int32) (μ : Mm) (hI : CIv μ c r lc la cn) (hk : k < lc) (hi : i < 4) (hxy : coOK x y) : EvN ΛC mX6_setCorner [.ref 109, .int (nI k), .int (nI i), .int x, .int y] μ (qI (fun v9 m9 => (if goodB (mvc (saveM μ la cn) 0 (4 * k + i) x y) 0 k = true then 1 else 0) = v9 ∧ mvc (saveM μ la cn) 0 (4 * k + i) x y = m9)) := by
  refine EvN_ofQ (by decide +kernel) rfl (fun _ => rfl) (fun _ => Nat.le_of_ble_eq_true rfl) (ls := [(0, .ref 109), (1, .int (nI k)), (2, .int (nI i)), (3, .int x), (4, .int y)]) ?_
  obtain ⟨hc, hr, hlc, hla, hcn, ⟨g1, g2, g3, g4, g5, g6, g7⟩, hv⟩ := hI
  have hcr := cr_le g2 g4
  have hlp := lpOK_nI hlc g5 hk
  have hk8 : k < 8 := by omega
  have hi3 : rgI (nI i) 0 3 := rg_nI (n := 3) rfl (by decide) (by omega)
  refine X_aload_n 0 0 dX6_setCorner_0 rfl rfl ?_
  refine X_iload_n 1 1 dX6_setCorner_1 rfl rfl ?_
  refine X_iload_n 2 2 dX6_setCorner_2 rfl rfl ?_
  refine X_iload_n 3 3 dX6_setCorner_3 rfl rfl ?_
  refine X_iload 4 4 dX6_setCorner_4 rfl ?_
  refine X_cVI 6 [.int _, .int _, .int _, .int _] (e_X6_faultOfCorner _ _ _ _ _) dX6_setCorner_6 lm_RX6_83 4 ⟨wm_X6_faultOfCorner, by decide +kernel, rfl, rfl⟩ rfl ⟨Nat.le_of_ble_eq_true rfl, Nat.le_of_ble_eq_true rfl⟩ lyL vc6 rfl rfl (Nat.le_of_ble_eq_true rfl) ?_
  rintro _ _ ⟨rfl, ⟨rfl, f_6⟩ | ⟨rfl, f_6⟩ | ⟨rfl, f_6⟩⟩
  · refine X_istore 9 [(5, .int _), (0, .ref _), (1, .int _), (2, .int _), (3, .int _), (4, .int _)] dX6_setCorner_9 (by decide) rfl ?_
    refine X_iload 11 0 dX6_setCorner_11 rfl ?_
    refine X_cSV 13 [.int _] (e_X6_refuseIndex _ _ (by decide)) dX6_setCorner_13 lm_RX6_68 1 ⟨wm_X6_refuseIndex, by decide +kernel, rfl, rfl⟩ rfl ⟨Nat.le_of_ble_eq_true rfl, Nat.le_of_ble_eq_true rfl⟩ rfl (Nat.le_of_ble_eq_true rfl) ?_
    rintro _ rfl
    refine X_iload 16 0 dX6_setCorner_16 rfl ?_
    refine X_cSV 18 [.int _] (e_X6_refuseArgument _ _ (by decide)) dX6_setCorner_18 lm_RX6_48 1 ⟨wm_X6_refuseArgument, by decide +kernel, rfl, rfl⟩ rfl ⟨Nat.le_of_ble_eq_true rfl, Nat.le_of_ble_eq_true rfl⟩ rfl (Nat.le_of_ble_eq_true rfl) ?_
    rintro _ rfl
    refine X_aload_n 21 1 dX6_setCorner_21 rfl rfl ?_
    refine X_getR (f := 3) 22 dX6_setCorner_22 lf_RX6_33 iw6 vc6 (by decide) lyL rfl ?_
    refine X_aload_n 25 1 dX6_setCorner_25 rfl rfl ?_
    refine X_getR (f := 0) 26 dX6_setCorner_26 lf_RX6_12 iw6 vc6 (by decide) lyL rfl ?_
    refine X_cVV 29 [.ref _] (e_X2_save la cn _ hla g6 hcn g7) dX6_setCorner_29 lm_RX6_52 1 ⟨wm_X2_save, by decide +kernel, rfl, rfl⟩ rfl ⟨Nat.le_of_ble_eq_true rfl, Nat.le_of_ble_eq_true rfl⟩ lyH vc2 rfl rfl (Nat.le_of_ble_eq_true rfl) ?_
    rintro _ rfl
    refine X_aload_n 32 1 dX6_setCorner_32 rfl rfl ?_
    refine X_getR (f := 0) 33 dX6_setCorner_33 lf_RX6_12 iw6 vc6 (by decide) lyL rfl ?_
    refine X_iload_n 36 2 dX6_setCorner_36 rfl rfl ?_
    refine X_iload_n 37 3 dX6_setCorner_37 rfl rfl ?_
    refine X_iload_n 38 4 dX6_setCorner_38 rfl rfl ?_
    refine X_iload 39 5 dX6_setCorner_39 rfl ?_
    refine X_cVV 41 [.int _, .int _, .int _, .int _] (e_X4_moveCorner 0 (Or.inl rfl) k i x y _ hk8 hi) dX6_setCorner_41 lm_RX6_87 4 ⟨wm_X4_moveCorner, by decide +kernel, rfl, rfl⟩ rfl ⟨Nat.le_of_ble_eq_true rfl, Nat.le_of_ble_eq_true rfl⟩ (lyS 0 (Or.inl rfl)) vc4 rfl rfl (Nat.le_of_ble_eq_true rfl) ?_
    rintro _ rfl
    refine X_aload_n 44 1 dX6_setCorner_44 rfl rfl ?_
    refine X_getR (f := 0) 45 dX6_setCorner_45 lf_RX6_12 iw6 vc6 (by decide) lyL rfl ?_
    refine X_iload_n 48 2 dX6_setCorner_48 rfl rfl ?_
    refine X_cVI 49 [.int _] (e_X4_isGood 0 (Or.inl rfl) k _ hk8) dX6_setCorner_49 lm_RX6_91 1 ⟨wm_X4_isGood, by decide +kernel, rfl, rfl⟩ rfl ⟨Nat.le_of_ble_eq_true rfl, Nat.le_of_ble_eq_true rfl⟩ (lyS 0 (Or.inl rfl)) vc4 rfl rfl (Nat.le_of_ble_eq_true rfl) ?_
    rintro _ _ ⟨rfl, ⟨rfl, b_49⟩ | ⟨rfl, b_49⟩⟩
    · refine X_if_eq 52 59 dX6_setCorner_52 (by decide) (fun c_0 => by exact absurd c_0 (by decide)) (fun _ => ?_)
      refine X_iconst 55 (1) dX6_setCorner_55 (by decide) ?_
      refine X_goto 56 60 dX6_setCorner_56 (by decide) ?_
      refine X_iret 60 dX6_setCorner_60 rfl rfl ⟨_, rfl, _, rfl, ?_⟩
      first | exact ⟨if_pos b_49, rfl⟩ | exact ⟨if_neg b_49, rfl⟩
    · refine X_if_eq 52 59 dX6_setCorner_52 (by decide) (fun _ => ?_) (fun c_0 => by exact absurd c_0 (by decide))
      refine X_iconst 59 (0) dX6_setCorner_59 (by decide) ?_
      refine X_iret 60 dX6_setCorner_60 rfl rfl ⟨_, rfl, _, rfl, ?_⟩
      first | exact ⟨if_pos b_49, rfl⟩ | exact ⟨if_neg b_49, rfl⟩
  · exact absurd ⟨hlp, hi3⟩ f_6
  · exact absurd hxy f_6.2
set_option maxHeartbeats 4000000 in
set_option maxRecDepth 100000 in
theorem e_X6_setRectangle (c r lc la cn : Nat) (k : Nat) (x y u v : Int32) (μ : Mm) (hI : CIv μ c r lc la cn) (hk : k < lc) (hrc : rcOK x y u v) : EvN ΛC mX6_setRectangle [.ref 109, .int (nI k), .int x, .int y, .int u, .int v] μ (qI (fun v9 m => plcJ (rectM (saveM μ la cn) k x y u v) lc c r k = v9 ∧ RfP (rectM (saveM μ la cn) k x y u v) lc c r m)) := by
  refine EvN_ofQ (by decide +kernel) rfl (fun _ => rfl) (fun _ => Nat.le_of_ble_eq_true rfl) (ls := [(0, .ref 109), (1, .int (nI k)), (2, .int x), (3, .int y), (4, .int u), (5, .int v)]) ?_
  obtain ⟨hc, hr, hlc, hla, hcn, ⟨g1, g2, g3, g4, g5, g6, g7⟩, hv⟩ := hI
  have hcr := cr_le g2 g4
  have hlp := lpOK_nI hlc g5 hk
  have hk8 : k < 8 := by omega
  refine X_aload_n 0 0 dX6_setRectangle_0 rfl rfl ?_
  refine X_iload_n 1 1 dX6_setRectangle_1 rfl rfl ?_
  refine X_iload_n 2 2 dX6_setRectangle_2 rfl rfl ?_
  refine X_iload_n 3 3 dX6_setRectangle_3 rfl rfl ?_
  refine X_iload 4 4 dX6_setRectangle_4 rfl ?_
  refine X_iload 6 5 dX6_setRectangle_6 rfl ?_
  refine X_cVI 8 [.int _, .int _, .int _, .int _, .int _] (e_X6_faultOfRectangle _ _ _ _ _ _) dX6_setRectangle_8 lm_RX6_95 5 ⟨wm_X6_faultOfRectangle, by decide +kernel, rfl, rfl⟩ rfl ⟨Nat.le_of_ble_eq_true rfl, Nat.le_of_ble_eq_true rfl⟩ lyL vc6 rfl rfl (Nat.le_of_ble_eq_true rfl) ?_
  rintro _ _ ⟨rfl, ⟨rfl, f_8⟩ | ⟨rfl, f_8⟩ | ⟨rfl, f_8⟩⟩
  · refine X_istore 11 [(6, .int _), (0, .ref _), (1, .int _), (2, .int _), (3, .int _), (4, .int _), (5, .int _)] dX6_setRectangle_11 (by decide) rfl ?_
    refine X_iload 13 0 dX6_setRectangle_13 rfl ?_
    refine X_cSV 15 [.int _] (e_X6_refuseIndex _ _ (by decide)) dX6_setRectangle_15 lm_RX6_68 1 ⟨wm_X6_refuseIndex, by decide +kernel, rfl, rfl⟩ rfl ⟨Nat.le_of_ble_eq_true rfl, Nat.le_of_ble_eq_true rfl⟩ rfl (Nat.le_of_ble_eq_true rfl) ?_
    rintro _ rfl
    refine X_iload 18 0 dX6_setRectangle_18 rfl ?_
    refine X_cSV 20 [.int _] (e_X6_refuseArgument _ _ (by decide)) dX6_setRectangle_20 lm_RX6_48 1 ⟨wm_X6_refuseArgument, by decide +kernel, rfl, rfl⟩ rfl ⟨Nat.le_of_ble_eq_true rfl, Nat.le_of_ble_eq_true rfl⟩ rfl (Nat.le_of_ble_eq_true rfl) ?_
    rintro _ rfl
    refine X_aload_n 23 1 dX6_setRectangle_23 rfl rfl ?_
    refine X_getR (f := 3) 24 dX6_setRectangle_24 lf_RX6_33 iw6 vc6 (by decide) lyL rfl ?_
    refine X_aload_n 27 1 dX6_setRectangle_27 rfl rfl ?_
    refine X_getR (f := 0) 28 dX6_setRectangle_28 lf_RX6_12 iw6 vc6 (by decide) lyL rfl ?_
    refine X_cVV 31 [.ref _] (e_X2_save la cn _ hla g6 hcn g7) dX6_setRectangle_31 lm_RX6_52 1 ⟨wm_X2_save, by decide +kernel, rfl, rfl⟩ rfl ⟨Nat.le_of_ble_eq_true rfl, Nat.le_of_ble_eq_true rfl⟩ lyH vc2 rfl rfl (Nat.le_of_ble_eq_true rfl) ?_
    rintro _ rfl
    refine X_aload_n 34 1 dX6_setRectangle_34 rfl rfl ?_
    refine X_getR (f := 0) 35 dX6_setRectangle_35 lf_RX6_12 iw6 vc6 (by decide) lyL rfl ?_
    refine X_iload_n 38 2 dX6_setRectangle_38 rfl rfl ?_
    refine X_iconst 39 (0) dX6_setRectangle_39 (by decide) ?_
    refine X_iload_n 40 3 dX6_setRectangle_40 rfl rfl ?_
    refine X_iload_n 41 4 dX6_setRectangle_41 rfl rfl ?_
    refine X_cVV 42 [.int _, .int _, .int _, .int _] (e_X4_moveCorner 0 (Or.inl rfl) k 0 x y _ hk8 (by decide)) dX6_setRectangle_42 lm_RX6_87 4 ⟨wm_X4_moveCorner, by decide +kernel, rfl, rfl⟩ rfl ⟨Nat.le_of_ble_eq_true rfl, Nat.le_of_ble_eq_true rfl⟩ (lyS 0 (Or.inl rfl)) vc4 rfl rfl (Nat.le_of_ble_eq_true rfl) ?_
    rintro _ rfl
    refine X_aload_n 45 1 dX6_setRectangle_45 rfl rfl ?_
    refine X_getR (f := 0) 46 dX6_setRectangle_46 lf_RX6_12 iw6 vc6 (by decide) lyL rfl ?_
    refine X_iload_n 49 2 dX6_setRectangle_49 rfl rfl ?_
    refine X_iconst 50 (1) dX6_setRectangle_50 (by decide) ?_
    refine X_iload 51 5 dX6_setRectangle_51 rfl ?_
    refine X_iload_n 53 4 dX6_setRectangle_53 rfl rfl ?_
    refine X_cVV 54 [.int _, .int _, .int _, .int _] (e_X4_moveCorner 0 (Or.inl rfl) k 1 u y _ hk8 (by decide)) dX6_setRectangle_54 lm_RX6_87 4 ⟨wm_X4_moveCorner, by decide +kernel, rfl, rfl⟩ rfl ⟨Nat.le_of_ble_eq_true rfl, Nat.le_of_ble_eq_true rfl⟩ (lyS 0 (Or.inl rfl)) vc4 rfl rfl (Nat.le_of_ble_eq_true rfl) ?_
    rintro _ rfl
    refine X_aload_n 57 1 dX6_setRectangle_57 rfl rfl ?_
    refine X_getR (f := 0) 58 dX6_setRectangle_58 lf_RX6_12 iw6 vc6 (by decide) lyL rfl ?_
    refine X_iload_n 61 2 dX6_setRectangle_61 rfl rfl ?_
    refine X_iconst 62 (2) dX6_setRectangle_62 (by decide) ?_
    refine X_iload 63 5 dX6_setRectangle_63 rfl ?_
    refine X_iload 65 6 dX6_setRectangle_65 rfl ?_
    refine X_cVV 67 [.int _, .int _, .int _, .int _] (e_X4_moveCorner 0 (Or.inl rfl) k 2 u v _ hk8 (by decide)) dX6_setRectangle_67 lm_RX6_87 4 ⟨wm_X4_moveCorner, by decide +kernel, rfl, rfl⟩ rfl ⟨Nat.le_of_ble_eq_true rfl, Nat.le_of_ble_eq_true rfl⟩ (lyS 0 (Or.inl rfl)) vc4 rfl rfl (Nat.le_of_ble_eq_true rfl) ?_
    rintro _ rfl
    refine X_aload_n 70 1 dX6_setRectangle_70 rfl rfl ?_
    refine X_getR (f := 0) 71 dX6_setRectangle_71 lf_RX6_12 iw6 vc6 (by decide) lyL rfl ?_
    refine X_iload_n 74 2 dX6_setRectangle_74 rfl rfl ?_
    refine X_iconst 75 (3) dX6_setRectangle_75 (by decide) ?_
    refine X_iload_n 76 3 dX6_setRectangle_76 rfl rfl ?_
    refine X_iload 77 6 dX6_setRectangle_77 rfl ?_
    refine X_cVV 79 [.int _, .int _, .int _, .int _] (e_X4_moveCorner 0 (Or.inl rfl) k 3 x v _ hk8 (by decide)) dX6_setRectangle_79 lm_RX6_87 4 ⟨wm_X4_moveCorner, by decide +kernel, rfl, rfl⟩ rfl ⟨Nat.le_of_ble_eq_true rfl, Nat.le_of_ble_eq_true rfl⟩ (lyS 0 (Or.inl rfl)) vc4 rfl rfl (Nat.le_of_ble_eq_true rfl) ?_
    rintro _ rfl
    refine X_aload_n 82 1 dX6_setRectangle_82 rfl rfl ?_
    refine X_getR (f := 1) 83 dX6_setRectangle_83 lf_RX6_19 iw6 vc6 (by decide) lyL rfl ?_
    refine X_aload_n 86 1 dX6_setRectangle_86 rfl rfl ?_
    refine X_getR (f := 0) 87 dX6_setRectangle_87 lf_RX6_12 iw6 vc6 (by decide) lyL rfl ?_
    refine X_cVV 90 [.ref _] (e_X5_refresh lc c r (rectM (saveM μ la cn) k x y u v) ((rectM_out (by omega) (by omega) (by omega)).trans ((saveM_out g6 (by omega)).trans hc)) ((rectM_out (by omega) (by omega) (by omega)).trans ((saveM_out g6 (by omega)).trans hr)) ((rectM_out (by omega) (by omega) (by omega)).trans ((saveM_out g6 (by omega)).trans hlc)) g5 g2 g4 (fun h0 => absurd ((mvc_6 _ _ _ _).symm.trans h0) (by decide))) dX6_setRectangle_90 lm_RX6_98 1 ⟨wm_X5_refresh, by decide +kernel, rfl, rfl⟩ rfl ⟨Nat.le_of_ble_eq_true rfl, Nat.le_of_ble_eq_true rfl⟩ lyV vc5 rfl rfl (Nat.le_of_ble_eq_true rfl) ?_
    rintro m hR0
    have hR : RfP (rectM (saveM μ la cn) k x y u v) lc c r m := hR0
    refine X_aload_n 93 1 dX6_setRectangle_93 rfl rfl ?_
    refine X_getR (f := 1) 94 dX6_setRectangle_94 lf_RX6_19 iw6 vc6 (by decide) lyL rfl ?_
    refine X_iload_n 97 2 dX6_setRectangle_97 rfl rfl ?_
    refine X_cVI 98 [.int _] (e_X5_placesOf k (c * r) _ hR.1.1 hcr hk8) dX6_setRectangle_98 lm_RX6_101 1 ⟨wm_X5_placesOf, by decide +kernel, rfl, rfl⟩ rfl ⟨Nat.le_of_ble_eq_true rfl, Nat.le_of_ble_eq_true rfl⟩ lyV vc5 rfl rfl (Nat.le_of_ble_eq_true rfl) ?_
    rintro _ _ ⟨rfl, rfl⟩
    refine X_iret 101 dX6_setRectangle_101 rfl rfl ⟨_, rfl, _, rfl, ?_⟩
    exact ⟨(plc_J hR).symm, hR⟩
  · exact absurd hlp f_8
  · exact absurd hrc f_8.2
set_option maxHeartbeats 4000000 in
set_option maxRecDepth 100000 in
theorem e_X6_setLamp (c r lc la cn : Nat) (k w : Nat) (x : Int32) (μ : Mm) (hI : CIv μ c r lc la cn) (hk : k < lc) (hw : w < 3) (hx : lvOK (nI w) x) : EvN ΛC mX6_setLamp [.ref 109, .int (nI k), .int (nI w), .int x] μ (qI (fun v9 m9 => lvV (saveM μ la cn) lc c r k w = v9 ∧ ∃ m, RfP (saveM μ la cn) lc c r m ∧ uM (uM m (0 + 9 + w) k x) 0 6 1 = m9)) := by
  refine EvN_ofQ (by decide +kernel) rfl (fun _ => rfl) (fun _ => Nat.le_of_ble_eq_true rfl) (ls := [(0, .ref 109), (1, .int (nI k)), (2, .int (nI w)), (3, .int x)]) ?_
  obtain ⟨hc, hr, hlc, hla, hcn, ⟨g1, g2, g3, g4, g5, g6, g7⟩, hv⟩ := hI
  have hcr := cr_le g2 g4
  have hI2 := CIv_save (show CIv μ c r lc la cn from ⟨hc, hr, hlc, hla, hcn, ⟨g1, g2, g3, g4, g5, g6, g7⟩, hv⟩)
  have hlp := lpOK_nI hlc g5 hk
  have hk8 : k < 8 := by omega
  refine X_aload_n 0 0 dX6_setLamp_0 rfl rfl ?_
  refine X_iload_n 1 1 dX6_setLamp_1 rfl rfl ?_
  refine X_iload_n 2 2 dX6_setLamp_2 rfl rfl ?_
  refine X_iload_n 3 3 dX6_setLamp_3 rfl rfl ?_
  refine X_cVI 4 [.int _, .int _, .int _] (e_X6_faultOfLampValue _ _ _ _) dX6_setLamp_4 lm_RX6_105 3 ⟨wm_X6_faultOfLampValue, by decide +kernel, rfl, rfl⟩ rfl ⟨Nat.le_of_ble_eq_true rfl, Nat.le_of_ble_eq_true rfl⟩ lyL vc6 rfl rfl (Nat.le_of_ble_eq_true rfl) ?_
  rintro _ _ ⟨rfl, ⟨rfl, f_4⟩ | ⟨rfl, f_4⟩ | ⟨rfl, f_4⟩⟩
  · refine X_istore 7 [(4, .int _), (0, .ref _), (1, .int _), (2, .int _), (3, .int _)] dX6_setLamp_7 (by decide) rfl ?_
    refine X_iload 9 0 dX6_setLamp_9 rfl ?_
    refine X_cSV 11 [.int _] (e_X6_refuseIndex _ _ (by decide)) dX6_setLamp_11 lm_RX6_68 1 ⟨wm_X6_refuseIndex, by decide +kernel, rfl, rfl⟩ rfl ⟨Nat.le_of_ble_eq_true rfl, Nat.le_of_ble_eq_true rfl⟩ rfl (Nat.le_of_ble_eq_true rfl) ?_
    rintro _ rfl
    refine X_iload 14 0 dX6_setLamp_14 rfl ?_
    refine X_cSV 16 [.int _] (e_X6_refuseArgument _ _ (by decide)) dX6_setLamp_16 lm_RX6_48 1 ⟨wm_X6_refuseArgument, by decide +kernel, rfl, rfl⟩ rfl ⟨Nat.le_of_ble_eq_true rfl, Nat.le_of_ble_eq_true rfl⟩ rfl (Nat.le_of_ble_eq_true rfl) ?_
    rintro _ rfl
    refine X_aload_n 19 1 dX6_setLamp_19 rfl rfl ?_
    refine X_getR (f := 3) 20 dX6_setLamp_20 lf_RX6_33 iw6 vc6 (by decide) lyL rfl ?_
    refine X_aload_n 23 1 dX6_setLamp_23 rfl rfl ?_
    refine X_getR (f := 0) 24 dX6_setLamp_24 lf_RX6_12 iw6 vc6 (by decide) lyL rfl ?_
    refine X_cVV 27 [.ref _] (e_X2_save la cn _ hla g6 hcn g7) dX6_setLamp_27 lm_RX6_52 1 ⟨wm_X2_save, by decide +kernel, rfl, rfl⟩ rfl ⟨Nat.le_of_ble_eq_true rfl, Nat.le_of_ble_eq_true rfl⟩ lyH vc2 rfl rfl (Nat.le_of_ble_eq_true rfl) ?_
    rintro _ rfl
    refine X_aload_n 30 1 dX6_setLamp_30 rfl rfl ?_
    refine X_iload_n 31 2 dX6_setLamp_31 rfl rfl ?_
    refine X_iload_n 32 3 dX6_setLamp_32 rfl rfl ?_
    refine X_cVI 33 [.int _, .int _] (e_X6_lampValue c r lc _ _ k w _ hI2 hk (by omega)) dX6_setLamp_33 lm_RX6_109 2 ⟨wm_X6_lampValue, by decide +kernel, rfl, rfl⟩ rfl ⟨Nat.le_of_ble_eq_true rfl, Nat.le_of_ble_eq_true rfl⟩ lyL vc6 rfl rfl (Nat.le_of_ble_eq_true rfl) ?_
    rintro _ m ⟨rfl, hR⟩
    refine X_istore 36 [(5, .int _), (4, .int _), (0, .ref _), (1, .int _), (2, .int _), (3, .int _)] dX6_setLamp_36 (by decide) rfl ?_
    refine X_aload_n 38 2 dX6_setLamp_38 rfl rfl ?_
    refine X_getR (f := 0) 39 dX6_setLamp_39 lf_RX6_12 iw6 vc6 (by decide) lyL rfl ?_
    refine X_iload_n 42 3 dX6_setLamp_42 rfl rfl ?_
    refine X_iload_n 43 4 dX6_setLamp_43 rfl rfl ?_
    refine X_iload_n 44 5 dX6_setLamp_44 rfl rfl ?_
    refine X_cVV 45 [.int _, .int _, .int _] (e_X4_setLampValue 0 (Or.inl rfl) k w x _ hk8 hw) dX6_setLamp_45 lm_RX6_112 3 ⟨wm_X4_setLampValue, by decide +kernel, rfl, rfl⟩ rfl ⟨Nat.le_of_ble_eq_true rfl, Nat.le_of_ble_eq_true rfl⟩ (lyS 0 (Or.inl rfl)) vc4 rfl rfl (Nat.le_of_ble_eq_true rfl) ?_
    rintro _ rfl
    refine X_iload 48 0 dX6_setLamp_48 rfl ?_
    refine X_iret 50 dX6_setLamp_50 rfl rfl ⟨_, rfl, _, rfl, ?_⟩
    exact ⟨rfl, m, hR, rfl⟩
  · exact absurd hlp f_4
  · exact absurd hx f_4.2
set_option maxHeartbeats 4000000 in
set_option maxRecDepth 100000 in
theorem e_X6_setWorks (c r lc la cn : Nat) (k : Nat) (z : Int32) (μ : Mm) (hI : CIv μ c r lc la cn) (hk : k < lc) : EvN ΛC mX6_setWorks [.ref 109, .int (nI k), .int z] μ (qI (fun v9 m9 => (if wkB μ 0 k = true then 1 else 0) = v9 ∧ uM (uM (saveM μ la cn) 12 k (if z = 0 then 0 else 1)) 0 6 1 = m9)) := by
  refine EvN_ofQ (by decide +kernel) rfl (fun _ => rfl) (fun _ => Nat.le_of_ble_eq_true rfl) (ls := [(0, .ref 109), (1, .int (nI k)), (2, .int z)]) ?_
  obtain ⟨hc, hr, hlc, hla, hcn, ⟨g1, g2, g3, g4, g5, g6, g7⟩, hv⟩ := hI
  have hcr := cr_le g2 g4
  have hlp := lpOK_nI hlc g5 hk
  have hk8 : k < 8 := by omega
  refine X_aload_n 0 0 dX6_setWorks_0 rfl rfl ?_
  refine X_iload_n 1 1 dX6_setWorks_1 rfl rfl ?_
  refine X_cVI 2 [.int _] (e_X6_faultOfLamp _ _) dX6_setWorks_2 lm_RX6_116 1 ⟨wm_X6_faultOfLamp, by decide +kernel, rfl, rfl⟩ rfl ⟨Nat.le_of_ble_eq_true rfl, Nat.le_of_ble_eq_true rfl⟩ lyL vc6 rfl rfl (Nat.le_of_ble_eq_true rfl) ?_
  rintro _ _ ⟨rfl, ⟨rfl, f_2⟩ | ⟨rfl, f_2⟩⟩
  · refine X_cSV 5 [.int _] (e_X6_refuseIndex _ _ (by decide)) dX6_setWorks_5 lm_RX6_68 1 ⟨wm_X6_refuseIndex, by decide +kernel, rfl, rfl⟩ rfl ⟨Nat.le_of_ble_eq_true rfl, Nat.le_of_ble_eq_true rfl⟩ rfl (Nat.le_of_ble_eq_true rfl) ?_
    rintro _ rfl
    refine X_aload_n 8 0 dX6_setWorks_8 rfl rfl ?_
    refine X_getR (f := 3) 9 dX6_setWorks_9 lf_RX6_33 iw6 vc6 (by decide) lyL rfl ?_
    refine X_aload_n 12 0 dX6_setWorks_12 rfl rfl ?_
    refine X_getR (f := 0) 13 dX6_setWorks_13 lf_RX6_12 iw6 vc6 (by decide) lyL rfl ?_
    refine X_cVV 16 [.ref _] (e_X2_save la cn _ hla g6 hcn g7) dX6_setWorks_16 lm_RX6_52 1 ⟨wm_X2_save, by decide +kernel, rfl, rfl⟩ rfl ⟨Nat.le_of_ble_eq_true rfl, Nat.le_of_ble_eq_true rfl⟩ lyH vc2 rfl rfl (Nat.le_of_ble_eq_true rfl) ?_
    rintro _ rfl
    refine X_aload_n 19 0 dX6_setWorks_19 rfl rfl ?_
    refine X_getR (f := 0) 20 dX6_setWorks_20 lf_RX6_12 iw6 vc6 (by decide) lyL rfl ?_
    refine X_iload_n 23 1 dX6_setWorks_23 rfl rfl ?_
    refine X_cVI 24 [.int _] (e_X4_isWorking 0 (Or.inl rfl) k _ hk8) dX6_setWorks_24 lm_RX6_119 1 ⟨wm_X4_isWorking, by decide +kernel, rfl, rfl⟩ rfl ⟨Nat.le_of_ble_eq_true rfl, Nat.le_of_ble_eq_true rfl⟩ (lyS 0 (Or.inl rfl)) vc4 rfl rfl (Nat.le_of_ble_eq_true rfl) ?_
    rintro _ _ ⟨rfl, ⟨rfl, b_24⟩ | ⟨rfl, b_24⟩⟩
    · rw [show wkB (saveM μ la cn) 0 k = wkB μ 0 k from congrArg (· == 1) (saveM_out g6 (by omega))] at b_24
      refine X_if_eq 27 34 dX6_setWorks_27 (by decide) (fun c_0 => by exact absurd c_0 (by decide)) (fun _ => ?_)
      refine X_iconst 30 (1) dX6_setWorks_30 (by decide) ?_
      refine X_goto 31 35 dX6_setWorks_31 (by decide) ?_
      refine X_istore_n 35 [(3, .int _), (0, .ref _), (1, .int _), (2, .int _)] dX6_setWorks_35 rfl (by decide) rfl ?_
      refine X_aload_n 36 1 dX6_setWorks_36 rfl rfl ?_
      refine X_getR (f := 0) 37 dX6_setWorks_37 lf_RX6_12 iw6 vc6 (by decide) lyL rfl ?_
      refine X_iload_n 40 2 dX6_setWorks_40 rfl rfl ?_
      refine X_iload_n 41 3 dX6_setWorks_41 rfl rfl ?_
      refine X_cVV 42 [.int _, .int _] (e_X4_switchLamp 0 (Or.inl rfl) k z _ hk8) dX6_setWorks_42 lm_RX6_122 2 ⟨wm_X4_switchLamp, by decide +kernel, rfl, rfl⟩ rfl ⟨Nat.le_of_ble_eq_true rfl, Nat.le_of_ble_eq_true rfl⟩ (lyS 0 (Or.inl rfl)) vc4 rfl rfl (Nat.le_of_ble_eq_true rfl) ?_
      rintro _ rfl
      refine X_iload_n 45 0 dX6_setWorks_45 rfl rfl ?_
      refine X_iret 46 dX6_setWorks_46 rfl rfl ⟨_, rfl, _, rfl, ?_⟩
      first | exact ⟨if_pos b_24, rfl⟩ | exact ⟨if_neg b_24, rfl⟩
    · rw [show wkB (saveM μ la cn) 0 k = wkB μ 0 k from congrArg (· == 1) (saveM_out g6 (by omega))] at b_24
      refine X_if_eq 27 34 dX6_setWorks_27 (by decide) (fun _ => ?_) (fun c_0 => by exact absurd c_0 (by decide))
      refine X_iconst 34 (0) dX6_setWorks_34 (by decide) ?_
      refine X_istore_n 35 [(3, .int _), (0, .ref _), (1, .int _), (2, .int _)] dX6_setWorks_35 rfl (by decide) rfl ?_
      refine X_aload_n 36 1 dX6_setWorks_36 rfl rfl ?_
      refine X_getR (f := 0) 37 dX6_setWorks_37 lf_RX6_12 iw6 vc6 (by decide) lyL rfl ?_
      refine X_iload_n 40 2 dX6_setWorks_40 rfl rfl ?_
      refine X_iload_n 41 3 dX6_setWorks_41 rfl rfl ?_
      refine X_cVV 42 [.int _, .int _] (e_X4_switchLamp 0 (Or.inl rfl) k z _ hk8) dX6_setWorks_42 lm_RX6_122 2 ⟨wm_X4_switchLamp, by decide +kernel, rfl, rfl⟩ rfl ⟨Nat.le_of_ble_eq_true rfl, Nat.le_of_ble_eq_true rfl⟩ (lyS 0 (Or.inl rfl)) vc4 rfl rfl (Nat.le_of_ble_eq_true rfl) ?_
      rintro _ rfl
      refine X_iload_n 45 0 dX6_setWorks_45 rfl rfl ?_
      refine X_iret 46 dX6_setWorks_46 rfl rfl ⟨_, rfl, _, rfl, ?_⟩
      first | exact ⟨if_pos b_24, rfl⟩ | exact ⟨if_neg b_24, rfl⟩
  · exact absurd hlp f_2
set_option maxHeartbeats 4000000 in
set_option maxRecDepth 100000 in
theorem e_X6_shift (c r lc la cn : Nat) (a b : Int32) (μ : Mm) (hI : CIv μ c r lc la cn) (hs : shOK a b) : EvN ΛC mX6_shift [.ref 109, .int a, .int b] μ (qI (fun v9 m => nI (c * r) - pstJ (movM (saveM μ la cn) a b) lc c r 0 = v9 ∧ RfP (movM (saveM μ la cn) a b) lc c r m)) := by
  refine EvN_ofQ (by decide +kernel) rfl (fun _ => rfl) (fun _ => Nat.le_of_ble_eq_true rfl) (ls := [(0, .ref 109), (1, .int a), (2, .int b)]) ?_
  obtain ⟨hc, hr, hlc, hla, hcn, ⟨g1, g2, g3, g4, g5, g6, g7⟩, hv⟩ := hI
  have hcr := cr_le g2 g4
  refine X_iload_n 0 1 dX6_shift_0 rfl rfl ?_
  refine X_iload_n 1 2 dX6_shift_1 rfl rfl ?_
  refine X_cSI 2 [.int _, .int _] (e_X6_faultOfShift _ _ _) dX6_shift_2 lm_RX6_126 2 ⟨wm_X6_faultOfShift, by decide +kernel, rfl, rfl⟩ rfl ⟨Nat.le_of_ble_eq_true rfl, Nat.le_of_ble_eq_true rfl⟩ rfl (Nat.le_of_ble_eq_true rfl) ?_
  rintro _ _ ⟨rfl, ⟨rfl, f_2⟩ | ⟨rfl, f_2⟩⟩
  · refine X_cSV 5 [.int _] (e_X6_refuseArgument _ _ (by decide)) dX6_shift_5 lm_RX6_48 1 ⟨wm_X6_refuseArgument, by decide +kernel, rfl, rfl⟩ rfl ⟨Nat.le_of_ble_eq_true rfl, Nat.le_of_ble_eq_true rfl⟩ rfl (Nat.le_of_ble_eq_true rfl) ?_
    rintro _ rfl
    refine X_aload_n 8 0 dX6_shift_8 rfl rfl ?_
    refine X_getR (f := 3) 9 dX6_shift_9 lf_RX6_33 iw6 vc6 (by decide) lyL rfl ?_
    refine X_aload_n 12 0 dX6_shift_12 rfl rfl ?_
    refine X_getR (f := 0) 13 dX6_shift_13 lf_RX6_12 iw6 vc6 (by decide) lyL rfl ?_
    refine X_cVV 16 [.ref _] (e_X2_save la cn _ hla g6 hcn g7) dX6_shift_16 lm_RX6_52 1 ⟨wm_X2_save, by decide +kernel, rfl, rfl⟩ rfl ⟨Nat.le_of_ble_eq_true rfl, Nat.le_of_ble_eq_true rfl⟩ lyH vc2 rfl rfl (Nat.le_of_ble_eq_true rfl) ?_
    rintro _ rfl
    refine X_aload_n 19 0 dX6_shift_19 rfl rfl ?_
    refine X_getR (f := 0) 20 dX6_shift_20 lf_RX6_12 iw6 vc6 (by decide) lyL rfl ?_
    refine X_iload_n 23 1 dX6_shift_23 rfl rfl ?_
    refine X_iload_n 24 2 dX6_shift_24 rfl rfl ?_
    refine X_cVV 25 [.int _, .int _] (e_X4_moveWall 0 (Or.inl rfl) _ _ _) dX6_shift_25 lm_RX6_129 2 ⟨wm_X4_moveWall, by decide +kernel, rfl, rfl⟩ rfl ⟨Nat.le_of_ble_eq_true rfl, Nat.le_of_ble_eq_true rfl⟩ (lyS 0 (Or.inl rfl)) vc4 rfl rfl (Nat.le_of_ble_eq_true rfl) ?_
    rintro _ rfl
    refine X_aload_n 28 0 dX6_shift_28 rfl rfl ?_
    refine X_getR (f := 1) 29 dX6_shift_29 lf_RX6_19 iw6 vc6 (by decide) lyL rfl ?_
    refine X_aload_n 32 0 dX6_shift_32 rfl rfl ?_
    refine X_getR (f := 0) 33 dX6_shift_33 lf_RX6_12 iw6 vc6 (by decide) lyL rfl ?_
    refine X_cVV 36 [.ref _] (e_X5_refresh lc c r (movM (saveM μ la cn) a b) ((movM_out (by omega)).trans ((saveM_out g6 (by omega)).trans hc)) ((movM_out (by omega)).trans ((saveM_out g6 (by omega)).trans hr)) ((movM_out (by omega)).trans ((saveM_out g6 (by omega)).trans hlc)) g5 g2 g4 (fun h0 => absurd ((uM_s _ _ _ _).symm.trans h0) (by decide))) dX6_shift_36 lm_RX6_98 1 ⟨wm_X5_refresh, by decide +kernel, rfl, rfl⟩ rfl ⟨Nat.le_of_ble_eq_true rfl, Nat.le_of_ble_eq_true rfl⟩ lyV vc5 rfl rfl (Nat.le_of_ble_eq_true rfl) ?_
    rintro m hR0
    have hR : RfP (movM (saveM μ la cn) a b) lc c r m := hR0
    refine X_aload_n 39 0 dX6_shift_39 rfl rfl ?_
    refine X_getR (f := 1) 40 dX6_shift_40 lf_RX6_19 iw6 vc6 (by decide) lyL rfl ?_
    refine X_cVI 43 [] (e_X5_wrongPlaces (c * r) _ hR.1.1 hcr) dX6_shift_43 lm_RX6_132 0 ⟨wm_X5_wrongPlaces, by decide +kernel, rfl, rfl⟩ rfl ⟨Nat.le_of_ble_eq_true rfl, Nat.le_of_ble_eq_true rfl⟩ lyV vc5 rfl rfl (Nat.le_of_ble_eq_true rfl) ?_
    rintro _ _ ⟨rfl, rfl⟩
    refine X_iret 46 dX6_shift_46 rfl rfl ⟨_, rfl, _, rfl, ?_⟩
    exact ⟨by rw [pst_J hR], hR⟩
  · exact absurd hs f_2
set_option maxHeartbeats 4000000 in
set_option maxRecDepth 100000 in
theorem e_X6_burn (c r lc la cn : Nat) (h : Int32) (μ : Mm) (hI : CIv μ c r lc la cn) (hh : rgI h 1 9999) : EvN ΛC mX6_burn [.ref 109, .int h] μ (qI (fun v9 m9 => ∃ m, RfP (saveM μ la cn) lc c r m ∧ burnM m (ldJ (saveM μ la cn) lc c r) h lc = m9 ∧ maxN lc (m9 11) = v9)) := by
  refine EvN_ofQ (by decide +kernel) rfl (fun _ => rfl) (fun _ => Nat.le_of_ble_eq_true rfl) (ls := [(0, .ref 109), (1, .int h)]) ?_
  obtain ⟨hc, hr, hlc, hla, hcn, ⟨g1, g2, g3, g4, g5, g6, g7⟩, hv⟩ := hI
  have hcr := cr_le g2 g4
  have hI2 := CIv_save (show CIv μ c r lc la cn from ⟨hc, hr, hlc, hla, hcn, ⟨g1, g2, g3, g4, g5, g6, g7⟩, hv⟩)
  refine X_iload_n 0 1 dX6_burn_0 rfl rfl ?_
  refine X_cSI 1 [.int _] (e_X6_faultOfHours _ _) dX6_burn_1 lm_RX6_135 1 ⟨wm_X6_faultOfHours, by decide +kernel, rfl, rfl⟩ rfl ⟨Nat.le_of_ble_eq_true rfl, Nat.le_of_ble_eq_true rfl⟩ rfl (Nat.le_of_ble_eq_true rfl) ?_
  rintro _ _ ⟨rfl, ⟨rfl, f_1⟩ | ⟨rfl, f_1⟩⟩
  · refine X_cSV 4 [.int _] (e_X6_refuseArgument _ _ (by decide)) dX6_burn_4 lm_RX6_48 1 ⟨wm_X6_refuseArgument, by decide +kernel, rfl, rfl⟩ rfl ⟨Nat.le_of_ble_eq_true rfl, Nat.le_of_ble_eq_true rfl⟩ rfl (Nat.le_of_ble_eq_true rfl) ?_
    rintro _ rfl
    refine X_aload_n 7 0 dX6_burn_7 rfl rfl ?_
    refine X_getR (f := 3) 8 dX6_burn_8 lf_RX6_33 iw6 vc6 (by decide) lyL rfl ?_
    refine X_aload_n 11 0 dX6_burn_11 rfl rfl ?_
    refine X_getR (f := 0) 12 dX6_burn_12 lf_RX6_12 iw6 vc6 (by decide) lyL rfl ?_
    refine X_cVV 15 [.ref _] (e_X2_save la cn _ hla g6 hcn g7) dX6_burn_15 lm_RX6_52 1 ⟨wm_X2_save, by decide +kernel, rfl, rfl⟩ rfl ⟨Nat.le_of_ble_eq_true rfl, Nat.le_of_ble_eq_true rfl⟩ lyH vc2 rfl rfl (Nat.le_of_ble_eq_true rfl) ?_
    rintro _ rfl
    refine X_aload_n 18 0 dX6_burn_18 rfl rfl ?_
    refine X_iload_n 19 1 dX6_burn_19 rfl rfl ?_
    refine X_cVV 20 [.int _] (e_X6_burnHours c r lc _ _ h _ hI2) dX6_burn_20 lm_RX6_138 1 ⟨wm_X6_burnHours, by decide +kernel, rfl, rfl⟩ rfl ⟨Nat.le_of_ble_eq_true rfl, Nat.le_of_ble_eq_true rfl⟩ lyL vc6 rfl rfl (Nat.le_of_ble_eq_true rfl) ?_
    rintro _ ⟨m, hR, rfl⟩
    refine X_aload_n 23 0 dX6_burn_23 rfl rfl ?_
    refine X_getR (f := 0) 24 dX6_burn_24 lf_RX6_12 iw6 vc6 (by decide) lyL rfl ?_
    refine X_cVI 27 [] (e_X4_greatestWear 0 (Or.inl rfl) lc _ (by show uM _ 0 4 _ 0 5 = _; rw [uM_n (by omega), brnM_out (by omega) lc (by omega), rf_s hR 5 (by decide), saveM_out g6 (by omega)]; exact hlc) g5) dX6_burn_27 lm_RX6_141 0 ⟨wm_X4_greatestWear, by decide +kernel, rfl, rfl⟩ rfl ⟨Nat.le_of_ble_eq_true rfl, Nat.le_of_ble_eq_true rfl⟩ (lyS 0 (Or.inl rfl)) vc4 rfl rfl (Nat.le_of_ble_eq_true rfl) ?_
    rintro _ _ ⟨rfl, rfl⟩
    refine X_iret 30 dX6_burn_30 rfl rfl ⟨_, rfl, _, rfl, ?_⟩
    exact ⟨m, hR, rfl, rfl⟩
  · exact absurd hh f_1
set_option maxHeartbeats 4000000 in
set_option maxRecDepth 100000 in
theorem e_X6_place (c r lc la cn : Nat) (x y w : Nat) (μ : Mm) (hI : CIv μ c r lc la cn) (hx : x < c) (hy : y < r) (hw : w ≤ 5) : EvN ΛC mX6_place [.ref 109, .int (nI x), .int (nI y), .int (nI w)] μ (qI (fun v9 m => plV μ lc c x y w = v9 ∧ RfP μ lc c r m)) := by
  refine EvN_ofQ (by decide +kernel) rfl (fun _ => rfl) (fun _ => Nat.le_of_ble_eq_true rfl) (ls := [(0, .ref 109), (1, .int (nI x)), (2, .int (nI y)), (3, .int (nI w))]) ?_
  obtain ⟨hc, hr, hlc, hla, hcn, ⟨g1, g2, g3, g4, g5, g6, g7⟩, hv⟩ := hI
  have hcr := cr_le g2 g4
  have hp := plOK_nI hc hr g2 g4 hx hy
  have hw5 : rgI (nI w) 0 5 := rg_nI (n := 5) rfl (by decide) hw
  refine X_aload_n 0 0 dX6_place_0 rfl rfl ?_
  refine X_iload_n 1 1 dX6_place_1 rfl rfl ?_
  refine X_iload_n 2 2 dX6_place_2 rfl rfl ?_
  refine X_cVI 3 [.int _, .int _] (e_X6_faultOfPlace _ _ _) dX6_place_3 lm_RX6_144 2 ⟨wm_X6_faultOfPlace, by decide +kernel, rfl, rfl⟩ rfl ⟨Nat.le_of_ble_eq_true rfl, Nat.le_of_ble_eq_true rfl⟩ lyL vc6 rfl rfl (Nat.le_of_ble_eq_true rfl) ?_
  rintro _ _ ⟨rfl, ⟨rfl, f_3⟩ | ⟨rfl, f_3⟩⟩
  · refine X_cSV 6 [.int _] (e_X6_refuseIndex _ _ (by decide)) dX6_place_6 lm_RX6_68 1 ⟨wm_X6_refuseIndex, by decide +kernel, rfl, rfl⟩ rfl ⟨Nat.le_of_ble_eq_true rfl, Nat.le_of_ble_eq_true rfl⟩ rfl (Nat.le_of_ble_eq_true rfl) ?_
    rintro _ rfl
    refine X_iload_n 9 3 dX6_place_9 rfl rfl ?_
    refine X_iconst 10 (0) dX6_place_10 (by decide) ?_
    refine X_iconst 11 (5) dX6_place_11 (by decide) ?_
    refine X_cSI 12 [.int _, .int _, .int _] (e_X6_faultOfRange _ _ _ _) dX6_place_12 lm_RX6_147 3 ⟨wm_X6_faultOfRange, by decide +kernel, rfl, rfl⟩ rfl ⟨Nat.le_of_ble_eq_true rfl, Nat.le_of_ble_eq_true rfl⟩ rfl (Nat.le_of_ble_eq_true rfl) ?_
    rintro _ _ ⟨rfl, ⟨rfl, f_12⟩ | ⟨rfl, f_12⟩⟩
    · refine X_cSV 15 [.int _] (e_X6_refuseArgument _ _ (by decide)) dX6_place_15 lm_RX6_48 1 ⟨wm_X6_refuseArgument, by decide +kernel, rfl, rfl⟩ rfl ⟨Nat.le_of_ble_eq_true rfl, Nat.le_of_ble_eq_true rfl⟩ rfl (Nat.le_of_ble_eq_true rfl) ?_
      rintro _ rfl
      refine X_aload_n 18 0 dX6_place_18 rfl rfl ?_
      refine X_aload_n 19 0 dX6_place_19 rfl rfl ?_
      refine X_getR (f := 0) 20 dX6_place_20 lf_RX6_12 iw6 vc6 (by decide) lyL rfl ?_
      refine X_iload_n 23 1 dX6_place_23 rfl rfl ?_
      refine X_iload_n 24 2 dX6_place_24 rfl rfl ?_
      refine X_cVI 25 [.int _, .int _] (e_X4_indexOfPlace 0 (Or.inl rfl) _ _ _) dX6_place_25 lm_RX6_150 2 ⟨wm_X4_indexOfPlace, by decide +kernel, rfl, rfl⟩ rfl ⟨Nat.le_of_ble_eq_true rfl, Nat.le_of_ble_eq_true rfl⟩ (lyS 0 (Or.inl rfl)) vc4 rfl rfl (Nat.le_of_ble_eq_true rfl) ?_
      rintro _ _ ⟨rfl, rfl⟩
      rw [ptIx (m := μ) (s := 0) hc]
      refine X_iload_n 28 3 dX6_place_28 rfl rfl ?_
      refine X_cVI 29 [.int _, .int _] (e_X6_placeValue c r lc la cn x y w _ ⟨hc, hr, hlc, hla, hcn, ⟨g1, g2, g3, g4, g5, g6, g7⟩, hv⟩ hx hy hw) dX6_place_29 lm_RX6_153 2 ⟨wm_X6_placeValue, by decide +kernel, rfl, rfl⟩ rfl ⟨Nat.le_of_ble_eq_true rfl, Nat.le_of_ble_eq_true rfl⟩ lyL vc6 rfl rfl (Nat.le_of_ble_eq_true rfl) ?_
      rintro _ m ⟨rfl, hR⟩
      refine X_iret 32 dX6_place_32 rfl rfl ⟨_, rfl, _, rfl, ?_⟩
      exact ⟨rfl, hR⟩
    · exact absurd hw5 f_12
  · exact absurd hp f_3
set_option maxHeartbeats 4000000 in
set_option maxRecDepth 100000 in
theorem e_X6_light (c r lc la cn : Nat) (k x y : Nat) (μ : Mm) (hI : CIv μ c r lc la cn) (hk : k < lc) (hx : x < c) (hy : y < r) : EvN ΛC mX6_light [.ref 109, .int (nI k), .int (nI x), .int (nI y)] μ (qI (fun v9 m => (if bitB (cvP μ 0 (zzS μ lc) (μ 0 2) (μ 0 3) x y) k = true then ltP μ 0 (zzS μ lc) (μ 0 2) (μ 0 3) c x y k else -1000) = v9 ∧ RfP μ lc c r m)) := by
  refine EvN_ofQ (by decide +kernel) rfl (fun _ => rfl) (fun _ => Nat.le_of_ble_eq_true rfl) (ls := [(0, .ref 109), (1, .int (nI k)), (2, .int (nI x)), (3, .int (nI y))]) ?_
  obtain ⟨hc, hr, hlc, hla, hcn, ⟨g1, g2, g3, g4, g5, g6, g7⟩, hv⟩ := hI
  have hcr := cr_le g2 g4
  have hlp := lpOK_nI hlc g5 hk
  have hk8 : k < 8 := by omega
  have hp := plOK_nI hc hr g2 g4 hx hy
  have hix : y * c + x < 384 := ix_lt (by omega) hx (by omega)
  refine X_aload_n 0 0 dX6_light_0 rfl rfl ?_
  refine X_iload_n 1 1 dX6_light_1 rfl rfl ?_
  refine X_cVI 2 [.int _] (e_X6_faultOfLamp _ _) dX6_light_2 lm_RX6_116 1 ⟨wm_X6_faultOfLamp, by decide +kernel, rfl, rfl⟩ rfl ⟨Nat.le_of_ble_eq_true rfl, Nat.le_of_ble_eq_true rfl⟩ lyL vc6 rfl rfl (Nat.le_of_ble_eq_true rfl) ?_
  rintro _ _ ⟨rfl, ⟨rfl, f_2⟩ | ⟨rfl, f_2⟩⟩
  · refine X_cSV 5 [.int _] (e_X6_refuseIndex _ _ (by decide)) dX6_light_5 lm_RX6_68 1 ⟨wm_X6_refuseIndex, by decide +kernel, rfl, rfl⟩ rfl ⟨Nat.le_of_ble_eq_true rfl, Nat.le_of_ble_eq_true rfl⟩ rfl (Nat.le_of_ble_eq_true rfl) ?_
    rintro _ rfl
    refine X_aload_n 8 0 dX6_light_8 rfl rfl ?_
    refine X_iload_n 9 2 dX6_light_9 rfl rfl ?_
    refine X_iload_n 10 3 dX6_light_10 rfl rfl ?_
    refine X_cVI 11 [.int _, .int _] (e_X6_faultOfPlace _ _ _) dX6_light_11 lm_RX6_144 2 ⟨wm_X6_faultOfPlace, by decide +kernel, rfl, rfl⟩ rfl ⟨Nat.le_of_ble_eq_true rfl, Nat.le_of_ble_eq_true rfl⟩ lyL vc6 rfl rfl (Nat.le_of_ble_eq_true rfl) ?_
    rintro _ _ ⟨rfl, ⟨rfl, f_11⟩ | ⟨rfl, f_11⟩⟩
    · refine X_cSV 14 [.int _] (e_X6_refuseIndex _ _ (by decide)) dX6_light_14 lm_RX6_68 1 ⟨wm_X6_refuseIndex, by decide +kernel, rfl, rfl⟩ rfl ⟨Nat.le_of_ble_eq_true rfl, Nat.le_of_ble_eq_true rfl⟩ rfl (Nat.le_of_ble_eq_true rfl) ?_
      rintro _ rfl
      refine X_aload_n 17 0 dX6_light_17 rfl rfl ?_
      refine X_getR (f := 1) 18 dX6_light_18 lf_RX6_19 iw6 vc6 (by decide) lyL rfl ?_
      refine X_aload_n 21 0 dX6_light_21 rfl rfl ?_
      refine X_getR (f := 0) 22 dX6_light_22 lf_RX6_12 iw6 vc6 (by decide) lyL rfl ?_
      refine X_cVV 25 [.ref _] (e_X5_refresh lc c r _ hc hr hlc g5 g2 g4 hv) dX6_light_25 lm_RX6_98 1 ⟨wm_X5_refresh, by decide +kernel, rfl, rfl⟩ rfl ⟨Nat.le_of_ble_eq_true rfl, Nat.le_of_ble_eq_true rfl⟩ lyV vc5 rfl rfl (Nat.le_of_ble_eq_true rfl) ?_
      rintro m hR0
      have hR : RfP μ lc c r m := hR0
      have hlcm : m 0 5 = nI lc := (rf_s hR 5 (by decide)).trans hlc
      have hmc : m 0 0 = nI c := (rf_s hR 0 (by decide)).trans hc
      have hmr : m 0 1 = nI r := (rf_s hR 1 (by decide)).trans hr
      have hN : m 93 5 = nI (c * r) := hR.1.1
      refine X_aload_n 28 0 dX6_light_28 rfl rfl ?_
      refine X_getR (f := 1) 29 dX6_light_29 lf_RX6_19 iw6 vc6 (by decide) lyL rfl ?_
      refine X_iload_n 32 1 dX6_light_32 rfl rfl ?_
      refine X_aload_n 33 0 dX6_light_33 rfl rfl ?_
      refine X_getR (f := 0) 34 dX6_light_34 lf_RX6_12 iw6 vc6 (by decide) lyL rfl ?_
      refine X_iload_n 37 2 dX6_light_37 rfl rfl ?_
      refine X_iload_n 38 3 dX6_light_38 rfl rfl ?_
      refine X_cVI 39 [.int _, .int _] (e_X4_indexOfPlace 0 (Or.inl rfl) _ _ _) dX6_light_39 lm_RX6_150 2 ⟨wm_X4_indexOfPlace, by decide +kernel, rfl, rfl⟩ rfl ⟨Nat.le_of_ble_eq_true rfl, Nat.le_of_ble_eq_true rfl⟩ (lyS 0 (Or.inl rfl)) vc4 rfl rfl (Nat.le_of_ble_eq_true rfl) ?_
      rintro _ _ ⟨rfl, rfl⟩
      rw [ptIx (m := m) (s := 0) hmc]
      refine X_cVI 42 [.int _, .int _] (e_X5_lightOf k (y * c + x) _ hk8 hix) dX6_light_42 lm_RX6_156 2 ⟨wm_X5_lightOf, by decide +kernel, rfl, rfl⟩ rfl ⟨Nat.le_of_ble_eq_true rfl, Nat.le_of_ble_eq_true rfl⟩ lyV vc5 rfl rfl (Nat.le_of_ble_eq_true rfl) ?_
      rintro _ _ ⟨rfl, rfl⟩
      refine X_iret 45 dX6_light_45 rfl rfl ⟨_, rfl, _, rfl, ?_⟩
      refine ⟨?_, hR⟩
      have hg := RfP_get hR hx hy
      unfold covB
      rw [hg.1, hg.2.2.2 k hk8]
    · exact absurd hp f_11
  · exact absurd hlp f_2
set_option maxHeartbeats 4000000 in
set_option maxRecDepth 100000 in
theorem e_X6_weight (c r lc la cn : Nat) (k x y : Nat) (μ : Mm) (hI : CIv μ c r lc la cn) (hk : k < lc) (hx : x < c) (hy : y < r) : EvN ΛC mX6_weight [.ref 109, .int (nI k), .int (nI x), .int (nI y)] μ (qI (fun v9 m => (if bitB (cvP μ 0 (zzS μ lc) (μ 0 2) (μ 0 3) x y) k = true then wgt μ 0 k (2 * (nI x + μ 0 2) + 1) (2 * (nI y + μ 0 3) + 1) else -1000) = v9 ∧ RfP μ lc c r m)) := by
  refine EvN_ofQ (by decide +kernel) rfl (fun _ => rfl) (fun _ => Nat.le_of_ble_eq_true rfl) (ls := [(0, .ref 109), (1, .int (nI k)), (2, .int (nI x)), (3, .int (nI y))]) ?_
  obtain ⟨hc, hr, hlc, hla, hcn, ⟨g1, g2, g3, g4, g5, g6, g7⟩, hv⟩ := hI
  have hcr := cr_le g2 g4
  have hlp := lpOK_nI hlc g5 hk
  have hk8 : k < 8 := by omega
  have hp := plOK_nI hc hr g2 g4 hx hy
  have hix : y * c + x < 384 := ix_lt (by omega) hx (by omega)
  refine X_aload_n 0 0 dX6_weight_0 rfl rfl ?_
  refine X_iload_n 1 1 dX6_weight_1 rfl rfl ?_
  refine X_cVI 2 [.int _] (e_X6_faultOfLamp _ _) dX6_weight_2 lm_RX6_116 1 ⟨wm_X6_faultOfLamp, by decide +kernel, rfl, rfl⟩ rfl ⟨Nat.le_of_ble_eq_true rfl, Nat.le_of_ble_eq_true rfl⟩ lyL vc6 rfl rfl (Nat.le_of_ble_eq_true rfl) ?_
  rintro _ _ ⟨rfl, ⟨rfl, f_2⟩ | ⟨rfl, f_2⟩⟩
  · refine X_cSV 5 [.int _] (e_X6_refuseIndex _ _ (by decide)) dX6_weight_5 lm_RX6_68 1 ⟨wm_X6_refuseIndex, by decide +kernel, rfl, rfl⟩ rfl ⟨Nat.le_of_ble_eq_true rfl, Nat.le_of_ble_eq_true rfl⟩ rfl (Nat.le_of_ble_eq_true rfl) ?_
    rintro _ rfl
    refine X_aload_n 8 0 dX6_weight_8 rfl rfl ?_
    refine X_iload_n 9 2 dX6_weight_9 rfl rfl ?_
    refine X_iload_n 10 3 dX6_weight_10 rfl rfl ?_
    refine X_cVI 11 [.int _, .int _] (e_X6_faultOfPlace _ _ _) dX6_weight_11 lm_RX6_144 2 ⟨wm_X6_faultOfPlace, by decide +kernel, rfl, rfl⟩ rfl ⟨Nat.le_of_ble_eq_true rfl, Nat.le_of_ble_eq_true rfl⟩ lyL vc6 rfl rfl (Nat.le_of_ble_eq_true rfl) ?_
    rintro _ _ ⟨rfl, ⟨rfl, f_11⟩ | ⟨rfl, f_11⟩⟩
    · refine X_cSV 14 [.int _] (e_X6_refuseIndex _ _ (by decide)) dX6_weight_14 lm_RX6_68 1 ⟨wm_X6_refuseIndex, by decide +kernel, rfl, rfl⟩ rfl ⟨Nat.le_of_ble_eq_true rfl, Nat.le_of_ble_eq_true rfl⟩ rfl (Nat.le_of_ble_eq_true rfl) ?_
      rintro _ rfl
      refine X_aload_n 17 0 dX6_weight_17 rfl rfl ?_
      refine X_getR (f := 1) 18 dX6_weight_18 lf_RX6_19 iw6 vc6 (by decide) lyL rfl ?_
      refine X_aload_n 21 0 dX6_weight_21 rfl rfl ?_
      refine X_getR (f := 0) 22 dX6_weight_22 lf_RX6_12 iw6 vc6 (by decide) lyL rfl ?_
      refine X_cVV 25 [.ref _] (e_X5_refresh lc c r _ hc hr hlc g5 g2 g4 hv) dX6_weight_25 lm_RX6_98 1 ⟨wm_X5_refresh, by decide +kernel, rfl, rfl⟩ rfl ⟨Nat.le_of_ble_eq_true rfl, Nat.le_of_ble_eq_true rfl⟩ lyV vc5 rfl rfl (Nat.le_of_ble_eq_true rfl) ?_
      rintro m hR0
      have hR : RfP μ lc c r m := hR0
      have hlcm : m 0 5 = nI lc := (rf_s hR 5 (by decide)).trans hlc
      have hmc : m 0 0 = nI c := (rf_s hR 0 (by decide)).trans hc
      have hmr : m 0 1 = nI r := (rf_s hR 1 (by decide)).trans hr
      have hN : m 93 5 = nI (c * r) := hR.1.1
      refine X_aload_n 28 0 dX6_weight_28 rfl rfl ?_
      refine X_getR (f := 1) 29 dX6_weight_29 lf_RX6_19 iw6 vc6 (by decide) lyL rfl ?_
      refine X_iload_n 32 1 dX6_weight_32 rfl rfl ?_
      refine X_aload_n 33 0 dX6_weight_33 rfl rfl ?_
      refine X_getR (f := 0) 34 dX6_weight_34 lf_RX6_12 iw6 vc6 (by decide) lyL rfl ?_
      refine X_iload_n 37 2 dX6_weight_37 rfl rfl ?_
      refine X_iload_n 38 3 dX6_weight_38 rfl rfl ?_
      refine X_cVI 39 [.int _, .int _] (e_X4_indexOfPlace 0 (Or.inl rfl) _ _ _) dX6_weight_39 lm_RX6_150 2 ⟨wm_X4_indexOfPlace, by decide +kernel, rfl, rfl⟩ rfl ⟨Nat.le_of_ble_eq_true rfl, Nat.le_of_ble_eq_true rfl⟩ (lyS 0 (Or.inl rfl)) vc4 rfl rfl (Nat.le_of_ble_eq_true rfl) ?_
      rintro _ _ ⟨rfl, rfl⟩
      rw [ptIx (m := m) (s := 0) hmc]
      refine X_cVI 42 [.int _, .int _] (e_X5_isCovered k (y * c + x) _ hix) dX6_weight_42 lm_RX6_159 2 ⟨wm_X5_isCovered, by decide +kernel, rfl, rfl⟩ rfl ⟨Nat.le_of_ble_eq_true rfl, Nat.le_of_ble_eq_true rfl⟩ lyV vc5 rfl rfl (Nat.le_of_ble_eq_true rfl) ?_
      rintro _ _ ⟨rfl, ⟨rfl, b_42⟩ | ⟨rfl, b_42⟩⟩
      · unfold covB at b_42
        rw [(RfP_get hR hx hy).1] at b_42
        refine X_if_ne 45 52 dX6_weight_45 (by decide) (fun _ => ?_) (fun c_0 => by exact absurd c_0 (by decide))
        refine X_aload_n 52 0 dX6_weight_52 rfl rfl ?_
        refine X_getR (f := 0) 53 dX6_weight_53 lf_RX6_12 iw6 vc6 (by decide) lyL rfl ?_
        refine X_iload_n 56 1 dX6_weight_56 rfl rfl ?_
        refine X_iload_n 57 2 dX6_weight_57 rfl rfl ?_
        refine X_aload_n 58 0 dX6_weight_58 rfl rfl ?_
        refine X_getR (f := 0) 59 dX6_weight_59 lf_RX6_12 iw6 vc6 (by decide) lyL rfl ?_
        refine X_getI (f := 2) 62 dX6_weight_62 lf_RX6_163 iw4 vc4 (by decide) (lyS 0 (Or.inl rfl)) rfl ?_
        refine X_cSI 65 [.int _, .int _] (e_X6_pointOf _ _ _) dX6_weight_65 lm_RX6_167 2 ⟨wm_X6_pointOf, by decide +kernel, rfl, rfl⟩ rfl ⟨Nat.le_of_ble_eq_true rfl, Nat.le_of_ble_eq_true rfl⟩ rfl (Nat.le_of_ble_eq_true rfl) ?_
        rintro _ _ ⟨rfl, rfl⟩
        refine X_iload_n 68 3 dX6_weight_68 rfl rfl ?_
        refine X_aload_n 69 0 dX6_weight_69 rfl rfl ?_
        refine X_getR (f := 0) 70 dX6_weight_70 lf_RX6_12 iw6 vc6 (by decide) lyL rfl ?_
        refine X_getI (f := 3) 73 dX6_weight_73 lf_RX6_170 iw4 vc4 (by decide) (lyS 0 (Or.inl rfl)) rfl ?_
        refine X_cSI 76 [.int _, .int _] (e_X6_pointOf _ _ _) dX6_weight_76 lm_RX6_167 2 ⟨wm_X6_pointOf, by decide +kernel, rfl, rfl⟩ rfl ⟨Nat.le_of_ble_eq_true rfl, Nat.le_of_ble_eq_true rfl⟩ rfl (Nat.le_of_ble_eq_true rfl) ?_
        rintro _ _ ⟨rfl, rfl⟩
        refine X_cVI 79 [.int _, .int _, .int _] (e_X4_weightAt 0 (Or.inl rfl) k _ _ _ hk8) dX6_weight_79 lm_RX6_173 3 ⟨wm_X4_weightAt, by decide +kernel, rfl, rfl⟩ rfl ⟨Nat.le_of_ble_eq_true rfl, Nat.le_of_ble_eq_true rfl⟩ (lyS 0 (Or.inl rfl)) vc4 rfl rfl (Nat.le_of_ble_eq_true rfl) ?_
        rintro _ _ ⟨rfl, rfl⟩
        refine X_iret 82 dX6_weight_82 rfl rfl ⟨_, rfl, _, rfl, ?_⟩
        refine ⟨?_, hR⟩
        rw [if_pos b_42, wgt_sc (scE_rf hR.2.2), rf_s hR 2 (by decide), rf_s hR 3 (by decide)]
      · unfold covB at b_42
        rw [(RfP_get hR hx hy).1] at b_42
        refine X_if_ne 45 52 dX6_weight_45 (by decide) (fun c_0 => by exact absurd c_0 (by decide)) (fun _ => ?_)
        refine X_sipush 48 (-1000) dX6_weight_48 (by decide) ?_
        refine X_iret 51 dX6_weight_51 rfl rfl ⟨_, rfl, _, rfl, ?_⟩
        exact ⟨if_neg b_42, hR⟩
    · exact absurd hp f_11
  · exact absurd hlp f_2
set_option maxHeartbeats 4000000 in
set_option maxRecDepth 100000 in
theorem e_X6_lamp (c r lc la cn : Nat) (k w : Nat) (μ : Mm) (hI : CIv μ c r lc la cn) (hk : k < lc) (hw : w ≤ 11) : EvN ΛC mX6_lamp [.ref 109, .int (nI k), .int (nI w)] μ (qI (fun v9 m => lvV μ lc c r k w = v9 ∧ RfP μ lc c r m)) := by
  refine EvN_ofQ (by decide +kernel) rfl (fun _ => rfl) (fun _ => Nat.le_of_ble_eq_true rfl) (ls := [(0, .ref 109), (1, .int (nI k)), (2, .int (nI w))]) ?_
  obtain ⟨hc, hr, hlc, hla, hcn, ⟨g1, g2, g3, g4, g5, g6, g7⟩, hv⟩ := hI
  have hcr := cr_le g2 g4
  have hlp := lpOK_nI hlc g5 hk
  have hk8 : k < 8 := by omega
  have hw5 : rgI (nI w) 0 11 := rg_nI (n := 11) rfl (by decide) hw
  refine X_aload_n 0 0 dX6_lamp_0 rfl rfl ?_
  refine X_iload_n 1 1 dX6_lamp_1 rfl rfl ?_
  refine X_cVI 2 [.int _] (e_X6_faultOfLamp _ _) dX6_lamp_2 lm_RX6_116 1 ⟨wm_X6_faultOfLamp, by decide +kernel, rfl, rfl⟩ rfl ⟨Nat.le_of_ble_eq_true rfl, Nat.le_of_ble_eq_true rfl⟩ lyL vc6 rfl rfl (Nat.le_of_ble_eq_true rfl) ?_
  rintro _ _ ⟨rfl, ⟨rfl, f_2⟩ | ⟨rfl, f_2⟩⟩
  · refine X_cSV 5 [.int _] (e_X6_refuseIndex _ _ (by decide)) dX6_lamp_5 lm_RX6_68 1 ⟨wm_X6_refuseIndex, by decide +kernel, rfl, rfl⟩ rfl ⟨Nat.le_of_ble_eq_true rfl, Nat.le_of_ble_eq_true rfl⟩ rfl (Nat.le_of_ble_eq_true rfl) ?_
    rintro _ rfl
    refine X_iload_n 8 2 dX6_lamp_8 rfl rfl ?_
    refine X_iconst 9 (0) dX6_lamp_9 (by decide) ?_
    refine X_bipush 10 (11) dX6_lamp_10 (by decide) ?_
    refine X_cSI 12 [.int _, .int _, .int _] (e_X6_faultOfRange _ _ _ _) dX6_lamp_12 lm_RX6_147 3 ⟨wm_X6_faultOfRange, by decide +kernel, rfl, rfl⟩ rfl ⟨Nat.le_of_ble_eq_true rfl, Nat.le_of_ble_eq_true rfl⟩ rfl (Nat.le_of_ble_eq_true rfl) ?_
    rintro _ _ ⟨rfl, ⟨rfl, f_12⟩ | ⟨rfl, f_12⟩⟩
    · refine X_cSV 15 [.int _] (e_X6_refuseArgument _ _ (by decide)) dX6_lamp_15 lm_RX6_48 1 ⟨wm_X6_refuseArgument, by decide +kernel, rfl, rfl⟩ rfl ⟨Nat.le_of_ble_eq_true rfl, Nat.le_of_ble_eq_true rfl⟩ rfl (Nat.le_of_ble_eq_true rfl) ?_
      rintro _ rfl
      refine X_aload_n 18 0 dX6_lamp_18 rfl rfl ?_
      refine X_iload_n 19 1 dX6_lamp_19 rfl rfl ?_
      refine X_iload_n 20 2 dX6_lamp_20 rfl rfl ?_
      refine X_cVI 21 [.int _, .int _] (e_X6_lampValue c r lc la cn k w _ ⟨hc, hr, hlc, hla, hcn, ⟨g1, g2, g3, g4, g5, g6, g7⟩, hv⟩ hk hw) dX6_lamp_21 lm_RX6_109 2 ⟨wm_X6_lampValue, by decide +kernel, rfl, rfl⟩ rfl ⟨Nat.le_of_ble_eq_true rfl, Nat.le_of_ble_eq_true rfl⟩ lyL vc6 rfl rfl (Nat.le_of_ble_eq_true rfl) ?_
      rintro _ m ⟨rfl, hR⟩
      refine X_iret 24 dX6_lamp_24 rfl rfl ⟨_, rfl, _, rfl, ?_⟩
      exact ⟨rfl, hR⟩
    · exact absurd hw5 f_12
  · exact absurd hlp f_2
set_option maxHeartbeats 4000000 in
set_option maxRecDepth 100000 in
theorem e_X6_corner (c r lc la cn : Nat) (k i a : Nat) (μ : Mm) (hI : CIv μ c r lc la cn) (hk : k < lc) (hi : i < 4) (ha : a < 2) : EvN ΛC mX6_corner [.ref 109, .int (nI k), .int (nI i), .int (nI a)] μ (qI (fun v9 m9 => (if a = 0 then μ 13 (4 * k + i) else μ 14 (4 * k + i)) = v9 ∧ μ = m9)) := by
  refine EvN_ofQ (by decide +kernel) rfl (fun _ => rfl) (fun _ => Nat.le_of_ble_eq_true rfl) (ls := [(0, .ref 109), (1, .int (nI k)), (2, .int (nI i)), (3, .int (nI a))]) ?_
  obtain ⟨hc, hr, hlc, hla, hcn, ⟨g1, g2, g3, g4, g5, g6, g7⟩, hv⟩ := hI
  have hcr := cr_le g2 g4
  have hlp := lpOK_nI hlc g5 hk
  have hk8 : k < 8 := by omega
  have hi3 : rgI (nI i) 0 3 := rg_nI (n := 3) rfl (by decide) (by omega)
  have ha1 : rgI (nI a) 0 1 := rg_nI (n := 1) rfl (by decide) (by omega)
  refine X_aload_n 0 0 dX6_corner_0 rfl rfl ?_
  refine X_iload_n 1 1 dX6_corner_1 rfl rfl ?_
  refine X_cVI 2 [.int _] (e_X6_faultOfLamp _ _) dX6_corner_2 lm_RX6_116 1 ⟨wm_X6_faultOfLamp, by decide +kernel, rfl, rfl⟩ rfl ⟨Nat.le_of_ble_eq_true rfl, Nat.le_of_ble_eq_true rfl⟩ lyL vc6 rfl rfl (Nat.le_of_ble_eq_true rfl) ?_
  rintro _ _ ⟨rfl, ⟨rfl, f_2⟩ | ⟨rfl, f_2⟩⟩
  · refine X_cSV 5 [.int _] (e_X6_refuseIndex _ _ (by decide)) dX6_corner_5 lm_RX6_68 1 ⟨wm_X6_refuseIndex, by decide +kernel, rfl, rfl⟩ rfl ⟨Nat.le_of_ble_eq_true rfl, Nat.le_of_ble_eq_true rfl⟩ rfl (Nat.le_of_ble_eq_true rfl) ?_
    rintro _ rfl
    refine X_iload_n 8 2 dX6_corner_8 rfl rfl ?_
    refine X_iconst 9 (0) dX6_corner_9 (by decide) ?_
    refine X_iconst 10 (3) dX6_corner_10 (by decide) ?_
    refine X_cSI 11 [.int _, .int _, .int _] (e_X6_within _ _ _ _) dX6_corner_11 lm_RX6_176 3 ⟨wm_X6_within, by decide +kernel, rfl, rfl⟩ rfl ⟨Nat.le_of_ble_eq_true rfl, Nat.le_of_ble_eq_true rfl⟩ rfl (Nat.le_of_ble_eq_true rfl) ?_
    rintro _ _ ⟨rfl, ⟨rfl, b_11⟩ | ⟨rfl, b_11⟩⟩
    · refine X_if_eq 14 21 dX6_corner_14 (by decide) (fun c_0 => by exact absurd c_0 (by decide)) (fun _ => ?_)
      refine X_iconst 17 (0) dX6_corner_17 (by decide) ?_
      refine X_goto 18 22 dX6_corner_18 (by decide) ?_
      refine X_cSV 22 [.int _] (e_X6_refuseIndex _ _ (by decide)) dX6_corner_22 lm_RX6_68 1 ⟨wm_X6_refuseIndex, by decide +kernel, rfl, rfl⟩ rfl ⟨Nat.le_of_ble_eq_true rfl, Nat.le_of_ble_eq_true rfl⟩ rfl (Nat.le_of_ble_eq_true rfl) ?_
      rintro _ rfl
      refine X_iload_n 25 3 dX6_corner_25 rfl rfl ?_
      refine X_iconst 26 (0) dX6_corner_26 (by decide) ?_
      refine X_iconst 27 (1) dX6_corner_27 (by decide) ?_
      refine X_cSI 28 [.int _, .int _, .int _] (e_X6_faultOfRange _ _ _ _) dX6_corner_28 lm_RX6_147 3 ⟨wm_X6_faultOfRange, by decide +kernel, rfl, rfl⟩ rfl ⟨Nat.le_of_ble_eq_true rfl, Nat.le_of_ble_eq_true rfl⟩ rfl (Nat.le_of_ble_eq_true rfl) ?_
      rintro _ _ ⟨rfl, ⟨rfl, f_28⟩ | ⟨rfl, f_28⟩⟩
      · refine X_cSV 31 [.int _] (e_X6_refuseArgument _ _ (by decide)) dX6_corner_31 lm_RX6_48 1 ⟨wm_X6_refuseArgument, by decide +kernel, rfl, rfl⟩ rfl ⟨Nat.le_of_ble_eq_true rfl, Nat.le_of_ble_eq_true rfl⟩ rfl (Nat.le_of_ble_eq_true rfl) ?_
        rintro _ rfl
        refine X_aload_n 34 0 dX6_corner_34 rfl rfl ?_
        refine X_getR (f := 0) 35 dX6_corner_35 lf_RX6_12 iw6 vc6 (by decide) lyL rfl ?_
        refine X_iload_n 38 1 dX6_corner_38 rfl rfl ?_
        refine X_iload_n 39 2 dX6_corner_39 rfl rfl ?_
        refine X_iload_n 40 3 dX6_corner_40 rfl rfl ?_
        refine X_cVI 41 [.int _, .int _, .int _] (e_X4_cornerValue 0 (Or.inl rfl) k i _ _ hk8 hi) dX6_corner_41 lm_RX6_180 3 ⟨wm_X4_cornerValue, by decide +kernel, rfl, rfl⟩ rfl ⟨Nat.le_of_ble_eq_true rfl, Nat.le_of_ble_eq_true rfl⟩ (lyS 0 (Or.inl rfl)) vc4 rfl rfl (Nat.le_of_ble_eq_true rfl) ?_
        rintro _ _ ⟨rfl, rfl⟩
        refine X_iret 44 dX6_corner_44 rfl rfl ⟨_, rfl, _, rfl, ?_⟩
        refine ⟨?_, rfl⟩
        rcases (show a = 0 ∨ a = 1 by omega) with rfl | rfl
        · rfl
        · rfl
      · exact absurd ha1 f_28
    · exact absurd hi3 b_11
  · exact absurd hlp f_2
set_option maxHeartbeats 4000000 in
set_option maxRecDepth 100000 in
theorem e_X6_whole (c r lc la cn : Nat) (w : Nat) (μ : Mm) (hI : CIv μ c r lc la cn) (hw : w ≤ 14) : EvN ΛC mX6_whole [.ref 109, .int (nI w)] μ (qI (fun v9 m => whV μ lc c r (μ 102 2) w = v9 ∧ RfP μ lc c r m)) := by
  refine EvN_ofQ (by decide +kernel) rfl (fun _ => rfl) (fun _ => Nat.le_of_ble_eq_true rfl) (ls := [(0, .ref 109), (1, .int (nI w))]) ?_
  obtain ⟨hc, hr, hlc, hla, hcn, ⟨g1, g2, g3, g4, g5, g6, g7⟩, hv⟩ := hI
  have hcr := cr_le g2 g4
  have hw5 : rgI (nI w) 0 14 := rg_nI (n := 14) rfl (by decide) hw
  refine X_iload_n 0 1 dX6_whole_0 rfl rfl ?_
  refine X_iconst 1 (0) dX6_whole_1 (by decide) ?_
  refine X_bipush 2 (14) dX6_whole_2 (by decide) ?_
  refine X_cSI 4 [.int _, .int _, .int _] (e_X6_faultOfRange _ _ _ _) dX6_whole_4 lm_RX6_147 3 ⟨wm_X6_faultOfRange, by decide +kernel, rfl, rfl⟩ rfl ⟨Nat.le_of_ble_eq_true rfl, Nat.le_of_ble_eq_true rfl⟩ rfl (Nat.le_of_ble_eq_true rfl) ?_
  rintro _ _ ⟨rfl, ⟨rfl, f_4⟩ | ⟨rfl, f_4⟩⟩
  · refine X_cSV 7 [.int _] (e_X6_refuseArgument _ _ (by decide)) dX6_whole_7 lm_RX6_48 1 ⟨wm_X6_refuseArgument, by decide +kernel, rfl, rfl⟩ rfl ⟨Nat.le_of_ble_eq_true rfl, Nat.le_of_ble_eq_true rfl⟩ rfl (Nat.le_of_ble_eq_true rfl) ?_
    rintro _ rfl
    refine X_aload_n 10 0 dX6_whole_10 rfl rfl ?_
    refine X_iload_n 11 1 dX6_whole_11 rfl rfl ?_
    refine X_cVI 12 [.int _] (e_X6_wholeValue c r lc la cn w _ ⟨hc, hr, hlc, hla, hcn, ⟨g1, g2, g3, g4, g5, g6, g7⟩, hv⟩ hw) dX6_whole_12 lm_RX6_183 1 ⟨wm_X6_wholeValue, by decide +kernel, rfl, rfl⟩ rfl ⟨Nat.le_of_ble_eq_true rfl, Nat.le_of_ble_eq_true rfl⟩ lyL vc6 rfl rfl (Nat.le_of_ble_eq_true rfl) ?_
    rintro _ m ⟨rfl, hR⟩
    refine X_iret 15 dX6_whole_15 rfl rfl ⟨_, rfl, _, rfl, ?_⟩
    exact ⟨rfl, hR⟩
  · exact absurd hw5 f_4
set_option maxHeartbeats 4000000 in
set_option maxRecDepth 100000 in
theorem e_X6_wrong (c r lc la cn : Nat) (idx : Int32) (μ : Mm) (hI : CIv μ c r lc la cn) (hx : ¬ idx < 0) : EvN ΛC mX6_wrong [.ref 109, .int idx] μ (qI (fun v9 m => wrV μ lc c r idx = v9 ∧ RfP μ lc c r m)) := by
  refine EvN_ofQ (by decide +kernel) rfl (fun _ => rfl) (fun _ => Nat.le_of_ble_eq_true rfl) (ls := [(0, .ref 109), (1, .int idx)]) ?_
  obtain ⟨hc, hr, hlc, hla, hcn, ⟨g1, g2, g3, g4, g5, g6, g7⟩, hv⟩ := hI
  have hcr := cr_le g2 g4
  refine X_iload_n 0 1 dX6_wrong_0 rfl rfl ?_
  refine X_if_lt 1 8 dX6_wrong_1 (by decide) (fun c_1 => ?_) (fun c_1 => ?_)
  · exact absurd c_1 hx
  · refine X_iconst 4 (0) dX6_wrong_4 (by decide) ?_
    refine X_goto 5 9 dX6_wrong_5 (by decide) ?_
    refine X_cSV 9 [.int _] (e_X6_refuseArgument _ _ (by decide)) dX6_wrong_9 lm_RX6_48 1 ⟨wm_X6_refuseArgument, by decide +kernel, rfl, rfl⟩ rfl ⟨Nat.le_of_ble_eq_true rfl, Nat.le_of_ble_eq_true rfl⟩ rfl (Nat.le_of_ble_eq_true rfl) ?_
    rintro _ rfl
    refine X_aload_n 12 0 dX6_wrong_12 rfl rfl ?_
    refine X_getR (f := 1) 13 dX6_wrong_13 lf_RX6_19 iw6 vc6 (by decide) lyL rfl ?_
    refine X_aload_n 16 0 dX6_wrong_16 rfl rfl ?_
    refine X_getR (f := 0) 17 dX6_wrong_17 lf_RX6_12 iw6 vc6 (by decide) lyL rfl ?_
    refine X_cVV 20 [.ref _] (e_X5_refresh lc c r _ hc hr hlc g5 g2 g4 hv) dX6_wrong_20 lm_RX6_98 1 ⟨wm_X5_refresh, by decide +kernel, rfl, rfl⟩ rfl ⟨Nat.le_of_ble_eq_true rfl, Nat.le_of_ble_eq_true rfl⟩ lyV vc5 rfl rfl (Nat.le_of_ble_eq_true rfl) ?_
    rintro m hR0
    have hR : RfP μ lc c r m := hR0
    have hlcm : m 0 5 = nI lc := (rf_s hR 5 (by decide)).trans hlc
    have hmc : m 0 0 = nI c := (rf_s hR 0 (by decide)).trans hc
    have hmr : m 0 1 = nI r := (rf_s hR 1 (by decide)).trans hr
    have hN : m 93 5 = nI (c * r) := hR.1.1
    refine X_iload_n 23 1 dX6_wrong_23 rfl rfl ?_
    refine X_istore_n 24 [(2, .int _), (0, .ref _), (1, .int _)] dX6_wrong_24 rfl (by decide) rfl ?_
    refine X_iconst 25 (0) dX6_wrong_25 (by decide) ?_
    refine X_istore_n 26 [(3, .int _), (2, .int _), (0, .ref _), (1, .int _)] dX6_wrong_26 rfl (by decide) rfl ?_
    refine X_sub [2, 3, 1, 0] [(0, .ref _), (1, .int _), (2, .int _), (3, .int _)] rfl ?_
    have L_27 : ∀ (kf : Nat) (y : Nat), y ≤ r → r < y + kf → fnd μ lc c idx (y * c) = none → ∀ (x27_2 : Int32) (x27_3 : Int32), lfN μ lc c idx (y * c) = x27_2 → nI y = x27_3 → X false ΛC mX6_wrong (QN (qI (fun v9 m => wrV μ lc c r idx = v9 ∧ RfP μ lc c r m))) 27 [(0, .ref 109), (1, .int idx), (2, .int x27_2), (3, .int x27_3)] [] m := by
      intro kf
      induction kf with
      | zero => intro y hp27_0 hp27_1 hp27_2; exfalso; omega
      | succ kf ih_27 =>
        intro y hp27_0 hp27_1 hp27_2 x27_2 x27_3
        rintro rfl rfl
        refine X_iload_n 27 3 dX6_wrong_27 rfl rfl ?_
        refine X_aload_n 28 0 dX6_wrong_28 rfl rfl ?_
        refine X_getR (f := 0) 29 dX6_wrong_29 lf_RX6_12 iw6 vc6 (by decide) lyL rfl ?_
        refine X_getI (f := 1) 32 dX6_wrong_32 lf_RX6_186 iw4 vc4 (by decide) (lyS 0 (Or.inl rfl)) rfl ?_
        refine X_icmp_ge 35 100 dX6_wrong_35 (by decide) (fun c_35 => ?_) (fun c_35 => ?_)
        · have hge : r ≤ y := c_ge hmr (by omega) (by omega) c_35
          have hie : r = y := by omega
          subst hie
          refine X_sipush 100 (-1000) dX6_wrong_100 (by decide) ?_
          refine X_iret 103 dX6_wrong_103 rfl rfl ⟨_, rfl, _, rfl, ?_⟩
          refine ⟨?_, hR⟩
          unfold wrV
          rw [Nat.mul_comm, hp27_2]
        · have hlt : y < r := c_lt hmr (by omega) (by omega) c_35
          refine X_iconst 38 (0) dX6_wrong_38 (by decide) ?_
          refine X_istore 39 [(4, .int _), (0, .ref _), (1, .int _), (2, .int _), (3, .int _)] dX6_wrong_39 (by decide) rfl ?_
          refine X_sub [1, 2, 3, 4, 0] [(0, .ref _), (1, .int _), (2, .int _), (3, .int _), (4, .int _)] rfl ?_
          have L_41 : ∀ (kf : Nat) (x : Nat), x ≤ c → c < x + kf → fnd μ lc c idx (y * c + x) = none → ∀ (x41_2 : Int32) (x41_4 : Int32), lfN μ lc c idx (y * c + x) = x41_2 → nI x = x41_4 → X false ΛC mX6_wrong (QN (qI (fun v9 m => wrV μ lc c r idx = v9 ∧ RfP μ lc c r m))) 41 [(0, .ref 109), (1, .int idx), (2, .int x41_2), (3, .int (nI y)), (4, .int x41_4)] [] m := by
            intro kf
            induction kf with
            | zero => intro x hp41_0 hp41_1 hp41_2; exfalso; omega
            | succ kf ih_41 =>
              intro x hp41_0 hp41_1 hp41_2 x41_2 x41_4
              rintro rfl rfl
              refine X_iload 41 4 dX6_wrong_41 rfl ?_
              refine X_aload_n 43 0 dX6_wrong_43 rfl rfl ?_
              refine X_getR (f := 0) 44 dX6_wrong_44 lf_RX6_12 iw6 vc6 (by decide) lyL rfl ?_
              refine X_getI (f := 0) 47 dX6_wrong_47 lf_RX6_189 iw4 vc4 (by decide) (lyS 0 (Or.inl rfl)) rfl ?_
              refine X_icmp_ge 50 94 dX6_wrong_50 (by decide) (fun c_50 => ?_) (fun c_50 => ?_)
              · have hge : c ≤ x := c_ge hmc (by omega) (by omega) c_50
                have hie : c = x := by omega
                subst hie
                refine X_iinc 94 3 (_ + 1) [(3, .int _), (0, .ref _), (1, .int _), (2, .int _), (4, .int _)] dX6_wrong_94 rfl rfl (by decide) rfl ?_
                refine X_goto 97 27 dX6_wrong_97 (by decide) ?_
                refine X_sub [1, 2, 3, 0] [(0, .ref _), (1, .int _), (2, .int _), (3, .int _)] rfl ?_
                exact ih_27 (y + 1) (by omega) (by omega) (by rw [Nat.succ_mul]; exact hp41_2) _ _  (by rw [Nat.succ_mul]) (by exact (nI_1 y).symm)
              · have hlx : x < c := c_lt hmc (by omega) (by omega) c_50
                have hix : y * c + x < 384 := ix_lt (by omega) hlx (by omega)
                refine X_aload_n 53 0 dX6_wrong_53 rfl rfl ?_
                refine X_getR (f := 1) 54 dX6_wrong_54 lf_RX6_19 iw6 vc6 (by decide) lyL rfl ?_
                refine X_aload_n 57 0 dX6_wrong_57 rfl rfl ?_
                refine X_getR (f := 0) 58 dX6_wrong_58 lf_RX6_12 iw6 vc6 (by decide) lyL rfl ?_
                refine X_iload 61 4 dX6_wrong_61 rfl ?_
                refine X_iload_n 63 3 dX6_wrong_63 rfl rfl ?_
                refine X_cVI 64 [.int _, .int _] (e_X4_indexOfPlace 0 (Or.inl rfl) _ _ _) dX6_wrong_64 lm_RX6_150 2 ⟨wm_X4_indexOfPlace, by decide +kernel, rfl, rfl⟩ rfl ⟨Nat.le_of_ble_eq_true rfl, Nat.le_of_ble_eq_true rfl⟩ (lyS 0 (Or.inl rfl)) vc4 rfl rfl (Nat.le_of_ble_eq_true rfl) ?_
                rintro _ _ ⟨rfl, rfl⟩
                rw [ptIx (m := m) (s := 0) hmc]
                refine X_cVI 67 [.int _] (e_X5_stateAt (y * c + x) _ hix) dX6_wrong_67 lm_RX6_192 1 ⟨wm_X5_stateAt, by decide +kernel, rfl, rfl⟩ rfl ⟨Nat.le_of_ble_eq_true rfl, Nat.le_of_ble_eq_true rfl⟩ lyV vc5 rfl rfl (Nat.le_of_ble_eq_true rfl) ?_
                rintro _ _ ⟨rfl, rfl⟩
                rw [(RfP_get hR hlx hlt).2.2.1, ← stJ_xy (lc := lc) hlx]
                refine X_if_eq 70 88 dX6_wrong_70 (by decide) (fun c_70 => ?_) (fun c_70 => ?_)
                · refine X_iinc 88 4 (_ + 1) [(4, .int _), (0, .ref _), (1, .int _), (2, .int _), (3, .int _)] dX6_wrong_88 rfl rfl (by decide) rfl ?_
                  refine X_goto 91 41 dX6_wrong_91 (by decide) ?_
                  refine X_sub [1, 2, 3, 4, 0] [(0, .ref _), (1, .int _), (2, .int _), (3, .int _), (4, .int _)] rfl ?_
                  exact ih_41 (x + 1) (by omega) (by omega) (fnd_next hp41_2 (by first | exact Or.inl c_70 | exact Or.inr c_74)) _ _  (by (first | exact if_pos c_70 | exact if_neg c_70)) (by exact (nI_1 x).symm)
                · refine X_iload_n 73 2 dX6_wrong_73 rfl rfl ?_
                  refine X_if_ne 74 85 dX6_wrong_74 (by decide) (fun c_74 => ?_) (fun c_74 => ?_)
                  · refine X_iinc 85 2 (_ + (-1)) [(2, .int _), (0, .ref _), (1, .int _), (3, .int _), (4, .int _)] dX6_wrong_85 rfl rfl (by decide) rfl ?_
                    refine X_iinc 88 4 (_ + 1) [(4, .int _), (2, .int _), (0, .ref _), (1, .int _), (3, .int _)] dX6_wrong_88 rfl rfl (by decide) rfl ?_
                    refine X_goto 91 41 dX6_wrong_91 (by decide) ?_
                    refine X_sub [2, 3, 1, 4, 0] [(0, .ref _), (1, .int _), (2, .int _), (3, .int _), (4, .int _)] rfl ?_
                    exact ih_41 (x + 1) (by omega) (by omega) (fnd_next hp41_2 (by first | exact Or.inl c_70 | exact Or.inr c_74)) _ _  (by (first | exact if_pos c_70 | exact if_neg c_70)) (by exact (nI_1 x).symm)
                  · refine X_bipush 77 (100) dX6_wrong_77 (by decide) ?_
                    refine X_iload_n 79 3 dX6_wrong_79 rfl rfl ?_
                    refine X_imul 80 dX6_wrong_80 ?_
                    refine X_iload 81 4 dX6_wrong_81 rfl ?_
                    refine X_iadd 83 dX6_wrong_83 ?_
                    refine X_iret 84 dX6_wrong_84 rfl rfl ⟨_, rfl, _, rfl, ?_⟩
                    refine ⟨fnd_here hlx hlt hp41_2 c_70 c_74, hR⟩
          exact L_41 (c + 1) 0 (by omega) (by omega) hp27_2 _ _  (by rfl) (by exact nI_0)
    exact L_27 (r + 1) 0 (by omega) (by omega) (by rw [Nat.zero_mul]; rfl) _ _  (by rw [Nat.zero_mul]; rfl) (by exact nI_0)
set_option maxHeartbeats 4000000 in
set_option maxRecDepth 100000 in
theorem e_X6_wrongWithout (c r lc la cn : Nat) (k : Nat) (μ : Mm) (hI : CIv μ c r lc la cn) (hk : k < lc) : EvN ΛC mX6_wrongWithout [.ref 109, .int (nI k)] μ (qI (fun v9 m => wrgV μ lc c k r = v9 ∧ sameOut 84 93 μ m)) := by
  refine EvN_ofQ (by decide +kernel) rfl (fun _ => rfl) (fun _ => Nat.le_of_ble_eq_true rfl) (ls := [(0, .ref 109), (1, .int (nI k))]) ?_
  obtain ⟨hc, hr, hlc, hla, hcn, ⟨g1, g2, g3, g4, g5, g6, g7⟩, hv⟩ := hI
  have hcr := cr_le g2 g4
  have hlp := lpOK_nI hlc g5 hk
  have hk8 : k < 8 := by omega
  refine X_aload_n 0 0 dX6_wrongWithout_0 rfl rfl ?_
  refine X_iload_n 1 1 dX6_wrongWithout_1 rfl rfl ?_
  refine X_cVI 2 [.int _] (e_X6_faultOfLamp _ _) dX6_wrongWithout_2 lm_RX6_116 1 ⟨wm_X6_faultOfLamp, by decide +kernel, rfl, rfl⟩ rfl ⟨Nat.le_of_ble_eq_true rfl, Nat.le_of_ble_eq_true rfl⟩ lyL vc6 rfl rfl (Nat.le_of_ble_eq_true rfl) ?_
  rintro _ _ ⟨rfl, ⟨rfl, f_2⟩ | ⟨rfl, f_2⟩⟩
  · refine X_cSV 5 [.int _] (e_X6_refuseIndex _ _ (by decide)) dX6_wrongWithout_5 lm_RX6_68 1 ⟨wm_X6_refuseIndex, by decide +kernel, rfl, rfl⟩ rfl ⟨Nat.le_of_ble_eq_true rfl, Nat.le_of_ble_eq_true rfl⟩ rfl (Nat.le_of_ble_eq_true rfl) ?_
    rintro _ rfl
    refine X_aload_n 8 0 dX6_wrongWithout_8 rfl rfl ?_
    refine X_iload_n 9 1 dX6_wrongWithout_9 rfl rfl ?_
    refine X_cVI 10 [.int _] (e_X6_wrongIfFailed c r lc la cn k _ ⟨hc, hr, hlc, hla, hcn, ⟨g1, g2, g3, g4, g5, g6, g7⟩, hv⟩) dX6_wrongWithout_10 lm_RX6_195 1 ⟨wm_X6_wrongIfFailed, by decide +kernel, rfl, rfl⟩ rfl ⟨Nat.le_of_ble_eq_true rfl, Nat.le_of_ble_eq_true rfl⟩ lyL vc6 rfl rfl (Nat.le_of_ble_eq_true rfl) ?_
    rintro _ m ⟨rfl, hso⟩
    refine X_iret 13 dX6_wrongWithout_13 rfl rfl ⟨_, rfl, _, rfl, ?_⟩
    exact ⟨rfl, hso⟩
  · exact absurd hlp f_2
set_option maxHeartbeats 4000000 in
set_option maxRecDepth 100000 in
theorem e_X6_dearestLamp (c r lc la cn : Nat)  (μ : Mm) (hI : CIv μ c r lc la cn)  : EvN ΛC mX6_dearestLamp [.ref 109] μ (qI (fun v9 m => (dlN μ lc c r lc).2 = v9 ∧ sameOut 84 93 μ m)) := by
  refine EvN_ofQ (by decide +kernel) rfl (fun _ => rfl) (fun _ => Nat.le_of_ble_eq_true rfl) (ls := [(0, .ref 109)]) ?_
  obtain ⟨hc, hr, hlc, hla, hcn, ⟨g1, g2, g3, g4, g5, g6, g7⟩, hv⟩ := hI
  have hcr := cr_le g2 g4
  refine X_sipush 0 (-1000) dX6_dearestLamp_0 (by decide) ?_
  refine X_istore_n 3 [(1, .int _), (0, .ref _)] dX6_dearestLamp_3 rfl (by decide) rfl ?_
  refine X_iconst 4 (-1) dX6_dearestLamp_4 (by decide) ?_
  refine X_istore_n 5 [(2, .int _), (1, .int _), (0, .ref _)] dX6_dearestLamp_5 rfl (by decide) rfl ?_
  refine X_iconst 6 (0) dX6_dearestLamp_6 (by decide) ?_
  refine X_istore_n 7 [(3, .int _), (2, .int _), (1, .int _), (0, .ref _)] dX6_dearestLamp_7 rfl (by decide) rfl ?_
  refine X_sub [3, 2, 1, 0] [(0, .ref _), (1, .int _), (2, .int _), (3, .int _)] rfl ?_
  have L_8 : ∀ (kf : Nat) (i : Nat) (m : Mm), i ≤ lc → lc < i + kf → sameOut 84 93 μ m → ∀ (x8_1 : Int32) (x8_2 : Int32) (x8_3 : Int32), (dlN μ lc c r i).2 = x8_1 → (dlN μ lc c r i).1 = x8_2 → nI i = x8_3 → X false ΛC mX6_dearestLamp (QN (qI (fun v9 m => (dlN μ lc c r lc).2 = v9 ∧ sameOut 84 93 μ m))) 8 [(0, .ref 109), (1, .int x8_1), (2, .int x8_2), (3, .int x8_3)] [] m := by
    intro kf
    induction kf with
    | zero => intro i m hp8_0 hp8_1 hp8_2; exfalso; omega
    | succ kf ih_8 =>
      intro i m hp8_0 hp8_1 hp8_2 x8_1 x8_2 x8_3
      rintro rfl rfl rfl
      have hml : m 0 5 = nI lc := (hp8_2 0 5 (by omega)).trans hlc
      have hIm := CIv_so (show CIv μ c r lc la cn from ⟨hc, hr, hlc, hla, hcn, ⟨g1, g2, g3, g4, g5, g6, g7⟩, hv⟩) hp8_2
      refine X_iload_n 8 3 dX6_dearestLamp_8 rfl rfl ?_
      refine X_aload_n 9 0 dX6_dearestLamp_9 rfl rfl ?_
      refine X_getR (f := 0) 10 dX6_dearestLamp_10 lf_RX6_12 iw6 vc6 (by decide) lyL rfl ?_
      refine X_getI (f := 5) 13 dX6_dearestLamp_13 lf_RX6_198 iw4 vc4 (by decide) (lyS 0 (Or.inl rfl)) rfl ?_
      refine X_icmp_ge 16 43 dX6_dearestLamp_16 (by decide) (fun c_16 => ?_) (fun c_16 => ?_)
      · have hge : lc ≤ i := c_ge hml (by omega) (by omega) c_16
        have hie : lc = i := by omega
        subst hie
        refine X_iload_n 43 1 dX6_dearestLamp_43 rfl rfl ?_
        refine X_iret 44 dX6_dearestLamp_44 rfl rfl ⟨_, rfl, _, rfl, ?_⟩
        exact ⟨rfl, hp8_2⟩
      · have hlt : i < lc := c_lt hml (by omega) (by omega) c_16
        refine X_aload_n 19 0 dX6_dearestLamp_19 rfl rfl ?_
        refine X_iload_n 20 3 dX6_dearestLamp_20 rfl rfl ?_
        refine X_cVI 21 [.int _] (e_X6_wrongIfFailed c r lc la cn i _ hIm) dX6_dearestLamp_21 lm_RX6_195 1 ⟨wm_X6_wrongIfFailed, by decide +kernel, rfl, rfl⟩ rfl ⟨Nat.le_of_ble_eq_true rfl, Nat.le_of_ble_eq_true rfl⟩ lyL vc6 rfl rfl (Nat.le_of_ble_eq_true rfl) ?_
        rintro _ m2 ⟨rfl, hso⟩
        rw [wrg_so hp8_2]
        refine X_istore 24 [(4, .int _), (0, .ref _), (1, .int _), (2, .int _), (3, .int _)] dX6_dearestLamp_24 (by decide) rfl ?_
        refine X_iload 26 0 dX6_dearestLamp_26 rfl ?_
        refine X_iload_n 28 3 dX6_dearestLamp_28 rfl rfl ?_
        refine X_icmp_le 29 37 dX6_dearestLamp_29 (by decide) (fun c_29 => ?_) (fun c_29 => ?_)
        · refine X_iinc 37 4 (_ + 1) [(3, .int _), (4, .int _), (0, .ref _), (1, .int _), (2, .int _)] dX6_dearestLamp_37 rfl rfl (by decide) rfl ?_
          refine X_goto 40 8 dX6_dearestLamp_40 (by decide) ?_
          refine X_sub [2, 3, 4, 0] [(0, .ref _), (1, .int _), (2, .int _), (3, .int _)] rfl ?_
          exact ih_8 (i + 1) _ (by omega) (by omega) (so_trans hp8_2 hso) _ _ _  (by (first | exact congrArg Prod.snd (if_pos c_29) | exact congrArg Prod.snd (if_neg c_29))) (by (first | exact congrArg Prod.fst (if_pos c_29) | exact congrArg Prod.fst (if_neg c_29))) (by exact (nI_1 i).symm)
        · refine X_iload 32 0 dX6_dearestLamp_32 rfl ?_
          refine X_istore_n 34 [(2, .int _), (4, .int _), (0, .ref _), (1, .int _), (3, .int _)] dX6_dearestLamp_34 rfl (by decide) rfl ?_
          refine X_iload_n 35 4 dX6_dearestLamp_35 rfl rfl ?_
          refine X_istore_n 36 [(1, .int _), (2, .int _), (4, .int _), (0, .ref _), (3, .int _)] dX6_dearestLamp_36 rfl (by decide) rfl ?_
          refine X_iinc 37 4 (_ + 1) [(3, .int _), (1, .int _), (2, .int _), (4, .int _), (0, .ref _)] dX6_dearestLamp_37 rfl rfl (by decide) rfl ?_
          refine X_goto 40 8 dX6_dearestLamp_40 (by decide) ?_
          refine X_sub [4, 1, 2, 0] [(0, .ref _), (1, .int _), (2, .int _), (3, .int _)] rfl ?_
          exact ih_8 (i + 1) _ (by omega) (by omega) (so_trans hp8_2 hso) _ _ _  (by (first | exact congrArg Prod.snd (if_pos c_29) | exact congrArg Prod.snd (if_neg c_29))) (by (first | exact congrArg Prod.fst (if_pos c_29) | exact congrArg Prod.fst (if_neg c_29))) (by exact (nI_1 i).symm)
  exact L_8 (lc + 1) 0 _ (by omega) (by omega) so_refl _ _ _  (by rfl) (by rfl) (by exact nI_0)
set_option maxHeartbeats 4000000 in
set_option maxRecDepth 100000 in
theorem e_X6_wrongShifted (c r lc la cn : Nat) (a b : Int32) (μ : Mm) (hI : CIv μ c r lc la cn) (hs : shOK a b) : EvN ΛC mX6_wrongShifted [.ref 109, .int a, .int b] μ (qI (fun v9 m => shW μ lc c r a b = v9 ∧ sameOut 84 93 μ m)) := by
  refine EvN_ofQ (by decide +kernel) rfl (fun _ => rfl) (fun _ => Nat.le_of_ble_eq_true rfl) (ls := [(0, .ref 109), (1, .int a), (2, .int b)]) ?_
  obtain ⟨hc, hr, hlc, hla, hcn, ⟨g1, g2, g3, g4, g5, g6, g7⟩, hv⟩ := hI
  have hcr := cr_le g2 g4
  refine X_iload_n 0 1 dX6_wrongShifted_0 rfl rfl ?_
  refine X_iload_n 1 2 dX6_wrongShifted_1 rfl rfl ?_
  refine X_cSI 2 [.int _, .int _] (e_X6_faultOfShift _ _ _) dX6_wrongShifted_2 lm_RX6_126 2 ⟨wm_X6_faultOfShift, by decide +kernel, rfl, rfl⟩ rfl ⟨Nat.le_of_ble_eq_true rfl, Nat.le_of_ble_eq_true rfl⟩ rfl (Nat.le_of_ble_eq_true rfl) ?_
  rintro _ _ ⟨rfl, ⟨rfl, f_2⟩ | ⟨rfl, f_2⟩⟩
  · refine X_cSV 5 [.int _] (e_X6_refuseArgument _ _ (by decide)) dX6_wrongShifted_5 lm_RX6_48 1 ⟨wm_X6_refuseArgument, by decide +kernel, rfl, rfl⟩ rfl ⟨Nat.le_of_ble_eq_true rfl, Nat.le_of_ble_eq_true rfl⟩ rfl (Nat.le_of_ble_eq_true rfl) ?_
    rintro _ rfl
    refine X_aload_n 8 0 dX6_wrongShifted_8 rfl rfl ?_
    refine X_getR (f := 2) 9 dX6_wrongShifted_9 lf_RX6_26 iw6 vc6 (by decide) lyL rfl ?_
    refine X_aload_n 12 0 dX6_wrongShifted_12 rfl rfl ?_
    refine X_getR (f := 0) 13 dX6_wrongShifted_13 lf_RX6_12 iw6 vc6 (by decide) lyL rfl ?_
    refine X_aload_n 16 0 dX6_wrongShifted_16 rfl rfl ?_
    refine X_getR (f := 0) 17 dX6_wrongShifted_17 lf_RX6_12 iw6 vc6 (by decide) lyL rfl ?_
    refine X_cVI 20 [] (e_X4_shiningLamps 0 (Or.inl rfl) lc _ hlc g5) dX6_wrongShifted_20 lm_RX6_201 0 ⟨wm_X4_shiningLamps, by decide +kernel, rfl, rfl⟩ rfl ⟨Nat.le_of_ble_eq_true rfl, Nat.le_of_ble_eq_true rfl⟩ (lyS 0 (Or.inl rfl)) vc4 rfl rfl (Nat.le_of_ble_eq_true rfl) ?_
    rintro _ _ ⟨rfl, rfl⟩
    refine X_iload_n 23 1 dX6_wrongShifted_23 rfl rfl ?_
    refine X_iload_n 24 2 dX6_wrongShifted_24 rfl rfl ?_
    refine X_cVI 25 [.ref _, .int _, .int _, .int _] (e_X1_countWrong 84 (Or.inr rfl) 0 (Or.inl rfl) _ _ _ c r _ hc hr g2 g4) dX6_wrongShifted_25 lm_RX6_204 4 ⟨wm_X1_countWrong, by decide +kernel, rfl, rfl⟩ rfl ⟨Nat.le_of_ble_eq_true rfl, Nat.le_of_ble_eq_true rfl⟩ (lyD 84 (Or.inr rfl)) vc1 rfl rfl (Nat.le_of_ble_eq_true rfl) ?_
    rintro _ m ⟨rfl, hso⟩
    refine X_iret 28 dX6_wrongShifted_28 rfl rfl ⟨_, rfl, _, rfl, ?_⟩
    exact ⟨rfl, hso⟩
  · exact absurd hs f_2
set_option maxHeartbeats 4000000 in
set_option maxRecDepth 100000 in
theorem e_X6_bestShift (c r lc la cn : Nat) (k : Nat) (μ : Mm) (hI : CIv μ c r lc la cn) (hk : k ≤ 3) : EvN ΛC mX6_bestShift [.ref 109, .int (nI k)] μ (qI (fun v9 m => (bsR μ lc c r k (2 * k + 1)).2 = v9 ∧ sameOut 84 93 μ m)) := by
  refine EvN_ofQ (by decide +kernel) rfl (fun _ => rfl) (fun _ => Nat.le_of_ble_eq_true rfl) (ls := [(0, .ref 109), (1, .int (nI k))]) ?_
  obtain ⟨hc, hr, hlc, hla, hcn, ⟨g1, g2, g3, g4, g5, g6, g7⟩, hv⟩ := hI
  have hcr := cr_le g2 g4
  have hw5 : rgI (nI k) 0 3 := rg_nI (n := 3) rfl (by decide) hk
  refine X_iload_n 0 1 dX6_bestShift_0 rfl rfl ?_
  refine X_iconst 1 (0) dX6_bestShift_1 (by decide) ?_
  refine X_iconst 2 (3) dX6_bestShift_2 (by decide) ?_
  refine X_cSI 3 [.int _, .int _, .int _] (e_X6_faultOfRange _ _ _ _) dX6_bestShift_3 lm_RX6_147 3 ⟨wm_X6_faultOfRange, by decide +kernel, rfl, rfl⟩ rfl ⟨Nat.le_of_ble_eq_true rfl, Nat.le_of_ble_eq_true rfl⟩ rfl (Nat.le_of_ble_eq_true rfl) ?_
  rintro _ _ ⟨rfl, ⟨rfl, f_3⟩ | ⟨rfl, f_3⟩⟩
  · refine X_cSV 6 [.int _] (e_X6_refuseArgument _ _ (by decide)) dX6_bestShift_6 lm_RX6_48 1 ⟨wm_X6_refuseArgument, by decide +kernel, rfl, rfl⟩ rfl ⟨Nat.le_of_ble_eq_true rfl, Nat.le_of_ble_eq_true rfl⟩ rfl (Nat.le_of_ble_eq_true rfl) ?_
    rintro _ rfl
    refine X_aload_n 9 0 dX6_bestShift_9 rfl rfl ?_
    refine X_getR (f := 0) 10 dX6_bestShift_10 lf_RX6_12 iw6 vc6 (by decide) lyL rfl ?_
    refine X_cVI 13 [] (e_X4_shiningLamps 0 (Or.inl rfl) lc _ hlc g5) dX6_bestShift_13 lm_RX6_201 0 ⟨wm_X4_shiningLamps, by decide +kernel, rfl, rfl⟩ rfl ⟨Nat.le_of_ble_eq_true rfl, Nat.le_of_ble_eq_true rfl⟩ (lyS 0 (Or.inl rfl)) vc4 rfl rfl (Nat.le_of_ble_eq_true rfl) ?_
    rintro _ _ ⟨rfl, rfl⟩
    refine X_istore_n 16 [(2, .int _), (0, .ref _), (1, .int _)] dX6_bestShift_16 rfl (by decide) rfl ?_
    refine X_iconst 17 (0) dX6_bestShift_17 (by decide) ?_
    refine X_istore_n 18 [(3, .int _), (2, .int _), (0, .ref _), (1, .int _)] dX6_bestShift_18 rfl (by decide) rfl ?_
    refine X_sipush 19 (385) dX6_bestShift_19 (by decide) ?_
    refine X_istore 22 [(4, .int _), (3, .int _), (2, .int _), (0, .ref _), (1, .int _)] dX6_bestShift_22 (by decide) rfl ?_
    refine X_iload_n 24 4 dX6_bestShift_24 rfl rfl ?_
    refine X_ineg 25 dX6_bestShift_25 ?_
    refine X_istore 26 [(5, .int _), (4, .int _), (3, .int _), (2, .int _), (0, .ref _), (1, .int _)] dX6_bestShift_26 (by decide) rfl ?_
    refine X_sub [4, 5, 3, 2, 1, 0] [(0, .ref _), (1, .int _), (2, .int _), (3, .int _), (4, .int _), (5, .int _)] rfl ?_
    have L_28 : ∀ (kf : Nat) (i : Nat) (m : Mm), i ≤ 2 * k + 1 → 2 * k + 1 < i + kf → sameOut 84 93 μ m → ∀ (x28_3 : Int32) (x28_4 : Int32) (x28_5 : Int32), (bsR μ lc c r k i).2 = x28_3 → (bsR μ lc c r k i).1 = x28_4 → -nI k + nI i = x28_5 → X false ΛC mX6_bestShift (QN (qI (fun v9 m => (bsR μ lc c r k (2 * k + 1)).2 = v9 ∧ sameOut 84 93 μ m))) 28 [(0, .ref 109), (1, .int (nI k)), (2, .int (zzS μ lc)), (3, .int x28_3), (4, .int x28_4), (5, .int x28_5)] [] m := by
      intro kf
      induction kf with
      | zero => intro i m hp28_0 hp28_1 hp28_2; exfalso; omega
      | succ kf ih_28 =>
        intro i m hp28_0 hp28_1 hp28_2 x28_3 x28_4 x28_5
        rintro rfl rfl rfl
        refine X_iload 28 5 dX6_bestShift_28 rfl ?_
        refine X_iload_n 30 1 dX6_bestShift_30 rfl rfl ?_
        refine X_icmp_gt 31 100 dX6_bestShift_31 (by decide) (fun c_31 => ?_) (fun c_31 => ?_)
        · have hgt := (nk_le hk (by omega)).mp c_31
          have hie : i = 2 * k + 1 := by omega
          subst hie
          refine X_iload_n 100 3 dX6_bestShift_100 rfl rfl ?_
          refine X_iret 101 dX6_bestShift_101 rfl rfl ⟨_, rfl, _, rfl, ?_⟩
          exact ⟨rfl, hp28_2⟩
        · have hlt : i ≤ 2 * k := Nat.le_of_not_lt fun q => c_31 ((nk_le hk (by omega)).mpr q)
          refine X_iload_n 34 1 dX6_bestShift_34 rfl rfl ?_
          refine X_ineg 35 dX6_bestShift_35 ?_
          refine X_istore 36 [(6, .int _), (0, .ref _), (1, .int _), (2, .int _), (3, .int _), (4, .int _), (5, .int _)] dX6_bestShift_36 (by decide) rfl ?_
          refine X_sub [1, 2, 3, 4, 5, 6, 0] [(0, .ref _), (1, .int _), (2, .int _), (3, .int _), (4, .int _), (5, .int _), (6, .int _)] rfl ?_
          have L_38 : ∀ (kf : Nat) (j : Nat) (m : Mm), j ≤ 2 * k + 1 → 2 * k + 1 < j + kf → sameOut 84 93 μ m → ∀ (x38_3 : Int32) (x38_4 : Int32) (x38_6 : Int32), (bsC μ lc c r k (-nI k + nI i) j (bsR μ lc c r k i)).2 = x38_3 → (bsC μ lc c r k (-nI k + nI i) j (bsR μ lc c r k i)).1 = x38_4 → -nI k + nI j = x38_6 → X false ΛC mX6_bestShift (QN (qI (fun v9 m => (bsR μ lc c r k (2 * k + 1)).2 = v9 ∧ sameOut 84 93 μ m))) 38 [(0, .ref 109), (1, .int (nI k)), (2, .int (zzS μ lc)), (3, .int x38_3), (4, .int x38_4), (5, .int (-nI k + nI i)), (6, .int x38_6)] [] m := by
            intro kf
            induction kf with
            | zero => intro j m hp38_0 hp38_1 hp38_2; exfalso; omega
            | succ kf ih_38 =>
              intro j m hp38_0 hp38_1 hp38_2 x38_3 x38_4 x38_6
              rintro rfl rfl rfl
              refine X_iload 38 6 dX6_bestShift_38 rfl ?_
              refine X_iload_n 40 1 dX6_bestShift_40 rfl rfl ?_
              refine X_icmp_gt 41 94 dX6_bestShift_41 (by decide) (fun c_41 => ?_) (fun c_41 => ?_)
              · have hgt := (nk_le hk (by omega)).mp c_41
                have hie : j = 2 * k + 1 := by omega
                subst hie
                refine X_iinc 94 5 (_ + 1) [(5, .int _), (0, .ref _), (1, .int _), (2, .int _), (3, .int _), (4, .int _), (6, .int _)] dX6_bestShift_94 rfl rfl (by decide) rfl ?_
                refine X_goto 97 28 dX6_bestShift_97 (by decide) ?_
                refine X_sub [1, 2, 3, 4, 5, 0] [(0, .ref _), (1, .int _), (2, .int _), (3, .int _), (4, .int _), (5, .int _)] rfl ?_
                exact ih_28 (i + 1) _ (by omega) (by omega) hp38_2 _ _ _  (by rfl) (by rfl) (by exact (nk_1 k i).symm)
              · have hlj : j ≤ 2 * k := Nat.le_of_not_lt fun q => c_41 ((nk_le hk (by omega)).mpr q)
                refine X_aload_n 44 0 dX6_bestShift_44 rfl rfl ?_
                refine X_getR (f := 2) 45 dX6_bestShift_45 lf_RX6_26 iw6 vc6 (by decide) lyL rfl ?_
                refine X_aload_n 48 0 dX6_bestShift_48 rfl rfl ?_
                refine X_getR (f := 0) 49 dX6_bestShift_49 lf_RX6_12 iw6 vc6 (by decide) lyL rfl ?_
                refine X_iload_n 52 2 dX6_bestShift_52 rfl rfl ?_
                refine X_iload 53 6 dX6_bestShift_53 rfl ?_
                refine X_iload 55 5 dX6_bestShift_55 rfl ?_
                refine X_cVI 57 [.ref _, .int _, .int _, .int _] (e_X1_countWrong 84 (Or.inr rfl) 0 (Or.inl rfl) _ _ _ c r _ ((hp38_2 0 0 (by omega)).trans hc) ((hp38_2 0 1 (by omega)).trans hr) g2 g4) dX6_bestShift_57 lm_RX6_204 4 ⟨wm_X1_countWrong, by decide +kernel, rfl, rfl⟩ rfl ⟨Nat.le_of_ble_eq_true rfl, Nat.le_of_ble_eq_true rfl⟩ (lyD 84 (Or.inr rfl)) vc1 rfl rfl (Nat.le_of_ble_eq_true rfl) ?_
                rintro _ m2 ⟨rfl, hso⟩
                rw [cwN_sc (scE_so hp38_2 (Or.inl rfl) (by decide))]
                refine X_istore 60 [(7, .int _), (0, .ref _), (1, .int _), (2, .int _), (3, .int _), (4, .int _), (5, .int _), (6, .int _)] dX6_bestShift_60 (by decide) rfl ?_
                refine X_iload 62 0 dX6_bestShift_62 rfl ?_
                refine X_iload 64 5 dX6_bestShift_64 rfl ?_
                refine X_icmp_ge 66 88 dX6_bestShift_66 (by decide) (fun c_66 => ?_) (fun c_66 => ?_)
                · refine X_iinc 88 7 (_ + 1) [(6, .int _), (7, .int _), (0, .ref _), (1, .int _), (2, .int _), (3, .int _), (4, .int _), (5, .int _)] dX6_bestShift_88 rfl rfl (by decide) rfl ?_
                  refine X_goto 91 38 dX6_bestShift_91 (by decide) ?_
                  refine X_sub [2, 3, 4, 5, 6, 7, 0] [(0, .ref _), (1, .int _), (2, .int _), (3, .int _), (4, .int _), (5, .int _), (6, .int _)] rfl ?_
                  exact ih_38 (j + 1) _ (by omega) (by omega) (so_trans hp38_2 hso) _ _ _  (by (first | exact congrArg Prod.snd (if_pos c_66) | exact congrArg Prod.snd (if_neg c_66))) (by (first | exact congrArg Prod.fst (if_pos c_66) | exact congrArg Prod.fst (if_neg c_66))) (by exact (nk_1 k j).symm)
                · refine X_iload 69 0 dX6_bestShift_69 rfl ?_
                  refine X_istore 71 [(4, .int _), (7, .int _), (0, .ref _), (1, .int _), (2, .int _), (3, .int _), (5, .int _), (6, .int _)] dX6_bestShift_71 (by decide) rfl ?_
                  refine X_bipush 73 (100) dX6_bestShift_73 (by decide) ?_
                  refine X_iload 75 6 dX6_bestShift_75 rfl ?_
                  refine X_bipush 77 (10) dX6_bestShift_77 (by decide) ?_
                  refine X_iadd 79 dX6_bestShift_79 ?_
                  refine X_imul 80 dX6_bestShift_80 ?_
                  refine X_iload 81 7 dX6_bestShift_81 rfl ?_
                  refine X_bipush 83 (10) dX6_bestShift_83 (by decide) ?_
                  refine X_iadd 85 dX6_bestShift_85 ?_
                  refine X_iadd 86 dX6_bestShift_86 ?_
                  refine X_istore_n 87 [(3, .int _), (4, .int _), (7, .int _), (0, .ref _), (1, .int _), (2, .int _), (5, .int _), (6, .int _)] dX6_bestShift_87 rfl (by decide) rfl ?_
                  refine X_iinc 88 7 (_ + 1) [(6, .int _), (3, .int _), (4, .int _), (7, .int _), (0, .ref _), (1, .int _), (2, .int _), (5, .int _)] dX6_bestShift_88 rfl rfl (by decide) rfl ?_
                  refine X_goto 91 38 dX6_bestShift_91 (by decide) ?_
                  refine X_sub [4, 5, 6, 1, 2, 7, 0] [(0, .ref _), (1, .int _), (2, .int _), (3, .int _), (4, .int _), (5, .int _), (6, .int _)] rfl ?_
                  exact ih_38 (j + 1) _ (by omega) (by omega) (so_trans hp38_2 hso) _ _ _  (by (first | exact congrArg Prod.snd (if_pos c_66) | exact congrArg Prod.snd (if_neg c_66))) (by (first | exact congrArg Prod.fst (if_pos c_66) | exact congrArg Prod.fst (if_neg c_66))) (by exact (nk_1 k j).symm)
          exact L_38 (2 * k + 2) 0 _ (by omega) (by omega) hp28_2 _ _ _  (by rfl) (by rfl) (by exact Int32.add_zero _)
    exact L_28 (2 * k + 2) 0 _ (by omega) (by omega) so_refl _ _ _  (by rfl) (by rfl) (by exact Int32.add_zero _)
  · exact absurd hw5 f_3
set_option maxHeartbeats 4000000 in
set_option maxRecDepth 100000 in
theorem e_X6_neededLimit (c r lc la cn : Nat) (k : Nat) (μ : Mm) (hI : CIv μ c r lc la cn) (hk : k < lc) : EvN ΛC mX6_neededLimit [.ref 109, .int (nI k)] μ (qI (fun v9 m => ndJ μ lc c k (c * r) = v9 ∧ RfP μ lc c r m)) := by
  refine EvN_ofQ (by decide +kernel) rfl (fun _ => rfl) (fun _ => Nat.le_of_ble_eq_true rfl) (ls := [(0, .ref 109), (1, .int (nI k))]) ?_
  obtain ⟨hc, hr, hlc, hla, hcn, ⟨g1, g2, g3, g4, g5, g6, g7⟩, hv⟩ := hI
  have hcr := cr_le g2 g4
  have hlp := lpOK_nI hlc g5 hk
  have hk8 : k < 8 := by omega
  refine X_aload_n 0 0 dX6_neededLimit_0 rfl rfl ?_
  refine X_iload_n 1 1 dX6_neededLimit_1 rfl rfl ?_
  refine X_cVI 2 [.int _] (e_X6_faultOfLamp _ _) dX6_neededLimit_2 lm_RX6_116 1 ⟨wm_X6_faultOfLamp, by decide +kernel, rfl, rfl⟩ rfl ⟨Nat.le_of_ble_eq_true rfl, Nat.le_of_ble_eq_true rfl⟩ lyL vc6 rfl rfl (Nat.le_of_ble_eq_true rfl) ?_
  rintro _ _ ⟨rfl, ⟨rfl, f_2⟩ | ⟨rfl, f_2⟩⟩
  · refine X_cSV 5 [.int _] (e_X6_refuseIndex _ _ (by decide)) dX6_neededLimit_5 lm_RX6_68 1 ⟨wm_X6_refuseIndex, by decide +kernel, rfl, rfl⟩ rfl ⟨Nat.le_of_ble_eq_true rfl, Nat.le_of_ble_eq_true rfl⟩ rfl (Nat.le_of_ble_eq_true rfl) ?_
    rintro _ rfl
    refine X_aload_n 8 0 dX6_neededLimit_8 rfl rfl ?_
    refine X_getR (f := 1) 9 dX6_neededLimit_9 lf_RX6_19 iw6 vc6 (by decide) lyL rfl ?_
    refine X_aload_n 12 0 dX6_neededLimit_12 rfl rfl ?_
    refine X_getR (f := 0) 13 dX6_neededLimit_13 lf_RX6_12 iw6 vc6 (by decide) lyL rfl ?_
    refine X_cVV 16 [.ref _] (e_X5_refresh lc c r _ hc hr hlc g5 g2 g4 hv) dX6_neededLimit_16 lm_RX6_98 1 ⟨wm_X5_refresh, by decide +kernel, rfl, rfl⟩ rfl ⟨Nat.le_of_ble_eq_true rfl, Nat.le_of_ble_eq_true rfl⟩ lyV vc5 rfl rfl (Nat.le_of_ble_eq_true rfl) ?_
    rintro m hR0
    have hR : RfP μ lc c r m := hR0
    have hlcm : m 0 5 = nI lc := (rf_s hR 5 (by decide)).trans hlc
    have hmc : m 0 0 = nI c := (rf_s hR 0 (by decide)).trans hc
    have hmr : m 0 1 = nI r := (rf_s hR 1 (by decide)).trans hr
    have hN : m 93 5 = nI (c * r) := hR.1.1
    refine X_iconst 19 (0) dX6_neededLimit_19 (by decide) ?_
    refine X_istore_n 20 [(2, .int _), (0, .ref _), (1, .int _)] dX6_neededLimit_20 rfl (by decide) rfl ?_
    refine X_iconst 21 (0) dX6_neededLimit_21 (by decide) ?_
    refine X_istore_n 22 [(3, .int _), (2, .int _), (0, .ref _), (1, .int _)] dX6_neededLimit_22 rfl (by decide) rfl ?_
    refine X_sub [2, 3, 1, 0] [(0, .ref _), (1, .int _), (2, .int _), (3, .int _)] rfl ?_
    have L_23 : ∀ (kf : Nat) (j : Nat), j ≤ c * r → c * r < j + kf → ∀ (x23_2 : Int32) (x23_3 : Int32), ndJ μ lc c k j = x23_2 → nI j = x23_3 → X false ΛC mX6_neededLimit (QN (qI (fun v9 m => ndJ μ lc c k (c * r) = v9 ∧ RfP μ lc c r m))) 23 [(0, .ref 109), (1, .int (nI k)), (2, .int x23_2), (3, .int x23_3)] [] m := by
      intro kf
      induction kf with
      | zero => intro j hp23_0 hp23_1; exfalso; omega
      | succ kf ih_23 =>
        intro j hp23_0 hp23_1 x23_2 x23_3
        rintro rfl rfl
        refine X_iload_n 23 3 dX6_neededLimit_23 rfl rfl ?_
        refine X_aload_n 24 0 dX6_neededLimit_24 rfl rfl ?_
        refine X_getR (f := 0) 25 dX6_neededLimit_25 lf_RX6_12 iw6 vc6 (by decide) lyL rfl ?_
        refine X_cVI 28 [] (e_X4_placeCount 0 (Or.inl rfl) _) dX6_neededLimit_28 lm_RX6_56 0 ⟨wm_X4_placeCount, by decide +kernel, rfl, rfl⟩ rfl ⟨Nat.le_of_ble_eq_true rfl, Nat.le_of_ble_eq_true rfl⟩ (lyS 0 (Or.inl rfl)) vc4 rfl rfl (Nat.le_of_ble_eq_true rfl) ?_
        rintro _ _ ⟨rfl, rfl⟩
        rw [hmc, hmr, pk_mul]
        refine X_icmp_ge 31 88 dX6_neededLimit_31 (by decide) (fun c_31 => ?_) (fun c_31 => ?_)
        · have hge : c * r ≤ j := c_ge rfl (by omega) (by omega) c_31
          have hie : j = c * r := by omega
          refine X_iload_n 88 2 dX6_neededLimit_88 rfl rfl ?_
          refine X_iret 89 dX6_neededLimit_89 rfl rfl ⟨_, rfl, _, rfl, ?_⟩
          exact ⟨by rw [hie], hR⟩
        · have hlt : j < c * r := c_lt rfl (by omega) (by omega) c_31
          have hg := RfP_j hR hlt
          refine X_aload_n 34 0 dX6_neededLimit_34 rfl rfl ?_
          refine X_getR (f := 1) 35 dX6_neededLimit_35 lf_RX6_19 iw6 vc6 (by decide) lyL rfl ?_
          refine X_iload_n 38 1 dX6_neededLimit_38 rfl rfl ?_
          refine X_iload_n 39 3 dX6_neededLimit_39 rfl rfl ?_
          refine X_cVI 40 [.int _, .int _] (e_X5_isCovered k j _ (by omega)) dX6_neededLimit_40 lm_RX6_159 2 ⟨wm_X5_isCovered, by decide +kernel, rfl, rfl⟩ rfl ⟨Nat.le_of_ble_eq_true rfl, Nat.le_of_ble_eq_true rfl⟩ lyV vc5 rfl rfl (Nat.le_of_ble_eq_true rfl) ?_
          rintro _ _ ⟨rfl, ⟨rfl, b_40⟩ | ⟨rfl, b_40⟩⟩
          · unfold covB at b_40
            rw [hg.1] at b_40
            refine X_if_eq 43 82 dX6_neededLimit_43 (by decide) (fun c_0 => by exact absurd c_0 (by decide)) (fun _ => ?_)
            refine X_aload_n 46 0 dX6_neededLimit_46 rfl rfl ?_
            refine X_getR (f := 1) 47 dX6_neededLimit_47 lf_RX6_19 iw6 vc6 (by decide) lyL rfl ?_
            refine X_iload_n 50 1 dX6_neededLimit_50 rfl rfl ?_
            refine X_iload_n 51 3 dX6_neededLimit_51 rfl rfl ?_
            refine X_cVI 52 [.int _, .int _] (e_X5_lightOf k j _ hk8 (by omega)) dX6_neededLimit_52 lm_RX6_156 2 ⟨wm_X5_lightOf, by decide +kernel, rfl, rfl⟩ rfl ⟨Nat.le_of_ble_eq_true rfl, Nat.le_of_ble_eq_true rfl⟩ lyV vc5 rfl rfl (Nat.le_of_ble_eq_true rfl) ?_
            rintro _ _ ⟨rfl, rfl⟩
            rw [show (if covB m k j = true then m 98 (384 * k + j) else -1000) = ltJ μ lc c k j from by unfold covB; rw [hg.1, if_pos b_40, hg.2.2.2 k hk8]]
            refine X_aload_n 55 0 dX6_neededLimit_55 rfl rfl ?_
            refine X_getR (f := 0) 56 dX6_neededLimit_56 lf_RX6_12 iw6 vc6 (by decide) lyL rfl ?_
            refine X_iload_n 59 3 dX6_neededLimit_59 rfl rfl ?_
            refine X_cVI 60 [.int _] (e_X4_targetAt 0 (Or.inl rfl) _ _) dX6_neededLimit_60 lm_RX6_208 1 ⟨wm_X4_targetAt, by decide +kernel, rfl, rfl⟩ rfl ⟨Nat.le_of_ble_eq_true rfl, Nat.le_of_ble_eq_true rfl⟩ (lyS 0 (Or.inl rfl)) vc4 rfl rfl (Nat.le_of_ble_eq_true rfl) ?_
            rintro _ _ ⟨rfl, rfl⟩
            rw [gt_nI (by omega) (by decide), show m (0 + 8) j = μ 8 j from rf_r hR 8 j (by decide) (by decide)]
            refine X_iadd 63 dX6_neededLimit_63 ?_
            refine X_aload_n 64 0 dX6_neededLimit_64 rfl rfl ?_
            refine X_getR (f := 1) 65 dX6_neededLimit_65 lf_RX6_19 iw6 vc6 (by decide) lyL rfl ?_
            refine X_iload_n 68 3 dX6_neededLimit_68 rfl rfl ?_
            refine X_cVI 69 [.int _] (e_X5_brightnessAt j _ (by omega)) dX6_neededLimit_69 lm_RX6_211 1 ⟨wm_X5_brightnessAt, by decide +kernel, rfl, rfl⟩ rfl ⟨Nat.le_of_ble_eq_true rfl, Nat.le_of_ble_eq_true rfl⟩ lyV vc5 rfl rfl (Nat.le_of_ble_eq_true rfl) ?_
            rintro _ _ ⟨rfl, rfl⟩
            rw [hg.2.1]
            refine X_isub 72 dX6_neededLimit_72 ?_
            refine X_istore 73 [(4, .int _), (0, .ref _), (1, .int _), (2, .int _), (3, .int _)] dX6_neededLimit_73 (by decide) rfl ?_
            refine X_iload_n 75 3 dX6_neededLimit_75 rfl rfl ?_
            refine X_iload 76 0 dX6_neededLimit_76 rfl ?_
            refine X_mmax 78 dX6_neededLimit_78 kw_895 kw_572 kw_42 kw_573 ⟨Nat.le_of_ble_eq_true rfl, Nat.le_of_ble_eq_true rfl⟩ ?_
            refine X_istore_n 81 [(2, .int _), (4, .int _), (0, .ref _), (1, .int _), (3, .int _)] dX6_neededLimit_81 rfl (by decide) rfl ?_
            refine X_iinc 82 4 (_ + 1) [(3, .int _), (2, .int _), (4, .int _), (0, .ref _), (1, .int _)] dX6_neededLimit_82 rfl rfl (by decide) rfl ?_
            refine X_goto 85 23 dX6_neededLimit_85 (by decide) ?_
            refine X_sub [3, 4, 1, 0] [(0, .ref _), (1, .int _), (2, .int _), (3, .int _)] rfl ?_
            exact ih_23 (j + 1) (by omega) (by omega) _ _  (by (first | exact if_pos b_40 | exact if_neg b_40)) (by exact (nI_1 j).symm)
          · unfold covB at b_40
            rw [hg.1] at b_40
            refine X_if_eq 43 82 dX6_neededLimit_43 (by decide) (fun _ => ?_) (fun c_0 => by exact absurd c_0 (by decide))
            refine X_iinc 82 3 (_ + 1) [(3, .int _), (0, .ref _), (1, .int _), (2, .int _)] dX6_neededLimit_82 rfl rfl (by decide) rfl ?_
            refine X_goto 85 23 dX6_neededLimit_85 (by decide) ?_
            refine X_sub [1, 2, 3, 0] [(0, .ref _), (1, .int _), (2, .int _), (3, .int _)] rfl ?_
            exact ih_23 (j + 1) (by omega) (by omega) _ _  (by (first | exact if_pos b_40 | exact if_neg b_40)) (by exact (nI_1 j).symm)
    exact L_23 (c * r + 1) 0 (by omega) (by omega) _ _  (by rfl) (by exact nI_0)
  · exact absurd hlp f_2
