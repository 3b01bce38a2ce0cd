set_option maxHeartbeats 4000000 in
set_option maxRecDepth 100000 in
theorem e_X6_faultOfCommand (w : Nat) (n : Nat → Int32) (μ : Mm) (hw : μ 102 5 = nI w) (h1 : 1 ≤ w) (h8 : w ≤ 8) : EvN ΛC mX6_faultOfCommand [.ref 109, .int (n 0), .int (n 1), .int (n 2), .int (n 3), .int (n 4)] μ (qI (fun x μ' => μ = μ' ∧ (x = 0 ↔ cmdOK μ w n))) := by
  refine EvN_ofQ (by decide +kernel) rfl (fun _ => rfl) (fun _ => Nat.le_of_ble_eq_true rfl) (ls := [(0, .ref 109), (1, .int (n 0)), (2, .int (n 1)), (3, .int (n 2)), (4, .int (n 3)), (5, .int (n 4))]) ?_
  refine X_aload_n 0 0 dX6_faultOfCommand_0 rfl rfl ?_
  refine X_getR (f := 4) 1 dX6_faultOfCommand_1 lf_RX6_40 iw6 vc6 (by decide) lyL rfl ?_
  refine X_getI (f := 5) 4 dX6_faultOfCommand_4 lf_RX6_330 iw0 vc0 (by decide) lyC rfl ?_
  rw [hw]
  rcases (show w = 1 ∨ w = 2 ∨ w = 3 ∨ w = 4 ∨ w = 5 ∨ w = 6 ∨ w = 7 ∨ w = 8 by omega) with rfl | rfl | rfl | rfl | rfl | rfl | rfl | rfl
  · refine X_tabIn (off := 41) 7 48 dX6_faultOfCommand_7 (by decide) (by decide) (by decide +kernel) (by decide) ?_
    refine X_iload_n 48 1 dX6_faultOfCommand_48 rfl rfl ?_
    refine X_iload_n 49 2 dX6_faultOfCommand_49 rfl rfl ?_
    refine X_cSI 50 [.int _, .int _] (e_X6_faultOfWall _ _ _) dX6_faultOfCommand_50 lm_RX6_44 2 ⟨wm_X6_faultOfWall, by decide +kernel, rfl, rfl⟩ rfl ⟨Nat.le_of_ble_eq_true rfl, Nat.le_of_ble_eq_true rfl⟩ rfl (Nat.le_of_ble_eq_true rfl) ?_
    rintro _ _ ⟨rfl, ⟨rfl, f_50⟩ | ⟨rfl, f_50⟩⟩
    · refine X_iret 53 dX6_faultOfCommand_53 rfl rfl ⟨_, rfl, _, rfl, ?_⟩
      first | exact ⟨rfl, ⟨fun _ => f_50, fun _ => rfl⟩⟩ | exact ⟨rfl, ⟨fun z => absurd z (by decide), fun h => absurd h f_50⟩⟩ | exact ⟨rfl, ⟨fun z => absurd z (by decide), fun h => absurd h.1 f_50⟩⟩ | exact ⟨rfl, ⟨fun z => absurd z (by decide), fun h => absurd h.2 f_50.2⟩⟩
    · refine X_iret 53 dX6_faultOfCommand_53 rfl rfl ⟨_, rfl, _, rfl, ?_⟩
      first | exact ⟨rfl, ⟨fun _ => f_50, fun _ => rfl⟩⟩ | exact ⟨rfl, ⟨fun z => absurd z (by decide), fun h => absurd h f_50⟩⟩ | exact ⟨rfl, ⟨fun z => absurd z (by decide), fun h => absurd h.1 f_50⟩⟩ | exact ⟨rfl, ⟨fun z => absurd z (by decide), fun h => absurd h.2 f_50.2⟩⟩
  · refine X_tabIn (off := 47) 7 54 dX6_faultOfCommand_7 (by decide) (by decide) (by decide +kernel) (by decide) ?_
    refine X_aload_n 54 0 dX6_faultOfCommand_54 rfl rfl ?_
    refine X_iload_n 55 1 dX6_faultOfCommand_55 rfl rfl ?_
    refine X_iload_n 56 2 dX6_faultOfCommand_56 rfl rfl ?_
    refine X_iload_n 57 3 dX6_faultOfCommand_57 rfl rfl ?_
    refine X_iload 58 4 dX6_faultOfCommand_58 rfl ?_
    refine X_iload 60 5 dX6_faultOfCommand_60 rfl ?_
    refine X_cVI 62 [.int _, .int _, .int _, .int _, .int _] (e_X6_faultOfPainting _ _ _ _ _ _) dX6_faultOfCommand_62 lm_RX6_64 5 ⟨wm_X6_faultOfPainting, by decide +kernel, rfl, rfl⟩ rfl ⟨Nat.le_of_ble_eq_true rfl, Nat.le_of_ble_eq_true rfl⟩ lyL vc6 rfl rfl (Nat.le_of_ble_eq_true rfl) ?_
    rintro _ _ ⟨rfl, ⟨rfl, f_62⟩ | ⟨rfl, f_62⟩ | ⟨rfl, f_62⟩⟩
    · refine X_iret 65 dX6_faultOfCommand_65 rfl rfl ⟨_, rfl, _, rfl, ?_⟩
      first | exact ⟨rfl, ⟨fun _ => f_62, fun _ => rfl⟩⟩ | exact ⟨rfl, ⟨fun z => absurd z (by decide), fun h => absurd h f_62⟩⟩ | exact ⟨rfl, ⟨fun z => absurd z (by decide), fun h => absurd h.1 f_62⟩⟩ | exact ⟨rfl, ⟨fun z => absurd z (by decide), fun h => absurd h.2 f_62.2⟩⟩
    · refine X_iret 65 dX6_faultOfCommand_65 rfl rfl ⟨_, rfl, _, rfl, ?_⟩
      first | exact ⟨rfl, ⟨fun _ => f_62, fun _ => rfl⟩⟩ | exact ⟨rfl, ⟨fun z => absurd z (by decide), fun h => absurd h f_62⟩⟩ | exact ⟨rfl, ⟨fun z => absurd z (by decide), fun h => absurd h.1 f_62⟩⟩ | exact ⟨rfl, ⟨fun z => absurd z (by decide), fun h => absurd h.2 f_62.2⟩⟩
    · refine X_iret 65 dX6_faultOfCommand_65 rfl rfl ⟨_, rfl, _, rfl, ?_⟩
      first | exact ⟨rfl, ⟨fun _ => f_62, fun _ => rfl⟩⟩ | exact ⟨rfl, ⟨fun z => absurd z (by decide), fun h => absurd h f_62⟩⟩ | exact ⟨rfl, ⟨fun z => absurd z (by decide), fun h => absurd h.1 f_62⟩⟩ | exact ⟨rfl, ⟨fun z => absurd z (by decide), fun h => absurd h.2 f_62.2⟩⟩
  · refine X_tabIn (off := 59) 7 66 dX6_faultOfCommand_7 (by decide) (by decide) (by decide +kernel) (by decide) ?_
    refine X_aload_n 66 0 dX6_faultOfCommand_66 rfl rfl ?_
    refine X_iload_n 67 1 dX6_faultOfCommand_67 rfl rfl ?_
    refine X_iload_n 68 2 dX6_faultOfCommand_68 rfl rfl ?_
    refine X_cVI 69 [.int _, .int _] (e_X6_faultOfNewLamp _ _ _) dX6_faultOfCommand_69 lm_RX6_74 2 ⟨wm_X6_faultOfNewLamp, by decide +kernel, rfl, rfl⟩ rfl ⟨Nat.le_of_ble_eq_true rfl, Nat.le_of_ble_eq_true rfl⟩ lyL vc6 rfl rfl (Nat.le_of_ble_eq_true rfl) ?_
    rintro _ _ ⟨rfl, ⟨rfl, f_69⟩ | ⟨rfl, f_69⟩ | ⟨rfl, f_69⟩⟩
    · refine X_iret 72 dX6_faultOfCommand_72 rfl rfl ⟨_, rfl, _, rfl, ?_⟩
      first | exact ⟨rfl, ⟨fun _ => f_69, fun _ => rfl⟩⟩ | exact ⟨rfl, ⟨fun z => absurd z (by decide), fun h => absurd h f_69⟩⟩ | exact ⟨rfl, ⟨fun z => absurd z (by decide), fun h => absurd h.1 f_69⟩⟩ | exact ⟨rfl, ⟨fun z => absurd z (by decide), fun h => absurd h.2 f_69.2⟩⟩
    · refine X_iret 72 dX6_faultOfCommand_72 rfl rfl ⟨_, rfl, _, rfl, ?_⟩
      first | exact ⟨rfl, ⟨fun _ => f_69, fun _ => rfl⟩⟩ | exact ⟨rfl, ⟨fun z => absurd z (by decide), fun h => absurd h f_69⟩⟩ | exact ⟨rfl, ⟨fun z => absurd z (by decide), fun h => absurd h.1 f_69⟩⟩ | exact ⟨rfl, ⟨fun z => absurd z (by decide), fun h => absurd h.2 f_69.2⟩⟩
    · refine X_iret 72 dX6_faultOfCommand_72 rfl rfl ⟨_, rfl, _, rfl, ?_⟩
      first | exact ⟨rfl, ⟨fun _ => f_69, fun _ => rfl⟩⟩ | exact ⟨rfl, ⟨fun z => absurd z (by decide), fun h => absurd h f_69⟩⟩ | exact ⟨rfl, ⟨fun z => absurd z (by decide), fun h => absurd h.1 f_69⟩⟩ | exact ⟨rfl, ⟨fun z => absurd z (by decide), fun h => absurd h.2 f_69.2⟩⟩
  · refine X_tabIn (off := 66) 7 73 dX6_faultOfCommand_7 (by decide) (by decide) (by decide +kernel) (by decide) ?_
    refine X_aload_n 73 0 dX6_faultOfCommand_73 rfl rfl ?_
    refine X_iload_n 74 1 dX6_faultOfCommand_74 rfl rfl ?_
    refine X_iload_n 75 2 dX6_faultOfCommand_75 rfl rfl ?_
    refine X_iload_n 76 3 dX6_faultOfCommand_76 rfl rfl ?_
    refine X_iload 77 4 dX6_faultOfCommand_77 rfl ?_
    refine X_cVI 79 [.int _, .int _, .int _, .int _] (e_X6_faultOfCorner _ _ _ _ _) dX6_faultOfCommand_79 lm_RX6_83 4 ⟨wm_X6_faultOfCorner, by decide +kernel, rfl, rfl⟩ rfl ⟨Nat.le_of_ble_eq_true rfl, Nat.le_of_ble_eq_true rfl⟩ lyL vc6 rfl rfl (Nat.le_of_ble_eq_true rfl) ?_
    rintro _ _ ⟨rfl, ⟨rfl, f_79⟩ | ⟨rfl, f_79⟩ | ⟨rfl, f_79⟩⟩
    · refine X_iret 82 dX6_faultOfCommand_82 rfl rfl ⟨_, rfl, _, rfl, ?_⟩
      first | exact ⟨rfl, ⟨fun _ => f_79, fun _ => rfl⟩⟩ | exact ⟨rfl, ⟨fun z => absurd z (by decide), fun h => absurd h f_79⟩⟩ | exact ⟨rfl, ⟨fun z => absurd z (by decide), fun h => absurd h.1 f_79⟩⟩ | exact ⟨rfl, ⟨fun z => absurd z (by decide), fun h => absurd h.2 f_79.2⟩⟩
    · refine X_iret 82 dX6_faultOfCommand_82 rfl rfl ⟨_, rfl, _, rfl, ?_⟩
      first | exact ⟨rfl, ⟨fun _ => f_79, fun _ => rfl⟩⟩ | exact ⟨rfl, ⟨fun z => absurd z (by decide), fun h => absurd h f_79⟩⟩ | exact ⟨rfl, ⟨fun z => absurd z (by decide), fun h => absurd h.1 f_79⟩⟩ | exact ⟨rfl, ⟨fun z => absurd z (by decide), fun h => absurd h.2 f_79.2⟩⟩
    · refine X_iret 82 dX6_faultOfCommand_82 rfl rfl ⟨_, rfl, _, rfl, ?_⟩
      first | exact ⟨rfl, ⟨fun _ => f_79, fun _ => rfl⟩⟩ | exact ⟨rfl, ⟨fun z => absurd z (by decide), fun h => absurd h f_79⟩⟩ | exact ⟨rfl, ⟨fun z => absurd z (by decide), fun h => absurd h.1 f_79⟩⟩ | exact ⟨rfl, ⟨fun z => absurd z (by decide), fun h => absurd h.2 f_79.2⟩⟩
  · refine X_tabIn (off := 76) 7 83 dX6_faultOfCommand_7 (by decide) (by decide) (by decide +kernel) (by decide) ?_
    refine X_iload_n 83 1 dX6_faultOfCommand_83 rfl rfl ?_
    refine X_iload_n 84 2 dX6_faultOfCommand_84 rfl rfl ?_
    refine X_cSI 85 [.int _, .int _] (e_X6_faultOfShift _ _ _) dX6_faultOfCommand_85 lm_RX6_126 2 ⟨wm_X6_faultOfShift, by decide +kernel, rfl, rfl⟩ rfl ⟨Nat.le_of_ble_eq_true rfl, Nat.le_of_ble_eq_true rfl⟩ rfl (Nat.le_of_ble_eq_true rfl) ?_
    rintro _ _ ⟨rfl, ⟨rfl, f_85⟩ | ⟨rfl, f_85⟩⟩
    · refine X_iret 88 dX6_faultOfCommand_88 rfl rfl ⟨_, rfl, _, rfl, ?_⟩
      first | exact ⟨rfl, ⟨fun _ => f_85, fun _ => rfl⟩⟩ | exact ⟨rfl, ⟨fun z => absurd z (by decide), fun h => absurd h f_85⟩⟩ | exact ⟨rfl, ⟨fun z => absurd z (by decide), fun h => absurd h.1 f_85⟩⟩ | exact ⟨rfl, ⟨fun z => absurd z (by decide), fun h => absurd h.2 f_85.2⟩⟩
    · refine X_iret 88 dX6_faultOfCommand_88 rfl rfl ⟨_, rfl, _, rfl, ?_⟩
      first | exact ⟨rfl, ⟨fun _ => f_85, fun _ => rfl⟩⟩ | exact ⟨rfl, ⟨fun z => absurd z (by decide), fun h => absurd h f_85⟩⟩ | exact ⟨rfl, ⟨fun z => absurd z (by decide), fun h => absurd h.1 f_85⟩⟩ | exact ⟨rfl, ⟨fun z => absurd z (by decide), fun h => absurd h.2 f_85.2⟩⟩
  · refine X_tabIn (off := 82) 7 89 dX6_faultOfCommand_7 (by decide) (by decide) (by decide +kernel) (by decide) ?_
    refine X_aload_n 89 0 dX6_faultOfCommand_89 rfl rfl ?_
    refine X_iload_n 90 1 dX6_faultOfCommand_90 rfl rfl ?_
    refine X_cVI 91 [.int _] (e_X6_faultOfLamp _ _) dX6_faultOfCommand_91 lm_RX6_116 1 ⟨wm_X6_faultOfLamp, by decide +kernel, rfl, rfl⟩ rfl ⟨Nat.le_of_ble_eq_true rfl, Nat.le_of_ble_eq_true rfl⟩ lyL vc6 rfl rfl (Nat.le_of_ble_eq_true rfl) ?_
    rintro _ _ ⟨rfl, ⟨rfl, f_91⟩ | ⟨rfl, f_91⟩⟩
    · refine X_iret 94 dX6_faultOfCommand_94 rfl rfl ⟨_, rfl, _, rfl, ?_⟩
      first | exact ⟨rfl, ⟨fun _ => f_91, fun _ => rfl⟩⟩ | exact ⟨rfl, ⟨fun z => absurd z (by decide), fun h => absurd h f_91⟩⟩ | exact ⟨rfl, ⟨fun z => absurd z (by decide), fun h => absurd h.1 f_91⟩⟩ | exact ⟨rfl, ⟨fun z => absurd z (by decide), fun h => absurd h.2 f_91.2⟩⟩
    · refine X_iret 94 dX6_faultOfCommand_94 rfl rfl ⟨_, rfl, _, rfl, ?_⟩
      first | exact ⟨rfl, ⟨fun _ => f_91, fun _ => rfl⟩⟩ | exact ⟨rfl, ⟨fun z => absurd z (by decide), fun h => absurd h f_91⟩⟩ | exact ⟨rfl, ⟨fun z => absurd z (by decide), fun h => absurd h.1 f_91⟩⟩ | exact ⟨rfl, ⟨fun z => absurd z (by decide), fun h => absurd h.2 f_91.2⟩⟩
  · refine X_tabIn (off := 82) 7 89 dX6_faultOfCommand_7 (by decide) (by decide) (by decide +kernel) (by decide) ?_
    refine X_aload_n 89 0 dX6_faultOfCommand_89 rfl rfl ?_
    refine X_iload_n 90 1 dX6_faultOfCommand_90 rfl rfl ?_
    refine X_cVI 91 [.int _] (e_X6_faultOfLamp _ _) dX6_faultOfCommand_91 lm_RX6_116 1 ⟨wm_X6_faultOfLamp, by decide +kernel, rfl, rfl⟩ rfl ⟨Nat.le_of_ble_eq_true rfl, Nat.le_of_ble_eq_true rfl⟩ lyL vc6 rfl rfl (Nat.le_of_ble_eq_true rfl) ?_
    rintro _ _ ⟨rfl, ⟨rfl, f_91⟩ | ⟨rfl, f_91⟩⟩
    · refine X_iret 94 dX6_faultOfCommand_94 rfl rfl ⟨_, rfl, _, rfl, ?_⟩
      first | exact ⟨rfl, ⟨fun _ => f_91, fun _ => rfl⟩⟩ | exact ⟨rfl, ⟨fun z => absurd z (by decide), fun h => absurd h f_91⟩⟩ | exact ⟨rfl, ⟨fun z => absurd z (by decide), fun h => absurd h.1 f_91⟩⟩ | exact ⟨rfl, ⟨fun z => absurd z (by decide), fun h => absurd h.2 f_91.2⟩⟩
    · refine X_iret 94 dX6_faultOfCommand_94 rfl rfl ⟨_, rfl, _, rfl, ?_⟩
      first | exact ⟨rfl, ⟨fun _ => f_91, fun _ => rfl⟩⟩ | exact ⟨rfl, ⟨fun z => absurd z (by decide), fun h => absurd h f_91⟩⟩ | exact ⟨rfl, ⟨fun z => absurd z (by decide), fun h => absurd h.1 f_91⟩⟩ | exact ⟨rfl, ⟨fun z => absurd z (by decide), fun h => absurd h.2 f_91.2⟩⟩
  · refine X_tabOut 7 95 dX6_faultOfCommand_7 (by decide) (by decide) ?_
    refine X_iload_n 95 1 dX6_faultOfCommand_95 rfl rfl ?_
    refine X_cSI 96 [.int _] (e_X6_faultOfHours _ _) dX6_faultOfCommand_96 lm_RX6_135 1 ⟨wm_X6_faultOfHours, by decide +kernel, rfl, rfl⟩ rfl ⟨Nat.le_of_ble_eq_true rfl, Nat.le_of_ble_eq_true rfl⟩ rfl (Nat.le_of_ble_eq_true rfl) ?_
    rintro _ _ ⟨rfl, ⟨rfl, f_96⟩ | ⟨rfl, f_96⟩⟩
    · refine X_iret 99 dX6_faultOfCommand_99 rfl rfl ⟨_, rfl, _, rfl, ?_⟩
      first | exact ⟨rfl, ⟨fun _ => f_96, fun _ => rfl⟩⟩ | exact ⟨rfl, ⟨fun z => absurd z (by decide), fun h => absurd h f_96⟩⟩ | exact ⟨rfl, ⟨fun z => absurd z (by decide), fun h => absurd h.1 f_96⟩⟩ | exact ⟨rfl, ⟨fun z => absurd z (by decide), fun h => absurd h.2 f_96.2⟩⟩
    · refine X_iret 99 dX6_faultOfCommand_99 rfl rfl ⟨_, rfl, _, rfl, ?_⟩
      first | exact ⟨rfl, ⟨fun _ => f_96, fun _ => rfl⟩⟩ | exact ⟨rfl, ⟨fun z => absurd z (by decide), fun h => absurd h f_96⟩⟩ | exact ⟨rfl, ⟨fun z => absurd z (by decide), fun h => absurd h.1 f_96⟩⟩ | exact ⟨rfl, ⟨fun z => absurd z (by decide), fun h => absurd h.2 f_96.2⟩⟩
set_option maxHeartbeats 4000000 in
set_option maxRecDepth 100000 in
theorem e_X6_carryOut (c r lc la cn w : Nat) (μ : Mm) (hI : CIv μ c r lc la cn) (hw : μ 102 5 = nI w) (h1 : 1 ≤ w) (h8 : w ≤ 8) : EvN ΛC mX6_carryOut [.ref 109] μ (qI (fun x μ' => (x = 1 ∧ cmdOK μ w (μ 106) ∧ doC μ lc c r w (μ 106) μ') ∨ (x = 0 ∧ ¬ cmdOK μ w (μ 106) ∧ μ = μ'))) := by
  refine EvN_ofQ (by decide +kernel) rfl (fun _ => rfl) (fun _ => Nat.le_of_ble_eq_true rfl) (ls := [(0, .ref 109)]) ?_
  have hI2 := hI
  obtain ⟨hc, hr, hlc, hla, hcn, ⟨g1, g2, g3, g4, g5, g6, g7⟩, hv⟩ := hI
  have hcr := cr_le g2 g4
  refine X_aload_n 0 0 dX6_carryOut_0 rfl rfl ?_
  refine X_getR (f := 4) 1 dX6_carryOut_1 lf_RX6_40 iw6 vc6 (by decide) lyL rfl ?_
  refine X_iconst 4 (0) dX6_carryOut_4 (by decide) ?_
  refine X_cVI 5 [.int _] (e_X0_number _ _ (by decide)) dX6_carryOut_5 lm_RX6_324 1 ⟨wm_X0_number, by decide +kernel, rfl, rfl⟩ rfl ⟨Nat.le_of_ble_eq_true rfl, Nat.le_of_ble_eq_true rfl⟩ lyC vc0 rfl rfl (Nat.le_of_ble_eq_true rfl) ?_
  rintro _ _ ⟨rfl, rfl⟩
  refine X_istore_n 8 [(1, .int _), (0, .ref _)] dX6_carryOut_8 rfl (by decide) rfl ?_
  refine X_aload_n 9 1 dX6_carryOut_9 rfl rfl ?_
  refine X_getR (f := 4) 10 dX6_carryOut_10 lf_RX6_40 iw6 vc6 (by decide) lyL rfl ?_
  refine X_iconst 13 (1) dX6_carryOut_13 (by decide) ?_
  refine X_cVI 14 [.int _] (e_X0_number _ _ (by decide)) dX6_carryOut_14 lm_RX6_324 1 ⟨wm_X0_number, by decide +kernel, rfl, rfl⟩ rfl ⟨Nat.le_of_ble_eq_true rfl, Nat.le_of_ble_eq_true rfl⟩ lyC vc0 rfl rfl (Nat.le_of_ble_eq_true rfl) ?_
  rintro _ _ ⟨rfl, rfl⟩
  refine X_istore_n 17 [(2, .int _), (1, .int _), (0, .ref _)] dX6_carryOut_17 rfl (by decide) rfl ?_
  refine X_aload_n 18 2 dX6_carryOut_18 rfl rfl ?_
  refine X_getR (f := 4) 19 dX6_carryOut_19 lf_RX6_40 iw6 vc6 (by decide) lyL rfl ?_
  refine X_iconst 22 (2) dX6_carryOut_22 (by decide) ?_
  refine X_cVI 23 [.int _] (e_X0_number _ _ (by decide)) dX6_carryOut_23 lm_RX6_324 1 ⟨wm_X0_number, by decide +kernel, rfl, rfl⟩ rfl ⟨Nat.le_of_ble_eq_true rfl, Nat.le_of_ble_eq_true rfl⟩ lyC vc0 rfl rfl (Nat.le_of_ble_eq_true rfl) ?_
  rintro _ _ ⟨rfl, rfl⟩
  refine X_istore_n 26 [(3, .int _), (2, .int _), (1, .int _), (0, .ref _)] dX6_carryOut_26 rfl (by decide) rfl ?_
  refine X_aload_n 27 3 dX6_carryOut_27 rfl rfl ?_
  refine X_getR (f := 4) 28 dX6_carryOut_28 lf_RX6_40 iw6 vc6 (by decide) lyL rfl ?_
  refine X_iconst 31 (3) dX6_carryOut_31 (by decide) ?_
  refine X_cVI 32 [.int _] (e_X0_number _ _ (by decide)) dX6_carryOut_32 lm_RX6_324 1 ⟨wm_X0_number, by decide +kernel, rfl, rfl⟩ rfl ⟨Nat.le_of_ble_eq_true rfl, Nat.le_of_ble_eq_true rfl⟩ lyC vc0 rfl rfl (Nat.le_of_ble_eq_true rfl) ?_
  rintro _ _ ⟨rfl, rfl⟩
  refine X_istore 35 [(4, .int _), (3, .int _), (2, .int _), (1, .int _), (0, .ref _)] dX6_carryOut_35 (by decide) rfl ?_
  refine X_aload_n 37 4 dX6_carryOut_37 rfl rfl ?_
  refine X_getR (f := 4) 38 dX6_carryOut_38 lf_RX6_40 iw6 vc6 (by decide) lyL rfl ?_
  refine X_iconst 41 (4) dX6_carryOut_41 (by decide) ?_
  refine X_cVI 42 [.int _] (e_X0_number _ _ (by decide)) dX6_carryOut_42 lm_RX6_324 1 ⟨wm_X0_number, by decide +kernel, rfl, rfl⟩ rfl ⟨Nat.le_of_ble_eq_true rfl, Nat.le_of_ble_eq_true rfl⟩ lyC vc0 rfl rfl (Nat.le_of_ble_eq_true rfl) ?_
  rintro _ _ ⟨rfl, rfl⟩
  refine X_istore 45 [(5, .int _), (4, .int _), (3, .int _), (2, .int _), (1, .int _), (0, .ref _)] dX6_carryOut_45 (by decide) rfl ?_
  refine X_aload_n 47 5 dX6_carryOut_47 rfl rfl ?_
  refine X_iload_n 48 4 dX6_carryOut_48 rfl rfl ?_
  refine X_iload_n 49 3 dX6_carryOut_49 rfl rfl ?_
  refine X_iload_n 50 2 dX6_carryOut_50 rfl rfl ?_
  refine X_iload 51 1 dX6_carryOut_51 rfl ?_
  refine X_iload 53 0 dX6_carryOut_53 rfl ?_
  refine X_cVI 55 [.int _, .int _, .int _, .int _, .int _] (e_X6_faultOfCommand w (μ 106) _ hw h1 h8) dX6_carryOut_55 lm_RX6_327 5 ⟨wm_X6_faultOfCommand, by decide +kernel, rfl, rfl⟩ rfl ⟨Nat.le_of_ble_eq_true rfl, Nat.le_of_ble_eq_true rfl⟩ lyL vc6 rfl rfl (Nat.le_of_ble_eq_true rfl) ?_
  rintro _ _ ⟨rfl, hfc⟩
  refine X_if_eq 58 63 dX6_carryOut_58 (by decide) (fun c_58 => ?_) (fun c_58 => ?_)
  · have hok := hfc.mp c_58
    refine X_aload_n 63 5 dX6_carryOut_63 rfl rfl ?_
    refine X_getR (f := 4) 64 dX6_carryOut_64 lf_RX6_40 iw6 vc6 (by decide) lyL rfl ?_
    refine X_getI (f := 5) 67 dX6_carryOut_67 lf_RX6_330 iw0 vc0 (by decide) lyC rfl ?_
    rw [hw]
    rcases (show w = 1 ∨ w = 2 ∨ w = 3 ∨ w = 4 ∨ w = 5 ∨ w = 6 ∨ w = 7 ∨ w = 8 by omega) with rfl | rfl | rfl | rfl | rfl | rfl | rfl | rfl
    · refine X_tabIn (off := 42) 70 112 dX6_carryOut_70 (by decide) (by decide) (by decide +kernel) (by decide) ?_
      refine X_aload_n 112 5 dX6_carryOut_112 rfl rfl ?_
      refine X_getR (f := 0) 113 dX6_carryOut_113 lf_RX6_12 iw6 vc6 (by decide) lyL rfl ?_
      refine X_iload_n 116 4 dX6_carryOut_116 rfl rfl ?_
      refine X_iload_n 117 3 dX6_carryOut_117 rfl rfl ?_
      refine X_cVV 118 [.int _, .int _] (e_X4_startWall 0 (Or.inl rfl) _ _ _) dX6_carryOut_118 lm_RX6_60 2 ⟨wm_X4_startWall, by decide +kernel, rfl, rfl⟩ rfl ⟨Nat.le_of_ble_eq_true rfl, Nat.le_of_ble_eq_true rfl⟩ (lyS 0 (Or.inl rfl)) vc4 rfl rfl (Nat.le_of_ble_eq_true rfl) ?_
      rintro _ rfl
      refine X_goto 121 211 dX6_carryOut_121 (by decide) ?_
      refine X_iconst 211 (1) dX6_carryOut_211 (by decide) ?_
      refine X_iret 212 dX6_carryOut_212 rfl rfl ⟨_, rfl, _, rfl, ?_⟩
      refine Or.inl ⟨rfl, ?_⟩
      first | exact ⟨hok, rfl⟩ | exact ⟨hok, doC2 ex ey eu ev (by omega) (by omega) (by omega) (by omega)⟩ | exact ⟨hok, doC4 ek ei (by omega) (by omega)⟩ | exact ⟨hok, doC6 ek (by omega)⟩ | exact ⟨hok, doC7 ek (by omega)⟩ | exact ⟨hok, m0, hR, rfl⟩
    · refine X_tabIn (off := 54) 70 124 dX6_carryOut_70 (by decide) (by decide) (by decide +kernel) (by decide) ?_
      have hok2 := hok
      obtain ⟨⟨p1, p2⟩, q1, q2, -⟩ := (hok2 : (plOK μ (μ 106 0) (μ 106 1) ∧ plOK μ (μ 106 2) (μ 106 3)) ∧ ptOK (μ 106 0) (μ 106 1) (μ 106 2) (μ 106 3) (μ 106 4))
      obtain ⟨x, hx, ex⟩ := nat_lt p1.1 (hc ▸ p1.2.1) (by omega)
      obtain ⟨y, hy, ey⟩ := nat_lt p1.2.2.1 (hr ▸ p1.2.2.2) (by omega)
      obtain ⟨u, hu, eu⟩ := nat_lt p2.1 (hc ▸ p2.2.1) (by omega)
      obtain ⟨v, hv2, ev⟩ := nat_lt p2.2.2.1 (hr ▸ p2.2.2.2) (by omega)
      rw [ex, eu] at q1
      rw [ey, ev] at q2
      have q3 := (nI_leI (by omega) (by omega)).mp q1
      have q4 := (nI_leI (by omega) (by omega)).mp q2
      rw [ex, ey, eu, ev]
      refine X_aload_n 124 5 dX6_carryOut_124 rfl rfl ?_
      refine X_getR (f := 0) 125 dX6_carryOut_125 lf_RX6_12 iw6 vc6 (by decide) lyL rfl ?_
      refine X_iload_n 128 4 dX6_carryOut_128 rfl rfl ?_
      refine X_iload_n 129 3 dX6_carryOut_129 rfl rfl ?_
      refine X_iload_n 130 2 dX6_carryOut_130 rfl rfl ?_
      refine X_iload 131 1 dX6_carryOut_131 rfl ?_
      refine X_iload 133 0 dX6_carryOut_133 rfl ?_
      refine X_cVI 135 [.int _, .int _, .int _, .int _, .int _] (e_X4_setTargets 0 (Or.inl rfl) x y u v c _ _ hc q3 hu g2 q4 (by omega)) dX6_carryOut_135 lm_RX6_71 5 ⟨wm_X4_setTargets, by decide +kernel, rfl, rfl⟩ rfl ⟨Nat.le_of_ble_eq_true rfl, Nat.le_of_ble_eq_true rfl⟩ (lyS 0 (Or.inl rfl)) vc4 rfl rfl (Nat.le_of_ble_eq_true rfl) ?_
      rintro _ _ ⟨rfl, rfl⟩
      refine X_popi 138 dX6_carryOut_138 ?_
      refine X_goto 139 211 dX6_carryOut_139 (by decide) ?_
      refine X_iconst 211 (1) dX6_carryOut_211 (by decide) ?_
      refine X_iret 212 dX6_carryOut_212 rfl rfl ⟨_, rfl, _, rfl, ?_⟩
      refine Or.inl ⟨rfl, ?_⟩
      first | exact ⟨hok, rfl⟩ | exact ⟨hok, doC2 ex ey eu ev (by omega) (by omega) (by omega) (by omega)⟩ | exact ⟨hok, doC4 ek ei (by omega) (by omega)⟩ | exact ⟨hok, doC6 ek (by omega)⟩ | exact ⟨hok, doC7 ek (by omega)⟩ | exact ⟨hok, m0, hR, rfl⟩
    · refine X_tabIn (off := 72) 70 142 dX6_carryOut_70 (by decide) (by decide) (by decide +kernel) (by decide) ?_
      refine X_aload_n 142 5 dX6_carryOut_142 rfl rfl ?_
      refine X_getR (f := 0) 143 dX6_carryOut_143 lf_RX6_12 iw6 vc6 (by decide) lyL rfl ?_
      refine X_iload_n 146 4 dX6_carryOut_146 rfl rfl ?_
      refine X_iload_n 147 3 dX6_carryOut_147 rfl rfl ?_
      refine X_cVI 148 [.int _, .int _] (e_X4_hangLamp 0 (Or.inl rfl) lc _ _ _ hlc ((nI_ltI (b := 8) (by omega) (by decide)).mp (hlc ▸ (hok : nlOK (μ 106 0) (μ 106 1) ∧ μ 0 5 < 8).2))) dX6_carryOut_148 lm_RX6_80 2 ⟨wm_X4_hangLamp, by decide +kernel, rfl, rfl⟩ rfl ⟨Nat.le_of_ble_eq_true rfl, Nat.le_of_ble_eq_true rfl⟩ (lyS 0 (Or.inl rfl)) vc4 rfl rfl (Nat.le_of_ble_eq_true rfl) ?_
      rintro _ _ ⟨rfl, rfl⟩
      refine X_popi 151 dX6_carryOut_151 ?_
      refine X_goto 152 211 dX6_carryOut_152 (by decide) ?_
      refine X_iconst 211 (1) dX6_carryOut_211 (by decide) ?_
      refine X_iret 212 dX6_carryOut_212 rfl rfl ⟨_, rfl, _, rfl, ?_⟩
      refine Or.inl ⟨rfl, ?_⟩
      first | exact ⟨hok, rfl⟩ | exact ⟨hok, doC2 ex ey eu ev (by omega) (by omega) (by omega) (by omega)⟩ | exact ⟨hok, doC4 ek ei (by omega) (by omega)⟩ | exact ⟨hok, doC6 ek (by omega)⟩ | exact ⟨hok, doC7 ek (by omega)⟩ | exact ⟨hok, m0, hR, rfl⟩
    · refine X_tabIn (off := 85) 70 155 dX6_carryOut_70 (by decide) (by decide) (by decide +kernel) (by decide) ?_
      have hok2 := hok
      obtain ⟨⟨p1, p2⟩, -⟩ := (hok2 : (lpOK μ (μ 106 0) ∧ rgI (μ 106 1) 0 3) ∧ coOK (μ 106 2) (μ 106 3))
      obtain ⟨k, hk, ek⟩ := nat_lt (p1).1 (hlc ▸ (p1).2) (by omega)
      rw [ek]
      obtain ⟨i, hi, ei⟩ := nat_le (n := 3) rfl p2 (by decide)
      rw [ei]
      refine X_aload_n 155 5 dX6_carryOut_155 rfl rfl ?_
      refine X_getR (f := 0) 156 dX6_carryOut_156 lf_RX6_12 iw6 vc6 (by decide) lyL rfl ?_
      refine X_iload_n 159 4 dX6_carryOut_159 rfl rfl ?_
      refine X_iload_n 160 3 dX6_carryOut_160 rfl rfl ?_
      refine X_iload_n 161 2 dX6_carryOut_161 rfl rfl ?_
      refine X_iload 162 1 dX6_carryOut_162 rfl ?_
      refine X_cVV 164 [.int _, .int _, .int _, .int _] (e_X4_moveCorner 0 (Or.inl rfl) k i _ _ _ (by omega) (by omega)) dX6_carryOut_164 lm_RX6_87 4 ⟨wm_X4_moveCorner, by decide +kernel, rfl, rfl⟩ rfl ⟨Nat.le_of_ble_eq_true rfl, Nat.le_of_ble_eq_true rfl⟩ (lyS 0 (Or.inl rfl)) vc4 rfl rfl (Nat.le_of_ble_eq_true rfl) ?_
      rintro _ rfl
      refine X_goto 167 211 dX6_carryOut_167 (by decide) ?_
      refine X_iconst 211 (1) dX6_carryOut_211 (by decide) ?_
      refine X_iret 212 dX6_carryOut_212 rfl rfl ⟨_, rfl, _, rfl, ?_⟩
      refine Or.inl ⟨rfl, ?_⟩
      first | exact ⟨hok, rfl⟩ | exact ⟨hok, doC2 ex ey eu ev (by omega) (by omega) (by omega) (by omega)⟩ | exact ⟨hok, doC4 ek ei (by omega) (by omega)⟩ | exact ⟨hok, doC6 ek (by omega)⟩ | exact ⟨hok, doC7 ek (by omega)⟩ | exact ⟨hok, m0, hR, rfl⟩
    · refine X_tabIn (off := 100) 70 170 dX6_carryOut_70 (by decide) (by decide) (by decide +kernel) (by decide) ?_
      refine X_aload_n 170 5 dX6_carryOut_170 rfl rfl ?_
      refine X_getR (f := 0) 171 dX6_carryOut_171 lf_RX6_12 iw6 vc6 (by decide) lyL rfl ?_
      refine X_iload_n 174 4 dX6_carryOut_174 rfl rfl ?_
      refine X_iload_n 175 3 dX6_carryOut_175 rfl rfl ?_
      refine X_cVV 176 [.int _, .int _] (e_X4_moveWall 0 (Or.inl rfl) _ _ _) dX6_carryOut_176 lm_RX6_129 2 ⟨wm_X4_moveWall, by decide +kernel, rfl, rfl⟩ rfl ⟨Nat.le_of_ble_eq_true rfl, Nat.le_of_ble_eq_true rfl⟩ (lyS 0 (Or.inl rfl)) vc4 rfl rfl (Nat.le_of_ble_eq_true rfl) ?_
      rintro _ rfl
      refine X_goto 179 211 dX6_carryOut_179 (by decide) ?_
      refine X_iconst 211 (1) dX6_carryOut_211 (by decide) ?_
      refine X_iret 212 dX6_carryOut_212 rfl rfl ⟨_, rfl, _, rfl, ?_⟩
      refine Or.inl ⟨rfl, ?_⟩
      first | exact ⟨hok, rfl⟩ | exact ⟨hok, doC2 ex ey eu ev (by omega) (by omega) (by omega) (by omega)⟩ | exact ⟨hok, doC4 ek ei (by omega) (by omega)⟩ | exact ⟨hok, doC6 ek (by omega)⟩ | exact ⟨hok, doC7 ek (by omega)⟩ | exact ⟨hok, m0, hR, rfl⟩
    · refine X_tabIn (off := 112) 70 182 dX6_carryOut_70 (by decide) (by decide) (by decide +kernel) (by decide) ?_
      have p1 : lpOK μ (μ 106 0) := hok
      obtain ⟨k, hk, ek⟩ := nat_lt (p1).1 (hlc ▸ (p1).2) (by omega)
      rw [ek]
      refine X_aload_n 182 5 dX6_carryOut_182 rfl rfl ?_
      refine X_getR (f := 0) 183 dX6_carryOut_183 lf_RX6_12 iw6 vc6 (by decide) lyL rfl ?_
      refine X_iload_n 186 4 dX6_carryOut_186 rfl rfl ?_
      refine X_iconst 187 (0) dX6_carryOut_187 (by decide) ?_
      refine X_cVV 188 [.int _, .int _] (e_X4_switchLamp 0 (Or.inl rfl) k _ _ (by omega)) dX6_carryOut_188 lm_RX6_122 2 ⟨wm_X4_switchLamp, by decide +kernel, rfl, rfl⟩ rfl ⟨Nat.le_of_ble_eq_true rfl, Nat.le_of_ble_eq_true rfl⟩ (lyS 0 (Or.inl rfl)) vc4 rfl rfl (Nat.le_of_ble_eq_true rfl) ?_
      rintro _ rfl
      refine X_goto 191 211 dX6_carryOut_191 (by decide) ?_
      refine X_iconst 211 (1) dX6_carryOut_211 (by decide) ?_
      refine X_iret 212 dX6_carryOut_212 rfl rfl ⟨_, rfl, _, rfl, ?_⟩
      refine Or.inl ⟨rfl, ?_⟩
      first | exact ⟨hok, rfl⟩ | exact ⟨hok, doC2 ex ey eu ev (by omega) (by omega) (by omega) (by omega)⟩ | exact ⟨hok, doC4 ek ei (by omega) (by omega)⟩ | exact ⟨hok, doC6 ek (by omega)⟩ | exact ⟨hok, doC7 ek (by omega)⟩ | exact ⟨hok, m0, hR, rfl⟩
    · refine X_tabIn (off := 124) 70 194 dX6_carryOut_70 (by decide) (by decide) (by decide +kernel) (by decide) ?_
      have p1 : lpOK μ (μ 106 0) := hok
      obtain ⟨k, hk, ek⟩ := nat_lt (p1).1 (hlc ▸ (p1).2) (by omega)
      rw [ek]
      refine X_aload_n 194 5 dX6_carryOut_194 rfl rfl ?_
      refine X_getR (f := 0) 195 dX6_carryOut_195 lf_RX6_12 iw6 vc6 (by decide) lyL rfl ?_
      refine X_iload_n 198 4 dX6_carryOut_198 rfl rfl ?_
      refine X_iconst 199 (1) dX6_carryOut_199 (by decide) ?_
      refine X_cVV 200 [.int _, .int _] (e_X4_switchLamp 0 (Or.inl rfl) k _ _ (by omega)) dX6_carryOut_200 lm_RX6_122 2 ⟨wm_X4_switchLamp, by decide +kernel, rfl, rfl⟩ rfl ⟨Nat.le_of_ble_eq_true rfl, Nat.le_of_ble_eq_true rfl⟩ (lyS 0 (Or.inl rfl)) vc4 rfl rfl (Nat.le_of_ble_eq_true rfl) ?_
      rintro _ rfl
      refine X_goto 203 211 dX6_carryOut_203 (by decide) ?_
      refine X_iconst 211 (1) dX6_carryOut_211 (by decide) ?_
      refine X_iret 212 dX6_carryOut_212 rfl rfl ⟨_, rfl, _, rfl, ?_⟩
      refine Or.inl ⟨rfl, ?_⟩
      first | exact ⟨hok, rfl⟩ | exact ⟨hok, doC2 ex ey eu ev (by omega) (by omega) (by omega) (by omega)⟩ | exact ⟨hok, doC4 ek ei (by omega) (by omega)⟩ | exact ⟨hok, doC6 ek (by omega)⟩ | exact ⟨hok, doC7 ek (by omega)⟩ | exact ⟨hok, m0, hR, rfl⟩
    · refine X_tabOut 70 206 dX6_carryOut_70 (by decide) (by decide) ?_
      refine X_aload_n 206 5 dX6_carryOut_206 rfl rfl ?_
      refine X_iload_n 207 4 dX6_carryOut_207 rfl rfl ?_
      refine X_cVV 208 [.int _] (e_X6_burnHours c r lc la cn _ _ hI2) dX6_carryOut_208 lm_RX6_138 1 ⟨wm_X6_burnHours, by decide +kernel, rfl, rfl⟩ rfl ⟨Nat.le_of_ble_eq_true rfl, Nat.le_of_ble_eq_true rfl⟩ lyL vc6 rfl rfl (Nat.le_of_ble_eq_true rfl) ?_
      rintro _ ⟨m0, hR, rfl⟩
      refine X_iconst 211 (1) dX6_carryOut_211 (by decide) ?_
      refine X_iret 212 dX6_carryOut_212 rfl rfl ⟨_, rfl, _, rfl, ?_⟩
      refine Or.inl ⟨rfl, ?_⟩
      first | exact ⟨hok, rfl⟩ | exact ⟨hok, doC2 ex ey eu ev (by omega) (by omega) (by omega) (by omega)⟩ | exact ⟨hok, doC4 ek ei (by omega) (by omega)⟩ | exact ⟨hok, doC6 ek (by omega)⟩ | exact ⟨hok, doC7 ek (by omega)⟩ | exact ⟨hok, m0, hR, rfl⟩
  · have hno : ¬ cmdOK μ w (μ 106) := fun z => c_58 (hfc.mpr z)
    refine X_iconst 61 (0) dX6_carryOut_61 (by decide) ?_
    refine X_iret 62 dX6_carryOut_62 rfl rfl ⟨_, rfl, _, rfl, ?_⟩
    refine Or.inr ⟨rfl, ?_⟩
    exact ⟨hno, rfl⟩
set_option maxHeartbeats 4000000 in
set_option maxRecDepth 100000 in
theorem e_X6_type (L : Nat) (v : Int32) (μ : Mm) (ht : rgI v 0 127) (h : μ 102 2 = nI L) (hL : L < 150) : EvN ΛC mX6_type [.ref 109, .int v] μ (qI (fun x μ' => nI (L + 1) = x ∧ uM (uM μ 105 L v) 102 2 (nI (L + 1)) = μ')) := by
  refine EvN_ofQ (by decide +kernel) rfl (fun _ => rfl) (fun _ => Nat.le_of_ble_eq_true rfl) (ls := [(0, .ref 109), (1, .int v)]) ?_
  refine X_iload_n 0 1 dX6_type_0 rfl rfl ?_
  refine X_iconst 1 (0) dX6_type_1 (by decide) ?_
  refine X_bipush 2 (127) dX6_type_2 (by decide) ?_
  refine X_cSI 4 [.int _, .int _, .int _] (e_X6_faultOfRange _ _ _ _) dX6_type_4 lm_RX6_147 3 ⟨wm_X6_faultOfRange, by decide +kernel, rfl, rfl⟩ rfl ⟨Nat.le_of_ble_eq_true rfl, Nat.le_of_ble_eq_true rfl⟩ rfl (Nat.le_of_ble_eq_true rfl) ?_
  rintro _ _ ⟨rfl, ⟨rfl, f_4⟩ | ⟨rfl, f_4⟩⟩
  · refine X_cSV 7 [.int _] (e_X6_refuseArgument _ _ (by decide)) dX6_type_7 lm_RX6_48 1 ⟨wm_X6_refuseArgument, by decide +kernel, rfl, rfl⟩ rfl ⟨Nat.le_of_ble_eq_true rfl, Nat.le_of_ble_eq_true rfl⟩ rfl (Nat.le_of_ble_eq_true rfl) ?_
    rintro _ rfl
    refine X_aload_n 10 0 dX6_type_10 rfl rfl ?_
    refine X_getR (f := 4) 11 dX6_type_11 lf_RX6_40 iw6 vc6 (by decide) lyL rfl ?_
    refine X_getI (f := 2) 14 dX6_type_14 lf_RX6_219 iw0 vc0 (by decide) lyC rfl ?_
    refine X_sipush 17 (150) dX6_type_17 (by decide) ?_
    rw [h]
    refine X_icmp_ge 20 27 dX6_type_20 (by decide) (fun c_20 => ?_) (fun c_20 => ?_)
    · exact absurd ((nI_leI (a := 150) (by decide) (by omega)).mp c_20) (by omega)
    · refine X_iconst 23 (0) dX6_type_23 (by decide) ?_
      refine X_goto 24 28 dX6_type_24 (by decide) ?_
      refine X_cSV 28 [.int _] (e_X6_refuseState _ _ (by decide)) dX6_type_28 lm_RX6_77 1 ⟨wm_X6_refuseState, by decide +kernel, rfl, rfl⟩ rfl ⟨Nat.le_of_ble_eq_true rfl, Nat.le_of_ble_eq_true rfl⟩ rfl (Nat.le_of_ble_eq_true rfl) ?_
      rintro _ rfl
      refine X_aload_n 31 0 dX6_type_31 rfl rfl ?_
      refine X_getR (f := 4) 32 dX6_type_32 lf_RX6_40 iw6 vc6 (by decide) lyL rfl ?_
      refine X_iload_n 35 1 dX6_type_35 rfl rfl ?_
      refine X_cVI 36 [.int _] (e_X0_append L v _ h hL) dX6_type_36 lm_RX6_222 1 ⟨wm_X0_append, by decide +kernel, rfl, rfl⟩ rfl ⟨Nat.le_of_ble_eq_true rfl, Nat.le_of_ble_eq_true rfl⟩ lyC vc0 rfl rfl (Nat.le_of_ble_eq_true rfl) ?_
      rintro _ _ ⟨rfl, rfl⟩
      refine X_iret 39 dX6_type_39 rfl rfl ⟨_, rfl, _, rfl, ?_⟩
      exact ⟨rfl, rfl⟩
  · exact absurd ht f_4
set_option maxHeartbeats 4000000 in
set_option maxRecDepth 100000 in
theorem e_X6_clearCommands  (μ : Mm) : EvN ΛC mX6_clearCommands [.ref 109] μ (qI (fun x μ' => μ 102 2 = x ∧ setRow (uM μ 102 2 0) 105 150 (fun _ => 0) = μ')) := by
  refine EvN_ofQ (by decide +kernel) rfl (fun _ => rfl) (fun _ => Nat.le_of_ble_eq_true rfl) (ls := [(0, .ref 109)]) ?_
  refine X_aload_n 0 0 dX6_clearCommands_0 rfl rfl ?_
  refine X_getR (f := 4) 1 dX6_clearCommands_1 lf_RX6_40 iw6 vc6 (by decide) lyL rfl ?_
  refine X_cVI 4 [] (e_X0_empty _) dX6_clearCommands_4 lm_RX6_225 0 ⟨wm_X0_empty, by decide +kernel, rfl, rfl⟩ rfl ⟨Nat.le_of_ble_eq_true rfl, Nat.le_of_ble_eq_true rfl⟩ lyC vc0 rfl rfl (Nat.le_of_ble_eq_true rfl) ?_
  rintro _ _ ⟨rfl, rfl⟩
  refine X_iret 7 dX6_clearCommands_7 rfl rfl ⟨_, rfl, _, rfl, ?_⟩
  exact ⟨rfl, rfl⟩
set_option maxHeartbeats 4000000 in
set_option maxRecDepth 100000 in
theorem e_X6_runCommands (c r lc la cn : Nat) (L : Nat) (μ : Mm) (hI : CIv μ c r lc la cn) (hT : TX μ L) : EvN ΛC mX6_runCommands [.ref 109] μ (qI (fun x μ' => ((¬ (ffC μ L).2.2.1 < 0 ∧ -10 - (ffC μ L).2.2.1 = x ∧ (CM μ (ffC μ L)) = μ') ∨ ((ffC μ L).2.2.1 < 0 ∧ ∃ k, nI k = x ∧ runC L 150 0 c r lc (cmM (saveM (CM μ (ffC μ L)) la cn) 0 (-1000) ((saveM (CM μ (ffC μ L)) la cn) 102 5) ((saveM (CM μ (ffC μ L)) la cn) 106)) k μ')))) := by
  refine EvN_ofQ (by decide +kernel) rfl (fun _ => rfl) (fun _ => Nat.le_of_ble_eq_true rfl) (ls := [(0, .ref 109)]) ?_
  obtain ⟨hc, hr, hlc, hla, hcn, ⟨g1, g2, g3, g4, g5, g6, g7⟩, hv⟩ := hI
  have hcr := cr_le g2 g4
  have hI0 : CIv μ c r lc la cn := ⟨hc, hr, hlc, hla, hcn, ⟨g1, g2, g3, g4, g5, g6, g7⟩, hv⟩
  have hI1 := CIv_cm hI0 (ffC μ L).2.1 (ffC μ L).2.2.1 (ffC μ L).2.2.2.1 (ffC μ L).2.2.2.2
  have hI2 := CIv_cm (CIv_save hI1) 0 (-1000) ((saveM (CM μ (ffC μ L)) la cn) 102 5) ((saveM (CM μ (ffC μ L)) la cn) 106)
  have hT1 : TX (CM μ (ffC μ L)) L := hT.cm _ _ _ _
  have hT2 : TX (saveM (CM μ (ffC μ L)) la cn) L := TX_same hT1 (saveM_out g6 (by omega)) (fun q => saveM_out g6 (by omega))
  have hT3 : TX (cmM (saveM (CM μ (ffC μ L)) la cn) 0 (-1000) ((saveM (CM μ (ffC μ L)) la cn) 102 5) ((saveM (CM μ (ffC μ L)) la cn) 106)) L := hT2.cm _ _ _ _
  refine X_aload_n 0 0 dX6_runCommands_0 rfl rfl ?_
  refine X_getR (f := 4) 1 dX6_runCommands_1 lf_RX6_40 iw6 vc6 (by decide) lyL rfl ?_
  refine X_cVI 4 [] (e_X0_findFault L _ hT) dX6_runCommands_4 lm_RX6_228 0 ⟨wm_X0_findFault, by decide +kernel, rfl, rfl⟩ rfl ⟨Nat.le_of_ble_eq_true rfl, Nat.le_of_ble_eq_true rfl⟩ lyC vc0 rfl rfl (Nat.le_of_ble_eq_true rfl) ?_
  rintro _ _ ⟨rfl, rfl⟩
  refine X_istore_n 7 [(1, .int _), (0, .ref _)] dX6_runCommands_7 rfl (by decide) rfl ?_
  refine X_iload_n 8 0 dX6_runCommands_8 rfl rfl ?_
  refine X_if_lt 9 17 dX6_runCommands_9 (by decide) (fun c_9 => ?_) (fun c_9 => ?_)
  · have hf0 := c_9
    refine X_aload_n 17 1 dX6_runCommands_17 rfl rfl ?_
    refine X_getR (f := 3) 18 dX6_runCommands_18 lf_RX6_33 iw6 vc6 (by decide) lyL rfl ?_
    refine X_aload_n 21 1 dX6_runCommands_21 rfl rfl ?_
    refine X_getR (f := 0) 22 dX6_runCommands_22 lf_RX6_12 iw6 vc6 (by decide) lyL rfl ?_
    refine X_cVV 25 [.ref _] (e_X2_save la cn _ hI1.2.2.2.1 g6 hI1.2.2.2.2.1 g7) dX6_runCommands_25 lm_RX6_52 1 ⟨wm_X2_save, by decide +kernel, rfl, rfl⟩ rfl ⟨Nat.le_of_ble_eq_true rfl, Nat.le_of_ble_eq_true rfl⟩ lyH vc2 rfl rfl (Nat.le_of_ble_eq_true rfl) ?_
    rintro _ rfl
    refine X_aload_n 28 1 dX6_runCommands_28 rfl rfl ?_
    refine X_getR (f := 4) 29 dX6_runCommands_29 lf_RX6_40 iw6 vc6 (by decide) lyL rfl ?_
    refine X_cVV 32 [] (e_X0_rewind _) dX6_runCommands_32 lm_RX6_231 0 ⟨wm_X0_rewind, by decide +kernel, rfl, rfl⟩ rfl ⟨Nat.le_of_ble_eq_true rfl, Nat.le_of_ble_eq_true rfl⟩ lyC vc0 rfl rfl (Nat.le_of_ble_eq_true rfl) ?_
    rintro _ rfl
    rw [cm_rw]
    refine X_iconst 35 (0) dX6_runCommands_35 (by decide) ?_
    refine X_istore_n 36 [(2, .int _), (1, .int _), (0, .ref _)] dX6_runCommands_36 rfl (by decide) rfl ?_
    refine X_iconst 37 (0) dX6_runCommands_37 (by decide) ?_
    refine X_istore_n 38 [(3, .int _), (2, .int _), (1, .int _), (0, .ref _)] dX6_runCommands_38 rfl (by decide) rfl ?_
    refine X_sub [3, 2, 1, 0] [(0, .ref _), (1, .int _), (2, .int _), (3, .int _)] rfl ?_
    have L_39 : ∀ (kf : Nat) (i : Nat) (p : Nat) (c1 : Nat) (r1 : Nat) (lc1 : Nat) (m : Mm), i ≤ 150 → 150 < i + kf → p ≤ L → m 102 3 = nI p → TX m L → CIv m c1 r1 lc1 ((la + 1) % 4) (if cn < 4 then cn + 1 else 4) → (∀ k μ', runC L (150 - i) p c1 r1 lc1 m k μ' → runC L 150 0 c r lc (cmM (saveM (CM μ (ffC μ L)) la cn) 0 (-1000) ((saveM (CM μ (ffC μ L)) la cn) 102 5) ((saveM (CM μ (ffC μ L)) la cn) 106)) (i + k) μ') → ∀ (x39_2 : Int32) (x39_3 : Int32), nI i = x39_2 → nI i = x39_3 → X false ΛC mX6_runCommands (QN (qI (fun x μ' => ((¬ (ffC μ L).2.2.1 < 0 ∧ -10 - (ffC μ L).2.2.1 = x ∧ (CM μ (ffC μ L)) = μ') ∨ ((ffC μ L).2.2.1 < 0 ∧ ∃ k, nI k = x ∧ runC L 150 0 c r lc (cmM (saveM (CM μ (ffC μ L)) la cn) 0 (-1000) ((saveM (CM μ (ffC μ L)) la cn) 102 5) ((saveM (CM μ (ffC μ L)) la cn) 106)) k μ'))))) 39 [(0, .ref 109), (1, .int ((ffC μ L).2.2.1)), (2, .int x39_2), (3, .int x39_3)] [] m := by
      intro kf
      induction kf with
      | zero => intro i p c1 r1 lc1 m hp39_0 hp39_1 hp39_2 hp39_3 hp39_4 hp39_5 hp39_6; exfalso; omega
      | succ kf ih_39 =>
        intro i p c1 r1 lc1 m hp39_0 hp39_1 hp39_2 hp39_3 hp39_4 hp39_5 hp39_6 x39_2 x39_3
        rintro rfl rfl
        have hL := hT.2.1
        have hst : ∀ μ', ¬ ((rdC (bt m) L p (m 102 4) (m 102 5) (m 106)).1 = true ∧ cmdOK (CM m (rdC (bt m) L p (m 102 4) (m 102 5) (m 106))) (wOf (CM m (rdC (bt m) L p (m 102 4) (m 102 5) (m 106)))) ((CM m (rdC (bt m) L p (m 102 4) (m 102 5) (m 106))) 106)) → i < 150 → (CM m (rdC (bt m) L p (m 102 4) (m 102 5) (m 106))) = μ' → runC L 150 0 c r lc (cmM (saveM (CM μ (ffC μ L)) la cn) 0 (-1000) ((saveM (CM μ (ffC μ L)) la cn) 102 5) ((saveM (CM μ (ffC μ L)) la cn) 106)) i μ' := fun μ' h1 h2 h3 => by
          have h4 := hp39_6 0 μ' (by rw [show 150 - i = (150 - (i + 1)) + 1 by omega]; exact Or.inr ⟨h1, rfl, h3⟩)
          exact h4
        refine X_iload_n 39 3 dX6_runCommands_39 rfl rfl ?_
        refine X_sipush 40 (150) dX6_runCommands_40 (by decide) ?_
        refine X_icmp_ge 43 75 dX6_runCommands_43 (by decide) (fun c_43 => ?_) (fun c_43 => ?_)
        · have hge : 150 ≤ i := c_ge (k := 150) rfl (by decide) (by omega) c_43
          have hfin : runC L 150 0 c r lc (cmM (saveM (CM μ (ffC μ L)) la cn) 0 (-1000) ((saveM (CM μ (ffC μ L)) la cn) 102 5) ((saveM (CM μ (ffC μ L)) la cn) 106)) i m := hp39_6 0 m (by rw [show 150 - i = 0 by omega]; exact ⟨rfl, rfl⟩)
          refine X_iload_n 75 2 dX6_runCommands_75 rfl rfl ?_
          refine X_iret 76 dX6_runCommands_76 rfl rfl ⟨_, rfl, _, rfl, ?_⟩
          exact Or.inr ⟨hf0, i, rfl, hfin⟩
        · have hlt : i < 150 := c_lt (k := 150) rfl (by decide) (by omega) c_43
          refine X_muE (cm_self hp39_3) ?_
          have hb9 := rdC_bd (b := bt m) hp39_4.2.2 hp39_2 (m 102 4) (m 102 5) (m 106)
          refine X_aload_n 46 0 dX6_runCommands_46 rfl rfl ?_
          refine X_getR (f := 4) 47 dX6_runCommands_47 lf_RX6_40 iw6 vc6 (by decide) lyL rfl ?_
          refine X_cVI 50 [] (e_X0_readCommand p _ _ _ L _ hp39_4 hp39_2) dX6_runCommands_50 lm_RX6_234 0 ⟨wm_X0_readCommand, by decide +kernel, rfl, rfl⟩ rfl ⟨Nat.le_of_ble_eq_true rfl, Nat.le_of_ble_eq_true rfl⟩ lyC vc0 rfl rfl (Nat.le_of_ble_eq_true rfl) ?_
          rintro _ _ (⟨rfl, b_50, rfl⟩ | ⟨rfl, b_50, rfl⟩)
          · obtain ⟨wd, hw1, hw8, hwd, -⟩ := rdC_wd b_50
            have hw5 : (CM m (rdC (bt m) L p (m 102 4) (m 102 5) (m 106))) 102 5 = nI wd := (cm_5 _ _ _ _ _).trans hwd
            have hwo : (wOf (CM m (rdC (bt m) L p (m 102 4) (m 102 5) (m 106)))) = wd := by unfold wOf; rw [hw5, tn, nI_clamp (by omega)]
            rw [← hwo] at hw1 hw8 hw5
            refine X_if_eq 53 75 dX6_runCommands_53 (by decide) (fun c_0 => by exact absurd c_0 (by decide)) (fun _ => ?_)
            refine X_aload_n 56 0 dX6_runCommands_56 rfl rfl ?_
            refine X_cVI 57 [] (e_X6_carryOut c1 r1 lc1 _ _ (wOf (CM m (rdC (bt m) L p (m 102 4) (m 102 5) (m 106)))) _ (CIv_cm hp39_5 _ _ _ _) hw5 hw1 hw8) dX6_runCommands_57 lm_RX6_238 0 ⟨wm_X6_carryOut, by decide +kernel, rfl, rfl⟩ rfl ⟨Nat.le_of_ble_eq_true rfl, Nat.le_of_ble_eq_true rfl⟩ lyL vc6 rfl rfl (Nat.le_of_ble_eq_true rfl) ?_
            rintro _ m2 (⟨rfl, hok, hdo⟩ | ⟨rfl, hno, rfl⟩)
            · refine X_if_ne 60 66 dX6_runCommands_60 (by decide) (fun _ => ?_) (fun c_0 => by exact absurd c_0 (by decide))
              refine X_iinc 66 2 (_ + 1) [(2, .int _), (0, .ref _), (1, .int _), (3, .int _)] dX6_runCommands_66 rfl rfl (by decide) rfl ?_
              refine X_iinc 69 3 (_ + 1) [(3, .int _), (2, .int _), (0, .ref _), (1, .int _)] dX6_runCommands_69 rfl rfl (by decide) rfl ?_
              refine X_goto 72 39 dX6_runCommands_72 (by decide) ?_
              refine X_sub [2, 3, 1, 0] [(0, .ref _), (1, .int _), (2, .int _), (3, .int _)] rfl ?_
              exact ih_39 (i + 1) (rdC (bt m) L p (m 102 4) (m 102 5) (m 106)).2.1 _ _ _ _ (by omega) (by omega) hb9.1 (by rw [doC_out hdo (by omega)]; exact cm_3 _ _ _ _ _) (TX_same (hp39_4.cm _ _ _ _) (doC_out hdo (by omega)) (fun q => doC_out hdo (by omega))) (doC_CIv (CIv_cm hp39_5 _ _ _ _) hw1 hw8 hok hdo) (fun k μ' hk => by rw [Nat.add_assoc, Nat.add_comm 1 k]; exact hp39_6 _ _ (by rw [show 150 - i = (150 - (i + 1)) + 1 by omega]; exact Or.inl ⟨b_50, hok, k, _, rfl, hdo, hk⟩)) _ _  (by exact (nI_1 i).symm) (by exact (nI_1 i).symm)
            · have hfin := hst _ (fun z => hno z.2) hlt rfl
              refine X_if_ne 60 66 dX6_runCommands_60 (by decide) (fun c_0 => by exact absurd c_0 (by decide)) (fun _ => ?_)
              refine X_goto 63 75 dX6_runCommands_63 (by decide) ?_
              refine X_iload_n 75 2 dX6_runCommands_75 rfl rfl ?_
              refine X_iret 76 dX6_runCommands_76 rfl rfl ⟨_, rfl, _, rfl, ?_⟩
              exact Or.inr ⟨hf0, i, rfl, hfin⟩
          · have hfin := hst _ (fun z => by rw [z.1] at b_50; exact Bool.noConfusion b_50) hlt rfl
            refine X_if_eq 53 75 dX6_runCommands_53 (by decide) (fun _ => ?_) (fun c_0 => by exact absurd c_0 (by decide))
            refine X_iload_n 75 2 dX6_runCommands_75 rfl rfl ?_
            refine X_iret 76 dX6_runCommands_76 rfl rfl ⟨_, rfl, _, rfl, ?_⟩
            exact Or.inr ⟨hf0, i, rfl, hfin⟩
    exact L_39 151 0 0 c r lc (cmM (saveM (CM μ (ffC μ L)) la cn) 0 (-1000) ((saveM (CM μ (ffC μ L)) la cn) 102 5) ((saveM (CM μ (ffC μ L)) la cn) 106)) (by omega) (by omega) (Nat.zero_le _) (cm_3 _ _ _ _ _) hT3 hI2 (fun k μ' hk => by rw [Nat.zero_add]; exact hk) _ _  (by exact nI_0) (by exact nI_0)
  · have hf0 := c_9
    refine X_bipush 12 (-10) dX6_runCommands_12 (by decide) ?_
    refine X_iload_n 14 0 dX6_runCommands_14 rfl rfl ?_
    refine X_isub 15 dX6_runCommands_15 ?_
    refine X_iret 16 dX6_runCommands_16 rfl rfl ⟨_, rfl, _, rfl, ?_⟩
    exact Or.inl ⟨Int32.not_lt.mpr (Int32.not_lt.mp hf0), rfl, rfl⟩
