set_option maxHeartbeats 4000000 in
set_option maxRecDepth 100000 in
theorem x_X6_refuseIndex  (μ : Mm) : EvX ΛC tX6_refuseIndex [.int 1] μ ((fun E μ' => "java/lang/IndexOutOfBoundsException" = E ∧ μ = μ')) := by
  refine EvX_ofQ (by decide +kernel) rfl (fun _ => rfl) (fun _ => Nat.le_of_ble_eq_true rfl) (ls := [(0, .int 1)]) ?_
  refine X_iload_n 0 0 dX6_refuseIndex_0 rfl rfl ?_
  refine X_iconst 1 (1) dX6_refuseIndex_1 (by decide) ?_
  refine X_icmp_ne 2 16 dX6_refuseIndex_2 (by decide) (fun c_0 => by exact absurd c_0 (by decide)) (fun _ => ?_)
  exact X_throwSW (names := ["java/lang/RuntimeException", "java/lang/Exception"]) (si := 9) 5 dX6_refuseIndex_5 dX6_refuseIndex_8 dX6_refuseIndex_9 dX6_refuseIndex_12 dX6_refuseIndex_15 (by decide +kernel) (by decide +kernel) (mW 407 (by decide +kernel) (by decide +kernel)) (mW 48 (by decide +kernel) (by decide +kernel)) (List.mem_of_getElem? (i := 9) rfl) (by decide +kernel) (by decide +kernel) (by decide +kernel) (by decide +kernel) ⟨by decide, by decide, by decide, by decide⟩ ⟨_, rfl, rfl, rfl⟩
set_option maxHeartbeats 4000000 in
set_option maxRecDepth 100000 in
theorem x_X6_refuseArgument  (μ : Mm) : EvX ΛC tX6_refuseArgument [.int 2] μ ((fun E μ' => "java/lang/IllegalArgumentException" = E ∧ μ = μ')) := by
  refine EvX_ofQ (by decide +kernel) rfl (fun _ => rfl) (fun _ => Nat.le_of_ble_eq_true rfl) (ls := [(0, .int 2)]) ?_
  refine X_iload_n 0 0 dX6_refuseArgument_0 rfl rfl ?_
  refine X_iconst 1 (2) dX6_refuseArgument_1 (by decide) ?_
  refine X_icmp_ne 2 16 dX6_refuseArgument_2 (by decide) (fun c_0 => by exact absurd c_0 (by decide)) (fun _ => ?_)
  exact X_throwSW (names := ["java/lang/RuntimeException", "java/lang/Exception"]) (si := 8) 5 dX6_refuseArgument_5 dX6_refuseArgument_8 dX6_refuseArgument_9 dX6_refuseArgument_12 dX6_refuseArgument_15 (by decide +kernel) (by decide +kernel) (mW 289 (by decide +kernel) (by decide +kernel)) (mW 40 (by decide +kernel) (by decide +kernel)) (List.mem_of_getElem? (i := 8) rfl) (by decide +kernel) (by decide +kernel) (by decide +kernel) (by decide +kernel) ⟨by decide, by decide, by decide, by decide⟩ ⟨_, rfl, rfl, rfl⟩
set_option maxHeartbeats 4000000 in
set_option maxRecDepth 100000 in
theorem x_X6_refuseState  (μ : Mm) : EvX ΛC tX6_refuseState [.int 3] μ ((fun E μ' => "java/lang/IllegalStateException" = E ∧ μ = μ')) := by
  refine EvX_ofQ (by decide +kernel) rfl (fun _ => rfl) (fun _ => Nat.le_of_ble_eq_true rfl) (ls := [(0, .int 3)]) ?_
  refine X_iload_n 0 0 dX6_refuseState_0 rfl rfl ?_
  refine X_iconst 1 (3) dX6_refuseState_1 (by decide) ?_
  refine X_icmp_ne 2 16 dX6_refuseState_2 (by decide) (fun c_0 => by exact absurd c_0 (by decide)) (fun _ => ?_)
  exact X_throwSW (names := ["java/lang/RuntimeException", "java/lang/Exception"]) (si := 10) 5 dX6_refuseState_5 dX6_refuseState_8 dX6_refuseState_9 dX6_refuseState_12 dX6_refuseState_15 (by decide +kernel) (by decide +kernel) (mW 454 (by decide +kernel) (by decide +kernel)) (mW 41 (by decide +kernel) (by decide +kernel)) (List.mem_of_getElem? (i := 10) rfl) (by decide +kernel) (by decide +kernel) (by decide +kernel) (by decide +kernel) ⟨by decide, by decide, by decide, by decide⟩ ⟨_, rfl, rfl, rfl⟩
abbrev xX6_begin : MD := (RX6, yX6_begin, cX6_begin, 4, (some FieldType.int), { frames := 7, cells := 1, slots := 6, locals := 120 })
abbrev xX6_paint : MD := (RX6, yX6_paint, cX6_paint, 7, (some FieldType.int), { frames := 7, cells := 1, slots := 6, locals := 120 })
abbrev xX6_addLamp : MD := (RX6, yX6_addLamp, cX6_addLamp, 4, (some FieldType.int), { frames := 7, cells := 1, slots := 6, locals := 120 })
abbrev xX6_setCorner : MD := (RX6, yX6_setCorner, cX6_setCorner, 6, (some FieldType.int), { frames := 7, cells := 1, slots := 6, locals := 120 })
abbrev xX6_setRectangle : MD := (RX6, yX6_setRectangle, cX6_setRectangle, 7, (some FieldType.int), { frames := 7, cells := 1, slots := 6, locals := 120 })
abbrev xX6_setLamp : MD := (RX6, yX6_setLamp, cX6_setLamp, 6, (some FieldType.int), { frames := 7, cells := 1, slots := 6, locals := 131 })
abbrev xX6_setWorks : MD := (RX6, yX6_setWorks, cX6_setWorks, 4, (some FieldType.int), { frames := 7, cells := 1, slots := 6, locals := 120 })
abbrev xX6_shift : MD := (RX6, yX6_shift, cX6_shift, 3, (some FieldType.int), { frames := 7, cells := 1, slots := 6, locals := 120 })
abbrev xX6_burn : MD := (RX6, yX6_burn, cX6_burn, 2, (some FieldType.int), { frames := 7, cells := 1, slots := 6, locals := 131 })
abbrev xX6_place : MD := (RX6, yX6_place, cX6_place, 4, (some FieldType.int), { frames := 7, cells := 1, slots := 6, locals := 131 })
abbrev xX6_light : MD := (RX6, yX6_light, cX6_light, 4, (some FieldType.int), { frames := 7, cells := 1, slots := 6, locals := 120 })
abbrev xX6_weight : MD := (RX6, yX6_weight, cX6_weight, 4, (some FieldType.int), { frames := 7, cells := 1, slots := 6, locals := 120 })
abbrev xX6_lamp : MD := (RX6, yX6_lamp, cX6_lamp, 3, (some FieldType.int), { frames := 7, cells := 1, slots := 6, locals := 131 })
abbrev xX6_corner : MD := (RX6, yX6_corner, cX6_corner, 4, (some FieldType.int), { frames := 7, cells := 1, slots := 6, locals := 120 })
abbrev xX6_whole : MD := (RX6, yX6_whole, cX6_whole, 2, (some FieldType.int), { frames := 7, cells := 1, slots := 6, locals := 130 })
abbrev xX6_wrong : MD := (RX6, yX6_wrong, cX6_wrong, 5, (some FieldType.int), { frames := 7, cells := 1, slots := 6, locals := 120 })
abbrev xX6_wrongWithout : MD := (RX6, yX6_wrongWithout, cX6_wrongWithout, 2, (some FieldType.int), { frames := 7, cells := 1, slots := 6, locals := 136 })
abbrev xX6_wrongShifted : MD := (RX6, yX6_wrongShifted, cX6_wrongShifted, 3, (some FieldType.int), { frames := 7, cells := 1, slots := 6, locals := 120 })
abbrev xX6_bestShift : MD := (RX6, yX6_bestShift, cX6_bestShift, 8, (some FieldType.int), { frames := 7, cells := 1, slots := 6, locals := 120 })
abbrev xX6_neededLimit : MD := (RX6, yX6_neededLimit, cX6_neededLimit, 5, (some FieldType.int), { frames := 7, cells := 1, slots := 6, locals := 120 })
abbrev xX6_type : MD := (RX6, yX6_type, cX6_type, 2, (some FieldType.int), { frames := 7, cells := 1, slots := 6, locals := 120 })
abbrev xX6_undo : MD := (RX6, yX6_undo, cX6_undo, 1, (some FieldType.int), { frames := 7, cells := 1, slots := 6, locals := 120 })
set_option maxHeartbeats 4000000 in
set_option maxRecDepth 100000 in
theorem x_X6_begin_Argument (a b : Int32) (μ : Mm) (hx : ¬ wallOK a b) : EvX ΛC xX6_begin [.ref 109, .int a, .int b] μ ((fun E μ' => "java/lang/IllegalArgumentException" = E ∧ μ = μ')) := by
  refine EvX_ofQ (by decide +kernel) rfl (fun _ => rfl) (fun _ => Nat.le_of_ble_eq_true rfl) (ls := [(0, .ref 109), (1, .int a), (2, .int b)]) ?_
  refine X_iload_n 0 1 dX6_begin_0 rfl rfl ?_
  refine X_iload_n 1 2 dX6_begin_1 rfl rfl ?_
  refine X_cSI 2 [.int _, .int _] (e_X6_faultOfWall _ _ _) dX6_begin_2 lm_RX6_44 2 ⟨wm_X6_faultOfWall, by decide +kernel, rfl, rfl⟩ rfl ⟨Nat.le_of_ble_eq_true rfl, Nat.le_of_ble_eq_true rfl⟩ rfl (Nat.le_of_ble_eq_true rfl) ?_
  rintro _ _ ⟨rfl, ⟨rfl, f_2⟩ | ⟨rfl, f_2⟩⟩
  · exact absurd f_2 hx
  · refine X_callX 5 [.int _] (x_X6_refuseArgument _) dX6_begin_5 (kw_286) wt_X6_refuseArgument (by decide +kernel) ⟨Nat.le_of_ble_eq_true rfl, Nat.le_of_ble_eq_true rfl⟩ ⟨rfl, rfl⟩ ⟨by decide, by decide⟩ rfl (Nat.le_of_ble_eq_true rfl) ?_
    rintro _ _ ⟨rfl, rfl⟩; exact ⟨_, rfl, rfl, rfl⟩
set_option maxHeartbeats 4000000 in
set_option maxRecDepth 100000 in
theorem x_X6_paint_Index (x y u v t : Int32) (μ : Mm) (hx : ¬ (plOK μ x y ∧ plOK μ u v)) : EvX ΛC xX6_paint [.ref 109, .int x, .int y, .int u, .int v, .int t] μ ((fun E μ' => "java/lang/IndexOutOfBoundsException" = E ∧ μ = μ')) := by
  refine EvX_ofQ (by decide +kernel) rfl (fun _ => rfl) (fun _ => Nat.le_of_ble_eq_true rfl) (ls := [(0, .ref 109), (1, .int x), (2, .int y), (3, .int u), (4, .int v), (5, .int t)]) ?_
  refine X_aload_n 0 0 dX6_paint_0 rfl rfl ?_
  refine X_iload_n 1 1 dX6_paint_1 rfl rfl ?_
  refine X_iload_n 2 2 dX6_paint_2 rfl rfl ?_
  refine X_iload_n 3 3 dX6_paint_3 rfl rfl ?_
  refine X_iload 4 4 dX6_paint_4 rfl ?_
  refine X_iload 6 5 dX6_paint_6 rfl ?_
  refine X_cVI 8 [.int _, .int _, .int _, .int _, .int _] (e_X6_faultOfPainting _ _ _ _ _ _) dX6_paint_8 lm_RX6_64 5 ⟨wm_X6_faultOfPainting, by decide +kernel, rfl, rfl⟩ rfl ⟨Nat.le_of_ble_eq_true rfl, Nat.le_of_ble_eq_true rfl⟩ lyL vc6 rfl rfl (Nat.le_of_ble_eq_true rfl) ?_
  rintro _ _ ⟨rfl, ⟨rfl, f_8⟩ | ⟨rfl, f_8⟩ | ⟨rfl, f_8⟩⟩
  · exact absurd f_8.1 hx
  · refine X_istore 11 [(6, .int _), (0, .ref _), (1, .int _), (2, .int _), (3, .int _), (4, .int _), (5, .int _)] dX6_paint_11 (by decide) rfl ?_
    refine X_iload 13 0 dX6_paint_13 rfl ?_
    refine X_callX 15 [.int _] (x_X6_refuseIndex _) dX6_paint_15 (kw_404) wt_X6_refuseIndex (by decide +kernel) ⟨Nat.le_of_ble_eq_true rfl, Nat.le_of_ble_eq_true rfl⟩ ⟨rfl, rfl⟩ ⟨by decide, by decide⟩ rfl (Nat.le_of_ble_eq_true rfl) ?_
    rintro _ _ ⟨rfl, rfl⟩; exact ⟨_, rfl, rfl, rfl⟩
  · exact absurd f_8.1 hx
set_option maxHeartbeats 4000000 in
set_option maxRecDepth 100000 in
theorem x_X6_paint_Argument (x y u v t : Int32) (μ : Mm) (hx : (plOK μ x y ∧ plOK μ u v) ∧ ¬ ptOK x y u v t) : EvX ΛC xX6_paint [.ref 109, .int x, .int y, .int u, .int v, .int t] μ ((fun E μ' => "java/lang/IllegalArgumentException" = E ∧ μ = μ')) := by
  refine EvX_ofQ (by decide +kernel) rfl (fun _ => rfl) (fun _ => Nat.le_of_ble_eq_true rfl) (ls := [(0, .ref 109), (1, .int x), (2, .int y), (3, .int u), (4, .int v), (5, .int t)]) ?_
  refine X_aload_n 0 0 dX6_paint_0 rfl rfl ?_
  refine X_iload_n 1 1 dX6_paint_1 rfl rfl ?_
  refine X_iload_n 2 2 dX6_paint_2 rfl rfl ?_
  refine X_iload_n 3 3 dX6_paint_3 rfl rfl ?_
  refine X_iload 4 4 dX6_paint_4 rfl ?_
  refine X_iload 6 5 dX6_paint_6 rfl ?_
  refine X_cVI 8 [.int _, .int _, .int _, .int _, .int _] (e_X6_faultOfPainting _ _ _ _ _ _) dX6_paint_8 lm_RX6_64 5 ⟨wm_X6_faultOfPainting, by decide +kernel, rfl, rfl⟩ rfl ⟨Nat.le_of_ble_eq_true rfl, Nat.le_of_ble_eq_true rfl⟩ lyL vc6 rfl rfl (Nat.le_of_ble_eq_true rfl) ?_
  rintro _ _ ⟨rfl, ⟨rfl, f_8⟩ | ⟨rfl, f_8⟩ | ⟨rfl, f_8⟩⟩
  · exact absurd f_8.2 hx.2
  · exact absurd hx.1 f_8
  · refine X_istore 11 [(6, .int _), (0, .ref _), (1, .int _), (2, .int _), (3, .int _), (4, .int _), (5, .int _)] dX6_paint_11 (by decide) rfl ?_
    refine X_iload 13 0 dX6_paint_13 rfl ?_
    refine X_cSV 15 [.int _] (e_X6_refuseIndex _ _ (by decide)) dX6_paint_15 lm_RX6_68 1 ⟨wm_X6_refuseIndex, by decide +kernel, rfl, rfl⟩ rfl ⟨Nat.le_of_ble_eq_true rfl, Nat.le_of_ble_eq_true rfl⟩ rfl (Nat.le_of_ble_eq_true rfl) ?_
    rintro _ rfl
    refine X_iload 18 0 dX6_paint_18 rfl ?_
    refine X_callX 20 [.int _] (x_X6_refuseArgument _) dX6_paint_20 (kw_286) wt_X6_refuseArgument (by decide +kernel) ⟨Nat.le_of_ble_eq_true rfl, Nat.le_of_ble_eq_true rfl⟩ ⟨rfl, rfl⟩ ⟨by decide, by decide⟩ rfl (Nat.le_of_ble_eq_true rfl) ?_
    rintro _ _ ⟨rfl, rfl⟩; exact ⟨_, rfl, rfl, rfl⟩
set_option maxHeartbeats 4000000 in
set_option maxRecDepth 100000 in
theorem x_X6_addLamp_Argument (a b : Int32) (μ : Mm) (hx : ¬ nlOK a b) : EvX ΛC xX6_addLamp [.ref 109, .int a, .int b] μ ((fun E μ' => "java/lang/IllegalArgumentException" = E ∧ μ = μ')) := by
  refine EvX_ofQ (by decide +kernel) rfl (fun _ => rfl) (fun _ => Nat.le_of_ble_eq_true rfl) (ls := [(0, .ref 109), (1, .int a), (2, .int b)]) ?_
  refine X_aload_n 0 0 dX6_addLamp_0 rfl rfl ?_
  refine X_iload_n 1 1 dX6_addLamp_1 rfl rfl ?_
  refine X_iload_n 2 2 dX6_addLamp_2 rfl rfl ?_
  refine X_cVI 3 [.int _, .int _] (e_X6_faultOfNewLamp _ _ _) dX6_addLamp_3 lm_RX6_74 2 ⟨wm_X6_faultOfNewLamp, by decide +kernel, rfl, rfl⟩ rfl ⟨Nat.le_of_ble_eq_true rfl, Nat.le_of_ble_eq_true rfl⟩ lyL vc6 rfl rfl (Nat.le_of_ble_eq_true rfl) ?_
  rintro _ _ ⟨rfl, ⟨rfl, f_3⟩ | ⟨rfl, f_3⟩ | ⟨rfl, f_3⟩⟩
  · exact absurd f_3.1 hx
  · refine X_istore_n 6 [(3, .int _), (0, .ref _), (1, .int _), (2, .int _)] dX6_addLamp_6 rfl (by decide) rfl ?_
    refine X_iload_n 7 0 dX6_addLamp_7 rfl rfl ?_
    refine X_callX 8 [.int _] (x_X6_refuseArgument _) dX6_addLamp_8 (kw_286) wt_X6_refuseArgument (by decide +kernel) ⟨Nat.le_of_ble_eq_true rfl, Nat.le_of_ble_eq_true rfl⟩ ⟨rfl, rfl⟩ ⟨by decide, by decide⟩ rfl (Nat.le_of_ble_eq_true rfl) ?_
    rintro _ _ ⟨rfl, rfl⟩; exact ⟨_, rfl, rfl, rfl⟩
  · exact absurd f_3.1 hx
set_option maxHeartbeats 4000000 in
set_option maxRecDepth 100000 in
theorem x_X6_addLamp_State (a b : Int32) (μ : Mm) (hx : nlOK a b ∧ ¬ μ 0 5 < 8) : EvX ΛC xX6_addLamp [.ref 109, .int a, .int b] μ ((fun E μ' => "java/lang/IllegalStateException" = E ∧ μ = μ')) := by
  refine EvX_ofQ (by decide +kernel) rfl (fun _ => rfl) (fun _ => Nat.le_of_ble_eq_true rfl) (ls := [(0, .ref 109), (1, .int a), (2, .int b)]) ?_
  refine X_aload_n 0 0 dX6_addLamp_0 rfl rfl ?_
  refine X_iload_n 1 1 dX6_addLamp_1 rfl rfl ?_
  refine X_iload_n 2 2 dX6_addLamp_2 rfl rfl ?_
  refine X_cVI 3 [.int _, .int _] (e_X6_faultOfNewLamp _ _ _) dX6_addLamp_3 lm_RX6_74 2 ⟨wm_X6_faultOfNewLamp, by decide +kernel, rfl, rfl⟩ rfl ⟨Nat.le_of_ble_eq_true rfl, Nat.le_of_ble_eq_true rfl⟩ lyL vc6 rfl rfl (Nat.le_of_ble_eq_true rfl) ?_
  rintro _ _ ⟨rfl, ⟨rfl, f_3⟩ | ⟨rfl, f_3⟩ | ⟨rfl, f_3⟩⟩
  · exact absurd f_3.2 hx.2
  · exact absurd hx.1 f_3
  · refine X_istore_n 6 [(3, .int _), (0, .ref _), (1, .int _), (2, .int _)] dX6_addLamp_6 rfl (by decide) rfl ?_
    refine X_iload_n 7 0 dX6_addLamp_7 rfl rfl ?_
    refine X_cSV 8 [.int _] (e_X6_refuseArgument _ _ (by decide)) dX6_addLamp_8 lm_RX6_48 1 ⟨wm_X6_refuseArgument, by decide +kernel, rfl, rfl⟩ rfl ⟨Nat.le_of_ble_eq_true rfl, Nat.le_of_ble_eq_true rfl⟩ rfl (Nat.le_of_ble_eq_true rfl) ?_
    rintro _ rfl
    refine X_iload_n 11 0 dX6_addLamp_11 rfl rfl ?_
    refine X_callX 12 [.int _] (x_X6_refuseState _) dX6_addLamp_12 (kw_451) wt_X6_refuseState (by decide +kernel) ⟨Nat.le_of_ble_eq_true rfl, Nat.le_of_ble_eq_true rfl⟩ ⟨rfl, rfl⟩ ⟨by decide, by decide⟩ rfl (Nat.le_of_ble_eq_true rfl) ?_
    rintro _ _ ⟨rfl, rfl⟩; exact ⟨_, rfl, rfl, rfl⟩
set_option maxHeartbeats 4000000 in
set_option maxRecDepth 100000 in
theorem x_X6_setCorner_Index (n i x y : Int32) (μ : Mm) (hx : ¬ (lpOK μ n ∧ rgI i 0 3)) : EvX ΛC xX6_setCorner [.ref 109, .int n, .int i, .int x, .int y] μ ((fun E μ' => "java/lang/IndexOutOfBoundsException" = E ∧ μ = μ')) := by
  refine EvX_ofQ (by decide +kernel) rfl (fun _ => rfl) (fun _ => Nat.le_of_ble_eq_true rfl) (ls := [(0, .ref 109), (1, .int n), (2, .int i), (3, .int x), (4, .int y)]) ?_
  refine X_aload_n 0 0 dX6_setCorner_0 rfl rfl ?_
  refine X_iload_n 1 1 dX6_setCorner_1 rfl rfl ?_
  refine X_iload_n 2 2 dX6_setCorner_2 rfl rfl ?_
  refine X_iload_n 3 3 dX6_setCorner_3 rfl rfl ?_
  refine X_iload 4 4 dX6_setCorner_4 rfl ?_
  refine X_cVI 6 [.int _, .int _, .int _, .int _] (e_X6_faultOfCorner _ _ _ _ _) dX6_setCorner_6 lm_RX6_83 4 ⟨wm_X6_faultOfCorner, by decide +kernel, rfl, rfl⟩ rfl ⟨Nat.le_of_ble_eq_true rfl, Nat.le_of_ble_eq_true rfl⟩ lyL vc6 rfl rfl (Nat.le_of_ble_eq_true rfl) ?_
  rintro _ _ ⟨rfl, ⟨rfl, f_6⟩ | ⟨rfl, f_6⟩ | ⟨rfl, f_6⟩⟩
  · exact absurd f_6.1 hx
  · refine X_istore 9 [(5, .int _), (0, .ref _), (1, .int _), (2, .int _), (3, .int _), (4, .int _)] dX6_setCorner_9 (by decide) rfl ?_
    refine X_iload 11 0 dX6_setCorner_11 rfl ?_
    refine X_callX 13 [.int _] (x_X6_refuseIndex _) dX6_setCorner_13 (kw_404) wt_X6_refuseIndex (by decide +kernel) ⟨Nat.le_of_ble_eq_true rfl, Nat.le_of_ble_eq_true rfl⟩ ⟨rfl, rfl⟩ ⟨by decide, by decide⟩ rfl (Nat.le_of_ble_eq_true rfl) ?_
    rintro _ _ ⟨rfl, rfl⟩; exact ⟨_, rfl, rfl, rfl⟩
  · exact absurd f_6.1 hx
set_option maxHeartbeats 4000000 in
set_option maxRecDepth 100000 in
theorem x_X6_setCorner_Argument (n i x y : Int32) (μ : Mm) (hx : (lpOK μ n ∧ rgI i 0 3) ∧ ¬ coOK x y) : EvX ΛC xX6_setCorner [.ref 109, .int n, .int i, .int x, .int y] μ ((fun E μ' => "java/lang/IllegalArgumentException" = E ∧ μ = μ')) := by
  refine EvX_ofQ (by decide +kernel) rfl (fun _ => rfl) (fun _ => Nat.le_of_ble_eq_true rfl) (ls := [(0, .ref 109), (1, .int n), (2, .int i), (3, .int x), (4, .int y)]) ?_
  refine X_aload_n 0 0 dX6_setCorner_0 rfl rfl ?_
  refine X_iload_n 1 1 dX6_setCorner_1 rfl rfl ?_
  refine X_iload_n 2 2 dX6_setCorner_2 rfl rfl ?_
  refine X_iload_n 3 3 dX6_setCorner_3 rfl rfl ?_
  refine X_iload 4 4 dX6_setCorner_4 rfl ?_
  refine X_cVI 6 [.int _, .int _, .int _, .int _] (e_X6_faultOfCorner _ _ _ _ _) dX6_setCorner_6 lm_RX6_83 4 ⟨wm_X6_faultOfCorner, by decide +kernel, rfl, rfl⟩ rfl ⟨Nat.le_of_ble_eq_true rfl, Nat.le_of_ble_eq_true rfl⟩ lyL vc6 rfl rfl (Nat.le_of_ble_eq_true rfl) ?_
  rintro _ _ ⟨rfl, ⟨rfl, f_6⟩ | ⟨rfl, f_6⟩ | ⟨rfl, f_6⟩⟩
  · exact absurd f_6.2 hx.2
  · exact absurd hx.1 f_6
  · refine X_istore 9 [(5, .int _), (0, .ref _), (1, .int _), (2, .int _), (3, .int _), (4, .int _)] dX6_setCorner_9 (by decide) rfl ?_
    refine X_iload 11 0 dX6_setCorner_11 rfl ?_
    refine X_cSV 13 [.int _] (e_X6_refuseIndex _ _ (by decide)) dX6_setCorner_13 lm_RX6_68 1 ⟨wm_X6_refuseIndex, by decide +kernel, rfl, rfl⟩ rfl ⟨Nat.le_of_ble_eq_true rfl, Nat.le_of_ble_eq_true rfl⟩ rfl (Nat.le_of_ble_eq_true rfl) ?_
    rintro _ rfl
    refine X_iload 16 0 dX6_setCorner_16 rfl ?_
    refine X_callX 18 [.int _] (x_X6_refuseArgument _) dX6_setCorner_18 (kw_286) wt_X6_refuseArgument (by decide +kernel) ⟨Nat.le_of_ble_eq_true rfl, Nat.le_of_ble_eq_true rfl⟩ ⟨rfl, rfl⟩ ⟨by decide, by decide⟩ rfl (Nat.le_of_ble_eq_true rfl) ?_
    rintro _ _ ⟨rfl, rfl⟩; exact ⟨_, rfl, rfl, rfl⟩
set_option maxHeartbeats 4000000 in
set_option maxRecDepth 100000 in
theorem x_X6_setRectangle_Index (n x y u v : Int32) (μ : Mm) (hx : ¬ lpOK μ n) : EvX ΛC xX6_setRectangle [.ref 109, .int n, .int x, .int y, .int u, .int v] μ ((fun E μ' => "java/lang/IndexOutOfBoundsException" = E ∧ μ = μ')) := by
  refine EvX_ofQ (by decide +kernel) rfl (fun _ => rfl) (fun _ => Nat.le_of_ble_eq_true rfl) (ls := [(0, .ref 109), (1, .int n), (2, .int x), (3, .int y), (4, .int u), (5, .int v)]) ?_
  refine X_aload_n 0 0 dX6_setRectangle_0 rfl rfl ?_
  refine X_iload_n 1 1 dX6_setRectangle_1 rfl rfl ?_
  refine X_iload_n 2 2 dX6_setRectangle_2 rfl rfl ?_
  refine X_iload_n 3 3 dX6_setRectangle_3 rfl rfl ?_
  refine X_iload 4 4 dX6_setRectangle_4 rfl ?_
  refine X_iload 6 5 dX6_setRectangle_6 rfl ?_
  refine X_cVI 8 [.int _, .int _, .int _, .int _, .int _] (e_X6_faultOfRectangle _ _ _ _ _ _) dX6_setRectangle_8 lm_RX6_95 5 ⟨wm_X6_faultOfRectangle, by decide +kernel, rfl, rfl⟩ rfl ⟨Nat.le_of_ble_eq_true rfl, Nat.le_of_ble_eq_true rfl⟩ lyL vc6 rfl rfl (Nat.le_of_ble_eq_true rfl) ?_
  rintro _ _ ⟨rfl, ⟨rfl, f_8⟩ | ⟨rfl, f_8⟩ | ⟨rfl, f_8⟩⟩
  · exact absurd f_8.1 hx
  · refine X_istore 11 [(6, .int _), (0, .ref _), (1, .int _), (2, .int _), (3, .int _), (4, .int _), (5, .int _)] dX6_setRectangle_11 (by decide) rfl ?_
    refine X_iload 13 0 dX6_setRectangle_13 rfl ?_
    refine X_callX 15 [.int _] (x_X6_refuseIndex _) dX6_setRectangle_15 (kw_404) wt_X6_refuseIndex (by decide +kernel) ⟨Nat.le_of_ble_eq_true rfl, Nat.le_of_ble_eq_true rfl⟩ ⟨rfl, rfl⟩ ⟨by decide, by decide⟩ rfl (Nat.le_of_ble_eq_true rfl) ?_
    rintro _ _ ⟨rfl, rfl⟩; exact ⟨_, rfl, rfl, rfl⟩
  · exact absurd f_8.1 hx
set_option maxHeartbeats 4000000 in
set_option maxRecDepth 100000 in
theorem x_X6_setRectangle_Argument (n x y u v : Int32) (μ : Mm) (hx : lpOK μ n ∧ ¬ rcOK x y u v) : EvX ΛC xX6_setRectangle [.ref 109, .int n, .int x, .int y, .int u, .int v] μ ((fun E μ' => "java/lang/IllegalArgumentException" = E ∧ μ = μ')) := by
  refine EvX_ofQ (by decide +kernel) rfl (fun _ => rfl) (fun _ => Nat.le_of_ble_eq_true rfl) (ls := [(0, .ref 109), (1, .int n), (2, .int x), (3, .int y), (4, .int u), (5, .int v)]) ?_
  refine X_aload_n 0 0 dX6_setRectangle_0 rfl rfl ?_
  refine X_iload_n 1 1 dX6_setRectangle_1 rfl rfl ?_
  refine X_iload_n 2 2 dX6_setRectangle_2 rfl rfl ?_
  refine X_iload_n 3 3 dX6_setRectangle_3 rfl rfl ?_
  refine X_iload 4 4 dX6_setRectangle_4 rfl ?_
  refine X_iload 6 5 dX6_setRectangle_6 rfl ?_
  refine X_cVI 8 [.int _, .int _, .int _, .int _, .int _] (e_X6_faultOfRectangle _ _ _ _ _ _) dX6_setRectangle_8 lm_RX6_95 5 ⟨wm_X6_faultOfRectangle, by decide +kernel, rfl, rfl⟩ rfl ⟨Nat.le_of_ble_eq_true rfl, Nat.le_of_ble_eq_true rfl⟩ lyL vc6 rfl rfl (Nat.le_of_ble_eq_true rfl) ?_
  rintro _ _ ⟨rfl, ⟨rfl, f_8⟩ | ⟨rfl, f_8⟩ | ⟨rfl, f_8⟩⟩
  · exact absurd f_8.2 hx.2
  · exact absurd hx.1 f_8
  · refine X_istore 11 [(6, .int _), (0, .ref _), (1, .int _), (2, .int _), (3, .int _), (4, .int _), (5, .int _)] dX6_setRectangle_11 (by decide) rfl ?_
    refine X_iload 13 0 dX6_setRectangle_13 rfl ?_
    refine X_cSV 15 [.int _] (e_X6_refuseIndex _ _ (by decide)) dX6_setRectangle_15 lm_RX6_68 1 ⟨wm_X6_refuseIndex, by decide +kernel, rfl, rfl⟩ rfl ⟨Nat.le_of_ble_eq_true rfl, Nat.le_of_ble_eq_true rfl⟩ rfl (Nat.le_of_ble_eq_true rfl) ?_
    rintro _ rfl
    refine X_iload 18 0 dX6_setRectangle_18 rfl ?_
    refine X_callX 20 [.int _] (x_X6_refuseArgument _) dX6_setRectangle_20 (kw_286) wt_X6_refuseArgument (by decide +kernel) ⟨Nat.le_of_ble_eq_true rfl, Nat.le_of_ble_eq_true rfl⟩ ⟨rfl, rfl⟩ ⟨by decide, by decide⟩ rfl (Nat.le_of_ble_eq_true rfl) ?_
    rintro _ _ ⟨rfl, rfl⟩; exact ⟨_, rfl, rfl, rfl⟩
set_option maxHeartbeats 4000000 in
set_option maxRecDepth 100000 in
theorem x_X6_setLamp_Index (n w v : Int32) (μ : Mm) (hx : ¬ lpOK μ n) : EvX ΛC xX6_setLamp [.ref 109, .int n, .int w, .int v] μ ((fun E μ' => "java/lang/IndexOutOfBoundsException" = E ∧ μ = μ')) := by
  refine EvX_ofQ (by decide +kernel) rfl (fun _ => rfl) (fun _ => Nat.le_of_ble_eq_true rfl) (ls := [(0, .ref 109), (1, .int n), (2, .int w), (3, .int v)]) ?_
  refine X_aload_n 0 0 dX6_setLamp_0 rfl rfl ?_
  refine X_iload_n 1 1 dX6_setLamp_1 rfl rfl ?_
  refine X_iload_n 2 2 dX6_setLamp_2 rfl rfl ?_
  refine X_iload_n 3 3 dX6_setLamp_3 rfl rfl ?_
  refine X_cVI 4 [.int _, .int _, .int _] (e_X6_faultOfLampValue _ _ _ _) dX6_setLamp_4 lm_RX6_105 3 ⟨wm_X6_faultOfLampValue, by decide +kernel, rfl, rfl⟩ rfl ⟨Nat.le_of_ble_eq_true rfl, Nat.le_of_ble_eq_true rfl⟩ lyL vc6 rfl rfl (Nat.le_of_ble_eq_true rfl) ?_
  rintro _ _ ⟨rfl, ⟨rfl, f_4⟩ | ⟨rfl, f_4⟩ | ⟨rfl, f_4⟩⟩
  · exact absurd f_4.1 hx
  · refine X_istore 7 [(4, .int _), (0, .ref _), (1, .int _), (2, .int _), (3, .int _)] dX6_setLamp_7 (by decide) rfl ?_
    refine X_iload 9 0 dX6_setLamp_9 rfl ?_
    refine X_callX 11 [.int _] (x_X6_refuseIndex _) dX6_setLamp_11 (kw_404) wt_X6_refuseIndex (by decide +kernel) ⟨Nat.le_of_ble_eq_true rfl, Nat.le_of_ble_eq_true rfl⟩ ⟨rfl, rfl⟩ ⟨by decide, by decide⟩ rfl (Nat.le_of_ble_eq_true rfl) ?_
    rintro _ _ ⟨rfl, rfl⟩; exact ⟨_, rfl, rfl, rfl⟩
  · exact absurd f_4.1 hx
set_option maxHeartbeats 4000000 in
set_option maxRecDepth 100000 in
theorem x_X6_setLamp_Argument (n w v : Int32) (μ : Mm) (hx : lpOK μ n ∧ ¬ lvOK w v) : EvX ΛC xX6_setLamp [.ref 109, .int n, .int w, .int v] μ ((fun E μ' => "java/lang/IllegalArgumentException" = E ∧ μ = μ')) := by
  refine EvX_ofQ (by decide +kernel) rfl (fun _ => rfl) (fun _ => Nat.le_of_ble_eq_true rfl) (ls := [(0, .ref 109), (1, .int n), (2, .int w), (3, .int v)]) ?_
  refine X_aload_n 0 0 dX6_setLamp_0 rfl rfl ?_
  refine X_iload_n 1 1 dX6_setLamp_1 rfl rfl ?_
  refine X_iload_n 2 2 dX6_setLamp_2 rfl rfl ?_
  refine X_iload_n 3 3 dX6_setLamp_3 rfl rfl ?_
  refine X_cVI 4 [.int _, .int _, .int _] (e_X6_faultOfLampValue _ _ _ _) dX6_setLamp_4 lm_RX6_105 3 ⟨wm_X6_faultOfLampValue, by decide +kernel, rfl, rfl⟩ rfl ⟨Nat.le_of_ble_eq_true rfl, Nat.le_of_ble_eq_true rfl⟩ lyL vc6 rfl rfl (Nat.le_of_ble_eq_true rfl) ?_
  rintro _ _ ⟨rfl, ⟨rfl, f_4⟩ | ⟨rfl, f_4⟩ | ⟨rfl, f_4⟩⟩
  · exact absurd f_4.2 hx.2
  · exact absurd hx.1 f_4
  · refine X_istore 7 [(4, .int _), (0, .ref _), (1, .int _), (2, .int _), (3, .int _)] dX6_setLamp_7 (by decide) rfl ?_
    refine X_iload 9 0 dX6_setLamp_9 rfl ?_
    refine X_cSV 11 [.int _] (e_X6_refuseIndex _ _ (by decide)) dX6_setLamp_11 lm_RX6_68 1 ⟨wm_X6_refuseIndex, by decide +kernel, rfl, rfl⟩ rfl ⟨Nat.le_of_ble_eq_true rfl, Nat.le_of_ble_eq_true rfl⟩ rfl (Nat.le_of_ble_eq_true rfl) ?_
    rintro _ rfl
    refine X_iload 14 0 dX6_setLamp_14 rfl ?_
    refine X_callX 16 [.int _] (x_X6_refuseArgument _) dX6_setLamp_16 (kw_286) wt_X6_refuseArgument (by decide +kernel) ⟨Nat.le_of_ble_eq_true rfl, Nat.le_of_ble_eq_true rfl⟩ ⟨rfl, rfl⟩ ⟨by decide, by decide⟩ rfl (Nat.le_of_ble_eq_true rfl) ?_
    rintro _ _ ⟨rfl, rfl⟩; exact ⟨_, rfl, rfl, rfl⟩
set_option maxHeartbeats 4000000 in
set_option maxRecDepth 100000 in
theorem x_X6_setWorks_Index (n z : Int32) (μ : Mm) (hx : ¬ lpOK μ n) : EvX ΛC xX6_setWorks [.ref 109, .int n, .int z] μ ((fun E μ' => "java/lang/IndexOutOfBoundsException" = E ∧ μ = μ')) := by
  refine EvX_ofQ (by decide +kernel) rfl (fun _ => rfl) (fun _ => Nat.le_of_ble_eq_true rfl) (ls := [(0, .ref 109), (1, .int n), (2, .int z)]) ?_
  refine X_aload_n 0 0 dX6_setWorks_0 rfl rfl ?_
  refine X_iload_n 1 1 dX6_setWorks_1 rfl rfl ?_
  refine X_cVI 2 [.int _] (e_X6_faultOfLamp _ _) dX6_setWorks_2 lm_RX6_116 1 ⟨wm_X6_faultOfLamp, by decide +kernel, rfl, rfl⟩ rfl ⟨Nat.le_of_ble_eq_true rfl, Nat.le_of_ble_eq_true rfl⟩ lyL vc6 rfl rfl (Nat.le_of_ble_eq_true rfl) ?_
  rintro _ _ ⟨rfl, ⟨rfl, f_2⟩ | ⟨rfl, f_2⟩⟩
  · exact absurd f_2 hx
  · refine X_callX 5 [.int _] (x_X6_refuseIndex _) dX6_setWorks_5 (kw_404) wt_X6_refuseIndex (by decide +kernel) ⟨Nat.le_of_ble_eq_true rfl, Nat.le_of_ble_eq_true rfl⟩ ⟨rfl, rfl⟩ ⟨by decide, by decide⟩ rfl (Nat.le_of_ble_eq_true rfl) ?_
    rintro _ _ ⟨rfl, rfl⟩; exact ⟨_, rfl, rfl, rfl⟩
set_option maxHeartbeats 4000000 in
set_option maxRecDepth 100000 in
theorem x_X6_shift_Argument (a b : Int32) (μ : Mm) (hx : ¬ shOK a b) : EvX ΛC xX6_shift [.ref 109, .int a, .int b] μ ((fun E μ' => "java/lang/IllegalArgumentException" = E ∧ μ = μ')) := by
  refine EvX_ofQ (by decide +kernel) rfl (fun _ => rfl) (fun _ => Nat.le_of_ble_eq_true rfl) (ls := [(0, .ref 109), (1, .int a), (2, .int b)]) ?_
  refine X_iload_n 0 1 dX6_shift_0 rfl rfl ?_
  refine X_iload_n 1 2 dX6_shift_1 rfl rfl ?_
  refine X_cSI 2 [.int _, .int _] (e_X6_faultOfShift _ _ _) dX6_shift_2 lm_RX6_126 2 ⟨wm_X6_faultOfShift, by decide +kernel, rfl, rfl⟩ rfl ⟨Nat.le_of_ble_eq_true rfl, Nat.le_of_ble_eq_true rfl⟩ rfl (Nat.le_of_ble_eq_true rfl) ?_
  rintro _ _ ⟨rfl, ⟨rfl, f_2⟩ | ⟨rfl, f_2⟩⟩
  · exact absurd f_2 hx
  · refine X_callX 5 [.int _] (x_X6_refuseArgument _) dX6_shift_5 (kw_286) wt_X6_refuseArgument (by decide +kernel) ⟨Nat.le_of_ble_eq_true rfl, Nat.le_of_ble_eq_true rfl⟩ ⟨rfl, rfl⟩ ⟨by decide, by decide⟩ rfl (Nat.le_of_ble_eq_true rfl) ?_
    rintro _ _ ⟨rfl, rfl⟩; exact ⟨_, rfl, rfl, rfl⟩
set_option maxHeartbeats 4000000 in
set_option maxRecDepth 100000 in
theorem x_X6_burn_Argument (h : Int32) (μ : Mm) (hx : ¬ rgI h 1 9999) : EvX ΛC xX6_burn [.ref 109, .int h] μ ((fun E μ' => "java/lang/IllegalArgumentException" = E ∧ μ = μ')) := by
  refine EvX_ofQ (by decide +kernel) rfl (fun _ => rfl) (fun _ => Nat.le_of_ble_eq_true rfl) (ls := [(0, .ref 109), (1, .int h)]) ?_
  refine X_iload_n 0 1 dX6_burn_0 rfl rfl ?_
  refine X_cSI 1 [.int _] (e_X6_faultOfHours _ _) dX6_burn_1 lm_RX6_135 1 ⟨wm_X6_faultOfHours, by decide +kernel, rfl, rfl⟩ rfl ⟨Nat.le_of_ble_eq_true rfl, Nat.le_of_ble_eq_true rfl⟩ rfl (Nat.le_of_ble_eq_true rfl) ?_
  rintro _ _ ⟨rfl, ⟨rfl, f_1⟩ | ⟨rfl, f_1⟩⟩
  · exact absurd f_1 hx
  · refine X_callX 4 [.int _] (x_X6_refuseArgument _) dX6_burn_4 (kw_286) wt_X6_refuseArgument (by decide +kernel) ⟨Nat.le_of_ble_eq_true rfl, Nat.le_of_ble_eq_true rfl⟩ ⟨rfl, rfl⟩ ⟨by decide, by decide⟩ rfl (Nat.le_of_ble_eq_true rfl) ?_
    rintro _ _ ⟨rfl, rfl⟩; exact ⟨_, rfl, rfl, rfl⟩
set_option maxHeartbeats 4000000 in
set_option maxRecDepth 100000 in
theorem x_X6_place_Index (x y w : Int32) (μ : Mm) (hx : ¬ plOK μ x y) : EvX ΛC xX6_place [.ref 109, .int x, .int y, .int w] μ ((fun E μ' => "java/lang/IndexOutOfBoundsException" = E ∧ μ = μ')) := by
  refine EvX_ofQ (by decide +kernel) rfl (fun _ => rfl) (fun _ => Nat.le_of_ble_eq_true rfl) (ls := [(0, .ref 109), (1, .int x), (2, .int y), (3, .int w)]) ?_
  refine X_aload_n 0 0 dX6_place_0 rfl rfl ?_
  refine X_iload_n 1 1 dX6_place_1 rfl rfl ?_
  refine X_iload_n 2 2 dX6_place_2 rfl rfl ?_
  refine X_cVI 3 [.int _, .int _] (e_X6_faultOfPlace _ _ _) dX6_place_3 lm_RX6_144 2 ⟨wm_X6_faultOfPlace, by decide +kernel, rfl, rfl⟩ rfl ⟨Nat.le_of_ble_eq_true rfl, Nat.le_of_ble_eq_true rfl⟩ lyL vc6 rfl rfl (Nat.le_of_ble_eq_true rfl) ?_
  rintro _ _ ⟨rfl, ⟨rfl, f_3⟩ | ⟨rfl, f_3⟩⟩
  · exact absurd f_3 hx
  · refine X_callX 6 [.int _] (x_X6_refuseIndex _) dX6_place_6 (kw_404) wt_X6_refuseIndex (by decide +kernel) ⟨Nat.le_of_ble_eq_true rfl, Nat.le_of_ble_eq_true rfl⟩ ⟨rfl, rfl⟩ ⟨by decide, by decide⟩ rfl (Nat.le_of_ble_eq_true rfl) ?_
    rintro _ _ ⟨rfl, rfl⟩; exact ⟨_, rfl, rfl, rfl⟩
set_option maxHeartbeats 4000000 in
set_option maxRecDepth 100000 in
theorem x_X6_place_Argument (x y w : Int32) (μ : Mm) (hx : plOK μ x y ∧ ¬ rgI w 0 5) : EvX ΛC xX6_place [.ref 109, .int x, .int y, .int w] μ ((fun E μ' => "java/lang/IllegalArgumentException" = E ∧ μ = μ')) := by
  refine EvX_ofQ (by decide +kernel) rfl (fun _ => rfl) (fun _ => Nat.le_of_ble_eq_true rfl) (ls := [(0, .ref 109), (1, .int x), (2, .int y), (3, .int w)]) ?_
  refine X_aload_n 0 0 dX6_place_0 rfl rfl ?_
  refine X_iload_n 1 1 dX6_place_1 rfl rfl ?_
  refine X_iload_n 2 2 dX6_place_2 rfl rfl ?_
  refine X_cVI 3 [.int _, .int _] (e_X6_faultOfPlace _ _ _) dX6_place_3 lm_RX6_144 2 ⟨wm_X6_faultOfPlace, by decide +kernel, rfl, rfl⟩ rfl ⟨Nat.le_of_ble_eq_true rfl, Nat.le_of_ble_eq_true rfl⟩ lyL vc6 rfl rfl (Nat.le_of_ble_eq_true rfl) ?_
  rintro _ _ ⟨rfl, ⟨rfl, f_3⟩ | ⟨rfl, f_3⟩⟩
  · refine X_cSV 6 [.int _] (e_X6_refuseIndex _ _ (by decide)) dX6_place_6 lm_RX6_68 1 ⟨wm_X6_refuseIndex, by decide +kernel, rfl, rfl⟩ rfl ⟨Nat.le_of_ble_eq_true rfl, Nat.le_of_ble_eq_true rfl⟩ rfl (Nat.le_of_ble_eq_true rfl) ?_
    rintro _ rfl
    refine X_iload_n 9 3 dX6_place_9 rfl rfl ?_
    refine X_iconst 10 (0) dX6_place_10 (by decide) ?_
    refine X_iconst 11 (5) dX6_place_11 (by decide) ?_
    refine X_cSI 12 [.int _, .int _, .int _] (e_X6_faultOfRange _ _ _ _) dX6_place_12 lm_RX6_147 3 ⟨wm_X6_faultOfRange, by decide +kernel, rfl, rfl⟩ rfl ⟨Nat.le_of_ble_eq_true rfl, Nat.le_of_ble_eq_true rfl⟩ rfl (Nat.le_of_ble_eq_true rfl) ?_
    rintro _ _ ⟨rfl, ⟨rfl, f_12⟩ | ⟨rfl, f_12⟩⟩
    · exact absurd f_12 hx.2
    · refine X_callX 15 [.int _] (x_X6_refuseArgument _) dX6_place_15 (kw_286) wt_X6_refuseArgument (by decide +kernel) ⟨Nat.le_of_ble_eq_true rfl, Nat.le_of_ble_eq_true rfl⟩ ⟨rfl, rfl⟩ ⟨by decide, by decide⟩ rfl (Nat.le_of_ble_eq_true rfl) ?_
      rintro _ _ ⟨rfl, rfl⟩; exact ⟨_, rfl, rfl, rfl⟩
  · exact absurd hx.1 f_3
set_option maxHeartbeats 4000000 in
set_option maxRecDepth 100000 in
theorem x_X6_light_Index (n x y : Int32) (μ : Mm) (hx : ¬ lpOK μ n) : EvX ΛC xX6_light [.ref 109, .int n, .int x, .int y] μ ((fun E μ' => "java/lang/IndexOutOfBoundsException" = E ∧ μ = μ')) := by
  refine EvX_ofQ (by decide +kernel) rfl (fun _ => rfl) (fun _ => Nat.le_of_ble_eq_true rfl) (ls := [(0, .ref 109), (1, .int n), (2, .int x), (3, .int y)]) ?_
  refine X_aload_n 0 0 dX6_light_0 rfl rfl ?_
  refine X_iload_n 1 1 dX6_light_1 rfl rfl ?_
  refine X_cVI 2 [.int _] (e_X6_faultOfLamp _ _) dX6_light_2 lm_RX6_116 1 ⟨wm_X6_faultOfLamp, by decide +kernel, rfl, rfl⟩ rfl ⟨Nat.le_of_ble_eq_true rfl, Nat.le_of_ble_eq_true rfl⟩ lyL vc6 rfl rfl (Nat.le_of_ble_eq_true rfl) ?_
  rintro _ _ ⟨rfl, ⟨rfl, f_2⟩ | ⟨rfl, f_2⟩⟩
  · exact absurd f_2 hx
  · refine X_callX 5 [.int _] (x_X6_refuseIndex _) dX6_light_5 (kw_404) wt_X6_refuseIndex (by decide +kernel) ⟨Nat.le_of_ble_eq_true rfl, Nat.le_of_ble_eq_true rfl⟩ ⟨rfl, rfl⟩ ⟨by decide, by decide⟩ rfl (Nat.le_of_ble_eq_true rfl) ?_
    rintro _ _ ⟨rfl, rfl⟩; exact ⟨_, rfl, rfl, rfl⟩
set_option maxHeartbeats 4000000 in
set_option maxRecDepth 100000 in
theorem x_X6_light_Index2 (n x y : Int32) (μ : Mm) (hx : lpOK μ n ∧ ¬ plOK μ x y) : EvX ΛC xX6_light [.ref 109, .int n, .int x, .int y] μ ((fun E μ' => "java/lang/IndexOutOfBoundsException" = E ∧ μ = μ')) := by
  refine EvX_ofQ (by decide +kernel) rfl (fun _ => rfl) (fun _ => Nat.le_of_ble_eq_true rfl) (ls := [(0, .ref 109), (1, .int n), (2, .int x), (3, .int y)]) ?_
  refine X_aload_n 0 0 dX6_light_0 rfl rfl ?_
  refine X_iload_n 1 1 dX6_light_1 rfl rfl ?_
  refine X_cVI 2 [.int _] (e_X6_faultOfLamp _ _) dX6_light_2 lm_RX6_116 1 ⟨wm_X6_faultOfLamp, by decide +kernel, rfl, rfl⟩ rfl ⟨Nat.le_of_ble_eq_true rfl, Nat.le_of_ble_eq_true rfl⟩ lyL vc6 rfl rfl (Nat.le_of_ble_eq_true rfl) ?_
  rintro _ _ ⟨rfl, ⟨rfl, f_2⟩ | ⟨rfl, f_2⟩⟩
  · refine X_cSV 5 [.int _] (e_X6_refuseIndex _ _ (by decide)) dX6_light_5 lm_RX6_68 1 ⟨wm_X6_refuseIndex, by decide +kernel, rfl, rfl⟩ rfl ⟨Nat.le_of_ble_eq_true rfl, Nat.le_of_ble_eq_true rfl⟩ rfl (Nat.le_of_ble_eq_true rfl) ?_
    rintro _ rfl
    refine X_aload_n 8 0 dX6_light_8 rfl rfl ?_
    refine X_iload_n 9 2 dX6_light_9 rfl rfl ?_
    refine X_iload_n 10 3 dX6_light_10 rfl rfl ?_
    refine X_cVI 11 [.int _, .int _] (e_X6_faultOfPlace _ _ _) dX6_light_11 lm_RX6_144 2 ⟨wm_X6_faultOfPlace, by decide +kernel, rfl, rfl⟩ rfl ⟨Nat.le_of_ble_eq_true rfl, Nat.le_of_ble_eq_true rfl⟩ lyL vc6 rfl rfl (Nat.le_of_ble_eq_true rfl) ?_
    rintro _ _ ⟨rfl, ⟨rfl, f_11⟩ | ⟨rfl, f_11⟩⟩
    · exact absurd f_11 hx.2
    · refine X_callX 14 [.int _] (x_X6_refuseIndex _) dX6_light_14 (kw_404) wt_X6_refuseIndex (by decide +kernel) ⟨Nat.le_of_ble_eq_true rfl, Nat.le_of_ble_eq_true rfl⟩ ⟨rfl, rfl⟩ ⟨by decide, by decide⟩ rfl (Nat.le_of_ble_eq_true rfl) ?_
      rintro _ _ ⟨rfl, rfl⟩; exact ⟨_, rfl, rfl, rfl⟩
  · exact absurd hx.1 f_2
set_option maxHeartbeats 4000000 in
set_option maxRecDepth 100000 in
theorem x_X6_weight_Index (n x y : Int32) (μ : Mm) (hx : ¬ lpOK μ n) : EvX ΛC xX6_weight [.ref 109, .int n, .int x, .int y] μ ((fun E μ' => "java/lang/IndexOutOfBoundsException" = E ∧ μ = μ')) := by
  refine EvX_ofQ (by decide +kernel) rfl (fun _ => rfl) (fun _ => Nat.le_of_ble_eq_true rfl) (ls := [(0, .ref 109), (1, .int n), (2, .int x), (3, .int y)]) ?_
  refine X_aload_n 0 0 dX6_weight_0 rfl rfl ?_
  refine X_iload_n 1 1 dX6_weight_1 rfl rfl ?_
  refine X_cVI 2 [.int _] (e_X6_faultOfLamp _ _) dX6_weight_2 lm_RX6_116 1 ⟨wm_X6_faultOfLamp, by decide +kernel, rfl, rfl⟩ rfl ⟨Nat.le_of_ble_eq_true rfl, Nat.le_of_ble_eq_true rfl⟩ lyL vc6 rfl rfl (Nat.le_of_ble_eq_true rfl) ?_
  rintro _ _ ⟨rfl, ⟨rfl, f_2⟩ | ⟨rfl, f_2⟩⟩
  · exact absurd f_2 hx
  · refine X_callX 5 [.int _] (x_X6_refuseIndex _) dX6_weight_5 (kw_404) wt_X6_refuseIndex (by decide +kernel) ⟨Nat.le_of_ble_eq_true rfl, Nat.le_of_ble_eq_true rfl⟩ ⟨rfl, rfl⟩ ⟨by decide, by decide⟩ rfl (Nat.le_of_ble_eq_true rfl) ?_
    rintro _ _ ⟨rfl, rfl⟩; exact ⟨_, rfl, rfl, rfl⟩
set_option maxHeartbeats 4000000 in
set_option maxRecDepth 100000 in
theorem x_X6_weight_Index2 (n x y : Int32) (μ : Mm) (hx : lpOK μ n ∧ ¬ plOK μ x y) : EvX ΛC xX6_weight [.ref 109, .int n, .int x, .int y] μ ((fun E μ' => "java/lang/IndexOutOfBoundsException" = E ∧ μ = μ')) := by
  refine EvX_ofQ (by decide +kernel) rfl (fun _ => rfl) (fun _ => Nat.le_of_ble_eq_true rfl) (ls := [(0, .ref 109), (1, .int n), (2, .int x), (3, .int y)]) ?_
  refine X_aload_n 0 0 dX6_weight_0 rfl rfl ?_
  refine X_iload_n 1 1 dX6_weight_1 rfl rfl ?_
  refine X_cVI 2 [.int _] (e_X6_faultOfLamp _ _) dX6_weight_2 lm_RX6_116 1 ⟨wm_X6_faultOfLamp, by decide +kernel, rfl, rfl⟩ rfl ⟨Nat.le_of_ble_eq_true rfl, Nat.le_of_ble_eq_true rfl⟩ lyL vc6 rfl rfl (Nat.le_of_ble_eq_true rfl) ?_
  rintro _ _ ⟨rfl, ⟨rfl, f_2⟩ | ⟨rfl, f_2⟩⟩
  · refine X_cSV 5 [.int _] (e_X6_refuseIndex _ _ (by decide)) dX6_weight_5 lm_RX6_68 1 ⟨wm_X6_refuseIndex, by decide +kernel, rfl, rfl⟩ rfl ⟨Nat.le_of_ble_eq_true rfl, Nat.le_of_ble_eq_true rfl⟩ rfl (Nat.le_of_ble_eq_true rfl) ?_
    rintro _ rfl
    refine X_aload_n 8 0 dX6_weight_8 rfl rfl ?_
    refine X_iload_n 9 2 dX6_weight_9 rfl rfl ?_
    refine X_iload_n 10 3 dX6_weight_10 rfl rfl ?_
    refine X_cVI 11 [.int _, .int _] (e_X6_faultOfPlace _ _ _) dX6_weight_11 lm_RX6_144 2 ⟨wm_X6_faultOfPlace, by decide +kernel, rfl, rfl⟩ rfl ⟨Nat.le_of_ble_eq_true rfl, Nat.le_of_ble_eq_true rfl⟩ lyL vc6 rfl rfl (Nat.le_of_ble_eq_true rfl) ?_
    rintro _ _ ⟨rfl, ⟨rfl, f_11⟩ | ⟨rfl, f_11⟩⟩
    · exact absurd f_11 hx.2
    · refine X_callX 14 [.int _] (x_X6_refuseIndex _) dX6_weight_14 (kw_404) wt_X6_refuseIndex (by decide +kernel) ⟨Nat.le_of_ble_eq_true rfl, Nat.le_of_ble_eq_true rfl⟩ ⟨rfl, rfl⟩ ⟨by decide, by decide⟩ rfl (Nat.le_of_ble_eq_true rfl) ?_
      rintro _ _ ⟨rfl, rfl⟩; exact ⟨_, rfl, rfl, rfl⟩
  · exact absurd hx.1 f_2
set_option maxHeartbeats 4000000 in
set_option maxRecDepth 100000 in
theorem x_X6_lamp_Index (n w : Int32) (μ : Mm) (hx : ¬ lpOK μ n) : EvX ΛC xX6_lamp [.ref 109, .int n, .int w] μ ((fun E μ' => "java/lang/IndexOutOfBoundsException" = E ∧ μ = μ')) := by
  refine EvX_ofQ (by decide +kernel) rfl (fun _ => rfl) (fun _ => Nat.le_of_ble_eq_true rfl) (ls := [(0, .ref 109), (1, .int n), (2, .int w)]) ?_
  refine X_aload_n 0 0 dX6_lamp_0 rfl rfl ?_
  refine X_iload_n 1 1 dX6_lamp_1 rfl rfl ?_
  refine X_cVI 2 [.int _] (e_X6_faultOfLamp _ _) dX6_lamp_2 lm_RX6_116 1 ⟨wm_X6_faultOfLamp, by decide +kernel, rfl, rfl⟩ rfl ⟨Nat.le_of_ble_eq_true rfl, Nat.le_of_ble_eq_true rfl⟩ lyL vc6 rfl rfl (Nat.le_of_ble_eq_true rfl) ?_
  rintro _ _ ⟨rfl, ⟨rfl, f_2⟩ | ⟨rfl, f_2⟩⟩
  · exact absurd f_2 hx
  · refine X_callX 5 [.int _] (x_X6_refuseIndex _) dX6_lamp_5 (kw_404) wt_X6_refuseIndex (by decide +kernel) ⟨Nat.le_of_ble_eq_true rfl, Nat.le_of_ble_eq_true rfl⟩ ⟨rfl, rfl⟩ ⟨by decide, by decide⟩ rfl (Nat.le_of_ble_eq_true rfl) ?_
    rintro _ _ ⟨rfl, rfl⟩; exact ⟨_, rfl, rfl, rfl⟩
set_option maxHeartbeats 4000000 in
set_option maxRecDepth 100000 in
theorem x_X6_lamp_Argument (n w : Int32) (μ : Mm) (hx : lpOK μ n ∧ ¬ rgI w 0 11) : EvX ΛC xX6_lamp [.ref 109, .int n, .int w] μ ((fun E μ' => "java/lang/IllegalArgumentException" = E ∧ μ = μ')) := by
  refine EvX_ofQ (by decide +kernel) rfl (fun _ => rfl) (fun _ => Nat.le_of_ble_eq_true rfl) (ls := [(0, .ref 109), (1, .int n), (2, .int w)]) ?_
  refine X_aload_n 0 0 dX6_lamp_0 rfl rfl ?_
  refine X_iload_n 1 1 dX6_lamp_1 rfl rfl ?_
  refine X_cVI 2 [.int _] (e_X6_faultOfLamp _ _) dX6_lamp_2 lm_RX6_116 1 ⟨wm_X6_faultOfLamp, by decide +kernel, rfl, rfl⟩ rfl ⟨Nat.le_of_ble_eq_true rfl, Nat.le_of_ble_eq_true rfl⟩ lyL vc6 rfl rfl (Nat.le_of_ble_eq_true rfl) ?_
  rintro _ _ ⟨rfl, ⟨rfl, f_2⟩ | ⟨rfl, f_2⟩⟩
  · refine X_cSV 5 [.int _] (e_X6_refuseIndex _ _ (by decide)) dX6_lamp_5 lm_RX6_68 1 ⟨wm_X6_refuseIndex, by decide +kernel, rfl, rfl⟩ rfl ⟨Nat.le_of_ble_eq_true rfl, Nat.le_of_ble_eq_true rfl⟩ rfl (Nat.le_of_ble_eq_true rfl) ?_
    rintro _ rfl
    refine X_iload_n 8 2 dX6_lamp_8 rfl rfl ?_
    refine X_iconst 9 (0) dX6_lamp_9 (by decide) ?_
    refine X_bipush 10 (11) dX6_lamp_10 (by decide) ?_
    refine X_cSI 12 [.int _, .int _, .int _] (e_X6_faultOfRange _ _ _ _) dX6_lamp_12 lm_RX6_147 3 ⟨wm_X6_faultOfRange, by decide +kernel, rfl, rfl⟩ rfl ⟨Nat.le_of_ble_eq_true rfl, Nat.le_of_ble_eq_true rfl⟩ rfl (Nat.le_of_ble_eq_true rfl) ?_
    rintro _ _ ⟨rfl, ⟨rfl, f_12⟩ | ⟨rfl, f_12⟩⟩
    · exact absurd f_12 hx.2
    · refine X_callX 15 [.int _] (x_X6_refuseArgument _) dX6_lamp_15 (kw_286) wt_X6_refuseArgument (by decide +kernel) ⟨Nat.le_of_ble_eq_true rfl, Nat.le_of_ble_eq_true rfl⟩ ⟨rfl, rfl⟩ ⟨by decide, by decide⟩ rfl (Nat.le_of_ble_eq_true rfl) ?_
      rintro _ _ ⟨rfl, rfl⟩; exact ⟨_, rfl, rfl, rfl⟩
  · exact absurd hx.1 f_2
set_option maxHeartbeats 4000000 in
set_option maxRecDepth 100000 in
theorem x_X6_corner_Index (n i a : Int32) (μ : Mm) (hx : ¬ lpOK μ n) : EvX ΛC xX6_corner [.ref 109, .int n, .int i, .int a] μ ((fun E μ' => "java/lang/IndexOutOfBoundsException" = E ∧ μ = μ')) := by
  refine EvX_ofQ (by decide +kernel) rfl (fun _ => rfl) (fun _ => Nat.le_of_ble_eq_true rfl) (ls := [(0, .ref 109), (1, .int n), (2, .int i), (3, .int a)]) ?_
  refine X_aload_n 0 0 dX6_corner_0 rfl rfl ?_
  refine X_iload_n 1 1 dX6_corner_1 rfl rfl ?_
  refine X_cVI 2 [.int _] (e_X6_faultOfLamp _ _) dX6_corner_2 lm_RX6_116 1 ⟨wm_X6_faultOfLamp, by decide +kernel, rfl, rfl⟩ rfl ⟨Nat.le_of_ble_eq_true rfl, Nat.le_of_ble_eq_true rfl⟩ lyL vc6 rfl rfl (Nat.le_of_ble_eq_true rfl) ?_
  rintro _ _ ⟨rfl, ⟨rfl, f_2⟩ | ⟨rfl, f_2⟩⟩
  · exact absurd f_2 hx
  · refine X_callX 5 [.int _] (x_X6_refuseIndex _) dX6_corner_5 (kw_404) wt_X6_refuseIndex (by decide +kernel) ⟨Nat.le_of_ble_eq_true rfl, Nat.le_of_ble_eq_true rfl⟩ ⟨rfl, rfl⟩ ⟨by decide, by decide⟩ rfl (Nat.le_of_ble_eq_true rfl) ?_
    rintro _ _ ⟨rfl, rfl⟩; exact ⟨_, rfl, rfl, rfl⟩
set_option maxHeartbeats 4000000 in
set_option maxRecDepth 100000 in
theorem x_X6_corner_Index2 (n i a : Int32) (μ : Mm) (hx : lpOK μ n ∧ ¬ rgI i 0 3) : EvX ΛC xX6_corner [.ref 109, .int n, .int i, .int a] μ ((fun E μ' => "java/lang/IndexOutOfBoundsException" = E ∧ μ = μ')) := by
  refine EvX_ofQ (by decide +kernel) rfl (fun _ => rfl) (fun _ => Nat.le_of_ble_eq_true rfl) (ls := [(0, .ref 109), (1, .int n), (2, .int i), (3, .int a)]) ?_
  refine X_aload_n 0 0 dX6_corner_0 rfl rfl ?_
  refine X_iload_n 1 1 dX6_corner_1 rfl rfl ?_
  refine X_cVI 2 [.int _] (e_X6_faultOfLamp _ _) dX6_corner_2 lm_RX6_116 1 ⟨wm_X6_faultOfLamp, by decide +kernel, rfl, rfl⟩ rfl ⟨Nat.le_of_ble_eq_true rfl, Nat.le_of_ble_eq_true rfl⟩ lyL vc6 rfl rfl (Nat.le_of_ble_eq_true rfl) ?_
  rintro _ _ ⟨rfl, ⟨rfl, f_2⟩ | ⟨rfl, f_2⟩⟩
  · refine X_cSV 5 [.int _] (e_X6_refuseIndex _ _ (by decide)) dX6_corner_5 lm_RX6_68 1 ⟨wm_X6_refuseIndex, by decide +kernel, rfl, rfl⟩ rfl ⟨Nat.le_of_ble_eq_true rfl, Nat.le_of_ble_eq_true rfl⟩ rfl (Nat.le_of_ble_eq_true rfl) ?_
    rintro _ rfl
    refine X_iload_n 8 2 dX6_corner_8 rfl rfl ?_
    refine X_iconst 9 (0) dX6_corner_9 (by decide) ?_
    refine X_iconst 10 (3) dX6_corner_10 (by decide) ?_
    refine X_cSI 11 [.int _, .int _, .int _] (e_X6_within _ _ _ _) dX6_corner_11 lm_RX6_176 3 ⟨wm_X6_within, by decide +kernel, rfl, rfl⟩ rfl ⟨Nat.le_of_ble_eq_true rfl, Nat.le_of_ble_eq_true rfl⟩ rfl (Nat.le_of_ble_eq_true rfl) ?_
    rintro _ _ ⟨rfl, ⟨rfl, b_11⟩ | ⟨rfl, b_11⟩⟩
    · exact absurd b_11 hx.2
    · refine X_if_eq 14 21 dX6_corner_14 (by decide) (fun _ => ?_) (fun c_0 => by exact absurd c_0 (by decide))
      refine X_iconst 21 (1) dX6_corner_21 (by decide) ?_
      refine X_callX 22 [.int _] (x_X6_refuseIndex _) dX6_corner_22 (kw_404) wt_X6_refuseIndex (by decide +kernel) ⟨Nat.le_of_ble_eq_true rfl, Nat.le_of_ble_eq_true rfl⟩ ⟨rfl, rfl⟩ ⟨by decide, by decide⟩ rfl (Nat.le_of_ble_eq_true rfl) ?_
      rintro _ _ ⟨rfl, rfl⟩; exact ⟨_, rfl, rfl, rfl⟩
  · exact absurd hx.1 f_2
set_option maxHeartbeats 4000000 in
set_option maxRecDepth 100000 in
theorem x_X6_corner_Argument (n i a : Int32) (μ : Mm) (hx : (lpOK μ n ∧ rgI i 0 3) ∧ ¬ rgI a 0 1) : EvX ΛC xX6_corner [.ref 109, .int n, .int i, .int a] μ ((fun E μ' => "java/lang/IllegalArgumentException" = E ∧ μ = μ')) := by
  refine EvX_ofQ (by decide +kernel) rfl (fun _ => rfl) (fun _ => Nat.le_of_ble_eq_true rfl) (ls := [(0, .ref 109), (1, .int n), (2, .int i), (3, .int a)]) ?_
  refine X_aload_n 0 0 dX6_corner_0 rfl rfl ?_
  refine X_iload_n 1 1 dX6_corner_1 rfl rfl ?_
  refine X_cVI 2 [.int _] (e_X6_faultOfLamp _ _) dX6_corner_2 lm_RX6_116 1 ⟨wm_X6_faultOfLamp, by decide +kernel, rfl, rfl⟩ rfl ⟨Nat.le_of_ble_eq_true rfl, Nat.le_of_ble_eq_true rfl⟩ lyL vc6 rfl rfl (Nat.le_of_ble_eq_true rfl) ?_
  rintro _ _ ⟨rfl, ⟨rfl, f_2⟩ | ⟨rfl, f_2⟩⟩
  · refine X_cSV 5 [.int _] (e_X6_refuseIndex _ _ (by decide)) dX6_corner_5 lm_RX6_68 1 ⟨wm_X6_refuseIndex, by decide +kernel, rfl, rfl⟩ rfl ⟨Nat.le_of_ble_eq_true rfl, Nat.le_of_ble_eq_true rfl⟩ rfl (Nat.le_of_ble_eq_true rfl) ?_
    rintro _ rfl
    refine X_iload_n 8 2 dX6_corner_8 rfl rfl ?_
    refine X_iconst 9 (0) dX6_corner_9 (by decide) ?_
    refine X_iconst 10 (3) dX6_corner_10 (by decide) ?_
    refine X_cSI 11 [.int _, .int _, .int _] (e_X6_within _ _ _ _) dX6_corner_11 lm_RX6_176 3 ⟨wm_X6_within, by decide +kernel, rfl, rfl⟩ rfl ⟨Nat.le_of_ble_eq_true rfl, Nat.le_of_ble_eq_true rfl⟩ rfl (Nat.le_of_ble_eq_true rfl) ?_
    rintro _ _ ⟨rfl, ⟨rfl, b_11⟩ | ⟨rfl, b_11⟩⟩
    · refine X_if_eq 14 21 dX6_corner_14 (by decide) (fun c_0 => by exact absurd c_0 (by decide)) (fun _ => ?_)
      refine X_iconst 17 (0) dX6_corner_17 (by decide) ?_
      refine X_goto 18 22 dX6_corner_18 (by decide) ?_
      refine X_cSV 22 [.int _] (e_X6_refuseIndex _ _ (by decide)) dX6_corner_22 lm_RX6_68 1 ⟨wm_X6_refuseIndex, by decide +kernel, rfl, rfl⟩ rfl ⟨Nat.le_of_ble_eq_true rfl, Nat.le_of_ble_eq_true rfl⟩ rfl (Nat.le_of_ble_eq_true rfl) ?_
      rintro _ rfl
      refine X_iload_n 25 3 dX6_corner_25 rfl rfl ?_
      refine X_iconst 26 (0) dX6_corner_26 (by decide) ?_
      refine X_iconst 27 (1) dX6_corner_27 (by decide) ?_
      refine X_cSI 28 [.int _, .int _, .int _] (e_X6_faultOfRange _ _ _ _) dX6_corner_28 lm_RX6_147 3 ⟨wm_X6_faultOfRange, by decide +kernel, rfl, rfl⟩ rfl ⟨Nat.le_of_ble_eq_true rfl, Nat.le_of_ble_eq_true rfl⟩ rfl (Nat.le_of_ble_eq_true rfl) ?_
      rintro _ _ ⟨rfl, ⟨rfl, f_28⟩ | ⟨rfl, f_28⟩⟩
      · exact absurd f_28 hx.2
      · refine X_callX 31 [.int _] (x_X6_refuseArgument _) dX6_corner_31 (kw_286) wt_X6_refuseArgument (by decide +kernel) ⟨Nat.le_of_ble_eq_true rfl, Nat.le_of_ble_eq_true rfl⟩ ⟨rfl, rfl⟩ ⟨by decide, by decide⟩ rfl (Nat.le_of_ble_eq_true rfl) ?_
        rintro _ _ ⟨rfl, rfl⟩; exact ⟨_, rfl, rfl, rfl⟩
    · exact absurd hx.1.2 b_11
  · exact absurd hx.1.1 f_2
set_option maxHeartbeats 4000000 in
set_option maxRecDepth 100000 in
theorem x_X6_whole_Argument (w : Int32) (μ : Mm) (hx : ¬ rgI w 0 14) : EvX ΛC xX6_whole [.ref 109, .int w] μ ((fun E μ' => "java/lang/IllegalArgumentException" = E ∧ μ = μ')) := by
  refine EvX_ofQ (by decide +kernel) rfl (fun _ => rfl) (fun _ => Nat.le_of_ble_eq_true rfl) (ls := [(0, .ref 109), (1, .int w)]) ?_
  refine X_iload_n 0 1 dX6_whole_0 rfl rfl ?_
  refine X_iconst 1 (0) dX6_whole_1 (by decide) ?_
  refine X_bipush 2 (14) dX6_whole_2 (by decide) ?_
  refine X_cSI 4 [.int _, .int _, .int _] (e_X6_faultOfRange _ _ _ _) dX6_whole_4 lm_RX6_147 3 ⟨wm_X6_faultOfRange, by decide +kernel, rfl, rfl⟩ rfl ⟨Nat.le_of_ble_eq_true rfl, Nat.le_of_ble_eq_true rfl⟩ rfl (Nat.le_of_ble_eq_true rfl) ?_
  rintro _ _ ⟨rfl, ⟨rfl, f_4⟩ | ⟨rfl, f_4⟩⟩
  · exact absurd f_4 hx
  · refine X_callX 7 [.int _] (x_X6_refuseArgument _) dX6_whole_7 (kw_286) wt_X6_refuseArgument (by decide +kernel) ⟨Nat.le_of_ble_eq_true rfl, Nat.le_of_ble_eq_true rfl⟩ ⟨rfl, rfl⟩ ⟨by decide, by decide⟩ rfl (Nat.le_of_ble_eq_true rfl) ?_
    rintro _ _ ⟨rfl, rfl⟩; exact ⟨_, rfl, rfl, rfl⟩
set_option maxHeartbeats 4000000 in
set_option maxRecDepth 100000 in
theorem x_X6_wrong_Argument (i : Int32) (μ : Mm) (hx : i < 0) : EvX ΛC xX6_wrong [.ref 109, .int i] μ ((fun E μ' => "java/lang/IllegalArgumentException" = E ∧ μ = μ')) := by
  refine EvX_ofQ (by decide +kernel) rfl (fun _ => rfl) (fun _ => Nat.le_of_ble_eq_true rfl) (ls := [(0, .ref 109), (1, .int i)]) ?_
  refine X_iload_n 0 1 dX6_wrong_0 rfl rfl ?_
  refine X_if_lt 1 8 dX6_wrong_1 (by decide) (fun c_1 => ?_) (fun c_1 => ?_)
  · refine X_iconst 8 (2) dX6_wrong_8 (by decide) ?_
    refine X_callX 9 [.int _] (x_X6_refuseArgument _) dX6_wrong_9 (kw_286) wt_X6_refuseArgument (by decide +kernel) ⟨Nat.le_of_ble_eq_true rfl, Nat.le_of_ble_eq_true rfl⟩ ⟨rfl, rfl⟩ ⟨by decide, by decide⟩ rfl (Nat.le_of_ble_eq_true rfl) ?_
    rintro _ _ ⟨rfl, rfl⟩; exact ⟨_, rfl, rfl, rfl⟩
  · exact absurd hx c_1
set_option maxHeartbeats 4000000 in
set_option maxRecDepth 100000 in
theorem x_X6_wrongWithout_Index (n : Int32) (μ : Mm) (hx : ¬ lpOK μ n) : EvX ΛC xX6_wrongWithout [.ref 109, .int n] μ ((fun E μ' => "java/lang/IndexOutOfBoundsException" = E ∧ μ = μ')) := by
  refine EvX_ofQ (by decide +kernel) rfl (fun _ => rfl) (fun _ => Nat.le_of_ble_eq_true rfl) (ls := [(0, .ref 109), (1, .int n)]) ?_
  refine X_aload_n 0 0 dX6_wrongWithout_0 rfl rfl ?_
  refine X_iload_n 1 1 dX6_wrongWithout_1 rfl rfl ?_
  refine X_cVI 2 [.int _] (e_X6_faultOfLamp _ _) dX6_wrongWithout_2 lm_RX6_116 1 ⟨wm_X6_faultOfLamp, by decide +kernel, rfl, rfl⟩ rfl ⟨Nat.le_of_ble_eq_true rfl, Nat.le_of_ble_eq_true rfl⟩ lyL vc6 rfl rfl (Nat.le_of_ble_eq_true rfl) ?_
  rintro _ _ ⟨rfl, ⟨rfl, f_2⟩ | ⟨rfl, f_2⟩⟩
  · exact absurd f_2 hx
  · refine X_callX 5 [.int _] (x_X6_refuseIndex _) dX6_wrongWithout_5 (kw_404) wt_X6_refuseIndex (by decide +kernel) ⟨Nat.le_of_ble_eq_true rfl, Nat.le_of_ble_eq_true rfl⟩ ⟨rfl, rfl⟩ ⟨by decide, by decide⟩ rfl (Nat.le_of_ble_eq_true rfl) ?_
    rintro _ _ ⟨rfl, rfl⟩; exact ⟨_, rfl, rfl, rfl⟩
set_option maxHeartbeats 4000000 in
set_option maxRecDepth 100000 in
theorem x_X6_wrongShifted_Argument (a b : Int32) (μ : Mm) (hx : ¬ shOK a b) : EvX ΛC xX6_wrongShifted [.ref 109, .int a, .int b] μ ((fun E μ' => "java/lang/IllegalArgumentException" = E ∧ μ = μ')) := by
  refine EvX_ofQ (by decide +kernel) rfl (fun _ => rfl) (fun _ => Nat.le_of_ble_eq_true rfl) (ls := [(0, .ref 109), (1, .int a), (2, .int b)]) ?_
  refine X_iload_n 0 1 dX6_wrongShifted_0 rfl rfl ?_
  refine X_iload_n 1 2 dX6_wrongShifted_1 rfl rfl ?_
  refine X_cSI 2 [.int _, .int _] (e_X6_faultOfShift _ _ _) dX6_wrongShifted_2 lm_RX6_126 2 ⟨wm_X6_faultOfShift, by decide +kernel, rfl, rfl⟩ rfl ⟨Nat.le_of_ble_eq_true rfl, Nat.le_of_ble_eq_true rfl⟩ rfl (Nat.le_of_ble_eq_true rfl) ?_
  rintro _ _ ⟨rfl, ⟨rfl, f_2⟩ | ⟨rfl, f_2⟩⟩
  · exact absurd f_2 hx
  · refine X_callX 5 [.int _] (x_X6_refuseArgument _) dX6_wrongShifted_5 (kw_286) wt_X6_refuseArgument (by decide +kernel) ⟨Nat.le_of_ble_eq_true rfl, Nat.le_of_ble_eq_true rfl⟩ ⟨rfl, rfl⟩ ⟨by decide, by decide⟩ rfl (Nat.le_of_ble_eq_true rfl) ?_
    rintro _ _ ⟨rfl, rfl⟩; exact ⟨_, rfl, rfl, rfl⟩
set_option maxHeartbeats 4000000 in
set_option maxRecDepth 100000 in
theorem x_X6_bestShift_Argument (m : Int32) (μ : Mm) (hx : ¬ rgI m 0 3) : EvX ΛC xX6_bestShift [.ref 109, .int m] μ ((fun E μ' => "java/lang/IllegalArgumentException" = E ∧ μ = μ')) := by
  refine EvX_ofQ (by decide +kernel) rfl (fun _ => rfl) (fun _ => Nat.le_of_ble_eq_true rfl) (ls := [(0, .ref 109), (1, .int m)]) ?_
  refine X_iload_n 0 1 dX6_bestShift_0 rfl rfl ?_
  refine X_iconst 1 (0) dX6_bestShift_1 (by decide) ?_
  refine X_iconst 2 (3) dX6_bestShift_2 (by decide) ?_
  refine X_cSI 3 [.int _, .int _, .int _] (e_X6_faultOfRange _ _ _ _) dX6_bestShift_3 lm_RX6_147 3 ⟨wm_X6_faultOfRange, by decide +kernel, rfl, rfl⟩ rfl ⟨Nat.le_of_ble_eq_true rfl, Nat.le_of_ble_eq_true rfl⟩ rfl (Nat.le_of_ble_eq_true rfl) ?_
  rintro _ _ ⟨rfl, ⟨rfl, f_3⟩ | ⟨rfl, f_3⟩⟩
  · exact absurd f_3 hx
  · refine X_callX 6 [.int _] (x_X6_refuseArgument _) dX6_bestShift_6 (kw_286) wt_X6_refuseArgument (by decide +kernel) ⟨Nat.le_of_ble_eq_true rfl, Nat.le_of_ble_eq_true rfl⟩ ⟨rfl, rfl⟩ ⟨by decide, by decide⟩ rfl (Nat.le_of_ble_eq_true rfl) ?_
    rintro _ _ ⟨rfl, rfl⟩; exact ⟨_, rfl, rfl, rfl⟩
set_option maxHeartbeats 4000000 in
set_option maxRecDepth 100000 in
theorem x_X6_neededLimit_Index (n : Int32) (μ : Mm) (hx : ¬ lpOK μ n) : EvX ΛC xX6_neededLimit [.ref 109, .int n] μ ((fun E μ' => "java/lang/IndexOutOfBoundsException" = E ∧ μ = μ')) := by
  refine EvX_ofQ (by decide +kernel) rfl (fun _ => rfl) (fun _ => Nat.le_of_ble_eq_true rfl) (ls := [(0, .ref 109), (1, .int n)]) ?_
  refine X_aload_n 0 0 dX6_neededLimit_0 rfl rfl ?_
  refine X_iload_n 1 1 dX6_neededLimit_1 rfl rfl ?_
  refine X_cVI 2 [.int _] (e_X6_faultOfLamp _ _) dX6_neededLimit_2 lm_RX6_116 1 ⟨wm_X6_faultOfLamp, by decide +kernel, rfl, rfl⟩ rfl ⟨Nat.le_of_ble_eq_true rfl, Nat.le_of_ble_eq_true rfl⟩ lyL vc6 rfl rfl (Nat.le_of_ble_eq_true rfl) ?_
  rintro _ _ ⟨rfl, ⟨rfl, f_2⟩ | ⟨rfl, f_2⟩⟩
  · exact absurd f_2 hx
  · refine X_callX 5 [.int _] (x_X6_refuseIndex _) dX6_neededLimit_5 (kw_404) wt_X6_refuseIndex (by decide +kernel) ⟨Nat.le_of_ble_eq_true rfl, Nat.le_of_ble_eq_true rfl⟩ ⟨rfl, rfl⟩ ⟨by decide, by decide⟩ rfl (Nat.le_of_ble_eq_true rfl) ?_
    rintro _ _ ⟨rfl, rfl⟩; exact ⟨_, rfl, rfl, rfl⟩
set_option maxHeartbeats 4000000 in
set_option maxRecDepth 100000 in
theorem x_X6_type_Argument (v : Int32) (μ : Mm) (hx : ¬ rgI v 0 127) : EvX ΛC xX6_type [.ref 109, .int v] μ ((fun E μ' => "java/lang/IllegalArgumentException" = E ∧ μ = μ')) := by
  refine EvX_ofQ (by decide +kernel) rfl (fun _ => rfl) (fun _ => Nat.le_of_ble_eq_true rfl) (ls := [(0, .ref 109), (1, .int v)]) ?_
  refine X_iload_n 0 1 dX6_type_0 rfl rfl ?_
  refine X_iconst 1 (0) dX6_type_1 (by decide) ?_
  refine X_bipush 2 (127) dX6_type_2 (by decide) ?_
  refine X_cSI 4 [.int _, .int _, .int _] (e_X6_faultOfRange _ _ _ _) dX6_type_4 lm_RX6_147 3 ⟨wm_X6_faultOfRange, by decide +kernel, rfl, rfl⟩ rfl ⟨Nat.le_of_ble_eq_true rfl, Nat.le_of_ble_eq_true rfl⟩ rfl (Nat.le_of_ble_eq_true rfl) ?_
  rintro _ _ ⟨rfl, ⟨rfl, f_4⟩ | ⟨rfl, f_4⟩⟩
  · exact absurd f_4 hx
  · refine X_callX 7 [.int _] (x_X6_refuseArgument _) dX6_type_7 (kw_286) wt_X6_refuseArgument (by decide +kernel) ⟨Nat.le_of_ble_eq_true rfl, Nat.le_of_ble_eq_true rfl⟩ ⟨rfl, rfl⟩ ⟨by decide, by decide⟩ rfl (Nat.le_of_ble_eq_true rfl) ?_
    rintro _ _ ⟨rfl, rfl⟩; exact ⟨_, rfl, rfl, rfl⟩
set_option maxHeartbeats 4000000 in
set_option maxRecDepth 100000 in
theorem x_X6_type_State (v : Int32) (μ : Mm) (hx : rgI v 0 127 ∧ ¬ μ 102 2 < 150) : EvX ΛC xX6_type [.ref 109, .int v] μ ((fun E μ' => "java/lang/IllegalStateException" = E ∧ μ = μ')) := by
  refine EvX_ofQ (by decide +kernel) rfl (fun _ => rfl) (fun _ => Nat.le_of_ble_eq_true rfl) (ls := [(0, .ref 109), (1, .int v)]) ?_
  refine X_iload_n 0 1 dX6_type_0 rfl rfl ?_
  refine X_iconst 1 (0) dX6_type_1 (by decide) ?_
  refine X_bipush 2 (127) dX6_type_2 (by decide) ?_
  refine X_cSI 4 [.int _, .int _, .int _] (e_X6_faultOfRange _ _ _ _) dX6_type_4 lm_RX6_147 3 ⟨wm_X6_faultOfRange, by decide +kernel, rfl, rfl⟩ rfl ⟨Nat.le_of_ble_eq_true rfl, Nat.le_of_ble_eq_true rfl⟩ rfl (Nat.le_of_ble_eq_true rfl) ?_
  rintro _ _ ⟨rfl, ⟨rfl, f_4⟩ | ⟨rfl, f_4⟩⟩
  · refine X_cSV 7 [.int _] (e_X6_refuseArgument _ _ (by decide)) dX6_type_7 lm_RX6_48 1 ⟨wm_X6_refuseArgument, by decide +kernel, rfl, rfl⟩ rfl ⟨Nat.le_of_ble_eq_true rfl, Nat.le_of_ble_eq_true rfl⟩ rfl (Nat.le_of_ble_eq_true rfl) ?_
    rintro _ rfl
    refine X_aload_n 10 0 dX6_type_10 rfl rfl ?_
    refine X_getR (f := 4) 11 dX6_type_11 lf_RX6_40 iw6 vc6 (by decide) lyL rfl ?_
    refine X_getI (f := 2) 14 dX6_type_14 lf_RX6_219 iw0 vc0 (by decide) lyC rfl ?_
    refine X_sipush 17 (150) dX6_type_17 (by decide) ?_
    refine X_icmp_ge 20 27 dX6_type_20 (by decide) (fun c_20 => ?_) (fun c_20 => ?_)
    · refine X_iconst 27 (3) dX6_type_27 (by decide) ?_
      refine X_callX 28 [.int _] (x_X6_refuseState _) dX6_type_28 (kw_451) wt_X6_refuseState (by decide +kernel) ⟨Nat.le_of_ble_eq_true rfl, Nat.le_of_ble_eq_true rfl⟩ ⟨rfl, rfl⟩ ⟨by decide, by decide⟩ rfl (Nat.le_of_ble_eq_true rfl) ?_
      rintro _ _ ⟨rfl, rfl⟩; exact ⟨_, rfl, rfl, rfl⟩
    · exact absurd (Int32.not_le.mp c_20) hx.2
  · exact absurd hx.1 f_4
set_option maxHeartbeats 4000000 in
set_option maxRecDepth 100000 in
theorem x_X6_undo_State  (μ : Mm) (hx : μ 107 2 ≤ 0) : EvX ΛC xX6_undo [.ref 109] μ ((fun E μ' => "java/lang/IllegalStateException" = E ∧ μ = μ')) := by
  refine EvX_ofQ (by decide +kernel) rfl (fun _ => rfl) (fun _ => Nat.le_of_ble_eq_true rfl) (ls := [(0, .ref 109)]) ?_
  refine X_aload_n 0 0 dX6_undo_0 rfl rfl ?_
  refine X_getR (f := 3) 1 dX6_undo_1 lf_RX6_33 iw6 vc6 (by decide) lyL rfl ?_
  refine X_getI (f := 2) 4 dX6_undo_4 lf_RX6_241 iw2 vc2 (by decide) lyH rfl ?_
  refine X_if_le 7 14 dX6_undo_7 (by decide) (fun c_7 => ?_) (fun c_7 => ?_)
  · refine X_iconst 14 (3) dX6_undo_14 (by decide) ?_
    refine X_callX 15 [.int _] (x_X6_refuseState _) dX6_undo_15 (kw_451) wt_X6_refuseState (by decide +kernel) ⟨Nat.le_of_ble_eq_true rfl, Nat.le_of_ble_eq_true rfl⟩ ⟨rfl, rfl⟩ ⟨by decide, by decide⟩ rfl (Nat.le_of_ble_eq_true rfl) ?_
    rintro _ _ ⟨rfl, rfl⟩; exact ⟨_, rfl, rfl, rfl⟩
  · exact absurd hx c_7
