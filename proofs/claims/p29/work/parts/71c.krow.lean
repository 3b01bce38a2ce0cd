abbrev mX3_init (n : Nat) : MD := (RX3, yX3_init, cX3_init, 2, none, { frames := 2, cells := 1, slots := n, locals := 20 })
theorem wmi_3 (n : Nat) : WMC (mX3_init n) := ⟨kn_32, kn_67, (show RX3 ≠ _ by decide +kernel), (show RX3 ≠ _ by decide +kernel)⟩
def PX3 (n : Nat) (G : G3) (q0 : Nat) (ws : va_W) : Prop := ∃ r : Nat, ws = [(q0, .inr (3, [.ref r])), (r, .inl (G.2.1, n, .inl (fun _ => 0)))]
theorem k_X3_init (n : Nat) (hn : n ≤ 4000) : EvK (mX3_init n) (.inr (3, [.null])) [.int (nI n)] 1 n (PX3 n) := by
  refine EvK_of (show plainName RX3 = true by decide +kernel) rfl rfl rfl (fun _ => Nat.le_of_ble_eq_true rfl) fun G q0 A => ?_
  refine K_aload_n 0 0 dX3_init_0 rfl rfl ?_
  refine K_obj 1 dX3_init_1 kn_68 kn_55 kn_56 ⟨Nat.le_of_ble_eq_true rfl, Nat.le_of_ble_eq_true rfl⟩ ?_
  refine K_aload_n 4 0 dX3_init_4 rfl rfl ?_
  refine K_iload_n 5 1 dX3_init_5 rfl rfl ?_
  refine K_ifge 6 13 dX3_init_6 rfl (nI_pos' (by omega)) ?_
  refine K_iload_n 13 1 dX3_init_13 rfl rfl ?_
  refine K_newa (N := n) 14 dX3_init_14 kn_73 hn ⟨Nat.le_refl _, Nat.le_of_eq (Nat.zero_add n)⟩ fun a1 => ?_
  refine K_putF (q0 := 0) 16 0 (tyX3 0) tyX3 dX3_init_16 iw3 tyX3_ok nmX3 kn_69 rfl vc3 (by decide) rfl rfl (tyX3_ok 0 (by decide)) rfl rfl (Nat.le_of_ble_eq_true rfl) rfl ?_
  exact K_vret 19 dX3_init_19 (Nat.le_refl _) (Nat.le_of_eq (Nat.zero_add n)) ⟨_, rfl⟩
abbrev mX4_init : MD := (RX4, yX4_init, cX4_init, 1, none, { frames := 3, cells := 14, slots := 487, locals := 50 })
theorem wmi_4 : WMC mX4_init := ⟨kn_31, kn_61, (show RX4 ≠ _ by decide +kernel), (show RX4 ≠ _ by decide +kernel)⟩
def WX4 (G : G3) (ad : Nat → Nat) : va_W := [(ad 0, .inr (4, [.int (12), .int (8), .int 0, .int 0, .int 0, .int 0, .int (1), .ref (ad 1), .ref (ad 3), .ref (ad 5), .ref (ad 7), .ref (ad 9), .ref (ad 11), .ref (ad 13)])), (ad 1, .inr (3, [.ref (ad 2)])), (ad 2, .inl (G.2.1, 384, .inl (fun _ => 0))), (ad 3, .inr (3, [.ref (ad 4)])), (ad 4, .inl (G.2.1, 8, .inl (fun _ => 0))), (ad 5, .inr (3, [.ref (ad 6)])), (ad 6, .inl (G.2.1, 8, .inl (fun _ => 0))), (ad 7, .inr (3, [.ref (ad 8)])), (ad 8, .inl (G.2.1, 8, .inl (fun _ => 0))), (ad 9, .inr (3, [.ref (ad 10)])), (ad 10, .inl (G.2.1, 8, .inl (fun _ => 0))), (ad 11, .inr (3, [.ref (ad 12)])), (ad 12, .inl (G.2.1, 32, .inl (fun _ => 0))), (ad 13, .inr (3, [.ref (ad 14)])), (ad 14, .inl (G.2.1, 32, .inl (fun _ => 0)))]
def PX4 (G : G3) (q0 : Nat) (ws : va_W) : Prop := ∃ ad : Nat → Nat, ad 0 = q0 ∧ ws = WX4 G ad
theorem k_X4_init : EvK mX4_init (.inr (4, [.int 0, .int 0, .int 0, .int 0, .int 0, .int 0, .int 0, .null, .null, .null, .null, .null, .null, .null])) [] 14 487 PX4 := by
  refine EvK_of (show plainName RX4 = true by decide +kernel) rfl rfl rfl (fun _ => Nat.le_of_ble_eq_true rfl) fun G q0 A => ?_
  refine K_aload_n 0 0 dX4_init_0 rfl rfl ?_
  refine K_obj 1 dX4_init_1 kn_62 kn_55 kn_56 ⟨Nat.le_of_ble_eq_true rfl, Nat.le_of_ble_eq_true rfl⟩ ?_
  refine K_aload_n 4 0 dX4_init_4 rfl rfl ?_
  refine K_bipush 5 (12) dX4_init_5 (by decide) ?_
  refine K_put (q0 := 0) 7 0 (tyX4 0) tyX4 dX4_init_7 iw4 tyX4_ok nmX4 kn_74 rfl vc4 (by decide) rfl (tyX4_ok 0 (by decide)) rfl rfl (Nat.le_of_ble_eq_true rfl) rfl ?_
  refine K_aload_n 10 0 dX4_init_10 rfl rfl ?_
  refine K_bipush 11 (8) dX4_init_11 (by decide) ?_
  refine K_put (q0 := 0) 13 1 (tyX4 1) tyX4 dX4_init_13 iw4 tyX4_ok nmX4 kn_78 rfl vc4 (by decide) rfl (tyX4_ok 1 (by decide)) rfl rfl (Nat.le_of_ble_eq_true rfl) rfl ?_
  refine K_aload_n 16 0 dX4_init_16 rfl rfl ?_
  refine K_iconst 17 (1) dX4_init_17 (by decide) ?_
  refine K_put (q0 := 0) 18 6 (tyX4 6) tyX4 dX4_init_18 iw4 tyX4_ok nmX4 kn_92 rfl vc4 (by decide) rfl (tyX4_ok 6 (by decide)) rfl rfl (Nat.le_of_ble_eq_true rfl) rfl ?_
  refine K_aload_n 21 0 dX4_init_21 rfl rfl ?_
  refine K_new 22 tyX3 [.null] dX4_init_22 iw3 tyX3_ok kn_63 kn_64 kn_32 vc3 df_3 ⟨Nat.le_of_ble_eq_true rfl, Nat.le_of_ble_eq_true rfl⟩ fun o1 => ?_
  refine K_dup 25 dX4_init_25 ?_
  refine K_sipush 26 (nI 384) dX4_init_26 (by decide) ?_
  refine K_call (av := [.int (nI 384)]) 29 (k_X3_init 384 (by decide)) dX4_init_29 (Or.inl kn_65) (wmi_3 384) kn_66 rfl rfl hnd_I ⟨Nat.le_of_ble_eq_true rfl, Nat.le_of_ble_eq_true rfl⟩ ⟨rfl, rfl⟩ ⟨Nat.le_of_ble_eq_true rfl, Nat.le_of_ble_eq_true rfl⟩ rfl rfl (Nat.le_of_ble_eq_true rfl) ?_
  rintro _ ⟨r2, rfl⟩
  refine K_putF (q0 := 0) 32 7 (tyX4 7) tyX4 dX4_init_32 iw4 tyX4_ok nmX4 kn_94 rfl vc4 (by decide) rfl rfl (tyX4_ok 7 (by decide)) rfl rfl (Nat.le_of_ble_eq_true rfl) rfl ?_
  refine K_aload_n 35 0 dX4_init_35 rfl rfl ?_
  refine K_new 36 tyX3 [.null] dX4_init_36 iw3 tyX3_ok kn_63 kn_64 kn_32 vc3 df_3 ⟨Nat.le_of_ble_eq_true rfl, Nat.le_of_ble_eq_true rfl⟩ fun o3 => ?_
  refine K_dup 39 dX4_init_39 ?_
  refine K_bipush 40 (nI 8) dX4_init_40 (by decide) ?_
  refine K_call (av := [.int (nI 8)]) 42 (k_X3_init 8 (by decide)) dX4_init_42 (Or.inl kn_65) (wmi_3 8) kn_66 rfl rfl hnd_I ⟨Nat.le_of_ble_eq_true rfl, Nat.le_of_ble_eq_true rfl⟩ ⟨rfl, rfl⟩ ⟨Nat.le_of_ble_eq_true rfl, Nat.le_of_ble_eq_true rfl⟩ rfl rfl (Nat.le_of_ble_eq_true rfl) ?_
  rintro _ ⟨r4, rfl⟩
  refine K_putF (q0 := 0) 45 8 (tyX4 8) tyX4 dX4_init_45 iw4 tyX4_ok nmX4 kn_95 rfl vc4 (by decide) rfl rfl (tyX4_ok 8 (by decide)) rfl rfl (Nat.le_of_ble_eq_true rfl) rfl ?_
  refine K_aload_n 48 0 dX4_init_48 rfl rfl ?_
  refine K_new 49 tyX3 [.null] dX4_init_49 iw3 tyX3_ok kn_63 kn_64 kn_32 vc3 df_3 ⟨Nat.le_of_ble_eq_true rfl, Nat.le_of_ble_eq_true rfl⟩ fun o5 => ?_
  refine K_dup 52 dX4_init_52 ?_
  refine K_bipush 53 (nI 8) dX4_init_53 (by decide) ?_
  refine K_call (av := [.int (nI 8)]) 55 (k_X3_init 8 (by decide)) dX4_init_55 (Or.inl kn_65) (wmi_3 8) kn_66 rfl rfl hnd_I ⟨Nat.le_of_ble_eq_true rfl, Nat.le_of_ble_eq_true rfl⟩ ⟨rfl, rfl⟩ ⟨Nat.le_of_ble_eq_true rfl, Nat.le_of_ble_eq_true rfl⟩ rfl rfl (Nat.le_of_ble_eq_true rfl) ?_
  rintro _ ⟨r6, rfl⟩
  refine K_putF (q0 := 0) 58 9 (tyX4 9) tyX4 dX4_init_58 iw4 tyX4_ok nmX4 kn_97 rfl vc4 (by decide) rfl rfl (tyX4_ok 9 (by decide)) rfl rfl (Nat.le_of_ble_eq_true rfl) rfl ?_
  refine K_aload_n 61 0 dX4_init_61 rfl rfl ?_
  refine K_new 62 tyX3 [.null] dX4_init_62 iw3 tyX3_ok kn_63 kn_64 kn_32 vc3 df_3 ⟨Nat.le_of_ble_eq_true rfl, Nat.le_of_ble_eq_true rfl⟩ fun o7 => ?_
  refine K_dup 65 dX4_init_65 ?_
  refine K_bipush 66 (nI 8) dX4_init_66 (by decide) ?_
  refine K_call (av := [.int (nI 8)]) 68 (k_X3_init 8 (by decide)) dX4_init_68 (Or.inl kn_65) (wmi_3 8) kn_66 rfl rfl hnd_I ⟨Nat.le_of_ble_eq_true rfl, Nat.le_of_ble_eq_true rfl⟩ ⟨rfl, rfl⟩ ⟨Nat.le_of_ble_eq_true rfl, Nat.le_of_ble_eq_true rfl⟩ rfl rfl (Nat.le_of_ble_eq_true rfl) ?_
  rintro _ ⟨r8, rfl⟩
  refine K_putF (q0 := 0) 71 10 (tyX4 10) tyX4 dX4_init_71 iw4 tyX4_ok nmX4 kn_99 rfl vc4 (by decide) rfl rfl (tyX4_ok 10 (by decide)) rfl rfl (Nat.le_of_ble_eq_true rfl) rfl ?_
  refine K_aload_n 74 0 dX4_init_74 rfl rfl ?_
  refine K_new 75 tyX3 [.null] dX4_init_75 iw3 tyX3_ok kn_63 kn_64 kn_32 vc3 df_3 ⟨Nat.le_of_ble_eq_true rfl, Nat.le_of_ble_eq_true rfl⟩ fun o9 => ?_
  refine K_dup 78 dX4_init_78 ?_
  refine K_bipush 79 (nI 8) dX4_init_79 (by decide) ?_
  refine K_call (av := [.int (nI 8)]) 81 (k_X3_init 8 (by decide)) dX4_init_81 (Or.inl kn_65) (wmi_3 8) kn_66 rfl rfl hnd_I ⟨Nat.le_of_ble_eq_true rfl, Nat.le_of_ble_eq_true rfl⟩ ⟨rfl, rfl⟩ ⟨Nat.le_of_ble_eq_true rfl, Nat.le_of_ble_eq_true rfl⟩ rfl rfl (Nat.le_of_ble_eq_true rfl) ?_
  rintro _ ⟨r10, rfl⟩
  refine K_putF (q0 := 0) 84 11 (tyX4 11) tyX4 dX4_init_84 iw4 tyX4_ok nmX4 kn_101 rfl vc4 (by decide) rfl rfl (tyX4_ok 11 (by decide)) rfl rfl (Nat.le_of_ble_eq_true rfl) rfl ?_
  refine K_aload_n 87 0 dX4_init_87 rfl rfl ?_
  refine K_new 88 tyX3 [.null] dX4_init_88 iw3 tyX3_ok kn_63 kn_64 kn_32 vc3 df_3 ⟨Nat.le_of_ble_eq_true rfl, Nat.le_of_ble_eq_true rfl⟩ fun o11 => ?_
  refine K_dup 91 dX4_init_91 ?_
  refine K_bipush 92 (nI 32) dX4_init_92 (by decide) ?_
  refine K_call (av := [.int (nI 32)]) 94 (k_X3_init 32 (by decide)) dX4_init_94 (Or.inl kn_65) (wmi_3 32) kn_66 rfl rfl hnd_I ⟨Nat.le_of_ble_eq_true rfl, Nat.le_of_ble_eq_true rfl⟩ ⟨rfl, rfl⟩ ⟨Nat.le_of_ble_eq_true rfl, Nat.le_of_ble_eq_true rfl⟩ rfl rfl (Nat.le_of_ble_eq_true rfl) ?_
  rintro _ ⟨r12, rfl⟩
  refine K_putF (q0 := 0) 97 12 (tyX4 12) tyX4 dX4_init_97 iw4 tyX4_ok nmX4 kn_102 rfl vc4 (by decide) rfl rfl (tyX4_ok 12 (by decide)) rfl rfl (Nat.le_of_ble_eq_true rfl) rfl ?_
  refine K_aload_n 100 0 dX4_init_100 rfl rfl ?_
  refine K_new 101 tyX3 [.null] dX4_init_101 iw3 tyX3_ok kn_63 kn_64 kn_32 vc3 df_3 ⟨Nat.le_of_ble_eq_true rfl, Nat.le_of_ble_eq_true rfl⟩ fun o13 => ?_
  refine K_dup 104 dX4_init_104 ?_
  refine K_bipush 105 (nI 32) dX4_init_105 (by decide) ?_
  refine K_call (av := [.int (nI 32)]) 107 (k_X3_init 32 (by decide)) dX4_init_107 (Or.inl kn_65) (wmi_3 32) kn_66 rfl rfl hnd_I ⟨Nat.le_of_ble_eq_true rfl, Nat.le_of_ble_eq_true rfl⟩ ⟨rfl, rfl⟩ ⟨Nat.le_of_ble_eq_true rfl, Nat.le_of_ble_eq_true rfl⟩ rfl rfl (Nat.le_of_ble_eq_true rfl) ?_
  rintro _ ⟨r14, rfl⟩
  refine K_putF (q0 := 0) 110 13 (tyX4 13) tyX4 dX4_init_110 iw4 tyX4_ok nmX4 kn_103 rfl vc4 (by decide) rfl rfl (tyX4_ok 13 (by decide)) rfl rfl (Nat.le_of_ble_eq_true rfl) rfl ?_
  exact K_vret 113 dX4_init_113 (Nat.le_of_ble_eq_true rfl) (Nat.le_of_ble_eq_true rfl) ⟨(fun k => ([q0, o1, r2, o3, r4, o5, r6, o7, r8, o9, r10, o11, r12, o13, r14] : List Nat).getD k 0), rfl, rfl⟩
abbrev mX1_init : MD := (RX1, yX1_init, cX1_init, 1, none, { frames := 3, cells := 8, slots := 36, locals := 50 })
theorem wmi_1 : WMC mX1_init := ⟨kn_34, kn_143, (show RX1 ≠ _ by decide +kernel), (show RX1 ≠ _ by decide +kernel)⟩
def WX1 (G : G3) (ad : Nat → Nat) : va_W := [(ad 0, .inr (1, [.ref (ad 1), .ref (ad 3), .ref (ad 5), .ref (ad 7), .int 0, .int 0, .int 0, .int 0])), (ad 1, .inr (3, [.ref (ad 2)])), (ad 2, .inl (G.2.1, 8, .inl (fun _ => 0))), (ad 3, .inr (3, [.ref (ad 4)])), (ad 4, .inl (G.2.1, 8, .inl (fun _ => 0))), (ad 5, .inr (3, [.ref (ad 6)])), (ad 6, .inl (G.2.1, 8, .inl (fun _ => 0))), (ad 7, .inr (3, [.ref (ad 8)])), (ad 8, .inl (G.2.1, 8, .inl (fun _ => 0)))]
def PX1 (G : G3) (q0 : Nat) (ws : va_W) : Prop := ∃ ad : Nat → Nat, ad 0 = q0 ∧ ws = WX1 G ad
theorem k_X1_init : EvK mX1_init (.inr (1, [.null, .null, .null, .null, .int 0, .int 0, .int 0, .int 0])) [] 8 36 PX1 := by
  refine EvK_of (show plainName RX1 = true by decide +kernel) rfl rfl rfl (fun _ => Nat.le_of_ble_eq_true rfl) fun G q0 A => ?_
  refine K_aload_n 0 0 dX1_init_0 rfl rfl ?_
  refine K_obj 1 dX1_init_1 kn_144 kn_55 kn_56 ⟨Nat.le_of_ble_eq_true rfl, Nat.le_of_ble_eq_true rfl⟩ ?_
  refine K_aload_n 4 0 dX1_init_4 rfl rfl ?_
  refine K_new 5 tyX3 [.null] dX1_init_5 iw3 tyX3_ok kn_145 kn_64 kn_32 vc3 df_3 ⟨Nat.le_of_ble_eq_true rfl, Nat.le_of_ble_eq_true rfl⟩ fun o1 => ?_
  refine K_dup 8 dX1_init_8 ?_
  refine K_bipush 9 (nI 8) dX1_init_9 (by decide) ?_
  refine K_call (av := [.int (nI 8)]) 11 (k_X3_init 8 (by decide)) dX1_init_11 (Or.inl kn_146) (wmi_3 8) kn_66 rfl rfl hnd_I ⟨Nat.le_of_ble_eq_true rfl, Nat.le_of_ble_eq_true rfl⟩ ⟨rfl, rfl⟩ ⟨Nat.le_of_ble_eq_true rfl, Nat.le_of_ble_eq_true rfl⟩ rfl rfl (Nat.le_of_ble_eq_true rfl) ?_
  rintro _ ⟨r2, rfl⟩
  refine K_putF (q0 := 0) 14 0 (tyX1 0) tyX1 dX1_init_14 iw1 tyX1_ok nmX1 kn_147 rfl vc1 (by decide) rfl rfl (tyX1_ok 0 (by decide)) rfl rfl (Nat.le_of_ble_eq_true rfl) rfl ?_
  refine K_aload_n 17 0 dX1_init_17 rfl rfl ?_
  refine K_new 18 tyX3 [.null] dX1_init_18 iw3 tyX3_ok kn_145 kn_64 kn_32 vc3 df_3 ⟨Nat.le_of_ble_eq_true rfl, Nat.le_of_ble_eq_true rfl⟩ fun o3 => ?_
  refine K_dup 21 dX1_init_21 ?_
  refine K_bipush 22 (nI 8) dX1_init_22 (by decide) ?_
  refine K_call (av := [.int (nI 8)]) 24 (k_X3_init 8 (by decide)) dX1_init_24 (Or.inl kn_146) (wmi_3 8) kn_66 rfl rfl hnd_I ⟨Nat.le_of_ble_eq_true rfl, Nat.le_of_ble_eq_true rfl⟩ ⟨rfl, rfl⟩ ⟨Nat.le_of_ble_eq_true rfl, Nat.le_of_ble_eq_true rfl⟩ rfl rfl (Nat.le_of_ble_eq_true rfl) ?_
  rintro _ ⟨r4, rfl⟩
  refine K_putF (q0 := 0) 27 1 (tyX1 1) tyX1 dX1_init_27 iw1 tyX1_ok nmX1 kn_148 rfl vc1 (by decide) rfl rfl (tyX1_ok 1 (by decide)) rfl rfl (Nat.le_of_ble_eq_true rfl) rfl ?_
  refine K_aload_n 30 0 dX1_init_30 rfl rfl ?_
  refine K_new 31 tyX3 [.null] dX1_init_31 iw3 tyX3_ok kn_145 kn_64 kn_32 vc3 df_3 ⟨Nat.le_of_ble_eq_true rfl, Nat.le_of_ble_eq_true rfl⟩ fun o5 => ?_
  refine K_dup 34 dX1_init_34 ?_
  refine K_bipush 35 (nI 8) dX1_init_35 (by decide) ?_
  refine K_call (av := [.int (nI 8)]) 37 (k_X3_init 8 (by decide)) dX1_init_37 (Or.inl kn_146) (wmi_3 8) kn_66 rfl rfl hnd_I ⟨Nat.le_of_ble_eq_true rfl, Nat.le_of_ble_eq_true rfl⟩ ⟨rfl, rfl⟩ ⟨Nat.le_of_ble_eq_true rfl, Nat.le_of_ble_eq_true rfl⟩ rfl rfl (Nat.le_of_ble_eq_true rfl) ?_
  rintro _ ⟨r6, rfl⟩
  refine K_putF (q0 := 0) 40 2 (tyX1 2) tyX1 dX1_init_40 iw1 tyX1_ok nmX1 kn_149 rfl vc1 (by decide) rfl rfl (tyX1_ok 2 (by decide)) rfl rfl (Nat.le_of_ble_eq_true rfl) rfl ?_
  refine K_aload_n 43 0 dX1_init_43 rfl rfl ?_
  refine K_new 44 tyX3 [.null] dX1_init_44 iw3 tyX3_ok kn_145 kn_64 kn_32 vc3 df_3 ⟨Nat.le_of_ble_eq_true rfl, Nat.le_of_ble_eq_true rfl⟩ fun o7 => ?_
  refine K_dup 47 dX1_init_47 ?_
  refine K_bipush 48 (nI 8) dX1_init_48 (by decide) ?_
  refine K_call (av := [.int (nI 8)]) 50 (k_X3_init 8 (by decide)) dX1_init_50 (Or.inl kn_146) (wmi_3 8) kn_66 rfl rfl hnd_I ⟨Nat.le_of_ble_eq_true rfl, Nat.le_of_ble_eq_true rfl⟩ ⟨rfl, rfl⟩ ⟨Nat.le_of_ble_eq_true rfl, Nat.le_of_ble_eq_true rfl⟩ rfl rfl (Nat.le_of_ble_eq_true rfl) ?_
  rintro _ ⟨r8, rfl⟩
  refine K_putF (q0 := 0) 53 3 (tyX1 3) tyX1 dX1_init_53 iw1 tyX1_ok nmX1 kn_150 rfl vc1 (by decide) rfl rfl (tyX1_ok 3 (by decide)) rfl rfl (Nat.le_of_ble_eq_true rfl) rfl ?_
  exact K_vret 56 dX1_init_56 (Nat.le_of_ble_eq_true rfl) (Nat.le_of_ble_eq_true rfl) ⟨(fun k => ([q0, o1, r2, o3, r4, o5, r6, o7, r8] : List Nat).getD k 0), rfl, rfl⟩
abbrev mX0_init : MD := (RX0, yX0_init, cX0_init, 1, none, { frames := 3, cells := 4, slots := 157, locals := 50 })
theorem wmi_0 : WMC mX0_init := ⟨kn_36, kn_223, (show RX0 ≠ _ by decide +kernel), (show RX0 ≠ _ by decide +kernel)⟩
def WX0 (G : G3) (ad : Nat → Nat) : va_W := [(ad 0, .inr (0, [.ref (ad 1), .ref (ad 3), .int 0, .int 0, .int (-1000), .int (0)])), (ad 1, .inr (3, [.ref (ad 2)])), (ad 2, .inl (G.2.1, 150, .inl (fun _ => 0))), (ad 3, .inr (3, [.ref (ad 4)])), (ad 4, .inl (G.2.1, 5, .inl (fun _ => 0)))]
def PX0 (G : G3) (q0 : Nat) (ws : va_W) : Prop := ∃ ad : Nat → Nat, ad 0 = q0 ∧ ws = WX0 G ad
theorem k_X0_init : EvK mX0_init (.inr (0, [.null, .null, .int 0, .int 0, .int 0, .int 0])) [] 4 157 PX0 := by
  refine EvK_of (show plainName RX0 = true by decide +kernel) rfl rfl rfl (fun _ => Nat.le_of_ble_eq_true rfl) fun G q0 A => ?_
  refine K_aload_n 0 0 dX0_init_0 rfl rfl ?_
  refine K_obj 1 dX0_init_1 kn_224 kn_55 kn_56 ⟨Nat.le_of_ble_eq_true rfl, Nat.le_of_ble_eq_true rfl⟩ ?_
  refine K_aload_n 4 0 dX0_init_4 rfl rfl ?_
  refine K_new 5 tyX3 [.null] dX0_init_5 iw3 tyX3_ok kn_225 kn_64 kn_32 vc3 df_3 ⟨Nat.le_of_ble_eq_true rfl, Nat.le_of_ble_eq_true rfl⟩ fun o1 => ?_
  refine K_dup 8 dX0_init_8 ?_
  refine K_sipush 9 (nI 150) dX0_init_9 (by decide) ?_
  refine K_call (av := [.int (nI 150)]) 12 (k_X3_init 150 (by decide)) dX0_init_12 (Or.inl kn_226) (wmi_3 150) kn_66 rfl rfl hnd_I ⟨Nat.le_of_ble_eq_true rfl, Nat.le_of_ble_eq_true rfl⟩ ⟨rfl, rfl⟩ ⟨Nat.le_of_ble_eq_true rfl, Nat.le_of_ble_eq_true rfl⟩ rfl rfl (Nat.le_of_ble_eq_true rfl) ?_
  rintro _ ⟨r2, rfl⟩
  refine K_putF (q0 := 0) 15 0 (tyX0 0) tyX0 dX0_init_15 iw0 tyX0_ok nmX0 kn_227 rfl vc0 (by decide) rfl rfl (tyX0_ok 0 (by decide)) rfl rfl (Nat.le_of_ble_eq_true rfl) rfl ?_
  refine K_aload_n 18 0 dX0_init_18 rfl rfl ?_
  refine K_new 19 tyX3 [.null] dX0_init_19 iw3 tyX3_ok kn_225 kn_64 kn_32 vc3 df_3 ⟨Nat.le_of_ble_eq_true rfl, Nat.le_of_ble_eq_true rfl⟩ fun o3 => ?_
  refine K_dup 22 dX0_init_22 ?_
  refine K_iconst 23 (nI 5) dX0_init_23 (by decide) ?_
  refine K_call (av := [.int (nI 5)]) 24 (k_X3_init 5 (by decide)) dX0_init_24 (Or.inl kn_226) (wmi_3 5) kn_66 rfl rfl hnd_I ⟨Nat.le_of_ble_eq_true rfl, Nat.le_of_ble_eq_true rfl⟩ ⟨rfl, rfl⟩ ⟨Nat.le_of_ble_eq_true rfl, Nat.le_of_ble_eq_true rfl⟩ rfl rfl (Nat.le_of_ble_eq_true rfl) ?_
  rintro _ ⟨r4, rfl⟩
  refine K_putF (q0 := 0) 27 1 (tyX0 1) tyX0 dX0_init_27 iw0 tyX0_ok nmX0 kn_228 rfl vc0 (by decide) rfl rfl (tyX0_ok 1 (by decide)) rfl rfl (Nat.le_of_ble_eq_true rfl) rfl ?_
  refine K_aload_n 30 0 dX0_init_30 rfl rfl ?_
  refine K_sipush 31 (-1000) dX0_init_31 (by decide) ?_
  refine K_put (q0 := 0) 34 4 (tyX0 4) tyX0 dX0_init_34 iw0 tyX0_ok nmX0 kn_232 rfl vc0 (by decide) rfl (tyX0_ok 4 (by decide)) rfl rfl (Nat.le_of_ble_eq_true rfl) rfl ?_
  refine K_aload_n 37 0 dX0_init_37 rfl rfl ?_
  refine K_iconst 38 (0) dX0_init_38 (by decide) ?_
  refine K_put (q0 := 0) 39 5 (tyX0 5) tyX0 dX0_init_39 iw0 tyX0_ok nmX0 kn_233 rfl vc0 (by decide) rfl (tyX0_ok 5 (by decide)) rfl rfl (Nat.le_of_ble_eq_true rfl) rfl ?_
  exact K_vret 42 dX0_init_42 (Nat.le_of_ble_eq_true rfl) (Nat.le_of_ble_eq_true rfl) ⟨(fun k => ([q0, o1, r2, o3, r4] : List Nat).getD k 0), rfl, rfl⟩
