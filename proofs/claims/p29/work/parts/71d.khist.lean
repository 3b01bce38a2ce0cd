abbrev mX2_init : MD := (RX2, yX2_init, cX2_init, 2, none, { frames := 4, cells := 61, slots := 2008, locals := 80 })
theorem wmi_2 : WMC mX2_init := ⟨kn_35, kn_203, (show RX2 ≠ _ by decide +kernel), (show RX2 ≠ _ by decide +kernel)⟩
def WX2 (G : G3) (ad : Nat → Nat) : va_W := [(ad 0, .inr (2, [.ref (ad 1), .int 0, .int 0])), (ad 1, .inl (G.2.2, 4, .inr (.inr (.inr (.inr (va_up (va_up (va_up (va_up (fun _ => none) 0 (some (ad 2))) 1 (some (ad 17))) 2 (some (ad 32))) 3 (some (ad 47))))))))] ++ (WX4 G (fun k => ad (k + 2)) ++ (WX4 G (fun k => ad (k + 17)) ++ (WX4 G (fun k => ad (k + 32)) ++ (WX4 G (fun k => ad (k + 47))))))
def PX2 (G : G3) (q0 : Nat) (ws : va_W) : Prop := ∃ ad : Nat → Nat, ad 0 = q0 ∧ ws = WX2 G ad
theorem k_X2_init : EvK mX2_init (.inr (2, [.null, .int 0, .int 0])) [] 61 2008 PX2 := by
  refine EvK_of (show plainName RX2 = true by decide +kernel) rfl rfl rfl (fun _ => Nat.le_of_ble_eq_true rfl) fun G q0 A => ?_
  refine K_aload_n 0 0 dX2_init_0 rfl rfl ?_
  refine K_obj 1 dX2_init_1 kn_204 kn_55 kn_56 ⟨Nat.le_of_ble_eq_true rfl, Nat.le_of_ble_eq_true rfl⟩ ?_
  refine K_aload_n 4 0 dX2_init_4 rfl rfl ?_
  refine K_iconst 5 (4) dX2_init_5 (by decide) ?_
  refine K_newq (N := 4) 6 dX2_init_6 kn_205 (by decide) (by decide) (by decide) ⟨Nat.le_of_ble_eq_true rfl, Nat.le_of_ble_eq_true rfl⟩ fun a1 => ?_
  refine K_putF (q0 := 0) 9 0 (tyX2 0) tyX2 dX2_init_9 iw2 tyX2_ok nmX2 kn_208 rfl vc2 (by decide) rfl rfl (tyX2_ok 0 (by decide)) rfl rfl (Nat.le_of_ble_eq_true rfl) rfl ?_
  refine K_iconst 12 (0) dX2_init_12 (by decide) ?_
  refine K_istore_n 13 dX2_init_13 rfl (by decide) rfl ?_
  refine K_iload_n 14 0 dX2_init_14 rfl rfl ?_
  refine K_aload_n 15 1 dX2_init_15 rfl rfl ?_
  refine K_getR (q0 := 0) 16 0 dX2_init_16 iw2 kn_208 rfl vc2 (by decide) rfl ?_
  refine K_alen (q0 := 1) 19 (4) dX2_init_19 rfl rfl ?_
  refine K_iclt 20 42 dX2_init_20 rfl (by decide) ?_
  refine K_aload_n 23 1 dX2_init_23 rfl rfl ?_
  refine K_getR (q0 := 0) 24 0 dX2_init_24 iw2 kn_208 rfl vc2 (by decide) rfl ?_
  refine K_iload_n 27 0 dX2_init_27 rfl rfl ?_
  refine K_new 28 tyX4 [.int 0, .int 0, .int 0, .int 0, .int 0, .int 0, .int 0, .null, .null, .null, .null, .null, .null, .null] dX2_init_28 iw4 tyX4_ok kn_205 kn_58 kn_31 vc4 df_4 ⟨Nat.le_of_ble_eq_true rfl, Nat.le_of_ble_eq_true rfl⟩ fun o2 => ?_
  refine K_dup 31 dX2_init_31 ?_
  refine K_call (av := []) 32 k_X4_init dX2_init_32 (Or.inr ⟨_, List.mem_of_getElem? (i := 4) rfl⟩) (wmi_4) kn_60 rfl rfl hnd_V ⟨Nat.le_of_ble_eq_true rfl, Nat.le_of_ble_eq_true rfl⟩ ⟨rfl, rfl⟩ ⟨Nat.le_of_ble_eq_true rfl, Nat.le_of_ble_eq_true rfl⟩ rfl rfl (Nat.le_of_ble_eq_true rfl) ?_
  rintro _ ⟨ad3, rfl, rfl⟩
  refine K_astq (q0 := 1) 35 2 0 dX2_init_35 rfl rfl (not_or.mpr ⟨by decide, by decide⟩) (by decide) rfl ?_
  refine K_iinc 36 0 (1) dX2_init_36 rfl (by decide) (by decide) rfl ?_
  refine K_goto 39 14 dX2_init_39 rfl ?_
  refine K_iload_n 14 0 dX2_init_14 rfl rfl ?_
  refine K_aload_n 15 1 dX2_init_15 rfl rfl ?_
  refine K_getR (q0 := 0) 16 0 dX2_init_16 iw2 kn_208 rfl vc2 (by decide) rfl ?_
  refine K_alen (q0 := 1) 19 (4) dX2_init_19 rfl rfl ?_
  refine K_iclt 20 42 dX2_init_20 rfl (by decide) ?_
  refine K_aload_n 23 1 dX2_init_23 rfl rfl ?_
  refine K_getR (q0 := 0) 24 0 dX2_init_24 iw2 kn_208 rfl vc2 (by decide) rfl ?_
  refine K_iload_n 27 0 dX2_init_27 rfl rfl ?_
  refine K_new 28 tyX4 [.int 0, .int 0, .int 0, .int 0, .int 0, .int 0, .int 0, .null, .null, .null, .null, .null, .null, .null] dX2_init_28 iw4 tyX4_ok kn_205 kn_58 kn_31 vc4 df_4 ⟨Nat.le_of_ble_eq_true rfl, Nat.le_of_ble_eq_true rfl⟩ fun o4 => ?_
  refine K_dup 31 dX2_init_31 ?_
  refine K_call (av := []) 32 k_X4_init dX2_init_32 (Or.inr ⟨_, List.mem_of_getElem? (i := 4) rfl⟩) (wmi_4) kn_60 rfl rfl hnd_V ⟨Nat.le_of_ble_eq_true rfl, Nat.le_of_ble_eq_true rfl⟩ ⟨rfl, rfl⟩ ⟨Nat.le_of_ble_eq_true rfl, Nat.le_of_ble_eq_true rfl⟩ rfl rfl (Nat.le_of_ble_eq_true rfl) ?_
  rintro _ ⟨ad5, rfl, rfl⟩
  refine K_astq (q0 := 1) 35 17 1 dX2_init_35 rfl rfl (not_or.mpr ⟨by decide, by decide⟩) (by decide) rfl ?_
  refine K_iinc 36 0 (2) dX2_init_36 rfl (by decide) (by decide) rfl ?_
  refine K_goto 39 14 dX2_init_39 rfl ?_
  refine K_iload_n 14 0 dX2_init_14 rfl rfl ?_
  refine K_aload_n 15 1 dX2_init_15 rfl rfl ?_
  refine K_getR (q0 := 0) 16 0 dX2_init_16 iw2 kn_208 rfl vc2 (by decide) rfl ?_
  refine K_alen (q0 := 1) 19 (4) dX2_init_19 rfl rfl ?_
  refine K_iclt 20 42 dX2_init_20 rfl (by decide) ?_
  refine K_aload_n 23 1 dX2_init_23 rfl rfl ?_
  refine K_getR (q0 := 0) 24 0 dX2_init_24 iw2 kn_208 rfl vc2 (by decide) rfl ?_
  refine K_iload_n 27 0 dX2_init_27 rfl rfl ?_
  refine K_new 28 tyX4 [.int 0, .int 0, .int 0, .int 0, .int 0, .int 0, .int 0, .null, .null, .null, .null, .null, .null, .null] dX2_init_28 iw4 tyX4_ok kn_205 kn_58 kn_31 vc4 df_4 ⟨Nat.le_of_ble_eq_true rfl, Nat.le_of_ble_eq_true rfl⟩ fun o6 => ?_
  refine K_dup 31 dX2_init_31 ?_
  refine K_call (av := []) 32 k_X4_init dX2_init_32 (Or.inr ⟨_, List.mem_of_getElem? (i := 4) rfl⟩) (wmi_4) kn_60 rfl rfl hnd_V ⟨Nat.le_of_ble_eq_true rfl, Nat.le_of_ble_eq_true rfl⟩ ⟨rfl, rfl⟩ ⟨Nat.le_of_ble_eq_true rfl, Nat.le_of_ble_eq_true rfl⟩ rfl rfl (Nat.le_of_ble_eq_true rfl) ?_
  rintro _ ⟨ad7, rfl, rfl⟩
  refine K_astq (q0 := 1) 35 32 2 dX2_init_35 rfl rfl (not_or.mpr ⟨by decide, by decide⟩) (by decide) rfl ?_
  refine K_iinc 36 0 (3) dX2_init_36 rfl (by decide) (by decide) rfl ?_
  refine K_goto 39 14 dX2_init_39 rfl ?_
  refine K_iload_n 14 0 dX2_init_14 rfl rfl ?_
  refine K_aload_n 15 1 dX2_init_15 rfl rfl ?_
  refine K_getR (q0 := 0) 16 0 dX2_init_16 iw2 kn_208 rfl vc2 (by decide) rfl ?_
  refine K_alen (q0 := 1) 19 (4) dX2_init_19 rfl rfl ?_
  refine K_iclt 20 42 dX2_init_20 rfl (by decide) ?_
  refine K_aload_n 23 1 dX2_init_23 rfl rfl ?_
  refine K_getR (q0 := 0) 24 0 dX2_init_24 iw2 kn_208 rfl vc2 (by decide) rfl ?_
  refine K_iload_n 27 0 dX2_init_27 rfl rfl ?_
  refine K_new 28 tyX4 [.int 0, .int 0, .int 0, .int 0, .int 0, .int 0, .int 0, .null, .null, .null, .null, .null, .null, .null] dX2_init_28 iw4 tyX4_ok kn_205 kn_58 kn_31 vc4 df_4 ⟨Nat.le_of_ble_eq_true rfl, Nat.le_of_ble_eq_true rfl⟩ fun o8 => ?_
  refine K_dup 31 dX2_init_31 ?_
  refine K_call (av := []) 32 k_X4_init dX2_init_32 (Or.inr ⟨_, List.mem_of_getElem? (i := 4) rfl⟩) (wmi_4) kn_60 rfl rfl hnd_V ⟨Nat.le_of_ble_eq_true rfl, Nat.le_of_ble_eq_true rfl⟩ ⟨rfl, rfl⟩ ⟨Nat.le_of_ble_eq_true rfl, Nat.le_of_ble_eq_true rfl⟩ rfl rfl (Nat.le_of_ble_eq_true rfl) ?_
  rintro _ ⟨ad9, rfl, rfl⟩
  refine K_astq (q0 := 1) 35 47 3 dX2_init_35 rfl rfl (not_or.mpr ⟨by decide, by decide⟩) (by decide) rfl ?_
  refine K_iinc 36 0 (4) dX2_init_36 rfl (by decide) (by decide) rfl ?_
  refine K_goto 39 14 dX2_init_39 rfl ?_
  refine K_iload_n 14 0 dX2_init_14 rfl rfl ?_
  refine K_aload_n 15 1 dX2_init_15 rfl rfl ?_
  refine K_getR (q0 := 0) 16 0 dX2_init_16 iw2 kn_208 rfl vc2 (by decide) rfl ?_
  refine K_alen (q0 := 1) 19 (4) dX2_init_19 rfl rfl ?_
  refine K_icge 20 42 dX2_init_20 rfl (by decide) ?_
  exact K_vret 42 dX2_init_42 (Nat.le_of_ble_eq_true rfl) (Nat.le_of_ble_eq_true rfl) ⟨(jn 2 (fun k => ([q0, a1] : List Nat).getD k 0) (jn 15 ad3 (jn 15 ad5 (jn 15 ad7 ad9)))), rfl, rfl⟩
abbrev mX5_init : MD := (RX5, yX5_init, cX5_init, 1, none, { frames := 4, cells := 17, slots := 4272, locals := 80 })
theorem wmi_5 : WMC mX5_init := ⟨kn_33, kn_137, (show RX5 ≠ _ by decide +kernel), (show RX5 ≠ _ by decide +kernel)⟩
def WX5 (G : G3) (ad : Nat → Nat) : va_W := [(ad 0, .inr (5, [.ref (ad 1), .ref (ad 10), .ref (ad 12), .ref (ad 14), .ref (ad 16), .int 0]))] ++ (WX1 G (fun k => ad (k + 1)) ++ ([(ad 10, .inr (3, [.ref (ad 11)])), (ad 11, .inl (G.2.1, 3072, .inl (fun _ => 0))), (ad 12, .inr (3, [.ref (ad 13)])), (ad 13, .inl (G.2.1, 384, .inl (fun _ => 0))), (ad 14, .inr (3, [.ref (ad 15)])), (ad 15, .inl (G.2.1, 384, .inl (fun _ => 0))), (ad 16, .inr (3, [.ref (ad 17)])), (ad 17, .inl (G.2.1, 384, .inl (fun _ => 0)))]))
def PX5 (G : G3) (q0 : Nat) (ws : va_W) : Prop := ∃ ad : Nat → Nat, ad 0 = q0 ∧ ws = WX5 G ad
theorem k_X5_init : EvK mX5_init (.inr (5, [.null, .null, .null, .null, .null, .int 0])) [] 17 4272 PX5 := by
  refine EvK_of (show plainName RX5 = true by decide +kernel) rfl rfl rfl (fun _ => Nat.le_of_ble_eq_true rfl) fun G q0 A => ?_
  refine K_aload_n 0 0 dX5_init_0 rfl rfl ?_
  refine K_obj 1 dX5_init_1 kn_138 kn_55 kn_56 ⟨Nat.le_of_ble_eq_true rfl, Nat.le_of_ble_eq_true rfl⟩ ?_
  refine K_aload_n 4 0 dX5_init_4 rfl rfl ?_
  refine K_new 5 tyX1 [.null, .null, .null, .null, .int 0, .int 0, .int 0, .int 0] dX5_init_5 iw1 tyX1_ok kn_139 kn_140 kn_34 vc1 df_1 ⟨Nat.le_of_ble_eq_true rfl, Nat.le_of_ble_eq_true rfl⟩ fun o1 => ?_
  refine K_dup 8 dX5_init_8 ?_
  refine K_call (av := []) 9 k_X1_init dX5_init_9 (Or.inr ⟨_, List.mem_of_getElem? (i := 2) rfl⟩) (wmi_1) kn_142 rfl rfl hnd_V ⟨Nat.le_of_ble_eq_true rfl, Nat.le_of_ble_eq_true rfl⟩ ⟨rfl, rfl⟩ ⟨Nat.le_of_ble_eq_true rfl, Nat.le_of_ble_eq_true rfl⟩ rfl rfl (Nat.le_of_ble_eq_true rfl) ?_
  rintro _ ⟨ad2, rfl, rfl⟩
  refine K_putF (q0 := 0) 12 0 (tyX5 0) tyX5 dX5_init_12 iw5 tyX5_ok nmX5 kn_178 rfl vc5 (by decide) rfl rfl (tyX5_ok 0 (by decide)) rfl rfl (Nat.le_of_ble_eq_true rfl) rfl ?_
  refine K_aload_n 15 0 dX5_init_15 rfl rfl ?_
  refine K_new 16 tyX3 [.null] dX5_init_16 iw3 tyX3_ok kn_176 kn_64 kn_32 vc3 df_3 ⟨Nat.le_of_ble_eq_true rfl, Nat.le_of_ble_eq_true rfl⟩ fun o3 => ?_
  refine K_dup 19 dX5_init_19 ?_
  refine K_sipush 20 (nI 3072) dX5_init_20 (by decide) ?_
  refine K_call (av := [.int (nI 3072)]) 23 (k_X3_init 3072 (by decide)) dX5_init_23 (Or.inl kn_177) (wmi_3 3072) kn_66 rfl rfl hnd_I ⟨Nat.le_of_ble_eq_true rfl, Nat.le_of_ble_eq_true rfl⟩ ⟨rfl, rfl⟩ ⟨Nat.le_of_ble_eq_true rfl, Nat.le_of_ble_eq_true rfl⟩ rfl rfl (Nat.le_of_ble_eq_true rfl) ?_
  rintro _ ⟨r4, rfl⟩
  refine K_putF (q0 := 0) 26 1 (tyX5 1) tyX5 dX5_init_26 iw5 tyX5_ok nmX5 kn_179 rfl vc5 (by decide) rfl rfl (tyX5_ok 1 (by decide)) rfl rfl (Nat.le_of_ble_eq_true rfl) rfl ?_
  refine K_aload_n 29 0 dX5_init_29 rfl rfl ?_
  refine K_new 30 tyX3 [.null] dX5_init_30 iw3 tyX3_ok kn_176 kn_64 kn_32 vc3 df_3 ⟨Nat.le_of_ble_eq_true rfl, Nat.le_of_ble_eq_true rfl⟩ fun o5 => ?_
  refine K_dup 33 dX5_init_33 ?_
  refine K_sipush 34 (nI 384) dX5_init_34 (by decide) ?_
  refine K_call (av := [.int (nI 384)]) 37 (k_X3_init 384 (by decide)) dX5_init_37 (Or.inl kn_177) (wmi_3 384) kn_66 rfl rfl hnd_I ⟨Nat.le_of_ble_eq_true rfl, Nat.le_of_ble_eq_true rfl⟩ ⟨rfl, rfl⟩ ⟨Nat.le_of_ble_eq_true rfl, Nat.le_of_ble_eq_true rfl⟩ rfl rfl (Nat.le_of_ble_eq_true rfl) ?_
  rintro _ ⟨r6, rfl⟩
  refine K_putF (q0 := 0) 40 2 (tyX5 2) tyX5 dX5_init_40 iw5 tyX5_ok nmX5 kn_180 rfl vc5 (by decide) rfl rfl (tyX5_ok 2 (by decide)) rfl rfl (Nat.le_of_ble_eq_true rfl) rfl ?_
  refine K_aload_n 43 0 dX5_init_43 rfl rfl ?_
  refine K_new 44 tyX3 [.null] dX5_init_44 iw3 tyX3_ok kn_176 kn_64 kn_32 vc3 df_3 ⟨Nat.le_of_ble_eq_true rfl, Nat.le_of_ble_eq_true rfl⟩ fun o7 => ?_
  refine K_dup 47 dX5_init_47 ?_
  refine K_sipush 48 (nI 384) dX5_init_48 (by decide) ?_
  refine K_call (av := [.int (nI 384)]) 51 (k_X3_init 384 (by decide)) dX5_init_51 (Or.inl kn_177) (wmi_3 384) kn_66 rfl rfl hnd_I ⟨Nat.le_of_ble_eq_true rfl, Nat.le_of_ble_eq_true rfl⟩ ⟨rfl, rfl⟩ ⟨Nat.le_of_ble_eq_true rfl, Nat.le_of_ble_eq_true rfl⟩ rfl rfl (Nat.le_of_ble_eq_true rfl) ?_
  rintro _ ⟨r8, rfl⟩
  refine K_putF (q0 := 0) 54 3 (tyX5 3) tyX5 dX5_init_54 iw5 tyX5_ok nmX5 kn_181 rfl vc5 (by decide) rfl rfl (tyX5_ok 3 (by decide)) rfl rfl (Nat.le_of_ble_eq_true rfl) rfl ?_
  refine K_aload_n 57 0 dX5_init_57 rfl rfl ?_
  refine K_new 58 tyX3 [.null] dX5_init_58 iw3 tyX3_ok kn_176 kn_64 kn_32 vc3 df_3 ⟨Nat.le_of_ble_eq_true rfl, Nat.le_of_ble_eq_true rfl⟩ fun o9 => ?_
  refine K_dup 61 dX5_init_61 ?_
  refine K_sipush 62 (nI 384) dX5_init_62 (by decide) ?_
  refine K_call (av := [.int (nI 384)]) 65 (k_X3_init 384 (by decide)) dX5_init_65 (Or.inl kn_177) (wmi_3 384) kn_66 rfl rfl hnd_I ⟨Nat.le_of_ble_eq_true rfl, Nat.le_of_ble_eq_true rfl⟩ ⟨rfl, rfl⟩ ⟨Nat.le_of_ble_eq_true rfl, Nat.le_of_ble_eq_true rfl⟩ rfl rfl (Nat.le_of_ble_eq_true rfl) ?_
  rintro _ ⟨r10, rfl⟩
  refine K_putF (q0 := 0) 68 4 (tyX5 4) tyX5 dX5_init_68 iw5 tyX5_ok nmX5 kn_182 rfl vc5 (by decide) rfl rfl (tyX5_ok 4 (by decide)) rfl rfl (Nat.le_of_ble_eq_true rfl) rfl ?_
  exact K_vret 71 dX5_init_71 (Nat.le_of_ble_eq_true rfl) (Nat.le_of_ble_eq_true rfl) ⟨(jn 1 (fun k => ([q0] : List Nat).getD k 0) (jn 9 ad2 (fun k => ([o3, r4, o5, r6, o7, r8, o9, r10] : List Nat).getD k 0))), rfl, rfl⟩
