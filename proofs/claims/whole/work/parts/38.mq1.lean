set_option maxHeartbeats 4000000 in
set_option maxRecDepth 100000 in
theorem e_X7_limits (V : Mm) (c r lc : Nat) (z : Int32) (μ : Mm) (hM : MI V c r lc μ) : EvN ΛM mX7_limits [.ref 0, .int z] μ (qE (sumN lc (smZ V z (μ 0 11))) μ) := by
  refine EvN_ofQ (by decide +kernel) rfl (fun _ => rfl) (fun _ => Nat.le_of_ble_eq_true rfl) (ls := [(0, .ref 0), (1, .int z)]) ?_
  obtain ⟨⟨hc1, hc2⟩, ⟨hr1, hr2⟩, h8⟩ := MI_lc hM
  refine X_iconst 0 (0) dX7_limits_0 (by decide) ?_
  refine X_istore_n 1 [(2, .int _), (0, .ref _), (1, .int _)] dX7_limits_1 rfl (by decide) rfl ?_
  refine X_iconst 2 (0) dX7_limits_2 (by decide) ?_
  refine X_istore_n 3 [(3, .int _), (2, .int _), (0, .ref _), (1, .int _)] dX7_limits_3 rfl (by decide) rfl ?_
  refine X_sub [2, 3, 1, 0] [(0, .ref _), (1, .int _), (2, .int _), (3, .int _)] rfl ?_
  have L_4 : ∀ (kf : Nat) (n : Nat), n ≤ lc → lc < n + kf → ∀ (x4_2 : Int32) (x4_3 : Int32), sumN n (smZ V z (μ 0 11)) = x4_2 → nI n = x4_3 → X false ΛM mX7_limits (QN (qE (sumN lc (smZ V z (μ 0 11))) μ)) 4 [(0, .ref 0), (1, .int z), (2, .int x4_2), (3, .int x4_3)] [] μ := by
    intro kf
    induction kf with
    | zero => intro n hp4_0 hp4_1; exfalso; omega
    | succ kf ih_4 =>
      intro n hp4_0 hp4_1 x4_2 x4_3
      rintro rfl rfl
      refine X_iload_n 4 3 dX7_limits_4 rfl rfl ?_
      refine X_aload_n 5 0 dX7_limits_5 rfl rfl ?_
      refine X_getR (f := 0) 6 dX7_limits_6 lf_RX7_7 iw7 vc7 (by decide) lyM rfl ?_
      refine X_iconst 9 (4) dX7_limits_9 (by decide) ?_
      refine X_iald 10 dX7_limits_10 lyM1 (vp_in_nI (n := 4) (by decide) (by decide)) ?_
      rw [cl4]
      rw [hM.1.1.2.2.1]
      refine X_icmp_ge 11 52 dX7_limits_11 (by decide) (fun c_11 => ?_) (fun c_11 => ?_)
      · have hge : lc ≤ n := c_ge rfl (by omega) (by omega) c_11
        have hie : lc = n := by omega
        subst hie
        refine X_iload_n 52 2 dX7_limits_52 rfl rfl ?_
        refine X_iret 53 dX7_limits_53 rfl rfl ⟨_, rfl, _, rfl, ?_⟩
        exact ⟨rfl, rfl⟩
      · have hlt : n < lc := c_lt rfl (by omega) (by omega) c_11
        have hn8 : n < 8 := by omega
        refine X_iload_n 14 2 dX7_limits_14 rfl rfl ?_
        refine X_aload_n 15 0 dX7_limits_15 rfl rfl ?_
        refine X_iload_n 16 3 dX7_limits_16 rfl rfl ?_
        refine X_cVI 17 [.int _] (e_X7_isOn _ _) dX7_limits_17 lm_RX7_91 1 ⟨wm_X7_isOn, by decide +kernel, rfl, rfl⟩ rfl ⟨Nat.le_of_ble_eq_true rfl, Nat.le_of_ble_eq_true rfl⟩ lyM vc7 rfl rfl (Nat.le_of_ble_eq_true rfl) ?_
        rintro _ _ ⟨rfl, ⟨rfl, b_17⟩ | ⟨rfl, b_17⟩⟩
        · refine X_if_ne 20 27 dX7_limits_20 (by decide) (fun _ => ?_) (fun c_0 => by exact absurd c_0 (by decide))
          refine X_iload_n 27 1 dX7_limits_27 rfl rfl ?_
          refine X_if_eq 28 39 dX7_limits_28 (by decide) (fun c_28 => ?_) (fun c_28 => ?_)
          · refine X_aload_n 39 0 dX7_limits_39 rfl rfl ?_
            refine X_iload_n 40 3 dX7_limits_40 rfl rfl ?_
            refine X_cVI 41 [.int _] (e_X7_limit 0 V c r lc n _ hM.1 hn8) dX7_limits_41 lm_RX7_65 1 ⟨wm_X7_limit, by decide +kernel, rfl, rfl⟩ rfl ⟨Nat.le_of_ble_eq_true rfl, Nat.le_of_ble_eq_true rfl⟩ lyM vc7 rfl rfl (Nat.le_of_ble_eq_true rfl) ?_
            rintro _ _ ⟨rfl, rfl⟩
            refine X_iadd 44 dX7_limits_44 ?_
            refine X_istore_n 45 [(2, .int _), (0, .ref _), (1, .int _), (3, .int _)] dX7_limits_45 rfl (by decide) rfl ?_
            refine X_iinc 46 3 (_ + 1) [(3, .int _), (2, .int _), (0, .ref _), (1, .int _)] dX7_limits_46 rfl rfl (by decide) rfl ?_
            refine X_goto 49 4 dX7_limits_49 (by decide) ?_
            refine X_sub [2, 3, 1, 0] [(0, .ref _), (1, .int _), (2, .int _), (3, .int _)] rfl ?_
            exact ih_4 (n + 1) (by omega) (by omega) _ _  (by (first | exact sum_st (if_neg b_17) | exact sum_st ((if_pos b_17).trans (if_pos c_28)) | exact sum_st ((if_pos b_17).trans (if_neg c_28)))) (by exact (nI_1 n).symm)
          · refine X_aload_n 31 0 dX7_limits_31 rfl rfl ?_
            refine X_iload_n 32 3 dX7_limits_32 rfl rfl ?_
            refine X_cVI 33 [.int _] (e_X7_floor 0 V c r lc n _ hM.1 hn8) dX7_limits_33 lm_RX7_105 1 ⟨wm_X7_floor, by decide +kernel, rfl, rfl⟩ rfl ⟨Nat.le_of_ble_eq_true rfl, Nat.le_of_ble_eq_true rfl⟩ lyM vc7 rfl rfl (Nat.le_of_ble_eq_true rfl) ?_
            rintro _ _ ⟨rfl, rfl⟩
            refine X_goto 36 44 dX7_limits_36 (by decide) ?_
            refine X_iadd 44 dX7_limits_44 ?_
            refine X_istore_n 45 [(2, .int _), (0, .ref _), (1, .int _), (3, .int _)] dX7_limits_45 rfl (by decide) rfl ?_
            refine X_iinc 46 3 (_ + 1) [(3, .int _), (2, .int _), (0, .ref _), (1, .int _)] dX7_limits_46 rfl rfl (by decide) rfl ?_
            refine X_goto 49 4 dX7_limits_49 (by decide) ?_
            refine X_sub [2, 3, 1, 0] [(0, .ref _), (1, .int _), (2, .int _), (3, .int _)] rfl ?_
            exact ih_4 (n + 1) (by omega) (by omega) _ _  (by (first | exact sum_st (if_neg b_17) | exact sum_st ((if_pos b_17).trans (if_pos c_28)) | exact sum_st ((if_pos b_17).trans (if_neg c_28)))) (by exact (nI_1 n).symm)
        · refine X_if_ne 20 27 dX7_limits_20 (by decide) (fun c_0 => by exact absurd c_0 (by decide)) (fun _ => ?_)
          refine X_iconst 23 (0) dX7_limits_23 (by decide) ?_
          refine X_goto 24 44 dX7_limits_24 (by decide) ?_
          refine X_iadd 44 dX7_limits_44 ?_
          refine X_istore_n 45 [(2, .int _), (0, .ref _), (1, .int _), (3, .int _)] dX7_limits_45 rfl (by decide) rfl ?_
          refine X_iinc 46 3 (_ + 1) [(3, .int _), (2, .int _), (0, .ref _), (1, .int _)] dX7_limits_46 rfl rfl (by decide) rfl ?_
          refine X_goto 49 4 dX7_limits_49 (by decide) ?_
          refine X_sub [2, 3, 1, 0] [(0, .ref _), (1, .int _), (2, .int _), (3, .int _)] rfl ?_
          exact ih_4 (n + 1) (by omega) (by omega) _ _  (by (first | exact sum_st (if_neg b_17) | exact sum_st ((if_pos b_17).trans (if_pos c_28)) | exact sum_st ((if_pos b_17).trans (if_neg c_28)))) (by exact (nI_1 n).symm)
  exact L_4 (lc + 1) 0 (by omega) (by omega) _ _  (by rfl) (by exact nI_0)
set_option maxHeartbeats 4000000 in
set_option maxRecDepth 100000 in
theorem e_X7_placeOf (V : Mm) (c r lc : Nat) (x y w : Nat) (μ : Mm) (hM : MI V c r lc μ) (hx : x < c) (hy : y < r) (hw : w ≤ 5) : EvN ΛM mX7_placeOf [.ref 0, .int (nI x), .int (nI y), .int (nI w)] μ (qI (fun v m => plV V lc c x y w = v ∧ SCR μ m)) := by
  refine EvN_ofQ (by decide +kernel) rfl (fun _ => rfl) (fun _ => Nat.le_of_ble_eq_true rfl) (ls := [(0, .ref 0), (1, .int (nI x)), (2, .int (nI y)), (3, .int (nI w))]) ?_
  obtain ⟨⟨hc1, hc2⟩, ⟨hr1, hr2⟩, h8⟩ := MI_lc hM
  refine X_aload_n 0 0 dX7_placeOf_0 rfl rfl ?_
  refine X_iload_n 1 1 dX7_placeOf_1 rfl rfl ?_
  refine X_iload_n 2 2 dX7_placeOf_2 rfl rfl ?_
  refine X_cVV 3 [.int _, .int _] (e_shP V c r lc x y _ hM hx hy) dX7_placeOf_3 lm_RX7_115 2 ⟨wm_X7_shines, by decide +kernel, rfl, rfl⟩ rfl ⟨Nat.le_of_ble_eq_true rfl, Nat.le_of_ble_eq_true rfl⟩ lyM vc7 rfl rfl (Nat.le_of_ble_eq_true rfl) ?_
  rintro m9 hS9
  refine X_iload_n 6 3 dX7_placeOf_6 rfl rfl ?_
  rcases (show w = 0 ∨ w = 1 ∨ w = 2 ∨ w = 3 ∨ w = 4 ∨ w = 5 by omega) with rfl | rfl | rfl | rfl | rfl | rfl
  · refine X_tabIn (off := 29) 7 36 dX7_placeOf_7 (by decide) (by decide) (by decide +kernel) (by decide) ?_
    refine X_aload_n 36 0 dX7_placeOf_36 rfl rfl ?_
    refine X_iload_n 37 1 dX7_placeOf_37 rfl rfl ?_
    refine X_iload_n 38 2 dX7_placeOf_38 rfl rfl ?_
    refine X_cVI 39 [.int _, .int _] (e_X7_target x y _ (by omega) (by omega)) dX7_placeOf_39 lm_RX7_94 2 ⟨wm_X7_target, by decide +kernel, rfl, rfl⟩ rfl ⟨Nat.le_of_ble_eq_true rfl, Nat.le_of_ble_eq_true rfl⟩ lyM vc7 rfl rfl (Nat.le_of_ble_eq_true rfl) ?_
    rintro _ _ ⟨rfl, rfl⟩
    refine X_iret 42 dX7_placeOf_42 rfl rfl ⟨_, rfl, _, rfl, ?_⟩
    exact ⟨(tg_MI (MI_SC hM (SCR_0 hS9.1)) hx hy).symm, SCR_0 hS9.1⟩
  · refine X_tabIn (off := 36) 7 43 dX7_placeOf_7 (by decide) (by decide) (by decide +kernel) (by decide) ?_
    refine X_aload_n 43 0 dX7_placeOf_43 rfl rfl ?_
    refine X_getI (f := 12) 44 dX7_placeOf_44 lf_RX7_112 iw7 vc7 (by decide) lyM rfl ?_
    refine X_iret 47 dX7_placeOf_47 rfl rfl ⟨_, rfl, _, rfl, ?_⟩
    exact ⟨hS9.2.2.1.symm, SCR_0 hS9.1⟩
  · refine X_tabIn (off := 41) 7 48 dX7_placeOf_7 (by decide) (by decide) (by decide +kernel) (by decide) ?_
    refine X_aload_n 48 0 dX7_placeOf_48 rfl rfl ?_
    refine X_iload_n 49 1 dX7_placeOf_49 rfl rfl ?_
    refine X_iload_n 50 2 dX7_placeOf_50 rfl rfl ?_
    refine X_cVI 51 [.int _, .int _] (e_X7_state x y _ (by omega) (by omega)) dX7_placeOf_51 lm_RX7_118 2 ⟨wm_X7_state, by decide +kernel, rfl, rfl⟩ rfl ⟨Nat.le_of_ble_eq_true rfl, Nat.le_of_ble_eq_true rfl⟩ lyM vc7 rfl rfl (Nat.le_of_ble_eq_true rfl) ?_
    rintro _ _ ⟨rfl, rfl⟩
    refine X_iret 54 dX7_placeOf_54 rfl rfl ⟨_, rfl, _, rfl, ?_⟩
    exact ⟨(st_SHP hS9 hM.1 hx hy).symm, SCR_0 hS9.1⟩
  · refine X_tabIn (off := 48) 7 55 dX7_placeOf_7 (by decide) (by decide) (by decide +kernel) (by decide) ?_
    refine X_aload_n 55 0 dX7_placeOf_55 rfl rfl ?_
    refine X_getI (f := 11) 56 dX7_placeOf_56 lf_RX7_80 iw7 vc7 (by decide) lyM rfl ?_
    refine X_iret 59 dX7_placeOf_59 rfl rfl ⟨_, rfl, _, rfl, ?_⟩
    exact ⟨hS9.2.1.symm, SCR_0 hS9.1⟩
  · refine X_tabOut 7 60 dX7_placeOf_7 (by decide) (by decide) ?_
    refine X_aload_n 60 0 dX7_placeOf_60 rfl rfl ?_
    refine X_iload_n 61 3 dX7_placeOf_61 rfl rfl ?_
    refine X_iconst 62 (5) dX7_placeOf_62 (by decide) ?_
    refine X_icmp_ne 63 70 dX7_placeOf_63 (by decide) (fun _ => ?_) (fun c_0 => by exact absurd c_0 (by decide))
    refine X_iconst 70 (0) dX7_placeOf_70 (by decide) ?_
    refine X_cVI 71 [.int _] (e_X7_limits V c r lc _ _ (MI_SC hM (SCR_0 hS9.1))) dX7_placeOf_71 lm_RX7_192 1 ⟨wm_X7_limits, by decide +kernel, rfl, rfl⟩ rfl ⟨Nat.le_of_ble_eq_true rfl, Nat.le_of_ble_eq_true rfl⟩ lyM vc7 rfl rfl (Nat.le_of_ble_eq_true rfl) ?_
    rintro _ _ ⟨rfl, rfl⟩
    refine X_iret 74 dX7_placeOf_74 rfl rfl ⟨_, rfl, _, rfl, ?_⟩
    exact ⟨by rw [hS9.2.1]; first | exact (smZ_0 V lc _).symm | exact (smZ_1 V lc _).symm, SCR_0 hS9.1⟩
  · refine X_tabOut 7 60 dX7_placeOf_7 (by decide) (by decide) ?_
    refine X_aload_n 60 0 dX7_placeOf_60 rfl rfl ?_
    refine X_iload_n 61 3 dX7_placeOf_61 rfl rfl ?_
    refine X_iconst 62 (5) dX7_placeOf_62 (by decide) ?_
    refine X_icmp_ne 63 70 dX7_placeOf_63 (by decide) (fun c_0 => by exact absurd c_0 (by decide)) (fun _ => ?_)
    refine X_iconst 66 (1) dX7_placeOf_66 (by decide) ?_
    refine X_goto 67 71 dX7_placeOf_67 (by decide) ?_
    refine X_cVI 71 [.int _] (e_X7_limits V c r lc _ _ (MI_SC hM (SCR_0 hS9.1))) dX7_placeOf_71 lm_RX7_192 1 ⟨wm_X7_limits, by decide +kernel, rfl, rfl⟩ rfl ⟨Nat.le_of_ble_eq_true rfl, Nat.le_of_ble_eq_true rfl⟩ lyM vc7 rfl rfl (Nat.le_of_ble_eq_true rfl) ?_
    rintro _ _ ⟨rfl, rfl⟩
    refine X_iret 74 dX7_placeOf_74 rfl rfl ⟨_, rfl, _, rfl, ?_⟩
    exact ⟨by rw [hS9.2.1]; first | exact (smZ_0 V lc _).symm | exact (smZ_1 V lc _).symm, SCR_0 hS9.1⟩
set_option maxHeartbeats 4000000 in
set_option maxRecDepth 100000 in
theorem e_X7_place (V : Mm) (c r lc : Nat) (x y w : Int32) (μ : Mm) (hM : MI V c r lc μ) : EvN ΛM mX7_place [.ref 0, .int x, .int y, .int w] μ (qI (Q3 (PL c r x y) (rgI w 0 5) (plV V lc c (tn x) (tn y) (tn w)) μ)) := by
  refine EvN_ofQ (by decide +kernel) rfl (fun _ => rfl) (fun _ => Nat.le_of_ble_eq_true rfl) (ls := [(0, .ref 0), (1, .int x), (2, .int y), (3, .int w)]) ?_
  obtain ⟨⟨hc1, hc2⟩, ⟨hr1, hr2⟩, h8⟩ := MI_lc hM
  refine X_aload_n 0 0 dX7_place_0 rfl rfl ?_
  refine X_iload_n 1 1 dX7_place_1 rfl rfl ?_
  refine X_iload_n 2 2 dX7_place_2 rfl rfl ?_
  refine X_cVI 3 [.int _, .int _] (e_X7_isPlace x y c r μ hM.1.1.1 hM.1.1.2.1 hc2 hr2) dX7_place_3 lm_RX7_142 2 ⟨wm_X7_isPlace, by decide +kernel, rfl, rfl⟩ rfl ⟨Nat.le_of_ble_eq_true rfl, Nat.le_of_ble_eq_true rfl⟩ lyM vc7 rfl rfl (Nat.le_of_ble_eq_true rfl) ?_
  rintro _ _ ⟨rfl, ⟨rfl, b_3⟩ | ⟨rfl, b_3⟩⟩
  · refine X_if_ne 6 15 dX7_place_6 (by decide) (fun _ => ?_) (fun c_0 => by exact absurd c_0 (by decide))
    refine X_iload_n 15 3 dX7_place_15 rfl rfl ?_
    refine X_iconst 16 (0) dX7_place_16 (by decide) ?_
    refine X_iconst 17 (5) dX7_place_17 (by decide) ?_
    refine X_cSI 18 [.int _, .int _, .int _] (e_X7_in _ _ _ _) dX7_place_18 lm_RX7_41 3 ⟨wm_X7_in, by decide +kernel, rfl, rfl⟩ rfl ⟨Nat.le_of_ble_eq_true rfl, Nat.le_of_ble_eq_true rfl⟩ rfl (Nat.le_of_ble_eq_true rfl) ?_
    rintro _ _ ⟨rfl, ⟨rfl, b_18⟩ | ⟨rfl, b_18⟩⟩
    · refine X_if_eq 21 38 dX7_place_21 (by decide) (fun c_0 => by exact absurd c_0 (by decide)) (fun _ => ?_)
      obtain ⟨X1, hX, rfl⟩ := nat_lt b_3.1.1 b_3.1.2 (by omega)
      obtain ⟨Y1, hY, rfl⟩ := nat_lt b_3.2.1 b_3.2.2 (by omega)
      have eX : tn (nI X1) = X1 := nI_clamp (by omega)
      have eY : tn (nI Y1) = Y1 := nI_clamp (by omega)
      obtain ⟨j, hw, rfl⟩ := nat_le (n := 5) rfl b_18 (by omega)
      have ew : tn (nI j) = j := nI_clamp (by omega)
      refine X_aload_n 24 0 dX7_place_24 rfl rfl ?_
      refine X_aload_n 25 0 dX7_place_25 rfl rfl ?_
      refine X_iload_n 26 1 dX7_place_26 rfl rfl ?_
      refine X_iload_n 27 2 dX7_place_27 rfl rfl ?_
      refine X_iload_n 28 3 dX7_place_28 rfl rfl ?_
      refine X_cVI 29 [.int _, .int _, .int _] (e_X7_placeOf V c r lc X1 Y1 j _ hM hX hY hw) dX7_place_29 lm_RX7_196 3 ⟨wm_X7_placeOf, by decide +kernel, rfl, rfl⟩ rfl ⟨Nat.le_of_ble_eq_true rfl, Nat.le_of_ble_eq_true rfl⟩ lyM vc7 rfl rfl (Nat.le_of_ble_eq_true rfl) ?_
      rintro _ m9 ⟨rfl, hS9⟩
      refine X_cVI 32 [.int _] (e_X7_tells _ _) dX7_place_32 lm_RX7_58 1 ⟨wm_X7_tells, by decide +kernel, rfl, rfl⟩ rfl ⟨Nat.le_of_ble_eq_true rfl, Nat.le_of_ble_eq_true rfl⟩ lyM vc7 rfl rfl (Nat.le_of_ble_eq_true rfl) ?_
      rintro _ _ ⟨rfl, rfl⟩
      refine X_goto 35 43 dX7_place_35 (by decide) ?_
      refine X_iret 43 dX7_place_43 rfl rfl ⟨_, rfl, _, rfl, ?_⟩
      first
        | exact Or.inr (Or.inl ⟨b_3, b_18, uM_s _ _ _ _, KP_u⟩)
        | exact Or.inr (Or.inr ⟨b_3, b_18, by rw [eX, eY, ew], q_ok hS9⟩)
    · refine X_if_eq 21 38 dX7_place_21 (by decide) (fun _ => ?_) (fun c_0 => by exact absurd c_0 (by decide))
      refine X_aload_n 38 0 dX7_place_38 rfl rfl ?_
      refine X_iconst 39 (2) dX7_place_39 (by decide) ?_
      refine X_cVI 40 [.int _] (e_X7_fails _ _) dX7_place_40 lm_RX7_48 1 ⟨wm_X7_fails, by decide +kernel, rfl, rfl⟩ rfl ⟨Nat.le_of_ble_eq_true rfl, Nat.le_of_ble_eq_true rfl⟩ lyM vc7 rfl rfl (Nat.le_of_ble_eq_true rfl) ?_
      rintro _ _ ⟨rfl, rfl⟩
      refine X_iret 43 dX7_place_43 rfl rfl ⟨_, rfl, _, rfl, ?_⟩
      first
        | exact Or.inr (Or.inl ⟨b_3, b_18, uM_s _ _ _ _, KP_u⟩)
        | exact Or.inr (Or.inr ⟨b_3, b_18, by rw [eX, eY, ew], q_ok hS9⟩)
  · refine X_if_ne 6 15 dX7_place_6 (by decide) (fun c_0 => by exact absurd c_0 (by decide)) (fun _ => ?_)
    refine X_aload_n 9 0 dX7_place_9 rfl rfl ?_
    refine X_iconst 10 (1) dX7_place_10 (by decide) ?_
    refine X_cVI 11 [.int _] (e_X7_fails _ _) dX7_place_11 lm_RX7_48 1 ⟨wm_X7_fails, by decide +kernel, rfl, rfl⟩ rfl ⟨Nat.le_of_ble_eq_true rfl, Nat.le_of_ble_eq_true rfl⟩ lyM vc7 rfl rfl (Nat.le_of_ble_eq_true rfl) ?_
    rintro _ _ ⟨rfl, rfl⟩
    refine X_iret 14 dX7_place_14 rfl rfl ⟨_, rfl, _, rfl, ?_⟩
    exact Or.inl ⟨b_3, uM_s _ _ _ _, KP_u⟩
set_option maxHeartbeats 4000000 in
set_option maxRecDepth 100000 in
theorem e_X7_lightOf (V : Mm) (c r lc : Nat) (k x y : Nat) (μ : Mm) (hM : MI V c r lc μ) (hx : x < c) (hy : y < r) (hk : k < lc) : EvN ΛM mX7_lightOf [.ref 0, .int (nI k), .int (nI x), .int (nI y)] μ (qI (fun v m => (if bitB (cvP V 0 (zzS V lc) (V 0 2) (V 0 3) x y) k = true then ltP V 0 (zzS V lc) (V 0 2) (V 0 3) c x y k else -1000) = v ∧ SCR μ m)) := by
  refine EvN_ofQ (by decide +kernel) rfl (fun _ => rfl) (fun _ => Nat.le_of_ble_eq_true rfl) (ls := [(0, .ref 0), (1, .int (nI k)), (2, .int (nI x)), (3, .int (nI y))]) ?_
  obtain ⟨⟨hc1, hc2⟩, ⟨hr1, hr2⟩, h8⟩ := MI_lc hM
  refine X_aload_n 0 0 dX7_lightOf_0 rfl rfl ?_
  refine X_iload_n 1 2 dX7_lightOf_1 rfl rfl ?_
  refine X_iload_n 2 3 dX7_lightOf_2 rfl rfl ?_
  refine X_cVV 3 [.int _, .int _] (e_shP V c r lc x y _ hM hx hy) dX7_lightOf_3 lm_RX7_115 2 ⟨wm_X7_shines, by decide +kernel, rfl, rfl⟩ rfl ⟨Nat.le_of_ble_eq_true rfl, Nat.le_of_ble_eq_true rfl⟩ lyM vc7 rfl rfl (Nat.le_of_ble_eq_true rfl) ?_
  rintro m9 hS9
  refine X_aload_n 6 0 dX7_lightOf_6 rfl rfl ?_
  refine X_iload_n 7 1 dX7_lightOf_7 rfl rfl ?_
  refine X_cVI 8 [.int _] (e_X7_isOn _ _) dX7_lightOf_8 lm_RX7_91 1 ⟨wm_X7_isOn, by decide +kernel, rfl, rfl⟩ rfl ⟨Nat.le_of_ble_eq_true rfl, Nat.le_of_ble_eq_true rfl⟩ lyM vc7 rfl rfl (Nat.le_of_ble_eq_true rfl) ?_
  rintro _ _ ⟨rfl, ⟨rfl, b_8⟩ | ⟨rfl, b_8⟩⟩
  · rw [hS9.2.1] at b_8
    refine X_if_eq 11 23 dX7_lightOf_11 (by decide) (fun c_0 => by exact absurd c_0 (by decide)) (fun _ => ?_)
    refine X_aload_n 14 0 dX7_lightOf_14 rfl rfl ?_
    refine X_getR (f := 10) 15 dX7_lightOf_15 lf_RX7_29 iw7 vc7 (by decide) lyM rfl ?_
    refine X_iload_n 18 1 dX7_lightOf_18 rfl rfl ?_
    refine X_iald 19 dX7_lightOf_19 lyM6 (vp_in_nI (N := 8) (by omega) (by decide)) ?_
    rw [nI_clamp (by omega), hS9.2.2.2.1 k hk]
    refine X_goto 20 26 dX7_lightOf_20 (by decide) ?_
    refine X_iret 26 dX7_lightOf_26 rfl rfl ⟨_, rfl, _, rfl, ?_⟩
    first | exact ⟨if_pos b_8, SCR_0 hS9.1⟩ | exact ⟨if_neg b_8, SCR_0 hS9.1⟩
  · rw [hS9.2.1] at b_8
    refine X_if_eq 11 23 dX7_lightOf_11 (by decide) (fun _ => ?_) (fun c_0 => by exact absurd c_0 (by decide))
    refine X_sipush 23 (-1000) dX7_lightOf_23 (by decide) ?_
    refine X_iret 26 dX7_lightOf_26 rfl rfl ⟨_, rfl, _, rfl, ?_⟩
    first | exact ⟨if_pos b_8, SCR_0 hS9.1⟩ | exact ⟨if_neg b_8, SCR_0 hS9.1⟩
set_option maxHeartbeats 4000000 in
set_option maxRecDepth 100000 in
theorem e_X7_light (V : Mm) (c r lc : Nat) (n x y : Int32) (μ : Mm) (hM : MI V c r lc μ) : EvN ΛM mX7_light [.ref 0, .int n, .int x, .int y] μ (qI (Q2 (LPn lc n ∧ PL c r x y) (if bitB (cvP V 0 (zzS V lc) (V 0 2) (V 0 3) (tn x) (tn y)) (tn n) = true then ltP V 0 (zzS V lc) (V 0 2) (V 0 3) c (tn x) (tn y) (tn n) else -1000) μ)) := by
  refine EvN_ofQ (by decide +kernel) rfl (fun _ => rfl) (fun _ => Nat.le_of_ble_eq_true rfl) (ls := [(0, .ref 0), (1, .int n), (2, .int x), (3, .int y)]) ?_
  obtain ⟨⟨hc1, hc2⟩, ⟨hr1, hr2⟩, h8⟩ := MI_lc hM
  refine X_aload_n 0 0 dX7_light_0 rfl rfl ?_
  refine X_iload_n 1 1 dX7_light_1 rfl rfl ?_
  refine X_cVI 2 [.int _] (e_X7_isLamp n lc μ hM.1.1.2.2.1 h8) dX7_light_2 lm_RX7_150 1 ⟨wm_X7_isLamp, by decide +kernel, rfl, rfl⟩ rfl ⟨Nat.le_of_ble_eq_true rfl, Nat.le_of_ble_eq_true rfl⟩ lyM vc7 rfl rfl (Nat.le_of_ble_eq_true rfl) ?_
  rintro _ _ ⟨rfl, ⟨rfl, b_2⟩ | ⟨rfl, b_2⟩⟩
  · refine X_if_eq 5 31 dX7_light_5 (by decide) (fun c_0 => by exact absurd c_0 (by decide)) (fun _ => ?_)
    refine X_aload_n 8 0 dX7_light_8 rfl rfl ?_
    refine X_iload_n 9 2 dX7_light_9 rfl rfl ?_
    refine X_iload_n 10 3 dX7_light_10 rfl rfl ?_
    refine X_cVI 11 [.int _, .int _] (e_X7_isPlace x y c r μ hM.1.1.1 hM.1.1.2.1 hc2 hr2) dX7_light_11 lm_RX7_142 2 ⟨wm_X7_isPlace, by decide +kernel, rfl, rfl⟩ rfl ⟨Nat.le_of_ble_eq_true rfl, Nat.le_of_ble_eq_true rfl⟩ lyM vc7 rfl rfl (Nat.le_of_ble_eq_true rfl) ?_
    rintro _ _ ⟨rfl, ⟨rfl, b_11⟩ | ⟨rfl, b_11⟩⟩
    · refine X_if_eq 14 31 dX7_light_14 (by decide) (fun c_0 => by exact absurd c_0 (by decide)) (fun _ => ?_)
      obtain ⟨k, hk, rfl⟩ := nat_lt b_2.1 b_2.2 (by omega)
      have en : tn (nI k) = k := nI_clamp (by omega)
      have hk8 : k < 8 := by omega
      obtain ⟨X1, hX, rfl⟩ := nat_lt b_11.1.1 b_11.1.2 (by omega)
      obtain ⟨Y1, hY, rfl⟩ := nat_lt b_11.2.1 b_11.2.2 (by omega)
      have eX : tn (nI X1) = X1 := nI_clamp (by omega)
      have eY : tn (nI Y1) = Y1 := nI_clamp (by omega)
      refine X_aload_n 17 0 dX7_light_17 rfl rfl ?_
      refine X_aload_n 18 0 dX7_light_18 rfl rfl ?_
      refine X_iload_n 19 1 dX7_light_19 rfl rfl ?_
      refine X_iload_n 20 2 dX7_light_20 rfl rfl ?_
      refine X_iload_n 21 3 dX7_light_21 rfl rfl ?_
      refine X_cVI 22 [.int _, .int _, .int _] (e_X7_lightOf V c r lc k X1 Y1 _ hM hX hY hk) dX7_light_22 lm_RX7_199 3 ⟨wm_X7_lightOf, by decide +kernel, rfl, rfl⟩ rfl ⟨Nat.le_of_ble_eq_true rfl, Nat.le_of_ble_eq_true rfl⟩ lyM vc7 rfl rfl (Nat.le_of_ble_eq_true rfl) ?_
      rintro _ m9 ⟨rfl, hS9⟩
      refine X_cVI 25 [.int _] (e_X7_tells _ _) dX7_light_25 lm_RX7_58 1 ⟨wm_X7_tells, by decide +kernel, rfl, rfl⟩ rfl ⟨Nat.le_of_ble_eq_true rfl, Nat.le_of_ble_eq_true rfl⟩ lyM vc7 rfl rfl (Nat.le_of_ble_eq_true rfl) ?_
      rintro _ _ ⟨rfl, rfl⟩
      refine X_goto 28 36 dX7_light_28 (by decide) ?_
      refine X_iret 36 dX7_light_36 rfl rfl ⟨_, rfl, _, rfl, ?_⟩
      first | exact Or.inl ⟨fun z => b_2 z.1, uM_s _ _ _ _, KP_u⟩ | exact Or.inl ⟨fun z => b_11 z.2, uM_s _ _ _ _, KP_u⟩ | exact Or.inr ⟨⟨b_2, b_11⟩, by rw [en, eX, eY], q_ok hS9⟩
    · refine X_if_eq 14 31 dX7_light_14 (by decide) (fun _ => ?_) (fun c_0 => by exact absurd c_0 (by decide))
      refine X_aload_n 31 0 dX7_light_31 rfl rfl ?_
      refine X_iconst 32 (1) dX7_light_32 (by decide) ?_
      refine X_cVI 33 [.int _] (e_X7_fails _ _) dX7_light_33 lm_RX7_48 1 ⟨wm_X7_fails, by decide +kernel, rfl, rfl⟩ rfl ⟨Nat.le_of_ble_eq_true rfl, Nat.le_of_ble_eq_true rfl⟩ lyM vc7 rfl rfl (Nat.le_of_ble_eq_true rfl) ?_
      rintro _ _ ⟨rfl, rfl⟩
      refine X_iret 36 dX7_light_36 rfl rfl ⟨_, rfl, _, rfl, ?_⟩
      first | exact Or.inl ⟨fun z => b_2 z.1, uM_s _ _ _ _, KP_u⟩ | exact Or.inl ⟨fun z => b_11 z.2, uM_s _ _ _ _, KP_u⟩ | exact Or.inr ⟨⟨b_2, b_11⟩, by rw [en, eX, eY], q_ok hS9⟩
  · refine X_if_eq 5 31 dX7_light_5 (by decide) (fun _ => ?_) (fun c_0 => by exact absurd c_0 (by decide))
    refine X_aload_n 31 0 dX7_light_31 rfl rfl ?_
    refine X_iconst 32 (1) dX7_light_32 (by decide) ?_
    refine X_cVI 33 [.int _] (e_X7_fails _ _) dX7_light_33 lm_RX7_48 1 ⟨wm_X7_fails, by decide +kernel, rfl, rfl⟩ rfl ⟨Nat.le_of_ble_eq_true rfl, Nat.le_of_ble_eq_true rfl⟩ lyM vc7 rfl rfl (Nat.le_of_ble_eq_true rfl) ?_
    rintro _ _ ⟨rfl, rfl⟩
    refine X_iret 36 dX7_light_36 rfl rfl ⟨_, rfl, _, rfl, ?_⟩
    first | exact Or.inl ⟨fun z => b_2 z.1, uM_s _ _ _ _, KP_u⟩ | exact Or.inl ⟨fun z => b_11 z.2, uM_s _ _ _ _, KP_u⟩ | exact Or.inr ⟨⟨b_2, b_11⟩, by rw [en, eX, eY], q_ok hS9⟩
set_option maxHeartbeats 4000000 in
set_option maxRecDepth 100000 in
theorem e_X7_weight (V : Mm) (c r lc : Nat) (n x y : Int32) (μ : Mm) (hM : MI V c r lc μ) : EvN ΛM mX7_weight [.ref 0, .int n, .int x, .int y] μ (qI (Q2 (LPn lc n ∧ PL c r x y) (if bitB (cvP V 0 (zzS V lc) (V 0 2) (V 0 3) (tn x) (tn y)) (tn n) = true then wgt V 0 (tn n) (2 * (nI (tn x) + V 0 2) + 1) (2 * (nI (tn y) + V 0 3) + 1) else -1000) μ)) := by
  refine EvN_ofQ (by decide +kernel) rfl (fun _ => rfl) (fun _ => Nat.le_of_ble_eq_true rfl) (ls := [(0, .ref 0), (1, .int n), (2, .int x), (3, .int y)]) ?_
  obtain ⟨⟨hc1, hc2⟩, ⟨hr1, hr2⟩, h8⟩ := MI_lc hM
  refine X_aload_n 0 0 dX7_weight_0 rfl rfl ?_
  refine X_iload_n 1 1 dX7_weight_1 rfl rfl ?_
  refine X_cVI 2 [.int _] (e_X7_isLamp n lc μ hM.1.1.2.2.1 h8) dX7_weight_2 lm_RX7_150 1 ⟨wm_X7_isLamp, by decide +kernel, rfl, rfl⟩ rfl ⟨Nat.le_of_ble_eq_true rfl, Nat.le_of_ble_eq_true rfl⟩ lyM vc7 rfl rfl (Nat.le_of_ble_eq_true rfl) ?_
  rintro _ _ ⟨rfl, ⟨rfl, b_2⟩ | ⟨rfl, b_2⟩⟩
  · refine X_if_eq 5 17 dX7_weight_5 (by decide) (fun c_0 => by exact absurd c_0 (by decide)) (fun _ => ?_)
    refine X_aload_n 8 0 dX7_weight_8 rfl rfl ?_
    refine X_iload_n 9 2 dX7_weight_9 rfl rfl ?_
    refine X_iload_n 10 3 dX7_weight_10 rfl rfl ?_
    refine X_cVI 11 [.int _, .int _] (e_X7_isPlace x y c r μ hM.1.1.1 hM.1.1.2.1 hc2 hr2) dX7_weight_11 lm_RX7_142 2 ⟨wm_X7_isPlace, by decide +kernel, rfl, rfl⟩ rfl ⟨Nat.le_of_ble_eq_true rfl, Nat.le_of_ble_eq_true rfl⟩ lyM vc7 rfl rfl (Nat.le_of_ble_eq_true rfl) ?_
    rintro _ _ ⟨rfl, ⟨rfl, b_11⟩ | ⟨rfl, b_11⟩⟩
    · refine X_if_ne 14 23 dX7_weight_14 (by decide) (fun _ => ?_) (fun c_0 => by exact absurd c_0 (by decide))
      obtain ⟨k, hk, rfl⟩ := nat_lt b_2.1 b_2.2 (by omega)
      have en : tn (nI k) = k := nI_clamp (by omega)
      have hk8 : k < 8 := by omega
      obtain ⟨X1, hX, rfl⟩ := nat_lt b_11.1.1 b_11.1.2 (by omega)
      obtain ⟨Y1, hY, rfl⟩ := nat_lt b_11.2.1 b_11.2.2 (by omega)
      have eX : tn (nI X1) = X1 := nI_clamp (by omega)
      have eY : tn (nI Y1) = Y1 := nI_clamp (by omega)
      refine X_aload_n 23 0 dX7_weight_23 rfl rfl ?_
      refine X_iload_n 24 2 dX7_weight_24 rfl rfl ?_
      refine X_iload_n 25 3 dX7_weight_25 rfl rfl ?_
      refine X_cVV 26 [.int _, .int _] (e_X7_weighs 0 V c r lc (zzS V lc) X1 Y1 _ hM.1 (by rw [hM.2.2.2.2]; exact HZ_zz h8)) dX7_weight_26 lm_RX7_97 2 ⟨wm_X7_weighs, by decide +kernel, rfl, rfl⟩ rfl ⟨Nat.le_of_ble_eq_true rfl, Nat.le_of_ble_eq_true rfl⟩ lyM vc7 rfl rfl (Nat.le_of_ble_eq_true rfl) ?_
      rintro _ rfl
      rw [hM.2.1, hM.2.2.1]
      have hG : SCR μ (WG μ (plW V 0 (zzS V lc) (2 * (nI X1 + V 0 2) + 1) (2 * (nI Y1 + V 0 3) + 1)) lc) := fun p q h1 h5 h6 => WG_out (by omega) h5
      refine X_aload_n 29 0 dX7_weight_29 rfl rfl ?_
      refine X_aload_n 30 0 dX7_weight_30 rfl rfl ?_
      refine X_iload_n 31 1 dX7_weight_31 rfl rfl ?_
      refine X_cVI 32 [.int _] (e_X7_isOn _ _) dX7_weight_32 lm_RX7_91 1 ⟨wm_X7_isOn, by decide +kernel, rfl, rfl⟩ rfl ⟨Nat.le_of_ble_eq_true rfl, Nat.le_of_ble_eq_true rfl⟩ lyM vc7 rfl rfl (Nat.le_of_ble_eq_true rfl) ?_
      rintro _ _ ⟨rfl, ⟨rfl, b_32⟩ | ⟨rfl, b_32⟩⟩
      · rw [WG_11] at b_32
        refine X_if_eq 35 47 dX7_weight_35 (by decide) (fun c_0 => by exact absurd c_0 (by decide)) (fun _ => ?_)
        refine X_aload_n 38 0 dX7_weight_38 rfl rfl ?_
        refine X_getR (f := 9) 39 dX7_weight_39 lf_RX7_26 iw7 vc7 (by decide) lyM rfl ?_
        refine X_iload_n 42 1 dX7_weight_42 rfl rfl ?_
        refine X_iald 43 dX7_weight_43 lyM5 (vp_in_nI (N := 8) (by omega) (by decide)) ?_
        rw [nI_clamp (by omega), WG_5 hk]
        refine X_goto 44 50 dX7_weight_44 (by decide) ?_
        refine X_cVI 50 [.int _] (e_X7_tells _ _) dX7_weight_50 lm_RX7_58 1 ⟨wm_X7_tells, by decide +kernel, rfl, rfl⟩ rfl ⟨Nat.le_of_ble_eq_true rfl, Nat.le_of_ble_eq_true rfl⟩ lyM vc7 rfl rfl (Nat.le_of_ble_eq_true rfl) ?_
        rintro _ _ ⟨rfl, rfl⟩
        refine X_iret 53 dX7_weight_53 rfl rfl ⟨_, rfl, _, rfl, ?_⟩
        refine Or.inr ⟨⟨b_2, b_11⟩, ?_, q_ok hG⟩
        rw [en, eX, eY, wg_ans hM hX hY hk]
        first | exact if_pos b_32 | exact if_neg b_32
      · rw [WG_11] at b_32
        refine X_if_eq 35 47 dX7_weight_35 (by decide) (fun _ => ?_) (fun c_0 => by exact absurd c_0 (by decide))
        refine X_sipush 47 (-1000) dX7_weight_47 (by decide) ?_
        refine X_cVI 50 [.int _] (e_X7_tells _ _) dX7_weight_50 lm_RX7_58 1 ⟨wm_X7_tells, by decide +kernel, rfl, rfl⟩ rfl ⟨Nat.le_of_ble_eq_true rfl, Nat.le_of_ble_eq_true rfl⟩ lyM vc7 rfl rfl (Nat.le_of_ble_eq_true rfl) ?_
        rintro _ _ ⟨rfl, rfl⟩
        refine X_iret 53 dX7_weight_53 rfl rfl ⟨_, rfl, _, rfl, ?_⟩
        refine Or.inr ⟨⟨b_2, b_11⟩, ?_, q_ok hG⟩
        rw [en, eX, eY, wg_ans hM hX hY hk]
        first | exact if_pos b_32 | exact if_neg b_32
    · refine X_if_ne 14 23 dX7_weight_14 (by decide) (fun c_0 => by exact absurd c_0 (by decide)) (fun _ => ?_)
      refine X_aload_n 17 0 dX7_weight_17 rfl rfl ?_
      refine X_iconst 18 (1) dX7_weight_18 (by decide) ?_
      refine X_cVI 19 [.int _] (e_X7_fails _ _) dX7_weight_19 lm_RX7_48 1 ⟨wm_X7_fails, by decide +kernel, rfl, rfl⟩ rfl ⟨Nat.le_of_ble_eq_true rfl, Nat.le_of_ble_eq_true rfl⟩ lyM vc7 rfl rfl (Nat.le_of_ble_eq_true rfl) ?_
      rintro _ _ ⟨rfl, rfl⟩
      refine X_iret 22 dX7_weight_22 rfl rfl ⟨_, rfl, _, rfl, ?_⟩
      first | exact Or.inl ⟨fun z => b_2 z.1, uM_s _ _ _ _, KP_u⟩ | exact Or.inl ⟨fun z => b_11 z.2, uM_s _ _ _ _, KP_u⟩
  · refine X_if_eq 5 17 dX7_weight_5 (by decide) (fun _ => ?_) (fun c_0 => by exact absurd c_0 (by decide))
    refine X_aload_n 17 0 dX7_weight_17 rfl rfl ?_
    refine X_iconst 18 (1) dX7_weight_18 (by decide) ?_
    refine X_cVI 19 [.int _] (e_X7_fails _ _) dX7_weight_19 lm_RX7_48 1 ⟨wm_X7_fails, by decide +kernel, rfl, rfl⟩ rfl ⟨Nat.le_of_ble_eq_true rfl, Nat.le_of_ble_eq_true rfl⟩ lyM vc7 rfl rfl (Nat.le_of_ble_eq_true rfl) ?_
    rintro _ _ ⟨rfl, rfl⟩
    refine X_iret 22 dX7_weight_22 rfl rfl ⟨_, rfl, _, rfl, ?_⟩
    first | exact Or.inl ⟨fun z => b_2 z.1, uM_s _ _ _ _, KP_u⟩ | exact Or.inl ⟨fun z => b_11 z.2, uM_s _ _ _ _, KP_u⟩
set_option maxHeartbeats 4000000 in
set_option maxRecDepth 100000 in
theorem e_X7_lampOf (V : Mm) (c r lc : Nat) (k w : Nat) (μ : Mm) (hM : MI V c r lc μ) (hk : k < lc) (hw : w ≤ 11) : EvN ΛM mX7_lampOf [.ref 0, .int (nI k), .int (nI w)] μ (qI (fun v m => lvV V lc c r k w = v ∧ SCR μ m)) := by
  refine EvN_ofQ (by decide +kernel) rfl (fun _ => rfl) (fun _ => Nat.le_of_ble_eq_true rfl) (ls := [(0, .ref 0), (1, .int (nI k)), (2, .int (nI w))]) ?_
  obtain ⟨⟨hc1, hc2⟩, ⟨hr1, hr2⟩, h8⟩ := MI_lc hM
  have hk8 : k < 8 := by omega
  refine X_iload_n 0 2 dX7_lampOf_0 rfl rfl ?_
  refine X_iconst 1 (4) dX7_lampOf_1 (by decide) ?_
  refine X_icmp_ge 2 15 dX7_lampOf_2 (by decide) (fun c_2 => ?_) (fun c_2 => ?_)
  · have h_2 : 4 ≤ w := c_ge (k := 4) rfl (by omega) (by omega) c_2
    refine X_iload_n 15 2 dX7_lampOf_15 rfl rfl ?_
    refine X_bipush 16 (7) dX7_lampOf_16 (by decide) ?_
    refine X_icmp_ge 18 61 dX7_lampOf_18 (by decide) (fun c_18 => ?_) (fun c_18 => ?_)
    · have h_18 : 7 ≤ w := c_ge (k := 7) rfl (by omega) (by omega) c_18
      refine X_aload_n 61 0 dX7_lampOf_61 rfl rfl ?_
      refine X_iload_n 62 1 dX7_lampOf_62 rfl rfl ?_
      refine X_cVI 63 [.int _] (e_X7_load V c r lc k _ hM hk) dX7_lampOf_63 lm_RX7_159 1 ⟨wm_X7_load, by decide +kernel, rfl, rfl⟩ rfl ⟨Nat.le_of_ble_eq_true rfl, Nat.le_of_ble_eq_true rfl⟩ lyM vc7 rfl rfl (Nat.le_of_ble_eq_true rfl) ?_
      rintro _ m9 ⟨rfl, hS9⟩
      refine X_istore_n 66 [(3, .int _), (0, .ref _), (1, .int _), (2, .int _)] dX7_lampOf_66 rfl (by decide) rfl ?_
      refine X_iload_n 67 3 dX7_lampOf_67 rfl rfl ?_
      refine X_bipush 68 (7) dX7_lampOf_68 (by decide) ?_
      refine X_icmp_ne 70 80 dX7_lampOf_70 (by decide) (fun c_70 => ?_) (fun c_70 => ?_)
      · have h_70 : ¬ w = 7 := fun q => c_70 (by rw [q]; rfl)
        refine X_iload_n 80 3 dX7_lampOf_80 rfl rfl ?_
        refine X_bipush 81 (8) dX7_lampOf_81 (by decide) ?_
        refine X_icmp_ne 83 93 dX7_lampOf_83 (by decide) (fun c_83 => ?_) (fun c_83 => ?_)
        · have h_83 : ¬ w = 8 := fun q => c_83 (by rw [q]; rfl)
          refine X_iload_n 93 3 dX7_lampOf_93 rfl rfl ?_
          refine X_bipush 94 (9) dX7_lampOf_94 (by decide) ?_
          refine X_icmp_ne 96 103 dX7_lampOf_96 (by decide) (fun c_96 => ?_) (fun c_96 => ?_)
          · have h_96 : ¬ w = 9 := fun q => c_96 (by rw [q]; rfl)
            refine X_iload_n 103 3 dX7_lampOf_103 rfl rfl ?_
            refine X_bipush 104 (10) dX7_lampOf_104 (by decide) ?_
            refine X_icmp_ne 106 116 dX7_lampOf_106 (by decide) (fun c_106 => ?_) (fun c_106 => ?_)
            · have h_106 : ¬ w = 10 := fun q => c_106 (by rw [q]; rfl)
              refine X_aload_n 116 1 dX7_lampOf_116 rfl rfl ?_
              refine X_getI (f := 16) 117 dX7_lampOf_117 lf_RX7_130 iw7 vc7 (by decide) lyM rfl ?_
              refine X_iret 120 dX7_lampOf_120 rfl rfl ⟨_, rfl, _, rfl, ?_⟩
              refine ⟨?_, hS9.1⟩
              first
                | (obtain rfl : w = 7 := by omega); exact hS9.2.1.symm
                | (obtain rfl : w = 8 := by omega); exact hS9.2.2.1.symm
                | (obtain rfl : w = 9 := by omega); rfl
                | (obtain rfl : w = 10 := by omega); exact hS9.2.2.2.1.symm
                | (obtain rfl : w = 11 := by omega); exact hS9.2.2.2.2.1.symm
            · have h_106 : w = 10 := (nI_eq (b := 10) (by omega) (by decide)).mp c_106
              refine X_aload_n 109 1 dX7_lampOf_109 rfl rfl ?_
              refine X_getI (f := 15) 110 dX7_lampOf_110 lf_RX7_127 iw7 vc7 (by decide) lyM rfl ?_
              refine X_goto 113 120 dX7_lampOf_113 (by decide) ?_
              refine X_iret 120 dX7_lampOf_120 rfl rfl ⟨_, rfl, _, rfl, ?_⟩
              refine ⟨?_, hS9.1⟩
              first
                | (obtain rfl : w = 7 := by omega); exact hS9.2.1.symm
                | (obtain rfl : w = 8 := by omega); exact hS9.2.2.1.symm
                | (obtain rfl : w = 9 := by omega); rfl
                | (obtain rfl : w = 10 := by omega); exact hS9.2.2.2.1.symm
                | (obtain rfl : w = 11 := by omega); exact hS9.2.2.2.2.1.symm
          · have h_96 : w = 9 := (nI_eq (b := 9) (by omega) (by decide)).mp c_96
            refine X_iload_n 99 0 dX7_lampOf_99 rfl rfl ?_
            refine X_goto 100 120 dX7_lampOf_100 (by decide) ?_
            refine X_iret 120 dX7_lampOf_120 rfl rfl ⟨_, rfl, _, rfl, ?_⟩
            refine ⟨?_, hS9.1⟩
            first
              | (obtain rfl : w = 7 := by omega); exact hS9.2.1.symm
              | (obtain rfl : w = 8 := by omega); exact hS9.2.2.1.symm
              | (obtain rfl : w = 9 := by omega); rfl
              | (obtain rfl : w = 10 := by omega); exact hS9.2.2.2.1.symm
              | (obtain rfl : w = 11 := by omega); exact hS9.2.2.2.2.1.symm
        · have h_83 : w = 8 := (nI_eq (b := 8) (by omega) (by decide)).mp c_83
          refine X_aload_n 86 1 dX7_lampOf_86 rfl rfl ?_
          refine X_getI (f := 14) 87 dX7_lampOf_87 lf_RX7_124 iw7 vc7 (by decide) lyM rfl ?_
          refine X_goto 90 120 dX7_lampOf_90 (by decide) ?_
          refine X_iret 120 dX7_lampOf_120 rfl rfl ⟨_, rfl, _, rfl, ?_⟩
          refine ⟨?_, hS9.1⟩
          first
            | (obtain rfl : w = 7 := by omega); exact hS9.2.1.symm
            | (obtain rfl : w = 8 := by omega); exact hS9.2.2.1.symm
            | (obtain rfl : w = 9 := by omega); rfl
            | (obtain rfl : w = 10 := by omega); exact hS9.2.2.2.1.symm
            | (obtain rfl : w = 11 := by omega); exact hS9.2.2.2.2.1.symm
      · have h_70 : w = 7 := (nI_eq (b := 7) (by omega) (by decide)).mp c_70
        refine X_aload_n 73 1 dX7_lampOf_73 rfl rfl ?_
        refine X_getI (f := 13) 74 dX7_lampOf_74 lf_RX7_121 iw7 vc7 (by decide) lyM rfl ?_
        refine X_goto 77 120 dX7_lampOf_77 (by decide) ?_
        refine X_iret 120 dX7_lampOf_120 rfl rfl ⟨_, rfl, _, rfl, ?_⟩
        refine ⟨?_, hS9.1⟩
        first
          | (obtain rfl : w = 7 := by omega); exact hS9.2.1.symm
          | (obtain rfl : w = 8 := by omega); exact hS9.2.2.1.symm
          | (obtain rfl : w = 9 := by omega); rfl
          | (obtain rfl : w = 10 := by omega); exact hS9.2.2.2.1.symm
          | (obtain rfl : w = 11 := by omega); exact hS9.2.2.2.2.1.symm
    · have h_18 : w < 7 := c_lt (k := 7) rfl (by omega) (by omega) c_18
      refine X_iload_n 21 2 dX7_lampOf_21 rfl rfl ?_
      refine X_iconst 22 (4) dX7_lampOf_22 (by decide) ?_
      refine X_icmp_ne 23 34 dX7_lampOf_23 (by decide) (fun c_23 => ?_) (fun c_23 => ?_)
      · have h_23 : ¬ w = 4 := fun q => c_23 (by rw [q]; rfl)
        refine X_iload_n 34 2 dX7_lampOf_34 rfl rfl ?_
        refine X_iconst 35 (5) dX7_lampOf_35 (by decide) ?_
        refine X_icmp_ne 36 47 dX7_lampOf_36 (by decide) (fun c_36 => ?_) (fun c_36 => ?_)
        · have h_36 : ¬ w = 5 := fun q => c_36 (by rw [q]; rfl)
          refine X_aload_n 47 0 dX7_lampOf_47 rfl rfl ?_
          refine X_iload_n 48 1 dX7_lampOf_48 rfl rfl ?_
          refine X_cVI 49 [.int _] (e_X7_isGood 0 V c r lc k _ hM.1 hk8) dX7_lampOf_49 lm_RX7_83 1 ⟨wm_X7_isGood, by decide +kernel, rfl, rfl⟩ rfl ⟨Nat.le_of_ble_eq_true rfl, Nat.le_of_ble_eq_true rfl⟩ lyM vc7 rfl rfl (Nat.le_of_ble_eq_true rfl) ?_
          rintro _ _ ⟨rfl, ⟨rfl, b_49⟩ | ⟨rfl, b_49⟩⟩
          · refine X_if_eq 52 59 dX7_lampOf_52 (by decide) (fun c_0 => by exact absurd c_0 (by decide)) (fun _ => ?_)
            refine X_iconst 55 (1) dX7_lampOf_55 (by decide) ?_
            refine X_goto 56 60 dX7_lampOf_56 (by decide) ?_
            refine X_iret 60 dX7_lampOf_60 rfl rfl ⟨_, rfl, _, rfl, ?_⟩
            refine ⟨?_, SCR_r⟩
            first
              | (obtain rfl : w = 4 := by omega); rfl
              | (obtain rfl : w = 5 := by omega); rfl
              | (obtain rfl : w = 6 := by omega); first | exact if_pos b_49 | exact if_neg b_49
          · refine X_if_eq 52 59 dX7_lampOf_52 (by decide) (fun _ => ?_) (fun c_0 => by exact absurd c_0 (by decide))
            refine X_iconst 59 (0) dX7_lampOf_59 (by decide) ?_
            refine X_iret 60 dX7_lampOf_60 rfl rfl ⟨_, rfl, _, rfl, ?_⟩
            refine ⟨?_, SCR_r⟩
            first
              | (obtain rfl : w = 4 := by omega); rfl
              | (obtain rfl : w = 5 := by omega); rfl
              | (obtain rfl : w = 6 := by omega); first | exact if_pos b_49 | exact if_neg b_49
        · have h_36 : w = 5 := (nI_eq (b := 5) (by omega) (by decide)).mp c_36
          refine X_aload_n 39 0 dX7_lampOf_39 rfl rfl ?_
          refine X_iload_n 40 1 dX7_lampOf_40 rfl rfl ?_
          refine X_cVI 41 [.int _] (e_X7_floor 0 V c r lc k _ hM.1 hk8) dX7_lampOf_41 lm_RX7_105 1 ⟨wm_X7_floor, by decide +kernel, rfl, rfl⟩ rfl ⟨Nat.le_of_ble_eq_true rfl, Nat.le_of_ble_eq_true rfl⟩ lyM vc7 rfl rfl (Nat.le_of_ble_eq_true rfl) ?_
          rintro _ _ ⟨rfl, rfl⟩
          refine X_goto 44 60 dX7_lampOf_44 (by decide) ?_
          refine X_iret 60 dX7_lampOf_60 rfl rfl ⟨_, rfl, _, rfl, ?_⟩
          refine ⟨?_, SCR_r⟩
          first
            | (obtain rfl : w = 4 := by omega); rfl
            | (obtain rfl : w = 5 := by omega); rfl
            | (obtain rfl : w = 6 := by omega); first | exact if_pos b_49 | exact if_neg b_49
      · have h_23 : w = 4 := (nI_eq (b := 4) (by omega) (by decide)).mp c_23
        refine X_aload_n 26 0 dX7_lampOf_26 rfl rfl ?_
        refine X_iload_n 27 1 dX7_lampOf_27 rfl rfl ?_
        refine X_cVI 28 [.int _] (e_X7_limit 0 V c r lc k _ hM.1 hk8) dX7_lampOf_28 lm_RX7_65 1 ⟨wm_X7_limit, by decide +kernel, rfl, rfl⟩ rfl ⟨Nat.le_of_ble_eq_true rfl, Nat.le_of_ble_eq_true rfl⟩ lyM vc7 rfl rfl (Nat.le_of_ble_eq_true rfl) ?_
        rintro _ _ ⟨rfl, rfl⟩
        refine X_goto 31 60 dX7_lampOf_31 (by decide) ?_
        refine X_iret 60 dX7_lampOf_60 rfl rfl ⟨_, rfl, _, rfl, ?_⟩
        refine ⟨?_, SCR_r⟩
        first
          | (obtain rfl : w = 4 := by omega); rfl
          | (obtain rfl : w = 5 := by omega); rfl
          | (obtain rfl : w = 6 := by omega); first | exact if_pos b_49 | exact if_neg b_49
  · have h_2 : w < 4 := c_lt (k := 4) rfl (by omega) (by omega) c_2
    refine X_aload_n 5 0 dX7_lampOf_5 rfl rfl ?_
    refine X_iload_n 6 1 dX7_lampOf_6 rfl rfl ?_
    refine X_bipush 7 (8) dX7_lampOf_7 (by decide) ?_
    refine X_iload_n 9 2 dX7_lampOf_9 rfl rfl ?_
    refine X_iadd 10 dX7_lampOf_10 ?_
    rw [show (8 : Int32) + nI w = nI (8 + w) from nI_add 8 _]
    refine X_cVI 11 [.int _, .int _] (e_X7_of k (8 + w) _ hk8 (by omega)) dX7_lampOf_11 lm_RX7_61 2 ⟨wm_X7_of, by decide +kernel, rfl, rfl⟩ rfl ⟨Nat.le_of_ble_eq_true rfl, Nat.le_of_ble_eq_true rfl⟩ lyM vc7 rfl rfl (Nat.le_of_ble_eq_true rfl) ?_
    rintro _ _ ⟨rfl, rfl⟩
    refine X_iret 14 dX7_lampOf_14 rfl rfl ⟨_, rfl, _, rfl, ?_⟩
    refine ⟨?_, SCR_r⟩
    rcases (show w = 0 ∨ w = 1 ∨ w = 2 ∨ w = 3 by omega) with rfl | rfl | rfl | rfl
    · exact lp_ans (j := 0) hM hk8 (by decide)
    · exact lp_ans (j := 1) hM hk8 (by decide)
    · exact lp_ans (j := 2) hM hk8 (by decide)
    · exact wk_ans hM hk8
set_option maxHeartbeats 4000000 in
set_option maxRecDepth 100000 in
theorem e_X7_lamp (V : Mm) (c r lc : Nat) (n w : Int32) (μ : Mm) (hM : MI V c r lc μ) : EvN ΛM mX7_lamp [.ref 0, .int n, .int w] μ (qI (Q3 (LPn lc n) (rgI w 0 11) (lvV V lc c r (tn n) (tn w)) μ)) := by
  refine EvN_ofQ (by decide +kernel) rfl (fun _ => rfl) (fun _ => Nat.le_of_ble_eq_true rfl) (ls := [(0, .ref 0), (1, .int n), (2, .int w)]) ?_
  obtain ⟨⟨hc1, hc2⟩, ⟨hr1, hr2⟩, h8⟩ := MI_lc hM
  refine X_aload_n 0 0 dX7_lamp_0 rfl rfl ?_
  refine X_iload_n 1 1 dX7_lamp_1 rfl rfl ?_
  refine X_cVI 2 [.int _] (e_X7_isLamp n lc μ hM.1.1.2.2.1 h8) dX7_lamp_2 lm_RX7_150 1 ⟨wm_X7_isLamp, by decide +kernel, rfl, rfl⟩ rfl ⟨Nat.le_of_ble_eq_true rfl, Nat.le_of_ble_eq_true rfl⟩ lyM vc7 rfl rfl (Nat.le_of_ble_eq_true rfl) ?_
  rintro _ _ ⟨rfl, ⟨rfl, b_2⟩ | ⟨rfl, b_2⟩⟩
  · refine X_if_ne 5 14 dX7_lamp_5 (by decide) (fun _ => ?_) (fun c_0 => by exact absurd c_0 (by decide))
    refine X_iload_n 14 2 dX7_lamp_14 rfl rfl ?_
    refine X_iconst 15 (0) dX7_lamp_15 (by decide) ?_
    refine X_bipush 16 (11) dX7_lamp_16 (by decide) ?_
    refine X_cSI 18 [.int _, .int _, .int _] (e_X7_in _ _ _ _) dX7_lamp_18 lm_RX7_41 3 ⟨wm_X7_in, by decide +kernel, rfl, rfl⟩ rfl ⟨Nat.le_of_ble_eq_true rfl, Nat.le_of_ble_eq_true rfl⟩ rfl (Nat.le_of_ble_eq_true rfl) ?_
    rintro _ _ ⟨rfl, ⟨rfl, b_18⟩ | ⟨rfl, b_18⟩⟩
    · refine X_if_eq 21 37 dX7_lamp_21 (by decide) (fun c_0 => by exact absurd c_0 (by decide)) (fun _ => ?_)
      obtain ⟨k, hk, rfl⟩ := nat_lt b_2.1 b_2.2 (by omega)
      have en : tn (nI k) = k := nI_clamp (by omega)
      have hk8 : k < 8 := by omega
      obtain ⟨j, hw, rfl⟩ := nat_le (n := 11) rfl b_18 (by omega)
      have ew : tn (nI j) = j := nI_clamp (by omega)
      refine X_aload_n 24 0 dX7_lamp_24 rfl rfl ?_
      refine X_aload_n 25 0 dX7_lamp_25 rfl rfl ?_
      refine X_iload_n 26 1 dX7_lamp_26 rfl rfl ?_
      refine X_iload_n 27 2 dX7_lamp_27 rfl rfl ?_
      refine X_cVI 28 [.int _, .int _] (e_X7_lampOf V c r lc k j _ hM hk hw) dX7_lamp_28 lm_RX7_202 2 ⟨wm_X7_lampOf, by decide +kernel, rfl, rfl⟩ rfl ⟨Nat.le_of_ble_eq_true rfl, Nat.le_of_ble_eq_true rfl⟩ lyM vc7 rfl rfl (Nat.le_of_ble_eq_true rfl) ?_
      rintro _ m9 ⟨rfl, hS9⟩
      refine X_cVI 31 [.int _] (e_X7_tells _ _) dX7_lamp_31 lm_RX7_58 1 ⟨wm_X7_tells, by decide +kernel, rfl, rfl⟩ rfl ⟨Nat.le_of_ble_eq_true rfl, Nat.le_of_ble_eq_true rfl⟩ lyM vc7 rfl rfl (Nat.le_of_ble_eq_true rfl) ?_
      rintro _ _ ⟨rfl, rfl⟩
      refine X_goto 34 42 dX7_lamp_34 (by decide) ?_
      refine X_iret 42 dX7_lamp_42 rfl rfl ⟨_, rfl, _, rfl, ?_⟩
      first
        | exact Or.inr (Or.inl ⟨b_2, b_18, uM_s _ _ _ _, KP_u⟩)
        | exact Or.inr (Or.inr ⟨b_2, b_18, by rw [en, ew], q_ok hS9⟩)
    · refine X_if_eq 21 37 dX7_lamp_21 (by decide) (fun _ => ?_) (fun c_0 => by exact absurd c_0 (by decide))
      refine X_aload_n 37 0 dX7_lamp_37 rfl rfl ?_
      refine X_iconst 38 (2) dX7_lamp_38 (by decide) ?_
      refine X_cVI 39 [.int _] (e_X7_fails _ _) dX7_lamp_39 lm_RX7_48 1 ⟨wm_X7_fails, by decide +kernel, rfl, rfl⟩ rfl ⟨Nat.le_of_ble_eq_true rfl, Nat.le_of_ble_eq_true rfl⟩ lyM vc7 rfl rfl (Nat.le_of_ble_eq_true rfl) ?_
      rintro _ _ ⟨rfl, rfl⟩
      refine X_iret 42 dX7_lamp_42 rfl rfl ⟨_, rfl, _, rfl, ?_⟩
      first
        | exact Or.inr (Or.inl ⟨b_2, b_18, uM_s _ _ _ _, KP_u⟩)
        | exact Or.inr (Or.inr ⟨b_2, b_18, by rw [en, ew], q_ok hS9⟩)
  · refine X_if_ne 5 14 dX7_lamp_5 (by decide) (fun c_0 => by exact absurd c_0 (by decide)) (fun _ => ?_)
    refine X_aload_n 8 0 dX7_lamp_8 rfl rfl ?_
    refine X_iconst 9 (1) dX7_lamp_9 (by decide) ?_
    refine X_cVI 10 [.int _] (e_X7_fails _ _) dX7_lamp_10 lm_RX7_48 1 ⟨wm_X7_fails, by decide +kernel, rfl, rfl⟩ rfl ⟨Nat.le_of_ble_eq_true rfl, Nat.le_of_ble_eq_true rfl⟩ lyM vc7 rfl rfl (Nat.le_of_ble_eq_true rfl) ?_
    rintro _ _ ⟨rfl, rfl⟩
    refine X_iret 13 dX7_lamp_13 rfl rfl ⟨_, rfl, _, rfl, ?_⟩
    exact Or.inl ⟨b_2, uM_s _ _ _ _, KP_u⟩
set_option maxHeartbeats 4000000 in
set_option maxRecDepth 100000 in
theorem e_X7_corner (V : Mm) (c r lc : Nat) (n i a : Int32) (μ : Mm) (hM : MI V c r lc μ) : EvN ΛM mX7_corner [.ref 0, .int n, .int i, .int a] μ (qI (Q3 (LPn lc n ∧ rgI i 0 3) (rgI a 0 1) (if a = 0 then V 13 (4 * tn n + tn i) else V 14 (4 * tn n + tn i)) μ)) := by
  refine EvN_ofQ (by decide +kernel) rfl (fun _ => rfl) (fun _ => Nat.le_of_ble_eq_true rfl) (ls := [(0, .ref 0), (1, .int n), (2, .int i), (3, .int a)]) ?_
  obtain ⟨⟨hc1, hc2⟩, ⟨hr1, hr2⟩, h8⟩ := MI_lc hM
  refine X_aload_n 0 0 dX7_corner_0 rfl rfl ?_
  refine X_iload_n 1 1 dX7_corner_1 rfl rfl ?_
  refine X_cVI 2 [.int _] (e_X7_isLamp n lc μ hM.1.1.2.2.1 h8) dX7_corner_2 lm_RX7_150 1 ⟨wm_X7_isLamp, by decide +kernel, rfl, rfl⟩ rfl ⟨Nat.le_of_ble_eq_true rfl, Nat.le_of_ble_eq_true rfl⟩ lyM vc7 rfl rfl (Nat.le_of_ble_eq_true rfl) ?_
  rintro _ _ ⟨rfl, ⟨rfl, b_2⟩ | ⟨rfl, b_2⟩⟩
  · refine X_if_eq 5 15 dX7_corner_5 (by decide) (fun c_0 => by exact absurd c_0 (by decide)) (fun _ => ?_)
    refine X_iload_n 8 2 dX7_corner_8 rfl rfl ?_
    refine X_cSI 9 [.int _] (e_X7_isCorner _ _) dX7_corner_9 lm_RX7_153 1 ⟨wm_X7_isCorner, by decide +kernel, rfl, rfl⟩ rfl ⟨Nat.le_of_ble_eq_true rfl, Nat.le_of_ble_eq_true rfl⟩ rfl (Nat.le_of_ble_eq_true rfl) ?_
    rintro _ _ ⟨rfl, ⟨rfl, b_9⟩ | ⟨rfl, b_9⟩⟩
    · refine X_if_ne 12 21 dX7_corner_12 (by decide) (fun _ => ?_) (fun c_0 => by exact absurd c_0 (by decide))
      refine X_iload_n 21 3 dX7_corner_21 rfl rfl ?_
      refine X_iconst 22 (0) dX7_corner_22 (by decide) ?_
      refine X_iconst 23 (1) dX7_corner_23 (by decide) ?_
      refine X_cSI 24 [.int _, .int _, .int _] (e_X7_in _ _ _ _) dX7_corner_24 lm_RX7_41 3 ⟨wm_X7_in, by decide +kernel, rfl, rfl⟩ rfl ⟨Nat.le_of_ble_eq_true rfl, Nat.le_of_ble_eq_true rfl⟩ rfl (Nat.le_of_ble_eq_true rfl) ?_
      rintro _ _ ⟨rfl, ⟨rfl, b_24⟩ | ⟨rfl, b_24⟩⟩
      · refine X_if_eq 27 53 dX7_corner_27 (by decide) (fun c_0 => by exact absurd c_0 (by decide)) (fun _ => ?_)
        obtain ⟨k, hk, rfl⟩ := nat_lt b_2.1 b_2.2 (by omega)
        have en : tn (nI k) = k := nI_clamp (by omega)
        have hk8 : k < 8 := by omega
        obtain ⟨j, hw, rfl⟩ := nat_le (n := 3) rfl b_9 (by omega)
        have ew : tn (nI j) = j := nI_clamp (by omega)
        refine X_aload_n 30 0 dX7_corner_30 rfl rfl ?_
        refine X_aload_n 31 0 dX7_corner_31 rfl rfl ?_
        refine X_iload_n 32 1 dX7_corner_32 rfl rfl ?_
        refine X_iload_n 33 3 dX7_corner_33 rfl rfl ?_
        refine X_if_ne 34 41 dX7_corner_34 (by decide) (fun c_34 => ?_) (fun c_34 => ?_)
        · have hz : (if a = 0 then V 13 (4 * k + j) else V 14 (4 * k + j)) = μ 1 (aL k (4 + j)) := (if_neg c_34).trans (hM.1.2.2.2.1 k j hk8 (by omega)).2
          have ez : (4 : Int32) + nI j = nI (4 + j) := nI_add 4 _
          refine X_iconst 41 (4) dX7_corner_41 (by decide) ?_
          refine X_iload_n 42 2 dX7_corner_42 rfl rfl ?_
          refine X_iadd 43 dX7_corner_43 ?_
          rw [ez]
          refine X_cVI 44 [.int _, .int _] (e_X7_of k _ _ hk8 (by omega)) dX7_corner_44 lm_RX7_61 2 ⟨wm_X7_of, by decide +kernel, rfl, rfl⟩ rfl ⟨Nat.le_of_ble_eq_true rfl, Nat.le_of_ble_eq_true rfl⟩ lyM vc7 rfl rfl (Nat.le_of_ble_eq_true rfl) ?_
          rintro _ _ ⟨rfl, rfl⟩
          refine X_cVI 47 [.int _] (e_X7_tells _ _) dX7_corner_47 lm_RX7_58 1 ⟨wm_X7_tells, by decide +kernel, rfl, rfl⟩ rfl ⟨Nat.le_of_ble_eq_true rfl, Nat.le_of_ble_eq_true rfl⟩ lyM vc7 rfl rfl (Nat.le_of_ble_eq_true rfl) ?_
          rintro _ _ ⟨rfl, rfl⟩
          refine X_goto 50 58 dX7_corner_50 (by decide) ?_
          refine X_iret 58 dX7_corner_58 rfl rfl ⟨_, rfl, _, rfl, ?_⟩
          first
            | exact Or.inr (Or.inl ⟨⟨b_2, b_9⟩, b_24, uM_s _ _ _ _, KP_u⟩)
            | exact Or.inr (Or.inr ⟨⟨b_2, b_9⟩, b_24, by rw [en, ew]; exact hz, q_ok SCR_r⟩)
        · have hz : (if a = 0 then V 13 (4 * k + j) else V 14 (4 * k + j)) = μ 1 (aL k (0 + j)) := by rw [Nat.zero_add]; exact (if_pos c_34).trans (hM.1.2.2.2.1 k j hk8 (by omega)).1
          have ez : (0 : Int32) + nI j = nI (0 + j) := by rw [Int32.zero_add, Nat.zero_add]
          refine X_iconst 37 (0) dX7_corner_37 (by decide) ?_
          refine X_goto 38 42 dX7_corner_38 (by decide) ?_
          refine X_iload_n 42 2 dX7_corner_42 rfl rfl ?_
          refine X_iadd 43 dX7_corner_43 ?_
          rw [ez]
          refine X_cVI 44 [.int _, .int _] (e_X7_of k _ _ hk8 (by omega)) dX7_corner_44 lm_RX7_61 2 ⟨wm_X7_of, by decide +kernel, rfl, rfl⟩ rfl ⟨Nat.le_of_ble_eq_true rfl, Nat.le_of_ble_eq_true rfl⟩ lyM vc7 rfl rfl (Nat.le_of_ble_eq_true rfl) ?_
          rintro _ _ ⟨rfl, rfl⟩
          refine X_cVI 47 [.int _] (e_X7_tells _ _) dX7_corner_47 lm_RX7_58 1 ⟨wm_X7_tells, by decide +kernel, rfl, rfl⟩ rfl ⟨Nat.le_of_ble_eq_true rfl, Nat.le_of_ble_eq_true rfl⟩ lyM vc7 rfl rfl (Nat.le_of_ble_eq_true rfl) ?_
          rintro _ _ ⟨rfl, rfl⟩
          refine X_goto 50 58 dX7_corner_50 (by decide) ?_
          refine X_iret 58 dX7_corner_58 rfl rfl ⟨_, rfl, _, rfl, ?_⟩
          first
            | exact Or.inr (Or.inl ⟨⟨b_2, b_9⟩, b_24, uM_s _ _ _ _, KP_u⟩)
            | exact Or.inr (Or.inr ⟨⟨b_2, b_9⟩, b_24, by rw [en, ew]; exact hz, q_ok SCR_r⟩)
      · refine X_if_eq 27 53 dX7_corner_27 (by decide) (fun _ => ?_) (fun c_0 => by exact absurd c_0 (by decide))
        refine X_aload_n 53 0 dX7_corner_53 rfl rfl ?_
        refine X_iconst 54 (2) dX7_corner_54 (by decide) ?_
        refine X_cVI 55 [.int _] (e_X7_fails _ _) dX7_corner_55 lm_RX7_48 1 ⟨wm_X7_fails, by decide +kernel, rfl, rfl⟩ rfl ⟨Nat.le_of_ble_eq_true rfl, Nat.le_of_ble_eq_true rfl⟩ lyM vc7 rfl rfl (Nat.le_of_ble_eq_true rfl) ?_
        rintro _ _ ⟨rfl, rfl⟩
        refine X_iret 58 dX7_corner_58 rfl rfl ⟨_, rfl, _, rfl, ?_⟩
        first
          | exact Or.inr (Or.inl ⟨⟨b_2, b_9⟩, b_24, uM_s _ _ _ _, KP_u⟩)
          | exact Or.inr (Or.inr ⟨⟨b_2, b_9⟩, b_24, by rw [en, ew]; exact hz, q_ok SCR_r⟩)
    · refine X_if_ne 12 21 dX7_corner_12 (by decide) (fun c_0 => by exact absurd c_0 (by decide)) (fun _ => ?_)
      refine X_aload_n 15 0 dX7_corner_15 rfl rfl ?_
      refine X_iconst 16 (1) dX7_corner_16 (by decide) ?_
      refine X_cVI 17 [.int _] (e_X7_fails _ _) dX7_corner_17 lm_RX7_48 1 ⟨wm_X7_fails, by decide +kernel, rfl, rfl⟩ rfl ⟨Nat.le_of_ble_eq_true rfl, Nat.le_of_ble_eq_true rfl⟩ lyM vc7 rfl rfl (Nat.le_of_ble_eq_true rfl) ?_
      rintro _ _ ⟨rfl, rfl⟩
      refine X_iret 20 dX7_corner_20 rfl rfl ⟨_, rfl, _, rfl, ?_⟩
      first | exact Or.inl ⟨fun z => b_2 z.1, uM_s _ _ _ _, KP_u⟩ | exact Or.inl ⟨fun z => b_9 z.2, uM_s _ _ _ _, KP_u⟩
  · refine X_if_eq 5 15 dX7_corner_5 (by decide) (fun _ => ?_) (fun c_0 => by exact absurd c_0 (by decide))
    refine X_aload_n 15 0 dX7_corner_15 rfl rfl ?_
    refine X_iconst 16 (1) dX7_corner_16 (by decide) ?_
    refine X_cVI 17 [.int _] (e_X7_fails _ _) dX7_corner_17 lm_RX7_48 1 ⟨wm_X7_fails, by decide +kernel, rfl, rfl⟩ rfl ⟨Nat.le_of_ble_eq_true rfl, Nat.le_of_ble_eq_true rfl⟩ lyM vc7 rfl rfl (Nat.le_of_ble_eq_true rfl) ?_
    rintro _ _ ⟨rfl, rfl⟩
    refine X_iret 20 dX7_corner_20 rfl rfl ⟨_, rfl, _, rfl, ?_⟩
    first | exact Or.inl ⟨fun z => b_2 z.1, uM_s _ _ _ _, KP_u⟩ | exact Or.inl ⟨fun z => b_9 z.2, uM_s _ _ _ _, KP_u⟩
