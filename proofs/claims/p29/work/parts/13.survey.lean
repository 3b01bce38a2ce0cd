set_option maxHeartbeats 4000000 in
set_option maxRecDepth 100000 in
theorem e_J6_bitCount_0f7a4 (x : Int32) (μ : Mm) : EvN ΛC mJ6_bitCount_0f7a4 [.int x] μ (qE (bcI x) μ) := by
  refine EvN_ofQ (by decide +kernel) rfl (fun _ => rfl) (fun _ => Nat.le_of_ble_eq_true rfl) (ls := [(0, .int x)]) ?_
  refine X_iload_n 0 0 dJ6_bitCount_0f7a4_0 rfl rfl ?_
  refine X_iload_n 1 0 dJ6_bitCount_0f7a4_1 rfl rfl ?_
  refine X_iconst 2 (1) dJ6_bitCount_0f7a4_2 (by decide) ?_
  refine X_iushr 3 dJ6_bitCount_0f7a4_3 ?_
  refine X_ldcw 4 dJ6_bitCount_0f7a4_4 kw_737 ?_
  refine X_iand 7 dJ6_bitCount_0f7a4_7 ?_
  refine X_isub 8 dJ6_bitCount_0f7a4_8 ?_
  refine X_istore_n 9 [(0, .int _)] dJ6_bitCount_0f7a4_9 rfl (by decide) rfl ?_
  refine X_iload_n 10 0 dJ6_bitCount_0f7a4_10 rfl rfl ?_
  refine X_ldcw 11 dJ6_bitCount_0f7a4_11 kw_738 ?_
  refine X_iand 14 dJ6_bitCount_0f7a4_14 ?_
  refine X_iload_n 15 0 dJ6_bitCount_0f7a4_15 rfl rfl ?_
  refine X_iconst 16 (2) dJ6_bitCount_0f7a4_16 (by decide) ?_
  refine X_iushr 17 dJ6_bitCount_0f7a4_17 ?_
  refine X_ldcw 18 dJ6_bitCount_0f7a4_18 kw_738 ?_
  refine X_iand 21 dJ6_bitCount_0f7a4_21 ?_
  refine X_iadd 22 dJ6_bitCount_0f7a4_22 ?_
  refine X_istore_n 23 [(0, .int _)] dJ6_bitCount_0f7a4_23 rfl (by decide) rfl ?_
  refine X_iload_n 24 0 dJ6_bitCount_0f7a4_24 rfl rfl ?_
  refine X_iload_n 25 0 dJ6_bitCount_0f7a4_25 rfl rfl ?_
  refine X_iconst 26 (4) dJ6_bitCount_0f7a4_26 (by decide) ?_
  refine X_iushr 27 dJ6_bitCount_0f7a4_27 ?_
  refine X_iadd 28 dJ6_bitCount_0f7a4_28 ?_
  refine X_ldcw 29 dJ6_bitCount_0f7a4_29 kw_739 ?_
  refine X_iand 32 dJ6_bitCount_0f7a4_32 ?_
  refine X_istore_n 33 [(0, .int _)] dJ6_bitCount_0f7a4_33 rfl (by decide) rfl ?_
  refine X_iload_n 34 0 dJ6_bitCount_0f7a4_34 rfl rfl ?_
  refine X_iload_n 35 0 dJ6_bitCount_0f7a4_35 rfl rfl ?_
  refine X_bipush 36 (8) dJ6_bitCount_0f7a4_36 (by decide) ?_
  refine X_iushr 38 dJ6_bitCount_0f7a4_38 ?_
  refine X_iadd 39 dJ6_bitCount_0f7a4_39 ?_
  refine X_istore_n 40 [(0, .int _)] dJ6_bitCount_0f7a4_40 rfl (by decide) rfl ?_
  refine X_iload_n 41 0 dJ6_bitCount_0f7a4_41 rfl rfl ?_
  refine X_iload_n 42 0 dJ6_bitCount_0f7a4_42 rfl rfl ?_
  refine X_bipush 43 (16) dJ6_bitCount_0f7a4_43 (by decide) ?_
  refine X_iushr 45 dJ6_bitCount_0f7a4_45 ?_
  refine X_iadd 46 dJ6_bitCount_0f7a4_46 ?_
  refine X_istore_n 47 [(0, .int _)] dJ6_bitCount_0f7a4_47 rfl (by decide) rfl ?_
  refine X_iload_n 48 0 dJ6_bitCount_0f7a4_48 rfl rfl ?_
  refine X_bipush 49 (63) dJ6_bitCount_0f7a4_49 (by decide) ?_
  refine X_iand 51 dJ6_bitCount_0f7a4_51 ?_
  refine X_iret 52 dJ6_bitCount_0f7a4_52 rfl rfl ⟨_, rfl, _, rfl, ?_⟩
  exact ⟨rfl, rfl⟩
set_option maxHeartbeats 4000000 in
set_option maxRecDepth 100000 in
theorem e_X5_coveringAt (j : Nat) (μ : Mm) (hj : j < 384) : EvN ΛC mX5_coveringAt [.ref 93, .int (nI j)] μ (qE (μ 99 j) μ) := by
  refine EvN_ofQ (by decide +kernel) rfl (fun _ => rfl) (fun _ => Nat.le_of_ble_eq_true rfl) (ls := [(0, .ref 93), (1, .int (nI j))]) ?_
  refine X_aload_n 0 0 dX5_coveringAt_0 rfl rfl ?_
  refine X_getR (f := 2) 1 dX5_coveringAt_1 lf_RX5_27 iw5 vc5 (by decide) lyV rfl ?_
  refine X_iload_n 4 1 dX5_coveringAt_4 rfl rfl ?_
  refine X_cVI 5 [.int _] (e_X3_get 95 99 384 rV_cv _ _) dX5_coveringAt_5 lm_RX5_93 1 ⟨wm_X3_get, by decide +kernel, rfl, rfl⟩ rfl ⟨Nat.le_of_ble_eq_true rfl, Nat.le_of_ble_eq_true rfl⟩ rV_cv.1 vc3 rfl rfl (Nat.le_of_ble_eq_true rfl) ?_
  rintro _ _ ⟨rfl, rfl⟩
  rw [gt_nI (by omega) (by decide)]
  refine X_iret 8 dX5_coveringAt_8 rfl rfl ⟨_, rfl, _, rfl, ?_⟩
  exact ⟨rfl, rfl⟩
set_option maxHeartbeats 4000000 in
set_option maxRecDepth 100000 in
theorem e_X5_brightnessAt (j : Nat) (μ : Mm) (hj : j < 384) : EvN ΛC mX5_brightnessAt [.ref 93, .int (nI j)] μ (qE (μ 100 j) μ) := by
  refine EvN_ofQ (by decide +kernel) rfl (fun _ => rfl) (fun _ => Nat.le_of_ble_eq_true rfl) (ls := [(0, .ref 93), (1, .int (nI j))]) ?_
  refine X_aload_n 0 0 dX5_brightnessAt_0 rfl rfl ?_
  refine X_getR (f := 3) 1 dX5_brightnessAt_1 lf_RX5_30 iw5 vc5 (by decide) lyV rfl ?_
  refine X_iload_n 4 1 dX5_brightnessAt_4 rfl rfl ?_
  refine X_cVI 5 [.int _] (e_X3_get 96 100 384 rV_br _ _) dX5_brightnessAt_5 lm_RX5_93 1 ⟨wm_X3_get, by decide +kernel, rfl, rfl⟩ rfl ⟨Nat.le_of_ble_eq_true rfl, Nat.le_of_ble_eq_true rfl⟩ rV_br.1 vc3 rfl rfl (Nat.le_of_ble_eq_true rfl) ?_
  rintro _ _ ⟨rfl, rfl⟩
  rw [gt_nI (by omega) (by decide)]
  refine X_iret 8 dX5_brightnessAt_8 rfl rfl ⟨_, rfl, _, rfl, ?_⟩
  exact ⟨rfl, rfl⟩
set_option maxHeartbeats 4000000 in
set_option maxRecDepth 100000 in
theorem e_X5_stateAt (j : Nat) (μ : Mm) (hj : j < 384) : EvN ΛC mX5_stateAt [.ref 93, .int (nI j)] μ (qE (μ 101 j) μ) := by
  refine EvN_ofQ (by decide +kernel) rfl (fun _ => rfl) (fun _ => Nat.le_of_ble_eq_true rfl) (ls := [(0, .ref 93), (1, .int (nI j))]) ?_
  refine X_aload_n 0 0 dX5_stateAt_0 rfl rfl ?_
  refine X_getR (f := 4) 1 dX5_stateAt_1 lf_RX5_33 iw5 vc5 (by decide) lyV rfl ?_
  refine X_iload_n 4 1 dX5_stateAt_4 rfl rfl ?_
  refine X_cVI 5 [.int _] (e_X3_get 97 101 384 rV_st _ _) dX5_stateAt_5 lm_RX5_93 1 ⟨wm_X3_get, by decide +kernel, rfl, rfl⟩ rfl ⟨Nat.le_of_ble_eq_true rfl, Nat.le_of_ble_eq_true rfl⟩ rV_st.1 vc3 rfl rfl (Nat.le_of_ble_eq_true rfl) ?_
  rintro _ _ ⟨rfl, rfl⟩
  rw [gt_nI (by omega) (by decide)]
  refine X_iret 8 dX5_stateAt_8 rfl rfl ⟨_, rfl, _, rfl, ?_⟩
  exact ⟨rfl, rfl⟩
set_option maxHeartbeats 4000000 in
set_option maxRecDepth 100000 in
theorem e_X5_isCovered (k j : Nat) (μ : Mm) (hj : j < 384) : EvN ΛC mX5_isCovered [.ref 93, .int (nI k), .int (nI j)] μ (qB (covB μ k j = true) μ) := by
  refine EvN_ofQ (by decide +kernel) rfl (fun _ => rfl) (fun _ => Nat.le_of_ble_eq_true rfl) (ls := [(0, .ref 93), (1, .int (nI k)), (2, .int (nI j))]) ?_
  refine X_iload_n 0 1 dX5_isCovered_0 rfl rfl ?_
  refine X_aload_n 1 0 dX5_isCovered_1 rfl rfl ?_
  refine X_getR (f := 2) 2 dX5_isCovered_2 lf_RX5_27 iw5 vc5 (by decide) lyV rfl ?_
  refine X_iload_n 5 2 dX5_isCovered_5 rfl rfl ?_
  refine X_cVI 6 [.int _] (e_X3_get 95 99 384 rV_cv _ _) dX5_isCovered_6 lm_RX5_93 1 ⟨wm_X3_get, by decide +kernel, rfl, rfl⟩ rfl ⟨Nat.le_of_ble_eq_true rfl, Nat.le_of_ble_eq_true rfl⟩ rV_cv.1 vc3 rfl rfl (Nat.le_of_ble_eq_true rfl) ?_
  rintro _ _ ⟨rfl, rfl⟩
  rw [gt_nI (by omega) (by decide)]
  refine X_cSI 9 [.int _, .int _] (e_X6_isIn _ _ _) dX5_isCovered_9 lm_RX5_96 2 ⟨wm_X6_isIn, by decide +kernel, rfl, rfl⟩ rfl ⟨Nat.le_of_ble_eq_true rfl, Nat.le_of_ble_eq_true rfl⟩ rfl (Nat.le_of_ble_eq_true rfl) ?_
  rintro _ _ ⟨rfl, ⟨rfl, b_9⟩ | ⟨rfl, b_9⟩⟩
  · refine X_iret 12 dX5_isCovered_12 rfl rfl ⟨_, rfl, _, rfl, ?_⟩
    refine ⟨rfl, Or.inl ⟨rfl, ?_⟩⟩
    exact b_9
  · refine X_iret 12 dX5_isCovered_12 rfl rfl ⟨_, rfl, _, rfl, ?_⟩
    refine ⟨rfl, Or.inr ⟨rfl, ?_⟩⟩
    exact b_9
set_option maxHeartbeats 4000000 in
set_option maxRecDepth 100000 in
theorem e_X5_lightOf (k j : Nat) (μ : Mm) (hk : k < 8) (hj : j < 384) : EvN ΛC mX5_lightOf [.ref 93, .int (nI k), .int (nI j)] μ (qE (if covB μ k j = true then μ 98 (384 * k + j) else -1000) μ) := by
  refine EvN_ofQ (by decide +kernel) rfl (fun _ => rfl) (fun _ => Nat.le_of_ble_eq_true rfl) (ls := [(0, .ref 93), (1, .int (nI k)), (2, .int (nI j))]) ?_
  refine X_aload_n 0 0 dX5_lightOf_0 rfl rfl ?_
  refine X_iload_n 1 1 dX5_lightOf_1 rfl rfl ?_
  refine X_iload_n 2 2 dX5_lightOf_2 rfl rfl ?_
  refine X_cVI 3 [.int _, .int _] (e_X5_isCovered _ _ _ (by first | omega | assumption)) dX5_lightOf_3 lm_RX5_100 2 ⟨wm_X5_isCovered, by decide +kernel, rfl, rfl⟩ rfl ⟨Nat.le_of_ble_eq_true rfl, Nat.le_of_ble_eq_true rfl⟩ lyV vc5 rfl rfl (Nat.le_of_ble_eq_true rfl) ?_
  rintro _ _ ⟨rfl, ⟨rfl, b_3⟩ | ⟨rfl, b_3⟩⟩
  · refine X_if_eq 6 26 dX5_lightOf_6 (by decide) (fun c_0 => by exact absurd c_0 (by decide)) (fun _ => ?_)
    refine X_aload_n 9 0 dX5_lightOf_9 rfl rfl ?_
    refine X_getR (f := 1) 10 dX5_lightOf_10 lf_RX5_23 iw5 vc5 (by decide) lyV rfl ?_
    refine X_sipush 13 (384) dX5_lightOf_13 (by decide) ?_
    refine X_iload_n 16 1 dX5_lightOf_16 rfl rfl ?_
    refine X_imul 17 dX5_lightOf_17 ?_
    refine X_iload_n 18 2 dX5_lightOf_18 rfl rfl ?_
    refine X_iadd 19 dX5_lightOf_19 ?_
    rw [m384]
    refine X_cVI 20 [.int _] (e_X3_get 94 98 3072 rV_lt _ _) dX5_lightOf_20 lm_RX5_93 1 ⟨wm_X3_get, by decide +kernel, rfl, rfl⟩ rfl ⟨Nat.le_of_ble_eq_true rfl, Nat.le_of_ble_eq_true rfl⟩ rV_lt.1 vc3 rfl rfl (Nat.le_of_ble_eq_true rfl) ?_
    rintro _ _ ⟨rfl, rfl⟩
    rw [gt_nI (by omega) (by decide)]
    refine X_goto 23 29 dX5_lightOf_23 (by decide) ?_
    refine X_iret 29 dX5_lightOf_29 rfl rfl ⟨_, rfl, _, rfl, ?_⟩
    first | exact ⟨if_pos b_3, rfl⟩ | exact ⟨if_neg b_3, rfl⟩
  · refine X_if_eq 6 26 dX5_lightOf_6 (by decide) (fun _ => ?_) (fun c_0 => by exact absurd c_0 (by decide))
    refine X_sipush 26 (-1000) dX5_lightOf_26 (by decide) ?_
    refine X_iret 29 dX5_lightOf_29 rfl rfl ⟨_, rfl, _, rfl, ?_⟩
    first | exact ⟨if_pos b_3, rfl⟩ | exact ⟨if_neg b_3, rfl⟩
set_option maxHeartbeats 4000000 in
set_option maxRecDepth 100000 in
theorem e_X5_placesOf (k : Nat) (N : Nat) (μ : Mm) (hN : μ 93 5 = nI N) (h384 : N ≤ 384) (hk : k < 8) : EvN ΛC mX5_placesOf [.ref 93, .int (nI k)] μ (qE (plcN μ k N) μ) := by
  refine EvN_ofQ (by decide +kernel) rfl (fun _ => rfl) (fun _ => Nat.le_of_ble_eq_true rfl) (ls := [(0, .ref 93), (1, .int (nI k))]) ?_
  refine X_iconst 0 (0) dX5_placesOf_0 (by decide) ?_
  refine X_istore_n 1 [(2, .int _), (0, .ref _), (1, .int _)] dX5_placesOf_1 rfl (by decide) rfl ?_
  refine X_iconst 2 (0) dX5_placesOf_2 (by decide) ?_
  refine X_istore_n 3 [(3, .int _), (2, .int _), (0, .ref _), (1, .int _)] dX5_placesOf_3 rfl (by decide) rfl ?_
  refine X_sub [2, 3, 1, 0] [(0, .ref _), (1, .int _), (2, .int _), (3, .int _)] rfl ?_
  have L_4 : ∀ (kf : Nat) (j : Nat), j ≤ N → N < j + kf → ∀ (x4_2 : Int32) (x4_3 : Int32), plcN μ k j = x4_2 → nI j = x4_3 → X false ΛC mX5_placesOf (QN (qE (plcN μ k N) μ)) 4 [(0, .ref 93), (1, .int (nI k)), (2, .int x4_2), (3, .int x4_3)] [] μ := by
    intro kf
    induction kf with
    | zero => intro j hp4_0 hp4_1; exfalso; omega
    | succ kf ih_4 =>
      intro j hp4_0 hp4_1 x4_2 x4_3
      rintro rfl rfl
      refine X_iload_n 4 3 dX5_placesOf_4 rfl rfl ?_
      refine X_aload_n 5 0 dX5_placesOf_5 rfl rfl ?_
      refine X_getI (f := 5) 6 dX5_placesOf_6 lf_RX5_50 iw5 vc5 (by decide) lyV rfl ?_
      refine X_icmp_ge 9 35 dX5_placesOf_9 (by decide) (fun c_9 => ?_) (fun c_9 => ?_)
      · have hge : N ≤ j := c_ge hN (by omega) (by omega) c_9
        have hie : j = N := by omega
        subst hie
        refine X_iload_n 35 2 dX5_placesOf_35 rfl rfl ?_
        refine X_iret 36 dX5_placesOf_36 rfl rfl ⟨_, rfl, _, rfl, ?_⟩
        exact ⟨rfl, rfl⟩
      · have hlt : j < N := c_lt hN (by omega) (by omega) c_9
        refine X_iload_n 12 2 dX5_placesOf_12 rfl rfl ?_
        refine X_aload_n 13 0 dX5_placesOf_13 rfl rfl ?_
        refine X_iload_n 14 1 dX5_placesOf_14 rfl rfl ?_
        refine X_iload_n 15 3 dX5_placesOf_15 rfl rfl ?_
        refine X_cVI 16 [.int _, .int _] (e_X5_isCovered _ _ _ (by first | omega | assumption)) dX5_placesOf_16 lm_RX5_100 2 ⟨wm_X5_isCovered, by decide +kernel, rfl, rfl⟩ rfl ⟨Nat.le_of_ble_eq_true rfl, Nat.le_of_ble_eq_true rfl⟩ lyV vc5 rfl rfl (Nat.le_of_ble_eq_true rfl) ?_
        rintro _ _ ⟨rfl, ⟨rfl, b_16⟩ | ⟨rfl, b_16⟩⟩
        · refine X_if_eq 19 26 dX5_placesOf_19 (by decide) (fun c_0 => by exact absurd c_0 (by decide)) (fun _ => ?_)
          refine X_iconst 22 (1) dX5_placesOf_22 (by decide) ?_
          refine X_goto 23 27 dX5_placesOf_23 (by decide) ?_
          refine X_iadd 27 dX5_placesOf_27 ?_
          refine X_istore_n 28 [(2, .int _), (0, .ref _), (1, .int _), (3, .int _)] dX5_placesOf_28 rfl (by decide) rfl ?_
          refine X_iinc 29 3 (_ + 1) [(3, .int _), (2, .int _), (0, .ref _), (1, .int _)] dX5_placesOf_29 rfl rfl (by decide) rfl ?_
          refine X_goto 32 4 dX5_placesOf_32 (by decide) ?_
          refine X_sub [2, 3, 1, 0] [(0, .ref _), (1, .int _), (2, .int _), (3, .int _)] rfl ?_
          exact ih_4 (j + 1) (by omega) (by omega) _ _  (by (first | exact congrArg (_ + ·) (if_pos b_16) | exact congrArg (_ + ·) (if_neg b_16))) (by exact (nI_1 j).symm)
        · refine X_if_eq 19 26 dX5_placesOf_19 (by decide) (fun _ => ?_) (fun c_0 => by exact absurd c_0 (by decide))
          refine X_iconst 26 (0) dX5_placesOf_26 (by decide) ?_
          refine X_iadd 27 dX5_placesOf_27 ?_
          refine X_istore_n 28 [(2, .int _), (0, .ref _), (1, .int _), (3, .int _)] dX5_placesOf_28 rfl (by decide) rfl ?_
          refine X_iinc 29 3 (_ + 1) [(3, .int _), (2, .int _), (0, .ref _), (1, .int _)] dX5_placesOf_29 rfl rfl (by decide) rfl ?_
          refine X_goto 32 4 dX5_placesOf_32 (by decide) ?_
          refine X_sub [2, 3, 1, 0] [(0, .ref _), (1, .int _), (2, .int _), (3, .int _)] rfl ?_
          exact ih_4 (j + 1) (by omega) (by omega) _ _  (by (first | exact congrArg (_ + ·) (if_pos b_16) | exact congrArg (_ + ·) (if_neg b_16))) (by exact (nI_1 j).symm)
  exact L_4 (N + 1) 0 (by omega) (by omega) _ _  (by rfl) (by exact nI_0)
set_option maxHeartbeats 4000000 in
set_option maxRecDepth 100000 in
theorem e_X5_placesOnlyOf (k : Nat) (N : Nat) (μ : Mm) (hN : μ 93 5 = nI N) (h384 : N ≤ 384) (hk : k < 8) : EvN ΛC mX5_placesOnlyOf [.ref 93, .int (nI k)] μ (qE (sumN N (fun j => if μ 99 j = oneI k then 1 else 0)) μ) := by
  refine EvN_ofQ (by decide +kernel) rfl (fun _ => rfl) (fun _ => Nat.le_of_ble_eq_true rfl) (ls := [(0, .ref 93), (1, .int (nI k))]) ?_
  refine X_iconst 0 (0) dX5_placesOnlyOf_0 (by decide) ?_
  refine X_istore_n 1 [(2, .int _), (0, .ref _), (1, .int _)] dX5_placesOnlyOf_1 rfl (by decide) rfl ?_
  refine X_iconst 2 (0) dX5_placesOnlyOf_2 (by decide) ?_
  refine X_istore_n 3 [(3, .int _), (2, .int _), (0, .ref _), (1, .int _)] dX5_placesOnlyOf_3 rfl (by decide) rfl ?_
  refine X_sub [2, 3, 1, 0] [(0, .ref _), (1, .int _), (2, .int _), (3, .int _)] rfl ?_
  have L_4 : ∀ (kf : Nat) (j : Nat), j ≤ N → N < j + kf → ∀ (x4_2 : Int32) (x4_3 : Int32), sumN j (fun j => if μ 99 j = oneI k then 1 else 0) = x4_2 → nI j = x4_3 → X false ΛC mX5_placesOnlyOf (QN (qE (sumN N (fun j => if μ 99 j = oneI k then 1 else 0)) μ)) 4 [(0, .ref 93), (1, .int (nI k)), (2, .int x4_2), (3, .int x4_3)] [] μ := by
    intro kf
    induction kf with
    | zero => intro j hp4_0 hp4_1; exfalso; omega
    | succ kf ih_4 =>
      intro j hp4_0 hp4_1 x4_2 x4_3
      rintro rfl rfl
      refine X_iload_n 4 3 dX5_placesOnlyOf_4 rfl rfl ?_
      refine X_aload_n 5 0 dX5_placesOnlyOf_5 rfl rfl ?_
      refine X_getI (f := 5) 6 dX5_placesOnlyOf_6 lf_RX5_50 iw5 vc5 (by decide) lyV rfl ?_
      refine X_icmp_ge 9 40 dX5_placesOnlyOf_9 (by decide) (fun c_9 => ?_) (fun c_9 => ?_)
      · have hge : N ≤ j := c_ge hN (by omega) (by omega) c_9
        have hie : j = N := by omega
        subst hie
        refine X_iload_n 40 2 dX5_placesOnlyOf_40 rfl rfl ?_
        refine X_iret 41 dX5_placesOnlyOf_41 rfl rfl ⟨_, rfl, _, rfl, ?_⟩
        exact ⟨rfl, rfl⟩
      · have hlt : j < N := c_lt hN (by omega) (by omega) c_9
        refine X_iload_n 12 2 dX5_placesOnlyOf_12 rfl rfl ?_
        refine X_aload_n 13 0 dX5_placesOnlyOf_13 rfl rfl ?_
        refine X_getR (f := 2) 14 dX5_placesOnlyOf_14 lf_RX5_27 iw5 vc5 (by decide) lyV rfl ?_
        refine X_iload_n 17 3 dX5_placesOnlyOf_17 rfl rfl ?_
        refine X_cVI 18 [.int _] (e_X3_get 95 99 384 rV_cv _ _) dX5_placesOnlyOf_18 lm_RX5_93 1 ⟨wm_X3_get, by decide +kernel, rfl, rfl⟩ rfl ⟨Nat.le_of_ble_eq_true rfl, Nat.le_of_ble_eq_true rfl⟩ rV_cv.1 vc3 rfl rfl (Nat.le_of_ble_eq_true rfl) ?_
        rintro _ _ ⟨rfl, rfl⟩
        rw [gt_nI (by omega) (by decide)]
        refine X_iconst 21 (1) dX5_placesOnlyOf_21 (by decide) ?_
        refine X_iload_n 22 1 dX5_placesOnlyOf_22 rfl rfl ?_
        refine X_ishl 23 dX5_placesOnlyOf_23 ?_
        refine X_icmp_ne 24 31 dX5_placesOnlyOf_24 (by decide) (fun c_24 => ?_) (fun c_24 => ?_)
        · refine X_iconst 31 (0) dX5_placesOnlyOf_31 (by decide) ?_
          refine X_iadd 32 dX5_placesOnlyOf_32 ?_
          refine X_istore_n 33 [(2, .int _), (0, .ref _), (1, .int _), (3, .int _)] dX5_placesOnlyOf_33 rfl (by decide) rfl ?_
          refine X_iinc 34 3 (_ + 1) [(3, .int _), (2, .int _), (0, .ref _), (1, .int _)] dX5_placesOnlyOf_34 rfl rfl (by decide) rfl ?_
          refine X_goto 37 4 dX5_placesOnlyOf_37 (by decide) ?_
          refine X_sub [2, 3, 1, 0] [(0, .ref _), (1, .int _), (2, .int _), (3, .int _)] rfl ?_
          exact ih_4 (j + 1) (by omega) (by omega) _ _  (by (first | exact congrArg (_ + ·) (if_pos c_24) | exact congrArg (_ + ·) (if_neg c_24))) (by exact (nI_1 j).symm)
        · refine X_iconst 27 (1) dX5_placesOnlyOf_27 (by decide) ?_
          refine X_goto 28 32 dX5_placesOnlyOf_28 (by decide) ?_
          refine X_iadd 32 dX5_placesOnlyOf_32 ?_
          refine X_istore_n 33 [(2, .int _), (0, .ref _), (1, .int _), (3, .int _)] dX5_placesOnlyOf_33 rfl (by decide) rfl ?_
          refine X_iinc 34 3 (_ + 1) [(3, .int _), (2, .int _), (0, .ref _), (1, .int _)] dX5_placesOnlyOf_34 rfl rfl (by decide) rfl ?_
          refine X_goto 37 4 dX5_placesOnlyOf_37 (by decide) ?_
          refine X_sub [2, 3, 1, 0] [(0, .ref _), (1, .int _), (2, .int _), (3, .int _)] rfl ?_
          exact ih_4 (j + 1) (by omega) (by omega) _ _  (by (first | exact congrArg (_ + ·) (if_pos c_24) | exact congrArg (_ + ·) (if_neg c_24))) (by exact (nI_1 j).symm)
  exact L_4 (N + 1) 0 (by omega) (by omega) _ _  (by rfl) (by exact nI_0)
set_option maxHeartbeats 4000000 in
set_option maxRecDepth 100000 in
theorem e_X5_placesOfSeveral  (N : Nat) (μ : Mm) (hN : μ 93 5 = nI N) (h384 : N ≤ 384) : EvN ΛC mX5_placesOfSeveral [.ref 93] μ (qE (sumN N (fun j => sevB (μ 99 j))) μ) := by
  refine EvN_ofQ (by decide +kernel) rfl (fun _ => rfl) (fun _ => Nat.le_of_ble_eq_true rfl) (ls := [(0, .ref 93)]) ?_
  refine X_iconst 0 (0) dX5_placesOfSeveral_0 (by decide) ?_
  refine X_istore_n 1 [(1, .int _), (0, .ref _)] dX5_placesOfSeveral_1 rfl (by decide) rfl ?_
  refine X_iconst 2 (0) dX5_placesOfSeveral_2 (by decide) ?_
  refine X_istore_n 3 [(2, .int _), (1, .int _), (0, .ref _)] dX5_placesOfSeveral_3 rfl (by decide) rfl ?_
  refine X_sub [2, 1, 0] [(0, .ref _), (1, .int _), (2, .int _)] rfl ?_
  have L_4 : ∀ (kf : Nat) (j : Nat), j ≤ N → N < j + kf → ∀ (x4_1 : Int32) (x4_2 : Int32), sumN j (fun j => sevB (μ 99 j)) = x4_1 → nI j = x4_2 → X false ΛC mX5_placesOfSeveral (QN (qE (sumN N (fun j => sevB (μ 99 j))) μ)) 4 [(0, .ref 93), (1, .int x4_1), (2, .int x4_2)] [] μ := by
    intro kf
    induction kf with
    | zero => intro j hp4_0 hp4_1; exfalso; omega
    | succ kf ih_4 =>
      intro j hp4_0 hp4_1 x4_1 x4_2
      rintro rfl rfl
      refine X_iload_n 4 2 dX5_placesOfSeveral_4 rfl rfl ?_
      refine X_aload_n 5 0 dX5_placesOfSeveral_5 rfl rfl ?_
      refine X_getI (f := 5) 6 dX5_placesOfSeveral_6 lf_RX5_50 iw5 vc5 (by decide) lyV rfl ?_
      refine X_icmp_ge 9 41 dX5_placesOfSeveral_9 (by decide) (fun c_9 => ?_) (fun c_9 => ?_)
      · have hge : N ≤ j := c_ge hN (by omega) (by omega) c_9
        have hie : j = N := by omega
        subst hie
        refine X_iload_n 41 1 dX5_placesOfSeveral_41 rfl rfl ?_
        refine X_iret 42 dX5_placesOfSeveral_42 rfl rfl ⟨_, rfl, _, rfl, ?_⟩
        exact ⟨rfl, rfl⟩
      · have hlt : j < N := c_lt hN (by omega) (by omega) c_9
        refine X_iload_n 12 1 dX5_placesOfSeveral_12 rfl rfl ?_
        refine X_aload_n 13 0 dX5_placesOfSeveral_13 rfl rfl ?_
        refine X_getR (f := 2) 14 dX5_placesOfSeveral_14 lf_RX5_27 iw5 vc5 (by decide) lyV rfl ?_
        refine X_iload_n 17 2 dX5_placesOfSeveral_17 rfl rfl ?_
        refine X_cVI 18 [.int _] (e_X3_get 95 99 384 rV_cv _ _) dX5_placesOfSeveral_18 lm_RX5_93 1 ⟨wm_X3_get, by decide +kernel, rfl, rfl⟩ rfl ⟨Nat.le_of_ble_eq_true rfl, Nat.le_of_ble_eq_true rfl⟩ rV_cv.1 vc3 rfl rfl (Nat.le_of_ble_eq_true rfl) ?_
        rintro _ _ ⟨rfl, rfl⟩
        rw [gt_nI (by omega) (by decide)]
        refine X_cSI 21 [.int _] (e_J6_bitCount_0f7a4 _ _) dX5_placesOfSeveral_21 lm_RX5_103 1 ⟨wm_J6_bitCount_0f7a4, by decide +kernel, rfl, rfl⟩ rfl ⟨Nat.le_of_ble_eq_true rfl, Nat.le_of_ble_eq_true rfl⟩ rfl (Nat.le_of_ble_eq_true rfl) ?_
        rintro _ _ ⟨rfl, rfl⟩
        refine X_iconst 24 (2) dX5_placesOfSeveral_24 (by decide) ?_
        refine X_icmp_lt 25 32 dX5_placesOfSeveral_25 (by decide) (fun c_25 => ?_) (fun c_25 => ?_)
        · refine X_iconst 32 (0) dX5_placesOfSeveral_32 (by decide) ?_
          refine X_iadd 33 dX5_placesOfSeveral_33 ?_
          refine X_istore_n 34 [(1, .int _), (0, .ref _), (2, .int _)] dX5_placesOfSeveral_34 rfl (by decide) rfl ?_
          refine X_iinc 35 2 (_ + 1) [(2, .int _), (1, .int _), (0, .ref _)] dX5_placesOfSeveral_35 rfl rfl (by decide) rfl ?_
          refine X_goto 38 4 dX5_placesOfSeveral_38 (by decide) ?_
          refine X_sub [2, 1, 0] [(0, .ref _), (1, .int _), (2, .int _)] rfl ?_
          exact ih_4 (j + 1) (by omega) (by omega) _ _  (by (first | exact congrArg (_ + ·) (if_pos c_25) | exact congrArg (_ + ·) (if_neg c_25))) (by exact (nI_1 j).symm)
        · refine X_iconst 28 (1) dX5_placesOfSeveral_28 (by decide) ?_
          refine X_goto 29 33 dX5_placesOfSeveral_29 (by decide) ?_
          refine X_iadd 33 dX5_placesOfSeveral_33 ?_
          refine X_istore_n 34 [(1, .int _), (0, .ref _), (2, .int _)] dX5_placesOfSeveral_34 rfl (by decide) rfl ?_
          refine X_iinc 35 2 (_ + 1) [(2, .int _), (1, .int _), (0, .ref _)] dX5_placesOfSeveral_35 rfl rfl (by decide) rfl ?_
          refine X_goto 38 4 dX5_placesOfSeveral_38 (by decide) ?_
          refine X_sub [2, 1, 0] [(0, .ref _), (1, .int _), (2, .int _)] rfl ?_
          exact ih_4 (j + 1) (by omega) (by omega) _ _  (by (first | exact congrArg (_ + ·) (if_pos c_25) | exact congrArg (_ + ·) (if_neg c_25))) (by exact (nI_1 j).symm)
  exact L_4 (N + 1) 0 (by omega) (by omega) _ _  (by rfl) (by exact nI_0)
set_option maxHeartbeats 4000000 in
set_option maxRecDepth 100000 in
theorem e_X5_placesInState (z : Int32) (N : Nat) (μ : Mm) (hN : μ 93 5 = nI N) (h384 : N ≤ 384) : EvN ΛC mX5_placesInState [.ref 93, .int z] μ (qE (pstN μ z N) μ) := by
  refine EvN_ofQ (by decide +kernel) rfl (fun _ => rfl) (fun _ => Nat.le_of_ble_eq_true rfl) (ls := [(0, .ref 93), (1, .int z)]) ?_
  refine X_iconst 0 (0) dX5_placesInState_0 (by decide) ?_
  refine X_istore_n 1 [(2, .int _), (0, .ref _), (1, .int _)] dX5_placesInState_1 rfl (by decide) rfl ?_
  refine X_iconst 2 (0) dX5_placesInState_2 (by decide) ?_
  refine X_istore_n 3 [(3, .int _), (2, .int _), (0, .ref _), (1, .int _)] dX5_placesInState_3 rfl (by decide) rfl ?_
  refine X_sub [2, 3, 1, 0] [(0, .ref _), (1, .int _), (2, .int _), (3, .int _)] rfl ?_
  have L_4 : ∀ (kf : Nat) (j : Nat), j ≤ N → N < j + kf → ∀ (x4_2 : Int32) (x4_3 : Int32), pstN μ z j = x4_2 → nI j = x4_3 → X false ΛC mX5_placesInState (QN (qE (pstN μ z N) μ)) 4 [(0, .ref 93), (1, .int z), (2, .int x4_2), (3, .int x4_3)] [] μ := by
    intro kf
    induction kf with
    | zero => intro j hp4_0 hp4_1; exfalso; omega
    | succ kf ih_4 =>
      intro j hp4_0 hp4_1 x4_2 x4_3
      rintro rfl rfl
      refine X_iload_n 4 3 dX5_placesInState_4 rfl rfl ?_
      refine X_aload_n 5 0 dX5_placesInState_5 rfl rfl ?_
      refine X_getI (f := 5) 6 dX5_placesInState_6 lf_RX5_50 iw5 vc5 (by decide) lyV rfl ?_
      refine X_icmp_ge 9 38 dX5_placesInState_9 (by decide) (fun c_9 => ?_) (fun c_9 => ?_)
      · have hge : N ≤ j := c_ge hN (by omega) (by omega) c_9
        have hie : j = N := by omega
        subst hie
        refine X_iload_n 38 2 dX5_placesInState_38 rfl rfl ?_
        refine X_iret 39 dX5_placesInState_39 rfl rfl ⟨_, rfl, _, rfl, ?_⟩
        exact ⟨rfl, rfl⟩
      · have hlt : j < N := c_lt hN (by omega) (by omega) c_9
        refine X_iload_n 12 2 dX5_placesInState_12 rfl rfl ?_
        refine X_aload_n 13 0 dX5_placesInState_13 rfl rfl ?_
        refine X_getR (f := 4) 14 dX5_placesInState_14 lf_RX5_33 iw5 vc5 (by decide) lyV rfl ?_
        refine X_iload_n 17 3 dX5_placesInState_17 rfl rfl ?_
        refine X_cVI 18 [.int _] (e_X3_get 97 101 384 rV_st _ _) dX5_placesInState_18 lm_RX5_93 1 ⟨wm_X3_get, by decide +kernel, rfl, rfl⟩ rfl ⟨Nat.le_of_ble_eq_true rfl, Nat.le_of_ble_eq_true rfl⟩ rV_st.1 vc3 rfl rfl (Nat.le_of_ble_eq_true rfl) ?_
        rintro _ _ ⟨rfl, rfl⟩
        rw [gt_nI (by omega) (by decide)]
        refine X_iload_n 21 1 dX5_placesInState_21 rfl rfl ?_
        refine X_icmp_ne 22 29 dX5_placesInState_22 (by decide) (fun c_22 => ?_) (fun c_22 => ?_)
        · refine X_iconst 29 (0) dX5_placesInState_29 (by decide) ?_
          refine X_iadd 30 dX5_placesInState_30 ?_
          refine X_istore_n 31 [(2, .int _), (0, .ref _), (1, .int _), (3, .int _)] dX5_placesInState_31 rfl (by decide) rfl ?_
          refine X_iinc 32 3 (_ + 1) [(3, .int _), (2, .int _), (0, .ref _), (1, .int _)] dX5_placesInState_32 rfl rfl (by decide) rfl ?_
          refine X_goto 35 4 dX5_placesInState_35 (by decide) ?_
          refine X_sub [2, 3, 1, 0] [(0, .ref _), (1, .int _), (2, .int _), (3, .int _)] rfl ?_
          exact ih_4 (j + 1) (by omega) (by omega) _ _  (by (first | exact congrArg (_ + ·) (if_pos c_22) | exact congrArg (_ + ·) (if_neg c_22))) (by exact (nI_1 j).symm)
        · refine X_iconst 25 (1) dX5_placesInState_25 (by decide) ?_
          refine X_goto 26 30 dX5_placesInState_26 (by decide) ?_
          refine X_iadd 30 dX5_placesInState_30 ?_
          refine X_istore_n 31 [(2, .int _), (0, .ref _), (1, .int _), (3, .int _)] dX5_placesInState_31 rfl (by decide) rfl ?_
          refine X_iinc 32 3 (_ + 1) [(3, .int _), (2, .int _), (0, .ref _), (1, .int _)] dX5_placesInState_32 rfl rfl (by decide) rfl ?_
          refine X_goto 35 4 dX5_placesInState_35 (by decide) ?_
          refine X_sub [2, 3, 1, 0] [(0, .ref _), (1, .int _), (2, .int _), (3, .int _)] rfl ?_
          exact ih_4 (j + 1) (by omega) (by omega) _ _  (by (first | exact congrArg (_ + ·) (if_pos c_22) | exact congrArg (_ + ·) (if_neg c_22))) (by exact (nI_1 j).symm)
  exact L_4 (N + 1) 0 (by omega) (by omega) _ _  (by rfl) (by exact nI_0)
set_option maxHeartbeats 4000000 in
set_option maxRecDepth 100000 in
theorem e_X5_sumOfBrightness  (N : Nat) (μ : Mm) (hN : μ 93 5 = nI N) (h384 : N ≤ 384) : EvN ΛC mX5_sumOfBrightness [.ref 93] μ (qE (sumN N (μ 100)) μ) := by
  refine EvN_ofQ (by decide +kernel) rfl (fun _ => rfl) (fun _ => Nat.le_of_ble_eq_true rfl) (ls := [(0, .ref 93)]) ?_
  refine X_iconst 0 (0) dX5_sumOfBrightness_0 (by decide) ?_
  refine X_istore_n 1 [(1, .int _), (0, .ref _)] dX5_sumOfBrightness_1 rfl (by decide) rfl ?_
  refine X_iconst 2 (0) dX5_sumOfBrightness_2 (by decide) ?_
  refine X_istore_n 3 [(2, .int _), (1, .int _), (0, .ref _)] dX5_sumOfBrightness_3 rfl (by decide) rfl ?_
  refine X_sub [2, 1, 0] [(0, .ref _), (1, .int _), (2, .int _)] rfl ?_
  have L_4 : ∀ (kf : Nat) (j : Nat), j ≤ N → N < j + kf → ∀ (x4_1 : Int32) (x4_2 : Int32), sumN j (μ 100) = x4_1 → nI j = x4_2 → X false ΛC mX5_sumOfBrightness (QN (qE (sumN N (μ 100)) μ)) 4 [(0, .ref 93), (1, .int x4_1), (2, .int x4_2)] [] μ := by
    intro kf
    induction kf with
    | zero => intro j hp4_0 hp4_1; exfalso; omega
    | succ kf ih_4 =>
      intro j hp4_0 hp4_1 x4_1 x4_2
      rintro rfl rfl
      refine X_iload_n 4 2 dX5_sumOfBrightness_4 rfl rfl ?_
      refine X_aload_n 5 0 dX5_sumOfBrightness_5 rfl rfl ?_
      refine X_getI (f := 5) 6 dX5_sumOfBrightness_6 lf_RX5_50 iw5 vc5 (by decide) lyV rfl ?_
      refine X_icmp_ge 9 29 dX5_sumOfBrightness_9 (by decide) (fun c_9 => ?_) (fun c_9 => ?_)
      · have hge : N ≤ j := c_ge hN (by omega) (by omega) c_9
        have hie : j = N := by omega
        subst hie
        refine X_iload_n 29 1 dX5_sumOfBrightness_29 rfl rfl ?_
        refine X_iret 30 dX5_sumOfBrightness_30 rfl rfl ⟨_, rfl, _, rfl, ?_⟩
        exact ⟨rfl, rfl⟩
      · have hlt : j < N := c_lt hN (by omega) (by omega) c_9
        refine X_iload_n 12 1 dX5_sumOfBrightness_12 rfl rfl ?_
        refine X_aload_n 13 0 dX5_sumOfBrightness_13 rfl rfl ?_
        refine X_getR (f := 3) 14 dX5_sumOfBrightness_14 lf_RX5_30 iw5 vc5 (by decide) lyV rfl ?_
        refine X_iload_n 17 2 dX5_sumOfBrightness_17 rfl rfl ?_
        refine X_cVI 18 [.int _] (e_X3_get 96 100 384 rV_br _ _) dX5_sumOfBrightness_18 lm_RX5_93 1 ⟨wm_X3_get, by decide +kernel, rfl, rfl⟩ rfl ⟨Nat.le_of_ble_eq_true rfl, Nat.le_of_ble_eq_true rfl⟩ rV_br.1 vc3 rfl rfl (Nat.le_of_ble_eq_true rfl) ?_
        rintro _ _ ⟨rfl, rfl⟩
        rw [gt_nI (by omega) (by decide)]
        refine X_iadd 21 dX5_sumOfBrightness_21 ?_
        refine X_istore_n 22 [(1, .int _), (0, .ref _), (2, .int _)] dX5_sumOfBrightness_22 rfl (by decide) rfl ?_
        refine X_iinc 23 2 (_ + 1) [(2, .int _), (1, .int _), (0, .ref _)] dX5_sumOfBrightness_23 rfl rfl (by decide) rfl ?_
        refine X_goto 26 4 dX5_sumOfBrightness_26 (by decide) ?_
        refine X_sub [2, 1, 0] [(0, .ref _), (1, .int _), (2, .int _)] rfl ?_
        exact ih_4 (j + 1) (by omega) (by omega) _ _  (by rfl) (by exact (nI_1 j).symm)
  exact L_4 (N + 1) 0 (by omega) (by omega) _ _  (by rfl) (by exact nI_0)
set_option maxHeartbeats 4000000 in
set_option maxRecDepth 100000 in
theorem e_X5_sumOfLights (k : Nat) (N : Nat) (μ : Mm) (hN : μ 93 5 = nI N) (h384 : N ≤ 384) (hk : k < 8) : EvN ΛC mX5_sumOfLights [.ref 93, .int (nI k)] μ (qE (slN μ k N) μ) := by
  refine EvN_ofQ (by decide +kernel) rfl (fun _ => rfl) (fun _ => Nat.le_of_ble_eq_true rfl) (ls := [(0, .ref 93), (1, .int (nI k))]) ?_
  refine X_iconst 0 (0) dX5_sumOfLights_0 (by decide) ?_
  refine X_istore_n 1 [(2, .int _), (0, .ref _), (1, .int _)] dX5_sumOfLights_1 rfl (by decide) rfl ?_
  refine X_iconst 2 (0) dX5_sumOfLights_2 (by decide) ?_
  refine X_istore_n 3 [(3, .int _), (2, .int _), (0, .ref _), (1, .int _)] dX5_sumOfLights_3 rfl (by decide) rfl ?_
  refine X_sub [2, 3, 1, 0] [(0, .ref _), (1, .int _), (2, .int _), (3, .int _)] rfl ?_
  have L_4 : ∀ (kf : Nat) (j : Nat), j ≤ N → N < j + kf → ∀ (x4_2 : Int32) (x4_3 : Int32), slN μ k j = x4_2 → nI j = x4_3 → X false ΛC mX5_sumOfLights (QN (qE (slN μ k N) μ)) 4 [(0, .ref 93), (1, .int (nI k)), (2, .int x4_2), (3, .int x4_3)] [] μ := by
    intro kf
    induction kf with
    | zero => intro j hp4_0 hp4_1; exfalso; omega
    | succ kf ih_4 =>
      intro j hp4_0 hp4_1 x4_2 x4_3
      rintro rfl rfl
      refine X_iload_n 4 3 dX5_sumOfLights_4 rfl rfl ?_
      refine X_aload_n 5 0 dX5_sumOfLights_5 rfl rfl ?_
      refine X_getI (f := 5) 6 dX5_sumOfLights_6 lf_RX5_50 iw5 vc5 (by decide) lyV rfl ?_
      refine X_icmp_ge 9 48 dX5_sumOfLights_9 (by decide) (fun c_9 => ?_) (fun c_9 => ?_)
      · have hge : N ≤ j := c_ge hN (by omega) (by omega) c_9
        have hie : j = N := by omega
        subst hie
        refine X_iload_n 48 2 dX5_sumOfLights_48 rfl rfl ?_
        refine X_iret 49 dX5_sumOfLights_49 rfl rfl ⟨_, rfl, _, rfl, ?_⟩
        exact ⟨rfl, rfl⟩
      · have hlt : j < N := c_lt hN (by omega) (by omega) c_9
        refine X_iload_n 12 2 dX5_sumOfLights_12 rfl rfl ?_
        refine X_aload_n 13 0 dX5_sumOfLights_13 rfl rfl ?_
        refine X_iload_n 14 1 dX5_sumOfLights_14 rfl rfl ?_
        refine X_iload_n 15 3 dX5_sumOfLights_15 rfl rfl ?_
        refine X_cVI 16 [.int _, .int _] (e_X5_isCovered _ _ _ (by first | omega | assumption)) dX5_sumOfLights_16 lm_RX5_100 2 ⟨wm_X5_isCovered, by decide +kernel, rfl, rfl⟩ rfl ⟨Nat.le_of_ble_eq_true rfl, Nat.le_of_ble_eq_true rfl⟩ lyV vc5 rfl rfl (Nat.le_of_ble_eq_true rfl) ?_
        rintro _ _ ⟨rfl, ⟨rfl, b_16⟩ | ⟨rfl, b_16⟩⟩
        · refine X_if_eq 19 39 dX5_sumOfLights_19 (by decide) (fun c_0 => by exact absurd c_0 (by decide)) (fun _ => ?_)
          refine X_aload_n 22 0 dX5_sumOfLights_22 rfl rfl ?_
          refine X_getR (f := 1) 23 dX5_sumOfLights_23 lf_RX5_23 iw5 vc5 (by decide) lyV rfl ?_
          refine X_sipush 26 (384) dX5_sumOfLights_26 (by decide) ?_
          refine X_iload_n 29 1 dX5_sumOfLights_29 rfl rfl ?_
          refine X_imul 30 dX5_sumOfLights_30 ?_
          refine X_iload_n 31 3 dX5_sumOfLights_31 rfl rfl ?_
          refine X_iadd 32 dX5_sumOfLights_32 ?_
          rw [m384]
          refine X_cVI 33 [.int _] (e_X3_get 94 98 3072 rV_lt _ _) dX5_sumOfLights_33 lm_RX5_93 1 ⟨wm_X3_get, by decide +kernel, rfl, rfl⟩ rfl ⟨Nat.le_of_ble_eq_true rfl, Nat.le_of_ble_eq_true rfl⟩ rV_lt.1 vc3 rfl rfl (Nat.le_of_ble_eq_true rfl) ?_
          rintro _ _ ⟨rfl, rfl⟩
          rw [gt_nI (by omega) (by decide)]
          refine X_goto 36 40 dX5_sumOfLights_36 (by decide) ?_
          refine X_iadd 40 dX5_sumOfLights_40 ?_
          refine X_istore_n 41 [(2, .int _), (0, .ref _), (1, .int _), (3, .int _)] dX5_sumOfLights_41 rfl (by decide) rfl ?_
          refine X_iinc 42 3 (_ + 1) [(3, .int _), (2, .int _), (0, .ref _), (1, .int _)] dX5_sumOfLights_42 rfl rfl (by decide) rfl ?_
          refine X_goto 45 4 dX5_sumOfLights_45 (by decide) ?_
          refine X_sub [2, 3, 1, 0] [(0, .ref _), (1, .int _), (2, .int _), (3, .int _)] rfl ?_
          exact ih_4 (j + 1) (by omega) (by omega) _ _  (by (first | exact congrArg (_ + ·) (if_pos b_16) | exact congrArg (_ + ·) (if_neg b_16))) (by exact (nI_1 j).symm)
        · refine X_if_eq 19 39 dX5_sumOfLights_19 (by decide) (fun _ => ?_) (fun c_0 => by exact absurd c_0 (by decide))
          refine X_iconst 39 (0) dX5_sumOfLights_39 (by decide) ?_
          refine X_iadd 40 dX5_sumOfLights_40 ?_
          refine X_istore_n 41 [(2, .int _), (0, .ref _), (1, .int _), (3, .int _)] dX5_sumOfLights_41 rfl (by decide) rfl ?_
          refine X_iinc 42 3 (_ + 1) [(3, .int _), (2, .int _), (0, .ref _), (1, .int _)] dX5_sumOfLights_42 rfl rfl (by decide) rfl ?_
          refine X_goto 45 4 dX5_sumOfLights_45 (by decide) ?_
          refine X_sub [2, 3, 1, 0] [(0, .ref _), (1, .int _), (2, .int _), (3, .int _)] rfl ?_
          exact ih_4 (j + 1) (by omega) (by omega) _ _  (by (first | exact congrArg (_ + ·) (if_pos b_16) | exact congrArg (_ + ·) (if_neg b_16))) (by exact (nI_1 j).symm)
  exact L_4 (N + 1) 0 (by omega) (by omega) _ _  (by rfl) (by exact nI_0)
set_option maxHeartbeats 4000000 in
set_option maxRecDepth 100000 in
theorem e_X5_greatestLightOf (k : Nat) (N : Nat) (μ : Mm) (hN : μ 93 5 = nI N) (h384 : N ≤ 384) (hk : k < 8) : EvN ΛC mX5_greatestLightOf [.ref 93, .int (nI k)] μ (qE (mxlN μ k N) μ) := by
  refine EvN_ofQ (by decide +kernel) rfl (fun _ => rfl) (fun _ => Nat.le_of_ble_eq_true rfl) (ls := [(0, .ref 93), (1, .int (nI k))]) ?_
  refine X_iconst 0 (0) dX5_greatestLightOf_0 (by decide) ?_
  refine X_istore_n 1 [(2, .int _), (0, .ref _), (1, .int _)] dX5_greatestLightOf_1 rfl (by decide) rfl ?_
  refine X_iconst 2 (0) dX5_greatestLightOf_2 (by decide) ?_
  refine X_istore_n 3 [(3, .int _), (2, .int _), (0, .ref _), (1, .int _)] dX5_greatestLightOf_3 rfl (by decide) rfl ?_
  refine X_sub [2, 3, 1, 0] [(0, .ref _), (1, .int _), (2, .int _), (3, .int _)] rfl ?_
  have L_4 : ∀ (kf : Nat) (j : Nat), j ≤ N → N < j + kf → ∀ (x4_2 : Int32) (x4_3 : Int32), mxlN μ k j = x4_2 → nI j = x4_3 → X false ΛC mX5_greatestLightOf (QN (qE (mxlN μ k N) μ)) 4 [(0, .ref 93), (1, .int (nI k)), (2, .int x4_2), (3, .int x4_3)] [] μ := by
    intro kf
    induction kf with
    | zero => intro j hp4_0 hp4_1; exfalso; omega
    | succ kf ih_4 =>
      intro j hp4_0 hp4_1 x4_2 x4_3
      rintro rfl rfl
      refine X_iload_n 4 3 dX5_greatestLightOf_4 rfl rfl ?_
      refine X_aload_n 5 0 dX5_greatestLightOf_5 rfl rfl ?_
      refine X_getI (f := 5) 6 dX5_greatestLightOf_6 lf_RX5_50 iw5 vc5 (by decide) lyV rfl ?_
      refine X_icmp_ge 9 50 dX5_greatestLightOf_9 (by decide) (fun c_9 => ?_) (fun c_9 => ?_)
      · have hge : N ≤ j := c_ge hN (by omega) (by omega) c_9
        have hie : j = N := by omega
        subst hie
        refine X_iload_n 50 2 dX5_greatestLightOf_50 rfl rfl ?_
        refine X_iret 51 dX5_greatestLightOf_51 rfl rfl ⟨_, rfl, _, rfl, ?_⟩
        exact ⟨rfl, rfl⟩
      · have hlt : j < N := c_lt hN (by omega) (by omega) c_9
        refine X_aload_n 12 0 dX5_greatestLightOf_12 rfl rfl ?_
        refine X_iload_n 13 1 dX5_greatestLightOf_13 rfl rfl ?_
        refine X_iload_n 14 3 dX5_greatestLightOf_14 rfl rfl ?_
        refine X_cVI 15 [.int _, .int _] (e_X5_isCovered _ _ _ (by first | omega | assumption)) dX5_greatestLightOf_15 lm_RX5_100 2 ⟨wm_X5_isCovered, by decide +kernel, rfl, rfl⟩ rfl ⟨Nat.le_of_ble_eq_true rfl, Nat.le_of_ble_eq_true rfl⟩ lyV vc5 rfl rfl (Nat.le_of_ble_eq_true rfl) ?_
        rintro _ _ ⟨rfl, ⟨rfl, b_15⟩ | ⟨rfl, b_15⟩⟩
        · refine X_if_eq 18 42 dX5_greatestLightOf_18 (by decide) (fun c_0 => by exact absurd c_0 (by decide)) (fun _ => ?_)
          refine X_iload_n 21 2 dX5_greatestLightOf_21 rfl rfl ?_
          refine X_aload_n 22 0 dX5_greatestLightOf_22 rfl rfl ?_
          refine X_getR (f := 1) 23 dX5_greatestLightOf_23 lf_RX5_23 iw5 vc5 (by decide) lyV rfl ?_
          refine X_sipush 26 (384) dX5_greatestLightOf_26 (by decide) ?_
          refine X_iload_n 29 1 dX5_greatestLightOf_29 rfl rfl ?_
          refine X_imul 30 dX5_greatestLightOf_30 ?_
          refine X_iload_n 31 3 dX5_greatestLightOf_31 rfl rfl ?_
          refine X_iadd 32 dX5_greatestLightOf_32 ?_
          rw [m384]
          refine X_cVI 33 [.int _] (e_X3_get 94 98 3072 rV_lt _ _) dX5_greatestLightOf_33 lm_RX5_93 1 ⟨wm_X3_get, by decide +kernel, rfl, rfl⟩ rfl ⟨Nat.le_of_ble_eq_true rfl, Nat.le_of_ble_eq_true rfl⟩ rV_lt.1 vc3 rfl rfl (Nat.le_of_ble_eq_true rfl) ?_
          rintro _ _ ⟨rfl, rfl⟩
          rw [gt_nI (by omega) (by decide)]
          refine X_mmax 36 dX5_greatestLightOf_36 kw_630 kw_572 kw_42 kw_573 ⟨Nat.le_of_ble_eq_true rfl, Nat.le_of_ble_eq_true rfl⟩ ?_
          refine X_goto 39 43 dX5_greatestLightOf_39 (by decide) ?_
          refine X_istore_n 43 [(2, .int _), (0, .ref _), (1, .int _), (3, .int _)] dX5_greatestLightOf_43 rfl (by decide) rfl ?_
          refine X_iinc 44 3 (_ + 1) [(3, .int _), (2, .int _), (0, .ref _), (1, .int _)] dX5_greatestLightOf_44 rfl rfl (by decide) rfl ?_
          refine X_goto 47 4 dX5_greatestLightOf_47 (by decide) ?_
          refine X_sub [2, 3, 1, 0] [(0, .ref _), (1, .int _), (2, .int _), (3, .int _)] rfl ?_
          exact ih_4 (j + 1) (by omega) (by omega) _ _  (by (first | exact if_pos b_15 | exact if_neg b_15)) (by exact (nI_1 j).symm)
        · refine X_if_eq 18 42 dX5_greatestLightOf_18 (by decide) (fun _ => ?_) (fun c_0 => by exact absurd c_0 (by decide))
          refine X_iload_n 42 2 dX5_greatestLightOf_42 rfl rfl ?_
          refine X_istore_n 43 [(2, .int _), (0, .ref _), (1, .int _), (3, .int _)] dX5_greatestLightOf_43 rfl (by decide) rfl ?_
          refine X_iinc 44 3 (_ + 1) [(3, .int _), (2, .int _), (0, .ref _), (1, .int _)] dX5_greatestLightOf_44 rfl rfl (by decide) rfl ?_
          refine X_goto 47 4 dX5_greatestLightOf_47 (by decide) ?_
          refine X_sub [2, 3, 1, 0] [(0, .ref _), (1, .int _), (2, .int _), (3, .int _)] rfl ?_
          exact ih_4 (j + 1) (by omega) (by omega) _ _  (by (first | exact if_pos b_15 | exact if_neg b_15)) (by exact (nI_1 j).symm)
  exact L_4 (N + 1) 0 (by omega) (by omega) _ _  (by rfl) (by exact nI_0)
set_option maxHeartbeats 4000000 in
set_option maxRecDepth 100000 in
theorem e_X5_wrongPlaces (N : Nat) (μ : Mm) (hN : μ 93 5 = nI N) (h384 : N ≤ 384) : EvN ΛC mX5_wrongPlaces [.ref 93] μ (qE (nI N - pstN μ 0 N) μ) := by
  refine EvN_ofQ (by decide +kernel) rfl (fun _ => rfl) (fun _ => Nat.le_of_ble_eq_true rfl) (ls := [(0, .ref 93)]) ?_
  refine X_aload_n 0 0 dX5_wrongPlaces_0 rfl rfl ?_
  refine X_getI (f := 5) 1 dX5_wrongPlaces_1 lf_RX5_50 iw5 vc5 (by decide) lyV rfl ?_
  rw [hN]
  refine X_aload_n 4 0 dX5_wrongPlaces_4 rfl rfl ?_
  refine X_iconst 5 (0) dX5_wrongPlaces_5 (by decide) ?_
  refine X_cVI 6 [.int _] (e_X5_placesInState _ _ _ (by first | omega | assumption) (by first | omega | assumption)) dX5_wrongPlaces_6 lm_RX5_108 1 ⟨wm_X5_placesInState, by decide +kernel, rfl, rfl⟩ rfl ⟨Nat.le_of_ble_eq_true rfl, Nat.le_of_ble_eq_true rfl⟩ lyV vc5 rfl rfl (Nat.le_of_ble_eq_true rfl) ?_
  rintro _ _ ⟨rfl, rfl⟩
  refine X_isub 9 dX5_wrongPlaces_9 ?_
  refine X_iret 10 dX5_wrongPlaces_10 rfl rfl ⟨_, rfl, _, rfl, ?_⟩
  exact ⟨rfl, rfl⟩
set_option maxHeartbeats 4000000 in
set_option maxRecDepth 100000 in
theorem e_X5_loadOf (k N : Nat) (z : Int32) (μ : Mm) (hN : μ 93 5 = nI N) (h384 : N ≤ 384) (hk : k < 8) : EvN ΛC mX5_loadOf [.ref 93, .int (nI k), .int z] μ (qE (ldN μ k N z) μ) := by
  refine EvN_ofQ (by decide +kernel) rfl (fun _ => rfl) (fun _ => Nat.le_of_ble_eq_true rfl) (ls := [(0, .ref 93), (1, .int (nI k)), (2, .int z)]) ?_
  refine X_aload_n 0 0 dX5_loadOf_0 rfl rfl ?_
  refine X_iload_n 1 1 dX5_loadOf_1 rfl rfl ?_
  refine X_cVI 2 [.int _] (e_X5_placesOf k N _ hN h384 hk) dX5_loadOf_2 lm_RX5_116 1 ⟨wm_X5_placesOf, by decide +kernel, rfl, rfl⟩ rfl ⟨Nat.le_of_ble_eq_true rfl, Nat.le_of_ble_eq_true rfl⟩ lyV vc5 rfl rfl (Nat.le_of_ble_eq_true rfl) ?_
  rintro _ _ ⟨rfl, rfl⟩
  refine X_iload_n 5 2 dX5_loadOf_5 rfl rfl ?_
  refine X_imul 6 dX5_loadOf_6 ?_
  refine X_istore_n 7 [(3, .int _), (0, .ref _), (1, .int _), (2, .int _)] dX5_loadOf_7 rfl (by decide) rfl ?_
  refine X_iload_n 8 0 dX5_loadOf_8 rfl rfl ?_
  refine X_if_le 9 25 dX5_loadOf_9 (by decide) (fun c_9 => ?_) (fun c_9 => ?_)
  · refine X_iconst 25 (0) dX5_loadOf_25 (by decide) ?_
    refine X_iret 26 dX5_loadOf_26 rfl rfl ⟨_, rfl, _, rfl, ?_⟩
    first | exact ⟨if_pos c_9, rfl⟩ | exact ⟨if_neg c_9, rfl⟩
  · refine X_bipush 12 (100) dX5_loadOf_12 (by decide) ?_
    refine X_aload_n 14 1 dX5_loadOf_14 rfl rfl ?_
    refine X_iload_n 15 2 dX5_loadOf_15 rfl rfl ?_
    refine X_cVI 16 [.int _] (e_X5_sumOfLights k N _ hN h384 hk) dX5_loadOf_16 lm_RX5_119 1 ⟨wm_X5_sumOfLights, by decide +kernel, rfl, rfl⟩ rfl ⟨Nat.le_of_ble_eq_true rfl, Nat.le_of_ble_eq_true rfl⟩ lyV vc5 rfl rfl (Nat.le_of_ble_eq_true rfl) ?_
    rintro _ _ ⟨rfl, rfl⟩
    refine X_imul 19 dX5_loadOf_19 ?_
    refine X_iload_n 20 0 dX5_loadOf_20 rfl rfl ?_
    refine X_idiv 21 dX5_loadOf_21 (ne_of_pos c_9) ?_
    refine X_goto 22 26 dX5_loadOf_22 (by decide) ?_
    refine X_iret 26 dX5_loadOf_26 rfl rfl ⟨_, rfl, _, rfl, ?_⟩
    first | exact ⟨if_pos c_9, rfl⟩ | exact ⟨if_neg c_9, rfl⟩
set_option maxHeartbeats 4000000 in
set_option maxRecDepth 100000 in
theorem e_X5_keepPlace (N : Nat) (μ : Mm) (hN : μ 93 5 = nI N) (h384 : N < 384) : EvN ΛC mX5_keepPlace [.ref 93] μ (qV (fun μ' => kpM μ N = μ')) := by
  refine EvN_ofQ (by decide +kernel) rfl (fun _ => rfl) (fun _ => Nat.le_of_ble_eq_true rfl) (ls := [(0, .ref 93)]) ?_
  refine X_aload_n 0 0 dX5_keepPlace_0 rfl rfl ?_
  refine X_getR (f := 2) 1 dX5_keepPlace_1 lf_RX5_27 iw5 vc5 (by decide) lyV rfl ?_
  refine X_aload_n 4 0 dX5_keepPlace_4 rfl rfl ?_
  refine X_getI (f := 5) 5 dX5_keepPlace_5 lf_RX5_50 iw5 vc5 (by decide) lyV rfl ?_
  rw [hN]
  refine X_aload_n 8 0 dX5_keepPlace_8 rfl rfl ?_
  refine X_getR (f := 0) 9 dX5_keepPlace_9 lf_RX5_12 iw5 vc5 (by decide) lyV rfl ?_
  refine X_getI (f := 5) 12 dX5_keepPlace_12 lf_RX5_81 iw1 vc1 (by decide) (lyD 75 (Or.inl rfl)) rfl ?_
  refine X_cVV 15 [.int _, .int _] (e_X3_set 95 99 384 rV_cv _ _ _) dX5_keepPlace_15 lm_RX5_83 2 ⟨wm_X3_set, by decide +kernel, rfl, rfl⟩ rfl ⟨Nat.le_of_ble_eq_true rfl, Nat.le_of_ble_eq_true rfl⟩ rV_cv.1 vc3 rfl rfl (Nat.le_of_ble_eq_true rfl) ?_
  rintro _ rfl
  rw [stR_nI h384 (by decide)]
  refine X_aload_n 18 0 dX5_keepPlace_18 rfl rfl ?_
  refine X_getR (f := 3) 19 dX5_keepPlace_19 lf_RX5_30 iw5 vc5 (by decide) lyV rfl ?_
  refine X_aload_n 22 0 dX5_keepPlace_22 rfl rfl ?_
  refine X_getI (f := 5) 23 dX5_keepPlace_23 lf_RX5_50 iw5 vc5 (by decide) lyV rfl ?_
  rw [uM_n (by omega), hN]
  refine X_aload_n 26 0 dX5_keepPlace_26 rfl rfl ?_
  refine X_getR (f := 0) 27 dX5_keepPlace_27 lf_RX5_12 iw5 vc5 (by decide) lyV rfl ?_
  refine X_getI (f := 6) 30 dX5_keepPlace_30 lf_RX5_87 iw1 vc1 (by decide) (lyD 75 (Or.inl rfl)) rfl ?_
  rw [uM_n (by omega)]
  refine X_cVV 33 [.int _, .int _] (e_X3_set 96 100 384 rV_br _ _ _) dX5_keepPlace_33 lm_RX5_83 2 ⟨wm_X3_set, by decide +kernel, rfl, rfl⟩ rfl ⟨Nat.le_of_ble_eq_true rfl, Nat.le_of_ble_eq_true rfl⟩ rV_br.1 vc3 rfl rfl (Nat.le_of_ble_eq_true rfl) ?_
  rintro _ rfl
  rw [stR_nI h384 (by decide)]
  refine X_aload_n 36 0 dX5_keepPlace_36 rfl rfl ?_
  refine X_getR (f := 4) 37 dX5_keepPlace_37 lf_RX5_33 iw5 vc5 (by decide) lyV rfl ?_
  refine X_aload_n 40 0 dX5_keepPlace_40 rfl rfl ?_
  refine X_getI (f := 5) 41 dX5_keepPlace_41 lf_RX5_50 iw5 vc5 (by decide) lyV rfl ?_
  rw [uM_n (by omega), uM_n (by omega), hN]
  refine X_aload_n 44 0 dX5_keepPlace_44 rfl rfl ?_
  refine X_getR (f := 0) 45 dX5_keepPlace_45 lf_RX5_12 iw5 vc5 (by decide) lyV rfl ?_
  refine X_getI (f := 7) 48 dX5_keepPlace_48 lf_RX5_89 iw1 vc1 (by decide) (lyD 75 (Or.inl rfl)) rfl ?_
  rw [uM_n (by omega), uM_n (by omega)]
  refine X_cVV 51 [.int _, .int _] (e_X3_set 97 101 384 rV_st _ _ _) dX5_keepPlace_51 lm_RX5_83 2 ⟨wm_X3_set, by decide +kernel, rfl, rfl⟩ rfl ⟨Nat.le_of_ble_eq_true rfl, Nat.le_of_ble_eq_true rfl⟩ rV_st.1 vc3 rfl rfl (Nat.le_of_ble_eq_true rfl) ?_
  rintro _ rfl
  rw [stR_nI h384 (by decide)]
  refine X_iconst 54 (0) dX5_keepPlace_54 (by decide) ?_
  refine X_istore_n 55 [(1, .int _), (0, .ref _)] dX5_keepPlace_55 rfl (by decide) rfl ?_
  refine X_sub [1, 0] [(0, .ref _), (1, .int _)] rfl ?_
  have L_56 : ∀ (kf : Nat) (i : Nat), i ≤ 8 → 8 < i + kf → ∀ (x56_1 : Int32) (μ56 : Mm), nI i = x56_1 → klN μ N i = μ56 → X false ΛC mX5_keepPlace (QN (qV (fun μ' => kpM μ N = μ'))) 56 [(0, .ref 93), (1, .int x56_1)] [] μ56 := by
    intro kf
    induction kf with
    | zero => intro i hp56_0 hp56_1; exfalso; omega
    | succ kf ih_56 =>
      intro i hp56_0 hp56_1 x56_1 μ56
      rintro rfl rfl
      have hNi : klN μ N i 93 5 = nI N := (klN_out (by omega) i).trans hN
      refine X_iload_n 56 1 dX5_keepPlace_56 rfl rfl ?_
      refine X_bipush 57 (8) dX5_keepPlace_57 (by decide) ?_
      refine X_icmp_ge 59 96 dX5_keepPlace_59 (by decide) (fun c_59 => ?_) (fun c_59 => ?_)
      · have hge : 8 ≤ i := c_ge rfl (by decide) (by omega) c_59
        have hie : i = 8 := by omega
        subst hie
        refine X_aload_n 96 0 dX5_keepPlace_96 rfl rfl ?_
        refine X_dupr 97 dX5_keepPlace_97 ?_
        refine X_getI (f := 5) 98 dX5_keepPlace_98 lf_RX5_50 iw5 vc5 (by decide) lyV rfl ?_
        have hN8 : klN μ N 8 93 5 = nI N := (klN_out (by omega) 8).trans hN
        rw [hN8]
        refine X_iconst 101 (1) dX5_keepPlace_101 (by decide) ?_
        refine X_iadd 102 dX5_keepPlace_102 ?_
        rw [nI_1]
        refine X_putI (f := 5) 103 dX5_keepPlace_103 lf_RX5_50 iw5 vc5 (by decide) lyV tyX5_ok nmX5 rfl rfl rfl (by decide) rfl rfl ?_
        refine X_vret 106 dX5_keepPlace_106 rfl ⟨_, rfl, rfl, ?_⟩
        rfl
      · have hlt : i < 8 := c_lt rfl (by decide) (by omega) c_59
        refine X_aload_n 62 0 dX5_keepPlace_62 rfl rfl ?_
        refine X_getR (f := 1) 63 dX5_keepPlace_63 lf_RX5_23 iw5 vc5 (by decide) lyV rfl ?_
        refine X_sipush 66 (384) dX5_keepPlace_66 (by decide) ?_
        refine X_iload_n 69 1 dX5_keepPlace_69 rfl rfl ?_
        refine X_imul 70 dX5_keepPlace_70 ?_
        refine X_aload_n 71 0 dX5_keepPlace_71 rfl rfl ?_
        refine X_getI (f := 5) 72 dX5_keepPlace_72 lf_RX5_50 iw5 vc5 (by decide) lyV rfl ?_
        rw [hNi]
        refine X_iadd 75 dX5_keepPlace_75 ?_
        rw [m384]
        refine X_aload_n 76 0 dX5_keepPlace_76 rfl rfl ?_
        refine X_getR (f := 0) 77 dX5_keepPlace_77 lf_RX5_12 iw5 vc5 (by decide) lyV rfl ?_
        refine X_getR (f := 3) 80 dX5_keepPlace_80 lf_RX5_92 iw1 vc1 (by decide) (lyD 75 (Or.inl rfl)) rfl ?_
        refine X_iload_n 83 1 dX5_keepPlace_83 rfl rfl ?_
        refine X_cVI 84 [.int _] (e_X3_get ((75 + 4)) ((75 + 8)) 8 (rD_lt 75 (Or.inl rfl)) _ _) dX5_keepPlace_84 lm_RX5_93 1 ⟨wm_X3_get, by decide +kernel, rfl, rfl⟩ rfl ⟨Nat.le_of_ble_eq_true rfl, Nat.le_of_ble_eq_true rfl⟩ (rD_lt 75 (Or.inl rfl)).1 vc3 rfl rfl (Nat.le_of_ble_eq_true rfl) ?_
        rintro _ _ ⟨rfl, rfl⟩
        rw [gt_nI hlt (by decide), klN_out (by omega)]
        refine X_cVV 87 [.int _, .int _] (e_X3_set 94 98 3072 rV_lt _ _ _) dX5_keepPlace_87 lm_RX5_83 2 ⟨wm_X3_set, by decide +kernel, rfl, rfl⟩ rfl ⟨Nat.le_of_ble_eq_true rfl, Nat.le_of_ble_eq_true rfl⟩ rV_lt.1 vc3 rfl rfl (Nat.le_of_ble_eq_true rfl) ?_
        rintro _ rfl
        rw [stR_nI (by omega) (by decide)]
        refine X_iinc 90 1 (_ + 1) [(1, .int _), (0, .ref _)] dX5_keepPlace_90 rfl rfl (by decide) rfl ?_
        refine X_goto 93 56 dX5_keepPlace_93 (by decide) ?_
        refine X_sub [1, 0] [(0, .ref _), (1, .int _)] rfl ?_
        exact ih_56 (i + 1) (by omega) (by omega) _ _  (by exact (nI_1 i).symm) (by rfl)
  exact L_56 9 0 (by omega) (by omega) _ _  (by exact nI_0) (by rfl)
