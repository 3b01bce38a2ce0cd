set_option maxHeartbeats 4000000 in
set_option maxRecDepth 100000 in
theorem e_J0_coder_7d493 (i : Nat) (hi : i < nST) (μ : Mm) : EvN ΛC mJ0_coder_7d493 [.ref (1000 + i)] μ (qE 0 μ) := by
  refine EvN_ofQ (by decide +kernel) rfl (fun _ => rfl) (fun _ => Nat.le_of_ble_eq_true rfl) (ls := [(0, .ref (1000 + i))]) ?_
  refine X_getZ 0 dJ0_coder_7d493_0 kw_985 ?_
  refine X_if_eq 3 13 dJ0_coder_7d493_3 (by decide) (fun c_0 => by exact absurd c_0 (by decide)) (fun _ => ?_)
  refine X_aload_n 6 0 dJ0_coder_7d493_6 rfl rfl ?_
  refine X_getSc 7 dJ0_coder_7d493_7 kw_1121 (by first | assumption | decide) ?_
  refine X_goto 10 14 dJ0_coder_7d493_10 (by decide) ?_
  refine X_iret 14 dJ0_coder_7d493_14 rfl rfl ⟨_, rfl, _, rfl, ?_⟩
  exact ⟨rfl, rfl⟩
set_option maxHeartbeats 4000000 in
set_option maxRecDepth 100000 in
theorem e_J0_isLatin1_aae02 (i : Nat) (hi : i < nST) (μ : Mm) : EvN ΛC mJ0_isLatin1_aae02 [.ref (1000 + i)] μ (qE 1 μ) := by
  refine EvN_ofQ (by decide +kernel) rfl (fun _ => rfl) (fun _ => Nat.le_of_ble_eq_true rfl) (ls := [(0, .ref (1000 + i))]) ?_
  refine X_getZ 0 dJ0_isLatin1_aae02_0 kw_985 ?_
  refine X_if_eq 3 17 dJ0_isLatin1_aae02_3 (by decide) (fun c_0 => by exact absurd c_0 (by decide)) (fun _ => ?_)
  refine X_aload_n 6 0 dJ0_isLatin1_aae02_6 rfl rfl ?_
  refine X_getSc 7 dJ0_isLatin1_aae02_7 kw_1121 (by first | assumption | decide) ?_
  refine X_if_ne 10 17 dJ0_isLatin1_aae02_10 (by decide) (fun c_0 => by exact absurd c_0 (by decide)) (fun _ => ?_)
  refine X_iconst 13 (1) dJ0_isLatin1_aae02_13 (by decide) ?_
  refine X_goto 14 18 dJ0_isLatin1_aae02_14 (by decide) ?_
  refine X_iret 18 dJ0_isLatin1_aae02_18 rfl rfl ⟨_, rfl, _, rfl, ?_⟩
  exact ⟨rfl, rfl⟩
set_option maxHeartbeats 4000000 in
set_option maxRecDepth 100000 in
theorem e_J0_length_8abf5 (i : Nat) (hi : i < nST) (μ : Mm) : EvN ΛC mJ0_length_8abf5 [.ref (1000 + i)] μ (qE (nI (lnS i)) μ) := by
  refine EvN_ofQ (by decide +kernel) rfl (fun _ => rfl) (fun _ => Nat.le_of_ble_eq_true rfl) (ls := [(0, .ref (1000 + i))]) ?_
  refine X_aload_n 0 0 dJ0_length_8abf5_0 rfl rfl ?_
  refine X_getSv 1 dJ0_length_8abf5_1 kw_1120 (by first | assumption | decide) ?_
  refine X_lenB 4 dJ0_length_8abf5_4 (by first | assumption | decide) ?_
  refine X_aload_n 5 0 dJ0_length_8abf5_5 rfl rfl ?_
  refine X_cTI 6 [] (e_J0_coder_7d493 i (by first | assumption | decide) _) dJ0_length_8abf5_6 lm_RJ0_335 0 ⟨wm_J0_coder_7d493, by decide +kernel, rfl, rfl⟩ rfl ⟨Nat.le_of_ble_eq_true rfl, Nat.le_of_ble_eq_true rfl⟩ (by first | assumption | decide) rfl rfl (Nat.le_of_ble_eq_true rfl) ?_
  rintro _ _ ⟨rfl, rfl⟩
  refine X_ishr 9 dJ0_length_8abf5_9 ?_
  refine X_iret 10 dJ0_length_8abf5_10 rfl rfl ⟨_, rfl, _, rfl, ?_⟩
  exact ⟨(lnS_sh hi).symm, rfl⟩
set_option maxHeartbeats 4000000 in
set_option maxRecDepth 100000 in
theorem e_J3_n (i n : Int32) (μ : Mm) (h1 : ¬ i < 0) (h2 : i < n) : EvN ΛC mJ3_checkIndex_8e157 [.int i, .int n, .null] μ (qE i μ) := by
  refine EvN_ofQ (by decide +kernel) rfl (fun _ => rfl) (fun _ => Nat.le_of_ble_eq_true rfl) (ls := [(0, .int i), (1, .int n), (2, .null)]) ?_
  refine X_iload_n 0 0 dJ3_checkIndex_8e157_0 rfl rfl ?_
  refine X_if_lt 1 9 dJ3_checkIndex_8e157_1 (by decide) (fun c_1 => ?_) (fun c_1 => ?_)
  · exact absurd c_1 h1
  · refine X_iload_n 4 0 dJ3_checkIndex_8e157_4 rfl rfl ?_
    refine X_iload_n 5 1 dJ3_checkIndex_8e157_5 rfl rfl ?_
    refine X_icmp_lt 6 16 dJ3_checkIndex_8e157_6 (by decide) (fun c_6 => ?_) (fun c_6 => ?_)
    · refine X_iload_n 16 0 dJ3_checkIndex_8e157_16 rfl rfl ?_
      refine X_iret 17 dJ3_checkIndex_8e157_17 rfl rfl ⟨_, rfl, _, rfl, ?_⟩
      exact ⟨rfl, rfl⟩
    · exact absurd h2 c_6
set_option maxHeartbeats 4000000 in
set_option maxRecDepth 100000 in
theorem e_J3_r (i n : Int32) (μ : Mm) (h1 : ¬ i < 0) (h2 : i < n) : EvN ΛC mJ3_checkIndex_8e157 [.int i, .int n, .ref 3000] μ (qE i μ) := by
  refine EvN_ofQ (by decide +kernel) rfl (fun _ => rfl) (fun _ => Nat.le_of_ble_eq_true rfl) (ls := [(0, .int i), (1, .int n), (2, .ref 3000)]) ?_
  refine X_iload_n 0 0 dJ3_checkIndex_8e157_0 rfl rfl ?_
  refine X_if_lt 1 9 dJ3_checkIndex_8e157_1 (by decide) (fun c_1 => ?_) (fun c_1 => ?_)
  · exact absurd c_1 h1
  · refine X_iload_n 4 0 dJ3_checkIndex_8e157_4 rfl rfl ?_
    refine X_iload_n 5 1 dJ3_checkIndex_8e157_5 rfl rfl ?_
    refine X_icmp_lt 6 16 dJ3_checkIndex_8e157_6 (by decide) (fun c_6 => ?_) (fun c_6 => ?_)
    · refine X_iload_n 16 0 dJ3_checkIndex_8e157_16 rfl rfl ?_
      refine X_iret 17 dJ3_checkIndex_8e157_17 rfl rfl ⟨_, rfl, _, rfl, ?_⟩
      exact ⟨rfl, rfl⟩
    · exact absurd h2 c_6
set_option maxHeartbeats 4000000 in
set_option maxRecDepth 100000 in
theorem e_J0_checkIndex_df160 (i n : Int32) (μ : Mm) (h1 : ¬ i < 0) (h2 : i < n) : EvN ΛC mJ0_checkIndex_df160 [.int i, .int n] μ (qV (fun μ' => μ = μ')) := by
  refine EvN_ofQ (by decide +kernel) rfl (fun _ => rfl) (fun _ => Nat.le_of_ble_eq_true rfl) (ls := [(0, .int i), (1, .int n)]) ?_
  refine X_iload_n 0 0 dJ0_checkIndex_df160_0 rfl rfl ?_
  refine X_iload_n 1 1 dJ0_checkIndex_df160_1 rfl rfl ?_
  refine X_getFm 2 dJ0_checkIndex_df160_2 kw_1001 ?_ ?_
  · refine X_cSI 5 [.int _, .int _, .null] (e_J3_n _ _ _ (by first | omega | assumption) (by first | omega | assumption)) dJ0_checkIndex_df160_5 lm_RJ0_1059 3 ⟨wm_J3_checkIndex_8e157, by decide +kernel, rfl, rfl⟩ rfl ⟨Nat.le_of_ble_eq_true rfl, Nat.le_of_ble_eq_true rfl⟩ rfl (Nat.le_of_ble_eq_true rfl) ?_
    rintro _ _ ⟨rfl, rfl⟩
    refine X_popi 8 dJ0_checkIndex_df160_8 ?_
    refine X_vret 9 dJ0_checkIndex_df160_9 rfl ⟨_, rfl, rfl, ?_⟩
    rfl
  · refine X_cSI 5 [.int _, .int _, .ref _] (e_J3_r _ _ _ (by first | omega | assumption) (by first | omega | assumption)) dJ0_checkIndex_df160_5 lm_RJ0_1059 3 ⟨wm_J3_checkIndex_8e157, by decide +kernel, rfl, rfl⟩ rfl ⟨Nat.le_of_ble_eq_true rfl, Nat.le_of_ble_eq_true rfl⟩ rfl (Nat.le_of_ble_eq_true rfl) ?_
    rintro _ _ ⟨rfl, rfl⟩
    refine X_popi 8 dJ0_checkIndex_df160_8 ?_
    refine X_vret 9 dJ0_checkIndex_df160_9 rfl ⟨_, rfl, rfl, ?_⟩
    rfl
set_option maxHeartbeats 4000000 in
set_option maxRecDepth 100000 in
theorem e_J1_charAt_3b067 (i : Nat) (hi : i < nST) (k : Nat) (μ : Mm) (hk : k < lnS i) : EvN ΛC mJ1_charAt_3b067 [.ref (2000 + i), .int (nI k)] μ (qE (chS i k) μ) := by
  refine EvN_ofQ (by decide +kernel) rfl (fun _ => rfl) (fun _ => Nat.le_of_ble_eq_true rfl) (ls := [(0, .ref (2000 + i)), (1, .int (nI k))]) ?_
  have hl := lnS_lt hi
  refine X_iload_n 0 1 dJ1_charAt_3b067_0 rfl rfl ?_
  refine X_aload_n 1 0 dJ1_charAt_3b067_1 rfl rfl ?_
  refine X_lenB 2 dJ1_charAt_3b067_2 (by first | assumption | decide) ?_
  refine X_cSV 3 [.int _, .int _] (e_J0_checkIndex_df160 _ _ _ (nI_pos (by omega)) (nI_lt hk (by omega))) dJ1_charAt_3b067_3 lm_RJ1_9 2 ⟨wm_J0_checkIndex_df160, by decide +kernel, rfl, rfl⟩ rfl ⟨Nat.le_of_ble_eq_true rfl, Nat.le_of_ble_eq_true rfl⟩ rfl (Nat.le_of_ble_eq_true rfl) ?_
  rintro _ rfl
  refine X_aload_n 6 0 dJ1_charAt_3b067_6 rfl rfl ?_
  refine X_iload_n 7 1 dJ1_charAt_3b067_7 rfl rfl ?_
  refine X_bald 8 dJ1_charAt_3b067_8 (by first | assumption | decide) (vp_in_nI hk (by omega)) ?_
  rw [nI_clamp (by omega)]
  refine X_sipush 9 (255) dJ1_charAt_3b067_9 (by decide) ?_
  refine X_iand 12 dJ1_charAt_3b067_12 ?_
  refine X_i2c 13 dJ1_charAt_3b067_13 (chS_c hi hk) ?_
  refine X_iret 14 dJ1_charAt_3b067_14 rfl (chS_n hi hk) ⟨_, rfl, _, rfl, ?_⟩
  exact ⟨rfl, rfl⟩
set_option maxHeartbeats 4000000 in
set_option maxRecDepth 100000 in
theorem e_J0_charAt_5068e (i : Nat) (hi : i < nST) (k : Nat) (μ : Mm) (hk : k < lnS i) : EvN ΛC mJ0_charAt_5068e [.ref (1000 + i), .int (nI k)] μ (qE (chS i k) μ) := by
  refine EvN_ofQ (by decide +kernel) rfl (fun _ => rfl) (fun _ => Nat.le_of_ble_eq_true rfl) (ls := [(0, .ref (1000 + i)), (1, .int (nI k))]) ?_
  refine X_aload_n 0 0 dJ0_charAt_5068e_0 rfl rfl ?_
  refine X_cTI 1 [] (e_J0_isLatin1_aae02 i (by first | assumption | decide) _) dJ0_charAt_5068e_1 lm_RJ0_492 0 ⟨wm_J0_isLatin1_aae02, by decide +kernel, rfl, rfl⟩ rfl ⟨Nat.le_of_ble_eq_true rfl, Nat.le_of_ble_eq_true rfl⟩ (by first | assumption | decide) rfl rfl (Nat.le_of_ble_eq_true rfl) ?_
  rintro _ _ ⟨rfl, rfl⟩
  refine X_if_eq 4 16 dJ0_charAt_5068e_4 (by decide) (fun c_0 => by exact absurd c_0 (by decide)) (fun _ => ?_)
  refine X_aload_n 7 0 dJ0_charAt_5068e_7 rfl rfl ?_
  refine X_getSv 8 dJ0_charAt_5068e_8 kw_1120 (by first | assumption | decide) ?_
  refine X_iload_n 11 1 dJ0_charAt_5068e_11 rfl rfl ?_
  refine X_cSI 12 [.ref _, .int _] (e_J1_charAt_3b067 i (by first | assumption | decide) _ _ (by first | omega | assumption)) dJ0_charAt_5068e_12 lm_RJ0_495 2 ⟨wm_J1_charAt_3b067, by decide +kernel, rfl, rfl⟩ rfl ⟨Nat.le_of_ble_eq_true rfl, Nat.le_of_ble_eq_true rfl⟩ rfl (Nat.le_of_ble_eq_true rfl) ?_
  rintro _ _ ⟨rfl, rfl⟩
  refine X_iret 15 dJ0_charAt_5068e_15 rfl (chS_n hi hk) ⟨_, rfl, _, rfl, ?_⟩
  exact ⟨rfl, rfl⟩
