set_option maxHeartbeats 4000000 in
set_option maxRecDepth 100000 in
theorem e_X3_get (r a n : Nat) (hr : rowAt r a n) (i : Int32) (μ : Mm) : EvN ΛC mX3_get [.ref r, .int i] μ (qE (gt μ a n i) μ) := by
  refine EvN_ofQ (by decide +kernel) rfl (fun _ => rfl) (fun _ => Nat.le_of_ble_eq_true rfl) (ls := [(0, .ref r), (1, .int i)]) ?_
  refine X_iload_n 0 1 dX3_get_0 rfl rfl ?_
  refine X_if_lt 1 22 dX3_get_1 (by decide) (fun c_1 => ?_) (fun c_1 => ?_)
  · refine X_iconst 22 (0) dX3_get_22 (by decide) ?_
    refine X_iret 23 dX3_get_23 rfl rfl ⟨_, rfl, _, rfl, ?_⟩
    first | exact ⟨gt_in (in_of hr.2.2 c_1 c_10), rfl⟩ | exact ⟨gt_out (in_not1 c_1), rfl⟩ | exact ⟨gt_out (in_not2 hr.2.2 c_10), rfl⟩
  · refine X_iload_n 4 1 dX3_get_4 rfl rfl ?_
    refine X_aload_n 5 0 dX3_get_5 rfl rfl ?_
    refine X_getR (f := 0) 6 dX3_get_6 lf_RX3_7 iw3 vc3 (by decide) hr.1 rfl ?_
    refine X_alen (v := nI n) 9 dX3_get_9 hr.2.1 rfl ?_
    refine X_icmp_ge 10 22 dX3_get_10 (by decide) (fun c_10 => ?_) (fun c_10 => ?_)
    · refine X_iconst 22 (0) dX3_get_22 (by decide) ?_
      refine X_iret 23 dX3_get_23 rfl rfl ⟨_, rfl, _, rfl, ?_⟩
      first | exact ⟨gt_in (in_of hr.2.2 c_1 c_10), rfl⟩ | exact ⟨gt_out (in_not1 c_1), rfl⟩ | exact ⟨gt_out (in_not2 hr.2.2 c_10), rfl⟩
    · refine X_aload_n 13 0 dX3_get_13 rfl rfl ?_
      refine X_getR (f := 0) 14 dX3_get_14 lf_RX3_7 iw3 vc3 (by decide) hr.1 rfl ?_
      refine X_iload_n 17 1 dX3_get_17 rfl rfl ?_
      refine X_iald 18 dX3_get_18 hr.2.1 (in_of hr.2.2 c_1 c_10) ?_
      refine X_goto 19 23 dX3_get_19 (by decide) ?_
      refine X_iret 23 dX3_get_23 rfl rfl ⟨_, rfl, _, rfl, ?_⟩
      first | exact ⟨gt_in (in_of hr.2.2 c_1 c_10), rfl⟩ | exact ⟨gt_out (in_not1 c_1), rfl⟩ | exact ⟨gt_out (in_not2 hr.2.2 c_10), rfl⟩
set_option maxHeartbeats 4000000 in
set_option maxRecDepth 100000 in
theorem e_X3_set (r a n : Nat) (hr : rowAt r a n) (i x : Int32) (μ : Mm) : EvN ΛC mX3_set [.ref r, .int i, .int x] μ (qV (fun μ' => stR μ a n i x = μ')) := by
  refine EvN_ofQ (by decide +kernel) rfl (fun _ => rfl) (fun _ => Nat.le_of_ble_eq_true rfl) (ls := [(0, .ref r), (1, .int i), (2, .int x)]) ?_
  refine X_iload_n 0 1 dX3_set_0 rfl rfl ?_
  refine X_if_lt 1 20 dX3_set_1 (by decide) (fun c_1 => ?_) (fun c_1 => ?_)
  · refine X_vret 20 dX3_set_20 rfl ⟨_, rfl, rfl, ?_⟩
    first | exact stR_in (in_of hr.2.2 c_1 c_10) | exact stR_out (in_not1 c_1) | exact stR_out (in_not2 hr.2.2 c_10)
  · refine X_iload_n 4 1 dX3_set_4 rfl rfl ?_
    refine X_aload_n 5 0 dX3_set_5 rfl rfl ?_
    refine X_getR (f := 0) 6 dX3_set_6 lf_RX3_7 iw3 vc3 (by decide) hr.1 rfl ?_
    refine X_alen (v := nI n) 9 dX3_set_9 hr.2.1 rfl ?_
    refine X_icmp_ge 10 20 dX3_set_10 (by decide) (fun c_10 => ?_) (fun c_10 => ?_)
    · refine X_vret 20 dX3_set_20 rfl ⟨_, rfl, rfl, ?_⟩
      first | exact stR_in (in_of hr.2.2 c_1 c_10) | exact stR_out (in_not1 c_1) | exact stR_out (in_not2 hr.2.2 c_10)
    · refine X_aload_n 13 0 dX3_set_13 rfl rfl ?_
      refine X_getR (f := 0) 14 dX3_set_14 lf_RX3_7 iw3 vc3 (by decide) hr.1 rfl ?_
      refine X_iload_n 17 1 dX3_set_17 rfl rfl ?_
      refine X_iload_n 18 2 dX3_set_18 rfl rfl ?_
      refine X_iast 19 dX3_set_19 hr.2.1 (in_of hr.2.2 c_1 c_10) ?_
      refine X_vret 20 dX3_set_20 rfl ⟨_, rfl, rfl, ?_⟩
      first | exact stR_in (in_of hr.2.2 c_1 c_10) | exact stR_out (in_not1 c_1) | exact stR_out (in_not2 hr.2.2 c_10)
set_option maxHeartbeats 4000000 in
set_option maxRecDepth 100000 in
theorem e_X3_clear (r a n : Nat) (hr : rowAt r a n) (μ : Mm) : EvN ΛC mX3_clear [.ref r] μ (qV (fun μ' => setRow μ a n (fun _ => 0) = μ')) := by
  refine EvN_ofQ (by decide +kernel) rfl (fun _ => rfl) (fun _ => Nat.le_of_ble_eq_true rfl) (ls := [(0, .ref r)]) ?_
  refine X_iconst 0 (0) dX3_clear_0 (by decide) ?_
  refine X_istore_n 1 [(1, .int _), (0, .ref _)] dX3_clear_1 rfl (by decide) rfl ?_
  refine X_sub [1, 0] [(0, .ref _), (1, .int _)] rfl ?_
  have L_2 : ∀ (kf : Nat) (i : Nat), i ≤ n → n < i + kf → ∀ (x2_1 : Int32) (μ2 : Mm), nI i = x2_1 → setRow μ a i (fun _ => 0) = μ2 → X false ΛC mX3_clear (QN (qV (fun μ' => setRow μ a n (fun _ => 0) = μ'))) 2 [(0, .ref r), (1, .int x2_1)] [] μ2 := by
    intro kf
    induction kf with
    | zero => intro i hp2_0 hp2_1; exfalso; omega
    | succ kf ih_2 =>
      intro i hp2_0 hp2_1 x2_1 μ2
      rintro rfl rfl
      refine X_iload_n 2 1 dX3_clear_2 rfl rfl ?_
      refine X_aload_n 3 0 dX3_clear_3 rfl rfl ?_
      refine X_getR (f := 0) 4 dX3_clear_4 lf_RX3_7 iw3 vc3 (by decide) hr.1 rfl ?_
      refine X_alen (v := nI n) 7 dX3_clear_7 hr.2.1 rfl ?_
      refine X_icmp_ge 8 24 dX3_clear_8 (by decide) (fun c_8 => ?_) (fun c_8 => ?_)
      · have hn9 := hr.2.2
        have hge : n ≤ i := c_ge rfl hn9 (by omega) c_8
        have hie : i = n := by omega
        subst hie
        refine X_vret 24 dX3_clear_24 rfl ⟨_, rfl, rfl, ?_⟩
        rfl
      · have hn9 := hr.2.2
        have hlt : i < n := c_lt rfl hn9 (by omega) c_8
        refine X_aload_n 11 0 dX3_clear_11 rfl rfl ?_
        refine X_getR (f := 0) 12 dX3_clear_12 lf_RX3_7 iw3 vc3 (by decide) hr.1 rfl ?_
        refine X_iload_n 15 1 dX3_clear_15 rfl rfl ?_
        refine X_iconst 16 (0) dX3_clear_16 (by decide) ?_
        refine X_iast 17 dX3_clear_17 hr.2.1 (vp_in_nI hlt hn9) ?_
        refine X_iinc 18 1 (_ + 1) [(1, .int _), (0, .ref _)] dX3_clear_18 rfl rfl (by decide) rfl ?_
        refine X_goto 21 2 dX3_clear_21 (by decide) ?_
        refine X_sub [1, 0] [(0, .ref _), (1, .int _)] rfl ?_
        exact ih_2 (i + 1) (by omega) (by omega) _ _  (by exact (nI_1 i).symm) (by rw [nI_clamp (by omega)]; exact (setRow_succ μ a i (fun _ => 0)).symm)
  exact L_2 (n + 1) 0 (by omega) (by omega) _ _  (by exact nI_0) (by exact setRow_0 _ _ _)
set_option maxHeartbeats 4000000 in
set_option maxRecDepth 100000 in
theorem e_X3_copyFrom (r a n : Nat) (hr : rowAt r a n) (r2 a2 n2 : Nat) (hr2 : rowAt r2 a2 n2) (μ : Mm) (hn : n = n2) : EvN ΛC mX3_copyFrom [.ref r, .ref r2] μ (qV (fun μ' => setRow μ a n (μ a2) = μ')) := by
  refine EvN_ofQ (by decide +kernel) rfl (fun _ => rfl) (fun _ => Nat.le_of_ble_eq_true rfl) (ls := [(0, .ref r), (1, .ref r2)]) ?_
  subst hn
  refine X_aload_n 0 1 dX3_copyFrom_0 rfl rfl ?_
  refine X_ifnull 1 dX3_copyFrom_1 ?_
  refine X_iconst 4 (0) dX3_copyFrom_4 (by decide) ?_
  refine X_istore_n 5 [(2, .int _), (0, .ref _), (1, .ref _)] dX3_copyFrom_5 rfl (by decide) rfl ?_
  refine X_sub [1, 2, 0] [(0, .ref _), (1, .ref _), (2, .int _)] rfl ?_
  have L_6 : ∀ (kf : Nat) (i : Nat), i ≤ n → n < i + kf → ∀ (x6_2 : Int32) (μ6 : Mm), nI i = x6_2 → setRow μ a i (μ a2) = μ6 → X false ΛC mX3_copyFrom (QN (qV (fun μ' => setRow μ a n (μ a2) = μ'))) 6 [(0, .ref r), (1, .ref r2), (2, .int x6_2)] [] μ6 := by
    intro kf
    induction kf with
    | zero => intro i hp6_0 hp6_1; exfalso; omega
    | succ kf ih_6 =>
      intro i hp6_0 hp6_1 x6_2 μ6
      rintro rfl rfl
      refine X_iload_n 6 2 dX3_copyFrom_6 rfl rfl ?_
      refine X_aload_n 7 0 dX3_copyFrom_7 rfl rfl ?_
      refine X_getR (f := 0) 8 dX3_copyFrom_8 lf_RX3_7 iw3 vc3 (by decide) hr.1 rfl ?_
      refine X_alen (v := nI n) 11 dX3_copyFrom_11 hr.2.1 rfl ?_
      refine X_icmp_ge 12 42 dX3_copyFrom_12 (by decide) (fun c_12 => ?_) (fun c_12 => ?_)
      · have hn9 := hr.2.2
        have hge : n ≤ i := c_ge rfl hn9 (by omega) c_12
        have hie : i = n := by omega
        subst hie
        refine X_vret 42 dX3_copyFrom_42 rfl ⟨_, rfl, rfl, ?_⟩
        rfl
      · have hn9 := hr.2.2
        have hlt : i < n := c_lt rfl hn9 (by omega) c_12
        refine X_iload_n 15 2 dX3_copyFrom_15 rfl rfl ?_
        refine X_aload_n 16 1 dX3_copyFrom_16 rfl rfl ?_
        refine X_getR (f := 0) 17 dX3_copyFrom_17 lf_RX3_7 iw3 vc3 (by decide) hr2.1 rfl ?_
        refine X_alen (v := nI n) 20 dX3_copyFrom_20 hr2.2.1 rfl ?_
        refine X_icmp_ge 21 42 dX3_copyFrom_21 (by decide) (fun c_21 => ?_) (fun c_21 => ?_)
        · exact absurd (c_ge rfl hn9 (by omega) c_21) (by omega)
        · refine X_aload_n 24 0 dX3_copyFrom_24 rfl rfl ?_
          refine X_getR (f := 0) 25 dX3_copyFrom_25 lf_RX3_7 iw3 vc3 (by decide) hr.1 rfl ?_
          refine X_iload_n 28 2 dX3_copyFrom_28 rfl rfl ?_
          refine X_aload_n 29 1 dX3_copyFrom_29 rfl rfl ?_
          refine X_getR (f := 0) 30 dX3_copyFrom_30 lf_RX3_7 iw3 vc3 (by decide) hr2.1 rfl ?_
          refine X_iload_n 33 2 dX3_copyFrom_33 rfl rfl ?_
          refine X_iald 34 dX3_copyFrom_34 hr2.2.1 (vp_in_nI hlt hn9) ?_
          refine X_iast 35 dX3_copyFrom_35 hr.2.1 (vp_in_nI hlt hn9) ?_
          refine X_iinc 36 2 (_ + 1) [(2, .int _), (0, .ref _), (1, .ref _)] dX3_copyFrom_36 rfl rfl (by decide) rfl ?_
          refine X_goto 39 6 dX3_copyFrom_39 (by decide) ?_
          refine X_sub [1, 2, 0] [(0, .ref _), (1, .ref _), (2, .int _)] rfl ?_
          exact ih_6 (i + 1) (by omega) (by omega) _ _  (by exact (nI_1 i).symm) (by rw [nI_clamp (by omega), setRow_out (by omega)]; exact (setRow_succ μ a i (μ a2)).symm)
  exact L_6 (n + 1) 0 (by omega) (by omega) _ _  (by exact nI_0) (by exact setRow_0 _ _ _)
set_option maxHeartbeats 4000000 in
set_option maxRecDepth 100000 in
theorem e_X6_within (v lo hi : Int32) (μ : Mm) : EvN ΛC mX6_within [.int v, .int lo, .int hi] μ (qB (lo ≤ v ∧ v ≤ hi) μ) := by
  refine EvN_ofQ (by decide +kernel) rfl (fun _ => rfl) (fun _ => Nat.le_of_ble_eq_true rfl) (ls := [(0, .int v), (1, .int lo), (2, .int hi)]) ?_
  refine X_iload_n 0 0 dX6_within_0 rfl rfl ?_
  refine X_iload_n 1 1 dX6_within_1 rfl rfl ?_
  refine X_icmp_lt 2 14 dX6_within_2 (by decide) (fun c_2 => ?_) (fun c_2 => ?_)
  · refine X_iconst 14 (0) dX6_within_14 (by decide) ?_
    refine X_iret 15 dX6_within_15 rfl rfl ⟨_, rfl, _, rfl, ?_⟩
    refine ⟨rfl, Or.inr ⟨rfl, ?_⟩⟩
    first | exact ⟨Int32.not_lt.mp c_2, Int32.not_lt.mp c_7⟩ | exact fun h => absurd c_2 (Int32.not_lt.mpr h.1) | exact fun h => absurd c_7 (Int32.not_lt.mpr h.2)
  · refine X_iload_n 5 0 dX6_within_5 rfl rfl ?_
    refine X_iload_n 6 2 dX6_within_6 rfl rfl ?_
    refine X_icmp_gt 7 14 dX6_within_7 (by decide) (fun c_7 => ?_) (fun c_7 => ?_)
    · refine X_iconst 14 (0) dX6_within_14 (by decide) ?_
      refine X_iret 15 dX6_within_15 rfl rfl ⟨_, rfl, _, rfl, ?_⟩
      refine ⟨rfl, Or.inr ⟨rfl, ?_⟩⟩
      first | exact ⟨Int32.not_lt.mp c_2, Int32.not_lt.mp c_7⟩ | exact fun h => absurd c_2 (Int32.not_lt.mpr h.1) | exact fun h => absurd c_7 (Int32.not_lt.mpr h.2)
    · refine X_iconst 10 (1) dX6_within_10 (by decide) ?_
      refine X_goto 11 15 dX6_within_11 (by decide) ?_
      refine X_iret 15 dX6_within_15 rfl rfl ⟨_, rfl, _, rfl, ?_⟩
      refine ⟨rfl, Or.inl ⟨rfl, ?_⟩⟩
      first | exact ⟨Int32.not_lt.mp c_2, Int32.not_lt.mp c_7⟩ | exact fun h => absurd c_2 (Int32.not_lt.mpr h.1) | exact fun h => absurd c_7 (Int32.not_lt.mpr h.2)
set_option maxHeartbeats 4000000 in
set_option maxRecDepth 100000 in
theorem e_X6_cross (a b c d : Int32) (μ : Mm) : EvN ΛC mX6_cross [.int a, .int b, .int c, .int d] μ (qE (a * d - b * c) μ) := by
  refine EvN_ofQ (by decide +kernel) rfl (fun _ => rfl) (fun _ => Nat.le_of_ble_eq_true rfl) (ls := [(0, .int a), (1, .int b), (2, .int c), (3, .int d)]) ?_
  refine X_iload_n 0 0 dX6_cross_0 rfl rfl ?_
  refine X_iload_n 1 3 dX6_cross_1 rfl rfl ?_
  refine X_imul 2 dX6_cross_2 ?_
  refine X_iload_n 3 1 dX6_cross_3 rfl rfl ?_
  refine X_iload_n 4 2 dX6_cross_4 rfl rfl ?_
  refine X_imul 5 dX6_cross_5 ?_
  refine X_isub 6 dX6_cross_6 ?_
  refine X_iret 7 dX6_cross_7 rfl rfl ⟨_, rfl, _, rfl, ?_⟩
  exact ⟨rfl, rfl⟩
set_option maxHeartbeats 4000000 in
set_option maxRecDepth 100000 in
theorem e_X6_pointOf (a b : Int32) (μ : Mm) : EvN ΛC mX6_pointOf [.int a, .int b] μ (qE (2 * (a + b) + 1) μ) := by
  refine EvN_ofQ (by decide +kernel) rfl (fun _ => rfl) (fun _ => Nat.le_of_ble_eq_true rfl) (ls := [(0, .int a), (1, .int b)]) ?_
  refine X_iconst 0 (2) dX6_pointOf_0 (by decide) ?_
  refine X_iload_n 1 0 dX6_pointOf_1 rfl rfl ?_
  refine X_iload_n 2 1 dX6_pointOf_2 rfl rfl ?_
  refine X_iadd 3 dX6_pointOf_3 ?_
  refine X_imul 4 dX6_pointOf_4 ?_
  refine X_iconst 5 (1) dX6_pointOf_5 (by decide) ?_
  refine X_iadd 6 dX6_pointOf_6 ?_
  refine X_iret 7 dX6_pointOf_7 rfl rfl ⟨_, rfl, _, rfl, ?_⟩
  exact ⟨rfl, rfl⟩
set_option maxHeartbeats 4000000 in
set_option maxRecDepth 100000 in
theorem e_X6_isIn (k : Nat) (z : Int32) (μ : Mm) : EvN ΛC mX6_isIn [.int (nI k), .int z] μ (qB (bitB z k = true) μ) := by
  refine EvN_ofQ (by decide +kernel) rfl (fun _ => rfl) (fun _ => Nat.le_of_ble_eq_true rfl) (ls := [(0, .int (nI k)), (1, .int z)]) ?_
  refine X_iload_n 0 1 dX6_isIn_0 rfl rfl ?_
  refine X_iload_n 1 0 dX6_isIn_1 rfl rfl ?_
  refine X_ishr 2 dX6_isIn_2 ?_
  refine X_iconst 3 (1) dX6_isIn_3 (by decide) ?_
  refine X_iand 4 dX6_isIn_4 ?_
  refine X_iconst 5 (1) dX6_isIn_5 (by decide) ?_
  refine X_icmp_ne 6 13 dX6_isIn_6 (by decide) (fun c_6 => ?_) (fun c_6 => ?_)
  · refine X_iconst 13 (0) dX6_isIn_13 (by decide) ?_
    refine X_iret 14 dX6_isIn_14 rfl rfl ⟨_, rfl, _, rfl, ?_⟩
    refine ⟨rfl, Or.inr ⟨rfl, ?_⟩⟩
    first | exact bitB_t c_6 | exact bitB_f c_6
  · refine X_iconst 9 (1) dX6_isIn_9 (by decide) ?_
    refine X_goto 10 14 dX6_isIn_10 (by decide) ?_
    refine X_iret 14 dX6_isIn_14 rfl rfl ⟨_, rfl, _, rfl, ?_⟩
    refine ⟨rfl, Or.inl ⟨rfl, ?_⟩⟩
    first | exact bitB_t c_6 | exact bitB_f c_6
set_option maxHeartbeats 4000000 in
set_option maxRecDepth 100000 in
theorem e_X4_limitOf (s : Nat) (hs : isS s) (k : Nat) (μ : Mm) (hk : k < 8) : EvN ΛC mX4_limitOf [.ref s, .int (nI k)] μ (qE (lim μ s k) μ) := by
  refine EvN_ofQ (by decide +kernel) rfl (fun _ => rfl) (fun _ => Nat.le_of_ble_eq_true rfl) (ls := [(0, .ref s), (1, .int (nI k))]) ?_
  refine X_aload_n 0 0 dX4_limitOf_0 rfl rfl ?_
  refine X_getR (f := 8) 1 dX4_limitOf_1 lf_RX4_31 iw4 vc4 (by decide) (lyS s hs) rfl ?_
  refine X_iload_n 4 1 dX4_limitOf_4 rfl rfl ?_
  refine X_cVI 5 [.int _] (e_X3_get ((s + 2)) ((s + 9)) 8 (rS_gr s hs) _ _) dX4_limitOf_5 lm_RX4_72 1 ⟨wm_X3_get, by decide +kernel, rfl, rfl⟩ rfl ⟨Nat.le_of_ble_eq_true rfl, Nat.le_of_ble_eq_true rfl⟩ (rS_gr s hs).1 vc3 rfl rfl (Nat.le_of_ble_eq_true rfl) ?_
  rintro _ _ ⟨rfl, rfl⟩
  refine X_sipush 8 (1000) dX4_limitOf_8 (by decide) ?_
  refine X_aload_n 11 0 dX4_limitOf_11 rfl rfl ?_
  refine X_getR (f := 10) 12 dX4_limitOf_12 lf_RX4_37 iw4 vc4 (by decide) (lyS s hs) rfl ?_
  refine X_iload_n 15 1 dX4_limitOf_15 rfl rfl ?_
  refine X_cVI 16 [.int _] (e_X3_get ((s + 4)) ((s + 11)) 8 (rS_we s hs) _ _) dX4_limitOf_16 lm_RX4_72 1 ⟨wm_X3_get, by decide +kernel, rfl, rfl⟩ rfl ⟨Nat.le_of_ble_eq_true rfl, Nat.le_of_ble_eq_true rfl⟩ (rS_we s hs).1 vc3 rfl rfl (Nat.le_of_ble_eq_true rfl) ?_
  rintro _ _ ⟨rfl, rfl⟩
  refine X_isub 19 dX4_limitOf_19 ?_
  refine X_imul 20 dX4_limitOf_20 ?_
  refine X_sipush 21 (1000) dX4_limitOf_21 (by decide) ?_
  refine X_idiv 24 dX4_limitOf_24 (by decide) ?_
  refine X_iret 25 dX4_limitOf_25 rfl rfl ⟨_, rfl, _, rfl, ?_⟩
  exact ⟨by rw [gt_nI hk (by decide), gt_nI hk (by decide)]; rfl, rfl⟩
set_option maxHeartbeats 4000000 in
set_option maxRecDepth 100000 in
theorem e_X4_floorOf (s : Nat) (hs : isS s) (k : Nat) (μ : Mm) (hk : k < 8) : EvN ΛC mX4_floorOf [.ref s, .int (nI k)] μ (qE (flo μ s k) μ) := by
  refine EvN_ofQ (by decide +kernel) rfl (fun _ => rfl) (fun _ => Nat.le_of_ble_eq_true rfl) (ls := [(0, .ref s), (1, .int (nI k))]) ?_
  refine X_aload_n 0 0 dX4_floorOf_0 rfl rfl ?_
  refine X_getR (f := 9) 1 dX4_floorOf_1 lf_RX4_34 iw4 vc4 (by decide) (lyS s hs) rfl ?_
  refine X_iload_n 4 1 dX4_floorOf_4 rfl rfl ?_
  refine X_cVI 5 [.int _] (e_X3_get ((s + 3)) ((s + 10)) 8 (rS_le s hs) _ _) dX4_floorOf_5 lm_RX4_72 1 ⟨wm_X3_get, by decide +kernel, rfl, rfl⟩ rfl ⟨Nat.le_of_ble_eq_true rfl, Nat.le_of_ble_eq_true rfl⟩ (rS_le s hs).1 vc3 rfl rfl (Nat.le_of_ble_eq_true rfl) ?_
  rintro _ _ ⟨rfl, rfl⟩
  refine X_aload_n 8 0 dX4_floorOf_8 rfl rfl ?_
  refine X_iload_n 9 1 dX4_floorOf_9 rfl rfl ?_
  refine X_cVI 10 [.int _] (e_X4_limitOf s hs _ _ (by first | omega | assumption)) dX4_floorOf_10 lm_RX4_92 1 ⟨wm_X4_limitOf, by decide +kernel, rfl, rfl⟩ rfl ⟨Nat.le_of_ble_eq_true rfl, Nat.le_of_ble_eq_true rfl⟩ (lyS s hs) vc4 rfl rfl (Nat.le_of_ble_eq_true rfl) ?_
  rintro _ _ ⟨rfl, rfl⟩
  refine X_mmin 13 dX4_floorOf_13 kw_539 kw_374 kw_42 kw_375 ⟨Nat.le_of_ble_eq_true rfl, Nat.le_of_ble_eq_true rfl⟩ ?_
  refine X_iret 16 dX4_floorOf_16 rfl rfl ⟨_, rfl, _, rfl, ?_⟩
  exact ⟨by rw [gt_nI hk (by decide)]; rfl, rfl⟩
