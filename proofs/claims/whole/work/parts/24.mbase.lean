set_option maxHeartbeats 4000000 in
set_option maxRecDepth 100000 in
theorem e_X7_in (v lo hi : Int32) (μ : Mm) : EvN ΛM mX7_in [.int v, .int lo, .int hi] μ (qB (lo ≤ v ∧ v ≤ hi) μ) := by
  refine EvN_ofQ (by decide +kernel) rfl (fun _ => rfl) (fun _ => Nat.le_of_ble_eq_true rfl) (ls := [(0, .int v), (1, .int lo), (2, .int hi)]) ?_
  refine X_iload_n 0 0 dX7_in_0 rfl rfl ?_
  refine X_iload_n 1 1 dX7_in_1 rfl rfl ?_
  refine X_icmp_lt 2 14 dX7_in_2 (by decide) (fun c_2 => ?_) (fun c_2 => ?_)
  · refine X_iconst 14 (0) dX7_in_14 (by decide) ?_
    refine X_iret 15 dX7_in_15 rfl rfl ⟨_, rfl, _, rfl, ?_⟩
    refine ⟨rfl, Or.inr ⟨rfl, ?_⟩⟩
    first | exact ⟨Int32.not_lt.mp c_2, Int32.not_lt.mp c_7⟩ | exact fun h => absurd c_2 (Int32.not_lt.mpr h.1) | exact fun h => absurd c_7 (Int32.not_lt.mpr h.2)
  · refine X_iload_n 5 0 dX7_in_5 rfl rfl ?_
    refine X_iload_n 6 2 dX7_in_6 rfl rfl ?_
    refine X_icmp_gt 7 14 dX7_in_7 (by decide) (fun c_7 => ?_) (fun c_7 => ?_)
    · refine X_iconst 14 (0) dX7_in_14 (by decide) ?_
      refine X_iret 15 dX7_in_15 rfl rfl ⟨_, rfl, _, rfl, ?_⟩
      refine ⟨rfl, Or.inr ⟨rfl, ?_⟩⟩
      first | exact ⟨Int32.not_lt.mp c_2, Int32.not_lt.mp c_7⟩ | exact fun h => absurd c_2 (Int32.not_lt.mpr h.1) | exact fun h => absurd c_7 (Int32.not_lt.mpr h.2)
    · refine X_iconst 10 (1) dX7_in_10 (by decide) ?_
      refine X_goto 11 15 dX7_in_11 (by decide) ?_
      refine X_iret 15 dX7_in_15 rfl rfl ⟨_, rfl, _, rfl, ?_⟩
      refine ⟨rfl, Or.inl ⟨rfl, ?_⟩⟩
      first | exact ⟨Int32.not_lt.mp c_2, Int32.not_lt.mp c_7⟩ | exact fun h => absurd c_2 (Int32.not_lt.mpr h.1) | exact fun h => absurd c_7 (Int32.not_lt.mpr h.2)
set_option maxHeartbeats 4000000 in
set_option maxRecDepth 100000 in
theorem e_X7_size (v : Int32) (μ : Mm) : EvN ΛM mX7_size [.int v] μ (qE (absI v) μ) := by
  refine EvN_ofQ (by decide +kernel) rfl (fun _ => rfl) (fun _ => Nat.le_of_ble_eq_true rfl) (ls := [(0, .int v)]) ?_
  refine X_iload_n 0 0 dX7_size_0 rfl rfl ?_
  refine X_if_ge 1 9 dX7_size_1 (by decide) (fun c_1 => ?_) (fun c_1 => ?_)
  · refine X_iload_n 9 0 dX7_size_9 rfl rfl ?_
    refine X_iret 10 dX7_size_10 rfl rfl ⟨_, rfl, _, rfl, ?_⟩
    first | exact ⟨if_pos c_1, rfl⟩ | exact ⟨(if_neg c_1).trans (Int32.zero_sub v), rfl⟩
  · refine X_iload_n 4 0 dX7_size_4 rfl rfl ?_
    refine X_ineg 5 dX7_size_5 ?_
    refine X_goto 6 10 dX7_size_6 (by decide) ?_
    refine X_iret 10 dX7_size_10 rfl rfl ⟨_, rfl, _, rfl, ?_⟩
    first | exact ⟨if_pos c_1, rfl⟩ | exact ⟨(if_neg c_1).trans (Int32.zero_sub v), rfl⟩
set_option maxHeartbeats 4000000 in
set_option maxRecDepth 100000 in
theorem e_X7_lesser (a b : Int32) (μ : Mm) : EvN ΛM mX7_lesser [.int a, .int b] μ (qE (if a < b then a else b) μ) := by
  refine EvN_ofQ (by decide +kernel) rfl (fun _ => rfl) (fun _ => Nat.le_of_ble_eq_true rfl) (ls := [(0, .int a), (1, .int b)]) ?_
  refine X_iload_n 0 0 dX7_lesser_0 rfl rfl ?_
  refine X_iload_n 1 1 dX7_lesser_1 rfl rfl ?_
  refine X_icmp_ge 2 9 dX7_lesser_2 (by decide) (fun c_2 => ?_) (fun c_2 => ?_)
  · refine X_iload_n 9 1 dX7_lesser_9 rfl rfl ?_
    refine X_iret 10 dX7_lesser_10 rfl rfl ⟨_, rfl, _, rfl, ?_⟩
    first | exact ⟨if_pos (Int32.not_le.mp c_2), rfl⟩ | exact ⟨if_neg (Int32.not_lt.mpr c_2), rfl⟩
  · refine X_iload_n 5 0 dX7_lesser_5 rfl rfl ?_
    refine X_goto 6 10 dX7_lesser_6 (by decide) ?_
    refine X_iret 10 dX7_lesser_10 rfl rfl ⟨_, rfl, _, rfl, ?_⟩
    first | exact ⟨if_pos (Int32.not_le.mp c_2), rfl⟩ | exact ⟨if_neg (Int32.not_lt.mpr c_2), rfl⟩
set_option maxHeartbeats 4000000 in
set_option maxRecDepth 100000 in
theorem e_X7_fails (v : Int32) (μ : Mm) : EvN ΛM mX7_fails [.ref 0, .int v] μ (qI (fun x μ' => 0 = x ∧ uM μ 0 6 v = μ')) := by
  refine EvN_ofQ (by decide +kernel) rfl (fun _ => rfl) (fun _ => Nat.le_of_ble_eq_true rfl) (ls := [(0, .ref 0), (1, .int v)]) ?_
  refine X_aload_n 0 0 dX7_fails_0 rfl rfl ?_
  refine X_iload_n 1 1 dX7_fails_1 rfl rfl ?_
  refine X_putI (f := 6) 2 dX7_fails_2 lf_RX7_38 iw7 vc7 (by decide) lyM tyX7_ok nmX7 rfl rfl rfl (by decide) rfl rfl ?_
  refine X_iconst 5 (0) dX7_fails_5 (by decide) ?_
  refine X_iret 6 dX7_fails_6 rfl rfl ⟨_, rfl, _, rfl, ?_⟩
  exact ⟨rfl, rfl⟩
set_option maxHeartbeats 4000000 in
set_option maxRecDepth 100000 in
theorem e_X7_tells (v : Int32) (μ : Mm) : EvN ΛM mX7_tells [.ref 0, .int v] μ (qI (fun x μ' => v = x ∧ uM μ 0 6 0 = μ')) := by
  refine EvN_ofQ (by decide +kernel) rfl (fun _ => rfl) (fun _ => Nat.le_of_ble_eq_true rfl) (ls := [(0, .ref 0), (1, .int v)]) ?_
  refine X_aload_n 0 0 dX7_tells_0 rfl rfl ?_
  refine X_iconst 1 (0) dX7_tells_1 (by decide) ?_
  refine X_putI (f := 6) 2 dX7_tells_2 lf_RX7_38 iw7 vc7 (by decide) lyM tyX7_ok nmX7 rfl rfl rfl (by decide) rfl rfl ?_
  refine X_iload_n 5 1 dX7_tells_5 rfl rfl ?_
  refine X_iret 6 dX7_tells_6 rfl rfl ⟨_, rfl, _, rfl, ?_⟩
  exact ⟨rfl, rfl⟩
set_option maxHeartbeats 4000000 in
set_option maxRecDepth 100000 in
theorem e_X7_thrown  (μ : Mm) : EvN ΛM mX7_thrown [.ref 0] μ (qE (μ 0 6) μ) := by
  refine EvN_ofQ (by decide +kernel) rfl (fun _ => rfl) (fun _ => Nat.le_of_ble_eq_true rfl) (ls := [(0, .ref 0)]) ?_
  refine X_aload_n 0 0 dX7_thrown_0 rfl rfl ?_
  refine X_getI (f := 6) 1 dX7_thrown_1 lf_RX7_38 iw7 vc7 (by decide) lyM rfl ?_
  refine X_iret 4 dX7_thrown_4 rfl rfl ⟨_, rfl, _, rfl, ?_⟩
  exact ⟨rfl, rfl⟩
set_option maxHeartbeats 4000000 in
set_option maxRecDepth 100000 in
theorem e_X7_of (k w : Nat) (μ : Mm) (hk : k < 8) (hw : w < 12) : EvN ΛM mX7_of [.ref 0, .int (nI k), .int (nI w)] μ (qE (μ 1 (aL k w)) μ) := by
  refine EvN_ofQ (by decide +kernel) rfl (fun _ => rfl) (fun _ => Nat.le_of_ble_eq_true rfl) (ls := [(0, .ref 0), (1, .int (nI k)), (2, .int (nI w))]) ?_
  refine X_aload_n 0 0 dX7_of_0 rfl rfl ?_
  refine X_getR (f := 0) 1 dX7_of_1 lf_RX7_7 iw7 vc7 (by decide) lyM rfl ?_
  refine X_sipush 4 (390) dX7_of_4 (by decide) ?_
  refine X_bipush 7 (12) dX7_of_7 (by decide) ?_
  refine X_iload_n 9 1 dX7_of_9 rfl rfl ?_
  refine X_imul 10 dX7_of_10 ?_
  refine X_iadd 11 dX7_of_11 ?_
  refine X_iload_n 12 2 dX7_of_12 rfl rfl ?_
  refine X_iadd 13 dX7_of_13 ?_
  rw [aLI]
  refine X_iald 14 dX7_of_14 lyM1 (vp_in_nI (N := 486) (aL_lt hk hw) (by decide)) ?_
  rw [nI_clamp (Nat.lt_trans (aL_lt hk hw) (by decide))]
  refine X_iret 15 dX7_of_15 rfl rfl ⟨_, rfl, _, rfl, ?_⟩
  exact ⟨rfl, rfl⟩
set_option maxHeartbeats 4000000 in
set_option maxRecDepth 100000 in
theorem e_X7_put (k w : Nat) (v : Int32) (μ : Mm) (hk : k < 8) (hw : w < 12) : EvN ΛM mX7_put [.ref 0, .int (nI k), .int (nI w), .int v] μ (qV (fun μ' => uM μ 1 (aL k w) v = μ')) := by
  refine EvN_ofQ (by decide +kernel) rfl (fun _ => rfl) (fun _ => Nat.le_of_ble_eq_true rfl) (ls := [(0, .ref 0), (1, .int (nI k)), (2, .int (nI w)), (3, .int v)]) ?_
  refine X_aload_n 0 0 dX7_put_0 rfl rfl ?_
  refine X_getR (f := 0) 1 dX7_put_1 lf_RX7_7 iw7 vc7 (by decide) lyM rfl ?_
  refine X_sipush 4 (390) dX7_put_4 (by decide) ?_
  refine X_bipush 7 (12) dX7_put_7 (by decide) ?_
  refine X_iload_n 9 1 dX7_put_9 rfl rfl ?_
  refine X_imul 10 dX7_put_10 ?_
  refine X_iadd 11 dX7_put_11 ?_
  refine X_iload_n 12 2 dX7_put_12 rfl rfl ?_
  refine X_iadd 13 dX7_put_13 ?_
  rw [aLI]
  refine X_iload_n 14 3 dX7_put_14 rfl rfl ?_
  refine X_iast 15 dX7_put_15 lyM1 (vp_in_nI (N := 486) (aL_lt hk hw) (by decide)) ?_
  rw [nI_clamp (Nat.lt_trans (aL_lt hk hw) (by decide))]
  refine X_vret 16 dX7_put_16 rfl ⟨_, rfl, rfl, ?_⟩
  rfl
set_option maxHeartbeats 4000000 in
set_option maxRecDepth 100000 in
theorem e_X7_isLamp (n : Int32) (lc : Nat) (μ : Mm) (h4 : μ 1 4 = nI lc) (h8 : lc ≤ 8) : EvN ΛM mX7_isLamp [.ref 0, .int n] μ (qB (0 ≤ n ∧ n < nI lc) μ) := by
  refine EvN_ofQ (by decide +kernel) rfl (fun _ => rfl) (fun _ => Nat.le_of_ble_eq_true rfl) (ls := [(0, .ref 0), (1, .int n)]) ?_
  refine X_iload_n 0 1 dX7_isLamp_0 rfl rfl ?_
  refine X_iconst 1 (0) dX7_isLamp_1 (by decide) ?_
  refine X_aload_n 2 0 dX7_isLamp_2 rfl rfl ?_
  refine X_getR (f := 0) 3 dX7_isLamp_3 lf_RX7_7 iw7 vc7 (by decide) lyM rfl ?_
  refine X_iconst 6 (4) dX7_isLamp_6 (by decide) ?_
  refine X_iald 7 dX7_isLamp_7 lyM1 (vp_in_nI (n := 4) (by decide) (by decide)) ?_
  rw [cl4]
  rw [h4]
  refine X_iconst 8 (1) dX7_isLamp_8 (by decide) ?_
  refine X_isub 9 dX7_isLamp_9 ?_
  refine X_cSI 10 [.int _, .int _, .int _] (e_X7_in _ _ _ _) dX7_isLamp_10 lm_RX7_41 3 ⟨wm_X7_in, by decide +kernel, rfl, rfl⟩ rfl ⟨Nat.le_of_ble_eq_true rfl, Nat.le_of_ble_eq_true rfl⟩ rfl (Nat.le_of_ble_eq_true rfl) ?_
  rintro _ _ ⟨rfl, ⟨rfl, b_10⟩ | ⟨rfl, b_10⟩⟩
  · refine X_iret 13 dX7_isLamp_13 rfl rfl ⟨_, rfl, _, rfl, ?_⟩
    refine ⟨rfl, Or.inl ⟨rfl, ?_⟩⟩
    first | exact (le_pred0 (by omega)).mp b_10 | exact fun z => b_10 ((le_pred0 (by omega)).mpr z)
  · refine X_iret 13 dX7_isLamp_13 rfl rfl ⟨_, rfl, _, rfl, ?_⟩
    refine ⟨rfl, Or.inr ⟨rfl, ?_⟩⟩
    first | exact (le_pred0 (by omega)).mp b_10 | exact fun z => b_10 ((le_pred0 (by omega)).mpr z)
set_option maxHeartbeats 4000000 in
set_option maxRecDepth 100000 in
theorem e_X7_isPlace (x y : Int32) (c r : Nat) (μ : Mm) (h0 : μ 1 0 = nI c) (h1 : μ 1 1 = nI r) (hc : c ≤ 24) (hr : r ≤ 16) : EvN ΛM mX7_isPlace [.ref 0, .int x, .int y] μ (qB ((0 ≤ x ∧ x < nI c) ∧ (0 ≤ y ∧ y < nI r)) μ) := by
  refine EvN_ofQ (by decide +kernel) rfl (fun _ => rfl) (fun _ => Nat.le_of_ble_eq_true rfl) (ls := [(0, .ref 0), (1, .int x), (2, .int y)]) ?_
  refine X_iload_n 0 1 dX7_isPlace_0 rfl rfl ?_
  refine X_iconst 1 (0) dX7_isPlace_1 (by decide) ?_
  refine X_aload_n 2 0 dX7_isPlace_2 rfl rfl ?_
  refine X_getR (f := 0) 3 dX7_isPlace_3 lf_RX7_7 iw7 vc7 (by decide) lyM rfl ?_
  refine X_iconst 6 (0) dX7_isPlace_6 (by decide) ?_
  refine X_iald 7 dX7_isPlace_7 lyM1 (vp_in_nI (n := 0) (by decide) (by decide)) ?_
  rw [cl0]
  rw [h0]
  refine X_iconst 8 (1) dX7_isPlace_8 (by decide) ?_
  refine X_isub 9 dX7_isPlace_9 ?_
  refine X_cSI 10 [.int _, .int _, .int _] (e_X7_in _ _ _ _) dX7_isPlace_10 lm_RX7_41 3 ⟨wm_X7_in, by decide +kernel, rfl, rfl⟩ rfl ⟨Nat.le_of_ble_eq_true rfl, Nat.le_of_ble_eq_true rfl⟩ rfl (Nat.le_of_ble_eq_true rfl) ?_
  rintro _ _ ⟨rfl, ⟨rfl, b_10⟩ | ⟨rfl, b_10⟩⟩
  · refine X_if_eq 13 36 dX7_isPlace_13 (by decide) (fun c_0 => by exact absurd c_0 (by decide)) (fun _ => ?_)
    refine X_iload_n 16 2 dX7_isPlace_16 rfl rfl ?_
    refine X_iconst 17 (0) dX7_isPlace_17 (by decide) ?_
    refine X_aload_n 18 0 dX7_isPlace_18 rfl rfl ?_
    refine X_getR (f := 0) 19 dX7_isPlace_19 lf_RX7_7 iw7 vc7 (by decide) lyM rfl ?_
    refine X_iconst 22 (1) dX7_isPlace_22 (by decide) ?_
    refine X_iald 23 dX7_isPlace_23 lyM1 (vp_in_nI (n := 1) (by decide) (by decide)) ?_
    rw [cl1]
    rw [h1]
    refine X_iconst 24 (1) dX7_isPlace_24 (by decide) ?_
    refine X_isub 25 dX7_isPlace_25 ?_
    refine X_cSI 26 [.int _, .int _, .int _] (e_X7_in _ _ _ _) dX7_isPlace_26 lm_RX7_41 3 ⟨wm_X7_in, by decide +kernel, rfl, rfl⟩ rfl ⟨Nat.le_of_ble_eq_true rfl, Nat.le_of_ble_eq_true rfl⟩ rfl (Nat.le_of_ble_eq_true rfl) ?_
    rintro _ _ ⟨rfl, ⟨rfl, b_26⟩ | ⟨rfl, b_26⟩⟩
    · refine X_if_eq 29 36 dX7_isPlace_29 (by decide) (fun c_0 => by exact absurd c_0 (by decide)) (fun _ => ?_)
      refine X_iconst 32 (1) dX7_isPlace_32 (by decide) ?_
      refine X_goto 33 37 dX7_isPlace_33 (by decide) ?_
      refine X_iret 37 dX7_isPlace_37 rfl rfl ⟨_, rfl, _, rfl, ?_⟩
      refine ⟨rfl, Or.inl ⟨rfl, ?_⟩⟩
      first | exact ⟨(le_pred0 (by omega)).mp b_10, (le_pred0 (by omega)).mp b_26⟩ | exact fun z => b_10 ((le_pred0 (by omega)).mpr z.1) | exact fun z => b_26 ((le_pred0 (by omega)).mpr z.2)
    · refine X_if_eq 29 36 dX7_isPlace_29 (by decide) (fun _ => ?_) (fun c_0 => by exact absurd c_0 (by decide))
      refine X_iconst 36 (0) dX7_isPlace_36 (by decide) ?_
      refine X_iret 37 dX7_isPlace_37 rfl rfl ⟨_, rfl, _, rfl, ?_⟩
      refine ⟨rfl, Or.inr ⟨rfl, ?_⟩⟩
      first | exact ⟨(le_pred0 (by omega)).mp b_10, (le_pred0 (by omega)).mp b_26⟩ | exact fun z => b_10 ((le_pred0 (by omega)).mpr z.1) | exact fun z => b_26 ((le_pred0 (by omega)).mpr z.2)
  · refine X_if_eq 13 36 dX7_isPlace_13 (by decide) (fun _ => ?_) (fun c_0 => by exact absurd c_0 (by decide))
    refine X_iconst 36 (0) dX7_isPlace_36 (by decide) ?_
    refine X_iret 37 dX7_isPlace_37 rfl rfl ⟨_, rfl, _, rfl, ?_⟩
    refine ⟨rfl, Or.inr ⟨rfl, ?_⟩⟩
    first | exact ⟨(le_pred0 (by omega)).mp b_10, (le_pred0 (by omega)).mp b_26⟩ | exact fun z => b_10 ((le_pred0 (by omega)).mpr z.1) | exact fun z => b_26 ((le_pred0 (by omega)).mpr z.2)
set_option maxHeartbeats 4000000 in
set_option maxRecDepth 100000 in
theorem e_X7_target (x y : Nat) (μ : Mm) (hx : x < 24) (hy : y < 16) : EvN ΛM mX7_target [.ref 0, .int (nI x), .int (nI y)] μ (qE (μ 1 (6 + 24 * y + x)) μ) := by
  refine EvN_ofQ (by decide +kernel) rfl (fun _ => rfl) (fun _ => Nat.le_of_ble_eq_true rfl) (ls := [(0, .ref 0), (1, .int (nI x)), (2, .int (nI y))]) ?_
  refine X_aload_n 0 0 dX7_target_0 rfl rfl ?_
  refine X_getR (f := 0) 1 dX7_target_1 lf_RX7_7 iw7 vc7 (by decide) lyM rfl ?_
  refine X_bipush 4 (6) dX7_target_4 (by decide) ?_
  refine X_bipush 6 (24) dX7_target_6 (by decide) ?_
  refine X_iload_n 8 2 dX7_target_8 rfl rfl ?_
  refine X_imul 9 dX7_target_9 ?_
  refine X_iadd 10 dX7_target_10 ?_
  refine X_iload_n 11 1 dX7_target_11 rfl rfl ?_
  refine X_iadd 12 dX7_target_12 ?_
  rw [tgI]
  refine X_iald 13 dX7_target_13 lyM1 (vp_in_nI (N := 486) (by omega) (by decide)) ?_
  rw [nI_clamp (by omega)]
  refine X_iret 14 dX7_target_14 rfl rfl ⟨_, rfl, _, rfl, ?_⟩
  exact ⟨rfl, rfl⟩
set_option maxHeartbeats 4000000 in
set_option maxRecDepth 100000 in
theorem e_X7_limit (s : Nat) (V : Mm) (c r lc : Nat) (k : Nat) (μ : Mm) (hR : REP s V (μ 1) c r lc) (hk : k < 8) : EvN ΛM mX7_limit [.ref 0, .int (nI k)] μ (qE (lim V s k) μ) := by
  refine EvN_ofQ (by decide +kernel) rfl (fun _ => rfl) (fun _ => Nat.le_of_ble_eq_true rfl) (ls := [(0, .ref 0), (1, .int (nI k))]) ?_
  refine X_aload_n 0 0 dX7_limit_0 rfl rfl ?_
  refine X_iload_n 1 1 dX7_limit_1 rfl rfl ?_
  refine X_bipush 2 (8) dX7_limit_2 (by decide) ?_
  refine X_cVI 4 [.int _, .int _] (e_X7_of k 8 _ hk (by decide)) dX7_limit_4 lm_RX7_61 2 ⟨wm_X7_of, by decide +kernel, rfl, rfl⟩ rfl ⟨Nat.le_of_ble_eq_true rfl, Nat.le_of_ble_eq_true rfl⟩ lyM vc7 rfl rfl (Nat.le_of_ble_eq_true rfl) ?_
  rintro _ _ ⟨rfl, rfl⟩
  refine X_sipush 7 (1000) dX7_limit_7 (by decide) ?_
  refine X_aload_n 10 0 dX7_limit_10 rfl rfl ?_
  refine X_iload_n 11 1 dX7_limit_11 rfl rfl ?_
  refine X_bipush 12 (10) dX7_limit_12 (by decide) ?_
  refine X_cVI 14 [.int _, .int _] (e_X7_of k 10 _ hk (by decide)) dX7_limit_14 lm_RX7_61 2 ⟨wm_X7_of, by decide +kernel, rfl, rfl⟩ rfl ⟨Nat.le_of_ble_eq_true rfl, Nat.le_of_ble_eq_true rfl⟩ lyM vc7 rfl rfl (Nat.le_of_ble_eq_true rfl) ?_
  rintro _ _ ⟨rfl, rfl⟩
  refine X_isub 17 dX7_limit_17 ?_
  refine X_imul 18 dX7_limit_18 ?_
  refine X_sipush 19 (1000) dX7_limit_19 (by decide) ?_
  refine X_idiv 22 dX7_limit_22 (by decide) ?_
  refine X_iret 23 dX7_limit_23 rfl rfl ⟨_, rfl, _, rfl, ?_⟩
  have h := hR.2.2.1 k hk
  exact ⟨by unfold lim; rw [h.1, h.2.2.1], rfl⟩
set_option maxHeartbeats 4000000 in
set_option maxRecDepth 100000 in
theorem e_X7_floor (s : Nat) (V : Mm) (c r lc : Nat) (k : Nat) (μ : Mm) (hR : REP s V (μ 1) c r lc) (hk : k < 8) : EvN ΛM mX7_floor [.ref 0, .int (nI k)] μ (qE (flo V s k) μ) := by
  refine EvN_ofQ (by decide +kernel) rfl (fun _ => rfl) (fun _ => Nat.le_of_ble_eq_true rfl) (ls := [(0, .ref 0), (1, .int (nI k))]) ?_
  refine X_aload_n 0 0 dX7_floor_0 rfl rfl ?_
  refine X_iload_n 1 1 dX7_floor_1 rfl rfl ?_
  refine X_bipush 2 (9) dX7_floor_2 (by decide) ?_
  refine X_cVI 4 [.int _, .int _] (e_X7_of k 9 _ hk (by decide)) dX7_floor_4 lm_RX7_61 2 ⟨wm_X7_of, by decide +kernel, rfl, rfl⟩ rfl ⟨Nat.le_of_ble_eq_true rfl, Nat.le_of_ble_eq_true rfl⟩ lyM vc7 rfl rfl (Nat.le_of_ble_eq_true rfl) ?_
  rintro _ _ ⟨rfl, rfl⟩
  refine X_aload_n 7 0 dX7_floor_7 rfl rfl ?_
  refine X_iload_n 8 1 dX7_floor_8 rfl rfl ?_
  refine X_cVI 9 [.int _] (e_X7_limit s V c r lc k _ hR hk) dX7_floor_9 lm_RX7_65 1 ⟨wm_X7_limit, by decide +kernel, rfl, rfl⟩ rfl ⟨Nat.le_of_ble_eq_true rfl, Nat.le_of_ble_eq_true rfl⟩ lyM vc7 rfl rfl (Nat.le_of_ble_eq_true rfl) ?_
  rintro _ _ ⟨rfl, rfl⟩
  refine X_cSI 12 [.int _, .int _] (e_X7_lesser _ _ _) dX7_floor_12 lm_RX7_68 2 ⟨wm_X7_lesser, by decide +kernel, rfl, rfl⟩ rfl ⟨Nat.le_of_ble_eq_true rfl, Nat.le_of_ble_eq_true rfl⟩ rfl (Nat.le_of_ble_eq_true rfl) ?_
  rintro _ _ ⟨rfl, rfl⟩
  refine X_iret 15 dX7_floor_15 rfl rfl ⟨_, rfl, _, rfl, ?_⟩
  have h := hR.2.2.1 k hk
  exact ⟨by unfold flo; rw [h.2.1, mn_sw], rfl⟩
set_option maxHeartbeats 4000000 in
set_option maxRecDepth 100000 in
theorem e_X7_pointX (s : Nat) (V : Mm) (c r lc : Nat) (k i : Nat) (μ : Mm) (hR : REP s V (μ 1) c r lc) (hk : k < 8) (hi : i < 12) : EvN ΛM mX7_pointX [.ref 0, .int (nI k), .int (nI i)] μ (qE (2 * V (s + 13) (4 * k + i % 4)) μ) := by
  refine EvN_ofQ (by decide +kernel) rfl (fun _ => rfl) (fun _ => Nat.le_of_ble_eq_true rfl) (ls := [(0, .ref 0), (1, .int (nI k)), (2, .int (nI i))]) ?_
  refine X_iconst 0 (2) dX7_pointX_0 (by decide) ?_
  refine X_aload_n 1 0 dX7_pointX_1 rfl rfl ?_
  refine X_iload_n 2 1 dX7_pointX_2 rfl rfl ?_
  refine X_iconst 3 (0) dX7_pointX_3 (by decide) ?_
  refine X_iload_n 4 2 dX7_pointX_4 rfl rfl ?_
  refine X_iconst 5 (4) dX7_pointX_5 (by decide) ?_
  refine X_irem 6 dX7_pointX_6 (by decide) ?_
  rw [rem4 (by omega)]
  refine X_iadd 7 dX7_pointX_7 ?_
  rw [Int32.zero_add]
  refine X_cVI 8 [.int _, .int _] (e_X7_of k (i % 4) _ hk (by omega)) dX7_pointX_8 lm_RX7_61 2 ⟨wm_X7_of, by decide +kernel, rfl, rfl⟩ rfl ⟨Nat.le_of_ble_eq_true rfl, Nat.le_of_ble_eq_true rfl⟩ lyM vc7 rfl rfl (Nat.le_of_ble_eq_true rfl) ?_
  rintro _ _ ⟨rfl, rfl⟩
  refine X_imul 11 dX7_pointX_11 ?_
  refine X_iret 12 dX7_pointX_12 rfl rfl ⟨_, rfl, _, rfl, ?_⟩
  have h := hR.2.2.2.1 k (i % 4) hk (by omega)
  exact ⟨by rw [h.1], rfl⟩
set_option maxHeartbeats 4000000 in
set_option maxRecDepth 100000 in
theorem e_X7_pointY (s : Nat) (V : Mm) (c r lc : Nat) (k i : Nat) (μ : Mm) (hR : REP s V (μ 1) c r lc) (hk : k < 8) (hi : i < 12) : EvN ΛM mX7_pointY [.ref 0, .int (nI k), .int (nI i)] μ (qE (2 * V (s + 14) (4 * k + i % 4)) μ) := by
  refine EvN_ofQ (by decide +kernel) rfl (fun _ => rfl) (fun _ => Nat.le_of_ble_eq_true rfl) (ls := [(0, .ref 0), (1, .int (nI k)), (2, .int (nI i))]) ?_
  refine X_iconst 0 (2) dX7_pointY_0 (by decide) ?_
  refine X_aload_n 1 0 dX7_pointY_1 rfl rfl ?_
  refine X_iload_n 2 1 dX7_pointY_2 rfl rfl ?_
  refine X_iconst 3 (4) dX7_pointY_3 (by decide) ?_
  refine X_iload_n 4 2 dX7_pointY_4 rfl rfl ?_
  refine X_iconst 5 (4) dX7_pointY_5 (by decide) ?_
  refine X_irem 6 dX7_pointY_6 (by decide) ?_
  rw [rem4 (by omega)]
  refine X_iadd 7 dX7_pointY_7 ?_
  rw [show (4 : Int32) + nI (i % 4) = nI (4 + i % 4) from nI_add 4 _]
  refine X_cVI 8 [.int _, .int _] (e_X7_of k (4 + i % 4) _ hk (by omega)) dX7_pointY_8 lm_RX7_61 2 ⟨wm_X7_of, by decide +kernel, rfl, rfl⟩ rfl ⟨Nat.le_of_ble_eq_true rfl, Nat.le_of_ble_eq_true rfl⟩ lyM vc7 rfl rfl (Nat.le_of_ble_eq_true rfl) ?_
  rintro _ _ ⟨rfl, rfl⟩
  refine X_imul 11 dX7_pointY_11 ?_
  refine X_iret 12 dX7_pointY_12 rfl rfl ⟨_, rfl, _, rfl, ?_⟩
  have h := hR.2.2.2.1 k (i % 4) hk (by omega)
  exact ⟨by rw [h.2], rfl⟩
