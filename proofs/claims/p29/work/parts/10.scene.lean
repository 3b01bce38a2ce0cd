set_option maxHeartbeats 4000000 in
set_option maxRecDepth 100000 in
theorem e_X4_moveWall (s : Nat) (hs : isS s) (a b : Int32) (μ : Mm) : EvN ΛC mX4_moveWall [.ref s, .int a, .int b] μ (qV (fun μ' => uM (uM (uM μ s 2 a) s 3 b) s 6 1 = μ')) := by
  refine EvN_ofQ (by decide +kernel) rfl (fun _ => rfl) (fun _ => Nat.le_of_ble_eq_true rfl) (ls := [(0, .ref s), (1, .int a), (2, .int b)]) ?_
  refine X_aload_n 0 0 dX4_moveWall_0 rfl rfl ?_
  refine X_iload_n 1 1 dX4_moveWall_1 rfl rfl ?_
  refine X_putI (f := 2) 2 dX4_moveWall_2 lf_RX4_49 iw4 vc4 (by decide) (lyS s hs) tyX4_ok nmX4 rfl rfl rfl (by decide) rfl rfl ?_
  refine X_aload_n 5 0 dX4_moveWall_5 rfl rfl ?_
  refine X_iload_n 6 2 dX4_moveWall_6 rfl rfl ?_
  refine X_putI (f := 3) 7 dX4_moveWall_7 lf_RX4_52 iw4 vc4 (by decide) (lyS s hs) tyX4_ok nmX4 rfl rfl rfl (by decide) rfl rfl ?_
  refine X_aload_n 10 0 dX4_moveWall_10 rfl rfl ?_
  refine X_iconst 11 (1) dX4_moveWall_11 (by decide) ?_
  refine X_putI (f := 6) 12 dX4_moveWall_12 lf_RX4_18 iw4 vc4 (by decide) (lyS s hs) tyX4_ok nmX4 rfl rfl rfl (by decide) rfl rfl ?_
  refine X_vret 15 dX4_moveWall_15 rfl ⟨_, rfl, rfl, ?_⟩
  rfl
set_option maxHeartbeats 4000000 in
set_option maxRecDepth 100000 in
theorem e_X4_startWall (s : Nat) (hs : isS s) (a b : Int32) (μ : Mm) : EvN ΛC mX4_startWall [.ref s, .int a, .int b] μ (qV (fun μ' => wallM μ s a b = μ')) := by
  refine EvN_ofQ (by decide +kernel) rfl (fun _ => rfl) (fun _ => Nat.le_of_ble_eq_true rfl) (ls := [(0, .ref s), (1, .int a), (2, .int b)]) ?_
  refine X_aload_n 0 0 dX4_startWall_0 rfl rfl ?_
  refine X_iload_n 1 1 dX4_startWall_1 rfl rfl ?_
  refine X_putI (f := 0) 2 dX4_startWall_2 lf_RX4_9 iw4 vc4 (by decide) (lyS s hs) tyX4_ok nmX4 rfl rfl rfl (by decide) rfl rfl ?_
  refine X_aload_n 5 0 dX4_startWall_5 rfl rfl ?_
  refine X_iload_n 6 2 dX4_startWall_6 rfl rfl ?_
  refine X_putI (f := 1) 7 dX4_startWall_7 lf_RX4_15 iw4 vc4 (by decide) (lyS s hs) tyX4_ok nmX4 rfl rfl rfl (by decide) rfl rfl ?_
  refine X_aload_n 10 0 dX4_startWall_10 rfl rfl ?_
  refine X_iconst 11 (0) dX4_startWall_11 (by decide) ?_
  refine X_putI (f := 2) 12 dX4_startWall_12 lf_RX4_49 iw4 vc4 (by decide) (lyS s hs) tyX4_ok nmX4 rfl rfl rfl (by decide) rfl rfl ?_
  refine X_aload_n 15 0 dX4_startWall_15 rfl rfl ?_
  refine X_iconst 16 (0) dX4_startWall_16 (by decide) ?_
  refine X_putI (f := 3) 17 dX4_startWall_17 lf_RX4_52 iw4 vc4 (by decide) (lyS s hs) tyX4_ok nmX4 rfl rfl rfl (by decide) rfl rfl ?_
  refine X_aload_n 20 0 dX4_startWall_20 rfl rfl ?_
  refine X_getR (f := 7) 21 dX4_startWall_21 lf_RX4_27 iw4 vc4 (by decide) (lyS s hs) rfl ?_
  refine X_cVV 24 [] (e_X3_clear ((s + 1)) ((s + 8)) 384 (rS_tg s hs) _) dX4_startWall_24 lm_RX4_65 0 ⟨wm_X3_clear, by decide +kernel, rfl, rfl⟩ rfl ⟨Nat.le_of_ble_eq_true rfl, Nat.le_of_ble_eq_true rfl⟩ (rS_tg s hs).1 vc3 rfl rfl (Nat.le_of_ble_eq_true rfl) ?_
  rintro _ rfl
  refine X_aload_n 27 0 dX4_startWall_27 rfl rfl ?_
  refine X_iconst 28 (1) dX4_startWall_28 (by decide) ?_
  refine X_putI (f := 6) 29 dX4_startWall_29 lf_RX4_18 iw4 vc4 (by decide) (lyS s hs) tyX4_ok nmX4 rfl rfl rfl (by decide) rfl rfl ?_
  refine X_vret 32 dX4_startWall_32 rfl ⟨_, rfl, rfl, ?_⟩
  rfl
set_option maxHeartbeats 4000000 in
set_option maxRecDepth 100000 in
theorem e_X4_countHours (s : Nat) (hs : isS s) (h : Int32) (μ : Mm) : EvN ΛC mX4_countHours [.ref s, .int h] μ (qV (fun μ' => uM μ s 4 (μ s 4 + h) = μ')) := by
  refine EvN_ofQ (by decide +kernel) rfl (fun _ => rfl) (fun _ => Nat.le_of_ble_eq_true rfl) (ls := [(0, .ref s), (1, .int h)]) ?_
  refine X_aload_n 0 0 dX4_countHours_0 rfl rfl ?_
  refine X_dupr 1 dX4_countHours_1 ?_
  refine X_getI (f := 4) 2 dX4_countHours_2 lf_RX4_55 iw4 vc4 (by decide) (lyS s hs) rfl ?_
  refine X_iload_n 5 1 dX4_countHours_5 rfl rfl ?_
  refine X_iadd 6 dX4_countHours_6 ?_
  refine X_putI (f := 4) 7 dX4_countHours_7 lf_RX4_55 iw4 vc4 (by decide) (lyS s hs) tyX4_ok nmX4 rfl rfl rfl (by decide) rfl rfl ?_
  refine X_vret 10 dX4_countHours_10 rfl ⟨_, rfl, rfl, ?_⟩
  rfl
set_option maxHeartbeats 4000000 in
set_option maxRecDepth 100000 in
theorem e_X4_hasPlace (s : Nat) (hs : isS s) (x y : Int32) (μ : Mm) : EvN ΛC mX4_hasPlace [.ref s, .int x, .int y] μ (qB (0 ≤ x ∧ x < μ s 0 ∧ 0 ≤ y ∧ y < μ s 1) μ) := by
  refine EvN_ofQ (by decide +kernel) rfl (fun _ => rfl) (fun _ => Nat.le_of_ble_eq_true rfl) (ls := [(0, .ref s), (1, .int x), (2, .int y)]) ?_
  refine X_iload_n 0 1 dX4_hasPlace_0 rfl rfl ?_
  refine X_if_lt 1 28 dX4_hasPlace_1 (by decide) (fun c_1 => ?_) (fun c_1 => ?_)
  · refine X_iconst 28 (0) dX4_hasPlace_28 (by decide) ?_
    refine X_iret 29 dX4_hasPlace_29 rfl rfl ⟨_, rfl, _, rfl, ?_⟩
    refine ⟨rfl, Or.inr ⟨rfl, ?_⟩⟩
    first | exact ⟨Int32.not_lt.mp c_1, Int32.not_le.mp c_9, Int32.not_lt.mp c_13, Int32.not_le.mp c_21⟩ | exact fun h => absurd c_1 (Int32.not_lt.mpr h.1) | exact fun h => absurd c_9 (Int32.not_le.mpr h.2.1) | exact fun h => absurd c_13 (Int32.not_lt.mpr h.2.2.1) | exact fun h => absurd c_21 (Int32.not_le.mpr h.2.2.2)
  · refine X_iload_n 4 1 dX4_hasPlace_4 rfl rfl ?_
    refine X_aload_n 5 0 dX4_hasPlace_5 rfl rfl ?_
    refine X_getI (f := 0) 6 dX4_hasPlace_6 lf_RX4_9 iw4 vc4 (by decide) (lyS s hs) rfl ?_
    refine X_icmp_ge 9 28 dX4_hasPlace_9 (by decide) (fun c_9 => ?_) (fun c_9 => ?_)
    · refine X_iconst 28 (0) dX4_hasPlace_28 (by decide) ?_
      refine X_iret 29 dX4_hasPlace_29 rfl rfl ⟨_, rfl, _, rfl, ?_⟩
      refine ⟨rfl, Or.inr ⟨rfl, ?_⟩⟩
      first | exact ⟨Int32.not_lt.mp c_1, Int32.not_le.mp c_9, Int32.not_lt.mp c_13, Int32.not_le.mp c_21⟩ | exact fun h => absurd c_1 (Int32.not_lt.mpr h.1) | exact fun h => absurd c_9 (Int32.not_le.mpr h.2.1) | exact fun h => absurd c_13 (Int32.not_lt.mpr h.2.2.1) | exact fun h => absurd c_21 (Int32.not_le.mpr h.2.2.2)
    · refine X_iload_n 12 2 dX4_hasPlace_12 rfl rfl ?_
      refine X_if_lt 13 28 dX4_hasPlace_13 (by decide) (fun c_13 => ?_) (fun c_13 => ?_)
      · refine X_iconst 28 (0) dX4_hasPlace_28 (by decide) ?_
        refine X_iret 29 dX4_hasPlace_29 rfl rfl ⟨_, rfl, _, rfl, ?_⟩
        refine ⟨rfl, Or.inr ⟨rfl, ?_⟩⟩
        first | exact ⟨Int32.not_lt.mp c_1, Int32.not_le.mp c_9, Int32.not_lt.mp c_13, Int32.not_le.mp c_21⟩ | exact fun h => absurd c_1 (Int32.not_lt.mpr h.1) | exact fun h => absurd c_9 (Int32.not_le.mpr h.2.1) | exact fun h => absurd c_13 (Int32.not_lt.mpr h.2.2.1) | exact fun h => absurd c_21 (Int32.not_le.mpr h.2.2.2)
      · refine X_iload_n 16 2 dX4_hasPlace_16 rfl rfl ?_
        refine X_aload_n 17 0 dX4_hasPlace_17 rfl rfl ?_
        refine X_getI (f := 1) 18 dX4_hasPlace_18 lf_RX4_15 iw4 vc4 (by decide) (lyS s hs) rfl ?_
        refine X_icmp_ge 21 28 dX4_hasPlace_21 (by decide) (fun c_21 => ?_) (fun c_21 => ?_)
        · refine X_iconst 28 (0) dX4_hasPlace_28 (by decide) ?_
          refine X_iret 29 dX4_hasPlace_29 rfl rfl ⟨_, rfl, _, rfl, ?_⟩
          refine ⟨rfl, Or.inr ⟨rfl, ?_⟩⟩
          first | exact ⟨Int32.not_lt.mp c_1, Int32.not_le.mp c_9, Int32.not_lt.mp c_13, Int32.not_le.mp c_21⟩ | exact fun h => absurd c_1 (Int32.not_lt.mpr h.1) | exact fun h => absurd c_9 (Int32.not_le.mpr h.2.1) | exact fun h => absurd c_13 (Int32.not_lt.mpr h.2.2.1) | exact fun h => absurd c_21 (Int32.not_le.mpr h.2.2.2)
        · refine X_iconst 24 (1) dX4_hasPlace_24 (by decide) ?_
          refine X_goto 25 29 dX4_hasPlace_25 (by decide) ?_
          refine X_iret 29 dX4_hasPlace_29 rfl rfl ⟨_, rfl, _, rfl, ?_⟩
          refine ⟨rfl, Or.inl ⟨rfl, ?_⟩⟩
          first | exact ⟨Int32.not_lt.mp c_1, Int32.not_le.mp c_9, Int32.not_lt.mp c_13, Int32.not_le.mp c_21⟩ | exact fun h => absurd c_1 (Int32.not_lt.mpr h.1) | exact fun h => absurd c_9 (Int32.not_le.mpr h.2.1) | exact fun h => absurd c_13 (Int32.not_lt.mpr h.2.2.1) | exact fun h => absurd c_21 (Int32.not_le.mpr h.2.2.2)
set_option maxHeartbeats 4000000 in
set_option maxRecDepth 100000 in
theorem e_X4_hasLamp (s : Nat) (hs : isS s) (n : Int32) (μ : Mm) : EvN ΛC mX4_hasLamp [.ref s, .int n] μ (qB (0 ≤ n ∧ n < μ s 5) μ) := by
  refine EvN_ofQ (by decide +kernel) rfl (fun _ => rfl) (fun _ => Nat.le_of_ble_eq_true rfl) (ls := [(0, .ref s), (1, .int n)]) ?_
  refine X_iload_n 0 1 dX4_hasLamp_0 rfl rfl ?_
  refine X_if_lt 1 16 dX4_hasLamp_1 (by decide) (fun c_1 => ?_) (fun c_1 => ?_)
  · refine X_iconst 16 (0) dX4_hasLamp_16 (by decide) ?_
    refine X_iret 17 dX4_hasLamp_17 rfl rfl ⟨_, rfl, _, rfl, ?_⟩
    refine ⟨rfl, Or.inr ⟨rfl, ?_⟩⟩
    first | exact ⟨Int32.not_lt.mp c_1, Int32.not_le.mp c_9⟩ | exact fun h => absurd c_1 (Int32.not_lt.mpr h.1) | exact fun h => absurd c_9 (Int32.not_le.mpr h.2)
  · refine X_iload_n 4 1 dX4_hasLamp_4 rfl rfl ?_
    refine X_aload_n 5 0 dX4_hasLamp_5 rfl rfl ?_
    refine X_getI (f := 5) 6 dX4_hasLamp_6 lf_RX4_58 iw4 vc4 (by decide) (lyS s hs) rfl ?_
    refine X_icmp_ge 9 16 dX4_hasLamp_9 (by decide) (fun c_9 => ?_) (fun c_9 => ?_)
    · refine X_iconst 16 (0) dX4_hasLamp_16 (by decide) ?_
      refine X_iret 17 dX4_hasLamp_17 rfl rfl ⟨_, rfl, _, rfl, ?_⟩
      refine ⟨rfl, Or.inr ⟨rfl, ?_⟩⟩
      first | exact ⟨Int32.not_lt.mp c_1, Int32.not_le.mp c_9⟩ | exact fun h => absurd c_1 (Int32.not_lt.mpr h.1) | exact fun h => absurd c_9 (Int32.not_le.mpr h.2)
    · refine X_iconst 12 (1) dX4_hasLamp_12 (by decide) ?_
      refine X_goto 13 17 dX4_hasLamp_13 (by decide) ?_
      refine X_iret 17 dX4_hasLamp_17 rfl rfl ⟨_, rfl, _, rfl, ?_⟩
      refine ⟨rfl, Or.inl ⟨rfl, ?_⟩⟩
      first | exact ⟨Int32.not_lt.mp c_1, Int32.not_le.mp c_9⟩ | exact fun h => absurd c_1 (Int32.not_lt.mpr h.1) | exact fun h => absurd c_9 (Int32.not_le.mpr h.2)
set_option maxHeartbeats 4000000 in
set_option maxRecDepth 100000 in
theorem e_X4_placeCount (s : Nat) (hs : isS s) (μ : Mm) : EvN ΛC mX4_placeCount [.ref s] μ (qE (μ s 0 * μ s 1) μ) := by
  refine EvN_ofQ (by decide +kernel) rfl (fun _ => rfl) (fun _ => Nat.le_of_ble_eq_true rfl) (ls := [(0, .ref s)]) ?_
  refine X_aload_n 0 0 dX4_placeCount_0 rfl rfl ?_
  refine X_getI (f := 0) 1 dX4_placeCount_1 lf_RX4_9 iw4 vc4 (by decide) (lyS s hs) rfl ?_
  refine X_aload_n 4 0 dX4_placeCount_4 rfl rfl ?_
  refine X_getI (f := 1) 5 dX4_placeCount_5 lf_RX4_15 iw4 vc4 (by decide) (lyS s hs) rfl ?_
  refine X_imul 8 dX4_placeCount_8 ?_
  refine X_iret 9 dX4_placeCount_9 rfl rfl ⟨_, rfl, _, rfl, ?_⟩
  exact ⟨rfl, rfl⟩
set_option maxHeartbeats 4000000 in
set_option maxRecDepth 100000 in
theorem e_X4_indexOfPlace (s : Nat) (hs : isS s) (x y : Int32) (μ : Mm) : EvN ΛC mX4_indexOfPlace [.ref s, .int x, .int y] μ (qE (y * μ s 0 + x) μ) := by
  refine EvN_ofQ (by decide +kernel) rfl (fun _ => rfl) (fun _ => Nat.le_of_ble_eq_true rfl) (ls := [(0, .ref s), (1, .int x), (2, .int y)]) ?_
  refine X_iload_n 0 2 dX4_indexOfPlace_0 rfl rfl ?_
  refine X_aload_n 1 0 dX4_indexOfPlace_1 rfl rfl ?_
  refine X_getI (f := 0) 2 dX4_indexOfPlace_2 lf_RX4_9 iw4 vc4 (by decide) (lyS s hs) rfl ?_
  refine X_imul 5 dX4_indexOfPlace_5 ?_
  refine X_iload_n 6 1 dX4_indexOfPlace_6 rfl rfl ?_
  refine X_iadd 7 dX4_indexOfPlace_7 ?_
  refine X_iret 8 dX4_indexOfPlace_8 rfl rfl ⟨_, rfl, _, rfl, ?_⟩
  exact ⟨rfl, rfl⟩
set_option maxHeartbeats 4000000 in
set_option maxRecDepth 100000 in
theorem e_X4_targetAt (s : Nat) (hs : isS s) (p : Int32) (μ : Mm) : EvN ΛC mX4_targetAt [.ref s, .int p] μ (qE (gt μ (s + 8) 384 p) μ) := by
  refine EvN_ofQ (by decide +kernel) rfl (fun _ => rfl) (fun _ => Nat.le_of_ble_eq_true rfl) (ls := [(0, .ref s), (1, .int p)]) ?_
  refine X_aload_n 0 0 dX4_targetAt_0 rfl rfl ?_
  refine X_getR (f := 7) 1 dX4_targetAt_1 lf_RX4_27 iw4 vc4 (by decide) (lyS s hs) rfl ?_
  refine X_iload_n 4 1 dX4_targetAt_4 rfl rfl ?_
  refine X_cVI 5 [.int _] (e_X3_get ((s + 1)) ((s + 8)) 384 (rS_tg s hs) _ _) dX4_targetAt_5 lm_RX4_72 1 ⟨wm_X3_get, by decide +kernel, rfl, rfl⟩ rfl ⟨Nat.le_of_ble_eq_true rfl, Nat.le_of_ble_eq_true rfl⟩ (rS_tg s hs).1 vc3 rfl rfl (Nat.le_of_ble_eq_true rfl) ?_
  rintro _ _ ⟨rfl, rfl⟩
  refine X_iret 8 dX4_targetAt_8 rfl rfl ⟨_, rfl, _, rfl, ?_⟩
  exact ⟨rfl, rfl⟩
set_option maxHeartbeats 4000000 in
set_option maxRecDepth 100000 in
theorem e_X4_isWorking (s : Nat) (hs : isS s) (k : Nat) (μ : Mm) (hk : k < 8) : EvN ΛC mX4_isWorking [.ref s, .int (nI k)] μ (qB (wkB μ s k = true) μ) := by
  refine EvN_ofQ (by decide +kernel) rfl (fun _ => rfl) (fun _ => Nat.le_of_ble_eq_true rfl) (ls := [(0, .ref s), (1, .int (nI k))]) ?_
  refine X_aload_n 0 0 dX4_isWorking_0 rfl rfl ?_
  refine X_getR (f := 11) 1 dX4_isWorking_1 lf_RX4_40 iw4 vc4 (by decide) (lyS s hs) rfl ?_
  refine X_iload_n 4 1 dX4_isWorking_4 rfl rfl ?_
  refine X_cVI 5 [.int _] (e_X3_get ((s + 5)) ((s + 12)) 8 (rS_wk s hs) _ _) dX4_isWorking_5 lm_RX4_72 1 ⟨wm_X3_get, by decide +kernel, rfl, rfl⟩ rfl ⟨Nat.le_of_ble_eq_true rfl, Nat.le_of_ble_eq_true rfl⟩ (rS_wk s hs).1 vc3 rfl rfl (Nat.le_of_ble_eq_true rfl) ?_
  rintro _ _ ⟨rfl, rfl⟩
  rw [gt_nI (by omega) (by decide)]
  refine X_iconst 8 (1) dX4_isWorking_8 (by decide) ?_
  refine X_icmp_ne 9 16 dX4_isWorking_9 (by decide) (fun c_9 => ?_) (fun c_9 => ?_)
  · refine X_iconst 16 (0) dX4_isWorking_16 (by decide) ?_
    refine X_iret 17 dX4_isWorking_17 rfl rfl ⟨_, rfl, _, rfl, ?_⟩
    refine ⟨rfl, Or.inr ⟨rfl, ?_⟩⟩
    first | (simp [wkB, c_9]; done)
  · refine X_iconst 12 (1) dX4_isWorking_12 (by decide) ?_
    refine X_goto 13 17 dX4_isWorking_13 (by decide) ?_
    refine X_iret 17 dX4_isWorking_17 rfl rfl ⟨_, rfl, _, rfl, ?_⟩
    refine ⟨rfl, Or.inl ⟨rfl, ?_⟩⟩
    first | (simp [wkB, c_9]; done)
set_option maxHeartbeats 4000000 in
set_option maxRecDepth 100000 in
theorem e_X4_moveCorner (s : Nat) (hs : isS s) (k i : Nat) (x y : Int32) (μ : Mm) (hk : k < 8) (hi : i < 4) : EvN ΛC mX4_moveCorner [.ref s, .int (nI k), .int (nI i), .int x, .int y] μ (qV (fun μ' => mvc μ s (4 * k + i) x y = μ')) := by
  refine EvN_ofQ (by decide +kernel) rfl (fun _ => rfl) (fun _ => Nat.le_of_ble_eq_true rfl) (ls := [(0, .ref s), (1, .int (nI k)), (2, .int (nI i)), (3, .int x), (4, .int y)]) ?_
  refine X_aload_n 0 0 dX4_moveCorner_0 rfl rfl ?_
  refine X_getR (f := 12) 1 dX4_moveCorner_1 lf_RX4_43 iw4 vc4 (by decide) (lyS s hs) rfl ?_
  refine X_iconst 4 (4) dX4_moveCorner_4 (by decide) ?_
  refine X_iload_n 5 1 dX4_moveCorner_5 rfl rfl ?_
  refine X_imul 6 dX4_moveCorner_6 ?_
  refine X_iload_n 7 2 dX4_moveCorner_7 rfl rfl ?_
  refine X_iadd 8 dX4_moveCorner_8 ?_
  rw [m4]
  refine X_iload_n 9 3 dX4_moveCorner_9 rfl rfl ?_
  refine X_cVV 10 [.int _, .int _] (e_X3_set ((s + 6)) ((s + 13)) 32 (rS_cx s hs) _ _ _) dX4_moveCorner_10 lm_RX4_76 2 ⟨wm_X3_set, by decide +kernel, rfl, rfl⟩ rfl ⟨Nat.le_of_ble_eq_true rfl, Nat.le_of_ble_eq_true rfl⟩ (rS_cx s hs).1 vc3 rfl rfl (Nat.le_of_ble_eq_true rfl) ?_
  rintro _ rfl
  refine X_aload_n 13 0 dX4_moveCorner_13 rfl rfl ?_
  refine X_getR (f := 13) 14 dX4_moveCorner_14 lf_RX4_46 iw4 vc4 (by decide) (lyS s hs) rfl ?_
  refine X_iconst 17 (4) dX4_moveCorner_17 (by decide) ?_
  refine X_iload_n 18 1 dX4_moveCorner_18 rfl rfl ?_
  refine X_imul 19 dX4_moveCorner_19 ?_
  refine X_iload_n 20 2 dX4_moveCorner_20 rfl rfl ?_
  refine X_iadd 21 dX4_moveCorner_21 ?_
  rw [m4]
  refine X_iload 22 4 dX4_moveCorner_22 rfl ?_
  refine X_cVV 24 [.int _, .int _] (e_X3_set ((s + 7)) ((s + 14)) 32 (rS_cy s hs) _ _ _) dX4_moveCorner_24 lm_RX4_76 2 ⟨wm_X3_set, by decide +kernel, rfl, rfl⟩ rfl ⟨Nat.le_of_ble_eq_true rfl, Nat.le_of_ble_eq_true rfl⟩ (rS_cy s hs).1 vc3 rfl rfl (Nat.le_of_ble_eq_true rfl) ?_
  rintro _ rfl
  refine X_aload_n 27 0 dX4_moveCorner_27 rfl rfl ?_
  refine X_iconst 28 (1) dX4_moveCorner_28 (by decide) ?_
  refine X_putI (f := 6) 29 dX4_moveCorner_29 lf_RX4_18 iw4 vc4 (by decide) (lyS s hs) tyX4_ok nmX4 rfl rfl rfl (by decide) rfl rfl ?_
  refine X_vret 32 dX4_moveCorner_32 rfl ⟨_, rfl, rfl, ?_⟩
  rw [stR_nI (by omega) (by decide), stR_nI (by omega) (by decide)]; rfl
set_option maxHeartbeats 4000000 in
set_option maxRecDepth 100000 in
theorem e_X4_setLampValue (s : Nat) (hs : isS s) (k w : Nat) (x : Int32) (μ : Mm) (hk : k < 8) (hw : w < 3) : EvN ΛC mX4_setLampValue [.ref s, .int (nI k), .int (nI w), .int x] μ (qV (fun μ' => uM (uM μ (s + 9 + w) k x) s 6 1 = μ')) := by
  refine EvN_ofQ (by decide +kernel) rfl (fun _ => rfl) (fun _ => Nat.le_of_ble_eq_true rfl) (ls := [(0, .ref s), (1, .int (nI k)), (2, .int (nI w)), (3, .int x)]) ?_
  refine X_iload_n 0 2 dX4_setLampValue_0 rfl rfl ?_
  refine X_if_ne 1 16 dX4_setLampValue_1 (by decide) (fun c_1 => ?_) (fun c_1 => ?_)
  · refine X_iload_n 16 2 dX4_setLampValue_16 rfl rfl ?_
    refine X_iconst 17 (1) dX4_setLampValue_17 (by decide) ?_
    refine X_icmp_ne 18 33 dX4_setLampValue_18 (by decide) (fun c_18 => ?_) (fun c_18 => ?_)
    · refine X_aload_n 33 0 dX4_setLampValue_33 rfl rfl ?_
      refine X_getR (f := 10) 34 dX4_setLampValue_34 lf_RX4_37 iw4 vc4 (by decide) (lyS s hs) rfl ?_
      refine X_iload_n 37 1 dX4_setLampValue_37 rfl rfl ?_
      refine X_iload_n 38 3 dX4_setLampValue_38 rfl rfl ?_
      refine X_cVV 39 [.int _, .int _] (e_X3_set ((s + 4)) ((s + 11)) 8 (rS_we s hs) _ _ _) dX4_setLampValue_39 lm_RX4_76 2 ⟨wm_X3_set, by decide +kernel, rfl, rfl⟩ rfl ⟨Nat.le_of_ble_eq_true rfl, Nat.le_of_ble_eq_true rfl⟩ (rS_we s hs).1 vc3 rfl rfl (Nat.le_of_ble_eq_true rfl) ?_
      rintro _ rfl
      refine X_aload_n 42 0 dX4_setLampValue_42 rfl rfl ?_
      refine X_iconst 43 (1) dX4_setLampValue_43 (by decide) ?_
      refine X_putI (f := 6) 44 dX4_setLampValue_44 lf_RX4_18 iw4 vc4 (by decide) (lyS s hs) tyX4_ok nmX4 rfl rfl rfl (by decide) rfl rfl ?_
      refine X_vret 47 dX4_setLampValue_47 rfl ⟨_, rfl, rfl, ?_⟩
      rw [stR_nI (by omega) (by decide)]
      first | (have e : w = 0 := by rcases (show w = 0 ∨ w = 1 ∨ w = 2 by omega) with rfl | rfl | rfl <;> first | rfl | exact absurd c_1 (by decide)
               subst e; rfl)
            | (have e : w = 1 := by rcases (show w = 0 ∨ w = 1 ∨ w = 2 by omega) with rfl | rfl | rfl <;> first | rfl | exact absurd rfl c_1 | exact absurd c_18 (by decide)
               subst e; rfl)
            | (have e : w = 2 := by rcases (show w = 0 ∨ w = 1 ∨ w = 2 by omega) with rfl | rfl | rfl <;> first | rfl | exact absurd rfl c_1 | exact absurd rfl c_18
               subst e; rfl)
    · refine X_aload_n 21 0 dX4_setLampValue_21 rfl rfl ?_
      refine X_getR (f := 9) 22 dX4_setLampValue_22 lf_RX4_34 iw4 vc4 (by decide) (lyS s hs) rfl ?_
      refine X_iload_n 25 1 dX4_setLampValue_25 rfl rfl ?_
      refine X_iload_n 26 3 dX4_setLampValue_26 rfl rfl ?_
      refine X_cVV 27 [.int _, .int _] (e_X3_set ((s + 3)) ((s + 10)) 8 (rS_le s hs) _ _ _) dX4_setLampValue_27 lm_RX4_76 2 ⟨wm_X3_set, by decide +kernel, rfl, rfl⟩ rfl ⟨Nat.le_of_ble_eq_true rfl, Nat.le_of_ble_eq_true rfl⟩ (rS_le s hs).1 vc3 rfl rfl (Nat.le_of_ble_eq_true rfl) ?_
      rintro _ rfl
      refine X_goto 30 42 dX4_setLampValue_30 (by decide) ?_
      refine X_aload_n 42 0 dX4_setLampValue_42 rfl rfl ?_
      refine X_iconst 43 (1) dX4_setLampValue_43 (by decide) ?_
      refine X_putI (f := 6) 44 dX4_setLampValue_44 lf_RX4_18 iw4 vc4 (by decide) (lyS s hs) tyX4_ok nmX4 rfl rfl rfl (by decide) rfl rfl ?_
      refine X_vret 47 dX4_setLampValue_47 rfl ⟨_, rfl, rfl, ?_⟩
      rw [stR_nI (by omega) (by decide)]
      first | (have e : w = 0 := by rcases (show w = 0 ∨ w = 1 ∨ w = 2 by omega) with rfl | rfl | rfl <;> first | rfl | exact absurd c_1 (by decide)
               subst e; rfl)
            | (have e : w = 1 := by rcases (show w = 0 ∨ w = 1 ∨ w = 2 by omega) with rfl | rfl | rfl <;> first | rfl | exact absurd rfl c_1 | exact absurd c_18 (by decide)
               subst e; rfl)
            | (have e : w = 2 := by rcases (show w = 0 ∨ w = 1 ∨ w = 2 by omega) with rfl | rfl | rfl <;> first | rfl | exact absurd rfl c_1 | exact absurd rfl c_18
               subst e; rfl)
  · refine X_aload_n 4 0 dX4_setLampValue_4 rfl rfl ?_
    refine X_getR (f := 8) 5 dX4_setLampValue_5 lf_RX4_31 iw4 vc4 (by decide) (lyS s hs) rfl ?_
    refine X_iload_n 8 1 dX4_setLampValue_8 rfl rfl ?_
    refine X_iload_n 9 3 dX4_setLampValue_9 rfl rfl ?_
    refine X_cVV 10 [.int _, .int _] (e_X3_set ((s + 2)) ((s + 9)) 8 (rS_gr s hs) _ _ _) dX4_setLampValue_10 lm_RX4_76 2 ⟨wm_X3_set, by decide +kernel, rfl, rfl⟩ rfl ⟨Nat.le_of_ble_eq_true rfl, Nat.le_of_ble_eq_true rfl⟩ (rS_gr s hs).1 vc3 rfl rfl (Nat.le_of_ble_eq_true rfl) ?_
    rintro _ rfl
    refine X_goto 13 42 dX4_setLampValue_13 (by decide) ?_
    refine X_aload_n 42 0 dX4_setLampValue_42 rfl rfl ?_
    refine X_iconst 43 (1) dX4_setLampValue_43 (by decide) ?_
    refine X_putI (f := 6) 44 dX4_setLampValue_44 lf_RX4_18 iw4 vc4 (by decide) (lyS s hs) tyX4_ok nmX4 rfl rfl rfl (by decide) rfl rfl ?_
    refine X_vret 47 dX4_setLampValue_47 rfl ⟨_, rfl, rfl, ?_⟩
    rw [stR_nI (by omega) (by decide)]
    first | (have e : w = 0 := by rcases (show w = 0 ∨ w = 1 ∨ w = 2 by omega) with rfl | rfl | rfl <;> first | rfl | exact absurd c_1 (by decide)
             subst e; rfl)
          | (have e : w = 1 := by rcases (show w = 0 ∨ w = 1 ∨ w = 2 by omega) with rfl | rfl | rfl <;> first | rfl | exact absurd rfl c_1 | exact absurd c_18 (by decide)
             subst e; rfl)
          | (have e : w = 2 := by rcases (show w = 0 ∨ w = 1 ∨ w = 2 by omega) with rfl | rfl | rfl <;> first | rfl | exact absurd rfl c_1 | exact absurd rfl c_18
             subst e; rfl)
set_option maxHeartbeats 4000000 in
set_option maxRecDepth 100000 in
theorem e_X4_switchLamp (s : Nat) (hs : isS s) (k : Nat) (z : Int32) (μ : Mm) (hk : k < 8) : EvN ΛC mX4_switchLamp [.ref s, .int (nI k), .int z] μ (qV (fun μ' => uM (uM μ (s + 12) k (if z = 0 then 0 else 1)) s 6 1 = μ')) := by
  refine EvN_ofQ (by decide +kernel) rfl (fun _ => rfl) (fun _ => Nat.le_of_ble_eq_true rfl) (ls := [(0, .ref s), (1, .int (nI k)), (2, .int z)]) ?_
  refine X_aload_n 0 0 dX4_switchLamp_0 rfl rfl ?_
  refine X_getR (f := 11) 1 dX4_switchLamp_1 lf_RX4_40 iw4 vc4 (by decide) (lyS s hs) rfl ?_
  refine X_iload_n 4 1 dX4_switchLamp_4 rfl rfl ?_
  refine X_iload_n 5 2 dX4_switchLamp_5 rfl rfl ?_
  refine X_if_eq 6 13 dX4_switchLamp_6 (by decide) (fun c_6 => ?_) (fun c_6 => ?_)
  · refine X_iconst 13 (0) dX4_switchLamp_13 (by decide) ?_
    refine X_cVV 14 [.int _, .int _] (e_X3_set ((s + 5)) ((s + 12)) 8 (rS_wk s hs) _ _ _) dX4_switchLamp_14 lm_RX4_76 2 ⟨wm_X3_set, by decide +kernel, rfl, rfl⟩ rfl ⟨Nat.le_of_ble_eq_true rfl, Nat.le_of_ble_eq_true rfl⟩ (rS_wk s hs).1 vc3 rfl rfl (Nat.le_of_ble_eq_true rfl) ?_
    rintro _ rfl
    refine X_aload_n 17 0 dX4_switchLamp_17 rfl rfl ?_
    refine X_iconst 18 (1) dX4_switchLamp_18 (by decide) ?_
    refine X_putI (f := 6) 19 dX4_switchLamp_19 lf_RX4_18 iw4 vc4 (by decide) (lyS s hs) tyX4_ok nmX4 rfl rfl rfl (by decide) rfl rfl ?_
    refine X_vret 22 dX4_switchLamp_22 rfl ⟨_, rfl, rfl, ?_⟩
    rw [stR_nI (by omega) (by decide)]; first | rw [if_neg c_6] | rw [if_pos c_6]
  · refine X_iconst 9 (1) dX4_switchLamp_9 (by decide) ?_
    refine X_goto 10 14 dX4_switchLamp_10 (by decide) ?_
    refine X_cVV 14 [.int _, .int _] (e_X3_set ((s + 5)) ((s + 12)) 8 (rS_wk s hs) _ _ _) dX4_switchLamp_14 lm_RX4_76 2 ⟨wm_X3_set, by decide +kernel, rfl, rfl⟩ rfl ⟨Nat.le_of_ble_eq_true rfl, Nat.le_of_ble_eq_true rfl⟩ (rS_wk s hs).1 vc3 rfl rfl (Nat.le_of_ble_eq_true rfl) ?_
    rintro _ rfl
    refine X_aload_n 17 0 dX4_switchLamp_17 rfl rfl ?_
    refine X_iconst 18 (1) dX4_switchLamp_18 (by decide) ?_
    refine X_putI (f := 6) 19 dX4_switchLamp_19 lf_RX4_18 iw4 vc4 (by decide) (lyS s hs) tyX4_ok nmX4 rfl rfl rfl (by decide) rfl rfl ?_
    refine X_vret 22 dX4_switchLamp_22 rfl ⟨_, rfl, rfl, ?_⟩
    rw [stR_nI (by omega) (by decide)]; first | rw [if_neg c_6] | rw [if_pos c_6]
set_option maxHeartbeats 4000000 in
set_option maxRecDepth 100000 in
theorem e_X4_wearOut (s : Nat) (hs : isS s) (k : Nat) (z : Int32) (μ : Mm) (hk : k < 8) : EvN ΛC mX4_wearOut [.ref s, .int (nI k), .int z] μ (qV (fun μ' => uM (uM μ (s + 11) k (if μ (s + 11) k + z < 900 then μ (s + 11) k + z else 900)) s 6 1 = μ')) := by
  refine EvN_ofQ (by decide +kernel) rfl (fun _ => rfl) (fun _ => Nat.le_of_ble_eq_true rfl) (ls := [(0, .ref s), (1, .int (nI k)), (2, .int z)]) ?_
  refine X_aload_n 0 0 dX4_wearOut_0 rfl rfl ?_
  refine X_getR (f := 10) 1 dX4_wearOut_1 lf_RX4_37 iw4 vc4 (by decide) (lyS s hs) rfl ?_
  refine X_iload_n 4 1 dX4_wearOut_4 rfl rfl ?_
  refine X_sipush 5 (900) dX4_wearOut_5 (by decide) ?_
  refine X_aload_n 8 0 dX4_wearOut_8 rfl rfl ?_
  refine X_getR (f := 10) 9 dX4_wearOut_9 lf_RX4_37 iw4 vc4 (by decide) (lyS s hs) rfl ?_
  refine X_iload_n 12 1 dX4_wearOut_12 rfl rfl ?_
  refine X_cVI 13 [.int _] (e_X3_get ((s + 4)) ((s + 11)) 8 (rS_we s hs) _ _) dX4_wearOut_13 lm_RX4_72 1 ⟨wm_X3_get, by decide +kernel, rfl, rfl⟩ rfl ⟨Nat.le_of_ble_eq_true rfl, Nat.le_of_ble_eq_true rfl⟩ (rS_we s hs).1 vc3 rfl rfl (Nat.le_of_ble_eq_true rfl) ?_
  rintro _ _ ⟨rfl, rfl⟩
  rw [gt_nI (by omega) (by decide)]
  refine X_iload_n 16 2 dX4_wearOut_16 rfl rfl ?_
  refine X_iadd 17 dX4_wearOut_17 ?_
  refine X_mmin 18 dX4_wearOut_18 kw_539 kw_374 kw_42 kw_375 ⟨Nat.le_of_ble_eq_true rfl, Nat.le_of_ble_eq_true rfl⟩ ?_
  refine X_cVV 21 [.int _, .int _] (e_X3_set ((s + 4)) ((s + 11)) 8 (rS_we s hs) _ _ _) dX4_wearOut_21 lm_RX4_76 2 ⟨wm_X3_set, by decide +kernel, rfl, rfl⟩ rfl ⟨Nat.le_of_ble_eq_true rfl, Nat.le_of_ble_eq_true rfl⟩ (rS_we s hs).1 vc3 rfl rfl (Nat.le_of_ble_eq_true rfl) ?_
  rintro _ rfl
  refine X_aload_n 24 0 dX4_wearOut_24 rfl rfl ?_
  refine X_iconst 25 (1) dX4_wearOut_25 (by decide) ?_
  refine X_putI (f := 6) 26 dX4_wearOut_26 lf_RX4_18 iw4 vc4 (by decide) (lyS s hs) tyX4_ok nmX4 rfl rfl rfl (by decide) rfl rfl ?_
  refine X_vret 29 dX4_wearOut_29 rfl ⟨_, rfl, rfl, ?_⟩
  rw [stR_nI (by omega) (by decide)]
set_option maxHeartbeats 4000000 in
set_option maxRecDepth 100000 in
theorem e_X4_cornerValue (s : Nat) (hs : isS s) (k i : Nat) (z : Int32) (μ : Mm) (hk : k < 8) (hi : i < 4) : EvN ΛC mX4_cornerValue [.ref s, .int (nI k), .int (nI i), .int z] μ (qE (if z = 0 then μ (s + 13) (4 * k + i) else μ (s + 14) (4 * k + i)) μ) := by
  refine EvN_ofQ (by decide +kernel) rfl (fun _ => rfl) (fun _ => Nat.le_of_ble_eq_true rfl) (ls := [(0, .ref s), (1, .int (nI k)), (2, .int (nI i)), (3, .int z)]) ?_
  refine X_iload_n 0 3 dX4_cornerValue_0 rfl rfl ?_
  refine X_if_ne 1 19 dX4_cornerValue_1 (by decide) (fun c_1 => ?_) (fun c_1 => ?_)
  · refine X_aload_n 19 0 dX4_cornerValue_19 rfl rfl ?_
    refine X_getR (f := 13) 20 dX4_cornerValue_20 lf_RX4_46 iw4 vc4 (by decide) (lyS s hs) rfl ?_
    refine X_iconst 23 (4) dX4_cornerValue_23 (by decide) ?_
    refine X_iload_n 24 1 dX4_cornerValue_24 rfl rfl ?_
    refine X_imul 25 dX4_cornerValue_25 ?_
    refine X_iload_n 26 2 dX4_cornerValue_26 rfl rfl ?_
    refine X_iadd 27 dX4_cornerValue_27 ?_
    rw [m4]
    refine X_cVI 28 [.int _] (e_X3_get ((s + 7)) ((s + 14)) 32 (rS_cy s hs) _ _) dX4_cornerValue_28 lm_RX4_72 1 ⟨wm_X3_get, by decide +kernel, rfl, rfl⟩ rfl ⟨Nat.le_of_ble_eq_true rfl, Nat.le_of_ble_eq_true rfl⟩ (rS_cy s hs).1 vc3 rfl rfl (Nat.le_of_ble_eq_true rfl) ?_
    rintro _ _ ⟨rfl, rfl⟩
    rw [gt_nI (by omega) (by decide)]
    refine X_iret 31 dX4_cornerValue_31 rfl rfl ⟨_, rfl, _, rfl, ?_⟩
    first | exact ⟨if_pos c_1, rfl⟩ | exact ⟨if_neg c_1, rfl⟩
  · refine X_aload_n 4 0 dX4_cornerValue_4 rfl rfl ?_
    refine X_getR (f := 12) 5 dX4_cornerValue_5 lf_RX4_43 iw4 vc4 (by decide) (lyS s hs) rfl ?_
    refine X_iconst 8 (4) dX4_cornerValue_8 (by decide) ?_
    refine X_iload_n 9 1 dX4_cornerValue_9 rfl rfl ?_
    refine X_imul 10 dX4_cornerValue_10 ?_
    refine X_iload_n 11 2 dX4_cornerValue_11 rfl rfl ?_
    refine X_iadd 12 dX4_cornerValue_12 ?_
    rw [m4]
    refine X_cVI 13 [.int _] (e_X3_get ((s + 6)) ((s + 13)) 32 (rS_cx s hs) _ _) dX4_cornerValue_13 lm_RX4_72 1 ⟨wm_X3_get, by decide +kernel, rfl, rfl⟩ rfl ⟨Nat.le_of_ble_eq_true rfl, Nat.le_of_ble_eq_true rfl⟩ (rS_cx s hs).1 vc3 rfl rfl (Nat.le_of_ble_eq_true rfl) ?_
    rintro _ _ ⟨rfl, rfl⟩
    rw [gt_nI (by omega) (by decide)]
    refine X_goto 16 31 dX4_cornerValue_16 (by decide) ?_
    refine X_iret 31 dX4_cornerValue_31 rfl rfl ⟨_, rfl, _, rfl, ?_⟩
    first | exact ⟨if_pos c_1, rfl⟩ | exact ⟨if_neg c_1, rfl⟩
set_option maxHeartbeats 4000000 in
set_option maxRecDepth 100000 in
theorem e_X4_workingLamps (s : Nat) (hs : isS s) (lc : Nat) (μ : Mm) (hlc : μ s 5 = nI lc) (h8 : lc ≤ 8) : EvN ΛC mX4_workingLamps [.ref s] μ (qE (sumN lc (μ (s + 12))) μ) := by
  refine EvN_ofQ (by decide +kernel) rfl (fun _ => rfl) (fun _ => Nat.le_of_ble_eq_true rfl) (ls := [(0, .ref s)]) ?_
  refine X_iconst 0 (0) dX4_workingLamps_0 (by decide) ?_
  refine X_istore_n 1 [(1, .int _), (0, .ref _)] dX4_workingLamps_1 rfl (by decide) rfl ?_
  refine X_iconst 2 (0) dX4_workingLamps_2 (by decide) ?_
  refine X_istore_n 3 [(2, .int _), (1, .int _), (0, .ref _)] dX4_workingLamps_3 rfl (by decide) rfl ?_
  refine X_sub [2, 1, 0] [(0, .ref _), (1, .int _), (2, .int _)] rfl ?_
  have L_4 : ∀ (kf : Nat) (i : Nat), i ≤ lc → lc < i + kf → ∀ (x4_1 : Int32) (x4_2 : Int32), sumN i (μ (s + 12)) = x4_1 → nI i = x4_2 → X false ΛC mX4_workingLamps (QN (qE (sumN lc (μ (s + 12))) μ)) 4 [(0, .ref s), (1, .int x4_1), (2, .int x4_2)] [] μ := by
    intro kf
    induction kf with
    | zero => intro i hp4_0 hp4_1; exfalso; omega
    | succ kf ih_4 =>
      intro i hp4_0 hp4_1 x4_1 x4_2
      rintro rfl rfl
      refine X_iload_n 4 2 dX4_workingLamps_4 rfl rfl ?_
      refine X_aload_n 5 0 dX4_workingLamps_5 rfl rfl ?_
      refine X_getI (f := 5) 6 dX4_workingLamps_6 lf_RX4_58 iw4 vc4 (by decide) (lyS s hs) rfl ?_
      refine X_icmp_ge 9 29 dX4_workingLamps_9 (by decide) (fun c_9 => ?_) (fun c_9 => ?_)
      · have hge : lc ≤ i := c_ge hlc (by omega) (by omega) c_9
        have hie : i = lc := by omega
        subst hie
        refine X_iload_n 29 1 dX4_workingLamps_29 rfl rfl ?_
        refine X_iret 30 dX4_workingLamps_30 rfl rfl ⟨_, rfl, _, rfl, ?_⟩
        exact ⟨rfl, rfl⟩
      · have hlt : i < lc := c_lt hlc (by omega) (by omega) c_9
        refine X_iload_n 12 1 dX4_workingLamps_12 rfl rfl ?_
        refine X_aload_n 13 0 dX4_workingLamps_13 rfl rfl ?_
        refine X_getR (f := 11) 14 dX4_workingLamps_14 lf_RX4_40 iw4 vc4 (by decide) (lyS s hs) rfl ?_
        refine X_iload_n 17 2 dX4_workingLamps_17 rfl rfl ?_
        refine X_cVI 18 [.int _] (e_X3_get ((s + 5)) ((s + 12)) 8 (rS_wk s hs) _ _) dX4_workingLamps_18 lm_RX4_72 1 ⟨wm_X3_get, by decide +kernel, rfl, rfl⟩ rfl ⟨Nat.le_of_ble_eq_true rfl, Nat.le_of_ble_eq_true rfl⟩ (rS_wk s hs).1 vc3 rfl rfl (Nat.le_of_ble_eq_true rfl) ?_
        rintro _ _ ⟨rfl, rfl⟩
        rw [gt_nI (by omega) (by decide)]
        refine X_iadd 21 dX4_workingLamps_21 ?_
        refine X_istore_n 22 [(1, .int _), (0, .ref _), (2, .int _)] dX4_workingLamps_22 rfl (by decide) rfl ?_
        refine X_iinc 23 2 (_ + 1) [(2, .int _), (1, .int _), (0, .ref _)] dX4_workingLamps_23 rfl rfl (by decide) rfl ?_
        refine X_goto 26 4 dX4_workingLamps_26 (by decide) ?_
        refine X_sub [2, 1, 0] [(0, .ref _), (1, .int _), (2, .int _)] rfl ?_
        exact ih_4 (i + 1) (by omega) (by omega) _ _  (by rfl) (by exact (nI_1 i).symm)
  exact L_4 (lc + 1) 0 (by omega) (by omega) _ _  (by rfl) (by exact nI_0)
set_option maxHeartbeats 4000000 in
set_option maxRecDepth 100000 in
theorem e_X4_greatestWear (s : Nat) (hs : isS s) (lc : Nat) (μ : Mm) (hlc : μ s 5 = nI lc) (h8 : lc ≤ 8) : EvN ΛC mX4_greatestWear [.ref s] μ (qE (maxN lc (μ (s + 11))) μ) := by
  refine EvN_ofQ (by decide +kernel) rfl (fun _ => rfl) (fun _ => Nat.le_of_ble_eq_true rfl) (ls := [(0, .ref s)]) ?_
  refine X_iconst 0 (0) dX4_greatestWear_0 (by decide) ?_
  refine X_istore_n 1 [(1, .int _), (0, .ref _)] dX4_greatestWear_1 rfl (by decide) rfl ?_
  refine X_iconst 2 (0) dX4_greatestWear_2 (by decide) ?_
  refine X_istore_n 3 [(2, .int _), (1, .int _), (0, .ref _)] dX4_greatestWear_3 rfl (by decide) rfl ?_
  refine X_sub [2, 1, 0] [(0, .ref _), (1, .int _), (2, .int _)] rfl ?_
  have L_4 : ∀ (kf : Nat) (i : Nat), i ≤ lc → lc < i + kf → ∀ (x4_1 : Int32) (x4_2 : Int32), maxN i (μ (s + 11)) = x4_1 → nI i = x4_2 → X false ΛC mX4_greatestWear (QN (qE (maxN lc (μ (s + 11))) μ)) 4 [(0, .ref s), (1, .int x4_1), (2, .int x4_2)] [] μ := by
    intro kf
    induction kf with
    | zero => intro i hp4_0 hp4_1; exfalso; omega
    | succ kf ih_4 =>
      intro i hp4_0 hp4_1 x4_1 x4_2
      rintro rfl rfl
      refine X_iload_n 4 2 dX4_greatestWear_4 rfl rfl ?_
      refine X_aload_n 5 0 dX4_greatestWear_5 rfl rfl ?_
      refine X_getI (f := 5) 6 dX4_greatestWear_6 lf_RX4_58 iw4 vc4 (by decide) (lyS s hs) rfl ?_
      refine X_icmp_ge 9 31 dX4_greatestWear_9 (by decide) (fun c_9 => ?_) (fun c_9 => ?_)
      · have hge : lc ≤ i := c_ge hlc (by omega) (by omega) c_9
        have hie : i = lc := by omega
        subst hie
        refine X_iload_n 31 1 dX4_greatestWear_31 rfl rfl ?_
        refine X_iret 32 dX4_greatestWear_32 rfl rfl ⟨_, rfl, _, rfl, ?_⟩
        exact ⟨rfl, rfl⟩
      · have hlt : i < lc := c_lt hlc (by omega) (by omega) c_9
        refine X_iload_n 12 1 dX4_greatestWear_12 rfl rfl ?_
        refine X_aload_n 13 0 dX4_greatestWear_13 rfl rfl ?_
        refine X_getR (f := 10) 14 dX4_greatestWear_14 lf_RX4_37 iw4 vc4 (by decide) (lyS s hs) rfl ?_
        refine X_iload_n 17 2 dX4_greatestWear_17 rfl rfl ?_
        refine X_cVI 18 [.int _] (e_X3_get ((s + 4)) ((s + 11)) 8 (rS_we s hs) _ _) dX4_greatestWear_18 lm_RX4_72 1 ⟨wm_X3_get, by decide +kernel, rfl, rfl⟩ rfl ⟨Nat.le_of_ble_eq_true rfl, Nat.le_of_ble_eq_true rfl⟩ (rS_we s hs).1 vc3 rfl rfl (Nat.le_of_ble_eq_true rfl) ?_
        rintro _ _ ⟨rfl, rfl⟩
        rw [gt_nI (by omega) (by decide)]
        refine X_mmax 21 dX4_greatestWear_21 kw_705 kw_572 kw_42 kw_573 ⟨Nat.le_of_ble_eq_true rfl, Nat.le_of_ble_eq_true rfl⟩ ?_
        refine X_istore_n 24 [(1, .int _), (0, .ref _), (2, .int _)] dX4_greatestWear_24 rfl (by decide) rfl ?_
        refine X_iinc 25 2 (_ + 1) [(2, .int _), (1, .int _), (0, .ref _)] dX4_greatestWear_25 rfl rfl (by decide) rfl ?_
        refine X_goto 28 4 dX4_greatestWear_28 (by decide) ?_
        refine X_sub [2, 1, 0] [(0, .ref _), (1, .int _), (2, .int _)] rfl ?_
        exact ih_4 (i + 1) (by omega) (by omega) _ _  (by rfl) (by exact (nI_1 i).symm)
  exact L_4 (lc + 1) 0 (by omega) (by omega) _ _  (by rfl) (by exact nI_0)
set_option maxHeartbeats 4000000 in
set_option maxRecDepth 100000 in
theorem e_X4_sumOfLimits (s : Nat) (hs : isS s) (z : Int32) (lc : Nat) (μ : Mm) (hlc : μ s 5 = nI lc) (h8 : lc ≤ 8) : EvN ΛC mX4_sumOfLimits [.ref s, .int z] μ (qE (sumN lc (fun k => if bitB z k = true then lim μ s k else 0)) μ) := by
  refine EvN_ofQ (by decide +kernel) rfl (fun _ => rfl) (fun _ => Nat.le_of_ble_eq_true rfl) (ls := [(0, .ref s), (1, .int z)]) ?_
  refine X_iconst 0 (0) dX4_sumOfLimits_0 (by decide) ?_
  refine X_istore_n 1 [(2, .int _), (0, .ref _), (1, .int _)] dX4_sumOfLimits_1 rfl (by decide) rfl ?_
  refine X_iconst 2 (0) dX4_sumOfLimits_2 (by decide) ?_
  refine X_istore_n 3 [(3, .int _), (2, .int _), (0, .ref _), (1, .int _)] dX4_sumOfLimits_3 rfl (by decide) rfl ?_
  refine X_sub [2, 3, 1, 0] [(0, .ref _), (1, .int _), (2, .int _), (3, .int _)] rfl ?_
  have L_4 : ∀ (kf : Nat) (i : Nat), i ≤ lc → lc < i + kf → ∀ (x4_2 : Int32) (x4_3 : Int32), sumN i (fun k => if bitB z k = true then lim μ s k else 0) = x4_2 → nI i = x4_3 → X false ΛC mX4_sumOfLimits (QN (qE (sumN lc (fun k => if bitB z k = true then lim μ s k else 0)) μ)) 4 [(0, .ref s), (1, .int z), (2, .int x4_2), (3, .int x4_3)] [] μ := by
    intro kf
    induction kf with
    | zero => intro i hp4_0 hp4_1; exfalso; omega
    | succ kf ih_4 =>
      intro i hp4_0 hp4_1 x4_2 x4_3
      rintro rfl rfl
      refine X_iload_n 4 3 dX4_sumOfLimits_4 rfl rfl ?_
      refine X_aload_n 5 0 dX4_sumOfLimits_5 rfl rfl ?_
      refine X_getI (f := 5) 6 dX4_sumOfLimits_6 lf_RX4_58 iw4 vc4 (by decide) (lyS s hs) rfl ?_
      refine X_icmp_ge 9 38 dX4_sumOfLimits_9 (by decide) (fun c_9 => ?_) (fun c_9 => ?_)
      · have hge : lc ≤ i := c_ge hlc (by omega) (by omega) c_9
        have hie : i = lc := by omega
        subst hie
        refine X_iload_n 38 2 dX4_sumOfLimits_38 rfl rfl ?_
        refine X_iret 39 dX4_sumOfLimits_39 rfl rfl ⟨_, rfl, _, rfl, ?_⟩
        exact ⟨rfl, rfl⟩
      · have hlt : i < lc := c_lt hlc (by omega) (by omega) c_9
        refine X_iload_n 12 2 dX4_sumOfLimits_12 rfl rfl ?_
        refine X_iload_n 13 3 dX4_sumOfLimits_13 rfl rfl ?_
        refine X_iload_n 14 1 dX4_sumOfLimits_14 rfl rfl ?_
        refine X_cSI 15 [.int _, .int _] (e_X6_isIn _ _ _) dX4_sumOfLimits_15 lm_RX4_95 2 ⟨wm_X6_isIn, by decide +kernel, rfl, rfl⟩ rfl ⟨Nat.le_of_ble_eq_true rfl, Nat.le_of_ble_eq_true rfl⟩ rfl (Nat.le_of_ble_eq_true rfl) ?_
        rintro _ _ ⟨rfl, ⟨rfl, b_15⟩ | ⟨rfl, b_15⟩⟩
        · refine X_if_eq 18 29 dX4_sumOfLimits_18 (by decide) (fun c_0 => by exact absurd c_0 (by decide)) (fun _ => ?_)
          refine X_aload_n 21 0 dX4_sumOfLimits_21 rfl rfl ?_
          refine X_iload_n 22 3 dX4_sumOfLimits_22 rfl rfl ?_
          refine X_cVI 23 [.int _] (e_X4_limitOf s hs _ _ (by first | omega | assumption)) dX4_sumOfLimits_23 lm_RX4_92 1 ⟨wm_X4_limitOf, by decide +kernel, rfl, rfl⟩ rfl ⟨Nat.le_of_ble_eq_true rfl, Nat.le_of_ble_eq_true rfl⟩ (lyS s hs) vc4 rfl rfl (Nat.le_of_ble_eq_true rfl) ?_
          rintro _ _ ⟨rfl, rfl⟩
          refine X_goto 26 30 dX4_sumOfLimits_26 (by decide) ?_
          refine X_iadd 30 dX4_sumOfLimits_30 ?_
          refine X_istore_n 31 [(2, .int _), (0, .ref _), (1, .int _), (3, .int _)] dX4_sumOfLimits_31 rfl (by decide) rfl ?_
          refine X_iinc 32 3 (_ + 1) [(3, .int _), (2, .int _), (0, .ref _), (1, .int _)] dX4_sumOfLimits_32 rfl rfl (by decide) rfl ?_
          refine X_goto 35 4 dX4_sumOfLimits_35 (by decide) ?_
          refine X_sub [2, 3, 1, 0] [(0, .ref _), (1, .int _), (2, .int _), (3, .int _)] rfl ?_
          exact ih_4 (i + 1) (by omega) (by omega) _ _  (by (first | exact congrArg (_ + ·) (if_pos b_15) | exact congrArg (_ + ·) (if_neg b_15))) (by exact (nI_1 i).symm)
        · refine X_if_eq 18 29 dX4_sumOfLimits_18 (by decide) (fun _ => ?_) (fun c_0 => by exact absurd c_0 (by decide))
          refine X_iconst 29 (0) dX4_sumOfLimits_29 (by decide) ?_
          refine X_iadd 30 dX4_sumOfLimits_30 ?_
          refine X_istore_n 31 [(2, .int _), (0, .ref _), (1, .int _), (3, .int _)] dX4_sumOfLimits_31 rfl (by decide) rfl ?_
          refine X_iinc 32 3 (_ + 1) [(3, .int _), (2, .int _), (0, .ref _), (1, .int _)] dX4_sumOfLimits_32 rfl rfl (by decide) rfl ?_
          refine X_goto 35 4 dX4_sumOfLimits_35 (by decide) ?_
          refine X_sub [2, 3, 1, 0] [(0, .ref _), (1, .int _), (2, .int _), (3, .int _)] rfl ?_
          exact ih_4 (i + 1) (by omega) (by omega) _ _  (by (first | exact congrArg (_ + ·) (if_pos b_15) | exact congrArg (_ + ·) (if_neg b_15))) (by exact (nI_1 i).symm)
  exact L_4 (lc + 1) 0 (by omega) (by omega) _ _  (by rfl) (by exact nI_0)
set_option maxHeartbeats 4000000 in
set_option maxRecDepth 100000 in
theorem e_X4_sumOfFloors (s : Nat) (hs : isS s) (z : Int32) (lc : Nat) (μ : Mm) (hlc : μ s 5 = nI lc) (h8 : lc ≤ 8) : EvN ΛC mX4_sumOfFloors [.ref s, .int z] μ (qE (sumN lc (fun k => if bitB z k = true then flo μ s k else 0)) μ) := by
  refine EvN_ofQ (by decide +kernel) rfl (fun _ => rfl) (fun _ => Nat.le_of_ble_eq_true rfl) (ls := [(0, .ref s), (1, .int z)]) ?_
  refine X_iconst 0 (0) dX4_sumOfFloors_0 (by decide) ?_
  refine X_istore_n 1 [(2, .int _), (0, .ref _), (1, .int _)] dX4_sumOfFloors_1 rfl (by decide) rfl ?_
  refine X_iconst 2 (0) dX4_sumOfFloors_2 (by decide) ?_
  refine X_istore_n 3 [(3, .int _), (2, .int _), (0, .ref _), (1, .int _)] dX4_sumOfFloors_3 rfl (by decide) rfl ?_
  refine X_sub [2, 3, 1, 0] [(0, .ref _), (1, .int _), (2, .int _), (3, .int _)] rfl ?_
  have L_4 : ∀ (kf : Nat) (i : Nat), i ≤ lc → lc < i + kf → ∀ (x4_2 : Int32) (x4_3 : Int32), sumN i (fun k => if bitB z k = true then flo μ s k else 0) = x4_2 → nI i = x4_3 → X false ΛC mX4_sumOfFloors (QN (qE (sumN lc (fun k => if bitB z k = true then flo μ s k else 0)) μ)) 4 [(0, .ref s), (1, .int z), (2, .int x4_2), (3, .int x4_3)] [] μ := by
    intro kf
    induction kf with
    | zero => intro i hp4_0 hp4_1; exfalso; omega
    | succ kf ih_4 =>
      intro i hp4_0 hp4_1 x4_2 x4_3
      rintro rfl rfl
      refine X_iload_n 4 3 dX4_sumOfFloors_4 rfl rfl ?_
      refine X_aload_n 5 0 dX4_sumOfFloors_5 rfl rfl ?_
      refine X_getI (f := 5) 6 dX4_sumOfFloors_6 lf_RX4_58 iw4 vc4 (by decide) (lyS s hs) rfl ?_
      refine X_icmp_ge 9 38 dX4_sumOfFloors_9 (by decide) (fun c_9 => ?_) (fun c_9 => ?_)
      · have hge : lc ≤ i := c_ge hlc (by omega) (by omega) c_9
        have hie : i = lc := by omega
        subst hie
        refine X_iload_n 38 2 dX4_sumOfFloors_38 rfl rfl ?_
        refine X_iret 39 dX4_sumOfFloors_39 rfl rfl ⟨_, rfl, _, rfl, ?_⟩
        exact ⟨rfl, rfl⟩
      · have hlt : i < lc := c_lt hlc (by omega) (by omega) c_9
        refine X_iload_n 12 2 dX4_sumOfFloors_12 rfl rfl ?_
        refine X_iload_n 13 3 dX4_sumOfFloors_13 rfl rfl ?_
        refine X_iload_n 14 1 dX4_sumOfFloors_14 rfl rfl ?_
        refine X_cSI 15 [.int _, .int _] (e_X6_isIn _ _ _) dX4_sumOfFloors_15 lm_RX4_95 2 ⟨wm_X6_isIn, by decide +kernel, rfl, rfl⟩ rfl ⟨Nat.le_of_ble_eq_true rfl, Nat.le_of_ble_eq_true rfl⟩ rfl (Nat.le_of_ble_eq_true rfl) ?_
        rintro _ _ ⟨rfl, ⟨rfl, b_15⟩ | ⟨rfl, b_15⟩⟩
        · refine X_if_eq 18 29 dX4_sumOfFloors_18 (by decide) (fun c_0 => by exact absurd c_0 (by decide)) (fun _ => ?_)
          refine X_aload_n 21 0 dX4_sumOfFloors_21 rfl rfl ?_
          refine X_iload_n 22 3 dX4_sumOfFloors_22 rfl rfl ?_
          refine X_cVI 23 [.int _] (e_X4_floorOf s hs _ _ (by first | omega | assumption)) dX4_sumOfFloors_23 lm_RX4_99 1 ⟨wm_X4_floorOf, by decide +kernel, rfl, rfl⟩ rfl ⟨Nat.le_of_ble_eq_true rfl, Nat.le_of_ble_eq_true rfl⟩ (lyS s hs) vc4 rfl rfl (Nat.le_of_ble_eq_true rfl) ?_
          rintro _ _ ⟨rfl, rfl⟩
          refine X_goto 26 30 dX4_sumOfFloors_26 (by decide) ?_
          refine X_iadd 30 dX4_sumOfFloors_30 ?_
          refine X_istore_n 31 [(2, .int _), (0, .ref _), (1, .int _), (3, .int _)] dX4_sumOfFloors_31 rfl (by decide) rfl ?_
          refine X_iinc 32 3 (_ + 1) [(3, .int _), (2, .int _), (0, .ref _), (1, .int _)] dX4_sumOfFloors_32 rfl rfl (by decide) rfl ?_
          refine X_goto 35 4 dX4_sumOfFloors_35 (by decide) ?_
          refine X_sub [2, 3, 1, 0] [(0, .ref _), (1, .int _), (2, .int _), (3, .int _)] rfl ?_
          exact ih_4 (i + 1) (by omega) (by omega) _ _  (by (first | exact congrArg (_ + ·) (if_pos b_15) | exact congrArg (_ + ·) (if_neg b_15))) (by exact (nI_1 i).symm)
        · refine X_if_eq 18 29 dX4_sumOfFloors_18 (by decide) (fun _ => ?_) (fun c_0 => by exact absurd c_0 (by decide))
          refine X_iconst 29 (0) dX4_sumOfFloors_29 (by decide) ?_
          refine X_iadd 30 dX4_sumOfFloors_30 ?_
          refine X_istore_n 31 [(2, .int _), (0, .ref _), (1, .int _), (3, .int _)] dX4_sumOfFloors_31 rfl (by decide) rfl ?_
          refine X_iinc 32 3 (_ + 1) [(3, .int _), (2, .int _), (0, .ref _), (1, .int _)] dX4_sumOfFloors_32 rfl rfl (by decide) rfl ?_
          refine X_goto 35 4 dX4_sumOfFloors_35 (by decide) ?_
          refine X_sub [2, 3, 1, 0] [(0, .ref _), (1, .int _), (2, .int _), (3, .int _)] rfl ?_
          exact ih_4 (i + 1) (by omega) (by omega) _ _  (by (first | exact congrArg (_ + ·) (if_pos b_15) | exact congrArg (_ + ·) (if_neg b_15))) (by exact (nI_1 i).symm)
  exact L_4 (lc + 1) 0 (by omega) (by omega) _ _  (by rfl) (by exact nI_0)
set_option maxHeartbeats 4000000 in
set_option maxRecDepth 100000 in
theorem e_X4_sumOfTargets (s : Nat) (hs : isS s) (c r : Nat) (μ : Mm) (hc : μ s 0 = nI c) (hr : μ s 1 = nI r) (hcr : c * r ≤ 384) : EvN ΛC mX4_sumOfTargets [.ref s] μ (qE (sumN (c * r) (μ (s + 8))) μ) := by
  refine EvN_ofQ (by decide +kernel) rfl (fun _ => rfl) (fun _ => Nat.le_of_ble_eq_true rfl) (ls := [(0, .ref s)]) ?_
  obtain ⟨N, hN⟩ : ∃ N, N = c * r := ⟨_, rfl⟩
  have hm : μ s 0 * μ s 1 = nI N := by rw [hc, hr, pk_mul, hN]
  rw [← hN] at hcr ⊢
  refine X_iconst 0 (0) dX4_sumOfTargets_0 (by decide) ?_
  refine X_istore_n 1 [(1, .int _), (0, .ref _)] dX4_sumOfTargets_1 rfl (by decide) rfl ?_
  refine X_iconst 2 (0) dX4_sumOfTargets_2 (by decide) ?_
  refine X_istore_n 3 [(2, .int _), (1, .int _), (0, .ref _)] dX4_sumOfTargets_3 rfl (by decide) rfl ?_
  refine X_sub [2, 1, 0] [(0, .ref _), (1, .int _), (2, .int _)] rfl ?_
  have L_4 : ∀ (kf : Nat) (i : Nat), i ≤ N → N < i + kf → ∀ (x4_1 : Int32) (x4_2 : Int32), sumN i (μ (s + 8)) = x4_1 → nI i = x4_2 → X false ΛC mX4_sumOfTargets (QN (qE (sumN N (μ (s + 8))) μ)) 4 [(0, .ref s), (1, .int x4_1), (2, .int x4_2)] [] μ := by
    intro kf
    induction kf with
    | zero => intro i hp4_0 hp4_1; exfalso; omega
    | succ kf ih_4 =>
      intro i hp4_0 hp4_1 x4_1 x4_2
      rintro rfl rfl
      refine X_iload_n 4 2 dX4_sumOfTargets_4 rfl rfl ?_
      refine X_aload_n 5 0 dX4_sumOfTargets_5 rfl rfl ?_
      refine X_getI (f := 0) 6 dX4_sumOfTargets_6 lf_RX4_9 iw4 vc4 (by decide) (lyS s hs) rfl ?_
      refine X_aload_n 9 0 dX4_sumOfTargets_9 rfl rfl ?_
      refine X_getI (f := 1) 10 dX4_sumOfTargets_10 lf_RX4_15 iw4 vc4 (by decide) (lyS s hs) rfl ?_
      refine X_imul 13 dX4_sumOfTargets_13 ?_
      refine X_icmp_ge 14 34 dX4_sumOfTargets_14 (by decide) (fun c_14 => ?_) (fun c_14 => ?_)
      · have hge : N ≤ i := c_ge hm (by omega) (by omega) c_14
        have hie : i = N := by omega
        subst hie
        refine X_iload_n 34 1 dX4_sumOfTargets_34 rfl rfl ?_
        refine X_iret 35 dX4_sumOfTargets_35 rfl rfl ⟨_, rfl, _, rfl, ?_⟩
        exact ⟨rfl, rfl⟩
      · have hlt : i < N := c_lt hm (by omega) (by omega) c_14
        refine X_iload_n 17 1 dX4_sumOfTargets_17 rfl rfl ?_
        refine X_aload_n 18 0 dX4_sumOfTargets_18 rfl rfl ?_
        refine X_getR (f := 7) 19 dX4_sumOfTargets_19 lf_RX4_27 iw4 vc4 (by decide) (lyS s hs) rfl ?_
        refine X_iload_n 22 2 dX4_sumOfTargets_22 rfl rfl ?_
        refine X_cVI 23 [.int _] (e_X3_get ((s + 1)) ((s + 8)) 384 (rS_tg s hs) _ _) dX4_sumOfTargets_23 lm_RX4_72 1 ⟨wm_X3_get, by decide +kernel, rfl, rfl⟩ rfl ⟨Nat.le_of_ble_eq_true rfl, Nat.le_of_ble_eq_true rfl⟩ (rS_tg s hs).1 vc3 rfl rfl (Nat.le_of_ble_eq_true rfl) ?_
        rintro _ _ ⟨rfl, rfl⟩
        rw [gt_nI (by omega) (by decide)]
        refine X_iadd 26 dX4_sumOfTargets_26 ?_
        refine X_istore_n 27 [(1, .int _), (0, .ref _), (2, .int _)] dX4_sumOfTargets_27 rfl (by decide) rfl ?_
        refine X_iinc 28 2 (_ + 1) [(2, .int _), (1, .int _), (0, .ref _)] dX4_sumOfTargets_28 rfl rfl (by decide) rfl ?_
        refine X_goto 31 4 dX4_sumOfTargets_31 (by decide) ?_
        refine X_sub [2, 1, 0] [(0, .ref _), (1, .int _), (2, .int _)] rfl ?_
        exact ih_4 (i + 1) (by omega) (by omega) _ _  (by rfl) (by exact (nI_1 i).symm)
  exact L_4 (N + 1) 0 (by omega) (by omega) _ _  (by rfl) (by exact nI_0)
set_option maxHeartbeats 4000000 in
set_option maxRecDepth 100000 in
theorem e_X4_isGood (s : Nat) (hs : isS s) (k : Nat) (μ : Mm) (hk : k < 8) : EvN ΛC mX4_isGood [.ref s, .int (nI k)] μ (qB (goodB μ s k = true) μ) := by
  refine EvN_ofQ (by decide +kernel) rfl (fun _ => rfl) (fun _ => Nat.le_of_ble_eq_true rfl) (ls := [(0, .ref s), (1, .int (nI k))]) ?_
  refine X_iconst 0 (0) dX4_isGood_0 (by decide) ?_
  refine X_istore_n 1 [(2, .int _), (0, .ref _), (1, .int _)] dX4_isGood_1 rfl (by decide) rfl ?_
  refine X_iconst 2 (0) dX4_isGood_2 (by decide) ?_
  refine X_istore_n 3 [(3, .int _), (2, .int _), (0, .ref _), (1, .int _)] dX4_isGood_3 rfl (by decide) rfl ?_
  refine X_sub [2, 3, 1, 0] [(0, .ref _), (1, .int _), (2, .int _), (3, .int _)] rfl ?_
  have L_4 : ∀ (kf : Nat) (i : Nat), i ≤ 4 → 4 < i + kf → allN i (fun i => decide (0 ≤ turnS μ s k i)) = true → ∀ (x4_2 : Int32) (x4_3 : Int32), areaS μ s k i = x4_2 → nI i = x4_3 → X false ΛC mX4_isGood (QN (qB (goodB μ s k = true) μ)) 4 [(0, .ref s), (1, .int (nI k)), (2, .int x4_2), (3, .int x4_3)] [] μ := by
    intro kf
    induction kf with
    | zero => intro i hp4_0 hp4_1 hp4_2; exfalso; omega
    | succ kf ih_4 =>
      intro i hp4_0 hp4_1 hp4_2 x4_2 x4_3
      rintro rfl rfl
      refine X_iload_n 4 3 dX4_isGood_4 rfl rfl ?_
      refine X_iconst 5 (4) dX4_isGood_5 (by decide) ?_
      refine X_icmp_ge 6 154 dX4_isGood_6 (by decide) (fun c_6 => ?_) (fun c_6 => ?_)
      · have hge : 4 ≤ i := c_ge rfl (by decide) (by omega) c_6
        have hie : i = 4 := by omega
        subst hie
        refine X_iload_n 154 2 dX4_isGood_154 rfl rfl ?_
        refine X_if_le 155 162 dX4_isGood_155 (by decide) (fun c_155 => ?_) (fun c_155 => ?_)
        · refine X_iconst 162 (0) dX4_isGood_162 (by decide) ?_
          refine X_iret 163 dX4_isGood_163 rfl rfl ⟨_, rfl, _, rfl, ?_⟩
          refine ⟨rfl, Or.inr ⟨rfl, ?_⟩⟩
          first
          | exact fun h => c_115 (of_decide_eq_true (allN_iff.mp (Bool.and_eq_true_iff.mp h).1 i hlt))
          | exact Bool.and_eq_true_iff.mpr ⟨hp4_2, decide_eq_true (Int32.not_le.mp c_155)⟩
          | exact fun h => absurd (of_decide_eq_true (Bool.and_eq_true_iff.mp h).2) (Int32.not_lt.mpr c_155)
        · refine X_iconst 158 (1) dX4_isGood_158 (by decide) ?_
          refine X_goto 159 163 dX4_isGood_159 (by decide) ?_
          refine X_iret 163 dX4_isGood_163 rfl rfl ⟨_, rfl, _, rfl, ?_⟩
          refine ⟨rfl, Or.inl ⟨rfl, ?_⟩⟩
          first
          | exact fun h => c_115 (of_decide_eq_true (allN_iff.mp (Bool.and_eq_true_iff.mp h).1 i hlt))
          | exact Bool.and_eq_true_iff.mpr ⟨hp4_2, decide_eq_true (Int32.not_le.mp c_155)⟩
          | exact fun h => absurd (of_decide_eq_true (Bool.and_eq_true_iff.mp h).2) (Int32.not_lt.mpr c_155)
      · have hlt : i < 4 := c_lt rfl (by decide) (by omega) c_6
        refine X_iconst 9 (4) dX4_isGood_9 (by decide) ?_
        refine X_iload_n 10 1 dX4_isGood_10 rfl rfl ?_
        refine X_imul 11 dX4_isGood_11 ?_
        refine X_iload_n 12 3 dX4_isGood_12 rfl rfl ?_
        refine X_iadd 13 dX4_isGood_13 ?_
        rw [m4]
        refine X_istore 14 [(4, .int _), (0, .ref _), (1, .int _), (2, .int _), (3, .int _)] dX4_isGood_14 (by decide) rfl ?_
        refine X_iconst 16 (4) dX4_isGood_16 (by decide) ?_
        refine X_iload_n 17 2 dX4_isGood_17 rfl rfl ?_
        refine X_imul 18 dX4_isGood_18 ?_
        refine X_iload_n 19 4 dX4_isGood_19 rfl rfl ?_
        refine X_iconst 20 (1) dX4_isGood_20 (by decide) ?_
        refine X_iadd 21 dX4_isGood_21 ?_
        rw [nI_1]
        refine X_iconst 22 (4) dX4_isGood_22 (by decide) ?_
        refine X_irem 23 dX4_isGood_23 (by decide) ?_
        rw [rem4 (by omega)]
        refine X_iadd 24 dX4_isGood_24 ?_
        rw [m4]
        refine X_istore 25 [(5, .int _), (4, .int _), (0, .ref _), (1, .int _), (2, .int _), (3, .int _)] dX4_isGood_25 (by decide) rfl ?_
        refine X_iconst 27 (4) dX4_isGood_27 (by decide) ?_
        refine X_iload_n 28 3 dX4_isGood_28 rfl rfl ?_
        refine X_imul 29 dX4_isGood_29 ?_
        refine X_iload_n 30 5 dX4_isGood_30 rfl rfl ?_
        refine X_iconst 31 (2) dX4_isGood_31 (by decide) ?_
        refine X_iadd 32 dX4_isGood_32 ?_
        rw [nI_2]
        refine X_iconst 33 (4) dX4_isGood_33 (by decide) ?_
        refine X_irem 34 dX4_isGood_34 (by decide) ?_
        rw [rem4 (by omega)]
        refine X_iadd 35 dX4_isGood_35 ?_
        rw [m4]
        refine X_istore 36 [(6, .int _), (5, .int _), (4, .int _), (0, .ref _), (1, .int _), (2, .int _), (3, .int _)] dX4_isGood_36 (by decide) rfl ?_
        refine X_aload_n 38 3 dX4_isGood_38 rfl rfl ?_
        refine X_getR (f := 12) 39 dX4_isGood_39 lf_RX4_43 iw4 vc4 (by decide) (lyS s hs) rfl ?_
        refine X_iload 42 1 dX4_isGood_42 rfl ?_
        refine X_cVI 44 [.int _] (e_X3_get ((s + 6)) ((s + 13)) 32 (rS_cx s hs) _ _) dX4_isGood_44 lm_RX4_72 1 ⟨wm_X3_get, by decide +kernel, rfl, rfl⟩ rfl ⟨Nat.le_of_ble_eq_true rfl, Nat.le_of_ble_eq_true rfl⟩ (rS_cx s hs).1 vc3 rfl rfl (Nat.le_of_ble_eq_true rfl) ?_
        rintro _ _ ⟨rfl, rfl⟩
        rw [gt_nI (by omega) (by decide)]
        refine X_istore 47 [(7, .int _), (6, .int _), (5, .int _), (4, .int _), (0, .ref _), (1, .int _), (2, .int _), (3, .int _)] dX4_isGood_47 (by decide) rfl ?_
        refine X_aload_n 49 4 dX4_isGood_49 rfl rfl ?_
        refine X_getR (f := 13) 50 dX4_isGood_50 lf_RX4_46 iw4 vc4 (by decide) (lyS s hs) rfl ?_
        refine X_iload 53 2 dX4_isGood_53 rfl ?_
        refine X_cVI 55 [.int _] (e_X3_get ((s + 7)) ((s + 14)) 32 (rS_cy s hs) _ _) dX4_isGood_55 lm_RX4_72 1 ⟨wm_X3_get, by decide +kernel, rfl, rfl⟩ rfl ⟨Nat.le_of_ble_eq_true rfl, Nat.le_of_ble_eq_true rfl⟩ (rS_cy s hs).1 vc3 rfl rfl (Nat.le_of_ble_eq_true rfl) ?_
        rintro _ _ ⟨rfl, rfl⟩
        rw [gt_nI (by omega) (by decide)]
        refine X_istore 58 [(8, .int _), (7, .int _), (6, .int _), (5, .int _), (4, .int _), (0, .ref _), (1, .int _), (2, .int _), (3, .int _)] dX4_isGood_58 (by decide) rfl ?_
        refine X_iload 60 1 dX4_isGood_60 rfl ?_
        refine X_aload_n 62 5 dX4_isGood_62 rfl rfl ?_
        refine X_getR (f := 12) 63 dX4_isGood_63 lf_RX4_43 iw4 vc4 (by decide) (lyS s hs) rfl ?_
        refine X_iload 66 4 dX4_isGood_66 rfl ?_
        refine X_cVI 68 [.int _] (e_X3_get ((s + 6)) ((s + 13)) 32 (rS_cx s hs) _ _) dX4_isGood_68 lm_RX4_72 1 ⟨wm_X3_get, by decide +kernel, rfl, rfl⟩ rfl ⟨Nat.le_of_ble_eq_true rfl, Nat.le_of_ble_eq_true rfl⟩ (rS_cx s hs).1 vc3 rfl rfl (Nat.le_of_ble_eq_true rfl) ?_
        rintro _ _ ⟨rfl, rfl⟩
        rw [gt_nI (by omega) (by decide)]
        refine X_isub 71 dX4_isGood_71 ?_
        refine X_iload 72 0 dX4_isGood_72 rfl ?_
        refine X_aload_n 74 5 dX4_isGood_74 rfl rfl ?_
        refine X_getR (f := 13) 75 dX4_isGood_75 lf_RX4_46 iw4 vc4 (by decide) (lyS s hs) rfl ?_
        refine X_iload 78 4 dX4_isGood_78 rfl ?_
        refine X_cVI 80 [.int _] (e_X3_get ((s + 7)) ((s + 14)) 32 (rS_cy s hs) _ _) dX4_isGood_80 lm_RX4_72 1 ⟨wm_X3_get, by decide +kernel, rfl, rfl⟩ rfl ⟨Nat.le_of_ble_eq_true rfl, Nat.le_of_ble_eq_true rfl⟩ (rS_cy s hs).1 vc3 rfl rfl (Nat.le_of_ble_eq_true rfl) ?_
        rintro _ _ ⟨rfl, rfl⟩
        rw [gt_nI (by omega) (by decide)]
        refine X_isub 83 dX4_isGood_83 ?_
        refine X_aload_n 84 5 dX4_isGood_84 rfl rfl ?_
        refine X_getR (f := 12) 85 dX4_isGood_85 lf_RX4_43 iw4 vc4 (by decide) (lyS s hs) rfl ?_
        refine X_iload 88 2 dX4_isGood_88 rfl ?_
        refine X_cVI 90 [.int _] (e_X3_get ((s + 6)) ((s + 13)) 32 (rS_cx s hs) _ _) dX4_isGood_90 lm_RX4_72 1 ⟨wm_X3_get, by decide +kernel, rfl, rfl⟩ rfl ⟨Nat.le_of_ble_eq_true rfl, Nat.le_of_ble_eq_true rfl⟩ (rS_cx s hs).1 vc3 rfl rfl (Nat.le_of_ble_eq_true rfl) ?_
        rintro _ _ ⟨rfl, rfl⟩
        rw [gt_nI (by omega) (by decide)]
        refine X_iload 93 1 dX4_isGood_93 rfl ?_
        refine X_isub 95 dX4_isGood_95 ?_
        refine X_aload_n 96 5 dX4_isGood_96 rfl rfl ?_
        refine X_getR (f := 13) 97 dX4_isGood_97 lf_RX4_46 iw4 vc4 (by decide) (lyS s hs) rfl ?_
        refine X_iload 100 2 dX4_isGood_100 rfl ?_
        refine X_cVI 102 [.int _] (e_X3_get ((s + 7)) ((s + 14)) 32 (rS_cy s hs) _ _) dX4_isGood_102 lm_RX4_72 1 ⟨wm_X3_get, by decide +kernel, rfl, rfl⟩ rfl ⟨Nat.le_of_ble_eq_true rfl, Nat.le_of_ble_eq_true rfl⟩ (rS_cy s hs).1 vc3 rfl rfl (Nat.le_of_ble_eq_true rfl) ?_
        rintro _ _ ⟨rfl, rfl⟩
        rw [gt_nI (by omega) (by decide)]
        refine X_iload 105 0 dX4_isGood_105 rfl ?_
        refine X_isub 107 dX4_isGood_107 ?_
        refine X_cSI 108 [.int _, .int _, .int _, .int _] (e_X6_cross _ _ _ _ _) dX4_isGood_108 lm_RX4_102 4 ⟨wm_X6_cross, by decide +kernel, rfl, rfl⟩ rfl ⟨Nat.le_of_ble_eq_true rfl, Nat.le_of_ble_eq_true rfl⟩ rfl (Nat.le_of_ble_eq_true rfl) ?_
        rintro _ _ ⟨rfl, rfl⟩
        refine X_istore 111 [(9, .int _), (8, .int _), (7, .int _), (6, .int _), (5, .int _), (4, .int _), (0, .ref _), (1, .int _), (2, .int _), (3, .int _)] dX4_isGood_111 (by decide) rfl ?_
        refine X_iload 113 0 dX4_isGood_113 rfl ?_
        refine X_if_ge 115 120 dX4_isGood_115 (by decide) (fun c_115 => ?_) (fun c_115 => ?_)
        · refine X_iload_n 120 8 dX4_isGood_120 rfl rfl ?_
          refine X_aload_n 121 6 dX4_isGood_121 rfl rfl ?_
          refine X_getR (f := 12) 122 dX4_isGood_122 lf_RX4_43 iw4 vc4 (by decide) (lyS s hs) rfl ?_
          refine X_iload 125 5 dX4_isGood_125 rfl ?_
          refine X_cVI 127 [.int _] (e_X3_get ((s + 6)) ((s + 13)) 32 (rS_cx s hs) _ _) dX4_isGood_127 lm_RX4_72 1 ⟨wm_X3_get, by decide +kernel, rfl, rfl⟩ rfl ⟨Nat.le_of_ble_eq_true rfl, Nat.le_of_ble_eq_true rfl⟩ (rS_cx s hs).1 vc3 rfl rfl (Nat.le_of_ble_eq_true rfl) ?_
          rintro _ _ ⟨rfl, rfl⟩
          rw [gt_nI (by omega) (by decide)]
          refine X_aload_n 130 6 dX4_isGood_130 rfl rfl ?_
          refine X_getR (f := 13) 131 dX4_isGood_131 lf_RX4_46 iw4 vc4 (by decide) (lyS s hs) rfl ?_
          refine X_iload 134 5 dX4_isGood_134 rfl ?_
          refine X_cVI 136 [.int _] (e_X3_get ((s + 7)) ((s + 14)) 32 (rS_cy s hs) _ _) dX4_isGood_136 lm_RX4_72 1 ⟨wm_X3_get, by decide +kernel, rfl, rfl⟩ rfl ⟨Nat.le_of_ble_eq_true rfl, Nat.le_of_ble_eq_true rfl⟩ (rS_cy s hs).1 vc3 rfl rfl (Nat.le_of_ble_eq_true rfl) ?_
          rintro _ _ ⟨rfl, rfl⟩
          rw [gt_nI (by omega) (by decide)]
          refine X_iload 139 2 dX4_isGood_139 rfl ?_
          refine X_iload 141 1 dX4_isGood_141 rfl ?_
          refine X_cSI 143 [.int _, .int _, .int _, .int _] (e_X6_cross _ _ _ _ _) dX4_isGood_143 lm_RX4_102 4 ⟨wm_X6_cross, by decide +kernel, rfl, rfl⟩ rfl ⟨Nat.le_of_ble_eq_true rfl, Nat.le_of_ble_eq_true rfl⟩ rfl (Nat.le_of_ble_eq_true rfl) ?_
          rintro _ _ ⟨rfl, rfl⟩
          refine X_iadd 146 dX4_isGood_146 ?_
          refine X_istore_n 147 [(2, .int _), (9, .int _), (8, .int _), (7, .int _), (6, .int _), (5, .int _), (4, .int _), (0, .ref _), (1, .int _), (3, .int _)] dX4_isGood_147 rfl (by decide) rfl ?_
          refine X_iinc 148 9 (_ + 1) [(3, .int _), (2, .int _), (9, .int _), (8, .int _), (7, .int _), (6, .int _), (5, .int _), (4, .int _), (0, .ref _), (1, .int _)] dX4_isGood_148 rfl rfl (by decide) rfl ?_
          refine X_goto 151 4 dX4_isGood_151 (by decide) ?_
          refine X_sub [8, 9, 1, 0] [(0, .ref _), (1, .int _), (2, .int _), (3, .int _)] rfl ?_
          exact ih_4 (i + 1) (by omega) (by omega) (allN_succ hp4_2 (decide_eq_true c_115)) _ _  (by rfl) (by exact (nI_1 i).symm)
        · refine X_iconst 118 (0) dX4_isGood_118 (by decide) ?_
          refine X_iret 119 dX4_isGood_119 rfl rfl ⟨_, rfl, _, rfl, ?_⟩
          refine ⟨rfl, Or.inr ⟨rfl, ?_⟩⟩
          first
          | exact fun h => c_115 (of_decide_eq_true (allN_iff.mp (Bool.and_eq_true_iff.mp h).1 i hlt))
          | exact Bool.and_eq_true_iff.mpr ⟨hp4_2, decide_eq_true (Int32.not_le.mp c_155)⟩
          | exact fun h => absurd (of_decide_eq_true (Bool.and_eq_true_iff.mp h).2) (Int32.not_lt.mpr c_155)
  exact L_4 5 0 (by omega) (by omega) rfl _ _  (by rfl) (by exact nI_0)
set_option maxHeartbeats 4000000 in
set_option maxRecDepth 100000 in
theorem e_X4_shiningLamps (s : Nat) (hs : isS s) (lc : Nat) (μ : Mm) (hlc : μ s 5 = nI lc) (h8 : lc ≤ 8) : EvN ΛC mX4_shiningLamps [.ref s] μ (qE (orN lc (shiB μ s)) μ) := by
  refine EvN_ofQ (by decide +kernel) rfl (fun _ => rfl) (fun _ => Nat.le_of_ble_eq_true rfl) (ls := [(0, .ref s)]) ?_
  refine X_iconst 0 (0) dX4_shiningLamps_0 (by decide) ?_
  refine X_istore_n 1 [(1, .int _), (0, .ref _)] dX4_shiningLamps_1 rfl (by decide) rfl ?_
  refine X_iconst 2 (0) dX4_shiningLamps_2 (by decide) ?_
  refine X_istore_n 3 [(2, .int _), (1, .int _), (0, .ref _)] dX4_shiningLamps_3 rfl (by decide) rfl ?_
  refine X_sub [2, 1, 0] [(0, .ref _), (1, .int _), (2, .int _)] rfl ?_
  have L_4 : ∀ (kf : Nat) (i : Nat), i ≤ lc → lc < i + kf → ∀ (x4_1 : Int32) (x4_2 : Int32), orN i (shiB μ s) = x4_1 → nI i = x4_2 → X false ΛC mX4_shiningLamps (QN (qE (orN lc (shiB μ s)) μ)) 4 [(0, .ref s), (1, .int x4_1), (2, .int x4_2)] [] μ := by
    intro kf
    induction kf with
    | zero => intro i hp4_0 hp4_1; exfalso; omega
    | succ kf ih_4 =>
      intro i hp4_0 hp4_1 x4_1 x4_2
      rintro rfl rfl
      refine X_iload_n 4 2 dX4_shiningLamps_4 rfl rfl ?_
      refine X_aload_n 5 0 dX4_shiningLamps_5 rfl rfl ?_
      refine X_getI (f := 5) 6 dX4_shiningLamps_6 lf_RX4_58 iw4 vc4 (by decide) (lyS s hs) rfl ?_
      refine X_icmp_ge 9 40 dX4_shiningLamps_9 (by decide) (fun c_9 => ?_) (fun c_9 => ?_)
      · have hge : lc ≤ i := c_ge hlc (by omega) (by omega) c_9
        have hie : i = lc := by omega
        subst hie
        refine X_iload_n 40 1 dX4_shiningLamps_40 rfl rfl ?_
        refine X_iret 41 dX4_shiningLamps_41 rfl rfl ⟨_, rfl, _, rfl, ?_⟩
        exact ⟨rfl, rfl⟩
      · have hlt : i < lc := c_lt hlc (by omega) (by omega) c_9
        refine X_aload_n 12 0 dX4_shiningLamps_12 rfl rfl ?_
        refine X_iload_n 13 2 dX4_shiningLamps_13 rfl rfl ?_
        refine X_cVI 14 [.int _] (e_X4_isWorking s hs _ _ (by first | omega | assumption)) dX4_shiningLamps_14 lm_RX4_106 1 ⟨wm_X4_isWorking, by decide +kernel, rfl, rfl⟩ rfl ⟨Nat.le_of_ble_eq_true rfl, Nat.le_of_ble_eq_true rfl⟩ (lyS s hs) vc4 rfl rfl (Nat.le_of_ble_eq_true rfl) ?_
        rintro _ _ ⟨rfl, ⟨rfl, b_14⟩ | ⟨rfl, b_14⟩⟩
        · refine X_if_eq 17 34 dX4_shiningLamps_17 (by decide) (fun c_0 => by exact absurd c_0 (by decide)) (fun _ => ?_)
          refine X_aload_n 20 0 dX4_shiningLamps_20 rfl rfl ?_
          refine X_iload_n 21 2 dX4_shiningLamps_21 rfl rfl ?_
          refine X_cVI 22 [.int _] (e_X4_isGood s hs _ _ (by first | omega | assumption)) dX4_shiningLamps_22 lm_RX4_110 1 ⟨wm_X4_isGood, by decide +kernel, rfl, rfl⟩ rfl ⟨Nat.le_of_ble_eq_true rfl, Nat.le_of_ble_eq_true rfl⟩ (lyS s hs) vc4 rfl rfl (Nat.le_of_ble_eq_true rfl) ?_
          rintro _ _ ⟨rfl, ⟨rfl, b_22⟩ | ⟨rfl, b_22⟩⟩
          · refine X_if_eq 25 34 dX4_shiningLamps_25 (by decide) (fun c_0 => by exact absurd c_0 (by decide)) (fun _ => ?_)
            refine X_iload_n 28 1 dX4_shiningLamps_28 rfl rfl ?_
            refine X_iconst 29 (1) dX4_shiningLamps_29 (by decide) ?_
            refine X_iload_n 30 2 dX4_shiningLamps_30 rfl rfl ?_
            refine X_ishl 31 dX4_shiningLamps_31 ?_
            refine X_ior 32 dX4_shiningLamps_32 ?_
            refine X_istore_n 33 [(1, .int _), (0, .ref _), (2, .int _)] dX4_shiningLamps_33 rfl (by decide) rfl ?_
            refine X_iinc 34 2 (_ + 1) [(2, .int _), (1, .int _), (0, .ref _)] dX4_shiningLamps_34 rfl rfl (by decide) rfl ?_
            refine X_goto 37 4 dX4_shiningLamps_37 (by decide) ?_
            refine X_sub [2, 1, 0] [(0, .ref _), (1, .int _), (2, .int _)] rfl ?_
            exact ih_4 (i + 1) (by omega) (by omega) _ _  (by (first | exact orN_t (shi_t b_14 b_22) | exact orN_f (shi_f1 b_14) | exact orN_f (shi_f2 b_22))) (by exact (nI_1 i).symm)
          · refine X_if_eq 25 34 dX4_shiningLamps_25 (by decide) (fun _ => ?_) (fun c_0 => by exact absurd c_0 (by decide))
            refine X_iinc 34 2 (_ + 1) [(2, .int _), (0, .ref _), (1, .int _)] dX4_shiningLamps_34 rfl rfl (by decide) rfl ?_
            refine X_goto 37 4 dX4_shiningLamps_37 (by decide) ?_
            refine X_sub [1, 2, 0] [(0, .ref _), (1, .int _), (2, .int _)] rfl ?_
            exact ih_4 (i + 1) (by omega) (by omega) _ _  (by (first | exact orN_t (shi_t b_14 b_22) | exact orN_f (shi_f1 b_14) | exact orN_f (shi_f2 b_22))) (by exact (nI_1 i).symm)
        · refine X_if_eq 17 34 dX4_shiningLamps_17 (by decide) (fun _ => ?_) (fun c_0 => by exact absurd c_0 (by decide))
          refine X_iinc 34 2 (_ + 1) [(2, .int _), (0, .ref _), (1, .int _)] dX4_shiningLamps_34 rfl rfl (by decide) rfl ?_
          refine X_goto 37 4 dX4_shiningLamps_37 (by decide) ?_
          refine X_sub [1, 2, 0] [(0, .ref _), (1, .int _), (2, .int _)] rfl ?_
          exact ih_4 (i + 1) (by omega) (by omega) _ _  (by (first | exact orN_t (shi_t b_14 b_22) | exact orN_f (shi_f1 b_14) | exact orN_f (shi_f2 b_22))) (by exact (nI_1 i).symm)
  exact L_4 (lc + 1) 0 (by omega) (by omega) _ _  (by rfl) (by exact nI_0)
set_option maxHeartbeats 4000000 in
set_option maxRecDepth 100000 in
theorem e_X4_weightAt (s : Nat) (hs : isS s) (k : Nat) (px py : Int32) (μ : Mm) (hk : k < 8) : EvN ΛC mX4_weightAt [.ref s, .int (nI k), .int px, .int py] μ (qE (wgt μ s k px py) μ) := by
  refine EvN_ofQ (by decide +kernel) rfl (fun _ => rfl) (fun _ => Nat.le_of_ble_eq_true rfl) (ls := [(0, .ref s), (1, .int (nI k)), (2, .int px), (3, .int py)]) ?_
  refine X_iconst 0 (-1) dX4_weightAt_0 (by decide) ?_
  refine X_istore 1 [(4, .int _), (0, .ref _), (1, .int _), (2, .int _), (3, .int _)] dX4_weightAt_1 (by decide) rfl ?_
  refine X_iconst 3 (0) dX4_weightAt_3 (by decide) ?_
  refine X_istore 4 [(5, .int _), (4, .int _), (0, .ref _), (1, .int _), (2, .int _), (3, .int _)] dX4_weightAt_4 (by decide) rfl ?_
  refine X_sub [2, 3, 4, 5, 1, 0] [(0, .ref _), (1, .int _), (2, .int _), (3, .int _), (4, .int _), (5, .int _)] rfl ?_
  have L_6 : ∀ (kf : Nat) (i : Nat), i ≤ 4 → 4 < i + kf → allN i (fun i => decide (0 ≤ htS μ s k px py i)) = true → ∀ (x6_4 : Int32) (x6_5 : Int32), nearS μ s k px py i = x6_4 → nI i = x6_5 → X false ΛC mX4_weightAt (QN (qE (wgt μ s k px py) μ)) 6 [(0, .ref s), (1, .int (nI k)), (2, .int px), (3, .int py), (4, .int x6_4), (5, .int x6_5)] [] μ := by
    intro kf
    induction kf with
    | zero => intro i hp6_0 hp6_1 hp6_2; exfalso; omega
    | succ kf ih_6 =>
      intro i hp6_0 hp6_1 hp6_2 x6_4 x6_5
      rintro rfl rfl
      refine X_iload 6 5 dX4_weightAt_6 rfl ?_
      refine X_iconst 8 (4) dX4_weightAt_8 (by decide) ?_
      refine X_icmp_ge 9 170 dX4_weightAt_9 (by decide) (fun c_9 => ?_) (fun c_9 => ?_)
      · have hge : 4 ≤ i := c_ge rfl (by decide) (by omega) c_9
        have hie : i = 4 := by omega
        subst hie
        refine X_iconst 170 (1) dX4_weightAt_170 (by decide) ?_
        refine X_iload 171 4 dX4_weightAt_171 rfl ?_
        refine X_iadd 173 dX4_weightAt_173 ?_
        refine X_iret 174 dX4_weightAt_174 rfl rfl ⟨_, rfl, _, rfl, ?_⟩
        first
        | exact ⟨if_pos hp6_2, rfl⟩
        | exact ⟨if_neg (fun h => c_115 (of_decide_eq_true (allN_iff.mp h i hlt))), rfl⟩
      · have hlt : i < 4 := c_lt rfl (by decide) (by omega) c_9
        refine X_iconst 12 (4) dX4_weightAt_12 (by decide) ?_
        refine X_iload_n 13 1 dX4_weightAt_13 rfl rfl ?_
        refine X_imul 14 dX4_weightAt_14 ?_
        refine X_iload 15 5 dX4_weightAt_15 rfl ?_
        refine X_iadd 17 dX4_weightAt_17 ?_
        rw [m4]
        refine X_istore 18 [(6, .int _), (0, .ref _), (1, .int _), (2, .int _), (3, .int _), (4, .int _), (5, .int _)] dX4_weightAt_18 (by decide) rfl ?_
        refine X_iconst 20 (4) dX4_weightAt_20 (by decide) ?_
        refine X_iload_n 21 2 dX4_weightAt_21 rfl rfl ?_
        refine X_imul 22 dX4_weightAt_22 ?_
        refine X_iload 23 6 dX4_weightAt_23 rfl ?_
        refine X_iconst 25 (1) dX4_weightAt_25 (by decide) ?_
        refine X_iadd 26 dX4_weightAt_26 ?_
        rw [nI_1]
        refine X_iconst 27 (4) dX4_weightAt_27 (by decide) ?_
        refine X_irem 28 dX4_weightAt_28 (by decide) ?_
        rw [rem4 (by omega)]
        refine X_iadd 29 dX4_weightAt_29 ?_
        rw [m4]
        refine X_istore 30 [(7, .int _), (6, .int _), (0, .ref _), (1, .int _), (2, .int _), (3, .int _), (4, .int _), (5, .int _)] dX4_weightAt_30 (by decide) rfl ?_
        refine X_iconst 32 (2) dX4_weightAt_32 (by decide) ?_
        refine X_aload_n 33 2 dX4_weightAt_33 rfl rfl ?_
        refine X_getR (f := 12) 34 dX4_weightAt_34 lf_RX4_43 iw4 vc4 (by decide) (lyS s hs) rfl ?_
        refine X_iload 37 0 dX4_weightAt_37 rfl ?_
        refine X_cVI 39 [.int _] (e_X3_get ((s + 6)) ((s + 13)) 32 (rS_cx s hs) _ _) dX4_weightAt_39 lm_RX4_72 1 ⟨wm_X3_get, by decide +kernel, rfl, rfl⟩ rfl ⟨Nat.le_of_ble_eq_true rfl, Nat.le_of_ble_eq_true rfl⟩ (rS_cx s hs).1 vc3 rfl rfl (Nat.le_of_ble_eq_true rfl) ?_
        rintro _ _ ⟨rfl, rfl⟩
        rw [gt_nI (by omega) (by decide)]
        refine X_aload_n 42 2 dX4_weightAt_42 rfl rfl ?_
        refine X_getR (f := 12) 43 dX4_weightAt_43 lf_RX4_43 iw4 vc4 (by decide) (lyS s hs) rfl ?_
        refine X_iload 46 1 dX4_weightAt_46 rfl ?_
        refine X_cVI 48 [.int _] (e_X3_get ((s + 6)) ((s + 13)) 32 (rS_cx s hs) _ _) dX4_weightAt_48 lm_RX4_72 1 ⟨wm_X3_get, by decide +kernel, rfl, rfl⟩ rfl ⟨Nat.le_of_ble_eq_true rfl, Nat.le_of_ble_eq_true rfl⟩ (rS_cx s hs).1 vc3 rfl rfl (Nat.le_of_ble_eq_true rfl) ?_
        rintro _ _ ⟨rfl, rfl⟩
        rw [gt_nI (by omega) (by decide)]
        refine X_isub 51 dX4_weightAt_51 ?_
        refine X_imul 52 dX4_weightAt_52 ?_
        refine X_istore 53 [(8, .int _), (7, .int _), (6, .int _), (0, .ref _), (1, .int _), (2, .int _), (3, .int _), (4, .int _), (5, .int _)] dX4_weightAt_53 (by decide) rfl ?_
        refine X_iconst 55 (2) dX4_weightAt_55 (by decide) ?_
        refine X_aload_n 56 3 dX4_weightAt_56 rfl rfl ?_
        refine X_getR (f := 13) 57 dX4_weightAt_57 lf_RX4_46 iw4 vc4 (by decide) (lyS s hs) rfl ?_
        refine X_iload 60 1 dX4_weightAt_60 rfl ?_
        refine X_cVI 62 [.int _] (e_X3_get ((s + 7)) ((s + 14)) 32 (rS_cy s hs) _ _) dX4_weightAt_62 lm_RX4_72 1 ⟨wm_X3_get, by decide +kernel, rfl, rfl⟩ rfl ⟨Nat.le_of_ble_eq_true rfl, Nat.le_of_ble_eq_true rfl⟩ (rS_cy s hs).1 vc3 rfl rfl (Nat.le_of_ble_eq_true rfl) ?_
        rintro _ _ ⟨rfl, rfl⟩
        rw [gt_nI (by omega) (by decide)]
        refine X_aload_n 65 3 dX4_weightAt_65 rfl rfl ?_
        refine X_getR (f := 13) 66 dX4_weightAt_66 lf_RX4_46 iw4 vc4 (by decide) (lyS s hs) rfl ?_
        refine X_iload 69 2 dX4_weightAt_69 rfl ?_
        refine X_cVI 71 [.int _] (e_X3_get ((s + 7)) ((s + 14)) 32 (rS_cy s hs) _ _) dX4_weightAt_71 lm_RX4_72 1 ⟨wm_X3_get, by decide +kernel, rfl, rfl⟩ rfl ⟨Nat.le_of_ble_eq_true rfl, Nat.le_of_ble_eq_true rfl⟩ (rS_cy s hs).1 vc3 rfl rfl (Nat.le_of_ble_eq_true rfl) ?_
        rintro _ _ ⟨rfl, rfl⟩
        rw [gt_nI (by omega) (by decide)]
        refine X_isub 74 dX4_weightAt_74 ?_
        refine X_imul 75 dX4_weightAt_75 ?_
        refine X_istore 76 [(9, .int _), (8, .int _), (7, .int _), (6, .int _), (0, .ref _), (1, .int _), (2, .int _), (3, .int _), (4, .int _), (5, .int _)] dX4_weightAt_76 (by decide) rfl ?_
        refine X_iload 78 1 dX4_weightAt_78 rfl ?_
        refine X_iload 80 0 dX4_weightAt_80 rfl ?_
        refine X_iload_n 82 6 dX4_weightAt_82 rfl rfl ?_
        refine X_iconst 83 (2) dX4_weightAt_83 (by decide) ?_
        refine X_aload_n 84 4 dX4_weightAt_84 rfl rfl ?_
        refine X_getR (f := 12) 85 dX4_weightAt_85 lf_RX4_43 iw4 vc4 (by decide) (lyS s hs) rfl ?_
        refine X_iload 88 3 dX4_weightAt_88 rfl ?_
        refine X_cVI 90 [.int _] (e_X3_get ((s + 6)) ((s + 13)) 32 (rS_cx s hs) _ _) dX4_weightAt_90 lm_RX4_72 1 ⟨wm_X3_get, by decide +kernel, rfl, rfl⟩ rfl ⟨Nat.le_of_ble_eq_true rfl, Nat.le_of_ble_eq_true rfl⟩ (rS_cx s hs).1 vc3 rfl rfl (Nat.le_of_ble_eq_true rfl) ?_
        rintro _ _ ⟨rfl, rfl⟩
        rw [gt_nI (by omega) (by decide)]
        refine X_imul 93 dX4_weightAt_93 ?_
        refine X_isub 94 dX4_weightAt_94 ?_
        refine X_iload_n 95 7 dX4_weightAt_95 rfl rfl ?_
        refine X_iconst 96 (2) dX4_weightAt_96 (by decide) ?_
        refine X_aload_n 97 4 dX4_weightAt_97 rfl rfl ?_
        refine X_getR (f := 13) 98 dX4_weightAt_98 lf_RX4_46 iw4 vc4 (by decide) (lyS s hs) rfl ?_
        refine X_iload 101 3 dX4_weightAt_101 rfl ?_
        refine X_cVI 103 [.int _] (e_X3_get ((s + 7)) ((s + 14)) 32 (rS_cy s hs) _ _) dX4_weightAt_103 lm_RX4_72 1 ⟨wm_X3_get, by decide +kernel, rfl, rfl⟩ rfl ⟨Nat.le_of_ble_eq_true rfl, Nat.le_of_ble_eq_true rfl⟩ (rS_cy s hs).1 vc3 rfl rfl (Nat.le_of_ble_eq_true rfl) ?_
        rintro _ _ ⟨rfl, rfl⟩
        rw [gt_nI (by omega) (by decide)]
        refine X_imul 106 dX4_weightAt_106 ?_
        refine X_isub 107 dX4_weightAt_107 ?_
        refine X_cSI 108 [.int _, .int _, .int _, .int _] (e_X6_cross _ _ _ _ _) dX4_weightAt_108 lm_RX4_102 4 ⟨wm_X6_cross, by decide +kernel, rfl, rfl⟩ rfl ⟨Nat.le_of_ble_eq_true rfl, Nat.le_of_ble_eq_true rfl⟩ rfl (Nat.le_of_ble_eq_true rfl) ?_
        rintro _ _ ⟨rfl, rfl⟩
        refine X_istore 111 [(10, .int _), (9, .int _), (8, .int _), (7, .int _), (6, .int _), (0, .ref _), (1, .int _), (2, .int _), (3, .int _), (4, .int _), (5, .int _)] dX4_weightAt_111 (by decide) rfl ?_
        refine X_iload 113 0 dX4_weightAt_113 rfl ?_
        refine X_if_ge 115 120 dX4_weightAt_115 (by decide) (fun c_115 => ?_) (fun c_115 => ?_)
        · refine X_iload 120 2 dX4_weightAt_120 rfl ?_
          refine X_mabs 122 dX4_weightAt_122 kw_558 kw_559 kw_42 kw_560 ⟨Nat.le_of_ble_eq_true rfl, Nat.le_of_ble_eq_true rfl⟩ ?_
          refine X_iload 125 1 dX4_weightAt_125 rfl ?_
          refine X_mabs 127 dX4_weightAt_127 kw_558 kw_559 kw_42 kw_560 ⟨Nat.le_of_ble_eq_true rfl, Nat.le_of_ble_eq_true rfl⟩ ?_
          refine X_iadd 130 dX4_weightAt_130 ?_
          refine X_istore 131 [(11, .int _), (10, .int _), (9, .int _), (8, .int _), (7, .int _), (6, .int _), (0, .ref _), (1, .int _), (2, .int _), (3, .int _), (4, .int _), (5, .int _)] dX4_weightAt_131 (by decide) rfl ?_
          refine X_iload 133 0 dX4_weightAt_133 rfl ?_
          refine X_if_le 135 164 dX4_weightAt_135 (by decide) (fun c_135 => ?_) (fun c_135 => ?_)
          · refine X_iinc 164 11 (_ + 1) [(5, .int _), (11, .int _), (10, .int _), (9, .int _), (8, .int _), (7, .int _), (6, .int _), (0, .ref _), (1, .int _), (2, .int _), (3, .int _), (4, .int _)] dX4_weightAt_164 rfl rfl (by decide) rfl ?_
            refine X_goto 167 6 dX4_weightAt_167 (by decide) ?_
            refine X_sub [7, 8, 9, 10, 11, 0] [(0, .ref _), (1, .int _), (2, .int _), (3, .int _), (4, .int _), (5, .int _)] rfl ?_
            exact ih_6 (i + 1) (by omega) (by omega) (allN_succ hp6_2 (decide_eq_true c_115)) _ _  (by (first | exact if_pos c_135 | exact (if_neg c_135).trans (if_pos c_147) | exact (if_neg c_135).trans (if_neg c_147))) (by exact (nI_1 i).symm)
          · refine X_iload 138 1 dX4_weightAt_138 rfl ?_
            refine X_iload 140 0 dX4_weightAt_140 rfl ?_
            refine X_idiv 142 dX4_weightAt_142 (ne_of_pos c_135) ?_
            refine X_istore 143 [(12, .int _), (11, .int _), (10, .int _), (9, .int _), (8, .int _), (7, .int _), (6, .int _), (0, .ref _), (1, .int _), (2, .int _), (3, .int _), (4, .int _), (5, .int _)] dX4_weightAt_143 (by decide) rfl ?_
            refine X_iload 145 11 dX4_weightAt_145 rfl ?_
            refine X_if_ge 147 155 dX4_weightAt_147 (by decide) (fun c_147 => ?_) (fun c_147 => ?_)
            · refine X_iload 155 11 dX4_weightAt_155 rfl ?_
              refine X_iload 157 0 dX4_weightAt_157 rfl ?_
              refine X_mmin 159 dX4_weightAt_159 kw_539 kw_374 kw_42 kw_375 ⟨Nat.le_of_ble_eq_true rfl, Nat.le_of_ble_eq_true rfl⟩ ?_
              refine X_istore 162 [(4, .int _), (12, .int _), (11, .int _), (10, .int _), (9, .int _), (8, .int _), (7, .int _), (6, .int _), (0, .ref _), (1, .int _), (2, .int _), (3, .int _), (5, .int _)] dX4_weightAt_162 (by decide) rfl ?_
              refine X_iinc 164 12 (_ + 1) [(5, .int _), (4, .int _), (12, .int _), (11, .int _), (10, .int _), (9, .int _), (8, .int _), (7, .int _), (6, .int _), (0, .ref _), (1, .int _), (2, .int _), (3, .int _)] dX4_weightAt_164 rfl rfl (by decide) rfl ?_
              refine X_goto 167 6 dX4_weightAt_167 (by decide) ?_
              refine X_sub [9, 10, 11, 12, 1, 0] [(0, .ref _), (1, .int _), (2, .int _), (3, .int _), (4, .int _), (5, .int _)] rfl ?_
              exact ih_6 (i + 1) (by omega) (by omega) (allN_succ hp6_2 (decide_eq_true c_115)) _ _  (by (first | exact if_pos c_135 | exact (if_neg c_135).trans (if_pos c_147) | exact (if_neg c_135).trans (if_neg c_147))) (by exact (nI_1 i).symm)
            · refine X_iload 150 0 dX4_weightAt_150 rfl ?_
              refine X_goto 152 162 dX4_weightAt_152 (by decide) ?_
              refine X_istore 162 [(4, .int _), (12, .int _), (11, .int _), (10, .int _), (9, .int _), (8, .int _), (7, .int _), (6, .int _), (0, .ref _), (1, .int _), (2, .int _), (3, .int _), (5, .int _)] dX4_weightAt_162 (by decide) rfl ?_
              refine X_iinc 164 12 (_ + 1) [(5, .int _), (4, .int _), (12, .int _), (11, .int _), (10, .int _), (9, .int _), (8, .int _), (7, .int _), (6, .int _), (0, .ref _), (1, .int _), (2, .int _), (3, .int _)] dX4_weightAt_164 rfl rfl (by decide) rfl ?_
              refine X_goto 167 6 dX4_weightAt_167 (by decide) ?_
              refine X_sub [9, 10, 11, 12, 1, 0] [(0, .ref _), (1, .int _), (2, .int _), (3, .int _), (4, .int _), (5, .int _)] rfl ?_
              exact ih_6 (i + 1) (by omega) (by omega) (allN_succ hp6_2 (decide_eq_true c_115)) _ _  (by (first | exact if_pos c_135 | exact (if_neg c_135).trans (if_pos c_147) | exact (if_neg c_135).trans (if_neg c_147))) (by exact (nI_1 i).symm)
        · refine X_iconst 118 (0) dX4_weightAt_118 (by decide) ?_
          refine X_iret 119 dX4_weightAt_119 rfl rfl ⟨_, rfl, _, rfl, ?_⟩
          first
          | exact ⟨if_pos hp6_2, rfl⟩
          | exact ⟨if_neg (fun h => c_115 (of_decide_eq_true (allN_iff.mp h i hlt))), rfl⟩
  exact L_6 5 0 (by omega) (by omega) rfl _ _  (by rfl) (by exact nI_0)
set_option maxHeartbeats 4000000 in
set_option maxRecDepth 100000 in
theorem e_X4_hangLamp (s : Nat) (hs : isS s) (k : Nat) (g l : Int32) (μ : Mm) (hk : μ s 5 = nI k) (h8 : k < 8) : EvN ΛC mX4_hangLamp [.ref s, .int g, .int l] μ (qI (fun x μ' => nI k = x ∧ hang μ s k g l = μ')) := by
  refine EvN_ofQ (by decide +kernel) rfl (fun _ => rfl) (fun _ => Nat.le_of_ble_eq_true rfl) (ls := [(0, .ref s), (1, .int g), (2, .int l)]) ?_
  refine X_aload_n 0 0 dX4_hangLamp_0 rfl rfl ?_
  refine X_getI (f := 5) 1 dX4_hangLamp_1 lf_RX4_58 iw4 vc4 (by decide) (lyS s hs) rfl ?_
  rw [hk]
  refine X_istore_n 4 [(3, .int _), (0, .ref _), (1, .int _), (2, .int _)] dX4_hangLamp_4 rfl (by decide) rfl ?_
  refine X_aload_n 5 1 dX4_hangLamp_5 rfl rfl ?_
  refine X_dupr 6 dX4_hangLamp_6 ?_
  refine X_getI (f := 5) 7 dX4_hangLamp_7 lf_RX4_58 iw4 vc4 (by decide) (lyS s hs) rfl ?_
  rw [hk]
  refine X_iconst 10 (1) dX4_hangLamp_10 (by decide) ?_
  refine X_iadd 11 dX4_hangLamp_11 ?_
  refine X_putI (f := 5) 12 dX4_hangLamp_12 lf_RX4_58 iw4 vc4 (by decide) (lyS s hs) tyX4_ok nmX4 rfl rfl rfl (by decide) rfl rfl ?_
  refine X_aload_n 15 1 dX4_hangLamp_15 rfl rfl ?_
  refine X_getR (f := 8) 16 dX4_hangLamp_16 lf_RX4_31 iw4 vc4 (by decide) (lyS s hs) rfl ?_
  refine X_iload_n 19 0 dX4_hangLamp_19 rfl rfl ?_
  refine X_iload_n 20 2 dX4_hangLamp_20 rfl rfl ?_
  refine X_cVV 21 [.int _, .int _] (e_X3_set ((s + 2)) ((s + 9)) 8 (rS_gr s hs) _ _ _) dX4_hangLamp_21 lm_RX4_76 2 ⟨wm_X3_set, by decide +kernel, rfl, rfl⟩ rfl ⟨Nat.le_of_ble_eq_true rfl, Nat.le_of_ble_eq_true rfl⟩ (rS_gr s hs).1 vc3 rfl rfl (Nat.le_of_ble_eq_true rfl) ?_
  rintro _ rfl
  refine X_aload_n 24 1 dX4_hangLamp_24 rfl rfl ?_
  refine X_getR (f := 9) 25 dX4_hangLamp_25 lf_RX4_34 iw4 vc4 (by decide) (lyS s hs) rfl ?_
  refine X_iload_n 28 0 dX4_hangLamp_28 rfl rfl ?_
  refine X_iload_n 29 3 dX4_hangLamp_29 rfl rfl ?_
  refine X_cVV 30 [.int _, .int _] (e_X3_set ((s + 3)) ((s + 10)) 8 (rS_le s hs) _ _ _) dX4_hangLamp_30 lm_RX4_76 2 ⟨wm_X3_set, by decide +kernel, rfl, rfl⟩ rfl ⟨Nat.le_of_ble_eq_true rfl, Nat.le_of_ble_eq_true rfl⟩ (rS_le s hs).1 vc3 rfl rfl (Nat.le_of_ble_eq_true rfl) ?_
  rintro _ rfl
  refine X_aload_n 33 1 dX4_hangLamp_33 rfl rfl ?_
  refine X_getR (f := 10) 34 dX4_hangLamp_34 lf_RX4_37 iw4 vc4 (by decide) (lyS s hs) rfl ?_
  refine X_iload_n 37 0 dX4_hangLamp_37 rfl rfl ?_
  refine X_iconst 38 (0) dX4_hangLamp_38 (by decide) ?_
  refine X_cVV 39 [.int _, .int _] (e_X3_set ((s + 4)) ((s + 11)) 8 (rS_we s hs) _ _ _) dX4_hangLamp_39 lm_RX4_76 2 ⟨wm_X3_set, by decide +kernel, rfl, rfl⟩ rfl ⟨Nat.le_of_ble_eq_true rfl, Nat.le_of_ble_eq_true rfl⟩ (rS_we s hs).1 vc3 rfl rfl (Nat.le_of_ble_eq_true rfl) ?_
  rintro _ rfl
  refine X_aload_n 42 1 dX4_hangLamp_42 rfl rfl ?_
  refine X_getR (f := 11) 43 dX4_hangLamp_43 lf_RX4_40 iw4 vc4 (by decide) (lyS s hs) rfl ?_
  refine X_iload_n 46 0 dX4_hangLamp_46 rfl rfl ?_
  refine X_iconst 47 (1) dX4_hangLamp_47 (by decide) ?_
  refine X_cVV 48 [.int _, .int _] (e_X3_set ((s + 5)) ((s + 12)) 8 (rS_wk s hs) _ _ _) dX4_hangLamp_48 lm_RX4_76 2 ⟨wm_X3_set, by decide +kernel, rfl, rfl⟩ rfl ⟨Nat.le_of_ble_eq_true rfl, Nat.le_of_ble_eq_true rfl⟩ (rS_wk s hs).1 vc3 rfl rfl (Nat.le_of_ble_eq_true rfl) ?_
  rintro _ rfl
  refine X_iconst 51 (0) dX4_hangLamp_51 (by decide) ?_
  refine X_istore 52 [(4, .int _), (3, .int _), (0, .ref _), (1, .int _), (2, .int _)] dX4_hangLamp_52 (by decide) rfl ?_
  refine X_sub [2, 3, 4, 1, 0] [(0, .ref _), (1, .int _), (2, .int _), (3, .int _), (4, .int _)] rfl ?_
  have L_54 : ∀ (kf : Nat) (i : Nat), i ≤ 4 → 4 < i + kf → ∀ (x54_4 : Int32) (μ54 : Mm), nI i = x54_4 → hangC μ s k g l i = μ54 → X false ΛC mX4_hangLamp (QN (qI (fun x μ' => nI k = x ∧ hang μ s k g l = μ'))) 54 [(0, .ref s), (1, .int g), (2, .int l), (3, .int (nI k)), (4, .int x54_4)] [] μ54 := by
    intro kf
    induction kf with
    | zero => intro i hp54_0 hp54_1; exfalso; omega
    | succ kf ih_54 =>
      intro i hp54_0 hp54_1 x54_4 μ54
      rintro rfl rfl
      refine X_iload 54 4 dX4_hangLamp_54 rfl ?_
      refine X_iconst 56 (4) dX4_hangLamp_56 (by decide) ?_
      refine X_icmp_ge 57 75 dX4_hangLamp_57 (by decide) (fun c_57 => ?_) (fun c_57 => ?_)
      · have hge : 4 ≤ i := c_ge rfl (by decide) (by omega) c_57
        have hie : i = 4 := by omega
        subst hie
        refine X_aload_n 75 0 dX4_hangLamp_75 rfl rfl ?_
        refine X_iconst 76 (1) dX4_hangLamp_76 (by decide) ?_
        refine X_putI (f := 6) 77 dX4_hangLamp_77 lf_RX4_18 iw4 vc4 (by decide) (lyS s hs) tyX4_ok nmX4 rfl rfl rfl (by decide) rfl rfl ?_
        refine X_iload_n 80 3 dX4_hangLamp_80 rfl rfl ?_
        refine X_iret 81 dX4_hangLamp_81 rfl rfl ⟨_, rfl, _, rfl, ?_⟩
        exact ⟨rfl, rfl⟩
      · have hlt : i < 4 := c_lt rfl (by decide) (by omega) c_57
        refine X_aload_n 60 0 dX4_hangLamp_60 rfl rfl ?_
        refine X_iload_n 61 3 dX4_hangLamp_61 rfl rfl ?_
        refine X_iload 62 4 dX4_hangLamp_62 rfl ?_
        refine X_iconst 64 (0) dX4_hangLamp_64 (by decide) ?_
        refine X_iconst 65 (0) dX4_hangLamp_65 (by decide) ?_
        refine X_cVV 66 [.int _, .int _, .int _, .int _] (e_X4_moveCorner s hs _ _ _ _ _ (by first | omega | assumption) (by first | omega | assumption)) dX4_hangLamp_66 lm_RX4_80 4 ⟨wm_X4_moveCorner, by decide +kernel, rfl, rfl⟩ rfl ⟨Nat.le_of_ble_eq_true rfl, Nat.le_of_ble_eq_true rfl⟩ (lyS s hs) vc4 rfl rfl (Nat.le_of_ble_eq_true rfl) ?_
        rintro _ rfl
        refine X_iinc 69 4 (_ + 1) [(4, .int _), (0, .ref _), (1, .int _), (2, .int _), (3, .int _)] dX4_hangLamp_69 rfl rfl (by decide) rfl ?_
        refine X_goto 72 54 dX4_hangLamp_72 (by decide) ?_
        refine X_sub [1, 2, 3, 4, 0] [(0, .ref _), (1, .int _), (2, .int _), (3, .int _), (4, .int _)] rfl ?_
        exact ih_54 (i + 1) (by omega) (by omega) _ _  (by exact (nI_1 i).symm) (by rfl)
  exact L_54 5 0 (by omega) (by omega) _ _  (by exact nI_0) (by (rw [stR_nI h8 (by decide), stR_nI h8 (by decide), stR_nI h8 (by decide), stR_nI h8 (by decide)]; rfl))
