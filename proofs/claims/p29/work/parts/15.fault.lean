set_option maxHeartbeats 4000000 in
set_option maxRecDepth 100000 in
theorem e_X6_faultOfRange (v lo hi : Int32) (μ : Mm) : EvN ΛC mX6_faultOfRange [.int v, .int lo, .int hi] μ (qI (fun x9 μ' => μ = μ' ∧ ((x9 = 0 ∧ rgI v lo hi) ∨ (x9 = 2 ∧ ¬ rgI v lo hi)))) := by
  refine EvN_ofQ (by decide +kernel) rfl (fun _ => rfl) (fun _ => Nat.le_of_ble_eq_true rfl) (ls := [(0, .int v), (1, .int lo), (2, .int hi)]) ?_
  refine X_iload_n 0 0 dX6_faultOfRange_0 rfl rfl ?_
  refine X_iload_n 1 1 dX6_faultOfRange_1 rfl rfl ?_
  refine X_iload_n 2 2 dX6_faultOfRange_2 rfl rfl ?_
  refine X_cSI 3 [.int _, .int _, .int _] (e_X6_within _ _ _ _) dX6_faultOfRange_3 lm_RX6_176 3 ⟨wm_X6_within, by decide +kernel, rfl, rfl⟩ rfl ⟨Nat.le_of_ble_eq_true rfl, Nat.le_of_ble_eq_true rfl⟩ rfl (Nat.le_of_ble_eq_true rfl) ?_
  rintro _ _ ⟨rfl, ⟨rfl, b_3⟩ | ⟨rfl, b_3⟩⟩
  · refine X_if_eq 6 13 dX6_faultOfRange_6 (by decide) (fun c_0 => by exact absurd c_0 (by decide)) (fun _ => ?_)
    refine X_iconst 9 (0) dX6_faultOfRange_9 (by decide) ?_
    refine X_goto 10 14 dX6_faultOfRange_10 (by decide) ?_
    refine X_iret 14 dX6_faultOfRange_14 rfl rfl ⟨_, rfl, _, rfl, ?_⟩
    refine ⟨rfl, Or.inl ⟨rfl, ?_⟩⟩
    exact b_3
  · refine X_if_eq 6 13 dX6_faultOfRange_6 (by decide) (fun _ => ?_) (fun c_0 => by exact absurd c_0 (by decide))
    refine X_iconst 13 (2) dX6_faultOfRange_13 (by decide) ?_
    refine X_iret 14 dX6_faultOfRange_14 rfl rfl ⟨_, rfl, _, rfl, ?_⟩
    refine ⟨rfl, Or.inr (⟨rfl, ?_⟩)⟩
    exact b_3
set_option maxHeartbeats 4000000 in
set_option maxRecDepth 100000 in
theorem e_X6_faultOfWall (a b : Int32) (μ : Mm) : EvN ΛC mX6_faultOfWall [.int a, .int b] μ (qI (fun x9 μ' => μ = μ' ∧ ((x9 = 0 ∧ wallOK a b) ∨ (x9 = 2 ∧ ¬ wallOK a b)))) := by
  refine EvN_ofQ (by decide +kernel) rfl (fun _ => rfl) (fun _ => Nat.le_of_ble_eq_true rfl) (ls := [(0, .int a), (1, .int b)]) ?_
  refine X_iload_n 0 0 dX6_faultOfWall_0 rfl rfl ?_
  refine X_iconst 1 (1) dX6_faultOfWall_1 (by decide) ?_
  refine X_bipush 2 (24) dX6_faultOfWall_2 (by decide) ?_
  refine X_cSI 4 [.int _, .int _, .int _] (e_X6_within _ _ _ _) dX6_faultOfWall_4 lm_RX6_176 3 ⟨wm_X6_within, by decide +kernel, rfl, rfl⟩ rfl ⟨Nat.le_of_ble_eq_true rfl, Nat.le_of_ble_eq_true rfl⟩ rfl (Nat.le_of_ble_eq_true rfl) ?_
  rintro _ _ ⟨rfl, ⟨rfl, b_4⟩ | ⟨rfl, b_4⟩⟩
  · refine X_if_eq 7 24 dX6_faultOfWall_7 (by decide) (fun c_0 => by exact absurd c_0 (by decide)) (fun _ => ?_)
    refine X_iload_n 10 1 dX6_faultOfWall_10 rfl rfl ?_
    refine X_iconst 11 (1) dX6_faultOfWall_11 (by decide) ?_
    refine X_bipush 12 (16) dX6_faultOfWall_12 (by decide) ?_
    refine X_cSI 14 [.int _, .int _, .int _] (e_X6_within _ _ _ _) dX6_faultOfWall_14 lm_RX6_176 3 ⟨wm_X6_within, by decide +kernel, rfl, rfl⟩ rfl ⟨Nat.le_of_ble_eq_true rfl, Nat.le_of_ble_eq_true rfl⟩ rfl (Nat.le_of_ble_eq_true rfl) ?_
    rintro _ _ ⟨rfl, ⟨rfl, b_14⟩ | ⟨rfl, b_14⟩⟩
    · refine X_if_eq 17 24 dX6_faultOfWall_17 (by decide) (fun c_0 => by exact absurd c_0 (by decide)) (fun _ => ?_)
      refine X_iconst 20 (0) dX6_faultOfWall_20 (by decide) ?_
      refine X_goto 21 25 dX6_faultOfWall_21 (by decide) ?_
      refine X_iret 25 dX6_faultOfWall_25 rfl rfl ⟨_, rfl, _, rfl, ?_⟩
      refine ⟨rfl, Or.inl ⟨rfl, ?_⟩⟩
      first | exact ⟨b_4, b_14⟩ | exact fun h => b_4 h.1 | exact fun h => b_14 h.2
    · refine X_if_eq 17 24 dX6_faultOfWall_17 (by decide) (fun _ => ?_) (fun c_0 => by exact absurd c_0 (by decide))
      refine X_iconst 24 (2) dX6_faultOfWall_24 (by decide) ?_
      refine X_iret 25 dX6_faultOfWall_25 rfl rfl ⟨_, rfl, _, rfl, ?_⟩
      refine ⟨rfl, Or.inr (⟨rfl, ?_⟩)⟩
      first | exact ⟨b_4, b_14⟩ | exact fun h => b_4 h.1 | exact fun h => b_14 h.2
  · refine X_if_eq 7 24 dX6_faultOfWall_7 (by decide) (fun _ => ?_) (fun c_0 => by exact absurd c_0 (by decide))
    refine X_iconst 24 (2) dX6_faultOfWall_24 (by decide) ?_
    refine X_iret 25 dX6_faultOfWall_25 rfl rfl ⟨_, rfl, _, rfl, ?_⟩
    refine ⟨rfl, Or.inr (⟨rfl, ?_⟩)⟩
    first | exact ⟨b_4, b_14⟩ | exact fun h => b_4 h.1 | exact fun h => b_14 h.2
set_option maxHeartbeats 4000000 in
set_option maxRecDepth 100000 in
theorem e_X6_faultOfShift (a b : Int32) (μ : Mm) : EvN ΛC mX6_faultOfShift [.int a, .int b] μ (qI (fun x9 μ' => μ = μ' ∧ ((x9 = 0 ∧ shOK a b) ∨ (x9 = 2 ∧ ¬ shOK a b)))) := by
  refine EvN_ofQ (by decide +kernel) rfl (fun _ => rfl) (fun _ => Nat.le_of_ble_eq_true rfl) (ls := [(0, .int a), (1, .int b)]) ?_
  refine X_iload_n 0 0 dX6_faultOfShift_0 rfl rfl ?_
  refine X_bipush 1 (-10) dX6_faultOfShift_1 (by decide) ?_
  refine X_bipush 3 (10) dX6_faultOfShift_3 (by decide) ?_
  refine X_cSI 5 [.int _, .int _, .int _] (e_X6_within _ _ _ _) dX6_faultOfShift_5 lm_RX6_176 3 ⟨wm_X6_within, by decide +kernel, rfl, rfl⟩ rfl ⟨Nat.le_of_ble_eq_true rfl, Nat.le_of_ble_eq_true rfl⟩ rfl (Nat.le_of_ble_eq_true rfl) ?_
  rintro _ _ ⟨rfl, ⟨rfl, b_5⟩ | ⟨rfl, b_5⟩⟩
  · refine X_if_eq 8 26 dX6_faultOfShift_8 (by decide) (fun c_0 => by exact absurd c_0 (by decide)) (fun _ => ?_)
    refine X_iload_n 11 1 dX6_faultOfShift_11 rfl rfl ?_
    refine X_bipush 12 (-10) dX6_faultOfShift_12 (by decide) ?_
    refine X_bipush 14 (10) dX6_faultOfShift_14 (by decide) ?_
    refine X_cSI 16 [.int _, .int _, .int _] (e_X6_within _ _ _ _) dX6_faultOfShift_16 lm_RX6_176 3 ⟨wm_X6_within, by decide +kernel, rfl, rfl⟩ rfl ⟨Nat.le_of_ble_eq_true rfl, Nat.le_of_ble_eq_true rfl⟩ rfl (Nat.le_of_ble_eq_true rfl) ?_
    rintro _ _ ⟨rfl, ⟨rfl, b_16⟩ | ⟨rfl, b_16⟩⟩
    · refine X_if_eq 19 26 dX6_faultOfShift_19 (by decide) (fun c_0 => by exact absurd c_0 (by decide)) (fun _ => ?_)
      refine X_iconst 22 (1) dX6_faultOfShift_22 (by decide) ?_
      refine X_goto 23 27 dX6_faultOfShift_23 (by decide) ?_
      refine X_istore_n 27 [(2, .int _), (0, .int _), (1, .int _)] dX6_faultOfShift_27 rfl (by decide) rfl ?_
      refine X_iload_n 28 0 dX6_faultOfShift_28 rfl rfl ?_
      refine X_if_eq 29 36 dX6_faultOfShift_29 (by decide) (fun c_0 => by exact absurd c_0 (by decide)) (fun _ => ?_)
      refine X_iconst 32 (0) dX6_faultOfShift_32 (by decide) ?_
      refine X_goto 33 37 dX6_faultOfShift_33 (by decide) ?_
      refine X_iret 37 dX6_faultOfShift_37 rfl rfl ⟨_, rfl, _, rfl, ?_⟩
      refine ⟨rfl, Or.inl ⟨rfl, ?_⟩⟩
      first | exact ⟨b_5, b_16⟩ | exact fun h => b_5 h.1 | exact fun h => b_16 h.2
    · refine X_if_eq 19 26 dX6_faultOfShift_19 (by decide) (fun _ => ?_) (fun c_0 => by exact absurd c_0 (by decide))
      refine X_iconst 26 (0) dX6_faultOfShift_26 (by decide) ?_
      refine X_istore_n 27 [(2, .int _), (0, .int _), (1, .int _)] dX6_faultOfShift_27 rfl (by decide) rfl ?_
      refine X_iload_n 28 0 dX6_faultOfShift_28 rfl rfl ?_
      refine X_if_eq 29 36 dX6_faultOfShift_29 (by decide) (fun _ => ?_) (fun c_0 => by exact absurd c_0 (by decide))
      refine X_iconst 36 (2) dX6_faultOfShift_36 (by decide) ?_
      refine X_iret 37 dX6_faultOfShift_37 rfl rfl ⟨_, rfl, _, rfl, ?_⟩
      refine ⟨rfl, Or.inr (⟨rfl, ?_⟩)⟩
      first | exact ⟨b_5, b_16⟩ | exact fun h => b_5 h.1 | exact fun h => b_16 h.2
  · refine X_if_eq 8 26 dX6_faultOfShift_8 (by decide) (fun _ => ?_) (fun c_0 => by exact absurd c_0 (by decide))
    refine X_iconst 26 (0) dX6_faultOfShift_26 (by decide) ?_
    refine X_istore_n 27 [(2, .int _), (0, .int _), (1, .int _)] dX6_faultOfShift_27 rfl (by decide) rfl ?_
    refine X_iload_n 28 0 dX6_faultOfShift_28 rfl rfl ?_
    refine X_if_eq 29 36 dX6_faultOfShift_29 (by decide) (fun _ => ?_) (fun c_0 => by exact absurd c_0 (by decide))
    refine X_iconst 36 (2) dX6_faultOfShift_36 (by decide) ?_
    refine X_iret 37 dX6_faultOfShift_37 rfl rfl ⟨_, rfl, _, rfl, ?_⟩
    refine ⟨rfl, Or.inr (⟨rfl, ?_⟩)⟩
    first | exact ⟨b_5, b_16⟩ | exact fun h => b_5 h.1 | exact fun h => b_16 h.2
set_option maxHeartbeats 4000000 in
set_option maxRecDepth 100000 in
theorem e_X6_faultOfHours (h : Int32) (μ : Mm) : EvN ΛC mX6_faultOfHours [.int h] μ (qI (fun x9 μ' => μ = μ' ∧ ((x9 = 0 ∧ rgI h 1 9999) ∨ (x9 = 2 ∧ ¬ rgI h 1 9999)))) := by
  refine EvN_ofQ (by decide +kernel) rfl (fun _ => rfl) (fun _ => Nat.le_of_ble_eq_true rfl) (ls := [(0, .int h)]) ?_
  refine X_iload_n 0 0 dX6_faultOfHours_0 rfl rfl ?_
  refine X_iconst 1 (1) dX6_faultOfHours_1 (by decide) ?_
  refine X_sipush 2 (9999) dX6_faultOfHours_2 (by decide) ?_
  refine X_cSI 5 [.int _, .int _, .int _] (e_X6_faultOfRange _ _ _ _) dX6_faultOfHours_5 lm_RX6_147 3 ⟨wm_X6_faultOfRange, by decide +kernel, rfl, rfl⟩ rfl ⟨Nat.le_of_ble_eq_true rfl, Nat.le_of_ble_eq_true rfl⟩ rfl (Nat.le_of_ble_eq_true rfl) ?_
  rintro _ _ ⟨rfl, ⟨rfl, f_5⟩ | ⟨rfl, f_5⟩⟩
  · refine X_iret 8 dX6_faultOfHours_8 rfl rfl ⟨_, rfl, _, rfl, ?_⟩
    refine ⟨rfl, Or.inl ⟨rfl, ?_⟩⟩
    exact f_5
  · refine X_iret 8 dX6_faultOfHours_8 rfl rfl ⟨_, rfl, _, rfl, ?_⟩
    refine ⟨rfl, Or.inr (⟨rfl, ?_⟩)⟩
    exact f_5
set_option maxHeartbeats 4000000 in
set_option maxRecDepth 100000 in
theorem e_X6_faultOfLamp (n : Int32) (μ : Mm) : EvN ΛC mX6_faultOfLamp [.ref 109, .int n] μ (qI (fun x9 μ' => μ = μ' ∧ ((x9 = 0 ∧ lpOK μ n) ∨ (x9 = 1 ∧ ¬ lpOK μ n)))) := by
  refine EvN_ofQ (by decide +kernel) rfl (fun _ => rfl) (fun _ => Nat.le_of_ble_eq_true rfl) (ls := [(0, .ref 109), (1, .int n)]) ?_
  refine X_aload_n 0 0 dX6_faultOfLamp_0 rfl rfl ?_
  refine X_getR (f := 0) 1 dX6_faultOfLamp_1 lf_RX6_12 iw6 vc6 (by decide) lyL rfl ?_
  refine X_iload_n 4 1 dX6_faultOfLamp_4 rfl rfl ?_
  refine X_cVI 5 [.int _] (e_X4_hasLamp 0 (Or.inl rfl) _ _) dX6_faultOfLamp_5 lm_RX6_336 1 ⟨wm_X4_hasLamp, by decide +kernel, rfl, rfl⟩ rfl ⟨Nat.le_of_ble_eq_true rfl, Nat.le_of_ble_eq_true rfl⟩ (lyS 0 (Or.inl rfl)) vc4 rfl rfl (Nat.le_of_ble_eq_true rfl) ?_
  rintro _ _ ⟨rfl, ⟨rfl, b_5⟩ | ⟨rfl, b_5⟩⟩
  · refine X_if_eq 8 15 dX6_faultOfLamp_8 (by decide) (fun c_0 => by exact absurd c_0 (by decide)) (fun _ => ?_)
    refine X_iconst 11 (0) dX6_faultOfLamp_11 (by decide) ?_
    refine X_goto 12 16 dX6_faultOfLamp_12 (by decide) ?_
    refine X_iret 16 dX6_faultOfLamp_16 rfl rfl ⟨_, rfl, _, rfl, ?_⟩
    refine ⟨rfl, Or.inl ⟨rfl, ?_⟩⟩
    exact b_5
  · refine X_if_eq 8 15 dX6_faultOfLamp_8 (by decide) (fun _ => ?_) (fun c_0 => by exact absurd c_0 (by decide))
    refine X_iconst 15 (1) dX6_faultOfLamp_15 (by decide) ?_
    refine X_iret 16 dX6_faultOfLamp_16 rfl rfl ⟨_, rfl, _, rfl, ?_⟩
    refine ⟨rfl, Or.inr (⟨rfl, ?_⟩)⟩
    exact b_5
set_option maxHeartbeats 4000000 in
set_option maxRecDepth 100000 in
theorem e_X6_faultOfPlace (x y : Int32) (μ : Mm) : EvN ΛC mX6_faultOfPlace [.ref 109, .int x, .int y] μ (qI (fun x9 μ' => μ = μ' ∧ ((x9 = 0 ∧ plOK μ x y) ∨ (x9 = 1 ∧ ¬ plOK μ x y)))) := by
  refine EvN_ofQ (by decide +kernel) rfl (fun _ => rfl) (fun _ => Nat.le_of_ble_eq_true rfl) (ls := [(0, .ref 109), (1, .int x), (2, .int y)]) ?_
  refine X_aload_n 0 0 dX6_faultOfPlace_0 rfl rfl ?_
  refine X_getR (f := 0) 1 dX6_faultOfPlace_1 lf_RX6_12 iw6 vc6 (by decide) lyL rfl ?_
  refine X_iload_n 4 1 dX6_faultOfPlace_4 rfl rfl ?_
  refine X_iload_n 5 2 dX6_faultOfPlace_5 rfl rfl ?_
  refine X_cVI 6 [.int _, .int _] (e_X4_hasPlace 0 (Or.inl rfl) _ _ _) dX6_faultOfPlace_6 lm_RX6_333 2 ⟨wm_X4_hasPlace, by decide +kernel, rfl, rfl⟩ rfl ⟨Nat.le_of_ble_eq_true rfl, Nat.le_of_ble_eq_true rfl⟩ (lyS 0 (Or.inl rfl)) vc4 rfl rfl (Nat.le_of_ble_eq_true rfl) ?_
  rintro _ _ ⟨rfl, ⟨rfl, b_6⟩ | ⟨rfl, b_6⟩⟩
  · refine X_if_eq 9 16 dX6_faultOfPlace_9 (by decide) (fun c_0 => by exact absurd c_0 (by decide)) (fun _ => ?_)
    refine X_iconst 12 (0) dX6_faultOfPlace_12 (by decide) ?_
    refine X_goto 13 17 dX6_faultOfPlace_13 (by decide) ?_
    refine X_iret 17 dX6_faultOfPlace_17 rfl rfl ⟨_, rfl, _, rfl, ?_⟩
    refine ⟨rfl, Or.inl ⟨rfl, ?_⟩⟩
    exact b_6
  · refine X_if_eq 9 16 dX6_faultOfPlace_9 (by decide) (fun _ => ?_) (fun c_0 => by exact absurd c_0 (by decide))
    refine X_iconst 16 (1) dX6_faultOfPlace_16 (by decide) ?_
    refine X_iret 17 dX6_faultOfPlace_17 rfl rfl ⟨_, rfl, _, rfl, ?_⟩
    refine ⟨rfl, Or.inr (⟨rfl, ?_⟩)⟩
    exact b_6
set_option maxHeartbeats 4000000 in
set_option maxRecDepth 100000 in
theorem e_X6_faultOfPainting (x y u v t : Int32) (μ : Mm) : EvN ΛC mX6_faultOfPainting [.ref 109, .int x, .int y, .int u, .int v, .int t] μ (qI (fun x9 μ' => μ = μ' ∧ ((x9 = 0 ∧ ((plOK μ x y ∧ plOK μ u v) ∧ ptOK x y u v t)) ∨ (x9 = 1 ∧ ¬ (plOK μ x y ∧ plOK μ u v)) ∨ (x9 = 2 ∧ ((plOK μ x y ∧ plOK μ u v) ∧ ¬ ptOK x y u v t))))) := by
  refine EvN_ofQ (by decide +kernel) rfl (fun _ => rfl) (fun _ => Nat.le_of_ble_eq_true rfl) (ls := [(0, .ref 109), (1, .int x), (2, .int y), (3, .int u), (4, .int v), (5, .int t)]) ?_
  refine X_aload_n 0 0 dX6_faultOfPainting_0 rfl rfl ?_
  refine X_getR (f := 0) 1 dX6_faultOfPainting_1 lf_RX6_12 iw6 vc6 (by decide) lyL rfl ?_
  refine X_iload_n 4 1 dX6_faultOfPainting_4 rfl rfl ?_
  refine X_iload_n 5 2 dX6_faultOfPainting_5 rfl rfl ?_
  refine X_cVI 6 [.int _, .int _] (e_X4_hasPlace 0 (Or.inl rfl) _ _ _) dX6_faultOfPainting_6 lm_RX6_333 2 ⟨wm_X4_hasPlace, by decide +kernel, rfl, rfl⟩ rfl ⟨Nat.le_of_ble_eq_true rfl, Nat.le_of_ble_eq_true rfl⟩ (lyS 0 (Or.inl rfl)) vc4 rfl rfl (Nat.le_of_ble_eq_true rfl) ?_
  rintro _ _ ⟨rfl, ⟨rfl, b_6⟩ | ⟨rfl, b_6⟩⟩
  · refine X_if_eq 9 25 dX6_faultOfPainting_9 (by decide) (fun c_0 => by exact absurd c_0 (by decide)) (fun _ => ?_)
    refine X_aload_n 12 0 dX6_faultOfPainting_12 rfl rfl ?_
    refine X_getR (f := 0) 13 dX6_faultOfPainting_13 lf_RX6_12 iw6 vc6 (by decide) lyL rfl ?_
    refine X_iload_n 16 3 dX6_faultOfPainting_16 rfl rfl ?_
    refine X_iload 17 4 dX6_faultOfPainting_17 rfl ?_
    refine X_cVI 19 [.int _, .int _] (e_X4_hasPlace 0 (Or.inl rfl) _ _ _) dX6_faultOfPainting_19 lm_RX6_333 2 ⟨wm_X4_hasPlace, by decide +kernel, rfl, rfl⟩ rfl ⟨Nat.le_of_ble_eq_true rfl, Nat.le_of_ble_eq_true rfl⟩ (lyS 0 (Or.inl rfl)) vc4 rfl rfl (Nat.le_of_ble_eq_true rfl) ?_
    rintro _ _ ⟨rfl, ⟨rfl, b_19⟩ | ⟨rfl, b_19⟩⟩
    · refine X_if_ne 22 27 dX6_faultOfPainting_22 (by decide) (fun _ => ?_) (fun c_0 => by exact absurd c_0 (by decide))
      refine X_iload_n 27 3 dX6_faultOfPainting_27 rfl rfl ?_
      refine X_iload_n 28 1 dX6_faultOfPainting_28 rfl rfl ?_
      refine X_icmp_lt 29 54 dX6_faultOfPainting_29 (by decide) (fun c_29 => ?_) (fun c_29 => ?_)
      · refine X_iconst 54 (2) dX6_faultOfPainting_54 (by decide) ?_
        refine X_iret 55 dX6_faultOfPainting_55 rfl rfl ⟨_, rfl, _, rfl, ?_⟩
        refine ⟨rfl, Or.inr (Or.inr (⟨rfl, ?_⟩))⟩
        first
        | exact ⟨⟨b_6, b_19⟩, Int32.not_lt.mp c_29, Int32.not_lt.mp c_35, b_44⟩
        | exact fun h => b_6 h.1
        | exact fun h => b_19 h.2
        | exact ⟨⟨b_6, b_19⟩, fun h => absurd c_29 (Int32.not_lt.mpr h.1)⟩
        | exact ⟨⟨b_6, b_19⟩, fun h => absurd c_35 (Int32.not_lt.mpr h.2.1)⟩
        | exact ⟨⟨b_6, b_19⟩, fun h => b_44 h.2.2⟩
      · refine X_iload 32 4 dX6_faultOfPainting_32 rfl ?_
        refine X_iload_n 34 2 dX6_faultOfPainting_34 rfl rfl ?_
        refine X_icmp_lt 35 54 dX6_faultOfPainting_35 (by decide) (fun c_35 => ?_) (fun c_35 => ?_)
        · refine X_iconst 54 (2) dX6_faultOfPainting_54 (by decide) ?_
          refine X_iret 55 dX6_faultOfPainting_55 rfl rfl ⟨_, rfl, _, rfl, ?_⟩
          refine ⟨rfl, Or.inr (Or.inr (⟨rfl, ?_⟩))⟩
          first
          | exact ⟨⟨b_6, b_19⟩, Int32.not_lt.mp c_29, Int32.not_lt.mp c_35, b_44⟩
          | exact fun h => b_6 h.1
          | exact fun h => b_19 h.2
          | exact ⟨⟨b_6, b_19⟩, fun h => absurd c_29 (Int32.not_lt.mpr h.1)⟩
          | exact ⟨⟨b_6, b_19⟩, fun h => absurd c_35 (Int32.not_lt.mpr h.2.1)⟩
          | exact ⟨⟨b_6, b_19⟩, fun h => b_44 h.2.2⟩
        · refine X_iload 38 5 dX6_faultOfPainting_38 rfl ?_
          refine X_iconst 40 (0) dX6_faultOfPainting_40 (by decide) ?_
          refine X_sipush 41 (255) dX6_faultOfPainting_41 (by decide) ?_
          refine X_cSI 44 [.int _, .int _, .int _] (e_X6_within _ _ _ _) dX6_faultOfPainting_44 lm_RX6_176 3 ⟨wm_X6_within, by decide +kernel, rfl, rfl⟩ rfl ⟨Nat.le_of_ble_eq_true rfl, Nat.le_of_ble_eq_true rfl⟩ rfl (Nat.le_of_ble_eq_true rfl) ?_
          rintro _ _ ⟨rfl, ⟨rfl, b_44⟩ | ⟨rfl, b_44⟩⟩
          · refine X_if_eq 47 54 dX6_faultOfPainting_47 (by decide) (fun c_0 => by exact absurd c_0 (by decide)) (fun _ => ?_)
            refine X_iconst 50 (0) dX6_faultOfPainting_50 (by decide) ?_
            refine X_goto 51 55 dX6_faultOfPainting_51 (by decide) ?_
            refine X_iret 55 dX6_faultOfPainting_55 rfl rfl ⟨_, rfl, _, rfl, ?_⟩
            refine ⟨rfl, Or.inl ⟨rfl, ?_⟩⟩
            first
            | exact ⟨⟨b_6, b_19⟩, Int32.not_lt.mp c_29, Int32.not_lt.mp c_35, b_44⟩
            | exact fun h => b_6 h.1
            | exact fun h => b_19 h.2
            | exact ⟨⟨b_6, b_19⟩, fun h => absurd c_29 (Int32.not_lt.mpr h.1)⟩
            | exact ⟨⟨b_6, b_19⟩, fun h => absurd c_35 (Int32.not_lt.mpr h.2.1)⟩
            | exact ⟨⟨b_6, b_19⟩, fun h => b_44 h.2.2⟩
          · refine X_if_eq 47 54 dX6_faultOfPainting_47 (by decide) (fun _ => ?_) (fun c_0 => by exact absurd c_0 (by decide))
            refine X_iconst 54 (2) dX6_faultOfPainting_54 (by decide) ?_
            refine X_iret 55 dX6_faultOfPainting_55 rfl rfl ⟨_, rfl, _, rfl, ?_⟩
            refine ⟨rfl, Or.inr (Or.inr (⟨rfl, ?_⟩))⟩
            first
            | exact ⟨⟨b_6, b_19⟩, Int32.not_lt.mp c_29, Int32.not_lt.mp c_35, b_44⟩
            | exact fun h => b_6 h.1
            | exact fun h => b_19 h.2
            | exact ⟨⟨b_6, b_19⟩, fun h => absurd c_29 (Int32.not_lt.mpr h.1)⟩
            | exact ⟨⟨b_6, b_19⟩, fun h => absurd c_35 (Int32.not_lt.mpr h.2.1)⟩
            | exact ⟨⟨b_6, b_19⟩, fun h => b_44 h.2.2⟩
    · refine X_if_ne 22 27 dX6_faultOfPainting_22 (by decide) (fun c_0 => by exact absurd c_0 (by decide)) (fun _ => ?_)
      refine X_iconst 25 (1) dX6_faultOfPainting_25 (by decide) ?_
      refine X_iret 26 dX6_faultOfPainting_26 rfl rfl ⟨_, rfl, _, rfl, ?_⟩
      refine ⟨rfl, Or.inr (Or.inl ⟨rfl, ?_⟩)⟩
      first
      | exact ⟨⟨b_6, b_19⟩, Int32.not_lt.mp c_29, Int32.not_lt.mp c_35, b_44⟩
      | exact fun h => b_6 h.1
      | exact fun h => b_19 h.2
      | exact ⟨⟨b_6, b_19⟩, fun h => absurd c_29 (Int32.not_lt.mpr h.1)⟩
      | exact ⟨⟨b_6, b_19⟩, fun h => absurd c_35 (Int32.not_lt.mpr h.2.1)⟩
      | exact ⟨⟨b_6, b_19⟩, fun h => b_44 h.2.2⟩
  · refine X_if_eq 9 25 dX6_faultOfPainting_9 (by decide) (fun _ => ?_) (fun c_0 => by exact absurd c_0 (by decide))
    refine X_iconst 25 (1) dX6_faultOfPainting_25 (by decide) ?_
    refine X_iret 26 dX6_faultOfPainting_26 rfl rfl ⟨_, rfl, _, rfl, ?_⟩
    refine ⟨rfl, Or.inr (Or.inl ⟨rfl, ?_⟩)⟩
    first
    | exact ⟨⟨b_6, b_19⟩, Int32.not_lt.mp c_29, Int32.not_lt.mp c_35, b_44⟩
    | exact fun h => b_6 h.1
    | exact fun h => b_19 h.2
    | exact ⟨⟨b_6, b_19⟩, fun h => absurd c_29 (Int32.not_lt.mpr h.1)⟩
    | exact ⟨⟨b_6, b_19⟩, fun h => absurd c_35 (Int32.not_lt.mpr h.2.1)⟩
    | exact ⟨⟨b_6, b_19⟩, fun h => b_44 h.2.2⟩
set_option maxHeartbeats 4000000 in
set_option maxRecDepth 100000 in
theorem e_X6_faultOfNewLamp (a b : Int32) (μ : Mm) : EvN ΛC mX6_faultOfNewLamp [.ref 109, .int a, .int b] μ (qI (fun x9 μ' => μ = μ' ∧ ((x9 = 0 ∧ (nlOK a b ∧ μ 0 5 < 8)) ∨ (x9 = 2 ∧ ¬ nlOK a b) ∨ (x9 = 3 ∧ (nlOK a b ∧ ¬ μ 0 5 < 8))))) := by
  refine EvN_ofQ (by decide +kernel) rfl (fun _ => rfl) (fun _ => Nat.le_of_ble_eq_true rfl) (ls := [(0, .ref 109), (1, .int a), (2, .int b)]) ?_
  refine X_iload_n 0 1 dX6_faultOfNewLamp_0 rfl rfl ?_
  refine X_iconst 1 (0) dX6_faultOfNewLamp_1 (by decide) ?_
  refine X_sipush 2 (255) dX6_faultOfNewLamp_2 (by decide) ?_
  refine X_cSI 5 [.int _, .int _, .int _] (e_X6_within _ _ _ _) dX6_faultOfNewLamp_5 lm_RX6_176 3 ⟨wm_X6_within, by decide +kernel, rfl, rfl⟩ rfl ⟨Nat.le_of_ble_eq_true rfl, Nat.le_of_ble_eq_true rfl⟩ rfl (Nat.le_of_ble_eq_true rfl) ?_
  rintro _ _ ⟨rfl, ⟨rfl, b_5⟩ | ⟨rfl, b_5⟩⟩
  · refine X_if_eq 8 22 dX6_faultOfNewLamp_8 (by decide) (fun c_0 => by exact absurd c_0 (by decide)) (fun _ => ?_)
    refine X_iload_n 11 2 dX6_faultOfNewLamp_11 rfl rfl ?_
    refine X_iconst 12 (0) dX6_faultOfNewLamp_12 (by decide) ?_
    refine X_sipush 13 (255) dX6_faultOfNewLamp_13 (by decide) ?_
    refine X_cSI 16 [.int _, .int _, .int _] (e_X6_within _ _ _ _) dX6_faultOfNewLamp_16 lm_RX6_176 3 ⟨wm_X6_within, by decide +kernel, rfl, rfl⟩ rfl ⟨Nat.le_of_ble_eq_true rfl, Nat.le_of_ble_eq_true rfl⟩ rfl (Nat.le_of_ble_eq_true rfl) ?_
    rintro _ _ ⟨rfl, ⟨rfl, b_16⟩ | ⟨rfl, b_16⟩⟩
    · refine X_if_ne 19 24 dX6_faultOfNewLamp_19 (by decide) (fun _ => ?_) (fun c_0 => by exact absurd c_0 (by decide))
      refine X_aload_n 24 0 dX6_faultOfNewLamp_24 rfl rfl ?_
      refine X_getR (f := 0) 25 dX6_faultOfNewLamp_25 lf_RX6_12 iw6 vc6 (by decide) lyL rfl ?_
      refine X_getI (f := 5) 28 dX6_faultOfNewLamp_28 lf_RX6_198 iw4 vc4 (by decide) (lyS 0 (Or.inl rfl)) rfl ?_
      refine X_bipush 31 (8) dX6_faultOfNewLamp_31 (by decide) ?_
      refine X_icmp_ge 33 40 dX6_faultOfNewLamp_33 (by decide) (fun c_33 => ?_) (fun c_33 => ?_)
      · refine X_iconst 40 (3) dX6_faultOfNewLamp_40 (by decide) ?_
        refine X_iret 41 dX6_faultOfNewLamp_41 rfl rfl ⟨_, rfl, _, rfl, ?_⟩
        refine ⟨rfl, Or.inr (Or.inr (⟨rfl, ?_⟩))⟩
        first
        | exact ⟨⟨b_5, b_16⟩, Int32.not_le.mp c_33⟩
        | exact fun h => b_5 h.1
        | exact fun h => b_16 h.2
        | exact ⟨⟨b_5, b_16⟩, Int32.not_lt.mpr c_33⟩
      · refine X_iconst 36 (0) dX6_faultOfNewLamp_36 (by decide) ?_
        refine X_goto 37 41 dX6_faultOfNewLamp_37 (by decide) ?_
        refine X_iret 41 dX6_faultOfNewLamp_41 rfl rfl ⟨_, rfl, _, rfl, ?_⟩
        refine ⟨rfl, Or.inl ⟨rfl, ?_⟩⟩
        first
        | exact ⟨⟨b_5, b_16⟩, Int32.not_le.mp c_33⟩
        | exact fun h => b_5 h.1
        | exact fun h => b_16 h.2
        | exact ⟨⟨b_5, b_16⟩, Int32.not_lt.mpr c_33⟩
    · refine X_if_ne 19 24 dX6_faultOfNewLamp_19 (by decide) (fun c_0 => by exact absurd c_0 (by decide)) (fun _ => ?_)
      refine X_iconst 22 (2) dX6_faultOfNewLamp_22 (by decide) ?_
      refine X_iret 23 dX6_faultOfNewLamp_23 rfl rfl ⟨_, rfl, _, rfl, ?_⟩
      refine ⟨rfl, Or.inr (Or.inl ⟨rfl, ?_⟩)⟩
      first
      | exact ⟨⟨b_5, b_16⟩, Int32.not_le.mp c_33⟩
      | exact fun h => b_5 h.1
      | exact fun h => b_16 h.2
      | exact ⟨⟨b_5, b_16⟩, Int32.not_lt.mpr c_33⟩
  · refine X_if_eq 8 22 dX6_faultOfNewLamp_8 (by decide) (fun _ => ?_) (fun c_0 => by exact absurd c_0 (by decide))
    refine X_iconst 22 (2) dX6_faultOfNewLamp_22 (by decide) ?_
    refine X_iret 23 dX6_faultOfNewLamp_23 rfl rfl ⟨_, rfl, _, rfl, ?_⟩
    refine ⟨rfl, Or.inr (Or.inl ⟨rfl, ?_⟩)⟩
    first
    | exact ⟨⟨b_5, b_16⟩, Int32.not_le.mp c_33⟩
    | exact fun h => b_5 h.1
    | exact fun h => b_16 h.2
    | exact ⟨⟨b_5, b_16⟩, Int32.not_lt.mpr c_33⟩
set_option maxHeartbeats 4000000 in
set_option maxRecDepth 100000 in
theorem e_X6_faultOfCorner (n i x y : Int32) (μ : Mm) : EvN ΛC mX6_faultOfCorner [.ref 109, .int n, .int i, .int x, .int y] μ (qI (fun x9 μ' => μ = μ' ∧ ((x9 = 0 ∧ ((lpOK μ n ∧ rgI i 0 3) ∧ coOK x y)) ∨ (x9 = 1 ∧ ¬ (lpOK μ n ∧ rgI i 0 3)) ∨ (x9 = 2 ∧ ((lpOK μ n ∧ rgI i 0 3) ∧ ¬ coOK x y))))) := by
  refine EvN_ofQ (by decide +kernel) rfl (fun _ => rfl) (fun _ => Nat.le_of_ble_eq_true rfl) (ls := [(0, .ref 109), (1, .int n), (2, .int i), (3, .int x), (4, .int y)]) ?_
  refine X_aload_n 0 0 dX6_faultOfCorner_0 rfl rfl ?_
  refine X_getR (f := 0) 1 dX6_faultOfCorner_1 lf_RX6_12 iw6 vc6 (by decide) lyL rfl ?_
  refine X_iload_n 4 1 dX6_faultOfCorner_4 rfl rfl ?_
  refine X_cVI 5 [.int _] (e_X4_hasLamp 0 (Or.inl rfl) _ _) dX6_faultOfCorner_5 lm_RX6_336 1 ⟨wm_X4_hasLamp, by decide +kernel, rfl, rfl⟩ rfl ⟨Nat.le_of_ble_eq_true rfl, Nat.le_of_ble_eq_true rfl⟩ (lyS 0 (Or.inl rfl)) vc4 rfl rfl (Nat.le_of_ble_eq_true rfl) ?_
  rintro _ _ ⟨rfl, ⟨rfl, b_5⟩ | ⟨rfl, b_5⟩⟩
  · refine X_if_eq 8 20 dX6_faultOfCorner_8 (by decide) (fun c_0 => by exact absurd c_0 (by decide)) (fun _ => ?_)
    refine X_iload_n 11 2 dX6_faultOfCorner_11 rfl rfl ?_
    refine X_iconst 12 (0) dX6_faultOfCorner_12 (by decide) ?_
    refine X_iconst 13 (3) dX6_faultOfCorner_13 (by decide) ?_
    refine X_cSI 14 [.int _, .int _, .int _] (e_X6_within _ _ _ _) dX6_faultOfCorner_14 lm_RX6_176 3 ⟨wm_X6_within, by decide +kernel, rfl, rfl⟩ rfl ⟨Nat.le_of_ble_eq_true rfl, Nat.le_of_ble_eq_true rfl⟩ rfl (Nat.le_of_ble_eq_true rfl) ?_
    rintro _ _ ⟨rfl, ⟨rfl, b_14⟩ | ⟨rfl, b_14⟩⟩
    · refine X_if_ne 17 22 dX6_faultOfCorner_17 (by decide) (fun _ => ?_) (fun c_0 => by exact absurd c_0 (by decide))
      refine X_iload_n 22 3 dX6_faultOfCorner_22 rfl rfl ?_
      refine X_bipush 23 (-20) dX6_faultOfCorner_23 (by decide) ?_
      refine X_bipush 25 (40) dX6_faultOfCorner_25 (by decide) ?_
      refine X_cSI 27 [.int _, .int _, .int _] (e_X6_within _ _ _ _) dX6_faultOfCorner_27 lm_RX6_176 3 ⟨wm_X6_within, by decide +kernel, rfl, rfl⟩ rfl ⟨Nat.le_of_ble_eq_true rfl, Nat.le_of_ble_eq_true rfl⟩ rfl (Nat.le_of_ble_eq_true rfl) ?_
      rintro _ _ ⟨rfl, ⟨rfl, b_27⟩ | ⟨rfl, b_27⟩⟩
      · refine X_if_eq 30 49 dX6_faultOfCorner_30 (by decide) (fun c_0 => by exact absurd c_0 (by decide)) (fun _ => ?_)
        refine X_iload 33 4 dX6_faultOfCorner_33 rfl ?_
        refine X_bipush 35 (-20) dX6_faultOfCorner_35 (by decide) ?_
        refine X_bipush 37 (40) dX6_faultOfCorner_37 (by decide) ?_
        refine X_cSI 39 [.int _, .int _, .int _] (e_X6_within _ _ _ _) dX6_faultOfCorner_39 lm_RX6_176 3 ⟨wm_X6_within, by decide +kernel, rfl, rfl⟩ rfl ⟨Nat.le_of_ble_eq_true rfl, Nat.le_of_ble_eq_true rfl⟩ rfl (Nat.le_of_ble_eq_true rfl) ?_
        rintro _ _ ⟨rfl, ⟨rfl, b_39⟩ | ⟨rfl, b_39⟩⟩
        · refine X_if_eq 42 49 dX6_faultOfCorner_42 (by decide) (fun c_0 => by exact absurd c_0 (by decide)) (fun _ => ?_)
          refine X_iconst 45 (1) dX6_faultOfCorner_45 (by decide) ?_
          refine X_goto 46 50 dX6_faultOfCorner_46 (by decide) ?_
          refine X_istore 50 [(5, .int _), (0, .ref _), (1, .int _), (2, .int _), (3, .int _), (4, .int _)] dX6_faultOfCorner_50 (by decide) rfl ?_
          refine X_iload 52 0 dX6_faultOfCorner_52 rfl ?_
          refine X_if_eq 54 61 dX6_faultOfCorner_54 (by decide) (fun c_0 => by exact absurd c_0 (by decide)) (fun _ => ?_)
          refine X_iconst 57 (0) dX6_faultOfCorner_57 (by decide) ?_
          refine X_goto 58 62 dX6_faultOfCorner_58 (by decide) ?_
          refine X_iret 62 dX6_faultOfCorner_62 rfl rfl ⟨_, rfl, _, rfl, ?_⟩
          refine ⟨rfl, Or.inl ⟨rfl, ?_⟩⟩
          first
          | exact ⟨⟨b_5, b_14⟩, b_27, b_39⟩
          | exact fun h => b_5 h.1
          | exact fun h => b_14 h.2
          | exact ⟨⟨b_5, b_14⟩, fun h => b_27 h.1⟩
          | exact ⟨⟨b_5, b_14⟩, fun h => b_39 h.2⟩
        · refine X_if_eq 42 49 dX6_faultOfCorner_42 (by decide) (fun _ => ?_) (fun c_0 => by exact absurd c_0 (by decide))
          refine X_iconst 49 (0) dX6_faultOfCorner_49 (by decide) ?_
          refine X_istore 50 [(5, .int _), (0, .ref _), (1, .int _), (2, .int _), (3, .int _), (4, .int _)] dX6_faultOfCorner_50 (by decide) rfl ?_
          refine X_iload 52 0 dX6_faultOfCorner_52 rfl ?_
          refine X_if_eq 54 61 dX6_faultOfCorner_54 (by decide) (fun _ => ?_) (fun c_0 => by exact absurd c_0 (by decide))
          refine X_iconst 61 (2) dX6_faultOfCorner_61 (by decide) ?_
          refine X_iret 62 dX6_faultOfCorner_62 rfl rfl ⟨_, rfl, _, rfl, ?_⟩
          refine ⟨rfl, Or.inr (Or.inr (⟨rfl, ?_⟩))⟩
          first
          | exact ⟨⟨b_5, b_14⟩, b_27, b_39⟩
          | exact fun h => b_5 h.1
          | exact fun h => b_14 h.2
          | exact ⟨⟨b_5, b_14⟩, fun h => b_27 h.1⟩
          | exact ⟨⟨b_5, b_14⟩, fun h => b_39 h.2⟩
      · refine X_if_eq 30 49 dX6_faultOfCorner_30 (by decide) (fun _ => ?_) (fun c_0 => by exact absurd c_0 (by decide))
        refine X_iconst 49 (0) dX6_faultOfCorner_49 (by decide) ?_
        refine X_istore 50 [(5, .int _), (0, .ref _), (1, .int _), (2, .int _), (3, .int _), (4, .int _)] dX6_faultOfCorner_50 (by decide) rfl ?_
        refine X_iload 52 0 dX6_faultOfCorner_52 rfl ?_
        refine X_if_eq 54 61 dX6_faultOfCorner_54 (by decide) (fun _ => ?_) (fun c_0 => by exact absurd c_0 (by decide))
        refine X_iconst 61 (2) dX6_faultOfCorner_61 (by decide) ?_
        refine X_iret 62 dX6_faultOfCorner_62 rfl rfl ⟨_, rfl, _, rfl, ?_⟩
        refine ⟨rfl, Or.inr (Or.inr (⟨rfl, ?_⟩))⟩
        first
        | exact ⟨⟨b_5, b_14⟩, b_27, b_39⟩
        | exact fun h => b_5 h.1
        | exact fun h => b_14 h.2
        | exact ⟨⟨b_5, b_14⟩, fun h => b_27 h.1⟩
        | exact ⟨⟨b_5, b_14⟩, fun h => b_39 h.2⟩
    · refine X_if_ne 17 22 dX6_faultOfCorner_17 (by decide) (fun c_0 => by exact absurd c_0 (by decide)) (fun _ => ?_)
      refine X_iconst 20 (1) dX6_faultOfCorner_20 (by decide) ?_
      refine X_iret 21 dX6_faultOfCorner_21 rfl rfl ⟨_, rfl, _, rfl, ?_⟩
      refine ⟨rfl, Or.inr (Or.inl ⟨rfl, ?_⟩)⟩
      first
      | exact ⟨⟨b_5, b_14⟩, b_27, b_39⟩
      | exact fun h => b_5 h.1
      | exact fun h => b_14 h.2
      | exact ⟨⟨b_5, b_14⟩, fun h => b_27 h.1⟩
      | exact ⟨⟨b_5, b_14⟩, fun h => b_39 h.2⟩
  · refine X_if_eq 8 20 dX6_faultOfCorner_8 (by decide) (fun _ => ?_) (fun c_0 => by exact absurd c_0 (by decide))
    refine X_iconst 20 (1) dX6_faultOfCorner_20 (by decide) ?_
    refine X_iret 21 dX6_faultOfCorner_21 rfl rfl ⟨_, rfl, _, rfl, ?_⟩
    refine ⟨rfl, Or.inr (Or.inl ⟨rfl, ?_⟩)⟩
    first
    | exact ⟨⟨b_5, b_14⟩, b_27, b_39⟩
    | exact fun h => b_5 h.1
    | exact fun h => b_14 h.2
    | exact ⟨⟨b_5, b_14⟩, fun h => b_27 h.1⟩
    | exact ⟨⟨b_5, b_14⟩, fun h => b_39 h.2⟩
set_option maxHeartbeats 4000000 in
set_option maxRecDepth 100000 in
theorem e_X6_faultOfRectangle (n x y u v : Int32) (μ : Mm) : EvN ΛC mX6_faultOfRectangle [.ref 109, .int n, .int x, .int y, .int u, .int v] μ (qI (fun x9 μ' => μ = μ' ∧ ((x9 = 0 ∧ (lpOK μ n ∧ rcOK x y u v)) ∨ (x9 = 1 ∧ ¬ lpOK μ n) ∨ (x9 = 2 ∧ (lpOK μ n ∧ ¬ rcOK x y u v))))) := by
  refine EvN_ofQ (by decide +kernel) rfl (fun _ => rfl) (fun _ => Nat.le_of_ble_eq_true rfl) (ls := [(0, .ref 109), (1, .int n), (2, .int x), (3, .int y), (4, .int u), (5, .int v)]) ?_
  refine X_aload_n 0 0 dX6_faultOfRectangle_0 rfl rfl ?_
  refine X_getR (f := 0) 1 dX6_faultOfRectangle_1 lf_RX6_12 iw6 vc6 (by decide) lyL rfl ?_
  refine X_iload_n 4 1 dX6_faultOfRectangle_4 rfl rfl ?_
  refine X_cVI 5 [.int _] (e_X4_hasLamp 0 (Or.inl rfl) _ _) dX6_faultOfRectangle_5 lm_RX6_336 1 ⟨wm_X4_hasLamp, by decide +kernel, rfl, rfl⟩ rfl ⟨Nat.le_of_ble_eq_true rfl, Nat.le_of_ble_eq_true rfl⟩ (lyS 0 (Or.inl rfl)) vc4 rfl rfl (Nat.le_of_ble_eq_true rfl) ?_
  rintro _ _ ⟨rfl, ⟨rfl, b_5⟩ | ⟨rfl, b_5⟩⟩
  · refine X_if_ne 8 13 dX6_faultOfRectangle_8 (by decide) (fun _ => ?_) (fun c_0 => by exact absurd c_0 (by decide))
    refine X_iload_n 13 2 dX6_faultOfRectangle_13 rfl rfl ?_
    refine X_bipush 14 (-20) dX6_faultOfRectangle_14 (by decide) ?_
    refine X_bipush 16 (39) dX6_faultOfRectangle_16 (by decide) ?_
    refine X_cSI 18 [.int _, .int _, .int _] (e_X6_within _ _ _ _) dX6_faultOfRectangle_18 lm_RX6_176 3 ⟨wm_X6_within, by decide +kernel, rfl, rfl⟩ rfl ⟨Nat.le_of_ble_eq_true rfl, Nat.le_of_ble_eq_true rfl⟩ rfl (Nat.le_of_ble_eq_true rfl) ?_
    rintro _ _ ⟨rfl, ⟨rfl, b_18⟩ | ⟨rfl, b_18⟩⟩
    · refine X_if_eq 21 39 dX6_faultOfRectangle_21 (by decide) (fun c_0 => by exact absurd c_0 (by decide)) (fun _ => ?_)
      refine X_iload_n 24 3 dX6_faultOfRectangle_24 rfl rfl ?_
      refine X_bipush 25 (-20) dX6_faultOfRectangle_25 (by decide) ?_
      refine X_bipush 27 (39) dX6_faultOfRectangle_27 (by decide) ?_
      refine X_cSI 29 [.int _, .int _, .int _] (e_X6_within _ _ _ _) dX6_faultOfRectangle_29 lm_RX6_176 3 ⟨wm_X6_within, by decide +kernel, rfl, rfl⟩ rfl ⟨Nat.le_of_ble_eq_true rfl, Nat.le_of_ble_eq_true rfl⟩ rfl (Nat.le_of_ble_eq_true rfl) ?_
      rintro _ _ ⟨rfl, ⟨rfl, b_29⟩ | ⟨rfl, b_29⟩⟩
      · refine X_if_eq 32 39 dX6_faultOfRectangle_32 (by decide) (fun c_0 => by exact absurd c_0 (by decide)) (fun _ => ?_)
        refine X_iconst 35 (1) dX6_faultOfRectangle_35 (by decide) ?_
        refine X_goto 36 40 dX6_faultOfRectangle_36 (by decide) ?_
        refine X_istore 40 [(6, .int _), (0, .ref _), (1, .int _), (2, .int _), (3, .int _), (4, .int _), (5, .int _)] dX6_faultOfRectangle_40 (by decide) rfl ?_
        refine X_iload 42 5 dX6_faultOfRectangle_42 rfl ?_
        refine X_iload_n 44 3 dX6_faultOfRectangle_44 rfl rfl ?_
        refine X_icmp_le 45 72 dX6_faultOfRectangle_45 (by decide) (fun c_45 => ?_) (fun c_45 => ?_)
        · refine X_iconst 72 (0) dX6_faultOfRectangle_72 (by decide) ?_
          refine X_istore 73 [(7, .int _), (6, .int _), (0, .ref _), (1, .int _), (2, .int _), (3, .int _), (4, .int _), (5, .int _)] dX6_faultOfRectangle_73 (by decide) rfl ?_
          refine X_iload 75 1 dX6_faultOfRectangle_75 rfl ?_
          refine X_if_eq 77 89 dX6_faultOfRectangle_77 (by decide) (fun c_0 => by exact absurd c_0 (by decide)) (fun _ => ?_)
          refine X_iload 80 0 dX6_faultOfRectangle_80 rfl ?_
          refine X_if_eq 82 89 dX6_faultOfRectangle_82 (by decide) (fun _ => ?_) (fun c_0 => by exact absurd c_0 (by decide))
          refine X_iconst 89 (2) dX6_faultOfRectangle_89 (by decide) ?_
          refine X_iret 90 dX6_faultOfRectangle_90 rfl rfl ⟨_, rfl, _, rfl, ?_⟩
          refine ⟨rfl, Or.inr (Or.inr (⟨rfl, ?_⟩))⟩
          first
          | exact b_5
          | exact ⟨b_5, ⟨b_18, b_29⟩, ⟨Int32.not_le.mp c_45, Int32.not_lt.mp c_52⟩, Int32.not_le.mp c_58, Int32.not_lt.mp c_65⟩
          | exact ⟨b_5, fun h => b_18 h.1.1⟩
          | exact ⟨b_5, fun h => b_29 h.1.2⟩
          | exact ⟨b_5, fun h => absurd c_45 (Int32.not_le.mpr h.2.1.1)⟩
          | exact ⟨b_5, fun h => absurd c_52 (Int32.not_lt.mpr h.2.1.2)⟩
          | exact ⟨b_5, fun h => absurd c_58 (Int32.not_le.mpr h.2.2.1)⟩
          | exact ⟨b_5, fun h => absurd c_65 (Int32.not_lt.mpr h.2.2.2)⟩
        · refine X_iload 48 5 dX6_faultOfRectangle_48 rfl ?_
          refine X_bipush 50 (40) dX6_faultOfRectangle_50 (by decide) ?_
          refine X_icmp_gt 52 72 dX6_faultOfRectangle_52 (by decide) (fun c_52 => ?_) (fun c_52 => ?_)
          · refine X_iconst 72 (0) dX6_faultOfRectangle_72 (by decide) ?_
            refine X_istore 73 [(7, .int _), (6, .int _), (0, .ref _), (1, .int _), (2, .int _), (3, .int _), (4, .int _), (5, .int _)] dX6_faultOfRectangle_73 (by decide) rfl ?_
            refine X_iload 75 1 dX6_faultOfRectangle_75 rfl ?_
            refine X_if_eq 77 89 dX6_faultOfRectangle_77 (by decide) (fun c_0 => by exact absurd c_0 (by decide)) (fun _ => ?_)
            refine X_iload 80 0 dX6_faultOfRectangle_80 rfl ?_
            refine X_if_eq 82 89 dX6_faultOfRectangle_82 (by decide) (fun _ => ?_) (fun c_0 => by exact absurd c_0 (by decide))
            refine X_iconst 89 (2) dX6_faultOfRectangle_89 (by decide) ?_
            refine X_iret 90 dX6_faultOfRectangle_90 rfl rfl ⟨_, rfl, _, rfl, ?_⟩
            refine ⟨rfl, Or.inr (Or.inr (⟨rfl, ?_⟩))⟩
            first
            | exact b_5
            | exact ⟨b_5, ⟨b_18, b_29⟩, ⟨Int32.not_le.mp c_45, Int32.not_lt.mp c_52⟩, Int32.not_le.mp c_58, Int32.not_lt.mp c_65⟩
            | exact ⟨b_5, fun h => b_18 h.1.1⟩
            | exact ⟨b_5, fun h => b_29 h.1.2⟩
            | exact ⟨b_5, fun h => absurd c_45 (Int32.not_le.mpr h.2.1.1)⟩
            | exact ⟨b_5, fun h => absurd c_52 (Int32.not_lt.mpr h.2.1.2)⟩
            | exact ⟨b_5, fun h => absurd c_58 (Int32.not_le.mpr h.2.2.1)⟩
            | exact ⟨b_5, fun h => absurd c_65 (Int32.not_lt.mpr h.2.2.2)⟩
          · refine X_iload 55 6 dX6_faultOfRectangle_55 rfl ?_
            refine X_iload_n 57 4 dX6_faultOfRectangle_57 rfl rfl ?_
            refine X_icmp_le 58 72 dX6_faultOfRectangle_58 (by decide) (fun c_58 => ?_) (fun c_58 => ?_)
            · refine X_iconst 72 (0) dX6_faultOfRectangle_72 (by decide) ?_
              refine X_istore 73 [(7, .int _), (6, .int _), (0, .ref _), (1, .int _), (2, .int _), (3, .int _), (4, .int _), (5, .int _)] dX6_faultOfRectangle_73 (by decide) rfl ?_
              refine X_iload 75 1 dX6_faultOfRectangle_75 rfl ?_
              refine X_if_eq 77 89 dX6_faultOfRectangle_77 (by decide) (fun c_0 => by exact absurd c_0 (by decide)) (fun _ => ?_)
              refine X_iload 80 0 dX6_faultOfRectangle_80 rfl ?_
              refine X_if_eq 82 89 dX6_faultOfRectangle_82 (by decide) (fun _ => ?_) (fun c_0 => by exact absurd c_0 (by decide))
              refine X_iconst 89 (2) dX6_faultOfRectangle_89 (by decide) ?_
              refine X_iret 90 dX6_faultOfRectangle_90 rfl rfl ⟨_, rfl, _, rfl, ?_⟩
              refine ⟨rfl, Or.inr (Or.inr (⟨rfl, ?_⟩))⟩
              first
              | exact b_5
              | exact ⟨b_5, ⟨b_18, b_29⟩, ⟨Int32.not_le.mp c_45, Int32.not_lt.mp c_52⟩, Int32.not_le.mp c_58, Int32.not_lt.mp c_65⟩
              | exact ⟨b_5, fun h => b_18 h.1.1⟩
              | exact ⟨b_5, fun h => b_29 h.1.2⟩
              | exact ⟨b_5, fun h => absurd c_45 (Int32.not_le.mpr h.2.1.1)⟩
              | exact ⟨b_5, fun h => absurd c_52 (Int32.not_lt.mpr h.2.1.2)⟩
              | exact ⟨b_5, fun h => absurd c_58 (Int32.not_le.mpr h.2.2.1)⟩
              | exact ⟨b_5, fun h => absurd c_65 (Int32.not_lt.mpr h.2.2.2)⟩
            · refine X_iload 61 6 dX6_faultOfRectangle_61 rfl ?_
              refine X_bipush 63 (40) dX6_faultOfRectangle_63 (by decide) ?_
              refine X_icmp_gt 65 72 dX6_faultOfRectangle_65 (by decide) (fun c_65 => ?_) (fun c_65 => ?_)
              · refine X_iconst 72 (0) dX6_faultOfRectangle_72 (by decide) ?_
                refine X_istore 73 [(7, .int _), (6, .int _), (0, .ref _), (1, .int _), (2, .int _), (3, .int _), (4, .int _), (5, .int _)] dX6_faultOfRectangle_73 (by decide) rfl ?_
                refine X_iload 75 1 dX6_faultOfRectangle_75 rfl ?_
                refine X_if_eq 77 89 dX6_faultOfRectangle_77 (by decide) (fun c_0 => by exact absurd c_0 (by decide)) (fun _ => ?_)
                refine X_iload 80 0 dX6_faultOfRectangle_80 rfl ?_
                refine X_if_eq 82 89 dX6_faultOfRectangle_82 (by decide) (fun _ => ?_) (fun c_0 => by exact absurd c_0 (by decide))
                refine X_iconst 89 (2) dX6_faultOfRectangle_89 (by decide) ?_
                refine X_iret 90 dX6_faultOfRectangle_90 rfl rfl ⟨_, rfl, _, rfl, ?_⟩
                refine ⟨rfl, Or.inr (Or.inr (⟨rfl, ?_⟩))⟩
                first
                | exact b_5
                | exact ⟨b_5, ⟨b_18, b_29⟩, ⟨Int32.not_le.mp c_45, Int32.not_lt.mp c_52⟩, Int32.not_le.mp c_58, Int32.not_lt.mp c_65⟩
                | exact ⟨b_5, fun h => b_18 h.1.1⟩
                | exact ⟨b_5, fun h => b_29 h.1.2⟩
                | exact ⟨b_5, fun h => absurd c_45 (Int32.not_le.mpr h.2.1.1)⟩
                | exact ⟨b_5, fun h => absurd c_52 (Int32.not_lt.mpr h.2.1.2)⟩
                | exact ⟨b_5, fun h => absurd c_58 (Int32.not_le.mpr h.2.2.1)⟩
                | exact ⟨b_5, fun h => absurd c_65 (Int32.not_lt.mpr h.2.2.2)⟩
              · refine X_iconst 68 (1) dX6_faultOfRectangle_68 (by decide) ?_
                refine X_goto 69 73 dX6_faultOfRectangle_69 (by decide) ?_
                refine X_istore 73 [(7, .int _), (6, .int _), (0, .ref _), (1, .int _), (2, .int _), (3, .int _), (4, .int _), (5, .int _)] dX6_faultOfRectangle_73 (by decide) rfl ?_
                refine X_iload 75 1 dX6_faultOfRectangle_75 rfl ?_
                refine X_if_eq 77 89 dX6_faultOfRectangle_77 (by decide) (fun c_0 => by exact absurd c_0 (by decide)) (fun _ => ?_)
                refine X_iload 80 0 dX6_faultOfRectangle_80 rfl ?_
                refine X_if_eq 82 89 dX6_faultOfRectangle_82 (by decide) (fun c_0 => by exact absurd c_0 (by decide)) (fun _ => ?_)
                refine X_iconst 85 (0) dX6_faultOfRectangle_85 (by decide) ?_
                refine X_goto 86 90 dX6_faultOfRectangle_86 (by decide) ?_
                refine X_iret 90 dX6_faultOfRectangle_90 rfl rfl ⟨_, rfl, _, rfl, ?_⟩
                refine ⟨rfl, Or.inl ⟨rfl, ?_⟩⟩
                first
                | exact b_5
                | exact ⟨b_5, ⟨b_18, b_29⟩, ⟨Int32.not_le.mp c_45, Int32.not_lt.mp c_52⟩, Int32.not_le.mp c_58, Int32.not_lt.mp c_65⟩
                | exact ⟨b_5, fun h => b_18 h.1.1⟩
                | exact ⟨b_5, fun h => b_29 h.1.2⟩
                | exact ⟨b_5, fun h => absurd c_45 (Int32.not_le.mpr h.2.1.1)⟩
                | exact ⟨b_5, fun h => absurd c_52 (Int32.not_lt.mpr h.2.1.2)⟩
                | exact ⟨b_5, fun h => absurd c_58 (Int32.not_le.mpr h.2.2.1)⟩
                | exact ⟨b_5, fun h => absurd c_65 (Int32.not_lt.mpr h.2.2.2)⟩
      · refine X_if_eq 32 39 dX6_faultOfRectangle_32 (by decide) (fun _ => ?_) (fun c_0 => by exact absurd c_0 (by decide))
        refine X_iconst 39 (0) dX6_faultOfRectangle_39 (by decide) ?_
        refine X_istore 40 [(6, .int _), (0, .ref _), (1, .int _), (2, .int _), (3, .int _), (4, .int _), (5, .int _)] dX6_faultOfRectangle_40 (by decide) rfl ?_
        refine X_iload 42 5 dX6_faultOfRectangle_42 rfl ?_
        refine X_iload_n 44 3 dX6_faultOfRectangle_44 rfl rfl ?_
        refine X_icmp_le 45 72 dX6_faultOfRectangle_45 (by decide) (fun c_45 => ?_) (fun c_45 => ?_)
        · refine X_iconst 72 (0) dX6_faultOfRectangle_72 (by decide) ?_
          refine X_istore 73 [(7, .int _), (6, .int _), (0, .ref _), (1, .int _), (2, .int _), (3, .int _), (4, .int _), (5, .int _)] dX6_faultOfRectangle_73 (by decide) rfl ?_
          refine X_iload 75 1 dX6_faultOfRectangle_75 rfl ?_
          refine X_if_eq 77 89 dX6_faultOfRectangle_77 (by decide) (fun _ => ?_) (fun c_0 => by exact absurd c_0 (by decide))
          refine X_iconst 89 (2) dX6_faultOfRectangle_89 (by decide) ?_
          refine X_iret 90 dX6_faultOfRectangle_90 rfl rfl ⟨_, rfl, _, rfl, ?_⟩
          refine ⟨rfl, Or.inr (Or.inr (⟨rfl, ?_⟩))⟩
          first
          | exact b_5
          | exact ⟨b_5, ⟨b_18, b_29⟩, ⟨Int32.not_le.mp c_45, Int32.not_lt.mp c_52⟩, Int32.not_le.mp c_58, Int32.not_lt.mp c_65⟩
          | exact ⟨b_5, fun h => b_18 h.1.1⟩
          | exact ⟨b_5, fun h => b_29 h.1.2⟩
          | exact ⟨b_5, fun h => absurd c_45 (Int32.not_le.mpr h.2.1.1)⟩
          | exact ⟨b_5, fun h => absurd c_52 (Int32.not_lt.mpr h.2.1.2)⟩
          | exact ⟨b_5, fun h => absurd c_58 (Int32.not_le.mpr h.2.2.1)⟩
          | exact ⟨b_5, fun h => absurd c_65 (Int32.not_lt.mpr h.2.2.2)⟩
        · refine X_iload 48 5 dX6_faultOfRectangle_48 rfl ?_
          refine X_bipush 50 (40) dX6_faultOfRectangle_50 (by decide) ?_
          refine X_icmp_gt 52 72 dX6_faultOfRectangle_52 (by decide) (fun c_52 => ?_) (fun c_52 => ?_)
          · refine X_iconst 72 (0) dX6_faultOfRectangle_72 (by decide) ?_
            refine X_istore 73 [(7, .int _), (6, .int _), (0, .ref _), (1, .int _), (2, .int _), (3, .int _), (4, .int _), (5, .int _)] dX6_faultOfRectangle_73 (by decide) rfl ?_
            refine X_iload 75 1 dX6_faultOfRectangle_75 rfl ?_
            refine X_if_eq 77 89 dX6_faultOfRectangle_77 (by decide) (fun _ => ?_) (fun c_0 => by exact absurd c_0 (by decide))
            refine X_iconst 89 (2) dX6_faultOfRectangle_89 (by decide) ?_
            refine X_iret 90 dX6_faultOfRectangle_90 rfl rfl ⟨_, rfl, _, rfl, ?_⟩
            refine ⟨rfl, Or.inr (Or.inr (⟨rfl, ?_⟩))⟩
            first
            | exact b_5
            | exact ⟨b_5, ⟨b_18, b_29⟩, ⟨Int32.not_le.mp c_45, Int32.not_lt.mp c_52⟩, Int32.not_le.mp c_58, Int32.not_lt.mp c_65⟩
            | exact ⟨b_5, fun h => b_18 h.1.1⟩
            | exact ⟨b_5, fun h => b_29 h.1.2⟩
            | exact ⟨b_5, fun h => absurd c_45 (Int32.not_le.mpr h.2.1.1)⟩
            | exact ⟨b_5, fun h => absurd c_52 (Int32.not_lt.mpr h.2.1.2)⟩
            | exact ⟨b_5, fun h => absurd c_58 (Int32.not_le.mpr h.2.2.1)⟩
            | exact ⟨b_5, fun h => absurd c_65 (Int32.not_lt.mpr h.2.2.2)⟩
          · refine X_iload 55 6 dX6_faultOfRectangle_55 rfl ?_
            refine X_iload_n 57 4 dX6_faultOfRectangle_57 rfl rfl ?_
            refine X_icmp_le 58 72 dX6_faultOfRectangle_58 (by decide) (fun c_58 => ?_) (fun c_58 => ?_)
            · refine X_iconst 72 (0) dX6_faultOfRectangle_72 (by decide) ?_
              refine X_istore 73 [(7, .int _), (6, .int _), (0, .ref _), (1, .int _), (2, .int _), (3, .int _), (4, .int _), (5, .int _)] dX6_faultOfRectangle_73 (by decide) rfl ?_
              refine X_iload 75 1 dX6_faultOfRectangle_75 rfl ?_
              refine X_if_eq 77 89 dX6_faultOfRectangle_77 (by decide) (fun _ => ?_) (fun c_0 => by exact absurd c_0 (by decide))
              refine X_iconst 89 (2) dX6_faultOfRectangle_89 (by decide) ?_
              refine X_iret 90 dX6_faultOfRectangle_90 rfl rfl ⟨_, rfl, _, rfl, ?_⟩
              refine ⟨rfl, Or.inr (Or.inr (⟨rfl, ?_⟩))⟩
              first
              | exact b_5
              | exact ⟨b_5, ⟨b_18, b_29⟩, ⟨Int32.not_le.mp c_45, Int32.not_lt.mp c_52⟩, Int32.not_le.mp c_58, Int32.not_lt.mp c_65⟩
              | exact ⟨b_5, fun h => b_18 h.1.1⟩
              | exact ⟨b_5, fun h => b_29 h.1.2⟩
              | exact ⟨b_5, fun h => absurd c_45 (Int32.not_le.mpr h.2.1.1)⟩
              | exact ⟨b_5, fun h => absurd c_52 (Int32.not_lt.mpr h.2.1.2)⟩
              | exact ⟨b_5, fun h => absurd c_58 (Int32.not_le.mpr h.2.2.1)⟩
              | exact ⟨b_5, fun h => absurd c_65 (Int32.not_lt.mpr h.2.2.2)⟩
            · refine X_iload 61 6 dX6_faultOfRectangle_61 rfl ?_
              refine X_bipush 63 (40) dX6_faultOfRectangle_63 (by decide) ?_
              refine X_icmp_gt 65 72 dX6_faultOfRectangle_65 (by decide) (fun c_65 => ?_) (fun c_65 => ?_)
              · refine X_iconst 72 (0) dX6_faultOfRectangle_72 (by decide) ?_
                refine X_istore 73 [(7, .int _), (6, .int _), (0, .ref _), (1, .int _), (2, .int _), (3, .int _), (4, .int _), (5, .int _)] dX6_faultOfRectangle_73 (by decide) rfl ?_
                refine X_iload 75 1 dX6_faultOfRectangle_75 rfl ?_
                refine X_if_eq 77 89 dX6_faultOfRectangle_77 (by decide) (fun _ => ?_) (fun c_0 => by exact absurd c_0 (by decide))
                refine X_iconst 89 (2) dX6_faultOfRectangle_89 (by decide) ?_
                refine X_iret 90 dX6_faultOfRectangle_90 rfl rfl ⟨_, rfl, _, rfl, ?_⟩
                refine ⟨rfl, Or.inr (Or.inr (⟨rfl, ?_⟩))⟩
                first
                | exact b_5
                | exact ⟨b_5, ⟨b_18, b_29⟩, ⟨Int32.not_le.mp c_45, Int32.not_lt.mp c_52⟩, Int32.not_le.mp c_58, Int32.not_lt.mp c_65⟩
                | exact ⟨b_5, fun h => b_18 h.1.1⟩
                | exact ⟨b_5, fun h => b_29 h.1.2⟩
                | exact ⟨b_5, fun h => absurd c_45 (Int32.not_le.mpr h.2.1.1)⟩
                | exact ⟨b_5, fun h => absurd c_52 (Int32.not_lt.mpr h.2.1.2)⟩
                | exact ⟨b_5, fun h => absurd c_58 (Int32.not_le.mpr h.2.2.1)⟩
                | exact ⟨b_5, fun h => absurd c_65 (Int32.not_lt.mpr h.2.2.2)⟩
              · refine X_iconst 68 (1) dX6_faultOfRectangle_68 (by decide) ?_
                refine X_goto 69 73 dX6_faultOfRectangle_69 (by decide) ?_
                refine X_istore 73 [(7, .int _), (6, .int _), (0, .ref _), (1, .int _), (2, .int _), (3, .int _), (4, .int _), (5, .int _)] dX6_faultOfRectangle_73 (by decide) rfl ?_
                refine X_iload 75 1 dX6_faultOfRectangle_75 rfl ?_
                refine X_if_eq 77 89 dX6_faultOfRectangle_77 (by decide) (fun _ => ?_) (fun c_0 => by exact absurd c_0 (by decide))
                refine X_iconst 89 (2) dX6_faultOfRectangle_89 (by decide) ?_
                refine X_iret 90 dX6_faultOfRectangle_90 rfl rfl ⟨_, rfl, _, rfl, ?_⟩
                refine ⟨rfl, Or.inr (Or.inr (⟨rfl, ?_⟩))⟩
                first
                | exact b_5
                | exact ⟨b_5, ⟨b_18, b_29⟩, ⟨Int32.not_le.mp c_45, Int32.not_lt.mp c_52⟩, Int32.not_le.mp c_58, Int32.not_lt.mp c_65⟩
                | exact ⟨b_5, fun h => b_18 h.1.1⟩
                | exact ⟨b_5, fun h => b_29 h.1.2⟩
                | exact ⟨b_5, fun h => absurd c_45 (Int32.not_le.mpr h.2.1.1)⟩
                | exact ⟨b_5, fun h => absurd c_52 (Int32.not_lt.mpr h.2.1.2)⟩
                | exact ⟨b_5, fun h => absurd c_58 (Int32.not_le.mpr h.2.2.1)⟩
                | exact ⟨b_5, fun h => absurd c_65 (Int32.not_lt.mpr h.2.2.2)⟩
    · refine X_if_eq 21 39 dX6_faultOfRectangle_21 (by decide) (fun _ => ?_) (fun c_0 => by exact absurd c_0 (by decide))
      refine X_iconst 39 (0) dX6_faultOfRectangle_39 (by decide) ?_
      refine X_istore 40 [(6, .int _), (0, .ref _), (1, .int _), (2, .int _), (3, .int _), (4, .int _), (5, .int _)] dX6_faultOfRectangle_40 (by decide) rfl ?_
      refine X_iload 42 5 dX6_faultOfRectangle_42 rfl ?_
      refine X_iload_n 44 3 dX6_faultOfRectangle_44 rfl rfl ?_
      refine X_icmp_le 45 72 dX6_faultOfRectangle_45 (by decide) (fun c_45 => ?_) (fun c_45 => ?_)
      · refine X_iconst 72 (0) dX6_faultOfRectangle_72 (by decide) ?_
        refine X_istore 73 [(7, .int _), (6, .int _), (0, .ref _), (1, .int _), (2, .int _), (3, .int _), (4, .int _), (5, .int _)] dX6_faultOfRectangle_73 (by decide) rfl ?_
        refine X_iload 75 1 dX6_faultOfRectangle_75 rfl ?_
        refine X_if_eq 77 89 dX6_faultOfRectangle_77 (by decide) (fun _ => ?_) (fun c_0 => by exact absurd c_0 (by decide))
        refine X_iconst 89 (2) dX6_faultOfRectangle_89 (by decide) ?_
        refine X_iret 90 dX6_faultOfRectangle_90 rfl rfl ⟨_, rfl, _, rfl, ?_⟩
        refine ⟨rfl, Or.inr (Or.inr (⟨rfl, ?_⟩))⟩
        first
        | exact b_5
        | exact ⟨b_5, ⟨b_18, b_29⟩, ⟨Int32.not_le.mp c_45, Int32.not_lt.mp c_52⟩, Int32.not_le.mp c_58, Int32.not_lt.mp c_65⟩
        | exact ⟨b_5, fun h => b_18 h.1.1⟩
        | exact ⟨b_5, fun h => b_29 h.1.2⟩
        | exact ⟨b_5, fun h => absurd c_45 (Int32.not_le.mpr h.2.1.1)⟩
        | exact ⟨b_5, fun h => absurd c_52 (Int32.not_lt.mpr h.2.1.2)⟩
        | exact ⟨b_5, fun h => absurd c_58 (Int32.not_le.mpr h.2.2.1)⟩
        | exact ⟨b_5, fun h => absurd c_65 (Int32.not_lt.mpr h.2.2.2)⟩
      · refine X_iload 48 5 dX6_faultOfRectangle_48 rfl ?_
        refine X_bipush 50 (40) dX6_faultOfRectangle_50 (by decide) ?_
        refine X_icmp_gt 52 72 dX6_faultOfRectangle_52 (by decide) (fun c_52 => ?_) (fun c_52 => ?_)
        · refine X_iconst 72 (0) dX6_faultOfRectangle_72 (by decide) ?_
          refine X_istore 73 [(7, .int _), (6, .int _), (0, .ref _), (1, .int _), (2, .int _), (3, .int _), (4, .int _), (5, .int _)] dX6_faultOfRectangle_73 (by decide) rfl ?_
          refine X_iload 75 1 dX6_faultOfRectangle_75 rfl ?_
          refine X_if_eq 77 89 dX6_faultOfRectangle_77 (by decide) (fun _ => ?_) (fun c_0 => by exact absurd c_0 (by decide))
          refine X_iconst 89 (2) dX6_faultOfRectangle_89 (by decide) ?_
          refine X_iret 90 dX6_faultOfRectangle_90 rfl rfl ⟨_, rfl, _, rfl, ?_⟩
          refine ⟨rfl, Or.inr (Or.inr (⟨rfl, ?_⟩))⟩
          first
          | exact b_5
          | exact ⟨b_5, ⟨b_18, b_29⟩, ⟨Int32.not_le.mp c_45, Int32.not_lt.mp c_52⟩, Int32.not_le.mp c_58, Int32.not_lt.mp c_65⟩
          | exact ⟨b_5, fun h => b_18 h.1.1⟩
          | exact ⟨b_5, fun h => b_29 h.1.2⟩
          | exact ⟨b_5, fun h => absurd c_45 (Int32.not_le.mpr h.2.1.1)⟩
          | exact ⟨b_5, fun h => absurd c_52 (Int32.not_lt.mpr h.2.1.2)⟩
          | exact ⟨b_5, fun h => absurd c_58 (Int32.not_le.mpr h.2.2.1)⟩
          | exact ⟨b_5, fun h => absurd c_65 (Int32.not_lt.mpr h.2.2.2)⟩
        · refine X_iload 55 6 dX6_faultOfRectangle_55 rfl ?_
          refine X_iload_n 57 4 dX6_faultOfRectangle_57 rfl rfl ?_
          refine X_icmp_le 58 72 dX6_faultOfRectangle_58 (by decide) (fun c_58 => ?_) (fun c_58 => ?_)
          · refine X_iconst 72 (0) dX6_faultOfRectangle_72 (by decide) ?_
            refine X_istore 73 [(7, .int _), (6, .int _), (0, .ref _), (1, .int _), (2, .int _), (3, .int _), (4, .int _), (5, .int _)] dX6_faultOfRectangle_73 (by decide) rfl ?_
            refine X_iload 75 1 dX6_faultOfRectangle_75 rfl ?_
            refine X_if_eq 77 89 dX6_faultOfRectangle_77 (by decide) (fun _ => ?_) (fun c_0 => by exact absurd c_0 (by decide))
            refine X_iconst 89 (2) dX6_faultOfRectangle_89 (by decide) ?_
            refine X_iret 90 dX6_faultOfRectangle_90 rfl rfl ⟨_, rfl, _, rfl, ?_⟩
            refine ⟨rfl, Or.inr (Or.inr (⟨rfl, ?_⟩))⟩
            first
            | exact b_5
            | exact ⟨b_5, ⟨b_18, b_29⟩, ⟨Int32.not_le.mp c_45, Int32.not_lt.mp c_52⟩, Int32.not_le.mp c_58, Int32.not_lt.mp c_65⟩
            | exact ⟨b_5, fun h => b_18 h.1.1⟩
            | exact ⟨b_5, fun h => b_29 h.1.2⟩
            | exact ⟨b_5, fun h => absurd c_45 (Int32.not_le.mpr h.2.1.1)⟩
            | exact ⟨b_5, fun h => absurd c_52 (Int32.not_lt.mpr h.2.1.2)⟩
            | exact ⟨b_5, fun h => absurd c_58 (Int32.not_le.mpr h.2.2.1)⟩
            | exact ⟨b_5, fun h => absurd c_65 (Int32.not_lt.mpr h.2.2.2)⟩
          · refine X_iload 61 6 dX6_faultOfRectangle_61 rfl ?_
            refine X_bipush 63 (40) dX6_faultOfRectangle_63 (by decide) ?_
            refine X_icmp_gt 65 72 dX6_faultOfRectangle_65 (by decide) (fun c_65 => ?_) (fun c_65 => ?_)
            · refine X_iconst 72 (0) dX6_faultOfRectangle_72 (by decide) ?_
              refine X_istore 73 [(7, .int _), (6, .int _), (0, .ref _), (1, .int _), (2, .int _), (3, .int _), (4, .int _), (5, .int _)] dX6_faultOfRectangle_73 (by decide) rfl ?_
              refine X_iload 75 1 dX6_faultOfRectangle_75 rfl ?_
              refine X_if_eq 77 89 dX6_faultOfRectangle_77 (by decide) (fun _ => ?_) (fun c_0 => by exact absurd c_0 (by decide))
              refine X_iconst 89 (2) dX6_faultOfRectangle_89 (by decide) ?_
              refine X_iret 90 dX6_faultOfRectangle_90 rfl rfl ⟨_, rfl, _, rfl, ?_⟩
              refine ⟨rfl, Or.inr (Or.inr (⟨rfl, ?_⟩))⟩
              first
              | exact b_5
              | exact ⟨b_5, ⟨b_18, b_29⟩, ⟨Int32.not_le.mp c_45, Int32.not_lt.mp c_52⟩, Int32.not_le.mp c_58, Int32.not_lt.mp c_65⟩
              | exact ⟨b_5, fun h => b_18 h.1.1⟩
              | exact ⟨b_5, fun h => b_29 h.1.2⟩
              | exact ⟨b_5, fun h => absurd c_45 (Int32.not_le.mpr h.2.1.1)⟩
              | exact ⟨b_5, fun h => absurd c_52 (Int32.not_lt.mpr h.2.1.2)⟩
              | exact ⟨b_5, fun h => absurd c_58 (Int32.not_le.mpr h.2.2.1)⟩
              | exact ⟨b_5, fun h => absurd c_65 (Int32.not_lt.mpr h.2.2.2)⟩
            · refine X_iconst 68 (1) dX6_faultOfRectangle_68 (by decide) ?_
              refine X_goto 69 73 dX6_faultOfRectangle_69 (by decide) ?_
              refine X_istore 73 [(7, .int _), (6, .int _), (0, .ref _), (1, .int _), (2, .int _), (3, .int _), (4, .int _), (5, .int _)] dX6_faultOfRectangle_73 (by decide) rfl ?_
              refine X_iload 75 1 dX6_faultOfRectangle_75 rfl ?_
              refine X_if_eq 77 89 dX6_faultOfRectangle_77 (by decide) (fun _ => ?_) (fun c_0 => by exact absurd c_0 (by decide))
              refine X_iconst 89 (2) dX6_faultOfRectangle_89 (by decide) ?_
              refine X_iret 90 dX6_faultOfRectangle_90 rfl rfl ⟨_, rfl, _, rfl, ?_⟩
              refine ⟨rfl, Or.inr (Or.inr (⟨rfl, ?_⟩))⟩
              first
              | exact b_5
              | exact ⟨b_5, ⟨b_18, b_29⟩, ⟨Int32.not_le.mp c_45, Int32.not_lt.mp c_52⟩, Int32.not_le.mp c_58, Int32.not_lt.mp c_65⟩
              | exact ⟨b_5, fun h => b_18 h.1.1⟩
              | exact ⟨b_5, fun h => b_29 h.1.2⟩
              | exact ⟨b_5, fun h => absurd c_45 (Int32.not_le.mpr h.2.1.1)⟩
              | exact ⟨b_5, fun h => absurd c_52 (Int32.not_lt.mpr h.2.1.2)⟩
              | exact ⟨b_5, fun h => absurd c_58 (Int32.not_le.mpr h.2.2.1)⟩
              | exact ⟨b_5, fun h => absurd c_65 (Int32.not_lt.mpr h.2.2.2)⟩
  · refine X_if_ne 8 13 dX6_faultOfRectangle_8 (by decide) (fun c_0 => by exact absurd c_0 (by decide)) (fun _ => ?_)
    refine X_iconst 11 (1) dX6_faultOfRectangle_11 (by decide) ?_
    refine X_iret 12 dX6_faultOfRectangle_12 rfl rfl ⟨_, rfl, _, rfl, ?_⟩
    refine ⟨rfl, Or.inr (Or.inl ⟨rfl, ?_⟩)⟩
    first
    | exact b_5
    | exact ⟨b_5, ⟨b_18, b_29⟩, ⟨Int32.not_le.mp c_45, Int32.not_lt.mp c_52⟩, Int32.not_le.mp c_58, Int32.not_lt.mp c_65⟩
    | exact ⟨b_5, fun h => b_18 h.1.1⟩
    | exact ⟨b_5, fun h => b_29 h.1.2⟩
    | exact ⟨b_5, fun h => absurd c_45 (Int32.not_le.mpr h.2.1.1)⟩
    | exact ⟨b_5, fun h => absurd c_52 (Int32.not_lt.mpr h.2.1.2)⟩
    | exact ⟨b_5, fun h => absurd c_58 (Int32.not_le.mpr h.2.2.1)⟩
    | exact ⟨b_5, fun h => absurd c_65 (Int32.not_lt.mpr h.2.2.2)⟩
set_option maxHeartbeats 4000000 in
set_option maxRecDepth 100000 in
theorem e_X6_faultOfLampValue (n w v : Int32) (μ : Mm) : EvN ΛC mX6_faultOfLampValue [.ref 109, .int n, .int w, .int v] μ (qI (fun x9 μ' => μ = μ' ∧ ((x9 = 0 ∧ (lpOK μ n ∧ lvOK w v)) ∨ (x9 = 1 ∧ ¬ lpOK μ n) ∨ (x9 = 2 ∧ (lpOK μ n ∧ ¬ lvOK w v))))) := by
  refine EvN_ofQ (by decide +kernel) rfl (fun _ => rfl) (fun _ => Nat.le_of_ble_eq_true rfl) (ls := [(0, .ref 109), (1, .int n), (2, .int w), (3, .int v)]) ?_
  refine X_aload_n 0 0 dX6_faultOfLampValue_0 rfl rfl ?_
  refine X_getR (f := 0) 1 dX6_faultOfLampValue_1 lf_RX6_12 iw6 vc6 (by decide) lyL rfl ?_
  refine X_iload_n 4 1 dX6_faultOfLampValue_4 rfl rfl ?_
  refine X_cVI 5 [.int _] (e_X4_hasLamp 0 (Or.inl rfl) _ _) dX6_faultOfLampValue_5 lm_RX6_336 1 ⟨wm_X4_hasLamp, by decide +kernel, rfl, rfl⟩ rfl ⟨Nat.le_of_ble_eq_true rfl, Nat.le_of_ble_eq_true rfl⟩ (lyS 0 (Or.inl rfl)) vc4 rfl rfl (Nat.le_of_ble_eq_true rfl) ?_
  rintro _ _ ⟨rfl, ⟨rfl, b_5⟩ | ⟨rfl, b_5⟩⟩
  · refine X_if_ne 8 13 dX6_faultOfLampValue_8 (by decide) (fun _ => ?_) (fun c_0 => by exact absurd c_0 (by decide))
    refine X_iload_n 13 2 dX6_faultOfLampValue_13 rfl rfl ?_
    refine X_iconst 14 (0) dX6_faultOfLampValue_14 (by decide) ?_
    refine X_iconst 15 (2) dX6_faultOfLampValue_15 (by decide) ?_
    refine X_cSI 16 [.int _, .int _, .int _] (e_X6_within _ _ _ _) dX6_faultOfLampValue_16 lm_RX6_176 3 ⟨wm_X6_within, by decide +kernel, rfl, rfl⟩ rfl ⟨Nat.le_of_ble_eq_true rfl, Nat.le_of_ble_eq_true rfl⟩ rfl (Nat.le_of_ble_eq_true rfl) ?_
    rintro _ _ ⟨rfl, ⟨rfl, b_16⟩ | ⟨rfl, b_16⟩⟩
    · refine X_if_eq 19 48 dX6_faultOfLampValue_19 (by decide) (fun c_0 => by exact absurd c_0 (by decide)) (fun _ => ?_)
      refine X_iload_n 22 3 dX6_faultOfLampValue_22 rfl rfl ?_
      refine X_iconst 23 (0) dX6_faultOfLampValue_23 (by decide) ?_
      refine X_iload_n 24 2 dX6_faultOfLampValue_24 rfl rfl ?_
      refine X_iconst 25 (2) dX6_faultOfLampValue_25 (by decide) ?_
      refine X_icmp_ne 26 35 dX6_faultOfLampValue_26 (by decide) (fun c_26 => ?_) (fun c_26 => ?_)
      · refine X_sipush 35 (255) dX6_faultOfLampValue_35 (by decide) ?_
        refine X_cSI 38 [.int _, .int _, .int _] (e_X6_within _ _ _ _) dX6_faultOfLampValue_38 lm_RX6_176 3 ⟨wm_X6_within, by decide +kernel, rfl, rfl⟩ rfl ⟨Nat.le_of_ble_eq_true rfl, Nat.le_of_ble_eq_true rfl⟩ rfl (Nat.le_of_ble_eq_true rfl) ?_
        rintro _ _ ⟨rfl, ⟨rfl, b_38⟩ | ⟨rfl, b_38⟩⟩
        · refine X_if_eq 41 48 dX6_faultOfLampValue_41 (by decide) (fun c_0 => by exact absurd c_0 (by decide)) (fun _ => ?_)
          refine X_iconst 44 (0) dX6_faultOfLampValue_44 (by decide) ?_
          refine X_goto 45 49 dX6_faultOfLampValue_45 (by decide) ?_
          refine X_iret 49 dX6_faultOfLampValue_49 rfl rfl ⟨_, rfl, _, rfl, ?_⟩
          refine ⟨rfl, Or.inl ⟨rfl, ?_⟩⟩
          first
          | exact b_5
          | exact ⟨b_5, b_16, by rw [if_neg c_26]; exact b_38⟩
          | exact ⟨b_5, b_16, by rw [if_pos c_26]; exact b_38⟩
          | exact ⟨b_5, fun h => b_16 h.1⟩
          | exact ⟨b_5, fun h => b_38 (by have h2 := h.2; rw [if_neg c_26] at h2; exact h2)⟩
          | exact ⟨b_5, fun h => b_38 (by have h2 := h.2; rw [if_pos c_26] at h2; exact h2)⟩
        · refine X_if_eq 41 48 dX6_faultOfLampValue_41 (by decide) (fun _ => ?_) (fun c_0 => by exact absurd c_0 (by decide))
          refine X_iconst 48 (2) dX6_faultOfLampValue_48 (by decide) ?_
          refine X_iret 49 dX6_faultOfLampValue_49 rfl rfl ⟨_, rfl, _, rfl, ?_⟩
          refine ⟨rfl, Or.inr (Or.inr (⟨rfl, ?_⟩))⟩
          first
          | exact b_5
          | exact ⟨b_5, b_16, by rw [if_neg c_26]; exact b_38⟩
          | exact ⟨b_5, b_16, by rw [if_pos c_26]; exact b_38⟩
          | exact ⟨b_5, fun h => b_16 h.1⟩
          | exact ⟨b_5, fun h => b_38 (by have h2 := h.2; rw [if_neg c_26] at h2; exact h2)⟩
          | exact ⟨b_5, fun h => b_38 (by have h2 := h.2; rw [if_pos c_26] at h2; exact h2)⟩
      · refine X_sipush 29 (900) dX6_faultOfLampValue_29 (by decide) ?_
        refine X_goto 32 38 dX6_faultOfLampValue_32 (by decide) ?_
        refine X_cSI 38 [.int _, .int _, .int _] (e_X6_within _ _ _ _) dX6_faultOfLampValue_38 lm_RX6_176 3 ⟨wm_X6_within, by decide +kernel, rfl, rfl⟩ rfl ⟨Nat.le_of_ble_eq_true rfl, Nat.le_of_ble_eq_true rfl⟩ rfl (Nat.le_of_ble_eq_true rfl) ?_
        rintro _ _ ⟨rfl, ⟨rfl, b_38⟩ | ⟨rfl, b_38⟩⟩
        · refine X_if_eq 41 48 dX6_faultOfLampValue_41 (by decide) (fun c_0 => by exact absurd c_0 (by decide)) (fun _ => ?_)
          refine X_iconst 44 (0) dX6_faultOfLampValue_44 (by decide) ?_
          refine X_goto 45 49 dX6_faultOfLampValue_45 (by decide) ?_
          refine X_iret 49 dX6_faultOfLampValue_49 rfl rfl ⟨_, rfl, _, rfl, ?_⟩
          refine ⟨rfl, Or.inl ⟨rfl, ?_⟩⟩
          first
          | exact b_5
          | exact ⟨b_5, b_16, by rw [if_neg c_26]; exact b_38⟩
          | exact ⟨b_5, b_16, by rw [if_pos c_26]; exact b_38⟩
          | exact ⟨b_5, fun h => b_16 h.1⟩
          | exact ⟨b_5, fun h => b_38 (by have h2 := h.2; rw [if_neg c_26] at h2; exact h2)⟩
          | exact ⟨b_5, fun h => b_38 (by have h2 := h.2; rw [if_pos c_26] at h2; exact h2)⟩
        · refine X_if_eq 41 48 dX6_faultOfLampValue_41 (by decide) (fun _ => ?_) (fun c_0 => by exact absurd c_0 (by decide))
          refine X_iconst 48 (2) dX6_faultOfLampValue_48 (by decide) ?_
          refine X_iret 49 dX6_faultOfLampValue_49 rfl rfl ⟨_, rfl, _, rfl, ?_⟩
          refine ⟨rfl, Or.inr (Or.inr (⟨rfl, ?_⟩))⟩
          first
          | exact b_5
          | exact ⟨b_5, b_16, by rw [if_neg c_26]; exact b_38⟩
          | exact ⟨b_5, b_16, by rw [if_pos c_26]; exact b_38⟩
          | exact ⟨b_5, fun h => b_16 h.1⟩
          | exact ⟨b_5, fun h => b_38 (by have h2 := h.2; rw [if_neg c_26] at h2; exact h2)⟩
          | exact ⟨b_5, fun h => b_38 (by have h2 := h.2; rw [if_pos c_26] at h2; exact h2)⟩
    · refine X_if_eq 19 48 dX6_faultOfLampValue_19 (by decide) (fun _ => ?_) (fun c_0 => by exact absurd c_0 (by decide))
      refine X_iconst 48 (2) dX6_faultOfLampValue_48 (by decide) ?_
      refine X_iret 49 dX6_faultOfLampValue_49 rfl rfl ⟨_, rfl, _, rfl, ?_⟩
      refine ⟨rfl, Or.inr (Or.inr (⟨rfl, ?_⟩))⟩
      first
      | exact b_5
      | exact ⟨b_5, b_16, by rw [if_neg c_26]; exact b_38⟩
      | exact ⟨b_5, b_16, by rw [if_pos c_26]; exact b_38⟩
      | exact ⟨b_5, fun h => b_16 h.1⟩
      | exact ⟨b_5, fun h => b_38 (by have h2 := h.2; rw [if_neg c_26] at h2; exact h2)⟩
      | exact ⟨b_5, fun h => b_38 (by have h2 := h.2; rw [if_pos c_26] at h2; exact h2)⟩
  · refine X_if_ne 8 13 dX6_faultOfLampValue_8 (by decide) (fun c_0 => by exact absurd c_0 (by decide)) (fun _ => ?_)
    refine X_iconst 11 (1) dX6_faultOfLampValue_11 (by decide) ?_
    refine X_iret 12 dX6_faultOfLampValue_12 rfl rfl ⟨_, rfl, _, rfl, ?_⟩
    refine ⟨rfl, Or.inr (Or.inl ⟨rfl, ?_⟩)⟩
    first
    | exact b_5
    | exact ⟨b_5, b_16, by rw [if_neg c_26]; exact b_38⟩
    | exact ⟨b_5, b_16, by rw [if_pos c_26]; exact b_38⟩
    | exact ⟨b_5, fun h => b_16 h.1⟩
    | exact ⟨b_5, fun h => b_38 (by have h2 := h.2; rw [if_neg c_26] at h2; exact h2)⟩
    | exact ⟨b_5, fun h => b_38 (by have h2 := h.2; rw [if_pos c_26] at h2; exact h2)⟩
set_option maxHeartbeats 4000000 in
set_option maxRecDepth 100000 in
theorem e_X6_refuseIndex (x : Int32) (μ : Mm) (hx : ¬ x = 1) : EvN ΛC mX6_refuseIndex [.int x] μ (qV (fun μ' => μ = μ')) := by
  refine EvN_ofQ (by decide +kernel) rfl (fun _ => rfl) (fun _ => Nat.le_of_ble_eq_true rfl) (ls := [(0, .int x)]) ?_
  refine X_iload_n 0 0 dX6_refuseIndex_0 rfl rfl ?_
  refine X_iconst 1 (1) dX6_refuseIndex_1 (by decide) ?_
  refine X_icmp_ne 2 16 dX6_refuseIndex_2 (by decide) (fun c_2 => ?_) (fun c_2 => ?_)
  · refine X_vret 16 dX6_refuseIndex_16 rfl ⟨_, rfl, rfl, ?_⟩
    rfl
  · exact absurd c_2 hx
set_option maxHeartbeats 4000000 in
set_option maxRecDepth 100000 in
theorem e_X6_refuseArgument (x : Int32) (μ : Mm) (hx : ¬ x = 2) : EvN ΛC mX6_refuseArgument [.int x] μ (qV (fun μ' => μ = μ')) := by
  refine EvN_ofQ (by decide +kernel) rfl (fun _ => rfl) (fun _ => Nat.le_of_ble_eq_true rfl) (ls := [(0, .int x)]) ?_
  refine X_iload_n 0 0 dX6_refuseArgument_0 rfl rfl ?_
  refine X_iconst 1 (2) dX6_refuseArgument_1 (by decide) ?_
  refine X_icmp_ne 2 16 dX6_refuseArgument_2 (by decide) (fun c_2 => ?_) (fun c_2 => ?_)
  · refine X_vret 16 dX6_refuseArgument_16 rfl ⟨_, rfl, rfl, ?_⟩
    rfl
  · exact absurd c_2 hx
set_option maxHeartbeats 4000000 in
set_option maxRecDepth 100000 in
theorem e_X6_refuseState (x : Int32) (μ : Mm) (hx : ¬ x = 3) : EvN ΛC mX6_refuseState [.int x] μ (qV (fun μ' => μ = μ')) := by
  refine EvN_ofQ (by decide +kernel) rfl (fun _ => rfl) (fun _ => Nat.le_of_ble_eq_true rfl) (ls := [(0, .int x)]) ?_
  refine X_iload_n 0 0 dX6_refuseState_0 rfl rfl ?_
  refine X_iconst 1 (3) dX6_refuseState_1 (by decide) ?_
  refine X_icmp_ne 2 16 dX6_refuseState_2 (by decide) (fun c_2 => ?_) (fun c_2 => ?_)
  · refine X_vret 16 dX6_refuseState_16 rfl ⟨_, rfl, rfl, ?_⟩
    rfl
  · exact absurd c_2 hx
