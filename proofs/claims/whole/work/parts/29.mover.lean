set_option maxHeartbeats 4000000 in
set_option maxRecDepth 100000 in
theorem e_X7_state (x y : Nat) (μ : Mm) (hx : x < 24) (hy : y < 16) : EvN ΛM mX7_state [.ref 0, .int (nI x), .int (nI y)] μ (qE (stV (μ 0 12) (μ 0 11) (μ 1 (6 + 24 * y + x))) μ) := by
  refine EvN_ofQ (by decide +kernel) rfl (fun _ => rfl) (fun _ => Nat.le_of_ble_eq_true rfl) (ls := [(0, .ref 0), (1, .int (nI x)), (2, .int (nI y))]) ?_
  refine X_aload_n 0 0 dX7_state_0 rfl rfl ?_
  refine X_iload_n 1 1 dX7_state_1 rfl rfl ?_
  refine X_iload_n 2 2 dX7_state_2 rfl rfl ?_
  refine X_cVI 3 [.int _, .int _] (e_X7_target x y _ hx hy) dX7_state_3 lm_RX7_94 2 ⟨wm_X7_target, by decide +kernel, rfl, rfl⟩ rfl ⟨Nat.le_of_ble_eq_true rfl, Nat.le_of_ble_eq_true rfl⟩ lyM vc7 rfl rfl (Nat.le_of_ble_eq_true rfl) ?_
  rintro _ _ ⟨rfl, rfl⟩
  refine X_istore_n 6 [(3, .int _), (0, .ref _), (1, .int _), (2, .int _)] dX7_state_6 rfl (by decide) rfl ?_
  refine X_aload_n 7 1 dX7_state_7 rfl rfl ?_
  refine X_getI (f := 12) 8 dX7_state_8 lf_RX7_112 iw7 vc7 (by decide) lyM rfl ?_
  refine X_iload_n 11 0 dX7_state_11 rfl rfl ?_
  refine X_icmp_ne 12 19 dX7_state_12 (by decide) (fun c_12 => ?_) (fun c_12 => ?_)
  · refine X_aload_n 19 1 dX7_state_19 rfl rfl ?_
    refine X_getI (f := 11) 20 dX7_state_20 lf_RX7_80 iw7 vc7 (by decide) lyM rfl ?_
    refine X_if_ne 23 30 dX7_state_23 (by decide) (fun c_23 => ?_) (fun c_23 => ?_)
    · refine X_aload_n 30 1 dX7_state_30 rfl rfl ?_
      refine X_getI (f := 12) 31 dX7_state_31 lf_RX7_112 iw7 vc7 (by decide) lyM rfl ?_
      refine X_iload_n 34 0 dX7_state_34 rfl rfl ?_
      refine X_icmp_ge 35 42 dX7_state_35 (by decide) (fun c_35 => ?_) (fun c_35 => ?_)
      · refine X_iconst 42 (3) dX7_state_42 (by decide) ?_
        refine X_iret 43 dX7_state_43 rfl rfl ⟨_, rfl, _, rfl, ?_⟩
        first | exact ⟨if_pos c_12, rfl⟩ | exact ⟨(if_neg c_12).trans (if_neg c_23), rfl⟩ | (refine ⟨(if_neg c_12).trans ?_, rfl⟩; first | exact if_pos c_23 | exact (if_neg c_23).trans (if_pos c_35) | exact (if_neg c_23).trans (if_neg c_35))
      · refine X_iconst 38 (2) dX7_state_38 (by decide) ?_
        refine X_goto 39 43 dX7_state_39 (by decide) ?_
        refine X_iret 43 dX7_state_43 rfl rfl ⟨_, rfl, _, rfl, ?_⟩
        first | exact ⟨if_pos c_12, rfl⟩ | exact ⟨(if_neg c_12).trans (if_neg c_23), rfl⟩ | (refine ⟨(if_neg c_12).trans ?_, rfl⟩; first | exact if_pos c_23 | exact (if_neg c_23).trans (if_pos c_35) | exact (if_neg c_23).trans (if_neg c_35))
    · refine X_iconst 26 (1) dX7_state_26 (by decide) ?_
      refine X_goto 27 43 dX7_state_27 (by decide) ?_
      refine X_iret 43 dX7_state_43 rfl rfl ⟨_, rfl, _, rfl, ?_⟩
      first | exact ⟨if_pos c_12, rfl⟩ | exact ⟨(if_neg c_12).trans (if_neg c_23), rfl⟩ | (refine ⟨(if_neg c_12).trans ?_, rfl⟩; first | exact if_pos c_23 | exact (if_neg c_23).trans (if_pos c_35) | exact (if_neg c_23).trans (if_neg c_35))
  · refine X_iconst 15 (0) dX7_state_15 (by decide) ?_
    refine X_goto 16 43 dX7_state_16 (by decide) ?_
    refine X_iret 43 dX7_state_43 rfl rfl ⟨_, rfl, _, rfl, ?_⟩
    first | exact ⟨if_pos c_12, rfl⟩ | exact ⟨(if_neg c_12).trans (if_neg c_23), rfl⟩ | (refine ⟨(if_neg c_12).trans ?_, rfl⟩; first | exact if_pos c_23 | exact (if_neg c_23).trans (if_pos c_35) | exact (if_neg c_23).trans (if_neg c_35))
set_option maxHeartbeats 4000000 in
set_option maxRecDepth 100000 in
theorem e_X7_wrongOnes (s : Nat) (V : Mm) (c r lc : Nat) (z : Int32) (μ : Mm) (hR : REP s V (μ 1) c r lc) (hz : HZ s V lc (μ 0 8) z) : EvN ΛM mX7_wrongOnes [.ref 0] μ (qI (fun v m => cwN V s z (μ 1 2) (μ 1 3) c r = v ∧ SC0 μ m)) := by
  refine EvN_ofQ (by decide +kernel) rfl (fun _ => rfl) (fun _ => Nat.le_of_ble_eq_true rfl) (ls := [(0, .ref 0)]) ?_
  have hcc := hR.1.2.2.2
  refine X_iconst 0 (0) dX7_wrongOnes_0 (by decide) ?_
  refine X_istore_n 1 [(1, .int _), (0, .ref _)] dX7_wrongOnes_1 rfl (by decide) rfl ?_
  refine X_iconst 2 (0) dX7_wrongOnes_2 (by decide) ?_
  refine X_istore_n 3 [(2, .int _), (1, .int _), (0, .ref _)] dX7_wrongOnes_3 rfl (by decide) rfl ?_
  refine X_sub [2, 1, 0] [(0, .ref _), (1, .int _), (2, .int _)] rfl ?_
  have L_4 : ∀ (kf : Nat) (y : Nat) (m : Mm), y ≤ r → r < y + kf → SC0 μ m → ∀ (x4_1 : Int32) (x4_2 : Int32), cwN V s z (μ 1 2) (μ 1 3) c y = x4_1 → nI y = x4_2 → X false ΛM mX7_wrongOnes (QN (qI (fun v m => cwN V s z (μ 1 2) (μ 1 3) c r = v ∧ SC0 μ m))) 4 [(0, .ref 0), (1, .int x4_1), (2, .int x4_2)] [] m := by
    intro kf
    induction kf with
    | zero => intro y m hp4_0 hp4_1 hp4_2; exfalso; omega
    | succ kf ih_4 =>
      intro y m hp4_0 hp4_1 hp4_2 x4_1 x4_2
      rintro rfl rfl
      refine X_iload_n 4 2 dX7_wrongOnes_4 rfl rfl ?_
      refine X_aload_n 5 0 dX7_wrongOnes_5 rfl rfl ?_
      refine X_getR (f := 0) 6 dX7_wrongOnes_6 lf_RX7_7 iw7 vc7 (by decide) lyM rfl ?_
      refine X_iconst 9 (1) dX7_wrongOnes_9 (by decide) ?_
      refine X_iald 10 dX7_wrongOnes_10 lyM1 (vp_in_nI (n := 1) (by decide) (by decide)) ?_
      rw [cl1]
      rw [SC0_1 hp4_2, hR.1.2.1]
      refine X_icmp_ge 11 61 dX7_wrongOnes_11 (by decide) (fun c_11 => ?_) (fun c_11 => ?_)
      · have hge : r ≤ y := c_ge rfl (by omega) (by omega) c_11
        have hie : r = y := by omega
        subst hie
        refine X_iload_n 61 1 dX7_wrongOnes_61 rfl rfl ?_
        refine X_iret 62 dX7_wrongOnes_62 rfl rfl ⟨_, rfl, _, rfl, ?_⟩
        exact ⟨rfl, hp4_2⟩
      · have hlty : y < r := c_lt rfl (by omega) (by omega) c_11
        refine X_iconst 14 (0) dX7_wrongOnes_14 (by decide) ?_
        refine X_istore_n 15 [(3, .int _), (0, .ref _), (1, .int _), (2, .int _)] dX7_wrongOnes_15 rfl (by decide) rfl ?_
        refine X_sub [1, 2, 3, 0] [(0, .ref _), (1, .int _), (2, .int _), (3, .int _)] rfl ?_
        have L_16 : ∀ (kf : Nat) (x : Nat) (m2 : Mm), x ≤ c → c < x + kf → SC0 μ m2 → ∀ (x16_1 : Int32) (x16_3 : Int32), cwN V s z (μ 1 2) (μ 1 3) c y + sumN x (fun x => if stP V s z (μ 1 2) (μ 1 3) c x y = 0 then 0 else 1) = x16_1 → nI x = x16_3 → X false ΛM mX7_wrongOnes (QN (qI (fun v m => cwN V s z (μ 1 2) (μ 1 3) c r = v ∧ SC0 μ m))) 16 [(0, .ref 0), (1, .int x16_1), (2, .int (nI y)), (3, .int x16_3)] [] m2 := by
          intro kf
          induction kf with
          | zero => intro x m2 hp16_0 hp16_1 hp16_2; exfalso; omega
          | succ kf ih_16 =>
            intro x m2 hp16_0 hp16_1 hp16_2 x16_1 x16_3
            rintro rfl rfl
            refine X_iload_n 16 3 dX7_wrongOnes_16 rfl rfl ?_
            refine X_aload_n 17 0 dX7_wrongOnes_17 rfl rfl ?_
            refine X_getR (f := 0) 18 dX7_wrongOnes_18 lf_RX7_7 iw7 vc7 (by decide) lyM rfl ?_
            refine X_iconst 21 (0) dX7_wrongOnes_21 (by decide) ?_
            refine X_iald 22 dX7_wrongOnes_22 lyM1 (vp_in_nI (n := 0) (by decide) (by decide)) ?_
            rw [cl0]
            rw [SC0_1 hp16_2, hR.1.1]
            refine X_icmp_ge 23 55 dX7_wrongOnes_23 (by decide) (fun c_23 => ?_) (fun c_23 => ?_)
            · have hge : c ≤ x := c_ge rfl (by omega) (by omega) c_23
              have hie : c = x := by omega
              subst hie
              refine X_iinc 55 2 (_ + 1) [(2, .int _), (0, .ref _), (1, .int _), (3, .int _)] dX7_wrongOnes_55 rfl rfl (by decide) rfl ?_
              refine X_goto 58 4 dX7_wrongOnes_58 (by decide) ?_
              refine X_sub [1, 2, 0] [(0, .ref _), (1, .int _), (2, .int _)] rfl ?_
              exact ih_4 (y + 1) _ (by omega) (by omega) hp16_2 _ _  (by rfl) (by exact (nI_1 y).symm)
            · have hltx : x < c := c_lt rfl (by omega) (by omega) c_23
              refine X_aload_n 26 0 dX7_wrongOnes_26 rfl rfl ?_
              refine X_iload_n 27 3 dX7_wrongOnes_27 rfl rfl ?_
              refine X_iload_n 28 2 dX7_wrongOnes_28 rfl rfl ?_
              refine X_cVV 29 [.int _, .int _] (e_shn s V c r lc z x y m2 _ (SC0_1 hp16_2) hR (by rw [hp16_2 0 8 (by decide) (by decide) (by decide)]; exact hz) hltx hlty) dX7_wrongOnes_29 lm_RX7_115 2 ⟨wm_X7_shines, by decide +kernel, rfl, rfl⟩ rfl ⟨Nat.le_of_ble_eq_true rfl, Nat.le_of_ble_eq_true rfl⟩ lyM vc7 rfl rfl (Nat.le_of_ble_eq_true rfl) ?_
              rintro m9 hS9
              refine X_iload_n 32 1 dX7_wrongOnes_32 rfl rfl ?_
              refine X_aload_n 33 0 dX7_wrongOnes_33 rfl rfl ?_
              refine X_iload_n 34 3 dX7_wrongOnes_34 rfl rfl ?_
              refine X_iload_n 35 2 dX7_wrongOnes_35 rfl rfl ?_
              refine X_cVI 36 [.int _, .int _] (e_X7_state x y _ (by omega) (by omega)) dX7_wrongOnes_36 lm_RX7_118 2 ⟨wm_X7_state, by decide +kernel, rfl, rfl⟩ rfl ⟨Nat.le_of_ble_eq_true rfl, Nat.le_of_ble_eq_true rfl⟩ lyM vc7 rfl rfl (Nat.le_of_ble_eq_true rfl) ?_
              rintro _ _ ⟨rfl, rfl⟩
              rw [st_SHP hS9 (by rw [SC0_1 hp16_2]; exact hR) hltx hlty]
              refine X_if_ne 39 46 dX7_wrongOnes_39 (by decide) (fun c_39 => ?_) (fun c_39 => ?_)
              · refine X_iconst 46 (1) dX7_wrongOnes_46 (by decide) ?_
                refine X_iadd 47 dX7_wrongOnes_47 ?_
                refine X_istore_n 48 [(1, .int _), (0, .ref _), (2, .int _), (3, .int _)] dX7_wrongOnes_48 rfl (by decide) rfl ?_
                refine X_iinc 49 3 (_ + 1) [(3, .int _), (1, .int _), (0, .ref _), (2, .int _)] dX7_wrongOnes_49 rfl rfl (by decide) rfl ?_
                refine X_goto 52 16 dX7_wrongOnes_52 (by decide) ?_
                refine X_sub [2, 1, 3, 0] [(0, .ref _), (1, .int _), (2, .int _), (3, .int _)] rfl ?_
                exact ih_16 (x + 1) _ (by omega) (by omega) (SC0_t hp16_2 hS9.1) _ _  (by (first | exact sum_in (if_pos c_39) | exact sum_in (if_neg c_39))) (by exact (nI_1 x).symm)
              · refine X_iconst 42 (0) dX7_wrongOnes_42 (by decide) ?_
                refine X_goto 43 47 dX7_wrongOnes_43 (by decide) ?_
                refine X_iadd 47 dX7_wrongOnes_47 ?_
                refine X_istore_n 48 [(1, .int _), (0, .ref _), (2, .int _), (3, .int _)] dX7_wrongOnes_48 rfl (by decide) rfl ?_
                refine X_iinc 49 3 (_ + 1) [(3, .int _), (1, .int _), (0, .ref _), (2, .int _)] dX7_wrongOnes_49 rfl rfl (by decide) rfl ?_
                refine X_goto 52 16 dX7_wrongOnes_52 (by decide) ?_
                refine X_sub [2, 1, 3, 0] [(0, .ref _), (1, .int _), (2, .int _), (3, .int _)] rfl ?_
                exact ih_16 (x + 1) _ (by omega) (by omega) (SC0_t hp16_2 hS9.1) _ _  (by (first | exact sum_in (if_pos c_39) | exact sum_in (if_neg c_39))) (by exact (nI_1 x).symm)
        exact L_16 (c + 1) 0 _ (by omega) (by omega) hp4_2 _ _  (by exact Int32.add_zero _) (by exact nI_0)
  exact L_4 (r + 1) 0 _ (by omega) (by omega) (fun _ _ _ _ _ => rfl) _ _  (by rfl) (by exact nI_0)
set_option maxHeartbeats 4000000 in
set_option maxRecDepth 100000 in
theorem e_X7_bits (v R : Int32) (μ : Mm) (hv : pcF 9 v 0 = some R) : EvN ΛM mX7_bits [.int v] μ (qE R μ) := by
  refine EvN_ofQ (by decide +kernel) rfl (fun _ => rfl) (fun _ => Nat.le_of_ble_eq_true rfl) (ls := [(0, .int v)]) ?_
  refine X_iconst 0 (0) dX7_bits_0 (by decide) ?_
  refine X_istore_n 1 [(1, .int _), (0, .int _)] dX7_bits_1 rfl (by decide) rfl ?_
  refine X_iload_n 2 1 dX7_bits_2 rfl rfl ?_
  refine X_istore_n 3 [(2, .int _), (1, .int _), (0, .int _)] dX7_bits_3 rfl (by decide) rfl ?_
  refine X_sub [1, 0] [(1, .int _), (2, .int _)] rfl ?_
  have L_4 : ∀ (kf : Nat) (v : Int32) (n : Int32), pcF kf v n = some R → ∀ (x4_1 : Int32) (x4_2 : Int32), n = x4_1 → v = x4_2 → X false ΛM mX7_bits (QN (qE R μ)) 4 [(1, .int x4_1), (2, .int x4_2)] [] μ := by
    intro kf
    induction kf with
    | zero => intro v n hp4_0; exfalso; cases hp4_0
    | succ kf ih_4 =>
      intro v n hp4_0 x4_1 x4_2
      rintro rfl rfl
      refine X_iload_n 4 1 dX7_bits_4 rfl rfl ?_
      refine X_if_eq 5 20 dX7_bits_5 (by decide) (fun c_5 => ?_) (fun c_5 => ?_)
      · have hq := pcF_t hp4_0 c_5
        refine X_iload_n 20 0 dX7_bits_20 rfl rfl ?_
        refine X_iret 21 dX7_bits_21 rfl rfl ⟨_, rfl, _, rfl, ?_⟩
        exact ⟨hq.symm, rfl⟩
      · have hq := pcF_f hp4_0 c_5
        refine X_iinc 8 0 (_ + 1) [(1, .int _), (2, .int _)] dX7_bits_8 rfl rfl (by decide) rfl ?_
        refine X_iload_n 11 1 dX7_bits_11 rfl rfl ?_
        refine X_iload_n 12 1 dX7_bits_12 rfl rfl ?_
        refine X_iconst 13 (1) dX7_bits_13 (by decide) ?_
        refine X_isub 14 dX7_bits_14 ?_
        refine X_iand 15 dX7_bits_15 ?_
        refine X_istore_n 16 [(2, .int _), (1, .int _)] dX7_bits_16 rfl (by decide) rfl ?_
        refine X_goto 17 4 dX7_bits_17 (by decide) ?_
        refine X_sub [1, 0] [(1, .int _), (2, .int _)] rfl ?_
        exact ih_4 _ _ hq _ _  (by rfl) (by rfl)
  exact L_4 9 _ _ hv _ _  (by rfl) (by rfl)
set_option maxHeartbeats 4000000 in
set_option maxRecDepth 100000 in
theorem e_X7_sums (V : Mm) (c r lc k : Nat) (μ : Mm) (hM : MI V c r lc μ) (hk : k < lc) : EvN ΛM mX7_sums [.ref 0, .int (nI k)] μ (qV (SUMP V lc c k (c * r) μ)) := by
  refine EvN_ofQ (by decide +kernel) rfl (fun _ => rfl) (fun _ => Nat.le_of_ble_eq_true rfl) (ls := [(0, .ref 0), (1, .int (nI k))]) ?_
  obtain ⟨⟨hc1, hc2⟩, ⟨hr1, hr2⟩, h8⟩ := MI_lc hM
  have hk8 : k < 8 := by omega
  refine X_aload_n 0 0 dX7_sums_0 rfl rfl ?_
  refine X_iconst 1 (0) dX7_sums_1 (by decide) ?_
  refine X_putI (f := 13) 2 dX7_sums_2 lf_RX7_121 iw7 vc7 (by decide) lyM tyX7_ok nmX7 rfl rfl rfl (by decide) rfl rfl ?_
  refine X_aload_n 5 0 dX7_sums_5 rfl rfl ?_
  refine X_iconst 6 (0) dX7_sums_6 (by decide) ?_
  refine X_putI (f := 14) 7 dX7_sums_7 lf_RX7_124 iw7 vc7 (by decide) lyM tyX7_ok nmX7 rfl rfl rfl (by decide) rfl rfl ?_
  refine X_aload_n 10 0 dX7_sums_10 rfl rfl ?_
  refine X_iconst 11 (0) dX7_sums_11 (by decide) ?_
  refine X_putI (f := 15) 12 dX7_sums_12 lf_RX7_127 iw7 vc7 (by decide) lyM tyX7_ok nmX7 rfl rfl rfl (by decide) rfl rfl ?_
  refine X_aload_n 15 0 dX7_sums_15 rfl rfl ?_
  refine X_iconst 16 (0) dX7_sums_16 (by decide) ?_
  refine X_putI (f := 16) 17 dX7_sums_17 lf_RX7_130 iw7 vc7 (by decide) lyM tyX7_ok nmX7 rfl rfl rfl (by decide) rfl rfl ?_
  refine X_aload_n 20 0 dX7_sums_20 rfl rfl ?_
  refine X_iconst 21 (0) dX7_sums_21 (by decide) ?_
  refine X_putI (f := 17) 22 dX7_sums_22 lf_RX7_133 iw7 vc7 (by decide) lyM tyX7_ok nmX7 rfl rfl rfl (by decide) rfl rfl ?_
  refine X_iconst 25 (0) dX7_sums_25 (by decide) ?_
  refine X_istore_n 26 [(2, .int _), (0, .ref _), (1, .int _)] dX7_sums_26 rfl (by decide) rfl ?_
  refine X_sub [1, 2, 0] [(0, .ref _), (1, .int _), (2, .int _)] rfl ?_
  have L_27 : ∀ (kf : Nat) (y : Nat) (m : Mm), y ≤ r → r < y + kf → SUMP V lc c k (y * c) μ m → ∀ (x27_2 : Int32), nI y = x27_2 → X false ΛM mX7_sums (QN (qV (SUMP V lc c k (c * r) μ))) 27 [(0, .ref 0), (1, .int (nI k)), (2, .int x27_2)] [] m := by
    intro kf
    induction kf with
    | zero => intro y m hp27_0 hp27_1 hp27_2; exfalso; omega
    | succ kf ih_27 =>
      intro y m hp27_0 hp27_1 hp27_2 x27_2
      rintro rfl
      refine X_iload_n 27 2 dX7_sums_27 rfl rfl ?_
      refine X_aload_n 28 0 dX7_sums_28 rfl rfl ?_
      refine X_getR (f := 0) 29 dX7_sums_29 lf_RX7_7 iw7 vc7 (by decide) lyM rfl ?_
      refine X_iconst 32 (1) dX7_sums_32 (by decide) ?_
      refine X_iald 33 dX7_sums_33 lyM1 (vp_in_nI (n := 1) (by decide) (by decide)) ?_
      rw [cl1]
      rw [SCR_1 hp27_2.1, hM.1.1.2.1]
      refine X_icmp_ge 34 197 dX7_sums_34 (by decide) (fun c_34 => ?_) (fun c_34 => ?_)
      · have hge : r ≤ y := c_ge rfl (by omega) (by omega) c_34
        have hie : r = y := by omega
        subst hie
        refine X_vret 197 dX7_sums_197 rfl ⟨_, rfl, rfl, ?_⟩
        rw [Nat.mul_comm]; exact hp27_2
      · have hlty : y < r := c_lt rfl (by omega) (by omega) c_34
        refine X_iconst 37 (0) dX7_sums_37 (by decide) ?_
        refine X_istore_n 38 [(3, .int _), (0, .ref _), (1, .int _), (2, .int _)] dX7_sums_38 rfl (by decide) rfl ?_
        refine X_sub [1, 2, 3, 0] [(0, .ref _), (1, .int _), (2, .int _), (3, .int _)] rfl ?_
        have L_39 : ∀ (kf : Nat) (x : Nat) (m2 : Mm), x ≤ c → c < x + kf → SUMP V lc c k (y * c + x) μ m2 → ∀ (x39_3 : Int32), nI x = x39_3 → X false ΛM mX7_sums (QN (qV (SUMP V lc c k (c * r) μ))) 39 [(0, .ref 0), (1, .int (nI k)), (2, .int (nI y)), (3, .int x39_3)] [] m2 := by
          intro kf
          induction kf with
          | zero => intro x m2 hp39_0 hp39_1 hp39_2; exfalso; omega
          | succ kf ih_39 =>
            intro x m2 hp39_0 hp39_1 hp39_2 x39_3
            rintro rfl
            refine X_iload_n 39 3 dX7_sums_39 rfl rfl ?_
            refine X_aload_n 40 0 dX7_sums_40 rfl rfl ?_
            refine X_getR (f := 0) 41 dX7_sums_41 lf_RX7_7 iw7 vc7 (by decide) lyM rfl ?_
            refine X_iconst 44 (0) dX7_sums_44 (by decide) ?_
            refine X_iald 45 dX7_sums_45 lyM1 (vp_in_nI (n := 0) (by decide) (by decide)) ?_
            rw [cl0]
            rw [SCR_1 hp39_2.1, hM.1.1.1]
            refine X_icmp_ge 46 191 dX7_sums_46 (by decide) (fun c_46 => ?_) (fun c_46 => ?_)
            · have hge : c ≤ x := c_ge rfl (by omega) (by omega) c_46
              have hie : c = x := by omega
              subst hie
              refine X_iinc 191 2 (_ + 1) [(2, .int _), (0, .ref _), (1, .int _), (3, .int _)] dX7_sums_191 rfl rfl (by decide) rfl ?_
              refine X_goto 194 27 dX7_sums_194 (by decide) ?_
              refine X_sub [1, 2, 0] [(0, .ref _), (1, .int _), (2, .int _)] rfl ?_
              exact ih_27 (y + 1) _ (by omega) (by omega) (by rw [Nat.succ_mul]; exact hp39_2) _  (by exact (nI_1 y).symm)
            · have hltx : x < c := c_lt rfl (by omega) (by omega) c_46
              refine X_aload_n 49 0 dX7_sums_49 rfl rfl ?_
              refine X_iload_n 50 3 dX7_sums_50 rfl rfl ?_
              refine X_iload_n 51 2 dX7_sums_51 rfl rfl ?_
              refine X_cVV 52 [.int _, .int _] (e_shJ V c r lc x y m2 (MI_SC hM hp39_2.1) hltx hlty) dX7_sums_52 lm_RX7_115 2 ⟨wm_X7_shines, by decide +kernel, rfl, rfl⟩ rfl ⟨Nat.le_of_ble_eq_true rfl, Nat.le_of_ble_eq_true rfl⟩ lyM vc7 rfl rfl (Nat.le_of_ble_eq_true rfl) ?_
              rintro m9 hS9
              refine X_aload_n 55 0 dX7_sums_55 rfl rfl ?_
              refine X_iload_n 56 1 dX7_sums_56 rfl rfl ?_
              refine X_cVI 57 [.int _] (e_X7_isOn _ _) dX7_sums_57 lm_RX7_91 1 ⟨wm_X7_isOn, by decide +kernel, rfl, rfl⟩ rfl ⟨Nat.le_of_ble_eq_true rfl, Nat.le_of_ble_eq_true rfl⟩ lyM vc7 rfl rfl (Nat.le_of_ble_eq_true rfl) ?_
              rintro _ _ ⟨rfl, ⟨rfl, b_57⟩ | ⟨rfl, b_57⟩⟩
              · rw [hS9.2.1] at b_57
                refine X_if_eq 60 185 dX7_sums_60 (by decide) (fun c_0 => by exact absurd c_0 (by decide)) (fun _ => ?_)
                refine X_aload_n 63 0 dX7_sums_63 rfl rfl ?_
                refine X_getR (f := 10) 64 dX7_sums_64 lf_RX7_29 iw7 vc7 (by decide) lyM rfl ?_
                refine X_iload_n 67 1 dX7_sums_67 rfl rfl ?_
                refine X_iald 68 dX7_sums_68 lyM6 (vp_in_nI hk8 (by decide)) ?_
                rw [nI_clamp (by omega), (hS9.2.2.2.1 k hk)]
                refine X_aload_n 69 0 dX7_sums_69 rfl rfl ?_
                refine X_iload_n 70 3 dX7_sums_70 rfl rfl ?_
                refine X_iload_n 71 2 dX7_sums_71 rfl rfl ?_
                refine X_cVI 72 [.int _, .int _] (e_X7_target x y _ (by omega) (by omega)) dX7_sums_72 lm_RX7_94 2 ⟨wm_X7_target, by decide +kernel, rfl, rfl⟩ rfl ⟨Nat.le_of_ble_eq_true rfl, Nat.le_of_ble_eq_true rfl⟩ lyM vc7 rfl rfl (Nat.le_of_ble_eq_true rfl) ?_
                rintro _ _ ⟨rfl, rfl⟩
                rw [tg_SHJ hS9 (MI_SC hM hp39_2.1) hltx hlty]
                refine X_iadd 75 dX7_sums_75 ?_
                refine X_aload_n 76 0 dX7_sums_76 rfl rfl ?_
                refine X_getI (f := 12) 77 dX7_sums_77 lf_RX7_112 iw7 vc7 (by decide) lyM rfl ?_
                rw [hS9.2.2.1]
                refine X_isub 80 dX7_sums_80 ?_
                refine X_istore 81 [(4, .int _), (0, .ref _), (1, .int _), (2, .int _), (3, .int _)] dX7_sums_81 (by decide) rfl ?_
                refine X_aload_n 83 1 dX7_sums_83 rfl rfl ?_
                refine X_dupr 84 dX7_sums_84 ?_
                refine X_getI (f := 13) 85 dX7_sums_85 lf_RX7_121 iw7 vc7 (by decide) lyM rfl ?_
                refine X_iconst 88 (1) dX7_sums_88 (by decide) ?_
                refine X_iadd 89 dX7_sums_89 ?_
                refine X_putI (f := 13) 90 dX7_sums_90 lf_RX7_121 iw7 vc7 (by decide) lyM tyX7_ok nmX7 rfl rfl rfl (by decide) rfl rfl ?_
                refine X_aload_n 93 1 dX7_sums_93 rfl rfl ?_
                refine X_dupr 94 dX7_sums_94 ?_
                refine X_getI (f := 14) 95 dX7_sums_95 lf_RX7_124 iw7 vc7 (by decide) lyM rfl ?_
                rw [uM_n (by decide)]
                refine X_aload_n 98 1 dX7_sums_98 rfl rfl ?_
                refine X_getR (f := 10) 99 dX7_sums_99 lf_RX7_29 iw7 vc7 (by decide) lyM rfl ?_
                refine X_iload_n 102 2 dX7_sums_102 rfl rfl ?_
                refine X_iald 103 dX7_sums_103 lyM6 (vp_in_nI hk8 (by decide)) ?_
                rw [nI_clamp (by omega), uM_n (by omega), (hS9.2.2.2.1 k hk)]
                refine X_iadd 104 dX7_sums_104 ?_
                refine X_putI (f := 14) 105 dX7_sums_105 lf_RX7_124 iw7 vc7 (by decide) lyM tyX7_ok nmX7 rfl rfl rfl (by decide) rfl rfl ?_
                refine X_aload_n 108 1 dX7_sums_108 rfl rfl ?_
                refine X_aload_n 109 1 dX7_sums_109 rfl rfl ?_
                refine X_getR (f := 10) 110 dX7_sums_110 lf_RX7_29 iw7 vc7 (by decide) lyM rfl ?_
                refine X_iload_n 113 2 dX7_sums_113 rfl rfl ?_
                refine X_iald 114 dX7_sums_114 lyM6 (vp_in_nI hk8 (by decide)) ?_
                rw [nI_clamp (by omega), uM_n (by omega), uM_n (by omega), (hS9.2.2.2.1 k hk)]
                refine X_aload_n 115 1 dX7_sums_115 rfl rfl ?_
                refine X_getI (f := 15) 116 dX7_sums_116 lf_RX7_127 iw7 vc7 (by decide) lyM rfl ?_
                rw [uM_n (by omega), uM_n (by omega)]
                refine X_icmp_le 119 131 dX7_sums_119 (by decide) (fun c_119 => ?_) (fun c_119 => ?_)
                · have hg : mxI (m9 0 15) (ltJ V lc c k (y * c + x)) = m9 0 15 := if_neg (Int32.not_lt.mpr c_119)
                  refine X_aload_n 131 1 dX7_sums_131 rfl rfl ?_
                  refine X_getI (f := 15) 132 dX7_sums_132 lf_RX7_127 iw7 vc7 (by decide) lyM rfl ?_
                  try rw [uM_n (by omega), uM_n (by omega)]
                  refine X_putI (f := 15) 135 dX7_sums_135 lf_RX7_127 iw7 vc7 (by decide) lyM tyX7_ok nmX7 rfl rfl rfl (by decide) rfl rfl ?_
                  refine X_aload_n 138 1 dX7_sums_138 rfl rfl ?_
                  refine X_dupr 139 dX7_sums_139 ?_
                  refine X_getI (f := 16) 140 dX7_sums_140 lf_RX7_130 iw7 vc7 (by decide) lyM rfl ?_
                  rw [uM_n (by omega), uM_n (by omega), uM_n (by omega)]
                  refine X_aload_n 143 1 dX7_sums_143 rfl rfl ?_
                  refine X_getI (f := 11) 144 dX7_sums_144 lf_RX7_80 iw7 vc7 (by decide) lyM rfl ?_
                  refine X_cSI 147 [.int _] (e_X7_bits _ _ _ (by rw [uM_n (by omega), uM_n (by omega), uM_n (by omega), hS9.2.1]; exact cv_bits V lc c (y * c + x))) dX7_sums_147 lm_RX7_136 1 ⟨wm_X7_bits, by decide +kernel, rfl, rfl⟩ rfl ⟨Nat.le_of_ble_eq_true rfl, Nat.le_of_ble_eq_true rfl⟩ rfl (Nat.le_of_ble_eq_true rfl) ?_
                  rintro _ _ ⟨rfl, rfl⟩
                  refine X_iconst 150 (1) dX7_sums_150 (by decide) ?_
                  refine X_icmp_ne 151 158 dX7_sums_151 (by decide) (fun c_151 => ?_) (fun c_151 => ?_)
                  · have ho : (if bcI (cvJ V lc c (y * c + x)) = 1 then (1 : Int32) else 0) = 0 := if_neg c_151
                    refine X_iconst 158 (0) dX7_sums_158 (by decide) ?_
                    refine X_iadd 159 dX7_sums_159 ?_
                    refine X_putI (f := 16) 160 dX7_sums_160 lf_RX7_130 iw7 vc7 (by decide) lyM tyX7_ok nmX7 rfl rfl rfl (by decide) rfl rfl ?_
                    refine X_aload_n 163 1 dX7_sums_163 rfl rfl ?_
                    refine X_iload 164 0 dX7_sums_164 rfl ?_
                    refine X_aload_n 166 1 dX7_sums_166 rfl rfl ?_
                    refine X_getI (f := 17) 167 dX7_sums_167 lf_RX7_133 iw7 vc7 (by decide) lyM rfl ?_
                    rw [uM_n (by omega), uM_n (by omega), uM_n (by omega), uM_n (by omega)]
                    refine X_icmp_le 170 178 dX7_sums_170 (by decide) (fun c_170 => ?_) (fun c_170 => ?_)
                    · have hd : mxI (m9 0 17) (ltJ V lc c k (y * c + x) + V 8 (y * c + x) - brJ V lc c (y * c + x)) = m9 0 17 := if_neg (Int32.not_lt.mpr c_170)
                      refine X_aload_n 178 1 dX7_sums_178 rfl rfl ?_
                      refine X_getI (f := 17) 179 dX7_sums_179 lf_RX7_133 iw7 vc7 (by decide) lyM rfl ?_
                      try rw [uM_n (by omega), uM_n (by omega), uM_n (by omega), uM_n (by omega)]
                      refine X_putI (f := 17) 182 dX7_sums_182 lf_RX7_133 iw7 vc7 (by decide) lyM tyX7_ok nmX7 rfl rfl rfl (by decide) rfl rfl ?_
                      refine X_iinc 185 4 (_ + 1) [(3, .int _), (4, .int _), (0, .ref _), (1, .int _), (2, .int _)] dX7_sums_185 rfl rfl (by decide) rfl ?_
                      refine X_goto 188 39 dX7_sums_188 (by decide) ?_
                      refine X_sub [2, 3, 4, 0] [(0, .ref _), (1, .int _), (2, .int _), (3, .int _)] rfl ?_
                      exact ih_39 (x + 1) _ (by omega) (by omega) (by first | exact SUMP_off hp39_2 hk8 hS9 b_57 | exact SUMP_on hp39_2 hk8 hS9 b_57 hg ho hd) _  (by exact (nI_1 x).symm)
                    · have hd : mxI (m9 0 17) (ltJ V lc c k (y * c + x) + V 8 (y * c + x) - brJ V lc c (y * c + x)) = _ := if_pos (Int32.not_le.mp c_170)
                      refine X_iload 173 0 dX7_sums_173 rfl ?_
                      refine X_goto 175 182 dX7_sums_175 (by decide) ?_
                      try rw [uM_n (by omega), uM_n (by omega), uM_n (by omega), uM_n (by omega)]
                      refine X_putI (f := 17) 182 dX7_sums_182 lf_RX7_133 iw7 vc7 (by decide) lyM tyX7_ok nmX7 rfl rfl rfl (by decide) rfl rfl ?_
                      refine X_iinc 185 4 (_ + 1) [(3, .int _), (4, .int _), (0, .ref _), (1, .int _), (2, .int _)] dX7_sums_185 rfl rfl (by decide) rfl ?_
                      refine X_goto 188 39 dX7_sums_188 (by decide) ?_
                      refine X_sub [2, 3, 4, 0] [(0, .ref _), (1, .int _), (2, .int _), (3, .int _)] rfl ?_
                      exact ih_39 (x + 1) _ (by omega) (by omega) (by first | exact SUMP_off hp39_2 hk8 hS9 b_57 | exact SUMP_on hp39_2 hk8 hS9 b_57 hg ho hd) _  (by exact (nI_1 x).symm)
                  · have ho : (if bcI (cvJ V lc c (y * c + x)) = 1 then (1 : Int32) else 0) = 1 := if_pos c_151
                    refine X_iconst 154 (1) dX7_sums_154 (by decide) ?_
                    refine X_goto 155 159 dX7_sums_155 (by decide) ?_
                    refine X_iadd 159 dX7_sums_159 ?_
                    refine X_putI (f := 16) 160 dX7_sums_160 lf_RX7_130 iw7 vc7 (by decide) lyM tyX7_ok nmX7 rfl rfl rfl (by decide) rfl rfl ?_
                    refine X_aload_n 163 1 dX7_sums_163 rfl rfl ?_
                    refine X_iload 164 0 dX7_sums_164 rfl ?_
                    refine X_aload_n 166 1 dX7_sums_166 rfl rfl ?_
                    refine X_getI (f := 17) 167 dX7_sums_167 lf_RX7_133 iw7 vc7 (by decide) lyM rfl ?_
                    rw [uM_n (by omega), uM_n (by omega), uM_n (by omega), uM_n (by omega)]
                    refine X_icmp_le 170 178 dX7_sums_170 (by decide) (fun c_170 => ?_) (fun c_170 => ?_)
                    · have hd : mxI (m9 0 17) (ltJ V lc c k (y * c + x) + V 8 (y * c + x) - brJ V lc c (y * c + x)) = m9 0 17 := if_neg (Int32.not_lt.mpr c_170)
                      refine X_aload_n 178 1 dX7_sums_178 rfl rfl ?_
                      refine X_getI (f := 17) 179 dX7_sums_179 lf_RX7_133 iw7 vc7 (by decide) lyM rfl ?_
                      try rw [uM_n (by omega), uM_n (by omega), uM_n (by omega), uM_n (by omega)]
                      refine X_putI (f := 17) 182 dX7_sums_182 lf_RX7_133 iw7 vc7 (by decide) lyM tyX7_ok nmX7 rfl rfl rfl (by decide) rfl rfl ?_
                      refine X_iinc 185 4 (_ + 1) [(3, .int _), (4, .int _), (0, .ref _), (1, .int _), (2, .int _)] dX7_sums_185 rfl rfl (by decide) rfl ?_
                      refine X_goto 188 39 dX7_sums_188 (by decide) ?_
                      refine X_sub [2, 3, 4, 0] [(0, .ref _), (1, .int _), (2, .int _), (3, .int _)] rfl ?_
                      exact ih_39 (x + 1) _ (by omega) (by omega) (by first | exact SUMP_off hp39_2 hk8 hS9 b_57 | exact SUMP_on hp39_2 hk8 hS9 b_57 hg ho hd) _  (by exact (nI_1 x).symm)
                    · have hd : mxI (m9 0 17) (ltJ V lc c k (y * c + x) + V 8 (y * c + x) - brJ V lc c (y * c + x)) = _ := if_pos (Int32.not_le.mp c_170)
                      refine X_iload 173 0 dX7_sums_173 rfl ?_
                      refine X_goto 175 182 dX7_sums_175 (by decide) ?_
                      try rw [uM_n (by omega), uM_n (by omega), uM_n (by omega), uM_n (by omega)]
                      refine X_putI (f := 17) 182 dX7_sums_182 lf_RX7_133 iw7 vc7 (by decide) lyM tyX7_ok nmX7 rfl rfl rfl (by decide) rfl rfl ?_
                      refine X_iinc 185 4 (_ + 1) [(3, .int _), (4, .int _), (0, .ref _), (1, .int _), (2, .int _)] dX7_sums_185 rfl rfl (by decide) rfl ?_
                      refine X_goto 188 39 dX7_sums_188 (by decide) ?_
                      refine X_sub [2, 3, 4, 0] [(0, .ref _), (1, .int _), (2, .int _), (3, .int _)] rfl ?_
                      exact ih_39 (x + 1) _ (by omega) (by omega) (by first | exact SUMP_off hp39_2 hk8 hS9 b_57 | exact SUMP_on hp39_2 hk8 hS9 b_57 hg ho hd) _  (by exact (nI_1 x).symm)
                · have hg : mxI (m9 0 15) (ltJ V lc c k (y * c + x)) = ltJ V lc c k (y * c + x) := if_pos (Int32.not_le.mp c_119)
                  refine X_aload_n 122 1 dX7_sums_122 rfl rfl ?_
                  refine X_getR (f := 10) 123 dX7_sums_123 lf_RX7_29 iw7 vc7 (by decide) lyM rfl ?_
                  refine X_iload_n 126 2 dX7_sums_126 rfl rfl ?_
                  refine X_iald 127 dX7_sums_127 lyM6 (vp_in_nI hk8 (by decide)) ?_
                  rw [nI_clamp (by omega), uM_n (by omega), uM_n (by omega), (hS9.2.2.2.1 k hk)]
                  refine X_goto 128 135 dX7_sums_128 (by decide) ?_
                  try rw [uM_n (by omega), uM_n (by omega)]
                  refine X_putI (f := 15) 135 dX7_sums_135 lf_RX7_127 iw7 vc7 (by decide) lyM tyX7_ok nmX7 rfl rfl rfl (by decide) rfl rfl ?_
                  refine X_aload_n 138 1 dX7_sums_138 rfl rfl ?_
                  refine X_dupr 139 dX7_sums_139 ?_
                  refine X_getI (f := 16) 140 dX7_sums_140 lf_RX7_130 iw7 vc7 (by decide) lyM rfl ?_
                  rw [uM_n (by omega), uM_n (by omega), uM_n (by omega)]
                  refine X_aload_n 143 1 dX7_sums_143 rfl rfl ?_
                  refine X_getI (f := 11) 144 dX7_sums_144 lf_RX7_80 iw7 vc7 (by decide) lyM rfl ?_
                  refine X_cSI 147 [.int _] (e_X7_bits _ _ _ (by rw [uM_n (by omega), uM_n (by omega), uM_n (by omega), hS9.2.1]; exact cv_bits V lc c (y * c + x))) dX7_sums_147 lm_RX7_136 1 ⟨wm_X7_bits, by decide +kernel, rfl, rfl⟩ rfl ⟨Nat.le_of_ble_eq_true rfl, Nat.le_of_ble_eq_true rfl⟩ rfl (Nat.le_of_ble_eq_true rfl) ?_
                  rintro _ _ ⟨rfl, rfl⟩
                  refine X_iconst 150 (1) dX7_sums_150 (by decide) ?_
                  refine X_icmp_ne 151 158 dX7_sums_151 (by decide) (fun c_151 => ?_) (fun c_151 => ?_)
                  · have ho : (if bcI (cvJ V lc c (y * c + x)) = 1 then (1 : Int32) else 0) = 0 := if_neg c_151
                    refine X_iconst 158 (0) dX7_sums_158 (by decide) ?_
                    refine X_iadd 159 dX7_sums_159 ?_
                    refine X_putI (f := 16) 160 dX7_sums_160 lf_RX7_130 iw7 vc7 (by decide) lyM tyX7_ok nmX7 rfl rfl rfl (by decide) rfl rfl ?_
                    refine X_aload_n 163 1 dX7_sums_163 rfl rfl ?_
                    refine X_iload 164 0 dX7_sums_164 rfl ?_
                    refine X_aload_n 166 1 dX7_sums_166 rfl rfl ?_
                    refine X_getI (f := 17) 167 dX7_sums_167 lf_RX7_133 iw7 vc7 (by decide) lyM rfl ?_
                    rw [uM_n (by omega), uM_n (by omega), uM_n (by omega), uM_n (by omega)]
                    refine X_icmp_le 170 178 dX7_sums_170 (by decide) (fun c_170 => ?_) (fun c_170 => ?_)
                    · have hd : mxI (m9 0 17) (ltJ V lc c k (y * c + x) + V 8 (y * c + x) - brJ V lc c (y * c + x)) = m9 0 17 := if_neg (Int32.not_lt.mpr c_170)
                      refine X_aload_n 178 1 dX7_sums_178 rfl rfl ?_
                      refine X_getI (f := 17) 179 dX7_sums_179 lf_RX7_133 iw7 vc7 (by decide) lyM rfl ?_
                      try rw [uM_n (by omega), uM_n (by omega), uM_n (by omega), uM_n (by omega)]
                      refine X_putI (f := 17) 182 dX7_sums_182 lf_RX7_133 iw7 vc7 (by decide) lyM tyX7_ok nmX7 rfl rfl rfl (by decide) rfl rfl ?_
                      refine X_iinc 185 4 (_ + 1) [(3, .int _), (4, .int _), (0, .ref _), (1, .int _), (2, .int _)] dX7_sums_185 rfl rfl (by decide) rfl ?_
                      refine X_goto 188 39 dX7_sums_188 (by decide) ?_
                      refine X_sub [2, 3, 4, 0] [(0, .ref _), (1, .int _), (2, .int _), (3, .int _)] rfl ?_
                      exact ih_39 (x + 1) _ (by omega) (by omega) (by first | exact SUMP_off hp39_2 hk8 hS9 b_57 | exact SUMP_on hp39_2 hk8 hS9 b_57 hg ho hd) _  (by exact (nI_1 x).symm)
                    · have hd : mxI (m9 0 17) (ltJ V lc c k (y * c + x) + V 8 (y * c + x) - brJ V lc c (y * c + x)) = _ := if_pos (Int32.not_le.mp c_170)
                      refine X_iload 173 0 dX7_sums_173 rfl ?_
                      refine X_goto 175 182 dX7_sums_175 (by decide) ?_
                      try rw [uM_n (by omega), uM_n (by omega), uM_n (by omega), uM_n (by omega)]
                      refine X_putI (f := 17) 182 dX7_sums_182 lf_RX7_133 iw7 vc7 (by decide) lyM tyX7_ok nmX7 rfl rfl rfl (by decide) rfl rfl ?_
                      refine X_iinc 185 4 (_ + 1) [(3, .int _), (4, .int _), (0, .ref _), (1, .int _), (2, .int _)] dX7_sums_185 rfl rfl (by decide) rfl ?_
                      refine X_goto 188 39 dX7_sums_188 (by decide) ?_
                      refine X_sub [2, 3, 4, 0] [(0, .ref _), (1, .int _), (2, .int _), (3, .int _)] rfl ?_
                      exact ih_39 (x + 1) _ (by omega) (by omega) (by first | exact SUMP_off hp39_2 hk8 hS9 b_57 | exact SUMP_on hp39_2 hk8 hS9 b_57 hg ho hd) _  (by exact (nI_1 x).symm)
                  · have ho : (if bcI (cvJ V lc c (y * c + x)) = 1 then (1 : Int32) else 0) = 1 := if_pos c_151
                    refine X_iconst 154 (1) dX7_sums_154 (by decide) ?_
                    refine X_goto 155 159 dX7_sums_155 (by decide) ?_
                    refine X_iadd 159 dX7_sums_159 ?_
                    refine X_putI (f := 16) 160 dX7_sums_160 lf_RX7_130 iw7 vc7 (by decide) lyM tyX7_ok nmX7 rfl rfl rfl (by decide) rfl rfl ?_
                    refine X_aload_n 163 1 dX7_sums_163 rfl rfl ?_
                    refine X_iload 164 0 dX7_sums_164 rfl ?_
                    refine X_aload_n 166 1 dX7_sums_166 rfl rfl ?_
                    refine X_getI (f := 17) 167 dX7_sums_167 lf_RX7_133 iw7 vc7 (by decide) lyM rfl ?_
                    rw [uM_n (by omega), uM_n (by omega), uM_n (by omega), uM_n (by omega)]
                    refine X_icmp_le 170 178 dX7_sums_170 (by decide) (fun c_170 => ?_) (fun c_170 => ?_)
                    · have hd : mxI (m9 0 17) (ltJ V lc c k (y * c + x) + V 8 (y * c + x) - brJ V lc c (y * c + x)) = m9 0 17 := if_neg (Int32.not_lt.mpr c_170)
                      refine X_aload_n 178 1 dX7_sums_178 rfl rfl ?_
                      refine X_getI (f := 17) 179 dX7_sums_179 lf_RX7_133 iw7 vc7 (by decide) lyM rfl ?_
                      try rw [uM_n (by omega), uM_n (by omega), uM_n (by omega), uM_n (by omega)]
                      refine X_putI (f := 17) 182 dX7_sums_182 lf_RX7_133 iw7 vc7 (by decide) lyM tyX7_ok nmX7 rfl rfl rfl (by decide) rfl rfl ?_
                      refine X_iinc 185 4 (_ + 1) [(3, .int _), (4, .int _), (0, .ref _), (1, .int _), (2, .int _)] dX7_sums_185 rfl rfl (by decide) rfl ?_
                      refine X_goto 188 39 dX7_sums_188 (by decide) ?_
                      refine X_sub [2, 3, 4, 0] [(0, .ref _), (1, .int _), (2, .int _), (3, .int _)] rfl ?_
                      exact ih_39 (x + 1) _ (by omega) (by omega) (by first | exact SUMP_off hp39_2 hk8 hS9 b_57 | exact SUMP_on hp39_2 hk8 hS9 b_57 hg ho hd) _  (by exact (nI_1 x).symm)
                    · have hd : mxI (m9 0 17) (ltJ V lc c k (y * c + x) + V 8 (y * c + x) - brJ V lc c (y * c + x)) = _ := if_pos (Int32.not_le.mp c_170)
                      refine X_iload 173 0 dX7_sums_173 rfl ?_
                      refine X_goto 175 182 dX7_sums_175 (by decide) ?_
                      try rw [uM_n (by omega), uM_n (by omega), uM_n (by omega), uM_n (by omega)]
                      refine X_putI (f := 17) 182 dX7_sums_182 lf_RX7_133 iw7 vc7 (by decide) lyM tyX7_ok nmX7 rfl rfl rfl (by decide) rfl rfl ?_
                      refine X_iinc 185 4 (_ + 1) [(3, .int _), (4, .int _), (0, .ref _), (1, .int _), (2, .int _)] dX7_sums_185 rfl rfl (by decide) rfl ?_
                      refine X_goto 188 39 dX7_sums_188 (by decide) ?_
                      refine X_sub [2, 3, 4, 0] [(0, .ref _), (1, .int _), (2, .int _), (3, .int _)] rfl ?_
                      exact ih_39 (x + 1) _ (by omega) (by omega) (by first | exact SUMP_off hp39_2 hk8 hS9 b_57 | exact SUMP_on hp39_2 hk8 hS9 b_57 hg ho hd) _  (by exact (nI_1 x).symm)
              · rw [hS9.2.1] at b_57
                refine X_if_eq 60 185 dX7_sums_60 (by decide) (fun _ => ?_) (fun c_0 => by exact absurd c_0 (by decide))
                refine X_iinc 185 3 (_ + 1) [(3, .int _), (0, .ref _), (1, .int _), (2, .int _)] dX7_sums_185 rfl rfl (by decide) rfl ?_
                refine X_goto 188 39 dX7_sums_188 (by decide) ?_
                refine X_sub [1, 2, 3, 0] [(0, .ref _), (1, .int _), (2, .int _), (3, .int _)] rfl ?_
                exact ih_39 (x + 1) _ (by omega) (by omega) (by first | exact SUMP_off hp39_2 hk8 hS9 b_57 | exact SUMP_on hp39_2 hk8 hS9 b_57 hg ho hd) _  (by exact (nI_1 x).symm)
        exact L_39 (c + 1) 0 _ (by omega) (by omega) hp27_2 _  (by exact nI_0)
  exact L_27 (r + 1) 0 _ (by omega) (by omega) (by rw [Nat.zero_mul]; exact SUMP_0) _  (by exact nI_0)
set_option maxHeartbeats 4000000 in
set_option maxRecDepth 100000 in
theorem e_X7_load (V : Mm) (c r lc k : Nat) (μ : Mm) (hM : MI V c r lc μ) (hk : k < lc) : EvN ΛM mX7_load [.ref 0, .int (nI k)] μ (qI (fun v m => ldJ V lc c r k = v ∧ SUMP V lc c k (c * r) μ m)) := by
  refine EvN_ofQ (by decide +kernel) rfl (fun _ => rfl) (fun _ => Nat.le_of_ble_eq_true rfl) (ls := [(0, .ref 0), (1, .int (nI k))]) ?_
  obtain ⟨⟨hc1, hc2⟩, ⟨hr1, hr2⟩, h8⟩ := MI_lc hM
  have hk8 : k < 8 := by omega
  refine X_aload_n 0 0 dX7_load_0 rfl rfl ?_
  refine X_iload_n 1 1 dX7_load_1 rfl rfl ?_
  refine X_cVV 2 [.int _] (e_X7_sums V c r lc k _ hM hk) dX7_load_2 lm_RX7_139 1 ⟨wm_X7_sums, by decide +kernel, rfl, rfl⟩ rfl ⟨Nat.le_of_ble_eq_true rfl, Nat.le_of_ble_eq_true rfl⟩ lyM vc7 rfl rfl (Nat.le_of_ble_eq_true rfl) ?_
  rintro m9 hS9
  refine X_aload_n 5 0 dX7_load_5 rfl rfl ?_
  refine X_getI (f := 13) 6 dX7_load_6 lf_RX7_121 iw7 vc7 (by decide) lyM rfl ?_
  rw [hS9.2.1, show sumN (c * r) (fun j => if bitB (cvJ V lc c j) k = true then (1 : Int32) else 0) = plcJ V lc c r k from rfl]
  refine X_aload_n 9 0 dX7_load_9 rfl rfl ?_
  refine X_iload_n 10 1 dX7_load_10 rfl rfl ?_
  refine X_cVI 11 [.int _] (e_X7_limit 0 V c r lc k _ (by rw [SCR_1 hS9.1]; exact hM.1) hk8) dX7_load_11 lm_RX7_65 1 ⟨wm_X7_limit, by decide +kernel, rfl, rfl⟩ rfl ⟨Nat.le_of_ble_eq_true rfl, Nat.le_of_ble_eq_true rfl⟩ lyM vc7 rfl rfl (Nat.le_of_ble_eq_true rfl) ?_
  rintro _ _ ⟨rfl, rfl⟩
  refine X_imul 14 dX7_load_14 ?_
  refine X_istore_n 15 [(2, .int _), (0, .ref _), (1, .int _)] dX7_load_15 rfl (by decide) rfl ?_
  refine X_iload_n 16 0 dX7_load_16 rfl rfl ?_
  refine X_if_ne 17 24 dX7_load_17 (by decide) (fun c_17 => ?_) (fun c_17 => ?_)
  · refine X_bipush 24 (100) dX7_load_24 (by decide) ?_
    refine X_aload_n 26 1 dX7_load_26 rfl rfl ?_
    refine X_getI (f := 14) 27 dX7_load_27 lf_RX7_124 iw7 vc7 (by decide) lyM rfl ?_
    rw [hS9.2.2.1, show sumN (c * r) (fun j => if bitB (cvJ V lc c j) k = true then ltJ V lc c k j else 0) = slJ V lc c r k from rfl]
    refine X_imul 30 dX7_load_30 ?_
    refine X_iload_n 31 0 dX7_load_31 rfl rfl ?_
    refine X_idiv 32 dX7_load_32 c_17 ?_
    refine X_iret 33 dX7_load_33 rfl rfl ⟨_, rfl, _, rfl, ?_⟩
    first | exact ⟨(ld_eq hM.1 hk8).trans (if_pos c_17), hS9⟩ | exact ⟨(ld_eq hM.1 hk8).trans (if_neg c_17), hS9⟩
  · refine X_iconst 20 (0) dX7_load_20 (by decide) ?_
    refine X_goto 21 33 dX7_load_21 (by decide) ?_
    refine X_iret 33 dX7_load_33 rfl rfl ⟨_, rfl, _, rfl, ?_⟩
    first | exact ⟨(ld_eq hM.1 hk8).trans (if_pos c_17), hS9⟩ | exact ⟨(ld_eq hM.1 hk8).trans (if_neg c_17), hS9⟩
