set_option maxHeartbeats 4000000 in
set_option maxRecDepth 100000 in
theorem e_X1_countWrong (d : Nat) (hd : isD d) (s : Nat) (hs : isS s) (z sx sy : Int32) (c r : Nat) (μ : Mm) (hc : μ s 0 = nI c) (hr : μ s 1 = nI r) (h1 : c ≤ 24) (h2 : r ≤ 16) : EvN ΛC mX1_countWrong [.ref d, .ref s, .int z, .int sx, .int sy] μ (qI (fun x μ' => cwN μ s z sx sy c r = x ∧ sameOut d (d + 9) μ μ')) := by
  refine EvN_ofQ (by decide +kernel) rfl (fun _ => rfl) (fun _ => Nat.le_of_ble_eq_true rfl) (ls := [(0, .ref d), (1, .ref s), (2, .int z), (3, .int sx), (4, .int sy)]) ?_
  have hd75 := isD_ge hd
  have hs60 := isS_le hs
  refine X_aload_n 0 1 dX1_countWrong_0 rfl rfl ?_
  refine X_ifnonnull 1 6 dX1_countWrong_1 (by decide) ?_
  refine X_aload_n 6 0 dX1_countWrong_6 rfl rfl ?_
  refine X_aload_n 7 1 dX1_countWrong_7 rfl rfl ?_
  refine X_iload_n 8 2 dX1_countWrong_8 rfl rfl ?_
  refine X_cVV 9 [.ref _, .int _] (e_X1_prepare d hd s hs _ _) dX1_countWrong_9 lm_RX1_46 2 ⟨wm_X1_prepare, by decide +kernel, rfl, rfl⟩ rfl ⟨Nat.le_of_ble_eq_true rfl, Nat.le_of_ble_eq_true rfl⟩ (lyD d hd) vc1 rfl rfl (Nat.le_of_ble_eq_true rfl) ?_
  rintro _ rfl
  refine X_iconst 12 (0) dX1_countWrong_12 (by decide) ?_
  refine X_istore 13 [(5, .int _), (0, .ref _), (1, .ref _), (2, .int _), (3, .int _), (4, .int _)] dX1_countWrong_13 (by decide) rfl ?_
  refine X_iconst 15 (0) dX1_countWrong_15 (by decide) ?_
  refine X_istore 16 [(6, .int _), (5, .int _), (0, .ref _), (1, .ref _), (2, .int _), (3, .int _), (4, .int _)] dX1_countWrong_16 (by decide) rfl ?_
  refine X_sub [2, 3, 4, 5, 6, 1, 0] [(0, .ref _), (1, .ref _), (2, .int _), (3, .int _), (4, .int _), (5, .int _), (6, .int _)] rfl ?_
  have L_18 : ∀ (kf : Nat) (y : Nat) (m : Mm), y ≤ r → r < y + kf → PR μ d s z m → sameOut d (d + 9) μ m → ∀ (x18_5 : Int32) (x18_6 : Int32), cwN μ s z sx sy c y = x18_5 → nI y = x18_6 → X false ΛC mX1_countWrong (QN (qI (fun x μ' => cwN μ s z sx sy c r = x ∧ sameOut d (d + 9) μ μ'))) 18 [(0, .ref d), (1, .ref s), (2, .int z), (3, .int sx), (4, .int sy), (5, .int x18_5), (6, .int x18_6)] [] m := by
    intro kf
    induction kf with
    | zero => intro y m hp18_0 hp18_1 hp18_2 hp18_3; exfalso; omega
    | succ kf ih_18 =>
      intro y m hp18_0 hp18_1 hp18_2 hp18_3 x18_5 x18_6
      rintro rfl rfl
      have hmc : m s 0 = nI c := by rw [hp18_3 s 0 (by omega)]; exact hc
      have hmr : m s 1 = nI r := by rw [hp18_3 s 1 (by omega)]; exact hr
      refine X_iload 18 6 dX1_countWrong_18 rfl ?_
      refine X_aload_n 20 1 dX1_countWrong_20 rfl rfl ?_
      refine X_getI (f := 1) 21 dX1_countWrong_21 lf_RX1_50 iw4 vc4 (by decide) (lyS s hs) rfl ?_
      refine X_icmp_ge 24 102 dX1_countWrong_24 (by decide) (fun c_24 => ?_) (fun c_24 => ?_)
      · have hge : r ≤ y := c_ge hmr (by omega) (by omega) c_24
        have hie : y = r := by omega
        subst hie
        refine X_iload 102 5 dX1_countWrong_102 rfl ?_
        refine X_iret 104 dX1_countWrong_104 rfl rfl ⟨_, rfl, _, rfl, ?_⟩
        exact ⟨rfl, hp18_3⟩
      · have hlt : y < r := c_lt hmr (by omega) (by omega) c_24
        refine X_iconst 27 (0) dX1_countWrong_27 (by decide) ?_
        refine X_istore 28 [(7, .int _), (0, .ref _), (1, .ref _), (2, .int _), (3, .int _), (4, .int _), (5, .int _), (6, .int _)] dX1_countWrong_28 (by decide) rfl ?_
        refine X_sub [1, 2, 3, 4, 5, 6, 7, 0] [(0, .ref _), (1, .ref _), (2, .int _), (3, .int _), (4, .int _), (5, .int _), (6, .int _), (7, .int _)] rfl ?_
        have L_30 : ∀ (kf : Nat) (x : Nat) (m : Mm), x ≤ c → c < x + kf → PR μ d s z m → sameOut d (d + 9) μ m → ∀ (x30_5 : Int32) (x30_7 : Int32), cwN μ s z sx sy c y + sumN x (fun x => if stP μ s z sx sy c x y = 0 then 0 else 1) = x30_5 → nI x = x30_7 → X false ΛC mX1_countWrong (QN (qI (fun x μ' => cwN μ s z sx sy c r = x ∧ sameOut d (d + 9) μ μ'))) 30 [(0, .ref d), (1, .ref s), (2, .int z), (3, .int sx), (4, .int sy), (5, .int x30_5), (6, .int (nI y)), (7, .int x30_7)] [] m := by
          intro kf
          induction kf with
          | zero => intro x m hp30_0 hp30_1 hp30_2 hp30_3; exfalso; omega
          | succ kf ih_30 =>
            intro x m hp30_0 hp30_1 hp30_2 hp30_3 x30_5 x30_7
            rintro rfl rfl
            have hmc : m s 0 = nI c := by rw [hp30_3 s 0 (by omega)]; exact hc
            refine X_iload 30 7 dX1_countWrong_30 rfl ?_
            refine X_aload_n 32 1 dX1_countWrong_32 rfl rfl ?_
            refine X_getI (f := 0) 33 dX1_countWrong_33 lf_RX1_53 iw4 vc4 (by decide) (lyS s hs) rfl ?_
            refine X_icmp_ge 36 96 dX1_countWrong_36 (by decide) (fun c_36 => ?_) (fun c_36 => ?_)
            · have hge : c ≤ x := c_ge hmc (by omega) (by omega) c_36
              have hie : x = c := by omega
              subst hie
              refine X_iinc 96 6 (_ + 1) [(6, .int _), (0, .ref _), (1, .ref _), (2, .int _), (3, .int _), (4, .int _), (5, .int _), (7, .int _)] dX1_countWrong_96 rfl rfl (by decide) rfl ?_
              refine X_goto 99 18 dX1_countWrong_99 (by decide) ?_
              refine X_sub [1, 2, 3, 4, 5, 6, 0] [(0, .ref _), (1, .ref _), (2, .int _), (3, .int _), (4, .int _), (5, .int _), (6, .int _)] rfl ?_
              exact ih_18 (y + 1) _ (by omega) (by omega) hp30_2 hp30_3 _ _  (by rfl) (by exact (nI_1 y).symm)
            · have hlx : x < c := c_lt hmc (by omega) (by omega) c_36
              have hix : y * c + x < 384 := ix_lt (by omega) hlx (by omega)
              refine X_aload_n 39 1 dX1_countWrong_39 rfl rfl ?_
              refine X_aload_n 40 1 dX1_countWrong_40 rfl rfl ?_
              refine X_iload 41 7 dX1_countWrong_41 rfl ?_
              refine X_iload 43 6 dX1_countWrong_43 rfl ?_
              refine X_cVI 45 [.int _, .int _] (e_X4_indexOfPlace s hs _ _ _) dX1_countWrong_45 lm_RX1_56 2 ⟨wm_X4_indexOfPlace, by decide +kernel, rfl, rfl⟩ rfl ⟨Nat.le_of_ble_eq_true rfl, Nat.le_of_ble_eq_true rfl⟩ (lyS s hs) vc4 rfl rfl (Nat.le_of_ble_eq_true rfl) ?_
              rintro _ _ ⟨rfl, rfl⟩
              rw [ptIx (m := m) (s := s) hmc]
              refine X_cVI 48 [.int _] (e_X4_targetAt s hs _ _) dX1_countWrong_48 lm_RX1_60 1 ⟨wm_X4_targetAt, by decide +kernel, rfl, rfl⟩ rfl ⟨Nat.le_of_ble_eq_true rfl, Nat.le_of_ble_eq_true rfl⟩ (lyS s hs) vc4 rfl rfl (Nat.le_of_ble_eq_true rfl) ?_
              rintro _ _ ⟨rfl, rfl⟩
              rw [gt_nI hix (by decide), so_s hp30_3 hs hd75.1 (by decide)]
              refine X_istore 51 [(8, .int _), (0, .ref _), (1, .ref _), (2, .int _), (3, .int _), (4, .int _), (5, .int _), (6, .int _), (7, .int _)] dX1_countWrong_51 (by decide) rfl ?_
              refine X_aload_n 53 1 dX1_countWrong_53 rfl rfl ?_
              refine X_aload_n 54 2 dX1_countWrong_54 rfl rfl ?_
              refine X_iload 55 8 dX1_countWrong_55 rfl ?_
              refine X_iload_n 57 4 dX1_countWrong_57 rfl rfl ?_
              refine X_cSI 58 [.int _, .int _] (e_X6_pointOf _ _ _) dX1_countWrong_58 lm_RX1_63 2 ⟨wm_X6_pointOf, by decide +kernel, rfl, rfl⟩ rfl ⟨Nat.le_of_ble_eq_true rfl, Nat.le_of_ble_eq_true rfl⟩ rfl (Nat.le_of_ble_eq_true rfl) ?_
              rintro _ _ ⟨rfl, rfl⟩
              refine X_iload 61 7 dX1_countWrong_61 rfl ?_
              refine X_iload 63 5 dX1_countWrong_63 rfl ?_
              refine X_cSI 65 [.int _, .int _] (e_X6_pointOf _ _ _) dX1_countWrong_65 lm_RX1_63 2 ⟨wm_X6_pointOf, by decide +kernel, rfl, rfl⟩ rfl ⟨Nat.le_of_ble_eq_true rfl, Nat.le_of_ble_eq_true rfl⟩ rfl (Nat.le_of_ble_eq_true rfl) ?_
              rintro _ _ ⟨rfl, rfl⟩
              refine X_iload 68 0 dX1_countWrong_68 rfl ?_
              refine X_cVV 70 [.ref _, .int _, .int _, .int _] (e_X1_dimPoint d hd s hs _ _ _ _) dX1_countWrong_70 lm_RX1_66 4 ⟨wm_X1_dimPoint, by decide +kernel, rfl, rfl⟩ rfl ⟨Nat.le_of_ble_eq_true rfl, Nat.le_of_ble_eq_true rfl⟩ (lyD d hd) vc1 rfl rfl (Nat.le_of_ble_eq_true rfl) ?_
              rintro _ rfl
              have hv := dimF_val hd hs hp30_2 (2 * (nI x + sx) + 1) (2 * (nI y + sy) + 1) (μ (s + 8) (y * c + x))
              refine X_iload 73 6 dX1_countWrong_73 rfl ?_
              refine X_aload_n 75 1 dX1_countWrong_75 rfl rfl ?_
              refine X_getI (f := 7) 76 dX1_countWrong_76 lf_RX1_70 iw1 vc1 (by decide) (lyD d hd) rfl ?_
              rw [hv.2.2.1]
              refine X_if_ne 79 86 dX1_countWrong_79 (by decide) (fun c_79 => ?_) (fun c_79 => ?_)
              · refine X_iconst 86 (1) dX1_countWrong_86 (by decide) ?_
                refine X_iadd 87 dX1_countWrong_87 ?_
                refine X_istore 88 [(5, .int _), (8, .int _), (0, .ref _), (1, .ref _), (2, .int _), (3, .int _), (4, .int _), (6, .int _), (7, .int _)] dX1_countWrong_88 (by decide) rfl ?_
                refine X_iinc 90 8 (_ + 1) [(7, .int _), (5, .int _), (8, .int _), (0, .ref _), (1, .ref _), (2, .int _), (3, .int _), (4, .int _), (6, .int _)] dX1_countWrong_90 rfl rfl (by decide) rfl ?_
                refine X_goto 93 30 dX1_countWrong_93 (by decide) ?_
                refine X_sub [3, 4, 5, 6, 7, 1, 8, 0] [(0, .ref _), (1, .ref _), (2, .int _), (3, .int _), (4, .int _), (5, .int _), (6, .int _), (7, .int _)] rfl ?_
                exact ih_30 (x + 1) _ (by omega) (by omega) hv.2.2.2.2 (so_trans hp30_3 (dimF_so _ d s _ _ _)) _ _  (by (show _ = _ + _; rw [Int32.add_assoc]; first | exact congrArg (_ + ·) (congrArg (_ + ·) (if_neg c_79)) | exact congrArg (_ + ·) (congrArg (_ + ·) (if_pos c_79)))) (by exact (nI_1 x).symm)
              · refine X_iconst 82 (0) dX1_countWrong_82 (by decide) ?_
                refine X_goto 83 87 dX1_countWrong_83 (by decide) ?_
                refine X_iadd 87 dX1_countWrong_87 ?_
                refine X_istore 88 [(5, .int _), (8, .int _), (0, .ref _), (1, .ref _), (2, .int _), (3, .int _), (4, .int _), (6, .int _), (7, .int _)] dX1_countWrong_88 (by decide) rfl ?_
                refine X_iinc 90 8 (_ + 1) [(7, .int _), (5, .int _), (8, .int _), (0, .ref _), (1, .ref _), (2, .int _), (3, .int _), (4, .int _), (6, .int _)] dX1_countWrong_90 rfl rfl (by decide) rfl ?_
                refine X_goto 93 30 dX1_countWrong_93 (by decide) ?_
                refine X_sub [3, 4, 5, 6, 7, 1, 8, 0] [(0, .ref _), (1, .ref _), (2, .int _), (3, .int _), (4, .int _), (5, .int _), (6, .int _), (7, .int _)] rfl ?_
                exact ih_30 (x + 1) _ (by omega) (by omega) hv.2.2.2.2 (so_trans hp30_3 (dimF_so _ d s _ _ _)) _ _  (by (show _ = _ + _; rw [Int32.add_assoc]; first | exact congrArg (_ + ·) (congrArg (_ + ·) (if_neg c_79)) | exact congrArg (_ + ·) (congrArg (_ + ·) (if_pos c_79)))) (by exact (nI_1 x).symm)
        exact L_30 (c + 1) 0 _ (by omega) (by omega) hp18_2 hp18_3 _ _  (by exact Int32.add_zero _) (by exact nI_0)
  exact L_18 (r + 1) 0 _ (by omega) (by omega) (PR_prep μ hd hs z) (prepM_so μ d s z 8) _ _  (by rfl) (by exact nI_0)
set_option maxHeartbeats 4000000 in
set_option maxRecDepth 100000 in
theorem e_X2_latestSlot (la : Nat) (μ : Mm) (h1 : μ 107 1 = nI la) (h4 : la < 4) : EvN ΛC mX2_latestSlot [.ref 107] μ (qR (fun q μ' => 15 * (la + 1) = q ∧ μ = μ')) := by
  refine EvN_ofQ (by decide +kernel) rfl (fun _ => rfl) (fun _ => Nat.le_of_ble_eq_true rfl) (ls := [(0, .ref 107)]) ?_
  refine X_aload_n 0 0 dX2_latestSlot_0 rfl rfl ?_
  refine X_getI (f := 1) 1 dX2_latestSlot_1 lf_RX2_18 iw2 vc2 (by decide) lyH rfl ?_
  rw [h1]
  refine X_if_lt 4 31 dX2_latestSlot_4 (by decide) (fun c_4 => ?_) (fun c_4 => ?_)
  · exact absurd c_4 (nI_pos (by omega))
  · refine X_aload_n 7 0 dX2_latestSlot_7 rfl rfl ?_
    refine X_getI (f := 1) 8 dX2_latestSlot_8 lf_RX2_18 iw2 vc2 (by decide) lyH rfl ?_
    refine X_aload_n 11 0 dX2_latestSlot_11 rfl rfl ?_
    refine X_getR (f := 0) 12 dX2_latestSlot_12 lf_RX2_11 iw2 vc2 (by decide) lyH rfl ?_
    refine X_alenq (v := 4) 15 dX2_latestSlot_15 lyHa rfl ?_
    rw [h1]
    refine X_icmp_ge 16 31 dX2_latestSlot_16 (by decide) (fun c_16 => ?_) (fun c_16 => ?_)
    · exact absurd (c_ge (k := 4) rfl (by decide) (by omega) c_16) (by omega)
    · refine X_aload_n 19 0 dX2_latestSlot_19 rfl rfl ?_
      refine X_getR (f := 0) 20 dX2_latestSlot_20 lf_RX2_11 iw2 vc2 (by decide) lyH rfl ?_
      refine X_aload_n 23 0 dX2_latestSlot_23 rfl rfl ?_
      refine X_getI (f := 1) 24 dX2_latestSlot_24 lf_RX2_18 iw2 vc2 (by decide) lyH rfl ?_
      rw [h1]
      refine X_aald 27 dX2_latestSlot_27 lyHa (vp_in_nI (N := 4) h4 (by decide)) (slot_at h4) ?_
      refine X_goto 28 32 dX2_latestSlot_28 (by decide) ?_
      refine X_aret 32 dX2_latestSlot_32 rfl ⟨_, rfl, _, rfl, ?_⟩
      exact ⟨rfl, rfl⟩
set_option maxHeartbeats 4000000 in
set_option maxRecDepth 100000 in
theorem e_X2_save (la cn : Nat) (μ : Mm) (h1 : μ 107 1 = nI la) (h4 : la < 4) (h2 : μ 107 2 = nI cn) (h5 : cn ≤ 4) : EvN ΛC mX2_save [.ref 107, .ref 0] μ (qV (fun μ' => saveM μ la cn = μ')) := by
  refine EvN_ofQ (by decide +kernel) rfl (fun _ => rfl) (fun _ => Nat.le_of_ble_eq_true rfl) (ls := [(0, .ref 107), (1, .ref 0)]) ?_
  refine X_aload_n 0 0 dX2_save_0 rfl rfl ?_
  refine X_aload_n 1 0 dX2_save_1 rfl rfl ?_
  refine X_getI (f := 1) 2 dX2_save_2 lf_RX2_18 iw2 vc2 (by decide) lyH rfl ?_
  rw [h1]
  refine X_iconst 5 (1) dX2_save_5 (by decide) ?_
  refine X_iadd 6 dX2_save_6 ?_
  refine X_iconst 7 (4) dX2_save_7 (by decide) ?_
  rw [nI_1]
  refine X_irem 8 dX2_save_8 (by decide) ?_
  rw [rem4 (by omega)]
  refine X_putI (f := 1) 9 dX2_save_9 lf_RX2_18 iw2 vc2 (by decide) lyH tyX2_ok nmX2 rfl rfl rfl (by decide) rfl rfl ?_
  refine X_aload_n 12 0 dX2_save_12 rfl rfl ?_
  refine X_cVR 13 [] (e_X2_latestSlot ((la + 1) % 4) _ (uM_s _ _ _ _) (by omega)) dX2_save_13 lm_RX2_22 0 ⟨wm_X2_latestSlot, by decide +kernel, rfl, rfl⟩ rfl ⟨Nat.le_of_ble_eq_true rfl, Nat.le_of_ble_eq_true rfl⟩ lyH vc2 rfl rfl (Nat.le_of_ble_eq_true rfl) ?_
  rintro _ _ ⟨rfl, rfl⟩
  refine X_astore_n 16 [(2, .ref _), (0, .ref _), (1, .ref _)] dX2_save_16 rfl (by decide) rfl ?_
  refine X_aload_n 17 0 dX2_save_17 rfl rfl ?_
  refine X_ifnull 18 dX2_save_18 ?_
  refine X_aload_n 21 0 dX2_save_21 rfl rfl ?_
  refine X_aload_n 22 2 dX2_save_22 rfl rfl ?_
  refine X_cVV 23 [.ref _] (e_X4_copyFrom (15 * ((la + 1) % 4 + 1)) (isS_sl (by omega)) 0 (Or.inl rfl) _ (by omega)) dX2_save_23 lm_RX2_26 1 ⟨wm_X4_copyFrom, by decide +kernel, rfl, rfl⟩ rfl ⟨Nat.le_of_ble_eq_true rfl, Nat.le_of_ble_eq_true rfl⟩ (lyS (15 * ((la + 1) % 4 + 1)) (isS_sl (by omega))) vc4 rfl rfl (Nat.le_of_ble_eq_true rfl) ?_
  rintro _ rfl
  refine X_aload_n 26 1 dX2_save_26 rfl rfl ?_
  refine X_aload_n 27 1 dX2_save_27 rfl rfl ?_
  refine X_getI (f := 2) 28 dX2_save_28 lf_RX2_30 iw2 vc2 (by decide) lyH rfl ?_
  rw [cpS_out (by unfold isS; omega) (Or.inl rfl) (by omega), uM_n (by omega), h2]
  refine X_iconst 31 (1) dX2_save_31 (by decide) ?_
  refine X_iadd 32 dX2_save_32 ?_
  refine X_iconst 33 (4) dX2_save_33 (by decide) ?_
  refine X_mmin 34 dX2_save_34 kw_373 kw_374 kw_42 kw_375 ⟨Nat.le_of_ble_eq_true rfl, Nat.le_of_ble_eq_true rfl⟩ ?_
  refine X_putI (f := 2) 37 dX2_save_37 lf_RX2_30 iw2 vc2 (by decide) lyH tyX2_ok nmX2 rfl rfl rfl (by decide) rfl rfl ?_
  refine X_vret 40 dX2_save_40 rfl ⟨_, rfl, rfl, ?_⟩
  rfl
set_option maxHeartbeats 4000000 in
set_option maxRecDepth 100000 in
theorem e_X2_restore (la cn : Nat) (μ : Mm) (h1 : μ 107 1 = nI la) (h4 : la < 4) (h2 : μ 107 2 = nI (cn + 1)) (h5 : cn < 4) : EvN ΛC mX2_restore [.ref 107, .ref 0] μ (qV (fun μ' => restM μ la cn = μ')) := by
  refine EvN_ofQ (by decide +kernel) rfl (fun _ => rfl) (fun _ => Nat.le_of_ble_eq_true rfl) (ls := [(0, .ref 107), (1, .ref 0)]) ?_
  refine X_aload_n 0 1 dX2_restore_0 rfl rfl ?_
  refine X_ifnull 1 dX2_restore_1 ?_
  refine X_aload_n 4 0 dX2_restore_4 rfl rfl ?_
  refine X_getI (f := 2) 5 dX2_restore_5 lf_RX2_30 iw2 vc2 (by decide) lyH rfl ?_
  rw [h2]
  refine X_if_gt 8 12 dX2_restore_8 (by decide) (fun c_8 => ?_) (fun c_8 => ?_)
  · refine X_aload_n 12 1 dX2_restore_12 rfl rfl ?_
    refine X_aload_n 13 0 dX2_restore_13 rfl rfl ?_
    refine X_cVR 14 [] (e_X2_latestSlot la _ h1 h4) dX2_restore_14 lm_RX2_22 0 ⟨wm_X2_latestSlot, by decide +kernel, rfl, rfl⟩ rfl ⟨Nat.le_of_ble_eq_true rfl, Nat.le_of_ble_eq_true rfl⟩ lyH vc2 rfl rfl (Nat.le_of_ble_eq_true rfl) ?_
    rintro _ _ ⟨rfl, rfl⟩
    refine X_cVV 17 [.ref _] (e_X4_copyFrom 0 (Or.inl rfl) (15 * (la + 1)) (isS_sl h4) _ (by omega)) dX2_restore_17 lm_RX2_26 1 ⟨wm_X4_copyFrom, by decide +kernel, rfl, rfl⟩ rfl ⟨Nat.le_of_ble_eq_true rfl, Nat.le_of_ble_eq_true rfl⟩ (lyS 0 (Or.inl rfl)) vc4 rfl rfl (Nat.le_of_ble_eq_true rfl) ?_
    rintro _ rfl
    refine X_aload_n 20 0 dX2_restore_20 rfl rfl ?_
    refine X_aload_n 21 0 dX2_restore_21 rfl rfl ?_
    refine X_getI (f := 1) 22 dX2_restore_22 lf_RX2_18 iw2 vc2 (by decide) lyH rfl ?_
    rw [cpS_out (Or.inl rfl) (isS_sl h4) (by omega), h1]
    refine X_iconst 25 (4) dX2_restore_25 (by decide) ?_
    refine X_iadd 26 dX2_restore_26 ?_
    rw [nI_4]
    refine X_iconst 27 (1) dX2_restore_27 (by decide) ?_
    refine X_isub 28 dX2_restore_28 ?_
    rw [show nI (la + 4) - 1 = nI (la + 3) from nI_pred (la + 3)]
    refine X_iconst 29 (4) dX2_restore_29 (by decide) ?_
    refine X_irem 30 dX2_restore_30 (by decide) ?_
    rw [rem4 (by omega)]
    refine X_putI (f := 1) 31 dX2_restore_31 lf_RX2_18 iw2 vc2 (by decide) lyH tyX2_ok nmX2 rfl rfl rfl (by decide) rfl rfl ?_
    refine X_aload_n 34 0 dX2_restore_34 rfl rfl ?_
    refine X_dupr 35 dX2_restore_35 ?_
    refine X_getI (f := 2) 36 dX2_restore_36 lf_RX2_30 iw2 vc2 (by decide) lyH rfl ?_
    rw [uM_n (by omega), cpS_out (Or.inl rfl) (isS_sl h4) (by omega), h2]
    refine X_iconst 39 (1) dX2_restore_39 (by decide) ?_
    refine X_isub 40 dX2_restore_40 ?_
    rw [nI_pred]
    refine X_putI (f := 2) 41 dX2_restore_41 lf_RX2_30 iw2 vc2 (by decide) lyH tyX2_ok nmX2 rfl rfl rfl (by decide) rfl rfl ?_
    refine X_vret 44 dX2_restore_44 rfl ⟨_, rfl, rfl, ?_⟩
    rfl
  · exact absurd (nI_lt (a := 0) (b := cn + 1) (by omega) (by omega)) c_8
