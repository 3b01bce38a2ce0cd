set_option maxHeartbeats 4000000 in
set_option maxRecDepth 100000 in
theorem e_X4_setTargets (s : Nat) (hs : isS s) (a b u v c : Nat) (t : Int32) (μ : Mm) (hc : μ s 0 = nI c) (h1 : a ≤ u) (h2 : u < c) (h3 : c ≤ 24) (h4 : b ≤ v) (h5 : v < 16) : EvN ΛC mX4_setTargets [.ref s, .int (nI a), .int (nI b), .int (nI u), .int (nI v), .int t] μ (qI (fun x μ' => (ptR (s + 8) t c a (u - a + 1) b (v - b + 1) (0, μ)).1 = x ∧ uM (ptR (s + 8) t c a (u - a + 1) b (v - b + 1) (0, μ)).2 s 6 1 = μ')) := by
  refine EvN_ofQ (by decide +kernel) rfl (fun _ => rfl) (fun _ => Nat.le_of_ble_eq_true rfl) (ls := [(0, .ref s), (1, .int (nI a)), (2, .int (nI b)), (3, .int (nI u)), (4, .int (nI v)), (5, .int t)]) ?_
  refine X_iconst 0 (0) dX4_setTargets_0 (by decide) ?_
  refine X_istore 1 [(6, .int _), (0, .ref _), (1, .int _), (2, .int _), (3, .int _), (4, .int _), (5, .int _)] dX4_setTargets_1 (by decide) rfl ?_
  refine X_iload_n 3 3 dX4_setTargets_3 rfl rfl ?_
  refine X_istore 4 [(7, .int _), (6, .int _), (0, .ref _), (1, .int _), (2, .int _), (3, .int _), (4, .int _), (5, .int _)] dX4_setTargets_4 (by decide) rfl ?_
  refine X_sub [2, 3, 4, 5, 6, 7, 1, 0] [(0, .ref _), (1, .int _), (2, .int _), (3, .int _), (4, .int _), (5, .int _), (6, .int _), (7, .int _)] rfl ?_
  have L_6 : ∀ (kf : Nat) (i : Nat), i ≤ v - b + 1 → v - b + 1 < i + kf → ∀ (x6_6 : Int32) (x6_7 : Int32) (μ6 : Mm), (ptR (s + 8) t c a (u - a + 1) b i (0, μ)).1 = x6_6 → nI (b + i) = x6_7 → (ptR (s + 8) t c a (u - a + 1) b i (0, μ)).2 = μ6 → X false ΛC mX4_setTargets (QN (qI (fun x μ' => (ptR (s + 8) t c a (u - a + 1) b (v - b + 1) (0, μ)).1 = x ∧ uM (ptR (s + 8) t c a (u - a + 1) b (v - b + 1) (0, μ)).2 s 6 1 = μ'))) 6 [(0, .ref s), (1, .int (nI a)), (2, .int (nI b)), (3, .int (nI u)), (4, .int (nI v)), (5, .int t), (6, .int x6_6), (7, .int x6_7)] [] μ6 := by
    intro kf
    induction kf with
    | zero => intro i hp6_0 hp6_1; exfalso; omega
    | succ kf ih_6 =>
      intro i hp6_0 hp6_1 x6_6 x6_7 μ6
      rintro rfl rfl rfl
      refine X_iload 6 7 dX4_setTargets_6 rfl ?_
      refine X_iload 8 4 dX4_setTargets_8 rfl ?_
      refine X_icmp_gt 10 86 dX4_setTargets_10 (by decide) (fun c_10 => ?_) (fun c_10 => ?_)
      · have hge : v < b + i := (nI_ltI (by omega) (by omega)).mp c_10
        have hie : i = v - b + 1 := by omega
        subst hie
        refine X_aload_n 86 0 dX4_setTargets_86 rfl rfl ?_
        refine X_iconst 87 (1) dX4_setTargets_87 (by decide) ?_
        refine X_putI (f := 6) 88 dX4_setTargets_88 lf_RX4_18 iw4 vc4 (by decide) (lyS s hs) tyX4_ok nmX4 rfl rfl rfl (by decide) rfl rfl ?_
        refine X_iload 91 6 dX4_setTargets_91 rfl ?_
        refine X_iret 93 dX4_setTargets_93 rfl rfl ⟨_, rfl, _, rfl, ?_⟩
        exact ⟨rfl, rfl⟩
      · have hlt : b + i ≤ v := Nat.le_of_not_lt fun q => c_10 (nI_lt q (by omega))
        refine X_iload 13 7 dX4_setTargets_13 rfl ?_
        refine X_bipush 15 (16) dX4_setTargets_15 (by decide) ?_
        refine X_icmp_ge 17 86 dX4_setTargets_17 (by decide) (fun c_17 => ?_) (fun c_17 => ?_)
        · exact absurd (c_ge (k := 16) rfl (by decide) (by omega) c_17) (by omega)
        · refine X_iload_n 20 1 dX4_setTargets_20 rfl rfl ?_
          refine X_istore 21 [(8, .int _), (0, .ref _), (1, .int _), (2, .int _), (3, .int _), (4, .int _), (5, .int _), (6, .int _), (7, .int _)] dX4_setTargets_21 (by decide) rfl ?_
          refine X_sub [1, 2, 3, 4, 5, 6, 7, 8, 0] [(0, .ref _), (1, .int _), (2, .int _), (3, .int _), (4, .int _), (5, .int _), (6, .int _), (7, .int _), (8, .int _)] rfl ?_
          have L_23 : ∀ (kf : Nat) (j : Nat), j ≤ u - a + 1 → u - a + 1 < j + kf → ∀ (x23_6 : Int32) (x23_8 : Int32) (μ23 : Mm), (ptC (s + 8) t ((b + i) * c + a) j (ptR (s + 8) t c a (u - a + 1) b i (0, μ))).1 = x23_6 → nI (a + j) = x23_8 → (ptC (s + 8) t ((b + i) * c + a) j (ptR (s + 8) t c a (u - a + 1) b i (0, μ))).2 = μ23 → X false ΛC mX4_setTargets (QN (qI (fun x μ' => (ptR (s + 8) t c a (u - a + 1) b (v - b + 1) (0, μ)).1 = x ∧ uM (ptR (s + 8) t c a (u - a + 1) b (v - b + 1) (0, μ)).2 s 6 1 = μ'))) 23 [(0, .ref s), (1, .int (nI a)), (2, .int (nI b)), (3, .int (nI u)), (4, .int (nI v)), (5, .int t), (6, .int x23_6), (7, .int (nI (b + i))), (8, .int x23_8)] [] μ23 := by
            intro kf
            induction kf with
            | zero => intro j hp23_0 hp23_1; exfalso; omega
            | succ kf ih_23 =>
              intro j hp23_0 hp23_1 x23_6 x23_8 μ23
              rintro rfl rfl rfl
              refine X_iload 23 8 dX4_setTargets_23 rfl ?_
              refine X_iload_n 25 3 dX4_setTargets_25 rfl rfl ?_
              refine X_icmp_gt 26 80 dX4_setTargets_26 (by decide) (fun c_26 => ?_) (fun c_26 => ?_)
              · have hgj : u < a + j := (nI_ltI (by omega) (by omega)).mp c_26
                have hje : j = u - a + 1 := by omega
                subst hje
                refine X_iinc 80 7 (_ + 1) [(7, .int _), (0, .ref _), (1, .int _), (2, .int _), (3, .int _), (4, .int _), (5, .int _), (6, .int _), (8, .int _)] dX4_setTargets_80 rfl rfl (by decide) rfl ?_
                refine X_goto 83 6 dX4_setTargets_83 (by decide) ?_
                refine X_sub [1, 2, 3, 4, 5, 6, 7, 0] [(0, .ref _), (1, .int _), (2, .int _), (3, .int _), (4, .int _), (5, .int _), (6, .int _), (7, .int _)] rfl ?_
                exact ih_6 (i + 1) (by omega) (by omega) _ _ _  (by rfl) (by exact (nI_1 (b + i)).symm) (by rfl)
              · have hlj : a + j ≤ u := Nat.le_of_not_lt fun q => c_26 (nI_lt q (by omega))
                refine X_iload 29 8 dX4_setTargets_29 rfl ?_
                refine X_bipush 31 (24) dX4_setTargets_31 (by decide) ?_
                refine X_icmp_ge 33 80 dX4_setTargets_33 (by decide) (fun c_33 => ?_) (fun c_33 => ?_)
                · exact absurd (c_ge (k := 24) rfl (by decide) (by omega) c_33) (by omega)
                · refine X_aload_n 36 0 dX4_setTargets_36 rfl rfl ?_
                  refine X_iload 37 8 dX4_setTargets_37 rfl ?_
                  refine X_iload 39 7 dX4_setTargets_39 rfl ?_
                  refine X_cVI 41 [.int _, .int _] (e_X4_indexOfPlace s hs _ _ _) dX4_setTargets_41 lm_RX4_68 2 ⟨wm_X4_indexOfPlace, by decide +kernel, rfl, rfl⟩ rfl ⟨Nat.le_of_ble_eq_true rfl, Nat.le_of_ble_eq_true rfl⟩ (lyS s hs) vc4 rfl rfl (Nat.le_of_ble_eq_true rfl) ?_
                  rintro _ _ ⟨rfl, rfl⟩
                  have hix : (b + i) * c + a + j < 384 := by have := ix_lt (y := b + i) (x := a + j) (c := c) (by omega) (by omega) h3; omega
                  rw [ptIx (m := μ) (s := s) (c := c) ((ptC_out (by omega) _ _).trans ((ptR_out (by omega) _ _).trans hc)), show (b + i) * c + (a + j) = (b + i) * c + a + j from (Nat.add_assoc _ _ _).symm]
                  refine X_istore 44 [(9, .int _), (0, .ref _), (1, .int _), (2, .int _), (3, .int _), (4, .int _), (5, .int _), (6, .int _), (7, .int _), (8, .int _)] dX4_setTargets_44 (by decide) rfl ?_
                  refine X_aload_n 46 1 dX4_setTargets_46 rfl rfl ?_
                  refine X_getR (f := 7) 47 dX4_setTargets_47 lf_RX4_27 iw4 vc4 (by decide) (lyS s hs) rfl ?_
                  refine X_iload 50 0 dX4_setTargets_50 rfl ?_
                  refine X_cVI 52 [.int _] (e_X3_get ((s + 1)) ((s + 8)) 384 (rS_tg s hs) _ _) dX4_setTargets_52 lm_RX4_72 1 ⟨wm_X3_get, by decide +kernel, rfl, rfl⟩ rfl ⟨Nat.le_of_ble_eq_true rfl, Nat.le_of_ble_eq_true rfl⟩ (rS_tg s hs).1 vc3 rfl rfl (Nat.le_of_ble_eq_true rfl) ?_
                  rintro _ _ ⟨rfl, rfl⟩
                  rw [gt_nI hix (by decide)]
                  refine X_iload 55 6 dX4_setTargets_55 rfl ?_
                  refine X_icmp_eq 57 63 dX4_setTargets_57 (by decide) (fun c_57 => ?_) (fun c_57 => ?_)
                  · refine X_aload_n 63 1 dX4_setTargets_63 rfl rfl ?_
                    refine X_getR (f := 7) 64 dX4_setTargets_64 lf_RX4_27 iw4 vc4 (by decide) (lyS s hs) rfl ?_
                    refine X_iload 67 0 dX4_setTargets_67 rfl ?_
                    refine X_iload 69 6 dX4_setTargets_69 rfl ?_
                    refine X_cVV 71 [.int _, .int _] (e_X3_set ((s + 1)) ((s + 8)) 384 (rS_tg s hs) _ _ _) dX4_setTargets_71 lm_RX4_76 2 ⟨wm_X3_set, by decide +kernel, rfl, rfl⟩ rfl ⟨Nat.le_of_ble_eq_true rfl, Nat.le_of_ble_eq_true rfl⟩ (rS_tg s hs).1 vc3 rfl rfl (Nat.le_of_ble_eq_true rfl) ?_
                    rintro _ rfl
                    rw [stR_nI hix (by decide)]
                    refine X_iinc 74 9 (_ + 1) [(8, .int _), (9, .int _), (0, .ref _), (1, .int _), (2, .int _), (3, .int _), (4, .int _), (5, .int _), (6, .int _), (7, .int _)] dX4_setTargets_74 rfl rfl (by decide) rfl ?_
                    refine X_goto 77 23 dX4_setTargets_77 (by decide) ?_
                    refine X_sub [2, 3, 4, 5, 6, 7, 8, 9, 0] [(0, .ref _), (1, .int _), (2, .int _), (3, .int _), (4, .int _), (5, .int _), (6, .int _), (7, .int _), (8, .int _)] rfl ?_
                    exact ih_23 (j + 1) (by omega) (by omega) _ _ _  (by (first | exact if_pos c_57 | exact if_neg c_57)) (by exact (nI_1 (a + j)).symm) (by rfl)
                  · refine X_iinc 60 7 (_ + 1) [(6, .int _), (9, .int _), (0, .ref _), (1, .int _), (2, .int _), (3, .int _), (4, .int _), (5, .int _), (7, .int _), (8, .int _)] dX4_setTargets_60 rfl rfl (by decide) rfl ?_
                    refine X_aload_n 63 2 dX4_setTargets_63 rfl rfl ?_
                    refine X_getR (f := 7) 64 dX4_setTargets_64 lf_RX4_27 iw4 vc4 (by decide) (lyS s hs) rfl ?_
                    refine X_iload 67 1 dX4_setTargets_67 rfl ?_
                    refine X_iload 69 7 dX4_setTargets_69 rfl ?_
                    refine X_cVV 71 [.int _, .int _] (e_X3_set ((s + 1)) ((s + 8)) 384 (rS_tg s hs) _ _ _) dX4_setTargets_71 lm_RX4_76 2 ⟨wm_X3_set, by decide +kernel, rfl, rfl⟩ rfl ⟨Nat.le_of_ble_eq_true rfl, Nat.le_of_ble_eq_true rfl⟩ (rS_tg s hs).1 vc3 rfl rfl (Nat.le_of_ble_eq_true rfl) ?_
                    rintro _ rfl
                    rw [stR_nI hix (by decide)]
                    refine X_iinc 74 9 (_ + 1) [(8, .int _), (6, .int _), (9, .int _), (0, .ref _), (1, .int _), (2, .int _), (3, .int _), (4, .int _), (5, .int _), (7, .int _)] dX4_setTargets_74 rfl rfl (by decide) rfl ?_
                    refine X_goto 77 23 dX4_setTargets_77 (by decide) ?_
                    refine X_sub [3, 4, 5, 6, 7, 8, 1, 9, 0] [(0, .ref _), (1, .int _), (2, .int _), (3, .int _), (4, .int _), (5, .int _), (6, .int _), (7, .int _), (8, .int _)] rfl ?_
                    exact ih_23 (j + 1) (by omega) (by omega) _ _ _  (by (first | exact if_pos c_57 | exact if_neg c_57)) (by exact (nI_1 (a + j)).symm) (by rfl)
          exact L_23 (u - a + 2) 0 (by omega) (by omega) _ _ _  (by rfl) (by rfl) (by rfl)
  exact L_6 (v - b + 2) 0 (by omega) (by omega) _ _ _  (by rfl) (by rfl) (by rfl)
set_option maxHeartbeats 4000000 in
set_option maxRecDepth 100000 in
theorem e_X4_copyFrom (s : Nat) (hs : isS s) (o : Nat) (ho : isS o) (μ : Mm) (hso : s ≠ o) : EvN ΛC mX4_copyFrom [.ref s, .ref o] μ (qV (fun μ' => cpS μ s o = μ')) := by
  refine EvN_ofQ (by decide +kernel) rfl (fun _ => rfl) (fun _ => Nat.le_of_ble_eq_true rfl) (ls := [(0, .ref s), (1, .ref o)]) ?_
  have hsep := sS s o hs ho hso
  have qo : ∀ (m : Mm) (j : Nat) (x : Int32) (b : Nat), uM m s j x o b = m o b := fun m j x b => uM_n (fun h => hso h.1.symm)
  have qu : ∀ (m : Mm) (j : Nat) (x : Int32) (q : Nat), q < 15 → uM m s j x (o + q) = m (o + q) := fun m j x q hq => funext fun b => uM_n (by omega)
  have qr : ∀ (m : Mm) (j n q : Nat) (f : Nat → Int32), j < 15 → q < 15 → setRow m (s + j) n f (o + q) = m (o + q) := fun m j n q f hj hq => funext fun b => setRow_out (by omega)
  refine X_aload_n 0 1 dX4_copyFrom_0 rfl rfl ?_
  refine X_ifnonnull 1 5 dX4_copyFrom_1 (by decide) ?_
  refine X_aload_n 5 0 dX4_copyFrom_5 rfl rfl ?_
  refine X_aload_n 6 1 dX4_copyFrom_6 rfl rfl ?_
  refine X_getI (f := 0) 7 dX4_copyFrom_7 lf_RX4_9 iw4 vc4 (by decide) (lyS o ho) rfl ?_
  refine X_putI (f := 0) 10 dX4_copyFrom_10 lf_RX4_9 iw4 vc4 (by decide) (lyS s hs) tyX4_ok nmX4 rfl rfl rfl (by decide) rfl rfl ?_
  refine X_aload_n 13 0 dX4_copyFrom_13 rfl rfl ?_
  refine X_aload_n 14 1 dX4_copyFrom_14 rfl rfl ?_
  refine X_getI (f := 1) 15 dX4_copyFrom_15 lf_RX4_15 iw4 vc4 (by decide) (lyS o ho) rfl ?_
  simp only [qo]
  refine X_putI (f := 1) 18 dX4_copyFrom_18 lf_RX4_15 iw4 vc4 (by decide) (lyS s hs) tyX4_ok nmX4 rfl rfl rfl (by decide) rfl rfl ?_
  refine X_aload_n 21 0 dX4_copyFrom_21 rfl rfl ?_
  refine X_aload_n 22 1 dX4_copyFrom_22 rfl rfl ?_
  refine X_getI (f := 2) 23 dX4_copyFrom_23 lf_RX4_49 iw4 vc4 (by decide) (lyS o ho) rfl ?_
  simp only [qo]
  refine X_putI (f := 2) 26 dX4_copyFrom_26 lf_RX4_49 iw4 vc4 (by decide) (lyS s hs) tyX4_ok nmX4 rfl rfl rfl (by decide) rfl rfl ?_
  refine X_aload_n 29 0 dX4_copyFrom_29 rfl rfl ?_
  refine X_aload_n 30 1 dX4_copyFrom_30 rfl rfl ?_
  refine X_getI (f := 3) 31 dX4_copyFrom_31 lf_RX4_52 iw4 vc4 (by decide) (lyS o ho) rfl ?_
  simp only [qo]
  refine X_putI (f := 3) 34 dX4_copyFrom_34 lf_RX4_52 iw4 vc4 (by decide) (lyS s hs) tyX4_ok nmX4 rfl rfl rfl (by decide) rfl rfl ?_
  refine X_aload_n 37 0 dX4_copyFrom_37 rfl rfl ?_
  refine X_aload_n 38 1 dX4_copyFrom_38 rfl rfl ?_
  refine X_getI (f := 4) 39 dX4_copyFrom_39 lf_RX4_55 iw4 vc4 (by decide) (lyS o ho) rfl ?_
  simp only [qo]
  refine X_putI (f := 4) 42 dX4_copyFrom_42 lf_RX4_55 iw4 vc4 (by decide) (lyS s hs) tyX4_ok nmX4 rfl rfl rfl (by decide) rfl rfl ?_
  refine X_aload_n 45 0 dX4_copyFrom_45 rfl rfl ?_
  refine X_aload_n 46 1 dX4_copyFrom_46 rfl rfl ?_
  refine X_getI (f := 5) 47 dX4_copyFrom_47 lf_RX4_58 iw4 vc4 (by decide) (lyS o ho) rfl ?_
  simp only [qo]
  refine X_putI (f := 5) 50 dX4_copyFrom_50 lf_RX4_58 iw4 vc4 (by decide) (lyS s hs) tyX4_ok nmX4 rfl rfl rfl (by decide) rfl rfl ?_
  refine X_aload_n 53 0 dX4_copyFrom_53 rfl rfl ?_
  refine X_getR (f := 7) 54 dX4_copyFrom_54 lf_RX4_27 iw4 vc4 (by decide) (lyS s hs) rfl ?_
  refine X_aload_n 57 1 dX4_copyFrom_57 rfl rfl ?_
  refine X_getR (f := 7) 58 dX4_copyFrom_58 lf_RX4_27 iw4 vc4 (by decide) (lyS o ho) rfl ?_
  refine X_cVV 61 [.ref _] (e_X3_copyFrom ((s + 1)) ((s + 8)) 384 (rS_tg s hs) ((o + 1)) ((o + 8)) 384 (rS_tg o ho) _ (by rfl)) dX4_copyFrom_61 lm_RX4_61 1 ⟨wm_X3_copyFrom, by decide +kernel, rfl, rfl⟩ rfl ⟨Nat.le_of_ble_eq_true rfl, Nat.le_of_ble_eq_true rfl⟩ (rS_tg s hs).1 vc3 rfl rfl (Nat.le_of_ble_eq_true rfl) ?_
  rintro _ rfl
  simp only [qu, qr, Nat.reduceLT]
  refine X_aload_n 64 0 dX4_copyFrom_64 rfl rfl ?_
  refine X_getR (f := 8) 65 dX4_copyFrom_65 lf_RX4_31 iw4 vc4 (by decide) (lyS s hs) rfl ?_
  refine X_aload_n 68 1 dX4_copyFrom_68 rfl rfl ?_
  refine X_getR (f := 8) 69 dX4_copyFrom_69 lf_RX4_31 iw4 vc4 (by decide) (lyS o ho) rfl ?_
  refine X_cVV 72 [.ref _] (e_X3_copyFrom ((s + 2)) ((s + 9)) 8 (rS_gr s hs) ((o + 2)) ((o + 9)) 8 (rS_gr o ho) _ (by rfl)) dX4_copyFrom_72 lm_RX4_61 1 ⟨wm_X3_copyFrom, by decide +kernel, rfl, rfl⟩ rfl ⟨Nat.le_of_ble_eq_true rfl, Nat.le_of_ble_eq_true rfl⟩ (rS_gr s hs).1 vc3 rfl rfl (Nat.le_of_ble_eq_true rfl) ?_
  rintro _ rfl
  simp only [qu, qr, Nat.reduceLT]
  refine X_aload_n 75 0 dX4_copyFrom_75 rfl rfl ?_
  refine X_getR (f := 9) 76 dX4_copyFrom_76 lf_RX4_34 iw4 vc4 (by decide) (lyS s hs) rfl ?_
  refine X_aload_n 79 1 dX4_copyFrom_79 rfl rfl ?_
  refine X_getR (f := 9) 80 dX4_copyFrom_80 lf_RX4_34 iw4 vc4 (by decide) (lyS o ho) rfl ?_
  refine X_cVV 83 [.ref _] (e_X3_copyFrom ((s + 3)) ((s + 10)) 8 (rS_le s hs) ((o + 3)) ((o + 10)) 8 (rS_le o ho) _ (by rfl)) dX4_copyFrom_83 lm_RX4_61 1 ⟨wm_X3_copyFrom, by decide +kernel, rfl, rfl⟩ rfl ⟨Nat.le_of_ble_eq_true rfl, Nat.le_of_ble_eq_true rfl⟩ (rS_le s hs).1 vc3 rfl rfl (Nat.le_of_ble_eq_true rfl) ?_
  rintro _ rfl
  simp only [qu, qr, Nat.reduceLT]
  refine X_aload_n 86 0 dX4_copyFrom_86 rfl rfl ?_
  refine X_getR (f := 10) 87 dX4_copyFrom_87 lf_RX4_37 iw4 vc4 (by decide) (lyS s hs) rfl ?_
  refine X_aload_n 90 1 dX4_copyFrom_90 rfl rfl ?_
  refine X_getR (f := 10) 91 dX4_copyFrom_91 lf_RX4_37 iw4 vc4 (by decide) (lyS o ho) rfl ?_
  refine X_cVV 94 [.ref _] (e_X3_copyFrom ((s + 4)) ((s + 11)) 8 (rS_we s hs) ((o + 4)) ((o + 11)) 8 (rS_we o ho) _ (by rfl)) dX4_copyFrom_94 lm_RX4_61 1 ⟨wm_X3_copyFrom, by decide +kernel, rfl, rfl⟩ rfl ⟨Nat.le_of_ble_eq_true rfl, Nat.le_of_ble_eq_true rfl⟩ (rS_we s hs).1 vc3 rfl rfl (Nat.le_of_ble_eq_true rfl) ?_
  rintro _ rfl
  simp only [qu, qr, Nat.reduceLT]
  refine X_aload_n 97 0 dX4_copyFrom_97 rfl rfl ?_
  refine X_getR (f := 11) 98 dX4_copyFrom_98 lf_RX4_40 iw4 vc4 (by decide) (lyS s hs) rfl ?_
  refine X_aload_n 101 1 dX4_copyFrom_101 rfl rfl ?_
  refine X_getR (f := 11) 102 dX4_copyFrom_102 lf_RX4_40 iw4 vc4 (by decide) (lyS o ho) rfl ?_
  refine X_cVV 105 [.ref _] (e_X3_copyFrom ((s + 5)) ((s + 12)) 8 (rS_wk s hs) ((o + 5)) ((o + 12)) 8 (rS_wk o ho) _ (by rfl)) dX4_copyFrom_105 lm_RX4_61 1 ⟨wm_X3_copyFrom, by decide +kernel, rfl, rfl⟩ rfl ⟨Nat.le_of_ble_eq_true rfl, Nat.le_of_ble_eq_true rfl⟩ (rS_wk s hs).1 vc3 rfl rfl (Nat.le_of_ble_eq_true rfl) ?_
  rintro _ rfl
  simp only [qu, qr, Nat.reduceLT]
  refine X_aload_n 108 0 dX4_copyFrom_108 rfl rfl ?_
  refine X_getR (f := 12) 109 dX4_copyFrom_109 lf_RX4_43 iw4 vc4 (by decide) (lyS s hs) rfl ?_
  refine X_aload_n 112 1 dX4_copyFrom_112 rfl rfl ?_
  refine X_getR (f := 12) 113 dX4_copyFrom_113 lf_RX4_43 iw4 vc4 (by decide) (lyS o ho) rfl ?_
  refine X_cVV 116 [.ref _] (e_X3_copyFrom ((s + 6)) ((s + 13)) 32 (rS_cx s hs) ((o + 6)) ((o + 13)) 32 (rS_cx o ho) _ (by rfl)) dX4_copyFrom_116 lm_RX4_61 1 ⟨wm_X3_copyFrom, by decide +kernel, rfl, rfl⟩ rfl ⟨Nat.le_of_ble_eq_true rfl, Nat.le_of_ble_eq_true rfl⟩ (rS_cx s hs).1 vc3 rfl rfl (Nat.le_of_ble_eq_true rfl) ?_
  rintro _ rfl
  simp only [qu, qr, Nat.reduceLT]
  refine X_aload_n 119 0 dX4_copyFrom_119 rfl rfl ?_
  refine X_getR (f := 13) 120 dX4_copyFrom_120 lf_RX4_46 iw4 vc4 (by decide) (lyS s hs) rfl ?_
  refine X_aload_n 123 1 dX4_copyFrom_123 rfl rfl ?_
  refine X_getR (f := 13) 124 dX4_copyFrom_124 lf_RX4_46 iw4 vc4 (by decide) (lyS o ho) rfl ?_
  refine X_cVV 127 [.ref _] (e_X3_copyFrom ((s + 7)) ((s + 14)) 32 (rS_cy s hs) ((o + 7)) ((o + 14)) 32 (rS_cy o ho) _ (by rfl)) dX4_copyFrom_127 lm_RX4_61 1 ⟨wm_X3_copyFrom, by decide +kernel, rfl, rfl⟩ rfl ⟨Nat.le_of_ble_eq_true rfl, Nat.le_of_ble_eq_true rfl⟩ (rS_cy s hs).1 vc3 rfl rfl (Nat.le_of_ble_eq_true rfl) ?_
  rintro _ rfl
  simp only [qu, qr, Nat.reduceLT]
  refine X_aload_n 130 0 dX4_copyFrom_130 rfl rfl ?_
  refine X_iconst 131 (1) dX4_copyFrom_131 (by decide) ?_
  refine X_putI (f := 6) 132 dX4_copyFrom_132 lf_RX4_18 iw4 vc4 (by decide) (lyS s hs) tyX4_ok nmX4 rfl rfl rfl (by decide) rfl rfl ?_
  refine X_vret 135 dX4_copyFrom_135 rfl ⟨_, rfl, rfl, ?_⟩
  rfl
set_option maxHeartbeats 4000000 in
set_option maxRecDepth 100000 in
theorem e_X1_prepare (d : Nat) (hd : isD d) (s : Nat) (hs : isS s) (z : Int32) (μ : Mm) : EvN ΛC mX1_prepare [.ref d, .ref s, .int z] μ (qV (fun μ' => prepM μ d s z 8 = μ')) := by
  refine EvN_ofQ (by decide +kernel) rfl (fun _ => rfl) (fun _ => Nat.le_of_ble_eq_true rfl) (ls := [(0, .ref d), (1, .ref s), (2, .int z)]) ?_
  have hd75 := isD_ge hd
  refine X_aload_n 0 0 dX1_prepare_0 rfl rfl ?_
  refine X_iload_n 1 2 dX1_prepare_1 rfl rfl ?_
  refine X_putI (f := 4) 2 dX1_prepare_2 lf_RX1_29 iw1 vc1 (by decide) (lyD d hd) tyX1_ok nmX1 rfl rfl rfl (by decide) rfl rfl ?_
  refine X_iconst 5 (0) dX1_prepare_5 (by decide) ?_
  refine X_istore_n 6 [(3, .int _), (0, .ref _), (1, .ref _), (2, .int _)] dX1_prepare_6 rfl (by decide) rfl ?_
  refine X_sub [1, 2, 3, 0] [(0, .ref _), (1, .ref _), (2, .int _), (3, .int _)] rfl ?_
  have L_7 : ∀ (kf : Nat) (i : Nat), i ≤ 8 → 8 < i + kf → ∀ (x7_3 : Int32) (μ7 : Mm), nI i = x7_3 → prepM μ d s z i = μ7 → X false ΛC mX1_prepare (QN (qV (fun μ' => prepM μ d s z 8 = μ'))) 7 [(0, .ref d), (1, .ref s), (2, .int z), (3, .int x7_3)] [] μ7 := by
    intro kf
    induction kf with
    | zero => intro i hp7_0 hp7_1; exfalso; omega
    | succ kf ih_7 =>
      intro i hp7_0 hp7_1 x7_3 μ7
      rintro rfl rfl
      refine X_iload_n 7 3 dX1_prepare_7 rfl rfl ?_
      refine X_bipush 8 (8) dX1_prepare_8 (by decide) ?_
      refine X_icmp_ge 10 49 dX1_prepare_10 (by decide) (fun c_10 => ?_) (fun c_10 => ?_)
      · have hge : 8 ≤ i := c_ge rfl (by decide) (by omega) c_10
        have hie : i = 8 := by omega
        subst hie
        refine X_vret 49 dX1_prepare_49 rfl ⟨_, rfl, rfl, ?_⟩
        rfl
      · have hlt : i < 8 := c_lt rfl (by decide) (by omega) c_10
        refine X_aload_n 13 1 dX1_prepare_13 rfl rfl ?_
        refine X_ifnull 14 dX1_prepare_14 ?_
        refine X_aload_n 17 0 dX1_prepare_17 rfl rfl ?_
        refine X_getR (f := 0) 18 dX1_prepare_18 lf_RX1_14 iw1 vc1 (by decide) (lyD d hd) rfl ?_
        refine X_iload_n 21 3 dX1_prepare_21 rfl rfl ?_
        refine X_aload_n 22 1 dX1_prepare_22 rfl rfl ?_
        refine X_iload_n 23 3 dX1_prepare_23 rfl rfl ?_
        refine X_cVI 24 [.int _] (e_X4_limitOf s hs _ _ (by first | omega | assumption)) dX1_prepare_24 lm_RX1_33 1 ⟨wm_X4_limitOf, by decide +kernel, rfl, rfl⟩ rfl ⟨Nat.le_of_ble_eq_true rfl, Nat.le_of_ble_eq_true rfl⟩ (lyS s hs) vc4 rfl rfl (Nat.le_of_ble_eq_true rfl) ?_
        rintro _ _ ⟨rfl, rfl⟩
        rw [lim_so (prepM_so μ d s z i) hs hd75.1]
        refine X_cVV 27 [.int _, .int _] (e_X3_set ((d + 1)) ((d + 5)) 8 (rD_li d hd) _ _ _) dX1_prepare_27 lm_RX1_39 2 ⟨wm_X3_set, by decide +kernel, rfl, rfl⟩ rfl ⟨Nat.le_of_ble_eq_true rfl, Nat.le_of_ble_eq_true rfl⟩ (rD_li d hd).1 vc3 rfl rfl (Nat.le_of_ble_eq_true rfl) ?_
        rintro _ rfl
        rw [stR_nI hlt (by decide)]
        refine X_aload_n 30 0 dX1_prepare_30 rfl rfl ?_
        refine X_getR (f := 1) 31 dX1_prepare_31 lf_RX1_20 iw1 vc1 (by decide) (lyD d hd) rfl ?_
        refine X_iload_n 34 3 dX1_prepare_34 rfl rfl ?_
        refine X_aload_n 35 1 dX1_prepare_35 rfl rfl ?_
        refine X_iload_n 36 3 dX1_prepare_36 rfl rfl ?_
        refine X_cVI 37 [.int _] (e_X4_floorOf s hs _ _ (by first | omega | assumption)) dX1_prepare_37 lm_RX1_43 1 ⟨wm_X4_floorOf, by decide +kernel, rfl, rfl⟩ rfl ⟨Nat.le_of_ble_eq_true rfl, Nat.le_of_ble_eq_true rfl⟩ (lyS s hs) vc4 rfl rfl (Nat.le_of_ble_eq_true rfl) ?_
        rintro _ _ ⟨rfl, rfl⟩
        rw [flo_so (so_uM (prepM_so μ d s z i) (by omega) (by omega)) hs hd75.1]
        refine X_cVV 40 [.int _, .int _] (e_X3_set ((d + 2)) ((d + 6)) 8 (rD_fl d hd) _ _ _) dX1_prepare_40 lm_RX1_39 2 ⟨wm_X3_set, by decide +kernel, rfl, rfl⟩ rfl ⟨Nat.le_of_ble_eq_true rfl, Nat.le_of_ble_eq_true rfl⟩ (rD_fl d hd).1 vc3 rfl rfl (Nat.le_of_ble_eq_true rfl) ?_
        rintro _ rfl
        rw [stR_nI hlt (by decide)]
        refine X_iinc 43 3 (_ + 1) [(3, .int _), (0, .ref _), (1, .ref _), (2, .int _)] dX1_prepare_43 rfl rfl (by decide) rfl ?_
        refine X_goto 46 7 dX1_prepare_46 (by decide) ?_
        refine X_sub [1, 2, 3, 0] [(0, .ref _), (1, .ref _), (2, .int _), (3, .int _)] rfl ?_
        exact ih_7 (i + 1) (by omega) (by omega) _ _  (by exact (nI_1 i).symm) (by exact (prepM_succ μ d s z i).symm)
  exact L_7 9 0 (by omega) (by omega) _ _  (by exact nI_0) (by exact prepM_0 μ d s z)
set_option maxHeartbeats 4000000 in
set_option maxRecDepth 100000 in
theorem e_X1_shareOut (d : Nat) (hd : isD d) (t : Int32) (μ : Mm) : EvN ΛC mX1_shareOut [.ref d, .int t] μ (qV (fun μ' => shM μ d t = μ')) := by
  refine EvN_ofQ (by decide +kernel) rfl (fun _ => rfl) (fun _ => Nat.le_of_ble_eq_true rfl) (ls := [(0, .ref d), (1, .int t)]) ?_
  refine X_iconst 0 (0) dX1_shareOut_0 (by decide) ?_
  refine X_istore_n 1 [(2, .int _), (0, .ref _), (1, .int _)] dX1_shareOut_1 rfl (by decide) rfl ?_
  refine X_iconst 2 (0) dX1_shareOut_2 (by decide) ?_
  refine X_istore_n 3 [(3, .int _), (2, .int _), (0, .ref _), (1, .int _)] dX1_shareOut_3 rfl (by decide) rfl ?_
  refine X_iconst 4 (0) dX1_shareOut_4 (by decide) ?_
  refine X_istore 5 [(4, .int _), (3, .int _), (2, .int _), (0, .ref _), (1, .int _)] dX1_shareOut_5 (by decide) rfl ?_
  refine X_sub [3, 4, 2, 1, 0] [(0, .ref _), (1, .int _), (2, .int _), (3, .int _), (4, .int _)] rfl ?_
  have L_7 : ∀ (kf : Nat) (i : Nat), i ≤ 8 → 8 < i + kf → ∀ (x7_2 : Int32) (x7_3 : Int32) (x7_4 : Int32), sumN i (μ (d + 7)) = x7_2 → nI (hvN (μ (d + 7)) i) = x7_3 → nI i = x7_4 → X false ΛC mX1_shareOut (QN (qV (fun μ' => shM μ d t = μ'))) 7 [(0, .ref d), (1, .int t), (2, .int x7_2), (3, .int x7_3), (4, .int x7_4)] [] μ := by
    intro kf
    induction kf with
    | zero => intro i hp7_0 hp7_1; exfalso; omega
    | succ kf ih_7 =>
      intro i hp7_0 hp7_1 x7_2 x7_3 x7_4
      rintro rfl rfl rfl
      have hh : hvN (μ (d + 7)) i < 8 := by rcases hvN_lt (μ (d + 7)) i with h | h <;> omega
      refine X_iload 7 4 dX1_shareOut_7 rfl ?_
      refine X_bipush 9 (8) dX1_shareOut_9 (by decide) ?_
      refine X_icmp_ge 11 59 dX1_shareOut_11 (by decide) (fun c_11 => ?_) (fun c_11 => ?_)
      · have hge : 8 ≤ i := c_ge rfl (by decide) (by omega) c_11
        have hie : i = 8 := by omega
        subst hie
        refine X_iload_n 59 2 dX1_shareOut_59 rfl rfl ?_
        refine X_if_gt 60 64 dX1_shareOut_60 (by decide) (fun c_60 => ?_) (fun c_60 => ?_)
        · have c_60n : ¬ sumN 8 (μ (d + 7)) ≤ 0 := Int32.not_le.mpr c_60
          refine X_iload_n 64 1 dX1_shareOut_64 rfl rfl ?_
          refine X_istore 65 [(4, .int _), (0, .ref _), (1, .int _), (2, .int _), (3, .int _)] dX1_shareOut_65 (by decide) rfl ?_
          refine X_iconst 67 (0) dX1_shareOut_67 (by decide) ?_
          refine X_istore 68 [(5, .int _), (4, .int _), (0, .ref _), (1, .int _), (2, .int _), (3, .int _)] dX1_shareOut_68 (by decide) rfl ?_
          refine X_sub [2, 3, 4, 5, 1, 0] [(0, .ref _), (1, .int _), (2, .int _), (3, .int _), (4, .int _), (5, .int _)] rfl ?_
          have L_70 : ∀ (kf : Nat) (i : Nat), i ≤ 8 → 8 < i + kf → ∀ (x70_4 : Int32) (x70_5 : Int32) (μ70 : Mm), misN t (shV (μ (d + 7)) t) i = x70_4 → nI i = x70_5 → setRow μ (d + 8) i (shV (μ (d + 7)) t) = μ70 → X false ΛC mX1_shareOut (QN (qV (fun μ' => shM μ d t = μ'))) 70 [(0, .ref d), (1, .int t), (2, .int (sumN 8 (μ (d + 7)))), (3, .int (nI (hvN (μ (d + 7)) 8))), (4, .int x70_4), (5, .int x70_5)] [] μ70 := by
            intro kf
            induction kf with
            | zero => intro i hp70_0 hp70_1; exfalso; omega
            | succ kf ih_70 =>
              intro i hp70_0 hp70_1 x70_4 x70_5 μ70
              rintro rfl rfl rfl
              refine X_iload 70 5 dX1_shareOut_70 rfl ?_
              refine X_bipush 72 (8) dX1_shareOut_72 (by decide) ?_
              refine X_icmp_ge 74 116 dX1_shareOut_74 (by decide) (fun c_74 => ?_) (fun c_74 => ?_)
              · have hge : 8 ≤ i := c_ge rfl (by decide) (by omega) c_74
                have hie : i = 8 := by omega
                subst hie
                have hh8 : hvN (μ (d + 7)) 8 < 8 := by rcases hvN_lt (μ (d + 7)) 8 with h | h <;> omega
                refine X_aload_n 116 0 dX1_shareOut_116 rfl rfl ?_
                refine X_getR (f := 3) 117 dX1_shareOut_117 lf_RX1_26 iw1 vc1 (by decide) (lyD d hd) rfl ?_
                refine X_iload_n 120 3 dX1_shareOut_120 rfl rfl ?_
                refine X_aload_n 121 0 dX1_shareOut_121 rfl rfl ?_
                refine X_getR (f := 3) 122 dX1_shareOut_122 lf_RX1_26 iw1 vc1 (by decide) (lyD d hd) rfl ?_
                refine X_iload_n 125 3 dX1_shareOut_125 rfl rfl ?_
                refine X_cVI 126 [.int _] (e_X3_get ((d + 4)) ((d + 8)) 8 (rD_lt d hd) _ _) dX1_shareOut_126 lm_RX1_96 1 ⟨wm_X3_get, by decide +kernel, rfl, rfl⟩ rfl ⟨Nat.le_of_ble_eq_true rfl, Nat.le_of_ble_eq_true rfl⟩ (rD_lt d hd).1 vc3 rfl rfl (Nat.le_of_ble_eq_true rfl) ?_
                rintro _ _ ⟨rfl, rfl⟩
                rw [gt_nI hh8 (by decide), setRow_in hh8]
                refine X_iload 129 4 dX1_shareOut_129 rfl ?_
                refine X_iadd 131 dX1_shareOut_131 ?_
                refine X_cVV 132 [.int _, .int _] (e_X3_set ((d + 4)) ((d + 8)) 8 (rD_lt d hd) _ _ _) dX1_shareOut_132 lm_RX1_39 2 ⟨wm_X3_set, by decide +kernel, rfl, rfl⟩ rfl ⟨Nat.le_of_ble_eq_true rfl, Nat.le_of_ble_eq_true rfl⟩ (rD_lt d hd).1 vc3 rfl rfl (Nat.le_of_ble_eq_true rfl) ?_
                rintro _ rfl
                rw [stR_nI hh8 (by decide)]
                refine X_vret 135 dX1_shareOut_135 rfl ⟨_, rfl, rfl, ?_⟩
                first | exact if_neg c_60n | exact if_pos c_60n
              · have hlt : i < 8 := c_lt rfl (by decide) (by omega) c_74
                refine X_iload_n 77 1 dX1_shareOut_77 rfl rfl ?_
                refine X_aload_n 78 0 dX1_shareOut_78 rfl rfl ?_
                refine X_getR (f := 2) 79 dX1_shareOut_79 lf_RX1_23 iw1 vc1 (by decide) (lyD d hd) rfl ?_
                refine X_iload 82 5 dX1_shareOut_82 rfl ?_
                refine X_cVI 84 [.int _] (e_X3_get ((d + 3)) ((d + 7)) 8 (rD_wt d hd) _ _) dX1_shareOut_84 lm_RX1_96 1 ⟨wm_X3_get, by decide +kernel, rfl, rfl⟩ rfl ⟨Nat.le_of_ble_eq_true rfl, Nat.le_of_ble_eq_true rfl⟩ (rD_wt d hd).1 vc3 rfl rfl (Nat.le_of_ble_eq_true rfl) ?_
                rintro _ _ ⟨rfl, rfl⟩
                rw [gt_nI hlt (by decide), setRow_out (by omega)]
                refine X_imul 87 dX1_shareOut_87 ?_
                refine X_iload_n 88 2 dX1_shareOut_88 rfl rfl ?_
                refine X_idiv 89 dX1_shareOut_89 (ne_of_pos c_60n) ?_
                refine X_istore 90 [(6, .int _), (0, .ref _), (1, .int _), (2, .int _), (3, .int _), (4, .int _), (5, .int _)] dX1_shareOut_90 (by decide) rfl ?_
                refine X_aload_n 92 1 dX1_shareOut_92 rfl rfl ?_
                refine X_getR (f := 3) 93 dX1_shareOut_93 lf_RX1_26 iw1 vc1 (by decide) (lyD d hd) rfl ?_
                refine X_iload 96 6 dX1_shareOut_96 rfl ?_
                refine X_iload 98 0 dX1_shareOut_98 rfl ?_
                refine X_cVV 100 [.int _, .int _] (e_X3_set ((d + 4)) ((d + 8)) 8 (rD_lt d hd) _ _ _) dX1_shareOut_100 lm_RX1_39 2 ⟨wm_X3_set, by decide +kernel, rfl, rfl⟩ rfl ⟨Nat.le_of_ble_eq_true rfl, Nat.le_of_ble_eq_true rfl⟩ (rD_lt d hd).1 vc3 rfl rfl (Nat.le_of_ble_eq_true rfl) ?_
                rintro _ rfl
                rw [stR_nI hlt (by decide)]
                refine X_iload 103 5 dX1_shareOut_103 rfl ?_
                refine X_iload 105 0 dX1_shareOut_105 rfl ?_
                refine X_isub 107 dX1_shareOut_107 ?_
                refine X_istore 108 [(4, .int _), (6, .int _), (0, .ref _), (1, .int _), (2, .int _), (3, .int _), (5, .int _)] dX1_shareOut_108 (by decide) rfl ?_
                refine X_iinc 110 6 (_ + 1) [(5, .int _), (4, .int _), (6, .int _), (0, .ref _), (1, .int _), (2, .int _), (3, .int _)] dX1_shareOut_110 rfl rfl (by decide) rfl ?_
                refine X_goto 113 70 dX1_shareOut_113 (by decide) ?_
                refine X_sub [3, 4, 5, 6, 1, 0] [(0, .ref _), (1, .int _), (2, .int _), (3, .int _), (4, .int _), (5, .int _)] rfl ?_
                exact ih_70 (i + 1) (by omega) (by omega) _ _ _  (by rfl) (by exact (nI_1 i).symm) (by exact (setRow_succ μ (d + 8) i _).symm)
          exact L_70 9 0 (by omega) (by omega) _ _ _  (by rfl) (by exact nI_0) (by exact setRow_0 _ _ _)
        · have c_60n : sumN 8 (μ (d + 7)) ≤ 0 := Int32.not_lt.mp c_60
          refine X_vret 63 dX1_shareOut_63 rfl ⟨_, rfl, rfl, ?_⟩
          first | exact if_neg c_60n | exact if_pos c_60n
      · have hlt : i < 8 := c_lt rfl (by decide) (by omega) c_11
        refine X_iload_n 14 2 dX1_shareOut_14 rfl rfl ?_
        refine X_aload_n 15 0 dX1_shareOut_15 rfl rfl ?_
        refine X_getR (f := 2) 16 dX1_shareOut_16 lf_RX1_23 iw1 vc1 (by decide) (lyD d hd) rfl ?_
        refine X_iload 19 4 dX1_shareOut_19 rfl ?_
        refine X_cVI 21 [.int _] (e_X3_get ((d + 3)) ((d + 7)) 8 (rD_wt d hd) _ _) dX1_shareOut_21 lm_RX1_96 1 ⟨wm_X3_get, by decide +kernel, rfl, rfl⟩ rfl ⟨Nat.le_of_ble_eq_true rfl, Nat.le_of_ble_eq_true rfl⟩ (rD_wt d hd).1 vc3 rfl rfl (Nat.le_of_ble_eq_true rfl) ?_
        rintro _ _ ⟨rfl, rfl⟩
        rw [gt_nI (by omega) (by decide)]
        refine X_iadd 24 dX1_shareOut_24 ?_
        refine X_istore_n 25 [(2, .int _), (0, .ref _), (1, .int _), (3, .int _), (4, .int _)] dX1_shareOut_25 rfl (by decide) rfl ?_
        refine X_aload_n 26 1 dX1_shareOut_26 rfl rfl ?_
        refine X_getR (f := 2) 27 dX1_shareOut_27 lf_RX1_23 iw1 vc1 (by decide) (lyD d hd) rfl ?_
        refine X_iload 30 4 dX1_shareOut_30 rfl ?_
        refine X_cVI 32 [.int _] (e_X3_get ((d + 3)) ((d + 7)) 8 (rD_wt d hd) _ _) dX1_shareOut_32 lm_RX1_96 1 ⟨wm_X3_get, by decide +kernel, rfl, rfl⟩ rfl ⟨Nat.le_of_ble_eq_true rfl, Nat.le_of_ble_eq_true rfl⟩ (rD_wt d hd).1 vc3 rfl rfl (Nat.le_of_ble_eq_true rfl) ?_
        rintro _ _ ⟨rfl, rfl⟩
        rw [gt_nI (by omega) (by decide)]
        refine X_aload_n 35 1 dX1_shareOut_35 rfl rfl ?_
        refine X_getR (f := 2) 36 dX1_shareOut_36 lf_RX1_23 iw1 vc1 (by decide) (lyD d hd) rfl ?_
        refine X_iload_n 39 3 dX1_shareOut_39 rfl rfl ?_
        refine X_cVI 40 [.int _] (e_X3_get ((d + 3)) ((d + 7)) 8 (rD_wt d hd) _ _) dX1_shareOut_40 lm_RX1_96 1 ⟨wm_X3_get, by decide +kernel, rfl, rfl⟩ rfl ⟨Nat.le_of_ble_eq_true rfl, Nat.le_of_ble_eq_true rfl⟩ (rD_wt d hd).1 vc3 rfl rfl (Nat.le_of_ble_eq_true rfl) ?_
        rintro _ _ ⟨rfl, rfl⟩
        rw [gt_nI (by omega) (by decide)]
        refine X_icmp_le 43 51 dX1_shareOut_43 (by decide) (fun c_43 => ?_) (fun c_43 => ?_)
        · refine X_iload_n 51 3 dX1_shareOut_51 rfl rfl ?_
          refine X_istore_n 52 [(3, .int _), (2, .int _), (0, .ref _), (1, .int _), (4, .int _)] dX1_shareOut_52 rfl (by decide) rfl ?_
          refine X_iinc 53 4 (_ + 1) [(4, .int _), (3, .int _), (2, .int _), (0, .ref _), (1, .int _)] dX1_shareOut_53 rfl rfl (by decide) rfl ?_
          refine X_goto 56 7 dX1_shareOut_56 (by decide) ?_
          refine X_sub [3, 4, 2, 1, 0] [(0, .ref _), (1, .int _), (2, .int _), (3, .int _), (4, .int _)] rfl ?_
          exact ih_7 (i + 1) (by omega) (by omega) _ _ _  (by rfl) (by (first | exact congrArg nI (if_pos c_43) | exact congrArg nI (if_neg c_43))) (by exact (nI_1 i).symm)
        · refine X_iload 46 4 dX1_shareOut_46 rfl ?_
          refine X_goto 48 52 dX1_shareOut_48 (by decide) ?_
          refine X_istore_n 52 [(3, .int _), (2, .int _), (0, .ref _), (1, .int _), (4, .int _)] dX1_shareOut_52 rfl (by decide) rfl ?_
          refine X_iinc 53 4 (_ + 1) [(4, .int _), (3, .int _), (2, .int _), (0, .ref _), (1, .int _)] dX1_shareOut_53 rfl rfl (by decide) rfl ?_
          refine X_goto 56 7 dX1_shareOut_56 (by decide) ?_
          refine X_sub [3, 4, 2, 1, 0] [(0, .ref _), (1, .int _), (2, .int _), (3, .int _), (4, .int _)] rfl ?_
          exact ih_7 (i + 1) (by omega) (by omega) _ _ _  (by rfl) (by (first | exact congrArg nI (if_pos c_43) | exact congrArg nI (if_neg c_43))) (by exact (nI_1 i).symm)
  exact L_7 9 0 (by omega) (by omega) _ _ _  (by rfl) (by exact nI_0) (by exact nI_0)
set_option maxHeartbeats 4000000 in
set_option maxRecDepth 100000 in
theorem e_X1_keepToLimits (d : Nat) (hd : isD d) (μ : Mm) : EvN ΛC mX1_keepToLimits [.ref d] μ (qV (fun μ' => klM μ d = μ')) := by
  refine EvN_ofQ (by decide +kernel) rfl (fun _ => rfl) (fun _ => Nat.le_of_ble_eq_true rfl) (ls := [(0, .ref d)]) ?_
  refine X_iconst 0 (0) dX1_keepToLimits_0 (by decide) ?_
  refine X_istore_n 1 [(1, .int _), (0, .ref _)] dX1_keepToLimits_1 rfl (by decide) rfl ?_
  refine X_sub [1, 0] [(0, .ref _), (1, .int _)] rfl ?_
  have L_2 : ∀ (kf : Nat) (i : Nat), i ≤ 8 → 8 < i + kf → ∀ (x2_1 : Int32) (μ2 : Mm), nI i = x2_1 → setRow μ (d + 8) i (l2V (μ d 5) (μ (d + 5)) (μ (d + 6)) (μ (d + 8))) = μ2 → X false ΛC mX1_keepToLimits (QN (qV (fun μ' => klM μ d = μ'))) 2 [(0, .ref d), (1, .int x2_1)] [] μ2 := by
    intro kf
    induction kf with
    | zero => intro i hp2_0 hp2_1; exfalso; omega
    | succ kf ih_2 =>
      intro i hp2_0 hp2_1 x2_1 μ2
      rintro rfl rfl
      refine X_iload_n 2 1 dX1_keepToLimits_2 rfl rfl ?_
      refine X_bipush 3 (8) dX1_keepToLimits_3 (by decide) ?_
      refine X_icmp_ge 5 63 dX1_keepToLimits_5 (by decide) (fun c_5 => ?_) (fun c_5 => ?_)
      · have hge : 8 ≤ i := c_ge rfl (by decide) (by omega) c_5
        have hie : i = 8 := by omega
        subst hie
        refine X_vret 63 dX1_keepToLimits_63 rfl ⟨_, rfl, rfl, ?_⟩
        rfl
      · have hlt : i < 8 := c_lt rfl (by decide) (by omega) c_5
        refine X_iload_n 8 1 dX1_keepToLimits_8 rfl rfl ?_
        refine X_aload_n 9 0 dX1_keepToLimits_9 rfl rfl ?_
        refine X_getI (f := 5) 10 dX1_keepToLimits_10 lf_RX1_73 iw1 vc1 (by decide) (lyD d hd) rfl ?_
        rw [setRow_out (by omega : ¬ (d = d + 8 ∧ 5 < i))]
        refine X_cSI 13 [.int _, .int _] (e_X6_isIn _ _ _) dX1_keepToLimits_13 lm_RX1_76 2 ⟨wm_X6_isIn, by decide +kernel, rfl, rfl⟩ rfl ⟨Nat.le_of_ble_eq_true rfl, Nat.le_of_ble_eq_true rfl⟩ rfl (Nat.le_of_ble_eq_true rfl) ?_
        rintro _ _ ⟨rfl, ⟨rfl, b_13⟩ | ⟨rfl, b_13⟩⟩
        · refine X_if_eq 16 57 dX1_keepToLimits_16 (by decide) (fun c_0 => by exact absurd c_0 (by decide)) (fun _ => ?_)
          refine X_aload_n 19 0 dX1_keepToLimits_19 rfl rfl ?_
          refine X_getR (f := 3) 20 dX1_keepToLimits_20 lf_RX1_26 iw1 vc1 (by decide) (lyD d hd) rfl ?_
          refine X_iload_n 23 1 dX1_keepToLimits_23 rfl rfl ?_
          refine X_aload_n 24 0 dX1_keepToLimits_24 rfl rfl ?_
          refine X_getR (f := 1) 25 dX1_keepToLimits_25 lf_RX1_20 iw1 vc1 (by decide) (lyD d hd) rfl ?_
          refine X_iload_n 28 1 dX1_keepToLimits_28 rfl rfl ?_
          refine X_cVI 29 [.int _] (e_X3_get ((d + 2)) ((d + 6)) 8 (rD_fl d hd) _ _) dX1_keepToLimits_29 lm_RX1_96 1 ⟨wm_X3_get, by decide +kernel, rfl, rfl⟩ rfl ⟨Nat.le_of_ble_eq_true rfl, Nat.le_of_ble_eq_true rfl⟩ (rD_fl d hd).1 vc3 rfl rfl (Nat.le_of_ble_eq_true rfl) ?_
          rintro _ _ ⟨rfl, rfl⟩
          rw [gt_nI hlt (by decide), setRow_out (by omega)]
          refine X_aload_n 32 0 dX1_keepToLimits_32 rfl rfl ?_
          refine X_getR (f := 0) 33 dX1_keepToLimits_33 lf_RX1_14 iw1 vc1 (by decide) (lyD d hd) rfl ?_
          refine X_iload_n 36 1 dX1_keepToLimits_36 rfl rfl ?_
          refine X_cVI 37 [.int _] (e_X3_get ((d + 1)) ((d + 5)) 8 (rD_li d hd) _ _) dX1_keepToLimits_37 lm_RX1_96 1 ⟨wm_X3_get, by decide +kernel, rfl, rfl⟩ rfl ⟨Nat.le_of_ble_eq_true rfl, Nat.le_of_ble_eq_true rfl⟩ (rD_li d hd).1 vc3 rfl rfl (Nat.le_of_ble_eq_true rfl) ?_
          rintro _ _ ⟨rfl, rfl⟩
          rw [gt_nI hlt (by decide), setRow_out (by omega)]
          refine X_aload_n 40 0 dX1_keepToLimits_40 rfl rfl ?_
          refine X_getR (f := 3) 41 dX1_keepToLimits_41 lf_RX1_26 iw1 vc1 (by decide) (lyD d hd) rfl ?_
          refine X_iload_n 44 1 dX1_keepToLimits_44 rfl rfl ?_
          refine X_cVI 45 [.int _] (e_X3_get ((d + 4)) ((d + 8)) 8 (rD_lt d hd) _ _) dX1_keepToLimits_45 lm_RX1_96 1 ⟨wm_X3_get, by decide +kernel, rfl, rfl⟩ rfl ⟨Nat.le_of_ble_eq_true rfl, Nat.le_of_ble_eq_true rfl⟩ (rD_lt d hd).1 vc3 rfl rfl (Nat.le_of_ble_eq_true rfl) ?_
          rintro _ _ ⟨rfl, rfl⟩
          rw [gt_nI hlt (by decide), setRow_out (by omega)]
          refine X_mmin 48 dX1_keepToLimits_48 kw_570 kw_374 kw_42 kw_375 ⟨Nat.le_of_ble_eq_true rfl, Nat.le_of_ble_eq_true rfl⟩ ?_
          refine X_mmax 51 dX1_keepToLimits_51 kw_571 kw_572 kw_42 kw_573 ⟨Nat.le_of_ble_eq_true rfl, Nat.le_of_ble_eq_true rfl⟩ ?_
          refine X_cVV 54 [.int _, .int _] (e_X3_set ((d + 4)) ((d + 8)) 8 (rD_lt d hd) _ _ _) dX1_keepToLimits_54 lm_RX1_39 2 ⟨wm_X3_set, by decide +kernel, rfl, rfl⟩ rfl ⟨Nat.le_of_ble_eq_true rfl, Nat.le_of_ble_eq_true rfl⟩ (rD_lt d hd).1 vc3 rfl rfl (Nat.le_of_ble_eq_true rfl) ?_
          rintro _ rfl
          rw [stR_nI hlt (by decide)]
          refine X_iinc 57 1 (_ + 1) [(1, .int _), (0, .ref _)] dX1_keepToLimits_57 rfl rfl (by decide) rfl ?_
          refine X_goto 60 2 dX1_keepToLimits_60 (by decide) ?_
          refine X_sub [1, 0] [(0, .ref _), (1, .int _)] rfl ?_
          exact ih_2 (i + 1) (by omega) (by omega) _ _  (by exact (nI_1 i).symm) (by (first | exact setRow_keep (if_neg b_13) | exact (setRow_succ μ (d + 8) i _).symm.trans (congrArg (uM _ (d + 8) i) (if_pos b_13))))
        · refine X_if_eq 16 57 dX1_keepToLimits_16 (by decide) (fun _ => ?_) (fun c_0 => by exact absurd c_0 (by decide))
          refine X_iinc 57 1 (_ + 1) [(1, .int _), (0, .ref _)] dX1_keepToLimits_57 rfl rfl (by decide) rfl ?_
          refine X_goto 60 2 dX1_keepToLimits_60 (by decide) ?_
          refine X_sub [1, 0] [(0, .ref _), (1, .int _)] rfl ?_
          exact ih_2 (i + 1) (by omega) (by omega) _ _  (by exact (nI_1 i).symm) (by (first | exact setRow_keep (if_neg b_13) | exact (setRow_succ μ (d + 8) i _).symm.trans (congrArg (uM _ (d + 8) i) (if_pos b_13))))
  exact L_2 9 0 (by omega) (by omega) _ _  (by exact nI_0) (by exact setRow_0 _ _ _)
set_option maxHeartbeats 4000000 in
set_option maxRecDepth 100000 in
theorem e_X1_balance (d : Nat) (hd : isD d) (t : Int32) (μ : Mm) : EvN ΛC mX1_balance [.ref d, .int t] μ (qV (fun μ' => baM μ d t = μ')) := by
  refine EvN_ofQ (by decide +kernel) rfl (fun _ => rfl) (fun _ => Nat.le_of_ble_eq_true rfl) (ls := [(0, .ref d), (1, .int t)]) ?_
  refine X_iload_n 0 1 dX1_balance_0 rfl rfl ?_
  refine X_istore_n 1 [(2, .int _), (0, .ref _), (1, .int _)] dX1_balance_1 rfl (by decide) rfl ?_
  refine X_iconst 2 (0) dX1_balance_2 (by decide) ?_
  refine X_istore_n 3 [(3, .int _), (2, .int _), (0, .ref _), (1, .int _)] dX1_balance_3 rfl (by decide) rfl ?_
  refine X_sub [2, 3, 1, 0] [(0, .ref _), (1, .int _), (2, .int _), (3, .int _)] rfl ?_
  have L_4 : ∀ (kf : Nat) (i : Nat), i ≤ 8 → 8 < i + kf → ∀ (x4_2 : Int32) (x4_3 : Int32), misN t (μ (d + 8)) i = x4_2 → nI i = x4_3 → X false ΛC mX1_balance (QN (qV (fun μ' => baM μ d t = μ'))) 4 [(0, .ref d), (1, .int t), (2, .int x4_2), (3, .int x4_3)] [] μ := by
    intro kf
    induction kf with
    | zero => intro i hp4_0 hp4_1; exfalso; omega
    | succ kf ih_4 =>
      intro i hp4_0 hp4_1 x4_2 x4_3
      rintro rfl rfl
      refine X_iload_n 4 3 dX1_balance_4 rfl rfl ?_
      refine X_bipush 5 (8) dX1_balance_5 (by decide) ?_
      refine X_icmp_ge 7 27 dX1_balance_7 (by decide) (fun c_7 => ?_) (fun c_7 => ?_)
      · have hge : 8 ≤ i := c_ge rfl (by decide) (by omega) c_7
        have hie : i = 8 := by omega
        subst hie
        refine X_iconst 27 (0) dX1_balance_27 (by decide) ?_
        refine X_istore_n 28 [(3, .int _), (0, .ref _), (1, .int _), (2, .int _)] dX1_balance_28 rfl (by decide) rfl ?_
        refine X_sub [1, 2, 3, 0] [(0, .ref _), (1, .int _), (2, .int _), (3, .int _)] rfl ?_
        have L_29 : ∀ (kf : Nat) (i : Nat), i ≤ 8 → 8 < i + kf → ∀ (x29_2 : Int32) (x29_3 : Int32) (μ29 : Mm), bmV (μ d 5) (μ (d + 5)) (μ (d + 6)) (μ (d + 8)) (misN t (μ (d + 8)) 8) i = x29_2 → nI i = x29_3 → setRow μ (d + 8) i (nlV (μ d 5) (μ (d + 5)) (μ (d + 6)) (μ (d + 8)) (misN t (μ (d + 8)) 8)) = μ29 → X false ΛC mX1_balance (QN (qV (fun μ' => baM μ d t = μ'))) 29 [(0, .ref d), (1, .int t), (2, .int x29_2), (3, .int x29_3)] [] μ29 := by
          intro kf
          induction kf with
          | zero => intro i hp29_0 hp29_1; exfalso; omega
          | succ kf ih_29 =>
            intro i hp29_0 hp29_1 x29_2 x29_3 μ29
            rintro rfl rfl rfl
            refine X_iload_n 29 3 dX1_balance_29 rfl rfl ?_
            refine X_bipush 30 (8) dX1_balance_30 (by decide) ?_
            refine X_icmp_ge 32 119 dX1_balance_32 (by decide) (fun c_32 => ?_) (fun c_32 => ?_)
            · have hge : 8 ≤ i := c_ge rfl (by decide) (by omega) c_32
              have hie : i = 8 := by omega
              subst hie
              refine X_aload_n 119 0 dX1_balance_119 rfl rfl ?_
              refine X_iload_n 120 1 dX1_balance_120 rfl rfl ?_
              refine X_iload_n 121 2 dX1_balance_121 rfl rfl ?_
              refine X_isub 122 dX1_balance_122 ?_
              refine X_putI (f := 6) 123 dX1_balance_123 lf_RX1_107 iw1 vc1 (by decide) (lyD d hd) tyX1_ok nmX1 rfl rfl rfl (by decide) rfl rfl ?_
              refine X_vret 126 dX1_balance_126 rfl ⟨_, rfl, rfl, ?_⟩
              rfl
            · have hlt : i < 8 := c_lt rfl (by decide) (by omega) c_32
              refine X_iload_n 35 3 dX1_balance_35 rfl rfl ?_
              refine X_aload_n 36 0 dX1_balance_36 rfl rfl ?_
              refine X_getI (f := 5) 37 dX1_balance_37 lf_RX1_73 iw1 vc1 (by decide) (lyD d hd) rfl ?_
              rw [setRow_out (by omega : ¬ (d = d + 8 ∧ 5 < i))]
              refine X_cSI 40 [.int _, .int _] (e_X6_isIn _ _ _) dX1_balance_40 lm_RX1_76 2 ⟨wm_X6_isIn, by decide +kernel, rfl, rfl⟩ rfl ⟨Nat.le_of_ble_eq_true rfl, Nat.le_of_ble_eq_true rfl⟩ rfl (Nat.le_of_ble_eq_true rfl) ?_
              rintro _ _ ⟨rfl, ⟨rfl, b_40⟩ | ⟨rfl, b_40⟩⟩
              · refine X_if_eq 43 113 dX1_balance_43 (by decide) (fun c_0 => by exact absurd c_0 (by decide)) (fun _ => ?_)
                refine X_aload_n 46 0 dX1_balance_46 rfl rfl ?_
                refine X_getR (f := 3) 47 dX1_balance_47 lf_RX1_26 iw1 vc1 (by decide) (lyD d hd) rfl ?_
                refine X_iload_n 50 3 dX1_balance_50 rfl rfl ?_
                refine X_cVI 51 [.int _] (e_X3_get ((d + 4)) ((d + 8)) 8 (rD_lt d hd) _ _) dX1_balance_51 lm_RX1_96 1 ⟨wm_X3_get, by decide +kernel, rfl, rfl⟩ rfl ⟨Nat.le_of_ble_eq_true rfl, Nat.le_of_ble_eq_true rfl⟩ (rD_lt d hd).1 vc3 rfl rfl (Nat.le_of_ble_eq_true rfl) ?_
                rintro _ _ ⟨rfl, rfl⟩
                rw [gt_nI hlt (by decide), setRow_out (by omega)]
                refine X_istore 54 [(4, .int _), (0, .ref _), (1, .int _), (2, .int _), (3, .int _)] dX1_balance_54 (by decide) rfl ?_
                refine X_iload_n 56 3 dX1_balance_56 rfl rfl ?_
                refine X_if_le 57 78 dX1_balance_57 (by decide) (fun c_57 => ?_) (fun c_57 => ?_)
                · have c_57n := c_57
                  refine X_iload_n 78 3 dX1_balance_78 rfl rfl ?_
                  refine X_aload_n 79 1 dX1_balance_79 rfl rfl ?_
                  refine X_getR (f := 1) 80 dX1_balance_80 lf_RX1_20 iw1 vc1 (by decide) (lyD d hd) rfl ?_
                  refine X_iload_n 83 4 dX1_balance_83 rfl rfl ?_
                  refine X_cVI 84 [.int _] (e_X3_get ((d + 2)) ((d + 6)) 8 (rD_fl d hd) _ _) dX1_balance_84 lm_RX1_96 1 ⟨wm_X3_get, by decide +kernel, rfl, rfl⟩ rfl ⟨Nat.le_of_ble_eq_true rfl, Nat.le_of_ble_eq_true rfl⟩ (rD_fl d hd).1 vc3 rfl rfl (Nat.le_of_ble_eq_true rfl) ?_
                  rintro _ _ ⟨rfl, rfl⟩
                  rw [gt_nI hlt (by decide), setRow_out (by omega)]
                  refine X_iload 87 0 dX1_balance_87 rfl ?_
                  refine X_isub 89 dX1_balance_89 ?_
                  refine X_mmax 90 dX1_balance_90 kw_571 kw_572 kw_42 kw_573 ⟨Nat.le_of_ble_eq_true rfl, Nat.le_of_ble_eq_true rfl⟩ ?_
                  refine X_istore 93 [(5, .int _), (4, .int _), (0, .ref _), (1, .int _), (2, .int _), (3, .int _)] dX1_balance_93 (by decide) rfl ?_
                  refine X_aload_n 95 2 dX1_balance_95 rfl rfl ?_
                  refine X_getR (f := 3) 96 dX1_balance_96 lf_RX1_26 iw1 vc1 (by decide) (lyD d hd) rfl ?_
                  refine X_iload_n 99 5 dX1_balance_99 rfl rfl ?_
                  refine X_iload 100 1 dX1_balance_100 rfl ?_
                  refine X_iload 102 0 dX1_balance_102 rfl ?_
                  refine X_iadd 104 dX1_balance_104 ?_
                  refine X_cVV 105 [.int _, .int _] (e_X3_set ((d + 4)) ((d + 8)) 8 (rD_lt d hd) _ _ _) dX1_balance_105 lm_RX1_39 2 ⟨wm_X3_set, by decide +kernel, rfl, rfl⟩ rfl ⟨Nat.le_of_ble_eq_true rfl, Nat.le_of_ble_eq_true rfl⟩ (rD_lt d hd).1 vc3 rfl rfl (Nat.le_of_ble_eq_true rfl) ?_
                  rintro _ rfl
                  rw [stR_nI hlt (by decide)]
                  refine X_iload_n 108 4 dX1_balance_108 rfl rfl ?_
                  refine X_iload 109 0 dX1_balance_109 rfl ?_
                  refine X_isub 111 dX1_balance_111 ?_
                  refine X_istore_n 112 [(2, .int _), (5, .int _), (4, .int _), (0, .ref _), (1, .int _), (3, .int _)] dX1_balance_112 rfl (by decide) rfl ?_
                  refine X_iinc 113 5 (_ + 1) [(3, .int _), (2, .int _), (5, .int _), (4, .int _), (0, .ref _), (1, .int _)] dX1_balance_113 rfl rfl (by decide) rfl ?_
                  refine X_goto 116 29 dX1_balance_116 (by decide) ?_
                  refine X_sub [4, 5, 1, 0] [(0, .ref _), (1, .int _), (2, .int _), (3, .int _)] rfl ?_
                  exact ih_29 (i + 1) (by omega) (by omega) _ _ _  (by (first | exact (if_pos b_40).trans (congrArg (bmV (μ d 5) (μ (d + 5)) (μ (d + 6)) (μ (d + 8)) (misN t (μ (d + 8)) 8) i - ·) (if_pos c_57n)) | exact (if_pos b_40).trans (congrArg (bmV (μ d 5) (μ (d + 5)) (μ (d + 6)) (μ (d + 8)) (misN t (μ (d + 8)) 8) i - ·) (if_neg c_57n)) | exact if_neg b_40)) (by exact (nI_1 i).symm) (by (first | exact setRow_keep (if_neg b_40) | exact (setRow_succ μ (d + 8) i _).symm.trans (congrArg (uM _ (d + 8) i) ((if_pos b_40).trans (congrArg (μ (d + 8) i + ·) (if_pos c_57n)))) | exact (setRow_succ μ (d + 8) i _).symm.trans (congrArg (uM _ (d + 8) i) ((if_pos b_40).trans (congrArg (μ (d + 8) i + ·) (if_neg c_57n))))))
                · have c_57n := c_57
                  refine X_iload_n 60 3 dX1_balance_60 rfl rfl ?_
                  refine X_aload_n 61 1 dX1_balance_61 rfl rfl ?_
                  refine X_getR (f := 0) 62 dX1_balance_62 lf_RX1_14 iw1 vc1 (by decide) (lyD d hd) rfl ?_
                  refine X_iload_n 65 4 dX1_balance_65 rfl rfl ?_
                  refine X_cVI 66 [.int _] (e_X3_get ((d + 1)) ((d + 5)) 8 (rD_li d hd) _ _) dX1_balance_66 lm_RX1_96 1 ⟨wm_X3_get, by decide +kernel, rfl, rfl⟩ rfl ⟨Nat.le_of_ble_eq_true rfl, Nat.le_of_ble_eq_true rfl⟩ (rD_li d hd).1 vc3 rfl rfl (Nat.le_of_ble_eq_true rfl) ?_
                  rintro _ _ ⟨rfl, rfl⟩
                  rw [gt_nI hlt (by decide), setRow_out (by omega)]
                  refine X_iload 69 0 dX1_balance_69 rfl ?_
                  refine X_isub 71 dX1_balance_71 ?_
                  refine X_mmin 72 dX1_balance_72 kw_570 kw_374 kw_42 kw_375 ⟨Nat.le_of_ble_eq_true rfl, Nat.le_of_ble_eq_true rfl⟩ ?_
                  refine X_goto 75 93 dX1_balance_75 (by decide) ?_
                  refine X_istore 93 [(5, .int _), (4, .int _), (0, .ref _), (1, .int _), (2, .int _), (3, .int _)] dX1_balance_93 (by decide) rfl ?_
                  refine X_aload_n 95 2 dX1_balance_95 rfl rfl ?_
                  refine X_getR (f := 3) 96 dX1_balance_96 lf_RX1_26 iw1 vc1 (by decide) (lyD d hd) rfl ?_
                  refine X_iload_n 99 5 dX1_balance_99 rfl rfl ?_
                  refine X_iload 100 1 dX1_balance_100 rfl ?_
                  refine X_iload 102 0 dX1_balance_102 rfl ?_
                  refine X_iadd 104 dX1_balance_104 ?_
                  refine X_cVV 105 [.int _, .int _] (e_X3_set ((d + 4)) ((d + 8)) 8 (rD_lt d hd) _ _ _) dX1_balance_105 lm_RX1_39 2 ⟨wm_X3_set, by decide +kernel, rfl, rfl⟩ rfl ⟨Nat.le_of_ble_eq_true rfl, Nat.le_of_ble_eq_true rfl⟩ (rD_lt d hd).1 vc3 rfl rfl (Nat.le_of_ble_eq_true rfl) ?_
                  rintro _ rfl
                  rw [stR_nI hlt (by decide)]
                  refine X_iload_n 108 4 dX1_balance_108 rfl rfl ?_
                  refine X_iload 109 0 dX1_balance_109 rfl ?_
                  refine X_isub 111 dX1_balance_111 ?_
                  refine X_istore_n 112 [(2, .int _), (5, .int _), (4, .int _), (0, .ref _), (1, .int _), (3, .int _)] dX1_balance_112 rfl (by decide) rfl ?_
                  refine X_iinc 113 5 (_ + 1) [(3, .int _), (2, .int _), (5, .int _), (4, .int _), (0, .ref _), (1, .int _)] dX1_balance_113 rfl rfl (by decide) rfl ?_
                  refine X_goto 116 29 dX1_balance_116 (by decide) ?_
                  refine X_sub [4, 5, 1, 0] [(0, .ref _), (1, .int _), (2, .int _), (3, .int _)] rfl ?_
                  exact ih_29 (i + 1) (by omega) (by omega) _ _ _  (by (first | exact (if_pos b_40).trans (congrArg (bmV (μ d 5) (μ (d + 5)) (μ (d + 6)) (μ (d + 8)) (misN t (μ (d + 8)) 8) i - ·) (if_pos c_57n)) | exact (if_pos b_40).trans (congrArg (bmV (μ d 5) (μ (d + 5)) (μ (d + 6)) (μ (d + 8)) (misN t (μ (d + 8)) 8) i - ·) (if_neg c_57n)) | exact if_neg b_40)) (by exact (nI_1 i).symm) (by (first | exact setRow_keep (if_neg b_40) | exact (setRow_succ μ (d + 8) i _).symm.trans (congrArg (uM _ (d + 8) i) ((if_pos b_40).trans (congrArg (μ (d + 8) i + ·) (if_pos c_57n)))) | exact (setRow_succ μ (d + 8) i _).symm.trans (congrArg (uM _ (d + 8) i) ((if_pos b_40).trans (congrArg (μ (d + 8) i + ·) (if_neg c_57n))))))
              · refine X_if_eq 43 113 dX1_balance_43 (by decide) (fun _ => ?_) (fun c_0 => by exact absurd c_0 (by decide))
                refine X_iinc 113 3 (_ + 1) [(3, .int _), (0, .ref _), (1, .int _), (2, .int _)] dX1_balance_113 rfl rfl (by decide) rfl ?_
                refine X_goto 116 29 dX1_balance_116 (by decide) ?_
                refine X_sub [1, 2, 3, 0] [(0, .ref _), (1, .int _), (2, .int _), (3, .int _)] rfl ?_
                exact ih_29 (i + 1) (by omega) (by omega) _ _ _  (by (first | exact (if_pos b_40).trans (congrArg (bmV (μ d 5) (μ (d + 5)) (μ (d + 6)) (μ (d + 8)) (misN t (μ (d + 8)) 8) i - ·) (if_pos c_57n)) | exact (if_pos b_40).trans (congrArg (bmV (μ d 5) (μ (d + 5)) (μ (d + 6)) (μ (d + 8)) (misN t (μ (d + 8)) 8) i - ·) (if_neg c_57n)) | exact if_neg b_40)) (by exact (nI_1 i).symm) (by (first | exact setRow_keep (if_neg b_40) | exact (setRow_succ μ (d + 8) i _).symm.trans (congrArg (uM _ (d + 8) i) ((if_pos b_40).trans (congrArg (μ (d + 8) i + ·) (if_pos c_57n)))) | exact (setRow_succ μ (d + 8) i _).symm.trans (congrArg (uM _ (d + 8) i) ((if_pos b_40).trans (congrArg (μ (d + 8) i + ·) (if_neg c_57n))))))
        exact L_29 9 0 (by omega) (by omega) _ _ _  (by rfl) (by exact nI_0) (by exact setRow_0 _ _ _)
      · have hlt : i < 8 := c_lt rfl (by decide) (by omega) c_7
        refine X_iload_n 10 2 dX1_balance_10 rfl rfl ?_
        refine X_aload_n 11 0 dX1_balance_11 rfl rfl ?_
        refine X_getR (f := 3) 12 dX1_balance_12 lf_RX1_26 iw1 vc1 (by decide) (lyD d hd) rfl ?_
        refine X_iload_n 15 3 dX1_balance_15 rfl rfl ?_
        refine X_cVI 16 [.int _] (e_X3_get ((d + 4)) ((d + 8)) 8 (rD_lt d hd) _ _) dX1_balance_16 lm_RX1_96 1 ⟨wm_X3_get, by decide +kernel, rfl, rfl⟩ rfl ⟨Nat.le_of_ble_eq_true rfl, Nat.le_of_ble_eq_true rfl⟩ (rD_lt d hd).1 vc3 rfl rfl (Nat.le_of_ble_eq_true rfl) ?_
        rintro _ _ ⟨rfl, rfl⟩
        rw [gt_nI hlt (by decide)]
        refine X_isub 19 dX1_balance_19 ?_
        refine X_istore_n 20 [(2, .int _), (0, .ref _), (1, .int _), (3, .int _)] dX1_balance_20 rfl (by decide) rfl ?_
        refine X_iinc 21 3 (_ + 1) [(3, .int _), (2, .int _), (0, .ref _), (1, .int _)] dX1_balance_21 rfl rfl (by decide) rfl ?_
        refine X_goto 24 4 dX1_balance_24 (by decide) ?_
        refine X_sub [2, 3, 1, 0] [(0, .ref _), (1, .int _), (2, .int _), (3, .int _)] rfl ?_
        exact ih_4 (i + 1) (by omega) (by omega) _ _  (by rfl) (by exact (nI_1 i).symm)
  exact L_4 9 0 (by omega) (by omega) _ _  (by rfl) (by exact nI_0)
set_option maxHeartbeats 4000000 in
set_option maxRecDepth 100000 in
theorem e_X1_stateFor (d : Nat) (hd : isD d) (t : Int32) (μ : Mm) : EvN ΛC mX1_stateFor [.ref d, .int t] μ (qE (stV (μ d 6) (μ d 5) t) μ) := by
  refine EvN_ofQ (by decide +kernel) rfl (fun _ => rfl) (fun _ => Nat.le_of_ble_eq_true rfl) (ls := [(0, .ref d), (1, .int t)]) ?_
  refine X_aload_n 0 0 dX1_stateFor_0 rfl rfl ?_
  refine X_getI (f := 6) 1 dX1_stateFor_1 lf_RX1_107 iw1 vc1 (by decide) (lyD d hd) rfl ?_
  refine X_iload_n 4 1 dX1_stateFor_4 rfl rfl ?_
  refine X_icmp_ne 5 10 dX1_stateFor_5 (by decide) (fun c_5 => ?_) (fun c_5 => ?_)
  · refine X_aload_n 10 0 dX1_stateFor_10 rfl rfl ?_
    refine X_getI (f := 5) 11 dX1_stateFor_11 lf_RX1_73 iw1 vc1 (by decide) (lyD d hd) rfl ?_
    refine X_if_ne 14 19 dX1_stateFor_14 (by decide) (fun c_14 => ?_) (fun c_14 => ?_)
    · refine X_aload_n 19 0 dX1_stateFor_19 rfl rfl ?_
      refine X_getI (f := 6) 20 dX1_stateFor_20 lf_RX1_107 iw1 vc1 (by decide) (lyD d hd) rfl ?_
      refine X_iload_n 23 1 dX1_stateFor_23 rfl rfl ?_
      refine X_icmp_ge 24 31 dX1_stateFor_24 (by decide) (fun c_24 => ?_) (fun c_24 => ?_)
      · refine X_iconst 31 (3) dX1_stateFor_31 (by decide) ?_
        refine X_iret 32 dX1_stateFor_32 rfl rfl ⟨_, rfl, _, rfl, ?_⟩
        first
        | exact ⟨if_pos c_5, rfl⟩
        | exact ⟨(if_neg c_5).trans (if_pos c_14), rfl⟩
        | exact ⟨(if_neg c_5).trans ((if_neg c_14).trans (if_pos c_24)), rfl⟩
        | exact ⟨(if_neg c_5).trans ((if_neg c_14).trans (if_neg c_24)), rfl⟩
      · refine X_iconst 27 (2) dX1_stateFor_27 (by decide) ?_
        refine X_goto 28 32 dX1_stateFor_28 (by decide) ?_
        refine X_iret 32 dX1_stateFor_32 rfl rfl ⟨_, rfl, _, rfl, ?_⟩
        first
        | exact ⟨if_pos c_5, rfl⟩
        | exact ⟨(if_neg c_5).trans (if_pos c_14), rfl⟩
        | exact ⟨(if_neg c_5).trans ((if_neg c_14).trans (if_pos c_24)), rfl⟩
        | exact ⟨(if_neg c_5).trans ((if_neg c_14).trans (if_neg c_24)), rfl⟩
    · refine X_iconst 17 (1) dX1_stateFor_17 (by decide) ?_
      refine X_iret 18 dX1_stateFor_18 rfl rfl ⟨_, rfl, _, rfl, ?_⟩
      first
      | exact ⟨if_pos c_5, rfl⟩
      | exact ⟨(if_neg c_5).trans (if_pos c_14), rfl⟩
      | exact ⟨(if_neg c_5).trans ((if_neg c_14).trans (if_pos c_24)), rfl⟩
      | exact ⟨(if_neg c_5).trans ((if_neg c_14).trans (if_neg c_24)), rfl⟩
  · refine X_iconst 8 (0) dX1_stateFor_8 (by decide) ?_
    refine X_iret 9 dX1_stateFor_9 rfl rfl ⟨_, rfl, _, rfl, ?_⟩
    first
    | exact ⟨if_pos c_5, rfl⟩
    | exact ⟨(if_neg c_5).trans (if_pos c_14), rfl⟩
    | exact ⟨(if_neg c_5).trans ((if_neg c_14).trans (if_pos c_24)), rfl⟩
    | exact ⟨(if_neg c_5).trans ((if_neg c_14).trans (if_neg c_24)), rfl⟩
set_option maxHeartbeats 4000000 in
set_option maxRecDepth 100000 in
theorem e_X1_dimPoint (d : Nat) (hd : isD d) (s : Nat) (hs : isS s) (px py t : Int32) (μ : Mm) : EvN ΛC mX1_dimPoint [.ref d, .ref s, .int px, .int py, .int t] μ (qV (fun μ' => dimF μ d s px py t = μ')) := by
  refine EvN_ofQ (by decide +kernel) rfl (fun _ => rfl) (fun _ => Nat.le_of_ble_eq_true rfl) (ls := [(0, .ref d), (1, .ref s), (2, .int px), (3, .int py), (4, .int t)]) ?_
  have hd75 := isD_ge hd
  refine X_aload_n 0 0 dX1_dimPoint_0 rfl rfl ?_
  refine X_iconst 1 (0) dX1_dimPoint_1 (by decide) ?_
  refine X_putI (f := 5) 2 dX1_dimPoint_2 lf_RX1_73 iw1 vc1 (by decide) (lyD d hd) tyX1_ok nmX1 rfl rfl rfl (by decide) rfl rfl ?_
  refine X_iconst 5 (0) dX1_dimPoint_5 (by decide) ?_
  refine X_istore 6 [(5, .int _), (0, .ref _), (1, .ref _), (2, .int _), (3, .int _), (4, .int _)] dX1_dimPoint_6 (by decide) rfl ?_
  refine X_sub [1, 2, 3, 4, 5, 0] [(0, .ref _), (1, .ref _), (2, .int _), (3, .int _), (4, .int _), (5, .int _)] rfl ?_
  have L_8 : ∀ (kf : Nat) (i : Nat), i ≤ 8 → 8 < i + kf → ∀ (x8_5 : Int32) (μ8 : Mm), nI i = x8_5 → dimL μ d (wvV μ d s px py) i = μ8 → X false ΛC mX1_dimPoint (QN (qV (fun μ' => dimF μ d s px py t = μ'))) 8 [(0, .ref d), (1, .ref s), (2, .int px), (3, .int py), (4, .int t), (5, .int x8_5)] [] μ8 := by
    intro kf
    induction kf with
    | zero => intro i hp8_0 hp8_1; exfalso; omega
    | succ kf ih_8 =>
      intro i hp8_0 hp8_1 x8_5 μ8
      rintro rfl rfl
      refine X_iload 8 5 dX1_dimPoint_8 rfl ?_
      refine X_bipush 10 (8) dX1_dimPoint_10 (by decide) ?_
      refine X_icmp_ge 12 94 dX1_dimPoint_12 (by decide) (fun c_12 => ?_) (fun c_12 => ?_)
      · have hge : 8 ≤ i := c_ge rfl (by decide) (by omega) c_12
        have hie : i = 8 := by omega
        subst hie
        refine X_aload_n 94 0 dX1_dimPoint_94 rfl rfl ?_
        refine X_iload 95 4 dX1_dimPoint_95 rfl ?_
        refine X_cVV 97 [.int _] (e_X1_shareOut d hd _ _) dX1_dimPoint_97 lm_RX1_84 1 ⟨wm_X1_shareOut, by decide +kernel, rfl, rfl⟩ rfl ⟨Nat.le_of_ble_eq_true rfl, Nat.le_of_ble_eq_true rfl⟩ (lyD d hd) vc1 rfl rfl (Nat.le_of_ble_eq_true rfl) ?_
        rintro _ rfl
        refine X_aload_n 100 0 dX1_dimPoint_100 rfl rfl ?_
        refine X_cVV 101 [] (e_X1_keepToLimits d hd _) dX1_dimPoint_101 lm_RX1_87 0 ⟨wm_X1_keepToLimits, by decide +kernel, rfl, rfl⟩ rfl ⟨Nat.le_of_ble_eq_true rfl, Nat.le_of_ble_eq_true rfl⟩ (lyD d hd) vc1 rfl rfl (Nat.le_of_ble_eq_true rfl) ?_
        rintro _ rfl
        refine X_aload_n 104 0 dX1_dimPoint_104 rfl rfl ?_
        refine X_iload 105 4 dX1_dimPoint_105 rfl ?_
        refine X_cVV 107 [.int _] (e_X1_balance d hd _ _) dX1_dimPoint_107 lm_RX1_90 1 ⟨wm_X1_balance, by decide +kernel, rfl, rfl⟩ rfl ⟨Nat.le_of_ble_eq_true rfl, Nat.le_of_ble_eq_true rfl⟩ (lyD d hd) vc1 rfl rfl (Nat.le_of_ble_eq_true rfl) ?_
        rintro _ rfl
        refine X_aload_n 110 0 dX1_dimPoint_110 rfl rfl ?_
        refine X_aload_n 111 0 dX1_dimPoint_111 rfl rfl ?_
        refine X_iload 112 4 dX1_dimPoint_112 rfl ?_
        refine X_cVI 114 [.int _] (e_X1_stateFor d hd _ _) dX1_dimPoint_114 lm_RX1_93 1 ⟨wm_X1_stateFor, by decide +kernel, rfl, rfl⟩ rfl ⟨Nat.le_of_ble_eq_true rfl, Nat.le_of_ble_eq_true rfl⟩ (lyD d hd) vc1 rfl rfl (Nat.le_of_ble_eq_true rfl) ?_
        rintro _ _ ⟨rfl, rfl⟩
        refine X_putI (f := 7) 117 dX1_dimPoint_117 lf_RX1_70 iw1 vc1 (by decide) (lyD d hd) tyX1_ok nmX1 rfl rfl rfl (by decide) rfl rfl ?_
        refine X_vret 120 dX1_dimPoint_120 rfl ⟨_, rfl, rfl, ?_⟩
        rfl
      · have hlt : i < 8 := c_lt rfl (by decide) (by omega) c_12
        refine X_aload_n 15 1 dX1_dimPoint_15 rfl rfl ?_
        refine X_ifnull 16 dX1_dimPoint_16 ?_
        refine X_iload 19 5 dX1_dimPoint_19 rfl ?_
        refine X_aload_n 21 0 dX1_dimPoint_21 rfl rfl ?_
        refine X_getI (f := 4) 22 dX1_dimPoint_22 lf_RX1_29 iw1 vc1 (by decide) (lyD d hd) rfl ?_
        rw [dimL_sh]
        refine X_cSI 25 [.int _, .int _] (e_X6_isIn _ _ _) dX1_dimPoint_25 lm_RX1_76 2 ⟨wm_X6_isIn, by decide +kernel, rfl, rfl⟩ rfl ⟨Nat.le_of_ble_eq_true rfl, Nat.le_of_ble_eq_true rfl⟩ rfl (Nat.le_of_ble_eq_true rfl) ?_
        rintro _ _ ⟨rfl, ⟨rfl, b_25⟩ | ⟨rfl, b_25⟩⟩
        · have ew : wvV μ d s px py i = wgt μ s i px py := if_pos b_25
          refine X_if_eq 28 42 dX1_dimPoint_28 (by decide) (fun c_0 => by exact absurd c_0 (by decide)) (fun _ => ?_)
          refine X_aload_n 31 1 dX1_dimPoint_31 rfl rfl ?_
          refine X_iload 32 5 dX1_dimPoint_32 rfl ?_
          refine X_iload_n 34 2 dX1_dimPoint_34 rfl rfl ?_
          refine X_iload_n 35 3 dX1_dimPoint_35 rfl rfl ?_
          refine X_cVI 36 [.int _, .int _, .int _] (e_X4_weightAt s hs _ _ _ _ (by first | omega | assumption)) dX1_dimPoint_36 lm_RX1_80 3 ⟨wm_X4_weightAt, by decide +kernel, rfl, rfl⟩ rfl ⟨Nat.le_of_ble_eq_true rfl, Nat.le_of_ble_eq_true rfl⟩ (lyS s hs) vc4 rfl rfl (Nat.le_of_ble_eq_true rfl) ?_
          rintro _ _ ⟨rfl, rfl⟩
          rw [wgt_so (dimL_so μ d _ i) hs hd75.1]
          refine X_goto 39 43 dX1_dimPoint_39 (by decide) ?_
          rw [← ew]
          refine X_istore 43 [(6, .int _), (0, .ref _), (1, .ref _), (2, .int _), (3, .int _), (4, .int _), (5, .int _)] dX1_dimPoint_43 (by decide) rfl ?_
          refine X_aload_n 45 1 dX1_dimPoint_45 rfl rfl ?_
          refine X_getR (f := 2) 46 dX1_dimPoint_46 lf_RX1_23 iw1 vc1 (by decide) (lyD d hd) rfl ?_
          refine X_iload 49 6 dX1_dimPoint_49 rfl ?_
          refine X_iload 51 0 dX1_dimPoint_51 rfl ?_
          refine X_cVV 53 [.int _, .int _] (e_X3_set ((d + 3)) ((d + 7)) 8 (rD_wt d hd) _ _ _) dX1_dimPoint_53 lm_RX1_39 2 ⟨wm_X3_set, by decide +kernel, rfl, rfl⟩ rfl ⟨Nat.le_of_ble_eq_true rfl, Nat.le_of_ble_eq_true rfl⟩ (rD_wt d hd).1 vc3 rfl rfl (Nat.le_of_ble_eq_true rfl) ?_
          rintro _ rfl
          rw [stR_nI hlt (by decide)]
          refine X_aload_n 56 1 dX1_dimPoint_56 rfl rfl ?_
          refine X_getR (f := 3) 57 dX1_dimPoint_57 lf_RX1_26 iw1 vc1 (by decide) (lyD d hd) rfl ?_
          refine X_iload 60 6 dX1_dimPoint_60 rfl ?_
          refine X_iconst 62 (0) dX1_dimPoint_62 (by decide) ?_
          refine X_cVV 63 [.int _, .int _] (e_X3_set ((d + 4)) ((d + 8)) 8 (rD_lt d hd) _ _ _) dX1_dimPoint_63 lm_RX1_39 2 ⟨wm_X3_set, by decide +kernel, rfl, rfl⟩ rfl ⟨Nat.le_of_ble_eq_true rfl, Nat.le_of_ble_eq_true rfl⟩ (rD_lt d hd).1 vc3 rfl rfl (Nat.le_of_ble_eq_true rfl) ?_
          rintro _ rfl
          rw [stR_nI hlt (by decide)]
          refine X_aload_n 66 1 dX1_dimPoint_66 rfl rfl ?_
          refine X_dupr 67 dX1_dimPoint_67 ?_
          refine X_getI (f := 5) 68 dX1_dimPoint_68 lf_RX1_73 iw1 vc1 (by decide) (lyD d hd) rfl ?_
          rw [uM_n (by omega), uM_n (by omega), dimL_cov]
          refine X_iload 71 0 dX1_dimPoint_71 rfl ?_
          refine X_if_le 73 83 dX1_dimPoint_73 (by decide) (fun c_73 => ?_) (fun c_73 => ?_)
          · have ec : covV (wvV μ d s px py) (i + 1) = covV (wvV μ d s px py) i := covV_f c_73
            refine X_iconst 83 (0) dX1_dimPoint_83 (by decide) ?_
            refine X_ior 84 dX1_dimPoint_84 ?_
            refine X_putI (f := 5) 85 dX1_dimPoint_85 lf_RX1_73 iw1 vc1 (by decide) (lyD d hd) tyX1_ok nmX1 rfl rfl rfl (by decide) rfl rfl ?_
            refine X_iinc 88 6 (_ + 1) [(5, .int _), (6, .int _), (0, .ref _), (1, .ref _), (2, .int _), (3, .int _), (4, .int _)] dX1_dimPoint_88 rfl rfl (by decide) rfl ?_
            refine X_goto 91 8 dX1_dimPoint_91 (by decide) ?_
            refine X_sub [2, 3, 4, 5, 6, 0] [(0, .ref _), (1, .ref _), (2, .int _), (3, .int _), (4, .int _), (5, .int _)] rfl ?_
            exact ih_8 (i + 1) (by omega) (by omega) _ _  (by exact (nI_1 i).symm) (by (rw [← dimL_succ, ec]; first | rfl | (simp only [Int32.or_zero])))
          · have ec := covV_t c_73
            refine X_iconst 76 (1) dX1_dimPoint_76 (by decide) ?_
            refine X_iload 77 6 dX1_dimPoint_77 rfl ?_
            refine X_ishl 79 dX1_dimPoint_79 ?_
            refine X_goto 80 84 dX1_dimPoint_80 (by decide) ?_
            refine X_ior 84 dX1_dimPoint_84 ?_
            refine X_putI (f := 5) 85 dX1_dimPoint_85 lf_RX1_73 iw1 vc1 (by decide) (lyD d hd) tyX1_ok nmX1 rfl rfl rfl (by decide) rfl rfl ?_
            refine X_iinc 88 6 (_ + 1) [(5, .int _), (6, .int _), (0, .ref _), (1, .ref _), (2, .int _), (3, .int _), (4, .int _)] dX1_dimPoint_88 rfl rfl (by decide) rfl ?_
            refine X_goto 91 8 dX1_dimPoint_91 (by decide) ?_
            refine X_sub [2, 3, 4, 5, 6, 0] [(0, .ref _), (1, .ref _), (2, .int _), (3, .int _), (4, .int _), (5, .int _)] rfl ?_
            exact ih_8 (i + 1) (by omega) (by omega) _ _  (by exact (nI_1 i).symm) (by (rw [← dimL_succ, ec]; first | rfl | (simp only [Int32.or_zero])))
        · have ew : wvV μ d s px py i = 0 := if_neg b_25
          refine X_if_eq 28 42 dX1_dimPoint_28 (by decide) (fun _ => ?_) (fun c_0 => by exact absurd c_0 (by decide))
          refine X_iconst 42 (0) dX1_dimPoint_42 (by decide) ?_
          rw [← ew]
          refine X_istore 43 [(6, .int _), (0, .ref _), (1, .ref _), (2, .int _), (3, .int _), (4, .int _), (5, .int _)] dX1_dimPoint_43 (by decide) rfl ?_
          refine X_aload_n 45 1 dX1_dimPoint_45 rfl rfl ?_
          refine X_getR (f := 2) 46 dX1_dimPoint_46 lf_RX1_23 iw1 vc1 (by decide) (lyD d hd) rfl ?_
          refine X_iload 49 6 dX1_dimPoint_49 rfl ?_
          refine X_iload 51 0 dX1_dimPoint_51 rfl ?_
          refine X_cVV 53 [.int _, .int _] (e_X3_set ((d + 3)) ((d + 7)) 8 (rD_wt d hd) _ _ _) dX1_dimPoint_53 lm_RX1_39 2 ⟨wm_X3_set, by decide +kernel, rfl, rfl⟩ rfl ⟨Nat.le_of_ble_eq_true rfl, Nat.le_of_ble_eq_true rfl⟩ (rD_wt d hd).1 vc3 rfl rfl (Nat.le_of_ble_eq_true rfl) ?_
          rintro _ rfl
          rw [stR_nI hlt (by decide)]
          refine X_aload_n 56 1 dX1_dimPoint_56 rfl rfl ?_
          refine X_getR (f := 3) 57 dX1_dimPoint_57 lf_RX1_26 iw1 vc1 (by decide) (lyD d hd) rfl ?_
          refine X_iload 60 6 dX1_dimPoint_60 rfl ?_
          refine X_iconst 62 (0) dX1_dimPoint_62 (by decide) ?_
          refine X_cVV 63 [.int _, .int _] (e_X3_set ((d + 4)) ((d + 8)) 8 (rD_lt d hd) _ _ _) dX1_dimPoint_63 lm_RX1_39 2 ⟨wm_X3_set, by decide +kernel, rfl, rfl⟩ rfl ⟨Nat.le_of_ble_eq_true rfl, Nat.le_of_ble_eq_true rfl⟩ (rD_lt d hd).1 vc3 rfl rfl (Nat.le_of_ble_eq_true rfl) ?_
          rintro _ rfl
          rw [stR_nI hlt (by decide)]
          refine X_aload_n 66 1 dX1_dimPoint_66 rfl rfl ?_
          refine X_dupr 67 dX1_dimPoint_67 ?_
          refine X_getI (f := 5) 68 dX1_dimPoint_68 lf_RX1_73 iw1 vc1 (by decide) (lyD d hd) rfl ?_
          rw [uM_n (by omega), uM_n (by omega), dimL_cov]
          refine X_iload 71 0 dX1_dimPoint_71 rfl ?_
          refine X_if_le 73 83 dX1_dimPoint_73 (by decide) (fun c_73 => ?_) (fun c_73 => ?_)
          · have ec : covV (wvV μ d s px py) (i + 1) = covV (wvV μ d s px py) i := covV_f c_73
            refine X_iconst 83 (0) dX1_dimPoint_83 (by decide) ?_
            refine X_ior 84 dX1_dimPoint_84 ?_
            refine X_putI (f := 5) 85 dX1_dimPoint_85 lf_RX1_73 iw1 vc1 (by decide) (lyD d hd) tyX1_ok nmX1 rfl rfl rfl (by decide) rfl rfl ?_
            refine X_iinc 88 6 (_ + 1) [(5, .int _), (6, .int _), (0, .ref _), (1, .ref _), (2, .int _), (3, .int _), (4, .int _)] dX1_dimPoint_88 rfl rfl (by decide) rfl ?_
            refine X_goto 91 8 dX1_dimPoint_91 (by decide) ?_
            refine X_sub [2, 3, 4, 5, 6, 0] [(0, .ref _), (1, .ref _), (2, .int _), (3, .int _), (4, .int _), (5, .int _)] rfl ?_
            exact ih_8 (i + 1) (by omega) (by omega) _ _  (by exact (nI_1 i).symm) (by (rw [← dimL_succ, ec]; first | rfl | (simp only [Int32.or_zero])))
          · have ec := covV_t c_73
            refine X_iconst 76 (1) dX1_dimPoint_76 (by decide) ?_
            refine X_iload 77 6 dX1_dimPoint_77 rfl ?_
            refine X_ishl 79 dX1_dimPoint_79 ?_
            refine X_goto 80 84 dX1_dimPoint_80 (by decide) ?_
            refine X_ior 84 dX1_dimPoint_84 ?_
            refine X_putI (f := 5) 85 dX1_dimPoint_85 lf_RX1_73 iw1 vc1 (by decide) (lyD d hd) tyX1_ok nmX1 rfl rfl rfl (by decide) rfl rfl ?_
            refine X_iinc 88 6 (_ + 1) [(5, .int _), (6, .int _), (0, .ref _), (1, .ref _), (2, .int _), (3, .int _), (4, .int _)] dX1_dimPoint_88 rfl rfl (by decide) rfl ?_
            refine X_goto 91 8 dX1_dimPoint_91 (by decide) ?_
            refine X_sub [2, 3, 4, 5, 6, 0] [(0, .ref _), (1, .ref _), (2, .int _), (3, .int _), (4, .int _), (5, .int _)] rfl ?_
            exact ih_8 (i + 1) (by omega) (by omega) _ _  (by exact (nI_1 i).symm) (by (rw [← dimL_succ, ec]; first | rfl | (simp only [Int32.or_zero])))
  exact L_8 9 0 (by omega) (by omega) _ _  (by exact nI_0) (by exact dimL_0 μ d _)
