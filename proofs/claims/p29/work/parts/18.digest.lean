set_option maxHeartbeats 4000000 in
set_option maxRecDepth 100000 in
theorem e_X6_undo (c r lc la cn : Nat)  (μ : Mm) (hI : CIv μ c r lc la (cn + 1)) : EvN ΛC mX6_undo [.ref 109] μ (qI (fun v9 m9 => nI cn = v9 ∧ restM μ la cn = m9)) := by
  refine EvN_ofQ (by decide +kernel) rfl (fun _ => rfl) (fun _ => Nat.le_of_ble_eq_true rfl) (ls := [(0, .ref 109)]) ?_
  obtain ⟨hc, hr, hlc, hla, hcn, ⟨g1, g2, g3, g4, g5, g6, g7⟩, hv⟩ := hI
  have hcr := cr_le g2 g4
  refine X_aload_n 0 0 dX6_undo_0 rfl rfl ?_
  refine X_getR (f := 3) 1 dX6_undo_1 lf_RX6_33 iw6 vc6 (by decide) lyL rfl ?_
  refine X_getI (f := 2) 4 dX6_undo_4 lf_RX6_241 iw2 vc2 (by decide) lyH rfl ?_
  rw [hcn]
  refine X_if_le 7 14 dX6_undo_7 (by decide) (fun c_7 => ?_) (fun c_7 => ?_)
  · exact absurd (nI_lt (a := 0) (b := cn + 1) (by omega) (by omega)) (Int32.not_lt.mpr c_7)
  · refine X_iconst 10 (0) dX6_undo_10 (by decide) ?_
    refine X_goto 11 15 dX6_undo_11 (by decide) ?_
    refine X_cSV 15 [.int _] (e_X6_refuseState _ _ (by decide)) dX6_undo_15 lm_RX6_77 1 ⟨wm_X6_refuseState, by decide +kernel, rfl, rfl⟩ rfl ⟨Nat.le_of_ble_eq_true rfl, Nat.le_of_ble_eq_true rfl⟩ rfl (Nat.le_of_ble_eq_true rfl) ?_
    rintro _ rfl
    refine X_aload_n 18 0 dX6_undo_18 rfl rfl ?_
    refine X_getR (f := 3) 19 dX6_undo_19 lf_RX6_33 iw6 vc6 (by decide) lyL rfl ?_
    refine X_aload_n 22 0 dX6_undo_22 rfl rfl ?_
    refine X_getR (f := 0) 23 dX6_undo_23 lf_RX6_12 iw6 vc6 (by decide) lyL rfl ?_
    refine X_cVV 26 [.ref _] (e_X2_restore la cn _ hla g6 hcn (by omega)) dX6_undo_26 lm_RX6_244 1 ⟨wm_X2_restore, by decide +kernel, rfl, rfl⟩ rfl ⟨Nat.le_of_ble_eq_true rfl, Nat.le_of_ble_eq_true rfl⟩ lyH vc2 rfl rfl (Nat.le_of_ble_eq_true rfl) ?_
    rintro _ rfl
    refine X_aload_n 29 0 dX6_undo_29 rfl rfl ?_
    refine X_getR (f := 3) 30 dX6_undo_30 lf_RX6_33 iw6 vc6 (by decide) lyL rfl ?_
    refine X_getI (f := 2) 33 dX6_undo_33 lf_RX6_241 iw2 vc2 (by decide) lyH rfl ?_
    refine X_iret 36 dX6_undo_36 rfl rfl ⟨_, rfl, _, rfl, ?_⟩
    exact ⟨(uM_s _ _ _ _).symm, rfl⟩
set_option maxHeartbeats 4000000 in
set_option maxRecDepth 100000 in
theorem e_X6_addLampTo (c r lc la cn : Nat) (h : Int64) (k : Nat) (μ : Mm) (hI : CIv μ c r lc la cn) (hk : k < lc) : EvN ΛC mX6_addLampTo [.ref 109, .long h, .int (nI k)] μ (qL (fun v9 m => hF (hF h (lvV μ lc c r k) 12) (gC μ k) 8 = v9 ∧ Rf0 μ lc c r m)) := by
  refine EvN_ofQ (by decide +kernel) rfl (fun _ => rfl) (fun _ => Nat.le_of_ble_eq_true rfl) (ls := [(0, .ref 109), (1, .long h), (3, .int (nI k))]) ?_
  have hI0 := hI
  obtain ⟨hc, hr, hlc, hla, hcn, ⟨g1, g2, g3, g4, g5, g6, g7⟩, hv⟩ := hI
  have hcr := cr_le g2 g4
  refine X_lload_n 0 1 dX6_addLampTo_0 rfl rfl ?_
  refine X_lstore 1 [(4, .long _), (0, .ref _), (1, .long _), (3, .int _)] dX6_addLampTo_1 (by decide) rfl ?_
  refine X_iconst 3 (0) dX6_addLampTo_3 (by decide) ?_
  refine X_istore 4 [(6, .int _), (4, .long _), (0, .ref _), (1, .long _), (3, .int _)] dX6_addLampTo_4 (by decide) rfl ?_
  refine X_sub [2, 3, 4, 1, 0] [(0, .ref _), (1, .long _), (3, .int _), (4, .long _), (6, .int _)] rfl ?_
  have L_6 : ∀ (kf : Nat) (i : Nat) (m : Mm), i ≤ 12 → 12 < i + kf → Rf0 μ lc c r m → ∀ (x6_4 : Int64) (x6_6 : Int32), hF h (lvV μ lc c r k) i = x6_4 → nI i = x6_6 → X false ΛC mX6_addLampTo (QN (qL (fun v9 m => hF (hF h (lvV μ lc c r k) 12) (gC μ k) 8 = v9 ∧ Rf0 μ lc c r m))) 6 [(0, .ref 109), (1, .long h), (3, .int (nI k)), (4, .long x6_4), (6, .int x6_6)] [] m := by
    intro kf
    induction kf with
    | zero => intro i m hp6_0 hp6_1 hp6_2; exfalso; omega
    | succ kf ih_6 =>
      intro i m hp6_0 hp6_1 hp6_2 x6_4 x6_6
      rintro rfl rfl
      refine X_iload 6 4 dX6_addLampTo_6 rfl ?_
      refine X_bipush 8 (11) dX6_addLampTo_8 (by decide) ?_
      refine X_icmp_gt 10 36 dX6_addLampTo_10 (by decide) (fun c_10 => ?_) (fun c_10 => ?_)
      · have hge := c_gt (k := 11) rfl (by decide) (by omega) c_10
        have hie : i = 12 := by omega
        subst hie
        refine X_iconst 36 (0) dX6_addLampTo_36 (by decide) ?_
        refine X_istore 37 [(6, .int _), (0, .ref _), (1, .long _), (3, .int _), (4, .long _)] dX6_addLampTo_37 (by decide) rfl ?_
        refine X_sub [1, 2, 3, 4, 0] [(0, .ref _), (1, .long _), (3, .int _), (4, .long _), (6, .int _)] rfl ?_
        have L_39 : ∀ (kf : Nat) (i : Nat), i ≤ 4 → 4 < i + kf → ∀ (x39_4 : Int64) (x39_6 : Int32), hF (hF h (lvV μ lc c r k) 12) (gC μ k) (2 * i) = x39_4 → nI i = x39_6 → X false ΛC mX6_addLampTo (QN (qL (fun v9 m => hF (hF h (lvV μ lc c r k) 12) (gC μ k) 8 = v9 ∧ Rf0 μ lc c r m))) 39 [(0, .ref 109), (1, .long h), (3, .int (nI k)), (4, .long x39_4), (6, .int x39_6)] [] m := by
          intro kf
          induction kf with
          | zero => intro i hp39_0 hp39_1; exfalso; omega
          | succ kf ih_39 =>
            intro i hp39_0 hp39_1 x39_4 x39_6
            rintro rfl rfl
            refine X_iload 39 4 dX6_addLampTo_39 rfl ?_
            refine X_iconst 41 (4) dX6_addLampTo_41 (by decide) ?_
            refine X_icmp_ge 42 93 dX6_addLampTo_42 (by decide) (fun c_42 => ?_) (fun c_42 => ?_)
            · have hge : 4 ≤ i := c_ge rfl (by decide) (by omega) c_42
              have hie : i = 4 := by omega
              subst hie
              refine X_lload 93 3 dX6_addLampTo_93 rfl ?_
              refine X_lret 95 dX6_addLampTo_95 rfl ⟨_, rfl, _, rfl, ?_⟩
              exact ⟨rfl, hp6_2⟩
            · have hlt : i < 4 := c_lt rfl (by decide) (by omega) c_42
              refine X_ldc2 45 dX6_addLampTo_45 kw_842 ?_
              refine X_lload 48 3 dX6_addLampTo_48 rfl ?_
              refine X_lmul 50 dX6_addLampTo_50 ?_
              refine X_aload_n 51 0 dX6_addLampTo_51 rfl rfl ?_
              refine X_getR (f := 0) 52 dX6_addLampTo_52 lf_RX6_12 iw6 vc6 (by decide) lyL rfl ?_
              refine X_iload_n 55 2 dX6_addLampTo_55 rfl rfl ?_
              refine X_iload 56 4 dX6_addLampTo_56 rfl ?_
              refine X_iconst 58 (0) dX6_addLampTo_58 (by decide) ?_
              refine X_cVI 59 [.int _, .int _, .int _] (e_X4_cornerValue 0 (Or.inl rfl) k i _ _ (by omega) (by omega)) dX6_addLampTo_59 lm_RX6_180 3 ⟨wm_X4_cornerValue, by decide +kernel, rfl, rfl⟩ rfl ⟨Nat.le_of_ble_eq_true rfl, Nat.le_of_ble_eq_true rfl⟩ (lyS 0 (Or.inl rfl)) vc4 rfl rfl (Nat.le_of_ble_eq_true rfl) ?_
              rintro _ _ ⟨rfl, rfl⟩
              rw [if_pos rfl, show m (0 + 13) (4 * k + i) = μ 13 (4 * k + i) from Rf0_r hp6_2 13 _ (by decide) (by decide)]
              refine X_i2l 62 dX6_addLampTo_62 ?_
              refine X_ladd 63 dX6_addLampTo_63 ?_
              refine X_lstore 64 [(4, .long _), (0, .ref _), (1, .long _), (3, .int _), (6, .int _)] dX6_addLampTo_64 (by decide) rfl ?_
              refine X_ldc2 66 dX6_addLampTo_66 kw_842 ?_
              refine X_lload 69 0 dX6_addLampTo_69 rfl ?_
              refine X_lmul 71 dX6_addLampTo_71 ?_
              refine X_aload_n 72 1 dX6_addLampTo_72 rfl rfl ?_
              refine X_getR (f := 0) 73 dX6_addLampTo_73 lf_RX6_12 iw6 vc6 (by decide) lyL rfl ?_
              refine X_iload_n 76 3 dX6_addLampTo_76 rfl rfl ?_
              refine X_iload 77 4 dX6_addLampTo_77 rfl ?_
              refine X_iconst 79 (1) dX6_addLampTo_79 (by decide) ?_
              refine X_cVI 80 [.int _, .int _, .int _] (e_X4_cornerValue 0 (Or.inl rfl) k i _ _ (by omega) (by omega)) dX6_addLampTo_80 lm_RX6_180 3 ⟨wm_X4_cornerValue, by decide +kernel, rfl, rfl⟩ rfl ⟨Nat.le_of_ble_eq_true rfl, Nat.le_of_ble_eq_true rfl⟩ (lyS 0 (Or.inl rfl)) vc4 rfl rfl (Nat.le_of_ble_eq_true rfl) ?_
              rintro _ _ ⟨rfl, rfl⟩
              rw [if_neg (by decide), show m (0 + 14) (4 * k + i) = μ 14 (4 * k + i) from Rf0_r hp6_2 14 _ (by decide) (by decide)]
              refine X_i2l 83 dX6_addLampTo_83 ?_
              refine X_ladd 84 dX6_addLampTo_84 ?_
              refine X_lstore 85 [(4, .long _), (0, .ref _), (1, .long _), (3, .int _), (6, .int _)] dX6_addLampTo_85 (by decide) rfl ?_
              refine X_iinc 87 4 (_ + 1) [(6, .int _), (4, .long _), (0, .ref _), (1, .long _), (3, .int _)] dX6_addLampTo_87 rfl rfl (by decide) rfl ?_
              refine X_goto 90 39 dX6_addLampTo_90 (by decide) ?_
              refine X_sub [2, 3, 4, 1, 0] [(0, .ref _), (1, .long _), (3, .int _), (4, .long _), (6, .int _)] rfl ?_
              exact ih_39 (i + 1) (by omega) (by omega) _ _  (by exact hF2) (by exact (nI_1 i).symm)
        exact L_39 5 0 (by omega) (by omega) _ _  (by rfl) (by exact nI_0)
      · have hlt := c_ngt (k := 11) rfl (by omega) c_10
        refine X_ldc2 13 dX6_addLampTo_13 kw_842 ?_
        refine X_lload 16 3 dX6_addLampTo_16 rfl ?_
        refine X_lmul 18 dX6_addLampTo_18 ?_
        refine X_aload_n 19 0 dX6_addLampTo_19 rfl rfl ?_
        refine X_iload_n 20 2 dX6_addLampTo_20 rfl rfl ?_
        refine X_iload 21 4 dX6_addLampTo_21 rfl ?_
        refine X_cVI 23 [.int _, .int _] (e_X6_lampValue c r lc la cn k i _ (CIv_rf hI0 hp6_2) hk (by omega)) dX6_addLampTo_23 lm_RX6_109 2 ⟨wm_X6_lampValue, by decide +kernel, rfl, rfl⟩ rfl ⟨Nat.le_of_ble_eq_true rfl, Nat.le_of_ble_eq_true rfl⟩ lyL vc6 rfl rfl (Nat.le_of_ble_eq_true rfl) ?_
        rintro _ m2 ⟨rfl, hR⟩
        refine X_i2l 26 dX6_addLampTo_26 ?_
        refine X_ladd 27 dX6_addLampTo_27 ?_
        refine X_lstore 28 [(4, .long _), (0, .ref _), (1, .long _), (3, .int _), (6, .int _)] dX6_addLampTo_28 (by decide) rfl ?_
        refine X_iinc 30 4 (_ + 1) [(6, .int _), (4, .long _), (0, .ref _), (1, .long _), (3, .int _)] dX6_addLampTo_30 rfl rfl (by decide) rfl ?_
        refine X_goto 33 6 dX6_addLampTo_33 (by decide) ?_
        refine X_sub [2, 3, 4, 1, 0] [(0, .ref _), (1, .long _), (3, .int _), (4, .long _), (6, .int _)] rfl ?_
        exact ih_6 (i + 1) _ (by omega) (by omega) (RfP_Rf0 (Rf0_RfP hp6_2 hR)) _ _  (by (show 31 * _ + _ = _; rw [lvV_rf hp6_2.1])) (by exact (nI_1 i).symm)
  exact L_6 13 0 _ (by omega) (by omega) (Rf0_refl hI0) _ _  (by rfl) (by exact nI_0)
set_option maxHeartbeats 4000000 in
set_option maxRecDepth 100000 in
theorem e_X6_addPlaceTo (c r lc la cn : Nat) (h : Int64) (x y : Nat) (μ : Mm) (hI : CIv μ c r lc la cn) (hx : x < c) (hy : y < r) : EvN ΛC mX6_addPlaceTo [.ref 109, .long h, .int (nI (y * c + x))] μ (qL (fun v9 m => dgP μ lc c x y h = v9 ∧ Rf0 μ lc c r m)) := by
  refine EvN_ofQ (by decide +kernel) rfl (fun _ => rfl) (fun _ => Nat.le_of_ble_eq_true rfl) (ls := [(0, .ref 109), (1, .long h), (3, .int (nI (y * c + x)))]) ?_
  have hI0 := hI
  obtain ⟨hc, hr, hlc, hla, hcn, ⟨g1, g2, g3, g4, g5, g6, g7⟩, hv⟩ := hI
  have hcr := cr_le g2 g4
  have hix : y * c + x < 384 := ix_lt (by omega) hx (by omega)
  refine X_lload_n 0 1 dX6_addPlaceTo_0 rfl rfl ?_
  refine X_lstore 1 [(4, .long _), (0, .ref _), (1, .long _), (3, .int _)] dX6_addPlaceTo_1 (by decide) rfl ?_
  refine X_iconst 3 (0) dX6_addPlaceTo_3 (by decide) ?_
  refine X_istore 4 [(6, .int _), (4, .long _), (0, .ref _), (1, .long _), (3, .int _)] dX6_addPlaceTo_4 (by decide) rfl ?_
  refine X_sub [2, 3, 4, 1, 0] [(0, .ref _), (1, .long _), (3, .int _), (4, .long _), (6, .int _)] rfl ?_
  have L_6 : ∀ (kf : Nat) (i : Nat) (m : Mm), i ≤ 6 → 6 < i + kf → Rf0 μ lc c r m → (0 < i → RfP μ lc c r m) → ∀ (x6_4 : Int64) (x6_6 : Int32), hF h (plV μ lc c x y) i = x6_4 → nI i = x6_6 → X false ΛC mX6_addPlaceTo (QN (qL (fun v9 m => dgP μ lc c x y h = v9 ∧ Rf0 μ lc c r m))) 6 [(0, .ref 109), (1, .long h), (3, .int (nI (y * c + x))), (4, .long x6_4), (6, .int x6_6)] [] m := by
    intro kf
    induction kf with
    | zero => intro i m hp6_0 hp6_1 hp6_2 hp6_3; exfalso; omega
    | succ kf ih_6 =>
      intro i m hp6_0 hp6_1 hp6_2 hp6_3 x6_4 x6_6
      rintro rfl rfl
      refine X_iload 6 4 dX6_addPlaceTo_6 rfl ?_
      refine X_iconst 8 (5) dX6_addPlaceTo_8 (by decide) ?_
      refine X_icmp_gt 9 35 dX6_addPlaceTo_9 (by decide) (fun c_9 => ?_) (fun c_9 => ?_)
      · have hge := c_gt (k := 5) rfl (by decide) (by omega) c_9
        have hie : i = 6 := by omega
        subst hie
        have hRR := hp6_3 (by decide)
        have hmlc : m 0 5 = nI lc := (rf_s hRR 5 (by decide)).trans hlc
        refine X_iconst 35 (0) dX6_addPlaceTo_35 (by decide) ?_
        refine X_istore 36 [(6, .int _), (0, .ref _), (1, .long _), (3, .int _), (4, .long _)] dX6_addPlaceTo_36 (by decide) rfl ?_
        refine X_sub [1, 2, 3, 4, 0] [(0, .ref _), (1, .long _), (3, .int _), (4, .long _), (6, .int _)] rfl ?_
        have L_38 : ∀ (kf : Nat) (i : Nat), i ≤ lc → lc < i + kf → ∀ (x38_4 : Int64) (x38_6 : Int32), hF (hF h (plV μ lc c x y) 6) (fun k => if bitB (cvP μ 0 (zzS μ lc) (μ 0 2) (μ 0 3) x y) k = true then ltP μ 0 (zzS μ lc) (μ 0 2) (μ 0 3) c x y k else -1000) i = x38_4 → nI i = x38_6 → X false ΛC mX6_addPlaceTo (QN (qL (fun v9 m => dgP μ lc c x y h = v9 ∧ Rf0 μ lc c r m))) 38 [(0, .ref 109), (1, .long h), (3, .int (nI (y * c + x))), (4, .long x38_4), (6, .int x38_6)] [] m := by
          intro kf
          induction kf with
          | zero => intro i hp38_0 hp38_1; exfalso; omega
          | succ kf ih_38 =>
            intro i hp38_0 hp38_1 x38_4 x38_6
            rintro rfl rfl
            refine X_iload 38 4 dX6_addPlaceTo_38 rfl ?_
            refine X_aload_n 40 0 dX6_addPlaceTo_40 rfl rfl ?_
            refine X_getR (f := 0) 41 dX6_addPlaceTo_41 lf_RX6_12 iw6 vc6 (by decide) lyL rfl ?_
            refine X_getI (f := 5) 44 dX6_addPlaceTo_44 lf_RX6_198 iw4 vc4 (by decide) (lyS 0 (Or.inl rfl)) rfl ?_
            refine X_icmp_ge 47 76 dX6_addPlaceTo_47 (by decide) (fun c_47 => ?_) (fun c_47 => ?_)
            · have hge : lc ≤ i := c_ge hmlc (by omega) (by omega) c_47
              have hie : lc = i := by omega
              subst hie
              refine X_lload 76 3 dX6_addPlaceTo_76 rfl ?_
              refine X_lret 78 dX6_addPlaceTo_78 rfl ⟨_, rfl, _, rfl, ?_⟩
              exact ⟨rfl, hp6_2⟩
            · have hlt : i < lc := c_lt hmlc (by omega) (by omega) c_47
              have hg := RfP_get hRR hx hy
              refine X_ldc2 50 dX6_addPlaceTo_50 kw_842 ?_
              refine X_lload 53 3 dX6_addPlaceTo_53 rfl ?_
              refine X_lmul 55 dX6_addPlaceTo_55 ?_
              refine X_aload_n 56 0 dX6_addPlaceTo_56 rfl rfl ?_
              refine X_getR (f := 1) 57 dX6_addPlaceTo_57 lf_RX6_19 iw6 vc6 (by decide) lyL rfl ?_
              refine X_iload 60 4 dX6_addPlaceTo_60 rfl ?_
              refine X_iload_n 62 2 dX6_addPlaceTo_62 rfl rfl ?_
              refine X_cVI 63 [.int _, .int _] (e_X5_lightOf i (y * c + x) _ (by omega) hix) dX6_addPlaceTo_63 lm_RX6_156 2 ⟨wm_X5_lightOf, by decide +kernel, rfl, rfl⟩ rfl ⟨Nat.le_of_ble_eq_true rfl, Nat.le_of_ble_eq_true rfl⟩ lyV vc5 rfl rfl (Nat.le_of_ble_eq_true rfl) ?_
              rintro _ _ ⟨rfl, rfl⟩
              rw [show (if covB m i (y * c + x) = true then m 98 (384 * i + (y * c + x)) else -1000) = (if bitB (cvP μ 0 (zzS μ lc) (μ 0 2) (μ 0 3) x y) i = true then ltP μ 0 (zzS μ lc) (μ 0 2) (μ 0 3) c x y i else -1000) from by unfold covB; rw [hg.1, hg.2.2.2 i (by omega)]]
              refine X_i2l 66 dX6_addPlaceTo_66 ?_
              refine X_ladd 67 dX6_addPlaceTo_67 ?_
              refine X_lstore 68 [(4, .long _), (0, .ref _), (1, .long _), (3, .int _), (6, .int _)] dX6_addPlaceTo_68 (by decide) rfl ?_
              refine X_iinc 70 4 (_ + 1) [(6, .int _), (4, .long _), (0, .ref _), (1, .long _), (3, .int _)] dX6_addPlaceTo_70 rfl rfl (by decide) rfl ?_
              refine X_goto 73 38 dX6_addPlaceTo_73 (by decide) ?_
              refine X_sub [2, 3, 4, 1, 0] [(0, .ref _), (1, .long _), (3, .int _), (4, .long _), (6, .int _)] rfl ?_
              exact ih_38 (i + 1) (by omega) (by omega) _ _  (by rfl) (by exact (nI_1 i).symm)
        exact L_38 (lc + 1) 0 (by omega) (by omega) _ _  (by rfl) (by exact nI_0)
      · have hlt := c_ngt (k := 5) rfl (by omega) c_9
        refine X_ldc2 12 dX6_addPlaceTo_12 kw_842 ?_
        refine X_lload 15 3 dX6_addPlaceTo_15 rfl ?_
        refine X_lmul 17 dX6_addPlaceTo_17 ?_
        refine X_aload_n 18 0 dX6_addPlaceTo_18 rfl rfl ?_
        refine X_iload_n 19 2 dX6_addPlaceTo_19 rfl rfl ?_
        refine X_iload 20 4 dX6_addPlaceTo_20 rfl ?_
        refine X_cVI 22 [.int _, .int _] (e_X6_placeValue c r lc la cn x y i _ (CIv_rf hI0 hp6_2) hx hy (by omega)) dX6_addPlaceTo_22 lm_RX6_153 2 ⟨wm_X6_placeValue, by decide +kernel, rfl, rfl⟩ rfl ⟨Nat.le_of_ble_eq_true rfl, Nat.le_of_ble_eq_true rfl⟩ lyL vc6 rfl rfl (Nat.le_of_ble_eq_true rfl) ?_
        rintro _ m2 ⟨rfl, hR⟩
        refine X_i2l 25 dX6_addPlaceTo_25 ?_
        refine X_ladd 26 dX6_addPlaceTo_26 ?_
        refine X_lstore 27 [(4, .long _), (0, .ref _), (1, .long _), (3, .int _), (6, .int _)] dX6_addPlaceTo_27 (by decide) rfl ?_
        refine X_iinc 29 4 (_ + 1) [(6, .int _), (4, .long _), (0, .ref _), (1, .long _), (3, .int _)] dX6_addPlaceTo_29 rfl rfl (by decide) rfl ?_
        refine X_goto 32 6 dX6_addPlaceTo_32 (by decide) ?_
        refine X_sub [2, 3, 4, 1, 0] [(0, .ref _), (1, .long _), (3, .int _), (4, .long _), (6, .int _)] rfl ?_
        exact ih_6 (i + 1) _ (by omega) (by omega) (RfP_Rf0 (Rf0_RfP hp6_2 hR)) (fun _ => Rf0_RfP hp6_2 hR) _ _  (by (show 31 * _ + _ = _; rw [plV_rf hp6_2.1])) (by exact (nI_1 i).symm)
  exact L_6 7 0 _ (by omega) (by omega) (Rf0_refl hI0) (fun q => absurd q (by omega)) _ _  (by rfl) (by exact nI_0)
theorem e_X6_addPlaceToJ (c r lc la cn : Nat) (h : Int64) (j : Nat) (μ : Mm) (hI : CIv μ c r lc la cn) (hj : j < c * r) : EvN ΛC mX6_addPlaceTo [.ref 109, .long h, .int (nI j)] μ (qL (fun v9 m => dgP μ lc c (j % c) (j / c) h = v9 ∧ Rf0 μ lc c r m)) := by
  have hxy := ix_of hj
  have e := e_X6_addPlaceTo c r lc la cn h (j % c) (j / c) μ hI hxy.1 hxy.2.1
  rw [hxy.2.2] at e
  exact e
set_option maxHeartbeats 4000000 in
set_option maxRecDepth 100000 in
theorem e_X6_digest (c r lc la cn : Nat) (μ : Mm) (hI : CIv μ c r lc la cn) : EvN ΛC mX6_digest [.ref 109] μ (qL (fun v9 m => dgV μ lc c r (μ 102 2) (nI cn) = v9 ∧ Rf0 μ lc c r m)) := by
  refine EvN_ofQ (by decide +kernel) rfl (fun _ => rfl) (fun _ => Nat.le_of_ble_eq_true rfl) (ls := [(0, .ref 109)]) ?_
  have hI0 := hI
  obtain ⟨hc, hr, hlc, hla, hcn, ⟨g1, g2, g3, g4, g5, g6, g7⟩, hv⟩ := hI
  have hcr := cr_le g2 g4
  refine X_ldc2 0 dX6_digest_0 kw_841 ?_
  refine X_lstore_n 3 [(1, .long _), (0, .ref _)] dX6_digest_3 rfl (by decide) rfl ?_
  refine X_ldc2 4 dX6_digest_4 kw_842 ?_
  refine X_lload_n 7 0 dX6_digest_7 rfl rfl ?_
  refine X_lmul 8 dX6_digest_8 ?_
  refine X_aload_n 9 1 dX6_digest_9 rfl rfl ?_
  refine X_getR (f := 3) 10 dX6_digest_10 lf_RX6_33 iw6 vc6 (by decide) lyL rfl ?_
  refine X_getI (f := 2) 13 dX6_digest_13 lf_RX6_241 iw2 vc2 (by decide) lyH rfl ?_
  rw [hcn]
  refine X_i2l 16 dX6_digest_16 ?_
  refine X_ladd 17 dX6_digest_17 ?_
  refine X_lstore_n 18 [(1, .long _), (0, .ref _)] dX6_digest_18 rfl (by decide) rfl ?_
  refine X_iconst 19 (0) dX6_digest_19 (by decide) ?_
  refine X_istore_n 20 [(3, .int _), (1, .long _), (0, .ref _)] dX6_digest_20 rfl (by decide) rfl ?_
  refine X_sub [2, 1, 0] [(0, .ref _), (1, .long _), (3, .int _)] rfl ?_
  have L_21 : ∀ (kf : Nat) (i : Nat) (m : Mm), i ≤ 15 → 15 < i + kf → Rf0 μ lc c r m → ∀ (x21_1 : Int64) (x21_3 : Int32), hF (31 * 43276 + (nI cn).toInt64) (whV μ lc c r (μ 102 2)) i = x21_1 → nI i = x21_3 → X false ΛC mX6_digest (QN (qL (fun v9 m => dgV μ lc c r (μ 102 2) (nI cn) = v9 ∧ Rf0 μ lc c r m))) 21 [(0, .ref 109), (1, .long x21_1), (3, .int x21_3)] [] m := by
    intro kf
    induction kf with
    | zero => intro i m hp21_0 hp21_1 hp21_2; exfalso; omega
    | succ kf ih_21 =>
      intro i m hp21_0 hp21_1 hp21_2 x21_1 x21_3
      rintro rfl rfl
      refine X_iload_n 21 2 dX6_digest_21 rfl rfl ?_
      refine X_bipush 22 (14) dX6_digest_22 (by decide) ?_
      refine X_icmp_gt 24 46 dX6_digest_24 (by decide) (fun c_24 => ?_) (fun c_24 => ?_)
      · have hge := c_gt (k := 14) rfl (by decide) (by omega) c_24
        have hie : i = 15 := by omega
        subst hie
        refine X_iconst 46 (0) dX6_digest_46 (by decide) ?_
        refine X_istore_n 47 [(3, .int _), (0, .ref _), (1, .long _)] dX6_digest_47 rfl (by decide) rfl ?_
        refine X_sub [1, 2, 0] [(0, .ref _), (1, .long _), (3, .int _)] rfl ?_
        have L_48 : ∀ (kf : Nat) (k : Nat) (m : Mm), k ≤ lc → lc < k + kf → Rf0 μ lc c r m → ∀ (x48_1 : Int64) (x48_3 : Int32), dgLs μ lc c r (hF (31 * 43276 + (nI cn).toInt64) (whV μ lc c r (μ 102 2)) 15) k = x48_1 → nI k = x48_3 → X false ΛC mX6_digest (QN (qL (fun v9 m => dgV μ lc c r (μ 102 2) (nI cn) = v9 ∧ Rf0 μ lc c r m))) 48 [(0, .ref 109), (1, .long x48_1), (3, .int x48_3)] [] m := by
          intro kf
          induction kf with
          | zero => intro k m hp48_0 hp48_1 hp48_2; exfalso; omega
          | succ kf ih_48 =>
            intro k m hp48_0 hp48_1 hp48_2 x48_1 x48_3
            rintro rfl rfl
            have hmlc : m 0 5 = nI lc := (Rf0_s hp48_2 5 (by decide)).trans hlc
            refine X_iload_n 48 2 dX6_digest_48 rfl rfl ?_
            refine X_aload_n 49 0 dX6_digest_49 rfl rfl ?_
            refine X_getR (f := 0) 50 dX6_digest_50 lf_RX6_12 iw6 vc6 (by decide) lyL rfl ?_
            refine X_getI (f := 5) 53 dX6_digest_53 lf_RX6_198 iw4 vc4 (by decide) (lyS 0 (Or.inl rfl)) rfl ?_
            refine X_icmp_ge 56 72 dX6_digest_56 (by decide) (fun c_56 => ?_) (fun c_56 => ?_)
            · have hge : lc ≤ k := c_ge hmlc (by omega) (by omega) c_56
              have hie : lc = k := by omega
              subst hie
              refine X_iconst 72 (0) dX6_digest_72 (by decide) ?_
              refine X_istore_n 73 [(3, .int _), (0, .ref _), (1, .long _)] dX6_digest_73 rfl (by decide) rfl ?_
              refine X_sub [1, 2, 0] [(0, .ref _), (1, .long _), (3, .int _)] rfl ?_
              have L_74 : ∀ (kf : Nat) (j : Nat) (m : Mm), j ≤ c * r → c * r < j + kf → Rf0 μ lc c r m → ∀ (x74_1 : Int64) (x74_3 : Int32), dgPs μ lc c (dgLs μ lc c r (hF (31 * 43276 + (nI cn).toInt64) (whV μ lc c r (μ 102 2)) 15) lc) j = x74_1 → nI j = x74_3 → X false ΛC mX6_digest (QN (qL (fun v9 m => dgV μ lc c r (μ 102 2) (nI cn) = v9 ∧ Rf0 μ lc c r m))) 74 [(0, .ref 109), (1, .long x74_1), (3, .int x74_3)] [] m := by
                intro kf
                induction kf with
                | zero => intro j m hp74_0 hp74_1 hp74_2; exfalso; omega
                | succ kf ih_74 =>
                  intro j m hp74_0 hp74_1 hp74_2 x74_1 x74_3
                  rintro rfl rfl
                  have hmc : m 0 0 = nI c := (Rf0_s hp74_2 0 (by decide)).trans hc
                  have hmr : m 0 1 = nI r := (Rf0_s hp74_2 1 (by decide)).trans hr
                  refine X_iload_n 74 2 dX6_digest_74 rfl rfl ?_
                  refine X_aload_n 75 0 dX6_digest_75 rfl rfl ?_
                  refine X_getR (f := 0) 76 dX6_digest_76 lf_RX6_12 iw6 vc6 (by decide) lyL rfl ?_
                  refine X_cVI 79 [] (e_X4_placeCount 0 (Or.inl rfl) _) dX6_digest_79 lm_RX6_56 0 ⟨wm_X4_placeCount, by decide +kernel, rfl, rfl⟩ rfl ⟨Nat.le_of_ble_eq_true rfl, Nat.le_of_ble_eq_true rfl⟩ (lyS 0 (Or.inl rfl)) vc4 rfl rfl (Nat.le_of_ble_eq_true rfl) ?_
                  rintro _ _ ⟨rfl, rfl⟩
                  rw [hmc, hmr, pk_mul]
                  refine X_icmp_ge 82 98 dX6_digest_82 (by decide) (fun c_82 => ?_) (fun c_82 => ?_)
                  · have hge : c * r ≤ j := c_ge rfl (by omega) (by omega) c_82
                    have hie : j = c * r := by omega
                    refine X_lload_n 98 1 dX6_digest_98 rfl rfl ?_
                    refine X_lret 99 dX6_digest_99 rfl ⟨_, rfl, _, rfl, ?_⟩
                    refine ⟨?_, hp74_2⟩
                    rw [hie]; rfl
                  · have hlt : j < c * r := c_lt rfl (by omega) (by omega) c_82
                    have hxy := ix_of hlt
                    refine X_aload_n 85 0 dX6_digest_85 rfl rfl ?_
                    refine X_lload_n 86 1 dX6_digest_86 rfl rfl ?_
                    refine X_iload_n 87 2 dX6_digest_87 rfl rfl ?_
                    refine X_cVL 88 [.long _, .int _] (e_X6_addPlaceToJ c r lc la cn _ j _ (CIv_rf hI0 hp74_2) hlt) dX6_digest_88 lm_RX6_255 2 ⟨wm_X6_addPlaceTo, by decide +kernel, rfl, rfl⟩ rfl ⟨Nat.le_of_ble_eq_true rfl, Nat.le_of_ble_eq_true rfl⟩ lyL vc6 rfl rfl (Nat.le_of_ble_eq_true rfl) ?_
                    rintro _ m2 ⟨rfl, hR⟩
                    refine X_lstore_n 91 [(1, .long _), (0, .ref _), (3, .int _)] dX6_digest_91 rfl (by decide) rfl ?_
                    refine X_iinc 92 2 (_ + 1) [(3, .int _), (1, .long _), (0, .ref _)] dX6_digest_92 rfl rfl (by decide) rfl ?_
                    refine X_goto 95 74 dX6_digest_95 (by decide) ?_
                    refine X_sub [2, 1, 0] [(0, .ref _), (1, .long _), (3, .int _)] rfl ?_
                    exact ih_74 (j + 1) _ (by omega) (by omega) (Rf0_trans hp74_2 hR) _ _  (by exact dgP_rf hp74_2.1) (by exact (nI_1 j).symm)
              exact L_74 (c * r + 1) 0 _ (by omega) (by omega) hp48_2 _ _  (by rfl) (by exact nI_0)
            · have hlt : k < lc := c_lt hmlc (by omega) (by omega) c_56
              refine X_aload_n 59 0 dX6_digest_59 rfl rfl ?_
              refine X_lload_n 60 1 dX6_digest_60 rfl rfl ?_
              refine X_iload_n 61 2 dX6_digest_61 rfl rfl ?_
              refine X_cVL 62 [.long _, .int _] (e_X6_addLampTo c r lc la cn _ k _ (CIv_rf hI0 hp48_2) hlt) dX6_digest_62 lm_RX6_251 2 ⟨wm_X6_addLampTo, by decide +kernel, rfl, rfl⟩ rfl ⟨Nat.le_of_ble_eq_true rfl, Nat.le_of_ble_eq_true rfl⟩ lyL vc6 rfl rfl (Nat.le_of_ble_eq_true rfl) ?_
              rintro _ m2 ⟨rfl, hR⟩
              refine X_lstore_n 65 [(1, .long _), (0, .ref _), (3, .int _)] dX6_digest_65 rfl (by decide) rfl ?_
              refine X_iinc 66 2 (_ + 1) [(3, .int _), (1, .long _), (0, .ref _)] dX6_digest_66 rfl rfl (by decide) rfl ?_
              refine X_goto 69 48 dX6_digest_69 (by decide) ?_
              refine X_sub [2, 1, 0] [(0, .ref _), (1, .long _), (3, .int _)] rfl ?_
              exact ih_48 (k + 1) _ (by omega) (by omega) (Rf0_trans hp48_2 hR) _ _  (by exact dgL_rf hp48_2.1) (by exact (nI_1 k).symm)
        exact L_48 (lc + 1) 0 _ (by omega) (by omega) hp21_2 _ _  (by rfl) (by exact nI_0)
      · have hlt := c_ngt (k := 14) rfl (by omega) c_24
        refine X_ldc2 27 dX6_digest_27 kw_842 ?_
        refine X_lload_n 30 1 dX6_digest_30 rfl rfl ?_
        refine X_lmul 31 dX6_digest_31 ?_
        refine X_aload_n 32 0 dX6_digest_32 rfl rfl ?_
        refine X_iload_n 33 2 dX6_digest_33 rfl rfl ?_
        refine X_cVI 34 [.int _] (e_X6_wholeValue c r lc la cn i _ (CIv_rf hI0 hp21_2) (by omega)) dX6_digest_34 lm_RX6_183 1 ⟨wm_X6_wholeValue, by decide +kernel, rfl, rfl⟩ rfl ⟨Nat.le_of_ble_eq_true rfl, Nat.le_of_ble_eq_true rfl⟩ lyL vc6 rfl rfl (Nat.le_of_ble_eq_true rfl) ?_
        rintro _ m2 ⟨rfl, hR⟩
        refine X_i2l 37 dX6_digest_37 ?_
        refine X_ladd 38 dX6_digest_38 ?_
        refine X_lstore_n 39 [(1, .long _), (0, .ref _), (3, .int _)] dX6_digest_39 rfl (by decide) rfl ?_
        refine X_iinc 40 2 (_ + 1) [(3, .int _), (1, .long _), (0, .ref _)] dX6_digest_40 rfl rfl (by decide) rfl ?_
        refine X_goto 43 21 dX6_digest_43 (by decide) ?_
        refine X_sub [2, 1, 0] [(0, .ref _), (1, .long _), (3, .int _)] rfl ?_
        exact ih_21 (i + 1) _ (by omega) (by omega) (RfP_Rf0 (Rf0_RfP hp21_2 hR)) _ _  (by (show 31 * _ + _ = _; rw [whV_rf hp21_2.1, hp21_2.1 102 2 (by omega) (by omega) (by omega) (by omega)])) (by exact (nI_1 i).symm)
  exact L_21 16 0 _ (by omega) (by omega) (Rf0_refl hI0) _ _  (by rfl) (by exact nI_0)
