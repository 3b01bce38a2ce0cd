set_option maxHeartbeats 4000000 in
set_option maxRecDepth 100000 in
theorem e_X7_type (L : Nat) (v : Int32) (μ : Mm) (h5 : μ 0 5 = nI L) (hL : L ≤ 150) : EvN ΛM mX7_type [.ref 0, .int v] μ (qI (fun x m => (¬ rgI v 0 127 ∧ m 0 6 = 1 ∧ KP μ m) ∨ (rgI v 0 127 ∧ ¬ L < 150 ∧ m 0 6 = 2 ∧ KP μ m) ∨ (rgI v 0 127 ∧ L < 150 ∧ nI (L + 1) = x ∧ uM (uM (uM μ 4 L v) 0 5 (nI (L + 1))) 0 6 0 = m))) := by
  refine EvN_ofQ (by decide +kernel) rfl (fun _ => rfl) (fun _ => Nat.le_of_ble_eq_true rfl) (ls := [(0, .ref 0), (1, .int v)]) ?_
  refine X_iload_n 0 1 dX7_type_0 rfl rfl ?_
  refine X_iconst 1 (0) dX7_type_1 (by decide) ?_
  refine X_bipush 2 (127) dX7_type_2 (by decide) ?_
  refine X_cSI 4 [.int _, .int _, .int _] (e_X7_in _ _ _ _) dX7_type_4 lm_RX7_41 3 ⟨wm_X7_in, by decide +kernel, rfl, rfl⟩ rfl ⟨Nat.le_of_ble_eq_true rfl, Nat.le_of_ble_eq_true rfl⟩ rfl (Nat.le_of_ble_eq_true rfl) ?_
  rintro _ _ ⟨rfl, ⟨rfl, b_4⟩ | ⟨rfl, b_4⟩⟩
  · refine X_if_ne 7 16 dX7_type_7 (by decide) (fun _ => ?_) (fun c_0 => by exact absurd c_0 (by decide))
    refine X_aload_n 16 0 dX7_type_16 rfl rfl ?_
    refine X_getI (f := 5) 17 dX7_type_17 lf_RX7_208 iw7 vc7 (by decide) lyM rfl ?_
    refine X_sipush 20 (150) dX7_type_20 (by decide) ?_
    rw [h5]
    refine X_icmp_ne 23 32 dX7_type_23 (by decide) (fun c_23 => ?_) (fun c_23 => ?_)
    · have hl : L < 150 := by
        rcases Nat.lt_or_ge L 150 with q | q
        · exact q
        · exact absurd (by rw [show L = 150 by omega]; rfl) c_23
      refine X_aload_n 32 0 dX7_type_32 rfl rfl ?_
      refine X_getR (f := 4) 33 dX7_type_33 lf_RX7_19 iw7 vc7 (by decide) lyM rfl ?_
      refine X_aload_n 36 0 dX7_type_36 rfl rfl ?_
      refine X_getI (f := 5) 37 dX7_type_37 lf_RX7_208 iw7 vc7 (by decide) lyM rfl ?_
      refine X_iload_n 40 1 dX7_type_40 rfl rfl ?_
      rw [h5]
      refine X_iast 41 dX7_type_41 lyM4 (vp_in_nI (N := 150) hl (by decide)) ?_
      rw [nI_clamp (by omega)]
      refine X_aload_n 42 0 dX7_type_42 rfl rfl ?_
      refine X_dupr 43 dX7_type_43 ?_
      refine X_getI (f := 5) 44 dX7_type_44 lf_RX7_208 iw7 vc7 (by decide) lyM rfl ?_
      rw [uM_n (by omega), h5]
      refine X_iconst 47 (1) dX7_type_47 (by decide) ?_
      refine X_iadd 48 dX7_type_48 ?_
      rw [nI_1]
      refine X_putI (f := 5) 49 dX7_type_49 lf_RX7_208 iw7 vc7 (by decide) lyM tyX7_ok nmX7 rfl rfl rfl (by decide) rfl rfl ?_
      refine X_aload_n 52 0 dX7_type_52 rfl rfl ?_
      refine X_aload_n 53 0 dX7_type_53 rfl rfl ?_
      refine X_getI (f := 5) 54 dX7_type_54 lf_RX7_208 iw7 vc7 (by decide) lyM rfl ?_
      rw [uM_s]
      refine X_cVI 57 [.int _] (e_X7_tells _ _) dX7_type_57 lm_RX7_58 1 ⟨wm_X7_tells, by decide +kernel, rfl, rfl⟩ rfl ⟨Nat.le_of_ble_eq_true rfl, Nat.le_of_ble_eq_true rfl⟩ lyM vc7 rfl rfl (Nat.le_of_ble_eq_true rfl) ?_
      rintro _ _ ⟨rfl, rfl⟩
      refine X_iret 60 dX7_type_60 rfl rfl ⟨_, rfl, _, rfl, ?_⟩
      exact Or.inr (Or.inr ⟨b_4, hl, rfl, rfl⟩)
    · have hl : ¬ L < 150 := fun q => by
        have e : L = 150 := (nI_eq (b := 150) (by omega) (by decide)).mp c_23
        omega
      refine X_aload_n 26 0 dX7_type_26 rfl rfl ?_
      refine X_iconst 27 (2) dX7_type_27 (by decide) ?_
      refine X_cVI 28 [.int _] (e_X7_fails _ _) dX7_type_28 lm_RX7_48 1 ⟨wm_X7_fails, by decide +kernel, rfl, rfl⟩ rfl ⟨Nat.le_of_ble_eq_true rfl, Nat.le_of_ble_eq_true rfl⟩ lyM vc7 rfl rfl (Nat.le_of_ble_eq_true rfl) ?_
      rintro _ _ ⟨rfl, rfl⟩
      refine X_iret 31 dX7_type_31 rfl rfl ⟨_, rfl, _, rfl, ?_⟩
      exact Or.inr (Or.inl ⟨b_4, hl, uM_s _ _ _ _, KP_u⟩)
  · refine X_if_ne 7 16 dX7_type_7 (by decide) (fun c_0 => by exact absurd c_0 (by decide)) (fun _ => ?_)
    refine X_aload_n 10 0 dX7_type_10 rfl rfl ?_
    refine X_iconst 11 (1) dX7_type_11 (by decide) ?_
    refine X_cVI 12 [.int _] (e_X7_fails _ _) dX7_type_12 lm_RX7_48 1 ⟨wm_X7_fails, by decide +kernel, rfl, rfl⟩ rfl ⟨Nat.le_of_ble_eq_true rfl, Nat.le_of_ble_eq_true rfl⟩ lyM vc7 rfl rfl (Nat.le_of_ble_eq_true rfl) ?_
    rintro _ _ ⟨rfl, rfl⟩
    refine X_iret 15 dX7_type_15 rfl rfl ⟨_, rfl, _, rfl, ?_⟩
    exact Or.inl ⟨b_4, uM_s _ _ _ _, KP_u⟩
set_option maxHeartbeats 4000000 in
set_option maxRecDepth 100000 in
theorem e_X7_clearCommands  (μ : Mm) : EvN ΛM mX7_clearCommands [.ref 0] μ (qI (fun x m => μ 0 5 = x ∧ uM (uM μ 0 5 0) 0 6 0 = m)) := by
  refine EvN_ofQ (by decide +kernel) rfl (fun _ => rfl) (fun _ => Nat.le_of_ble_eq_true rfl) (ls := [(0, .ref 0)]) ?_
  refine X_aload_n 0 0 dX7_clearCommands_0 rfl rfl ?_
  refine X_getI (f := 5) 1 dX7_clearCommands_1 lf_RX7_208 iw7 vc7 (by decide) lyM rfl ?_
  refine X_istore_n 4 [(1, .int _), (0, .ref _)] dX7_clearCommands_4 rfl (by decide) rfl ?_
  refine X_aload_n 5 1 dX7_clearCommands_5 rfl rfl ?_
  refine X_iconst 6 (0) dX7_clearCommands_6 (by decide) ?_
  refine X_putI (f := 5) 7 dX7_clearCommands_7 lf_RX7_208 iw7 vc7 (by decide) lyM tyX7_ok nmX7 rfl rfl rfl (by decide) rfl rfl ?_
  refine X_aload_n 10 1 dX7_clearCommands_10 rfl rfl ?_
  refine X_iload_n 11 0 dX7_clearCommands_11 rfl rfl ?_
  refine X_cVI 12 [.int _] (e_X7_tells _ _) dX7_clearCommands_12 lm_RX7_58 1 ⟨wm_X7_tells, by decide +kernel, rfl, rfl⟩ rfl ⟨Nat.le_of_ble_eq_true rfl, Nat.le_of_ble_eq_true rfl⟩ lyM vc7 rfl rfl (Nat.le_of_ble_eq_true rfl) ?_
  rintro _ _ ⟨rfl, rfl⟩
  refine X_iret 15 dX7_clearCommands_15 rfl rfl ⟨_, rfl, _, rfl, ?_⟩
  exact ⟨rfl, rfl⟩
set_option maxHeartbeats 4000000 in
set_option maxRecDepth 100000 in
theorem e_X7_mix (v : Int32) (μ : Mm) : EvN ΛM mX7_mix [.ref 0, .int v] μ (qV (fun m => uL μ 0 22 (31 * jL (μ 0 22) (μ 0 1022) + v.toInt64) = m)) := by
  refine EvN_ofQ (by decide +kernel) rfl (fun _ => rfl) (fun _ => Nat.le_of_ble_eq_true rfl) (ls := [(0, .ref 0), (1, .int v)]) ?_
  refine X_aload_n 0 0 dX7_mix_0 rfl rfl ?_
  refine X_ldc2 1 dX7_mix_1 kw_1488 ?_
  refine X_aload_n 4 0 dX7_mix_4 rfl rfl ?_
  refine X_getL (f := 22) 5 dX7_mix_5 lf_RX7_263 iw7 vc7 (by decide) lyM rfl ?_
  refine X_lmul 8 dX7_mix_8 ?_
  refine X_iload_n 9 1 dX7_mix_9 rfl rfl ?_
  refine X_i2l 10 dX7_mix_10 ?_
  refine X_ladd 11 dX7_mix_11 ?_
  refine X_putL (f := 22) 12 dX7_mix_12 lf_RX7_263 iw7 vc7 (by decide) lyM tyX7_ok nmX7 rfl rfl rfl (by decide) rfl rfl ?_
  refine X_vret 15 dX7_mix_15 rfl ⟨_, rfl, rfl, ?_⟩
  rfl
set_option maxHeartbeats 4000000 in
set_option maxRecDepth 100000 in
theorem e_X7_mixPlace (V : Mm) (c r lc : Nat) (x y : Nat) (h : Int64) (m0 : Mm) (μ : Mm) (hM : MI V c r lc m0) (hx : x < c) (hy : y < r) (hh : HM m0 h μ) : EvN ΛM mX7_mixPlace [.ref 0, .int (nI x), .int (nI y)] μ (qV (HM m0 (dgP V lc c x y h))) := by
  refine EvN_ofQ (by decide +kernel) rfl (fun _ => rfl) (fun _ => Nat.le_of_ble_eq_true rfl) (ls := [(0, .ref 0), (1, .int (nI x)), (2, .int (nI y))]) ?_
  obtain ⟨⟨hc1, hc2⟩, ⟨hr1, hr2⟩, h8⟩ := MI_lc hM
  refine X_iconst 0 (0) dX7_mixPlace_0 (by decide) ?_
  refine X_istore_n 1 [(3, .int _), (0, .ref _), (1, .int _), (2, .int _)] dX7_mixPlace_1 rfl (by decide) rfl ?_
  refine X_sub [1, 2, 3, 0] [(0, .ref _), (1, .int _), (2, .int _), (3, .int _)] rfl ?_
  have L_2 : ∀ (kf : Nat) (i : Nat) (m : Mm), i ≤ 6 → 6 < i + kf → HM m0 (hF h (plV V lc c x y) i) m → ∀ (x2_3 : Int32), nI i = x2_3 → X false ΛM mX7_mixPlace (QN (qV (HM m0 (dgP V lc c x y h)))) 2 [(0, .ref 0), (1, .int (nI x)), (2, .int (nI y)), (3, .int x2_3)] [] m := by
    intro kf
    induction kf with
    | zero => intro i m hp2_0 hp2_1 hp2_2; exfalso; omega
    | succ kf ih_2 =>
      intro i m hp2_0 hp2_1 hp2_2 x2_3
      rintro rfl
      refine X_iload_n 2 3 dX7_mixPlace_2 rfl rfl ?_
      refine X_bipush 3 (6) dX7_mixPlace_3 (by decide) ?_
      refine X_icmp_ge 5 25 dX7_mixPlace_5 (by decide) (fun c_5 => ?_) (fun c_5 => ?_)
      · have hge := c_ge (k := 6) rfl (by omega) (by omega) c_5
        have hie : 6 = i := by omega
        subst hie
        refine X_iconst 25 (0) dX7_mixPlace_25 (by decide) ?_
        refine X_istore_n 26 [(3, .int _), (0, .ref _), (1, .int _), (2, .int _)] dX7_mixPlace_26 rfl (by decide) rfl ?_
        refine X_sub [1, 2, 3, 0] [(0, .ref _), (1, .int _), (2, .int _), (3, .int _)] rfl ?_
        have L_27 : ∀ (kf : Nat) (n : Nat) (m : Mm), n ≤ lc → lc < n + kf → HM m0 (hF (hF h (plV V lc c x y) 6) (fun k => if bitB (cvP V 0 (zzS V lc) (V 0 2) (V 0 3) x y) k = true then ltP V 0 (zzS V lc) (V 0 2) (V 0 3) c x y k else -1000) n) m → ∀ (x27_3 : Int32), nI n = x27_3 → X false ΛM mX7_mixPlace (QN (qV (HM m0 (dgP V lc c x y h)))) 27 [(0, .ref 0), (1, .int (nI x)), (2, .int (nI y)), (3, .int x27_3)] [] m := by
          intro kf
          induction kf with
          | zero => intro n m hp27_0 hp27_1 hp27_2; exfalso; omega
          | succ kf ih_27 =>
            intro n m hp27_0 hp27_1 hp27_2 x27_3
            rintro rfl
            refine X_iload_n 27 3 dX7_mixPlace_27 rfl rfl ?_
            refine X_aload_n 28 0 dX7_mixPlace_28 rfl rfl ?_
            refine X_getR (f := 0) 29 dX7_mixPlace_29 lf_RX7_7 iw7 vc7 (by decide) lyM rfl ?_
            refine X_iconst 32 (4) dX7_mixPlace_32 (by decide) ?_
            refine X_iald 33 dX7_mixPlace_33 lyM1 (vp_in_nI (n := 4) (by decide) (by decide)) ?_
            rw [cl4]
            rw [(MI_D hM hp27_2.1).1.1.2.2.1]
            refine X_icmp_ge 34 54 dX7_mixPlace_34 (by decide) (fun c_34 => ?_) (fun c_34 => ?_)
            · have hge : lc ≤ n := c_ge rfl (by omega) (by omega) c_34
              have hie : lc = n := by omega
              subst hie
              refine X_vret 54 dX7_mixPlace_54 rfl ⟨_, rfl, rfl, ?_⟩
              exact hp27_2
            · have hlt : n < lc := c_lt rfl (by omega) (by omega) c_34
              have hn8 : n < 8 := by omega
              refine X_aload_n 37 0 dX7_mixPlace_37 rfl rfl ?_
              refine X_aload_n 38 0 dX7_mixPlace_38 rfl rfl ?_
              refine X_iload_n 39 3 dX7_mixPlace_39 rfl rfl ?_
              refine X_iload_n 40 1 dX7_mixPlace_40 rfl rfl ?_
              refine X_iload_n 41 2 dX7_mixPlace_41 rfl rfl ?_
              refine X_cVI 42 [.int _, .int _, .int _] (e_X7_lightOf V c r lc n x y _ (MI_D hM hp27_2.1) hx hy hlt) dX7_mixPlace_42 lm_RX7_199 3 ⟨wm_X7_lightOf, by decide +kernel, rfl, rfl⟩ rfl ⟨Nat.le_of_ble_eq_true rfl, Nat.le_of_ble_eq_true rfl⟩ lyM vc7 rfl rfl (Nat.le_of_ble_eq_true rfl) ?_
              rintro _ m9 ⟨rfl, hS9⟩
              have hH9 := HM_c hp27_2 hS9
              refine X_cVV 45 [.int _] (e_X7_mix _ _) dX7_mixPlace_45 lm_RX7_267 1 ⟨wm_X7_mix, by decide +kernel, rfl, rfl⟩ rfl ⟨Nat.le_of_ble_eq_true rfl, Nat.le_of_ble_eq_true rfl⟩ lyM vc7 rfl rfl (Nat.le_of_ble_eq_true rfl) ?_
              rintro _ rfl
              rw [hH9.2]
              refine X_iinc 48 3 (_ + 1) [(3, .int _), (0, .ref _), (1, .int _), (2, .int _)] dX7_mixPlace_48 rfl rfl (by decide) rfl ?_
              refine X_goto 51 27 dX7_mixPlace_51 (by decide) ?_
              refine X_sub [1, 2, 3, 0] [(0, .ref _), (1, .int _), (2, .int _), (3, .int _)] rfl ?_
              exact ih_27 (n + 1) _ (by omega) (by omega) (HM_x hH9) _  (by exact (nI_1 n).symm)
        exact L_27 (lc + 1) 0 _ (by omega) (by omega) hp2_2 _  (by exact nI_0)
      · have hltn := c_lt (k := 6) rfl (by omega) (by omega) c_5
        refine X_aload_n 8 0 dX7_mixPlace_8 rfl rfl ?_
        refine X_aload_n 9 0 dX7_mixPlace_9 rfl rfl ?_
        refine X_iload_n 10 1 dX7_mixPlace_10 rfl rfl ?_
        refine X_iload_n 11 2 dX7_mixPlace_11 rfl rfl ?_
        refine X_iload_n 12 3 dX7_mixPlace_12 rfl rfl ?_
        refine X_cVI 13 [.int _, .int _, .int _] (e_X7_placeOf V c r lc x y i _ (MI_D hM hp2_2.1) hx hy (by omega)) dX7_mixPlace_13 lm_RX7_196 3 ⟨wm_X7_placeOf, by decide +kernel, rfl, rfl⟩ rfl ⟨Nat.le_of_ble_eq_true rfl, Nat.le_of_ble_eq_true rfl⟩ lyM vc7 rfl rfl (Nat.le_of_ble_eq_true rfl) ?_
        rintro _ m9 ⟨rfl, hS9⟩
        have hH9 := HM_c hp2_2 hS9
        refine X_cVV 16 [.int _] (e_X7_mix _ _) dX7_mixPlace_16 lm_RX7_267 1 ⟨wm_X7_mix, by decide +kernel, rfl, rfl⟩ rfl ⟨Nat.le_of_ble_eq_true rfl, Nat.le_of_ble_eq_true rfl⟩ lyM vc7 rfl rfl (Nat.le_of_ble_eq_true rfl) ?_
        rintro _ rfl
        rw [hH9.2]
        refine X_iinc 19 3 (_ + 1) [(3, .int _), (0, .ref _), (1, .int _), (2, .int _)] dX7_mixPlace_19 rfl rfl (by decide) rfl ?_
        refine X_goto 22 2 dX7_mixPlace_22 (by decide) ?_
        refine X_sub [1, 2, 3, 0] [(0, .ref _), (1, .int _), (2, .int _), (3, .int _)] rfl ?_
        exact ih_2 (i + 1) _ (by omega) (by omega) (HM_x hH9) _  (by exact (nI_1 i).symm)
  exact L_2 7 0 _ (by omega) (by omega) hh _  (by exact nI_0)
set_option maxHeartbeats 4000000 in
set_option maxRecDepth 100000 in
theorem e_X7_digest (V : Mm) (c r lc pn : Nat) (μ : Mm) (hM : MI V c r lc μ) (hV : HVd V c r lc) (h3 : μ 0 3 = nI pn) : EvN ΛM mX7_digest [.ref 0] μ (qL (fun v m => dgV V lc c r (μ 0 5) (nI pn) = v ∧ m 0 6 = 0 ∧ KP μ m)) := by
  refine EvN_ofQ (by decide +kernel) rfl (fun _ => rfl) (fun _ => Nat.le_of_ble_eq_true rfl) (ls := [(0, .ref 0)]) ?_
  obtain ⟨⟨hc1, hc2⟩, ⟨hr1, hr2⟩, h8⟩ := MI_lc hM
  refine X_aload_n 0 0 dX7_digest_0 rfl rfl ?_
  refine X_iconst 1 (0) dX7_digest_1 (by decide) ?_
  refine X_putI (f := 6) 2 dX7_digest_2 lf_RX7_38 iw7 vc7 (by decide) lyM tyX7_ok nmX7 rfl rfl rfl (by decide) rfl rfl ?_
  refine X_aload_n 5 0 dX7_digest_5 rfl rfl ?_
  refine X_ldc2 6 dX7_digest_6 kw_1483 ?_
  refine X_putL (f := 22) 9 dX7_digest_9 lf_RX7_263 iw7 vc7 (by decide) lyM tyX7_ok nmX7 rfl rfl rfl (by decide) rfl rfl ?_
  have hH0 : HM (uM μ 0 6 0) 43276 (uL (uM μ 0 6 0) 0 22 43276) := ⟨fun p q h1 h5 h6 => by unfold uL; rw [uM_n (by omega), uM_n (by omega)], jL_uL _ _⟩
  have hM6 := MI_6 (v := 0) hM
  refine X_aload_n 12 0 dX7_digest_12 rfl rfl ?_
  refine X_aload_n 13 0 dX7_digest_13 rfl rfl ?_
  refine X_getI (f := 3) 14 dX7_digest_14 lf_RX7_45 iw7 vc7 (by decide) lyM rfl ?_
  rw [hH0.1 0 3 (by decide) (by decide) (by decide), uM_n (by omega), h3]
  refine X_cVV 17 [.int _] (e_X7_mix _ _) dX7_digest_17 lm_RX7_267 1 ⟨wm_X7_mix, by decide +kernel, rfl, rfl⟩ rfl ⟨Nat.le_of_ble_eq_true rfl, Nat.le_of_ble_eq_true rfl⟩ lyM vc7 rfl rfl (Nat.le_of_ble_eq_true rfl) ?_
  rintro _ rfl
  rw [hH0.2]
  refine X_iconst 20 (0) dX7_digest_20 (by decide) ?_
  refine X_istore_n 21 [(1, .int _), (0, .ref _)] dX7_digest_21 rfl (by decide) rfl ?_
  refine X_sub [1, 0] [(0, .ref _), (1, .int _)] rfl ?_
  have L_22 : ∀ (kf : Nat) (i : Nat) (m : Mm), i ≤ 15 → 15 < i + kf → HM (uM μ 0 6 0) (hF (31 * 43276 + (nI pn).toInt64) (whV V lc c r (μ 0 5)) i) m → ∀ (x22_1 : Int32), nI i = x22_1 → X false ΛM mX7_digest (QN (qL (fun v m => dgV V lc c r (μ 0 5) (nI pn) = v ∧ m 0 6 = 0 ∧ KP μ m))) 22 [(0, .ref 0), (1, .int x22_1)] [] m := by
    intro kf
    induction kf with
    | zero => intro i m hp22_0 hp22_1 hp22_2; exfalso; omega
    | succ kf ih_22 =>
      intro i m hp22_0 hp22_1 hp22_2 x22_1
      rintro rfl
      refine X_iload_n 22 1 dX7_digest_22 rfl rfl ?_
      refine X_bipush 23 (15) dX7_digest_23 (by decide) ?_
      refine X_icmp_ge 25 43 dX7_digest_25 (by decide) (fun c_25 => ?_) (fun c_25 => ?_)
      · have hge := c_ge (k := 15) rfl (by omega) (by omega) c_25
        have hie : 15 = i := by omega
        subst hie
        refine X_iconst 43 (0) dX7_digest_43 (by decide) ?_
        refine X_istore_n 44 [(1, .int _), (0, .ref _)] dX7_digest_44 rfl (by decide) rfl ?_
        refine X_sub [1, 0] [(0, .ref _), (1, .int _)] rfl ?_
        have L_45 : ∀ (kf : Nat) (n : Nat) (m : Mm), n ≤ lc → lc < n + kf → HM (uM μ 0 6 0) (dgLs V lc c r (hF (31 * 43276 + (nI pn).toInt64) (whV V lc c r (μ 0 5)) 15) n) m → ∀ (x45_1 : Int32), nI n = x45_1 → X false ΛM mX7_digest (QN (qL (fun v m => dgV V lc c r (μ 0 5) (nI pn) = v ∧ m 0 6 = 0 ∧ KP μ m))) 45 [(0, .ref 0), (1, .int x45_1)] [] m := by
          intro kf
          induction kf with
          | zero => intro n m hp45_0 hp45_1 hp45_2; exfalso; omega
          | succ kf ih_45 =>
            intro n m hp45_0 hp45_1 hp45_2 x45_1
            rintro rfl
            refine X_iload_n 45 1 dX7_digest_45 rfl rfl ?_
            refine X_aload_n 46 0 dX7_digest_46 rfl rfl ?_
            refine X_getR (f := 0) 47 dX7_digest_47 lf_RX7_7 iw7 vc7 (by decide) lyM rfl ?_
            refine X_iconst 50 (4) dX7_digest_50 (by decide) ?_
            refine X_iald 51 dX7_digest_51 lyM1 (vp_in_nI (n := 4) (by decide) (by decide)) ?_
            rw [cl4]
            rw [(MI_D hM6 hp45_2.1).1.1.2.2.1]
            refine X_icmp_ge 52 122 dX7_digest_52 (by decide) (fun c_52 => ?_) (fun c_52 => ?_)
            · have hge : lc ≤ n := c_ge rfl (by omega) (by omega) c_52
              have hie : lc = n := by omega
              subst hie
              refine X_iconst 122 (0) dX7_digest_122 (by decide) ?_
              refine X_istore_n 123 [(1, .int _), (0, .ref _)] dX7_digest_123 rfl (by decide) rfl ?_
              refine X_sub [1, 0] [(0, .ref _), (1, .int _)] rfl ?_
              have L_124 : ∀ (kf : Nat) (y : Nat) (m : Mm), y ≤ r → r < y + kf → HM (uM μ 0 6 0) (dgPs V lc c (dgLs V lc c r (hF (31 * 43276 + (nI pn).toInt64) (whV V lc c r (μ 0 5)) 15) lc) (y * c)) m → ∀ (x124_1 : Int32), nI y = x124_1 → X false ΛM mX7_digest (QN (qL (fun v m => dgV V lc c r (μ 0 5) (nI pn) = v ∧ m 0 6 = 0 ∧ KP μ m))) 124 [(0, .ref 0), (1, .int x124_1)] [] m := by
                intro kf
                induction kf with
                | zero => intro y m hp124_0 hp124_1 hp124_2; exfalso; omega
                | succ kf ih_124 =>
                  intro y m hp124_0 hp124_1 hp124_2 x124_1
                  rintro rfl
                  refine X_iload_n 124 1 dX7_digest_124 rfl rfl ?_
                  refine X_aload_n 125 0 dX7_digest_125 rfl rfl ?_
                  refine X_getR (f := 0) 126 dX7_digest_126 lf_RX7_7 iw7 vc7 (by decide) lyM rfl ?_
                  refine X_iconst 129 (1) dX7_digest_129 (by decide) ?_
                  refine X_iald 130 dX7_digest_130 lyM1 (vp_in_nI (n := 1) (by decide) (by decide)) ?_
                  rw [cl1]
                  rw [(MI_D hM6 hp124_2.1).1.1.2.1]
                  refine X_icmp_ge 131 164 dX7_digest_131 (by decide) (fun c_131 => ?_) (fun c_131 => ?_)
                  · have hge : r ≤ y := c_ge rfl (by omega) (by omega) c_131
                    have hie : r = y := by omega
                    subst hie
                    refine X_aload_n 164 0 dX7_digest_164 rfl rfl ?_
                    refine X_getL (f := 22) 165 dX7_digest_165 lf_RX7_263 iw7 vc7 (by decide) lyM rfl ?_
                    refine X_lret 168 dX7_digest_168 rfl ⟨_, rfl, _, rfl, ?_⟩
                    refine ⟨?_, KP_D hp124_2.1⟩
                    rw [hp124_2.2, Nat.mul_comm]; rfl
                  · have hlty : y < r := c_lt rfl (by omega) (by omega) c_131
                    refine X_iconst 134 (0) dX7_digest_134 (by decide) ?_
                    refine X_istore_n 135 [(2, .int _), (0, .ref _), (1, .int _)] dX7_digest_135 rfl (by decide) rfl ?_
                    refine X_sub [1, 2, 0] [(0, .ref _), (1, .int _), (2, .int _)] rfl ?_
                    have L_136 : ∀ (kf : Nat) (x : Nat) (m : Mm), x ≤ c → c < x + kf → HM (uM μ 0 6 0) (dgPs V lc c (dgLs V lc c r (hF (31 * 43276 + (nI pn).toInt64) (whV V lc c r (μ 0 5)) 15) lc) (y * c + x)) m → ∀ (x136_2 : Int32), nI x = x136_2 → X false ΛM mX7_digest (QN (qL (fun v m => dgV V lc c r (μ 0 5) (nI pn) = v ∧ m 0 6 = 0 ∧ KP μ m))) 136 [(0, .ref 0), (1, .int (nI y)), (2, .int x136_2)] [] m := by
                      intro kf
                      induction kf with
                      | zero => intro x m hp136_0 hp136_1 hp136_2; exfalso; omega
                      | succ kf ih_136 =>
                        intro x m hp136_0 hp136_1 hp136_2 x136_2
                        rintro rfl
                        refine X_iload_n 136 2 dX7_digest_136 rfl rfl ?_
                        refine X_aload_n 137 0 dX7_digest_137 rfl rfl ?_
                        refine X_getR (f := 0) 138 dX7_digest_138 lf_RX7_7 iw7 vc7 (by decide) lyM rfl ?_
                        refine X_iconst 141 (0) dX7_digest_141 (by decide) ?_
                        refine X_iald 142 dX7_digest_142 lyM1 (vp_in_nI (n := 0) (by decide) (by decide)) ?_
                        rw [cl0]
                        rw [(MI_D hM6 hp136_2.1).1.1.1]
                        refine X_icmp_ge 143 158 dX7_digest_143 (by decide) (fun c_143 => ?_) (fun c_143 => ?_)
                        · have hge : c ≤ x := c_ge rfl (by omega) (by omega) c_143
                          have hie : c = x := by omega
                          subst hie
                          refine X_iinc 158 1 (_ + 1) [(1, .int _), (0, .ref _), (2, .int _)] dX7_digest_158 rfl rfl (by decide) rfl ?_
                          refine X_goto 161 124 dX7_digest_161 (by decide) ?_
                          refine X_sub [1, 0] [(0, .ref _), (1, .int _)] rfl ?_
                          exact ih_124 (y + 1) _ (by omega) (by omega) (by rw [Nat.succ_mul]; exact hp136_2) _  (by exact (nI_1 y).symm)
                        · have hltx : x < c := c_lt rfl (by omega) (by omega) c_143
                          refine X_aload_n 146 0 dX7_digest_146 rfl rfl ?_
                          refine X_iload_n 147 2 dX7_digest_147 rfl rfl ?_
                          refine X_iload_n 148 1 dX7_digest_148 rfl rfl ?_
                          refine X_cVV 149 [.int _, .int _] (e_X7_mixPlace V c r lc x y _ (uM μ 0 6 0) _ hM6 hltx hlty hp136_2) dX7_digest_149 lm_RX7_272 2 ⟨wm_X7_mixPlace, by decide +kernel, rfl, rfl⟩ rfl ⟨Nat.le_of_ble_eq_true rfl, Nat.le_of_ble_eq_true rfl⟩ lyM vc7 rfl rfl (Nat.le_of_ble_eq_true rfl) ?_
                          rintro m9 hS9
                          refine X_iinc 152 2 (_ + 1) [(2, .int _), (0, .ref _), (1, .int _)] dX7_digest_152 rfl rfl (by decide) rfl ?_
                          refine X_goto 155 136 dX7_digest_155 (by decide) ?_
                          refine X_sub [1, 2, 0] [(0, .ref _), (1, .int _), (2, .int _)] rfl ?_
                          exact ih_136 (x + 1) _ (by omega) (by omega) (by show HM _ (dgP V lc c ((y * c + x) % c) ((y * c + x) / c) _) _; rw [(ixd hltx).1, (ixd hltx).2]; exact hS9) _  (by exact (nI_1 x).symm)
                    exact L_136 (c + 1) 0 _ (by omega) (by omega) hp124_2 _  (by exact nI_0)
              exact L_124 (r + 1) 0 _ (by omega) (by omega) (by rw [Nat.zero_mul]; exact hp45_2) _  (by exact nI_0)
            · have hlt : n < lc := c_lt rfl (by omega) (by omega) c_52
              refine X_iconst 55 (0) dX7_digest_55 (by decide) ?_
              refine X_istore_n 56 [(2, .int _), (0, .ref _), (1, .int _)] dX7_digest_56 rfl (by decide) rfl ?_
              refine X_sub [1, 2, 0] [(0, .ref _), (1, .int _), (2, .int _)] rfl ?_
              have L_57 : ∀ (kf : Nat) (w : Nat) (m : Mm), w ≤ 12 → 12 < w + kf → HM (uM μ 0 6 0) (hF (dgLs V lc c r (hF (31 * 43276 + (nI pn).toInt64) (whV V lc c r (μ 0 5)) 15) n) (lvV V lc c r n) w) m → ∀ (x57_2 : Int32), nI w = x57_2 → X false ΛM mX7_digest (QN (qL (fun v m => dgV V lc c r (μ 0 5) (nI pn) = v ∧ m 0 6 = 0 ∧ KP μ m))) 57 [(0, .ref 0), (1, .int (nI n)), (2, .int x57_2)] [] m := by
                intro kf
                induction kf with
                | zero => intro w m hp57_0 hp57_1 hp57_2; exfalso; omega
                | succ kf ih_57 =>
                  intro w m hp57_0 hp57_1 hp57_2 x57_2
                  rintro rfl
                  refine X_iload_n 57 2 dX7_digest_57 rfl rfl ?_
                  refine X_bipush 58 (12) dX7_digest_58 (by decide) ?_
                  refine X_icmp_ge 60 79 dX7_digest_60 (by decide) (fun c_60 => ?_) (fun c_60 => ?_)
                  · have hge := c_ge (k := 12) rfl (by omega) (by omega) c_60
                    have hie : 12 = w := by omega
                    subst hie
                    refine X_iconst 79 (0) dX7_digest_79 (by decide) ?_
                    refine X_istore_n 80 [(2, .int _), (0, .ref _), (1, .int _)] dX7_digest_80 rfl (by decide) rfl ?_
                    refine X_sub [1, 2, 0] [(0, .ref _), (1, .int _), (2, .int _)] rfl ?_
                    have L_81 : ∀ (kf : Nat) (i : Nat) (m : Mm), i ≤ 4 → 4 < i + kf → HM (uM μ 0 6 0) (hF (hF (dgLs V lc c r (hF (31 * 43276 + (nI pn).toInt64) (whV V lc c r (μ 0 5)) 15) n) (lvV V lc c r n) 12) (gC V n) (2 * i)) m → ∀ (x81_2 : Int32), nI i = x81_2 → X false ΛM mX7_digest (QN (qL (fun v m => dgV V lc c r (μ 0 5) (nI pn) = v ∧ m 0 6 = 0 ∧ KP μ m))) 81 [(0, .ref 0), (1, .int (nI n)), (2, .int x81_2)] [] m := by
                      intro kf
                      induction kf with
                      | zero => intro i m hp81_0 hp81_1 hp81_2; exfalso; omega
                      | succ kf ih_81 =>
                        intro i m hp81_0 hp81_1 hp81_2 x81_2
                        rintro rfl
                        refine X_iload_n 81 2 dX7_digest_81 rfl rfl ?_
                        refine X_iconst 82 (4) dX7_digest_82 (by decide) ?_
                        refine X_icmp_ge 83 116 dX7_digest_83 (by decide) (fun c_83 => ?_) (fun c_83 => ?_)
                        · have hge := c_ge (k := 4) rfl (by omega) (by omega) c_83
                          have hie : 4 = i := by omega
                          subst hie
                          refine X_iinc 116 1 (_ + 1) [(1, .int _), (0, .ref _), (2, .int _)] dX7_digest_116 rfl rfl (by decide) rfl ?_
                          refine X_goto 119 45 dX7_digest_119 (by decide) ?_
                          refine X_sub [1, 0] [(0, .ref _), (1, .int _)] rfl ?_
                          exact ih_45 (n + 1) _ (by omega) (by omega) hp81_2 _  (by exact (nI_1 n).symm)
                        · have hltn := c_lt (k := 4) rfl (by omega) (by omega) c_83
                          refine X_aload_n 86 0 dX7_digest_86 rfl rfl ?_
                          refine X_aload_n 87 0 dX7_digest_87 rfl rfl ?_
                          refine X_iload_n 88 1 dX7_digest_88 rfl rfl ?_
                          refine X_iconst 89 (0) dX7_digest_89 (by decide) ?_
                          refine X_iload_n 90 2 dX7_digest_90 rfl rfl ?_
                          refine X_iadd 91 dX7_digest_91 ?_
                          rw [Int32.zero_add]
                          refine X_cVI 92 [.int _, .int _] (e_X7_of n i _ (by omega) (by omega)) dX7_digest_92 lm_RX7_61 2 ⟨wm_X7_of, by decide +kernel, rfl, rfl⟩ rfl ⟨Nat.le_of_ble_eq_true rfl, Nat.le_of_ble_eq_true rfl⟩ lyM vc7 rfl rfl (Nat.le_of_ble_eq_true rfl) ?_
                          rintro _ _ ⟨rfl, rfl⟩
                          rw [(co_MI (k := n) (MI_D hM6 hp81_2.1) (by omega) hltn).1]
                          refine X_cVV 95 [.int _] (e_X7_mix _ _) dX7_digest_95 lm_RX7_267 1 ⟨wm_X7_mix, by decide +kernel, rfl, rfl⟩ rfl ⟨Nat.le_of_ble_eq_true rfl, Nat.le_of_ble_eq_true rfl⟩ lyM vc7 rfl rfl (Nat.le_of_ble_eq_true rfl) ?_
                          rintro _ rfl
                          rw [hp81_2.2]
                          have hH9 := HM_x (v := 31 * hF (hF (dgLs V lc c r (hF (31 * 43276 + (nI pn).toInt64) (whV V lc c r (μ 0 5)) 15) n) (lvV V lc c r n) 12) (gC V n) (2 * i) + (V 13 (4 * n + i)).toInt64) hp81_2
                          refine X_aload_n 98 0 dX7_digest_98 rfl rfl ?_
                          refine X_aload_n 99 0 dX7_digest_99 rfl rfl ?_
                          refine X_iload_n 100 1 dX7_digest_100 rfl rfl ?_
                          refine X_iconst 101 (4) dX7_digest_101 (by decide) ?_
                          refine X_iload_n 102 2 dX7_digest_102 rfl rfl ?_
                          refine X_iadd 103 dX7_digest_103 ?_
                          rw [show (4 : Int32) + nI i = nI (4 + i) from nI_add 4 _]
                          refine X_cVI 104 [.int _, .int _] (e_X7_of n (4 + i) _ (by omega) (by omega)) dX7_digest_104 lm_RX7_61 2 ⟨wm_X7_of, by decide +kernel, rfl, rfl⟩ rfl ⟨Nat.le_of_ble_eq_true rfl, Nat.le_of_ble_eq_true rfl⟩ lyM vc7 rfl rfl (Nat.le_of_ble_eq_true rfl) ?_
                          rintro _ _ ⟨rfl, rfl⟩
                          rw [(co_MI (k := n) (MI_D hM6 hH9.1) (by omega) hltn).2]
                          refine X_cVV 107 [.int _] (e_X7_mix _ _) dX7_digest_107 lm_RX7_267 1 ⟨wm_X7_mix, by decide +kernel, rfl, rfl⟩ rfl ⟨Nat.le_of_ble_eq_true rfl, Nat.le_of_ble_eq_true rfl⟩ lyM vc7 rfl rfl (Nat.le_of_ble_eq_true rfl) ?_
                          rintro _ rfl
                          rw [hH9.2]
                          refine X_iinc 110 2 (_ + 1) [(2, .int _), (0, .ref _), (1, .int _)] dX7_digest_110 rfl rfl (by decide) rfl ?_
                          refine X_goto 113 81 dX7_digest_113 (by decide) ?_
                          refine X_sub [1, 2, 0] [(0, .ref _), (1, .int _), (2, .int _)] rfl ?_
                          exact ih_81 (i + 1) _ (by omega) (by omega) (by rw [hF2]; exact HM_x hH9) _  (by exact (nI_1 i).symm)
                    exact L_81 5 0 _ (by omega) (by omega) hp57_2 _  (by exact nI_0)
                  · have hltn := c_lt (k := 12) rfl (by omega) (by omega) c_60
                    refine X_aload_n 63 0 dX7_digest_63 rfl rfl ?_
                    refine X_aload_n 64 0 dX7_digest_64 rfl rfl ?_
                    refine X_iload_n 65 1 dX7_digest_65 rfl rfl ?_
                    refine X_iload_n 66 2 dX7_digest_66 rfl rfl ?_
                    refine X_cVI 67 [.int _, .int _] (e_X7_lampOf V c r lc n w _ (MI_D hM6 hp57_2.1) hlt (by omega)) dX7_digest_67 lm_RX7_202 2 ⟨wm_X7_lampOf, by decide +kernel, rfl, rfl⟩ rfl ⟨Nat.le_of_ble_eq_true rfl, Nat.le_of_ble_eq_true rfl⟩ lyM vc7 rfl rfl (Nat.le_of_ble_eq_true rfl) ?_
                    rintro _ m9 ⟨rfl, hS9⟩
                    have hH9 := HM_c hp57_2 hS9
                    refine X_cVV 70 [.int _] (e_X7_mix _ _) dX7_digest_70 lm_RX7_267 1 ⟨wm_X7_mix, by decide +kernel, rfl, rfl⟩ rfl ⟨Nat.le_of_ble_eq_true rfl, Nat.le_of_ble_eq_true rfl⟩ lyM vc7 rfl rfl (Nat.le_of_ble_eq_true rfl) ?_
                    rintro _ rfl
                    rw [hH9.2]
                    refine X_iinc 73 2 (_ + 1) [(2, .int _), (0, .ref _), (1, .int _)] dX7_digest_73 rfl rfl (by decide) rfl ?_
                    refine X_goto 76 57 dX7_digest_76 (by decide) ?_
                    refine X_sub [1, 2, 0] [(0, .ref _), (1, .int _), (2, .int _)] rfl ?_
                    exact ih_57 (w + 1) _ (by omega) (by omega) (HM_x hH9) _  (by exact (nI_1 w).symm)
              exact L_57 13 0 _ (by omega) (by omega) hp45_2 _  (by exact nI_0)
        exact L_45 (lc + 1) 0 _ (by omega) (by omega) hp22_2 _  (by exact nI_0)
      · have hltn := c_lt (k := 15) rfl (by omega) (by omega) c_25
        refine X_aload_n 28 0 dX7_digest_28 rfl rfl ?_
        refine X_aload_n 29 0 dX7_digest_29 rfl rfl ?_
        refine X_iload_n 30 1 dX7_digest_30 rfl rfl ?_
        refine X_cVI 31 [.int _] (e_X7_wholeOf V c r lc i _ (MI_D hM6 hp22_2.1) hV (by omega)) dX7_digest_31 lm_RX7_214 1 ⟨wm_X7_wholeOf, by decide +kernel, rfl, rfl⟩ rfl ⟨Nat.le_of_ble_eq_true rfl, Nat.le_of_ble_eq_true rfl⟩ lyM vc7 rfl rfl (Nat.le_of_ble_eq_true rfl) ?_
        rintro _ m9 ⟨rfl, hS9⟩
        have hH9 := HM_c hp22_2 hS9
        rw [hp22_2.1 0 5 (by decide) (by decide) (by decide), uM_n (by omega)]
        refine X_cVV 34 [.int _] (e_X7_mix _ _) dX7_digest_34 lm_RX7_267 1 ⟨wm_X7_mix, by decide +kernel, rfl, rfl⟩ rfl ⟨Nat.le_of_ble_eq_true rfl, Nat.le_of_ble_eq_true rfl⟩ lyM vc7 rfl rfl (Nat.le_of_ble_eq_true rfl) ?_
        rintro _ rfl
        rw [hH9.2]
        refine X_iinc 37 1 (_ + 1) [(1, .int _), (0, .ref _)] dX7_digest_37 rfl rfl (by decide) rfl ?_
        refine X_goto 40 22 dX7_digest_40 (by decide) ?_
        refine X_sub [1, 0] [(0, .ref _), (1, .int _)] rfl ?_
        exact ih_22 (i + 1) _ (by omega) (by omega) (HM_x hH9) _  (by exact (nI_1 i).symm)
  exact L_22 16 0 _ (by omega) (by omega) (HM_x hH0) _  (by exact nI_0)
