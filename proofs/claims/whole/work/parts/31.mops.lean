set_option maxHeartbeats 4000000 in
set_option maxRecDepth 100000 in
theorem e_X7_begins (V : Mm) (c r lc : Nat) (a b : Int32) (μ : Mm) (hM : MI V c r lc μ) : EvN ΛM mX7_begins [.ref 0, .int a, .int b] μ (qI (fun k9 m9 => (¬ wallOK a b ∧ 1 = k9 ∧ μ = m9) ∨ (wallOK a b ∧ 0 = k9 ∧ OPOK (wallM V 0 a b) (tn a) (tn b) lc (nI (c * r)) μ m9))) := by
  refine EvN_ofQ (by decide +kernel) rfl (fun _ => rfl) (fun _ => Nat.le_of_ble_eq_true rfl) (ls := [(0, .ref 0), (1, .int a), (2, .int b)]) ?_
  obtain ⟨⟨hc1, hc2⟩, ⟨hr1, hr2⟩, h8⟩ := MI_lc hM
  refine X_iload_n 0 1 dX7_begins_0 rfl rfl ?_
  refine X_iconst 1 (1) dX7_begins_1 (by decide) ?_
  refine X_bipush 2 (24) dX7_begins_2 (by decide) ?_
  refine X_cSI 4 [.int _, .int _, .int _] (e_X7_in _ _ _ _) dX7_begins_4 lm_RX7_41 3 ⟨wm_X7_in, by decide +kernel, rfl, rfl⟩ rfl ⟨Nat.le_of_ble_eq_true rfl, Nat.le_of_ble_eq_true rfl⟩ rfl (Nat.le_of_ble_eq_true rfl) ?_
  rintro _ _ ⟨rfl, ⟨rfl, b_4⟩ | ⟨rfl, b_4⟩⟩
  · refine X_if_eq 7 20 dX7_begins_7 (by decide) (fun c_0 => by exact absurd c_0 (by decide)) (fun _ => ?_)
    refine X_iload_n 10 2 dX7_begins_10 rfl rfl ?_
    refine X_iconst 11 (1) dX7_begins_11 (by decide) ?_
    refine X_bipush 12 (16) dX7_begins_12 (by decide) ?_
    refine X_cSI 14 [.int _, .int _, .int _] (e_X7_in _ _ _ _) dX7_begins_14 lm_RX7_41 3 ⟨wm_X7_in, by decide +kernel, rfl, rfl⟩ rfl ⟨Nat.le_of_ble_eq_true rfl, Nat.le_of_ble_eq_true rfl⟩ rfl (Nat.le_of_ble_eq_true rfl) ?_
    rintro _ _ ⟨rfl, ⟨rfl, b_14⟩ | ⟨rfl, b_14⟩⟩
    · refine X_if_ne 17 22 dX7_begins_17 (by decide) (fun _ => ?_) (fun c_0 => by exact absurd c_0 (by decide))
      refine X_aload_n 22 0 dX7_begins_22 rfl rfl ?_
      refine X_aload_n 23 0 dX7_begins_23 rfl rfl ?_
      refine X_getR (f := 0) 24 dX7_begins_24 lf_RX7_7 iw7 vc7 (by decide) lyM rfl ?_
      refine X_iconst 27 (0) dX7_begins_27 (by decide) ?_
      refine X_iald 28 dX7_begins_28 lyM1 (vp_in_nI (n := 0) (by decide) (by decide)) ?_
      rw [cl0]
      refine X_aload_n 29 0 dX7_begins_29 rfl rfl ?_
      refine X_getR (f := 0) 30 dX7_begins_30 lf_RX7_7 iw7 vc7 (by decide) lyM rfl ?_
      refine X_iconst 33 (1) dX7_begins_33 (by decide) ?_
      refine X_iald 34 dX7_begins_34 lyM1 (vp_in_nI (n := 1) (by decide) (by decide)) ?_
      rw [cl1]
      refine X_imul 35 dX7_begins_35 ?_
      refine X_putI (f := 7) 36 dX7_begins_36 lf_RX7_55 iw7 vc7 (by decide) lyM tyX7_ok nmX7 rfl rfl rfl (by decide) rfl rfl ?_
      refine X_aload_n 39 0 dX7_begins_39 rfl rfl ?_
      refine X_getR (f := 0) 40 dX7_begins_40 lf_RX7_7 iw7 vc7 (by decide) lyM rfl ?_
      refine X_iconst 43 (0) dX7_begins_43 (by decide) ?_
      refine X_iload_n 44 1 dX7_begins_44 rfl rfl ?_
      refine X_iast 45 dX7_begins_45 lyM1 (vp_in_nI (n := 0) (by decide) (by decide)) ?_
      rw [cl0]
      refine X_aload_n 46 0 dX7_begins_46 rfl rfl ?_
      refine X_getR (f := 0) 47 dX7_begins_47 lf_RX7_7 iw7 vc7 (by decide) lyM rfl ?_
      refine X_iconst 50 (1) dX7_begins_50 (by decide) ?_
      refine X_iload_n 51 2 dX7_begins_51 rfl rfl ?_
      refine X_iast 52 dX7_begins_52 lyM1 (vp_in_nI (n := 1) (by decide) (by decide)) ?_
      rw [cl1]
      refine X_aload_n 53 0 dX7_begins_53 rfl rfl ?_
      refine X_getR (f := 0) 54 dX7_begins_54 lf_RX7_7 iw7 vc7 (by decide) lyM rfl ?_
      refine X_iconst 57 (2) dX7_begins_57 (by decide) ?_
      refine X_iconst 58 (0) dX7_begins_58 (by decide) ?_
      refine X_iast 59 dX7_begins_59 lyM1 (vp_in_nI (n := 2) (by decide) (by decide)) ?_
      rw [cl2]
      refine X_aload_n 60 0 dX7_begins_60 rfl rfl ?_
      refine X_getR (f := 0) 61 dX7_begins_61 lf_RX7_7 iw7 vc7 (by decide) lyM rfl ?_
      refine X_iconst 64 (3) dX7_begins_64 (by decide) ?_
      refine X_iconst 65 (0) dX7_begins_65 (by decide) ?_
      refine X_iast 66 dX7_begins_66 lyM1 (vp_in_nI (n := 3) (by decide) (by decide)) ?_
      rw [cl3]
      refine X_bipush 67 (6) dX7_begins_67 (by decide) ?_
      refine X_istore_n 69 [(3, .int _), (0, .ref _), (1, .int _), (2, .int _)] dX7_begins_69 rfl (by decide) rfl ?_
      refine X_sub [1, 0] [(0, .ref _), (3, .int _)] rfl ?_
      have L_70 : ∀ (kf : Nat) (n : Nat), 6 ≤ n → n ≤ 390 → 390 < n + kf → ∀ (x70_3 : Int32) (μ70 : Mm), nI n = x70_3 → zr (bgB μ a b) 6 n = μ70 → X false ΛM mX7_begins (QN (qI (fun k9 m9 => (¬ wallOK a b ∧ 1 = k9 ∧ μ = m9) ∨ (wallOK a b ∧ 0 = k9 ∧ OPOK (wallM V 0 a b) (tn a) (tn b) lc (nI (c * r)) μ m9)))) 70 [(0, .ref 0), (3, .int x70_3)] [] μ70 := by
        intro kf
        induction kf with
        | zero => intro n hp70_0 hp70_1 hp70_2; exfalso; omega
        | succ kf ih_70 =>
          intro n hp70_0 hp70_1 hp70_2 x70_3 μ70
          rintro rfl rfl
          refine X_iload_n 70 1 dX7_begins_70 rfl rfl ?_
          refine X_sipush 71 (390) dX7_begins_71 (by decide) ?_
          refine X_icmp_ge 74 90 dX7_begins_74 (by decide) (fun c_74 => ?_) (fun c_74 => ?_)
          · have hge := c_ge (k := 390) rfl (by omega) (by omega) c_74
            have hie : 390 = n := by omega
            subst hie
            refine X_iconst 90 (0) dX7_begins_90 (by decide) ?_
            refine X_iret 91 dX7_begins_91 rfl rfl ⟨_, rfl, _, rfl, ?_⟩
            exact Or.inr ⟨⟨b_4, b_14⟩, rfl, bg_ok hM ⟨b_4, b_14⟩⟩
          · have hltn := c_lt (k := 390) rfl (by omega) (by omega) c_74
            refine X_aload_n 77 0 dX7_begins_77 rfl rfl ?_
            refine X_getR (f := 0) 78 dX7_begins_78 lf_RX7_7 iw7 vc7 (by decide) lyM rfl ?_
            refine X_iload_n 81 1 dX7_begins_81 rfl rfl ?_
            refine X_iconst 82 (0) dX7_begins_82 (by decide) ?_
            refine X_iast 83 dX7_begins_83 lyM1 (vp_in_nI (N := 486) (by omega) (by decide)) ?_
            rw [nI_clamp (by omega)]
            refine X_iinc 84 1 (_ + 1) [(3, .int _), (0, .ref _)] dX7_begins_84 rfl rfl (by decide) rfl ?_
            refine X_goto 87 70 dX7_begins_87 (by decide) ?_
            refine X_sub [1, 0] [(0, .ref _), (3, .int _)] rfl ?_
            exact ih_70 (n + 1) (by omega) (by omega) (by omega) _ _  (by exact (nI_1 n).symm) (by exact (zr_s hp70_0).symm)
      exact L_70 391 6 (by omega) (by omega) (by omega) _ _  (by rfl) (by exact zr_0)
    · refine X_if_ne 17 22 dX7_begins_17 (by decide) (fun c_0 => by exact absurd c_0 (by decide)) (fun _ => ?_)
      refine X_iconst 20 (1) dX7_begins_20 (by decide) ?_
      refine X_iret 21 dX7_begins_21 rfl rfl ⟨_, rfl, _, rfl, ?_⟩
      first | exact Or.inl ⟨fun z => b_4 z.1, rfl, rfl⟩ | exact Or.inl ⟨fun z => b_14 z.2, rfl, rfl⟩
  · refine X_if_eq 7 20 dX7_begins_7 (by decide) (fun _ => ?_) (fun c_0 => by exact absurd c_0 (by decide))
    refine X_iconst 20 (1) dX7_begins_20 (by decide) ?_
    refine X_iret 21 dX7_begins_21 rfl rfl ⟨_, rfl, _, rfl, ?_⟩
    first | exact Or.inl ⟨fun z => b_4 z.1, rfl, rfl⟩ | exact Or.inl ⟨fun z => b_14 z.2, rfl, rfl⟩
set_option maxHeartbeats 4000000 in
set_option maxRecDepth 100000 in
theorem e_X7_paints (V : Mm) (c r lc : Nat) (x y u v t : Int32) (μ : Mm) (hM : MI V c r lc μ) : EvN ΛM mX7_paints [.ref 0, .int x, .int y, .int u, .int v, .int t] μ (qI (fun k9 m9 => (¬ (PL c r x y ∧ PL c r u v) ∧ 1 = k9 ∧ μ = m9) ∨ ((PL c r x y ∧ PL c r u v) ∧ ¬ ptOK x y u v t ∧ 2 = k9 ∧ μ = m9) ∨ ((PL c r x y ∧ PL c r u v) ∧ ptOK x y u v t ∧ 0 = k9 ∧ OPOK (uM (ptR 8 t c (tn x) (tn u - tn x + 1) (tn y) (tn v - tn y + 1) (0, V)).2 0 6 1) c r lc (ptR 8 t c (tn x) (tn u - tn x + 1) (tn y) (tn v - tn y + 1) (0, V)).1 μ m9))) := by
  refine EvN_ofQ (by decide +kernel) rfl (fun _ => rfl) (fun _ => Nat.le_of_ble_eq_true rfl) (ls := [(0, .ref 0), (1, .int x), (2, .int y), (3, .int u), (4, .int v), (5, .int t)]) ?_
  obtain ⟨⟨hc1, hc2⟩, ⟨hr1, hr2⟩, h8⟩ := MI_lc hM
  refine X_aload_n 0 0 dX7_paints_0 rfl rfl ?_
  refine X_iload_n 1 1 dX7_paints_1 rfl rfl ?_
  refine X_iload_n 2 2 dX7_paints_2 rfl rfl ?_
  refine X_cVI 3 [.int _, .int _] (e_X7_isPlace x y c r μ hM.1.1.1 hM.1.1.2.1 hc2 hr2) dX7_paints_3 lm_RX7_142 2 ⟨wm_X7_isPlace, by decide +kernel, rfl, rfl⟩ rfl ⟨Nat.le_of_ble_eq_true rfl, Nat.le_of_ble_eq_true rfl⟩ lyM vc7 rfl rfl (Nat.le_of_ble_eq_true rfl) ?_
  rintro _ _ ⟨rfl, ⟨rfl, b_3⟩ | ⟨rfl, b_3⟩⟩
  · refine X_if_eq 6 19 dX7_paints_6 (by decide) (fun c_0 => by exact absurd c_0 (by decide)) (fun _ => ?_)
    refine X_aload_n 9 0 dX7_paints_9 rfl rfl ?_
    refine X_iload_n 10 3 dX7_paints_10 rfl rfl ?_
    refine X_iload 11 4 dX7_paints_11 rfl ?_
    refine X_cVI 13 [.int _, .int _] (e_X7_isPlace u v c r μ hM.1.1.1 hM.1.1.2.1 hc2 hr2) dX7_paints_13 lm_RX7_142 2 ⟨wm_X7_isPlace, by decide +kernel, rfl, rfl⟩ rfl ⟨Nat.le_of_ble_eq_true rfl, Nat.le_of_ble_eq_true rfl⟩ lyM vc7 rfl rfl (Nat.le_of_ble_eq_true rfl) ?_
    rintro _ _ ⟨rfl, ⟨rfl, b_13⟩ | ⟨rfl, b_13⟩⟩
    · refine X_if_ne 16 21 dX7_paints_16 (by decide) (fun _ => ?_) (fun c_0 => by exact absurd c_0 (by decide))
      refine X_iload_n 21 3 dX7_paints_21 rfl rfl ?_
      refine X_iload_n 22 1 dX7_paints_22 rfl rfl ?_
      refine X_icmp_lt 23 44 dX7_paints_23 (by decide) (fun c_23 => ?_) (fun c_23 => ?_)
      · refine X_iconst 44 (2) dX7_paints_44 (by decide) ?_
        refine X_iret 45 dX7_paints_45 rfl rfl ⟨_, rfl, _, rfl, ?_⟩
        first | exact Or.inr (Or.inl ⟨⟨b_3, b_13⟩, fun z => Int32.not_lt.mpr z.1 c_23, rfl, rfl⟩) | exact Or.inr (Or.inl ⟨⟨b_3, b_13⟩, fun z => Int32.not_lt.mpr z.2.1 c_29, rfl, rfl⟩) | exact Or.inr (Or.inl ⟨⟨b_3, b_13⟩, fun z => b_38 z.2.2, rfl, rfl⟩)
      · refine X_iload 26 4 dX7_paints_26 rfl ?_
        refine X_iload_n 28 2 dX7_paints_28 rfl rfl ?_
        refine X_icmp_lt 29 44 dX7_paints_29 (by decide) (fun c_29 => ?_) (fun c_29 => ?_)
        · refine X_iconst 44 (2) dX7_paints_44 (by decide) ?_
          refine X_iret 45 dX7_paints_45 rfl rfl ⟨_, rfl, _, rfl, ?_⟩
          first | exact Or.inr (Or.inl ⟨⟨b_3, b_13⟩, fun z => Int32.not_lt.mpr z.1 c_23, rfl, rfl⟩) | exact Or.inr (Or.inl ⟨⟨b_3, b_13⟩, fun z => Int32.not_lt.mpr z.2.1 c_29, rfl, rfl⟩) | exact Or.inr (Or.inl ⟨⟨b_3, b_13⟩, fun z => b_38 z.2.2, rfl, rfl⟩)
        · refine X_iload 32 5 dX7_paints_32 rfl ?_
          refine X_iconst 34 (0) dX7_paints_34 (by decide) ?_
          refine X_sipush 35 (255) dX7_paints_35 (by decide) ?_
          refine X_cSI 38 [.int _, .int _, .int _] (e_X7_in _ _ _ _) dX7_paints_38 lm_RX7_41 3 ⟨wm_X7_in, by decide +kernel, rfl, rfl⟩ rfl ⟨Nat.le_of_ble_eq_true rfl, Nat.le_of_ble_eq_true rfl⟩ rfl (Nat.le_of_ble_eq_true rfl) ?_
          rintro _ _ ⟨rfl, ⟨rfl, b_38⟩ | ⟨rfl, b_38⟩⟩
          · refine X_if_ne 41 46 dX7_paints_41 (by decide) (fun _ => ?_) (fun c_0 => by exact absurd c_0 (by decide))
            have hAB : PL c r x y ∧ PL c r u v := ⟨b_3, b_13⟩
            have hpt : ptOK x y u v t := ⟨Int32.not_lt.mp c_23, Int32.not_lt.mp c_29, b_38⟩
            obtain ⟨xx, hX, ex⟩ := nat_lt b_3.1.1 b_3.1.2 (by omega)
            obtain ⟨yy, hY, ey⟩ := nat_lt b_3.2.1 b_3.2.2 (by omega)
            obtain ⟨uu, hU, eu⟩ := nat_lt b_13.1.1 b_13.1.2 (by omega)
            obtain ⟨ww, hW, ev⟩ := nat_lt b_13.2.1 b_13.2.2 (by omega)
            have hXU : xx ≤ uu := (nI_leI (by omega) (by omega)).mp (by rw [← ex, ← eu]; exact hpt.1)
            have hYW : yy ≤ ww := (nI_leI (by omega) (by omega)).mp (by rw [← ey, ← ev]; exact hpt.2.1)
            have eX : tn x = xx := by rw [ex]; exact nI_clamp (by omega)
            have eY : tn y = yy := by rw [ey]; exact nI_clamp (by omega)
            have eU : tn u = uu := by rw [eu]; exact nI_clamp (by omega)
            have eW : tn v = ww := by rw [ev]; exact nI_clamp (by omega)
            refine X_aload_n 46 0 dX7_paints_46 rfl rfl ?_
            refine X_iconst 47 (0) dX7_paints_47 (by decide) ?_
            refine X_putI (f := 7) 48 dX7_paints_48 lf_RX7_55 iw7 vc7 (by decide) lyM tyX7_ok nmX7 rfl rfl rfl (by decide) rfl rfl ?_
            refine X_iload_n 51 2 dX7_paints_51 rfl rfl ?_
            refine X_istore 52 [(6, .int _), (0, .ref _), (1, .int _), (2, .int _), (3, .int _), (4, .int _), (5, .int _)] dX7_paints_52 (by decide) rfl ?_
            refine X_sub [1, 2, 4, 5, 6, 0] [(0, .ref _), (1, .int _), (3, .int _), (4, .int _), (5, .int _), (6, .int _)] rfl ?_
            have L_54 : ∀ (kf : Nat) (b : Nat) (m : Mm), b ≤ ww - yy + 1 → ww - yy + 1 < b + kf → PTI c r lc μ (ptR 8 t c xx (uu - xx + 1) yy b (0, V)) m → ∀ (x54_6 : Int32), nI (yy + b) = x54_6 → X false ΛM mX7_paints (QN (qI (fun k9 m9 => (¬ (PL c r x y ∧ PL c r u v) ∧ 1 = k9 ∧ μ = m9) ∨ ((PL c r x y ∧ PL c r u v) ∧ ¬ ptOK x y u v t ∧ 2 = k9 ∧ μ = m9) ∨ ((PL c r x y ∧ PL c r u v) ∧ ptOK x y u v t ∧ 0 = k9 ∧ OPOK (uM (ptR 8 t c (tn x) (tn u - tn x + 1) (tn y) (tn v - tn y + 1) (0, V)).2 0 6 1) c r lc (ptR 8 t c (tn x) (tn u - tn x + 1) (tn y) (tn v - tn y + 1) (0, V)).1 μ m9)))) 54 [(0, .ref 0), (1, .int x), (3, .int u), (4, .int v), (5, .int t), (6, .int x54_6)] [] m := by
              intro kf
              induction kf with
              | zero => intro b m hp54_0 hp54_1 hp54_2; exfalso; omega
              | succ kf ih_54 =>
                intro b m hp54_0 hp54_1 hp54_2 x54_6
                rintro rfl
                refine X_iload 54 5 dX7_paints_54 rfl ?_
                refine X_iload 56 3 dX7_paints_56 rfl ?_
                refine X_icmp_gt 58 127 dX7_paints_58 (by decide) (fun c_58 => ?_) (fun c_58 => ?_)
                · rw [ev] at c_58
                  have hge : ww < yy + b := (nI_ltI (by omega) (by omega)).mp c_58
                  have hie : ww - yy + 1 = b := by omega
                  subst hie
                  refine X_iconst 127 (0) dX7_paints_127 (by decide) ?_
                  refine X_iret 128 dX7_paints_128 rfl rfl ⟨_, rfl, _, rfl, ?_⟩
                  exact Or.inr (Or.inr ⟨hAB, hpt, rfl, by rw [eX, eY, eU, eW]; exact ⟨MI_V hp54_2.1 (fun p q _ h => uM_n h), hp54_2.2.1, hp54_2.2.2⟩⟩)
                · rw [ev] at c_58
                  have hlb : ¬ ww < yy + b := fun z => c_58 (nI_lt z (by omega))
                  refine X_iload_n 61 1 dX7_paints_61 rfl rfl ?_
                  refine X_istore 62 [(7, .int _), (0, .ref _), (1, .int _), (3, .int _), (4, .int _), (5, .int _), (6, .int _)] dX7_paints_62 (by decide) rfl ?_
                  refine X_sub [1, 2, 3, 4, 5, 6, 0] [(0, .ref _), (1, .int _), (3, .int _), (4, .int _), (5, .int _), (6, .int _), (7, .int _)] rfl ?_
                  have L_64 : ∀ (kf : Nat) (n : Nat) (m2 : Mm), n ≤ uu - xx + 1 → uu - xx + 1 < n + kf → PTI c r lc μ (ptC 8 t ((yy + b) * c + xx) n (ptR 8 t c xx (uu - xx + 1) yy b (0, V))) m2 → ∀ (x64_7 : Int32), nI (xx + n) = x64_7 → X false ΛM mX7_paints (QN (qI (fun k9 m9 => (¬ (PL c r x y ∧ PL c r u v) ∧ 1 = k9 ∧ μ = m9) ∨ ((PL c r x y ∧ PL c r u v) ∧ ¬ ptOK x y u v t ∧ 2 = k9 ∧ μ = m9) ∨ ((PL c r x y ∧ PL c r u v) ∧ ptOK x y u v t ∧ 0 = k9 ∧ OPOK (uM (ptR 8 t c (tn x) (tn u - tn x + 1) (tn y) (tn v - tn y + 1) (0, V)).2 0 6 1) c r lc (ptR 8 t c (tn x) (tn u - tn x + 1) (tn y) (tn v - tn y + 1) (0, V)).1 μ m9)))) 64 [(0, .ref 0), (1, .int x), (3, .int u), (4, .int v), (5, .int t), (6, .int (nI (yy + b))), (7, .int x64_7)] [] m2 := by
                    intro kf
                    induction kf with
                    | zero => intro n m2 hp64_0 hp64_1 hp64_2; exfalso; omega
                    | succ kf ih_64 =>
                      intro n m2 hp64_0 hp64_1 hp64_2 x64_7
                      rintro rfl
                      refine X_iload 64 6 dX7_paints_64 rfl ?_
                      refine X_iload_n 66 2 dX7_paints_66 rfl rfl ?_
                      refine X_icmp_gt 67 121 dX7_paints_67 (by decide) (fun c_67 => ?_) (fun c_67 => ?_)
                      · rw [eu] at c_67
                        have hge : uu < xx + n := (nI_ltI (by omega) (by omega)).mp c_67
                        have hie : uu - xx + 1 = n := by omega
                        subst hie
                        refine X_iinc 121 5 (_ + 1) [(6, .int _), (0, .ref _), (1, .int _), (3, .int _), (4, .int _), (5, .int _), (7, .int _)] dX7_paints_121 rfl rfl (by decide) rfl ?_
                        refine X_goto 124 54 dX7_paints_124 (by decide) ?_
                        refine X_sub [1, 2, 3, 4, 5, 0] [(0, .ref _), (1, .int _), (3, .int _), (4, .int _), (5, .int _), (6, .int _)] rfl ?_
                        exact ih_54 (b + 1) _ (by omega) (by omega) hp64_2 _  (by exact (nI_1 (yy + b)).symm)
                      · rw [eu] at c_67
                        have hln : ¬ uu < xx + n := fun z => c_67 (nI_lt z (by omega))
                        refine X_aload_n 70 0 dX7_paints_70 rfl rfl ?_
                        refine X_dupr 71 dX7_paints_71 ?_
                        refine X_getI (f := 7) 72 dX7_paints_72 lf_RX7_55 iw7 vc7 (by decide) lyM rfl ?_
                        refine X_aload_n 75 0 dX7_paints_75 rfl rfl ?_
                        refine X_iload 76 6 dX7_paints_76 rfl ?_
                        refine X_iload 78 5 dX7_paints_78 rfl ?_
                        refine X_cVI 80 [.int _, .int _] (e_X7_target (xx + n) (yy + b) _ (by omega) (by omega)) dX7_paints_80 lm_RX7_94 2 ⟨wm_X7_target, by decide +kernel, rfl, rfl⟩ rfl ⟨Nat.le_of_ble_eq_true rfl, Nat.le_of_ble_eq_true rfl⟩ lyM vc7 rfl rfl (Nat.le_of_ble_eq_true rfl) ?_
                        rintro _ _ ⟨rfl, rfl⟩
                        rw [tg_MI hp64_2.1 (show xx + n < c by omega) (show yy + b < r by omega)]
                        refine X_iload 83 4 dX7_paints_83 rfl ?_
                        refine X_icmp_ne 85 92 dX7_paints_85 (by decide) (fun c_85 => ?_) (fun c_85 => ?_)
                        · refine X_iconst 92 (1) dX7_paints_92 (by decide) ?_
                          refine X_iadd 93 dX7_paints_93 ?_
                          refine X_putI (f := 7) 94 dX7_paints_94 lf_RX7_55 iw7 vc7 (by decide) lyM tyX7_ok nmX7 rfl rfl rfl (by decide) rfl rfl ?_
                          refine X_aload_n 97 0 dX7_paints_97 rfl rfl ?_
                          refine X_getR (f := 0) 98 dX7_paints_98 lf_RX7_7 iw7 vc7 (by decide) lyM rfl ?_
                          refine X_bipush 101 (6) dX7_paints_101 (by decide) ?_
                          refine X_bipush 103 (24) dX7_paints_103 (by decide) ?_
                          refine X_iload 105 5 dX7_paints_105 rfl ?_
                          refine X_imul 107 dX7_paints_107 ?_
                          refine X_iadd 108 dX7_paints_108 ?_
                          refine X_iload 109 6 dX7_paints_109 rfl ?_
                          refine X_iadd 111 dX7_paints_111 ?_
                          rw [tgI]
                          refine X_iload 112 4 dX7_paints_112 rfl ?_
                          refine X_iast 114 dX7_paints_114 lyM1 (vp_in_nI (N := 486) (by omega) (by decide)) ?_
                          rw [nI_clamp (by omega)]
                          refine X_iinc 115 6 (_ + 1) [(7, .int _), (0, .ref _), (1, .int _), (3, .int _), (4, .int _), (5, .int _), (6, .int _)] dX7_paints_115 rfl rfl (by decide) rfl ?_
                          refine X_goto 118 64 dX7_paints_118 (by decide) ?_
                          refine X_sub [1, 2, 3, 4, 5, 6, 0] [(0, .ref _), (1, .int _), (3, .int _), (4, .int _), (5, .int _), (6, .int _), (7, .int _)] rfl ?_
                          exact ih_64 (n + 1) _ (by omega) (by omega) (by have hs := PTI_s hp64_2 (show xx + n < c by omega) (show yy + b < r by omega) hpt.2.2 (by first | exact (if_pos c_85).symm | exact (if_neg c_85).symm); rw [← Nat.add_assoc ((yy + b) * c)] at hs; exact hs) _  (by exact (nI_1 (xx + n)).symm)
                        · refine X_iconst 88 (0) dX7_paints_88 (by decide) ?_
                          refine X_goto 89 93 dX7_paints_89 (by decide) ?_
                          refine X_iadd 93 dX7_paints_93 ?_
                          refine X_putI (f := 7) 94 dX7_paints_94 lf_RX7_55 iw7 vc7 (by decide) lyM tyX7_ok nmX7 rfl rfl rfl (by decide) rfl rfl ?_
                          refine X_aload_n 97 0 dX7_paints_97 rfl rfl ?_
                          refine X_getR (f := 0) 98 dX7_paints_98 lf_RX7_7 iw7 vc7 (by decide) lyM rfl ?_
                          refine X_bipush 101 (6) dX7_paints_101 (by decide) ?_
                          refine X_bipush 103 (24) dX7_paints_103 (by decide) ?_
                          refine X_iload 105 5 dX7_paints_105 rfl ?_
                          refine X_imul 107 dX7_paints_107 ?_
                          refine X_iadd 108 dX7_paints_108 ?_
                          refine X_iload 109 6 dX7_paints_109 rfl ?_
                          refine X_iadd 111 dX7_paints_111 ?_
                          rw [tgI]
                          refine X_iload 112 4 dX7_paints_112 rfl ?_
                          refine X_iast 114 dX7_paints_114 lyM1 (vp_in_nI (N := 486) (by omega) (by decide)) ?_
                          rw [nI_clamp (by omega)]
                          refine X_iinc 115 6 (_ + 1) [(7, .int _), (0, .ref _), (1, .int _), (3, .int _), (4, .int _), (5, .int _), (6, .int _)] dX7_paints_115 rfl rfl (by decide) rfl ?_
                          refine X_goto 118 64 dX7_paints_118 (by decide) ?_
                          refine X_sub [1, 2, 3, 4, 5, 6, 0] [(0, .ref _), (1, .int _), (3, .int _), (4, .int _), (5, .int _), (6, .int _), (7, .int _)] rfl ?_
                          exact ih_64 (n + 1) _ (by omega) (by omega) (by have hs := PTI_s hp64_2 (show xx + n < c by omega) (show yy + b < r by omega) hpt.2.2 (by first | exact (if_pos c_85).symm | exact (if_neg c_85).symm); rw [← Nat.add_assoc ((yy + b) * c)] at hs; exact hs) _  (by exact (nI_1 (xx + n)).symm)
                  exact L_64 (uu - xx + 2) 0 _ (by omega) (by omega) hp54_2 _  (by exact ex.symm)
            exact L_54 (ww - yy + 2) 0 _ (by omega) (by omega) ⟨MI_7 hM, uM_s _ _ _ _, RS1_uM RS1_r (by decide)⟩ _  (by exact ey.symm)
          · refine X_if_ne 41 46 dX7_paints_41 (by decide) (fun c_0 => by exact absurd c_0 (by decide)) (fun _ => ?_)
            refine X_iconst 44 (2) dX7_paints_44 (by decide) ?_
            refine X_iret 45 dX7_paints_45 rfl rfl ⟨_, rfl, _, rfl, ?_⟩
            first | exact Or.inr (Or.inl ⟨⟨b_3, b_13⟩, fun z => Int32.not_lt.mpr z.1 c_23, rfl, rfl⟩) | exact Or.inr (Or.inl ⟨⟨b_3, b_13⟩, fun z => Int32.not_lt.mpr z.2.1 c_29, rfl, rfl⟩) | exact Or.inr (Or.inl ⟨⟨b_3, b_13⟩, fun z => b_38 z.2.2, rfl, rfl⟩)
    · refine X_if_ne 16 21 dX7_paints_16 (by decide) (fun c_0 => by exact absurd c_0 (by decide)) (fun _ => ?_)
      refine X_iconst 19 (1) dX7_paints_19 (by decide) ?_
      refine X_iret 20 dX7_paints_20 rfl rfl ⟨_, rfl, _, rfl, ?_⟩
      first | exact Or.inl ⟨fun z => b_3 z.1, rfl, rfl⟩ | exact Or.inl ⟨fun z => b_13 z.2, rfl, rfl⟩
  · refine X_if_eq 6 19 dX7_paints_6 (by decide) (fun _ => ?_) (fun c_0 => by exact absurd c_0 (by decide))
    refine X_iconst 19 (1) dX7_paints_19 (by decide) ?_
    refine X_iret 20 dX7_paints_20 rfl rfl ⟨_, rfl, _, rfl, ?_⟩
    first | exact Or.inl ⟨fun z => b_3 z.1, rfl, rfl⟩ | exact Or.inl ⟨fun z => b_13 z.2, rfl, rfl⟩
set_option maxHeartbeats 4000000 in
set_option maxRecDepth 100000 in
theorem e_X7_adds (V : Mm) (c r lc : Nat) (a b : Int32) (μ : Mm) (hM : MI V c r lc μ) : EvN ΛM mX7_adds [.ref 0, .int a, .int b] μ (qI (fun k9 m9 => (¬ nlOK a b ∧ 1 = k9 ∧ μ = m9) ∨ (nlOK a b ∧ ¬ lc < 8 ∧ 2 = k9 ∧ μ = m9) ∨ (nlOK a b ∧ lc < 8 ∧ 0 = k9 ∧ OPOK (hang V 0 lc a b) c r (lc + 1) (nI lc) μ m9))) := by
  refine EvN_ofQ (by decide +kernel) rfl (fun _ => rfl) (fun _ => Nat.le_of_ble_eq_true rfl) (ls := [(0, .ref 0), (1, .int a), (2, .int b)]) ?_
  obtain ⟨⟨hc1, hc2⟩, ⟨hr1, hr2⟩, h8⟩ := MI_lc hM
  refine X_iload_n 0 1 dX7_adds_0 rfl rfl ?_
  refine X_iconst 1 (0) dX7_adds_1 (by decide) ?_
  refine X_sipush 2 (255) dX7_adds_2 (by decide) ?_
  refine X_cSI 5 [.int _, .int _, .int _] (e_X7_in _ _ _ _) dX7_adds_5 lm_RX7_41 3 ⟨wm_X7_in, by decide +kernel, rfl, rfl⟩ rfl ⟨Nat.le_of_ble_eq_true rfl, Nat.le_of_ble_eq_true rfl⟩ rfl (Nat.le_of_ble_eq_true rfl) ?_
  rintro _ _ ⟨rfl, ⟨rfl, b_5⟩ | ⟨rfl, b_5⟩⟩
  · refine X_if_eq 8 22 dX7_adds_8 (by decide) (fun c_0 => by exact absurd c_0 (by decide)) (fun _ => ?_)
    refine X_iload_n 11 2 dX7_adds_11 rfl rfl ?_
    refine X_iconst 12 (0) dX7_adds_12 (by decide) ?_
    refine X_sipush 13 (255) dX7_adds_13 (by decide) ?_
    refine X_cSI 16 [.int _, .int _, .int _] (e_X7_in _ _ _ _) dX7_adds_16 lm_RX7_41 3 ⟨wm_X7_in, by decide +kernel, rfl, rfl⟩ rfl ⟨Nat.le_of_ble_eq_true rfl, Nat.le_of_ble_eq_true rfl⟩ rfl (Nat.le_of_ble_eq_true rfl) ?_
    rintro _ _ ⟨rfl, ⟨rfl, b_16⟩ | ⟨rfl, b_16⟩⟩
    · refine X_if_ne 19 24 dX7_adds_19 (by decide) (fun _ => ?_) (fun c_0 => by exact absurd c_0 (by decide))
      refine X_aload_n 24 0 dX7_adds_24 rfl rfl ?_
      refine X_getR (f := 0) 25 dX7_adds_25 lf_RX7_7 iw7 vc7 (by decide) lyM rfl ?_
      refine X_iconst 28 (4) dX7_adds_28 (by decide) ?_
      refine X_iald 29 dX7_adds_29 lyM1 (vp_in_nI (n := 4) (by decide) (by decide)) ?_
      rw [cl4]
      rw [hM.1.1.2.2.1]
      refine X_bipush 30 (8) dX7_adds_30 (by decide) ?_
      refine X_icmp_ne 32 37 dX7_adds_32 (by decide) (fun c_32 => ?_) (fun c_32 => ?_)
      · have hl : lc < 8 := by
          rcases Nat.lt_or_ge lc 8 with q | q
          · exact q
          · exact absurd (by rw [show lc = 8 by omega]; rfl) c_32
        refine X_aload_n 37 0 dX7_adds_37 rfl rfl ?_
        refine X_aload_n 38 0 dX7_adds_38 rfl rfl ?_
        refine X_getR (f := 0) 39 dX7_adds_39 lf_RX7_7 iw7 vc7 (by decide) lyM rfl ?_
        refine X_iconst 42 (4) dX7_adds_42 (by decide) ?_
        refine X_iald 43 dX7_adds_43 lyM1 (vp_in_nI (n := 4) (by decide) (by decide)) ?_
        rw [cl4]
        rw [hM.1.1.2.2.1]
        refine X_putI (f := 7) 44 dX7_adds_44 lf_RX7_55 iw7 vc7 (by decide) lyM tyX7_ok nmX7 rfl rfl rfl (by decide) rfl rfl ?_
        refine X_iconst 47 (0) dX7_adds_47 (by decide) ?_
        refine X_istore_n 48 [(3, .int _), (0, .ref _), (1, .int _), (2, .int _)] dX7_adds_48 rfl (by decide) rfl ?_
        refine X_sub [1, 2, 3, 0] [(0, .ref _), (1, .int _), (2, .int _), (3, .int _)] rfl ?_
        have L_49 : ∀ (kf : Nat) (n : Nat), n ≤ 12 → 12 < n + kf → ∀ (x49_3 : Int32) (μ49 : Mm), nI n = x49_3 → zr (uM μ 0 7 (nI lc)) (aL lc 0) (aL lc 0 + n) = μ49 → X false ΛM mX7_adds (QN (qI (fun k9 m9 => (¬ nlOK a b ∧ 1 = k9 ∧ μ = m9) ∨ (nlOK a b ∧ ¬ lc < 8 ∧ 2 = k9 ∧ μ = m9) ∨ (nlOK a b ∧ lc < 8 ∧ 0 = k9 ∧ OPOK (hang V 0 lc a b) c r (lc + 1) (nI lc) μ m9)))) 49 [(0, .ref 0), (1, .int a), (2, .int b), (3, .int x49_3)] [] μ49 := by
          intro kf
          induction kf with
          | zero => intro n hp49_0 hp49_1; exfalso; omega
          | succ kf ih_49 =>
            intro n hp49_0 hp49_1 x49_3 μ49
            rintro rfl rfl
            refine X_iload_n 49 3 dX7_adds_49 rfl rfl ?_
            refine X_bipush 50 (12) dX7_adds_50 (by decide) ?_
            refine X_icmp_ge 52 71 dX7_adds_52 (by decide) (fun c_52 => ?_) (fun c_52 => ?_)
            · have hge := c_ge (k := 12) rfl (by omega) (by omega) c_52
              have hie : 12 = n := by omega
              subst hie
              refine X_aload_n 71 0 dX7_adds_71 rfl rfl ?_
              refine X_aload_n 72 0 dX7_adds_72 rfl rfl ?_
              refine X_getI (f := 7) 73 dX7_adds_73 lf_RX7_55 iw7 vc7 (by decide) lyM rfl ?_
              rw [zr_o (by omega), uM_s]
              refine X_bipush 76 (8) dX7_adds_76 (by decide) ?_
              refine X_iload_n 78 1 dX7_adds_78 rfl rfl ?_
              refine X_cVV 79 [.int _, .int _, .int _] (e_X7_put lc 8 _ _ hl (by decide)) dX7_adds_79 lm_RX7_146 3 ⟨wm_X7_put, by decide +kernel, rfl, rfl⟩ rfl ⟨Nat.le_of_ble_eq_true rfl, Nat.le_of_ble_eq_true rfl⟩ lyM vc7 rfl rfl (Nat.le_of_ble_eq_true rfl) ?_
              rintro _ rfl
              refine X_aload_n 82 0 dX7_adds_82 rfl rfl ?_
              refine X_aload_n 83 0 dX7_adds_83 rfl rfl ?_
              refine X_getI (f := 7) 84 dX7_adds_84 lf_RX7_55 iw7 vc7 (by decide) lyM rfl ?_
              rw [uM_n (by omega), zr_o (by omega), uM_s]
              refine X_bipush 87 (9) dX7_adds_87 (by decide) ?_
              refine X_iload_n 89 2 dX7_adds_89 rfl rfl ?_
              refine X_cVV 90 [.int _, .int _, .int _] (e_X7_put lc 9 _ _ hl (by decide)) dX7_adds_90 lm_RX7_146 3 ⟨wm_X7_put, by decide +kernel, rfl, rfl⟩ rfl ⟨Nat.le_of_ble_eq_true rfl, Nat.le_of_ble_eq_true rfl⟩ lyM vc7 rfl rfl (Nat.le_of_ble_eq_true rfl) ?_
              rintro _ rfl
              refine X_aload_n 93 0 dX7_adds_93 rfl rfl ?_
              refine X_aload_n 94 0 dX7_adds_94 rfl rfl ?_
              refine X_getI (f := 7) 95 dX7_adds_95 lf_RX7_55 iw7 vc7 (by decide) lyM rfl ?_
              rw [uM_n (by omega), uM_n (by omega), zr_o (by omega), uM_s]
              refine X_bipush 98 (11) dX7_adds_98 (by decide) ?_
              refine X_iconst 100 (1) dX7_adds_100 (by decide) ?_
              refine X_cVV 101 [.int _, .int _, .int _] (e_X7_put lc 11 _ _ hl (by decide)) dX7_adds_101 lm_RX7_146 3 ⟨wm_X7_put, by decide +kernel, rfl, rfl⟩ rfl ⟨Nat.le_of_ble_eq_true rfl, Nat.le_of_ble_eq_true rfl⟩ lyM vc7 rfl rfl (Nat.le_of_ble_eq_true rfl) ?_
              rintro _ rfl
              refine X_aload_n 104 0 dX7_adds_104 rfl rfl ?_
              refine X_getR (f := 0) 105 dX7_adds_105 lf_RX7_7 iw7 vc7 (by decide) lyM rfl ?_
              refine X_iconst 108 (4) dX7_adds_108 (by decide) ?_
              refine X_dup2 109 dX7_adds_109 ?_
              refine X_iald 110 dX7_adds_110 lyM1 (vp_in_nI (n := 4) (by decide) (by decide)) ?_
              rw [cl4]
              rw [uM_n (by have := aL_ge lc 11; omega), uM_n (by have := aL_ge lc 9; omega), uM_n (by have := aL_ge lc 8; omega), zr_o (by have := aL_ge lc 0; omega), uM_n (by omega), hM.1.1.2.2.1]
              refine X_iconst 111 (1) dX7_adds_111 (by decide) ?_
              refine X_iadd 112 dX7_adds_112 ?_
              refine X_iast 113 dX7_adds_113 lyM1 (vp_in_nI (n := 4) (by decide) (by decide)) ?_
              rw [cl4, nI_1]
              refine X_iconst 114 (0) dX7_adds_114 (by decide) ?_
              refine X_iret 115 dX7_adds_115 rfl rfl ⟨_, rfl, _, rfl, ?_⟩
              exact Or.inr (Or.inr ⟨⟨b_5, b_16⟩, hl, rfl, ad_ok hM ⟨b_5, b_16⟩ hl⟩)
            · have hltn := c_lt (k := 12) rfl (by omega) (by omega) c_52
              refine X_aload_n 55 0 dX7_adds_55 rfl rfl ?_
              refine X_aload_n 56 0 dX7_adds_56 rfl rfl ?_
              refine X_getI (f := 7) 57 dX7_adds_57 lf_RX7_55 iw7 vc7 (by decide) lyM rfl ?_
              rw [zr_o (by omega), uM_s]
              refine X_iload_n 60 3 dX7_adds_60 rfl rfl ?_
              refine X_iconst 61 (0) dX7_adds_61 (by decide) ?_
              refine X_cVV 62 [.int _, .int _, .int _] (e_X7_put lc n _ _ hl hltn) dX7_adds_62 lm_RX7_146 3 ⟨wm_X7_put, by decide +kernel, rfl, rfl⟩ rfl ⟨Nat.le_of_ble_eq_true rfl, Nat.le_of_ble_eq_true rfl⟩ lyM vc7 rfl rfl (Nat.le_of_ble_eq_true rfl) ?_
              rintro _ rfl
              refine X_iinc 65 3 (_ + 1) [(3, .int _), (0, .ref _), (1, .int _), (2, .int _)] dX7_adds_65 rfl rfl (by decide) rfl ?_
              refine X_goto 68 49 dX7_adds_68 (by decide) ?_
              refine X_sub [1, 2, 3, 0] [(0, .ref _), (1, .int _), (2, .int _), (3, .int _)] rfl ?_
              exact ih_49 (n + 1) (by omega) (by omega) _ _  (by exact (nI_1 n).symm) (by rw [aL0 lc n]; exact (zr_s (Nat.le_add_right _ _)).symm)
        exact L_49 13 0 (by omega) (by omega) _ _  (by exact nI_0) (by exact zr_0)
      · have hl : ¬ lc < 8 := fun q => by
          have e : lc = 8 := (nI_eq (by omega) (by decide)).mp c_32
          omega
        refine X_iconst 35 (2) dX7_adds_35 (by decide) ?_
        refine X_iret 36 dX7_adds_36 rfl rfl ⟨_, rfl, _, rfl, ?_⟩
        exact Or.inr (Or.inl ⟨⟨b_5, b_16⟩, hl, rfl, rfl⟩)
    · refine X_if_ne 19 24 dX7_adds_19 (by decide) (fun c_0 => by exact absurd c_0 (by decide)) (fun _ => ?_)
      refine X_iconst 22 (1) dX7_adds_22 (by decide) ?_
      refine X_iret 23 dX7_adds_23 rfl rfl ⟨_, rfl, _, rfl, ?_⟩
      first | exact Or.inl ⟨fun z => b_5 z.1, rfl, rfl⟩ | exact Or.inl ⟨fun z => b_16 z.2, rfl, rfl⟩
  · refine X_if_eq 8 22 dX7_adds_8 (by decide) (fun _ => ?_) (fun c_0 => by exact absurd c_0 (by decide))
    refine X_iconst 22 (1) dX7_adds_22 (by decide) ?_
    refine X_iret 23 dX7_adds_23 rfl rfl ⟨_, rfl, _, rfl, ?_⟩
    first | exact Or.inl ⟨fun z => b_5 z.1, rfl, rfl⟩ | exact Or.inl ⟨fun z => b_16 z.2, rfl, rfl⟩
