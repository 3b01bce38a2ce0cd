set_option maxHeartbeats 4000000 in
set_option maxRecDepth 100000 in
theorem e_X7_runC (b : Nat → Int32) (L : Nat) (w0 : Int32) (n0 : Nat → Int32) (V : Mm) (c r lc la cn pn k : Nat) (V2 : Mm) (μ : Mm) (hT : TM b L μ) (hF : (rdA b L 150 (true, 0, -1000, w0, n0)).2.2.1 = -1000) (hC : CIv V c r lc la cn) (hM : MI V c r lc μ) (hX : TX V L) (hb : bt V = b) (hr : runC L 150 0 c r lc V k V2) (h3 : μ 0 3 = nI pn) (hpn : pn ≤ 4) : EvN ΛM mX7_runCommands [.ref 0] μ (qI (fun v m => ∃ c2 r2 l2, CIv V2 c2 r2 l2 la cn ∧ OPS pn V2 c2 r2 l2 (nI k) μ v m)) := by
  refine EvN_ofQ (by decide +kernel) rfl (fun _ => rfl) (fun _ => Nat.le_of_ble_eq_true rfl) (ls := [(0, .ref 0)]) ?_
  refine X_aload_n 0 0 dX7_runCommands_0 rfl rfl ?_
  refine X_cVI 1 [] (e_X7_faultOfText b L w0 n0 _ hT) dX7_runCommands_1 lm_RX7_255 0 ⟨wm_X7_faultOfText, by decide +kernel, rfl, rfl⟩ rfl ⟨Nat.le_of_ble_eq_true rfl, Nat.le_of_ble_eq_true rfl⟩ lyM vc7 rfl rfl (Nat.le_of_ble_eq_true rfl) ?_
  rintro _ _ ⟨rfl, hf, p9, w9, n9, rfl⟩
  refine X_istore_n 4 [(1, .int _), (0, .ref _)] dX7_runCommands_4 rfl (by decide) rfl ?_
  refine X_iload_n 5 0 dX7_runCommands_5 rfl rfl ?_
  refine X_sipush 6 (-1000) dX7_runCommands_6 (by decide) ?_
  refine X_icmp_eq 9 21 dX7_runCommands_9 (by decide) (fun c_9 => ?_) (fun c_9 => ?_)
  · refine X_aload_n 21 1 dX7_runCommands_21 rfl rfl ?_
    refine X_cVV 22 [] (e_X7_laysAside _) dX7_runCommands_22 lm_RX7_162 0 ⟨wm_X7_laysAside, by decide +kernel, rfl, rfl⟩ rfl ⟨Nat.le_of_ble_eq_true rfl, Nat.le_of_ble_eq_true rfl⟩ lyM vc7 rfl rfl (Nat.le_of_ble_eq_true rfl) ?_
    rintro _ rfl
    refine X_muE (μ2 := lay (pmM μ p9 w9 n9)) rfl ?_
    have hTl := TM_lay hT
    have hT1 := TM_2 hTl (lay_pm (p := p9) (w := w9) (n := n9))
    have hL := hT.2.1
    refine X_aload_n 25 1 dX7_runCommands_25 rfl rfl ?_
    refine X_iconst 26 (0) dX7_runCommands_26 (by decide) ?_
    refine X_putI (f := 19) 27 dX7_runCommands_27 lf_RX7_226 iw7 vc7 (by decide) lyM tyX7_ok nmX7 rfl rfl rfl (by decide) rfl rfl ?_
    refine X_muE (μ2 := pmM (lay (pmM μ p9 w9 n9)) 0 (lay (pmM μ p9 w9 n9) 0 20) (lay (pmM μ p9 w9 n9) 8)) (pm_0 _ 0).symm ?_
    refine X_aload_n 30 1 dX7_runCommands_30 rfl rfl ?_
    refine X_cVI 31 [] (e_X7_skips b L 0 _ _ _ hT1 (by omega)) dX7_runCommands_31 lm_RX7_236 0 ⟨wm_X7_skips, by decide +kernel, rfl, rfl⟩ rfl ⟨Nat.le_of_ble_eq_true rfl, Nat.le_of_ble_eq_true rfl⟩ lyM vc7 rfl rfl (Nat.le_of_ble_eq_true rfl) ?_
    rintro _ _ (⟨rfl, b_31, rfl⟩ | ⟨rfl, b_31, rfl⟩)
    · refine X_istore_n 34 [(2, .int _), (1, .int _), (0, .ref _)] dX7_runCommands_34 rfl (by decide) rfl ?_
      refine X_iconst 35 (0) dX7_runCommands_35 (by decide) ?_
      refine X_istore_n 36 [(3, .int _), (2, .int _), (1, .int _), (0, .ref _)] dX7_runCommands_36 rfl (by decide) rfl ?_
      refine X_iconst 37 (1) dX7_runCommands_37 (by decide) ?_
      refine X_istore 38 [(4, .int _), (3, .int _), (2, .int _), (1, .int _), (0, .ref _)] dX7_runCommands_38 (by decide) rfl ?_
      refine X_sub [4, 1, 0] [(0, .ref _), (3, .int _), (4, .int _)] rfl ?_
      have L_40 : ∀ (kf : Nat) (N : Nat) (m : Mm) (G : Int32), RUNI b L V2 k la cn (lay μ) G N m kf → ∀ (x40_3 : Int32) (x40_4 : Int32), nI N = x40_3 → G = x40_4 → X false ΛM mX7_runCommands (QN (qI (fun v m => ∃ c2 r2 l2, CIv V2 c2 r2 l2 la cn ∧ OPS pn V2 c2 r2 l2 (nI k) μ v m))) 40 [(0, .ref 0), (3, .int x40_3), (4, .int x40_4)] [] m := by
        intro kf
        induction kf with
        | zero => intro N m G hp40_0; exfalso; exact RUNI_0 hp40_0
        | succ kf ih_40 =>
          intro N m G hp40_0 x40_3 x40_4
          rintro rfl rfl
          refine X_iload 40 2 dX7_runCommands_40 rfl ?_
          refine X_if_eq 42 93 dX7_runCommands_42 (by decide) (fun c_42 => ?_) (fun c_42 => ?_)
          · have hFin := RUNI_f hp40_0 c_42
            refine X_aload_n 93 0 dX7_runCommands_93 rfl rfl ?_
            refine X_iload_n 94 1 dX7_runCommands_94 rfl rfl ?_
            refine X_putI (f := 7) 95 dX7_runCommands_95 lf_RX7_55 iw7 vc7 (by decide) lyM tyX7_ok nmX7 rfl rfl rfl (by decide) rfl rfl ?_
            refine X_aload_n 98 0 dX7_runCommands_98 rfl rfl ?_
            refine X_iconst 99 (0) dX7_runCommands_99 (by decide) ?_
            refine X_cVI 100 [.int _] (e_X7_ends pn 0 _ (by rw [uM_n (by omega)]; exact FIN_3 hFin h3) hpn) dX7_runCommands_100 lm_RX7_168 1 ⟨wm_X7_ends, by decide +kernel, rfl, rfl⟩ rfl ⟨Nat.le_of_ble_eq_true rfl, Nat.le_of_ble_eq_true rfl⟩ lyM vc7 rfl rfl (Nat.le_of_ble_eq_true rfl) ?_
            rintro v7 m7 h7e
            refine X_iret 103 dX7_runCommands_103 rfl rfl ⟨_, rfl, _, rfl, ?_⟩
            exact FIN_ends hFin h7e
          · obtain ⟨F, p, c1, r1, l1, W, k1, hN, hkf⟩ := RUNI_t hp40_0 c_42
            have hNN := hN
            obtain ⟨_, _, hC1, hM1, hX1, hb1, hF1, hp1, h191, hR1⟩ := hNN
            have hT2 := TM_2 hTl hR1
            have hsk := sk_bd hT.2.2.2 hp1
            refine X_aload_n 45 0 dX7_runCommands_45 rfl rfl ?_
            refine X_getI (f := 19) 46 dX7_runCommands_46 lf_RX7_226 iw7 vc7 (by decide) lyM rfl ?_
            refine X_aload_n 49 0 dX7_runCommands_49 rfl rfl ?_
            refine X_getI (f := 5) 50 dX7_runCommands_50 lf_RX7_208 iw7 vc7 (by decide) lyM rfl ?_
            rw [h191, hT2.1]
            refine X_icmp_ge 53 93 dX7_runCommands_53 (by decide) (fun c_53 => ?_) (fun c_53 => ?_)
            · have hge : L ≤ sk b p := c_ge rfl (by omega) (by omega) c_53
              have hFin := run_st hN (fun z => RD_end hge z.1) RS2_r rfl
              refine X_aload_n 93 0 dX7_runCommands_93 rfl rfl ?_
              refine X_iload_n 94 1 dX7_runCommands_94 rfl rfl ?_
              refine X_putI (f := 7) 95 dX7_runCommands_95 lf_RX7_55 iw7 vc7 (by decide) lyM tyX7_ok nmX7 rfl rfl rfl (by decide) rfl rfl ?_
              refine X_aload_n 98 0 dX7_runCommands_98 rfl rfl ?_
              refine X_iconst 99 (0) dX7_runCommands_99 (by decide) ?_
              refine X_cVI 100 [.int _] (e_X7_ends pn 0 _ (by rw [uM_n (by omega)]; exact FIN_3 hFin h3) hpn) dX7_runCommands_100 lm_RX7_168 1 ⟨wm_X7_ends, by decide +kernel, rfl, rfl⟩ rfl ⟨Nat.le_of_ble_eq_true rfl, Nat.le_of_ble_eq_true rfl⟩ lyM vc7 rfl rfl (Nat.le_of_ble_eq_true rfl) ?_
              rintro v7 m7 h7e
              refine X_iret 103 dX7_runCommands_103 rfl rfl ⟨_, rfl, _, rfl, ?_⟩
              exact FIN_ends hFin h7e
            · have hnl : ¬ L ≤ sk b p := fun z => c_53 (nI_le z (by omega))
              have hRW := rdC_W (f := W 102 4) (w := W 102 5) (n := W 106) hnl
              refine X_muE (μ2 := pmM m (sk b p) (m 0 20) (m 8)) (pm_self h191) ?_
              refine X_aload_n 56 0 dX7_runCommands_56 rfl rfl ?_
              refine X_cVI 57 [] (e_X7_isCommand b L (sk b p) _ _ (W 102 4) (W 106) _ hT2 hsk.2) dX7_runCommands_57 lm_RX7_252 0 ⟨wm_X7_isCommand, by decide +kernel, rfl, rfl⟩ rfl ⟨Nat.le_of_ble_eq_true rfl, Nat.le_of_ble_eq_true rfl⟩ lyM vc7 rfl rfl (Nat.le_of_ble_eq_true rfl) ?_
              rintro _ _ (⟨rfl, b_57, n8, rfl, hn8⟩ | ⟨rfl, b_57, q8, w8, n8, rfl, hq8⟩)
              · have hwd := rdW_wd b_57
                have hw8 := wdOf_le b (sk b p) (lt b (sk b p))
                rw [← hRW] at b_57 hn8 hwd
                rw [← hRW]
                have hwo : wOf (CM W (RD b L p W)) = (wdOf b (sk b p) (lt b (sk b p))) := by
                  have e5 : (CM W (RD b L p W)) 102 5 = (RD b L p W).2.2.2.1 := cm_5 _ _ _ _ _
                  show tn ((CM W (RD b L p W)) 102 5) = _
                  rw [e5]
                  exact (congrArg tn hwd.2).trans (nI_clamp (by omega))
                refine X_if_eq 60 74 dX7_runCommands_60 (by decide) (fun c_0 => by exact absurd c_0 (by decide)) (fun _ => ?_)
                refine X_aload_n 63 0 dX7_runCommands_63 rfl rfl ?_
                refine X_cVI 64 [] (e_X7_does (CM W (RD b L p W)) c1 r1 l1 (wdOf b (sk b p) (lt b (sk b p))) ((CM W (RD b L p W)) 106) _ (MI_pm (CM_V hM1)) (HVd_C (CIv_cm hC1 _ _ _ _)) (Nat.pos_of_ne_zero hwd.1) hw8 (pm_20 _ _ _ _) (fun j hj => (pm_n (by have := nOf_le (wdOf b (sk b p) (lt b (sk b p))); omega)).trans ((hn8 j hj).trans (cm_n (by have := nOf_le (wdOf b (sk b p) (lt b (sk b p))); omega)).symm))) dX7_runCommands_64 lm_RX7_258 0 ⟨wm_X7_does, by decide +kernel, rfl, rfl⟩ rfl ⟨Nat.le_of_ble_eq_true rfl, Nat.le_of_ble_eq_true rfl⟩ lyM vc7 rfl rfl (Nat.le_of_ble_eq_true rfl) ?_
                rintro x8 m8 h8d
                refine X_if_ne 67 74 dX7_runCommands_67 (by decide) (fun c_67 => ?_) (fun c_67 => ?_)
                · have hFin : FIN V2 k la cn (lay μ) N m8 := by
                    rcases h8d with ⟨hnc, _, hR8, h18⟩ | ⟨_, e8, _⟩
                    · exact run_st hN (fun z => hnc (by rw [← hwo]; exact z.2)) (RS2_t RS2_pm hR8) (h18.trans (funext fun q => pm_o (by omega) (by decide)))
                    · exact absurd e8.symm c_67
                  refine X_iconst 74 (0) dX7_runCommands_74 (by decide) ?_
                  refine X_istore 75 [(4, .int _), (0, .ref _), (3, .int _)] dX7_runCommands_75 (by decide) rfl ?_
                  refine X_iload_n 77 2 dX7_runCommands_77 rfl rfl ?_
                  refine X_iload 78 0 dX7_runCommands_78 rfl ?_
                  refine X_if_eq 80 87 dX7_runCommands_80 (by decide) (fun _ => ?_) (fun c_0 => by exact absurd c_0 (by decide))
                  refine X_iconst 87 (0) dX7_runCommands_87 (by decide) ?_
                  refine X_iadd 88 dX7_runCommands_88 ?_
                  refine X_istore_n 89 [(3, .int _), (4, .int _), (0, .ref _)] dX7_runCommands_89 rfl (by decide) rfl ?_
                  refine X_goto 90 40 dX7_runCommands_90 (by decide) ?_
                  refine X_sub [2, 0, 1] [(0, .ref _), (3, .int _), (4, .int _)] rfl ?_
                  exact ih_40 _ _ _ (by first | exact hGo | exact Or.inr ⟨rfl, hFin, by omega⟩) _ _  (by (first | exact (nI_1 N).symm | exact (Int32.add_zero _).symm)) (by rfl)
                · have hGo : RUNI b L V2 k la cn (lay μ) 1 (N + 1) m8 kf := by
                    rcases h8d with ⟨_, hx, _⟩ | ⟨hc8, _, hR8, h819, hm8⟩
                    · exact absurd c_67 hx
                    · exact run_go hN hkf hL hT.2.2.2 b_57 hwo hc8 (RS2_t RS2_pm hR8) (h819.trans (pm_19 _ _ _ _)) hm8
                  refine X_iconst 70 (1) dX7_runCommands_70 (by decide) ?_
                  refine X_goto 71 75 dX7_runCommands_71 (by decide) ?_
                  refine X_istore 75 [(4, .int _), (0, .ref _), (3, .int _)] dX7_runCommands_75 (by decide) rfl ?_
                  refine X_iload_n 77 2 dX7_runCommands_77 rfl rfl ?_
                  refine X_iload 78 0 dX7_runCommands_78 rfl ?_
                  refine X_if_eq 80 87 dX7_runCommands_80 (by decide) (fun c_0 => by exact absurd c_0 (by decide)) (fun _ => ?_)
                  refine X_iconst 83 (1) dX7_runCommands_83 (by decide) ?_
                  refine X_goto 84 88 dX7_runCommands_84 (by decide) ?_
                  refine X_iadd 88 dX7_runCommands_88 ?_
                  refine X_istore_n 89 [(3, .int _), (4, .int _), (0, .ref _)] dX7_runCommands_89 rfl (by decide) rfl ?_
                  refine X_goto 90 40 dX7_runCommands_90 (by decide) ?_
                  refine X_sub [2, 0, 1] [(0, .ref _), (3, .int _), (4, .int _)] rfl ?_
                  exact ih_40 _ _ _ (by first | exact hGo | exact Or.inr ⟨rfl, hFin, by omega⟩) _ _  (by (first | exact (nI_1 N).symm | exact (Int32.add_zero _).symm)) (by rfl)
              · rw [← hRW] at b_57
                have hFin := run_st hN (fun z => Bool.noConfusion (b_57.symm.trans z.1)) (RS2_pm (p := q8) (w := w8) (n := n8)) (funext fun q => pm_o (by omega) (by decide))
                refine X_if_eq 60 74 dX7_runCommands_60 (by decide) (fun _ => ?_) (fun c_0 => by exact absurd c_0 (by decide))
                refine X_iconst 74 (0) dX7_runCommands_74 (by decide) ?_
                refine X_istore 75 [(4, .int _), (0, .ref _), (3, .int _)] dX7_runCommands_75 (by decide) rfl ?_
                refine X_iload_n 77 2 dX7_runCommands_77 rfl rfl ?_
                refine X_iload 78 0 dX7_runCommands_78 rfl ?_
                refine X_if_eq 80 87 dX7_runCommands_80 (by decide) (fun _ => ?_) (fun c_0 => by exact absurd c_0 (by decide))
                refine X_iconst 87 (0) dX7_runCommands_87 (by decide) ?_
                refine X_iadd 88 dX7_runCommands_88 ?_
                refine X_istore_n 89 [(3, .int _), (4, .int _), (0, .ref _)] dX7_runCommands_89 rfl (by decide) rfl ?_
                refine X_goto 90 40 dX7_runCommands_90 (by decide) ?_
                refine X_sub [2, 0, 1] [(0, .ref _), (3, .int _), (4, .int _)] rfl ?_
                exact ih_40 _ _ _ (by first | exact hGo | exact Or.inr ⟨rfl, hFin, by omega⟩) _ _  (by (first | exact (nI_1 N).symm | exact (Int32.add_zero _).symm)) (by rfl)
      exact L_40 (L + 2) 0 _ 1 (Or.inl ⟨rfl, 150, 0, c, r, lc, V, k, ⟨hr, Nat.zero_add k, hC, MI_pm (MI_lay (MI_pm hM)), hX, hb, Nat.le_refl 150, Nat.zero_le L, pm_19 _ _ _ _, RS2_t lay_pm RS2_pm⟩, by omega⟩) _ _  (by rfl) (by rfl)
    · refine X_istore_n 34 [(2, .int _), (1, .int _), (0, .ref _)] dX7_runCommands_34 rfl (by decide) rfl ?_
      refine X_iconst 35 (0) dX7_runCommands_35 (by decide) ?_
      refine X_istore_n 36 [(3, .int _), (2, .int _), (1, .int _), (0, .ref _)] dX7_runCommands_36 rfl (by decide) rfl ?_
      refine X_iconst 37 (1) dX7_runCommands_37 (by decide) ?_
      refine X_istore 38 [(4, .int _), (3, .int _), (2, .int _), (1, .int _), (0, .ref _)] dX7_runCommands_38 (by decide) rfl ?_
      refine X_sub [4, 1, 0] [(0, .ref _), (3, .int _), (4, .int _)] rfl ?_
      have L_40 : ∀ (kf : Nat) (N : Nat) (m : Mm) (G : Int32), RUNI b L V2 k la cn (lay μ) G N m kf → ∀ (x40_3 : Int32) (x40_4 : Int32), nI N = x40_3 → G = x40_4 → X false ΛM mX7_runCommands (QN (qI (fun v m => ∃ c2 r2 l2, CIv V2 c2 r2 l2 la cn ∧ OPS pn V2 c2 r2 l2 (nI k) μ v m))) 40 [(0, .ref 0), (3, .int x40_3), (4, .int x40_4)] [] m := by
        intro kf
        induction kf with
        | zero => intro N m G hp40_0; exfalso; exact RUNI_0 hp40_0
        | succ kf ih_40 =>
          intro N m G hp40_0 x40_3 x40_4
          rintro rfl rfl
          refine X_iload 40 2 dX7_runCommands_40 rfl ?_
          refine X_if_eq 42 93 dX7_runCommands_42 (by decide) (fun c_42 => ?_) (fun c_42 => ?_)
          · have hFin := RUNI_f hp40_0 c_42
            refine X_aload_n 93 0 dX7_runCommands_93 rfl rfl ?_
            refine X_iload_n 94 1 dX7_runCommands_94 rfl rfl ?_
            refine X_putI (f := 7) 95 dX7_runCommands_95 lf_RX7_55 iw7 vc7 (by decide) lyM tyX7_ok nmX7 rfl rfl rfl (by decide) rfl rfl ?_
            refine X_aload_n 98 0 dX7_runCommands_98 rfl rfl ?_
            refine X_iconst 99 (0) dX7_runCommands_99 (by decide) ?_
            refine X_cVI 100 [.int _] (e_X7_ends pn 0 _ (by rw [uM_n (by omega)]; exact FIN_3 hFin h3) hpn) dX7_runCommands_100 lm_RX7_168 1 ⟨wm_X7_ends, by decide +kernel, rfl, rfl⟩ rfl ⟨Nat.le_of_ble_eq_true rfl, Nat.le_of_ble_eq_true rfl⟩ lyM vc7 rfl rfl (Nat.le_of_ble_eq_true rfl) ?_
            rintro v7 m7 h7e
            refine X_iret 103 dX7_runCommands_103 rfl rfl ⟨_, rfl, _, rfl, ?_⟩
            exact FIN_ends hFin h7e
          · obtain ⟨F, p, c1, r1, l1, W, k1, hN, hkf⟩ := RUNI_t hp40_0 c_42
            have hNN := hN
            obtain ⟨_, _, hC1, hM1, hX1, hb1, hF1, hp1, h191, hR1⟩ := hNN
            have hT2 := TM_2 hTl hR1
            have hsk := sk_bd hT.2.2.2 hp1
            refine X_aload_n 45 0 dX7_runCommands_45 rfl rfl ?_
            refine X_getI (f := 19) 46 dX7_runCommands_46 lf_RX7_226 iw7 vc7 (by decide) lyM rfl ?_
            refine X_aload_n 49 0 dX7_runCommands_49 rfl rfl ?_
            refine X_getI (f := 5) 50 dX7_runCommands_50 lf_RX7_208 iw7 vc7 (by decide) lyM rfl ?_
            rw [h191, hT2.1]
            refine X_icmp_ge 53 93 dX7_runCommands_53 (by decide) (fun c_53 => ?_) (fun c_53 => ?_)
            · have hge : L ≤ sk b p := c_ge rfl (by omega) (by omega) c_53
              have hFin := run_st hN (fun z => RD_end hge z.1) RS2_r rfl
              refine X_aload_n 93 0 dX7_runCommands_93 rfl rfl ?_
              refine X_iload_n 94 1 dX7_runCommands_94 rfl rfl ?_
              refine X_putI (f := 7) 95 dX7_runCommands_95 lf_RX7_55 iw7 vc7 (by decide) lyM tyX7_ok nmX7 rfl rfl rfl (by decide) rfl rfl ?_
              refine X_aload_n 98 0 dX7_runCommands_98 rfl rfl ?_
              refine X_iconst 99 (0) dX7_runCommands_99 (by decide) ?_
              refine X_cVI 100 [.int _] (e_X7_ends pn 0 _ (by rw [uM_n (by omega)]; exact FIN_3 hFin h3) hpn) dX7_runCommands_100 lm_RX7_168 1 ⟨wm_X7_ends, by decide +kernel, rfl, rfl⟩ rfl ⟨Nat.le_of_ble_eq_true rfl, Nat.le_of_ble_eq_true rfl⟩ lyM vc7 rfl rfl (Nat.le_of_ble_eq_true rfl) ?_
              rintro v7 m7 h7e
              refine X_iret 103 dX7_runCommands_103 rfl rfl ⟨_, rfl, _, rfl, ?_⟩
              exact FIN_ends hFin h7e
            · have hnl : ¬ L ≤ sk b p := fun z => c_53 (nI_le z (by omega))
              have hRW := rdC_W (f := W 102 4) (w := W 102 5) (n := W 106) hnl
              refine X_muE (μ2 := pmM m (sk b p) (m 0 20) (m 8)) (pm_self h191) ?_
              refine X_aload_n 56 0 dX7_runCommands_56 rfl rfl ?_
              refine X_cVI 57 [] (e_X7_isCommand b L (sk b p) _ _ (W 102 4) (W 106) _ hT2 hsk.2) dX7_runCommands_57 lm_RX7_252 0 ⟨wm_X7_isCommand, by decide +kernel, rfl, rfl⟩ rfl ⟨Nat.le_of_ble_eq_true rfl, Nat.le_of_ble_eq_true rfl⟩ lyM vc7 rfl rfl (Nat.le_of_ble_eq_true rfl) ?_
              rintro _ _ (⟨rfl, b_57, n8, rfl, hn8⟩ | ⟨rfl, b_57, q8, w8, n8, rfl, hq8⟩)
              · have hwd := rdW_wd b_57
                have hw8 := wdOf_le b (sk b p) (lt b (sk b p))
                rw [← hRW] at b_57 hn8 hwd
                rw [← hRW]
                have hwo : wOf (CM W (RD b L p W)) = (wdOf b (sk b p) (lt b (sk b p))) := by
                  have e5 : (CM W (RD b L p W)) 102 5 = (RD b L p W).2.2.2.1 := cm_5 _ _ _ _ _
                  show tn ((CM W (RD b L p W)) 102 5) = _
                  rw [e5]
                  exact (congrArg tn hwd.2).trans (nI_clamp (by omega))
                refine X_if_eq 60 74 dX7_runCommands_60 (by decide) (fun c_0 => by exact absurd c_0 (by decide)) (fun _ => ?_)
                refine X_aload_n 63 0 dX7_runCommands_63 rfl rfl ?_
                refine X_cVI 64 [] (e_X7_does (CM W (RD b L p W)) c1 r1 l1 (wdOf b (sk b p) (lt b (sk b p))) ((CM W (RD b L p W)) 106) _ (MI_pm (CM_V hM1)) (HVd_C (CIv_cm hC1 _ _ _ _)) (Nat.pos_of_ne_zero hwd.1) hw8 (pm_20 _ _ _ _) (fun j hj => (pm_n (by have := nOf_le (wdOf b (sk b p) (lt b (sk b p))); omega)).trans ((hn8 j hj).trans (cm_n (by have := nOf_le (wdOf b (sk b p) (lt b (sk b p))); omega)).symm))) dX7_runCommands_64 lm_RX7_258 0 ⟨wm_X7_does, by decide +kernel, rfl, rfl⟩ rfl ⟨Nat.le_of_ble_eq_true rfl, Nat.le_of_ble_eq_true rfl⟩ lyM vc7 rfl rfl (Nat.le_of_ble_eq_true rfl) ?_
                rintro x8 m8 h8d
                refine X_if_ne 67 74 dX7_runCommands_67 (by decide) (fun c_67 => ?_) (fun c_67 => ?_)
                · have hFin : FIN V2 k la cn (lay μ) N m8 := by
                    rcases h8d with ⟨hnc, _, hR8, h18⟩ | ⟨_, e8, _⟩
                    · exact run_st hN (fun z => hnc (by rw [← hwo]; exact z.2)) (RS2_t RS2_pm hR8) (h18.trans (funext fun q => pm_o (by omega) (by decide)))
                    · exact absurd e8.symm c_67
                  refine X_iconst 74 (0) dX7_runCommands_74 (by decide) ?_
                  refine X_istore 75 [(4, .int _), (0, .ref _), (3, .int _)] dX7_runCommands_75 (by decide) rfl ?_
                  refine X_iload_n 77 2 dX7_runCommands_77 rfl rfl ?_
                  refine X_iload 78 0 dX7_runCommands_78 rfl ?_
                  refine X_if_eq 80 87 dX7_runCommands_80 (by decide) (fun _ => ?_) (fun c_0 => by exact absurd c_0 (by decide))
                  refine X_iconst 87 (0) dX7_runCommands_87 (by decide) ?_
                  refine X_iadd 88 dX7_runCommands_88 ?_
                  refine X_istore_n 89 [(3, .int _), (4, .int _), (0, .ref _)] dX7_runCommands_89 rfl (by decide) rfl ?_
                  refine X_goto 90 40 dX7_runCommands_90 (by decide) ?_
                  refine X_sub [2, 0, 1] [(0, .ref _), (3, .int _), (4, .int _)] rfl ?_
                  exact ih_40 _ _ _ (by first | exact hGo | exact Or.inr ⟨rfl, hFin, by omega⟩) _ _  (by (first | exact (nI_1 N).symm | exact (Int32.add_zero _).symm)) (by rfl)
                · have hGo : RUNI b L V2 k la cn (lay μ) 1 (N + 1) m8 kf := by
                    rcases h8d with ⟨_, hx, _⟩ | ⟨hc8, _, hR8, h819, hm8⟩
                    · exact absurd c_67 hx
                    · exact run_go hN hkf hL hT.2.2.2 b_57 hwo hc8 (RS2_t RS2_pm hR8) (h819.trans (pm_19 _ _ _ _)) hm8
                  refine X_iconst 70 (1) dX7_runCommands_70 (by decide) ?_
                  refine X_goto 71 75 dX7_runCommands_71 (by decide) ?_
                  refine X_istore 75 [(4, .int _), (0, .ref _), (3, .int _)] dX7_runCommands_75 (by decide) rfl ?_
                  refine X_iload_n 77 2 dX7_runCommands_77 rfl rfl ?_
                  refine X_iload 78 0 dX7_runCommands_78 rfl ?_
                  refine X_if_eq 80 87 dX7_runCommands_80 (by decide) (fun c_0 => by exact absurd c_0 (by decide)) (fun _ => ?_)
                  refine X_iconst 83 (1) dX7_runCommands_83 (by decide) ?_
                  refine X_goto 84 88 dX7_runCommands_84 (by decide) ?_
                  refine X_iadd 88 dX7_runCommands_88 ?_
                  refine X_istore_n 89 [(3, .int _), (4, .int _), (0, .ref _)] dX7_runCommands_89 rfl (by decide) rfl ?_
                  refine X_goto 90 40 dX7_runCommands_90 (by decide) ?_
                  refine X_sub [2, 0, 1] [(0, .ref _), (3, .int _), (4, .int _)] rfl ?_
                  exact ih_40 _ _ _ (by first | exact hGo | exact Or.inr ⟨rfl, hFin, by omega⟩) _ _  (by (first | exact (nI_1 N).symm | exact (Int32.add_zero _).symm)) (by rfl)
              · rw [← hRW] at b_57
                have hFin := run_st hN (fun z => Bool.noConfusion (b_57.symm.trans z.1)) (RS2_pm (p := q8) (w := w8) (n := n8)) (funext fun q => pm_o (by omega) (by decide))
                refine X_if_eq 60 74 dX7_runCommands_60 (by decide) (fun _ => ?_) (fun c_0 => by exact absurd c_0 (by decide))
                refine X_iconst 74 (0) dX7_runCommands_74 (by decide) ?_
                refine X_istore 75 [(4, .int _), (0, .ref _), (3, .int _)] dX7_runCommands_75 (by decide) rfl ?_
                refine X_iload_n 77 2 dX7_runCommands_77 rfl rfl ?_
                refine X_iload 78 0 dX7_runCommands_78 rfl ?_
                refine X_if_eq 80 87 dX7_runCommands_80 (by decide) (fun _ => ?_) (fun c_0 => by exact absurd c_0 (by decide))
                refine X_iconst 87 (0) dX7_runCommands_87 (by decide) ?_
                refine X_iadd 88 dX7_runCommands_88 ?_
                refine X_istore_n 89 [(3, .int _), (4, .int _), (0, .ref _)] dX7_runCommands_89 rfl (by decide) rfl ?_
                refine X_goto 90 40 dX7_runCommands_90 (by decide) ?_
                refine X_sub [2, 0, 1] [(0, .ref _), (3, .int _), (4, .int _)] rfl ?_
                exact ih_40 _ _ _ (by first | exact hGo | exact Or.inr ⟨rfl, hFin, by omega⟩) _ _  (by (first | exact (nI_1 N).symm | exact (Int32.add_zero _).symm)) (by rfl)
      exact L_40 (L + 2) 0 _ 1 (Or.inl ⟨rfl, 150, 0, c, r, lc, V, k, ⟨hr, Nat.zero_add k, hC, MI_pm (MI_lay (MI_pm hM)), hX, hb, Nat.le_refl 150, Nat.zero_le L, pm_19 _ _ _ _, RS2_t lay_pm RS2_pm⟩, by omega⟩) _ _  (by rfl) (by rfl)
  · exact absurd hF c_9
