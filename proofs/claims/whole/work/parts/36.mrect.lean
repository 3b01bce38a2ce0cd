set_option maxHeartbeats 4000000 in
set_option maxRecDepth 100000 in
theorem e_X7_setRectangle (V : Mm) (c r lc pn : Nat) (n x y u v : Int32) (μ : Mm) (hM : MI V c r lc μ) (h3 : μ 0 3 = nI pn) (hpn : pn ≤ 4) : EvN ΛM mX7_setRectangle [.ref 0, .int n, .int x, .int y, .int u, .int v] μ (qI (P3 pn (LPn lc n) (rcOK x y u v) (rectM V (tn n) x y u v) c r lc (plcJ (rectM V (tn n) x y u v) lc c r (tn n)) μ)) := by
  refine EvN_ofQ (by decide +kernel) rfl (fun _ => rfl) (fun _ => Nat.le_of_ble_eq_true rfl) (ls := [(0, .ref 0), (1, .int n), (2, .int x), (3, .int y), (4, .int u), (5, .int v)]) ?_
  obtain ⟨⟨hc1, hc2⟩, ⟨hr1, hr2⟩, h8⟩ := MI_lc hM
  refine X_aload_n 0 0 dX7_setRectangle_0 rfl rfl ?_
  refine X_iload_n 1 1 dX7_setRectangle_1 rfl rfl ?_
  refine X_cVI 2 [.int _] (e_X7_isLamp n lc μ hM.1.1.2.2.1 h8) dX7_setRectangle_2 lm_RX7_150 1 ⟨wm_X7_isLamp, by decide +kernel, rfl, rfl⟩ rfl ⟨Nat.le_of_ble_eq_true rfl, Nat.le_of_ble_eq_true rfl⟩ lyM vc7 rfl rfl (Nat.le_of_ble_eq_true rfl) ?_
  rintro _ _ ⟨rfl, ⟨rfl, b_2⟩ | ⟨rfl, b_2⟩⟩
  · refine X_if_ne 5 14 dX7_setRectangle_5 (by decide) (fun _ => ?_) (fun c_0 => by exact absurd c_0 (by decide))
    refine X_iload_n 14 2 dX7_setRectangle_14 rfl rfl ?_
    refine X_bipush 15 (-20) dX7_setRectangle_15 (by decide) ?_
    refine X_bipush 17 (39) dX7_setRectangle_17 (by decide) ?_
    refine X_cSI 19 [.int _, .int _, .int _] (e_X7_in _ _ _ _) dX7_setRectangle_19 lm_RX7_41 3 ⟨wm_X7_in, by decide +kernel, rfl, rfl⟩ rfl ⟨Nat.le_of_ble_eq_true rfl, Nat.le_of_ble_eq_true rfl⟩ rfl (Nat.le_of_ble_eq_true rfl) ?_
    rintro _ _ ⟨rfl, ⟨rfl, b_19⟩ | ⟨rfl, b_19⟩⟩
    · refine X_if_eq 22 62 dX7_setRectangle_22 (by decide) (fun c_0 => by exact absurd c_0 (by decide)) (fun _ => ?_)
      refine X_iload_n 25 3 dX7_setRectangle_25 rfl rfl ?_
      refine X_bipush 26 (-20) dX7_setRectangle_26 (by decide) ?_
      refine X_bipush 28 (39) dX7_setRectangle_28 (by decide) ?_
      refine X_cSI 30 [.int _, .int _, .int _] (e_X7_in _ _ _ _) dX7_setRectangle_30 lm_RX7_41 3 ⟨wm_X7_in, by decide +kernel, rfl, rfl⟩ rfl ⟨Nat.le_of_ble_eq_true rfl, Nat.le_of_ble_eq_true rfl⟩ rfl (Nat.le_of_ble_eq_true rfl) ?_
      rintro _ _ ⟨rfl, ⟨rfl, b_30⟩ | ⟨rfl, b_30⟩⟩
      · refine X_if_eq 33 62 dX7_setRectangle_33 (by decide) (fun c_0 => by exact absurd c_0 (by decide)) (fun _ => ?_)
        refine X_iload 36 4 dX7_setRectangle_36 rfl ?_
        refine X_iload_n 38 2 dX7_setRectangle_38 rfl rfl ?_
        refine X_iconst 39 (1) dX7_setRectangle_39 (by decide) ?_
        refine X_iadd 40 dX7_setRectangle_40 ?_
        refine X_bipush 41 (40) dX7_setRectangle_41 (by decide) ?_
        refine X_cSI 43 [.int _, .int _, .int _] (e_X7_in _ _ _ _) dX7_setRectangle_43 lm_RX7_41 3 ⟨wm_X7_in, by decide +kernel, rfl, rfl⟩ rfl ⟨Nat.le_of_ble_eq_true rfl, Nat.le_of_ble_eq_true rfl⟩ rfl (Nat.le_of_ble_eq_true rfl) ?_
        rintro _ _ ⟨rfl, ⟨rfl, b_43⟩ | ⟨rfl, b_43⟩⟩
        · refine X_if_eq 46 62 dX7_setRectangle_46 (by decide) (fun c_0 => by exact absurd c_0 (by decide)) (fun _ => ?_)
          refine X_iload 49 5 dX7_setRectangle_49 rfl ?_
          refine X_iload_n 51 3 dX7_setRectangle_51 rfl rfl ?_
          refine X_iconst 52 (1) dX7_setRectangle_52 (by decide) ?_
          refine X_iadd 53 dX7_setRectangle_53 ?_
          refine X_bipush 54 (40) dX7_setRectangle_54 (by decide) ?_
          refine X_cSI 56 [.int _, .int _, .int _] (e_X7_in _ _ _ _) dX7_setRectangle_56 lm_RX7_41 3 ⟨wm_X7_in, by decide +kernel, rfl, rfl⟩ rfl ⟨Nat.le_of_ble_eq_true rfl, Nat.le_of_ble_eq_true rfl⟩ rfl (Nat.le_of_ble_eq_true rfl) ?_
          rintro _ _ ⟨rfl, ⟨rfl, b_56⟩ | ⟨rfl, b_56⟩⟩
          · refine X_if_ne 59 68 dX7_setRectangle_59 (by decide) (fun _ => ?_) (fun c_0 => by exact absurd c_0 (by decide))
            have hrc : rcOK x y u v := ⟨⟨b_19, b_30⟩, ⟨(pls1 b_19 (by decide) (by decide) (a := 0) (b := 0)).mp b_43.1, b_43.2⟩, (pls1 b_30 (by decide) (by decide) (a := 0) (b := 0)).mp b_56.1, b_56.2⟩
            obtain ⟨k, hk, en⟩ := nat_lt b_2.1 b_2.2 (by omega)
            have ek : tn n = k := by rw [en]; exact nI_clamp (by omega)
            have hk8 : k < 8 := by omega
            refine X_aload_n 68 0 dX7_setRectangle_68 rfl rfl ?_
            refine X_cVV 69 [] (e_X7_laysAside _) dX7_setRectangle_69 lm_RX7_162 0 ⟨wm_X7_laysAside, by decide +kernel, rfl, rfl⟩ rfl ⟨Nat.le_of_ble_eq_true rfl, Nat.le_of_ble_eq_true rfl⟩ lyM vc7 rfl rfl (Nat.le_of_ble_eq_true rfl) ?_
            rintro _ rfl
            refine X_muE (μ2 := lay μ) rfl ?_
            refine X_lsE (ls2 := [(0, .ref 0), (1, .int (nI k)), (2, .int x), (3, .int y), (4, .int u), (5, .int v)]) (by rw [en]) ?_
            refine X_iconst 72 (0) dX7_setRectangle_72 (by decide) ?_
            refine X_istore 73 [(6, .int _), (0, .ref _), (1, .int _), (2, .int _), (3, .int _), (4, .int _), (5, .int _)] dX7_setRectangle_73 (by decide) rfl ?_
            refine X_sub [1, 2, 3, 4, 5, 6, 0] [(0, .ref _), (1, .int _), (2, .int _), (3, .int _), (4, .int _), (5, .int _), (6, .int _)] rfl ?_
            have L_75 : ∀ (kf : Nat) (i : Nat) (m : Mm), i ≤ 4 → 4 < i + kf → (MI (rcV V k x y u v i) c r lc m ∧ RS1 (lay μ) m) → ∀ (x75_6 : Int32), nI i = x75_6 → X false ΛM mX7_setRectangle (QN (qI (P3 pn (LPn lc n) (rcOK x y u v) (rectM V (tn n) x y u v) c r lc (plcJ (rectM V (tn n) x y u v) lc c r (tn n)) μ))) 75 [(0, .ref 0), (1, .int (nI k)), (2, .int x), (3, .int y), (4, .int u), (5, .int v), (6, .int x75_6)] [] m := by
              intro kf
              induction kf with
              | zero => intro i m hp75_0 hp75_1 hp75_2; exfalso; omega
              | succ kf ih_75 =>
                intro i m hp75_0 hp75_1 hp75_2 x75_6
                rintro rfl
                refine X_iload 75 6 dX7_setRectangle_75 rfl ?_
                refine X_iconst 77 (4) dX7_setRectangle_77 (by decide) ?_
                refine X_icmp_ge 78 134 dX7_setRectangle_78 (by decide) (fun c_78 => ?_) (fun c_78 => ?_)
                · have hge := c_ge (k := 4) rfl (by omega) (by omega) c_78
                  have hie : 4 = i := by omega
                  subst hie
                  have hM4 := hp75_2.1
                  refine X_aload_n 134 0 dX7_setRectangle_134 rfl rfl ?_
                  refine X_iload_n 135 1 dX7_setRectangle_135 rfl rfl ?_
                  refine X_cVV 136 [.int _] (e_X7_sums (rcV V k x y u v 4) c r lc k _ hM4 hk) dX7_setRectangle_136 lm_RX7_139 1 ⟨wm_X7_sums, by decide +kernel, rfl, rfl⟩ rfl ⟨Nat.le_of_ble_eq_true rfl, Nat.le_of_ble_eq_true rfl⟩ lyM vc7 rfl rfl (Nat.le_of_ble_eq_true rfl) ?_
                  rintro m9 hS9
                  refine X_aload_n 139 0 dX7_setRectangle_139 rfl rfl ?_
                  refine X_aload_n 140 0 dX7_setRectangle_140 rfl rfl ?_
                  refine X_getI (f := 13) 141 dX7_setRectangle_141 lf_RX7_121 iw7 vc7 (by decide) lyM rfl ?_
                  rw [hS9.2.1]
                  refine X_putI (f := 7) 144 dX7_setRectangle_144 lf_RX7_55 iw7 vc7 (by decide) lyM tyX7_ok nmX7 rfl rfl rfl (by decide) rfl rfl ?_
                  refine X_aload_n 147 0 dX7_setRectangle_147 rfl rfl ?_
                  refine X_iconst 148 (0) dX7_setRectangle_148 (by decide) ?_
                  refine X_cVI 149 [.int _] (e_X7_ends pn 0 _ (by rw [uM_n (by omega), hS9.1 0 3 (by decide) (by decide) (by decide), hp75_2.2 0 3 (by decide) (by decide) (by decide) (by decide) (by decide), lay_o (by decide)]; exact h3) hpn) dX7_setRectangle_149 lm_RX7_168 1 ⟨wm_X7_ends, by decide +kernel, rfl, rfl⟩ rfl ⟨Nat.le_of_ble_eq_true rfl, Nat.le_of_ble_eq_true rfl⟩ lyM vc7 rfl rfl (Nat.le_of_ble_eq_true rfl) ?_
                  rintro v8 m8 h8e
                  refine X_iret 152 dX7_setRectangle_152 rfl rfl ⟨_, rfl, _, rfl, ?_⟩
                  refine Or.inr (Or.inr ⟨b_2, hrc, ?_⟩)
                  rw [ek, ← rcV_4]
                  exact fin_ok ⟨MI_7 (MI_SC hM4 hS9.1), uM_s _ _ _ _, RS1_uM (RS1_t hp75_2.2 (RS1_c hS9.1)) (by decide)⟩ h8e
                · have hltn := c_lt (k := 4) rfl (by omega) (by omega) c_78
                  refine X_aload_n 81 0 dX7_setRectangle_81 rfl rfl ?_
                  refine X_iload_n 82 1 dX7_setRectangle_82 rfl rfl ?_
                  refine X_iconst 83 (0) dX7_setRectangle_83 (by decide) ?_
                  refine X_iload 84 6 dX7_setRectangle_84 rfl ?_
                  refine X_iadd 86 dX7_setRectangle_86 ?_
                  rw [Int32.zero_add]
                  refine X_iload 87 6 dX7_setRectangle_87 rfl ?_
                  refine X_if_eq 89 98 dX7_setRectangle_89 (by decide) (fun c_89 => ?_) (fun c_89 => ?_)
                  · have hX : rcX x u i = x := if_pos (Or.inl ((nI_eq (b := 0) (by omega) (by decide)).mp c_89))
                    refine X_iload_n 98 2 dX7_setRectangle_98 rfl rfl ?_
                    refine X_goto 99 104 dX7_setRectangle_99 (by decide) ?_
                    refine X_cVV 104 [.int _, .int _, .int _] (e_X7_put k i _ _ hk8 (by omega)) dX7_setRectangle_104 lm_RX7_146 3 ⟨wm_X7_put, by decide +kernel, rfl, rfl⟩ rfl ⟨Nat.le_of_ble_eq_true rfl, Nat.le_of_ble_eq_true rfl⟩ lyM vc7 rfl rfl (Nat.le_of_ble_eq_true rfl) ?_
                    rintro _ rfl
                    refine X_aload_n 107 0 dX7_setRectangle_107 rfl rfl ?_
                    refine X_iload_n 108 1 dX7_setRectangle_108 rfl rfl ?_
                    refine X_iconst 109 (4) dX7_setRectangle_109 (by decide) ?_
                    refine X_iload 110 6 dX7_setRectangle_110 rfl ?_
                    refine X_iadd 112 dX7_setRectangle_112 ?_
                    rw [show (4 : Int32) + nI i = nI (4 + i) from nI_add 4 _]
                    refine X_iload 113 6 dX7_setRectangle_113 rfl ?_
                    refine X_iconst 115 (2) dX7_setRectangle_115 (by decide) ?_
                    refine X_icmp_ge 116 123 dX7_setRectangle_116 (by decide) (fun c_116 => ?_) (fun c_116 => ?_)
                    · have hY : rcY y v i = v := if_neg (by have := c_ge (k := 2) rfl (by omega) (by omega) c_116; omega)
                      refine X_iload 123 5 dX7_setRectangle_123 rfl ?_
                      refine X_cVV 125 [.int _, .int _, .int _] (e_X7_put k (4 + i) _ _ hk8 (by omega)) dX7_setRectangle_125 lm_RX7_146 3 ⟨wm_X7_put, by decide +kernel, rfl, rfl⟩ rfl ⟨Nat.le_of_ble_eq_true rfl, Nat.le_of_ble_eq_true rfl⟩ lyM vc7 rfl rfl (Nat.le_of_ble_eq_true rfl) ?_
                      rintro _ rfl
                      refine X_iinc 128 6 (_ + 1) [(6, .int _), (0, .ref _), (1, .int _), (2, .int _), (3, .int _), (4, .int _), (5, .int _)] dX7_setRectangle_128 rfl rfl (by decide) rfl ?_
                      refine X_goto 131 75 dX7_setRectangle_131 (by decide) ?_
                      refine X_sub [1, 2, 3, 4, 5, 6, 0] [(0, .ref _), (1, .int _), (2, .int _), (3, .int _), (4, .int _), (5, .int _), (6, .int _)] rfl ?_
                      exact ih_75 (i + 1) _ (by omega) (by omega) ⟨rc_step hX hY hp75_2.1 hltn hrc, cnB_R hp75_2.2⟩ _  (by exact (nI_1 i).symm)
                    · have hY : rcY y v i = y := if_pos (c_lt (k := 2) rfl (by omega) (by omega) c_116)
                      refine X_iload_n 119 3 dX7_setRectangle_119 rfl rfl ?_
                      refine X_goto 120 125 dX7_setRectangle_120 (by decide) ?_
                      refine X_cVV 125 [.int _, .int _, .int _] (e_X7_put k (4 + i) _ _ hk8 (by omega)) dX7_setRectangle_125 lm_RX7_146 3 ⟨wm_X7_put, by decide +kernel, rfl, rfl⟩ rfl ⟨Nat.le_of_ble_eq_true rfl, Nat.le_of_ble_eq_true rfl⟩ lyM vc7 rfl rfl (Nat.le_of_ble_eq_true rfl) ?_
                      rintro _ rfl
                      refine X_iinc 128 6 (_ + 1) [(6, .int _), (0, .ref _), (1, .int _), (2, .int _), (3, .int _), (4, .int _), (5, .int _)] dX7_setRectangle_128 rfl rfl (by decide) rfl ?_
                      refine X_goto 131 75 dX7_setRectangle_131 (by decide) ?_
                      refine X_sub [1, 2, 3, 4, 5, 6, 0] [(0, .ref _), (1, .int _), (2, .int _), (3, .int _), (4, .int _), (5, .int _), (6, .int _)] rfl ?_
                      exact ih_75 (i + 1) _ (by omega) (by omega) ⟨rc_step hX hY hp75_2.1 hltn hrc, cnB_R hp75_2.2⟩ _  (by exact (nI_1 i).symm)
                  · have hi0 : ¬ i = 0 := fun z => c_89 (by rw [z]; rfl)
                    refine X_iload 92 6 dX7_setRectangle_92 rfl ?_
                    refine X_iconst 94 (3) dX7_setRectangle_94 (by decide) ?_
                    refine X_icmp_ne 95 102 dX7_setRectangle_95 (by decide) (fun c_95 => ?_) (fun c_95 => ?_)
                    · have hX : rcX x u i = u := if_neg (fun z => z.elim hi0 (fun q => c_95 (by rw [q]; rfl)))
                      refine X_iload 102 4 dX7_setRectangle_102 rfl ?_
                      refine X_cVV 104 [.int _, .int _, .int _] (e_X7_put k i _ _ hk8 (by omega)) dX7_setRectangle_104 lm_RX7_146 3 ⟨wm_X7_put, by decide +kernel, rfl, rfl⟩ rfl ⟨Nat.le_of_ble_eq_true rfl, Nat.le_of_ble_eq_true rfl⟩ lyM vc7 rfl rfl (Nat.le_of_ble_eq_true rfl) ?_
                      rintro _ rfl
                      refine X_aload_n 107 0 dX7_setRectangle_107 rfl rfl ?_
                      refine X_iload_n 108 1 dX7_setRectangle_108 rfl rfl ?_
                      refine X_iconst 109 (4) dX7_setRectangle_109 (by decide) ?_
                      refine X_iload 110 6 dX7_setRectangle_110 rfl ?_
                      refine X_iadd 112 dX7_setRectangle_112 ?_
                      rw [show (4 : Int32) + nI i = nI (4 + i) from nI_add 4 _]
                      refine X_iload 113 6 dX7_setRectangle_113 rfl ?_
                      refine X_iconst 115 (2) dX7_setRectangle_115 (by decide) ?_
                      refine X_icmp_ge 116 123 dX7_setRectangle_116 (by decide) (fun c_116 => ?_) (fun c_116 => ?_)
                      · have hY : rcY y v i = v := if_neg (by have := c_ge (k := 2) rfl (by omega) (by omega) c_116; omega)
                        refine X_iload 123 5 dX7_setRectangle_123 rfl ?_
                        refine X_cVV 125 [.int _, .int _, .int _] (e_X7_put k (4 + i) _ _ hk8 (by omega)) dX7_setRectangle_125 lm_RX7_146 3 ⟨wm_X7_put, by decide +kernel, rfl, rfl⟩ rfl ⟨Nat.le_of_ble_eq_true rfl, Nat.le_of_ble_eq_true rfl⟩ lyM vc7 rfl rfl (Nat.le_of_ble_eq_true rfl) ?_
                        rintro _ rfl
                        refine X_iinc 128 6 (_ + 1) [(6, .int _), (0, .ref _), (1, .int _), (2, .int _), (3, .int _), (4, .int _), (5, .int _)] dX7_setRectangle_128 rfl rfl (by decide) rfl ?_
                        refine X_goto 131 75 dX7_setRectangle_131 (by decide) ?_
                        refine X_sub [1, 2, 3, 4, 5, 6, 0] [(0, .ref _), (1, .int _), (2, .int _), (3, .int _), (4, .int _), (5, .int _), (6, .int _)] rfl ?_
                        exact ih_75 (i + 1) _ (by omega) (by omega) ⟨rc_step hX hY hp75_2.1 hltn hrc, cnB_R hp75_2.2⟩ _  (by exact (nI_1 i).symm)
                      · have hY : rcY y v i = y := if_pos (c_lt (k := 2) rfl (by omega) (by omega) c_116)
                        refine X_iload_n 119 3 dX7_setRectangle_119 rfl rfl ?_
                        refine X_goto 120 125 dX7_setRectangle_120 (by decide) ?_
                        refine X_cVV 125 [.int _, .int _, .int _] (e_X7_put k (4 + i) _ _ hk8 (by omega)) dX7_setRectangle_125 lm_RX7_146 3 ⟨wm_X7_put, by decide +kernel, rfl, rfl⟩ rfl ⟨Nat.le_of_ble_eq_true rfl, Nat.le_of_ble_eq_true rfl⟩ lyM vc7 rfl rfl (Nat.le_of_ble_eq_true rfl) ?_
                        rintro _ rfl
                        refine X_iinc 128 6 (_ + 1) [(6, .int _), (0, .ref _), (1, .int _), (2, .int _), (3, .int _), (4, .int _), (5, .int _)] dX7_setRectangle_128 rfl rfl (by decide) rfl ?_
                        refine X_goto 131 75 dX7_setRectangle_131 (by decide) ?_
                        refine X_sub [1, 2, 3, 4, 5, 6, 0] [(0, .ref _), (1, .int _), (2, .int _), (3, .int _), (4, .int _), (5, .int _), (6, .int _)] rfl ?_
                        exact ih_75 (i + 1) _ (by omega) (by omega) ⟨rc_step hX hY hp75_2.1 hltn hrc, cnB_R hp75_2.2⟩ _  (by exact (nI_1 i).symm)
                    · have hX : rcX x u i = x := if_pos (Or.inr ((nI_eq (b := 3) (by omega) (by decide)).mp c_95))
                      refine X_iload_n 98 2 dX7_setRectangle_98 rfl rfl ?_
                      refine X_goto 99 104 dX7_setRectangle_99 (by decide) ?_
                      refine X_cVV 104 [.int _, .int _, .int _] (e_X7_put k i _ _ hk8 (by omega)) dX7_setRectangle_104 lm_RX7_146 3 ⟨wm_X7_put, by decide +kernel, rfl, rfl⟩ rfl ⟨Nat.le_of_ble_eq_true rfl, Nat.le_of_ble_eq_true rfl⟩ lyM vc7 rfl rfl (Nat.le_of_ble_eq_true rfl) ?_
                      rintro _ rfl
                      refine X_aload_n 107 0 dX7_setRectangle_107 rfl rfl ?_
                      refine X_iload_n 108 1 dX7_setRectangle_108 rfl rfl ?_
                      refine X_iconst 109 (4) dX7_setRectangle_109 (by decide) ?_
                      refine X_iload 110 6 dX7_setRectangle_110 rfl ?_
                      refine X_iadd 112 dX7_setRectangle_112 ?_
                      rw [show (4 : Int32) + nI i = nI (4 + i) from nI_add 4 _]
                      refine X_iload 113 6 dX7_setRectangle_113 rfl ?_
                      refine X_iconst 115 (2) dX7_setRectangle_115 (by decide) ?_
                      refine X_icmp_ge 116 123 dX7_setRectangle_116 (by decide) (fun c_116 => ?_) (fun c_116 => ?_)
                      · have hY : rcY y v i = v := if_neg (by have := c_ge (k := 2) rfl (by omega) (by omega) c_116; omega)
                        refine X_iload 123 5 dX7_setRectangle_123 rfl ?_
                        refine X_cVV 125 [.int _, .int _, .int _] (e_X7_put k (4 + i) _ _ hk8 (by omega)) dX7_setRectangle_125 lm_RX7_146 3 ⟨wm_X7_put, by decide +kernel, rfl, rfl⟩ rfl ⟨Nat.le_of_ble_eq_true rfl, Nat.le_of_ble_eq_true rfl⟩ lyM vc7 rfl rfl (Nat.le_of_ble_eq_true rfl) ?_
                        rintro _ rfl
                        refine X_iinc 128 6 (_ + 1) [(6, .int _), (0, .ref _), (1, .int _), (2, .int _), (3, .int _), (4, .int _), (5, .int _)] dX7_setRectangle_128 rfl rfl (by decide) rfl ?_
                        refine X_goto 131 75 dX7_setRectangle_131 (by decide) ?_
                        refine X_sub [1, 2, 3, 4, 5, 6, 0] [(0, .ref _), (1, .int _), (2, .int _), (3, .int _), (4, .int _), (5, .int _), (6, .int _)] rfl ?_
                        exact ih_75 (i + 1) _ (by omega) (by omega) ⟨rc_step hX hY hp75_2.1 hltn hrc, cnB_R hp75_2.2⟩ _  (by exact (nI_1 i).symm)
                      · have hY : rcY y v i = y := if_pos (c_lt (k := 2) rfl (by omega) (by omega) c_116)
                        refine X_iload_n 119 3 dX7_setRectangle_119 rfl rfl ?_
                        refine X_goto 120 125 dX7_setRectangle_120 (by decide) ?_
                        refine X_cVV 125 [.int _, .int _, .int _] (e_X7_put k (4 + i) _ _ hk8 (by omega)) dX7_setRectangle_125 lm_RX7_146 3 ⟨wm_X7_put, by decide +kernel, rfl, rfl⟩ rfl ⟨Nat.le_of_ble_eq_true rfl, Nat.le_of_ble_eq_true rfl⟩ lyM vc7 rfl rfl (Nat.le_of_ble_eq_true rfl) ?_
                        rintro _ rfl
                        refine X_iinc 128 6 (_ + 1) [(6, .int _), (0, .ref _), (1, .int _), (2, .int _), (3, .int _), (4, .int _), (5, .int _)] dX7_setRectangle_128 rfl rfl (by decide) rfl ?_
                        refine X_goto 131 75 dX7_setRectangle_131 (by decide) ?_
                        refine X_sub [1, 2, 3, 4, 5, 6, 0] [(0, .ref _), (1, .int _), (2, .int _), (3, .int _), (4, .int _), (5, .int _), (6, .int _)] rfl ?_
                        exact ih_75 (i + 1) _ (by omega) (by omega) ⟨rc_step hX hY hp75_2.1 hltn hrc, cnB_R hp75_2.2⟩ _  (by exact (nI_1 i).symm)
            exact L_75 5 0 _ (by omega) (by omega) ⟨MI_lay hM, RS1_r⟩ _  (by exact nI_0)
          · refine X_if_ne 59 68 dX7_setRectangle_59 (by decide) (fun c_0 => by exact absurd c_0 (by decide)) (fun _ => ?_)
            refine X_aload_n 62 0 dX7_setRectangle_62 rfl rfl ?_
            refine X_iconst 63 (2) dX7_setRectangle_63 (by decide) ?_
            refine X_cVI 64 [.int _] (e_X7_fails _ _) dX7_setRectangle_64 lm_RX7_48 1 ⟨wm_X7_fails, by decide +kernel, rfl, rfl⟩ rfl ⟨Nat.le_of_ble_eq_true rfl, Nat.le_of_ble_eq_true rfl⟩ lyM vc7 rfl rfl (Nat.le_of_ble_eq_true rfl) ?_
            rintro _ _ ⟨rfl, rfl⟩
            refine X_iret 67 dX7_setRectangle_67 rfl rfl ⟨_, rfl, _, rfl, ?_⟩
            refine Or.inr (Or.inl ⟨b_2, ?_, uM_s _ _ _ _, KP_u⟩)
            first
              | exact fun z => b_19 z.1.1
              | exact fun z => b_30 z.1.2
              | exact fun z => b_43 ⟨(pls1 z.1.1 (by decide) (by decide) (a := 0) (b := 0)).mpr z.2.1.1, z.2.1.2⟩
              | exact fun z => b_56 ⟨(pls1 z.1.2 (by decide) (by decide) (a := 0) (b := 0)).mpr z.2.2.1, z.2.2.2⟩
        · refine X_if_eq 46 62 dX7_setRectangle_46 (by decide) (fun _ => ?_) (fun c_0 => by exact absurd c_0 (by decide))
          refine X_aload_n 62 0 dX7_setRectangle_62 rfl rfl ?_
          refine X_iconst 63 (2) dX7_setRectangle_63 (by decide) ?_
          refine X_cVI 64 [.int _] (e_X7_fails _ _) dX7_setRectangle_64 lm_RX7_48 1 ⟨wm_X7_fails, by decide +kernel, rfl, rfl⟩ rfl ⟨Nat.le_of_ble_eq_true rfl, Nat.le_of_ble_eq_true rfl⟩ lyM vc7 rfl rfl (Nat.le_of_ble_eq_true rfl) ?_
          rintro _ _ ⟨rfl, rfl⟩
          refine X_iret 67 dX7_setRectangle_67 rfl rfl ⟨_, rfl, _, rfl, ?_⟩
          refine Or.inr (Or.inl ⟨b_2, ?_, uM_s _ _ _ _, KP_u⟩)
          first
            | exact fun z => b_19 z.1.1
            | exact fun z => b_30 z.1.2
            | exact fun z => b_43 ⟨(pls1 z.1.1 (by decide) (by decide) (a := 0) (b := 0)).mpr z.2.1.1, z.2.1.2⟩
            | exact fun z => b_56 ⟨(pls1 z.1.2 (by decide) (by decide) (a := 0) (b := 0)).mpr z.2.2.1, z.2.2.2⟩
      · refine X_if_eq 33 62 dX7_setRectangle_33 (by decide) (fun _ => ?_) (fun c_0 => by exact absurd c_0 (by decide))
        refine X_aload_n 62 0 dX7_setRectangle_62 rfl rfl ?_
        refine X_iconst 63 (2) dX7_setRectangle_63 (by decide) ?_
        refine X_cVI 64 [.int _] (e_X7_fails _ _) dX7_setRectangle_64 lm_RX7_48 1 ⟨wm_X7_fails, by decide +kernel, rfl, rfl⟩ rfl ⟨Nat.le_of_ble_eq_true rfl, Nat.le_of_ble_eq_true rfl⟩ lyM vc7 rfl rfl (Nat.le_of_ble_eq_true rfl) ?_
        rintro _ _ ⟨rfl, rfl⟩
        refine X_iret 67 dX7_setRectangle_67 rfl rfl ⟨_, rfl, _, rfl, ?_⟩
        refine Or.inr (Or.inl ⟨b_2, ?_, uM_s _ _ _ _, KP_u⟩)
        first
          | exact fun z => b_19 z.1.1
          | exact fun z => b_30 z.1.2
          | exact fun z => b_43 ⟨(pls1 z.1.1 (by decide) (by decide) (a := 0) (b := 0)).mpr z.2.1.1, z.2.1.2⟩
          | exact fun z => b_56 ⟨(pls1 z.1.2 (by decide) (by decide) (a := 0) (b := 0)).mpr z.2.2.1, z.2.2.2⟩
    · refine X_if_eq 22 62 dX7_setRectangle_22 (by decide) (fun _ => ?_) (fun c_0 => by exact absurd c_0 (by decide))
      refine X_aload_n 62 0 dX7_setRectangle_62 rfl rfl ?_
      refine X_iconst 63 (2) dX7_setRectangle_63 (by decide) ?_
      refine X_cVI 64 [.int _] (e_X7_fails _ _) dX7_setRectangle_64 lm_RX7_48 1 ⟨wm_X7_fails, by decide +kernel, rfl, rfl⟩ rfl ⟨Nat.le_of_ble_eq_true rfl, Nat.le_of_ble_eq_true rfl⟩ lyM vc7 rfl rfl (Nat.le_of_ble_eq_true rfl) ?_
      rintro _ _ ⟨rfl, rfl⟩
      refine X_iret 67 dX7_setRectangle_67 rfl rfl ⟨_, rfl, _, rfl, ?_⟩
      refine Or.inr (Or.inl ⟨b_2, ?_, uM_s _ _ _ _, KP_u⟩)
      first
        | exact fun z => b_19 z.1.1
        | exact fun z => b_30 z.1.2
        | exact fun z => b_43 ⟨(pls1 z.1.1 (by decide) (by decide) (a := 0) (b := 0)).mpr z.2.1.1, z.2.1.2⟩
        | exact fun z => b_56 ⟨(pls1 z.1.2 (by decide) (by decide) (a := 0) (b := 0)).mpr z.2.2.1, z.2.2.2⟩
  · refine X_if_ne 5 14 dX7_setRectangle_5 (by decide) (fun c_0 => by exact absurd c_0 (by decide)) (fun _ => ?_)
    refine X_aload_n 8 0 dX7_setRectangle_8 rfl rfl ?_
    refine X_iconst 9 (1) dX7_setRectangle_9 (by decide) ?_
    refine X_cVI 10 [.int _] (e_X7_fails _ _) dX7_setRectangle_10 lm_RX7_48 1 ⟨wm_X7_fails, by decide +kernel, rfl, rfl⟩ rfl ⟨Nat.le_of_ble_eq_true rfl, Nat.le_of_ble_eq_true rfl⟩ lyM vc7 rfl rfl (Nat.le_of_ble_eq_true rfl) ?_
    rintro _ _ ⟨rfl, rfl⟩
    refine X_iret 13 dX7_setRectangle_13 rfl rfl ⟨_, rfl, _, rfl, ?_⟩
    exact Or.inl ⟨b_2, uM_s _ _ _ _, KP_u⟩
set_option maxHeartbeats 4000000 in
set_option maxRecDepth 100000 in
theorem e_X7_setLamp (V : Mm) (c r lc pn : Nat) (n w v : Int32) (μ : Mm) (hM : MI V c r lc μ) (h3 : μ 0 3 = nI pn) (hpn : pn ≤ 4) : EvN ΛM mX7_setLamp [.ref 0, .int n, .int w, .int v] μ (qI (P3 pn (LPn lc n) (lvOK w v) (uM (uM V (9 + tn w) (tn n) v) 0 6 1) c r lc (lvV V lc c r (tn n) (tn w)) μ)) := by
  refine EvN_ofQ (by decide +kernel) rfl (fun _ => rfl) (fun _ => Nat.le_of_ble_eq_true rfl) (ls := [(0, .ref 0), (1, .int n), (2, .int w), (3, .int v)]) ?_
  obtain ⟨⟨hc1, hc2⟩, ⟨hr1, hr2⟩, h8⟩ := MI_lc hM
  refine X_aload_n 0 0 dX7_setLamp_0 rfl rfl ?_
  refine X_iload_n 1 1 dX7_setLamp_1 rfl rfl ?_
  refine X_cVI 2 [.int _] (e_X7_isLamp n lc μ hM.1.1.2.2.1 h8) dX7_setLamp_2 lm_RX7_150 1 ⟨wm_X7_isLamp, by decide +kernel, rfl, rfl⟩ rfl ⟨Nat.le_of_ble_eq_true rfl, Nat.le_of_ble_eq_true rfl⟩ lyM vc7 rfl rfl (Nat.le_of_ble_eq_true rfl) ?_
  rintro _ _ ⟨rfl, ⟨rfl, b_2⟩ | ⟨rfl, b_2⟩⟩
  · refine X_if_ne 5 14 dX7_setLamp_5 (by decide) (fun _ => ?_) (fun c_0 => by exact absurd c_0 (by decide))
    refine X_iload_n 14 2 dX7_setLamp_14 rfl rfl ?_
    refine X_iconst 15 (0) dX7_setLamp_15 (by decide) ?_
    refine X_iconst 16 (2) dX7_setLamp_16 (by decide) ?_
    refine X_cSI 17 [.int _, .int _, .int _] (e_X7_in _ _ _ _) dX7_setLamp_17 lm_RX7_41 3 ⟨wm_X7_in, by decide +kernel, rfl, rfl⟩ rfl ⟨Nat.le_of_ble_eq_true rfl, Nat.le_of_ble_eq_true rfl⟩ rfl (Nat.le_of_ble_eq_true rfl) ?_
    rintro _ _ ⟨rfl, ⟨rfl, b_17⟩ | ⟨rfl, b_17⟩⟩
    · refine X_if_eq 20 45 dX7_setLamp_20 (by decide) (fun c_0 => by exact absurd c_0 (by decide)) (fun _ => ?_)
      refine X_iload_n 23 3 dX7_setLamp_23 rfl rfl ?_
      refine X_iconst 24 (0) dX7_setLamp_24 (by decide) ?_
      refine X_iload_n 25 2 dX7_setLamp_25 rfl rfl ?_
      refine X_iconst 26 (2) dX7_setLamp_26 (by decide) ?_
      refine X_icmp_ne 27 36 dX7_setLamp_27 (by decide) (fun c_27 => ?_) (fun c_27 => ?_)
      · have hif : (if w = 2 then (900 : Int32) else 255) = 255 := if_neg c_27
        refine X_sipush 36 (255) dX7_setLamp_36 (by decide) ?_
        refine X_cSI 39 [.int _, .int _, .int _] (e_X7_in _ _ _ _) dX7_setLamp_39 lm_RX7_41 3 ⟨wm_X7_in, by decide +kernel, rfl, rfl⟩ rfl ⟨Nat.le_of_ble_eq_true rfl, Nat.le_of_ble_eq_true rfl⟩ rfl (Nat.le_of_ble_eq_true rfl) ?_
        rintro _ _ ⟨rfl, ⟨rfl, b_39⟩ | ⟨rfl, b_39⟩⟩
        · refine X_if_ne 42 51 dX7_setLamp_42 (by decide) (fun _ => ?_) (fun c_0 => by exact absurd c_0 (by decide))
          have hlv : lvOK w v := ⟨b_17, by rw [hif]; exact b_39⟩
          obtain ⟨k, hk, rfl⟩ := nat_lt b_2.1 b_2.2 (by omega)
          obtain ⟨j, hj, rfl⟩ := nat_le (n := 2) rfl b_17 (by omega)
          have en : tn (nI k) = k := nI_clamp (by omega)
          have ei : tn (nI j) = j := nI_clamp (by omega)
          have hk8 : k < 8 := by omega
          refine X_aload_n 51 0 dX7_setLamp_51 rfl rfl ?_
          refine X_cVV 52 [] (e_X7_laysAside _) dX7_setLamp_52 lm_RX7_162 0 ⟨wm_X7_laysAside, by decide +kernel, rfl, rfl⟩ rfl ⟨Nat.le_of_ble_eq_true rfl, Nat.le_of_ble_eq_true rfl⟩ lyM vc7 rfl rfl (Nat.le_of_ble_eq_true rfl) ?_
          rintro _ rfl
          refine X_muE (μ2 := lay μ) rfl ?_
          refine X_aload_n 55 0 dX7_setLamp_55 rfl rfl ?_
          refine X_aload_n 56 0 dX7_setLamp_56 rfl rfl ?_
          refine X_iload_n 57 1 dX7_setLamp_57 rfl rfl ?_
          refine X_bipush 58 (8) dX7_setLamp_58 (by decide) ?_
          refine X_iload_n 60 2 dX7_setLamp_60 rfl rfl ?_
          refine X_iadd 61 dX7_setLamp_61 ?_
          rw [show (8 : Int32) + nI j = nI (8 + j) from nI_add 8 _]
          refine X_cVI 62 [.int _, .int _] (e_X7_of k (8 + j) _ hk8 (by omega)) dX7_setLamp_62 lm_RX7_61 2 ⟨wm_X7_of, by decide +kernel, rfl, rfl⟩ rfl ⟨Nat.le_of_ble_eq_true rfl, Nat.le_of_ble_eq_true rfl⟩ lyM vc7 rfl rfl (Nat.le_of_ble_eq_true rfl) ?_
          rintro _ _ ⟨rfl, rfl⟩
          refine X_putI (f := 7) 65 dX7_setLamp_65 lf_RX7_55 iw7 vc7 (by decide) lyM tyX7_ok nmX7 rfl rfl rfl (by decide) rfl rfl ?_
          refine X_aload_n 68 0 dX7_setLamp_68 rfl rfl ?_
          refine X_iload_n 69 1 dX7_setLamp_69 rfl rfl ?_
          refine X_bipush 70 (8) dX7_setLamp_70 (by decide) ?_
          refine X_iload_n 72 2 dX7_setLamp_72 rfl rfl ?_
          refine X_iadd 73 dX7_setLamp_73 ?_
          rw [show (8 : Int32) + nI j = nI (8 + j) from nI_add 8 _]
          refine X_iload_n 74 3 dX7_setLamp_74 rfl rfl ?_
          refine X_cVV 75 [.int _, .int _, .int _] (e_X7_put k (8 + j) _ _ hk8 (by omega)) dX7_setLamp_75 lm_RX7_146 3 ⟨wm_X7_put, by decide +kernel, rfl, rfl⟩ rfl ⟨Nat.le_of_ble_eq_true rfl, Nat.le_of_ble_eq_true rfl⟩ lyM vc7 rfl rfl (Nat.le_of_ble_eq_true rfl) ?_
          rintro _ rfl
          refine X_aload_n 78 0 dX7_setLamp_78 rfl rfl ?_
          refine X_iconst 79 (0) dX7_setLamp_79 (by decide) ?_
          refine X_cVI 80 [.int _] (e_X7_ends pn 0 _ (by rw [uM_n (by omega), uM_n (by omega), lay_o (by decide)]; exact h3) hpn) dX7_setLamp_80 lm_RX7_168 1 ⟨wm_X7_ends, by decide +kernel, rfl, rfl⟩ rfl ⟨Nat.le_of_ble_eq_true rfl, Nat.le_of_ble_eq_true rfl⟩ lyM vc7 rfl rfl (Nat.le_of_ble_eq_true rfl) ?_
          rintro v8 m8 h8e
          refine X_iret 83 dX7_setLamp_83 rfl rfl ⟨_, rfl, _, rfl, ?_⟩
          refine Or.inr (Or.inr ⟨b_2, hlv, ?_⟩)
          rw [en, ei]
          refine fin_ok ⟨nb_MI (V := V) (k := k) (w := 8 + j) (v := v) (MI_7 (MI_lay hM)) ⟨by omega, by omega⟩ ⟨?_, ?_, ?_⟩ ?_, ?_, nbB_R (RS1_uM RS1_r (by decide))⟩ h8e
          · intro hq; have := hlv.2; rw [if_neg (by intro z; have := (nI_eq (b := 2) (by omega) (by decide)).mp z; omega)] at this; exact this
          · intro hq; have := hlv.2; rw [if_pos (by rw [show j = 2 by omega]; rfl)] at this; exact this
          · omega
          · intro p q hp h0
            rw [show 8 + j + 1 = 9 + j by omega]; exact row_V2 p q hp h0
          · unfold nbB
            rw [uM_n (by omega), uM_s, lay_1]; exact (lp_ans hM hk8 hj).symm
        · refine X_if_ne 42 51 dX7_setLamp_42 (by decide) (fun c_0 => by exact absurd c_0 (by decide)) (fun _ => ?_)
          refine X_aload_n 45 0 dX7_setLamp_45 rfl rfl ?_
          refine X_iconst 46 (2) dX7_setLamp_46 (by decide) ?_
          refine X_cVI 47 [.int _] (e_X7_fails _ _) dX7_setLamp_47 lm_RX7_48 1 ⟨wm_X7_fails, by decide +kernel, rfl, rfl⟩ rfl ⟨Nat.le_of_ble_eq_true rfl, Nat.le_of_ble_eq_true rfl⟩ lyM vc7 rfl rfl (Nat.le_of_ble_eq_true rfl) ?_
          rintro _ _ ⟨rfl, rfl⟩
          refine X_iret 50 dX7_setLamp_50 rfl rfl ⟨_, rfl, _, rfl, ?_⟩
          refine Or.inr (Or.inl ⟨b_2, ?_, uM_s _ _ _ _, KP_u⟩)
          first
            | exact fun z => b_17 z.1
            | exact fun z => b_39 (by have := z.2; rw [hif] at this; exact this)
      · have hif : (if w = 2 then (900 : Int32) else 255) = 900 := if_pos c_27
        refine X_sipush 30 (900) dX7_setLamp_30 (by decide) ?_
        refine X_goto 33 39 dX7_setLamp_33 (by decide) ?_
        refine X_cSI 39 [.int _, .int _, .int _] (e_X7_in _ _ _ _) dX7_setLamp_39 lm_RX7_41 3 ⟨wm_X7_in, by decide +kernel, rfl, rfl⟩ rfl ⟨Nat.le_of_ble_eq_true rfl, Nat.le_of_ble_eq_true rfl⟩ rfl (Nat.le_of_ble_eq_true rfl) ?_
        rintro _ _ ⟨rfl, ⟨rfl, b_39⟩ | ⟨rfl, b_39⟩⟩
        · refine X_if_ne 42 51 dX7_setLamp_42 (by decide) (fun _ => ?_) (fun c_0 => by exact absurd c_0 (by decide))
          have hlv : lvOK w v := ⟨b_17, by rw [hif]; exact b_39⟩
          obtain ⟨k, hk, rfl⟩ := nat_lt b_2.1 b_2.2 (by omega)
          obtain ⟨j, hj, rfl⟩ := nat_le (n := 2) rfl b_17 (by omega)
          have en : tn (nI k) = k := nI_clamp (by omega)
          have ei : tn (nI j) = j := nI_clamp (by omega)
          have hk8 : k < 8 := by omega
          refine X_aload_n 51 0 dX7_setLamp_51 rfl rfl ?_
          refine X_cVV 52 [] (e_X7_laysAside _) dX7_setLamp_52 lm_RX7_162 0 ⟨wm_X7_laysAside, by decide +kernel, rfl, rfl⟩ rfl ⟨Nat.le_of_ble_eq_true rfl, Nat.le_of_ble_eq_true rfl⟩ lyM vc7 rfl rfl (Nat.le_of_ble_eq_true rfl) ?_
          rintro _ rfl
          refine X_muE (μ2 := lay μ) rfl ?_
          refine X_aload_n 55 0 dX7_setLamp_55 rfl rfl ?_
          refine X_aload_n 56 0 dX7_setLamp_56 rfl rfl ?_
          refine X_iload_n 57 1 dX7_setLamp_57 rfl rfl ?_
          refine X_bipush 58 (8) dX7_setLamp_58 (by decide) ?_
          refine X_iload_n 60 2 dX7_setLamp_60 rfl rfl ?_
          refine X_iadd 61 dX7_setLamp_61 ?_
          rw [show (8 : Int32) + nI j = nI (8 + j) from nI_add 8 _]
          refine X_cVI 62 [.int _, .int _] (e_X7_of k (8 + j) _ hk8 (by omega)) dX7_setLamp_62 lm_RX7_61 2 ⟨wm_X7_of, by decide +kernel, rfl, rfl⟩ rfl ⟨Nat.le_of_ble_eq_true rfl, Nat.le_of_ble_eq_true rfl⟩ lyM vc7 rfl rfl (Nat.le_of_ble_eq_true rfl) ?_
          rintro _ _ ⟨rfl, rfl⟩
          refine X_putI (f := 7) 65 dX7_setLamp_65 lf_RX7_55 iw7 vc7 (by decide) lyM tyX7_ok nmX7 rfl rfl rfl (by decide) rfl rfl ?_
          refine X_aload_n 68 0 dX7_setLamp_68 rfl rfl ?_
          refine X_iload_n 69 1 dX7_setLamp_69 rfl rfl ?_
          refine X_bipush 70 (8) dX7_setLamp_70 (by decide) ?_
          refine X_iload_n 72 2 dX7_setLamp_72 rfl rfl ?_
          refine X_iadd 73 dX7_setLamp_73 ?_
          rw [show (8 : Int32) + nI j = nI (8 + j) from nI_add 8 _]
          refine X_iload_n 74 3 dX7_setLamp_74 rfl rfl ?_
          refine X_cVV 75 [.int _, .int _, .int _] (e_X7_put k (8 + j) _ _ hk8 (by omega)) dX7_setLamp_75 lm_RX7_146 3 ⟨wm_X7_put, by decide +kernel, rfl, rfl⟩ rfl ⟨Nat.le_of_ble_eq_true rfl, Nat.le_of_ble_eq_true rfl⟩ lyM vc7 rfl rfl (Nat.le_of_ble_eq_true rfl) ?_
          rintro _ rfl
          refine X_aload_n 78 0 dX7_setLamp_78 rfl rfl ?_
          refine X_iconst 79 (0) dX7_setLamp_79 (by decide) ?_
          refine X_cVI 80 [.int _] (e_X7_ends pn 0 _ (by rw [uM_n (by omega), uM_n (by omega), lay_o (by decide)]; exact h3) hpn) dX7_setLamp_80 lm_RX7_168 1 ⟨wm_X7_ends, by decide +kernel, rfl, rfl⟩ rfl ⟨Nat.le_of_ble_eq_true rfl, Nat.le_of_ble_eq_true rfl⟩ lyM vc7 rfl rfl (Nat.le_of_ble_eq_true rfl) ?_
          rintro v8 m8 h8e
          refine X_iret 83 dX7_setLamp_83 rfl rfl ⟨_, rfl, _, rfl, ?_⟩
          refine Or.inr (Or.inr ⟨b_2, hlv, ?_⟩)
          rw [en, ei]
          refine fin_ok ⟨nb_MI (V := V) (k := k) (w := 8 + j) (v := v) (MI_7 (MI_lay hM)) ⟨by omega, by omega⟩ ⟨?_, ?_, ?_⟩ ?_, ?_, nbB_R (RS1_uM RS1_r (by decide))⟩ h8e
          · intro hq; have := hlv.2; rw [if_neg (by intro z; have := (nI_eq (b := 2) (by omega) (by decide)).mp z; omega)] at this; exact this
          · intro hq; have := hlv.2; rw [if_pos (by rw [show j = 2 by omega]; rfl)] at this; exact this
          · omega
          · intro p q hp h0
            rw [show 8 + j + 1 = 9 + j by omega]; exact row_V2 p q hp h0
          · unfold nbB
            rw [uM_n (by omega), uM_s, lay_1]; exact (lp_ans hM hk8 hj).symm
        · refine X_if_ne 42 51 dX7_setLamp_42 (by decide) (fun c_0 => by exact absurd c_0 (by decide)) (fun _ => ?_)
          refine X_aload_n 45 0 dX7_setLamp_45 rfl rfl ?_
          refine X_iconst 46 (2) dX7_setLamp_46 (by decide) ?_
          refine X_cVI 47 [.int _] (e_X7_fails _ _) dX7_setLamp_47 lm_RX7_48 1 ⟨wm_X7_fails, by decide +kernel, rfl, rfl⟩ rfl ⟨Nat.le_of_ble_eq_true rfl, Nat.le_of_ble_eq_true rfl⟩ lyM vc7 rfl rfl (Nat.le_of_ble_eq_true rfl) ?_
          rintro _ _ ⟨rfl, rfl⟩
          refine X_iret 50 dX7_setLamp_50 rfl rfl ⟨_, rfl, _, rfl, ?_⟩
          refine Or.inr (Or.inl ⟨b_2, ?_, uM_s _ _ _ _, KP_u⟩)
          first
            | exact fun z => b_17 z.1
            | exact fun z => b_39 (by have := z.2; rw [hif] at this; exact this)
    · refine X_if_eq 20 45 dX7_setLamp_20 (by decide) (fun _ => ?_) (fun c_0 => by exact absurd c_0 (by decide))
      refine X_aload_n 45 0 dX7_setLamp_45 rfl rfl ?_
      refine X_iconst 46 (2) dX7_setLamp_46 (by decide) ?_
      refine X_cVI 47 [.int _] (e_X7_fails _ _) dX7_setLamp_47 lm_RX7_48 1 ⟨wm_X7_fails, by decide +kernel, rfl, rfl⟩ rfl ⟨Nat.le_of_ble_eq_true rfl, Nat.le_of_ble_eq_true rfl⟩ lyM vc7 rfl rfl (Nat.le_of_ble_eq_true rfl) ?_
      rintro _ _ ⟨rfl, rfl⟩
      refine X_iret 50 dX7_setLamp_50 rfl rfl ⟨_, rfl, _, rfl, ?_⟩
      refine Or.inr (Or.inl ⟨b_2, ?_, uM_s _ _ _ _, KP_u⟩)
      first
        | exact fun z => b_17 z.1
        | exact fun z => b_39 (by have := z.2; rw [hif] at this; exact this)
  · refine X_if_ne 5 14 dX7_setLamp_5 (by decide) (fun c_0 => by exact absurd c_0 (by decide)) (fun _ => ?_)
    refine X_aload_n 8 0 dX7_setLamp_8 rfl rfl ?_
    refine X_iconst 9 (1) dX7_setLamp_9 (by decide) ?_
    refine X_cVI 10 [.int _] (e_X7_fails _ _) dX7_setLamp_10 lm_RX7_48 1 ⟨wm_X7_fails, by decide +kernel, rfl, rfl⟩ rfl ⟨Nat.le_of_ble_eq_true rfl, Nat.le_of_ble_eq_true rfl⟩ lyM vc7 rfl rfl (Nat.le_of_ble_eq_true rfl) ?_
    rintro _ _ ⟨rfl, rfl⟩
    refine X_iret 13 dX7_setLamp_13 rfl rfl ⟨_, rfl, _, rfl, ?_⟩
    exact Or.inl ⟨b_2, uM_s _ _ _ _, KP_u⟩
