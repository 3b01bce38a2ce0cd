set_option maxHeartbeats 4000000 in
set_option maxRecDepth 100000 in
theorem e_X7_shines (s : Nat) (V : Mm) (c r lc : Nat) (z : Int32) (x y : Nat) (μ : Mm) (hR : REP s V (μ 1) c r lc) (hz : HZ s V lc (μ 0 8) z) (hx : x < c) (hy : y < r) : EvN ΛM mX7_shines [.ref 0, .int (nI x), .int (nI y)] μ (qV (SHP s V z (μ 1 2) (μ 1 3) c lc x y μ)) := by
  refine EvN_ofQ (by decide +kernel) rfl (fun _ => rfl) (fun _ => Nat.le_of_ble_eq_true rfl) (ls := [(0, .ref 0), (1, .int (nI x)), (2, .int (nI y))]) ?_
  have h8 : lc ≤ 8 := hR.1.2.2.2.2.2.2.2
  have hc : c ≤ 24 := hR.1.2.2.2.2.1
  have hr : r ≤ 16 := hR.1.2.2.2.2.2.2.1
  have hW := WB_pl hR hz (show x < 24 by omega) (show y < 16 by omega) (bd_rg hR.2.1.1.1 (by decide) (by decide)) (bd_rg hR.2.1.1.2 (by decide) (by decide))
  have hcv := WG_cv (μ := μ) (lc := lc) h8 (w := (plW V s z (2 * (nI x + μ 1 2) + 1) (2 * (nI y + μ 1 3) + 1)))
  have hall := WG_all (μ := μ) h8 hW
  refine X_aload_n 0 0 dX7_shines_0 rfl rfl ?_
  refine X_iload_n 1 1 dX7_shines_1 rfl rfl ?_
  refine X_iload_n 2 2 dX7_shines_2 rfl rfl ?_
  refine X_cVI 3 [.int _, .int _] (e_X7_target x y _ (by omega) (by omega)) dX7_shines_3 lm_RX7_94 2 ⟨wm_X7_target, by decide +kernel, rfl, rfl⟩ rfl ⟨Nat.le_of_ble_eq_true rfl, Nat.le_of_ble_eq_true rfl⟩ lyM vc7 rfl rfl (Nat.le_of_ble_eq_true rfl) ?_
  rintro _ _ ⟨rfl, rfl⟩
  rw [← hR.2.2.2.2 x y hx hy]
  refine X_istore_n 6 [(3, .int _), (0, .ref _), (1, .int _), (2, .int _)] dX7_shines_6 rfl (by decide) rfl ?_
  refine X_aload_n 7 1 dX7_shines_7 rfl rfl ?_
  refine X_iload_n 8 2 dX7_shines_8 rfl rfl ?_
  refine X_iload_n 9 3 dX7_shines_9 rfl rfl ?_
  refine X_cVV 10 [.int _, .int _] (e_X7_weighs s V c r lc z x y _ hR hz) dX7_shines_10 lm_RX7_97 2 ⟨wm_X7_weighs, by decide +kernel, rfl, rfl⟩ rfl ⟨Nat.le_of_ble_eq_true rfl, Nat.le_of_ble_eq_true rfl⟩ lyM vc7 rfl rfl (Nat.le_of_ble_eq_true rfl) ?_
  rintro _ rfl
  refine X_aload_n 13 1 dX7_shines_13 rfl rfl ?_
  refine X_iload_n 14 0 dX7_shines_14 rfl rfl ?_
  refine X_cVV 15 [.int _] (e_X7_shares lc (V (s + 8) (y * c + x)) _ (by rw [WG_1]; exact hR.1.2.2.1) h8 hcv hall) dX7_shines_15 lm_RX7_101 1 ⟨wm_X7_shares, by decide +kernel, rfl, rfl⟩ rfl ⟨Nat.le_of_ble_eq_true rfl, Nat.le_of_ble_eq_true rfl⟩ lyM vc7 rfl rfl (Nat.le_of_ble_eq_true rfl) ?_
  rintro _ rfl
  refine X_iconst 18 (0) dX7_shines_18 (by decide) ?_
  refine X_istore 19 [(4, .int _), (3, .int _), (0, .ref _), (1, .int _), (2, .int _)] dX7_shines_19 (by decide) rfl ?_
  refine X_sub [2, 3, 4, 1, 0] [(0, .ref _), (1, .int _), (2, .int _), (3, .int _), (4, .int _)] rfl ?_
  have L_21 : ∀ (kf : Nat) (n : Nat), n ≤ lc → lc < n + kf → ∀ (x21_4 : Int32) (μ21 : Mm), nI n = x21_4 → setRow (shrM (WG μ (plW V s z (2 * (nI x + μ 1 2) + 1) (2 * (nI y + μ 1 3) + 1)) lc) lc (V (s + 8) (y * c + x))) 6 n (k1V (plW V s z (2 * (nI x + μ 1 2) + 1) (2 * (nI y + μ 1 3) + 1)) (lim V s) (flo V s) (V (s + 8) (y * c + x)) lc) = μ21 → X false ΛM mX7_shines (QN (qV (SHP s V z (μ 1 2) (μ 1 3) c lc x y μ))) 21 [(0, .ref 0), (1, .int (nI x)), (2, .int (nI y)), (3, .int ((V (s + 8) (y * c + x)))), (4, .int x21_4)] [] μ21 := by
    intro kf
    induction kf with
    | zero => intro n hp21_0 hp21_1; exfalso; omega
    | succ kf ih_21 =>
      intro n hp21_0 hp21_1 x21_4 μ21
      rintro rfl rfl
      refine X_iload 21 4 dX7_shines_21 rfl ?_
      refine X_aload_n 23 0 dX7_shines_23 rfl rfl ?_
      refine X_getR (f := 0) 24 dX7_shines_24 lf_RX7_7 iw7 vc7 (by decide) lyM rfl ?_
      refine X_iconst 27 (4) dX7_shines_27 (by decide) ?_
      refine X_iald 28 dX7_shines_28 lyM1 (vp_in_nI (n := 4) (by decide) (by decide)) ?_
      rw [cl4]
      rw [setRow_r (by decide), shrM_r (by decide), WG_1, hR.1.2.2.1]
      refine X_icmp_ge 29 110 dX7_shines_29 (by decide) (fun c_29 => ?_) (fun c_29 => ?_)
      · have hge : lc ≤ n := c_ge rfl (by omega) (by omega) c_29
        have hie : lc = n := by omega
        subst hie
        refine X_iload_n 110 3 dX7_shines_110 rfl rfl ?_
        refine X_aload_n 111 0 dX7_shines_111 rfl rfl ?_
        refine X_cVI 112 [] (e_X7_sumOfLights lc _ (by rw [setRow_r (by decide), shrM_r (by decide), WG_1]; exact hR.1.2.2.1) h8) dX7_shines_112 lm_RX7_108 0 ⟨wm_X7_sumOfLights, by decide +kernel, rfl, rfl⟩ rfl ⟨Nat.le_of_ble_eq_true rfl, Nat.le_of_ble_eq_true rfl⟩ lyM vc7 rfl rfl (Nat.le_of_ble_eq_true rfl) ?_
        rintro _ _ ⟨rfl, rfl⟩
        rw [setRow_sum]
        refine X_isub 115 dX7_shines_115 ?_
        refine X_istore 116 [(4, .int _), (0, .ref _), (1, .int _), (2, .int _), (3, .int _)] dX7_shines_116 (by decide) rfl ?_
        refine X_iconst 118 (0) dX7_shines_118 (by decide) ?_
        refine X_istore 119 [(5, .int _), (4, .int _), (0, .ref _), (1, .int _), (2, .int _), (3, .int _)] dX7_shines_119 (by decide) rfl ?_
        refine X_sub [2, 3, 4, 5, 1, 0] [(0, .ref _), (1, .int _), (2, .int _), (3, .int _), (4, .int _), (5, .int _)] rfl ?_
        have L_121 : ∀ (kf : Nat) (n : Nat), n ≤ lc → lc < n + kf → ∀ (x121_4 : Int32) (x121_5 : Int32) (μ121 : Mm), (dV (plW V s z (2 * (nI x + μ 1 2) + 1) (2 * (nI y + μ 1 3) + 1)) (lim V s) (flo V s) (V (s + 8) (y * c + x)) lc n) = x121_4 → nI n = x121_5 → setRow (setRow (shrM (WG μ (plW V s z (2 * (nI x + μ 1 2) + 1) (2 * (nI y + μ 1 3) + 1)) lc) lc (V (s + 8) (y * c + x))) 6 lc (k1V (plW V s z (2 * (nI x + μ 1 2) + 1) (2 * (nI y + μ 1 3) + 1)) (lim V s) (flo V s) (V (s + 8) (y * c + x)) lc)) 6 n (k2V (plW V s z (2 * (nI x + μ 1 2) + 1) (2 * (nI y + μ 1 3) + 1)) (lim V s) (flo V s) (V (s + 8) (y * c + x)) lc) = μ121 → X false ΛM mX7_shines (QN (qV (SHP s V z (μ 1 2) (μ 1 3) c lc x y μ))) 121 [(0, .ref 0), (1, .int (nI x)), (2, .int (nI y)), (3, .int ((V (s + 8) (y * c + x)))), (4, .int x121_4), (5, .int x121_5)] [] μ121 := by
          intro kf
          induction kf with
          | zero => intro n hp121_0 hp121_1; exfalso; omega
          | succ kf ih_121 =>
            intro n hp121_0 hp121_1 x121_4 x121_5 μ121
            rintro rfl rfl rfl
            refine X_iload 121 5 dX7_shines_121 rfl ?_
            refine X_aload_n 123 0 dX7_shines_123 rfl rfl ?_
            refine X_getR (f := 0) 124 dX7_shines_124 lf_RX7_7 iw7 vc7 (by decide) lyM rfl ?_
            refine X_iconst 127 (4) dX7_shines_127 (by decide) ?_
            refine X_iald 128 dX7_shines_128 lyM1 (vp_in_nI (n := 4) (by decide) (by decide)) ?_
            rw [cl4]
            rw [setRow_r (by decide), setRow_r (by decide), shrM_r (by decide), WG_1, hR.1.2.2.1]
            refine X_icmp_ge 129 216 dX7_shines_129 (by decide) (fun c_129 => ?_) (fun c_129 => ?_)
            · have hge : lc ≤ n := c_ge rfl (by omega) (by omega) c_129
              have hie : lc = n := by omega
              subst hie
              refine X_aload_n 216 0 dX7_shines_216 rfl rfl ?_
              refine X_aload_n 217 0 dX7_shines_217 rfl rfl ?_
              refine X_cVI 218 [] (e_X7_sumOfLights lc _ (by rw [setRow_r (by decide), setRow_r (by decide), shrM_r (by decide), WG_1]; exact hR.1.2.2.1) h8) dX7_shines_218 lm_RX7_108 0 ⟨wm_X7_sumOfLights, by decide +kernel, rfl, rfl⟩ rfl ⟨Nat.le_of_ble_eq_true rfl, Nat.le_of_ble_eq_true rfl⟩ lyM vc7 rfl rfl (Nat.le_of_ble_eq_true rfl) ?_
              rintro _ _ ⟨rfl, rfl⟩
              rw [setRow_sum]
              refine X_putI (f := 12) 221 dX7_shines_221 lf_RX7_112 iw7 vc7 (by decide) lyM tyX7_ok nmX7 rfl rfl rfl (by decide) rfl rfl ?_
              refine X_vret 224 dX7_shines_224 rfl ⟨_, rfl, rfl, ?_⟩
              exact shn_ok hR hz hx hy
            · have hlt : n < lc := c_lt rfl (by omega) (by omega) c_129
              have hn8 : n < 8 := by omega
              refine X_aload_n 132 0 dX7_shines_132 rfl rfl ?_
              refine X_iload 133 5 dX7_shines_133 rfl ?_
              refine X_cVI 135 [.int _] (e_X7_isOn _ _) dX7_shines_135 lm_RX7_91 1 ⟨wm_X7_isOn, by decide +kernel, rfl, rfl⟩ rfl ⟨Nat.le_of_ble_eq_true rfl, Nat.le_of_ble_eq_true rfl⟩ lyM vc7 rfl rfl (Nat.le_of_ble_eq_true rfl) ?_
              rintro _ _ ⟨rfl, ⟨rfl, b_135⟩ | ⟨rfl, b_135⟩⟩
              · rw [setRow_out (by omega), setRow_out (by omega), shrM_o (by decide), WG_11] at b_135
                have hm1 : (setRow (shrM (WG μ (plW V s z (2 * (nI x + μ 1 2) + 1) (2 * (nI y + μ 1 3) + 1)) lc) lc (V (s + 8) (y * c + x))) 6 lc (k1V (plW V s z (2 * (nI x + μ 1 2) + 1) (2 * (nI y + μ 1 3) + 1)) (lim V s) (flo V s) (V (s + 8) (y * c + x)) lc)) 6 n = (k1V (plW V s z (2 * (nI x + μ 1 2) + 1) (2 * (nI y + μ 1 3) + 1)) (lim V s) (flo V s) (V (s + 8) (y * c + x)) lc) n := if_pos ⟨rfl, hlt⟩
                have hdb := dV_bd (n := n) h8 hW (tg_bd hR hx hy) (li_fl hR) hn8
                have hkb := bd_mono (k1_bd (t := (V (s + 8) (y * c + x))) h8 hW (li_fl hR) n hn8) (by decide : 300 ≤ 100000000)
                have hfb : bd (flo V s n) 100000000 := by have := flo_rg hR hn8; unfold bd; omega
                refine X_if_eq 138 210 dX7_shines_138 (by decide) (fun c_0 => by exact absurd c_0 (by decide)) (fun _ => ?_)
                refine X_iload 141 4 dX7_shines_141 rfl ?_
                refine X_if_le 143 168 dX7_shines_143 (by decide) (fun c_143 => ?_) (fun c_143 => ?_)
                · have hd0 := dV_neg b_135 c_143
                  have hv1 := k2_neg b_135 c_143
                  refine X_iload 168 4 dX7_shines_168 rfl ?_
                  refine X_ineg 170 dX7_shines_170 ?_
                  refine X_aload_n 171 0 dX7_shines_171 rfl rfl ?_
                  refine X_getR (f := 10) 172 dX7_shines_172 lf_RX7_29 iw7 vc7 (by decide) lyM rfl ?_
                  refine X_iload 175 5 dX7_shines_175 rfl ?_
                  refine X_iald 177 dX7_shines_177 lyM6 (vp_in_nI hn8 (by decide)) ?_
                  rw [nI_clamp (by omega), setRow_ge (Nat.le_refl n), hm1]
                  refine X_aload_n 178 0 dX7_shines_178 rfl rfl ?_
                  refine X_iload 179 5 dX7_shines_179 rfl ?_
                  refine X_cVI 181 [.int _] (e_X7_floor s V c r lc n _ (by rw [setRow_r (by decide), setRow_r (by decide), shrM_r (by decide), WG_1]; exact hR) hn8) dX7_shines_181 lm_RX7_105 1 ⟨wm_X7_floor, by decide +kernel, rfl, rfl⟩ rfl ⟨Nat.le_of_ble_eq_true rfl, Nat.le_of_ble_eq_true rfl⟩ lyM vc7 rfl rfl (Nat.le_of_ble_eq_true rfl) ?_
                  rintro _ _ ⟨rfl, rfl⟩
                  refine X_isub 184 dX7_shines_184 ?_
                  refine X_cSI 185 [.int _, .int _] (e_X7_lesser _ _ _) dX7_shines_185 lm_RX7_68 2 ⟨wm_X7_lesser, by decide +kernel, rfl, rfl⟩ rfl ⟨Nat.le_of_ble_eq_true rfl, Nat.le_of_ble_eq_true rfl⟩ rfl (Nat.le_of_ble_eq_true rfl) ?_
                  rintro _ _ ⟨rfl, rfl⟩
                  refine X_ineg 188 dX7_shines_188 ?_
                  first | rw [by_neg hdb hkb hfb] | skip
                  refine X_istore 189 [(6, .int _), (0, .ref _), (1, .int _), (2, .int _), (3, .int _), (4, .int _), (5, .int _)] dX7_shines_189 (by decide) rfl ?_
                  refine X_aload_n 191 1 dX7_shines_191 rfl rfl ?_
                  refine X_getR (f := 10) 192 dX7_shines_192 lf_RX7_29 iw7 vc7 (by decide) lyM rfl ?_
                  refine X_iload 195 6 dX7_shines_195 rfl ?_
                  refine X_dup2 197 dX7_shines_197 ?_
                  refine X_iald 198 dX7_shines_198 lyM6 (vp_in_nI hn8 (by decide)) ?_
                  rw [nI_clamp (by omega), setRow_ge (Nat.le_refl n), hm1]
                  refine X_iload 199 0 dX7_shines_199 rfl ?_
                  refine X_iadd 201 dX7_shines_201 ?_
                  refine X_iast 202 dX7_shines_202 lyM6 (vp_in_nI hn8 (by decide)) ?_
                  rw [nI_clamp (by omega)]
                  refine X_iload 203 5 dX7_shines_203 rfl ?_
                  refine X_iload 205 0 dX7_shines_205 rfl ?_
                  refine X_isub 207 dX7_shines_207 ?_
                  refine X_istore 208 [(4, .int _), (6, .int _), (0, .ref _), (1, .int _), (2, .int _), (3, .int _), (5, .int _)] dX7_shines_208 (by decide) rfl ?_
                  refine X_iinc 210 6 (_ + 1) [(5, .int _), (4, .int _), (6, .int _), (0, .ref _), (1, .int _), (2, .int _), (3, .int _)] dX7_shines_210 rfl rfl (by decide) rfl ?_
                  refine X_goto 213 121 dX7_shines_213 (by decide) ?_
                  refine X_sub [3, 4, 5, 6, 1, 0] [(0, .ref _), (1, .int _), (2, .int _), (3, .int _), (4, .int _), (5, .int _)] rfl ?_
                  exact ih_121 (n + 1) (by omega) (by omega) _ _ _  (by exact hd0) (by exact (nI_1 n).symm) (by (first | exact (by rw [← setRow_succ, hv1]) | exact setRow_id hv0))
                · have hd0 := dV_pos b_135 c_143
                  have hv1 := k2_pos b_135 c_143
                  refine X_iload 146 4 dX7_shines_146 rfl ?_
                  refine X_aload_n 148 0 dX7_shines_148 rfl rfl ?_
                  refine X_iload 149 5 dX7_shines_149 rfl ?_
                  refine X_cVI 151 [.int _] (e_X7_limit s V c r lc n _ (by rw [setRow_r (by decide), setRow_r (by decide), shrM_r (by decide), WG_1]; exact hR) hn8) dX7_shines_151 lm_RX7_65 1 ⟨wm_X7_limit, by decide +kernel, rfl, rfl⟩ rfl ⟨Nat.le_of_ble_eq_true rfl, Nat.le_of_ble_eq_true rfl⟩ lyM vc7 rfl rfl (Nat.le_of_ble_eq_true rfl) ?_
                  rintro _ _ ⟨rfl, rfl⟩
                  refine X_aload_n 154 0 dX7_shines_154 rfl rfl ?_
                  refine X_getR (f := 10) 155 dX7_shines_155 lf_RX7_29 iw7 vc7 (by decide) lyM rfl ?_
                  refine X_iload 158 5 dX7_shines_158 rfl ?_
                  refine X_iald 160 dX7_shines_160 lyM6 (vp_in_nI hn8 (by decide)) ?_
                  rw [nI_clamp (by omega), setRow_ge (Nat.le_refl n), hm1]
                  refine X_isub 161 dX7_shines_161 ?_
                  refine X_cSI 162 [.int _, .int _] (e_X7_lesser _ _ _) dX7_shines_162 lm_RX7_68 2 ⟨wm_X7_lesser, by decide +kernel, rfl, rfl⟩ rfl ⟨Nat.le_of_ble_eq_true rfl, Nat.le_of_ble_eq_true rfl⟩ rfl (Nat.le_of_ble_eq_true rfl) ?_
                  rintro _ _ ⟨rfl, rfl⟩
                  rw [by_pos]
                  refine X_goto 165 189 dX7_shines_165 (by decide) ?_
                  first | rw [by_neg hdb hkb hfb] | skip
                  refine X_istore 189 [(6, .int _), (0, .ref _), (1, .int _), (2, .int _), (3, .int _), (4, .int _), (5, .int _)] dX7_shines_189 (by decide) rfl ?_
                  refine X_aload_n 191 1 dX7_shines_191 rfl rfl ?_
                  refine X_getR (f := 10) 192 dX7_shines_192 lf_RX7_29 iw7 vc7 (by decide) lyM rfl ?_
                  refine X_iload 195 6 dX7_shines_195 rfl ?_
                  refine X_dup2 197 dX7_shines_197 ?_
                  refine X_iald 198 dX7_shines_198 lyM6 (vp_in_nI hn8 (by decide)) ?_
                  rw [nI_clamp (by omega), setRow_ge (Nat.le_refl n), hm1]
                  refine X_iload 199 0 dX7_shines_199 rfl ?_
                  refine X_iadd 201 dX7_shines_201 ?_
                  refine X_iast 202 dX7_shines_202 lyM6 (vp_in_nI hn8 (by decide)) ?_
                  rw [nI_clamp (by omega)]
                  refine X_iload 203 5 dX7_shines_203 rfl ?_
                  refine X_iload 205 0 dX7_shines_205 rfl ?_
                  refine X_isub 207 dX7_shines_207 ?_
                  refine X_istore 208 [(4, .int _), (6, .int _), (0, .ref _), (1, .int _), (2, .int _), (3, .int _), (5, .int _)] dX7_shines_208 (by decide) rfl ?_
                  refine X_iinc 210 6 (_ + 1) [(5, .int _), (4, .int _), (6, .int _), (0, .ref _), (1, .int _), (2, .int _), (3, .int _)] dX7_shines_210 rfl rfl (by decide) rfl ?_
                  refine X_goto 213 121 dX7_shines_213 (by decide) ?_
                  refine X_sub [3, 4, 5, 6, 1, 0] [(0, .ref _), (1, .int _), (2, .int _), (3, .int _), (4, .int _), (5, .int _)] rfl ?_
                  exact ih_121 (n + 1) (by omega) (by omega) _ _ _  (by exact hd0) (by exact (nI_1 n).symm) (by (first | exact (by rw [← setRow_succ, hv1]) | exact setRow_id hv0))
              · rw [setRow_out (by omega), setRow_out (by omega), shrM_o (by decide), WG_11] at b_135
                have hm1 : (setRow (shrM (WG μ (plW V s z (2 * (nI x + μ 1 2) + 1) (2 * (nI y + μ 1 3) + 1)) lc) lc (V (s + 8) (y * c + x))) 6 lc (k1V (plW V s z (2 * (nI x + μ 1 2) + 1) (2 * (nI y + μ 1 3) + 1)) (lim V s) (flo V s) (V (s + 8) (y * c + x)) lc)) 6 n = (k1V (plW V s z (2 * (nI x + μ 1 2) + 1) (2 * (nI y + μ 1 3) + 1)) (lim V s) (flo V s) (V (s + 8) (y * c + x)) lc) n := if_pos ⟨rfl, hlt⟩
                have hv0 : (k2V (plW V s z (2 * (nI x + μ 1 2) + 1) (2 * (nI y + μ 1 3) + 1)) (lim V s) (flo V s) (V (s + 8) (y * c + x)) lc) n = (setRow (shrM (WG μ (plW V s z (2 * (nI x + μ 1 2) + 1) (2 * (nI y + μ 1 3) + 1)) lc) lc (V (s + 8) (y * c + x))) 6 lc (k1V (plW V s z (2 * (nI x + μ 1 2) + 1) (2 * (nI y + μ 1 3) + 1)) (lim V s) (flo V s) (V (s + 8) (y * c + x)) lc)) 6 n := (k2_off b_135).trans hm1.symm
                have hd0 := dV_off (li := lim V s) (fl := flo V s) (t := (V (s + 8) (y * c + x))) b_135
                refine X_if_eq 138 210 dX7_shines_138 (by decide) (fun _ => ?_) (fun c_0 => by exact absurd c_0 (by decide))
                refine X_iinc 210 5 (_ + 1) [(5, .int _), (0, .ref _), (1, .int _), (2, .int _), (3, .int _), (4, .int _)] dX7_shines_210 rfl rfl (by decide) rfl ?_
                refine X_goto 213 121 dX7_shines_213 (by decide) ?_
                refine X_sub [1, 2, 3, 4, 5, 0] [(0, .ref _), (1, .int _), (2, .int _), (3, .int _), (4, .int _), (5, .int _)] rfl ?_
                exact ih_121 (n + 1) (by omega) (by omega) _ _ _  (by exact hd0) (by exact (nI_1 n).symm) (by (first | exact (by rw [← setRow_succ, hv1]) | exact setRow_id hv0))
        exact L_121 (lc + 1) 0 (by omega) (by omega) _ _ _  (by rfl) (by exact nI_0) (by exact setRow_0 _ _ _)
      · have hlt : n < lc := c_lt rfl (by omega) (by omega) c_29
        have hn8 : n < 8 := by omega
        refine X_aload_n 32 0 dX7_shines_32 rfl rfl ?_
        refine X_iload 33 4 dX7_shines_33 rfl ?_
        refine X_cVI 35 [.int _] (e_X7_isOn _ _) dX7_shines_35 lm_RX7_91 1 ⟨wm_X7_isOn, by decide +kernel, rfl, rfl⟩ rfl ⟨Nat.le_of_ble_eq_true rfl, Nat.le_of_ble_eq_true rfl⟩ lyM vc7 rfl rfl (Nat.le_of_ble_eq_true rfl) ?_
        rintro _ _ ⟨rfl, ⟨rfl, b_35⟩ | ⟨rfl, b_35⟩⟩
        · rw [setRow_out (by omega), shrM_o (by decide), WG_11] at b_35
          have hl1 : shrM (WG μ (plW V s z (2 * (nI x + μ 1 2) + 1) (2 * (nI y + μ 1 3) + 1)) lc) lc (V (s + 8) (y * c + x)) 6 n = l1V (plW V s z (2 * (nI x + μ 1 2) + 1) (2 * (nI y + μ 1 3) + 1)) (V (s + 8) (y * c + x)) n := shr_l1 h8 hW (fun k hk => WG_5 hk) n hlt
          have hK := k1_on (li := lim V s) (fl := flo V s) (t := (V (s + 8) (y * c + x))) b_35
          refine X_if_eq 38 104 dX7_shines_38 (by decide) (fun c_0 => by exact absurd c_0 (by decide)) (fun _ => ?_)
          refine X_aload_n 41 0 dX7_shines_41 rfl rfl ?_
          refine X_getR (f := 10) 42 dX7_shines_42 lf_RX7_29 iw7 vc7 (by decide) lyM rfl ?_
          refine X_iload 45 4 dX7_shines_45 rfl ?_
          refine X_iald 47 dX7_shines_47 lyM6 (vp_in_nI hn8 (by decide)) ?_
          rw [nI_clamp (by omega), setRow_ge (Nat.le_refl n), hl1]
          refine X_aload_n 48 0 dX7_shines_48 rfl rfl ?_
          refine X_iload 49 4 dX7_shines_49 rfl ?_
          refine X_cVI 51 [.int _] (e_X7_limit s V c r lc n _ (by rw [setRow_r (by decide), shrM_r (by decide), WG_1]; exact hR) hn8) dX7_shines_51 lm_RX7_65 1 ⟨wm_X7_limit, by decide +kernel, rfl, rfl⟩ rfl ⟨Nat.le_of_ble_eq_true rfl, Nat.le_of_ble_eq_true rfl⟩ lyM vc7 rfl rfl (Nat.le_of_ble_eq_true rfl) ?_
          rintro _ _ ⟨rfl, rfl⟩
          refine X_icmp_le 54 66 dX7_shines_54 (by decide) (fun c_54 => ?_) (fun c_54 => ?_)
          · rw [if_neg (Int32.not_lt.mpr c_54)] at hK
            refine X_aload_n 66 0 dX7_shines_66 rfl rfl ?_
            refine X_getR (f := 10) 67 dX7_shines_67 lf_RX7_29 iw7 vc7 (by decide) lyM rfl ?_
            refine X_iload 70 4 dX7_shines_70 rfl ?_
            refine X_iald 72 dX7_shines_72 lyM6 (vp_in_nI hn8 (by decide)) ?_
            try rw [nI_clamp (by omega), setRow_ge (Nat.le_refl n), hl1]
            refine X_istore 73 [(5, .int _), (0, .ref _), (1, .int _), (2, .int _), (3, .int _), (4, .int _)] dX7_shines_73 (by decide) rfl ?_
            refine X_aload_n 75 1 dX7_shines_75 rfl rfl ?_
            refine X_getR (f := 10) 76 dX7_shines_76 lf_RX7_29 iw7 vc7 (by decide) lyM rfl ?_
            refine X_iload 79 5 dX7_shines_79 rfl ?_
            refine X_iload 81 0 dX7_shines_81 rfl ?_
            refine X_aload_n 83 1 dX7_shines_83 rfl rfl ?_
            refine X_iload 84 5 dX7_shines_84 rfl ?_
            refine X_cVI 86 [.int _] (e_X7_floor s V c r lc n _ (by rw [setRow_r (by decide), shrM_r (by decide), WG_1]; exact hR) hn8) dX7_shines_86 lm_RX7_105 1 ⟨wm_X7_floor, by decide +kernel, rfl, rfl⟩ rfl ⟨Nat.le_of_ble_eq_true rfl, Nat.le_of_ble_eq_true rfl⟩ lyM vc7 rfl rfl (Nat.le_of_ble_eq_true rfl) ?_
            rintro _ _ ⟨rfl, rfl⟩
            refine X_icmp_ge 89 101 dX7_shines_89 (by decide) (fun c_89 => ?_) (fun c_89 => ?_)
            · rw [if_neg (Int32.not_lt.mpr c_89)] at hK
              refine X_iload 101 0 dX7_shines_101 rfl ?_
              refine X_iast 103 dX7_shines_103 lyM6 (vp_in_nI hn8 (by decide)) ?_
              refine X_iinc 104 5 (_ + 1) [(4, .int _), (5, .int _), (0, .ref _), (1, .int _), (2, .int _), (3, .int _)] dX7_shines_104 rfl rfl (by decide) rfl ?_
              refine X_goto 107 21 dX7_shines_107 (by decide) ?_
              refine X_sub [2, 3, 4, 5, 0] [(0, .ref _), (1, .int _), (2, .int _), (3, .int _), (4, .int _)] rfl ?_
              exact ih_21 (n + 1) (by omega) (by omega) _ _  (by exact (nI_1 n).symm) (by (first | exact (by rw [nI_clamp (by omega), ← setRow_succ, hK]) | exact setRow_id hv0))
            · rw [if_pos (Int32.not_le.mp c_89)] at hK
              refine X_aload_n 92 1 dX7_shines_92 rfl rfl ?_
              refine X_iload 93 5 dX7_shines_93 rfl ?_
              refine X_cVI 95 [.int _] (e_X7_floor s V c r lc n _ (by rw [setRow_r (by decide), shrM_r (by decide), WG_1]; exact hR) hn8) dX7_shines_95 lm_RX7_105 1 ⟨wm_X7_floor, by decide +kernel, rfl, rfl⟩ rfl ⟨Nat.le_of_ble_eq_true rfl, Nat.le_of_ble_eq_true rfl⟩ lyM vc7 rfl rfl (Nat.le_of_ble_eq_true rfl) ?_
              rintro _ _ ⟨rfl, rfl⟩
              refine X_goto 98 103 dX7_shines_98 (by decide) ?_
              refine X_iast 103 dX7_shines_103 lyM6 (vp_in_nI hn8 (by decide)) ?_
              refine X_iinc 104 5 (_ + 1) [(4, .int _), (5, .int _), (0, .ref _), (1, .int _), (2, .int _), (3, .int _)] dX7_shines_104 rfl rfl (by decide) rfl ?_
              refine X_goto 107 21 dX7_shines_107 (by decide) ?_
              refine X_sub [2, 3, 4, 5, 0] [(0, .ref _), (1, .int _), (2, .int _), (3, .int _), (4, .int _)] rfl ?_
              exact ih_21 (n + 1) (by omega) (by omega) _ _  (by exact (nI_1 n).symm) (by (first | exact (by rw [nI_clamp (by omega), ← setRow_succ, hK]) | exact setRow_id hv0))
          · rw [if_pos (Int32.not_le.mp c_54)] at hK
            refine X_aload_n 57 0 dX7_shines_57 rfl rfl ?_
            refine X_iload 58 4 dX7_shines_58 rfl ?_
            refine X_cVI 60 [.int _] (e_X7_limit s V c r lc n _ (by rw [setRow_r (by decide), shrM_r (by decide), WG_1]; exact hR) hn8) dX7_shines_60 lm_RX7_65 1 ⟨wm_X7_limit, by decide +kernel, rfl, rfl⟩ rfl ⟨Nat.le_of_ble_eq_true rfl, Nat.le_of_ble_eq_true rfl⟩ lyM vc7 rfl rfl (Nat.le_of_ble_eq_true rfl) ?_
            rintro _ _ ⟨rfl, rfl⟩
            refine X_goto 63 73 dX7_shines_63 (by decide) ?_
            try rw [nI_clamp (by omega), setRow_ge (Nat.le_refl n), hl1]
            refine X_istore 73 [(5, .int _), (0, .ref _), (1, .int _), (2, .int _), (3, .int _), (4, .int _)] dX7_shines_73 (by decide) rfl ?_
            refine X_aload_n 75 1 dX7_shines_75 rfl rfl ?_
            refine X_getR (f := 10) 76 dX7_shines_76 lf_RX7_29 iw7 vc7 (by decide) lyM rfl ?_
            refine X_iload 79 5 dX7_shines_79 rfl ?_
            refine X_iload 81 0 dX7_shines_81 rfl ?_
            refine X_aload_n 83 1 dX7_shines_83 rfl rfl ?_
            refine X_iload 84 5 dX7_shines_84 rfl ?_
            refine X_cVI 86 [.int _] (e_X7_floor s V c r lc n _ (by rw [setRow_r (by decide), shrM_r (by decide), WG_1]; exact hR) hn8) dX7_shines_86 lm_RX7_105 1 ⟨wm_X7_floor, by decide +kernel, rfl, rfl⟩ rfl ⟨Nat.le_of_ble_eq_true rfl, Nat.le_of_ble_eq_true rfl⟩ lyM vc7 rfl rfl (Nat.le_of_ble_eq_true rfl) ?_
            rintro _ _ ⟨rfl, rfl⟩
            refine X_icmp_ge 89 101 dX7_shines_89 (by decide) (fun c_89 => ?_) (fun c_89 => ?_)
            · rw [if_neg (Int32.not_lt.mpr c_89)] at hK
              refine X_iload 101 0 dX7_shines_101 rfl ?_
              refine X_iast 103 dX7_shines_103 lyM6 (vp_in_nI hn8 (by decide)) ?_
              refine X_iinc 104 5 (_ + 1) [(4, .int _), (5, .int _), (0, .ref _), (1, .int _), (2, .int _), (3, .int _)] dX7_shines_104 rfl rfl (by decide) rfl ?_
              refine X_goto 107 21 dX7_shines_107 (by decide) ?_
              refine X_sub [2, 3, 4, 5, 0] [(0, .ref _), (1, .int _), (2, .int _), (3, .int _), (4, .int _)] rfl ?_
              exact ih_21 (n + 1) (by omega) (by omega) _ _  (by exact (nI_1 n).symm) (by (first | exact (by rw [nI_clamp (by omega), ← setRow_succ, hK]) | exact setRow_id hv0))
            · rw [if_pos (Int32.not_le.mp c_89)] at hK
              refine X_aload_n 92 1 dX7_shines_92 rfl rfl ?_
              refine X_iload 93 5 dX7_shines_93 rfl ?_
              refine X_cVI 95 [.int _] (e_X7_floor s V c r lc n _ (by rw [setRow_r (by decide), shrM_r (by decide), WG_1]; exact hR) hn8) dX7_shines_95 lm_RX7_105 1 ⟨wm_X7_floor, by decide +kernel, rfl, rfl⟩ rfl ⟨Nat.le_of_ble_eq_true rfl, Nat.le_of_ble_eq_true rfl⟩ lyM vc7 rfl rfl (Nat.le_of_ble_eq_true rfl) ?_
              rintro _ _ ⟨rfl, rfl⟩
              refine X_goto 98 103 dX7_shines_98 (by decide) ?_
              refine X_iast 103 dX7_shines_103 lyM6 (vp_in_nI hn8 (by decide)) ?_
              refine X_iinc 104 5 (_ + 1) [(4, .int _), (5, .int _), (0, .ref _), (1, .int _), (2, .int _), (3, .int _)] dX7_shines_104 rfl rfl (by decide) rfl ?_
              refine X_goto 107 21 dX7_shines_107 (by decide) ?_
              refine X_sub [2, 3, 4, 5, 0] [(0, .ref _), (1, .int _), (2, .int _), (3, .int _), (4, .int _)] rfl ?_
              exact ih_21 (n + 1) (by omega) (by omega) _ _  (by exact (nI_1 n).symm) (by (first | exact (by rw [nI_clamp (by omega), ← setRow_succ, hK]) | exact setRow_id hv0))
        · rw [setRow_out (by omega), shrM_o (by decide), WG_11] at b_35
          have hl1 : shrM (WG μ (plW V s z (2 * (nI x + μ 1 2) + 1) (2 * (nI y + μ 1 3) + 1)) lc) lc (V (s + 8) (y * c + x)) 6 n = l1V (plW V s z (2 * (nI x + μ 1 2) + 1) (2 * (nI y + μ 1 3) + 1)) (V (s + 8) (y * c + x)) n := shr_l1 h8 hW (fun k hk => WG_5 hk) n hlt
          have hv0 : (k1V (plW V s z (2 * (nI x + μ 1 2) + 1) (2 * (nI y + μ 1 3) + 1)) (lim V s) (flo V s) (V (s + 8) (y * c + x)) lc) n = (shrM (WG μ (plW V s z (2 * (nI x + μ 1 2) + 1) (2 * (nI y + μ 1 3) + 1)) lc) lc (V (s + 8) (y * c + x))) 6 n := (k1_off b_35).trans hl1.symm
          refine X_if_eq 38 104 dX7_shines_38 (by decide) (fun _ => ?_) (fun c_0 => by exact absurd c_0 (by decide))
          refine X_iinc 104 4 (_ + 1) [(4, .int _), (0, .ref _), (1, .int _), (2, .int _), (3, .int _)] dX7_shines_104 rfl rfl (by decide) rfl ?_
          refine X_goto 107 21 dX7_shines_107 (by decide) ?_
          refine X_sub [1, 2, 3, 4, 0] [(0, .ref _), (1, .int _), (2, .int _), (3, .int _), (4, .int _)] rfl ?_
          exact ih_21 (n + 1) (by omega) (by omega) _ _  (by exact (nI_1 n).symm) (by (first | exact (by rw [nI_clamp (by omega), ← setRow_succ, hK]) | exact setRow_id hv0))
  exact L_21 (lc + 1) 0 (by omega) (by omega) _ _  (by exact nI_0) (by exact setRow_0 _ _ _)
