set_option maxHeartbeats 4000000 in
set_option maxRecDepth 100000 in
theorem e_X7_does (V : Mm) (c r lc : Nat) (wd : Nat) (n : Nat → Int32) (μ : Mm) (hM : MI V c r lc μ) (hV : HVd V c r lc) (hw1 : 1 ≤ wd) (hw8 : wd ≤ 8) (h20 : μ 0 20 = nI wd - 1) (hn : ∀ j, j < nOf wd → μ 8 j = n j) : EvN ΛM mX7_does [.ref 0] μ (qI (DOP V c r lc wd n μ)) := by
  refine EvN_ofQ (by decide +kernel) rfl (fun _ => rfl) (fun _ => Nat.le_of_ble_eq_true rfl) (ls := [(0, .ref 0)]) ?_
  obtain ⟨⟨hc1, hc2⟩, ⟨hr1, hr2⟩, h8⟩ := MI_lc hM
  refine X_aload_n 0 0 dX7_does_0 rfl rfl ?_
  refine X_getI (f := 20) 1 dX7_does_1 lf_RX7_243 iw7 vc7 (by decide) lyM rfl ?_
  rw [h20]
  rcases (show wd = 1 ∨ wd = 2 ∨ wd = 3 ∨ wd = 4 ∨ wd = 5 ∨ wd = 6 ∨ wd = 7 ∨ wd = 8 by omega) with rfl | rfl | rfl | rfl | rfl | rfl | rfl | rfl
  · refine X_tabIn (off := 48) 4 52 dX7_does_4 (by decide) (by decide) (by decide +kernel) (by decide) ?_
    refine X_aload_n 52 0 dX7_does_52 rfl rfl ?_
    refine X_aload_n 53 0 dX7_does_53 rfl rfl ?_
    refine X_getR (f := 21) 54 dX7_does_54 lf_RX7_35 iw7 vc7 (by decide) lyM rfl ?_
    refine X_iconst 57 (0) dX7_does_57 (by decide) ?_
    refine X_iald 58 dX7_does_58 lyM8 (vp_in_nI (n := 0) (by decide) (by decide)) ?_
    rw [cl0]
    refine X_aload_n 59 0 dX7_does_59 rfl rfl ?_
    refine X_getR (f := 21) 60 dX7_does_60 lf_RX7_35 iw7 vc7 (by decide) lyM rfl ?_
    refine X_iconst 63 (1) dX7_does_63 (by decide) ?_
    refine X_iald 64 dX7_does_64 lyM8 (vp_in_nI (n := 1) (by decide) (by decide)) ?_
    rw [cl1]
    refine X_cVI 65 [.int _, .int _] (e_X7_begins V c r lc _ _ _ hM) dX7_does_65 lm_RX7_165 2 ⟨wm_X7_begins, by decide +kernel, rfl, rfl⟩ rfl ⟨Nat.le_of_ble_eq_true rfl, Nat.le_of_ble_eq_true rfl⟩ lyM vc7 rfl rfl (Nat.le_of_ble_eq_true rfl) ?_
    rintro x9 m9 h9
    refine X_iret 68 dX7_does_68 rfl rfl ⟨_, rfl, _, rfl, ?_⟩
    have e0 := hn 0 (by decide)
    have e1 := hn 1 (by decide)
    rw [e0, e1] at h9
    exact dop2 h9 Iff.rfl (fun V2 hV2 => eqV hV2) rfl rfl rfl
  · refine X_tabIn (off := 65) 4 69 dX7_does_4 (by decide) (by decide) (by decide +kernel) (by decide) ?_
    refine X_aload_n 69 0 dX7_does_69 rfl rfl ?_
    refine X_aload_n 70 0 dX7_does_70 rfl rfl ?_
    refine X_getR (f := 21) 71 dX7_does_71 lf_RX7_35 iw7 vc7 (by decide) lyM rfl ?_
    refine X_iconst 74 (0) dX7_does_74 (by decide) ?_
    refine X_iald 75 dX7_does_75 lyM8 (vp_in_nI (n := 0) (by decide) (by decide)) ?_
    rw [cl0]
    refine X_aload_n 76 0 dX7_does_76 rfl rfl ?_
    refine X_getR (f := 21) 77 dX7_does_77 lf_RX7_35 iw7 vc7 (by decide) lyM rfl ?_
    refine X_iconst 80 (1) dX7_does_80 (by decide) ?_
    refine X_iald 81 dX7_does_81 lyM8 (vp_in_nI (n := 1) (by decide) (by decide)) ?_
    rw [cl1]
    refine X_aload_n 82 0 dX7_does_82 rfl rfl ?_
    refine X_getR (f := 21) 83 dX7_does_83 lf_RX7_35 iw7 vc7 (by decide) lyM rfl ?_
    refine X_iconst 86 (2) dX7_does_86 (by decide) ?_
    refine X_iald 87 dX7_does_87 lyM8 (vp_in_nI (n := 2) (by decide) (by decide)) ?_
    rw [cl2]
    refine X_aload_n 88 0 dX7_does_88 rfl rfl ?_
    refine X_getR (f := 21) 89 dX7_does_89 lf_RX7_35 iw7 vc7 (by decide) lyM rfl ?_
    refine X_iconst 92 (3) dX7_does_92 (by decide) ?_
    refine X_iald 93 dX7_does_93 lyM8 (vp_in_nI (n := 3) (by decide) (by decide)) ?_
    rw [cl3]
    refine X_aload_n 94 0 dX7_does_94 rfl rfl ?_
    refine X_getR (f := 21) 95 dX7_does_95 lf_RX7_35 iw7 vc7 (by decide) lyM rfl ?_
    refine X_iconst 98 (4) dX7_does_98 (by decide) ?_
    refine X_iald 99 dX7_does_99 lyM8 (vp_in_nI (n := 4) (by decide) (by decide)) ?_
    rw [cl4]
    refine X_cVI 100 [.int _, .int _, .int _, .int _, .int _] (e_X7_paints V c r lc _ _ _ _ _ _ hM) dX7_does_100 lm_RX7_171 5 ⟨wm_X7_paints, by decide +kernel, rfl, rfl⟩ rfl ⟨Nat.le_of_ble_eq_true rfl, Nat.le_of_ble_eq_true rfl⟩ lyM vc7 rfl rfl (Nat.le_of_ble_eq_true rfl) ?_
    rintro x9 m9 h9
    refine X_iret 103 dX7_does_103 rfl rfl ⟨_, rfl, _, rfl, ?_⟩
    have e0 := hn 0 (by decide)
    have e1 := hn 1 (by decide)
    have e2 := hn 2 (by decide)
    have e3 := hn 3 (by decide)
    have e4 := hn 4 (by decide)
    rw [e0, e1, e2, e3, e4] at h9
    exact dop3 h9 (and_congr (and_congr (pl_iff hV) (pl_iff hV)) Iff.rfl) (fun V2 hV2 => eqV hV2) rfl rfl rfl
  · refine X_tabIn (off := 100) 4 104 dX7_does_4 (by decide) (by decide) (by decide +kernel) (by decide) ?_
    refine X_aload_n 104 0 dX7_does_104 rfl rfl ?_
    refine X_aload_n 105 0 dX7_does_105 rfl rfl ?_
    refine X_getR (f := 21) 106 dX7_does_106 lf_RX7_35 iw7 vc7 (by decide) lyM rfl ?_
    refine X_iconst 109 (0) dX7_does_109 (by decide) ?_
    refine X_iald 110 dX7_does_110 lyM8 (vp_in_nI (n := 0) (by decide) (by decide)) ?_
    rw [cl0]
    refine X_aload_n 111 0 dX7_does_111 rfl rfl ?_
    refine X_getR (f := 21) 112 dX7_does_112 lf_RX7_35 iw7 vc7 (by decide) lyM rfl ?_
    refine X_iconst 115 (1) dX7_does_115 (by decide) ?_
    refine X_iald 116 dX7_does_116 lyM8 (vp_in_nI (n := 1) (by decide) (by decide)) ?_
    rw [cl1]
    refine X_cVI 117 [.int _, .int _] (e_X7_adds V c r lc _ _ _ hM) dX7_does_117 lm_RX7_175 2 ⟨wm_X7_adds, by decide +kernel, rfl, rfl⟩ rfl ⟨Nat.le_of_ble_eq_true rfl, Nat.le_of_ble_eq_true rfl⟩ lyM vc7 rfl rfl (Nat.le_of_ble_eq_true rfl) ?_
    rintro x9 m9 h9
    refine X_iret 120 dX7_does_120 rfl rfl ⟨_, rfl, _, rfl, ?_⟩
    have e0 := hn 0 (by decide)
    have e1 := hn 1 (by decide)
    rw [e0, e1] at h9
    exact dop3 h9 (and_congr Iff.rfl (l8_iff hV h8)) (fun V2 hV2 => eqV hV2) rfl rfl rfl
  · refine X_tabIn (off := 117) 4 121 dX7_does_4 (by decide) (by decide) (by decide +kernel) (by decide) ?_
    refine X_aload_n 121 0 dX7_does_121 rfl rfl ?_
    refine X_aload_n 122 0 dX7_does_122 rfl rfl ?_
    refine X_getR (f := 21) 123 dX7_does_123 lf_RX7_35 iw7 vc7 (by decide) lyM rfl ?_
    refine X_iconst 126 (0) dX7_does_126 (by decide) ?_
    refine X_iald 127 dX7_does_127 lyM8 (vp_in_nI (n := 0) (by decide) (by decide)) ?_
    rw [cl0]
    refine X_aload_n 128 0 dX7_does_128 rfl rfl ?_
    refine X_getR (f := 21) 129 dX7_does_129 lf_RX7_35 iw7 vc7 (by decide) lyM rfl ?_
    refine X_iconst 132 (1) dX7_does_132 (by decide) ?_
    refine X_iald 133 dX7_does_133 lyM8 (vp_in_nI (n := 1) (by decide) (by decide)) ?_
    rw [cl1]
    refine X_aload_n 134 0 dX7_does_134 rfl rfl ?_
    refine X_getR (f := 21) 135 dX7_does_135 lf_RX7_35 iw7 vc7 (by decide) lyM rfl ?_
    refine X_iconst 138 (2) dX7_does_138 (by decide) ?_
    refine X_iald 139 dX7_does_139 lyM8 (vp_in_nI (n := 2) (by decide) (by decide)) ?_
    rw [cl2]
    refine X_aload_n 140 0 dX7_does_140 rfl rfl ?_
    refine X_getR (f := 21) 141 dX7_does_141 lf_RX7_35 iw7 vc7 (by decide) lyM rfl ?_
    refine X_iconst 144 (3) dX7_does_144 (by decide) ?_
    refine X_iald 145 dX7_does_145 lyM8 (vp_in_nI (n := 3) (by decide) (by decide)) ?_
    rw [cl3]
    refine X_cVI 146 [.int _, .int _, .int _, .int _] (e_X7_corners V c r lc _ _ _ _ _ hM) dX7_does_146 lm_RX7_178 4 ⟨wm_X7_corners, by decide +kernel, rfl, rfl⟩ rfl ⟨Nat.le_of_ble_eq_true rfl, Nat.le_of_ble_eq_true rfl⟩ lyM vc7 rfl rfl (Nat.le_of_ble_eq_true rfl) ?_
    rintro x9 m9 h9
    refine X_iret 149 dX7_does_149 rfl rfl ⟨_, rfl, _, rfl, ?_⟩
    have e0 := hn 0 (by decide)
    have e1 := hn 1 (by decide)
    have e2 := hn 2 (by decide)
    have e3 := hn 3 (by decide)
    rw [e0, e1, e2, e3] at h9
    exact dop3 h9 (and_congr (and_congr (lp_iff hV) Iff.rfl) Iff.rfl) (fun V2 hV2 => eqV hV2) rfl rfl rfl
  · refine X_tabIn (off := 146) 4 150 dX7_does_4 (by decide) (by decide) (by decide +kernel) (by decide) ?_
    refine X_aload_n 150 0 dX7_does_150 rfl rfl ?_
    refine X_aload_n 151 0 dX7_does_151 rfl rfl ?_
    refine X_getR (f := 21) 152 dX7_does_152 lf_RX7_35 iw7 vc7 (by decide) lyM rfl ?_
    refine X_iconst 155 (0) dX7_does_155 (by decide) ?_
    refine X_iald 156 dX7_does_156 lyM8 (vp_in_nI (n := 0) (by decide) (by decide)) ?_
    rw [cl0]
    refine X_aload_n 157 0 dX7_does_157 rfl rfl ?_
    refine X_getR (f := 21) 158 dX7_does_158 lf_RX7_35 iw7 vc7 (by decide) lyM rfl ?_
    refine X_iconst 161 (1) dX7_does_161 (by decide) ?_
    refine X_iald 162 dX7_does_162 lyM8 (vp_in_nI (n := 1) (by decide) (by decide)) ?_
    rw [cl1]
    refine X_cVI 163 [.int _, .int _] (e_X7_shifts V c r lc _ _ _ hM) dX7_does_163 lm_RX7_186 2 ⟨wm_X7_shifts, by decide +kernel, rfl, rfl⟩ rfl ⟨Nat.le_of_ble_eq_true rfl, Nat.le_of_ble_eq_true rfl⟩ lyM vc7 rfl rfl (Nat.le_of_ble_eq_true rfl) ?_
    rintro x9 m9 h9
    refine X_iret 166 dX7_does_166 rfl rfl ⟨_, rfl, _, rfl, ?_⟩
    have e0 := hn 0 (by decide)
    have e1 := hn 1 (by decide)
    rw [e0, e1] at h9
    exact dop2 h9 Iff.rfl (fun V2 hV2 => eqV hV2) rfl rfl rfl
  · refine X_tabIn (off := 174) 4 178 dX7_does_4 (by decide) (by decide) (by decide +kernel) (by decide) ?_
    refine X_aload_n 178 0 dX7_does_178 rfl rfl ?_
    refine X_aload_n 179 0 dX7_does_179 rfl rfl ?_
    refine X_getR (f := 21) 180 dX7_does_180 lf_RX7_35 iw7 vc7 (by decide) lyM rfl ?_
    refine X_iconst 183 (0) dX7_does_183 (by decide) ?_
    refine X_iald 184 dX7_does_184 lyM8 (vp_in_nI (n := 0) (by decide) (by decide)) ?_
    rw [cl0]
    refine X_aload_n 185 0 dX7_does_185 rfl rfl ?_
    refine X_getI (f := 20) 186 dX7_does_186 lf_RX7_243 iw7 vc7 (by decide) lyM rfl ?_
    refine X_bipush 189 (6) dX7_does_189 (by decide) ?_
    rw [h20]
    refine X_icmp_ne 191 198 dX7_does_191 (by decide) (fun c_191 => ?_) (fun c_191 => ?_)
    · refine X_iconst 198 (0) dX7_does_198 (by decide) ?_
      refine X_cVI 199 [.int _, .int _] (e_X7_works V c r lc _ _ _ hM) dX7_does_199 lm_RX7_182 2 ⟨wm_X7_works, by decide +kernel, rfl, rfl⟩ rfl ⟨Nat.le_of_ble_eq_true rfl, Nat.le_of_ble_eq_true rfl⟩ lyM vc7 rfl rfl (Nat.le_of_ble_eq_true rfl) ?_
      rintro x9 m9 h9
      refine X_iret 202 dX7_does_202 rfl rfl ⟨_, rfl, _, rfl, ?_⟩
      first
        | exact absurd c_191 (by decide)
        | exact absurd (by decide) c_191
        | (have e0 := hn 0 (by decide); rw [e0] at h9; exact dop2 h9 (lp_iff hV) (fun V2 hV2 => eqV hV2) rfl rfl rfl)
    · refine X_iconst 194 (1) dX7_does_194 (by decide) ?_
      refine X_goto 195 199 dX7_does_195 (by decide) ?_
      refine X_cVI 199 [.int _, .int _] (e_X7_works V c r lc _ _ _ hM) dX7_does_199 lm_RX7_182 2 ⟨wm_X7_works, by decide +kernel, rfl, rfl⟩ rfl ⟨Nat.le_of_ble_eq_true rfl, Nat.le_of_ble_eq_true rfl⟩ lyM vc7 rfl rfl (Nat.le_of_ble_eq_true rfl) ?_
      rintro x9 m9 h9
      refine X_iret 202 dX7_does_202 rfl rfl ⟨_, rfl, _, rfl, ?_⟩
      first
        | exact absurd c_191 (by decide)
        | exact absurd (by decide) c_191
        | (have e0 := hn 0 (by decide); rw [e0] at h9; exact dop2 h9 (lp_iff hV) (fun V2 hV2 => eqV hV2) rfl rfl rfl)
  · refine X_tabIn (off := 174) 4 178 dX7_does_4 (by decide) (by decide) (by decide +kernel) (by decide) ?_
    refine X_aload_n 178 0 dX7_does_178 rfl rfl ?_
    refine X_aload_n 179 0 dX7_does_179 rfl rfl ?_
    refine X_getR (f := 21) 180 dX7_does_180 lf_RX7_35 iw7 vc7 (by decide) lyM rfl ?_
    refine X_iconst 183 (0) dX7_does_183 (by decide) ?_
    refine X_iald 184 dX7_does_184 lyM8 (vp_in_nI (n := 0) (by decide) (by decide)) ?_
    rw [cl0]
    refine X_aload_n 185 0 dX7_does_185 rfl rfl ?_
    refine X_getI (f := 20) 186 dX7_does_186 lf_RX7_243 iw7 vc7 (by decide) lyM rfl ?_
    refine X_bipush 189 (6) dX7_does_189 (by decide) ?_
    rw [h20]
    refine X_icmp_ne 191 198 dX7_does_191 (by decide) (fun c_191 => ?_) (fun c_191 => ?_)
    · refine X_iconst 198 (0) dX7_does_198 (by decide) ?_
      refine X_cVI 199 [.int _, .int _] (e_X7_works V c r lc _ _ _ hM) dX7_does_199 lm_RX7_182 2 ⟨wm_X7_works, by decide +kernel, rfl, rfl⟩ rfl ⟨Nat.le_of_ble_eq_true rfl, Nat.le_of_ble_eq_true rfl⟩ lyM vc7 rfl rfl (Nat.le_of_ble_eq_true rfl) ?_
      rintro x9 m9 h9
      refine X_iret 202 dX7_does_202 rfl rfl ⟨_, rfl, _, rfl, ?_⟩
      first
        | exact absurd c_191 (by decide)
        | exact absurd (by decide) c_191
        | (have e0 := hn 0 (by decide); rw [e0] at h9; exact dop2 h9 (lp_iff hV) (fun V2 hV2 => eqV hV2) rfl rfl rfl)
    · refine X_iconst 194 (1) dX7_does_194 (by decide) ?_
      refine X_goto 195 199 dX7_does_195 (by decide) ?_
      refine X_cVI 199 [.int _, .int _] (e_X7_works V c r lc _ _ _ hM) dX7_does_199 lm_RX7_182 2 ⟨wm_X7_works, by decide +kernel, rfl, rfl⟩ rfl ⟨Nat.le_of_ble_eq_true rfl, Nat.le_of_ble_eq_true rfl⟩ lyM vc7 rfl rfl (Nat.le_of_ble_eq_true rfl) ?_
      rintro x9 m9 h9
      refine X_iret 202 dX7_does_202 rfl rfl ⟨_, rfl, _, rfl, ?_⟩
      first
        | exact absurd c_191 (by decide)
        | exact absurd (by decide) c_191
        | (have e0 := hn 0 (by decide); rw [e0] at h9; exact dop2 h9 (lp_iff hV) (fun V2 hV2 => eqV hV2) rfl rfl rfl)
  · refine X_tabIn (off := 163) 4 167 dX7_does_4 (by decide) (by decide) (by decide +kernel) (by decide) ?_
    refine X_aload_n 167 0 dX7_does_167 rfl rfl ?_
    refine X_aload_n 168 0 dX7_does_168 rfl rfl ?_
    refine X_getR (f := 21) 169 dX7_does_169 lf_RX7_35 iw7 vc7 (by decide) lyM rfl ?_
    refine X_iconst 172 (0) dX7_does_172 (by decide) ?_
    refine X_iald 173 dX7_does_173 lyM8 (vp_in_nI (n := 0) (by decide) (by decide)) ?_
    rw [cl0]
    refine X_cVI 174 [.int _] (e_X7_burns V c r lc _ _ hM) dX7_does_174 lm_RX7_189 1 ⟨wm_X7_burns, by decide +kernel, rfl, rfl⟩ rfl ⟨Nat.le_of_ble_eq_true rfl, Nat.le_of_ble_eq_true rfl⟩ lyM vc7 rfl rfl (Nat.le_of_ble_eq_true rfl) ?_
    rintro x9 m9 h9
    refine X_iret 177 dX7_does_177 rfl rfl ⟨_, rfl, _, rfl, ?_⟩
    have e0 := hn 0 (by decide)
    rw [e0] at h9
    exact dop2 h9 Iff.rfl (fun V2 hV2 p q hp h0 => by obtain ⟨m0, hR, rfl⟩ := (hV2 : ∃ m0, RfP V lc c r m0 ∧ burnM m0 (ldJ V lc c r) (n 0) lc = V2); exact burn_V hR p q hp h0) rfl rfl rfl
set_option maxHeartbeats 4000000 in
set_option maxRecDepth 100000 in
theorem e_X7_runF (b : Nat → Int32) (L : Nat) (w0 : Int32) (n0 : Nat → Int32) (μ : Mm) (hT : TM b L μ) (hF : ¬ (rdA b L 150 (true, 0, -1000, w0, n0)).2.2.1 = -1000) : EvN ΛM mX7_runCommands [.ref 0] μ (qI (fun v m => ¬ (rdA b L 150 (true, 0, -1000, w0, n0)).2.2.1 < 0 ∧ -10 - (rdA b L 150 (true, 0, -1000, w0, n0)).2.2.1 = v ∧ m 0 6 = 0 ∧ KP μ m)) := by
  refine EvN_ofQ (by decide +kernel) rfl (fun _ => rfl) (fun _ => Nat.le_of_ble_eq_true rfl) (ls := [(0, .ref 0)]) ?_
  refine X_aload_n 0 0 dX7_runCommands_0 rfl rfl ?_
  refine X_cVI 1 [] (e_X7_faultOfText b L w0 n0 _ hT) dX7_runCommands_1 lm_RX7_255 0 ⟨wm_X7_faultOfText, by decide +kernel, rfl, rfl⟩ rfl ⟨Nat.le_of_ble_eq_true rfl, Nat.le_of_ble_eq_true rfl⟩ lyM vc7 rfl rfl (Nat.le_of_ble_eq_true rfl) ?_
  rintro _ _ ⟨rfl, hf, p9, w9, n9, rfl⟩
  refine X_istore_n 4 [(1, .int _), (0, .ref _)] dX7_runCommands_4 rfl (by decide) rfl ?_
  refine X_iload_n 5 0 dX7_runCommands_5 rfl rfl ?_
  refine X_sipush 6 (-1000) dX7_runCommands_6 (by decide) ?_
  refine X_icmp_eq 9 21 dX7_runCommands_9 (by decide) (fun c_9 => ?_) (fun c_9 => ?_)
  · exact absurd c_9 hF
  · refine X_aload_n 12 1 dX7_runCommands_12 rfl rfl ?_
    refine X_bipush 13 (-10) dX7_runCommands_13 (by decide) ?_
    refine X_iload_n 15 0 dX7_runCommands_15 rfl rfl ?_
    refine X_isub 16 dX7_runCommands_16 ?_
    refine X_cVI 17 [.int _] (e_X7_tells _ _) dX7_runCommands_17 lm_RX7_58 1 ⟨wm_X7_tells, by decide +kernel, rfl, rfl⟩ rfl ⟨Nat.le_of_ble_eq_true rfl, Nat.le_of_ble_eq_true rfl⟩ lyM vc7 rfl rfl (Nat.le_of_ble_eq_true rfl) ?_
    rintro _ _ ⟨rfl, rfl⟩
    refine X_iret 20 dX7_runCommands_20 rfl rfl ⟨_, rfl, _, rfl, ?_⟩
    exact ⟨hf.resolve_left hF, rfl, uM_s _ _ _ _, fun p q h3 h5 h6 h7 h8 h0 => by rw [uM_n (by omega), pm_o (by omega) h8]⟩
