/-! calls that are refused -/
section NO
variable {V S : Mm} {c r lc cn L : Nat} {T : Nat → Mm} {b : Nat → Int32}
theorem nlp (h : ST V S c r lc T cn L b) {n : Int32} (hn : n = nI lc ∨ n = -1) : ¬ lpOK V n := by
  intro ⟨h1, h2⟩
  rw [h.v0.2.2] at h2
  rcases hn with rfl | rfl
  · exact absurd h2 (Int32.not_lt.mpr (Int32.le_refl _))
  · exact absurd h1 (by decide)
theorem npx (h : ST V S c r lc T cn L b) {x y : Int32} (hn : x = nI c ∨ x = -1) : ¬ plOK V x y := by
  intro ⟨h1, h2, h3, h4⟩
  rw [h.v0.1] at h2
  rcases hn with rfl | rfl
  · exact absurd h2 (Int32.not_lt.mpr (Int32.le_refl _))
  · exact absurd h1 (by decide)
theorem npy (h : ST V S c r lc T cn L b) {x y : Int32} (hn : y = nI r ∨ y = -1) : ¬ plOK V x y := by
  intro ⟨h1, h2, h3, h4⟩
  rw [h.v0.2.1] at h4
  rcases hn with rfl | rfl
  · exact absurd h4 (Int32.not_lt.mpr (Int32.le_refl _))
  · exact absurd h3 (by decide)
theorem lp0 (h : ST V S c r lc T cn L b) (hl : 0 < lc) : lpOK V 0 := ⟨by decide, by rw [h.v0.2.2]; exact (nI_ltI (a := 0) (by decide) (by have := h.dim; omega)).mpr hl⟩
theorem pxy (h : ST V S c r lc T cn L b) {x y : Nat} (hx : x < c) (hy : y < r) : plOK V (nI x) (nI y) := plOK_nI h.v0.1 h.v0.2.1 h.dim.1.2 h.dim.2.1.2 hx hy
theorem p00 (h : ST V S c r lc T cn L b) : plOK V 0 0 := pxy (x := 0) (y := 0) h h.dim.1.1 h.dim.2.1.1
theorem p10 (h : ST V S c r lc T cn L b) (hc : 1 < c) : plOK V 1 0 := pxy (x := 1) (y := 0) h hc h.dim.2.1.1
theorem p01 (h : ST V S c r lc T cn L b) (hr : 1 < r) : plOK V 0 1 := pxy (x := 0) (y := 1) h h.dim.1.1 hr
end NO
set_option maxHeartbeats 8000000 in
set_option maxRecDepth 100000 in
theorem w_refusesPlaces {V S : Mm} {c r lc cn L : Nat} {T : Nat → Mm} {b : Nat → Int32} (hS : ST V S c r lc T cn L b) : EvW mL_refusesPlaces none [.ref 109] V (qI (fun v V2 => 1 = v ∧ ST V2 S c r lc T cn L b)) := by
  refine EvW_of (by decide +kernel) rfl (fun _ => rfl) (fun _ => Nat.le_of_ble_eq_true rfl) (ls := [(0, .ref 109)]) (fun f => ?_)
  have hDM := hS.dm
  have hd := hS.dim
  refine L_iconst 0 0 dL_refusesPlaces_0 (by decide) ?_
  refine L_istore_n 1 [(1, .int 0), (0, .ref 109)] dL_refusesPlaces_1 rfl (by decide) rfl ?_
  refine L_iload_n 2 0 dL_refusesPlaces_2 rfl rfl ?_
  refine L_iconst 3 2 dL_refusesPlaces_3 (by decide) ?_
  refine L_icmp_ge 4 407 dL_refusesPlaces_4 (by decide) (fun c_0 => by first | exact absurd rfl c_0 | exact absurd c_0 (by decide) | exact absurd (by decide) c_0) (fun _ => ?_)
  refine L_iload_n 7 0 dL_refusesPlaces_7 rfl rfl ?_
  refine L_if_ne 8 19 dL_refusesPlaces_8 (by decide) (fun c_0 => by first | exact absurd rfl c_0 | exact absurd c_0 (by decide) | exact absurd (by decide) c_0) (fun _ => ?_)
  refine L_aload_n 11 1 dL_refusesPlaces_11 rfl rfl ?_
  refine L_iconst 12 4 dL_refusesPlaces_12 (by decide) ?_
  refine L_cW 13 [.ref 109, .int (nI 4)] (Nat.le_refl 1) (w_all (nI 4) _ _ (o_whole hS (by decide))) dL_refusesPlaces_13 lk_92 hc_all hs_all hp_all rfl ⟨rfl, rfl⟩ ⟨Nat.le_of_ble_eq_true rfl, Nat.le_of_ble_eq_true rfl⟩ ⟨Nat.le_of_ble_eq_true rfl, Nat.le_of_ble_eq_true rfl⟩ rfl (Nat.le_of_ble_eq_true rfl) ?_
  rintro _ V ⟨rfl, hS⟩
  rw [wh4 hDM]
  refine L_goto 16 20 dL_refusesPlaces_16 (by decide) ?_
  refine L_istore_n 20 [(2, .int (nI lc)), (1, .int 0), (0, .ref 109)] dL_refusesPlaces_20 rfl (by decide) rfl ?_
  refine L_iload_n 21 1 dL_refusesPlaces_21 rfl rfl ?_
  refine L_if_ne 22 33 dL_refusesPlaces_22 (by decide) (fun c_0 => by first | exact absurd rfl c_0 | exact absurd c_0 (by decide) | exact absurd (by decide) c_0) (fun _ => ?_)
  refine L_aload_n 25 2 dL_refusesPlaces_25 rfl rfl ?_
  refine L_iconst 26 0 dL_refusesPlaces_26 (by decide) ?_
  refine L_cW 27 [.ref 109, .int (nI 0)] (Nat.le_refl 1) (w_all (nI 0) _ _ (o_whole hS (by decide))) dL_refusesPlaces_27 lk_92 hc_all hs_all hp_all rfl ⟨rfl, rfl⟩ ⟨Nat.le_of_ble_eq_true rfl, Nat.le_of_ble_eq_true rfl⟩ ⟨Nat.le_of_ble_eq_true rfl, Nat.le_of_ble_eq_true rfl⟩ rfl (Nat.le_of_ble_eq_true rfl) ?_
  rintro _ V ⟨rfl, hS⟩
  rw [wh0 hDM]
  refine L_goto 30 34 dL_refusesPlaces_30 (by decide) ?_
  refine L_istore_n 34 [(3, .int (nI c)), (2, .int (nI lc)), (1, .int 0), (0, .ref 109)] dL_refusesPlaces_34 rfl (by decide) rfl ?_
  refine L_iload_n 35 2 dL_refusesPlaces_35 rfl rfl ?_
  refine L_if_ne 36 47 dL_refusesPlaces_36 (by decide) (fun c_0 => by first | exact absurd rfl c_0 | exact absurd c_0 (by decide) | exact absurd (by decide) c_0) (fun _ => ?_)
  refine L_aload_n 39 3 dL_refusesPlaces_39 rfl rfl ?_
  refine L_iconst 40 1 dL_refusesPlaces_40 (by decide) ?_
  refine L_cW 41 [.ref 109, .int (nI 1)] (Nat.le_refl 1) (w_all (nI 1) _ _ (o_whole hS (by decide))) dL_refusesPlaces_41 lk_92 hc_all hs_all hp_all rfl ⟨rfl, rfl⟩ ⟨Nat.le_of_ble_eq_true rfl, Nat.le_of_ble_eq_true rfl⟩ ⟨Nat.le_of_ble_eq_true rfl, Nat.le_of_ble_eq_true rfl⟩ rfl (Nat.le_of_ble_eq_true rfl) ?_
  rintro _ V ⟨rfl, hS⟩
  rw [wh1 hDM]
  refine L_goto 44 48 dL_refusesPlaces_44 (by decide) ?_
  refine L_istore 48 [(4, .int (nI r)), (3, .int (nI c)), (2, .int (nI lc)), (1, .int 0), (0, .ref 109)] dL_refusesPlaces_48 (by decide) rfl ?_
  refine L_aload_n 50 4 dL_refusesPlaces_50 rfl rfl ?_
  refine L_iload_n 51 2 dL_refusesPlaces_51 rfl rfl ?_
  refine L_iconst 52 0 dL_refusesPlaces_52 (by decide) ?_
  refine L_iconst 53 0 dL_refusesPlaces_53 (by decide) ?_
  refine L_iconst 54 0 dL_refusesPlaces_54 (by decide) ?_
  refine L_cT 55 [.ref 109, .int (nI lc), .int 0, .int 0, .int 0] 1 6 (Nat.le_refl 1) (t_cornering_1 (nI lc) 0 0 0 V (x_X6_setCorner_Index (nI lc) 0 0 0 V (fun h => nlp hS (Or.inl rfl) h.1))) dL_refusesPlaces_55 lk_131 hc_cornering hs_cornering hp_cornering rfl ⟨rfl, rfl⟩ ⟨Nat.le_of_ble_eq_true rfl, Nat.le_of_ble_eq_true rfl⟩ ⟨Nat.le_of_ble_eq_true rfl, Nat.le_of_ble_eq_true rfl⟩ rfl (Nat.le_of_ble_eq_true rfl) ?_
  rintro _ _ ⟨rfl, rfl⟩
  refine L_sipush 58 (-3001) dL_refusesPlaces_58 (by decide) ?_
  refine L_icmp_ne 61 197 dL_refusesPlaces_61 (by decide) (fun c_0 => by first | exact absurd rfl c_0 | exact absurd c_0 (by decide) | exact absurd (by decide) c_0) (fun _ => ?_)
  refine L_aload_n 64 4 dL_refusesPlaces_64 rfl rfl ?_
  refine L_iload_n 65 2 dL_refusesPlaces_65 rfl rfl ?_
  refine L_iconst 66 4 dL_refusesPlaces_66 (by decide) ?_
  refine L_bipush 67 99 dL_refusesPlaces_67 (by decide) ?_
  refine L_bipush 69 99 dL_refusesPlaces_69 (by decide) ?_
  refine L_cT 71 [.ref 109, .int (nI lc), .int 4, .int 99, .int 99] 2 12 (Nat.le_refl 1) (t_cornering_1 (nI lc) 4 99 99 V (x_X6_setCorner_Index (nI lc) 4 99 99 V (fun h => nlp hS (Or.inl rfl) h.1))) dL_refusesPlaces_71 lk_131 hc_cornering hs_cornering hp_cornering rfl ⟨rfl, rfl⟩ ⟨Nat.le_of_ble_eq_true rfl, Nat.le_of_ble_eq_true rfl⟩ ⟨Nat.le_of_ble_eq_true rfl, Nat.le_of_ble_eq_true rfl⟩ rfl (Nat.le_of_ble_eq_true rfl) ?_
  rintro _ _ ⟨rfl, rfl⟩
  refine L_sipush 74 (-3001) dL_refusesPlaces_74 (by decide) ?_
  refine L_icmp_ne 77 197 dL_refusesPlaces_77 (by decide) (fun c_0 => by first | exact absurd rfl c_0 | exact absurd c_0 (by decide) | exact absurd (by decide) c_0) (fun _ => ?_)
  refine L_aload_n 80 4 dL_refusesPlaces_80 rfl rfl ?_
  refine L_iload_n 81 2 dL_refusesPlaces_81 rfl rfl ?_
  refine L_iconst 82 0 dL_refusesPlaces_82 (by decide) ?_
  refine L_iconst 83 0 dL_refusesPlaces_83 (by decide) ?_
  refine L_iconst 84 0 dL_refusesPlaces_84 (by decide) ?_
  refine L_iconst 85 0 dL_refusesPlaces_85 (by decide) ?_
  refine L_cT 86 [.ref 109, .int (nI lc), .int 0, .int 0, .int 0, .int 0] 3 18 (Nat.le_refl 1) (t_squaring_1 (nI lc) 0 0 0 0 V (x_X6_setRectangle_Index (nI lc) 0 0 0 0 V (nlp hS (Or.inl rfl)))) dL_refusesPlaces_86 lk_135 hc_squaring hs_squaring hp_squaring rfl ⟨rfl, rfl⟩ ⟨Nat.le_of_ble_eq_true rfl, Nat.le_of_ble_eq_true rfl⟩ ⟨Nat.le_of_ble_eq_true rfl, Nat.le_of_ble_eq_true rfl⟩ rfl (Nat.le_of_ble_eq_true rfl) ?_
  rintro _ _ ⟨rfl, rfl⟩
  refine L_sipush 89 (-3001) dL_refusesPlaces_89 (by decide) ?_
  refine L_icmp_ne 92 197 dL_refusesPlaces_92 (by decide) (fun c_0 => by first | exact absurd rfl c_0 | exact absurd c_0 (by decide) | exact absurd (by decide) c_0) (fun _ => ?_)
  refine L_aload_n 95 4 dL_refusesPlaces_95 rfl rfl ?_
  refine L_iload_n 96 2 dL_refusesPlaces_96 rfl rfl ?_
  refine L_bipush 97 9 dL_refusesPlaces_97 (by decide) ?_
  refine L_bipush 99 9 dL_refusesPlaces_99 (by decide) ?_
  refine L_cT 101 [.ref 109, .int (nI lc), .int 9, .int 9] 4 24 (Nat.le_refl 1) (t_setting_1 (nI lc) 9 9 V (x_X6_setLamp_Index (nI lc) 9 9 V (nlp hS (Or.inl rfl)))) dL_refusesPlaces_101 lk_139 hc_setting hs_setting hp_setting rfl ⟨rfl, rfl⟩ ⟨Nat.le_of_ble_eq_true rfl, Nat.le_of_ble_eq_true rfl⟩ ⟨Nat.le_of_ble_eq_true rfl, Nat.le_of_ble_eq_true rfl⟩ rfl (Nat.le_of_ble_eq_true rfl) ?_
  rintro _ _ ⟨rfl, rfl⟩
  refine L_sipush 104 (-3001) dL_refusesPlaces_104 (by decide) ?_
  refine L_icmp_ne 107 197 dL_refusesPlaces_107 (by decide) (fun c_0 => by first | exact absurd rfl c_0 | exact absurd c_0 (by decide) | exact absurd (by decide) c_0) (fun _ => ?_)
  refine L_aload_n 110 4 dL_refusesPlaces_110 rfl rfl ?_
  refine L_iload_n 111 2 dL_refusesPlaces_111 rfl rfl ?_
  refine L_iconst 112 1 dL_refusesPlaces_112 (by decide) ?_
  refine L_cT 113 [.ref 109, .int (nI lc), .int 1] 5 30 (Nat.le_refl 1) (t_working_1 (nI lc) 1 V (x_X6_setWorks_Index (nI lc) 1 V (nlp hS (Or.inl rfl)))) dL_refusesPlaces_113 lk_142 hc_working hs_working hp_working rfl ⟨rfl, rfl⟩ ⟨Nat.le_of_ble_eq_true rfl, Nat.le_of_ble_eq_true rfl⟩ ⟨Nat.le_of_ble_eq_true rfl, Nat.le_of_ble_eq_true rfl⟩ rfl (Nat.le_of_ble_eq_true rfl) ?_
  rintro _ _ ⟨rfl, rfl⟩
  refine L_sipush 116 (-3001) dL_refusesPlaces_116 (by decide) ?_
  refine L_icmp_ne 119 197 dL_refusesPlaces_119 (by decide) (fun c_0 => by first | exact absurd rfl c_0 | exact absurd c_0 (by decide) | exact absurd (by decide) c_0) (fun _ => ?_)
  refine L_aload_n 122 4 dL_refusesPlaces_122 rfl rfl ?_
  refine L_iload_n 123 2 dL_refusesPlaces_123 rfl rfl ?_
  refine L_iconst 124 0 dL_refusesPlaces_124 (by decide) ?_
  refine L_iconst 125 0 dL_refusesPlaces_125 (by decide) ?_
  refine L_cT 126 [.ref 109, .int (nI lc), .int 0, .int 0] 6 36 (Nat.le_refl 1) (t_lighting_1 (nI lc) 0 0 V (x_X6_light_Index (nI lc) 0 0 V (nlp hS (Or.inl rfl)))) dL_refusesPlaces_126 lk_113 hc_lighting hs_lighting hp_lighting rfl ⟨rfl, rfl⟩ ⟨Nat.le_of_ble_eq_true rfl, Nat.le_of_ble_eq_true rfl⟩ ⟨Nat.le_of_ble_eq_true rfl, Nat.le_of_ble_eq_true rfl⟩ rfl (Nat.le_of_ble_eq_true rfl) ?_
  rintro _ _ ⟨rfl, rfl⟩
  refine L_sipush 129 (-3001) dL_refusesPlaces_129 (by decide) ?_
  refine L_icmp_ne 132 197 dL_refusesPlaces_132 (by decide) (fun c_0 => by first | exact absurd rfl c_0 | exact absurd c_0 (by decide) | exact absurd (by decide) c_0) (fun _ => ?_)
  refine L_aload_n 135 4 dL_refusesPlaces_135 rfl rfl ?_
  refine L_iload_n 136 2 dL_refusesPlaces_136 rfl rfl ?_
  refine L_iconst 137 0 dL_refusesPlaces_137 (by decide) ?_
  refine L_iconst 138 0 dL_refusesPlaces_138 (by decide) ?_
  refine L_cT 139 [.ref 109, .int (nI lc), .int 0, .int 0] 7 42 (Nat.le_refl 1) (t_weighing_1 (nI lc) 0 0 V (x_X6_weight_Index (nI lc) 0 0 V (nlp hS (Or.inl rfl)))) dL_refusesPlaces_139 lk_146 hc_weighing hs_weighing hp_weighing rfl ⟨rfl, rfl⟩ ⟨Nat.le_of_ble_eq_true rfl, Nat.le_of_ble_eq_true rfl⟩ ⟨Nat.le_of_ble_eq_true rfl, Nat.le_of_ble_eq_true rfl⟩ rfl (Nat.le_of_ble_eq_true rfl) ?_
  rintro _ _ ⟨rfl, rfl⟩
  refine L_sipush 142 (-3001) dL_refusesPlaces_142 (by decide) ?_
  refine L_icmp_ne 145 197 dL_refusesPlaces_145 (by decide) (fun c_0 => by first | exact absurd rfl c_0 | exact absurd c_0 (by decide) | exact absurd (by decide) c_0) (fun _ => ?_)
  refine L_aload_n 148 4 dL_refusesPlaces_148 rfl rfl ?_
  refine L_iload_n 149 2 dL_refusesPlaces_149 rfl rfl ?_
  refine L_bipush 150 99 dL_refusesPlaces_150 (by decide) ?_
  refine L_cT 152 [.ref 109, .int (nI lc), .int 99] 8 48 (Nat.le_refl 1) (t_lamping_1 (nI lc) 99 V (x_X6_lamp_Index (nI lc) 99 V (nlp hS (Or.inl rfl)))) dL_refusesPlaces_152 lk_98 hc_lamping hs_lamping hp_lamping rfl ⟨rfl, rfl⟩ ⟨Nat.le_of_ble_eq_true rfl, Nat.le_of_ble_eq_true rfl⟩ ⟨Nat.le_of_ble_eq_true rfl, Nat.le_of_ble_eq_true rfl⟩ rfl (Nat.le_of_ble_eq_true rfl) ?_
  rintro _ _ ⟨rfl, rfl⟩
  refine L_sipush 155 (-3001) dL_refusesPlaces_155 (by decide) ?_
  refine L_icmp_ne 158 197 dL_refusesPlaces_158 (by decide) (fun c_0 => by first | exact absurd rfl c_0 | exact absurd c_0 (by decide) | exact absurd (by decide) c_0) (fun _ => ?_)
  refine L_aload_n 161 4 dL_refusesPlaces_161 rfl rfl ?_
  refine L_iload_n 162 2 dL_refusesPlaces_162 rfl rfl ?_
  refine L_iconst 163 0 dL_refusesPlaces_163 (by decide) ?_
  refine L_bipush 164 9 dL_refusesPlaces_164 (by decide) ?_
  refine L_cT 166 [.ref 109, .int (nI lc), .int 0, .int 9] 9 54 (Nat.le_refl 1) (t_cornerAt_1 (nI lc) 0 9 V (x_X6_corner_Index (nI lc) 0 9 V (nlp hS (Or.inl rfl)))) dL_refusesPlaces_166 lk_106 hc_cornerAt hs_cornerAt hp_cornerAt rfl ⟨rfl, rfl⟩ ⟨Nat.le_of_ble_eq_true rfl, Nat.le_of_ble_eq_true rfl⟩ ⟨Nat.le_of_ble_eq_true rfl, Nat.le_of_ble_eq_true rfl⟩ rfl (Nat.le_of_ble_eq_true rfl) ?_
  rintro _ _ ⟨rfl, rfl⟩
  refine L_sipush 169 (-3001) dL_refusesPlaces_169 (by decide) ?_
  refine L_icmp_ne 172 197 dL_refusesPlaces_172 (by decide) (fun c_0 => by first | exact absurd rfl c_0 | exact absurd c_0 (by decide) | exact absurd (by decide) c_0) (fun _ => ?_)
  refine L_aload_n 175 4 dL_refusesPlaces_175 rfl rfl ?_
  refine L_iload_n 176 2 dL_refusesPlaces_176 rfl rfl ?_
  refine L_cT 177 [.ref 109, .int (nI lc)] 10 60 (Nat.le_refl 1) (t_wrongBut_1 (nI lc) V (x_X6_wrongWithout_Index (nI lc) V (nlp hS (Or.inl rfl)))) dL_refusesPlaces_177 lk_149 hc_wrongBut hs_wrongBut hp_wrongBut rfl ⟨rfl, rfl⟩ ⟨Nat.le_of_ble_eq_true rfl, Nat.le_of_ble_eq_true rfl⟩ ⟨Nat.le_of_ble_eq_true rfl, Nat.le_of_ble_eq_true rfl⟩ rfl (Nat.le_of_ble_eq_true rfl) ?_
  rintro _ _ ⟨rfl, rfl⟩
  refine L_sipush 180 (-3001) dL_refusesPlaces_180 (by decide) ?_
  refine L_icmp_ne 183 197 dL_refusesPlaces_183 (by decide) (fun c_0 => by first | exact absurd rfl c_0 | exact absurd c_0 (by decide) | exact absurd (by decide) c_0) (fun _ => ?_)
  refine L_aload_n 186 4 dL_refusesPlaces_186 rfl rfl ?_
  refine L_iload_n 187 2 dL_refusesPlaces_187 rfl rfl ?_
  refine L_cT 188 [.ref 109, .int (nI lc)] 11 66 (Nat.le_refl 1) (t_needing_1 (nI lc) V (x_X6_neededLimit_Index (nI lc) V (nlp hS (Or.inl rfl)))) dL_refusesPlaces_188 lk_152 hc_needing hs_needing hp_needing rfl ⟨rfl, rfl⟩ ⟨Nat.le_of_ble_eq_true rfl, Nat.le_of_ble_eq_true rfl⟩ ⟨Nat.le_of_ble_eq_true rfl, Nat.le_of_ble_eq_true rfl⟩ rfl (Nat.le_of_ble_eq_true rfl) ?_
  rintro _ _ ⟨rfl, rfl⟩
  refine L_sipush 191 (-3001) dL_refusesPlaces_191 (by decide) ?_
  refine L_icmp_eq 194 199 dL_refusesPlaces_194 (by decide) (fun _ => ?_) (fun c_0 => by first | exact absurd rfl c_0 | exact absurd c_0 (by decide) | exact absurd (by decide) c_0)
  refine L_aload_n 199 4 dL_refusesPlaces_199 rfl rfl ?_
  refine L_iload_n 200 1 dL_refusesPlaces_200 rfl rfl ?_
  refine L_iconst 201 0 dL_refusesPlaces_201 (by decide) ?_
  refine L_iload_n 202 1 dL_refusesPlaces_202 rfl rfl ?_
  refine L_iconst 203 0 dL_refusesPlaces_203 (by decide) ?_
  refine L_iconst 204 0 dL_refusesPlaces_204 (by decide) ?_
  refine L_cT 205 [.ref 109, .int (nI c), .int 0, .int (nI c), .int 0, .int 0] 12 72 (Nat.le_refl 1) (t_painting_1 (nI c) 0 (nI c) 0 0 V (x_X6_paint_Index (nI c) 0 (nI c) 0 0 V (fun h => npx hS (Or.inl rfl) h.1))) dL_refusesPlaces_205 lk_155 hc_painting hs_painting hp_painting rfl ⟨rfl, rfl⟩ ⟨Nat.le_of_ble_eq_true rfl, Nat.le_of_ble_eq_true rfl⟩ ⟨Nat.le_of_ble_eq_true rfl, Nat.le_of_ble_eq_true rfl⟩ rfl (Nat.le_of_ble_eq_true rfl) ?_
  rintro _ _ ⟨rfl, rfl⟩
  refine L_sipush 208 (-3001) dL_refusesPlaces_208 (by decide) ?_
  refine L_icmp_ne 211 292 dL_refusesPlaces_211 (by decide) (fun c_0 => by first | exact absurd rfl c_0 | exact absurd c_0 (by decide) | exact absurd (by decide) c_0) (fun _ => ?_)
  refine L_aload_n 214 4 dL_refusesPlaces_214 rfl rfl ?_
  refine L_iconst 215 0 dL_refusesPlaces_215 (by decide) ?_
  refine L_iload 216 0 dL_refusesPlaces_216 rfl ?_
  refine L_iconst 218 0 dL_refusesPlaces_218 (by decide) ?_
  refine L_iload 219 0 dL_refusesPlaces_219 rfl ?_
  refine L_iconst 221 0 dL_refusesPlaces_221 (by decide) ?_
  refine L_cT 222 [.ref 109, .int 0, .int (nI r), .int 0, .int (nI r), .int 0] 13 78 (Nat.le_refl 1) (t_painting_1 0 (nI r) 0 (nI r) 0 V (x_X6_paint_Index 0 (nI r) 0 (nI r) 0 V (fun h => npy hS (Or.inl rfl) h.1))) dL_refusesPlaces_222 lk_155 hc_painting hs_painting hp_painting rfl ⟨rfl, rfl⟩ ⟨Nat.le_of_ble_eq_true rfl, Nat.le_of_ble_eq_true rfl⟩ ⟨Nat.le_of_ble_eq_true rfl, Nat.le_of_ble_eq_true rfl⟩ rfl (Nat.le_of_ble_eq_true rfl) ?_
  rintro _ _ ⟨rfl, rfl⟩
  refine L_sipush 225 (-3001) dL_refusesPlaces_225 (by decide) ?_
  refine L_icmp_ne 228 292 dL_refusesPlaces_228 (by decide) (fun c_0 => by first | exact absurd rfl c_0 | exact absurd c_0 (by decide) | exact absurd (by decide) c_0) (fun _ => ?_)
  refine L_aload_n 231 4 dL_refusesPlaces_231 rfl rfl ?_
  refine L_iconst 232 0 dL_refusesPlaces_232 (by decide) ?_
  refine L_iconst 233 0 dL_refusesPlaces_233 (by decide) ?_
  refine L_iload_n 234 1 dL_refusesPlaces_234 rfl rfl ?_
  refine L_iconst 235 0 dL_refusesPlaces_235 (by decide) ?_
  refine L_sipush 236 999 dL_refusesPlaces_236 (by decide) ?_
  refine L_cT 239 [.ref 109, .int 0, .int 0, .int (nI c), .int 0, .int 999] 14 84 (Nat.le_refl 1) (t_painting_1 0 0 (nI c) 0 999 V (x_X6_paint_Index 0 0 (nI c) 0 999 V (fun h => npx hS (Or.inl rfl) h.2))) dL_refusesPlaces_239 lk_155 hc_painting hs_painting hp_painting rfl ⟨rfl, rfl⟩ ⟨Nat.le_of_ble_eq_true rfl, Nat.le_of_ble_eq_true rfl⟩ ⟨Nat.le_of_ble_eq_true rfl, Nat.le_of_ble_eq_true rfl⟩ rfl (Nat.le_of_ble_eq_true rfl) ?_
  rintro _ _ ⟨rfl, rfl⟩
  refine L_sipush 242 (-3001) dL_refusesPlaces_242 (by decide) ?_
  refine L_icmp_ne 245 292 dL_refusesPlaces_245 (by decide) (fun c_0 => by first | exact absurd rfl c_0 | exact absurd c_0 (by decide) | exact absurd (by decide) c_0) (fun _ => ?_)
  refine L_aload_n 248 4 dL_refusesPlaces_248 rfl rfl ?_
  refine L_iconst 249 0 dL_refusesPlaces_249 (by decide) ?_
  refine L_iconst 250 0 dL_refusesPlaces_250 (by decide) ?_
  refine L_iconst 251 0 dL_refusesPlaces_251 (by decide) ?_
  refine L_iload 252 0 dL_refusesPlaces_252 rfl ?_
  refine L_iconst 254 0 dL_refusesPlaces_254 (by decide) ?_
  refine L_cT 255 [.ref 109, .int 0, .int 0, .int 0, .int (nI r), .int 0] 15 90 (Nat.le_refl 1) (t_painting_1 0 0 0 (nI r) 0 V (x_X6_paint_Index 0 0 0 (nI r) 0 V (fun h => npy hS (Or.inl rfl) h.2))) dL_refusesPlaces_255 lk_155 hc_painting hs_painting hp_painting rfl ⟨rfl, rfl⟩ ⟨Nat.le_of_ble_eq_true rfl, Nat.le_of_ble_eq_true rfl⟩ ⟨Nat.le_of_ble_eq_true rfl, Nat.le_of_ble_eq_true rfl⟩ rfl (Nat.le_of_ble_eq_true rfl) ?_
  rintro _ _ ⟨rfl, rfl⟩
  refine L_sipush 258 (-3001) dL_refusesPlaces_258 (by decide) ?_
  refine L_icmp_ne 261 292 dL_refusesPlaces_261 (by decide) (fun c_0 => by first | exact absurd rfl c_0 | exact absurd c_0 (by decide) | exact absurd (by decide) c_0) (fun _ => ?_)
  refine L_aload_n 264 4 dL_refusesPlaces_264 rfl rfl ?_
  refine L_iload_n 265 1 dL_refusesPlaces_265 rfl rfl ?_
  refine L_iconst 266 0 dL_refusesPlaces_266 (by decide) ?_
  refine L_bipush 267 9 dL_refusesPlaces_267 (by decide) ?_
  refine L_cT 269 [.ref 109, .int (nI c), .int 0, .int 9] 16 96 (Nat.le_refl 1) (t_placing_1 (nI c) 0 9 V (x_X6_place_Index (nI c) 0 9 V (npx hS (Or.inl rfl)))) dL_refusesPlaces_269 lk_110 hc_placing hs_placing hp_placing rfl ⟨rfl, rfl⟩ ⟨Nat.le_of_ble_eq_true rfl, Nat.le_of_ble_eq_true rfl⟩ ⟨Nat.le_of_ble_eq_true rfl, Nat.le_of_ble_eq_true rfl⟩ rfl (Nat.le_of_ble_eq_true rfl) ?_
  rintro _ _ ⟨rfl, rfl⟩
  refine L_sipush 272 (-3001) dL_refusesPlaces_272 (by decide) ?_
  refine L_icmp_ne 275 292 dL_refusesPlaces_275 (by decide) (fun c_0 => by first | exact absurd rfl c_0 | exact absurd c_0 (by decide) | exact absurd (by decide) c_0) (fun _ => ?_)
  refine L_aload_n 278 4 dL_refusesPlaces_278 rfl rfl ?_
  refine L_iconst 279 0 dL_refusesPlaces_279 (by decide) ?_
  refine L_iload 280 0 dL_refusesPlaces_280 rfl ?_
  refine L_iconst 282 0 dL_refusesPlaces_282 (by decide) ?_
  refine L_cT 283 [.ref 109, .int 0, .int (nI r), .int 0] 17 102 (Nat.le_refl 1) (t_placing_1 0 (nI r) 0 V (x_X6_place_Index 0 (nI r) 0 V (npy hS (Or.inl rfl)))) dL_refusesPlaces_283 lk_110 hc_placing hs_placing hp_placing rfl ⟨rfl, rfl⟩ ⟨Nat.le_of_ble_eq_true rfl, Nat.le_of_ble_eq_true rfl⟩ ⟨Nat.le_of_ble_eq_true rfl, Nat.le_of_ble_eq_true rfl⟩ rfl (Nat.le_of_ble_eq_true rfl) ?_
  rintro _ _ ⟨rfl, rfl⟩
  refine L_sipush 286 (-3001) dL_refusesPlaces_286 (by decide) ?_
  refine L_icmp_eq 289 294 dL_refusesPlaces_289 (by decide) (fun _ => ?_) (fun c_0 => by first | exact absurd rfl c_0 | exact absurd c_0 (by decide) | exact absurd (by decide) c_0)
  refine L_aload_n 294 4 dL_refusesPlaces_294 rfl rfl ?_
  refine L_iconst 295 4 dL_refusesPlaces_295 (by decide) ?_
  refine L_cW 296 [.ref 109, .int (nI 4)] (Nat.le_refl 1) (w_all (nI 4) _ _ (o_whole hS (by decide))) dL_refusesPlaces_296 lk_92 hc_all hs_all hp_all rfl ⟨rfl, rfl⟩ ⟨Nat.le_of_ble_eq_true rfl, Nat.le_of_ble_eq_true rfl⟩ ⟨Nat.le_of_ble_eq_true rfl, Nat.le_of_ble_eq_true rfl⟩ rfl (Nat.le_of_ble_eq_true rfl) ?_
  rintro _ V ⟨rfl, hS⟩
  rw [wh4 hDM]
  have J401_1 : ∀ V : Mm, ST V S c r lc T cn L b → XL (.inl (qI (fun v V2 => 1 = v ∧ ST V2 S c r lc T cn L b))) none 1 mL_refusesPlaces [] 23 138 401 [(4, .int (nI r)), (3, .int (nI c)), (2, .int (nI lc)), (1, .int 0), (0, .ref 109)] [] (V, f) := by
    intro V hS
    refine L_iinc 401 3 1 [(1, .int 1), (4, .int (nI r)), (3, .int (nI c)), (2, .int (nI lc)), (0, .ref 109)] dL_refusesPlaces_401 rfl (by decide) (by decide) rfl ?_
    refine L_goto 404 2 dL_refusesPlaces_404 (by decide) ?_
    refine L_iload_n 2 0 dL_refusesPlaces_2 rfl rfl ?_
    refine L_iconst 3 2 dL_refusesPlaces_3 (by decide) ?_
    refine L_icmp_ge 4 407 dL_refusesPlaces_4 (by decide) (fun c_0 => by first | exact absurd rfl c_0 | exact absurd c_0 (by decide) | exact absurd (by decide) c_0) (fun _ => ?_)
    refine L_iload_n 7 0 dL_refusesPlaces_7 rfl rfl ?_
    refine L_if_ne 8 19 dL_refusesPlaces_8 (by decide) (fun _ => ?_) (fun c_0 => by first | exact absurd rfl c_0 | exact absurd c_0 (by decide) | exact absurd (by decide) c_0)
    refine L_iconst 19 (-1) dL_refusesPlaces_19 (by decide) ?_
    refine L_istore_n 20 [(2, .int (-1)), (1, .int 1), (4, .int (nI r)), (3, .int (nI c)), (0, .ref 109)] dL_refusesPlaces_20 rfl (by decide) rfl ?_
    refine L_iload_n 21 1 dL_refusesPlaces_21 rfl rfl ?_
    refine L_if_ne 22 33 dL_refusesPlaces_22 (by decide) (fun _ => ?_) (fun c_0 => by first | exact absurd rfl c_0 | exact absurd c_0 (by decide) | exact absurd (by decide) c_0)
    refine L_iconst 33 (-1) dL_refusesPlaces_33 (by decide) ?_
    refine L_istore_n 34 [(3, .int (-1)), (2, .int (-1)), (1, .int 1), (4, .int (nI r)), (0, .ref 109)] dL_refusesPlaces_34 rfl (by decide) rfl ?_
    refine L_iload_n 35 2 dL_refusesPlaces_35 rfl rfl ?_
    refine L_if_ne 36 47 dL_refusesPlaces_36 (by decide) (fun _ => ?_) (fun c_0 => by first | exact absurd rfl c_0 | exact absurd c_0 (by decide) | exact absurd (by decide) c_0)
    refine L_iconst 47 (-1) dL_refusesPlaces_47 (by decide) ?_
    refine L_istore 48 [(4, .int (-1)), (3, .int (-1)), (2, .int (-1)), (1, .int 1), (0, .ref 109)] dL_refusesPlaces_48 (by decide) rfl ?_
    refine L_aload_n 50 4 dL_refusesPlaces_50 rfl rfl ?_
    refine L_iload_n 51 2 dL_refusesPlaces_51 rfl rfl ?_
    refine L_iconst 52 0 dL_refusesPlaces_52 (by decide) ?_
    refine L_iconst 53 0 dL_refusesPlaces_53 (by decide) ?_
    refine L_iconst 54 0 dL_refusesPlaces_54 (by decide) ?_
    refine L_cT 55 [.ref 109, .int (-1), .int 0, .int 0, .int 0] 24 144 (Nat.le_refl 1) (t_cornering_1 (-1) 0 0 0 V (x_X6_setCorner_Index (-1) 0 0 0 V (fun h => nlp hS (Or.inr rfl) h.1))) dL_refusesPlaces_55 lk_131 hc_cornering hs_cornering hp_cornering rfl ⟨rfl, rfl⟩ ⟨Nat.le_of_ble_eq_true rfl, Nat.le_of_ble_eq_true rfl⟩ ⟨Nat.le_of_ble_eq_true rfl, Nat.le_of_ble_eq_true rfl⟩ rfl (Nat.le_of_ble_eq_true rfl) ?_
    rintro _ _ ⟨rfl, rfl⟩
    refine L_sipush 58 (-3001) dL_refusesPlaces_58 (by decide) ?_
    refine L_icmp_ne 61 197 dL_refusesPlaces_61 (by decide) (fun c_0 => by first | exact absurd rfl c_0 | exact absurd c_0 (by decide) | exact absurd (by decide) c_0) (fun _ => ?_)
    refine L_aload_n 64 4 dL_refusesPlaces_64 rfl rfl ?_
    refine L_iload_n 65 2 dL_refusesPlaces_65 rfl rfl ?_
    refine L_iconst 66 4 dL_refusesPlaces_66 (by decide) ?_
    refine L_bipush 67 99 dL_refusesPlaces_67 (by decide) ?_
    refine L_bipush 69 99 dL_refusesPlaces_69 (by decide) ?_
    refine L_cT 71 [.ref 109, .int (-1), .int 4, .int 99, .int 99] 25 150 (Nat.le_refl 1) (t_cornering_1 (-1) 4 99 99 V (x_X6_setCorner_Index (-1) 4 99 99 V (fun h => nlp hS (Or.inr rfl) h.1))) dL_refusesPlaces_71 lk_131 hc_cornering hs_cornering hp_cornering rfl ⟨rfl, rfl⟩ ⟨Nat.le_of_ble_eq_true rfl, Nat.le_of_ble_eq_true rfl⟩ ⟨Nat.le_of_ble_eq_true rfl, Nat.le_of_ble_eq_true rfl⟩ rfl (Nat.le_of_ble_eq_true rfl) ?_
    rintro _ _ ⟨rfl, rfl⟩
    refine L_sipush 74 (-3001) dL_refusesPlaces_74 (by decide) ?_
    refine L_icmp_ne 77 197 dL_refusesPlaces_77 (by decide) (fun c_0 => by first | exact absurd rfl c_0 | exact absurd c_0 (by decide) | exact absurd (by decide) c_0) (fun _ => ?_)
    refine L_aload_n 80 4 dL_refusesPlaces_80 rfl rfl ?_
    refine L_iload_n 81 2 dL_refusesPlaces_81 rfl rfl ?_
    refine L_iconst 82 0 dL_refusesPlaces_82 (by decide) ?_
    refine L_iconst 83 0 dL_refusesPlaces_83 (by decide) ?_
    refine L_iconst 84 0 dL_refusesPlaces_84 (by decide) ?_
    refine L_iconst 85 0 dL_refusesPlaces_85 (by decide) ?_
    refine L_cT 86 [.ref 109, .int (-1), .int 0, .int 0, .int 0, .int 0] 26 156 (Nat.le_refl 1) (t_squaring_1 (-1) 0 0 0 0 V (x_X6_setRectangle_Index (-1) 0 0 0 0 V (nlp hS (Or.inr rfl)))) dL_refusesPlaces_86 lk_135 hc_squaring hs_squaring hp_squaring rfl ⟨rfl, rfl⟩ ⟨Nat.le_of_ble_eq_true rfl, Nat.le_of_ble_eq_true rfl⟩ ⟨Nat.le_of_ble_eq_true rfl, Nat.le_of_ble_eq_true rfl⟩ rfl (Nat.le_of_ble_eq_true rfl) ?_
    rintro _ _ ⟨rfl, rfl⟩
    refine L_sipush 89 (-3001) dL_refusesPlaces_89 (by decide) ?_
    refine L_icmp_ne 92 197 dL_refusesPlaces_92 (by decide) (fun c_0 => by first | exact absurd rfl c_0 | exact absurd c_0 (by decide) | exact absurd (by decide) c_0) (fun _ => ?_)
    refine L_aload_n 95 4 dL_refusesPlaces_95 rfl rfl ?_
    refine L_iload_n 96 2 dL_refusesPlaces_96 rfl rfl ?_
    refine L_bipush 97 9 dL_refusesPlaces_97 (by decide) ?_
    refine L_bipush 99 9 dL_refusesPlaces_99 (by decide) ?_
    refine L_cT 101 [.ref 109, .int (-1), .int 9, .int 9] 27 162 (Nat.le_refl 1) (t_setting_1 (-1) 9 9 V (x_X6_setLamp_Index (-1) 9 9 V (nlp hS (Or.inr rfl)))) dL_refusesPlaces_101 lk_139 hc_setting hs_setting hp_setting rfl ⟨rfl, rfl⟩ ⟨Nat.le_of_ble_eq_true rfl, Nat.le_of_ble_eq_true rfl⟩ ⟨Nat.le_of_ble_eq_true rfl, Nat.le_of_ble_eq_true rfl⟩ rfl (Nat.le_of_ble_eq_true rfl) ?_
    rintro _ _ ⟨rfl, rfl⟩
    refine L_sipush 104 (-3001) dL_refusesPlaces_104 (by decide) ?_
    refine L_icmp_ne 107 197 dL_refusesPlaces_107 (by decide) (fun c_0 => by first | exact absurd rfl c_0 | exact absurd c_0 (by decide) | exact absurd (by decide) c_0) (fun _ => ?_)
    refine L_aload_n 110 4 dL_refusesPlaces_110 rfl rfl ?_
    refine L_iload_n 111 2 dL_refusesPlaces_111 rfl rfl ?_
    refine L_iconst 112 1 dL_refusesPlaces_112 (by decide) ?_
    refine L_cT 113 [.ref 109, .int (-1), .int 1] 28 168 (Nat.le_refl 1) (t_working_1 (-1) 1 V (x_X6_setWorks_Index (-1) 1 V (nlp hS (Or.inr rfl)))) dL_refusesPlaces_113 lk_142 hc_working hs_working hp_working rfl ⟨rfl, rfl⟩ ⟨Nat.le_of_ble_eq_true rfl, Nat.le_of_ble_eq_true rfl⟩ ⟨Nat.le_of_ble_eq_true rfl, Nat.le_of_ble_eq_true rfl⟩ rfl (Nat.le_of_ble_eq_true rfl) ?_
    rintro _ _ ⟨rfl, rfl⟩
    refine L_sipush 116 (-3001) dL_refusesPlaces_116 (by decide) ?_
    refine L_icmp_ne 119 197 dL_refusesPlaces_119 (by decide) (fun c_0 => by first | exact absurd rfl c_0 | exact absurd c_0 (by decide) | exact absurd (by decide) c_0) (fun _ => ?_)
    refine L_aload_n 122 4 dL_refusesPlaces_122 rfl rfl ?_
    refine L_iload_n 123 2 dL_refusesPlaces_123 rfl rfl ?_
    refine L_iconst 124 0 dL_refusesPlaces_124 (by decide) ?_
    refine L_iconst 125 0 dL_refusesPlaces_125 (by decide) ?_
    refine L_cT 126 [.ref 109, .int (-1), .int 0, .int 0] 29 174 (Nat.le_refl 1) (t_lighting_1 (-1) 0 0 V (x_X6_light_Index (-1) 0 0 V (nlp hS (Or.inr rfl)))) dL_refusesPlaces_126 lk_113 hc_lighting hs_lighting hp_lighting rfl ⟨rfl, rfl⟩ ⟨Nat.le_of_ble_eq_true rfl, Nat.le_of_ble_eq_true rfl⟩ ⟨Nat.le_of_ble_eq_true rfl, Nat.le_of_ble_eq_true rfl⟩ rfl (Nat.le_of_ble_eq_true rfl) ?_
    rintro _ _ ⟨rfl, rfl⟩
    refine L_sipush 129 (-3001) dL_refusesPlaces_129 (by decide) ?_
    refine L_icmp_ne 132 197 dL_refusesPlaces_132 (by decide) (fun c_0 => by first | exact absurd rfl c_0 | exact absurd c_0 (by decide) | exact absurd (by decide) c_0) (fun _ => ?_)
    refine L_aload_n 135 4 dL_refusesPlaces_135 rfl rfl ?_
    refine L_iload_n 136 2 dL_refusesPlaces_136 rfl rfl ?_
    refine L_iconst 137 0 dL_refusesPlaces_137 (by decide) ?_
    refine L_iconst 138 0 dL_refusesPlaces_138 (by decide) ?_
    refine L_cT 139 [.ref 109, .int (-1), .int 0, .int 0] 30 180 (Nat.le_refl 1) (t_weighing_1 (-1) 0 0 V (x_X6_weight_Index (-1) 0 0 V (nlp hS (Or.inr rfl)))) dL_refusesPlaces_139 lk_146 hc_weighing hs_weighing hp_weighing rfl ⟨rfl, rfl⟩ ⟨Nat.le_of_ble_eq_true rfl, Nat.le_of_ble_eq_true rfl⟩ ⟨Nat.le_of_ble_eq_true rfl, Nat.le_of_ble_eq_true rfl⟩ rfl (Nat.le_of_ble_eq_true rfl) ?_
    rintro _ _ ⟨rfl, rfl⟩
    refine L_sipush 142 (-3001) dL_refusesPlaces_142 (by decide) ?_
    refine L_icmp_ne 145 197 dL_refusesPlaces_145 (by decide) (fun c_0 => by first | exact absurd rfl c_0 | exact absurd c_0 (by decide) | exact absurd (by decide) c_0) (fun _ => ?_)
    refine L_aload_n 148 4 dL_refusesPlaces_148 rfl rfl ?_
    refine L_iload_n 149 2 dL_refusesPlaces_149 rfl rfl ?_
    refine L_bipush 150 99 dL_refusesPlaces_150 (by decide) ?_
    refine L_cT 152 [.ref 109, .int (-1), .int 99] 31 186 (Nat.le_refl 1) (t_lamping_1 (-1) 99 V (x_X6_lamp_Index (-1) 99 V (nlp hS (Or.inr rfl)))) dL_refusesPlaces_152 lk_98 hc_lamping hs_lamping hp_lamping rfl ⟨rfl, rfl⟩ ⟨Nat.le_of_ble_eq_true rfl, Nat.le_of_ble_eq_true rfl⟩ ⟨Nat.le_of_ble_eq_true rfl, Nat.le_of_ble_eq_true rfl⟩ rfl (Nat.le_of_ble_eq_true rfl) ?_
    rintro _ _ ⟨rfl, rfl⟩
    refine L_sipush 155 (-3001) dL_refusesPlaces_155 (by decide) ?_
    refine L_icmp_ne 158 197 dL_refusesPlaces_158 (by decide) (fun c_0 => by first | exact absurd rfl c_0 | exact absurd c_0 (by decide) | exact absurd (by decide) c_0) (fun _ => ?_)
    refine L_aload_n 161 4 dL_refusesPlaces_161 rfl rfl ?_
    refine L_iload_n 162 2 dL_refusesPlaces_162 rfl rfl ?_
    refine L_iconst 163 0 dL_refusesPlaces_163 (by decide) ?_
    refine L_bipush 164 9 dL_refusesPlaces_164 (by decide) ?_
    refine L_cT 166 [.ref 109, .int (-1), .int 0, .int 9] 32 192 (Nat.le_refl 1) (t_cornerAt_1 (-1) 0 9 V (x_X6_corner_Index (-1) 0 9 V (nlp hS (Or.inr rfl)))) dL_refusesPlaces_166 lk_106 hc_cornerAt hs_cornerAt hp_cornerAt rfl ⟨rfl, rfl⟩ ⟨Nat.le_of_ble_eq_true rfl, Nat.le_of_ble_eq_true rfl⟩ ⟨Nat.le_of_ble_eq_true rfl, Nat.le_of_ble_eq_true rfl⟩ rfl (Nat.le_of_ble_eq_true rfl) ?_
    rintro _ _ ⟨rfl, rfl⟩
    refine L_sipush 169 (-3001) dL_refusesPlaces_169 (by decide) ?_
    refine L_icmp_ne 172 197 dL_refusesPlaces_172 (by decide) (fun c_0 => by first | exact absurd rfl c_0 | exact absurd c_0 (by decide) | exact absurd (by decide) c_0) (fun _ => ?_)
    refine L_aload_n 175 4 dL_refusesPlaces_175 rfl rfl ?_
    refine L_iload_n 176 2 dL_refusesPlaces_176 rfl rfl ?_
    refine L_cT 177 [.ref 109, .int (-1)] 33 198 (Nat.le_refl 1) (t_wrongBut_1 (-1) V (x_X6_wrongWithout_Index (-1) V (nlp hS (Or.inr rfl)))) dL_refusesPlaces_177 lk_149 hc_wrongBut hs_wrongBut hp_wrongBut rfl ⟨rfl, rfl⟩ ⟨Nat.le_of_ble_eq_true rfl, Nat.le_of_ble_eq_true rfl⟩ ⟨Nat.le_of_ble_eq_true rfl, Nat.le_of_ble_eq_true rfl⟩ rfl (Nat.le_of_ble_eq_true rfl) ?_
    rintro _ _ ⟨rfl, rfl⟩
    refine L_sipush 180 (-3001) dL_refusesPlaces_180 (by decide) ?_
    refine L_icmp_ne 183 197 dL_refusesPlaces_183 (by decide) (fun c_0 => by first | exact absurd rfl c_0 | exact absurd c_0 (by decide) | exact absurd (by decide) c_0) (fun _ => ?_)
    refine L_aload_n 186 4 dL_refusesPlaces_186 rfl rfl ?_
    refine L_iload_n 187 2 dL_refusesPlaces_187 rfl rfl ?_
    refine L_cT 188 [.ref 109, .int (-1)] 34 204 (Nat.le_refl 1) (t_needing_1 (-1) V (x_X6_neededLimit_Index (-1) V (nlp hS (Or.inr rfl)))) dL_refusesPlaces_188 lk_152 hc_needing hs_needing hp_needing rfl ⟨rfl, rfl⟩ ⟨Nat.le_of_ble_eq_true rfl, Nat.le_of_ble_eq_true rfl⟩ ⟨Nat.le_of_ble_eq_true rfl, Nat.le_of_ble_eq_true rfl⟩ rfl (Nat.le_of_ble_eq_true rfl) ?_
    rintro _ _ ⟨rfl, rfl⟩
    refine L_sipush 191 (-3001) dL_refusesPlaces_191 (by decide) ?_
    refine L_icmp_eq 194 199 dL_refusesPlaces_194 (by decide) (fun _ => ?_) (fun c_0 => by first | exact absurd rfl c_0 | exact absurd c_0 (by decide) | exact absurd (by decide) c_0)
    refine L_aload_n 199 4 dL_refusesPlaces_199 rfl rfl ?_
    refine L_iload_n 200 1 dL_refusesPlaces_200 rfl rfl ?_
    refine L_iconst 201 0 dL_refusesPlaces_201 (by decide) ?_
    refine L_iload_n 202 1 dL_refusesPlaces_202 rfl rfl ?_
    refine L_iconst 203 0 dL_refusesPlaces_203 (by decide) ?_
    refine L_iconst 204 0 dL_refusesPlaces_204 (by decide) ?_
    refine L_cT 205 [.ref 109, .int (-1), .int 0, .int (-1), .int 0, .int 0] 35 210 (Nat.le_refl 1) (t_painting_1 (-1) 0 (-1) 0 0 V (x_X6_paint_Index (-1) 0 (-1) 0 0 V (fun h => npx hS (Or.inr rfl) h.1))) dL_refusesPlaces_205 lk_155 hc_painting hs_painting hp_painting rfl ⟨rfl, rfl⟩ ⟨Nat.le_of_ble_eq_true rfl, Nat.le_of_ble_eq_true rfl⟩ ⟨Nat.le_of_ble_eq_true rfl, Nat.le_of_ble_eq_true rfl⟩ rfl (Nat.le_of_ble_eq_true rfl) ?_
    rintro _ _ ⟨rfl, rfl⟩
    refine L_sipush 208 (-3001) dL_refusesPlaces_208 (by decide) ?_
    refine L_icmp_ne 211 292 dL_refusesPlaces_211 (by decide) (fun c_0 => by first | exact absurd rfl c_0 | exact absurd c_0 (by decide) | exact absurd (by decide) c_0) (fun _ => ?_)
    refine L_aload_n 214 4 dL_refusesPlaces_214 rfl rfl ?_
    refine L_iconst 215 0 dL_refusesPlaces_215 (by decide) ?_
    refine L_iload 216 0 dL_refusesPlaces_216 rfl ?_
    refine L_iconst 218 0 dL_refusesPlaces_218 (by decide) ?_
    refine L_iload 219 0 dL_refusesPlaces_219 rfl ?_
    refine L_iconst 221 0 dL_refusesPlaces_221 (by decide) ?_
    refine L_cT 222 [.ref 109, .int 0, .int (-1), .int 0, .int (-1), .int 0] 36 216 (Nat.le_refl 1) (t_painting_1 0 (-1) 0 (-1) 0 V (x_X6_paint_Index 0 (-1) 0 (-1) 0 V (fun h => npy hS (Or.inr rfl) h.1))) dL_refusesPlaces_222 lk_155 hc_painting hs_painting hp_painting rfl ⟨rfl, rfl⟩ ⟨Nat.le_of_ble_eq_true rfl, Nat.le_of_ble_eq_true rfl⟩ ⟨Nat.le_of_ble_eq_true rfl, Nat.le_of_ble_eq_true rfl⟩ rfl (Nat.le_of_ble_eq_true rfl) ?_
    rintro _ _ ⟨rfl, rfl⟩
    refine L_sipush 225 (-3001) dL_refusesPlaces_225 (by decide) ?_
    refine L_icmp_ne 228 292 dL_refusesPlaces_228 (by decide) (fun c_0 => by first | exact absurd rfl c_0 | exact absurd c_0 (by decide) | exact absurd (by decide) c_0) (fun _ => ?_)
    refine L_aload_n 231 4 dL_refusesPlaces_231 rfl rfl ?_
    refine L_iconst 232 0 dL_refusesPlaces_232 (by decide) ?_
    refine L_iconst 233 0 dL_refusesPlaces_233 (by decide) ?_
    refine L_iload_n 234 1 dL_refusesPlaces_234 rfl rfl ?_
    refine L_iconst 235 0 dL_refusesPlaces_235 (by decide) ?_
    refine L_sipush 236 999 dL_refusesPlaces_236 (by decide) ?_
    refine L_cT 239 [.ref 109, .int 0, .int 0, .int (-1), .int 0, .int 999] 37 222 (Nat.le_refl 1) (t_painting_1 0 0 (-1) 0 999 V (x_X6_paint_Index 0 0 (-1) 0 999 V (fun h => npx hS (Or.inr rfl) h.2))) dL_refusesPlaces_239 lk_155 hc_painting hs_painting hp_painting rfl ⟨rfl, rfl⟩ ⟨Nat.le_of_ble_eq_true rfl, Nat.le_of_ble_eq_true rfl⟩ ⟨Nat.le_of_ble_eq_true rfl, Nat.le_of_ble_eq_true rfl⟩ rfl (Nat.le_of_ble_eq_true rfl) ?_
    rintro _ _ ⟨rfl, rfl⟩
    refine L_sipush 242 (-3001) dL_refusesPlaces_242 (by decide) ?_
    refine L_icmp_ne 245 292 dL_refusesPlaces_245 (by decide) (fun c_0 => by first | exact absurd rfl c_0 | exact absurd c_0 (by decide) | exact absurd (by decide) c_0) (fun _ => ?_)
    refine L_aload_n 248 4 dL_refusesPlaces_248 rfl rfl ?_
    refine L_iconst 249 0 dL_refusesPlaces_249 (by decide) ?_
    refine L_iconst 250 0 dL_refusesPlaces_250 (by decide) ?_
    refine L_iconst 251 0 dL_refusesPlaces_251 (by decide) ?_
    refine L_iload 252 0 dL_refusesPlaces_252 rfl ?_
    refine L_iconst 254 0 dL_refusesPlaces_254 (by decide) ?_
    refine L_cT 255 [.ref 109, .int 0, .int 0, .int 0, .int (-1), .int 0] 38 228 (Nat.le_refl 1) (t_painting_1 0 0 0 (-1) 0 V (x_X6_paint_Index 0 0 0 (-1) 0 V (fun h => npy hS (Or.inr rfl) h.2))) dL_refusesPlaces_255 lk_155 hc_painting hs_painting hp_painting rfl ⟨rfl, rfl⟩ ⟨Nat.le_of_ble_eq_true rfl, Nat.le_of_ble_eq_true rfl⟩ ⟨Nat.le_of_ble_eq_true rfl, Nat.le_of_ble_eq_true rfl⟩ rfl (Nat.le_of_ble_eq_true rfl) ?_
    rintro _ _ ⟨rfl, rfl⟩
    refine L_sipush 258 (-3001) dL_refusesPlaces_258 (by decide) ?_
    refine L_icmp_ne 261 292 dL_refusesPlaces_261 (by decide) (fun c_0 => by first | exact absurd rfl c_0 | exact absurd c_0 (by decide) | exact absurd (by decide) c_0) (fun _ => ?_)
    refine L_aload_n 264 4 dL_refusesPlaces_264 rfl rfl ?_
    refine L_iload_n 265 1 dL_refusesPlaces_265 rfl rfl ?_
    refine L_iconst 266 0 dL_refusesPlaces_266 (by decide) ?_
    refine L_bipush 267 9 dL_refusesPlaces_267 (by decide) ?_
    refine L_cT 269 [.ref 109, .int (-1), .int 0, .int 9] 39 234 (Nat.le_refl 1) (t_placing_1 (-1) 0 9 V (x_X6_place_Index (-1) 0 9 V (npx hS (Or.inr rfl)))) dL_refusesPlaces_269 lk_110 hc_placing hs_placing hp_placing rfl ⟨rfl, rfl⟩ ⟨Nat.le_of_ble_eq_true rfl, Nat.le_of_ble_eq_true rfl⟩ ⟨Nat.le_of_ble_eq_true rfl, Nat.le_of_ble_eq_true rfl⟩ rfl (Nat.le_of_ble_eq_true rfl) ?_
    rintro _ _ ⟨rfl, rfl⟩
    refine L_sipush 272 (-3001) dL_refusesPlaces_272 (by decide) ?_
    refine L_icmp_ne 275 292 dL_refusesPlaces_275 (by decide) (fun c_0 => by first | exact absurd rfl c_0 | exact absurd c_0 (by decide) | exact absurd (by decide) c_0) (fun _ => ?_)
    refine L_aload_n 278 4 dL_refusesPlaces_278 rfl rfl ?_
    refine L_iconst 279 0 dL_refusesPlaces_279 (by decide) ?_
    refine L_iload 280 0 dL_refusesPlaces_280 rfl ?_
    refine L_iconst 282 0 dL_refusesPlaces_282 (by decide) ?_
    refine L_cT 283 [.ref 109, .int 0, .int (-1), .int 0] 40 240 (Nat.le_refl 1) (t_placing_1 0 (-1) 0 V (x_X6_place_Index 0 (-1) 0 V (npy hS (Or.inr rfl)))) dL_refusesPlaces_283 lk_110 hc_placing hs_placing hp_placing rfl ⟨rfl, rfl⟩ ⟨Nat.le_of_ble_eq_true rfl, Nat.le_of_ble_eq_true rfl⟩ ⟨Nat.le_of_ble_eq_true rfl, Nat.le_of_ble_eq_true rfl⟩ rfl (Nat.le_of_ble_eq_true rfl) ?_
    rintro _ _ ⟨rfl, rfl⟩
    refine L_sipush 286 (-3001) dL_refusesPlaces_286 (by decide) ?_
    refine L_icmp_eq 289 294 dL_refusesPlaces_289 (by decide) (fun _ => ?_) (fun c_0 => by first | exact absurd rfl c_0 | exact absurd c_0 (by decide) | exact absurd (by decide) c_0)
    refine L_aload_n 294 4 dL_refusesPlaces_294 rfl rfl ?_
    refine L_iconst 295 4 dL_refusesPlaces_295 (by decide) ?_
    refine L_cW 296 [.ref 109, .int (nI 4)] (Nat.le_refl 1) (w_all (nI 4) _ _ (o_whole hS (by decide))) dL_refusesPlaces_296 lk_92 hc_all hs_all hp_all rfl ⟨rfl, rfl⟩ ⟨Nat.le_of_ble_eq_true rfl, Nat.le_of_ble_eq_true rfl⟩ ⟨Nat.le_of_ble_eq_true rfl, Nat.le_of_ble_eq_true rfl⟩ rfl (Nat.le_of_ble_eq_true rfl) ?_
    rintro _ V ⟨rfl, hS⟩
    rw [wh4 hDM]
    have J401_2 : ∀ V : Mm, ST V S c r lc T cn L b → XL (.inl (qI (fun v V2 => 1 = v ∧ ST V2 S c r lc T cn L b))) none 1 mL_refusesPlaces [] 46 276 401 [(4, .int (-1)), (3, .int (-1)), (2, .int (-1)), (1, .int 1), (0, .ref 109)] [] (V, f) := by
      intro V hS
      refine L_iinc 401 3 2 [(1, .int 2), (4, .int (-1)), (3, .int (-1)), (2, .int (-1)), (0, .ref 109)] dL_refusesPlaces_401 rfl (by decide) (by decide) rfl ?_
      refine L_goto 404 2 dL_refusesPlaces_404 (by decide) ?_
      refine L_iload_n 2 0 dL_refusesPlaces_2 rfl rfl ?_
      refine L_iconst 3 2 dL_refusesPlaces_3 (by decide) ?_
      refine L_icmp_ge 4 407 dL_refusesPlaces_4 (by decide) (fun _ => ?_) (fun c_0 => by first | exact absurd rfl c_0 | exact absurd c_0 (by decide) | exact absurd (by decide) c_0)
      refine L_iconst 407 1 dL_refusesPlaces_407 (by decide) ?_
      exact L_iret 408 dL_refusesPlaces_408 rfl rfl ⟨Nat.le_of_ble_eq_true rfl, Nat.le_of_ble_eq_true rfl⟩ ⟨_, rfl, rfl, hS⟩
    refine L_if_le 299 401 dL_refusesPlaces_299 (by decide) (fun c_b => ?_) (fun c_b => ?_)
    · skip
      exact L_wid (Nat.le_of_ble_eq_true rfl) (Nat.le_of_ble_eq_true rfl) (J401_2 V hS)
    · have hl : 0 < lc := (nI_ltI (a := 0) (by decide) (by omega)).mp (Int32.not_le.mp c_b)
      refine L_aload_n 302 4 dL_refusesPlaces_302 rfl rfl ?_
      refine L_iconst 303 0 dL_refusesPlaces_303 (by decide) ?_
      refine L_iload_n 304 3 dL_refusesPlaces_304 rfl rfl ?_
      refine L_if_ne 305 312 dL_refusesPlaces_305 (by decide) (fun _ => ?_) (fun c_0 => by first | exact absurd rfl c_0 | exact absurd c_0 (by decide) | exact absurd (by decide) c_0)
      refine L_iconst 312 (-1) dL_refusesPlaces_312 (by decide) ?_
      refine L_iconst 313 0 dL_refusesPlaces_313 (by decide) ?_
      refine L_iconst 314 0 dL_refusesPlaces_314 (by decide) ?_
      refine L_cT 315 [.ref 109, .int 0, .int (-1), .int 0, .int 0] 41 246 (Nat.le_refl 1) (t_cornering_1 0 (-1) 0 0 V (x_X6_setCorner_Index 0 (-1) 0 0 V (fun h => absurd h.2.1 (by decide)))) dL_refusesPlaces_315 lk_131 hc_cornering hs_cornering hp_cornering rfl ⟨rfl, rfl⟩ ⟨Nat.le_of_ble_eq_true rfl, Nat.le_of_ble_eq_true rfl⟩ ⟨Nat.le_of_ble_eq_true rfl, Nat.le_of_ble_eq_true rfl⟩ rfl (Nat.le_of_ble_eq_true rfl) ?_
      rintro _ _ ⟨rfl, rfl⟩
      refine L_sipush 318 (-3001) dL_refusesPlaces_318 (by decide) ?_
      refine L_icmp_ne 321 399 dL_refusesPlaces_321 (by decide) (fun c_0 => by first | exact absurd rfl c_0 | exact absurd c_0 (by decide) | exact absurd (by decide) c_0) (fun _ => ?_)
      refine L_aload_n 324 4 dL_refusesPlaces_324 rfl rfl ?_
      refine L_iconst 325 0 dL_refusesPlaces_325 (by decide) ?_
      refine L_iload_n 326 3 dL_refusesPlaces_326 rfl rfl ?_
      refine L_if_ne 327 334 dL_refusesPlaces_327 (by decide) (fun _ => ?_) (fun c_0 => by first | exact absurd rfl c_0 | exact absurd c_0 (by decide) | exact absurd (by decide) c_0)
      refine L_iconst 334 (-1) dL_refusesPlaces_334 (by decide) ?_
      refine L_iconst 335 0 dL_refusesPlaces_335 (by decide) ?_
      refine L_cT 336 [.ref 109, .int 0, .int (-1), .int 0] 42 252 (Nat.le_refl 1) (t_cornerAt_1 0 (-1) 0 V (x_X6_corner_Index2 0 (-1) 0 V (⟨lp0 hS hl, fun h => absurd h.1 (by decide)⟩))) dL_refusesPlaces_336 lk_106 hc_cornerAt hs_cornerAt hp_cornerAt rfl ⟨rfl, rfl⟩ ⟨Nat.le_of_ble_eq_true rfl, Nat.le_of_ble_eq_true rfl⟩ ⟨Nat.le_of_ble_eq_true rfl, Nat.le_of_ble_eq_true rfl⟩ rfl (Nat.le_of_ble_eq_true rfl) ?_
      rintro _ _ ⟨rfl, rfl⟩
      refine L_sipush 339 (-3001) dL_refusesPlaces_339 (by decide) ?_
      refine L_icmp_ne 342 399 dL_refusesPlaces_342 (by decide) (fun c_0 => by first | exact absurd rfl c_0 | exact absurd c_0 (by decide) | exact absurd (by decide) c_0) (fun _ => ?_)
      refine L_aload_n 345 4 dL_refusesPlaces_345 rfl rfl ?_
      refine L_iconst 346 0 dL_refusesPlaces_346 (by decide) ?_
      refine L_iload_n 347 1 dL_refusesPlaces_347 rfl rfl ?_
      refine L_iconst 348 0 dL_refusesPlaces_348 (by decide) ?_
      refine L_cT 349 [.ref 109, .int 0, .int (-1), .int 0] 43 258 (Nat.le_refl 1) (t_lighting_1 0 (-1) 0 V (x_X6_light_Index2 0 (-1) 0 V (⟨lp0 hS hl, npx hS (Or.inr rfl)⟩))) dL_refusesPlaces_349 lk_113 hc_lighting hs_lighting hp_lighting rfl ⟨rfl, rfl⟩ ⟨Nat.le_of_ble_eq_true rfl, Nat.le_of_ble_eq_true rfl⟩ ⟨Nat.le_of_ble_eq_true rfl, Nat.le_of_ble_eq_true rfl⟩ rfl (Nat.le_of_ble_eq_true rfl) ?_
      rintro _ _ ⟨rfl, rfl⟩
      refine L_sipush 352 (-3001) dL_refusesPlaces_352 (by decide) ?_
      refine L_icmp_ne 355 399 dL_refusesPlaces_355 (by decide) (fun c_0 => by first | exact absurd rfl c_0 | exact absurd c_0 (by decide) | exact absurd (by decide) c_0) (fun _ => ?_)
      refine L_aload_n 358 4 dL_refusesPlaces_358 rfl rfl ?_
      refine L_iconst 359 0 dL_refusesPlaces_359 (by decide) ?_
      refine L_iconst 360 0 dL_refusesPlaces_360 (by decide) ?_
      refine L_iload 361 0 dL_refusesPlaces_361 rfl ?_
      refine L_cT 363 [.ref 109, .int 0, .int 0, .int (-1)] 44 264 (Nat.le_refl 1) (t_lighting_1 0 0 (-1) V (x_X6_light_Index2 0 0 (-1) V (⟨lp0 hS hl, npy hS (Or.inr rfl)⟩))) dL_refusesPlaces_363 lk_113 hc_lighting hs_lighting hp_lighting rfl ⟨rfl, rfl⟩ ⟨Nat.le_of_ble_eq_true rfl, Nat.le_of_ble_eq_true rfl⟩ ⟨Nat.le_of_ble_eq_true rfl, Nat.le_of_ble_eq_true rfl⟩ rfl (Nat.le_of_ble_eq_true rfl) ?_
      rintro _ _ ⟨rfl, rfl⟩
      refine L_sipush 366 (-3001) dL_refusesPlaces_366 (by decide) ?_
      refine L_icmp_ne 369 399 dL_refusesPlaces_369 (by decide) (fun c_0 => by first | exact absurd rfl c_0 | exact absurd c_0 (by decide) | exact absurd (by decide) c_0) (fun _ => ?_)
      refine L_aload_n 372 4 dL_refusesPlaces_372 rfl rfl ?_
      refine L_iconst 373 0 dL_refusesPlaces_373 (by decide) ?_
      refine L_iload_n 374 1 dL_refusesPlaces_374 rfl rfl ?_
      refine L_iconst 375 0 dL_refusesPlaces_375 (by decide) ?_
      refine L_cT 376 [.ref 109, .int 0, .int (-1), .int 0] 45 270 (Nat.le_refl 1) (t_weighing_1 0 (-1) 0 V (x_X6_weight_Index2 0 (-1) 0 V (⟨lp0 hS hl, npx hS (Or.inr rfl)⟩))) dL_refusesPlaces_376 lk_146 hc_weighing hs_weighing hp_weighing rfl ⟨rfl, rfl⟩ ⟨Nat.le_of_ble_eq_true rfl, Nat.le_of_ble_eq_true rfl⟩ ⟨Nat.le_of_ble_eq_true rfl, Nat.le_of_ble_eq_true rfl⟩ rfl (Nat.le_of_ble_eq_true rfl) ?_
      rintro _ _ ⟨rfl, rfl⟩
      refine L_sipush 379 (-3001) dL_refusesPlaces_379 (by decide) ?_
      refine L_icmp_ne 382 399 dL_refusesPlaces_382 (by decide) (fun c_0 => by first | exact absurd rfl c_0 | exact absurd c_0 (by decide) | exact absurd (by decide) c_0) (fun _ => ?_)
      refine L_aload_n 385 4 dL_refusesPlaces_385 rfl rfl ?_
      refine L_iconst 386 0 dL_refusesPlaces_386 (by decide) ?_
      refine L_iconst 387 0 dL_refusesPlaces_387 (by decide) ?_
      refine L_iload 388 0 dL_refusesPlaces_388 rfl ?_
      refine L_cT 390 [.ref 109, .int 0, .int 0, .int (-1)] 46 276 (Nat.le_refl 1) (t_weighing_1 0 0 (-1) V (x_X6_weight_Index2 0 0 (-1) V (⟨lp0 hS hl, npy hS (Or.inr rfl)⟩))) dL_refusesPlaces_390 lk_146 hc_weighing hs_weighing hp_weighing rfl ⟨rfl, rfl⟩ ⟨Nat.le_of_ble_eq_true rfl, Nat.le_of_ble_eq_true rfl⟩ ⟨Nat.le_of_ble_eq_true rfl, Nat.le_of_ble_eq_true rfl⟩ rfl (Nat.le_of_ble_eq_true rfl) ?_
      rintro _ _ ⟨rfl, rfl⟩
      refine L_sipush 393 (-3001) dL_refusesPlaces_393 (by decide) ?_
      refine L_icmp_eq 396 401 dL_refusesPlaces_396 (by decide) (fun _ => ?_) (fun c_0 => by first | exact absurd rfl c_0 | exact absurd c_0 (by decide) | exact absurd (by decide) c_0)
      exact L_wid (Nat.le_of_ble_eq_true rfl) (Nat.le_of_ble_eq_true rfl) (J401_2 V hS)
  refine L_if_le 299 401 dL_refusesPlaces_299 (by decide) (fun c_b => ?_) (fun c_b => ?_)
  · skip
    exact L_wid (Nat.le_of_ble_eq_true rfl) (Nat.le_of_ble_eq_true rfl) (J401_1 V hS)
  · have hl : 0 < lc := (nI_ltI (a := 0) (by decide) (by omega)).mp (Int32.not_le.mp c_b)
    refine L_aload_n 302 4 dL_refusesPlaces_302 rfl rfl ?_
    refine L_iconst 303 0 dL_refusesPlaces_303 (by decide) ?_
    refine L_iload_n 304 3 dL_refusesPlaces_304 rfl rfl ?_
    refine L_if_ne 305 312 dL_refusesPlaces_305 (by decide) (fun c_0 => by first | exact absurd rfl c_0 | exact absurd c_0 (by decide) | exact absurd (by decide) c_0) (fun _ => ?_)
    refine L_iconst 308 4 dL_refusesPlaces_308 (by decide) ?_
    refine L_goto 309 313 dL_refusesPlaces_309 (by decide) ?_
    refine L_iconst 313 0 dL_refusesPlaces_313 (by decide) ?_
    refine L_iconst 314 0 dL_refusesPlaces_314 (by decide) ?_
    refine L_cT 315 [.ref 109, .int 0, .int 4, .int 0, .int 0] 18 108 (Nat.le_refl 1) (t_cornering_1 0 4 0 0 V (x_X6_setCorner_Index 0 4 0 0 V (fun h => absurd h.2.2 (by decide)))) dL_refusesPlaces_315 lk_131 hc_cornering hs_cornering hp_cornering rfl ⟨rfl, rfl⟩ ⟨Nat.le_of_ble_eq_true rfl, Nat.le_of_ble_eq_true rfl⟩ ⟨Nat.le_of_ble_eq_true rfl, Nat.le_of_ble_eq_true rfl⟩ rfl (Nat.le_of_ble_eq_true rfl) ?_
    rintro _ _ ⟨rfl, rfl⟩
    refine L_sipush 318 (-3001) dL_refusesPlaces_318 (by decide) ?_
    refine L_icmp_ne 321 399 dL_refusesPlaces_321 (by decide) (fun c_0 => by first | exact absurd rfl c_0 | exact absurd c_0 (by decide) | exact absurd (by decide) c_0) (fun _ => ?_)
    refine L_aload_n 324 4 dL_refusesPlaces_324 rfl rfl ?_
    refine L_iconst 325 0 dL_refusesPlaces_325 (by decide) ?_
    refine L_iload_n 326 3 dL_refusesPlaces_326 rfl rfl ?_
    refine L_if_ne 327 334 dL_refusesPlaces_327 (by decide) (fun c_0 => by first | exact absurd rfl c_0 | exact absurd c_0 (by decide) | exact absurd (by decide) c_0) (fun _ => ?_)
    refine L_iconst 330 4 dL_refusesPlaces_330 (by decide) ?_
    refine L_goto 331 335 dL_refusesPlaces_331 (by decide) ?_
    refine L_iconst 335 0 dL_refusesPlaces_335 (by decide) ?_
    refine L_cT 336 [.ref 109, .int 0, .int 4, .int 0] 19 114 (Nat.le_refl 1) (t_cornerAt_1 0 4 0 V (x_X6_corner_Index2 0 4 0 V (⟨lp0 hS hl, fun h => absurd h.2 (by decide)⟩))) dL_refusesPlaces_336 lk_106 hc_cornerAt hs_cornerAt hp_cornerAt rfl ⟨rfl, rfl⟩ ⟨Nat.le_of_ble_eq_true rfl, Nat.le_of_ble_eq_true rfl⟩ ⟨Nat.le_of_ble_eq_true rfl, Nat.le_of_ble_eq_true rfl⟩ rfl (Nat.le_of_ble_eq_true rfl) ?_
    rintro _ _ ⟨rfl, rfl⟩
    refine L_sipush 339 (-3001) dL_refusesPlaces_339 (by decide) ?_
    refine L_icmp_ne 342 399 dL_refusesPlaces_342 (by decide) (fun c_0 => by first | exact absurd rfl c_0 | exact absurd c_0 (by decide) | exact absurd (by decide) c_0) (fun _ => ?_)
    refine L_aload_n 345 4 dL_refusesPlaces_345 rfl rfl ?_
    refine L_iconst 346 0 dL_refusesPlaces_346 (by decide) ?_
    refine L_iload_n 347 1 dL_refusesPlaces_347 rfl rfl ?_
    refine L_iconst 348 0 dL_refusesPlaces_348 (by decide) ?_
    refine L_cT 349 [.ref 109, .int 0, .int (nI c), .int 0] 20 120 (Nat.le_refl 1) (t_lighting_1 0 (nI c) 0 V (x_X6_light_Index2 0 (nI c) 0 V (⟨lp0 hS hl, npx hS (Or.inl rfl)⟩))) dL_refusesPlaces_349 lk_113 hc_lighting hs_lighting hp_lighting rfl ⟨rfl, rfl⟩ ⟨Nat.le_of_ble_eq_true rfl, Nat.le_of_ble_eq_true rfl⟩ ⟨Nat.le_of_ble_eq_true rfl, Nat.le_of_ble_eq_true rfl⟩ rfl (Nat.le_of_ble_eq_true rfl) ?_
    rintro _ _ ⟨rfl, rfl⟩
    refine L_sipush 352 (-3001) dL_refusesPlaces_352 (by decide) ?_
    refine L_icmp_ne 355 399 dL_refusesPlaces_355 (by decide) (fun c_0 => by first | exact absurd rfl c_0 | exact absurd c_0 (by decide) | exact absurd (by decide) c_0) (fun _ => ?_)
    refine L_aload_n 358 4 dL_refusesPlaces_358 rfl rfl ?_
    refine L_iconst 359 0 dL_refusesPlaces_359 (by decide) ?_
    refine L_iconst 360 0 dL_refusesPlaces_360 (by decide) ?_
    refine L_iload 361 0 dL_refusesPlaces_361 rfl ?_
    refine L_cT 363 [.ref 109, .int 0, .int 0, .int (nI r)] 21 126 (Nat.le_refl 1) (t_lighting_1 0 0 (nI r) V (x_X6_light_Index2 0 0 (nI r) V (⟨lp0 hS hl, npy hS (Or.inl rfl)⟩))) dL_refusesPlaces_363 lk_113 hc_lighting hs_lighting hp_lighting rfl ⟨rfl, rfl⟩ ⟨Nat.le_of_ble_eq_true rfl, Nat.le_of_ble_eq_true rfl⟩ ⟨Nat.le_of_ble_eq_true rfl, Nat.le_of_ble_eq_true rfl⟩ rfl (Nat.le_of_ble_eq_true rfl) ?_
    rintro _ _ ⟨rfl, rfl⟩
    refine L_sipush 366 (-3001) dL_refusesPlaces_366 (by decide) ?_
    refine L_icmp_ne 369 399 dL_refusesPlaces_369 (by decide) (fun c_0 => by first | exact absurd rfl c_0 | exact absurd c_0 (by decide) | exact absurd (by decide) c_0) (fun _ => ?_)
    refine L_aload_n 372 4 dL_refusesPlaces_372 rfl rfl ?_
    refine L_iconst 373 0 dL_refusesPlaces_373 (by decide) ?_
    refine L_iload_n 374 1 dL_refusesPlaces_374 rfl rfl ?_
    refine L_iconst 375 0 dL_refusesPlaces_375 (by decide) ?_
    refine L_cT 376 [.ref 109, .int 0, .int (nI c), .int 0] 22 132 (Nat.le_refl 1) (t_weighing_1 0 (nI c) 0 V (x_X6_weight_Index2 0 (nI c) 0 V (⟨lp0 hS hl, npx hS (Or.inl rfl)⟩))) dL_refusesPlaces_376 lk_146 hc_weighing hs_weighing hp_weighing rfl ⟨rfl, rfl⟩ ⟨Nat.le_of_ble_eq_true rfl, Nat.le_of_ble_eq_true rfl⟩ ⟨Nat.le_of_ble_eq_true rfl, Nat.le_of_ble_eq_true rfl⟩ rfl (Nat.le_of_ble_eq_true rfl) ?_
    rintro _ _ ⟨rfl, rfl⟩
    refine L_sipush 379 (-3001) dL_refusesPlaces_379 (by decide) ?_
    refine L_icmp_ne 382 399 dL_refusesPlaces_382 (by decide) (fun c_0 => by first | exact absurd rfl c_0 | exact absurd c_0 (by decide) | exact absurd (by decide) c_0) (fun _ => ?_)
    refine L_aload_n 385 4 dL_refusesPlaces_385 rfl rfl ?_
    refine L_iconst 386 0 dL_refusesPlaces_386 (by decide) ?_
    refine L_iconst 387 0 dL_refusesPlaces_387 (by decide) ?_
    refine L_iload 388 0 dL_refusesPlaces_388 rfl ?_
    refine L_cT 390 [.ref 109, .int 0, .int 0, .int (nI r)] 23 138 (Nat.le_refl 1) (t_weighing_1 0 0 (nI r) V (x_X6_weight_Index2 0 0 (nI r) V (⟨lp0 hS hl, npy hS (Or.inl rfl)⟩))) dL_refusesPlaces_390 lk_146 hc_weighing hs_weighing hp_weighing rfl ⟨rfl, rfl⟩ ⟨Nat.le_of_ble_eq_true rfl, Nat.le_of_ble_eq_true rfl⟩ ⟨Nat.le_of_ble_eq_true rfl, Nat.le_of_ble_eq_true rfl⟩ rfl (Nat.le_of_ble_eq_true rfl) ?_
    rintro _ _ ⟨rfl, rfl⟩
    refine L_sipush 393 (-3001) dL_refusesPlaces_393 (by decide) ?_
    refine L_icmp_eq 396 401 dL_refusesPlaces_396 (by decide) (fun _ => ?_) (fun c_0 => by first | exact absurd rfl c_0 | exact absurd c_0 (by decide) | exact absurd (by decide) c_0)
    exact L_wid (Nat.le_of_ble_eq_true rfl) (Nat.le_of_ble_eq_true rfl) (J401_1 V hS)
set_option maxHeartbeats 8000000 in
set_option maxRecDepth 100000 in
theorem w_refusesLamps {V S : Mm} {c r lc cn L : Nat} {T : Nat → Mm} {b : Nat → Int32} (hS : ST V S c r lc T cn L b) (hl : 0 < lc) : EvW mL_refusesLamps none [.ref 109] V (qI (fun v V2 => 1 = v ∧ ST V2 S c r lc T cn L b)) := by
  refine EvW_of (by decide +kernel) rfl (fun _ => rfl) (fun _ => Nat.le_of_ble_eq_true rfl) (ls := [(0, .ref 109)]) (fun f => ?_)
  have hDM := hS.dm
  have hd := hS.dim
  refine L_iconst 0 0 dL_refusesLamps_0 (by decide) ?_
  refine L_istore_n 1 [(1, .int 0), (0, .ref 109)] dL_refusesLamps_1 rfl (by decide) rfl ?_
  refine L_iload_n 2 0 dL_refusesLamps_2 rfl rfl ?_
  refine L_iconst 3 2 dL_refusesLamps_3 (by decide) ?_
  refine L_icmp_ge 4 297 dL_refusesLamps_4 (by decide) (fun c_0 => by first | exact absurd rfl c_0 | exact absurd c_0 (by decide) | exact absurd (by decide) c_0) (fun _ => ?_)
  refine L_aload_n 7 1 dL_refusesLamps_7 rfl rfl ?_
  refine L_iconst 8 0 dL_refusesLamps_8 (by decide) ?_
  refine L_iconst 9 0 dL_refusesLamps_9 (by decide) ?_
  refine L_iload_n 10 0 dL_refusesLamps_10 rfl rfl ?_
  refine L_if_ne 11 19 dL_refusesLamps_11 (by decide) (fun c_0 => by first | exact absurd rfl c_0 | exact absurd c_0 (by decide) | exact absurd (by decide) c_0) (fun _ => ?_)
  refine L_bipush 14 41 dL_refusesLamps_14 (by decide) ?_
  refine L_goto 16 21 dL_refusesLamps_16 (by decide) ?_
  refine L_iconst 21 0 dL_refusesLamps_21 (by decide) ?_
  refine L_cT 22 [.ref 109, .int 0, .int 0, .int 41, .int 0] 1 6 (Nat.le_refl 1) (t_cornering_2 0 0 41 0 V (x_X6_setCorner_Argument 0 0 41 0 V (⟨⟨lp0 hS hl, ⟨by decide, by decide⟩⟩, by unfold coOK rgI; decide⟩))) dL_refusesLamps_22 lk_131 hc_cornering hs_cornering hp_cornering rfl ⟨rfl, rfl⟩ ⟨Nat.le_of_ble_eq_true rfl, Nat.le_of_ble_eq_true rfl⟩ ⟨Nat.le_of_ble_eq_true rfl, Nat.le_of_ble_eq_true rfl⟩ rfl (Nat.le_of_ble_eq_true rfl) ?_
  rintro _ _ ⟨rfl, rfl⟩
  refine L_sipush 25 (-3002) dL_refusesLamps_25 (by decide) ?_
  refine L_icmp_ne 28 155 dL_refusesLamps_28 (by decide) (fun c_0 => by first | exact absurd rfl c_0 | exact absurd c_0 (by decide) | exact absurd (by decide) c_0) (fun _ => ?_)
  refine L_aload_n 31 1 dL_refusesLamps_31 rfl rfl ?_
  refine L_iconst 32 0 dL_refusesLamps_32 (by decide) ?_
  refine L_iconst 33 0 dL_refusesLamps_33 (by decide) ?_
  refine L_iconst 34 0 dL_refusesLamps_34 (by decide) ?_
  refine L_iload_n 35 0 dL_refusesLamps_35 rfl rfl ?_
  refine L_if_ne 36 44 dL_refusesLamps_36 (by decide) (fun c_0 => by first | exact absurd rfl c_0 | exact absurd c_0 (by decide) | exact absurd (by decide) c_0) (fun _ => ?_)
  refine L_bipush 39 41 dL_refusesLamps_39 (by decide) ?_
  refine L_goto 41 46 dL_refusesLamps_41 (by decide) ?_
  refine L_cT 46 [.ref 109, .int 0, .int 0, .int 0, .int 41] 2 12 (Nat.le_refl 1) (t_cornering_2 0 0 0 41 V (x_X6_setCorner_Argument 0 0 0 41 V (⟨⟨lp0 hS hl, ⟨by decide, by decide⟩⟩, by unfold coOK rgI; decide⟩))) dL_refusesLamps_46 lk_131 hc_cornering hs_cornering hp_cornering rfl ⟨rfl, rfl⟩ ⟨Nat.le_of_ble_eq_true rfl, Nat.le_of_ble_eq_true rfl⟩ ⟨Nat.le_of_ble_eq_true rfl, Nat.le_of_ble_eq_true rfl⟩ rfl (Nat.le_of_ble_eq_true rfl) ?_
  rintro _ _ ⟨rfl, rfl⟩
  refine L_sipush 49 (-3002) dL_refusesLamps_49 (by decide) ?_
  refine L_icmp_ne 52 155 dL_refusesLamps_52 (by decide) (fun c_0 => by first | exact absurd rfl c_0 | exact absurd c_0 (by decide) | exact absurd (by decide) c_0) (fun _ => ?_)
  refine L_aload_n 55 1 dL_refusesLamps_55 rfl rfl ?_
  refine L_iconst 56 0 dL_refusesLamps_56 (by decide) ?_
  refine L_iload_n 57 0 dL_refusesLamps_57 rfl rfl ?_
  refine L_if_ne 58 66 dL_refusesLamps_58 (by decide) (fun c_0 => by first | exact absurd rfl c_0 | exact absurd c_0 (by decide) | exact absurd (by decide) c_0) (fun _ => ?_)
  refine L_bipush 61 40 dL_refusesLamps_61 (by decide) ?_
  refine L_goto 63 68 dL_refusesLamps_63 (by decide) ?_
  refine L_iconst 68 0 dL_refusesLamps_68 (by decide) ?_
  refine L_bipush 69 40 dL_refusesLamps_69 (by decide) ?_
  refine L_iconst 71 1 dL_refusesLamps_71 (by decide) ?_
  refine L_cT 72 [.ref 109, .int 0, .int 40, .int 0, .int 40, .int 1] 3 18 (Nat.le_refl 1) (t_squaring_2 0 40 0 40 1 V (x_X6_setRectangle_Argument 0 40 0 40 1 V (⟨lp0 hS hl, by unfold rcOK rgI; decide⟩))) dL_refusesLamps_72 lk_135 hc_squaring hs_squaring hp_squaring rfl ⟨rfl, rfl⟩ ⟨Nat.le_of_ble_eq_true rfl, Nat.le_of_ble_eq_true rfl⟩ ⟨Nat.le_of_ble_eq_true rfl, Nat.le_of_ble_eq_true rfl⟩ rfl (Nat.le_of_ble_eq_true rfl) ?_
  rintro _ _ ⟨rfl, rfl⟩
  refine L_sipush 75 (-3002) dL_refusesLamps_75 (by decide) ?_
  refine L_icmp_ne 78 155 dL_refusesLamps_78 (by decide) (fun c_0 => by first | exact absurd rfl c_0 | exact absurd c_0 (by decide) | exact absurd (by decide) c_0) (fun _ => ?_)
  refine L_aload_n 81 1 dL_refusesLamps_81 rfl rfl ?_
  refine L_iconst 82 0 dL_refusesLamps_82 (by decide) ?_
  refine L_iconst 83 0 dL_refusesLamps_83 (by decide) ?_
  refine L_iload_n 84 0 dL_refusesLamps_84 rfl rfl ?_
  refine L_if_ne 85 93 dL_refusesLamps_85 (by decide) (fun c_0 => by first | exact absurd rfl c_0 | exact absurd c_0 (by decide) | exact absurd (by decide) c_0) (fun _ => ?_)
  refine L_bipush 88 40 dL_refusesLamps_88 (by decide) ?_
  refine L_goto 90 95 dL_refusesLamps_90 (by decide) ?_
  refine L_iconst 95 1 dL_refusesLamps_95 (by decide) ?_
  refine L_bipush 96 40 dL_refusesLamps_96 (by decide) ?_
  refine L_cT 98 [.ref 109, .int 0, .int 0, .int 40, .int 1, .int 40] 4 24 (Nat.le_refl 1) (t_squaring_2 0 0 40 1 40 V (x_X6_setRectangle_Argument 0 0 40 1 40 V (⟨lp0 hS hl, by unfold rcOK rgI; decide⟩))) dL_refusesLamps_98 lk_135 hc_squaring hs_squaring hp_squaring rfl ⟨rfl, rfl⟩ ⟨Nat.le_of_ble_eq_true rfl, Nat.le_of_ble_eq_true rfl⟩ ⟨Nat.le_of_ble_eq_true rfl, Nat.le_of_ble_eq_true rfl⟩ rfl (Nat.le_of_ble_eq_true rfl) ?_
  rintro _ _ ⟨rfl, rfl⟩
  refine L_sipush 101 (-3002) dL_refusesLamps_101 (by decide) ?_
  refine L_icmp_ne 104 155 dL_refusesLamps_104 (by decide) (fun c_0 => by first | exact absurd rfl c_0 | exact absurd c_0 (by decide) | exact absurd (by decide) c_0) (fun _ => ?_)
  refine L_aload_n 107 1 dL_refusesLamps_107 rfl rfl ?_
  refine L_iconst 108 0 dL_refusesLamps_108 (by decide) ?_
  refine L_iconst 109 0 dL_refusesLamps_109 (by decide) ?_
  refine L_iconst 110 0 dL_refusesLamps_110 (by decide) ?_
  refine L_iload_n 111 0 dL_refusesLamps_111 rfl rfl ?_
  refine L_if_ne 112 120 dL_refusesLamps_112 (by decide) (fun c_0 => by first | exact absurd rfl c_0 | exact absurd c_0 (by decide) | exact absurd (by decide) c_0) (fun _ => ?_)
  refine L_bipush 115 41 dL_refusesLamps_115 (by decide) ?_
  refine L_goto 117 121 dL_refusesLamps_117 (by decide) ?_
  refine L_iconst 121 1 dL_refusesLamps_121 (by decide) ?_
  refine L_cT 122 [.ref 109, .int 0, .int 0, .int 0, .int 41, .int 1] 5 30 (Nat.le_refl 1) (t_squaring_2 0 0 0 41 1 V (x_X6_setRectangle_Argument 0 0 0 41 1 V (⟨lp0 hS hl, by unfold rcOK rgI; decide⟩))) dL_refusesLamps_122 lk_135 hc_squaring hs_squaring hp_squaring rfl ⟨rfl, rfl⟩ ⟨Nat.le_of_ble_eq_true rfl, Nat.le_of_ble_eq_true rfl⟩ ⟨Nat.le_of_ble_eq_true rfl, Nat.le_of_ble_eq_true rfl⟩ rfl (Nat.le_of_ble_eq_true rfl) ?_
  rintro _ _ ⟨rfl, rfl⟩
  refine L_sipush 125 (-3002) dL_refusesLamps_125 (by decide) ?_
  refine L_icmp_ne 128 155 dL_refusesLamps_128 (by decide) (fun c_0 => by first | exact absurd rfl c_0 | exact absurd c_0 (by decide) | exact absurd (by decide) c_0) (fun _ => ?_)
  refine L_aload_n 131 1 dL_refusesLamps_131 rfl rfl ?_
  refine L_iconst 132 0 dL_refusesLamps_132 (by decide) ?_
  refine L_iconst 133 0 dL_refusesLamps_133 (by decide) ?_
  refine L_iconst 134 0 dL_refusesLamps_134 (by decide) ?_
  refine L_iconst 135 1 dL_refusesLamps_135 (by decide) ?_
  refine L_iload_n 136 0 dL_refusesLamps_136 rfl rfl ?_
  refine L_if_ne 137 145 dL_refusesLamps_137 (by decide) (fun c_0 => by first | exact absurd rfl c_0 | exact absurd c_0 (by decide) | exact absurd (by decide) c_0) (fun _ => ?_)
  refine L_bipush 140 41 dL_refusesLamps_140 (by decide) ?_
  refine L_goto 142 146 dL_refusesLamps_142 (by decide) ?_
  refine L_cT 146 [.ref 109, .int 0, .int 0, .int 0, .int 1, .int 41] 6 36 (Nat.le_refl 1) (t_squaring_2 0 0 0 1 41 V (x_X6_setRectangle_Argument 0 0 0 1 41 V (⟨lp0 hS hl, by unfold rcOK rgI; decide⟩))) dL_refusesLamps_146 lk_135 hc_squaring hs_squaring hp_squaring rfl ⟨rfl, rfl⟩ ⟨Nat.le_of_ble_eq_true rfl, Nat.le_of_ble_eq_true rfl⟩ ⟨Nat.le_of_ble_eq_true rfl, Nat.le_of_ble_eq_true rfl⟩ rfl (Nat.le_of_ble_eq_true rfl) ?_
  rintro _ _ ⟨rfl, rfl⟩
  refine L_sipush 149 (-3002) dL_refusesLamps_149 (by decide) ?_
  refine L_icmp_eq 152 157 dL_refusesLamps_152 (by decide) (fun _ => ?_) (fun c_0 => by first | exact absurd rfl c_0 | exact absurd c_0 (by decide) | exact absurd (by decide) c_0)
  refine L_aload_n 157 1 dL_refusesLamps_157 rfl rfl ?_
  refine L_iconst 158 0 dL_refusesLamps_158 (by decide) ?_
  refine L_iload_n 159 0 dL_refusesLamps_159 rfl rfl ?_
  refine L_if_ne 160 167 dL_refusesLamps_160 (by decide) (fun c_0 => by first | exact absurd rfl c_0 | exact absurd c_0 (by decide) | exact absurd (by decide) c_0) (fun _ => ?_)
  refine L_iconst 163 3 dL_refusesLamps_163 (by decide) ?_
  refine L_goto 164 168 dL_refusesLamps_164 (by decide) ?_
  refine L_iconst 168 0 dL_refusesLamps_168 (by decide) ?_
  refine L_cT 169 [.ref 109, .int 0, .int 3, .int 0] 7 42 (Nat.le_refl 1) (t_setting_2 0 3 0 V (x_X6_setLamp_Argument 0 3 0 V (⟨lp0 hS hl, by unfold lvOK rgI; decide⟩))) dL_refusesLamps_169 lk_139 hc_setting hs_setting hp_setting rfl ⟨rfl, rfl⟩ ⟨Nat.le_of_ble_eq_true rfl, Nat.le_of_ble_eq_true rfl⟩ ⟨Nat.le_of_ble_eq_true rfl, Nat.le_of_ble_eq_true rfl⟩ rfl (Nat.le_of_ble_eq_true rfl) ?_
  rintro _ _ ⟨rfl, rfl⟩
  refine L_sipush 172 (-3002) dL_refusesLamps_172 (by decide) ?_
  refine L_icmp_ne 175 289 dL_refusesLamps_175 (by decide) (fun c_0 => by first | exact absurd rfl c_0 | exact absurd c_0 (by decide) | exact absurd (by decide) c_0) (fun _ => ?_)
  refine L_aload_n 178 1 dL_refusesLamps_178 rfl rfl ?_
  refine L_iconst 179 0 dL_refusesLamps_179 (by decide) ?_
  refine L_iconst 180 0 dL_refusesLamps_180 (by decide) ?_
  refine L_iload_n 181 0 dL_refusesLamps_181 rfl rfl ?_
  refine L_if_ne 182 191 dL_refusesLamps_182 (by decide) (fun c_0 => by first | exact absurd rfl c_0 | exact absurd c_0 (by decide) | exact absurd (by decide) c_0) (fun _ => ?_)
  refine L_sipush 185 256 dL_refusesLamps_185 (by decide) ?_
  refine L_goto 188 192 dL_refusesLamps_188 (by decide) ?_
  refine L_cT 192 [.ref 109, .int 0, .int 0, .int 256] 8 48 (Nat.le_refl 1) (t_setting_2 0 0 256 V (x_X6_setLamp_Argument 0 0 256 V (⟨lp0 hS hl, by unfold lvOK rgI; decide⟩))) dL_refusesLamps_192 lk_139 hc_setting hs_setting hp_setting rfl ⟨rfl, rfl⟩ ⟨Nat.le_of_ble_eq_true rfl, Nat.le_of_ble_eq_true rfl⟩ ⟨Nat.le_of_ble_eq_true rfl, Nat.le_of_ble_eq_true rfl⟩ rfl (Nat.le_of_ble_eq_true rfl) ?_
  rintro _ _ ⟨rfl, rfl⟩
  refine L_sipush 195 (-3002) dL_refusesLamps_195 (by decide) ?_
  refine L_icmp_ne 198 289 dL_refusesLamps_198 (by decide) (fun c_0 => by first | exact absurd rfl c_0 | exact absurd c_0 (by decide) | exact absurd (by decide) c_0) (fun _ => ?_)
  refine L_aload_n 201 1 dL_refusesLamps_201 rfl rfl ?_
  refine L_iconst 202 0 dL_refusesLamps_202 (by decide) ?_
  refine L_iconst 203 1 dL_refusesLamps_203 (by decide) ?_
  refine L_iload_n 204 0 dL_refusesLamps_204 rfl rfl ?_
  refine L_if_ne 205 214 dL_refusesLamps_205 (by decide) (fun c_0 => by first | exact absurd rfl c_0 | exact absurd c_0 (by decide) | exact absurd (by decide) c_0) (fun _ => ?_)
  refine L_sipush 208 256 dL_refusesLamps_208 (by decide) ?_
  refine L_goto 211 215 dL_refusesLamps_211 (by decide) ?_
  refine L_cT 215 [.ref 109, .int 0, .int 1, .int 256] 9 54 (Nat.le_refl 1) (t_setting_2 0 1 256 V (x_X6_setLamp_Argument 0 1 256 V (⟨lp0 hS hl, by unfold lvOK rgI; decide⟩))) dL_refusesLamps_215 lk_139 hc_setting hs_setting hp_setting rfl ⟨rfl, rfl⟩ ⟨Nat.le_of_ble_eq_true rfl, Nat.le_of_ble_eq_true rfl⟩ ⟨Nat.le_of_ble_eq_true rfl, Nat.le_of_ble_eq_true rfl⟩ rfl (Nat.le_of_ble_eq_true rfl) ?_
  rintro _ _ ⟨rfl, rfl⟩
  refine L_sipush 218 (-3002) dL_refusesLamps_218 (by decide) ?_
  refine L_icmp_ne 221 289 dL_refusesLamps_221 (by decide) (fun c_0 => by first | exact absurd rfl c_0 | exact absurd c_0 (by decide) | exact absurd (by decide) c_0) (fun _ => ?_)
  refine L_aload_n 224 1 dL_refusesLamps_224 rfl rfl ?_
  refine L_iconst 225 0 dL_refusesLamps_225 (by decide) ?_
  refine L_iconst 226 2 dL_refusesLamps_226 (by decide) ?_
  refine L_iload_n 227 0 dL_refusesLamps_227 rfl rfl ?_
  refine L_if_ne 228 237 dL_refusesLamps_228 (by decide) (fun c_0 => by first | exact absurd rfl c_0 | exact absurd c_0 (by decide) | exact absurd (by decide) c_0) (fun _ => ?_)
  refine L_sipush 231 901 dL_refusesLamps_231 (by decide) ?_
  refine L_goto 234 238 dL_refusesLamps_234 (by decide) ?_
  refine L_cT 238 [.ref 109, .int 0, .int 2, .int 901] 10 60 (Nat.le_refl 1) (t_setting_2 0 2 901 V (x_X6_setLamp_Argument 0 2 901 V (⟨lp0 hS hl, by unfold lvOK rgI; decide⟩))) dL_refusesLamps_238 lk_139 hc_setting hs_setting hp_setting rfl ⟨rfl, rfl⟩ ⟨Nat.le_of_ble_eq_true rfl, Nat.le_of_ble_eq_true rfl⟩ ⟨Nat.le_of_ble_eq_true rfl, Nat.le_of_ble_eq_true rfl⟩ rfl (Nat.le_of_ble_eq_true rfl) ?_
  rintro _ _ ⟨rfl, rfl⟩
  refine L_sipush 241 (-3002) dL_refusesLamps_241 (by decide) ?_
  refine L_icmp_ne 244 289 dL_refusesLamps_244 (by decide) (fun c_0 => by first | exact absurd rfl c_0 | exact absurd c_0 (by decide) | exact absurd (by decide) c_0) (fun _ => ?_)
  refine L_aload_n 247 1 dL_refusesLamps_247 rfl rfl ?_
  refine L_iconst 248 0 dL_refusesLamps_248 (by decide) ?_
  refine L_iload_n 249 0 dL_refusesLamps_249 rfl rfl ?_
  refine L_if_ne 250 258 dL_refusesLamps_250 (by decide) (fun c_0 => by first | exact absurd rfl c_0 | exact absurd c_0 (by decide) | exact absurd (by decide) c_0) (fun _ => ?_)
  refine L_bipush 253 12 dL_refusesLamps_253 (by decide) ?_
  refine L_goto 255 259 dL_refusesLamps_255 (by decide) ?_
  refine L_cT 259 [.ref 109, .int 0, .int 12] 11 66 (Nat.le_refl 1) (t_lamping_2 0 12 V (x_X6_lamp_Argument 0 12 V (⟨lp0 hS hl, by unfold rgI; decide⟩))) dL_refusesLamps_259 lk_98 hc_lamping hs_lamping hp_lamping rfl ⟨rfl, rfl⟩ ⟨Nat.le_of_ble_eq_true rfl, Nat.le_of_ble_eq_true rfl⟩ ⟨Nat.le_of_ble_eq_true rfl, Nat.le_of_ble_eq_true rfl⟩ rfl (Nat.le_of_ble_eq_true rfl) ?_
  rintro _ _ ⟨rfl, rfl⟩
  refine L_sipush 262 (-3002) dL_refusesLamps_262 (by decide) ?_
  refine L_icmp_ne 265 289 dL_refusesLamps_265 (by decide) (fun c_0 => by first | exact absurd rfl c_0 | exact absurd c_0 (by decide) | exact absurd (by decide) c_0) (fun _ => ?_)
  refine L_aload_n 268 1 dL_refusesLamps_268 rfl rfl ?_
  refine L_iconst 269 0 dL_refusesLamps_269 (by decide) ?_
  refine L_iconst 270 0 dL_refusesLamps_270 (by decide) ?_
  refine L_iload_n 271 0 dL_refusesLamps_271 rfl rfl ?_
  refine L_if_ne 272 279 dL_refusesLamps_272 (by decide) (fun c_0 => by first | exact absurd rfl c_0 | exact absurd c_0 (by decide) | exact absurd (by decide) c_0) (fun _ => ?_)
  refine L_iconst 275 2 dL_refusesLamps_275 (by decide) ?_
  refine L_goto 276 280 dL_refusesLamps_276 (by decide) ?_
  refine L_cT 280 [.ref 109, .int 0, .int 0, .int 2] 12 72 (Nat.le_refl 1) (t_cornerAt_2 0 0 2 V (x_X6_corner_Argument 0 0 2 V (⟨⟨lp0 hS hl, ⟨by decide, by decide⟩⟩, by unfold rgI; decide⟩))) dL_refusesLamps_280 lk_106 hc_cornerAt hs_cornerAt hp_cornerAt rfl ⟨rfl, rfl⟩ ⟨Nat.le_of_ble_eq_true rfl, Nat.le_of_ble_eq_true rfl⟩ ⟨Nat.le_of_ble_eq_true rfl, Nat.le_of_ble_eq_true rfl⟩ rfl (Nat.le_of_ble_eq_true rfl) ?_
  rintro _ _ ⟨rfl, rfl⟩
  refine L_sipush 283 (-3002) dL_refusesLamps_283 (by decide) ?_
  refine L_icmp_eq 286 291 dL_refusesLamps_286 (by decide) (fun _ => ?_) (fun c_0 => by first | exact absurd rfl c_0 | exact absurd c_0 (by decide) | exact absurd (by decide) c_0)
  refine L_iinc 291 0 1 [(1, .int 1), (0, .ref 109)] dL_refusesLamps_291 rfl (by decide) (by decide) rfl ?_
  refine L_goto 294 2 dL_refusesLamps_294 (by decide) ?_
  refine L_iload_n 2 0 dL_refusesLamps_2 rfl rfl ?_
  refine L_iconst 3 2 dL_refusesLamps_3 (by decide) ?_
  refine L_icmp_ge 4 297 dL_refusesLamps_4 (by decide) (fun c_0 => by first | exact absurd rfl c_0 | exact absurd c_0 (by decide) | exact absurd (by decide) c_0) (fun _ => ?_)
  refine L_aload_n 7 1 dL_refusesLamps_7 rfl rfl ?_
  refine L_iconst 8 0 dL_refusesLamps_8 (by decide) ?_
  refine L_iconst 9 0 dL_refusesLamps_9 (by decide) ?_
  refine L_iload_n 10 0 dL_refusesLamps_10 rfl rfl ?_
  refine L_if_ne 11 19 dL_refusesLamps_11 (by decide) (fun _ => ?_) (fun c_0 => by first | exact absurd rfl c_0 | exact absurd c_0 (by decide) | exact absurd (by decide) c_0)
  refine L_bipush 19 (-21) dL_refusesLamps_19 (by decide) ?_
  refine L_iconst 21 0 dL_refusesLamps_21 (by decide) ?_
  refine L_cT 22 [.ref 109, .int 0, .int 0, .int (-21), .int 0] 13 78 (Nat.le_refl 1) (t_cornering_2 0 0 (-21) 0 V (x_X6_setCorner_Argument 0 0 (-21) 0 V (⟨⟨lp0 hS hl, ⟨by decide, by decide⟩⟩, by unfold coOK rgI; decide⟩))) dL_refusesLamps_22 lk_131 hc_cornering hs_cornering hp_cornering rfl ⟨rfl, rfl⟩ ⟨Nat.le_of_ble_eq_true rfl, Nat.le_of_ble_eq_true rfl⟩ ⟨Nat.le_of_ble_eq_true rfl, Nat.le_of_ble_eq_true rfl⟩ rfl (Nat.le_of_ble_eq_true rfl) ?_
  rintro _ _ ⟨rfl, rfl⟩
  refine L_sipush 25 (-3002) dL_refusesLamps_25 (by decide) ?_
  refine L_icmp_ne 28 155 dL_refusesLamps_28 (by decide) (fun c_0 => by first | exact absurd rfl c_0 | exact absurd c_0 (by decide) | exact absurd (by decide) c_0) (fun _ => ?_)
  refine L_aload_n 31 1 dL_refusesLamps_31 rfl rfl ?_
  refine L_iconst 32 0 dL_refusesLamps_32 (by decide) ?_
  refine L_iconst 33 0 dL_refusesLamps_33 (by decide) ?_
  refine L_iconst 34 0 dL_refusesLamps_34 (by decide) ?_
  refine L_iload_n 35 0 dL_refusesLamps_35 rfl rfl ?_
  refine L_if_ne 36 44 dL_refusesLamps_36 (by decide) (fun _ => ?_) (fun c_0 => by first | exact absurd rfl c_0 | exact absurd c_0 (by decide) | exact absurd (by decide) c_0)
  refine L_bipush 44 (-21) dL_refusesLamps_44 (by decide) ?_
  refine L_cT 46 [.ref 109, .int 0, .int 0, .int 0, .int (-21)] 14 84 (Nat.le_refl 1) (t_cornering_2 0 0 0 (-21) V (x_X6_setCorner_Argument 0 0 0 (-21) V (⟨⟨lp0 hS hl, ⟨by decide, by decide⟩⟩, by unfold coOK rgI; decide⟩))) dL_refusesLamps_46 lk_131 hc_cornering hs_cornering hp_cornering rfl ⟨rfl, rfl⟩ ⟨Nat.le_of_ble_eq_true rfl, Nat.le_of_ble_eq_true rfl⟩ ⟨Nat.le_of_ble_eq_true rfl, Nat.le_of_ble_eq_true rfl⟩ rfl (Nat.le_of_ble_eq_true rfl) ?_
  rintro _ _ ⟨rfl, rfl⟩
  refine L_sipush 49 (-3002) dL_refusesLamps_49 (by decide) ?_
  refine L_icmp_ne 52 155 dL_refusesLamps_52 (by decide) (fun c_0 => by first | exact absurd rfl c_0 | exact absurd c_0 (by decide) | exact absurd (by decide) c_0) (fun _ => ?_)
  refine L_aload_n 55 1 dL_refusesLamps_55 rfl rfl ?_
  refine L_iconst 56 0 dL_refusesLamps_56 (by decide) ?_
  refine L_iload_n 57 0 dL_refusesLamps_57 rfl rfl ?_
  refine L_if_ne 58 66 dL_refusesLamps_58 (by decide) (fun _ => ?_) (fun c_0 => by first | exact absurd rfl c_0 | exact absurd c_0 (by decide) | exact absurd (by decide) c_0)
  refine L_bipush 66 (-21) dL_refusesLamps_66 (by decide) ?_
  refine L_iconst 68 0 dL_refusesLamps_68 (by decide) ?_
  refine L_bipush 69 40 dL_refusesLamps_69 (by decide) ?_
  refine L_iconst 71 1 dL_refusesLamps_71 (by decide) ?_
  refine L_cT 72 [.ref 109, .int 0, .int (-21), .int 0, .int 40, .int 1] 15 90 (Nat.le_refl 1) (t_squaring_2 0 (-21) 0 40 1 V (x_X6_setRectangle_Argument 0 (-21) 0 40 1 V (⟨lp0 hS hl, by unfold rcOK rgI; decide⟩))) dL_refusesLamps_72 lk_135 hc_squaring hs_squaring hp_squaring rfl ⟨rfl, rfl⟩ ⟨Nat.le_of_ble_eq_true rfl, Nat.le_of_ble_eq_true rfl⟩ ⟨Nat.le_of_ble_eq_true rfl, Nat.le_of_ble_eq_true rfl⟩ rfl (Nat.le_of_ble_eq_true rfl) ?_
  rintro _ _ ⟨rfl, rfl⟩
  refine L_sipush 75 (-3002) dL_refusesLamps_75 (by decide) ?_
  refine L_icmp_ne 78 155 dL_refusesLamps_78 (by decide) (fun c_0 => by first | exact absurd rfl c_0 | exact absurd c_0 (by decide) | exact absurd (by decide) c_0) (fun _ => ?_)
  refine L_aload_n 81 1 dL_refusesLamps_81 rfl rfl ?_
  refine L_iconst 82 0 dL_refusesLamps_82 (by decide) ?_
  refine L_iconst 83 0 dL_refusesLamps_83 (by decide) ?_
  refine L_iload_n 84 0 dL_refusesLamps_84 rfl rfl ?_
  refine L_if_ne 85 93 dL_refusesLamps_85 (by decide) (fun _ => ?_) (fun c_0 => by first | exact absurd rfl c_0 | exact absurd c_0 (by decide) | exact absurd (by decide) c_0)
  refine L_bipush 93 (-21) dL_refusesLamps_93 (by decide) ?_
  refine L_iconst 95 1 dL_refusesLamps_95 (by decide) ?_
  refine L_bipush 96 40 dL_refusesLamps_96 (by decide) ?_
  refine L_cT 98 [.ref 109, .int 0, .int 0, .int (-21), .int 1, .int 40] 16 96 (Nat.le_refl 1) (t_squaring_2 0 0 (-21) 1 40 V (x_X6_setRectangle_Argument 0 0 (-21) 1 40 V (⟨lp0 hS hl, by unfold rcOK rgI; decide⟩))) dL_refusesLamps_98 lk_135 hc_squaring hs_squaring hp_squaring rfl ⟨rfl, rfl⟩ ⟨Nat.le_of_ble_eq_true rfl, Nat.le_of_ble_eq_true rfl⟩ ⟨Nat.le_of_ble_eq_true rfl, Nat.le_of_ble_eq_true rfl⟩ rfl (Nat.le_of_ble_eq_true rfl) ?_
  rintro _ _ ⟨rfl, rfl⟩
  refine L_sipush 101 (-3002) dL_refusesLamps_101 (by decide) ?_
  refine L_icmp_ne 104 155 dL_refusesLamps_104 (by decide) (fun c_0 => by first | exact absurd rfl c_0 | exact absurd c_0 (by decide) | exact absurd (by decide) c_0) (fun _ => ?_)
  refine L_aload_n 107 1 dL_refusesLamps_107 rfl rfl ?_
  refine L_iconst 108 0 dL_refusesLamps_108 (by decide) ?_
  refine L_iconst 109 0 dL_refusesLamps_109 (by decide) ?_
  refine L_iconst 110 0 dL_refusesLamps_110 (by decide) ?_
  refine L_iload_n 111 0 dL_refusesLamps_111 rfl rfl ?_
  refine L_if_ne 112 120 dL_refusesLamps_112 (by decide) (fun _ => ?_) (fun c_0 => by first | exact absurd rfl c_0 | exact absurd c_0 (by decide) | exact absurd (by decide) c_0)
  refine L_iconst 120 0 dL_refusesLamps_120 (by decide) ?_
  refine L_iconst 121 1 dL_refusesLamps_121 (by decide) ?_
  refine L_cT 122 [.ref 109, .int 0, .int 0, .int 0, .int 0, .int 1] 17 102 (Nat.le_refl 1) (t_squaring_2 0 0 0 0 1 V (x_X6_setRectangle_Argument 0 0 0 0 1 V (⟨lp0 hS hl, by unfold rcOK rgI; decide⟩))) dL_refusesLamps_122 lk_135 hc_squaring hs_squaring hp_squaring rfl ⟨rfl, rfl⟩ ⟨Nat.le_of_ble_eq_true rfl, Nat.le_of_ble_eq_true rfl⟩ ⟨Nat.le_of_ble_eq_true rfl, Nat.le_of_ble_eq_true rfl⟩ rfl (Nat.le_of_ble_eq_true rfl) ?_
  rintro _ _ ⟨rfl, rfl⟩
  refine L_sipush 125 (-3002) dL_refusesLamps_125 (by decide) ?_
  refine L_icmp_ne 128 155 dL_refusesLamps_128 (by decide) (fun c_0 => by first | exact absurd rfl c_0 | exact absurd c_0 (by decide) | exact absurd (by decide) c_0) (fun _ => ?_)
  refine L_aload_n 131 1 dL_refusesLamps_131 rfl rfl ?_
  refine L_iconst 132 0 dL_refusesLamps_132 (by decide) ?_
  refine L_iconst 133 0 dL_refusesLamps_133 (by decide) ?_
  refine L_iconst 134 0 dL_refusesLamps_134 (by decide) ?_
  refine L_iconst 135 1 dL_refusesLamps_135 (by decide) ?_
  refine L_iload_n 136 0 dL_refusesLamps_136 rfl rfl ?_
  refine L_if_ne 137 145 dL_refusesLamps_137 (by decide) (fun _ => ?_) (fun c_0 => by first | exact absurd rfl c_0 | exact absurd c_0 (by decide) | exact absurd (by decide) c_0)
  refine L_iconst 145 0 dL_refusesLamps_145 (by decide) ?_
  refine L_cT 146 [.ref 109, .int 0, .int 0, .int 0, .int 1, .int 0] 18 108 (Nat.le_refl 1) (t_squaring_2 0 0 0 1 0 V (x_X6_setRectangle_Argument 0 0 0 1 0 V (⟨lp0 hS hl, by unfold rcOK rgI; decide⟩))) dL_refusesLamps_146 lk_135 hc_squaring hs_squaring hp_squaring rfl ⟨rfl, rfl⟩ ⟨Nat.le_of_ble_eq_true rfl, Nat.le_of_ble_eq_true rfl⟩ ⟨Nat.le_of_ble_eq_true rfl, Nat.le_of_ble_eq_true rfl⟩ rfl (Nat.le_of_ble_eq_true rfl) ?_
  rintro _ _ ⟨rfl, rfl⟩
  refine L_sipush 149 (-3002) dL_refusesLamps_149 (by decide) ?_
  refine L_icmp_eq 152 157 dL_refusesLamps_152 (by decide) (fun _ => ?_) (fun c_0 => by first | exact absurd rfl c_0 | exact absurd c_0 (by decide) | exact absurd (by decide) c_0)
  refine L_aload_n 157 1 dL_refusesLamps_157 rfl rfl ?_
  refine L_iconst 158 0 dL_refusesLamps_158 (by decide) ?_
  refine L_iload_n 159 0 dL_refusesLamps_159 rfl rfl ?_
  refine L_if_ne 160 167 dL_refusesLamps_160 (by decide) (fun _ => ?_) (fun c_0 => by first | exact absurd rfl c_0 | exact absurd c_0 (by decide) | exact absurd (by decide) c_0)
  refine L_iconst 167 (-1) dL_refusesLamps_167 (by decide) ?_
  refine L_iconst 168 0 dL_refusesLamps_168 (by decide) ?_
  refine L_cT 169 [.ref 109, .int 0, .int (-1), .int 0] 19 114 (Nat.le_refl 1) (t_setting_2 0 (-1) 0 V (x_X6_setLamp_Argument 0 (-1) 0 V (⟨lp0 hS hl, by unfold lvOK rgI; decide⟩))) dL_refusesLamps_169 lk_139 hc_setting hs_setting hp_setting rfl ⟨rfl, rfl⟩ ⟨Nat.le_of_ble_eq_true rfl, Nat.le_of_ble_eq_true rfl⟩ ⟨Nat.le_of_ble_eq_true rfl, Nat.le_of_ble_eq_true rfl⟩ rfl (Nat.le_of_ble_eq_true rfl) ?_
  rintro _ _ ⟨rfl, rfl⟩
  refine L_sipush 172 (-3002) dL_refusesLamps_172 (by decide) ?_
  refine L_icmp_ne 175 289 dL_refusesLamps_175 (by decide) (fun c_0 => by first | exact absurd rfl c_0 | exact absurd c_0 (by decide) | exact absurd (by decide) c_0) (fun _ => ?_)
  refine L_aload_n 178 1 dL_refusesLamps_178 rfl rfl ?_
  refine L_iconst 179 0 dL_refusesLamps_179 (by decide) ?_
  refine L_iconst 180 0 dL_refusesLamps_180 (by decide) ?_
  refine L_iload_n 181 0 dL_refusesLamps_181 rfl rfl ?_
  refine L_if_ne 182 191 dL_refusesLamps_182 (by decide) (fun _ => ?_) (fun c_0 => by first | exact absurd rfl c_0 | exact absurd c_0 (by decide) | exact absurd (by decide) c_0)
  refine L_iconst 191 (-1) dL_refusesLamps_191 (by decide) ?_
  refine L_cT 192 [.ref 109, .int 0, .int 0, .int (-1)] 20 120 (Nat.le_refl 1) (t_setting_2 0 0 (-1) V (x_X6_setLamp_Argument 0 0 (-1) V (⟨lp0 hS hl, by unfold lvOK rgI; decide⟩))) dL_refusesLamps_192 lk_139 hc_setting hs_setting hp_setting rfl ⟨rfl, rfl⟩ ⟨Nat.le_of_ble_eq_true rfl, Nat.le_of_ble_eq_true rfl⟩ ⟨Nat.le_of_ble_eq_true rfl, Nat.le_of_ble_eq_true rfl⟩ rfl (Nat.le_of_ble_eq_true rfl) ?_
  rintro _ _ ⟨rfl, rfl⟩
  refine L_sipush 195 (-3002) dL_refusesLamps_195 (by decide) ?_
  refine L_icmp_ne 198 289 dL_refusesLamps_198 (by decide) (fun c_0 => by first | exact absurd rfl c_0 | exact absurd c_0 (by decide) | exact absurd (by decide) c_0) (fun _ => ?_)
  refine L_aload_n 201 1 dL_refusesLamps_201 rfl rfl ?_
  refine L_iconst 202 0 dL_refusesLamps_202 (by decide) ?_
  refine L_iconst 203 1 dL_refusesLamps_203 (by decide) ?_
  refine L_iload_n 204 0 dL_refusesLamps_204 rfl rfl ?_
  refine L_if_ne 205 214 dL_refusesLamps_205 (by decide) (fun _ => ?_) (fun c_0 => by first | exact absurd rfl c_0 | exact absurd c_0 (by decide) | exact absurd (by decide) c_0)
  refine L_iconst 214 (-1) dL_refusesLamps_214 (by decide) ?_
  refine L_cT 215 [.ref 109, .int 0, .int 1, .int (-1)] 21 126 (Nat.le_refl 1) (t_setting_2 0 1 (-1) V (x_X6_setLamp_Argument 0 1 (-1) V (⟨lp0 hS hl, by unfold lvOK rgI; decide⟩))) dL_refusesLamps_215 lk_139 hc_setting hs_setting hp_setting rfl ⟨rfl, rfl⟩ ⟨Nat.le_of_ble_eq_true rfl, Nat.le_of_ble_eq_true rfl⟩ ⟨Nat.le_of_ble_eq_true rfl, Nat.le_of_ble_eq_true rfl⟩ rfl (Nat.le_of_ble_eq_true rfl) ?_
  rintro _ _ ⟨rfl, rfl⟩
  refine L_sipush 218 (-3002) dL_refusesLamps_218 (by decide) ?_
  refine L_icmp_ne 221 289 dL_refusesLamps_221 (by decide) (fun c_0 => by first | exact absurd rfl c_0 | exact absurd c_0 (by decide) | exact absurd (by decide) c_0) (fun _ => ?_)
  refine L_aload_n 224 1 dL_refusesLamps_224 rfl rfl ?_
  refine L_iconst 225 0 dL_refusesLamps_225 (by decide) ?_
  refine L_iconst 226 2 dL_refusesLamps_226 (by decide) ?_
  refine L_iload_n 227 0 dL_refusesLamps_227 rfl rfl ?_
  refine L_if_ne 228 237 dL_refusesLamps_228 (by decide) (fun _ => ?_) (fun c_0 => by first | exact absurd rfl c_0 | exact absurd c_0 (by decide) | exact absurd (by decide) c_0)
  refine L_iconst 237 (-1) dL_refusesLamps_237 (by decide) ?_
  refine L_cT 238 [.ref 109, .int 0, .int 2, .int (-1)] 22 132 (Nat.le_refl 1) (t_setting_2 0 2 (-1) V (x_X6_setLamp_Argument 0 2 (-1) V (⟨lp0 hS hl, by unfold lvOK rgI; decide⟩))) dL_refusesLamps_238 lk_139 hc_setting hs_setting hp_setting rfl ⟨rfl, rfl⟩ ⟨Nat.le_of_ble_eq_true rfl, Nat.le_of_ble_eq_true rfl⟩ ⟨Nat.le_of_ble_eq_true rfl, Nat.le_of_ble_eq_true rfl⟩ rfl (Nat.le_of_ble_eq_true rfl) ?_
  rintro _ _ ⟨rfl, rfl⟩
  refine L_sipush 241 (-3002) dL_refusesLamps_241 (by decide) ?_
  refine L_icmp_ne 244 289 dL_refusesLamps_244 (by decide) (fun c_0 => by first | exact absurd rfl c_0 | exact absurd c_0 (by decide) | exact absurd (by decide) c_0) (fun _ => ?_)
  refine L_aload_n 247 1 dL_refusesLamps_247 rfl rfl ?_
  refine L_iconst 248 0 dL_refusesLamps_248 (by decide) ?_
  refine L_iload_n 249 0 dL_refusesLamps_249 rfl rfl ?_
  refine L_if_ne 250 258 dL_refusesLamps_250 (by decide) (fun _ => ?_) (fun c_0 => by first | exact absurd rfl c_0 | exact absurd c_0 (by decide) | exact absurd (by decide) c_0)
  refine L_iconst 258 (-1) dL_refusesLamps_258 (by decide) ?_
  refine L_cT 259 [.ref 109, .int 0, .int (-1)] 23 138 (Nat.le_refl 1) (t_lamping_2 0 (-1) V (x_X6_lamp_Argument 0 (-1) V (⟨lp0 hS hl, by unfold rgI; decide⟩))) dL_refusesLamps_259 lk_98 hc_lamping hs_lamping hp_lamping rfl ⟨rfl, rfl⟩ ⟨Nat.le_of_ble_eq_true rfl, Nat.le_of_ble_eq_true rfl⟩ ⟨Nat.le_of_ble_eq_true rfl, Nat.le_of_ble_eq_true rfl⟩ rfl (Nat.le_of_ble_eq_true rfl) ?_
  rintro _ _ ⟨rfl, rfl⟩
  refine L_sipush 262 (-3002) dL_refusesLamps_262 (by decide) ?_
  refine L_icmp_ne 265 289 dL_refusesLamps_265 (by decide) (fun c_0 => by first | exact absurd rfl c_0 | exact absurd c_0 (by decide) | exact absurd (by decide) c_0) (fun _ => ?_)
  refine L_aload_n 268 1 dL_refusesLamps_268 rfl rfl ?_
  refine L_iconst 269 0 dL_refusesLamps_269 (by decide) ?_
  refine L_iconst 270 0 dL_refusesLamps_270 (by decide) ?_
  refine L_iload_n 271 0 dL_refusesLamps_271 rfl rfl ?_
  refine L_if_ne 272 279 dL_refusesLamps_272 (by decide) (fun _ => ?_) (fun c_0 => by first | exact absurd rfl c_0 | exact absurd c_0 (by decide) | exact absurd (by decide) c_0)
  refine L_iconst 279 (-1) dL_refusesLamps_279 (by decide) ?_
  refine L_cT 280 [.ref 109, .int 0, .int 0, .int (-1)] 24 144 (Nat.le_refl 1) (t_cornerAt_2 0 0 (-1) V (x_X6_corner_Argument 0 0 (-1) V (⟨⟨lp0 hS hl, ⟨by decide, by decide⟩⟩, by unfold rgI; decide⟩))) dL_refusesLamps_280 lk_106 hc_cornerAt hs_cornerAt hp_cornerAt rfl ⟨rfl, rfl⟩ ⟨Nat.le_of_ble_eq_true rfl, Nat.le_of_ble_eq_true rfl⟩ ⟨Nat.le_of_ble_eq_true rfl, Nat.le_of_ble_eq_true rfl⟩ rfl (Nat.le_of_ble_eq_true rfl) ?_
  rintro _ _ ⟨rfl, rfl⟩
  refine L_sipush 283 (-3002) dL_refusesLamps_283 (by decide) ?_
  refine L_icmp_eq 286 291 dL_refusesLamps_286 (by decide) (fun _ => ?_) (fun c_0 => by first | exact absurd rfl c_0 | exact absurd c_0 (by decide) | exact absurd (by decide) c_0)
  refine L_iinc 291 0 2 [(1, .int 2), (0, .ref 109)] dL_refusesLamps_291 rfl (by decide) (by decide) rfl ?_
  refine L_goto 294 2 dL_refusesLamps_294 (by decide) ?_
  refine L_iload_n 2 0 dL_refusesLamps_2 rfl rfl ?_
  refine L_iconst 3 2 dL_refusesLamps_3 (by decide) ?_
  refine L_icmp_ge 4 297 dL_refusesLamps_4 (by decide) (fun _ => ?_) (fun c_0 => by first | exact absurd rfl c_0 | exact absurd c_0 (by decide) | exact absurd (by decide) c_0)
  refine L_iconst 297 1 dL_refusesLamps_297 (by decide) ?_
  exact L_iret 298 dL_refusesLamps_298 rfl rfl ⟨Nat.le_of_ble_eq_true rfl, Nat.le_of_ble_eq_true rfl⟩ ⟨_, rfl, rfl, hS⟩
set_option maxHeartbeats 8000000 in
set_option maxRecDepth 100000 in
theorem w_refused {V S : Mm} {c r lc cn L : Nat} {T : Nat → Mm} {b : Nat → Int32} (hS : ST V S c r lc T cn L b) : EvW mL_refused none [.ref 109] V (qI (fun v V2 => 1 = v ∧ ST V2 S c r lc T cn L b)) := by
  refine EvW_of (by decide +kernel) rfl (fun _ => rfl) (fun _ => Nat.le_of_ble_eq_true rfl) (ls := [(0, .ref 109)]) (fun f => ?_)
  have hDM := hS.dm
  have hd := hS.dim
  refine L_aload_n 0 0 dL_refused_0 rfl rfl ?_
  refine L_cCl 1 (Nat.le_refl 1) (o_digest hS) dL_refused_1 lk_127 wm_X6_digest hq_digest rfl ⟨rfl, rfl⟩ ⟨Nat.le_of_ble_eq_true rfl, Nat.le_of_ble_eq_true rfl⟩ ⟨Nat.le_of_ble_eq_true rfl, Nat.le_of_ble_eq_true rfl⟩ rfl (Nat.le_of_ble_eq_true rfl) ?_
  rintro _ V ⟨rfl, hS⟩
  refine L_lstore_n 4 [(1, .long (dgV S lc c r (nI L) (nI cn))), (0, .ref 109)] dL_refused_4 rfl (by decide) rfl ?_
  refine L_aload_n 5 1 dL_refused_5 rfl rfl ?_
  refine L_cT 6 [.ref 109] 46 276 (Nat.le_refl 1) (w_refusesPlaces hS) dL_refused_6 lk_158 hc_refusesPlaces hs_refusesPlaces hp_refusesPlaces rfl ⟨rfl, rfl⟩ ⟨Nat.le_of_ble_eq_true rfl, Nat.le_of_ble_eq_true rfl⟩ ⟨Nat.le_of_ble_eq_true rfl, Nat.le_of_ble_eq_true rfl⟩ rfl (Nat.le_of_ble_eq_true rfl) ?_
  rintro _ V ⟨rfl, hS⟩
  refine L_if_eq 9 27 dL_refused_9 (by decide) (fun c_0 => by first | exact absurd rfl c_0 | exact absurd c_0 (by decide) | exact absurd (by decide) c_0) (fun _ => ?_)
  refine L_aload_n 12 1 dL_refused_12 rfl rfl ?_
  refine L_iconst 13 4 dL_refused_13 (by decide) ?_
  refine L_cW 14 [.ref 109, .int (nI 4)] (Nat.le_refl 1) (w_all (nI 4) _ _ (o_whole hS (by decide))) dL_refused_14 lk_92 hc_all hs_all hp_all rfl ⟨rfl, rfl⟩ ⟨Nat.le_of_ble_eq_true rfl, Nat.le_of_ble_eq_true rfl⟩ ⟨Nat.le_of_ble_eq_true rfl, Nat.le_of_ble_eq_true rfl⟩ rfl (Nat.le_of_ble_eq_true rfl) ?_
  rintro _ V ⟨rfl, hS⟩
  rw [wh4 hDM]
  have J29_1 : ∀ V : Mm, ST V S c r lc T cn L b → XL (.inl (qI (fun v V2 => 1 = v ∧ ST V2 S c r lc T cn L b))) none 1 mL_refused [] 70 420 29 [(1, .long (dgV S lc c r (nI L) (nI cn))), (0, .ref 109)] [] (V, f) := by
    intro V hS
    refine L_iconst 29 0 dL_refused_29 (by decide) ?_
    refine L_istore_n 30 [(3, .int 0), (1, .long (dgV S lc c r (nI L) (nI cn))), (0, .ref 109)] dL_refused_30 rfl (by decide) rfl ?_
    refine L_iload_n 31 0 dL_refused_31 rfl rfl ?_
    refine L_iconst 32 2 dL_refused_32 (by decide) ?_
    refine L_icmp_ge 33 346 dL_refused_33 (by decide) (fun c_0 => by first | exact absurd rfl c_0 | exact absurd c_0 (by decide) | exact absurd (by decide) c_0) (fun _ => ?_)
    refine L_aload_n 36 2 dL_refused_36 rfl rfl ?_
    refine L_iload_n 37 0 dL_refused_37 rfl rfl ?_
    refine L_if_ne 38 46 dL_refused_38 (by decide) (fun c_0 => by first | exact absurd rfl c_0 | exact absurd c_0 (by decide) | exact absurd (by decide) c_0) (fun _ => ?_)
    refine L_bipush 41 25 dL_refused_41 (by decide) ?_
    refine L_goto 43 47 dL_refused_43 (by decide) ?_
    refine L_iconst 47 1 dL_refused_47 (by decide) ?_
    refine L_cT 48 [.ref 109, .int 25, .int 1] 71 426 (Nat.le_refl 1) (t_beginning_2 25 1 V (x_X6_begin_Argument 25 1 V (by unfold wallOK rgI; decide))) dL_refused_48 lk_165 hc_beginning hs_beginning hp_beginning rfl ⟨rfl, rfl⟩ ⟨Nat.le_of_ble_eq_true rfl, Nat.le_of_ble_eq_true rfl⟩ ⟨Nat.le_of_ble_eq_true rfl, Nat.le_of_ble_eq_true rfl⟩ rfl (Nat.le_of_ble_eq_true rfl) ?_
    rintro _ _ ⟨rfl, rfl⟩
    refine L_sipush 51 (-3002) dL_refused_51 (by decide) ?_
    refine L_icmp_ne 54 338 dL_refused_54 (by decide) (fun c_0 => by first | exact absurd rfl c_0 | exact absurd c_0 (by decide) | exact absurd (by decide) c_0) (fun _ => ?_)
    refine L_aload_n 57 2 dL_refused_57 rfl rfl ?_
    refine L_iconst 58 1 dL_refused_58 (by decide) ?_
    refine L_iload_n 59 0 dL_refused_59 rfl rfl ?_
    refine L_if_ne 60 68 dL_refused_60 (by decide) (fun c_0 => by first | exact absurd rfl c_0 | exact absurd c_0 (by decide) | exact absurd (by decide) c_0) (fun _ => ?_)
    refine L_bipush 63 17 dL_refused_63 (by decide) ?_
    refine L_goto 65 69 dL_refused_65 (by decide) ?_
    refine L_cT 69 [.ref 109, .int 1, .int 17] 72 432 (Nat.le_refl 1) (t_beginning_2 1 17 V (x_X6_begin_Argument 1 17 V (by unfold wallOK rgI; decide))) dL_refused_69 lk_165 hc_beginning hs_beginning hp_beginning rfl ⟨rfl, rfl⟩ ⟨Nat.le_of_ble_eq_true rfl, Nat.le_of_ble_eq_true rfl⟩ ⟨Nat.le_of_ble_eq_true rfl, Nat.le_of_ble_eq_true rfl⟩ rfl (Nat.le_of_ble_eq_true rfl) ?_
    rintro _ _ ⟨rfl, rfl⟩
    refine L_sipush 72 (-3002) dL_refused_72 (by decide) ?_
    refine L_icmp_ne 75 338 dL_refused_75 (by decide) (fun c_0 => by first | exact absurd rfl c_0 | exact absurd c_0 (by decide) | exact absurd (by decide) c_0) (fun _ => ?_)
    refine L_aload_n 78 2 dL_refused_78 rfl rfl ?_
    refine L_iconst 79 0 dL_refused_79 (by decide) ?_
    refine L_iconst 80 0 dL_refused_80 (by decide) ?_
    refine L_iconst 81 0 dL_refused_81 (by decide) ?_
    refine L_iconst 82 0 dL_refused_82 (by decide) ?_
    refine L_iload_n 83 0 dL_refused_83 rfl rfl ?_
    refine L_if_ne 84 93 dL_refused_84 (by decide) (fun c_0 => by first | exact absurd rfl c_0 | exact absurd c_0 (by decide) | exact absurd (by decide) c_0) (fun _ => ?_)
    refine L_sipush 87 256 dL_refused_87 (by decide) ?_
    refine L_goto 90 94 dL_refused_90 (by decide) ?_
    refine L_cT 94 [.ref 109, .int 0, .int 0, .int 0, .int 0, .int 256] 73 438 (Nat.le_refl 1) (t_painting_2 0 0 0 0 256 V (x_X6_paint_Argument 0 0 0 0 256 V (⟨⟨p00 hS, p00 hS⟩, by unfold ptOK rgI; decide⟩))) dL_refused_94 lk_155 hc_painting hs_painting hp_painting rfl ⟨rfl, rfl⟩ ⟨Nat.le_of_ble_eq_true rfl, Nat.le_of_ble_eq_true rfl⟩ ⟨Nat.le_of_ble_eq_true rfl, Nat.le_of_ble_eq_true rfl⟩ rfl (Nat.le_of_ble_eq_true rfl) ?_
    rintro _ _ ⟨rfl, rfl⟩
    refine L_sipush 97 (-3002) dL_refused_97 (by decide) ?_
    refine L_icmp_ne 100 338 dL_refused_100 (by decide) (fun c_0 => by first | exact absurd rfl c_0 | exact absurd c_0 (by decide) | exact absurd (by decide) c_0) (fun _ => ?_)
    refine L_aload_n 103 2 dL_refused_103 rfl rfl ?_
    refine L_iload_n 104 0 dL_refused_104 rfl rfl ?_
    refine L_if_ne 105 114 dL_refused_105 (by decide) (fun c_0 => by first | exact absurd rfl c_0 | exact absurd c_0 (by decide) | exact absurd (by decide) c_0) (fun _ => ?_)
    refine L_sipush 108 256 dL_refused_108 (by decide) ?_
    refine L_goto 111 115 dL_refused_111 (by decide) ?_
    refine L_iconst 115 0 dL_refused_115 (by decide) ?_
    refine L_cT 116 [.ref 109, .int 256, .int 0] 74 444 (Nat.le_refl 1) (t_adding_2 256 0 V (x_X6_addLamp_Argument 256 0 V (by unfold nlOK rgI; decide))) dL_refused_116 lk_168 hc_adding hs_adding hp_adding rfl ⟨rfl, rfl⟩ ⟨Nat.le_of_ble_eq_true rfl, Nat.le_of_ble_eq_true rfl⟩ ⟨Nat.le_of_ble_eq_true rfl, Nat.le_of_ble_eq_true rfl⟩ rfl (Nat.le_of_ble_eq_true rfl) ?_
    rintro _ _ ⟨rfl, rfl⟩
    refine L_sipush 119 (-3002) dL_refused_119 (by decide) ?_
    refine L_icmp_ne 122 338 dL_refused_122 (by decide) (fun c_0 => by first | exact absurd rfl c_0 | exact absurd c_0 (by decide) | exact absurd (by decide) c_0) (fun _ => ?_)
    refine L_aload_n 125 2 dL_refused_125 rfl rfl ?_
    refine L_iconst 126 0 dL_refused_126 (by decide) ?_
    refine L_iload_n 127 0 dL_refused_127 rfl rfl ?_
    refine L_if_ne 128 137 dL_refused_128 (by decide) (fun c_0 => by first | exact absurd rfl c_0 | exact absurd c_0 (by decide) | exact absurd (by decide) c_0) (fun _ => ?_)
    refine L_sipush 131 256 dL_refused_131 (by decide) ?_
    refine L_goto 134 138 dL_refused_134 (by decide) ?_
    refine L_cT 138 [.ref 109, .int 0, .int 256] 75 450 (Nat.le_refl 1) (t_adding_2 0 256 V (x_X6_addLamp_Argument 0 256 V (by unfold nlOK rgI; decide))) dL_refused_138 lk_168 hc_adding hs_adding hp_adding rfl ⟨rfl, rfl⟩ ⟨Nat.le_of_ble_eq_true rfl, Nat.le_of_ble_eq_true rfl⟩ ⟨Nat.le_of_ble_eq_true rfl, Nat.le_of_ble_eq_true rfl⟩ rfl (Nat.le_of_ble_eq_true rfl) ?_
    rintro _ _ ⟨rfl, rfl⟩
    refine L_sipush 141 (-3002) dL_refused_141 (by decide) ?_
    refine L_icmp_ne 144 338 dL_refused_144 (by decide) (fun c_0 => by first | exact absurd rfl c_0 | exact absurd c_0 (by decide) | exact absurd (by decide) c_0) (fun _ => ?_)
    refine L_aload_n 147 2 dL_refused_147 rfl rfl ?_
    refine L_iload_n 148 0 dL_refused_148 rfl rfl ?_
    refine L_if_ne 149 157 dL_refused_149 (by decide) (fun c_0 => by first | exact absurd rfl c_0 | exact absurd c_0 (by decide) | exact absurd (by decide) c_0) (fun _ => ?_)
    refine L_bipush 152 11 dL_refused_152 (by decide) ?_
    refine L_goto 154 159 dL_refused_154 (by decide) ?_
    refine L_iconst 159 0 dL_refused_159 (by decide) ?_
    refine L_cT 160 [.ref 109, .int 11, .int 0] 76 456 (Nat.le_refl 1) (t_shifting_2 11 0 V (x_X6_shift_Argument 11 0 V (by unfold shOK rgI; decide))) dL_refused_160 lk_171 hc_shifting hs_shifting hp_shifting rfl ⟨rfl, rfl⟩ ⟨Nat.le_of_ble_eq_true rfl, Nat.le_of_ble_eq_true rfl⟩ ⟨Nat.le_of_ble_eq_true rfl, Nat.le_of_ble_eq_true rfl⟩ rfl (Nat.le_of_ble_eq_true rfl) ?_
    rintro _ _ ⟨rfl, rfl⟩
    refine L_sipush 163 (-3002) dL_refused_163 (by decide) ?_
    refine L_icmp_ne 166 338 dL_refused_166 (by decide) (fun c_0 => by first | exact absurd rfl c_0 | exact absurd c_0 (by decide) | exact absurd (by decide) c_0) (fun _ => ?_)
    refine L_aload_n 169 2 dL_refused_169 rfl rfl ?_
    refine L_iconst 170 0 dL_refused_170 (by decide) ?_
    refine L_iload_n 171 0 dL_refused_171 rfl rfl ?_
    refine L_if_ne 172 180 dL_refused_172 (by decide) (fun c_0 => by first | exact absurd rfl c_0 | exact absurd c_0 (by decide) | exact absurd (by decide) c_0) (fun _ => ?_)
    refine L_bipush 175 11 dL_refused_175 (by decide) ?_
    refine L_goto 177 182 dL_refused_177 (by decide) ?_
    refine L_cT 182 [.ref 109, .int 0, .int 11] 77 462 (Nat.le_refl 1) (t_shifting_2 0 11 V (x_X6_shift_Argument 0 11 V (by unfold shOK rgI; decide))) dL_refused_182 lk_171 hc_shifting hs_shifting hp_shifting rfl ⟨rfl, rfl⟩ ⟨Nat.le_of_ble_eq_true rfl, Nat.le_of_ble_eq_true rfl⟩ ⟨Nat.le_of_ble_eq_true rfl, Nat.le_of_ble_eq_true rfl⟩ rfl (Nat.le_of_ble_eq_true rfl) ?_
    rintro _ _ ⟨rfl, rfl⟩
    refine L_sipush 185 (-3002) dL_refused_185 (by decide) ?_
    refine L_icmp_ne 188 338 dL_refused_188 (by decide) (fun c_0 => by first | exact absurd rfl c_0 | exact absurd c_0 (by decide) | exact absurd (by decide) c_0) (fun _ => ?_)
    refine L_aload_n 191 2 dL_refused_191 rfl rfl ?_
    refine L_iload_n 192 0 dL_refused_192 rfl rfl ?_
    refine L_if_ne 193 202 dL_refused_193 (by decide) (fun c_0 => by first | exact absurd rfl c_0 | exact absurd c_0 (by decide) | exact absurd (by decide) c_0) (fun _ => ?_)
    refine L_sipush 196 10000 dL_refused_196 (by decide) ?_
    refine L_goto 199 203 dL_refused_199 (by decide) ?_
    refine L_cT 203 [.ref 109, .int 10000] 78 468 (Nat.le_refl 1) (t_burning_2 10000 V (x_X6_burn_Argument 10000 V (by unfold rgI; decide))) dL_refused_203 lk_174 hc_burning hs_burning hp_burning rfl ⟨rfl, rfl⟩ ⟨Nat.le_of_ble_eq_true rfl, Nat.le_of_ble_eq_true rfl⟩ ⟨Nat.le_of_ble_eq_true rfl, Nat.le_of_ble_eq_true rfl⟩ rfl (Nat.le_of_ble_eq_true rfl) ?_
    rintro _ _ ⟨rfl, rfl⟩
    refine L_sipush 206 (-3002) dL_refused_206 (by decide) ?_
    refine L_icmp_ne 209 338 dL_refused_209 (by decide) (fun c_0 => by first | exact absurd rfl c_0 | exact absurd c_0 (by decide) | exact absurd (by decide) c_0) (fun _ => ?_)
    refine L_aload_n 212 2 dL_refused_212 rfl rfl ?_
    refine L_iconst 213 0 dL_refused_213 (by decide) ?_
    refine L_iconst 214 0 dL_refused_214 (by decide) ?_
    refine L_iload_n 215 0 dL_refused_215 rfl rfl ?_
    refine L_if_ne 216 224 dL_refused_216 (by decide) (fun c_0 => by first | exact absurd rfl c_0 | exact absurd c_0 (by decide) | exact absurd (by decide) c_0) (fun _ => ?_)
    refine L_bipush 219 6 dL_refused_219 (by decide) ?_
    refine L_goto 221 225 dL_refused_221 (by decide) ?_
    refine L_cT 225 [.ref 109, .int 0, .int 0, .int 6] 79 474 (Nat.le_refl 1) (t_placing_2 0 0 6 V (x_X6_place_Argument 0 0 6 V (⟨p00 hS, by unfold rgI; decide⟩))) dL_refused_225 lk_110 hc_placing hs_placing hp_placing rfl ⟨rfl, rfl⟩ ⟨Nat.le_of_ble_eq_true rfl, Nat.le_of_ble_eq_true rfl⟩ ⟨Nat.le_of_ble_eq_true rfl, Nat.le_of_ble_eq_true rfl⟩ rfl (Nat.le_of_ble_eq_true rfl) ?_
    rintro _ _ ⟨rfl, rfl⟩
    refine L_sipush 228 (-3002) dL_refused_228 (by decide) ?_
    refine L_icmp_ne 231 338 dL_refused_231 (by decide) (fun c_0 => by first | exact absurd rfl c_0 | exact absurd c_0 (by decide) | exact absurd (by decide) c_0) (fun _ => ?_)
    refine L_aload_n 234 2 dL_refused_234 rfl rfl ?_
    refine L_iload_n 235 0 dL_refused_235 rfl rfl ?_
    refine L_if_ne 236 244 dL_refused_236 (by decide) (fun c_0 => by first | exact absurd rfl c_0 | exact absurd c_0 (by decide) | exact absurd (by decide) c_0) (fun _ => ?_)
    refine L_bipush 239 15 dL_refused_239 (by decide) ?_
    refine L_goto 241 245 dL_refused_241 (by decide) ?_
    refine L_cT 245 [.ref 109, .int 15] 80 480 (Nat.le_refl 1) (t_all_2 15 V (x_X6_whole_Argument 15 V (by unfold rgI; decide))) dL_refused_245 lk_92 hc_all hs_all hp_all rfl ⟨rfl, rfl⟩ ⟨Nat.le_of_ble_eq_true rfl, Nat.le_of_ble_eq_true rfl⟩ ⟨Nat.le_of_ble_eq_true rfl, Nat.le_of_ble_eq_true rfl⟩ rfl (Nat.le_of_ble_eq_true rfl) ?_
    rintro _ _ ⟨rfl, rfl⟩
    refine L_sipush 248 (-3002) dL_refused_248 (by decide) ?_
    refine L_icmp_ne 251 338 dL_refused_251 (by decide) (fun c_0 => by first | exact absurd rfl c_0 | exact absurd c_0 (by decide) | exact absurd (by decide) c_0) (fun _ => ?_)
    refine L_aload_n 254 2 dL_refused_254 rfl rfl ?_
    refine L_iload_n 255 0 dL_refused_255 rfl rfl ?_
    refine L_if_ne 256 264 dL_refused_256 (by decide) (fun c_0 => by first | exact absurd rfl c_0 | exact absurd c_0 (by decide) | exact absurd (by decide) c_0) (fun _ => ?_)
    refine L_bipush 259 11 dL_refused_259 (by decide) ?_
    refine L_goto 261 266 dL_refused_261 (by decide) ?_
    refine L_iconst 266 0 dL_refused_266 (by decide) ?_
    refine L_cT 267 [.ref 109, .int 11, .int 0] 81 486 (Nat.le_refl 1) (t_wrongBy_2 11 0 V (x_X6_wrongShifted_Argument 11 0 V (by unfold shOK rgI; decide))) dL_refused_267 lk_177 hc_wrongBy hs_wrongBy hp_wrongBy rfl ⟨rfl, rfl⟩ ⟨Nat.le_of_ble_eq_true rfl, Nat.le_of_ble_eq_true rfl⟩ ⟨Nat.le_of_ble_eq_true rfl, Nat.le_of_ble_eq_true rfl⟩ rfl (Nat.le_of_ble_eq_true rfl) ?_
    rintro _ _ ⟨rfl, rfl⟩
    refine L_sipush 270 (-3002) dL_refused_270 (by decide) ?_
    refine L_icmp_ne 273 338 dL_refused_273 (by decide) (fun c_0 => by first | exact absurd rfl c_0 | exact absurd c_0 (by decide) | exact absurd (by decide) c_0) (fun _ => ?_)
    refine L_aload_n 276 2 dL_refused_276 rfl rfl ?_
    refine L_iconst 277 0 dL_refused_277 (by decide) ?_
    refine L_iload_n 278 0 dL_refused_278 rfl rfl ?_
    refine L_if_ne 279 287 dL_refused_279 (by decide) (fun c_0 => by first | exact absurd rfl c_0 | exact absurd c_0 (by decide) | exact absurd (by decide) c_0) (fun _ => ?_)
    refine L_bipush 282 11 dL_refused_282 (by decide) ?_
    refine L_goto 284 289 dL_refused_284 (by decide) ?_
    refine L_cT 289 [.ref 109, .int 0, .int 11] 82 492 (Nat.le_refl 1) (t_wrongBy_2 0 11 V (x_X6_wrongShifted_Argument 0 11 V (by unfold shOK rgI; decide))) dL_refused_289 lk_177 hc_wrongBy hs_wrongBy hp_wrongBy rfl ⟨rfl, rfl⟩ ⟨Nat.le_of_ble_eq_true rfl, Nat.le_of_ble_eq_true rfl⟩ ⟨Nat.le_of_ble_eq_true rfl, Nat.le_of_ble_eq_true rfl⟩ rfl (Nat.le_of_ble_eq_true rfl) ?_
    rintro _ _ ⟨rfl, rfl⟩
    refine L_sipush 292 (-3002) dL_refused_292 (by decide) ?_
    refine L_icmp_ne 295 338 dL_refused_295 (by decide) (fun c_0 => by first | exact absurd rfl c_0 | exact absurd c_0 (by decide) | exact absurd (by decide) c_0) (fun _ => ?_)
    refine L_aload_n 298 2 dL_refused_298 rfl rfl ?_
    refine L_iload_n 299 0 dL_refused_299 rfl rfl ?_
    refine L_if_ne 300 307 dL_refused_300 (by decide) (fun c_0 => by first | exact absurd rfl c_0 | exact absurd c_0 (by decide) | exact absurd (by decide) c_0) (fun _ => ?_)
    refine L_iconst 303 4 dL_refused_303 (by decide) ?_
    refine L_goto 304 308 dL_refused_304 (by decide) ?_
    refine L_cT 308 [.ref 109, .int 4] 83 498 (Nat.le_refl 1) (t_besting_2 4 V (x_X6_bestShift_Argument 4 V (by unfold rgI; decide))) dL_refused_308 lk_180 hc_besting hs_besting hp_besting rfl ⟨rfl, rfl⟩ ⟨Nat.le_of_ble_eq_true rfl, Nat.le_of_ble_eq_true rfl⟩ ⟨Nat.le_of_ble_eq_true rfl, Nat.le_of_ble_eq_true rfl⟩ rfl (Nat.le_of_ble_eq_true rfl) ?_
    rintro _ _ ⟨rfl, rfl⟩
    refine L_sipush 311 (-3002) dL_refused_311 (by decide) ?_
    refine L_icmp_ne 314 338 dL_refused_314 (by decide) (fun c_0 => by first | exact absurd rfl c_0 | exact absurd c_0 (by decide) | exact absurd (by decide) c_0) (fun _ => ?_)
    refine L_aload_n 317 2 dL_refused_317 rfl rfl ?_
    refine L_iload_n 318 0 dL_refused_318 rfl rfl ?_
    refine L_if_ne 319 328 dL_refused_319 (by decide) (fun c_0 => by first | exact absurd rfl c_0 | exact absurd c_0 (by decide) | exact absurd (by decide) c_0) (fun _ => ?_)
    refine L_sipush 322 128 dL_refused_322 (by decide) ?_
    refine L_goto 325 329 dL_refused_325 (by decide) ?_
    refine L_cT 329 [.ref 109, .int 128] 84 504 (Nat.le_refl 1) (t_typing_2 128 V (x_X6_type_Argument 128 V (by unfold rgI; decide))) dL_refused_329 lk_183 hc_typing hs_typing hp_typing rfl ⟨rfl, rfl⟩ ⟨Nat.le_of_ble_eq_true rfl, Nat.le_of_ble_eq_true rfl⟩ ⟨Nat.le_of_ble_eq_true rfl, Nat.le_of_ble_eq_true rfl⟩ rfl (Nat.le_of_ble_eq_true rfl) ?_
    rintro _ _ ⟨rfl, rfl⟩
    refine L_sipush 332 (-3002) dL_refused_332 (by decide) ?_
    refine L_icmp_eq 335 340 dL_refused_335 (by decide) (fun _ => ?_) (fun c_0 => by first | exact absurd rfl c_0 | exact absurd c_0 (by decide) | exact absurd (by decide) c_0)
    refine L_iinc 340 0 1 [(3, .int 1), (1, .long (dgV S lc c r (nI L) (nI cn))), (0, .ref 109)] dL_refused_340 rfl (by decide) (by decide) rfl ?_
    refine L_goto 343 31 dL_refused_343 (by decide) ?_
    refine L_iload_n 31 0 dL_refused_31 rfl rfl ?_
    refine L_iconst 32 2 dL_refused_32 (by decide) ?_
    refine L_icmp_ge 33 346 dL_refused_33 (by decide) (fun c_0 => by first | exact absurd rfl c_0 | exact absurd c_0 (by decide) | exact absurd (by decide) c_0) (fun _ => ?_)
    refine L_aload_n 36 2 dL_refused_36 rfl rfl ?_
    refine L_iload_n 37 0 dL_refused_37 rfl rfl ?_
    refine L_if_ne 38 46 dL_refused_38 (by decide) (fun _ => ?_) (fun c_0 => by first | exact absurd rfl c_0 | exact absurd c_0 (by decide) | exact absurd (by decide) c_0)
    refine L_iconst 46 0 dL_refused_46 (by decide) ?_
    refine L_iconst 47 1 dL_refused_47 (by decide) ?_
    refine L_cT 48 [.ref 109, .int 0, .int 1] 85 510 (Nat.le_refl 1) (t_beginning_2 0 1 V (x_X6_begin_Argument 0 1 V (by unfold wallOK rgI; decide))) dL_refused_48 lk_165 hc_beginning hs_beginning hp_beginning rfl ⟨rfl, rfl⟩ ⟨Nat.le_of_ble_eq_true rfl, Nat.le_of_ble_eq_true rfl⟩ ⟨Nat.le_of_ble_eq_true rfl, Nat.le_of_ble_eq_true rfl⟩ rfl (Nat.le_of_ble_eq_true rfl) ?_
    rintro _ _ ⟨rfl, rfl⟩
    refine L_sipush 51 (-3002) dL_refused_51 (by decide) ?_
    refine L_icmp_ne 54 338 dL_refused_54 (by decide) (fun c_0 => by first | exact absurd rfl c_0 | exact absurd c_0 (by decide) | exact absurd (by decide) c_0) (fun _ => ?_)
    refine L_aload_n 57 2 dL_refused_57 rfl rfl ?_
    refine L_iconst 58 1 dL_refused_58 (by decide) ?_
    refine L_iload_n 59 0 dL_refused_59 rfl rfl ?_
    refine L_if_ne 60 68 dL_refused_60 (by decide) (fun _ => ?_) (fun c_0 => by first | exact absurd rfl c_0 | exact absurd c_0 (by decide) | exact absurd (by decide) c_0)
    refine L_iconst 68 0 dL_refused_68 (by decide) ?_
    refine L_cT 69 [.ref 109, .int 1, .int 0] 86 516 (Nat.le_refl 1) (t_beginning_2 1 0 V (x_X6_begin_Argument 1 0 V (by unfold wallOK rgI; decide))) dL_refused_69 lk_165 hc_beginning hs_beginning hp_beginning rfl ⟨rfl, rfl⟩ ⟨Nat.le_of_ble_eq_true rfl, Nat.le_of_ble_eq_true rfl⟩ ⟨Nat.le_of_ble_eq_true rfl, Nat.le_of_ble_eq_true rfl⟩ rfl (Nat.le_of_ble_eq_true rfl) ?_
    rintro _ _ ⟨rfl, rfl⟩
    refine L_sipush 72 (-3002) dL_refused_72 (by decide) ?_
    refine L_icmp_ne 75 338 dL_refused_75 (by decide) (fun c_0 => by first | exact absurd rfl c_0 | exact absurd c_0 (by decide) | exact absurd (by decide) c_0) (fun _ => ?_)
    refine L_aload_n 78 2 dL_refused_78 rfl rfl ?_
    refine L_iconst 79 0 dL_refused_79 (by decide) ?_
    refine L_iconst 80 0 dL_refused_80 (by decide) ?_
    refine L_iconst 81 0 dL_refused_81 (by decide) ?_
    refine L_iconst 82 0 dL_refused_82 (by decide) ?_
    refine L_iload_n 83 0 dL_refused_83 rfl rfl ?_
    refine L_if_ne 84 93 dL_refused_84 (by decide) (fun _ => ?_) (fun c_0 => by first | exact absurd rfl c_0 | exact absurd c_0 (by decide) | exact absurd (by decide) c_0)
    refine L_iconst 93 (-1) dL_refused_93 (by decide) ?_
    refine L_cT 94 [.ref 109, .int 0, .int 0, .int 0, .int 0, .int (-1)] 87 522 (Nat.le_refl 1) (t_painting_2 0 0 0 0 (-1) V (x_X6_paint_Argument 0 0 0 0 (-1) V (⟨⟨p00 hS, p00 hS⟩, by unfold ptOK rgI; decide⟩))) dL_refused_94 lk_155 hc_painting hs_painting hp_painting rfl ⟨rfl, rfl⟩ ⟨Nat.le_of_ble_eq_true rfl, Nat.le_of_ble_eq_true rfl⟩ ⟨Nat.le_of_ble_eq_true rfl, Nat.le_of_ble_eq_true rfl⟩ rfl (Nat.le_of_ble_eq_true rfl) ?_
    rintro _ _ ⟨rfl, rfl⟩
    refine L_sipush 97 (-3002) dL_refused_97 (by decide) ?_
    refine L_icmp_ne 100 338 dL_refused_100 (by decide) (fun c_0 => by first | exact absurd rfl c_0 | exact absurd c_0 (by decide) | exact absurd (by decide) c_0) (fun _ => ?_)
    refine L_aload_n 103 2 dL_refused_103 rfl rfl ?_
    refine L_iload_n 104 0 dL_refused_104 rfl rfl ?_
    refine L_if_ne 105 114 dL_refused_105 (by decide) (fun _ => ?_) (fun c_0 => by first | exact absurd rfl c_0 | exact absurd c_0 (by decide) | exact absurd (by decide) c_0)
    refine L_iconst 114 (-1) dL_refused_114 (by decide) ?_
    refine L_iconst 115 0 dL_refused_115 (by decide) ?_
    refine L_cT 116 [.ref 109, .int (-1), .int 0] 88 528 (Nat.le_refl 1) (t_adding_2 (-1) 0 V (x_X6_addLamp_Argument (-1) 0 V (by unfold nlOK rgI; decide))) dL_refused_116 lk_168 hc_adding hs_adding hp_adding rfl ⟨rfl, rfl⟩ ⟨Nat.le_of_ble_eq_true rfl, Nat.le_of_ble_eq_true rfl⟩ ⟨Nat.le_of_ble_eq_true rfl, Nat.le_of_ble_eq_true rfl⟩ rfl (Nat.le_of_ble_eq_true rfl) ?_
    rintro _ _ ⟨rfl, rfl⟩
    refine L_sipush 119 (-3002) dL_refused_119 (by decide) ?_
    refine L_icmp_ne 122 338 dL_refused_122 (by decide) (fun c_0 => by first | exact absurd rfl c_0 | exact absurd c_0 (by decide) | exact absurd (by decide) c_0) (fun _ => ?_)
    refine L_aload_n 125 2 dL_refused_125 rfl rfl ?_
    refine L_iconst 126 0 dL_refused_126 (by decide) ?_
    refine L_iload_n 127 0 dL_refused_127 rfl rfl ?_
    refine L_if_ne 128 137 dL_refused_128 (by decide) (fun _ => ?_) (fun c_0 => by first | exact absurd rfl c_0 | exact absurd c_0 (by decide) | exact absurd (by decide) c_0)
    refine L_iconst 137 (-1) dL_refused_137 (by decide) ?_
    refine L_cT 138 [.ref 109, .int 0, .int (-1)] 89 534 (Nat.le_refl 1) (t_adding_2 0 (-1) V (x_X6_addLamp_Argument 0 (-1) V (by unfold nlOK rgI; decide))) dL_refused_138 lk_168 hc_adding hs_adding hp_adding rfl ⟨rfl, rfl⟩ ⟨Nat.le_of_ble_eq_true rfl, Nat.le_of_ble_eq_true rfl⟩ ⟨Nat.le_of_ble_eq_true rfl, Nat.le_of_ble_eq_true rfl⟩ rfl (Nat.le_of_ble_eq_true rfl) ?_
    rintro _ _ ⟨rfl, rfl⟩
    refine L_sipush 141 (-3002) dL_refused_141 (by decide) ?_
    refine L_icmp_ne 144 338 dL_refused_144 (by decide) (fun c_0 => by first | exact absurd rfl c_0 | exact absurd c_0 (by decide) | exact absurd (by decide) c_0) (fun _ => ?_)
    refine L_aload_n 147 2 dL_refused_147 rfl rfl ?_
    refine L_iload_n 148 0 dL_refused_148 rfl rfl ?_
    refine L_if_ne 149 157 dL_refused_149 (by decide) (fun _ => ?_) (fun c_0 => by first | exact absurd rfl c_0 | exact absurd c_0 (by decide) | exact absurd (by decide) c_0)
    refine L_bipush 157 (-11) dL_refused_157 (by decide) ?_
    refine L_iconst 159 0 dL_refused_159 (by decide) ?_
    refine L_cT 160 [.ref 109, .int (-11), .int 0] 90 540 (Nat.le_refl 1) (t_shifting_2 (-11) 0 V (x_X6_shift_Argument (-11) 0 V (by unfold shOK rgI; decide))) dL_refused_160 lk_171 hc_shifting hs_shifting hp_shifting rfl ⟨rfl, rfl⟩ ⟨Nat.le_of_ble_eq_true rfl, Nat.le_of_ble_eq_true rfl⟩ ⟨Nat.le_of_ble_eq_true rfl, Nat.le_of_ble_eq_true rfl⟩ rfl (Nat.le_of_ble_eq_true rfl) ?_
    rintro _ _ ⟨rfl, rfl⟩
    refine L_sipush 163 (-3002) dL_refused_163 (by decide) ?_
    refine L_icmp_ne 166 338 dL_refused_166 (by decide) (fun c_0 => by first | exact absurd rfl c_0 | exact absurd c_0 (by decide) | exact absurd (by decide) c_0) (fun _ => ?_)
    refine L_aload_n 169 2 dL_refused_169 rfl rfl ?_
    refine L_iconst 170 0 dL_refused_170 (by decide) ?_
    refine L_iload_n 171 0 dL_refused_171 rfl rfl ?_
    refine L_if_ne 172 180 dL_refused_172 (by decide) (fun _ => ?_) (fun c_0 => by first | exact absurd rfl c_0 | exact absurd c_0 (by decide) | exact absurd (by decide) c_0)
    refine L_bipush 180 (-11) dL_refused_180 (by decide) ?_
    refine L_cT 182 [.ref 109, .int 0, .int (-11)] 91 546 (Nat.le_refl 1) (t_shifting_2 0 (-11) V (x_X6_shift_Argument 0 (-11) V (by unfold shOK rgI; decide))) dL_refused_182 lk_171 hc_shifting hs_shifting hp_shifting rfl ⟨rfl, rfl⟩ ⟨Nat.le_of_ble_eq_true rfl, Nat.le_of_ble_eq_true rfl⟩ ⟨Nat.le_of_ble_eq_true rfl, Nat.le_of_ble_eq_true rfl⟩ rfl (Nat.le_of_ble_eq_true rfl) ?_
    rintro _ _ ⟨rfl, rfl⟩
    refine L_sipush 185 (-3002) dL_refused_185 (by decide) ?_
    refine L_icmp_ne 188 338 dL_refused_188 (by decide) (fun c_0 => by first | exact absurd rfl c_0 | exact absurd c_0 (by decide) | exact absurd (by decide) c_0) (fun _ => ?_)
    refine L_aload_n 191 2 dL_refused_191 rfl rfl ?_
    refine L_iload_n 192 0 dL_refused_192 rfl rfl ?_
    refine L_if_ne 193 202 dL_refused_193 (by decide) (fun _ => ?_) (fun c_0 => by first | exact absurd rfl c_0 | exact absurd c_0 (by decide) | exact absurd (by decide) c_0)
    refine L_iconst 202 0 dL_refused_202 (by decide) ?_
    refine L_cT 203 [.ref 109, .int 0] 92 552 (Nat.le_refl 1) (t_burning_2 0 V (x_X6_burn_Argument 0 V (by unfold rgI; decide))) dL_refused_203 lk_174 hc_burning hs_burning hp_burning rfl ⟨rfl, rfl⟩ ⟨Nat.le_of_ble_eq_true rfl, Nat.le_of_ble_eq_true rfl⟩ ⟨Nat.le_of_ble_eq_true rfl, Nat.le_of_ble_eq_true rfl⟩ rfl (Nat.le_of_ble_eq_true rfl) ?_
    rintro _ _ ⟨rfl, rfl⟩
    refine L_sipush 206 (-3002) dL_refused_206 (by decide) ?_
    refine L_icmp_ne 209 338 dL_refused_209 (by decide) (fun c_0 => by first | exact absurd rfl c_0 | exact absurd c_0 (by decide) | exact absurd (by decide) c_0) (fun _ => ?_)
    refine L_aload_n 212 2 dL_refused_212 rfl rfl ?_
    refine L_iconst 213 0 dL_refused_213 (by decide) ?_
    refine L_iconst 214 0 dL_refused_214 (by decide) ?_
    refine L_iload_n 215 0 dL_refused_215 rfl rfl ?_
    refine L_if_ne 216 224 dL_refused_216 (by decide) (fun _ => ?_) (fun c_0 => by first | exact absurd rfl c_0 | exact absurd c_0 (by decide) | exact absurd (by decide) c_0)
    refine L_iconst 224 (-1) dL_refused_224 (by decide) ?_
    refine L_cT 225 [.ref 109, .int 0, .int 0, .int (-1)] 93 558 (Nat.le_refl 1) (t_placing_2 0 0 (-1) V (x_X6_place_Argument 0 0 (-1) V (⟨p00 hS, by unfold rgI; decide⟩))) dL_refused_225 lk_110 hc_placing hs_placing hp_placing rfl ⟨rfl, rfl⟩ ⟨Nat.le_of_ble_eq_true rfl, Nat.le_of_ble_eq_true rfl⟩ ⟨Nat.le_of_ble_eq_true rfl, Nat.le_of_ble_eq_true rfl⟩ rfl (Nat.le_of_ble_eq_true rfl) ?_
    rintro _ _ ⟨rfl, rfl⟩
    refine L_sipush 228 (-3002) dL_refused_228 (by decide) ?_
    refine L_icmp_ne 231 338 dL_refused_231 (by decide) (fun c_0 => by first | exact absurd rfl c_0 | exact absurd c_0 (by decide) | exact absurd (by decide) c_0) (fun _ => ?_)
    refine L_aload_n 234 2 dL_refused_234 rfl rfl ?_
    refine L_iload_n 235 0 dL_refused_235 rfl rfl ?_
    refine L_if_ne 236 244 dL_refused_236 (by decide) (fun _ => ?_) (fun c_0 => by first | exact absurd rfl c_0 | exact absurd c_0 (by decide) | exact absurd (by decide) c_0)
    refine L_iconst 244 (-1) dL_refused_244 (by decide) ?_
    refine L_cT 245 [.ref 109, .int (-1)] 94 564 (Nat.le_refl 1) (t_all_2 (-1) V (x_X6_whole_Argument (-1) V (by unfold rgI; decide))) dL_refused_245 lk_92 hc_all hs_all hp_all rfl ⟨rfl, rfl⟩ ⟨Nat.le_of_ble_eq_true rfl, Nat.le_of_ble_eq_true rfl⟩ ⟨Nat.le_of_ble_eq_true rfl, Nat.le_of_ble_eq_true rfl⟩ rfl (Nat.le_of_ble_eq_true rfl) ?_
    rintro _ _ ⟨rfl, rfl⟩
    refine L_sipush 248 (-3002) dL_refused_248 (by decide) ?_
    refine L_icmp_ne 251 338 dL_refused_251 (by decide) (fun c_0 => by first | exact absurd rfl c_0 | exact absurd c_0 (by decide) | exact absurd (by decide) c_0) (fun _ => ?_)
    refine L_aload_n 254 2 dL_refused_254 rfl rfl ?_
    refine L_iload_n 255 0 dL_refused_255 rfl rfl ?_
    refine L_if_ne 256 264 dL_refused_256 (by decide) (fun _ => ?_) (fun c_0 => by first | exact absurd rfl c_0 | exact absurd c_0 (by decide) | exact absurd (by decide) c_0)
    refine L_bipush 264 (-11) dL_refused_264 (by decide) ?_
    refine L_iconst 266 0 dL_refused_266 (by decide) ?_
    refine L_cT 267 [.ref 109, .int (-11), .int 0] 95 570 (Nat.le_refl 1) (t_wrongBy_2 (-11) 0 V (x_X6_wrongShifted_Argument (-11) 0 V (by unfold shOK rgI; decide))) dL_refused_267 lk_177 hc_wrongBy hs_wrongBy hp_wrongBy rfl ⟨rfl, rfl⟩ ⟨Nat.le_of_ble_eq_true rfl, Nat.le_of_ble_eq_true rfl⟩ ⟨Nat.le_of_ble_eq_true rfl, Nat.le_of_ble_eq_true rfl⟩ rfl (Nat.le_of_ble_eq_true rfl) ?_
    rintro _ _ ⟨rfl, rfl⟩
    refine L_sipush 270 (-3002) dL_refused_270 (by decide) ?_
    refine L_icmp_ne 273 338 dL_refused_273 (by decide) (fun c_0 => by first | exact absurd rfl c_0 | exact absurd c_0 (by decide) | exact absurd (by decide) c_0) (fun _ => ?_)
    refine L_aload_n 276 2 dL_refused_276 rfl rfl ?_
    refine L_iconst 277 0 dL_refused_277 (by decide) ?_
    refine L_iload_n 278 0 dL_refused_278 rfl rfl ?_
    refine L_if_ne 279 287 dL_refused_279 (by decide) (fun _ => ?_) (fun c_0 => by first | exact absurd rfl c_0 | exact absurd c_0 (by decide) | exact absurd (by decide) c_0)
    refine L_bipush 287 (-11) dL_refused_287 (by decide) ?_
    refine L_cT 289 [.ref 109, .int 0, .int (-11)] 96 576 (Nat.le_refl 1) (t_wrongBy_2 0 (-11) V (x_X6_wrongShifted_Argument 0 (-11) V (by unfold shOK rgI; decide))) dL_refused_289 lk_177 hc_wrongBy hs_wrongBy hp_wrongBy rfl ⟨rfl, rfl⟩ ⟨Nat.le_of_ble_eq_true rfl, Nat.le_of_ble_eq_true rfl⟩ ⟨Nat.le_of_ble_eq_true rfl, Nat.le_of_ble_eq_true rfl⟩ rfl (Nat.le_of_ble_eq_true rfl) ?_
    rintro _ _ ⟨rfl, rfl⟩
    refine L_sipush 292 (-3002) dL_refused_292 (by decide) ?_
    refine L_icmp_ne 295 338 dL_refused_295 (by decide) (fun c_0 => by first | exact absurd rfl c_0 | exact absurd c_0 (by decide) | exact absurd (by decide) c_0) (fun _ => ?_)
    refine L_aload_n 298 2 dL_refused_298 rfl rfl ?_
    refine L_iload_n 299 0 dL_refused_299 rfl rfl ?_
    refine L_if_ne 300 307 dL_refused_300 (by decide) (fun _ => ?_) (fun c_0 => by first | exact absurd rfl c_0 | exact absurd c_0 (by decide) | exact absurd (by decide) c_0)
    refine L_iconst 307 (-1) dL_refused_307 (by decide) ?_
    refine L_cT 308 [.ref 109, .int (-1)] 97 582 (Nat.le_refl 1) (t_besting_2 (-1) V (x_X6_bestShift_Argument (-1) V (by unfold rgI; decide))) dL_refused_308 lk_180 hc_besting hs_besting hp_besting rfl ⟨rfl, rfl⟩ ⟨Nat.le_of_ble_eq_true rfl, Nat.le_of_ble_eq_true rfl⟩ ⟨Nat.le_of_ble_eq_true rfl, Nat.le_of_ble_eq_true rfl⟩ rfl (Nat.le_of_ble_eq_true rfl) ?_
    rintro _ _ ⟨rfl, rfl⟩
    refine L_sipush 311 (-3002) dL_refused_311 (by decide) ?_
    refine L_icmp_ne 314 338 dL_refused_314 (by decide) (fun c_0 => by first | exact absurd rfl c_0 | exact absurd c_0 (by decide) | exact absurd (by decide) c_0) (fun _ => ?_)
    refine L_aload_n 317 2 dL_refused_317 rfl rfl ?_
    refine L_iload_n 318 0 dL_refused_318 rfl rfl ?_
    refine L_if_ne 319 328 dL_refused_319 (by decide) (fun _ => ?_) (fun c_0 => by first | exact absurd rfl c_0 | exact absurd c_0 (by decide) | exact absurd (by decide) c_0)
    refine L_iconst 328 (-1) dL_refused_328 (by decide) ?_
    refine L_cT 329 [.ref 109, .int (-1)] 98 588 (Nat.le_refl 1) (t_typing_2 (-1) V (x_X6_type_Argument (-1) V (by unfold rgI; decide))) dL_refused_329 lk_183 hc_typing hs_typing hp_typing rfl ⟨rfl, rfl⟩ ⟨Nat.le_of_ble_eq_true rfl, Nat.le_of_ble_eq_true rfl⟩ ⟨Nat.le_of_ble_eq_true rfl, Nat.le_of_ble_eq_true rfl⟩ rfl (Nat.le_of_ble_eq_true rfl) ?_
    rintro _ _ ⟨rfl, rfl⟩
    refine L_sipush 332 (-3002) dL_refused_332 (by decide) ?_
    refine L_icmp_eq 335 340 dL_refused_335 (by decide) (fun _ => ?_) (fun c_0 => by first | exact absurd rfl c_0 | exact absurd c_0 (by decide) | exact absurd (by decide) c_0)
    refine L_iinc 340 0 2 [(3, .int 2), (1, .long (dgV S lc c r (nI L) (nI cn))), (0, .ref 109)] dL_refused_340 rfl (by decide) (by decide) rfl ?_
    refine L_goto 343 31 dL_refused_343 (by decide) ?_
    refine L_iload_n 31 0 dL_refused_31 rfl rfl ?_
    refine L_iconst 32 2 dL_refused_32 (by decide) ?_
    refine L_icmp_ge 33 346 dL_refused_33 (by decide) (fun _ => ?_) (fun c_0 => by first | exact absurd rfl c_0 | exact absurd c_0 (by decide) | exact absurd (by decide) c_0)
    refine L_aload_n 346 2 dL_refused_346 rfl rfl ?_
    refine L_iconst 347 0 dL_refused_347 (by decide) ?_
    refine L_cW 348 [.ref 109, .int (nI 0)] (Nat.le_refl 1) (w_all (nI 0) _ _ (o_whole hS (by decide))) dL_refused_348 lk_92 hc_all hs_all hp_all rfl ⟨rfl, rfl⟩ ⟨Nat.le_of_ble_eq_true rfl, Nat.le_of_ble_eq_true rfl⟩ ⟨Nat.le_of_ble_eq_true rfl, Nat.le_of_ble_eq_true rfl⟩ rfl (Nat.le_of_ble_eq_true rfl) ?_
    rintro _ V ⟨rfl, hS⟩
    rw [wh0 hDM]
    refine L_iconst 351 1 dL_refused_351 (by decide) ?_
    have J370_2 : ∀ V : Mm, ST V S c r lc T cn L b → XL (.inl (qI (fun v V2 => 1 = v ∧ ST V2 S c r lc T cn L b))) none 1 mL_refused [] 99 594 370 [(3, .int 2), (1, .long (dgV S lc c r (nI L) (nI cn))), (0, .ref 109)] [] (V, f) := by
      intro V hS
      refine L_aload_n 370 2 dL_refused_370 rfl rfl ?_
      refine L_iconst 371 1 dL_refused_371 (by decide) ?_
      refine L_cW 372 [.ref 109, .int (nI 1)] (Nat.le_refl 1) (w_all (nI 1) _ _ (o_whole hS (by decide))) dL_refused_372 lk_92 hc_all hs_all hp_all rfl ⟨rfl, rfl⟩ ⟨Nat.le_of_ble_eq_true rfl, Nat.le_of_ble_eq_true rfl⟩ ⟨Nat.le_of_ble_eq_true rfl, Nat.le_of_ble_eq_true rfl⟩ rfl (Nat.le_of_ble_eq_true rfl) ?_
      rintro _ V ⟨rfl, hS⟩
      rw [wh1 hDM]
      refine L_iconst 375 1 dL_refused_375 (by decide) ?_
      have J396_3 : ∀ V : Mm, ST V S c r lc T cn L b → XL (.inl (qI (fun v V2 => 1 = v ∧ ST V2 S c r lc T cn L b))) none 1 mL_refused [] 100 600 396 [(3, .int 2), (1, .long (dgV S lc c r (nI L) (nI cn))), (0, .ref 109)] [] (V, f) := by
        intro V hS
        refine L_aload_n 396 2 dL_refused_396 rfl rfl ?_
        refine L_iconst 397 (-1) dL_refused_397 (by decide) ?_
        refine L_cT 398 [.ref 109, .int (-1)] 101 606 (Nat.le_refl 1) (t_wrongAt_2 (-1) V (x_X6_wrong_Argument (-1) V (by decide))) dL_refused_398 lk_186 hc_wrongAt hs_wrongAt hp_wrongAt rfl ⟨rfl, rfl⟩ ⟨Nat.le_of_ble_eq_true rfl, Nat.le_of_ble_eq_true rfl⟩ ⟨Nat.le_of_ble_eq_true rfl, Nat.le_of_ble_eq_true rfl⟩ rfl (Nat.le_of_ble_eq_true rfl) ?_
        rintro _ _ ⟨rfl, rfl⟩
        refine L_sipush 401 (-3002) dL_refused_401 (by decide) ?_
        refine L_icmp_ne 404 420 dL_refused_404 (by decide) (fun c_0 => by first | exact absurd rfl c_0 | exact absurd c_0 (by decide) | exact absurd (by decide) c_0) (fun _ => ?_)
        refine L_aload_n 407 2 dL_refused_407 rfl rfl ?_
        refine L_cCl 408 (Nat.le_refl 1) (o_digest hS) dL_refused_408 lk_127 wm_X6_digest hq_digest rfl ⟨rfl, rfl⟩ ⟨Nat.le_of_ble_eq_true rfl, Nat.le_of_ble_eq_true rfl⟩ ⟨Nat.le_of_ble_eq_true rfl, Nat.le_of_ble_eq_true rfl⟩ rfl (Nat.le_of_ble_eq_true rfl) ?_
        rintro _ V ⟨rfl, hS⟩
        refine L_lload_n 411 1 dL_refused_411 rfl rfl ?_
        refine L_lcmp 412 dL_refused_412 ?_
        rw [lg_cmp_rf]
        refine L_if_ne 413 420 dL_refused_413 (by decide) (fun c_0 => by first | exact absurd rfl c_0 | exact absurd c_0 (by decide) | exact absurd (by decide) c_0) (fun _ => ?_)
        refine L_iconst 416 1 dL_refused_416 (by decide) ?_
        refine L_goto 417 421 dL_refused_417 (by decide) ?_
        exact L_iret 421 dL_refused_421 rfl rfl ⟨Nat.le_of_ble_eq_true rfl, Nat.le_of_ble_eq_true rfl⟩ ⟨_, rfl, rfl, hS⟩
      refine L_icmp_le 376 396 dL_refused_376 (by decide) (fun c_b => ?_) (fun c_b => ?_)
      · skip
        exact L_wid (Nat.le_of_ble_eq_true rfl) (Nat.le_of_ble_eq_true rfl) (J396_3 V hS)
      · have hr : 1 < r := (nI_ltI (a := 1) (by decide) (by omega)).mp (Int32.not_le.mp c_b)
        refine L_aload_n 379 2 dL_refused_379 rfl rfl ?_
        refine L_iconst 380 0 dL_refused_380 (by decide) ?_
        refine L_iconst 381 1 dL_refused_381 (by decide) ?_
        refine L_iconst 382 0 dL_refused_382 (by decide) ?_
        refine L_iconst 383 0 dL_refused_383 (by decide) ?_
        refine L_iconst 384 0 dL_refused_384 (by decide) ?_
        refine L_cT 385 [.ref 109, .int 0, .int 1, .int 0, .int 0, .int 0] 100 600 (Nat.le_refl 1) (t_painting_2 0 1 0 0 0 V (x_X6_paint_Argument 0 1 0 0 0 V (⟨⟨p01 hS hr, p00 hS⟩, fun h => absurd h.2.1 (by decide)⟩))) dL_refused_385 lk_155 hc_painting hs_painting hp_painting rfl ⟨rfl, rfl⟩ ⟨Nat.le_of_ble_eq_true rfl, Nat.le_of_ble_eq_true rfl⟩ ⟨Nat.le_of_ble_eq_true rfl, Nat.le_of_ble_eq_true rfl⟩ rfl (Nat.le_of_ble_eq_true rfl) ?_
        rintro _ _ ⟨rfl, rfl⟩
        refine L_sipush 388 (-3002) dL_refused_388 (by decide) ?_
        refine L_icmp_eq 391 396 dL_refused_391 (by decide) (fun _ => ?_) (fun c_0 => by first | exact absurd rfl c_0 | exact absurd c_0 (by decide) | exact absurd (by decide) c_0)
        exact L_wid (Nat.le_of_ble_eq_true rfl) (Nat.le_of_ble_eq_true rfl) (J396_3 V hS)
    refine L_icmp_le 352 370 dL_refused_352 (by decide) (fun c_b => ?_) (fun c_b => ?_)
    · skip
      exact L_wid (Nat.le_of_ble_eq_true rfl) (Nat.le_of_ble_eq_true rfl) (J370_2 V hS)
    · have hc : 1 < c := (nI_ltI (a := 1) (by decide) (by omega)).mp (Int32.not_le.mp c_b)
      refine L_aload_n 355 2 dL_refused_355 rfl rfl ?_
      refine L_iconst 356 1 dL_refused_356 (by decide) ?_
      refine L_iconst 357 0 dL_refused_357 (by decide) ?_
      refine L_iconst 358 0 dL_refused_358 (by decide) ?_
      refine L_iconst 359 0 dL_refused_359 (by decide) ?_
      refine L_iconst 360 0 dL_refused_360 (by decide) ?_
      refine L_cT 361 [.ref 109, .int 1, .int 0, .int 0, .int 0, .int 0] 99 594 (Nat.le_refl 1) (t_painting_2 1 0 0 0 0 V (x_X6_paint_Argument 1 0 0 0 0 V (⟨⟨p10 hS hc, p00 hS⟩, fun h => absurd h.1 (by decide)⟩))) dL_refused_361 lk_155 hc_painting hs_painting hp_painting rfl ⟨rfl, rfl⟩ ⟨Nat.le_of_ble_eq_true rfl, Nat.le_of_ble_eq_true rfl⟩ ⟨Nat.le_of_ble_eq_true rfl, Nat.le_of_ble_eq_true rfl⟩ rfl (Nat.le_of_ble_eq_true rfl) ?_
      rintro _ _ ⟨rfl, rfl⟩
      refine L_sipush 364 (-3002) dL_refused_364 (by decide) ?_
      refine L_icmp_ne 367 394 dL_refused_367 (by decide) (fun c_0 => by first | exact absurd rfl c_0 | exact absurd c_0 (by decide) | exact absurd (by decide) c_0) (fun _ => ?_)
      exact L_wid (Nat.le_of_ble_eq_true rfl) (Nat.le_of_ble_eq_true rfl) (J370_2 V hS)
  refine L_if_le 17 29 dL_refused_17 (by decide) (fun c_b => ?_) (fun c_b => ?_)
  · skip
    exact L_wid (Nat.le_of_ble_eq_true rfl) (Nat.le_of_ble_eq_true rfl) (J29_1 V hS)
  · have hl : 0 < lc := (nI_ltI (a := 0) (by decide) (by omega)).mp (Int32.not_le.mp c_b)
    refine L_aload_n 20 1 dL_refused_20 rfl rfl ?_
    refine L_cT 21 [.ref 109] 70 420 (Nat.le_refl 1) (w_refusesLamps hS hl) dL_refused_21 lk_162 hc_refusesLamps hs_refusesLamps hp_refusesLamps rfl ⟨rfl, rfl⟩ ⟨Nat.le_of_ble_eq_true rfl, Nat.le_of_ble_eq_true rfl⟩ ⟨Nat.le_of_ble_eq_true rfl, Nat.le_of_ble_eq_true rfl⟩ rfl (Nat.le_of_ble_eq_true rfl) ?_
    rintro _ V ⟨rfl, hS⟩
    refine L_if_ne 24 29 dL_refused_24 (by decide) (fun _ => ?_) (fun c_0 => by first | exact absurd rfl c_0 | exact absurd c_0 (by decide) | exact absurd (by decide) c_0)
    exact L_wid (Nat.le_of_ble_eq_true rfl) (Nat.le_of_ble_eq_true rfl) (J29_1 V hS)
