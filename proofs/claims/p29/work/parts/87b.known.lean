set_option maxHeartbeats 8000000 in
set_option maxRecDepth 100000 in
theorem a_known : EvA mL_known none [] (fun r => ∃ u : Int32, r = some (.int u) ∧ 1 = u) := by
  refine EvA_of (by decide +kernel) rfl (fun _ => rfl) (fun _ => Nat.le_of_ble_eq_true rfl) (ls := []) (fun ω => ?_)
  refine L_newC 0 dL_known_0 dL_known_3 dL_known_4 kz_c lk_191 ⟨Nat.le_of_ble_eq_true rfl, Nat.le_of_ble_eq_true rfl⟩ ⟨Nat.le_of_ble_eq_true rfl, Nat.le_of_ble_eq_true rfl⟩ (fun _ _ => rfl) (fun f => ?_)
  have hS := ST_lit (ST00 (fun _ => V0)) (S2 := KS0) (RS_dec ⟨by decide +kernel, by decide +kernel⟩)
  generalize (fun _ => V0 : Nat → Mm) = T at hS
  refine L_astore_n 7 [(0, .ref 109)] dL_known_7 rfl (by decide) rfl ?_
  refine L_aload_n 8 0 dL_known_8 rfl rfl ?_
  refine L_cT 9 [.ref 109] 211 7608 (Nat.le_refl 1) (w_refused hS) dL_known_9 lk_294 hc_refused hs_refused hp_refused rfl ⟨rfl, rfl⟩ ⟨Nat.le_of_ble_eq_true rfl, Nat.le_of_ble_eq_true rfl⟩ ⟨Nat.le_of_ble_eq_true rfl, Nat.le_of_ble_eq_true rfl⟩ rfl (Nat.le_of_ble_eq_true rfl) ?_
  rintro _ V ⟨rfl, hS⟩
  refine L_if_eq 12 194 dL_known_12 (by decide) (fun c_0 => by first | exact absurd rfl c_0 | exact absurd c_0 (by decide) | exact absurd (by decide) c_0) (fun _ => ?_)
  refine L_aload_n 15 0 dL_known_15 rfl rfl ?_
  refine L_iconst 16 0 dL_known_16 (by decide) ?_
  refine L_cW 17 [.ref 109, .int (nI 0)] (Nat.le_refl 1) (w_isDigest hS) dL_known_17 lk_297 hc_isDigest hs_isDigest hp_isDigest rfl ⟨rfl, rfl⟩ ⟨Nat.le_of_ble_eq_true rfl, Nat.le_of_ble_eq_true rfl⟩ ⟨Nat.le_of_ble_eq_true rfl, Nat.le_of_ble_eq_true rfl⟩ rfl (Nat.le_of_ble_eq_true rfl) ?_
  rintro _ V ⟨rfl, hS⟩
  refine L_if_eq 20 194 dL_known_20 (by decide) (fun c_0 => by first | exact absurd rfl c_0 | exact absurd c_0 (by decide) | exact absurd (by decide) c_0) (fun _ => ?_)
  refine L_aload_n 23 0 dL_known_23 rfl rfl ?_
  refine L_cC 24 (Nat.le_refl 1) (o_dearestLamp hS) dL_known_24 lk_301 wm_X6_dearestLamp hq_dearestLamp rfl ⟨rfl, rfl⟩ ⟨Nat.le_of_ble_eq_true rfl, Nat.le_of_ble_eq_true rfl⟩ ⟨Nat.le_of_ble_eq_true rfl, Nat.le_of_ble_eq_true rfl⟩ rfl (Nat.le_of_ble_eq_true rfl) ?_
  rintro _ V ⟨rfl, hS⟩
  rw [kq_1]
  refine L_sipush 27 (-1000) dL_known_27 (by decide) ?_
  refine L_icmp_ne 30 194 dL_known_30 (by decide) (fun c_0 => by first | exact absurd rfl c_0 | exact absurd c_0 (by decide) | exact absurd (by decide) c_0) (fun _ => ?_)
  refine L_aload_n 33 0 dL_known_33 rfl rfl ?_
  refine L_bipush 34 6 dL_known_34 (by decide) ?_
  refine L_cW 36 [.ref 109, .int (nI 6)] (Nat.le_refl 1) (w_all (nI 6) _ _ (o_whole hS (by decide))) dL_known_36 lk_92 hc_all hs_all hp_all rfl ⟨rfl, rfl⟩ ⟨Nat.le_of_ble_eq_true rfl, Nat.le_of_ble_eq_true rfl⟩ ⟨Nat.le_of_ble_eq_true rfl, Nat.le_of_ble_eq_true rfl⟩ rfl (Nat.le_of_ble_eq_true rfl) ?_
  rintro _ V ⟨rfl, hS⟩
  rw [kq_2]
  refine L_bipush 39 96 dL_known_39 (by decide) ?_
  refine L_icmp_ne 41 194 dL_known_41 (by decide) (fun c_0 => by first | exact absurd rfl c_0 | exact absurd c_0 (by decide) | exact absurd (by decide) c_0) (fun _ => ?_)
  refine L_aload_n 44 0 dL_known_44 rfl rfl ?_
  refine L_iconst 45 3 dL_known_45 (by decide) ?_
  refine L_cW 46 [.ref 109, .int 3] (Nat.le_refl 1) (w_burning 3 _ _ (o_burn hS ⟨by decide, by decide⟩)) dL_known_46 lk_174 hc_burning hs_burning hp_burning rfl ⟨rfl, rfl⟩ ⟨Nat.le_of_ble_eq_true rfl, Nat.le_of_ble_eq_true rfl⟩ ⟨Nat.le_of_ble_eq_true rfl, Nat.le_of_ble_eq_true rfl⟩ rfl (Nat.le_of_ble_eq_true rfl) ?_
  rintro _ V ⟨rfl, hS⟩
  rw [kq_3]
  replace hS : ST V KS1 12 8 0 (pT KS0 T) 1 0 (fun _ => 0) := ST_lit hS ls_1
  refine L_if_ne 49 194 dL_known_49 (by decide) (fun c_0 => by first | exact absurd rfl c_0 | exact absurd c_0 (by decide) | exact absurd (by decide) c_0) (fun _ => ?_)
  refine L_aload_n 52 0 dL_known_52 rfl rfl ?_
  refine L_bipush 53 12 dL_known_53 (by decide) ?_
  refine L_cW 55 [.ref 109, .int (nI 12)] (Nat.le_refl 1) (w_all (nI 12) _ _ (o_whole hS (by decide))) dL_known_55 lk_92 hc_all hs_all hp_all rfl ⟨rfl, rfl⟩ ⟨Nat.le_of_ble_eq_true rfl, Nat.le_of_ble_eq_true rfl⟩ ⟨Nat.le_of_ble_eq_true rfl, Nat.le_of_ble_eq_true rfl⟩ rfl (Nat.le_of_ble_eq_true rfl) ?_
  rintro _ V ⟨rfl, hS⟩
  rw [kq_4]
  refine L_iconst 58 3 dL_known_58 (by decide) ?_
  refine L_icmp_ne 59 194 dL_known_59 (by decide) (fun c_0 => by first | exact absurd rfl c_0 | exact absurd c_0 (by decide) | exact absurd (by decide) c_0) (fun _ => ?_)
  refine L_aload_n 62 0 dL_known_62 rfl rfl ?_
  refine L_iconst 63 0 dL_known_63 (by decide) ?_
  refine L_iconst 64 0 dL_known_64 (by decide) ?_
  refine L_iconst 65 1 dL_known_65 (by decide) ?_
  refine L_iconst 66 0 dL_known_66 (by decide) ?_
  refine L_bipush 67 100 dL_known_67 (by decide) ?_
  generalize hT1 : pT KS0 T = T at hS
  refine L_cW 69 [.ref 109, .int (nI 0), .int (nI 0), .int (nI 1), .int (nI 0), .int 100] (Nat.le_refl 1) (w_painting (nI 0) (nI 0) (nI 1) (nI 0) 100 _ _ (o_paint hS (by decide) (by decide) (by decide) (by decide) ⟨by decide, by decide⟩)) dL_known_69 lk_155 hc_painting hs_painting hp_painting rfl ⟨rfl, rfl⟩ ⟨Nat.le_of_ble_eq_true rfl, Nat.le_of_ble_eq_true rfl⟩ ⟨Nat.le_of_ble_eq_true rfl, Nat.le_of_ble_eq_true rfl⟩ rfl (Nat.le_of_ble_eq_true rfl) ?_
  rintro _ V ⟨rfl, hS⟩
  rw [kq_5]
  replace hS : ST V KS2 12 8 0 (pT KS1 T) 2 0 (fun _ => 0) := ST_lit hS ls_2
  refine L_iconst 72 2 dL_known_72 (by decide) ?_
  refine L_icmp_ne 73 194 dL_known_73 (by decide) (fun c_0 => by first | exact absurd rfl c_0 | exact absurd c_0 (by decide) | exact absurd (by decide) c_0) (fun _ => ?_)
  refine L_aload_n 76 0 dL_known_76 rfl rfl ?_
  refine L_iconst 77 0 dL_known_77 (by decide) ?_
  refine L_iconst 78 0 dL_known_78 (by decide) ?_
  refine L_iconst 79 1 dL_known_79 (by decide) ?_
  refine L_iconst 80 0 dL_known_80 (by decide) ?_
  refine L_bipush 81 100 dL_known_81 (by decide) ?_
  generalize hT2 : pT KS1 T = T at hS
  refine L_cW 83 [.ref 109, .int (nI 0), .int (nI 0), .int (nI 1), .int (nI 0), .int 100] (Nat.le_refl 1) (w_painting (nI 0) (nI 0) (nI 1) (nI 0) 100 _ _ (o_paint hS (by decide) (by decide) (by decide) (by decide) ⟨by decide, by decide⟩)) dL_known_83 lk_155 hc_painting hs_painting hp_painting rfl ⟨rfl, rfl⟩ ⟨Nat.le_of_ble_eq_true rfl, Nat.le_of_ble_eq_true rfl⟩ ⟨Nat.le_of_ble_eq_true rfl, Nat.le_of_ble_eq_true rfl⟩ rfl (Nat.le_of_ble_eq_true rfl) ?_
  rintro _ V ⟨rfl, hS⟩
  rw [kq_6]
  replace hS : ST V KS3 12 8 0 (pT KS2 T) 3 0 (fun _ => 0) := ST_lit hS ls_3
  refine L_if_ne 86 194 dL_known_86 (by decide) (fun c_0 => by first | exact absurd rfl c_0 | exact absurd c_0 (by decide) | exact absurd (by decide) c_0) (fun _ => ?_)
  refine L_aload_n 89 0 dL_known_89 rfl rfl ?_
  refine L_bipush 90 7 dL_known_90 (by decide) ?_
  refine L_cW 92 [.ref 109, .int (nI 7)] (Nat.le_refl 1) (w_all (nI 7) _ _ (o_whole hS (by decide))) dL_known_92 lk_92 hc_all hs_all hp_all rfl ⟨rfl, rfl⟩ ⟨Nat.le_of_ble_eq_true rfl, Nat.le_of_ble_eq_true rfl⟩ ⟨Nat.le_of_ble_eq_true rfl, Nat.le_of_ble_eq_true rfl⟩ rfl (Nat.le_of_ble_eq_true rfl) ?_
  rintro _ V ⟨rfl, hS⟩
  rw [kq_7]
  refine L_iconst 95 2 dL_known_95 (by decide) ?_
  refine L_icmp_ne 96 194 dL_known_96 (by decide) (fun c_0 => by first | exact absurd rfl c_0 | exact absurd c_0 (by decide) | exact absurd (by decide) c_0) (fun _ => ?_)
  refine L_aload_n 99 0 dL_known_99 rfl rfl ?_
  refine L_bipush 100 10 dL_known_100 (by decide) ?_
  refine L_cW 102 [.ref 109, .int (nI 10)] (Nat.le_refl 1) (w_all (nI 10) _ _ (o_whole hS (by decide))) dL_known_102 lk_92 hc_all hs_all hp_all rfl ⟨rfl, rfl⟩ ⟨Nat.le_of_ble_eq_true rfl, Nat.le_of_ble_eq_true rfl⟩ ⟨Nat.le_of_ble_eq_true rfl, Nat.le_of_ble_eq_true rfl⟩ rfl (Nat.le_of_ble_eq_true rfl) ?_
  rintro _ V ⟨rfl, hS⟩
  rw [kq_8]
  refine L_sipush 105 200 dL_known_105 (by decide) ?_
  refine L_icmp_ne 108 194 dL_known_108 (by decide) (fun c_0 => by first | exact absurd rfl c_0 | exact absurd c_0 (by decide) | exact absurd (by decide) c_0) (fun _ => ?_)
  refine L_aload_n 111 0 dL_known_111 rfl rfl ?_
  refine L_iconst 112 0 dL_known_112 (by decide) ?_
  refine L_cW 113 [.ref 109, .int 0] (Nat.le_refl 1) (w_wrongAt 0 _ _ (o_wrong hS (by decide))) dL_known_113 lk_186 hc_wrongAt hs_wrongAt hp_wrongAt rfl ⟨rfl, rfl⟩ ⟨Nat.le_of_ble_eq_true rfl, Nat.le_of_ble_eq_true rfl⟩ ⟨Nat.le_of_ble_eq_true rfl, Nat.le_of_ble_eq_true rfl⟩ rfl (Nat.le_of_ble_eq_true rfl) ?_
  rintro _ V ⟨rfl, hS⟩
  rw [kq_9]
  refine L_if_ne 116 194 dL_known_116 (by decide) (fun c_0 => by first | exact absurd rfl c_0 | exact absurd c_0 (by decide) | exact absurd (by decide) c_0) (fun _ => ?_)
  refine L_aload_n 119 0 dL_known_119 rfl rfl ?_
  refine L_iconst 120 1 dL_known_120 (by decide) ?_
  refine L_cW 121 [.ref 109, .int 1] (Nat.le_refl 1) (w_wrongAt 1 _ _ (o_wrong hS (by decide))) dL_known_121 lk_186 hc_wrongAt hs_wrongAt hp_wrongAt rfl ⟨rfl, rfl⟩ ⟨Nat.le_of_ble_eq_true rfl, Nat.le_of_ble_eq_true rfl⟩ ⟨Nat.le_of_ble_eq_true rfl, Nat.le_of_ble_eq_true rfl⟩ rfl (Nat.le_of_ble_eq_true rfl) ?_
  rintro _ V ⟨rfl, hS⟩
  rw [kq_10]
  refine L_iconst 124 1 dL_known_124 (by decide) ?_
  refine L_icmp_ne 125 194 dL_known_125 (by decide) (fun c_0 => by first | exact absurd rfl c_0 | exact absurd c_0 (by decide) | exact absurd (by decide) c_0) (fun _ => ?_)
  refine L_aload_n 128 0 dL_known_128 rfl rfl ?_
  refine L_iconst 129 2 dL_known_129 (by decide) ?_
  refine L_cW 130 [.ref 109, .int 2] (Nat.le_refl 1) (w_wrongAt 2 _ _ (o_wrong hS (by decide))) dL_known_130 lk_186 hc_wrongAt hs_wrongAt hp_wrongAt rfl ⟨rfl, rfl⟩ ⟨Nat.le_of_ble_eq_true rfl, Nat.le_of_ble_eq_true rfl⟩ ⟨Nat.le_of_ble_eq_true rfl, Nat.le_of_ble_eq_true rfl⟩ rfl (Nat.le_of_ble_eq_true rfl) ?_
  rintro _ V ⟨rfl, hS⟩
  rw [kq_11]
  refine L_sipush 133 (-1000) dL_known_133 (by decide) ?_
  refine L_icmp_ne 136 194 dL_known_136 (by decide) (fun c_0 => by first | exact absurd rfl c_0 | exact absurd c_0 (by decide) | exact absurd (by decide) c_0) (fun _ => ?_)
  refine L_aload_n 139 0 dL_known_139 rfl rfl ?_
  refine L_sipush 140 200 dL_known_140 (by decide) ?_
  refine L_iconst 143 0 dL_known_143 (by decide) ?_
  generalize hT3 : pT KS2 T = T at hS
  refine L_cW 144 [.ref 109, .int 200, .int 0] (Nat.le_refl 1) (w_adding 200 0 _ _ (o_addLamp hS ⟨⟨by decide, by decide⟩, ⟨by decide, by decide⟩⟩ (by decide))) dL_known_144 lk_168 hc_adding hs_adding hp_adding rfl ⟨rfl, rfl⟩ ⟨Nat.le_of_ble_eq_true rfl, Nat.le_of_ble_eq_true rfl⟩ ⟨Nat.le_of_ble_eq_true rfl, Nat.le_of_ble_eq_true rfl⟩ rfl (Nat.le_of_ble_eq_true rfl) ?_
  rintro _ V ⟨rfl, hS⟩
  rw [kq_12]
  replace hS : ST V KS4 12 8 1 (pT KS3 T) 4 0 (fun _ => 0) := ST_lit hS ls_4
  refine L_if_ne 147 194 dL_known_147 (by decide) (fun c_0 => by first | exact absurd rfl c_0 | exact absurd c_0 (by decide) | exact absurd (by decide) c_0) (fun _ => ?_)
  refine L_aload_n 150 0 dL_known_150 rfl rfl ?_
  refine L_iconst 151 0 dL_known_151 (by decide) ?_
  refine L_bipush 152 6 dL_known_152 (by decide) ?_
  refine L_cW 154 [.ref 109, .int (nI 0), .int (nI 6)] (Nat.le_refl 1) (w_lamping (nI 0) (nI 6) _ _ (o_lamp hS (by decide) (by decide))) dL_known_154 lk_98 hc_lamping hs_lamping hp_lamping rfl ⟨rfl, rfl⟩ ⟨Nat.le_of_ble_eq_true rfl, Nat.le_of_ble_eq_true rfl⟩ ⟨Nat.le_of_ble_eq_true rfl, Nat.le_of_ble_eq_true rfl⟩ rfl (Nat.le_of_ble_eq_true rfl) ?_
  rintro _ V ⟨rfl, hS⟩
  rw [kq_13]
  refine L_if_ne 157 194 dL_known_157 (by decide) (fun c_0 => by first | exact absurd rfl c_0 | exact absurd c_0 (by decide) | exact absurd (by decide) c_0) (fun _ => ?_)
  refine L_aload_n 160 0 dL_known_160 rfl rfl ?_
  refine L_iconst 161 0 dL_known_161 (by decide) ?_
  refine L_bipush 162 9 dL_known_162 (by decide) ?_
  refine L_cW 164 [.ref 109, .int (nI 0), .int (nI 9)] (Nat.le_refl 1) (w_lamping (nI 0) (nI 9) _ _ (o_lamp hS (by decide) (by decide))) dL_known_164 lk_98 hc_lamping hs_lamping hp_lamping rfl ⟨rfl, rfl⟩ ⟨Nat.le_of_ble_eq_true rfl, Nat.le_of_ble_eq_true rfl⟩ ⟨Nat.le_of_ble_eq_true rfl, Nat.le_of_ble_eq_true rfl⟩ rfl (Nat.le_of_ble_eq_true rfl) ?_
  rintro _ V ⟨rfl, hS⟩
  rw [kq_14]
  refine L_if_ne 167 194 dL_known_167 (by decide) (fun c_0 => by first | exact absurd rfl c_0 | exact absurd c_0 (by decide) | exact absurd (by decide) c_0) (fun _ => ?_)
  refine L_aload_n 170 0 dL_known_170 rfl rfl ?_
  refine L_iconst 171 0 dL_known_171 (by decide) ?_
  refine L_iconst 172 0 dL_known_172 (by decide) ?_
  refine L_iconst 173 0 dL_known_173 (by decide) ?_
  refine L_iconst 174 2 dL_known_174 (by decide) ?_
  refine L_iconst 175 1 dL_known_175 (by decide) ?_
  generalize hT4 : pT KS3 T = T at hS
  refine L_cW 176 [.ref 109, .int (nI 0), .int 0, .int 0, .int 2, .int 1] (Nat.le_refl 1) (w_squaring (nI 0) 0 0 2 1 _ _ (o_setRectangle hS (by decide) ⟨⟨⟨by decide, by decide⟩, ⟨by decide, by decide⟩⟩, ⟨by decide, by decide⟩, ⟨by decide, by decide⟩⟩)) dL_known_176 lk_135 hc_squaring hs_squaring hp_squaring rfl ⟨rfl, rfl⟩ ⟨Nat.le_of_ble_eq_true rfl, Nat.le_of_ble_eq_true rfl⟩ ⟨Nat.le_of_ble_eq_true rfl, Nat.le_of_ble_eq_true rfl⟩ rfl (Nat.le_of_ble_eq_true rfl) ?_
  rintro _ V ⟨rfl, hS⟩
  rw [kq_15]
  replace hS : ST V KS5 12 8 1 (pT KS4 T) 4 0 (fun _ => 0) := ST_lit hS ls_5
  refine L_iconst 179 2 dL_known_179 (by decide) ?_
  refine L_icmp_ne 180 194 dL_known_180 (by decide) (fun c_0 => by first | exact absurd rfl c_0 | exact absurd c_0 (by decide) | exact absurd (by decide) c_0) (fun _ => ?_)
  refine L_aload_n 183 0 dL_known_183 rfl rfl ?_
  refine L_iconst 184 0 dL_known_184 (by decide) ?_
  refine L_bipush 185 6 dL_known_185 (by decide) ?_
  refine L_cW 187 [.ref 109, .int (nI 0), .int (nI 6)] (Nat.le_refl 1) (w_lamping (nI 0) (nI 6) _ _ (o_lamp hS (by decide) (by decide))) dL_known_187 lk_98 hc_lamping hs_lamping hp_lamping rfl ⟨rfl, rfl⟩ ⟨Nat.le_of_ble_eq_true rfl, Nat.le_of_ble_eq_true rfl⟩ ⟨Nat.le_of_ble_eq_true rfl, Nat.le_of_ble_eq_true rfl⟩ rfl (Nat.le_of_ble_eq_true rfl) ?_
  rintro _ V ⟨rfl, hS⟩
  rw [kq_16]
  refine L_iconst 190 1 dL_known_190 (by decide) ?_
  refine L_icmp_eq 191 196 dL_known_191 (by decide) (fun _ => ?_) (fun c_0 => by first | exact absurd rfl c_0 | exact absurd c_0 (by decide) | exact absurd (by decide) c_0)
  refine L_aload_n 196 0 dL_known_196 rfl rfl ?_
  refine L_iconst 197 0 dL_known_197 (by decide) ?_
  refine L_iconst 198 0 dL_known_198 (by decide) ?_
  refine L_iconst 199 0 dL_known_199 (by decide) ?_
  refine L_cW 200 [.ref 109, .int (nI 0), .int (nI 0), .int (nI 0)] (Nat.le_refl 1) (w_weighing (nI 0) (nI 0) (nI 0) _ _ (o_weight hS (by decide) (by decide) (by decide))) dL_known_200 lk_146 hc_weighing hs_weighing hp_weighing rfl ⟨rfl, rfl⟩ ⟨Nat.le_of_ble_eq_true rfl, Nat.le_of_ble_eq_true rfl⟩ ⟨Nat.le_of_ble_eq_true rfl, Nat.le_of_ble_eq_true rfl⟩ rfl (Nat.le_of_ble_eq_true rfl) ?_
  rintro _ V ⟨rfl, hS⟩
  rw [kq_17]
  refine L_iconst 203 2 dL_known_203 (by decide) ?_
  refine L_icmp_ne 204 381 dL_known_204 (by decide) (fun c_0 => by first | exact absurd rfl c_0 | exact absurd c_0 (by decide) | exact absurd (by decide) c_0) (fun _ => ?_)
  refine L_aload_n 207 0 dL_known_207 rfl rfl ?_
  refine L_iconst 208 0 dL_known_208 (by decide) ?_
  refine L_iconst 209 1 dL_known_209 (by decide) ?_
  refine L_iconst 210 0 dL_known_210 (by decide) ?_
  refine L_cW 211 [.ref 109, .int (nI 0), .int (nI 1), .int (nI 0)] (Nat.le_refl 1) (w_weighing (nI 0) (nI 1) (nI 0) _ _ (o_weight hS (by decide) (by decide) (by decide))) dL_known_211 lk_146 hc_weighing hs_weighing hp_weighing rfl ⟨rfl, rfl⟩ ⟨Nat.le_of_ble_eq_true rfl, Nat.le_of_ble_eq_true rfl⟩ ⟨Nat.le_of_ble_eq_true rfl, Nat.le_of_ble_eq_true rfl⟩ rfl (Nat.le_of_ble_eq_true rfl) ?_
  rintro _ V ⟨rfl, hS⟩
  rw [kq_18]
  refine L_iconst 214 2 dL_known_214 (by decide) ?_
  refine L_icmp_ne 215 381 dL_known_215 (by decide) (fun c_0 => by first | exact absurd rfl c_0 | exact absurd c_0 (by decide) | exact absurd (by decide) c_0) (fun _ => ?_)
  refine L_aload_n 218 0 dL_known_218 rfl rfl ?_
  refine L_iconst 219 0 dL_known_219 (by decide) ?_
  refine L_iconst 220 2 dL_known_220 (by decide) ?_
  refine L_iconst 221 0 dL_known_221 (by decide) ?_
  refine L_cW 222 [.ref 109, .int (nI 0), .int (nI 2), .int (nI 0)] (Nat.le_refl 1) (w_weighing (nI 0) (nI 2) (nI 0) _ _ (o_weight hS (by decide) (by decide) (by decide))) dL_known_222 lk_146 hc_weighing hs_weighing hp_weighing rfl ⟨rfl, rfl⟩ ⟨Nat.le_of_ble_eq_true rfl, Nat.le_of_ble_eq_true rfl⟩ ⟨Nat.le_of_ble_eq_true rfl, Nat.le_of_ble_eq_true rfl⟩ rfl (Nat.le_of_ble_eq_true rfl) ?_
  rintro _ V ⟨rfl, hS⟩
  rw [kq_19]
  refine L_sipush 225 (-1000) dL_known_225 (by decide) ?_
  refine L_icmp_ne 228 381 dL_known_228 (by decide) (fun c_0 => by first | exact absurd rfl c_0 | exact absurd c_0 (by decide) | exact absurd (by decide) c_0) (fun _ => ?_)
  refine L_aload_n 231 0 dL_known_231 rfl rfl ?_
  refine L_iconst 232 0 dL_known_232 (by decide) ?_
  refine L_iconst 233 2 dL_known_233 (by decide) ?_
  refine L_iconst 234 0 dL_known_234 (by decide) ?_
  refine L_cW 235 [.ref 109, .int (nI 0), .int (nI 2), .int (nI 0)] (Nat.le_refl 1) (w_lighting (nI 0) (nI 2) (nI 0) _ _ (o_light hS (by decide) (by decide) (by decide))) dL_known_235 lk_113 hc_lighting hs_lighting hp_lighting rfl ⟨rfl, rfl⟩ ⟨Nat.le_of_ble_eq_true rfl, Nat.le_of_ble_eq_true rfl⟩ ⟨Nat.le_of_ble_eq_true rfl, Nat.le_of_ble_eq_true rfl⟩ rfl (Nat.le_of_ble_eq_true rfl) ?_
  rintro _ V ⟨rfl, hS⟩
  rw [kq_20]
  refine L_sipush 238 (-1000) dL_known_238 (by decide) ?_
  refine L_icmp_ne 241 381 dL_known_241 (by decide) (fun c_0 => by first | exact absurd rfl c_0 | exact absurd c_0 (by decide) | exact absurd (by decide) c_0) (fun _ => ?_)
  refine L_aload_n 244 0 dL_known_244 rfl rfl ?_
  refine L_iconst 245 0 dL_known_245 (by decide) ?_
  refine L_iconst 246 0 dL_known_246 (by decide) ?_
  refine L_iconst 247 0 dL_known_247 (by decide) ?_
  refine L_cW 248 [.ref 109, .int (nI 0), .int (nI 0), .int (nI 0)] (Nat.le_refl 1) (w_lighting (nI 0) (nI 0) (nI 0) _ _ (o_light hS (by decide) (by decide) (by decide))) dL_known_248 lk_113 hc_lighting hs_lighting hp_lighting rfl ⟨rfl, rfl⟩ ⟨Nat.le_of_ble_eq_true rfl, Nat.le_of_ble_eq_true rfl⟩ ⟨Nat.le_of_ble_eq_true rfl, Nat.le_of_ble_eq_true rfl⟩ rfl (Nat.le_of_ble_eq_true rfl) ?_
  rintro _ V ⟨rfl, hS⟩
  rw [kq_21]
  refine L_bipush 251 100 dL_known_251 (by decide) ?_
  refine L_icmp_ne 253 381 dL_known_253 (by decide) (fun c_0 => by first | exact absurd rfl c_0 | exact absurd c_0 (by decide) | exact absurd (by decide) c_0) (fun _ => ?_)
  refine L_aload_n 256 0 dL_known_256 rfl rfl ?_
  refine L_iconst 257 0 dL_known_257 (by decide) ?_
  refine L_iconst 258 0 dL_known_258 (by decide) ?_
  refine L_iconst 259 1 dL_known_259 (by decide) ?_
  refine L_cW 260 [.ref 109, .int (nI 0), .int (nI 0), .int (nI 1)] (Nat.le_refl 1) (w_placing (nI 0) (nI 0) (nI 1) _ _ (o_place hS (by decide) (by decide) (by decide))) dL_known_260 lk_110 hc_placing hs_placing hp_placing rfl ⟨rfl, rfl⟩ ⟨Nat.le_of_ble_eq_true rfl, Nat.le_of_ble_eq_true rfl⟩ ⟨Nat.le_of_ble_eq_true rfl, Nat.le_of_ble_eq_true rfl⟩ rfl (Nat.le_of_ble_eq_true rfl) ?_
  rintro _ V ⟨rfl, hS⟩
  rw [kq_22]
  refine L_bipush 263 100 dL_known_263 (by decide) ?_
  refine L_icmp_ne 265 381 dL_known_265 (by decide) (fun c_0 => by first | exact absurd rfl c_0 | exact absurd c_0 (by decide) | exact absurd (by decide) c_0) (fun _ => ?_)
  refine L_aload_n 268 0 dL_known_268 rfl rfl ?_
  refine L_bipush 269 6 dL_known_269 (by decide) ?_
  refine L_cW 271 [.ref 109, .int (nI 6)] (Nat.le_refl 1) (w_all (nI 6) _ _ (o_whole hS (by decide))) dL_known_271 lk_92 hc_all hs_all hp_all rfl ⟨rfl, rfl⟩ ⟨Nat.le_of_ble_eq_true rfl, Nat.le_of_ble_eq_true rfl⟩ ⟨Nat.le_of_ble_eq_true rfl, Nat.le_of_ble_eq_true rfl⟩ rfl (Nat.le_of_ble_eq_true rfl) ?_
  rintro _ V ⟨rfl, hS⟩
  rw [kq_23]
  refine L_bipush 274 96 dL_known_274 (by decide) ?_
  refine L_icmp_ne 276 381 dL_known_276 (by decide) (fun c_0 => by first | exact absurd rfl c_0 | exact absurd c_0 (by decide) | exact absurd (by decide) c_0) (fun _ => ?_)
  refine L_aload_n 279 0 dL_known_279 rfl rfl ?_
  refine L_bipush 280 11 dL_known_280 (by decide) ?_
  refine L_cW 282 [.ref 109, .int (nI 11)] (Nat.le_refl 1) (w_all (nI 11) _ _ (o_whole hS (by decide))) dL_known_282 lk_92 hc_all hs_all hp_all rfl ⟨rfl, rfl⟩ ⟨Nat.le_of_ble_eq_true rfl, Nat.le_of_ble_eq_true rfl⟩ ⟨Nat.le_of_ble_eq_true rfl, Nat.le_of_ble_eq_true rfl⟩ rfl (Nat.le_of_ble_eq_true rfl) ?_
  rintro _ V ⟨rfl, hS⟩
  rw [kq_24]
  refine L_sipush 285 200 dL_known_285 (by decide) ?_
  refine L_icmp_ne 288 381 dL_known_288 (by decide) (fun c_0 => by first | exact absurd rfl c_0 | exact absurd c_0 (by decide) | exact absurd (by decide) c_0) (fun _ => ?_)
  refine L_aload_n 291 0 dL_known_291 rfl rfl ?_
  refine L_iconst 292 0 dL_known_292 (by decide) ?_
  refine L_bipush 293 8 dL_known_293 (by decide) ?_
  refine L_cW 295 [.ref 109, .int (nI 0), .int (nI 8)] (Nat.le_refl 1) (w_lamping (nI 0) (nI 8) _ _ (o_lamp hS (by decide) (by decide))) dL_known_295 lk_98 hc_lamping hs_lamping hp_lamping rfl ⟨rfl, rfl⟩ ⟨Nat.le_of_ble_eq_true rfl, Nat.le_of_ble_eq_true rfl⟩ ⟨Nat.le_of_ble_eq_true rfl, Nat.le_of_ble_eq_true rfl⟩ rfl (Nat.le_of_ble_eq_true rfl) ?_
  rintro _ V ⟨rfl, hS⟩
  rw [kq_25]
  refine L_sipush 298 200 dL_known_298 (by decide) ?_
  refine L_icmp_ne 301 381 dL_known_301 (by decide) (fun c_0 => by first | exact absurd rfl c_0 | exact absurd c_0 (by decide) | exact absurd (by decide) c_0) (fun _ => ?_)
  refine L_aload_n 304 0 dL_known_304 rfl rfl ?_
  refine L_iconst 305 0 dL_known_305 (by decide) ?_
  refine L_bipush 306 9 dL_known_306 (by decide) ?_
  refine L_cW 308 [.ref 109, .int (nI 0), .int (nI 9)] (Nat.le_refl 1) (w_lamping (nI 0) (nI 9) _ _ (o_lamp hS (by decide) (by decide))) dL_known_308 lk_98 hc_lamping hs_lamping hp_lamping rfl ⟨rfl, rfl⟩ ⟨Nat.le_of_ble_eq_true rfl, Nat.le_of_ble_eq_true rfl⟩ ⟨Nat.le_of_ble_eq_true rfl, Nat.le_of_ble_eq_true rfl⟩ rfl (Nat.le_of_ble_eq_true rfl) ?_
  rintro _ V ⟨rfl, hS⟩
  rw [kq_26]
  refine L_bipush 311 50 dL_known_311 (by decide) ?_
  refine L_icmp_ne 313 381 dL_known_313 (by decide) (fun c_0 => by first | exact absurd rfl c_0 | exact absurd c_0 (by decide) | exact absurd (by decide) c_0) (fun _ => ?_)
  refine L_aload_n 316 0 dL_known_316 rfl rfl ?_
  refine L_iconst 317 0 dL_known_317 (by decide) ?_
  refine L_bipush 318 11 dL_known_318 (by decide) ?_
  refine L_cW 320 [.ref 109, .int (nI 0), .int (nI 11)] (Nat.le_refl 1) (w_lamping (nI 0) (nI 11) _ _ (o_lamp hS (by decide) (by decide))) dL_known_320 lk_98 hc_lamping hs_lamping hp_lamping rfl ⟨rfl, rfl⟩ ⟨Nat.le_of_ble_eq_true rfl, Nat.le_of_ble_eq_true rfl⟩ ⟨Nat.le_of_ble_eq_true rfl, Nat.le_of_ble_eq_true rfl⟩ rfl (Nat.le_of_ble_eq_true rfl) ?_
  rintro _ V ⟨rfl, hS⟩
  rw [kq_27]
  refine L_iconst 323 2 dL_known_323 (by decide) ?_
  refine L_icmp_ne 324 381 dL_known_324 (by decide) (fun c_0 => by first | exact absurd rfl c_0 | exact absurd c_0 (by decide) | exact absurd (by decide) c_0) (fun _ => ?_)
  refine L_aload_n 327 0 dL_known_327 rfl rfl ?_
  refine L_bipush 328 100 dL_known_328 (by decide) ?_
  generalize hT5 : pT KS4 T = T at hS
  refine L_cW 330 [.ref 109, .int 100] (Nat.le_refl 1) (w_burning 100 _ _ (o_burn hS ⟨by decide, by decide⟩)) dL_known_330 lk_174 hc_burning hs_burning hp_burning rfl ⟨rfl, rfl⟩ ⟨Nat.le_of_ble_eq_true rfl, Nat.le_of_ble_eq_true rfl⟩ ⟨Nat.le_of_ble_eq_true rfl, Nat.le_of_ble_eq_true rfl⟩ rfl (Nat.le_of_ble_eq_true rfl) ?_
  rintro _ V ⟨rfl, hS⟩
  rw [kq_28]
  replace hS : ST V KS6 12 8 1 (pT KS5 T) 4 0 (fun _ => 0) := ST_lit hS ls_6
  refine L_bipush 333 50 dL_known_333 (by decide) ?_
  refine L_icmp_ne 335 381 dL_known_335 (by decide) (fun c_0 => by first | exact absurd rfl c_0 | exact absurd c_0 (by decide) | exact absurd (by decide) c_0) (fun _ => ?_)
  refine L_aload_n 338 0 dL_known_338 rfl rfl ?_
  refine L_iconst 339 0 dL_known_339 (by decide) ?_
  refine L_iconst 340 4 dL_known_340 (by decide) ?_
  refine L_cW 341 [.ref 109, .int (nI 0), .int (nI 4)] (Nat.le_refl 1) (w_lamping (nI 0) (nI 4) _ _ (o_lamp hS (by decide) (by decide))) dL_known_341 lk_98 hc_lamping hs_lamping hp_lamping rfl ⟨rfl, rfl⟩ ⟨Nat.le_of_ble_eq_true rfl, Nat.le_of_ble_eq_true rfl⟩ ⟨Nat.le_of_ble_eq_true rfl, Nat.le_of_ble_eq_true rfl⟩ rfl (Nat.le_of_ble_eq_true rfl) ?_
  rintro _ V ⟨rfl, hS⟩
  rw [kq_29]
  refine L_sipush 344 190 dL_known_344 (by decide) ?_
  refine L_icmp_ne 347 381 dL_known_347 (by decide) (fun c_0 => by first | exact absurd rfl c_0 | exact absurd c_0 (by decide) | exact absurd (by decide) c_0) (fun _ => ?_)
  refine L_aload_n 350 0 dL_known_350 rfl rfl ?_
  refine L_iconst 351 0 dL_known_351 (by decide) ?_
  refine L_bipush 352 9 dL_known_352 (by decide) ?_
  refine L_cW 354 [.ref 109, .int (nI 0), .int (nI 9)] (Nat.le_refl 1) (w_lamping (nI 0) (nI 9) _ _ (o_lamp hS (by decide) (by decide))) dL_known_354 lk_98 hc_lamping hs_lamping hp_lamping rfl ⟨rfl, rfl⟩ ⟨Nat.le_of_ble_eq_true rfl, Nat.le_of_ble_eq_true rfl⟩ ⟨Nat.le_of_ble_eq_true rfl, Nat.le_of_ble_eq_true rfl⟩ rfl (Nat.le_of_ble_eq_true rfl) ?_
  rintro _ V ⟨rfl, hS⟩
  rw [kq_30]
  refine L_bipush 357 52 dL_known_357 (by decide) ?_
  refine L_icmp_ne 359 381 dL_known_359 (by decide) (fun c_0 => by first | exact absurd rfl c_0 | exact absurd c_0 (by decide) | exact absurd (by decide) c_0) (fun _ => ?_)
  refine L_aload_n 362 0 dL_known_362 rfl rfl ?_
  refine L_bipush 363 12 dL_known_363 (by decide) ?_
  refine L_cW 365 [.ref 109, .int (nI 12)] (Nat.le_refl 1) (w_all (nI 12) _ _ (o_whole hS (by decide))) dL_known_365 lk_92 hc_all hs_all hp_all rfl ⟨rfl, rfl⟩ ⟨Nat.le_of_ble_eq_true rfl, Nat.le_of_ble_eq_true rfl⟩ ⟨Nat.le_of_ble_eq_true rfl, Nat.le_of_ble_eq_true rfl⟩ rfl (Nat.le_of_ble_eq_true rfl) ?_
  rintro _ V ⟨rfl, hS⟩
  rw [kq_31]
  refine L_bipush 368 103 dL_known_368 (by decide) ?_
  refine L_icmp_ne 370 381 dL_known_370 (by decide) (fun c_0 => by first | exact absurd rfl c_0 | exact absurd c_0 (by decide) | exact absurd (by decide) c_0) (fun _ => ?_)
  refine L_aload_n 373 0 dL_known_373 rfl rfl ?_
  refine L_iconst 374 4 dL_known_374 (by decide) ?_
  refine L_cW 375 [.ref 109, .int (nI 4)] (Nat.le_refl 1) (w_isDigest hS) dL_known_375 lk_297 hc_isDigest hs_isDigest hp_isDigest rfl ⟨rfl, rfl⟩ ⟨Nat.le_of_ble_eq_true rfl, Nat.le_of_ble_eq_true rfl⟩ ⟨Nat.le_of_ble_eq_true rfl, Nat.le_of_ble_eq_true rfl⟩ rfl (Nat.le_of_ble_eq_true rfl) ?_
  rintro _ V ⟨rfl, hS⟩
  refine L_if_ne 378 383 dL_known_378 (by decide) (fun _ => ?_) (fun c_0 => by first | exact absurd rfl c_0 | exact absurd c_0 (by decide) | exact absurd (by decide) c_0)
  refine L_aload_n 383 0 dL_known_383 rfl rfl ?_
  refine L_iconst 384 0 dL_known_384 (by decide) ?_
  refine L_iconst 385 0 dL_known_385 (by decide) ?_
  refine L_bipush 386 80 dL_known_386 (by decide) ?_
  generalize hT6 : pT KS5 T = T at hS
  refine L_cW 388 [.ref 109, .int (nI 0), .int (nI 0), .int 80] (Nat.le_refl 1) (w_setting (nI 0) (nI 0) 80 _ _ (o_setLamp hS (by decide) (by decide) ⟨⟨by decide, by decide⟩, ⟨by decide, by decide⟩⟩)) dL_known_388 lk_139 hc_setting hs_setting hp_setting rfl ⟨rfl, rfl⟩ ⟨Nat.le_of_ble_eq_true rfl, Nat.le_of_ble_eq_true rfl⟩ ⟨Nat.le_of_ble_eq_true rfl, Nat.le_of_ble_eq_true rfl⟩ rfl (Nat.le_of_ble_eq_true rfl) ?_
  rintro _ V ⟨rfl, hS⟩
  rw [kq_32]
  replace hS : ST V KS7 12 8 1 (pT KS6 T) 4 0 (fun _ => 0) := ST_lit hS ls_7
  refine L_sipush 391 200 dL_known_391 (by decide) ?_
  refine L_icmp_ne 394 535 dL_known_394 (by decide) (fun c_0 => by first | exact absurd rfl c_0 | exact absurd c_0 (by decide) | exact absurd (by decide) c_0) (fun _ => ?_)
  refine L_aload_n 397 0 dL_known_397 rfl rfl ?_
  refine L_iconst 398 0 dL_known_398 (by decide) ?_
  refine L_iconst 399 4 dL_known_399 (by decide) ?_
  refine L_cW 400 [.ref 109, .int (nI 0), .int (nI 4)] (Nat.le_refl 1) (w_lamping (nI 0) (nI 4) _ _ (o_lamp hS (by decide) (by decide))) dL_known_400 lk_98 hc_lamping hs_lamping hp_lamping rfl ⟨rfl, rfl⟩ ⟨Nat.le_of_ble_eq_true rfl, Nat.le_of_ble_eq_true rfl⟩ ⟨Nat.le_of_ble_eq_true rfl, Nat.le_of_ble_eq_true rfl⟩ rfl (Nat.le_of_ble_eq_true rfl) ?_
  rintro _ V ⟨rfl, hS⟩
  rw [kq_33]
  refine L_bipush 403 76 dL_known_403 (by decide) ?_
  refine L_icmp_ne 405 535 dL_known_405 (by decide) (fun c_0 => by first | exact absurd rfl c_0 | exact absurd c_0 (by decide) | exact absurd (by decide) c_0) (fun _ => ?_)
  refine L_aload_n 408 0 dL_known_408 rfl rfl ?_
  refine L_iconst 409 0 dL_known_409 (by decide) ?_
  refine L_iconst 410 0 dL_known_410 (by decide) ?_
  refine L_iconst 411 0 dL_known_411 (by decide) ?_
  refine L_cW 412 [.ref 109, .int (nI 0), .int (nI 0), .int (nI 0)] (Nat.le_refl 1) (w_lighting (nI 0) (nI 0) (nI 0) _ _ (o_light hS (by decide) (by decide) (by decide))) dL_known_412 lk_113 hc_lighting hs_lighting hp_lighting rfl ⟨rfl, rfl⟩ ⟨Nat.le_of_ble_eq_true rfl, Nat.le_of_ble_eq_true rfl⟩ ⟨Nat.le_of_ble_eq_true rfl, Nat.le_of_ble_eq_true rfl⟩ rfl (Nat.le_of_ble_eq_true rfl) ?_
  rintro _ V ⟨rfl, hS⟩
  rw [kq_34]
  refine L_bipush 415 76 dL_known_415 (by decide) ?_
  refine L_icmp_ne 417 535 dL_known_417 (by decide) (fun c_0 => by first | exact absurd rfl c_0 | exact absurd c_0 (by decide) | exact absurd (by decide) c_0) (fun _ => ?_)
  refine L_aload_n 420 0 dL_known_420 rfl rfl ?_
  refine L_iconst 421 0 dL_known_421 (by decide) ?_
  refine L_iconst 422 0 dL_known_422 (by decide) ?_
  refine L_iconst 423 2 dL_known_423 (by decide) ?_
  refine L_cW 424 [.ref 109, .int (nI 0), .int (nI 0), .int (nI 2)] (Nat.le_refl 1) (w_placing (nI 0) (nI 0) (nI 2) _ _ (o_place hS (by decide) (by decide) (by decide))) dL_known_424 lk_110 hc_placing hs_placing hp_placing rfl ⟨rfl, rfl⟩ ⟨Nat.le_of_ble_eq_true rfl, Nat.le_of_ble_eq_true rfl⟩ ⟨Nat.le_of_ble_eq_true rfl, Nat.le_of_ble_eq_true rfl⟩ rfl (Nat.le_of_ble_eq_true rfl) ?_
  rintro _ V ⟨rfl, hS⟩
  rw [kq_35]
  refine L_iconst 427 2 dL_known_427 (by decide) ?_
  refine L_icmp_ne 428 535 dL_known_428 (by decide) (fun c_0 => by first | exact absurd rfl c_0 | exact absurd c_0 (by decide) | exact absurd (by decide) c_0) (fun _ => ?_)
  refine L_aload_n 431 0 dL_known_431 rfl rfl ?_
  refine L_bipush 432 8 dL_known_432 (by decide) ?_
  refine L_cW 434 [.ref 109, .int (nI 8)] (Nat.le_refl 1) (w_all (nI 8) _ _ (o_whole hS (by decide))) dL_known_434 lk_92 hc_all hs_all hp_all rfl ⟨rfl, rfl⟩ ⟨Nat.le_of_ble_eq_true rfl, Nat.le_of_ble_eq_true rfl⟩ ⟨Nat.le_of_ble_eq_true rfl, Nat.le_of_ble_eq_true rfl⟩ rfl (Nat.le_of_ble_eq_true rfl) ?_
  rintro _ V ⟨rfl, hS⟩
  rw [kq_36]
  refine L_iconst 437 2 dL_known_437 (by decide) ?_
  refine L_icmp_ne 438 535 dL_known_438 (by decide) (fun c_0 => by first | exact absurd rfl c_0 | exact absurd c_0 (by decide) | exact absurd (by decide) c_0) (fun _ => ?_)
  refine L_aload_n 441 0 dL_known_441 rfl rfl ?_
  refine L_iconst 442 0 dL_known_442 (by decide) ?_
  refine L_cW 443 [.ref 109, .int (nI 0)] (Nat.le_refl 1) (w_needing (nI 0) _ _ (o_neededLimit hS (by decide))) dL_known_443 lk_152 hc_needing hs_needing hp_needing rfl ⟨rfl, rfl⟩ ⟨Nat.le_of_ble_eq_true rfl, Nat.le_of_ble_eq_true rfl⟩ ⟨Nat.le_of_ble_eq_true rfl, Nat.le_of_ble_eq_true rfl⟩ rfl (Nat.le_of_ble_eq_true rfl) ?_
  rintro _ V ⟨rfl, hS⟩
  rw [kq_37]
  refine L_bipush 446 100 dL_known_446 (by decide) ?_
  refine L_icmp_ne 448 535 dL_known_448 (by decide) (fun c_0 => by first | exact absurd rfl c_0 | exact absurd c_0 (by decide) | exact absurd (by decide) c_0) (fun _ => ?_)
  refine L_aload_n 451 0 dL_known_451 rfl rfl ?_
  refine L_iconst 452 0 dL_known_452 (by decide) ?_
  refine L_iconst 453 1 dL_known_453 (by decide) ?_
  refine L_sipush 454 255 dL_known_454 (by decide) ?_
  generalize hT7 : pT KS6 T = T at hS
  refine L_cW 457 [.ref 109, .int (nI 0), .int (nI 1), .int 255] (Nat.le_refl 1) (w_setting (nI 0) (nI 1) 255 _ _ (o_setLamp hS (by decide) (by decide) ⟨⟨by decide, by decide⟩, ⟨by decide, by decide⟩⟩)) dL_known_457 lk_139 hc_setting hs_setting hp_setting rfl ⟨rfl, rfl⟩ ⟨Nat.le_of_ble_eq_true rfl, Nat.le_of_ble_eq_true rfl⟩ ⟨Nat.le_of_ble_eq_true rfl, Nat.le_of_ble_eq_true rfl⟩ rfl (Nat.le_of_ble_eq_true rfl) ?_
  rintro _ V ⟨rfl, hS⟩
  rw [kq_38]
  replace hS : ST V KS8 12 8 1 (pT KS7 T) 4 0 (fun _ => 0) := ST_lit hS ls_8
  refine L_if_ne 460 535 dL_known_460 (by decide) (fun c_0 => by first | exact absurd rfl c_0 | exact absurd c_0 (by decide) | exact absurd (by decide) c_0) (fun _ => ?_)
  refine L_aload_n 463 0 dL_known_463 rfl rfl ?_
  refine L_iconst 464 0 dL_known_464 (by decide) ?_
  refine L_iconst 465 5 dL_known_465 (by decide) ?_
  refine L_cW 466 [.ref 109, .int (nI 0), .int (nI 5)] (Nat.le_refl 1) (w_lamping (nI 0) (nI 5) _ _ (o_lamp hS (by decide) (by decide))) dL_known_466 lk_98 hc_lamping hs_lamping hp_lamping rfl ⟨rfl, rfl⟩ ⟨Nat.le_of_ble_eq_true rfl, Nat.le_of_ble_eq_true rfl⟩ ⟨Nat.le_of_ble_eq_true rfl, Nat.le_of_ble_eq_true rfl⟩ rfl (Nat.le_of_ble_eq_true rfl) ?_
  rintro _ V ⟨rfl, hS⟩
  rw [kq_39]
  refine L_bipush 469 76 dL_known_469 (by decide) ?_
  refine L_icmp_ne 471 535 dL_known_471 (by decide) (fun c_0 => by first | exact absurd rfl c_0 | exact absurd c_0 (by decide) | exact absurd (by decide) c_0) (fun _ => ?_)
  refine L_aload_n 474 0 dL_known_474 rfl rfl ?_
  refine L_iconst 475 0 dL_known_475 (by decide) ?_
  refine L_iconst 476 0 dL_known_476 (by decide) ?_
  refine L_iconst 477 0 dL_known_477 (by decide) ?_
  refine L_iconst 478 0 dL_known_478 (by decide) ?_
  refine L_bipush 479 10 dL_known_479 (by decide) ?_
  generalize hT8 : pT KS7 T = T at hS
  refine L_cW 481 [.ref 109, .int (nI 0), .int (nI 0), .int (nI 0), .int (nI 0), .int 10] (Nat.le_refl 1) (w_painting (nI 0) (nI 0) (nI 0) (nI 0) 10 _ _ (o_paint hS (by decide) (by decide) (by decide) (by decide) ⟨by decide, by decide⟩)) dL_known_481 lk_155 hc_painting hs_painting hp_painting rfl ⟨rfl, rfl⟩ ⟨Nat.le_of_ble_eq_true rfl, Nat.le_of_ble_eq_true rfl⟩ ⟨Nat.le_of_ble_eq_true rfl, Nat.le_of_ble_eq_true rfl⟩ rfl (Nat.le_of_ble_eq_true rfl) ?_
  rintro _ V ⟨rfl, hS⟩
  rw [kq_40]
  replace hS : ST V KS9 12 8 1 (pT KS8 T) 4 0 (fun _ => 0) := ST_lit hS ls_9
  refine L_iconst 484 1 dL_known_484 (by decide) ?_
  refine L_icmp_ne 485 535 dL_known_485 (by decide) (fun c_0 => by first | exact absurd rfl c_0 | exact absurd c_0 (by decide) | exact absurd (by decide) c_0) (fun _ => ?_)
  refine L_aload_n 488 0 dL_known_488 rfl rfl ?_
  refine L_iconst 489 0 dL_known_489 (by decide) ?_
  refine L_iconst 490 0 dL_known_490 (by decide) ?_
  refine L_iconst 491 1 dL_known_491 (by decide) ?_
  refine L_cW 492 [.ref 109, .int (nI 0), .int (nI 0), .int (nI 1)] (Nat.le_refl 1) (w_placing (nI 0) (nI 0) (nI 1) _ _ (o_place hS (by decide) (by decide) (by decide))) dL_known_492 lk_110 hc_placing hs_placing hp_placing rfl ⟨rfl, rfl⟩ ⟨Nat.le_of_ble_eq_true rfl, Nat.le_of_ble_eq_true rfl⟩ ⟨Nat.le_of_ble_eq_true rfl, Nat.le_of_ble_eq_true rfl⟩ rfl (Nat.le_of_ble_eq_true rfl) ?_
  rintro _ V ⟨rfl, hS⟩
  rw [kq_41]
  refine L_bipush 495 76 dL_known_495 (by decide) ?_
  refine L_icmp_ne 497 535 dL_known_497 (by decide) (fun c_0 => by first | exact absurd rfl c_0 | exact absurd c_0 (by decide) | exact absurd (by decide) c_0) (fun _ => ?_)
  refine L_aload_n 500 0 dL_known_500 rfl rfl ?_
  refine L_iconst 501 0 dL_known_501 (by decide) ?_
  refine L_iconst 502 0 dL_known_502 (by decide) ?_
  refine L_iconst 503 2 dL_known_503 (by decide) ?_
  refine L_cW 504 [.ref 109, .int (nI 0), .int (nI 0), .int (nI 2)] (Nat.le_refl 1) (w_placing (nI 0) (nI 0) (nI 2) _ _ (o_place hS (by decide) (by decide) (by decide))) dL_known_504 lk_110 hc_placing hs_placing hp_placing rfl ⟨rfl, rfl⟩ ⟨Nat.le_of_ble_eq_true rfl, Nat.le_of_ble_eq_true rfl⟩ ⟨Nat.le_of_ble_eq_true rfl, Nat.le_of_ble_eq_true rfl⟩ rfl (Nat.le_of_ble_eq_true rfl) ?_
  rintro _ V ⟨rfl, hS⟩
  rw [kq_42]
  refine L_iconst 507 3 dL_known_507 (by decide) ?_
  refine L_icmp_ne 508 535 dL_known_508 (by decide) (fun c_0 => by first | exact absurd rfl c_0 | exact absurd c_0 (by decide) | exact absurd (by decide) c_0) (fun _ => ?_)
  refine L_aload_n 511 0 dL_known_511 rfl rfl ?_
  refine L_iconst 512 0 dL_known_512 (by decide) ?_
  refine L_iconst 513 0 dL_known_513 (by decide) ?_
  refine L_iconst 514 4 dL_known_514 (by decide) ?_
  refine L_cW 515 [.ref 109, .int (nI 0), .int (nI 0), .int (nI 4)] (Nat.le_refl 1) (w_placing (nI 0) (nI 0) (nI 4) _ _ (o_place hS (by decide) (by decide) (by decide))) dL_known_515 lk_110 hc_placing hs_placing hp_placing rfl ⟨rfl, rfl⟩ ⟨Nat.le_of_ble_eq_true rfl, Nat.le_of_ble_eq_true rfl⟩ ⟨Nat.le_of_ble_eq_true rfl, Nat.le_of_ble_eq_true rfl⟩ rfl (Nat.le_of_ble_eq_true rfl) ?_
  rintro _ V ⟨rfl, hS⟩
  rw [kq_43]
  refine L_bipush 518 76 dL_known_518 (by decide) ?_
  refine L_icmp_ne 520 535 dL_known_520 (by decide) (fun c_0 => by first | exact absurd rfl c_0 | exact absurd c_0 (by decide) | exact absurd (by decide) c_0) (fun _ => ?_)
  refine L_aload_n 523 0 dL_known_523 rfl rfl ?_
  refine L_iconst 524 0 dL_known_524 (by decide) ?_
  refine L_iconst 525 0 dL_known_525 (by decide) ?_
  refine L_iconst 526 5 dL_known_526 (by decide) ?_
  refine L_cW 527 [.ref 109, .int (nI 0), .int (nI 0), .int (nI 5)] (Nat.le_refl 1) (w_placing (nI 0) (nI 0) (nI 5) _ _ (o_place hS (by decide) (by decide) (by decide))) dL_known_527 lk_110 hc_placing hs_placing hp_placing rfl ⟨rfl, rfl⟩ ⟨Nat.le_of_ble_eq_true rfl, Nat.le_of_ble_eq_true rfl⟩ ⟨Nat.le_of_ble_eq_true rfl, Nat.le_of_ble_eq_true rfl⟩ rfl (Nat.le_of_ble_eq_true rfl) ?_
  rintro _ V ⟨rfl, hS⟩
  rw [kq_44]
  refine L_bipush 530 76 dL_known_530 (by decide) ?_
  refine L_icmp_eq 532 537 dL_known_532 (by decide) (fun _ => ?_) (fun c_0 => by first | exact absurd rfl c_0 | exact absurd c_0 (by decide) | exact absurd (by decide) c_0)
  refine L_aload_n 537 0 dL_known_537 rfl rfl ?_
  refine L_bipush 538 100 dL_known_538 (by decide) ?_
  refine L_iconst 540 0 dL_known_540 (by decide) ?_
  generalize hT9 : pT KS8 T = T at hS
  refine L_cW 541 [.ref 109, .int 100, .int 0] (Nat.le_refl 1) (w_adding 100 0 _ _ (o_addLamp hS ⟨⟨by decide, by decide⟩, ⟨by decide, by decide⟩⟩ (by decide))) dL_known_541 lk_168 hc_adding hs_adding hp_adding rfl ⟨rfl, rfl⟩ ⟨Nat.le_of_ble_eq_true rfl, Nat.le_of_ble_eq_true rfl⟩ ⟨Nat.le_of_ble_eq_true rfl, Nat.le_of_ble_eq_true rfl⟩ rfl (Nat.le_of_ble_eq_true rfl) ?_
  rintro _ V ⟨rfl, hS⟩
  rw [kq_45]
  replace hS : ST V KS10 12 8 2 (pT KS9 T) 4 0 (fun _ => 0) := ST_lit hS ls_10
  refine L_iconst 544 1 dL_known_544 (by decide) ?_
  refine L_icmp_ne 545 754 dL_known_545 (by decide) (fun c_0 => by first | exact absurd rfl c_0 | exact absurd c_0 (by decide) | exact absurd (by decide) c_0) (fun _ => ?_)
  refine L_aload_n 548 0 dL_known_548 rfl rfl ?_
  refine L_iconst 549 1 dL_known_549 (by decide) ?_
  refine L_iconst 550 0 dL_known_550 (by decide) ?_
  refine L_iconst 551 0 dL_known_551 (by decide) ?_
  refine L_iconst 552 1 dL_known_552 (by decide) ?_
  refine L_iconst 553 1 dL_known_553 (by decide) ?_
  generalize hT10 : pT KS9 T = T at hS
  refine L_cW 554 [.ref 109, .int (nI 1), .int 0, .int 0, .int 1, .int 1] (Nat.le_refl 1) (w_squaring (nI 1) 0 0 1 1 _ _ (o_setRectangle hS (by decide) ⟨⟨⟨by decide, by decide⟩, ⟨by decide, by decide⟩⟩, ⟨by decide, by decide⟩, ⟨by decide, by decide⟩⟩)) dL_known_554 lk_135 hc_squaring hs_squaring hp_squaring rfl ⟨rfl, rfl⟩ ⟨Nat.le_of_ble_eq_true rfl, Nat.le_of_ble_eq_true rfl⟩ ⟨Nat.le_of_ble_eq_true rfl, Nat.le_of_ble_eq_true rfl⟩ rfl (Nat.le_of_ble_eq_true rfl) ?_
  rintro _ V ⟨rfl, hS⟩
  rw [kq_46]
  replace hS : ST V KS11 12 8 2 (pT KS10 T) 4 0 (fun _ => 0) := ST_lit hS ls_11
  refine L_iconst 557 1 dL_known_557 (by decide) ?_
  refine L_icmp_ne 558 754 dL_known_558 (by decide) (fun c_0 => by first | exact absurd rfl c_0 | exact absurd c_0 (by decide) | exact absurd (by decide) c_0) (fun _ => ?_)
  refine L_aload_n 561 0 dL_known_561 rfl rfl ?_
  refine L_iconst 562 1 dL_known_562 (by decide) ?_
  refine L_iconst 563 0 dL_known_563 (by decide) ?_
  refine L_iconst 564 0 dL_known_564 (by decide) ?_
  refine L_cW 565 [.ref 109, .int (nI 1), .int (nI 0), .int (nI 0)] (Nat.le_refl 1) (w_weighing (nI 1) (nI 0) (nI 0) _ _ (o_weight hS (by decide) (by decide) (by decide))) dL_known_565 lk_146 hc_weighing hs_weighing hp_weighing rfl ⟨rfl, rfl⟩ ⟨Nat.le_of_ble_eq_true rfl, Nat.le_of_ble_eq_true rfl⟩ ⟨Nat.le_of_ble_eq_true rfl, Nat.le_of_ble_eq_true rfl⟩ rfl (Nat.le_of_ble_eq_true rfl) ?_
  rintro _ V ⟨rfl, hS⟩
  rw [kq_47]
  refine L_iconst 568 2 dL_known_568 (by decide) ?_
  refine L_icmp_ne 569 754 dL_known_569 (by decide) (fun c_0 => by first | exact absurd rfl c_0 | exact absurd c_0 (by decide) | exact absurd (by decide) c_0) (fun _ => ?_)
  refine L_aload_n 572 0 dL_known_572 rfl rfl ?_
  refine L_iconst 573 0 dL_known_573 (by decide) ?_
  refine L_iconst 574 1 dL_known_574 (by decide) ?_
  refine L_iconst 575 0 dL_known_575 (by decide) ?_
  generalize hT11 : pT KS10 T = T at hS
  refine L_cW 576 [.ref 109, .int (nI 0), .int (nI 1), .int 0] (Nat.le_refl 1) (w_setting (nI 0) (nI 1) 0 _ _ (o_setLamp hS (by decide) (by decide) ⟨⟨by decide, by decide⟩, ⟨by decide, by decide⟩⟩)) dL_known_576 lk_139 hc_setting hs_setting hp_setting rfl ⟨rfl, rfl⟩ ⟨Nat.le_of_ble_eq_true rfl, Nat.le_of_ble_eq_true rfl⟩ ⟨Nat.le_of_ble_eq_true rfl, Nat.le_of_ble_eq_true rfl⟩ rfl (Nat.le_of_ble_eq_true rfl) ?_
  rintro _ V ⟨rfl, hS⟩
  rw [kq_48]
  replace hS : ST V KS12 12 8 2 (pT KS11 T) 4 0 (fun _ => 0) := ST_lit hS ls_12
  refine L_sipush 579 255 dL_known_579 (by decide) ?_
  refine L_icmp_ne 582 754 dL_known_582 (by decide) (fun c_0 => by first | exact absurd rfl c_0 | exact absurd c_0 (by decide) | exact absurd (by decide) c_0) (fun _ => ?_)
  refine L_aload_n 585 0 dL_known_585 rfl rfl ?_
  refine L_iconst 586 0 dL_known_586 (by decide) ?_
  refine L_iconst 587 0 dL_known_587 (by decide) ?_
  refine L_sipush 588 200 dL_known_588 (by decide) ?_
  generalize hT12 : pT KS11 T = T at hS
  refine L_cW 591 [.ref 109, .int (nI 0), .int (nI 0), .int 200] (Nat.le_refl 1) (w_setting (nI 0) (nI 0) 200 _ _ (o_setLamp hS (by decide) (by decide) ⟨⟨by decide, by decide⟩, ⟨by decide, by decide⟩⟩)) dL_known_591 lk_139 hc_setting hs_setting hp_setting rfl ⟨rfl, rfl⟩ ⟨Nat.le_of_ble_eq_true rfl, Nat.le_of_ble_eq_true rfl⟩ ⟨Nat.le_of_ble_eq_true rfl, Nat.le_of_ble_eq_true rfl⟩ rfl (Nat.le_of_ble_eq_true rfl) ?_
  rintro _ V ⟨rfl, hS⟩
  rw [kq_49]
  replace hS : ST V KS13 12 8 2 (pT KS12 T) 4 0 (fun _ => 0) := ST_lit hS ls_13
  refine L_bipush 594 80 dL_known_594 (by decide) ?_
  refine L_icmp_ne 596 754 dL_known_596 (by decide) (fun c_0 => by first | exact absurd rfl c_0 | exact absurd c_0 (by decide) | exact absurd (by decide) c_0) (fun _ => ?_)
  refine L_aload_n 599 0 dL_known_599 rfl rfl ?_
  refine L_iconst 600 0 dL_known_600 (by decide) ?_
  refine L_iconst 601 2 dL_known_601 (by decide) ?_
  refine L_iconst 602 0 dL_known_602 (by decide) ?_
  generalize hT13 : pT KS12 T = T at hS
  refine L_cW 603 [.ref 109, .int (nI 0), .int (nI 2), .int 0] (Nat.le_refl 1) (w_setting (nI 0) (nI 2) 0 _ _ (o_setLamp hS (by decide) (by decide) ⟨⟨by decide, by decide⟩, ⟨by decide, by decide⟩⟩)) dL_known_603 lk_139 hc_setting hs_setting hp_setting rfl ⟨rfl, rfl⟩ ⟨Nat.le_of_ble_eq_true rfl, Nat.le_of_ble_eq_true rfl⟩ ⟨Nat.le_of_ble_eq_true rfl, Nat.le_of_ble_eq_true rfl⟩ rfl (Nat.le_of_ble_eq_true rfl) ?_
  rintro _ V ⟨rfl, hS⟩
  rw [kq_50]
  replace hS : ST V KS14 12 8 2 (pT KS13 T) 4 0 (fun _ => 0) := ST_lit hS ls_14
  refine L_bipush 606 50 dL_known_606 (by decide) ?_
  refine L_icmp_ne 608 754 dL_known_608 (by decide) (fun c_0 => by first | exact absurd rfl c_0 | exact absurd c_0 (by decide) | exact absurd (by decide) c_0) (fun _ => ?_)
  refine L_aload_n 611 0 dL_known_611 rfl rfl ?_
  refine L_iconst 612 0 dL_known_612 (by decide) ?_
  refine L_iconst 613 0 dL_known_613 (by decide) ?_
  refine L_iconst 614 0 dL_known_614 (by decide) ?_
  refine L_iconst 615 0 dL_known_615 (by decide) ?_
  refine L_bipush 616 101 dL_known_616 (by decide) ?_
  generalize hT14 : pT KS13 T = T at hS
  refine L_cW 618 [.ref 109, .int (nI 0), .int (nI 0), .int (nI 0), .int (nI 0), .int 101] (Nat.le_refl 1) (w_painting (nI 0) (nI 0) (nI 0) (nI 0) 101 _ _ (o_paint hS (by decide) (by decide) (by decide) (by decide) ⟨by decide, by decide⟩)) dL_known_618 lk_155 hc_painting hs_painting hp_painting rfl ⟨rfl, rfl⟩ ⟨Nat.le_of_ble_eq_true rfl, Nat.le_of_ble_eq_true rfl⟩ ⟨Nat.le_of_ble_eq_true rfl, Nat.le_of_ble_eq_true rfl⟩ rfl (Nat.le_of_ble_eq_true rfl) ?_
  rintro _ V ⟨rfl, hS⟩
  rw [kq_51]
  replace hS : ST V KS15 12 8 2 (pT KS14 T) 4 0 (fun _ => 0) := ST_lit hS ls_15
  refine L_iconst 621 1 dL_known_621 (by decide) ?_
  refine L_icmp_ne 622 754 dL_known_622 (by decide) (fun c_0 => by first | exact absurd rfl c_0 | exact absurd c_0 (by decide) | exact absurd (by decide) c_0) (fun _ => ?_)
  refine L_aload_n 625 0 dL_known_625 rfl rfl ?_
  refine L_iconst 626 0 dL_known_626 (by decide) ?_
  refine L_iconst 627 0 dL_known_627 (by decide) ?_
  refine L_iconst 628 0 dL_known_628 (by decide) ?_
  refine L_cW 629 [.ref 109, .int (nI 0), .int (nI 0), .int (nI 0)] (Nat.le_refl 1) (w_lighting (nI 0) (nI 0) (nI 0) _ _ (o_light hS (by decide) (by decide) (by decide))) dL_known_629 lk_113 hc_lighting hs_lighting hp_lighting rfl ⟨rfl, rfl⟩ ⟨Nat.le_of_ble_eq_true rfl, Nat.le_of_ble_eq_true rfl⟩ ⟨Nat.le_of_ble_eq_true rfl, Nat.le_of_ble_eq_true rfl⟩ rfl (Nat.le_of_ble_eq_true rfl) ?_
  rintro _ V ⟨rfl, hS⟩
  rw [kq_52]
  refine L_bipush 632 51 dL_known_632 (by decide) ?_
  refine L_icmp_ne 634 754 dL_known_634 (by decide) (fun c_0 => by first | exact absurd rfl c_0 | exact absurd c_0 (by decide) | exact absurd (by decide) c_0) (fun _ => ?_)
  refine L_aload_n 637 0 dL_known_637 rfl rfl ?_
  refine L_iconst 638 1 dL_known_638 (by decide) ?_
  refine L_iconst 639 0 dL_known_639 (by decide) ?_
  refine L_iconst 640 0 dL_known_640 (by decide) ?_
  refine L_cW 641 [.ref 109, .int (nI 1), .int (nI 0), .int (nI 0)] (Nat.le_refl 1) (w_lighting (nI 1) (nI 0) (nI 0) _ _ (o_light hS (by decide) (by decide) (by decide))) dL_known_641 lk_113 hc_lighting hs_lighting hp_lighting rfl ⟨rfl, rfl⟩ ⟨Nat.le_of_ble_eq_true rfl, Nat.le_of_ble_eq_true rfl⟩ ⟨Nat.le_of_ble_eq_true rfl, Nat.le_of_ble_eq_true rfl⟩ rfl (Nat.le_of_ble_eq_true rfl) ?_
  rintro _ V ⟨rfl, hS⟩
  rw [kq_53]
  refine L_bipush 644 50 dL_known_644 (by decide) ?_
  refine L_icmp_ne 646 754 dL_known_646 (by decide) (fun c_0 => by first | exact absurd rfl c_0 | exact absurd c_0 (by decide) | exact absurd (by decide) c_0) (fun _ => ?_)
  refine L_aload_n 649 0 dL_known_649 rfl rfl ?_
  refine L_iconst 650 1 dL_known_650 (by decide) ?_
  refine L_bipush 651 9 dL_known_651 (by decide) ?_
  refine L_cW 653 [.ref 109, .int (nI 1), .int (nI 9)] (Nat.le_refl 1) (w_lamping (nI 1) (nI 9) _ _ (o_lamp hS (by decide) (by decide))) dL_known_653 lk_98 hc_lamping hs_lamping hp_lamping rfl ⟨rfl, rfl⟩ ⟨Nat.le_of_ble_eq_true rfl, Nat.le_of_ble_eq_true rfl⟩ ⟨Nat.le_of_ble_eq_true rfl, Nat.le_of_ble_eq_true rfl⟩ rfl (Nat.le_of_ble_eq_true rfl) ?_
  rintro _ V ⟨rfl, hS⟩
  rw [kq_54]
  refine L_bipush 656 50 dL_known_656 (by decide) ?_
  refine L_icmp_ne 658 754 dL_known_658 (by decide) (fun c_0 => by first | exact absurd rfl c_0 | exact absurd c_0 (by decide) | exact absurd (by decide) c_0) (fun _ => ?_)
  refine L_aload_n 661 0 dL_known_661 rfl rfl ?_
  refine L_iconst 662 0 dL_known_662 (by decide) ?_
  refine L_bipush 663 11 dL_known_663 (by decide) ?_
  refine L_cW 665 [.ref 109, .int (nI 0), .int (nI 11)] (Nat.le_refl 1) (w_lamping (nI 0) (nI 11) _ _ (o_lamp hS (by decide) (by decide))) dL_known_665 lk_98 hc_lamping hs_lamping hp_lamping rfl ⟨rfl, rfl⟩ ⟨Nat.le_of_ble_eq_true rfl, Nat.le_of_ble_eq_true rfl⟩ ⟨Nat.le_of_ble_eq_true rfl, Nat.le_of_ble_eq_true rfl⟩ rfl (Nat.le_of_ble_eq_true rfl) ?_
  rintro _ V ⟨rfl, hS⟩
  rw [kq_55]
  refine L_iconst 668 1 dL_known_668 (by decide) ?_
  refine L_icmp_ne 669 754 dL_known_669 (by decide) (fun c_0 => by first | exact absurd rfl c_0 | exact absurd c_0 (by decide) | exact absurd (by decide) c_0) (fun _ => ?_)
  refine L_aload_n 672 0 dL_known_672 rfl rfl ?_
  refine L_bipush 673 13 dL_known_673 (by decide) ?_
  refine L_cW 675 [.ref 109, .int (nI 13)] (Nat.le_refl 1) (w_all (nI 13) _ _ (o_whole hS (by decide))) dL_known_675 lk_92 hc_all hs_all hp_all rfl ⟨rfl, rfl⟩ ⟨Nat.le_of_ble_eq_true rfl, Nat.le_of_ble_eq_true rfl⟩ ⟨Nat.le_of_ble_eq_true rfl, Nat.le_of_ble_eq_true rfl⟩ rfl (Nat.le_of_ble_eq_true rfl) ?_
  rintro _ V ⟨rfl, hS⟩
  rw [kq_56]
  refine L_iconst 678 1 dL_known_678 (by decide) ?_
  refine L_icmp_ne 679 754 dL_known_679 (by decide) (fun c_0 => by first | exact absurd rfl c_0 | exact absurd c_0 (by decide) | exact absurd (by decide) c_0) (fun _ => ?_)
  refine L_aload_n 682 0 dL_known_682 rfl rfl ?_
  refine L_iconst 683 0 dL_known_683 (by decide) ?_
  refine L_iconst 684 0 dL_known_684 (by decide) ?_
  refine L_iconst 685 3 dL_known_685 (by decide) ?_
  refine L_cW 686 [.ref 109, .int (nI 0), .int (nI 0), .int (nI 3)] (Nat.le_refl 1) (w_placing (nI 0) (nI 0) (nI 3) _ _ (o_place hS (by decide) (by decide) (by decide))) dL_known_686 lk_110 hc_placing hs_placing hp_placing rfl ⟨rfl, rfl⟩ ⟨Nat.le_of_ble_eq_true rfl, Nat.le_of_ble_eq_true rfl⟩ ⟨Nat.le_of_ble_eq_true rfl, Nat.le_of_ble_eq_true rfl⟩ rfl (Nat.le_of_ble_eq_true rfl) ?_
  rintro _ V ⟨rfl, hS⟩
  rw [kq_57]
  refine L_iconst 689 3 dL_known_689 (by decide) ?_
  refine L_icmp_ne 690 754 dL_known_690 (by decide) (fun c_0 => by first | exact absurd rfl c_0 | exact absurd c_0 (by decide) | exact absurd (by decide) c_0) (fun _ => ?_)
  refine L_aload_n 693 0 dL_known_693 rfl rfl ?_
  refine L_iconst 694 1 dL_known_694 (by decide) ?_
  refine L_iconst 695 0 dL_known_695 (by decide) ?_
  refine L_bipush 696 30 dL_known_696 (by decide) ?_
  generalize hT15 : pT KS14 T = T at hS
  refine L_cW 698 [.ref 109, .int (nI 1), .int (nI 0), .int 30] (Nat.le_refl 1) (w_setting (nI 1) (nI 0) 30 _ _ (o_setLamp hS (by decide) (by decide) ⟨⟨by decide, by decide⟩, ⟨by decide, by decide⟩⟩)) dL_known_698 lk_139 hc_setting hs_setting hp_setting rfl ⟨rfl, rfl⟩ ⟨Nat.le_of_ble_eq_true rfl, Nat.le_of_ble_eq_true rfl⟩ ⟨Nat.le_of_ble_eq_true rfl, Nat.le_of_ble_eq_true rfl⟩ rfl (Nat.le_of_ble_eq_true rfl) ?_
  rintro _ V ⟨rfl, hS⟩
  rw [kq_58]
  replace hS : ST V KS16 12 8 2 (pT KS15 T) 4 0 (fun _ => 0) := ST_lit hS ls_16
  refine L_bipush 701 100 dL_known_701 (by decide) ?_
  refine L_icmp_ne 703 754 dL_known_703 (by decide) (fun c_0 => by first | exact absurd rfl c_0 | exact absurd c_0 (by decide) | exact absurd (by decide) c_0) (fun _ => ?_)
  refine L_aload_n 706 0 dL_known_706 rfl rfl ?_
  refine L_iconst 707 0 dL_known_707 (by decide) ?_
  refine L_iconst 708 0 dL_known_708 (by decide) ?_
  refine L_iconst 709 0 dL_known_709 (by decide) ?_
  refine L_cW 710 [.ref 109, .int (nI 0), .int (nI 0), .int (nI 0)] (Nat.le_refl 1) (w_lighting (nI 0) (nI 0) (nI 0) _ _ (o_light hS (by decide) (by decide) (by decide))) dL_known_710 lk_113 hc_lighting hs_lighting hp_lighting rfl ⟨rfl, rfl⟩ ⟨Nat.le_of_ble_eq_true rfl, Nat.le_of_ble_eq_true rfl⟩ ⟨Nat.le_of_ble_eq_true rfl, Nat.le_of_ble_eq_true rfl⟩ rfl (Nat.le_of_ble_eq_true rfl) ?_
  rintro _ V ⟨rfl, hS⟩
  rw [kq_59]
  refine L_bipush 713 71 dL_known_713 (by decide) ?_
  refine L_icmp_ne 715 754 dL_known_715 (by decide) (fun c_0 => by first | exact absurd rfl c_0 | exact absurd c_0 (by decide) | exact absurd (by decide) c_0) (fun _ => ?_)
  refine L_aload_n 718 0 dL_known_718 rfl rfl ?_
  refine L_iconst 719 1 dL_known_719 (by decide) ?_
  refine L_iconst 720 0 dL_known_720 (by decide) ?_
  refine L_iconst 721 0 dL_known_721 (by decide) ?_
  refine L_cW 722 [.ref 109, .int (nI 1), .int (nI 0), .int (nI 0)] (Nat.le_refl 1) (w_lighting (nI 1) (nI 0) (nI 0) _ _ (o_light hS (by decide) (by decide) (by decide))) dL_known_722 lk_113 hc_lighting hs_lighting hp_lighting rfl ⟨rfl, rfl⟩ ⟨Nat.le_of_ble_eq_true rfl, Nat.le_of_ble_eq_true rfl⟩ ⟨Nat.le_of_ble_eq_true rfl, Nat.le_of_ble_eq_true rfl⟩ rfl (Nat.le_of_ble_eq_true rfl) ?_
  rintro _ V ⟨rfl, hS⟩
  rw [kq_60]
  refine L_bipush 725 30 dL_known_725 (by decide) ?_
  refine L_icmp_ne 727 754 dL_known_727 (by decide) (fun c_0 => by first | exact absurd rfl c_0 | exact absurd c_0 (by decide) | exact absurd (by decide) c_0) (fun _ => ?_)
  refine L_aload_n 730 0 dL_known_730 rfl rfl ?_
  refine L_iconst 731 0 dL_known_731 (by decide) ?_
  refine L_cW 732 [.ref 109, .int (nI 0)] (Nat.le_refl 1) (w_wrongBut (nI 0) _ _ (o_wrongWithout hS (by decide))) dL_known_732 lk_149 hc_wrongBut hs_wrongBut hp_wrongBut rfl ⟨rfl, rfl⟩ ⟨Nat.le_of_ble_eq_true rfl, Nat.le_of_ble_eq_true rfl⟩ ⟨Nat.le_of_ble_eq_true rfl, Nat.le_of_ble_eq_true rfl⟩ rfl (Nat.le_of_ble_eq_true rfl) ?_
  rintro _ V ⟨rfl, hS⟩
  rw [kq_61]
  refine L_iconst 735 2 dL_known_735 (by decide) ?_
  refine L_icmp_ne 736 754 dL_known_736 (by decide) (fun c_0 => by first | exact absurd rfl c_0 | exact absurd c_0 (by decide) | exact absurd (by decide) c_0) (fun _ => ?_)
  refine L_aload_n 739 0 dL_known_739 rfl rfl ?_
  refine L_iconst 740 1 dL_known_740 (by decide) ?_
  refine L_cW 741 [.ref 109, .int (nI 1)] (Nat.le_refl 1) (w_wrongBut (nI 1) _ _ (o_wrongWithout hS (by decide))) dL_known_741 lk_149 hc_wrongBut hs_wrongBut hp_wrongBut rfl ⟨rfl, rfl⟩ ⟨Nat.le_of_ble_eq_true rfl, Nat.le_of_ble_eq_true rfl⟩ ⟨Nat.le_of_ble_eq_true rfl, Nat.le_of_ble_eq_true rfl⟩ rfl (Nat.le_of_ble_eq_true rfl) ?_
  rintro _ V ⟨rfl, hS⟩
  rw [kq_62]
  refine L_if_ne 744 754 dL_known_744 (by decide) (fun c_0 => by first | exact absurd rfl c_0 | exact absurd c_0 (by decide) | exact absurd (by decide) c_0) (fun _ => ?_)
  refine L_aload_n 747 0 dL_known_747 rfl rfl ?_
  refine L_cC 748 (Nat.le_refl 1) (o_dearestLamp hS) dL_known_748 lk_301 wm_X6_dearestLamp hq_dearestLamp rfl ⟨rfl, rfl⟩ ⟨Nat.le_of_ble_eq_true rfl, Nat.le_of_ble_eq_true rfl⟩ ⟨Nat.le_of_ble_eq_true rfl, Nat.le_of_ble_eq_true rfl⟩ rfl (Nat.le_of_ble_eq_true rfl) ?_
  rintro _ V ⟨rfl, hS⟩
  rw [kq_63]
  refine L_if_eq 751 756 dL_known_751 (by decide) (fun _ => ?_) (fun c_0 => by first | exact absurd rfl c_0 | exact absurd c_0 (by decide) | exact absurd (by decide) c_0)
  refine L_aload_n 756 0 dL_known_756 rfl rfl ?_
  refine L_iconst 757 1 dL_known_757 (by decide) ?_
  refine L_iconst 758 1 dL_known_758 (by decide) ?_
  refine L_bipush 759 25 dL_known_759 (by decide) ?_
  generalize hT16 : pT KS15 T = T at hS
  refine L_cW 761 [.ref 109, .int (nI 1), .int (nI 1), .int 25] (Nat.le_refl 1) (w_setting (nI 1) (nI 1) 25 _ _ (o_setLamp hS (by decide) (by decide) ⟨⟨by decide, by decide⟩, ⟨by decide, by decide⟩⟩)) dL_known_761 lk_139 hc_setting hs_setting hp_setting rfl ⟨rfl, rfl⟩ ⟨Nat.le_of_ble_eq_true rfl, Nat.le_of_ble_eq_true rfl⟩ ⟨Nat.le_of_ble_eq_true rfl, Nat.le_of_ble_eq_true rfl⟩ rfl (Nat.le_of_ble_eq_true rfl) ?_
  rintro _ V ⟨rfl, hS⟩
  rw [kq_64]
  replace hS : ST V KS17 12 8 2 (pT KS16 T) 4 0 (fun _ => 0) := ST_lit hS ls_17
  refine L_if_ne 764 966 dL_known_764 (by decide) (fun c_0 => by first | exact absurd rfl c_0 | exact absurd c_0 (by decide) | exact absurd (by decide) c_0) (fun _ => ?_)
  refine L_aload_n 767 0 dL_known_767 rfl rfl ?_
  refine L_iconst 768 0 dL_known_768 (by decide) ?_
  refine L_iconst 769 1 dL_known_769 (by decide) ?_
  refine L_bipush 770 90 dL_known_770 (by decide) ?_
  generalize hT17 : pT KS16 T = T at hS
  refine L_cW 772 [.ref 109, .int (nI 0), .int (nI 1), .int 90] (Nat.le_refl 1) (w_setting (nI 0) (nI 1) 90 _ _ (o_setLamp hS (by decide) (by decide) ⟨⟨by decide, by decide⟩, ⟨by decide, by decide⟩⟩)) dL_known_772 lk_139 hc_setting hs_setting hp_setting rfl ⟨rfl, rfl⟩ ⟨Nat.le_of_ble_eq_true rfl, Nat.le_of_ble_eq_true rfl⟩ ⟨Nat.le_of_ble_eq_true rfl, Nat.le_of_ble_eq_true rfl⟩ rfl (Nat.le_of_ble_eq_true rfl) ?_
  rintro _ V ⟨rfl, hS⟩
  rw [kq_65]
  replace hS : ST V KS18 12 8 2 (pT KS17 T) 4 0 (fun _ => 0) := ST_lit hS ls_18
  refine L_if_ne 775 966 dL_known_775 (by decide) (fun c_0 => by first | exact absurd rfl c_0 | exact absurd c_0 (by decide) | exact absurd (by decide) c_0) (fun _ => ?_)
  refine L_aload_n 778 0 dL_known_778 rfl rfl ?_
  refine L_iconst 779 0 dL_known_779 (by decide) ?_
  refine L_iconst 780 0 dL_known_780 (by decide) ?_
  refine L_iconst 781 1 dL_known_781 (by decide) ?_
  refine L_cW 782 [.ref 109, .int (nI 0), .int (nI 0), .int (nI 1)] (Nat.le_refl 1) (w_placing (nI 0) (nI 0) (nI 1) _ _ (o_place hS (by decide) (by decide) (by decide))) dL_known_782 lk_110 hc_placing hs_placing hp_placing rfl ⟨rfl, rfl⟩ ⟨Nat.le_of_ble_eq_true rfl, Nat.le_of_ble_eq_true rfl⟩ ⟨Nat.le_of_ble_eq_true rfl, Nat.le_of_ble_eq_true rfl⟩ rfl (Nat.le_of_ble_eq_true rfl) ?_
  rintro _ V ⟨rfl, hS⟩
  rw [kq_66]
  refine L_bipush 785 115 dL_known_785 (by decide) ?_
  refine L_icmp_ne 787 966 dL_known_787 (by decide) (fun c_0 => by first | exact absurd rfl c_0 | exact absurd c_0 (by decide) | exact absurd (by decide) c_0) (fun _ => ?_)
  refine L_aload_n 790 0 dL_known_790 rfl rfl ?_
  refine L_iconst 791 0 dL_known_791 (by decide) ?_
  refine L_iconst 792 0 dL_known_792 (by decide) ?_
  refine L_iconst 793 0 dL_known_793 (by decide) ?_
  refine L_cW 794 [.ref 109, .int (nI 0), .int (nI 0), .int (nI 0)] (Nat.le_refl 1) (w_lighting (nI 0) (nI 0) (nI 0) _ _ (o_light hS (by decide) (by decide) (by decide))) dL_known_794 lk_113 hc_lighting hs_lighting hp_lighting rfl ⟨rfl, rfl⟩ ⟨Nat.le_of_ble_eq_true rfl, Nat.le_of_ble_eq_true rfl⟩ ⟨Nat.le_of_ble_eq_true rfl, Nat.le_of_ble_eq_true rfl⟩ rfl (Nat.le_of_ble_eq_true rfl) ?_
  rintro _ V ⟨rfl, hS⟩
  rw [kq_67]
  refine L_bipush 797 90 dL_known_797 (by decide) ?_
  refine L_icmp_ne 799 966 dL_known_799 (by decide) (fun c_0 => by first | exact absurd rfl c_0 | exact absurd c_0 (by decide) | exact absurd (by decide) c_0) (fun _ => ?_)
  refine L_aload_n 802 0 dL_known_802 rfl rfl ?_
  refine L_iconst 803 1 dL_known_803 (by decide) ?_
  refine L_iconst 804 0 dL_known_804 (by decide) ?_
  refine L_iconst 805 0 dL_known_805 (by decide) ?_
  refine L_cW 806 [.ref 109, .int (nI 1), .int (nI 0), .int (nI 0)] (Nat.le_refl 1) (w_lighting (nI 1) (nI 0) (nI 0) _ _ (o_light hS (by decide) (by decide) (by decide))) dL_known_806 lk_113 hc_lighting hs_lighting hp_lighting rfl ⟨rfl, rfl⟩ ⟨Nat.le_of_ble_eq_true rfl, Nat.le_of_ble_eq_true rfl⟩ ⟨Nat.le_of_ble_eq_true rfl, Nat.le_of_ble_eq_true rfl⟩ rfl (Nat.le_of_ble_eq_true rfl) ?_
  rintro _ V ⟨rfl, hS⟩
  rw [kq_68]
  refine L_bipush 809 25 dL_known_809 (by decide) ?_
  refine L_icmp_ne 811 966 dL_known_811 (by decide) (fun c_0 => by first | exact absurd rfl c_0 | exact absurd c_0 (by decide) | exact absurd (by decide) c_0) (fun _ => ?_)
  refine L_aload_n 814 0 dL_known_814 rfl rfl ?_
  refine L_iconst 815 0 dL_known_815 (by decide) ?_
  refine L_iconst 816 0 dL_known_816 (by decide) ?_
  refine L_iconst 817 2 dL_known_817 (by decide) ?_
  refine L_cW 818 [.ref 109, .int (nI 0), .int (nI 0), .int (nI 2)] (Nat.le_refl 1) (w_placing (nI 0) (nI 0) (nI 2) _ _ (o_place hS (by decide) (by decide) (by decide))) dL_known_818 lk_110 hc_placing hs_placing hp_placing rfl ⟨rfl, rfl⟩ ⟨Nat.le_of_ble_eq_true rfl, Nat.le_of_ble_eq_true rfl⟩ ⟨Nat.le_of_ble_eq_true rfl, Nat.le_of_ble_eq_true rfl⟩ rfl (Nat.le_of_ble_eq_true rfl) ?_
  rintro _ V ⟨rfl, hS⟩
  rw [kq_69]
  refine L_iconst 821 3 dL_known_821 (by decide) ?_
  refine L_icmp_ne 822 966 dL_known_822 (by decide) (fun c_0 => by first | exact absurd rfl c_0 | exact absurd c_0 (by decide) | exact absurd (by decide) c_0) (fun _ => ?_)
  refine L_aload_n 825 0 dL_known_825 rfl rfl ?_
  refine L_iconst 826 0 dL_known_826 (by decide) ?_
  refine L_iconst 827 0 dL_known_827 (by decide) ?_
  refine L_cW 828 [.ref 109, .int 0, .int 0] (Nat.le_refl 1) (w_wrongBy 0 0 _ _ (o_wrongShifted hS ⟨⟨by decide, by decide⟩, ⟨by decide, by decide⟩⟩)) dL_known_828 lk_177 hc_wrongBy hs_wrongBy hp_wrongBy rfl ⟨rfl, rfl⟩ ⟨Nat.le_of_ble_eq_true rfl, Nat.le_of_ble_eq_true rfl⟩ ⟨Nat.le_of_ble_eq_true rfl, Nat.le_of_ble_eq_true rfl⟩ rfl (Nat.le_of_ble_eq_true rfl) ?_
  rintro _ V ⟨rfl, hS⟩
  rw [kq_70]
  refine L_iconst 831 1 dL_known_831 (by decide) ?_
  refine L_icmp_ne 832 966 dL_known_832 (by decide) (fun c_0 => by first | exact absurd rfl c_0 | exact absurd c_0 (by decide) | exact absurd (by decide) c_0) (fun _ => ?_)
  refine L_aload_n 835 0 dL_known_835 rfl rfl ?_
  refine L_iconst 836 (-1) dL_known_836 (by decide) ?_
  refine L_iconst 837 0 dL_known_837 (by decide) ?_
  refine L_cW 838 [.ref 109, .int (-1), .int 0] (Nat.le_refl 1) (w_wrongBy (-1) 0 _ _ (o_wrongShifted hS ⟨⟨by decide, by decide⟩, ⟨by decide, by decide⟩⟩)) dL_known_838 lk_177 hc_wrongBy hs_wrongBy hp_wrongBy rfl ⟨rfl, rfl⟩ ⟨Nat.le_of_ble_eq_true rfl, Nat.le_of_ble_eq_true rfl⟩ ⟨Nat.le_of_ble_eq_true rfl, Nat.le_of_ble_eq_true rfl⟩ rfl (Nat.le_of_ble_eq_true rfl) ?_
  rintro _ V ⟨rfl, hS⟩
  rw [kq_71]
  refine L_iconst 841 3 dL_known_841 (by decide) ?_
  refine L_icmp_ne 842 966 dL_known_842 (by decide) (fun c_0 => by first | exact absurd rfl c_0 | exact absurd c_0 (by decide) | exact absurd (by decide) c_0) (fun _ => ?_)
  refine L_aload_n 845 0 dL_known_845 rfl rfl ?_
  refine L_iconst 846 0 dL_known_846 (by decide) ?_
  refine L_cW 847 [.ref 109, .int (nI 0)] (Nat.le_refl 1) (w_besting (nI 0) _ _ (o_bestShift hS (by decide))) dL_known_847 lk_180 hc_besting hs_besting hp_besting rfl ⟨rfl, rfl⟩ ⟨Nat.le_of_ble_eq_true rfl, Nat.le_of_ble_eq_true rfl⟩ ⟨Nat.le_of_ble_eq_true rfl, Nat.le_of_ble_eq_true rfl⟩ rfl (Nat.le_of_ble_eq_true rfl) ?_
  rintro _ V ⟨rfl, hS⟩
  rw [kq_72]
  refine L_sipush 850 1010 dL_known_850 (by decide) ?_
  refine L_icmp_ne 853 966 dL_known_853 (by decide) (fun c_0 => by first | exact absurd rfl c_0 | exact absurd c_0 (by decide) | exact absurd (by decide) c_0) (fun _ => ?_)
  refine L_aload_n 856 0 dL_known_856 rfl rfl ?_
  refine L_iconst 857 1 dL_known_857 (by decide) ?_
  refine L_iconst 858 0 dL_known_858 (by decide) ?_
  generalize hT18 : pT KS17 T = T at hS
  refine L_cW 859 [.ref 109, .int 1, .int 0] (Nat.le_refl 1) (w_shifting 1 0 _ _ (o_shift hS ⟨⟨by decide, by decide⟩, ⟨by decide, by decide⟩⟩)) dL_known_859 lk_171 hc_shifting hs_shifting hp_shifting rfl ⟨rfl, rfl⟩ ⟨Nat.le_of_ble_eq_true rfl, Nat.le_of_ble_eq_true rfl⟩ ⟨Nat.le_of_ble_eq_true rfl, Nat.le_of_ble_eq_true rfl⟩ rfl (Nat.le_of_ble_eq_true rfl) ?_
  rintro _ V ⟨rfl, hS⟩
  rw [kq_73]
  replace hS : ST V KS19 12 8 2 (pT KS18 T) 4 0 (fun _ => 0) := ST_lit hS ls_19
  refine L_iconst 862 1 dL_known_862 (by decide) ?_
  refine L_icmp_ne 863 966 dL_known_863 (by decide) (fun c_0 => by first | exact absurd rfl c_0 | exact absurd c_0 (by decide) | exact absurd (by decide) c_0) (fun _ => ?_)
  refine L_aload_n 866 0 dL_known_866 rfl rfl ?_
  refine L_iconst 867 1 dL_known_867 (by decide) ?_
  refine L_iconst 868 0 dL_known_868 (by decide) ?_
  refine L_iconst 869 2 dL_known_869 (by decide) ?_
  refine L_cW 870 [.ref 109, .int (nI 1), .int (nI 0), .int (nI 2)] (Nat.le_refl 1) (w_placing (nI 1) (nI 0) (nI 2) _ _ (o_place hS (by decide) (by decide) (by decide))) dL_known_870 lk_110 hc_placing hs_placing hp_placing rfl ⟨rfl, rfl⟩ ⟨Nat.le_of_ble_eq_true rfl, Nat.le_of_ble_eq_true rfl⟩ ⟨Nat.le_of_ble_eq_true rfl, Nat.le_of_ble_eq_true rfl⟩ rfl (Nat.le_of_ble_eq_true rfl) ?_
  rintro _ V ⟨rfl, hS⟩
  rw [kq_74]
  refine L_iconst 873 1 dL_known_873 (by decide) ?_
  refine L_icmp_ne 874 966 dL_known_874 (by decide) (fun c_0 => by first | exact absurd rfl c_0 | exact absurd c_0 (by decide) | exact absurd (by decide) c_0) (fun _ => ?_)
  refine L_aload_n 877 0 dL_known_877 rfl rfl ?_
  refine L_iconst 878 0 dL_known_878 (by decide) ?_
  refine L_iconst 879 0 dL_known_879 (by decide) ?_
  refine L_iconst 880 3 dL_known_880 (by decide) ?_
  refine L_cW 881 [.ref 109, .int (nI 0), .int (nI 0), .int (nI 3)] (Nat.le_refl 1) (w_placing (nI 0) (nI 0) (nI 3) _ _ (o_place hS (by decide) (by decide) (by decide))) dL_known_881 lk_110 hc_placing hs_placing hp_placing rfl ⟨rfl, rfl⟩ ⟨Nat.le_of_ble_eq_true rfl, Nat.le_of_ble_eq_true rfl⟩ ⟨Nat.le_of_ble_eq_true rfl, Nat.le_of_ble_eq_true rfl⟩ rfl (Nat.le_of_ble_eq_true rfl) ?_
  rintro _ V ⟨rfl, hS⟩
  rw [kq_75]
  refine L_iconst 884 1 dL_known_884 (by decide) ?_
  refine L_icmp_ne 885 966 dL_known_885 (by decide) (fun c_0 => by first | exact absurd rfl c_0 | exact absurd c_0 (by decide) | exact absurd (by decide) c_0) (fun _ => ?_)
  refine L_aload_n 888 0 dL_known_888 rfl rfl ?_
  refine L_iconst 889 0 dL_known_889 (by decide) ?_
  refine L_iconst 890 0 dL_known_890 (by decide) ?_
  refine L_iconst 891 1 dL_known_891 (by decide) ?_
  refine L_cW 892 [.ref 109, .int (nI 0), .int (nI 0), .int (nI 1)] (Nat.le_refl 1) (w_placing (nI 0) (nI 0) (nI 1) _ _ (o_place hS (by decide) (by decide) (by decide))) dL_known_892 lk_110 hc_placing hs_placing hp_placing rfl ⟨rfl, rfl⟩ ⟨Nat.le_of_ble_eq_true rfl, Nat.le_of_ble_eq_true rfl⟩ ⟨Nat.le_of_ble_eq_true rfl, Nat.le_of_ble_eq_true rfl⟩ rfl (Nat.le_of_ble_eq_true rfl) ?_
  rintro _ V ⟨rfl, hS⟩
  rw [kq_76]
  refine L_bipush 895 101 dL_known_895 (by decide) ?_
  refine L_icmp_ne 897 966 dL_known_897 (by decide) (fun c_0 => by first | exact absurd rfl c_0 | exact absurd c_0 (by decide) | exact absurd (by decide) c_0) (fun _ => ?_)
  refine L_aload_n 900 0 dL_known_900 rfl rfl ?_
  refine L_iconst 901 0 dL_known_901 (by decide) ?_
  refine L_iconst 902 0 dL_known_902 (by decide) ?_
  generalize hT19 : pT KS18 T = T at hS
  refine L_cW 903 [.ref 109, .int (nI 0), .int 0] (Nat.le_refl 1) (w_working (nI 0) 0 _ _ (o_setWorks hS (by decide))) dL_known_903 lk_142 hc_working hs_working hp_working rfl ⟨rfl, rfl⟩ ⟨Nat.le_of_ble_eq_true rfl, Nat.le_of_ble_eq_true rfl⟩ ⟨Nat.le_of_ble_eq_true rfl, Nat.le_of_ble_eq_true rfl⟩ rfl (Nat.le_of_ble_eq_true rfl) ?_
  rintro _ V ⟨rfl, hS⟩
  rw [kq_77]
  replace hS : ST V KS20 12 8 2 (pT KS19 T) 4 0 (fun _ => 0) := ST_lit hS ls_20
  refine L_iconst 906 1 dL_known_906 (by decide) ?_
  refine L_icmp_ne 907 966 dL_known_907 (by decide) (fun c_0 => by first | exact absurd rfl c_0 | exact absurd c_0 (by decide) | exact absurd (by decide) c_0) (fun _ => ?_)
  refine L_aload_n 910 0 dL_known_910 rfl rfl ?_
  refine L_iconst 911 0 dL_known_911 (by decide) ?_
  refine L_iconst 912 0 dL_known_912 (by decide) ?_
  refine L_iconst 913 3 dL_known_913 (by decide) ?_
  refine L_cW 914 [.ref 109, .int (nI 0), .int (nI 0), .int (nI 3)] (Nat.le_refl 1) (w_placing (nI 0) (nI 0) (nI 3) _ _ (o_place hS (by decide) (by decide) (by decide))) dL_known_914 lk_110 hc_placing hs_placing hp_placing rfl ⟨rfl, rfl⟩ ⟨Nat.le_of_ble_eq_true rfl, Nat.le_of_ble_eq_true rfl⟩ ⟨Nat.le_of_ble_eq_true rfl, Nat.le_of_ble_eq_true rfl⟩ rfl (Nat.le_of_ble_eq_true rfl) ?_
  rintro _ V ⟨rfl, hS⟩
  rw [kq_78]
  refine L_if_ne 917 966 dL_known_917 (by decide) (fun c_0 => by first | exact absurd rfl c_0 | exact absurd c_0 (by decide) | exact absurd (by decide) c_0) (fun _ => ?_)
  refine L_aload_n 920 0 dL_known_920 rfl rfl ?_
  refine L_iconst 921 0 dL_known_921 (by decide) ?_
  refine L_bipush 922 7 dL_known_922 (by decide) ?_
  refine L_cW 924 [.ref 109, .int (nI 0), .int (nI 7)] (Nat.le_refl 1) (w_lamping (nI 0) (nI 7) _ _ (o_lamp hS (by decide) (by decide))) dL_known_924 lk_98 hc_lamping hs_lamping hp_lamping rfl ⟨rfl, rfl⟩ ⟨Nat.le_of_ble_eq_true rfl, Nat.le_of_ble_eq_true rfl⟩ ⟨Nat.le_of_ble_eq_true rfl, Nat.le_of_ble_eq_true rfl⟩ rfl (Nat.le_of_ble_eq_true rfl) ?_
  rintro _ V ⟨rfl, hS⟩
  rw [kq_79]
  refine L_if_ne 927 966 dL_known_927 (by decide) (fun c_0 => by first | exact absurd rfl c_0 | exact absurd c_0 (by decide) | exact absurd (by decide) c_0) (fun _ => ?_)
  refine L_aload_n 930 0 dL_known_930 rfl rfl ?_
  refine L_iconst 931 0 dL_known_931 (by decide) ?_
  refine L_bipush 932 6 dL_known_932 (by decide) ?_
  refine L_cW 934 [.ref 109, .int (nI 0), .int (nI 6)] (Nat.le_refl 1) (w_lamping (nI 0) (nI 6) _ _ (o_lamp hS (by decide) (by decide))) dL_known_934 lk_98 hc_lamping hs_lamping hp_lamping rfl ⟨rfl, rfl⟩ ⟨Nat.le_of_ble_eq_true rfl, Nat.le_of_ble_eq_true rfl⟩ ⟨Nat.le_of_ble_eq_true rfl, Nat.le_of_ble_eq_true rfl⟩ rfl (Nat.le_of_ble_eq_true rfl) ?_
  rintro _ V ⟨rfl, hS⟩
  rw [kq_80]
  refine L_iconst 937 1 dL_known_937 (by decide) ?_
  refine L_icmp_ne 938 966 dL_known_938 (by decide) (fun c_0 => by first | exact absurd rfl c_0 | exact absurd c_0 (by decide) | exact absurd (by decide) c_0) (fun _ => ?_)
  refine L_aload_n 941 0 dL_known_941 rfl rfl ?_
  refine L_iconst 942 5 dL_known_942 (by decide) ?_
  refine L_cW 943 [.ref 109, .int (nI 5)] (Nat.le_refl 1) (w_all (nI 5) _ _ (o_whole hS (by decide))) dL_known_943 lk_92 hc_all hs_all hp_all rfl ⟨rfl, rfl⟩ ⟨Nat.le_of_ble_eq_true rfl, Nat.le_of_ble_eq_true rfl⟩ ⟨Nat.le_of_ble_eq_true rfl, Nat.le_of_ble_eq_true rfl⟩ rfl (Nat.le_of_ble_eq_true rfl) ?_
  rintro _ V ⟨rfl, hS⟩
  rw [kq_81]
  refine L_iconst 946 1 dL_known_946 (by decide) ?_
  refine L_icmp_ne 947 966 dL_known_947 (by decide) (fun c_0 => by first | exact absurd rfl c_0 | exact absurd c_0 (by decide) | exact absurd (by decide) c_0) (fun _ => ?_)
  refine L_aload_n 950 0 dL_known_950 rfl rfl ?_
  refine L_iconst 951 0 dL_known_951 (by decide) ?_
  refine L_iconst 952 1 dL_known_952 (by decide) ?_
  generalize hT20 : pT KS19 T = T at hS
  refine L_cW 953 [.ref 109, .int (nI 0), .int 1] (Nat.le_refl 1) (w_working (nI 0) 1 _ _ (o_setWorks hS (by decide))) dL_known_953 lk_142 hc_working hs_working hp_working rfl ⟨rfl, rfl⟩ ⟨Nat.le_of_ble_eq_true rfl, Nat.le_of_ble_eq_true rfl⟩ ⟨Nat.le_of_ble_eq_true rfl, Nat.le_of_ble_eq_true rfl⟩ rfl (Nat.le_of_ble_eq_true rfl) ?_
  rintro _ V ⟨rfl, hS⟩
  rw [kq_82]
  replace hS : ST V KS21 12 8 2 (pT KS20 T) 4 0 (fun _ => 0) := ST_lit hS ls_21
  refine L_if_ne 956 966 dL_known_956 (by decide) (fun c_0 => by first | exact absurd rfl c_0 | exact absurd c_0 (by decide) | exact absurd (by decide) c_0) (fun _ => ?_)
  refine L_aload_n 959 0 dL_known_959 rfl rfl ?_
  refine L_cT 960 [.ref 109] 312 8214 (Nat.le_refl 1) (w_refused hS) dL_known_960 lk_294 hc_refused hs_refused hp_refused rfl ⟨rfl, rfl⟩ ⟨Nat.le_of_ble_eq_true rfl, Nat.le_of_ble_eq_true rfl⟩ ⟨Nat.le_of_ble_eq_true rfl, Nat.le_of_ble_eq_true rfl⟩ rfl (Nat.le_of_ble_eq_true rfl) ?_
  rintro _ V ⟨rfl, hS⟩
  refine L_if_ne 963 968 dL_known_963 (by decide) (fun _ => ?_) (fun c_0 => by first | exact absurd rfl c_0 | exact absurd c_0 (by decide) | exact absurd (by decide) c_0)
  refine L_aload_n 968 0 dL_known_968 rfl rfl ?_
  refine L_iconst 969 1 dL_known_969 (by decide) ?_
  refine L_iconst 970 1 dL_known_970 (by decide) ?_
  generalize hT21 : pT KS20 T = T at hS
  refine L_cW 971 [.ref 109, .int 1, .int 1] (Nat.le_refl 1) (w_beginning 1 1 _ _ (o_begin hS ⟨⟨by decide, by decide⟩, ⟨by decide, by decide⟩⟩)) dL_known_971 lk_165 hc_beginning hs_beginning hp_beginning rfl ⟨rfl, rfl⟩ ⟨Nat.le_of_ble_eq_true rfl, Nat.le_of_ble_eq_true rfl⟩ ⟨Nat.le_of_ble_eq_true rfl, Nat.le_of_ble_eq_true rfl⟩ rfl (Nat.le_of_ble_eq_true rfl) ?_
  rintro _ V ⟨rfl, hS⟩
  rw [kq_83]
  replace hS : ST V KS22 1 1 2 (pT KS21 T) 4 0 (fun _ => 0) := ST_lit hS ls_22
  refine L_bipush 974 96 dL_known_974 (by decide) ?_
  refine L_icmp_ne 976 1109 dL_known_976 (by decide) (fun c_0 => by first | exact absurd rfl c_0 | exact absurd c_0 (by decide) | exact absurd (by decide) c_0) (fun _ => ?_)
  refine L_aload_n 979 0 dL_known_979 rfl rfl ?_
  refine L_iconst 980 4 dL_known_980 (by decide) ?_
  refine L_cW 981 [.ref 109, .int (nI 4)] (Nat.le_refl 1) (w_all (nI 4) _ _ (o_whole hS (by decide))) dL_known_981 lk_92 hc_all hs_all hp_all rfl ⟨rfl, rfl⟩ ⟨Nat.le_of_ble_eq_true rfl, Nat.le_of_ble_eq_true rfl⟩ ⟨Nat.le_of_ble_eq_true rfl, Nat.le_of_ble_eq_true rfl⟩ rfl (Nat.le_of_ble_eq_true rfl) ?_
  rintro _ V ⟨rfl, hS⟩
  rw [kq_84]
  refine L_iconst 984 2 dL_known_984 (by decide) ?_
  refine L_icmp_ne 985 1109 dL_known_985 (by decide) (fun c_0 => by first | exact absurd rfl c_0 | exact absurd c_0 (by decide) | exact absurd (by decide) c_0) (fun _ => ?_)
  refine L_aload_n 988 0 dL_known_988 rfl rfl ?_
  refine L_iconst 989 2 dL_known_989 (by decide) ?_
  refine L_cW 990 [.ref 109, .int (nI 2)] (Nat.le_refl 1) (w_all (nI 2) _ _ (o_whole hS (by decide))) dL_known_990 lk_92 hc_all hs_all hp_all rfl ⟨rfl, rfl⟩ ⟨Nat.le_of_ble_eq_true rfl, Nat.le_of_ble_eq_true rfl⟩ ⟨Nat.le_of_ble_eq_true rfl, Nat.le_of_ble_eq_true rfl⟩ rfl (Nat.le_of_ble_eq_true rfl) ?_
  rintro _ V ⟨rfl, hS⟩
  rw [kq_85]
  refine L_if_ne 993 1109 dL_known_993 (by decide) (fun c_0 => by first | exact absurd rfl c_0 | exact absurd c_0 (by decide) | exact absurd (by decide) c_0) (fun _ => ?_)
  refine L_aload_n 996 0 dL_known_996 rfl rfl ?_
  refine L_bipush 997 12 dL_known_997 (by decide) ?_
  refine L_cW 999 [.ref 109, .int (nI 12)] (Nat.le_refl 1) (w_all (nI 12) _ _ (o_whole hS (by decide))) dL_known_999 lk_92 hc_all hs_all hp_all rfl ⟨rfl, rfl⟩ ⟨Nat.le_of_ble_eq_true rfl, Nat.le_of_ble_eq_true rfl⟩ ⟨Nat.le_of_ble_eq_true rfl, Nat.le_of_ble_eq_true rfl⟩ rfl (Nat.le_of_ble_eq_true rfl) ?_
  rintro _ V ⟨rfl, hS⟩
  rw [kq_86]
  refine L_bipush 1002 103 dL_known_1002 (by decide) ?_
  refine L_icmp_ne 1004 1109 dL_known_1004 (by decide) (fun c_0 => by first | exact absurd rfl c_0 | exact absurd c_0 (by decide) | exact absurd (by decide) c_0) (fun _ => ?_)
  refine L_aload_n 1007 0 dL_known_1007 rfl rfl ?_
  refine L_iconst 1008 0 dL_known_1008 (by decide) ?_
  refine L_iconst 1009 0 dL_known_1009 (by decide) ?_
  refine L_iconst 1010 0 dL_known_1010 (by decide) ?_
  refine L_iconst 1011 0 dL_known_1011 (by decide) ?_
  generalize hT22 : pT KS21 T = T at hS
  refine L_cW 1012 [.ref 109, .int (nI 0), .int (nI 0), .int 0, .int 0] (Nat.le_refl 1) (w_cornering (nI 0) (nI 0) 0 0 _ _ (o_setCorner hS (by decide) (by decide) ⟨⟨by decide, by decide⟩, ⟨by decide, by decide⟩⟩)) dL_known_1012 lk_131 hc_cornering hs_cornering hp_cornering rfl ⟨rfl, rfl⟩ ⟨Nat.le_of_ble_eq_true rfl, Nat.le_of_ble_eq_true rfl⟩ ⟨Nat.le_of_ble_eq_true rfl, Nat.le_of_ble_eq_true rfl⟩ rfl (Nat.le_of_ble_eq_true rfl) ?_
  rintro _ V ⟨rfl, hS⟩
  rw [kq_87]
  replace hS : ST V KS23 1 1 2 (pT KS22 T) 4 0 (fun _ => 0) := ST_lit hS ls_23
  refine L_if_lt 1015 1109 dL_known_1015 (by decide) (fun c_0 => by first | exact absurd rfl c_0 | exact absurd c_0 (by decide) | exact absurd (by decide) c_0) (fun _ => ?_)
  refine L_aload_n 1018 0 dL_known_1018 rfl rfl ?_
  refine L_iconst 1019 0 dL_known_1019 (by decide) ?_
  refine L_iconst 1020 1 dL_known_1020 (by decide) ?_
  refine L_iconst 1021 2 dL_known_1021 (by decide) ?_
  refine L_iconst 1022 0 dL_known_1022 (by decide) ?_
  generalize hT23 : pT KS22 T = T at hS
  refine L_cW 1023 [.ref 109, .int (nI 0), .int (nI 1), .int 2, .int 0] (Nat.le_refl 1) (w_cornering (nI 0) (nI 1) 2 0 _ _ (o_setCorner hS (by decide) (by decide) ⟨⟨by decide, by decide⟩, ⟨by decide, by decide⟩⟩)) dL_known_1023 lk_131 hc_cornering hs_cornering hp_cornering rfl ⟨rfl, rfl⟩ ⟨Nat.le_of_ble_eq_true rfl, Nat.le_of_ble_eq_true rfl⟩ ⟨Nat.le_of_ble_eq_true rfl, Nat.le_of_ble_eq_true rfl⟩ rfl (Nat.le_of_ble_eq_true rfl) ?_
  rintro _ V ⟨rfl, hS⟩
  rw [kq_88]
  replace hS : ST V KS24 1 1 2 (pT KS23 T) 4 0 (fun _ => 0) := ST_lit hS ls_24
  refine L_if_lt 1026 1109 dL_known_1026 (by decide) (fun c_0 => by first | exact absurd rfl c_0 | exact absurd c_0 (by decide) | exact absurd (by decide) c_0) (fun _ => ?_)
  refine L_aload_n 1029 0 dL_known_1029 rfl rfl ?_
  refine L_iconst 1030 0 dL_known_1030 (by decide) ?_
  refine L_iconst 1031 2 dL_known_1031 (by decide) ?_
  refine L_iconst 1032 2 dL_known_1032 (by decide) ?_
  refine L_iconst 1033 0 dL_known_1033 (by decide) ?_
  generalize hT24 : pT KS23 T = T at hS
  refine L_cW 1034 [.ref 109, .int (nI 0), .int (nI 2), .int 2, .int 0] (Nat.le_refl 1) (w_cornering (nI 0) (nI 2) 2 0 _ _ (o_setCorner hS (by decide) (by decide) ⟨⟨by decide, by decide⟩, ⟨by decide, by decide⟩⟩)) dL_known_1034 lk_131 hc_cornering hs_cornering hp_cornering rfl ⟨rfl, rfl⟩ ⟨Nat.le_of_ble_eq_true rfl, Nat.le_of_ble_eq_true rfl⟩ ⟨Nat.le_of_ble_eq_true rfl, Nat.le_of_ble_eq_true rfl⟩ rfl (Nat.le_of_ble_eq_true rfl) ?_
  rintro _ V ⟨rfl, hS⟩
  rw [kq_89]
  replace hS : ST V KS25 1 1 2 (pT KS24 T) 4 0 (fun _ => 0) := ST_lit hS ls_25
  refine L_if_lt 1037 1109 dL_known_1037 (by decide) (fun c_0 => by first | exact absurd rfl c_0 | exact absurd c_0 (by decide) | exact absurd (by decide) c_0) (fun _ => ?_)
  refine L_aload_n 1040 0 dL_known_1040 rfl rfl ?_
  refine L_iconst 1041 0 dL_known_1041 (by decide) ?_
  refine L_iconst 1042 3 dL_known_1042 (by decide) ?_
  refine L_iconst 1043 0 dL_known_1043 (by decide) ?_
  refine L_iconst 1044 2 dL_known_1044 (by decide) ?_
  generalize hT25 : pT KS24 T = T at hS
  refine L_cW 1045 [.ref 109, .int (nI 0), .int (nI 3), .int 0, .int 2] (Nat.le_refl 1) (w_cornering (nI 0) (nI 3) 0 2 _ _ (o_setCorner hS (by decide) (by decide) ⟨⟨by decide, by decide⟩, ⟨by decide, by decide⟩⟩)) dL_known_1045 lk_131 hc_cornering hs_cornering hp_cornering rfl ⟨rfl, rfl⟩ ⟨Nat.le_of_ble_eq_true rfl, Nat.le_of_ble_eq_true rfl⟩ ⟨Nat.le_of_ble_eq_true rfl, Nat.le_of_ble_eq_true rfl⟩ rfl (Nat.le_of_ble_eq_true rfl) ?_
  rintro _ V ⟨rfl, hS⟩
  rw [kq_90]
  replace hS : ST V KS26 1 1 2 (pT KS25 T) 4 0 (fun _ => 0) := ST_lit hS ls_26
  refine L_iconst 1048 1 dL_known_1048 (by decide) ?_
  refine L_icmp_ne 1049 1109 dL_known_1049 (by decide) (fun c_0 => by first | exact absurd rfl c_0 | exact absurd c_0 (by decide) | exact absurd (by decide) c_0) (fun _ => ?_)
  refine L_aload_n 1052 0 dL_known_1052 rfl rfl ?_
  refine L_iconst 1053 0 dL_known_1053 (by decide) ?_
  refine L_iconst 1054 0 dL_known_1054 (by decide) ?_
  refine L_iconst 1055 0 dL_known_1055 (by decide) ?_
  refine L_cW 1056 [.ref 109, .int (nI 0), .int (nI 0), .int (nI 0)] (Nat.le_refl 1) (w_weighing (nI 0) (nI 0) (nI 0) _ _ (o_weight hS (by decide) (by decide) (by decide))) dL_known_1056 lk_146 hc_weighing hs_weighing hp_weighing rfl ⟨rfl, rfl⟩ ⟨Nat.le_of_ble_eq_true rfl, Nat.le_of_ble_eq_true rfl⟩ ⟨Nat.le_of_ble_eq_true rfl, Nat.le_of_ble_eq_true rfl⟩ rfl (Nat.le_of_ble_eq_true rfl) ?_
  rintro _ V ⟨rfl, hS⟩
  rw [kq_91]
  refine L_iconst 1059 2 dL_known_1059 (by decide) ?_
  refine L_icmp_ne 1060 1109 dL_known_1060 (by decide) (fun c_0 => by first | exact absurd rfl c_0 | exact absurd c_0 (by decide) | exact absurd (by decide) c_0) (fun _ => ?_)
  refine L_aload_n 1063 0 dL_known_1063 rfl rfl ?_
  refine L_iconst 1064 0 dL_known_1064 (by decide) ?_
  refine L_iconst 1065 1 dL_known_1065 (by decide) ?_
  refine L_iconst 1066 0 dL_known_1066 (by decide) ?_
  refine L_iconst 1067 2 dL_known_1067 (by decide) ?_
  generalize hT26 : pT KS25 T = T at hS
  refine L_cW 1068 [.ref 109, .int (nI 0), .int (nI 1), .int 0, .int 2] (Nat.le_refl 1) (w_cornering (nI 0) (nI 1) 0 2 _ _ (o_setCorner hS (by decide) (by decide) ⟨⟨by decide, by decide⟩, ⟨by decide, by decide⟩⟩)) dL_known_1068 lk_131 hc_cornering hs_cornering hp_cornering rfl ⟨rfl, rfl⟩ ⟨Nat.le_of_ble_eq_true rfl, Nat.le_of_ble_eq_true rfl⟩ ⟨Nat.le_of_ble_eq_true rfl, Nat.le_of_ble_eq_true rfl⟩ rfl (Nat.le_of_ble_eq_true rfl) ?_
  rintro _ V ⟨rfl, hS⟩
  rw [kq_92]
  replace hS : ST V KS27 1 1 2 (pT KS26 T) 4 0 (fun _ => 0) := ST_lit hS ls_27
  refine L_if_lt 1071 1109 dL_known_1071 (by decide) (fun c_0 => by first | exact absurd rfl c_0 | exact absurd c_0 (by decide) | exact absurd (by decide) c_0) (fun _ => ?_)
  refine L_aload_n 1074 0 dL_known_1074 rfl rfl ?_
  refine L_iconst 1075 0 dL_known_1075 (by decide) ?_
  refine L_iconst 1076 2 dL_known_1076 (by decide) ?_
  refine L_iconst 1077 0 dL_known_1077 (by decide) ?_
  refine L_iconst 1078 2 dL_known_1078 (by decide) ?_
  generalize hT27 : pT KS26 T = T at hS
  refine L_cW 1079 [.ref 109, .int (nI 0), .int (nI 2), .int 0, .int 2] (Nat.le_refl 1) (w_cornering (nI 0) (nI 2) 0 2 _ _ (o_setCorner hS (by decide) (by decide) ⟨⟨by decide, by decide⟩, ⟨by decide, by decide⟩⟩)) dL_known_1079 lk_131 hc_cornering hs_cornering hp_cornering rfl ⟨rfl, rfl⟩ ⟨Nat.le_of_ble_eq_true rfl, Nat.le_of_ble_eq_true rfl⟩ ⟨Nat.le_of_ble_eq_true rfl, Nat.le_of_ble_eq_true rfl⟩ rfl (Nat.le_of_ble_eq_true rfl) ?_
  rintro _ V ⟨rfl, hS⟩
  rw [kq_93]
  replace hS : ST V KS28 1 1 2 (pT KS27 T) 4 0 (fun _ => 0) := ST_lit hS ls_28
  refine L_if_lt 1082 1109 dL_known_1082 (by decide) (fun c_0 => by first | exact absurd rfl c_0 | exact absurd c_0 (by decide) | exact absurd (by decide) c_0) (fun _ => ?_)
  refine L_aload_n 1085 0 dL_known_1085 rfl rfl ?_
  refine L_iconst 1086 0 dL_known_1086 (by decide) ?_
  refine L_iconst 1087 3 dL_known_1087 (by decide) ?_
  refine L_iconst 1088 2 dL_known_1088 (by decide) ?_
  refine L_iconst 1089 0 dL_known_1089 (by decide) ?_
  generalize hT28 : pT KS27 T = T at hS
  refine L_cW 1090 [.ref 109, .int (nI 0), .int (nI 3), .int 2, .int 0] (Nat.le_refl 1) (w_cornering (nI 0) (nI 3) 2 0 _ _ (o_setCorner hS (by decide) (by decide) ⟨⟨by decide, by decide⟩, ⟨by decide, by decide⟩⟩)) dL_known_1090 lk_131 hc_cornering hs_cornering hp_cornering rfl ⟨rfl, rfl⟩ ⟨Nat.le_of_ble_eq_true rfl, Nat.le_of_ble_eq_true rfl⟩ ⟨Nat.le_of_ble_eq_true rfl, Nat.le_of_ble_eq_true rfl⟩ rfl (Nat.le_of_ble_eq_true rfl) ?_
  rintro _ V ⟨rfl, hS⟩
  rw [kq_94]
  replace hS : ST V KS29 1 1 2 (pT KS28 T) 4 0 (fun _ => 0) := ST_lit hS ls_29
  refine L_if_ne 1093 1109 dL_known_1093 (by decide) (fun c_0 => by first | exact absurd rfl c_0 | exact absurd c_0 (by decide) | exact absurd (by decide) c_0) (fun _ => ?_)
  refine L_aload_n 1096 0 dL_known_1096 rfl rfl ?_
  refine L_iconst 1097 0 dL_known_1097 (by decide) ?_
  refine L_iconst 1098 0 dL_known_1098 (by decide) ?_
  refine L_iconst 1099 0 dL_known_1099 (by decide) ?_
  refine L_cW 1100 [.ref 109, .int (nI 0), .int (nI 0), .int (nI 0)] (Nat.le_refl 1) (w_weighing (nI 0) (nI 0) (nI 0) _ _ (o_weight hS (by decide) (by decide) (by decide))) dL_known_1100 lk_146 hc_weighing hs_weighing hp_weighing rfl ⟨rfl, rfl⟩ ⟨Nat.le_of_ble_eq_true rfl, Nat.le_of_ble_eq_true rfl⟩ ⟨Nat.le_of_ble_eq_true rfl, Nat.le_of_ble_eq_true rfl⟩ rfl (Nat.le_of_ble_eq_true rfl) ?_
  rintro _ V ⟨rfl, hS⟩
  rw [kq_95]
  refine L_sipush 1103 (-1000) dL_known_1103 (by decide) ?_
  refine L_icmp_eq 1106 1111 dL_known_1106 (by decide) (fun _ => ?_) (fun c_0 => by first | exact absurd rfl c_0 | exact absurd c_0 (by decide) | exact absurd (by decide) c_0)
  refine L_aload_n 1111 0 dL_known_1111 rfl rfl ?_
  refine L_iconst 1112 4 dL_known_1112 (by decide) ?_
  refine L_cW 1113 [.ref 109, .int (nI 4)] (Nat.le_refl 1) (w_isDigest hS) dL_known_1113 lk_297 hc_isDigest hs_isDigest hp_isDigest rfl ⟨rfl, rfl⟩ ⟨Nat.le_of_ble_eq_true rfl, Nat.le_of_ble_eq_true rfl⟩ ⟨Nat.le_of_ble_eq_true rfl, Nat.le_of_ble_eq_true rfl⟩ rfl (Nat.le_of_ble_eq_true rfl) ?_
  rintro _ V ⟨rfl, hS⟩
  refine L_if_eq 1116 1160 dL_known_1116 (by decide) (fun c_0 => by first | exact absurd rfl c_0 | exact absurd c_0 (by decide) | exact absurd (by decide) c_0) (fun _ => ?_)
  refine L_aload_n 1119 0 dL_known_1119 rfl rfl ?_
  refine L_cW 1120 [.ref 109] (Nat.le_refl 1) (w_undoing _ _ (o_undo2 (T := pT KS28 T) (cn := 3) hS (⟨⟨by decide, by decide, by decide⟩, ⟨by decide, by decide⟩, ⟨by decide, by decide⟩, by decide⟩ : DM KS28 1 1 2))) dL_known_1120 lk_199 hc_undoing hs_undoing hp_undoing rfl ⟨rfl, rfl⟩ ⟨Nat.le_of_ble_eq_true rfl, Nat.le_of_ble_eq_true rfl⟩ ⟨Nat.le_of_ble_eq_true rfl, Nat.le_of_ble_eq_true rfl⟩ rfl (Nat.le_of_ble_eq_true rfl) ?_
  rintro _ V ⟨rfl, hS⟩
  change ST V KS28 1 1 2 _ 3 0 _ at hS
  refine L_iconst 1123 3 dL_known_1123 (by decide) ?_
  refine L_icmp_ne 1124 1160 dL_known_1124 (by decide) (fun c_0 => by first | exact absurd rfl c_0 | exact absurd c_0 (by decide) | exact absurd (by decide) c_0) (fun _ => ?_)
  refine L_aload_n 1127 0 dL_known_1127 rfl rfl ?_
  refine L_iconst 1128 0 dL_known_1128 (by decide) ?_
  refine L_iconst 1129 3 dL_known_1129 (by decide) ?_
  refine L_iconst 1130 0 dL_known_1130 (by decide) ?_
  refine L_cW 1131 [.ref 109, .int (nI 0), .int (nI 3), .int (nI 0)] (Nat.le_refl 1) (w_cornerAt (nI 0) (nI 3) (nI 0) _ _ (o_corner hS (by decide) (by decide) (by decide))) dL_known_1131 lk_106 hc_cornerAt hs_cornerAt hp_cornerAt rfl ⟨rfl, rfl⟩ ⟨Nat.le_of_ble_eq_true rfl, Nat.le_of_ble_eq_true rfl⟩ ⟨Nat.le_of_ble_eq_true rfl, Nat.le_of_ble_eq_true rfl⟩ rfl (Nat.le_of_ble_eq_true rfl) ?_
  rintro _ V ⟨rfl, hS⟩
  rw [kq_96]
  refine L_if_ne 1134 1160 dL_known_1134 (by decide) (fun c_0 => by first | exact absurd rfl c_0 | exact absurd c_0 (by decide) | exact absurd (by decide) c_0) (fun _ => ?_)
  refine L_aload_n 1137 0 dL_known_1137 rfl rfl ?_
  refine L_iconst 1138 0 dL_known_1138 (by decide) ?_
  refine L_iconst 1139 3 dL_known_1139 (by decide) ?_
  refine L_iconst 1140 1 dL_known_1140 (by decide) ?_
  refine L_cW 1141 [.ref 109, .int (nI 0), .int (nI 3), .int (nI 1)] (Nat.le_refl 1) (w_cornerAt (nI 0) (nI 3) (nI 1) _ _ (o_corner hS (by decide) (by decide) (by decide))) dL_known_1141 lk_106 hc_cornerAt hs_cornerAt hp_cornerAt rfl ⟨rfl, rfl⟩ ⟨Nat.le_of_ble_eq_true rfl, Nat.le_of_ble_eq_true rfl⟩ ⟨Nat.le_of_ble_eq_true rfl, Nat.le_of_ble_eq_true rfl⟩ rfl (Nat.le_of_ble_eq_true rfl) ?_
  rintro _ V ⟨rfl, hS⟩
  rw [kq_97]
  refine L_iconst 1144 2 dL_known_1144 (by decide) ?_
  refine L_icmp_ne 1145 1160 dL_known_1145 (by decide) (fun c_0 => by first | exact absurd rfl c_0 | exact absurd c_0 (by decide) | exact absurd (by decide) c_0) (fun _ => ?_)
  refine L_aload_n 1148 0 dL_known_1148 rfl rfl ?_
  refine L_iconst 1149 3 dL_known_1149 (by decide) ?_
  refine L_cW 1150 [.ref 109, .int (nI 3)] (Nat.le_refl 1) (w_isDigest hS) dL_known_1150 lk_297 hc_isDigest hs_isDigest hp_isDigest rfl ⟨rfl, rfl⟩ ⟨Nat.le_of_ble_eq_true rfl, Nat.le_of_ble_eq_true rfl⟩ ⟨Nat.le_of_ble_eq_true rfl, Nat.le_of_ble_eq_true rfl⟩ rfl (Nat.le_of_ble_eq_true rfl) ?_
  rintro _ V ⟨rfl, hS⟩
  refine L_if_eq 1153 1160 dL_known_1153 (by decide) (fun c_0 => by first | exact absurd rfl c_0 | exact absurd c_0 (by decide) | exact absurd (by decide) c_0) (fun _ => ?_)
  refine L_iconst 1156 1 dL_known_1156 (by decide) ?_
  refine L_goto 1157 1161 dL_known_1157 (by decide) ?_
  exact L_iretA 1161 dL_known_1161 rfl rfl ⟨Nat.le_of_ble_eq_true rfl, Nat.le_of_ble_eq_true rfl⟩ ⟨_, rfl, rfl⟩
