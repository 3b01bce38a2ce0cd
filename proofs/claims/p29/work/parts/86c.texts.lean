/-! texts -/
theorem td_3 : tdB 0 0 0 0 = true := by decide +kernel
theorem td_14 : tdB 2105376 0 0 0 = true := by decide +kernel
theorem td_25 : tdB 27713682051970363 0 0 1 = true := by decide +kernel
theorem td_39 : tdB 2333556691265664288 15136 0 1 = true := by decide +kernel
theorem td_53 : tdB 108256570520891 0 0 (-14) = true := by decide +kernel
theorem td_66 : tdB 108256570515509 0 0 (-16) = true := by decide +kernel
theorem td_79 : tdB 1651864174 0 0 (-14) = true := by decide +kernel
theorem td_92 : tdB 6452594 0 0 (-10) = true := by decide +kernel
theorem td_107 : tdB 7094702606712321339 0 0 (-10) = true := by decide +kernel
theorem td_120 : tdB 108256570515515 0 0 (-15) = true := by decide +kernel
theorem td_135 : tdB 7094702605304082480 3159355 0 (-19) = true := by decide +kernel
theorem td_148 : tdB 7094702605303887163 0 0 0 = true := by decide +kernel
theorem td_163 : tdB 7094702605303885109 59 0 (-16) = true := by decide +kernel
theorem td_176 : tdB 27713682051968315 0 0 (-16) = true := by decide +kernel
theorem td_191 : tdB 7094702605304406070 59 0 (-17) = true := by decide +kernel
theorem td_204 : tdB 7094702605304413048 0 0 (-17) = true := by decide +kernel
theorem td_219 : tdB 13627 0 0 (-10) = true := by decide +kernel
theorem td_232 : tdB 59 0 0 (-10) = true := by decide +kernel
theorem td_247 : tdB 8602275974906716210 59 0 1 = true := by decide +kernel
theorem td_261 : tdB 8602275974906719538 59 0 (-16) = true := by decide +kernel
theorem td_276 : tdB 33602640526979387 0 0 (-16) = true := by decide +kernel
theorem td_291 : tdB 7377293577726999405 111524800639035 0 0 = true := by decide +kernel
theorem td_302 : tdB 19810353783255099 0 0 (-10) = true := by decide +kernel
theorem td_315 : tdB 7094702605304412987 0 0 (-17) = true := by decide +kernel
theorem td_332 : tdB 7809643557181530169 32 0 (-19) = true := by decide +kernel
theorem td_347 : tdB 8316012600695467313 539832379 0 1 = true := by decide +kernel
theorem td_361 : tdB 7165071350643695664 9061213604426555 0 0 = true := by decide +kernel
theorem td_374 : tdB 8097869528104448032 3467825727408190779 0 1 = true := by decide +kernel
theorem td_390 : tdB 7094702605304413026 30066 0 (-17) = true := by decide +kernel
theorem td_407 : tdB 7809643557181005873 4281904468382986805 908079163 1 = true := by decide +kernel
theorem td_423 : tdB 7094702605304082480 3835767764206624825 960051515 2 = true := by decide +kernel
theorem td_435 : tdB 7882828099096685883 0 0 (-17) = true := by decide +kernel
def bS (n : Nat) : Nat → Int32 := fun i => if i < n then 32 else 0
theorem bS_up (n : Nat) : upB (bS n) n 32 = bS (n + 1) := by
  funext i
  unfold upB bS
  by_cases h : i = n
  · subst h; rw [if_pos rfl, if_pos (by omega)]
  · rw [if_neg h]
    by_cases h2 : i < n
    · rw [if_pos h2, if_pos (by omega)]
    · rw [if_neg h2, if_neg (by omega)]
theorem bS_0 : (fun _ => 0 : Nat → Int32) = bS 0 := funext fun i => (if_neg (Nat.not_lt_zero i)).symm
theorem ff_S : ffV (bS 150) 150 < 0 := by decide +kernel
theorem ru_S : runK (bS 150) 150 150 0 12 8 0 = 0 := by decide +kernel
set_option maxHeartbeats 8000000 in
set_option maxRecDepth 100000 in
theorem a_texts : EvA mL_texts none [] (fun r => ∃ u : Int32, r = some (.int u) ∧ 1 = u) := by
  refine EvA_of (by decide +kernel) rfl (fun _ => rfl) (fun _ => Nat.le_of_ble_eq_true rfl) (ls := []) (fun ω => ?_)
  refine L_lconst 0 0 dL_texts_0 (by decide) ?_
  refine L_lconst 1 0 dL_texts_1 (by decide) ?_
  refine L_lconst 2 0 dL_texts_2 (by decide) ?_
  refine L_cA 3 [.long 0, .long 0, .long 0] 111 7008 (fun r h => by cases h) (a_told td_3) dL_texts_3 lk_203 hc_told hs_told hp_told rfl ⟨rfl, rfl⟩ ⟨Nat.le_of_ble_eq_true rfl, Nat.le_of_ble_eq_true rfl⟩ ⟨Nat.le_of_ble_eq_true rfl, Nat.le_of_ble_eq_true rfl⟩ rfl (Nat.le_of_ble_eq_true rfl) ?_
  rintro _ rfl
  refine L_if_ne 6 46 dL_texts_6 (by decide) (fun c_0 => by first | exact absurd rfl c_0 | exact absurd c_0 (by decide) | exact absurd (by decide) c_0) (fun _ => ?_)
  refine L_ldc2 9 dL_texts_9 cj_207 ?_
  refine L_lconst 12 0 dL_texts_12 (by decide) ?_
  refine L_lconst 13 0 dL_texts_13 (by decide) ?_
  refine L_cA 14 [.long (2105376), .long 0, .long 0] 222 14016 (fun r h => by cases h) (a_told td_14) dL_texts_14 lk_203 hc_told hs_told hp_told rfl ⟨rfl, rfl⟩ ⟨Nat.le_of_ble_eq_true rfl, Nat.le_of_ble_eq_true rfl⟩ ⟨Nat.le_of_ble_eq_true rfl, Nat.le_of_ble_eq_true rfl⟩ rfl (Nat.le_of_ble_eq_true rfl) ?_
  rintro _ rfl
  refine L_if_ne 17 46 dL_texts_17 (by decide) (fun c_0 => by first | exact absurd rfl c_0 | exact absurd c_0 (by decide) | exact absurd (by decide) c_0) (fun _ => ?_)
  refine L_ldc2 20 dL_texts_20 cj_209 ?_
  refine L_lconst 23 0 dL_texts_23 (by decide) ?_
  refine L_lconst 24 0 dL_texts_24 (by decide) ?_
  refine L_cA 25 [.long (27713682051970363), .long 0, .long 0] 333 21024 (fun r h => by cases h) (a_told td_25) dL_texts_25 lk_203 hc_told hs_told hp_told rfl ⟨rfl, rfl⟩ ⟨Nat.le_of_ble_eq_true rfl, Nat.le_of_ble_eq_true rfl⟩ ⟨Nat.le_of_ble_eq_true rfl, Nat.le_of_ble_eq_true rfl⟩ rfl (Nat.le_of_ble_eq_true rfl) ?_
  rintro _ rfl
  refine L_iconst 28 1 dL_texts_28 (by decide) ?_
  refine L_icmp_ne 29 46 dL_texts_29 (by decide) (fun c_0 => by first | exact absurd rfl c_0 | exact absurd c_0 (by decide) | exact absurd (by decide) c_0) (fun _ => ?_)
  refine L_ldc2 32 dL_texts_32 cj_211 ?_
  refine L_ldc2 35 dL_texts_35 cj_213 ?_
  refine L_lconst 38 0 dL_texts_38 (by decide) ?_
  refine L_cA 39 [.long (2333556691265664288), .long (15136), .long 0] 444 28032 (fun r h => by cases h) (a_told td_39) dL_texts_39 lk_203 hc_told hs_told hp_told rfl ⟨rfl, rfl⟩ ⟨Nat.le_of_ble_eq_true rfl, Nat.le_of_ble_eq_true rfl⟩ ⟨Nat.le_of_ble_eq_true rfl, Nat.le_of_ble_eq_true rfl⟩ rfl (Nat.le_of_ble_eq_true rfl) ?_
  rintro _ rfl
  refine L_iconst 42 1 dL_texts_42 (by decide) ?_
  refine L_icmp_eq 43 48 dL_texts_43 (by decide) (fun _ => ?_) (fun c_0 => by first | exact absurd rfl c_0 | exact absurd c_0 (by decide) | exact absurd (by decide) c_0)
  refine L_ldc2 48 dL_texts_48 cj_215 ?_
  refine L_lconst 51 0 dL_texts_51 (by decide) ?_
  refine L_lconst 52 0 dL_texts_52 (by decide) ?_
  refine L_cA 53 [.long (108256570520891), .long 0, .long 0] 555 35040 (fun r h => by cases h) (a_told td_53) dL_texts_53 lk_203 hc_told hs_told hp_told rfl ⟨rfl, rfl⟩ ⟨Nat.le_of_ble_eq_true rfl, Nat.le_of_ble_eq_true rfl⟩ ⟨Nat.le_of_ble_eq_true rfl, Nat.le_of_ble_eq_true rfl⟩ rfl (Nat.le_of_ble_eq_true rfl) ?_
  rintro _ rfl
  refine L_bipush 56 (-14) dL_texts_56 (by decide) ?_
  refine L_icmp_ne 58 100 dL_texts_58 (by decide) (fun c_0 => by first | exact absurd rfl c_0 | exact absurd c_0 (by decide) | exact absurd (by decide) c_0) (fun _ => ?_)
  refine L_ldc2 61 dL_texts_61 cj_217 ?_
  refine L_lconst 64 0 dL_texts_64 (by decide) ?_
  refine L_lconst 65 0 dL_texts_65 (by decide) ?_
  refine L_cA 66 [.long (108256570515509), .long 0, .long 0] 666 42048 (fun r h => by cases h) (a_told td_66) dL_texts_66 lk_203 hc_told hs_told hp_told rfl ⟨rfl, rfl⟩ ⟨Nat.le_of_ble_eq_true rfl, Nat.le_of_ble_eq_true rfl⟩ ⟨Nat.le_of_ble_eq_true rfl, Nat.le_of_ble_eq_true rfl⟩ rfl (Nat.le_of_ble_eq_true rfl) ?_
  rintro _ rfl
  refine L_bipush 69 (-16) dL_texts_69 (by decide) ?_
  refine L_icmp_ne 71 100 dL_texts_71 (by decide) (fun c_0 => by first | exact absurd rfl c_0 | exact absurd c_0 (by decide) | exact absurd (by decide) c_0) (fun _ => ?_)
  refine L_ldc2 74 dL_texts_74 cj_219 ?_
  refine L_lconst 77 0 dL_texts_77 (by decide) ?_
  refine L_lconst 78 0 dL_texts_78 (by decide) ?_
  refine L_cA 79 [.long (1651864174), .long 0, .long 0] 777 49056 (fun r h => by cases h) (a_told td_79) dL_texts_79 lk_203 hc_told hs_told hp_told rfl ⟨rfl, rfl⟩ ⟨Nat.le_of_ble_eq_true rfl, Nat.le_of_ble_eq_true rfl⟩ ⟨Nat.le_of_ble_eq_true rfl, Nat.le_of_ble_eq_true rfl⟩ rfl (Nat.le_of_ble_eq_true rfl) ?_
  rintro _ rfl
  refine L_bipush 82 (-14) dL_texts_82 (by decide) ?_
  refine L_icmp_ne 84 100 dL_texts_84 (by decide) (fun c_0 => by first | exact absurd rfl c_0 | exact absurd c_0 (by decide) | exact absurd (by decide) c_0) (fun _ => ?_)
  refine L_ldc2 87 dL_texts_87 cj_221 ?_
  refine L_lconst 90 0 dL_texts_90 (by decide) ?_
  refine L_lconst 91 0 dL_texts_91 (by decide) ?_
  refine L_cA 92 [.long (6452594), .long 0, .long 0] 888 56064 (fun r h => by cases h) (a_told td_92) dL_texts_92 lk_203 hc_told hs_told hp_told rfl ⟨rfl, rfl⟩ ⟨Nat.le_of_ble_eq_true rfl, Nat.le_of_ble_eq_true rfl⟩ ⟨Nat.le_of_ble_eq_true rfl, Nat.le_of_ble_eq_true rfl⟩ rfl (Nat.le_of_ble_eq_true rfl) ?_
  rintro _ rfl
  refine L_bipush 95 (-10) dL_texts_95 (by decide) ?_
  refine L_icmp_eq 97 102 dL_texts_97 (by decide) (fun _ => ?_) (fun c_0 => by first | exact absurd rfl c_0 | exact absurd c_0 (by decide) | exact absurd (by decide) c_0)
  refine L_ldc2 102 dL_texts_102 cj_223 ?_
  refine L_lconst 105 0 dL_texts_105 (by decide) ?_
  refine L_lconst 106 0 dL_texts_106 (by decide) ?_
  refine L_cA 107 [.long (7094702606712321339), .long 0, .long 0] 999 63072 (fun r h => by cases h) (a_told td_107) dL_texts_107 lk_203 hc_told hs_told hp_told rfl ⟨rfl, rfl⟩ ⟨Nat.le_of_ble_eq_true rfl, Nat.le_of_ble_eq_true rfl⟩ ⟨Nat.le_of_ble_eq_true rfl, Nat.le_of_ble_eq_true rfl⟩ rfl (Nat.le_of_ble_eq_true rfl) ?_
  rintro _ rfl
  refine L_bipush 110 (-10) dL_texts_110 (by decide) ?_
  refine L_icmp_ne 112 154 dL_texts_112 (by decide) (fun c_0 => by first | exact absurd rfl c_0 | exact absurd c_0 (by decide) | exact absurd (by decide) c_0) (fun _ => ?_)
  refine L_ldc2 115 dL_texts_115 cj_225 ?_
  refine L_lconst 118 0 dL_texts_118 (by decide) ?_
  refine L_lconst 119 0 dL_texts_119 (by decide) ?_
  refine L_cA 120 [.long (108256570515515), .long 0, .long 0] 1110 70080 (fun r h => by cases h) (a_told td_120) dL_texts_120 lk_203 hc_told hs_told hp_told rfl ⟨rfl, rfl⟩ ⟨Nat.le_of_ble_eq_true rfl, Nat.le_of_ble_eq_true rfl⟩ ⟨Nat.le_of_ble_eq_true rfl, Nat.le_of_ble_eq_true rfl⟩ rfl (Nat.le_of_ble_eq_true rfl) ?_
  rintro _ rfl
  refine L_bipush 123 (-15) dL_texts_123 (by decide) ?_
  refine L_icmp_ne 125 154 dL_texts_125 (by decide) (fun c_0 => by first | exact absurd rfl c_0 | exact absurd c_0 (by decide) | exact absurd (by decide) c_0) (fun _ => ?_)
  refine L_ldc2 128 dL_texts_128 cj_227 ?_
  refine L_ldc2 131 dL_texts_131 cj_229 ?_
  refine L_lconst 134 0 dL_texts_134 (by decide) ?_
  refine L_cA 135 [.long (7094702605304082480), .long (3159355), .long 0] 1221 77088 (fun r h => by cases h) (a_told td_135) dL_texts_135 lk_203 hc_told hs_told hp_told rfl ⟨rfl, rfl⟩ ⟨Nat.le_of_ble_eq_true rfl, Nat.le_of_ble_eq_true rfl⟩ ⟨Nat.le_of_ble_eq_true rfl, Nat.le_of_ble_eq_true rfl⟩ rfl (Nat.le_of_ble_eq_true rfl) ?_
  rintro _ rfl
  refine L_bipush 138 (-19) dL_texts_138 (by decide) ?_
  refine L_icmp_ne 140 154 dL_texts_140 (by decide) (fun c_0 => by first | exact absurd rfl c_0 | exact absurd c_0 (by decide) | exact absurd (by decide) c_0) (fun _ => ?_)
  refine L_ldc2 143 dL_texts_143 cj_231 ?_
  refine L_lconst 146 0 dL_texts_146 (by decide) ?_
  refine L_lconst 147 0 dL_texts_147 (by decide) ?_
  refine L_cA 148 [.long (7094702605303887163), .long 0, .long 0] 1332 84096 (fun r h => by cases h) (a_told td_148) dL_texts_148 lk_203 hc_told hs_told hp_told rfl ⟨rfl, rfl⟩ ⟨Nat.le_of_ble_eq_true rfl, Nat.le_of_ble_eq_true rfl⟩ ⟨Nat.le_of_ble_eq_true rfl, Nat.le_of_ble_eq_true rfl⟩ rfl (Nat.le_of_ble_eq_true rfl) ?_
  rintro _ rfl
  refine L_if_eq 151 156 dL_texts_151 (by decide) (fun _ => ?_) (fun c_0 => by first | exact absurd rfl c_0 | exact absurd c_0 (by decide) | exact absurd (by decide) c_0)
  refine L_ldc2 156 dL_texts_156 cj_233 ?_
  refine L_ldc2 159 dL_texts_159 cj_235 ?_
  refine L_lconst 162 0 dL_texts_162 (by decide) ?_
  refine L_cA 163 [.long (7094702605303885109), .long (59), .long 0] 1443 91104 (fun r h => by cases h) (a_told td_163) dL_texts_163 lk_203 hc_told hs_told hp_told rfl ⟨rfl, rfl⟩ ⟨Nat.le_of_ble_eq_true rfl, Nat.le_of_ble_eq_true rfl⟩ ⟨Nat.le_of_ble_eq_true rfl, Nat.le_of_ble_eq_true rfl⟩ rfl (Nat.le_of_ble_eq_true rfl) ?_
  rintro _ rfl
  refine L_bipush 166 (-16) dL_texts_166 (by decide) ?_
  refine L_icmp_ne 168 212 dL_texts_168 (by decide) (fun c_0 => by first | exact absurd rfl c_0 | exact absurd c_0 (by decide) | exact absurd (by decide) c_0) (fun _ => ?_)
  refine L_ldc2 171 dL_texts_171 cj_237 ?_
  refine L_lconst 174 0 dL_texts_174 (by decide) ?_
  refine L_lconst 175 0 dL_texts_175 (by decide) ?_
  refine L_cA 176 [.long (27713682051968315), .long 0, .long 0] 1554 98112 (fun r h => by cases h) (a_told td_176) dL_texts_176 lk_203 hc_told hs_told hp_told rfl ⟨rfl, rfl⟩ ⟨Nat.le_of_ble_eq_true rfl, Nat.le_of_ble_eq_true rfl⟩ ⟨Nat.le_of_ble_eq_true rfl, Nat.le_of_ble_eq_true rfl⟩ rfl (Nat.le_of_ble_eq_true rfl) ?_
  rintro _ rfl
  refine L_bipush 179 (-16) dL_texts_179 (by decide) ?_
  refine L_icmp_ne 181 212 dL_texts_181 (by decide) (fun c_0 => by first | exact absurd rfl c_0 | exact absurd c_0 (by decide) | exact absurd (by decide) c_0) (fun _ => ?_)
  refine L_ldc2 184 dL_texts_184 cj_239 ?_
  refine L_ldc2 187 dL_texts_187 cj_235 ?_
  refine L_lconst 190 0 dL_texts_190 (by decide) ?_
  refine L_cA 191 [.long (7094702605304406070), .long (59), .long 0] 1665 105120 (fun r h => by cases h) (a_told td_191) dL_texts_191 lk_203 hc_told hs_told hp_told rfl ⟨rfl, rfl⟩ ⟨Nat.le_of_ble_eq_true rfl, Nat.le_of_ble_eq_true rfl⟩ ⟨Nat.le_of_ble_eq_true rfl, Nat.le_of_ble_eq_true rfl⟩ rfl (Nat.le_of_ble_eq_true rfl) ?_
  rintro _ rfl
  refine L_bipush 194 (-17) dL_texts_194 (by decide) ?_
  refine L_icmp_ne 196 212 dL_texts_196 (by decide) (fun c_0 => by first | exact absurd rfl c_0 | exact absurd c_0 (by decide) | exact absurd (by decide) c_0) (fun _ => ?_)
  refine L_ldc2 199 dL_texts_199 cj_241 ?_
  refine L_lconst 202 0 dL_texts_202 (by decide) ?_
  refine L_lconst 203 0 dL_texts_203 (by decide) ?_
  refine L_cA 204 [.long (7094702605304413048), .long 0, .long 0] 1776 112128 (fun r h => by cases h) (a_told td_204) dL_texts_204 lk_203 hc_told hs_told hp_told rfl ⟨rfl, rfl⟩ ⟨Nat.le_of_ble_eq_true rfl, Nat.le_of_ble_eq_true rfl⟩ ⟨Nat.le_of_ble_eq_true rfl, Nat.le_of_ble_eq_true rfl⟩ rfl (Nat.le_of_ble_eq_true rfl) ?_
  rintro _ rfl
  refine L_bipush 207 (-17) dL_texts_207 (by decide) ?_
  refine L_icmp_eq 209 214 dL_texts_209 (by decide) (fun _ => ?_) (fun c_0 => by first | exact absurd rfl c_0 | exact absurd c_0 (by decide) | exact absurd (by decide) c_0)
  refine L_ldc2 214 dL_texts_214 cj_243 ?_
  refine L_lconst 217 0 dL_texts_217 (by decide) ?_
  refine L_lconst 218 0 dL_texts_218 (by decide) ?_
  refine L_cA 219 [.long (13627), .long 0, .long 0] 1887 119136 (fun r h => by cases h) (a_told td_219) dL_texts_219 lk_203 hc_told hs_told hp_told rfl ⟨rfl, rfl⟩ ⟨Nat.le_of_ble_eq_true rfl, Nat.le_of_ble_eq_true rfl⟩ ⟨Nat.le_of_ble_eq_true rfl, Nat.le_of_ble_eq_true rfl⟩ rfl (Nat.le_of_ble_eq_true rfl) ?_
  rintro _ rfl
  refine L_bipush 222 (-10) dL_texts_222 (by decide) ?_
  refine L_icmp_ne 224 269 dL_texts_224 (by decide) (fun c_0 => by first | exact absurd rfl c_0 | exact absurd c_0 (by decide) | exact absurd (by decide) c_0) (fun _ => ?_)
  refine L_ldc2 227 dL_texts_227 cj_235 ?_
  refine L_lconst 230 0 dL_texts_230 (by decide) ?_
  refine L_lconst 231 0 dL_texts_231 (by decide) ?_
  refine L_cA 232 [.long (59), .long 0, .long 0] 1998 126144 (fun r h => by cases h) (a_told td_232) dL_texts_232 lk_203 hc_told hs_told hp_told rfl ⟨rfl, rfl⟩ ⟨Nat.le_of_ble_eq_true rfl, Nat.le_of_ble_eq_true rfl⟩ ⟨Nat.le_of_ble_eq_true rfl, Nat.le_of_ble_eq_true rfl⟩ rfl (Nat.le_of_ble_eq_true rfl) ?_
  rintro _ rfl
  refine L_bipush 235 (-10) dL_texts_235 (by decide) ?_
  refine L_icmp_ne 237 269 dL_texts_237 (by decide) (fun c_0 => by first | exact absurd rfl c_0 | exact absurd c_0 (by decide) | exact absurd (by decide) c_0) (fun _ => ?_)
  refine L_ldc2 240 dL_texts_240 cj_245 ?_
  refine L_ldc2 243 dL_texts_243 cj_235 ?_
  refine L_lconst 246 0 dL_texts_246 (by decide) ?_
  refine L_cA 247 [.long (8602275974906716210), .long (59), .long 0] 2109 133152 (fun r h => by cases h) (a_told td_247) dL_texts_247 lk_203 hc_told hs_told hp_told rfl ⟨rfl, rfl⟩ ⟨Nat.le_of_ble_eq_true rfl, Nat.le_of_ble_eq_true rfl⟩ ⟨Nat.le_of_ble_eq_true rfl, Nat.le_of_ble_eq_true rfl⟩ rfl (Nat.le_of_ble_eq_true rfl) ?_
  rintro _ rfl
  refine L_iconst 250 1 dL_texts_250 (by decide) ?_
  refine L_icmp_ne 251 269 dL_texts_251 (by decide) (fun c_0 => by first | exact absurd rfl c_0 | exact absurd c_0 (by decide) | exact absurd (by decide) c_0) (fun _ => ?_)
  refine L_ldc2 254 dL_texts_254 cj_247 ?_
  refine L_ldc2 257 dL_texts_257 cj_235 ?_
  refine L_lconst 260 0 dL_texts_260 (by decide) ?_
  refine L_cA 261 [.long (8602275974906719538), .long (59), .long 0] 2220 140160 (fun r h => by cases h) (a_told td_261) dL_texts_261 lk_203 hc_told hs_told hp_told rfl ⟨rfl, rfl⟩ ⟨Nat.le_of_ble_eq_true rfl, Nat.le_of_ble_eq_true rfl⟩ ⟨Nat.le_of_ble_eq_true rfl, Nat.le_of_ble_eq_true rfl⟩ rfl (Nat.le_of_ble_eq_true rfl) ?_
  rintro _ rfl
  refine L_bipush 264 (-16) dL_texts_264 (by decide) ?_
  refine L_icmp_eq 266 271 dL_texts_266 (by decide) (fun _ => ?_) (fun c_0 => by first | exact absurd rfl c_0 | exact absurd c_0 (by decide) | exact absurd (by decide) c_0)
  refine L_ldc2 271 dL_texts_271 cj_249 ?_
  refine L_lconst 274 0 dL_texts_274 (by decide) ?_
  refine L_lconst 275 0 dL_texts_275 (by decide) ?_
  refine L_cA 276 [.long (33602640526979387), .long 0, .long 0] 2331 147168 (fun r h => by cases h) (a_told td_276) dL_texts_276 lk_203 hc_told hs_told hp_told rfl ⟨rfl, rfl⟩ ⟨Nat.le_of_ble_eq_true rfl, Nat.le_of_ble_eq_true rfl⟩ ⟨Nat.le_of_ble_eq_true rfl, Nat.le_of_ble_eq_true rfl⟩ rfl (Nat.le_of_ble_eq_true rfl) ?_
  rintro _ rfl
  refine L_bipush 279 (-16) dL_texts_279 (by decide) ?_
  refine L_icmp_ne 281 323 dL_texts_281 (by decide) (fun c_0 => by first | exact absurd rfl c_0 | exact absurd c_0 (by decide) | exact absurd (by decide) c_0) (fun _ => ?_)
  refine L_ldc2 284 dL_texts_284 cj_251 ?_
  refine L_ldc2 287 dL_texts_287 cj_253 ?_
  refine L_lconst 290 0 dL_texts_290 (by decide) ?_
  refine L_cA 291 [.long (7377293577726999405), .long (111524800639035), .long 0] 2442 154176 (fun r h => by cases h) (a_told td_291) dL_texts_291 lk_203 hc_told hs_told hp_told rfl ⟨rfl, rfl⟩ ⟨Nat.le_of_ble_eq_true rfl, Nat.le_of_ble_eq_true rfl⟩ ⟨Nat.le_of_ble_eq_true rfl, Nat.le_of_ble_eq_true rfl⟩ rfl (Nat.le_of_ble_eq_true rfl) ?_
  rintro _ rfl
  refine L_if_ne 294 323 dL_texts_294 (by decide) (fun c_0 => by first | exact absurd rfl c_0 | exact absurd c_0 (by decide) | exact absurd (by decide) c_0) (fun _ => ?_)
  refine L_ldc2 297 dL_texts_297 cj_255 ?_
  refine L_lconst 300 0 dL_texts_300 (by decide) ?_
  refine L_lconst 301 0 dL_texts_301 (by decide) ?_
  refine L_cA 302 [.long (19810353783255099), .long 0, .long 0] 2553 161184 (fun r h => by cases h) (a_told td_302) dL_texts_302 lk_203 hc_told hs_told hp_told rfl ⟨rfl, rfl⟩ ⟨Nat.le_of_ble_eq_true rfl, Nat.le_of_ble_eq_true rfl⟩ ⟨Nat.le_of_ble_eq_true rfl, Nat.le_of_ble_eq_true rfl⟩ rfl (Nat.le_of_ble_eq_true rfl) ?_
  rintro _ rfl
  refine L_bipush 305 (-10) dL_texts_305 (by decide) ?_
  refine L_icmp_ne 307 323 dL_texts_307 (by decide) (fun c_0 => by first | exact absurd rfl c_0 | exact absurd c_0 (by decide) | exact absurd (by decide) c_0) (fun _ => ?_)
  refine L_ldc2 310 dL_texts_310 cj_257 ?_
  refine L_lconst 313 0 dL_texts_313 (by decide) ?_
  refine L_lconst 314 0 dL_texts_314 (by decide) ?_
  refine L_cA 315 [.long (7094702605304412987), .long 0, .long 0] 2664 168192 (fun r h => by cases h) (a_told td_315) dL_texts_315 lk_203 hc_told hs_told hp_told rfl ⟨rfl, rfl⟩ ⟨Nat.le_of_ble_eq_true rfl, Nat.le_of_ble_eq_true rfl⟩ ⟨Nat.le_of_ble_eq_true rfl, Nat.le_of_ble_eq_true rfl⟩ rfl (Nat.le_of_ble_eq_true rfl) ?_
  rintro _ rfl
  refine L_bipush 318 (-17) dL_texts_318 (by decide) ?_
  refine L_icmp_eq 320 325 dL_texts_320 (by decide) (fun _ => ?_) (fun c_0 => by first | exact absurd rfl c_0 | exact absurd c_0 (by decide) | exact absurd (by decide) c_0)
  refine L_ldc2 325 dL_texts_325 cj_259 ?_
  refine L_ldc2 328 dL_texts_328 cj_261 ?_
  refine L_lconst 331 0 dL_texts_331 (by decide) ?_
  refine L_cA 332 [.long (7809643557181530169), .long (32), .long 0] 2775 175200 (fun r h => by cases h) (a_told td_332) dL_texts_332 lk_203 hc_told hs_told hp_told rfl ⟨rfl, rfl⟩ ⟨Nat.le_of_ble_eq_true rfl, Nat.le_of_ble_eq_true rfl⟩ ⟨Nat.le_of_ble_eq_true rfl, Nat.le_of_ble_eq_true rfl⟩ rfl (Nat.le_of_ble_eq_true rfl) ?_
  rintro _ rfl
  refine L_bipush 335 (-19) dL_texts_335 (by decide) ?_
  refine L_icmp_ne 337 381 dL_texts_337 (by decide) (fun c_0 => by first | exact absurd rfl c_0 | exact absurd c_0 (by decide) | exact absurd (by decide) c_0) (fun _ => ?_)
  refine L_ldc2 340 dL_texts_340 cj_263 ?_
  refine L_ldc2 343 dL_texts_343 cj_265 ?_
  refine L_lconst 346 0 dL_texts_346 (by decide) ?_
  refine L_cA 347 [.long (8316012600695467313), .long (539832379), .long 0] 2886 182208 (fun r h => by cases h) (a_told td_347) dL_texts_347 lk_203 hc_told hs_told hp_told rfl ⟨rfl, rfl⟩ ⟨Nat.le_of_ble_eq_true rfl, Nat.le_of_ble_eq_true rfl⟩ ⟨Nat.le_of_ble_eq_true rfl, Nat.le_of_ble_eq_true rfl⟩ rfl (Nat.le_of_ble_eq_true rfl) ?_
  rintro _ rfl
  refine L_iconst 350 1 dL_texts_350 (by decide) ?_
  refine L_icmp_ne 351 381 dL_texts_351 (by decide) (fun c_0 => by first | exact absurd rfl c_0 | exact absurd c_0 (by decide) | exact absurd (by decide) c_0) (fun _ => ?_)
  refine L_ldc2 354 dL_texts_354 cj_267 ?_
  refine L_ldc2 357 dL_texts_357 cj_269 ?_
  refine L_lconst 360 0 dL_texts_360 (by decide) ?_
  refine L_cA 361 [.long (7165071350643695664), .long (9061213604426555), .long 0] 2997 189216 (fun r h => by cases h) (a_told td_361) dL_texts_361 lk_203 hc_told hs_told hp_told rfl ⟨rfl, rfl⟩ ⟨Nat.le_of_ble_eq_true rfl, Nat.le_of_ble_eq_true rfl⟩ ⟨Nat.le_of_ble_eq_true rfl, Nat.le_of_ble_eq_true rfl⟩ rfl (Nat.le_of_ble_eq_true rfl) ?_
  rintro _ rfl
  refine L_if_ne 364 381 dL_texts_364 (by decide) (fun c_0 => by first | exact absurd rfl c_0 | exact absurd c_0 (by decide) | exact absurd (by decide) c_0) (fun _ => ?_)
  refine L_ldc2 367 dL_texts_367 cj_271 ?_
  refine L_ldc2 370 dL_texts_370 cj_273 ?_
  refine L_lconst 373 0 dL_texts_373 (by decide) ?_
  refine L_cA 374 [.long (8097869528104448032), .long (3467825727408190779), .long 0] 3108 196224 (fun r h => by cases h) (a_told td_374) dL_texts_374 lk_203 hc_told hs_told hp_told rfl ⟨rfl, rfl⟩ ⟨Nat.le_of_ble_eq_true rfl, Nat.le_of_ble_eq_true rfl⟩ ⟨Nat.le_of_ble_eq_true rfl, Nat.le_of_ble_eq_true rfl⟩ rfl (Nat.le_of_ble_eq_true rfl) ?_
  rintro _ rfl
  refine L_iconst 377 1 dL_texts_377 (by decide) ?_
  refine L_icmp_eq 378 383 dL_texts_378 (by decide) (fun _ => ?_) (fun c_0 => by first | exact absurd rfl c_0 | exact absurd c_0 (by decide) | exact absurd (by decide) c_0)
  refine L_ldc2 383 dL_texts_383 cj_275 ?_
  refine L_ldc2 386 dL_texts_386 cj_277 ?_
  refine L_lconst 389 0 dL_texts_389 (by decide) ?_
  refine L_cA 390 [.long (7094702605304413026), .long (30066), .long 0] 3219 203232 (fun r h => by cases h) (a_told td_390) dL_texts_390 lk_203 hc_told hs_told hp_told rfl ⟨rfl, rfl⟩ ⟨Nat.le_of_ble_eq_true rfl, Nat.le_of_ble_eq_true rfl⟩ ⟨Nat.le_of_ble_eq_true rfl, Nat.le_of_ble_eq_true rfl⟩ rfl (Nat.le_of_ble_eq_true rfl) ?_
  rintro _ rfl
  refine L_bipush 393 (-17) dL_texts_393 (by decide) ?_
  refine L_icmp_ne 395 443 dL_texts_395 (by decide) (fun c_0 => by first | exact absurd rfl c_0 | exact absurd c_0 (by decide) | exact absurd (by decide) c_0) (fun _ => ?_)
  refine L_ldc2 398 dL_texts_398 cj_279 ?_
  refine L_ldc2 401 dL_texts_401 cj_281 ?_
  refine L_ldc2 404 dL_texts_404 cj_283 ?_
  refine L_cA 407 [.long (7809643557181005873), .long (4281904468382986805), .long (908079163)] 3330 210240 (fun r h => by cases h) (a_told td_407) dL_texts_407 lk_203 hc_told hs_told hp_told rfl ⟨rfl, rfl⟩ ⟨Nat.le_of_ble_eq_true rfl, Nat.le_of_ble_eq_true rfl⟩ ⟨Nat.le_of_ble_eq_true rfl, Nat.le_of_ble_eq_true rfl⟩ rfl (Nat.le_of_ble_eq_true rfl) ?_
  rintro _ rfl
  refine L_iconst 410 1 dL_texts_410 (by decide) ?_
  refine L_icmp_ne 411 443 dL_texts_411 (by decide) (fun c_0 => by first | exact absurd rfl c_0 | exact absurd c_0 (by decide) | exact absurd (by decide) c_0) (fun _ => ?_)
  refine L_ldc2 414 dL_texts_414 cj_227 ?_
  refine L_ldc2 417 dL_texts_417 cj_285 ?_
  refine L_ldc2 420 dL_texts_420 cj_287 ?_
  refine L_cA 423 [.long (7094702605304082480), .long (3835767764206624825), .long (960051515)] 3441 217248 (fun r h => by cases h) (a_told td_423) dL_texts_423 lk_203 hc_told hs_told hp_told rfl ⟨rfl, rfl⟩ ⟨Nat.le_of_ble_eq_true rfl, Nat.le_of_ble_eq_true rfl⟩ ⟨Nat.le_of_ble_eq_true rfl, Nat.le_of_ble_eq_true rfl⟩ rfl (Nat.le_of_ble_eq_true rfl) ?_
  rintro _ rfl
  refine L_iconst 426 2 dL_texts_426 (by decide) ?_
  refine L_icmp_ne 427 443 dL_texts_427 (by decide) (fun c_0 => by first | exact absurd rfl c_0 | exact absurd c_0 (by decide) | exact absurd (by decide) c_0) (fun _ => ?_)
  refine L_ldc2 430 dL_texts_430 cj_289 ?_
  refine L_lconst 433 0 dL_texts_433 (by decide) ?_
  refine L_lconst 434 0 dL_texts_434 (by decide) ?_
  refine L_cA 435 [.long (7882828099096685883), .long 0, .long 0] 3552 224256 (fun r h => by cases h) (a_told td_435) dL_texts_435 lk_203 hc_told hs_told hp_told rfl ⟨rfl, rfl⟩ ⟨Nat.le_of_ble_eq_true rfl, Nat.le_of_ble_eq_true rfl⟩ ⟨Nat.le_of_ble_eq_true rfl, Nat.le_of_ble_eq_true rfl⟩ rfl (Nat.le_of_ble_eq_true rfl) ?_
  rintro _ rfl
  refine L_bipush 438 (-17) dL_texts_438 (by decide) ?_
  refine L_icmp_eq 440 445 dL_texts_440 (by decide) (fun _ => ?_) (fun c_0 => by first | exact absurd rfl c_0 | exact absurd c_0 (by decide) | exact absurd (by decide) c_0)
  refine L_newC 445 dL_texts_445 dL_texts_448 dL_texts_449 kz_c lk_191 ⟨Nat.le_of_ble_eq_true rfl, Nat.le_of_ble_eq_true rfl⟩ ⟨Nat.le_of_ble_eq_true rfl, Nat.le_of_ble_eq_true rfl⟩ (fun _ _ => rfl) (fun f => ?_)
  have hS := ST00 (fun _ => V0)
  rw [bS_0] at hS
  have E480 : ∀ V : Mm, ST V V0 12 8 0 (fun _ => V0) 0 150 (bS 150) → XL (.inr (.inl (fun r => ∃ u : Int32, r = some (.int u) ∧ 1 = u))) none 1 mL_texts [] 3662 231258 480 [(1, .int (nI 151)), (0, .ref 109)] [] (V, f) := by
    intro V hS
    refine L_aload_n 480 1 dL_texts_480 rfl rfl ?_
    refine L_bipush 481 32 dL_texts_481 (by decide) ?_
    refine L_cT 483 [.ref 109, .int 32] 3663 231264 (Nat.le_refl 1) (t_typing_3 32 V (x_X6_type_State 32 V ⟨⟨by decide, by decide⟩, by rw [hS.v2]; decide⟩)) dL_texts_483 lk_183 hc_typing hs_typing hp_typing rfl ⟨rfl, rfl⟩ ⟨Nat.le_of_ble_eq_true rfl, Nat.le_of_ble_eq_true rfl⟩ ⟨Nat.le_of_ble_eq_true rfl, Nat.le_of_ble_eq_true rfl⟩ rfl (Nat.le_of_ble_eq_true rfl) ?_
    rintro _ _ ⟨rfl, rfl⟩
    refine L_sipush 486 (-3003) dL_texts_486 (by decide) ?_
    refine L_icmp_ne 489 550 dL_texts_489 (by decide) (fun c_0 => by first | exact absurd rfl c_0 | exact absurd c_0 (by decide) | exact absurd (by decide) c_0) (fun _ => ?_)
    refine L_aload_n 492 1 dL_texts_492 rfl rfl ?_
    refine L_sipush 493 128 dL_texts_493 (by decide) ?_
    refine L_cT 496 [.ref 109, .int 128] 3664 231270 (Nat.le_refl 1) (t_typing_2 128 V (x_X6_type_Argument 128 V (by unfold rgI; decide))) dL_texts_496 lk_183 hc_typing hs_typing hp_typing rfl ⟨rfl, rfl⟩ ⟨Nat.le_of_ble_eq_true rfl, Nat.le_of_ble_eq_true rfl⟩ ⟨Nat.le_of_ble_eq_true rfl, Nat.le_of_ble_eq_true rfl⟩ rfl (Nat.le_of_ble_eq_true rfl) ?_
    rintro _ _ ⟨rfl, rfl⟩
    refine L_sipush 499 (-3002) dL_texts_499 (by decide) ?_
    refine L_icmp_ne 502 550 dL_texts_502 (by decide) (fun c_0 => by first | exact absurd rfl c_0 | exact absurd c_0 (by decide) | exact absurd (by decide) c_0) (fun _ => ?_)
    refine L_aload_n 505 1 dL_texts_505 rfl rfl ?_
    refine L_cC 506 (Nat.le_refl 1) (o_runCommands hS) dL_texts_506 lk_196 wm_X6_runCommands hq_runCommands rfl ⟨rfl, rfl⟩ ⟨Nat.le_of_ble_eq_true rfl, Nat.le_of_ble_eq_true rfl⟩ ⟨Nat.le_of_ble_eq_true rfl, Nat.le_of_ble_eq_true rfl⟩ rfl (Nat.le_of_ble_eq_true rfl) ?_
    intro u V hu
    obtain ⟨h2, S2, c2, r2, l2, hS⟩ : 0 = u ∧ ∃ S2 c2 r2 l2, ST V S2 c2 r2 l2 (pT V0 (fun _ => V0)) 1 150 (bS 150) := by
      rcases hu with ⟨h1, _⟩ | ⟨_, h2, h3⟩
      · exact absurd ff_S h1
      · rw [ru_S] at h2; exact ⟨h2, h3⟩
    subst h2
    refine L_if_ne 509 550 dL_texts_509 (by decide) (fun c_0 => by first | exact absurd rfl c_0 | exact absurd c_0 (by decide) | exact absurd (by decide) c_0) (fun _ => ?_)
    refine L_aload_n 512 1 dL_texts_512 rfl rfl ?_
    refine L_cC 513 (Nat.le_refl 1) (o_clear hS) dL_texts_513 lk_291 wm_X6_clearCommands hq_clearCommands rfl ⟨rfl, rfl⟩ ⟨Nat.le_of_ble_eq_true rfl, Nat.le_of_ble_eq_true rfl⟩ ⟨Nat.le_of_ble_eq_true rfl, Nat.le_of_ble_eq_true rfl⟩ rfl (Nat.le_of_ble_eq_true rfl) ?_
    rintro _ V ⟨rfl, hS⟩
    refine L_sipush 516 150 dL_texts_516 (by decide) ?_
    refine L_icmp_ne 519 550 dL_texts_519 (by decide) (fun c_0 => by first | exact absurd rfl c_0 | exact absurd c_0 (by decide) | exact absurd (by decide) c_0) (fun _ => ?_)
    refine L_aload_n 522 1 dL_texts_522 rfl rfl ?_
    refine L_cC 523 (Nat.le_refl 1) (o_clear hS) dL_texts_523 lk_291 wm_X6_clearCommands hq_clearCommands rfl ⟨rfl, rfl⟩ ⟨Nat.le_of_ble_eq_true rfl, Nat.le_of_ble_eq_true rfl⟩ ⟨Nat.le_of_ble_eq_true rfl, Nat.le_of_ble_eq_true rfl⟩ rfl (Nat.le_of_ble_eq_true rfl) ?_
    rintro _ V ⟨rfl, hS⟩
    refine L_if_ne 526 550 dL_texts_526 (by decide) (fun c_0 => by first | exact absurd rfl c_0 | exact absurd c_0 (by decide) | exact absurd (by decide) c_0) (fun _ => ?_)
    refine L_aload_n 529 1 dL_texts_529 rfl rfl ?_
    refine L_cW 530 [.ref 109] (Nat.le_refl 1) (w_undoing _ _ (o_undo2 (cn := 0) hS DM00)) dL_texts_530 lk_199 hc_undoing hs_undoing hp_undoing rfl ⟨rfl, rfl⟩ ⟨Nat.le_of_ble_eq_true rfl, Nat.le_of_ble_eq_true rfl⟩ ⟨Nat.le_of_ble_eq_true rfl, Nat.le_of_ble_eq_true rfl⟩ rfl (Nat.le_of_ble_eq_true rfl) ?_
    rintro _ V ⟨rfl, hS⟩
    refine L_if_ne 533 550 dL_texts_533 (by decide) (fun c_0 => by first | exact absurd rfl c_0 | exact absurd c_0 (by decide) | exact absurd (by decide) c_0) (fun _ => ?_)
    refine L_aload_n 536 1 dL_texts_536 rfl rfl ?_
    refine L_cT 537 [.ref 109] 3665 231276 (Nat.le_refl 1) (t_undoing_3  V (x_X6_undo_State V (st0 hS))) dL_texts_537 lk_199 hc_undoing hs_undoing hp_undoing rfl ⟨rfl, rfl⟩ ⟨Nat.le_of_ble_eq_true rfl, Nat.le_of_ble_eq_true rfl⟩ ⟨Nat.le_of_ble_eq_true rfl, Nat.le_of_ble_eq_true rfl⟩ rfl (Nat.le_of_ble_eq_true rfl) ?_
    rintro _ _ ⟨rfl, rfl⟩
    refine L_sipush 540 (-3003) dL_texts_540 (by decide) ?_
    refine L_icmp_ne 543 550 dL_texts_543 (by decide) (fun c_0 => by first | exact absurd rfl c_0 | exact absurd c_0 (by decide) | exact absurd (by decide) c_0) (fun _ => ?_)
    refine L_iconst 546 1 dL_texts_546 (by decide) ?_
    refine L_goto 547 551 dL_texts_547 (by decide) ?_
    exact L_iretA 551 dL_texts_551 rfl rfl ⟨Nat.le_of_ble_eq_true rfl, Nat.le_of_ble_eq_true rfl⟩ ⟨_, rfl, rfl⟩
  have L455 : ∀ (kf n : Nat) (V : Mm), n ≤ 150 → 150 < n + kf → ST V V0 12 8 0 (fun _ => V0) 0 n (bS n) → XL (.inr (.inl (fun r => ∃ u : Int32, r = some (.int u) ∧ 1 = u))) none 1 mL_texts [] 3662 231258 455 [(1, .int (nI (n + 1))), (0, .ref 109)] [] (V, f) := by
    intro kf
    induction kf with
    | zero => intro n V h1 h2; omega
    | succ kf ih =>
      intro n V h1 h2 hS
      refine L_iload_n 455 0 dL_texts_455 rfl rfl ?_
      refine L_sipush 456 (nI 150) dL_texts_456 (by decide) ?_
      refine L_icmp_gt 459 480 dL_texts_459 (by decide) (fun c_b => ?_) (fun c_b => ?_)
      · have e : n = 150 := by have := (nI_ltI (by omega) (by omega)).mp c_b; omega
        subst e
        exact E480 V hS
      have hn : n < 150 := by have := (nI_leI (by omega) (by omega)).mp (Int32.not_lt.mp c_b); omega
      refine L_aload_n 462 1 dL_texts_462 rfl rfl ?_
      refine L_bipush 463 (32) dL_texts_463 (by decide) ?_
      refine L_cW 465 [.ref 109, .int 32] (Nat.le_refl 1) (w_typing _ _ _ (o_type hS ⟨by decide, by decide⟩ hn)) dL_texts_465 lk_183 hc_typing hs_typing hp_typing rfl ⟨rfl, rfl⟩ ⟨Nat.le_of_ble_eq_true rfl, Nat.le_of_ble_eq_true rfl⟩ ⟨Nat.le_of_ble_eq_true rfl, Nat.le_of_ble_eq_true rfl⟩ rfl (Nat.le_of_ble_eq_true rfl) ?_
      rintro _ V ⟨rfl, hS⟩
      rw [bS_up] at hS
      refine L_iload_n 468 0 dL_texts_468 rfl rfl ?_
      refine L_icmp_eq 469 474 dL_texts_469 (by decide) (fun _ => ?_) (fun c_0 => absurd rfl c_0)
      refine L_iinc 474 0 (nI (n + 1 + 1)) [(1, .int _), (0, .ref _)] dL_texts_474 rfl (nI_add (n + 1) 1) (by decide) rfl ?_
      refine L_goto 477 455 dL_texts_477 (by decide) ?_
      exact ih (n + 1) V (by omega) (by omega) hS
  refine L_astore_n 452 [(0, .ref _)] dL_texts_452 rfl (by decide) rfl ?_
  refine L_iconst 453 (nI (0 + 1)) dL_texts_453 (by decide) ?_
  refine L_istore_n 454 [(1, .int _), (0, .ref _)] dL_texts_454 rfl (by decide) rfl ?_
  exact L455 151 0 V0 (by omega) (by omega) hS
