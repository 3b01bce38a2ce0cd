/-- what a method of the law leaves behind: its answer, the row, and what the model will say -/
def WR (MM : MD) (av : List Value) (ω : WDt) (r : Int32) (ω2 : WDt) : Prop := ω2.2.1 = ω.2.1 ∧ ((r = 0 ∧ ∃ v : Int32, ω2.2.2 0 = v.toInt64 ∧ MOK MM (.ref 0 :: av) ω.2.1 (fun w m => w = v ∧ m 0 6 = 0 ∧ REL ω2.1 m)) ∨ (¬ r = 0 ∧ MOK MM (.ref 0 :: av) ω.2.1 (fun _ m => m 0 6 = r ∧ REL ω2.1 m)))
theorem kl_699 : Cond.classLink "LampMuralLaw" 13 "java/lang/IllegalArgumentException" ∈ WS := mW 780 (by decide +kernel) (by decide +kernel)
theorem kl_700 : Cond.methodLink "LampMuralLaw" 7 ⟨"LampMural", "begin", "(II)I"⟩ ∈ WS := mW 781 (by decide +kernel) (by decide +kernel)
theorem kl_777 : Cond.classLink "LampMuralLaw" 19 "java/lang/IndexOutOfBoundsException" ∈ WS := mW 858 (by decide +kernel) (by decide +kernel)
theorem kl_778 : Cond.methodLink "LampMuralLaw" 15 ⟨"LampMural", "paint", "(IIIII)I"⟩ ∈ WS := mW 859 (by decide +kernel) (by decide +kernel)
theorem kl_804 : Cond.classLink "LampMuralLaw" 24 "java/lang/IllegalStateException" ∈ WS := mW 885 (by decide +kernel) (by decide +kernel)
theorem kl_805 : Cond.methodLink "LampMuralLaw" 21 ⟨"LampMural", "addLamp", "(II)I"⟩ ∈ WS := mW 886 (by decide +kernel) (by decide +kernel)
theorem kl_831 : Cond.methodLink "LampMuralLaw" 26 ⟨"LampMural", "setCorner", "(IIII)I"⟩ ∈ WS := mW 912 (by decide +kernel) (by decide +kernel)
theorem kl_838 : Cond.methodLink "LampMuralLaw" 30 ⟨"LampMural", "setRectangle", "(IIIII)I"⟩ ∈ WS := mW 919 (by decide +kernel) (by decide +kernel)
theorem kl_849 : Cond.methodLink "LampMuralLaw" 33 ⟨"LampMural", "setLamp", "(III)I"⟩ ∈ WS := mW 930 (by decide +kernel) (by decide +kernel)
theorem kl_864 : Cond.methodLink "LampMuralLaw" 37 ⟨"LampMural", "setWorks", "(IZ)I"⟩ ∈ WS := mW 945 (by decide +kernel) (by decide +kernel)
theorem kl_871 : Cond.methodLink "LampMuralLaw" 41 ⟨"LampMural", "shift", "(II)I"⟩ ∈ WS := mW 952 (by decide +kernel) (by decide +kernel)
theorem kl_883 : Cond.methodLink "LampMuralLaw" 44 ⟨"LampMural", "burn", "(I)I"⟩ ∈ WS := mW 964 (by decide +kernel) (by decide +kernel)
theorem kl_895 : Cond.methodLink "LampMuralLaw" 48 ⟨"LampMural", "place", "(III)I"⟩ ∈ WS := mW 976 (by decide +kernel) (by decide +kernel)
theorem kl_907 : Cond.methodLink "LampMuralLaw" 51 ⟨"LampMural", "light", "(III)I"⟩ ∈ WS := mW 988 (by decide +kernel) (by decide +kernel)
theorem kl_914 : Cond.methodLink "LampMuralLaw" 54 ⟨"LampMural", "weight", "(III)I"⟩ ∈ WS := mW 995 (by decide +kernel) (by decide +kernel)
theorem kl_924 : Cond.methodLink "LampMuralLaw" 57 ⟨"LampMural", "lamp", "(II)I"⟩ ∈ WS := mW 1005 (by decide +kernel) (by decide +kernel)
theorem kl_931 : Cond.methodLink "LampMuralLaw" 60 ⟨"LampMural", "corner", "(III)I"⟩ ∈ WS := mW 1012 (by decide +kernel) (by decide +kernel)
theorem kl_938 : Cond.methodLink "LampMuralLaw" 63 ⟨"LampMural", "whole", "(I)I"⟩ ∈ WS := mW 1019 (by decide +kernel) (by decide +kernel)
theorem kl_945 : Cond.methodLink "LampMuralLaw" 66 ⟨"LampMural", "wrong", "(I)I"⟩ ∈ WS := mW 1026 (by decide +kernel) (by decide +kernel)
theorem kl_952 : Cond.methodLink "LampMuralLaw" 69 ⟨"LampMural", "wrongWithout", "(I)I"⟩ ∈ WS := mW 1033 (by decide +kernel) (by decide +kernel)
theorem kl_959 : Cond.methodLink "LampMuralLaw" 72 ⟨"LampMural", "wrongShifted", "(II)I"⟩ ∈ WS := mW 1040 (by decide +kernel) (by decide +kernel)
theorem kl_966 : Cond.methodLink "LampMuralLaw" 75 ⟨"LampMural", "bestShift", "(I)I"⟩ ∈ WS := mW 1047 (by decide +kernel) (by decide +kernel)
theorem kl_973 : Cond.methodLink "LampMuralLaw" 78 ⟨"LampMural", "neededLimit", "(I)I"⟩ ∈ WS := mW 1054 (by decide +kernel) (by decide +kernel)
theorem kl_981 : Cond.methodLink "LampMuralLaw" 81 ⟨"LampMural", "type", "(I)I"⟩ ∈ WS := mW 1062 (by decide +kernel) (by decide +kernel)
theorem kl_992 : Cond.methodLink "LampMuralLaw" 84 ⟨"LampMural", "undo", "()I"⟩ ∈ WS := mW 1073 (by decide +kernel) (by decide +kernel)
abbrev mL_begin : MD := (RL, yL_begin, cL_begin, 5, (some FieldType.int), { frames := 8, cells := 1, slots := 6, locals := 143 })
abbrev hL_begin : List (Nat × Nat × Nat × Nat) := [(0, 10, 13, 13)]
abbrev mL_paint : MD := (RL, yL_paint, cL_paint, 8, (some FieldType.int), { frames := 8, cells := 1, slots := 6, locals := 146 })
abbrev hL_paint : List (Nat × Nat × Nat × Nat) := [(0, 16, 19, 19), (0, 16, 23, 13)]
abbrev mL_addLamp : MD := (RL, yL_addLamp, cL_addLamp, 5, (some FieldType.int), { frames := 8, cells := 1, slots := 6, locals := 143 })
abbrev hL_addLamp : List (Nat × Nat × Nat × Nat) := [(0, 10, 13, 13), (0, 10, 17, 24)]
abbrev mL_setCorner : MD := (RL, yL_setCorner, cL_setCorner, 7, (some FieldType.int), { frames := 8, cells := 1, slots := 6, locals := 145 })
abbrev hL_setCorner : List (Nat × Nat × Nat × Nat) := [(0, 14, 17, 19), (0, 14, 21, 13)]
abbrev mL_setRectangle : MD := (RL, yL_setRectangle, cL_setRectangle, 8, (some FieldType.int), { frames := 8, cells := 1, slots := 6, locals := 146 })
abbrev hL_setRectangle : List (Nat × Nat × Nat × Nat) := [(0, 16, 19, 19), (0, 16, 23, 13)]
abbrev mL_setLamp : MD := (RL, yL_setLamp, cL_setLamp, 6, (some FieldType.int), { frames := 8, cells := 1, slots := 6, locals := 156 })
abbrev hL_setLamp : List (Nat × Nat × Nat × Nat) := [(0, 12, 15, 19), (0, 12, 19, 13)]
abbrev mL_setWorks : MD := (RL, yL_setWorks, cL_setWorks, 5, (some FieldType.int), { frames := 8, cells := 1, slots := 6, locals := 143 })
abbrev hL_setWorks : List (Nat × Nat × Nat × Nat) := [(0, 10, 13, 19)]
abbrev mL_shift : MD := (RL, yL_shift, cL_shift, 5, (some FieldType.int), { frames := 8, cells := 1, slots := 6, locals := 142 })
abbrev hL_shift : List (Nat × Nat × Nat × Nat) := [(0, 10, 13, 13)]
abbrev mL_burn : MD := (RL, yL_burn, cL_burn, 4, (some FieldType.int), { frames := 8, cells := 1, slots := 6, locals := 152 })
abbrev hL_burn : List (Nat × Nat × Nat × Nat) := [(0, 9, 12, 13)]
abbrev mL_place : MD := (RL, yL_place, cL_place, 6, (some FieldType.int), { frames := 8, cells := 1, slots := 6, locals := 154 })
abbrev hL_place : List (Nat × Nat × Nat × Nat) := [(0, 12, 15, 19), (0, 12, 19, 13)]
abbrev mL_light : MD := (RL, yL_light, cL_light, 6, (some FieldType.int), { frames := 8, cells := 1, slots := 6, locals := 143 })
abbrev hL_light : List (Nat × Nat × Nat × Nat) := [(0, 12, 15, 19)]
abbrev mL_weight : MD := (RL, yL_weight, cL_weight, 6, (some FieldType.int), { frames := 8, cells := 1, slots := 6, locals := 143 })
abbrev hL_weight : List (Nat × Nat × Nat × Nat) := [(0, 12, 15, 19)]
abbrev mL_lamp : MD := (RL, yL_lamp, cL_lamp, 5, (some FieldType.int), { frames := 8, cells := 1, slots := 6, locals := 153 })
abbrev hL_lamp : List (Nat × Nat × Nat × Nat) := [(0, 10, 13, 19), (0, 10, 17, 13)]
abbrev mL_corner : MD := (RL, yL_corner, cL_corner, 6, (some FieldType.int), { frames := 8, cells := 1, slots := 6, locals := 143 })
abbrev hL_corner : List (Nat × Nat × Nat × Nat) := [(0, 12, 15, 19), (0, 12, 19, 13)]
abbrev mL_whole : MD := (RL, yL_whole, cL_whole, 4, (some FieldType.int), { frames := 8, cells := 1, slots := 6, locals := 151 })
abbrev hL_whole : List (Nat × Nat × Nat × Nat) := [(0, 9, 12, 13)]
abbrev mL_wrong : MD := (RL, yL_wrong, cL_wrong, 4, (some FieldType.int), { frames := 8, cells := 1, slots := 6, locals := 144 })
abbrev hL_wrong : List (Nat × Nat × Nat × Nat) := [(0, 9, 12, 13)]
abbrev mL_wrongWithout : MD := (RL, yL_wrongWithout, cL_wrongWithout, 4, (some FieldType.int), { frames := 8, cells := 1, slots := 6, locals := 157 })
abbrev hL_wrongWithout : List (Nat × Nat × Nat × Nat) := [(0, 9, 12, 19)]
abbrev mL_wrongShifted : MD := (RL, yL_wrongShifted, cL_wrongShifted, 5, (some FieldType.int), { frames := 8, cells := 1, slots := 6, locals := 142 })
abbrev hL_wrongShifted : List (Nat × Nat × Nat × Nat) := [(0, 10, 13, 13)]
abbrev mL_bestShift : MD := (RL, yL_bestShift, cL_bestShift, 4, (some FieldType.int), { frames := 8, cells := 1, slots := 6, locals := 147 })
abbrev hL_bestShift : List (Nat × Nat × Nat × Nat) := [(0, 9, 12, 13)]
abbrev mL_neededLimit : MD := (RL, yL_neededLimit, cL_neededLimit, 4, (some FieldType.int), { frames := 8, cells := 1, slots := 6, locals := 144 })
abbrev hL_neededLimit : List (Nat × Nat × Nat × Nat) := [(0, 9, 12, 19)]
abbrev mL_type : MD := (RL, yL_type, cL_type, 4, (some FieldType.int), { frames := 8, cells := 1, slots := 6, locals := 141 })
abbrev hL_type : List (Nat × Nat × Nat × Nat) := [(0, 9, 12, 13), (0, 9, 15, 24)]
abbrev mL_undo : MD := (RL, yL_undo, cL_undo, 3, (some FieldType.int), { frames := 8, cells := 1, slots := 6, locals := 140 })
abbrev hL_undo : List (Nat × Nat × Nat × Nat) := [(0, 8, 11, 24)]
theorem w_begin (a0 a1 : Int32) (ω : WDt) (h : REL ω.1 ω.2.1) : EvL mL_begin hL_begin [.ref 0, .int a0, .int a1, .ref 2] ω (WR mX7_begin [.int a0, .int a1] ω) := by
  refine EvL_of (by decide +kernel) rfl (fun _ => rfl) (fun _ => Nat.le_of_ble_eq_true rfl) (ls := [(0, .ref 0), (1, .int a0), (2, .int a1), (3, .ref 2)]) ?_
  rcases s_begin h a0 a1 with ⟨S, hE, hk⟩ | ⟨hX, hk⟩
  · refine L_aload_n 0 3 dL_begin_0 rfl rfl ?_
    refine L_iconst 1 0 dL_begin_1 (by decide) ?_
    refine L_aload_n 2 0 dL_begin_2 rfl rfl ?_
    refine L_iload_n 3 1 dL_begin_3 rfl rfl ?_
    refine L_iload_n 4 2 dL_begin_4 rfl rfl ?_
    refine L_callC 5 [.int a0, .int a1] (fun _ => rfl) hE (by rintro r m ⟨x, rfl, _⟩ _; rfl) dL_begin_5 kl_700 wm_X6_begin (show _ = some 2 from by decide +kernel) ⟨Nat.le_of_ble_eq_true rfl, Nat.le_of_ble_eq_true rfl⟩ ⟨rfl, rfl⟩ rfl ⟨Nat.zero_le _, Nat.zero_le _⟩ rfl (Nat.le_of_ble_eq_true rfl) ?_
    rintro _ V2 ⟨v, rfl, hv⟩
    refine L_i2l 8 dL_begin_8 ?_
    refine L_lastore 9 dL_begin_9 ?_
    intro f hf
    refine L_goto 10 17 dL_begin_10 (by decide) ?_
    refine L_iconst 17 0 dL_begin_17 (by decide) ?_
    exact L_ret 18 dL_begin_18 rfl (Nat.zero_le _) (Nat.zero_le _) ⟨rfl, Or.inl ⟨rfl, v, hf, hk v V2 hv⟩⟩
  · refine L_aload_n 0 3 dL_begin_0 rfl rfl ?_
    refine L_iconst 1 0 dL_begin_1 (by decide) ?_
    refine L_aload_n 2 0 dL_begin_2 rfl rfl ?_
    refine L_iload_n 3 1 dL_begin_3 rfl rfl ?_
    refine L_iload_n 4 2 dL_begin_4 rfl rfl ?_
    refine L_catch 5 [.int a0, .int a1] (fun _ => rfl) hX dL_begin_5 kl_700 wm_X6_begin (show _ = some 2 from by decide +kernel) ⟨Nat.le_of_ble_eq_true rfl, Nat.le_of_ble_eq_true rfl⟩ ⟨rfl, rfl⟩ rfl ⟨Nat.le_refl 1, Nat.le_refl 6⟩ rfl (Nat.le_of_ble_eq_true rfl) [] _ _ rfl (fun z hz => nomatch hz) (by decide) (by decide) kl_699 (by decide) ?_
    intro q
    refine L_astore 13 _ dL_begin_13 (by decide) rfl ?_
    refine L_iconst 15 1 dL_begin_15 (by decide) ?_
    exact L_ret 16 dL_begin_16 rfl (Nat.le_refl 1) (Nat.le_refl 6) ⟨rfl, Or.inr ⟨by decide, hk⟩⟩
theorem w_paint (a0 a1 a2 a3 a4 : Int32) (ω : WDt) (h : REL ω.1 ω.2.1) : EvL mL_paint hL_paint [.ref 0, .int a0, .int a1, .int a2, .int a3, .int a4, .ref 2] ω (WR mX7_paint [.int a0, .int a1, .int a2, .int a3, .int a4] ω) := by
  refine EvL_of (by decide +kernel) rfl (fun _ => rfl) (fun _ => Nat.le_of_ble_eq_true rfl) (ls := [(0, .ref 0), (1, .int a0), (2, .int a1), (3, .int a2), (4, .int a3), (5, .int a4), (6, .ref 2)]) ?_
  rcases s_paint h a0 a1 a2 a3 a4 with ⟨S, hE, hk⟩ | ⟨hX, hk⟩ | ⟨hX, hk⟩
  · refine L_aload 0 6 dL_paint_0 rfl ?_
    refine L_iconst 2 0 dL_paint_2 (by decide) ?_
    refine L_aload_n 3 0 dL_paint_3 rfl rfl ?_
    refine L_iload_n 4 1 dL_paint_4 rfl rfl ?_
    refine L_iload_n 5 2 dL_paint_5 rfl rfl ?_
    refine L_iload_n 6 3 dL_paint_6 rfl rfl ?_
    refine L_iload 7 4 dL_paint_7 rfl ?_
    refine L_iload 9 5 dL_paint_9 rfl ?_
    refine L_callC 11 [.int a0, .int a1, .int a2, .int a3, .int a4] (fun _ => rfl) hE (by rintro r m ⟨x, rfl, _⟩ _; rfl) dL_paint_11 kl_778 wm_X6_paint (show _ = some 5 from by decide +kernel) ⟨Nat.le_of_ble_eq_true rfl, Nat.le_of_ble_eq_true rfl⟩ ⟨rfl, rfl⟩ rfl ⟨Nat.zero_le _, Nat.zero_le _⟩ rfl (Nat.le_of_ble_eq_true rfl) ?_
    rintro _ V2 ⟨v, rfl, hv⟩
    refine L_i2l 14 dL_paint_14 ?_
    refine L_lastore 15 dL_paint_15 ?_
    intro f hf
    refine L_goto 16 27 dL_paint_16 (by decide) ?_
    refine L_iconst 27 0 dL_paint_27 (by decide) ?_
    exact L_ret 28 dL_paint_28 rfl (Nat.zero_le _) (Nat.zero_le _) ⟨rfl, Or.inl ⟨rfl, v, hf, hk v V2 hv⟩⟩
  · refine L_aload 0 6 dL_paint_0 rfl ?_
    refine L_iconst 2 0 dL_paint_2 (by decide) ?_
    refine L_aload_n 3 0 dL_paint_3 rfl rfl ?_
    refine L_iload_n 4 1 dL_paint_4 rfl rfl ?_
    refine L_iload_n 5 2 dL_paint_5 rfl rfl ?_
    refine L_iload_n 6 3 dL_paint_6 rfl rfl ?_
    refine L_iload 7 4 dL_paint_7 rfl ?_
    refine L_iload 9 5 dL_paint_9 rfl ?_
    refine L_catch 11 [.int a0, .int a1, .int a2, .int a3, .int a4] (fun _ => rfl) hX dL_paint_11 kl_778 wm_X6_paint (show _ = some 5 from by decide +kernel) ⟨Nat.le_of_ble_eq_true rfl, Nat.le_of_ble_eq_true rfl⟩ ⟨rfl, rfl⟩ rfl ⟨Nat.le_refl 1, Nat.le_refl 6⟩ rfl (Nat.le_of_ble_eq_true rfl) [] _ _ rfl (fun z hz => nomatch hz) (by decide) (by decide) kl_777 (by decide) ?_
    intro q
    refine L_astore 19 _ dL_paint_19 (by decide) rfl ?_
    refine L_iconst 21 1 dL_paint_21 (by decide) ?_
    exact L_ret 22 dL_paint_22 rfl (Nat.le_refl 1) (Nat.le_refl 6) ⟨rfl, Or.inr ⟨by decide, hk⟩⟩
  · refine L_aload 0 6 dL_paint_0 rfl ?_
    refine L_iconst 2 0 dL_paint_2 (by decide) ?_
    refine L_aload_n 3 0 dL_paint_3 rfl rfl ?_
    refine L_iload_n 4 1 dL_paint_4 rfl rfl ?_
    refine L_iload_n 5 2 dL_paint_5 rfl rfl ?_
    refine L_iload_n 6 3 dL_paint_6 rfl rfl ?_
    refine L_iload 7 4 dL_paint_7 rfl ?_
    refine L_iload 9 5 dL_paint_9 rfl ?_
    refine L_catch 11 [.int a0, .int a1, .int a2, .int a3, .int a4] (fun _ => rfl) hX dL_paint_11 kl_778 wm_X6_paint (show _ = some 5 from by decide +kernel) ⟨Nat.le_of_ble_eq_true rfl, Nat.le_of_ble_eq_true rfl⟩ ⟨rfl, rfl⟩ rfl ⟨Nat.le_refl 1, Nat.le_refl 6⟩ rfl (Nat.le_of_ble_eq_true rfl) [_] _ _ rfl (fun z hz => by cases List.mem_singleton.mp hz; exact ⟨by decide, "java/lang/IndexOutOfBoundsException", kl_777, by first | exact Or.inl ⟨rfl, rfl⟩ | exact Or.inr ⟨rfl, rfl⟩⟩) (by decide) (by decide) kl_699 (by decide) ?_
    intro q
    refine L_astore 23 _ dL_paint_23 (by decide) rfl ?_
    refine L_iconst 25 2 dL_paint_25 (by decide) ?_
    exact L_ret 26 dL_paint_26 rfl (Nat.le_refl 1) (Nat.le_refl 6) ⟨rfl, Or.inr ⟨by decide, hk⟩⟩
theorem w_addLamp (a0 a1 : Int32) (ω : WDt) (h : REL ω.1 ω.2.1) : EvL mL_addLamp hL_addLamp [.ref 0, .int a0, .int a1, .ref 2] ω (WR mX7_addLamp [.int a0, .int a1] ω) := by
  refine EvL_of (by decide +kernel) rfl (fun _ => rfl) (fun _ => Nat.le_of_ble_eq_true rfl) (ls := [(0, .ref 0), (1, .int a0), (2, .int a1), (3, .ref 2)]) ?_
  rcases s_addLamp h a0 a1 with ⟨S, hE, hk⟩ | ⟨hX, hk⟩ | ⟨hX, hk⟩
  · refine L_aload_n 0 3 dL_addLamp_0 rfl rfl ?_
    refine L_iconst 1 0 dL_addLamp_1 (by decide) ?_
    refine L_aload_n 2 0 dL_addLamp_2 rfl rfl ?_
    refine L_iload_n 3 1 dL_addLamp_3 rfl rfl ?_
    refine L_iload_n 4 2 dL_addLamp_4 rfl rfl ?_
    refine L_callC 5 [.int a0, .int a1] (fun _ => rfl) hE (by rintro r m ⟨x, rfl, _⟩ _; rfl) dL_addLamp_5 kl_805 wm_X6_addLamp (show _ = some 2 from by decide +kernel) ⟨Nat.le_of_ble_eq_true rfl, Nat.le_of_ble_eq_true rfl⟩ ⟨rfl, rfl⟩ rfl ⟨Nat.zero_le _, Nat.zero_le _⟩ rfl (Nat.le_of_ble_eq_true rfl) ?_
    rintro _ V2 ⟨v, rfl, hv⟩
    refine L_i2l 8 dL_addLamp_8 ?_
    refine L_lastore 9 dL_addLamp_9 ?_
    intro f hf
    refine L_goto 10 21 dL_addLamp_10 (by decide) ?_
    refine L_iconst 21 0 dL_addLamp_21 (by decide) ?_
    exact L_ret 22 dL_addLamp_22 rfl (Nat.zero_le _) (Nat.zero_le _) ⟨rfl, Or.inl ⟨rfl, v, hf, hk v V2 hv⟩⟩
  · refine L_aload_n 0 3 dL_addLamp_0 rfl rfl ?_
    refine L_iconst 1 0 dL_addLamp_1 (by decide) ?_
    refine L_aload_n 2 0 dL_addLamp_2 rfl rfl ?_
    refine L_iload_n 3 1 dL_addLamp_3 rfl rfl ?_
    refine L_iload_n 4 2 dL_addLamp_4 rfl rfl ?_
    refine L_catch 5 [.int a0, .int a1] (fun _ => rfl) hX dL_addLamp_5 kl_805 wm_X6_addLamp (show _ = some 2 from by decide +kernel) ⟨Nat.le_of_ble_eq_true rfl, Nat.le_of_ble_eq_true rfl⟩ ⟨rfl, rfl⟩ rfl ⟨Nat.le_refl 1, Nat.le_refl 6⟩ rfl (Nat.le_of_ble_eq_true rfl) [] _ _ rfl (fun z hz => nomatch hz) (by decide) (by decide) kl_699 (by decide) ?_
    intro q
    refine L_astore 13 _ dL_addLamp_13 (by decide) rfl ?_
    refine L_iconst 15 1 dL_addLamp_15 (by decide) ?_
    exact L_ret 16 dL_addLamp_16 rfl (Nat.le_refl 1) (Nat.le_refl 6) ⟨rfl, Or.inr ⟨by decide, hk⟩⟩
  · refine L_aload_n 0 3 dL_addLamp_0 rfl rfl ?_
    refine L_iconst 1 0 dL_addLamp_1 (by decide) ?_
    refine L_aload_n 2 0 dL_addLamp_2 rfl rfl ?_
    refine L_iload_n 3 1 dL_addLamp_3 rfl rfl ?_
    refine L_iload_n 4 2 dL_addLamp_4 rfl rfl ?_
    refine L_catch 5 [.int a0, .int a1] (fun _ => rfl) hX dL_addLamp_5 kl_805 wm_X6_addLamp (show _ = some 2 from by decide +kernel) ⟨Nat.le_of_ble_eq_true rfl, Nat.le_of_ble_eq_true rfl⟩ ⟨rfl, rfl⟩ rfl ⟨Nat.le_refl 1, Nat.le_refl 6⟩ rfl (Nat.le_of_ble_eq_true rfl) [_] _ _ rfl (fun z hz => by cases List.mem_singleton.mp hz; exact ⟨by decide, "java/lang/IllegalArgumentException", kl_699, by first | exact Or.inl ⟨rfl, rfl⟩ | exact Or.inr ⟨rfl, rfl⟩⟩) (by decide) (by decide) kl_804 (by decide) ?_
    intro q
    refine L_astore 17 _ dL_addLamp_17 (by decide) rfl ?_
    refine L_iconst 19 2 dL_addLamp_19 (by decide) ?_
    exact L_ret 20 dL_addLamp_20 rfl (Nat.le_refl 1) (Nat.le_refl 6) ⟨rfl, Or.inr ⟨by decide, hk⟩⟩
theorem w_setCorner (a0 a1 a2 a3 : Int32) (ω : WDt) (h : REL ω.1 ω.2.1) : EvL mL_setCorner hL_setCorner [.ref 0, .int a0, .int a1, .int a2, .int a3, .ref 2] ω (WR mX7_setCorner [.int a0, .int a1, .int a2, .int a3] ω) := by
  refine EvL_of (by decide +kernel) rfl (fun _ => rfl) (fun _ => Nat.le_of_ble_eq_true rfl) (ls := [(0, .ref 0), (1, .int a0), (2, .int a1), (3, .int a2), (4, .int a3), (5, .ref 2)]) ?_
  rcases s_setCorner h a0 a1 a2 a3 with ⟨S, hE, hk⟩ | ⟨hX, hk⟩ | ⟨hX, hk⟩
  · refine L_aload 0 5 dL_setCorner_0 rfl ?_
    refine L_iconst 2 0 dL_setCorner_2 (by decide) ?_
    refine L_aload_n 3 0 dL_setCorner_3 rfl rfl ?_
    refine L_iload_n 4 1 dL_setCorner_4 rfl rfl ?_
    refine L_iload_n 5 2 dL_setCorner_5 rfl rfl ?_
    refine L_iload_n 6 3 dL_setCorner_6 rfl rfl ?_
    refine L_iload 7 4 dL_setCorner_7 rfl ?_
    refine L_callC 9 [.int a0, .int a1, .int a2, .int a3] (fun _ => rfl) hE (by rintro r m ⟨x, rfl, _⟩ _; rfl) dL_setCorner_9 kl_831 wm_X6_setCorner (show _ = some 4 from by decide +kernel) ⟨Nat.le_of_ble_eq_true rfl, Nat.le_of_ble_eq_true rfl⟩ ⟨rfl, rfl⟩ rfl ⟨Nat.zero_le _, Nat.zero_le _⟩ rfl (Nat.le_of_ble_eq_true rfl) ?_
    rintro _ V2 ⟨v, rfl, hv⟩
    refine L_i2l 12 dL_setCorner_12 ?_
    refine L_lastore 13 dL_setCorner_13 ?_
    intro f hf
    refine L_goto 14 25 dL_setCorner_14 (by decide) ?_
    refine L_iconst 25 0 dL_setCorner_25 (by decide) ?_
    exact L_ret 26 dL_setCorner_26 rfl (Nat.zero_le _) (Nat.zero_le _) ⟨rfl, Or.inl ⟨rfl, v, hf, hk v V2 hv⟩⟩
  · refine L_aload 0 5 dL_setCorner_0 rfl ?_
    refine L_iconst 2 0 dL_setCorner_2 (by decide) ?_
    refine L_aload_n 3 0 dL_setCorner_3 rfl rfl ?_
    refine L_iload_n 4 1 dL_setCorner_4 rfl rfl ?_
    refine L_iload_n 5 2 dL_setCorner_5 rfl rfl ?_
    refine L_iload_n 6 3 dL_setCorner_6 rfl rfl ?_
    refine L_iload 7 4 dL_setCorner_7 rfl ?_
    refine L_catch 9 [.int a0, .int a1, .int a2, .int a3] (fun _ => rfl) hX dL_setCorner_9 kl_831 wm_X6_setCorner (show _ = some 4 from by decide +kernel) ⟨Nat.le_of_ble_eq_true rfl, Nat.le_of_ble_eq_true rfl⟩ ⟨rfl, rfl⟩ rfl ⟨Nat.le_refl 1, Nat.le_refl 6⟩ rfl (Nat.le_of_ble_eq_true rfl) [] _ _ rfl (fun z hz => nomatch hz) (by decide) (by decide) kl_777 (by decide) ?_
    intro q
    refine L_astore 17 _ dL_setCorner_17 (by decide) rfl ?_
    refine L_iconst 19 1 dL_setCorner_19 (by decide) ?_
    exact L_ret 20 dL_setCorner_20 rfl (Nat.le_refl 1) (Nat.le_refl 6) ⟨rfl, Or.inr ⟨by decide, hk⟩⟩
  · refine L_aload 0 5 dL_setCorner_0 rfl ?_
    refine L_iconst 2 0 dL_setCorner_2 (by decide) ?_
    refine L_aload_n 3 0 dL_setCorner_3 rfl rfl ?_
    refine L_iload_n 4 1 dL_setCorner_4 rfl rfl ?_
    refine L_iload_n 5 2 dL_setCorner_5 rfl rfl ?_
    refine L_iload_n 6 3 dL_setCorner_6 rfl rfl ?_
    refine L_iload 7 4 dL_setCorner_7 rfl ?_
    refine L_catch 9 [.int a0, .int a1, .int a2, .int a3] (fun _ => rfl) hX dL_setCorner_9 kl_831 wm_X6_setCorner (show _ = some 4 from by decide +kernel) ⟨Nat.le_of_ble_eq_true rfl, Nat.le_of_ble_eq_true rfl⟩ ⟨rfl, rfl⟩ rfl ⟨Nat.le_refl 1, Nat.le_refl 6⟩ rfl (Nat.le_of_ble_eq_true rfl) [_] _ _ rfl (fun z hz => by cases List.mem_singleton.mp hz; exact ⟨by decide, "java/lang/IndexOutOfBoundsException", kl_777, by first | exact Or.inl ⟨rfl, rfl⟩ | exact Or.inr ⟨rfl, rfl⟩⟩) (by decide) (by decide) kl_699 (by decide) ?_
    intro q
    refine L_astore 21 _ dL_setCorner_21 (by decide) rfl ?_
    refine L_iconst 23 2 dL_setCorner_23 (by decide) ?_
    exact L_ret 24 dL_setCorner_24 rfl (Nat.le_refl 1) (Nat.le_refl 6) ⟨rfl, Or.inr ⟨by decide, hk⟩⟩
theorem w_setRectangle (a0 a1 a2 a3 a4 : Int32) (ω : WDt) (h : REL ω.1 ω.2.1) : EvL mL_setRectangle hL_setRectangle [.ref 0, .int a0, .int a1, .int a2, .int a3, .int a4, .ref 2] ω (WR mX7_setRectangle [.int a0, .int a1, .int a2, .int a3, .int a4] ω) := by
  refine EvL_of (by decide +kernel) rfl (fun _ => rfl) (fun _ => Nat.le_of_ble_eq_true rfl) (ls := [(0, .ref 0), (1, .int a0), (2, .int a1), (3, .int a2), (4, .int a3), (5, .int a4), (6, .ref 2)]) ?_
  rcases s_setRectangle h a0 a1 a2 a3 a4 with ⟨S, hE, hk⟩ | ⟨hX, hk⟩ | ⟨hX, hk⟩
  · refine L_aload 0 6 dL_setRectangle_0 rfl ?_
    refine L_iconst 2 0 dL_setRectangle_2 (by decide) ?_
    refine L_aload_n 3 0 dL_setRectangle_3 rfl rfl ?_
    refine L_iload_n 4 1 dL_setRectangle_4 rfl rfl ?_
    refine L_iload_n 5 2 dL_setRectangle_5 rfl rfl ?_
    refine L_iload_n 6 3 dL_setRectangle_6 rfl rfl ?_
    refine L_iload 7 4 dL_setRectangle_7 rfl ?_
    refine L_iload 9 5 dL_setRectangle_9 rfl ?_
    refine L_callC 11 [.int a0, .int a1, .int a2, .int a3, .int a4] (fun _ => rfl) hE (by rintro r m ⟨x, rfl, _⟩ _; rfl) dL_setRectangle_11 kl_838 wm_X6_setRectangle (show _ = some 5 from by decide +kernel) ⟨Nat.le_of_ble_eq_true rfl, Nat.le_of_ble_eq_true rfl⟩ ⟨rfl, rfl⟩ rfl ⟨Nat.zero_le _, Nat.zero_le _⟩ rfl (Nat.le_of_ble_eq_true rfl) ?_
    rintro _ V2 ⟨v, rfl, hv⟩
    refine L_i2l 14 dL_setRectangle_14 ?_
    refine L_lastore 15 dL_setRectangle_15 ?_
    intro f hf
    refine L_goto 16 27 dL_setRectangle_16 (by decide) ?_
    refine L_iconst 27 0 dL_setRectangle_27 (by decide) ?_
    exact L_ret 28 dL_setRectangle_28 rfl (Nat.zero_le _) (Nat.zero_le _) ⟨rfl, Or.inl ⟨rfl, v, hf, hk v V2 hv⟩⟩
  · refine L_aload 0 6 dL_setRectangle_0 rfl ?_
    refine L_iconst 2 0 dL_setRectangle_2 (by decide) ?_
    refine L_aload_n 3 0 dL_setRectangle_3 rfl rfl ?_
    refine L_iload_n 4 1 dL_setRectangle_4 rfl rfl ?_
    refine L_iload_n 5 2 dL_setRectangle_5 rfl rfl ?_
    refine L_iload_n 6 3 dL_setRectangle_6 rfl rfl ?_
    refine L_iload 7 4 dL_setRectangle_7 rfl ?_
    refine L_iload 9 5 dL_setRectangle_9 rfl ?_
    refine L_catch 11 [.int a0, .int a1, .int a2, .int a3, .int a4] (fun _ => rfl) hX dL_setRectangle_11 kl_838 wm_X6_setRectangle (show _ = some 5 from by decide +kernel) ⟨Nat.le_of_ble_eq_true rfl, Nat.le_of_ble_eq_true rfl⟩ ⟨rfl, rfl⟩ rfl ⟨Nat.le_refl 1, Nat.le_refl 6⟩ rfl (Nat.le_of_ble_eq_true rfl) [] _ _ rfl (fun z hz => nomatch hz) (by decide) (by decide) kl_777 (by decide) ?_
    intro q
    refine L_astore 19 _ dL_setRectangle_19 (by decide) rfl ?_
    refine L_iconst 21 1 dL_setRectangle_21 (by decide) ?_
    exact L_ret 22 dL_setRectangle_22 rfl (Nat.le_refl 1) (Nat.le_refl 6) ⟨rfl, Or.inr ⟨by decide, hk⟩⟩
  · refine L_aload 0 6 dL_setRectangle_0 rfl ?_
    refine L_iconst 2 0 dL_setRectangle_2 (by decide) ?_
    refine L_aload_n 3 0 dL_setRectangle_3 rfl rfl ?_
    refine L_iload_n 4 1 dL_setRectangle_4 rfl rfl ?_
    refine L_iload_n 5 2 dL_setRectangle_5 rfl rfl ?_
    refine L_iload_n 6 3 dL_setRectangle_6 rfl rfl ?_
    refine L_iload 7 4 dL_setRectangle_7 rfl ?_
    refine L_iload 9 5 dL_setRectangle_9 rfl ?_
    refine L_catch 11 [.int a0, .int a1, .int a2, .int a3, .int a4] (fun _ => rfl) hX dL_setRectangle_11 kl_838 wm_X6_setRectangle (show _ = some 5 from by decide +kernel) ⟨Nat.le_of_ble_eq_true rfl, Nat.le_of_ble_eq_true rfl⟩ ⟨rfl, rfl⟩ rfl ⟨Nat.le_refl 1, Nat.le_refl 6⟩ rfl (Nat.le_of_ble_eq_true rfl) [_] _ _ rfl (fun z hz => by cases List.mem_singleton.mp hz; exact ⟨by decide, "java/lang/IndexOutOfBoundsException", kl_777, by first | exact Or.inl ⟨rfl, rfl⟩ | exact Or.inr ⟨rfl, rfl⟩⟩) (by decide) (by decide) kl_699 (by decide) ?_
    intro q
    refine L_astore 23 _ dL_setRectangle_23 (by decide) rfl ?_
    refine L_iconst 25 2 dL_setRectangle_25 (by decide) ?_
    exact L_ret 26 dL_setRectangle_26 rfl (Nat.le_refl 1) (Nat.le_refl 6) ⟨rfl, Or.inr ⟨by decide, hk⟩⟩
theorem w_setLamp (a0 a1 a2 : Int32) (ω : WDt) (h : REL ω.1 ω.2.1) : EvL mL_setLamp hL_setLamp [.ref 0, .int a0, .int a1, .int a2, .ref 2] ω (WR mX7_setLamp [.int a0, .int a1, .int a2] ω) := by
  refine EvL_of (by decide +kernel) rfl (fun _ => rfl) (fun _ => Nat.le_of_ble_eq_true rfl) (ls := [(0, .ref 0), (1, .int a0), (2, .int a1), (3, .int a2), (4, .ref 2)]) ?_
  rcases s_setLamp h a0 a1 a2 with ⟨S, hE, hk⟩ | ⟨hX, hk⟩ | ⟨hX, hk⟩
  · refine L_aload 0 4 dL_setLamp_0 rfl ?_
    refine L_iconst 2 0 dL_setLamp_2 (by decide) ?_
    refine L_aload_n 3 0 dL_setLamp_3 rfl rfl ?_
    refine L_iload_n 4 1 dL_setLamp_4 rfl rfl ?_
    refine L_iload_n 5 2 dL_setLamp_5 rfl rfl ?_
    refine L_iload_n 6 3 dL_setLamp_6 rfl rfl ?_
    refine L_callC 7 [.int a0, .int a1, .int a2] (fun _ => rfl) hE (by rintro r m ⟨x, rfl, _⟩ _; rfl) dL_setLamp_7 kl_849 wm_X6_setLamp (show _ = some 3 from by decide +kernel) ⟨Nat.le_of_ble_eq_true rfl, Nat.le_of_ble_eq_true rfl⟩ ⟨rfl, rfl⟩ rfl ⟨Nat.zero_le _, Nat.zero_le _⟩ rfl (Nat.le_of_ble_eq_true rfl) ?_
    rintro _ V2 ⟨v, rfl, hv⟩
    refine L_i2l 10 dL_setLamp_10 ?_
    refine L_lastore 11 dL_setLamp_11 ?_
    intro f hf
    refine L_goto 12 23 dL_setLamp_12 (by decide) ?_
    refine L_iconst 23 0 dL_setLamp_23 (by decide) ?_
    exact L_ret 24 dL_setLamp_24 rfl (Nat.zero_le _) (Nat.zero_le _) ⟨rfl, Or.inl ⟨rfl, v, hf, hk v V2 hv⟩⟩
  · refine L_aload 0 4 dL_setLamp_0 rfl ?_
    refine L_iconst 2 0 dL_setLamp_2 (by decide) ?_
    refine L_aload_n 3 0 dL_setLamp_3 rfl rfl ?_
    refine L_iload_n 4 1 dL_setLamp_4 rfl rfl ?_
    refine L_iload_n 5 2 dL_setLamp_5 rfl rfl ?_
    refine L_iload_n 6 3 dL_setLamp_6 rfl rfl ?_
    refine L_catch 7 [.int a0, .int a1, .int a2] (fun _ => rfl) hX dL_setLamp_7 kl_849 wm_X6_setLamp (show _ = some 3 from by decide +kernel) ⟨Nat.le_of_ble_eq_true rfl, Nat.le_of_ble_eq_true rfl⟩ ⟨rfl, rfl⟩ rfl ⟨Nat.le_refl 1, Nat.le_refl 6⟩ rfl (Nat.le_of_ble_eq_true rfl) [] _ _ rfl (fun z hz => nomatch hz) (by decide) (by decide) kl_777 (by decide) ?_
    intro q
    refine L_astore 15 _ dL_setLamp_15 (by decide) rfl ?_
    refine L_iconst 17 1 dL_setLamp_17 (by decide) ?_
    exact L_ret 18 dL_setLamp_18 rfl (Nat.le_refl 1) (Nat.le_refl 6) ⟨rfl, Or.inr ⟨by decide, hk⟩⟩
  · refine L_aload 0 4 dL_setLamp_0 rfl ?_
    refine L_iconst 2 0 dL_setLamp_2 (by decide) ?_
    refine L_aload_n 3 0 dL_setLamp_3 rfl rfl ?_
    refine L_iload_n 4 1 dL_setLamp_4 rfl rfl ?_
    refine L_iload_n 5 2 dL_setLamp_5 rfl rfl ?_
    refine L_iload_n 6 3 dL_setLamp_6 rfl rfl ?_
    refine L_catch 7 [.int a0, .int a1, .int a2] (fun _ => rfl) hX dL_setLamp_7 kl_849 wm_X6_setLamp (show _ = some 3 from by decide +kernel) ⟨Nat.le_of_ble_eq_true rfl, Nat.le_of_ble_eq_true rfl⟩ ⟨rfl, rfl⟩ rfl ⟨Nat.le_refl 1, Nat.le_refl 6⟩ rfl (Nat.le_of_ble_eq_true rfl) [_] _ _ rfl (fun z hz => by cases List.mem_singleton.mp hz; exact ⟨by decide, "java/lang/IndexOutOfBoundsException", kl_777, by first | exact Or.inl ⟨rfl, rfl⟩ | exact Or.inr ⟨rfl, rfl⟩⟩) (by decide) (by decide) kl_699 (by decide) ?_
    intro q
    refine L_astore 19 _ dL_setLamp_19 (by decide) rfl ?_
    refine L_iconst 21 2 dL_setLamp_21 (by decide) ?_
    exact L_ret 22 dL_setLamp_22 rfl (Nat.le_refl 1) (Nat.le_refl 6) ⟨rfl, Or.inr ⟨by decide, hk⟩⟩
theorem w_setWorks (a0 a1 : Int32) (ω : WDt) (h : REL ω.1 ω.2.1) : EvL mL_setWorks hL_setWorks [.ref 0, .int a0, .int a1, .ref 2] ω (WR mX7_setWorks [.int a0, .int a1] ω) := by
  refine EvL_of (by decide +kernel) rfl (fun _ => rfl) (fun _ => Nat.le_of_ble_eq_true rfl) (ls := [(0, .ref 0), (1, .int a0), (2, .int a1), (3, .ref 2)]) ?_
  rcases s_setWorks h a0 a1 with ⟨S, hE, hk⟩ | ⟨hX, hk⟩
  · refine L_aload_n 0 3 dL_setWorks_0 rfl rfl ?_
    refine L_iconst 1 0 dL_setWorks_1 (by decide) ?_
    refine L_aload_n 2 0 dL_setWorks_2 rfl rfl ?_
    refine L_iload_n 3 1 dL_setWorks_3 rfl rfl ?_
    refine L_iload_n 4 2 dL_setWorks_4 rfl rfl ?_
    refine L_callC 5 [.int a0, .int a1] (fun _ => rfl) hE (by rintro r m ⟨x, rfl, _⟩ _; rfl) dL_setWorks_5 kl_864 wm_X6_setWorks (show _ = some 2 from by decide +kernel) ⟨Nat.le_of_ble_eq_true rfl, Nat.le_of_ble_eq_true rfl⟩ ⟨rfl, rfl⟩ rfl ⟨Nat.zero_le _, Nat.zero_le _⟩ rfl (Nat.le_of_ble_eq_true rfl) ?_
    rintro _ V2 ⟨v, rfl, hv⟩
    refine L_i2l 8 dL_setWorks_8 ?_
    refine L_lastore 9 dL_setWorks_9 ?_
    intro f hf
    refine L_goto 10 17 dL_setWorks_10 (by decide) ?_
    refine L_iconst 17 0 dL_setWorks_17 (by decide) ?_
    exact L_ret 18 dL_setWorks_18 rfl (Nat.zero_le _) (Nat.zero_le _) ⟨rfl, Or.inl ⟨rfl, v, hf, hk v V2 hv⟩⟩
  · refine L_aload_n 0 3 dL_setWorks_0 rfl rfl ?_
    refine L_iconst 1 0 dL_setWorks_1 (by decide) ?_
    refine L_aload_n 2 0 dL_setWorks_2 rfl rfl ?_
    refine L_iload_n 3 1 dL_setWorks_3 rfl rfl ?_
    refine L_iload_n 4 2 dL_setWorks_4 rfl rfl ?_
    refine L_catch 5 [.int a0, .int a1] (fun _ => rfl) hX dL_setWorks_5 kl_864 wm_X6_setWorks (show _ = some 2 from by decide +kernel) ⟨Nat.le_of_ble_eq_true rfl, Nat.le_of_ble_eq_true rfl⟩ ⟨rfl, rfl⟩ rfl ⟨Nat.le_refl 1, Nat.le_refl 6⟩ rfl (Nat.le_of_ble_eq_true rfl) [] _ _ rfl (fun z hz => nomatch hz) (by decide) (by decide) kl_777 (by decide) ?_
    intro q
    refine L_astore 13 _ dL_setWorks_13 (by decide) rfl ?_
    refine L_iconst 15 1 dL_setWorks_15 (by decide) ?_
    exact L_ret 16 dL_setWorks_16 rfl (Nat.le_refl 1) (Nat.le_refl 6) ⟨rfl, Or.inr ⟨by decide, hk⟩⟩
theorem w_shift (a0 a1 : Int32) (ω : WDt) (h : REL ω.1 ω.2.1) : EvL mL_shift hL_shift [.ref 0, .int a0, .int a1, .ref 2] ω (WR mX7_shift [.int a0, .int a1] ω) := by
  refine EvL_of (by decide +kernel) rfl (fun _ => rfl) (fun _ => Nat.le_of_ble_eq_true rfl) (ls := [(0, .ref 0), (1, .int a0), (2, .int a1), (3, .ref 2)]) ?_
  rcases s_shift h a0 a1 with ⟨S, hE, hk⟩ | ⟨hX, hk⟩
  · refine L_aload_n 0 3 dL_shift_0 rfl rfl ?_
    refine L_iconst 1 0 dL_shift_1 (by decide) ?_
    refine L_aload_n 2 0 dL_shift_2 rfl rfl ?_
    refine L_iload_n 3 1 dL_shift_3 rfl rfl ?_
    refine L_iload_n 4 2 dL_shift_4 rfl rfl ?_
    refine L_callC 5 [.int a0, .int a1] (fun _ => rfl) hE (by rintro r m ⟨x, rfl, _⟩ _; rfl) dL_shift_5 kl_871 wm_X6_shift (show _ = some 2 from by decide +kernel) ⟨Nat.le_of_ble_eq_true rfl, Nat.le_of_ble_eq_true rfl⟩ ⟨rfl, rfl⟩ rfl ⟨Nat.zero_le _, Nat.zero_le _⟩ rfl (Nat.le_of_ble_eq_true rfl) ?_
    rintro _ V2 ⟨v, rfl, hv⟩
    refine L_i2l 8 dL_shift_8 ?_
    refine L_lastore 9 dL_shift_9 ?_
    intro f hf
    refine L_goto 10 17 dL_shift_10 (by decide) ?_
    refine L_iconst 17 0 dL_shift_17 (by decide) ?_
    exact L_ret 18 dL_shift_18 rfl (Nat.zero_le _) (Nat.zero_le _) ⟨rfl, Or.inl ⟨rfl, v, hf, hk v V2 hv⟩⟩
  · refine L_aload_n 0 3 dL_shift_0 rfl rfl ?_
    refine L_iconst 1 0 dL_shift_1 (by decide) ?_
    refine L_aload_n 2 0 dL_shift_2 rfl rfl ?_
    refine L_iload_n 3 1 dL_shift_3 rfl rfl ?_
    refine L_iload_n 4 2 dL_shift_4 rfl rfl ?_
    refine L_catch 5 [.int a0, .int a1] (fun _ => rfl) hX dL_shift_5 kl_871 wm_X6_shift (show _ = some 2 from by decide +kernel) ⟨Nat.le_of_ble_eq_true rfl, Nat.le_of_ble_eq_true rfl⟩ ⟨rfl, rfl⟩ rfl ⟨Nat.le_refl 1, Nat.le_refl 6⟩ rfl (Nat.le_of_ble_eq_true rfl) [] _ _ rfl (fun z hz => nomatch hz) (by decide) (by decide) kl_699 (by decide) ?_
    intro q
    refine L_astore 13 _ dL_shift_13 (by decide) rfl ?_
    refine L_iconst 15 1 dL_shift_15 (by decide) ?_
    exact L_ret 16 dL_shift_16 rfl (Nat.le_refl 1) (Nat.le_refl 6) ⟨rfl, Or.inr ⟨by decide, hk⟩⟩
theorem w_burn (a0 : Int32) (ω : WDt) (h : REL ω.1 ω.2.1) : EvL mL_burn hL_burn [.ref 0, .int a0, .ref 2] ω (WR mX7_burn [.int a0] ω) := by
  refine EvL_of (by decide +kernel) rfl (fun _ => rfl) (fun _ => Nat.le_of_ble_eq_true rfl) (ls := [(0, .ref 0), (1, .int a0), (2, .ref 2)]) ?_
  rcases s_burn h a0 with ⟨S, hE, hk⟩ | ⟨hX, hk⟩
  · refine L_aload_n 0 2 dL_burn_0 rfl rfl ?_
    refine L_iconst 1 0 dL_burn_1 (by decide) ?_
    refine L_aload_n 2 0 dL_burn_2 rfl rfl ?_
    refine L_iload_n 3 1 dL_burn_3 rfl rfl ?_
    refine L_callC 4 [.int a0] (fun _ => rfl) hE (by rintro r m ⟨x, rfl, _⟩ _; rfl) dL_burn_4 kl_883 wm_X6_burn (show _ = some 1 from by decide +kernel) ⟨Nat.le_of_ble_eq_true rfl, Nat.le_of_ble_eq_true rfl⟩ ⟨rfl, rfl⟩ rfl ⟨Nat.zero_le _, Nat.zero_le _⟩ rfl (Nat.le_of_ble_eq_true rfl) ?_
    rintro _ V2 ⟨v, rfl, hv⟩
    refine L_i2l 7 dL_burn_7 ?_
    refine L_lastore 8 dL_burn_8 ?_
    intro f hf
    refine L_goto 9 15 dL_burn_9 (by decide) ?_
    refine L_iconst 15 0 dL_burn_15 (by decide) ?_
    exact L_ret 16 dL_burn_16 rfl (Nat.zero_le _) (Nat.zero_le _) ⟨rfl, Or.inl ⟨rfl, v, hf, hk v V2 hv⟩⟩
  · refine L_aload_n 0 2 dL_burn_0 rfl rfl ?_
    refine L_iconst 1 0 dL_burn_1 (by decide) ?_
    refine L_aload_n 2 0 dL_burn_2 rfl rfl ?_
    refine L_iload_n 3 1 dL_burn_3 rfl rfl ?_
    refine L_catch 4 [.int a0] (fun _ => rfl) hX dL_burn_4 kl_883 wm_X6_burn (show _ = some 1 from by decide +kernel) ⟨Nat.le_of_ble_eq_true rfl, Nat.le_of_ble_eq_true rfl⟩ ⟨rfl, rfl⟩ rfl ⟨Nat.le_refl 1, Nat.le_refl 6⟩ rfl (Nat.le_of_ble_eq_true rfl) [] _ _ rfl (fun z hz => nomatch hz) (by decide) (by decide) kl_699 (by decide) ?_
    intro q
    refine L_astore_n 12 _ dL_burn_12 rfl (by decide) rfl ?_
    refine L_iconst 13 1 dL_burn_13 (by decide) ?_
    exact L_ret 14 dL_burn_14 rfl (Nat.le_refl 1) (Nat.le_refl 6) ⟨rfl, Or.inr ⟨by decide, hk⟩⟩
theorem w_place (a0 a1 a2 : Int32) (ω : WDt) (h : REL ω.1 ω.2.1) : EvL mL_place hL_place [.ref 0, .int a0, .int a1, .int a2, .ref 2] ω (WR mX7_place [.int a0, .int a1, .int a2] ω) := by
  refine EvL_of (by decide +kernel) rfl (fun _ => rfl) (fun _ => Nat.le_of_ble_eq_true rfl) (ls := [(0, .ref 0), (1, .int a0), (2, .int a1), (3, .int a2), (4, .ref 2)]) ?_
  rcases s_place h a0 a1 a2 with ⟨S, hE, hk⟩ | ⟨hX, hk⟩ | ⟨hX, hk⟩
  · refine L_aload 0 4 dL_place_0 rfl ?_
    refine L_iconst 2 0 dL_place_2 (by decide) ?_
    refine L_aload_n 3 0 dL_place_3 rfl rfl ?_
    refine L_iload_n 4 1 dL_place_4 rfl rfl ?_
    refine L_iload_n 5 2 dL_place_5 rfl rfl ?_
    refine L_iload_n 6 3 dL_place_6 rfl rfl ?_
    refine L_callC 7 [.int a0, .int a1, .int a2] (fun _ => rfl) hE (by rintro r m ⟨x, rfl, _⟩ _; rfl) dL_place_7 kl_895 wm_X6_place (show _ = some 3 from by decide +kernel) ⟨Nat.le_of_ble_eq_true rfl, Nat.le_of_ble_eq_true rfl⟩ ⟨rfl, rfl⟩ rfl ⟨Nat.zero_le _, Nat.zero_le _⟩ rfl (Nat.le_of_ble_eq_true rfl) ?_
    rintro _ V2 ⟨v, rfl, hv⟩
    refine L_i2l 10 dL_place_10 ?_
    refine L_lastore 11 dL_place_11 ?_
    intro f hf
    refine L_goto 12 23 dL_place_12 (by decide) ?_
    refine L_iconst 23 0 dL_place_23 (by decide) ?_
    exact L_ret 24 dL_place_24 rfl (Nat.zero_le _) (Nat.zero_le _) ⟨rfl, Or.inl ⟨rfl, v, hf, hk v V2 hv⟩⟩
  · refine L_aload 0 4 dL_place_0 rfl ?_
    refine L_iconst 2 0 dL_place_2 (by decide) ?_
    refine L_aload_n 3 0 dL_place_3 rfl rfl ?_
    refine L_iload_n 4 1 dL_place_4 rfl rfl ?_
    refine L_iload_n 5 2 dL_place_5 rfl rfl ?_
    refine L_iload_n 6 3 dL_place_6 rfl rfl ?_
    refine L_catch 7 [.int a0, .int a1, .int a2] (fun _ => rfl) hX dL_place_7 kl_895 wm_X6_place (show _ = some 3 from by decide +kernel) ⟨Nat.le_of_ble_eq_true rfl, Nat.le_of_ble_eq_true rfl⟩ ⟨rfl, rfl⟩ rfl ⟨Nat.le_refl 1, Nat.le_refl 6⟩ rfl (Nat.le_of_ble_eq_true rfl) [] _ _ rfl (fun z hz => nomatch hz) (by decide) (by decide) kl_777 (by decide) ?_
    intro q
    refine L_astore 15 _ dL_place_15 (by decide) rfl ?_
    refine L_iconst 17 1 dL_place_17 (by decide) ?_
    exact L_ret 18 dL_place_18 rfl (Nat.le_refl 1) (Nat.le_refl 6) ⟨rfl, Or.inr ⟨by decide, hk⟩⟩
  · refine L_aload 0 4 dL_place_0 rfl ?_
    refine L_iconst 2 0 dL_place_2 (by decide) ?_
    refine L_aload_n 3 0 dL_place_3 rfl rfl ?_
    refine L_iload_n 4 1 dL_place_4 rfl rfl ?_
    refine L_iload_n 5 2 dL_place_5 rfl rfl ?_
    refine L_iload_n 6 3 dL_place_6 rfl rfl ?_
    refine L_catch 7 [.int a0, .int a1, .int a2] (fun _ => rfl) hX dL_place_7 kl_895 wm_X6_place (show _ = some 3 from by decide +kernel) ⟨Nat.le_of_ble_eq_true rfl, Nat.le_of_ble_eq_true rfl⟩ ⟨rfl, rfl⟩ rfl ⟨Nat.le_refl 1, Nat.le_refl 6⟩ rfl (Nat.le_of_ble_eq_true rfl) [_] _ _ rfl (fun z hz => by cases List.mem_singleton.mp hz; exact ⟨by decide, "java/lang/IndexOutOfBoundsException", kl_777, by first | exact Or.inl ⟨rfl, rfl⟩ | exact Or.inr ⟨rfl, rfl⟩⟩) (by decide) (by decide) kl_699 (by decide) ?_
    intro q
    refine L_astore 19 _ dL_place_19 (by decide) rfl ?_
    refine L_iconst 21 2 dL_place_21 (by decide) ?_
    exact L_ret 22 dL_place_22 rfl (Nat.le_refl 1) (Nat.le_refl 6) ⟨rfl, Or.inr ⟨by decide, hk⟩⟩
theorem w_light (a0 a1 a2 : Int32) (ω : WDt) (h : REL ω.1 ω.2.1) : EvL mL_light hL_light [.ref 0, .int a0, .int a1, .int a2, .ref 2] ω (WR mX7_light [.int a0, .int a1, .int a2] ω) := by
  refine EvL_of (by decide +kernel) rfl (fun _ => rfl) (fun _ => Nat.le_of_ble_eq_true rfl) (ls := [(0, .ref 0), (1, .int a0), (2, .int a1), (3, .int a2), (4, .ref 2)]) ?_
  rcases s_light h a0 a1 a2 with ⟨S, hE, hk⟩ | ⟨hX, hk⟩
  · refine L_aload 0 4 dL_light_0 rfl ?_
    refine L_iconst 2 0 dL_light_2 (by decide) ?_
    refine L_aload_n 3 0 dL_light_3 rfl rfl ?_
    refine L_iload_n 4 1 dL_light_4 rfl rfl ?_
    refine L_iload_n 5 2 dL_light_5 rfl rfl ?_
    refine L_iload_n 6 3 dL_light_6 rfl rfl ?_
    refine L_callC 7 [.int a0, .int a1, .int a2] (fun _ => rfl) hE (by rintro r m ⟨x, rfl, _⟩ _; rfl) dL_light_7 kl_907 wm_X6_light (show _ = some 3 from by decide +kernel) ⟨Nat.le_of_ble_eq_true rfl, Nat.le_of_ble_eq_true rfl⟩ ⟨rfl, rfl⟩ rfl ⟨Nat.zero_le _, Nat.zero_le _⟩ rfl (Nat.le_of_ble_eq_true rfl) ?_
    rintro _ V2 ⟨v, rfl, hv⟩
    refine L_i2l 10 dL_light_10 ?_
    refine L_lastore 11 dL_light_11 ?_
    intro f hf
    refine L_goto 12 19 dL_light_12 (by decide) ?_
    refine L_iconst 19 0 dL_light_19 (by decide) ?_
    exact L_ret 20 dL_light_20 rfl (Nat.zero_le _) (Nat.zero_le _) ⟨rfl, Or.inl ⟨rfl, v, hf, hk v V2 hv⟩⟩
  · refine L_aload 0 4 dL_light_0 rfl ?_
    refine L_iconst 2 0 dL_light_2 (by decide) ?_
    refine L_aload_n 3 0 dL_light_3 rfl rfl ?_
    refine L_iload_n 4 1 dL_light_4 rfl rfl ?_
    refine L_iload_n 5 2 dL_light_5 rfl rfl ?_
    refine L_iload_n 6 3 dL_light_6 rfl rfl ?_
    refine L_catch 7 [.int a0, .int a1, .int a2] (fun _ => rfl) hX dL_light_7 kl_907 wm_X6_light (show _ = some 3 from by decide +kernel) ⟨Nat.le_of_ble_eq_true rfl, Nat.le_of_ble_eq_true rfl⟩ ⟨rfl, rfl⟩ rfl ⟨Nat.le_refl 1, Nat.le_refl 6⟩ rfl (Nat.le_of_ble_eq_true rfl) [] _ _ rfl (fun z hz => nomatch hz) (by decide) (by decide) kl_777 (by decide) ?_
    intro q
    refine L_astore 15 _ dL_light_15 (by decide) rfl ?_
    refine L_iconst 17 1 dL_light_17 (by decide) ?_
    exact L_ret 18 dL_light_18 rfl (Nat.le_refl 1) (Nat.le_refl 6) ⟨rfl, Or.inr ⟨by decide, hk⟩⟩
theorem w_weight (a0 a1 a2 : Int32) (ω : WDt) (h : REL ω.1 ω.2.1) : EvL mL_weight hL_weight [.ref 0, .int a0, .int a1, .int a2, .ref 2] ω (WR mX7_weight [.int a0, .int a1, .int a2] ω) := by
  refine EvL_of (by decide +kernel) rfl (fun _ => rfl) (fun _ => Nat.le_of_ble_eq_true rfl) (ls := [(0, .ref 0), (1, .int a0), (2, .int a1), (3, .int a2), (4, .ref 2)]) ?_
  rcases s_weight h a0 a1 a2 with ⟨S, hE, hk⟩ | ⟨hX, hk⟩
  · refine L_aload 0 4 dL_weight_0 rfl ?_
    refine L_iconst 2 0 dL_weight_2 (by decide) ?_
    refine L_aload_n 3 0 dL_weight_3 rfl rfl ?_
    refine L_iload_n 4 1 dL_weight_4 rfl rfl ?_
    refine L_iload_n 5 2 dL_weight_5 rfl rfl ?_
    refine L_iload_n 6 3 dL_weight_6 rfl rfl ?_
    refine L_callC 7 [.int a0, .int a1, .int a2] (fun _ => rfl) hE (by rintro r m ⟨x, rfl, _⟩ _; rfl) dL_weight_7 kl_914 wm_X6_weight (show _ = some 3 from by decide +kernel) ⟨Nat.le_of_ble_eq_true rfl, Nat.le_of_ble_eq_true rfl⟩ ⟨rfl, rfl⟩ rfl ⟨Nat.zero_le _, Nat.zero_le _⟩ rfl (Nat.le_of_ble_eq_true rfl) ?_
    rintro _ V2 ⟨v, rfl, hv⟩
    refine L_i2l 10 dL_weight_10 ?_
    refine L_lastore 11 dL_weight_11 ?_
    intro f hf
    refine L_goto 12 19 dL_weight_12 (by decide) ?_
    refine L_iconst 19 0 dL_weight_19 (by decide) ?_
    exact L_ret 20 dL_weight_20 rfl (Nat.zero_le _) (Nat.zero_le _) ⟨rfl, Or.inl ⟨rfl, v, hf, hk v V2 hv⟩⟩
  · refine L_aload 0 4 dL_weight_0 rfl ?_
    refine L_iconst 2 0 dL_weight_2 (by decide) ?_
    refine L_aload_n 3 0 dL_weight_3 rfl rfl ?_
    refine L_iload_n 4 1 dL_weight_4 rfl rfl ?_
    refine L_iload_n 5 2 dL_weight_5 rfl rfl ?_
    refine L_iload_n 6 3 dL_weight_6 rfl rfl ?_
    refine L_catch 7 [.int a0, .int a1, .int a2] (fun _ => rfl) hX dL_weight_7 kl_914 wm_X6_weight (show _ = some 3 from by decide +kernel) ⟨Nat.le_of_ble_eq_true rfl, Nat.le_of_ble_eq_true rfl⟩ ⟨rfl, rfl⟩ rfl ⟨Nat.le_refl 1, Nat.le_refl 6⟩ rfl (Nat.le_of_ble_eq_true rfl) [] _ _ rfl (fun z hz => nomatch hz) (by decide) (by decide) kl_777 (by decide) ?_
    intro q
    refine L_astore 15 _ dL_weight_15 (by decide) rfl ?_
    refine L_iconst 17 1 dL_weight_17 (by decide) ?_
    exact L_ret 18 dL_weight_18 rfl (Nat.le_refl 1) (Nat.le_refl 6) ⟨rfl, Or.inr ⟨by decide, hk⟩⟩
theorem w_lamp (a0 a1 : Int32) (ω : WDt) (h : REL ω.1 ω.2.1) : EvL mL_lamp hL_lamp [.ref 0, .int a0, .int a1, .ref 2] ω (WR mX7_lamp [.int a0, .int a1] ω) := by
  refine EvL_of (by decide +kernel) rfl (fun _ => rfl) (fun _ => Nat.le_of_ble_eq_true rfl) (ls := [(0, .ref 0), (1, .int a0), (2, .int a1), (3, .ref 2)]) ?_
  rcases s_lamp h a0 a1 with ⟨S, hE, hk⟩ | ⟨hX, hk⟩ | ⟨hX, hk⟩
  · refine L_aload_n 0 3 dL_lamp_0 rfl rfl ?_
    refine L_iconst 1 0 dL_lamp_1 (by decide) ?_
    refine L_aload_n 2 0 dL_lamp_2 rfl rfl ?_
    refine L_iload_n 3 1 dL_lamp_3 rfl rfl ?_
    refine L_iload_n 4 2 dL_lamp_4 rfl rfl ?_
    refine L_callC 5 [.int a0, .int a1] (fun _ => rfl) hE (by rintro r m ⟨x, rfl, _⟩ _; rfl) dL_lamp_5 kl_924 wm_X6_lamp (show _ = some 2 from by decide +kernel) ⟨Nat.le_of_ble_eq_true rfl, Nat.le_of_ble_eq_true rfl⟩ ⟨rfl, rfl⟩ rfl ⟨Nat.zero_le _, Nat.zero_le _⟩ rfl (Nat.le_of_ble_eq_true rfl) ?_
    rintro _ V2 ⟨v, rfl, hv⟩
    refine L_i2l 8 dL_lamp_8 ?_
    refine L_lastore 9 dL_lamp_9 ?_
    intro f hf
    refine L_goto 10 21 dL_lamp_10 (by decide) ?_
    refine L_iconst 21 0 dL_lamp_21 (by decide) ?_
    exact L_ret 22 dL_lamp_22 rfl (Nat.zero_le _) (Nat.zero_le _) ⟨rfl, Or.inl ⟨rfl, v, hf, hk v V2 hv⟩⟩
  · refine L_aload_n 0 3 dL_lamp_0 rfl rfl ?_
    refine L_iconst 1 0 dL_lamp_1 (by decide) ?_
    refine L_aload_n 2 0 dL_lamp_2 rfl rfl ?_
    refine L_iload_n 3 1 dL_lamp_3 rfl rfl ?_
    refine L_iload_n 4 2 dL_lamp_4 rfl rfl ?_
    refine L_catch 5 [.int a0, .int a1] (fun _ => rfl) hX dL_lamp_5 kl_924 wm_X6_lamp (show _ = some 2 from by decide +kernel) ⟨Nat.le_of_ble_eq_true rfl, Nat.le_of_ble_eq_true rfl⟩ ⟨rfl, rfl⟩ rfl ⟨Nat.le_refl 1, Nat.le_refl 6⟩ rfl (Nat.le_of_ble_eq_true rfl) [] _ _ rfl (fun z hz => nomatch hz) (by decide) (by decide) kl_777 (by decide) ?_
    intro q
    refine L_astore 13 _ dL_lamp_13 (by decide) rfl ?_
    refine L_iconst 15 1 dL_lamp_15 (by decide) ?_
    exact L_ret 16 dL_lamp_16 rfl (Nat.le_refl 1) (Nat.le_refl 6) ⟨rfl, Or.inr ⟨by decide, hk⟩⟩
  · refine L_aload_n 0 3 dL_lamp_0 rfl rfl ?_
    refine L_iconst 1 0 dL_lamp_1 (by decide) ?_
    refine L_aload_n 2 0 dL_lamp_2 rfl rfl ?_
    refine L_iload_n 3 1 dL_lamp_3 rfl rfl ?_
    refine L_iload_n 4 2 dL_lamp_4 rfl rfl ?_
    refine L_catch 5 [.int a0, .int a1] (fun _ => rfl) hX dL_lamp_5 kl_924 wm_X6_lamp (show _ = some 2 from by decide +kernel) ⟨Nat.le_of_ble_eq_true rfl, Nat.le_of_ble_eq_true rfl⟩ ⟨rfl, rfl⟩ rfl ⟨Nat.le_refl 1, Nat.le_refl 6⟩ rfl (Nat.le_of_ble_eq_true rfl) [_] _ _ rfl (fun z hz => by cases List.mem_singleton.mp hz; exact ⟨by decide, "java/lang/IndexOutOfBoundsException", kl_777, by first | exact Or.inl ⟨rfl, rfl⟩ | exact Or.inr ⟨rfl, rfl⟩⟩) (by decide) (by decide) kl_699 (by decide) ?_
    intro q
    refine L_astore 17 _ dL_lamp_17 (by decide) rfl ?_
    refine L_iconst 19 2 dL_lamp_19 (by decide) ?_
    exact L_ret 20 dL_lamp_20 rfl (Nat.le_refl 1) (Nat.le_refl 6) ⟨rfl, Or.inr ⟨by decide, hk⟩⟩
theorem w_corner (a0 a1 a2 : Int32) (ω : WDt) (h : REL ω.1 ω.2.1) : EvL mL_corner hL_corner [.ref 0, .int a0, .int a1, .int a2, .ref 2] ω (WR mX7_corner [.int a0, .int a1, .int a2] ω) := by
  refine EvL_of (by decide +kernel) rfl (fun _ => rfl) (fun _ => Nat.le_of_ble_eq_true rfl) (ls := [(0, .ref 0), (1, .int a0), (2, .int a1), (3, .int a2), (4, .ref 2)]) ?_
  rcases s_corner h a0 a1 a2 with ⟨S, hE, hk⟩ | ⟨hX, hk⟩ | ⟨hX, hk⟩
  · refine L_aload 0 4 dL_corner_0 rfl ?_
    refine L_iconst 2 0 dL_corner_2 (by decide) ?_
    refine L_aload_n 3 0 dL_corner_3 rfl rfl ?_
    refine L_iload_n 4 1 dL_corner_4 rfl rfl ?_
    refine L_iload_n 5 2 dL_corner_5 rfl rfl ?_
    refine L_iload_n 6 3 dL_corner_6 rfl rfl ?_
    refine L_callC 7 [.int a0, .int a1, .int a2] (fun _ => rfl) hE (by rintro r m ⟨x, rfl, _⟩ _; rfl) dL_corner_7 kl_931 wm_X6_corner (show _ = some 3 from by decide +kernel) ⟨Nat.le_of_ble_eq_true rfl, Nat.le_of_ble_eq_true rfl⟩ ⟨rfl, rfl⟩ rfl ⟨Nat.zero_le _, Nat.zero_le _⟩ rfl (Nat.le_of_ble_eq_true rfl) ?_
    rintro _ V2 ⟨v, rfl, hv⟩
    refine L_i2l 10 dL_corner_10 ?_
    refine L_lastore 11 dL_corner_11 ?_
    intro f hf
    refine L_goto 12 23 dL_corner_12 (by decide) ?_
    refine L_iconst 23 0 dL_corner_23 (by decide) ?_
    exact L_ret 24 dL_corner_24 rfl (Nat.zero_le _) (Nat.zero_le _) ⟨rfl, Or.inl ⟨rfl, v, hf, hk v V2 hv⟩⟩
  · refine L_aload 0 4 dL_corner_0 rfl ?_
    refine L_iconst 2 0 dL_corner_2 (by decide) ?_
    refine L_aload_n 3 0 dL_corner_3 rfl rfl ?_
    refine L_iload_n 4 1 dL_corner_4 rfl rfl ?_
    refine L_iload_n 5 2 dL_corner_5 rfl rfl ?_
    refine L_iload_n 6 3 dL_corner_6 rfl rfl ?_
    refine L_catch 7 [.int a0, .int a1, .int a2] (fun _ => rfl) hX dL_corner_7 kl_931 wm_X6_corner (show _ = some 3 from by decide +kernel) ⟨Nat.le_of_ble_eq_true rfl, Nat.le_of_ble_eq_true rfl⟩ ⟨rfl, rfl⟩ rfl ⟨Nat.le_refl 1, Nat.le_refl 6⟩ rfl (Nat.le_of_ble_eq_true rfl) [] _ _ rfl (fun z hz => nomatch hz) (by decide) (by decide) kl_777 (by decide) ?_
    intro q
    refine L_astore 15 _ dL_corner_15 (by decide) rfl ?_
    refine L_iconst 17 1 dL_corner_17 (by decide) ?_
    exact L_ret 18 dL_corner_18 rfl (Nat.le_refl 1) (Nat.le_refl 6) ⟨rfl, Or.inr ⟨by decide, hk⟩⟩
  · refine L_aload 0 4 dL_corner_0 rfl ?_
    refine L_iconst 2 0 dL_corner_2 (by decide) ?_
    refine L_aload_n 3 0 dL_corner_3 rfl rfl ?_
    refine L_iload_n 4 1 dL_corner_4 rfl rfl ?_
    refine L_iload_n 5 2 dL_corner_5 rfl rfl ?_
    refine L_iload_n 6 3 dL_corner_6 rfl rfl ?_
    refine L_catch 7 [.int a0, .int a1, .int a2] (fun _ => rfl) hX dL_corner_7 kl_931 wm_X6_corner (show _ = some 3 from by decide +kernel) ⟨Nat.le_of_ble_eq_true rfl, Nat.le_of_ble_eq_true rfl⟩ ⟨rfl, rfl⟩ rfl ⟨Nat.le_refl 1, Nat.le_refl 6⟩ rfl (Nat.le_of_ble_eq_true rfl) [_] _ _ rfl (fun z hz => by cases List.mem_singleton.mp hz; exact ⟨by decide, "java/lang/IndexOutOfBoundsException", kl_777, by first | exact Or.inl ⟨rfl, rfl⟩ | exact Or.inr ⟨rfl, rfl⟩⟩) (by decide) (by decide) kl_699 (by decide) ?_
    intro q
    refine L_astore 19 _ dL_corner_19 (by decide) rfl ?_
    refine L_iconst 21 2 dL_corner_21 (by decide) ?_
    exact L_ret 22 dL_corner_22 rfl (Nat.le_refl 1) (Nat.le_refl 6) ⟨rfl, Or.inr ⟨by decide, hk⟩⟩
theorem w_whole (a0 : Int32) (ω : WDt) (h : REL ω.1 ω.2.1) : EvL mL_whole hL_whole [.ref 0, .int a0, .ref 2] ω (WR mX7_whole [.int a0] ω) := by
  refine EvL_of (by decide +kernel) rfl (fun _ => rfl) (fun _ => Nat.le_of_ble_eq_true rfl) (ls := [(0, .ref 0), (1, .int a0), (2, .ref 2)]) ?_
  rcases s_whole h a0 with ⟨S, hE, hk⟩ | ⟨hX, hk⟩
  · refine L_aload_n 0 2 dL_whole_0 rfl rfl ?_
    refine L_iconst 1 0 dL_whole_1 (by decide) ?_
    refine L_aload_n 2 0 dL_whole_2 rfl rfl ?_
    refine L_iload_n 3 1 dL_whole_3 rfl rfl ?_
    refine L_callC 4 [.int a0] (fun _ => rfl) hE (by rintro r m ⟨x, rfl, _⟩ _; rfl) dL_whole_4 kl_938 wm_X6_whole (show _ = some 1 from by decide +kernel) ⟨Nat.le_of_ble_eq_true rfl, Nat.le_of_ble_eq_true rfl⟩ ⟨rfl, rfl⟩ rfl ⟨Nat.zero_le _, Nat.zero_le _⟩ rfl (Nat.le_of_ble_eq_true rfl) ?_
    rintro _ V2 ⟨v, rfl, hv⟩
    refine L_i2l 7 dL_whole_7 ?_
    refine L_lastore 8 dL_whole_8 ?_
    intro f hf
    refine L_goto 9 15 dL_whole_9 (by decide) ?_
    refine L_iconst 15 0 dL_whole_15 (by decide) ?_
    exact L_ret 16 dL_whole_16 rfl (Nat.zero_le _) (Nat.zero_le _) ⟨rfl, Or.inl ⟨rfl, v, hf, hk v V2 hv⟩⟩
  · refine L_aload_n 0 2 dL_whole_0 rfl rfl ?_
    refine L_iconst 1 0 dL_whole_1 (by decide) ?_
    refine L_aload_n 2 0 dL_whole_2 rfl rfl ?_
    refine L_iload_n 3 1 dL_whole_3 rfl rfl ?_
    refine L_catch 4 [.int a0] (fun _ => rfl) hX dL_whole_4 kl_938 wm_X6_whole (show _ = some 1 from by decide +kernel) ⟨Nat.le_of_ble_eq_true rfl, Nat.le_of_ble_eq_true rfl⟩ ⟨rfl, rfl⟩ rfl ⟨Nat.le_refl 1, Nat.le_refl 6⟩ rfl (Nat.le_of_ble_eq_true rfl) [] _ _ rfl (fun z hz => nomatch hz) (by decide) (by decide) kl_699 (by decide) ?_
    intro q
    refine L_astore_n 12 _ dL_whole_12 rfl (by decide) rfl ?_
    refine L_iconst 13 1 dL_whole_13 (by decide) ?_
    exact L_ret 14 dL_whole_14 rfl (Nat.le_refl 1) (Nat.le_refl 6) ⟨rfl, Or.inr ⟨by decide, hk⟩⟩
theorem w_wrong (a0 : Int32) (ω : WDt) (h : REL ω.1 ω.2.1) : EvL mL_wrong hL_wrong [.ref 0, .int a0, .ref 2] ω (WR mX7_wrong [.int a0] ω) := by
  refine EvL_of (by decide +kernel) rfl (fun _ => rfl) (fun _ => Nat.le_of_ble_eq_true rfl) (ls := [(0, .ref 0), (1, .int a0), (2, .ref 2)]) ?_
  rcases s_wrong h a0 with ⟨S, hE, hk⟩ | ⟨hX, hk⟩
  · refine L_aload_n 0 2 dL_wrong_0 rfl rfl ?_
    refine L_iconst 1 0 dL_wrong_1 (by decide) ?_
    refine L_aload_n 2 0 dL_wrong_2 rfl rfl ?_
    refine L_iload_n 3 1 dL_wrong_3 rfl rfl ?_
    refine L_callC 4 [.int a0] (fun _ => rfl) hE (by rintro r m ⟨x, rfl, _⟩ _; rfl) dL_wrong_4 kl_945 wm_X6_wrong (show _ = some 1 from by decide +kernel) ⟨Nat.le_of_ble_eq_true rfl, Nat.le_of_ble_eq_true rfl⟩ ⟨rfl, rfl⟩ rfl ⟨Nat.zero_le _, Nat.zero_le _⟩ rfl (Nat.le_of_ble_eq_true rfl) ?_
    rintro _ V2 ⟨v, rfl, hv⟩
    refine L_i2l 7 dL_wrong_7 ?_
    refine L_lastore 8 dL_wrong_8 ?_
    intro f hf
    refine L_goto 9 15 dL_wrong_9 (by decide) ?_
    refine L_iconst 15 0 dL_wrong_15 (by decide) ?_
    exact L_ret 16 dL_wrong_16 rfl (Nat.zero_le _) (Nat.zero_le _) ⟨rfl, Or.inl ⟨rfl, v, hf, hk v V2 hv⟩⟩
  · refine L_aload_n 0 2 dL_wrong_0 rfl rfl ?_
    refine L_iconst 1 0 dL_wrong_1 (by decide) ?_
    refine L_aload_n 2 0 dL_wrong_2 rfl rfl ?_
    refine L_iload_n 3 1 dL_wrong_3 rfl rfl ?_
    refine L_catch 4 [.int a0] (fun _ => rfl) hX dL_wrong_4 kl_945 wm_X6_wrong (show _ = some 1 from by decide +kernel) ⟨Nat.le_of_ble_eq_true rfl, Nat.le_of_ble_eq_true rfl⟩ ⟨rfl, rfl⟩ rfl ⟨Nat.le_refl 1, Nat.le_refl 6⟩ rfl (Nat.le_of_ble_eq_true rfl) [] _ _ rfl (fun z hz => nomatch hz) (by decide) (by decide) kl_699 (by decide) ?_
    intro q
    refine L_astore_n 12 _ dL_wrong_12 rfl (by decide) rfl ?_
    refine L_iconst 13 1 dL_wrong_13 (by decide) ?_
    exact L_ret 14 dL_wrong_14 rfl (Nat.le_refl 1) (Nat.le_refl 6) ⟨rfl, Or.inr ⟨by decide, hk⟩⟩
theorem w_wrongWithout (a0 : Int32) (ω : WDt) (h : REL ω.1 ω.2.1) : EvL mL_wrongWithout hL_wrongWithout [.ref 0, .int a0, .ref 2] ω (WR mX7_wrongWithout [.int a0] ω) := by
  refine EvL_of (by decide +kernel) rfl (fun _ => rfl) (fun _ => Nat.le_of_ble_eq_true rfl) (ls := [(0, .ref 0), (1, .int a0), (2, .ref 2)]) ?_
  rcases s_wrongWithout h a0 with ⟨S, hE, hk⟩ | ⟨hX, hk⟩
  · refine L_aload_n 0 2 dL_wrongWithout_0 rfl rfl ?_
    refine L_iconst 1 0 dL_wrongWithout_1 (by decide) ?_
    refine L_aload_n 2 0 dL_wrongWithout_2 rfl rfl ?_
    refine L_iload_n 3 1 dL_wrongWithout_3 rfl rfl ?_
    refine L_callC 4 [.int a0] (fun _ => rfl) hE (by rintro r m ⟨x, rfl, _⟩ _; rfl) dL_wrongWithout_4 kl_952 wm_X6_wrongWithout (show _ = some 1 from by decide +kernel) ⟨Nat.le_of_ble_eq_true rfl, Nat.le_of_ble_eq_true rfl⟩ ⟨rfl, rfl⟩ rfl ⟨Nat.zero_le _, Nat.zero_le _⟩ rfl (Nat.le_of_ble_eq_true rfl) ?_
    rintro _ V2 ⟨v, rfl, hv⟩
    refine L_i2l 7 dL_wrongWithout_7 ?_
    refine L_lastore 8 dL_wrongWithout_8 ?_
    intro f hf
    refine L_goto 9 15 dL_wrongWithout_9 (by decide) ?_
    refine L_iconst 15 0 dL_wrongWithout_15 (by decide) ?_
    exact L_ret 16 dL_wrongWithout_16 rfl (Nat.zero_le _) (Nat.zero_le _) ⟨rfl, Or.inl ⟨rfl, v, hf, hk v V2 hv⟩⟩
  · refine L_aload_n 0 2 dL_wrongWithout_0 rfl rfl ?_
    refine L_iconst 1 0 dL_wrongWithout_1 (by decide) ?_
    refine L_aload_n 2 0 dL_wrongWithout_2 rfl rfl ?_
    refine L_iload_n 3 1 dL_wrongWithout_3 rfl rfl ?_
    refine L_catch 4 [.int a0] (fun _ => rfl) hX dL_wrongWithout_4 kl_952 wm_X6_wrongWithout (show _ = some 1 from by decide +kernel) ⟨Nat.le_of_ble_eq_true rfl, Nat.le_of_ble_eq_true rfl⟩ ⟨rfl, rfl⟩ rfl ⟨Nat.le_refl 1, Nat.le_refl 6⟩ rfl (Nat.le_of_ble_eq_true rfl) [] _ _ rfl (fun z hz => nomatch hz) (by decide) (by decide) kl_777 (by decide) ?_
    intro q
    refine L_astore_n 12 _ dL_wrongWithout_12 rfl (by decide) rfl ?_
    refine L_iconst 13 1 dL_wrongWithout_13 (by decide) ?_
    exact L_ret 14 dL_wrongWithout_14 rfl (Nat.le_refl 1) (Nat.le_refl 6) ⟨rfl, Or.inr ⟨by decide, hk⟩⟩
theorem w_wrongShifted (a0 a1 : Int32) (ω : WDt) (h : REL ω.1 ω.2.1) : EvL mL_wrongShifted hL_wrongShifted [.ref 0, .int a0, .int a1, .ref 2] ω (WR mX7_wrongShifted [.int a0, .int a1] ω) := by
  refine EvL_of (by decide +kernel) rfl (fun _ => rfl) (fun _ => Nat.le_of_ble_eq_true rfl) (ls := [(0, .ref 0), (1, .int a0), (2, .int a1), (3, .ref 2)]) ?_
  rcases s_wrongShifted h a0 a1 with ⟨S, hE, hk⟩ | ⟨hX, hk⟩
  · refine L_aload_n 0 3 dL_wrongShifted_0 rfl rfl ?_
    refine L_iconst 1 0 dL_wrongShifted_1 (by decide) ?_
    refine L_aload_n 2 0 dL_wrongShifted_2 rfl rfl ?_
    refine L_iload_n 3 1 dL_wrongShifted_3 rfl rfl ?_
    refine L_iload_n 4 2 dL_wrongShifted_4 rfl rfl ?_
    refine L_callC 5 [.int a0, .int a1] (fun _ => rfl) hE (by rintro r m ⟨x, rfl, _⟩ _; rfl) dL_wrongShifted_5 kl_959 wm_X6_wrongShifted (show _ = some 2 from by decide +kernel) ⟨Nat.le_of_ble_eq_true rfl, Nat.le_of_ble_eq_true rfl⟩ ⟨rfl, rfl⟩ rfl ⟨Nat.zero_le _, Nat.zero_le _⟩ rfl (Nat.le_of_ble_eq_true rfl) ?_
    rintro _ V2 ⟨v, rfl, hv⟩
    refine L_i2l 8 dL_wrongShifted_8 ?_
    refine L_lastore 9 dL_wrongShifted_9 ?_
    intro f hf
    refine L_goto 10 17 dL_wrongShifted_10 (by decide) ?_
    refine L_iconst 17 0 dL_wrongShifted_17 (by decide) ?_
    exact L_ret 18 dL_wrongShifted_18 rfl (Nat.zero_le _) (Nat.zero_le _) ⟨rfl, Or.inl ⟨rfl, v, hf, hk v V2 hv⟩⟩
  · refine L_aload_n 0 3 dL_wrongShifted_0 rfl rfl ?_
    refine L_iconst 1 0 dL_wrongShifted_1 (by decide) ?_
    refine L_aload_n 2 0 dL_wrongShifted_2 rfl rfl ?_
    refine L_iload_n 3 1 dL_wrongShifted_3 rfl rfl ?_
    refine L_iload_n 4 2 dL_wrongShifted_4 rfl rfl ?_
    refine L_catch 5 [.int a0, .int a1] (fun _ => rfl) hX dL_wrongShifted_5 kl_959 wm_X6_wrongShifted (show _ = some 2 from by decide +kernel) ⟨Nat.le_of_ble_eq_true rfl, Nat.le_of_ble_eq_true rfl⟩ ⟨rfl, rfl⟩ rfl ⟨Nat.le_refl 1, Nat.le_refl 6⟩ rfl (Nat.le_of_ble_eq_true rfl) [] _ _ rfl (fun z hz => nomatch hz) (by decide) (by decide) kl_699 (by decide) ?_
    intro q
    refine L_astore 13 _ dL_wrongShifted_13 (by decide) rfl ?_
    refine L_iconst 15 1 dL_wrongShifted_15 (by decide) ?_
    exact L_ret 16 dL_wrongShifted_16 rfl (Nat.le_refl 1) (Nat.le_refl 6) ⟨rfl, Or.inr ⟨by decide, hk⟩⟩
theorem w_bestShift (a0 : Int32) (ω : WDt) (h : REL ω.1 ω.2.1) : EvL mL_bestShift hL_bestShift [.ref 0, .int a0, .ref 2] ω (WR mX7_bestShift [.int a0] ω) := by
  refine EvL_of (by decide +kernel) rfl (fun _ => rfl) (fun _ => Nat.le_of_ble_eq_true rfl) (ls := [(0, .ref 0), (1, .int a0), (2, .ref 2)]) ?_
  rcases s_bestShift h a0 with ⟨S, hE, hk⟩ | ⟨hX, hk⟩
  · refine L_aload_n 0 2 dL_bestShift_0 rfl rfl ?_
    refine L_iconst 1 0 dL_bestShift_1 (by decide) ?_
    refine L_aload_n 2 0 dL_bestShift_2 rfl rfl ?_
    refine L_iload_n 3 1 dL_bestShift_3 rfl rfl ?_
    refine L_callC 4 [.int a0] (fun _ => rfl) hE (by rintro r m ⟨x, rfl, _⟩ _; rfl) dL_bestShift_4 kl_966 wm_X6_bestShift (show _ = some 1 from by decide +kernel) ⟨Nat.le_of_ble_eq_true rfl, Nat.le_of_ble_eq_true rfl⟩ ⟨rfl, rfl⟩ rfl ⟨Nat.zero_le _, Nat.zero_le _⟩ rfl (Nat.le_of_ble_eq_true rfl) ?_
    rintro _ V2 ⟨v, rfl, hv⟩
    refine L_i2l 7 dL_bestShift_7 ?_
    refine L_lastore 8 dL_bestShift_8 ?_
    intro f hf
    refine L_goto 9 15 dL_bestShift_9 (by decide) ?_
    refine L_iconst 15 0 dL_bestShift_15 (by decide) ?_
    exact L_ret 16 dL_bestShift_16 rfl (Nat.zero_le _) (Nat.zero_le _) ⟨rfl, Or.inl ⟨rfl, v, hf, hk v V2 hv⟩⟩
  · refine L_aload_n 0 2 dL_bestShift_0 rfl rfl ?_
    refine L_iconst 1 0 dL_bestShift_1 (by decide) ?_
    refine L_aload_n 2 0 dL_bestShift_2 rfl rfl ?_
    refine L_iload_n 3 1 dL_bestShift_3 rfl rfl ?_
    refine L_catch 4 [.int a0] (fun _ => rfl) hX dL_bestShift_4 kl_966 wm_X6_bestShift (show _ = some 1 from by decide +kernel) ⟨Nat.le_of_ble_eq_true rfl, Nat.le_of_ble_eq_true rfl⟩ ⟨rfl, rfl⟩ rfl ⟨Nat.le_refl 1, Nat.le_refl 6⟩ rfl (Nat.le_of_ble_eq_true rfl) [] _ _ rfl (fun z hz => nomatch hz) (by decide) (by decide) kl_699 (by decide) ?_
    intro q
    refine L_astore_n 12 _ dL_bestShift_12 rfl (by decide) rfl ?_
    refine L_iconst 13 1 dL_bestShift_13 (by decide) ?_
    exact L_ret 14 dL_bestShift_14 rfl (Nat.le_refl 1) (Nat.le_refl 6) ⟨rfl, Or.inr ⟨by decide, hk⟩⟩
theorem w_neededLimit (a0 : Int32) (ω : WDt) (h : REL ω.1 ω.2.1) : EvL mL_neededLimit hL_neededLimit [.ref 0, .int a0, .ref 2] ω (WR mX7_neededLimit [.int a0] ω) := by
  refine EvL_of (by decide +kernel) rfl (fun _ => rfl) (fun _ => Nat.le_of_ble_eq_true rfl) (ls := [(0, .ref 0), (1, .int a0), (2, .ref 2)]) ?_
  rcases s_neededLimit h a0 with ⟨S, hE, hk⟩ | ⟨hX, hk⟩
  · refine L_aload_n 0 2 dL_neededLimit_0 rfl rfl ?_
    refine L_iconst 1 0 dL_neededLimit_1 (by decide) ?_
    refine L_aload_n 2 0 dL_neededLimit_2 rfl rfl ?_
    refine L_iload_n 3 1 dL_neededLimit_3 rfl rfl ?_
    refine L_callC 4 [.int a0] (fun _ => rfl) hE (by rintro r m ⟨x, rfl, _⟩ _; rfl) dL_neededLimit_4 kl_973 wm_X6_neededLimit (show _ = some 1 from by decide +kernel) ⟨Nat.le_of_ble_eq_true rfl, Nat.le_of_ble_eq_true rfl⟩ ⟨rfl, rfl⟩ rfl ⟨Nat.zero_le _, Nat.zero_le _⟩ rfl (Nat.le_of_ble_eq_true rfl) ?_
    rintro _ V2 ⟨v, rfl, hv⟩
    refine L_i2l 7 dL_neededLimit_7 ?_
    refine L_lastore 8 dL_neededLimit_8 ?_
    intro f hf
    refine L_goto 9 15 dL_neededLimit_9 (by decide) ?_
    refine L_iconst 15 0 dL_neededLimit_15 (by decide) ?_
    exact L_ret 16 dL_neededLimit_16 rfl (Nat.zero_le _) (Nat.zero_le _) ⟨rfl, Or.inl ⟨rfl, v, hf, hk v V2 hv⟩⟩
  · refine L_aload_n 0 2 dL_neededLimit_0 rfl rfl ?_
    refine L_iconst 1 0 dL_neededLimit_1 (by decide) ?_
    refine L_aload_n 2 0 dL_neededLimit_2 rfl rfl ?_
    refine L_iload_n 3 1 dL_neededLimit_3 rfl rfl ?_
    refine L_catch 4 [.int a0] (fun _ => rfl) hX dL_neededLimit_4 kl_973 wm_X6_neededLimit (show _ = some 1 from by decide +kernel) ⟨Nat.le_of_ble_eq_true rfl, Nat.le_of_ble_eq_true rfl⟩ ⟨rfl, rfl⟩ rfl ⟨Nat.le_refl 1, Nat.le_refl 6⟩ rfl (Nat.le_of_ble_eq_true rfl) [] _ _ rfl (fun z hz => nomatch hz) (by decide) (by decide) kl_777 (by decide) ?_
    intro q
    refine L_astore_n 12 _ dL_neededLimit_12 rfl (by decide) rfl ?_
    refine L_iconst 13 1 dL_neededLimit_13 (by decide) ?_
    exact L_ret 14 dL_neededLimit_14 rfl (Nat.le_refl 1) (Nat.le_refl 6) ⟨rfl, Or.inr ⟨by decide, hk⟩⟩
theorem w_type (a0 : Int32) (ω : WDt) (h : REL ω.1 ω.2.1) : EvL mL_type hL_type [.ref 0, .int a0, .ref 2] ω (WR mX7_type [.int a0] ω) := by
  refine EvL_of (by decide +kernel) rfl (fun _ => rfl) (fun _ => Nat.le_of_ble_eq_true rfl) (ls := [(0, .ref 0), (1, .int a0), (2, .ref 2)]) ?_
  rcases s_type h a0 with ⟨S, hE, hk⟩ | ⟨hX, hk⟩ | ⟨hX, hk⟩
  · refine L_aload_n 0 2 dL_type_0 rfl rfl ?_
    refine L_iconst 1 0 dL_type_1 (by decide) ?_
    refine L_aload_n 2 0 dL_type_2 rfl rfl ?_
    refine L_iload_n 3 1 dL_type_3 rfl rfl ?_
    refine L_callC 4 [.int a0] (fun _ => rfl) hE (by rintro r m ⟨x, rfl, _⟩ _; rfl) dL_type_4 kl_981 wm_X6_type (show _ = some 1 from by decide +kernel) ⟨Nat.le_of_ble_eq_true rfl, Nat.le_of_ble_eq_true rfl⟩ ⟨rfl, rfl⟩ rfl ⟨Nat.zero_le _, Nat.zero_le _⟩ rfl (Nat.le_of_ble_eq_true rfl) ?_
    rintro _ V2 ⟨v, rfl, hv⟩
    refine L_i2l 7 dL_type_7 ?_
    refine L_lastore 8 dL_type_8 ?_
    intro f hf
    refine L_goto 9 18 dL_type_9 (by decide) ?_
    refine L_iconst 18 0 dL_type_18 (by decide) ?_
    exact L_ret 19 dL_type_19 rfl (Nat.zero_le _) (Nat.zero_le _) ⟨rfl, Or.inl ⟨rfl, v, hf, hk v V2 hv⟩⟩
  · refine L_aload_n 0 2 dL_type_0 rfl rfl ?_
    refine L_iconst 1 0 dL_type_1 (by decide) ?_
    refine L_aload_n 2 0 dL_type_2 rfl rfl ?_
    refine L_iload_n 3 1 dL_type_3 rfl rfl ?_
    refine L_catch 4 [.int a0] (fun _ => rfl) hX dL_type_4 kl_981 wm_X6_type (show _ = some 1 from by decide +kernel) ⟨Nat.le_of_ble_eq_true rfl, Nat.le_of_ble_eq_true rfl⟩ ⟨rfl, rfl⟩ rfl ⟨Nat.le_refl 1, Nat.le_refl 6⟩ rfl (Nat.le_of_ble_eq_true rfl) [] _ _ rfl (fun z hz => nomatch hz) (by decide) (by decide) kl_699 (by decide) ?_
    intro q
    refine L_astore_n 12 _ dL_type_12 rfl (by decide) rfl ?_
    refine L_iconst 13 1 dL_type_13 (by decide) ?_
    exact L_ret 14 dL_type_14 rfl (Nat.le_refl 1) (Nat.le_refl 6) ⟨rfl, Or.inr ⟨by decide, hk⟩⟩
  · refine L_aload_n 0 2 dL_type_0 rfl rfl ?_
    refine L_iconst 1 0 dL_type_1 (by decide) ?_
    refine L_aload_n 2 0 dL_type_2 rfl rfl ?_
    refine L_iload_n 3 1 dL_type_3 rfl rfl ?_
    refine L_catch 4 [.int a0] (fun _ => rfl) hX dL_type_4 kl_981 wm_X6_type (show _ = some 1 from by decide +kernel) ⟨Nat.le_of_ble_eq_true rfl, Nat.le_of_ble_eq_true rfl⟩ ⟨rfl, rfl⟩ rfl ⟨Nat.le_refl 1, Nat.le_refl 6⟩ rfl (Nat.le_of_ble_eq_true rfl) [_] _ _ rfl (fun z hz => by cases List.mem_singleton.mp hz; exact ⟨by decide, "java/lang/IllegalArgumentException", kl_699, by first | exact Or.inl ⟨rfl, rfl⟩ | exact Or.inr ⟨rfl, rfl⟩⟩) (by decide) (by decide) kl_804 (by decide) ?_
    intro q
    refine L_astore_n 15 _ dL_type_15 rfl (by decide) rfl ?_
    refine L_iconst 16 2 dL_type_16 (by decide) ?_
    exact L_ret 17 dL_type_17 rfl (Nat.le_refl 1) (Nat.le_refl 6) ⟨rfl, Or.inr ⟨by decide, hk⟩⟩
theorem w_undo (ω : WDt) (h : REL ω.1 ω.2.1) : EvL mL_undo hL_undo [.ref 0, .ref 2] ω (WR mX7_undo [] ω) := by
  refine EvL_of (by decide +kernel) rfl (fun _ => rfl) (fun _ => Nat.le_of_ble_eq_true rfl) (ls := [(0, .ref 0), (1, .ref 2)]) ?_
  rcases s_undo h  with ⟨S, hE, hk⟩ | ⟨hX, hk⟩
  · refine L_aload_n 0 1 dL_undo_0 rfl rfl ?_
    refine L_iconst 1 0 dL_undo_1 (by decide) ?_
    refine L_aload_n 2 0 dL_undo_2 rfl rfl ?_
    refine L_callC 3 [] (fun _ => rfl) hE (by rintro r m ⟨x, rfl, _⟩ _; rfl) dL_undo_3 kl_992 wm_X6_undo (show _ = some 0 from by decide +kernel) ⟨Nat.le_of_ble_eq_true rfl, Nat.le_of_ble_eq_true rfl⟩ ⟨rfl, rfl⟩ rfl ⟨Nat.zero_le _, Nat.zero_le _⟩ rfl (Nat.le_of_ble_eq_true rfl) ?_
    rintro _ V2 ⟨v, rfl, hv⟩
    refine L_i2l 6 dL_undo_6 ?_
    refine L_lastore 7 dL_undo_7 ?_
    intro f hf
    refine L_goto 8 14 dL_undo_8 (by decide) ?_
    refine L_iconst 14 0 dL_undo_14 (by decide) ?_
    exact L_ret 15 dL_undo_15 rfl (Nat.zero_le _) (Nat.zero_le _) ⟨rfl, Or.inl ⟨rfl, v, hf, hk v V2 hv⟩⟩
  · refine L_aload_n 0 1 dL_undo_0 rfl rfl ?_
    refine L_iconst 1 0 dL_undo_1 (by decide) ?_
    refine L_aload_n 2 0 dL_undo_2 rfl rfl ?_
    refine L_catch 3 [] (fun _ => rfl) hX dL_undo_3 kl_992 wm_X6_undo (show _ = some 0 from by decide +kernel) ⟨Nat.le_of_ble_eq_true rfl, Nat.le_of_ble_eq_true rfl⟩ ⟨rfl, rfl⟩ rfl ⟨Nat.le_refl 1, Nat.le_refl 6⟩ rfl (Nat.le_of_ble_eq_true rfl) [] _ _ rfl (fun z hz => nomatch hz) (by decide) (by decide) kl_804 (by decide) ?_
    intro q
    refine L_astore_n 11 _ dL_undo_11 rfl (by decide) rfl ?_
    refine L_iconst 12 1 dL_undo_12 (by decide) ?_
    exact L_ret 13 dL_undo_13 rfl (Nat.le_refl 1) (Nat.le_refl 6) ⟨rfl, Or.inr ⟨by decide, hk⟩⟩
