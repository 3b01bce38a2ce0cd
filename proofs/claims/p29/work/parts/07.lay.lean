def isS (s : Nat) : Prop := s = 0 ∨ s = 15 ∨ s = 30 ∨ s = 45 ∨ s = 60
def isD (d : Nat) : Prop := d = 75 ∨ d = 84
abbrev fsS (s : Nat) : List FE := [.inl 0, .inl 0, .inl 0, .inl 0, .inl 0, .inl 0, .inl 0, .inr (s + 1), .inr (s + 2), .inr (s + 3), .inr (s + 4), .inr (s + 5), .inr (s + 6), .inr (s + 7)]
abbrev fsD (d : Nat) : List FE := [.inr (d + 1), .inr (d + 2), .inr (d + 3), .inr (d + 4), .inl 0, .inl 0, .inl 0, .inl 0]
abbrev fsV : List FE := [.inr 75, .inr 94, .inr 95, .inr 96, .inr 97, .inl 0]
abbrev fsC : List FE := [.inr 103, .inr 104, .inl 0, .inl 0, .inl 0, .inl 0]
abbrev fsH : List FE := [.inr 108, .inl 0, .inl 0]
abbrev fsL : List FE := [.inr 0, .inr 93, .inr 84, .inr 107, .inr 102]
abbrev fsM : List FE := [.inr 1, .inr 2, .inr 3, .inl 0, .inr 4, .inl 0, .inl 0, .inl 0, .inl 0, .inr 5, .inr 6, .inl 0, .inl 0, .inl 0, .inl 0, .inl 0, .inl 0, .inl 0, .inr 7, .inl 0, .inl 0, .inr 8, .inl 1]
abbrev leR (a : Nat) : LE := .inl (3, [.inr a])
abbrev leA (n : Nat) : LE := .inr (.inl n)
def laS (s : Nat) : List LE := [.inl (4, fsS s), leR (s + 8), leR (s + 9), leR (s + 10), leR (s + 11), leR (s + 12), leR (s + 13), leR (s + 14), leA 384, leA 8, leA 8, leA 8, leA 8, leA 32, leA 32]
def laD (d : Nat) : List LE := [.inl (1, fsD d), leR (d + 5), leR (d + 6), leR (d + 7), leR (d + 8), leA 8, leA 8, leA 8, leA 8]
def ΛC : List LE := laS 0 ++ (laS 15 ++ (laS 30 ++ (laS 45 ++ (laS 60 ++ (laD 75 ++ (laD 84 ++ [.inl (5, fsV), leR 98, leR 99, leR 100, leR 101, leA 3072, leA 384, leA 384, leA 384, .inl (0, fsC), leR 105, leR 106, leA 150, leA 5, .inl (2, fsH), .inr (.inr [15, 30, 45, 60]), .inl (6, fsL)]))))))
def ΛM : List LE := [.inl (7, fsM), leA 486, leA 1944, leA 486, leA 150, leA 8, leA 8, leA 8, leA 5]
theorem ΛC_len : ΛC.length = 110 := rfl
def rowAt (r a n : Nat) : Prop := ΛC[r]? = some (leR a) ∧ ΛC[a]? = some (leA n) ∧ n < 2147483648
theorem lyS (s : Nat) (h : isS s) : ΛC[s]? = some (.inl (4, fsS s)) := by rcases h with rfl | rfl | rfl | rfl | rfl <;> rfl
theorem rS_tg (s : Nat) (h : isS s) : rowAt (s + 1) (s + 8) 384 := by rcases h with rfl | rfl | rfl | rfl | rfl <;> exact ⟨rfl, rfl, by decide⟩
theorem rS_gr (s : Nat) (h : isS s) : rowAt (s + 2) (s + 9) 8 := by rcases h with rfl | rfl | rfl | rfl | rfl <;> exact ⟨rfl, rfl, by decide⟩
theorem rS_le (s : Nat) (h : isS s) : rowAt (s + 3) (s + 10) 8 := by rcases h with rfl | rfl | rfl | rfl | rfl <;> exact ⟨rfl, rfl, by decide⟩
theorem rS_we (s : Nat) (h : isS s) : rowAt (s + 4) (s + 11) 8 := by rcases h with rfl | rfl | rfl | rfl | rfl <;> exact ⟨rfl, rfl, by decide⟩
theorem rS_wk (s : Nat) (h : isS s) : rowAt (s + 5) (s + 12) 8 := by rcases h with rfl | rfl | rfl | rfl | rfl <;> exact ⟨rfl, rfl, by decide⟩
theorem rS_cx (s : Nat) (h : isS s) : rowAt (s + 6) (s + 13) 32 := by rcases h with rfl | rfl | rfl | rfl | rfl <;> exact ⟨rfl, rfl, by decide⟩
theorem rS_cy (s : Nat) (h : isS s) : rowAt (s + 7) (s + 14) 32 := by rcases h with rfl | rfl | rfl | rfl | rfl <;> exact ⟨rfl, rfl, by decide⟩
theorem lyD (d : Nat) (h : isD d) : ΛC[d]? = some (.inl (1, fsD d)) := by rcases h with rfl | rfl <;> rfl
theorem rD_li (d : Nat) (h : isD d) : rowAt (d + 1) (d + 5) 8 := by rcases h with rfl | rfl <;> exact ⟨rfl, rfl, by decide⟩
theorem rD_fl (d : Nat) (h : isD d) : rowAt (d + 2) (d + 6) 8 := by rcases h with rfl | rfl <;> exact ⟨rfl, rfl, by decide⟩
theorem rD_wt (d : Nat) (h : isD d) : rowAt (d + 3) (d + 7) 8 := by rcases h with rfl | rfl <;> exact ⟨rfl, rfl, by decide⟩
theorem rD_lt (d : Nat) (h : isD d) : rowAt (d + 4) (d + 8) 8 := by rcases h with rfl | rfl <;> exact ⟨rfl, rfl, by decide⟩
theorem lyV : ΛC[93]? = some (.inl (5, fsV)) := rfl
theorem rV_lt : rowAt 94 98 3072 := ⟨rfl, rfl, by decide⟩
theorem rV_cv : rowAt 95 99 384 := ⟨rfl, rfl, by decide⟩
theorem rV_br : rowAt 96 100 384 := ⟨rfl, rfl, by decide⟩
theorem rV_st : rowAt 97 101 384 := ⟨rfl, rfl, by decide⟩
theorem rC_by : rowAt 103 105 150 := ⟨rfl, rfl, by decide⟩
theorem rC_nu : rowAt 104 106 5 := ⟨rfl, rfl, by decide⟩
theorem lyC : ΛC[102]? = some (.inl (0, fsC)) := rfl
theorem lyH : ΛC[107]? = some (.inl (2, fsH)) := rfl
theorem lyHa : ΛC[108]? = some (.inr (.inr [15, 30, 45, 60])) := rfl
theorem lyL : ΛC[109]? = some (.inl (6, fsL)) := rfl
theorem lyM : ΛM[0]? = some (.inl (7, fsM)) := rfl
theorem lyM1 : ΛM[1]? = some (leA 486) := rfl
theorem lyM2 : ΛM[2]? = some (leA 1944) := rfl
theorem lyM3 : ΛM[3]? = some (leA 486) := rfl
theorem lyM4 : ΛM[4]? = some (leA 150) := rfl
theorem lyM5 : ΛM[5]? = some (leA 8) := rfl
theorem lyM6 : ΛM[6]? = some (leA 8) := rfl
theorem lyM7 : ΛM[7]? = some (leA 8) := rfl
theorem lyM8 : ΛM[8]? = some (leA 5) := rfl
theorem vc0 : vwCl[0]? = some (RX0, TX0, 6) := rfl
theorem iw0 : ∀ w ∈ u_ws RX0 TX0 6, w ∈ WS := by decide +kernel
theorem vc1 : vwCl[1]? = some (RX1, TX1, 8) := rfl
theorem iw1 : ∀ w ∈ u_ws RX1 TX1 8, w ∈ WS := by decide +kernel
theorem vc2 : vwCl[2]? = some (RX2, TX2, 3) := rfl
theorem iw2 : ∀ w ∈ u_ws RX2 TX2 3, w ∈ WS := by decide +kernel
theorem vc3 : vwCl[3]? = some (RX3, TX3, 1) := rfl
theorem iw3 : ∀ w ∈ u_ws RX3 TX3 1, w ∈ WS := by decide +kernel
theorem vc4 : vwCl[4]? = some (RX4, TX4, 14) := rfl
theorem iw4 : ∀ w ∈ u_ws RX4 TX4 14, w ∈ WS := by decide +kernel
theorem vc5 : vwCl[5]? = some (RX5, TX5, 6) := rfl
theorem iw5 : ∀ w ∈ u_ws RX5 TX5 6, w ∈ WS := by decide +kernel
theorem vc6 : vwCl[6]? = some (RX6, TX6, 5) := rfl
theorem iw6 : ∀ w ∈ u_ws RX6 TX6 5, w ∈ WS := by decide +kernel
theorem kw_1 : Cond.selects "LampMural$History" ⟨"LampMural$History", "latestSlot", "()LLampMural$Scene;"⟩ ⟨"LampMural$History", "latestSlot", "()LLampMural$Scene;"⟩ ∈ WS := mW 1 (by decide +kernel) (by decide +kernel)
theorem kw_2 : Cond.selects "LampMural" ⟨"LampMural", "faultOfPainting", "(IIIII)I"⟩ ⟨"LampMural", "faultOfPainting", "(IIIII)I"⟩ ∈ WS := mW 2 (by decide +kernel) (by decide +kernel)
theorem kw_3 : Cond.selects "LampMural" ⟨"LampMural", "faultOfNewLamp", "(II)I"⟩ ⟨"LampMural", "faultOfNewLamp", "(II)I"⟩ ∈ WS := mW 3 (by decide +kernel) (by decide +kernel)
theorem kw_4 : Cond.selects "LampMural" ⟨"LampMural", "faultOfCorner", "(IIII)I"⟩ ⟨"LampMural", "faultOfCorner", "(IIII)I"⟩ ∈ WS := mW 4 (by decide +kernel) (by decide +kernel)
theorem kw_5 : Cond.selects "LampMural" ⟨"LampMural", "faultOfRectangle", "(IIIII)I"⟩ ⟨"LampMural", "faultOfRectangle", "(IIIII)I"⟩ ∈ WS := mW 5 (by decide +kernel) (by decide +kernel)
theorem kw_6 : Cond.selects "LampMural$Dimmer" ⟨"LampMural$Dimmer", "shareOut", "(I)V"⟩ ⟨"LampMural$Dimmer", "shareOut", "(I)V"⟩ ∈ WS := mW 6 (by decide +kernel) (by decide +kernel)
theorem kw_7 : Cond.selects "LampMural$Dimmer" ⟨"LampMural$Dimmer", "keepToLimits", "()V"⟩ ⟨"LampMural$Dimmer", "keepToLimits", "()V"⟩ ∈ WS := mW 7 (by decide +kernel) (by decide +kernel)
theorem kw_8 : Cond.selects "LampMural$Dimmer" ⟨"LampMural$Dimmer", "balance", "(I)V"⟩ ⟨"LampMural$Dimmer", "balance", "(I)V"⟩ ∈ WS := mW 8 (by decide +kernel) (by decide +kernel)
theorem kw_9 : Cond.selects "LampMural$Dimmer" ⟨"LampMural$Dimmer", "stateFor", "(I)I"⟩ ⟨"LampMural$Dimmer", "stateFor", "(I)I"⟩ ∈ WS := mW 9 (by decide +kernel) (by decide +kernel)
theorem kw_10 : Cond.selects "LampMural$Survey" ⟨"LampMural$Survey", "keepPlace", "()V"⟩ ⟨"LampMural$Survey", "keepPlace", "()V"⟩ ∈ WS := mW 10 (by decide +kernel) (by decide +kernel)
theorem kw_11 : Cond.selects "LampMural" ⟨"LampMural", "faultOfLampValue", "(III)I"⟩ ⟨"LampMural", "faultOfLampValue", "(III)I"⟩ ∈ WS := mW 11 (by decide +kernel) (by decide +kernel)
theorem kw_12 : Cond.selects "LampMural" ⟨"LampMural", "lampValue", "(II)I"⟩ ⟨"LampMural", "lampValue", "(II)I"⟩ ∈ WS := mW 12 (by decide +kernel) (by decide +kernel)
theorem kw_13 : Cond.selects "LampMural" ⟨"LampMural", "faultOfLamp", "(I)I"⟩ ⟨"LampMural", "faultOfLamp", "(I)I"⟩ ∈ WS := mW 13 (by decide +kernel) (by decide +kernel)
theorem kw_14 : Cond.selects "LampMural" ⟨"LampMural", "burnHours", "(I)V"⟩ ⟨"LampMural", "burnHours", "(I)V"⟩ ∈ WS := mW 14 (by decide +kernel) (by decide +kernel)
theorem kw_15 : Cond.selects "LampMural" ⟨"LampMural", "wholeValue", "(I)I"⟩ ⟨"LampMural", "wholeValue", "(I)I"⟩ ∈ WS := mW 15 (by decide +kernel) (by decide +kernel)
theorem kw_16 : Cond.selects "LampMural" ⟨"LampMural", "faultOfPlace", "(II)I"⟩ ⟨"LampMural", "faultOfPlace", "(II)I"⟩ ∈ WS := mW 16 (by decide +kernel) (by decide +kernel)
theorem kw_17 : Cond.selects "LampMural" ⟨"LampMural", "placeValue", "(II)I"⟩ ⟨"LampMural", "placeValue", "(II)I"⟩ ∈ WS := mW 17 (by decide +kernel) (by decide +kernel)
theorem kw_18 : Cond.selects "LampMural" ⟨"LampMural", "addLampTo", "(JI)J"⟩ ⟨"LampMural", "addLampTo", "(JI)J"⟩ ∈ WS := mW 18 (by decide +kernel) (by decide +kernel)
theorem kw_19 : Cond.selects "LampMural" ⟨"LampMural", "addPlaceTo", "(JI)J"⟩ ⟨"LampMural", "addPlaceTo", "(JI)J"⟩ ∈ WS := mW 19 (by decide +kernel) (by decide +kernel)
theorem kw_20 : Cond.selects "LampMural" ⟨"LampMural", "wrongIfFailed", "(I)I"⟩ ⟨"LampMural", "wrongIfFailed", "(I)I"⟩ ∈ WS := mW 20 (by decide +kernel) (by decide +kernel)
theorem kw_21 : Cond.selects "LampMural$CommandText" ⟨"LampMural$CommandText", "skipSpaces", "()V"⟩ ⟨"LampMural$CommandText", "skipSpaces", "()V"⟩ ∈ WS := mW 21 (by decide +kernel) (by decide +kernel)
theorem kw_22 : Cond.selects "LampMural$CommandText" ⟨"LampMural$CommandText", "readWord", "()Z"⟩ ⟨"LampMural$CommandText", "readWord", "()Z"⟩ ∈ WS := mW 22 (by decide +kernel) (by decide +kernel)
theorem kw_23 : Cond.selects "LampMural$CommandText" ⟨"LampMural$CommandText", "wordBetween", "(II)I"⟩ ⟨"LampMural$CommandText", "wordBetween", "(II)I"⟩ ∈ WS := mW 23 (by decide +kernel) (by decide +kernel)
theorem kw_24 : Cond.selects "LampMural$CommandText" ⟨"LampMural$CommandText", "isWord", "(Ljava/lang/String;II)Z"⟩ ⟨"LampMural$CommandText", "isWord", "(Ljava/lang/String;II)Z"⟩ ∈ WS := mW 24 (by decide +kernel) (by decide +kernel)
theorem kw_25 : Cond.selects "LampMural$CommandText" ⟨"LampMural$CommandText", "failAt", "(I)Z"⟩ ⟨"LampMural$CommandText", "failAt", "(I)Z"⟩ ∈ WS := mW 25 (by decide +kernel) (by decide +kernel)
theorem kw_26 : Cond.selects "LampMural$CommandText" ⟨"LampMural$CommandText", "readNumber", "(I)Z"⟩ ⟨"LampMural$CommandText", "readNumber", "(I)Z"⟩ ∈ WS := mW 26 (by decide +kernel) (by decide +kernel)
theorem kw_27 : Cond.selects "LampMural" ⟨"LampMural", "carryOut", "()Z"⟩ ⟨"LampMural", "carryOut", "()Z"⟩ ∈ WS := mW 27 (by decide +kernel) (by decide +kernel)
theorem kw_28 : Cond.selects "LampMural" ⟨"LampMural", "faultOfCommand", "(IIIII)I"⟩ ⟨"LampMural", "faultOfCommand", "(IIIII)I"⟩ ∈ WS := mW 28 (by decide +kernel) (by decide +kernel)
theorem kw_30 : Cond.initialized "LampMural" ∈ WS := mW 30 (by decide +kernel) (by decide +kernel)
theorem kw_31 : Cond.initialized "LampMural$Scene" ∈ WS := mW 31 (by decide +kernel) (by decide +kernel)
theorem kw_32 : Cond.initialized "LampMural$Row" ∈ WS := mW 32 (by decide +kernel) (by decide +kernel)
theorem kw_33 : Cond.initialized "LampMural$Survey" ∈ WS := mW 33 (by decide +kernel) (by decide +kernel)
theorem kw_34 : Cond.initialized "LampMural$Dimmer" ∈ WS := mW 34 (by decide +kernel) (by decide +kernel)
theorem kw_35 : Cond.initialized "LampMural$History" ∈ WS := mW 35 (by decide +kernel) (by decide +kernel)
theorem kw_36 : Cond.initialized "LampMural$CommandText" ∈ WS := mW 36 (by decide +kernel) (by decide +kernel)
theorem kw_42 : Cond.initialized "java/lang/Math" ∈ WS := mW 42 (by decide +kernel) (by decide +kernel)
theorem kw_43 : Cond.initialized "java/lang/Integer" ∈ WS := mW 43 (by decide +kernel) (by decide +kernel)
theorem kw_44 : Cond.initialized "java/lang/String" ∈ WS := mW 44 (by decide +kernel) (by decide +kernel)
theorem kw_45 : Cond.initialized "java/lang/StringLatin1" ∈ WS := mW 45 (by decide +kernel) (by decide +kernel)
theorem kw_46 : Cond.initialized "jdk/internal/util/Preconditions" ∈ WS := mW 46 (by decide +kernel) (by decide +kernel)
theorem kw_69 : Cond.fieldLink "LampMural$Row" 7 "LampMural$Row" "cells" "[I" ∈ WS := mW 69 (by decide +kernel) (by decide +kernel)
theorem kw_74 : Cond.fieldLink "LampMural$Scene" 9 "LampMural$Scene" "columns" "I" ∈ WS := mW 74 (by decide +kernel) (by decide +kernel)
theorem kw_78 : Cond.fieldLink "LampMural$Scene" 15 "LampMural$Scene" "rows" "I" ∈ WS := mW 78 (by decide +kernel) (by decide +kernel)
theorem kw_82 : Cond.fieldLink "LampMural$Scene" 49 "LampMural$Scene" "shiftX" "I" ∈ WS := mW 82 (by decide +kernel) (by decide +kernel)
theorem kw_85 : Cond.fieldLink "LampMural$Scene" 52 "LampMural$Scene" "shiftY" "I" ∈ WS := mW 85 (by decide +kernel) (by decide +kernel)
theorem kw_88 : Cond.fieldLink "LampMural$Scene" 55 "LampMural$Scene" "hours" "I" ∈ WS := mW 88 (by decide +kernel) (by decide +kernel)
theorem kw_90 : Cond.fieldLink "LampMural$Scene" 58 "LampMural$Scene" "lampCount" "I" ∈ WS := mW 90 (by decide +kernel) (by decide +kernel)
theorem kw_92 : Cond.fieldLink "LampMural$Scene" 18 "LampMural$Scene" "changed" "Z" ∈ WS := mW 92 (by decide +kernel) (by decide +kernel)
theorem kw_94 : Cond.fieldLink "LampMural$Scene" 27 "LampMural$Scene" "targets" "LLampMural$Row;" ∈ WS := mW 94 (by decide +kernel) (by decide +kernel)
theorem kw_95 : Cond.fieldLink "LampMural$Scene" 31 "LampMural$Scene" "greatest" "LLampMural$Row;" ∈ WS := mW 95 (by decide +kernel) (by decide +kernel)
theorem kw_97 : Cond.fieldLink "LampMural$Scene" 34 "LampMural$Scene" "least" "LLampMural$Row;" ∈ WS := mW 97 (by decide +kernel) (by decide +kernel)
theorem kw_99 : Cond.fieldLink "LampMural$Scene" 37 "LampMural$Scene" "wear" "LLampMural$Row;" ∈ WS := mW 99 (by decide +kernel) (by decide +kernel)
theorem kw_101 : Cond.fieldLink "LampMural$Scene" 40 "LampMural$Scene" "working" "LLampMural$Row;" ∈ WS := mW 101 (by decide +kernel) (by decide +kernel)
theorem kw_102 : Cond.fieldLink "LampMural$Scene" 43 "LampMural$Scene" "cornersX" "LLampMural$Row;" ∈ WS := mW 102 (by decide +kernel) (by decide +kernel)
theorem kw_103 : Cond.fieldLink "LampMural$Scene" 46 "LampMural$Scene" "cornersY" "LLampMural$Row;" ∈ WS := mW 103 (by decide +kernel) (by decide +kernel)
theorem kw_147 : Cond.fieldLink "LampMural$Dimmer" 14 "LampMural$Dimmer" "limits" "LLampMural$Row;" ∈ WS := mW 147 (by decide +kernel) (by decide +kernel)
theorem kw_148 : Cond.fieldLink "LampMural$Dimmer" 20 "LampMural$Dimmer" "floors" "LLampMural$Row;" ∈ WS := mW 148 (by decide +kernel) (by decide +kernel)
theorem kw_149 : Cond.fieldLink "LampMural$Dimmer" 23 "LampMural$Dimmer" "weights" "LLampMural$Row;" ∈ WS := mW 149 (by decide +kernel) (by decide +kernel)
theorem kw_150 : Cond.fieldLink "LampMural$Dimmer" 26 "LampMural$Dimmer" "lights" "LLampMural$Row;" ∈ WS := mW 150 (by decide +kernel) (by decide +kernel)
theorem kw_152 : Cond.fieldLink "LampMural$Dimmer" 29 "LampMural$Dimmer" "shining" "I" ∈ WS := mW 152 (by decide +kernel) (by decide +kernel)
theorem kw_154 : Cond.fieldLink "LampMural$Dimmer" 73 "LampMural$Dimmer" "covering" "I" ∈ WS := mW 154 (by decide +kernel) (by decide +kernel)
theorem kw_156 : Cond.fieldLink "LampMural$Dimmer" 107 "LampMural$Dimmer" "brightness" "I" ∈ WS := mW 156 (by decide +kernel) (by decide +kernel)
theorem kw_158 : Cond.fieldLink "LampMural$Dimmer" 70 "LampMural$Dimmer" "state" "I" ∈ WS := mW 158 (by decide +kernel) (by decide +kernel)
theorem kw_178 : Cond.fieldLink "LampMural$Survey" 12 "LampMural$Survey" "dimmer" "LLampMural$Dimmer;" ∈ WS := mW 178 (by decide +kernel) (by decide +kernel)
theorem kw_179 : Cond.fieldLink "LampMural$Survey" 23 "LampMural$Survey" "lights" "LLampMural$Row;" ∈ WS := mW 179 (by decide +kernel) (by decide +kernel)
theorem kw_180 : Cond.fieldLink "LampMural$Survey" 27 "LampMural$Survey" "covering" "LLampMural$Row;" ∈ WS := mW 180 (by decide +kernel) (by decide +kernel)
theorem kw_181 : Cond.fieldLink "LampMural$Survey" 30 "LampMural$Survey" "brightness" "LLampMural$Row;" ∈ WS := mW 181 (by decide +kernel) (by decide +kernel)
theorem kw_182 : Cond.fieldLink "LampMural$Survey" 33 "LampMural$Survey" "states" "LLampMural$Row;" ∈ WS := mW 182 (by decide +kernel) (by decide +kernel)
theorem kw_183 : Cond.fieldLink "LampMural$Survey" 50 "LampMural$Survey" "places" "I" ∈ WS := mW 183 (by decide +kernel) (by decide +kernel)
theorem kw_208 : Cond.fieldLink "LampMural$History" 11 "LampMural$History" "saved" "[LLampMural$Scene;" ∈ WS := mW 208 (by decide +kernel) (by decide +kernel)
theorem kw_209 : Cond.fieldLink "LampMural$History" 18 "LampMural$History" "latest" "I" ∈ WS := mW 209 (by decide +kernel) (by decide +kernel)
theorem kw_210 : Cond.fieldLink "LampMural$History" 30 "LampMural$History" "count" "I" ∈ WS := mW 210 (by decide +kernel) (by decide +kernel)
theorem kw_227 : Cond.fieldLink "LampMural$CommandText" 14 "LampMural$CommandText" "bytes" "LLampMural$Row;" ∈ WS := mW 227 (by decide +kernel) (by decide +kernel)
theorem kw_228 : Cond.fieldLink "LampMural$CommandText" 20 "LampMural$CommandText" "numbers" "LLampMural$Row;" ∈ WS := mW 228 (by decide +kernel) (by decide +kernel)
theorem kw_229 : Cond.fieldLink "LampMural$CommandText" 30 "LampMural$CommandText" "length" "I" ∈ WS := mW 229 (by decide +kernel) (by decide +kernel)
theorem kw_231 : Cond.fieldLink "LampMural$CommandText" 40 "LampMural$CommandText" "position" "I" ∈ WS := mW 231 (by decide +kernel) (by decide +kernel)
theorem kw_232 : Cond.fieldLink "LampMural$CommandText" 23 "LampMural$CommandText" "fault" "I" ∈ WS := mW 232 (by decide +kernel) (by decide +kernel)
theorem kw_233 : Cond.fieldLink "LampMural$CommandText" 27 "LampMural$CommandText" "word" "I" ∈ WS := mW 233 (by decide +kernel) (by decide +kernel)
theorem kw_248 : Cond.fieldLink "LampMural" 12 "LampMural" "scene" "LLampMural$Scene;" ∈ WS := mW 248 (by decide +kernel) (by decide +kernel)
theorem kw_249 : Cond.fieldLink "LampMural" 19 "LampMural" "survey" "LLampMural$Survey;" ∈ WS := mW 249 (by decide +kernel) (by decide +kernel)
theorem kw_250 : Cond.fieldLink "LampMural" 26 "LampMural" "whatIf" "LLampMural$Dimmer;" ∈ WS := mW 250 (by decide +kernel) (by decide +kernel)
theorem kw_251 : Cond.fieldLink "LampMural" 33 "LampMural" "history" "LLampMural$History;" ∈ WS := mW 251 (by decide +kernel) (by decide +kernel)
theorem kw_252 : Cond.fieldLink "LampMural" 40 "LampMural" "commands" "LLampMural$CommandText;" ∈ WS := mW 252 (by decide +kernel) (by decide +kernel)
theorem kw_277 : Cond.instanceMethod ⟨"LampMural", "begin", "(II)I"⟩ ∈ WS := mW 277 (by decide +kernel) (by decide +kernel)
theorem kw_278 : Cond.selects "LampMural" ⟨"LampMural", "begin", "(II)I"⟩ ⟨"LampMural", "begin", "(II)I"⟩ ∈ WS := mW 278 (by decide +kernel) (by decide +kernel)
theorem kw_279 : Cond.code ⟨"LampMural", "begin", "(II)I"⟩ prog_1_method_2_code 4 (some FieldType.int) ∈ WS := mW 279 (by decide +kernel) (by decide +kernel)
theorem kw_280 : Cond.methodLink "LampMural" 44 ⟨"LampMural", "faultOfWall", "(II)I"⟩ ∈ WS := mW 280 (by decide +kernel) (by decide +kernel)
theorem kw_281 : Cond.static ⟨"LampMural", "faultOfWall", "(II)I"⟩ ∈ WS := mW 281 (by decide +kernel) (by decide +kernel)
theorem kw_282 : Cond.code ⟨"LampMural", "faultOfWall", "(II)I"⟩ prog_1_method_37_code 2 (some FieldType.int) ∈ WS := mW 282 (by decide +kernel) (by decide +kernel)
theorem kw_283 : Cond.methodLink "LampMural" 176 ⟨"LampMural", "within", "(III)Z"⟩ ∈ WS := mW 283 (by decide +kernel) (by decide +kernel)
theorem kw_284 : Cond.static ⟨"LampMural", "within", "(III)Z"⟩ ∈ WS := mW 284 (by decide +kernel) (by decide +kernel)
theorem kw_285 : Cond.code ⟨"LampMural", "within", "(III)Z"⟩ prog_1_method_51_code 3 (some FieldType.boolean) ∈ WS := mW 285 (by decide +kernel) (by decide +kernel)
theorem kw_286 : Cond.methodLink "LampMural" 48 ⟨"LampMural", "refuseArgument", "(I)V"⟩ ∈ WS := mW 286 (by decide +kernel) (by decide +kernel)
theorem kw_287 : Cond.static ⟨"LampMural", "refuseArgument", "(I)V"⟩ ∈ WS := mW 287 (by decide +kernel) (by decide +kernel)
theorem kw_288 : Cond.code ⟨"LampMural", "refuseArgument", "(I)V"⟩ prog_1_method_49_code 1 none ∈ WS := mW 288 (by decide +kernel) (by decide +kernel)
theorem kw_331 : Cond.methodLink "LampMural" 350 ⟨"java/lang/IllegalArgumentException", "<init>", "(Ljava/lang/String;)V"⟩ ∈ WS := mW 331 (by decide +kernel) (by decide +kernel)
theorem kw_357 : Cond.methodLink "LampMural" 52 ⟨"LampMural$History", "save", "(LLampMural$Scene;)V"⟩ ∈ WS := mW 357 (by decide +kernel) (by decide +kernel)
theorem kw_358 : Cond.instanceMethod ⟨"LampMural$History", "save", "(LLampMural$Scene;)V"⟩ ∈ WS := mW 358 (by decide +kernel) (by decide +kernel)
theorem kw_359 : Cond.selects "LampMural$History" ⟨"LampMural$History", "save", "(LLampMural$Scene;)V"⟩ ⟨"LampMural$History", "save", "(LLampMural$Scene;)V"⟩ ∈ WS := mW 359 (by decide +kernel) (by decide +kernel)
theorem kw_360 : Cond.code ⟨"LampMural$History", "save", "(LLampMural$Scene;)V"⟩ prog_4_method_2_code 3 none ∈ WS := mW 360 (by decide +kernel) (by decide +kernel)
theorem kw_361 : Cond.methodLink "LampMural$History" 22 ⟨"LampMural$History", "latestSlot", "()LLampMural$Scene;"⟩ ∈ WS := mW 361 (by decide +kernel) (by decide +kernel)
theorem kw_363 : Cond.instanceMethod ⟨"LampMural$History", "latestSlot", "()LLampMural$Scene;"⟩ ∈ WS := mW 363 (by decide +kernel) (by decide +kernel)
theorem kw_364 : Cond.code ⟨"LampMural$History", "latestSlot", "()LLampMural$Scene;"⟩ prog_4_method_4_code 1 (some (FieldType.object "LampMural$Scene")) ∈ WS := mW 364 (by decide +kernel) (by decide +kernel)
theorem kw_365 : Cond.methodLink "LampMural$History" 26 ⟨"LampMural$Scene", "copyFrom", "(LLampMural$Scene;)V"⟩ ∈ WS := mW 365 (by decide +kernel) (by decide +kernel)
theorem kw_366 : Cond.instanceMethod ⟨"LampMural$Scene", "copyFrom", "(LLampMural$Scene;)V"⟩ ∈ WS := mW 366 (by decide +kernel) (by decide +kernel)
theorem kw_367 : Cond.selects "LampMural$Scene" ⟨"LampMural$Scene", "copyFrom", "(LLampMural$Scene;)V"⟩ ⟨"LampMural$Scene", "copyFrom", "(LLampMural$Scene;)V"⟩ ∈ WS := mW 367 (by decide +kernel) (by decide +kernel)
theorem kw_368 : Cond.code ⟨"LampMural$Scene", "copyFrom", "(LLampMural$Scene;)V"⟩ prog_6_method_2_code 2 none ∈ WS := mW 368 (by decide +kernel) (by decide +kernel)
theorem kw_369 : Cond.methodLink "LampMural$Scene" 61 ⟨"LampMural$Row", "copyFrom", "(LLampMural$Row;)V"⟩ ∈ WS := mW 369 (by decide +kernel) (by decide +kernel)
theorem kw_370 : Cond.instanceMethod ⟨"LampMural$Row", "copyFrom", "(LLampMural$Row;)V"⟩ ∈ WS := mW 370 (by decide +kernel) (by decide +kernel)
theorem kw_371 : Cond.selects "LampMural$Row" ⟨"LampMural$Row", "copyFrom", "(LLampMural$Row;)V"⟩ ⟨"LampMural$Row", "copyFrom", "(LLampMural$Row;)V"⟩ ∈ WS := mW 371 (by decide +kernel) (by decide +kernel)
theorem kw_372 : Cond.code ⟨"LampMural$Row", "copyFrom", "(LLampMural$Row;)V"⟩ prog_5_method_5_code 3 none ∈ WS := mW 372 (by decide +kernel) (by decide +kernel)
theorem kw_373 : Cond.methodLink "LampMural$History" 33 ⟨"java/lang/Math", "min", "(II)I"⟩ ∈ WS := mW 373 (by decide +kernel) (by decide +kernel)
theorem kw_374 : Cond.static ⟨"java/lang/Math", "min", "(II)I"⟩ ∈ WS := mW 374 (by decide +kernel) (by decide +kernel)
theorem kw_375 : Cond.code ⟨"java/lang/Math", "min", "(II)I"⟩ prog_15_method_69_code 2 (some FieldType.int) ∈ WS := mW 375 (by decide +kernel) (by decide +kernel)
theorem kw_376 : Cond.methodLink "LampMural" 56 ⟨"LampMural$Scene", "placeCount", "()I"⟩ ∈ WS := mW 376 (by decide +kernel) (by decide +kernel)
theorem kw_377 : Cond.instanceMethod ⟨"LampMural$Scene", "placeCount", "()I"⟩ ∈ WS := mW 377 (by decide +kernel) (by decide +kernel)
theorem kw_378 : Cond.selects "LampMural$Scene" ⟨"LampMural$Scene", "placeCount", "()I"⟩ ⟨"LampMural$Scene", "placeCount", "()I"⟩ ∈ WS := mW 378 (by decide +kernel) (by decide +kernel)
theorem kw_379 : Cond.code ⟨"LampMural$Scene", "placeCount", "()I"⟩ prog_6_method_14_code 1 (some FieldType.int) ∈ WS := mW 379 (by decide +kernel) (by decide +kernel)
theorem kw_380 : Cond.methodLink "LampMural" 60 ⟨"LampMural$Scene", "startWall", "(II)V"⟩ ∈ WS := mW 380 (by decide +kernel) (by decide +kernel)
theorem kw_381 : Cond.instanceMethod ⟨"LampMural$Scene", "startWall", "(II)V"⟩ ∈ WS := mW 381 (by decide +kernel) (by decide +kernel)
theorem kw_382 : Cond.selects "LampMural$Scene" ⟨"LampMural$Scene", "startWall", "(II)V"⟩ ⟨"LampMural$Scene", "startWall", "(II)V"⟩ ∈ WS := mW 382 (by decide +kernel) (by decide +kernel)
theorem kw_383 : Cond.code ⟨"LampMural$Scene", "startWall", "(II)V"⟩ prog_6_method_3_code 3 none ∈ WS := mW 383 (by decide +kernel) (by decide +kernel)
theorem kw_384 : Cond.methodLink "LampMural$Scene" 65 ⟨"LampMural$Row", "clear", "()V"⟩ ∈ WS := mW 384 (by decide +kernel) (by decide +kernel)
theorem kw_385 : Cond.instanceMethod ⟨"LampMural$Row", "clear", "()V"⟩ ∈ WS := mW 385 (by decide +kernel) (by decide +kernel)
theorem kw_386 : Cond.selects "LampMural$Row" ⟨"LampMural$Row", "clear", "()V"⟩ ⟨"LampMural$Row", "clear", "()V"⟩ ∈ WS := mW 386 (by decide +kernel) (by decide +kernel)
theorem kw_387 : Cond.code ⟨"LampMural$Row", "clear", "()V"⟩ prog_5_method_4_code 2 none ∈ WS := mW 387 (by decide +kernel) (by decide +kernel)
theorem kw_393 : Cond.instanceMethod ⟨"LampMural", "paint", "(IIIII)I"⟩ ∈ WS := mW 393 (by decide +kernel) (by decide +kernel)
theorem kw_394 : Cond.selects "LampMural" ⟨"LampMural", "paint", "(IIIII)I"⟩ ⟨"LampMural", "paint", "(IIIII)I"⟩ ∈ WS := mW 394 (by decide +kernel) (by decide +kernel)
theorem kw_395 : Cond.code ⟨"LampMural", "paint", "(IIIII)I"⟩ prog_1_method_3_code 7 (some FieldType.int) ∈ WS := mW 395 (by decide +kernel) (by decide +kernel)
theorem kw_396 : Cond.methodLink "LampMural" 64 ⟨"LampMural", "faultOfPainting", "(IIIII)I"⟩ ∈ WS := mW 396 (by decide +kernel) (by decide +kernel)
theorem kw_398 : Cond.instanceMethod ⟨"LampMural", "faultOfPainting", "(IIIII)I"⟩ ∈ WS := mW 398 (by decide +kernel) (by decide +kernel)
theorem kw_399 : Cond.code ⟨"LampMural", "faultOfPainting", "(IIIII)I"⟩ prog_1_method_38_code 6 (some FieldType.int) ∈ WS := mW 399 (by decide +kernel) (by decide +kernel)
theorem kw_400 : Cond.methodLink "LampMural" 333 ⟨"LampMural$Scene", "hasPlace", "(II)Z"⟩ ∈ WS := mW 400 (by decide +kernel) (by decide +kernel)
theorem kw_401 : Cond.instanceMethod ⟨"LampMural$Scene", "hasPlace", "(II)Z"⟩ ∈ WS := mW 401 (by decide +kernel) (by decide +kernel)
theorem kw_402 : Cond.selects "LampMural$Scene" ⟨"LampMural$Scene", "hasPlace", "(II)Z"⟩ ⟨"LampMural$Scene", "hasPlace", "(II)Z"⟩ ∈ WS := mW 402 (by decide +kernel) (by decide +kernel)
theorem kw_403 : Cond.code ⟨"LampMural$Scene", "hasPlace", "(II)Z"⟩ prog_6_method_12_code 3 (some FieldType.boolean) ∈ WS := mW 403 (by decide +kernel) (by decide +kernel)
theorem kw_404 : Cond.methodLink "LampMural" 68 ⟨"LampMural", "refuseIndex", "(I)V"⟩ ∈ WS := mW 404 (by decide +kernel) (by decide +kernel)
theorem kw_405 : Cond.static ⟨"LampMural", "refuseIndex", "(I)V"⟩ ∈ WS := mW 405 (by decide +kernel) (by decide +kernel)
theorem kw_406 : Cond.code ⟨"LampMural", "refuseIndex", "(I)V"⟩ prog_1_method_48_code 1 none ∈ WS := mW 406 (by decide +kernel) (by decide +kernel)
theorem kw_417 : Cond.methodLink "LampMural" 343 ⟨"java/lang/IndexOutOfBoundsException", "<init>", "(Ljava/lang/String;)V"⟩ ∈ WS := mW 417 (by decide +kernel) (by decide +kernel)
theorem kw_423 : Cond.methodLink "LampMural" 71 ⟨"LampMural$Scene", "setTargets", "(IIIII)I"⟩ ∈ WS := mW 423 (by decide +kernel) (by decide +kernel)
theorem kw_424 : Cond.instanceMethod ⟨"LampMural$Scene", "setTargets", "(IIIII)I"⟩ ∈ WS := mW 424 (by decide +kernel) (by decide +kernel)
theorem kw_425 : Cond.selects "LampMural$Scene" ⟨"LampMural$Scene", "setTargets", "(IIIII)I"⟩ ⟨"LampMural$Scene", "setTargets", "(IIIII)I"⟩ ∈ WS := mW 425 (by decide +kernel) (by decide +kernel)
theorem kw_426 : Cond.code ⟨"LampMural$Scene", "setTargets", "(IIIII)I"⟩ prog_6_method_4_code 10 (some FieldType.int) ∈ WS := mW 426 (by decide +kernel) (by decide +kernel)
theorem kw_427 : Cond.methodLink "LampMural$Scene" 68 ⟨"LampMural$Scene", "indexOfPlace", "(II)I"⟩ ∈ WS := mW 427 (by decide +kernel) (by decide +kernel)
theorem kw_428 : Cond.instanceMethod ⟨"LampMural$Scene", "indexOfPlace", "(II)I"⟩ ∈ WS := mW 428 (by decide +kernel) (by decide +kernel)
theorem kw_429 : Cond.selects "LampMural$Scene" ⟨"LampMural$Scene", "indexOfPlace", "(II)I"⟩ ⟨"LampMural$Scene", "indexOfPlace", "(II)I"⟩ ∈ WS := mW 429 (by decide +kernel) (by decide +kernel)
theorem kw_430 : Cond.code ⟨"LampMural$Scene", "indexOfPlace", "(II)I"⟩ prog_6_method_15_code 3 (some FieldType.int) ∈ WS := mW 430 (by decide +kernel) (by decide +kernel)
theorem kw_431 : Cond.methodLink "LampMural$Scene" 72 ⟨"LampMural$Row", "get", "(I)I"⟩ ∈ WS := mW 431 (by decide +kernel) (by decide +kernel)
theorem kw_432 : Cond.instanceMethod ⟨"LampMural$Row", "get", "(I)I"⟩ ∈ WS := mW 432 (by decide +kernel) (by decide +kernel)
theorem kw_433 : Cond.selects "LampMural$Row" ⟨"LampMural$Row", "get", "(I)I"⟩ ⟨"LampMural$Row", "get", "(I)I"⟩ ∈ WS := mW 433 (by decide +kernel) (by decide +kernel)
theorem kw_434 : Cond.code ⟨"LampMural$Row", "get", "(I)I"⟩ prog_5_method_2_code 2 (some FieldType.int) ∈ WS := mW 434 (by decide +kernel) (by decide +kernel)
theorem kw_435 : Cond.methodLink "LampMural$Scene" 76 ⟨"LampMural$Row", "set", "(II)V"⟩ ∈ WS := mW 435 (by decide +kernel) (by decide +kernel)
theorem kw_436 : Cond.instanceMethod ⟨"LampMural$Row", "set", "(II)V"⟩ ∈ WS := mW 436 (by decide +kernel) (by decide +kernel)
theorem kw_437 : Cond.selects "LampMural$Row" ⟨"LampMural$Row", "set", "(II)V"⟩ ⟨"LampMural$Row", "set", "(II)V"⟩ ∈ WS := mW 437 (by decide +kernel) (by decide +kernel)
theorem kw_438 : Cond.code ⟨"LampMural$Row", "set", "(II)V"⟩ prog_5_method_3_code 3 none ∈ WS := mW 438 (by decide +kernel) (by decide +kernel)
theorem kw_444 : Cond.instanceMethod ⟨"LampMural", "addLamp", "(II)I"⟩ ∈ WS := mW 444 (by decide +kernel) (by decide +kernel)
theorem kw_445 : Cond.selects "LampMural" ⟨"LampMural", "addLamp", "(II)I"⟩ ⟨"LampMural", "addLamp", "(II)I"⟩ ∈ WS := mW 445 (by decide +kernel) (by decide +kernel)
theorem kw_446 : Cond.code ⟨"LampMural", "addLamp", "(II)I"⟩ prog_1_method_4_code 4 (some FieldType.int) ∈ WS := mW 446 (by decide +kernel) (by decide +kernel)
theorem kw_447 : Cond.methodLink "LampMural" 74 ⟨"LampMural", "faultOfNewLamp", "(II)I"⟩ ∈ WS := mW 447 (by decide +kernel) (by decide +kernel)
theorem kw_449 : Cond.instanceMethod ⟨"LampMural", "faultOfNewLamp", "(II)I"⟩ ∈ WS := mW 449 (by decide +kernel) (by decide +kernel)
theorem kw_450 : Cond.code ⟨"LampMural", "faultOfNewLamp", "(II)I"⟩ prog_1_method_39_code 3 (some FieldType.int) ∈ WS := mW 450 (by decide +kernel) (by decide +kernel)
theorem kw_451 : Cond.methodLink "LampMural" 77 ⟨"LampMural", "refuseState", "(I)V"⟩ ∈ WS := mW 451 (by decide +kernel) (by decide +kernel)
theorem kw_452 : Cond.static ⟨"LampMural", "refuseState", "(I)V"⟩ ∈ WS := mW 452 (by decide +kernel) (by decide +kernel)
theorem kw_453 : Cond.code ⟨"LampMural", "refuseState", "(I)V"⟩ prog_1_method_50_code 1 none ∈ WS := mW 453 (by decide +kernel) (by decide +kernel)
theorem kw_464 : Cond.methodLink "LampMural" 355 ⟨"java/lang/IllegalStateException", "<init>", "(Ljava/lang/String;)V"⟩ ∈ WS := mW 464 (by decide +kernel) (by decide +kernel)
theorem kw_470 : Cond.methodLink "LampMural" 80 ⟨"LampMural$Scene", "hangLamp", "(II)I"⟩ ∈ WS := mW 470 (by decide +kernel) (by decide +kernel)
theorem kw_471 : Cond.instanceMethod ⟨"LampMural$Scene", "hangLamp", "(II)I"⟩ ∈ WS := mW 471 (by decide +kernel) (by decide +kernel)
theorem kw_472 : Cond.selects "LampMural$Scene" ⟨"LampMural$Scene", "hangLamp", "(II)I"⟩ ⟨"LampMural$Scene", "hangLamp", "(II)I"⟩ ∈ WS := mW 472 (by decide +kernel) (by decide +kernel)
theorem kw_473 : Cond.code ⟨"LampMural$Scene", "hangLamp", "(II)I"⟩ prog_6_method_5_code 5 (some FieldType.int) ∈ WS := mW 473 (by decide +kernel) (by decide +kernel)
theorem kw_474 : Cond.methodLink "LampMural$Scene" 80 ⟨"LampMural$Scene", "moveCorner", "(IIII)V"⟩ ∈ WS := mW 474 (by decide +kernel) (by decide +kernel)
theorem kw_475 : Cond.instanceMethod ⟨"LampMural$Scene", "moveCorner", "(IIII)V"⟩ ∈ WS := mW 475 (by decide +kernel) (by decide +kernel)
theorem kw_476 : Cond.selects "LampMural$Scene" ⟨"LampMural$Scene", "moveCorner", "(IIII)V"⟩ ⟨"LampMural$Scene", "moveCorner", "(IIII)V"⟩ ∈ WS := mW 476 (by decide +kernel) (by decide +kernel)
theorem kw_477 : Cond.code ⟨"LampMural$Scene", "moveCorner", "(IIII)V"⟩ prog_6_method_6_code 5 none ∈ WS := mW 477 (by decide +kernel) (by decide +kernel)
theorem kw_482 : Cond.instanceMethod ⟨"LampMural", "setCorner", "(IIII)I"⟩ ∈ WS := mW 482 (by decide +kernel) (by decide +kernel)
theorem kw_483 : Cond.selects "LampMural" ⟨"LampMural", "setCorner", "(IIII)I"⟩ ⟨"LampMural", "setCorner", "(IIII)I"⟩ ∈ WS := mW 483 (by decide +kernel) (by decide +kernel)
theorem kw_484 : Cond.code ⟨"LampMural", "setCorner", "(IIII)I"⟩ prog_1_method_5_code 6 (some FieldType.int) ∈ WS := mW 484 (by decide +kernel) (by decide +kernel)
theorem kw_485 : Cond.methodLink "LampMural" 83 ⟨"LampMural", "faultOfCorner", "(IIII)I"⟩ ∈ WS := mW 485 (by decide +kernel) (by decide +kernel)
theorem kw_487 : Cond.instanceMethod ⟨"LampMural", "faultOfCorner", "(IIII)I"⟩ ∈ WS := mW 487 (by decide +kernel) (by decide +kernel)
theorem kw_488 : Cond.code ⟨"LampMural", "faultOfCorner", "(IIII)I"⟩ prog_1_method_40_code 6 (some FieldType.int) ∈ WS := mW 488 (by decide +kernel) (by decide +kernel)
theorem kw_489 : Cond.methodLink "LampMural" 336 ⟨"LampMural$Scene", "hasLamp", "(I)Z"⟩ ∈ WS := mW 489 (by decide +kernel) (by decide +kernel)
theorem kw_490 : Cond.instanceMethod ⟨"LampMural$Scene", "hasLamp", "(I)Z"⟩ ∈ WS := mW 490 (by decide +kernel) (by decide +kernel)
theorem kw_491 : Cond.selects "LampMural$Scene" ⟨"LampMural$Scene", "hasLamp", "(I)Z"⟩ ⟨"LampMural$Scene", "hasLamp", "(I)Z"⟩ ∈ WS := mW 491 (by decide +kernel) (by decide +kernel)
theorem kw_492 : Cond.code ⟨"LampMural$Scene", "hasLamp", "(I)Z"⟩ prog_6_method_13_code 2 (some FieldType.boolean) ∈ WS := mW 492 (by decide +kernel) (by decide +kernel)
theorem kw_493 : Cond.methodLink "LampMural" 87 ⟨"LampMural$Scene", "moveCorner", "(IIII)V"⟩ ∈ WS := mW 493 (by decide +kernel) (by decide +kernel)
theorem kw_494 : Cond.methodLink "LampMural" 91 ⟨"LampMural$Scene", "isGood", "(I)Z"⟩ ∈ WS := mW 494 (by decide +kernel) (by decide +kernel)
theorem kw_495 : Cond.instanceMethod ⟨"LampMural$Scene", "isGood", "(I)Z"⟩ ∈ WS := mW 495 (by decide +kernel) (by decide +kernel)
theorem kw_496 : Cond.selects "LampMural$Scene" ⟨"LampMural$Scene", "isGood", "(I)Z"⟩ ⟨"LampMural$Scene", "isGood", "(I)Z"⟩ ∈ WS := mW 496 (by decide +kernel) (by decide +kernel)
theorem kw_497 : Cond.code ⟨"LampMural$Scene", "isGood", "(I)Z"⟩ prog_6_method_26_code 10 (some FieldType.boolean) ∈ WS := mW 497 (by decide +kernel) (by decide +kernel)
theorem kw_499 : Cond.static ⟨"LampMural", "cross", "(IIII)I"⟩ ∈ WS := mW 499 (by decide +kernel) (by decide +kernel)
theorem kw_500 : Cond.code ⟨"LampMural", "cross", "(IIII)I"⟩ prog_1_method_52_code 4 (some FieldType.int) ∈ WS := mW 500 (by decide +kernel) (by decide +kernel)
theorem kw_505 : Cond.instanceMethod ⟨"LampMural", "setRectangle", "(IIIII)I"⟩ ∈ WS := mW 505 (by decide +kernel) (by decide +kernel)
theorem kw_506 : Cond.selects "LampMural" ⟨"LampMural", "setRectangle", "(IIIII)I"⟩ ⟨"LampMural", "setRectangle", "(IIIII)I"⟩ ∈ WS := mW 506 (by decide +kernel) (by decide +kernel)
theorem kw_507 : Cond.code ⟨"LampMural", "setRectangle", "(IIIII)I"⟩ prog_1_method_6_code 7 (some FieldType.int) ∈ WS := mW 507 (by decide +kernel) (by decide +kernel)
theorem kw_508 : Cond.methodLink "LampMural" 95 ⟨"LampMural", "faultOfRectangle", "(IIIII)I"⟩ ∈ WS := mW 508 (by decide +kernel) (by decide +kernel)
theorem kw_510 : Cond.instanceMethod ⟨"LampMural", "faultOfRectangle", "(IIIII)I"⟩ ∈ WS := mW 510 (by decide +kernel) (by decide +kernel)
theorem kw_511 : Cond.code ⟨"LampMural", "faultOfRectangle", "(IIIII)I"⟩ prog_1_method_41_code 8 (some FieldType.int) ∈ WS := mW 511 (by decide +kernel) (by decide +kernel)
theorem kw_512 : Cond.methodLink "LampMural" 98 ⟨"LampMural$Survey", "refresh", "(LLampMural$Scene;)V"⟩ ∈ WS := mW 512 (by decide +kernel) (by decide +kernel)
theorem kw_513 : Cond.instanceMethod ⟨"LampMural$Survey", "refresh", "(LLampMural$Scene;)V"⟩ ∈ WS := mW 513 (by decide +kernel) (by decide +kernel)
theorem kw_514 : Cond.selects "LampMural$Survey" ⟨"LampMural$Survey", "refresh", "(LLampMural$Scene;)V"⟩ ⟨"LampMural$Survey", "refresh", "(LLampMural$Scene;)V"⟩ ∈ WS := mW 514 (by decide +kernel) (by decide +kernel)
theorem kw_515 : Cond.code ⟨"LampMural$Survey", "refresh", "(LLampMural$Scene;)V"⟩ prog_7_method_2_code 4 none ∈ WS := mW 515 (by decide +kernel) (by decide +kernel)
theorem kw_516 : Cond.methodLink "LampMural$Survey" 42 ⟨"LampMural$Scene", "shiningLamps", "()I"⟩ ∈ WS := mW 516 (by decide +kernel) (by decide +kernel)
theorem kw_517 : Cond.instanceMethod ⟨"LampMural$Scene", "shiningLamps", "()I"⟩ ∈ WS := mW 517 (by decide +kernel) (by decide +kernel)
theorem kw_518 : Cond.selects "LampMural$Scene" ⟨"LampMural$Scene", "shiningLamps", "()I"⟩ ⟨"LampMural$Scene", "shiningLamps", "()I"⟩ ∈ WS := mW 518 (by decide +kernel) (by decide +kernel)
theorem kw_519 : Cond.code ⟨"LampMural$Scene", "shiningLamps", "()I"⟩ prog_6_method_27_code 3 (some FieldType.int) ∈ WS := mW 519 (by decide +kernel) (by decide +kernel)
theorem kw_520 : Cond.methodLink "LampMural$Scene" 106 ⟨"LampMural$Scene", "isWorking", "(I)Z"⟩ ∈ WS := mW 520 (by decide +kernel) (by decide +kernel)
theorem kw_521 : Cond.instanceMethod ⟨"LampMural$Scene", "isWorking", "(I)Z"⟩ ∈ WS := mW 521 (by decide +kernel) (by decide +kernel)
theorem kw_522 : Cond.selects "LampMural$Scene" ⟨"LampMural$Scene", "isWorking", "(I)Z"⟩ ⟨"LampMural$Scene", "isWorking", "(I)Z"⟩ ∈ WS := mW 522 (by decide +kernel) (by decide +kernel)
theorem kw_523 : Cond.code ⟨"LampMural$Scene", "isWorking", "(I)Z"⟩ prog_6_method_19_code 2 (some FieldType.boolean) ∈ WS := mW 523 (by decide +kernel) (by decide +kernel)
theorem kw_524 : Cond.methodLink "LampMural$Scene" 110 ⟨"LampMural$Scene", "isGood", "(I)Z"⟩ ∈ WS := mW 524 (by decide +kernel) (by decide +kernel)
theorem kw_525 : Cond.methodLink "LampMural$Survey" 46 ⟨"LampMural$Dimmer", "prepare", "(LLampMural$Scene;I)V"⟩ ∈ WS := mW 525 (by decide +kernel) (by decide +kernel)
theorem kw_526 : Cond.instanceMethod ⟨"LampMural$Dimmer", "prepare", "(LLampMural$Scene;I)V"⟩ ∈ WS := mW 526 (by decide +kernel) (by decide +kernel)
theorem kw_527 : Cond.selects "LampMural$Dimmer" ⟨"LampMural$Dimmer", "prepare", "(LLampMural$Scene;I)V"⟩ ⟨"LampMural$Dimmer", "prepare", "(LLampMural$Scene;I)V"⟩ ∈ WS := mW 527 (by decide +kernel) (by decide +kernel)
theorem kw_528 : Cond.code ⟨"LampMural$Dimmer", "prepare", "(LLampMural$Scene;I)V"⟩ prog_3_method_2_code 4 none ∈ WS := mW 528 (by decide +kernel) (by decide +kernel)
theorem kw_529 : Cond.methodLink "LampMural$Dimmer" 33 ⟨"LampMural$Scene", "limitOf", "(I)I"⟩ ∈ WS := mW 529 (by decide +kernel) (by decide +kernel)
theorem kw_530 : Cond.instanceMethod ⟨"LampMural$Scene", "limitOf", "(I)I"⟩ ∈ WS := mW 530 (by decide +kernel) (by decide +kernel)
theorem kw_531 : Cond.selects "LampMural$Scene" ⟨"LampMural$Scene", "limitOf", "(I)I"⟩ ⟨"LampMural$Scene", "limitOf", "(I)I"⟩ ∈ WS := mW 531 (by decide +kernel) (by decide +kernel)
theorem kw_532 : Cond.code ⟨"LampMural$Scene", "limitOf", "(I)I"⟩ prog_6_method_22_code 2 (some FieldType.int) ∈ WS := mW 532 (by decide +kernel) (by decide +kernel)
theorem kw_533 : Cond.methodLink "LampMural$Dimmer" 39 ⟨"LampMural$Row", "set", "(II)V"⟩ ∈ WS := mW 533 (by decide +kernel) (by decide +kernel)
theorem kw_534 : Cond.methodLink "LampMural$Dimmer" 43 ⟨"LampMural$Scene", "floorOf", "(I)I"⟩ ∈ WS := mW 534 (by decide +kernel) (by decide +kernel)
theorem kw_535 : Cond.instanceMethod ⟨"LampMural$Scene", "floorOf", "(I)I"⟩ ∈ WS := mW 535 (by decide +kernel) (by decide +kernel)
theorem kw_536 : Cond.selects "LampMural$Scene" ⟨"LampMural$Scene", "floorOf", "(I)I"⟩ ⟨"LampMural$Scene", "floorOf", "(I)I"⟩ ∈ WS := mW 536 (by decide +kernel) (by decide +kernel)
theorem kw_537 : Cond.code ⟨"LampMural$Scene", "floorOf", "(I)I"⟩ prog_6_method_23_code 2 (some FieldType.int) ∈ WS := mW 537 (by decide +kernel) (by decide +kernel)
theorem kw_538 : Cond.methodLink "LampMural$Scene" 92 ⟨"LampMural$Scene", "limitOf", "(I)I"⟩ ∈ WS := mW 538 (by decide +kernel) (by decide +kernel)
theorem kw_539 : Cond.methodLink "LampMural$Scene" 84 ⟨"java/lang/Math", "min", "(II)I"⟩ ∈ WS := mW 539 (by decide +kernel) (by decide +kernel)
theorem kw_541 : Cond.static ⟨"LampMural", "pointOf", "(II)I"⟩ ∈ WS := mW 541 (by decide +kernel) (by decide +kernel)
theorem kw_542 : Cond.code ⟨"LampMural", "pointOf", "(II)I"⟩ prog_1_method_53_code 2 (some FieldType.int) ∈ WS := mW 542 (by decide +kernel) (by decide +kernel)
theorem kw_543 : Cond.methodLink "LampMural$Survey" 70 ⟨"LampMural$Scene", "targetAt", "(I)I"⟩ ∈ WS := mW 543 (by decide +kernel) (by decide +kernel)
theorem kw_544 : Cond.instanceMethod ⟨"LampMural$Scene", "targetAt", "(I)I"⟩ ∈ WS := mW 544 (by decide +kernel) (by decide +kernel)
theorem kw_545 : Cond.selects "LampMural$Scene" ⟨"LampMural$Scene", "targetAt", "(I)I"⟩ ⟨"LampMural$Scene", "targetAt", "(I)I"⟩ ∈ WS := mW 545 (by decide +kernel) (by decide +kernel)
theorem kw_546 : Cond.code ⟨"LampMural$Scene", "targetAt", "(I)I"⟩ prog_6_method_16_code 2 (some FieldType.int) ∈ WS := mW 546 (by decide +kernel) (by decide +kernel)
theorem kw_547 : Cond.methodLink "LampMural$Survey" 74 ⟨"LampMural$Dimmer", "dimPoint", "(LLampMural$Scene;III)V"⟩ ∈ WS := mW 547 (by decide +kernel) (by decide +kernel)
theorem kw_548 : Cond.instanceMethod ⟨"LampMural$Dimmer", "dimPoint", "(LLampMural$Scene;III)V"⟩ ∈ WS := mW 548 (by decide +kernel) (by decide +kernel)
theorem kw_549 : Cond.selects "LampMural$Dimmer" ⟨"LampMural$Dimmer", "dimPoint", "(LLampMural$Scene;III)V"⟩ ⟨"LampMural$Dimmer", "dimPoint", "(LLampMural$Scene;III)V"⟩ ∈ WS := mW 549 (by decide +kernel) (by decide +kernel)
theorem kw_550 : Cond.code ⟨"LampMural$Dimmer", "dimPoint", "(LLampMural$Scene;III)V"⟩ prog_3_method_4_code 7 none ∈ WS := mW 550 (by decide +kernel) (by decide +kernel)
theorem kw_552 : Cond.static ⟨"LampMural", "isIn", "(II)Z"⟩ ∈ WS := mW 552 (by decide +kernel) (by decide +kernel)
theorem kw_553 : Cond.code ⟨"LampMural", "isIn", "(II)Z"⟩ prog_1_method_54_code 2 (some FieldType.boolean) ∈ WS := mW 553 (by decide +kernel) (by decide +kernel)
theorem kw_554 : Cond.methodLink "LampMural$Dimmer" 80 ⟨"LampMural$Scene", "weightAt", "(III)I"⟩ ∈ WS := mW 554 (by decide +kernel) (by decide +kernel)
theorem kw_555 : Cond.instanceMethod ⟨"LampMural$Scene", "weightAt", "(III)I"⟩ ∈ WS := mW 555 (by decide +kernel) (by decide +kernel)
theorem kw_556 : Cond.selects "LampMural$Scene" ⟨"LampMural$Scene", "weightAt", "(III)I"⟩ ⟨"LampMural$Scene", "weightAt", "(III)I"⟩ ∈ WS := mW 556 (by decide +kernel) (by decide +kernel)
theorem kw_557 : Cond.code ⟨"LampMural$Scene", "weightAt", "(III)I"⟩ prog_6_method_28_code 13 (some FieldType.int) ∈ WS := mW 557 (by decide +kernel) (by decide +kernel)
theorem kw_558 : Cond.methodLink "LampMural$Scene" 113 ⟨"java/lang/Math", "abs", "(I)I"⟩ ∈ WS := mW 558 (by decide +kernel) (by decide +kernel)
theorem kw_559 : Cond.static ⟨"java/lang/Math", "abs", "(I)I"⟩ ∈ WS := mW 559 (by decide +kernel) (by decide +kernel)
theorem kw_560 : Cond.code ⟨"java/lang/Math", "abs", "(I)I"⟩ prog_15_method_59_code 1 (some FieldType.int) ∈ WS := mW 560 (by decide +kernel) (by decide +kernel)
theorem kw_561 : Cond.methodLink "LampMural$Dimmer" 84 ⟨"LampMural$Dimmer", "shareOut", "(I)V"⟩ ∈ WS := mW 561 (by decide +kernel) (by decide +kernel)
theorem kw_563 : Cond.instanceMethod ⟨"LampMural$Dimmer", "shareOut", "(I)V"⟩ ∈ WS := mW 563 (by decide +kernel) (by decide +kernel)
theorem kw_564 : Cond.code ⟨"LampMural$Dimmer", "shareOut", "(I)V"⟩ prog_3_method_5_code 7 none ∈ WS := mW 564 (by decide +kernel) (by decide +kernel)
theorem kw_565 : Cond.methodLink "LampMural$Dimmer" 96 ⟨"LampMural$Row", "get", "(I)I"⟩ ∈ WS := mW 565 (by decide +kernel) (by decide +kernel)
theorem kw_566 : Cond.methodLink "LampMural$Dimmer" 87 ⟨"LampMural$Dimmer", "keepToLimits", "()V"⟩ ∈ WS := mW 566 (by decide +kernel) (by decide +kernel)
theorem kw_568 : Cond.instanceMethod ⟨"LampMural$Dimmer", "keepToLimits", "()V"⟩ ∈ WS := mW 568 (by decide +kernel) (by decide +kernel)
theorem kw_569 : Cond.code ⟨"LampMural$Dimmer", "keepToLimits", "()V"⟩ prog_3_method_6_code 2 none ∈ WS := mW 569 (by decide +kernel) (by decide +kernel)
theorem kw_570 : Cond.methodLink "LampMural$Dimmer" 99 ⟨"java/lang/Math", "min", "(II)I"⟩ ∈ WS := mW 570 (by decide +kernel) (by decide +kernel)
theorem kw_571 : Cond.methodLink "LampMural$Dimmer" 104 ⟨"java/lang/Math", "max", "(II)I"⟩ ∈ WS := mW 571 (by decide +kernel) (by decide +kernel)
theorem kw_572 : Cond.static ⟨"java/lang/Math", "max", "(II)I"⟩ ∈ WS := mW 572 (by decide +kernel) (by decide +kernel)
theorem kw_573 : Cond.code ⟨"java/lang/Math", "max", "(II)I"⟩ prog_15_method_65_code 2 (some FieldType.int) ∈ WS := mW 573 (by decide +kernel) (by decide +kernel)
theorem kw_574 : Cond.methodLink "LampMural$Dimmer" 90 ⟨"LampMural$Dimmer", "balance", "(I)V"⟩ ∈ WS := mW 574 (by decide +kernel) (by decide +kernel)
theorem kw_576 : Cond.instanceMethod ⟨"LampMural$Dimmer", "balance", "(I)V"⟩ ∈ WS := mW 576 (by decide +kernel) (by decide +kernel)
theorem kw_577 : Cond.code ⟨"LampMural$Dimmer", "balance", "(I)V"⟩ prog_3_method_7_code 6 none ∈ WS := mW 577 (by decide +kernel) (by decide +kernel)
theorem kw_578 : Cond.methodLink "LampMural$Dimmer" 93 ⟨"LampMural$Dimmer", "stateFor", "(I)I"⟩ ∈ WS := mW 578 (by decide +kernel) (by decide +kernel)
theorem kw_580 : Cond.instanceMethod ⟨"LampMural$Dimmer", "stateFor", "(I)I"⟩ ∈ WS := mW 580 (by decide +kernel) (by decide +kernel)
theorem kw_581 : Cond.code ⟨"LampMural$Dimmer", "stateFor", "(I)I"⟩ prog_3_method_8_code 2 (some FieldType.int) ∈ WS := mW 581 (by decide +kernel) (by decide +kernel)
theorem kw_582 : Cond.methodLink "LampMural$Survey" 78 ⟨"LampMural$Survey", "keepPlace", "()V"⟩ ∈ WS := mW 582 (by decide +kernel) (by decide +kernel)
theorem kw_584 : Cond.instanceMethod ⟨"LampMural$Survey", "keepPlace", "()V"⟩ ∈ WS := mW 584 (by decide +kernel) (by decide +kernel)
theorem kw_585 : Cond.code ⟨"LampMural$Survey", "keepPlace", "()V"⟩ prog_7_method_3_code 2 none ∈ WS := mW 585 (by decide +kernel) (by decide +kernel)
theorem kw_586 : Cond.methodLink "LampMural$Survey" 83 ⟨"LampMural$Row", "set", "(II)V"⟩ ∈ WS := mW 586 (by decide +kernel) (by decide +kernel)
theorem kw_587 : Cond.methodLink "LampMural$Survey" 93 ⟨"LampMural$Row", "get", "(I)I"⟩ ∈ WS := mW 587 (by decide +kernel) (by decide +kernel)
theorem kw_588 : Cond.methodLink "LampMural" 101 ⟨"LampMural$Survey", "placesOf", "(I)I"⟩ ∈ WS := mW 588 (by decide +kernel) (by decide +kernel)
theorem kw_589 : Cond.instanceMethod ⟨"LampMural$Survey", "placesOf", "(I)I"⟩ ∈ WS := mW 589 (by decide +kernel) (by decide +kernel)
theorem kw_590 : Cond.selects "LampMural$Survey" ⟨"LampMural$Survey", "placesOf", "(I)I"⟩ ⟨"LampMural$Survey", "placesOf", "(I)I"⟩ ∈ WS := mW 590 (by decide +kernel) (by decide +kernel)
theorem kw_591 : Cond.code ⟨"LampMural$Survey", "placesOf", "(I)I"⟩ prog_7_method_9_code 4 (some FieldType.int) ∈ WS := mW 591 (by decide +kernel) (by decide +kernel)
theorem kw_592 : Cond.methodLink "LampMural$Survey" 100 ⟨"LampMural$Survey", "isCovered", "(II)Z"⟩ ∈ WS := mW 592 (by decide +kernel) (by decide +kernel)
theorem kw_593 : Cond.instanceMethod ⟨"LampMural$Survey", "isCovered", "(II)Z"⟩ ∈ WS := mW 593 (by decide +kernel) (by decide +kernel)
theorem kw_594 : Cond.selects "LampMural$Survey" ⟨"LampMural$Survey", "isCovered", "(II)Z"⟩ ⟨"LampMural$Survey", "isCovered", "(II)Z"⟩ ∈ WS := mW 594 (by decide +kernel) (by decide +kernel)
theorem kw_595 : Cond.code ⟨"LampMural$Survey", "isCovered", "(II)Z"⟩ prog_7_method_7_code 3 (some FieldType.boolean) ∈ WS := mW 595 (by decide +kernel) (by decide +kernel)
theorem kw_601 : Cond.instanceMethod ⟨"LampMural", "setLamp", "(III)I"⟩ ∈ WS := mW 601 (by decide +kernel) (by decide +kernel)
theorem kw_602 : Cond.selects "LampMural" ⟨"LampMural", "setLamp", "(III)I"⟩ ⟨"LampMural", "setLamp", "(III)I"⟩ ∈ WS := mW 602 (by decide +kernel) (by decide +kernel)
theorem kw_603 : Cond.code ⟨"LampMural", "setLamp", "(III)I"⟩ prog_1_method_7_code 6 (some FieldType.int) ∈ WS := mW 603 (by decide +kernel) (by decide +kernel)
theorem kw_604 : Cond.methodLink "LampMural" 105 ⟨"LampMural", "faultOfLampValue", "(III)I"⟩ ∈ WS := mW 604 (by decide +kernel) (by decide +kernel)
theorem kw_606 : Cond.instanceMethod ⟨"LampMural", "faultOfLampValue", "(III)I"⟩ ∈ WS := mW 606 (by decide +kernel) (by decide +kernel)
theorem kw_607 : Cond.code ⟨"LampMural", "faultOfLampValue", "(III)I"⟩ prog_1_method_42_code 4 (some FieldType.int) ∈ WS := mW 607 (by decide +kernel) (by decide +kernel)
theorem kw_608 : Cond.methodLink "LampMural" 109 ⟨"LampMural", "lampValue", "(II)I"⟩ ∈ WS := mW 608 (by decide +kernel) (by decide +kernel)
theorem kw_610 : Cond.instanceMethod ⟨"LampMural", "lampValue", "(II)I"⟩ ∈ WS := mW 610 (by decide +kernel) (by decide +kernel)
theorem kw_611 : Cond.code ⟨"LampMural", "lampValue", "(II)I"⟩ prog_1_method_31_code 3 (some FieldType.int) ∈ WS := mW 611 (by decide +kernel) (by decide +kernel)
theorem kw_612 : Cond.methodLink "LampMural" 271 ⟨"LampMural$Row", "get", "(I)I"⟩ ∈ WS := mW 612 (by decide +kernel) (by decide +kernel)
theorem kw_613 : Cond.methodLink "LampMural" 119 ⟨"LampMural$Scene", "isWorking", "(I)Z"⟩ ∈ WS := mW 613 (by decide +kernel) (by decide +kernel)
theorem kw_614 : Cond.methodLink "LampMural" 282 ⟨"LampMural$Scene", "limitOf", "(I)I"⟩ ∈ WS := mW 614 (by decide +kernel) (by decide +kernel)
theorem kw_615 : Cond.methodLink "LampMural" 285 ⟨"LampMural$Scene", "floorOf", "(I)I"⟩ ∈ WS := mW 615 (by decide +kernel) (by decide +kernel)
theorem kw_616 : Cond.methodLink "LampMural" 288 ⟨"LampMural$Survey", "sumOfLights", "(I)I"⟩ ∈ WS := mW 616 (by decide +kernel) (by decide +kernel)
theorem kw_617 : Cond.instanceMethod ⟨"LampMural$Survey", "sumOfLights", "(I)I"⟩ ∈ WS := mW 617 (by decide +kernel) (by decide +kernel)
theorem kw_618 : Cond.selects "LampMural$Survey" ⟨"LampMural$Survey", "sumOfLights", "(I)I"⟩ ⟨"LampMural$Survey", "sumOfLights", "(I)I"⟩ ∈ WS := mW 618 (by decide +kernel) (by decide +kernel)
theorem kw_619 : Cond.code ⟨"LampMural$Survey", "sumOfLights", "(I)I"⟩ prog_7_method_15_code 4 (some FieldType.int) ∈ WS := mW 619 (by decide +kernel) (by decide +kernel)
theorem kw_620 : Cond.methodLink "LampMural" 291 ⟨"LampMural$Survey", "loadOf", "(II)I"⟩ ∈ WS := mW 620 (by decide +kernel) (by decide +kernel)
theorem kw_621 : Cond.instanceMethod ⟨"LampMural$Survey", "loadOf", "(II)I"⟩ ∈ WS := mW 621 (by decide +kernel) (by decide +kernel)
theorem kw_622 : Cond.selects "LampMural$Survey" ⟨"LampMural$Survey", "loadOf", "(II)I"⟩ ⟨"LampMural$Survey", "loadOf", "(II)I"⟩ ∈ WS := mW 622 (by decide +kernel) (by decide +kernel)
theorem kw_623 : Cond.code ⟨"LampMural$Survey", "loadOf", "(II)I"⟩ prog_7_method_17_code 4 (some FieldType.int) ∈ WS := mW 623 (by decide +kernel) (by decide +kernel)
theorem kw_624 : Cond.methodLink "LampMural$Survey" 116 ⟨"LampMural$Survey", "placesOf", "(I)I"⟩ ∈ WS := mW 624 (by decide +kernel) (by decide +kernel)
theorem kw_625 : Cond.methodLink "LampMural$Survey" 119 ⟨"LampMural$Survey", "sumOfLights", "(I)I"⟩ ∈ WS := mW 625 (by decide +kernel) (by decide +kernel)
theorem kw_626 : Cond.methodLink "LampMural" 294 ⟨"LampMural$Survey", "greatestLightOf", "(I)I"⟩ ∈ WS := mW 626 (by decide +kernel) (by decide +kernel)
theorem kw_627 : Cond.instanceMethod ⟨"LampMural$Survey", "greatestLightOf", "(I)I"⟩ ∈ WS := mW 627 (by decide +kernel) (by decide +kernel)
theorem kw_628 : Cond.selects "LampMural$Survey" ⟨"LampMural$Survey", "greatestLightOf", "(I)I"⟩ ⟨"LampMural$Survey", "greatestLightOf", "(I)I"⟩ ∈ WS := mW 628 (by decide +kernel) (by decide +kernel)
theorem kw_629 : Cond.code ⟨"LampMural$Survey", "greatestLightOf", "(I)I"⟩ prog_7_method_16_code 4 (some FieldType.int) ∈ WS := mW 629 (by decide +kernel) (by decide +kernel)
theorem kw_630 : Cond.methodLink "LampMural$Survey" 111 ⟨"java/lang/Math", "max", "(II)I"⟩ ∈ WS := mW 630 (by decide +kernel) (by decide +kernel)
theorem kw_631 : Cond.methodLink "LampMural" 297 ⟨"LampMural$Survey", "placesOnlyOf", "(I)I"⟩ ∈ WS := mW 631 (by decide +kernel) (by decide +kernel)
theorem kw_632 : Cond.instanceMethod ⟨"LampMural$Survey", "placesOnlyOf", "(I)I"⟩ ∈ WS := mW 632 (by decide +kernel) (by decide +kernel)
theorem kw_633 : Cond.selects "LampMural$Survey" ⟨"LampMural$Survey", "placesOnlyOf", "(I)I"⟩ ⟨"LampMural$Survey", "placesOnlyOf", "(I)I"⟩ ∈ WS := mW 633 (by decide +kernel) (by decide +kernel)
theorem kw_634 : Cond.code ⟨"LampMural$Survey", "placesOnlyOf", "(I)I"⟩ prog_7_method_10_code 4 (some FieldType.int) ∈ WS := mW 634 (by decide +kernel) (by decide +kernel)
theorem kw_635 : Cond.methodLink "LampMural" 112 ⟨"LampMural$Scene", "setLampValue", "(III)V"⟩ ∈ WS := mW 635 (by decide +kernel) (by decide +kernel)
theorem kw_636 : Cond.instanceMethod ⟨"LampMural$Scene", "setLampValue", "(III)V"⟩ ∈ WS := mW 636 (by decide +kernel) (by decide +kernel)
theorem kw_637 : Cond.selects "LampMural$Scene" ⟨"LampMural$Scene", "setLampValue", "(III)V"⟩ ⟨"LampMural$Scene", "setLampValue", "(III)V"⟩ ∈ WS := mW 637 (by decide +kernel) (by decide +kernel)
theorem kw_638 : Cond.code ⟨"LampMural$Scene", "setLampValue", "(III)V"⟩ prog_6_method_7_code 4 none ∈ WS := mW 638 (by decide +kernel) (by decide +kernel)
theorem kw_643 : Cond.instanceMethod ⟨"LampMural", "setWorks", "(IZ)I"⟩ ∈ WS := mW 643 (by decide +kernel) (by decide +kernel)
theorem kw_644 : Cond.selects "LampMural" ⟨"LampMural", "setWorks", "(IZ)I"⟩ ⟨"LampMural", "setWorks", "(IZ)I"⟩ ∈ WS := mW 644 (by decide +kernel) (by decide +kernel)
theorem kw_645 : Cond.code ⟨"LampMural", "setWorks", "(IZ)I"⟩ prog_1_method_8_code 4 (some FieldType.int) ∈ WS := mW 645 (by decide +kernel) (by decide +kernel)
theorem kw_646 : Cond.methodLink "LampMural" 116 ⟨"LampMural", "faultOfLamp", "(I)I"⟩ ∈ WS := mW 646 (by decide +kernel) (by decide +kernel)
theorem kw_648 : Cond.instanceMethod ⟨"LampMural", "faultOfLamp", "(I)I"⟩ ∈ WS := mW 648 (by decide +kernel) (by decide +kernel)
theorem kw_649 : Cond.code ⟨"LampMural", "faultOfLamp", "(I)I"⟩ prog_1_method_43_code 2 (some FieldType.int) ∈ WS := mW 649 (by decide +kernel) (by decide +kernel)
theorem kw_650 : Cond.methodLink "LampMural" 122 ⟨"LampMural$Scene", "switchLamp", "(IZ)V"⟩ ∈ WS := mW 650 (by decide +kernel) (by decide +kernel)
theorem kw_651 : Cond.instanceMethod ⟨"LampMural$Scene", "switchLamp", "(IZ)V"⟩ ∈ WS := mW 651 (by decide +kernel) (by decide +kernel)
theorem kw_652 : Cond.selects "LampMural$Scene" ⟨"LampMural$Scene", "switchLamp", "(IZ)V"⟩ ⟨"LampMural$Scene", "switchLamp", "(IZ)V"⟩ ∈ WS := mW 652 (by decide +kernel) (by decide +kernel)
theorem kw_653 : Cond.code ⟨"LampMural$Scene", "switchLamp", "(IZ)V"⟩ prog_6_method_8_code 3 none ∈ WS := mW 653 (by decide +kernel) (by decide +kernel)
theorem kw_658 : Cond.instanceMethod ⟨"LampMural", "shift", "(II)I"⟩ ∈ WS := mW 658 (by decide +kernel) (by decide +kernel)
theorem kw_659 : Cond.selects "LampMural" ⟨"LampMural", "shift", "(II)I"⟩ ⟨"LampMural", "shift", "(II)I"⟩ ∈ WS := mW 659 (by decide +kernel) (by decide +kernel)
theorem kw_660 : Cond.code ⟨"LampMural", "shift", "(II)I"⟩ prog_1_method_9_code 3 (some FieldType.int) ∈ WS := mW 660 (by decide +kernel) (by decide +kernel)
theorem kw_661 : Cond.methodLink "LampMural" 126 ⟨"LampMural", "faultOfShift", "(II)I"⟩ ∈ WS := mW 661 (by decide +kernel) (by decide +kernel)
theorem kw_662 : Cond.static ⟨"LampMural", "faultOfShift", "(II)I"⟩ ∈ WS := mW 662 (by decide +kernel) (by decide +kernel)
theorem kw_663 : Cond.code ⟨"LampMural", "faultOfShift", "(II)I"⟩ prog_1_method_45_code 3 (some FieldType.int) ∈ WS := mW 663 (by decide +kernel) (by decide +kernel)
theorem kw_664 : Cond.methodLink "LampMural" 129 ⟨"LampMural$Scene", "moveWall", "(II)V"⟩ ∈ WS := mW 664 (by decide +kernel) (by decide +kernel)
theorem kw_665 : Cond.instanceMethod ⟨"LampMural$Scene", "moveWall", "(II)V"⟩ ∈ WS := mW 665 (by decide +kernel) (by decide +kernel)
theorem kw_666 : Cond.selects "LampMural$Scene" ⟨"LampMural$Scene", "moveWall", "(II)V"⟩ ⟨"LampMural$Scene", "moveWall", "(II)V"⟩ ∈ WS := mW 666 (by decide +kernel) (by decide +kernel)
theorem kw_667 : Cond.code ⟨"LampMural$Scene", "moveWall", "(II)V"⟩ prog_6_method_9_code 3 none ∈ WS := mW 667 (by decide +kernel) (by decide +kernel)
theorem kw_668 : Cond.methodLink "LampMural" 132 ⟨"LampMural$Survey", "wrongPlaces", "()I"⟩ ∈ WS := mW 668 (by decide +kernel) (by decide +kernel)
theorem kw_669 : Cond.instanceMethod ⟨"LampMural$Survey", "wrongPlaces", "()I"⟩ ∈ WS := mW 669 (by decide +kernel) (by decide +kernel)
theorem kw_670 : Cond.selects "LampMural$Survey" ⟨"LampMural$Survey", "wrongPlaces", "()I"⟩ ⟨"LampMural$Survey", "wrongPlaces", "()I"⟩ ∈ WS := mW 670 (by decide +kernel) (by decide +kernel)
theorem kw_671 : Cond.code ⟨"LampMural$Survey", "wrongPlaces", "()I"⟩ prog_7_method_13_code 1 (some FieldType.int) ∈ WS := mW 671 (by decide +kernel) (by decide +kernel)
theorem kw_672 : Cond.methodLink "LampMural$Survey" 108 ⟨"LampMural$Survey", "placesInState", "(I)I"⟩ ∈ WS := mW 672 (by decide +kernel) (by decide +kernel)
theorem kw_673 : Cond.instanceMethod ⟨"LampMural$Survey", "placesInState", "(I)I"⟩ ∈ WS := mW 673 (by decide +kernel) (by decide +kernel)
theorem kw_674 : Cond.selects "LampMural$Survey" ⟨"LampMural$Survey", "placesInState", "(I)I"⟩ ⟨"LampMural$Survey", "placesInState", "(I)I"⟩ ∈ WS := mW 674 (by decide +kernel) (by decide +kernel)
theorem kw_675 : Cond.code ⟨"LampMural$Survey", "placesInState", "(I)I"⟩ prog_7_method_12_code 4 (some FieldType.int) ∈ WS := mW 675 (by decide +kernel) (by decide +kernel)
theorem kw_680 : Cond.instanceMethod ⟨"LampMural", "burn", "(I)I"⟩ ∈ WS := mW 680 (by decide +kernel) (by decide +kernel)
theorem kw_681 : Cond.selects "LampMural" ⟨"LampMural", "burn", "(I)I"⟩ ⟨"LampMural", "burn", "(I)I"⟩ ∈ WS := mW 681 (by decide +kernel) (by decide +kernel)
theorem kw_682 : Cond.code ⟨"LampMural", "burn", "(I)I"⟩ prog_1_method_10_code 2 (some FieldType.int) ∈ WS := mW 682 (by decide +kernel) (by decide +kernel)
theorem kw_683 : Cond.methodLink "LampMural" 135 ⟨"LampMural", "faultOfHours", "(I)I"⟩ ∈ WS := mW 683 (by decide +kernel) (by decide +kernel)
theorem kw_684 : Cond.static ⟨"LampMural", "faultOfHours", "(I)I"⟩ ∈ WS := mW 684 (by decide +kernel) (by decide +kernel)
theorem kw_685 : Cond.code ⟨"LampMural", "faultOfHours", "(I)I"⟩ prog_1_method_46_code 1 (some FieldType.int) ∈ WS := mW 685 (by decide +kernel) (by decide +kernel)
theorem kw_686 : Cond.methodLink "LampMural" 147 ⟨"LampMural", "faultOfRange", "(III)I"⟩ ∈ WS := mW 686 (by decide +kernel) (by decide +kernel)
theorem kw_687 : Cond.static ⟨"LampMural", "faultOfRange", "(III)I"⟩ ∈ WS := mW 687 (by decide +kernel) (by decide +kernel)
theorem kw_688 : Cond.code ⟨"LampMural", "faultOfRange", "(III)I"⟩ prog_1_method_47_code 3 (some FieldType.int) ∈ WS := mW 688 (by decide +kernel) (by decide +kernel)
theorem kw_689 : Cond.methodLink "LampMural" 138 ⟨"LampMural", "burnHours", "(I)V"⟩ ∈ WS := mW 689 (by decide +kernel) (by decide +kernel)
theorem kw_691 : Cond.instanceMethod ⟨"LampMural", "burnHours", "(I)V"⟩ ∈ WS := mW 691 (by decide +kernel) (by decide +kernel)
theorem kw_692 : Cond.code ⟨"LampMural", "burnHours", "(I)V"⟩ prog_1_method_34_code 3 none ∈ WS := mW 692 (by decide +kernel) (by decide +kernel)
theorem kw_693 : Cond.methodLink "LampMural" 318 ⟨"LampMural$Scene", "wearOut", "(II)V"⟩ ∈ WS := mW 693 (by decide +kernel) (by decide +kernel)
theorem kw_694 : Cond.instanceMethod ⟨"LampMural$Scene", "wearOut", "(II)V"⟩ ∈ WS := mW 694 (by decide +kernel) (by decide +kernel)
theorem kw_695 : Cond.selects "LampMural$Scene" ⟨"LampMural$Scene", "wearOut", "(II)V"⟩ ⟨"LampMural$Scene", "wearOut", "(II)V"⟩ ∈ WS := mW 695 (by decide +kernel) (by decide +kernel)
theorem kw_696 : Cond.code ⟨"LampMural$Scene", "wearOut", "(II)V"⟩ prog_6_method_10_code 3 none ∈ WS := mW 696 (by decide +kernel) (by decide +kernel)
theorem kw_697 : Cond.methodLink "LampMural" 321 ⟨"LampMural$Scene", "countHours", "(I)V"⟩ ∈ WS := mW 697 (by decide +kernel) (by decide +kernel)
theorem kw_698 : Cond.instanceMethod ⟨"LampMural$Scene", "countHours", "(I)V"⟩ ∈ WS := mW 698 (by decide +kernel) (by decide +kernel)
theorem kw_699 : Cond.selects "LampMural$Scene" ⟨"LampMural$Scene", "countHours", "(I)V"⟩ ⟨"LampMural$Scene", "countHours", "(I)V"⟩ ∈ WS := mW 699 (by decide +kernel) (by decide +kernel)
theorem kw_700 : Cond.code ⟨"LampMural$Scene", "countHours", "(I)V"⟩ prog_6_method_11_code 2 none ∈ WS := mW 700 (by decide +kernel) (by decide +kernel)
theorem kw_701 : Cond.methodLink "LampMural" 141 ⟨"LampMural$Scene", "greatestWear", "()I"⟩ ∈ WS := mW 701 (by decide +kernel) (by decide +kernel)
theorem kw_702 : Cond.instanceMethod ⟨"LampMural$Scene", "greatestWear", "()I"⟩ ∈ WS := mW 702 (by decide +kernel) (by decide +kernel)
theorem kw_703 : Cond.selects "LampMural$Scene" ⟨"LampMural$Scene", "greatestWear", "()I"⟩ ⟨"LampMural$Scene", "greatestWear", "()I"⟩ ∈ WS := mW 703 (by decide +kernel) (by decide +kernel)
theorem kw_704 : Cond.code ⟨"LampMural$Scene", "greatestWear", "()I"⟩ prog_6_method_21_code 3 (some FieldType.int) ∈ WS := mW 704 (by decide +kernel) (by decide +kernel)
theorem kw_705 : Cond.methodLink "LampMural$Scene" 89 ⟨"java/lang/Math", "max", "(II)I"⟩ ∈ WS := mW 705 (by decide +kernel) (by decide +kernel)
theorem kw_710 : Cond.instanceMethod ⟨"LampMural", "whole", "(I)I"⟩ ∈ WS := mW 710 (by decide +kernel) (by decide +kernel)
theorem kw_711 : Cond.selects "LampMural" ⟨"LampMural", "whole", "(I)I"⟩ ⟨"LampMural", "whole", "(I)I"⟩ ∈ WS := mW 711 (by decide +kernel) (by decide +kernel)
theorem kw_712 : Cond.code ⟨"LampMural", "whole", "(I)I"⟩ prog_1_method_16_code 2 (some FieldType.int) ∈ WS := mW 712 (by decide +kernel) (by decide +kernel)
theorem kw_713 : Cond.methodLink "LampMural" 183 ⟨"LampMural", "wholeValue", "(I)I"⟩ ∈ WS := mW 713 (by decide +kernel) (by decide +kernel)
theorem kw_715 : Cond.instanceMethod ⟨"LampMural", "wholeValue", "(I)I"⟩ ∈ WS := mW 715 (by decide +kernel) (by decide +kernel)
theorem kw_716 : Cond.code ⟨"LampMural", "wholeValue", "(I)I"⟩ prog_1_method_32_code 2 (some FieldType.int) ∈ WS := mW 716 (by decide +kernel) (by decide +kernel)
theorem kw_717 : Cond.methodLink "LampMural" 300 ⟨"LampMural$Scene", "workingLamps", "()I"⟩ ∈ WS := mW 717 (by decide +kernel) (by decide +kernel)
theorem kw_718 : Cond.instanceMethod ⟨"LampMural$Scene", "workingLamps", "()I"⟩ ∈ WS := mW 718 (by decide +kernel) (by decide +kernel)
theorem kw_719 : Cond.selects "LampMural$Scene" ⟨"LampMural$Scene", "workingLamps", "()I"⟩ ⟨"LampMural$Scene", "workingLamps", "()I"⟩ ∈ WS := mW 719 (by decide +kernel) (by decide +kernel)
theorem kw_720 : Cond.code ⟨"LampMural$Scene", "workingLamps", "()I"⟩ prog_6_method_20_code 3 (some FieldType.int) ∈ WS := mW 720 (by decide +kernel) (by decide +kernel)
theorem kw_721 : Cond.methodLink "LampMural" 303 ⟨"LampMural$Survey", "placesInState", "(I)I"⟩ ∈ WS := mW 721 (by decide +kernel) (by decide +kernel)
theorem kw_722 : Cond.methodLink "LampMural" 306 ⟨"LampMural$Scene", "sumOfTargets", "()I"⟩ ∈ WS := mW 722 (by decide +kernel) (by decide +kernel)
theorem kw_723 : Cond.instanceMethod ⟨"LampMural$Scene", "sumOfTargets", "()I"⟩ ∈ WS := mW 723 (by decide +kernel) (by decide +kernel)
theorem kw_724 : Cond.selects "LampMural$Scene" ⟨"LampMural$Scene", "sumOfTargets", "()I"⟩ ⟨"LampMural$Scene", "sumOfTargets", "()I"⟩ ∈ WS := mW 724 (by decide +kernel) (by decide +kernel)
theorem kw_725 : Cond.code ⟨"LampMural$Scene", "sumOfTargets", "()I"⟩ prog_6_method_17_code 3 (some FieldType.int) ∈ WS := mW 725 (by decide +kernel) (by decide +kernel)
theorem kw_726 : Cond.methodLink "LampMural" 309 ⟨"LampMural$Survey", "sumOfBrightness", "()I"⟩ ∈ WS := mW 726 (by decide +kernel) (by decide +kernel)
theorem kw_727 : Cond.instanceMethod ⟨"LampMural$Survey", "sumOfBrightness", "()I"⟩ ∈ WS := mW 727 (by decide +kernel) (by decide +kernel)
theorem kw_728 : Cond.selects "LampMural$Survey" ⟨"LampMural$Survey", "sumOfBrightness", "()I"⟩ ⟨"LampMural$Survey", "sumOfBrightness", "()I"⟩ ∈ WS := mW 728 (by decide +kernel) (by decide +kernel)
theorem kw_729 : Cond.code ⟨"LampMural$Survey", "sumOfBrightness", "()I"⟩ prog_7_method_14_code 3 (some FieldType.int) ∈ WS := mW 729 (by decide +kernel) (by decide +kernel)
theorem kw_730 : Cond.methodLink "LampMural" 315 ⟨"LampMural$Survey", "placesOfSeveral", "()I"⟩ ∈ WS := mW 730 (by decide +kernel) (by decide +kernel)
theorem kw_731 : Cond.instanceMethod ⟨"LampMural$Survey", "placesOfSeveral", "()I"⟩ ∈ WS := mW 731 (by decide +kernel) (by decide +kernel)
theorem kw_732 : Cond.selects "LampMural$Survey" ⟨"LampMural$Survey", "placesOfSeveral", "()I"⟩ ⟨"LampMural$Survey", "placesOfSeveral", "()I"⟩ ∈ WS := mW 732 (by decide +kernel) (by decide +kernel)
theorem kw_733 : Cond.code ⟨"LampMural$Survey", "placesOfSeveral", "()I"⟩ prog_7_method_11_code 3 (some FieldType.int) ∈ WS := mW 733 (by decide +kernel) (by decide +kernel)
theorem kw_734 : Cond.methodLink "LampMural$Survey" 103 ⟨"java/lang/Integer", "bitCount", "(I)I"⟩ ∈ WS := mW 734 (by decide +kernel) (by decide +kernel)
theorem kw_735 : Cond.static ⟨"java/lang/Integer", "bitCount", "(I)I"⟩ ∈ WS := mW 735 (by decide +kernel) (by decide +kernel)
theorem kw_736 : Cond.code ⟨"java/lang/Integer", "bitCount", "(I)I"⟩ prog_14_method_49_code 1 (some FieldType.int) ∈ WS := mW 736 (by decide +kernel) (by decide +kernel)
theorem kw_737 : Cond.constant "java/lang/Integer" 265 (1431655765 : Int32) ∈ WS := mW 737 (by decide +kernel) (by decide +kernel)
theorem kw_738 : Cond.constant "java/lang/Integer" 266 (858993459 : Int32) ∈ WS := mW 738 (by decide +kernel) (by decide +kernel)
theorem kw_739 : Cond.constant "java/lang/Integer" 267 (252645135 : Int32) ∈ WS := mW 739 (by decide +kernel) (by decide +kernel)
theorem kw_744 : Cond.instanceMethod ⟨"LampMural", "undo", "()I"⟩ ∈ WS := mW 744 (by decide +kernel) (by decide +kernel)
theorem kw_745 : Cond.selects "LampMural" ⟨"LampMural", "undo", "()I"⟩ ⟨"LampMural", "undo", "()I"⟩ ∈ WS := mW 745 (by decide +kernel) (by decide +kernel)
theorem kw_746 : Cond.code ⟨"LampMural", "undo", "()I"⟩ prog_1_method_26_code 1 (some FieldType.int) ∈ WS := mW 746 (by decide +kernel) (by decide +kernel)
theorem kw_747 : Cond.methodLink "LampMural" 244 ⟨"LampMural$History", "restore", "(LLampMural$Scene;)V"⟩ ∈ WS := mW 747 (by decide +kernel) (by decide +kernel)
theorem kw_748 : Cond.instanceMethod ⟨"LampMural$History", "restore", "(LLampMural$Scene;)V"⟩ ∈ WS := mW 748 (by decide +kernel) (by decide +kernel)
theorem kw_749 : Cond.selects "LampMural$History" ⟨"LampMural$History", "restore", "(LLampMural$Scene;)V"⟩ ⟨"LampMural$History", "restore", "(LLampMural$Scene;)V"⟩ ∈ WS := mW 749 (by decide +kernel) (by decide +kernel)
theorem kw_750 : Cond.code ⟨"LampMural$History", "restore", "(LLampMural$Scene;)V"⟩ prog_4_method_3_code 2 none ∈ WS := mW 750 (by decide +kernel) (by decide +kernel)
theorem kw_766 : Cond.instanceMethod ⟨"LampMural", "lamp", "(II)I"⟩ ∈ WS := mW 766 (by decide +kernel) (by decide +kernel)
theorem kw_767 : Cond.selects "LampMural" ⟨"LampMural", "lamp", "(II)I"⟩ ⟨"LampMural", "lamp", "(II)I"⟩ ∈ WS := mW 767 (by decide +kernel) (by decide +kernel)
theorem kw_768 : Cond.code ⟨"LampMural", "lamp", "(II)I"⟩ prog_1_method_14_code 3 (some FieldType.int) ∈ WS := mW 768 (by decide +kernel) (by decide +kernel)
theorem kw_773 : Cond.instanceMethod ⟨"LampMural", "corner", "(III)I"⟩ ∈ WS := mW 773 (by decide +kernel) (by decide +kernel)
theorem kw_774 : Cond.selects "LampMural" ⟨"LampMural", "corner", "(III)I"⟩ ⟨"LampMural", "corner", "(III)I"⟩ ∈ WS := mW 774 (by decide +kernel) (by decide +kernel)
theorem kw_775 : Cond.code ⟨"LampMural", "corner", "(III)I"⟩ prog_1_method_15_code 4 (some FieldType.int) ∈ WS := mW 775 (by decide +kernel) (by decide +kernel)
theorem kw_776 : Cond.methodLink "LampMural" 180 ⟨"LampMural$Scene", "cornerValue", "(III)I"⟩ ∈ WS := mW 776 (by decide +kernel) (by decide +kernel)
theorem kw_777 : Cond.instanceMethod ⟨"LampMural$Scene", "cornerValue", "(III)I"⟩ ∈ WS := mW 777 (by decide +kernel) (by decide +kernel)
theorem kw_778 : Cond.selects "LampMural$Scene" ⟨"LampMural$Scene", "cornerValue", "(III)I"⟩ ⟨"LampMural$Scene", "cornerValue", "(III)I"⟩ ∈ WS := mW 778 (by decide +kernel) (by decide +kernel)
theorem kw_779 : Cond.code ⟨"LampMural$Scene", "cornerValue", "(III)I"⟩ prog_6_method_18_code 4 (some FieldType.int) ∈ WS := mW 779 (by decide +kernel) (by decide +kernel)
theorem kw_787 : Cond.instanceMethod ⟨"LampMural", "place", "(III)I"⟩ ∈ WS := mW 787 (by decide +kernel) (by decide +kernel)
theorem kw_788 : Cond.selects "LampMural" ⟨"LampMural", "place", "(III)I"⟩ ⟨"LampMural", "place", "(III)I"⟩ ∈ WS := mW 788 (by decide +kernel) (by decide +kernel)
theorem kw_789 : Cond.code ⟨"LampMural", "place", "(III)I"⟩ prog_1_method_11_code 4 (some FieldType.int) ∈ WS := mW 789 (by decide +kernel) (by decide +kernel)
theorem kw_790 : Cond.methodLink "LampMural" 144 ⟨"LampMural", "faultOfPlace", "(II)I"⟩ ∈ WS := mW 790 (by decide +kernel) (by decide +kernel)
theorem kw_792 : Cond.instanceMethod ⟨"LampMural", "faultOfPlace", "(II)I"⟩ ∈ WS := mW 792 (by decide +kernel) (by decide +kernel)
theorem kw_793 : Cond.code ⟨"LampMural", "faultOfPlace", "(II)I"⟩ prog_1_method_44_code 3 (some FieldType.int) ∈ WS := mW 793 (by decide +kernel) (by decide +kernel)
theorem kw_794 : Cond.methodLink "LampMural" 150 ⟨"LampMural$Scene", "indexOfPlace", "(II)I"⟩ ∈ WS := mW 794 (by decide +kernel) (by decide +kernel)
theorem kw_795 : Cond.methodLink "LampMural" 153 ⟨"LampMural", "placeValue", "(II)I"⟩ ∈ WS := mW 795 (by decide +kernel) (by decide +kernel)
theorem kw_797 : Cond.instanceMethod ⟨"LampMural", "placeValue", "(II)I"⟩ ∈ WS := mW 797 (by decide +kernel) (by decide +kernel)
theorem kw_798 : Cond.code ⟨"LampMural", "placeValue", "(II)I"⟩ prog_1_method_30_code 3 (some FieldType.int) ∈ WS := mW 798 (by decide +kernel) (by decide +kernel)
theorem kw_799 : Cond.methodLink "LampMural" 208 ⟨"LampMural$Scene", "targetAt", "(I)I"⟩ ∈ WS := mW 799 (by decide +kernel) (by decide +kernel)
theorem kw_800 : Cond.methodLink "LampMural" 211 ⟨"LampMural$Survey", "brightnessAt", "(I)I"⟩ ∈ WS := mW 800 (by decide +kernel) (by decide +kernel)
theorem kw_801 : Cond.instanceMethod ⟨"LampMural$Survey", "brightnessAt", "(I)I"⟩ ∈ WS := mW 801 (by decide +kernel) (by decide +kernel)
theorem kw_802 : Cond.selects "LampMural$Survey" ⟨"LampMural$Survey", "brightnessAt", "(I)I"⟩ ⟨"LampMural$Survey", "brightnessAt", "(I)I"⟩ ∈ WS := mW 802 (by decide +kernel) (by decide +kernel)
theorem kw_803 : Cond.code ⟨"LampMural$Survey", "brightnessAt", "(I)I"⟩ prog_7_method_5_code 2 (some FieldType.int) ∈ WS := mW 803 (by decide +kernel) (by decide +kernel)
theorem kw_804 : Cond.methodLink "LampMural" 192 ⟨"LampMural$Survey", "stateAt", "(I)I"⟩ ∈ WS := mW 804 (by decide +kernel) (by decide +kernel)
theorem kw_805 : Cond.instanceMethod ⟨"LampMural$Survey", "stateAt", "(I)I"⟩ ∈ WS := mW 805 (by decide +kernel) (by decide +kernel)
theorem kw_806 : Cond.selects "LampMural$Survey" ⟨"LampMural$Survey", "stateAt", "(I)I"⟩ ⟨"LampMural$Survey", "stateAt", "(I)I"⟩ ∈ WS := mW 806 (by decide +kernel) (by decide +kernel)
theorem kw_807 : Cond.code ⟨"LampMural$Survey", "stateAt", "(I)I"⟩ prog_7_method_6_code 2 (some FieldType.int) ∈ WS := mW 807 (by decide +kernel) (by decide +kernel)
theorem kw_808 : Cond.methodLink "LampMural" 258 ⟨"LampMural$Survey", "coveringAt", "(I)I"⟩ ∈ WS := mW 808 (by decide +kernel) (by decide +kernel)
theorem kw_809 : Cond.instanceMethod ⟨"LampMural$Survey", "coveringAt", "(I)I"⟩ ∈ WS := mW 809 (by decide +kernel) (by decide +kernel)
theorem kw_810 : Cond.selects "LampMural$Survey" ⟨"LampMural$Survey", "coveringAt", "(I)I"⟩ ⟨"LampMural$Survey", "coveringAt", "(I)I"⟩ ∈ WS := mW 810 (by decide +kernel) (by decide +kernel)
theorem kw_811 : Cond.code ⟨"LampMural$Survey", "coveringAt", "(I)I"⟩ prog_7_method_4_code 2 (some FieldType.int) ∈ WS := mW 811 (by decide +kernel) (by decide +kernel)
theorem kw_812 : Cond.methodLink "LampMural" 261 ⟨"LampMural$Scene", "sumOfLimits", "(I)I"⟩ ∈ WS := mW 812 (by decide +kernel) (by decide +kernel)
theorem kw_813 : Cond.instanceMethod ⟨"LampMural$Scene", "sumOfLimits", "(I)I"⟩ ∈ WS := mW 813 (by decide +kernel) (by decide +kernel)
theorem kw_814 : Cond.selects "LampMural$Scene" ⟨"LampMural$Scene", "sumOfLimits", "(I)I"⟩ ⟨"LampMural$Scene", "sumOfLimits", "(I)I"⟩ ∈ WS := mW 814 (by decide +kernel) (by decide +kernel)
theorem kw_815 : Cond.code ⟨"LampMural$Scene", "sumOfLimits", "(I)I"⟩ prog_6_method_24_code 4 (some FieldType.int) ∈ WS := mW 815 (by decide +kernel) (by decide +kernel)
theorem kw_817 : Cond.methodLink "LampMural" 264 ⟨"LampMural$Scene", "sumOfFloors", "(I)I"⟩ ∈ WS := mW 817 (by decide +kernel) (by decide +kernel)
theorem kw_818 : Cond.instanceMethod ⟨"LampMural$Scene", "sumOfFloors", "(I)I"⟩ ∈ WS := mW 818 (by decide +kernel) (by decide +kernel)
theorem kw_819 : Cond.selects "LampMural$Scene" ⟨"LampMural$Scene", "sumOfFloors", "(I)I"⟩ ⟨"LampMural$Scene", "sumOfFloors", "(I)I"⟩ ∈ WS := mW 819 (by decide +kernel) (by decide +kernel)
theorem kw_820 : Cond.code ⟨"LampMural$Scene", "sumOfFloors", "(I)I"⟩ prog_6_method_25_code 4 (some FieldType.int) ∈ WS := mW 820 (by decide +kernel) (by decide +kernel)
theorem kw_821 : Cond.methodLink "LampMural$Scene" 99 ⟨"LampMural$Scene", "floorOf", "(I)I"⟩ ∈ WS := mW 821 (by decide +kernel) (by decide +kernel)
theorem kw_826 : Cond.instanceMethod ⟨"LampMural", "light", "(III)I"⟩ ∈ WS := mW 826 (by decide +kernel) (by decide +kernel)
theorem kw_827 : Cond.selects "LampMural" ⟨"LampMural", "light", "(III)I"⟩ ⟨"LampMural", "light", "(III)I"⟩ ∈ WS := mW 827 (by decide +kernel) (by decide +kernel)
theorem kw_828 : Cond.code ⟨"LampMural", "light", "(III)I"⟩ prog_1_method_12_code 4 (some FieldType.int) ∈ WS := mW 828 (by decide +kernel) (by decide +kernel)
theorem kw_829 : Cond.methodLink "LampMural" 156 ⟨"LampMural$Survey", "lightOf", "(II)I"⟩ ∈ WS := mW 829 (by decide +kernel) (by decide +kernel)
theorem kw_830 : Cond.instanceMethod ⟨"LampMural$Survey", "lightOf", "(II)I"⟩ ∈ WS := mW 830 (by decide +kernel) (by decide +kernel)
theorem kw_831 : Cond.selects "LampMural$Survey" ⟨"LampMural$Survey", "lightOf", "(II)I"⟩ ⟨"LampMural$Survey", "lightOf", "(II)I"⟩ ∈ WS := mW 831 (by decide +kernel) (by decide +kernel)
theorem kw_832 : Cond.code ⟨"LampMural$Survey", "lightOf", "(II)I"⟩ prog_7_method_8_code 3 (some FieldType.int) ∈ WS := mW 832 (by decide +kernel) (by decide +kernel)
theorem kw_838 : Cond.instanceMethod ⟨"LampMural", "digest", "()J"⟩ ∈ WS := mW 838 (by decide +kernel) (by decide +kernel)
theorem kw_839 : Cond.selects "LampMural" ⟨"LampMural", "digest", "()J"⟩ ⟨"LampMural", "digest", "()J"⟩ ∈ WS := mW 839 (by decide +kernel) (by decide +kernel)
theorem kw_840 : Cond.code ⟨"LampMural", "digest", "()J"⟩ prog_1_method_27_code 4 (some FieldType.long) ∈ WS := mW 840 (by decide +kernel) (by decide +kernel)
theorem kw_841 : Cond.constantLong "LampMural" 247 (43276 : Int64) ∈ WS := mW 841 (by decide +kernel) (by decide +kernel)
theorem kw_842 : Cond.constantLong "LampMural" 249 (31 : Int64) ∈ WS := mW 842 (by decide +kernel) (by decide +kernel)
theorem kw_843 : Cond.methodLink "LampMural" 251 ⟨"LampMural", "addLampTo", "(JI)J"⟩ ∈ WS := mW 843 (by decide +kernel) (by decide +kernel)
theorem kw_845 : Cond.instanceMethod ⟨"LampMural", "addLampTo", "(JI)J"⟩ ∈ WS := mW 845 (by decide +kernel) (by decide +kernel)
theorem kw_846 : Cond.code ⟨"LampMural", "addLampTo", "(JI)J"⟩ prog_1_method_28_code 7 (some FieldType.long) ∈ WS := mW 846 (by decide +kernel) (by decide +kernel)
theorem kw_847 : Cond.methodLink "LampMural" 255 ⟨"LampMural", "addPlaceTo", "(JI)J"⟩ ∈ WS := mW 847 (by decide +kernel) (by decide +kernel)
theorem kw_849 : Cond.instanceMethod ⟨"LampMural", "addPlaceTo", "(JI)J"⟩ ∈ WS := mW 849 (by decide +kernel) (by decide +kernel)
theorem kw_850 : Cond.code ⟨"LampMural", "addPlaceTo", "(JI)J"⟩ prog_1_method_29_code 7 (some FieldType.long) ∈ WS := mW 850 (by decide +kernel) (by decide +kernel)
theorem kw_861 : Cond.instanceMethod ⟨"LampMural", "weight", "(III)I"⟩ ∈ WS := mW 861 (by decide +kernel) (by decide +kernel)
theorem kw_862 : Cond.selects "LampMural" ⟨"LampMural", "weight", "(III)I"⟩ ⟨"LampMural", "weight", "(III)I"⟩ ∈ WS := mW 862 (by decide +kernel) (by decide +kernel)
theorem kw_863 : Cond.code ⟨"LampMural", "weight", "(III)I"⟩ prog_1_method_13_code 4 (some FieldType.int) ∈ WS := mW 863 (by decide +kernel) (by decide +kernel)
theorem kw_864 : Cond.methodLink "LampMural" 159 ⟨"LampMural$Survey", "isCovered", "(II)Z"⟩ ∈ WS := mW 864 (by decide +kernel) (by decide +kernel)
theorem kw_865 : Cond.methodLink "LampMural" 167 ⟨"LampMural", "pointOf", "(II)I"⟩ ∈ WS := mW 865 (by decide +kernel) (by decide +kernel)
theorem kw_866 : Cond.methodLink "LampMural" 173 ⟨"LampMural$Scene", "weightAt", "(III)I"⟩ ∈ WS := mW 866 (by decide +kernel) (by decide +kernel)
theorem kw_871 : Cond.instanceMethod ⟨"LampMural", "wrongWithout", "(I)I"⟩ ∈ WS := mW 871 (by decide +kernel) (by decide +kernel)
theorem kw_872 : Cond.selects "LampMural" ⟨"LampMural", "wrongWithout", "(I)I"⟩ ⟨"LampMural", "wrongWithout", "(I)I"⟩ ∈ WS := mW 872 (by decide +kernel) (by decide +kernel)
theorem kw_873 : Cond.code ⟨"LampMural", "wrongWithout", "(I)I"⟩ prog_1_method_18_code 2 (some FieldType.int) ∈ WS := mW 873 (by decide +kernel) (by decide +kernel)
theorem kw_874 : Cond.methodLink "LampMural" 195 ⟨"LampMural", "wrongIfFailed", "(I)I"⟩ ∈ WS := mW 874 (by decide +kernel) (by decide +kernel)
theorem kw_876 : Cond.instanceMethod ⟨"LampMural", "wrongIfFailed", "(I)I"⟩ ∈ WS := mW 876 (by decide +kernel) (by decide +kernel)
theorem kw_877 : Cond.code ⟨"LampMural", "wrongIfFailed", "(I)I"⟩ prog_1_method_33_code 3 (some FieldType.int) ∈ WS := mW 877 (by decide +kernel) (by decide +kernel)
theorem kw_878 : Cond.methodLink "LampMural" 201 ⟨"LampMural$Scene", "shiningLamps", "()I"⟩ ∈ WS := mW 878 (by decide +kernel) (by decide +kernel)
theorem kw_879 : Cond.methodLink "LampMural" 204 ⟨"LampMural$Dimmer", "countWrong", "(LLampMural$Scene;III)I"⟩ ∈ WS := mW 879 (by decide +kernel) (by decide +kernel)
theorem kw_880 : Cond.instanceMethod ⟨"LampMural$Dimmer", "countWrong", "(LLampMural$Scene;III)I"⟩ ∈ WS := mW 880 (by decide +kernel) (by decide +kernel)
theorem kw_881 : Cond.selects "LampMural$Dimmer" ⟨"LampMural$Dimmer", "countWrong", "(LLampMural$Scene;III)I"⟩ ⟨"LampMural$Dimmer", "countWrong", "(LLampMural$Scene;III)I"⟩ ∈ WS := mW 881 (by decide +kernel) (by decide +kernel)
theorem kw_882 : Cond.code ⟨"LampMural$Dimmer", "countWrong", "(LLampMural$Scene;III)I"⟩ prog_3_method_3_code 9 (some FieldType.int) ∈ WS := mW 882 (by decide +kernel) (by decide +kernel)
theorem kw_883 : Cond.methodLink "LampMural$Dimmer" 46 ⟨"LampMural$Dimmer", "prepare", "(LLampMural$Scene;I)V"⟩ ∈ WS := mW 883 (by decide +kernel) (by decide +kernel)
theorem kw_884 : Cond.methodLink "LampMural$Dimmer" 56 ⟨"LampMural$Scene", "indexOfPlace", "(II)I"⟩ ∈ WS := mW 884 (by decide +kernel) (by decide +kernel)
theorem kw_885 : Cond.methodLink "LampMural$Dimmer" 60 ⟨"LampMural$Scene", "targetAt", "(I)I"⟩ ∈ WS := mW 885 (by decide +kernel) (by decide +kernel)
theorem kw_887 : Cond.methodLink "LampMural$Dimmer" 66 ⟨"LampMural$Dimmer", "dimPoint", "(LLampMural$Scene;III)V"⟩ ∈ WS := mW 887 (by decide +kernel) (by decide +kernel)
theorem kw_892 : Cond.instanceMethod ⟨"LampMural", "neededLimit", "(I)I"⟩ ∈ WS := mW 892 (by decide +kernel) (by decide +kernel)
theorem kw_893 : Cond.selects "LampMural" ⟨"LampMural", "neededLimit", "(I)I"⟩ ⟨"LampMural", "neededLimit", "(I)I"⟩ ∈ WS := mW 893 (by decide +kernel) (by decide +kernel)
theorem kw_894 : Cond.code ⟨"LampMural", "neededLimit", "(I)I"⟩ prog_1_method_22_code 5 (some FieldType.int) ∈ WS := mW 894 (by decide +kernel) (by decide +kernel)
theorem kw_895 : Cond.methodLink "LampMural" 214 ⟨"java/lang/Math", "max", "(II)I"⟩ ∈ WS := mW 895 (by decide +kernel) (by decide +kernel)
theorem kw_903 : Cond.instanceMethod ⟨"LampMural", "wrongShifted", "(II)I"⟩ ∈ WS := mW 903 (by decide +kernel) (by decide +kernel)
theorem kw_904 : Cond.selects "LampMural" ⟨"LampMural", "wrongShifted", "(II)I"⟩ ⟨"LampMural", "wrongShifted", "(II)I"⟩ ∈ WS := mW 904 (by decide +kernel) (by decide +kernel)
theorem kw_905 : Cond.code ⟨"LampMural", "wrongShifted", "(II)I"⟩ prog_1_method_20_code 3 (some FieldType.int) ∈ WS := mW 905 (by decide +kernel) (by decide +kernel)
theorem kw_910 : Cond.instanceMethod ⟨"LampMural", "bestShift", "(I)I"⟩ ∈ WS := mW 910 (by decide +kernel) (by decide +kernel)
theorem kw_911 : Cond.selects "LampMural" ⟨"LampMural", "bestShift", "(I)I"⟩ ⟨"LampMural", "bestShift", "(I)I"⟩ ∈ WS := mW 911 (by decide +kernel) (by decide +kernel)
theorem kw_912 : Cond.code ⟨"LampMural", "bestShift", "(I)I"⟩ prog_1_method_21_code 8 (some FieldType.int) ∈ WS := mW 912 (by decide +kernel) (by decide +kernel)
theorem kw_917 : Cond.instanceMethod ⟨"LampMural", "type", "(I)I"⟩ ∈ WS := mW 917 (by decide +kernel) (by decide +kernel)
theorem kw_918 : Cond.selects "LampMural" ⟨"LampMural", "type", "(I)I"⟩ ⟨"LampMural", "type", "(I)I"⟩ ∈ WS := mW 918 (by decide +kernel) (by decide +kernel)
theorem kw_919 : Cond.code ⟨"LampMural", "type", "(I)I"⟩ prog_1_method_23_code 2 (some FieldType.int) ∈ WS := mW 919 (by decide +kernel) (by decide +kernel)
theorem kw_920 : Cond.methodLink "LampMural" 222 ⟨"LampMural$CommandText", "append", "(I)I"⟩ ∈ WS := mW 920 (by decide +kernel) (by decide +kernel)
theorem kw_921 : Cond.instanceMethod ⟨"LampMural$CommandText", "append", "(I)I"⟩ ∈ WS := mW 921 (by decide +kernel) (by decide +kernel)
theorem kw_922 : Cond.selects "LampMural$CommandText" ⟨"LampMural$CommandText", "append", "(I)I"⟩ ⟨"LampMural$CommandText", "append", "(I)I"⟩ ∈ WS := mW 922 (by decide +kernel) (by decide +kernel)
theorem kw_923 : Cond.code ⟨"LampMural$CommandText", "append", "(I)I"⟩ prog_2_method_2_code 2 (some FieldType.int) ∈ WS := mW 923 (by decide +kernel) (by decide +kernel)
theorem kw_924 : Cond.methodLink "LampMural$CommandText" 33 ⟨"LampMural$Row", "set", "(II)V"⟩ ∈ WS := mW 924 (by decide +kernel) (by decide +kernel)
theorem kw_929 : Cond.instanceMethod ⟨"LampMural", "wrong", "(I)I"⟩ ∈ WS := mW 929 (by decide +kernel) (by decide +kernel)
theorem kw_930 : Cond.selects "LampMural" ⟨"LampMural", "wrong", "(I)I"⟩ ⟨"LampMural", "wrong", "(I)I"⟩ ∈ WS := mW 930 (by decide +kernel) (by decide +kernel)
theorem kw_931 : Cond.code ⟨"LampMural", "wrong", "(I)I"⟩ prog_1_method_17_code 5 (some FieldType.int) ∈ WS := mW 931 (by decide +kernel) (by decide +kernel)
theorem kw_943 : Cond.instanceMethod ⟨"LampMural", "runCommands", "()I"⟩ ∈ WS := mW 943 (by decide +kernel) (by decide +kernel)
theorem kw_944 : Cond.selects "LampMural" ⟨"LampMural", "runCommands", "()I"⟩ ⟨"LampMural", "runCommands", "()I"⟩ ∈ WS := mW 944 (by decide +kernel) (by decide +kernel)
theorem kw_945 : Cond.code ⟨"LampMural", "runCommands", "()I"⟩ prog_1_method_25_code 4 (some FieldType.int) ∈ WS := mW 945 (by decide +kernel) (by decide +kernel)
theorem kw_946 : Cond.methodLink "LampMural" 228 ⟨"LampMural$CommandText", "findFault", "()I"⟩ ∈ WS := mW 946 (by decide +kernel) (by decide +kernel)
theorem kw_947 : Cond.instanceMethod ⟨"LampMural$CommandText", "findFault", "()I"⟩ ∈ WS := mW 947 (by decide +kernel) (by decide +kernel)
theorem kw_948 : Cond.selects "LampMural$CommandText" ⟨"LampMural$CommandText", "findFault", "()I"⟩ ⟨"LampMural$CommandText", "findFault", "()I"⟩ ∈ WS := mW 948 (by decide +kernel) (by decide +kernel)
theorem kw_949 : Cond.code ⟨"LampMural$CommandText", "findFault", "()I"⟩ prog_2_method_5_code 2 (some FieldType.int) ∈ WS := mW 949 (by decide +kernel) (by decide +kernel)
theorem kw_950 : Cond.methodLink "LampMural$CommandText" 43 ⟨"LampMural$CommandText", "rewind", "()V"⟩ ∈ WS := mW 950 (by decide +kernel) (by decide +kernel)
theorem kw_951 : Cond.instanceMethod ⟨"LampMural$CommandText", "rewind", "()V"⟩ ∈ WS := mW 951 (by decide +kernel) (by decide +kernel)
theorem kw_952 : Cond.selects "LampMural$CommandText" ⟨"LampMural$CommandText", "rewind", "()V"⟩ ⟨"LampMural$CommandText", "rewind", "()V"⟩ ∈ WS := mW 952 (by decide +kernel) (by decide +kernel)
theorem kw_953 : Cond.code ⟨"LampMural$CommandText", "rewind", "()V"⟩ prog_2_method_4_code 1 none ∈ WS := mW 953 (by decide +kernel) (by decide +kernel)
theorem kw_954 : Cond.methodLink "LampMural$CommandText" 46 ⟨"LampMural$CommandText", "readCommand", "()Z"⟩ ∈ WS := mW 954 (by decide +kernel) (by decide +kernel)
theorem kw_955 : Cond.instanceMethod ⟨"LampMural$CommandText", "readCommand", "()Z"⟩ ∈ WS := mW 955 (by decide +kernel) (by decide +kernel)
theorem kw_956 : Cond.selects "LampMural$CommandText" ⟨"LampMural$CommandText", "readCommand", "()Z"⟩ ⟨"LampMural$CommandText", "readCommand", "()Z"⟩ ∈ WS := mW 956 (by decide +kernel) (by decide +kernel)
theorem kw_957 : Cond.code ⟨"LampMural$CommandText", "readCommand", "()Z"⟩ prog_2_method_6_code 2 (some FieldType.boolean) ∈ WS := mW 957 (by decide +kernel) (by decide +kernel)
theorem kw_958 : Cond.methodLink "LampMural$CommandText" 50 ⟨"LampMural$CommandText", "skipSpaces", "()V"⟩ ∈ WS := mW 958 (by decide +kernel) (by decide +kernel)
theorem kw_960 : Cond.instanceMethod ⟨"LampMural$CommandText", "skipSpaces", "()V"⟩ ∈ WS := mW 960 (by decide +kernel) (by decide +kernel)
theorem kw_961 : Cond.code ⟨"LampMural$CommandText", "skipSpaces", "()V"⟩ prog_2_method_10_code 1 none ∈ WS := mW 961 (by decide +kernel) (by decide +kernel)
theorem kw_962 : Cond.methodLink "LampMural$CommandText" 64 ⟨"LampMural$Row", "get", "(I)I"⟩ ∈ WS := mW 962 (by decide +kernel) (by decide +kernel)
theorem kw_963 : Cond.methodLink "LampMural$CommandText" 53 ⟨"LampMural$CommandText", "readWord", "()Z"⟩ ∈ WS := mW 963 (by decide +kernel) (by decide +kernel)
theorem kw_965 : Cond.instanceMethod ⟨"LampMural$CommandText", "readWord", "()Z"⟩ ∈ WS := mW 965 (by decide +kernel) (by decide +kernel)
theorem kw_966 : Cond.code ⟨"LampMural$CommandText", "readWord", "()Z"⟩ prog_2_method_8_code 2 (some FieldType.boolean) ∈ WS := mW 966 (by decide +kernel) (by decide +kernel)
theorem kw_968 : Cond.methodLink "LampMural$CommandText" 74 ⟨"LampMural$CommandText", "wordBetween", "(II)I"⟩ ∈ WS := mW 968 (by decide +kernel) (by decide +kernel)
theorem kw_970 : Cond.instanceMethod ⟨"LampMural$CommandText", "wordBetween", "(II)I"⟩ ∈ WS := mW 970 (by decide +kernel) (by decide +kernel)
theorem kw_971 : Cond.code ⟨"LampMural$CommandText", "wordBetween", "(II)I"⟩ prog_2_method_13_code 3 (some FieldType.int) ∈ WS := mW 971 (by decide +kernel) (by decide +kernel)
theorem kw_973 : Cond.methodLink "LampMural$CommandText" 83 ⟨"LampMural$CommandText", "isWord", "(Ljava/lang/String;II)Z"⟩ ∈ WS := mW 973 (by decide +kernel) (by decide +kernel)
theorem kw_975 : Cond.instanceMethod ⟨"LampMural$CommandText", "isWord", "(Ljava/lang/String;II)Z"⟩ ∈ WS := mW 975 (by decide +kernel) (by decide +kernel)
theorem kw_976 : Cond.code ⟨"LampMural$CommandText", "isWord", "(Ljava/lang/String;II)Z"⟩ prog_2_method_14_code 5 (some FieldType.boolean) ∈ WS := mW 976 (by decide +kernel) (by decide +kernel)
theorem kw_977 : Cond.methodLink "LampMural$CommandText" 101 ⟨"java/lang/String", "length", "()I"⟩ ∈ WS := mW 977 (by decide +kernel) (by decide +kernel)
theorem kw_978 : Cond.instanceMethod ⟨"java/lang/String", "length", "()I"⟩ ∈ WS := mW 978 (by decide +kernel) (by decide +kernel)
theorem kw_979 : Cond.selects "java/lang/String" ⟨"java/lang/String", "length", "()I"⟩ ⟨"java/lang/String", "length", "()I"⟩ ∈ WS := mW 979 (by decide +kernel) (by decide +kernel)
theorem kw_980 : Cond.code ⟨"java/lang/String", "length", "()I"⟩ prog_17_method_54_code 1 (some FieldType.int) ∈ WS := mW 980 (by decide +kernel) (by decide +kernel)
theorem kw_981 : Cond.methodLink "java/lang/String" 335 ⟨"java/lang/String", "coder", "()B"⟩ ∈ WS := mW 981 (by decide +kernel) (by decide +kernel)
theorem kw_982 : Cond.instanceMethod ⟨"java/lang/String", "coder", "()B"⟩ ∈ WS := mW 982 (by decide +kernel) (by decide +kernel)
theorem kw_983 : Cond.selects "java/lang/String" ⟨"java/lang/String", "coder", "()B"⟩ ⟨"java/lang/String", "coder", "()B"⟩ ∈ WS := mW 983 (by decide +kernel) (by decide +kernel)
theorem kw_984 : Cond.code ⟨"java/lang/String", "coder", "()B"⟩ prog_17_method_152_code 1 (some FieldType.byte) ∈ WS := mW 984 (by decide +kernel) (by decide +kernel)
theorem kw_985 : Cond.fieldLink "java/lang/String" 38 "java/lang/String" "COMPACT_STRINGS" "Z" ∈ WS := mW 985 (by decide +kernel) (by decide +kernel)
theorem kw_987 : Cond.methodLink "LampMural$CommandText" 106 ⟨"java/lang/String", "charAt", "(I)C"⟩ ∈ WS := mW 987 (by decide +kernel) (by decide +kernel)
theorem kw_988 : Cond.instanceMethod ⟨"java/lang/String", "charAt", "(I)C"⟩ ∈ WS := mW 988 (by decide +kernel) (by decide +kernel)
theorem kw_989 : Cond.selects "java/lang/String" ⟨"java/lang/String", "charAt", "(I)C"⟩ ⟨"java/lang/String", "charAt", "(I)C"⟩ ∈ WS := mW 989 (by decide +kernel) (by decide +kernel)
theorem kw_990 : Cond.code ⟨"java/lang/String", "charAt", "(I)C"⟩ prog_17_method_56_code 2 (some FieldType.char) ∈ WS := mW 990 (by decide +kernel) (by decide +kernel)
theorem kw_991 : Cond.methodLink "java/lang/String" 492 ⟨"java/lang/String", "isLatin1", "()Z"⟩ ∈ WS := mW 991 (by decide +kernel) (by decide +kernel)
theorem kw_992 : Cond.instanceMethod ⟨"java/lang/String", "isLatin1", "()Z"⟩ ∈ WS := mW 992 (by decide +kernel) (by decide +kernel)
theorem kw_993 : Cond.selects "java/lang/String" ⟨"java/lang/String", "isLatin1", "()Z"⟩ ⟨"java/lang/String", "isLatin1", "()Z"⟩ ∈ WS := mW 993 (by decide +kernel) (by decide +kernel)
theorem kw_994 : Cond.code ⟨"java/lang/String", "isLatin1", "()Z"⟩ prog_17_method_154_code 1 (some FieldType.boolean) ∈ WS := mW 994 (by decide +kernel) (by decide +kernel)
theorem kw_995 : Cond.methodLink "java/lang/String" 495 ⟨"java/lang/StringLatin1", "charAt", "([BI)C"⟩ ∈ WS := mW 995 (by decide +kernel) (by decide +kernel)
theorem kw_996 : Cond.static ⟨"java/lang/StringLatin1", "charAt", "([BI)C"⟩ ∈ WS := mW 996 (by decide +kernel) (by decide +kernel)
theorem kw_997 : Cond.code ⟨"java/lang/StringLatin1", "charAt", "([BI)C"⟩ prog_18_method_2_code 2 (some FieldType.char) ∈ WS := mW 997 (by decide +kernel) (by decide +kernel)
theorem kw_998 : Cond.methodLink "java/lang/StringLatin1" 9 ⟨"java/lang/String", "checkIndex", "(II)V"⟩ ∈ WS := mW 998 (by decide +kernel) (by decide +kernel)
theorem kw_999 : Cond.static ⟨"java/lang/String", "checkIndex", "(II)V"⟩ ∈ WS := mW 999 (by decide +kernel) (by decide +kernel)
theorem kw_1000 : Cond.code ⟨"java/lang/String", "checkIndex", "(II)V"⟩ prog_17_method_155_code 2 none ∈ WS := mW 1000 (by decide +kernel) (by decide +kernel)
theorem kw_1001 : Cond.fieldLink "java/lang/String" 1053 "jdk/internal/util/Preconditions" "SIOOBE_FORMATTER" "Ljava/util/function/BiFunction;" ∈ WS := mW 1001 (by decide +kernel) (by decide +kernel)
theorem kw_1003 : Cond.methodLink "java/lang/String" 1059 ⟨"jdk/internal/util/Preconditions", "checkIndex", "(IILjava/util/function/BiFunction;)I"⟩ ∈ WS := mW 1003 (by decide +kernel) (by decide +kernel)
theorem kw_1004 : Cond.static ⟨"jdk/internal/util/Preconditions", "checkIndex", "(IILjava/util/function/BiFunction;)I"⟩ ∈ WS := mW 1004 (by decide +kernel) (by decide +kernel)
theorem kw_1005 : Cond.code ⟨"jdk/internal/util/Preconditions", "checkIndex", "(IILjava/util/function/BiFunction;)I"⟩ prog_21_method_11_code 3 (some FieldType.int) ∈ WS := mW 1005 (by decide +kernel) (by decide +kernel)
theorem kw_1006 : Cond.methodLink "java/lang/String" 498 ⟨"java/lang/StringUTF16", "charAt", "([BI)C"⟩ ∈ WS := mW 1006 (by decide +kernel) (by decide +kernel)
theorem kw_1032 : Cond.methodLink "LampMural$CommandText" 67 ⟨"LampMural$CommandText", "failAt", "(I)Z"⟩ ∈ WS := mW 1032 (by decide +kernel) (by decide +kernel)
theorem kw_1034 : Cond.instanceMethod ⟨"LampMural$CommandText", "failAt", "(I)Z"⟩ ∈ WS := mW 1034 (by decide +kernel) (by decide +kernel)
theorem kw_1035 : Cond.code ⟨"LampMural$CommandText", "failAt", "(I)Z"⟩ prog_2_method_11_code 2 (some FieldType.boolean) ∈ WS := mW 1035 (by decide +kernel) (by decide +kernel)
theorem kw_1036 : Cond.methodLink "LampMural$CommandText" 37 ⟨"LampMural$Row", "clear", "()V"⟩ ∈ WS := mW 1036 (by decide +kernel) (by decide +kernel)
theorem kw_1037 : Cond.methodLink "LampMural$CommandText" 56 ⟨"LampMural$CommandText", "numbersOf", "(I)I"⟩ ∈ WS := mW 1037 (by decide +kernel) (by decide +kernel)
theorem kw_1038 : Cond.static ⟨"LampMural$CommandText", "numbersOf", "(I)I"⟩ ∈ WS := mW 1038 (by decide +kernel) (by decide +kernel)
theorem kw_1039 : Cond.code ⟨"LampMural$CommandText", "numbersOf", "(I)I"⟩ prog_2_method_15_code 1 (some FieldType.int) ∈ WS := mW 1039 (by decide +kernel) (by decide +kernel)
theorem kw_1040 : Cond.methodLink "LampMural$CommandText" 60 ⟨"LampMural$CommandText", "readNumber", "(I)Z"⟩ ∈ WS := mW 1040 (by decide +kernel) (by decide +kernel)
theorem kw_1042 : Cond.instanceMethod ⟨"LampMural$CommandText", "readNumber", "(I)Z"⟩ ∈ WS := mW 1042 (by decide +kernel) (by decide +kernel)
theorem kw_1043 : Cond.code ⟨"LampMural$CommandText", "readNumber", "(I)Z"⟩ prog_2_method_9_code 5 (some FieldType.boolean) ∈ WS := mW 1043 (by decide +kernel) (by decide +kernel)
theorem kw_1044 : Cond.methodLink "LampMural$CommandText" 78 ⟨"LampMural$CommandText", "isDigit", "(I)Z"⟩ ∈ WS := mW 1044 (by decide +kernel) (by decide +kernel)
theorem kw_1045 : Cond.static ⟨"LampMural$CommandText", "isDigit", "(I)Z"⟩ ∈ WS := mW 1045 (by decide +kernel) (by decide +kernel)
theorem kw_1046 : Cond.code ⟨"LampMural$CommandText", "isDigit", "(I)Z"⟩ prog_2_method_12_code 1 (some FieldType.boolean) ∈ WS := mW 1046 (by decide +kernel) (by decide +kernel)
theorem kw_1047 : Cond.methodLink "LampMural" 231 ⟨"LampMural$CommandText", "rewind", "()V"⟩ ∈ WS := mW 1047 (by decide +kernel) (by decide +kernel)
theorem kw_1048 : Cond.methodLink "LampMural" 234 ⟨"LampMural$CommandText", "readCommand", "()Z"⟩ ∈ WS := mW 1048 (by decide +kernel) (by decide +kernel)
theorem kw_1049 : Cond.methodLink "LampMural" 238 ⟨"LampMural", "carryOut", "()Z"⟩ ∈ WS := mW 1049 (by decide +kernel) (by decide +kernel)
theorem kw_1051 : Cond.instanceMethod ⟨"LampMural", "carryOut", "()Z"⟩ ∈ WS := mW 1051 (by decide +kernel) (by decide +kernel)
theorem kw_1052 : Cond.code ⟨"LampMural", "carryOut", "()Z"⟩ prog_1_method_35_code 6 (some FieldType.boolean) ∈ WS := mW 1052 (by decide +kernel) (by decide +kernel)
theorem kw_1053 : Cond.methodLink "LampMural" 324 ⟨"LampMural$CommandText", "number", "(I)I"⟩ ∈ WS := mW 1053 (by decide +kernel) (by decide +kernel)
theorem kw_1054 : Cond.instanceMethod ⟨"LampMural$CommandText", "number", "(I)I"⟩ ∈ WS := mW 1054 (by decide +kernel) (by decide +kernel)
theorem kw_1055 : Cond.selects "LampMural$CommandText" ⟨"LampMural$CommandText", "number", "(I)I"⟩ ⟨"LampMural$CommandText", "number", "(I)I"⟩ ∈ WS := mW 1055 (by decide +kernel) (by decide +kernel)
theorem kw_1056 : Cond.code ⟨"LampMural$CommandText", "number", "(I)I"⟩ prog_2_method_7_code 2 (some FieldType.int) ∈ WS := mW 1056 (by decide +kernel) (by decide +kernel)
theorem kw_1057 : Cond.methodLink "LampMural" 327 ⟨"LampMural", "faultOfCommand", "(IIIII)I"⟩ ∈ WS := mW 1057 (by decide +kernel) (by decide +kernel)
theorem kw_1059 : Cond.instanceMethod ⟨"LampMural", "faultOfCommand", "(IIIII)I"⟩ ∈ WS := mW 1059 (by decide +kernel) (by decide +kernel)
theorem kw_1060 : Cond.code ⟨"LampMural", "faultOfCommand", "(IIIII)I"⟩ prog_1_method_36_code 6 (some FieldType.int) ∈ WS := mW 1060 (by decide +kernel) (by decide +kernel)
theorem kw_1104 : Cond.instanceMethod ⟨"LampMural", "clearCommands", "()I"⟩ ∈ WS := mW 1104 (by decide +kernel) (by decide +kernel)
theorem kw_1105 : Cond.selects "LampMural" ⟨"LampMural", "clearCommands", "()I"⟩ ⟨"LampMural", "clearCommands", "()I"⟩ ∈ WS := mW 1105 (by decide +kernel) (by decide +kernel)
theorem kw_1106 : Cond.code ⟨"LampMural", "clearCommands", "()I"⟩ prog_1_method_24_code 1 (some FieldType.int) ∈ WS := mW 1106 (by decide +kernel) (by decide +kernel)
theorem kw_1107 : Cond.methodLink "LampMural" 225 ⟨"LampMural$CommandText", "empty", "()I"⟩ ∈ WS := mW 1107 (by decide +kernel) (by decide +kernel)
theorem kw_1108 : Cond.instanceMethod ⟨"LampMural$CommandText", "empty", "()I"⟩ ∈ WS := mW 1108 (by decide +kernel) (by decide +kernel)
theorem kw_1109 : Cond.selects "LampMural$CommandText" ⟨"LampMural$CommandText", "empty", "()I"⟩ ⟨"LampMural$CommandText", "empty", "()I"⟩ ∈ WS := mW 1109 (by decide +kernel) (by decide +kernel)
theorem kw_1110 : Cond.code ⟨"LampMural$CommandText", "empty", "()I"⟩ prog_2_method_3_code 2 (some FieldType.int) ∈ WS := mW 1110 (by decide +kernel) (by decide +kernel)
theorem kw_1115 : Cond.instanceMethod ⟨"LampMural", "dearestLamp", "()I"⟩ ∈ WS := mW 1115 (by decide +kernel) (by decide +kernel)
theorem kw_1116 : Cond.selects "LampMural" ⟨"LampMural", "dearestLamp", "()I"⟩ ⟨"LampMural", "dearestLamp", "()I"⟩ ∈ WS := mW 1116 (by decide +kernel) (by decide +kernel)
theorem kw_1117 : Cond.code ⟨"LampMural", "dearestLamp", "()I"⟩ prog_1_method_19_code 5 (some FieldType.int) ∈ WS := mW 1117 (by decide +kernel) (by decide +kernel)
theorem kw_1120 : Cond.fieldLink "java/lang/String" 9 "java/lang/String" "value" "[B" ∈ WS := mW 1120 (by decide +kernel) (by decide +kernel)
theorem kw_1121 : Cond.fieldLink "java/lang/String" 15 "java/lang/String" "coder" "B" ∈ WS := mW 1121 (by decide +kernel) (by decide +kernel)
abbrev mX0_append : MD := (RX0, yX0_append, cX0_append, 2, (some FieldType.int), { frames := 1, cells := 0, slots := 0, locals := 22 })
theorem wm_X0_append : WMV mX0_append := ⟨⟨kw_36, kw_923, by decide +kernel, by decide +kernel⟩, kw_921, kw_922⟩
abbrev mX0_empty : MD := (RX0, yX0_empty, cX0_empty, 2, (some FieldType.int), { frames := 1, cells := 0, slots := 0, locals := 21 })
theorem wm_X0_empty : WMV mX0_empty := ⟨⟨kw_36, kw_1110, by decide +kernel, by decide +kernel⟩, kw_1108, kw_1109⟩
abbrev mX0_rewind : MD := (RX0, yX0_rewind, cX0_rewind, 1, none, { frames := 0, cells := 0, slots := 0, locals := 0 })
theorem wm_X0_rewind : WMV mX0_rewind := ⟨⟨kw_36, kw_953, by decide +kernel, by decide +kernel⟩, kw_951, kw_952⟩
abbrev mX0_findFault : MD := (RX0, yX0_findFault, cX0_findFault, 2, (some FieldType.int), { frames := 9, cells := 0, slots := 0, locals := 194 })
theorem wm_X0_findFault : WMV mX0_findFault := ⟨⟨kw_36, kw_949, by decide +kernel, by decide +kernel⟩, kw_947, kw_948⟩
abbrev mX0_readCommand : MD := (RX0, yX0_readCommand, cX0_readCommand, 2, (some FieldType.boolean), { frames := 8, cells := 0, slots := 0, locals := 173 })
theorem wm_X0_readCommand : WMV mX0_readCommand := ⟨⟨kw_36, kw_957, by decide +kernel, by decide +kernel⟩, kw_955, kw_956⟩
abbrev mX0_number : MD := (RX0, yX0_number, cX0_number, 2, (some FieldType.int), { frames := 1, cells := 0, slots := 0, locals := 21 })
theorem wm_X0_number : WMV mX0_number := ⟨⟨kw_36, kw_1056, by decide +kernel, by decide +kernel⟩, kw_1054, kw_1055⟩
abbrev mX0_readWord : MD := (RX0, yX0_readWord, cX0_readWord, 2, (some FieldType.boolean), { frames := 7, cells := 0, slots := 0, locals := 152 })
theorem wm_X0_readWord : WMV mX0_readWord := ⟨⟨kw_36, kw_966, by decide +kernel, by decide +kernel⟩, kw_965, kw_22⟩
abbrev mX0_readNumber : MD := (RX0, yX0_readNumber, cX0_readNumber, 5, (some FieldType.boolean), { frames := 2, cells := 0, slots := 0, locals := 42 })
theorem wm_X0_readNumber : WMV mX0_readNumber := ⟨⟨kw_36, kw_1043, by decide +kernel, by decide +kernel⟩, kw_1042, kw_26⟩
abbrev mX0_skipSpaces : MD := (RX0, yX0_skipSpaces, cX0_skipSpaces, 1, none, { frames := 1, cells := 0, slots := 0, locals := 21 })
theorem wm_X0_skipSpaces : WMV mX0_skipSpaces := ⟨⟨kw_36, kw_961, by decide +kernel, by decide +kernel⟩, kw_960, kw_21⟩
abbrev mX0_failAt : MD := (RX0, yX0_failAt, cX0_failAt, 2, (some FieldType.boolean), { frames := 0, cells := 0, slots := 0, locals := 0 })
theorem wm_X0_failAt : WMV mX0_failAt := ⟨⟨kw_36, kw_1035, by decide +kernel, by decide +kernel⟩, kw_1034, kw_25⟩
abbrev mX0_isDigit : MD := (RX0, yX0_isDigit, cX0_isDigit, 1, (some FieldType.boolean), { frames := 1, cells := 0, slots := 0, locals := 22 })
theorem wm_X0_isDigit : WMS mX0_isDigit := ⟨⟨kw_36, kw_1046, by decide +kernel, by decide +kernel⟩, kw_1045⟩
abbrev mX0_wordBetween : MD := (RX0, yX0_wordBetween, cX0_wordBetween, 3, (some FieldType.int), { frames := 6, cells := 0, slots := 0, locals := 130 })
theorem wm_X0_wordBetween : WMV mX0_wordBetween := ⟨⟨kw_36, kw_971, by decide +kernel, by decide +kernel⟩, kw_970, kw_23⟩
abbrev mX0_isWord : MD := (RX0, yX0_isWord, cX0_isWord, 5, (some FieldType.boolean), { frames := 5, cells := 0, slots := 0, locals := 106 })
theorem wm_X0_isWord : WMV mX0_isWord := ⟨⟨kw_36, kw_976, by decide +kernel, by decide +kernel⟩, kw_975, kw_24⟩
abbrev mX0_numbersOf : MD := (RX0, yX0_numbersOf, cX0_numbersOf, 1, (some FieldType.int), { frames := 0, cells := 0, slots := 0, locals := 0 })
theorem wm_X0_numbersOf : WMS mX0_numbersOf := ⟨⟨kw_36, kw_1039, by decide +kernel, by decide +kernel⟩, kw_1038⟩
abbrev mX1_prepare : MD := (RX1, yX1_prepare, cX1_prepare, 4, none, { frames := 3, cells := 0, slots := 0, locals := 63 })
theorem wm_X1_prepare : WMV mX1_prepare := ⟨⟨kw_34, kw_528, by decide +kernel, by decide +kernel⟩, kw_526, kw_527⟩
abbrev mX1_countWrong : MD := (RX1, yX1_countWrong, cX1_countWrong, 9, (some FieldType.int), { frames := 4, cells := 0, slots := 0, locals := 86 })
theorem wm_X1_countWrong : WMV mX1_countWrong := ⟨⟨kw_34, kw_882, by decide +kernel, by decide +kernel⟩, kw_880, kw_881⟩
abbrev mX1_dimPoint : MD := (RX1, yX1_dimPoint, cX1_dimPoint, 7, none, { frames := 2, cells := 0, slots := 0, locals := 55 })
theorem wm_X1_dimPoint : WMV mX1_dimPoint := ⟨⟨kw_34, kw_550, by decide +kernel, by decide +kernel⟩, kw_548, kw_549⟩
abbrev mX1_shareOut : MD := (RX1, yX1_shareOut, cX1_shareOut, 7, none, { frames := 1, cells := 0, slots := 0, locals := 22 })
theorem wm_X1_shareOut : WMV mX1_shareOut := ⟨⟨kw_34, kw_564, by decide +kernel, by decide +kernel⟩, kw_563, kw_6⟩
abbrev mX1_keepToLimits : MD := (RX1, yX1_keepToLimits, cX1_keepToLimits, 2, none, { frames := 1, cells := 0, slots := 0, locals := 22 })
theorem wm_X1_keepToLimits : WMV mX1_keepToLimits := ⟨⟨kw_34, kw_569, by decide +kernel, by decide +kernel⟩, kw_568, kw_7⟩
abbrev mX1_balance : MD := (RX1, yX1_balance, cX1_balance, 6, none, { frames := 1, cells := 0, slots := 0, locals := 22 })
theorem wm_X1_balance : WMV mX1_balance := ⟨⟨kw_34, kw_577, by decide +kernel, by decide +kernel⟩, kw_576, kw_8⟩
abbrev mX1_stateFor : MD := (RX1, yX1_stateFor, cX1_stateFor, 2, (some FieldType.int), { frames := 0, cells := 0, slots := 0, locals := 0 })
theorem wm_X1_stateFor : WMV mX1_stateFor := ⟨⟨kw_34, kw_581, by decide +kernel, by decide +kernel⟩, kw_580, kw_9⟩
abbrev mX2_save : MD := (RX2, yX2_save, cX2_save, 3, none, { frames := 2, cells := 0, slots := 0, locals := 43 })
theorem wm_X2_save : WMV mX2_save := ⟨⟨kw_35, kw_360, by decide +kernel, by decide +kernel⟩, kw_358, kw_359⟩
abbrev mX2_restore : MD := (RX2, yX2_restore, cX2_restore, 2, none, { frames := 2, cells := 0, slots := 0, locals := 43 })
theorem wm_X2_restore : WMV mX2_restore := ⟨⟨kw_35, kw_750, by decide +kernel, by decide +kernel⟩, kw_748, kw_749⟩
abbrev mX2_latestSlot : MD := (RX2, yX2_latestSlot, cX2_latestSlot, 1, (some (FieldType.object "LampMural$Scene")), { frames := 0, cells := 0, slots := 0, locals := 0 })
theorem wm_X2_latestSlot : WMV mX2_latestSlot := ⟨⟨kw_35, kw_364, by decide +kernel, by decide +kernel⟩, kw_363, kw_1⟩
abbrev mX3_get : MD := (RX3, yX3_get, cX3_get, 2, (some FieldType.int), { frames := 0, cells := 0, slots := 0, locals := 0 })
theorem wm_X3_get : WMV mX3_get := ⟨⟨kw_32, kw_434, by decide +kernel, by decide +kernel⟩, kw_432, kw_433⟩
abbrev mX3_set : MD := (RX3, yX3_set, cX3_set, 3, none, { frames := 0, cells := 0, slots := 0, locals := 0 })
theorem wm_X3_set : WMV mX3_set := ⟨⟨kw_32, kw_438, by decide +kernel, by decide +kernel⟩, kw_436, kw_437⟩
abbrev mX3_clear : MD := (RX3, yX3_clear, cX3_clear, 2, none, { frames := 0, cells := 0, slots := 0, locals := 0 })
theorem wm_X3_clear : WMV mX3_clear := ⟨⟨kw_32, kw_387, by decide +kernel, by decide +kernel⟩, kw_385, kw_386⟩
abbrev mX3_copyFrom : MD := (RX3, yX3_copyFrom, cX3_copyFrom, 3, none, { frames := 0, cells := 0, slots := 0, locals := 0 })
theorem wm_X3_copyFrom : WMV mX3_copyFrom := ⟨⟨kw_32, kw_372, by decide +kernel, by decide +kernel⟩, kw_370, kw_371⟩
abbrev mX4_copyFrom : MD := (RX4, yX4_copyFrom, cX4_copyFrom, 2, none, { frames := 1, cells := 0, slots := 0, locals := 22 })
theorem wm_X4_copyFrom : WMV mX4_copyFrom := ⟨⟨kw_31, kw_368, by decide +kernel, by decide +kernel⟩, kw_366, kw_367⟩
abbrev mX4_startWall : MD := (RX4, yX4_startWall, cX4_startWall, 3, none, { frames := 1, cells := 0, slots := 0, locals := 21 })
theorem wm_X4_startWall : WMV mX4_startWall := ⟨⟨kw_31, kw_383, by decide +kernel, by decide +kernel⟩, kw_381, kw_382⟩
abbrev mX4_setTargets : MD := (RX4, yX4_setTargets, cX4_setTargets, 10, (some FieldType.int), { frames := 1, cells := 0, slots := 0, locals := 22 })
theorem wm_X4_setTargets : WMV mX4_setTargets := ⟨⟨kw_31, kw_426, by decide +kernel, by decide +kernel⟩, kw_424, kw_425⟩
abbrev mX4_hangLamp : MD := (RX4, yX4_hangLamp, cX4_hangLamp, 5, (some FieldType.int), { frames := 2, cells := 0, slots := 0, locals := 46 })
theorem wm_X4_hangLamp : WMV mX4_hangLamp := ⟨⟨kw_31, kw_473, by decide +kernel, by decide +kernel⟩, kw_471, kw_472⟩
abbrev mX4_moveCorner : MD := (RX4, yX4_moveCorner, cX4_moveCorner, 5, none, { frames := 1, cells := 0, slots := 0, locals := 22 })
theorem wm_X4_moveCorner : WMV mX4_moveCorner := ⟨⟨kw_31, kw_477, by decide +kernel, by decide +kernel⟩, kw_475, kw_476⟩
abbrev mX4_setLampValue : MD := (RX4, yX4_setLampValue, cX4_setLampValue, 4, none, { frames := 1, cells := 0, slots := 0, locals := 22 })
theorem wm_X4_setLampValue : WMV mX4_setLampValue := ⟨⟨kw_31, kw_638, by decide +kernel, by decide +kernel⟩, kw_636, kw_637⟩
abbrev mX4_switchLamp : MD := (RX4, yX4_switchLamp, cX4_switchLamp, 3, none, { frames := 1, cells := 0, slots := 0, locals := 22 })
theorem wm_X4_switchLamp : WMV mX4_switchLamp := ⟨⟨kw_31, kw_653, by decide +kernel, by decide +kernel⟩, kw_651, kw_652⟩
abbrev mX4_moveWall : MD := (RX4, yX4_moveWall, cX4_moveWall, 3, none, { frames := 0, cells := 0, slots := 0, locals := 0 })
theorem wm_X4_moveWall : WMV mX4_moveWall := ⟨⟨kw_31, kw_667, by decide +kernel, by decide +kernel⟩, kw_665, kw_666⟩
abbrev mX4_wearOut : MD := (RX4, yX4_wearOut, cX4_wearOut, 3, none, { frames := 1, cells := 0, slots := 0, locals := 22 })
theorem wm_X4_wearOut : WMV mX4_wearOut := ⟨⟨kw_31, kw_696, by decide +kernel, by decide +kernel⟩, kw_694, kw_695⟩
abbrev mX4_countHours : MD := (RX4, yX4_countHours, cX4_countHours, 2, none, { frames := 0, cells := 0, slots := 0, locals := 0 })
theorem wm_X4_countHours : WMV mX4_countHours := ⟨⟨kw_31, kw_700, by decide +kernel, by decide +kernel⟩, kw_698, kw_699⟩
abbrev mX4_hasPlace : MD := (RX4, yX4_hasPlace, cX4_hasPlace, 3, (some FieldType.boolean), { frames := 0, cells := 0, slots := 0, locals := 0 })
theorem wm_X4_hasPlace : WMV mX4_hasPlace := ⟨⟨kw_31, kw_403, by decide +kernel, by decide +kernel⟩, kw_401, kw_402⟩
abbrev mX4_hasLamp : MD := (RX4, yX4_hasLamp, cX4_hasLamp, 2, (some FieldType.boolean), { frames := 0, cells := 0, slots := 0, locals := 0 })
theorem wm_X4_hasLamp : WMV mX4_hasLamp := ⟨⟨kw_31, kw_492, by decide +kernel, by decide +kernel⟩, kw_490, kw_491⟩
abbrev mX4_placeCount : MD := (RX4, yX4_placeCount, cX4_placeCount, 1, (some FieldType.int), { frames := 0, cells := 0, slots := 0, locals := 0 })
theorem wm_X4_placeCount : WMV mX4_placeCount := ⟨⟨kw_31, kw_379, by decide +kernel, by decide +kernel⟩, kw_377, kw_378⟩
abbrev mX4_indexOfPlace : MD := (RX4, yX4_indexOfPlace, cX4_indexOfPlace, 3, (some FieldType.int), { frames := 0, cells := 0, slots := 0, locals := 0 })
theorem wm_X4_indexOfPlace : WMV mX4_indexOfPlace := ⟨⟨kw_31, kw_430, by decide +kernel, by decide +kernel⟩, kw_428, kw_429⟩
abbrev mX4_targetAt : MD := (RX4, yX4_targetAt, cX4_targetAt, 2, (some FieldType.int), { frames := 1, cells := 0, slots := 0, locals := 21 })
theorem wm_X4_targetAt : WMV mX4_targetAt := ⟨⟨kw_31, kw_546, by decide +kernel, by decide +kernel⟩, kw_544, kw_545⟩
abbrev mX4_sumOfTargets : MD := (RX4, yX4_sumOfTargets, cX4_sumOfTargets, 3, (some FieldType.int), { frames := 1, cells := 0, slots := 0, locals := 21 })
theorem wm_X4_sumOfTargets : WMV mX4_sumOfTargets := ⟨⟨kw_31, kw_725, by decide +kernel, by decide +kernel⟩, kw_723, kw_724⟩
abbrev mX4_cornerValue : MD := (RX4, yX4_cornerValue, cX4_cornerValue, 4, (some FieldType.int), { frames := 1, cells := 0, slots := 0, locals := 21 })
theorem wm_X4_cornerValue : WMV mX4_cornerValue := ⟨⟨kw_31, kw_779, by decide +kernel, by decide +kernel⟩, kw_777, kw_778⟩
abbrev mX4_isWorking : MD := (RX4, yX4_isWorking, cX4_isWorking, 2, (some FieldType.boolean), { frames := 1, cells := 0, slots := 0, locals := 21 })
theorem wm_X4_isWorking : WMV mX4_isWorking := ⟨⟨kw_31, kw_523, by decide +kernel, by decide +kernel⟩, kw_521, kw_522⟩
abbrev mX4_workingLamps : MD := (RX4, yX4_workingLamps, cX4_workingLamps, 3, (some FieldType.int), { frames := 1, cells := 0, slots := 0, locals := 21 })
theorem wm_X4_workingLamps : WMV mX4_workingLamps := ⟨⟨kw_31, kw_720, by decide +kernel, by decide +kernel⟩, kw_718, kw_719⟩
abbrev mX4_greatestWear : MD := (RX4, yX4_greatestWear, cX4_greatestWear, 3, (some FieldType.int), { frames := 1, cells := 0, slots := 0, locals := 21 })
theorem wm_X4_greatestWear : WMV mX4_greatestWear := ⟨⟨kw_31, kw_704, by decide +kernel, by decide +kernel⟩, kw_702, kw_703⟩
abbrev mX4_limitOf : MD := (RX4, yX4_limitOf, cX4_limitOf, 2, (some FieldType.int), { frames := 1, cells := 0, slots := 0, locals := 21 })
theorem wm_X4_limitOf : WMV mX4_limitOf := ⟨⟨kw_31, kw_532, by decide +kernel, by decide +kernel⟩, kw_530, kw_531⟩
abbrev mX4_floorOf : MD := (RX4, yX4_floorOf, cX4_floorOf, 2, (some FieldType.int), { frames := 2, cells := 0, slots := 0, locals := 42 })
theorem wm_X4_floorOf : WMV mX4_floorOf := ⟨⟨kw_31, kw_537, by decide +kernel, by decide +kernel⟩, kw_535, kw_536⟩
abbrev mX4_sumOfLimits : MD := (RX4, yX4_sumOfLimits, cX4_sumOfLimits, 4, (some FieldType.int), { frames := 2, cells := 0, slots := 0, locals := 42 })
theorem wm_X4_sumOfLimits : WMV mX4_sumOfLimits := ⟨⟨kw_31, kw_815, by decide +kernel, by decide +kernel⟩, kw_813, kw_814⟩
abbrev mX4_sumOfFloors : MD := (RX4, yX4_sumOfFloors, cX4_sumOfFloors, 4, (some FieldType.int), { frames := 3, cells := 0, slots := 0, locals := 63 })
theorem wm_X4_sumOfFloors : WMV mX4_sumOfFloors := ⟨⟨kw_31, kw_820, by decide +kernel, by decide +kernel⟩, kw_818, kw_819⟩
abbrev mX4_isGood : MD := (RX4, yX4_isGood, cX4_isGood, 10, (some FieldType.boolean), { frames := 1, cells := 0, slots := 0, locals := 23 })
theorem wm_X4_isGood : WMV mX4_isGood := ⟨⟨kw_31, kw_497, by decide +kernel, by decide +kernel⟩, kw_495, kw_496⟩
abbrev mX4_shiningLamps : MD := (RX4, yX4_shiningLamps, cX4_shiningLamps, 3, (some FieldType.int), { frames := 2, cells := 0, slots := 0, locals := 52 })
theorem wm_X4_shiningLamps : WMV mX4_shiningLamps := ⟨⟨kw_31, kw_519, by decide +kernel, by decide +kernel⟩, kw_517, kw_518⟩
abbrev mX4_weightAt : MD := (RX4, yX4_weightAt, cX4_weightAt, 13, (some FieldType.int), { frames := 1, cells := 0, slots := 0, locals := 23 })
theorem wm_X4_weightAt : WMV mX4_weightAt := ⟨⟨kw_31, kw_557, by decide +kernel, by decide +kernel⟩, kw_555, kw_556⟩
abbrev mX5_refresh : MD := (RX5, yX5_refresh, cX5_refresh, 4, none, { frames := 4, cells := 0, slots := 0, locals := 86 })
theorem wm_X5_refresh : WMV mX5_refresh := ⟨⟨kw_33, kw_515, by decide +kernel, by decide +kernel⟩, kw_513, kw_514⟩
abbrev mX5_keepPlace : MD := (RX5, yX5_keepPlace, cX5_keepPlace, 2, none, { frames := 1, cells := 0, slots := 0, locals := 22 })
theorem wm_X5_keepPlace : WMV mX5_keepPlace := ⟨⟨kw_33, kw_585, by decide +kernel, by decide +kernel⟩, kw_584, kw_10⟩
abbrev mX5_coveringAt : MD := (RX5, yX5_coveringAt, cX5_coveringAt, 2, (some FieldType.int), { frames := 1, cells := 0, slots := 0, locals := 21 })
theorem wm_X5_coveringAt : WMV mX5_coveringAt := ⟨⟨kw_33, kw_811, by decide +kernel, by decide +kernel⟩, kw_809, kw_810⟩
abbrev mX5_brightnessAt : MD := (RX5, yX5_brightnessAt, cX5_brightnessAt, 2, (some FieldType.int), { frames := 1, cells := 0, slots := 0, locals := 21 })
theorem wm_X5_brightnessAt : WMV mX5_brightnessAt := ⟨⟨kw_33, kw_803, by decide +kernel, by decide +kernel⟩, kw_801, kw_802⟩
abbrev mX5_stateAt : MD := (RX5, yX5_stateAt, cX5_stateAt, 2, (some FieldType.int), { frames := 1, cells := 0, slots := 0, locals := 21 })
theorem wm_X5_stateAt : WMV mX5_stateAt := ⟨⟨kw_33, kw_807, by decide +kernel, by decide +kernel⟩, kw_805, kw_806⟩
abbrev mX5_isCovered : MD := (RX5, yX5_isCovered, cX5_isCovered, 3, (some FieldType.boolean), { frames := 1, cells := 0, slots := 0, locals := 21 })
theorem wm_X5_isCovered : WMV mX5_isCovered := ⟨⟨kw_33, kw_595, by decide +kernel, by decide +kernel⟩, kw_593, kw_594⟩
abbrev mX5_lightOf : MD := (RX5, yX5_lightOf, cX5_lightOf, 3, (some FieldType.int), { frames := 2, cells := 0, slots := 0, locals := 43 })
theorem wm_X5_lightOf : WMV mX5_lightOf := ⟨⟨kw_33, kw_832, by decide +kernel, by decide +kernel⟩, kw_830, kw_831⟩
abbrev mX5_placesOf : MD := (RX5, yX5_placesOf, cX5_placesOf, 4, (some FieldType.int), { frames := 2, cells := 0, slots := 0, locals := 43 })
theorem wm_X5_placesOf : WMV mX5_placesOf := ⟨⟨kw_33, kw_591, by decide +kernel, by decide +kernel⟩, kw_589, kw_590⟩
abbrev mX5_placesOnlyOf : MD := (RX5, yX5_placesOnlyOf, cX5_placesOnlyOf, 4, (some FieldType.int), { frames := 1, cells := 0, slots := 0, locals := 21 })
theorem wm_X5_placesOnlyOf : WMV mX5_placesOnlyOf := ⟨⟨kw_33, kw_634, by decide +kernel, by decide +kernel⟩, kw_632, kw_633⟩
abbrev mX5_placesOfSeveral : MD := (RX5, yX5_placesOfSeveral, cX5_placesOfSeveral, 3, (some FieldType.int), { frames := 1, cells := 0, slots := 0, locals := 21 })
theorem wm_X5_placesOfSeveral : WMV mX5_placesOfSeveral := ⟨⟨kw_33, kw_733, by decide +kernel, by decide +kernel⟩, kw_731, kw_732⟩
abbrev mX5_placesInState : MD := (RX5, yX5_placesInState, cX5_placesInState, 4, (some FieldType.int), { frames := 1, cells := 0, slots := 0, locals := 21 })
theorem wm_X5_placesInState : WMV mX5_placesInState := ⟨⟨kw_33, kw_675, by decide +kernel, by decide +kernel⟩, kw_673, kw_674⟩
abbrev mX5_wrongPlaces : MD := (RX5, yX5_wrongPlaces, cX5_wrongPlaces, 1, (some FieldType.int), { frames := 2, cells := 0, slots := 0, locals := 44 })
theorem wm_X5_wrongPlaces : WMV mX5_wrongPlaces := ⟨⟨kw_33, kw_671, by decide +kernel, by decide +kernel⟩, kw_669, kw_670⟩
abbrev mX5_sumOfBrightness : MD := (RX5, yX5_sumOfBrightness, cX5_sumOfBrightness, 3, (some FieldType.int), { frames := 1, cells := 0, slots := 0, locals := 21 })
theorem wm_X5_sumOfBrightness : WMV mX5_sumOfBrightness := ⟨⟨kw_33, kw_729, by decide +kernel, by decide +kernel⟩, kw_727, kw_728⟩
abbrev mX5_sumOfLights : MD := (RX5, yX5_sumOfLights, cX5_sumOfLights, 4, (some FieldType.int), { frames := 2, cells := 0, slots := 0, locals := 43 })
theorem wm_X5_sumOfLights : WMV mX5_sumOfLights := ⟨⟨kw_33, kw_619, by decide +kernel, by decide +kernel⟩, kw_617, kw_618⟩
abbrev mX5_greatestLightOf : MD := (RX5, yX5_greatestLightOf, cX5_greatestLightOf, 4, (some FieldType.int), { frames := 2, cells := 0, slots := 0, locals := 43 })
theorem wm_X5_greatestLightOf : WMV mX5_greatestLightOf := ⟨⟨kw_33, kw_629, by decide +kernel, by decide +kernel⟩, kw_627, kw_628⟩
abbrev mX5_loadOf : MD := (RX5, yX5_loadOf, cX5_loadOf, 4, (some FieldType.int), { frames := 3, cells := 0, slots := 0, locals := 66 })
theorem wm_X5_loadOf : WMV mX5_loadOf := ⟨⟨kw_33, kw_623, by decide +kernel, by decide +kernel⟩, kw_621, kw_622⟩
abbrev mX6_begin : MD := (RX6, yX6_begin, cX6_begin, 4, (some FieldType.int), { frames := 3, cells := 0, slots := 0, locals := 65 })
theorem wm_X6_begin : WMV mX6_begin := ⟨⟨kw_30, kw_279, by decide +kernel, by decide +kernel⟩, kw_277, kw_278⟩
abbrev mX6_paint : MD := (RX6, yX6_paint, cX6_paint, 7, (some FieldType.int), { frames := 3, cells := 0, slots := 0, locals := 65 })
theorem wm_X6_paint : WMV mX6_paint := ⟨⟨kw_30, kw_395, by decide +kernel, by decide +kernel⟩, kw_393, kw_394⟩
abbrev mX6_addLamp : MD := (RX6, yX6_addLamp, cX6_addLamp, 4, (some FieldType.int), { frames := 3, cells := 0, slots := 0, locals := 70 })
theorem wm_X6_addLamp : WMV mX6_addLamp := ⟨⟨kw_30, kw_446, by decide +kernel, by decide +kernel⟩, kw_444, kw_445⟩
abbrev mX6_setCorner : MD := (RX6, yX6_setCorner, cX6_setCorner, 6, (some FieldType.int), { frames := 3, cells := 0, slots := 0, locals := 65 })
theorem wm_X6_setCorner : WMV mX6_setCorner := ⟨⟨kw_30, kw_484, by decide +kernel, by decide +kernel⟩, kw_482, kw_483⟩
abbrev mX6_setRectangle : MD := (RX6, yX6_setRectangle, cX6_setRectangle, 7, (some FieldType.int), { frames := 5, cells := 0, slots := 0, locals := 109 })
theorem wm_X6_setRectangle : WMV mX6_setRectangle := ⟨⟨kw_30, kw_507, by decide +kernel, by decide +kernel⟩, kw_505, kw_506⟩
abbrev mX6_setLamp : MD := (RX6, yX6_setLamp, cX6_setLamp, 6, (some FieldType.int), { frames := 6, cells := 0, slots := 0, locals := 131 })
theorem wm_X6_setLamp : WMV mX6_setLamp := ⟨⟨kw_30, kw_603, by decide +kernel, by decide +kernel⟩, kw_601, kw_602⟩
abbrev mX6_setWorks : MD := (RX6, yX6_setWorks, cX6_setWorks, 4, (some FieldType.int), { frames := 3, cells := 0, slots := 0, locals := 65 })
theorem wm_X6_setWorks : WMV mX6_setWorks := ⟨⟨kw_30, kw_645, by decide +kernel, by decide +kernel⟩, kw_643, kw_644⟩
abbrev mX6_shift : MD := (RX6, yX6_shift, cX6_shift, 3, (some FieldType.int), { frames := 5, cells := 0, slots := 0, locals := 109 })
theorem wm_X6_shift : WMV mX6_shift := ⟨⟨kw_30, kw_660, by decide +kernel, by decide +kernel⟩, kw_658, kw_659⟩
abbrev mX6_burn : MD := (RX6, yX6_burn, cX6_burn, 2, (some FieldType.int), { frames := 6, cells := 0, slots := 0, locals := 131 })
theorem wm_X6_burn : WMV mX6_burn := ⟨⟨kw_30, kw_682, by decide +kernel, by decide +kernel⟩, kw_680, kw_681⟩
abbrev mX6_place : MD := (RX6, yX6_place, cX6_place, 4, (some FieldType.int), { frames := 6, cells := 0, slots := 0, locals := 131 })
theorem wm_X6_place : WMV mX6_place := ⟨⟨kw_30, kw_789, by decide +kernel, by decide +kernel⟩, kw_787, kw_788⟩
abbrev mX6_light : MD := (RX6, yX6_light, cX6_light, 4, (some FieldType.int), { frames := 5, cells := 0, slots := 0, locals := 109 })
theorem wm_X6_light : WMV mX6_light := ⟨⟨kw_30, kw_828, by decide +kernel, by decide +kernel⟩, kw_826, kw_827⟩
abbrev mX6_weight : MD := (RX6, yX6_weight, cX6_weight, 4, (some FieldType.int), { frames := 5, cells := 0, slots := 0, locals := 109 })
theorem wm_X6_weight : WMV mX6_weight := ⟨⟨kw_30, kw_863, by decide +kernel, by decide +kernel⟩, kw_861, kw_862⟩
abbrev mX6_lamp : MD := (RX6, yX6_lamp, cX6_lamp, 3, (some FieldType.int), { frames := 6, cells := 0, slots := 0, locals := 131 })
theorem wm_X6_lamp : WMV mX6_lamp := ⟨⟨kw_30, kw_768, by decide +kernel, by decide +kernel⟩, kw_766, kw_767⟩
abbrev mX6_corner : MD := (RX6, yX6_corner, cX6_corner, 4, (some FieldType.int), { frames := 2, cells := 0, slots := 0, locals := 44 })
theorem wm_X6_corner : WMV mX6_corner := ⟨⟨kw_30, kw_775, by decide +kernel, by decide +kernel⟩, kw_773, kw_774⟩
abbrev mX6_whole : MD := (RX6, yX6_whole, cX6_whole, 2, (some FieldType.int), { frames := 6, cells := 0, slots := 0, locals := 130 })
theorem wm_X6_whole : WMV mX6_whole := ⟨⟨kw_30, kw_712, by decide +kernel, by decide +kernel⟩, kw_710, kw_711⟩
abbrev mX6_wrong : MD := (RX6, yX6_wrong, cX6_wrong, 5, (some FieldType.int), { frames := 5, cells := 0, slots := 0, locals := 109 })
theorem wm_X6_wrong : WMV mX6_wrong := ⟨⟨kw_30, kw_931, by decide +kernel, by decide +kernel⟩, kw_929, kw_930⟩
abbrev mX6_wrongWithout : MD := (RX6, yX6_wrongWithout, cX6_wrongWithout, 2, (some FieldType.int), { frames := 6, cells := 0, slots := 0, locals := 136 })
theorem wm_X6_wrongWithout : WMV mX6_wrongWithout := ⟨⟨kw_30, kw_873, by decide +kernel, by decide +kernel⟩, kw_871, kw_872⟩
abbrev mX6_dearestLamp : MD := (RX6, yX6_dearestLamp, cX6_dearestLamp, 5, (some FieldType.int), { frames := 6, cells := 0, slots := 0, locals := 136 })
theorem wm_X6_dearestLamp : WMV mX6_dearestLamp := ⟨⟨kw_30, kw_1117, by decide +kernel, by decide +kernel⟩, kw_1115, kw_1116⟩
abbrev mX6_wrongShifted : MD := (RX6, yX6_wrongShifted, cX6_wrongShifted, 3, (some FieldType.int), { frames := 5, cells := 0, slots := 0, locals := 114 })
theorem wm_X6_wrongShifted : WMV mX6_wrongShifted := ⟨⟨kw_30, kw_905, by decide +kernel, by decide +kernel⟩, kw_903, kw_904⟩
abbrev mX6_bestShift : MD := (RX6, yX6_bestShift, cX6_bestShift, 8, (some FieldType.int), { frames := 5, cells := 0, slots := 0, locals := 114 })
theorem wm_X6_bestShift : WMV mX6_bestShift := ⟨⟨kw_30, kw_912, by decide +kernel, by decide +kernel⟩, kw_910, kw_911⟩
abbrev mX6_neededLimit : MD := (RX6, yX6_neededLimit, cX6_neededLimit, 5, (some FieldType.int), { frames := 5, cells := 0, slots := 0, locals := 109 })
theorem wm_X6_neededLimit : WMV mX6_neededLimit := ⟨⟨kw_30, kw_894, by decide +kernel, by decide +kernel⟩, kw_892, kw_893⟩
abbrev mX6_type : MD := (RX6, yX6_type, cX6_type, 2, (some FieldType.int), { frames := 2, cells := 0, slots := 0, locals := 44 })
theorem wm_X6_type : WMV mX6_type := ⟨⟨kw_30, kw_919, by decide +kernel, by decide +kernel⟩, kw_917, kw_918⟩
abbrev mX6_clearCommands : MD := (RX6, yX6_clearCommands, cX6_clearCommands, 1, (some FieldType.int), { frames := 2, cells := 0, slots := 0, locals := 42 })
theorem wm_X6_clearCommands : WMV mX6_clearCommands := ⟨⟨kw_30, kw_1106, by decide +kernel, by decide +kernel⟩, kw_1104, kw_1105⟩
abbrev mX6_runCommands : MD := (RX6, yX6_runCommands, cX6_runCommands, 4, (some FieldType.int), { frames := 10, cells := 0, slots := 0, locals := 215 })
theorem wm_X6_runCommands : WMV mX6_runCommands := ⟨⟨kw_30, kw_945, by decide +kernel, by decide +kernel⟩, kw_943, kw_944⟩
abbrev mX6_undo : MD := (RX6, yX6_undo, cX6_undo, 1, (some FieldType.int), { frames := 3, cells := 0, slots := 0, locals := 64 })
theorem wm_X6_undo : WMV mX6_undo := ⟨⟨kw_30, kw_746, by decide +kernel, by decide +kernel⟩, kw_744, kw_745⟩
abbrev mX6_digest : MD := (RX6, yX6_digest, cX6_digest, 4, (some FieldType.long), { frames := 7, cells := 0, slots := 0, locals := 157 })
theorem wm_X6_digest : WMV mX6_digest := ⟨⟨kw_30, kw_840, by decide +kernel, by decide +kernel⟩, kw_838, kw_839⟩
abbrev mX6_addLampTo : MD := (RX6, yX6_addLampTo, cX6_addLampTo, 7, (some FieldType.long), { frames := 6, cells := 0, slots := 0, locals := 131 })
theorem wm_X6_addLampTo : WMV mX6_addLampTo := ⟨⟨kw_30, kw_846, by decide +kernel, by decide +kernel⟩, kw_845, kw_18⟩
abbrev mX6_addPlaceTo : MD := (RX6, yX6_addPlaceTo, cX6_addPlaceTo, 7, (some FieldType.long), { frames := 6, cells := 0, slots := 0, locals := 131 })
theorem wm_X6_addPlaceTo : WMV mX6_addPlaceTo := ⟨⟨kw_30, kw_850, by decide +kernel, by decide +kernel⟩, kw_849, kw_19⟩
abbrev mX6_placeValue : MD := (RX6, yX6_placeValue, cX6_placeValue, 3, (some FieldType.int), { frames := 5, cells := 0, slots := 0, locals := 109 })
theorem wm_X6_placeValue : WMV mX6_placeValue := ⟨⟨kw_30, kw_798, by decide +kernel, by decide +kernel⟩, kw_797, kw_17⟩
abbrev mX6_lampValue : MD := (RX6, yX6_lampValue, cX6_lampValue, 3, (some FieldType.int), { frames := 5, cells := 0, slots := 0, locals := 109 })
theorem wm_X6_lampValue : WMV mX6_lampValue := ⟨⟨kw_30, kw_611, by decide +kernel, by decide +kernel⟩, kw_610, kw_12⟩
abbrev mX6_wholeValue : MD := (RX6, yX6_wholeValue, cX6_wholeValue, 2, (some FieldType.int), { frames := 5, cells := 0, slots := 0, locals := 109 })
theorem wm_X6_wholeValue : WMV mX6_wholeValue := ⟨⟨kw_30, kw_716, by decide +kernel, by decide +kernel⟩, kw_715, kw_15⟩
abbrev mX6_wrongIfFailed : MD := (RX6, yX6_wrongIfFailed, cX6_wrongIfFailed, 3, (some FieldType.int), { frames := 5, cells := 0, slots := 0, locals := 114 })
theorem wm_X6_wrongIfFailed : WMV mX6_wrongIfFailed := ⟨⟨kw_30, kw_877, by decide +kernel, by decide +kernel⟩, kw_876, kw_20⟩
abbrev mX6_burnHours : MD := (RX6, yX6_burnHours, cX6_burnHours, 3, none, { frames := 5, cells := 0, slots := 0, locals := 109 })
theorem wm_X6_burnHours : WMV mX6_burnHours := ⟨⟨kw_30, kw_692, by decide +kernel, by decide +kernel⟩, kw_691, kw_14⟩
abbrev mX6_carryOut : MD := (RX6, yX6_carryOut, cX6_carryOut, 6, (some FieldType.boolean), { frames := 6, cells := 0, slots := 0, locals := 131 })
theorem wm_X6_carryOut : WMV mX6_carryOut := ⟨⟨kw_30, kw_1052, by decide +kernel, by decide +kernel⟩, kw_1051, kw_27⟩
abbrev mX6_faultOfCommand : MD := (RX6, yX6_faultOfCommand, cX6_faultOfCommand, 6, (some FieldType.int), { frames := 3, cells := 0, slots := 0, locals := 64 })
theorem wm_X6_faultOfCommand : WMV mX6_faultOfCommand := ⟨⟨kw_30, kw_1060, by decide +kernel, by decide +kernel⟩, kw_1059, kw_28⟩
abbrev mX6_faultOfWall : MD := (RX6, yX6_faultOfWall, cX6_faultOfWall, 2, (some FieldType.int), { frames := 1, cells := 0, slots := 0, locals := 22 })
theorem wm_X6_faultOfWall : WMS mX6_faultOfWall := ⟨⟨kw_30, kw_282, by decide +kernel, by decide +kernel⟩, kw_281⟩
abbrev mX6_faultOfPainting : MD := (RX6, yX6_faultOfPainting, cX6_faultOfPainting, 6, (some FieldType.int), { frames := 1, cells := 0, slots := 0, locals := 22 })
theorem wm_X6_faultOfPainting : WMV mX6_faultOfPainting := ⟨⟨kw_30, kw_399, by decide +kernel, by decide +kernel⟩, kw_398, kw_2⟩
abbrev mX6_faultOfNewLamp : MD := (RX6, yX6_faultOfNewLamp, cX6_faultOfNewLamp, 3, (some FieldType.int), { frames := 1, cells := 0, slots := 0, locals := 22 })
theorem wm_X6_faultOfNewLamp : WMV mX6_faultOfNewLamp := ⟨⟨kw_30, kw_450, by decide +kernel, by decide +kernel⟩, kw_449, kw_3⟩
abbrev mX6_faultOfCorner : MD := (RX6, yX6_faultOfCorner, cX6_faultOfCorner, 6, (some FieldType.int), { frames := 1, cells := 0, slots := 0, locals := 22 })
theorem wm_X6_faultOfCorner : WMV mX6_faultOfCorner := ⟨⟨kw_30, kw_488, by decide +kernel, by decide +kernel⟩, kw_487, kw_4⟩
abbrev mX6_faultOfRectangle : MD := (RX6, yX6_faultOfRectangle, cX6_faultOfRectangle, 8, (some FieldType.int), { frames := 1, cells := 0, slots := 0, locals := 22 })
theorem wm_X6_faultOfRectangle : WMV mX6_faultOfRectangle := ⟨⟨kw_30, kw_511, by decide +kernel, by decide +kernel⟩, kw_510, kw_5⟩
abbrev mX6_faultOfLampValue : MD := (RX6, yX6_faultOfLampValue, cX6_faultOfLampValue, 4, (some FieldType.int), { frames := 1, cells := 0, slots := 0, locals := 22 })
theorem wm_X6_faultOfLampValue : WMV mX6_faultOfLampValue := ⟨⟨kw_30, kw_607, by decide +kernel, by decide +kernel⟩, kw_606, kw_11⟩
abbrev mX6_faultOfLamp : MD := (RX6, yX6_faultOfLamp, cX6_faultOfLamp, 2, (some FieldType.int), { frames := 1, cells := 0, slots := 0, locals := 21 })
theorem wm_X6_faultOfLamp : WMV mX6_faultOfLamp := ⟨⟨kw_30, kw_649, by decide +kernel, by decide +kernel⟩, kw_648, kw_13⟩
abbrev mX6_faultOfPlace : MD := (RX6, yX6_faultOfPlace, cX6_faultOfPlace, 3, (some FieldType.int), { frames := 1, cells := 0, slots := 0, locals := 22 })
theorem wm_X6_faultOfPlace : WMV mX6_faultOfPlace := ⟨⟨kw_30, kw_793, by decide +kernel, by decide +kernel⟩, kw_792, kw_16⟩
abbrev mX6_faultOfShift : MD := (RX6, yX6_faultOfShift, cX6_faultOfShift, 3, (some FieldType.int), { frames := 1, cells := 0, slots := 0, locals := 22 })
theorem wm_X6_faultOfShift : WMS mX6_faultOfShift := ⟨⟨kw_30, kw_663, by decide +kernel, by decide +kernel⟩, kw_662⟩
abbrev mX6_faultOfHours : MD := (RX6, yX6_faultOfHours, cX6_faultOfHours, 1, (some FieldType.int), { frames := 2, cells := 0, slots := 0, locals := 44 })
theorem wm_X6_faultOfHours : WMS mX6_faultOfHours := ⟨⟨kw_30, kw_685, by decide +kernel, by decide +kernel⟩, kw_684⟩
abbrev mX6_faultOfRange : MD := (RX6, yX6_faultOfRange, cX6_faultOfRange, 3, (some FieldType.int), { frames := 1, cells := 0, slots := 0, locals := 22 })
theorem wm_X6_faultOfRange : WMS mX6_faultOfRange := ⟨⟨kw_30, kw_688, by decide +kernel, by decide +kernel⟩, kw_687⟩
abbrev mX6_refuseIndex : MD := (RX6, yX6_refuseIndex, cX6_refuseIndex, 1, none, { frames := 0, cells := 0, slots := 0, locals := 0 })
abbrev tX6_refuseIndex : MD := (RX6, yX6_refuseIndex, cX6_refuseIndex, 1, none, { frames := 6, cells := 1, slots := 6, locals := 90 })
theorem wm_X6_refuseIndex : WMS mX6_refuseIndex := ⟨⟨kw_30, kw_406, by decide +kernel, by decide +kernel⟩, kw_405⟩
theorem wt_X6_refuseIndex : WMS tX6_refuseIndex := ⟨⟨kw_30, kw_406, by decide +kernel, by decide +kernel⟩, kw_405⟩
abbrev mX6_refuseArgument : MD := (RX6, yX6_refuseArgument, cX6_refuseArgument, 1, none, { frames := 0, cells := 0, slots := 0, locals := 0 })
abbrev tX6_refuseArgument : MD := (RX6, yX6_refuseArgument, cX6_refuseArgument, 1, none, { frames := 6, cells := 1, slots := 6, locals := 90 })
theorem wm_X6_refuseArgument : WMS mX6_refuseArgument := ⟨⟨kw_30, kw_288, by decide +kernel, by decide +kernel⟩, kw_287⟩
theorem wt_X6_refuseArgument : WMS tX6_refuseArgument := ⟨⟨kw_30, kw_288, by decide +kernel, by decide +kernel⟩, kw_287⟩
abbrev mX6_refuseState : MD := (RX6, yX6_refuseState, cX6_refuseState, 1, none, { frames := 0, cells := 0, slots := 0, locals := 0 })
abbrev tX6_refuseState : MD := (RX6, yX6_refuseState, cX6_refuseState, 1, none, { frames := 6, cells := 1, slots := 6, locals := 90 })
theorem wm_X6_refuseState : WMS mX6_refuseState := ⟨⟨kw_30, kw_453, by decide +kernel, by decide +kernel⟩, kw_452⟩
theorem wt_X6_refuseState : WMS tX6_refuseState := ⟨⟨kw_30, kw_453, by decide +kernel, by decide +kernel⟩, kw_452⟩
abbrev mX6_within : MD := (RX6, yX6_within, cX6_within, 3, (some FieldType.boolean), { frames := 0, cells := 0, slots := 0, locals := 0 })
theorem wm_X6_within : WMS mX6_within := ⟨⟨kw_30, kw_285, by decide +kernel, by decide +kernel⟩, kw_284⟩
abbrev mX6_cross : MD := (RX6, yX6_cross, cX6_cross, 4, (some FieldType.int), { frames := 0, cells := 0, slots := 0, locals := 0 })
theorem wm_X6_cross : WMS mX6_cross := ⟨⟨kw_30, kw_500, by decide +kernel, by decide +kernel⟩, kw_499⟩
abbrev mX6_pointOf : MD := (RX6, yX6_pointOf, cX6_pointOf, 2, (some FieldType.int), { frames := 0, cells := 0, slots := 0, locals := 0 })
theorem wm_X6_pointOf : WMS mX6_pointOf := ⟨⟨kw_30, kw_542, by decide +kernel, by decide +kernel⟩, kw_541⟩
abbrev mX6_isIn : MD := (RX6, yX6_isIn, cX6_isIn, 2, (some FieldType.boolean), { frames := 0, cells := 0, slots := 0, locals := 0 })
theorem wm_X6_isIn : WMS mX6_isIn := ⟨⟨kw_30, kw_553, by decide +kernel, by decide +kernel⟩, kw_552⟩
abbrev mJ6_bitCount_0f7a4 : MD := (RJ6, yJ6_bitCount_0f7a4, cJ6_bitCount_0f7a4, 1, (some FieldType.int), { frames := 0, cells := 0, slots := 0, locals := 0 })
theorem wm_J6_bitCount_0f7a4 : WMS mJ6_bitCount_0f7a4 := ⟨⟨kw_43, kw_736, by decide +kernel, by decide +kernel⟩, kw_735⟩
abbrev mJ0_length_8abf5 : MD := (RJ0, yJ0_length_8abf5, cJ0_length_8abf5, 1, (some FieldType.int), { frames := 1, cells := 0, slots := 0, locals := 20 })
theorem wm_J0_length_8abf5 : WMV mJ0_length_8abf5 := ⟨⟨kw_44, kw_980, by decide +kernel, by decide +kernel⟩, kw_978, kw_979⟩
abbrev mJ0_charAt_5068e : MD := (RJ0, yJ0_charAt_5068e, cJ0_charAt_5068e, 2, (some FieldType.char), { frames := 4, cells := 0, slots := 0, locals := 85 })
theorem wm_J0_charAt_5068e : WMV mJ0_charAt_5068e := ⟨⟨kw_44, kw_990, by decide +kernel, by decide +kernel⟩, kw_988, kw_989⟩
abbrev mJ0_coder_7d493 : MD := (RJ0, yJ0_coder_7d493, cJ0_coder_7d493, 1, (some FieldType.byte), { frames := 0, cells := 0, slots := 0, locals := 0 })
theorem wm_J0_coder_7d493 : WMV mJ0_coder_7d493 := ⟨⟨kw_44, kw_984, by decide +kernel, by decide +kernel⟩, kw_982, kw_983⟩
abbrev mJ0_isLatin1_aae02 : MD := (RJ0, yJ0_isLatin1_aae02, cJ0_isLatin1_aae02, 1, (some FieldType.boolean), { frames := 0, cells := 0, slots := 0, locals := 0 })
theorem wm_J0_isLatin1_aae02 : WMV mJ0_isLatin1_aae02 := ⟨⟨kw_44, kw_994, by decide +kernel, by decide +kernel⟩, kw_992, kw_993⟩
abbrev mJ0_checkIndex_df160 : MD := (RJ0, yJ0_checkIndex_df160, cJ0_checkIndex_df160, 2, none, { frames := 1, cells := 0, slots := 0, locals := 22 })
theorem wm_J0_checkIndex_df160 : WMS mJ0_checkIndex_df160 := ⟨⟨kw_44, kw_1000, by decide +kernel, by decide +kernel⟩, kw_999⟩
abbrev mJ1_charAt_3b067 : MD := (RJ1, yJ1_charAt_3b067, cJ1_charAt_3b067, 2, (some FieldType.char), { frames := 2, cells := 0, slots := 0, locals := 43 })
theorem wm_J1_charAt_3b067 : WMS mJ1_charAt_3b067 := ⟨⟨kw_45, kw_997, by decide +kernel, by decide +kernel⟩, kw_996⟩
abbrev mJ3_checkIndex_8e157 : MD := (RJ3, yJ3_checkIndex_8e157, cJ3_checkIndex_8e157, 3, (some FieldType.int), { frames := 0, cells := 0, slots := 0, locals := 0 })
theorem wm_J3_checkIndex_8e157 : WMS mJ3_checkIndex_8e157 := ⟨⟨kw_46, kw_1005, by decide +kernel, by decide +kernel⟩, kw_1004⟩
theorem lf_RX0_14 : LKF RX0 14 "LampMural$CommandText" "bytes" "LLampMural$Row;" := Or.inl kw_227
theorem lf_RX0_30 : LKF RX0 30 "LampMural$CommandText" "length" "I" := Or.inl kw_229
theorem lm_RX0_33 : LKM RX0 33 ⟨"LampMural$Row", "set", "(II)V"⟩ := Or.inl kw_924
theorem lm_RX0_37 : LKM RX0 37 ⟨"LampMural$Row", "clear", "()V"⟩ := Or.inl kw_1036
theorem lf_RX0_40 : LKF RX0 40 "LampMural$CommandText" "position" "I" := Or.inl kw_231
theorem lf_RX0_23 : LKF RX0 23 "LampMural$CommandText" "fault" "I" := Or.inl kw_232
theorem lm_RX0_43 : LKM RX0 43 ⟨"LampMural$CommandText", "rewind", "()V"⟩ := Or.inl kw_950
theorem lm_RX0_46 : LKM RX0 46 ⟨"LampMural$CommandText", "readCommand", "()Z"⟩ := Or.inl kw_954
theorem lm_RX0_50 : LKM RX0 50 ⟨"LampMural$CommandText", "skipSpaces", "()V"⟩ := Or.inl kw_958
theorem lm_RX0_53 : LKM RX0 53 ⟨"LampMural$CommandText", "readWord", "()Z"⟩ := Or.inl kw_963
theorem lf_RX0_20 : LKF RX0 20 "LampMural$CommandText" "numbers" "LLampMural$Row;" := Or.inl kw_228
theorem lf_RX0_27 : LKF RX0 27 "LampMural$CommandText" "word" "I" := Or.inl kw_233
theorem lm_RX0_56 : LKM RX0 56 ⟨"LampMural$CommandText", "numbersOf", "(I)I"⟩ := Or.inl kw_1037
theorem lm_RX0_60 : LKM RX0 60 ⟨"LampMural$CommandText", "readNumber", "(I)Z"⟩ := Or.inl kw_1040
theorem lm_RX0_64 : LKM RX0 64 ⟨"LampMural$Row", "get", "(I)I"⟩ := Or.inl kw_962
theorem lm_RX0_67 : LKM RX0 67 ⟨"LampMural$CommandText", "failAt", "(I)Z"⟩ := Or.inl kw_1032
theorem lm_RX0_70 : LKM RX0 70 ⟨"LampMural", "within", "(III)Z"⟩ := Or.inr ⟨_, List.mem_of_getElem? (i := 12) rfl⟩
theorem lm_RX0_74 : LKM RX0 74 ⟨"LampMural$CommandText", "wordBetween", "(II)I"⟩ := Or.inl kw_968
theorem lm_RX0_78 : LKM RX0 78 ⟨"LampMural$CommandText", "isDigit", "(I)Z"⟩ := Or.inl kw_1044
theorem lm_RX0_83 : LKM RX0 83 ⟨"LampMural$CommandText", "isWord", "(Ljava/lang/String;II)Z"⟩ := Or.inl kw_973
theorem lm_RX0_101 : LKM RX0 101 ⟨"java/lang/String", "length", "()I"⟩ := Or.inl kw_977
theorem lm_RX0_106 : LKM RX0 106 ⟨"java/lang/String", "charAt", "(I)C"⟩ := Or.inl kw_987
theorem lf_RX1_29 : LKF RX1 29 "LampMural$Dimmer" "shining" "I" := Or.inl kw_152
theorem lf_RX1_14 : LKF RX1 14 "LampMural$Dimmer" "limits" "LLampMural$Row;" := Or.inl kw_147
theorem lm_RX1_33 : LKM RX1 33 ⟨"LampMural$Scene", "limitOf", "(I)I"⟩ := Or.inl kw_529
theorem lm_RX1_39 : LKM RX1 39 ⟨"LampMural$Row", "set", "(II)V"⟩ := Or.inl kw_533
theorem lf_RX1_20 : LKF RX1 20 "LampMural$Dimmer" "floors" "LLampMural$Row;" := Or.inl kw_148
theorem lm_RX1_43 : LKM RX1 43 ⟨"LampMural$Scene", "floorOf", "(I)I"⟩ := Or.inl kw_534
theorem lm_RX1_46 : LKM RX1 46 ⟨"LampMural$Dimmer", "prepare", "(LLampMural$Scene;I)V"⟩ := Or.inl kw_883
theorem lf_RX1_50 : LKF RX1 50 "LampMural$Scene" "rows" "I" := Or.inr ⟨_, List.mem_of_getElem? (i := 4) rfl⟩
theorem lf_RX1_53 : LKF RX1 53 "LampMural$Scene" "columns" "I" := Or.inr ⟨_, List.mem_of_getElem? (i := 1) rfl⟩
theorem lm_RX1_56 : LKM RX1 56 ⟨"LampMural$Scene", "indexOfPlace", "(II)I"⟩ := Or.inl kw_884
theorem lm_RX1_60 : LKM RX1 60 ⟨"LampMural$Scene", "targetAt", "(I)I"⟩ := Or.inl kw_885
theorem lm_RX1_63 : LKM RX1 63 ⟨"LampMural", "pointOf", "(II)I"⟩ := Or.inr ⟨_, List.mem_of_getElem? (i := 11) rfl⟩
theorem lm_RX1_66 : LKM RX1 66 ⟨"LampMural$Dimmer", "dimPoint", "(LLampMural$Scene;III)V"⟩ := Or.inl kw_887
theorem lf_RX1_70 : LKF RX1 70 "LampMural$Dimmer" "state" "I" := Or.inl kw_158
theorem lf_RX1_73 : LKF RX1 73 "LampMural$Dimmer" "covering" "I" := Or.inl kw_154
theorem lm_RX1_76 : LKM RX1 76 ⟨"LampMural", "isIn", "(II)Z"⟩ := Or.inr ⟨_, List.mem_of_getElem? (i := 8) rfl⟩
theorem lm_RX1_80 : LKM RX1 80 ⟨"LampMural$Scene", "weightAt", "(III)I"⟩ := Or.inl kw_554
theorem lf_RX1_23 : LKF RX1 23 "LampMural$Dimmer" "weights" "LLampMural$Row;" := Or.inl kw_149
theorem lf_RX1_26 : LKF RX1 26 "LampMural$Dimmer" "lights" "LLampMural$Row;" := Or.inl kw_150
theorem lm_RX1_84 : LKM RX1 84 ⟨"LampMural$Dimmer", "shareOut", "(I)V"⟩ := Or.inl kw_561
theorem lm_RX1_87 : LKM RX1 87 ⟨"LampMural$Dimmer", "keepToLimits", "()V"⟩ := Or.inl kw_566
theorem lm_RX1_90 : LKM RX1 90 ⟨"LampMural$Dimmer", "balance", "(I)V"⟩ := Or.inl kw_574
theorem lm_RX1_93 : LKM RX1 93 ⟨"LampMural$Dimmer", "stateFor", "(I)I"⟩ := Or.inl kw_578
theorem lm_RX1_96 : LKM RX1 96 ⟨"LampMural$Row", "get", "(I)I"⟩ := Or.inl kw_565
theorem lm_RX1_99 : LKM RX1 99 ⟨"java/lang/Math", "min", "(II)I"⟩ := Or.inl kw_570
theorem lm_RX1_104 : LKM RX1 104 ⟨"java/lang/Math", "max", "(II)I"⟩ := Or.inl kw_571
theorem lf_RX1_107 : LKF RX1 107 "LampMural$Dimmer" "brightness" "I" := Or.inl kw_156
theorem lf_RX2_18 : LKF RX2 18 "LampMural$History" "latest" "I" := Or.inl kw_209
theorem lm_RX2_22 : LKM RX2 22 ⟨"LampMural$History", "latestSlot", "()LLampMural$Scene;"⟩ := Or.inl kw_361
theorem lm_RX2_26 : LKM RX2 26 ⟨"LampMural$Scene", "copyFrom", "(LLampMural$Scene;)V"⟩ := Or.inl kw_365
theorem lf_RX2_30 : LKF RX2 30 "LampMural$History" "count" "I" := Or.inl kw_210
theorem lm_RX2_33 : LKM RX2 33 ⟨"java/lang/Math", "min", "(II)I"⟩ := Or.inl kw_373
theorem lf_RX2_11 : LKF RX2 11 "LampMural$History" "saved" "[LLampMural$Scene;" := Or.inl kw_208
theorem lf_RX3_7 : LKF RX3 7 "LampMural$Row" "cells" "[I" := Or.inl kw_69
theorem lf_RX4_9 : LKF RX4 9 "LampMural$Scene" "columns" "I" := Or.inl kw_74
theorem lf_RX4_15 : LKF RX4 15 "LampMural$Scene" "rows" "I" := Or.inl kw_78
theorem lf_RX4_49 : LKF RX4 49 "LampMural$Scene" "shiftX" "I" := Or.inl kw_82
theorem lf_RX4_52 : LKF RX4 52 "LampMural$Scene" "shiftY" "I" := Or.inl kw_85
theorem lf_RX4_55 : LKF RX4 55 "LampMural$Scene" "hours" "I" := Or.inl kw_88
theorem lf_RX4_58 : LKF RX4 58 "LampMural$Scene" "lampCount" "I" := Or.inl kw_90
theorem lf_RX4_27 : LKF RX4 27 "LampMural$Scene" "targets" "LLampMural$Row;" := Or.inl kw_94
theorem lm_RX4_61 : LKM RX4 61 ⟨"LampMural$Row", "copyFrom", "(LLampMural$Row;)V"⟩ := Or.inl kw_369
theorem lf_RX4_31 : LKF RX4 31 "LampMural$Scene" "greatest" "LLampMural$Row;" := Or.inl kw_95
theorem lf_RX4_34 : LKF RX4 34 "LampMural$Scene" "least" "LLampMural$Row;" := Or.inl kw_97
theorem lf_RX4_37 : LKF RX4 37 "LampMural$Scene" "wear" "LLampMural$Row;" := Or.inl kw_99
theorem lf_RX4_40 : LKF RX4 40 "LampMural$Scene" "working" "LLampMural$Row;" := Or.inl kw_101
theorem lf_RX4_43 : LKF RX4 43 "LampMural$Scene" "cornersX" "LLampMural$Row;" := Or.inl kw_102
theorem lf_RX4_46 : LKF RX4 46 "LampMural$Scene" "cornersY" "LLampMural$Row;" := Or.inl kw_103
theorem lf_RX4_18 : LKF RX4 18 "LampMural$Scene" "changed" "Z" := Or.inl kw_92
theorem lm_RX4_65 : LKM RX4 65 ⟨"LampMural$Row", "clear", "()V"⟩ := Or.inl kw_384
theorem lm_RX4_68 : LKM RX4 68 ⟨"LampMural$Scene", "indexOfPlace", "(II)I"⟩ := Or.inl kw_427
theorem lm_RX4_72 : LKM RX4 72 ⟨"LampMural$Row", "get", "(I)I"⟩ := Or.inl kw_431
theorem lm_RX4_76 : LKM RX4 76 ⟨"LampMural$Row", "set", "(II)V"⟩ := Or.inl kw_435
theorem lm_RX4_80 : LKM RX4 80 ⟨"LampMural$Scene", "moveCorner", "(IIII)V"⟩ := Or.inl kw_474
theorem lm_RX4_84 : LKM RX4 84 ⟨"java/lang/Math", "min", "(II)I"⟩ := Or.inl kw_539
theorem lm_RX4_89 : LKM RX4 89 ⟨"java/lang/Math", "max", "(II)I"⟩ := Or.inl kw_705
theorem lm_RX4_92 : LKM RX4 92 ⟨"LampMural$Scene", "limitOf", "(I)I"⟩ := Or.inl kw_538
theorem lm_RX4_95 : LKM RX4 95 ⟨"LampMural", "isIn", "(II)Z"⟩ := Or.inr ⟨_, List.mem_of_getElem? (i := 10) rfl⟩
theorem lm_RX4_99 : LKM RX4 99 ⟨"LampMural$Scene", "floorOf", "(I)I"⟩ := Or.inl kw_821
theorem lm_RX4_102 : LKM RX4 102 ⟨"LampMural", "cross", "(IIII)I"⟩ := Or.inr ⟨_, List.mem_of_getElem? (i := 6) rfl⟩
theorem lm_RX4_106 : LKM RX4 106 ⟨"LampMural$Scene", "isWorking", "(I)Z"⟩ := Or.inl kw_520
theorem lm_RX4_110 : LKM RX4 110 ⟨"LampMural$Scene", "isGood", "(I)Z"⟩ := Or.inl kw_524
theorem lm_RX4_113 : LKM RX4 113 ⟨"java/lang/Math", "abs", "(I)I"⟩ := Or.inl kw_558
theorem lf_RX5_36 : LKF RX5 36 "LampMural$Scene" "changed" "Z" := Or.inr ⟨_, List.mem_of_getElem? (i := 12) rfl⟩
theorem lf_RX5_12 : LKF RX5 12 "LampMural$Survey" "dimmer" "LLampMural$Dimmer;" := Or.inl kw_178
theorem lm_RX5_42 : LKM RX5 42 ⟨"LampMural$Scene", "shiningLamps", "()I"⟩ := Or.inl kw_516
theorem lm_RX5_46 : LKM RX5 46 ⟨"LampMural$Dimmer", "prepare", "(LLampMural$Scene;I)V"⟩ := Or.inl kw_525
theorem lf_RX5_50 : LKF RX5 50 "LampMural$Survey" "places" "I" := Or.inl kw_183
theorem lf_RX5_54 : LKF RX5 54 "LampMural$Scene" "rows" "I" := Or.inr ⟨_, List.mem_of_getElem? (i := 3) rfl⟩
theorem lf_RX5_57 : LKF RX5 57 "LampMural$Scene" "columns" "I" := Or.inr ⟨_, List.mem_of_getElem? (i := 0) rfl⟩
theorem lf_RX5_60 : LKF RX5 60 "LampMural$Scene" "shiftX" "I" := Or.inr ⟨_, List.mem_of_getElem? (i := 6) rfl⟩
theorem lm_RX5_63 : LKM RX5 63 ⟨"LampMural", "pointOf", "(II)I"⟩ := Or.inr ⟨_, List.mem_of_getElem? (i := 7) rfl⟩
theorem lf_RX5_67 : LKF RX5 67 "LampMural$Scene" "shiftY" "I" := Or.inr ⟨_, List.mem_of_getElem? (i := 8) rfl⟩
theorem lm_RX5_70 : LKM RX5 70 ⟨"LampMural$Scene", "targetAt", "(I)I"⟩ := Or.inl kw_543
theorem lm_RX5_74 : LKM RX5 74 ⟨"LampMural$Dimmer", "dimPoint", "(LLampMural$Scene;III)V"⟩ := Or.inl kw_547
theorem lm_RX5_78 : LKM RX5 78 ⟨"LampMural$Survey", "keepPlace", "()V"⟩ := Or.inl kw_582
theorem lf_RX5_27 : LKF RX5 27 "LampMural$Survey" "covering" "LLampMural$Row;" := Or.inl kw_180
theorem lf_RX5_81 : LKF RX5 81 "LampMural$Dimmer" "covering" "I" := Or.inr ⟨_, List.mem_of_getElem? (i := 17) rfl⟩
theorem lm_RX5_83 : LKM RX5 83 ⟨"LampMural$Row", "set", "(II)V"⟩ := Or.inl kw_586
theorem lf_RX5_30 : LKF RX5 30 "LampMural$Survey" "brightness" "LLampMural$Row;" := Or.inl kw_181
theorem lf_RX5_87 : LKF RX5 87 "LampMural$Dimmer" "brightness" "I" := Or.inr ⟨_, List.mem_of_getElem? (i := 18) rfl⟩
theorem lf_RX5_33 : LKF RX5 33 "LampMural$Survey" "states" "LLampMural$Row;" := Or.inl kw_182
theorem lf_RX5_89 : LKF RX5 89 "LampMural$Dimmer" "state" "I" := Or.inr ⟨_, List.mem_of_getElem? (i := 19) rfl⟩
theorem lf_RX5_23 : LKF RX5 23 "LampMural$Survey" "lights" "LLampMural$Row;" := Or.inl kw_179
theorem lf_RX5_92 : LKF RX5 92 "LampMural$Dimmer" "lights" "LLampMural$Row;" := Or.inr ⟨_, List.mem_of_getElem? (i := 16) rfl⟩
theorem lm_RX5_93 : LKM RX5 93 ⟨"LampMural$Row", "get", "(I)I"⟩ := Or.inl kw_587
theorem lm_RX5_96 : LKM RX5 96 ⟨"LampMural", "isIn", "(II)Z"⟩ := Or.inr ⟨_, List.mem_of_getElem? (i := 9) rfl⟩
theorem lm_RX5_100 : LKM RX5 100 ⟨"LampMural$Survey", "isCovered", "(II)Z"⟩ := Or.inl kw_592
theorem lm_RX5_103 : LKM RX5 103 ⟨"java/lang/Integer", "bitCount", "(I)I"⟩ := Or.inl kw_734
theorem lm_RX5_108 : LKM RX5 108 ⟨"LampMural$Survey", "placesInState", "(I)I"⟩ := Or.inl kw_672
theorem lm_RX5_111 : LKM RX5 111 ⟨"java/lang/Math", "max", "(II)I"⟩ := Or.inl kw_630
theorem lm_RX5_116 : LKM RX5 116 ⟨"LampMural$Survey", "placesOf", "(I)I"⟩ := Or.inl kw_624
theorem lm_RX5_119 : LKM RX5 119 ⟨"LampMural$Survey", "sumOfLights", "(I)I"⟩ := Or.inl kw_625
theorem lm_RX6_44 : LKM RX6 44 ⟨"LampMural", "faultOfWall", "(II)I"⟩ := Or.inl kw_280
theorem lm_RX6_48 : LKM RX6 48 ⟨"LampMural", "refuseArgument", "(I)V"⟩ := Or.inl kw_286
theorem lf_RX6_33 : LKF RX6 33 "LampMural" "history" "LLampMural$History;" := Or.inl kw_251
theorem lf_RX6_12 : LKF RX6 12 "LampMural" "scene" "LLampMural$Scene;" := Or.inl kw_248
theorem lm_RX6_52 : LKM RX6 52 ⟨"LampMural$History", "save", "(LLampMural$Scene;)V"⟩ := Or.inl kw_357
theorem lm_RX6_56 : LKM RX6 56 ⟨"LampMural$Scene", "placeCount", "()I"⟩ := Or.inl kw_376
theorem lm_RX6_60 : LKM RX6 60 ⟨"LampMural$Scene", "startWall", "(II)V"⟩ := Or.inl kw_380
theorem lm_RX6_64 : LKM RX6 64 ⟨"LampMural", "faultOfPainting", "(IIIII)I"⟩ := Or.inl kw_396
theorem lm_RX6_68 : LKM RX6 68 ⟨"LampMural", "refuseIndex", "(I)V"⟩ := Or.inl kw_404
theorem lm_RX6_71 : LKM RX6 71 ⟨"LampMural$Scene", "setTargets", "(IIIII)I"⟩ := Or.inl kw_423
theorem lm_RX6_74 : LKM RX6 74 ⟨"LampMural", "faultOfNewLamp", "(II)I"⟩ := Or.inl kw_447
theorem lm_RX6_77 : LKM RX6 77 ⟨"LampMural", "refuseState", "(I)V"⟩ := Or.inl kw_451
theorem lm_RX6_80 : LKM RX6 80 ⟨"LampMural$Scene", "hangLamp", "(II)I"⟩ := Or.inl kw_470
theorem lm_RX6_83 : LKM RX6 83 ⟨"LampMural", "faultOfCorner", "(IIII)I"⟩ := Or.inl kw_485
theorem lm_RX6_87 : LKM RX6 87 ⟨"LampMural$Scene", "moveCorner", "(IIII)V"⟩ := Or.inl kw_493
theorem lm_RX6_91 : LKM RX6 91 ⟨"LampMural$Scene", "isGood", "(I)Z"⟩ := Or.inl kw_494
theorem lm_RX6_95 : LKM RX6 95 ⟨"LampMural", "faultOfRectangle", "(IIIII)I"⟩ := Or.inl kw_508
theorem lf_RX6_19 : LKF RX6 19 "LampMural" "survey" "LLampMural$Survey;" := Or.inl kw_249
theorem lm_RX6_98 : LKM RX6 98 ⟨"LampMural$Survey", "refresh", "(LLampMural$Scene;)V"⟩ := Or.inl kw_512
theorem lm_RX6_101 : LKM RX6 101 ⟨"LampMural$Survey", "placesOf", "(I)I"⟩ := Or.inl kw_588
theorem lm_RX6_105 : LKM RX6 105 ⟨"LampMural", "faultOfLampValue", "(III)I"⟩ := Or.inl kw_604
theorem lm_RX6_109 : LKM RX6 109 ⟨"LampMural", "lampValue", "(II)I"⟩ := Or.inl kw_608
theorem lm_RX6_112 : LKM RX6 112 ⟨"LampMural$Scene", "setLampValue", "(III)V"⟩ := Or.inl kw_635
theorem lm_RX6_116 : LKM RX6 116 ⟨"LampMural", "faultOfLamp", "(I)I"⟩ := Or.inl kw_646
theorem lm_RX6_119 : LKM RX6 119 ⟨"LampMural$Scene", "isWorking", "(I)Z"⟩ := Or.inl kw_613
theorem lm_RX6_122 : LKM RX6 122 ⟨"LampMural$Scene", "switchLamp", "(IZ)V"⟩ := Or.inl kw_650
theorem lm_RX6_126 : LKM RX6 126 ⟨"LampMural", "faultOfShift", "(II)I"⟩ := Or.inl kw_661
theorem lm_RX6_129 : LKM RX6 129 ⟨"LampMural$Scene", "moveWall", "(II)V"⟩ := Or.inl kw_664
theorem lm_RX6_132 : LKM RX6 132 ⟨"LampMural$Survey", "wrongPlaces", "()I"⟩ := Or.inl kw_668
theorem lm_RX6_135 : LKM RX6 135 ⟨"LampMural", "faultOfHours", "(I)I"⟩ := Or.inl kw_683
theorem lm_RX6_138 : LKM RX6 138 ⟨"LampMural", "burnHours", "(I)V"⟩ := Or.inl kw_689
theorem lm_RX6_141 : LKM RX6 141 ⟨"LampMural$Scene", "greatestWear", "()I"⟩ := Or.inl kw_701
theorem lm_RX6_144 : LKM RX6 144 ⟨"LampMural", "faultOfPlace", "(II)I"⟩ := Or.inl kw_790
theorem lm_RX6_147 : LKM RX6 147 ⟨"LampMural", "faultOfRange", "(III)I"⟩ := Or.inl kw_686
theorem lm_RX6_150 : LKM RX6 150 ⟨"LampMural$Scene", "indexOfPlace", "(II)I"⟩ := Or.inl kw_794
theorem lm_RX6_153 : LKM RX6 153 ⟨"LampMural", "placeValue", "(II)I"⟩ := Or.inl kw_795
theorem lm_RX6_156 : LKM RX6 156 ⟨"LampMural$Survey", "lightOf", "(II)I"⟩ := Or.inl kw_829
theorem lm_RX6_159 : LKM RX6 159 ⟨"LampMural$Survey", "isCovered", "(II)Z"⟩ := Or.inl kw_864
theorem lf_RX6_163 : LKF RX6 163 "LampMural$Scene" "shiftX" "I" := Or.inr ⟨_, List.mem_of_getElem? (i := 7) rfl⟩
theorem lm_RX6_167 : LKM RX6 167 ⟨"LampMural", "pointOf", "(II)I"⟩ := Or.inl kw_865
theorem lf_RX6_170 : LKF RX6 170 "LampMural$Scene" "shiftY" "I" := Or.inr ⟨_, List.mem_of_getElem? (i := 9) rfl⟩
theorem lm_RX6_173 : LKM RX6 173 ⟨"LampMural$Scene", "weightAt", "(III)I"⟩ := Or.inl kw_866
theorem lm_RX6_176 : LKM RX6 176 ⟨"LampMural", "within", "(III)Z"⟩ := Or.inl kw_283
theorem lm_RX6_180 : LKM RX6 180 ⟨"LampMural$Scene", "cornerValue", "(III)I"⟩ := Or.inl kw_776
theorem lm_RX6_183 : LKM RX6 183 ⟨"LampMural", "wholeValue", "(I)I"⟩ := Or.inl kw_713
theorem lf_RX6_186 : LKF RX6 186 "LampMural$Scene" "rows" "I" := Or.inr ⟨_, List.mem_of_getElem? (i := 5) rfl⟩
theorem lf_RX6_189 : LKF RX6 189 "LampMural$Scene" "columns" "I" := Or.inr ⟨_, List.mem_of_getElem? (i := 2) rfl⟩
theorem lm_RX6_192 : LKM RX6 192 ⟨"LampMural$Survey", "stateAt", "(I)I"⟩ := Or.inl kw_804
theorem lm_RX6_195 : LKM RX6 195 ⟨"LampMural", "wrongIfFailed", "(I)I"⟩ := Or.inl kw_874
theorem lf_RX6_198 : LKF RX6 198 "LampMural$Scene" "lampCount" "I" := Or.inr ⟨_, List.mem_of_getElem? (i := 11) rfl⟩
theorem lf_RX6_26 : LKF RX6 26 "LampMural" "whatIf" "LLampMural$Dimmer;" := Or.inl kw_250
theorem lm_RX6_201 : LKM RX6 201 ⟨"LampMural$Scene", "shiningLamps", "()I"⟩ := Or.inl kw_878
theorem lm_RX6_204 : LKM RX6 204 ⟨"LampMural$Dimmer", "countWrong", "(LLampMural$Scene;III)I"⟩ := Or.inl kw_879
theorem lm_RX6_208 : LKM RX6 208 ⟨"LampMural$Scene", "targetAt", "(I)I"⟩ := Or.inl kw_799
theorem lm_RX6_211 : LKM RX6 211 ⟨"LampMural$Survey", "brightnessAt", "(I)I"⟩ := Or.inl kw_800
theorem lm_RX6_214 : LKM RX6 214 ⟨"java/lang/Math", "max", "(II)I"⟩ := Or.inl kw_895
theorem lf_RX6_40 : LKF RX6 40 "LampMural" "commands" "LLampMural$CommandText;" := Or.inl kw_252
theorem lf_RX6_219 : LKF RX6 219 "LampMural$CommandText" "length" "I" := Or.inr ⟨_, List.mem_of_getElem? (i := 21) rfl⟩
theorem lm_RX6_222 : LKM RX6 222 ⟨"LampMural$CommandText", "append", "(I)I"⟩ := Or.inl kw_920
theorem lm_RX6_225 : LKM RX6 225 ⟨"LampMural$CommandText", "empty", "()I"⟩ := Or.inl kw_1107
theorem lm_RX6_228 : LKM RX6 228 ⟨"LampMural$CommandText", "findFault", "()I"⟩ := Or.inl kw_946
theorem lm_RX6_231 : LKM RX6 231 ⟨"LampMural$CommandText", "rewind", "()V"⟩ := Or.inl kw_1047
theorem lm_RX6_234 : LKM RX6 234 ⟨"LampMural$CommandText", "readCommand", "()Z"⟩ := Or.inl kw_1048
theorem lm_RX6_238 : LKM RX6 238 ⟨"LampMural", "carryOut", "()Z"⟩ := Or.inl kw_1049
theorem lf_RX6_241 : LKF RX6 241 "LampMural$History" "count" "I" := Or.inr ⟨_, List.mem_of_getElem? (i := 20) rfl⟩
theorem lm_RX6_244 : LKM RX6 244 ⟨"LampMural$History", "restore", "(LLampMural$Scene;)V"⟩ := Or.inl kw_747
theorem lm_RX6_251 : LKM RX6 251 ⟨"LampMural", "addLampTo", "(JI)J"⟩ := Or.inl kw_843
theorem lm_RX6_255 : LKM RX6 255 ⟨"LampMural", "addPlaceTo", "(JI)J"⟩ := Or.inl kw_847
theorem lm_RX6_258 : LKM RX6 258 ⟨"LampMural$Survey", "coveringAt", "(I)I"⟩ := Or.inl kw_808
theorem lm_RX6_261 : LKM RX6 261 ⟨"LampMural$Scene", "sumOfLimits", "(I)I"⟩ := Or.inl kw_812
theorem lm_RX6_264 : LKM RX6 264 ⟨"LampMural$Scene", "sumOfFloors", "(I)I"⟩ := Or.inl kw_817
theorem lf_RX6_267 : LKF RX6 267 "LampMural$Scene" "greatest" "LLampMural$Row;" := Or.inr ⟨_, List.mem_of_getElem? (i := 13) rfl⟩
theorem lm_RX6_271 : LKM RX6 271 ⟨"LampMural$Row", "get", "(I)I"⟩ := Or.inl kw_612
theorem lf_RX6_276 : LKF RX6 276 "LampMural$Scene" "least" "LLampMural$Row;" := Or.inr ⟨_, List.mem_of_getElem? (i := 14) rfl⟩
theorem lf_RX6_279 : LKF RX6 279 "LampMural$Scene" "wear" "LLampMural$Row;" := Or.inr ⟨_, List.mem_of_getElem? (i := 15) rfl⟩
theorem lm_RX6_282 : LKM RX6 282 ⟨"LampMural$Scene", "limitOf", "(I)I"⟩ := Or.inl kw_614
theorem lm_RX6_285 : LKM RX6 285 ⟨"LampMural$Scene", "floorOf", "(I)I"⟩ := Or.inl kw_615
theorem lm_RX6_288 : LKM RX6 288 ⟨"LampMural$Survey", "sumOfLights", "(I)I"⟩ := Or.inl kw_616
theorem lm_RX6_291 : LKM RX6 291 ⟨"LampMural$Survey", "loadOf", "(II)I"⟩ := Or.inl kw_620
theorem lm_RX6_294 : LKM RX6 294 ⟨"LampMural$Survey", "greatestLightOf", "(I)I"⟩ := Or.inl kw_626
theorem lm_RX6_297 : LKM RX6 297 ⟨"LampMural$Survey", "placesOnlyOf", "(I)I"⟩ := Or.inl kw_631
theorem lm_RX6_300 : LKM RX6 300 ⟨"LampMural$Scene", "workingLamps", "()I"⟩ := Or.inl kw_717
theorem lm_RX6_303 : LKM RX6 303 ⟨"LampMural$Survey", "placesInState", "(I)I"⟩ := Or.inl kw_721
theorem lm_RX6_306 : LKM RX6 306 ⟨"LampMural$Scene", "sumOfTargets", "()I"⟩ := Or.inl kw_722
theorem lm_RX6_309 : LKM RX6 309 ⟨"LampMural$Survey", "sumOfBrightness", "()I"⟩ := Or.inl kw_726
theorem lf_RX6_312 : LKF RX6 312 "LampMural$Scene" "hours" "I" := Or.inr ⟨_, List.mem_of_getElem? (i := 10) rfl⟩
theorem lm_RX6_315 : LKM RX6 315 ⟨"LampMural$Survey", "placesOfSeveral", "()I"⟩ := Or.inl kw_730
theorem lm_RX6_318 : LKM RX6 318 ⟨"LampMural$Scene", "wearOut", "(II)V"⟩ := Or.inl kw_693
theorem lm_RX6_321 : LKM RX6 321 ⟨"LampMural$Scene", "countHours", "(I)V"⟩ := Or.inl kw_697
theorem lm_RX6_324 : LKM RX6 324 ⟨"LampMural$CommandText", "number", "(I)I"⟩ := Or.inl kw_1053
theorem lm_RX6_327 : LKM RX6 327 ⟨"LampMural", "faultOfCommand", "(IIIII)I"⟩ := Or.inl kw_1057
theorem lf_RX6_330 : LKF RX6 330 "LampMural$CommandText" "word" "I" := Or.inr ⟨_, List.mem_of_getElem? (i := 22) rfl⟩
theorem lm_RX6_333 : LKM RX6 333 ⟨"LampMural$Scene", "hasPlace", "(II)Z"⟩ := Or.inl kw_400
theorem lm_RX6_336 : LKM RX6 336 ⟨"LampMural$Scene", "hasLamp", "(I)Z"⟩ := Or.inl kw_489
theorem lm_RX6_343 : LKM RX6 343 ⟨"java/lang/IndexOutOfBoundsException", "<init>", "(Ljava/lang/String;)V"⟩ := Or.inl kw_417
theorem lm_RX6_350 : LKM RX6 350 ⟨"java/lang/IllegalArgumentException", "<init>", "(Ljava/lang/String;)V"⟩ := Or.inl kw_331
theorem lm_RX6_355 : LKM RX6 355 ⟨"java/lang/IllegalStateException", "<init>", "(Ljava/lang/String;)V"⟩ := Or.inl kw_464
theorem lm_RJ0_335 : LKM RJ0 335 ⟨"java/lang/String", "coder", "()B"⟩ := Or.inl kw_981
theorem lm_RJ0_492 : LKM RJ0 492 ⟨"java/lang/String", "isLatin1", "()Z"⟩ := Or.inl kw_991
theorem lm_RJ0_495 : LKM RJ0 495 ⟨"java/lang/StringLatin1", "charAt", "([BI)C"⟩ := Or.inl kw_995
theorem lm_RJ0_498 : LKM RJ0 498 ⟨"java/lang/StringUTF16", "charAt", "([BI)C"⟩ := Or.inl kw_1006
theorem lm_RJ0_1059 : LKM RJ0 1059 ⟨"jdk/internal/util/Preconditions", "checkIndex", "(IILjava/util/function/BiFunction;)I"⟩ := Or.inl kw_1003
theorem lm_RJ1_9 : LKM RJ1 9 ⟨"java/lang/String", "checkIndex", "(II)V"⟩ := Or.inl kw_998
