def isS (s : Nat) : Prop := s = 0 ∨ s = 15 ∨ s = 30 ∨ s = 45 ∨ s = 60
def isD (d : Nat) : Prop := d = 75 ∨ d = 84
abbrev fsS (s : Nat) : List FE := [.inl 0, .inl 0, .inl 0, .inl 0, .inl 0, .inl 0, .inl 0, .inr (s + 1), .inr (s + 2), .inr (s + 3), .inr (s + 4), .inr (s + 5), .inr (s + 6), .inr (s + 7)]
abbrev fsD (d : Nat) : List FE := [.inr (d + 1), .inr (d + 2), .inr (d + 3), .inr (d + 4), .inl 0, .inl 0, .inl 0, .inl 0]
abbrev fsV : List FE := [.inr 75, .inr 94, .inr 95, .inr 96, .inr 97, .inl 0]
abbrev fsC : List FE := [.inr 103, .inr 104, .inl 0, .inl 0, .inl 0, .inl 0]
abbrev fsH : List FE := [.inr 108, .inl 0, .inl 0]
abbrev fsL : List FE := [.inr 0, .inr 93, .inr 84, .inr 107, .inr 102]
abbrev fsM : List FE := [.inr 1, .inr 2, .inr 3, .inl 0, .inr 4, .inl 0, .inl 0, .inl 0, .inl 0, .inr 5, .inr 6, .inl 0, .inl 0, .inl 0, .inl 0, .inl 0, .inl 0, .inl 0, .inr 7, .inl 0, .inl 0, .inr 8, .inl 1]
abbrev leR (a : Nat) : LE := .inl (3, [.inr a])
abbrev leA (n : Nat) : LE := .inr (.inl n)
def laS (s : Nat) : List LE := [.inl (4, fsS s), leR (s + 8), leR (s + 9), leR (s + 10), leR (s + 11), leR (s + 12), leR (s + 13), leR (s + 14), leA 384, leA 8, leA 8, leA 8, leA 8, leA 32, leA 32]
def laD (d : Nat) : List LE := [.inl (1, fsD d), leR (d + 5), leR (d + 6), leR (d + 7), leR (d + 8), leA 8, leA 8, leA 8, leA 8]
def ΛC : List LE := laS 0 ++ (laS 15 ++ (laS 30 ++ (laS 45 ++ (laS 60 ++ (laD 75 ++ (laD 84 ++ [.inl (5, fsV), leR 98, leR 99, leR 100, leR 101, leA 3072, leA 384, leA 384, leA 384, .inl (0, fsC), leR 105, leR 106, leA 150, leA 5, .inl (2, fsH), .inr (.inr [15, 30, 45, 60]), .inl (6, fsL)]))))))
def ΛM : List LE := [.inl (7, fsM), leA 486, leA 1944, leA 486, leA 150, leA 8, leA 8, leA 8, leA 5]
theorem ΛC_len : ΛC.length = 110 := rfl
def rowAt (r a n : Nat) : Prop := ΛC[r]? = some (leR a) ∧ ΛC[a]? = some (leA n) ∧ n < 2147483648
theorem lyS (s : Nat) (h : isS s) : ΛC[s]? = some (.inl (4, fsS s)) := by rcases h with rfl | rfl | rfl | rfl | rfl <;> rfl
theorem rS_tg (s : Nat) (h : isS s) : rowAt (s + 1) (s + 8) 384 := by rcases h with rfl | rfl | rfl | rfl | rfl <;> exact ⟨rfl, rfl, by decide⟩
theorem rS_gr (s : Nat) (h : isS s) : rowAt (s + 2) (s + 9) 8 := by rcases h with rfl | rfl | rfl | rfl | rfl <;> exact ⟨rfl, rfl, by decide⟩
theorem rS_le (s : Nat) (h : isS s) : rowAt (s + 3) (s + 10) 8 := by rcases h with rfl | rfl | rfl | rfl | rfl <;> exact ⟨rfl, rfl, by decide⟩
theorem rS_we (s : Nat) (h : isS s) : rowAt (s + 4) (s + 11) 8 := by rcases h with rfl | rfl | rfl | rfl | rfl <;> exact ⟨rfl, rfl, by decide⟩
theorem rS_wk (s : Nat) (h : isS s) : rowAt (s + 5) (s + 12) 8 := by rcases h with rfl | rfl | rfl | rfl | rfl <;> exact ⟨rfl, rfl, by decide⟩
theorem rS_cx (s : Nat) (h : isS s) : rowAt (s + 6) (s + 13) 32 := by rcases h with rfl | rfl | rfl | rfl | rfl <;> exact ⟨rfl, rfl, by decide⟩
theorem rS_cy (s : Nat) (h : isS s) : rowAt (s + 7) (s + 14) 32 := by rcases h with rfl | rfl | rfl | rfl | rfl <;> exact ⟨rfl, rfl, by decide⟩
theorem lyD (d : Nat) (h : isD d) : ΛC[d]? = some (.inl (1, fsD d)) := by rcases h with rfl | rfl <;> rfl
theorem rD_li (d : Nat) (h : isD d) : rowAt (d + 1) (d + 5) 8 := by rcases h with rfl | rfl <;> exact ⟨rfl, rfl, by decide⟩
theorem rD_fl (d : Nat) (h : isD d) : rowAt (d + 2) (d + 6) 8 := by rcases h with rfl | rfl <;> exact ⟨rfl, rfl, by decide⟩
theorem rD_wt (d : Nat) (h : isD d) : rowAt (d + 3) (d + 7) 8 := by rcases h with rfl | rfl <;> exact ⟨rfl, rfl, by decide⟩
theorem rD_lt (d : Nat) (h : isD d) : rowAt (d + 4) (d + 8) 8 := by rcases h with rfl | rfl <;> exact ⟨rfl, rfl, by decide⟩
theorem lyV : ΛC[93]? = some (.inl (5, fsV)) := rfl
theorem rV_lt : rowAt 94 98 3072 := ⟨rfl, rfl, by decide⟩
theorem rV_cv : rowAt 95 99 384 := ⟨rfl, rfl, by decide⟩
theorem rV_br : rowAt 96 100 384 := ⟨rfl, rfl, by decide⟩
theorem rV_st : rowAt 97 101 384 := ⟨rfl, rfl, by decide⟩
theorem rC_by : rowAt 103 105 150 := ⟨rfl, rfl, by decide⟩
theorem rC_nu : rowAt 104 106 5 := ⟨rfl, rfl, by decide⟩
theorem lyC : ΛC[102]? = some (.inl (0, fsC)) := rfl
theorem lyH : ΛC[107]? = some (.inl (2, fsH)) := rfl
theorem lyHa : ΛC[108]? = some (.inr (.inr [15, 30, 45, 60])) := rfl
theorem lyL : ΛC[109]? = some (.inl (6, fsL)) := rfl
theorem lyM : ΛM[0]? = some (.inl (7, fsM)) := rfl
theorem lyM1 : ΛM[1]? = some (leA 486) := rfl
theorem lyM2 : ΛM[2]? = some (leA 1944) := rfl
theorem lyM3 : ΛM[3]? = some (leA 486) := rfl
theorem lyM4 : ΛM[4]? = some (leA 150) := rfl
theorem lyM5 : ΛM[5]? = some (leA 8) := rfl
theorem lyM6 : ΛM[6]? = some (leA 8) := rfl
theorem lyM7 : ΛM[7]? = some (leA 8) := rfl
theorem lyM8 : ΛM[8]? = some (leA 5) := rfl
theorem vc0 : vwCl[0]? = some (RX0, TX0, 6) := rfl
theorem iw0 : ∀ w ∈ u_ws RX0 TX0 6, w ∈ WS := by decide +kernel
theorem vc1 : vwCl[1]? = some (RX1, TX1, 8) := rfl
theorem iw1 : ∀ w ∈ u_ws RX1 TX1 8, w ∈ WS := by decide +kernel
theorem vc2 : vwCl[2]? = some (RX2, TX2, 3) := rfl
theorem iw2 : ∀ w ∈ u_ws RX2 TX2 3, w ∈ WS := by decide +kernel
theorem vc3 : vwCl[3]? = some (RX3, TX3, 1) := rfl
theorem iw3 : ∀ w ∈ u_ws RX3 TX3 1, w ∈ WS := by decide +kernel
theorem vc4 : vwCl[4]? = some (RX4, TX4, 14) := rfl
theorem iw4 : ∀ w ∈ u_ws RX4 TX4 14, w ∈ WS := by decide +kernel
theorem vc5 : vwCl[5]? = some (RX5, TX5, 6) := rfl
theorem iw5 : ∀ w ∈ u_ws RX5 TX5 6, w ∈ WS := by decide +kernel
theorem vc6 : vwCl[6]? = some (RX6, TX6, 5) := rfl
theorem iw6 : ∀ w ∈ u_ws RX6 TX6 5, w ∈ WS := by decide +kernel
theorem vc7 : vwCl[7]? = some (RX7, TX7, 23) := rfl
theorem iw7 : ∀ w ∈ u_ws RX7 TX7 23, w ∈ WS := by decide +kernel
theorem kw_0 : Cond.selects "LampMural" ⟨"LampMural", "wrongIfFailed", "(I)I"⟩ ⟨"LampMural", "wrongIfFailed", "(I)I"⟩ ∈ WS := mW 0 (by decide +kernel) (by decide +kernel)
theorem kw_1 : Cond.selects "LampMural$Dimmer" ⟨"LampMural$Dimmer", "shareOut", "(I)V"⟩ ⟨"LampMural$Dimmer", "shareOut", "(I)V"⟩ ∈ WS := mW 1 (by decide +kernel) (by decide +kernel)
theorem kw_2 : Cond.selects "LampMural$Dimmer" ⟨"LampMural$Dimmer", "keepToLimits", "()V"⟩ ⟨"LampMural$Dimmer", "keepToLimits", "()V"⟩ ∈ WS := mW 2 (by decide +kernel) (by decide +kernel)
theorem kw_3 : Cond.selects "LampMural$Dimmer" ⟨"LampMural$Dimmer", "balance", "(I)V"⟩ ⟨"LampMural$Dimmer", "balance", "(I)V"⟩ ∈ WS := mW 3 (by decide +kernel) (by decide +kernel)
theorem kw_4 : Cond.selects "LampMural$Dimmer" ⟨"LampMural$Dimmer", "stateFor", "(I)I"⟩ ⟨"LampMural$Dimmer", "stateFor", "(I)I"⟩ ∈ WS := mW 4 (by decide +kernel) (by decide +kernel)
theorem kw_5 : Cond.selects "LampMural$CommandText" ⟨"LampMural$CommandText", "skipSpaces", "()V"⟩ ⟨"LampMural$CommandText", "skipSpaces", "()V"⟩ ∈ WS := mW 5 (by decide +kernel) (by decide +kernel)
theorem kw_6 : Cond.selects "LampMural$CommandText" ⟨"LampMural$CommandText", "readWord", "()Z"⟩ ⟨"LampMural$CommandText", "readWord", "()Z"⟩ ∈ WS := mW 6 (by decide +kernel) (by decide +kernel)
theorem kw_7 : Cond.selects "LampMural$CommandText" ⟨"LampMural$CommandText", "wordBetween", "(II)I"⟩ ⟨"LampMural$CommandText", "wordBetween", "(II)I"⟩ ∈ WS := mW 7 (by decide +kernel) (by decide +kernel)
theorem kw_8 : Cond.selects "LampMural$CommandText" ⟨"LampMural$CommandText", "isWord", "(Ljava/lang/String;II)Z"⟩ ⟨"LampMural$CommandText", "isWord", "(Ljava/lang/String;II)Z"⟩ ∈ WS := mW 8 (by decide +kernel) (by decide +kernel)
theorem kw_9 : Cond.selects "LampMural$CommandText" ⟨"LampMural$CommandText", "failAt", "(I)Z"⟩ ⟨"LampMural$CommandText", "failAt", "(I)Z"⟩ ∈ WS := mW 9 (by decide +kernel) (by decide +kernel)
theorem kw_10 : Cond.selects "LampMural$CommandText" ⟨"LampMural$CommandText", "readNumber", "(I)Z"⟩ ⟨"LampMural$CommandText", "readNumber", "(I)Z"⟩ ∈ WS := mW 10 (by decide +kernel) (by decide +kernel)
theorem kw_11 : Cond.selects "LampMural$History" ⟨"LampMural$History", "latestSlot", "()LLampMural$Scene;"⟩ ⟨"LampMural$History", "latestSlot", "()LLampMural$Scene;"⟩ ∈ WS := mW 11 (by decide +kernel) (by decide +kernel)
theorem kw_12 : Cond.selects "LampMural" ⟨"LampMural", "carryOut", "()Z"⟩ ⟨"LampMural", "carryOut", "()Z"⟩ ∈ WS := mW 12 (by decide +kernel) (by decide +kernel)
theorem kw_13 : Cond.selects "LampMural" ⟨"LampMural", "faultOfCommand", "(IIIII)I"⟩ ⟨"LampMural", "faultOfCommand", "(IIIII)I"⟩ ∈ WS := mW 13 (by decide +kernel) (by decide +kernel)
theorem kw_14 : Cond.selects "LampMural" ⟨"LampMural", "faultOfPainting", "(IIIII)I"⟩ ⟨"LampMural", "faultOfPainting", "(IIIII)I"⟩ ∈ WS := mW 14 (by decide +kernel) (by decide +kernel)
theorem kw_15 : Cond.selects "LampMural" ⟨"LampMural", "faultOfNewLamp", "(II)I"⟩ ⟨"LampMural", "faultOfNewLamp", "(II)I"⟩ ∈ WS := mW 15 (by decide +kernel) (by decide +kernel)
theorem kw_16 : Cond.selects "LampMural" ⟨"LampMural", "faultOfCorner", "(IIII)I"⟩ ⟨"LampMural", "faultOfCorner", "(IIII)I"⟩ ∈ WS := mW 16 (by decide +kernel) (by decide +kernel)
theorem kw_17 : Cond.selects "LampMural" ⟨"LampMural", "faultOfLamp", "(I)I"⟩ ⟨"LampMural", "faultOfLamp", "(I)I"⟩ ∈ WS := mW 17 (by decide +kernel) (by decide +kernel)
theorem kw_18 : Cond.selects "LampMural" ⟨"LampMural", "burnHours", "(I)V"⟩ ⟨"LampMural", "burnHours", "(I)V"⟩ ∈ WS := mW 18 (by decide +kernel) (by decide +kernel)
theorem kw_19 : Cond.selects "LampMural$Survey" ⟨"LampMural$Survey", "keepPlace", "()V"⟩ ⟨"LampMural$Survey", "keepPlace", "()V"⟩ ∈ WS := mW 19 (by decide +kernel) (by decide +kernel)
theorem kw_20 : Cond.selects "LampMural" ⟨"LampMural", "wholeValue", "(I)I"⟩ ⟨"LampMural", "wholeValue", "(I)I"⟩ ∈ WS := mW 20 (by decide +kernel) (by decide +kernel)
theorem kw_21 : Cond.selects "LampMural" ⟨"LampMural", "addLampTo", "(JI)J"⟩ ⟨"LampMural", "addLampTo", "(JI)J"⟩ ∈ WS := mW 21 (by decide +kernel) (by decide +kernel)
theorem kw_22 : Cond.selects "LampMural" ⟨"LampMural", "lampValue", "(II)I"⟩ ⟨"LampMural", "lampValue", "(II)I"⟩ ∈ WS := mW 22 (by decide +kernel) (by decide +kernel)
theorem kw_23 : Cond.selects "LampMural" ⟨"LampMural", "addPlaceTo", "(JI)J"⟩ ⟨"LampMural", "addPlaceTo", "(JI)J"⟩ ∈ WS := mW 23 (by decide +kernel) (by decide +kernel)
theorem kw_24 : Cond.selects "LampMural" ⟨"LampMural", "placeValue", "(II)I"⟩ ⟨"LampMural", "placeValue", "(II)I"⟩ ∈ WS := mW 24 (by decide +kernel) (by decide +kernel)
theorem kw_26 : Cond.selects "LampMural" ⟨"LampMural", "faultOfRectangle", "(IIIII)I"⟩ ⟨"LampMural", "faultOfRectangle", "(IIIII)I"⟩ ∈ WS := mW 26 (by decide +kernel) (by decide +kernel)
theorem kw_27 : Cond.selects "LampMural" ⟨"LampMural", "faultOfLampValue", "(III)I"⟩ ⟨"LampMural", "faultOfLampValue", "(III)I"⟩ ∈ WS := mW 27 (by decide +kernel) (by decide +kernel)
theorem kw_28 : Cond.selects "LampMural" ⟨"LampMural", "faultOfPlace", "(II)I"⟩ ⟨"LampMural", "faultOfPlace", "(II)I"⟩ ∈ WS := mW 28 (by decide +kernel) (by decide +kernel)
theorem kw_29 : Cond.selects "LampMuralModel" ⟨"LampMuralModel", "fails", "(I)I"⟩ ⟨"LampMuralModel", "fails", "(I)I"⟩ ∈ WS := mW 29 (by decide +kernel) (by decide +kernel)
theorem kw_30 : Cond.selects "LampMuralModel" ⟨"LampMuralModel", "tells", "(I)I"⟩ ⟨"LampMuralModel", "tells", "(I)I"⟩ ∈ WS := mW 30 (by decide +kernel) (by decide +kernel)
theorem kw_31 : Cond.selects "LampMuralModel" ⟨"LampMuralModel", "laysAside", "()V"⟩ ⟨"LampMuralModel", "laysAside", "()V"⟩ ∈ WS := mW 31 (by decide +kernel) (by decide +kernel)
theorem kw_32 : Cond.selects "LampMuralModel" ⟨"LampMuralModel", "begins", "(II)I"⟩ ⟨"LampMuralModel", "begins", "(II)I"⟩ ∈ WS := mW 32 (by decide +kernel) (by decide +kernel)
theorem kw_33 : Cond.selects "LampMuralModel" ⟨"LampMuralModel", "ends", "(I)I"⟩ ⟨"LampMuralModel", "ends", "(I)I"⟩ ∈ WS := mW 33 (by decide +kernel) (by decide +kernel)
theorem kw_34 : Cond.selects "LampMuralModel" ⟨"LampMuralModel", "saves", "()V"⟩ ⟨"LampMuralModel", "saves", "()V"⟩ ∈ WS := mW 34 (by decide +kernel) (by decide +kernel)
theorem kw_35 : Cond.selects "LampMuralModel" ⟨"LampMuralModel", "paints", "(IIIII)I"⟩ ⟨"LampMuralModel", "paints", "(IIIII)I"⟩ ∈ WS := mW 35 (by decide +kernel) (by decide +kernel)
theorem kw_36 : Cond.selects "LampMuralModel" ⟨"LampMuralModel", "isPlace", "(II)Z"⟩ ⟨"LampMuralModel", "isPlace", "(II)Z"⟩ ∈ WS := mW 36 (by decide +kernel) (by decide +kernel)
theorem kw_37 : Cond.selects "LampMuralModel" ⟨"LampMuralModel", "target", "(II)I"⟩ ⟨"LampMuralModel", "target", "(II)I"⟩ ∈ WS := mW 37 (by decide +kernel) (by decide +kernel)
theorem kw_38 : Cond.selects "LampMuralModel" ⟨"LampMuralModel", "adds", "(II)I"⟩ ⟨"LampMuralModel", "adds", "(II)I"⟩ ∈ WS := mW 38 (by decide +kernel) (by decide +kernel)
theorem kw_39 : Cond.selects "LampMuralModel" ⟨"LampMuralModel", "put", "(III)V"⟩ ⟨"LampMuralModel", "put", "(III)V"⟩ ∈ WS := mW 39 (by decide +kernel) (by decide +kernel)
theorem kw_40 : Cond.selects "LampMuralModel" ⟨"LampMuralModel", "corners", "(IIII)I"⟩ ⟨"LampMuralModel", "corners", "(IIII)I"⟩ ∈ WS := mW 40 (by decide +kernel) (by decide +kernel)
theorem kw_41 : Cond.selects "LampMuralModel" ⟨"LampMuralModel", "isLamp", "(I)Z"⟩ ⟨"LampMuralModel", "isLamp", "(I)Z"⟩ ∈ WS := mW 41 (by decide +kernel) (by decide +kernel)
theorem kw_42 : Cond.selects "LampMuralModel" ⟨"LampMuralModel", "isGood", "(I)Z"⟩ ⟨"LampMuralModel", "isGood", "(I)Z"⟩ ∈ WS := mW 42 (by decide +kernel) (by decide +kernel)
theorem kw_43 : Cond.selects "LampMuralModel" ⟨"LampMuralModel", "pointX", "(II)I"⟩ ⟨"LampMuralModel", "pointX", "(II)I"⟩ ∈ WS := mW 43 (by decide +kernel) (by decide +kernel)
theorem kw_44 : Cond.selects "LampMuralModel" ⟨"LampMuralModel", "of", "(II)I"⟩ ⟨"LampMuralModel", "of", "(II)I"⟩ ∈ WS := mW 44 (by decide +kernel) (by decide +kernel)
theorem kw_45 : Cond.selects "LampMuralModel" ⟨"LampMuralModel", "pointY", "(II)I"⟩ ⟨"LampMuralModel", "pointY", "(II)I"⟩ ∈ WS := mW 45 (by decide +kernel) (by decide +kernel)
theorem kw_46 : Cond.selects "LampMuralModel" ⟨"LampMuralModel", "sums", "(I)V"⟩ ⟨"LampMuralModel", "sums", "(I)V"⟩ ∈ WS := mW 46 (by decide +kernel) (by decide +kernel)
theorem kw_47 : Cond.selects "LampMuralModel" ⟨"LampMuralModel", "shines", "(II)V"⟩ ⟨"LampMuralModel", "shines", "(II)V"⟩ ∈ WS := mW 47 (by decide +kernel) (by decide +kernel)
theorem kw_48 : Cond.selects "LampMuralModel" ⟨"LampMuralModel", "weighs", "(II)V"⟩ ⟨"LampMuralModel", "weighs", "(II)V"⟩ ∈ WS := mW 48 (by decide +kernel) (by decide +kernel)
theorem kw_49 : Cond.selects "LampMuralModel" ⟨"LampMuralModel", "weightAt", "(III)I"⟩ ⟨"LampMuralModel", "weightAt", "(III)I"⟩ ∈ WS := mW 49 (by decide +kernel) (by decide +kernel)
theorem kw_50 : Cond.selects "LampMuralModel" ⟨"LampMuralModel", "shares", "(I)V"⟩ ⟨"LampMuralModel", "shares", "(I)V"⟩ ∈ WS := mW 50 (by decide +kernel) (by decide +kernel)
theorem kw_51 : Cond.selects "LampMuralModel" ⟨"LampMuralModel", "isOn", "(I)Z"⟩ ⟨"LampMuralModel", "isOn", "(I)Z"⟩ ∈ WS := mW 51 (by decide +kernel) (by decide +kernel)
theorem kw_52 : Cond.selects "LampMuralModel" ⟨"LampMuralModel", "limit", "(I)I"⟩ ⟨"LampMuralModel", "limit", "(I)I"⟩ ∈ WS := mW 52 (by decide +kernel) (by decide +kernel)
theorem kw_53 : Cond.selects "LampMuralModel" ⟨"LampMuralModel", "floor", "(I)I"⟩ ⟨"LampMuralModel", "floor", "(I)I"⟩ ∈ WS := mW 53 (by decide +kernel) (by decide +kernel)
theorem kw_54 : Cond.selects "LampMuralModel" ⟨"LampMuralModel", "sumOfLights", "()I"⟩ ⟨"LampMuralModel", "sumOfLights", "()I"⟩ ∈ WS := mW 54 (by decide +kernel) (by decide +kernel)
theorem kw_55 : Cond.selects "LampMuralModel" ⟨"LampMuralModel", "works", "(IZ)I"⟩ ⟨"LampMuralModel", "works", "(IZ)I"⟩ ∈ WS := mW 55 (by decide +kernel) (by decide +kernel)
theorem kw_56 : Cond.selects "LampMuralModel" ⟨"LampMuralModel", "shifts", "(II)I"⟩ ⟨"LampMuralModel", "shifts", "(II)I"⟩ ∈ WS := mW 56 (by decide +kernel) (by decide +kernel)
theorem kw_57 : Cond.selects "LampMuralModel" ⟨"LampMuralModel", "wrongOnes", "()I"⟩ ⟨"LampMuralModel", "wrongOnes", "()I"⟩ ∈ WS := mW 57 (by decide +kernel) (by decide +kernel)
theorem kw_58 : Cond.selects "LampMuralModel" ⟨"LampMuralModel", "state", "(II)I"⟩ ⟨"LampMuralModel", "state", "(II)I"⟩ ∈ WS := mW 58 (by decide +kernel) (by decide +kernel)
theorem kw_59 : Cond.selects "LampMuralModel" ⟨"LampMuralModel", "burns", "(I)I"⟩ ⟨"LampMuralModel", "burns", "(I)I"⟩ ∈ WS := mW 59 (by decide +kernel) (by decide +kernel)
theorem kw_60 : Cond.selects "LampMuralModel" ⟨"LampMuralModel", "load", "(I)I"⟩ ⟨"LampMuralModel", "load", "(I)I"⟩ ∈ WS := mW 60 (by decide +kernel) (by decide +kernel)
theorem kw_61 : Cond.selects "LampMuralModel" ⟨"LampMuralModel", "placeOf", "(III)I"⟩ ⟨"LampMuralModel", "placeOf", "(III)I"⟩ ∈ WS := mW 61 (by decide +kernel) (by decide +kernel)
theorem kw_62 : Cond.selects "LampMuralModel" ⟨"LampMuralModel", "limits", "(Z)I"⟩ ⟨"LampMuralModel", "limits", "(Z)I"⟩ ∈ WS := mW 62 (by decide +kernel) (by decide +kernel)
theorem kw_63 : Cond.selects "LampMuralModel" ⟨"LampMuralModel", "lightOf", "(III)I"⟩ ⟨"LampMuralModel", "lightOf", "(III)I"⟩ ∈ WS := mW 63 (by decide +kernel) (by decide +kernel)
theorem kw_64 : Cond.selects "LampMuralModel" ⟨"LampMuralModel", "lampOf", "(II)I"⟩ ⟨"LampMuralModel", "lampOf", "(II)I"⟩ ∈ WS := mW 64 (by decide +kernel) (by decide +kernel)
theorem kw_65 : Cond.selects "LampMuralModel" ⟨"LampMuralModel", "wholeOf", "(I)I"⟩ ⟨"LampMuralModel", "wholeOf", "(I)I"⟩ ∈ WS := mW 65 (by decide +kernel) (by decide +kernel)
theorem kw_66 : Cond.selects "LampMuralModel" ⟨"LampMuralModel", "working", "()I"⟩ ⟨"LampMuralModel", "working", "()I"⟩ ∈ WS := mW 66 (by decide +kernel) (by decide +kernel)
theorem kw_67 : Cond.selects "LampMuralModel" ⟨"LampMuralModel", "overPlaces", "(I)I"⟩ ⟨"LampMuralModel", "overPlaces", "(I)I"⟩ ∈ WS := mW 67 (by decide +kernel) (by decide +kernel)
theorem kw_68 : Cond.selects "LampMuralModel" ⟨"LampMuralModel", "wrongBut", "(I)I"⟩ ⟨"LampMuralModel", "wrongBut", "(I)I"⟩ ∈ WS := mW 68 (by decide +kernel) (by decide +kernel)
theorem kw_69 : Cond.selects "LampMuralModel" ⟨"LampMuralModel", "wrongBy", "(II)I"⟩ ⟨"LampMuralModel", "wrongBy", "(II)I"⟩ ∈ WS := mW 69 (by decide +kernel) (by decide +kernel)
theorem kw_70 : Cond.selects "LampMuralModel" ⟨"LampMuralModel", "bringsBack", "()V"⟩ ⟨"LampMuralModel", "bringsBack", "()V"⟩ ∈ WS := mW 70 (by decide +kernel) (by decide +kernel)
theorem kw_71 : Cond.selects "LampMuralModel" ⟨"LampMuralModel", "faultOfText", "()I"⟩ ⟨"LampMuralModel", "faultOfText", "()I"⟩ ∈ WS := mW 71 (by decide +kernel) (by decide +kernel)
theorem kw_72 : Cond.selects "LampMuralModel" ⟨"LampMuralModel", "skips", "()Z"⟩ ⟨"LampMuralModel", "skips", "()Z"⟩ ∈ WS := mW 72 (by decide +kernel) (by decide +kernel)
theorem kw_73 : Cond.selects "LampMuralModel" ⟨"LampMuralModel", "here", "()I"⟩ ⟨"LampMuralModel", "here", "()I"⟩ ∈ WS := mW 73 (by decide +kernel) (by decide +kernel)
theorem kw_74 : Cond.selects "LampMuralModel" ⟨"LampMuralModel", "isCommand", "()Z"⟩ ⟨"LampMuralModel", "isCommand", "()Z"⟩ ∈ WS := mW 74 (by decide +kernel) (by decide +kernel)
theorem kw_75 : Cond.selects "LampMuralModel" ⟨"LampMuralModel", "wordFrom", "(I)I"⟩ ⟨"LampMuralModel", "wordFrom", "(I)I"⟩ ∈ WS := mW 75 (by decide +kernel) (by decide +kernel)
theorem kw_76 : Cond.selects "LampMuralModel" ⟨"LampMuralModel", "isWord", "(IIIIII)Z"⟩ ⟨"LampMuralModel", "isWord", "(IIIIII)Z"⟩ ∈ WS := mW 76 (by decide +kernel) (by decide +kernel)
theorem kw_77 : Cond.selects "LampMuralModel" ⟨"LampMuralModel", "isNumber", "(I)Z"⟩ ⟨"LampMuralModel", "isNumber", "(I)Z"⟩ ∈ WS := mW 77 (by decide +kernel) (by decide +kernel)
theorem kw_78 : Cond.selects "LampMuralModel" ⟨"LampMuralModel", "does", "()I"⟩ ⟨"LampMuralModel", "does", "()I"⟩ ∈ WS := mW 78 (by decide +kernel) (by decide +kernel)
theorem kw_79 : Cond.selects "LampMuralModel" ⟨"LampMuralModel", "mix", "(I)V"⟩ ⟨"LampMuralModel", "mix", "(I)V"⟩ ∈ WS := mW 79 (by decide +kernel) (by decide +kernel)
theorem kw_80 : Cond.selects "LampMuralModel" ⟨"LampMuralModel", "mixPlace", "(II)V"⟩ ⟨"LampMuralModel", "mixPlace", "(II)V"⟩ ∈ WS := mW 80 (by decide +kernel) (by decide +kernel)
theorem kw_82 : Cond.initialized "LampMural" ∈ WS := mW 82 (by decide +kernel) (by decide +kernel)
theorem kw_83 : Cond.initialized "LampMural$Scene" ∈ WS := mW 83 (by decide +kernel) (by decide +kernel)
theorem kw_84 : Cond.initialized "LampMural$Row" ∈ WS := mW 84 (by decide +kernel) (by decide +kernel)
theorem kw_85 : Cond.initialized "LampMural$Survey" ∈ WS := mW 85 (by decide +kernel) (by decide +kernel)
theorem kw_86 : Cond.initialized "LampMural$Dimmer" ∈ WS := mW 86 (by decide +kernel) (by decide +kernel)
theorem kw_87 : Cond.initialized "LampMural$History" ∈ WS := mW 87 (by decide +kernel) (by decide +kernel)
theorem kw_88 : Cond.initialized "LampMural$CommandText" ∈ WS := mW 88 (by decide +kernel) (by decide +kernel)
theorem kw_89 : Cond.initialized "LampMuralModel" ∈ WS := mW 89 (by decide +kernel) (by decide +kernel)
theorem kw_94 : Cond.initialized "java/lang/Math" ∈ WS := mW 94 (by decide +kernel) (by decide +kernel)
theorem kw_97 : Cond.initialized "java/lang/Integer" ∈ WS := mW 97 (by decide +kernel) (by decide +kernel)
theorem kw_98 : Cond.initialized "java/lang/String" ∈ WS := mW 98 (by decide +kernel) (by decide +kernel)
theorem kw_99 : Cond.initialized "java/lang/StringLatin1" ∈ WS := mW 99 (by decide +kernel) (by decide +kernel)
theorem kw_100 : Cond.initialized "jdk/internal/util/Preconditions" ∈ WS := mW 100 (by decide +kernel) (by decide +kernel)
theorem kw_122 : Cond.fieldLink "LampMural$Row" 7 "LampMural$Row" "cells" "[I" ∈ WS := mW 122 (by decide +kernel) (by decide +kernel)
theorem kw_127 : Cond.fieldLink "LampMural$Scene" 9 "LampMural$Scene" "columns" "I" ∈ WS := mW 127 (by decide +kernel) (by decide +kernel)
theorem kw_131 : Cond.fieldLink "LampMural$Scene" 15 "LampMural$Scene" "rows" "I" ∈ WS := mW 131 (by decide +kernel) (by decide +kernel)
theorem kw_135 : Cond.fieldLink "LampMural$Scene" 49 "LampMural$Scene" "shiftX" "I" ∈ WS := mW 135 (by decide +kernel) (by decide +kernel)
theorem kw_138 : Cond.fieldLink "LampMural$Scene" 52 "LampMural$Scene" "shiftY" "I" ∈ WS := mW 138 (by decide +kernel) (by decide +kernel)
theorem kw_141 : Cond.fieldLink "LampMural$Scene" 55 "LampMural$Scene" "hours" "I" ∈ WS := mW 141 (by decide +kernel) (by decide +kernel)
theorem kw_143 : Cond.fieldLink "LampMural$Scene" 58 "LampMural$Scene" "lampCount" "I" ∈ WS := mW 143 (by decide +kernel) (by decide +kernel)
theorem kw_145 : Cond.fieldLink "LampMural$Scene" 18 "LampMural$Scene" "changed" "Z" ∈ WS := mW 145 (by decide +kernel) (by decide +kernel)
theorem kw_147 : Cond.fieldLink "LampMural$Scene" 27 "LampMural$Scene" "targets" "LLampMural$Row;" ∈ WS := mW 147 (by decide +kernel) (by decide +kernel)
theorem kw_148 : Cond.fieldLink "LampMural$Scene" 31 "LampMural$Scene" "greatest" "LLampMural$Row;" ∈ WS := mW 148 (by decide +kernel) (by decide +kernel)
theorem kw_150 : Cond.fieldLink "LampMural$Scene" 34 "LampMural$Scene" "least" "LLampMural$Row;" ∈ WS := mW 150 (by decide +kernel) (by decide +kernel)
theorem kw_152 : Cond.fieldLink "LampMural$Scene" 37 "LampMural$Scene" "wear" "LLampMural$Row;" ∈ WS := mW 152 (by decide +kernel) (by decide +kernel)
theorem kw_154 : Cond.fieldLink "LampMural$Scene" 40 "LampMural$Scene" "working" "LLampMural$Row;" ∈ WS := mW 154 (by decide +kernel) (by decide +kernel)
theorem kw_155 : Cond.fieldLink "LampMural$Scene" 43 "LampMural$Scene" "cornersX" "LLampMural$Row;" ∈ WS := mW 155 (by decide +kernel) (by decide +kernel)
theorem kw_156 : Cond.fieldLink "LampMural$Scene" 46 "LampMural$Scene" "cornersY" "LLampMural$Row;" ∈ WS := mW 156 (by decide +kernel) (by decide +kernel)
theorem kw_200 : Cond.fieldLink "LampMural$Dimmer" 14 "LampMural$Dimmer" "limits" "LLampMural$Row;" ∈ WS := mW 200 (by decide +kernel) (by decide +kernel)
theorem kw_201 : Cond.fieldLink "LampMural$Dimmer" 20 "LampMural$Dimmer" "floors" "LLampMural$Row;" ∈ WS := mW 201 (by decide +kernel) (by decide +kernel)
theorem kw_202 : Cond.fieldLink "LampMural$Dimmer" 23 "LampMural$Dimmer" "weights" "LLampMural$Row;" ∈ WS := mW 202 (by decide +kernel) (by decide +kernel)
theorem kw_203 : Cond.fieldLink "LampMural$Dimmer" 26 "LampMural$Dimmer" "lights" "LLampMural$Row;" ∈ WS := mW 203 (by decide +kernel) (by decide +kernel)
theorem kw_205 : Cond.fieldLink "LampMural$Dimmer" 29 "LampMural$Dimmer" "shining" "I" ∈ WS := mW 205 (by decide +kernel) (by decide +kernel)
theorem kw_207 : Cond.fieldLink "LampMural$Dimmer" 73 "LampMural$Dimmer" "covering" "I" ∈ WS := mW 207 (by decide +kernel) (by decide +kernel)
theorem kw_209 : Cond.fieldLink "LampMural$Dimmer" 107 "LampMural$Dimmer" "brightness" "I" ∈ WS := mW 209 (by decide +kernel) (by decide +kernel)
theorem kw_211 : Cond.fieldLink "LampMural$Dimmer" 70 "LampMural$Dimmer" "state" "I" ∈ WS := mW 211 (by decide +kernel) (by decide +kernel)
theorem kw_231 : Cond.fieldLink "LampMural$Survey" 12 "LampMural$Survey" "dimmer" "LLampMural$Dimmer;" ∈ WS := mW 231 (by decide +kernel) (by decide +kernel)
theorem kw_232 : Cond.fieldLink "LampMural$Survey" 23 "LampMural$Survey" "lights" "LLampMural$Row;" ∈ WS := mW 232 (by decide +kernel) (by decide +kernel)
theorem kw_233 : Cond.fieldLink "LampMural$Survey" 27 "LampMural$Survey" "covering" "LLampMural$Row;" ∈ WS := mW 233 (by decide +kernel) (by decide +kernel)
theorem kw_234 : Cond.fieldLink "LampMural$Survey" 30 "LampMural$Survey" "brightness" "LLampMural$Row;" ∈ WS := mW 234 (by decide +kernel) (by decide +kernel)
theorem kw_235 : Cond.fieldLink "LampMural$Survey" 33 "LampMural$Survey" "states" "LLampMural$Row;" ∈ WS := mW 235 (by decide +kernel) (by decide +kernel)
theorem kw_236 : Cond.fieldLink "LampMural$Survey" 50 "LampMural$Survey" "places" "I" ∈ WS := mW 236 (by decide +kernel) (by decide +kernel)
theorem kw_261 : Cond.fieldLink "LampMural$History" 11 "LampMural$History" "saved" "[LLampMural$Scene;" ∈ WS := mW 261 (by decide +kernel) (by decide +kernel)
theorem kw_262 : Cond.fieldLink "LampMural$History" 18 "LampMural$History" "latest" "I" ∈ WS := mW 262 (by decide +kernel) (by decide +kernel)
theorem kw_263 : Cond.fieldLink "LampMural$History" 30 "LampMural$History" "count" "I" ∈ WS := mW 263 (by decide +kernel) (by decide +kernel)
theorem kw_280 : Cond.fieldLink "LampMural$CommandText" 14 "LampMural$CommandText" "bytes" "LLampMural$Row;" ∈ WS := mW 280 (by decide +kernel) (by decide +kernel)
theorem kw_281 : Cond.fieldLink "LampMural$CommandText" 20 "LampMural$CommandText" "numbers" "LLampMural$Row;" ∈ WS := mW 281 (by decide +kernel) (by decide +kernel)
theorem kw_282 : Cond.fieldLink "LampMural$CommandText" 30 "LampMural$CommandText" "length" "I" ∈ WS := mW 282 (by decide +kernel) (by decide +kernel)
theorem kw_284 : Cond.fieldLink "LampMural$CommandText" 40 "LampMural$CommandText" "position" "I" ∈ WS := mW 284 (by decide +kernel) (by decide +kernel)
theorem kw_285 : Cond.fieldLink "LampMural$CommandText" 23 "LampMural$CommandText" "fault" "I" ∈ WS := mW 285 (by decide +kernel) (by decide +kernel)
theorem kw_286 : Cond.fieldLink "LampMural$CommandText" 27 "LampMural$CommandText" "word" "I" ∈ WS := mW 286 (by decide +kernel) (by decide +kernel)
theorem kw_301 : Cond.fieldLink "LampMural" 12 "LampMural" "scene" "LLampMural$Scene;" ∈ WS := mW 301 (by decide +kernel) (by decide +kernel)
theorem kw_302 : Cond.fieldLink "LampMural" 19 "LampMural" "survey" "LLampMural$Survey;" ∈ WS := mW 302 (by decide +kernel) (by decide +kernel)
theorem kw_303 : Cond.fieldLink "LampMural" 26 "LampMural" "whatIf" "LLampMural$Dimmer;" ∈ WS := mW 303 (by decide +kernel) (by decide +kernel)
theorem kw_304 : Cond.fieldLink "LampMural" 33 "LampMural" "history" "LLampMural$History;" ∈ WS := mW 304 (by decide +kernel) (by decide +kernel)
theorem kw_305 : Cond.fieldLink "LampMural" 40 "LampMural" "commands" "LLampMural$CommandText;" ∈ WS := mW 305 (by decide +kernel) (by decide +kernel)
theorem kw_318 : Cond.instanceMethod ⟨"LampMural", "dearestLamp", "()I"⟩ ∈ WS := mW 318 (by decide +kernel) (by decide +kernel)
theorem kw_319 : Cond.selects "LampMural" ⟨"LampMural", "dearestLamp", "()I"⟩ ⟨"LampMural", "dearestLamp", "()I"⟩ ∈ WS := mW 319 (by decide +kernel) (by decide +kernel)
theorem kw_320 : Cond.code ⟨"LampMural", "dearestLamp", "()I"⟩ prog_1_method_19_code 5 (some FieldType.int) ∈ WS := mW 320 (by decide +kernel) (by decide +kernel)
theorem kw_321 : Cond.methodLink "LampMural" 195 ⟨"LampMural", "wrongIfFailed", "(I)I"⟩ ∈ WS := mW 321 (by decide +kernel) (by decide +kernel)
theorem kw_323 : Cond.instanceMethod ⟨"LampMural", "wrongIfFailed", "(I)I"⟩ ∈ WS := mW 323 (by decide +kernel) (by decide +kernel)
theorem kw_324 : Cond.code ⟨"LampMural", "wrongIfFailed", "(I)I"⟩ prog_1_method_33_code 3 (some FieldType.int) ∈ WS := mW 324 (by decide +kernel) (by decide +kernel)
theorem kw_325 : Cond.methodLink "LampMural" 201 ⟨"LampMural$Scene", "shiningLamps", "()I"⟩ ∈ WS := mW 325 (by decide +kernel) (by decide +kernel)
theorem kw_326 : Cond.instanceMethod ⟨"LampMural$Scene", "shiningLamps", "()I"⟩ ∈ WS := mW 326 (by decide +kernel) (by decide +kernel)
theorem kw_327 : Cond.selects "LampMural$Scene" ⟨"LampMural$Scene", "shiningLamps", "()I"⟩ ⟨"LampMural$Scene", "shiningLamps", "()I"⟩ ∈ WS := mW 327 (by decide +kernel) (by decide +kernel)
theorem kw_328 : Cond.code ⟨"LampMural$Scene", "shiningLamps", "()I"⟩ prog_6_method_27_code 3 (some FieldType.int) ∈ WS := mW 328 (by decide +kernel) (by decide +kernel)
theorem kw_329 : Cond.methodLink "LampMural$Scene" 106 ⟨"LampMural$Scene", "isWorking", "(I)Z"⟩ ∈ WS := mW 329 (by decide +kernel) (by decide +kernel)
theorem kw_330 : Cond.instanceMethod ⟨"LampMural$Scene", "isWorking", "(I)Z"⟩ ∈ WS := mW 330 (by decide +kernel) (by decide +kernel)
theorem kw_331 : Cond.selects "LampMural$Scene" ⟨"LampMural$Scene", "isWorking", "(I)Z"⟩ ⟨"LampMural$Scene", "isWorking", "(I)Z"⟩ ∈ WS := mW 331 (by decide +kernel) (by decide +kernel)
theorem kw_332 : Cond.code ⟨"LampMural$Scene", "isWorking", "(I)Z"⟩ prog_6_method_19_code 2 (some FieldType.boolean) ∈ WS := mW 332 (by decide +kernel) (by decide +kernel)
theorem kw_333 : Cond.methodLink "LampMural$Scene" 72 ⟨"LampMural$Row", "get", "(I)I"⟩ ∈ WS := mW 333 (by decide +kernel) (by decide +kernel)
theorem kw_334 : Cond.instanceMethod ⟨"LampMural$Row", "get", "(I)I"⟩ ∈ WS := mW 334 (by decide +kernel) (by decide +kernel)
theorem kw_335 : Cond.selects "LampMural$Row" ⟨"LampMural$Row", "get", "(I)I"⟩ ⟨"LampMural$Row", "get", "(I)I"⟩ ∈ WS := mW 335 (by decide +kernel) (by decide +kernel)
theorem kw_336 : Cond.code ⟨"LampMural$Row", "get", "(I)I"⟩ prog_5_method_2_code 2 (some FieldType.int) ∈ WS := mW 336 (by decide +kernel) (by decide +kernel)
theorem kw_337 : Cond.methodLink "LampMural$Scene" 110 ⟨"LampMural$Scene", "isGood", "(I)Z"⟩ ∈ WS := mW 337 (by decide +kernel) (by decide +kernel)
theorem kw_338 : Cond.instanceMethod ⟨"LampMural$Scene", "isGood", "(I)Z"⟩ ∈ WS := mW 338 (by decide +kernel) (by decide +kernel)
theorem kw_339 : Cond.selects "LampMural$Scene" ⟨"LampMural$Scene", "isGood", "(I)Z"⟩ ⟨"LampMural$Scene", "isGood", "(I)Z"⟩ ∈ WS := mW 339 (by decide +kernel) (by decide +kernel)
theorem kw_340 : Cond.code ⟨"LampMural$Scene", "isGood", "(I)Z"⟩ prog_6_method_26_code 10 (some FieldType.boolean) ∈ WS := mW 340 (by decide +kernel) (by decide +kernel)
theorem kw_342 : Cond.static ⟨"LampMural", "cross", "(IIII)I"⟩ ∈ WS := mW 342 (by decide +kernel) (by decide +kernel)
theorem kw_343 : Cond.code ⟨"LampMural", "cross", "(IIII)I"⟩ prog_1_method_52_code 4 (some FieldType.int) ∈ WS := mW 343 (by decide +kernel) (by decide +kernel)
theorem kw_344 : Cond.methodLink "LampMural" 204 ⟨"LampMural$Dimmer", "countWrong", "(LLampMural$Scene;III)I"⟩ ∈ WS := mW 344 (by decide +kernel) (by decide +kernel)
theorem kw_345 : Cond.instanceMethod ⟨"LampMural$Dimmer", "countWrong", "(LLampMural$Scene;III)I"⟩ ∈ WS := mW 345 (by decide +kernel) (by decide +kernel)
theorem kw_346 : Cond.selects "LampMural$Dimmer" ⟨"LampMural$Dimmer", "countWrong", "(LLampMural$Scene;III)I"⟩ ⟨"LampMural$Dimmer", "countWrong", "(LLampMural$Scene;III)I"⟩ ∈ WS := mW 346 (by decide +kernel) (by decide +kernel)
theorem kw_347 : Cond.code ⟨"LampMural$Dimmer", "countWrong", "(LLampMural$Scene;III)I"⟩ prog_3_method_3_code 9 (some FieldType.int) ∈ WS := mW 347 (by decide +kernel) (by decide +kernel)
theorem kw_348 : Cond.methodLink "LampMural$Dimmer" 46 ⟨"LampMural$Dimmer", "prepare", "(LLampMural$Scene;I)V"⟩ ∈ WS := mW 348 (by decide +kernel) (by decide +kernel)
theorem kw_349 : Cond.instanceMethod ⟨"LampMural$Dimmer", "prepare", "(LLampMural$Scene;I)V"⟩ ∈ WS := mW 349 (by decide +kernel) (by decide +kernel)
theorem kw_350 : Cond.selects "LampMural$Dimmer" ⟨"LampMural$Dimmer", "prepare", "(LLampMural$Scene;I)V"⟩ ⟨"LampMural$Dimmer", "prepare", "(LLampMural$Scene;I)V"⟩ ∈ WS := mW 350 (by decide +kernel) (by decide +kernel)
theorem kw_351 : Cond.code ⟨"LampMural$Dimmer", "prepare", "(LLampMural$Scene;I)V"⟩ prog_3_method_2_code 4 none ∈ WS := mW 351 (by decide +kernel) (by decide +kernel)
theorem kw_352 : Cond.methodLink "LampMural$Dimmer" 33 ⟨"LampMural$Scene", "limitOf", "(I)I"⟩ ∈ WS := mW 352 (by decide +kernel) (by decide +kernel)
theorem kw_353 : Cond.instanceMethod ⟨"LampMural$Scene", "limitOf", "(I)I"⟩ ∈ WS := mW 353 (by decide +kernel) (by decide +kernel)
theorem kw_354 : Cond.selects "LampMural$Scene" ⟨"LampMural$Scene", "limitOf", "(I)I"⟩ ⟨"LampMural$Scene", "limitOf", "(I)I"⟩ ∈ WS := mW 354 (by decide +kernel) (by decide +kernel)
theorem kw_355 : Cond.code ⟨"LampMural$Scene", "limitOf", "(I)I"⟩ prog_6_method_22_code 2 (some FieldType.int) ∈ WS := mW 355 (by decide +kernel) (by decide +kernel)
theorem kw_356 : Cond.methodLink "LampMural$Dimmer" 39 ⟨"LampMural$Row", "set", "(II)V"⟩ ∈ WS := mW 356 (by decide +kernel) (by decide +kernel)
theorem kw_357 : Cond.instanceMethod ⟨"LampMural$Row", "set", "(II)V"⟩ ∈ WS := mW 357 (by decide +kernel) (by decide +kernel)
theorem kw_358 : Cond.selects "LampMural$Row" ⟨"LampMural$Row", "set", "(II)V"⟩ ⟨"LampMural$Row", "set", "(II)V"⟩ ∈ WS := mW 358 (by decide +kernel) (by decide +kernel)
theorem kw_359 : Cond.code ⟨"LampMural$Row", "set", "(II)V"⟩ prog_5_method_3_code 3 none ∈ WS := mW 359 (by decide +kernel) (by decide +kernel)
theorem kw_360 : Cond.methodLink "LampMural$Dimmer" 43 ⟨"LampMural$Scene", "floorOf", "(I)I"⟩ ∈ WS := mW 360 (by decide +kernel) (by decide +kernel)
theorem kw_361 : Cond.instanceMethod ⟨"LampMural$Scene", "floorOf", "(I)I"⟩ ∈ WS := mW 361 (by decide +kernel) (by decide +kernel)
theorem kw_362 : Cond.selects "LampMural$Scene" ⟨"LampMural$Scene", "floorOf", "(I)I"⟩ ⟨"LampMural$Scene", "floorOf", "(I)I"⟩ ∈ WS := mW 362 (by decide +kernel) (by decide +kernel)
theorem kw_363 : Cond.code ⟨"LampMural$Scene", "floorOf", "(I)I"⟩ prog_6_method_23_code 2 (some FieldType.int) ∈ WS := mW 363 (by decide +kernel) (by decide +kernel)
theorem kw_364 : Cond.methodLink "LampMural$Scene" 92 ⟨"LampMural$Scene", "limitOf", "(I)I"⟩ ∈ WS := mW 364 (by decide +kernel) (by decide +kernel)
theorem kw_365 : Cond.methodLink "LampMural$Scene" 84 ⟨"java/lang/Math", "min", "(II)I"⟩ ∈ WS := mW 365 (by decide +kernel) (by decide +kernel)
theorem kw_366 : Cond.static ⟨"java/lang/Math", "min", "(II)I"⟩ ∈ WS := mW 366 (by decide +kernel) (by decide +kernel)
theorem kw_367 : Cond.code ⟨"java/lang/Math", "min", "(II)I"⟩ prog_15_method_69_code 2 (some FieldType.int) ∈ WS := mW 367 (by decide +kernel) (by decide +kernel)
theorem kw_368 : Cond.methodLink "LampMural$Dimmer" 56 ⟨"LampMural$Scene", "indexOfPlace", "(II)I"⟩ ∈ WS := mW 368 (by decide +kernel) (by decide +kernel)
theorem kw_369 : Cond.instanceMethod ⟨"LampMural$Scene", "indexOfPlace", "(II)I"⟩ ∈ WS := mW 369 (by decide +kernel) (by decide +kernel)
theorem kw_370 : Cond.selects "LampMural$Scene" ⟨"LampMural$Scene", "indexOfPlace", "(II)I"⟩ ⟨"LampMural$Scene", "indexOfPlace", "(II)I"⟩ ∈ WS := mW 370 (by decide +kernel) (by decide +kernel)
theorem kw_371 : Cond.code ⟨"LampMural$Scene", "indexOfPlace", "(II)I"⟩ prog_6_method_15_code 3 (some FieldType.int) ∈ WS := mW 371 (by decide +kernel) (by decide +kernel)
theorem kw_372 : Cond.methodLink "LampMural$Dimmer" 60 ⟨"LampMural$Scene", "targetAt", "(I)I"⟩ ∈ WS := mW 372 (by decide +kernel) (by decide +kernel)
theorem kw_373 : Cond.instanceMethod ⟨"LampMural$Scene", "targetAt", "(I)I"⟩ ∈ WS := mW 373 (by decide +kernel) (by decide +kernel)
theorem kw_374 : Cond.selects "LampMural$Scene" ⟨"LampMural$Scene", "targetAt", "(I)I"⟩ ⟨"LampMural$Scene", "targetAt", "(I)I"⟩ ∈ WS := mW 374 (by decide +kernel) (by decide +kernel)
theorem kw_375 : Cond.code ⟨"LampMural$Scene", "targetAt", "(I)I"⟩ prog_6_method_16_code 2 (some FieldType.int) ∈ WS := mW 375 (by decide +kernel) (by decide +kernel)
theorem kw_377 : Cond.static ⟨"LampMural", "pointOf", "(II)I"⟩ ∈ WS := mW 377 (by decide +kernel) (by decide +kernel)
theorem kw_378 : Cond.code ⟨"LampMural", "pointOf", "(II)I"⟩ prog_1_method_53_code 2 (some FieldType.int) ∈ WS := mW 378 (by decide +kernel) (by decide +kernel)
theorem kw_379 : Cond.methodLink "LampMural$Dimmer" 66 ⟨"LampMural$Dimmer", "dimPoint", "(LLampMural$Scene;III)V"⟩ ∈ WS := mW 379 (by decide +kernel) (by decide +kernel)
theorem kw_380 : Cond.instanceMethod ⟨"LampMural$Dimmer", "dimPoint", "(LLampMural$Scene;III)V"⟩ ∈ WS := mW 380 (by decide +kernel) (by decide +kernel)
theorem kw_381 : Cond.selects "LampMural$Dimmer" ⟨"LampMural$Dimmer", "dimPoint", "(LLampMural$Scene;III)V"⟩ ⟨"LampMural$Dimmer", "dimPoint", "(LLampMural$Scene;III)V"⟩ ∈ WS := mW 381 (by decide +kernel) (by decide +kernel)
theorem kw_382 : Cond.code ⟨"LampMural$Dimmer", "dimPoint", "(LLampMural$Scene;III)V"⟩ prog_3_method_4_code 7 none ∈ WS := mW 382 (by decide +kernel) (by decide +kernel)
theorem kw_384 : Cond.static ⟨"LampMural", "isIn", "(II)Z"⟩ ∈ WS := mW 384 (by decide +kernel) (by decide +kernel)
theorem kw_385 : Cond.code ⟨"LampMural", "isIn", "(II)Z"⟩ prog_1_method_54_code 2 (some FieldType.boolean) ∈ WS := mW 385 (by decide +kernel) (by decide +kernel)
theorem kw_386 : Cond.methodLink "LampMural$Dimmer" 80 ⟨"LampMural$Scene", "weightAt", "(III)I"⟩ ∈ WS := mW 386 (by decide +kernel) (by decide +kernel)
theorem kw_387 : Cond.instanceMethod ⟨"LampMural$Scene", "weightAt", "(III)I"⟩ ∈ WS := mW 387 (by decide +kernel) (by decide +kernel)
theorem kw_388 : Cond.selects "LampMural$Scene" ⟨"LampMural$Scene", "weightAt", "(III)I"⟩ ⟨"LampMural$Scene", "weightAt", "(III)I"⟩ ∈ WS := mW 388 (by decide +kernel) (by decide +kernel)
theorem kw_389 : Cond.code ⟨"LampMural$Scene", "weightAt", "(III)I"⟩ prog_6_method_28_code 13 (some FieldType.int) ∈ WS := mW 389 (by decide +kernel) (by decide +kernel)
theorem kw_390 : Cond.methodLink "LampMural$Scene" 113 ⟨"java/lang/Math", "abs", "(I)I"⟩ ∈ WS := mW 390 (by decide +kernel) (by decide +kernel)
theorem kw_391 : Cond.static ⟨"java/lang/Math", "abs", "(I)I"⟩ ∈ WS := mW 391 (by decide +kernel) (by decide +kernel)
theorem kw_392 : Cond.code ⟨"java/lang/Math", "abs", "(I)I"⟩ prog_15_method_59_code 1 (some FieldType.int) ∈ WS := mW 392 (by decide +kernel) (by decide +kernel)
theorem kw_393 : Cond.methodLink "LampMural$Dimmer" 84 ⟨"LampMural$Dimmer", "shareOut", "(I)V"⟩ ∈ WS := mW 393 (by decide +kernel) (by decide +kernel)
theorem kw_395 : Cond.instanceMethod ⟨"LampMural$Dimmer", "shareOut", "(I)V"⟩ ∈ WS := mW 395 (by decide +kernel) (by decide +kernel)
theorem kw_396 : Cond.code ⟨"LampMural$Dimmer", "shareOut", "(I)V"⟩ prog_3_method_5_code 7 none ∈ WS := mW 396 (by decide +kernel) (by decide +kernel)
theorem kw_397 : Cond.methodLink "LampMural$Dimmer" 96 ⟨"LampMural$Row", "get", "(I)I"⟩ ∈ WS := mW 397 (by decide +kernel) (by decide +kernel)
theorem kw_398 : Cond.methodLink "LampMural$Dimmer" 87 ⟨"LampMural$Dimmer", "keepToLimits", "()V"⟩ ∈ WS := mW 398 (by decide +kernel) (by decide +kernel)
theorem kw_400 : Cond.instanceMethod ⟨"LampMural$Dimmer", "keepToLimits", "()V"⟩ ∈ WS := mW 400 (by decide +kernel) (by decide +kernel)
theorem kw_401 : Cond.code ⟨"LampMural$Dimmer", "keepToLimits", "()V"⟩ prog_3_method_6_code 2 none ∈ WS := mW 401 (by decide +kernel) (by decide +kernel)
theorem kw_402 : Cond.methodLink "LampMural$Dimmer" 99 ⟨"java/lang/Math", "min", "(II)I"⟩ ∈ WS := mW 402 (by decide +kernel) (by decide +kernel)
theorem kw_403 : Cond.methodLink "LampMural$Dimmer" 104 ⟨"java/lang/Math", "max", "(II)I"⟩ ∈ WS := mW 403 (by decide +kernel) (by decide +kernel)
theorem kw_404 : Cond.static ⟨"java/lang/Math", "max", "(II)I"⟩ ∈ WS := mW 404 (by decide +kernel) (by decide +kernel)
theorem kw_405 : Cond.code ⟨"java/lang/Math", "max", "(II)I"⟩ prog_15_method_65_code 2 (some FieldType.int) ∈ WS := mW 405 (by decide +kernel) (by decide +kernel)
theorem kw_406 : Cond.methodLink "LampMural$Dimmer" 90 ⟨"LampMural$Dimmer", "balance", "(I)V"⟩ ∈ WS := mW 406 (by decide +kernel) (by decide +kernel)
theorem kw_408 : Cond.instanceMethod ⟨"LampMural$Dimmer", "balance", "(I)V"⟩ ∈ WS := mW 408 (by decide +kernel) (by decide +kernel)
theorem kw_409 : Cond.code ⟨"LampMural$Dimmer", "balance", "(I)V"⟩ prog_3_method_7_code 6 none ∈ WS := mW 409 (by decide +kernel) (by decide +kernel)
theorem kw_410 : Cond.methodLink "LampMural$Dimmer" 93 ⟨"LampMural$Dimmer", "stateFor", "(I)I"⟩ ∈ WS := mW 410 (by decide +kernel) (by decide +kernel)
theorem kw_412 : Cond.instanceMethod ⟨"LampMural$Dimmer", "stateFor", "(I)I"⟩ ∈ WS := mW 412 (by decide +kernel) (by decide +kernel)
theorem kw_413 : Cond.code ⟨"LampMural$Dimmer", "stateFor", "(I)I"⟩ prog_3_method_8_code 2 (some FieldType.int) ∈ WS := mW 413 (by decide +kernel) (by decide +kernel)
theorem kw_415 : Cond.instanceMethod ⟨"LampMural", "clearCommands", "()I"⟩ ∈ WS := mW 415 (by decide +kernel) (by decide +kernel)
theorem kw_416 : Cond.selects "LampMural" ⟨"LampMural", "clearCommands", "()I"⟩ ⟨"LampMural", "clearCommands", "()I"⟩ ∈ WS := mW 416 (by decide +kernel) (by decide +kernel)
theorem kw_417 : Cond.code ⟨"LampMural", "clearCommands", "()I"⟩ prog_1_method_24_code 1 (some FieldType.int) ∈ WS := mW 417 (by decide +kernel) (by decide +kernel)
theorem kw_418 : Cond.methodLink "LampMural" 225 ⟨"LampMural$CommandText", "empty", "()I"⟩ ∈ WS := mW 418 (by decide +kernel) (by decide +kernel)
theorem kw_419 : Cond.instanceMethod ⟨"LampMural$CommandText", "empty", "()I"⟩ ∈ WS := mW 419 (by decide +kernel) (by decide +kernel)
theorem kw_420 : Cond.selects "LampMural$CommandText" ⟨"LampMural$CommandText", "empty", "()I"⟩ ⟨"LampMural$CommandText", "empty", "()I"⟩ ∈ WS := mW 420 (by decide +kernel) (by decide +kernel)
theorem kw_421 : Cond.code ⟨"LampMural$CommandText", "empty", "()I"⟩ prog_2_method_3_code 2 (some FieldType.int) ∈ WS := mW 421 (by decide +kernel) (by decide +kernel)
theorem kw_422 : Cond.methodLink "LampMural$CommandText" 37 ⟨"LampMural$Row", "clear", "()V"⟩ ∈ WS := mW 422 (by decide +kernel) (by decide +kernel)
theorem kw_423 : Cond.instanceMethod ⟨"LampMural$Row", "clear", "()V"⟩ ∈ WS := mW 423 (by decide +kernel) (by decide +kernel)
theorem kw_424 : Cond.selects "LampMural$Row" ⟨"LampMural$Row", "clear", "()V"⟩ ⟨"LampMural$Row", "clear", "()V"⟩ ∈ WS := mW 424 (by decide +kernel) (by decide +kernel)
theorem kw_425 : Cond.code ⟨"LampMural$Row", "clear", "()V"⟩ prog_5_method_4_code 2 none ∈ WS := mW 425 (by decide +kernel) (by decide +kernel)
theorem kw_427 : Cond.instanceMethod ⟨"LampMural", "runCommands", "()I"⟩ ∈ WS := mW 427 (by decide +kernel) (by decide +kernel)
theorem kw_428 : Cond.selects "LampMural" ⟨"LampMural", "runCommands", "()I"⟩ ⟨"LampMural", "runCommands", "()I"⟩ ∈ WS := mW 428 (by decide +kernel) (by decide +kernel)
theorem kw_429 : Cond.code ⟨"LampMural", "runCommands", "()I"⟩ prog_1_method_25_code 4 (some FieldType.int) ∈ WS := mW 429 (by decide +kernel) (by decide +kernel)
theorem kw_430 : Cond.methodLink "LampMural" 228 ⟨"LampMural$CommandText", "findFault", "()I"⟩ ∈ WS := mW 430 (by decide +kernel) (by decide +kernel)
theorem kw_431 : Cond.instanceMethod ⟨"LampMural$CommandText", "findFault", "()I"⟩ ∈ WS := mW 431 (by decide +kernel) (by decide +kernel)
theorem kw_432 : Cond.selects "LampMural$CommandText" ⟨"LampMural$CommandText", "findFault", "()I"⟩ ⟨"LampMural$CommandText", "findFault", "()I"⟩ ∈ WS := mW 432 (by decide +kernel) (by decide +kernel)
theorem kw_433 : Cond.code ⟨"LampMural$CommandText", "findFault", "()I"⟩ prog_2_method_5_code 2 (some FieldType.int) ∈ WS := mW 433 (by decide +kernel) (by decide +kernel)
theorem kw_434 : Cond.methodLink "LampMural$CommandText" 43 ⟨"LampMural$CommandText", "rewind", "()V"⟩ ∈ WS := mW 434 (by decide +kernel) (by decide +kernel)
theorem kw_435 : Cond.instanceMethod ⟨"LampMural$CommandText", "rewind", "()V"⟩ ∈ WS := mW 435 (by decide +kernel) (by decide +kernel)
theorem kw_436 : Cond.selects "LampMural$CommandText" ⟨"LampMural$CommandText", "rewind", "()V"⟩ ⟨"LampMural$CommandText", "rewind", "()V"⟩ ∈ WS := mW 436 (by decide +kernel) (by decide +kernel)
theorem kw_437 : Cond.code ⟨"LampMural$CommandText", "rewind", "()V"⟩ prog_2_method_4_code 1 none ∈ WS := mW 437 (by decide +kernel) (by decide +kernel)
theorem kw_438 : Cond.methodLink "LampMural$CommandText" 46 ⟨"LampMural$CommandText", "readCommand", "()Z"⟩ ∈ WS := mW 438 (by decide +kernel) (by decide +kernel)
theorem kw_439 : Cond.instanceMethod ⟨"LampMural$CommandText", "readCommand", "()Z"⟩ ∈ WS := mW 439 (by decide +kernel) (by decide +kernel)
theorem kw_440 : Cond.selects "LampMural$CommandText" ⟨"LampMural$CommandText", "readCommand", "()Z"⟩ ⟨"LampMural$CommandText", "readCommand", "()Z"⟩ ∈ WS := mW 440 (by decide +kernel) (by decide +kernel)
theorem kw_441 : Cond.code ⟨"LampMural$CommandText", "readCommand", "()Z"⟩ prog_2_method_6_code 2 (some FieldType.boolean) ∈ WS := mW 441 (by decide +kernel) (by decide +kernel)
theorem kw_442 : Cond.methodLink "LampMural$CommandText" 50 ⟨"LampMural$CommandText", "skipSpaces", "()V"⟩ ∈ WS := mW 442 (by decide +kernel) (by decide +kernel)
theorem kw_444 : Cond.instanceMethod ⟨"LampMural$CommandText", "skipSpaces", "()V"⟩ ∈ WS := mW 444 (by decide +kernel) (by decide +kernel)
theorem kw_445 : Cond.code ⟨"LampMural$CommandText", "skipSpaces", "()V"⟩ prog_2_method_10_code 1 none ∈ WS := mW 445 (by decide +kernel) (by decide +kernel)
theorem kw_446 : Cond.methodLink "LampMural$CommandText" 64 ⟨"LampMural$Row", "get", "(I)I"⟩ ∈ WS := mW 446 (by decide +kernel) (by decide +kernel)
theorem kw_447 : Cond.methodLink "LampMural$CommandText" 53 ⟨"LampMural$CommandText", "readWord", "()Z"⟩ ∈ WS := mW 447 (by decide +kernel) (by decide +kernel)
theorem kw_449 : Cond.instanceMethod ⟨"LampMural$CommandText", "readWord", "()Z"⟩ ∈ WS := mW 449 (by decide +kernel) (by decide +kernel)
theorem kw_450 : Cond.code ⟨"LampMural$CommandText", "readWord", "()Z"⟩ prog_2_method_8_code 2 (some FieldType.boolean) ∈ WS := mW 450 (by decide +kernel) (by decide +kernel)
theorem kw_452 : Cond.static ⟨"LampMural", "within", "(III)Z"⟩ ∈ WS := mW 452 (by decide +kernel) (by decide +kernel)
theorem kw_453 : Cond.code ⟨"LampMural", "within", "(III)Z"⟩ prog_1_method_51_code 3 (some FieldType.boolean) ∈ WS := mW 453 (by decide +kernel) (by decide +kernel)
theorem kw_454 : Cond.methodLink "LampMural$CommandText" 74 ⟨"LampMural$CommandText", "wordBetween", "(II)I"⟩ ∈ WS := mW 454 (by decide +kernel) (by decide +kernel)
theorem kw_456 : Cond.instanceMethod ⟨"LampMural$CommandText", "wordBetween", "(II)I"⟩ ∈ WS := mW 456 (by decide +kernel) (by decide +kernel)
theorem kw_457 : Cond.code ⟨"LampMural$CommandText", "wordBetween", "(II)I"⟩ prog_2_method_13_code 3 (some FieldType.int) ∈ WS := mW 457 (by decide +kernel) (by decide +kernel)
theorem kw_459 : Cond.methodLink "LampMural$CommandText" 83 ⟨"LampMural$CommandText", "isWord", "(Ljava/lang/String;II)Z"⟩ ∈ WS := mW 459 (by decide +kernel) (by decide +kernel)
theorem kw_461 : Cond.instanceMethod ⟨"LampMural$CommandText", "isWord", "(Ljava/lang/String;II)Z"⟩ ∈ WS := mW 461 (by decide +kernel) (by decide +kernel)
theorem kw_462 : Cond.code ⟨"LampMural$CommandText", "isWord", "(Ljava/lang/String;II)Z"⟩ prog_2_method_14_code 5 (some FieldType.boolean) ∈ WS := mW 462 (by decide +kernel) (by decide +kernel)
theorem kw_463 : Cond.methodLink "LampMural$CommandText" 101 ⟨"java/lang/String", "length", "()I"⟩ ∈ WS := mW 463 (by decide +kernel) (by decide +kernel)
theorem kw_464 : Cond.instanceMethod ⟨"java/lang/String", "length", "()I"⟩ ∈ WS := mW 464 (by decide +kernel) (by decide +kernel)
theorem kw_465 : Cond.selects "java/lang/String" ⟨"java/lang/String", "length", "()I"⟩ ⟨"java/lang/String", "length", "()I"⟩ ∈ WS := mW 465 (by decide +kernel) (by decide +kernel)
theorem kw_466 : Cond.code ⟨"java/lang/String", "length", "()I"⟩ prog_17_method_54_code 1 (some FieldType.int) ∈ WS := mW 466 (by decide +kernel) (by decide +kernel)
theorem kw_467 : Cond.methodLink "java/lang/String" 335 ⟨"java/lang/String", "coder", "()B"⟩ ∈ WS := mW 467 (by decide +kernel) (by decide +kernel)
theorem kw_468 : Cond.instanceMethod ⟨"java/lang/String", "coder", "()B"⟩ ∈ WS := mW 468 (by decide +kernel) (by decide +kernel)
theorem kw_469 : Cond.selects "java/lang/String" ⟨"java/lang/String", "coder", "()B"⟩ ⟨"java/lang/String", "coder", "()B"⟩ ∈ WS := mW 469 (by decide +kernel) (by decide +kernel)
theorem kw_470 : Cond.code ⟨"java/lang/String", "coder", "()B"⟩ prog_17_method_152_code 1 (some FieldType.byte) ∈ WS := mW 470 (by decide +kernel) (by decide +kernel)
theorem kw_471 : Cond.fieldLink "java/lang/String" 38 "java/lang/String" "COMPACT_STRINGS" "Z" ∈ WS := mW 471 (by decide +kernel) (by decide +kernel)
theorem kw_473 : Cond.methodLink "LampMural$CommandText" 106 ⟨"java/lang/String", "charAt", "(I)C"⟩ ∈ WS := mW 473 (by decide +kernel) (by decide +kernel)
theorem kw_474 : Cond.instanceMethod ⟨"java/lang/String", "charAt", "(I)C"⟩ ∈ WS := mW 474 (by decide +kernel) (by decide +kernel)
theorem kw_475 : Cond.selects "java/lang/String" ⟨"java/lang/String", "charAt", "(I)C"⟩ ⟨"java/lang/String", "charAt", "(I)C"⟩ ∈ WS := mW 475 (by decide +kernel) (by decide +kernel)
theorem kw_476 : Cond.code ⟨"java/lang/String", "charAt", "(I)C"⟩ prog_17_method_56_code 2 (some FieldType.char) ∈ WS := mW 476 (by decide +kernel) (by decide +kernel)
theorem kw_477 : Cond.methodLink "java/lang/String" 492 ⟨"java/lang/String", "isLatin1", "()Z"⟩ ∈ WS := mW 477 (by decide +kernel) (by decide +kernel)
theorem kw_478 : Cond.instanceMethod ⟨"java/lang/String", "isLatin1", "()Z"⟩ ∈ WS := mW 478 (by decide +kernel) (by decide +kernel)
theorem kw_479 : Cond.selects "java/lang/String" ⟨"java/lang/String", "isLatin1", "()Z"⟩ ⟨"java/lang/String", "isLatin1", "()Z"⟩ ∈ WS := mW 479 (by decide +kernel) (by decide +kernel)
theorem kw_480 : Cond.code ⟨"java/lang/String", "isLatin1", "()Z"⟩ prog_17_method_154_code 1 (some FieldType.boolean) ∈ WS := mW 480 (by decide +kernel) (by decide +kernel)
theorem kw_481 : Cond.methodLink "java/lang/String" 495 ⟨"java/lang/StringLatin1", "charAt", "([BI)C"⟩ ∈ WS := mW 481 (by decide +kernel) (by decide +kernel)
theorem kw_482 : Cond.static ⟨"java/lang/StringLatin1", "charAt", "([BI)C"⟩ ∈ WS := mW 482 (by decide +kernel) (by decide +kernel)
theorem kw_483 : Cond.code ⟨"java/lang/StringLatin1", "charAt", "([BI)C"⟩ prog_18_method_2_code 2 (some FieldType.char) ∈ WS := mW 483 (by decide +kernel) (by decide +kernel)
theorem kw_484 : Cond.methodLink "java/lang/StringLatin1" 9 ⟨"java/lang/String", "checkIndex", "(II)V"⟩ ∈ WS := mW 484 (by decide +kernel) (by decide +kernel)
theorem kw_485 : Cond.static ⟨"java/lang/String", "checkIndex", "(II)V"⟩ ∈ WS := mW 485 (by decide +kernel) (by decide +kernel)
theorem kw_486 : Cond.code ⟨"java/lang/String", "checkIndex", "(II)V"⟩ prog_17_method_155_code 2 none ∈ WS := mW 486 (by decide +kernel) (by decide +kernel)
theorem kw_487 : Cond.fieldLink "java/lang/String" 1053 "jdk/internal/util/Preconditions" "SIOOBE_FORMATTER" "Ljava/util/function/BiFunction;" ∈ WS := mW 487 (by decide +kernel) (by decide +kernel)
theorem kw_489 : Cond.methodLink "java/lang/String" 1059 ⟨"jdk/internal/util/Preconditions", "checkIndex", "(IILjava/util/function/BiFunction;)I"⟩ ∈ WS := mW 489 (by decide +kernel) (by decide +kernel)
theorem kw_490 : Cond.static ⟨"jdk/internal/util/Preconditions", "checkIndex", "(IILjava/util/function/BiFunction;)I"⟩ ∈ WS := mW 490 (by decide +kernel) (by decide +kernel)
theorem kw_491 : Cond.code ⟨"jdk/internal/util/Preconditions", "checkIndex", "(IILjava/util/function/BiFunction;)I"⟩ prog_21_method_11_code 3 (some FieldType.int) ∈ WS := mW 491 (by decide +kernel) (by decide +kernel)
theorem kw_492 : Cond.methodLink "java/lang/String" 498 ⟨"java/lang/StringUTF16", "charAt", "([BI)C"⟩ ∈ WS := mW 492 (by decide +kernel) (by decide +kernel)
theorem kw_518 : Cond.methodLink "LampMural$CommandText" 67 ⟨"LampMural$CommandText", "failAt", "(I)Z"⟩ ∈ WS := mW 518 (by decide +kernel) (by decide +kernel)
theorem kw_520 : Cond.instanceMethod ⟨"LampMural$CommandText", "failAt", "(I)Z"⟩ ∈ WS := mW 520 (by decide +kernel) (by decide +kernel)
theorem kw_521 : Cond.code ⟨"LampMural$CommandText", "failAt", "(I)Z"⟩ prog_2_method_11_code 2 (some FieldType.boolean) ∈ WS := mW 521 (by decide +kernel) (by decide +kernel)
theorem kw_522 : Cond.methodLink "LampMural$CommandText" 56 ⟨"LampMural$CommandText", "numbersOf", "(I)I"⟩ ∈ WS := mW 522 (by decide +kernel) (by decide +kernel)
theorem kw_523 : Cond.static ⟨"LampMural$CommandText", "numbersOf", "(I)I"⟩ ∈ WS := mW 523 (by decide +kernel) (by decide +kernel)
theorem kw_524 : Cond.code ⟨"LampMural$CommandText", "numbersOf", "(I)I"⟩ prog_2_method_15_code 1 (some FieldType.int) ∈ WS := mW 524 (by decide +kernel) (by decide +kernel)
theorem kw_525 : Cond.methodLink "LampMural$CommandText" 60 ⟨"LampMural$CommandText", "readNumber", "(I)Z"⟩ ∈ WS := mW 525 (by decide +kernel) (by decide +kernel)
theorem kw_527 : Cond.instanceMethod ⟨"LampMural$CommandText", "readNumber", "(I)Z"⟩ ∈ WS := mW 527 (by decide +kernel) (by decide +kernel)
theorem kw_528 : Cond.code ⟨"LampMural$CommandText", "readNumber", "(I)Z"⟩ prog_2_method_9_code 5 (some FieldType.boolean) ∈ WS := mW 528 (by decide +kernel) (by decide +kernel)
theorem kw_529 : Cond.methodLink "LampMural$CommandText" 78 ⟨"LampMural$CommandText", "isDigit", "(I)Z"⟩ ∈ WS := mW 529 (by decide +kernel) (by decide +kernel)
theorem kw_530 : Cond.static ⟨"LampMural$CommandText", "isDigit", "(I)Z"⟩ ∈ WS := mW 530 (by decide +kernel) (by decide +kernel)
theorem kw_531 : Cond.code ⟨"LampMural$CommandText", "isDigit", "(I)Z"⟩ prog_2_method_12_code 1 (some FieldType.boolean) ∈ WS := mW 531 (by decide +kernel) (by decide +kernel)
theorem kw_532 : Cond.methodLink "LampMural$CommandText" 33 ⟨"LampMural$Row", "set", "(II)V"⟩ ∈ WS := mW 532 (by decide +kernel) (by decide +kernel)
theorem kw_533 : Cond.methodLink "LampMural" 52 ⟨"LampMural$History", "save", "(LLampMural$Scene;)V"⟩ ∈ WS := mW 533 (by decide +kernel) (by decide +kernel)
theorem kw_534 : Cond.instanceMethod ⟨"LampMural$History", "save", "(LLampMural$Scene;)V"⟩ ∈ WS := mW 534 (by decide +kernel) (by decide +kernel)
theorem kw_535 : Cond.selects "LampMural$History" ⟨"LampMural$History", "save", "(LLampMural$Scene;)V"⟩ ⟨"LampMural$History", "save", "(LLampMural$Scene;)V"⟩ ∈ WS := mW 535 (by decide +kernel) (by decide +kernel)
theorem kw_536 : Cond.code ⟨"LampMural$History", "save", "(LLampMural$Scene;)V"⟩ prog_4_method_2_code 3 none ∈ WS := mW 536 (by decide +kernel) (by decide +kernel)
theorem kw_537 : Cond.methodLink "LampMural$History" 22 ⟨"LampMural$History", "latestSlot", "()LLampMural$Scene;"⟩ ∈ WS := mW 537 (by decide +kernel) (by decide +kernel)
theorem kw_539 : Cond.instanceMethod ⟨"LampMural$History", "latestSlot", "()LLampMural$Scene;"⟩ ∈ WS := mW 539 (by decide +kernel) (by decide +kernel)
theorem kw_540 : Cond.code ⟨"LampMural$History", "latestSlot", "()LLampMural$Scene;"⟩ prog_4_method_4_code 1 (some (FieldType.object "LampMural$Scene")) ∈ WS := mW 540 (by decide +kernel) (by decide +kernel)
theorem kw_541 : Cond.methodLink "LampMural$History" 26 ⟨"LampMural$Scene", "copyFrom", "(LLampMural$Scene;)V"⟩ ∈ WS := mW 541 (by decide +kernel) (by decide +kernel)
theorem kw_542 : Cond.instanceMethod ⟨"LampMural$Scene", "copyFrom", "(LLampMural$Scene;)V"⟩ ∈ WS := mW 542 (by decide +kernel) (by decide +kernel)
theorem kw_543 : Cond.selects "LampMural$Scene" ⟨"LampMural$Scene", "copyFrom", "(LLampMural$Scene;)V"⟩ ⟨"LampMural$Scene", "copyFrom", "(LLampMural$Scene;)V"⟩ ∈ WS := mW 543 (by decide +kernel) (by decide +kernel)
theorem kw_544 : Cond.code ⟨"LampMural$Scene", "copyFrom", "(LLampMural$Scene;)V"⟩ prog_6_method_2_code 2 none ∈ WS := mW 544 (by decide +kernel) (by decide +kernel)
theorem kw_545 : Cond.methodLink "LampMural$Scene" 61 ⟨"LampMural$Row", "copyFrom", "(LLampMural$Row;)V"⟩ ∈ WS := mW 545 (by decide +kernel) (by decide +kernel)
theorem kw_546 : Cond.instanceMethod ⟨"LampMural$Row", "copyFrom", "(LLampMural$Row;)V"⟩ ∈ WS := mW 546 (by decide +kernel) (by decide +kernel)
theorem kw_547 : Cond.selects "LampMural$Row" ⟨"LampMural$Row", "copyFrom", "(LLampMural$Row;)V"⟩ ⟨"LampMural$Row", "copyFrom", "(LLampMural$Row;)V"⟩ ∈ WS := mW 547 (by decide +kernel) (by decide +kernel)
theorem kw_548 : Cond.code ⟨"LampMural$Row", "copyFrom", "(LLampMural$Row;)V"⟩ prog_5_method_5_code 3 none ∈ WS := mW 548 (by decide +kernel) (by decide +kernel)
theorem kw_549 : Cond.methodLink "LampMural$History" 33 ⟨"java/lang/Math", "min", "(II)I"⟩ ∈ WS := mW 549 (by decide +kernel) (by decide +kernel)
theorem kw_550 : Cond.methodLink "LampMural" 231 ⟨"LampMural$CommandText", "rewind", "()V"⟩ ∈ WS := mW 550 (by decide +kernel) (by decide +kernel)
theorem kw_551 : Cond.methodLink "LampMural" 234 ⟨"LampMural$CommandText", "readCommand", "()Z"⟩ ∈ WS := mW 551 (by decide +kernel) (by decide +kernel)
theorem kw_552 : Cond.methodLink "LampMural" 238 ⟨"LampMural", "carryOut", "()Z"⟩ ∈ WS := mW 552 (by decide +kernel) (by decide +kernel)
theorem kw_554 : Cond.instanceMethod ⟨"LampMural", "carryOut", "()Z"⟩ ∈ WS := mW 554 (by decide +kernel) (by decide +kernel)
theorem kw_555 : Cond.code ⟨"LampMural", "carryOut", "()Z"⟩ prog_1_method_35_code 6 (some FieldType.boolean) ∈ WS := mW 555 (by decide +kernel) (by decide +kernel)
theorem kw_556 : Cond.methodLink "LampMural" 324 ⟨"LampMural$CommandText", "number", "(I)I"⟩ ∈ WS := mW 556 (by decide +kernel) (by decide +kernel)
theorem kw_557 : Cond.instanceMethod ⟨"LampMural$CommandText", "number", "(I)I"⟩ ∈ WS := mW 557 (by decide +kernel) (by decide +kernel)
theorem kw_558 : Cond.selects "LampMural$CommandText" ⟨"LampMural$CommandText", "number", "(I)I"⟩ ⟨"LampMural$CommandText", "number", "(I)I"⟩ ∈ WS := mW 558 (by decide +kernel) (by decide +kernel)
theorem kw_559 : Cond.code ⟨"LampMural$CommandText", "number", "(I)I"⟩ prog_2_method_7_code 2 (some FieldType.int) ∈ WS := mW 559 (by decide +kernel) (by decide +kernel)
theorem kw_560 : Cond.methodLink "LampMural" 327 ⟨"LampMural", "faultOfCommand", "(IIIII)I"⟩ ∈ WS := mW 560 (by decide +kernel) (by decide +kernel)
theorem kw_562 : Cond.instanceMethod ⟨"LampMural", "faultOfCommand", "(IIIII)I"⟩ ∈ WS := mW 562 (by decide +kernel) (by decide +kernel)
theorem kw_563 : Cond.code ⟨"LampMural", "faultOfCommand", "(IIIII)I"⟩ prog_1_method_36_code 6 (some FieldType.int) ∈ WS := mW 563 (by decide +kernel) (by decide +kernel)
theorem kw_564 : Cond.methodLink "LampMural" 44 ⟨"LampMural", "faultOfWall", "(II)I"⟩ ∈ WS := mW 564 (by decide +kernel) (by decide +kernel)
theorem kw_565 : Cond.static ⟨"LampMural", "faultOfWall", "(II)I"⟩ ∈ WS := mW 565 (by decide +kernel) (by decide +kernel)
theorem kw_566 : Cond.code ⟨"LampMural", "faultOfWall", "(II)I"⟩ prog_1_method_37_code 2 (some FieldType.int) ∈ WS := mW 566 (by decide +kernel) (by decide +kernel)
theorem kw_567 : Cond.methodLink "LampMural" 176 ⟨"LampMural", "within", "(III)Z"⟩ ∈ WS := mW 567 (by decide +kernel) (by decide +kernel)
theorem kw_568 : Cond.methodLink "LampMural" 64 ⟨"LampMural", "faultOfPainting", "(IIIII)I"⟩ ∈ WS := mW 568 (by decide +kernel) (by decide +kernel)
theorem kw_570 : Cond.instanceMethod ⟨"LampMural", "faultOfPainting", "(IIIII)I"⟩ ∈ WS := mW 570 (by decide +kernel) (by decide +kernel)
theorem kw_571 : Cond.code ⟨"LampMural", "faultOfPainting", "(IIIII)I"⟩ prog_1_method_38_code 6 (some FieldType.int) ∈ WS := mW 571 (by decide +kernel) (by decide +kernel)
theorem kw_572 : Cond.methodLink "LampMural" 333 ⟨"LampMural$Scene", "hasPlace", "(II)Z"⟩ ∈ WS := mW 572 (by decide +kernel) (by decide +kernel)
theorem kw_573 : Cond.instanceMethod ⟨"LampMural$Scene", "hasPlace", "(II)Z"⟩ ∈ WS := mW 573 (by decide +kernel) (by decide +kernel)
theorem kw_574 : Cond.selects "LampMural$Scene" ⟨"LampMural$Scene", "hasPlace", "(II)Z"⟩ ⟨"LampMural$Scene", "hasPlace", "(II)Z"⟩ ∈ WS := mW 574 (by decide +kernel) (by decide +kernel)
theorem kw_575 : Cond.code ⟨"LampMural$Scene", "hasPlace", "(II)Z"⟩ prog_6_method_12_code 3 (some FieldType.boolean) ∈ WS := mW 575 (by decide +kernel) (by decide +kernel)
theorem kw_576 : Cond.methodLink "LampMural" 74 ⟨"LampMural", "faultOfNewLamp", "(II)I"⟩ ∈ WS := mW 576 (by decide +kernel) (by decide +kernel)
theorem kw_578 : Cond.instanceMethod ⟨"LampMural", "faultOfNewLamp", "(II)I"⟩ ∈ WS := mW 578 (by decide +kernel) (by decide +kernel)
theorem kw_579 : Cond.code ⟨"LampMural", "faultOfNewLamp", "(II)I"⟩ prog_1_method_39_code 3 (some FieldType.int) ∈ WS := mW 579 (by decide +kernel) (by decide +kernel)
theorem kw_580 : Cond.methodLink "LampMural" 83 ⟨"LampMural", "faultOfCorner", "(IIII)I"⟩ ∈ WS := mW 580 (by decide +kernel) (by decide +kernel)
theorem kw_582 : Cond.instanceMethod ⟨"LampMural", "faultOfCorner", "(IIII)I"⟩ ∈ WS := mW 582 (by decide +kernel) (by decide +kernel)
theorem kw_583 : Cond.code ⟨"LampMural", "faultOfCorner", "(IIII)I"⟩ prog_1_method_40_code 6 (some FieldType.int) ∈ WS := mW 583 (by decide +kernel) (by decide +kernel)
theorem kw_584 : Cond.methodLink "LampMural" 336 ⟨"LampMural$Scene", "hasLamp", "(I)Z"⟩ ∈ WS := mW 584 (by decide +kernel) (by decide +kernel)
theorem kw_585 : Cond.instanceMethod ⟨"LampMural$Scene", "hasLamp", "(I)Z"⟩ ∈ WS := mW 585 (by decide +kernel) (by decide +kernel)
theorem kw_586 : Cond.selects "LampMural$Scene" ⟨"LampMural$Scene", "hasLamp", "(I)Z"⟩ ⟨"LampMural$Scene", "hasLamp", "(I)Z"⟩ ∈ WS := mW 586 (by decide +kernel) (by decide +kernel)
theorem kw_587 : Cond.code ⟨"LampMural$Scene", "hasLamp", "(I)Z"⟩ prog_6_method_13_code 2 (some FieldType.boolean) ∈ WS := mW 587 (by decide +kernel) (by decide +kernel)
theorem kw_588 : Cond.methodLink "LampMural" 126 ⟨"LampMural", "faultOfShift", "(II)I"⟩ ∈ WS := mW 588 (by decide +kernel) (by decide +kernel)
theorem kw_589 : Cond.static ⟨"LampMural", "faultOfShift", "(II)I"⟩ ∈ WS := mW 589 (by decide +kernel) (by decide +kernel)
theorem kw_590 : Cond.code ⟨"LampMural", "faultOfShift", "(II)I"⟩ prog_1_method_45_code 3 (some FieldType.int) ∈ WS := mW 590 (by decide +kernel) (by decide +kernel)
theorem kw_591 : Cond.methodLink "LampMural" 116 ⟨"LampMural", "faultOfLamp", "(I)I"⟩ ∈ WS := mW 591 (by decide +kernel) (by decide +kernel)
theorem kw_593 : Cond.instanceMethod ⟨"LampMural", "faultOfLamp", "(I)I"⟩ ∈ WS := mW 593 (by decide +kernel) (by decide +kernel)
theorem kw_594 : Cond.code ⟨"LampMural", "faultOfLamp", "(I)I"⟩ prog_1_method_43_code 2 (some FieldType.int) ∈ WS := mW 594 (by decide +kernel) (by decide +kernel)
theorem kw_595 : Cond.methodLink "LampMural" 135 ⟨"LampMural", "faultOfHours", "(I)I"⟩ ∈ WS := mW 595 (by decide +kernel) (by decide +kernel)
theorem kw_596 : Cond.static ⟨"LampMural", "faultOfHours", "(I)I"⟩ ∈ WS := mW 596 (by decide +kernel) (by decide +kernel)
theorem kw_597 : Cond.code ⟨"LampMural", "faultOfHours", "(I)I"⟩ prog_1_method_46_code 1 (some FieldType.int) ∈ WS := mW 597 (by decide +kernel) (by decide +kernel)
theorem kw_598 : Cond.methodLink "LampMural" 147 ⟨"LampMural", "faultOfRange", "(III)I"⟩ ∈ WS := mW 598 (by decide +kernel) (by decide +kernel)
theorem kw_599 : Cond.static ⟨"LampMural", "faultOfRange", "(III)I"⟩ ∈ WS := mW 599 (by decide +kernel) (by decide +kernel)
theorem kw_600 : Cond.code ⟨"LampMural", "faultOfRange", "(III)I"⟩ prog_1_method_47_code 3 (some FieldType.int) ∈ WS := mW 600 (by decide +kernel) (by decide +kernel)
theorem kw_601 : Cond.methodLink "LampMural" 60 ⟨"LampMural$Scene", "startWall", "(II)V"⟩ ∈ WS := mW 601 (by decide +kernel) (by decide +kernel)
theorem kw_602 : Cond.instanceMethod ⟨"LampMural$Scene", "startWall", "(II)V"⟩ ∈ WS := mW 602 (by decide +kernel) (by decide +kernel)
theorem kw_603 : Cond.selects "LampMural$Scene" ⟨"LampMural$Scene", "startWall", "(II)V"⟩ ⟨"LampMural$Scene", "startWall", "(II)V"⟩ ∈ WS := mW 603 (by decide +kernel) (by decide +kernel)
theorem kw_604 : Cond.code ⟨"LampMural$Scene", "startWall", "(II)V"⟩ prog_6_method_3_code 3 none ∈ WS := mW 604 (by decide +kernel) (by decide +kernel)
theorem kw_605 : Cond.methodLink "LampMural$Scene" 65 ⟨"LampMural$Row", "clear", "()V"⟩ ∈ WS := mW 605 (by decide +kernel) (by decide +kernel)
theorem kw_606 : Cond.methodLink "LampMural" 71 ⟨"LampMural$Scene", "setTargets", "(IIIII)I"⟩ ∈ WS := mW 606 (by decide +kernel) (by decide +kernel)
theorem kw_607 : Cond.instanceMethod ⟨"LampMural$Scene", "setTargets", "(IIIII)I"⟩ ∈ WS := mW 607 (by decide +kernel) (by decide +kernel)
theorem kw_608 : Cond.selects "LampMural$Scene" ⟨"LampMural$Scene", "setTargets", "(IIIII)I"⟩ ⟨"LampMural$Scene", "setTargets", "(IIIII)I"⟩ ∈ WS := mW 608 (by decide +kernel) (by decide +kernel)
theorem kw_609 : Cond.code ⟨"LampMural$Scene", "setTargets", "(IIIII)I"⟩ prog_6_method_4_code 10 (some FieldType.int) ∈ WS := mW 609 (by decide +kernel) (by decide +kernel)
theorem kw_610 : Cond.methodLink "LampMural$Scene" 68 ⟨"LampMural$Scene", "indexOfPlace", "(II)I"⟩ ∈ WS := mW 610 (by decide +kernel) (by decide +kernel)
theorem kw_611 : Cond.methodLink "LampMural$Scene" 76 ⟨"LampMural$Row", "set", "(II)V"⟩ ∈ WS := mW 611 (by decide +kernel) (by decide +kernel)
theorem kw_612 : Cond.methodLink "LampMural" 80 ⟨"LampMural$Scene", "hangLamp", "(II)I"⟩ ∈ WS := mW 612 (by decide +kernel) (by decide +kernel)
theorem kw_613 : Cond.instanceMethod ⟨"LampMural$Scene", "hangLamp", "(II)I"⟩ ∈ WS := mW 613 (by decide +kernel) (by decide +kernel)
theorem kw_614 : Cond.selects "LampMural$Scene" ⟨"LampMural$Scene", "hangLamp", "(II)I"⟩ ⟨"LampMural$Scene", "hangLamp", "(II)I"⟩ ∈ WS := mW 614 (by decide +kernel) (by decide +kernel)
theorem kw_615 : Cond.code ⟨"LampMural$Scene", "hangLamp", "(II)I"⟩ prog_6_method_5_code 5 (some FieldType.int) ∈ WS := mW 615 (by decide +kernel) (by decide +kernel)
theorem kw_616 : Cond.methodLink "LampMural$Scene" 80 ⟨"LampMural$Scene", "moveCorner", "(IIII)V"⟩ ∈ WS := mW 616 (by decide +kernel) (by decide +kernel)
theorem kw_617 : Cond.instanceMethod ⟨"LampMural$Scene", "moveCorner", "(IIII)V"⟩ ∈ WS := mW 617 (by decide +kernel) (by decide +kernel)
theorem kw_618 : Cond.selects "LampMural$Scene" ⟨"LampMural$Scene", "moveCorner", "(IIII)V"⟩ ⟨"LampMural$Scene", "moveCorner", "(IIII)V"⟩ ∈ WS := mW 618 (by decide +kernel) (by decide +kernel)
theorem kw_619 : Cond.code ⟨"LampMural$Scene", "moveCorner", "(IIII)V"⟩ prog_6_method_6_code 5 none ∈ WS := mW 619 (by decide +kernel) (by decide +kernel)
theorem kw_620 : Cond.methodLink "LampMural" 87 ⟨"LampMural$Scene", "moveCorner", "(IIII)V"⟩ ∈ WS := mW 620 (by decide +kernel) (by decide +kernel)
theorem kw_621 : Cond.methodLink "LampMural" 129 ⟨"LampMural$Scene", "moveWall", "(II)V"⟩ ∈ WS := mW 621 (by decide +kernel) (by decide +kernel)
theorem kw_622 : Cond.instanceMethod ⟨"LampMural$Scene", "moveWall", "(II)V"⟩ ∈ WS := mW 622 (by decide +kernel) (by decide +kernel)
theorem kw_623 : Cond.selects "LampMural$Scene" ⟨"LampMural$Scene", "moveWall", "(II)V"⟩ ⟨"LampMural$Scene", "moveWall", "(II)V"⟩ ∈ WS := mW 623 (by decide +kernel) (by decide +kernel)
theorem kw_624 : Cond.code ⟨"LampMural$Scene", "moveWall", "(II)V"⟩ prog_6_method_9_code 3 none ∈ WS := mW 624 (by decide +kernel) (by decide +kernel)
theorem kw_625 : Cond.methodLink "LampMural" 122 ⟨"LampMural$Scene", "switchLamp", "(IZ)V"⟩ ∈ WS := mW 625 (by decide +kernel) (by decide +kernel)
theorem kw_626 : Cond.instanceMethod ⟨"LampMural$Scene", "switchLamp", "(IZ)V"⟩ ∈ WS := mW 626 (by decide +kernel) (by decide +kernel)
theorem kw_627 : Cond.selects "LampMural$Scene" ⟨"LampMural$Scene", "switchLamp", "(IZ)V"⟩ ⟨"LampMural$Scene", "switchLamp", "(IZ)V"⟩ ∈ WS := mW 627 (by decide +kernel) (by decide +kernel)
theorem kw_628 : Cond.code ⟨"LampMural$Scene", "switchLamp", "(IZ)V"⟩ prog_6_method_8_code 3 none ∈ WS := mW 628 (by decide +kernel) (by decide +kernel)
theorem kw_629 : Cond.methodLink "LampMural" 138 ⟨"LampMural", "burnHours", "(I)V"⟩ ∈ WS := mW 629 (by decide +kernel) (by decide +kernel)
theorem kw_631 : Cond.instanceMethod ⟨"LampMural", "burnHours", "(I)V"⟩ ∈ WS := mW 631 (by decide +kernel) (by decide +kernel)
theorem kw_632 : Cond.code ⟨"LampMural", "burnHours", "(I)V"⟩ prog_1_method_34_code 3 none ∈ WS := mW 632 (by decide +kernel) (by decide +kernel)
theorem kw_633 : Cond.methodLink "LampMural" 98 ⟨"LampMural$Survey", "refresh", "(LLampMural$Scene;)V"⟩ ∈ WS := mW 633 (by decide +kernel) (by decide +kernel)
theorem kw_634 : Cond.instanceMethod ⟨"LampMural$Survey", "refresh", "(LLampMural$Scene;)V"⟩ ∈ WS := mW 634 (by decide +kernel) (by decide +kernel)
theorem kw_635 : Cond.selects "LampMural$Survey" ⟨"LampMural$Survey", "refresh", "(LLampMural$Scene;)V"⟩ ⟨"LampMural$Survey", "refresh", "(LLampMural$Scene;)V"⟩ ∈ WS := mW 635 (by decide +kernel) (by decide +kernel)
theorem kw_636 : Cond.code ⟨"LampMural$Survey", "refresh", "(LLampMural$Scene;)V"⟩ prog_7_method_2_code 4 none ∈ WS := mW 636 (by decide +kernel) (by decide +kernel)
theorem kw_637 : Cond.methodLink "LampMural$Survey" 42 ⟨"LampMural$Scene", "shiningLamps", "()I"⟩ ∈ WS := mW 637 (by decide +kernel) (by decide +kernel)
theorem kw_638 : Cond.methodLink "LampMural$Survey" 46 ⟨"LampMural$Dimmer", "prepare", "(LLampMural$Scene;I)V"⟩ ∈ WS := mW 638 (by decide +kernel) (by decide +kernel)
theorem kw_640 : Cond.methodLink "LampMural$Survey" 70 ⟨"LampMural$Scene", "targetAt", "(I)I"⟩ ∈ WS := mW 640 (by decide +kernel) (by decide +kernel)
theorem kw_641 : Cond.methodLink "LampMural$Survey" 74 ⟨"LampMural$Dimmer", "dimPoint", "(LLampMural$Scene;III)V"⟩ ∈ WS := mW 641 (by decide +kernel) (by decide +kernel)
theorem kw_642 : Cond.methodLink "LampMural$Survey" 78 ⟨"LampMural$Survey", "keepPlace", "()V"⟩ ∈ WS := mW 642 (by decide +kernel) (by decide +kernel)
theorem kw_644 : Cond.instanceMethod ⟨"LampMural$Survey", "keepPlace", "()V"⟩ ∈ WS := mW 644 (by decide +kernel) (by decide +kernel)
theorem kw_645 : Cond.code ⟨"LampMural$Survey", "keepPlace", "()V"⟩ prog_7_method_3_code 2 none ∈ WS := mW 645 (by decide +kernel) (by decide +kernel)
theorem kw_646 : Cond.methodLink "LampMural$Survey" 83 ⟨"LampMural$Row", "set", "(II)V"⟩ ∈ WS := mW 646 (by decide +kernel) (by decide +kernel)
theorem kw_647 : Cond.methodLink "LampMural$Survey" 93 ⟨"LampMural$Row", "get", "(I)I"⟩ ∈ WS := mW 647 (by decide +kernel) (by decide +kernel)
theorem kw_648 : Cond.methodLink "LampMural" 119 ⟨"LampMural$Scene", "isWorking", "(I)Z"⟩ ∈ WS := mW 648 (by decide +kernel) (by decide +kernel)
theorem kw_649 : Cond.methodLink "LampMural" 282 ⟨"LampMural$Scene", "limitOf", "(I)I"⟩ ∈ WS := mW 649 (by decide +kernel) (by decide +kernel)
theorem kw_650 : Cond.methodLink "LampMural" 291 ⟨"LampMural$Survey", "loadOf", "(II)I"⟩ ∈ WS := mW 650 (by decide +kernel) (by decide +kernel)
theorem kw_651 : Cond.instanceMethod ⟨"LampMural$Survey", "loadOf", "(II)I"⟩ ∈ WS := mW 651 (by decide +kernel) (by decide +kernel)
theorem kw_652 : Cond.selects "LampMural$Survey" ⟨"LampMural$Survey", "loadOf", "(II)I"⟩ ⟨"LampMural$Survey", "loadOf", "(II)I"⟩ ∈ WS := mW 652 (by decide +kernel) (by decide +kernel)
theorem kw_653 : Cond.code ⟨"LampMural$Survey", "loadOf", "(II)I"⟩ prog_7_method_17_code 4 (some FieldType.int) ∈ WS := mW 653 (by decide +kernel) (by decide +kernel)
theorem kw_654 : Cond.methodLink "LampMural$Survey" 116 ⟨"LampMural$Survey", "placesOf", "(I)I"⟩ ∈ WS := mW 654 (by decide +kernel) (by decide +kernel)
theorem kw_655 : Cond.instanceMethod ⟨"LampMural$Survey", "placesOf", "(I)I"⟩ ∈ WS := mW 655 (by decide +kernel) (by decide +kernel)
theorem kw_656 : Cond.selects "LampMural$Survey" ⟨"LampMural$Survey", "placesOf", "(I)I"⟩ ⟨"LampMural$Survey", "placesOf", "(I)I"⟩ ∈ WS := mW 656 (by decide +kernel) (by decide +kernel)
theorem kw_657 : Cond.code ⟨"LampMural$Survey", "placesOf", "(I)I"⟩ prog_7_method_9_code 4 (some FieldType.int) ∈ WS := mW 657 (by decide +kernel) (by decide +kernel)
theorem kw_658 : Cond.methodLink "LampMural$Survey" 100 ⟨"LampMural$Survey", "isCovered", "(II)Z"⟩ ∈ WS := mW 658 (by decide +kernel) (by decide +kernel)
theorem kw_659 : Cond.instanceMethod ⟨"LampMural$Survey", "isCovered", "(II)Z"⟩ ∈ WS := mW 659 (by decide +kernel) (by decide +kernel)
theorem kw_660 : Cond.selects "LampMural$Survey" ⟨"LampMural$Survey", "isCovered", "(II)Z"⟩ ⟨"LampMural$Survey", "isCovered", "(II)Z"⟩ ∈ WS := mW 660 (by decide +kernel) (by decide +kernel)
theorem kw_661 : Cond.code ⟨"LampMural$Survey", "isCovered", "(II)Z"⟩ prog_7_method_7_code 3 (some FieldType.boolean) ∈ WS := mW 661 (by decide +kernel) (by decide +kernel)
theorem kw_663 : Cond.methodLink "LampMural$Survey" 119 ⟨"LampMural$Survey", "sumOfLights", "(I)I"⟩ ∈ WS := mW 663 (by decide +kernel) (by decide +kernel)
theorem kw_664 : Cond.instanceMethod ⟨"LampMural$Survey", "sumOfLights", "(I)I"⟩ ∈ WS := mW 664 (by decide +kernel) (by decide +kernel)
theorem kw_665 : Cond.selects "LampMural$Survey" ⟨"LampMural$Survey", "sumOfLights", "(I)I"⟩ ⟨"LampMural$Survey", "sumOfLights", "(I)I"⟩ ∈ WS := mW 665 (by decide +kernel) (by decide +kernel)
theorem kw_666 : Cond.code ⟨"LampMural$Survey", "sumOfLights", "(I)I"⟩ prog_7_method_15_code 4 (some FieldType.int) ∈ WS := mW 666 (by decide +kernel) (by decide +kernel)
theorem kw_667 : Cond.methodLink "LampMural" 318 ⟨"LampMural$Scene", "wearOut", "(II)V"⟩ ∈ WS := mW 667 (by decide +kernel) (by decide +kernel)
theorem kw_668 : Cond.instanceMethod ⟨"LampMural$Scene", "wearOut", "(II)V"⟩ ∈ WS := mW 668 (by decide +kernel) (by decide +kernel)
theorem kw_669 : Cond.selects "LampMural$Scene" ⟨"LampMural$Scene", "wearOut", "(II)V"⟩ ⟨"LampMural$Scene", "wearOut", "(II)V"⟩ ∈ WS := mW 669 (by decide +kernel) (by decide +kernel)
theorem kw_670 : Cond.code ⟨"LampMural$Scene", "wearOut", "(II)V"⟩ prog_6_method_10_code 3 none ∈ WS := mW 670 (by decide +kernel) (by decide +kernel)
theorem kw_671 : Cond.methodLink "LampMural" 321 ⟨"LampMural$Scene", "countHours", "(I)V"⟩ ∈ WS := mW 671 (by decide +kernel) (by decide +kernel)
theorem kw_672 : Cond.instanceMethod ⟨"LampMural$Scene", "countHours", "(I)V"⟩ ∈ WS := mW 672 (by decide +kernel) (by decide +kernel)
theorem kw_673 : Cond.selects "LampMural$Scene" ⟨"LampMural$Scene", "countHours", "(I)V"⟩ ⟨"LampMural$Scene", "countHours", "(I)V"⟩ ∈ WS := mW 673 (by decide +kernel) (by decide +kernel)
theorem kw_674 : Cond.code ⟨"LampMural$Scene", "countHours", "(I)V"⟩ prog_6_method_11_code 2 none ∈ WS := mW 674 (by decide +kernel) (by decide +kernel)
theorem kw_677 : Cond.instanceMethod ⟨"LampMural", "digest", "()J"⟩ ∈ WS := mW 677 (by decide +kernel) (by decide +kernel)
theorem kw_678 : Cond.selects "LampMural" ⟨"LampMural", "digest", "()J"⟩ ⟨"LampMural", "digest", "()J"⟩ ∈ WS := mW 678 (by decide +kernel) (by decide +kernel)
theorem kw_679 : Cond.code ⟨"LampMural", "digest", "()J"⟩ prog_1_method_27_code 4 (some FieldType.long) ∈ WS := mW 679 (by decide +kernel) (by decide +kernel)
theorem kw_680 : Cond.constantLong "LampMural" 247 (43276 : Int64) ∈ WS := mW 680 (by decide +kernel) (by decide +kernel)
theorem kw_681 : Cond.constantLong "LampMural" 249 (31 : Int64) ∈ WS := mW 681 (by decide +kernel) (by decide +kernel)
theorem kw_682 : Cond.methodLink "LampMural" 183 ⟨"LampMural", "wholeValue", "(I)I"⟩ ∈ WS := mW 682 (by decide +kernel) (by decide +kernel)
theorem kw_684 : Cond.instanceMethod ⟨"LampMural", "wholeValue", "(I)I"⟩ ∈ WS := mW 684 (by decide +kernel) (by decide +kernel)
theorem kw_685 : Cond.code ⟨"LampMural", "wholeValue", "(I)I"⟩ prog_1_method_32_code 2 (some FieldType.int) ∈ WS := mW 685 (by decide +kernel) (by decide +kernel)
theorem kw_686 : Cond.methodLink "LampMural" 300 ⟨"LampMural$Scene", "workingLamps", "()I"⟩ ∈ WS := mW 686 (by decide +kernel) (by decide +kernel)
theorem kw_687 : Cond.instanceMethod ⟨"LampMural$Scene", "workingLamps", "()I"⟩ ∈ WS := mW 687 (by decide +kernel) (by decide +kernel)
theorem kw_688 : Cond.selects "LampMural$Scene" ⟨"LampMural$Scene", "workingLamps", "()I"⟩ ⟨"LampMural$Scene", "workingLamps", "()I"⟩ ∈ WS := mW 688 (by decide +kernel) (by decide +kernel)
theorem kw_689 : Cond.code ⟨"LampMural$Scene", "workingLamps", "()I"⟩ prog_6_method_20_code 3 (some FieldType.int) ∈ WS := mW 689 (by decide +kernel) (by decide +kernel)
theorem kw_690 : Cond.methodLink "LampMural" 303 ⟨"LampMural$Survey", "placesInState", "(I)I"⟩ ∈ WS := mW 690 (by decide +kernel) (by decide +kernel)
theorem kw_691 : Cond.instanceMethod ⟨"LampMural$Survey", "placesInState", "(I)I"⟩ ∈ WS := mW 691 (by decide +kernel) (by decide +kernel)
theorem kw_692 : Cond.selects "LampMural$Survey" ⟨"LampMural$Survey", "placesInState", "(I)I"⟩ ⟨"LampMural$Survey", "placesInState", "(I)I"⟩ ∈ WS := mW 692 (by decide +kernel) (by decide +kernel)
theorem kw_693 : Cond.code ⟨"LampMural$Survey", "placesInState", "(I)I"⟩ prog_7_method_12_code 4 (some FieldType.int) ∈ WS := mW 693 (by decide +kernel) (by decide +kernel)
theorem kw_694 : Cond.methodLink "LampMural" 306 ⟨"LampMural$Scene", "sumOfTargets", "()I"⟩ ∈ WS := mW 694 (by decide +kernel) (by decide +kernel)
theorem kw_695 : Cond.instanceMethod ⟨"LampMural$Scene", "sumOfTargets", "()I"⟩ ∈ WS := mW 695 (by decide +kernel) (by decide +kernel)
theorem kw_696 : Cond.selects "LampMural$Scene" ⟨"LampMural$Scene", "sumOfTargets", "()I"⟩ ⟨"LampMural$Scene", "sumOfTargets", "()I"⟩ ∈ WS := mW 696 (by decide +kernel) (by decide +kernel)
theorem kw_697 : Cond.code ⟨"LampMural$Scene", "sumOfTargets", "()I"⟩ prog_6_method_17_code 3 (some FieldType.int) ∈ WS := mW 697 (by decide +kernel) (by decide +kernel)
theorem kw_698 : Cond.methodLink "LampMural" 309 ⟨"LampMural$Survey", "sumOfBrightness", "()I"⟩ ∈ WS := mW 698 (by decide +kernel) (by decide +kernel)
theorem kw_699 : Cond.instanceMethod ⟨"LampMural$Survey", "sumOfBrightness", "()I"⟩ ∈ WS := mW 699 (by decide +kernel) (by decide +kernel)
theorem kw_700 : Cond.selects "LampMural$Survey" ⟨"LampMural$Survey", "sumOfBrightness", "()I"⟩ ⟨"LampMural$Survey", "sumOfBrightness", "()I"⟩ ∈ WS := mW 700 (by decide +kernel) (by decide +kernel)
theorem kw_701 : Cond.code ⟨"LampMural$Survey", "sumOfBrightness", "()I"⟩ prog_7_method_14_code 3 (some FieldType.int) ∈ WS := mW 701 (by decide +kernel) (by decide +kernel)
theorem kw_702 : Cond.methodLink "LampMural" 315 ⟨"LampMural$Survey", "placesOfSeveral", "()I"⟩ ∈ WS := mW 702 (by decide +kernel) (by decide +kernel)
theorem kw_703 : Cond.instanceMethod ⟨"LampMural$Survey", "placesOfSeveral", "()I"⟩ ∈ WS := mW 703 (by decide +kernel) (by decide +kernel)
theorem kw_704 : Cond.selects "LampMural$Survey" ⟨"LampMural$Survey", "placesOfSeveral", "()I"⟩ ⟨"LampMural$Survey", "placesOfSeveral", "()I"⟩ ∈ WS := mW 704 (by decide +kernel) (by decide +kernel)
theorem kw_705 : Cond.code ⟨"LampMural$Survey", "placesOfSeveral", "()I"⟩ prog_7_method_11_code 3 (some FieldType.int) ∈ WS := mW 705 (by decide +kernel) (by decide +kernel)
theorem kw_706 : Cond.methodLink "LampMural$Survey" 103 ⟨"java/lang/Integer", "bitCount", "(I)I"⟩ ∈ WS := mW 706 (by decide +kernel) (by decide +kernel)
theorem kw_707 : Cond.static ⟨"java/lang/Integer", "bitCount", "(I)I"⟩ ∈ WS := mW 707 (by decide +kernel) (by decide +kernel)
theorem kw_708 : Cond.code ⟨"java/lang/Integer", "bitCount", "(I)I"⟩ prog_14_method_49_code 1 (some FieldType.int) ∈ WS := mW 708 (by decide +kernel) (by decide +kernel)
theorem kw_709 : Cond.constant "java/lang/Integer" 265 (1431655765 : Int32) ∈ WS := mW 709 (by decide +kernel) (by decide +kernel)
theorem kw_710 : Cond.constant "java/lang/Integer" 266 (858993459 : Int32) ∈ WS := mW 710 (by decide +kernel) (by decide +kernel)
theorem kw_711 : Cond.constant "java/lang/Integer" 267 (252645135 : Int32) ∈ WS := mW 711 (by decide +kernel) (by decide +kernel)
theorem kw_712 : Cond.methodLink "LampMural" 251 ⟨"LampMural", "addLampTo", "(JI)J"⟩ ∈ WS := mW 712 (by decide +kernel) (by decide +kernel)
theorem kw_714 : Cond.instanceMethod ⟨"LampMural", "addLampTo", "(JI)J"⟩ ∈ WS := mW 714 (by decide +kernel) (by decide +kernel)
theorem kw_715 : Cond.code ⟨"LampMural", "addLampTo", "(JI)J"⟩ prog_1_method_28_code 7 (some FieldType.long) ∈ WS := mW 715 (by decide +kernel) (by decide +kernel)
theorem kw_716 : Cond.methodLink "LampMural" 109 ⟨"LampMural", "lampValue", "(II)I"⟩ ∈ WS := mW 716 (by decide +kernel) (by decide +kernel)
theorem kw_718 : Cond.instanceMethod ⟨"LampMural", "lampValue", "(II)I"⟩ ∈ WS := mW 718 (by decide +kernel) (by decide +kernel)
theorem kw_719 : Cond.code ⟨"LampMural", "lampValue", "(II)I"⟩ prog_1_method_31_code 3 (some FieldType.int) ∈ WS := mW 719 (by decide +kernel) (by decide +kernel)
theorem kw_720 : Cond.methodLink "LampMural" 271 ⟨"LampMural$Row", "get", "(I)I"⟩ ∈ WS := mW 720 (by decide +kernel) (by decide +kernel)
theorem kw_721 : Cond.methodLink "LampMural" 285 ⟨"LampMural$Scene", "floorOf", "(I)I"⟩ ∈ WS := mW 721 (by decide +kernel) (by decide +kernel)
theorem kw_722 : Cond.methodLink "LampMural" 91 ⟨"LampMural$Scene", "isGood", "(I)Z"⟩ ∈ WS := mW 722 (by decide +kernel) (by decide +kernel)
theorem kw_723 : Cond.methodLink "LampMural" 101 ⟨"LampMural$Survey", "placesOf", "(I)I"⟩ ∈ WS := mW 723 (by decide +kernel) (by decide +kernel)
theorem kw_724 : Cond.methodLink "LampMural" 288 ⟨"LampMural$Survey", "sumOfLights", "(I)I"⟩ ∈ WS := mW 724 (by decide +kernel) (by decide +kernel)
theorem kw_725 : Cond.methodLink "LampMural" 294 ⟨"LampMural$Survey", "greatestLightOf", "(I)I"⟩ ∈ WS := mW 725 (by decide +kernel) (by decide +kernel)
theorem kw_726 : Cond.instanceMethod ⟨"LampMural$Survey", "greatestLightOf", "(I)I"⟩ ∈ WS := mW 726 (by decide +kernel) (by decide +kernel)
theorem kw_727 : Cond.selects "LampMural$Survey" ⟨"LampMural$Survey", "greatestLightOf", "(I)I"⟩ ⟨"LampMural$Survey", "greatestLightOf", "(I)I"⟩ ∈ WS := mW 727 (by decide +kernel) (by decide +kernel)
theorem kw_728 : Cond.code ⟨"LampMural$Survey", "greatestLightOf", "(I)I"⟩ prog_7_method_16_code 4 (some FieldType.int) ∈ WS := mW 728 (by decide +kernel) (by decide +kernel)
theorem kw_729 : Cond.methodLink "LampMural$Survey" 111 ⟨"java/lang/Math", "max", "(II)I"⟩ ∈ WS := mW 729 (by decide +kernel) (by decide +kernel)
theorem kw_730 : Cond.methodLink "LampMural" 297 ⟨"LampMural$Survey", "placesOnlyOf", "(I)I"⟩ ∈ WS := mW 730 (by decide +kernel) (by decide +kernel)
theorem kw_731 : Cond.instanceMethod ⟨"LampMural$Survey", "placesOnlyOf", "(I)I"⟩ ∈ WS := mW 731 (by decide +kernel) (by decide +kernel)
theorem kw_732 : Cond.selects "LampMural$Survey" ⟨"LampMural$Survey", "placesOnlyOf", "(I)I"⟩ ⟨"LampMural$Survey", "placesOnlyOf", "(I)I"⟩ ∈ WS := mW 732 (by decide +kernel) (by decide +kernel)
theorem kw_733 : Cond.code ⟨"LampMural$Survey", "placesOnlyOf", "(I)I"⟩ prog_7_method_10_code 4 (some FieldType.int) ∈ WS := mW 733 (by decide +kernel) (by decide +kernel)
theorem kw_734 : Cond.methodLink "LampMural" 180 ⟨"LampMural$Scene", "cornerValue", "(III)I"⟩ ∈ WS := mW 734 (by decide +kernel) (by decide +kernel)
theorem kw_735 : Cond.instanceMethod ⟨"LampMural$Scene", "cornerValue", "(III)I"⟩ ∈ WS := mW 735 (by decide +kernel) (by decide +kernel)
theorem kw_736 : Cond.selects "LampMural$Scene" ⟨"LampMural$Scene", "cornerValue", "(III)I"⟩ ⟨"LampMural$Scene", "cornerValue", "(III)I"⟩ ∈ WS := mW 736 (by decide +kernel) (by decide +kernel)
theorem kw_737 : Cond.code ⟨"LampMural$Scene", "cornerValue", "(III)I"⟩ prog_6_method_18_code 4 (some FieldType.int) ∈ WS := mW 737 (by decide +kernel) (by decide +kernel)
theorem kw_738 : Cond.methodLink "LampMural" 56 ⟨"LampMural$Scene", "placeCount", "()I"⟩ ∈ WS := mW 738 (by decide +kernel) (by decide +kernel)
theorem kw_739 : Cond.instanceMethod ⟨"LampMural$Scene", "placeCount", "()I"⟩ ∈ WS := mW 739 (by decide +kernel) (by decide +kernel)
theorem kw_740 : Cond.selects "LampMural$Scene" ⟨"LampMural$Scene", "placeCount", "()I"⟩ ⟨"LampMural$Scene", "placeCount", "()I"⟩ ∈ WS := mW 740 (by decide +kernel) (by decide +kernel)
theorem kw_741 : Cond.code ⟨"LampMural$Scene", "placeCount", "()I"⟩ prog_6_method_14_code 1 (some FieldType.int) ∈ WS := mW 741 (by decide +kernel) (by decide +kernel)
theorem kw_742 : Cond.methodLink "LampMural" 255 ⟨"LampMural", "addPlaceTo", "(JI)J"⟩ ∈ WS := mW 742 (by decide +kernel) (by decide +kernel)
theorem kw_744 : Cond.instanceMethod ⟨"LampMural", "addPlaceTo", "(JI)J"⟩ ∈ WS := mW 744 (by decide +kernel) (by decide +kernel)
theorem kw_745 : Cond.code ⟨"LampMural", "addPlaceTo", "(JI)J"⟩ prog_1_method_29_code 7 (some FieldType.long) ∈ WS := mW 745 (by decide +kernel) (by decide +kernel)
theorem kw_746 : Cond.methodLink "LampMural" 153 ⟨"LampMural", "placeValue", "(II)I"⟩ ∈ WS := mW 746 (by decide +kernel) (by decide +kernel)
theorem kw_748 : Cond.instanceMethod ⟨"LampMural", "placeValue", "(II)I"⟩ ∈ WS := mW 748 (by decide +kernel) (by decide +kernel)
theorem kw_749 : Cond.code ⟨"LampMural", "placeValue", "(II)I"⟩ prog_1_method_30_code 3 (some FieldType.int) ∈ WS := mW 749 (by decide +kernel) (by decide +kernel)
theorem kw_750 : Cond.methodLink "LampMural" 208 ⟨"LampMural$Scene", "targetAt", "(I)I"⟩ ∈ WS := mW 750 (by decide +kernel) (by decide +kernel)
theorem kw_751 : Cond.methodLink "LampMural" 211 ⟨"LampMural$Survey", "brightnessAt", "(I)I"⟩ ∈ WS := mW 751 (by decide +kernel) (by decide +kernel)
theorem kw_752 : Cond.instanceMethod ⟨"LampMural$Survey", "brightnessAt", "(I)I"⟩ ∈ WS := mW 752 (by decide +kernel) (by decide +kernel)
theorem kw_753 : Cond.selects "LampMural$Survey" ⟨"LampMural$Survey", "brightnessAt", "(I)I"⟩ ⟨"LampMural$Survey", "brightnessAt", "(I)I"⟩ ∈ WS := mW 753 (by decide +kernel) (by decide +kernel)
theorem kw_754 : Cond.code ⟨"LampMural$Survey", "brightnessAt", "(I)I"⟩ prog_7_method_5_code 2 (some FieldType.int) ∈ WS := mW 754 (by decide +kernel) (by decide +kernel)
theorem kw_755 : Cond.methodLink "LampMural" 192 ⟨"LampMural$Survey", "stateAt", "(I)I"⟩ ∈ WS := mW 755 (by decide +kernel) (by decide +kernel)
theorem kw_756 : Cond.instanceMethod ⟨"LampMural$Survey", "stateAt", "(I)I"⟩ ∈ WS := mW 756 (by decide +kernel) (by decide +kernel)
theorem kw_757 : Cond.selects "LampMural$Survey" ⟨"LampMural$Survey", "stateAt", "(I)I"⟩ ⟨"LampMural$Survey", "stateAt", "(I)I"⟩ ∈ WS := mW 757 (by decide +kernel) (by decide +kernel)
theorem kw_758 : Cond.code ⟨"LampMural$Survey", "stateAt", "(I)I"⟩ prog_7_method_6_code 2 (some FieldType.int) ∈ WS := mW 758 (by decide +kernel) (by decide +kernel)
theorem kw_759 : Cond.methodLink "LampMural" 258 ⟨"LampMural$Survey", "coveringAt", "(I)I"⟩ ∈ WS := mW 759 (by decide +kernel) (by decide +kernel)
theorem kw_760 : Cond.instanceMethod ⟨"LampMural$Survey", "coveringAt", "(I)I"⟩ ∈ WS := mW 760 (by decide +kernel) (by decide +kernel)
theorem kw_761 : Cond.selects "LampMural$Survey" ⟨"LampMural$Survey", "coveringAt", "(I)I"⟩ ⟨"LampMural$Survey", "coveringAt", "(I)I"⟩ ∈ WS := mW 761 (by decide +kernel) (by decide +kernel)
theorem kw_762 : Cond.code ⟨"LampMural$Survey", "coveringAt", "(I)I"⟩ prog_7_method_4_code 2 (some FieldType.int) ∈ WS := mW 762 (by decide +kernel) (by decide +kernel)
theorem kw_763 : Cond.methodLink "LampMural" 261 ⟨"LampMural$Scene", "sumOfLimits", "(I)I"⟩ ∈ WS := mW 763 (by decide +kernel) (by decide +kernel)
theorem kw_764 : Cond.instanceMethod ⟨"LampMural$Scene", "sumOfLimits", "(I)I"⟩ ∈ WS := mW 764 (by decide +kernel) (by decide +kernel)
theorem kw_765 : Cond.selects "LampMural$Scene" ⟨"LampMural$Scene", "sumOfLimits", "(I)I"⟩ ⟨"LampMural$Scene", "sumOfLimits", "(I)I"⟩ ∈ WS := mW 765 (by decide +kernel) (by decide +kernel)
theorem kw_766 : Cond.code ⟨"LampMural$Scene", "sumOfLimits", "(I)I"⟩ prog_6_method_24_code 4 (some FieldType.int) ∈ WS := mW 766 (by decide +kernel) (by decide +kernel)
theorem kw_768 : Cond.methodLink "LampMural" 264 ⟨"LampMural$Scene", "sumOfFloors", "(I)I"⟩ ∈ WS := mW 768 (by decide +kernel) (by decide +kernel)
theorem kw_769 : Cond.instanceMethod ⟨"LampMural$Scene", "sumOfFloors", "(I)I"⟩ ∈ WS := mW 769 (by decide +kernel) (by decide +kernel)
theorem kw_770 : Cond.selects "LampMural$Scene" ⟨"LampMural$Scene", "sumOfFloors", "(I)I"⟩ ⟨"LampMural$Scene", "sumOfFloors", "(I)I"⟩ ∈ WS := mW 770 (by decide +kernel) (by decide +kernel)
theorem kw_771 : Cond.code ⟨"LampMural$Scene", "sumOfFloors", "(I)I"⟩ prog_6_method_25_code 4 (some FieldType.int) ∈ WS := mW 771 (by decide +kernel) (by decide +kernel)
theorem kw_772 : Cond.methodLink "LampMural$Scene" 99 ⟨"LampMural$Scene", "floorOf", "(I)I"⟩ ∈ WS := mW 772 (by decide +kernel) (by decide +kernel)
theorem kw_773 : Cond.methodLink "LampMural" 156 ⟨"LampMural$Survey", "lightOf", "(II)I"⟩ ∈ WS := mW 773 (by decide +kernel) (by decide +kernel)
theorem kw_774 : Cond.instanceMethod ⟨"LampMural$Survey", "lightOf", "(II)I"⟩ ∈ WS := mW 774 (by decide +kernel) (by decide +kernel)
theorem kw_775 : Cond.selects "LampMural$Survey" ⟨"LampMural$Survey", "lightOf", "(II)I"⟩ ⟨"LampMural$Survey", "lightOf", "(II)I"⟩ ∈ WS := mW 775 (by decide +kernel) (by decide +kernel)
theorem kw_776 : Cond.code ⟨"LampMural$Survey", "lightOf", "(II)I"⟩ prog_7_method_8_code 3 (some FieldType.int) ∈ WS := mW 776 (by decide +kernel) (by decide +kernel)
theorem kw_782 : Cond.instanceMethod ⟨"LampMural", "begin", "(II)I"⟩ ∈ WS := mW 782 (by decide +kernel) (by decide +kernel)
theorem kw_783 : Cond.selects "LampMural" ⟨"LampMural", "begin", "(II)I"⟩ ⟨"LampMural", "begin", "(II)I"⟩ ∈ WS := mW 783 (by decide +kernel) (by decide +kernel)
theorem kw_784 : Cond.code ⟨"LampMural", "begin", "(II)I"⟩ prog_1_method_2_code 4 (some FieldType.int) ∈ WS := mW 784 (by decide +kernel) (by decide +kernel)
theorem kw_785 : Cond.methodLink "LampMural" 48 ⟨"LampMural", "refuseArgument", "(I)V"⟩ ∈ WS := mW 785 (by decide +kernel) (by decide +kernel)
theorem kw_786 : Cond.static ⟨"LampMural", "refuseArgument", "(I)V"⟩ ∈ WS := mW 786 (by decide +kernel) (by decide +kernel)
theorem kw_787 : Cond.code ⟨"LampMural", "refuseArgument", "(I)V"⟩ prog_1_method_49_code 1 none ∈ WS := mW 787 (by decide +kernel) (by decide +kernel)
theorem kw_830 : Cond.methodLink "LampMural" 350 ⟨"java/lang/IllegalArgumentException", "<init>", "(Ljava/lang/String;)V"⟩ ∈ WS := mW 830 (by decide +kernel) (by decide +kernel)
theorem kw_860 : Cond.instanceMethod ⟨"LampMural", "paint", "(IIIII)I"⟩ ∈ WS := mW 860 (by decide +kernel) (by decide +kernel)
theorem kw_861 : Cond.selects "LampMural" ⟨"LampMural", "paint", "(IIIII)I"⟩ ⟨"LampMural", "paint", "(IIIII)I"⟩ ∈ WS := mW 861 (by decide +kernel) (by decide +kernel)
theorem kw_862 : Cond.code ⟨"LampMural", "paint", "(IIIII)I"⟩ prog_1_method_3_code 7 (some FieldType.int) ∈ WS := mW 862 (by decide +kernel) (by decide +kernel)
theorem kw_863 : Cond.methodLink "LampMural" 68 ⟨"LampMural", "refuseIndex", "(I)V"⟩ ∈ WS := mW 863 (by decide +kernel) (by decide +kernel)
theorem kw_864 : Cond.static ⟨"LampMural", "refuseIndex", "(I)V"⟩ ∈ WS := mW 864 (by decide +kernel) (by decide +kernel)
theorem kw_865 : Cond.code ⟨"LampMural", "refuseIndex", "(I)V"⟩ prog_1_method_48_code 1 none ∈ WS := mW 865 (by decide +kernel) (by decide +kernel)
theorem kw_876 : Cond.methodLink "LampMural" 343 ⟨"java/lang/IndexOutOfBoundsException", "<init>", "(Ljava/lang/String;)V"⟩ ∈ WS := mW 876 (by decide +kernel) (by decide +kernel)
theorem kw_887 : Cond.instanceMethod ⟨"LampMural", "addLamp", "(II)I"⟩ ∈ WS := mW 887 (by decide +kernel) (by decide +kernel)
theorem kw_888 : Cond.selects "LampMural" ⟨"LampMural", "addLamp", "(II)I"⟩ ⟨"LampMural", "addLamp", "(II)I"⟩ ∈ WS := mW 888 (by decide +kernel) (by decide +kernel)
theorem kw_889 : Cond.code ⟨"LampMural", "addLamp", "(II)I"⟩ prog_1_method_4_code 4 (some FieldType.int) ∈ WS := mW 889 (by decide +kernel) (by decide +kernel)
theorem kw_890 : Cond.methodLink "LampMural" 77 ⟨"LampMural", "refuseState", "(I)V"⟩ ∈ WS := mW 890 (by decide +kernel) (by decide +kernel)
theorem kw_891 : Cond.static ⟨"LampMural", "refuseState", "(I)V"⟩ ∈ WS := mW 891 (by decide +kernel) (by decide +kernel)
theorem kw_892 : Cond.code ⟨"LampMural", "refuseState", "(I)V"⟩ prog_1_method_50_code 1 none ∈ WS := mW 892 (by decide +kernel) (by decide +kernel)
theorem kw_903 : Cond.methodLink "LampMural" 355 ⟨"java/lang/IllegalStateException", "<init>", "(Ljava/lang/String;)V"⟩ ∈ WS := mW 903 (by decide +kernel) (by decide +kernel)
theorem kw_913 : Cond.instanceMethod ⟨"LampMural", "setCorner", "(IIII)I"⟩ ∈ WS := mW 913 (by decide +kernel) (by decide +kernel)
theorem kw_914 : Cond.selects "LampMural" ⟨"LampMural", "setCorner", "(IIII)I"⟩ ⟨"LampMural", "setCorner", "(IIII)I"⟩ ∈ WS := mW 914 (by decide +kernel) (by decide +kernel)
theorem kw_915 : Cond.code ⟨"LampMural", "setCorner", "(IIII)I"⟩ prog_1_method_5_code 6 (some FieldType.int) ∈ WS := mW 915 (by decide +kernel) (by decide +kernel)
theorem kw_920 : Cond.instanceMethod ⟨"LampMural", "setRectangle", "(IIIII)I"⟩ ∈ WS := mW 920 (by decide +kernel) (by decide +kernel)
theorem kw_921 : Cond.selects "LampMural" ⟨"LampMural", "setRectangle", "(IIIII)I"⟩ ⟨"LampMural", "setRectangle", "(IIIII)I"⟩ ∈ WS := mW 921 (by decide +kernel) (by decide +kernel)
theorem kw_922 : Cond.code ⟨"LampMural", "setRectangle", "(IIIII)I"⟩ prog_1_method_6_code 7 (some FieldType.int) ∈ WS := mW 922 (by decide +kernel) (by decide +kernel)
theorem kw_923 : Cond.methodLink "LampMural" 95 ⟨"LampMural", "faultOfRectangle", "(IIIII)I"⟩ ∈ WS := mW 923 (by decide +kernel) (by decide +kernel)
theorem kw_925 : Cond.instanceMethod ⟨"LampMural", "faultOfRectangle", "(IIIII)I"⟩ ∈ WS := mW 925 (by decide +kernel) (by decide +kernel)
theorem kw_926 : Cond.code ⟨"LampMural", "faultOfRectangle", "(IIIII)I"⟩ prog_1_method_41_code 8 (some FieldType.int) ∈ WS := mW 926 (by decide +kernel) (by decide +kernel)
theorem kw_931 : Cond.instanceMethod ⟨"LampMural", "setLamp", "(III)I"⟩ ∈ WS := mW 931 (by decide +kernel) (by decide +kernel)
theorem kw_932 : Cond.selects "LampMural" ⟨"LampMural", "setLamp", "(III)I"⟩ ⟨"LampMural", "setLamp", "(III)I"⟩ ∈ WS := mW 932 (by decide +kernel) (by decide +kernel)
theorem kw_933 : Cond.code ⟨"LampMural", "setLamp", "(III)I"⟩ prog_1_method_7_code 6 (some FieldType.int) ∈ WS := mW 933 (by decide +kernel) (by decide +kernel)
theorem kw_934 : Cond.methodLink "LampMural" 105 ⟨"LampMural", "faultOfLampValue", "(III)I"⟩ ∈ WS := mW 934 (by decide +kernel) (by decide +kernel)
theorem kw_936 : Cond.instanceMethod ⟨"LampMural", "faultOfLampValue", "(III)I"⟩ ∈ WS := mW 936 (by decide +kernel) (by decide +kernel)
theorem kw_937 : Cond.code ⟨"LampMural", "faultOfLampValue", "(III)I"⟩ prog_1_method_42_code 4 (some FieldType.int) ∈ WS := mW 937 (by decide +kernel) (by decide +kernel)
theorem kw_938 : Cond.methodLink "LampMural" 112 ⟨"LampMural$Scene", "setLampValue", "(III)V"⟩ ∈ WS := mW 938 (by decide +kernel) (by decide +kernel)
theorem kw_939 : Cond.instanceMethod ⟨"LampMural$Scene", "setLampValue", "(III)V"⟩ ∈ WS := mW 939 (by decide +kernel) (by decide +kernel)
theorem kw_940 : Cond.selects "LampMural$Scene" ⟨"LampMural$Scene", "setLampValue", "(III)V"⟩ ⟨"LampMural$Scene", "setLampValue", "(III)V"⟩ ∈ WS := mW 940 (by decide +kernel) (by decide +kernel)
theorem kw_941 : Cond.code ⟨"LampMural$Scene", "setLampValue", "(III)V"⟩ prog_6_method_7_code 4 none ∈ WS := mW 941 (by decide +kernel) (by decide +kernel)
theorem kw_946 : Cond.instanceMethod ⟨"LampMural", "setWorks", "(IZ)I"⟩ ∈ WS := mW 946 (by decide +kernel) (by decide +kernel)
theorem kw_947 : Cond.selects "LampMural" ⟨"LampMural", "setWorks", "(IZ)I"⟩ ⟨"LampMural", "setWorks", "(IZ)I"⟩ ∈ WS := mW 947 (by decide +kernel) (by decide +kernel)
theorem kw_948 : Cond.code ⟨"LampMural", "setWorks", "(IZ)I"⟩ prog_1_method_8_code 4 (some FieldType.int) ∈ WS := mW 948 (by decide +kernel) (by decide +kernel)
theorem kw_953 : Cond.instanceMethod ⟨"LampMural", "shift", "(II)I"⟩ ∈ WS := mW 953 (by decide +kernel) (by decide +kernel)
theorem kw_954 : Cond.selects "LampMural" ⟨"LampMural", "shift", "(II)I"⟩ ⟨"LampMural", "shift", "(II)I"⟩ ∈ WS := mW 954 (by decide +kernel) (by decide +kernel)
theorem kw_955 : Cond.code ⟨"LampMural", "shift", "(II)I"⟩ prog_1_method_9_code 3 (some FieldType.int) ∈ WS := mW 955 (by decide +kernel) (by decide +kernel)
theorem kw_956 : Cond.methodLink "LampMural" 132 ⟨"LampMural$Survey", "wrongPlaces", "()I"⟩ ∈ WS := mW 956 (by decide +kernel) (by decide +kernel)
theorem kw_957 : Cond.instanceMethod ⟨"LampMural$Survey", "wrongPlaces", "()I"⟩ ∈ WS := mW 957 (by decide +kernel) (by decide +kernel)
theorem kw_958 : Cond.selects "LampMural$Survey" ⟨"LampMural$Survey", "wrongPlaces", "()I"⟩ ⟨"LampMural$Survey", "wrongPlaces", "()I"⟩ ∈ WS := mW 958 (by decide +kernel) (by decide +kernel)
theorem kw_959 : Cond.code ⟨"LampMural$Survey", "wrongPlaces", "()I"⟩ prog_7_method_13_code 1 (some FieldType.int) ∈ WS := mW 959 (by decide +kernel) (by decide +kernel)
theorem kw_960 : Cond.methodLink "LampMural$Survey" 108 ⟨"LampMural$Survey", "placesInState", "(I)I"⟩ ∈ WS := mW 960 (by decide +kernel) (by decide +kernel)
theorem kw_965 : Cond.instanceMethod ⟨"LampMural", "burn", "(I)I"⟩ ∈ WS := mW 965 (by decide +kernel) (by decide +kernel)
theorem kw_966 : Cond.selects "LampMural" ⟨"LampMural", "burn", "(I)I"⟩ ⟨"LampMural", "burn", "(I)I"⟩ ∈ WS := mW 966 (by decide +kernel) (by decide +kernel)
theorem kw_967 : Cond.code ⟨"LampMural", "burn", "(I)I"⟩ prog_1_method_10_code 2 (some FieldType.int) ∈ WS := mW 967 (by decide +kernel) (by decide +kernel)
theorem kw_968 : Cond.methodLink "LampMural" 141 ⟨"LampMural$Scene", "greatestWear", "()I"⟩ ∈ WS := mW 968 (by decide +kernel) (by decide +kernel)
theorem kw_969 : Cond.instanceMethod ⟨"LampMural$Scene", "greatestWear", "()I"⟩ ∈ WS := mW 969 (by decide +kernel) (by decide +kernel)
theorem kw_970 : Cond.selects "LampMural$Scene" ⟨"LampMural$Scene", "greatestWear", "()I"⟩ ⟨"LampMural$Scene", "greatestWear", "()I"⟩ ∈ WS := mW 970 (by decide +kernel) (by decide +kernel)
theorem kw_971 : Cond.code ⟨"LampMural$Scene", "greatestWear", "()I"⟩ prog_6_method_21_code 3 (some FieldType.int) ∈ WS := mW 971 (by decide +kernel) (by decide +kernel)
theorem kw_972 : Cond.methodLink "LampMural$Scene" 89 ⟨"java/lang/Math", "max", "(II)I"⟩ ∈ WS := mW 972 (by decide +kernel) (by decide +kernel)
theorem kw_977 : Cond.instanceMethod ⟨"LampMural", "place", "(III)I"⟩ ∈ WS := mW 977 (by decide +kernel) (by decide +kernel)
theorem kw_978 : Cond.selects "LampMural" ⟨"LampMural", "place", "(III)I"⟩ ⟨"LampMural", "place", "(III)I"⟩ ∈ WS := mW 978 (by decide +kernel) (by decide +kernel)
theorem kw_979 : Cond.code ⟨"LampMural", "place", "(III)I"⟩ prog_1_method_11_code 4 (some FieldType.int) ∈ WS := mW 979 (by decide +kernel) (by decide +kernel)
theorem kw_980 : Cond.methodLink "LampMural" 144 ⟨"LampMural", "faultOfPlace", "(II)I"⟩ ∈ WS := mW 980 (by decide +kernel) (by decide +kernel)
theorem kw_982 : Cond.instanceMethod ⟨"LampMural", "faultOfPlace", "(II)I"⟩ ∈ WS := mW 982 (by decide +kernel) (by decide +kernel)
theorem kw_983 : Cond.code ⟨"LampMural", "faultOfPlace", "(II)I"⟩ prog_1_method_44_code 3 (some FieldType.int) ∈ WS := mW 983 (by decide +kernel) (by decide +kernel)
theorem kw_984 : Cond.methodLink "LampMural" 150 ⟨"LampMural$Scene", "indexOfPlace", "(II)I"⟩ ∈ WS := mW 984 (by decide +kernel) (by decide +kernel)
theorem kw_989 : Cond.instanceMethod ⟨"LampMural", "light", "(III)I"⟩ ∈ WS := mW 989 (by decide +kernel) (by decide +kernel)
theorem kw_990 : Cond.selects "LampMural" ⟨"LampMural", "light", "(III)I"⟩ ⟨"LampMural", "light", "(III)I"⟩ ∈ WS := mW 990 (by decide +kernel) (by decide +kernel)
theorem kw_991 : Cond.code ⟨"LampMural", "light", "(III)I"⟩ prog_1_method_12_code 4 (some FieldType.int) ∈ WS := mW 991 (by decide +kernel) (by decide +kernel)
theorem kw_996 : Cond.instanceMethod ⟨"LampMural", "weight", "(III)I"⟩ ∈ WS := mW 996 (by decide +kernel) (by decide +kernel)
theorem kw_997 : Cond.selects "LampMural" ⟨"LampMural", "weight", "(III)I"⟩ ⟨"LampMural", "weight", "(III)I"⟩ ∈ WS := mW 997 (by decide +kernel) (by decide +kernel)
theorem kw_998 : Cond.code ⟨"LampMural", "weight", "(III)I"⟩ prog_1_method_13_code 4 (some FieldType.int) ∈ WS := mW 998 (by decide +kernel) (by decide +kernel)
theorem kw_999 : Cond.methodLink "LampMural" 159 ⟨"LampMural$Survey", "isCovered", "(II)Z"⟩ ∈ WS := mW 999 (by decide +kernel) (by decide +kernel)
theorem kw_1000 : Cond.methodLink "LampMural" 167 ⟨"LampMural", "pointOf", "(II)I"⟩ ∈ WS := mW 1000 (by decide +kernel) (by decide +kernel)
theorem kw_1001 : Cond.methodLink "LampMural" 173 ⟨"LampMural$Scene", "weightAt", "(III)I"⟩ ∈ WS := mW 1001 (by decide +kernel) (by decide +kernel)
theorem kw_1006 : Cond.instanceMethod ⟨"LampMural", "lamp", "(II)I"⟩ ∈ WS := mW 1006 (by decide +kernel) (by decide +kernel)
theorem kw_1007 : Cond.selects "LampMural" ⟨"LampMural", "lamp", "(II)I"⟩ ⟨"LampMural", "lamp", "(II)I"⟩ ∈ WS := mW 1007 (by decide +kernel) (by decide +kernel)
theorem kw_1008 : Cond.code ⟨"LampMural", "lamp", "(II)I"⟩ prog_1_method_14_code 3 (some FieldType.int) ∈ WS := mW 1008 (by decide +kernel) (by decide +kernel)
theorem kw_1013 : Cond.instanceMethod ⟨"LampMural", "corner", "(III)I"⟩ ∈ WS := mW 1013 (by decide +kernel) (by decide +kernel)
theorem kw_1014 : Cond.selects "LampMural" ⟨"LampMural", "corner", "(III)I"⟩ ⟨"LampMural", "corner", "(III)I"⟩ ∈ WS := mW 1014 (by decide +kernel) (by decide +kernel)
theorem kw_1015 : Cond.code ⟨"LampMural", "corner", "(III)I"⟩ prog_1_method_15_code 4 (some FieldType.int) ∈ WS := mW 1015 (by decide +kernel) (by decide +kernel)
theorem kw_1020 : Cond.instanceMethod ⟨"LampMural", "whole", "(I)I"⟩ ∈ WS := mW 1020 (by decide +kernel) (by decide +kernel)
theorem kw_1021 : Cond.selects "LampMural" ⟨"LampMural", "whole", "(I)I"⟩ ⟨"LampMural", "whole", "(I)I"⟩ ∈ WS := mW 1021 (by decide +kernel) (by decide +kernel)
theorem kw_1022 : Cond.code ⟨"LampMural", "whole", "(I)I"⟩ prog_1_method_16_code 2 (some FieldType.int) ∈ WS := mW 1022 (by decide +kernel) (by decide +kernel)
theorem kw_1027 : Cond.instanceMethod ⟨"LampMural", "wrong", "(I)I"⟩ ∈ WS := mW 1027 (by decide +kernel) (by decide +kernel)
theorem kw_1028 : Cond.selects "LampMural" ⟨"LampMural", "wrong", "(I)I"⟩ ⟨"LampMural", "wrong", "(I)I"⟩ ∈ WS := mW 1028 (by decide +kernel) (by decide +kernel)
theorem kw_1029 : Cond.code ⟨"LampMural", "wrong", "(I)I"⟩ prog_1_method_17_code 5 (some FieldType.int) ∈ WS := mW 1029 (by decide +kernel) (by decide +kernel)
theorem kw_1034 : Cond.instanceMethod ⟨"LampMural", "wrongWithout", "(I)I"⟩ ∈ WS := mW 1034 (by decide +kernel) (by decide +kernel)
theorem kw_1035 : Cond.selects "LampMural" ⟨"LampMural", "wrongWithout", "(I)I"⟩ ⟨"LampMural", "wrongWithout", "(I)I"⟩ ∈ WS := mW 1035 (by decide +kernel) (by decide +kernel)
theorem kw_1036 : Cond.code ⟨"LampMural", "wrongWithout", "(I)I"⟩ prog_1_method_18_code 2 (some FieldType.int) ∈ WS := mW 1036 (by decide +kernel) (by decide +kernel)
theorem kw_1041 : Cond.instanceMethod ⟨"LampMural", "wrongShifted", "(II)I"⟩ ∈ WS := mW 1041 (by decide +kernel) (by decide +kernel)
theorem kw_1042 : Cond.selects "LampMural" ⟨"LampMural", "wrongShifted", "(II)I"⟩ ⟨"LampMural", "wrongShifted", "(II)I"⟩ ∈ WS := mW 1042 (by decide +kernel) (by decide +kernel)
theorem kw_1043 : Cond.code ⟨"LampMural", "wrongShifted", "(II)I"⟩ prog_1_method_20_code 3 (some FieldType.int) ∈ WS := mW 1043 (by decide +kernel) (by decide +kernel)
theorem kw_1048 : Cond.instanceMethod ⟨"LampMural", "bestShift", "(I)I"⟩ ∈ WS := mW 1048 (by decide +kernel) (by decide +kernel)
theorem kw_1049 : Cond.selects "LampMural" ⟨"LampMural", "bestShift", "(I)I"⟩ ⟨"LampMural", "bestShift", "(I)I"⟩ ∈ WS := mW 1049 (by decide +kernel) (by decide +kernel)
theorem kw_1050 : Cond.code ⟨"LampMural", "bestShift", "(I)I"⟩ prog_1_method_21_code 8 (some FieldType.int) ∈ WS := mW 1050 (by decide +kernel) (by decide +kernel)
theorem kw_1055 : Cond.instanceMethod ⟨"LampMural", "neededLimit", "(I)I"⟩ ∈ WS := mW 1055 (by decide +kernel) (by decide +kernel)
theorem kw_1056 : Cond.selects "LampMural" ⟨"LampMural", "neededLimit", "(I)I"⟩ ⟨"LampMural", "neededLimit", "(I)I"⟩ ∈ WS := mW 1056 (by decide +kernel) (by decide +kernel)
theorem kw_1057 : Cond.code ⟨"LampMural", "neededLimit", "(I)I"⟩ prog_1_method_22_code 5 (some FieldType.int) ∈ WS := mW 1057 (by decide +kernel) (by decide +kernel)
theorem kw_1058 : Cond.methodLink "LampMural" 214 ⟨"java/lang/Math", "max", "(II)I"⟩ ∈ WS := mW 1058 (by decide +kernel) (by decide +kernel)
theorem kw_1063 : Cond.instanceMethod ⟨"LampMural", "type", "(I)I"⟩ ∈ WS := mW 1063 (by decide +kernel) (by decide +kernel)
theorem kw_1064 : Cond.selects "LampMural" ⟨"LampMural", "type", "(I)I"⟩ ⟨"LampMural", "type", "(I)I"⟩ ∈ WS := mW 1064 (by decide +kernel) (by decide +kernel)
theorem kw_1065 : Cond.code ⟨"LampMural", "type", "(I)I"⟩ prog_1_method_23_code 2 (some FieldType.int) ∈ WS := mW 1065 (by decide +kernel) (by decide +kernel)
theorem kw_1066 : Cond.methodLink "LampMural" 222 ⟨"LampMural$CommandText", "append", "(I)I"⟩ ∈ WS := mW 1066 (by decide +kernel) (by decide +kernel)
theorem kw_1067 : Cond.instanceMethod ⟨"LampMural$CommandText", "append", "(I)I"⟩ ∈ WS := mW 1067 (by decide +kernel) (by decide +kernel)
theorem kw_1068 : Cond.selects "LampMural$CommandText" ⟨"LampMural$CommandText", "append", "(I)I"⟩ ⟨"LampMural$CommandText", "append", "(I)I"⟩ ∈ WS := mW 1068 (by decide +kernel) (by decide +kernel)
theorem kw_1069 : Cond.code ⟨"LampMural$CommandText", "append", "(I)I"⟩ prog_2_method_2_code 2 (some FieldType.int) ∈ WS := mW 1069 (by decide +kernel) (by decide +kernel)
theorem kw_1074 : Cond.instanceMethod ⟨"LampMural", "undo", "()I"⟩ ∈ WS := mW 1074 (by decide +kernel) (by decide +kernel)
theorem kw_1075 : Cond.selects "LampMural" ⟨"LampMural", "undo", "()I"⟩ ⟨"LampMural", "undo", "()I"⟩ ∈ WS := mW 1075 (by decide +kernel) (by decide +kernel)
theorem kw_1076 : Cond.code ⟨"LampMural", "undo", "()I"⟩ prog_1_method_26_code 1 (some FieldType.int) ∈ WS := mW 1076 (by decide +kernel) (by decide +kernel)
theorem kw_1077 : Cond.methodLink "LampMural" 244 ⟨"LampMural$History", "restore", "(LLampMural$Scene;)V"⟩ ∈ WS := mW 1077 (by decide +kernel) (by decide +kernel)
theorem kw_1078 : Cond.instanceMethod ⟨"LampMural$History", "restore", "(LLampMural$Scene;)V"⟩ ∈ WS := mW 1078 (by decide +kernel) (by decide +kernel)
theorem kw_1079 : Cond.selects "LampMural$History" ⟨"LampMural$History", "restore", "(LLampMural$Scene;)V"⟩ ⟨"LampMural$History", "restore", "(LLampMural$Scene;)V"⟩ ∈ WS := mW 1079 (by decide +kernel) (by decide +kernel)
theorem kw_1080 : Cond.code ⟨"LampMural$History", "restore", "(LLampMural$Scene;)V"⟩ prog_4_method_3_code 2 none ∈ WS := mW 1080 (by decide +kernel) (by decide +kernel)
theorem kw_1087 : Cond.fieldLink "LampMuralModel" 7 "LampMuralModel" "st" "[I" ∈ WS := mW 1087 (by decide +kernel) (by decide +kernel)
theorem kw_1088 : Cond.fieldLink "LampMuralModel" 13 "LampMuralModel" "past" "[I" ∈ WS := mW 1088 (by decide +kernel) (by decide +kernel)
theorem kw_1089 : Cond.fieldLink "LampMuralModel" 16 "LampMuralModel" "aside" "[I" ∈ WS := mW 1089 (by decide +kernel) (by decide +kernel)
theorem kw_1090 : Cond.fieldLink "LampMuralModel" 45 "LampMuralModel" "pasts" "I" ∈ WS := mW 1090 (by decide +kernel) (by decide +kernel)
theorem kw_1091 : Cond.fieldLink "LampMuralModel" 19 "LampMuralModel" "text" "[I" ∈ WS := mW 1091 (by decide +kernel) (by decide +kernel)
theorem kw_1092 : Cond.fieldLink "LampMuralModel" 208 "LampMuralModel" "length" "I" ∈ WS := mW 1092 (by decide +kernel) (by decide +kernel)
theorem kw_1093 : Cond.fieldLink "LampMuralModel" 38 "LampMuralModel" "thrown" "I" ∈ WS := mW 1093 (by decide +kernel) (by decide +kernel)
theorem kw_1094 : Cond.fieldLink "LampMuralModel" 55 "LampMuralModel" "answer" "I" ∈ WS := mW 1094 (by decide +kernel) (by decide +kernel)
theorem kw_1095 : Cond.fieldLink "LampMuralModel" 22 "LampMuralModel" "without" "I" ∈ WS := mW 1095 (by decide +kernel) (by decide +kernel)
theorem kw_1096 : Cond.fieldLink "LampMuralModel" 26 "LampMuralModel" "weights" "[I" ∈ WS := mW 1096 (by decide +kernel) (by decide +kernel)
theorem kw_1097 : Cond.fieldLink "LampMuralModel" 29 "LampMuralModel" "lights" "[I" ∈ WS := mW 1097 (by decide +kernel) (by decide +kernel)
theorem kw_1098 : Cond.fieldLink "LampMuralModel" 80 "LampMuralModel" "covers" "I" ∈ WS := mW 1098 (by decide +kernel) (by decide +kernel)
theorem kw_1099 : Cond.fieldLink "LampMuralModel" 112 "LampMuralModel" "bright" "I" ∈ WS := mW 1099 (by decide +kernel) (by decide +kernel)
theorem kw_1100 : Cond.fieldLink "LampMuralModel" 121 "LampMuralModel" "places" "I" ∈ WS := mW 1100 (by decide +kernel) (by decide +kernel)
theorem kw_1101 : Cond.fieldLink "LampMuralModel" 124 "LampMuralModel" "allLights" "I" ∈ WS := mW 1101 (by decide +kernel) (by decide +kernel)
theorem kw_1102 : Cond.fieldLink "LampMuralModel" 127 "LampMuralModel" "greatestLight" "I" ∈ WS := mW 1102 (by decide +kernel) (by decide +kernel)
theorem kw_1103 : Cond.fieldLink "LampMuralModel" 130 "LampMuralModel" "alone" "I" ∈ WS := mW 1103 (by decide +kernel) (by decide +kernel)
theorem kw_1104 : Cond.fieldLink "LampMuralModel" 133 "LampMuralModel" "needed" "I" ∈ WS := mW 1104 (by decide +kernel) (by decide +kernel)
theorem kw_1105 : Cond.fieldLink "LampMuralModel" 32 "LampMuralModel" "loads" "[I" ∈ WS := mW 1105 (by decide +kernel) (by decide +kernel)
theorem kw_1106 : Cond.fieldLink "LampMuralModel" 226 "LampMuralModel" "spot" "I" ∈ WS := mW 1106 (by decide +kernel) (by decide +kernel)
theorem kw_1107 : Cond.fieldLink "LampMuralModel" 243 "LampMuralModel" "word" "I" ∈ WS := mW 1107 (by decide +kernel) (by decide +kernel)
theorem kw_1108 : Cond.fieldLink "LampMuralModel" 35 "LampMuralModel" "numbers" "[I" ∈ WS := mW 1108 (by decide +kernel) (by decide +kernel)
theorem kw_1109 : Cond.fieldLink "LampMuralModel" 263 "LampMuralModel" "h" "J" ∈ WS := mW 1109 (by decide +kernel) (by decide +kernel)
theorem kw_1158 : Cond.instanceMethod ⟨"LampMuralModel", "thrown", "()I"⟩ ∈ WS := mW 1158 (by decide +kernel) (by decide +kernel)
theorem kw_1159 : Cond.selects "LampMuralModel" ⟨"LampMuralModel", "thrown", "()I"⟩ ⟨"LampMuralModel", "thrown", "()I"⟩ ∈ WS := mW 1159 (by decide +kernel) (by decide +kernel)
theorem kw_1160 : Cond.code ⟨"LampMuralModel", "thrown", "()I"⟩ prog_9_method_2_code 1 (some FieldType.int) ∈ WS := mW 1160 (by decide +kernel) (by decide +kernel)
theorem kw_1162 : Cond.instanceMethod ⟨"LampMuralModel", "undo", "()I"⟩ ∈ WS := mW 1162 (by decide +kernel) (by decide +kernel)
theorem kw_1163 : Cond.selects "LampMuralModel" ⟨"LampMuralModel", "undo", "()I"⟩ ⟨"LampMuralModel", "undo", "()I"⟩ ∈ WS := mW 1163 (by decide +kernel) (by decide +kernel)
theorem kw_1164 : Cond.code ⟨"LampMuralModel", "undo", "()I"⟩ prog_9_method_17_code 2 (some FieldType.int) ∈ WS := mW 1164 (by decide +kernel) (by decide +kernel)
theorem kw_1165 : Cond.methodLink "LampMuralModel" 48 ⟨"LampMuralModel", "fails", "(I)I"⟩ ∈ WS := mW 1165 (by decide +kernel) (by decide +kernel)
theorem kw_1167 : Cond.instanceMethod ⟨"LampMuralModel", "fails", "(I)I"⟩ ∈ WS := mW 1167 (by decide +kernel) (by decide +kernel)
theorem kw_1168 : Cond.code ⟨"LampMuralModel", "fails", "(I)I"⟩ prog_9_method_6_code 2 (some FieldType.int) ∈ WS := mW 1168 (by decide +kernel) (by decide +kernel)
theorem kw_1169 : Cond.methodLink "LampMuralModel" 58 ⟨"LampMuralModel", "tells", "(I)I"⟩ ∈ WS := mW 1169 (by decide +kernel) (by decide +kernel)
theorem kw_1171 : Cond.instanceMethod ⟨"LampMuralModel", "tells", "(I)I"⟩ ∈ WS := mW 1171 (by decide +kernel) (by decide +kernel)
theorem kw_1172 : Cond.code ⟨"LampMuralModel", "tells", "(I)I"⟩ prog_9_method_7_code 2 (some FieldType.int) ∈ WS := mW 1172 (by decide +kernel) (by decide +kernel)
theorem kw_1174 : Cond.instanceMethod ⟨"LampMuralModel", "begin", "(II)I"⟩ ∈ WS := mW 1174 (by decide +kernel) (by decide +kernel)
theorem kw_1175 : Cond.selects "LampMuralModel" ⟨"LampMuralModel", "begin", "(II)I"⟩ ⟨"LampMuralModel", "begin", "(II)I"⟩ ∈ WS := mW 1175 (by decide +kernel) (by decide +kernel)
theorem kw_1176 : Cond.code ⟨"LampMuralModel", "begin", "(II)I"⟩ prog_9_method_42_code 3 (some FieldType.int) ∈ WS := mW 1176 (by decide +kernel) (by decide +kernel)
theorem kw_1177 : Cond.methodLink "LampMuralModel" 162 ⟨"LampMuralModel", "laysAside", "()V"⟩ ∈ WS := mW 1177 (by decide +kernel) (by decide +kernel)
theorem kw_1179 : Cond.instanceMethod ⟨"LampMuralModel", "laysAside", "()V"⟩ ∈ WS := mW 1179 (by decide +kernel) (by decide +kernel)
theorem kw_1180 : Cond.code ⟨"LampMuralModel", "laysAside", "()V"⟩ prog_9_method_13_code 2 none ∈ WS := mW 1180 (by decide +kernel) (by decide +kernel)
theorem kw_1181 : Cond.methodLink "LampMuralModel" 165 ⟨"LampMuralModel", "begins", "(II)I"⟩ ∈ WS := mW 1181 (by decide +kernel) (by decide +kernel)
theorem kw_1183 : Cond.instanceMethod ⟨"LampMuralModel", "begins", "(II)I"⟩ ∈ WS := mW 1183 (by decide +kernel) (by decide +kernel)
theorem kw_1184 : Cond.code ⟨"LampMuralModel", "begins", "(II)I"⟩ prog_9_method_34_code 4 (some FieldType.int) ∈ WS := mW 1184 (by decide +kernel) (by decide +kernel)
theorem kw_1185 : Cond.methodLink "LampMuralModel" 41 ⟨"LampMuralModel", "in", "(III)Z"⟩ ∈ WS := mW 1185 (by decide +kernel) (by decide +kernel)
theorem kw_1186 : Cond.static ⟨"LampMuralModel", "in", "(III)Z"⟩ ∈ WS := mW 1186 (by decide +kernel) (by decide +kernel)
theorem kw_1187 : Cond.code ⟨"LampMuralModel", "in", "(III)Z"⟩ prog_9_method_3_code 3 (some FieldType.boolean) ∈ WS := mW 1187 (by decide +kernel) (by decide +kernel)
theorem kw_1188 : Cond.methodLink "LampMuralModel" 168 ⟨"LampMuralModel", "ends", "(I)I"⟩ ∈ WS := mW 1188 (by decide +kernel) (by decide +kernel)
theorem kw_1190 : Cond.instanceMethod ⟨"LampMuralModel", "ends", "(I)I"⟩ ∈ WS := mW 1190 (by decide +kernel) (by decide +kernel)
theorem kw_1191 : Cond.code ⟨"LampMuralModel", "ends", "(I)I"⟩ prog_9_method_16_code 2 (some FieldType.int) ∈ WS := mW 1191 (by decide +kernel) (by decide +kernel)
theorem kw_1192 : Cond.methodLink "LampMuralModel" 52 ⟨"LampMuralModel", "saves", "()V"⟩ ∈ WS := mW 1192 (by decide +kernel) (by decide +kernel)
theorem kw_1194 : Cond.instanceMethod ⟨"LampMuralModel", "saves", "()V"⟩ ∈ WS := mW 1194 (by decide +kernel) (by decide +kernel)
theorem kw_1195 : Cond.code ⟨"LampMuralModel", "saves", "()V"⟩ prog_9_method_15_code 2 none ∈ WS := mW 1195 (by decide +kernel) (by decide +kernel)
theorem kw_1197 : Cond.instanceMethod ⟨"LampMuralModel", "paint", "(IIIII)I"⟩ ∈ WS := mW 1197 (by decide +kernel) (by decide +kernel)
theorem kw_1198 : Cond.selects "LampMuralModel" ⟨"LampMuralModel", "paint", "(IIIII)I"⟩ ⟨"LampMuralModel", "paint", "(IIIII)I"⟩ ∈ WS := mW 1198 (by decide +kernel) (by decide +kernel)
theorem kw_1199 : Cond.code ⟨"LampMuralModel", "paint", "(IIIII)I"⟩ prog_9_method_43_code 6 (some FieldType.int) ∈ WS := mW 1199 (by decide +kernel) (by decide +kernel)
theorem kw_1200 : Cond.methodLink "LampMuralModel" 171 ⟨"LampMuralModel", "paints", "(IIIII)I"⟩ ∈ WS := mW 1200 (by decide +kernel) (by decide +kernel)
theorem kw_1202 : Cond.instanceMethod ⟨"LampMuralModel", "paints", "(IIIII)I"⟩ ∈ WS := mW 1202 (by decide +kernel) (by decide +kernel)
theorem kw_1203 : Cond.code ⟨"LampMuralModel", "paints", "(IIIII)I"⟩ prog_9_method_35_code 8 (some FieldType.int) ∈ WS := mW 1203 (by decide +kernel) (by decide +kernel)
theorem kw_1204 : Cond.methodLink "LampMuralModel" 142 ⟨"LampMuralModel", "isPlace", "(II)Z"⟩ ∈ WS := mW 1204 (by decide +kernel) (by decide +kernel)
theorem kw_1206 : Cond.instanceMethod ⟨"LampMuralModel", "isPlace", "(II)Z"⟩ ∈ WS := mW 1206 (by decide +kernel) (by decide +kernel)
theorem kw_1207 : Cond.code ⟨"LampMuralModel", "isPlace", "(II)Z"⟩ prog_9_method_11_code 3 (some FieldType.boolean) ∈ WS := mW 1207 (by decide +kernel) (by decide +kernel)
theorem kw_1208 : Cond.methodLink "LampMuralModel" 94 ⟨"LampMuralModel", "target", "(II)I"⟩ ∈ WS := mW 1208 (by decide +kernel) (by decide +kernel)
theorem kw_1210 : Cond.instanceMethod ⟨"LampMuralModel", "target", "(II)I"⟩ ∈ WS := mW 1210 (by decide +kernel) (by decide +kernel)
theorem kw_1211 : Cond.code ⟨"LampMuralModel", "target", "(II)I"⟩ prog_9_method_12_code 3 (some FieldType.int) ∈ WS := mW 1211 (by decide +kernel) (by decide +kernel)
theorem kw_1213 : Cond.instanceMethod ⟨"LampMuralModel", "addLamp", "(II)I"⟩ ∈ WS := mW 1213 (by decide +kernel) (by decide +kernel)
theorem kw_1214 : Cond.selects "LampMuralModel" ⟨"LampMuralModel", "addLamp", "(II)I"⟩ ⟨"LampMuralModel", "addLamp", "(II)I"⟩ ∈ WS := mW 1214 (by decide +kernel) (by decide +kernel)
theorem kw_1215 : Cond.code ⟨"LampMuralModel", "addLamp", "(II)I"⟩ prog_9_method_44_code 3 (some FieldType.int) ∈ WS := mW 1215 (by decide +kernel) (by decide +kernel)
theorem kw_1216 : Cond.methodLink "LampMuralModel" 175 ⟨"LampMuralModel", "adds", "(II)I"⟩ ∈ WS := mW 1216 (by decide +kernel) (by decide +kernel)
theorem kw_1218 : Cond.instanceMethod ⟨"LampMuralModel", "adds", "(II)I"⟩ ∈ WS := mW 1218 (by decide +kernel) (by decide +kernel)
theorem kw_1219 : Cond.code ⟨"LampMuralModel", "adds", "(II)I"⟩ prog_9_method_36_code 4 (some FieldType.int) ∈ WS := mW 1219 (by decide +kernel) (by decide +kernel)
theorem kw_1220 : Cond.methodLink "LampMuralModel" 146 ⟨"LampMuralModel", "put", "(III)V"⟩ ∈ WS := mW 1220 (by decide +kernel) (by decide +kernel)
theorem kw_1222 : Cond.instanceMethod ⟨"LampMuralModel", "put", "(III)V"⟩ ∈ WS := mW 1222 (by decide +kernel) (by decide +kernel)
theorem kw_1223 : Cond.code ⟨"LampMuralModel", "put", "(III)V"⟩ prog_9_method_9_code 4 none ∈ WS := mW 1223 (by decide +kernel) (by decide +kernel)
theorem kw_1225 : Cond.instanceMethod ⟨"LampMuralModel", "setCorner", "(IIII)I"⟩ ∈ WS := mW 1225 (by decide +kernel) (by decide +kernel)
theorem kw_1226 : Cond.selects "LampMuralModel" ⟨"LampMuralModel", "setCorner", "(IIII)I"⟩ ⟨"LampMuralModel", "setCorner", "(IIII)I"⟩ ∈ WS := mW 1226 (by decide +kernel) (by decide +kernel)
theorem kw_1227 : Cond.code ⟨"LampMuralModel", "setCorner", "(IIII)I"⟩ prog_9_method_45_code 5 (some FieldType.int) ∈ WS := mW 1227 (by decide +kernel) (by decide +kernel)
theorem kw_1228 : Cond.methodLink "LampMuralModel" 178 ⟨"LampMuralModel", "corners", "(IIII)I"⟩ ∈ WS := mW 1228 (by decide +kernel) (by decide +kernel)
theorem kw_1230 : Cond.instanceMethod ⟨"LampMuralModel", "corners", "(IIII)I"⟩ ∈ WS := mW 1230 (by decide +kernel) (by decide +kernel)
theorem kw_1231 : Cond.code ⟨"LampMuralModel", "corners", "(IIII)I"⟩ prog_9_method_38_code 5 (some FieldType.int) ∈ WS := mW 1231 (by decide +kernel) (by decide +kernel)
theorem kw_1232 : Cond.methodLink "LampMuralModel" 150 ⟨"LampMuralModel", "isLamp", "(I)Z"⟩ ∈ WS := mW 1232 (by decide +kernel) (by decide +kernel)
theorem kw_1234 : Cond.instanceMethod ⟨"LampMuralModel", "isLamp", "(I)Z"⟩ ∈ WS := mW 1234 (by decide +kernel) (by decide +kernel)
theorem kw_1235 : Cond.code ⟨"LampMuralModel", "isLamp", "(I)Z"⟩ prog_9_method_10_code 2 (some FieldType.boolean) ∈ WS := mW 1235 (by decide +kernel) (by decide +kernel)
theorem kw_1236 : Cond.methodLink "LampMuralModel" 153 ⟨"LampMuralModel", "isCorner", "(I)Z"⟩ ∈ WS := mW 1236 (by decide +kernel) (by decide +kernel)
theorem kw_1237 : Cond.static ⟨"LampMuralModel", "isCorner", "(I)Z"⟩ ∈ WS := mW 1237 (by decide +kernel) (by decide +kernel)
theorem kw_1238 : Cond.code ⟨"LampMuralModel", "isCorner", "(I)Z"⟩ prog_9_method_37_code 1 (some FieldType.boolean) ∈ WS := mW 1238 (by decide +kernel) (by decide +kernel)
theorem kw_1239 : Cond.methodLink "LampMuralModel" 83 ⟨"LampMuralModel", "isGood", "(I)Z"⟩ ∈ WS := mW 1239 (by decide +kernel) (by decide +kernel)
theorem kw_1241 : Cond.instanceMethod ⟨"LampMuralModel", "isGood", "(I)Z"⟩ ∈ WS := mW 1241 (by decide +kernel) (by decide +kernel)
theorem kw_1242 : Cond.code ⟨"LampMuralModel", "isGood", "(I)Z"⟩ prog_9_method_22_code 8 (some FieldType.boolean) ∈ WS := mW 1242 (by decide +kernel) (by decide +kernel)
theorem kw_1243 : Cond.methodLink "LampMuralModel" 71 ⟨"LampMuralModel", "pointX", "(II)I"⟩ ∈ WS := mW 1243 (by decide +kernel) (by decide +kernel)
theorem kw_1245 : Cond.instanceMethod ⟨"LampMuralModel", "pointX", "(II)I"⟩ ∈ WS := mW 1245 (by decide +kernel) (by decide +kernel)
theorem kw_1246 : Cond.code ⟨"LampMuralModel", "pointX", "(II)I"⟩ prog_9_method_20_code 3 (some FieldType.int) ∈ WS := mW 1246 (by decide +kernel) (by decide +kernel)
theorem kw_1247 : Cond.methodLink "LampMuralModel" 61 ⟨"LampMuralModel", "of", "(II)I"⟩ ∈ WS := mW 1247 (by decide +kernel) (by decide +kernel)
theorem kw_1249 : Cond.instanceMethod ⟨"LampMuralModel", "of", "(II)I"⟩ ∈ WS := mW 1249 (by decide +kernel) (by decide +kernel)
theorem kw_1250 : Cond.code ⟨"LampMuralModel", "of", "(II)I"⟩ prog_9_method_8_code 3 (some FieldType.int) ∈ WS := mW 1250 (by decide +kernel) (by decide +kernel)
theorem kw_1251 : Cond.methodLink "LampMuralModel" 74 ⟨"LampMuralModel", "pointY", "(II)I"⟩ ∈ WS := mW 1251 (by decide +kernel) (by decide +kernel)
theorem kw_1253 : Cond.instanceMethod ⟨"LampMuralModel", "pointY", "(II)I"⟩ ∈ WS := mW 1253 (by decide +kernel) (by decide +kernel)
theorem kw_1254 : Cond.code ⟨"LampMuralModel", "pointY", "(II)I"⟩ prog_9_method_21_code 3 (some FieldType.int) ∈ WS := mW 1254 (by decide +kernel) (by decide +kernel)
theorem kw_1256 : Cond.instanceMethod ⟨"LampMuralModel", "setRectangle", "(IIIII)I"⟩ ∈ WS := mW 1256 (by decide +kernel) (by decide +kernel)
theorem kw_1257 : Cond.selects "LampMuralModel" ⟨"LampMuralModel", "setRectangle", "(IIIII)I"⟩ ⟨"LampMuralModel", "setRectangle", "(IIIII)I"⟩ ∈ WS := mW 1257 (by decide +kernel) (by decide +kernel)
theorem kw_1258 : Cond.code ⟨"LampMuralModel", "setRectangle", "(IIIII)I"⟩ prog_9_method_46_code 7 (some FieldType.int) ∈ WS := mW 1258 (by decide +kernel) (by decide +kernel)
theorem kw_1259 : Cond.methodLink "LampMuralModel" 139 ⟨"LampMuralModel", "sums", "(I)V"⟩ ∈ WS := mW 1259 (by decide +kernel) (by decide +kernel)
theorem kw_1261 : Cond.instanceMethod ⟨"LampMuralModel", "sums", "(I)V"⟩ ∈ WS := mW 1261 (by decide +kernel) (by decide +kernel)
theorem kw_1262 : Cond.code ⟨"LampMuralModel", "sums", "(I)V"⟩ prog_9_method_32_code 5 none ∈ WS := mW 1262 (by decide +kernel) (by decide +kernel)
theorem kw_1263 : Cond.methodLink "LampMuralModel" 115 ⟨"LampMuralModel", "shines", "(II)V"⟩ ∈ WS := mW 1263 (by decide +kernel) (by decide +kernel)
theorem kw_1265 : Cond.instanceMethod ⟨"LampMuralModel", "shines", "(II)V"⟩ ∈ WS := mW 1265 (by decide +kernel) (by decide +kernel)
theorem kw_1266 : Cond.code ⟨"LampMuralModel", "shines", "(II)V"⟩ prog_9_method_28_code 7 none ∈ WS := mW 1266 (by decide +kernel) (by decide +kernel)
theorem kw_1267 : Cond.methodLink "LampMuralModel" 97 ⟨"LampMuralModel", "weighs", "(II)V"⟩ ∈ WS := mW 1267 (by decide +kernel) (by decide +kernel)
theorem kw_1269 : Cond.instanceMethod ⟨"LampMuralModel", "weighs", "(II)V"⟩ ∈ WS := mW 1269 (by decide +kernel) (by decide +kernel)
theorem kw_1270 : Cond.code ⟨"LampMuralModel", "weighs", "(II)V"⟩ prog_9_method_24_code 7 none ∈ WS := mW 1270 (by decide +kernel) (by decide +kernel)
theorem kw_1271 : Cond.methodLink "LampMuralModel" 87 ⟨"LampMuralModel", "weightAt", "(III)I"⟩ ∈ WS := mW 1271 (by decide +kernel) (by decide +kernel)
theorem kw_1273 : Cond.instanceMethod ⟨"LampMuralModel", "weightAt", "(III)I"⟩ ∈ WS := mW 1273 (by decide +kernel) (by decide +kernel)
theorem kw_1274 : Cond.code ⟨"LampMuralModel", "weightAt", "(III)I"⟩ prog_9_method_23_code 11 (some FieldType.int) ∈ WS := mW 1274 (by decide +kernel) (by decide +kernel)
theorem kw_1275 : Cond.methodLink "LampMuralModel" 77 ⟨"LampMuralModel", "size", "(I)I"⟩ ∈ WS := mW 1275 (by decide +kernel) (by decide +kernel)
theorem kw_1276 : Cond.static ⟨"LampMuralModel", "size", "(I)I"⟩ ∈ WS := mW 1276 (by decide +kernel) (by decide +kernel)
theorem kw_1277 : Cond.code ⟨"LampMuralModel", "size", "(I)I"⟩ prog_9_method_4_code 1 (some FieldType.int) ∈ WS := mW 1277 (by decide +kernel) (by decide +kernel)
theorem kw_1278 : Cond.methodLink "LampMuralModel" 101 ⟨"LampMuralModel", "shares", "(I)V"⟩ ∈ WS := mW 1278 (by decide +kernel) (by decide +kernel)
theorem kw_1280 : Cond.instanceMethod ⟨"LampMuralModel", "shares", "(I)V"⟩ ∈ WS := mW 1280 (by decide +kernel) (by decide +kernel)
theorem kw_1281 : Cond.code ⟨"LampMuralModel", "shares", "(I)V"⟩ prog_9_method_26_code 6 none ∈ WS := mW 1281 (by decide +kernel) (by decide +kernel)
theorem kw_1282 : Cond.methodLink "LampMuralModel" 91 ⟨"LampMuralModel", "isOn", "(I)Z"⟩ ∈ WS := mW 1282 (by decide +kernel) (by decide +kernel)
theorem kw_1284 : Cond.instanceMethod ⟨"LampMuralModel", "isOn", "(I)Z"⟩ ∈ WS := mW 1284 (by decide +kernel) (by decide +kernel)
theorem kw_1285 : Cond.code ⟨"LampMuralModel", "isOn", "(I)Z"⟩ prog_9_method_25_code 2 (some FieldType.boolean) ∈ WS := mW 1285 (by decide +kernel) (by decide +kernel)
theorem kw_1286 : Cond.methodLink "LampMuralModel" 65 ⟨"LampMuralModel", "limit", "(I)I"⟩ ∈ WS := mW 1286 (by decide +kernel) (by decide +kernel)
theorem kw_1288 : Cond.instanceMethod ⟨"LampMuralModel", "limit", "(I)I"⟩ ∈ WS := mW 1288 (by decide +kernel) (by decide +kernel)
theorem kw_1289 : Cond.code ⟨"LampMuralModel", "limit", "(I)I"⟩ prog_9_method_18_code 2 (some FieldType.int) ∈ WS := mW 1289 (by decide +kernel) (by decide +kernel)
theorem kw_1290 : Cond.methodLink "LampMuralModel" 105 ⟨"LampMuralModel", "floor", "(I)I"⟩ ∈ WS := mW 1290 (by decide +kernel) (by decide +kernel)
theorem kw_1292 : Cond.instanceMethod ⟨"LampMuralModel", "floor", "(I)I"⟩ ∈ WS := mW 1292 (by decide +kernel) (by decide +kernel)
theorem kw_1293 : Cond.code ⟨"LampMuralModel", "floor", "(I)I"⟩ prog_9_method_19_code 2 (some FieldType.int) ∈ WS := mW 1293 (by decide +kernel) (by decide +kernel)
theorem kw_1294 : Cond.methodLink "LampMuralModel" 68 ⟨"LampMuralModel", "lesser", "(II)I"⟩ ∈ WS := mW 1294 (by decide +kernel) (by decide +kernel)
theorem kw_1295 : Cond.static ⟨"LampMuralModel", "lesser", "(II)I"⟩ ∈ WS := mW 1295 (by decide +kernel) (by decide +kernel)
theorem kw_1296 : Cond.code ⟨"LampMuralModel", "lesser", "(II)I"⟩ prog_9_method_5_code 2 (some FieldType.int) ∈ WS := mW 1296 (by decide +kernel) (by decide +kernel)
theorem kw_1297 : Cond.methodLink "LampMuralModel" 108 ⟨"LampMuralModel", "sumOfLights", "()I"⟩ ∈ WS := mW 1297 (by decide +kernel) (by decide +kernel)
theorem kw_1299 : Cond.instanceMethod ⟨"LampMuralModel", "sumOfLights", "()I"⟩ ∈ WS := mW 1299 (by decide +kernel) (by decide +kernel)
theorem kw_1300 : Cond.code ⟨"LampMuralModel", "sumOfLights", "()I"⟩ prog_9_method_27_code 3 (some FieldType.int) ∈ WS := mW 1300 (by decide +kernel) (by decide +kernel)
theorem kw_1301 : Cond.methodLink "LampMuralModel" 136 ⟨"LampMuralModel", "bits", "(I)I"⟩ ∈ WS := mW 1301 (by decide +kernel) (by decide +kernel)
theorem kw_1302 : Cond.static ⟨"LampMuralModel", "bits", "(I)I"⟩ ∈ WS := mW 1302 (by decide +kernel) (by decide +kernel)
theorem kw_1303 : Cond.code ⟨"LampMuralModel", "bits", "(I)I"⟩ prog_9_method_31_code 3 (some FieldType.int) ∈ WS := mW 1303 (by decide +kernel) (by decide +kernel)
theorem kw_1305 : Cond.instanceMethod ⟨"LampMuralModel", "setLamp", "(III)I"⟩ ∈ WS := mW 1305 (by decide +kernel) (by decide +kernel)
theorem kw_1306 : Cond.selects "LampMuralModel" ⟨"LampMuralModel", "setLamp", "(III)I"⟩ ⟨"LampMuralModel", "setLamp", "(III)I"⟩ ∈ WS := mW 1306 (by decide +kernel) (by decide +kernel)
theorem kw_1307 : Cond.code ⟨"LampMuralModel", "setLamp", "(III)I"⟩ prog_9_method_47_code 4 (some FieldType.int) ∈ WS := mW 1307 (by decide +kernel) (by decide +kernel)
theorem kw_1309 : Cond.instanceMethod ⟨"LampMuralModel", "setWorks", "(IZ)I"⟩ ∈ WS := mW 1309 (by decide +kernel) (by decide +kernel)
theorem kw_1310 : Cond.selects "LampMuralModel" ⟨"LampMuralModel", "setWorks", "(IZ)I"⟩ ⟨"LampMuralModel", "setWorks", "(IZ)I"⟩ ∈ WS := mW 1310 (by decide +kernel) (by decide +kernel)
theorem kw_1311 : Cond.code ⟨"LampMuralModel", "setWorks", "(IZ)I"⟩ prog_9_method_48_code 3 (some FieldType.int) ∈ WS := mW 1311 (by decide +kernel) (by decide +kernel)
theorem kw_1312 : Cond.methodLink "LampMuralModel" 182 ⟨"LampMuralModel", "works", "(IZ)I"⟩ ∈ WS := mW 1312 (by decide +kernel) (by decide +kernel)
theorem kw_1314 : Cond.instanceMethod ⟨"LampMuralModel", "works", "(IZ)I"⟩ ∈ WS := mW 1314 (by decide +kernel) (by decide +kernel)
theorem kw_1315 : Cond.code ⟨"LampMuralModel", "works", "(IZ)I"⟩ prog_9_method_40_code 3 (some FieldType.int) ∈ WS := mW 1315 (by decide +kernel) (by decide +kernel)
theorem kw_1317 : Cond.instanceMethod ⟨"LampMuralModel", "shift", "(II)I"⟩ ∈ WS := mW 1317 (by decide +kernel) (by decide +kernel)
theorem kw_1318 : Cond.selects "LampMuralModel" ⟨"LampMuralModel", "shift", "(II)I"⟩ ⟨"LampMuralModel", "shift", "(II)I"⟩ ∈ WS := mW 1318 (by decide +kernel) (by decide +kernel)
theorem kw_1319 : Cond.code ⟨"LampMuralModel", "shift", "(II)I"⟩ prog_9_method_49_code 3 (some FieldType.int) ∈ WS := mW 1319 (by decide +kernel) (by decide +kernel)
theorem kw_1320 : Cond.methodLink "LampMuralModel" 186 ⟨"LampMuralModel", "shifts", "(II)I"⟩ ∈ WS := mW 1320 (by decide +kernel) (by decide +kernel)
theorem kw_1322 : Cond.instanceMethod ⟨"LampMuralModel", "shifts", "(II)I"⟩ ∈ WS := mW 1322 (by decide +kernel) (by decide +kernel)
theorem kw_1323 : Cond.code ⟨"LampMuralModel", "shifts", "(II)I"⟩ prog_9_method_39_code 3 (some FieldType.int) ∈ WS := mW 1323 (by decide +kernel) (by decide +kernel)
theorem kw_1324 : Cond.methodLink "LampMuralModel" 156 ⟨"LampMuralModel", "wrongOnes", "()I"⟩ ∈ WS := mW 1324 (by decide +kernel) (by decide +kernel)
theorem kw_1326 : Cond.instanceMethod ⟨"LampMuralModel", "wrongOnes", "()I"⟩ ∈ WS := mW 1326 (by decide +kernel) (by decide +kernel)
theorem kw_1327 : Cond.code ⟨"LampMuralModel", "wrongOnes", "()I"⟩ prog_9_method_30_code 4 (some FieldType.int) ∈ WS := mW 1327 (by decide +kernel) (by decide +kernel)
theorem kw_1328 : Cond.methodLink "LampMuralModel" 118 ⟨"LampMuralModel", "state", "(II)I"⟩ ∈ WS := mW 1328 (by decide +kernel) (by decide +kernel)
theorem kw_1330 : Cond.instanceMethod ⟨"LampMuralModel", "state", "(II)I"⟩ ∈ WS := mW 1330 (by decide +kernel) (by decide +kernel)
theorem kw_1331 : Cond.code ⟨"LampMuralModel", "state", "(II)I"⟩ prog_9_method_29_code 4 (some FieldType.int) ∈ WS := mW 1331 (by decide +kernel) (by decide +kernel)
theorem kw_1333 : Cond.instanceMethod ⟨"LampMuralModel", "burn", "(I)I"⟩ ∈ WS := mW 1333 (by decide +kernel) (by decide +kernel)
theorem kw_1334 : Cond.selects "LampMuralModel" ⟨"LampMuralModel", "burn", "(I)I"⟩ ⟨"LampMuralModel", "burn", "(I)I"⟩ ∈ WS := mW 1334 (by decide +kernel) (by decide +kernel)
theorem kw_1335 : Cond.code ⟨"LampMuralModel", "burn", "(I)I"⟩ prog_9_method_50_code 2 (some FieldType.int) ∈ WS := mW 1335 (by decide +kernel) (by decide +kernel)
theorem kw_1336 : Cond.methodLink "LampMuralModel" 189 ⟨"LampMuralModel", "burns", "(I)I"⟩ ∈ WS := mW 1336 (by decide +kernel) (by decide +kernel)
theorem kw_1338 : Cond.instanceMethod ⟨"LampMuralModel", "burns", "(I)I"⟩ ∈ WS := mW 1338 (by decide +kernel) (by decide +kernel)
theorem kw_1339 : Cond.code ⟨"LampMuralModel", "burns", "(I)I"⟩ prog_9_method_41_code 3 (some FieldType.int) ∈ WS := mW 1339 (by decide +kernel) (by decide +kernel)
theorem kw_1340 : Cond.methodLink "LampMuralModel" 159 ⟨"LampMuralModel", "load", "(I)I"⟩ ∈ WS := mW 1340 (by decide +kernel) (by decide +kernel)
theorem kw_1342 : Cond.instanceMethod ⟨"LampMuralModel", "load", "(I)I"⟩ ∈ WS := mW 1342 (by decide +kernel) (by decide +kernel)
theorem kw_1343 : Cond.code ⟨"LampMuralModel", "load", "(I)I"⟩ prog_9_method_33_code 3 (some FieldType.int) ∈ WS := mW 1343 (by decide +kernel) (by decide +kernel)
theorem kw_1345 : Cond.instanceMethod ⟨"LampMuralModel", "place", "(III)I"⟩ ∈ WS := mW 1345 (by decide +kernel) (by decide +kernel)
theorem kw_1346 : Cond.selects "LampMuralModel" ⟨"LampMuralModel", "place", "(III)I"⟩ ⟨"LampMuralModel", "place", "(III)I"⟩ ∈ WS := mW 1346 (by decide +kernel) (by decide +kernel)
theorem kw_1347 : Cond.code ⟨"LampMuralModel", "place", "(III)I"⟩ prog_9_method_53_code 4 (some FieldType.int) ∈ WS := mW 1347 (by decide +kernel) (by decide +kernel)
theorem kw_1348 : Cond.methodLink "LampMuralModel" 196 ⟨"LampMuralModel", "placeOf", "(III)I"⟩ ∈ WS := mW 1348 (by decide +kernel) (by decide +kernel)
theorem kw_1350 : Cond.instanceMethod ⟨"LampMuralModel", "placeOf", "(III)I"⟩ ∈ WS := mW 1350 (by decide +kernel) (by decide +kernel)
theorem kw_1351 : Cond.code ⟨"LampMuralModel", "placeOf", "(III)I"⟩ prog_9_method_52_code 4 (some FieldType.int) ∈ WS := mW 1351 (by decide +kernel) (by decide +kernel)
theorem kw_1352 : Cond.methodLink "LampMuralModel" 192 ⟨"LampMuralModel", "limits", "(Z)I"⟩ ∈ WS := mW 1352 (by decide +kernel) (by decide +kernel)
theorem kw_1354 : Cond.instanceMethod ⟨"LampMuralModel", "limits", "(Z)I"⟩ ∈ WS := mW 1354 (by decide +kernel) (by decide +kernel)
theorem kw_1355 : Cond.code ⟨"LampMuralModel", "limits", "(Z)I"⟩ prog_9_method_51_code 4 (some FieldType.int) ∈ WS := mW 1355 (by decide +kernel) (by decide +kernel)
theorem kw_1357 : Cond.instanceMethod ⟨"LampMuralModel", "light", "(III)I"⟩ ∈ WS := mW 1357 (by decide +kernel) (by decide +kernel)
theorem kw_1358 : Cond.selects "LampMuralModel" ⟨"LampMuralModel", "light", "(III)I"⟩ ⟨"LampMuralModel", "light", "(III)I"⟩ ∈ WS := mW 1358 (by decide +kernel) (by decide +kernel)
theorem kw_1359 : Cond.code ⟨"LampMuralModel", "light", "(III)I"⟩ prog_9_method_55_code 4 (some FieldType.int) ∈ WS := mW 1359 (by decide +kernel) (by decide +kernel)
theorem kw_1360 : Cond.methodLink "LampMuralModel" 199 ⟨"LampMuralModel", "lightOf", "(III)I"⟩ ∈ WS := mW 1360 (by decide +kernel) (by decide +kernel)
theorem kw_1362 : Cond.instanceMethod ⟨"LampMuralModel", "lightOf", "(III)I"⟩ ∈ WS := mW 1362 (by decide +kernel) (by decide +kernel)
theorem kw_1363 : Cond.code ⟨"LampMuralModel", "lightOf", "(III)I"⟩ prog_9_method_54_code 4 (some FieldType.int) ∈ WS := mW 1363 (by decide +kernel) (by decide +kernel)
theorem kw_1365 : Cond.instanceMethod ⟨"LampMuralModel", "weight", "(III)I"⟩ ∈ WS := mW 1365 (by decide +kernel) (by decide +kernel)
theorem kw_1366 : Cond.selects "LampMuralModel" ⟨"LampMuralModel", "weight", "(III)I"⟩ ⟨"LampMuralModel", "weight", "(III)I"⟩ ∈ WS := mW 1366 (by decide +kernel) (by decide +kernel)
theorem kw_1367 : Cond.code ⟨"LampMuralModel", "weight", "(III)I"⟩ prog_9_method_56_code 4 (some FieldType.int) ∈ WS := mW 1367 (by decide +kernel) (by decide +kernel)
theorem kw_1369 : Cond.instanceMethod ⟨"LampMuralModel", "lamp", "(II)I"⟩ ∈ WS := mW 1369 (by decide +kernel) (by decide +kernel)
theorem kw_1370 : Cond.selects "LampMuralModel" ⟨"LampMuralModel", "lamp", "(II)I"⟩ ⟨"LampMuralModel", "lamp", "(II)I"⟩ ∈ WS := mW 1370 (by decide +kernel) (by decide +kernel)
theorem kw_1371 : Cond.code ⟨"LampMuralModel", "lamp", "(II)I"⟩ prog_9_method_58_code 3 (some FieldType.int) ∈ WS := mW 1371 (by decide +kernel) (by decide +kernel)
theorem kw_1372 : Cond.methodLink "LampMuralModel" 202 ⟨"LampMuralModel", "lampOf", "(II)I"⟩ ∈ WS := mW 1372 (by decide +kernel) (by decide +kernel)
theorem kw_1374 : Cond.instanceMethod ⟨"LampMuralModel", "lampOf", "(II)I"⟩ ∈ WS := mW 1374 (by decide +kernel) (by decide +kernel)
theorem kw_1375 : Cond.code ⟨"LampMuralModel", "lampOf", "(II)I"⟩ prog_9_method_57_code 4 (some FieldType.int) ∈ WS := mW 1375 (by decide +kernel) (by decide +kernel)
theorem kw_1377 : Cond.instanceMethod ⟨"LampMuralModel", "corner", "(III)I"⟩ ∈ WS := mW 1377 (by decide +kernel) (by decide +kernel)
theorem kw_1378 : Cond.selects "LampMuralModel" ⟨"LampMuralModel", "corner", "(III)I"⟩ ⟨"LampMuralModel", "corner", "(III)I"⟩ ∈ WS := mW 1378 (by decide +kernel) (by decide +kernel)
theorem kw_1379 : Cond.code ⟨"LampMuralModel", "corner", "(III)I"⟩ prog_9_method_59_code 4 (some FieldType.int) ∈ WS := mW 1379 (by decide +kernel) (by decide +kernel)
theorem kw_1381 : Cond.instanceMethod ⟨"LampMuralModel", "whole", "(I)I"⟩ ∈ WS := mW 1381 (by decide +kernel) (by decide +kernel)
theorem kw_1382 : Cond.selects "LampMuralModel" ⟨"LampMuralModel", "whole", "(I)I"⟩ ⟨"LampMuralModel", "whole", "(I)I"⟩ ∈ WS := mW 1382 (by decide +kernel) (by decide +kernel)
theorem kw_1383 : Cond.code ⟨"LampMuralModel", "whole", "(I)I"⟩ prog_9_method_63_code 2 (some FieldType.int) ∈ WS := mW 1383 (by decide +kernel) (by decide +kernel)
theorem kw_1384 : Cond.methodLink "LampMuralModel" 214 ⟨"LampMuralModel", "wholeOf", "(I)I"⟩ ∈ WS := mW 1384 (by decide +kernel) (by decide +kernel)
theorem kw_1386 : Cond.instanceMethod ⟨"LampMuralModel", "wholeOf", "(I)I"⟩ ∈ WS := mW 1386 (by decide +kernel) (by decide +kernel)
theorem kw_1387 : Cond.code ⟨"LampMuralModel", "wholeOf", "(I)I"⟩ prog_9_method_62_code 2 (some FieldType.int) ∈ WS := mW 1387 (by decide +kernel) (by decide +kernel)
theorem kw_1388 : Cond.methodLink "LampMuralModel" 205 ⟨"LampMuralModel", "working", "()I"⟩ ∈ WS := mW 1388 (by decide +kernel) (by decide +kernel)
theorem kw_1390 : Cond.instanceMethod ⟨"LampMuralModel", "working", "()I"⟩ ∈ WS := mW 1390 (by decide +kernel) (by decide +kernel)
theorem kw_1391 : Cond.code ⟨"LampMuralModel", "working", "()I"⟩ prog_9_method_60_code 3 (some FieldType.int) ∈ WS := mW 1391 (by decide +kernel) (by decide +kernel)
theorem kw_1392 : Cond.methodLink "LampMuralModel" 211 ⟨"LampMuralModel", "overPlaces", "(I)I"⟩ ∈ WS := mW 1392 (by decide +kernel) (by decide +kernel)
theorem kw_1394 : Cond.instanceMethod ⟨"LampMuralModel", "overPlaces", "(I)I"⟩ ∈ WS := mW 1394 (by decide +kernel) (by decide +kernel)
theorem kw_1395 : Cond.code ⟨"LampMuralModel", "overPlaces", "(I)I"⟩ prog_9_method_61_code 6 (some FieldType.int) ∈ WS := mW 1395 (by decide +kernel) (by decide +kernel)
theorem kw_1397 : Cond.instanceMethod ⟨"LampMuralModel", "wrong", "(I)I"⟩ ∈ WS := mW 1397 (by decide +kernel) (by decide +kernel)
theorem kw_1398 : Cond.selects "LampMuralModel" ⟨"LampMuralModel", "wrong", "(I)I"⟩ ⟨"LampMuralModel", "wrong", "(I)I"⟩ ∈ WS := mW 1398 (by decide +kernel) (by decide +kernel)
theorem kw_1399 : Cond.code ⟨"LampMuralModel", "wrong", "(I)I"⟩ prog_9_method_64_code 5 (some FieldType.int) ∈ WS := mW 1399 (by decide +kernel) (by decide +kernel)
theorem kw_1401 : Cond.instanceMethod ⟨"LampMuralModel", "wrongWithout", "(I)I"⟩ ∈ WS := mW 1401 (by decide +kernel) (by decide +kernel)
theorem kw_1402 : Cond.selects "LampMuralModel" ⟨"LampMuralModel", "wrongWithout", "(I)I"⟩ ⟨"LampMuralModel", "wrongWithout", "(I)I"⟩ ∈ WS := mW 1402 (by decide +kernel) (by decide +kernel)
theorem kw_1403 : Cond.code ⟨"LampMuralModel", "wrongWithout", "(I)I"⟩ prog_9_method_66_code 2 (some FieldType.int) ∈ WS := mW 1403 (by decide +kernel) (by decide +kernel)
theorem kw_1404 : Cond.methodLink "LampMuralModel" 217 ⟨"LampMuralModel", "wrongBut", "(I)I"⟩ ∈ WS := mW 1404 (by decide +kernel) (by decide +kernel)
theorem kw_1406 : Cond.instanceMethod ⟨"LampMuralModel", "wrongBut", "(I)I"⟩ ∈ WS := mW 1406 (by decide +kernel) (by decide +kernel)
theorem kw_1407 : Cond.code ⟨"LampMuralModel", "wrongBut", "(I)I"⟩ prog_9_method_65_code 3 (some FieldType.int) ∈ WS := mW 1407 (by decide +kernel) (by decide +kernel)
theorem kw_1409 : Cond.instanceMethod ⟨"LampMuralModel", "dearestLamp", "()I"⟩ ∈ WS := mW 1409 (by decide +kernel) (by decide +kernel)
theorem kw_1410 : Cond.selects "LampMuralModel" ⟨"LampMuralModel", "dearestLamp", "()I"⟩ ⟨"LampMuralModel", "dearestLamp", "()I"⟩ ∈ WS := mW 1410 (by decide +kernel) (by decide +kernel)
theorem kw_1411 : Cond.code ⟨"LampMuralModel", "dearestLamp", "()I"⟩ prog_9_method_67_code 5 (some FieldType.int) ∈ WS := mW 1411 (by decide +kernel) (by decide +kernel)
theorem kw_1413 : Cond.instanceMethod ⟨"LampMuralModel", "wrongShifted", "(II)I"⟩ ∈ WS := mW 1413 (by decide +kernel) (by decide +kernel)
theorem kw_1414 : Cond.selects "LampMuralModel" ⟨"LampMuralModel", "wrongShifted", "(II)I"⟩ ⟨"LampMuralModel", "wrongShifted", "(II)I"⟩ ∈ WS := mW 1414 (by decide +kernel) (by decide +kernel)
theorem kw_1415 : Cond.code ⟨"LampMuralModel", "wrongShifted", "(II)I"⟩ prog_9_method_69_code 3 (some FieldType.int) ∈ WS := mW 1415 (by decide +kernel) (by decide +kernel)
theorem kw_1416 : Cond.methodLink "LampMuralModel" 223 ⟨"LampMuralModel", "wrongBy", "(II)I"⟩ ∈ WS := mW 1416 (by decide +kernel) (by decide +kernel)
theorem kw_1418 : Cond.instanceMethod ⟨"LampMuralModel", "wrongBy", "(II)I"⟩ ∈ WS := mW 1418 (by decide +kernel) (by decide +kernel)
theorem kw_1419 : Cond.code ⟨"LampMuralModel", "wrongBy", "(II)I"⟩ prog_9_method_68_code 4 (some FieldType.int) ∈ WS := mW 1419 (by decide +kernel) (by decide +kernel)
theorem kw_1420 : Cond.methodLink "LampMuralModel" 220 ⟨"LampMuralModel", "bringsBack", "()V"⟩ ∈ WS := mW 1420 (by decide +kernel) (by decide +kernel)
theorem kw_1422 : Cond.instanceMethod ⟨"LampMuralModel", "bringsBack", "()V"⟩ ∈ WS := mW 1422 (by decide +kernel) (by decide +kernel)
theorem kw_1423 : Cond.code ⟨"LampMuralModel", "bringsBack", "()V"⟩ prog_9_method_14_code 2 none ∈ WS := mW 1423 (by decide +kernel) (by decide +kernel)
theorem kw_1425 : Cond.instanceMethod ⟨"LampMuralModel", "bestShift", "(I)I"⟩ ∈ WS := mW 1425 (by decide +kernel) (by decide +kernel)
theorem kw_1426 : Cond.selects "LampMuralModel" ⟨"LampMuralModel", "bestShift", "(I)I"⟩ ⟨"LampMuralModel", "bestShift", "(I)I"⟩ ∈ WS := mW 1426 (by decide +kernel) (by decide +kernel)
theorem kw_1427 : Cond.code ⟨"LampMuralModel", "bestShift", "(I)I"⟩ prog_9_method_70_code 7 (some FieldType.int) ∈ WS := mW 1427 (by decide +kernel) (by decide +kernel)
theorem kw_1429 : Cond.instanceMethod ⟨"LampMuralModel", "neededLimit", "(I)I"⟩ ∈ WS := mW 1429 (by decide +kernel) (by decide +kernel)
theorem kw_1430 : Cond.selects "LampMuralModel" ⟨"LampMuralModel", "neededLimit", "(I)I"⟩ ⟨"LampMuralModel", "neededLimit", "(I)I"⟩ ∈ WS := mW 1430 (by decide +kernel) (by decide +kernel)
theorem kw_1431 : Cond.code ⟨"LampMuralModel", "neededLimit", "(I)I"⟩ prog_9_method_71_code 2 (some FieldType.int) ∈ WS := mW 1431 (by decide +kernel) (by decide +kernel)
theorem kw_1433 : Cond.instanceMethod ⟨"LampMuralModel", "type", "(I)I"⟩ ∈ WS := mW 1433 (by decide +kernel) (by decide +kernel)
theorem kw_1434 : Cond.selects "LampMuralModel" ⟨"LampMuralModel", "type", "(I)I"⟩ ⟨"LampMuralModel", "type", "(I)I"⟩ ∈ WS := mW 1434 (by decide +kernel) (by decide +kernel)
theorem kw_1435 : Cond.code ⟨"LampMuralModel", "type", "(I)I"⟩ prog_9_method_72_code 2 (some FieldType.int) ∈ WS := mW 1435 (by decide +kernel) (by decide +kernel)
theorem kw_1437 : Cond.instanceMethod ⟨"LampMuralModel", "clearCommands", "()I"⟩ ∈ WS := mW 1437 (by decide +kernel) (by decide +kernel)
theorem kw_1438 : Cond.selects "LampMuralModel" ⟨"LampMuralModel", "clearCommands", "()I"⟩ ⟨"LampMuralModel", "clearCommands", "()I"⟩ ∈ WS := mW 1438 (by decide +kernel) (by decide +kernel)
theorem kw_1439 : Cond.code ⟨"LampMuralModel", "clearCommands", "()I"⟩ prog_9_method_73_code 2 (some FieldType.int) ∈ WS := mW 1439 (by decide +kernel) (by decide +kernel)
theorem kw_1441 : Cond.instanceMethod ⟨"LampMuralModel", "runCommands", "()I"⟩ ∈ WS := mW 1441 (by decide +kernel) (by decide +kernel)
theorem kw_1442 : Cond.selects "LampMuralModel" ⟨"LampMuralModel", "runCommands", "()I"⟩ ⟨"LampMuralModel", "runCommands", "()I"⟩ ∈ WS := mW 1442 (by decide +kernel) (by decide +kernel)
theorem kw_1443 : Cond.code ⟨"LampMuralModel", "runCommands", "()I"⟩ prog_9_method_83_code 5 (some FieldType.int) ∈ WS := mW 1443 (by decide +kernel) (by decide +kernel)
theorem kw_1444 : Cond.methodLink "LampMuralModel" 255 ⟨"LampMuralModel", "faultOfText", "()I"⟩ ∈ WS := mW 1444 (by decide +kernel) (by decide +kernel)
theorem kw_1446 : Cond.instanceMethod ⟨"LampMuralModel", "faultOfText", "()I"⟩ ∈ WS := mW 1446 (by decide +kernel) (by decide +kernel)
theorem kw_1447 : Cond.code ⟨"LampMuralModel", "faultOfText", "()I"⟩ prog_9_method_81_code 2 (some FieldType.int) ∈ WS := mW 1447 (by decide +kernel) (by decide +kernel)
theorem kw_1448 : Cond.methodLink "LampMuralModel" 236 ⟨"LampMuralModel", "skips", "()Z"⟩ ∈ WS := mW 1448 (by decide +kernel) (by decide +kernel)
theorem kw_1450 : Cond.instanceMethod ⟨"LampMuralModel", "skips", "()Z"⟩ ∈ WS := mW 1450 (by decide +kernel) (by decide +kernel)
theorem kw_1451 : Cond.code ⟨"LampMuralModel", "skips", "()Z"⟩ prog_9_method_75_code 2 (some FieldType.boolean) ∈ WS := mW 1451 (by decide +kernel) (by decide +kernel)
theorem kw_1452 : Cond.methodLink "LampMuralModel" 229 ⟨"LampMuralModel", "here", "()I"⟩ ∈ WS := mW 1452 (by decide +kernel) (by decide +kernel)
theorem kw_1454 : Cond.instanceMethod ⟨"LampMuralModel", "here", "()I"⟩ ∈ WS := mW 1454 (by decide +kernel) (by decide +kernel)
theorem kw_1455 : Cond.code ⟨"LampMuralModel", "here", "()I"⟩ prog_9_method_74_code 1 (some FieldType.int) ∈ WS := mW 1455 (by decide +kernel) (by decide +kernel)
theorem kw_1456 : Cond.methodLink "LampMuralModel" 252 ⟨"LampMuralModel", "isCommand", "()Z"⟩ ∈ WS := mW 1456 (by decide +kernel) (by decide +kernel)
theorem kw_1458 : Cond.instanceMethod ⟨"LampMuralModel", "isCommand", "()Z"⟩ ∈ WS := mW 1458 (by decide +kernel) (by decide +kernel)
theorem kw_1459 : Cond.code ⟨"LampMuralModel", "isCommand", "()Z"⟩ prog_9_method_80_code 3 (some FieldType.boolean) ∈ WS := mW 1459 (by decide +kernel) (by decide +kernel)
theorem kw_1460 : Cond.methodLink "LampMuralModel" 240 ⟨"LampMuralModel", "wordFrom", "(I)I"⟩ ∈ WS := mW 1460 (by decide +kernel) (by decide +kernel)
theorem kw_1462 : Cond.instanceMethod ⟨"LampMuralModel", "wordFrom", "(I)I"⟩ ∈ WS := mW 1462 (by decide +kernel) (by decide +kernel)
theorem kw_1463 : Cond.code ⟨"LampMuralModel", "wordFrom", "(I)I"⟩ prog_9_method_77_code 3 (some FieldType.int) ∈ WS := mW 1463 (by decide +kernel) (by decide +kernel)
theorem kw_1464 : Cond.methodLink "LampMuralModel" 232 ⟨"LampMuralModel", "isWord", "(IIIIII)Z"⟩ ∈ WS := mW 1464 (by decide +kernel) (by decide +kernel)
theorem kw_1466 : Cond.instanceMethod ⟨"LampMuralModel", "isWord", "(IIIIII)Z"⟩ ∈ WS := mW 1466 (by decide +kernel) (by decide +kernel)
theorem kw_1467 : Cond.code ⟨"LampMuralModel", "isWord", "(IIIIII)Z"⟩ prog_9_method_76_code 7 (some FieldType.boolean) ∈ WS := mW 1467 (by decide +kernel) (by decide +kernel)
theorem kw_1468 : Cond.methodLink "LampMuralModel" 246 ⟨"LampMuralModel", "numbersOf", "(I)I"⟩ ∈ WS := mW 1468 (by decide +kernel) (by decide +kernel)
theorem kw_1469 : Cond.static ⟨"LampMuralModel", "numbersOf", "(I)I"⟩ ∈ WS := mW 1469 (by decide +kernel) (by decide +kernel)
theorem kw_1470 : Cond.code ⟨"LampMuralModel", "numbersOf", "(I)I"⟩ prog_9_method_78_code 1 (some FieldType.int) ∈ WS := mW 1470 (by decide +kernel) (by decide +kernel)
theorem kw_1471 : Cond.methodLink "LampMuralModel" 249 ⟨"LampMuralModel", "isNumber", "(I)Z"⟩ ∈ WS := mW 1471 (by decide +kernel) (by decide +kernel)
theorem kw_1473 : Cond.instanceMethod ⟨"LampMuralModel", "isNumber", "(I)Z"⟩ ∈ WS := mW 1473 (by decide +kernel) (by decide +kernel)
theorem kw_1474 : Cond.code ⟨"LampMuralModel", "isNumber", "(I)Z"⟩ prog_9_method_79_code 5 (some FieldType.boolean) ∈ WS := mW 1474 (by decide +kernel) (by decide +kernel)
theorem kw_1475 : Cond.methodLink "LampMuralModel" 258 ⟨"LampMuralModel", "does", "()I"⟩ ∈ WS := mW 1475 (by decide +kernel) (by decide +kernel)
theorem kw_1477 : Cond.instanceMethod ⟨"LampMuralModel", "does", "()I"⟩ ∈ WS := mW 1477 (by decide +kernel) (by decide +kernel)
theorem kw_1478 : Cond.code ⟨"LampMuralModel", "does", "()I"⟩ prog_9_method_82_code 1 (some FieldType.int) ∈ WS := mW 1478 (by decide +kernel) (by decide +kernel)
theorem kw_1480 : Cond.instanceMethod ⟨"LampMuralModel", "digest", "()J"⟩ ∈ WS := mW 1480 (by decide +kernel) (by decide +kernel)
theorem kw_1481 : Cond.selects "LampMuralModel" ⟨"LampMuralModel", "digest", "()J"⟩ ⟨"LampMuralModel", "digest", "()J"⟩ ∈ WS := mW 1481 (by decide +kernel) (by decide +kernel)
theorem kw_1482 : Cond.code ⟨"LampMuralModel", "digest", "()J"⟩ prog_9_method_86_code 3 (some FieldType.long) ∈ WS := mW 1482 (by decide +kernel) (by decide +kernel)
theorem kw_1483 : Cond.constantLong "LampMuralModel" 270 (43276 : Int64) ∈ WS := mW 1483 (by decide +kernel) (by decide +kernel)
theorem kw_1484 : Cond.methodLink "LampMuralModel" 267 ⟨"LampMuralModel", "mix", "(I)V"⟩ ∈ WS := mW 1484 (by decide +kernel) (by decide +kernel)
theorem kw_1486 : Cond.instanceMethod ⟨"LampMuralModel", "mix", "(I)V"⟩ ∈ WS := mW 1486 (by decide +kernel) (by decide +kernel)
theorem kw_1487 : Cond.code ⟨"LampMuralModel", "mix", "(I)V"⟩ prog_9_method_84_code 2 none ∈ WS := mW 1487 (by decide +kernel) (by decide +kernel)
theorem kw_1488 : Cond.constantLong "LampMuralModel" 261 (31 : Int64) ∈ WS := mW 1488 (by decide +kernel) (by decide +kernel)
theorem kw_1489 : Cond.methodLink "LampMuralModel" 272 ⟨"LampMuralModel", "mixPlace", "(II)V"⟩ ∈ WS := mW 1489 (by decide +kernel) (by decide +kernel)
theorem kw_1491 : Cond.instanceMethod ⟨"LampMuralModel", "mixPlace", "(II)V"⟩ ∈ WS := mW 1491 (by decide +kernel) (by decide +kernel)
theorem kw_1492 : Cond.code ⟨"LampMuralModel", "mixPlace", "(II)V"⟩ prog_9_method_85_code 4 none ∈ WS := mW 1492 (by decide +kernel) (by decide +kernel)
theorem kw_1495 : Cond.fieldLink "java/lang/String" 9 "java/lang/String" "value" "[B" ∈ WS := mW 1495 (by decide +kernel) (by decide +kernel)
theorem kw_1496 : Cond.fieldLink "java/lang/String" 15 "java/lang/String" "coder" "B" ∈ WS := mW 1496 (by decide +kernel) (by decide +kernel)
abbrev mX0_append : MD := (RX0, yX0_append, cX0_append, 2, (some FieldType.int), { frames := 1, cells := 0, slots := 0, locals := 22 })
theorem wm_X0_append : WMV mX0_append := ⟨⟨kw_88, kw_1069, by decide +kernel, by decide +kernel⟩, kw_1067, kw_1068⟩
abbrev mX0_empty : MD := (RX0, yX0_empty, cX0_empty, 2, (some FieldType.int), { frames := 1, cells := 0, slots := 0, locals := 21 })
theorem wm_X0_empty : WMV mX0_empty := ⟨⟨kw_88, kw_421, by decide +kernel, by decide +kernel⟩, kw_419, kw_420⟩
abbrev mX0_rewind : MD := (RX0, yX0_rewind, cX0_rewind, 1, none, { frames := 0, cells := 0, slots := 0, locals := 0 })
theorem wm_X0_rewind : WMV mX0_rewind := ⟨⟨kw_88, kw_437, by decide +kernel, by decide +kernel⟩, kw_435, kw_436⟩
abbrev mX0_findFault : MD := (RX0, yX0_findFault, cX0_findFault, 2, (some FieldType.int), { frames := 9, cells := 0, slots := 0, locals := 194 })
theorem wm_X0_findFault : WMV mX0_findFault := ⟨⟨kw_88, kw_433, by decide +kernel, by decide +kernel⟩, kw_431, kw_432⟩
abbrev mX0_readCommand : MD := (RX0, yX0_readCommand, cX0_readCommand, 2, (some FieldType.boolean), { frames := 8, cells := 0, slots := 0, locals := 173 })
theorem wm_X0_readCommand : WMV mX0_readCommand := ⟨⟨kw_88, kw_441, by decide +kernel, by decide +kernel⟩, kw_439, kw_440⟩
abbrev mX0_number : MD := (RX0, yX0_number, cX0_number, 2, (some FieldType.int), { frames := 1, cells := 0, slots := 0, locals := 21 })
theorem wm_X0_number : WMV mX0_number := ⟨⟨kw_88, kw_559, by decide +kernel, by decide +kernel⟩, kw_557, kw_558⟩
abbrev mX0_readWord : MD := (RX0, yX0_readWord, cX0_readWord, 2, (some FieldType.boolean), { frames := 7, cells := 0, slots := 0, locals := 152 })
theorem wm_X0_readWord : WMV mX0_readWord := ⟨⟨kw_88, kw_450, by decide +kernel, by decide +kernel⟩, kw_449, kw_6⟩
abbrev mX0_readNumber : MD := (RX0, yX0_readNumber, cX0_readNumber, 5, (some FieldType.boolean), { frames := 2, cells := 0, slots := 0, locals := 42 })
theorem wm_X0_readNumber : WMV mX0_readNumber := ⟨⟨kw_88, kw_528, by decide +kernel, by decide +kernel⟩, kw_527, kw_10⟩
abbrev mX0_skipSpaces : MD := (RX0, yX0_skipSpaces, cX0_skipSpaces, 1, none, { frames := 1, cells := 0, slots := 0, locals := 21 })
theorem wm_X0_skipSpaces : WMV mX0_skipSpaces := ⟨⟨kw_88, kw_445, by decide +kernel, by decide +kernel⟩, kw_444, kw_5⟩
abbrev mX0_failAt : MD := (RX0, yX0_failAt, cX0_failAt, 2, (some FieldType.boolean), { frames := 0, cells := 0, slots := 0, locals := 0 })
theorem wm_X0_failAt : WMV mX0_failAt := ⟨⟨kw_88, kw_521, by decide +kernel, by decide +kernel⟩, kw_520, kw_9⟩
abbrev mX0_isDigit : MD := (RX0, yX0_isDigit, cX0_isDigit, 1, (some FieldType.boolean), { frames := 1, cells := 0, slots := 0, locals := 22 })
theorem wm_X0_isDigit : WMS mX0_isDigit := ⟨⟨kw_88, kw_531, by decide +kernel, by decide +kernel⟩, kw_530⟩
abbrev mX0_wordBetween : MD := (RX0, yX0_wordBetween, cX0_wordBetween, 3, (some FieldType.int), { frames := 6, cells := 0, slots := 0, locals := 130 })
theorem wm_X0_wordBetween : WMV mX0_wordBetween := ⟨⟨kw_88, kw_457, by decide +kernel, by decide +kernel⟩, kw_456, kw_7⟩
abbrev mX0_isWord : MD := (RX0, yX0_isWord, cX0_isWord, 5, (some FieldType.boolean), { frames := 5, cells := 0, slots := 0, locals := 106 })
theorem wm_X0_isWord : WMV mX0_isWord := ⟨⟨kw_88, kw_462, by decide +kernel, by decide +kernel⟩, kw_461, kw_8⟩
abbrev mX0_numbersOf : MD := (RX0, yX0_numbersOf, cX0_numbersOf, 1, (some FieldType.int), { frames := 0, cells := 0, slots := 0, locals := 0 })
theorem wm_X0_numbersOf : WMS mX0_numbersOf := ⟨⟨kw_88, kw_524, by decide +kernel, by decide +kernel⟩, kw_523⟩
abbrev mX1_prepare : MD := (RX1, yX1_prepare, cX1_prepare, 4, none, { frames := 3, cells := 0, slots := 0, locals := 63 })
theorem wm_X1_prepare : WMV mX1_prepare := ⟨⟨kw_86, kw_351, by decide +kernel, by decide +kernel⟩, kw_349, kw_350⟩
abbrev mX1_countWrong : MD := (RX1, yX1_countWrong, cX1_countWrong, 9, (some FieldType.int), { frames := 4, cells := 0, slots := 0, locals := 86 })
theorem wm_X1_countWrong : WMV mX1_countWrong := ⟨⟨kw_86, kw_347, by decide +kernel, by decide +kernel⟩, kw_345, kw_346⟩
abbrev mX1_dimPoint : MD := (RX1, yX1_dimPoint, cX1_dimPoint, 7, none, { frames := 2, cells := 0, slots := 0, locals := 55 })
theorem wm_X1_dimPoint : WMV mX1_dimPoint := ⟨⟨kw_86, kw_382, by decide +kernel, by decide +kernel⟩, kw_380, kw_381⟩
abbrev mX1_shareOut : MD := (RX1, yX1_shareOut, cX1_shareOut, 7, none, { frames := 1, cells := 0, slots := 0, locals := 22 })
theorem wm_X1_shareOut : WMV mX1_shareOut := ⟨⟨kw_86, kw_396, by decide +kernel, by decide +kernel⟩, kw_395, kw_1⟩
abbrev mX1_keepToLimits : MD := (RX1, yX1_keepToLimits, cX1_keepToLimits, 2, none, { frames := 1, cells := 0, slots := 0, locals := 22 })
theorem wm_X1_keepToLimits : WMV mX1_keepToLimits := ⟨⟨kw_86, kw_401, by decide +kernel, by decide +kernel⟩, kw_400, kw_2⟩
abbrev mX1_balance : MD := (RX1, yX1_balance, cX1_balance, 6, none, { frames := 1, cells := 0, slots := 0, locals := 22 })
theorem wm_X1_balance : WMV mX1_balance := ⟨⟨kw_86, kw_409, by decide +kernel, by decide +kernel⟩, kw_408, kw_3⟩
abbrev mX1_stateFor : MD := (RX1, yX1_stateFor, cX1_stateFor, 2, (some FieldType.int), { frames := 0, cells := 0, slots := 0, locals := 0 })
theorem wm_X1_stateFor : WMV mX1_stateFor := ⟨⟨kw_86, kw_413, by decide +kernel, by decide +kernel⟩, kw_412, kw_4⟩
abbrev mX2_save : MD := (RX2, yX2_save, cX2_save, 3, none, { frames := 2, cells := 0, slots := 0, locals := 43 })
theorem wm_X2_save : WMV mX2_save := ⟨⟨kw_87, kw_536, by decide +kernel, by decide +kernel⟩, kw_534, kw_535⟩
abbrev mX2_restore : MD := (RX2, yX2_restore, cX2_restore, 2, none, { frames := 2, cells := 0, slots := 0, locals := 43 })
theorem wm_X2_restore : WMV mX2_restore := ⟨⟨kw_87, kw_1080, by decide +kernel, by decide +kernel⟩, kw_1078, kw_1079⟩
abbrev mX2_latestSlot : MD := (RX2, yX2_latestSlot, cX2_latestSlot, 1, (some (FieldType.object "LampMural$Scene")), { frames := 0, cells := 0, slots := 0, locals := 0 })
theorem wm_X2_latestSlot : WMV mX2_latestSlot := ⟨⟨kw_87, kw_540, by decide +kernel, by decide +kernel⟩, kw_539, kw_11⟩
abbrev mX3_get : MD := (RX3, yX3_get, cX3_get, 2, (some FieldType.int), { frames := 0, cells := 0, slots := 0, locals := 0 })
theorem wm_X3_get : WMV mX3_get := ⟨⟨kw_84, kw_336, by decide +kernel, by decide +kernel⟩, kw_334, kw_335⟩
abbrev mX3_set : MD := (RX3, yX3_set, cX3_set, 3, none, { frames := 0, cells := 0, slots := 0, locals := 0 })
theorem wm_X3_set : WMV mX3_set := ⟨⟨kw_84, kw_359, by decide +kernel, by decide +kernel⟩, kw_357, kw_358⟩
abbrev mX3_clear : MD := (RX3, yX3_clear, cX3_clear, 2, none, { frames := 0, cells := 0, slots := 0, locals := 0 })
theorem wm_X3_clear : WMV mX3_clear := ⟨⟨kw_84, kw_425, by decide +kernel, by decide +kernel⟩, kw_423, kw_424⟩
abbrev mX3_copyFrom : MD := (RX3, yX3_copyFrom, cX3_copyFrom, 3, none, { frames := 0, cells := 0, slots := 0, locals := 0 })
theorem wm_X3_copyFrom : WMV mX3_copyFrom := ⟨⟨kw_84, kw_548, by decide +kernel, by decide +kernel⟩, kw_546, kw_547⟩
abbrev mX4_copyFrom : MD := (RX4, yX4_copyFrom, cX4_copyFrom, 2, none, { frames := 1, cells := 0, slots := 0, locals := 22 })
theorem wm_X4_copyFrom : WMV mX4_copyFrom := ⟨⟨kw_83, kw_544, by decide +kernel, by decide +kernel⟩, kw_542, kw_543⟩
abbrev mX4_startWall : MD := (RX4, yX4_startWall, cX4_startWall, 3, none, { frames := 1, cells := 0, slots := 0, locals := 21 })
theorem wm_X4_startWall : WMV mX4_startWall := ⟨⟨kw_83, kw_604, by decide +kernel, by decide +kernel⟩, kw_602, kw_603⟩
abbrev mX4_setTargets : MD := (RX4, yX4_setTargets, cX4_setTargets, 10, (some FieldType.int), { frames := 1, cells := 0, slots := 0, locals := 22 })
theorem wm_X4_setTargets : WMV mX4_setTargets := ⟨⟨kw_83, kw_609, by decide +kernel, by decide +kernel⟩, kw_607, kw_608⟩
abbrev mX4_hangLamp : MD := (RX4, yX4_hangLamp, cX4_hangLamp, 5, (some FieldType.int), { frames := 2, cells := 0, slots := 0, locals := 46 })
theorem wm_X4_hangLamp : WMV mX4_hangLamp := ⟨⟨kw_83, kw_615, by decide +kernel, by decide +kernel⟩, kw_613, kw_614⟩
abbrev mX4_moveCorner : MD := (RX4, yX4_moveCorner, cX4_moveCorner, 5, none, { frames := 1, cells := 0, slots := 0, locals := 22 })
theorem wm_X4_moveCorner : WMV mX4_moveCorner := ⟨⟨kw_83, kw_619, by decide +kernel, by decide +kernel⟩, kw_617, kw_618⟩
abbrev mX4_setLampValue : MD := (RX4, yX4_setLampValue, cX4_setLampValue, 4, none, { frames := 1, cells := 0, slots := 0, locals := 22 })
theorem wm_X4_setLampValue : WMV mX4_setLampValue := ⟨⟨kw_83, kw_941, by decide +kernel, by decide +kernel⟩, kw_939, kw_940⟩
abbrev mX4_switchLamp : MD := (RX4, yX4_switchLamp, cX4_switchLamp, 3, none, { frames := 1, cells := 0, slots := 0, locals := 22 })
theorem wm_X4_switchLamp : WMV mX4_switchLamp := ⟨⟨kw_83, kw_628, by decide +kernel, by decide +kernel⟩, kw_626, kw_627⟩
abbrev mX4_moveWall : MD := (RX4, yX4_moveWall, cX4_moveWall, 3, none, { frames := 0, cells := 0, slots := 0, locals := 0 })
theorem wm_X4_moveWall : WMV mX4_moveWall := ⟨⟨kw_83, kw_624, by decide +kernel, by decide +kernel⟩, kw_622, kw_623⟩
abbrev mX4_wearOut : MD := (RX4, yX4_wearOut, cX4_wearOut, 3, none, { frames := 1, cells := 0, slots := 0, locals := 22 })
theorem wm_X4_wearOut : WMV mX4_wearOut := ⟨⟨kw_83, kw_670, by decide +kernel, by decide +kernel⟩, kw_668, kw_669⟩
abbrev mX4_countHours : MD := (RX4, yX4_countHours, cX4_countHours, 2, none, { frames := 0, cells := 0, slots := 0, locals := 0 })
theorem wm_X4_countHours : WMV mX4_countHours := ⟨⟨kw_83, kw_674, by decide +kernel, by decide +kernel⟩, kw_672, kw_673⟩
abbrev mX4_hasPlace : MD := (RX4, yX4_hasPlace, cX4_hasPlace, 3, (some FieldType.boolean), { frames := 0, cells := 0, slots := 0, locals := 0 })
theorem wm_X4_hasPlace : WMV mX4_hasPlace := ⟨⟨kw_83, kw_575, by decide +kernel, by decide +kernel⟩, kw_573, kw_574⟩
abbrev mX4_hasLamp : MD := (RX4, yX4_hasLamp, cX4_hasLamp, 2, (some FieldType.boolean), { frames := 0, cells := 0, slots := 0, locals := 0 })
theorem wm_X4_hasLamp : WMV mX4_hasLamp := ⟨⟨kw_83, kw_587, by decide +kernel, by decide +kernel⟩, kw_585, kw_586⟩
abbrev mX4_placeCount : MD := (RX4, yX4_placeCount, cX4_placeCount, 1, (some FieldType.int), { frames := 0, cells := 0, slots := 0, locals := 0 })
theorem wm_X4_placeCount : WMV mX4_placeCount := ⟨⟨kw_83, kw_741, by decide +kernel, by decide +kernel⟩, kw_739, kw_740⟩
abbrev mX4_indexOfPlace : MD := (RX4, yX4_indexOfPlace, cX4_indexOfPlace, 3, (some FieldType.int), { frames := 0, cells := 0, slots := 0, locals := 0 })
theorem wm_X4_indexOfPlace : WMV mX4_indexOfPlace := ⟨⟨kw_83, kw_371, by decide +kernel, by decide +kernel⟩, kw_369, kw_370⟩
abbrev mX4_targetAt : MD := (RX4, yX4_targetAt, cX4_targetAt, 2, (some FieldType.int), { frames := 1, cells := 0, slots := 0, locals := 21 })
theorem wm_X4_targetAt : WMV mX4_targetAt := ⟨⟨kw_83, kw_375, by decide +kernel, by decide +kernel⟩, kw_373, kw_374⟩
abbrev mX4_sumOfTargets : MD := (RX4, yX4_sumOfTargets, cX4_sumOfTargets, 3, (some FieldType.int), { frames := 1, cells := 0, slots := 0, locals := 21 })
theorem wm_X4_sumOfTargets : WMV mX4_sumOfTargets := ⟨⟨kw_83, kw_697, by decide +kernel, by decide +kernel⟩, kw_695, kw_696⟩
abbrev mX4_cornerValue : MD := (RX4, yX4_cornerValue, cX4_cornerValue, 4, (some FieldType.int), { frames := 1, cells := 0, slots := 0, locals := 21 })
theorem wm_X4_cornerValue : WMV mX4_cornerValue := ⟨⟨kw_83, kw_737, by decide +kernel, by decide +kernel⟩, kw_735, kw_736⟩
abbrev mX4_isWorking : MD := (RX4, yX4_isWorking, cX4_isWorking, 2, (some FieldType.boolean), { frames := 1, cells := 0, slots := 0, locals := 21 })
theorem wm_X4_isWorking : WMV mX4_isWorking := ⟨⟨kw_83, kw_332, by decide +kernel, by decide +kernel⟩, kw_330, kw_331⟩
abbrev mX4_workingLamps : MD := (RX4, yX4_workingLamps, cX4_workingLamps, 3, (some FieldType.int), { frames := 1, cells := 0, slots := 0, locals := 21 })
theorem wm_X4_workingLamps : WMV mX4_workingLamps := ⟨⟨kw_83, kw_689, by decide +kernel, by decide +kernel⟩, kw_687, kw_688⟩
abbrev mX4_greatestWear : MD := (RX4, yX4_greatestWear, cX4_greatestWear, 3, (some FieldType.int), { frames := 1, cells := 0, slots := 0, locals := 21 })
theorem wm_X4_greatestWear : WMV mX4_greatestWear := ⟨⟨kw_83, kw_971, by decide +kernel, by decide +kernel⟩, kw_969, kw_970⟩
abbrev mX4_limitOf : MD := (RX4, yX4_limitOf, cX4_limitOf, 2, (some FieldType.int), { frames := 1, cells := 0, slots := 0, locals := 21 })
theorem wm_X4_limitOf : WMV mX4_limitOf := ⟨⟨kw_83, kw_355, by decide +kernel, by decide +kernel⟩, kw_353, kw_354⟩
abbrev mX4_floorOf : MD := (RX4, yX4_floorOf, cX4_floorOf, 2, (some FieldType.int), { frames := 2, cells := 0, slots := 0, locals := 42 })
theorem wm_X4_floorOf : WMV mX4_floorOf := ⟨⟨kw_83, kw_363, by decide +kernel, by decide +kernel⟩, kw_361, kw_362⟩
abbrev mX4_sumOfLimits : MD := (RX4, yX4_sumOfLimits, cX4_sumOfLimits, 4, (some FieldType.int), { frames := 2, cells := 0, slots := 0, locals := 42 })
theorem wm_X4_sumOfLimits : WMV mX4_sumOfLimits := ⟨⟨kw_83, kw_766, by decide +kernel, by decide +kernel⟩, kw_764, kw_765⟩
abbrev mX4_sumOfFloors : MD := (RX4, yX4_sumOfFloors, cX4_sumOfFloors, 4, (some FieldType.int), { frames := 3, cells := 0, slots := 0, locals := 63 })
theorem wm_X4_sumOfFloors : WMV mX4_sumOfFloors := ⟨⟨kw_83, kw_771, by decide +kernel, by decide +kernel⟩, kw_769, kw_770⟩
abbrev mX4_isGood : MD := (RX4, yX4_isGood, cX4_isGood, 10, (some FieldType.boolean), { frames := 1, cells := 0, slots := 0, locals := 23 })
theorem wm_X4_isGood : WMV mX4_isGood := ⟨⟨kw_83, kw_340, by decide +kernel, by decide +kernel⟩, kw_338, kw_339⟩
abbrev mX4_shiningLamps : MD := (RX4, yX4_shiningLamps, cX4_shiningLamps, 3, (some FieldType.int), { frames := 2, cells := 0, slots := 0, locals := 52 })
theorem wm_X4_shiningLamps : WMV mX4_shiningLamps := ⟨⟨kw_83, kw_328, by decide +kernel, by decide +kernel⟩, kw_326, kw_327⟩
abbrev mX4_weightAt : MD := (RX4, yX4_weightAt, cX4_weightAt, 13, (some FieldType.int), { frames := 1, cells := 0, slots := 0, locals := 23 })
theorem wm_X4_weightAt : WMV mX4_weightAt := ⟨⟨kw_83, kw_389, by decide +kernel, by decide +kernel⟩, kw_387, kw_388⟩
abbrev mX5_refresh : MD := (RX5, yX5_refresh, cX5_refresh, 4, none, { frames := 4, cells := 0, slots := 0, locals := 86 })
theorem wm_X5_refresh : WMV mX5_refresh := ⟨⟨kw_85, kw_636, by decide +kernel, by decide +kernel⟩, kw_634, kw_635⟩
abbrev mX5_keepPlace : MD := (RX5, yX5_keepPlace, cX5_keepPlace, 2, none, { frames := 1, cells := 0, slots := 0, locals := 22 })
theorem wm_X5_keepPlace : WMV mX5_keepPlace := ⟨⟨kw_85, kw_645, by decide +kernel, by decide +kernel⟩, kw_644, kw_19⟩
abbrev mX5_coveringAt : MD := (RX5, yX5_coveringAt, cX5_coveringAt, 2, (some FieldType.int), { frames := 1, cells := 0, slots := 0, locals := 21 })
theorem wm_X5_coveringAt : WMV mX5_coveringAt := ⟨⟨kw_85, kw_762, by decide +kernel, by decide +kernel⟩, kw_760, kw_761⟩
abbrev mX5_brightnessAt : MD := (RX5, yX5_brightnessAt, cX5_brightnessAt, 2, (some FieldType.int), { frames := 1, cells := 0, slots := 0, locals := 21 })
theorem wm_X5_brightnessAt : WMV mX5_brightnessAt := ⟨⟨kw_85, kw_754, by decide +kernel, by decide +kernel⟩, kw_752, kw_753⟩
abbrev mX5_stateAt : MD := (RX5, yX5_stateAt, cX5_stateAt, 2, (some FieldType.int), { frames := 1, cells := 0, slots := 0, locals := 21 })
theorem wm_X5_stateAt : WMV mX5_stateAt := ⟨⟨kw_85, kw_758, by decide +kernel, by decide +kernel⟩, kw_756, kw_757⟩
abbrev mX5_isCovered : MD := (RX5, yX5_isCovered, cX5_isCovered, 3, (some FieldType.boolean), { frames := 1, cells := 0, slots := 0, locals := 21 })
theorem wm_X5_isCovered : WMV mX5_isCovered := ⟨⟨kw_85, kw_661, by decide +kernel, by decide +kernel⟩, kw_659, kw_660⟩
abbrev mX5_lightOf : MD := (RX5, yX5_lightOf, cX5_lightOf, 3, (some FieldType.int), { frames := 2, cells := 0, slots := 0, locals := 43 })
theorem wm_X5_lightOf : WMV mX5_lightOf := ⟨⟨kw_85, kw_776, by decide +kernel, by decide +kernel⟩, kw_774, kw_775⟩
abbrev mX5_placesOf : MD := (RX5, yX5_placesOf, cX5_placesOf, 4, (some FieldType.int), { frames := 2, cells := 0, slots := 0, locals := 43 })
theorem wm_X5_placesOf : WMV mX5_placesOf := ⟨⟨kw_85, kw_657, by decide +kernel, by decide +kernel⟩, kw_655, kw_656⟩
abbrev mX5_placesOnlyOf : MD := (RX5, yX5_placesOnlyOf, cX5_placesOnlyOf, 4, (some FieldType.int), { frames := 1, cells := 0, slots := 0, locals := 21 })
theorem wm_X5_placesOnlyOf : WMV mX5_placesOnlyOf := ⟨⟨kw_85, kw_733, by decide +kernel, by decide +kernel⟩, kw_731, kw_732⟩
abbrev mX5_placesOfSeveral : MD := (RX5, yX5_placesOfSeveral, cX5_placesOfSeveral, 3, (some FieldType.int), { frames := 1, cells := 0, slots := 0, locals := 21 })
theorem wm_X5_placesOfSeveral : WMV mX5_placesOfSeveral := ⟨⟨kw_85, kw_705, by decide +kernel, by decide +kernel⟩, kw_703, kw_704⟩
abbrev mX5_placesInState : MD := (RX5, yX5_placesInState, cX5_placesInState, 4, (some FieldType.int), { frames := 1, cells := 0, slots := 0, locals := 21 })
theorem wm_X5_placesInState : WMV mX5_placesInState := ⟨⟨kw_85, kw_693, by decide +kernel, by decide +kernel⟩, kw_691, kw_692⟩
abbrev mX5_wrongPlaces : MD := (RX5, yX5_wrongPlaces, cX5_wrongPlaces, 1, (some FieldType.int), { frames := 2, cells := 0, slots := 0, locals := 44 })
theorem wm_X5_wrongPlaces : WMV mX5_wrongPlaces := ⟨⟨kw_85, kw_959, by decide +kernel, by decide +kernel⟩, kw_957, kw_958⟩
abbrev mX5_sumOfBrightness : MD := (RX5, yX5_sumOfBrightness, cX5_sumOfBrightness, 3, (some FieldType.int), { frames := 1, cells := 0, slots := 0, locals := 21 })
theorem wm_X5_sumOfBrightness : WMV mX5_sumOfBrightness := ⟨⟨kw_85, kw_701, by decide +kernel, by decide +kernel⟩, kw_699, kw_700⟩
abbrev mX5_sumOfLights : MD := (RX5, yX5_sumOfLights, cX5_sumOfLights, 4, (some FieldType.int), { frames := 2, cells := 0, slots := 0, locals := 43 })
theorem wm_X5_sumOfLights : WMV mX5_sumOfLights := ⟨⟨kw_85, kw_666, by decide +kernel, by decide +kernel⟩, kw_664, kw_665⟩
abbrev mX5_greatestLightOf : MD := (RX5, yX5_greatestLightOf, cX5_greatestLightOf, 4, (some FieldType.int), { frames := 2, cells := 0, slots := 0, locals := 43 })
theorem wm_X5_greatestLightOf : WMV mX5_greatestLightOf := ⟨⟨kw_85, kw_728, by decide +kernel, by decide +kernel⟩, kw_726, kw_727⟩
abbrev mX5_loadOf : MD := (RX5, yX5_loadOf, cX5_loadOf, 4, (some FieldType.int), { frames := 3, cells := 0, slots := 0, locals := 66 })
theorem wm_X5_loadOf : WMV mX5_loadOf := ⟨⟨kw_85, kw_653, by decide +kernel, by decide +kernel⟩, kw_651, kw_652⟩
abbrev mX6_begin : MD := (RX6, yX6_begin, cX6_begin, 4, (some FieldType.int), { frames := 3, cells := 0, slots := 0, locals := 65 })
theorem wm_X6_begin : WMV mX6_begin := ⟨⟨kw_82, kw_784, by decide +kernel, by decide +kernel⟩, kw_782, kw_783⟩
abbrev mX6_paint : MD := (RX6, yX6_paint, cX6_paint, 7, (some FieldType.int), { frames := 3, cells := 0, slots := 0, locals := 65 })
theorem wm_X6_paint : WMV mX6_paint := ⟨⟨kw_82, kw_862, by decide +kernel, by decide +kernel⟩, kw_860, kw_861⟩
abbrev mX6_addLamp : MD := (RX6, yX6_addLamp, cX6_addLamp, 4, (some FieldType.int), { frames := 3, cells := 0, slots := 0, locals := 70 })
theorem wm_X6_addLamp : WMV mX6_addLamp := ⟨⟨kw_82, kw_889, by decide +kernel, by decide +kernel⟩, kw_887, kw_888⟩
abbrev mX6_setCorner : MD := (RX6, yX6_setCorner, cX6_setCorner, 6, (some FieldType.int), { frames := 3, cells := 0, slots := 0, locals := 65 })
theorem wm_X6_setCorner : WMV mX6_setCorner := ⟨⟨kw_82, kw_915, by decide +kernel, by decide +kernel⟩, kw_913, kw_914⟩
abbrev mX6_setRectangle : MD := (RX6, yX6_setRectangle, cX6_setRectangle, 7, (some FieldType.int), { frames := 5, cells := 0, slots := 0, locals := 109 })
theorem wm_X6_setRectangle : WMV mX6_setRectangle := ⟨⟨kw_82, kw_922, by decide +kernel, by decide +kernel⟩, kw_920, kw_921⟩
abbrev mX6_setLamp : MD := (RX6, yX6_setLamp, cX6_setLamp, 6, (some FieldType.int), { frames := 6, cells := 0, slots := 0, locals := 131 })
theorem wm_X6_setLamp : WMV mX6_setLamp := ⟨⟨kw_82, kw_933, by decide +kernel, by decide +kernel⟩, kw_931, kw_932⟩
abbrev mX6_setWorks : MD := (RX6, yX6_setWorks, cX6_setWorks, 4, (some FieldType.int), { frames := 3, cells := 0, slots := 0, locals := 65 })
theorem wm_X6_setWorks : WMV mX6_setWorks := ⟨⟨kw_82, kw_948, by decide +kernel, by decide +kernel⟩, kw_946, kw_947⟩
abbrev mX6_shift : MD := (RX6, yX6_shift, cX6_shift, 3, (some FieldType.int), { frames := 5, cells := 0, slots := 0, locals := 109 })
theorem wm_X6_shift : WMV mX6_shift := ⟨⟨kw_82, kw_955, by decide +kernel, by decide +kernel⟩, kw_953, kw_954⟩
abbrev mX6_burn : MD := (RX6, yX6_burn, cX6_burn, 2, (some FieldType.int), { frames := 6, cells := 0, slots := 0, locals := 131 })
theorem wm_X6_burn : WMV mX6_burn := ⟨⟨kw_82, kw_967, by decide +kernel, by decide +kernel⟩, kw_965, kw_966⟩
abbrev mX6_place : MD := (RX6, yX6_place, cX6_place, 4, (some FieldType.int), { frames := 6, cells := 0, slots := 0, locals := 131 })
theorem wm_X6_place : WMV mX6_place := ⟨⟨kw_82, kw_979, by decide +kernel, by decide +kernel⟩, kw_977, kw_978⟩
abbrev mX6_light : MD := (RX6, yX6_light, cX6_light, 4, (some FieldType.int), { frames := 5, cells := 0, slots := 0, locals := 109 })
theorem wm_X6_light : WMV mX6_light := ⟨⟨kw_82, kw_991, by decide +kernel, by decide +kernel⟩, kw_989, kw_990⟩
abbrev mX6_weight : MD := (RX6, yX6_weight, cX6_weight, 4, (some FieldType.int), { frames := 5, cells := 0, slots := 0, locals := 109 })
theorem wm_X6_weight : WMV mX6_weight := ⟨⟨kw_82, kw_998, by decide +kernel, by decide +kernel⟩, kw_996, kw_997⟩
abbrev mX6_lamp : MD := (RX6, yX6_lamp, cX6_lamp, 3, (some FieldType.int), { frames := 6, cells := 0, slots := 0, locals := 131 })
theorem wm_X6_lamp : WMV mX6_lamp := ⟨⟨kw_82, kw_1008, by decide +kernel, by decide +kernel⟩, kw_1006, kw_1007⟩
abbrev mX6_corner : MD := (RX6, yX6_corner, cX6_corner, 4, (some FieldType.int), { frames := 2, cells := 0, slots := 0, locals := 44 })
theorem wm_X6_corner : WMV mX6_corner := ⟨⟨kw_82, kw_1015, by decide +kernel, by decide +kernel⟩, kw_1013, kw_1014⟩
abbrev mX6_whole : MD := (RX6, yX6_whole, cX6_whole, 2, (some FieldType.int), { frames := 6, cells := 0, slots := 0, locals := 130 })
theorem wm_X6_whole : WMV mX6_whole := ⟨⟨kw_82, kw_1022, by decide +kernel, by decide +kernel⟩, kw_1020, kw_1021⟩
abbrev mX6_wrong : MD := (RX6, yX6_wrong, cX6_wrong, 5, (some FieldType.int), { frames := 5, cells := 0, slots := 0, locals := 109 })
theorem wm_X6_wrong : WMV mX6_wrong := ⟨⟨kw_82, kw_1029, by decide +kernel, by decide +kernel⟩, kw_1027, kw_1028⟩
abbrev mX6_wrongWithout : MD := (RX6, yX6_wrongWithout, cX6_wrongWithout, 2, (some FieldType.int), { frames := 6, cells := 0, slots := 0, locals := 136 })
theorem wm_X6_wrongWithout : WMV mX6_wrongWithout := ⟨⟨kw_82, kw_1036, by decide +kernel, by decide +kernel⟩, kw_1034, kw_1035⟩
abbrev mX6_dearestLamp : MD := (RX6, yX6_dearestLamp, cX6_dearestLamp, 5, (some FieldType.int), { frames := 6, cells := 0, slots := 0, locals := 136 })
theorem wm_X6_dearestLamp : WMV mX6_dearestLamp := ⟨⟨kw_82, kw_320, by decide +kernel, by decide +kernel⟩, kw_318, kw_319⟩
abbrev mX6_wrongShifted : MD := (RX6, yX6_wrongShifted, cX6_wrongShifted, 3, (some FieldType.int), { frames := 5, cells := 0, slots := 0, locals := 114 })
theorem wm_X6_wrongShifted : WMV mX6_wrongShifted := ⟨⟨kw_82, kw_1043, by decide +kernel, by decide +kernel⟩, kw_1041, kw_1042⟩
abbrev mX6_bestShift : MD := (RX6, yX6_bestShift, cX6_bestShift, 8, (some FieldType.int), { frames := 5, cells := 0, slots := 0, locals := 114 })
theorem wm_X6_bestShift : WMV mX6_bestShift := ⟨⟨kw_82, kw_1050, by decide +kernel, by decide +kernel⟩, kw_1048, kw_1049⟩
abbrev mX6_neededLimit : MD := (RX6, yX6_neededLimit, cX6_neededLimit, 5, (some FieldType.int), { frames := 5, cells := 0, slots := 0, locals := 109 })
theorem wm_X6_neededLimit : WMV mX6_neededLimit := ⟨⟨kw_82, kw_1057, by decide +kernel, by decide +kernel⟩, kw_1055, kw_1056⟩
abbrev mX6_type : MD := (RX6, yX6_type, cX6_type, 2, (some FieldType.int), { frames := 2, cells := 0, slots := 0, locals := 44 })
theorem wm_X6_type : WMV mX6_type := ⟨⟨kw_82, kw_1065, by decide +kernel, by decide +kernel⟩, kw_1063, kw_1064⟩
abbrev mX6_clearCommands : MD := (RX6, yX6_clearCommands, cX6_clearCommands, 1, (some FieldType.int), { frames := 2, cells := 0, slots := 0, locals := 42 })
theorem wm_X6_clearCommands : WMV mX6_clearCommands := ⟨⟨kw_82, kw_417, by decide +kernel, by decide +kernel⟩, kw_415, kw_416⟩
abbrev mX6_runCommands : MD := (RX6, yX6_runCommands, cX6_runCommands, 4, (some FieldType.int), { frames := 10, cells := 0, slots := 0, locals := 215 })
theorem wm_X6_runCommands : WMV mX6_runCommands := ⟨⟨kw_82, kw_429, by decide +kernel, by decide +kernel⟩, kw_427, kw_428⟩
abbrev mX6_undo : MD := (RX6, yX6_undo, cX6_undo, 1, (some FieldType.int), { frames := 3, cells := 0, slots := 0, locals := 64 })
theorem wm_X6_undo : WMV mX6_undo := ⟨⟨kw_82, kw_1076, by decide +kernel, by decide +kernel⟩, kw_1074, kw_1075⟩
abbrev mX6_digest : MD := (RX6, yX6_digest, cX6_digest, 4, (some FieldType.long), { frames := 7, cells := 0, slots := 0, locals := 157 })
theorem wm_X6_digest : WMV mX6_digest := ⟨⟨kw_82, kw_679, by decide +kernel, by decide +kernel⟩, kw_677, kw_678⟩
abbrev mX6_addLampTo : MD := (RX6, yX6_addLampTo, cX6_addLampTo, 7, (some FieldType.long), { frames := 6, cells := 0, slots := 0, locals := 131 })
theorem wm_X6_addLampTo : WMV mX6_addLampTo := ⟨⟨kw_82, kw_715, by decide +kernel, by decide +kernel⟩, kw_714, kw_21⟩
abbrev mX6_addPlaceTo : MD := (RX6, yX6_addPlaceTo, cX6_addPlaceTo, 7, (some FieldType.long), { frames := 6, cells := 0, slots := 0, locals := 131 })
theorem wm_X6_addPlaceTo : WMV mX6_addPlaceTo := ⟨⟨kw_82, kw_745, by decide +kernel, by decide +kernel⟩, kw_744, kw_23⟩
abbrev mX6_placeValue : MD := (RX6, yX6_placeValue, cX6_placeValue, 3, (some FieldType.int), { frames := 5, cells := 0, slots := 0, locals := 109 })
theorem wm_X6_placeValue : WMV mX6_placeValue := ⟨⟨kw_82, kw_749, by decide +kernel, by decide +kernel⟩, kw_748, kw_24⟩
abbrev mX6_lampValue : MD := (RX6, yX6_lampValue, cX6_lampValue, 3, (some FieldType.int), { frames := 5, cells := 0, slots := 0, locals := 109 })
theorem wm_X6_lampValue : WMV mX6_lampValue := ⟨⟨kw_82, kw_719, by decide +kernel, by decide +kernel⟩, kw_718, kw_22⟩
abbrev mX6_wholeValue : MD := (RX6, yX6_wholeValue, cX6_wholeValue, 2, (some FieldType.int), { frames := 5, cells := 0, slots := 0, locals := 109 })
theorem wm_X6_wholeValue : WMV mX6_wholeValue := ⟨⟨kw_82, kw_685, by decide +kernel, by decide +kernel⟩, kw_684, kw_20⟩
abbrev mX6_wrongIfFailed : MD := (RX6, yX6_wrongIfFailed, cX6_wrongIfFailed, 3, (some FieldType.int), { frames := 5, cells := 0, slots := 0, locals := 114 })
theorem wm_X6_wrongIfFailed : WMV mX6_wrongIfFailed := ⟨⟨kw_82, kw_324, by decide +kernel, by decide +kernel⟩, kw_323, kw_0⟩
abbrev mX6_burnHours : MD := (RX6, yX6_burnHours, cX6_burnHours, 3, none, { frames := 5, cells := 0, slots := 0, locals := 109 })
theorem wm_X6_burnHours : WMV mX6_burnHours := ⟨⟨kw_82, kw_632, by decide +kernel, by decide +kernel⟩, kw_631, kw_18⟩
abbrev mX6_carryOut : MD := (RX6, yX6_carryOut, cX6_carryOut, 6, (some FieldType.boolean), { frames := 6, cells := 0, slots := 0, locals := 131 })
theorem wm_X6_carryOut : WMV mX6_carryOut := ⟨⟨kw_82, kw_555, by decide +kernel, by decide +kernel⟩, kw_554, kw_12⟩
abbrev mX6_faultOfCommand : MD := (RX6, yX6_faultOfCommand, cX6_faultOfCommand, 6, (some FieldType.int), { frames := 3, cells := 0, slots := 0, locals := 64 })
theorem wm_X6_faultOfCommand : WMV mX6_faultOfCommand := ⟨⟨kw_82, kw_563, by decide +kernel, by decide +kernel⟩, kw_562, kw_13⟩
abbrev mX6_faultOfWall : MD := (RX6, yX6_faultOfWall, cX6_faultOfWall, 2, (some FieldType.int), { frames := 1, cells := 0, slots := 0, locals := 22 })
theorem wm_X6_faultOfWall : WMS mX6_faultOfWall := ⟨⟨kw_82, kw_566, by decide +kernel, by decide +kernel⟩, kw_565⟩
abbrev mX6_faultOfPainting : MD := (RX6, yX6_faultOfPainting, cX6_faultOfPainting, 6, (some FieldType.int), { frames := 1, cells := 0, slots := 0, locals := 22 })
theorem wm_X6_faultOfPainting : WMV mX6_faultOfPainting := ⟨⟨kw_82, kw_571, by decide +kernel, by decide +kernel⟩, kw_570, kw_14⟩
abbrev mX6_faultOfNewLamp : MD := (RX6, yX6_faultOfNewLamp, cX6_faultOfNewLamp, 3, (some FieldType.int), { frames := 1, cells := 0, slots := 0, locals := 22 })
theorem wm_X6_faultOfNewLamp : WMV mX6_faultOfNewLamp := ⟨⟨kw_82, kw_579, by decide +kernel, by decide +kernel⟩, kw_578, kw_15⟩
abbrev mX6_faultOfCorner : MD := (RX6, yX6_faultOfCorner, cX6_faultOfCorner, 6, (some FieldType.int), { frames := 1, cells := 0, slots := 0, locals := 22 })
theorem wm_X6_faultOfCorner : WMV mX6_faultOfCorner := ⟨⟨kw_82, kw_583, by decide +kernel, by decide +kernel⟩, kw_582, kw_16⟩
abbrev mX6_faultOfRectangle : MD := (RX6, yX6_faultOfRectangle, cX6_faultOfRectangle, 8, (some FieldType.int), { frames := 1, cells := 0, slots := 0, locals := 22 })
theorem wm_X6_faultOfRectangle : WMV mX6_faultOfRectangle := ⟨⟨kw_82, kw_926, by decide +kernel, by decide +kernel⟩, kw_925, kw_26⟩
abbrev mX6_faultOfLampValue : MD := (RX6, yX6_faultOfLampValue, cX6_faultOfLampValue, 4, (some FieldType.int), { frames := 1, cells := 0, slots := 0, locals := 22 })
theorem wm_X6_faultOfLampValue : WMV mX6_faultOfLampValue := ⟨⟨kw_82, kw_937, by decide +kernel, by decide +kernel⟩, kw_936, kw_27⟩
abbrev mX6_faultOfLamp : MD := (RX6, yX6_faultOfLamp, cX6_faultOfLamp, 2, (some FieldType.int), { frames := 1, cells := 0, slots := 0, locals := 21 })
theorem wm_X6_faultOfLamp : WMV mX6_faultOfLamp := ⟨⟨kw_82, kw_594, by decide +kernel, by decide +kernel⟩, kw_593, kw_17⟩
abbrev mX6_faultOfPlace : MD := (RX6, yX6_faultOfPlace, cX6_faultOfPlace, 3, (some FieldType.int), { frames := 1, cells := 0, slots := 0, locals := 22 })
theorem wm_X6_faultOfPlace : WMV mX6_faultOfPlace := ⟨⟨kw_82, kw_983, by decide +kernel, by decide +kernel⟩, kw_982, kw_28⟩
abbrev mX6_faultOfShift : MD := (RX6, yX6_faultOfShift, cX6_faultOfShift, 3, (some FieldType.int), { frames := 1, cells := 0, slots := 0, locals := 22 })
theorem wm_X6_faultOfShift : WMS mX6_faultOfShift := ⟨⟨kw_82, kw_590, by decide +kernel, by decide +kernel⟩, kw_589⟩
abbrev mX6_faultOfHours : MD := (RX6, yX6_faultOfHours, cX6_faultOfHours, 1, (some FieldType.int), { frames := 2, cells := 0, slots := 0, locals := 44 })
theorem wm_X6_faultOfHours : WMS mX6_faultOfHours := ⟨⟨kw_82, kw_597, by decide +kernel, by decide +kernel⟩, kw_596⟩
abbrev mX6_faultOfRange : MD := (RX6, yX6_faultOfRange, cX6_faultOfRange, 3, (some FieldType.int), { frames := 1, cells := 0, slots := 0, locals := 22 })
theorem wm_X6_faultOfRange : WMS mX6_faultOfRange := ⟨⟨kw_82, kw_600, by decide +kernel, by decide +kernel⟩, kw_599⟩
abbrev mX6_refuseIndex : MD := (RX6, yX6_refuseIndex, cX6_refuseIndex, 1, none, { frames := 0, cells := 0, slots := 0, locals := 0 })
abbrev tX6_refuseIndex : MD := (RX6, yX6_refuseIndex, cX6_refuseIndex, 1, none, { frames := 6, cells := 1, slots := 6, locals := 90 })
theorem wm_X6_refuseIndex : WMS mX6_refuseIndex := ⟨⟨kw_82, kw_865, by decide +kernel, by decide +kernel⟩, kw_864⟩
theorem wt_X6_refuseIndex : WMS tX6_refuseIndex := ⟨⟨kw_82, kw_865, by decide +kernel, by decide +kernel⟩, kw_864⟩
abbrev mX6_refuseArgument : MD := (RX6, yX6_refuseArgument, cX6_refuseArgument, 1, none, { frames := 0, cells := 0, slots := 0, locals := 0 })
abbrev tX6_refuseArgument : MD := (RX6, yX6_refuseArgument, cX6_refuseArgument, 1, none, { frames := 6, cells := 1, slots := 6, locals := 90 })
theorem wm_X6_refuseArgument : WMS mX6_refuseArgument := ⟨⟨kw_82, kw_787, by decide +kernel, by decide +kernel⟩, kw_786⟩
theorem wt_X6_refuseArgument : WMS tX6_refuseArgument := ⟨⟨kw_82, kw_787, by decide +kernel, by decide +kernel⟩, kw_786⟩
abbrev mX6_refuseState : MD := (RX6, yX6_refuseState, cX6_refuseState, 1, none, { frames := 0, cells := 0, slots := 0, locals := 0 })
abbrev tX6_refuseState : MD := (RX6, yX6_refuseState, cX6_refuseState, 1, none, { frames := 6, cells := 1, slots := 6, locals := 90 })
theorem wm_X6_refuseState : WMS mX6_refuseState := ⟨⟨kw_82, kw_892, by decide +kernel, by decide +kernel⟩, kw_891⟩
theorem wt_X6_refuseState : WMS tX6_refuseState := ⟨⟨kw_82, kw_892, by decide +kernel, by decide +kernel⟩, kw_891⟩
abbrev mX6_within : MD := (RX6, yX6_within, cX6_within, 3, (some FieldType.boolean), { frames := 0, cells := 0, slots := 0, locals := 0 })
theorem wm_X6_within : WMS mX6_within := ⟨⟨kw_82, kw_453, by decide +kernel, by decide +kernel⟩, kw_452⟩
abbrev mX6_cross : MD := (RX6, yX6_cross, cX6_cross, 4, (some FieldType.int), { frames := 0, cells := 0, slots := 0, locals := 0 })
theorem wm_X6_cross : WMS mX6_cross := ⟨⟨kw_82, kw_343, by decide +kernel, by decide +kernel⟩, kw_342⟩
abbrev mX6_pointOf : MD := (RX6, yX6_pointOf, cX6_pointOf, 2, (some FieldType.int), { frames := 0, cells := 0, slots := 0, locals := 0 })
theorem wm_X6_pointOf : WMS mX6_pointOf := ⟨⟨kw_82, kw_378, by decide +kernel, by decide +kernel⟩, kw_377⟩
abbrev mX6_isIn : MD := (RX6, yX6_isIn, cX6_isIn, 2, (some FieldType.boolean), { frames := 0, cells := 0, slots := 0, locals := 0 })
theorem wm_X6_isIn : WMS mX6_isIn := ⟨⟨kw_82, kw_385, by decide +kernel, by decide +kernel⟩, kw_384⟩
abbrev mX7_thrown : MD := (RX7, yX7_thrown, cX7_thrown, 1, (some FieldType.int), { frames := 0, cells := 0, slots := 0, locals := 0 })
theorem wm_X7_thrown : WMV mX7_thrown := ⟨⟨kw_89, kw_1160, by decide +kernel, by decide +kernel⟩, kw_1158, kw_1159⟩
abbrev mX7_in : MD := (RX7, yX7_in, cX7_in, 3, (some FieldType.boolean), { frames := 0, cells := 0, slots := 0, locals := 0 })
theorem wm_X7_in : WMS mX7_in := ⟨⟨kw_89, kw_1187, by decide +kernel, by decide +kernel⟩, kw_1186⟩
abbrev mX7_size : MD := (RX7, yX7_size, cX7_size, 1, (some FieldType.int), { frames := 0, cells := 0, slots := 0, locals := 0 })
theorem wm_X7_size : WMS mX7_size := ⟨⟨kw_89, kw_1277, by decide +kernel, by decide +kernel⟩, kw_1276⟩
abbrev mX7_lesser : MD := (RX7, yX7_lesser, cX7_lesser, 2, (some FieldType.int), { frames := 0, cells := 0, slots := 0, locals := 0 })
theorem wm_X7_lesser : WMS mX7_lesser := ⟨⟨kw_89, kw_1296, by decide +kernel, by decide +kernel⟩, kw_1295⟩
abbrev mX7_fails : MD := (RX7, yX7_fails, cX7_fails, 2, (some FieldType.int), { frames := 0, cells := 0, slots := 0, locals := 0 })
theorem wm_X7_fails : WMV mX7_fails := ⟨⟨kw_89, kw_1168, by decide +kernel, by decide +kernel⟩, kw_1167, kw_29⟩
abbrev mX7_tells : MD := (RX7, yX7_tells, cX7_tells, 2, (some FieldType.int), { frames := 0, cells := 0, slots := 0, locals := 0 })
theorem wm_X7_tells : WMV mX7_tells := ⟨⟨kw_89, kw_1172, by decide +kernel, by decide +kernel⟩, kw_1171, kw_30⟩
abbrev mX7_of : MD := (RX7, yX7_of, cX7_of, 3, (some FieldType.int), { frames := 0, cells := 0, slots := 0, locals := 0 })
theorem wm_X7_of : WMV mX7_of := ⟨⟨kw_89, kw_1250, by decide +kernel, by decide +kernel⟩, kw_1249, kw_44⟩
abbrev mX7_put : MD := (RX7, yX7_put, cX7_put, 4, none, { frames := 0, cells := 0, slots := 0, locals := 0 })
theorem wm_X7_put : WMV mX7_put := ⟨⟨kw_89, kw_1223, by decide +kernel, by decide +kernel⟩, kw_1222, kw_39⟩
abbrev mX7_isLamp : MD := (RX7, yX7_isLamp, cX7_isLamp, 2, (some FieldType.boolean), { frames := 1, cells := 0, slots := 0, locals := 22 })
theorem wm_X7_isLamp : WMV mX7_isLamp := ⟨⟨kw_89, kw_1235, by decide +kernel, by decide +kernel⟩, kw_1234, kw_41⟩
abbrev mX7_isPlace : MD := (RX7, yX7_isPlace, cX7_isPlace, 3, (some FieldType.boolean), { frames := 1, cells := 0, slots := 0, locals := 22 })
theorem wm_X7_isPlace : WMV mX7_isPlace := ⟨⟨kw_89, kw_1207, by decide +kernel, by decide +kernel⟩, kw_1206, kw_36⟩
abbrev mX7_target : MD := (RX7, yX7_target, cX7_target, 3, (some FieldType.int), { frames := 0, cells := 0, slots := 0, locals := 0 })
theorem wm_X7_target : WMV mX7_target := ⟨⟨kw_89, kw_1211, by decide +kernel, by decide +kernel⟩, kw_1210, kw_37⟩
abbrev mX7_laysAside : MD := (RX7, yX7_laysAside, cX7_laysAside, 2, none, { frames := 0, cells := 0, slots := 0, locals := 0 })
theorem wm_X7_laysAside : WMV mX7_laysAside := ⟨⟨kw_89, kw_1180, by decide +kernel, by decide +kernel⟩, kw_1179, kw_31⟩
abbrev mX7_bringsBack : MD := (RX7, yX7_bringsBack, cX7_bringsBack, 2, none, { frames := 0, cells := 0, slots := 0, locals := 0 })
theorem wm_X7_bringsBack : WMV mX7_bringsBack := ⟨⟨kw_89, kw_1423, by decide +kernel, by decide +kernel⟩, kw_1422, kw_70⟩
abbrev mX7_saves : MD := (RX7, yX7_saves, cX7_saves, 2, none, { frames := 0, cells := 0, slots := 0, locals := 0 })
theorem wm_X7_saves : WMV mX7_saves := ⟨⟨kw_89, kw_1195, by decide +kernel, by decide +kernel⟩, kw_1194, kw_34⟩
abbrev mX7_ends : MD := (RX7, yX7_ends, cX7_ends, 2, (some FieldType.int), { frames := 1, cells := 0, slots := 0, locals := 21 })
theorem wm_X7_ends : WMV mX7_ends := ⟨⟨kw_89, kw_1191, by decide +kernel, by decide +kernel⟩, kw_1190, kw_33⟩
abbrev mX7_undo : MD := (RX7, yX7_undo, cX7_undo, 2, (some FieldType.int), { frames := 1, cells := 0, slots := 0, locals := 21 })
theorem wm_X7_undo : WMV mX7_undo := ⟨⟨kw_89, kw_1164, by decide +kernel, by decide +kernel⟩, kw_1162, kw_1163⟩
abbrev mX7_limit : MD := (RX7, yX7_limit, cX7_limit, 2, (some FieldType.int), { frames := 1, cells := 0, slots := 0, locals := 22 })
theorem wm_X7_limit : WMV mX7_limit := ⟨⟨kw_89, kw_1289, by decide +kernel, by decide +kernel⟩, kw_1288, kw_52⟩
abbrev mX7_floor : MD := (RX7, yX7_floor, cX7_floor, 2, (some FieldType.int), { frames := 2, cells := 0, slots := 0, locals := 43 })
theorem wm_X7_floor : WMV mX7_floor := ⟨⟨kw_89, kw_1293, by decide +kernel, by decide +kernel⟩, kw_1292, kw_53⟩
abbrev mX7_pointX : MD := (RX7, yX7_pointX, cX7_pointX, 3, (some FieldType.int), { frames := 1, cells := 0, slots := 0, locals := 22 })
theorem wm_X7_pointX : WMV mX7_pointX := ⟨⟨kw_89, kw_1246, by decide +kernel, by decide +kernel⟩, kw_1245, kw_43⟩
abbrev mX7_pointY : MD := (RX7, yX7_pointY, cX7_pointY, 3, (some FieldType.int), { frames := 1, cells := 0, slots := 0, locals := 22 })
theorem wm_X7_pointY : WMV mX7_pointY := ⟨⟨kw_89, kw_1254, by decide +kernel, by decide +kernel⟩, kw_1253, kw_45⟩
abbrev mX7_isGood : MD := (RX7, yX7_isGood, cX7_isGood, 8, (some FieldType.boolean), { frames := 2, cells := 0, slots := 0, locals := 44 })
theorem wm_X7_isGood : WMV mX7_isGood := ⟨⟨kw_89, kw_1242, by decide +kernel, by decide +kernel⟩, kw_1241, kw_42⟩
abbrev mX7_weightAt : MD := (RX7, yX7_weightAt, cX7_weightAt, 11, (some FieldType.int), { frames := 2, cells := 0, slots := 0, locals := 44 })
theorem wm_X7_weightAt : WMV mX7_weightAt := ⟨⟨kw_89, kw_1274, by decide +kernel, by decide +kernel⟩, kw_1273, kw_49⟩
abbrev mX7_weighs : MD := (RX7, yX7_weighs, cX7_weighs, 7, none, { frames := 3, cells := 0, slots := 0, locals := 74 })
theorem wm_X7_weighs : WMV mX7_weighs := ⟨⟨kw_89, kw_1270, by decide +kernel, by decide +kernel⟩, kw_1269, kw_48⟩
abbrev mX7_isOn : MD := (RX7, yX7_isOn, cX7_isOn, 2, (some FieldType.boolean), { frames := 0, cells := 0, slots := 0, locals := 0 })
theorem wm_X7_isOn : WMV mX7_isOn := ⟨⟨kw_89, kw_1285, by decide +kernel, by decide +kernel⟩, kw_1284, kw_51⟩
abbrev mX7_shares : MD := (RX7, yX7_shares, cX7_shares, 6, none, { frames := 1, cells := 0, slots := 0, locals := 21 })
theorem wm_X7_shares : WMV mX7_shares := ⟨⟨kw_89, kw_1281, by decide +kernel, by decide +kernel⟩, kw_1280, kw_50⟩
abbrev mX7_sumOfLights : MD := (RX7, yX7_sumOfLights, cX7_sumOfLights, 3, (some FieldType.int), { frames := 0, cells := 0, slots := 0, locals := 0 })
theorem wm_X7_sumOfLights : WMV mX7_sumOfLights := ⟨⟨kw_89, kw_1300, by decide +kernel, by decide +kernel⟩, kw_1299, kw_54⟩
abbrev mX7_shines : MD := (RX7, yX7_shines, cX7_shines, 7, none, { frames := 4, cells := 0, slots := 0, locals := 100 })
theorem wm_X7_shines : WMV mX7_shines := ⟨⟨kw_89, kw_1266, by decide +kernel, by decide +kernel⟩, kw_1265, kw_47⟩
abbrev mX7_state : MD := (RX7, yX7_state, cX7_state, 4, (some FieldType.int), { frames := 1, cells := 0, slots := 0, locals := 22 })
theorem wm_X7_state : WMV mX7_state := ⟨⟨kw_89, kw_1331, by decide +kernel, by decide +kernel⟩, kw_1330, kw_58⟩
abbrev mX7_wrongOnes : MD := (RX7, yX7_wrongOnes, cX7_wrongOnes, 4, (some FieldType.int), { frames := 5, cells := 0, slots := 0, locals := 126 })
theorem wm_X7_wrongOnes : WMV mX7_wrongOnes := ⟨⟨kw_89, kw_1327, by decide +kernel, by decide +kernel⟩, kw_1326, kw_57⟩
abbrev mX7_bits : MD := (RX7, yX7_bits, cX7_bits, 3, (some FieldType.int), { frames := 0, cells := 0, slots := 0, locals := 0 })
theorem wm_X7_bits : WMS mX7_bits := ⟨⟨kw_89, kw_1303, by decide +kernel, by decide +kernel⟩, kw_1302⟩
abbrev mX7_sums : MD := (RX7, yX7_sums, cX7_sums, 5, none, { frames := 5, cells := 0, slots := 0, locals := 126 })
theorem wm_X7_sums : WMV mX7_sums := ⟨⟨kw_89, kw_1262, by decide +kernel, by decide +kernel⟩, kw_1261, kw_46⟩
abbrev mX7_load : MD := (RX7, yX7_load, cX7_load, 3, (some FieldType.int), { frames := 6, cells := 0, slots := 0, locals := 150 })
theorem wm_X7_load : WMV mX7_load := ⟨⟨kw_89, kw_1343, by decide +kernel, by decide +kernel⟩, kw_1342, kw_60⟩
abbrev mX7_begins : MD := (RX7, yX7_begins, cX7_begins, 4, (some FieldType.int), { frames := 1, cells := 0, slots := 0, locals := 22 })
theorem wm_X7_begins : WMV mX7_begins := ⟨⟨kw_89, kw_1184, by decide +kernel, by decide +kernel⟩, kw_1183, kw_32⟩
abbrev mX7_paints : MD := (RX7, yX7_paints, cX7_paints, 8, (some FieldType.int), { frames := 2, cells := 0, slots := 0, locals := 44 })
theorem wm_X7_paints : WMV mX7_paints := ⟨⟨kw_89, kw_1203, by decide +kernel, by decide +kernel⟩, kw_1202, kw_35⟩
abbrev mX7_adds : MD := (RX7, yX7_adds, cX7_adds, 4, (some FieldType.int), { frames := 1, cells := 0, slots := 0, locals := 23 })
theorem wm_X7_adds : WMV mX7_adds := ⟨⟨kw_89, kw_1219, by decide +kernel, by decide +kernel⟩, kw_1218, kw_38⟩
abbrev mX7_isCorner : MD := (RX7, yX7_isCorner, cX7_isCorner, 1, (some FieldType.boolean), { frames := 1, cells := 0, slots := 0, locals := 22 })
theorem wm_X7_isCorner : WMS mX7_isCorner := ⟨⟨kw_89, kw_1238, by decide +kernel, by decide +kernel⟩, kw_1237⟩
abbrev mX7_corners : MD := (RX7, yX7_corners, cX7_corners, 5, (some FieldType.int), { frames := 3, cells := 0, slots := 0, locals := 71 })
theorem wm_X7_corners : WMV mX7_corners := ⟨⟨kw_89, kw_1231, by decide +kernel, by decide +kernel⟩, kw_1230, kw_40⟩
abbrev mX7_shifts : MD := (RX7, yX7_shifts, cX7_shifts, 3, (some FieldType.int), { frames := 6, cells := 0, slots := 0, locals := 149 })
theorem wm_X7_shifts : WMV mX7_shifts := ⟨⟨kw_89, kw_1323, by decide +kernel, by decide +kernel⟩, kw_1322, kw_56⟩
abbrev mX7_works : MD := (RX7, yX7_works, cX7_works, 3, (some FieldType.int), { frames := 2, cells := 0, slots := 0, locals := 43 })
theorem wm_X7_works : WMV mX7_works := ⟨⟨kw_89, kw_1315, by decide +kernel, by decide +kernel⟩, kw_1314, kw_55⟩
abbrev mX7_burns : MD := (RX7, yX7_burns, cX7_burns, 3, (some FieldType.int), { frames := 7, cells := 0, slots := 0, locals := 172 })
theorem wm_X7_burns : WMV mX7_burns := ⟨⟨kw_89, kw_1339, by decide +kernel, by decide +kernel⟩, kw_1338, kw_59⟩
abbrev mX7_begin : MD := (RX7, yX7_begin, cX7_begin, 3, (some FieldType.int), { frames := 2, cells := 0, slots := 0, locals := 45 })
theorem wm_X7_begin : WMV mX7_begin := ⟨⟨kw_89, kw_1176, by decide +kernel, by decide +kernel⟩, kw_1174, kw_1175⟩
abbrev mX7_paint : MD := (RX7, yX7_paint, cX7_paint, 6, (some FieldType.int), { frames := 3, cells := 0, slots := 0, locals := 71 })
theorem wm_X7_paint : WMV mX7_paint := ⟨⟨kw_89, kw_1199, by decide +kernel, by decide +kernel⟩, kw_1197, kw_1198⟩
abbrev mX7_addLamp : MD := (RX7, yX7_addLamp, cX7_addLamp, 3, (some FieldType.int), { frames := 2, cells := 0, slots := 0, locals := 46 })
theorem wm_X7_addLamp : WMV mX7_addLamp := ⟨⟨kw_89, kw_1215, by decide +kernel, by decide +kernel⟩, kw_1213, kw_1214⟩
abbrev mX7_setCorner : MD := (RX7, yX7_setCorner, cX7_setCorner, 5, (some FieldType.int), { frames := 4, cells := 0, slots := 0, locals := 95 })
theorem wm_X7_setCorner : WMV mX7_setCorner := ⟨⟨kw_89, kw_1227, by decide +kernel, by decide +kernel⟩, kw_1225, kw_1226⟩
abbrev mX7_setRectangle : MD := (RX7, yX7_setRectangle, cX7_setRectangle, 7, (some FieldType.int), { frames := 6, cells := 0, slots := 0, locals := 150 })
theorem wm_X7_setRectangle : WMV mX7_setRectangle := ⟨⟨kw_89, kw_1258, by decide +kernel, by decide +kernel⟩, kw_1256, kw_1257⟩
abbrev mX7_setLamp : MD := (RX7, yX7_setLamp, cX7_setLamp, 4, (some FieldType.int), { frames := 2, cells := 0, slots := 0, locals := 43 })
theorem wm_X7_setLamp : WMV mX7_setLamp := ⟨⟨kw_89, kw_1307, by decide +kernel, by decide +kernel⟩, kw_1305, kw_1306⟩
abbrev mX7_setWorks : MD := (RX7, yX7_setWorks, cX7_setWorks, 3, (some FieldType.int), { frames := 3, cells := 0, slots := 0, locals := 65 })
theorem wm_X7_setWorks : WMV mX7_setWorks := ⟨⟨kw_89, kw_1311, by decide +kernel, by decide +kernel⟩, kw_1309, kw_1310⟩
abbrev mX7_shift : MD := (RX7, yX7_shift, cX7_shift, 3, (some FieldType.int), { frames := 7, cells := 0, slots := 0, locals := 171 })
theorem wm_X7_shift : WMV mX7_shift := ⟨⟨kw_89, kw_1319, by decide +kernel, by decide +kernel⟩, kw_1317, kw_1318⟩
abbrev mX7_burn : MD := (RX7, yX7_burn, cX7_burn, 2, (some FieldType.int), { frames := 8, cells := 0, slots := 0, locals := 194 })
theorem wm_X7_burn : WMV mX7_burn := ⟨⟨kw_89, kw_1335, by decide +kernel, by decide +kernel⟩, kw_1333, kw_1334⟩
abbrev mX7_limits : MD := (RX7, yX7_limits, cX7_limits, 4, (some FieldType.int), { frames := 3, cells := 0, slots := 0, locals := 64 })
theorem wm_X7_limits : WMV mX7_limits := ⟨⟨kw_89, kw_1355, by decide +kernel, by decide +kernel⟩, kw_1354, kw_62⟩
abbrev mX7_placeOf : MD := (RX7, yX7_placeOf, cX7_placeOf, 4, (some FieldType.int), { frames := 5, cells := 0, slots := 0, locals := 126 })
theorem wm_X7_placeOf : WMV mX7_placeOf := ⟨⟨kw_89, kw_1351, by decide +kernel, by decide +kernel⟩, kw_1350, kw_61⟩
abbrev mX7_place : MD := (RX7, yX7_place, cX7_place, 4, (some FieldType.int), { frames := 6, cells := 0, slots := 0, locals := 149 })
theorem wm_X7_place : WMV mX7_place := ⟨⟨kw_89, kw_1347, by decide +kernel, by decide +kernel⟩, kw_1345, kw_1346⟩
abbrev mX7_lightOf : MD := (RX7, yX7_lightOf, cX7_lightOf, 4, (some FieldType.int), { frames := 5, cells := 0, slots := 0, locals := 126 })
theorem wm_X7_lightOf : WMV mX7_lightOf := ⟨⟨kw_89, kw_1363, by decide +kernel, by decide +kernel⟩, kw_1362, kw_63⟩
abbrev mX7_light : MD := (RX7, yX7_light, cX7_light, 4, (some FieldType.int), { frames := 6, cells := 0, slots := 0, locals := 149 })
theorem wm_X7_light : WMV mX7_light := ⟨⟨kw_89, kw_1359, by decide +kernel, by decide +kernel⟩, kw_1357, kw_1358⟩
abbrev mX7_weight : MD := (RX7, yX7_weight, cX7_weight, 4, (some FieldType.int), { frames := 4, cells := 0, slots := 0, locals := 100 })
theorem wm_X7_weight : WMV mX7_weight := ⟨⟨kw_89, kw_1367, by decide +kernel, by decide +kernel⟩, kw_1365, kw_1366⟩
abbrev mX7_lampOf : MD := (RX7, yX7_lampOf, cX7_lampOf, 4, (some FieldType.int), { frames := 7, cells := 0, slots := 0, locals := 172 })
theorem wm_X7_lampOf : WMV mX7_lampOf := ⟨⟨kw_89, kw_1375, by decide +kernel, by decide +kernel⟩, kw_1374, kw_64⟩
abbrev mX7_lamp : MD := (RX7, yX7_lamp, cX7_lamp, 3, (some FieldType.int), { frames := 8, cells := 0, slots := 0, locals := 195 })
theorem wm_X7_lamp : WMV mX7_lamp := ⟨⟨kw_89, kw_1371, by decide +kernel, by decide +kernel⟩, kw_1369, kw_1370⟩
abbrev mX7_corner : MD := (RX7, yX7_corner, cX7_corner, 4, (some FieldType.int), { frames := 2, cells := 0, slots := 0, locals := 43 })
theorem wm_X7_corner : WMV mX7_corner := ⟨⟨kw_89, kw_1379, by decide +kernel, by decide +kernel⟩, kw_1377, kw_1378⟩
abbrev mX7_working : MD := (RX7, yX7_working, cX7_working, 3, (some FieldType.int), { frames := 1, cells := 0, slots := 0, locals := 22 })
theorem wm_X7_working : WMV mX7_working := ⟨⟨kw_89, kw_1391, by decide +kernel, by decide +kernel⟩, kw_1390, kw_66⟩
abbrev mX7_overPlaces : MD := (RX7, yX7_overPlaces, cX7_overPlaces, 6, (some FieldType.int), { frames := 5, cells := 0, slots := 0, locals := 126 })
theorem wm_X7_overPlaces : WMV mX7_overPlaces := ⟨⟨kw_89, kw_1395, by decide +kernel, by decide +kernel⟩, kw_1394, kw_67⟩
abbrev mX7_wholeOf : MD := (RX7, yX7_wholeOf, cX7_wholeOf, 2, (some FieldType.int), { frames := 6, cells := 0, slots := 0, locals := 151 })
theorem wm_X7_wholeOf : WMV mX7_wholeOf := ⟨⟨kw_89, kw_1387, by decide +kernel, by decide +kernel⟩, kw_1386, kw_65⟩
abbrev mX7_whole : MD := (RX7, yX7_whole, cX7_whole, 2, (some FieldType.int), { frames := 7, cells := 0, slots := 0, locals := 172 })
theorem wm_X7_whole : WMV mX7_whole := ⟨⟨kw_89, kw_1383, by decide +kernel, by decide +kernel⟩, kw_1381, kw_1382⟩
abbrev mX7_wrong : MD := (RX7, yX7_wrong, cX7_wrong, 5, (some FieldType.int), { frames := 5, cells := 0, slots := 0, locals := 126 })
theorem wm_X7_wrong : WMV mX7_wrong := ⟨⟨kw_89, kw_1399, by decide +kernel, by decide +kernel⟩, kw_1397, kw_1398⟩
abbrev mX7_wrongBut : MD := (RX7, yX7_wrongBut, cX7_wrongBut, 3, (some FieldType.int), { frames := 6, cells := 0, slots := 0, locals := 149 })
theorem wm_X7_wrongBut : WMV mX7_wrongBut := ⟨⟨kw_89, kw_1407, by decide +kernel, by decide +kernel⟩, kw_1406, kw_68⟩
abbrev mX7_wrongWithout : MD := (RX7, yX7_wrongWithout, cX7_wrongWithout, 2, (some FieldType.int), { frames := 7, cells := 0, slots := 0, locals := 171 })
theorem wm_X7_wrongWithout : WMV mX7_wrongWithout := ⟨⟨kw_89, kw_1403, by decide +kernel, by decide +kernel⟩, kw_1401, kw_1402⟩
abbrev mX7_dearestLamp : MD := (RX7, yX7_dearestLamp, cX7_dearestLamp, 5, (some FieldType.int), { frames := 7, cells := 0, slots := 0, locals := 171 })
theorem wm_X7_dearestLamp : WMV mX7_dearestLamp := ⟨⟨kw_89, kw_1411, by decide +kernel, by decide +kernel⟩, kw_1409, kw_1410⟩
abbrev mX7_wrongBy : MD := (RX7, yX7_wrongBy, cX7_wrongBy, 4, (some FieldType.int), { frames := 6, cells := 0, slots := 0, locals := 149 })
theorem wm_X7_wrongBy : WMV mX7_wrongBy := ⟨⟨kw_89, kw_1419, by decide +kernel, by decide +kernel⟩, kw_1418, kw_69⟩
abbrev mX7_wrongShifted : MD := (RX7, yX7_wrongShifted, cX7_wrongShifted, 3, (some FieldType.int), { frames := 7, cells := 0, slots := 0, locals := 172 })
theorem wm_X7_wrongShifted : WMV mX7_wrongShifted := ⟨⟨kw_89, kw_1415, by decide +kernel, by decide +kernel⟩, kw_1413, kw_1414⟩
abbrev mX7_bestShift : MD := (RX7, yX7_bestShift, cX7_bestShift, 7, (some FieldType.int), { frames := 7, cells := 0, slots := 0, locals := 172 })
theorem wm_X7_bestShift : WMV mX7_bestShift := ⟨⟨kw_89, kw_1427, by decide +kernel, by decide +kernel⟩, kw_1425, kw_1426⟩
abbrev mX7_neededLimit : MD := (RX7, yX7_neededLimit, cX7_neededLimit, 2, (some FieldType.int), { frames := 6, cells := 0, slots := 0, locals := 150 })
theorem wm_X7_neededLimit : WMV mX7_neededLimit := ⟨⟨kw_89, kw_1431, by decide +kernel, by decide +kernel⟩, kw_1429, kw_1430⟩
abbrev mX7_type : MD := (RX7, yX7_type, cX7_type, 2, (some FieldType.int), { frames := 1, cells := 0, slots := 0, locals := 22 })
theorem wm_X7_type : WMV mX7_type := ⟨⟨kw_89, kw_1435, by decide +kernel, by decide +kernel⟩, kw_1433, kw_1434⟩
abbrev mX7_clearCommands : MD := (RX7, yX7_clearCommands, cX7_clearCommands, 2, (some FieldType.int), { frames := 1, cells := 0, slots := 0, locals := 21 })
theorem wm_X7_clearCommands : WMV mX7_clearCommands := ⟨⟨kw_89, kw_1439, by decide +kernel, by decide +kernel⟩, kw_1437, kw_1438⟩
abbrev mX7_here : MD := (RX7, yX7_here, cX7_here, 1, (some FieldType.int), { frames := 0, cells := 0, slots := 0, locals := 0 })
theorem wm_X7_here : WMV mX7_here := ⟨⟨kw_89, kw_1455, by decide +kernel, by decide +kernel⟩, kw_1454, kw_73⟩
abbrev mX7_skips : MD := (RX7, yX7_skips, cX7_skips, 2, (some FieldType.boolean), { frames := 1, cells := 0, slots := 0, locals := 20 })
theorem wm_X7_skips : WMV mX7_skips := ⟨⟨kw_89, kw_1451, by decide +kernel, by decide +kernel⟩, kw_1450, kw_72⟩
abbrev mX7_isWord : MD := (RX7, yX7_isWord, cX7_isWord, 7, (some FieldType.boolean), { frames := 0, cells := 0, slots := 0, locals := 0 })
theorem wm_X7_isWord : WMV mX7_isWord := ⟨⟨kw_89, kw_1467, by decide +kernel, by decide +kernel⟩, kw_1466, kw_76⟩
abbrev mX7_wordFrom : MD := (RX7, yX7_wordFrom, cX7_wordFrom, 3, (some FieldType.int), { frames := 1, cells := 0, slots := 0, locals := 26 })
theorem wm_X7_wordFrom : WMV mX7_wordFrom := ⟨⟨kw_89, kw_1463, by decide +kernel, by decide +kernel⟩, kw_1462, kw_75⟩
abbrev mX7_numbersOf : MD := (RX7, yX7_numbersOf, cX7_numbersOf, 1, (some FieldType.int), { frames := 0, cells := 0, slots := 0, locals := 0 })
theorem wm_X7_numbersOf : WMS mX7_numbersOf := ⟨⟨kw_89, kw_1470, by decide +kernel, by decide +kernel⟩, kw_1469⟩
abbrev mX7_isNumber : MD := (RX7, yX7_isNumber, cX7_isNumber, 5, (some FieldType.boolean), { frames := 2, cells := 0, slots := 0, locals := 41 })
theorem wm_X7_isNumber : WMV mX7_isNumber := ⟨⟨kw_89, kw_1474, by decide +kernel, by decide +kernel⟩, kw_1473, kw_77⟩
abbrev mX7_isCommand : MD := (RX7, yX7_isCommand, cX7_isCommand, 3, (some FieldType.boolean), { frames := 3, cells := 0, slots := 0, locals := 65 })
theorem wm_X7_isCommand : WMV mX7_isCommand := ⟨⟨kw_89, kw_1459, by decide +kernel, by decide +kernel⟩, kw_1458, kw_74⟩
abbrev mX7_faultOfText : MD := (RX7, yX7_faultOfText, cX7_faultOfText, 2, (some FieldType.int), { frames := 4, cells := 0, slots := 0, locals := 87 })
theorem wm_X7_faultOfText : WMV mX7_faultOfText := ⟨⟨kw_89, kw_1447, by decide +kernel, by decide +kernel⟩, kw_1446, kw_71⟩
abbrev mX7_does : MD := (RX7, yX7_does, cX7_does, 1, (some FieldType.int), { frames := 8, cells := 0, slots := 0, locals := 194 })
theorem wm_X7_does : WMV mX7_does := ⟨⟨kw_89, kw_1478, by decide +kernel, by decide +kernel⟩, kw_1477, kw_78⟩
abbrev mX7_runCommands : MD := (RX7, yX7_runCommands, cX7_runCommands, 5, (some FieldType.int), { frames := 9, cells := 0, slots := 0, locals := 214 })
theorem wm_X7_runCommands : WMV mX7_runCommands := ⟨⟨kw_89, kw_1443, by decide +kernel, by decide +kernel⟩, kw_1441, kw_1442⟩
abbrev mX7_mix : MD := (RX7, yX7_mix, cX7_mix, 2, none, { frames := 0, cells := 0, slots := 0, locals := 0 })
theorem wm_X7_mix : WMV mX7_mix := ⟨⟨kw_89, kw_1487, by decide +kernel, by decide +kernel⟩, kw_1486, kw_79⟩
abbrev mX7_mixPlace : MD := (RX7, yX7_mixPlace, cX7_mixPlace, 4, none, { frames := 6, cells := 0, slots := 0, locals := 149 })
theorem wm_X7_mixPlace : WMV mX7_mixPlace := ⟨⟨kw_89, kw_1492, by decide +kernel, by decide +kernel⟩, kw_1491, kw_80⟩
abbrev mX7_digest : MD := (RX7, yX7_digest, cX7_digest, 3, (some FieldType.long), { frames := 8, cells := 0, slots := 0, locals := 195 })
theorem wm_X7_digest : WMV mX7_digest := ⟨⟨kw_89, kw_1482, by decide +kernel, by decide +kernel⟩, kw_1480, kw_1481⟩
abbrev mJ6_bitCount_0f7a4 : MD := (RJ6, yJ6_bitCount_0f7a4, cJ6_bitCount_0f7a4, 1, (some FieldType.int), { frames := 0, cells := 0, slots := 0, locals := 0 })
theorem wm_J6_bitCount_0f7a4 : WMS mJ6_bitCount_0f7a4 := ⟨⟨kw_97, kw_708, by decide +kernel, by decide +kernel⟩, kw_707⟩
abbrev mJ0_length_8abf5 : MD := (RJ0, yJ0_length_8abf5, cJ0_length_8abf5, 1, (some FieldType.int), { frames := 1, cells := 0, slots := 0, locals := 20 })
theorem wm_J0_length_8abf5 : WMV mJ0_length_8abf5 := ⟨⟨kw_98, kw_466, by decide +kernel, by decide +kernel⟩, kw_464, kw_465⟩
abbrev mJ0_charAt_5068e : MD := (RJ0, yJ0_charAt_5068e, cJ0_charAt_5068e, 2, (some FieldType.char), { frames := 4, cells := 0, slots := 0, locals := 85 })
theorem wm_J0_charAt_5068e : WMV mJ0_charAt_5068e := ⟨⟨kw_98, kw_476, by decide +kernel, by decide +kernel⟩, kw_474, kw_475⟩
abbrev mJ0_coder_7d493 : MD := (RJ0, yJ0_coder_7d493, cJ0_coder_7d493, 1, (some FieldType.byte), { frames := 0, cells := 0, slots := 0, locals := 0 })
theorem wm_J0_coder_7d493 : WMV mJ0_coder_7d493 := ⟨⟨kw_98, kw_470, by decide +kernel, by decide +kernel⟩, kw_468, kw_469⟩
abbrev mJ0_isLatin1_aae02 : MD := (RJ0, yJ0_isLatin1_aae02, cJ0_isLatin1_aae02, 1, (some FieldType.boolean), { frames := 0, cells := 0, slots := 0, locals := 0 })
theorem wm_J0_isLatin1_aae02 : WMV mJ0_isLatin1_aae02 := ⟨⟨kw_98, kw_480, by decide +kernel, by decide +kernel⟩, kw_478, kw_479⟩
abbrev mJ0_checkIndex_df160 : MD := (RJ0, yJ0_checkIndex_df160, cJ0_checkIndex_df160, 2, none, { frames := 1, cells := 0, slots := 0, locals := 22 })
theorem wm_J0_checkIndex_df160 : WMS mJ0_checkIndex_df160 := ⟨⟨kw_98, kw_486, by decide +kernel, by decide +kernel⟩, kw_485⟩
abbrev mJ1_charAt_3b067 : MD := (RJ1, yJ1_charAt_3b067, cJ1_charAt_3b067, 2, (some FieldType.char), { frames := 2, cells := 0, slots := 0, locals := 43 })
theorem wm_J1_charAt_3b067 : WMS mJ1_charAt_3b067 := ⟨⟨kw_99, kw_483, by decide +kernel, by decide +kernel⟩, kw_482⟩
abbrev mJ3_checkIndex_8e157 : MD := (RJ3, yJ3_checkIndex_8e157, cJ3_checkIndex_8e157, 3, (some FieldType.int), { frames := 0, cells := 0, slots := 0, locals := 0 })
theorem wm_J3_checkIndex_8e157 : WMS mJ3_checkIndex_8e157 := ⟨⟨kw_100, kw_491, by decide +kernel, by decide +kernel⟩, kw_490⟩
theorem lf_RX0_14 : LKF RX0 14 "LampMural$CommandText" "bytes" "LLampMural$Row;" := Or.inl kw_280
theorem lf_RX0_30 : LKF RX0 30 "LampMural$CommandText" "length" "I" := Or.inl kw_282
theorem lm_RX0_33 : LKM RX0 33 ⟨"LampMural$Row", "set", "(II)V"⟩ := Or.inl kw_532
theorem lm_RX0_37 : LKM RX0 37 ⟨"LampMural$Row", "clear", "()V"⟩ := Or.inl kw_422
theorem lf_RX0_40 : LKF RX0 40 "LampMural$CommandText" "position" "I" := Or.inl kw_284
theorem lf_RX0_23 : LKF RX0 23 "LampMural$CommandText" "fault" "I" := Or.inl kw_285
theorem lm_RX0_43 : LKM RX0 43 ⟨"LampMural$CommandText", "rewind", "()V"⟩ := Or.inl kw_434
theorem lm_RX0_46 : LKM RX0 46 ⟨"LampMural$CommandText", "readCommand", "()Z"⟩ := Or.inl kw_438
theorem lm_RX0_50 : LKM RX0 50 ⟨"LampMural$CommandText", "skipSpaces", "()V"⟩ := Or.inl kw_442
theorem lm_RX0_53 : LKM RX0 53 ⟨"LampMural$CommandText", "readWord", "()Z"⟩ := Or.inl kw_447
theorem lf_RX0_20 : LKF RX0 20 "LampMural$CommandText" "numbers" "LLampMural$Row;" := Or.inl kw_281
theorem lf_RX0_27 : LKF RX0 27 "LampMural$CommandText" "word" "I" := Or.inl kw_286
theorem lm_RX0_56 : LKM RX0 56 ⟨"LampMural$CommandText", "numbersOf", "(I)I"⟩ := Or.inl kw_522
theorem lm_RX0_60 : LKM RX0 60 ⟨"LampMural$CommandText", "readNumber", "(I)Z"⟩ := Or.inl kw_525
theorem lm_RX0_64 : LKM RX0 64 ⟨"LampMural$Row", "get", "(I)I"⟩ := Or.inl kw_446
theorem lm_RX0_67 : LKM RX0 67 ⟨"LampMural$CommandText", "failAt", "(I)Z"⟩ := Or.inl kw_518
theorem lm_RX0_70 : LKM RX0 70 ⟨"LampMural", "within", "(III)Z"⟩ := Or.inr ⟨_, List.mem_of_getElem? (i := 9) rfl⟩
theorem lm_RX0_74 : LKM RX0 74 ⟨"LampMural$CommandText", "wordBetween", "(II)I"⟩ := Or.inl kw_454
theorem lm_RX0_78 : LKM RX0 78 ⟨"LampMural$CommandText", "isDigit", "(I)Z"⟩ := Or.inl kw_529
theorem lm_RX0_83 : LKM RX0 83 ⟨"LampMural$CommandText", "isWord", "(Ljava/lang/String;II)Z"⟩ := Or.inl kw_459
theorem lm_RX0_101 : LKM RX0 101 ⟨"java/lang/String", "length", "()I"⟩ := Or.inl kw_463
theorem lm_RX0_106 : LKM RX0 106 ⟨"java/lang/String", "charAt", "(I)C"⟩ := Or.inl kw_473
theorem lf_RX1_29 : LKF RX1 29 "LampMural$Dimmer" "shining" "I" := Or.inl kw_205
theorem lf_RX1_14 : LKF RX1 14 "LampMural$Dimmer" "limits" "LLampMural$Row;" := Or.inl kw_200
theorem lm_RX1_33 : LKM RX1 33 ⟨"LampMural$Scene", "limitOf", "(I)I"⟩ := Or.inl kw_352
theorem lm_RX1_39 : LKM RX1 39 ⟨"LampMural$Row", "set", "(II)V"⟩ := Or.inl kw_356
theorem lf_RX1_20 : LKF RX1 20 "LampMural$Dimmer" "floors" "LLampMural$Row;" := Or.inl kw_201
theorem lm_RX1_43 : LKM RX1 43 ⟨"LampMural$Scene", "floorOf", "(I)I"⟩ := Or.inl kw_360
theorem lm_RX1_46 : LKM RX1 46 ⟨"LampMural$Dimmer", "prepare", "(LLampMural$Scene;I)V"⟩ := Or.inl kw_348
theorem lf_RX1_50 : LKF RX1 50 "LampMural$Scene" "rows" "I" := Or.inr ⟨_, List.mem_of_getElem? (i := 4) rfl⟩
theorem lf_RX1_53 : LKF RX1 53 "LampMural$Scene" "columns" "I" := Or.inr ⟨_, List.mem_of_getElem? (i := 1) rfl⟩
theorem lm_RX1_56 : LKM RX1 56 ⟨"LampMural$Scene", "indexOfPlace", "(II)I"⟩ := Or.inl kw_368
theorem lm_RX1_60 : LKM RX1 60 ⟨"LampMural$Scene", "targetAt", "(I)I"⟩ := Or.inl kw_372
theorem lm_RX1_63 : LKM RX1 63 ⟨"LampMural", "pointOf", "(II)I"⟩ := Or.inr ⟨_, List.mem_of_getElem? (i := 7) rfl⟩
theorem lm_RX1_66 : LKM RX1 66 ⟨"LampMural$Dimmer", "dimPoint", "(LLampMural$Scene;III)V"⟩ := Or.inl kw_379
theorem lf_RX1_70 : LKF RX1 70 "LampMural$Dimmer" "state" "I" := Or.inl kw_211
theorem lf_RX1_73 : LKF RX1 73 "LampMural$Dimmer" "covering" "I" := Or.inl kw_207
theorem lm_RX1_76 : LKM RX1 76 ⟨"LampMural", "isIn", "(II)Z"⟩ := Or.inr ⟨_, List.mem_of_getElem? (i := 8) rfl⟩
theorem lm_RX1_80 : LKM RX1 80 ⟨"LampMural$Scene", "weightAt", "(III)I"⟩ := Or.inl kw_386
theorem lf_RX1_23 : LKF RX1 23 "LampMural$Dimmer" "weights" "LLampMural$Row;" := Or.inl kw_202
theorem lf_RX1_26 : LKF RX1 26 "LampMural$Dimmer" "lights" "LLampMural$Row;" := Or.inl kw_203
theorem lm_RX1_84 : LKM RX1 84 ⟨"LampMural$Dimmer", "shareOut", "(I)V"⟩ := Or.inl kw_393
theorem lm_RX1_87 : LKM RX1 87 ⟨"LampMural$Dimmer", "keepToLimits", "()V"⟩ := Or.inl kw_398
theorem lm_RX1_90 : LKM RX1 90 ⟨"LampMural$Dimmer", "balance", "(I)V"⟩ := Or.inl kw_406
theorem lm_RX1_93 : LKM RX1 93 ⟨"LampMural$Dimmer", "stateFor", "(I)I"⟩ := Or.inl kw_410
theorem lm_RX1_96 : LKM RX1 96 ⟨"LampMural$Row", "get", "(I)I"⟩ := Or.inl kw_397
theorem lm_RX1_99 : LKM RX1 99 ⟨"java/lang/Math", "min", "(II)I"⟩ := Or.inl kw_402
theorem lm_RX1_104 : LKM RX1 104 ⟨"java/lang/Math", "max", "(II)I"⟩ := Or.inl kw_403
theorem lf_RX1_107 : LKF RX1 107 "LampMural$Dimmer" "brightness" "I" := Or.inl kw_209
theorem lf_RX2_18 : LKF RX2 18 "LampMural$History" "latest" "I" := Or.inl kw_262
theorem lm_RX2_22 : LKM RX2 22 ⟨"LampMural$History", "latestSlot", "()LLampMural$Scene;"⟩ := Or.inl kw_537
theorem lm_RX2_26 : LKM RX2 26 ⟨"LampMural$Scene", "copyFrom", "(LLampMural$Scene;)V"⟩ := Or.inl kw_541
theorem lf_RX2_30 : LKF RX2 30 "LampMural$History" "count" "I" := Or.inl kw_263
theorem lm_RX2_33 : LKM RX2 33 ⟨"java/lang/Math", "min", "(II)I"⟩ := Or.inl kw_549
theorem lf_RX2_11 : LKF RX2 11 "LampMural$History" "saved" "[LLampMural$Scene;" := Or.inl kw_261
theorem lf_RX3_7 : LKF RX3 7 "LampMural$Row" "cells" "[I" := Or.inl kw_122
theorem lf_RX4_9 : LKF RX4 9 "LampMural$Scene" "columns" "I" := Or.inl kw_127
theorem lf_RX4_15 : LKF RX4 15 "LampMural$Scene" "rows" "I" := Or.inl kw_131
theorem lf_RX4_49 : LKF RX4 49 "LampMural$Scene" "shiftX" "I" := Or.inl kw_135
theorem lf_RX4_52 : LKF RX4 52 "LampMural$Scene" "shiftY" "I" := Or.inl kw_138
theorem lf_RX4_55 : LKF RX4 55 "LampMural$Scene" "hours" "I" := Or.inl kw_141
theorem lf_RX4_58 : LKF RX4 58 "LampMural$Scene" "lampCount" "I" := Or.inl kw_143
theorem lf_RX4_27 : LKF RX4 27 "LampMural$Scene" "targets" "LLampMural$Row;" := Or.inl kw_147
theorem lm_RX4_61 : LKM RX4 61 ⟨"LampMural$Row", "copyFrom", "(LLampMural$Row;)V"⟩ := Or.inl kw_545
theorem lf_RX4_31 : LKF RX4 31 "LampMural$Scene" "greatest" "LLampMural$Row;" := Or.inl kw_148
theorem lf_RX4_34 : LKF RX4 34 "LampMural$Scene" "least" "LLampMural$Row;" := Or.inl kw_150
theorem lf_RX4_37 : LKF RX4 37 "LampMural$Scene" "wear" "LLampMural$Row;" := Or.inl kw_152
theorem lf_RX4_40 : LKF RX4 40 "LampMural$Scene" "working" "LLampMural$Row;" := Or.inl kw_154
theorem lf_RX4_43 : LKF RX4 43 "LampMural$Scene" "cornersX" "LLampMural$Row;" := Or.inl kw_155
theorem lf_RX4_46 : LKF RX4 46 "LampMural$Scene" "cornersY" "LLampMural$Row;" := Or.inl kw_156
theorem lf_RX4_18 : LKF RX4 18 "LampMural$Scene" "changed" "Z" := Or.inl kw_145
theorem lm_RX4_65 : LKM RX4 65 ⟨"LampMural$Row", "clear", "()V"⟩ := Or.inl kw_605
theorem lm_RX4_68 : LKM RX4 68 ⟨"LampMural$Scene", "indexOfPlace", "(II)I"⟩ := Or.inl kw_610
theorem lm_RX4_72 : LKM RX4 72 ⟨"LampMural$Row", "get", "(I)I"⟩ := Or.inl kw_333
theorem lm_RX4_76 : LKM RX4 76 ⟨"LampMural$Row", "set", "(II)V"⟩ := Or.inl kw_611
theorem lm_RX4_80 : LKM RX4 80 ⟨"LampMural$Scene", "moveCorner", "(IIII)V"⟩ := Or.inl kw_616
theorem lm_RX4_84 : LKM RX4 84 ⟨"java/lang/Math", "min", "(II)I"⟩ := Or.inl kw_365
theorem lm_RX4_89 : LKM RX4 89 ⟨"java/lang/Math", "max", "(II)I"⟩ := Or.inl kw_972
theorem lm_RX4_92 : LKM RX4 92 ⟨"LampMural$Scene", "limitOf", "(I)I"⟩ := Or.inl kw_364
theorem lm_RX4_95 : LKM RX4 95 ⟨"LampMural", "isIn", "(II)Z"⟩ := Or.inr ⟨_, List.mem_of_getElem? (i := 12) rfl⟩
theorem lm_RX4_99 : LKM RX4 99 ⟨"LampMural$Scene", "floorOf", "(I)I"⟩ := Or.inl kw_772
theorem lm_RX4_102 : LKM RX4 102 ⟨"LampMural", "cross", "(IIII)I"⟩ := Or.inr ⟨_, List.mem_of_getElem? (i := 6) rfl⟩
theorem lm_RX4_106 : LKM RX4 106 ⟨"LampMural$Scene", "isWorking", "(I)Z"⟩ := Or.inl kw_329
theorem lm_RX4_110 : LKM RX4 110 ⟨"LampMural$Scene", "isGood", "(I)Z"⟩ := Or.inl kw_337
theorem lm_RX4_113 : LKM RX4 113 ⟨"java/lang/Math", "abs", "(I)I"⟩ := Or.inl kw_390
theorem lf_RX5_36 : LKF RX5 36 "LampMural$Scene" "changed" "Z" := Or.inr ⟨_, List.mem_of_getElem? (i := 12) rfl⟩
theorem lf_RX5_12 : LKF RX5 12 "LampMural$Survey" "dimmer" "LLampMural$Dimmer;" := Or.inl kw_231
theorem lm_RX5_42 : LKM RX5 42 ⟨"LampMural$Scene", "shiningLamps", "()I"⟩ := Or.inl kw_637
theorem lm_RX5_46 : LKM RX5 46 ⟨"LampMural$Dimmer", "prepare", "(LLampMural$Scene;I)V"⟩ := Or.inl kw_638
theorem lf_RX5_50 : LKF RX5 50 "LampMural$Survey" "places" "I" := Or.inl kw_236
theorem lf_RX5_54 : LKF RX5 54 "LampMural$Scene" "rows" "I" := Or.inr ⟨_, List.mem_of_getElem? (i := 3) rfl⟩
theorem lf_RX5_57 : LKF RX5 57 "LampMural$Scene" "columns" "I" := Or.inr ⟨_, List.mem_of_getElem? (i := 0) rfl⟩
theorem lf_RX5_60 : LKF RX5 60 "LampMural$Scene" "shiftX" "I" := Or.inr ⟨_, List.mem_of_getElem? (i := 6) rfl⟩
theorem lm_RX5_63 : LKM RX5 63 ⟨"LampMural", "pointOf", "(II)I"⟩ := Or.inr ⟨_, List.mem_of_getElem? (i := 10) rfl⟩
theorem lf_RX5_67 : LKF RX5 67 "LampMural$Scene" "shiftY" "I" := Or.inr ⟨_, List.mem_of_getElem? (i := 8) rfl⟩
theorem lm_RX5_70 : LKM RX5 70 ⟨"LampMural$Scene", "targetAt", "(I)I"⟩ := Or.inl kw_640
theorem lm_RX5_74 : LKM RX5 74 ⟨"LampMural$Dimmer", "dimPoint", "(LLampMural$Scene;III)V"⟩ := Or.inl kw_641
theorem lm_RX5_78 : LKM RX5 78 ⟨"LampMural$Survey", "keepPlace", "()V"⟩ := Or.inl kw_642
theorem lf_RX5_27 : LKF RX5 27 "LampMural$Survey" "covering" "LLampMural$Row;" := Or.inl kw_233
theorem lf_RX5_81 : LKF RX5 81 "LampMural$Dimmer" "covering" "I" := Or.inr ⟨_, List.mem_of_getElem? (i := 17) rfl⟩
theorem lm_RX5_83 : LKM RX5 83 ⟨"LampMural$Row", "set", "(II)V"⟩ := Or.inl kw_646
theorem lf_RX5_30 : LKF RX5 30 "LampMural$Survey" "brightness" "LLampMural$Row;" := Or.inl kw_234
theorem lf_RX5_87 : LKF RX5 87 "LampMural$Dimmer" "brightness" "I" := Or.inr ⟨_, List.mem_of_getElem? (i := 18) rfl⟩
theorem lf_RX5_33 : LKF RX5 33 "LampMural$Survey" "states" "LLampMural$Row;" := Or.inl kw_235
theorem lf_RX5_89 : LKF RX5 89 "LampMural$Dimmer" "state" "I" := Or.inr ⟨_, List.mem_of_getElem? (i := 19) rfl⟩
theorem lf_RX5_23 : LKF RX5 23 "LampMural$Survey" "lights" "LLampMural$Row;" := Or.inl kw_232
theorem lf_RX5_92 : LKF RX5 92 "LampMural$Dimmer" "lights" "LLampMural$Row;" := Or.inr ⟨_, List.mem_of_getElem? (i := 16) rfl⟩
theorem lm_RX5_93 : LKM RX5 93 ⟨"LampMural$Row", "get", "(I)I"⟩ := Or.inl kw_647
theorem lm_RX5_96 : LKM RX5 96 ⟨"LampMural", "isIn", "(II)Z"⟩ := Or.inr ⟨_, List.mem_of_getElem? (i := 11) rfl⟩
theorem lm_RX5_100 : LKM RX5 100 ⟨"LampMural$Survey", "isCovered", "(II)Z"⟩ := Or.inl kw_658
theorem lm_RX5_103 : LKM RX5 103 ⟨"java/lang/Integer", "bitCount", "(I)I"⟩ := Or.inl kw_706
theorem lm_RX5_108 : LKM RX5 108 ⟨"LampMural$Survey", "placesInState", "(I)I"⟩ := Or.inl kw_960
theorem lm_RX5_111 : LKM RX5 111 ⟨"java/lang/Math", "max", "(II)I"⟩ := Or.inl kw_729
theorem lm_RX5_116 : LKM RX5 116 ⟨"LampMural$Survey", "placesOf", "(I)I"⟩ := Or.inl kw_654
theorem lm_RX5_119 : LKM RX5 119 ⟨"LampMural$Survey", "sumOfLights", "(I)I"⟩ := Or.inl kw_663
theorem lm_RX6_44 : LKM RX6 44 ⟨"LampMural", "faultOfWall", "(II)I"⟩ := Or.inl kw_564
theorem lm_RX6_48 : LKM RX6 48 ⟨"LampMural", "refuseArgument", "(I)V"⟩ := Or.inl kw_785
theorem lf_RX6_33 : LKF RX6 33 "LampMural" "history" "LLampMural$History;" := Or.inl kw_304
theorem lf_RX6_12 : LKF RX6 12 "LampMural" "scene" "LLampMural$Scene;" := Or.inl kw_301
theorem lm_RX6_52 : LKM RX6 52 ⟨"LampMural$History", "save", "(LLampMural$Scene;)V"⟩ := Or.inl kw_533
theorem lm_RX6_56 : LKM RX6 56 ⟨"LampMural$Scene", "placeCount", "()I"⟩ := Or.inl kw_738
theorem lm_RX6_60 : LKM RX6 60 ⟨"LampMural$Scene", "startWall", "(II)V"⟩ := Or.inl kw_601
theorem lm_RX6_64 : LKM RX6 64 ⟨"LampMural", "faultOfPainting", "(IIIII)I"⟩ := Or.inl kw_568
theorem lm_RX6_68 : LKM RX6 68 ⟨"LampMural", "refuseIndex", "(I)V"⟩ := Or.inl kw_863
theorem lm_RX6_71 : LKM RX6 71 ⟨"LampMural$Scene", "setTargets", "(IIIII)I"⟩ := Or.inl kw_606
theorem lm_RX6_74 : LKM RX6 74 ⟨"LampMural", "faultOfNewLamp", "(II)I"⟩ := Or.inl kw_576
theorem lm_RX6_77 : LKM RX6 77 ⟨"LampMural", "refuseState", "(I)V"⟩ := Or.inl kw_890
theorem lm_RX6_80 : LKM RX6 80 ⟨"LampMural$Scene", "hangLamp", "(II)I"⟩ := Or.inl kw_612
theorem lm_RX6_83 : LKM RX6 83 ⟨"LampMural", "faultOfCorner", "(IIII)I"⟩ := Or.inl kw_580
theorem lm_RX6_87 : LKM RX6 87 ⟨"LampMural$Scene", "moveCorner", "(IIII)V"⟩ := Or.inl kw_620
theorem lm_RX6_91 : LKM RX6 91 ⟨"LampMural$Scene", "isGood", "(I)Z"⟩ := Or.inl kw_722
theorem lm_RX6_95 : LKM RX6 95 ⟨"LampMural", "faultOfRectangle", "(IIIII)I"⟩ := Or.inl kw_923
theorem lf_RX6_19 : LKF RX6 19 "LampMural" "survey" "LLampMural$Survey;" := Or.inl kw_302
theorem lm_RX6_98 : LKM RX6 98 ⟨"LampMural$Survey", "refresh", "(LLampMural$Scene;)V"⟩ := Or.inl kw_633
theorem lm_RX6_101 : LKM RX6 101 ⟨"LampMural$Survey", "placesOf", "(I)I"⟩ := Or.inl kw_723
theorem lm_RX6_105 : LKM RX6 105 ⟨"LampMural", "faultOfLampValue", "(III)I"⟩ := Or.inl kw_934
theorem lm_RX6_109 : LKM RX6 109 ⟨"LampMural", "lampValue", "(II)I"⟩ := Or.inl kw_716
theorem lm_RX6_112 : LKM RX6 112 ⟨"LampMural$Scene", "setLampValue", "(III)V"⟩ := Or.inl kw_938
theorem lm_RX6_116 : LKM RX6 116 ⟨"LampMural", "faultOfLamp", "(I)I"⟩ := Or.inl kw_591
theorem lm_RX6_119 : LKM RX6 119 ⟨"LampMural$Scene", "isWorking", "(I)Z"⟩ := Or.inl kw_648
theorem lm_RX6_122 : LKM RX6 122 ⟨"LampMural$Scene", "switchLamp", "(IZ)V"⟩ := Or.inl kw_625
theorem lm_RX6_126 : LKM RX6 126 ⟨"LampMural", "faultOfShift", "(II)I"⟩ := Or.inl kw_588
theorem lm_RX6_129 : LKM RX6 129 ⟨"LampMural$Scene", "moveWall", "(II)V"⟩ := Or.inl kw_621
theorem lm_RX6_132 : LKM RX6 132 ⟨"LampMural$Survey", "wrongPlaces", "()I"⟩ := Or.inl kw_956
theorem lm_RX6_135 : LKM RX6 135 ⟨"LampMural", "faultOfHours", "(I)I"⟩ := Or.inl kw_595
theorem lm_RX6_138 : LKM RX6 138 ⟨"LampMural", "burnHours", "(I)V"⟩ := Or.inl kw_629
theorem lm_RX6_141 : LKM RX6 141 ⟨"LampMural$Scene", "greatestWear", "()I"⟩ := Or.inl kw_968
theorem lm_RX6_144 : LKM RX6 144 ⟨"LampMural", "faultOfPlace", "(II)I"⟩ := Or.inl kw_980
theorem lm_RX6_147 : LKM RX6 147 ⟨"LampMural", "faultOfRange", "(III)I"⟩ := Or.inl kw_598
theorem lm_RX6_150 : LKM RX6 150 ⟨"LampMural$Scene", "indexOfPlace", "(II)I"⟩ := Or.inl kw_984
theorem lm_RX6_153 : LKM RX6 153 ⟨"LampMural", "placeValue", "(II)I"⟩ := Or.inl kw_746
theorem lm_RX6_156 : LKM RX6 156 ⟨"LampMural$Survey", "lightOf", "(II)I"⟩ := Or.inl kw_773
theorem lm_RX6_159 : LKM RX6 159 ⟨"LampMural$Survey", "isCovered", "(II)Z"⟩ := Or.inl kw_999
theorem lf_RX6_163 : LKF RX6 163 "LampMural$Scene" "shiftX" "I" := Or.inr ⟨_, List.mem_of_getElem? (i := 7) rfl⟩
theorem lm_RX6_167 : LKM RX6 167 ⟨"LampMural", "pointOf", "(II)I"⟩ := Or.inl kw_1000
theorem lf_RX6_170 : LKF RX6 170 "LampMural$Scene" "shiftY" "I" := Or.inr ⟨_, List.mem_of_getElem? (i := 9) rfl⟩
theorem lm_RX6_173 : LKM RX6 173 ⟨"LampMural$Scene", "weightAt", "(III)I"⟩ := Or.inl kw_1001
theorem lm_RX6_176 : LKM RX6 176 ⟨"LampMural", "within", "(III)Z"⟩ := Or.inl kw_567
theorem lm_RX6_180 : LKM RX6 180 ⟨"LampMural$Scene", "cornerValue", "(III)I"⟩ := Or.inl kw_734
theorem lm_RX6_183 : LKM RX6 183 ⟨"LampMural", "wholeValue", "(I)I"⟩ := Or.inl kw_682
theorem lf_RX6_186 : LKF RX6 186 "LampMural$Scene" "rows" "I" := Or.inr ⟨_, List.mem_of_getElem? (i := 5) rfl⟩
theorem lf_RX6_189 : LKF RX6 189 "LampMural$Scene" "columns" "I" := Or.inr ⟨_, List.mem_of_getElem? (i := 2) rfl⟩
theorem lm_RX6_192 : LKM RX6 192 ⟨"LampMural$Survey", "stateAt", "(I)I"⟩ := Or.inl kw_755
theorem lm_RX6_195 : LKM RX6 195 ⟨"LampMural", "wrongIfFailed", "(I)I"⟩ := Or.inl kw_321
theorem lf_RX6_198 : LKF RX6 198 "LampMural$Scene" "lampCount" "I" := Or.inr ⟨_, List.mem_of_getElem? (i := 11) rfl⟩
theorem lf_RX6_26 : LKF RX6 26 "LampMural" "whatIf" "LLampMural$Dimmer;" := Or.inl kw_303
theorem lm_RX6_201 : LKM RX6 201 ⟨"LampMural$Scene", "shiningLamps", "()I"⟩ := Or.inl kw_325
theorem lm_RX6_204 : LKM RX6 204 ⟨"LampMural$Dimmer", "countWrong", "(LLampMural$Scene;III)I"⟩ := Or.inl kw_344
theorem lm_RX6_208 : LKM RX6 208 ⟨"LampMural$Scene", "targetAt", "(I)I"⟩ := Or.inl kw_750
theorem lm_RX6_211 : LKM RX6 211 ⟨"LampMural$Survey", "brightnessAt", "(I)I"⟩ := Or.inl kw_751
theorem lm_RX6_214 : LKM RX6 214 ⟨"java/lang/Math", "max", "(II)I"⟩ := Or.inl kw_1058
theorem lf_RX6_40 : LKF RX6 40 "LampMural" "commands" "LLampMural$CommandText;" := Or.inl kw_305
theorem lf_RX6_219 : LKF RX6 219 "LampMural$CommandText" "length" "I" := Or.inr ⟨_, List.mem_of_getElem? (i := 21) rfl⟩
theorem lm_RX6_222 : LKM RX6 222 ⟨"LampMural$CommandText", "append", "(I)I"⟩ := Or.inl kw_1066
theorem lm_RX6_225 : LKM RX6 225 ⟨"LampMural$CommandText", "empty", "()I"⟩ := Or.inl kw_418
theorem lm_RX6_228 : LKM RX6 228 ⟨"LampMural$CommandText", "findFault", "()I"⟩ := Or.inl kw_430
theorem lm_RX6_231 : LKM RX6 231 ⟨"LampMural$CommandText", "rewind", "()V"⟩ := Or.inl kw_550
theorem lm_RX6_234 : LKM RX6 234 ⟨"LampMural$CommandText", "readCommand", "()Z"⟩ := Or.inl kw_551
theorem lm_RX6_238 : LKM RX6 238 ⟨"LampMural", "carryOut", "()Z"⟩ := Or.inl kw_552
theorem lf_RX6_241 : LKF RX6 241 "LampMural$History" "count" "I" := Or.inr ⟨_, List.mem_of_getElem? (i := 20) rfl⟩
theorem lm_RX6_244 : LKM RX6 244 ⟨"LampMural$History", "restore", "(LLampMural$Scene;)V"⟩ := Or.inl kw_1077
theorem lm_RX6_251 : LKM RX6 251 ⟨"LampMural", "addLampTo", "(JI)J"⟩ := Or.inl kw_712
theorem lm_RX6_255 : LKM RX6 255 ⟨"LampMural", "addPlaceTo", "(JI)J"⟩ := Or.inl kw_742
theorem lm_RX6_258 : LKM RX6 258 ⟨"LampMural$Survey", "coveringAt", "(I)I"⟩ := Or.inl kw_759
theorem lm_RX6_261 : LKM RX6 261 ⟨"LampMural$Scene", "sumOfLimits", "(I)I"⟩ := Or.inl kw_763
theorem lm_RX6_264 : LKM RX6 264 ⟨"LampMural$Scene", "sumOfFloors", "(I)I"⟩ := Or.inl kw_768
theorem lf_RX6_267 : LKF RX6 267 "LampMural$Scene" "greatest" "LLampMural$Row;" := Or.inr ⟨_, List.mem_of_getElem? (i := 13) rfl⟩
theorem lm_RX6_271 : LKM RX6 271 ⟨"LampMural$Row", "get", "(I)I"⟩ := Or.inl kw_720
theorem lf_RX6_276 : LKF RX6 276 "LampMural$Scene" "least" "LLampMural$Row;" := Or.inr ⟨_, List.mem_of_getElem? (i := 14) rfl⟩
theorem lf_RX6_279 : LKF RX6 279 "LampMural$Scene" "wear" "LLampMural$Row;" := Or.inr ⟨_, List.mem_of_getElem? (i := 15) rfl⟩
theorem lm_RX6_282 : LKM RX6 282 ⟨"LampMural$Scene", "limitOf", "(I)I"⟩ := Or.inl kw_649
theorem lm_RX6_285 : LKM RX6 285 ⟨"LampMural$Scene", "floorOf", "(I)I"⟩ := Or.inl kw_721
theorem lm_RX6_288 : LKM RX6 288 ⟨"LampMural$Survey", "sumOfLights", "(I)I"⟩ := Or.inl kw_724
theorem lm_RX6_291 : LKM RX6 291 ⟨"LampMural$Survey", "loadOf", "(II)I"⟩ := Or.inl kw_650
theorem lm_RX6_294 : LKM RX6 294 ⟨"LampMural$Survey", "greatestLightOf", "(I)I"⟩ := Or.inl kw_725
theorem lm_RX6_297 : LKM RX6 297 ⟨"LampMural$Survey", "placesOnlyOf", "(I)I"⟩ := Or.inl kw_730
theorem lm_RX6_300 : LKM RX6 300 ⟨"LampMural$Scene", "workingLamps", "()I"⟩ := Or.inl kw_686
theorem lm_RX6_303 : LKM RX6 303 ⟨"LampMural$Survey", "placesInState", "(I)I"⟩ := Or.inl kw_690
theorem lm_RX6_306 : LKM RX6 306 ⟨"LampMural$Scene", "sumOfTargets", "()I"⟩ := Or.inl kw_694
theorem lm_RX6_309 : LKM RX6 309 ⟨"LampMural$Survey", "sumOfBrightness", "()I"⟩ := Or.inl kw_698
theorem lf_RX6_312 : LKF RX6 312 "LampMural$Scene" "hours" "I" := Or.inr ⟨_, List.mem_of_getElem? (i := 10) rfl⟩
theorem lm_RX6_315 : LKM RX6 315 ⟨"LampMural$Survey", "placesOfSeveral", "()I"⟩ := Or.inl kw_702
theorem lm_RX6_318 : LKM RX6 318 ⟨"LampMural$Scene", "wearOut", "(II)V"⟩ := Or.inl kw_667
theorem lm_RX6_321 : LKM RX6 321 ⟨"LampMural$Scene", "countHours", "(I)V"⟩ := Or.inl kw_671
theorem lm_RX6_324 : LKM RX6 324 ⟨"LampMural$CommandText", "number", "(I)I"⟩ := Or.inl kw_556
theorem lm_RX6_327 : LKM RX6 327 ⟨"LampMural", "faultOfCommand", "(IIIII)I"⟩ := Or.inl kw_560
theorem lf_RX6_330 : LKF RX6 330 "LampMural$CommandText" "word" "I" := Or.inr ⟨_, List.mem_of_getElem? (i := 22) rfl⟩
theorem lm_RX6_333 : LKM RX6 333 ⟨"LampMural$Scene", "hasPlace", "(II)Z"⟩ := Or.inl kw_572
theorem lm_RX6_336 : LKM RX6 336 ⟨"LampMural$Scene", "hasLamp", "(I)Z"⟩ := Or.inl kw_584
theorem lm_RX6_343 : LKM RX6 343 ⟨"java/lang/IndexOutOfBoundsException", "<init>", "(Ljava/lang/String;)V"⟩ := Or.inl kw_876
theorem lm_RX6_350 : LKM RX6 350 ⟨"java/lang/IllegalArgumentException", "<init>", "(Ljava/lang/String;)V"⟩ := Or.inl kw_830
theorem lm_RX6_355 : LKM RX6 355 ⟨"java/lang/IllegalStateException", "<init>", "(Ljava/lang/String;)V"⟩ := Or.inl kw_903
theorem lf_RX7_38 : LKF RX7 38 "LampMuralModel" "thrown" "I" := Or.inl kw_1093
theorem lf_RX7_7 : LKF RX7 7 "LampMuralModel" "st" "[I" := Or.inl kw_1087
theorem lm_RX7_41 : LKM RX7 41 ⟨"LampMuralModel", "in", "(III)Z"⟩ := Or.inl kw_1185
theorem lf_RX7_16 : LKF RX7 16 "LampMuralModel" "aside" "[I" := Or.inl kw_1089
theorem lf_RX7_45 : LKF RX7 45 "LampMuralModel" "pasts" "I" := Or.inl kw_1090
theorem lf_RX7_13 : LKF RX7 13 "LampMuralModel" "past" "[I" := Or.inl kw_1088
theorem lm_RX7_48 : LKM RX7 48 ⟨"LampMuralModel", "fails", "(I)I"⟩ := Or.inl kw_1165
theorem lm_RX7_52 : LKM RX7 52 ⟨"LampMuralModel", "saves", "()V"⟩ := Or.inl kw_1192
theorem lf_RX7_55 : LKF RX7 55 "LampMuralModel" "answer" "I" := Or.inl kw_1094
theorem lm_RX7_58 : LKM RX7 58 ⟨"LampMuralModel", "tells", "(I)I"⟩ := Or.inl kw_1169
theorem lm_RX7_61 : LKM RX7 61 ⟨"LampMuralModel", "of", "(II)I"⟩ := Or.inl kw_1247
theorem lm_RX7_65 : LKM RX7 65 ⟨"LampMuralModel", "limit", "(I)I"⟩ := Or.inl kw_1286
theorem lm_RX7_68 : LKM RX7 68 ⟨"LampMuralModel", "lesser", "(II)I"⟩ := Or.inl kw_1294
theorem lm_RX7_71 : LKM RX7 71 ⟨"LampMuralModel", "pointX", "(II)I"⟩ := Or.inl kw_1243
theorem lm_RX7_74 : LKM RX7 74 ⟨"LampMuralModel", "pointY", "(II)I"⟩ := Or.inl kw_1251
theorem lm_RX7_77 : LKM RX7 77 ⟨"LampMuralModel", "size", "(I)I"⟩ := Or.inl kw_1275
theorem lf_RX7_80 : LKF RX7 80 "LampMuralModel" "covers" "I" := Or.inl kw_1098
theorem lf_RX7_22 : LKF RX7 22 "LampMuralModel" "without" "I" := Or.inl kw_1095
theorem lm_RX7_83 : LKM RX7 83 ⟨"LampMuralModel", "isGood", "(I)Z"⟩ := Or.inl kw_1239
theorem lf_RX7_26 : LKF RX7 26 "LampMuralModel" "weights" "[I" := Or.inl kw_1096
theorem lm_RX7_87 : LKM RX7 87 ⟨"LampMuralModel", "weightAt", "(III)I"⟩ := Or.inl kw_1271
theorem lm_RX7_91 : LKM RX7 91 ⟨"LampMuralModel", "isOn", "(I)Z"⟩ := Or.inl kw_1282
theorem lf_RX7_29 : LKF RX7 29 "LampMuralModel" "lights" "[I" := Or.inl kw_1097
theorem lm_RX7_94 : LKM RX7 94 ⟨"LampMuralModel", "target", "(II)I"⟩ := Or.inl kw_1208
theorem lm_RX7_97 : LKM RX7 97 ⟨"LampMuralModel", "weighs", "(II)V"⟩ := Or.inl kw_1267
theorem lm_RX7_101 : LKM RX7 101 ⟨"LampMuralModel", "shares", "(I)V"⟩ := Or.inl kw_1278
theorem lm_RX7_105 : LKM RX7 105 ⟨"LampMuralModel", "floor", "(I)I"⟩ := Or.inl kw_1290
theorem lm_RX7_108 : LKM RX7 108 ⟨"LampMuralModel", "sumOfLights", "()I"⟩ := Or.inl kw_1297
theorem lf_RX7_112 : LKF RX7 112 "LampMuralModel" "bright" "I" := Or.inl kw_1099
theorem lm_RX7_115 : LKM RX7 115 ⟨"LampMuralModel", "shines", "(II)V"⟩ := Or.inl kw_1263
theorem lm_RX7_118 : LKM RX7 118 ⟨"LampMuralModel", "state", "(II)I"⟩ := Or.inl kw_1328
theorem lf_RX7_121 : LKF RX7 121 "LampMuralModel" "places" "I" := Or.inl kw_1100
theorem lf_RX7_124 : LKF RX7 124 "LampMuralModel" "allLights" "I" := Or.inl kw_1101
theorem lf_RX7_127 : LKF RX7 127 "LampMuralModel" "greatestLight" "I" := Or.inl kw_1102
theorem lf_RX7_130 : LKF RX7 130 "LampMuralModel" "alone" "I" := Or.inl kw_1103
theorem lf_RX7_133 : LKF RX7 133 "LampMuralModel" "needed" "I" := Or.inl kw_1104
theorem lm_RX7_136 : LKM RX7 136 ⟨"LampMuralModel", "bits", "(I)I"⟩ := Or.inl kw_1301
theorem lm_RX7_139 : LKM RX7 139 ⟨"LampMuralModel", "sums", "(I)V"⟩ := Or.inl kw_1259
theorem lm_RX7_142 : LKM RX7 142 ⟨"LampMuralModel", "isPlace", "(II)Z"⟩ := Or.inl kw_1204
theorem lm_RX7_146 : LKM RX7 146 ⟨"LampMuralModel", "put", "(III)V"⟩ := Or.inl kw_1220
theorem lm_RX7_150 : LKM RX7 150 ⟨"LampMuralModel", "isLamp", "(I)Z"⟩ := Or.inl kw_1232
theorem lm_RX7_153 : LKM RX7 153 ⟨"LampMuralModel", "isCorner", "(I)Z"⟩ := Or.inl kw_1236
theorem lm_RX7_156 : LKM RX7 156 ⟨"LampMuralModel", "wrongOnes", "()I"⟩ := Or.inl kw_1324
theorem lf_RX7_32 : LKF RX7 32 "LampMuralModel" "loads" "[I" := Or.inl kw_1105
theorem lm_RX7_159 : LKM RX7 159 ⟨"LampMuralModel", "load", "(I)I"⟩ := Or.inl kw_1340
theorem lm_RX7_162 : LKM RX7 162 ⟨"LampMuralModel", "laysAside", "()V"⟩ := Or.inl kw_1177
theorem lm_RX7_165 : LKM RX7 165 ⟨"LampMuralModel", "begins", "(II)I"⟩ := Or.inl kw_1181
theorem lm_RX7_168 : LKM RX7 168 ⟨"LampMuralModel", "ends", "(I)I"⟩ := Or.inl kw_1188
theorem lm_RX7_171 : LKM RX7 171 ⟨"LampMuralModel", "paints", "(IIIII)I"⟩ := Or.inl kw_1200
theorem lm_RX7_175 : LKM RX7 175 ⟨"LampMuralModel", "adds", "(II)I"⟩ := Or.inl kw_1216
theorem lm_RX7_178 : LKM RX7 178 ⟨"LampMuralModel", "corners", "(IIII)I"⟩ := Or.inl kw_1228
theorem lm_RX7_182 : LKM RX7 182 ⟨"LampMuralModel", "works", "(IZ)I"⟩ := Or.inl kw_1312
theorem lm_RX7_186 : LKM RX7 186 ⟨"LampMuralModel", "shifts", "(II)I"⟩ := Or.inl kw_1320
theorem lm_RX7_189 : LKM RX7 189 ⟨"LampMuralModel", "burns", "(I)I"⟩ := Or.inl kw_1336
theorem lm_RX7_192 : LKM RX7 192 ⟨"LampMuralModel", "limits", "(Z)I"⟩ := Or.inl kw_1352
theorem lm_RX7_196 : LKM RX7 196 ⟨"LampMuralModel", "placeOf", "(III)I"⟩ := Or.inl kw_1348
theorem lm_RX7_199 : LKM RX7 199 ⟨"LampMuralModel", "lightOf", "(III)I"⟩ := Or.inl kw_1360
theorem lm_RX7_202 : LKM RX7 202 ⟨"LampMuralModel", "lampOf", "(II)I"⟩ := Or.inl kw_1372
theorem lm_RX7_205 : LKM RX7 205 ⟨"LampMuralModel", "working", "()I"⟩ := Or.inl kw_1388
theorem lf_RX7_208 : LKF RX7 208 "LampMuralModel" "length" "I" := Or.inl kw_1092
theorem lm_RX7_211 : LKM RX7 211 ⟨"LampMuralModel", "overPlaces", "(I)I"⟩ := Or.inl kw_1392
theorem lm_RX7_214 : LKM RX7 214 ⟨"LampMuralModel", "wholeOf", "(I)I"⟩ := Or.inl kw_1384
theorem lm_RX7_217 : LKM RX7 217 ⟨"LampMuralModel", "wrongBut", "(I)I"⟩ := Or.inl kw_1404
theorem lm_RX7_220 : LKM RX7 220 ⟨"LampMuralModel", "bringsBack", "()V"⟩ := Or.inl kw_1420
theorem lm_RX7_223 : LKM RX7 223 ⟨"LampMuralModel", "wrongBy", "(II)I"⟩ := Or.inl kw_1416
theorem lf_RX7_19 : LKF RX7 19 "LampMuralModel" "text" "[I" := Or.inl kw_1091
theorem lf_RX7_226 : LKF RX7 226 "LampMuralModel" "spot" "I" := Or.inl kw_1106
theorem lm_RX7_229 : LKM RX7 229 ⟨"LampMuralModel", "here", "()I"⟩ := Or.inl kw_1452
theorem lm_RX7_232 : LKM RX7 232 ⟨"LampMuralModel", "isWord", "(IIIIII)Z"⟩ := Or.inl kw_1464
theorem lm_RX7_236 : LKM RX7 236 ⟨"LampMuralModel", "skips", "()Z"⟩ := Or.inl kw_1448
theorem lf_RX7_35 : LKF RX7 35 "LampMuralModel" "numbers" "[I" := Or.inl kw_1108
theorem lm_RX7_240 : LKM RX7 240 ⟨"LampMuralModel", "wordFrom", "(I)I"⟩ := Or.inl kw_1460
theorem lf_RX7_243 : LKF RX7 243 "LampMuralModel" "word" "I" := Or.inl kw_1107
theorem lm_RX7_246 : LKM RX7 246 ⟨"LampMuralModel", "numbersOf", "(I)I"⟩ := Or.inl kw_1468
theorem lm_RX7_249 : LKM RX7 249 ⟨"LampMuralModel", "isNumber", "(I)Z"⟩ := Or.inl kw_1471
theorem lm_RX7_252 : LKM RX7 252 ⟨"LampMuralModel", "isCommand", "()Z"⟩ := Or.inl kw_1456
theorem lm_RX7_255 : LKM RX7 255 ⟨"LampMuralModel", "faultOfText", "()I"⟩ := Or.inl kw_1444
theorem lm_RX7_258 : LKM RX7 258 ⟨"LampMuralModel", "does", "()I"⟩ := Or.inl kw_1475
theorem lf_RX7_263 : LKF RX7 263 "LampMuralModel" "h" "J" := Or.inl kw_1109
theorem lm_RX7_267 : LKM RX7 267 ⟨"LampMuralModel", "mix", "(I)V"⟩ := Or.inl kw_1484
theorem lm_RX7_272 : LKM RX7 272 ⟨"LampMuralModel", "mixPlace", "(II)V"⟩ := Or.inl kw_1489
theorem lm_RJ0_335 : LKM RJ0 335 ⟨"java/lang/String", "coder", "()B"⟩ := Or.inl kw_467
theorem lm_RJ0_492 : LKM RJ0 492 ⟨"java/lang/String", "isLatin1", "()Z"⟩ := Or.inl kw_477
theorem lm_RJ0_495 : LKM RJ0 495 ⟨"java/lang/StringLatin1", "charAt", "([BI)C"⟩ := Or.inl kw_481
theorem lm_RJ0_498 : LKM RJ0 498 ⟨"java/lang/StringUTF16", "charAt", "([BI)C"⟩ := Or.inl kw_492
theorem lm_RJ0_1059 : LKM RJ0 1059 ⟨"jdk/internal/util/Preconditions", "checkIndex", "(IILjava/util/function/BiFunction;)I"⟩ := Or.inl kw_489
theorem lm_RJ1_9 : LKM RJ1 9 ⟨"java/lang/String", "checkIndex", "(II)V"⟩ := Or.inl kw_484
