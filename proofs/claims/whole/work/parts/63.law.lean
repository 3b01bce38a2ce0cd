abbrev mLaw : MD := (RL, yL_law, code, 7, ret, room_1)
theorem L_wid {kp : KPt} {M : MD} {HH : List (Nat × Nat × Nat × Nat)} {nc ns nc2 ns2 pc : Nat} {ls : List (Nat × Value)} {st : List Value} {ω : WDt} (h1 : nc ≤ nc2) (h2 : ns ≤ ns2) (k : XL kp M HH nc2 ns2 pc ls st ω) : XL kp M HH nc ns pc ls st ω := by
  intro p l e s m args below meth c H locs gl A lsA C0 hP hS hl
  exact W.widen (k := nc2) (n := ns2) h1 h2 (k p l e s m args below meth c H locs gl A lsA C0 hP hS hl)
theorem kl_0 : Cond.initialized "LampMuralLaw" ∈ WS := mW 81 (by decide +kernel) (by decide +kernel)
theorem kl_236 : Cond.methodLink "LampMuralLaw" 154 ⟨"LampMural", "dearestLamp", "()I"⟩ ∈ WS := mW 317 (by decide +kernel) (by decide +kernel)
theorem kl_333 : Cond.methodLink "LampMuralLaw" 170 ⟨"LampMural", "clearCommands", "()I"⟩ ∈ WS := mW 414 (by decide +kernel) (by decide +kernel)
theorem kl_345 : Cond.methodLink "LampMuralLaw" 174 ⟨"LampMural", "runCommands", "()I"⟩ ∈ WS := mW 426 (by decide +kernel) (by decide +kernel)
theorem kl_595 : Cond.methodLink "LampMuralLaw" 182 ⟨"LampMural", "digest", "()J"⟩ ∈ WS := mW 676 (by decide +kernel) (by decide +kernel)
theorem kl_696 : Cond.methodLink "LampMuralLaw" 92 ⟨"LampMuralLaw", "begin", "(LLampMural;II[J)I"⟩ ∈ WS := mW 777 (by decide +kernel) (by decide +kernel)
theorem kl_697 : Cond.static ⟨"LampMuralLaw", "begin", "(LLampMural;II[J)I"⟩ ∈ WS := mW 778 (by decide +kernel) (by decide +kernel)
theorem kl_698 : Cond.codeWith ⟨"LampMuralLaw", "begin", "(LLampMural;II[J)I"⟩ method_3_code 5 (some FieldType.int) [(0, 10, 13, 13)] ∈ WS := mW 779 (by decide +kernel) (by decide +kernel)
theorem kl_774 : Cond.methodLink "LampMuralLaw" 101 ⟨"LampMuralLaw", "paint", "(LLampMural;IIIII[J)I"⟩ ∈ WS := mW 855 (by decide +kernel) (by decide +kernel)
theorem kl_775 : Cond.static ⟨"LampMuralLaw", "paint", "(LLampMural;IIIII[J)I"⟩ ∈ WS := mW 856 (by decide +kernel) (by decide +kernel)
theorem kl_776 : Cond.codeWith ⟨"LampMuralLaw", "paint", "(LLampMural;IIIII[J)I"⟩ method_4_code 8 (some FieldType.int) [(0, 16, 19, 19), (0, 16, 23, 13)] ∈ WS := mW 857 (by decide +kernel) (by decide +kernel)
theorem kl_801 : Cond.methodLink "LampMuralLaw" 105 ⟨"LampMuralLaw", "addLamp", "(LLampMural;II[J)I"⟩ ∈ WS := mW 882 (by decide +kernel) (by decide +kernel)
theorem kl_802 : Cond.static ⟨"LampMuralLaw", "addLamp", "(LLampMural;II[J)I"⟩ ∈ WS := mW 883 (by decide +kernel) (by decide +kernel)
theorem kl_803 : Cond.codeWith ⟨"LampMuralLaw", "addLamp", "(LLampMural;II[J)I"⟩ method_5_code 5 (some FieldType.int) [(0, 10, 13, 13), (0, 10, 17, 24)] ∈ WS := mW 884 (by decide +kernel) (by decide +kernel)
theorem kl_828 : Cond.methodLink "LampMuralLaw" 108 ⟨"LampMuralLaw", "setCorner", "(LLampMural;IIII[J)I"⟩ ∈ WS := mW 909 (by decide +kernel) (by decide +kernel)
theorem kl_829 : Cond.static ⟨"LampMuralLaw", "setCorner", "(LLampMural;IIII[J)I"⟩ ∈ WS := mW 910 (by decide +kernel) (by decide +kernel)
theorem kl_830 : Cond.codeWith ⟨"LampMuralLaw", "setCorner", "(LLampMural;IIII[J)I"⟩ method_6_code 7 (some FieldType.int) [(0, 14, 17, 19), (0, 14, 21, 13)] ∈ WS := mW 911 (by decide +kernel) (by decide +kernel)
theorem kl_835 : Cond.methodLink "LampMuralLaw" 112 ⟨"LampMuralLaw", "setRectangle", "(LLampMural;IIIII[J)I"⟩ ∈ WS := mW 916 (by decide +kernel) (by decide +kernel)
theorem kl_836 : Cond.static ⟨"LampMuralLaw", "setRectangle", "(LLampMural;IIIII[J)I"⟩ ∈ WS := mW 917 (by decide +kernel) (by decide +kernel)
theorem kl_837 : Cond.codeWith ⟨"LampMuralLaw", "setRectangle", "(LLampMural;IIIII[J)I"⟩ method_7_code 8 (some FieldType.int) [(0, 16, 19, 19), (0, 16, 23, 13)] ∈ WS := mW 918 (by decide +kernel) (by decide +kernel)
theorem kl_846 : Cond.methodLink "LampMuralLaw" 115 ⟨"LampMuralLaw", "setLamp", "(LLampMural;III[J)I"⟩ ∈ WS := mW 927 (by decide +kernel) (by decide +kernel)
theorem kl_847 : Cond.static ⟨"LampMuralLaw", "setLamp", "(LLampMural;III[J)I"⟩ ∈ WS := mW 928 (by decide +kernel) (by decide +kernel)
theorem kl_848 : Cond.codeWith ⟨"LampMuralLaw", "setLamp", "(LLampMural;III[J)I"⟩ method_8_code 6 (some FieldType.int) [(0, 12, 15, 19), (0, 12, 19, 13)] ∈ WS := mW 929 (by decide +kernel) (by decide +kernel)
theorem kl_861 : Cond.methodLink "LampMuralLaw" 119 ⟨"LampMuralLaw", "setWorks", "(LLampMural;IZ[J)I"⟩ ∈ WS := mW 942 (by decide +kernel) (by decide +kernel)
theorem kl_862 : Cond.static ⟨"LampMuralLaw", "setWorks", "(LLampMural;IZ[J)I"⟩ ∈ WS := mW 943 (by decide +kernel) (by decide +kernel)
theorem kl_863 : Cond.codeWith ⟨"LampMuralLaw", "setWorks", "(LLampMural;IZ[J)I"⟩ method_9_code 5 (some FieldType.int) [(0, 10, 13, 19)] ∈ WS := mW 944 (by decide +kernel) (by decide +kernel)
theorem kl_868 : Cond.methodLink "LampMuralLaw" 123 ⟨"LampMuralLaw", "shift", "(LLampMural;II[J)I"⟩ ∈ WS := mW 949 (by decide +kernel) (by decide +kernel)
theorem kl_869 : Cond.static ⟨"LampMuralLaw", "shift", "(LLampMural;II[J)I"⟩ ∈ WS := mW 950 (by decide +kernel) (by decide +kernel)
theorem kl_870 : Cond.codeWith ⟨"LampMuralLaw", "shift", "(LLampMural;II[J)I"⟩ method_10_code 5 (some FieldType.int) [(0, 10, 13, 13)] ∈ WS := mW 951 (by decide +kernel) (by decide +kernel)
theorem kl_880 : Cond.methodLink "LampMuralLaw" 126 ⟨"LampMuralLaw", "burn", "(LLampMural;I[J)I"⟩ ∈ WS := mW 961 (by decide +kernel) (by decide +kernel)
theorem kl_881 : Cond.static ⟨"LampMuralLaw", "burn", "(LLampMural;I[J)I"⟩ ∈ WS := mW 962 (by decide +kernel) (by decide +kernel)
theorem kl_882 : Cond.codeWith ⟨"LampMuralLaw", "burn", "(LLampMural;I[J)I"⟩ method_11_code 4 (some FieldType.int) [(0, 9, 12, 13)] ∈ WS := mW 963 (by decide +kernel) (by decide +kernel)
theorem kl_892 : Cond.methodLink "LampMuralLaw" 130 ⟨"LampMuralLaw", "place", "(LLampMural;III[J)I"⟩ ∈ WS := mW 973 (by decide +kernel) (by decide +kernel)
theorem kl_893 : Cond.static ⟨"LampMuralLaw", "place", "(LLampMural;III[J)I"⟩ ∈ WS := mW 974 (by decide +kernel) (by decide +kernel)
theorem kl_894 : Cond.codeWith ⟨"LampMuralLaw", "place", "(LLampMural;III[J)I"⟩ method_12_code 6 (some FieldType.int) [(0, 12, 15, 19), (0, 12, 19, 13)] ∈ WS := mW 975 (by decide +kernel) (by decide +kernel)
theorem kl_904 : Cond.methodLink "LampMuralLaw" 133 ⟨"LampMuralLaw", "light", "(LLampMural;III[J)I"⟩ ∈ WS := mW 985 (by decide +kernel) (by decide +kernel)
theorem kl_905 : Cond.static ⟨"LampMuralLaw", "light", "(LLampMural;III[J)I"⟩ ∈ WS := mW 986 (by decide +kernel) (by decide +kernel)
theorem kl_906 : Cond.codeWith ⟨"LampMuralLaw", "light", "(LLampMural;III[J)I"⟩ method_13_code 6 (some FieldType.int) [(0, 12, 15, 19)] ∈ WS := mW 987 (by decide +kernel) (by decide +kernel)
theorem kl_911 : Cond.methodLink "LampMuralLaw" 136 ⟨"LampMuralLaw", "weight", "(LLampMural;III[J)I"⟩ ∈ WS := mW 992 (by decide +kernel) (by decide +kernel)
theorem kl_912 : Cond.static ⟨"LampMuralLaw", "weight", "(LLampMural;III[J)I"⟩ ∈ WS := mW 993 (by decide +kernel) (by decide +kernel)
theorem kl_913 : Cond.codeWith ⟨"LampMuralLaw", "weight", "(LLampMural;III[J)I"⟩ method_14_code 6 (some FieldType.int) [(0, 12, 15, 19)] ∈ WS := mW 994 (by decide +kernel) (by decide +kernel)
theorem kl_921 : Cond.methodLink "LampMuralLaw" 139 ⟨"LampMuralLaw", "lamp", "(LLampMural;II[J)I"⟩ ∈ WS := mW 1002 (by decide +kernel) (by decide +kernel)
theorem kl_922 : Cond.static ⟨"LampMuralLaw", "lamp", "(LLampMural;II[J)I"⟩ ∈ WS := mW 1003 (by decide +kernel) (by decide +kernel)
theorem kl_923 : Cond.codeWith ⟨"LampMuralLaw", "lamp", "(LLampMural;II[J)I"⟩ method_15_code 5 (some FieldType.int) [(0, 10, 13, 19), (0, 10, 17, 13)] ∈ WS := mW 1004 (by decide +kernel) (by decide +kernel)
theorem kl_928 : Cond.methodLink "LampMuralLaw" 142 ⟨"LampMuralLaw", "corner", "(LLampMural;III[J)I"⟩ ∈ WS := mW 1009 (by decide +kernel) (by decide +kernel)
theorem kl_929 : Cond.static ⟨"LampMuralLaw", "corner", "(LLampMural;III[J)I"⟩ ∈ WS := mW 1010 (by decide +kernel) (by decide +kernel)
theorem kl_930 : Cond.codeWith ⟨"LampMuralLaw", "corner", "(LLampMural;III[J)I"⟩ method_16_code 6 (some FieldType.int) [(0, 12, 15, 19), (0, 12, 19, 13)] ∈ WS := mW 1011 (by decide +kernel) (by decide +kernel)
theorem kl_935 : Cond.methodLink "LampMuralLaw" 145 ⟨"LampMuralLaw", "whole", "(LLampMural;I[J)I"⟩ ∈ WS := mW 1016 (by decide +kernel) (by decide +kernel)
theorem kl_936 : Cond.static ⟨"LampMuralLaw", "whole", "(LLampMural;I[J)I"⟩ ∈ WS := mW 1017 (by decide +kernel) (by decide +kernel)
theorem kl_937 : Cond.codeWith ⟨"LampMuralLaw", "whole", "(LLampMural;I[J)I"⟩ method_17_code 4 (some FieldType.int) [(0, 9, 12, 13)] ∈ WS := mW 1018 (by decide +kernel) (by decide +kernel)
theorem kl_942 : Cond.methodLink "LampMuralLaw" 148 ⟨"LampMuralLaw", "wrong", "(LLampMural;I[J)I"⟩ ∈ WS := mW 1023 (by decide +kernel) (by decide +kernel)
theorem kl_943 : Cond.static ⟨"LampMuralLaw", "wrong", "(LLampMural;I[J)I"⟩ ∈ WS := mW 1024 (by decide +kernel) (by decide +kernel)
theorem kl_944 : Cond.codeWith ⟨"LampMuralLaw", "wrong", "(LLampMural;I[J)I"⟩ method_18_code 4 (some FieldType.int) [(0, 9, 12, 13)] ∈ WS := mW 1025 (by decide +kernel) (by decide +kernel)
theorem kl_949 : Cond.methodLink "LampMuralLaw" 151 ⟨"LampMuralLaw", "wrongWithout", "(LLampMural;I[J)I"⟩ ∈ WS := mW 1030 (by decide +kernel) (by decide +kernel)
theorem kl_950 : Cond.static ⟨"LampMuralLaw", "wrongWithout", "(LLampMural;I[J)I"⟩ ∈ WS := mW 1031 (by decide +kernel) (by decide +kernel)
theorem kl_951 : Cond.codeWith ⟨"LampMuralLaw", "wrongWithout", "(LLampMural;I[J)I"⟩ method_19_code 4 (some FieldType.int) [(0, 9, 12, 19)] ∈ WS := mW 1032 (by decide +kernel) (by decide +kernel)
theorem kl_956 : Cond.methodLink "LampMuralLaw" 158 ⟨"LampMuralLaw", "wrongShifted", "(LLampMural;II[J)I"⟩ ∈ WS := mW 1037 (by decide +kernel) (by decide +kernel)
theorem kl_957 : Cond.static ⟨"LampMuralLaw", "wrongShifted", "(LLampMural;II[J)I"⟩ ∈ WS := mW 1038 (by decide +kernel) (by decide +kernel)
theorem kl_958 : Cond.codeWith ⟨"LampMuralLaw", "wrongShifted", "(LLampMural;II[J)I"⟩ method_20_code 5 (some FieldType.int) [(0, 10, 13, 13)] ∈ WS := mW 1039 (by decide +kernel) (by decide +kernel)
theorem kl_963 : Cond.methodLink "LampMuralLaw" 161 ⟨"LampMuralLaw", "bestShift", "(LLampMural;I[J)I"⟩ ∈ WS := mW 1044 (by decide +kernel) (by decide +kernel)
theorem kl_964 : Cond.static ⟨"LampMuralLaw", "bestShift", "(LLampMural;I[J)I"⟩ ∈ WS := mW 1045 (by decide +kernel) (by decide +kernel)
theorem kl_965 : Cond.codeWith ⟨"LampMuralLaw", "bestShift", "(LLampMural;I[J)I"⟩ method_21_code 4 (some FieldType.int) [(0, 9, 12, 13)] ∈ WS := mW 1046 (by decide +kernel) (by decide +kernel)
theorem kl_970 : Cond.methodLink "LampMuralLaw" 164 ⟨"LampMuralLaw", "neededLimit", "(LLampMural;I[J)I"⟩ ∈ WS := mW 1051 (by decide +kernel) (by decide +kernel)
theorem kl_971 : Cond.static ⟨"LampMuralLaw", "neededLimit", "(LLampMural;I[J)I"⟩ ∈ WS := mW 1052 (by decide +kernel) (by decide +kernel)
theorem kl_972 : Cond.codeWith ⟨"LampMuralLaw", "neededLimit", "(LLampMural;I[J)I"⟩ method_22_code 4 (some FieldType.int) [(0, 9, 12, 19)] ∈ WS := mW 1053 (by decide +kernel) (by decide +kernel)
theorem kl_978 : Cond.methodLink "LampMuralLaw" 167 ⟨"LampMuralLaw", "type", "(LLampMural;I[J)I"⟩ ∈ WS := mW 1059 (by decide +kernel) (by decide +kernel)
theorem kl_979 : Cond.static ⟨"LampMuralLaw", "type", "(LLampMural;I[J)I"⟩ ∈ WS := mW 1060 (by decide +kernel) (by decide +kernel)
theorem kl_980 : Cond.codeWith ⟨"LampMuralLaw", "type", "(LLampMural;I[J)I"⟩ method_23_code 4 (some FieldType.int) [(0, 9, 12, 13), (0, 9, 15, 24)] ∈ WS := mW 1061 (by decide +kernel) (by decide +kernel)
theorem kl_989 : Cond.methodLink "LampMuralLaw" 178 ⟨"LampMuralLaw", "undo", "(LLampMural;[J)I"⟩ ∈ WS := mW 1070 (by decide +kernel) (by decide +kernel)
theorem kl_990 : Cond.static ⟨"LampMuralLaw", "undo", "(LLampMural;[J)I"⟩ ∈ WS := mW 1071 (by decide +kernel) (by decide +kernel)
theorem kl_991 : Cond.codeWith ⟨"LampMuralLaw", "undo", "(LLampMural;[J)I"⟩ method_24_code 3 (some FieldType.int) [(0, 8, 11, 24)] ∈ WS := mW 1072 (by decide +kernel) (by decide +kernel)
theorem kl_1076 : Cond.methodLink "LampMuralLaw" 98 ⟨"LampMuralModel", "thrown", "()I"⟩ ∈ WS := mW 1157 (by decide +kernel) (by decide +kernel)
theorem kl_1080 : Cond.methodLink "LampMuralLaw" 181 ⟨"LampMuralModel", "undo", "()I"⟩ ∈ WS := mW 1161 (by decide +kernel) (by decide +kernel)
theorem kl_1092 : Cond.methodLink "LampMuralLaw" 97 ⟨"LampMuralModel", "begin", "(II)I"⟩ ∈ WS := mW 1173 (by decide +kernel) (by decide +kernel)
theorem kl_1115 : Cond.methodLink "LampMuralLaw" 104 ⟨"LampMuralModel", "paint", "(IIIII)I"⟩ ∈ WS := mW 1196 (by decide +kernel) (by decide +kernel)
theorem kl_1131 : Cond.methodLink "LampMuralLaw" 107 ⟨"LampMuralModel", "addLamp", "(II)I"⟩ ∈ WS := mW 1212 (by decide +kernel) (by decide +kernel)
theorem kl_1143 : Cond.methodLink "LampMuralLaw" 111 ⟨"LampMuralModel", "setCorner", "(IIII)I"⟩ ∈ WS := mW 1224 (by decide +kernel) (by decide +kernel)
theorem kl_1174 : Cond.methodLink "LampMuralLaw" 114 ⟨"LampMuralModel", "setRectangle", "(IIIII)I"⟩ ∈ WS := mW 1255 (by decide +kernel) (by decide +kernel)
theorem kl_1223 : Cond.methodLink "LampMuralLaw" 118 ⟨"LampMuralModel", "setLamp", "(III)I"⟩ ∈ WS := mW 1304 (by decide +kernel) (by decide +kernel)
theorem kl_1227 : Cond.methodLink "LampMuralLaw" 122 ⟨"LampMuralModel", "setWorks", "(IZ)I"⟩ ∈ WS := mW 1308 (by decide +kernel) (by decide +kernel)
theorem kl_1235 : Cond.methodLink "LampMuralLaw" 125 ⟨"LampMuralModel", "shift", "(II)I"⟩ ∈ WS := mW 1316 (by decide +kernel) (by decide +kernel)
theorem kl_1251 : Cond.methodLink "LampMuralLaw" 129 ⟨"LampMuralModel", "burn", "(I)I"⟩ ∈ WS := mW 1332 (by decide +kernel) (by decide +kernel)
theorem kl_1263 : Cond.methodLink "LampMuralLaw" 132 ⟨"LampMuralModel", "place", "(III)I"⟩ ∈ WS := mW 1344 (by decide +kernel) (by decide +kernel)
theorem kl_1275 : Cond.methodLink "LampMuralLaw" 135 ⟨"LampMuralModel", "light", "(III)I"⟩ ∈ WS := mW 1356 (by decide +kernel) (by decide +kernel)
theorem kl_1283 : Cond.methodLink "LampMuralLaw" 138 ⟨"LampMuralModel", "weight", "(III)I"⟩ ∈ WS := mW 1364 (by decide +kernel) (by decide +kernel)
theorem kl_1287 : Cond.methodLink "LampMuralLaw" 141 ⟨"LampMuralModel", "lamp", "(II)I"⟩ ∈ WS := mW 1368 (by decide +kernel) (by decide +kernel)
theorem kl_1295 : Cond.methodLink "LampMuralLaw" 144 ⟨"LampMuralModel", "corner", "(III)I"⟩ ∈ WS := mW 1376 (by decide +kernel) (by decide +kernel)
theorem kl_1299 : Cond.methodLink "LampMuralLaw" 147 ⟨"LampMuralModel", "whole", "(I)I"⟩ ∈ WS := mW 1380 (by decide +kernel) (by decide +kernel)
theorem kl_1315 : Cond.methodLink "LampMuralLaw" 150 ⟨"LampMuralModel", "wrong", "(I)I"⟩ ∈ WS := mW 1396 (by decide +kernel) (by decide +kernel)
theorem kl_1319 : Cond.methodLink "LampMuralLaw" 153 ⟨"LampMuralModel", "wrongWithout", "(I)I"⟩ ∈ WS := mW 1400 (by decide +kernel) (by decide +kernel)
theorem kl_1327 : Cond.methodLink "LampMuralLaw" 157 ⟨"LampMuralModel", "dearestLamp", "()I"⟩ ∈ WS := mW 1408 (by decide +kernel) (by decide +kernel)
theorem kl_1331 : Cond.methodLink "LampMuralLaw" 160 ⟨"LampMuralModel", "wrongShifted", "(II)I"⟩ ∈ WS := mW 1412 (by decide +kernel) (by decide +kernel)
theorem kl_1343 : Cond.methodLink "LampMuralLaw" 163 ⟨"LampMuralModel", "bestShift", "(I)I"⟩ ∈ WS := mW 1424 (by decide +kernel) (by decide +kernel)
theorem kl_1347 : Cond.methodLink "LampMuralLaw" 166 ⟨"LampMuralModel", "neededLimit", "(I)I"⟩ ∈ WS := mW 1428 (by decide +kernel) (by decide +kernel)
theorem kl_1351 : Cond.methodLink "LampMuralLaw" 169 ⟨"LampMuralModel", "type", "(I)I"⟩ ∈ WS := mW 1432 (by decide +kernel) (by decide +kernel)
theorem kl_1355 : Cond.methodLink "LampMuralLaw" 173 ⟨"LampMuralModel", "clearCommands", "()I"⟩ ∈ WS := mW 1436 (by decide +kernel) (by decide +kernel)
theorem kl_1359 : Cond.methodLink "LampMuralLaw" 177 ⟨"LampMuralModel", "runCommands", "()I"⟩ ∈ WS := mW 1440 (by decide +kernel) (by decide +kernel)
theorem kl_1398 : Cond.methodLink "LampMuralLaw" 186 ⟨"LampMuralModel", "digest", "()J"⟩ ∈ WS := mW 1479 (by decide +kernel) (by decide +kernel)
theorem c_law_begin {sc : Nat × (Nat → Int32)} {HH : List (Nat × Nat × Nat × Nat)} {nc ns i : Nat} {ω : WDt} (h : REL ω.1 ω.2.1) (hi : i + 6 ≤ sc.1) (hL : sc.1 ≤ 3072) (hc : nc + 1 ≤ 601024) (hs : ns + 6 ≤ 7293034) (hk : ∀ ω2 : WDt, REL ω2.1 ω2.2.1 → XL (.inr sc) mLaw HH (nc + 1) (ns + 6) 1773 [(0, .ref 3), (1, .ref 0), (2, .ref 1), (3, .ref 2), (4, .int (nI i))] [] ω2) : XL (.inr sc) mLaw HH nc ns 160 [(0, .ref 3), (1, .ref 0), (2, .ref 1), (3, .ref 2), (4, .int (nI i))] [] ω := by
  refine L_aload_n 160 1 dL_law_160 rfl rfl ?_
  refine L_aload_n 161 0 dL_law_161 rfl rfl ?_
  refine L_iload 162 4 dL_law_162 rfl ?_
  refine L_iconst 164 1 dL_law_164 (by decide) ?_
  refine L_iadd 165 dL_law_165 ?_
  rw [show nI i + 1 = nI (i + 1) from nI_add i 1]
  refine L_sld 166 dL_law_166 (by omega) (by omega) ?_
  refine L_aload_n 167 0 dL_law_167 rfl rfl ?_
  refine L_iload 168 4 dL_law_168 rfl ?_
  refine L_iconst 170 2 dL_law_170 (by decide) ?_
  refine L_iadd 171 dL_law_171 ?_
  rw [show nI i + 2 = nI (i + 2) from nI_add i 2]
  refine L_sld 172 dL_law_172 (by omega) (by omega) ?_
  refine L_aload_n 173 3 dL_law_173 rfl rfl ?_
  refine L_callW 174 [.ref 0, .int (sc.2 (i + 1)), .int (sc.2 (i + 2)), .ref 2] (w_begin (sc.2 (i + 1)) (sc.2 (i + 2)) ω h) dL_law_174 kl_696 kl_698 kl_0 kl_697 (by decide) (show _ = some 4 from by decide +kernel) ⟨Nat.le_of_ble_eq_true rfl, Nat.le_of_ble_eq_true rfl⟩ ⟨rfl, rfl⟩ ⟨hc, hs⟩ rfl (Nat.le_of_ble_eq_true rfl) ?_
  rintro r ω2 ⟨hμ, ⟨rfl, v, hv, S, hE, hw⟩ | ⟨hr0, S, hE, hw⟩⟩
  · rw [← hμ] at hE
    refine L_istore 177 _ dL_law_177 (by decide) rfl ?_
    refine L_aload_n 179 3 dL_law_179 rfl rfl ?_
    refine L_aload_n 180 1 dL_law_180 rfl rfl ?_
    refine L_iload 181 5 dL_law_181 rfl ?_
    refine L_iconst 183 1 dL_law_183 (by decide) ?_
    refine L_iadd 184 dL_law_184 ?_
    rw [show nI i + 1 = nI (i + 1) from nI_add i 1]
    refine L_sld 185 dL_law_185 (by omega) (by omega) ?_
    refine L_aload_n 186 1 dL_law_186 rfl rfl ?_
    refine L_iload 187 5 dL_law_187 rfl ?_
    refine L_iconst 189 2 dL_law_189 (by decide) ?_
    refine L_iadd 190 dL_law_190 ?_
    rw [show nI i + 2 = nI (i + 2) from nI_add i 2]
    refine L_sld 191 dL_law_191 (by omega) (by omega) ?_
    refine L_callM 192 [.int (sc.2 (i + 1)), .int (sc.2 (i + 2))] (fun _ => rfl) hE (by rintro r m ⟨x, rfl, _⟩ _; rfl) dL_law_192 kl_1092 wm_X7_begin (show _ = some 2 from by decide +kernel) ⟨Nat.le_of_ble_eq_true rfl, Nat.le_of_ble_eq_true rfl⟩ ⟨rfl, rfl⟩ rfl ⟨by show _ ≤ 601024; omega, by show _ ≤ 7293034; omega⟩ rfl (Nat.le_of_ble_eq_true rfl) ?_
    rintro _ μ3 ⟨w, rfl, hw3⟩
    obtain ⟨e1, e2, hRel⟩ := hw w μ3 hw3
    refine L_istore 195 _ dL_law_195 (by decide) rfl ?_
    refine L_aload_n 197 4 dL_law_197 rfl rfl ?_
    refine L_callM 198 [] (fun _ => rfl) (e_X7_thrown _) (by rintro r m ⟨x, rfl, _⟩ _; rfl) dL_law_198 kl_1076 wm_X7_thrown (show _ = some 0 from by decide +kernel) ⟨Nat.le_of_ble_eq_true rfl, Nat.le_of_ble_eq_true rfl⟩ ⟨rfl, rfl⟩ rfl ⟨by show _ ≤ 601024; omega, by show _ ≤ 7293034; omega⟩ rfl (Nat.le_of_ble_eq_true rfl) ?_
    rintro _ _ ⟨_, rfl, rfl, rfl⟩
    refine L_iload 201 1 dL_law_201 rfl ?_
    refine L_icmp_eq 203 208 dL_law_203 (by decide) (fun _ => ?_) (fun c_0 => absurd (e2) c_0)
    refine L_iload 208 1 dL_law_208 rfl ?_
    refine L_if_ne 210 225 dL_law_210 (by decide) (fun c_0 => absurd rfl c_0) (fun _ => ?_)
    refine L_aload_n 213 5 dL_law_213 rfl rfl ?_
    refine L_iconst 214 0 dL_law_214 (by decide) ?_
    refine L_laload 215 dL_law_215 ?_
    refine L_iload 216 0 dL_law_216 rfl ?_
    refine L_i2l 218 dL_law_218 ?_
    refine L_lcmp 219 dL_law_219 (by rw [e1]; exact hv) ?_
    refine L_if_eq 220 225 dL_law_220 (by decide) (fun _ => ?_) (fun c_0 => absurd rfl c_0)
    refine L_goto 225 1773 dL_law_225 (by decide) ?_
    refine L_sub [2, 3, 4, 5, 6] _ rfl ?_
    exact hk _ hRel
  · rw [← hμ] at hE
    refine L_istore 177 _ dL_law_177 (by decide) rfl ?_
    refine L_aload_n 179 3 dL_law_179 rfl rfl ?_
    refine L_aload_n 180 1 dL_law_180 rfl rfl ?_
    refine L_iload 181 5 dL_law_181 rfl ?_
    refine L_iconst 183 1 dL_law_183 (by decide) ?_
    refine L_iadd 184 dL_law_184 ?_
    rw [show nI i + 1 = nI (i + 1) from nI_add i 1]
    refine L_sld 185 dL_law_185 (by omega) (by omega) ?_
    refine L_aload_n 186 1 dL_law_186 rfl rfl ?_
    refine L_iload 187 5 dL_law_187 rfl ?_
    refine L_iconst 189 2 dL_law_189 (by decide) ?_
    refine L_iadd 190 dL_law_190 ?_
    rw [show nI i + 2 = nI (i + 2) from nI_add i 2]
    refine L_sld 191 dL_law_191 (by omega) (by omega) ?_
    refine L_callM 192 [.int (sc.2 (i + 1)), .int (sc.2 (i + 2))] (fun _ => rfl) hE (by rintro r m ⟨x, rfl, _⟩ _; rfl) dL_law_192 kl_1092 wm_X7_begin (show _ = some 2 from by decide +kernel) ⟨Nat.le_of_ble_eq_true rfl, Nat.le_of_ble_eq_true rfl⟩ ⟨rfl, rfl⟩ rfl ⟨by show _ ≤ 601024; omega, by show _ ≤ 7293034; omega⟩ rfl (Nat.le_of_ble_eq_true rfl) ?_
    rintro _ μ3 ⟨w, rfl, hw3⟩
    obtain ⟨e2, hRel⟩ := hw w μ3 hw3
    refine L_istore 195 _ dL_law_195 (by decide) rfl ?_
    refine L_aload_n 197 4 dL_law_197 rfl rfl ?_
    refine L_callM 198 [] (fun _ => rfl) (e_X7_thrown _) (by rintro r m ⟨x, rfl, _⟩ _; rfl) dL_law_198 kl_1076 wm_X7_thrown (show _ = some 0 from by decide +kernel) ⟨Nat.le_of_ble_eq_true rfl, Nat.le_of_ble_eq_true rfl⟩ ⟨rfl, rfl⟩ rfl ⟨by show _ ≤ 601024; omega, by show _ ≤ 7293034; omega⟩ rfl (Nat.le_of_ble_eq_true rfl) ?_
    rintro _ _ ⟨_, rfl, rfl, rfl⟩
    refine L_iload 201 1 dL_law_201 rfl ?_
    refine L_icmp_eq 203 208 dL_law_203 (by decide) (fun _ => ?_) (fun c_0 => absurd (e2) c_0)
    refine L_iload 208 1 dL_law_208 rfl ?_
    refine L_if_ne 210 225 dL_law_210 (by decide) (fun _ => ?_) (fun c_0 => absurd c_0 hr0)
    refine L_goto 225 1773 dL_law_225 (by decide) ?_
    refine L_sub [2, 3, 4, 5, 6] _ rfl ?_
    exact hk _ hRel
theorem c_law_paint {sc : Nat × (Nat → Int32)} {HH : List (Nat × Nat × Nat × Nat)} {nc ns i : Nat} {ω : WDt} (h : REL ω.1 ω.2.1) (hi : i + 6 ≤ sc.1) (hL : sc.1 ≤ 3072) (hc : nc + 1 ≤ 601024) (hs : ns + 6 ≤ 7293034) (hk : ∀ ω2 : WDt, REL ω2.1 ω2.2.1 → XL (.inr sc) mLaw HH (nc + 1) (ns + 6) 1773 [(0, .ref 3), (1, .ref 0), (2, .ref 1), (3, .ref 2), (4, .int (nI i))] [] ω2) : XL (.inr sc) mLaw HH nc ns 228 [(0, .ref 3), (1, .ref 0), (2, .ref 1), (3, .ref 2), (4, .int (nI i))] [] ω := by
  refine L_aload_n 228 1 dL_law_228 rfl rfl ?_
  refine L_aload_n 229 0 dL_law_229 rfl rfl ?_
  refine L_iload 230 4 dL_law_230 rfl ?_
  refine L_iconst 232 1 dL_law_232 (by decide) ?_
  refine L_iadd 233 dL_law_233 ?_
  rw [show nI i + 1 = nI (i + 1) from nI_add i 1]
  refine L_sld 234 dL_law_234 (by omega) (by omega) ?_
  refine L_aload_n 235 0 dL_law_235 rfl rfl ?_
  refine L_iload 236 4 dL_law_236 rfl ?_
  refine L_iconst 238 2 dL_law_238 (by decide) ?_
  refine L_iadd 239 dL_law_239 ?_
  rw [show nI i + 2 = nI (i + 2) from nI_add i 2]
  refine L_sld 240 dL_law_240 (by omega) (by omega) ?_
  refine L_aload_n 241 0 dL_law_241 rfl rfl ?_
  refine L_iload 242 4 dL_law_242 rfl ?_
  refine L_iconst 244 3 dL_law_244 (by decide) ?_
  refine L_iadd 245 dL_law_245 ?_
  rw [show nI i + 3 = nI (i + 3) from nI_add i 3]
  refine L_sld 246 dL_law_246 (by omega) (by omega) ?_
  refine L_aload_n 247 0 dL_law_247 rfl rfl ?_
  refine L_iload 248 4 dL_law_248 rfl ?_
  refine L_iconst 250 4 dL_law_250 (by decide) ?_
  refine L_iadd 251 dL_law_251 ?_
  rw [show nI i + 4 = nI (i + 4) from nI_add i 4]
  refine L_sld 252 dL_law_252 (by omega) (by omega) ?_
  refine L_aload_n 253 0 dL_law_253 rfl rfl ?_
  refine L_iload 254 4 dL_law_254 rfl ?_
  refine L_iconst 256 5 dL_law_256 (by decide) ?_
  refine L_iadd 257 dL_law_257 ?_
  rw [show nI i + 5 = nI (i + 5) from nI_add i 5]
  refine L_sld 258 dL_law_258 (by omega) (by omega) ?_
  refine L_aload_n 259 3 dL_law_259 rfl rfl ?_
  refine L_callW 260 [.ref 0, .int (sc.2 (i + 1)), .int (sc.2 (i + 2)), .int (sc.2 (i + 3)), .int (sc.2 (i + 4)), .int (sc.2 (i + 5)), .ref 2] (w_paint (sc.2 (i + 1)) (sc.2 (i + 2)) (sc.2 (i + 3)) (sc.2 (i + 4)) (sc.2 (i + 5)) ω h) dL_law_260 kl_774 kl_776 kl_0 kl_775 (by decide) (show _ = some 7 from by decide +kernel) ⟨Nat.le_of_ble_eq_true rfl, Nat.le_of_ble_eq_true rfl⟩ ⟨rfl, rfl⟩ ⟨hc, hs⟩ rfl (Nat.le_of_ble_eq_true rfl) ?_
  rintro r ω2 ⟨hμ, ⟨rfl, v, hv, S, hE, hw⟩ | ⟨hr0, S, hE, hw⟩⟩
  · rw [← hμ] at hE
    refine L_istore 263 _ dL_law_263 (by decide) rfl ?_
    refine L_aload_n 265 3 dL_law_265 rfl rfl ?_
    refine L_aload_n 266 1 dL_law_266 rfl rfl ?_
    refine L_iload 267 5 dL_law_267 rfl ?_
    refine L_iconst 269 1 dL_law_269 (by decide) ?_
    refine L_iadd 270 dL_law_270 ?_
    rw [show nI i + 1 = nI (i + 1) from nI_add i 1]
    refine L_sld 271 dL_law_271 (by omega) (by omega) ?_
    refine L_aload_n 272 1 dL_law_272 rfl rfl ?_
    refine L_iload 273 5 dL_law_273 rfl ?_
    refine L_iconst 275 2 dL_law_275 (by decide) ?_
    refine L_iadd 276 dL_law_276 ?_
    rw [show nI i + 2 = nI (i + 2) from nI_add i 2]
    refine L_sld 277 dL_law_277 (by omega) (by omega) ?_
    refine L_aload_n 278 1 dL_law_278 rfl rfl ?_
    refine L_iload 279 5 dL_law_279 rfl ?_
    refine L_iconst 281 3 dL_law_281 (by decide) ?_
    refine L_iadd 282 dL_law_282 ?_
    rw [show nI i + 3 = nI (i + 3) from nI_add i 3]
    refine L_sld 283 dL_law_283 (by omega) (by omega) ?_
    refine L_aload_n 284 1 dL_law_284 rfl rfl ?_
    refine L_iload 285 5 dL_law_285 rfl ?_
    refine L_iconst 287 4 dL_law_287 (by decide) ?_
    refine L_iadd 288 dL_law_288 ?_
    rw [show nI i + 4 = nI (i + 4) from nI_add i 4]
    refine L_sld 289 dL_law_289 (by omega) (by omega) ?_
    refine L_aload_n 290 1 dL_law_290 rfl rfl ?_
    refine L_iload 291 5 dL_law_291 rfl ?_
    refine L_iconst 293 5 dL_law_293 (by decide) ?_
    refine L_iadd 294 dL_law_294 ?_
    rw [show nI i + 5 = nI (i + 5) from nI_add i 5]
    refine L_sld 295 dL_law_295 (by omega) (by omega) ?_
    refine L_callM 296 [.int (sc.2 (i + 1)), .int (sc.2 (i + 2)), .int (sc.2 (i + 3)), .int (sc.2 (i + 4)), .int (sc.2 (i + 5))] (fun _ => rfl) hE (by rintro r m ⟨x, rfl, _⟩ _; rfl) dL_law_296 kl_1115 wm_X7_paint (show _ = some 5 from by decide +kernel) ⟨Nat.le_of_ble_eq_true rfl, Nat.le_of_ble_eq_true rfl⟩ ⟨rfl, rfl⟩ rfl ⟨by show _ ≤ 601024; omega, by show _ ≤ 7293034; omega⟩ rfl (Nat.le_of_ble_eq_true rfl) ?_
    rintro _ μ3 ⟨w, rfl, hw3⟩
    obtain ⟨e1, e2, hRel⟩ := hw w μ3 hw3
    refine L_istore 299 _ dL_law_299 (by decide) rfl ?_
    refine L_aload_n 301 4 dL_law_301 rfl rfl ?_
    refine L_callM 302 [] (fun _ => rfl) (e_X7_thrown _) (by rintro r m ⟨x, rfl, _⟩ _; rfl) dL_law_302 kl_1076 wm_X7_thrown (show _ = some 0 from by decide +kernel) ⟨Nat.le_of_ble_eq_true rfl, Nat.le_of_ble_eq_true rfl⟩ ⟨rfl, rfl⟩ rfl ⟨by show _ ≤ 601024; omega, by show _ ≤ 7293034; omega⟩ rfl (Nat.le_of_ble_eq_true rfl) ?_
    rintro _ _ ⟨_, rfl, rfl, rfl⟩
    refine L_iload 305 1 dL_law_305 rfl ?_
    refine L_icmp_eq 307 312 dL_law_307 (by decide) (fun _ => ?_) (fun c_0 => absurd (e2) c_0)
    refine L_iload 312 1 dL_law_312 rfl ?_
    refine L_if_ne 314 329 dL_law_314 (by decide) (fun c_0 => absurd rfl c_0) (fun _ => ?_)
    refine L_aload_n 317 5 dL_law_317 rfl rfl ?_
    refine L_iconst 318 0 dL_law_318 (by decide) ?_
    refine L_laload 319 dL_law_319 ?_
    refine L_iload 320 0 dL_law_320 rfl ?_
    refine L_i2l 322 dL_law_322 ?_
    refine L_lcmp 323 dL_law_323 (by rw [e1]; exact hv) ?_
    refine L_if_eq 324 329 dL_law_324 (by decide) (fun _ => ?_) (fun c_0 => absurd rfl c_0)
    refine L_goto 329 1773 dL_law_329 (by decide) ?_
    refine L_sub [2, 3, 4, 5, 6] _ rfl ?_
    exact hk _ hRel
  · rw [← hμ] at hE
    refine L_istore 263 _ dL_law_263 (by decide) rfl ?_
    refine L_aload_n 265 3 dL_law_265 rfl rfl ?_
    refine L_aload_n 266 1 dL_law_266 rfl rfl ?_
    refine L_iload 267 5 dL_law_267 rfl ?_
    refine L_iconst 269 1 dL_law_269 (by decide) ?_
    refine L_iadd 270 dL_law_270 ?_
    rw [show nI i + 1 = nI (i + 1) from nI_add i 1]
    refine L_sld 271 dL_law_271 (by omega) (by omega) ?_
    refine L_aload_n 272 1 dL_law_272 rfl rfl ?_
    refine L_iload 273 5 dL_law_273 rfl ?_
    refine L_iconst 275 2 dL_law_275 (by decide) ?_
    refine L_iadd 276 dL_law_276 ?_
    rw [show nI i + 2 = nI (i + 2) from nI_add i 2]
    refine L_sld 277 dL_law_277 (by omega) (by omega) ?_
    refine L_aload_n 278 1 dL_law_278 rfl rfl ?_
    refine L_iload 279 5 dL_law_279 rfl ?_
    refine L_iconst 281 3 dL_law_281 (by decide) ?_
    refine L_iadd 282 dL_law_282 ?_
    rw [show nI i + 3 = nI (i + 3) from nI_add i 3]
    refine L_sld 283 dL_law_283 (by omega) (by omega) ?_
    refine L_aload_n 284 1 dL_law_284 rfl rfl ?_
    refine L_iload 285 5 dL_law_285 rfl ?_
    refine L_iconst 287 4 dL_law_287 (by decide) ?_
    refine L_iadd 288 dL_law_288 ?_
    rw [show nI i + 4 = nI (i + 4) from nI_add i 4]
    refine L_sld 289 dL_law_289 (by omega) (by omega) ?_
    refine L_aload_n 290 1 dL_law_290 rfl rfl ?_
    refine L_iload 291 5 dL_law_291 rfl ?_
    refine L_iconst 293 5 dL_law_293 (by decide) ?_
    refine L_iadd 294 dL_law_294 ?_
    rw [show nI i + 5 = nI (i + 5) from nI_add i 5]
    refine L_sld 295 dL_law_295 (by omega) (by omega) ?_
    refine L_callM 296 [.int (sc.2 (i + 1)), .int (sc.2 (i + 2)), .int (sc.2 (i + 3)), .int (sc.2 (i + 4)), .int (sc.2 (i + 5))] (fun _ => rfl) hE (by rintro r m ⟨x, rfl, _⟩ _; rfl) dL_law_296 kl_1115 wm_X7_paint (show _ = some 5 from by decide +kernel) ⟨Nat.le_of_ble_eq_true rfl, Nat.le_of_ble_eq_true rfl⟩ ⟨rfl, rfl⟩ rfl ⟨by show _ ≤ 601024; omega, by show _ ≤ 7293034; omega⟩ rfl (Nat.le_of_ble_eq_true rfl) ?_
    rintro _ μ3 ⟨w, rfl, hw3⟩
    obtain ⟨e2, hRel⟩ := hw w μ3 hw3
    refine L_istore 299 _ dL_law_299 (by decide) rfl ?_
    refine L_aload_n 301 4 dL_law_301 rfl rfl ?_
    refine L_callM 302 [] (fun _ => rfl) (e_X7_thrown _) (by rintro r m ⟨x, rfl, _⟩ _; rfl) dL_law_302 kl_1076 wm_X7_thrown (show _ = some 0 from by decide +kernel) ⟨Nat.le_of_ble_eq_true rfl, Nat.le_of_ble_eq_true rfl⟩ ⟨rfl, rfl⟩ rfl ⟨by show _ ≤ 601024; omega, by show _ ≤ 7293034; omega⟩ rfl (Nat.le_of_ble_eq_true rfl) ?_
    rintro _ _ ⟨_, rfl, rfl, rfl⟩
    refine L_iload 305 1 dL_law_305 rfl ?_
    refine L_icmp_eq 307 312 dL_law_307 (by decide) (fun _ => ?_) (fun c_0 => absurd (e2) c_0)
    refine L_iload 312 1 dL_law_312 rfl ?_
    refine L_if_ne 314 329 dL_law_314 (by decide) (fun _ => ?_) (fun c_0 => absurd c_0 hr0)
    refine L_goto 329 1773 dL_law_329 (by decide) ?_
    refine L_sub [2, 3, 4, 5, 6] _ rfl ?_
    exact hk _ hRel
theorem c_law_addLamp {sc : Nat × (Nat → Int32)} {HH : List (Nat × Nat × Nat × Nat)} {nc ns i : Nat} {ω : WDt} (h : REL ω.1 ω.2.1) (hi : i + 6 ≤ sc.1) (hL : sc.1 ≤ 3072) (hc : nc + 1 ≤ 601024) (hs : ns + 6 ≤ 7293034) (hk : ∀ ω2 : WDt, REL ω2.1 ω2.2.1 → XL (.inr sc) mLaw HH (nc + 1) (ns + 6) 1773 [(0, .ref 3), (1, .ref 0), (2, .ref 1), (3, .ref 2), (4, .int (nI i))] [] ω2) : XL (.inr sc) mLaw HH nc ns 332 [(0, .ref 3), (1, .ref 0), (2, .ref 1), (3, .ref 2), (4, .int (nI i))] [] ω := by
  refine L_aload_n 332 1 dL_law_332 rfl rfl ?_
  refine L_aload_n 333 0 dL_law_333 rfl rfl ?_
  refine L_iload 334 4 dL_law_334 rfl ?_
  refine L_iconst 336 1 dL_law_336 (by decide) ?_
  refine L_iadd 337 dL_law_337 ?_
  rw [show nI i + 1 = nI (i + 1) from nI_add i 1]
  refine L_sld 338 dL_law_338 (by omega) (by omega) ?_
  refine L_aload_n 339 0 dL_law_339 rfl rfl ?_
  refine L_iload 340 4 dL_law_340 rfl ?_
  refine L_iconst 342 2 dL_law_342 (by decide) ?_
  refine L_iadd 343 dL_law_343 ?_
  rw [show nI i + 2 = nI (i + 2) from nI_add i 2]
  refine L_sld 344 dL_law_344 (by omega) (by omega) ?_
  refine L_aload_n 345 3 dL_law_345 rfl rfl ?_
  refine L_callW 346 [.ref 0, .int (sc.2 (i + 1)), .int (sc.2 (i + 2)), .ref 2] (w_addLamp (sc.2 (i + 1)) (sc.2 (i + 2)) ω h) dL_law_346 kl_801 kl_803 kl_0 kl_802 (by decide) (show _ = some 4 from by decide +kernel) ⟨Nat.le_of_ble_eq_true rfl, Nat.le_of_ble_eq_true rfl⟩ ⟨rfl, rfl⟩ ⟨hc, hs⟩ rfl (Nat.le_of_ble_eq_true rfl) ?_
  rintro r ω2 ⟨hμ, ⟨rfl, v, hv, S, hE, hw⟩ | ⟨hr0, S, hE, hw⟩⟩
  · rw [← hμ] at hE
    refine L_istore 349 _ dL_law_349 (by decide) rfl ?_
    refine L_aload_n 351 3 dL_law_351 rfl rfl ?_
    refine L_aload_n 352 1 dL_law_352 rfl rfl ?_
    refine L_iload 353 5 dL_law_353 rfl ?_
    refine L_iconst 355 1 dL_law_355 (by decide) ?_
    refine L_iadd 356 dL_law_356 ?_
    rw [show nI i + 1 = nI (i + 1) from nI_add i 1]
    refine L_sld 357 dL_law_357 (by omega) (by omega) ?_
    refine L_aload_n 358 1 dL_law_358 rfl rfl ?_
    refine L_iload 359 5 dL_law_359 rfl ?_
    refine L_iconst 361 2 dL_law_361 (by decide) ?_
    refine L_iadd 362 dL_law_362 ?_
    rw [show nI i + 2 = nI (i + 2) from nI_add i 2]
    refine L_sld 363 dL_law_363 (by omega) (by omega) ?_
    refine L_callM 364 [.int (sc.2 (i + 1)), .int (sc.2 (i + 2))] (fun _ => rfl) hE (by rintro r m ⟨x, rfl, _⟩ _; rfl) dL_law_364 kl_1131 wm_X7_addLamp (show _ = some 2 from by decide +kernel) ⟨Nat.le_of_ble_eq_true rfl, Nat.le_of_ble_eq_true rfl⟩ ⟨rfl, rfl⟩ rfl ⟨by show _ ≤ 601024; omega, by show _ ≤ 7293034; omega⟩ rfl (Nat.le_of_ble_eq_true rfl) ?_
    rintro _ μ3 ⟨w, rfl, hw3⟩
    obtain ⟨e1, e2, hRel⟩ := hw w μ3 hw3
    refine L_istore 367 _ dL_law_367 (by decide) rfl ?_
    refine L_aload_n 369 4 dL_law_369 rfl rfl ?_
    refine L_callM 370 [] (fun _ => rfl) (e_X7_thrown _) (by rintro r m ⟨x, rfl, _⟩ _; rfl) dL_law_370 kl_1076 wm_X7_thrown (show _ = some 0 from by decide +kernel) ⟨Nat.le_of_ble_eq_true rfl, Nat.le_of_ble_eq_true rfl⟩ ⟨rfl, rfl⟩ rfl ⟨by show _ ≤ 601024; omega, by show _ ≤ 7293034; omega⟩ rfl (Nat.le_of_ble_eq_true rfl) ?_
    rintro _ _ ⟨_, rfl, rfl, rfl⟩
    refine L_iload 373 1 dL_law_373 rfl ?_
    refine L_icmp_eq 375 380 dL_law_375 (by decide) (fun _ => ?_) (fun c_0 => absurd (e2) c_0)
    refine L_iload 380 1 dL_law_380 rfl ?_
    refine L_if_ne 382 397 dL_law_382 (by decide) (fun c_0 => absurd rfl c_0) (fun _ => ?_)
    refine L_aload_n 385 5 dL_law_385 rfl rfl ?_
    refine L_iconst 386 0 dL_law_386 (by decide) ?_
    refine L_laload 387 dL_law_387 ?_
    refine L_iload 388 0 dL_law_388 rfl ?_
    refine L_i2l 390 dL_law_390 ?_
    refine L_lcmp 391 dL_law_391 (by rw [e1]; exact hv) ?_
    refine L_if_eq 392 397 dL_law_392 (by decide) (fun _ => ?_) (fun c_0 => absurd rfl c_0)
    refine L_goto 397 1773 dL_law_397 (by decide) ?_
    refine L_sub [2, 3, 4, 5, 6] _ rfl ?_
    exact hk _ hRel
  · rw [← hμ] at hE
    refine L_istore 349 _ dL_law_349 (by decide) rfl ?_
    refine L_aload_n 351 3 dL_law_351 rfl rfl ?_
    refine L_aload_n 352 1 dL_law_352 rfl rfl ?_
    refine L_iload 353 5 dL_law_353 rfl ?_
    refine L_iconst 355 1 dL_law_355 (by decide) ?_
    refine L_iadd 356 dL_law_356 ?_
    rw [show nI i + 1 = nI (i + 1) from nI_add i 1]
    refine L_sld 357 dL_law_357 (by omega) (by omega) ?_
    refine L_aload_n 358 1 dL_law_358 rfl rfl ?_
    refine L_iload 359 5 dL_law_359 rfl ?_
    refine L_iconst 361 2 dL_law_361 (by decide) ?_
    refine L_iadd 362 dL_law_362 ?_
    rw [show nI i + 2 = nI (i + 2) from nI_add i 2]
    refine L_sld 363 dL_law_363 (by omega) (by omega) ?_
    refine L_callM 364 [.int (sc.2 (i + 1)), .int (sc.2 (i + 2))] (fun _ => rfl) hE (by rintro r m ⟨x, rfl, _⟩ _; rfl) dL_law_364 kl_1131 wm_X7_addLamp (show _ = some 2 from by decide +kernel) ⟨Nat.le_of_ble_eq_true rfl, Nat.le_of_ble_eq_true rfl⟩ ⟨rfl, rfl⟩ rfl ⟨by show _ ≤ 601024; omega, by show _ ≤ 7293034; omega⟩ rfl (Nat.le_of_ble_eq_true rfl) ?_
    rintro _ μ3 ⟨w, rfl, hw3⟩
    obtain ⟨e2, hRel⟩ := hw w μ3 hw3
    refine L_istore 367 _ dL_law_367 (by decide) rfl ?_
    refine L_aload_n 369 4 dL_law_369 rfl rfl ?_
    refine L_callM 370 [] (fun _ => rfl) (e_X7_thrown _) (by rintro r m ⟨x, rfl, _⟩ _; rfl) dL_law_370 kl_1076 wm_X7_thrown (show _ = some 0 from by decide +kernel) ⟨Nat.le_of_ble_eq_true rfl, Nat.le_of_ble_eq_true rfl⟩ ⟨rfl, rfl⟩ rfl ⟨by show _ ≤ 601024; omega, by show _ ≤ 7293034; omega⟩ rfl (Nat.le_of_ble_eq_true rfl) ?_
    rintro _ _ ⟨_, rfl, rfl, rfl⟩
    refine L_iload 373 1 dL_law_373 rfl ?_
    refine L_icmp_eq 375 380 dL_law_375 (by decide) (fun _ => ?_) (fun c_0 => absurd (e2) c_0)
    refine L_iload 380 1 dL_law_380 rfl ?_
    refine L_if_ne 382 397 dL_law_382 (by decide) (fun _ => ?_) (fun c_0 => absurd c_0 hr0)
    refine L_goto 397 1773 dL_law_397 (by decide) ?_
    refine L_sub [2, 3, 4, 5, 6] _ rfl ?_
    exact hk _ hRel
theorem c_law_setCorner {sc : Nat × (Nat → Int32)} {HH : List (Nat × Nat × Nat × Nat)} {nc ns i : Nat} {ω : WDt} (h : REL ω.1 ω.2.1) (hi : i + 6 ≤ sc.1) (hL : sc.1 ≤ 3072) (hc : nc + 1 ≤ 601024) (hs : ns + 6 ≤ 7293034) (hk : ∀ ω2 : WDt, REL ω2.1 ω2.2.1 → XL (.inr sc) mLaw HH (nc + 1) (ns + 6) 1773 [(0, .ref 3), (1, .ref 0), (2, .ref 1), (3, .ref 2), (4, .int (nI i))] [] ω2) : XL (.inr sc) mLaw HH nc ns 400 [(0, .ref 3), (1, .ref 0), (2, .ref 1), (3, .ref 2), (4, .int (nI i))] [] ω := by
  refine L_aload_n 400 1 dL_law_400 rfl rfl ?_
  refine L_aload_n 401 0 dL_law_401 rfl rfl ?_
  refine L_iload 402 4 dL_law_402 rfl ?_
  refine L_iconst 404 1 dL_law_404 (by decide) ?_
  refine L_iadd 405 dL_law_405 ?_
  rw [show nI i + 1 = nI (i + 1) from nI_add i 1]
  refine L_sld 406 dL_law_406 (by omega) (by omega) ?_
  refine L_aload_n 407 0 dL_law_407 rfl rfl ?_
  refine L_iload 408 4 dL_law_408 rfl ?_
  refine L_iconst 410 2 dL_law_410 (by decide) ?_
  refine L_iadd 411 dL_law_411 ?_
  rw [show nI i + 2 = nI (i + 2) from nI_add i 2]
  refine L_sld 412 dL_law_412 (by omega) (by omega) ?_
  refine L_aload_n 413 0 dL_law_413 rfl rfl ?_
  refine L_iload 414 4 dL_law_414 rfl ?_
  refine L_iconst 416 3 dL_law_416 (by decide) ?_
  refine L_iadd 417 dL_law_417 ?_
  rw [show nI i + 3 = nI (i + 3) from nI_add i 3]
  refine L_sld 418 dL_law_418 (by omega) (by omega) ?_
  refine L_aload_n 419 0 dL_law_419 rfl rfl ?_
  refine L_iload 420 4 dL_law_420 rfl ?_
  refine L_iconst 422 4 dL_law_422 (by decide) ?_
  refine L_iadd 423 dL_law_423 ?_
  rw [show nI i + 4 = nI (i + 4) from nI_add i 4]
  refine L_sld 424 dL_law_424 (by omega) (by omega) ?_
  refine L_aload_n 425 3 dL_law_425 rfl rfl ?_
  refine L_callW 426 [.ref 0, .int (sc.2 (i + 1)), .int (sc.2 (i + 2)), .int (sc.2 (i + 3)), .int (sc.2 (i + 4)), .ref 2] (w_setCorner (sc.2 (i + 1)) (sc.2 (i + 2)) (sc.2 (i + 3)) (sc.2 (i + 4)) ω h) dL_law_426 kl_828 kl_830 kl_0 kl_829 (by decide) (show _ = some 6 from by decide +kernel) ⟨Nat.le_of_ble_eq_true rfl, Nat.le_of_ble_eq_true rfl⟩ ⟨rfl, rfl⟩ ⟨hc, hs⟩ rfl (Nat.le_of_ble_eq_true rfl) ?_
  rintro r ω2 ⟨hμ, ⟨rfl, v, hv, S, hE, hw⟩ | ⟨hr0, S, hE, hw⟩⟩
  · rw [← hμ] at hE
    refine L_istore 429 _ dL_law_429 (by decide) rfl ?_
    refine L_aload_n 431 3 dL_law_431 rfl rfl ?_
    refine L_aload_n 432 1 dL_law_432 rfl rfl ?_
    refine L_iload 433 5 dL_law_433 rfl ?_
    refine L_iconst 435 1 dL_law_435 (by decide) ?_
    refine L_iadd 436 dL_law_436 ?_
    rw [show nI i + 1 = nI (i + 1) from nI_add i 1]
    refine L_sld 437 dL_law_437 (by omega) (by omega) ?_
    refine L_aload_n 438 1 dL_law_438 rfl rfl ?_
    refine L_iload 439 5 dL_law_439 rfl ?_
    refine L_iconst 441 2 dL_law_441 (by decide) ?_
    refine L_iadd 442 dL_law_442 ?_
    rw [show nI i + 2 = nI (i + 2) from nI_add i 2]
    refine L_sld 443 dL_law_443 (by omega) (by omega) ?_
    refine L_aload_n 444 1 dL_law_444 rfl rfl ?_
    refine L_iload 445 5 dL_law_445 rfl ?_
    refine L_iconst 447 3 dL_law_447 (by decide) ?_
    refine L_iadd 448 dL_law_448 ?_
    rw [show nI i + 3 = nI (i + 3) from nI_add i 3]
    refine L_sld 449 dL_law_449 (by omega) (by omega) ?_
    refine L_aload_n 450 1 dL_law_450 rfl rfl ?_
    refine L_iload 451 5 dL_law_451 rfl ?_
    refine L_iconst 453 4 dL_law_453 (by decide) ?_
    refine L_iadd 454 dL_law_454 ?_
    rw [show nI i + 4 = nI (i + 4) from nI_add i 4]
    refine L_sld 455 dL_law_455 (by omega) (by omega) ?_
    refine L_callM 456 [.int (sc.2 (i + 1)), .int (sc.2 (i + 2)), .int (sc.2 (i + 3)), .int (sc.2 (i + 4))] (fun _ => rfl) hE (by rintro r m ⟨x, rfl, _⟩ _; rfl) dL_law_456 kl_1143 wm_X7_setCorner (show _ = some 4 from by decide +kernel) ⟨Nat.le_of_ble_eq_true rfl, Nat.le_of_ble_eq_true rfl⟩ ⟨rfl, rfl⟩ rfl ⟨by show _ ≤ 601024; omega, by show _ ≤ 7293034; omega⟩ rfl (Nat.le_of_ble_eq_true rfl) ?_
    rintro _ μ3 ⟨w, rfl, hw3⟩
    obtain ⟨e1, e2, hRel⟩ := hw w μ3 hw3
    refine L_istore 459 _ dL_law_459 (by decide) rfl ?_
    refine L_aload_n 461 4 dL_law_461 rfl rfl ?_
    refine L_callM 462 [] (fun _ => rfl) (e_X7_thrown _) (by rintro r m ⟨x, rfl, _⟩ _; rfl) dL_law_462 kl_1076 wm_X7_thrown (show _ = some 0 from by decide +kernel) ⟨Nat.le_of_ble_eq_true rfl, Nat.le_of_ble_eq_true rfl⟩ ⟨rfl, rfl⟩ rfl ⟨by show _ ≤ 601024; omega, by show _ ≤ 7293034; omega⟩ rfl (Nat.le_of_ble_eq_true rfl) ?_
    rintro _ _ ⟨_, rfl, rfl, rfl⟩
    refine L_iload 465 1 dL_law_465 rfl ?_
    refine L_icmp_eq 467 472 dL_law_467 (by decide) (fun _ => ?_) (fun c_0 => absurd (e2) c_0)
    refine L_iload 472 1 dL_law_472 rfl ?_
    refine L_if_ne 474 489 dL_law_474 (by decide) (fun c_0 => absurd rfl c_0) (fun _ => ?_)
    refine L_aload_n 477 5 dL_law_477 rfl rfl ?_
    refine L_iconst 478 0 dL_law_478 (by decide) ?_
    refine L_laload 479 dL_law_479 ?_
    refine L_iload 480 0 dL_law_480 rfl ?_
    refine L_i2l 482 dL_law_482 ?_
    refine L_lcmp 483 dL_law_483 (by rw [e1]; exact hv) ?_
    refine L_if_eq 484 489 dL_law_484 (by decide) (fun _ => ?_) (fun c_0 => absurd rfl c_0)
    refine L_goto 489 1773 dL_law_489 (by decide) ?_
    refine L_sub [2, 3, 4, 5, 6] _ rfl ?_
    exact hk _ hRel
  · rw [← hμ] at hE
    refine L_istore 429 _ dL_law_429 (by decide) rfl ?_
    refine L_aload_n 431 3 dL_law_431 rfl rfl ?_
    refine L_aload_n 432 1 dL_law_432 rfl rfl ?_
    refine L_iload 433 5 dL_law_433 rfl ?_
    refine L_iconst 435 1 dL_law_435 (by decide) ?_
    refine L_iadd 436 dL_law_436 ?_
    rw [show nI i + 1 = nI (i + 1) from nI_add i 1]
    refine L_sld 437 dL_law_437 (by omega) (by omega) ?_
    refine L_aload_n 438 1 dL_law_438 rfl rfl ?_
    refine L_iload 439 5 dL_law_439 rfl ?_
    refine L_iconst 441 2 dL_law_441 (by decide) ?_
    refine L_iadd 442 dL_law_442 ?_
    rw [show nI i + 2 = nI (i + 2) from nI_add i 2]
    refine L_sld 443 dL_law_443 (by omega) (by omega) ?_
    refine L_aload_n 444 1 dL_law_444 rfl rfl ?_
    refine L_iload 445 5 dL_law_445 rfl ?_
    refine L_iconst 447 3 dL_law_447 (by decide) ?_
    refine L_iadd 448 dL_law_448 ?_
    rw [show nI i + 3 = nI (i + 3) from nI_add i 3]
    refine L_sld 449 dL_law_449 (by omega) (by omega) ?_
    refine L_aload_n 450 1 dL_law_450 rfl rfl ?_
    refine L_iload 451 5 dL_law_451 rfl ?_
    refine L_iconst 453 4 dL_law_453 (by decide) ?_
    refine L_iadd 454 dL_law_454 ?_
    rw [show nI i + 4 = nI (i + 4) from nI_add i 4]
    refine L_sld 455 dL_law_455 (by omega) (by omega) ?_
    refine L_callM 456 [.int (sc.2 (i + 1)), .int (sc.2 (i + 2)), .int (sc.2 (i + 3)), .int (sc.2 (i + 4))] (fun _ => rfl) hE (by rintro r m ⟨x, rfl, _⟩ _; rfl) dL_law_456 kl_1143 wm_X7_setCorner (show _ = some 4 from by decide +kernel) ⟨Nat.le_of_ble_eq_true rfl, Nat.le_of_ble_eq_true rfl⟩ ⟨rfl, rfl⟩ rfl ⟨by show _ ≤ 601024; omega, by show _ ≤ 7293034; omega⟩ rfl (Nat.le_of_ble_eq_true rfl) ?_
    rintro _ μ3 ⟨w, rfl, hw3⟩
    obtain ⟨e2, hRel⟩ := hw w μ3 hw3
    refine L_istore 459 _ dL_law_459 (by decide) rfl ?_
    refine L_aload_n 461 4 dL_law_461 rfl rfl ?_
    refine L_callM 462 [] (fun _ => rfl) (e_X7_thrown _) (by rintro r m ⟨x, rfl, _⟩ _; rfl) dL_law_462 kl_1076 wm_X7_thrown (show _ = some 0 from by decide +kernel) ⟨Nat.le_of_ble_eq_true rfl, Nat.le_of_ble_eq_true rfl⟩ ⟨rfl, rfl⟩ rfl ⟨by show _ ≤ 601024; omega, by show _ ≤ 7293034; omega⟩ rfl (Nat.le_of_ble_eq_true rfl) ?_
    rintro _ _ ⟨_, rfl, rfl, rfl⟩
    refine L_iload 465 1 dL_law_465 rfl ?_
    refine L_icmp_eq 467 472 dL_law_467 (by decide) (fun _ => ?_) (fun c_0 => absurd (e2) c_0)
    refine L_iload 472 1 dL_law_472 rfl ?_
    refine L_if_ne 474 489 dL_law_474 (by decide) (fun _ => ?_) (fun c_0 => absurd c_0 hr0)
    refine L_goto 489 1773 dL_law_489 (by decide) ?_
    refine L_sub [2, 3, 4, 5, 6] _ rfl ?_
    exact hk _ hRel
theorem c_law_setRectangle {sc : Nat × (Nat → Int32)} {HH : List (Nat × Nat × Nat × Nat)} {nc ns i : Nat} {ω : WDt} (h : REL ω.1 ω.2.1) (hi : i + 6 ≤ sc.1) (hL : sc.1 ≤ 3072) (hc : nc + 1 ≤ 601024) (hs : ns + 6 ≤ 7293034) (hk : ∀ ω2 : WDt, REL ω2.1 ω2.2.1 → XL (.inr sc) mLaw HH (nc + 1) (ns + 6) 1773 [(0, .ref 3), (1, .ref 0), (2, .ref 1), (3, .ref 2), (4, .int (nI i))] [] ω2) : XL (.inr sc) mLaw HH nc ns 492 [(0, .ref 3), (1, .ref 0), (2, .ref 1), (3, .ref 2), (4, .int (nI i))] [] ω := by
  refine L_aload_n 492 1 dL_law_492 rfl rfl ?_
  refine L_aload_n 493 0 dL_law_493 rfl rfl ?_
  refine L_iload 494 4 dL_law_494 rfl ?_
  refine L_iconst 496 1 dL_law_496 (by decide) ?_
  refine L_iadd 497 dL_law_497 ?_
  rw [show nI i + 1 = nI (i + 1) from nI_add i 1]
  refine L_sld 498 dL_law_498 (by omega) (by omega) ?_
  refine L_aload_n 499 0 dL_law_499 rfl rfl ?_
  refine L_iload 500 4 dL_law_500 rfl ?_
  refine L_iconst 502 2 dL_law_502 (by decide) ?_
  refine L_iadd 503 dL_law_503 ?_
  rw [show nI i + 2 = nI (i + 2) from nI_add i 2]
  refine L_sld 504 dL_law_504 (by omega) (by omega) ?_
  refine L_aload_n 505 0 dL_law_505 rfl rfl ?_
  refine L_iload 506 4 dL_law_506 rfl ?_
  refine L_iconst 508 3 dL_law_508 (by decide) ?_
  refine L_iadd 509 dL_law_509 ?_
  rw [show nI i + 3 = nI (i + 3) from nI_add i 3]
  refine L_sld 510 dL_law_510 (by omega) (by omega) ?_
  refine L_aload_n 511 0 dL_law_511 rfl rfl ?_
  refine L_iload 512 4 dL_law_512 rfl ?_
  refine L_iconst 514 4 dL_law_514 (by decide) ?_
  refine L_iadd 515 dL_law_515 ?_
  rw [show nI i + 4 = nI (i + 4) from nI_add i 4]
  refine L_sld 516 dL_law_516 (by omega) (by omega) ?_
  refine L_aload_n 517 0 dL_law_517 rfl rfl ?_
  refine L_iload 518 4 dL_law_518 rfl ?_
  refine L_iconst 520 5 dL_law_520 (by decide) ?_
  refine L_iadd 521 dL_law_521 ?_
  rw [show nI i + 5 = nI (i + 5) from nI_add i 5]
  refine L_sld 522 dL_law_522 (by omega) (by omega) ?_
  refine L_aload_n 523 3 dL_law_523 rfl rfl ?_
  refine L_callW 524 [.ref 0, .int (sc.2 (i + 1)), .int (sc.2 (i + 2)), .int (sc.2 (i + 3)), .int (sc.2 (i + 4)), .int (sc.2 (i + 5)), .ref 2] (w_setRectangle (sc.2 (i + 1)) (sc.2 (i + 2)) (sc.2 (i + 3)) (sc.2 (i + 4)) (sc.2 (i + 5)) ω h) dL_law_524 kl_835 kl_837 kl_0 kl_836 (by decide) (show _ = some 7 from by decide +kernel) ⟨Nat.le_of_ble_eq_true rfl, Nat.le_of_ble_eq_true rfl⟩ ⟨rfl, rfl⟩ ⟨hc, hs⟩ rfl (Nat.le_of_ble_eq_true rfl) ?_
  rintro r ω2 ⟨hμ, ⟨rfl, v, hv, S, hE, hw⟩ | ⟨hr0, S, hE, hw⟩⟩
  · rw [← hμ] at hE
    refine L_istore 527 _ dL_law_527 (by decide) rfl ?_
    refine L_aload_n 529 3 dL_law_529 rfl rfl ?_
    refine L_aload_n 530 1 dL_law_530 rfl rfl ?_
    refine L_iload 531 5 dL_law_531 rfl ?_
    refine L_iconst 533 1 dL_law_533 (by decide) ?_
    refine L_iadd 534 dL_law_534 ?_
    rw [show nI i + 1 = nI (i + 1) from nI_add i 1]
    refine L_sld 535 dL_law_535 (by omega) (by omega) ?_
    refine L_aload_n 536 1 dL_law_536 rfl rfl ?_
    refine L_iload 537 5 dL_law_537 rfl ?_
    refine L_iconst 539 2 dL_law_539 (by decide) ?_
    refine L_iadd 540 dL_law_540 ?_
    rw [show nI i + 2 = nI (i + 2) from nI_add i 2]
    refine L_sld 541 dL_law_541 (by omega) (by omega) ?_
    refine L_aload_n 542 1 dL_law_542 rfl rfl ?_
    refine L_iload 543 5 dL_law_543 rfl ?_
    refine L_iconst 545 3 dL_law_545 (by decide) ?_
    refine L_iadd 546 dL_law_546 ?_
    rw [show nI i + 3 = nI (i + 3) from nI_add i 3]
    refine L_sld 547 dL_law_547 (by omega) (by omega) ?_
    refine L_aload_n 548 1 dL_law_548 rfl rfl ?_
    refine L_iload 549 5 dL_law_549 rfl ?_
    refine L_iconst 551 4 dL_law_551 (by decide) ?_
    refine L_iadd 552 dL_law_552 ?_
    rw [show nI i + 4 = nI (i + 4) from nI_add i 4]
    refine L_sld 553 dL_law_553 (by omega) (by omega) ?_
    refine L_aload_n 554 1 dL_law_554 rfl rfl ?_
    refine L_iload 555 5 dL_law_555 rfl ?_
    refine L_iconst 557 5 dL_law_557 (by decide) ?_
    refine L_iadd 558 dL_law_558 ?_
    rw [show nI i + 5 = nI (i + 5) from nI_add i 5]
    refine L_sld 559 dL_law_559 (by omega) (by omega) ?_
    refine L_callM 560 [.int (sc.2 (i + 1)), .int (sc.2 (i + 2)), .int (sc.2 (i + 3)), .int (sc.2 (i + 4)), .int (sc.2 (i + 5))] (fun _ => rfl) hE (by rintro r m ⟨x, rfl, _⟩ _; rfl) dL_law_560 kl_1174 wm_X7_setRectangle (show _ = some 5 from by decide +kernel) ⟨Nat.le_of_ble_eq_true rfl, Nat.le_of_ble_eq_true rfl⟩ ⟨rfl, rfl⟩ rfl ⟨by show _ ≤ 601024; omega, by show _ ≤ 7293034; omega⟩ rfl (Nat.le_of_ble_eq_true rfl) ?_
    rintro _ μ3 ⟨w, rfl, hw3⟩
    obtain ⟨e1, e2, hRel⟩ := hw w μ3 hw3
    refine L_istore 563 _ dL_law_563 (by decide) rfl ?_
    refine L_aload_n 565 4 dL_law_565 rfl rfl ?_
    refine L_callM 566 [] (fun _ => rfl) (e_X7_thrown _) (by rintro r m ⟨x, rfl, _⟩ _; rfl) dL_law_566 kl_1076 wm_X7_thrown (show _ = some 0 from by decide +kernel) ⟨Nat.le_of_ble_eq_true rfl, Nat.le_of_ble_eq_true rfl⟩ ⟨rfl, rfl⟩ rfl ⟨by show _ ≤ 601024; omega, by show _ ≤ 7293034; omega⟩ rfl (Nat.le_of_ble_eq_true rfl) ?_
    rintro _ _ ⟨_, rfl, rfl, rfl⟩
    refine L_iload 569 1 dL_law_569 rfl ?_
    refine L_icmp_eq 571 576 dL_law_571 (by decide) (fun _ => ?_) (fun c_0 => absurd (e2) c_0)
    refine L_iload 576 1 dL_law_576 rfl ?_
    refine L_if_ne 578 593 dL_law_578 (by decide) (fun c_0 => absurd rfl c_0) (fun _ => ?_)
    refine L_aload_n 581 5 dL_law_581 rfl rfl ?_
    refine L_iconst 582 0 dL_law_582 (by decide) ?_
    refine L_laload 583 dL_law_583 ?_
    refine L_iload 584 0 dL_law_584 rfl ?_
    refine L_i2l 586 dL_law_586 ?_
    refine L_lcmp 587 dL_law_587 (by rw [e1]; exact hv) ?_
    refine L_if_eq 588 593 dL_law_588 (by decide) (fun _ => ?_) (fun c_0 => absurd rfl c_0)
    refine L_goto 593 1773 dL_law_593 (by decide) ?_
    refine L_sub [2, 3, 4, 5, 6] _ rfl ?_
    exact hk _ hRel
  · rw [← hμ] at hE
    refine L_istore 527 _ dL_law_527 (by decide) rfl ?_
    refine L_aload_n 529 3 dL_law_529 rfl rfl ?_
    refine L_aload_n 530 1 dL_law_530 rfl rfl ?_
    refine L_iload 531 5 dL_law_531 rfl ?_
    refine L_iconst 533 1 dL_law_533 (by decide) ?_
    refine L_iadd 534 dL_law_534 ?_
    rw [show nI i + 1 = nI (i + 1) from nI_add i 1]
    refine L_sld 535 dL_law_535 (by omega) (by omega) ?_
    refine L_aload_n 536 1 dL_law_536 rfl rfl ?_
    refine L_iload 537 5 dL_law_537 rfl ?_
    refine L_iconst 539 2 dL_law_539 (by decide) ?_
    refine L_iadd 540 dL_law_540 ?_
    rw [show nI i + 2 = nI (i + 2) from nI_add i 2]
    refine L_sld 541 dL_law_541 (by omega) (by omega) ?_
    refine L_aload_n 542 1 dL_law_542 rfl rfl ?_
    refine L_iload 543 5 dL_law_543 rfl ?_
    refine L_iconst 545 3 dL_law_545 (by decide) ?_
    refine L_iadd 546 dL_law_546 ?_
    rw [show nI i + 3 = nI (i + 3) from nI_add i 3]
    refine L_sld 547 dL_law_547 (by omega) (by omega) ?_
    refine L_aload_n 548 1 dL_law_548 rfl rfl ?_
    refine L_iload 549 5 dL_law_549 rfl ?_
    refine L_iconst 551 4 dL_law_551 (by decide) ?_
    refine L_iadd 552 dL_law_552 ?_
    rw [show nI i + 4 = nI (i + 4) from nI_add i 4]
    refine L_sld 553 dL_law_553 (by omega) (by omega) ?_
    refine L_aload_n 554 1 dL_law_554 rfl rfl ?_
    refine L_iload 555 5 dL_law_555 rfl ?_
    refine L_iconst 557 5 dL_law_557 (by decide) ?_
    refine L_iadd 558 dL_law_558 ?_
    rw [show nI i + 5 = nI (i + 5) from nI_add i 5]
    refine L_sld 559 dL_law_559 (by omega) (by omega) ?_
    refine L_callM 560 [.int (sc.2 (i + 1)), .int (sc.2 (i + 2)), .int (sc.2 (i + 3)), .int (sc.2 (i + 4)), .int (sc.2 (i + 5))] (fun _ => rfl) hE (by rintro r m ⟨x, rfl, _⟩ _; rfl) dL_law_560 kl_1174 wm_X7_setRectangle (show _ = some 5 from by decide +kernel) ⟨Nat.le_of_ble_eq_true rfl, Nat.le_of_ble_eq_true rfl⟩ ⟨rfl, rfl⟩ rfl ⟨by show _ ≤ 601024; omega, by show _ ≤ 7293034; omega⟩ rfl (Nat.le_of_ble_eq_true rfl) ?_
    rintro _ μ3 ⟨w, rfl, hw3⟩
    obtain ⟨e2, hRel⟩ := hw w μ3 hw3
    refine L_istore 563 _ dL_law_563 (by decide) rfl ?_
    refine L_aload_n 565 4 dL_law_565 rfl rfl ?_
    refine L_callM 566 [] (fun _ => rfl) (e_X7_thrown _) (by rintro r m ⟨x, rfl, _⟩ _; rfl) dL_law_566 kl_1076 wm_X7_thrown (show _ = some 0 from by decide +kernel) ⟨Nat.le_of_ble_eq_true rfl, Nat.le_of_ble_eq_true rfl⟩ ⟨rfl, rfl⟩ rfl ⟨by show _ ≤ 601024; omega, by show _ ≤ 7293034; omega⟩ rfl (Nat.le_of_ble_eq_true rfl) ?_
    rintro _ _ ⟨_, rfl, rfl, rfl⟩
    refine L_iload 569 1 dL_law_569 rfl ?_
    refine L_icmp_eq 571 576 dL_law_571 (by decide) (fun _ => ?_) (fun c_0 => absurd (e2) c_0)
    refine L_iload 576 1 dL_law_576 rfl ?_
    refine L_if_ne 578 593 dL_law_578 (by decide) (fun _ => ?_) (fun c_0 => absurd c_0 hr0)
    refine L_goto 593 1773 dL_law_593 (by decide) ?_
    refine L_sub [2, 3, 4, 5, 6] _ rfl ?_
    exact hk _ hRel
theorem c_law_setLamp {sc : Nat × (Nat → Int32)} {HH : List (Nat × Nat × Nat × Nat)} {nc ns i : Nat} {ω : WDt} (h : REL ω.1 ω.2.1) (hi : i + 6 ≤ sc.1) (hL : sc.1 ≤ 3072) (hc : nc + 1 ≤ 601024) (hs : ns + 6 ≤ 7293034) (hk : ∀ ω2 : WDt, REL ω2.1 ω2.2.1 → XL (.inr sc) mLaw HH (nc + 1) (ns + 6) 1773 [(0, .ref 3), (1, .ref 0), (2, .ref 1), (3, .ref 2), (4, .int (nI i))] [] ω2) : XL (.inr sc) mLaw HH nc ns 596 [(0, .ref 3), (1, .ref 0), (2, .ref 1), (3, .ref 2), (4, .int (nI i))] [] ω := by
  refine L_aload_n 596 1 dL_law_596 rfl rfl ?_
  refine L_aload_n 597 0 dL_law_597 rfl rfl ?_
  refine L_iload 598 4 dL_law_598 rfl ?_
  refine L_iconst 600 1 dL_law_600 (by decide) ?_
  refine L_iadd 601 dL_law_601 ?_
  rw [show nI i + 1 = nI (i + 1) from nI_add i 1]
  refine L_sld 602 dL_law_602 (by omega) (by omega) ?_
  refine L_aload_n 603 0 dL_law_603 rfl rfl ?_
  refine L_iload 604 4 dL_law_604 rfl ?_
  refine L_iconst 606 2 dL_law_606 (by decide) ?_
  refine L_iadd 607 dL_law_607 ?_
  rw [show nI i + 2 = nI (i + 2) from nI_add i 2]
  refine L_sld 608 dL_law_608 (by omega) (by omega) ?_
  refine L_aload_n 609 0 dL_law_609 rfl rfl ?_
  refine L_iload 610 4 dL_law_610 rfl ?_
  refine L_iconst 612 3 dL_law_612 (by decide) ?_
  refine L_iadd 613 dL_law_613 ?_
  rw [show nI i + 3 = nI (i + 3) from nI_add i 3]
  refine L_sld 614 dL_law_614 (by omega) (by omega) ?_
  refine L_aload_n 615 3 dL_law_615 rfl rfl ?_
  refine L_callW 616 [.ref 0, .int (sc.2 (i + 1)), .int (sc.2 (i + 2)), .int (sc.2 (i + 3)), .ref 2] (w_setLamp (sc.2 (i + 1)) (sc.2 (i + 2)) (sc.2 (i + 3)) ω h) dL_law_616 kl_846 kl_848 kl_0 kl_847 (by decide) (show _ = some 5 from by decide +kernel) ⟨Nat.le_of_ble_eq_true rfl, Nat.le_of_ble_eq_true rfl⟩ ⟨rfl, rfl⟩ ⟨hc, hs⟩ rfl (Nat.le_of_ble_eq_true rfl) ?_
  rintro r ω2 ⟨hμ, ⟨rfl, v, hv, S, hE, hw⟩ | ⟨hr0, S, hE, hw⟩⟩
  · rw [← hμ] at hE
    refine L_istore 619 _ dL_law_619 (by decide) rfl ?_
    refine L_aload_n 621 3 dL_law_621 rfl rfl ?_
    refine L_aload_n 622 1 dL_law_622 rfl rfl ?_
    refine L_iload 623 5 dL_law_623 rfl ?_
    refine L_iconst 625 1 dL_law_625 (by decide) ?_
    refine L_iadd 626 dL_law_626 ?_
    rw [show nI i + 1 = nI (i + 1) from nI_add i 1]
    refine L_sld 627 dL_law_627 (by omega) (by omega) ?_
    refine L_aload_n 628 1 dL_law_628 rfl rfl ?_
    refine L_iload 629 5 dL_law_629 rfl ?_
    refine L_iconst 631 2 dL_law_631 (by decide) ?_
    refine L_iadd 632 dL_law_632 ?_
    rw [show nI i + 2 = nI (i + 2) from nI_add i 2]
    refine L_sld 633 dL_law_633 (by omega) (by omega) ?_
    refine L_aload_n 634 1 dL_law_634 rfl rfl ?_
    refine L_iload 635 5 dL_law_635 rfl ?_
    refine L_iconst 637 3 dL_law_637 (by decide) ?_
    refine L_iadd 638 dL_law_638 ?_
    rw [show nI i + 3 = nI (i + 3) from nI_add i 3]
    refine L_sld 639 dL_law_639 (by omega) (by omega) ?_
    refine L_callM 640 [.int (sc.2 (i + 1)), .int (sc.2 (i + 2)), .int (sc.2 (i + 3))] (fun _ => rfl) hE (by rintro r m ⟨x, rfl, _⟩ _; rfl) dL_law_640 kl_1223 wm_X7_setLamp (show _ = some 3 from by decide +kernel) ⟨Nat.le_of_ble_eq_true rfl, Nat.le_of_ble_eq_true rfl⟩ ⟨rfl, rfl⟩ rfl ⟨by show _ ≤ 601024; omega, by show _ ≤ 7293034; omega⟩ rfl (Nat.le_of_ble_eq_true rfl) ?_
    rintro _ μ3 ⟨w, rfl, hw3⟩
    obtain ⟨e1, e2, hRel⟩ := hw w μ3 hw3
    refine L_istore 643 _ dL_law_643 (by decide) rfl ?_
    refine L_aload_n 645 4 dL_law_645 rfl rfl ?_
    refine L_callM 646 [] (fun _ => rfl) (e_X7_thrown _) (by rintro r m ⟨x, rfl, _⟩ _; rfl) dL_law_646 kl_1076 wm_X7_thrown (show _ = some 0 from by decide +kernel) ⟨Nat.le_of_ble_eq_true rfl, Nat.le_of_ble_eq_true rfl⟩ ⟨rfl, rfl⟩ rfl ⟨by show _ ≤ 601024; omega, by show _ ≤ 7293034; omega⟩ rfl (Nat.le_of_ble_eq_true rfl) ?_
    rintro _ _ ⟨_, rfl, rfl, rfl⟩
    refine L_iload 649 1 dL_law_649 rfl ?_
    refine L_icmp_eq 651 656 dL_law_651 (by decide) (fun _ => ?_) (fun c_0 => absurd (e2) c_0)
    refine L_iload 656 1 dL_law_656 rfl ?_
    refine L_if_ne 658 673 dL_law_658 (by decide) (fun c_0 => absurd rfl c_0) (fun _ => ?_)
    refine L_aload_n 661 5 dL_law_661 rfl rfl ?_
    refine L_iconst 662 0 dL_law_662 (by decide) ?_
    refine L_laload 663 dL_law_663 ?_
    refine L_iload 664 0 dL_law_664 rfl ?_
    refine L_i2l 666 dL_law_666 ?_
    refine L_lcmp 667 dL_law_667 (by rw [e1]; exact hv) ?_
    refine L_if_eq 668 673 dL_law_668 (by decide) (fun _ => ?_) (fun c_0 => absurd rfl c_0)
    refine L_goto 673 1773 dL_law_673 (by decide) ?_
    refine L_sub [2, 3, 4, 5, 6] _ rfl ?_
    exact hk _ hRel
  · rw [← hμ] at hE
    refine L_istore 619 _ dL_law_619 (by decide) rfl ?_
    refine L_aload_n 621 3 dL_law_621 rfl rfl ?_
    refine L_aload_n 622 1 dL_law_622 rfl rfl ?_
    refine L_iload 623 5 dL_law_623 rfl ?_
    refine L_iconst 625 1 dL_law_625 (by decide) ?_
    refine L_iadd 626 dL_law_626 ?_
    rw [show nI i + 1 = nI (i + 1) from nI_add i 1]
    refine L_sld 627 dL_law_627 (by omega) (by omega) ?_
    refine L_aload_n 628 1 dL_law_628 rfl rfl ?_
    refine L_iload 629 5 dL_law_629 rfl ?_
    refine L_iconst 631 2 dL_law_631 (by decide) ?_
    refine L_iadd 632 dL_law_632 ?_
    rw [show nI i + 2 = nI (i + 2) from nI_add i 2]
    refine L_sld 633 dL_law_633 (by omega) (by omega) ?_
    refine L_aload_n 634 1 dL_law_634 rfl rfl ?_
    refine L_iload 635 5 dL_law_635 rfl ?_
    refine L_iconst 637 3 dL_law_637 (by decide) ?_
    refine L_iadd 638 dL_law_638 ?_
    rw [show nI i + 3 = nI (i + 3) from nI_add i 3]
    refine L_sld 639 dL_law_639 (by omega) (by omega) ?_
    refine L_callM 640 [.int (sc.2 (i + 1)), .int (sc.2 (i + 2)), .int (sc.2 (i + 3))] (fun _ => rfl) hE (by rintro r m ⟨x, rfl, _⟩ _; rfl) dL_law_640 kl_1223 wm_X7_setLamp (show _ = some 3 from by decide +kernel) ⟨Nat.le_of_ble_eq_true rfl, Nat.le_of_ble_eq_true rfl⟩ ⟨rfl, rfl⟩ rfl ⟨by show _ ≤ 601024; omega, by show _ ≤ 7293034; omega⟩ rfl (Nat.le_of_ble_eq_true rfl) ?_
    rintro _ μ3 ⟨w, rfl, hw3⟩
    obtain ⟨e2, hRel⟩ := hw w μ3 hw3
    refine L_istore 643 _ dL_law_643 (by decide) rfl ?_
    refine L_aload_n 645 4 dL_law_645 rfl rfl ?_
    refine L_callM 646 [] (fun _ => rfl) (e_X7_thrown _) (by rintro r m ⟨x, rfl, _⟩ _; rfl) dL_law_646 kl_1076 wm_X7_thrown (show _ = some 0 from by decide +kernel) ⟨Nat.le_of_ble_eq_true rfl, Nat.le_of_ble_eq_true rfl⟩ ⟨rfl, rfl⟩ rfl ⟨by show _ ≤ 601024; omega, by show _ ≤ 7293034; omega⟩ rfl (Nat.le_of_ble_eq_true rfl) ?_
    rintro _ _ ⟨_, rfl, rfl, rfl⟩
    refine L_iload 649 1 dL_law_649 rfl ?_
    refine L_icmp_eq 651 656 dL_law_651 (by decide) (fun _ => ?_) (fun c_0 => absurd (e2) c_0)
    refine L_iload 656 1 dL_law_656 rfl ?_
    refine L_if_ne 658 673 dL_law_658 (by decide) (fun _ => ?_) (fun c_0 => absurd c_0 hr0)
    refine L_goto 673 1773 dL_law_673 (by decide) ?_
    refine L_sub [2, 3, 4, 5, 6] _ rfl ?_
    exact hk _ hRel
theorem c_law_setWorks {sc : Nat × (Nat → Int32)} {HH : List (Nat × Nat × Nat × Nat)} {nc ns i : Nat} {ω : WDt} (h : REL ω.1 ω.2.1) (hi : i + 6 ≤ sc.1) (hL : sc.1 ≤ 3072) (hc : nc + 1 ≤ 601024) (hs : ns + 6 ≤ 7293034) (hk : ∀ ω2 : WDt, REL ω2.1 ω2.2.1 → XL (.inr sc) mLaw HH (nc + 1) (ns + 6) 1773 [(0, .ref 3), (1, .ref 0), (2, .ref 1), (3, .ref 2), (4, .int (nI i))] [] ω2) : XL (.inr sc) mLaw HH nc ns 676 [(0, .ref 3), (1, .ref 0), (2, .ref 1), (3, .ref 2), (4, .int (nI i))] [] ω := by
  refine L_aload_n 676 1 dL_law_676 rfl rfl ?_
  refine L_aload_n 677 0 dL_law_677 rfl rfl ?_
  refine L_iload 678 4 dL_law_678 rfl ?_
  refine L_iconst 680 1 dL_law_680 (by decide) ?_
  refine L_iadd 681 dL_law_681 ?_
  rw [show nI i + 1 = nI (i + 1) from nI_add i 1]
  refine L_sld 682 dL_law_682 (by omega) (by omega) ?_
  refine L_aload_n 683 0 dL_law_683 rfl rfl ?_
  refine L_iload 684 4 dL_law_684 rfl ?_
  refine L_iconst 686 2 dL_law_686 (by decide) ?_
  refine L_iadd 687 dL_law_687 ?_
  rw [show nI i + 2 = nI (i + 2) from nI_add i 2]
  refine L_sld 688 dL_law_688 (by omega) (by omega) ?_
  refine L_if_eq 689 696 dL_law_689 (by decide) (fun cA => ?_) (fun cA => ?_)
  · refine L_iconst 696 0 dL_law_696 (by decide) ?_
    refine L_aload_n 697 3 dL_law_697 rfl rfl ?_
    refine L_callW 698 [.ref 0, .int (sc.2 (i + 1)), .int 0, .ref 2] (w_setWorks (sc.2 (i + 1)) 0 ω h) dL_law_698 kl_861 kl_863 kl_0 kl_862 (by decide) (show _ = some 4 from by decide +kernel) ⟨Nat.le_of_ble_eq_true rfl, Nat.le_of_ble_eq_true rfl⟩ ⟨rfl, rfl⟩ ⟨hc, hs⟩ rfl (Nat.le_of_ble_eq_true rfl) ?_
    rintro r ω2 ⟨hμ, ⟨rfl, v, hv, S, hE, hw⟩ | ⟨hr0, S, hE, hw⟩⟩
    · rw [← hμ] at hE
      refine L_istore 701 _ dL_law_701 (by decide) rfl ?_
      refine L_aload_n 703 3 dL_law_703 rfl rfl ?_
      refine L_aload_n 704 1 dL_law_704 rfl rfl ?_
      refine L_iload 705 5 dL_law_705 rfl ?_
      refine L_iconst 707 1 dL_law_707 (by decide) ?_
      refine L_iadd 708 dL_law_708 ?_
      rw [show nI i + 1 = nI (i + 1) from nI_add i 1]
      refine L_sld 709 dL_law_709 (by omega) (by omega) ?_
      refine L_aload_n 710 1 dL_law_710 rfl rfl ?_
      refine L_iload 711 5 dL_law_711 rfl ?_
      refine L_iconst 713 2 dL_law_713 (by decide) ?_
      refine L_iadd 714 dL_law_714 ?_
      rw [show nI i + 2 = nI (i + 2) from nI_add i 2]
      refine L_sld 715 dL_law_715 (by omega) (by omega) ?_
      refine L_if_eq 716 723 dL_law_716 (by decide) (fun _ => ?_) (fun c_0 => absurd cA c_0)
      refine L_iconst 723 0 dL_law_723 (by decide) ?_
      refine L_callM 724 [.int (sc.2 (i + 1)), .int 0] (fun _ => rfl) hE (by rintro r m ⟨x, rfl, _⟩ _; rfl) dL_law_724 kl_1227 wm_X7_setWorks (show _ = some 2 from by decide +kernel) ⟨Nat.le_of_ble_eq_true rfl, Nat.le_of_ble_eq_true rfl⟩ ⟨rfl, rfl⟩ rfl ⟨by show _ ≤ 601024; omega, by show _ ≤ 7293034; omega⟩ rfl (Nat.le_of_ble_eq_true rfl) ?_
      rintro _ μ3 ⟨w, rfl, hw3⟩
      obtain ⟨e1, e2, hRel⟩ := hw w μ3 hw3
      refine L_istore 727 _ dL_law_727 (by decide) rfl ?_
      refine L_aload_n 729 4 dL_law_729 rfl rfl ?_
      refine L_callM 730 [] (fun _ => rfl) (e_X7_thrown _) (by rintro r m ⟨x, rfl, _⟩ _; rfl) dL_law_730 kl_1076 wm_X7_thrown (show _ = some 0 from by decide +kernel) ⟨Nat.le_of_ble_eq_true rfl, Nat.le_of_ble_eq_true rfl⟩ ⟨rfl, rfl⟩ rfl ⟨by show _ ≤ 601024; omega, by show _ ≤ 7293034; omega⟩ rfl (Nat.le_of_ble_eq_true rfl) ?_
      rintro _ _ ⟨_, rfl, rfl, rfl⟩
      refine L_iload 733 1 dL_law_733 rfl ?_
      refine L_icmp_eq 735 740 dL_law_735 (by decide) (fun _ => ?_) (fun c_0 => absurd (e2) c_0)
      refine L_iload 740 1 dL_law_740 rfl ?_
      refine L_if_ne 742 757 dL_law_742 (by decide) (fun c_0 => absurd rfl c_0) (fun _ => ?_)
      refine L_aload_n 745 5 dL_law_745 rfl rfl ?_
      refine L_iconst 746 0 dL_law_746 (by decide) ?_
      refine L_laload 747 dL_law_747 ?_
      refine L_iload 748 0 dL_law_748 rfl ?_
      refine L_i2l 750 dL_law_750 ?_
      refine L_lcmp 751 dL_law_751 (by rw [e1]; exact hv) ?_
      refine L_if_eq 752 757 dL_law_752 (by decide) (fun _ => ?_) (fun c_0 => absurd rfl c_0)
      refine L_goto 757 1773 dL_law_757 (by decide) ?_
      refine L_sub [2, 3, 4, 5, 6] _ rfl ?_
      exact hk _ hRel
    · rw [← hμ] at hE
      refine L_istore 701 _ dL_law_701 (by decide) rfl ?_
      refine L_aload_n 703 3 dL_law_703 rfl rfl ?_
      refine L_aload_n 704 1 dL_law_704 rfl rfl ?_
      refine L_iload 705 5 dL_law_705 rfl ?_
      refine L_iconst 707 1 dL_law_707 (by decide) ?_
      refine L_iadd 708 dL_law_708 ?_
      rw [show nI i + 1 = nI (i + 1) from nI_add i 1]
      refine L_sld 709 dL_law_709 (by omega) (by omega) ?_
      refine L_aload_n 710 1 dL_law_710 rfl rfl ?_
      refine L_iload 711 5 dL_law_711 rfl ?_
      refine L_iconst 713 2 dL_law_713 (by decide) ?_
      refine L_iadd 714 dL_law_714 ?_
      rw [show nI i + 2 = nI (i + 2) from nI_add i 2]
      refine L_sld 715 dL_law_715 (by omega) (by omega) ?_
      refine L_if_eq 716 723 dL_law_716 (by decide) (fun _ => ?_) (fun c_0 => absurd cA c_0)
      refine L_iconst 723 0 dL_law_723 (by decide) ?_
      refine L_callM 724 [.int (sc.2 (i + 1)), .int 0] (fun _ => rfl) hE (by rintro r m ⟨x, rfl, _⟩ _; rfl) dL_law_724 kl_1227 wm_X7_setWorks (show _ = some 2 from by decide +kernel) ⟨Nat.le_of_ble_eq_true rfl, Nat.le_of_ble_eq_true rfl⟩ ⟨rfl, rfl⟩ rfl ⟨by show _ ≤ 601024; omega, by show _ ≤ 7293034; omega⟩ rfl (Nat.le_of_ble_eq_true rfl) ?_
      rintro _ μ3 ⟨w, rfl, hw3⟩
      obtain ⟨e2, hRel⟩ := hw w μ3 hw3
      refine L_istore 727 _ dL_law_727 (by decide) rfl ?_
      refine L_aload_n 729 4 dL_law_729 rfl rfl ?_
      refine L_callM 730 [] (fun _ => rfl) (e_X7_thrown _) (by rintro r m ⟨x, rfl, _⟩ _; rfl) dL_law_730 kl_1076 wm_X7_thrown (show _ = some 0 from by decide +kernel) ⟨Nat.le_of_ble_eq_true rfl, Nat.le_of_ble_eq_true rfl⟩ ⟨rfl, rfl⟩ rfl ⟨by show _ ≤ 601024; omega, by show _ ≤ 7293034; omega⟩ rfl (Nat.le_of_ble_eq_true rfl) ?_
      rintro _ _ ⟨_, rfl, rfl, rfl⟩
      refine L_iload 733 1 dL_law_733 rfl ?_
      refine L_icmp_eq 735 740 dL_law_735 (by decide) (fun _ => ?_) (fun c_0 => absurd (e2) c_0)
      refine L_iload 740 1 dL_law_740 rfl ?_
      refine L_if_ne 742 757 dL_law_742 (by decide) (fun _ => ?_) (fun c_0 => absurd c_0 hr0)
      refine L_goto 757 1773 dL_law_757 (by decide) ?_
      refine L_sub [2, 3, 4, 5, 6] _ rfl ?_
      exact hk _ hRel
  · refine L_iconst 692 1 dL_law_692 (by decide) ?_
    refine L_goto 693 697 dL_law_693 (by decide) ?_
    refine L_aload_n 697 3 dL_law_697 rfl rfl ?_
    refine L_callW 698 [.ref 0, .int (sc.2 (i + 1)), .int 1, .ref 2] (w_setWorks (sc.2 (i + 1)) 1 ω h) dL_law_698 kl_861 kl_863 kl_0 kl_862 (by decide) (show _ = some 4 from by decide +kernel) ⟨Nat.le_of_ble_eq_true rfl, Nat.le_of_ble_eq_true rfl⟩ ⟨rfl, rfl⟩ ⟨hc, hs⟩ rfl (Nat.le_of_ble_eq_true rfl) ?_
    rintro r ω2 ⟨hμ, ⟨rfl, v, hv, S, hE, hw⟩ | ⟨hr0, S, hE, hw⟩⟩
    · rw [← hμ] at hE
      refine L_istore 701 _ dL_law_701 (by decide) rfl ?_
      refine L_aload_n 703 3 dL_law_703 rfl rfl ?_
      refine L_aload_n 704 1 dL_law_704 rfl rfl ?_
      refine L_iload 705 5 dL_law_705 rfl ?_
      refine L_iconst 707 1 dL_law_707 (by decide) ?_
      refine L_iadd 708 dL_law_708 ?_
      rw [show nI i + 1 = nI (i + 1) from nI_add i 1]
      refine L_sld 709 dL_law_709 (by omega) (by omega) ?_
      refine L_aload_n 710 1 dL_law_710 rfl rfl ?_
      refine L_iload 711 5 dL_law_711 rfl ?_
      refine L_iconst 713 2 dL_law_713 (by decide) ?_
      refine L_iadd 714 dL_law_714 ?_
      rw [show nI i + 2 = nI (i + 2) from nI_add i 2]
      refine L_sld 715 dL_law_715 (by omega) (by omega) ?_
      refine L_if_eq 716 723 dL_law_716 (by decide) (fun c_0 => absurd c_0 cA) (fun _ => ?_)
      refine L_iconst 719 1 dL_law_719 (by decide) ?_
      refine L_goto 720 724 dL_law_720 (by decide) ?_
      refine L_callM 724 [.int (sc.2 (i + 1)), .int 1] (fun _ => rfl) hE (by rintro r m ⟨x, rfl, _⟩ _; rfl) dL_law_724 kl_1227 wm_X7_setWorks (show _ = some 2 from by decide +kernel) ⟨Nat.le_of_ble_eq_true rfl, Nat.le_of_ble_eq_true rfl⟩ ⟨rfl, rfl⟩ rfl ⟨by show _ ≤ 601024; omega, by show _ ≤ 7293034; omega⟩ rfl (Nat.le_of_ble_eq_true rfl) ?_
      rintro _ μ3 ⟨w, rfl, hw3⟩
      obtain ⟨e1, e2, hRel⟩ := hw w μ3 hw3
      refine L_istore 727 _ dL_law_727 (by decide) rfl ?_
      refine L_aload_n 729 4 dL_law_729 rfl rfl ?_
      refine L_callM 730 [] (fun _ => rfl) (e_X7_thrown _) (by rintro r m ⟨x, rfl, _⟩ _; rfl) dL_law_730 kl_1076 wm_X7_thrown (show _ = some 0 from by decide +kernel) ⟨Nat.le_of_ble_eq_true rfl, Nat.le_of_ble_eq_true rfl⟩ ⟨rfl, rfl⟩ rfl ⟨by show _ ≤ 601024; omega, by show _ ≤ 7293034; omega⟩ rfl (Nat.le_of_ble_eq_true rfl) ?_
      rintro _ _ ⟨_, rfl, rfl, rfl⟩
      refine L_iload 733 1 dL_law_733 rfl ?_
      refine L_icmp_eq 735 740 dL_law_735 (by decide) (fun _ => ?_) (fun c_0 => absurd (e2) c_0)
      refine L_iload 740 1 dL_law_740 rfl ?_
      refine L_if_ne 742 757 dL_law_742 (by decide) (fun c_0 => absurd rfl c_0) (fun _ => ?_)
      refine L_aload_n 745 5 dL_law_745 rfl rfl ?_
      refine L_iconst 746 0 dL_law_746 (by decide) ?_
      refine L_laload 747 dL_law_747 ?_
      refine L_iload 748 0 dL_law_748 rfl ?_
      refine L_i2l 750 dL_law_750 ?_
      refine L_lcmp 751 dL_law_751 (by rw [e1]; exact hv) ?_
      refine L_if_eq 752 757 dL_law_752 (by decide) (fun _ => ?_) (fun c_0 => absurd rfl c_0)
      refine L_goto 757 1773 dL_law_757 (by decide) ?_
      refine L_sub [2, 3, 4, 5, 6] _ rfl ?_
      exact hk _ hRel
    · rw [← hμ] at hE
      refine L_istore 701 _ dL_law_701 (by decide) rfl ?_
      refine L_aload_n 703 3 dL_law_703 rfl rfl ?_
      refine L_aload_n 704 1 dL_law_704 rfl rfl ?_
      refine L_iload 705 5 dL_law_705 rfl ?_
      refine L_iconst 707 1 dL_law_707 (by decide) ?_
      refine L_iadd 708 dL_law_708 ?_
      rw [show nI i + 1 = nI (i + 1) from nI_add i 1]
      refine L_sld 709 dL_law_709 (by omega) (by omega) ?_
      refine L_aload_n 710 1 dL_law_710 rfl rfl ?_
      refine L_iload 711 5 dL_law_711 rfl ?_
      refine L_iconst 713 2 dL_law_713 (by decide) ?_
      refine L_iadd 714 dL_law_714 ?_
      rw [show nI i + 2 = nI (i + 2) from nI_add i 2]
      refine L_sld 715 dL_law_715 (by omega) (by omega) ?_
      refine L_if_eq 716 723 dL_law_716 (by decide) (fun c_0 => absurd c_0 cA) (fun _ => ?_)
      refine L_iconst 719 1 dL_law_719 (by decide) ?_
      refine L_goto 720 724 dL_law_720 (by decide) ?_
      refine L_callM 724 [.int (sc.2 (i + 1)), .int 1] (fun _ => rfl) hE (by rintro r m ⟨x, rfl, _⟩ _; rfl) dL_law_724 kl_1227 wm_X7_setWorks (show _ = some 2 from by decide +kernel) ⟨Nat.le_of_ble_eq_true rfl, Nat.le_of_ble_eq_true rfl⟩ ⟨rfl, rfl⟩ rfl ⟨by show _ ≤ 601024; omega, by show _ ≤ 7293034; omega⟩ rfl (Nat.le_of_ble_eq_true rfl) ?_
      rintro _ μ3 ⟨w, rfl, hw3⟩
      obtain ⟨e2, hRel⟩ := hw w μ3 hw3
      refine L_istore 727 _ dL_law_727 (by decide) rfl ?_
      refine L_aload_n 729 4 dL_law_729 rfl rfl ?_
      refine L_callM 730 [] (fun _ => rfl) (e_X7_thrown _) (by rintro r m ⟨x, rfl, _⟩ _; rfl) dL_law_730 kl_1076 wm_X7_thrown (show _ = some 0 from by decide +kernel) ⟨Nat.le_of_ble_eq_true rfl, Nat.le_of_ble_eq_true rfl⟩ ⟨rfl, rfl⟩ rfl ⟨by show _ ≤ 601024; omega, by show _ ≤ 7293034; omega⟩ rfl (Nat.le_of_ble_eq_true rfl) ?_
      rintro _ _ ⟨_, rfl, rfl, rfl⟩
      refine L_iload 733 1 dL_law_733 rfl ?_
      refine L_icmp_eq 735 740 dL_law_735 (by decide) (fun _ => ?_) (fun c_0 => absurd (e2) c_0)
      refine L_iload 740 1 dL_law_740 rfl ?_
      refine L_if_ne 742 757 dL_law_742 (by decide) (fun _ => ?_) (fun c_0 => absurd c_0 hr0)
      refine L_goto 757 1773 dL_law_757 (by decide) ?_
      refine L_sub [2, 3, 4, 5, 6] _ rfl ?_
      exact hk _ hRel
theorem c_law_shift {sc : Nat × (Nat → Int32)} {HH : List (Nat × Nat × Nat × Nat)} {nc ns i : Nat} {ω : WDt} (h : REL ω.1 ω.2.1) (hi : i + 6 ≤ sc.1) (hL : sc.1 ≤ 3072) (hc : nc + 1 ≤ 601024) (hs : ns + 6 ≤ 7293034) (hk : ∀ ω2 : WDt, REL ω2.1 ω2.2.1 → XL (.inr sc) mLaw HH (nc + 1) (ns + 6) 1773 [(0, .ref 3), (1, .ref 0), (2, .ref 1), (3, .ref 2), (4, .int (nI i))] [] ω2) : XL (.inr sc) mLaw HH nc ns 760 [(0, .ref 3), (1, .ref 0), (2, .ref 1), (3, .ref 2), (4, .int (nI i))] [] ω := by
  refine L_aload_n 760 1 dL_law_760 rfl rfl ?_
  refine L_aload_n 761 0 dL_law_761 rfl rfl ?_
  refine L_iload 762 4 dL_law_762 rfl ?_
  refine L_iconst 764 1 dL_law_764 (by decide) ?_
  refine L_iadd 765 dL_law_765 ?_
  rw [show nI i + 1 = nI (i + 1) from nI_add i 1]
  refine L_sld 766 dL_law_766 (by omega) (by omega) ?_
  refine L_aload_n 767 0 dL_law_767 rfl rfl ?_
  refine L_iload 768 4 dL_law_768 rfl ?_
  refine L_iconst 770 2 dL_law_770 (by decide) ?_
  refine L_iadd 771 dL_law_771 ?_
  rw [show nI i + 2 = nI (i + 2) from nI_add i 2]
  refine L_sld 772 dL_law_772 (by omega) (by omega) ?_
  refine L_aload_n 773 3 dL_law_773 rfl rfl ?_
  refine L_callW 774 [.ref 0, .int (sc.2 (i + 1)), .int (sc.2 (i + 2)), .ref 2] (w_shift (sc.2 (i + 1)) (sc.2 (i + 2)) ω h) dL_law_774 kl_868 kl_870 kl_0 kl_869 (by decide) (show _ = some 4 from by decide +kernel) ⟨Nat.le_of_ble_eq_true rfl, Nat.le_of_ble_eq_true rfl⟩ ⟨rfl, rfl⟩ ⟨hc, hs⟩ rfl (Nat.le_of_ble_eq_true rfl) ?_
  rintro r ω2 ⟨hμ, ⟨rfl, v, hv, S, hE, hw⟩ | ⟨hr0, S, hE, hw⟩⟩
  · rw [← hμ] at hE
    refine L_istore 777 _ dL_law_777 (by decide) rfl ?_
    refine L_aload_n 779 3 dL_law_779 rfl rfl ?_
    refine L_aload_n 780 1 dL_law_780 rfl rfl ?_
    refine L_iload 781 5 dL_law_781 rfl ?_
    refine L_iconst 783 1 dL_law_783 (by decide) ?_
    refine L_iadd 784 dL_law_784 ?_
    rw [show nI i + 1 = nI (i + 1) from nI_add i 1]
    refine L_sld 785 dL_law_785 (by omega) (by omega) ?_
    refine L_aload_n 786 1 dL_law_786 rfl rfl ?_
    refine L_iload 787 5 dL_law_787 rfl ?_
    refine L_iconst 789 2 dL_law_789 (by decide) ?_
    refine L_iadd 790 dL_law_790 ?_
    rw [show nI i + 2 = nI (i + 2) from nI_add i 2]
    refine L_sld 791 dL_law_791 (by omega) (by omega) ?_
    refine L_callM 792 [.int (sc.2 (i + 1)), .int (sc.2 (i + 2))] (fun _ => rfl) hE (by rintro r m ⟨x, rfl, _⟩ _; rfl) dL_law_792 kl_1235 wm_X7_shift (show _ = some 2 from by decide +kernel) ⟨Nat.le_of_ble_eq_true rfl, Nat.le_of_ble_eq_true rfl⟩ ⟨rfl, rfl⟩ rfl ⟨by show _ ≤ 601024; omega, by show _ ≤ 7293034; omega⟩ rfl (Nat.le_of_ble_eq_true rfl) ?_
    rintro _ μ3 ⟨w, rfl, hw3⟩
    obtain ⟨e1, e2, hRel⟩ := hw w μ3 hw3
    refine L_istore 795 _ dL_law_795 (by decide) rfl ?_
    refine L_aload_n 797 4 dL_law_797 rfl rfl ?_
    refine L_callM 798 [] (fun _ => rfl) (e_X7_thrown _) (by rintro r m ⟨x, rfl, _⟩ _; rfl) dL_law_798 kl_1076 wm_X7_thrown (show _ = some 0 from by decide +kernel) ⟨Nat.le_of_ble_eq_true rfl, Nat.le_of_ble_eq_true rfl⟩ ⟨rfl, rfl⟩ rfl ⟨by show _ ≤ 601024; omega, by show _ ≤ 7293034; omega⟩ rfl (Nat.le_of_ble_eq_true rfl) ?_
    rintro _ _ ⟨_, rfl, rfl, rfl⟩
    refine L_iload 801 1 dL_law_801 rfl ?_
    refine L_icmp_eq 803 808 dL_law_803 (by decide) (fun _ => ?_) (fun c_0 => absurd (e2) c_0)
    refine L_iload 808 1 dL_law_808 rfl ?_
    refine L_if_ne 810 825 dL_law_810 (by decide) (fun c_0 => absurd rfl c_0) (fun _ => ?_)
    refine L_aload_n 813 5 dL_law_813 rfl rfl ?_
    refine L_iconst 814 0 dL_law_814 (by decide) ?_
    refine L_laload 815 dL_law_815 ?_
    refine L_iload 816 0 dL_law_816 rfl ?_
    refine L_i2l 818 dL_law_818 ?_
    refine L_lcmp 819 dL_law_819 (by rw [e1]; exact hv) ?_
    refine L_if_eq 820 825 dL_law_820 (by decide) (fun _ => ?_) (fun c_0 => absurd rfl c_0)
    refine L_goto 825 1773 dL_law_825 (by decide) ?_
    refine L_sub [2, 3, 4, 5, 6] _ rfl ?_
    exact hk _ hRel
  · rw [← hμ] at hE
    refine L_istore 777 _ dL_law_777 (by decide) rfl ?_
    refine L_aload_n 779 3 dL_law_779 rfl rfl ?_
    refine L_aload_n 780 1 dL_law_780 rfl rfl ?_
    refine L_iload 781 5 dL_law_781 rfl ?_
    refine L_iconst 783 1 dL_law_783 (by decide) ?_
    refine L_iadd 784 dL_law_784 ?_
    rw [show nI i + 1 = nI (i + 1) from nI_add i 1]
    refine L_sld 785 dL_law_785 (by omega) (by omega) ?_
    refine L_aload_n 786 1 dL_law_786 rfl rfl ?_
    refine L_iload 787 5 dL_law_787 rfl ?_
    refine L_iconst 789 2 dL_law_789 (by decide) ?_
    refine L_iadd 790 dL_law_790 ?_
    rw [show nI i + 2 = nI (i + 2) from nI_add i 2]
    refine L_sld 791 dL_law_791 (by omega) (by omega) ?_
    refine L_callM 792 [.int (sc.2 (i + 1)), .int (sc.2 (i + 2))] (fun _ => rfl) hE (by rintro r m ⟨x, rfl, _⟩ _; rfl) dL_law_792 kl_1235 wm_X7_shift (show _ = some 2 from by decide +kernel) ⟨Nat.le_of_ble_eq_true rfl, Nat.le_of_ble_eq_true rfl⟩ ⟨rfl, rfl⟩ rfl ⟨by show _ ≤ 601024; omega, by show _ ≤ 7293034; omega⟩ rfl (Nat.le_of_ble_eq_true rfl) ?_
    rintro _ μ3 ⟨w, rfl, hw3⟩
    obtain ⟨e2, hRel⟩ := hw w μ3 hw3
    refine L_istore 795 _ dL_law_795 (by decide) rfl ?_
    refine L_aload_n 797 4 dL_law_797 rfl rfl ?_
    refine L_callM 798 [] (fun _ => rfl) (e_X7_thrown _) (by rintro r m ⟨x, rfl, _⟩ _; rfl) dL_law_798 kl_1076 wm_X7_thrown (show _ = some 0 from by decide +kernel) ⟨Nat.le_of_ble_eq_true rfl, Nat.le_of_ble_eq_true rfl⟩ ⟨rfl, rfl⟩ rfl ⟨by show _ ≤ 601024; omega, by show _ ≤ 7293034; omega⟩ rfl (Nat.le_of_ble_eq_true rfl) ?_
    rintro _ _ ⟨_, rfl, rfl, rfl⟩
    refine L_iload 801 1 dL_law_801 rfl ?_
    refine L_icmp_eq 803 808 dL_law_803 (by decide) (fun _ => ?_) (fun c_0 => absurd (e2) c_0)
    refine L_iload 808 1 dL_law_808 rfl ?_
    refine L_if_ne 810 825 dL_law_810 (by decide) (fun _ => ?_) (fun c_0 => absurd c_0 hr0)
    refine L_goto 825 1773 dL_law_825 (by decide) ?_
    refine L_sub [2, 3, 4, 5, 6] _ rfl ?_
    exact hk _ hRel
theorem c_law_burn {sc : Nat × (Nat → Int32)} {HH : List (Nat × Nat × Nat × Nat)} {nc ns i : Nat} {ω : WDt} (h : REL ω.1 ω.2.1) (hi : i + 6 ≤ sc.1) (hL : sc.1 ≤ 3072) (hc : nc + 1 ≤ 601024) (hs : ns + 6 ≤ 7293034) (hk : ∀ ω2 : WDt, REL ω2.1 ω2.2.1 → XL (.inr sc) mLaw HH (nc + 1) (ns + 6) 1773 [(0, .ref 3), (1, .ref 0), (2, .ref 1), (3, .ref 2), (4, .int (nI i))] [] ω2) : XL (.inr sc) mLaw HH nc ns 828 [(0, .ref 3), (1, .ref 0), (2, .ref 1), (3, .ref 2), (4, .int (nI i))] [] ω := by
  refine L_aload_n 828 1 dL_law_828 rfl rfl ?_
  refine L_aload_n 829 0 dL_law_829 rfl rfl ?_
  refine L_iload 830 4 dL_law_830 rfl ?_
  refine L_iconst 832 1 dL_law_832 (by decide) ?_
  refine L_iadd 833 dL_law_833 ?_
  rw [show nI i + 1 = nI (i + 1) from nI_add i 1]
  refine L_sld 834 dL_law_834 (by omega) (by omega) ?_
  refine L_aload_n 835 3 dL_law_835 rfl rfl ?_
  refine L_callW 836 [.ref 0, .int (sc.2 (i + 1)), .ref 2] (w_burn (sc.2 (i + 1)) ω h) dL_law_836 kl_880 kl_882 kl_0 kl_881 (by decide) (show _ = some 3 from by decide +kernel) ⟨Nat.le_of_ble_eq_true rfl, Nat.le_of_ble_eq_true rfl⟩ ⟨rfl, rfl⟩ ⟨hc, hs⟩ rfl (Nat.le_of_ble_eq_true rfl) ?_
  rintro r ω2 ⟨hμ, ⟨rfl, v, hv, S, hE, hw⟩ | ⟨hr0, S, hE, hw⟩⟩
  · rw [← hμ] at hE
    refine L_istore 839 _ dL_law_839 (by decide) rfl ?_
    refine L_aload_n 841 3 dL_law_841 rfl rfl ?_
    refine L_aload_n 842 1 dL_law_842 rfl rfl ?_
    refine L_iload 843 5 dL_law_843 rfl ?_
    refine L_iconst 845 1 dL_law_845 (by decide) ?_
    refine L_iadd 846 dL_law_846 ?_
    rw [show nI i + 1 = nI (i + 1) from nI_add i 1]
    refine L_sld 847 dL_law_847 (by omega) (by omega) ?_
    refine L_callM 848 [.int (sc.2 (i + 1))] (fun _ => rfl) hE (by rintro r m ⟨x, rfl, _⟩ _; rfl) dL_law_848 kl_1251 wm_X7_burn (show _ = some 1 from by decide +kernel) ⟨Nat.le_of_ble_eq_true rfl, Nat.le_of_ble_eq_true rfl⟩ ⟨rfl, rfl⟩ rfl ⟨by show _ ≤ 601024; omega, by show _ ≤ 7293034; omega⟩ rfl (Nat.le_of_ble_eq_true rfl) ?_
    rintro _ μ3 ⟨w, rfl, hw3⟩
    obtain ⟨e1, e2, hRel⟩ := hw w μ3 hw3
    refine L_istore 851 _ dL_law_851 (by decide) rfl ?_
    refine L_aload_n 853 4 dL_law_853 rfl rfl ?_
    refine L_callM 854 [] (fun _ => rfl) (e_X7_thrown _) (by rintro r m ⟨x, rfl, _⟩ _; rfl) dL_law_854 kl_1076 wm_X7_thrown (show _ = some 0 from by decide +kernel) ⟨Nat.le_of_ble_eq_true rfl, Nat.le_of_ble_eq_true rfl⟩ ⟨rfl, rfl⟩ rfl ⟨by show _ ≤ 601024; omega, by show _ ≤ 7293034; omega⟩ rfl (Nat.le_of_ble_eq_true rfl) ?_
    rintro _ _ ⟨_, rfl, rfl, rfl⟩
    refine L_iload 857 1 dL_law_857 rfl ?_
    refine L_icmp_eq 859 864 dL_law_859 (by decide) (fun _ => ?_) (fun c_0 => absurd (e2) c_0)
    refine L_iload 864 1 dL_law_864 rfl ?_
    refine L_if_ne 866 881 dL_law_866 (by decide) (fun c_0 => absurd rfl c_0) (fun _ => ?_)
    refine L_aload_n 869 5 dL_law_869 rfl rfl ?_
    refine L_iconst 870 0 dL_law_870 (by decide) ?_
    refine L_laload 871 dL_law_871 ?_
    refine L_iload 872 0 dL_law_872 rfl ?_
    refine L_i2l 874 dL_law_874 ?_
    refine L_lcmp 875 dL_law_875 (by rw [e1]; exact hv) ?_
    refine L_if_eq 876 881 dL_law_876 (by decide) (fun _ => ?_) (fun c_0 => absurd rfl c_0)
    refine L_goto 881 1773 dL_law_881 (by decide) ?_
    refine L_sub [2, 3, 4, 5, 6] _ rfl ?_
    exact hk _ hRel
  · rw [← hμ] at hE
    refine L_istore 839 _ dL_law_839 (by decide) rfl ?_
    refine L_aload_n 841 3 dL_law_841 rfl rfl ?_
    refine L_aload_n 842 1 dL_law_842 rfl rfl ?_
    refine L_iload 843 5 dL_law_843 rfl ?_
    refine L_iconst 845 1 dL_law_845 (by decide) ?_
    refine L_iadd 846 dL_law_846 ?_
    rw [show nI i + 1 = nI (i + 1) from nI_add i 1]
    refine L_sld 847 dL_law_847 (by omega) (by omega) ?_
    refine L_callM 848 [.int (sc.2 (i + 1))] (fun _ => rfl) hE (by rintro r m ⟨x, rfl, _⟩ _; rfl) dL_law_848 kl_1251 wm_X7_burn (show _ = some 1 from by decide +kernel) ⟨Nat.le_of_ble_eq_true rfl, Nat.le_of_ble_eq_true rfl⟩ ⟨rfl, rfl⟩ rfl ⟨by show _ ≤ 601024; omega, by show _ ≤ 7293034; omega⟩ rfl (Nat.le_of_ble_eq_true rfl) ?_
    rintro _ μ3 ⟨w, rfl, hw3⟩
    obtain ⟨e2, hRel⟩ := hw w μ3 hw3
    refine L_istore 851 _ dL_law_851 (by decide) rfl ?_
    refine L_aload_n 853 4 dL_law_853 rfl rfl ?_
    refine L_callM 854 [] (fun _ => rfl) (e_X7_thrown _) (by rintro r m ⟨x, rfl, _⟩ _; rfl) dL_law_854 kl_1076 wm_X7_thrown (show _ = some 0 from by decide +kernel) ⟨Nat.le_of_ble_eq_true rfl, Nat.le_of_ble_eq_true rfl⟩ ⟨rfl, rfl⟩ rfl ⟨by show _ ≤ 601024; omega, by show _ ≤ 7293034; omega⟩ rfl (Nat.le_of_ble_eq_true rfl) ?_
    rintro _ _ ⟨_, rfl, rfl, rfl⟩
    refine L_iload 857 1 dL_law_857 rfl ?_
    refine L_icmp_eq 859 864 dL_law_859 (by decide) (fun _ => ?_) (fun c_0 => absurd (e2) c_0)
    refine L_iload 864 1 dL_law_864 rfl ?_
    refine L_if_ne 866 881 dL_law_866 (by decide) (fun _ => ?_) (fun c_0 => absurd c_0 hr0)
    refine L_goto 881 1773 dL_law_881 (by decide) ?_
    refine L_sub [2, 3, 4, 5, 6] _ rfl ?_
    exact hk _ hRel
theorem c_law_place {sc : Nat × (Nat → Int32)} {HH : List (Nat × Nat × Nat × Nat)} {nc ns i : Nat} {ω : WDt} (h : REL ω.1 ω.2.1) (hi : i + 6 ≤ sc.1) (hL : sc.1 ≤ 3072) (hc : nc + 1 ≤ 601024) (hs : ns + 6 ≤ 7293034) (hk : ∀ ω2 : WDt, REL ω2.1 ω2.2.1 → XL (.inr sc) mLaw HH (nc + 1) (ns + 6) 1773 [(0, .ref 3), (1, .ref 0), (2, .ref 1), (3, .ref 2), (4, .int (nI i))] [] ω2) : XL (.inr sc) mLaw HH nc ns 884 [(0, .ref 3), (1, .ref 0), (2, .ref 1), (3, .ref 2), (4, .int (nI i))] [] ω := by
  refine L_aload_n 884 1 dL_law_884 rfl rfl ?_
  refine L_aload_n 885 0 dL_law_885 rfl rfl ?_
  refine L_iload 886 4 dL_law_886 rfl ?_
  refine L_iconst 888 1 dL_law_888 (by decide) ?_
  refine L_iadd 889 dL_law_889 ?_
  rw [show nI i + 1 = nI (i + 1) from nI_add i 1]
  refine L_sld 890 dL_law_890 (by omega) (by omega) ?_
  refine L_aload_n 891 0 dL_law_891 rfl rfl ?_
  refine L_iload 892 4 dL_law_892 rfl ?_
  refine L_iconst 894 2 dL_law_894 (by decide) ?_
  refine L_iadd 895 dL_law_895 ?_
  rw [show nI i + 2 = nI (i + 2) from nI_add i 2]
  refine L_sld 896 dL_law_896 (by omega) (by omega) ?_
  refine L_aload_n 897 0 dL_law_897 rfl rfl ?_
  refine L_iload 898 4 dL_law_898 rfl ?_
  refine L_iconst 900 3 dL_law_900 (by decide) ?_
  refine L_iadd 901 dL_law_901 ?_
  rw [show nI i + 3 = nI (i + 3) from nI_add i 3]
  refine L_sld 902 dL_law_902 (by omega) (by omega) ?_
  refine L_aload_n 903 3 dL_law_903 rfl rfl ?_
  refine L_callW 904 [.ref 0, .int (sc.2 (i + 1)), .int (sc.2 (i + 2)), .int (sc.2 (i + 3)), .ref 2] (w_place (sc.2 (i + 1)) (sc.2 (i + 2)) (sc.2 (i + 3)) ω h) dL_law_904 kl_892 kl_894 kl_0 kl_893 (by decide) (show _ = some 5 from by decide +kernel) ⟨Nat.le_of_ble_eq_true rfl, Nat.le_of_ble_eq_true rfl⟩ ⟨rfl, rfl⟩ ⟨hc, hs⟩ rfl (Nat.le_of_ble_eq_true rfl) ?_
  rintro r ω2 ⟨hμ, ⟨rfl, v, hv, S, hE, hw⟩ | ⟨hr0, S, hE, hw⟩⟩
  · rw [← hμ] at hE
    refine L_istore 907 _ dL_law_907 (by decide) rfl ?_
    refine L_aload_n 909 3 dL_law_909 rfl rfl ?_
    refine L_aload_n 910 1 dL_law_910 rfl rfl ?_
    refine L_iload 911 5 dL_law_911 rfl ?_
    refine L_iconst 913 1 dL_law_913 (by decide) ?_
    refine L_iadd 914 dL_law_914 ?_
    rw [show nI i + 1 = nI (i + 1) from nI_add i 1]
    refine L_sld 915 dL_law_915 (by omega) (by omega) ?_
    refine L_aload_n 916 1 dL_law_916 rfl rfl ?_
    refine L_iload 917 5 dL_law_917 rfl ?_
    refine L_iconst 919 2 dL_law_919 (by decide) ?_
    refine L_iadd 920 dL_law_920 ?_
    rw [show nI i + 2 = nI (i + 2) from nI_add i 2]
    refine L_sld 921 dL_law_921 (by omega) (by omega) ?_
    refine L_aload_n 922 1 dL_law_922 rfl rfl ?_
    refine L_iload 923 5 dL_law_923 rfl ?_
    refine L_iconst 925 3 dL_law_925 (by decide) ?_
    refine L_iadd 926 dL_law_926 ?_
    rw [show nI i + 3 = nI (i + 3) from nI_add i 3]
    refine L_sld 927 dL_law_927 (by omega) (by omega) ?_
    refine L_callM 928 [.int (sc.2 (i + 1)), .int (sc.2 (i + 2)), .int (sc.2 (i + 3))] (fun _ => rfl) hE (by rintro r m ⟨x, rfl, _⟩ _; rfl) dL_law_928 kl_1263 wm_X7_place (show _ = some 3 from by decide +kernel) ⟨Nat.le_of_ble_eq_true rfl, Nat.le_of_ble_eq_true rfl⟩ ⟨rfl, rfl⟩ rfl ⟨by show _ ≤ 601024; omega, by show _ ≤ 7293034; omega⟩ rfl (Nat.le_of_ble_eq_true rfl) ?_
    rintro _ μ3 ⟨w, rfl, hw3⟩
    obtain ⟨e1, e2, hRel⟩ := hw w μ3 hw3
    refine L_istore 931 _ dL_law_931 (by decide) rfl ?_
    refine L_aload_n 933 4 dL_law_933 rfl rfl ?_
    refine L_callM 934 [] (fun _ => rfl) (e_X7_thrown _) (by rintro r m ⟨x, rfl, _⟩ _; rfl) dL_law_934 kl_1076 wm_X7_thrown (show _ = some 0 from by decide +kernel) ⟨Nat.le_of_ble_eq_true rfl, Nat.le_of_ble_eq_true rfl⟩ ⟨rfl, rfl⟩ rfl ⟨by show _ ≤ 601024; omega, by show _ ≤ 7293034; omega⟩ rfl (Nat.le_of_ble_eq_true rfl) ?_
    rintro _ _ ⟨_, rfl, rfl, rfl⟩
    refine L_iload 937 1 dL_law_937 rfl ?_
    refine L_icmp_eq 939 944 dL_law_939 (by decide) (fun _ => ?_) (fun c_0 => absurd (e2) c_0)
    refine L_iload 944 1 dL_law_944 rfl ?_
    refine L_if_ne 946 961 dL_law_946 (by decide) (fun c_0 => absurd rfl c_0) (fun _ => ?_)
    refine L_aload_n 949 5 dL_law_949 rfl rfl ?_
    refine L_iconst 950 0 dL_law_950 (by decide) ?_
    refine L_laload 951 dL_law_951 ?_
    refine L_iload 952 0 dL_law_952 rfl ?_
    refine L_i2l 954 dL_law_954 ?_
    refine L_lcmp 955 dL_law_955 (by rw [e1]; exact hv) ?_
    refine L_if_eq 956 961 dL_law_956 (by decide) (fun _ => ?_) (fun c_0 => absurd rfl c_0)
    refine L_goto 961 1773 dL_law_961 (by decide) ?_
    refine L_sub [2, 3, 4, 5, 6] _ rfl ?_
    exact hk _ hRel
  · rw [← hμ] at hE
    refine L_istore 907 _ dL_law_907 (by decide) rfl ?_
    refine L_aload_n 909 3 dL_law_909 rfl rfl ?_
    refine L_aload_n 910 1 dL_law_910 rfl rfl ?_
    refine L_iload 911 5 dL_law_911 rfl ?_
    refine L_iconst 913 1 dL_law_913 (by decide) ?_
    refine L_iadd 914 dL_law_914 ?_
    rw [show nI i + 1 = nI (i + 1) from nI_add i 1]
    refine L_sld 915 dL_law_915 (by omega) (by omega) ?_
    refine L_aload_n 916 1 dL_law_916 rfl rfl ?_
    refine L_iload 917 5 dL_law_917 rfl ?_
    refine L_iconst 919 2 dL_law_919 (by decide) ?_
    refine L_iadd 920 dL_law_920 ?_
    rw [show nI i + 2 = nI (i + 2) from nI_add i 2]
    refine L_sld 921 dL_law_921 (by omega) (by omega) ?_
    refine L_aload_n 922 1 dL_law_922 rfl rfl ?_
    refine L_iload 923 5 dL_law_923 rfl ?_
    refine L_iconst 925 3 dL_law_925 (by decide) ?_
    refine L_iadd 926 dL_law_926 ?_
    rw [show nI i + 3 = nI (i + 3) from nI_add i 3]
    refine L_sld 927 dL_law_927 (by omega) (by omega) ?_
    refine L_callM 928 [.int (sc.2 (i + 1)), .int (sc.2 (i + 2)), .int (sc.2 (i + 3))] (fun _ => rfl) hE (by rintro r m ⟨x, rfl, _⟩ _; rfl) dL_law_928 kl_1263 wm_X7_place (show _ = some 3 from by decide +kernel) ⟨Nat.le_of_ble_eq_true rfl, Nat.le_of_ble_eq_true rfl⟩ ⟨rfl, rfl⟩ rfl ⟨by show _ ≤ 601024; omega, by show _ ≤ 7293034; omega⟩ rfl (Nat.le_of_ble_eq_true rfl) ?_
    rintro _ μ3 ⟨w, rfl, hw3⟩
    obtain ⟨e2, hRel⟩ := hw w μ3 hw3
    refine L_istore 931 _ dL_law_931 (by decide) rfl ?_
    refine L_aload_n 933 4 dL_law_933 rfl rfl ?_
    refine L_callM 934 [] (fun _ => rfl) (e_X7_thrown _) (by rintro r m ⟨x, rfl, _⟩ _; rfl) dL_law_934 kl_1076 wm_X7_thrown (show _ = some 0 from by decide +kernel) ⟨Nat.le_of_ble_eq_true rfl, Nat.le_of_ble_eq_true rfl⟩ ⟨rfl, rfl⟩ rfl ⟨by show _ ≤ 601024; omega, by show _ ≤ 7293034; omega⟩ rfl (Nat.le_of_ble_eq_true rfl) ?_
    rintro _ _ ⟨_, rfl, rfl, rfl⟩
    refine L_iload 937 1 dL_law_937 rfl ?_
    refine L_icmp_eq 939 944 dL_law_939 (by decide) (fun _ => ?_) (fun c_0 => absurd (e2) c_0)
    refine L_iload 944 1 dL_law_944 rfl ?_
    refine L_if_ne 946 961 dL_law_946 (by decide) (fun _ => ?_) (fun c_0 => absurd c_0 hr0)
    refine L_goto 961 1773 dL_law_961 (by decide) ?_
    refine L_sub [2, 3, 4, 5, 6] _ rfl ?_
    exact hk _ hRel
theorem c_law_light {sc : Nat × (Nat → Int32)} {HH : List (Nat × Nat × Nat × Nat)} {nc ns i : Nat} {ω : WDt} (h : REL ω.1 ω.2.1) (hi : i + 6 ≤ sc.1) (hL : sc.1 ≤ 3072) (hc : nc + 1 ≤ 601024) (hs : ns + 6 ≤ 7293034) (hk : ∀ ω2 : WDt, REL ω2.1 ω2.2.1 → XL (.inr sc) mLaw HH (nc + 1) (ns + 6) 1773 [(0, .ref 3), (1, .ref 0), (2, .ref 1), (3, .ref 2), (4, .int (nI i))] [] ω2) : XL (.inr sc) mLaw HH nc ns 964 [(0, .ref 3), (1, .ref 0), (2, .ref 1), (3, .ref 2), (4, .int (nI i))] [] ω := by
  refine L_aload_n 964 1 dL_law_964 rfl rfl ?_
  refine L_aload_n 965 0 dL_law_965 rfl rfl ?_
  refine L_iload 966 4 dL_law_966 rfl ?_
  refine L_iconst 968 1 dL_law_968 (by decide) ?_
  refine L_iadd 969 dL_law_969 ?_
  rw [show nI i + 1 = nI (i + 1) from nI_add i 1]
  refine L_sld 970 dL_law_970 (by omega) (by omega) ?_
  refine L_aload_n 971 0 dL_law_971 rfl rfl ?_
  refine L_iload 972 4 dL_law_972 rfl ?_
  refine L_iconst 974 2 dL_law_974 (by decide) ?_
  refine L_iadd 975 dL_law_975 ?_
  rw [show nI i + 2 = nI (i + 2) from nI_add i 2]
  refine L_sld 976 dL_law_976 (by omega) (by omega) ?_
  refine L_aload_n 977 0 dL_law_977 rfl rfl ?_
  refine L_iload 978 4 dL_law_978 rfl ?_
  refine L_iconst 980 3 dL_law_980 (by decide) ?_
  refine L_iadd 981 dL_law_981 ?_
  rw [show nI i + 3 = nI (i + 3) from nI_add i 3]
  refine L_sld 982 dL_law_982 (by omega) (by omega) ?_
  refine L_aload_n 983 3 dL_law_983 rfl rfl ?_
  refine L_callW 984 [.ref 0, .int (sc.2 (i + 1)), .int (sc.2 (i + 2)), .int (sc.2 (i + 3)), .ref 2] (w_light (sc.2 (i + 1)) (sc.2 (i + 2)) (sc.2 (i + 3)) ω h) dL_law_984 kl_904 kl_906 kl_0 kl_905 (by decide) (show _ = some 5 from by decide +kernel) ⟨Nat.le_of_ble_eq_true rfl, Nat.le_of_ble_eq_true rfl⟩ ⟨rfl, rfl⟩ ⟨hc, hs⟩ rfl (Nat.le_of_ble_eq_true rfl) ?_
  rintro r ω2 ⟨hμ, ⟨rfl, v, hv, S, hE, hw⟩ | ⟨hr0, S, hE, hw⟩⟩
  · rw [← hμ] at hE
    refine L_istore 987 _ dL_law_987 (by decide) rfl ?_
    refine L_aload_n 989 3 dL_law_989 rfl rfl ?_
    refine L_aload_n 990 1 dL_law_990 rfl rfl ?_
    refine L_iload 991 5 dL_law_991 rfl ?_
    refine L_iconst 993 1 dL_law_993 (by decide) ?_
    refine L_iadd 994 dL_law_994 ?_
    rw [show nI i + 1 = nI (i + 1) from nI_add i 1]
    refine L_sld 995 dL_law_995 (by omega) (by omega) ?_
    refine L_aload_n 996 1 dL_law_996 rfl rfl ?_
    refine L_iload 997 5 dL_law_997 rfl ?_
    refine L_iconst 999 2 dL_law_999 (by decide) ?_
    refine L_iadd 1000 dL_law_1000 ?_
    rw [show nI i + 2 = nI (i + 2) from nI_add i 2]
    refine L_sld 1001 dL_law_1001 (by omega) (by omega) ?_
    refine L_aload_n 1002 1 dL_law_1002 rfl rfl ?_
    refine L_iload 1003 5 dL_law_1003 rfl ?_
    refine L_iconst 1005 3 dL_law_1005 (by decide) ?_
    refine L_iadd 1006 dL_law_1006 ?_
    rw [show nI i + 3 = nI (i + 3) from nI_add i 3]
    refine L_sld 1007 dL_law_1007 (by omega) (by omega) ?_
    refine L_callM 1008 [.int (sc.2 (i + 1)), .int (sc.2 (i + 2)), .int (sc.2 (i + 3))] (fun _ => rfl) hE (by rintro r m ⟨x, rfl, _⟩ _; rfl) dL_law_1008 kl_1275 wm_X7_light (show _ = some 3 from by decide +kernel) ⟨Nat.le_of_ble_eq_true rfl, Nat.le_of_ble_eq_true rfl⟩ ⟨rfl, rfl⟩ rfl ⟨by show _ ≤ 601024; omega, by show _ ≤ 7293034; omega⟩ rfl (Nat.le_of_ble_eq_true rfl) ?_
    rintro _ μ3 ⟨w, rfl, hw3⟩
    obtain ⟨e1, e2, hRel⟩ := hw w μ3 hw3
    refine L_istore 1011 _ dL_law_1011 (by decide) rfl ?_
    refine L_aload_n 1013 4 dL_law_1013 rfl rfl ?_
    refine L_callM 1014 [] (fun _ => rfl) (e_X7_thrown _) (by rintro r m ⟨x, rfl, _⟩ _; rfl) dL_law_1014 kl_1076 wm_X7_thrown (show _ = some 0 from by decide +kernel) ⟨Nat.le_of_ble_eq_true rfl, Nat.le_of_ble_eq_true rfl⟩ ⟨rfl, rfl⟩ rfl ⟨by show _ ≤ 601024; omega, by show _ ≤ 7293034; omega⟩ rfl (Nat.le_of_ble_eq_true rfl) ?_
    rintro _ _ ⟨_, rfl, rfl, rfl⟩
    refine L_iload 1017 1 dL_law_1017 rfl ?_
    refine L_icmp_eq 1019 1024 dL_law_1019 (by decide) (fun _ => ?_) (fun c_0 => absurd (e2) c_0)
    refine L_iload 1024 1 dL_law_1024 rfl ?_
    refine L_if_ne 1026 1041 dL_law_1026 (by decide) (fun c_0 => absurd rfl c_0) (fun _ => ?_)
    refine L_aload_n 1029 5 dL_law_1029 rfl rfl ?_
    refine L_iconst 1030 0 dL_law_1030 (by decide) ?_
    refine L_laload 1031 dL_law_1031 ?_
    refine L_iload 1032 0 dL_law_1032 rfl ?_
    refine L_i2l 1034 dL_law_1034 ?_
    refine L_lcmp 1035 dL_law_1035 (by rw [e1]; exact hv) ?_
    refine L_if_eq 1036 1041 dL_law_1036 (by decide) (fun _ => ?_) (fun c_0 => absurd rfl c_0)
    refine L_goto 1041 1773 dL_law_1041 (by decide) ?_
    refine L_sub [2, 3, 4, 5, 6] _ rfl ?_
    exact hk _ hRel
  · rw [← hμ] at hE
    refine L_istore 987 _ dL_law_987 (by decide) rfl ?_
    refine L_aload_n 989 3 dL_law_989 rfl rfl ?_
    refine L_aload_n 990 1 dL_law_990 rfl rfl ?_
    refine L_iload 991 5 dL_law_991 rfl ?_
    refine L_iconst 993 1 dL_law_993 (by decide) ?_
    refine L_iadd 994 dL_law_994 ?_
    rw [show nI i + 1 = nI (i + 1) from nI_add i 1]
    refine L_sld 995 dL_law_995 (by omega) (by omega) ?_
    refine L_aload_n 996 1 dL_law_996 rfl rfl ?_
    refine L_iload 997 5 dL_law_997 rfl ?_
    refine L_iconst 999 2 dL_law_999 (by decide) ?_
    refine L_iadd 1000 dL_law_1000 ?_
    rw [show nI i + 2 = nI (i + 2) from nI_add i 2]
    refine L_sld 1001 dL_law_1001 (by omega) (by omega) ?_
    refine L_aload_n 1002 1 dL_law_1002 rfl rfl ?_
    refine L_iload 1003 5 dL_law_1003 rfl ?_
    refine L_iconst 1005 3 dL_law_1005 (by decide) ?_
    refine L_iadd 1006 dL_law_1006 ?_
    rw [show nI i + 3 = nI (i + 3) from nI_add i 3]
    refine L_sld 1007 dL_law_1007 (by omega) (by omega) ?_
    refine L_callM 1008 [.int (sc.2 (i + 1)), .int (sc.2 (i + 2)), .int (sc.2 (i + 3))] (fun _ => rfl) hE (by rintro r m ⟨x, rfl, _⟩ _; rfl) dL_law_1008 kl_1275 wm_X7_light (show _ = some 3 from by decide +kernel) ⟨Nat.le_of_ble_eq_true rfl, Nat.le_of_ble_eq_true rfl⟩ ⟨rfl, rfl⟩ rfl ⟨by show _ ≤ 601024; omega, by show _ ≤ 7293034; omega⟩ rfl (Nat.le_of_ble_eq_true rfl) ?_
    rintro _ μ3 ⟨w, rfl, hw3⟩
    obtain ⟨e2, hRel⟩ := hw w μ3 hw3
    refine L_istore 1011 _ dL_law_1011 (by decide) rfl ?_
    refine L_aload_n 1013 4 dL_law_1013 rfl rfl ?_
    refine L_callM 1014 [] (fun _ => rfl) (e_X7_thrown _) (by rintro r m ⟨x, rfl, _⟩ _; rfl) dL_law_1014 kl_1076 wm_X7_thrown (show _ = some 0 from by decide +kernel) ⟨Nat.le_of_ble_eq_true rfl, Nat.le_of_ble_eq_true rfl⟩ ⟨rfl, rfl⟩ rfl ⟨by show _ ≤ 601024; omega, by show _ ≤ 7293034; omega⟩ rfl (Nat.le_of_ble_eq_true rfl) ?_
    rintro _ _ ⟨_, rfl, rfl, rfl⟩
    refine L_iload 1017 1 dL_law_1017 rfl ?_
    refine L_icmp_eq 1019 1024 dL_law_1019 (by decide) (fun _ => ?_) (fun c_0 => absurd (e2) c_0)
    refine L_iload 1024 1 dL_law_1024 rfl ?_
    refine L_if_ne 1026 1041 dL_law_1026 (by decide) (fun _ => ?_) (fun c_0 => absurd c_0 hr0)
    refine L_goto 1041 1773 dL_law_1041 (by decide) ?_
    refine L_sub [2, 3, 4, 5, 6] _ rfl ?_
    exact hk _ hRel
theorem c_law_weight {sc : Nat × (Nat → Int32)} {HH : List (Nat × Nat × Nat × Nat)} {nc ns i : Nat} {ω : WDt} (h : REL ω.1 ω.2.1) (hi : i + 6 ≤ sc.1) (hL : sc.1 ≤ 3072) (hc : nc + 1 ≤ 601024) (hs : ns + 6 ≤ 7293034) (hk : ∀ ω2 : WDt, REL ω2.1 ω2.2.1 → XL (.inr sc) mLaw HH (nc + 1) (ns + 6) 1773 [(0, .ref 3), (1, .ref 0), (2, .ref 1), (3, .ref 2), (4, .int (nI i))] [] ω2) : XL (.inr sc) mLaw HH nc ns 1044 [(0, .ref 3), (1, .ref 0), (2, .ref 1), (3, .ref 2), (4, .int (nI i))] [] ω := by
  refine L_aload_n 1044 1 dL_law_1044 rfl rfl ?_
  refine L_aload_n 1045 0 dL_law_1045 rfl rfl ?_
  refine L_iload 1046 4 dL_law_1046 rfl ?_
  refine L_iconst 1048 1 dL_law_1048 (by decide) ?_
  refine L_iadd 1049 dL_law_1049 ?_
  rw [show nI i + 1 = nI (i + 1) from nI_add i 1]
  refine L_sld 1050 dL_law_1050 (by omega) (by omega) ?_
  refine L_aload_n 1051 0 dL_law_1051 rfl rfl ?_
  refine L_iload 1052 4 dL_law_1052 rfl ?_
  refine L_iconst 1054 2 dL_law_1054 (by decide) ?_
  refine L_iadd 1055 dL_law_1055 ?_
  rw [show nI i + 2 = nI (i + 2) from nI_add i 2]
  refine L_sld 1056 dL_law_1056 (by omega) (by omega) ?_
  refine L_aload_n 1057 0 dL_law_1057 rfl rfl ?_
  refine L_iload 1058 4 dL_law_1058 rfl ?_
  refine L_iconst 1060 3 dL_law_1060 (by decide) ?_
  refine L_iadd 1061 dL_law_1061 ?_
  rw [show nI i + 3 = nI (i + 3) from nI_add i 3]
  refine L_sld 1062 dL_law_1062 (by omega) (by omega) ?_
  refine L_aload_n 1063 3 dL_law_1063 rfl rfl ?_
  refine L_callW 1064 [.ref 0, .int (sc.2 (i + 1)), .int (sc.2 (i + 2)), .int (sc.2 (i + 3)), .ref 2] (w_weight (sc.2 (i + 1)) (sc.2 (i + 2)) (sc.2 (i + 3)) ω h) dL_law_1064 kl_911 kl_913 kl_0 kl_912 (by decide) (show _ = some 5 from by decide +kernel) ⟨Nat.le_of_ble_eq_true rfl, Nat.le_of_ble_eq_true rfl⟩ ⟨rfl, rfl⟩ ⟨hc, hs⟩ rfl (Nat.le_of_ble_eq_true rfl) ?_
  rintro r ω2 ⟨hμ, ⟨rfl, v, hv, S, hE, hw⟩ | ⟨hr0, S, hE, hw⟩⟩
  · rw [← hμ] at hE
    refine L_istore 1067 _ dL_law_1067 (by decide) rfl ?_
    refine L_aload_n 1069 3 dL_law_1069 rfl rfl ?_
    refine L_aload_n 1070 1 dL_law_1070 rfl rfl ?_
    refine L_iload 1071 5 dL_law_1071 rfl ?_
    refine L_iconst 1073 1 dL_law_1073 (by decide) ?_
    refine L_iadd 1074 dL_law_1074 ?_
    rw [show nI i + 1 = nI (i + 1) from nI_add i 1]
    refine L_sld 1075 dL_law_1075 (by omega) (by omega) ?_
    refine L_aload_n 1076 1 dL_law_1076 rfl rfl ?_
    refine L_iload 1077 5 dL_law_1077 rfl ?_
    refine L_iconst 1079 2 dL_law_1079 (by decide) ?_
    refine L_iadd 1080 dL_law_1080 ?_
    rw [show nI i + 2 = nI (i + 2) from nI_add i 2]
    refine L_sld 1081 dL_law_1081 (by omega) (by omega) ?_
    refine L_aload_n 1082 1 dL_law_1082 rfl rfl ?_
    refine L_iload 1083 5 dL_law_1083 rfl ?_
    refine L_iconst 1085 3 dL_law_1085 (by decide) ?_
    refine L_iadd 1086 dL_law_1086 ?_
    rw [show nI i + 3 = nI (i + 3) from nI_add i 3]
    refine L_sld 1087 dL_law_1087 (by omega) (by omega) ?_
    refine L_callM 1088 [.int (sc.2 (i + 1)), .int (sc.2 (i + 2)), .int (sc.2 (i + 3))] (fun _ => rfl) hE (by rintro r m ⟨x, rfl, _⟩ _; rfl) dL_law_1088 kl_1283 wm_X7_weight (show _ = some 3 from by decide +kernel) ⟨Nat.le_of_ble_eq_true rfl, Nat.le_of_ble_eq_true rfl⟩ ⟨rfl, rfl⟩ rfl ⟨by show _ ≤ 601024; omega, by show _ ≤ 7293034; omega⟩ rfl (Nat.le_of_ble_eq_true rfl) ?_
    rintro _ μ3 ⟨w, rfl, hw3⟩
    obtain ⟨e1, e2, hRel⟩ := hw w μ3 hw3
    refine L_istore 1091 _ dL_law_1091 (by decide) rfl ?_
    refine L_aload_n 1093 4 dL_law_1093 rfl rfl ?_
    refine L_callM 1094 [] (fun _ => rfl) (e_X7_thrown _) (by rintro r m ⟨x, rfl, _⟩ _; rfl) dL_law_1094 kl_1076 wm_X7_thrown (show _ = some 0 from by decide +kernel) ⟨Nat.le_of_ble_eq_true rfl, Nat.le_of_ble_eq_true rfl⟩ ⟨rfl, rfl⟩ rfl ⟨by show _ ≤ 601024; omega, by show _ ≤ 7293034; omega⟩ rfl (Nat.le_of_ble_eq_true rfl) ?_
    rintro _ _ ⟨_, rfl, rfl, rfl⟩
    refine L_iload 1097 1 dL_law_1097 rfl ?_
    refine L_icmp_eq 1099 1104 dL_law_1099 (by decide) (fun _ => ?_) (fun c_0 => absurd (e2) c_0)
    refine L_iload 1104 1 dL_law_1104 rfl ?_
    refine L_if_ne 1106 1121 dL_law_1106 (by decide) (fun c_0 => absurd rfl c_0) (fun _ => ?_)
    refine L_aload_n 1109 5 dL_law_1109 rfl rfl ?_
    refine L_iconst 1110 0 dL_law_1110 (by decide) ?_
    refine L_laload 1111 dL_law_1111 ?_
    refine L_iload 1112 0 dL_law_1112 rfl ?_
    refine L_i2l 1114 dL_law_1114 ?_
    refine L_lcmp 1115 dL_law_1115 (by rw [e1]; exact hv) ?_
    refine L_if_eq 1116 1121 dL_law_1116 (by decide) (fun _ => ?_) (fun c_0 => absurd rfl c_0)
    refine L_goto 1121 1773 dL_law_1121 (by decide) ?_
    refine L_sub [2, 3, 4, 5, 6] _ rfl ?_
    exact hk _ hRel
  · rw [← hμ] at hE
    refine L_istore 1067 _ dL_law_1067 (by decide) rfl ?_
    refine L_aload_n 1069 3 dL_law_1069 rfl rfl ?_
    refine L_aload_n 1070 1 dL_law_1070 rfl rfl ?_
    refine L_iload 1071 5 dL_law_1071 rfl ?_
    refine L_iconst 1073 1 dL_law_1073 (by decide) ?_
    refine L_iadd 1074 dL_law_1074 ?_
    rw [show nI i + 1 = nI (i + 1) from nI_add i 1]
    refine L_sld 1075 dL_law_1075 (by omega) (by omega) ?_
    refine L_aload_n 1076 1 dL_law_1076 rfl rfl ?_
    refine L_iload 1077 5 dL_law_1077 rfl ?_
    refine L_iconst 1079 2 dL_law_1079 (by decide) ?_
    refine L_iadd 1080 dL_law_1080 ?_
    rw [show nI i + 2 = nI (i + 2) from nI_add i 2]
    refine L_sld 1081 dL_law_1081 (by omega) (by omega) ?_
    refine L_aload_n 1082 1 dL_law_1082 rfl rfl ?_
    refine L_iload 1083 5 dL_law_1083 rfl ?_
    refine L_iconst 1085 3 dL_law_1085 (by decide) ?_
    refine L_iadd 1086 dL_law_1086 ?_
    rw [show nI i + 3 = nI (i + 3) from nI_add i 3]
    refine L_sld 1087 dL_law_1087 (by omega) (by omega) ?_
    refine L_callM 1088 [.int (sc.2 (i + 1)), .int (sc.2 (i + 2)), .int (sc.2 (i + 3))] (fun _ => rfl) hE (by rintro r m ⟨x, rfl, _⟩ _; rfl) dL_law_1088 kl_1283 wm_X7_weight (show _ = some 3 from by decide +kernel) ⟨Nat.le_of_ble_eq_true rfl, Nat.le_of_ble_eq_true rfl⟩ ⟨rfl, rfl⟩ rfl ⟨by show _ ≤ 601024; omega, by show _ ≤ 7293034; omega⟩ rfl (Nat.le_of_ble_eq_true rfl) ?_
    rintro _ μ3 ⟨w, rfl, hw3⟩
    obtain ⟨e2, hRel⟩ := hw w μ3 hw3
    refine L_istore 1091 _ dL_law_1091 (by decide) rfl ?_
    refine L_aload_n 1093 4 dL_law_1093 rfl rfl ?_
    refine L_callM 1094 [] (fun _ => rfl) (e_X7_thrown _) (by rintro r m ⟨x, rfl, _⟩ _; rfl) dL_law_1094 kl_1076 wm_X7_thrown (show _ = some 0 from by decide +kernel) ⟨Nat.le_of_ble_eq_true rfl, Nat.le_of_ble_eq_true rfl⟩ ⟨rfl, rfl⟩ rfl ⟨by show _ ≤ 601024; omega, by show _ ≤ 7293034; omega⟩ rfl (Nat.le_of_ble_eq_true rfl) ?_
    rintro _ _ ⟨_, rfl, rfl, rfl⟩
    refine L_iload 1097 1 dL_law_1097 rfl ?_
    refine L_icmp_eq 1099 1104 dL_law_1099 (by decide) (fun _ => ?_) (fun c_0 => absurd (e2) c_0)
    refine L_iload 1104 1 dL_law_1104 rfl ?_
    refine L_if_ne 1106 1121 dL_law_1106 (by decide) (fun _ => ?_) (fun c_0 => absurd c_0 hr0)
    refine L_goto 1121 1773 dL_law_1121 (by decide) ?_
    refine L_sub [2, 3, 4, 5, 6] _ rfl ?_
    exact hk _ hRel
theorem c_law_lamp {sc : Nat × (Nat → Int32)} {HH : List (Nat × Nat × Nat × Nat)} {nc ns i : Nat} {ω : WDt} (h : REL ω.1 ω.2.1) (hi : i + 6 ≤ sc.1) (hL : sc.1 ≤ 3072) (hc : nc + 1 ≤ 601024) (hs : ns + 6 ≤ 7293034) (hk : ∀ ω2 : WDt, REL ω2.1 ω2.2.1 → XL (.inr sc) mLaw HH (nc + 1) (ns + 6) 1773 [(0, .ref 3), (1, .ref 0), (2, .ref 1), (3, .ref 2), (4, .int (nI i))] [] ω2) : XL (.inr sc) mLaw HH nc ns 1124 [(0, .ref 3), (1, .ref 0), (2, .ref 1), (3, .ref 2), (4, .int (nI i))] [] ω := by
  refine L_aload_n 1124 1 dL_law_1124 rfl rfl ?_
  refine L_aload_n 1125 0 dL_law_1125 rfl rfl ?_
  refine L_iload 1126 4 dL_law_1126 rfl ?_
  refine L_iconst 1128 1 dL_law_1128 (by decide) ?_
  refine L_iadd 1129 dL_law_1129 ?_
  rw [show nI i + 1 = nI (i + 1) from nI_add i 1]
  refine L_sld 1130 dL_law_1130 (by omega) (by omega) ?_
  refine L_aload_n 1131 0 dL_law_1131 rfl rfl ?_
  refine L_iload 1132 4 dL_law_1132 rfl ?_
  refine L_iconst 1134 2 dL_law_1134 (by decide) ?_
  refine L_iadd 1135 dL_law_1135 ?_
  rw [show nI i + 2 = nI (i + 2) from nI_add i 2]
  refine L_sld 1136 dL_law_1136 (by omega) (by omega) ?_
  refine L_aload_n 1137 3 dL_law_1137 rfl rfl ?_
  refine L_callW 1138 [.ref 0, .int (sc.2 (i + 1)), .int (sc.2 (i + 2)), .ref 2] (w_lamp (sc.2 (i + 1)) (sc.2 (i + 2)) ω h) dL_law_1138 kl_921 kl_923 kl_0 kl_922 (by decide) (show _ = some 4 from by decide +kernel) ⟨Nat.le_of_ble_eq_true rfl, Nat.le_of_ble_eq_true rfl⟩ ⟨rfl, rfl⟩ ⟨hc, hs⟩ rfl (Nat.le_of_ble_eq_true rfl) ?_
  rintro r ω2 ⟨hμ, ⟨rfl, v, hv, S, hE, hw⟩ | ⟨hr0, S, hE, hw⟩⟩
  · rw [← hμ] at hE
    refine L_istore 1141 _ dL_law_1141 (by decide) rfl ?_
    refine L_aload_n 1143 3 dL_law_1143 rfl rfl ?_
    refine L_aload_n 1144 1 dL_law_1144 rfl rfl ?_
    refine L_iload 1145 5 dL_law_1145 rfl ?_
    refine L_iconst 1147 1 dL_law_1147 (by decide) ?_
    refine L_iadd 1148 dL_law_1148 ?_
    rw [show nI i + 1 = nI (i + 1) from nI_add i 1]
    refine L_sld 1149 dL_law_1149 (by omega) (by omega) ?_
    refine L_aload_n 1150 1 dL_law_1150 rfl rfl ?_
    refine L_iload 1151 5 dL_law_1151 rfl ?_
    refine L_iconst 1153 2 dL_law_1153 (by decide) ?_
    refine L_iadd 1154 dL_law_1154 ?_
    rw [show nI i + 2 = nI (i + 2) from nI_add i 2]
    refine L_sld 1155 dL_law_1155 (by omega) (by omega) ?_
    refine L_callM 1156 [.int (sc.2 (i + 1)), .int (sc.2 (i + 2))] (fun _ => rfl) hE (by rintro r m ⟨x, rfl, _⟩ _; rfl) dL_law_1156 kl_1287 wm_X7_lamp (show _ = some 2 from by decide +kernel) ⟨Nat.le_of_ble_eq_true rfl, Nat.le_of_ble_eq_true rfl⟩ ⟨rfl, rfl⟩ rfl ⟨by show _ ≤ 601024; omega, by show _ ≤ 7293034; omega⟩ rfl (Nat.le_of_ble_eq_true rfl) ?_
    rintro _ μ3 ⟨w, rfl, hw3⟩
    obtain ⟨e1, e2, hRel⟩ := hw w μ3 hw3
    refine L_istore 1159 _ dL_law_1159 (by decide) rfl ?_
    refine L_aload_n 1161 4 dL_law_1161 rfl rfl ?_
    refine L_callM 1162 [] (fun _ => rfl) (e_X7_thrown _) (by rintro r m ⟨x, rfl, _⟩ _; rfl) dL_law_1162 kl_1076 wm_X7_thrown (show _ = some 0 from by decide +kernel) ⟨Nat.le_of_ble_eq_true rfl, Nat.le_of_ble_eq_true rfl⟩ ⟨rfl, rfl⟩ rfl ⟨by show _ ≤ 601024; omega, by show _ ≤ 7293034; omega⟩ rfl (Nat.le_of_ble_eq_true rfl) ?_
    rintro _ _ ⟨_, rfl, rfl, rfl⟩
    refine L_iload 1165 1 dL_law_1165 rfl ?_
    refine L_icmp_eq 1167 1172 dL_law_1167 (by decide) (fun _ => ?_) (fun c_0 => absurd (e2) c_0)
    refine L_iload 1172 1 dL_law_1172 rfl ?_
    refine L_if_ne 1174 1189 dL_law_1174 (by decide) (fun c_0 => absurd rfl c_0) (fun _ => ?_)
    refine L_aload_n 1177 5 dL_law_1177 rfl rfl ?_
    refine L_iconst 1178 0 dL_law_1178 (by decide) ?_
    refine L_laload 1179 dL_law_1179 ?_
    refine L_iload 1180 0 dL_law_1180 rfl ?_
    refine L_i2l 1182 dL_law_1182 ?_
    refine L_lcmp 1183 dL_law_1183 (by rw [e1]; exact hv) ?_
    refine L_if_eq 1184 1189 dL_law_1184 (by decide) (fun _ => ?_) (fun c_0 => absurd rfl c_0)
    refine L_goto 1189 1773 dL_law_1189 (by decide) ?_
    refine L_sub [2, 3, 4, 5, 6] _ rfl ?_
    exact hk _ hRel
  · rw [← hμ] at hE
    refine L_istore 1141 _ dL_law_1141 (by decide) rfl ?_
    refine L_aload_n 1143 3 dL_law_1143 rfl rfl ?_
    refine L_aload_n 1144 1 dL_law_1144 rfl rfl ?_
    refine L_iload 1145 5 dL_law_1145 rfl ?_
    refine L_iconst 1147 1 dL_law_1147 (by decide) ?_
    refine L_iadd 1148 dL_law_1148 ?_
    rw [show nI i + 1 = nI (i + 1) from nI_add i 1]
    refine L_sld 1149 dL_law_1149 (by omega) (by omega) ?_
    refine L_aload_n 1150 1 dL_law_1150 rfl rfl ?_
    refine L_iload 1151 5 dL_law_1151 rfl ?_
    refine L_iconst 1153 2 dL_law_1153 (by decide) ?_
    refine L_iadd 1154 dL_law_1154 ?_
    rw [show nI i + 2 = nI (i + 2) from nI_add i 2]
    refine L_sld 1155 dL_law_1155 (by omega) (by omega) ?_
    refine L_callM 1156 [.int (sc.2 (i + 1)), .int (sc.2 (i + 2))] (fun _ => rfl) hE (by rintro r m ⟨x, rfl, _⟩ _; rfl) dL_law_1156 kl_1287 wm_X7_lamp (show _ = some 2 from by decide +kernel) ⟨Nat.le_of_ble_eq_true rfl, Nat.le_of_ble_eq_true rfl⟩ ⟨rfl, rfl⟩ rfl ⟨by show _ ≤ 601024; omega, by show _ ≤ 7293034; omega⟩ rfl (Nat.le_of_ble_eq_true rfl) ?_
    rintro _ μ3 ⟨w, rfl, hw3⟩
    obtain ⟨e2, hRel⟩ := hw w μ3 hw3
    refine L_istore 1159 _ dL_law_1159 (by decide) rfl ?_
    refine L_aload_n 1161 4 dL_law_1161 rfl rfl ?_
    refine L_callM 1162 [] (fun _ => rfl) (e_X7_thrown _) (by rintro r m ⟨x, rfl, _⟩ _; rfl) dL_law_1162 kl_1076 wm_X7_thrown (show _ = some 0 from by decide +kernel) ⟨Nat.le_of_ble_eq_true rfl, Nat.le_of_ble_eq_true rfl⟩ ⟨rfl, rfl⟩ rfl ⟨by show _ ≤ 601024; omega, by show _ ≤ 7293034; omega⟩ rfl (Nat.le_of_ble_eq_true rfl) ?_
    rintro _ _ ⟨_, rfl, rfl, rfl⟩
    refine L_iload 1165 1 dL_law_1165 rfl ?_
    refine L_icmp_eq 1167 1172 dL_law_1167 (by decide) (fun _ => ?_) (fun c_0 => absurd (e2) c_0)
    refine L_iload 1172 1 dL_law_1172 rfl ?_
    refine L_if_ne 1174 1189 dL_law_1174 (by decide) (fun _ => ?_) (fun c_0 => absurd c_0 hr0)
    refine L_goto 1189 1773 dL_law_1189 (by decide) ?_
    refine L_sub [2, 3, 4, 5, 6] _ rfl ?_
    exact hk _ hRel
theorem c_law_corner {sc : Nat × (Nat → Int32)} {HH : List (Nat × Nat × Nat × Nat)} {nc ns i : Nat} {ω : WDt} (h : REL ω.1 ω.2.1) (hi : i + 6 ≤ sc.1) (hL : sc.1 ≤ 3072) (hc : nc + 1 ≤ 601024) (hs : ns + 6 ≤ 7293034) (hk : ∀ ω2 : WDt, REL ω2.1 ω2.2.1 → XL (.inr sc) mLaw HH (nc + 1) (ns + 6) 1773 [(0, .ref 3), (1, .ref 0), (2, .ref 1), (3, .ref 2), (4, .int (nI i))] [] ω2) : XL (.inr sc) mLaw HH nc ns 1192 [(0, .ref 3), (1, .ref 0), (2, .ref 1), (3, .ref 2), (4, .int (nI i))] [] ω := by
  refine L_aload_n 1192 1 dL_law_1192 rfl rfl ?_
  refine L_aload_n 1193 0 dL_law_1193 rfl rfl ?_
  refine L_iload 1194 4 dL_law_1194 rfl ?_
  refine L_iconst 1196 1 dL_law_1196 (by decide) ?_
  refine L_iadd 1197 dL_law_1197 ?_
  rw [show nI i + 1 = nI (i + 1) from nI_add i 1]
  refine L_sld 1198 dL_law_1198 (by omega) (by omega) ?_
  refine L_aload_n 1199 0 dL_law_1199 rfl rfl ?_
  refine L_iload 1200 4 dL_law_1200 rfl ?_
  refine L_iconst 1202 2 dL_law_1202 (by decide) ?_
  refine L_iadd 1203 dL_law_1203 ?_
  rw [show nI i + 2 = nI (i + 2) from nI_add i 2]
  refine L_sld 1204 dL_law_1204 (by omega) (by omega) ?_
  refine L_aload_n 1205 0 dL_law_1205 rfl rfl ?_
  refine L_iload 1206 4 dL_law_1206 rfl ?_
  refine L_iconst 1208 3 dL_law_1208 (by decide) ?_
  refine L_iadd 1209 dL_law_1209 ?_
  rw [show nI i + 3 = nI (i + 3) from nI_add i 3]
  refine L_sld 1210 dL_law_1210 (by omega) (by omega) ?_
  refine L_aload_n 1211 3 dL_law_1211 rfl rfl ?_
  refine L_callW 1212 [.ref 0, .int (sc.2 (i + 1)), .int (sc.2 (i + 2)), .int (sc.2 (i + 3)), .ref 2] (w_corner (sc.2 (i + 1)) (sc.2 (i + 2)) (sc.2 (i + 3)) ω h) dL_law_1212 kl_928 kl_930 kl_0 kl_929 (by decide) (show _ = some 5 from by decide +kernel) ⟨Nat.le_of_ble_eq_true rfl, Nat.le_of_ble_eq_true rfl⟩ ⟨rfl, rfl⟩ ⟨hc, hs⟩ rfl (Nat.le_of_ble_eq_true rfl) ?_
  rintro r ω2 ⟨hμ, ⟨rfl, v, hv, S, hE, hw⟩ | ⟨hr0, S, hE, hw⟩⟩
  · rw [← hμ] at hE
    refine L_istore 1215 _ dL_law_1215 (by decide) rfl ?_
    refine L_aload_n 1217 3 dL_law_1217 rfl rfl ?_
    refine L_aload_n 1218 1 dL_law_1218 rfl rfl ?_
    refine L_iload 1219 5 dL_law_1219 rfl ?_
    refine L_iconst 1221 1 dL_law_1221 (by decide) ?_
    refine L_iadd 1222 dL_law_1222 ?_
    rw [show nI i + 1 = nI (i + 1) from nI_add i 1]
    refine L_sld 1223 dL_law_1223 (by omega) (by omega) ?_
    refine L_aload_n 1224 1 dL_law_1224 rfl rfl ?_
    refine L_iload 1225 5 dL_law_1225 rfl ?_
    refine L_iconst 1227 2 dL_law_1227 (by decide) ?_
    refine L_iadd 1228 dL_law_1228 ?_
    rw [show nI i + 2 = nI (i + 2) from nI_add i 2]
    refine L_sld 1229 dL_law_1229 (by omega) (by omega) ?_
    refine L_aload_n 1230 1 dL_law_1230 rfl rfl ?_
    refine L_iload 1231 5 dL_law_1231 rfl ?_
    refine L_iconst 1233 3 dL_law_1233 (by decide) ?_
    refine L_iadd 1234 dL_law_1234 ?_
    rw [show nI i + 3 = nI (i + 3) from nI_add i 3]
    refine L_sld 1235 dL_law_1235 (by omega) (by omega) ?_
    refine L_callM 1236 [.int (sc.2 (i + 1)), .int (sc.2 (i + 2)), .int (sc.2 (i + 3))] (fun _ => rfl) hE (by rintro r m ⟨x, rfl, _⟩ _; rfl) dL_law_1236 kl_1295 wm_X7_corner (show _ = some 3 from by decide +kernel) ⟨Nat.le_of_ble_eq_true rfl, Nat.le_of_ble_eq_true rfl⟩ ⟨rfl, rfl⟩ rfl ⟨by show _ ≤ 601024; omega, by show _ ≤ 7293034; omega⟩ rfl (Nat.le_of_ble_eq_true rfl) ?_
    rintro _ μ3 ⟨w, rfl, hw3⟩
    obtain ⟨e1, e2, hRel⟩ := hw w μ3 hw3
    refine L_istore 1239 _ dL_law_1239 (by decide) rfl ?_
    refine L_aload_n 1241 4 dL_law_1241 rfl rfl ?_
    refine L_callM 1242 [] (fun _ => rfl) (e_X7_thrown _) (by rintro r m ⟨x, rfl, _⟩ _; rfl) dL_law_1242 kl_1076 wm_X7_thrown (show _ = some 0 from by decide +kernel) ⟨Nat.le_of_ble_eq_true rfl, Nat.le_of_ble_eq_true rfl⟩ ⟨rfl, rfl⟩ rfl ⟨by show _ ≤ 601024; omega, by show _ ≤ 7293034; omega⟩ rfl (Nat.le_of_ble_eq_true rfl) ?_
    rintro _ _ ⟨_, rfl, rfl, rfl⟩
    refine L_iload 1245 1 dL_law_1245 rfl ?_
    refine L_icmp_eq 1247 1252 dL_law_1247 (by decide) (fun _ => ?_) (fun c_0 => absurd (e2) c_0)
    refine L_iload 1252 1 dL_law_1252 rfl ?_
    refine L_if_ne 1254 1269 dL_law_1254 (by decide) (fun c_0 => absurd rfl c_0) (fun _ => ?_)
    refine L_aload_n 1257 5 dL_law_1257 rfl rfl ?_
    refine L_iconst 1258 0 dL_law_1258 (by decide) ?_
    refine L_laload 1259 dL_law_1259 ?_
    refine L_iload 1260 0 dL_law_1260 rfl ?_
    refine L_i2l 1262 dL_law_1262 ?_
    refine L_lcmp 1263 dL_law_1263 (by rw [e1]; exact hv) ?_
    refine L_if_eq 1264 1269 dL_law_1264 (by decide) (fun _ => ?_) (fun c_0 => absurd rfl c_0)
    refine L_goto 1269 1773 dL_law_1269 (by decide) ?_
    refine L_sub [2, 3, 4, 5, 6] _ rfl ?_
    exact hk _ hRel
  · rw [← hμ] at hE
    refine L_istore 1215 _ dL_law_1215 (by decide) rfl ?_
    refine L_aload_n 1217 3 dL_law_1217 rfl rfl ?_
    refine L_aload_n 1218 1 dL_law_1218 rfl rfl ?_
    refine L_iload 1219 5 dL_law_1219 rfl ?_
    refine L_iconst 1221 1 dL_law_1221 (by decide) ?_
    refine L_iadd 1222 dL_law_1222 ?_
    rw [show nI i + 1 = nI (i + 1) from nI_add i 1]
    refine L_sld 1223 dL_law_1223 (by omega) (by omega) ?_
    refine L_aload_n 1224 1 dL_law_1224 rfl rfl ?_
    refine L_iload 1225 5 dL_law_1225 rfl ?_
    refine L_iconst 1227 2 dL_law_1227 (by decide) ?_
    refine L_iadd 1228 dL_law_1228 ?_
    rw [show nI i + 2 = nI (i + 2) from nI_add i 2]
    refine L_sld 1229 dL_law_1229 (by omega) (by omega) ?_
    refine L_aload_n 1230 1 dL_law_1230 rfl rfl ?_
    refine L_iload 1231 5 dL_law_1231 rfl ?_
    refine L_iconst 1233 3 dL_law_1233 (by decide) ?_
    refine L_iadd 1234 dL_law_1234 ?_
    rw [show nI i + 3 = nI (i + 3) from nI_add i 3]
    refine L_sld 1235 dL_law_1235 (by omega) (by omega) ?_
    refine L_callM 1236 [.int (sc.2 (i + 1)), .int (sc.2 (i + 2)), .int (sc.2 (i + 3))] (fun _ => rfl) hE (by rintro r m ⟨x, rfl, _⟩ _; rfl) dL_law_1236 kl_1295 wm_X7_corner (show _ = some 3 from by decide +kernel) ⟨Nat.le_of_ble_eq_true rfl, Nat.le_of_ble_eq_true rfl⟩ ⟨rfl, rfl⟩ rfl ⟨by show _ ≤ 601024; omega, by show _ ≤ 7293034; omega⟩ rfl (Nat.le_of_ble_eq_true rfl) ?_
    rintro _ μ3 ⟨w, rfl, hw3⟩
    obtain ⟨e2, hRel⟩ := hw w μ3 hw3
    refine L_istore 1239 _ dL_law_1239 (by decide) rfl ?_
    refine L_aload_n 1241 4 dL_law_1241 rfl rfl ?_
    refine L_callM 1242 [] (fun _ => rfl) (e_X7_thrown _) (by rintro r m ⟨x, rfl, _⟩ _; rfl) dL_law_1242 kl_1076 wm_X7_thrown (show _ = some 0 from by decide +kernel) ⟨Nat.le_of_ble_eq_true rfl, Nat.le_of_ble_eq_true rfl⟩ ⟨rfl, rfl⟩ rfl ⟨by show _ ≤ 601024; omega, by show _ ≤ 7293034; omega⟩ rfl (Nat.le_of_ble_eq_true rfl) ?_
    rintro _ _ ⟨_, rfl, rfl, rfl⟩
    refine L_iload 1245 1 dL_law_1245 rfl ?_
    refine L_icmp_eq 1247 1252 dL_law_1247 (by decide) (fun _ => ?_) (fun c_0 => absurd (e2) c_0)
    refine L_iload 1252 1 dL_law_1252 rfl ?_
    refine L_if_ne 1254 1269 dL_law_1254 (by decide) (fun _ => ?_) (fun c_0 => absurd c_0 hr0)
    refine L_goto 1269 1773 dL_law_1269 (by decide) ?_
    refine L_sub [2, 3, 4, 5, 6] _ rfl ?_
    exact hk _ hRel
theorem c_law_whole {sc : Nat × (Nat → Int32)} {HH : List (Nat × Nat × Nat × Nat)} {nc ns i : Nat} {ω : WDt} (h : REL ω.1 ω.2.1) (hi : i + 6 ≤ sc.1) (hL : sc.1 ≤ 3072) (hc : nc + 1 ≤ 601024) (hs : ns + 6 ≤ 7293034) (hk : ∀ ω2 : WDt, REL ω2.1 ω2.2.1 → XL (.inr sc) mLaw HH (nc + 1) (ns + 6) 1773 [(0, .ref 3), (1, .ref 0), (2, .ref 1), (3, .ref 2), (4, .int (nI i))] [] ω2) : XL (.inr sc) mLaw HH nc ns 1272 [(0, .ref 3), (1, .ref 0), (2, .ref 1), (3, .ref 2), (4, .int (nI i))] [] ω := by
  refine L_aload_n 1272 1 dL_law_1272 rfl rfl ?_
  refine L_aload_n 1273 0 dL_law_1273 rfl rfl ?_
  refine L_iload 1274 4 dL_law_1274 rfl ?_
  refine L_iconst 1276 1 dL_law_1276 (by decide) ?_
  refine L_iadd 1277 dL_law_1277 ?_
  rw [show nI i + 1 = nI (i + 1) from nI_add i 1]
  refine L_sld 1278 dL_law_1278 (by omega) (by omega) ?_
  refine L_aload_n 1279 3 dL_law_1279 rfl rfl ?_
  refine L_callW 1280 [.ref 0, .int (sc.2 (i + 1)), .ref 2] (w_whole (sc.2 (i + 1)) ω h) dL_law_1280 kl_935 kl_937 kl_0 kl_936 (by decide) (show _ = some 3 from by decide +kernel) ⟨Nat.le_of_ble_eq_true rfl, Nat.le_of_ble_eq_true rfl⟩ ⟨rfl, rfl⟩ ⟨hc, hs⟩ rfl (Nat.le_of_ble_eq_true rfl) ?_
  rintro r ω2 ⟨hμ, ⟨rfl, v, hv, S, hE, hw⟩ | ⟨hr0, S, hE, hw⟩⟩
  · rw [← hμ] at hE
    refine L_istore 1283 _ dL_law_1283 (by decide) rfl ?_
    refine L_aload_n 1285 3 dL_law_1285 rfl rfl ?_
    refine L_aload_n 1286 1 dL_law_1286 rfl rfl ?_
    refine L_iload 1287 5 dL_law_1287 rfl ?_
    refine L_iconst 1289 1 dL_law_1289 (by decide) ?_
    refine L_iadd 1290 dL_law_1290 ?_
    rw [show nI i + 1 = nI (i + 1) from nI_add i 1]
    refine L_sld 1291 dL_law_1291 (by omega) (by omega) ?_
    refine L_callM 1292 [.int (sc.2 (i + 1))] (fun _ => rfl) hE (by rintro r m ⟨x, rfl, _⟩ _; rfl) dL_law_1292 kl_1299 wm_X7_whole (show _ = some 1 from by decide +kernel) ⟨Nat.le_of_ble_eq_true rfl, Nat.le_of_ble_eq_true rfl⟩ ⟨rfl, rfl⟩ rfl ⟨by show _ ≤ 601024; omega, by show _ ≤ 7293034; omega⟩ rfl (Nat.le_of_ble_eq_true rfl) ?_
    rintro _ μ3 ⟨w, rfl, hw3⟩
    obtain ⟨e1, e2, hRel⟩ := hw w μ3 hw3
    refine L_istore 1295 _ dL_law_1295 (by decide) rfl ?_
    refine L_aload_n 1297 4 dL_law_1297 rfl rfl ?_
    refine L_callM 1298 [] (fun _ => rfl) (e_X7_thrown _) (by rintro r m ⟨x, rfl, _⟩ _; rfl) dL_law_1298 kl_1076 wm_X7_thrown (show _ = some 0 from by decide +kernel) ⟨Nat.le_of_ble_eq_true rfl, Nat.le_of_ble_eq_true rfl⟩ ⟨rfl, rfl⟩ rfl ⟨by show _ ≤ 601024; omega, by show _ ≤ 7293034; omega⟩ rfl (Nat.le_of_ble_eq_true rfl) ?_
    rintro _ _ ⟨_, rfl, rfl, rfl⟩
    refine L_iload 1301 1 dL_law_1301 rfl ?_
    refine L_icmp_eq 1303 1308 dL_law_1303 (by decide) (fun _ => ?_) (fun c_0 => absurd (e2) c_0)
    refine L_iload 1308 1 dL_law_1308 rfl ?_
    refine L_if_ne 1310 1325 dL_law_1310 (by decide) (fun c_0 => absurd rfl c_0) (fun _ => ?_)
    refine L_aload_n 1313 5 dL_law_1313 rfl rfl ?_
    refine L_iconst 1314 0 dL_law_1314 (by decide) ?_
    refine L_laload 1315 dL_law_1315 ?_
    refine L_iload 1316 0 dL_law_1316 rfl ?_
    refine L_i2l 1318 dL_law_1318 ?_
    refine L_lcmp 1319 dL_law_1319 (by rw [e1]; exact hv) ?_
    refine L_if_eq 1320 1325 dL_law_1320 (by decide) (fun _ => ?_) (fun c_0 => absurd rfl c_0)
    refine L_goto 1325 1773 dL_law_1325 (by decide) ?_
    refine L_sub [2, 3, 4, 5, 6] _ rfl ?_
    exact hk _ hRel
  · rw [← hμ] at hE
    refine L_istore 1283 _ dL_law_1283 (by decide) rfl ?_
    refine L_aload_n 1285 3 dL_law_1285 rfl rfl ?_
    refine L_aload_n 1286 1 dL_law_1286 rfl rfl ?_
    refine L_iload 1287 5 dL_law_1287 rfl ?_
    refine L_iconst 1289 1 dL_law_1289 (by decide) ?_
    refine L_iadd 1290 dL_law_1290 ?_
    rw [show nI i + 1 = nI (i + 1) from nI_add i 1]
    refine L_sld 1291 dL_law_1291 (by omega) (by omega) ?_
    refine L_callM 1292 [.int (sc.2 (i + 1))] (fun _ => rfl) hE (by rintro r m ⟨x, rfl, _⟩ _; rfl) dL_law_1292 kl_1299 wm_X7_whole (show _ = some 1 from by decide +kernel) ⟨Nat.le_of_ble_eq_true rfl, Nat.le_of_ble_eq_true rfl⟩ ⟨rfl, rfl⟩ rfl ⟨by show _ ≤ 601024; omega, by show _ ≤ 7293034; omega⟩ rfl (Nat.le_of_ble_eq_true rfl) ?_
    rintro _ μ3 ⟨w, rfl, hw3⟩
    obtain ⟨e2, hRel⟩ := hw w μ3 hw3
    refine L_istore 1295 _ dL_law_1295 (by decide) rfl ?_
    refine L_aload_n 1297 4 dL_law_1297 rfl rfl ?_
    refine L_callM 1298 [] (fun _ => rfl) (e_X7_thrown _) (by rintro r m ⟨x, rfl, _⟩ _; rfl) dL_law_1298 kl_1076 wm_X7_thrown (show _ = some 0 from by decide +kernel) ⟨Nat.le_of_ble_eq_true rfl, Nat.le_of_ble_eq_true rfl⟩ ⟨rfl, rfl⟩ rfl ⟨by show _ ≤ 601024; omega, by show _ ≤ 7293034; omega⟩ rfl (Nat.le_of_ble_eq_true rfl) ?_
    rintro _ _ ⟨_, rfl, rfl, rfl⟩
    refine L_iload 1301 1 dL_law_1301 rfl ?_
    refine L_icmp_eq 1303 1308 dL_law_1303 (by decide) (fun _ => ?_) (fun c_0 => absurd (e2) c_0)
    refine L_iload 1308 1 dL_law_1308 rfl ?_
    refine L_if_ne 1310 1325 dL_law_1310 (by decide) (fun _ => ?_) (fun c_0 => absurd c_0 hr0)
    refine L_goto 1325 1773 dL_law_1325 (by decide) ?_
    refine L_sub [2, 3, 4, 5, 6] _ rfl ?_
    exact hk _ hRel
theorem c_law_wrong {sc : Nat × (Nat → Int32)} {HH : List (Nat × Nat × Nat × Nat)} {nc ns i : Nat} {ω : WDt} (h : REL ω.1 ω.2.1) (hi : i + 6 ≤ sc.1) (hL : sc.1 ≤ 3072) (hc : nc + 1 ≤ 601024) (hs : ns + 6 ≤ 7293034) (hk : ∀ ω2 : WDt, REL ω2.1 ω2.2.1 → XL (.inr sc) mLaw HH (nc + 1) (ns + 6) 1773 [(0, .ref 3), (1, .ref 0), (2, .ref 1), (3, .ref 2), (4, .int (nI i))] [] ω2) : XL (.inr sc) mLaw HH nc ns 1328 [(0, .ref 3), (1, .ref 0), (2, .ref 1), (3, .ref 2), (4, .int (nI i))] [] ω := by
  refine L_aload_n 1328 1 dL_law_1328 rfl rfl ?_
  refine L_aload_n 1329 0 dL_law_1329 rfl rfl ?_
  refine L_iload 1330 4 dL_law_1330 rfl ?_
  refine L_iconst 1332 1 dL_law_1332 (by decide) ?_
  refine L_iadd 1333 dL_law_1333 ?_
  rw [show nI i + 1 = nI (i + 1) from nI_add i 1]
  refine L_sld 1334 dL_law_1334 (by omega) (by omega) ?_
  refine L_aload_n 1335 3 dL_law_1335 rfl rfl ?_
  refine L_callW 1336 [.ref 0, .int (sc.2 (i + 1)), .ref 2] (w_wrong (sc.2 (i + 1)) ω h) dL_law_1336 kl_942 kl_944 kl_0 kl_943 (by decide) (show _ = some 3 from by decide +kernel) ⟨Nat.le_of_ble_eq_true rfl, Nat.le_of_ble_eq_true rfl⟩ ⟨rfl, rfl⟩ ⟨hc, hs⟩ rfl (Nat.le_of_ble_eq_true rfl) ?_
  rintro r ω2 ⟨hμ, ⟨rfl, v, hv, S, hE, hw⟩ | ⟨hr0, S, hE, hw⟩⟩
  · rw [← hμ] at hE
    refine L_istore 1339 _ dL_law_1339 (by decide) rfl ?_
    refine L_aload_n 1341 3 dL_law_1341 rfl rfl ?_
    refine L_aload_n 1342 1 dL_law_1342 rfl rfl ?_
    refine L_iload 1343 5 dL_law_1343 rfl ?_
    refine L_iconst 1345 1 dL_law_1345 (by decide) ?_
    refine L_iadd 1346 dL_law_1346 ?_
    rw [show nI i + 1 = nI (i + 1) from nI_add i 1]
    refine L_sld 1347 dL_law_1347 (by omega) (by omega) ?_
    refine L_callM 1348 [.int (sc.2 (i + 1))] (fun _ => rfl) hE (by rintro r m ⟨x, rfl, _⟩ _; rfl) dL_law_1348 kl_1315 wm_X7_wrong (show _ = some 1 from by decide +kernel) ⟨Nat.le_of_ble_eq_true rfl, Nat.le_of_ble_eq_true rfl⟩ ⟨rfl, rfl⟩ rfl ⟨by show _ ≤ 601024; omega, by show _ ≤ 7293034; omega⟩ rfl (Nat.le_of_ble_eq_true rfl) ?_
    rintro _ μ3 ⟨w, rfl, hw3⟩
    obtain ⟨e1, e2, hRel⟩ := hw w μ3 hw3
    refine L_istore 1351 _ dL_law_1351 (by decide) rfl ?_
    refine L_aload_n 1353 4 dL_law_1353 rfl rfl ?_
    refine L_callM 1354 [] (fun _ => rfl) (e_X7_thrown _) (by rintro r m ⟨x, rfl, _⟩ _; rfl) dL_law_1354 kl_1076 wm_X7_thrown (show _ = some 0 from by decide +kernel) ⟨Nat.le_of_ble_eq_true rfl, Nat.le_of_ble_eq_true rfl⟩ ⟨rfl, rfl⟩ rfl ⟨by show _ ≤ 601024; omega, by show _ ≤ 7293034; omega⟩ rfl (Nat.le_of_ble_eq_true rfl) ?_
    rintro _ _ ⟨_, rfl, rfl, rfl⟩
    refine L_iload 1357 1 dL_law_1357 rfl ?_
    refine L_icmp_eq 1359 1364 dL_law_1359 (by decide) (fun _ => ?_) (fun c_0 => absurd (e2) c_0)
    refine L_iload 1364 1 dL_law_1364 rfl ?_
    refine L_if_ne 1366 1381 dL_law_1366 (by decide) (fun c_0 => absurd rfl c_0) (fun _ => ?_)
    refine L_aload_n 1369 5 dL_law_1369 rfl rfl ?_
    refine L_iconst 1370 0 dL_law_1370 (by decide) ?_
    refine L_laload 1371 dL_law_1371 ?_
    refine L_iload 1372 0 dL_law_1372 rfl ?_
    refine L_i2l 1374 dL_law_1374 ?_
    refine L_lcmp 1375 dL_law_1375 (by rw [e1]; exact hv) ?_
    refine L_if_eq 1376 1381 dL_law_1376 (by decide) (fun _ => ?_) (fun c_0 => absurd rfl c_0)
    refine L_goto 1381 1773 dL_law_1381 (by decide) ?_
    refine L_sub [2, 3, 4, 5, 6] _ rfl ?_
    exact hk _ hRel
  · rw [← hμ] at hE
    refine L_istore 1339 _ dL_law_1339 (by decide) rfl ?_
    refine L_aload_n 1341 3 dL_law_1341 rfl rfl ?_
    refine L_aload_n 1342 1 dL_law_1342 rfl rfl ?_
    refine L_iload 1343 5 dL_law_1343 rfl ?_
    refine L_iconst 1345 1 dL_law_1345 (by decide) ?_
    refine L_iadd 1346 dL_law_1346 ?_
    rw [show nI i + 1 = nI (i + 1) from nI_add i 1]
    refine L_sld 1347 dL_law_1347 (by omega) (by omega) ?_
    refine L_callM 1348 [.int (sc.2 (i + 1))] (fun _ => rfl) hE (by rintro r m ⟨x, rfl, _⟩ _; rfl) dL_law_1348 kl_1315 wm_X7_wrong (show _ = some 1 from by decide +kernel) ⟨Nat.le_of_ble_eq_true rfl, Nat.le_of_ble_eq_true rfl⟩ ⟨rfl, rfl⟩ rfl ⟨by show _ ≤ 601024; omega, by show _ ≤ 7293034; omega⟩ rfl (Nat.le_of_ble_eq_true rfl) ?_
    rintro _ μ3 ⟨w, rfl, hw3⟩
    obtain ⟨e2, hRel⟩ := hw w μ3 hw3
    refine L_istore 1351 _ dL_law_1351 (by decide) rfl ?_
    refine L_aload_n 1353 4 dL_law_1353 rfl rfl ?_
    refine L_callM 1354 [] (fun _ => rfl) (e_X7_thrown _) (by rintro r m ⟨x, rfl, _⟩ _; rfl) dL_law_1354 kl_1076 wm_X7_thrown (show _ = some 0 from by decide +kernel) ⟨Nat.le_of_ble_eq_true rfl, Nat.le_of_ble_eq_true rfl⟩ ⟨rfl, rfl⟩ rfl ⟨by show _ ≤ 601024; omega, by show _ ≤ 7293034; omega⟩ rfl (Nat.le_of_ble_eq_true rfl) ?_
    rintro _ _ ⟨_, rfl, rfl, rfl⟩
    refine L_iload 1357 1 dL_law_1357 rfl ?_
    refine L_icmp_eq 1359 1364 dL_law_1359 (by decide) (fun _ => ?_) (fun c_0 => absurd (e2) c_0)
    refine L_iload 1364 1 dL_law_1364 rfl ?_
    refine L_if_ne 1366 1381 dL_law_1366 (by decide) (fun _ => ?_) (fun c_0 => absurd c_0 hr0)
    refine L_goto 1381 1773 dL_law_1381 (by decide) ?_
    refine L_sub [2, 3, 4, 5, 6] _ rfl ?_
    exact hk _ hRel
theorem c_law_wrongWithout {sc : Nat × (Nat → Int32)} {HH : List (Nat × Nat × Nat × Nat)} {nc ns i : Nat} {ω : WDt} (h : REL ω.1 ω.2.1) (hi : i + 6 ≤ sc.1) (hL : sc.1 ≤ 3072) (hc : nc + 1 ≤ 601024) (hs : ns + 6 ≤ 7293034) (hk : ∀ ω2 : WDt, REL ω2.1 ω2.2.1 → XL (.inr sc) mLaw HH (nc + 1) (ns + 6) 1773 [(0, .ref 3), (1, .ref 0), (2, .ref 1), (3, .ref 2), (4, .int (nI i))] [] ω2) : XL (.inr sc) mLaw HH nc ns 1384 [(0, .ref 3), (1, .ref 0), (2, .ref 1), (3, .ref 2), (4, .int (nI i))] [] ω := by
  refine L_aload_n 1384 1 dL_law_1384 rfl rfl ?_
  refine L_aload_n 1385 0 dL_law_1385 rfl rfl ?_
  refine L_iload 1386 4 dL_law_1386 rfl ?_
  refine L_iconst 1388 1 dL_law_1388 (by decide) ?_
  refine L_iadd 1389 dL_law_1389 ?_
  rw [show nI i + 1 = nI (i + 1) from nI_add i 1]
  refine L_sld 1390 dL_law_1390 (by omega) (by omega) ?_
  refine L_aload_n 1391 3 dL_law_1391 rfl rfl ?_
  refine L_callW 1392 [.ref 0, .int (sc.2 (i + 1)), .ref 2] (w_wrongWithout (sc.2 (i + 1)) ω h) dL_law_1392 kl_949 kl_951 kl_0 kl_950 (by decide) (show _ = some 3 from by decide +kernel) ⟨Nat.le_of_ble_eq_true rfl, Nat.le_of_ble_eq_true rfl⟩ ⟨rfl, rfl⟩ ⟨hc, hs⟩ rfl (Nat.le_of_ble_eq_true rfl) ?_
  rintro r ω2 ⟨hμ, ⟨rfl, v, hv, S, hE, hw⟩ | ⟨hr0, S, hE, hw⟩⟩
  · rw [← hμ] at hE
    refine L_istore 1395 _ dL_law_1395 (by decide) rfl ?_
    refine L_aload_n 1397 3 dL_law_1397 rfl rfl ?_
    refine L_aload_n 1398 1 dL_law_1398 rfl rfl ?_
    refine L_iload 1399 5 dL_law_1399 rfl ?_
    refine L_iconst 1401 1 dL_law_1401 (by decide) ?_
    refine L_iadd 1402 dL_law_1402 ?_
    rw [show nI i + 1 = nI (i + 1) from nI_add i 1]
    refine L_sld 1403 dL_law_1403 (by omega) (by omega) ?_
    refine L_callM 1404 [.int (sc.2 (i + 1))] (fun _ => rfl) hE (by rintro r m ⟨x, rfl, _⟩ _; rfl) dL_law_1404 kl_1319 wm_X7_wrongWithout (show _ = some 1 from by decide +kernel) ⟨Nat.le_of_ble_eq_true rfl, Nat.le_of_ble_eq_true rfl⟩ ⟨rfl, rfl⟩ rfl ⟨by show _ ≤ 601024; omega, by show _ ≤ 7293034; omega⟩ rfl (Nat.le_of_ble_eq_true rfl) ?_
    rintro _ μ3 ⟨w, rfl, hw3⟩
    obtain ⟨e1, e2, hRel⟩ := hw w μ3 hw3
    refine L_istore 1407 _ dL_law_1407 (by decide) rfl ?_
    refine L_aload_n 1409 4 dL_law_1409 rfl rfl ?_
    refine L_callM 1410 [] (fun _ => rfl) (e_X7_thrown _) (by rintro r m ⟨x, rfl, _⟩ _; rfl) dL_law_1410 kl_1076 wm_X7_thrown (show _ = some 0 from by decide +kernel) ⟨Nat.le_of_ble_eq_true rfl, Nat.le_of_ble_eq_true rfl⟩ ⟨rfl, rfl⟩ rfl ⟨by show _ ≤ 601024; omega, by show _ ≤ 7293034; omega⟩ rfl (Nat.le_of_ble_eq_true rfl) ?_
    rintro _ _ ⟨_, rfl, rfl, rfl⟩
    refine L_iload 1413 1 dL_law_1413 rfl ?_
    refine L_icmp_eq 1415 1420 dL_law_1415 (by decide) (fun _ => ?_) (fun c_0 => absurd (e2) c_0)
    refine L_iload 1420 1 dL_law_1420 rfl ?_
    refine L_if_ne 1422 1437 dL_law_1422 (by decide) (fun c_0 => absurd rfl c_0) (fun _ => ?_)
    refine L_aload_n 1425 5 dL_law_1425 rfl rfl ?_
    refine L_iconst 1426 0 dL_law_1426 (by decide) ?_
    refine L_laload 1427 dL_law_1427 ?_
    refine L_iload 1428 0 dL_law_1428 rfl ?_
    refine L_i2l 1430 dL_law_1430 ?_
    refine L_lcmp 1431 dL_law_1431 (by rw [e1]; exact hv) ?_
    refine L_if_eq 1432 1437 dL_law_1432 (by decide) (fun _ => ?_) (fun c_0 => absurd rfl c_0)
    refine L_goto 1437 1773 dL_law_1437 (by decide) ?_
    refine L_sub [2, 3, 4, 5, 6] _ rfl ?_
    exact hk _ hRel
  · rw [← hμ] at hE
    refine L_istore 1395 _ dL_law_1395 (by decide) rfl ?_
    refine L_aload_n 1397 3 dL_law_1397 rfl rfl ?_
    refine L_aload_n 1398 1 dL_law_1398 rfl rfl ?_
    refine L_iload 1399 5 dL_law_1399 rfl ?_
    refine L_iconst 1401 1 dL_law_1401 (by decide) ?_
    refine L_iadd 1402 dL_law_1402 ?_
    rw [show nI i + 1 = nI (i + 1) from nI_add i 1]
    refine L_sld 1403 dL_law_1403 (by omega) (by omega) ?_
    refine L_callM 1404 [.int (sc.2 (i + 1))] (fun _ => rfl) hE (by rintro r m ⟨x, rfl, _⟩ _; rfl) dL_law_1404 kl_1319 wm_X7_wrongWithout (show _ = some 1 from by decide +kernel) ⟨Nat.le_of_ble_eq_true rfl, Nat.le_of_ble_eq_true rfl⟩ ⟨rfl, rfl⟩ rfl ⟨by show _ ≤ 601024; omega, by show _ ≤ 7293034; omega⟩ rfl (Nat.le_of_ble_eq_true rfl) ?_
    rintro _ μ3 ⟨w, rfl, hw3⟩
    obtain ⟨e2, hRel⟩ := hw w μ3 hw3
    refine L_istore 1407 _ dL_law_1407 (by decide) rfl ?_
    refine L_aload_n 1409 4 dL_law_1409 rfl rfl ?_
    refine L_callM 1410 [] (fun _ => rfl) (e_X7_thrown _) (by rintro r m ⟨x, rfl, _⟩ _; rfl) dL_law_1410 kl_1076 wm_X7_thrown (show _ = some 0 from by decide +kernel) ⟨Nat.le_of_ble_eq_true rfl, Nat.le_of_ble_eq_true rfl⟩ ⟨rfl, rfl⟩ rfl ⟨by show _ ≤ 601024; omega, by show _ ≤ 7293034; omega⟩ rfl (Nat.le_of_ble_eq_true rfl) ?_
    rintro _ _ ⟨_, rfl, rfl, rfl⟩
    refine L_iload 1413 1 dL_law_1413 rfl ?_
    refine L_icmp_eq 1415 1420 dL_law_1415 (by decide) (fun _ => ?_) (fun c_0 => absurd (e2) c_0)
    refine L_iload 1420 1 dL_law_1420 rfl ?_
    refine L_if_ne 1422 1437 dL_law_1422 (by decide) (fun _ => ?_) (fun c_0 => absurd c_0 hr0)
    refine L_goto 1437 1773 dL_law_1437 (by decide) ?_
    refine L_sub [2, 3, 4, 5, 6] _ rfl ?_
    exact hk _ hRel
theorem c_law_dearestLamp {sc : Nat × (Nat → Int32)} {HH : List (Nat × Nat × Nat × Nat)} {nc ns i : Nat} {ω : WDt} (h : REL ω.1 ω.2.1) (hi : i + 6 ≤ sc.1) (hL : sc.1 ≤ 3072) (hc : nc + 1 ≤ 601024) (hs : ns + 6 ≤ 7293034) (hk : ∀ ω2 : WDt, REL ω2.1 ω2.2.1 → XL (.inr sc) mLaw HH (nc + 1) (ns + 6) 1773 [(0, .ref 3), (1, .ref 0), (2, .ref 1), (3, .ref 2), (4, .int (nI i))] [] ω2) : XL (.inr sc) mLaw HH nc ns 1440 [(0, .ref 3), (1, .ref 0), (2, .ref 1), (3, .ref 2), (4, .int (nI i))] [] ω := by
  refine L_aload_n 1440 1 dL_law_1440 rfl rfl ?_
  obtain ⟨S0, hE0, hw0⟩ := s_dearestLamp h
  refine L_callC 1441 [] (fun _ => rfl) hE0 (by rintro r m ⟨x, rfl, _⟩ _; rfl) dL_law_1441 kl_236 wm_X6_dearestLamp (show _ = some 0 from by decide +kernel) ⟨Nat.le_of_ble_eq_true rfl, Nat.le_of_ble_eq_true rfl⟩ ⟨rfl, rfl⟩ rfl ⟨by show _ ≤ 601024; omega, by show _ ≤ 7293034; omega⟩ rfl (Nat.le_of_ble_eq_true rfl) ?_
  rintro _ V2 ⟨v, rfl, hv0⟩
  obtain ⟨S, hE, hw⟩ := hw0 v V2 hv0
  refine L_aload_n 1444 2 dL_law_1444 rfl rfl ?_
  refine L_callM 1445 [] (fun _ => rfl) hE (by rintro r m ⟨x, rfl, _⟩ _; rfl) dL_law_1445 kl_1327 wm_X7_dearestLamp (show _ = some 0 from by decide +kernel) ⟨Nat.le_of_ble_eq_true rfl, Nat.le_of_ble_eq_true rfl⟩ ⟨rfl, rfl⟩ rfl ⟨by show _ ≤ 601024; omega, by show _ ≤ 7293034; omega⟩ rfl (Nat.le_of_ble_eq_true rfl) ?_
  rintro _ μ3 ⟨w, rfl, hw3⟩
  obtain ⟨e1, e2, hRel⟩ := hw w μ3 hw3
  refine L_icmp_eq 1448 1773 dL_law_1448 (by decide) (fun _ => ?_) (fun c_0 => absurd (e1.symm) c_0)
  refine L_wid (Nat.le_succ nc) (Nat.le_add_right ns 6) ?_
  exact hk _ hRel
theorem c_law_wrongShifted {sc : Nat × (Nat → Int32)} {HH : List (Nat × Nat × Nat × Nat)} {nc ns i : Nat} {ω : WDt} (h : REL ω.1 ω.2.1) (hi : i + 6 ≤ sc.1) (hL : sc.1 ≤ 3072) (hc : nc + 1 ≤ 601024) (hs : ns + 6 ≤ 7293034) (hk : ∀ ω2 : WDt, REL ω2.1 ω2.2.1 → XL (.inr sc) mLaw HH (nc + 1) (ns + 6) 1773 [(0, .ref 3), (1, .ref 0), (2, .ref 1), (3, .ref 2), (4, .int (nI i))] [] ω2) : XL (.inr sc) mLaw HH nc ns 1453 [(0, .ref 3), (1, .ref 0), (2, .ref 1), (3, .ref 2), (4, .int (nI i))] [] ω := by
  refine L_aload_n 1453 1 dL_law_1453 rfl rfl ?_
  refine L_aload_n 1454 0 dL_law_1454 rfl rfl ?_
  refine L_iload 1455 4 dL_law_1455 rfl ?_
  refine L_iconst 1457 1 dL_law_1457 (by decide) ?_
  refine L_iadd 1458 dL_law_1458 ?_
  rw [show nI i + 1 = nI (i + 1) from nI_add i 1]
  refine L_sld 1459 dL_law_1459 (by omega) (by omega) ?_
  refine L_aload_n 1460 0 dL_law_1460 rfl rfl ?_
  refine L_iload 1461 4 dL_law_1461 rfl ?_
  refine L_iconst 1463 2 dL_law_1463 (by decide) ?_
  refine L_iadd 1464 dL_law_1464 ?_
  rw [show nI i + 2 = nI (i + 2) from nI_add i 2]
  refine L_sld 1465 dL_law_1465 (by omega) (by omega) ?_
  refine L_aload_n 1466 3 dL_law_1466 rfl rfl ?_
  refine L_callW 1467 [.ref 0, .int (sc.2 (i + 1)), .int (sc.2 (i + 2)), .ref 2] (w_wrongShifted (sc.2 (i + 1)) (sc.2 (i + 2)) ω h) dL_law_1467 kl_956 kl_958 kl_0 kl_957 (by decide) (show _ = some 4 from by decide +kernel) ⟨Nat.le_of_ble_eq_true rfl, Nat.le_of_ble_eq_true rfl⟩ ⟨rfl, rfl⟩ ⟨hc, hs⟩ rfl (Nat.le_of_ble_eq_true rfl) ?_
  rintro r ω2 ⟨hμ, ⟨rfl, v, hv, S, hE, hw⟩ | ⟨hr0, S, hE, hw⟩⟩
  · rw [← hμ] at hE
    refine L_istore 1470 _ dL_law_1470 (by decide) rfl ?_
    refine L_aload_n 1472 3 dL_law_1472 rfl rfl ?_
    refine L_aload_n 1473 1 dL_law_1473 rfl rfl ?_
    refine L_iload 1474 5 dL_law_1474 rfl ?_
    refine L_iconst 1476 1 dL_law_1476 (by decide) ?_
    refine L_iadd 1477 dL_law_1477 ?_
    rw [show nI i + 1 = nI (i + 1) from nI_add i 1]
    refine L_sld 1478 dL_law_1478 (by omega) (by omega) ?_
    refine L_aload_n 1479 1 dL_law_1479 rfl rfl ?_
    refine L_iload 1480 5 dL_law_1480 rfl ?_
    refine L_iconst 1482 2 dL_law_1482 (by decide) ?_
    refine L_iadd 1483 dL_law_1483 ?_
    rw [show nI i + 2 = nI (i + 2) from nI_add i 2]
    refine L_sld 1484 dL_law_1484 (by omega) (by omega) ?_
    refine L_callM 1485 [.int (sc.2 (i + 1)), .int (sc.2 (i + 2))] (fun _ => rfl) hE (by rintro r m ⟨x, rfl, _⟩ _; rfl) dL_law_1485 kl_1331 wm_X7_wrongShifted (show _ = some 2 from by decide +kernel) ⟨Nat.le_of_ble_eq_true rfl, Nat.le_of_ble_eq_true rfl⟩ ⟨rfl, rfl⟩ rfl ⟨by show _ ≤ 601024; omega, by show _ ≤ 7293034; omega⟩ rfl (Nat.le_of_ble_eq_true rfl) ?_
    rintro _ μ3 ⟨w, rfl, hw3⟩
    obtain ⟨e1, e2, hRel⟩ := hw w μ3 hw3
    refine L_istore 1488 _ dL_law_1488 (by decide) rfl ?_
    refine L_aload_n 1490 4 dL_law_1490 rfl rfl ?_
    refine L_callM 1491 [] (fun _ => rfl) (e_X7_thrown _) (by rintro r m ⟨x, rfl, _⟩ _; rfl) dL_law_1491 kl_1076 wm_X7_thrown (show _ = some 0 from by decide +kernel) ⟨Nat.le_of_ble_eq_true rfl, Nat.le_of_ble_eq_true rfl⟩ ⟨rfl, rfl⟩ rfl ⟨by show _ ≤ 601024; omega, by show _ ≤ 7293034; omega⟩ rfl (Nat.le_of_ble_eq_true rfl) ?_
    rintro _ _ ⟨_, rfl, rfl, rfl⟩
    refine L_iload 1494 1 dL_law_1494 rfl ?_
    refine L_icmp_eq 1496 1501 dL_law_1496 (by decide) (fun _ => ?_) (fun c_0 => absurd (e2) c_0)
    refine L_iload 1501 1 dL_law_1501 rfl ?_
    refine L_if_ne 1503 1518 dL_law_1503 (by decide) (fun c_0 => absurd rfl c_0) (fun _ => ?_)
    refine L_aload_n 1506 5 dL_law_1506 rfl rfl ?_
    refine L_iconst 1507 0 dL_law_1507 (by decide) ?_
    refine L_laload 1508 dL_law_1508 ?_
    refine L_iload 1509 0 dL_law_1509 rfl ?_
    refine L_i2l 1511 dL_law_1511 ?_
    refine L_lcmp 1512 dL_law_1512 (by rw [e1]; exact hv) ?_
    refine L_if_eq 1513 1518 dL_law_1513 (by decide) (fun _ => ?_) (fun c_0 => absurd rfl c_0)
    refine L_goto 1518 1773 dL_law_1518 (by decide) ?_
    refine L_sub [2, 3, 4, 5, 6] _ rfl ?_
    exact hk _ hRel
  · rw [← hμ] at hE
    refine L_istore 1470 _ dL_law_1470 (by decide) rfl ?_
    refine L_aload_n 1472 3 dL_law_1472 rfl rfl ?_
    refine L_aload_n 1473 1 dL_law_1473 rfl rfl ?_
    refine L_iload 1474 5 dL_law_1474 rfl ?_
    refine L_iconst 1476 1 dL_law_1476 (by decide) ?_
    refine L_iadd 1477 dL_law_1477 ?_
    rw [show nI i + 1 = nI (i + 1) from nI_add i 1]
    refine L_sld 1478 dL_law_1478 (by omega) (by omega) ?_
    refine L_aload_n 1479 1 dL_law_1479 rfl rfl ?_
    refine L_iload 1480 5 dL_law_1480 rfl ?_
    refine L_iconst 1482 2 dL_law_1482 (by decide) ?_
    refine L_iadd 1483 dL_law_1483 ?_
    rw [show nI i + 2 = nI (i + 2) from nI_add i 2]
    refine L_sld 1484 dL_law_1484 (by omega) (by omega) ?_
    refine L_callM 1485 [.int (sc.2 (i + 1)), .int (sc.2 (i + 2))] (fun _ => rfl) hE (by rintro r m ⟨x, rfl, _⟩ _; rfl) dL_law_1485 kl_1331 wm_X7_wrongShifted (show _ = some 2 from by decide +kernel) ⟨Nat.le_of_ble_eq_true rfl, Nat.le_of_ble_eq_true rfl⟩ ⟨rfl, rfl⟩ rfl ⟨by show _ ≤ 601024; omega, by show _ ≤ 7293034; omega⟩ rfl (Nat.le_of_ble_eq_true rfl) ?_
    rintro _ μ3 ⟨w, rfl, hw3⟩
    obtain ⟨e2, hRel⟩ := hw w μ3 hw3
    refine L_istore 1488 _ dL_law_1488 (by decide) rfl ?_
    refine L_aload_n 1490 4 dL_law_1490 rfl rfl ?_
    refine L_callM 1491 [] (fun _ => rfl) (e_X7_thrown _) (by rintro r m ⟨x, rfl, _⟩ _; rfl) dL_law_1491 kl_1076 wm_X7_thrown (show _ = some 0 from by decide +kernel) ⟨Nat.le_of_ble_eq_true rfl, Nat.le_of_ble_eq_true rfl⟩ ⟨rfl, rfl⟩ rfl ⟨by show _ ≤ 601024; omega, by show _ ≤ 7293034; omega⟩ rfl (Nat.le_of_ble_eq_true rfl) ?_
    rintro _ _ ⟨_, rfl, rfl, rfl⟩
    refine L_iload 1494 1 dL_law_1494 rfl ?_
    refine L_icmp_eq 1496 1501 dL_law_1496 (by decide) (fun _ => ?_) (fun c_0 => absurd (e2) c_0)
    refine L_iload 1501 1 dL_law_1501 rfl ?_
    refine L_if_ne 1503 1518 dL_law_1503 (by decide) (fun _ => ?_) (fun c_0 => absurd c_0 hr0)
    refine L_goto 1518 1773 dL_law_1518 (by decide) ?_
    refine L_sub [2, 3, 4, 5, 6] _ rfl ?_
    exact hk _ hRel
theorem c_law_bestShift {sc : Nat × (Nat → Int32)} {HH : List (Nat × Nat × Nat × Nat)} {nc ns i : Nat} {ω : WDt} (h : REL ω.1 ω.2.1) (hi : i + 6 ≤ sc.1) (hL : sc.1 ≤ 3072) (hc : nc + 1 ≤ 601024) (hs : ns + 6 ≤ 7293034) (hk : ∀ ω2 : WDt, REL ω2.1 ω2.2.1 → XL (.inr sc) mLaw HH (nc + 1) (ns + 6) 1773 [(0, .ref 3), (1, .ref 0), (2, .ref 1), (3, .ref 2), (4, .int (nI i))] [] ω2) : XL (.inr sc) mLaw HH nc ns 1521 [(0, .ref 3), (1, .ref 0), (2, .ref 1), (3, .ref 2), (4, .int (nI i))] [] ω := by
  refine L_aload_n 1521 1 dL_law_1521 rfl rfl ?_
  refine L_aload_n 1522 0 dL_law_1522 rfl rfl ?_
  refine L_iload 1523 4 dL_law_1523 rfl ?_
  refine L_iconst 1525 1 dL_law_1525 (by decide) ?_
  refine L_iadd 1526 dL_law_1526 ?_
  rw [show nI i + 1 = nI (i + 1) from nI_add i 1]
  refine L_sld 1527 dL_law_1527 (by omega) (by omega) ?_
  refine L_aload_n 1528 3 dL_law_1528 rfl rfl ?_
  refine L_callW 1529 [.ref 0, .int (sc.2 (i + 1)), .ref 2] (w_bestShift (sc.2 (i + 1)) ω h) dL_law_1529 kl_963 kl_965 kl_0 kl_964 (by decide) (show _ = some 3 from by decide +kernel) ⟨Nat.le_of_ble_eq_true rfl, Nat.le_of_ble_eq_true rfl⟩ ⟨rfl, rfl⟩ ⟨hc, hs⟩ rfl (Nat.le_of_ble_eq_true rfl) ?_
  rintro r ω2 ⟨hμ, ⟨rfl, v, hv, S, hE, hw⟩ | ⟨hr0, S, hE, hw⟩⟩
  · rw [← hμ] at hE
    refine L_istore 1532 _ dL_law_1532 (by decide) rfl ?_
    refine L_aload_n 1534 3 dL_law_1534 rfl rfl ?_
    refine L_aload_n 1535 1 dL_law_1535 rfl rfl ?_
    refine L_iload 1536 5 dL_law_1536 rfl ?_
    refine L_iconst 1538 1 dL_law_1538 (by decide) ?_
    refine L_iadd 1539 dL_law_1539 ?_
    rw [show nI i + 1 = nI (i + 1) from nI_add i 1]
    refine L_sld 1540 dL_law_1540 (by omega) (by omega) ?_
    refine L_callM 1541 [.int (sc.2 (i + 1))] (fun _ => rfl) hE (by rintro r m ⟨x, rfl, _⟩ _; rfl) dL_law_1541 kl_1343 wm_X7_bestShift (show _ = some 1 from by decide +kernel) ⟨Nat.le_of_ble_eq_true rfl, Nat.le_of_ble_eq_true rfl⟩ ⟨rfl, rfl⟩ rfl ⟨by show _ ≤ 601024; omega, by show _ ≤ 7293034; omega⟩ rfl (Nat.le_of_ble_eq_true rfl) ?_
    rintro _ μ3 ⟨w, rfl, hw3⟩
    obtain ⟨e1, e2, hRel⟩ := hw w μ3 hw3
    refine L_istore 1544 _ dL_law_1544 (by decide) rfl ?_
    refine L_aload_n 1546 4 dL_law_1546 rfl rfl ?_
    refine L_callM 1547 [] (fun _ => rfl) (e_X7_thrown _) (by rintro r m ⟨x, rfl, _⟩ _; rfl) dL_law_1547 kl_1076 wm_X7_thrown (show _ = some 0 from by decide +kernel) ⟨Nat.le_of_ble_eq_true rfl, Nat.le_of_ble_eq_true rfl⟩ ⟨rfl, rfl⟩ rfl ⟨by show _ ≤ 601024; omega, by show _ ≤ 7293034; omega⟩ rfl (Nat.le_of_ble_eq_true rfl) ?_
    rintro _ _ ⟨_, rfl, rfl, rfl⟩
    refine L_iload 1550 1 dL_law_1550 rfl ?_
    refine L_icmp_eq 1552 1557 dL_law_1552 (by decide) (fun _ => ?_) (fun c_0 => absurd (e2) c_0)
    refine L_iload 1557 1 dL_law_1557 rfl ?_
    refine L_if_ne 1559 1574 dL_law_1559 (by decide) (fun c_0 => absurd rfl c_0) (fun _ => ?_)
    refine L_aload_n 1562 5 dL_law_1562 rfl rfl ?_
    refine L_iconst 1563 0 dL_law_1563 (by decide) ?_
    refine L_laload 1564 dL_law_1564 ?_
    refine L_iload 1565 0 dL_law_1565 rfl ?_
    refine L_i2l 1567 dL_law_1567 ?_
    refine L_lcmp 1568 dL_law_1568 (by rw [e1]; exact hv) ?_
    refine L_if_eq 1569 1574 dL_law_1569 (by decide) (fun _ => ?_) (fun c_0 => absurd rfl c_0)
    refine L_goto 1574 1773 dL_law_1574 (by decide) ?_
    refine L_sub [2, 3, 4, 5, 6] _ rfl ?_
    exact hk _ hRel
  · rw [← hμ] at hE
    refine L_istore 1532 _ dL_law_1532 (by decide) rfl ?_
    refine L_aload_n 1534 3 dL_law_1534 rfl rfl ?_
    refine L_aload_n 1535 1 dL_law_1535 rfl rfl ?_
    refine L_iload 1536 5 dL_law_1536 rfl ?_
    refine L_iconst 1538 1 dL_law_1538 (by decide) ?_
    refine L_iadd 1539 dL_law_1539 ?_
    rw [show nI i + 1 = nI (i + 1) from nI_add i 1]
    refine L_sld 1540 dL_law_1540 (by omega) (by omega) ?_
    refine L_callM 1541 [.int (sc.2 (i + 1))] (fun _ => rfl) hE (by rintro r m ⟨x, rfl, _⟩ _; rfl) dL_law_1541 kl_1343 wm_X7_bestShift (show _ = some 1 from by decide +kernel) ⟨Nat.le_of_ble_eq_true rfl, Nat.le_of_ble_eq_true rfl⟩ ⟨rfl, rfl⟩ rfl ⟨by show _ ≤ 601024; omega, by show _ ≤ 7293034; omega⟩ rfl (Nat.le_of_ble_eq_true rfl) ?_
    rintro _ μ3 ⟨w, rfl, hw3⟩
    obtain ⟨e2, hRel⟩ := hw w μ3 hw3
    refine L_istore 1544 _ dL_law_1544 (by decide) rfl ?_
    refine L_aload_n 1546 4 dL_law_1546 rfl rfl ?_
    refine L_callM 1547 [] (fun _ => rfl) (e_X7_thrown _) (by rintro r m ⟨x, rfl, _⟩ _; rfl) dL_law_1547 kl_1076 wm_X7_thrown (show _ = some 0 from by decide +kernel) ⟨Nat.le_of_ble_eq_true rfl, Nat.le_of_ble_eq_true rfl⟩ ⟨rfl, rfl⟩ rfl ⟨by show _ ≤ 601024; omega, by show _ ≤ 7293034; omega⟩ rfl (Nat.le_of_ble_eq_true rfl) ?_
    rintro _ _ ⟨_, rfl, rfl, rfl⟩
    refine L_iload 1550 1 dL_law_1550 rfl ?_
    refine L_icmp_eq 1552 1557 dL_law_1552 (by decide) (fun _ => ?_) (fun c_0 => absurd (e2) c_0)
    refine L_iload 1557 1 dL_law_1557 rfl ?_
    refine L_if_ne 1559 1574 dL_law_1559 (by decide) (fun _ => ?_) (fun c_0 => absurd c_0 hr0)
    refine L_goto 1574 1773 dL_law_1574 (by decide) ?_
    refine L_sub [2, 3, 4, 5, 6] _ rfl ?_
    exact hk _ hRel
theorem c_law_neededLimit {sc : Nat × (Nat → Int32)} {HH : List (Nat × Nat × Nat × Nat)} {nc ns i : Nat} {ω : WDt} (h : REL ω.1 ω.2.1) (hi : i + 6 ≤ sc.1) (hL : sc.1 ≤ 3072) (hc : nc + 1 ≤ 601024) (hs : ns + 6 ≤ 7293034) (hk : ∀ ω2 : WDt, REL ω2.1 ω2.2.1 → XL (.inr sc) mLaw HH (nc + 1) (ns + 6) 1773 [(0, .ref 3), (1, .ref 0), (2, .ref 1), (3, .ref 2), (4, .int (nI i))] [] ω2) : XL (.inr sc) mLaw HH nc ns 1577 [(0, .ref 3), (1, .ref 0), (2, .ref 1), (3, .ref 2), (4, .int (nI i))] [] ω := by
  refine L_aload_n 1577 1 dL_law_1577 rfl rfl ?_
  refine L_aload_n 1578 0 dL_law_1578 rfl rfl ?_
  refine L_iload 1579 4 dL_law_1579 rfl ?_
  refine L_iconst 1581 1 dL_law_1581 (by decide) ?_
  refine L_iadd 1582 dL_law_1582 ?_
  rw [show nI i + 1 = nI (i + 1) from nI_add i 1]
  refine L_sld 1583 dL_law_1583 (by omega) (by omega) ?_
  refine L_aload_n 1584 3 dL_law_1584 rfl rfl ?_
  refine L_callW 1585 [.ref 0, .int (sc.2 (i + 1)), .ref 2] (w_neededLimit (sc.2 (i + 1)) ω h) dL_law_1585 kl_970 kl_972 kl_0 kl_971 (by decide) (show _ = some 3 from by decide +kernel) ⟨Nat.le_of_ble_eq_true rfl, Nat.le_of_ble_eq_true rfl⟩ ⟨rfl, rfl⟩ ⟨hc, hs⟩ rfl (Nat.le_of_ble_eq_true rfl) ?_
  rintro r ω2 ⟨hμ, ⟨rfl, v, hv, S, hE, hw⟩ | ⟨hr0, S, hE, hw⟩⟩
  · rw [← hμ] at hE
    refine L_istore 1588 _ dL_law_1588 (by decide) rfl ?_
    refine L_aload_n 1590 3 dL_law_1590 rfl rfl ?_
    refine L_aload_n 1591 1 dL_law_1591 rfl rfl ?_
    refine L_iload 1592 5 dL_law_1592 rfl ?_
    refine L_iconst 1594 1 dL_law_1594 (by decide) ?_
    refine L_iadd 1595 dL_law_1595 ?_
    rw [show nI i + 1 = nI (i + 1) from nI_add i 1]
    refine L_sld 1596 dL_law_1596 (by omega) (by omega) ?_
    refine L_callM 1597 [.int (sc.2 (i + 1))] (fun _ => rfl) hE (by rintro r m ⟨x, rfl, _⟩ _; rfl) dL_law_1597 kl_1347 wm_X7_neededLimit (show _ = some 1 from by decide +kernel) ⟨Nat.le_of_ble_eq_true rfl, Nat.le_of_ble_eq_true rfl⟩ ⟨rfl, rfl⟩ rfl ⟨by show _ ≤ 601024; omega, by show _ ≤ 7293034; omega⟩ rfl (Nat.le_of_ble_eq_true rfl) ?_
    rintro _ μ3 ⟨w, rfl, hw3⟩
    obtain ⟨e1, e2, hRel⟩ := hw w μ3 hw3
    refine L_istore 1600 _ dL_law_1600 (by decide) rfl ?_
    refine L_aload_n 1602 4 dL_law_1602 rfl rfl ?_
    refine L_callM 1603 [] (fun _ => rfl) (e_X7_thrown _) (by rintro r m ⟨x, rfl, _⟩ _; rfl) dL_law_1603 kl_1076 wm_X7_thrown (show _ = some 0 from by decide +kernel) ⟨Nat.le_of_ble_eq_true rfl, Nat.le_of_ble_eq_true rfl⟩ ⟨rfl, rfl⟩ rfl ⟨by show _ ≤ 601024; omega, by show _ ≤ 7293034; omega⟩ rfl (Nat.le_of_ble_eq_true rfl) ?_
    rintro _ _ ⟨_, rfl, rfl, rfl⟩
    refine L_iload 1606 1 dL_law_1606 rfl ?_
    refine L_icmp_eq 1608 1613 dL_law_1608 (by decide) (fun _ => ?_) (fun c_0 => absurd (e2) c_0)
    refine L_iload 1613 1 dL_law_1613 rfl ?_
    refine L_if_ne 1615 1630 dL_law_1615 (by decide) (fun c_0 => absurd rfl c_0) (fun _ => ?_)
    refine L_aload_n 1618 5 dL_law_1618 rfl rfl ?_
    refine L_iconst 1619 0 dL_law_1619 (by decide) ?_
    refine L_laload 1620 dL_law_1620 ?_
    refine L_iload 1621 0 dL_law_1621 rfl ?_
    refine L_i2l 1623 dL_law_1623 ?_
    refine L_lcmp 1624 dL_law_1624 (by rw [e1]; exact hv) ?_
    refine L_if_eq 1625 1630 dL_law_1625 (by decide) (fun _ => ?_) (fun c_0 => absurd rfl c_0)
    refine L_goto 1630 1773 dL_law_1630 (by decide) ?_
    refine L_sub [2, 3, 4, 5, 6] _ rfl ?_
    exact hk _ hRel
  · rw [← hμ] at hE
    refine L_istore 1588 _ dL_law_1588 (by decide) rfl ?_
    refine L_aload_n 1590 3 dL_law_1590 rfl rfl ?_
    refine L_aload_n 1591 1 dL_law_1591 rfl rfl ?_
    refine L_iload 1592 5 dL_law_1592 rfl ?_
    refine L_iconst 1594 1 dL_law_1594 (by decide) ?_
    refine L_iadd 1595 dL_law_1595 ?_
    rw [show nI i + 1 = nI (i + 1) from nI_add i 1]
    refine L_sld 1596 dL_law_1596 (by omega) (by omega) ?_
    refine L_callM 1597 [.int (sc.2 (i + 1))] (fun _ => rfl) hE (by rintro r m ⟨x, rfl, _⟩ _; rfl) dL_law_1597 kl_1347 wm_X7_neededLimit (show _ = some 1 from by decide +kernel) ⟨Nat.le_of_ble_eq_true rfl, Nat.le_of_ble_eq_true rfl⟩ ⟨rfl, rfl⟩ rfl ⟨by show _ ≤ 601024; omega, by show _ ≤ 7293034; omega⟩ rfl (Nat.le_of_ble_eq_true rfl) ?_
    rintro _ μ3 ⟨w, rfl, hw3⟩
    obtain ⟨e2, hRel⟩ := hw w μ3 hw3
    refine L_istore 1600 _ dL_law_1600 (by decide) rfl ?_
    refine L_aload_n 1602 4 dL_law_1602 rfl rfl ?_
    refine L_callM 1603 [] (fun _ => rfl) (e_X7_thrown _) (by rintro r m ⟨x, rfl, _⟩ _; rfl) dL_law_1603 kl_1076 wm_X7_thrown (show _ = some 0 from by decide +kernel) ⟨Nat.le_of_ble_eq_true rfl, Nat.le_of_ble_eq_true rfl⟩ ⟨rfl, rfl⟩ rfl ⟨by show _ ≤ 601024; omega, by show _ ≤ 7293034; omega⟩ rfl (Nat.le_of_ble_eq_true rfl) ?_
    rintro _ _ ⟨_, rfl, rfl, rfl⟩
    refine L_iload 1606 1 dL_law_1606 rfl ?_
    refine L_icmp_eq 1608 1613 dL_law_1608 (by decide) (fun _ => ?_) (fun c_0 => absurd (e2) c_0)
    refine L_iload 1613 1 dL_law_1613 rfl ?_
    refine L_if_ne 1615 1630 dL_law_1615 (by decide) (fun _ => ?_) (fun c_0 => absurd c_0 hr0)
    refine L_goto 1630 1773 dL_law_1630 (by decide) ?_
    refine L_sub [2, 3, 4, 5, 6] _ rfl ?_
    exact hk _ hRel
theorem c_law_type {sc : Nat × (Nat → Int32)} {HH : List (Nat × Nat × Nat × Nat)} {nc ns i : Nat} {ω : WDt} (h : REL ω.1 ω.2.1) (hi : i + 6 ≤ sc.1) (hL : sc.1 ≤ 3072) (hc : nc + 1 ≤ 601024) (hs : ns + 6 ≤ 7293034) (hk : ∀ ω2 : WDt, REL ω2.1 ω2.2.1 → XL (.inr sc) mLaw HH (nc + 1) (ns + 6) 1773 [(0, .ref 3), (1, .ref 0), (2, .ref 1), (3, .ref 2), (4, .int (nI i))] [] ω2) : XL (.inr sc) mLaw HH nc ns 1633 [(0, .ref 3), (1, .ref 0), (2, .ref 1), (3, .ref 2), (4, .int (nI i))] [] ω := by
  refine L_aload_n 1633 1 dL_law_1633 rfl rfl ?_
  refine L_aload_n 1634 0 dL_law_1634 rfl rfl ?_
  refine L_iload 1635 4 dL_law_1635 rfl ?_
  refine L_iconst 1637 1 dL_law_1637 (by decide) ?_
  refine L_iadd 1638 dL_law_1638 ?_
  rw [show nI i + 1 = nI (i + 1) from nI_add i 1]
  refine L_sld 1639 dL_law_1639 (by omega) (by omega) ?_
  refine L_aload_n 1640 3 dL_law_1640 rfl rfl ?_
  refine L_callW 1641 [.ref 0, .int (sc.2 (i + 1)), .ref 2] (w_type (sc.2 (i + 1)) ω h) dL_law_1641 kl_978 kl_980 kl_0 kl_979 (by decide) (show _ = some 3 from by decide +kernel) ⟨Nat.le_of_ble_eq_true rfl, Nat.le_of_ble_eq_true rfl⟩ ⟨rfl, rfl⟩ ⟨hc, hs⟩ rfl (Nat.le_of_ble_eq_true rfl) ?_
  rintro r ω2 ⟨hμ, ⟨rfl, v, hv, S, hE, hw⟩ | ⟨hr0, S, hE, hw⟩⟩
  · rw [← hμ] at hE
    refine L_istore 1644 _ dL_law_1644 (by decide) rfl ?_
    refine L_aload_n 1646 3 dL_law_1646 rfl rfl ?_
    refine L_aload_n 1647 1 dL_law_1647 rfl rfl ?_
    refine L_iload 1648 5 dL_law_1648 rfl ?_
    refine L_iconst 1650 1 dL_law_1650 (by decide) ?_
    refine L_iadd 1651 dL_law_1651 ?_
    rw [show nI i + 1 = nI (i + 1) from nI_add i 1]
    refine L_sld 1652 dL_law_1652 (by omega) (by omega) ?_
    refine L_callM 1653 [.int (sc.2 (i + 1))] (fun _ => rfl) hE (by rintro r m ⟨x, rfl, _⟩ _; rfl) dL_law_1653 kl_1351 wm_X7_type (show _ = some 1 from by decide +kernel) ⟨Nat.le_of_ble_eq_true rfl, Nat.le_of_ble_eq_true rfl⟩ ⟨rfl, rfl⟩ rfl ⟨by show _ ≤ 601024; omega, by show _ ≤ 7293034; omega⟩ rfl (Nat.le_of_ble_eq_true rfl) ?_
    rintro _ μ3 ⟨w, rfl, hw3⟩
    obtain ⟨e1, e2, hRel⟩ := hw w μ3 hw3
    refine L_istore 1656 _ dL_law_1656 (by decide) rfl ?_
    refine L_aload_n 1658 4 dL_law_1658 rfl rfl ?_
    refine L_callM 1659 [] (fun _ => rfl) (e_X7_thrown _) (by rintro r m ⟨x, rfl, _⟩ _; rfl) dL_law_1659 kl_1076 wm_X7_thrown (show _ = some 0 from by decide +kernel) ⟨Nat.le_of_ble_eq_true rfl, Nat.le_of_ble_eq_true rfl⟩ ⟨rfl, rfl⟩ rfl ⟨by show _ ≤ 601024; omega, by show _ ≤ 7293034; omega⟩ rfl (Nat.le_of_ble_eq_true rfl) ?_
    rintro _ _ ⟨_, rfl, rfl, rfl⟩
    refine L_iload 1662 1 dL_law_1662 rfl ?_
    refine L_icmp_eq 1664 1669 dL_law_1664 (by decide) (fun _ => ?_) (fun c_0 => absurd (e2) c_0)
    refine L_iload 1669 1 dL_law_1669 rfl ?_
    refine L_if_ne 1671 1686 dL_law_1671 (by decide) (fun c_0 => absurd rfl c_0) (fun _ => ?_)
    refine L_aload_n 1674 5 dL_law_1674 rfl rfl ?_
    refine L_iconst 1675 0 dL_law_1675 (by decide) ?_
    refine L_laload 1676 dL_law_1676 ?_
    refine L_iload 1677 0 dL_law_1677 rfl ?_
    refine L_i2l 1679 dL_law_1679 ?_
    refine L_lcmp 1680 dL_law_1680 (by rw [e1]; exact hv) ?_
    refine L_if_eq 1681 1686 dL_law_1681 (by decide) (fun _ => ?_) (fun c_0 => absurd rfl c_0)
    refine L_goto 1686 1773 dL_law_1686 (by decide) ?_
    refine L_sub [2, 3, 4, 5, 6] _ rfl ?_
    exact hk _ hRel
  · rw [← hμ] at hE
    refine L_istore 1644 _ dL_law_1644 (by decide) rfl ?_
    refine L_aload_n 1646 3 dL_law_1646 rfl rfl ?_
    refine L_aload_n 1647 1 dL_law_1647 rfl rfl ?_
    refine L_iload 1648 5 dL_law_1648 rfl ?_
    refine L_iconst 1650 1 dL_law_1650 (by decide) ?_
    refine L_iadd 1651 dL_law_1651 ?_
    rw [show nI i + 1 = nI (i + 1) from nI_add i 1]
    refine L_sld 1652 dL_law_1652 (by omega) (by omega) ?_
    refine L_callM 1653 [.int (sc.2 (i + 1))] (fun _ => rfl) hE (by rintro r m ⟨x, rfl, _⟩ _; rfl) dL_law_1653 kl_1351 wm_X7_type (show _ = some 1 from by decide +kernel) ⟨Nat.le_of_ble_eq_true rfl, Nat.le_of_ble_eq_true rfl⟩ ⟨rfl, rfl⟩ rfl ⟨by show _ ≤ 601024; omega, by show _ ≤ 7293034; omega⟩ rfl (Nat.le_of_ble_eq_true rfl) ?_
    rintro _ μ3 ⟨w, rfl, hw3⟩
    obtain ⟨e2, hRel⟩ := hw w μ3 hw3
    refine L_istore 1656 _ dL_law_1656 (by decide) rfl ?_
    refine L_aload_n 1658 4 dL_law_1658 rfl rfl ?_
    refine L_callM 1659 [] (fun _ => rfl) (e_X7_thrown _) (by rintro r m ⟨x, rfl, _⟩ _; rfl) dL_law_1659 kl_1076 wm_X7_thrown (show _ = some 0 from by decide +kernel) ⟨Nat.le_of_ble_eq_true rfl, Nat.le_of_ble_eq_true rfl⟩ ⟨rfl, rfl⟩ rfl ⟨by show _ ≤ 601024; omega, by show _ ≤ 7293034; omega⟩ rfl (Nat.le_of_ble_eq_true rfl) ?_
    rintro _ _ ⟨_, rfl, rfl, rfl⟩
    refine L_iload 1662 1 dL_law_1662 rfl ?_
    refine L_icmp_eq 1664 1669 dL_law_1664 (by decide) (fun _ => ?_) (fun c_0 => absurd (e2) c_0)
    refine L_iload 1669 1 dL_law_1669 rfl ?_
    refine L_if_ne 1671 1686 dL_law_1671 (by decide) (fun _ => ?_) (fun c_0 => absurd c_0 hr0)
    refine L_goto 1686 1773 dL_law_1686 (by decide) ?_
    refine L_sub [2, 3, 4, 5, 6] _ rfl ?_
    exact hk _ hRel
theorem c_law_clearCommands {sc : Nat × (Nat → Int32)} {HH : List (Nat × Nat × Nat × Nat)} {nc ns i : Nat} {ω : WDt} (h : REL ω.1 ω.2.1) (hi : i + 6 ≤ sc.1) (hL : sc.1 ≤ 3072) (hc : nc + 1 ≤ 601024) (hs : ns + 6 ≤ 7293034) (hk : ∀ ω2 : WDt, REL ω2.1 ω2.2.1 → XL (.inr sc) mLaw HH (nc + 1) (ns + 6) 1773 [(0, .ref 3), (1, .ref 0), (2, .ref 1), (3, .ref 2), (4, .int (nI i))] [] ω2) : XL (.inr sc) mLaw HH nc ns 1689 [(0, .ref 3), (1, .ref 0), (2, .ref 1), (3, .ref 2), (4, .int (nI i))] [] ω := by
  refine L_aload_n 1689 1 dL_law_1689 rfl rfl ?_
  obtain ⟨S0, hE0, hw0⟩ := s_clearCommands h
  refine L_callC 1690 [] (fun _ => rfl) hE0 (by rintro r m ⟨x, rfl, _⟩ _; rfl) dL_law_1690 kl_333 wm_X6_clearCommands (show _ = some 0 from by decide +kernel) ⟨Nat.le_of_ble_eq_true rfl, Nat.le_of_ble_eq_true rfl⟩ ⟨rfl, rfl⟩ rfl ⟨by show _ ≤ 601024; omega, by show _ ≤ 7293034; omega⟩ rfl (Nat.le_of_ble_eq_true rfl) ?_
  rintro _ V2 ⟨v, rfl, hv0⟩
  obtain ⟨S, hE, hw⟩ := hw0 v V2 hv0
  refine L_aload_n 1693 2 dL_law_1693 rfl rfl ?_
  refine L_callM 1694 [] (fun _ => rfl) hE (by rintro r m ⟨x, rfl, _⟩ _; rfl) dL_law_1694 kl_1355 wm_X7_clearCommands (show _ = some 0 from by decide +kernel) ⟨Nat.le_of_ble_eq_true rfl, Nat.le_of_ble_eq_true rfl⟩ ⟨rfl, rfl⟩ rfl ⟨by show _ ≤ 601024; omega, by show _ ≤ 7293034; omega⟩ rfl (Nat.le_of_ble_eq_true rfl) ?_
  rintro _ μ3 ⟨w, rfl, hw3⟩
  obtain ⟨e1, e2, hRel⟩ := hw w μ3 hw3
  refine L_icmp_eq 1697 1773 dL_law_1697 (by decide) (fun _ => ?_) (fun c_0 => absurd (e1.symm) c_0)
  refine L_wid (Nat.le_succ nc) (Nat.le_add_right ns 6) ?_
  exact hk _ hRel
theorem c_law_runCommands {sc : Nat × (Nat → Int32)} {HH : List (Nat × Nat × Nat × Nat)} {nc ns i : Nat} {ω : WDt} (h : REL ω.1 ω.2.1) (hi : i + 6 ≤ sc.1) (hL : sc.1 ≤ 3072) (hc : nc + 1 ≤ 601024) (hs : ns + 6 ≤ 7293034) (hk : ∀ ω2 : WDt, REL ω2.1 ω2.2.1 → XL (.inr sc) mLaw HH (nc + 1) (ns + 6) 1773 [(0, .ref 3), (1, .ref 0), (2, .ref 1), (3, .ref 2), (4, .int (nI i))] [] ω2) : XL (.inr sc) mLaw HH nc ns 1702 [(0, .ref 3), (1, .ref 0), (2, .ref 1), (3, .ref 2), (4, .int (nI i))] [] ω := by
  refine L_aload_n 1702 1 dL_law_1702 rfl rfl ?_
  obtain ⟨S0, hE0, hw0⟩ := s_runCommands h
  refine L_callC 1703 [] (fun _ => rfl) hE0 (by rintro r m ⟨x, rfl, _⟩ _; rfl) dL_law_1703 kl_345 wm_X6_runCommands (show _ = some 0 from by decide +kernel) ⟨Nat.le_of_ble_eq_true rfl, Nat.le_of_ble_eq_true rfl⟩ ⟨rfl, rfl⟩ rfl ⟨by show _ ≤ 601024; omega, by show _ ≤ 7293034; omega⟩ rfl (Nat.le_of_ble_eq_true rfl) ?_
  rintro _ V2 ⟨v, rfl, hv0⟩
  obtain ⟨S, hE, hw⟩ := hw0 v V2 hv0
  refine L_aload_n 1706 2 dL_law_1706 rfl rfl ?_
  refine L_callM 1707 [] (fun _ => rfl) hE (by rintro r m ⟨x, rfl, _⟩ _; rfl) dL_law_1707 kl_1359 wm_X7_runCommands (show _ = some 0 from by decide +kernel) ⟨Nat.le_of_ble_eq_true rfl, Nat.le_of_ble_eq_true rfl⟩ ⟨rfl, rfl⟩ rfl ⟨by show _ ≤ 601024; omega, by show _ ≤ 7293034; omega⟩ rfl (Nat.le_of_ble_eq_true rfl) ?_
  rintro _ μ3 ⟨w, rfl, hw3⟩
  obtain ⟨e1, e2, hRel⟩ := hw w μ3 hw3
  refine L_icmp_eq 1710 1773 dL_law_1710 (by decide) (fun _ => ?_) (fun c_0 => absurd (e1.symm) c_0)
  refine L_wid (Nat.le_succ nc) (Nat.le_add_right ns 6) ?_
  exact hk _ hRel
theorem c_law_undo {sc : Nat × (Nat → Int32)} {HH : List (Nat × Nat × Nat × Nat)} {nc ns i : Nat} {ω : WDt} (h : REL ω.1 ω.2.1) (hi : i + 6 ≤ sc.1) (hL : sc.1 ≤ 3072) (hc : nc + 1 ≤ 601024) (hs : ns + 6 ≤ 7293034) (hk : ∀ ω2 : WDt, REL ω2.1 ω2.2.1 → XL (.inr sc) mLaw HH (nc + 1) (ns + 6) 1773 [(0, .ref 3), (1, .ref 0), (2, .ref 1), (3, .ref 2), (4, .int (nI i))] [] ω2) : XL (.inr sc) mLaw HH nc ns 1715 [(0, .ref 3), (1, .ref 0), (2, .ref 1), (3, .ref 2), (4, .int (nI i))] [] ω := by
  refine L_aload_n 1715 1 dL_law_1715 rfl rfl ?_
  refine L_aload_n 1716 3 dL_law_1716 rfl rfl ?_
  refine L_callW 1717 [.ref 0, .ref 2] (w_undo ω h) dL_law_1717 kl_989 kl_991 kl_0 kl_990 (by decide) (show _ = some 2 from by decide +kernel) ⟨Nat.le_of_ble_eq_true rfl, Nat.le_of_ble_eq_true rfl⟩ ⟨rfl, rfl⟩ ⟨hc, hs⟩ rfl (Nat.le_of_ble_eq_true rfl) ?_
  rintro r ω2 ⟨hμ, ⟨rfl, v, hv, S, hE, hw⟩ | ⟨hr0, S, hE, hw⟩⟩
  · rw [← hμ] at hE
    refine L_istore 1720 _ dL_law_1720 (by decide) rfl ?_
    refine L_aload_n 1722 3 dL_law_1722 rfl rfl ?_
    refine L_callM 1723 [] (fun _ => rfl) hE (by rintro r m ⟨x, rfl, _⟩ _; rfl) dL_law_1723 kl_1080 wm_X7_undo (show _ = some 0 from by decide +kernel) ⟨Nat.le_of_ble_eq_true rfl, Nat.le_of_ble_eq_true rfl⟩ ⟨rfl, rfl⟩ rfl ⟨by show _ ≤ 601024; omega, by show _ ≤ 7293034; omega⟩ rfl (Nat.le_of_ble_eq_true rfl) ?_
    rintro _ μ3 ⟨w, rfl, hw3⟩
    obtain ⟨e1, e2, hRel⟩ := hw w μ3 hw3
    refine L_istore 1726 _ dL_law_1726 (by decide) rfl ?_
    refine L_aload_n 1728 4 dL_law_1728 rfl rfl ?_
    refine L_callM 1729 [] (fun _ => rfl) (e_X7_thrown _) (by rintro r m ⟨x, rfl, _⟩ _; rfl) dL_law_1729 kl_1076 wm_X7_thrown (show _ = some 0 from by decide +kernel) ⟨Nat.le_of_ble_eq_true rfl, Nat.le_of_ble_eq_true rfl⟩ ⟨rfl, rfl⟩ rfl ⟨by show _ ≤ 601024; omega, by show _ ≤ 7293034; omega⟩ rfl (Nat.le_of_ble_eq_true rfl) ?_
    rintro _ _ ⟨_, rfl, rfl, rfl⟩
    refine L_iload 1732 1 dL_law_1732 rfl ?_
    refine L_icmp_eq 1734 1739 dL_law_1734 (by decide) (fun _ => ?_) (fun c_0 => absurd (e2) c_0)
    refine L_iload 1739 1 dL_law_1739 rfl ?_
    refine L_if_ne 1741 1756 dL_law_1741 (by decide) (fun c_0 => absurd rfl c_0) (fun _ => ?_)
    refine L_aload_n 1744 5 dL_law_1744 rfl rfl ?_
    refine L_iconst 1745 0 dL_law_1745 (by decide) ?_
    refine L_laload 1746 dL_law_1746 ?_
    refine L_iload 1747 0 dL_law_1747 rfl ?_
    refine L_i2l 1749 dL_law_1749 ?_
    refine L_lcmp 1750 dL_law_1750 (by rw [e1]; exact hv) ?_
    refine L_if_eq 1751 1756 dL_law_1751 (by decide) (fun _ => ?_) (fun c_0 => absurd rfl c_0)
    refine L_goto 1756 1773 dL_law_1756 (by decide) ?_
    refine L_sub [2, 3, 4, 5, 6] _ rfl ?_
    exact hk _ hRel
  · rw [← hμ] at hE
    refine L_istore 1720 _ dL_law_1720 (by decide) rfl ?_
    refine L_aload_n 1722 3 dL_law_1722 rfl rfl ?_
    refine L_callM 1723 [] (fun _ => rfl) hE (by rintro r m ⟨x, rfl, _⟩ _; rfl) dL_law_1723 kl_1080 wm_X7_undo (show _ = some 0 from by decide +kernel) ⟨Nat.le_of_ble_eq_true rfl, Nat.le_of_ble_eq_true rfl⟩ ⟨rfl, rfl⟩ rfl ⟨by show _ ≤ 601024; omega, by show _ ≤ 7293034; omega⟩ rfl (Nat.le_of_ble_eq_true rfl) ?_
    rintro _ μ3 ⟨w, rfl, hw3⟩
    obtain ⟨e2, hRel⟩ := hw w μ3 hw3
    refine L_istore 1726 _ dL_law_1726 (by decide) rfl ?_
    refine L_aload_n 1728 4 dL_law_1728 rfl rfl ?_
    refine L_callM 1729 [] (fun _ => rfl) (e_X7_thrown _) (by rintro r m ⟨x, rfl, _⟩ _; rfl) dL_law_1729 kl_1076 wm_X7_thrown (show _ = some 0 from by decide +kernel) ⟨Nat.le_of_ble_eq_true rfl, Nat.le_of_ble_eq_true rfl⟩ ⟨rfl, rfl⟩ rfl ⟨by show _ ≤ 601024; omega, by show _ ≤ 7293034; omega⟩ rfl (Nat.le_of_ble_eq_true rfl) ?_
    rintro _ _ ⟨_, rfl, rfl, rfl⟩
    refine L_iload 1732 1 dL_law_1732 rfl ?_
    refine L_icmp_eq 1734 1739 dL_law_1734 (by decide) (fun _ => ?_) (fun c_0 => absurd (e2) c_0)
    refine L_iload 1739 1 dL_law_1739 rfl ?_
    refine L_if_ne 1741 1756 dL_law_1741 (by decide) (fun _ => ?_) (fun c_0 => absurd c_0 hr0)
    refine L_goto 1756 1773 dL_law_1756 (by decide) ?_
    refine L_sub [2, 3, 4, 5, 6] _ rfl ?_
    exact hk _ hRel
theorem c_law_digest {sc : Nat × (Nat → Int32)} {HH : List (Nat × Nat × Nat × Nat)} {nc ns i : Nat} {ω : WDt} (h : REL ω.1 ω.2.1) (hi : i + 6 ≤ sc.1) (hL : sc.1 ≤ 3072) (hc : nc + 1 ≤ 601024) (hs : ns + 6 ≤ 7293034) (hk : ∀ ω2 : WDt, REL ω2.1 ω2.2.1 → XL (.inr sc) mLaw HH (nc + 1) (ns + 6) 1773 [(0, .ref 3), (1, .ref 0), (2, .ref 1), (3, .ref 2), (4, .int (nI i))] [] ω2) : XL (.inr sc) mLaw HH nc ns 1759 [(0, .ref 3), (1, .ref 0), (2, .ref 1), (3, .ref 2), (4, .int (nI i))] [] ω := by
  refine L_aload_n 1759 1 dL_law_1759 rfl rfl ?_
  obtain ⟨S0, hE0, hw0⟩ := s_digest h
  refine L_callC 1760 [] (fun _ => rfl) hE0 (by rintro r m ⟨x, rfl, _⟩ _; rfl) dL_law_1760 kl_595 wm_X6_digest (show _ = some 0 from by decide +kernel) ⟨Nat.le_of_ble_eq_true rfl, Nat.le_of_ble_eq_true rfl⟩ ⟨rfl, rfl⟩ rfl ⟨by show _ ≤ 601024; omega, by show _ ≤ 7293034; omega⟩ rfl (Nat.le_of_ble_eq_true rfl) ?_
  rintro _ V2 ⟨v, rfl, hv0⟩
  obtain ⟨S, hE, hw⟩ := hw0 v V2 hv0
  refine L_aload_n 1763 2 dL_law_1763 rfl rfl ?_
  refine L_callM 1764 [] (fun _ => rfl) hE (by rintro r m ⟨x, rfl, _⟩ _; rfl) dL_law_1764 kl_1398 wm_X7_digest (show _ = some 0 from by decide +kernel) ⟨Nat.le_of_ble_eq_true rfl, Nat.le_of_ble_eq_true rfl⟩ ⟨rfl, rfl⟩ rfl ⟨by show _ ≤ 601024; omega, by show _ ≤ 7293034; omega⟩ rfl (Nat.le_of_ble_eq_true rfl) ?_
  rintro _ μ3 ⟨w, rfl, hw3⟩
  obtain ⟨e1, e2, hRel⟩ := hw w μ3 hw3
  refine L_lcmp 1767 dL_law_1767 (by exact e1.symm) ?_
  refine L_if_eq 1768 1773 dL_law_1768 (by decide) (fun _ => ?_) (fun c_0 => absurd rfl c_0)
  refine L_wid (Nat.le_succ nc) (Nat.le_add_right ns 6) ?_
  exact hk _ hRel
