theorem hist_up {a u : Nat → Nat} : (va_up (va_up (va_up (va_up (fun _ => none) 0 (some (a 45))) 1 (some (a 60))) 2 (some (a 75))) 3 (some (a 90)) : Nat → Option Nat) = fun j => (([15, 30, 45, 60] : List Nat)[j]?).map (adC a u) := by
  funext j
  rcases j with _ | _ | _ | _ | j
  · rfl
  · rfl
  · rfl
  · rfl
  · simp [va_up]
section W0
variable {G : G3} {a u : Nat → Nat}
abbrev ggC (G : G3) (a u : Nat → Nat) : GG := (adC a u, G.1, G.2.1, G.2.2, fun _ => 0)

theorem pw_0 : (wO (ggC G a u) ΛC V0)[0]? = (WX6 G a)[πl.getD 0 0]? := (wO_at (k := 0) rfl V0).trans rfl
theorem pw_1 : (wO (ggC G a u) ΛC V0)[1]? = (WX6 G a)[πl.getD 1 0]? := (wO_at (k := 1) rfl V0).trans rfl
theorem pw_2 : (wO (ggC G a u) ΛC V0)[2]? = (WX6 G a)[πl.getD 2 0]? := (wO_at (k := 2) rfl V0).trans rfl
theorem pw_3 : (wO (ggC G a u) ΛC V0)[3]? = (WX6 G a)[πl.getD 3 0]? := (wO_at (k := 3) rfl V0).trans rfl
theorem pw_4 : (wO (ggC G a u) ΛC V0)[4]? = (WX6 G a)[πl.getD 4 0]? := (wO_at (k := 4) rfl V0).trans rfl
theorem pw_5 : (wO (ggC G a u) ΛC V0)[5]? = (WX6 G a)[πl.getD 5 0]? := (wO_at (k := 5) rfl V0).trans rfl
theorem pw_6 : (wO (ggC G a u) ΛC V0)[6]? = (WX6 G a)[πl.getD 6 0]? := (wO_at (k := 6) rfl V0).trans rfl
theorem pw_7 : (wO (ggC G a u) ΛC V0)[7]? = (WX6 G a)[πl.getD 7 0]? := (wO_at (k := 7) rfl V0).trans rfl
theorem pw_8 : (wO (ggC G a u) ΛC V0)[8]? = (WX6 G a)[πl.getD 8 0]? := (wO_at (k := 8) rfl V0).trans rfl
theorem pw_9 : (wO (ggC G a u) ΛC V0)[9]? = (WX6 G a)[πl.getD 9 0]? := (wO_at (k := 9) rfl V0).trans rfl
theorem pw_10 : (wO (ggC G a u) ΛC V0)[10]? = (WX6 G a)[πl.getD 10 0]? := (wO_at (k := 10) rfl V0).trans rfl
theorem pw_11 : (wO (ggC G a u) ΛC V0)[11]? = (WX6 G a)[πl.getD 11 0]? := (wO_at (k := 11) rfl V0).trans rfl
theorem pw_12 : (wO (ggC G a u) ΛC V0)[12]? = (WX6 G a)[πl.getD 12 0]? := (wO_at (k := 12) rfl V0).trans rfl
theorem pw_13 : (wO (ggC G a u) ΛC V0)[13]? = (WX6 G a)[πl.getD 13 0]? := (wO_at (k := 13) rfl V0).trans rfl
theorem pw_14 : (wO (ggC G a u) ΛC V0)[14]? = (WX6 G a)[πl.getD 14 0]? := (wO_at (k := 14) rfl V0).trans rfl
theorem pw_15 : (wO (ggC G a u) ΛC V0)[15]? = (WX6 G a)[πl.getD 15 0]? := (wO_at (k := 15) rfl V0).trans rfl
theorem pw_16 : (wO (ggC G a u) ΛC V0)[16]? = (WX6 G a)[πl.getD 16 0]? := (wO_at (k := 16) rfl V0).trans rfl
theorem pw_17 : (wO (ggC G a u) ΛC V0)[17]? = (WX6 G a)[πl.getD 17 0]? := (wO_at (k := 17) rfl V0).trans rfl
theorem pw_18 : (wO (ggC G a u) ΛC V0)[18]? = (WX6 G a)[πl.getD 18 0]? := (wO_at (k := 18) rfl V0).trans rfl
theorem pw_19 : (wO (ggC G a u) ΛC V0)[19]? = (WX6 G a)[πl.getD 19 0]? := (wO_at (k := 19) rfl V0).trans rfl
theorem pw_20 : (wO (ggC G a u) ΛC V0)[20]? = (WX6 G a)[πl.getD 20 0]? := (wO_at (k := 20) rfl V0).trans rfl
theorem pw_21 : (wO (ggC G a u) ΛC V0)[21]? = (WX6 G a)[πl.getD 21 0]? := (wO_at (k := 21) rfl V0).trans rfl
theorem pw_22 : (wO (ggC G a u) ΛC V0)[22]? = (WX6 G a)[πl.getD 22 0]? := (wO_at (k := 22) rfl V0).trans rfl
theorem pw_23 : (wO (ggC G a u) ΛC V0)[23]? = (WX6 G a)[πl.getD 23 0]? := (wO_at (k := 23) rfl V0).trans rfl
theorem pw_24 : (wO (ggC G a u) ΛC V0)[24]? = (WX6 G a)[πl.getD 24 0]? := (wO_at (k := 24) rfl V0).trans rfl
theorem pw_25 : (wO (ggC G a u) ΛC V0)[25]? = (WX6 G a)[πl.getD 25 0]? := (wO_at (k := 25) rfl V0).trans rfl
theorem pw_26 : (wO (ggC G a u) ΛC V0)[26]? = (WX6 G a)[πl.getD 26 0]? := (wO_at (k := 26) rfl V0).trans rfl
theorem pw_27 : (wO (ggC G a u) ΛC V0)[27]? = (WX6 G a)[πl.getD 27 0]? := (wO_at (k := 27) rfl V0).trans rfl
theorem pw_28 : (wO (ggC G a u) ΛC V0)[28]? = (WX6 G a)[πl.getD 28 0]? := (wO_at (k := 28) rfl V0).trans rfl
theorem pw_29 : (wO (ggC G a u) ΛC V0)[29]? = (WX6 G a)[πl.getD 29 0]? := (wO_at (k := 29) rfl V0).trans rfl
theorem pw_30 : (wO (ggC G a u) ΛC V0)[30]? = (WX6 G a)[πl.getD 30 0]? := (wO_at (k := 30) rfl V0).trans rfl
theorem pw_31 : (wO (ggC G a u) ΛC V0)[31]? = (WX6 G a)[πl.getD 31 0]? := (wO_at (k := 31) rfl V0).trans rfl
theorem pw_32 : (wO (ggC G a u) ΛC V0)[32]? = (WX6 G a)[πl.getD 32 0]? := (wO_at (k := 32) rfl V0).trans rfl
theorem pw_33 : (wO (ggC G a u) ΛC V0)[33]? = (WX6 G a)[πl.getD 33 0]? := (wO_at (k := 33) rfl V0).trans rfl
theorem pw_34 : (wO (ggC G a u) ΛC V0)[34]? = (WX6 G a)[πl.getD 34 0]? := (wO_at (k := 34) rfl V0).trans rfl
theorem pw_35 : (wO (ggC G a u) ΛC V0)[35]? = (WX6 G a)[πl.getD 35 0]? := (wO_at (k := 35) rfl V0).trans rfl
theorem pw_36 : (wO (ggC G a u) ΛC V0)[36]? = (WX6 G a)[πl.getD 36 0]? := (wO_at (k := 36) rfl V0).trans rfl
theorem pw_37 : (wO (ggC G a u) ΛC V0)[37]? = (WX6 G a)[πl.getD 37 0]? := (wO_at (k := 37) rfl V0).trans rfl
theorem pw_38 : (wO (ggC G a u) ΛC V0)[38]? = (WX6 G a)[πl.getD 38 0]? := (wO_at (k := 38) rfl V0).trans rfl
theorem pw_39 : (wO (ggC G a u) ΛC V0)[39]? = (WX6 G a)[πl.getD 39 0]? := (wO_at (k := 39) rfl V0).trans rfl
theorem pw_40 : (wO (ggC G a u) ΛC V0)[40]? = (WX6 G a)[πl.getD 40 0]? := (wO_at (k := 40) rfl V0).trans rfl
theorem pw_41 : (wO (ggC G a u) ΛC V0)[41]? = (WX6 G a)[πl.getD 41 0]? := (wO_at (k := 41) rfl V0).trans rfl
theorem pw_42 : (wO (ggC G a u) ΛC V0)[42]? = (WX6 G a)[πl.getD 42 0]? := (wO_at (k := 42) rfl V0).trans rfl
theorem pw_43 : (wO (ggC G a u) ΛC V0)[43]? = (WX6 G a)[πl.getD 43 0]? := (wO_at (k := 43) rfl V0).trans rfl
theorem pw_44 : (wO (ggC G a u) ΛC V0)[44]? = (WX6 G a)[πl.getD 44 0]? := (wO_at (k := 44) rfl V0).trans rfl
theorem pw_45 : (wO (ggC G a u) ΛC V0)[45]? = (WX6 G a)[πl.getD 45 0]? := (wO_at (k := 45) rfl V0).trans rfl
theorem pw_46 : (wO (ggC G a u) ΛC V0)[46]? = (WX6 G a)[πl.getD 46 0]? := (wO_at (k := 46) rfl V0).trans rfl
theorem pw_47 : (wO (ggC G a u) ΛC V0)[47]? = (WX6 G a)[πl.getD 47 0]? := (wO_at (k := 47) rfl V0).trans rfl
theorem pw_48 : (wO (ggC G a u) ΛC V0)[48]? = (WX6 G a)[πl.getD 48 0]? := (wO_at (k := 48) rfl V0).trans rfl
theorem pw_49 : (wO (ggC G a u) ΛC V0)[49]? = (WX6 G a)[πl.getD 49 0]? := (wO_at (k := 49) rfl V0).trans rfl
theorem pw_50 : (wO (ggC G a u) ΛC V0)[50]? = (WX6 G a)[πl.getD 50 0]? := (wO_at (k := 50) rfl V0).trans rfl
theorem pw_51 : (wO (ggC G a u) ΛC V0)[51]? = (WX6 G a)[πl.getD 51 0]? := (wO_at (k := 51) rfl V0).trans rfl
theorem pw_52 : (wO (ggC G a u) ΛC V0)[52]? = (WX6 G a)[πl.getD 52 0]? := (wO_at (k := 52) rfl V0).trans rfl
theorem pw_53 : (wO (ggC G a u) ΛC V0)[53]? = (WX6 G a)[πl.getD 53 0]? := (wO_at (k := 53) rfl V0).trans rfl
theorem pw_54 : (wO (ggC G a u) ΛC V0)[54]? = (WX6 G a)[πl.getD 54 0]? := (wO_at (k := 54) rfl V0).trans rfl
theorem pw_55 : (wO (ggC G a u) ΛC V0)[55]? = (WX6 G a)[πl.getD 55 0]? := (wO_at (k := 55) rfl V0).trans rfl
theorem pw_56 : (wO (ggC G a u) ΛC V0)[56]? = (WX6 G a)[πl.getD 56 0]? := (wO_at (k := 56) rfl V0).trans rfl
theorem pw_57 : (wO (ggC G a u) ΛC V0)[57]? = (WX6 G a)[πl.getD 57 0]? := (wO_at (k := 57) rfl V0).trans rfl
theorem pw_58 : (wO (ggC G a u) ΛC V0)[58]? = (WX6 G a)[πl.getD 58 0]? := (wO_at (k := 58) rfl V0).trans rfl
theorem pw_59 : (wO (ggC G a u) ΛC V0)[59]? = (WX6 G a)[πl.getD 59 0]? := (wO_at (k := 59) rfl V0).trans rfl
theorem pw_60 : (wO (ggC G a u) ΛC V0)[60]? = (WX6 G a)[πl.getD 60 0]? := (wO_at (k := 60) rfl V0).trans rfl
theorem pw_61 : (wO (ggC G a u) ΛC V0)[61]? = (WX6 G a)[πl.getD 61 0]? := (wO_at (k := 61) rfl V0).trans rfl
theorem pw_62 : (wO (ggC G a u) ΛC V0)[62]? = (WX6 G a)[πl.getD 62 0]? := (wO_at (k := 62) rfl V0).trans rfl
theorem pw_63 : (wO (ggC G a u) ΛC V0)[63]? = (WX6 G a)[πl.getD 63 0]? := (wO_at (k := 63) rfl V0).trans rfl
theorem pw_64 : (wO (ggC G a u) ΛC V0)[64]? = (WX6 G a)[πl.getD 64 0]? := (wO_at (k := 64) rfl V0).trans rfl
theorem pw_65 : (wO (ggC G a u) ΛC V0)[65]? = (WX6 G a)[πl.getD 65 0]? := (wO_at (k := 65) rfl V0).trans rfl
theorem pw_66 : (wO (ggC G a u) ΛC V0)[66]? = (WX6 G a)[πl.getD 66 0]? := (wO_at (k := 66) rfl V0).trans rfl
theorem pw_67 : (wO (ggC G a u) ΛC V0)[67]? = (WX6 G a)[πl.getD 67 0]? := (wO_at (k := 67) rfl V0).trans rfl
theorem pw_68 : (wO (ggC G a u) ΛC V0)[68]? = (WX6 G a)[πl.getD 68 0]? := (wO_at (k := 68) rfl V0).trans rfl
theorem pw_69 : (wO (ggC G a u) ΛC V0)[69]? = (WX6 G a)[πl.getD 69 0]? := (wO_at (k := 69) rfl V0).trans rfl
theorem pw_70 : (wO (ggC G a u) ΛC V0)[70]? = (WX6 G a)[πl.getD 70 0]? := (wO_at (k := 70) rfl V0).trans rfl
theorem pw_71 : (wO (ggC G a u) ΛC V0)[71]? = (WX6 G a)[πl.getD 71 0]? := (wO_at (k := 71) rfl V0).trans rfl
theorem pw_72 : (wO (ggC G a u) ΛC V0)[72]? = (WX6 G a)[πl.getD 72 0]? := (wO_at (k := 72) rfl V0).trans rfl
theorem pw_73 : (wO (ggC G a u) ΛC V0)[73]? = (WX6 G a)[πl.getD 73 0]? := (wO_at (k := 73) rfl V0).trans rfl
theorem pw_74 : (wO (ggC G a u) ΛC V0)[74]? = (WX6 G a)[πl.getD 74 0]? := (wO_at (k := 74) rfl V0).trans rfl
theorem pw_75 : (wO (ggC G a u) ΛC V0)[75]? = (WX6 G a)[πl.getD 75 0]? := (wO_at (k := 75) rfl V0).trans rfl
theorem pw_76 : (wO (ggC G a u) ΛC V0)[76]? = (WX6 G a)[πl.getD 76 0]? := (wO_at (k := 76) rfl V0).trans rfl
theorem pw_77 : (wO (ggC G a u) ΛC V0)[77]? = (WX6 G a)[πl.getD 77 0]? := (wO_at (k := 77) rfl V0).trans rfl
theorem pw_78 : (wO (ggC G a u) ΛC V0)[78]? = (WX6 G a)[πl.getD 78 0]? := (wO_at (k := 78) rfl V0).trans rfl
theorem pw_79 : (wO (ggC G a u) ΛC V0)[79]? = (WX6 G a)[πl.getD 79 0]? := (wO_at (k := 79) rfl V0).trans rfl
theorem pw_80 : (wO (ggC G a u) ΛC V0)[80]? = (WX6 G a)[πl.getD 80 0]? := (wO_at (k := 80) rfl V0).trans rfl
theorem pw_81 : (wO (ggC G a u) ΛC V0)[81]? = (WX6 G a)[πl.getD 81 0]? := (wO_at (k := 81) rfl V0).trans rfl
theorem pw_82 : (wO (ggC G a u) ΛC V0)[82]? = (WX6 G a)[πl.getD 82 0]? := (wO_at (k := 82) rfl V0).trans rfl
theorem pw_83 : (wO (ggC G a u) ΛC V0)[83]? = (WX6 G a)[πl.getD 83 0]? := (wO_at (k := 83) rfl V0).trans rfl
theorem pw_84 : (wO (ggC G a u) ΛC V0)[84]? = (WX6 G a)[πl.getD 84 0]? := (wO_at (k := 84) rfl V0).trans rfl
theorem pw_85 : (wO (ggC G a u) ΛC V0)[85]? = (WX6 G a)[πl.getD 85 0]? := (wO_at (k := 85) rfl V0).trans rfl
theorem pw_86 : (wO (ggC G a u) ΛC V0)[86]? = (WX6 G a)[πl.getD 86 0]? := (wO_at (k := 86) rfl V0).trans rfl
theorem pw_87 : (wO (ggC G a u) ΛC V0)[87]? = (WX6 G a)[πl.getD 87 0]? := (wO_at (k := 87) rfl V0).trans rfl
theorem pw_88 : (wO (ggC G a u) ΛC V0)[88]? = (WX6 G a)[πl.getD 88 0]? := (wO_at (k := 88) rfl V0).trans rfl
theorem pw_89 : (wO (ggC G a u) ΛC V0)[89]? = (WX6 G a)[πl.getD 89 0]? := (wO_at (k := 89) rfl V0).trans rfl
theorem pw_90 : (wO (ggC G a u) ΛC V0)[90]? = (WX6 G a)[πl.getD 90 0]? := (wO_at (k := 90) rfl V0).trans rfl
theorem pw_91 : (wO (ggC G a u) ΛC V0)[91]? = (WX6 G a)[πl.getD 91 0]? := (wO_at (k := 91) rfl V0).trans rfl
theorem pw_92 : (wO (ggC G a u) ΛC V0)[92]? = (WX6 G a)[πl.getD 92 0]? := (wO_at (k := 92) rfl V0).trans rfl
theorem pw_93 : (wO (ggC G a u) ΛC V0)[93]? = (WX6 G a)[πl.getD 93 0]? := (wO_at (k := 93) rfl V0).trans rfl
theorem pw_94 : (wO (ggC G a u) ΛC V0)[94]? = (WX6 G a)[πl.getD 94 0]? := (wO_at (k := 94) rfl V0).trans rfl
theorem pw_95 : (wO (ggC G a u) ΛC V0)[95]? = (WX6 G a)[πl.getD 95 0]? := (wO_at (k := 95) rfl V0).trans rfl
theorem pw_96 : (wO (ggC G a u) ΛC V0)[96]? = (WX6 G a)[πl.getD 96 0]? := (wO_at (k := 96) rfl V0).trans rfl
theorem pw_97 : (wO (ggC G a u) ΛC V0)[97]? = (WX6 G a)[πl.getD 97 0]? := (wO_at (k := 97) rfl V0).trans rfl
theorem pw_98 : (wO (ggC G a u) ΛC V0)[98]? = (WX6 G a)[πl.getD 98 0]? := (wO_at (k := 98) rfl V0).trans rfl
theorem pw_99 : (wO (ggC G a u) ΛC V0)[99]? = (WX6 G a)[πl.getD 99 0]? := (wO_at (k := 99) rfl V0).trans rfl
theorem pw_100 : (wO (ggC G a u) ΛC V0)[100]? = (WX6 G a)[πl.getD 100 0]? := (wO_at (k := 100) rfl V0).trans rfl
theorem pw_101 : (wO (ggC G a u) ΛC V0)[101]? = (WX6 G a)[πl.getD 101 0]? := (wO_at (k := 101) rfl V0).trans rfl
theorem pw_102 : (wO (ggC G a u) ΛC V0)[102]? = (WX6 G a)[πl.getD 102 0]? := (wO_at (k := 102) rfl V0).trans rfl
theorem pw_103 : (wO (ggC G a u) ΛC V0)[103]? = (WX6 G a)[πl.getD 103 0]? := (wO_at (k := 103) rfl V0).trans rfl
theorem pw_104 : (wO (ggC G a u) ΛC V0)[104]? = (WX6 G a)[πl.getD 104 0]? := (wO_at (k := 104) rfl V0).trans rfl
theorem pw_105 : (wO (ggC G a u) ΛC V0)[105]? = (WX6 G a)[πl.getD 105 0]? := (wO_at (k := 105) rfl V0).trans rfl
theorem pw_106 : (wO (ggC G a u) ΛC V0)[106]? = (WX6 G a)[πl.getD 106 0]? := (wO_at (k := 106) rfl V0).trans rfl
theorem pw_107 : (wO (ggC G a u) ΛC V0)[107]? = (WX6 G a)[πl.getD 107 0]? := (wO_at (k := 107) rfl V0).trans rfl
theorem pw_108 : (wO (ggC G a u) ΛC V0)[108]? = (WX6 G a)[πl.getD 108 0]? := by
  rw [wO_at (k := 108) (e := .inr (.inr [15, 30, 45, 60])) rfl V0]
  show some (_, Sum.inl (_, 4, Sum.inr (Sum.inr (Sum.inr (Sum.inr (fun j => (([15, 30, 45, 60] : List Nat)[j]?).map (adC a u))))))) = _
  rw [← hist_up]
  rfl
theorem pw_109 : (wO (ggC G a u) ΛC V0)[109]? = (WX6 G a)[πl.getD 109 0]? := (wO_at (k := 109) rfl V0).trans rfl
theorem pw_all : ∀ k, k < 110 → (wO (ggC G a u) ΛC V0)[k]? = (WX6 G a)[πl.getD k 0]? := fun k h => match k, h with
  | 0, _ => pw_0
  | 1, _ => pw_1
  | 2, _ => pw_2
  | 3, _ => pw_3
  | 4, _ => pw_4
  | 5, _ => pw_5
  | 6, _ => pw_6
  | 7, _ => pw_7
  | 8, _ => pw_8
  | 9, _ => pw_9
  | 10, _ => pw_10
  | 11, _ => pw_11
  | 12, _ => pw_12
  | 13, _ => pw_13
  | 14, _ => pw_14
  | 15, _ => pw_15
  | 16, _ => pw_16
  | 17, _ => pw_17
  | 18, _ => pw_18
  | 19, _ => pw_19
  | 20, _ => pw_20
  | 21, _ => pw_21
  | 22, _ => pw_22
  | 23, _ => pw_23
  | 24, _ => pw_24
  | 25, _ => pw_25
  | 26, _ => pw_26
  | 27, _ => pw_27
  | 28, _ => pw_28
  | 29, _ => pw_29
  | 30, _ => pw_30
  | 31, _ => pw_31
  | 32, _ => pw_32
  | 33, _ => pw_33
  | 34, _ => pw_34
  | 35, _ => pw_35
  | 36, _ => pw_36
  | 37, _ => pw_37
  | 38, _ => pw_38
  | 39, _ => pw_39
  | 40, _ => pw_40
  | 41, _ => pw_41
  | 42, _ => pw_42
  | 43, _ => pw_43
  | 44, _ => pw_44
  | 45, _ => pw_45
  | 46, _ => pw_46
  | 47, _ => pw_47
  | 48, _ => pw_48
  | 49, _ => pw_49
  | 50, _ => pw_50
  | 51, _ => pw_51
  | 52, _ => pw_52
  | 53, _ => pw_53
  | 54, _ => pw_54
  | 55, _ => pw_55
  | 56, _ => pw_56
  | 57, _ => pw_57
  | 58, _ => pw_58
  | 59, _ => pw_59
  | 60, _ => pw_60
  | 61, _ => pw_61
  | 62, _ => pw_62
  | 63, _ => pw_63
  | 64, _ => pw_64
  | 65, _ => pw_65
  | 66, _ => pw_66
  | 67, _ => pw_67
  | 68, _ => pw_68
  | 69, _ => pw_69
  | 70, _ => pw_70
  | 71, _ => pw_71
  | 72, _ => pw_72
  | 73, _ => pw_73
  | 74, _ => pw_74
  | 75, _ => pw_75
  | 76, _ => pw_76
  | 77, _ => pw_77
  | 78, _ => pw_78
  | 79, _ => pw_79
  | 80, _ => pw_80
  | 81, _ => pw_81
  | 82, _ => pw_82
  | 83, _ => pw_83
  | 84, _ => pw_84
  | 85, _ => pw_85
  | 86, _ => pw_86
  | 87, _ => pw_87
  | 88, _ => pw_88
  | 89, _ => pw_89
  | 90, _ => pw_90
  | 91, _ => pw_91
  | 92, _ => pw_92
  | 93, _ => pw_93
  | 94, _ => pw_94
  | 95, _ => pw_95
  | 96, _ => pw_96
  | 97, _ => pw_97
  | 98, _ => pw_98
  | 99, _ => pw_99
  | 100, _ => pw_100
  | 101, _ => pw_101
  | 102, _ => pw_102
  | 103, _ => pw_103
  | 104, _ => pw_104
  | 105, _ => pw_105
  | 106, _ => pw_106
  | 107, _ => pw_107
  | 108, _ => pw_108
  | 109, _ => pw_109
  | _ + 110, h => absurd h (by omega)
end W0
