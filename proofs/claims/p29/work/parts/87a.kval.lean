/-! known: two lamps, reckoned -/
def mkS (f tg gr le we wk cx cy : List Int32) : Mm := fun p => bif Nat.beq p 0 then fun q => f.getD q 0 else bif Nat.beq p 8 then fun q => tg.getD q 0 else bif Nat.beq p 9 then fun q => gr.getD q 0 else bif Nat.beq p 10 then fun q => le.getD q 0 else bif Nat.beq p 11 then fun q => we.getD q 0 else bif Nat.beq p 12 then fun q => wk.getD q 0 else bif Nat.beq p 13 then fun q => cx.getD q 0 else bif Nat.beq p 14 then fun q => cy.getD q 0 else fun _ => 0
def KS0 : Mm := mkS [12, 8, 0, 0, 0, 0] [] [] [] [] [] [] []
theorem kq_1 : (dlN KS0 0 12 8 0).2 = (-1000) := by decide +kernel
theorem kq_2 : whV KS0 0 12 8 (nI 0) 6 = 96 := by decide +kernel
theorem kq_3 : maxN 0 (burnM KS0 (ldJ KS0 0 12 8) 3 0 11) = 0 := by decide +kernel
def KS1 : Mm := mkS [12, 8, 0, 0, 3, 0] [] [] [] [] [] [] []
theorem ls_1 : RS 0 0 (burnM KS0 (ldJ KS0 0 12 8) 3 0) KS1 := RS_dec ⟨by decide +kernel, by decide +kernel⟩
theorem kq_4 : whV KS1 0 12 8 (nI 0) 12 = 3 := by decide +kernel
theorem kq_5 : (pnt KS1 12 0 0 1 0 100).1 = 2 := by decide +kernel
def KS2 : Mm := mkS [12, 8, 0, 0, 3, 0] [100, 100] [] [] [] [] [] []
theorem ls_2 : RS 0 0 ((pnt KS1 12 0 0 1 0 100).2) KS2 := RS_dec ⟨by decide +kernel, by decide +kernel⟩
theorem kq_6 : (pnt KS2 12 0 0 1 0 100).1 = 0 := by decide +kernel
def KS3 : Mm := mkS [12, 8, 0, 0, 3, 0] [100, 100] [] [] [] [] [] []
theorem ls_3 : RS 0 0 ((pnt KS2 12 0 0 1 0 100).2) KS3 := RS_dec ⟨by decide +kernel, by decide +kernel⟩
theorem kq_7 : whV KS3 0 12 8 (nI 0) 7 = 2 := by decide +kernel
theorem kq_8 : whV KS3 0 12 8 (nI 0) 10 = 200 := by decide +kernel
theorem kq_9 : wrV KS3 0 12 8 0 = 0 := by decide +kernel
theorem kq_10 : wrV KS3 0 12 8 1 = 1 := by decide +kernel
theorem kq_11 : wrV KS3 0 12 8 2 = (-1000) := by decide +kernel
theorem kq_12 : nI 0 = 0 := by decide +kernel
def KS4 : Mm := mkS [12, 8, 0, 0, 3, 1] [100, 100] [200] [] [] [1] [] []
theorem ls_4 : RS 0 0 (hang KS3 0 0 200 0) KS4 := RS_dec ⟨by decide +kernel, by decide +kernel⟩
theorem kq_13 : lvV KS4 1 12 8 0 6 = 0 := by decide +kernel
theorem kq_14 : lvV KS4 1 12 8 0 9 = 0 := by decide +kernel
theorem kq_15 : plcJ (rectM KS4 0 0 0 2 1) 1 12 8 0 = 2 := by decide +kernel
def KS5 : Mm := mkS [12, 8, 0, 0, 3, 1] [100, 100] [200] [] [] [1] [0, 2, 2] [0, 0, 1, 1]
theorem ls_5 : RS 0 0 (rectM KS4 0 0 0 2 1) KS5 := RS_dec ⟨by decide +kernel, by decide +kernel⟩
theorem kq_16 : lvV KS5 1 12 8 0 6 = 1 := by decide +kernel
theorem kq_17 : wtV KS5 1 0 0 0 = 2 := by decide +kernel
theorem kq_18 : wtV KS5 1 1 0 0 = 2 := by decide +kernel
theorem kq_19 : wtV KS5 1 2 0 0 = (-1000) := by decide +kernel
theorem kq_20 : ltV KS5 1 12 2 0 0 = (-1000) := by decide +kernel
theorem kq_21 : ltV KS5 1 12 0 0 0 = 100 := by decide +kernel
theorem kq_22 : plV KS5 1 12 0 0 1 = 100 := by decide +kernel
theorem kq_23 : whV KS5 1 12 8 (nI 0) 6 = 96 := by decide +kernel
theorem kq_24 : whV KS5 1 12 8 (nI 0) 11 = 200 := by decide +kernel
theorem kq_25 : lvV KS5 1 12 8 0 8 = 200 := by decide +kernel
theorem kq_26 : lvV KS5 1 12 8 0 9 = 50 := by decide +kernel
theorem kq_27 : lvV KS5 1 12 8 0 11 = 2 := by decide +kernel
theorem kq_28 : maxN 1 (burnM KS5 (ldJ KS5 1 12 8) 100 1 11) = 50 := by decide +kernel
def KS6 : Mm := mkS [12, 8, 0, 0, 103, 1] [100, 100] [200] [] [50] [1] [0, 2, 2] [0, 0, 1, 1]
theorem ls_6 : RS 0 0 (burnM KS5 (ldJ KS5 1 12 8) 100 1) KS6 := RS_dec ⟨by decide +kernel, by decide +kernel⟩
theorem kq_29 : lvV KS6 1 12 8 0 4 = 190 := by decide +kernel
theorem kq_30 : lvV KS6 1 12 8 0 9 = 52 := by decide +kernel
theorem kq_31 : whV KS6 1 12 8 (nI 0) 12 = 103 := by decide +kernel
theorem kq_32 : lvV KS6 1 12 8 0 0 = 200 := by decide +kernel
def KS7 : Mm := mkS [12, 8, 0, 0, 103, 1] [100, 100] [80] [] [50] [1] [0, 2, 2] [0, 0, 1, 1]
theorem ls_7 : RS 0 0 (setM KS6 0 0 80) KS7 := RS_dec ⟨by decide +kernel, by decide +kernel⟩
theorem kq_33 : lvV KS7 1 12 8 0 4 = 76 := by decide +kernel
theorem kq_34 : ltV KS7 1 12 0 0 0 = 76 := by decide +kernel
theorem kq_35 : plV KS7 1 12 0 0 2 = 2 := by decide +kernel
theorem kq_36 : whV KS7 1 12 8 (nI 0) 8 = 2 := by decide +kernel
theorem kq_37 : ndJ KS7 1 12 0 (12 * 8) = 100 := by decide +kernel
theorem kq_38 : lvV KS7 1 12 8 0 1 = 0 := by decide +kernel
def KS8 : Mm := mkS [12, 8, 0, 0, 103, 1] [100, 100] [80] [255] [50] [1] [0, 2, 2] [0, 0, 1, 1]
theorem ls_8 : RS 0 0 (setM KS7 0 1 255) KS8 := RS_dec ⟨by decide +kernel, by decide +kernel⟩
theorem kq_39 : lvV KS8 1 12 8 0 5 = 76 := by decide +kernel
theorem kq_40 : (pnt KS8 12 0 0 0 0 10).1 = 1 := by decide +kernel
def KS9 : Mm := mkS [12, 8, 0, 0, 103, 1] [10, 100] [80] [255] [50] [1] [0, 2, 2] [0, 0, 1, 1]
theorem ls_9 : RS 0 0 ((pnt KS8 12 0 0 0 0 10).2) KS9 := RS_dec ⟨by decide +kernel, by decide +kernel⟩
theorem kq_41 : plV KS9 1 12 0 0 1 = 76 := by decide +kernel
theorem kq_42 : plV KS9 1 12 0 0 2 = 3 := by decide +kernel
theorem kq_43 : plV KS9 1 12 0 0 4 = 76 := by decide +kernel
theorem kq_44 : plV KS9 1 12 0 0 5 = 76 := by decide +kernel
theorem kq_45 : nI 1 = 1 := by decide +kernel
def KS10 : Mm := mkS [12, 8, 0, 0, 103, 2] [10, 100] [80, 100] [255] [50] [1, 1] [0, 2, 2] [0, 0, 1, 1]
theorem ls_10 : RS 0 0 (hang KS9 0 1 100 0) KS10 := RS_dec ⟨by decide +kernel, by decide +kernel⟩
theorem kq_46 : plcJ (rectM KS10 1 0 0 1 1) 2 12 8 1 = 1 := by decide +kernel
def KS11 : Mm := mkS [12, 8, 0, 0, 103, 2] [10, 100] [80, 100] [255] [50] [1, 1] [0, 2, 2, 0, 0, 1, 1] [0, 0, 1, 1, 0, 0, 1, 1]
theorem ls_11 : RS 0 0 (rectM KS10 1 0 0 1 1) KS11 := RS_dec ⟨by decide +kernel, by decide +kernel⟩
theorem kq_47 : wtV KS11 2 0 0 1 = 2 := by decide +kernel
theorem kq_48 : lvV KS11 2 12 8 0 1 = 255 := by decide +kernel
def KS12 : Mm := mkS [12, 8, 0, 0, 103, 2] [10, 100] [80, 100] [] [50] [1, 1] [0, 2, 2, 0, 0, 1, 1] [0, 0, 1, 1, 0, 0, 1, 1]
theorem ls_12 : RS 0 0 (setM KS11 0 1 0) KS12 := RS_dec ⟨by decide +kernel, by decide +kernel⟩
theorem kq_49 : lvV KS12 2 12 8 0 0 = 80 := by decide +kernel
def KS13 : Mm := mkS [12, 8, 0, 0, 103, 2] [10, 100] [200, 100] [] [50] [1, 1] [0, 2, 2, 0, 0, 1, 1] [0, 0, 1, 1, 0, 0, 1, 1]
theorem ls_13 : RS 0 0 (setM KS12 0 0 200) KS13 := RS_dec ⟨by decide +kernel, by decide +kernel⟩
theorem kq_50 : lvV KS13 2 12 8 0 2 = 50 := by decide +kernel
def KS14 : Mm := mkS [12, 8, 0, 0, 103, 2] [10, 100] [200, 100] [] [] [1, 1] [0, 2, 2, 0, 0, 1, 1] [0, 0, 1, 1, 0, 0, 1, 1]
theorem ls_14 : RS 0 0 (setM KS13 0 2 0) KS14 := RS_dec ⟨by decide +kernel, by decide +kernel⟩
theorem kq_51 : (pnt KS14 12 0 0 0 0 101).1 = 1 := by decide +kernel
def KS15 : Mm := mkS [12, 8, 0, 0, 103, 2] [101, 100] [200, 100] [] [] [1, 1] [0, 2, 2, 0, 0, 1, 1] [0, 0, 1, 1, 0, 0, 1, 1]
theorem ls_15 : RS 0 0 ((pnt KS14 12 0 0 0 0 101).2) KS15 := RS_dec ⟨by decide +kernel, by decide +kernel⟩
theorem kq_52 : ltV KS15 2 12 0 0 0 = 51 := by decide +kernel
theorem kq_53 : ltV KS15 2 12 0 0 1 = 50 := by decide +kernel
theorem kq_54 : lvV KS15 2 12 8 1 9 = 50 := by decide +kernel
theorem kq_55 : lvV KS15 2 12 8 0 11 = 1 := by decide +kernel
theorem kq_56 : whV KS15 2 12 8 (nI 0) 13 = 1 := by decide +kernel
theorem kq_57 : plV KS15 2 12 0 0 3 = 3 := by decide +kernel
theorem kq_58 : lvV KS15 2 12 8 1 0 = 100 := by decide +kernel
def KS16 : Mm := mkS [12, 8, 0, 0, 103, 2] [101, 100] [200, 30] [] [] [1, 1] [0, 2, 2, 0, 0, 1, 1] [0, 0, 1, 1, 0, 0, 1, 1]
theorem ls_16 : RS 0 0 (setM KS15 1 0 30) KS16 := RS_dec ⟨by decide +kernel, by decide +kernel⟩
theorem kq_59 : ltV KS16 2 12 0 0 0 = 71 := by decide +kernel
theorem kq_60 : ltV KS16 2 12 0 0 1 = 30 := by decide +kernel
theorem kq_61 : wrgV KS16 2 12 0 8 = 2 := by decide +kernel
theorem kq_62 : wrgV KS16 2 12 1 8 = 0 := by decide +kernel
theorem kq_63 : (dlN KS16 2 12 8 2).2 = 0 := by decide +kernel
theorem kq_64 : lvV KS16 2 12 8 1 1 = 0 := by decide +kernel
def KS17 : Mm := mkS [12, 8, 0, 0, 103, 2] [101, 100] [200, 30] [0, 25] [] [1, 1] [0, 2, 2, 0, 0, 1, 1] [0, 0, 1, 1, 0, 0, 1, 1]
theorem ls_17 : RS 0 0 (setM KS16 1 1 25) KS17 := RS_dec ⟨by decide +kernel, by decide +kernel⟩
theorem kq_65 : lvV KS17 2 12 8 0 1 = 0 := by decide +kernel
def KS18 : Mm := mkS [12, 8, 0, 0, 103, 2] [101, 100] [200, 30] [90, 25] [] [1, 1] [0, 2, 2, 0, 0, 1, 1] [0, 0, 1, 1, 0, 0, 1, 1]
theorem ls_18 : RS 0 0 (setM KS17 0 1 90) KS18 := RS_dec ⟨by decide +kernel, by decide +kernel⟩
theorem kq_66 : plV KS18 2 12 0 0 1 = 115 := by decide +kernel
theorem kq_67 : ltV KS18 2 12 0 0 0 = 90 := by decide +kernel
theorem kq_68 : ltV KS18 2 12 0 0 1 = 25 := by decide +kernel
theorem kq_69 : plV KS18 2 12 0 0 2 = 3 := by decide +kernel
theorem kq_70 : shW KS18 2 12 8 0 0 = 1 := by decide +kernel
theorem kq_71 : shW KS18 2 12 8 (-1) 0 = 3 := by decide +kernel
theorem kq_72 : (bsR KS18 2 12 8 0 (2 * 0 + 1)).2 = 1010 := by decide +kernel
theorem kq_73 : nI (12 * 8) - pstJ (movM KS18 1 0) 2 12 8 0 = 1 := by decide +kernel
def KS19 : Mm := mkS [12, 8, 1, 0, 103, 2] [101, 100] [200, 30] [90, 25] [] [1, 1] [0, 2, 2, 0, 0, 1, 1] [0, 0, 1, 1, 0, 0, 1, 1]
theorem ls_19 : RS 0 0 (movM KS18 1 0) KS19 := RS_dec ⟨by decide +kernel, by decide +kernel⟩
theorem kq_74 : plV KS19 2 12 1 0 2 = 1 := by decide +kernel
theorem kq_75 : plV KS19 2 12 0 0 3 = 1 := by decide +kernel
theorem kq_76 : plV KS19 2 12 0 0 1 = 101 := by decide +kernel
theorem kq_77 : (if wkB KS19 0 0 = true then (1 : Int32) else 0) = 1 := by decide +kernel
def KS20 : Mm := mkS [12, 8, 1, 0, 103, 2] [101, 100] [200, 30] [90, 25] [] [0, 1] [0, 2, 2, 0, 0, 1, 1] [0, 0, 1, 1, 0, 0, 1, 1]
theorem ls_20 : RS 0 0 (wrkM KS19 0 0) KS20 := RS_dec ⟨by decide +kernel, by decide +kernel⟩
theorem kq_78 : plV KS20 2 12 0 0 3 = 0 := by decide +kernel
theorem kq_79 : lvV KS20 2 12 8 0 7 = 0 := by decide +kernel
theorem kq_80 : lvV KS20 2 12 8 0 6 = 1 := by decide +kernel
theorem kq_81 : whV KS20 2 12 8 (nI 0) 5 = 1 := by decide +kernel
theorem kq_82 : (if wkB KS20 0 0 = true then (1 : Int32) else 0) = 0 := by decide +kernel
def KS21 : Mm := mkS [12, 8, 1, 0, 103, 2] [101, 100] [200, 30] [90, 25] [] [1, 1] [0, 2, 2, 0, 0, 1, 1] [0, 0, 1, 1, 0, 0, 1, 1]
theorem ls_21 : RS 0 0 (wrkM KS20 0 1) KS21 := RS_dec ⟨by decide +kernel, by decide +kernel⟩
theorem kq_83 : nI (12 * 8) = 96 := by decide +kernel
def KS22 : Mm := mkS [1, 1, 0, 0, 103, 2] [] [200, 30] [90, 25] [] [1, 1] [0, 2, 2, 0, 0, 1, 1] [0, 0, 1, 1, 0, 0, 1, 1]
theorem ls_22 : RS 0 0 (wallM KS21 0 1 1) KS22 := RS_dec ⟨by decide +kernel, by decide +kernel⟩
theorem kq_84 : whV KS22 2 1 1 (nI 0) 4 = 2 := by decide +kernel
theorem kq_85 : whV KS22 2 1 1 (nI 0) 2 = 0 := by decide +kernel
theorem kq_86 : whV KS22 2 1 1 (nI 0) 12 = 103 := by decide +kernel
theorem kq_87 : (if goodB (mvc KS22 0 (4 * 0 + 0) 0 0) 0 0 = true then (1 : Int32) else 0) = 1 := by decide +kernel
def KS23 : Mm := mkS [1, 1, 0, 0, 103, 2] [] [200, 30] [90, 25] [] [1, 1] [0, 2, 2, 0, 0, 1, 1] [0, 0, 1, 1, 0, 0, 1, 1]
theorem ls_23 : RS 0 0 (mvc KS22 0 (4 * 0 + 0) 0 0) KS23 := RS_dec ⟨by decide +kernel, by decide +kernel⟩
theorem kq_88 : (if goodB (mvc KS23 0 (4 * 0 + 1) 2 0) 0 0 = true then (1 : Int32) else 0) = 1 := by decide +kernel
def KS24 : Mm := mkS [1, 1, 0, 0, 103, 2] [] [200, 30] [90, 25] [] [1, 1] [0, 2, 2, 0, 0, 1, 1] [0, 0, 1, 1, 0, 0, 1, 1]
theorem ls_24 : RS 0 0 (mvc KS23 0 (4 * 0 + 1) 2 0) KS24 := RS_dec ⟨by decide +kernel, by decide +kernel⟩
theorem kq_89 : (if goodB (mvc KS24 0 (4 * 0 + 2) 2 0) 0 0 = true then (1 : Int32) else 0) = 1 := by decide +kernel
def KS25 : Mm := mkS [1, 1, 0, 0, 103, 2] [] [200, 30] [90, 25] [] [1, 1] [0, 2, 2, 0, 0, 1, 1] [0, 0, 0, 1, 0, 0, 1, 1]
theorem ls_25 : RS 0 0 (mvc KS24 0 (4 * 0 + 2) 2 0) KS25 := RS_dec ⟨by decide +kernel, by decide +kernel⟩
theorem kq_90 : (if goodB (mvc KS25 0 (4 * 0 + 3) 0 2) 0 0 = true then (1 : Int32) else 0) = 1 := by decide +kernel
def KS26 : Mm := mkS [1, 1, 0, 0, 103, 2] [] [200, 30] [90, 25] [] [1, 1] [0, 2, 2, 0, 0, 1, 1] [0, 0, 0, 2, 0, 0, 1, 1]
theorem ls_26 : RS 0 0 (mvc KS25 0 (4 * 0 + 3) 0 2) KS26 := RS_dec ⟨by decide +kernel, by decide +kernel⟩
theorem kq_91 : wtV KS26 2 0 0 0 = 2 := by decide +kernel
theorem kq_92 : (if goodB (mvc KS26 0 (4 * 0 + 1) 0 2) 0 0 = true then (1 : Int32) else 0) = 0 := by decide +kernel
def KS27 : Mm := mkS [1, 1, 0, 0, 103, 2] [] [200, 30] [90, 25] [] [1, 1] [0, 0, 2, 0, 0, 1, 1] [0, 2, 0, 2, 0, 0, 1, 1]
theorem ls_27 : RS 0 0 (mvc KS26 0 (4 * 0 + 1) 0 2) KS27 := RS_dec ⟨by decide +kernel, by decide +kernel⟩
theorem kq_93 : (if goodB (mvc KS27 0 (4 * 0 + 2) 0 2) 0 0 = true then (1 : Int32) else 0) = 0 := by decide +kernel
def KS28 : Mm := mkS [1, 1, 0, 0, 103, 2] [] [200, 30] [90, 25] [] [1, 1] [0, 0, 0, 0, 0, 1, 1] [0, 2, 2, 2, 0, 0, 1, 1]
theorem ls_28 : RS 0 0 (mvc KS27 0 (4 * 0 + 2) 0 2) KS28 := RS_dec ⟨by decide +kernel, by decide +kernel⟩
theorem kq_94 : (if goodB (mvc KS28 0 (4 * 0 + 3) 2 0) 0 0 = true then (1 : Int32) else 0) = 0 := by decide +kernel
def KS29 : Mm := mkS [1, 1, 0, 0, 103, 2] [] [200, 30] [90, 25] [] [1, 1] [0, 0, 0, 2, 0, 1, 1] [0, 2, 2, 0, 0, 0, 1, 1]
theorem ls_29 : RS 0 0 (mvc KS28 0 (4 * 0 + 3) 2 0) KS29 := RS_dec ⟨by decide +kernel, by decide +kernel⟩
theorem kq_95 : wtV KS29 2 0 0 0 = (-1000) := by decide +kernel
theorem kq_96 : (if 0 = 0 then KS28 13 (4 * 0 + 3) else KS28 14 (4 * 0 + 3)) = 0 := by decide +kernel
theorem kq_97 : (if 1 = 0 then KS28 13 (4 * 0 + 3) else KS28 14 (4 * 0 + 3)) = 2 := by decide +kernel
