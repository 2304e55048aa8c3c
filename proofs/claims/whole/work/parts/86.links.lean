/-! links: each a word of the tables -/
theorem fl_X6_9 : Cond.fieldLink "QuaternionNet$Walks" 9 (CN 6) (CT 6 0).2.1 (CT 6 0).2.2.1 ∈ TT := TT_m (tq1 (List.mem_of_getElem? (i := 27) rfl)) rfl
theorem fl_X6_13 : Cond.fieldLink "QuaternionNet$Walks" 13 (CN 6) (CT 6 1).2.1 (CT 6 1).2.2.1 ∈ TT := TT_m (tq1 (List.mem_of_getElem? (i := 28) rfl)) rfl
theorem fl_X6_18 : Cond.fieldLink "QuaternionNet$Walks" 18 (CN 6) (CT 6 2).2.1 (CT 6 2).2.2.1 ∈ TT := TT_m (tq1 (List.mem_of_getElem? (i := 29) rfl)) rfl
theorem fl_X6_21 : Cond.fieldLink "QuaternionNet$Walks" 21 (CN 6) (CT 6 3).2.1 (CT 6 3).2.2.1 ∈ TT := TT_m (tq1 (List.mem_of_getElem? (i := 30) rfl)) rfl
theorem fl_X6_24 : Cond.fieldLink "QuaternionNet$Walks" 24 (CN 6) (CT 6 4).2.1 (CT 6 4).2.2.1 ∈ TT := TT_m (tq1 (List.mem_of_getElem? (i := 31) rfl)) rfl
theorem fl_X6_27 : Cond.fieldLink "QuaternionNet$Walks" 27 (CN 6) (CT 6 5).2.1 (CT 6 5).2.2.1 ∈ TT := TT_m (tq1 (List.mem_of_getElem? (i := 32) rfl)) rfl
theorem fl_X2_110 : (("QuaternionNet$Network", 110, CN 3, (CT 3 0).2.1, (CT 3 0).2.2.1, "QuaternionNet") : String × Nat × String × String × String × String) ∈ nFw := List.mem_of_getElem? (i := 0) rfl
theorem fl_X3_20 : Cond.fieldLink "QuaternionNet$Quaternion" 20 (CN 3) (CT 3 0).2.1 (CT 3 0).2.2.1 ∈ TT := TT_m (tq1 (List.mem_of_getElem? (i := 54) rfl)) rfl
theorem fl_X2_113 : (("QuaternionNet$Network", 113, CN 3, (CT 3 1).2.1, (CT 3 1).2.2.1, "QuaternionNet") : String × Nat × String × String × String × String) ∈ nFw := List.mem_of_getElem? (i := 1) rfl
theorem fl_X3_24 : Cond.fieldLink "QuaternionNet$Quaternion" 24 (CN 3) (CT 3 1).2.1 (CT 3 1).2.2.1 ∈ TT := TT_m (tq1 (List.mem_of_getElem? (i := 56) rfl)) rfl
theorem fl_X2_116 : (("QuaternionNet$Network", 116, CN 3, (CT 3 2).2.1, (CT 3 2).2.2.1, "QuaternionNet") : String × Nat × String × String × String × String) ∈ nFw := List.mem_of_getElem? (i := 2) rfl
theorem fl_X3_27 : Cond.fieldLink "QuaternionNet$Quaternion" 27 (CN 3) (CT 3 2).2.1 (CT 3 2).2.2.1 ∈ TT := TT_m (tq1 (List.mem_of_getElem? (i := 58) rfl)) rfl
theorem fl_X3_30 : Cond.fieldLink "QuaternionNet$Quaternion" 30 (CN 3) (CT 3 3).2.1 (CT 3 3).2.2.1 ∈ TT := TT_m (tq1 (List.mem_of_getElem? (i := 59) rfl)) rfl
theorem fl_X2_119 : (("QuaternionNet$Network", 119, CN 3, (CT 3 3).2.1, (CT 3 3).2.2.1, "QuaternionNet") : String × Nat × String × String × String × String) ∈ nFw := List.mem_of_getElem? (i := 3) rfl
theorem fl_X0_17 : Cond.fieldLink "QuaternionNet$Book" 17 (CN 0) (CT 0 0).2.1 (CT 0 0).2.2.1 ∈ TT := TT_m (tq1 (List.mem_of_getElem? (i := 85) rfl)) rfl
theorem fl_X0_21 : Cond.fieldLink "QuaternionNet$Book" 21 (CN 0) (CT 0 1).2.1 (CT 0 1).2.2.1 ∈ TT := TT_m (tq1 (List.mem_of_getElem? (i := 86) rfl)) rfl
theorem fl_X0_25 : Cond.fieldLink "QuaternionNet$Book" 25 (CN 0) (CT 0 2).2.1 (CT 0 2).2.2.1 ∈ TT := TT_m (tq1 (List.mem_of_getElem? (i := 87) rfl)) rfl
theorem fl_X7_266 : (("QuaternionNet", 266, CN 0, (CT 0 2).2.1, (CT 0 2).2.2.1, "QuaternionNet") : String × Nat × String × String × String × String) ∈ nFw := List.mem_of_getElem? (i := 4) rfl
theorem fl_X1_15 : Cond.fieldLink "QuaternionNet$Image" 15 (CN 1) (CT 1 0).2.1 (CT 1 0).2.2.1 ∈ TT := TT_m (tq1 (List.mem_of_getElem? (i := 108) rfl)) rfl
theorem fl_X7_296 : (("QuaternionNet", 296, CN 1, (CT 1 0).2.1, (CT 1 0).2.2.1, "QuaternionNet") : String × Nat × String × String × String × String) ∈ nFw := List.mem_of_getElem? (i := 5) rfl
theorem fl_X1_24 : Cond.fieldLink "QuaternionNet$Image" 24 (CN 1) (CT 1 1).2.1 (CT 1 1).2.2.1 ∈ TT := TT_m (tq1 (List.mem_of_getElem? (i := 110) rfl)) rfl
theorem fl_X7_301 : (("QuaternionNet", 301, CN 1, (CT 1 1).2.1, (CT 1 1).2.2.1, "QuaternionNet") : String × Nat × String × String × String × String) ∈ nFw := List.mem_of_getElem? (i := 6) rfl
theorem fl_X1_28 : Cond.fieldLink "QuaternionNet$Image" 28 (CN 1) (CT 1 2).2.1 (CT 1 2).2.2.1 ∈ TT := TT_m (tq1 (List.mem_of_getElem? (i := 112) rfl)) rfl
theorem fl_X7_305 : (("QuaternionNet", 305, CN 1, (CT 1 2).2.1, (CT 1 2).2.2.1, "QuaternionNet") : String × Nat × String × String × String × String) ∈ nFw := List.mem_of_getElem? (i := 7) rfl
theorem fl_X1_32 : Cond.fieldLink "QuaternionNet$Image" 32 (CN 1) (CT 1 3).2.1 (CT 1 3).2.2.1 ∈ TT := TT_m (tq1 (List.mem_of_getElem? (i := 114) rfl)) rfl
theorem fl_X7_308 : (("QuaternionNet", 308, CN 1, (CT 1 3).2.1, (CT 1 3).2.2.1, "QuaternionNet") : String × Nat × String × String × String × String) ∈ nFw := List.mem_of_getElem? (i := 8) rfl
theorem fl_X1_36 : Cond.fieldLink "QuaternionNet$Image" 36 (CN 1) (CT 1 4).2.1 (CT 1 4).2.2.1 ∈ TT := TT_m (tq1 (List.mem_of_getElem? (i := 116) rfl)) rfl
theorem fl_X7_309 : (("QuaternionNet", 309, CN 1, (CT 1 4).2.1, (CT 1 4).2.2.1, "QuaternionNet") : String × Nat × String × String × String × String) ∈ nFw := List.mem_of_getElem? (i := 9) rfl
theorem fl_X1_39 : Cond.fieldLink "QuaternionNet$Image" 39 (CN 1) (CT 1 5).2.1 (CT 1 5).2.2.1 ∈ TT := TT_m (tq1 (List.mem_of_getElem? (i := 118) rfl)) rfl
theorem fl_X7_312 : (("QuaternionNet", 312, CN 1, (CT 1 5).2.1, (CT 1 5).2.2.1, "QuaternionNet") : String × Nat × String × String × String × String) ∈ nFw := List.mem_of_getElem? (i := 10) rfl
theorem fl_X5_15 : Cond.fieldLink "QuaternionNet$Steps" 15 (CN 5) (CT 5 0).2.1 (CT 5 0).2.2.1 ∈ TT := TT_m (tq1 (List.mem_of_getElem? (i := 149) rfl)) rfl
theorem fl_X5_19 : Cond.fieldLink "QuaternionNet$Steps" 19 (CN 5) (CT 5 1).2.1 (CT 5 1).2.2.1 ∈ TT := TT_m (tq1 (List.mem_of_getElem? (i := 150) rfl)) rfl
theorem fl_X5_23 : Cond.fieldLink "QuaternionNet$Steps" 23 (CN 5) (CT 5 2).2.1 (CT 5 2).2.2.1 ∈ TT := TT_m (tq1 (List.mem_of_getElem? (i := 151) rfl)) rfl
theorem fl_X5_27 : Cond.fieldLink "QuaternionNet$Steps" 27 (CN 5) (CT 5 3).2.1 (CT 5 3).2.2.1 ∈ TT := TT_m (tq1 (List.mem_of_getElem? (i := 152) rfl)) rfl
theorem fl_X5_31 : Cond.fieldLink "QuaternionNet$Steps" 31 (CN 5) (CT 5 4).2.1 (CT 5 4).2.2.1 ∈ TT := TT_m (tq1 (List.mem_of_getElem? (i := 153) rfl)) rfl
theorem fl_X5_34 : Cond.fieldLink "QuaternionNet$Steps" 34 (CN 5) (CT 5 5).2.1 (CT 5 5).2.2.1 ∈ TT := TT_m (tq1 (List.mem_of_getElem? (i := 154) rfl)) rfl
theorem fl_X7_131 : (("QuaternionNet", 131, CN 5, (CT 5 5).2.1, (CT 5 5).2.2.1, "QuaternionNet") : String × Nat × String × String × String × String) ∈ nFw := List.mem_of_getElem? (i := 11) rfl
theorem fl_X5_38 : Cond.fieldLink "QuaternionNet$Steps" 38 (CN 5) (CT 5 6).2.1 (CT 5 6).2.2.1 ∈ TT := TT_m (tq1 (List.mem_of_getElem? (i := 156) rfl)) rfl
theorem fl_X2_88 : (("QuaternionNet$Network", 88, CN 5, (CT 5 6).2.1, (CT 5 6).2.2.1, "QuaternionNet") : String × Nat × String × String × String × String) ∈ nFw := List.mem_of_getElem? (i := 12) rfl
theorem fl_X6_56 : (("QuaternionNet$Walks", 56, CN 5, (CT 5 6).2.1, (CT 5 6).2.2.1, "QuaternionNet") : String × Nat × String × String × String × String) ∈ nFw := List.mem_of_getElem? (i := 13) rfl
theorem fl_X7_208 : (("QuaternionNet", 208, CN 5, (CT 5 6).2.1, (CT 5 6).2.2.1, "QuaternionNet") : String × Nat × String × String × String × String) ∈ nFw := List.mem_of_getElem? (i := 14) rfl
theorem fl_X2_12 : Cond.fieldLink "QuaternionNet$Network" 12 (CN 2) (CT 2 0).2.1 (CT 2 0).2.2.1 ∈ TT := TT_m (tq2 (List.mem_of_getElem? (i := 26) rfl)) rfl
theorem fl_X7_63 : (("QuaternionNet", 63, CN 2, (CT 2 0).2.1, (CT 2 0).2.2.1, "QuaternionNet") : String × Nat × String × String × String × String) ∈ nFw := List.mem_of_getElem? (i := 15) rfl
theorem fl_X6_52 : (("QuaternionNet$Walks", 52, CN 2, (CT 2 0).2.1, (CT 2 0).2.2.1, "QuaternionNet") : String × Nat × String × String × String × String) ∈ nFw := List.mem_of_getElem? (i := 16) rfl
theorem fl_X2_24 : Cond.fieldLink "QuaternionNet$Network" 24 (CN 2) (CT 2 1).2.1 (CT 2 1).2.2.1 ∈ TT := TT_m (tq2 (List.mem_of_getElem? (i := 29) rfl)) rfl
theorem fl_X2_28 : Cond.fieldLink "QuaternionNet$Network" 28 (CN 2) (CT 2 2).2.1 (CT 2 2).2.2.1 ∈ TT := TT_m (tq2 (List.mem_of_getElem? (i := 30) rfl)) rfl
theorem fl_X2_32 : Cond.fieldLink "QuaternionNet$Network" 32 (CN 2) (CT 2 3).2.1 (CT 2 3).2.2.1 ∈ TT := TT_m (tq2 (List.mem_of_getElem? (i := 31) rfl)) rfl
theorem fl_X2_35 : Cond.fieldLink "QuaternionNet$Network" 35 (CN 2) (CT 2 4).2.1 (CT 2 4).2.2.1 ∈ TT := TT_m (tq2 (List.mem_of_getElem? (i := 32) rfl)) rfl
theorem fl_X2_38 : Cond.fieldLink "QuaternionNet$Network" 38 (CN 2) (CT 2 5).2.1 (CT 2 5).2.2.1 ∈ TT := TT_m (tq2 (List.mem_of_getElem? (i := 33) rfl)) rfl
theorem fl_X2_41 : Cond.fieldLink "QuaternionNet$Network" 41 (CN 2) (CT 2 6).2.1 (CT 2 6).2.2.1 ∈ TT := TT_m (tq2 (List.mem_of_getElem? (i := 34) rfl)) rfl
theorem fl_X2_45 : Cond.fieldLink "QuaternionNet$Network" 45 (CN 2) (CT 2 7).2.1 (CT 2 7).2.2.1 ∈ TT := TT_m (tq2 (List.mem_of_getElem? (i := 35) rfl)) rfl
theorem fl_X2_53 : Cond.fieldLink "QuaternionNet$Network" 53 (CN 2) (CT 2 8).2.1 (CT 2 8).2.2.1 ∈ TT := TT_m (tq2 (List.mem_of_getElem? (i := 36) rfl)) rfl
theorem fl_X7_127 : (("QuaternionNet", 127, CN 2, (CT 2 8).2.1, (CT 2 8).2.2.1, "QuaternionNet") : String × Nat × String × String × String × String) ∈ nFw := List.mem_of_getElem? (i := 17) rfl
theorem fl_X2_66 : Cond.fieldLink "QuaternionNet$Network" 66 (CN 2) (CT 2 9).2.1 (CT 2 9).2.2.1 ∈ TT := TT_m (tq2 (List.mem_of_getElem? (i := 38) rfl)) rfl
theorem fl_X6_62 : (("QuaternionNet$Walks", 62, CN 2, (CT 2 9).2.1, (CT 2 9).2.2.1, "QuaternionNet") : String × Nat × String × String × String × String) ∈ nFw := List.mem_of_getElem? (i := 18) rfl
theorem fl_X7_205 : (("QuaternionNet", 205, CN 2, (CT 2 9).2.1, (CT 2 9).2.2.1, "QuaternionNet") : String × Nat × String × String × String × String) ∈ nFw := List.mem_of_getElem? (i := 19) rfl
theorem fl_X2_84 : Cond.fieldLink "QuaternionNet$Network" 84 (CN 2) (CT 2 10).2.1 (CT 2 10).2.2.1 ∈ TT := TT_m (tq2 (List.mem_of_getElem? (i := 41) rfl)) rfl
theorem fl_X7_209 : (("QuaternionNet", 209, CN 2, (CT 2 10).2.1, (CT 2 10).2.2.1, "QuaternionNet") : String × Nat × String × String × String × String) ∈ nFw := List.mem_of_getElem? (i := 20) rfl
theorem fl_X4_43 : Cond.fieldLink "QuaternionNet$Reader" 43 (CN 4) (CT 4 0).2.1 (CT 4 0).2.2.1 ∈ TT := TT_m (tq2 (List.mem_of_getElem? (i := 73) rfl)) rfl
theorem fl_X4_46 : Cond.fieldLink "QuaternionNet$Reader" 46 (CN 4) (CT 4 1).2.1 (CT 4 1).2.2.1 ∈ TT := TT_m (tq2 (List.mem_of_getElem? (i := 74) rfl)) rfl
theorem fl_X4_11 : Cond.fieldLink "QuaternionNet$Reader" 11 (CN 4) (CT 4 2).2.1 (CT 4 2).2.2.1 ∈ TT := TT_m (tq2 (List.mem_of_getElem? (i := 75) rfl)) rfl
theorem fl_X4_15 : Cond.fieldLink "QuaternionNet$Reader" 15 (CN 4) (CT 4 3).2.1 (CT 4 3).2.2.1 ∈ TT := TT_m (tq2 (List.mem_of_getElem? (i := 76) rfl)) rfl
theorem fl_X4_18 : Cond.fieldLink "QuaternionNet$Reader" 18 (CN 4) (CT 4 4).2.1 (CT 4 4).2.2.1 ∈ TT := TT_m (tq2 (List.mem_of_getElem? (i := 77) rfl)) rfl
theorem fl_X4_21 : Cond.fieldLink "QuaternionNet$Reader" 21 (CN 4) (CT 4 5).2.1 (CT 4 5).2.2.1 ∈ TT := TT_m (tq2 (List.mem_of_getElem? (i := 78) rfl)) rfl
theorem fl_X4_30 : Cond.fieldLink "QuaternionNet$Reader" 30 (CN 4) (CT 4 6).2.1 (CT 4 6).2.2.1 ∈ TT := TT_m (tq2 (List.mem_of_getElem? (i := 79) rfl)) rfl
theorem fl_X4_34 : Cond.fieldLink "QuaternionNet$Reader" 34 (CN 4) (CT 4 7).2.1 (CT 4 7).2.2.1 ∈ TT := TT_m (tq2 (List.mem_of_getElem? (i := 80) rfl)) rfl
theorem fl_X4_37 : Cond.fieldLink "QuaternionNet$Reader" 37 (CN 4) (CT 4 8).2.1 (CT 4 8).2.2.1 ∈ TT := TT_m (tq2 (List.mem_of_getElem? (i := 81) rfl)) rfl
theorem fl_X4_40 : Cond.fieldLink "QuaternionNet$Reader" 40 (CN 4) (CT 4 9).2.1 (CT 4 9).2.2.1 ∈ TT := TT_m (tq2 (List.mem_of_getElem? (i := 82) rfl)) rfl
theorem fl_X4_50 : Cond.fieldLink "QuaternionNet$Reader" 50 (CN 4) (CT 4 10).2.1 (CT 4 10).2.2.1 ∈ TT := TT_m (tq2 (List.mem_of_getElem? (i := 83) rfl)) rfl
theorem fl_X7_313 : (("QuaternionNet", 313, CN 4, (CT 4 10).2.1, (CT 4 10).2.2.1, "QuaternionNet") : String × Nat × String × String × String × String) ∈ nFw := List.mem_of_getElem? (i := 21) rfl
theorem fl_X4_54 : Cond.fieldLink "QuaternionNet$Reader" 54 (CN 4) (CT 4 11).2.1 (CT 4 11).2.2.1 ∈ TT := TT_m (tq2 (List.mem_of_getElem? (i := 85) rfl)) rfl
theorem fl_X4_57 : Cond.fieldLink "QuaternionNet$Reader" 57 (CN 4) (CT 4 12).2.1 (CT 4 12).2.2.1 ∈ TT := TT_m (tq2 (List.mem_of_getElem? (i := 86) rfl)) rfl
theorem fl_X4_146 : Cond.fieldLink "QuaternionNet$Reader" 146 (CN 4) (CT 4 13).2.1 (CT 4 13).2.2.1 ∈ TT := TT_m (tq2 (List.mem_of_getElem? (i := 87) rfl)) rfl
theorem fl_X7_283 : (("QuaternionNet", 283, CN 4, (CT 4 13).2.1, (CT 4 13).2.2.1, "QuaternionNet") : String × Nat × String × String × String × String) ∈ nFw := List.mem_of_getElem? (i := 22) rfl
theorem fl_X7_78 : Cond.fieldLink "QuaternionNet" 78 (CN 7) (CT 7 0).2.1 (CT 7 0).2.2.1 ∈ TT := TT_m (tq2 (List.mem_of_getElem? (i := 118) rfl)) rfl
theorem fl_X7_12 : Cond.fieldLink "QuaternionNet" 12 (CN 7) (CT 7 1).2.1 (CT 7 1).2.2.1 ∈ TT := TT_m (tq2 (List.mem_of_getElem? (i := 119) rfl)) rfl
theorem fl_X7_74 : Cond.fieldLink "QuaternionNet" 74 (CN 7) (CT 7 2).2.1 (CT 7 2).2.2.1 ∈ TT := TT_m (tq2 (List.mem_of_getElem? (i := 120) rfl)) rfl
theorem fl_X7_21 : Cond.fieldLink "QuaternionNet" 21 (CN 7) (CT 7 3).2.1 (CT 7 3).2.2.1 ∈ TT := TT_m (tq2 (List.mem_of_getElem? (i := 121) rfl)) rfl
theorem fl_X7_28 : Cond.fieldLink "QuaternionNet" 28 (CN 7) (CT 7 4).2.1 (CT 7 4).2.2.1 ∈ TT := TT_m (tq2 (List.mem_of_getElem? (i := 122) rfl)) rfl
theorem fl_X7_70 : Cond.fieldLink "QuaternionNet" 70 (CN 7) (CT 7 5).2.1 (CT 7 5).2.2.1 ∈ TT := TT_m (tq2 (List.mem_of_getElem? (i := 123) rfl)) rfl
theorem fl_X7_34 : Cond.fieldLink "QuaternionNet" 34 (CN 7) (CT 7 6).2.1 (CT 7 6).2.2.1 ∈ TT := TT_m (tq2 (List.mem_of_getElem? (i := 124) rfl)) rfl
theorem fl_X7_37 : Cond.fieldLink "QuaternionNet" 37 (CN 7) (CT 7 7).2.1 (CT 7 7).2.2.1 ∈ TT := TT_m (tq2 (List.mem_of_getElem? (i := 125) rfl)) rfl
theorem fl_X7_43 : Cond.fieldLink "QuaternionNet" 43 (CN 7) (CT 7 8).2.1 (CT 7 8).2.2.1 ∈ TT := TT_m (tq2 (List.mem_of_getElem? (i := 126) rfl)) rfl
theorem fl_X7_46 : Cond.fieldLink "QuaternionNet" 46 (CN 7) (CT 7 9).2.1 (CT 7 9).2.2.1 ∈ TT := TT_m (tq2 (List.mem_of_getElem? (i := 127) rfl)) rfl
theorem fl_X7_52 : Cond.fieldLink "QuaternionNet" 52 (CN 7) (CT 7 10).2.1 (CT 7 10).2.2.1 ∈ TT := TT_m (tq2 (List.mem_of_getElem? (i := 128) rfl)) rfl
theorem fl_X7_149 : Cond.fieldLink "QuaternionNet" 149 (CN 7) (CT 7 11).2.1 (CT 7 11).2.2.1 ∈ TT := TT_m (tq2 (List.mem_of_getElem? (i := 129) rfl)) rfl
theorem fl_X7_146 : Cond.fieldLink "QuaternionNet" 146 (CN 7) (CT 7 12).2.1 (CT 7 12).2.2.1 ∈ TT := TT_m (tq2 (List.mem_of_getElem? (i := 130) rfl)) rfl
theorem fl_X8_9 : Cond.fieldLink "QuaternionNetModel" 9 (CN 8) (CT 8 0).2.1 (CT 8 0).2.2.1 ∈ TT := TT_m (tq4 (List.mem_of_getElem? (i := 186) rfl)) rfl
theorem fl_X8_15 : Cond.fieldLink "QuaternionNetModel" 15 (CN 8) (CT 8 1).2.1 (CT 8 1).2.2.1 ∈ TT := TT_m (tq4 (List.mem_of_getElem? (i := 187) rfl)) rfl
theorem fl_X8_18 : Cond.fieldLink "QuaternionNetModel" 18 (CN 8) (CT 8 2).2.1 (CT 8 2).2.2.1 ∈ TT := TT_m (tq4 (List.mem_of_getElem? (i := 188) rfl)) rfl
theorem fl_X8_154 : Cond.fieldLink "QuaternionNetModel" 154 (CN 8) (CT 8 3).2.1 (CT 8 3).2.2.1 ∈ TT := TT_m (tq4 (List.mem_of_getElem? (i := 189) rfl)) rfl
theorem fl_X8_22 : Cond.fieldLink "QuaternionNetModel" 22 (CN 8) (CT 8 4).2.1 (CT 8 4).2.2.1 ∈ TT := TT_m (tq4 (List.mem_of_getElem? (i := 190) rfl)) rfl
theorem fl_X8_25 : Cond.fieldLink "QuaternionNetModel" 25 (CN 8) (CT 8 5).2.1 (CT 8 5).2.2.1 ∈ TT := TT_m (tq4 (List.mem_of_getElem? (i := 191) rfl)) rfl
theorem fl_X8_116 : Cond.fieldLink "QuaternionNetModel" 116 (CN 8) (CT 8 6).2.1 (CT 8 6).2.2.1 ∈ TT := TT_m (tq4 (List.mem_of_getElem? (i := 192) rfl)) rfl
theorem fl_X8_28 : Cond.fieldLink "QuaternionNetModel" 28 (CN 8) (CT 8 7).2.1 (CT 8 7).2.2.1 ∈ TT := TT_m (tq4 (List.mem_of_getElem? (i := 193) rfl)) rfl
theorem fl_X8_31 : Cond.fieldLink "QuaternionNetModel" 31 (CN 8) (CT 8 8).2.1 (CT 8 8).2.2.1 ∈ TT := TT_m (tq4 (List.mem_of_getElem? (i := 194) rfl)) rfl
theorem fl_X8_34 : Cond.fieldLink "QuaternionNetModel" 34 (CN 8) (CT 8 9).2.1 (CT 8 9).2.2.1 ∈ TT := TT_m (tq4 (List.mem_of_getElem? (i := 195) rfl)) rfl
theorem fl_X8_119 : Cond.fieldLink "QuaternionNetModel" 119 (CN 8) (CT 8 10).2.1 (CT 8 10).2.2.1 ∈ TT := TT_m (tq4 (List.mem_of_getElem? (i := 196) rfl)) rfl
theorem fl_X8_37 : Cond.fieldLink "QuaternionNetModel" 37 (CN 8) (CT 8 11).2.1 (CT 8 11).2.2.1 ∈ TT := TT_m (tq4 (List.mem_of_getElem? (i := 197) rfl)) rfl
theorem fl_X8_150 : Cond.fieldLink "QuaternionNetModel" 150 (CN 8) (CT 8 12).2.1 (CT 8 12).2.2.1 ∈ TT := TT_m (tq4 (List.mem_of_getElem? (i := 198) rfl)) rfl
theorem fl_X8_40 : Cond.fieldLink "QuaternionNetModel" 40 (CN 8) (CT 8 13).2.1 (CT 8 13).2.2.1 ∈ TT := TT_m (tq4 (List.mem_of_getElem? (i := 199) rfl)) rfl
theorem fl_X8_157 : Cond.fieldLink "QuaternionNetModel" 157 (CN 8) (CT 8 14).2.1 (CT 8 14).2.2.1 ∈ TT := TT_m (tq4 (List.mem_of_getElem? (i := 200) rfl)) rfl
theorem fl_X8_43 : Cond.fieldLink "QuaternionNetModel" 43 (CN 8) (CT 8 15).2.1 (CT 8 15).2.2.1 ∈ TT := TT_m (tq4 (List.mem_of_getElem? (i := 201) rfl)) rfl
theorem fl_X8_46 : Cond.fieldLink "QuaternionNetModel" 46 (CN 8) (CT 8 16).2.1 (CT 8 16).2.2.1 ∈ TT := TT_m (tq4 (List.mem_of_getElem? (i := 202) rfl)) rfl
theorem fl_X8_234 : Cond.fieldLink "QuaternionNetModel" 234 (CN 8) (CT 8 17).2.1 (CT 8 17).2.2.1 ∈ TT := TT_m (tq4 (List.mem_of_getElem? (i := 203) rfl)) rfl
theorem fl_X8_49 : Cond.fieldLink "QuaternionNetModel" 49 (CN 8) (CT 8 18).2.1 (CT 8 18).2.2.1 ∈ TT := TT_m (tq4 (List.mem_of_getElem? (i := 204) rfl)) rfl
theorem fl_X8_52 : Cond.fieldLink "QuaternionNetModel" 52 (CN 8) (CT 8 19).2.1 (CT 8 19).2.2.1 ∈ TT := TT_m (tq4 (List.mem_of_getElem? (i := 205) rfl)) rfl
theorem fl_X8_55 : Cond.fieldLink "QuaternionNetModel" 55 (CN 8) (CT 8 20).2.1 (CT 8 20).2.2.1 ∈ TT := TT_m (tq4 (List.mem_of_getElem? (i := 206) rfl)) rfl
theorem fl_X8_244 : Cond.fieldLink "QuaternionNetModel" 244 (CN 8) (CT 8 21).2.1 (CT 8 21).2.2.1 ∈ TT := TT_m (tq4 (List.mem_of_getElem? (i := 207) rfl)) rfl
theorem fl_X8_247 : Cond.fieldLink "QuaternionNetModel" 247 (CN 8) (CT 8 22).2.1 (CT 8 22).2.2.1 ∈ TT := TT_m (tq4 (List.mem_of_getElem? (i := 208) rfl)) rfl
theorem fl_X8_58 : Cond.fieldLink "QuaternionNetModel" 58 (CN 8) (CT 8 23).2.1 (CT 8 23).2.2.1 ∈ TT := TT_m (tq4 (List.mem_of_getElem? (i := 209) rfl)) rfl
theorem fl_X8_267 : Cond.fieldLink "QuaternionNetModel" 267 (CN 8) (CT 8 24).2.1 (CT 8 24).2.2.1 ∈ TT := TT_m (tq4 (List.mem_of_getElem? (i := 210) rfl)) rfl
theorem fl_X8_61 : Cond.fieldLink "QuaternionNetModel" 61 (CN 8) (CT 8 25).2.1 (CT 8 25).2.2.1 ∈ TT := TT_m (tq4 (List.mem_of_getElem? (i := 211) rfl)) rfl
theorem fl_X8_64 : Cond.fieldLink "QuaternionNetModel" 64 (CN 8) (CT 8 26).2.1 (CT 8 26).2.2.1 ∈ TT := TT_m (tq4 (List.mem_of_getElem? (i := 212) rfl)) rfl
theorem fl_X8_310 : Cond.fieldLink "QuaternionNetModel" 310 (CN 8) (CT 8 27).2.1 (CT 8 27).2.2.1 ∈ TT := TT_m (tq4 (List.mem_of_getElem? (i := 213) rfl)) rfl
theorem fl_X8_281 : Cond.fieldLink "QuaternionNetModel" 281 (CN 8) (CT 8 28).2.1 (CT 8 28).2.2.1 ∈ TT := TT_m (tq4 (List.mem_of_getElem? (i := 214) rfl)) rfl
theorem fl_X8_284 : Cond.fieldLink "QuaternionNetModel" 284 (CN 8) (CT 8 29).2.1 (CT 8 29).2.2.1 ∈ TT := TT_m (tq4 (List.mem_of_getElem? (i := 215) rfl)) rfl
theorem fl_X8_287 : Cond.fieldLink "QuaternionNetModel" 287 (CN 8) (CT 8 30).2.1 (CT 8 30).2.2.1 ∈ TT := TT_m (tq4 (List.mem_of_getElem? (i := 216) rfl)) rfl
theorem fl_X8_316 : Cond.fieldLink "QuaternionNetModel" 316 (CN 8) (CT 8 31).2.1 (CT 8 31).2.2.1 ∈ TT := TT_m (tq4 (List.mem_of_getElem? (i := 217) rfl)) rfl
theorem fl_X8_319 : Cond.fieldLink "QuaternionNetModel" 319 (CN 8) (CT 8 32).2.1 (CT 8 32).2.2.1 ∈ TT := TT_m (tq4 (List.mem_of_getElem? (i := 218) rfl)) rfl
theorem fl_X8_322 : Cond.fieldLink "QuaternionNetModel" 322 (CN 8) (CT 8 33).2.1 (CT 8 33).2.2.1 ∈ TT := TT_m (tq4 (List.mem_of_getElem? (i := 219) rfl)) rfl
theorem fl_X8_325 : Cond.fieldLink "QuaternionNetModel" 325 (CN 8) (CT 8 34).2.1 (CT 8 34).2.2.1 ∈ TT := TT_m (tq4 (List.mem_of_getElem? (i := 220) rfl)) rfl
theorem fl_X8_67 : Cond.fieldLink "QuaternionNetModel" 67 (CN 8) (CT 8 35).2.1 (CT 8 35).2.2.1 ∈ TT := TT_m (tq4 (List.mem_of_getElem? (i := 221) rfl)) rfl
theorem fl_X8_70 : Cond.fieldLink "QuaternionNetModel" 70 (CN 8) (CT 8 36).2.1 (CT 8 36).2.2.1 ∈ TT := TT_m (tq4 (List.mem_of_getElem? (i := 222) rfl)) rfl
theorem fl_X8_73 : Cond.fieldLink "QuaternionNetModel" 73 (CN 8) (CT 8 37).2.1 (CT 8 37).2.2.1 ∈ TT := TT_m (tq4 (List.mem_of_getElem? (i := 223) rfl)) rfl
theorem fl_X8_328 : Cond.fieldLink "QuaternionNetModel" 328 (CN 8) (CT 8 38).2.1 (CT 8 38).2.2.1 ∈ TT := TT_m (tq4 (List.mem_of_getElem? (i := 224) rfl)) rfl
theorem fl_X8_76 : Cond.fieldLink "QuaternionNetModel" 76 (CN 8) (CT 8 39).2.1 (CT 8 39).2.2.1 ∈ TT := TT_m (tq4 (List.mem_of_getElem? (i := 225) rfl)) rfl
theorem fl_X8_79 : Cond.fieldLink "QuaternionNetModel" 79 (CN 8) (CT 8 40).2.1 (CT 8 40).2.2.1 ∈ TT := TT_m (tq4 (List.mem_of_getElem? (i := 226) rfl)) rfl
theorem fl_X8_82 : Cond.fieldLink "QuaternionNetModel" 82 (CN 8) (CT 8 41).2.1 (CT 8 41).2.2.1 ∈ TT := TT_m (tq4 (List.mem_of_getElem? (i := 227) rfl)) rfl
theorem fl_X8_85 : Cond.fieldLink "QuaternionNetModel" 85 (CN 8) (CT 8 42).2.1 (CT 8 42).2.2.1 ∈ TT := TT_m (tq4 (List.mem_of_getElem? (i := 228) rfl)) rfl
theorem fl_X8_88 : Cond.fieldLink "QuaternionNetModel" 88 (CN 8) (CT 8 43).2.1 (CT 8 43).2.2.1 ∈ TT := TT_m (tq4 (List.mem_of_getElem? (i := 229) rfl)) rfl
theorem fl_X8_91 : Cond.fieldLink "QuaternionNetModel" 91 (CN 8) (CT 8 44).2.1 (CT 8 44).2.2.1 ∈ TT := TT_m (tq4 (List.mem_of_getElem? (i := 230) rfl)) rfl
theorem fl_X8_95 : Cond.fieldLink "QuaternionNetModel" 95 (CN 8) (CT 8 45).2.1 (CT 8 45).2.2.1 ∈ TT := TT_m (tq4 (List.mem_of_getElem? (i := 231) rfl)) rfl
theorem fl_X8_98 : Cond.fieldLink "QuaternionNetModel" 98 (CN 8) (CT 8 46).2.1 (CT 8 46).2.2.1 ∈ TT := TT_m (tq4 (List.mem_of_getElem? (i := 232) rfl)) rfl
theorem fl_X8_101 : Cond.fieldLink "QuaternionNetModel" 101 (CN 8) (CT 8 47).2.1 (CT 8 47).2.2.1 ∈ TT := TT_m (tq4 (List.mem_of_getElem? (i := 233) rfl)) rfl
theorem fl_X8_104 : Cond.fieldLink "QuaternionNetModel" 104 (CN 8) (CT 8 48).2.1 (CT 8 48).2.2.1 ∈ TT := TT_m (tq4 (List.mem_of_getElem? (i := 234) rfl)) rfl
theorem ml_L_9 : Cond.methodLink "QuaternionNetLaw" 9 (mN 89) ∈ TT := TT_m (tq1 (List.mem_of_getElem? (i := 15) rfl)) rfl
theorem ml_X7_3 : Cond.methodLink "QuaternionNet" 3 Lib.objectInit ∈ TT := TT_m (tq1 (List.mem_of_getElem? (i := 18) rfl)) rfl
theorem ml_X7_11 : (("QuaternionNet", 11, mN 81, "QuaternionNet") : String × Nat × MethodName × String) ∈ nMw := List.mem_of_getElem? (i := 0) rfl
theorem ml_X6_1 : Cond.methodLink "QuaternionNet$Walks" 1 Lib.objectInit ∈ TT := TT_m (tq1 (List.mem_of_getElem? (i := 26) rfl)) rfl
theorem ml_X7_20 : (("QuaternionNet", 20, mN 27, "QuaternionNet") : String × Nat × MethodName × String) ∈ nMw := List.mem_of_getElem? (i := 1) rfl
theorem ml_X3_1 : Cond.methodLink "QuaternionNet$Quaternion" 1 Lib.objectInit ∈ TT := TT_m (tq1 (List.mem_of_getElem? (i := 52) rfl)) rfl
theorem ml_X7_27 : (("QuaternionNet", 27, mN 0, "QuaternionNet") : String × Nat × MethodName × String) ∈ nMw := List.mem_of_getElem? (i := 2) rfl
theorem ml_X0_3 : Cond.methodLink "QuaternionNet$Book" 3 Lib.objectInit ∈ TT := TT_m (tq1 (List.mem_of_getElem? (i := 75) rfl)) rfl
theorem ml_X0_11 : Cond.methodLink "QuaternionNet$Book" 11 (mN 28) ∈ TT := TT_m (tq1 (List.mem_of_getElem? (i := 76) rfl)) rfl
theorem ml_X3_7 : Cond.methodLink "QuaternionNet$Quaternion" 7 (mN 221) ∈ TT := TT_m (tq1 (List.mem_of_getElem? (i := 79) rfl)) rfl
theorem ml_X3_15 : Cond.methodLink "QuaternionNet$Quaternion" 15 (mN 27) ∈ TT := TT_m (tq1 (List.mem_of_getElem? (i := 84) rfl)) rfl
theorem ml_X7_51 : (("QuaternionNet", 51, mN 7, "QuaternionNet") : String × Nat × MethodName × String) ∈ nMw := List.mem_of_getElem? (i := 3) rfl
theorem ml_X1_3 : Cond.methodLink "QuaternionNet$Image" 3 Lib.objectInit ∈ TT := TT_m (tq1 (List.mem_of_getElem? (i := 104) rfl)) rfl
theorem ml_X1_9 : Cond.methodLink "QuaternionNet$Image" 9 (mN 28) ∈ TT := TT_m (tq1 (List.mem_of_getElem? (i := 105) rfl)) rfl
theorem ml_X1_23 : (("QuaternionNet$Image", 23, mN 0, "QuaternionNet") : String × Nat × MethodName × String) ∈ nMw := List.mem_of_getElem? (i := 4) rfl
theorem ml_X7_56 : Cond.methodLink "QuaternionNet" 56 (mN 28) ∈ TT := TT_m (tq1 (List.mem_of_getElem? (i := 133) rfl)) rfl
theorem ml_X7_60 : Cond.methodLink "QuaternionNet" 60 (mN 9) ∈ TT := TT_m (tq1 (List.mem_of_getElem? (i := 136) rfl)) rfl
theorem ml_X2_3 : Cond.methodLink "QuaternionNet$Network" 3 Lib.objectInit ∈ TT := TT_m (tq1 (List.mem_of_getElem? (i := 139) rfl)) rfl
theorem ml_X2_11 : (("QuaternionNet$Network", 11, mN 70, "QuaternionNet") : String × Nat × MethodName × String) ∈ nMw := List.mem_of_getElem? (i := 5) rfl
theorem ml_X5_1 : Cond.methodLink "QuaternionNet$Steps" 1 Lib.objectInit ∈ TT := TT_m (tq1 (List.mem_of_getElem? (i := 145) rfl)) rfl
theorem ml_X5_9 : Cond.methodLink "QuaternionNet$Steps" 9 (mN 28) ∈ TT := TT_m (tq1 (List.mem_of_getElem? (i := 146) rfl)) rfl
theorem ml_X5_26 : (("QuaternionNet$Steps", 26, mN 27, "QuaternionNet") : String × Nat × MethodName × String) ∈ nMw := List.mem_of_getElem? (i := 6) rfl
theorem ml_X2_18 : Cond.methodLink "QuaternionNet$Network" 18 (mN 28) ∈ TT := TT_m (tq1 (List.mem_of_getElem? (i := 175) rfl)) rfl
theorem ml_X2_44 : (("QuaternionNet$Network", 44, mN 27, "QuaternionNet") : String × Nat × MethodName × String) ∈ nMw := List.mem_of_getElem? (i := 7) rfl
theorem ml_X2_49 : Cond.methodLink "QuaternionNet$Network" 49 (mN 10) ∈ TT := TT_m (tq1 (List.mem_of_getElem? (i := 178) rfl)) rfl
theorem ml_X2_57 : Cond.methodLink "QuaternionNet$Network" 57 (mN 71) ∈ TT := TT_m (tq1 (List.mem_of_getElem? (i := 182) rfl)) rfl
theorem ml_X5_41 : Cond.methodLink "QuaternionNet$Steps" 41 (mN 72) ∈ TT := TT_m (tq1 (List.mem_of_getElem? (i := 186) rfl)) rfl
theorem ml_X5_56 : Cond.methodLink "QuaternionNet$Steps" 56 (mN 32) ∈ TT := TT_m (tq1 (List.mem_of_getElem? (i := 190) rfl)) rfl
theorem ml_X5_59 : Cond.methodLink "QuaternionNet$Steps" 59 (mN 38) ∈ TT := TT_m (tq1 (List.mem_of_getElem? (i := 194) rfl)) rfl
theorem ml_X5_45 : Cond.methodLink "QuaternionNet$Steps" 45 (mN 33) ∈ TT := TT_m (tq1 (List.mem_of_getElem? (i := 198) rfl)) rfl
theorem ml_X3_33 : Cond.methodLink "QuaternionNet$Quaternion" 33 (mN 32) ∈ TT := TT_m (tq1 (List.mem_of_getElem? (i := 202) rfl)) rfl
theorem ml_X5_49 : Cond.methodLink "QuaternionNet$Steps" 49 (mN 36) ∈ TT := TT_m (tq1 (List.mem_of_getElem? (i := 203) rfl)) rfl
theorem ml_X5_52 : Cond.methodLink "QuaternionNet$Steps" 52 (mN 73) ∈ TT := TT_m (tq1 (List.mem_of_getElem? (i := 207) rfl)) rfl
theorem ml_X5_63 : Cond.methodLink "QuaternionNet$Steps" 63 (mN 43) ∈ TT := TT_m (tq1 (List.mem_of_getElem? (i := 211) rfl)) rfl
theorem ml_X2_60 : Cond.methodLink "QuaternionNet$Network" 60 (mN 224) ∈ TT := TT_m (tq1 (List.mem_of_getElem? (i := 215) rfl)) rfl
theorem ml_X2_69 : Cond.methodLink "QuaternionNet$Network" 69 (mN 32) ∈ TT := TT_m (tq1 (List.mem_of_getElem? (i := 218) rfl)) rfl
theorem ml_X2_73 : Cond.methodLink "QuaternionNet$Network" 73 (mN 12) ∈ TT := TT_m (tq1 (List.mem_of_getElem? (i := 219) rfl)) rfl
theorem ml_X2_104 : Cond.methodLink "QuaternionNet$Network" 104 (mN 13) ∈ TT := TT_m (tq1 (List.mem_of_getElem? (i := 223) rfl)) rfl
theorem ml_X2_107 : Cond.methodLink "QuaternionNet$Network" 107 (mN 33) ∈ TT := TT_m (tq1 (List.mem_of_getElem? (i := 227) rfl)) rfl
theorem ml_X2_77 : Cond.methodLink "QuaternionNet$Network" 77 (mN 11) ∈ TT := TT_m (tq1 (List.mem_of_getElem? (i := 228) rfl)) rfl
theorem ml_X2_89 : Cond.methodLink "QuaternionNet$Network" 89 (mN 75) ∈ TT := TT_m (tq1 (List.mem_of_getElem? (i := 232) rfl)) rfl
theorem ml_X2_93 : Cond.methodLink "QuaternionNet$Network" 93 (mN 34) ∈ TT := TT_m (tq1 (List.mem_of_getElem? (i := 236) rfl)) rfl
theorem ml_X2_97 : Cond.methodLink "QuaternionNet$Network" 97 (mN 45) ∈ TT := TT_m (tq2 (List.mem_of_getElem? (i := 0) rfl)) rfl
theorem ml_X3_44 : Cond.methodLink "QuaternionNet$Quaternion" 44 (mN 220) ∈ TT := TT_m (tq2 (List.mem_of_getElem? (i := 4) rfl)) rfl
theorem ml_X3_47 : Cond.methodLink "QuaternionNet$Quaternion" 47 (mN 46) ∈ TT := TT_m (tq2 (List.mem_of_getElem? (i := 7) rfl)) rfl
theorem ml_X2_100 : Cond.methodLink "QuaternionNet$Network" 100 (mN 14) ∈ TT := TT_m (tq2 (List.mem_of_getElem? (i := 10) rfl)) rfl
theorem ml_X2_80 : Cond.methodLink "QuaternionNet$Network" 80 (mN 15) ∈ TT := TT_m (tq2 (List.mem_of_getElem? (i := 14) rfl)) rfl
theorem ml_X2_122 : Cond.methodLink "QuaternionNet$Network" 122 (mN 16) ∈ TT := TT_m (tq2 (List.mem_of_getElem? (i := 18) rfl)) rfl
theorem ml_X2_126 : Cond.methodLink "QuaternionNet$Network" 126 (mN 21) ∈ TT := TT_m (tq2 (List.mem_of_getElem? (i := 22) rfl)) rfl
theorem ml_X7_67 : Cond.methodLink "QuaternionNet" 67 (mN 47) ∈ TT := TT_m (tq2 (List.mem_of_getElem? (i := 68) rfl)) rfl
theorem ml_X4_3 : Cond.methodLink "QuaternionNet$Reader" 3 Lib.objectInit ∈ TT := TT_m (tq2 (List.mem_of_getElem? (i := 71) rfl)) rfl
theorem ml_X4_24 : Cond.methodLink "QuaternionNet$Reader" 24 (mN 28) ∈ TT := TT_m (tq2 (List.mem_of_getElem? (i := 72) rfl)) rfl
theorem ml_L_13 : Cond.methodLink "QuaternionNetLaw" 13 (mN 90) ∈ TT := TT_m (tq2 (List.mem_of_getElem? (i := 158) rfl)) rfl
theorem ml_X7_82 : Cond.methodLink "QuaternionNet" 82 (mN 96) ∈ TT := TT_m (tq2 (List.mem_of_getElem? (i := 162) rfl)) rfl
theorem ml_X7_86 : Cond.methodLink "QuaternionNet" 86 (mN 32) ∈ TT := TT_m (tq2 (List.mem_of_getElem? (i := 165) rfl)) rfl
theorem ml_X7_90 : Cond.methodLink "QuaternionNet" 90 (mN 39) ∈ TT := TT_m (tq2 (List.mem_of_getElem? (i := 166) rfl)) rfl
theorem ml_X3_36 : Cond.methodLink "QuaternionNet$Quaternion" 36 (mN 40) ∈ TT := TT_m (tq2 (List.mem_of_getElem? (i := 170) rfl)) rfl
theorem ml_X7_94 : Cond.methodLink "QuaternionNet" 94 (mN 33) ∈ TT := TT_m (tq2 (List.mem_of_getElem? (i := 173) rfl)) rfl
theorem ml_L_18 : Cond.methodLink "QuaternionNetLaw" 18 (mN 91) ∈ TT := TT_m (tq2 (List.mem_of_getElem? (i := 174) rfl)) rfl
theorem ml_X7_97 : Cond.methodLink "QuaternionNet" 97 (mN 30) ∈ TT := TT_m (tq2 (List.mem_of_getElem? (i := 178) rfl)) rfl
theorem ml_X7_102 : Cond.methodLink "QuaternionNet" 102 (mN 31) ∈ TT := TT_m (tq2 (List.mem_of_getElem? (i := 182) rfl)) rfl
theorem ml_L_23 : Cond.methodLink "QuaternionNetLaw" 23 (mN 92) ∈ TT := TT_m (tq2 (List.mem_of_getElem? (i := 186) rfl)) rfl
theorem ml_X7_106 : Cond.methodLink "QuaternionNet" 106 (mN 38) ∈ TT := TT_m (tq2 (List.mem_of_getElem? (i := 190) rfl)) rfl
theorem ml_L_28 : Cond.methodLink "QuaternionNetLaw" 28 (mN 93) ∈ TT := TT_m (tq2 (List.mem_of_getElem? (i := 191) rfl)) rfl
theorem ml_X7_110 : Cond.methodLink "QuaternionNet" 110 (mN 34) ∈ TT := TT_m (tq2 (List.mem_of_getElem? (i := 195) rfl)) rfl
theorem ml_X7_114 : Cond.methodLink "QuaternionNet" 114 (mN 97) ∈ TT := TT_m (tq2 (List.mem_of_getElem? (i := 196) rfl)) rfl
theorem ml_L_33 : Cond.methodLink "QuaternionNetLaw" 33 (mN 94) ∈ TT := TT_m (tq2 (List.mem_of_getElem? (i := 200) rfl)) rfl
theorem ml_X7_117 : Cond.methodLink "QuaternionNet" 117 (mN 35) ∈ TT := TT_m (tq2 (List.mem_of_getElem? (i := 204) rfl)) rfl
theorem ml_L_38 : Cond.methodLink "QuaternionNetLaw" 38 (mN 95) ∈ TT := TT_m (tq2 (List.mem_of_getElem? (i := 208) rfl)) rfl
theorem ml_X7_121 : Cond.methodLink "QuaternionNet" 121 (mN 36) ∈ TT := TT_m (tq2 (List.mem_of_getElem? (i := 212) rfl)) rfl
theorem ml_X7_124 : Cond.methodLink "QuaternionNet" 124 (mN 41) ∈ TT := TT_m (tq2 (List.mem_of_getElem? (i := 213) rfl)) rfl
theorem ml_L_43 : Cond.methodLink "QuaternionNetLaw" 43 (mN 98) ∈ TT := TT_m (tq2 (List.mem_of_getElem? (i := 217) rfl)) rfl
theorem ml_X7_136 : Cond.methodLink "QuaternionNet" 136 (mN 100) ∈ TT := TT_m (tq2 (List.mem_of_getElem? (i := 221) rfl)) rfl
theorem ml_X7_140 : Cond.methodLink "QuaternionNet" 140 (mN 10) ∈ TT := TT_m (tq2 (List.mem_of_getElem? (i := 225) rfl)) rfl
theorem ml_X7_143 : Cond.methodLink "QuaternionNet" 143 (mN 82) ∈ TT := TT_m (tq2 (List.mem_of_getElem? (i := 226) rfl)) rfl
theorem ml_L_47 : Cond.methodLink "QuaternionNetLaw" 47 (mN 99) ∈ TT := TT_m (tq2 (List.mem_of_getElem? (i := 230) rfl)) rfl
theorem ml_L_51 : Cond.methodLink "QuaternionNetLaw" 51 (mN 101) ∈ TT := TT_m (tq2 (List.mem_of_getElem? (i := 234) rfl)) rfl
theorem ml_X7_152 : Cond.methodLink "QuaternionNet" 152 (mN 74) ∈ TT := TT_m (tq2 (List.mem_of_getElem? (i := 238) rfl)) rfl
theorem ml_X7_155 : Cond.methodLink "QuaternionNet" 155 (mN 76) ∈ TT := TT_m (tq3 (List.mem_of_getElem? (i := 2) rfl)) rfl
theorem ml_X7_158 : Cond.methodLink "QuaternionNet" 158 (mN 75) ∈ TT := TT_m (tq3 (List.mem_of_getElem? (i := 6) rfl)) rfl
theorem ml_L_55 : Cond.methodLink "QuaternionNetLaw" 55 (mN 102) ∈ TT := TT_m (tq3 (List.mem_of_getElem? (i := 7) rfl)) rfl
theorem ml_X7_161 : Cond.methodLink "QuaternionNet" 161 (mN 17) ∈ TT := TT_m (tq3 (List.mem_of_getElem? (i := 11) rfl)) rfl
theorem ml_X7_162 : Cond.methodLink "QuaternionNet" 162 (mN 19) ∈ TT := TT_m (tq3 (List.mem_of_getElem? (i := 15) rfl)) rfl
theorem ml_X7_165 : Cond.methodLink "QuaternionNet" 165 (mN 18) ∈ TT := TT_m (tq3 (List.mem_of_getElem? (i := 19) rfl)) rfl
theorem ml_L_60 : Cond.methodLink "QuaternionNetLaw" 60 (mN 103) ∈ TT := TT_m (tq3 (List.mem_of_getElem? (i := 23) rfl)) rfl
theorem ml_X7_166 : Cond.methodLink "QuaternionNet" 166 (mN 44) ∈ TT := TT_m (tq3 (List.mem_of_getElem? (i := 27) rfl)) rfl
theorem ml_X3_40 : Cond.methodLink "QuaternionNet$Quaternion" 40 (mN 38) ∈ TT := TT_m (tq3 (List.mem_of_getElem? (i := 31) rfl)) rfl
theorem ml_X7_169 : Cond.methodLink "QuaternionNet" 169 (mN 20) ∈ TT := TT_m (tq3 (List.mem_of_getElem? (i := 32) rfl)) rfl
theorem ml_L_64 : Cond.methodLink "QuaternionNetLaw" 64 (mN 104) ∈ TT := TT_m (tq3 (List.mem_of_getElem? (i := 36) rfl)) rfl
theorem ml_X7_173 : Cond.methodLink "QuaternionNet" 173 (mN 21) ∈ TT := TT_m (tq3 (List.mem_of_getElem? (i := 40) rfl)) rfl
theorem ml_L_68 : Cond.methodLink "QuaternionNetLaw" 68 (mN 105) ∈ TT := TT_m (tq3 (List.mem_of_getElem? (i := 41) rfl)) rfl
theorem ml_X7_177 : Cond.methodLink "QuaternionNet" 177 (mN 23) ∈ TT := TT_m (tq3 (List.mem_of_getElem? (i := 45) rfl)) rfl
theorem ml_X2_130 : Cond.methodLink "QuaternionNet$Network" 130 (mN 36) ∈ TT := TT_m (tq3 (List.mem_of_getElem? (i := 49) rfl)) rfl
theorem ml_L_72 : Cond.methodLink "QuaternionNetLaw" 72 (mN 106) ∈ TT := TT_m (tq3 (List.mem_of_getElem? (i := 50) rfl)) rfl
theorem ml_X7_180 : Cond.methodLink "QuaternionNet" 180 (mN 24) ∈ TT := TT_m (tq3 (List.mem_of_getElem? (i := 54) rfl)) rfl
theorem ml_X7_183 : Cond.methodLink "QuaternionNet" 183 (mN 25) ∈ TT := TT_m (tq3 (List.mem_of_getElem? (i := 58) rfl)) rfl
theorem ml_L_76 : Cond.methodLink "QuaternionNetLaw" 76 (mN 107) ∈ TT := TT_m (tq3 (List.mem_of_getElem? (i := 62) rfl)) rfl
theorem ml_X7_186 : Cond.methodLink "QuaternionNet" 186 (mN 84) ∈ TT := TT_m (tq3 (List.mem_of_getElem? (i := 66) rfl)) rfl
theorem ml_X6_31 : Cond.methodLink "QuaternionNet$Walks" 31 (mN 85) ∈ TT := TT_m (tq3 (List.mem_of_getElem? (i := 70) rfl)) rfl
theorem ml_X6_35 : Cond.methodLink "QuaternionNet$Walks" 35 (mN 86) ∈ TT := TT_m (tq3 (List.mem_of_getElem? (i := 74) rfl)) rfl
theorem ml_X6_39 : Cond.methodLink "QuaternionNet$Walks" 39 (mN 223) ∈ TT := TT_m (tq3 (List.mem_of_getElem? (i := 78) rfl)) rfl
theorem ml_X6_44 : Cond.methodLink "QuaternionNet$Walks" 44 (mN 87) ∈ TT := TT_m (tq3 (List.mem_of_getElem? (i := 81) rfl)) rfl
theorem ml_X6_48 : Cond.methodLink "QuaternionNet$Walks" 48 (mN 88) ∈ TT := TT_m (tq3 (List.mem_of_getElem? (i := 84) rfl)) rfl
theorem ml_X6_63 : Cond.methodLink "QuaternionNet$Walks" 63 (mN 21) ∈ TT := TT_m (tq3 (List.mem_of_getElem? (i := 88) rfl)) rfl
theorem ml_L_81 : Cond.methodLink "QuaternionNetLaw" 81 (mN 108) ∈ TT := TT_m (tq3 (List.mem_of_getElem? (i := 89) rfl)) rfl
theorem ml_X7_190 : Cond.methodLink "QuaternionNet" 190 (mN 83) ∈ TT := TT_m (tq3 (List.mem_of_getElem? (i := 93) rfl)) rfl
theorem ml_L_85 : Cond.methodLink "QuaternionNetLaw" 85 (mN 109) ∈ TT := TT_m (tq3 (List.mem_of_getElem? (i := 97) rfl)) rfl
theorem ml_X7_193 : Cond.methodLink "QuaternionNet" 193 (mN 113) ∈ TT := TT_m (tq3 (List.mem_of_getElem? (i := 101) rfl)) rfl
theorem ml_X7_199 : Cond.methodLink "QuaternionNet" 199 (mN 110) ∈ TT := TT_m (tq3 (List.mem_of_getElem? (i := 105) rfl)) rfl
theorem ml_X7_202 : Cond.methodLink "QuaternionNet" 202 (mN 111) ∈ TT := TT_m (tq3 (List.mem_of_getElem? (i := 108) rfl)) rfl
theorem ml_L_89 : Cond.methodLink "QuaternionNetLaw" 89 (mN 112) ∈ TT := TT_m (tq3 (List.mem_of_getElem? (i := 111) rfl)) rfl
theorem ml_X7_215 : Cond.methodLink "QuaternionNet" 215 (mN 114) ∈ TT := TT_m (tq3 (List.mem_of_getElem? (i := 116) rfl)) rfl
theorem ml_X7_220 : Cond.methodLink "QuaternionNet" 220 (mN 115) ∈ TT := TT_m (tq3 (List.mem_of_getElem? (i := 120) rfl)) rfl
theorem ml_L_93 : Cond.methodLink "QuaternionNetLaw" 93 (mN 116) ∈ TT := TT_m (tq3 (List.mem_of_getElem? (i := 123) rfl)) rfl
theorem ml_X7_224 : Cond.methodLink "QuaternionNet" 224 (mN 22) ∈ TT := TT_m (tq3 (List.mem_of_getElem? (i := 127) rfl)) rfl
theorem ml_X7_227 : Cond.methodLink "QuaternionNet" 227 (mN 26) ∈ TT := TT_m (tq3 (List.mem_of_getElem? (i := 131) rfl)) rfl
theorem ml_L_97 : Cond.methodLink "QuaternionNetLaw" 97 (mN 117) ∈ TT := TT_m (tq3 (List.mem_of_getElem? (i := 135) rfl)) rfl
theorem ml_X7_230 : Cond.methodLink "QuaternionNet" 230 (mN 78) ∈ TT := TT_m (tq3 (List.mem_of_getElem? (i := 139) rfl)) rfl
theorem ml_X5_67 : Cond.methodLink "QuaternionNet$Steps" 67 (mN 79) ∈ TT := TT_m (tq3 (List.mem_of_getElem? (i := 143) rfl)) rfl
theorem ml_X5_71 : Cond.methodLink "QuaternionNet$Steps" 71 (mN 41) ∈ TT := TT_m (tq3 (List.mem_of_getElem? (i := 147) rfl)) rfl
theorem ml_X5_75 : Cond.methodLink "QuaternionNet$Steps" 75 (mN 42) ∈ TT := TT_m (tq3 (List.mem_of_getElem? (i := 148) rfl)) rfl
theorem ml_X5_79 : Cond.methodLink "QuaternionNet$Steps" 79 (mN 80) ∈ TT := TT_m (tq3 (List.mem_of_getElem? (i := 152) rfl)) rfl
theorem ml_X5_82 : Cond.methodLink "QuaternionNet$Steps" 82 (mN 34) ∈ TT := TT_m (tq3 (List.mem_of_getElem? (i := 156) rfl)) rfl
theorem ml_X5_86 : Cond.methodLink "QuaternionNet$Steps" 86 (mN 37) ∈ TT := TT_m (tq3 (List.mem_of_getElem? (i := 157) rfl)) rfl
theorem ml_X7_233 : Cond.methodLink "QuaternionNet" 233 (mN 77) ∈ TT := TT_m (tq3 (List.mem_of_getElem? (i := 161) rfl)) rfl
theorem ml_L_101 : Cond.methodLink "QuaternionNetLaw" 101 (mN 118) ∈ TT := TT_m (tq3 (List.mem_of_getElem? (i := 165) rfl)) rfl
theorem ml_X7_236 : Cond.methodLink "QuaternionNet" 236 (mN 119) ∈ TT := TT_m (tq3 (List.mem_of_getElem? (i := 169) rfl)) rfl
theorem ml_X7_240 : Cond.methodLink "QuaternionNet" 240 arraycopyName ∈ TT := TT_m (tq3 (List.mem_of_getElem? (i := 173) rfl)) rfl
theorem ml_L_105 : Cond.methodLink "QuaternionNetLaw" 105 (mN 120) ∈ TT := TT_m (tq3 (List.mem_of_getElem? (i := 176) rfl)) rfl
theorem ml_L_109 : Cond.methodLink "QuaternionNetLaw" 109 (mN 121) ∈ TT := TT_m (tq3 (List.mem_of_getElem? (i := 180) rfl)) rfl
theorem ml_X7_246 : Cond.methodLink "QuaternionNet" 246 (mN 126) ∈ TT := TT_m (tq3 (List.mem_of_getElem? (i := 184) rfl)) rfl
theorem ml_X7_255 : Cond.methodLink "QuaternionNet" 255 (mN 125) ∈ TT := TT_m (tq3 (List.mem_of_getElem? (i := 188) rfl)) rfl
theorem ml_L_113 : Cond.methodLink "QuaternionNetLaw" 113 (mN 122) ∈ TT := TT_m (tq3 (List.mem_of_getElem? (i := 191) rfl)) rfl
theorem ml_X7_249 : Cond.methodLink "QuaternionNet" 249 (mN 224) ∈ TT := TT_m (tq3 (List.mem_of_getElem? (i := 195) rfl)) rfl
theorem ml_L_117 : Cond.methodLink "QuaternionNetLaw" 117 (mN 123) ∈ TT := TT_m (tq3 (List.mem_of_getElem? (i := 196) rfl)) rfl
theorem ml_L_121 : Cond.methodLink "QuaternionNetLaw" 121 (mN 124) ∈ TT := TT_m (tq3 (List.mem_of_getElem? (i := 200) rfl)) rfl
theorem ml_X7_258 : Cond.methodLink "QuaternionNet" 258 (mN 222) ∈ TT := TT_m (tq3 (List.mem_of_getElem? (i := 204) rfl)) rfl
theorem ml_L_125 : Cond.methodLink "QuaternionNetLaw" 125 (mN 127) ∈ TT := TT_m (tq3 (List.mem_of_getElem? (i := 207) rfl)) rfl
theorem ml_X7_263 : Cond.methodLink "QuaternionNet" 263 (mN 4) ∈ TT := TT_m (tq3 (List.mem_of_getElem? (i := 211) rfl)) rfl
theorem ml_X0_33 : Cond.methodLink "QuaternionNet$Book" 33 (mN 1) ∈ TT := TT_m (tq3 (List.mem_of_getElem? (i := 215) rfl)) rfl
theorem ml_X0_29 : Cond.methodLink "QuaternionNet$Book" 29 (mN 43) ∈ TT := TT_m (tq3 (List.mem_of_getElem? (i := 219) rfl)) rfl
theorem ml_X0_37 : Cond.methodLink "QuaternionNet$Book" 37 (mN 33) ∈ TT := TT_m (tq3 (List.mem_of_getElem? (i := 220) rfl)) rfl
theorem ml_L_129 : Cond.methodLink "QuaternionNetLaw" 129 (mN 128) ∈ TT := TT_m (tq3 (List.mem_of_getElem? (i := 221) rfl)) rfl
theorem ml_X7_267 : Cond.methodLink "QuaternionNet" 267 (mN 3) ∈ TT := TT_m (tq3 (List.mem_of_getElem? (i := 225) rfl)) rfl
theorem ml_X7_270 : Cond.methodLink "QuaternionNet" 270 (mN 2) ∈ TT := TT_m (tq3 (List.mem_of_getElem? (i := 229) rfl)) rfl
theorem ml_L_133 : Cond.methodLink "QuaternionNetLaw" 133 (mN 129) ∈ TT := TT_m (tq3 (List.mem_of_getElem? (i := 233) rfl)) rfl
theorem ml_X7_271 : Cond.methodLink "QuaternionNet" 271 (mN 5) ∈ TT := TT_m (tq3 (List.mem_of_getElem? (i := 237) rfl)) rfl
theorem ml_L_137 : Cond.methodLink "QuaternionNetLaw" 137 (mN 130) ∈ TT := TT_m (tq4 (List.mem_of_getElem? (i := 1) rfl)) rfl
theorem ml_X7_274 : Cond.methodLink "QuaternionNet" 274 (mN 48) ∈ TT := TT_m (tq4 (List.mem_of_getElem? (i := 5) rfl)) rfl
theorem ml_L_141 : Cond.methodLink "QuaternionNetLaw" 141 (mN 131) ∈ TT := TT_m (tq4 (List.mem_of_getElem? (i := 9) rfl)) rfl
theorem ml_X7_277 : Cond.methodLink "QuaternionNet" 277 (mN 49) ∈ TT := TT_m (tq4 (List.mem_of_getElem? (i := 13) rfl)) rfl
theorem ml_L_145 : Cond.methodLink "QuaternionNetLaw" 145 (mN 132) ∈ TT := TT_m (tq4 (List.mem_of_getElem? (i := 17) rfl)) rfl
theorem ml_X7_280 : Cond.methodLink "QuaternionNet" 280 (mN 52) ∈ TT := TT_m (tq4 (List.mem_of_getElem? (i := 21) rfl)) rfl
theorem ml_X4_60 : Cond.methodLink "QuaternionNet$Reader" 60 (mN 53) ∈ TT := TT_m (tq4 (List.mem_of_getElem? (i := 25) rfl)) rfl
theorem ml_X4_75 : Cond.methodLink "QuaternionNet$Reader" 75 (mN 54) ∈ TT := TT_m (tq4 (List.mem_of_getElem? (i := 29) rfl)) rfl
theorem ml_X4_86 : Cond.methodLink "QuaternionNet$Reader" 86 (mN 55) ∈ TT := TT_m (tq4 (List.mem_of_getElem? (i := 33) rfl)) rfl
theorem ml_X4_93 : Cond.methodLink "QuaternionNet$Reader" 93 (mN 56) ∈ TT := TT_m (tq4 (List.mem_of_getElem? (i := 37) rfl)) rfl
theorem ml_X4_99 : Cond.methodLink "QuaternionNet$Reader" 99 (mN 62) ∈ TT := TT_m (tq4 (List.mem_of_getElem? (i := 41) rfl)) rfl
theorem ml_X4_102 : Cond.methodLink "QuaternionNet$Reader" 102 (mN 57) ∈ TT := TT_m (tq4 (List.mem_of_getElem? (i := 45) rfl)) rfl
theorem ml_X4_64 : Cond.methodLink "QuaternionNet$Reader" 64 (mN 67) ∈ TT := TT_m (tq4 (List.mem_of_getElem? (i := 49) rfl)) rfl
theorem ml_X4_143 : Cond.methodLink "QuaternionNet$Reader" 143 (mN 68) ∈ TT := TT_m (tq4 (List.mem_of_getElem? (i := 53) rfl)) rfl
theorem ml_X4_149 : Cond.methodLink "QuaternionNet$Reader" 149 (mN 69) ∈ TT := TT_m (tq4 (List.mem_of_getElem? (i := 57) rfl)) rfl
theorem ml_X4_71 : Cond.methodLink "QuaternionNet$Reader" 71 (mN 33) ∈ TT := TT_m (tq4 (List.mem_of_getElem? (i := 61) rfl)) rfl
theorem ml_X4_105 : Cond.methodLink "QuaternionNet$Reader" 105 (mN 58) ∈ TT := TT_m (tq4 (List.mem_of_getElem? (i := 62) rfl)) rfl
theorem ml_X4_114 : Cond.methodLink "QuaternionNet$Reader" 114 (mN 63) ∈ TT := TT_m (tq4 (List.mem_of_getElem? (i := 66) rfl)) rfl
theorem ml_X4_118 : Cond.methodLink "QuaternionNet$Reader" 118 (mN 64) ∈ TT := TT_m (tq4 (List.mem_of_getElem? (i := 70) rfl)) rfl
theorem ml_X4_108 : Cond.methodLink "QuaternionNet$Reader" 108 (mN 59) ∈ TT := TT_m (tq4 (List.mem_of_getElem? (i := 74) rfl)) rfl
theorem ml_X4_121 : Cond.methodLink "QuaternionNet$Reader" 121 (mN 61) ∈ TT := TT_m (tq4 (List.mem_of_getElem? (i := 78) rfl)) rfl
theorem ml_X4_125 : Cond.methodLink "QuaternionNet$Reader" 125 (mN 74) ∈ TT := TT_m (tq4 (List.mem_of_getElem? (i := 82) rfl)) rfl
theorem ml_X4_130 : Cond.methodLink "QuaternionNet$Reader" 130 (mN 75) ∈ TT := TT_m (tq4 (List.mem_of_getElem? (i := 83) rfl)) rfl
theorem ml_X4_133 : Cond.methodLink "QuaternionNet$Reader" 133 (mN 66) ∈ TT := TT_m (tq4 (List.mem_of_getElem? (i := 84) rfl)) rfl
theorem ml_X4_111 : Cond.methodLink "QuaternionNet$Reader" 111 (mN 60) ∈ TT := TT_m (tq4 (List.mem_of_getElem? (i := 88) rfl)) rfl
theorem ml_X4_137 : Cond.methodLink "QuaternionNet$Reader" 137 (mN 32) ∈ TT := TT_m (tq4 (List.mem_of_getElem? (i := 92) rfl)) rfl
theorem ml_X4_96 : Cond.methodLink "QuaternionNet$Reader" 96 (mN 36) ∈ TT := TT_m (tq4 (List.mem_of_getElem? (i := 93) rfl)) rfl
theorem ml_X4_89 : Cond.methodLink "QuaternionNet$Reader" 89 (mN 34) ∈ TT := TT_m (tq4 (List.mem_of_getElem? (i := 94) rfl)) rfl
theorem ml_X4_82 : Cond.methodLink "QuaternionNet$Reader" 82 (mN 65) ∈ TT := TT_m (tq4 (List.mem_of_getElem? (i := 95) rfl)) rfl
theorem ml_X4_140 : Cond.methodLink "QuaternionNet$Reader" 140 (mN 39) ∈ TT := TT_m (tq4 (List.mem_of_getElem? (i := 99) rfl)) rfl
theorem ml_X4_78 : Cond.methodLink "QuaternionNet$Reader" 78 (mN 35) ∈ TT := TT_m (tq4 (List.mem_of_getElem? (i := 100) rfl)) rfl
theorem ml_X4_67 : Cond.methodLink "QuaternionNet$Reader" 67 (mN 49) ∈ TT := TT_m (tq4 (List.mem_of_getElem? (i := 101) rfl)) rfl
theorem ml_L_149 : Cond.methodLink "QuaternionNetLaw" 149 (mN 133) ∈ TT := TT_m (tq4 (List.mem_of_getElem? (i := 102) rfl)) rfl
theorem ml_X7_286 : Cond.methodLink "QuaternionNet" 286 (mN 50) ∈ TT := TT_m (tq4 (List.mem_of_getElem? (i := 106) rfl)) rfl
theorem ml_X7_289 : Cond.methodLink "QuaternionNet" 289 (mN 51) ∈ TT := TT_m (tq4 (List.mem_of_getElem? (i := 110) rfl)) rfl
theorem ml_L_153 : Cond.methodLink "QuaternionNetLaw" 153 (mN 134) ∈ TT := TT_m (tq4 (List.mem_of_getElem? (i := 114) rfl)) rfl
theorem ml_L_157 : Cond.methodLink "QuaternionNetLaw" 157 (mN 135) ∈ TT := TT_m (tq4 (List.mem_of_getElem? (i := 118) rfl)) rfl
theorem ml_L_161 : Cond.methodLink "QuaternionNetLaw" 161 (mN 136) ∈ TT := TT_m (tq4 (List.mem_of_getElem? (i := 122) rfl)) rfl
theorem ml_L_165 : Cond.methodLink "QuaternionNetLaw" 165 (mN 137) ∈ TT := TT_m (tq4 (List.mem_of_getElem? (i := 126) rfl)) rfl
theorem ml_X7_292 : Cond.methodLink "QuaternionNet" 292 (mN 8) ∈ TT := TT_m (tq4 (List.mem_of_getElem? (i := 130) rfl)) rfl
theorem ml_X7_297 : Cond.methodLink "QuaternionNet" 297 (mN 29) ∈ TT := TT_m (tq4 (List.mem_of_getElem? (i := 134) rfl)) rfl
theorem ml_X3_16 : Cond.methodLink "QuaternionNet$Quaternion" 16 (mN 33) ∈ TT := TT_m (tq4 (List.mem_of_getElem? (i := 137) rfl)) rfl
theorem ml_X7_302 : Cond.methodLink "QuaternionNet" 302 (mN 6) ∈ TT := TT_m (tq4 (List.mem_of_getElem? (i := 138) rfl)) rfl
theorem ml_X0_41 : Cond.methodLink "QuaternionNet$Book" 41 (mN 29) ∈ TT := TT_m (tq4 (List.mem_of_getElem? (i := 142) rfl)) rfl
theorem ml_X0_45 : Cond.methodLink "QuaternionNet$Book" 45 arraycopyName ∈ TT := TT_m (tq4 (List.mem_of_getElem? (i := 143) rfl)) rfl
theorem ml_L_169 : Cond.methodLink "QuaternionNetLaw" 169 (mN 138) ∈ TT := TT_m (tq4 (List.mem_of_getElem? (i := 144) rfl)) rfl
theorem ml_L_173 : Cond.methodLink "QuaternionNetLaw" 173 (mN 139) ∈ TT := TT_m (tq4 (List.mem_of_getElem? (i := 148) rfl)) rfl
theorem ml_L_12 : Cond.methodLink "QuaternionNetLaw" 12 (mN 140) ∈ TT := TT_m (tq4 (List.mem_of_getElem? (i := 154) rfl)) rfl
theorem ml_X8_3 : Cond.methodLink "QuaternionNetModel" 3 Lib.objectInit ∈ TT := TT_m (tq4 (List.mem_of_getElem? (i := 157) rfl)) rfl
theorem ml_X8_107 : Cond.methodLink "QuaternionNetModel" 107 (mN 154) ∈ TT := TT_m (tq4 (List.mem_of_getElem? (i := 158) rfl)) rfl
theorem ml_X8_132 : Cond.methodLink "QuaternionNetModel" 132 (mN 153) ∈ TT := TT_m (tq4 (List.mem_of_getElem? (i := 162) rfl)) rfl
theorem ml_X8_135 : Cond.methodLink "QuaternionNetModel" 135 (mN 152) ∈ TT := TT_m (tq4 (List.mem_of_getElem? (i := 166) rfl)) rfl
theorem ml_X8_139 : Cond.methodLink "QuaternionNetModel" 139 (mN 146) ∈ TT := TT_m (tq4 (List.mem_of_getElem? (i := 170) rfl)) rfl
theorem ml_X8_143 : Cond.methodLink "QuaternionNetModel" 143 (mN 151) ∈ TT := TT_m (tq4 (List.mem_of_getElem? (i := 174) rfl)) rfl
theorem ml_X8_128 : Cond.methodLink "QuaternionNetModel" 128 (mN 150) ∈ TT := TT_m (tq4 (List.mem_of_getElem? (i := 178) rfl)) rfl
theorem ml_X8_147 : Cond.methodLink "QuaternionNetModel" 147 (mN 156) ∈ TT := TT_m (tq4 (List.mem_of_getElem? (i := 182) rfl)) rfl
theorem ml_L_17 : Cond.methodLink "QuaternionNetLaw" 17 (mN 158) ∈ TT := TT_m (tq5 (List.mem_of_getElem? (i := 94) rfl)) rfl
theorem ml_X8_160 : Cond.methodLink "QuaternionNetModel" 160 (mN 142) ∈ TT := TT_m (tq5 (List.mem_of_getElem? (i := 98) rfl)) rfl
theorem ml_X8_112 : Cond.methodLink "QuaternionNetModel" 112 (mN 141) ∈ TT := TT_m (tq5 (List.mem_of_getElem? (i := 102) rfl)) rfl
theorem ml_X8_164 : Cond.methodLink "QuaternionNetModel" 164 (mN 147) ∈ TT := TT_m (tq5 (List.mem_of_getElem? (i := 105) rfl)) rfl
theorem ml_X8_168 : Cond.methodLink "QuaternionNetModel" 168 (mN 157) ∈ TT := TT_m (tq5 (List.mem_of_getElem? (i := 111) rfl)) rfl
theorem ml_L_22 : Cond.methodLink "QuaternionNetLaw" 22 (mN 159) ∈ TT := TT_m (tq5 (List.mem_of_getElem? (i := 115) rfl)) rfl
theorem ml_L_27 : Cond.methodLink "QuaternionNetLaw" 27 (mN 160) ∈ TT := TT_m (tq5 (List.mem_of_getElem? (i := 121) rfl)) rfl
theorem ml_X8_175 : Cond.methodLink "QuaternionNetModel" 175 (mN 149) ∈ TT := TT_m (tq5 (List.mem_of_getElem? (i := 125) rfl)) rfl
theorem ml_L_32 : Cond.methodLink "QuaternionNetLaw" 32 (mN 161) ∈ TT := TT_m (tq5 (List.mem_of_getElem? (i := 128) rfl)) rfl
theorem ml_L_37 : Cond.methodLink "QuaternionNetLaw" 37 (mN 162) ∈ TT := TT_m (tq5 (List.mem_of_getElem? (i := 132) rfl)) rfl
theorem ml_L_42 : Cond.methodLink "QuaternionNetLaw" 42 (mN 163) ∈ TT := TT_m (tq5 (List.mem_of_getElem? (i := 136) rfl)) rfl
theorem ml_X8_178 : Cond.methodLink "QuaternionNetModel" 178 (mN 148) ∈ TT := TT_m (tq5 (List.mem_of_getElem? (i := 140) rfl)) rfl
theorem ml_L_46 : Cond.methodLink "QuaternionNetLaw" 46 (mN 164) ∈ TT := TT_m (tq5 (List.mem_of_getElem? (i := 143) rfl)) rfl
theorem ml_X8_182 : Cond.methodLink "QuaternionNetModel" 182 (mN 155) ∈ TT := TT_m (tq5 (List.mem_of_getElem? (i := 147) rfl)) rfl
theorem ml_L_50 : Cond.methodLink "QuaternionNetLaw" 50 (mN 165) ∈ TT := TT_m (tq5 (List.mem_of_getElem? (i := 151) rfl)) rfl
theorem ml_L_54 : Cond.methodLink "QuaternionNetLaw" 54 (mN 166) ∈ TT := TT_m (tq5 (List.mem_of_getElem? (i := 155) rfl)) rfl
theorem ml_X8_185 : Cond.methodLink "QuaternionNetModel" 185 (mN 143) ∈ TT := TT_m (tq5 (List.mem_of_getElem? (i := 159) rfl)) rfl
theorem ml_L_59 : Cond.methodLink "QuaternionNetLaw" 59 (mN 167) ∈ TT := TT_m (tq5 (List.mem_of_getElem? (i := 164) rfl)) rfl
theorem ml_X8_190 : Cond.methodLink "QuaternionNetModel" 190 (mN 144) ∈ TT := TT_m (tq5 (List.mem_of_getElem? (i := 168) rfl)) rfl
theorem ml_L_63 : Cond.methodLink "QuaternionNetLaw" 63 (mN 168) ∈ TT := TT_m (tq5 (List.mem_of_getElem? (i := 172) rfl)) rfl
theorem ml_L_67 : Cond.methodLink "QuaternionNetLaw" 67 (mN 169) ∈ TT := TT_m (tq5 (List.mem_of_getElem? (i := 176) rfl)) rfl
theorem ml_L_71 : Cond.methodLink "QuaternionNetLaw" 71 (mN 170) ∈ TT := TT_m (tq5 (List.mem_of_getElem? (i := 180) rfl)) rfl
theorem ml_L_75 : Cond.methodLink "QuaternionNetLaw" 75 (mN 171) ∈ TT := TT_m (tq5 (List.mem_of_getElem? (i := 184) rfl)) rfl
theorem ml_X8_193 : Cond.methodLink "QuaternionNetModel" 193 (mN 221) ∈ TT := TT_m (tq5 (List.mem_of_getElem? (i := 188) rfl)) rfl
theorem ml_L_80 : Cond.methodLink "QuaternionNetLaw" 80 (mN 174) ∈ TT := TT_m (tq5 (List.mem_of_getElem? (i := 189) rfl)) rfl
theorem ml_X8_203 : Cond.methodLink "QuaternionNetModel" 203 (mN 173) ∈ TT := TT_m (tq5 (List.mem_of_getElem? (i := 193) rfl)) rfl
theorem ml_X8_199 : Cond.methodLink "QuaternionNetModel" 199 (mN 172) ∈ TT := TT_m (tq5 (List.mem_of_getElem? (i := 197) rfl)) rfl
theorem ml_L_84 : Cond.methodLink "QuaternionNetLaw" 84 (mN 175) ∈ TT := TT_m (tq5 (List.mem_of_getElem? (i := 201) rfl)) rfl
theorem ml_L_88 : Cond.methodLink "QuaternionNetLaw" 88 (mN 176) ∈ TT := TT_m (tq5 (List.mem_of_getElem? (i := 206) rfl)) rfl
theorem ml_L_92 : Cond.methodLink "QuaternionNetLaw" 92 (mN 178) ∈ TT := TT_m (tq5 (List.mem_of_getElem? (i := 210) rfl)) rfl
theorem ml_X8_211 : Cond.methodLink "QuaternionNetModel" 211 (mN 177) ∈ TT := TT_m (tq5 (List.mem_of_getElem? (i := 215) rfl)) rfl
theorem ml_X8_215 : Cond.methodLink "QuaternionNetModel" 215 (mN 179) ∈ TT := TT_m (tq5 (List.mem_of_getElem? (i := 219) rfl)) rfl
theorem ml_L_96 : Cond.methodLink "QuaternionNetLaw" 96 (mN 181) ∈ TT := TT_m (tq5 (List.mem_of_getElem? (i := 222) rfl)) rfl
theorem ml_X8_219 : Cond.methodLink "QuaternionNetModel" 219 (mN 180) ∈ TT := TT_m (tq5 (List.mem_of_getElem? (i := 226) rfl)) rfl
theorem ml_L_100 : Cond.methodLink "QuaternionNetLaw" 100 (mN 184) ∈ TT := TT_m (tq5 (List.mem_of_getElem? (i := 230) rfl)) rfl
theorem ml_X8_225 : Cond.methodLink "QuaternionNetModel" 225 (mN 182) ∈ TT := TT_m (tq5 (List.mem_of_getElem? (i := 234) rfl)) rfl
theorem ml_X8_222 : Cond.methodLink "QuaternionNetModel" 222 (mN 183) ∈ TT := TT_m (tq5 (List.mem_of_getElem? (i := 238) rfl)) rfl
theorem ml_L_104 : Cond.methodLink "QuaternionNetLaw" 104 (mN 185) ∈ TT := TT_m (tq6 (List.mem_of_getElem? (i := 2) rfl)) rfl
theorem ml_L_108 : Cond.methodLink "QuaternionNetLaw" 108 (mN 186) ∈ TT := TT_m (tq6 (List.mem_of_getElem? (i := 6) rfl)) rfl
theorem ml_L_112 : Cond.methodLink "QuaternionNetLaw" 112 (mN 188) ∈ TT := TT_m (tq6 (List.mem_of_getElem? (i := 10) rfl)) rfl
theorem ml_X8_231 : Cond.methodLink "QuaternionNetModel" 231 (mN 187) ∈ TT := TT_m (tq6 (List.mem_of_getElem? (i := 14) rfl)) rfl
theorem ml_X8_228 : Cond.methodLink "QuaternionNetModel" 228 (mN 145) ∈ TT := TT_m (tq6 (List.mem_of_getElem? (i := 18) rfl)) rfl
theorem ml_L_116 : Cond.methodLink "QuaternionNetLaw" 116 (mN 189) ∈ TT := TT_m (tq6 (List.mem_of_getElem? (i := 21) rfl)) rfl
theorem ml_L_120 : Cond.methodLink "QuaternionNetLaw" 120 (mN 190) ∈ TT := TT_m (tq6 (List.mem_of_getElem? (i := 25) rfl)) rfl
theorem ml_L_124 : Cond.methodLink "QuaternionNetLaw" 124 (mN 191) ∈ TT := TT_m (tq6 (List.mem_of_getElem? (i := 29) rfl)) rfl
theorem ml_L_128 : Cond.methodLink "QuaternionNetLaw" 128 (mN 193) ∈ TT := TT_m (tq6 (List.mem_of_getElem? (i := 33) rfl)) rfl
theorem ml_X8_237 : Cond.methodLink "QuaternionNetModel" 237 (mN 192) ∈ TT := TT_m (tq6 (List.mem_of_getElem? (i := 37) rfl)) rfl
theorem ml_L_132 : Cond.methodLink "QuaternionNetLaw" 132 (mN 194) ∈ TT := TT_m (tq6 (List.mem_of_getElem? (i := 41) rfl)) rfl
theorem ml_L_136 : Cond.methodLink "QuaternionNetLaw" 136 (mN 195) ∈ TT := TT_m (tq6 (List.mem_of_getElem? (i := 45) rfl)) rfl
theorem ml_L_140 : Cond.methodLink "QuaternionNetLaw" 140 (mN 196) ∈ TT := TT_m (tq6 (List.mem_of_getElem? (i := 49) rfl)) rfl
theorem ml_L_144 : Cond.methodLink "QuaternionNetLaw" 144 (mN 197) ∈ TT := TT_m (tq6 (List.mem_of_getElem? (i := 55) rfl)) rfl
theorem ml_L_148 : Cond.methodLink "QuaternionNetLaw" 148 (mN 212) ∈ TT := TT_m (tq6 (List.mem_of_getElem? (i := 59) rfl)) rfl
theorem ml_X8_270 : Cond.methodLink "QuaternionNetModel" 270 (mN 200) ∈ TT := TT_m (tq6 (List.mem_of_getElem? (i := 63) rfl)) rfl
theorem ml_X8_258 : Cond.methodLink "QuaternionNetModel" 258 (mN 201) ∈ TT := TT_m (tq6 (List.mem_of_getElem? (i := 67) rfl)) rfl
theorem ml_X8_261 : Cond.methodLink "QuaternionNetModel" 261 (mN 204) ∈ TT := TT_m (tq6 (List.mem_of_getElem? (i := 71) rfl)) rfl
theorem ml_X8_250 : Cond.methodLink "QuaternionNetModel" 250 (mN 198) ∈ TT := TT_m (tq6 (List.mem_of_getElem? (i := 75) rfl)) rfl
theorem ml_X8_273 : Cond.methodLink "QuaternionNetModel" 273 (mN 202) ∈ TT := TT_m (tq6 (List.mem_of_getElem? (i := 79) rfl)) rfl
theorem ml_X8_278 : Cond.methodLink "QuaternionNetModel" 278 (mN 203) ∈ TT := TT_m (tq6 (List.mem_of_getElem? (i := 85) rfl)) rfl
theorem ml_X8_264 : Cond.methodLink "QuaternionNetModel" 264 (mN 199) ∈ TT := TT_m (tq6 (List.mem_of_getElem? (i := 89) rfl)) rfl
theorem ml_X8_313 : Cond.methodLink "QuaternionNetModel" 313 (mN 211) ∈ TT := TT_m (tq6 (List.mem_of_getElem? (i := 94) rfl)) rfl
theorem ml_X8_304 : Cond.methodLink "QuaternionNetModel" 304 (mN 207) ∈ TT := TT_m (tq6 (List.mem_of_getElem? (i := 98) rfl)) rfl
theorem ml_X8_290 : Cond.methodLink "QuaternionNetModel" 290 (mN 208) ∈ TT := TT_m (tq6 (List.mem_of_getElem? (i := 102) rfl)) rfl
theorem ml_X8_297 : Cond.methodLink "QuaternionNetModel" 297 (mN 210) ∈ TT := TT_m (tq6 (List.mem_of_getElem? (i := 106) rfl)) rfl
theorem ml_X8_307 : Cond.methodLink "QuaternionNetModel" 307 (mN 206) ∈ TT := TT_m (tq6 (List.mem_of_getElem? (i := 110) rfl)) rfl
theorem ml_X8_300 : Cond.methodLink "QuaternionNetModel" 300 (mN 205) ∈ TT := TT_m (tq6 (List.mem_of_getElem? (i := 114) rfl)) rfl
theorem ml_X8_293 : Cond.methodLink "QuaternionNetModel" 293 (mN 209) ∈ TT := TT_m (tq6 (List.mem_of_getElem? (i := 118) rfl)) rfl
theorem ml_L_152 : Cond.methodLink "QuaternionNetLaw" 152 (mN 213) ∈ TT := TT_m (tq6 (List.mem_of_getElem? (i := 122) rfl)) rfl
theorem ml_L_156 : Cond.methodLink "QuaternionNetLaw" 156 (mN 214) ∈ TT := TT_m (tq6 (List.mem_of_getElem? (i := 126) rfl)) rfl
theorem ml_L_160 : Cond.methodLink "QuaternionNetLaw" 160 (mN 215) ∈ TT := TT_m (tq6 (List.mem_of_getElem? (i := 130) rfl)) rfl
theorem ml_L_164 : Cond.methodLink "QuaternionNetLaw" 164 (mN 216) ∈ TT := TT_m (tq6 (List.mem_of_getElem? (i := 134) rfl)) rfl
theorem ml_L_168 : Cond.methodLink "QuaternionNetLaw" 168 (mN 217) ∈ TT := TT_m (tq6 (List.mem_of_getElem? (i := 138) rfl)) rfl
theorem ml_L_172 : Cond.methodLink "QuaternionNetLaw" 172 (mN 218) ∈ TT := TT_m (tq6 (List.mem_of_getElem? (i := 142) rfl)) rfl
theorem ml_L_176 : Cond.methodLink "QuaternionNetLaw" 176 (mN 219) ∈ TT := TT_m (tq6 (List.mem_of_getElem? (i := 146) rfl)) rfl
theorem cl_L_7 : Cond.classLink "QuaternionNetLaw" 7 (CN 7) ∈ TT := TT_m (tq1 (List.mem_of_getElem? (i := 13) rfl)) rfl
theorem cl_X7_9 : Cond.classLink "QuaternionNet" 9 (CN 6) ∈ TT := TT_m (tq1 (List.mem_of_getElem? (i := 21) rfl)) rfl
theorem cl_X7_18 : Cond.classLink "QuaternionNet" 18 (CN 3) ∈ TT := TT_m (tq1 (List.mem_of_getElem? (i := 47) rfl)) rfl
theorem cl_X7_25 : Cond.classLink "QuaternionNet" 25 (CN 0) ∈ TT := TT_m (tq1 (List.mem_of_getElem? (i := 70) rfl)) rfl
theorem cl_X3_13 : Cond.classLink "QuaternionNet$Quaternion" 13 (CN 3) ∈ TT := TT_m (tq1 (List.mem_of_getElem? (i := 82) rfl)) rfl
theorem cl_X7_49 : Cond.classLink "QuaternionNet" 49 (CN 1) ∈ TT := TT_m (tq1 (List.mem_of_getElem? (i := 99) rfl)) rfl
theorem cl_X1_21 : Cond.classLink "QuaternionNet$Image" 21 (CN 0) ∈ TT := TT_m (tq1 (List.mem_of_getElem? (i := 106) rfl)) rfl
theorem cl_X7_41 : Cond.classLink "QuaternionNet" 41 (CN 2) ∈ TT := TT_m (tq1 (List.mem_of_getElem? (i := 134) rfl)) rfl
theorem cl_X2_9 : Cond.classLink "QuaternionNet$Network" 9 (CN 5) ∈ TT := TT_m (tq1 (List.mem_of_getElem? (i := 140) rfl)) rfl
theorem cl_X5_10 : Cond.classLink "QuaternionNet$Steps" 10 (CN 3) ∈ TT := TT_m (tq1 (List.mem_of_getElem? (i := 147) rfl)) rfl
theorem cl_X2_19 : Cond.classLink "QuaternionNet$Network" 19 (CN 3) ∈ TT := TT_m (tq1 (List.mem_of_getElem? (i := 176) rfl)) rfl
theorem cl_X7_61 : Cond.classLink "QuaternionNet" 61 (CN 4) ∈ TT := TT_m (tq2 (List.mem_of_getElem? (i := 66) rfl)) rfl
theorem cl_L_10 : Cond.classLink "QuaternionNetLaw" 10 (CN 8) ∈ TT := TT_m (tq4 (List.mem_of_getElem? (i := 152) rfl)) rfl
theorem cl_X7_32 : Cond.classLink "QuaternionNet" 32 "[[I" ∈ TT := TT_m (tq1 (List.mem_of_getElem? (i := 97) rfl)) rfl
theorem kl_X7_100 : Cond.constantLong "QuaternionNet" 100 (-9223372036854775808) ∈ TT := TT_m (tq2 (List.mem_of_getElem? (i := 181) rfl)) rfl
theorem kl_X7_197 : Cond.constantLong "QuaternionNet" 197 1000 ∈ TT := TT_m (tq3 (List.mem_of_getElem? (i := 104) rfl)) rfl
theorem kl_X7_213 : Cond.constantLong "QuaternionNet" 213 2 ∈ TT := TT_m (tq3 (List.mem_of_getElem? (i := 115) rfl)) rfl
theorem kl_X7_218 : Cond.constantLong "QuaternionNet" 218 1000000 ∈ TT := TT_m (tq3 (List.mem_of_getElem? (i := 119) rfl)) rfl
theorem kl_X8_110 : Cond.constantLong "QuaternionNetModel" 110 5 ∈ TT := TT_m (tq5 (List.mem_of_getElem? (i := 101) rfl)) rfl
theorem kl_X8_124 : Cond.constantLong "QuaternionNetModel" 124 (-9999) ∈ TT := TT_m (tq5 (List.mem_of_getElem? (i := 109) rfl)) rfl
theorem kl_X8_126 : Cond.constantLong "QuaternionNetModel" 126 9999 ∈ TT := TT_m (tq5 (List.mem_of_getElem? (i := 110) rfl)) rfl
theorem kl_X8_171 : Cond.constantLong "QuaternionNetModel" 171 3 ∈ TT := TT_m (tq5 (List.mem_of_getElem? (i := 119) rfl)) rfl
theorem kl_X8_173 : Cond.constantLong "QuaternionNetModel" 173 (-9223372036854775808) ∈ TT := TT_m (tq5 (List.mem_of_getElem? (i := 120) rfl)) rfl
theorem kl_X8_188 : Cond.constantLong "QuaternionNetModel" 188 4 ∈ TT := TT_m (tq5 (List.mem_of_getElem? (i := 163) rfl)) rfl
theorem kl_X8_207 : Cond.constantLong "QuaternionNetModel" 207 12 ∈ TT := TT_m (tq5 (List.mem_of_getElem? (i := 205) rfl)) rfl
theorem kl_X8_122 : Cond.constantLong "QuaternionNetModel" 122 2 ∈ TT := TT_m (tq5 (List.mem_of_getElem? (i := 214) rfl)) rfl
theorem kl_X8_209 : Cond.constantLong "QuaternionNetModel" 209 9223372036854775807 ∈ TT := TT_m (tq5 (List.mem_of_getElem? (i := 218) rfl)) rfl
theorem kl_X8_240 : Cond.constantLong "QuaternionNetModel" 240 32 ∈ TT := TT_m (tq6 (List.mem_of_getElem? (i := 53) rfl)) rfl
theorem kl_X8_242 : Cond.constantLong "QuaternionNetModel" 242 126 ∈ TT := TT_m (tq6 (List.mem_of_getElem? (i := 54) rfl)) rfl
theorem kl_X8_254 : Cond.constantLong "QuaternionNetModel" 254 48 ∈ TT := TT_m (tq6 (List.mem_of_getElem? (i := 83) rfl)) rfl
theorem kl_X8_276 : Cond.constantLong "QuaternionNetModel" 276 53 ∈ TT := TT_m (tq6 (List.mem_of_getElem? (i := 84) rfl)) rfl
theorem kl_X8_256 : Cond.constantLong "QuaternionNetModel" 256 57 ∈ TT := TT_m (tq6 (List.mem_of_getElem? (i := 93) rfl)) rfl
theorem im0 : Cond.instanceMethod (mN 0) ∈ TT := TT_m (tq1 (List.mem_of_getElem? (i := 73) rfl)) rfl
theorem im1 : Cond.instanceMethod (mN 1) ∈ TT := TT_m (tq3 (List.mem_of_getElem? (i := 217) rfl)) rfl
theorem se1 : Cond.selects (CN 0) (mN 1) (mN 1) ∈ TT := TT_m (tqp (List.mem_of_getElem? (i := 17) rfl)) rfl
theorem im2 : Cond.instanceMethod (mN 2) ∈ TT := TT_m (tq3 (List.mem_of_getElem? (i := 230) rfl)) rfl
theorem se2 : Cond.selects (CN 0) (mN 2) (mN 2) ∈ TT := TT_m (tq3 (List.mem_of_getElem? (i := 231) rfl)) rfl
theorem im3 : Cond.instanceMethod (mN 3) ∈ TT := TT_m (tq3 (List.mem_of_getElem? (i := 226) rfl)) rfl
theorem se3 : Cond.selects (CN 0) (mN 3) (mN 3) ∈ TT := TT_m (tq3 (List.mem_of_getElem? (i := 227) rfl)) rfl
theorem im4 : Cond.instanceMethod (mN 4) ∈ TT := TT_m (tq3 (List.mem_of_getElem? (i := 212) rfl)) rfl
theorem se4 : Cond.selects (CN 0) (mN 4) (mN 4) ∈ TT := TT_m (tq3 (List.mem_of_getElem? (i := 213) rfl)) rfl
theorem im5 : Cond.instanceMethod (mN 5) ∈ TT := TT_m (tq3 (List.mem_of_getElem? (i := 238) rfl)) rfl
theorem se5 : Cond.selects (CN 0) (mN 5) (mN 5) ∈ TT := TT_m (tq3 (List.mem_of_getElem? (i := 239) rfl)) rfl
theorem im6 : Cond.instanceMethod (mN 6) ∈ TT := TT_m (tq4 (List.mem_of_getElem? (i := 139) rfl)) rfl
theorem se6 : Cond.selects (CN 0) (mN 6) (mN 6) ∈ TT := TT_m (tq4 (List.mem_of_getElem? (i := 140) rfl)) rfl
theorem im7 : Cond.instanceMethod (mN 7) ∈ TT := TT_m (tq1 (List.mem_of_getElem? (i := 102) rfl)) rfl
theorem im8 : Cond.instanceMethod (mN 8) ∈ TT := TT_m (tq4 (List.mem_of_getElem? (i := 131) rfl)) rfl
theorem se8 : Cond.selects (CN 1) (mN 8) (mN 8) ∈ TT := TT_m (tq4 (List.mem_of_getElem? (i := 132) rfl)) rfl
theorem im9 : Cond.instanceMethod (mN 9) ∈ TT := TT_m (tq1 (List.mem_of_getElem? (i := 137) rfl)) rfl
theorem im10 : Cond.instanceMethod (mN 10) ∈ TT := TT_m (tq1 (List.mem_of_getElem? (i := 179) rfl)) rfl
theorem se10 : Cond.selects (CN 2) (mN 10) (mN 10) ∈ TT := TT_m (tq1 (List.mem_of_getElem? (i := 180) rfl)) rfl
theorem im11 : Cond.instanceMethod (mN 11) ∈ TT := TT_m (tq1 (List.mem_of_getElem? (i := 230) rfl)) rfl
theorem se11 : Cond.selects (CN 2) (mN 11) (mN 11) ∈ TT := TT_m (tqp (List.mem_of_getElem? (i := 4) rfl)) rfl
theorem im12 : Cond.instanceMethod (mN 12) ∈ TT := TT_m (tq1 (List.mem_of_getElem? (i := 221) rfl)) rfl
theorem se12 : Cond.selects (CN 2) (mN 12) (mN 12) ∈ TT := TT_m (tqp (List.mem_of_getElem? (i := 2) rfl)) rfl
theorem im13 : Cond.instanceMethod (mN 13) ∈ TT := TT_m (tq1 (List.mem_of_getElem? (i := 225) rfl)) rfl
theorem se13 : Cond.selects (CN 2) (mN 13) (mN 13) ∈ TT := TT_m (tqp (List.mem_of_getElem? (i := 3) rfl)) rfl
theorem im14 : Cond.instanceMethod (mN 14) ∈ TT := TT_m (tq2 (List.mem_of_getElem? (i := 12) rfl)) rfl
theorem se14 : Cond.selects (CN 2) (mN 14) (mN 14) ∈ TT := TT_m (tqp (List.mem_of_getElem? (i := 5) rfl)) rfl
theorem im15 : Cond.instanceMethod (mN 15) ∈ TT := TT_m (tq2 (List.mem_of_getElem? (i := 16) rfl)) rfl
theorem se15 : Cond.selects (CN 2) (mN 15) (mN 15) ∈ TT := TT_m (tqp (List.mem_of_getElem? (i := 6) rfl)) rfl
theorem im16 : Cond.instanceMethod (mN 16) ∈ TT := TT_m (tq2 (List.mem_of_getElem? (i := 20) rfl)) rfl
theorem se16 : Cond.selects (CN 2) (mN 16) (mN 16) ∈ TT := TT_m (tqp (List.mem_of_getElem? (i := 7) rfl)) rfl
theorem im17 : Cond.instanceMethod (mN 17) ∈ TT := TT_m (tq3 (List.mem_of_getElem? (i := 12) rfl)) rfl
theorem se17 : Cond.selects (CN 2) (mN 17) (mN 17) ∈ TT := TT_m (tq3 (List.mem_of_getElem? (i := 13) rfl)) rfl
theorem im18 : Cond.instanceMethod (mN 18) ∈ TT := TT_m (tq3 (List.mem_of_getElem? (i := 20) rfl)) rfl
theorem se18 : Cond.selects (CN 2) (mN 18) (mN 18) ∈ TT := TT_m (tq3 (List.mem_of_getElem? (i := 21) rfl)) rfl
theorem im19 : Cond.instanceMethod (mN 19) ∈ TT := TT_m (tq3 (List.mem_of_getElem? (i := 16) rfl)) rfl
theorem se19 : Cond.selects (CN 2) (mN 19) (mN 19) ∈ TT := TT_m (tq3 (List.mem_of_getElem? (i := 17) rfl)) rfl
theorem im20 : Cond.instanceMethod (mN 20) ∈ TT := TT_m (tq3 (List.mem_of_getElem? (i := 33) rfl)) rfl
theorem se20 : Cond.selects (CN 2) (mN 20) (mN 20) ∈ TT := TT_m (tq3 (List.mem_of_getElem? (i := 34) rfl)) rfl
theorem im21 : Cond.instanceMethod (mN 21) ∈ TT := TT_m (tq2 (List.mem_of_getElem? (i := 23) rfl)) rfl
theorem se21 : Cond.selects (CN 2) (mN 21) (mN 21) ∈ TT := TT_m (tq2 (List.mem_of_getElem? (i := 24) rfl)) rfl
theorem im22 : Cond.instanceMethod (mN 22) ∈ TT := TT_m (tq3 (List.mem_of_getElem? (i := 128) rfl)) rfl
theorem se22 : Cond.selects (CN 2) (mN 22) (mN 22) ∈ TT := TT_m (tq3 (List.mem_of_getElem? (i := 129) rfl)) rfl
theorem im23 : Cond.instanceMethod (mN 23) ∈ TT := TT_m (tq3 (List.mem_of_getElem? (i := 46) rfl)) rfl
theorem se23 : Cond.selects (CN 2) (mN 23) (mN 23) ∈ TT := TT_m (tq3 (List.mem_of_getElem? (i := 47) rfl)) rfl
theorem im24 : Cond.instanceMethod (mN 24) ∈ TT := TT_m (tq3 (List.mem_of_getElem? (i := 55) rfl)) rfl
theorem se24 : Cond.selects (CN 2) (mN 24) (mN 24) ∈ TT := TT_m (tq3 (List.mem_of_getElem? (i := 56) rfl)) rfl
theorem im25 : Cond.instanceMethod (mN 25) ∈ TT := TT_m (tq3 (List.mem_of_getElem? (i := 59) rfl)) rfl
theorem se25 : Cond.selects (CN 2) (mN 25) (mN 25) ∈ TT := TT_m (tq3 (List.mem_of_getElem? (i := 60) rfl)) rfl
theorem im26 : Cond.instanceMethod (mN 26) ∈ TT := TT_m (tq3 (List.mem_of_getElem? (i := 132) rfl)) rfl
theorem se26 : Cond.selects (CN 2) (mN 26) (mN 26) ∈ TT := TT_m (tq3 (List.mem_of_getElem? (i := 133) rfl)) rfl
theorem im27 : Cond.instanceMethod (mN 27) ∈ TT := TT_m (tq1 (List.mem_of_getElem? (i := 50) rfl)) rfl
theorem st28 : Cond.static (mN 28) ∈ TT := TT_m (tq1 (List.mem_of_getElem? (i := 77) rfl)) rfl
theorem st29 : Cond.static (mN 29) ∈ TT := TT_m (tq4 (List.mem_of_getElem? (i := 135) rfl)) rfl
theorem st30 : Cond.static (mN 30) ∈ TT := TT_m (tq2 (List.mem_of_getElem? (i := 179) rfl)) rfl
theorem im31 : Cond.instanceMethod (mN 31) ∈ TT := TT_m (tq2 (List.mem_of_getElem? (i := 183) rfl)) rfl
theorem se31 : Cond.selects (CN 3) (mN 31) (mN 31) ∈ TT := TT_m (tq2 (List.mem_of_getElem? (i := 184) rfl)) rfl
theorem im32 : Cond.instanceMethod (mN 32) ∈ TT := TT_m (tq1 (List.mem_of_getElem? (i := 191) rfl)) rfl
theorem se32 : Cond.selects (CN 3) (mN 32) (mN 32) ∈ TT := TT_m (tq1 (List.mem_of_getElem? (i := 192) rfl)) rfl
theorem im33 : Cond.instanceMethod (mN 33) ∈ TT := TT_m (tq1 (List.mem_of_getElem? (i := 199) rfl)) rfl
theorem se33 : Cond.selects (CN 3) (mN 33) (mN 33) ∈ TT := TT_m (tq1 (List.mem_of_getElem? (i := 200) rfl)) rfl
theorem im34 : Cond.instanceMethod (mN 34) ∈ TT := TT_m (tq1 (List.mem_of_getElem? (i := 237) rfl)) rfl
theorem se34 : Cond.selects (CN 3) (mN 34) (mN 34) ∈ TT := TT_m (tq1 (List.mem_of_getElem? (i := 238) rfl)) rfl
theorem im35 : Cond.instanceMethod (mN 35) ∈ TT := TT_m (tq2 (List.mem_of_getElem? (i := 205) rfl)) rfl
theorem se35 : Cond.selects (CN 3) (mN 35) (mN 35) ∈ TT := TT_m (tq2 (List.mem_of_getElem? (i := 206) rfl)) rfl
theorem im36 : Cond.instanceMethod (mN 36) ∈ TT := TT_m (tq1 (List.mem_of_getElem? (i := 204) rfl)) rfl
theorem se36 : Cond.selects (CN 3) (mN 36) (mN 36) ∈ TT := TT_m (tq1 (List.mem_of_getElem? (i := 205) rfl)) rfl
theorem im37 : Cond.instanceMethod (mN 37) ∈ TT := TT_m (tq3 (List.mem_of_getElem? (i := 158) rfl)) rfl
theorem se37 : Cond.selects (CN 3) (mN 37) (mN 37) ∈ TT := TT_m (tq3 (List.mem_of_getElem? (i := 159) rfl)) rfl
theorem im38 : Cond.instanceMethod (mN 38) ∈ TT := TT_m (tq1 (List.mem_of_getElem? (i := 195) rfl)) rfl
theorem se38 : Cond.selects (CN 3) (mN 38) (mN 38) ∈ TT := TT_m (tq1 (List.mem_of_getElem? (i := 196) rfl)) rfl
theorem im39 : Cond.instanceMethod (mN 39) ∈ TT := TT_m (tq2 (List.mem_of_getElem? (i := 167) rfl)) rfl
theorem se39 : Cond.selects (CN 3) (mN 39) (mN 39) ∈ TT := TT_m (tq2 (List.mem_of_getElem? (i := 168) rfl)) rfl
theorem st40 : Cond.static (mN 40) ∈ TT := TT_m (tq2 (List.mem_of_getElem? (i := 171) rfl)) rfl
theorem im41 : Cond.instanceMethod (mN 41) ∈ TT := TT_m (tq2 (List.mem_of_getElem? (i := 214) rfl)) rfl
theorem se41 : Cond.selects (CN 3) (mN 41) (mN 41) ∈ TT := TT_m (tq2 (List.mem_of_getElem? (i := 215) rfl)) rfl
theorem im42 : Cond.instanceMethod (mN 42) ∈ TT := TT_m (tq3 (List.mem_of_getElem? (i := 149) rfl)) rfl
theorem se42 : Cond.selects (CN 3) (mN 42) (mN 42) ∈ TT := TT_m (tq3 (List.mem_of_getElem? (i := 150) rfl)) rfl
theorem im43 : Cond.instanceMethod (mN 43) ∈ TT := TT_m (tq1 (List.mem_of_getElem? (i := 212) rfl)) rfl
theorem se43 : Cond.selects (CN 3) (mN 43) (mN 43) ∈ TT := TT_m (tq1 (List.mem_of_getElem? (i := 213) rfl)) rfl
theorem im44 : Cond.instanceMethod (mN 44) ∈ TT := TT_m (tq3 (List.mem_of_getElem? (i := 28) rfl)) rfl
theorem se44 : Cond.selects (CN 3) (mN 44) (mN 44) ∈ TT := TT_m (tq3 (List.mem_of_getElem? (i := 29) rfl)) rfl
theorem im45 : Cond.instanceMethod (mN 45) ∈ TT := TT_m (tq2 (List.mem_of_getElem? (i := 1) rfl)) rfl
theorem se45 : Cond.selects (CN 3) (mN 45) (mN 45) ∈ TT := TT_m (tq2 (List.mem_of_getElem? (i := 2) rfl)) rfl
theorem st46 : Cond.static (mN 46) ∈ TT := TT_m (tq2 (List.mem_of_getElem? (i := 8) rfl)) rfl
theorem im47 : Cond.instanceMethod (mN 47) ∈ TT := TT_m (tq2 (List.mem_of_getElem? (i := 69) rfl)) rfl
theorem im48 : Cond.instanceMethod (mN 48) ∈ TT := TT_m (tq4 (List.mem_of_getElem? (i := 6) rfl)) rfl
theorem se48 : Cond.selects (CN 4) (mN 48) (mN 48) ∈ TT := TT_m (tq4 (List.mem_of_getElem? (i := 7) rfl)) rfl
theorem im49 : Cond.instanceMethod (mN 49) ∈ TT := TT_m (tq4 (List.mem_of_getElem? (i := 14) rfl)) rfl
theorem se49 : Cond.selects (CN 4) (mN 49) (mN 49) ∈ TT := TT_m (tq4 (List.mem_of_getElem? (i := 15) rfl)) rfl
theorem im50 : Cond.instanceMethod (mN 50) ∈ TT := TT_m (tq4 (List.mem_of_getElem? (i := 107) rfl)) rfl
theorem se50 : Cond.selects (CN 4) (mN 50) (mN 50) ∈ TT := TT_m (tq4 (List.mem_of_getElem? (i := 108) rfl)) rfl
theorem im51 : Cond.instanceMethod (mN 51) ∈ TT := TT_m (tq4 (List.mem_of_getElem? (i := 111) rfl)) rfl
theorem se51 : Cond.selects (CN 4) (mN 51) (mN 51) ∈ TT := TT_m (tq4 (List.mem_of_getElem? (i := 112) rfl)) rfl
theorem im52 : Cond.instanceMethod (mN 52) ∈ TT := TT_m (tq4 (List.mem_of_getElem? (i := 22) rfl)) rfl
theorem se52 : Cond.selects (CN 4) (mN 52) (mN 52) ∈ TT := TT_m (tq4 (List.mem_of_getElem? (i := 23) rfl)) rfl
theorem im53 : Cond.instanceMethod (mN 53) ∈ TT := TT_m (tq4 (List.mem_of_getElem? (i := 27) rfl)) rfl
theorem se53 : Cond.selects (CN 4) (mN 53) (mN 53) ∈ TT := TT_m (tqp (List.mem_of_getElem? (i := 18) rfl)) rfl
theorem im54 : Cond.instanceMethod (mN 54) ∈ TT := TT_m (tq4 (List.mem_of_getElem? (i := 31) rfl)) rfl
theorem se54 : Cond.selects (CN 4) (mN 54) (mN 54) ∈ TT := TT_m (tqp (List.mem_of_getElem? (i := 19) rfl)) rfl
theorem im55 : Cond.instanceMethod (mN 55) ∈ TT := TT_m (tq4 (List.mem_of_getElem? (i := 35) rfl)) rfl
theorem se55 : Cond.selects (CN 4) (mN 55) (mN 55) ∈ TT := TT_m (tqp (List.mem_of_getElem? (i := 20) rfl)) rfl
theorem im56 : Cond.instanceMethod (mN 56) ∈ TT := TT_m (tq4 (List.mem_of_getElem? (i := 39) rfl)) rfl
theorem se56 : Cond.selects (CN 4) (mN 56) (mN 56) ∈ TT := TT_m (tqp (List.mem_of_getElem? (i := 21) rfl)) rfl
theorem im57 : Cond.instanceMethod (mN 57) ∈ TT := TT_m (tq4 (List.mem_of_getElem? (i := 47) rfl)) rfl
theorem se57 : Cond.selects (CN 4) (mN 57) (mN 57) ∈ TT := TT_m (tqp (List.mem_of_getElem? (i := 23) rfl)) rfl
theorem im58 : Cond.instanceMethod (mN 58) ∈ TT := TT_m (tq4 (List.mem_of_getElem? (i := 64) rfl)) rfl
theorem se58 : Cond.selects (CN 4) (mN 58) (mN 58) ∈ TT := TT_m (tqp (List.mem_of_getElem? (i := 27) rfl)) rfl
theorem im59 : Cond.instanceMethod (mN 59) ∈ TT := TT_m (tq4 (List.mem_of_getElem? (i := 76) rfl)) rfl
theorem se59 : Cond.selects (CN 4) (mN 59) (mN 59) ∈ TT := TT_m (tqp (List.mem_of_getElem? (i := 30) rfl)) rfl
theorem im60 : Cond.instanceMethod (mN 60) ∈ TT := TT_m (tq4 (List.mem_of_getElem? (i := 90) rfl)) rfl
theorem se60 : Cond.selects (CN 4) (mN 60) (mN 60) ∈ TT := TT_m (tqp (List.mem_of_getElem? (i := 33) rfl)) rfl
theorem im61 : Cond.instanceMethod (mN 61) ∈ TT := TT_m (tq4 (List.mem_of_getElem? (i := 80) rfl)) rfl
theorem se61 : Cond.selects (CN 4) (mN 61) (mN 61) ∈ TT := TT_m (tqp (List.mem_of_getElem? (i := 31) rfl)) rfl
theorem im62 : Cond.instanceMethod (mN 62) ∈ TT := TT_m (tq4 (List.mem_of_getElem? (i := 43) rfl)) rfl
theorem se62 : Cond.selects (CN 4) (mN 62) (mN 62) ∈ TT := TT_m (tqp (List.mem_of_getElem? (i := 22) rfl)) rfl
theorem im63 : Cond.instanceMethod (mN 63) ∈ TT := TT_m (tq4 (List.mem_of_getElem? (i := 68) rfl)) rfl
theorem se63 : Cond.selects (CN 4) (mN 63) (mN 63) ∈ TT := TT_m (tqp (List.mem_of_getElem? (i := 28) rfl)) rfl
theorem im64 : Cond.instanceMethod (mN 64) ∈ TT := TT_m (tq4 (List.mem_of_getElem? (i := 72) rfl)) rfl
theorem se64 : Cond.selects (CN 4) (mN 64) (mN 64) ∈ TT := TT_m (tqp (List.mem_of_getElem? (i := 29) rfl)) rfl
theorem im65 : Cond.instanceMethod (mN 65) ∈ TT := TT_m (tq4 (List.mem_of_getElem? (i := 97) rfl)) rfl
theorem se65 : Cond.selects (CN 4) (mN 65) (mN 65) ∈ TT := TT_m (tqp (List.mem_of_getElem? (i := 34) rfl)) rfl
theorem im66 : Cond.instanceMethod (mN 66) ∈ TT := TT_m (tq4 (List.mem_of_getElem? (i := 86) rfl)) rfl
theorem se66 : Cond.selects (CN 4) (mN 66) (mN 66) ∈ TT := TT_m (tqp (List.mem_of_getElem? (i := 32) rfl)) rfl
theorem im67 : Cond.instanceMethod (mN 67) ∈ TT := TT_m (tq4 (List.mem_of_getElem? (i := 51) rfl)) rfl
theorem se67 : Cond.selects (CN 4) (mN 67) (mN 67) ∈ TT := TT_m (tqp (List.mem_of_getElem? (i := 24) rfl)) rfl
theorem im68 : Cond.instanceMethod (mN 68) ∈ TT := TT_m (tq4 (List.mem_of_getElem? (i := 55) rfl)) rfl
theorem se68 : Cond.selects (CN 4) (mN 68) (mN 68) ∈ TT := TT_m (tqp (List.mem_of_getElem? (i := 25) rfl)) rfl
theorem im69 : Cond.instanceMethod (mN 69) ∈ TT := TT_m (tq4 (List.mem_of_getElem? (i := 59) rfl)) rfl
theorem se69 : Cond.selects (CN 4) (mN 69) (mN 69) ∈ TT := TT_m (tqp (List.mem_of_getElem? (i := 26) rfl)) rfl
theorem im70 : Cond.instanceMethod (mN 70) ∈ TT := TT_m (tq1 (List.mem_of_getElem? (i := 143) rfl)) rfl
theorem im71 : Cond.instanceMethod (mN 71) ∈ TT := TT_m (tq1 (List.mem_of_getElem? (i := 183) rfl)) rfl
theorem se71 : Cond.selects (CN 5) (mN 71) (mN 71) ∈ TT := TT_m (tq1 (List.mem_of_getElem? (i := 184) rfl)) rfl
theorem im72 : Cond.instanceMethod (mN 72) ∈ TT := TT_m (tq1 (List.mem_of_getElem? (i := 188) rfl)) rfl
theorem se72 : Cond.selects (CN 5) (mN 72) (mN 72) ∈ TT := TT_m (tqp (List.mem_of_getElem? (i := 0) rfl)) rfl
theorem im73 : Cond.instanceMethod (mN 73) ∈ TT := TT_m (tq1 (List.mem_of_getElem? (i := 209) rfl)) rfl
theorem se73 : Cond.selects (CN 5) (mN 73) (mN 73) ∈ TT := TT_m (tqp (List.mem_of_getElem? (i := 1) rfl)) rfl
theorem im74 : Cond.instanceMethod (mN 74) ∈ TT := TT_m (tq2 (List.mem_of_getElem? (i := 239) rfl)) rfl
theorem se74 : Cond.selects (CN 5) (mN 74) (mN 74) ∈ TT := TT_m (tq3 (List.mem_of_getElem? (i := 0) rfl)) rfl
theorem im75 : Cond.instanceMethod (mN 75) ∈ TT := TT_m (tq1 (List.mem_of_getElem? (i := 233) rfl)) rfl
theorem se75 : Cond.selects (CN 5) (mN 75) (mN 75) ∈ TT := TT_m (tq1 (List.mem_of_getElem? (i := 234) rfl)) rfl
theorem im76 : Cond.instanceMethod (mN 76) ∈ TT := TT_m (tq3 (List.mem_of_getElem? (i := 3) rfl)) rfl
theorem se76 : Cond.selects (CN 5) (mN 76) (mN 76) ∈ TT := TT_m (tq3 (List.mem_of_getElem? (i := 4) rfl)) rfl
theorem im77 : Cond.instanceMethod (mN 77) ∈ TT := TT_m (tq3 (List.mem_of_getElem? (i := 162) rfl)) rfl
theorem se77 : Cond.selects (CN 5) (mN 77) (mN 77) ∈ TT := TT_m (tq3 (List.mem_of_getElem? (i := 163) rfl)) rfl
theorem im78 : Cond.instanceMethod (mN 78) ∈ TT := TT_m (tq3 (List.mem_of_getElem? (i := 140) rfl)) rfl
theorem se78 : Cond.selects (CN 5) (mN 78) (mN 78) ∈ TT := TT_m (tq3 (List.mem_of_getElem? (i := 141) rfl)) rfl
theorem im79 : Cond.instanceMethod (mN 79) ∈ TT := TT_m (tq3 (List.mem_of_getElem? (i := 145) rfl)) rfl
theorem se79 : Cond.selects (CN 5) (mN 79) (mN 79) ∈ TT := TT_m (tqp (List.mem_of_getElem? (i := 13) rfl)) rfl
theorem im80 : Cond.instanceMethod (mN 80) ∈ TT := TT_m (tq3 (List.mem_of_getElem? (i := 154) rfl)) rfl
theorem se80 : Cond.selects (CN 5) (mN 80) (mN 80) ∈ TT := TT_m (tqp (List.mem_of_getElem? (i := 14) rfl)) rfl
theorem im81 : Cond.instanceMethod (mN 81) ∈ TT := TT_m (tq1 (List.mem_of_getElem? (i := 24) rfl)) rfl
theorem im82 : Cond.instanceMethod (mN 82) ∈ TT := TT_m (tq2 (List.mem_of_getElem? (i := 227) rfl)) rfl
theorem se82 : Cond.selects (CN 6) (mN 82) (mN 82) ∈ TT := TT_m (tq2 (List.mem_of_getElem? (i := 228) rfl)) rfl
theorem im83 : Cond.instanceMethod (mN 83) ∈ TT := TT_m (tq3 (List.mem_of_getElem? (i := 94) rfl)) rfl
theorem se83 : Cond.selects (CN 6) (mN 83) (mN 83) ∈ TT := TT_m (tq3 (List.mem_of_getElem? (i := 95) rfl)) rfl
theorem im84 : Cond.instanceMethod (mN 84) ∈ TT := TT_m (tq3 (List.mem_of_getElem? (i := 67) rfl)) rfl
theorem se84 : Cond.selects (CN 6) (mN 84) (mN 84) ∈ TT := TT_m (tq3 (List.mem_of_getElem? (i := 68) rfl)) rfl
theorem im85 : Cond.instanceMethod (mN 85) ∈ TT := TT_m (tq3 (List.mem_of_getElem? (i := 72) rfl)) rfl
theorem se85 : Cond.selects (CN 6) (mN 85) (mN 85) ∈ TT := TT_m (tqp (List.mem_of_getElem? (i := 10) rfl)) rfl
theorem im86 : Cond.instanceMethod (mN 86) ∈ TT := TT_m (tq3 (List.mem_of_getElem? (i := 76) rfl)) rfl
theorem se86 : Cond.selects (CN 6) (mN 86) (mN 86) ∈ TT := TT_m (tqp (List.mem_of_getElem? (i := 11) rfl)) rfl
theorem st87 : Cond.static (mN 87) ∈ TT := TT_m (tq3 (List.mem_of_getElem? (i := 82) rfl)) rfl
theorem im88 : Cond.instanceMethod (mN 88) ∈ TT := TT_m (tq3 (List.mem_of_getElem? (i := 86) rfl)) rfl
theorem se88 : Cond.selects (CN 6) (mN 88) (mN 88) ∈ TT := TT_m (tqp (List.mem_of_getElem? (i := 12) rfl)) rfl
theorem im89 : Cond.instanceMethod (mN 89) ∈ TT := TT_m (tq1 (List.mem_of_getElem? (i := 16) rfl)) rfl
theorem im90 : Cond.instanceMethod (mN 90) ∈ TT := TT_m (tq2 (List.mem_of_getElem? (i := 159) rfl)) rfl
theorem se90 : Cond.selects (CN 7) (mN 90) (mN 90) ∈ TT := TT_m (tq2 (List.mem_of_getElem? (i := 160) rfl)) rfl
theorem im91 : Cond.instanceMethod (mN 91) ∈ TT := TT_m (tq2 (List.mem_of_getElem? (i := 175) rfl)) rfl
theorem se91 : Cond.selects (CN 7) (mN 91) (mN 91) ∈ TT := TT_m (tq2 (List.mem_of_getElem? (i := 176) rfl)) rfl
theorem im92 : Cond.instanceMethod (mN 92) ∈ TT := TT_m (tq2 (List.mem_of_getElem? (i := 187) rfl)) rfl
theorem se92 : Cond.selects (CN 7) (mN 92) (mN 92) ∈ TT := TT_m (tq2 (List.mem_of_getElem? (i := 188) rfl)) rfl
theorem im93 : Cond.instanceMethod (mN 93) ∈ TT := TT_m (tq2 (List.mem_of_getElem? (i := 192) rfl)) rfl
theorem se93 : Cond.selects (CN 7) (mN 93) (mN 93) ∈ TT := TT_m (tq2 (List.mem_of_getElem? (i := 193) rfl)) rfl
theorem im94 : Cond.instanceMethod (mN 94) ∈ TT := TT_m (tq2 (List.mem_of_getElem? (i := 201) rfl)) rfl
theorem se94 : Cond.selects (CN 7) (mN 94) (mN 94) ∈ TT := TT_m (tq2 (List.mem_of_getElem? (i := 202) rfl)) rfl
theorem im95 : Cond.instanceMethod (mN 95) ∈ TT := TT_m (tq2 (List.mem_of_getElem? (i := 209) rfl)) rfl
theorem se95 : Cond.selects (CN 7) (mN 95) (mN 95) ∈ TT := TT_m (tq2 (List.mem_of_getElem? (i := 210) rfl)) rfl
theorem st96 : Cond.static (mN 96) ∈ TT := TT_m (tq2 (List.mem_of_getElem? (i := 163) rfl)) rfl
theorem im97 : Cond.instanceMethod (mN 97) ∈ TT := TT_m (tq2 (List.mem_of_getElem? (i := 198) rfl)) rfl
theorem se97 : Cond.selects (CN 7) (mN 97) (mN 97) ∈ TT := TT_m (tqp (List.mem_of_getElem? (i := 8) rfl)) rfl
theorem im98 : Cond.instanceMethod (mN 98) ∈ TT := TT_m (tq2 (List.mem_of_getElem? (i := 218) rfl)) rfl
theorem se98 : Cond.selects (CN 7) (mN 98) (mN 98) ∈ TT := TT_m (tq2 (List.mem_of_getElem? (i := 219) rfl)) rfl
theorem im99 : Cond.instanceMethod (mN 99) ∈ TT := TT_m (tq2 (List.mem_of_getElem? (i := 231) rfl)) rfl
theorem se99 : Cond.selects (CN 7) (mN 99) (mN 99) ∈ TT := TT_m (tq2 (List.mem_of_getElem? (i := 232) rfl)) rfl
theorem im100 : Cond.instanceMethod (mN 100) ∈ TT := TT_m (tq2 (List.mem_of_getElem? (i := 223) rfl)) rfl
theorem se100 : Cond.selects (CN 7) (mN 100) (mN 100) ∈ TT := TT_m (tqp (List.mem_of_getElem? (i := 9) rfl)) rfl
theorem im101 : Cond.instanceMethod (mN 101) ∈ TT := TT_m (tq2 (List.mem_of_getElem? (i := 235) rfl)) rfl
theorem se101 : Cond.selects (CN 7) (mN 101) (mN 101) ∈ TT := TT_m (tq2 (List.mem_of_getElem? (i := 236) rfl)) rfl
theorem im102 : Cond.instanceMethod (mN 102) ∈ TT := TT_m (tq3 (List.mem_of_getElem? (i := 8) rfl)) rfl
theorem se102 : Cond.selects (CN 7) (mN 102) (mN 102) ∈ TT := TT_m (tq3 (List.mem_of_getElem? (i := 9) rfl)) rfl
theorem im103 : Cond.instanceMethod (mN 103) ∈ TT := TT_m (tq3 (List.mem_of_getElem? (i := 24) rfl)) rfl
theorem se103 : Cond.selects (CN 7) (mN 103) (mN 103) ∈ TT := TT_m (tq3 (List.mem_of_getElem? (i := 25) rfl)) rfl
theorem im104 : Cond.instanceMethod (mN 104) ∈ TT := TT_m (tq3 (List.mem_of_getElem? (i := 37) rfl)) rfl
theorem se104 : Cond.selects (CN 7) (mN 104) (mN 104) ∈ TT := TT_m (tq3 (List.mem_of_getElem? (i := 38) rfl)) rfl
theorem im105 : Cond.instanceMethod (mN 105) ∈ TT := TT_m (tq3 (List.mem_of_getElem? (i := 42) rfl)) rfl
theorem se105 : Cond.selects (CN 7) (mN 105) (mN 105) ∈ TT := TT_m (tq3 (List.mem_of_getElem? (i := 43) rfl)) rfl
theorem im106 : Cond.instanceMethod (mN 106) ∈ TT := TT_m (tq3 (List.mem_of_getElem? (i := 51) rfl)) rfl
theorem se106 : Cond.selects (CN 7) (mN 106) (mN 106) ∈ TT := TT_m (tq3 (List.mem_of_getElem? (i := 52) rfl)) rfl
theorem im107 : Cond.instanceMethod (mN 107) ∈ TT := TT_m (tq3 (List.mem_of_getElem? (i := 63) rfl)) rfl
theorem se107 : Cond.selects (CN 7) (mN 107) (mN 107) ∈ TT := TT_m (tq3 (List.mem_of_getElem? (i := 64) rfl)) rfl
theorem im108 : Cond.instanceMethod (mN 108) ∈ TT := TT_m (tq3 (List.mem_of_getElem? (i := 90) rfl)) rfl
theorem se108 : Cond.selects (CN 7) (mN 108) (mN 108) ∈ TT := TT_m (tq3 (List.mem_of_getElem? (i := 91) rfl)) rfl
theorem im109 : Cond.instanceMethod (mN 109) ∈ TT := TT_m (tq3 (List.mem_of_getElem? (i := 98) rfl)) rfl
theorem se109 : Cond.selects (CN 7) (mN 109) (mN 109) ∈ TT := TT_m (tq3 (List.mem_of_getElem? (i := 99) rfl)) rfl
theorem st110 : Cond.static (mN 110) ∈ TT := TT_m (tq3 (List.mem_of_getElem? (i := 106) rfl)) rfl
theorem st111 : Cond.static (mN 111) ∈ TT := TT_m (tq3 (List.mem_of_getElem? (i := 109) rfl)) rfl
theorem im112 : Cond.instanceMethod (mN 112) ∈ TT := TT_m (tq3 (List.mem_of_getElem? (i := 112) rfl)) rfl
theorem se112 : Cond.selects (CN 7) (mN 112) (mN 112) ∈ TT := TT_m (tq3 (List.mem_of_getElem? (i := 113) rfl)) rfl
theorem st113 : Cond.static (mN 113) ∈ TT := TT_m (tq3 (List.mem_of_getElem? (i := 102) rfl)) rfl
theorem st114 : Cond.static (mN 114) ∈ TT := TT_m (tq3 (List.mem_of_getElem? (i := 117) rfl)) rfl
theorem st115 : Cond.static (mN 115) ∈ TT := TT_m (tq3 (List.mem_of_getElem? (i := 121) rfl)) rfl
theorem im116 : Cond.instanceMethod (mN 116) ∈ TT := TT_m (tq3 (List.mem_of_getElem? (i := 124) rfl)) rfl
theorem se116 : Cond.selects (CN 7) (mN 116) (mN 116) ∈ TT := TT_m (tq3 (List.mem_of_getElem? (i := 125) rfl)) rfl
theorem im117 : Cond.instanceMethod (mN 117) ∈ TT := TT_m (tq3 (List.mem_of_getElem? (i := 136) rfl)) rfl
theorem se117 : Cond.selects (CN 7) (mN 117) (mN 117) ∈ TT := TT_m (tq3 (List.mem_of_getElem? (i := 137) rfl)) rfl
theorem im118 : Cond.instanceMethod (mN 118) ∈ TT := TT_m (tq3 (List.mem_of_getElem? (i := 166) rfl)) rfl
theorem se118 : Cond.selects (CN 7) (mN 118) (mN 118) ∈ TT := TT_m (tq3 (List.mem_of_getElem? (i := 167) rfl)) rfl
theorem im119 : Cond.instanceMethod (mN 119) ∈ TT := TT_m (tq3 (List.mem_of_getElem? (i := 171) rfl)) rfl
theorem se119 : Cond.selects (CN 7) (mN 119) (mN 119) ∈ TT := TT_m (tqp (List.mem_of_getElem? (i := 15) rfl)) rfl
theorem im120 : Cond.instanceMethod (mN 120) ∈ TT := TT_m (tq3 (List.mem_of_getElem? (i := 177) rfl)) rfl
theorem se120 : Cond.selects (CN 7) (mN 120) (mN 120) ∈ TT := TT_m (tq3 (List.mem_of_getElem? (i := 178) rfl)) rfl
theorem im121 : Cond.instanceMethod (mN 121) ∈ TT := TT_m (tq3 (List.mem_of_getElem? (i := 181) rfl)) rfl
theorem se121 : Cond.selects (CN 7) (mN 121) (mN 121) ∈ TT := TT_m (tq3 (List.mem_of_getElem? (i := 182) rfl)) rfl
theorem im122 : Cond.instanceMethod (mN 122) ∈ TT := TT_m (tq3 (List.mem_of_getElem? (i := 192) rfl)) rfl
theorem se122 : Cond.selects (CN 7) (mN 122) (mN 122) ∈ TT := TT_m (tq3 (List.mem_of_getElem? (i := 193) rfl)) rfl
theorem im123 : Cond.instanceMethod (mN 123) ∈ TT := TT_m (tq3 (List.mem_of_getElem? (i := 197) rfl)) rfl
theorem se123 : Cond.selects (CN 7) (mN 123) (mN 123) ∈ TT := TT_m (tq3 (List.mem_of_getElem? (i := 198) rfl)) rfl
theorem im124 : Cond.instanceMethod (mN 124) ∈ TT := TT_m (tq3 (List.mem_of_getElem? (i := 201) rfl)) rfl
theorem se124 : Cond.selects (CN 7) (mN 124) (mN 124) ∈ TT := TT_m (tq3 (List.mem_of_getElem? (i := 202) rfl)) rfl
theorem st125 : Cond.static (mN 125) ∈ TT := TT_m (tq3 (List.mem_of_getElem? (i := 189) rfl)) rfl
theorem im126 : Cond.instanceMethod (mN 126) ∈ TT := TT_m (tq3 (List.mem_of_getElem? (i := 186) rfl)) rfl
theorem se126 : Cond.selects (CN 7) (mN 126) (mN 126) ∈ TT := TT_m (tqp (List.mem_of_getElem? (i := 16) rfl)) rfl
theorem im127 : Cond.instanceMethod (mN 127) ∈ TT := TT_m (tq3 (List.mem_of_getElem? (i := 208) rfl)) rfl
theorem se127 : Cond.selects (CN 7) (mN 127) (mN 127) ∈ TT := TT_m (tq3 (List.mem_of_getElem? (i := 209) rfl)) rfl
theorem im128 : Cond.instanceMethod (mN 128) ∈ TT := TT_m (tq3 (List.mem_of_getElem? (i := 222) rfl)) rfl
theorem se128 : Cond.selects (CN 7) (mN 128) (mN 128) ∈ TT := TT_m (tq3 (List.mem_of_getElem? (i := 223) rfl)) rfl
theorem im129 : Cond.instanceMethod (mN 129) ∈ TT := TT_m (tq3 (List.mem_of_getElem? (i := 234) rfl)) rfl
theorem se129 : Cond.selects (CN 7) (mN 129) (mN 129) ∈ TT := TT_m (tq3 (List.mem_of_getElem? (i := 235) rfl)) rfl
theorem im130 : Cond.instanceMethod (mN 130) ∈ TT := TT_m (tq4 (List.mem_of_getElem? (i := 2) rfl)) rfl
theorem se130 : Cond.selects (CN 7) (mN 130) (mN 130) ∈ TT := TT_m (tq4 (List.mem_of_getElem? (i := 3) rfl)) rfl
theorem im131 : Cond.instanceMethod (mN 131) ∈ TT := TT_m (tq4 (List.mem_of_getElem? (i := 10) rfl)) rfl
theorem se131 : Cond.selects (CN 7) (mN 131) (mN 131) ∈ TT := TT_m (tq4 (List.mem_of_getElem? (i := 11) rfl)) rfl
theorem im132 : Cond.instanceMethod (mN 132) ∈ TT := TT_m (tq4 (List.mem_of_getElem? (i := 18) rfl)) rfl
theorem se132 : Cond.selects (CN 7) (mN 132) (mN 132) ∈ TT := TT_m (tq4 (List.mem_of_getElem? (i := 19) rfl)) rfl
theorem im133 : Cond.instanceMethod (mN 133) ∈ TT := TT_m (tq4 (List.mem_of_getElem? (i := 103) rfl)) rfl
theorem se133 : Cond.selects (CN 7) (mN 133) (mN 133) ∈ TT := TT_m (tq4 (List.mem_of_getElem? (i := 104) rfl)) rfl
theorem im134 : Cond.instanceMethod (mN 134) ∈ TT := TT_m (tq4 (List.mem_of_getElem? (i := 115) rfl)) rfl
theorem se134 : Cond.selects (CN 7) (mN 134) (mN 134) ∈ TT := TT_m (tq4 (List.mem_of_getElem? (i := 116) rfl)) rfl
theorem im135 : Cond.instanceMethod (mN 135) ∈ TT := TT_m (tq4 (List.mem_of_getElem? (i := 119) rfl)) rfl
theorem se135 : Cond.selects (CN 7) (mN 135) (mN 135) ∈ TT := TT_m (tq4 (List.mem_of_getElem? (i := 120) rfl)) rfl
theorem im136 : Cond.instanceMethod (mN 136) ∈ TT := TT_m (tq4 (List.mem_of_getElem? (i := 123) rfl)) rfl
theorem se136 : Cond.selects (CN 7) (mN 136) (mN 136) ∈ TT := TT_m (tq4 (List.mem_of_getElem? (i := 124) rfl)) rfl
theorem im137 : Cond.instanceMethod (mN 137) ∈ TT := TT_m (tq4 (List.mem_of_getElem? (i := 127) rfl)) rfl
theorem se137 : Cond.selects (CN 7) (mN 137) (mN 137) ∈ TT := TT_m (tq4 (List.mem_of_getElem? (i := 128) rfl)) rfl
theorem im138 : Cond.instanceMethod (mN 138) ∈ TT := TT_m (tq4 (List.mem_of_getElem? (i := 145) rfl)) rfl
theorem se138 : Cond.selects (CN 7) (mN 138) (mN 138) ∈ TT := TT_m (tq4 (List.mem_of_getElem? (i := 146) rfl)) rfl
theorem im139 : Cond.instanceMethod (mN 139) ∈ TT := TT_m (tq4 (List.mem_of_getElem? (i := 149) rfl)) rfl
theorem se139 : Cond.selects (CN 7) (mN 139) (mN 139) ∈ TT := TT_m (tq4 (List.mem_of_getElem? (i := 150) rfl)) rfl
theorem im140 : Cond.instanceMethod (mN 140) ∈ TT := TT_m (tq4 (List.mem_of_getElem? (i := 155) rfl)) rfl
theorem st141 : Cond.static (mN 141) ∈ TT := TT_m (tq5 (List.mem_of_getElem? (i := 103) rfl)) rfl
theorem st142 : Cond.static (mN 142) ∈ TT := TT_m (tq5 (List.mem_of_getElem? (i := 99) rfl)) rfl
theorem im143 : Cond.instanceMethod (mN 143) ∈ TT := TT_m (tq5 (List.mem_of_getElem? (i := 161) rfl)) rfl
theorem se143 : Cond.selects (CN 8) (mN 143) (mN 143) ∈ TT := TT_m (tqp (List.mem_of_getElem? (i := 45) rfl)) rfl
theorem im144 : Cond.instanceMethod (mN 144) ∈ TT := TT_m (tq5 (List.mem_of_getElem? (i := 170) rfl)) rfl
theorem se144 : Cond.selects (CN 8) (mN 144) (mN 144) ∈ TT := TT_m (tqp (List.mem_of_getElem? (i := 46) rfl)) rfl
theorem st145 : Cond.static (mN 145) ∈ TT := TT_m (tq6 (List.mem_of_getElem? (i := 19) rfl)) rfl
theorem im146 : Cond.instanceMethod (mN 146) ∈ TT := TT_m (tq4 (List.mem_of_getElem? (i := 172) rfl)) rfl
theorem se146 : Cond.selects (CN 8) (mN 146) (mN 146) ∈ TT := TT_m (tqp (List.mem_of_getElem? (i := 38) rfl)) rfl
theorem im147 : Cond.instanceMethod (mN 147) ∈ TT := TT_m (tq5 (List.mem_of_getElem? (i := 107) rfl)) rfl
theorem se147 : Cond.selects (CN 8) (mN 147) (mN 147) ∈ TT := TT_m (tqp (List.mem_of_getElem? (i := 42) rfl)) rfl
theorem st148 : Cond.static (mN 148) ∈ TT := TT_m (tq5 (List.mem_of_getElem? (i := 141) rfl)) rfl
theorem st149 : Cond.static (mN 149) ∈ TT := TT_m (tq5 (List.mem_of_getElem? (i := 126) rfl)) rfl
theorem im150 : Cond.instanceMethod (mN 150) ∈ TT := TT_m (tq4 (List.mem_of_getElem? (i := 180) rfl)) rfl
theorem se150 : Cond.selects (CN 8) (mN 150) (mN 150) ∈ TT := TT_m (tqp (List.mem_of_getElem? (i := 40) rfl)) rfl
theorem im151 : Cond.instanceMethod (mN 151) ∈ TT := TT_m (tq4 (List.mem_of_getElem? (i := 176) rfl)) rfl
theorem se151 : Cond.selects (CN 8) (mN 151) (mN 151) ∈ TT := TT_m (tqp (List.mem_of_getElem? (i := 39) rfl)) rfl
theorem im152 : Cond.instanceMethod (mN 152) ∈ TT := TT_m (tq4 (List.mem_of_getElem? (i := 168) rfl)) rfl
theorem se152 : Cond.selects (CN 8) (mN 152) (mN 152) ∈ TT := TT_m (tqp (List.mem_of_getElem? (i := 37) rfl)) rfl
theorem im153 : Cond.instanceMethod (mN 153) ∈ TT := TT_m (tq4 (List.mem_of_getElem? (i := 164) rfl)) rfl
theorem se153 : Cond.selects (CN 8) (mN 153) (mN 153) ∈ TT := TT_m (tqp (List.mem_of_getElem? (i := 36) rfl)) rfl
theorem im154 : Cond.instanceMethod (mN 154) ∈ TT := TT_m (tq4 (List.mem_of_getElem? (i := 160) rfl)) rfl
theorem se154 : Cond.selects (CN 8) (mN 154) (mN 154) ∈ TT := TT_m (tqp (List.mem_of_getElem? (i := 35) rfl)) rfl
theorem im155 : Cond.instanceMethod (mN 155) ∈ TT := TT_m (tq5 (List.mem_of_getElem? (i := 149) rfl)) rfl
theorem se155 : Cond.selects (CN 8) (mN 155) (mN 155) ∈ TT := TT_m (tqp (List.mem_of_getElem? (i := 44) rfl)) rfl
theorem im156 : Cond.instanceMethod (mN 156) ∈ TT := TT_m (tq4 (List.mem_of_getElem? (i := 184) rfl)) rfl
theorem se156 : Cond.selects (CN 8) (mN 156) (mN 156) ∈ TT := TT_m (tqp (List.mem_of_getElem? (i := 41) rfl)) rfl
theorem im157 : Cond.instanceMethod (mN 157) ∈ TT := TT_m (tq5 (List.mem_of_getElem? (i := 113) rfl)) rfl
theorem se157 : Cond.selects (CN 8) (mN 157) (mN 157) ∈ TT := TT_m (tqp (List.mem_of_getElem? (i := 43) rfl)) rfl
theorem im158 : Cond.instanceMethod (mN 158) ∈ TT := TT_m (tq5 (List.mem_of_getElem? (i := 95) rfl)) rfl
theorem se158 : Cond.selects (CN 8) (mN 158) (mN 158) ∈ TT := TT_m (tq5 (List.mem_of_getElem? (i := 96) rfl)) rfl
theorem im159 : Cond.instanceMethod (mN 159) ∈ TT := TT_m (tq5 (List.mem_of_getElem? (i := 116) rfl)) rfl
theorem se159 : Cond.selects (CN 8) (mN 159) (mN 159) ∈ TT := TT_m (tq5 (List.mem_of_getElem? (i := 117) rfl)) rfl
theorem im160 : Cond.instanceMethod (mN 160) ∈ TT := TT_m (tq5 (List.mem_of_getElem? (i := 122) rfl)) rfl
theorem se160 : Cond.selects (CN 8) (mN 160) (mN 160) ∈ TT := TT_m (tq5 (List.mem_of_getElem? (i := 123) rfl)) rfl
theorem im161 : Cond.instanceMethod (mN 161) ∈ TT := TT_m (tq5 (List.mem_of_getElem? (i := 129) rfl)) rfl
theorem se161 : Cond.selects (CN 8) (mN 161) (mN 161) ∈ TT := TT_m (tq5 (List.mem_of_getElem? (i := 130) rfl)) rfl
theorem im162 : Cond.instanceMethod (mN 162) ∈ TT := TT_m (tq5 (List.mem_of_getElem? (i := 133) rfl)) rfl
theorem se162 : Cond.selects (CN 8) (mN 162) (mN 162) ∈ TT := TT_m (tq5 (List.mem_of_getElem? (i := 134) rfl)) rfl
theorem im163 : Cond.instanceMethod (mN 163) ∈ TT := TT_m (tq5 (List.mem_of_getElem? (i := 137) rfl)) rfl
theorem se163 : Cond.selects (CN 8) (mN 163) (mN 163) ∈ TT := TT_m (tq5 (List.mem_of_getElem? (i := 138) rfl)) rfl
theorem im164 : Cond.instanceMethod (mN 164) ∈ TT := TT_m (tq5 (List.mem_of_getElem? (i := 144) rfl)) rfl
theorem se164 : Cond.selects (CN 8) (mN 164) (mN 164) ∈ TT := TT_m (tq5 (List.mem_of_getElem? (i := 145) rfl)) rfl
theorem im165 : Cond.instanceMethod (mN 165) ∈ TT := TT_m (tq5 (List.mem_of_getElem? (i := 152) rfl)) rfl
theorem se165 : Cond.selects (CN 8) (mN 165) (mN 165) ∈ TT := TT_m (tq5 (List.mem_of_getElem? (i := 153) rfl)) rfl
theorem im166 : Cond.instanceMethod (mN 166) ∈ TT := TT_m (tq5 (List.mem_of_getElem? (i := 156) rfl)) rfl
theorem se166 : Cond.selects (CN 8) (mN 166) (mN 166) ∈ TT := TT_m (tq5 (List.mem_of_getElem? (i := 157) rfl)) rfl
theorem im167 : Cond.instanceMethod (mN 167) ∈ TT := TT_m (tq5 (List.mem_of_getElem? (i := 165) rfl)) rfl
theorem se167 : Cond.selects (CN 8) (mN 167) (mN 167) ∈ TT := TT_m (tq5 (List.mem_of_getElem? (i := 166) rfl)) rfl
theorem im168 : Cond.instanceMethod (mN 168) ∈ TT := TT_m (tq5 (List.mem_of_getElem? (i := 173) rfl)) rfl
theorem se168 : Cond.selects (CN 8) (mN 168) (mN 168) ∈ TT := TT_m (tq5 (List.mem_of_getElem? (i := 174) rfl)) rfl
theorem im169 : Cond.instanceMethod (mN 169) ∈ TT := TT_m (tq5 (List.mem_of_getElem? (i := 177) rfl)) rfl
theorem se169 : Cond.selects (CN 8) (mN 169) (mN 169) ∈ TT := TT_m (tq5 (List.mem_of_getElem? (i := 178) rfl)) rfl
theorem im170 : Cond.instanceMethod (mN 170) ∈ TT := TT_m (tq5 (List.mem_of_getElem? (i := 181) rfl)) rfl
theorem se170 : Cond.selects (CN 8) (mN 170) (mN 170) ∈ TT := TT_m (tq5 (List.mem_of_getElem? (i := 182) rfl)) rfl
theorem im171 : Cond.instanceMethod (mN 171) ∈ TT := TT_m (tq5 (List.mem_of_getElem? (i := 185) rfl)) rfl
theorem se171 : Cond.selects (CN 8) (mN 171) (mN 171) ∈ TT := TT_m (tq5 (List.mem_of_getElem? (i := 186) rfl)) rfl
theorem im172 : Cond.instanceMethod (mN 172) ∈ TT := TT_m (tq5 (List.mem_of_getElem? (i := 199) rfl)) rfl
theorem se172 : Cond.selects (CN 8) (mN 172) (mN 172) ∈ TT := TT_m (tqp (List.mem_of_getElem? (i := 48) rfl)) rfl
theorem im173 : Cond.instanceMethod (mN 173) ∈ TT := TT_m (tq5 (List.mem_of_getElem? (i := 195) rfl)) rfl
theorem se173 : Cond.selects (CN 8) (mN 173) (mN 173) ∈ TT := TT_m (tqp (List.mem_of_getElem? (i := 47) rfl)) rfl
theorem im174 : Cond.instanceMethod (mN 174) ∈ TT := TT_m (tq5 (List.mem_of_getElem? (i := 190) rfl)) rfl
theorem se174 : Cond.selects (CN 8) (mN 174) (mN 174) ∈ TT := TT_m (tq5 (List.mem_of_getElem? (i := 191) rfl)) rfl
theorem im175 : Cond.instanceMethod (mN 175) ∈ TT := TT_m (tq5 (List.mem_of_getElem? (i := 202) rfl)) rfl
theorem se175 : Cond.selects (CN 8) (mN 175) (mN 175) ∈ TT := TT_m (tq5 (List.mem_of_getElem? (i := 203) rfl)) rfl
theorem im176 : Cond.instanceMethod (mN 176) ∈ TT := TT_m (tq5 (List.mem_of_getElem? (i := 207) rfl)) rfl
theorem se176 : Cond.selects (CN 8) (mN 176) (mN 176) ∈ TT := TT_m (tq5 (List.mem_of_getElem? (i := 208) rfl)) rfl
theorem st177 : Cond.static (mN 177) ∈ TT := TT_m (tq5 (List.mem_of_getElem? (i := 216) rfl)) rfl
theorem im178 : Cond.instanceMethod (mN 178) ∈ TT := TT_m (tq5 (List.mem_of_getElem? (i := 211) rfl)) rfl
theorem se178 : Cond.selects (CN 8) (mN 178) (mN 178) ∈ TT := TT_m (tq5 (List.mem_of_getElem? (i := 212) rfl)) rfl
theorem st179 : Cond.static (mN 179) ∈ TT := TT_m (tq5 (List.mem_of_getElem? (i := 220) rfl)) rfl
theorem im180 : Cond.instanceMethod (mN 180) ∈ TT := TT_m (tq5 (List.mem_of_getElem? (i := 228) rfl)) rfl
theorem se180 : Cond.selects (CN 8) (mN 180) (mN 180) ∈ TT := TT_m (tqp (List.mem_of_getElem? (i := 49) rfl)) rfl
theorem im181 : Cond.instanceMethod (mN 181) ∈ TT := TT_m (tq5 (List.mem_of_getElem? (i := 223) rfl)) rfl
theorem se181 : Cond.selects (CN 8) (mN 181) (mN 181) ∈ TT := TT_m (tq5 (List.mem_of_getElem? (i := 224) rfl)) rfl
theorem im182 : Cond.instanceMethod (mN 182) ∈ TT := TT_m (tq5 (List.mem_of_getElem? (i := 236) rfl)) rfl
theorem se182 : Cond.selects (CN 8) (mN 182) (mN 182) ∈ TT := TT_m (tqp (List.mem_of_getElem? (i := 50) rfl)) rfl
theorem im183 : Cond.instanceMethod (mN 183) ∈ TT := TT_m (tq6 (List.mem_of_getElem? (i := 0) rfl)) rfl
theorem se183 : Cond.selects (CN 8) (mN 183) (mN 183) ∈ TT := TT_m (tqp (List.mem_of_getElem? (i := 51) rfl)) rfl
theorem im184 : Cond.instanceMethod (mN 184) ∈ TT := TT_m (tq5 (List.mem_of_getElem? (i := 231) rfl)) rfl
theorem se184 : Cond.selects (CN 8) (mN 184) (mN 184) ∈ TT := TT_m (tq5 (List.mem_of_getElem? (i := 232) rfl)) rfl
theorem im185 : Cond.instanceMethod (mN 185) ∈ TT := TT_m (tq6 (List.mem_of_getElem? (i := 3) rfl)) rfl
theorem se185 : Cond.selects (CN 8) (mN 185) (mN 185) ∈ TT := TT_m (tq6 (List.mem_of_getElem? (i := 4) rfl)) rfl
theorem im186 : Cond.instanceMethod (mN 186) ∈ TT := TT_m (tq6 (List.mem_of_getElem? (i := 7) rfl)) rfl
theorem se186 : Cond.selects (CN 8) (mN 186) (mN 186) ∈ TT := TT_m (tq6 (List.mem_of_getElem? (i := 8) rfl)) rfl
theorem im187 : Cond.instanceMethod (mN 187) ∈ TT := TT_m (tq6 (List.mem_of_getElem? (i := 16) rfl)) rfl
theorem se187 : Cond.selects (CN 8) (mN 187) (mN 187) ∈ TT := TT_m (tqp (List.mem_of_getElem? (i := 52) rfl)) rfl
theorem im188 : Cond.instanceMethod (mN 188) ∈ TT := TT_m (tq6 (List.mem_of_getElem? (i := 11) rfl)) rfl
theorem se188 : Cond.selects (CN 8) (mN 188) (mN 188) ∈ TT := TT_m (tq6 (List.mem_of_getElem? (i := 12) rfl)) rfl
theorem im189 : Cond.instanceMethod (mN 189) ∈ TT := TT_m (tq6 (List.mem_of_getElem? (i := 22) rfl)) rfl
theorem se189 : Cond.selects (CN 8) (mN 189) (mN 189) ∈ TT := TT_m (tq6 (List.mem_of_getElem? (i := 23) rfl)) rfl
theorem im190 : Cond.instanceMethod (mN 190) ∈ TT := TT_m (tq6 (List.mem_of_getElem? (i := 26) rfl)) rfl
theorem se190 : Cond.selects (CN 8) (mN 190) (mN 190) ∈ TT := TT_m (tq6 (List.mem_of_getElem? (i := 27) rfl)) rfl
theorem im191 : Cond.instanceMethod (mN 191) ∈ TT := TT_m (tq6 (List.mem_of_getElem? (i := 30) rfl)) rfl
theorem se191 : Cond.selects (CN 8) (mN 191) (mN 191) ∈ TT := TT_m (tq6 (List.mem_of_getElem? (i := 31) rfl)) rfl
theorem im192 : Cond.instanceMethod (mN 192) ∈ TT := TT_m (tq6 (List.mem_of_getElem? (i := 39) rfl)) rfl
theorem se192 : Cond.selects (CN 8) (mN 192) (mN 192) ∈ TT := TT_m (tqp (List.mem_of_getElem? (i := 53) rfl)) rfl
theorem im193 : Cond.instanceMethod (mN 193) ∈ TT := TT_m (tq6 (List.mem_of_getElem? (i := 34) rfl)) rfl
theorem se193 : Cond.selects (CN 8) (mN 193) (mN 193) ∈ TT := TT_m (tq6 (List.mem_of_getElem? (i := 35) rfl)) rfl
theorem im194 : Cond.instanceMethod (mN 194) ∈ TT := TT_m (tq6 (List.mem_of_getElem? (i := 42) rfl)) rfl
theorem se194 : Cond.selects (CN 8) (mN 194) (mN 194) ∈ TT := TT_m (tq6 (List.mem_of_getElem? (i := 43) rfl)) rfl
theorem im195 : Cond.instanceMethod (mN 195) ∈ TT := TT_m (tq6 (List.mem_of_getElem? (i := 46) rfl)) rfl
theorem se195 : Cond.selects (CN 8) (mN 195) (mN 195) ∈ TT := TT_m (tq6 (List.mem_of_getElem? (i := 47) rfl)) rfl
theorem im196 : Cond.instanceMethod (mN 196) ∈ TT := TT_m (tq6 (List.mem_of_getElem? (i := 50) rfl)) rfl
theorem se196 : Cond.selects (CN 8) (mN 196) (mN 196) ∈ TT := TT_m (tq6 (List.mem_of_getElem? (i := 51) rfl)) rfl
theorem im197 : Cond.instanceMethod (mN 197) ∈ TT := TT_m (tq6 (List.mem_of_getElem? (i := 56) rfl)) rfl
theorem se197 : Cond.selects (CN 8) (mN 197) (mN 197) ∈ TT := TT_m (tq6 (List.mem_of_getElem? (i := 57) rfl)) rfl
theorem im198 : Cond.instanceMethod (mN 198) ∈ TT := TT_m (tq6 (List.mem_of_getElem? (i := 77) rfl)) rfl
theorem se198 : Cond.selects (CN 8) (mN 198) (mN 198) ∈ TT := TT_m (tqp (List.mem_of_getElem? (i := 57) rfl)) rfl
theorem im199 : Cond.instanceMethod (mN 199) ∈ TT := TT_m (tq6 (List.mem_of_getElem? (i := 91) rfl)) rfl
theorem se199 : Cond.selects (CN 8) (mN 199) (mN 199) ∈ TT := TT_m (tqp (List.mem_of_getElem? (i := 60) rfl)) rfl
theorem im200 : Cond.instanceMethod (mN 200) ∈ TT := TT_m (tq6 (List.mem_of_getElem? (i := 65) rfl)) rfl
theorem se200 : Cond.selects (CN 8) (mN 200) (mN 200) ∈ TT := TT_m (tqp (List.mem_of_getElem? (i := 54) rfl)) rfl
theorem im201 : Cond.instanceMethod (mN 201) ∈ TT := TT_m (tq6 (List.mem_of_getElem? (i := 69) rfl)) rfl
theorem se201 : Cond.selects (CN 8) (mN 201) (mN 201) ∈ TT := TT_m (tqp (List.mem_of_getElem? (i := 55) rfl)) rfl
theorem im202 : Cond.instanceMethod (mN 202) ∈ TT := TT_m (tq6 (List.mem_of_getElem? (i := 81) rfl)) rfl
theorem se202 : Cond.selects (CN 8) (mN 202) (mN 202) ∈ TT := TT_m (tqp (List.mem_of_getElem? (i := 58) rfl)) rfl
theorem im203 : Cond.instanceMethod (mN 203) ∈ TT := TT_m (tq6 (List.mem_of_getElem? (i := 87) rfl)) rfl
theorem se203 : Cond.selects (CN 8) (mN 203) (mN 203) ∈ TT := TT_m (tqp (List.mem_of_getElem? (i := 59) rfl)) rfl
theorem im204 : Cond.instanceMethod (mN 204) ∈ TT := TT_m (tq6 (List.mem_of_getElem? (i := 73) rfl)) rfl
theorem se204 : Cond.selects (CN 8) (mN 204) (mN 204) ∈ TT := TT_m (tqp (List.mem_of_getElem? (i := 56) rfl)) rfl
theorem im205 : Cond.instanceMethod (mN 205) ∈ TT := TT_m (tq6 (List.mem_of_getElem? (i := 116) rfl)) rfl
theorem se205 : Cond.selects (CN 8) (mN 205) (mN 205) ∈ TT := TT_m (tqp (List.mem_of_getElem? (i := 66) rfl)) rfl
theorem im206 : Cond.instanceMethod (mN 206) ∈ TT := TT_m (tq6 (List.mem_of_getElem? (i := 112) rfl)) rfl
theorem se206 : Cond.selects (CN 8) (mN 206) (mN 206) ∈ TT := TT_m (tqp (List.mem_of_getElem? (i := 65) rfl)) rfl
theorem im207 : Cond.instanceMethod (mN 207) ∈ TT := TT_m (tq6 (List.mem_of_getElem? (i := 100) rfl)) rfl
theorem se207 : Cond.selects (CN 8) (mN 207) (mN 207) ∈ TT := TT_m (tqp (List.mem_of_getElem? (i := 62) rfl)) rfl
theorem im208 : Cond.instanceMethod (mN 208) ∈ TT := TT_m (tq6 (List.mem_of_getElem? (i := 104) rfl)) rfl
theorem se208 : Cond.selects (CN 8) (mN 208) (mN 208) ∈ TT := TT_m (tqp (List.mem_of_getElem? (i := 63) rfl)) rfl
theorem im209 : Cond.instanceMethod (mN 209) ∈ TT := TT_m (tq6 (List.mem_of_getElem? (i := 120) rfl)) rfl
theorem se209 : Cond.selects (CN 8) (mN 209) (mN 209) ∈ TT := TT_m (tqp (List.mem_of_getElem? (i := 67) rfl)) rfl
theorem im210 : Cond.instanceMethod (mN 210) ∈ TT := TT_m (tq6 (List.mem_of_getElem? (i := 108) rfl)) rfl
theorem se210 : Cond.selects (CN 8) (mN 210) (mN 210) ∈ TT := TT_m (tqp (List.mem_of_getElem? (i := 64) rfl)) rfl
theorem im211 : Cond.instanceMethod (mN 211) ∈ TT := TT_m (tq6 (List.mem_of_getElem? (i := 96) rfl)) rfl
theorem se211 : Cond.selects (CN 8) (mN 211) (mN 211) ∈ TT := TT_m (tqp (List.mem_of_getElem? (i := 61) rfl)) rfl
theorem im212 : Cond.instanceMethod (mN 212) ∈ TT := TT_m (tq6 (List.mem_of_getElem? (i := 60) rfl)) rfl
theorem se212 : Cond.selects (CN 8) (mN 212) (mN 212) ∈ TT := TT_m (tq6 (List.mem_of_getElem? (i := 61) rfl)) rfl
theorem im213 : Cond.instanceMethod (mN 213) ∈ TT := TT_m (tq6 (List.mem_of_getElem? (i := 123) rfl)) rfl
theorem se213 : Cond.selects (CN 8) (mN 213) (mN 213) ∈ TT := TT_m (tq6 (List.mem_of_getElem? (i := 124) rfl)) rfl
theorem im214 : Cond.instanceMethod (mN 214) ∈ TT := TT_m (tq6 (List.mem_of_getElem? (i := 127) rfl)) rfl
theorem se214 : Cond.selects (CN 8) (mN 214) (mN 214) ∈ TT := TT_m (tq6 (List.mem_of_getElem? (i := 128) rfl)) rfl
theorem im215 : Cond.instanceMethod (mN 215) ∈ TT := TT_m (tq6 (List.mem_of_getElem? (i := 131) rfl)) rfl
theorem se215 : Cond.selects (CN 8) (mN 215) (mN 215) ∈ TT := TT_m (tq6 (List.mem_of_getElem? (i := 132) rfl)) rfl
theorem im216 : Cond.instanceMethod (mN 216) ∈ TT := TT_m (tq6 (List.mem_of_getElem? (i := 135) rfl)) rfl
theorem se216 : Cond.selects (CN 8) (mN 216) (mN 216) ∈ TT := TT_m (tq6 (List.mem_of_getElem? (i := 136) rfl)) rfl
theorem im217 : Cond.instanceMethod (mN 217) ∈ TT := TT_m (tq6 (List.mem_of_getElem? (i := 139) rfl)) rfl
theorem se217 : Cond.selects (CN 8) (mN 217) (mN 217) ∈ TT := TT_m (tq6 (List.mem_of_getElem? (i := 140) rfl)) rfl
theorem im218 : Cond.instanceMethod (mN 218) ∈ TT := TT_m (tq6 (List.mem_of_getElem? (i := 143) rfl)) rfl
theorem se218 : Cond.selects (CN 8) (mN 218) (mN 218) ∈ TT := TT_m (tq6 (List.mem_of_getElem? (i := 144) rfl)) rfl
theorem im219 : Cond.instanceMethod (mN 219) ∈ TT := TT_m (tq6 (List.mem_of_getElem? (i := 147) rfl)) rfl
theorem se219 : Cond.selects (CN 8) (mN 219) (mN 219) ∈ TT := TT_m (tq6 (List.mem_of_getElem? (i := 148) rfl)) rfl
theorem st220 : Cond.static (mN 220) ∈ TT := TT_m (tq2 (List.mem_of_getElem? (i := 5) rfl)) rfl
theorem st221 : Cond.static (mN 221) ∈ TT := TT_m (tq1 (List.mem_of_getElem? (i := 80) rfl)) rfl
theorem st222 : Cond.static (mN 222) ∈ TT := TT_m (tq3 (List.mem_of_getElem? (i := 205) rfl)) rfl
theorem st223 : Cond.static (mN 223) ∈ TT := TT_m (tq3 (List.mem_of_getElem? (i := 79) rfl)) rfl
theorem st224 : Cond.static (mN 224) ∈ TT := TT_m (tq1 (List.mem_of_getElem? (i := 216) rfl)) rfl
theorem im_obj : Cond.instanceMethod Lib.objectInit ∈ TT := TT_m (tq1 (List.mem_of_getElem? (i := 19) rfl)) rfl
theorem co_obj : Cond.code Lib.objectInit ⟨#[0xb1]⟩ 1 none ∈ TT := TT_m (tq1 (List.mem_of_getElem? (i := 20) rfl)) rfl
theorem na_copy : Cond.native arraycopyName ∈ TT := TT_m (tq3 (List.mem_of_getElem? (i := 175) rfl)) rfl
theorem st_copy : Cond.static arraycopyName ∈ TT := TT_m (tq3 (List.mem_of_getElem? (i := 174) rfl)) rfl
theorem in_copy : Cond.initialized "java/lang/System" ∈ TT := TT_m (tq1 (List.mem_of_getElem? (i := 12) rfl)) rfl
theorem ac_long : Cond.arrayClass .long ∈ TT := TT_m (tq1 (List.mem_of_getElem? (i := 46) rfl)) rfl
theorem ac_int : Cond.arrayClass .int ∈ TT := TT_m (tq1 (List.mem_of_getElem? (i := 96) rfl)) rfl
