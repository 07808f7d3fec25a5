/-! The tables say so of each method, of each entry of the pools -/
theorem cq_X0_0 : mCpO mD "RingedLights$Crossing" (0, 12, 0, 0, 0) := Or.inr (Or.inr ⟨_, rfl, by decide, mGd_in (i := 291) (by decide +kernel) rfl⟩)
theorem cq_X0_1 : mCpO mD "RingedLights$Crossing" (0, 23, 0, 1, 0) := Or.inr (Or.inr ⟨_, rfl, by decide, mGd_in (i := 293) (by decide +kernel) rfl⟩)
theorem cq_X0_2 : mCpO mD "RingedLights$Crossing" (0, 27, 0, 2, 0) := Or.inr (Or.inr ⟨_, rfl, by decide, mGd_in (i := 295) (by decide +kernel) rfl⟩)
theorem cq_X0_3 : mCpO mD "RingedLights$Crossing" (0, 33, 0, 3, 0) := Or.inr (Or.inr ⟨_, rfl, by decide, mGd_in (i := 297) (by decide +kernel) rfl⟩)
theorem cq_X0_4 : mCpO mD "RingedLights$Crossing" (0, 37, 0, 4, 0) := Or.inr (Or.inr ⟨_, rfl, by decide, mGd_in (i := 299) (by decide +kernel) rfl⟩)
theorem cq_X0_5 : mCpO mD "RingedLights$Crossing" (0, 41, 0, 5, 0) := Or.inr (Or.inr ⟨_, rfl, by decide, mGd_in (i := 301) (by decide +kernel) rfl⟩)
theorem cq_X0_6 : mCpO mD "RingedLights$Crossing" (0, 44, 0, 16, 0) := Or.inr (Or.inr ⟨_, rfl, by decide, mGd_in (i := 321) (by decide +kernel) rfl⟩)
theorem cq_X0_7 : mCpO mD "RingedLights$Crossing" (0, 62, 0, 6, 0) := Or.inr (Or.inr ⟨_, rfl, by decide, mGd_in (i := 303) (by decide +kernel) rfl⟩)
theorem cq_X0_8 : mCpO mD "RingedLights$Crossing" (0, 65, 0, 7, 0) := Or.inr (Or.inr ⟨_, rfl, by decide, mGd_in (i := 304) (by decide +kernel) rfl⟩)
theorem cq_X0_9 : mCpO mD "RingedLights$Crossing" (0, 68, 0, 8, 0) := Or.inr (Or.inr ⟨_, rfl, by decide, mGd_in (i := 306) (by decide +kernel) rfl⟩)
theorem cq_X0_10 : mCpO mD "RingedLights$Crossing" (0, 71, 0, 9, 0) := Or.inr (Or.inr ⟨_, rfl, by decide, mGd_in (i := 308) (by decide +kernel) rfl⟩)
theorem cq_X0_11 : mCpO mD "RingedLights$Crossing" (0, 74, 0, 10, 0) := Or.inr (Or.inr ⟨_, rfl, by decide, mGd_in (i := 309) (by decide +kernel) rfl⟩)
theorem cq_X0_12 : mCpO mD "RingedLights$Crossing" (0, 77, 0, 11, 0) := Or.inr (Or.inr ⟨_, rfl, by decide, mGd_in (i := 311) (by decide +kernel) rfl⟩)
theorem cq_X0_13 : mCpO mD "RingedLights$Crossing" (0, 80, 0, 12, 0) := Or.inr (Or.inr ⟨_, rfl, by decide, mGd_in (i := 313) (by decide +kernel) rfl⟩)
theorem cq_X0_14 : mCpO mD "RingedLights$Crossing" (0, 83, 0, 13, 0) := Or.inr (Or.inr ⟨_, rfl, by decide, mGd_in (i := 315) (by decide +kernel) rfl⟩)
theorem cq_X0_15 : mCpO mD "RingedLights$Crossing" (0, 86, 0, 14, 0) := Or.inr (Or.inr ⟨_, rfl, by decide, mGd_in (i := 317) (by decide +kernel) rfl⟩)
theorem cq_X0_16 : mCpO mD "RingedLights$Crossing" (0, 89, 0, 15, 0) := Or.inr (Or.inr ⟨_, rfl, by decide, mGd_in (i := 319) (by decide +kernel) rfl⟩)
theorem cq_X0_17 : mCpO mD "RingedLights$Crossing" (0, 93, 0, 17, 0) := Or.inr (Or.inr ⟨_, rfl, by decide, mGd_in (i := 323) (by decide +kernel) rfl⟩)
theorem cq_X0_18 : mCpO mD "RingedLights$Crossing" (0, 96, 0, 18, 0) := Or.inr (Or.inr ⟨_, rfl, by decide, mGd_in (i := 325) (by decide +kernel) rfl⟩)
theorem cq_X0_19 : mCpO mD "RingedLights$Crossing" (0, 127, 4, 1, 0) := Or.inr (Or.inr ⟨_, rfl, by decide, mGd_in (i := 234) (by decide +kernel) rfl⟩)
theorem cq_X0_20 : mCpO mD "RingedLights$Crossing" (0, 130, 4, 2, 0) := Or.inr (Or.inr ⟨_, rfl, by decide, mGd_in (i := 236) (by decide +kernel) rfl⟩)
theorem cq_X0_21 : mCpO mD "RingedLights$Crossing" (0, 133, 4, 3, 0) := Or.inr (Or.inr ⟨_, rfl, by decide, mGd_in (i := 238) (by decide +kernel) rfl⟩)
theorem cq_X0_22 : mCpO mD "RingedLights$Crossing" (0, 136, 4, 4, 0) := Or.inr (Or.inr ⟨_, rfl, by decide, mGd_in (i := 240) (by decide +kernel) rfl⟩)
theorem cq_X0_23 : mCpO mD "RingedLights$Crossing" (0, 139, 4, 5, 0) := Or.inr (Or.inr ⟨_, rfl, by decide, mGd_in (i := 242) (by decide +kernel) rfl⟩)
theorem cq_X0_24 : mCpO mD "RingedLights$Crossing" (0, 142, 4, 6, 0) := Or.inr (Or.inr ⟨_, rfl, by decide, mGd_in (i := 244) (by decide +kernel) rfl⟩)
theorem cq_X0_25 : mCpO mD "RingedLights$Crossing" (0, 145, 4, 7, 0) := Or.inr (Or.inr ⟨_, rfl, by decide, mGd_in (i := 246) (by decide +kernel) rfl⟩)
theorem cq_X0_26 : mCpO mD "RingedLights$Crossing" (0, 148, 4, 8, 0) := Or.inr (Or.inr ⟨_, rfl, by decide, mGd_in (i := 248) (by decide +kernel) rfl⟩)
theorem cq_X0_27 : mCpO mD "RingedLights$Crossing" (0, 159, 2, 3, 0) := Or.inr (Or.inr ⟨_, rfl, by decide, mGd_in (i := 136) (by decide +kernel) rfl⟩)
theorem cq_X0_28 : mCpO mD "RingedLights$Crossing" (0, 166, 2, 4, 0) := Or.inr (Or.inr ⟨_, rfl, by decide, mGd_in (i := 138) (by decide +kernel) rfl⟩)
theorem cq_X0_29 : mCpO mD "RingedLights$Crossing" (0, 189, 2, 0, 0) := Or.inr (Or.inr ⟨_, rfl, by decide, mGd_in (i := 125) (by decide +kernel) rfl⟩)
theorem cq_X0_30 : mCpO mD "RingedLights$Crossing" (0, 200, 2, 9, 0) := Or.inr (Or.inr ⟨_, rfl, by decide, mGd_in (i := 144) (by decide +kernel) rfl⟩)
theorem cq_X0_31 : mCpO mD "RingedLights$Crossing" (0, 203, 2, 11, 0) := Or.inr (Or.inr ⟨_, rfl, by decide, mGd_in (i := 148) (by decide +kernel) rfl⟩)
theorem cq_X0_32 : mCpO mD "RingedLights$Crossing" (0, 206, 2, 10, 0) := Or.inr (Or.inr ⟨_, rfl, by decide, mGd_in (i := 146) (by decide +kernel) rfl⟩)
theorem cq_X0_33 : mCpO mD "RingedLights$Crossing" (0, 237, 2, 1, 0) := Or.inr (Or.inr ⟨_, rfl, by decide, mGd_in (i := 130) (by decide +kernel) rfl⟩)
theorem cq_X0_34 : mCpO mD "RingedLights$Crossing" (0, 280, 2, 2, 0) := Or.inr (Or.inr ⟨_, rfl, by decide, mGd_in (i := 134) (by decide +kernel) rfl⟩)
theorem cq_X0_35 : mCpO mD "RingedLights$Crossing" (0, 314, 4, 0, 0) := Or.inr (Or.inr ⟨_, rfl, by decide, mGd_in (i := 232) (by decide +kernel) rfl⟩)
theorem cq_X0_36 : mCpO mD "RingedLights$Crossing" (2, 48, 52, 2, 2) := ⟨rfl, rfl, Or.inl (mGd_in (i := 1042) (by decide +kernel) rfl)⟩
theorem cq_X0_37 : mCpO mD "RingedLights$Crossing" (2, 52, 89, 2, 4) := ⟨rfl, rfl, Or.inl (mGd_in (i := 1043) (by decide +kernel) rfl)⟩
theorem cq_X0_38 : mCpO mD "RingedLights$Crossing" (2, 55, 48, 2, 1) := ⟨rfl, rfl, Or.inl (mGd_in (i := 1047) (by decide +kernel) rfl)⟩
theorem cq_X0_39 : mCpO mD "RingedLights$Crossing" (2, 58, 144, 2, 99) := ⟨rfl, rfl, Or.inr (mNest_in (i := 1052) (by decide +kernel) rfl)⟩
theorem cq_X0_40 : mCpO mD "RingedLights$Crossing" (2, 99, 47, 1, 1) := ⟨rfl, rfl, Or.inl (mGd_in (i := 653) (by decide +kernel) rfl)⟩
theorem cq_X0_41 : mCpO mD "RingedLights$Crossing" (2, 102, 145, 2, 99) := ⟨rfl, rfl, Or.inr (mNest_in (i := 657) (by decide +kernel) rfl)⟩
theorem cq_X0_42 : mCpO mD "RingedLights$Crossing" (2, 106, 40, 1, 0) := ⟨rfl, rfl, Or.inl (mGd_in (i := 658) (by decide +kernel) rfl)⟩
theorem cq_X0_43 : mCpO mD "RingedLights$Crossing" (2, 109, 2, 1, 0) := ⟨rfl, rfl, Or.inl (mGd_in (i := 662) (by decide +kernel) rfl)⟩
theorem cq_X0_44 : mCpO mD "RingedLights$Crossing" (2, 112, 61, 3, 2) := ⟨rfl, rfl, Or.inl (mGd_in (i := 666) (by decide +kernel) rfl)⟩
theorem cq_X0_45 : mCpO mD "RingedLights$Crossing" (2, 116, 150, 1, 99) := ⟨rfl, rfl, Or.inr (mNest_in (i := 667) (by decide +kernel) rfl)⟩
theorem cq_X0_46 : mCpO mD "RingedLights$Crossing" (2, 120, 92, 2, 4) := ⟨rfl, rfl, Or.inl (mGd_in (i := 670) (by decide +kernel) rfl)⟩
theorem cq_X0_47 : mCpO mD "RingedLights$Crossing" (2, 123, 91, 1, 4) := ⟨rfl, rfl, Or.inl (mGd_in (i := 694) (by decide +kernel) rfl)⟩
theorem cq_X0_48 : mCpO mD "RingedLights$Crossing" (2, 151, 31, 2, 0) := ⟨rfl, rfl, Or.inl (mGd_in (i := 698) (by decide +kernel) rfl)⟩
theorem cq_X0_49 : mCpO mD "RingedLights$Crossing" (2, 155, 25, 2, 0) := ⟨rfl, rfl, Or.inl (mGd_in (i := 706) (by decide +kernel) rfl)⟩
theorem cq_X0_50 : mCpO mD "RingedLights$Crossing" (2, 162, 142, 2, 99) := ⟨rfl, rfl, Or.inr (mNest_in (i := 735) (by decide +kernel) rfl)⟩
theorem cq_X0_51 : mCpO mD "RingedLights$Crossing" (2, 169, 5, 2, 0) := ⟨rfl, rfl, Or.inl (mGd_in (i := 736) (by decide +kernel) rfl)⟩
theorem cq_X0_52 : mCpO mD "RingedLights$Crossing" (2, 172, 10, 1, 0) := ⟨rfl, rfl, Or.inl (mGd_in (i := 741) (by decide +kernel) rfl)⟩
theorem cq_X0_53 : mCpO mD "RingedLights$Crossing" (2, 176, 149, 2, 99) := ⟨rfl, rfl, Or.inr (mNest_in (i := 740) (by decide +kernel) rfl)⟩
theorem cq_X0_54 : mCpO mD "RingedLights$Crossing" (2, 180, 11, 1, 0) := ⟨rfl, rfl, Or.inl (mGd_in (i := 745) (by decide +kernel) rfl)⟩
theorem cq_X0_55 : mCpO mD "RingedLights$Crossing" (2, 183, 68, 2, 2) := ⟨rfl, rfl, Or.inl (mGd_in (i := 710) (by decide +kernel) rfl)⟩
theorem cq_X0_56 : mCpO mD "RingedLights$Crossing" (2, 186, 63, 2, 2) := ⟨rfl, rfl, Or.inl (mGd_in (i := 749) (by decide +kernel) rfl)⟩
theorem cq_X0_57 : mCpO mD "RingedLights$Crossing" (2, 192, 277, 2, 99) := ⟨rfl, rfl, Or.inl (mGd_in (i := 776) (by decide +kernel) rfl)⟩
theorem cq_X0_58 : mCpO mD "RingedLights$Crossing" (2, 197, 7, 1, 0) := ⟨rfl, rfl, Or.inl (mGd_in (i := 783) (by decide +kernel) rfl)⟩
theorem cq_X0_59 : mCpO mD "RingedLights$Crossing" (2, 209, 14, 2, 0) := ⟨rfl, rfl, Or.inl (mGd_in (i := 788) (by decide +kernel) rfl)⟩
theorem cq_X0_60 : mCpO mD "RingedLights$Crossing" (2, 213, 147, 1, 99) := ⟨rfl, rfl, Or.inr (mNest_in (i := 792) (by decide +kernel) rfl)⟩
theorem cq_X0_61 : mCpO mD "RingedLights$Crossing" (2, 216, 146, 1, 99) := ⟨rfl, rfl, Or.inr (mNest_in (i := 1016) (by decide +kernel) rfl)⟩
theorem cq_X0_62 : mCpO mD "RingedLights$Crossing" (2, 220, 24, 1, 0) := ⟨rfl, rfl, Or.inl (mGd_in (i := 902) (by decide +kernel) rfl)⟩
theorem cq_X0_63 : mCpO mD "RingedLights$Crossing" (2, 223, 6, 2, 0) := ⟨rfl, rfl, Or.inl (mGd_in (i := 835) (by decide +kernel) rfl)⟩
theorem cq_X0_64 : mCpO mD "RingedLights$Crossing" (2, 226, 143, 3, 99) := ⟨rfl, rfl, Or.inr (mNest_in (i := 851) (by decide +kernel) rfl)⟩
theorem cq_X0_65 : mCpO mD "RingedLights$Crossing" (2, 230, 148, 3, 99) := ⟨rfl, rfl, Or.inr (mNest_in (i := 852) (by decide +kernel) rfl)⟩
theorem cq_X0_66 : mCpO mD "RingedLights$Crossing" (2, 234, 17, 2, 0) := ⟨rfl, rfl, Or.inl (mGd_in (i := 1091) (by decide +kernel) rfl)⟩
theorem cq_X0_67 : mCpO mD "RingedLights$Crossing" (2, 240, 276, 2, 99) := ⟨rfl, rfl, Or.inl (mGd_in (i := 715) (by decide +kernel) rfl)⟩
theorem cq_X0_68 : mCpO mD "RingedLights$Crossing" (2, 251, 57, 3, 2) := ⟨rfl, rfl, Or.inl (mGd_in (i := 702) (by decide +kernel) rfl)⟩
theorem cq_X0_69 : mCpO mD "RingedLights$Crossing" (2, 254, 16, 3, 0) := ⟨rfl, rfl, Or.inl (mGd_in (i := 918) (by decide +kernel) rfl)⟩
theorem cq_X0_70 : mCpO mD "RingedLights$Crossing" (2, 258, 22, 1, 0) := ⟨rfl, rfl, Or.inl (mGd_in (i := 894) (by decide +kernel) rfl)⟩
theorem cq_X0_71 : mCpO mD "RingedLights$Crossing" (2, 261, 23, 1, 0) := ⟨rfl, rfl, Or.inl (mGd_in (i := 898) (by decide +kernel) rfl)⟩
theorem cq_X0_72 : mCpO mD "RingedLights$Crossing" (2, 264, 26, 2, 0) := ⟨rfl, rfl, Or.inl (mGd_in (i := 906) (by decide +kernel) rfl)⟩
theorem cq_X0_73 : mCpO mD "RingedLights$Crossing" (2, 267, 37, 1, 0) := ⟨rfl, rfl, Or.inl (mGd_in (i := 932) (by decide +kernel) rfl)⟩
theorem cq_X0_74 : mCpO mD "RingedLights$Crossing" (2, 270, 32, 1, 0) := ⟨rfl, rfl, Or.inl (mGd_in (i := 986) (by decide +kernel) rfl)⟩
theorem cq_X0_75 : mCpO mD "RingedLights$Crossing" (2, 273, 29, 3, 0) := ⟨rfl, rfl, Or.inl (mGd_in (i := 962) (by decide +kernel) rfl)⟩
theorem cq_X0_76 : mCpO mD "RingedLights$Crossing" (2, 277, 30, 1, 0) := ⟨rfl, rfl, Or.inl (mGd_in (i := 1010) (by decide +kernel) rfl)⟩
theorem cq_X0_77 : mCpO mD "RingedLights$Crossing" (2, 283, 90, 1, 4) := ⟨rfl, rfl, Or.inl (mGd_in (i := 910) (by decide +kernel) rfl)⟩
theorem cq_X0_78 : mCpO mD "RingedLights$Crossing" (2, 286, 27, 2, 0) := ⟨rfl, rfl, Or.inl (mGd_in (i := 914) (by decide +kernel) rfl)⟩
theorem cq_X0_79 : mCpO mD "RingedLights$Crossing" (2, 289, 95, 3, 4) := ⟨rfl, rfl, Or.inl (mGd_in (i := 927) (by decide +kernel) rfl)⟩
theorem cq_X0_80 : mCpO mD "RingedLights$Crossing" (2, 292, 12, 1, 0) := ⟨rfl, rfl, Or.inl (mGd_in (i := 919) (by decide +kernel) rfl)⟩
theorem cq_X0_81 : mCpO mD "RingedLights$Crossing" (2, 295, 96, 3, 4) := ⟨rfl, rfl, Or.inl (mGd_in (i := 923) (by decide +kernel) rfl)⟩
theorem cq_X0_82 : mCpO mD "RingedLights$Crossing" (2, 298, 49, 4, 1) := ⟨rfl, rfl, Or.inl (mGd_in (i := 945) (by decide +kernel) rfl)⟩
theorem cq_X0_83 : mCpO mD "RingedLights$Crossing" (2, 302, 94, 2, 4) := ⟨rfl, rfl, Or.inl (mGd_in (i := 958) (by decide +kernel) rfl)⟩
theorem cq_X0_84 : mCpO mD "RingedLights$Crossing" (2, 305, 93, 3, 4) := ⟨rfl, rfl, Or.inl (mGd_in (i := 966) (by decide +kernel) rfl)⟩
theorem cq_X0_85 : mCpO mD "RingedLights$Crossing" (2, 308, 13, 1, 0) := ⟨rfl, rfl, Or.inl (mGd_in (i := 1014) (by decide +kernel) rfl)⟩
theorem cq_X0_86 : mCpO mD "RingedLights$Crossing" (2, 311, 65, 2, 2) := ⟨rfl, rfl, Or.inl (mGd_in (i := 1015) (by decide +kernel) rfl)⟩
theorem cq_X0_87 : mCpO mD "RingedLights$Crossing" (2, 317, 67, 2, 2) := ⟨rfl, rfl, Or.inl (mGd_in (i := 718) (by decide +kernel) rfl)⟩
theorem cq_X0_88 : mCpO mD "RingedLights$Crossing" (2, 320, 33, 3, 0) := ⟨rfl, rfl, Or.inl (mGd_in (i := 990) (by decide +kernel) rfl)⟩
theorem cq_X0_89 : mCpO mD "RingedLights$Crossing" (2, 324, 34, 2, 0) := ⟨rfl, rfl, Or.inl (mGd_in (i := 994) (by decide +kernel) rfl)⟩
theorem cq_X0_90 : mCpO mD "RingedLights$Crossing" (2, 327, 28, 3, 0) := ⟨rfl, rfl, Or.inl (mGd_in (i := 954) (by decide +kernel) rfl)⟩
theorem cq_X0_91 : mCpO mD "RingedLights$Crossing" (2, 331, 62, 2, 2) := ⟨rfl, rfl, Or.inl (mGd_in (i := 998) (by decide +kernel) rfl)⟩
theorem cq_X0_92 : mCpO mD "RingedLights$Crossing" (2, 334, 35, 4, 0) := ⟨rfl, rfl, Or.inl (mGd_in (i := 1002) (by decide +kernel) rfl)⟩
theorem cq_X0_93 : mCpO mD "RingedLights$Crossing" (2, 338, 36, 3, 0) := ⟨rfl, rfl, Or.inl (mGd_in (i := 1006) (by decide +kernel) rfl)⟩
theorem cq_X0_94 : mCpO mD "RingedLights$Crossing" (2, 341, 38, 1, 0) := ⟨rfl, rfl, Or.inl (mGd_in (i := 936) (by decide +kernel) rfl)⟩
theorem cq_X0_95 : mCpO mD "RingedLights$Crossing" (2, 344, 39, 2, 0) := ⟨rfl, rfl, Or.inl (mGd_in (i := 940) (by decide +kernel) rfl)⟩
theorem cq_X0_96 : mCpO mD "RingedLights$Crossing" (2, 347, 59, 3, 2) := ⟨rfl, rfl, Or.inl (mGd_in (i := 944) (by decide +kernel) rfl)⟩
theorem cq_X0_97 : mCpO mD "RingedLights$Crossing" (2, 350, 41, 2, 0) := ⟨rfl, rfl, Or.inl (mGd_in (i := 946) (by decide +kernel) rfl)⟩
theorem cq_X0_98 : mCpO mD "RingedLights$Crossing" (2, 353, 44, 1, 0) := ⟨rfl, rfl, Or.inl (mGd_in (i := 974) (by decide +kernel) rfl)⟩
theorem cq_X0_99 : mCpO mD "RingedLights$Crossing" (2, 356, 45, 1, 0) := ⟨rfl, rfl, Or.inl (mGd_in (i := 978) (by decide +kernel) rfl)⟩
theorem cq_X0_100 : mCpO mD "RingedLights$Crossing" (2, 359, 42, 3, 0) := ⟨rfl, rfl, Or.inl (mGd_in (i := 950) (by decide +kernel) rfl)⟩
theorem cq_X0_101 : mCpO mD "RingedLights$Crossing" (2, 362, 43, 3, 0) := ⟨rfl, rfl, Or.inl (mGd_in (i := 970) (by decide +kernel) rfl)⟩
theorem cq_X0_102 : mCpO mD "RingedLights$Crossing" (2, 365, 46, 1, 0) := ⟨rfl, rfl, Or.inl (mGd_in (i := 982) (by decide +kernel) rfl)⟩
theorem cq_X0_103 : mCpO mD "RingedLights$Crossing" (4, 243, 9301, 0, 0) := mGd_in (i := 1025) (by decide +kernel) rfl
theorem cq_X0_104 : mCpO mD "RingedLights$Crossing" (4, 245, 49297, 0, 0) := mGd_in (i := 1026) (by decide +kernel) rfl
theorem cq_X0_105 : mCpO mD "RingedLights$Crossing" (4, 247, 233280, 0, 0) := mGd_in (i := 1027) (by decide +kernel) rfl
theorem cq_X0_106 : mCpO mD "RingedLights$Crossing" (4, 249, 60, 0, 0) := mGd_in (i := 1028) (by decide +kernel) rfl
theorem co_X0 : ∀ q ∈ cp_X0, mCpO mD "RingedLights$Crossing" q := List.forall_mem_cons.mpr ⟨cq_X0_0, List.forall_mem_cons.mpr ⟨cq_X0_1, List.forall_mem_cons.mpr ⟨cq_X0_2, List.forall_mem_cons.mpr ⟨cq_X0_3, List.forall_mem_cons.mpr ⟨cq_X0_4, List.forall_mem_cons.mpr ⟨cq_X0_5, List.forall_mem_cons.mpr ⟨cq_X0_6, List.forall_mem_cons.mpr ⟨cq_X0_7, List.forall_mem_cons.mpr ⟨cq_X0_8, List.forall_mem_cons.mpr ⟨cq_X0_9, List.forall_mem_cons.mpr ⟨cq_X0_10, List.forall_mem_cons.mpr ⟨cq_X0_11, List.forall_mem_cons.mpr ⟨cq_X0_12, List.forall_mem_cons.mpr ⟨cq_X0_13, List.forall_mem_cons.mpr ⟨cq_X0_14, List.forall_mem_cons.mpr ⟨cq_X0_15, List.forall_mem_cons.mpr ⟨cq_X0_16, List.forall_mem_cons.mpr ⟨cq_X0_17, List.forall_mem_cons.mpr ⟨cq_X0_18, List.forall_mem_cons.mpr ⟨cq_X0_19, List.forall_mem_cons.mpr ⟨cq_X0_20, List.forall_mem_cons.mpr ⟨cq_X0_21, List.forall_mem_cons.mpr ⟨cq_X0_22, List.forall_mem_cons.mpr ⟨cq_X0_23, List.forall_mem_cons.mpr ⟨cq_X0_24, List.forall_mem_cons.mpr ⟨cq_X0_25, List.forall_mem_cons.mpr ⟨cq_X0_26, List.forall_mem_cons.mpr ⟨cq_X0_27, List.forall_mem_cons.mpr ⟨cq_X0_28, List.forall_mem_cons.mpr ⟨cq_X0_29, List.forall_mem_cons.mpr ⟨cq_X0_30, List.forall_mem_cons.mpr ⟨cq_X0_31, List.forall_mem_cons.mpr ⟨cq_X0_32, List.forall_mem_cons.mpr ⟨cq_X0_33, List.forall_mem_cons.mpr ⟨cq_X0_34, List.forall_mem_cons.mpr ⟨cq_X0_35, List.forall_mem_cons.mpr ⟨cq_X0_36, List.forall_mem_cons.mpr ⟨cq_X0_37, List.forall_mem_cons.mpr ⟨cq_X0_38, List.forall_mem_cons.mpr ⟨cq_X0_39, List.forall_mem_cons.mpr ⟨cq_X0_40, List.forall_mem_cons.mpr ⟨cq_X0_41, List.forall_mem_cons.mpr ⟨cq_X0_42, List.forall_mem_cons.mpr ⟨cq_X0_43, List.forall_mem_cons.mpr ⟨cq_X0_44, List.forall_mem_cons.mpr ⟨cq_X0_45, List.forall_mem_cons.mpr ⟨cq_X0_46, List.forall_mem_cons.mpr ⟨cq_X0_47, List.forall_mem_cons.mpr ⟨cq_X0_48, List.forall_mem_cons.mpr ⟨cq_X0_49, List.forall_mem_cons.mpr ⟨cq_X0_50, List.forall_mem_cons.mpr ⟨cq_X0_51, List.forall_mem_cons.mpr ⟨cq_X0_52, List.forall_mem_cons.mpr ⟨cq_X0_53, List.forall_mem_cons.mpr ⟨cq_X0_54, List.forall_mem_cons.mpr ⟨cq_X0_55, List.forall_mem_cons.mpr ⟨cq_X0_56, List.forall_mem_cons.mpr ⟨cq_X0_57, List.forall_mem_cons.mpr ⟨cq_X0_58, List.forall_mem_cons.mpr ⟨cq_X0_59, List.forall_mem_cons.mpr ⟨cq_X0_60, List.forall_mem_cons.mpr ⟨cq_X0_61, List.forall_mem_cons.mpr ⟨cq_X0_62, List.forall_mem_cons.mpr ⟨cq_X0_63, List.forall_mem_cons.mpr ⟨cq_X0_64, List.forall_mem_cons.mpr ⟨cq_X0_65, List.forall_mem_cons.mpr ⟨cq_X0_66, List.forall_mem_cons.mpr ⟨cq_X0_67, List.forall_mem_cons.mpr ⟨cq_X0_68, List.forall_mem_cons.mpr ⟨cq_X0_69, List.forall_mem_cons.mpr ⟨cq_X0_70, List.forall_mem_cons.mpr ⟨cq_X0_71, List.forall_mem_cons.mpr ⟨cq_X0_72, List.forall_mem_cons.mpr ⟨cq_X0_73, List.forall_mem_cons.mpr ⟨cq_X0_74, List.forall_mem_cons.mpr ⟨cq_X0_75, List.forall_mem_cons.mpr ⟨cq_X0_76, List.forall_mem_cons.mpr ⟨cq_X0_77, List.forall_mem_cons.mpr ⟨cq_X0_78, List.forall_mem_cons.mpr ⟨cq_X0_79, List.forall_mem_cons.mpr ⟨cq_X0_80, List.forall_mem_cons.mpr ⟨cq_X0_81, List.forall_mem_cons.mpr ⟨cq_X0_82, List.forall_mem_cons.mpr ⟨cq_X0_83, List.forall_mem_cons.mpr ⟨cq_X0_84, List.forall_mem_cons.mpr ⟨cq_X0_85, List.forall_mem_cons.mpr ⟨cq_X0_86, List.forall_mem_cons.mpr ⟨cq_X0_87, List.forall_mem_cons.mpr ⟨cq_X0_88, List.forall_mem_cons.mpr ⟨cq_X0_89, List.forall_mem_cons.mpr ⟨cq_X0_90, List.forall_mem_cons.mpr ⟨cq_X0_91, List.forall_mem_cons.mpr ⟨cq_X0_92, List.forall_mem_cons.mpr ⟨cq_X0_93, List.forall_mem_cons.mpr ⟨cq_X0_94, List.forall_mem_cons.mpr ⟨cq_X0_95, List.forall_mem_cons.mpr ⟨cq_X0_96, List.forall_mem_cons.mpr ⟨cq_X0_97, List.forall_mem_cons.mpr ⟨cq_X0_98, List.forall_mem_cons.mpr ⟨cq_X0_99, List.forall_mem_cons.mpr ⟨cq_X0_100, List.forall_mem_cons.mpr ⟨cq_X0_101, List.forall_mem_cons.mpr ⟨cq_X0_102, List.forall_mem_cons.mpr ⟨cq_X0_103, List.forall_mem_cons.mpr ⟨cq_X0_104, List.forall_mem_cons.mpr ⟨cq_X0_105, List.forall_mem_cons.mpr ⟨cq_X0_106, fun _ h => absurd h List.not_mem_nil⟩⟩⟩⟩⟩⟩⟩⟩⟩⟩⟩⟩⟩⟩⟩⟩⟩⟩⟩⟩⟩⟩⟩⟩⟩⟩⟩⟩⟩⟩⟩⟩⟩⟩⟩⟩⟩⟩⟩⟩⟩⟩⟩⟩⟩⟩⟩⟩⟩⟩⟩⟩⟩⟩⟩⟩⟩⟩⟩⟩⟩⟩⟩⟩⟩⟩⟩⟩⟩⟩⟩⟩⟩⟩⟩⟩⟩⟩⟩⟩⟩⟩⟩⟩⟩⟩⟩⟩⟩⟩⟩⟩⟩⟩⟩⟩⟩⟩⟩⟩⟩⟩⟩⟩⟩⟩⟩
theorem cq_X1_0 : mCpO mD "RingedLights$Log" (0, 9, 1, 0, 0) := Or.inr (Or.inr ⟨_, rfl, by decide, mGd_in (i := 274) (by decide +kernel) rfl⟩)
theorem cq_X1_1 : mCpO mD "RingedLights$Log" (0, 15, 1, 1, 0) := Or.inr (Or.inr ⟨_, rfl, by decide, mGd_in (i := 275) (by decide +kernel) rfl⟩)
theorem cq_X1_2 : mCpO mD "RingedLights$Log" (0, 18, 1, 2, 0) := Or.inr (Or.inr ⟨_, rfl, by decide, mGd_in (i := 276) (by decide +kernel) rfl⟩)
theorem cq_X1_3 : mCpO mD "RingedLights$Log" (0, 21, 1, 3, 0) := Or.inr (Or.inr ⟨_, rfl, by decide, mGd_in (i := 277) (by decide +kernel) rfl⟩)
theorem cq_X1_4 : mCpO mD "RingedLights$Log" (0, 25, 1, 4, 0) := Or.inr (Or.inr ⟨_, rfl, by decide, mGd_in (i := 279) (by decide +kernel) rfl⟩)
theorem cq_X1_5 : mCpO mD "RingedLights$Log" (2, 28, 144, 2, 99) := ⟨rfl, rfl, Or.inr (mNest_in (i := 1051) (by decide +kernel) rfl)⟩
theorem cq_X1_6 : mCpO mD "RingedLights$Log" (2, 32, 278, 2, 99) := ⟨rfl, rfl, Or.inl (mGd_in (i := 885) (by decide +kernel) rfl)⟩
theorem cq_X1_7 : mCpO mD "RingedLights$Log" (2, 38, 276, 2, 99) := ⟨rfl, rfl, Or.inl (mGd_in (i := 801) (by decide +kernel) rfl)⟩
theorem cq_X1_8 : mCpO mD "RingedLights$Log" (2, 41, 142, 2, 99) := ⟨rfl, rfl, Or.inr (mNest_in (i := 802) (by decide +kernel) rfl)⟩
theorem co_X1 : ∀ q ∈ cp_X1, mCpO mD "RingedLights$Log" q := List.forall_mem_cons.mpr ⟨cq_X1_0, List.forall_mem_cons.mpr ⟨cq_X1_1, List.forall_mem_cons.mpr ⟨cq_X1_2, List.forall_mem_cons.mpr ⟨cq_X1_3, List.forall_mem_cons.mpr ⟨cq_X1_4, List.forall_mem_cons.mpr ⟨cq_X1_5, List.forall_mem_cons.mpr ⟨cq_X1_6, List.forall_mem_cons.mpr ⟨cq_X1_7, List.forall_mem_cons.mpr ⟨cq_X1_8, fun _ h => absurd h List.not_mem_nil⟩⟩⟩⟩⟩⟩⟩⟩⟩
theorem cq_X2_0 : mCpO mD "RingedLights$Plan" (0, 9, 2, 3, 0) := Or.inr (Or.inr ⟨_, rfl, by decide, mGd_in (i := 135) (by decide +kernel) rfl⟩)
theorem cq_X2_1 : mCpO mD "RingedLights$Plan" (0, 15, 2, 4, 0) := Or.inr (Or.inr ⟨_, rfl, by decide, mGd_in (i := 137) (by decide +kernel) rfl⟩)
theorem cq_X2_2 : mCpO mD "RingedLights$Plan" (0, 18, 2, 5, 0) := Or.inr (Or.inr ⟨_, rfl, by decide, mGd_in (i := 139) (by decide +kernel) rfl⟩)
theorem cq_X2_3 : mCpO mD "RingedLights$Plan" (0, 21, 2, 6, 0) := Or.inr (Or.inr ⟨_, rfl, by decide, mGd_in (i := 140) (by decide +kernel) rfl⟩)
theorem cq_X2_4 : mCpO mD "RingedLights$Plan" (0, 24, 2, 7, 0) := Or.inr (Or.inr ⟨_, rfl, by decide, mGd_in (i := 141) (by decide +kernel) rfl⟩)
theorem cq_X2_5 : mCpO mD "RingedLights$Plan" (0, 27, 2, 8, 0) := Or.inr (Or.inr ⟨_, rfl, by decide, mGd_in (i := 142) (by decide +kernel) rfl⟩)
theorem cq_X2_6 : mCpO mD "RingedLights$Plan" (0, 30, 2, 0, 0) := Or.inr (Or.inr ⟨_, rfl, by decide, mGd_in (i := 123) (by decide +kernel) rfl⟩)
theorem cq_X2_7 : mCpO mD "RingedLights$Plan" (0, 34, 2, 9, 0) := Or.inr (Or.inr ⟨_, rfl, by decide, mGd_in (i := 143) (by decide +kernel) rfl⟩)
theorem cq_X2_8 : mCpO mD "RingedLights$Plan" (0, 37, 2, 10, 0) := Or.inr (Or.inr ⟨_, rfl, by decide, mGd_in (i := 145) (by decide +kernel) rfl⟩)
theorem cq_X2_9 : mCpO mD "RingedLights$Plan" (0, 40, 2, 11, 0) := Or.inr (Or.inr ⟨_, rfl, by decide, mGd_in (i := 147) (by decide +kernel) rfl⟩)
theorem cq_X2_10 : mCpO mD "RingedLights$Plan" (0, 43, 2, 1, 0) := Or.inr (Or.inr ⟨_, rfl, by decide, mGd_in (i := 127) (by decide +kernel) rfl⟩)
theorem cq_X2_11 : mCpO mD "RingedLights$Plan" (0, 46, 2, 2, 0) := Or.inr (Or.inr ⟨_, rfl, by decide, mGd_in (i := 131) (by decide +kernel) rfl⟩)
theorem cq_X2_12 : mCpO mD "RingedLights$Plan" (1, 76, 0, 29, 0) := Or.inl ⟨rfl, by decide, Or.inr (mNest_in (i := 537) (by decide +kernel) rfl)⟩
theorem cq_X2_13 : mCpO mD "RingedLights$Plan" (2, 49, 145, 2, 99) := ⟨rfl, rfl, Or.inr (mNest_in (i := 429) (by decide +kernel) rfl)⟩
theorem cq_X2_14 : mCpO mD "RingedLights$Plan" (2, 53, 144, 2, 99) := ⟨rfl, rfl, Or.inr (mNest_in (i := 642) (by decide +kernel) rfl)⟩
theorem cq_X2_15 : mCpO mD "RingedLights$Plan" (2, 57, 142, 2, 99) := ⟨rfl, rfl, Or.inr (mNest_in (i := 520) (by decide +kernel) rfl)⟩
theorem cq_X2_16 : mCpO mD "RingedLights$Plan" (2, 61, 63, 2, 2) := ⟨rfl, rfl, Or.inl (mGd_in (i := 523) (by decide +kernel) rfl)⟩
theorem cq_X2_17 : mCpO mD "RingedLights$Plan" (2, 65, 147, 1, 99) := ⟨rfl, rfl, Or.inr (mNest_in (i := 527) (by decide +kernel) rfl)⟩
theorem cq_X2_18 : mCpO mD "RingedLights$Plan" (2, 68, 143, 3, 99) := ⟨rfl, rfl, Or.inr (mNest_in (i := 530) (by decide +kernel) rfl)⟩
theorem cq_X2_19 : mCpO mD "RingedLights$Plan" (2, 72, 61, 3, 2) := ⟨rfl, rfl, Or.inl (mGd_in (i := 533) (by decide +kernel) rfl)⟩
theorem cq_X2_20 : mCpO mD "RingedLights$Plan" (2, 79, 58, 4, 2) := ⟨rfl, rfl, Or.inl (mGd_in (i := 539) (by decide +kernel) rfl)⟩
theorem cq_X2_21 : mCpO mD "RingedLights$Plan" (2, 83, 55, 1, 2) := ⟨rfl, rfl, Or.inl (mGd_in (i := 617) (by decide +kernel) rfl)⟩
theorem cq_X2_22 : mCpO mD "RingedLights$Plan" (2, 87, 148, 3, 99) := ⟨rfl, rfl, Or.inr (mNest_in (i := 543) (by decide +kernel) rfl)⟩
theorem cq_X2_23 : mCpO mD "RingedLights$Plan" (2, 91, 65, 2, 2) := ⟨rfl, rfl, Or.inl (mGd_in (i := 625) (by decide +kernel) rfl)⟩
theorem cq_X2_24 : mCpO mD "RingedLights$Plan" (2, 94, 149, 2, 99) := ⟨rfl, rfl, Or.inr (mNest_in (i := 629) (by decide +kernel) rfl)⟩
theorem cq_X2_25 : mCpO mD "RingedLights$Plan" (2, 98, 150, 1, 99) := ⟨rfl, rfl, Or.inr (mNest_in (i := 722) (by decide +kernel) rfl)⟩
theorem cq_X2_26 : mCpO mD "RingedLights$Plan" (2, 101, 57, 3, 2) := ⟨rfl, rfl, Or.inl (mGd_in (i := 714) (by decide +kernel) rfl)⟩
theorem co_X2 : ∀ q ∈ cp_X2, mCpO mD "RingedLights$Plan" q := List.forall_mem_cons.mpr ⟨cq_X2_0, List.forall_mem_cons.mpr ⟨cq_X2_1, List.forall_mem_cons.mpr ⟨cq_X2_2, List.forall_mem_cons.mpr ⟨cq_X2_3, List.forall_mem_cons.mpr ⟨cq_X2_4, List.forall_mem_cons.mpr ⟨cq_X2_5, List.forall_mem_cons.mpr ⟨cq_X2_6, List.forall_mem_cons.mpr ⟨cq_X2_7, List.forall_mem_cons.mpr ⟨cq_X2_8, List.forall_mem_cons.mpr ⟨cq_X2_9, List.forall_mem_cons.mpr ⟨cq_X2_10, List.forall_mem_cons.mpr ⟨cq_X2_11, List.forall_mem_cons.mpr ⟨cq_X2_12, List.forall_mem_cons.mpr ⟨cq_X2_13, List.forall_mem_cons.mpr ⟨cq_X2_14, List.forall_mem_cons.mpr ⟨cq_X2_15, List.forall_mem_cons.mpr ⟨cq_X2_16, List.forall_mem_cons.mpr ⟨cq_X2_17, List.forall_mem_cons.mpr ⟨cq_X2_18, List.forall_mem_cons.mpr ⟨cq_X2_19, List.forall_mem_cons.mpr ⟨cq_X2_20, List.forall_mem_cons.mpr ⟨cq_X2_21, List.forall_mem_cons.mpr ⟨cq_X2_22, List.forall_mem_cons.mpr ⟨cq_X2_23, List.forall_mem_cons.mpr ⟨cq_X2_24, List.forall_mem_cons.mpr ⟨cq_X2_25, List.forall_mem_cons.mpr ⟨cq_X2_26, fun _ h => absurd h List.not_mem_nil⟩⟩⟩⟩⟩⟩⟩⟩⟩⟩⟩⟩⟩⟩⟩⟩⟩⟩⟩⟩⟩⟩⟩⟩⟩⟩⟩
theorem cq_X3_0 : mCpO mD "RingedLights$Reader" (0, 9, 3, 0, 0) := Or.inr (Or.inr ⟨_, rfl, by decide, mGd_in (i := 176) (by decide +kernel) rfl⟩)
theorem cq_X3_1 : mCpO mD "RingedLights$Reader" (0, 18, 3, 1, 0) := Or.inr (Or.inr ⟨_, rfl, by decide, mGd_in (i := 177) (by decide +kernel) rfl⟩)
theorem cq_X3_2 : mCpO mD "RingedLights$Reader" (0, 31, 3, 2, 0) := Or.inr (Or.inr ⟨_, rfl, by decide, mGd_in (i := 179) (by decide +kernel) rfl⟩)
theorem cq_X3_3 : mCpO mD "RingedLights$Reader" (0, 35, 3, 3, 0) := Or.inr (Or.inr ⟨_, rfl, by decide, mGd_in (i := 180) (by decide +kernel) rfl⟩)
theorem cq_X3_4 : mCpO mD "RingedLights$Reader" (0, 38, 3, 7, 0) := Or.inr (Or.inr ⟨_, rfl, by decide, mGd_in (i := 184) (by decide +kernel) rfl⟩)
theorem cq_X3_5 : mCpO mD "RingedLights$Reader" (0, 41, 3, 8, 0) := Or.inr (Or.inr ⟨_, rfl, by decide, mGd_in (i := 185) (by decide +kernel) rfl⟩)
theorem cq_X3_6 : mCpO mD "RingedLights$Reader" (0, 44, 3, 9, 0) := Or.inr (Or.inr ⟨_, rfl, by decide, mGd_in (i := 186) (by decide +kernel) rfl⟩)
theorem cq_X3_7 : mCpO mD "RingedLights$Reader" (0, 47, 3, 10, 0) := Or.inr (Or.inr ⟨_, rfl, by decide, mGd_in (i := 188) (by decide +kernel) rfl⟩)
theorem cq_X3_8 : mCpO mD "RingedLights$Reader" (0, 50, 3, 11, 0) := Or.inr (Or.inr ⟨_, rfl, by decide, mGd_in (i := 190) (by decide +kernel) rfl⟩)
theorem cq_X3_9 : mCpO mD "RingedLights$Reader" (0, 56, 3, 5, 0) := Or.inr (Or.inr ⟨_, rfl, by decide, mGd_in (i := 182) (by decide +kernel) rfl⟩)
theorem cq_X3_10 : mCpO mD "RingedLights$Reader" (0, 87, 3, 4, 0) := Or.inr (Or.inr ⟨_, rfl, by decide, mGd_in (i := 181) (by decide +kernel) rfl⟩)
theorem cq_X3_11 : mCpO mD "RingedLights$Reader" (0, 97, 3, 6, 0) := Or.inr (Or.inr ⟨_, rfl, by decide, mGd_in (i := 183) (by decide +kernel) rfl⟩)
theorem cq_X3_12 : mCpO mD "RingedLights$Reader" (0, 123, 2, 0, 0) := Or.inr (Or.inr ⟨_, rfl, by decide, mGd_in (i := 126) (by decide +kernel) rfl⟩)
theorem cq_X3_13 : mCpO mD "RingedLights$Reader" (0, 187, 2, 1, 0) := Or.inr (Or.inr ⟨_, rfl, by decide, mGd_in (i := 129) (by decide +kernel) rfl⟩)
theorem cq_X3_14 : mCpO mD "RingedLights$Reader" (0, 189, 2, 2, 0) := Or.inr (Or.inr ⟨_, rfl, by decide, mGd_in (i := 133) (by decide +kernel) rfl⟩)
theorem cq_X3_15 : mCpO mD "RingedLights$Reader" (1, 139, 0, 27, 0) := Or.inl ⟨rfl, by decide, Or.inr (mNest_in (i := 568) (by decide +kernel) rfl)⟩
theorem cq_X3_16 : mCpO mD "RingedLights$Reader" (1, 147, 0, 28, 0) := Or.inl ⟨rfl, by decide, Or.inr (mNest_in (i := 571) (by decide +kernel) rfl)⟩
theorem cq_X3_17 : mCpO mD "RingedLights$Reader" (2, 22, 51, 1, 2) := ⟨rfl, rfl, Or.inl (mGd_in (i := 425) (by decide +kernel) rfl)⟩
theorem cq_X3_18 : mCpO mD "RingedLights$Reader" (2, 25, 278, 2, 99) := ⟨rfl, rfl, Or.inl (mGd_in (i := 432) (by decide +kernel) rfl)⟩
theorem cq_X3_19 : mCpO mD "RingedLights$Reader" (2, 53, 72, 1, 3) := ⟨rfl, rfl, Or.inl (mGd_in (i := 435) (by decide +kernel) rfl)⟩
theorem cq_X3_20 : mCpO mD "RingedLights$Reader" (2, 61, 76, 2, 3) := ⟨rfl, rfl, Or.inl (mGd_in (i := 456) (by decide +kernel) rfl)⟩
theorem cq_X3_21 : mCpO mD "RingedLights$Reader" (2, 65, 81, 1, 3) := ⟨rfl, rfl, Or.inl (mGd_in (i := 508) (by decide +kernel) rfl)⟩
theorem cq_X3_22 : mCpO mD "RingedLights$Reader" (2, 70, 86, 1, 3) := ⟨rfl, rfl, Or.inl (mGd_in (i := 579) (by decide +kernel) rfl)⟩
theorem cq_X3_23 : mCpO mD "RingedLights$Reader" (2, 75, 87, 1, 3) := ⟨rfl, rfl, Or.inl (mGd_in (i := 595) (by decide +kernel) rfl)⟩
theorem cq_X3_24 : mCpO mD "RingedLights$Reader" (2, 80, 88, 1, 3) := ⟨rfl, rfl, Or.inl (mGd_in (i := 600) (by decide +kernel) rfl)⟩
theorem cq_X3_25 : mCpO mD "RingedLights$Reader" (2, 83, 71, 2, 3) := ⟨rfl, rfl, Or.inl (mGd_in (i := 447) (by decide +kernel) rfl)⟩
theorem cq_X3_26 : mCpO mD "RingedLights$Reader" (2, 90, 73, 3, 3) := ⟨rfl, rfl, Or.inl (mGd_in (i := 439) (by decide +kernel) rfl)⟩
theorem cq_X3_27 : mCpO mD "RingedLights$Reader" (2, 93, 74, 2, 3) := ⟨rfl, rfl, Or.inl (mGd_in (i := 443) (by decide +kernel) rfl)⟩
theorem cq_X3_28 : mCpO mD "RingedLights$Reader" (2, 100, 75, 2, 3) := ⟨rfl, rfl, Or.inl (mGd_in (i := 451) (by decide +kernel) rfl)⟩
theorem cq_X3_29 : mCpO mD "RingedLights$Reader" (2, 103, 279, 1, 7) := ⟨rfl, rfl, Or.inl (mGd_in (i := 460) (by decide +kernel) rfl)⟩
theorem cq_X3_30 : mCpO mD "RingedLights$Reader" (2, 109, 280, 2, 7) := ⟨rfl, rfl, Or.inl (mGd_in (i := 470) (by decide +kernel) rfl)⟩
theorem cq_X3_31 : mCpO mD "RingedLights$Reader" (2, 113, 56, 2, 2) := ⟨rfl, rfl, Or.inl (mGd_in (i := 613) (by decide +kernel) rfl)⟩
theorem cq_X3_32 : mCpO mD "RingedLights$Reader" (2, 117, 64, 2, 2) := ⟨rfl, rfl, Or.inl (mGd_in (i := 621) (by decide +kernel) rfl)⟩
theorem cq_X3_33 : mCpO mD "RingedLights$Reader" (2, 120, 79, 3, 3) := ⟨rfl, rfl, Or.inl (mGd_in (i := 512) (by decide +kernel) rfl)⟩
theorem cq_X3_34 : mCpO mD "RingedLights$Reader" (2, 126, 53, 3, 2) := ⟨rfl, rfl, Or.inl (mGd_in (i := 516) (by decide +kernel) rfl)⟩
theorem cq_X3_35 : mCpO mD "RingedLights$Reader" (2, 130, 82, 2, 3) := ⟨rfl, rfl, Or.inl (mGd_in (i := 547) (by decide +kernel) rfl)⟩
theorem cq_X3_36 : mCpO mD "RingedLights$Reader" (2, 133, 77, 1, 3) := ⟨rfl, rfl, Or.inl (mGd_in (i := 574) (by decide +kernel) rfl)⟩
theorem cq_X3_37 : mCpO mD "RingedLights$Reader" (2, 136, 83, 1, 3) := ⟨rfl, rfl, Or.inl (mGd_in (i := 551) (by decide +kernel) rfl)⟩
theorem cq_X3_38 : mCpO mD "RingedLights$Reader" (2, 143, 142, 2, 99) := ⟨rfl, rfl, Or.inr (mNest_in (i := 570) (by decide +kernel) rfl)⟩
theorem cq_X3_39 : mCpO mD "RingedLights$Reader" (2, 150, 58, 4, 2) := ⟨rfl, rfl, Or.inl (mGd_in (i := 573) (by decide +kernel) rfl)⟩
theorem cq_X3_40 : mCpO mD "RingedLights$Reader" (2, 154, 84, 1, 99) := ⟨rfl, rfl, Or.inl (mGd_in (i := 555) (by decide +kernel) rfl)⟩
theorem cq_X3_41 : mCpO mD "RingedLights$Reader" (2, 177, 85, 2, 3) := ⟨rfl, rfl, Or.inl (mGd_in (i := 583) (by decide +kernel) rfl)⟩
theorem cq_X3_42 : mCpO mD "RingedLights$Reader" (2, 180, 78, 2, 3) := ⟨rfl, rfl, Or.inl (mGd_in (i := 587) (by decide +kernel) rfl)⟩
theorem cq_X3_43 : mCpO mD "RingedLights$Reader" (2, 184, 139, 1, 99) := ⟨rfl, rfl, Or.inr (mNest_in (i := 591) (by decide +kernel) rfl)⟩
theorem cq_X3_44 : mCpO mD "RingedLights$Reader" (2, 191, 138, 1, 99) := ⟨rfl, rfl, Or.inr (mNest_in (i := 604) (by decide +kernel) rfl)⟩
theorem cq_X3_45 : mCpO mD "RingedLights$Reader" (2, 194, 147, 1, 99) := ⟨rfl, rfl, Or.inr (mNest_in (i := 607) (by decide +kernel) rfl)⟩
theorem cq_X3_46 : mCpO mD "RingedLights$Reader" (2, 199, 80, 1, 3) := ⟨rfl, rfl, Or.inl (mGd_in (i := 609) (by decide +kernel) rfl)⟩
theorem cq_X3_47 : mCpO mD "RingedLights$Reader" (2, 202, 60, 4, 2) := ⟨rfl, rfl, Or.inl (mGd_in (i := 632) (by decide +kernel) rfl)⟩
theorem cq_X3_48 : mCpO mD "RingedLights$Reader" (3, 59, 0, 0, 0) := ⟨"phase", by decide +kernel⟩
theorem cq_X3_49 : mCpO mD "RingedLights$Reader" (3, 68, 1, 0, 0) := ⟨"cycle", by decide +kernel⟩
theorem cq_X3_50 : mCpO mD "RingedLights$Reader" (3, 73, 2, 0, 0) := ⟨"offset", by decide +kernel⟩
theorem cq_X3_51 : mCpO mD "RingedLights$Reader" (3, 78, 3, 0, 0) := ⟨"break", by decide +kernel⟩
theorem cq_X3_52 : mCpO mD "RingedLights$Reader" (3, 158, 7, 0, 0) := ⟨"min", by decide +kernel⟩
theorem cq_X3_53 : mCpO mD "RingedLights$Reader" (3, 159, 8, 0, 0) := ⟨"pass", by decide +kernel⟩
theorem cq_X3_54 : mCpO mD "RingedLights$Reader" (3, 161, 9, 0, 0) := ⟨"max", by decide +kernel⟩
theorem cq_X3_55 : mCpO mD "RingedLights$Reader" (3, 163, 10, 0, 0) := ⟨"yellow", by decide +kernel⟩
theorem cq_X3_56 : mCpO mD "RingedLights$Reader" (3, 165, 11, 0, 0) := ⟨"clear", by decide +kernel⟩
theorem cq_X3_57 : mCpO mD "RingedLights$Reader" (3, 167, 12, 0, 0) := ⟨"walk", by decide +kernel⟩
theorem cq_X3_58 : mCpO mD "RingedLights$Reader" (3, 169, 13, 0, 0) := ⟨"halt", by decide +kernel⟩
theorem cq_X3_59 : mCpO mD "RingedLights$Reader" (3, 171, 14, 0, 0) := ⟨"recall", by decide +kernel⟩
theorem cq_X3_60 : mCpO mD "RingedLights$Reader" (3, 173, 15, 0, 0) := ⟨"split", by decide +kernel⟩
theorem cq_X3_61 : mCpO mD "RingedLights$Reader" (3, 175, 16, 0, 0) := ⟨"rate", by decide +kernel⟩
theorem cq_X3_62 : mCpO mD "RingedLights$Reader" (3, 197, 4, 0, 0) := ⟨"track", by decide +kernel⟩
theorem cq_X3_63 : mCpO mD "RingedLights$Reader" (3, 205, 5, 0, 0) := ⟨"dwell", by decide +kernel⟩
theorem cq_X3_64 : mCpO mD "RingedLights$Reader" (3, 207, 6, 0, 0) := ⟨"cut", by decide +kernel⟩
theorem co_X3 : ∀ q ∈ cp_X3, mCpO mD "RingedLights$Reader" q := List.forall_mem_cons.mpr ⟨cq_X3_0, List.forall_mem_cons.mpr ⟨cq_X3_1, List.forall_mem_cons.mpr ⟨cq_X3_2, List.forall_mem_cons.mpr ⟨cq_X3_3, List.forall_mem_cons.mpr ⟨cq_X3_4, List.forall_mem_cons.mpr ⟨cq_X3_5, List.forall_mem_cons.mpr ⟨cq_X3_6, List.forall_mem_cons.mpr ⟨cq_X3_7, List.forall_mem_cons.mpr ⟨cq_X3_8, List.forall_mem_cons.mpr ⟨cq_X3_9, List.forall_mem_cons.mpr ⟨cq_X3_10, List.forall_mem_cons.mpr ⟨cq_X3_11, List.forall_mem_cons.mpr ⟨cq_X3_12, List.forall_mem_cons.mpr ⟨cq_X3_13, List.forall_mem_cons.mpr ⟨cq_X3_14, List.forall_mem_cons.mpr ⟨cq_X3_15, List.forall_mem_cons.mpr ⟨cq_X3_16, List.forall_mem_cons.mpr ⟨cq_X3_17, List.forall_mem_cons.mpr ⟨cq_X3_18, List.forall_mem_cons.mpr ⟨cq_X3_19, List.forall_mem_cons.mpr ⟨cq_X3_20, List.forall_mem_cons.mpr ⟨cq_X3_21, List.forall_mem_cons.mpr ⟨cq_X3_22, List.forall_mem_cons.mpr ⟨cq_X3_23, List.forall_mem_cons.mpr ⟨cq_X3_24, List.forall_mem_cons.mpr ⟨cq_X3_25, List.forall_mem_cons.mpr ⟨cq_X3_26, List.forall_mem_cons.mpr ⟨cq_X3_27, List.forall_mem_cons.mpr ⟨cq_X3_28, List.forall_mem_cons.mpr ⟨cq_X3_29, List.forall_mem_cons.mpr ⟨cq_X3_30, List.forall_mem_cons.mpr ⟨cq_X3_31, List.forall_mem_cons.mpr ⟨cq_X3_32, List.forall_mem_cons.mpr ⟨cq_X3_33, List.forall_mem_cons.mpr ⟨cq_X3_34, List.forall_mem_cons.mpr ⟨cq_X3_35, List.forall_mem_cons.mpr ⟨cq_X3_36, List.forall_mem_cons.mpr ⟨cq_X3_37, List.forall_mem_cons.mpr ⟨cq_X3_38, List.forall_mem_cons.mpr ⟨cq_X3_39, List.forall_mem_cons.mpr ⟨cq_X3_40, List.forall_mem_cons.mpr ⟨cq_X3_41, List.forall_mem_cons.mpr ⟨cq_X3_42, List.forall_mem_cons.mpr ⟨cq_X3_43, List.forall_mem_cons.mpr ⟨cq_X3_44, List.forall_mem_cons.mpr ⟨cq_X3_45, List.forall_mem_cons.mpr ⟨cq_X3_46, List.forall_mem_cons.mpr ⟨cq_X3_47, List.forall_mem_cons.mpr ⟨cq_X3_48, List.forall_mem_cons.mpr ⟨cq_X3_49, List.forall_mem_cons.mpr ⟨cq_X3_50, List.forall_mem_cons.mpr ⟨cq_X3_51, List.forall_mem_cons.mpr ⟨cq_X3_52, List.forall_mem_cons.mpr ⟨cq_X3_53, List.forall_mem_cons.mpr ⟨cq_X3_54, List.forall_mem_cons.mpr ⟨cq_X3_55, List.forall_mem_cons.mpr ⟨cq_X3_56, List.forall_mem_cons.mpr ⟨cq_X3_57, List.forall_mem_cons.mpr ⟨cq_X3_58, List.forall_mem_cons.mpr ⟨cq_X3_59, List.forall_mem_cons.mpr ⟨cq_X3_60, List.forall_mem_cons.mpr ⟨cq_X3_61, List.forall_mem_cons.mpr ⟨cq_X3_62, List.forall_mem_cons.mpr ⟨cq_X3_63, List.forall_mem_cons.mpr ⟨cq_X3_64, fun _ h => absurd h List.not_mem_nil⟩⟩⟩⟩⟩⟩⟩⟩⟩⟩⟩⟩⟩⟩⟩⟩⟩⟩⟩⟩⟩⟩⟩⟩⟩⟩⟩⟩⟩⟩⟩⟩⟩⟩⟩⟩⟩⟩⟩⟩⟩⟩⟩⟩⟩⟩⟩⟩⟩⟩⟩⟩⟩⟩⟩⟩⟩⟩⟩⟩⟩⟩⟩⟩⟩
theorem cq_X4_0 : mCpO mD "RingedLights$Ring" (0, 9, 4, 1, 0) := Or.inr (Or.inr ⟨_, rfl, by decide, mGd_in (i := 233) (by decide +kernel) rfl⟩)
theorem cq_X4_1 : mCpO mD "RingedLights$Ring" (0, 15, 4, 2, 0) := Or.inr (Or.inr ⟨_, rfl, by decide, mGd_in (i := 235) (by decide +kernel) rfl⟩)
theorem cq_X4_2 : mCpO mD "RingedLights$Ring" (0, 18, 4, 4, 0) := Or.inr (Or.inr ⟨_, rfl, by decide, mGd_in (i := 239) (by decide +kernel) rfl⟩)
theorem cq_X4_3 : mCpO mD "RingedLights$Ring" (0, 24, 4, 3, 0) := Or.inr (Or.inr ⟨_, rfl, by decide, mGd_in (i := 237) (by decide +kernel) rfl⟩)
theorem cq_X4_4 : mCpO mD "RingedLights$Ring" (0, 27, 4, 5, 0) := Or.inr (Or.inr ⟨_, rfl, by decide, mGd_in (i := 241) (by decide +kernel) rfl⟩)
theorem cq_X4_5 : mCpO mD "RingedLights$Ring" (0, 30, 4, 6, 0) := Or.inr (Or.inr ⟨_, rfl, by decide, mGd_in (i := 243) (by decide +kernel) rfl⟩)
theorem cq_X4_6 : mCpO mD "RingedLights$Ring" (0, 33, 4, 7, 0) := Or.inr (Or.inr ⟨_, rfl, by decide, mGd_in (i := 245) (by decide +kernel) rfl⟩)
theorem cq_X4_7 : mCpO mD "RingedLights$Ring" (0, 36, 4, 8, 0) := Or.inr (Or.inr ⟨_, rfl, by decide, mGd_in (i := 247) (by decide +kernel) rfl⟩)
theorem cq_X4_8 : mCpO mD "RingedLights$Ring" (2, 39, 92, 2, 4) := ⟨rfl, rfl, Or.inl (mGd_in (i := 931) (by decide +kernel) rfl)⟩
theorem co_X4 : ∀ q ∈ cp_X4, mCpO mD "RingedLights$Ring" q := List.forall_mem_cons.mpr ⟨cq_X4_0, List.forall_mem_cons.mpr ⟨cq_X4_1, List.forall_mem_cons.mpr ⟨cq_X4_2, List.forall_mem_cons.mpr ⟨cq_X4_3, List.forall_mem_cons.mpr ⟨cq_X4_4, List.forall_mem_cons.mpr ⟨cq_X4_5, List.forall_mem_cons.mpr ⟨cq_X4_6, List.forall_mem_cons.mpr ⟨cq_X4_7, List.forall_mem_cons.mpr ⟨cq_X4_8, fun _ h => absurd h List.not_mem_nil⟩⟩⟩⟩⟩⟩⟩⟩⟩
theorem cq_X5_0 : mCpO mD "RingedLights" (0, 10, 5, 0, 0) := Or.inr (Or.inr ⟨_, rfl, by decide, mGd_in (i := 366) (by decide +kernel) rfl⟩)
theorem cq_X5_1 : mCpO mD "RingedLights" (0, 19, 5, 1, 0) := Or.inr (Or.inr ⟨_, rfl, by decide, mGd_in (i := 367) (by decide +kernel) rfl⟩)
theorem cq_X5_2 : mCpO mD "RingedLights" (0, 23, 5, 2, 0) := Or.inr (Or.inr ⟨_, rfl, by decide, mGd_in (i := 368) (by decide +kernel) rfl⟩)
theorem cq_X5_3 : mCpO mD "RingedLights" (0, 26, 5, 3, 0) := Or.inr (Or.inr ⟨_, rfl, by decide, mGd_in (i := 369) (by decide +kernel) rfl⟩)
theorem cq_X5_4 : mCpO mD "RingedLights" (0, 29, 5, 4, 0) := Or.inr (Or.inr ⟨_, rfl, by decide, mGd_in (i := 370) (by decide +kernel) rfl⟩)
theorem cq_X5_5 : mCpO mD "RingedLights" (0, 32, 5, 5, 0) := Or.inr (Or.inr ⟨_, rfl, by decide, mGd_in (i := 371) (by decide +kernel) rfl⟩)
theorem cq_X5_6 : mCpO mD "RingedLights" (0, 35, 5, 6, 0) := Or.inr (Or.inr ⟨_, rfl, by decide, mGd_in (i := 372) (by decide +kernel) rfl⟩)
theorem cq_X5_7 : mCpO mD "RingedLights" (0, 39, 5, 7, 0) := Or.inr (Or.inr ⟨_, rfl, by decide, mGd_in (i := 373) (by decide +kernel) rfl⟩)
theorem cq_X5_8 : mCpO mD "RingedLights" (0, 42, 5, 8, 0) := Or.inr (Or.inr ⟨_, rfl, by decide, mGd_in (i := 374) (by decide +kernel) rfl⟩)
theorem cq_X5_9 : mCpO mD "RingedLights" (0, 46, 5, 9, 0) := Or.inr (Or.inr ⟨_, rfl, by decide, mGd_in (i := 375) (by decide +kernel) rfl⟩)
theorem cq_X5_10 : mCpO mD "RingedLights" (0, 60, 3, 9, 0) := Or.inr (Or.inr ⟨_, rfl, by decide, mGd_in (i := 187) (by decide +kernel) rfl⟩)
theorem cq_X5_11 : mCpO mD "RingedLights" (0, 63, 0, 0, 0) := Or.inr (Or.inr ⟨_, rfl, by decide, mGd_in (i := 292) (by decide +kernel) rfl⟩)
theorem cq_X5_12 : mCpO mD "RingedLights" (0, 67, 3, 1, 0) := Or.inr (Or.inr ⟨_, rfl, by decide, mGd_in (i := 178) (by decide +kernel) rfl⟩)
theorem cq_X5_13 : mCpO mD "RingedLights" (0, 77, 2, 0, 0) := Or.inr (Or.inr ⟨_, rfl, by decide, mGd_in (i := 124) (by decide +kernel) rfl⟩)
theorem cq_X5_14 : mCpO mD "RingedLights" (0, 83, 3, 10, 0) := Or.inr (Or.inr ⟨_, rfl, by decide, mGd_in (i := 189) (by decide +kernel) rfl⟩)
theorem cq_X5_15 : mCpO mD "RingedLights" (0, 86, 3, 11, 0) := Or.inr (Or.inr ⟨_, rfl, by decide, mGd_in (i := 191) (by decide +kernel) rfl⟩)
theorem cq_X5_16 : mCpO mD "RingedLights" (0, 89, 0, 12, 0) := Or.inr (Or.inr ⟨_, rfl, by decide, mGd_in (i := 314) (by decide +kernel) rfl⟩)
theorem cq_X5_17 : mCpO mD "RingedLights" (0, 92, 2, 1, 0) := Or.inr (Or.inr ⟨_, rfl, by decide, mGd_in (i := 128) (by decide +kernel) rfl⟩)
theorem cq_X5_18 : mCpO mD "RingedLights" (0, 95, 2, 2, 0) := Or.inr (Or.inr ⟨_, rfl, by decide, mGd_in (i := 132) (by decide +kernel) rfl⟩)
theorem cq_X5_19 : mCpO mD "RingedLights" (0, 98, 0, 13, 0) := Or.inr (Or.inr ⟨_, rfl, by decide, mGd_in (i := 316) (by decide +kernel) rfl⟩)
theorem cq_X5_20 : mCpO mD "RingedLights" (0, 101, 0, 15, 0) := Or.inr (Or.inr ⟨_, rfl, by decide, mGd_in (i := 320) (by decide +kernel) rfl⟩)
theorem cq_X5_21 : mCpO mD "RingedLights" (0, 104, 0, 10, 0) := Or.inr (Or.inr ⟨_, rfl, by decide, mGd_in (i := 310) (by decide +kernel) rfl⟩)
theorem cq_X5_22 : mCpO mD "RingedLights" (0, 107, 0, 16, 0) := Or.inr (Or.inr ⟨_, rfl, by decide, mGd_in (i := 322) (by decide +kernel) rfl⟩)
theorem cq_X5_23 : mCpO mD "RingedLights" (0, 110, 0, 17, 0) := Or.inr (Or.inr ⟨_, rfl, by decide, mGd_in (i := 324) (by decide +kernel) rfl⟩)
theorem cq_X5_24 : mCpO mD "RingedLights" (0, 113, 0, 18, 0) := Or.inr (Or.inr ⟨_, rfl, by decide, mGd_in (i := 326) (by decide +kernel) rfl⟩)
theorem cq_X5_25 : mCpO mD "RingedLights" (0, 116, 0, 11, 0) := Or.inr (Or.inr ⟨_, rfl, by decide, mGd_in (i := 312) (by decide +kernel) rfl⟩)
theorem cq_X5_26 : mCpO mD "RingedLights" (0, 119, 0, 1, 0) := Or.inr (Or.inr ⟨_, rfl, by decide, mGd_in (i := 294) (by decide +kernel) rfl⟩)
theorem cq_X5_27 : mCpO mD "RingedLights" (0, 123, 0, 2, 0) := Or.inr (Or.inr ⟨_, rfl, by decide, mGd_in (i := 296) (by decide +kernel) rfl⟩)
theorem cq_X5_28 : mCpO mD "RingedLights" (0, 151, 0, 5, 0) := Or.inr (Or.inr ⟨_, rfl, by decide, mGd_in (i := 302) (by decide +kernel) rfl⟩)
theorem cq_X5_29 : mCpO mD "RingedLights" (0, 159, 0, 14, 0) := Or.inr (Or.inr ⟨_, rfl, by decide, mGd_in (i := 318) (by decide +kernel) rfl⟩)
theorem cq_X5_30 : mCpO mD "RingedLights" (0, 162, 0, 4, 0) := Or.inr (Or.inr ⟨_, rfl, by decide, mGd_in (i := 300) (by decide +kernel) rfl⟩)
theorem cq_X5_31 : mCpO mD "RingedLights" (0, 175, 0, 3, 0) := Or.inr (Or.inr ⟨_, rfl, by decide, mGd_in (i := 298) (by decide +kernel) rfl⟩)
theorem cq_X5_32 : mCpO mD "RingedLights" (0, 179, 1, 3, 0) := Or.inr (Or.inr ⟨_, rfl, by decide, mGd_in (i := 278) (by decide +kernel) rfl⟩)
theorem cq_X5_33 : mCpO mD "RingedLights" (0, 213, 0, 8, 0) := Or.inr (Or.inr ⟨_, rfl, by decide, mGd_in (i := 307) (by decide +kernel) rfl⟩)
theorem cq_X5_34 : mCpO mD "RingedLights" (0, 216, 0, 7, 0) := Or.inr (Or.inr ⟨_, rfl, by decide, mGd_in (i := 305) (by decide +kernel) rfl⟩)
theorem cq_X5_35 : mCpO mD "RingedLights" (1, 187, 0, 27, 0) := Or.inl ⟨rfl, by decide, Or.inl (mGd_in (i := 807) (by decide +kernel) rfl)⟩
theorem cq_X5_36 : mCpO mD "RingedLights" (1, 194, 0, 28, 0) := Or.inl ⟨rfl, by decide, Or.inl (mGd_in (i := 809) (by decide +kernel) rfl)⟩
theorem cq_X5_37 : mCpO mD "RingedLights" (2, 49, 135, 2, 5) := ⟨rfl, rfl, Or.inl (mGd_in (i := 405) (by decide +kernel) rfl)⟩
theorem cq_X5_38 : mCpO mD "RingedLights" (2, 53, 132, 2, 5) := ⟨rfl, rfl, Or.inl (mGd_in (i := 417) (by decide +kernel) rfl)⟩
theorem cq_X5_39 : mCpO mD "RingedLights" (2, 57, 70, 2, 3) := ⟨rfl, rfl, Or.inl (mGd_in (i := 421) (by decide +kernel) rfl)⟩
theorem cq_X5_40 : mCpO mD "RingedLights" (2, 68, 52, 2, 2) := ⟨rfl, rfl, Or.inl (mGd_in (i := 638) (by decide +kernel) rfl)⟩
theorem cq_X5_41 : mCpO mD "RingedLights" (2, 74, 1, 1, 0) := ⟨rfl, rfl, Or.inl (mGd_in (i := 649) (by decide +kernel) rfl)⟩
theorem cq_X5_42 : mCpO mD "RingedLights" (2, 80, 131, 2, 5) := ⟨rfl, rfl, Or.inl (mGd_in (i := 674) (by decide +kernel) rfl)⟩
theorem cq_X5_43 : mCpO mD "RingedLights" (2, 126, 3, 3, 0) := ⟨rfl, rfl, Or.inl (mGd_in (i := 690) (by decide +kernel) rfl)⟩
theorem cq_X5_44 : mCpO mD "RingedLights" (2, 130, 54, 2, 2) := ⟨rfl, rfl, Or.inl (mGd_in (i := 727) (by decide +kernel) rfl)⟩
theorem cq_X5_45 : mCpO mD "RingedLights" (2, 134, 4, 3, 0) := ⟨rfl, rfl, Or.inl (mGd_in (i := 731) (by decide +kernel) rfl)⟩
theorem cq_X5_46 : mCpO mD "RingedLights" (2, 138, 57, 3, 2) := ⟨rfl, rfl, Or.inl (mGd_in (i := 754) (by decide +kernel) rfl)⟩
theorem cq_X5_47 : mCpO mD "RingedLights" (2, 141, 138, 1, 99) := ⟨rfl, rfl, Or.inl (mGd_in (i := 759) (by decide +kernel) rfl)⟩
theorem cq_X5_48 : mCpO mD "RingedLights" (2, 144, 149, 2, 99) := ⟨rfl, rfl, Or.inl (mGd_in (i := 760) (by decide +kernel) rfl)⟩
theorem cq_X5_49 : mCpO mD "RingedLights" (2, 148, 59, 3, 2) := ⟨rfl, rfl, Or.inl (mGd_in (i := 761) (by decide +kernel) rfl)⟩
theorem cq_X5_50 : mCpO mD "RingedLights" (2, 155, 146, 1, 99) := ⟨rfl, rfl, Or.inl (mGd_in (i := 769) (by decide +kernel) rfl)⟩
theorem cq_X5_51 : mCpO mD "RingedLights" (2, 165, 7, 1, 0) := ⟨rfl, rfl, Or.inl (mGd_in (i := 772) (by decide +kernel) rfl)⟩
theorem cq_X5_52 : mCpO mD "RingedLights" (2, 169, 8, 1, 0) := ⟨rfl, rfl, Or.inl (mGd_in (i := 779) (by decide +kernel) rfl)⟩
theorem cq_X5_53 : mCpO mD "RingedLights" (2, 172, 13, 1, 0) := ⟨rfl, rfl, Or.inl (mGd_in (i := 784) (by decide +kernel) rfl)⟩
theorem cq_X5_54 : mCpO mD "RingedLights" (2, 184, 50, 3, 1) := ⟨rfl, rfl, Or.inl (mGd_in (i := 797) (by decide +kernel) rfl)⟩
theorem cq_X5_55 : mCpO mD "RingedLights" (2, 190, 142, 2, 99) := ⟨rfl, rfl, Or.inl (mGd_in (i := 808) (by decide +kernel) rfl)⟩
theorem cq_X5_56 : mCpO mD "RingedLights" (2, 197, 58, 4, 2) := ⟨rfl, rfl, Or.inl (mGd_in (i := 810) (by decide +kernel) rfl)⟩
theorem cq_X5_57 : mCpO mD "RingedLights" (2, 201, 139, 1, 99) := ⟨rfl, rfl, Or.inl (mGd_in (i := 815) (by decide +kernel) rfl)⟩
theorem cq_X5_58 : mCpO mD "RingedLights" (2, 204, 140, 1, 99) := ⟨rfl, rfl, Or.inl (mGd_in (i := 816) (by decide +kernel) rfl)⟩
theorem cq_X5_59 : mCpO mD "RingedLights" (2, 207, 19, 2, 0) := ⟨rfl, rfl, Or.inl (mGd_in (i := 819) (by decide +kernel) rfl)⟩
theorem cq_X5_60 : mCpO mD "RingedLights" (2, 210, 134, 2, 5) := ⟨rfl, rfl, Or.inl (mGd_in (i := 827) (by decide +kernel) rfl)⟩
theorem cq_X5_61 : mCpO mD "RingedLights" (2, 219, 147, 1, 99) := ⟨rfl, rfl, Or.inl (mGd_in (i := 546) (by decide +kernel) rfl)⟩
theorem cq_X5_62 : mCpO mD "RingedLights" (2, 222, 17, 2, 0) := ⟨rfl, rfl, Or.inl (mGd_in (i := 831) (by decide +kernel) rfl)⟩
theorem cq_X5_63 : mCpO mD "RingedLights" (2, 225, 133, 1, 5) := ⟨rfl, rfl, Or.inl (mGd_in (i := 839) (by decide +kernel) rfl)⟩
theorem cq_X5_64 : mCpO mD "RingedLights" (2, 229, 16, 3, 0) := ⟨rfl, rfl, Or.inl (mGd_in (i := 847) (by decide +kernel) rfl)⟩
theorem cq_X5_65 : mCpO mD "RingedLights" (2, 233, 56, 2, 2) := ⟨rfl, rfl, Or.inl (mGd_in (i := 865) (by decide +kernel) rfl)⟩
theorem cq_X5_66 : mCpO mD "RingedLights" (2, 236, 141, 1, 99) := ⟨rfl, rfl, Or.inl (mGd_in (i := 866) (by decide +kernel) rfl)⟩
theorem cq_X5_67 : mCpO mD "RingedLights" (2, 239, 64, 2, 2) := ⟨rfl, rfl, Or.inl (mGd_in (i := 869) (by decide +kernel) rfl)⟩
theorem cq_X5_68 : mCpO mD "RingedLights" (2, 242, 60, 4, 2) := ⟨rfl, rfl, Or.inl (mGd_in (i := 870) (by decide +kernel) rfl)⟩
theorem cq_X5_69 : mCpO mD "RingedLights" (2, 245, 148, 3, 99) := ⟨rfl, rfl, Or.inl (mGd_in (i := 875) (by decide +kernel) rfl)⟩
theorem cq_X5_70 : mCpO mD "RingedLights" (2, 249, 2, 1, 0) := ⟨rfl, rfl, Or.inl (mGd_in (i := 880) (by decide +kernel) rfl)⟩
theorem cq_X5_71 : mCpO mD "RingedLights" (2, 252, 49, 4, 1) := ⟨rfl, rfl, Or.inl (mGd_in (i := 881) (by decide +kernel) rfl)⟩
theorem cq_X5_72 : mCpO mD "RingedLights" (2, 255, 21, 2, 0) := ⟨rfl, rfl, Or.inl (mGd_in (i := 890) (by decide +kernel) rfl)⟩
theorem cq_X5_73 : mCpO mD "RingedLights" (2, 258, 20, 2, 0) := ⟨rfl, rfl, Or.inl (mGd_in (i := 1021) (by decide +kernel) rfl)⟩
theorem cq_X5_74 : mCpO mD "RingedLights" (2, 261, 22, 1, 0) := ⟨rfl, rfl, Or.inl (mGd_in (i := 1029) (by decide +kernel) rfl)⟩
theorem cq_X5_75 : mCpO mD "RingedLights" (2, 264, 136, 2, 5) := ⟨rfl, rfl, Or.inl (mGd_in (i := 1034) (by decide +kernel) rfl)⟩
theorem cq_X5_76 : mCpO mD "RingedLights" (2, 268, 0, 2, 0) := ⟨rfl, rfl, Or.inl (mGd_in (i := 1038) (by decide +kernel) rfl)⟩
theorem cq_X5_77 : mCpO mD "RingedLights" (2, 271, 63, 2, 2) := ⟨rfl, rfl, Or.inl (mGd_in (i := 1061) (by decide +kernel) rfl)⟩
theorem cq_X5_78 : mCpO mD "RingedLights" (2, 274, 55, 1, 2) := ⟨rfl, rfl, Or.inl (mGd_in (i := 1066) (by decide +kernel) rfl)⟩
theorem cq_X5_79 : mCpO mD "RingedLights" (2, 277, 66, 2, 2) := ⟨rfl, rfl, Or.inl (mGd_in (i := 1067) (by decide +kernel) rfl)⟩
theorem cq_X5_80 : mCpO mD "RingedLights" (2, 280, 9, 2, 0) := ⟨rfl, rfl, Or.inl (mGd_in (i := 1071) (by decide +kernel) rfl)⟩
theorem cq_X5_81 : mCpO mD "RingedLights" (2, 283, 137, 3, 5) := ⟨rfl, rfl, Or.inl (mGd_in (i := 1079) (by decide +kernel) rfl)⟩
theorem cq_X5_82 : mCpO mD "RingedLights" (2, 286, 69, 3, 3) := ⟨rfl, rfl, Or.inl (mGd_in (i := 409) (by decide +kernel) rfl)⟩
theorem cq_X5_83 : mCpO mD "RingedLights" (2, 289, 15, 3, 0) := ⟨rfl, rfl, Or.inl (mGd_in (i := 1083) (by decide +kernel) rfl)⟩
theorem cq_X5_84 : mCpO mD "RingedLights" (2, 292, 18, 2, 0) := ⟨rfl, rfl, Or.inl (mGd_in (i := 1087) (by decide +kernel) rfl)⟩
theorem cq_X5_85 : mCpO mD "RingedLights" (2, 295, 278, 2, 99) := ⟨rfl, rfl, Or.inl (mGd_in (i := 645) (by decide +kernel) rfl)⟩
theorem cq_X5_86 : mCpO mD "RingedLights" (5, 300, 999, 0, 0) := mGd_in (i := 646) (by decide +kernel) rfl
theorem co_X5 : ∀ q ∈ cp_X5, mCpO mD "RingedLights" q := List.forall_mem_cons.mpr ⟨cq_X5_0, List.forall_mem_cons.mpr ⟨cq_X5_1, List.forall_mem_cons.mpr ⟨cq_X5_2, List.forall_mem_cons.mpr ⟨cq_X5_3, List.forall_mem_cons.mpr ⟨cq_X5_4, List.forall_mem_cons.mpr ⟨cq_X5_5, List.forall_mem_cons.mpr ⟨cq_X5_6, List.forall_mem_cons.mpr ⟨cq_X5_7, List.forall_mem_cons.mpr ⟨cq_X5_8, List.forall_mem_cons.mpr ⟨cq_X5_9, List.forall_mem_cons.mpr ⟨cq_X5_10, List.forall_mem_cons.mpr ⟨cq_X5_11, List.forall_mem_cons.mpr ⟨cq_X5_12, List.forall_mem_cons.mpr ⟨cq_X5_13, List.forall_mem_cons.mpr ⟨cq_X5_14, List.forall_mem_cons.mpr ⟨cq_X5_15, List.forall_mem_cons.mpr ⟨cq_X5_16, List.forall_mem_cons.mpr ⟨cq_X5_17, List.forall_mem_cons.mpr ⟨cq_X5_18, List.forall_mem_cons.mpr ⟨cq_X5_19, List.forall_mem_cons.mpr ⟨cq_X5_20, List.forall_mem_cons.mpr ⟨cq_X5_21, List.forall_mem_cons.mpr ⟨cq_X5_22, List.forall_mem_cons.mpr ⟨cq_X5_23, List.forall_mem_cons.mpr ⟨cq_X5_24, List.forall_mem_cons.mpr ⟨cq_X5_25, List.forall_mem_cons.mpr ⟨cq_X5_26, List.forall_mem_cons.mpr ⟨cq_X5_27, List.forall_mem_cons.mpr ⟨cq_X5_28, List.forall_mem_cons.mpr ⟨cq_X5_29, List.forall_mem_cons.mpr ⟨cq_X5_30, List.forall_mem_cons.mpr ⟨cq_X5_31, List.forall_mem_cons.mpr ⟨cq_X5_32, List.forall_mem_cons.mpr ⟨cq_X5_33, List.forall_mem_cons.mpr ⟨cq_X5_34, List.forall_mem_cons.mpr ⟨cq_X5_35, List.forall_mem_cons.mpr ⟨cq_X5_36, List.forall_mem_cons.mpr ⟨cq_X5_37, List.forall_mem_cons.mpr ⟨cq_X5_38, List.forall_mem_cons.mpr ⟨cq_X5_39, List.forall_mem_cons.mpr ⟨cq_X5_40, List.forall_mem_cons.mpr ⟨cq_X5_41, List.forall_mem_cons.mpr ⟨cq_X5_42, List.forall_mem_cons.mpr ⟨cq_X5_43, List.forall_mem_cons.mpr ⟨cq_X5_44, List.forall_mem_cons.mpr ⟨cq_X5_45, List.forall_mem_cons.mpr ⟨cq_X5_46, List.forall_mem_cons.mpr ⟨cq_X5_47, List.forall_mem_cons.mpr ⟨cq_X5_48, List.forall_mem_cons.mpr ⟨cq_X5_49, List.forall_mem_cons.mpr ⟨cq_X5_50, List.forall_mem_cons.mpr ⟨cq_X5_51, List.forall_mem_cons.mpr ⟨cq_X5_52, List.forall_mem_cons.mpr ⟨cq_X5_53, List.forall_mem_cons.mpr ⟨cq_X5_54, List.forall_mem_cons.mpr ⟨cq_X5_55, List.forall_mem_cons.mpr ⟨cq_X5_56, List.forall_mem_cons.mpr ⟨cq_X5_57, List.forall_mem_cons.mpr ⟨cq_X5_58, List.forall_mem_cons.mpr ⟨cq_X5_59, List.forall_mem_cons.mpr ⟨cq_X5_60, List.forall_mem_cons.mpr ⟨cq_X5_61, List.forall_mem_cons.mpr ⟨cq_X5_62, List.forall_mem_cons.mpr ⟨cq_X5_63, List.forall_mem_cons.mpr ⟨cq_X5_64, List.forall_mem_cons.mpr ⟨cq_X5_65, List.forall_mem_cons.mpr ⟨cq_X5_66, List.forall_mem_cons.mpr ⟨cq_X5_67, List.forall_mem_cons.mpr ⟨cq_X5_68, List.forall_mem_cons.mpr ⟨cq_X5_69, List.forall_mem_cons.mpr ⟨cq_X5_70, List.forall_mem_cons.mpr ⟨cq_X5_71, List.forall_mem_cons.mpr ⟨cq_X5_72, List.forall_mem_cons.mpr ⟨cq_X5_73, List.forall_mem_cons.mpr ⟨cq_X5_74, List.forall_mem_cons.mpr ⟨cq_X5_75, List.forall_mem_cons.mpr ⟨cq_X5_76, List.forall_mem_cons.mpr ⟨cq_X5_77, List.forall_mem_cons.mpr ⟨cq_X5_78, List.forall_mem_cons.mpr ⟨cq_X5_79, List.forall_mem_cons.mpr ⟨cq_X5_80, List.forall_mem_cons.mpr ⟨cq_X5_81, List.forall_mem_cons.mpr ⟨cq_X5_82, List.forall_mem_cons.mpr ⟨cq_X5_83, List.forall_mem_cons.mpr ⟨cq_X5_84, List.forall_mem_cons.mpr ⟨cq_X5_85, List.forall_mem_cons.mpr ⟨cq_X5_86, fun _ h => absurd h List.not_mem_nil⟩⟩⟩⟩⟩⟩⟩⟩⟩⟩⟩⟩⟩⟩⟩⟩⟩⟩⟩⟩⟩⟩⟩⟩⟩⟩⟩⟩⟩⟩⟩⟩⟩⟩⟩⟩⟩⟩⟩⟩⟩⟩⟩⟩⟩⟩⟩⟩⟩⟩⟩⟩⟩⟩⟩⟩⟩⟩⟩⟩⟩⟩⟩⟩⟩⟩⟩⟩⟩⟩⟩⟩⟩⟩⟩⟩⟩⟩⟩⟩⟩⟩⟩⟩⟩⟩⟩
theorem cq_X6_0 : mCpO mD "RingedLightsModel" (0, 7, 6, 0, 0) := Or.inr (Or.inr ⟨_, rfl, by decide, mGd_in (i := 1177) (by decide +kernel) rfl⟩)
theorem cq_X6_1 : mCpO mD "RingedLightsModel" (0, 13, 6, 6, 0) := Or.inr (Or.inr ⟨_, rfl, by decide, mGd_in (i := 1183) (by decide +kernel) rfl⟩)
theorem cq_X6_2 : mCpO mD "RingedLightsModel" (0, 17, 6, 7, 0) := Or.inr (Or.inr ⟨_, rfl, by decide, mGd_in (i := 1184) (by decide +kernel) rfl⟩)
theorem cq_X6_3 : mCpO mD "RingedLightsModel" (0, 20, 6, 15, 0) := Or.inr (Or.inr ⟨_, rfl, by decide, mGd_in (i := 1192) (by decide +kernel) rfl⟩)
theorem cq_X6_4 : mCpO mD "RingedLightsModel" (0, 24, 6, 16, 0) := Or.inr (Or.inr ⟨_, rfl, by decide, mGd_in (i := 1193) (by decide +kernel) rfl⟩)
theorem cq_X6_5 : mCpO mD "RingedLightsModel" (0, 27, 6, 17, 0) := Or.inr (Or.inr ⟨_, rfl, by decide, mGd_in (i := 1194) (by decide +kernel) rfl⟩)
theorem cq_X6_6 : mCpO mD "RingedLightsModel" (0, 36, 6, 1, 0) := Or.inr (Or.inr ⟨_, rfl, by decide, mGd_in (i := 1178) (by decide +kernel) rfl⟩)
theorem cq_X6_7 : mCpO mD "RingedLightsModel" (0, 107, 6, 3, 0) := Or.inr (Or.inr ⟨_, rfl, by decide, mGd_in (i := 1180) (by decide +kernel) rfl⟩)
theorem cq_X6_8 : mCpO mD "RingedLightsModel" (0, 131, 6, 4, 0) := Or.inr (Or.inr ⟨_, rfl, by decide, mGd_in (i := 1181) (by decide +kernel) rfl⟩)
theorem cq_X6_9 : mCpO mD "RingedLightsModel" (0, 206, 6, 5, 0) := Or.inr (Or.inr ⟨_, rfl, by decide, mGd_in (i := 1182) (by decide +kernel) rfl⟩)
theorem cq_X6_10 : mCpO mD "RingedLightsModel" (0, 219, 6, 8, 0) := Or.inr (Or.inr ⟨_, rfl, by decide, mGd_in (i := 1185) (by decide +kernel) rfl⟩)
theorem cq_X6_11 : mCpO mD "RingedLightsModel" (0, 225, 6, 9, 0) := Or.inr (Or.inr ⟨_, rfl, by decide, mGd_in (i := 1186) (by decide +kernel) rfl⟩)
theorem cq_X6_12 : mCpO mD "RingedLightsModel" (0, 228, 6, 12, 0) := Or.inr (Or.inr ⟨_, rfl, by decide, mGd_in (i := 1189) (by decide +kernel) rfl⟩)
theorem cq_X6_13 : mCpO mD "RingedLightsModel" (0, 234, 6, 11, 0) := Or.inr (Or.inr ⟨_, rfl, by decide, mGd_in (i := 1188) (by decide +kernel) rfl⟩)
theorem cq_X6_14 : mCpO mD "RingedLightsModel" (0, 237, 6, 10, 0) := Or.inr (Or.inr ⟨_, rfl, by decide, mGd_in (i := 1187) (by decide +kernel) rfl⟩)
theorem cq_X6_15 : mCpO mD "RingedLightsModel" (0, 246, 6, 13, 0) := Or.inr (Or.inr ⟨_, rfl, by decide, mGd_in (i := 1190) (by decide +kernel) rfl⟩)
theorem cq_X6_16 : mCpO mD "RingedLightsModel" (0, 260, 6, 14, 0) := Or.inr (Or.inr ⟨_, rfl, by decide, mGd_in (i := 1191) (by decide +kernel) rfl⟩)
theorem cq_X6_17 : mCpO mD "RingedLightsModel" (0, 263, 6, 18, 0) := Or.inr (Or.inr ⟨_, rfl, by decide, mGd_in (i := 1195) (by decide +kernel) rfl⟩)
theorem cq_X6_18 : mCpO mD "RingedLightsModel" (0, 276, 6, 20, 0) := Or.inr (Or.inr ⟨_, rfl, by decide, mGd_in (i := 1197) (by decide +kernel) rfl⟩)
theorem cq_X6_19 : mCpO mD "RingedLightsModel" (0, 301, 6, 19, 0) := Or.inr (Or.inr ⟨_, rfl, by decide, mGd_in (i := 1196) (by decide +kernel) rfl⟩)
theorem cq_X6_20 : mCpO mD "RingedLightsModel" (0, 331, 6, 2, 0) := Or.inr (Or.inr ⟨_, rfl, by decide, mGd_in (i := 1179) (by decide +kernel) rfl⟩)
theorem cq_X6_21 : mCpO mD "RingedLightsModel" (2, 30, 169, 1, 6) := ⟨rfl, rfl, Or.inl (mGd_in (i := 1126) (by decide +kernel) rfl)⟩
theorem cq_X6_22 : mCpO mD "RingedLightsModel" (2, 33, 174, 1, 6) := ⟨rfl, rfl, Or.inl (mGd_in (i := 1134) (by decide +kernel) rfl)⟩
theorem cq_X6_23 : mCpO mD "RingedLightsModel" (2, 39, 162, 1, 99) := ⟨rfl, rfl, Or.inl (mGd_in (i := 1174) (by decide +kernel) rfl)⟩
theorem cq_X6_24 : mCpO mD "RingedLightsModel" (2, 43, 158, 2, 6) := ⟨rfl, rfl, Or.inl (mGd_in (i := 1142) (by decide +kernel) rfl)⟩
theorem cq_X6_25 : mCpO mD "RingedLightsModel" (2, 46, 159, 3, 6) := ⟨rfl, rfl, Or.inl (mGd_in (i := 1130) (by decide +kernel) rfl)⟩
theorem cq_X6_26 : mCpO mD "RingedLightsModel" (2, 50, 165, 3, 6) := ⟨rfl, rfl, Or.inl (mGd_in (i := 1146) (by decide +kernel) rfl)⟩
theorem cq_X6_27 : mCpO mD "RingedLightsModel" (2, 54, 170, 3, 6) := ⟨rfl, rfl, Or.inl (mGd_in (i := 1358) (by decide +kernel) rfl)⟩
theorem cq_X6_28 : mCpO mD "RingedLightsModel" (2, 58, 156, 2, 99) := ⟨rfl, rfl, Or.inl (mGd_in (i := 1314) (by decide +kernel) rfl)⟩
theorem cq_X6_29 : mCpO mD "RingedLightsModel" (2, 61, 171, 2, 6) := ⟨rfl, rfl, Or.inl (mGd_in (i := 1354) (by decide +kernel) rfl)⟩
theorem cq_X6_30 : mCpO mD "RingedLightsModel" (2, 64, 178, 2, 6) := ⟨rfl, rfl, Or.inl (mGd_in (i := 1150) (by decide +kernel) rfl)⟩
theorem cq_X6_31 : mCpO mD "RingedLightsModel" (2, 68, 173, 5, 6) := ⟨rfl, rfl, Or.inl (mGd_in (i := 1138) (by decide +kernel) rfl)⟩
theorem cq_X6_32 : mCpO mD "RingedLightsModel" (2, 72, 175, 2, 6) := ⟨rfl, rfl, Or.inl (mGd_in (i := 1166) (by decide +kernel) rfl)⟩
theorem cq_X6_33 : mCpO mD "RingedLightsModel" (2, 76, 164, 4, 6) := ⟨rfl, rfl, Or.inl (mGd_in (i := 1170) (by decide +kernel) rfl)⟩
theorem cq_X6_34 : mCpO mD "RingedLightsModel" (2, 80, 167, 3, 6) := ⟨rfl, rfl, Or.inl (mGd_in (i := 1158) (by decide +kernel) rfl)⟩
theorem cq_X6_35 : mCpO mD "RingedLightsModel" (2, 83, 176, 2, 6) := ⟨rfl, rfl, Or.inl (mGd_in (i := 1154) (by decide +kernel) rfl)⟩
theorem cq_X6_36 : mCpO mD "RingedLightsModel" (2, 86, 177, 2, 6) := ⟨rfl, rfl, Or.inl (mGd_in (i := 1162) (by decide +kernel) rfl)⟩
theorem cq_X6_37 : mCpO mD "RingedLightsModel" (2, 89, 163, 3, 6) := ⟨rfl, rfl, Or.inl (mGd_in (i := 1378) (by decide +kernel) rfl)⟩
theorem cq_X6_38 : mCpO mD "RingedLightsModel" (2, 92, 160, 3, 6) := ⟨rfl, rfl, Or.inl (mGd_in (i := 1323) (by decide +kernel) rfl)⟩
theorem cq_X6_39 : mCpO mD "RingedLightsModel" (2, 95, 166, 4, 6) := ⟨rfl, rfl, Or.inl (mGd_in (i := 1310) (by decide +kernel) rfl)⟩
theorem cq_X6_40 : mCpO mD "RingedLightsModel" (2, 98, 182, 3, 6) := ⟨rfl, rfl, Or.inl (mGd_in (i := 1509) (by decide +kernel) rfl)⟩
theorem cq_X6_41 : mCpO mD "RingedLightsModel" (2, 101, 180, 2, 6) := ⟨rfl, rfl, Or.inl (mGd_in (i := 1417) (by decide +kernel) rfl)⟩
theorem cq_X6_42 : mCpO mD "RingedLightsModel" (2, 104, 184, 3, 6) := ⟨rfl, rfl, Or.inl (mGd_in (i := 1580) (by decide +kernel) rfl)⟩
theorem cq_X6_43 : mCpO mD "RingedLightsModel" (2, 116, 186, 2, 6) := ⟨rfl, rfl, Or.inl (mGd_in (i := 1525) (by decide +kernel) rfl)⟩
theorem cq_X6_44 : mCpO mD "RingedLightsModel" (2, 119, 278, 2, 99) := ⟨rfl, rfl, Or.inl (mGd_in (i := 1282) (by decide +kernel) rfl)⟩
theorem cq_X6_45 : mCpO mD "RingedLightsModel" (2, 124, 157, 2, 99) := ⟨rfl, rfl, Or.inl (mGd_in (i := 1398) (by decide +kernel) rfl)⟩
theorem cq_X6_46 : mCpO mD "RingedLightsModel" (2, 127, 188, 1, 6) := ⟨rfl, rfl, Or.inl (mGd_in (i := 1536) (by decide +kernel) rfl)⟩
theorem cq_X6_47 : mCpO mD "RingedLightsModel" (2, 134, 179, 2, 6) := ⟨rfl, rfl, Or.inl (mGd_in (i := 1548) (by decide +kernel) rfl)⟩
theorem cq_X6_48 : mCpO mD "RingedLightsModel" (2, 137, 181, 2, 6) := ⟨rfl, rfl, Or.inl (mGd_in (i := 1382) (by decide +kernel) rfl)⟩
theorem cq_X6_49 : mCpO mD "RingedLightsModel" (2, 140, 190, 2, 6) := ⟨rfl, rfl, Or.inl (mGd_in (i := 1544) (by decide +kernel) rfl)⟩
theorem cq_X6_50 : mCpO mD "RingedLightsModel" (2, 143, 192, 2, 6) := ⟨rfl, rfl, Or.inl (mGd_in (i := 1394) (by decide +kernel) rfl)⟩
theorem cq_X6_51 : mCpO mD "RingedLightsModel" (2, 146, 193, 2, 6) := ⟨rfl, rfl, Or.inl (mGd_in (i := 1390) (by decide +kernel) rfl)⟩
theorem cq_X6_52 : mCpO mD "RingedLightsModel" (2, 149, 194, 2, 6) := ⟨rfl, rfl, Or.inl (mGd_in (i := 1401) (by decide +kernel) rfl)⟩
theorem cq_X6_53 : mCpO mD "RingedLightsModel" (2, 152, 195, 2, 6) := ⟨rfl, rfl, Or.inl (mGd_in (i := 1386) (by decide +kernel) rfl)⟩
theorem cq_X6_54 : mCpO mD "RingedLightsModel" (2, 155, 185, 3, 6) := ⟨rfl, rfl, Or.inl (mGd_in (i := 1588) (by decide +kernel) rfl)⟩
theorem cq_X6_55 : mCpO mD "RingedLightsModel" (2, 158, 183, 3, 6) := ⟨rfl, rfl, Or.inl (mGd_in (i := 1596) (by decide +kernel) rfl)⟩
theorem cq_X6_56 : mCpO mD "RingedLightsModel" (2, 161, 198, 1, 6) := ⟨rfl, rfl, Or.inl (mGd_in (i := 1449) (by decide +kernel) rfl)⟩
theorem cq_X6_57 : mCpO mD "RingedLightsModel" (2, 164, 172, 2, 6) := ⟨rfl, rfl, Or.inl (mGd_in (i := 1350) (by decide +kernel) rfl)⟩
theorem cq_X6_58 : mCpO mD "RingedLightsModel" (2, 167, 203, 1, 6) := ⟨rfl, rfl, Or.inl (mGd_in (i := 1560) (by decide +kernel) rfl)⟩
theorem cq_X6_59 : mCpO mD "RingedLightsModel" (2, 170, 187, 1, 6) := ⟨rfl, rfl, Or.inl (mGd_in (i := 1521) (by decide +kernel) rfl)⟩
theorem cq_X6_60 : mCpO mD "RingedLightsModel" (2, 173, 189, 1, 6) := ⟨rfl, rfl, Or.inl (mGd_in (i := 1532) (by decide +kernel) rfl)⟩
theorem cq_X6_61 : mCpO mD "RingedLightsModel" (2, 176, 191, 2, 6) := ⟨rfl, rfl, Or.inl (mGd_in (i := 1540) (by decide +kernel) rfl)⟩
theorem cq_X6_62 : mCpO mD "RingedLightsModel" (2, 179, 209, 1, 6) := ⟨rfl, rfl, Or.inl (mGd_in (i := 1552) (by decide +kernel) rfl)⟩
theorem cq_X6_63 : mCpO mD "RingedLightsModel" (2, 182, 196, 1, 6) := ⟨rfl, rfl, Or.inl (mGd_in (i := 1584) (by decide +kernel) rfl)⟩
theorem cq_X6_64 : mCpO mD "RingedLightsModel" (2, 185, 197, 1, 6) := ⟨rfl, rfl, Or.inl (mGd_in (i := 1592) (by decide +kernel) rfl)⟩
theorem cq_X6_65 : mCpO mD "RingedLightsModel" (2, 188, 210, 1, 6) := ⟨rfl, rfl, Or.inl (mGd_in (i := 1600) (by decide +kernel) rfl)⟩
theorem cq_X6_66 : mCpO mD "RingedLightsModel" (2, 191, 199, 1, 6) := ⟨rfl, rfl, Or.inl (mGd_in (i := 1604) (by decide +kernel) rfl)⟩
theorem cq_X6_67 : mCpO mD "RingedLightsModel" (2, 194, 200, 1, 6) := ⟨rfl, rfl, Or.inl (mGd_in (i := 1441) (by decide +kernel) rfl)⟩
theorem cq_X6_68 : mCpO mD "RingedLightsModel" (2, 197, 202, 3, 6) := ⟨rfl, rfl, Or.inl (mGd_in (i := 1429) (by decide +kernel) rfl)⟩
theorem cq_X6_69 : mCpO mD "RingedLightsModel" (2, 200, 204, 2, 6) := ⟨rfl, rfl, Or.inl (mGd_in (i := 1568) (by decide +kernel) rfl)⟩
theorem cq_X6_70 : mCpO mD "RingedLightsModel" (2, 203, 207, 2, 6) := ⟨rfl, rfl, Or.inl (mGd_in (i := 1576) (by decide +kernel) rfl)⟩
theorem cq_X6_71 : mCpO mD "RingedLightsModel" (2, 210, 206, 1, 6) := ⟨rfl, rfl, Or.inl (mGd_in (i := 1556) (by decide +kernel) rfl)⟩
theorem cq_X6_72 : mCpO mD "RingedLightsModel" (2, 213, 205, 2, 6) := ⟨rfl, rfl, Or.inl (mGd_in (i := 1564) (by decide +kernel) rfl)⟩
theorem cq_X6_73 : mCpO mD "RingedLightsModel" (2, 216, 208, 2, 6) := ⟨rfl, rfl, Or.inl (mGd_in (i := 1572) (by decide +kernel) rfl)⟩
theorem cq_X6_74 : mCpO mD "RingedLightsModel" (2, 222, 212, 2, 6) := ⟨rfl, rfl, Or.inl (mGd_in (i := 1249) (by decide +kernel) rfl)⟩
theorem cq_X6_75 : mCpO mD "RingedLightsModel" (2, 231, 213, 2, 6) := ⟨rfl, rfl, Or.inl (mGd_in (i := 1272) (by decide +kernel) rfl)⟩
theorem cq_X6_76 : mCpO mD "RingedLightsModel" (2, 240, 214, 1, 99) := ⟨rfl, rfl, Or.inl (mGd_in (i := 1276) (by decide +kernel) rfl)⟩
theorem cq_X6_77 : mCpO mD "RingedLightsModel" (2, 243, 215, 1, 99) := ⟨rfl, rfl, Or.inl (mGd_in (i := 1279) (by decide +kernel) rfl)⟩
theorem cq_X6_78 : mCpO mD "RingedLightsModel" (2, 251, 279, 1, 7) := ⟨rfl, rfl, Or.inl (mGd_in (i := 1292) (by decide +kernel) rfl)⟩
theorem cq_X6_79 : mCpO mD "RingedLightsModel" (2, 256, 280, 2, 7) := ⟨rfl, rfl, Or.inl (mGd_in (i := 1293) (by decide +kernel) rfl)⟩
theorem cq_X6_80 : mCpO mD "RingedLightsModel" (2, 266, 216, 1, 6) := ⟨rfl, rfl, Or.inl (mGd_in (i := 1268) (by decide +kernel) rfl)⟩
theorem cq_X6_81 : mCpO mD "RingedLightsModel" (2, 269, 218, 2, 6) := ⟨rfl, rfl, Or.inl (mGd_in (i := 1298) (by decide +kernel) rfl)⟩
theorem cq_X6_82 : mCpO mD "RingedLightsModel" (2, 272, 155, 3, 99) := ⟨rfl, rfl, Or.inl (mGd_in (i := 1257) (by decide +kernel) rfl)⟩
theorem cq_X6_83 : mCpO mD "RingedLightsModel" (2, 279, 219, 1, 6) := ⟨rfl, rfl, Or.inl (mGd_in (i := 1306) (by decide +kernel) rfl)⟩
theorem cq_X6_84 : mCpO mD "RingedLightsModel" (2, 283, 217, 1, 6) := ⟨rfl, rfl, Or.inl (mGd_in (i := 1287) (by decide +kernel) rfl)⟩
theorem cq_X6_85 : mCpO mD "RingedLightsModel" (2, 286, 220, 3, 6) := ⟨rfl, rfl, Or.inl (mGd_in (i := 1302) (by decide +kernel) rfl)⟩
theorem cq_X6_86 : mCpO mD "RingedLightsModel" (2, 289, 222, 1, 99) := ⟨rfl, rfl, Or.inl (mGd_in (i := 1317) (by decide +kernel) rfl)⟩
theorem cq_X6_87 : mCpO mD "RingedLightsModel" (2, 292, 223, 1, 99) := ⟨rfl, rfl, Or.inl (mGd_in (i := 1320) (by decide +kernel) rfl)⟩
theorem cq_X6_88 : mCpO mD "RingedLightsModel" (2, 295, 221, 2, 6) := ⟨rfl, rfl, Or.inl (mGd_in (i := 1342) (by decide +kernel) rfl)⟩
theorem cq_X6_89 : mCpO mD "RingedLightsModel" (2, 298, 225, 1, 6) := ⟨rfl, rfl, Or.inl (mGd_in (i := 1346) (by decide +kernel) rfl)⟩
theorem cq_X6_90 : mCpO mD "RingedLightsModel" (2, 304, 226, 3, 6) := ⟨rfl, rfl, Or.inl (mGd_in (i := 1338) (by decide +kernel) rfl)⟩
theorem cq_X6_91 : mCpO mD "RingedLightsModel" (2, 307, 228, 1, 99) := ⟨rfl, rfl, Or.inl (mGd_in (i := 1331) (by decide +kernel) rfl)⟩
theorem cq_X6_92 : mCpO mD "RingedLightsModel" (2, 310, 224, 1, 6) := ⟨rfl, rfl, Or.inl (mGd_in (i := 1294) (by decide +kernel) rfl)⟩
theorem cq_X6_93 : mCpO mD "RingedLightsModel" (2, 313, 229, 2, 6) := ⟨rfl, rfl, Or.inl (mGd_in (i := 1327) (by decide +kernel) rfl)⟩
theorem cq_X6_94 : mCpO mD "RingedLightsModel" (2, 316, 227, 1, 6) := ⟨rfl, rfl, Or.inl (mGd_in (i := 1334) (by decide +kernel) rfl)⟩
theorem cq_X6_95 : mCpO mD "RingedLightsModel" (2, 319, 152, 2, 6) := ⟨rfl, rfl, Or.inl (mGd_in (i := 1260) (by decide +kernel) rfl)⟩
theorem cq_X6_96 : mCpO mD "RingedLightsModel" (2, 322, 161, 3, 6) := ⟨rfl, rfl, Or.inl (mGd_in (i := 1264) (by decide +kernel) rfl)⟩
theorem cq_X6_97 : mCpO mD "RingedLightsModel" (2, 325, 230, 1, 6) := ⟨rfl, rfl, Or.inl (mGd_in (i := 1283) (by decide +kernel) rfl)⟩
theorem cq_X6_98 : mCpO mD "RingedLightsModel" (2, 328, 154, 2, 6) := ⟨rfl, rfl, Or.inl (mGd_in (i := 1362) (by decide +kernel) rfl)⟩
theorem cq_X6_99 : mCpO mD "RingedLightsModel" (2, 334, 168, 2, 6) := ⟨rfl, rfl, Or.inl (mGd_in (i := 1409) (by decide +kernel) rfl)⟩
theorem cq_X6_100 : mCpO mD "RingedLightsModel" (2, 337, 235, 2, 6) := ⟨rfl, rfl, Or.inl (mGd_in (i := 1413) (by decide +kernel) rfl)⟩
theorem cq_X6_101 : mCpO mD "RingedLightsModel" (2, 340, 240, 1, 6) := ⟨rfl, rfl, Or.inl (mGd_in (i := 1437) (by decide +kernel) rfl)⟩
theorem cq_X6_102 : mCpO mD "RingedLightsModel" (2, 343, 239, 1, 6) := ⟨rfl, rfl, Or.inl (mGd_in (i := 1445) (by decide +kernel) rfl)⟩
theorem cq_X6_103 : mCpO mD "RingedLightsModel" (2, 346, 153, 2, 6) := ⟨rfl, rfl, Or.inl (mGd_in (i := 1469) (by decide +kernel) rfl)⟩
theorem cq_X6_104 : mCpO mD "RingedLightsModel" (2, 349, 245, 2, 6) := ⟨rfl, rfl, Or.inl (mGd_in (i := 1473) (by decide +kernel) rfl)⟩
theorem cq_X6_105 : mCpO mD "RingedLightsModel" (2, 352, 248, 3, 6) := ⟨rfl, rfl, Or.inl (mGd_in (i := 1485) (by decide +kernel) rfl)⟩
theorem cq_X6_106 : mCpO mD "RingedLightsModel" (2, 356, 251, 2, 6) := ⟨rfl, rfl, Or.inl (mGd_in (i := 1497) (by decide +kernel) rfl)⟩
theorem cq_X6_107 : mCpO mD "RingedLightsModel" (2, 359, 201, 2, 6) := ⟨rfl, rfl, Or.inl (mGd_in (i := 1517) (by decide +kernel) rfl)⟩
theorem cq_X6_108 : mCpO mD "RingedLightsModel" (2, 363, 260, 2, 6) := ⟨rfl, rfl, Or.inl (mGd_in (i := 1628) (by decide +kernel) rfl)⟩
theorem cq_X6_109 : mCpO mD "RingedLightsModel" (2, 366, 261, 2, 6) := ⟨rfl, rfl, Or.inl (mGd_in (i := 1632) (by decide +kernel) rfl)⟩
theorem cq_X6_110 : mCpO mD "RingedLightsModel" (2, 369, 263, 2, 6) := ⟨rfl, rfl, Or.inl (mGd_in (i := 1648) (by decide +kernel) rfl)⟩
theorem cq_X6_111 : mCpO mD "RingedLightsModel" (2, 372, 264, 3, 6) := ⟨rfl, rfl, Or.inl (mGd_in (i := 1644) (by decide +kernel) rfl)⟩
theorem cq_X6_112 : mCpO mD "RingedLightsModel" (2, 375, 265, 2, 6) := ⟨rfl, rfl, Or.inl (mGd_in (i := 1652) (by decide +kernel) rfl)⟩
theorem cq_X6_113 : mCpO mD "RingedLightsModel" (2, 378, 266, 3, 6) := ⟨rfl, rfl, Or.inl (mGd_in (i := 1640) (by decide +kernel) rfl)⟩
theorem cq_X6_114 : mCpO mD "RingedLightsModel" (2, 381, 272, 2, 6) := ⟨rfl, rfl, Or.inl (mGd_in (i := 1676) (by decide +kernel) rfl)⟩
theorem cq_X6_115 : mCpO mD "RingedLightsModel" (3, 249, 17, 0, 0) := ⟨" min pass max yellow clear walk halt recall split rate phase cycle offset break track dwell cut ", by decide +kernel⟩
theorem cq_X6_116 : mCpO mD "RingedLightsModel" (4, 110, 9301, 0, 0) := mGd_in (i := 1529) (by decide +kernel) rfl
theorem cq_X6_117 : mCpO mD "RingedLightsModel" (4, 112, 49297, 0, 0) := mGd_in (i := 1530) (by decide +kernel) rfl
theorem cq_X6_118 : mCpO mD "RingedLightsModel" (4, 114, 233280, 0, 0) := mGd_in (i := 1531) (by decide +kernel) rfl
theorem co_X6 : ∀ q ∈ cp_X6, mCpO mD "RingedLightsModel" q := List.forall_mem_cons.mpr ⟨cq_X6_0, List.forall_mem_cons.mpr ⟨cq_X6_1, List.forall_mem_cons.mpr ⟨cq_X6_2, List.forall_mem_cons.mpr ⟨cq_X6_3, List.forall_mem_cons.mpr ⟨cq_X6_4, List.forall_mem_cons.mpr ⟨cq_X6_5, List.forall_mem_cons.mpr ⟨cq_X6_6, List.forall_mem_cons.mpr ⟨cq_X6_7, List.forall_mem_cons.mpr ⟨cq_X6_8, List.forall_mem_cons.mpr ⟨cq_X6_9, List.forall_mem_cons.mpr ⟨cq_X6_10, List.forall_mem_cons.mpr ⟨cq_X6_11, List.forall_mem_cons.mpr ⟨cq_X6_12, List.forall_mem_cons.mpr ⟨cq_X6_13, List.forall_mem_cons.mpr ⟨cq_X6_14, List.forall_mem_cons.mpr ⟨cq_X6_15, List.forall_mem_cons.mpr ⟨cq_X6_16, List.forall_mem_cons.mpr ⟨cq_X6_17, List.forall_mem_cons.mpr ⟨cq_X6_18, List.forall_mem_cons.mpr ⟨cq_X6_19, List.forall_mem_cons.mpr ⟨cq_X6_20, List.forall_mem_cons.mpr ⟨cq_X6_21, List.forall_mem_cons.mpr ⟨cq_X6_22, List.forall_mem_cons.mpr ⟨cq_X6_23, List.forall_mem_cons.mpr ⟨cq_X6_24, List.forall_mem_cons.mpr ⟨cq_X6_25, List.forall_mem_cons.mpr ⟨cq_X6_26, List.forall_mem_cons.mpr ⟨cq_X6_27, List.forall_mem_cons.mpr ⟨cq_X6_28, List.forall_mem_cons.mpr ⟨cq_X6_29, List.forall_mem_cons.mpr ⟨cq_X6_30, List.forall_mem_cons.mpr ⟨cq_X6_31, List.forall_mem_cons.mpr ⟨cq_X6_32, List.forall_mem_cons.mpr ⟨cq_X6_33, List.forall_mem_cons.mpr ⟨cq_X6_34, List.forall_mem_cons.mpr ⟨cq_X6_35, List.forall_mem_cons.mpr ⟨cq_X6_36, List.forall_mem_cons.mpr ⟨cq_X6_37, List.forall_mem_cons.mpr ⟨cq_X6_38, List.forall_mem_cons.mpr ⟨cq_X6_39, List.forall_mem_cons.mpr ⟨cq_X6_40, List.forall_mem_cons.mpr ⟨cq_X6_41, List.forall_mem_cons.mpr ⟨cq_X6_42, List.forall_mem_cons.mpr ⟨cq_X6_43, List.forall_mem_cons.mpr ⟨cq_X6_44, List.forall_mem_cons.mpr ⟨cq_X6_45, List.forall_mem_cons.mpr ⟨cq_X6_46, List.forall_mem_cons.mpr ⟨cq_X6_47, List.forall_mem_cons.mpr ⟨cq_X6_48, List.forall_mem_cons.mpr ⟨cq_X6_49, List.forall_mem_cons.mpr ⟨cq_X6_50, List.forall_mem_cons.mpr ⟨cq_X6_51, List.forall_mem_cons.mpr ⟨cq_X6_52, List.forall_mem_cons.mpr ⟨cq_X6_53, List.forall_mem_cons.mpr ⟨cq_X6_54, List.forall_mem_cons.mpr ⟨cq_X6_55, List.forall_mem_cons.mpr ⟨cq_X6_56, List.forall_mem_cons.mpr ⟨cq_X6_57, List.forall_mem_cons.mpr ⟨cq_X6_58, List.forall_mem_cons.mpr ⟨cq_X6_59, List.forall_mem_cons.mpr ⟨cq_X6_60, List.forall_mem_cons.mpr ⟨cq_X6_61, List.forall_mem_cons.mpr ⟨cq_X6_62, List.forall_mem_cons.mpr ⟨cq_X6_63, List.forall_mem_cons.mpr ⟨cq_X6_64, List.forall_mem_cons.mpr ⟨cq_X6_65, List.forall_mem_cons.mpr ⟨cq_X6_66, List.forall_mem_cons.mpr ⟨cq_X6_67, List.forall_mem_cons.mpr ⟨cq_X6_68, List.forall_mem_cons.mpr ⟨cq_X6_69, List.forall_mem_cons.mpr ⟨cq_X6_70, List.forall_mem_cons.mpr ⟨cq_X6_71, List.forall_mem_cons.mpr ⟨cq_X6_72, List.forall_mem_cons.mpr ⟨cq_X6_73, List.forall_mem_cons.mpr ⟨cq_X6_74, List.forall_mem_cons.mpr ⟨cq_X6_75, List.forall_mem_cons.mpr ⟨cq_X6_76, List.forall_mem_cons.mpr ⟨cq_X6_77, List.forall_mem_cons.mpr ⟨cq_X6_78, List.forall_mem_cons.mpr ⟨cq_X6_79, List.forall_mem_cons.mpr ⟨cq_X6_80, List.forall_mem_cons.mpr ⟨cq_X6_81, List.forall_mem_cons.mpr ⟨cq_X6_82, List.forall_mem_cons.mpr ⟨cq_X6_83, List.forall_mem_cons.mpr ⟨cq_X6_84, List.forall_mem_cons.mpr ⟨cq_X6_85, List.forall_mem_cons.mpr ⟨cq_X6_86, List.forall_mem_cons.mpr ⟨cq_X6_87, List.forall_mem_cons.mpr ⟨cq_X6_88, List.forall_mem_cons.mpr ⟨cq_X6_89, List.forall_mem_cons.mpr ⟨cq_X6_90, List.forall_mem_cons.mpr ⟨cq_X6_91, List.forall_mem_cons.mpr ⟨cq_X6_92, List.forall_mem_cons.mpr ⟨cq_X6_93, List.forall_mem_cons.mpr ⟨cq_X6_94, List.forall_mem_cons.mpr ⟨cq_X6_95, List.forall_mem_cons.mpr ⟨cq_X6_96, List.forall_mem_cons.mpr ⟨cq_X6_97, List.forall_mem_cons.mpr ⟨cq_X6_98, List.forall_mem_cons.mpr ⟨cq_X6_99, List.forall_mem_cons.mpr ⟨cq_X6_100, List.forall_mem_cons.mpr ⟨cq_X6_101, List.forall_mem_cons.mpr ⟨cq_X6_102, List.forall_mem_cons.mpr ⟨cq_X6_103, List.forall_mem_cons.mpr ⟨cq_X6_104, List.forall_mem_cons.mpr ⟨cq_X6_105, List.forall_mem_cons.mpr ⟨cq_X6_106, List.forall_mem_cons.mpr ⟨cq_X6_107, List.forall_mem_cons.mpr ⟨cq_X6_108, List.forall_mem_cons.mpr ⟨cq_X6_109, List.forall_mem_cons.mpr ⟨cq_X6_110, List.forall_mem_cons.mpr ⟨cq_X6_111, List.forall_mem_cons.mpr ⟨cq_X6_112, List.forall_mem_cons.mpr ⟨cq_X6_113, List.forall_mem_cons.mpr ⟨cq_X6_114, List.forall_mem_cons.mpr ⟨cq_X6_115, List.forall_mem_cons.mpr ⟨cq_X6_116, List.forall_mem_cons.mpr ⟨cq_X6_117, List.forall_mem_cons.mpr ⟨cq_X6_118, fun _ h => absurd h List.not_mem_nil⟩⟩⟩⟩⟩⟩⟩⟩⟩⟩⟩⟩⟩⟩⟩⟩⟩⟩⟩⟩⟩⟩⟩⟩⟩⟩⟩⟩⟩⟩⟩⟩⟩⟩⟩⟩⟩⟩⟩⟩⟩⟩⟩⟩⟩⟩⟩⟩⟩⟩⟩⟩⟩⟩⟩⟩⟩⟩⟩⟩⟩⟩⟩⟩⟩⟩⟩⟩⟩⟩⟩⟩⟩⟩⟩⟩⟩⟩⟩⟩⟩⟩⟩⟩⟩⟩⟩⟩⟩⟩⟩⟩⟩⟩⟩⟩⟩⟩⟩⟩⟩⟩⟩⟩⟩⟩⟩⟩⟩⟩⟩⟩⟩⟩⟩⟩⟩⟩⟩
theorem cq_J0_0 : mCpO mD "java/lang/String" (0, 9, 7, 0, 0) := Or.inl ⟨rfl, rfl, mGd_in (i := 1688) (by decide +kernel) rfl⟩
theorem cq_J0_1 : mCpO mD "java/lang/String" (0, 15, 7, 1, 0) := Or.inr (Or.inl ⟨rfl, rfl, mGd_in (i := 1689) (by decide +kernel) rfl⟩)
theorem cq_J0_2 : mCpO mD "java/lang/String" (1, 38, 1, 0, 0) := Or.inr (Or.inl ⟨rfl, mGd_in (i := 468) (by decide +kernel) rfl⟩)
theorem cq_J0_3 : mCpO mD "java/lang/String" (1, 1053, 2, 0, 0) := Or.inr (Or.inr ⟨rfl, mGd_in (i := 484) (by decide +kernel) rfl⟩)
theorem cq_J0_4 : mCpO mD "java/lang/String" (2, 335, 281, 1, 7) := ⟨rfl, rfl, Or.inl (mGd_in (i := 464) (by decide +kernel) rfl)⟩
theorem cq_J0_5 : mCpO mD "java/lang/String" (2, 492, 282, 1, 7) := ⟨rfl, rfl, Or.inl (mGd_in (i := 474) (by decide +kernel) rfl)⟩
theorem cq_J0_6 : mCpO mD "java/lang/String" (2, 495, 284, 2, 99) := ⟨rfl, rfl, Or.inl (mGd_in (i := 478) (by decide +kernel) rfl)⟩
theorem cq_J0_7 : mCpO mD "java/lang/String" (2, 1059, 285, 3, 99) := ⟨rfl, rfl, Or.inl (mGd_in (i := 486) (by decide +kernel) rfl)⟩
theorem co_J0 : ∀ q ∈ cp_J0, mCpO mD "java/lang/String" q := List.forall_mem_cons.mpr ⟨cq_J0_0, List.forall_mem_cons.mpr ⟨cq_J0_1, List.forall_mem_cons.mpr ⟨cq_J0_2, List.forall_mem_cons.mpr ⟨cq_J0_3, List.forall_mem_cons.mpr ⟨cq_J0_4, List.forall_mem_cons.mpr ⟨cq_J0_5, List.forall_mem_cons.mpr ⟨cq_J0_6, List.forall_mem_cons.mpr ⟨cq_J0_7, fun _ h => absurd h List.not_mem_nil⟩⟩⟩⟩⟩⟩⟩⟩
theorem cq_J1_0 : mCpO mD "java/lang/StringLatin1" (2, 9, 283, 2, 99) := ⟨rfl, rfl, Or.inl (mGd_in (i := 481) (by decide +kernel) rfl)⟩
theorem co_J1 : ∀ q ∈ cp_J1, mCpO mD "java/lang/StringLatin1" q := List.forall_mem_cons.mpr ⟨cq_J1_0, fun _ h => absurd h List.not_mem_nil⟩
theorem cq_L_0 : mCpO mD "RingedLightsLaw" (2, 13, 97, 1, 5) := ⟨rfl, rfl, Or.inl (mGd_in (i := 397) (by decide +kernel) rfl)⟩
theorem cq_L_1 : mCpO mD "RingedLightsLaw" (2, 17, 151, 1, 6) := ⟨rfl, rfl, Or.inl (mGd_in (i := 1241) (by decide +kernel) rfl)⟩
theorem cq_L_2 : mCpO mD "RingedLightsLaw" (2, 18, 98, 6, 5) := ⟨rfl, rfl, Or.inl (mGd_in (i := 401) (by decide +kernel) rfl)⟩
theorem cq_L_3 : mCpO mD "RingedLightsLaw" (2, 22, 211, 6, 6) := ⟨rfl, rfl, Or.inl (mGd_in (i := 1245) (by decide +kernel) rfl)⟩
theorem cq_L_4 : mCpO mD "RingedLightsLaw" (2, 23, 99, 2, 5) := ⟨rfl, rfl, Or.inl (mGd_in (i := 413) (by decide +kernel) rfl)⟩
theorem cq_L_5 : mCpO mD "RingedLightsLaw" (2, 27, 231, 2, 6) := ⟨rfl, rfl, Or.inl (mGd_in (i := 1253) (by decide +kernel) rfl)⟩
theorem cq_L_6 : mCpO mD "RingedLightsLaw" (2, 28, 100, 2, 5) := ⟨rfl, rfl, Or.inl (mGd_in (i := 678) (by decide +kernel) rfl)⟩
theorem cq_L_7 : mCpO mD "RingedLightsLaw" (2, 31, 232, 2, 6) := ⟨rfl, rfl, Or.inl (mGd_in (i := 1366) (by decide +kernel) rfl)⟩
theorem cq_L_8 : mCpO mD "RingedLightsLaw" (2, 32, 101, 2, 5) := ⟨rfl, rfl, Or.inl (mGd_in (i := 682) (by decide +kernel) rfl)⟩
theorem cq_L_9 : mCpO mD "RingedLightsLaw" (2, 35, 233, 2, 6) := ⟨rfl, rfl, Or.inl (mGd_in (i := 1370) (by decide +kernel) rfl)⟩
theorem cq_L_10 : mCpO mD "RingedLightsLaw" (2, 36, 102, 3, 5) := ⟨rfl, rfl, Or.inl (mGd_in (i := 686) (by decide +kernel) rfl)⟩
theorem cq_L_11 : mCpO mD "RingedLightsLaw" (2, 40, 234, 3, 6) := ⟨rfl, rfl, Or.inl (mGd_in (i := 1374) (by decide +kernel) rfl)⟩
theorem cq_L_12 : mCpO mD "RingedLightsLaw" (2, 41, 103, 3, 5) := ⟨rfl, rfl, Or.inl (mGd_in (i := 723) (by decide +kernel) rfl)⟩
theorem cq_L_13 : mCpO mD "RingedLightsLaw" (2, 44, 236, 3, 6) := ⟨rfl, rfl, Or.inl (mGd_in (i := 1405) (by decide +kernel) rfl)⟩
theorem cq_L_14 : mCpO mD "RingedLightsLaw" (2, 45, 104, 3, 5) := ⟨rfl, rfl, Or.inl (mGd_in (i := 750) (by decide +kernel) rfl)⟩
theorem cq_L_15 : mCpO mD "RingedLightsLaw" (2, 48, 237, 3, 6) := ⟨rfl, rfl, Or.inl (mGd_in (i := 1421) (by decide +kernel) rfl)⟩
theorem cq_L_16 : mCpO mD "RingedLightsLaw" (2, 49, 105, 3, 5) := ⟨rfl, rfl, Or.inl (mGd_in (i := 755) (by decide +kernel) rfl)⟩
theorem cq_L_17 : mCpO mD "RingedLightsLaw" (2, 52, 238, 3, 6) := ⟨rfl, rfl, Or.inl (mGd_in (i := 1425) (by decide +kernel) rfl)⟩
theorem cq_L_18 : mCpO mD "RingedLightsLaw" (2, 53, 106, 2, 5) := ⟨rfl, rfl, Or.inl (mGd_in (i := 765) (by decide +kernel) rfl)⟩
theorem cq_L_19 : mCpO mD "RingedLightsLaw" (2, 56, 241, 2, 6) := ⟨rfl, rfl, Or.inl (mGd_in (i := 1433) (by decide +kernel) rfl)⟩
theorem cq_L_20 : mCpO mD "RingedLightsLaw" (2, 57, 107, 3, 5) := ⟨rfl, rfl, Or.inl (mGd_in (i := 793) (by decide +kernel) rfl)⟩
theorem cq_L_21 : mCpO mD "RingedLightsLaw" (2, 60, 242, 3, 6) := ⟨rfl, rfl, Or.inl (mGd_in (i := 1453) (by decide +kernel) rfl)⟩
theorem cq_L_22 : mCpO mD "RingedLightsLaw" (2, 61, 108, 4, 5) := ⟨rfl, rfl, Or.inl (mGd_in (i := 803) (by decide +kernel) rfl)⟩
theorem cq_L_23 : mCpO mD "RingedLightsLaw" (2, 65, 243, 4, 6) := ⟨rfl, rfl, Or.inl (mGd_in (i := 1457) (by decide +kernel) rfl)⟩
theorem cq_L_24 : mCpO mD "RingedLightsLaw" (2, 66, 109, 3, 5) := ⟨rfl, rfl, Or.inl (mGd_in (i := 811) (by decide +kernel) rfl)⟩
theorem cq_L_25 : mCpO mD "RingedLightsLaw" (2, 69, 244, 3, 6) := ⟨rfl, rfl, Or.inl (mGd_in (i := 1461) (by decide +kernel) rfl)⟩
theorem cq_L_26 : mCpO mD "RingedLightsLaw" (2, 70, 110, 3, 5) := ⟨rfl, rfl, Or.inl (mGd_in (i := 823) (by decide +kernel) rfl)⟩
theorem cq_L_27 : mCpO mD "RingedLightsLaw" (2, 74, 246, 3, 6) := ⟨rfl, rfl, Or.inl (mGd_in (i := 1465) (by decide +kernel) rfl)⟩
theorem cq_L_28 : mCpO mD "RingedLightsLaw" (2, 75, 111, 3, 5) := ⟨rfl, rfl, Or.inl (mGd_in (i := 843) (by decide +kernel) rfl)⟩
theorem cq_L_29 : mCpO mD "RingedLightsLaw" (2, 78, 247, 3, 6) := ⟨rfl, rfl, Or.inl (mGd_in (i := 1477) (by decide +kernel) rfl)⟩
theorem cq_L_30 : mCpO mD "RingedLightsLaw" (2, 79, 112, 2, 5) := ⟨rfl, rfl, Or.inl (mGd_in (i := 853) (by decide +kernel) rfl)⟩
theorem cq_L_31 : mCpO mD "RingedLightsLaw" (2, 83, 249, 2, 6) := ⟨rfl, rfl, Or.inl (mGd_in (i := 1481) (by decide +kernel) rfl)⟩
theorem cq_L_32 : mCpO mD "RingedLightsLaw" (2, 84, 113, 2, 5) := ⟨rfl, rfl, Or.inl (mGd_in (i := 857) (by decide +kernel) rfl)⟩
theorem cq_L_33 : mCpO mD "RingedLightsLaw" (2, 87, 250, 2, 6) := ⟨rfl, rfl, Or.inl (mGd_in (i := 1489) (by decide +kernel) rfl)⟩
theorem cq_L_34 : mCpO mD "RingedLightsLaw" (2, 88, 114, 7, 5) := ⟨rfl, rfl, Or.inl (mGd_in (i := 861) (by decide +kernel) rfl)⟩
theorem cq_L_35 : mCpO mD "RingedLightsLaw" (2, 92, 252, 7, 6) := ⟨rfl, rfl, Or.inl (mGd_in (i := 1493) (by decide +kernel) rfl)⟩
theorem cq_L_36 : mCpO mD "RingedLightsLaw" (2, 93, 115, 3, 5) := ⟨rfl, rfl, Or.inl (mGd_in (i := 871) (by decide +kernel) rfl)⟩
theorem cq_L_37 : mCpO mD "RingedLightsLaw" (2, 96, 253, 3, 6) := ⟨rfl, rfl, Or.inl (mGd_in (i := 1501) (by decide +kernel) rfl)⟩
theorem cq_L_38 : mCpO mD "RingedLightsLaw" (2, 97, 116, 1, 5) := ⟨rfl, rfl, Or.inl (mGd_in (i := 876) (by decide +kernel) rfl)⟩
theorem cq_L_39 : mCpO mD "RingedLightsLaw" (2, 101, 254, 1, 6) := ⟨rfl, rfl, Or.inl (mGd_in (i := 1505) (by decide +kernel) rfl)⟩
theorem cq_L_40 : mCpO mD "RingedLightsLaw" (2, 102, 117, 2, 5) := ⟨rfl, rfl, Or.inl (mGd_in (i := 886) (by decide +kernel) rfl)⟩
theorem cq_L_41 : mCpO mD "RingedLightsLaw" (2, 105, 255, 2, 6) := ⟨rfl, rfl, Or.inl (mGd_in (i := 1513) (by decide +kernel) rfl)⟩
theorem cq_L_42 : mCpO mD "RingedLightsLaw" (2, 106, 118, 3, 5) := ⟨rfl, rfl, Or.inl (mGd_in (i := 1017) (by decide +kernel) rfl)⟩
theorem cq_L_43 : mCpO mD "RingedLightsLaw" (2, 109, 256, 3, 6) := ⟨rfl, rfl, Or.inl (mGd_in (i := 1608) (by decide +kernel) rfl)⟩
theorem cq_L_44 : mCpO mD "RingedLightsLaw" (2, 110, 119, 1, 5) := ⟨rfl, rfl, Or.inl (mGd_in (i := 1030) (by decide +kernel) rfl)⟩
theorem cq_L_45 : mCpO mD "RingedLightsLaw" (2, 113, 257, 1, 6) := ⟨rfl, rfl, Or.inl (mGd_in (i := 1612) (by decide +kernel) rfl)⟩
theorem cq_L_46 : mCpO mD "RingedLightsLaw" (2, 114, 120, 1, 5) := ⟨rfl, rfl, Or.inl (mGd_in (i := 1053) (by decide +kernel) rfl)⟩
theorem cq_L_47 : mCpO mD "RingedLightsLaw" (2, 117, 258, 1, 6) := ⟨rfl, rfl, Or.inl (mGd_in (i := 1616) (by decide +kernel) rfl)⟩
theorem cq_L_48 : mCpO mD "RingedLightsLaw" (2, 118, 121, 3, 5) := ⟨rfl, rfl, Or.inl (mGd_in (i := 1057) (by decide +kernel) rfl)⟩
theorem cq_L_49 : mCpO mD "RingedLightsLaw" (2, 121, 259, 3, 6) := ⟨rfl, rfl, Or.inl (mGd_in (i := 1620) (by decide +kernel) rfl)⟩
theorem cq_L_50 : mCpO mD "RingedLightsLaw" (2, 122, 122, 2, 5) := ⟨rfl, rfl, Or.inl (mGd_in (i := 1062) (by decide +kernel) rfl)⟩
theorem cq_L_51 : mCpO mD "RingedLightsLaw" (2, 125, 262, 2, 6) := ⟨rfl, rfl, Or.inl (mGd_in (i := 1624) (by decide +kernel) rfl)⟩
theorem cq_L_52 : mCpO mD "RingedLightsLaw" (2, 126, 123, 2, 5) := ⟨rfl, rfl, Or.inl (mGd_in (i := 1075) (by decide +kernel) rfl)⟩
theorem cq_L_53 : mCpO mD "RingedLightsLaw" (2, 129, 267, 2, 6) := ⟨rfl, rfl, Or.inl (mGd_in (i := 1636) (by decide +kernel) rfl)⟩
theorem cq_L_54 : mCpO mD "RingedLightsLaw" (2, 130, 124, 2, 5) := ⟨rfl, rfl, Or.inl (mGd_in (i := 1092) (by decide +kernel) rfl)⟩
theorem cq_L_55 : mCpO mD "RingedLightsLaw" (2, 133, 268, 2, 6) := ⟨rfl, rfl, Or.inl (mGd_in (i := 1656) (by decide +kernel) rfl)⟩
theorem cq_L_56 : mCpO mD "RingedLightsLaw" (2, 134, 125, 1, 5) := ⟨rfl, rfl, Or.inl (mGd_in (i := 1096) (by decide +kernel) rfl)⟩
theorem cq_L_57 : mCpO mD "RingedLightsLaw" (2, 137, 269, 1, 6) := ⟨rfl, rfl, Or.inl (mGd_in (i := 1660) (by decide +kernel) rfl)⟩
theorem cq_L_58 : mCpO mD "RingedLightsLaw" (2, 138, 126, 1, 5) := ⟨rfl, rfl, Or.inl (mGd_in (i := 1100) (by decide +kernel) rfl)⟩
theorem cq_L_59 : mCpO mD "RingedLightsLaw" (2, 141, 270, 1, 6) := ⟨rfl, rfl, Or.inl (mGd_in (i := 1664) (by decide +kernel) rfl)⟩
theorem cq_L_60 : mCpO mD "RingedLightsLaw" (2, 142, 127, 2, 5) := ⟨rfl, rfl, Or.inl (mGd_in (i := 1104) (by decide +kernel) rfl)⟩
theorem cq_L_61 : mCpO mD "RingedLightsLaw" (2, 145, 271, 2, 6) := ⟨rfl, rfl, Or.inl (mGd_in (i := 1668) (by decide +kernel) rfl)⟩
theorem cq_L_62 : mCpO mD "RingedLightsLaw" (2, 146, 128, 3, 5) := ⟨rfl, rfl, Or.inl (mGd_in (i := 1108) (by decide +kernel) rfl)⟩
theorem cq_L_63 : mCpO mD "RingedLightsLaw" (2, 149, 273, 3, 6) := ⟨rfl, rfl, Or.inl (mGd_in (i := 1672) (by decide +kernel) rfl)⟩
theorem cq_L_64 : mCpO mD "RingedLightsLaw" (2, 150, 129, 3, 5) := ⟨rfl, rfl, Or.inl (mGd_in (i := 1112) (by decide +kernel) rfl)⟩
theorem cq_L_65 : mCpO mD "RingedLightsLaw" (2, 153, 274, 3, 6) := ⟨rfl, rfl, Or.inl (mGd_in (i := 1680) (by decide +kernel) rfl)⟩
theorem cq_L_66 : mCpO mD "RingedLightsLaw" (2, 154, 130, 2, 5) := ⟨rfl, rfl, Or.inl (mGd_in (i := 1116) (by decide +kernel) rfl)⟩
theorem cq_L_67 : mCpO mD "RingedLightsLaw" (2, 157, 275, 2, 6) := ⟨rfl, rfl, Or.inl (mGd_in (i := 1684) (by decide +kernel) rfl)⟩
theorem co_L : ∀ q ∈ cp_L, mCpO mD "RingedLightsLaw" q := List.forall_mem_cons.mpr ⟨cq_L_0, List.forall_mem_cons.mpr ⟨cq_L_1, List.forall_mem_cons.mpr ⟨cq_L_2, List.forall_mem_cons.mpr ⟨cq_L_3, List.forall_mem_cons.mpr ⟨cq_L_4, List.forall_mem_cons.mpr ⟨cq_L_5, List.forall_mem_cons.mpr ⟨cq_L_6, List.forall_mem_cons.mpr ⟨cq_L_7, List.forall_mem_cons.mpr ⟨cq_L_8, List.forall_mem_cons.mpr ⟨cq_L_9, List.forall_mem_cons.mpr ⟨cq_L_10, List.forall_mem_cons.mpr ⟨cq_L_11, List.forall_mem_cons.mpr ⟨cq_L_12, List.forall_mem_cons.mpr ⟨cq_L_13, List.forall_mem_cons.mpr ⟨cq_L_14, List.forall_mem_cons.mpr ⟨cq_L_15, List.forall_mem_cons.mpr ⟨cq_L_16, List.forall_mem_cons.mpr ⟨cq_L_17, List.forall_mem_cons.mpr ⟨cq_L_18, List.forall_mem_cons.mpr ⟨cq_L_19, List.forall_mem_cons.mpr ⟨cq_L_20, List.forall_mem_cons.mpr ⟨cq_L_21, List.forall_mem_cons.mpr ⟨cq_L_22, List.forall_mem_cons.mpr ⟨cq_L_23, List.forall_mem_cons.mpr ⟨cq_L_24, List.forall_mem_cons.mpr ⟨cq_L_25, List.forall_mem_cons.mpr ⟨cq_L_26, List.forall_mem_cons.mpr ⟨cq_L_27, List.forall_mem_cons.mpr ⟨cq_L_28, List.forall_mem_cons.mpr ⟨cq_L_29, List.forall_mem_cons.mpr ⟨cq_L_30, List.forall_mem_cons.mpr ⟨cq_L_31, List.forall_mem_cons.mpr ⟨cq_L_32, List.forall_mem_cons.mpr ⟨cq_L_33, List.forall_mem_cons.mpr ⟨cq_L_34, List.forall_mem_cons.mpr ⟨cq_L_35, List.forall_mem_cons.mpr ⟨cq_L_36, List.forall_mem_cons.mpr ⟨cq_L_37, List.forall_mem_cons.mpr ⟨cq_L_38, List.forall_mem_cons.mpr ⟨cq_L_39, List.forall_mem_cons.mpr ⟨cq_L_40, List.forall_mem_cons.mpr ⟨cq_L_41, List.forall_mem_cons.mpr ⟨cq_L_42, List.forall_mem_cons.mpr ⟨cq_L_43, List.forall_mem_cons.mpr ⟨cq_L_44, List.forall_mem_cons.mpr ⟨cq_L_45, List.forall_mem_cons.mpr ⟨cq_L_46, List.forall_mem_cons.mpr ⟨cq_L_47, List.forall_mem_cons.mpr ⟨cq_L_48, List.forall_mem_cons.mpr ⟨cq_L_49, List.forall_mem_cons.mpr ⟨cq_L_50, List.forall_mem_cons.mpr ⟨cq_L_51, List.forall_mem_cons.mpr ⟨cq_L_52, List.forall_mem_cons.mpr ⟨cq_L_53, List.forall_mem_cons.mpr ⟨cq_L_54, List.forall_mem_cons.mpr ⟨cq_L_55, List.forall_mem_cons.mpr ⟨cq_L_56, List.forall_mem_cons.mpr ⟨cq_L_57, List.forall_mem_cons.mpr ⟨cq_L_58, List.forall_mem_cons.mpr ⟨cq_L_59, List.forall_mem_cons.mpr ⟨cq_L_60, List.forall_mem_cons.mpr ⟨cq_L_61, List.forall_mem_cons.mpr ⟨cq_L_62, List.forall_mem_cons.mpr ⟨cq_L_63, List.forall_mem_cons.mpr ⟨cq_L_64, List.forall_mem_cons.mpr ⟨cq_L_65, List.forall_mem_cons.mpr ⟨cq_L_66, List.forall_mem_cons.mpr ⟨cq_L_67, fun _ h => absurd h List.not_mem_nil⟩⟩⟩⟩⟩⟩⟩⟩⟩⟩⟩⟩⟩⟩⟩⟩⟩⟩⟩⟩⟩⟩⟩⟩⟩⟩⟩⟩⟩⟩⟩⟩⟩⟩⟩⟩⟩⟩⟩⟩⟩⟩⟩⟩⟩⟩⟩⟩⟩⟩⟩⟩⟩⟩⟩⟩⟩⟩⟩⟩⟩⟩⟩⟩⟩⟩⟩⟩
theorem co_J9 : ∀ q ∈ cp_J9, mCpO mD "java/lang/Math" q := fun _ h => absurd h List.not_mem_nil
theorem co_J3 : ∀ q ∈ cp_J3, mCpO mD "jdk/internal/util/Preconditions" q := fun _ h => absurd h List.not_mem_nil
