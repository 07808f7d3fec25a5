/-! The tables say so of each method, of each entry of the pools -/
theorem cq_X0_0 : mCpO mD "RingedLights$Crossing" (0, 12, 0, 0, 0) := Or.inr (Or.inr ⟨_, rfl, by decide, mGd_in (i := 291) (by decide +kernel) rfl⟩)
theorem cq_X0_1 : mCpO mD "RingedLights$Crossing" (0, 23, 0, 1, 0) := Or.inr (Or.inr ⟨_, rfl, by decide, mGd_in (i := 293) (by decide +kernel) rfl⟩)
theorem cq_X0_2 : mCpO mD "RingedLights$Crossing" (0, 27, 0, 2, 0) := Or.inr (Or.inr ⟨_, rfl, by decide, mGd_in (i := 295) (by decide +kernel) rfl⟩)
theorem cq_X0_3 : mCpO mD "RingedLights$Crossing" (0, 33, 0, 3, 0) := Or.inr (Or.inr ⟨_, rfl, by decide, mGd_in (i := 297) (by decide +kernel) rfl⟩)
theorem cq_X0_4 : mCpO mD "RingedLights$Crossing" (0, 37, 0, 4, 0) := Or.inr (Or.inr ⟨_, rfl, by decide, mGd_in (i := 299) (by decide +kernel) rfl⟩)
theorem cq_X0_5 : mCpO mD "RingedLights$Crossing" (0, 41, 0, 5, 0) := Or.inr (Or.inr ⟨_, rfl, by decide, mGd_in (i := 301) (by decide +kernel) rfl⟩)
theorem cq_X0_6 : mCpO mD "RingedLights$Crossing" (0, 44, 0, 16, 0) := Or.inr (Or.inr ⟨_, rfl, by decide, mGd_in (i := 321) (by decide +kernel) rfl⟩)
theorem cq_X0_7 : mCpO mD "RingedLights$Crossing" (0, 62, 0, 6, 0) := Or.inr (Or.inr ⟨_, rfl, by decide, mGd_in (i := 303) (by decide +kernel) rfl⟩)
theorem cq_X0_8 : mCpO mD "RingedLights$Crossing" (0, 65, 0, 7, 0) := Or.inr (Or.inr ⟨_, rfl, by decide, mGd_in (i := 304) (by decide +kernel) rfl⟩)
theorem cq_X0_9 : mCpO mD "RingedLights$Crossing" (0, 68, 0, 8, 0) := Or.inr (Or.inr ⟨_, rfl, by decide, mGd_in (i := 306) (by decide +kernel) rfl⟩)
theorem cq_X0_10 : mCpO mD "RingedLights$Crossing" (0, 71, 0, 9, 0) := Or.inr (Or.inr ⟨_, rfl, by decide, mGd_in (i := 308) (by decide +kernel) rfl⟩)
theorem cq_X0_11 : mCpO mD "RingedLights$Crossing" (0, 74, 0, 10, 0) := Or.inr (Or.inr ⟨_, rfl, by decide, mGd_in (i := 309) (by decide +kernel) rfl⟩)
theorem cq_X0_12 : mCpO mD "RingedLights$Crossing" (0, 77, 0, 11, 0) := Or.inr (Or.inr ⟨_, rfl, by decide, mGd_in (i := 311) (by decide +kernel) rfl⟩)
theorem cq_X0_13 : mCpO mD "RingedLights$Crossing" (0, 80, 0, 12, 0) := Or.inr (Or.inr ⟨_, rfl, by decide, mGd_in (i := 313) (by decide +kernel) rfl⟩)
theorem cq_X0_14 : mCpO mD "RingedLights$Crossing" (0, 83, 0, 13, 0) := Or.inr (Or.inr ⟨_, rfl, by decide, mGd_in (i := 315) (by decide +kernel) rfl⟩)
theorem cq_X0_15 : mCpO mD "RingedLights$Crossing" (0, 86, 0, 14, 0) := Or.inr (Or.inr ⟨_, rfl, by decide, mGd_in (i := 317) (by decide +kernel) rfl⟩)
theorem cq_X0_16 : mCpO mD "RingedLights$Crossing" (0, 89, 0, 15, 0) := Or.inr (Or.inr ⟨_, rfl, by decide, mGd_in (i := 319) (by decide +kernel) rfl⟩)
theorem cq_X0_17 : mCpO mD "RingedLights$Crossing" (0, 93, 0, 17, 0) := Or.inr (Or.inr ⟨_, rfl, by decide, mGd_in (i := 323) (by decide +kernel) rfl⟩)
theorem cq_X0_18 : mCpO mD "RingedLights$Crossing" (0, 96, 0, 18, 0) := Or.inr (Or.inr ⟨_, rfl, by decide, mGd_in (i := 325) (by decide +kernel) rfl⟩)
theorem cq_X0_19 : mCpO mD "RingedLights$Crossing" (0, 127, 4, 1, 0) := Or.inr (Or.inr ⟨_, rfl, by decide, mGd_in (i := 234) (by decide +kernel) rfl⟩)
theorem cq_X0_20 : mCpO mD "RingedLights$Crossing" (0, 130, 4, 2, 0) := Or.inr (Or.inr ⟨_, rfl, by decide, mGd_in (i := 236) (by decide +kernel) rfl⟩)
theorem cq_X0_21 : mCpO mD "RingedLights$Crossing" (0, 133, 4, 3, 0) := Or.inr (Or.inr ⟨_, rfl, by decide, mGd_in (i := 238) (by decide +kernel) rfl⟩)
theorem cq_X0_22 : mCpO mD "RingedLights$Crossing" (0, 136, 4, 4, 0) := Or.inr (Or.inr ⟨_, rfl, by decide, mGd_in (i := 240) (by decide +kernel) rfl⟩)
theorem cq_X0_23 : mCpO mD "RingedLights$Crossing" (0, 139, 4, 5, 0) := Or.inr (Or.inr ⟨_, rfl, by decide, mGd_in (i := 242) (by decide +kernel) rfl⟩)
theorem cq_X0_24 : mCpO mD "RingedLights$Crossing" (0, 142, 4, 6, 0) := Or.inr (Or.inr ⟨_, rfl, by decide, mGd_in (i := 244) (by decide +kernel) rfl⟩)
theorem cq_X0_25 : mCpO mD "RingedLights$Crossing" (0, 145, 4, 7, 0) := Or.inr (Or.inr ⟨_, rfl, by decide, mGd_in (i := 246) (by decide +kernel) rfl⟩)
theorem cq_X0_26 : mCpO mD "RingedLights$Crossing" (0, 148, 4, 8, 0) := Or.inr (Or.inr ⟨_, rfl, by decide, mGd_in (i := 248) (by decide +kernel) rfl⟩)
theorem cq_X0_27 : mCpO mD "RingedLights$Crossing" (0, 159, 2, 3, 0) := Or.inr (Or.inr ⟨_, rfl, by decide, mGd_in (i := 136) (by decide +kernel) rfl⟩)
theorem cq_X0_28 : mCpO mD "RingedLights$Crossing" (0, 166, 2, 4, 0) := Or.inr (Or.inr ⟨_, rfl, by decide, mGd_in (i := 138) (by decide +kernel) rfl⟩)
theorem cq_X0_29 : mCpO mD "RingedLights$Crossing" (0, 189, 2, 0, 0) := Or.inr (Or.inr ⟨_, rfl, by decide, mGd_in (i := 125) (by decide +kernel) rfl⟩)
theorem cq_X0_30 : mCpO mD "RingedLights$Crossing" (0, 200, 2, 9, 0) := Or.inr (Or.inr ⟨_, rfl, by decide, mGd_in (i := 144) (by decide +kernel) rfl⟩)
theorem cq_X0_31 : mCpO mD "RingedLights$Crossing" (0, 203, 2, 11, 0) := Or.inr (Or.inr ⟨_, rfl, by decide, mGd_in (i := 148) (by decide +kernel) rfl⟩)
theorem cq_X0_32 : mCpO mD "RingedLights$Crossing" (0, 206, 2, 10, 0) := Or.inr (Or.inr ⟨_, rfl, by decide, mGd_in (i := 146) (by decide +kernel) rfl⟩)
theorem cq_X0_33 : mCpO mD "RingedLights$Crossing" (0, 237, 2, 1, 0) := Or.inr (Or.inr ⟨_, rfl, by decide, mGd_in (i := 130) (by decide +kernel) rfl⟩)
theorem cq_X0_34 : mCpO mD "RingedLights$Crossing" (0, 280, 2, 2, 0) := Or.inr (Or.inr ⟨_, rfl, by decide, mGd_in (i := 134) (by decide +kernel) rfl⟩)
theorem cq_X0_35 : mCpO mD "RingedLights$Crossing" (0, 314, 4, 0, 0) := Or.inr (Or.inr ⟨_, rfl, by decide, mGd_in (i := 232) (by decide +kernel) rfl⟩)
theorem cq_X0_36 : mCpO mD "RingedLights$Crossing" (2, 48, 52, 2, 2) := ⟨rfl, rfl, Or.inl (mGd_in (i := 1041) (by decide +kernel) rfl)⟩
theorem cq_X0_37 : mCpO mD "RingedLights$Crossing" (2, 52, 88, 2, 4) := ⟨rfl, rfl, Or.inl (mGd_in (i := 1042) (by decide +kernel) rfl)⟩
theorem cq_X0_38 : mCpO mD "RingedLights$Crossing" (2, 55, 48, 2, 1) := ⟨rfl, rfl, Or.inl (mGd_in (i := 1046) (by decide +kernel) rfl)⟩
theorem cq_X0_39 : mCpO mD "RingedLights$Crossing" (2, 58, 143, 2, 99) := ⟨rfl, rfl, Or.inr (mNest_in (i := 1051) (by decide +kernel) rfl)⟩
theorem cq_X0_40 : mCpO mD "RingedLights$Crossing" (2, 99, 47, 1, 1) := ⟨rfl, rfl, Or.inl (mGd_in (i := 652) (by decide +kernel) rfl)⟩
theorem cq_X0_41 : mCpO mD "RingedLights$Crossing" (2, 102, 144, 2, 99) := ⟨rfl, rfl, Or.inr (mNest_in (i := 656) (by decide +kernel) rfl)⟩
theorem cq_X0_42 : mCpO mD "RingedLights$Crossing" (2, 106, 40, 1, 0) := ⟨rfl, rfl, Or.inl (mGd_in (i := 657) (by decide +kernel) rfl)⟩
theorem cq_X0_43 : mCpO mD "RingedLights$Crossing" (2, 109, 2, 1, 0) := ⟨rfl, rfl, Or.inl (mGd_in (i := 661) (by decide +kernel) rfl)⟩
theorem cq_X0_44 : mCpO mD "RingedLights$Crossing" (2, 112, 61, 3, 2) := ⟨rfl, rfl, Or.inl (mGd_in (i := 665) (by decide +kernel) rfl)⟩
theorem cq_X0_45 : mCpO mD "RingedLights$Crossing" (2, 116, 149, 1, 99) := ⟨rfl, rfl, Or.inr (mNest_in (i := 666) (by decide +kernel) rfl)⟩
theorem cq_X0_46 : mCpO mD "RingedLights$Crossing" (2, 120, 91, 2, 4) := ⟨rfl, rfl, Or.inl (mGd_in (i := 669) (by decide +kernel) rfl)⟩
theorem cq_X0_47 : mCpO mD "RingedLights$Crossing" (2, 123, 90, 1, 4) := ⟨rfl, rfl, Or.inl (mGd_in (i := 693) (by decide +kernel) rfl)⟩
theorem cq_X0_48 : mCpO mD "RingedLights$Crossing" (2, 151, 31, 2, 0) := ⟨rfl, rfl, Or.inl (mGd_in (i := 697) (by decide +kernel) rfl)⟩
theorem cq_X0_49 : mCpO mD "RingedLights$Crossing" (2, 155, 25, 2, 0) := ⟨rfl, rfl, Or.inl (mGd_in (i := 705) (by decide +kernel) rfl)⟩
theorem cq_X0_50 : mCpO mD "RingedLights$Crossing" (2, 162, 141, 2, 99) := ⟨rfl, rfl, Or.inr (mNest_in (i := 734) (by decide +kernel) rfl)⟩
theorem cq_X0_51 : mCpO mD "RingedLights$Crossing" (2, 169, 5, 2, 0) := ⟨rfl, rfl, Or.inl (mGd_in (i := 735) (by decide +kernel) rfl)⟩
theorem cq_X0_52 : mCpO mD "RingedLights$Crossing" (2, 172, 10, 1, 0) := ⟨rfl, rfl, Or.inl (mGd_in (i := 740) (by decide +kernel) rfl)⟩
theorem cq_X0_53 : mCpO mD "RingedLights$Crossing" (2, 176, 148, 2, 99) := ⟨rfl, rfl, Or.inr (mNest_in (i := 739) (by decide +kernel) rfl)⟩
theorem cq_X0_54 : mCpO mD "RingedLights$Crossing" (2, 180, 11, 1, 0) := ⟨rfl, rfl, Or.inl (mGd_in (i := 744) (by decide +kernel) rfl)⟩
theorem cq_X0_55 : mCpO mD "RingedLights$Crossing" (2, 183, 68, 2, 2) := ⟨rfl, rfl, Or.inl (mGd_in (i := 709) (by decide +kernel) rfl)⟩
theorem cq_X0_56 : mCpO mD "RingedLights$Crossing" (2, 186, 63, 2, 2) := ⟨rfl, rfl, Or.inl (mGd_in (i := 748) (by decide +kernel) rfl)⟩
theorem cq_X0_57 : mCpO mD "RingedLights$Crossing" (2, 192, 276, 2, 99) := ⟨rfl, rfl, Or.inl (mGd_in (i := 775) (by decide +kernel) rfl)⟩
theorem cq_X0_58 : mCpO mD "RingedLights$Crossing" (2, 197, 7, 1, 0) := ⟨rfl, rfl, Or.inl (mGd_in (i := 782) (by decide +kernel) rfl)⟩
theorem cq_X0_59 : mCpO mD "RingedLights$Crossing" (2, 209, 14, 2, 0) := ⟨rfl, rfl, Or.inl (mGd_in (i := 787) (by decide +kernel) rfl)⟩
theorem cq_X0_60 : mCpO mD "RingedLights$Crossing" (2, 213, 146, 1, 99) := ⟨rfl, rfl, Or.inr (mNest_in (i := 791) (by decide +kernel) rfl)⟩
theorem cq_X0_61 : mCpO mD "RingedLights$Crossing" (2, 216, 145, 1, 99) := ⟨rfl, rfl, Or.inr (mNest_in (i := 1015) (by decide +kernel) rfl)⟩
theorem cq_X0_62 : mCpO mD "RingedLights$Crossing" (2, 220, 24, 1, 0) := ⟨rfl, rfl, Or.inl (mGd_in (i := 901) (by decide +kernel) rfl)⟩
theorem cq_X0_63 : mCpO mD "RingedLights$Crossing" (2, 223, 6, 2, 0) := ⟨rfl, rfl, Or.inl (mGd_in (i := 834) (by decide +kernel) rfl)⟩
theorem cq_X0_64 : mCpO mD "RingedLights$Crossing" (2, 226, 142, 3, 99) := ⟨rfl, rfl, Or.inr (mNest_in (i := 850) (by decide +kernel) rfl)⟩
theorem cq_X0_65 : mCpO mD "RingedLights$Crossing" (2, 230, 147, 3, 99) := ⟨rfl, rfl, Or.inr (mNest_in (i := 851) (by decide +kernel) rfl)⟩
theorem cq_X0_66 : mCpO mD "RingedLights$Crossing" (2, 234, 17, 2, 0) := ⟨rfl, rfl, Or.inl (mGd_in (i := 1090) (by decide +kernel) rfl)⟩
theorem cq_X0_67 : mCpO mD "RingedLights$Crossing" (2, 240, 275, 2, 99) := ⟨rfl, rfl, Or.inl (mGd_in (i := 714) (by decide +kernel) rfl)⟩
theorem cq_X0_68 : mCpO mD "RingedLights$Crossing" (2, 251, 57, 3, 2) := ⟨rfl, rfl, Or.inl (mGd_in (i := 701) (by decide +kernel) rfl)⟩
theorem cq_X0_69 : mCpO mD "RingedLights$Crossing" (2, 254, 16, 3, 0) := ⟨rfl, rfl, Or.inl (mGd_in (i := 917) (by decide +kernel) rfl)⟩
theorem cq_X0_70 : mCpO mD "RingedLights$Crossing" (2, 258, 22, 1, 0) := ⟨rfl, rfl, Or.inl (mGd_in (i := 893) (by decide +kernel) rfl)⟩
theorem cq_X0_71 : mCpO mD "RingedLights$Crossing" (2, 261, 23, 1, 0) := ⟨rfl, rfl, Or.inl (mGd_in (i := 897) (by decide +kernel) rfl)⟩
theorem cq_X0_72 : mCpO mD "RingedLights$Crossing" (2, 264, 26, 2, 0) := ⟨rfl, rfl, Or.inl (mGd_in (i := 905) (by decide +kernel) rfl)⟩
theorem cq_X0_73 : mCpO mD "RingedLights$Crossing" (2, 267, 37, 1, 0) := ⟨rfl, rfl, Or.inl (mGd_in (i := 931) (by decide +kernel) rfl)⟩
theorem cq_X0_74 : mCpO mD "RingedLights$Crossing" (2, 270, 32, 1, 0) := ⟨rfl, rfl, Or.inl (mGd_in (i := 985) (by decide +kernel) rfl)⟩
theorem cq_X0_75 : mCpO mD "RingedLights$Crossing" (2, 273, 29, 3, 0) := ⟨rfl, rfl, Or.inl (mGd_in (i := 961) (by decide +kernel) rfl)⟩
theorem cq_X0_76 : mCpO mD "RingedLights$Crossing" (2, 277, 30, 1, 0) := ⟨rfl, rfl, Or.inl (mGd_in (i := 1009) (by decide +kernel) rfl)⟩
theorem cq_X0_77 : mCpO mD "RingedLights$Crossing" (2, 283, 89, 1, 4) := ⟨rfl, rfl, Or.inl (mGd_in (i := 909) (by decide +kernel) rfl)⟩
theorem cq_X0_78 : mCpO mD "RingedLights$Crossing" (2, 286, 27, 2, 0) := ⟨rfl, rfl, Or.inl (mGd_in (i := 913) (by decide +kernel) rfl)⟩
theorem cq_X0_79 : mCpO mD "RingedLights$Crossing" (2, 289, 94, 3, 4) := ⟨rfl, rfl, Or.inl (mGd_in (i := 926) (by decide +kernel) rfl)⟩
theorem cq_X0_80 : mCpO mD "RingedLights$Crossing" (2, 292, 12, 1, 0) := ⟨rfl, rfl, Or.inl (mGd_in (i := 918) (by decide +kernel) rfl)⟩
theorem cq_X0_81 : mCpO mD "RingedLights$Crossing" (2, 295, 95, 3, 4) := ⟨rfl, rfl, Or.inl (mGd_in (i := 922) (by decide +kernel) rfl)⟩
theorem cq_X0_82 : mCpO mD "RingedLights$Crossing" (2, 298, 49, 4, 1) := ⟨rfl, rfl, Or.inl (mGd_in (i := 944) (by decide +kernel) rfl)⟩
theorem cq_X0_83 : mCpO mD "RingedLights$Crossing" (2, 302, 93, 2, 4) := ⟨rfl, rfl, Or.inl (mGd_in (i := 957) (by decide +kernel) rfl)⟩
theorem cq_X0_84 : mCpO mD "RingedLights$Crossing" (2, 305, 92, 3, 4) := ⟨rfl, rfl, Or.inl (mGd_in (i := 965) (by decide +kernel) rfl)⟩
theorem cq_X0_85 : mCpO mD "RingedLights$Crossing" (2, 308, 13, 1, 0) := ⟨rfl, rfl, Or.inl (mGd_in (i := 1013) (by decide +kernel) rfl)⟩
theorem cq_X0_86 : mCpO mD "RingedLights$Crossing" (2, 311, 65, 2, 2) := ⟨rfl, rfl, Or.inl (mGd_in (i := 1014) (by decide +kernel) rfl)⟩
theorem cq_X0_87 : mCpO mD "RingedLights$Crossing" (2, 317, 67, 2, 2) := ⟨rfl, rfl, Or.inl (mGd_in (i := 717) (by decide +kernel) rfl)⟩
theorem cq_X0_88 : mCpO mD "RingedLights$Crossing" (2, 320, 33, 3, 0) := ⟨rfl, rfl, Or.inl (mGd_in (i := 989) (by decide +kernel) rfl)⟩
theorem cq_X0_89 : mCpO mD "RingedLights$Crossing" (2, 324, 34, 2, 0) := ⟨rfl, rfl, Or.inl (mGd_in (i := 993) (by decide +kernel) rfl)⟩
theorem cq_X0_90 : mCpO mD "RingedLights$Crossing" (2, 327, 28, 3, 0) := ⟨rfl, rfl, Or.inl (mGd_in (i := 953) (by decide +kernel) rfl)⟩
theorem cq_X0_91 : mCpO mD "RingedLights$Crossing" (2, 331, 62, 2, 2) := ⟨rfl, rfl, Or.inl (mGd_in (i := 997) (by decide +kernel) rfl)⟩
theorem cq_X0_92 : mCpO mD "RingedLights$Crossing" (2, 334, 35, 4, 0) := ⟨rfl, rfl, Or.inl (mGd_in (i := 1001) (by decide +kernel) rfl)⟩
theorem cq_X0_93 : mCpO mD "RingedLights$Crossing" (2, 338, 36, 3, 0) := ⟨rfl, rfl, Or.inl (mGd_in (i := 1005) (by decide +kernel) rfl)⟩
theorem cq_X0_94 : mCpO mD "RingedLights$Crossing" (2, 341, 38, 1, 0) := ⟨rfl, rfl, Or.inl (mGd_in (i := 935) (by decide +kernel) rfl)⟩
theorem cq_X0_95 : mCpO mD "RingedLights$Crossing" (2, 344, 39, 2, 0) := ⟨rfl, rfl, Or.inl (mGd_in (i := 939) (by decide +kernel) rfl)⟩
theorem cq_X0_96 : mCpO mD "RingedLights$Crossing" (2, 347, 59, 3, 2) := ⟨rfl, rfl, Or.inl (mGd_in (i := 943) (by decide +kernel) rfl)⟩
theorem cq_X0_97 : mCpO mD "RingedLights$Crossing" (2, 350, 41, 2, 0) := ⟨rfl, rfl, Or.inl (mGd_in (i := 945) (by decide +kernel) rfl)⟩
theorem cq_X0_98 : mCpO mD "RingedLights$Crossing" (2, 353, 44, 1, 0) := ⟨rfl, rfl, Or.inl (mGd_in (i := 973) (by decide +kernel) rfl)⟩
theorem cq_X0_99 : mCpO mD "RingedLights$Crossing" (2, 356, 45, 1, 0) := ⟨rfl, rfl, Or.inl (mGd_in (i := 977) (by decide +kernel) rfl)⟩
theorem cq_X0_100 : mCpO mD "RingedLights$Crossing" (2, 359, 42, 3, 0) := ⟨rfl, rfl, Or.inl (mGd_in (i := 949) (by decide +kernel) rfl)⟩
theorem cq_X0_101 : mCpO mD "RingedLights$Crossing" (2, 362, 43, 3, 0) := ⟨rfl, rfl, Or.inl (mGd_in (i := 969) (by decide +kernel) rfl)⟩
theorem cq_X0_102 : mCpO mD "RingedLights$Crossing" (2, 365, 46, 1, 0) := ⟨rfl, rfl, Or.inl (mGd_in (i := 981) (by decide +kernel) rfl)⟩
theorem cq_X0_103 : mCpO mD "RingedLights$Crossing" (4, 243, 9301, 0, 0) := mGd_in (i := 1024) (by decide +kernel) rfl
theorem cq_X0_104 : mCpO mD "RingedLights$Crossing" (4, 245, 49297, 0, 0) := mGd_in (i := 1025) (by decide +kernel) rfl
theorem cq_X0_105 : mCpO mD "RingedLights$Crossing" (4, 247, 233280, 0, 0) := mGd_in (i := 1026) (by decide +kernel) rfl
theorem cq_X0_106 : mCpO mD "RingedLights$Crossing" (4, 249, 60, 0, 0) := mGd_in (i := 1027) (by decide +kernel) rfl
theorem co_X0 : ∀ q ∈ cp_X0, mCpO mD "RingedLights$Crossing" q := List.forall_mem_cons.mpr ⟨cq_X0_0, List.forall_mem_cons.mpr ⟨cq_X0_1, List.forall_mem_cons.mpr ⟨cq_X0_2, List.forall_mem_cons.mpr ⟨cq_X0_3, List.forall_mem_cons.mpr ⟨cq_X0_4, List.forall_mem_cons.mpr ⟨cq_X0_5, List.forall_mem_cons.mpr ⟨cq_X0_6, List.forall_mem_cons.mpr ⟨cq_X0_7, List.forall_mem_cons.mpr ⟨cq_X0_8, List.forall_mem_cons.mpr ⟨cq_X0_9, List.forall_mem_cons.mpr ⟨cq_X0_10, List.forall_mem_cons.mpr ⟨cq_X0_11, List.forall_mem_cons.mpr ⟨cq_X0_12, List.forall_mem_cons.mpr ⟨cq_X0_13, List.forall_mem_cons.mpr ⟨cq_X0_14, List.forall_mem_cons.mpr ⟨cq_X0_15, List.forall_mem_cons.mpr ⟨cq_X0_16, List.forall_mem_cons.mpr ⟨cq_X0_17, List.forall_mem_cons.mpr ⟨cq_X0_18, List.forall_mem_cons.mpr ⟨cq_X0_19, List.forall_mem_cons.mpr ⟨cq_X0_20, List.forall_mem_cons.mpr ⟨cq_X0_21, List.forall_mem_cons.mpr ⟨cq_X0_22, List.forall_mem_cons.mpr ⟨cq_X0_23, List.forall_mem_cons.mpr ⟨cq_X0_24, List.forall_mem_cons.mpr ⟨cq_X0_25, List.forall_mem_cons.mpr ⟨cq_X0_26, List.forall_mem_cons.mpr ⟨cq_X0_27, List.forall_mem_cons.mpr ⟨cq_X0_28, List.forall_mem_cons.mpr ⟨cq_X0_29, List.forall_mem_cons.mpr ⟨cq_X0_30, List.forall_mem_cons.mpr ⟨cq_X0_31, List.forall_mem_cons.mpr ⟨cq_X0_32, List.forall_mem_cons.mpr ⟨cq_X0_33, List.forall_mem_cons.mpr ⟨cq_X0_34, List.forall_mem_cons.mpr ⟨cq_X0_35, List.forall_mem_cons.mpr ⟨cq_X0_36, List.forall_mem_cons.mpr ⟨cq_X0_37, List.forall_mem_cons.mpr ⟨cq_X0_38, List.forall_mem_cons.mpr ⟨cq_X0_39, List.forall_mem_cons.mpr ⟨cq_X0_40, List.forall_mem_cons.mpr ⟨cq_X0_41, List.forall_mem_cons.mpr ⟨cq_X0_42, List.forall_mem_cons.mpr ⟨cq_X0_43, List.forall_mem_cons.mpr ⟨cq_X0_44, List.forall_mem_cons.mpr ⟨cq_X0_45, List.forall_mem_cons.mpr ⟨cq_X0_46, List.forall_mem_cons.mpr ⟨cq_X0_47, List.forall_mem_cons.mpr ⟨cq_X0_48, List.forall_mem_cons.mpr ⟨cq_X0_49, List.forall_mem_cons.mpr ⟨cq_X0_50, List.forall_mem_cons.mpr ⟨cq_X0_51, List.forall_mem_cons.mpr ⟨cq_X0_52, List.forall_mem_cons.mpr ⟨cq_X0_53, List.forall_mem_cons.mpr ⟨cq_X0_54, List.forall_mem_cons.mpr ⟨cq_X0_55, List.forall_mem_cons.mpr ⟨cq_X0_56, List.forall_mem_cons.mpr ⟨cq_X0_57, List.forall_mem_cons.mpr ⟨cq_X0_58, List.forall_mem_cons.mpr ⟨cq_X0_59, List.forall_mem_cons.mpr ⟨cq_X0_60, List.forall_mem_cons.mpr ⟨cq_X0_61, List.forall_mem_cons.mpr ⟨cq_X0_62, List.forall_mem_cons.mpr ⟨cq_X0_63, List.forall_mem_cons.mpr ⟨cq_X0_64, List.forall_mem_cons.mpr ⟨cq_X0_65, List.forall_mem_cons.mpr ⟨cq_X0_66, List.forall_mem_cons.mpr ⟨cq_X0_67, List.forall_mem_cons.mpr ⟨cq_X0_68, List.forall_mem_cons.mpr ⟨cq_X0_69, List.forall_mem_cons.mpr ⟨cq_X0_70, List.forall_mem_cons.mpr ⟨cq_X0_71, List.forall_mem_cons.mpr ⟨cq_X0_72, List.forall_mem_cons.mpr ⟨cq_X0_73, List.forall_mem_cons.mpr ⟨cq_X0_74, List.forall_mem_cons.mpr ⟨cq_X0_75, List.forall_mem_cons.mpr ⟨cq_X0_76, List.forall_mem_cons.mpr ⟨cq_X0_77, List.forall_mem_cons.mpr ⟨cq_X0_78, List.forall_mem_cons.mpr ⟨cq_X0_79, List.forall_mem_cons.mpr ⟨cq_X0_80, List.forall_mem_cons.mpr ⟨cq_X0_81, List.forall_mem_cons.mpr ⟨cq_X0_82, List.forall_mem_cons.mpr ⟨cq_X0_83, List.forall_mem_cons.mpr ⟨cq_X0_84, List.forall_mem_cons.mpr ⟨cq_X0_85, List.forall_mem_cons.mpr ⟨cq_X0_86, List.forall_mem_cons.mpr ⟨cq_X0_87, List.forall_mem_cons.mpr ⟨cq_X0_88, List.forall_mem_cons.mpr ⟨cq_X0_89, List.forall_mem_cons.mpr ⟨cq_X0_90, List.forall_mem_cons.mpr ⟨cq_X0_91, List.forall_mem_cons.mpr ⟨cq_X0_92, List.forall_mem_cons.mpr ⟨cq_X0_93, List.forall_mem_cons.mpr ⟨cq_X0_94, List.forall_mem_cons.mpr ⟨cq_X0_95, List.forall_mem_cons.mpr ⟨cq_X0_96, List.forall_mem_cons.mpr ⟨cq_X0_97, List.forall_mem_cons.mpr ⟨cq_X0_98, List.forall_mem_cons.mpr ⟨cq_X0_99, List.forall_mem_cons.mpr ⟨cq_X0_100, List.forall_mem_cons.mpr ⟨cq_X0_101, List.forall_mem_cons.mpr ⟨cq_X0_102, List.forall_mem_cons.mpr ⟨cq_X0_103, List.forall_mem_cons.mpr ⟨cq_X0_104, List.forall_mem_cons.mpr ⟨cq_X0_105, List.forall_mem_cons.mpr ⟨cq_X0_106, fun _ h => absurd h List.not_mem_nil⟩⟩⟩⟩⟩⟩⟩⟩⟩⟩⟩⟩⟩⟩⟩⟩⟩⟩⟩⟩⟩⟩⟩⟩⟩⟩⟩⟩⟩⟩⟩⟩⟩⟩⟩⟩⟩⟩⟩⟩⟩⟩⟩⟩⟩⟩⟩⟩⟩⟩⟩⟩⟩⟩⟩⟩⟩⟩⟩⟩⟩⟩⟩⟩⟩⟩⟩⟩⟩⟩⟩⟩⟩⟩⟩⟩⟩⟩⟩⟩⟩⟩⟩⟩⟩⟩⟩⟩⟩⟩⟩⟩⟩⟩⟩⟩⟩⟩⟩⟩⟩⟩⟩⟩⟩⟩⟩
theorem cq_X1_0 : mCpO mD "RingedLights$Log" (0, 9, 1, 0, 0) := Or.inr (Or.inr ⟨_, rfl, by decide, mGd_in (i := 274) (by decide +kernel) rfl⟩)
theorem cq_X1_1 : mCpO mD "RingedLights$Log" (0, 15, 1, 1, 0) := Or.inr (Or.inr ⟨_, rfl, by decide, mGd_in (i := 275) (by decide +kernel) rfl⟩)
theorem cq_X1_2 : mCpO mD "RingedLights$Log" (0, 18, 1, 2, 0) := Or.inr (Or.inr ⟨_, rfl, by decide, mGd_in (i := 276) (by decide +kernel) rfl⟩)
theorem cq_X1_3 : mCpO mD "RingedLights$Log" (0, 21, 1, 3, 0) := Or.inr (Or.inr ⟨_, rfl, by decide, mGd_in (i := 277) (by decide +kernel) rfl⟩)
theorem cq_X1_4 : mCpO mD "RingedLights$Log" (0, 25, 1, 4, 0) := Or.inr (Or.inr ⟨_, rfl, by decide, mGd_in (i := 279) (by decide +kernel) rfl⟩)
theorem cq_X1_5 : mCpO mD "RingedLights$Log" (2, 28, 143, 2, 99) := ⟨rfl, rfl, Or.inr (mNest_in (i := 1050) (by decide +kernel) rfl)⟩
theorem cq_X1_6 : mCpO mD "RingedLights$Log" (2, 32, 277, 2, 99) := ⟨rfl, rfl, Or.inl (mGd_in (i := 884) (by decide +kernel) rfl)⟩
theorem cq_X1_7 : mCpO mD "RingedLights$Log" (2, 38, 275, 2, 99) := ⟨rfl, rfl, Or.inl (mGd_in (i := 800) (by decide +kernel) rfl)⟩
theorem cq_X1_8 : mCpO mD "RingedLights$Log" (2, 41, 141, 2, 99) := ⟨rfl, rfl, Or.inr (mNest_in (i := 801) (by decide +kernel) rfl)⟩
theorem co_X1 : ∀ q ∈ cp_X1, mCpO mD "RingedLights$Log" q := List.forall_mem_cons.mpr ⟨cq_X1_0, List.forall_mem_cons.mpr ⟨cq_X1_1, List.forall_mem_cons.mpr ⟨cq_X1_2, List.forall_mem_cons.mpr ⟨cq_X1_3, List.forall_mem_cons.mpr ⟨cq_X1_4, List.forall_mem_cons.mpr ⟨cq_X1_5, List.forall_mem_cons.mpr ⟨cq_X1_6, List.forall_mem_cons.mpr ⟨cq_X1_7, List.forall_mem_cons.mpr ⟨cq_X1_8, fun _ h => absurd h List.not_mem_nil⟩⟩⟩⟩⟩⟩⟩⟩⟩
theorem cq_X2_0 : mCpO mD "RingedLights$Plan" (0, 9, 2, 3, 0) := Or.inr (Or.inr ⟨_, rfl, by decide, mGd_in (i := 135) (by decide +kernel) rfl⟩)
theorem cq_X2_1 : mCpO mD "RingedLights$Plan" (0, 15, 2, 4, 0) := Or.inr (Or.inr ⟨_, rfl, by decide, mGd_in (i := 137) (by decide +kernel) rfl⟩)
theorem cq_X2_2 : mCpO mD "RingedLights$Plan" (0, 18, 2, 5, 0) := Or.inr (Or.inr ⟨_, rfl, by decide, mGd_in (i := 139) (by decide +kernel) rfl⟩)
theorem cq_X2_3 : mCpO mD "RingedLights$Plan" (0, 21, 2, 6, 0) := Or.inr (Or.inr ⟨_, rfl, by decide, mGd_in (i := 140) (by decide +kernel) rfl⟩)
theorem cq_X2_4 : mCpO mD "RingedLights$Plan" (0, 24, 2, 7, 0) := Or.inr (Or.inr ⟨_, rfl, by decide, mGd_in (i := 141) (by decide +kernel) rfl⟩)
theorem cq_X2_5 : mCpO mD "RingedLights$Plan" (0, 27, 2, 8, 0) := Or.inr (Or.inr ⟨_, rfl, by decide, mGd_in (i := 142) (by decide +kernel) rfl⟩)
theorem cq_X2_6 : mCpO mD "RingedLights$Plan" (0, 30, 2, 0, 0) := Or.inr (Or.inr ⟨_, rfl, by decide, mGd_in (i := 123) (by decide +kernel) rfl⟩)
theorem cq_X2_7 : mCpO mD "RingedLights$Plan" (0, 34, 2, 9, 0) := Or.inr (Or.inr ⟨_, rfl, by decide, mGd_in (i := 143) (by decide +kernel) rfl⟩)
theorem cq_X2_8 : mCpO mD "RingedLights$Plan" (0, 37, 2, 10, 0) := Or.inr (Or.inr ⟨_, rfl, by decide, mGd_in (i := 145) (by decide +kernel) rfl⟩)
theorem cq_X2_9 : mCpO mD "RingedLights$Plan" (0, 40, 2, 11, 0) := Or.inr (Or.inr ⟨_, rfl, by decide, mGd_in (i := 147) (by decide +kernel) rfl⟩)
theorem cq_X2_10 : mCpO mD "RingedLights$Plan" (0, 43, 2, 1, 0) := Or.inr (Or.inr ⟨_, rfl, by decide, mGd_in (i := 127) (by decide +kernel) rfl⟩)
theorem cq_X2_11 : mCpO mD "RingedLights$Plan" (0, 46, 2, 2, 0) := Or.inr (Or.inr ⟨_, rfl, by decide, mGd_in (i := 131) (by decide +kernel) rfl⟩)
theorem cq_X2_12 : mCpO mD "RingedLights$Plan" (1, 76, 0, 29, 0) := Or.inl ⟨rfl, by decide, Or.inr (mNest_in (i := 536) (by decide +kernel) rfl)⟩
theorem cq_X2_13 : mCpO mD "RingedLights$Plan" (2, 49, 144, 2, 99) := ⟨rfl, rfl, Or.inr (mNest_in (i := 428) (by decide +kernel) rfl)⟩
theorem cq_X2_14 : mCpO mD "RingedLights$Plan" (2, 53, 143, 2, 99) := ⟨rfl, rfl, Or.inr (mNest_in (i := 641) (by decide +kernel) rfl)⟩
theorem cq_X2_15 : mCpO mD "RingedLights$Plan" (2, 57, 141, 2, 99) := ⟨rfl, rfl, Or.inr (mNest_in (i := 519) (by decide +kernel) rfl)⟩
theorem cq_X2_16 : mCpO mD "RingedLights$Plan" (2, 61, 63, 2, 2) := ⟨rfl, rfl, Or.inl (mGd_in (i := 522) (by decide +kernel) rfl)⟩
theorem cq_X2_17 : mCpO mD "RingedLights$Plan" (2, 65, 146, 1, 99) := ⟨rfl, rfl, Or.inr (mNest_in (i := 526) (by decide +kernel) rfl)⟩
theorem cq_X2_18 : mCpO mD "RingedLights$Plan" (2, 68, 142, 3, 99) := ⟨rfl, rfl, Or.inr (mNest_in (i := 529) (by decide +kernel) rfl)⟩
theorem cq_X2_19 : mCpO mD "RingedLights$Plan" (2, 72, 61, 3, 2) := ⟨rfl, rfl, Or.inl (mGd_in (i := 532) (by decide +kernel) rfl)⟩
theorem cq_X2_20 : mCpO mD "RingedLights$Plan" (2, 79, 58, 4, 2) := ⟨rfl, rfl, Or.inl (mGd_in (i := 538) (by decide +kernel) rfl)⟩
theorem cq_X2_21 : mCpO mD "RingedLights$Plan" (2, 83, 55, 1, 2) := ⟨rfl, rfl, Or.inl (mGd_in (i := 616) (by decide +kernel) rfl)⟩
theorem cq_X2_22 : mCpO mD "RingedLights$Plan" (2, 87, 147, 3, 99) := ⟨rfl, rfl, Or.inr (mNest_in (i := 542) (by decide +kernel) rfl)⟩
theorem cq_X2_23 : mCpO mD "RingedLights$Plan" (2, 91, 65, 2, 2) := ⟨rfl, rfl, Or.inl (mGd_in (i := 624) (by decide +kernel) rfl)⟩
theorem cq_X2_24 : mCpO mD "RingedLights$Plan" (2, 94, 148, 2, 99) := ⟨rfl, rfl, Or.inr (mNest_in (i := 628) (by decide +kernel) rfl)⟩
theorem cq_X2_25 : mCpO mD "RingedLights$Plan" (2, 98, 149, 1, 99) := ⟨rfl, rfl, Or.inr (mNest_in (i := 721) (by decide +kernel) rfl)⟩
theorem cq_X2_26 : mCpO mD "RingedLights$Plan" (2, 101, 57, 3, 2) := ⟨rfl, rfl, Or.inl (mGd_in (i := 713) (by decide +kernel) rfl)⟩
theorem co_X2 : ∀ q ∈ cp_X2, mCpO mD "RingedLights$Plan" q := List.forall_mem_cons.mpr ⟨cq_X2_0, List.forall_mem_cons.mpr ⟨cq_X2_1, List.forall_mem_cons.mpr ⟨cq_X2_2, List.forall_mem_cons.mpr ⟨cq_X2_3, List.forall_mem_cons.mpr ⟨cq_X2_4, List.forall_mem_cons.mpr ⟨cq_X2_5, List.forall_mem_cons.mpr ⟨cq_X2_6, List.forall_mem_cons.mpr ⟨cq_X2_7, List.forall_mem_cons.mpr ⟨cq_X2_8, List.forall_mem_cons.mpr ⟨cq_X2_9, List.forall_mem_cons.mpr ⟨cq_X2_10, List.forall_mem_cons.mpr ⟨cq_X2_11, List.forall_mem_cons.mpr ⟨cq_X2_12, List.forall_mem_cons.mpr ⟨cq_X2_13, List.forall_mem_cons.mpr ⟨cq_X2_14, List.forall_mem_cons.mpr ⟨cq_X2_15, List.forall_mem_cons.mpr ⟨cq_X2_16, List.forall_mem_cons.mpr ⟨cq_X2_17, List.forall_mem_cons.mpr ⟨cq_X2_18, List.forall_mem_cons.mpr ⟨cq_X2_19, List.forall_mem_cons.mpr ⟨cq_X2_20, List.forall_mem_cons.mpr ⟨cq_X2_21, List.forall_mem_cons.mpr ⟨cq_X2_22, List.forall_mem_cons.mpr ⟨cq_X2_23, List.forall_mem_cons.mpr ⟨cq_X2_24, List.forall_mem_cons.mpr ⟨cq_X2_25, List.forall_mem_cons.mpr ⟨cq_X2_26, fun _ h => absurd h List.not_mem_nil⟩⟩⟩⟩⟩⟩⟩⟩⟩⟩⟩⟩⟩⟩⟩⟩⟩⟩⟩⟩⟩⟩⟩⟩⟩⟩⟩
theorem cq_X3_0 : mCpO mD "RingedLights$Reader" (0, 12, 3, 1, 0) := Or.inr (Or.inr ⟨_, rfl, by decide, mGd_in (i := 177) (by decide +kernel) rfl⟩)
theorem cq_X3_1 : mCpO mD "RingedLights$Reader" (0, 18, 3, 0, 0) := Or.inr (Or.inr ⟨_, rfl, by decide, mGd_in (i := 176) (by decide +kernel) rfl⟩)
theorem cq_X3_2 : mCpO mD "RingedLights$Reader" (0, 31, 3, 2, 0) := Or.inr (Or.inr ⟨_, rfl, by decide, mGd_in (i := 179) (by decide +kernel) rfl⟩)
theorem cq_X3_3 : mCpO mD "RingedLights$Reader" (0, 35, 3, 3, 0) := Or.inr (Or.inr ⟨_, rfl, by decide, mGd_in (i := 180) (by decide +kernel) rfl⟩)
theorem cq_X3_4 : mCpO mD "RingedLights$Reader" (0, 38, 3, 7, 0) := Or.inr (Or.inr ⟨_, rfl, by decide, mGd_in (i := 184) (by decide +kernel) rfl⟩)
theorem cq_X3_5 : mCpO mD "RingedLights$Reader" (0, 41, 3, 8, 0) := Or.inr (Or.inr ⟨_, rfl, by decide, mGd_in (i := 185) (by decide +kernel) rfl⟩)
theorem cq_X3_6 : mCpO mD "RingedLights$Reader" (0, 44, 3, 9, 0) := Or.inr (Or.inr ⟨_, rfl, by decide, mGd_in (i := 186) (by decide +kernel) rfl⟩)
theorem cq_X3_7 : mCpO mD "RingedLights$Reader" (0, 47, 3, 10, 0) := Or.inr (Or.inr ⟨_, rfl, by decide, mGd_in (i := 188) (by decide +kernel) rfl⟩)
theorem cq_X3_8 : mCpO mD "RingedLights$Reader" (0, 50, 3, 11, 0) := Or.inr (Or.inr ⟨_, rfl, by decide, mGd_in (i := 190) (by decide +kernel) rfl⟩)
theorem cq_X3_9 : mCpO mD "RingedLights$Reader" (0, 56, 3, 5, 0) := Or.inr (Or.inr ⟨_, rfl, by decide, mGd_in (i := 182) (by decide +kernel) rfl⟩)
theorem cq_X3_10 : mCpO mD "RingedLights$Reader" (0, 87, 3, 4, 0) := Or.inr (Or.inr ⟨_, rfl, by decide, mGd_in (i := 181) (by decide +kernel) rfl⟩)
theorem cq_X3_11 : mCpO mD "RingedLights$Reader" (0, 97, 3, 6, 0) := Or.inr (Or.inr ⟨_, rfl, by decide, mGd_in (i := 183) (by decide +kernel) rfl⟩)
theorem cq_X3_12 : mCpO mD "RingedLights$Reader" (0, 123, 2, 0, 0) := Or.inr (Or.inr ⟨_, rfl, by decide, mGd_in (i := 126) (by decide +kernel) rfl⟩)
theorem cq_X3_13 : mCpO mD "RingedLights$Reader" (0, 187, 2, 1, 0) := Or.inr (Or.inr ⟨_, rfl, by decide, mGd_in (i := 129) (by decide +kernel) rfl⟩)
theorem cq_X3_14 : mCpO mD "RingedLights$Reader" (0, 189, 2, 2, 0) := Or.inr (Or.inr ⟨_, rfl, by decide, mGd_in (i := 133) (by decide +kernel) rfl⟩)
theorem cq_X3_15 : mCpO mD "RingedLights$Reader" (1, 139, 0, 27, 0) := Or.inl ⟨rfl, by decide, Or.inr (mNest_in (i := 567) (by decide +kernel) rfl)⟩
theorem cq_X3_16 : mCpO mD "RingedLights$Reader" (1, 147, 0, 28, 0) := Or.inl ⟨rfl, by decide, Or.inr (mNest_in (i := 570) (by decide +kernel) rfl)⟩
theorem cq_X3_17 : mCpO mD "RingedLights$Reader" (2, 22, 51, 1, 2) := ⟨rfl, rfl, Or.inl (mGd_in (i := 424) (by decide +kernel) rfl)⟩
theorem cq_X3_18 : mCpO mD "RingedLights$Reader" (2, 25, 277, 2, 99) := ⟨rfl, rfl, Or.inl (mGd_in (i := 431) (by decide +kernel) rfl)⟩
theorem cq_X3_19 : mCpO mD "RingedLights$Reader" (2, 53, 71, 1, 3) := ⟨rfl, rfl, Or.inl (mGd_in (i := 434) (by decide +kernel) rfl)⟩
theorem cq_X3_20 : mCpO mD "RingedLights$Reader" (2, 61, 75, 2, 3) := ⟨rfl, rfl, Or.inl (mGd_in (i := 455) (by decide +kernel) rfl)⟩
theorem cq_X3_21 : mCpO mD "RingedLights$Reader" (2, 65, 80, 1, 3) := ⟨rfl, rfl, Or.inl (mGd_in (i := 507) (by decide +kernel) rfl)⟩
theorem cq_X3_22 : mCpO mD "RingedLights$Reader" (2, 70, 85, 1, 3) := ⟨rfl, rfl, Or.inl (mGd_in (i := 578) (by decide +kernel) rfl)⟩
theorem cq_X3_23 : mCpO mD "RingedLights$Reader" (2, 75, 86, 1, 3) := ⟨rfl, rfl, Or.inl (mGd_in (i := 594) (by decide +kernel) rfl)⟩
theorem cq_X3_24 : mCpO mD "RingedLights$Reader" (2, 80, 87, 1, 3) := ⟨rfl, rfl, Or.inl (mGd_in (i := 599) (by decide +kernel) rfl)⟩
theorem cq_X3_25 : mCpO mD "RingedLights$Reader" (2, 83, 70, 2, 3) := ⟨rfl, rfl, Or.inl (mGd_in (i := 446) (by decide +kernel) rfl)⟩
theorem cq_X3_26 : mCpO mD "RingedLights$Reader" (2, 90, 72, 3, 3) := ⟨rfl, rfl, Or.inl (mGd_in (i := 438) (by decide +kernel) rfl)⟩
theorem cq_X3_27 : mCpO mD "RingedLights$Reader" (2, 93, 73, 2, 3) := ⟨rfl, rfl, Or.inl (mGd_in (i := 442) (by decide +kernel) rfl)⟩
theorem cq_X3_28 : mCpO mD "RingedLights$Reader" (2, 100, 74, 2, 3) := ⟨rfl, rfl, Or.inl (mGd_in (i := 450) (by decide +kernel) rfl)⟩
theorem cq_X3_29 : mCpO mD "RingedLights$Reader" (2, 103, 278, 1, 7) := ⟨rfl, rfl, Or.inl (mGd_in (i := 459) (by decide +kernel) rfl)⟩
theorem cq_X3_30 : mCpO mD "RingedLights$Reader" (2, 109, 279, 2, 7) := ⟨rfl, rfl, Or.inl (mGd_in (i := 469) (by decide +kernel) rfl)⟩
theorem cq_X3_31 : mCpO mD "RingedLights$Reader" (2, 113, 56, 2, 2) := ⟨rfl, rfl, Or.inl (mGd_in (i := 612) (by decide +kernel) rfl)⟩
theorem cq_X3_32 : mCpO mD "RingedLights$Reader" (2, 117, 64, 2, 2) := ⟨rfl, rfl, Or.inl (mGd_in (i := 620) (by decide +kernel) rfl)⟩
theorem cq_X3_33 : mCpO mD "RingedLights$Reader" (2, 120, 78, 3, 3) := ⟨rfl, rfl, Or.inl (mGd_in (i := 511) (by decide +kernel) rfl)⟩
theorem cq_X3_34 : mCpO mD "RingedLights$Reader" (2, 126, 53, 3, 2) := ⟨rfl, rfl, Or.inl (mGd_in (i := 515) (by decide +kernel) rfl)⟩
theorem cq_X3_35 : mCpO mD "RingedLights$Reader" (2, 130, 81, 2, 3) := ⟨rfl, rfl, Or.inl (mGd_in (i := 546) (by decide +kernel) rfl)⟩
theorem cq_X3_36 : mCpO mD "RingedLights$Reader" (2, 133, 76, 1, 3) := ⟨rfl, rfl, Or.inl (mGd_in (i := 573) (by decide +kernel) rfl)⟩
theorem cq_X3_37 : mCpO mD "RingedLights$Reader" (2, 136, 82, 1, 3) := ⟨rfl, rfl, Or.inl (mGd_in (i := 550) (by decide +kernel) rfl)⟩
theorem cq_X3_38 : mCpO mD "RingedLights$Reader" (2, 143, 141, 2, 99) := ⟨rfl, rfl, Or.inr (mNest_in (i := 569) (by decide +kernel) rfl)⟩
theorem cq_X3_39 : mCpO mD "RingedLights$Reader" (2, 150, 58, 4, 2) := ⟨rfl, rfl, Or.inl (mGd_in (i := 572) (by decide +kernel) rfl)⟩
theorem cq_X3_40 : mCpO mD "RingedLights$Reader" (2, 154, 83, 1, 99) := ⟨rfl, rfl, Or.inl (mGd_in (i := 554) (by decide +kernel) rfl)⟩
theorem cq_X3_41 : mCpO mD "RingedLights$Reader" (2, 177, 84, 2, 3) := ⟨rfl, rfl, Or.inl (mGd_in (i := 582) (by decide +kernel) rfl)⟩
theorem cq_X3_42 : mCpO mD "RingedLights$Reader" (2, 180, 77, 2, 3) := ⟨rfl, rfl, Or.inl (mGd_in (i := 586) (by decide +kernel) rfl)⟩
theorem cq_X3_43 : mCpO mD "RingedLights$Reader" (2, 184, 138, 1, 99) := ⟨rfl, rfl, Or.inr (mNest_in (i := 590) (by decide +kernel) rfl)⟩
theorem cq_X3_44 : mCpO mD "RingedLights$Reader" (2, 191, 137, 1, 99) := ⟨rfl, rfl, Or.inr (mNest_in (i := 603) (by decide +kernel) rfl)⟩
theorem cq_X3_45 : mCpO mD "RingedLights$Reader" (2, 194, 146, 1, 99) := ⟨rfl, rfl, Or.inr (mNest_in (i := 606) (by decide +kernel) rfl)⟩
theorem cq_X3_46 : mCpO mD "RingedLights$Reader" (2, 199, 79, 1, 3) := ⟨rfl, rfl, Or.inl (mGd_in (i := 608) (by decide +kernel) rfl)⟩
theorem cq_X3_47 : mCpO mD "RingedLights$Reader" (2, 202, 60, 4, 2) := ⟨rfl, rfl, Or.inl (mGd_in (i := 631) (by decide +kernel) rfl)⟩
theorem cq_X3_48 : mCpO mD "RingedLights$Reader" (3, 59, 0, 0, 0) := ⟨"phase", by decide +kernel⟩
theorem cq_X3_49 : mCpO mD "RingedLights$Reader" (3, 68, 1, 0, 0) := ⟨"cycle", by decide +kernel⟩
theorem cq_X3_50 : mCpO mD "RingedLights$Reader" (3, 73, 2, 0, 0) := ⟨"offset", by decide +kernel⟩
theorem cq_X3_51 : mCpO mD "RingedLights$Reader" (3, 78, 3, 0, 0) := ⟨"break", by decide +kernel⟩
theorem cq_X3_52 : mCpO mD "RingedLights$Reader" (3, 158, 7, 0, 0) := ⟨"min", by decide +kernel⟩
theorem cq_X3_53 : mCpO mD "RingedLights$Reader" (3, 159, 8, 0, 0) := ⟨"pass", by decide +kernel⟩
theorem cq_X3_54 : mCpO mD "RingedLights$Reader" (3, 161, 9, 0, 0) := ⟨"max", by decide +kernel⟩
theorem cq_X3_55 : mCpO mD "RingedLights$Reader" (3, 163, 10, 0, 0) := ⟨"yellow", by decide +kernel⟩
theorem cq_X3_56 : mCpO mD "RingedLights$Reader" (3, 165, 11, 0, 0) := ⟨"clear", by decide +kernel⟩
theorem cq_X3_57 : mCpO mD "RingedLights$Reader" (3, 167, 12, 0, 0) := ⟨"walk", by decide +kernel⟩
theorem cq_X3_58 : mCpO mD "RingedLights$Reader" (3, 169, 13, 0, 0) := ⟨"halt", by decide +kernel⟩
theorem cq_X3_59 : mCpO mD "RingedLights$Reader" (3, 171, 14, 0, 0) := ⟨"recall", by decide +kernel⟩
theorem cq_X3_60 : mCpO mD "RingedLights$Reader" (3, 173, 15, 0, 0) := ⟨"split", by decide +kernel⟩
theorem cq_X3_61 : mCpO mD "RingedLights$Reader" (3, 175, 16, 0, 0) := ⟨"rate", by decide +kernel⟩
theorem cq_X3_62 : mCpO mD "RingedLights$Reader" (3, 197, 4, 0, 0) := ⟨"track", by decide +kernel⟩
theorem cq_X3_63 : mCpO mD "RingedLights$Reader" (3, 205, 5, 0, 0) := ⟨"dwell", by decide +kernel⟩
theorem cq_X3_64 : mCpO mD "RingedLights$Reader" (3, 207, 6, 0, 0) := ⟨"cut", by decide +kernel⟩
theorem co_X3 : ∀ q ∈ cp_X3, mCpO mD "RingedLights$Reader" q := List.forall_mem_cons.mpr ⟨cq_X3_0, List.forall_mem_cons.mpr ⟨cq_X3_1, List.forall_mem_cons.mpr ⟨cq_X3_2, List.forall_mem_cons.mpr ⟨cq_X3_3, List.forall_mem_cons.mpr ⟨cq_X3_4, List.forall_mem_cons.mpr ⟨cq_X3_5, List.forall_mem_cons.mpr ⟨cq_X3_6, List.forall_mem_cons.mpr ⟨cq_X3_7, List.forall_mem_cons.mpr ⟨cq_X3_8, List.forall_mem_cons.mpr ⟨cq_X3_9, List.forall_mem_cons.mpr ⟨cq_X3_10, List.forall_mem_cons.mpr ⟨cq_X3_11, List.forall_mem_cons.mpr ⟨cq_X3_12, List.forall_mem_cons.mpr ⟨cq_X3_13, List.forall_mem_cons.mpr ⟨cq_X3_14, List.forall_mem_cons.mpr ⟨cq_X3_15, List.forall_mem_cons.mpr ⟨cq_X3_16, List.forall_mem_cons.mpr ⟨cq_X3_17, List.forall_mem_cons.mpr ⟨cq_X3_18, List.forall_mem_cons.mpr ⟨cq_X3_19, List.forall_mem_cons.mpr ⟨cq_X3_20, List.forall_mem_cons.mpr ⟨cq_X3_21, List.forall_mem_cons.mpr ⟨cq_X3_22, List.forall_mem_cons.mpr ⟨cq_X3_23, List.forall_mem_cons.mpr ⟨cq_X3_24, List.forall_mem_cons.mpr ⟨cq_X3_25, List.forall_mem_cons.mpr ⟨cq_X3_26, List.forall_mem_cons.mpr ⟨cq_X3_27, List.forall_mem_cons.mpr ⟨cq_X3_28, List.forall_mem_cons.mpr ⟨cq_X3_29, List.forall_mem_cons.mpr ⟨cq_X3_30, List.forall_mem_cons.mpr ⟨cq_X3_31, List.forall_mem_cons.mpr ⟨cq_X3_32, List.forall_mem_cons.mpr ⟨cq_X3_33, List.forall_mem_cons.mpr ⟨cq_X3_34, List.forall_mem_cons.mpr ⟨cq_X3_35, List.forall_mem_cons.mpr ⟨cq_X3_36, List.forall_mem_cons.mpr ⟨cq_X3_37, List.forall_mem_cons.mpr ⟨cq_X3_38, List.forall_mem_cons.mpr ⟨cq_X3_39, List.forall_mem_cons.mpr ⟨cq_X3_40, List.forall_mem_cons.mpr ⟨cq_X3_41, List.forall_mem_cons.mpr ⟨cq_X3_42, List.forall_mem_cons.mpr ⟨cq_X3_43, List.forall_mem_cons.mpr ⟨cq_X3_44, List.forall_mem_cons.mpr ⟨cq_X3_45, List.forall_mem_cons.mpr ⟨cq_X3_46, List.forall_mem_cons.mpr ⟨cq_X3_47, List.forall_mem_cons.mpr ⟨cq_X3_48, List.forall_mem_cons.mpr ⟨cq_X3_49, List.forall_mem_cons.mpr ⟨cq_X3_50, List.forall_mem_cons.mpr ⟨cq_X3_51, List.forall_mem_cons.mpr ⟨cq_X3_52, List.forall_mem_cons.mpr ⟨cq_X3_53, List.forall_mem_cons.mpr ⟨cq_X3_54, List.forall_mem_cons.mpr ⟨cq_X3_55, List.forall_mem_cons.mpr ⟨cq_X3_56, List.forall_mem_cons.mpr ⟨cq_X3_57, List.forall_mem_cons.mpr ⟨cq_X3_58, List.forall_mem_cons.mpr ⟨cq_X3_59, List.forall_mem_cons.mpr ⟨cq_X3_60, List.forall_mem_cons.mpr ⟨cq_X3_61, List.forall_mem_cons.mpr ⟨cq_X3_62, List.forall_mem_cons.mpr ⟨cq_X3_63, List.forall_mem_cons.mpr ⟨cq_X3_64, fun _ h => absurd h List.not_mem_nil⟩⟩⟩⟩⟩⟩⟩⟩⟩⟩⟩⟩⟩⟩⟩⟩⟩⟩⟩⟩⟩⟩⟩⟩⟩⟩⟩⟩⟩⟩⟩⟩⟩⟩⟩⟩⟩⟩⟩⟩⟩⟩⟩⟩⟩⟩⟩⟩⟩⟩⟩⟩⟩⟩⟩⟩⟩⟩⟩⟩⟩⟩⟩⟩⟩
theorem cq_X4_0 : mCpO mD "RingedLights$Ring" (0, 9, 4, 1, 0) := Or.inr (Or.inr ⟨_, rfl, by decide, mGd_in (i := 233) (by decide +kernel) rfl⟩)
theorem cq_X4_1 : mCpO mD "RingedLights$Ring" (0, 15, 4, 2, 0) := Or.inr (Or.inr ⟨_, rfl, by decide, mGd_in (i := 235) (by decide +kernel) rfl⟩)
theorem cq_X4_2 : mCpO mD "RingedLights$Ring" (0, 18, 4, 4, 0) := Or.inr (Or.inr ⟨_, rfl, by decide, mGd_in (i := 239) (by decide +kernel) rfl⟩)
theorem cq_X4_3 : mCpO mD "RingedLights$Ring" (0, 24, 4, 3, 0) := Or.inr (Or.inr ⟨_, rfl, by decide, mGd_in (i := 237) (by decide +kernel) rfl⟩)
theorem cq_X4_4 : mCpO mD "RingedLights$Ring" (0, 27, 4, 5, 0) := Or.inr (Or.inr ⟨_, rfl, by decide, mGd_in (i := 241) (by decide +kernel) rfl⟩)
theorem cq_X4_5 : mCpO mD "RingedLights$Ring" (0, 30, 4, 6, 0) := Or.inr (Or.inr ⟨_, rfl, by decide, mGd_in (i := 243) (by decide +kernel) rfl⟩)
theorem cq_X4_6 : mCpO mD "RingedLights$Ring" (0, 33, 4, 7, 0) := Or.inr (Or.inr ⟨_, rfl, by decide, mGd_in (i := 245) (by decide +kernel) rfl⟩)
theorem cq_X4_7 : mCpO mD "RingedLights$Ring" (0, 36, 4, 8, 0) := Or.inr (Or.inr ⟨_, rfl, by decide, mGd_in (i := 247) (by decide +kernel) rfl⟩)
theorem cq_X4_8 : mCpO mD "RingedLights$Ring" (2, 39, 91, 2, 4) := ⟨rfl, rfl, Or.inl (mGd_in (i := 930) (by decide +kernel) rfl)⟩
theorem co_X4 : ∀ q ∈ cp_X4, mCpO mD "RingedLights$Ring" q := List.forall_mem_cons.mpr ⟨cq_X4_0, List.forall_mem_cons.mpr ⟨cq_X4_1, List.forall_mem_cons.mpr ⟨cq_X4_2, List.forall_mem_cons.mpr ⟨cq_X4_3, List.forall_mem_cons.mpr ⟨cq_X4_4, List.forall_mem_cons.mpr ⟨cq_X4_5, List.forall_mem_cons.mpr ⟨cq_X4_6, List.forall_mem_cons.mpr ⟨cq_X4_7, List.forall_mem_cons.mpr ⟨cq_X4_8, fun _ h => absurd h List.not_mem_nil⟩⟩⟩⟩⟩⟩⟩⟩⟩
theorem cq_X5_0 : mCpO mD "RingedLights" (0, 9, 5, 0, 0) := Or.inr (Or.inr ⟨_, rfl, by decide, mGd_in (i := 366) (by decide +kernel) rfl⟩)
theorem cq_X5_1 : mCpO mD "RingedLights" (0, 18, 5, 1, 0) := Or.inr (Or.inr ⟨_, rfl, by decide, mGd_in (i := 367) (by decide +kernel) rfl⟩)
theorem cq_X5_2 : mCpO mD "RingedLights" (0, 25, 5, 2, 0) := Or.inr (Or.inr ⟨_, rfl, by decide, mGd_in (i := 368) (by decide +kernel) rfl⟩)
theorem cq_X5_3 : mCpO mD "RingedLights" (0, 29, 5, 3, 0) := Or.inr (Or.inr ⟨_, rfl, by decide, mGd_in (i := 369) (by decide +kernel) rfl⟩)
theorem cq_X5_4 : mCpO mD "RingedLights" (0, 32, 5, 4, 0) := Or.inr (Or.inr ⟨_, rfl, by decide, mGd_in (i := 370) (by decide +kernel) rfl⟩)
theorem cq_X5_5 : mCpO mD "RingedLights" (0, 35, 5, 5, 0) := Or.inr (Or.inr ⟨_, rfl, by decide, mGd_in (i := 371) (by decide +kernel) rfl⟩)
theorem cq_X5_6 : mCpO mD "RingedLights" (0, 38, 5, 6, 0) := Or.inr (Or.inr ⟨_, rfl, by decide, mGd_in (i := 372) (by decide +kernel) rfl⟩)
theorem cq_X5_7 : mCpO mD "RingedLights" (0, 41, 5, 7, 0) := Or.inr (Or.inr ⟨_, rfl, by decide, mGd_in (i := 373) (by decide +kernel) rfl⟩)
theorem cq_X5_8 : mCpO mD "RingedLights" (0, 45, 5, 8, 0) := Or.inr (Or.inr ⟨_, rfl, by decide, mGd_in (i := 374) (by decide +kernel) rfl⟩)
theorem cq_X5_9 : mCpO mD "RingedLights" (0, 48, 5, 9, 0) := Or.inr (Or.inr ⟨_, rfl, by decide, mGd_in (i := 375) (by decide +kernel) rfl⟩)
theorem cq_X5_10 : mCpO mD "RingedLights" (0, 52, 5, 10, 0) := Or.inr (Or.inr ⟨_, rfl, by decide, mGd_in (i := 376) (by decide +kernel) rfl⟩)
theorem cq_X5_11 : mCpO mD "RingedLights" (0, 66, 3, 9, 0) := Or.inr (Or.inr ⟨_, rfl, by decide, mGd_in (i := 187) (by decide +kernel) rfl⟩)
theorem cq_X5_12 : mCpO mD "RingedLights" (0, 69, 0, 0, 0) := Or.inr (Or.inr ⟨_, rfl, by decide, mGd_in (i := 292) (by decide +kernel) rfl⟩)
theorem cq_X5_13 : mCpO mD "RingedLights" (0, 73, 3, 1, 0) := Or.inr (Or.inr ⟨_, rfl, by decide, mGd_in (i := 178) (by decide +kernel) rfl⟩)
theorem cq_X5_14 : mCpO mD "RingedLights" (0, 83, 2, 0, 0) := Or.inr (Or.inr ⟨_, rfl, by decide, mGd_in (i := 124) (by decide +kernel) rfl⟩)
theorem cq_X5_15 : mCpO mD "RingedLights" (0, 89, 3, 10, 0) := Or.inr (Or.inr ⟨_, rfl, by decide, mGd_in (i := 189) (by decide +kernel) rfl⟩)
theorem cq_X5_16 : mCpO mD "RingedLights" (0, 92, 3, 11, 0) := Or.inr (Or.inr ⟨_, rfl, by decide, mGd_in (i := 191) (by decide +kernel) rfl⟩)
theorem cq_X5_17 : mCpO mD "RingedLights" (0, 95, 0, 12, 0) := Or.inr (Or.inr ⟨_, rfl, by decide, mGd_in (i := 314) (by decide +kernel) rfl⟩)
theorem cq_X5_18 : mCpO mD "RingedLights" (0, 98, 2, 1, 0) := Or.inr (Or.inr ⟨_, rfl, by decide, mGd_in (i := 128) (by decide +kernel) rfl⟩)
theorem cq_X5_19 : mCpO mD "RingedLights" (0, 101, 2, 2, 0) := Or.inr (Or.inr ⟨_, rfl, by decide, mGd_in (i := 132) (by decide +kernel) rfl⟩)
theorem cq_X5_20 : mCpO mD "RingedLights" (0, 104, 0, 13, 0) := Or.inr (Or.inr ⟨_, rfl, by decide, mGd_in (i := 316) (by decide +kernel) rfl⟩)
theorem cq_X5_21 : mCpO mD "RingedLights" (0, 107, 0, 15, 0) := Or.inr (Or.inr ⟨_, rfl, by decide, mGd_in (i := 320) (by decide +kernel) rfl⟩)
theorem cq_X5_22 : mCpO mD "RingedLights" (0, 110, 0, 10, 0) := Or.inr (Or.inr ⟨_, rfl, by decide, mGd_in (i := 310) (by decide +kernel) rfl⟩)
theorem cq_X5_23 : mCpO mD "RingedLights" (0, 113, 0, 16, 0) := Or.inr (Or.inr ⟨_, rfl, by decide, mGd_in (i := 322) (by decide +kernel) rfl⟩)
theorem cq_X5_24 : mCpO mD "RingedLights" (0, 116, 0, 17, 0) := Or.inr (Or.inr ⟨_, rfl, by decide, mGd_in (i := 324) (by decide +kernel) rfl⟩)
theorem cq_X5_25 : mCpO mD "RingedLights" (0, 119, 0, 18, 0) := Or.inr (Or.inr ⟨_, rfl, by decide, mGd_in (i := 326) (by decide +kernel) rfl⟩)
theorem cq_X5_26 : mCpO mD "RingedLights" (0, 122, 0, 11, 0) := Or.inr (Or.inr ⟨_, rfl, by decide, mGd_in (i := 312) (by decide +kernel) rfl⟩)
theorem cq_X5_27 : mCpO mD "RingedLights" (0, 125, 0, 1, 0) := Or.inr (Or.inr ⟨_, rfl, by decide, mGd_in (i := 294) (by decide +kernel) rfl⟩)
theorem cq_X5_28 : mCpO mD "RingedLights" (0, 129, 0, 2, 0) := Or.inr (Or.inr ⟨_, rfl, by decide, mGd_in (i := 296) (by decide +kernel) rfl⟩)
theorem cq_X5_29 : mCpO mD "RingedLights" (0, 157, 0, 5, 0) := Or.inr (Or.inr ⟨_, rfl, by decide, mGd_in (i := 302) (by decide +kernel) rfl⟩)
theorem cq_X5_30 : mCpO mD "RingedLights" (0, 165, 0, 14, 0) := Or.inr (Or.inr ⟨_, rfl, by decide, mGd_in (i := 318) (by decide +kernel) rfl⟩)
theorem cq_X5_31 : mCpO mD "RingedLights" (0, 168, 0, 4, 0) := Or.inr (Or.inr ⟨_, rfl, by decide, mGd_in (i := 300) (by decide +kernel) rfl⟩)
theorem cq_X5_32 : mCpO mD "RingedLights" (0, 181, 0, 3, 0) := Or.inr (Or.inr ⟨_, rfl, by decide, mGd_in (i := 298) (by decide +kernel) rfl⟩)
theorem cq_X5_33 : mCpO mD "RingedLights" (0, 185, 1, 3, 0) := Or.inr (Or.inr ⟨_, rfl, by decide, mGd_in (i := 278) (by decide +kernel) rfl⟩)
theorem cq_X5_34 : mCpO mD "RingedLights" (0, 219, 0, 8, 0) := Or.inr (Or.inr ⟨_, rfl, by decide, mGd_in (i := 307) (by decide +kernel) rfl⟩)
theorem cq_X5_35 : mCpO mD "RingedLights" (0, 222, 0, 7, 0) := Or.inr (Or.inr ⟨_, rfl, by decide, mGd_in (i := 305) (by decide +kernel) rfl⟩)
theorem cq_X5_36 : mCpO mD "RingedLights" (1, 193, 0, 27, 0) := Or.inl ⟨rfl, by decide, Or.inl (mGd_in (i := 806) (by decide +kernel) rfl)⟩
theorem cq_X5_37 : mCpO mD "RingedLights" (1, 200, 0, 28, 0) := Or.inl ⟨rfl, by decide, Or.inl (mGd_in (i := 808) (by decide +kernel) rfl)⟩
theorem cq_X5_38 : mCpO mD "RingedLights" (2, 55, 134, 2, 5) := ⟨rfl, rfl, Or.inl (mGd_in (i := 408) (by decide +kernel) rfl)⟩
theorem cq_X5_39 : mCpO mD "RingedLights" (2, 59, 131, 2, 5) := ⟨rfl, rfl, Or.inl (mGd_in (i := 416) (by decide +kernel) rfl)⟩
theorem cq_X5_40 : mCpO mD "RingedLights" (2, 63, 69, 2, 3) := ⟨rfl, rfl, Or.inl (mGd_in (i := 420) (by decide +kernel) rfl)⟩
theorem cq_X5_41 : mCpO mD "RingedLights" (2, 74, 52, 2, 2) := ⟨rfl, rfl, Or.inl (mGd_in (i := 637) (by decide +kernel) rfl)⟩
theorem cq_X5_42 : mCpO mD "RingedLights" (2, 80, 1, 1, 0) := ⟨rfl, rfl, Or.inl (mGd_in (i := 648) (by decide +kernel) rfl)⟩
theorem cq_X5_43 : mCpO mD "RingedLights" (2, 86, 130, 2, 5) := ⟨rfl, rfl, Or.inl (mGd_in (i := 673) (by decide +kernel) rfl)⟩
theorem cq_X5_44 : mCpO mD "RingedLights" (2, 132, 3, 3, 0) := ⟨rfl, rfl, Or.inl (mGd_in (i := 689) (by decide +kernel) rfl)⟩
theorem cq_X5_45 : mCpO mD "RingedLights" (2, 136, 54, 2, 2) := ⟨rfl, rfl, Or.inl (mGd_in (i := 726) (by decide +kernel) rfl)⟩
theorem cq_X5_46 : mCpO mD "RingedLights" (2, 140, 4, 3, 0) := ⟨rfl, rfl, Or.inl (mGd_in (i := 730) (by decide +kernel) rfl)⟩
theorem cq_X5_47 : mCpO mD "RingedLights" (2, 144, 57, 3, 2) := ⟨rfl, rfl, Or.inl (mGd_in (i := 753) (by decide +kernel) rfl)⟩
theorem cq_X5_48 : mCpO mD "RingedLights" (2, 147, 137, 1, 99) := ⟨rfl, rfl, Or.inl (mGd_in (i := 758) (by decide +kernel) rfl)⟩
theorem cq_X5_49 : mCpO mD "RingedLights" (2, 150, 148, 2, 99) := ⟨rfl, rfl, Or.inl (mGd_in (i := 759) (by decide +kernel) rfl)⟩
theorem cq_X5_50 : mCpO mD "RingedLights" (2, 154, 59, 3, 2) := ⟨rfl, rfl, Or.inl (mGd_in (i := 760) (by decide +kernel) rfl)⟩
theorem cq_X5_51 : mCpO mD "RingedLights" (2, 161, 145, 1, 99) := ⟨rfl, rfl, Or.inl (mGd_in (i := 768) (by decide +kernel) rfl)⟩
theorem cq_X5_52 : mCpO mD "RingedLights" (2, 171, 7, 1, 0) := ⟨rfl, rfl, Or.inl (mGd_in (i := 771) (by decide +kernel) rfl)⟩
theorem cq_X5_53 : mCpO mD "RingedLights" (2, 175, 8, 1, 0) := ⟨rfl, rfl, Or.inl (mGd_in (i := 778) (by decide +kernel) rfl)⟩
theorem cq_X5_54 : mCpO mD "RingedLights" (2, 178, 13, 1, 0) := ⟨rfl, rfl, Or.inl (mGd_in (i := 783) (by decide +kernel) rfl)⟩
theorem cq_X5_55 : mCpO mD "RingedLights" (2, 190, 50, 3, 1) := ⟨rfl, rfl, Or.inl (mGd_in (i := 796) (by decide +kernel) rfl)⟩
theorem cq_X5_56 : mCpO mD "RingedLights" (2, 196, 141, 2, 99) := ⟨rfl, rfl, Or.inl (mGd_in (i := 807) (by decide +kernel) rfl)⟩
theorem cq_X5_57 : mCpO mD "RingedLights" (2, 203, 58, 4, 2) := ⟨rfl, rfl, Or.inl (mGd_in (i := 809) (by decide +kernel) rfl)⟩
theorem cq_X5_58 : mCpO mD "RingedLights" (2, 207, 138, 1, 99) := ⟨rfl, rfl, Or.inl (mGd_in (i := 814) (by decide +kernel) rfl)⟩
theorem cq_X5_59 : mCpO mD "RingedLights" (2, 210, 139, 1, 99) := ⟨rfl, rfl, Or.inl (mGd_in (i := 815) (by decide +kernel) rfl)⟩
theorem cq_X5_60 : mCpO mD "RingedLights" (2, 213, 19, 2, 0) := ⟨rfl, rfl, Or.inl (mGd_in (i := 818) (by decide +kernel) rfl)⟩
theorem cq_X5_61 : mCpO mD "RingedLights" (2, 216, 133, 2, 5) := ⟨rfl, rfl, Or.inl (mGd_in (i := 826) (by decide +kernel) rfl)⟩
theorem cq_X5_62 : mCpO mD "RingedLights" (2, 225, 146, 1, 99) := ⟨rfl, rfl, Or.inl (mGd_in (i := 545) (by decide +kernel) rfl)⟩
theorem cq_X5_63 : mCpO mD "RingedLights" (2, 228, 17, 2, 0) := ⟨rfl, rfl, Or.inl (mGd_in (i := 830) (by decide +kernel) rfl)⟩
theorem cq_X5_64 : mCpO mD "RingedLights" (2, 231, 132, 1, 5) := ⟨rfl, rfl, Or.inl (mGd_in (i := 838) (by decide +kernel) rfl)⟩
theorem cq_X5_65 : mCpO mD "RingedLights" (2, 235, 16, 3, 0) := ⟨rfl, rfl, Or.inl (mGd_in (i := 846) (by decide +kernel) rfl)⟩
theorem cq_X5_66 : mCpO mD "RingedLights" (2, 239, 56, 2, 2) := ⟨rfl, rfl, Or.inl (mGd_in (i := 864) (by decide +kernel) rfl)⟩
theorem cq_X5_67 : mCpO mD "RingedLights" (2, 242, 140, 1, 99) := ⟨rfl, rfl, Or.inl (mGd_in (i := 865) (by decide +kernel) rfl)⟩
theorem cq_X5_68 : mCpO mD "RingedLights" (2, 245, 64, 2, 2) := ⟨rfl, rfl, Or.inl (mGd_in (i := 868) (by decide +kernel) rfl)⟩
theorem cq_X5_69 : mCpO mD "RingedLights" (2, 248, 60, 4, 2) := ⟨rfl, rfl, Or.inl (mGd_in (i := 869) (by decide +kernel) rfl)⟩
theorem cq_X5_70 : mCpO mD "RingedLights" (2, 251, 147, 3, 99) := ⟨rfl, rfl, Or.inl (mGd_in (i := 874) (by decide +kernel) rfl)⟩
theorem cq_X5_71 : mCpO mD "RingedLights" (2, 255, 2, 1, 0) := ⟨rfl, rfl, Or.inl (mGd_in (i := 879) (by decide +kernel) rfl)⟩
theorem cq_X5_72 : mCpO mD "RingedLights" (2, 258, 49, 4, 1) := ⟨rfl, rfl, Or.inl (mGd_in (i := 880) (by decide +kernel) rfl)⟩
theorem cq_X5_73 : mCpO mD "RingedLights" (2, 261, 21, 2, 0) := ⟨rfl, rfl, Or.inl (mGd_in (i := 889) (by decide +kernel) rfl)⟩
theorem cq_X5_74 : mCpO mD "RingedLights" (2, 264, 20, 2, 0) := ⟨rfl, rfl, Or.inl (mGd_in (i := 1020) (by decide +kernel) rfl)⟩
theorem cq_X5_75 : mCpO mD "RingedLights" (2, 267, 22, 1, 0) := ⟨rfl, rfl, Or.inl (mGd_in (i := 1028) (by decide +kernel) rfl)⟩
theorem cq_X5_76 : mCpO mD "RingedLights" (2, 270, 135, 2, 5) := ⟨rfl, rfl, Or.inl (mGd_in (i := 1033) (by decide +kernel) rfl)⟩
theorem cq_X5_77 : mCpO mD "RingedLights" (2, 274, 0, 2, 0) := ⟨rfl, rfl, Or.inl (mGd_in (i := 1037) (by decide +kernel) rfl)⟩
theorem cq_X5_78 : mCpO mD "RingedLights" (2, 277, 63, 2, 2) := ⟨rfl, rfl, Or.inl (mGd_in (i := 1060) (by decide +kernel) rfl)⟩
theorem cq_X5_79 : mCpO mD "RingedLights" (2, 280, 55, 1, 2) := ⟨rfl, rfl, Or.inl (mGd_in (i := 1065) (by decide +kernel) rfl)⟩
theorem cq_X5_80 : mCpO mD "RingedLights" (2, 283, 66, 2, 2) := ⟨rfl, rfl, Or.inl (mGd_in (i := 1066) (by decide +kernel) rfl)⟩
theorem cq_X5_81 : mCpO mD "RingedLights" (2, 286, 9, 2, 0) := ⟨rfl, rfl, Or.inl (mGd_in (i := 1070) (by decide +kernel) rfl)⟩
theorem cq_X5_82 : mCpO mD "RingedLights" (2, 289, 136, 3, 5) := ⟨rfl, rfl, Or.inl (mGd_in (i := 1078) (by decide +kernel) rfl)⟩
theorem cq_X5_83 : mCpO mD "RingedLights" (2, 292, 15, 3, 0) := ⟨rfl, rfl, Or.inl (mGd_in (i := 1082) (by decide +kernel) rfl)⟩
theorem cq_X5_84 : mCpO mD "RingedLights" (2, 295, 18, 2, 0) := ⟨rfl, rfl, Or.inl (mGd_in (i := 1086) (by decide +kernel) rfl)⟩
theorem cq_X5_85 : mCpO mD "RingedLights" (2, 298, 277, 2, 99) := ⟨rfl, rfl, Or.inl (mGd_in (i := 644) (by decide +kernel) rfl)⟩
theorem cq_X5_86 : mCpO mD "RingedLights" (5, 303, 999, 0, 0) := mGd_in (i := 645) (by decide +kernel) rfl
theorem co_X5 : ∀ q ∈ cp_X5, mCpO mD "RingedLights" q := List.forall_mem_cons.mpr ⟨cq_X5_0, List.forall_mem_cons.mpr ⟨cq_X5_1, List.forall_mem_cons.mpr ⟨cq_X5_2, List.forall_mem_cons.mpr ⟨cq_X5_3, List.forall_mem_cons.mpr ⟨cq_X5_4, List.forall_mem_cons.mpr ⟨cq_X5_5, List.forall_mem_cons.mpr ⟨cq_X5_6, List.forall_mem_cons.mpr ⟨cq_X5_7, List.forall_mem_cons.mpr ⟨cq_X5_8, List.forall_mem_cons.mpr ⟨cq_X5_9, List.forall_mem_cons.mpr ⟨cq_X5_10, List.forall_mem_cons.mpr ⟨cq_X5_11, List.forall_mem_cons.mpr ⟨cq_X5_12, List.forall_mem_cons.mpr ⟨cq_X5_13, List.forall_mem_cons.mpr ⟨cq_X5_14, List.forall_mem_cons.mpr ⟨cq_X5_15, List.forall_mem_cons.mpr ⟨cq_X5_16, List.forall_mem_cons.mpr ⟨cq_X5_17, List.forall_mem_cons.mpr ⟨cq_X5_18, List.forall_mem_cons.mpr ⟨cq_X5_19, List.forall_mem_cons.mpr ⟨cq_X5_20, List.forall_mem_cons.mpr ⟨cq_X5_21, List.forall_mem_cons.mpr ⟨cq_X5_22, List.forall_mem_cons.mpr ⟨cq_X5_23, List.forall_mem_cons.mpr ⟨cq_X5_24, List.forall_mem_cons.mpr ⟨cq_X5_25, List.forall_mem_cons.mpr ⟨cq_X5_26, List.forall_mem_cons.mpr ⟨cq_X5_27, List.forall_mem_cons.mpr ⟨cq_X5_28, List.forall_mem_cons.mpr ⟨cq_X5_29, List.forall_mem_cons.mpr ⟨cq_X5_30, List.forall_mem_cons.mpr ⟨cq_X5_31, List.forall_mem_cons.mpr ⟨cq_X5_32, List.forall_mem_cons.mpr ⟨cq_X5_33, List.forall_mem_cons.mpr ⟨cq_X5_34, List.forall_mem_cons.mpr ⟨cq_X5_35, List.forall_mem_cons.mpr ⟨cq_X5_36, List.forall_mem_cons.mpr ⟨cq_X5_37, List.forall_mem_cons.mpr ⟨cq_X5_38, List.forall_mem_cons.mpr ⟨cq_X5_39, List.forall_mem_cons.mpr ⟨cq_X5_40, List.forall_mem_cons.mpr ⟨cq_X5_41, List.forall_mem_cons.mpr ⟨cq_X5_42, List.forall_mem_cons.mpr ⟨cq_X5_43, List.forall_mem_cons.mpr ⟨cq_X5_44, List.forall_mem_cons.mpr ⟨cq_X5_45, List.forall_mem_cons.mpr ⟨cq_X5_46, List.forall_mem_cons.mpr ⟨cq_X5_47, List.forall_mem_cons.mpr ⟨cq_X5_48, List.forall_mem_cons.mpr ⟨cq_X5_49, List.forall_mem_cons.mpr ⟨cq_X5_50, List.forall_mem_cons.mpr ⟨cq_X5_51, List.forall_mem_cons.mpr ⟨cq_X5_52, List.forall_mem_cons.mpr ⟨cq_X5_53, List.forall_mem_cons.mpr ⟨cq_X5_54, List.forall_mem_cons.mpr ⟨cq_X5_55, List.forall_mem_cons.mpr ⟨cq_X5_56, List.forall_mem_cons.mpr ⟨cq_X5_57, List.forall_mem_cons.mpr ⟨cq_X5_58, List.forall_mem_cons.mpr ⟨cq_X5_59, List.forall_mem_cons.mpr ⟨cq_X5_60, List.forall_mem_cons.mpr ⟨cq_X5_61, List.forall_mem_cons.mpr ⟨cq_X5_62, List.forall_mem_cons.mpr ⟨cq_X5_63, List.forall_mem_cons.mpr ⟨cq_X5_64, List.forall_mem_cons.mpr ⟨cq_X5_65, List.forall_mem_cons.mpr ⟨cq_X5_66, List.forall_mem_cons.mpr ⟨cq_X5_67, List.forall_mem_cons.mpr ⟨cq_X5_68, List.forall_mem_cons.mpr ⟨cq_X5_69, List.forall_mem_cons.mpr ⟨cq_X5_70, List.forall_mem_cons.mpr ⟨cq_X5_71, List.forall_mem_cons.mpr ⟨cq_X5_72, List.forall_mem_cons.mpr ⟨cq_X5_73, List.forall_mem_cons.mpr ⟨cq_X5_74, List.forall_mem_cons.mpr ⟨cq_X5_75, List.forall_mem_cons.mpr ⟨cq_X5_76, List.forall_mem_cons.mpr ⟨cq_X5_77, List.forall_mem_cons.mpr ⟨cq_X5_78, List.forall_mem_cons.mpr ⟨cq_X5_79, List.forall_mem_cons.mpr ⟨cq_X5_80, List.forall_mem_cons.mpr ⟨cq_X5_81, List.forall_mem_cons.mpr ⟨cq_X5_82, List.forall_mem_cons.mpr ⟨cq_X5_83, List.forall_mem_cons.mpr ⟨cq_X5_84, List.forall_mem_cons.mpr ⟨cq_X5_85, List.forall_mem_cons.mpr ⟨cq_X5_86, fun _ h => absurd h List.not_mem_nil⟩⟩⟩⟩⟩⟩⟩⟩⟩⟩⟩⟩⟩⟩⟩⟩⟩⟩⟩⟩⟩⟩⟩⟩⟩⟩⟩⟩⟩⟩⟩⟩⟩⟩⟩⟩⟩⟩⟩⟩⟩⟩⟩⟩⟩⟩⟩⟩⟩⟩⟩⟩⟩⟩⟩⟩⟩⟩⟩⟩⟩⟩⟩⟩⟩⟩⟩⟩⟩⟩⟩⟩⟩⟩⟩⟩⟩⟩⟩⟩⟩⟩⟩⟩⟩⟩⟩
theorem cq_X6_0 : mCpO mD "RingedLightsModel" (0, 7, 6, 0, 0) := Or.inr (Or.inr ⟨_, rfl, by decide, mGd_in (i := 1176) (by decide +kernel) rfl⟩)
theorem cq_X6_1 : mCpO mD "RingedLightsModel" (0, 13, 6, 6, 0) := Or.inr (Or.inr ⟨_, rfl, by decide, mGd_in (i := 1182) (by decide +kernel) rfl⟩)
theorem cq_X6_2 : mCpO mD "RingedLightsModel" (0, 17, 6, 7, 0) := Or.inr (Or.inr ⟨_, rfl, by decide, mGd_in (i := 1183) (by decide +kernel) rfl⟩)
theorem cq_X6_3 : mCpO mD "RingedLightsModel" (0, 20, 6, 15, 0) := Or.inr (Or.inr ⟨_, rfl, by decide, mGd_in (i := 1191) (by decide +kernel) rfl⟩)
theorem cq_X6_4 : mCpO mD "RingedLightsModel" (0, 24, 6, 16, 0) := Or.inr (Or.inr ⟨_, rfl, by decide, mGd_in (i := 1192) (by decide +kernel) rfl⟩)
theorem cq_X6_5 : mCpO mD "RingedLightsModel" (0, 27, 6, 17, 0) := Or.inr (Or.inr ⟨_, rfl, by decide, mGd_in (i := 1193) (by decide +kernel) rfl⟩)
theorem cq_X6_6 : mCpO mD "RingedLightsModel" (0, 36, 6, 1, 0) := Or.inr (Or.inr ⟨_, rfl, by decide, mGd_in (i := 1177) (by decide +kernel) rfl⟩)
theorem cq_X6_7 : mCpO mD "RingedLightsModel" (0, 107, 6, 3, 0) := Or.inr (Or.inr ⟨_, rfl, by decide, mGd_in (i := 1179) (by decide +kernel) rfl⟩)
theorem cq_X6_8 : mCpO mD "RingedLightsModel" (0, 131, 6, 4, 0) := Or.inr (Or.inr ⟨_, rfl, by decide, mGd_in (i := 1180) (by decide +kernel) rfl⟩)
theorem cq_X6_9 : mCpO mD "RingedLightsModel" (0, 206, 6, 5, 0) := Or.inr (Or.inr ⟨_, rfl, by decide, mGd_in (i := 1181) (by decide +kernel) rfl⟩)
theorem cq_X6_10 : mCpO mD "RingedLightsModel" (0, 219, 6, 8, 0) := Or.inr (Or.inr ⟨_, rfl, by decide, mGd_in (i := 1184) (by decide +kernel) rfl⟩)
theorem cq_X6_11 : mCpO mD "RingedLightsModel" (0, 225, 6, 9, 0) := Or.inr (Or.inr ⟨_, rfl, by decide, mGd_in (i := 1185) (by decide +kernel) rfl⟩)
theorem cq_X6_12 : mCpO mD "RingedLightsModel" (0, 228, 6, 12, 0) := Or.inr (Or.inr ⟨_, rfl, by decide, mGd_in (i := 1188) (by decide +kernel) rfl⟩)
theorem cq_X6_13 : mCpO mD "RingedLightsModel" (0, 234, 6, 11, 0) := Or.inr (Or.inr ⟨_, rfl, by decide, mGd_in (i := 1187) (by decide +kernel) rfl⟩)
theorem cq_X6_14 : mCpO mD "RingedLightsModel" (0, 237, 6, 10, 0) := Or.inr (Or.inr ⟨_, rfl, by decide, mGd_in (i := 1186) (by decide +kernel) rfl⟩)
theorem cq_X6_15 : mCpO mD "RingedLightsModel" (0, 246, 6, 13, 0) := Or.inr (Or.inr ⟨_, rfl, by decide, mGd_in (i := 1189) (by decide +kernel) rfl⟩)
theorem cq_X6_16 : mCpO mD "RingedLightsModel" (0, 260, 6, 14, 0) := Or.inr (Or.inr ⟨_, rfl, by decide, mGd_in (i := 1190) (by decide +kernel) rfl⟩)
theorem cq_X6_17 : mCpO mD "RingedLightsModel" (0, 263, 6, 18, 0) := Or.inr (Or.inr ⟨_, rfl, by decide, mGd_in (i := 1194) (by decide +kernel) rfl⟩)
theorem cq_X6_18 : mCpO mD "RingedLightsModel" (0, 276, 6, 20, 0) := Or.inr (Or.inr ⟨_, rfl, by decide, mGd_in (i := 1196) (by decide +kernel) rfl⟩)
theorem cq_X6_19 : mCpO mD "RingedLightsModel" (0, 301, 6, 19, 0) := Or.inr (Or.inr ⟨_, rfl, by decide, mGd_in (i := 1195) (by decide +kernel) rfl⟩)
theorem cq_X6_20 : mCpO mD "RingedLightsModel" (0, 331, 6, 2, 0) := Or.inr (Or.inr ⟨_, rfl, by decide, mGd_in (i := 1178) (by decide +kernel) rfl⟩)
theorem cq_X6_21 : mCpO mD "RingedLightsModel" (2, 30, 168, 1, 6) := ⟨rfl, rfl, Or.inl (mGd_in (i := 1125) (by decide +kernel) rfl)⟩
theorem cq_X6_22 : mCpO mD "RingedLightsModel" (2, 33, 173, 1, 6) := ⟨rfl, rfl, Or.inl (mGd_in (i := 1133) (by decide +kernel) rfl)⟩
theorem cq_X6_23 : mCpO mD "RingedLightsModel" (2, 39, 161, 1, 99) := ⟨rfl, rfl, Or.inl (mGd_in (i := 1173) (by decide +kernel) rfl)⟩
theorem cq_X6_24 : mCpO mD "RingedLightsModel" (2, 43, 157, 2, 6) := ⟨rfl, rfl, Or.inl (mGd_in (i := 1141) (by decide +kernel) rfl)⟩
theorem cq_X6_25 : mCpO mD "RingedLightsModel" (2, 46, 158, 3, 6) := ⟨rfl, rfl, Or.inl (mGd_in (i := 1129) (by decide +kernel) rfl)⟩
theorem cq_X6_26 : mCpO mD "RingedLightsModel" (2, 50, 164, 3, 6) := ⟨rfl, rfl, Or.inl (mGd_in (i := 1145) (by decide +kernel) rfl)⟩
theorem cq_X6_27 : mCpO mD "RingedLightsModel" (2, 54, 169, 3, 6) := ⟨rfl, rfl, Or.inl (mGd_in (i := 1357) (by decide +kernel) rfl)⟩
theorem cq_X6_28 : mCpO mD "RingedLightsModel" (2, 58, 155, 2, 99) := ⟨rfl, rfl, Or.inl (mGd_in (i := 1313) (by decide +kernel) rfl)⟩
theorem cq_X6_29 : mCpO mD "RingedLightsModel" (2, 61, 170, 2, 6) := ⟨rfl, rfl, Or.inl (mGd_in (i := 1353) (by decide +kernel) rfl)⟩
theorem cq_X6_30 : mCpO mD "RingedLightsModel" (2, 64, 177, 2, 6) := ⟨rfl, rfl, Or.inl (mGd_in (i := 1149) (by decide +kernel) rfl)⟩
theorem cq_X6_31 : mCpO mD "RingedLightsModel" (2, 68, 172, 5, 6) := ⟨rfl, rfl, Or.inl (mGd_in (i := 1137) (by decide +kernel) rfl)⟩
theorem cq_X6_32 : mCpO mD "RingedLightsModel" (2, 72, 174, 2, 6) := ⟨rfl, rfl, Or.inl (mGd_in (i := 1165) (by decide +kernel) rfl)⟩
theorem cq_X6_33 : mCpO mD "RingedLightsModel" (2, 76, 163, 4, 6) := ⟨rfl, rfl, Or.inl (mGd_in (i := 1169) (by decide +kernel) rfl)⟩
theorem cq_X6_34 : mCpO mD "RingedLightsModel" (2, 80, 166, 3, 6) := ⟨rfl, rfl, Or.inl (mGd_in (i := 1157) (by decide +kernel) rfl)⟩
theorem cq_X6_35 : mCpO mD "RingedLightsModel" (2, 83, 175, 2, 6) := ⟨rfl, rfl, Or.inl (mGd_in (i := 1153) (by decide +kernel) rfl)⟩
theorem cq_X6_36 : mCpO mD "RingedLightsModel" (2, 86, 176, 2, 6) := ⟨rfl, rfl, Or.inl (mGd_in (i := 1161) (by decide +kernel) rfl)⟩
theorem cq_X6_37 : mCpO mD "RingedLightsModel" (2, 89, 162, 3, 6) := ⟨rfl, rfl, Or.inl (mGd_in (i := 1377) (by decide +kernel) rfl)⟩
theorem cq_X6_38 : mCpO mD "RingedLightsModel" (2, 92, 159, 3, 6) := ⟨rfl, rfl, Or.inl (mGd_in (i := 1322) (by decide +kernel) rfl)⟩
theorem cq_X6_39 : mCpO mD "RingedLightsModel" (2, 95, 165, 4, 6) := ⟨rfl, rfl, Or.inl (mGd_in (i := 1309) (by decide +kernel) rfl)⟩
theorem cq_X6_40 : mCpO mD "RingedLightsModel" (2, 98, 181, 3, 6) := ⟨rfl, rfl, Or.inl (mGd_in (i := 1508) (by decide +kernel) rfl)⟩
theorem cq_X6_41 : mCpO mD "RingedLightsModel" (2, 101, 179, 2, 6) := ⟨rfl, rfl, Or.inl (mGd_in (i := 1416) (by decide +kernel) rfl)⟩
theorem cq_X6_42 : mCpO mD "RingedLightsModel" (2, 104, 183, 3, 6) := ⟨rfl, rfl, Or.inl (mGd_in (i := 1579) (by decide +kernel) rfl)⟩
theorem cq_X6_43 : mCpO mD "RingedLightsModel" (2, 116, 185, 2, 6) := ⟨rfl, rfl, Or.inl (mGd_in (i := 1524) (by decide +kernel) rfl)⟩
theorem cq_X6_44 : mCpO mD "RingedLightsModel" (2, 119, 277, 2, 99) := ⟨rfl, rfl, Or.inl (mGd_in (i := 1281) (by decide +kernel) rfl)⟩
theorem cq_X6_45 : mCpO mD "RingedLightsModel" (2, 124, 156, 2, 99) := ⟨rfl, rfl, Or.inl (mGd_in (i := 1397) (by decide +kernel) rfl)⟩
theorem cq_X6_46 : mCpO mD "RingedLightsModel" (2, 127, 187, 1, 6) := ⟨rfl, rfl, Or.inl (mGd_in (i := 1535) (by decide +kernel) rfl)⟩
theorem cq_X6_47 : mCpO mD "RingedLightsModel" (2, 134, 178, 2, 6) := ⟨rfl, rfl, Or.inl (mGd_in (i := 1547) (by decide +kernel) rfl)⟩
theorem cq_X6_48 : mCpO mD "RingedLightsModel" (2, 137, 180, 2, 6) := ⟨rfl, rfl, Or.inl (mGd_in (i := 1381) (by decide +kernel) rfl)⟩
theorem cq_X6_49 : mCpO mD "RingedLightsModel" (2, 140, 189, 2, 6) := ⟨rfl, rfl, Or.inl (mGd_in (i := 1543) (by decide +kernel) rfl)⟩
theorem cq_X6_50 : mCpO mD "RingedLightsModel" (2, 143, 191, 2, 6) := ⟨rfl, rfl, Or.inl (mGd_in (i := 1393) (by decide +kernel) rfl)⟩
theorem cq_X6_51 : mCpO mD "RingedLightsModel" (2, 146, 192, 2, 6) := ⟨rfl, rfl, Or.inl (mGd_in (i := 1389) (by decide +kernel) rfl)⟩
theorem cq_X6_52 : mCpO mD "RingedLightsModel" (2, 149, 193, 2, 6) := ⟨rfl, rfl, Or.inl (mGd_in (i := 1400) (by decide +kernel) rfl)⟩
theorem cq_X6_53 : mCpO mD "RingedLightsModel" (2, 152, 194, 2, 6) := ⟨rfl, rfl, Or.inl (mGd_in (i := 1385) (by decide +kernel) rfl)⟩
theorem cq_X6_54 : mCpO mD "RingedLightsModel" (2, 155, 184, 3, 6) := ⟨rfl, rfl, Or.inl (mGd_in (i := 1587) (by decide +kernel) rfl)⟩
theorem cq_X6_55 : mCpO mD "RingedLightsModel" (2, 158, 182, 3, 6) := ⟨rfl, rfl, Or.inl (mGd_in (i := 1595) (by decide +kernel) rfl)⟩
theorem cq_X6_56 : mCpO mD "RingedLightsModel" (2, 161, 197, 1, 6) := ⟨rfl, rfl, Or.inl (mGd_in (i := 1448) (by decide +kernel) rfl)⟩
theorem cq_X6_57 : mCpO mD "RingedLightsModel" (2, 164, 171, 2, 6) := ⟨rfl, rfl, Or.inl (mGd_in (i := 1349) (by decide +kernel) rfl)⟩
theorem cq_X6_58 : mCpO mD "RingedLightsModel" (2, 167, 202, 1, 6) := ⟨rfl, rfl, Or.inl (mGd_in (i := 1559) (by decide +kernel) rfl)⟩
theorem cq_X6_59 : mCpO mD "RingedLightsModel" (2, 170, 186, 1, 6) := ⟨rfl, rfl, Or.inl (mGd_in (i := 1520) (by decide +kernel) rfl)⟩
theorem cq_X6_60 : mCpO mD "RingedLightsModel" (2, 173, 188, 1, 6) := ⟨rfl, rfl, Or.inl (mGd_in (i := 1531) (by decide +kernel) rfl)⟩
theorem cq_X6_61 : mCpO mD "RingedLightsModel" (2, 176, 190, 2, 6) := ⟨rfl, rfl, Or.inl (mGd_in (i := 1539) (by decide +kernel) rfl)⟩
theorem cq_X6_62 : mCpO mD "RingedLightsModel" (2, 179, 208, 1, 6) := ⟨rfl, rfl, Or.inl (mGd_in (i := 1551) (by decide +kernel) rfl)⟩
theorem cq_X6_63 : mCpO mD "RingedLightsModel" (2, 182, 195, 1, 6) := ⟨rfl, rfl, Or.inl (mGd_in (i := 1583) (by decide +kernel) rfl)⟩
theorem cq_X6_64 : mCpO mD "RingedLightsModel" (2, 185, 196, 1, 6) := ⟨rfl, rfl, Or.inl (mGd_in (i := 1591) (by decide +kernel) rfl)⟩
theorem cq_X6_65 : mCpO mD "RingedLightsModel" (2, 188, 209, 1, 6) := ⟨rfl, rfl, Or.inl (mGd_in (i := 1599) (by decide +kernel) rfl)⟩
theorem cq_X6_66 : mCpO mD "RingedLightsModel" (2, 191, 198, 1, 6) := ⟨rfl, rfl, Or.inl (mGd_in (i := 1603) (by decide +kernel) rfl)⟩
theorem cq_X6_67 : mCpO mD "RingedLightsModel" (2, 194, 199, 1, 6) := ⟨rfl, rfl, Or.inl (mGd_in (i := 1440) (by decide +kernel) rfl)⟩
theorem cq_X6_68 : mCpO mD "RingedLightsModel" (2, 197, 201, 3, 6) := ⟨rfl, rfl, Or.inl (mGd_in (i := 1428) (by decide +kernel) rfl)⟩
theorem cq_X6_69 : mCpO mD "RingedLightsModel" (2, 200, 203, 2, 6) := ⟨rfl, rfl, Or.inl (mGd_in (i := 1567) (by decide +kernel) rfl)⟩
theorem cq_X6_70 : mCpO mD "RingedLightsModel" (2, 203, 206, 2, 6) := ⟨rfl, rfl, Or.inl (mGd_in (i := 1575) (by decide +kernel) rfl)⟩
theorem cq_X6_71 : mCpO mD "RingedLightsModel" (2, 210, 205, 1, 6) := ⟨rfl, rfl, Or.inl (mGd_in (i := 1555) (by decide +kernel) rfl)⟩
theorem cq_X6_72 : mCpO mD "RingedLightsModel" (2, 213, 204, 2, 6) := ⟨rfl, rfl, Or.inl (mGd_in (i := 1563) (by decide +kernel) rfl)⟩
theorem cq_X6_73 : mCpO mD "RingedLightsModel" (2, 216, 207, 2, 6) := ⟨rfl, rfl, Or.inl (mGd_in (i := 1571) (by decide +kernel) rfl)⟩
theorem cq_X6_74 : mCpO mD "RingedLightsModel" (2, 222, 211, 2, 6) := ⟨rfl, rfl, Or.inl (mGd_in (i := 1248) (by decide +kernel) rfl)⟩
theorem cq_X6_75 : mCpO mD "RingedLightsModel" (2, 231, 212, 2, 6) := ⟨rfl, rfl, Or.inl (mGd_in (i := 1271) (by decide +kernel) rfl)⟩
theorem cq_X6_76 : mCpO mD "RingedLightsModel" (2, 240, 213, 1, 99) := ⟨rfl, rfl, Or.inl (mGd_in (i := 1275) (by decide +kernel) rfl)⟩
theorem cq_X6_77 : mCpO mD "RingedLightsModel" (2, 243, 214, 1, 99) := ⟨rfl, rfl, Or.inl (mGd_in (i := 1278) (by decide +kernel) rfl)⟩
theorem cq_X6_78 : mCpO mD "RingedLightsModel" (2, 251, 278, 1, 7) := ⟨rfl, rfl, Or.inl (mGd_in (i := 1291) (by decide +kernel) rfl)⟩
theorem cq_X6_79 : mCpO mD "RingedLightsModel" (2, 256, 279, 2, 7) := ⟨rfl, rfl, Or.inl (mGd_in (i := 1292) (by decide +kernel) rfl)⟩
theorem cq_X6_80 : mCpO mD "RingedLightsModel" (2, 266, 215, 1, 6) := ⟨rfl, rfl, Or.inl (mGd_in (i := 1267) (by decide +kernel) rfl)⟩
theorem cq_X6_81 : mCpO mD "RingedLightsModel" (2, 269, 217, 2, 6) := ⟨rfl, rfl, Or.inl (mGd_in (i := 1297) (by decide +kernel) rfl)⟩
theorem cq_X6_82 : mCpO mD "RingedLightsModel" (2, 272, 154, 3, 99) := ⟨rfl, rfl, Or.inl (mGd_in (i := 1256) (by decide +kernel) rfl)⟩
theorem cq_X6_83 : mCpO mD "RingedLightsModel" (2, 279, 218, 1, 6) := ⟨rfl, rfl, Or.inl (mGd_in (i := 1305) (by decide +kernel) rfl)⟩
theorem cq_X6_84 : mCpO mD "RingedLightsModel" (2, 283, 216, 1, 6) := ⟨rfl, rfl, Or.inl (mGd_in (i := 1286) (by decide +kernel) rfl)⟩
theorem cq_X6_85 : mCpO mD "RingedLightsModel" (2, 286, 219, 3, 6) := ⟨rfl, rfl, Or.inl (mGd_in (i := 1301) (by decide +kernel) rfl)⟩
theorem cq_X6_86 : mCpO mD "RingedLightsModel" (2, 289, 221, 1, 99) := ⟨rfl, rfl, Or.inl (mGd_in (i := 1316) (by decide +kernel) rfl)⟩
theorem cq_X6_87 : mCpO mD "RingedLightsModel" (2, 292, 222, 1, 99) := ⟨rfl, rfl, Or.inl (mGd_in (i := 1319) (by decide +kernel) rfl)⟩
theorem cq_X6_88 : mCpO mD "RingedLightsModel" (2, 295, 220, 2, 6) := ⟨rfl, rfl, Or.inl (mGd_in (i := 1341) (by decide +kernel) rfl)⟩
theorem cq_X6_89 : mCpO mD "RingedLightsModel" (2, 298, 224, 1, 6) := ⟨rfl, rfl, Or.inl (mGd_in (i := 1345) (by decide +kernel) rfl)⟩
theorem cq_X6_90 : mCpO mD "RingedLightsModel" (2, 304, 225, 3, 6) := ⟨rfl, rfl, Or.inl (mGd_in (i := 1337) (by decide +kernel) rfl)⟩
theorem cq_X6_91 : mCpO mD "RingedLightsModel" (2, 307, 227, 1, 99) := ⟨rfl, rfl, Or.inl (mGd_in (i := 1330) (by decide +kernel) rfl)⟩
theorem cq_X6_92 : mCpO mD "RingedLightsModel" (2, 310, 223, 1, 6) := ⟨rfl, rfl, Or.inl (mGd_in (i := 1293) (by decide +kernel) rfl)⟩
theorem cq_X6_93 : mCpO mD "RingedLightsModel" (2, 313, 228, 2, 6) := ⟨rfl, rfl, Or.inl (mGd_in (i := 1326) (by decide +kernel) rfl)⟩
theorem cq_X6_94 : mCpO mD "RingedLightsModel" (2, 316, 226, 1, 6) := ⟨rfl, rfl, Or.inl (mGd_in (i := 1333) (by decide +kernel) rfl)⟩
theorem cq_X6_95 : mCpO mD "RingedLightsModel" (2, 319, 151, 2, 6) := ⟨rfl, rfl, Or.inl (mGd_in (i := 1259) (by decide +kernel) rfl)⟩
theorem cq_X6_96 : mCpO mD "RingedLightsModel" (2, 322, 160, 3, 6) := ⟨rfl, rfl, Or.inl (mGd_in (i := 1263) (by decide +kernel) rfl)⟩
theorem cq_X6_97 : mCpO mD "RingedLightsModel" (2, 325, 229, 1, 6) := ⟨rfl, rfl, Or.inl (mGd_in (i := 1282) (by decide +kernel) rfl)⟩
theorem cq_X6_98 : mCpO mD "RingedLightsModel" (2, 328, 153, 2, 6) := ⟨rfl, rfl, Or.inl (mGd_in (i := 1361) (by decide +kernel) rfl)⟩
theorem cq_X6_99 : mCpO mD "RingedLightsModel" (2, 334, 167, 2, 6) := ⟨rfl, rfl, Or.inl (mGd_in (i := 1408) (by decide +kernel) rfl)⟩
theorem cq_X6_100 : mCpO mD "RingedLightsModel" (2, 337, 234, 2, 6) := ⟨rfl, rfl, Or.inl (mGd_in (i := 1412) (by decide +kernel) rfl)⟩
theorem cq_X6_101 : mCpO mD "RingedLightsModel" (2, 340, 239, 1, 6) := ⟨rfl, rfl, Or.inl (mGd_in (i := 1436) (by decide +kernel) rfl)⟩
theorem cq_X6_102 : mCpO mD "RingedLightsModel" (2, 343, 238, 1, 6) := ⟨rfl, rfl, Or.inl (mGd_in (i := 1444) (by decide +kernel) rfl)⟩
theorem cq_X6_103 : mCpO mD "RingedLightsModel" (2, 346, 152, 2, 6) := ⟨rfl, rfl, Or.inl (mGd_in (i := 1468) (by decide +kernel) rfl)⟩
theorem cq_X6_104 : mCpO mD "RingedLightsModel" (2, 349, 244, 2, 6) := ⟨rfl, rfl, Or.inl (mGd_in (i := 1472) (by decide +kernel) rfl)⟩
theorem cq_X6_105 : mCpO mD "RingedLightsModel" (2, 352, 247, 3, 6) := ⟨rfl, rfl, Or.inl (mGd_in (i := 1484) (by decide +kernel) rfl)⟩
theorem cq_X6_106 : mCpO mD "RingedLightsModel" (2, 356, 250, 2, 6) := ⟨rfl, rfl, Or.inl (mGd_in (i := 1496) (by decide +kernel) rfl)⟩
theorem cq_X6_107 : mCpO mD "RingedLightsModel" (2, 359, 200, 2, 6) := ⟨rfl, rfl, Or.inl (mGd_in (i := 1516) (by decide +kernel) rfl)⟩
theorem cq_X6_108 : mCpO mD "RingedLightsModel" (2, 363, 259, 2, 6) := ⟨rfl, rfl, Or.inl (mGd_in (i := 1627) (by decide +kernel) rfl)⟩
theorem cq_X6_109 : mCpO mD "RingedLightsModel" (2, 366, 260, 2, 6) := ⟨rfl, rfl, Or.inl (mGd_in (i := 1631) (by decide +kernel) rfl)⟩
theorem cq_X6_110 : mCpO mD "RingedLightsModel" (2, 369, 262, 2, 6) := ⟨rfl, rfl, Or.inl (mGd_in (i := 1647) (by decide +kernel) rfl)⟩
theorem cq_X6_111 : mCpO mD "RingedLightsModel" (2, 372, 263, 3, 6) := ⟨rfl, rfl, Or.inl (mGd_in (i := 1643) (by decide +kernel) rfl)⟩
theorem cq_X6_112 : mCpO mD "RingedLightsModel" (2, 375, 264, 2, 6) := ⟨rfl, rfl, Or.inl (mGd_in (i := 1651) (by decide +kernel) rfl)⟩
theorem cq_X6_113 : mCpO mD "RingedLightsModel" (2, 378, 265, 3, 6) := ⟨rfl, rfl, Or.inl (mGd_in (i := 1639) (by decide +kernel) rfl)⟩
theorem cq_X6_114 : mCpO mD "RingedLightsModel" (2, 381, 271, 2, 6) := ⟨rfl, rfl, Or.inl (mGd_in (i := 1675) (by decide +kernel) rfl)⟩
theorem cq_X6_115 : mCpO mD "RingedLightsModel" (3, 249, 17, 0, 0) := ⟨" min pass max yellow clear walk halt recall split rate phase cycle offset break track dwell cut ", by decide +kernel⟩
theorem cq_X6_116 : mCpO mD "RingedLightsModel" (4, 110, 9301, 0, 0) := mGd_in (i := 1528) (by decide +kernel) rfl
theorem cq_X6_117 : mCpO mD "RingedLightsModel" (4, 112, 49297, 0, 0) := mGd_in (i := 1529) (by decide +kernel) rfl
theorem cq_X6_118 : mCpO mD "RingedLightsModel" (4, 114, 233280, 0, 0) := mGd_in (i := 1530) (by decide +kernel) rfl
theorem co_X6 : ∀ q ∈ cp_X6, mCpO mD "RingedLightsModel" q := List.forall_mem_cons.mpr ⟨cq_X6_0, List.forall_mem_cons.mpr ⟨cq_X6_1, List.forall_mem_cons.mpr ⟨cq_X6_2, List.forall_mem_cons.mpr ⟨cq_X6_3, List.forall_mem_cons.mpr ⟨cq_X6_4, List.forall_mem_cons.mpr ⟨cq_X6_5, List.forall_mem_cons.mpr ⟨cq_X6_6, List.forall_mem_cons.mpr ⟨cq_X6_7, List.forall_mem_cons.mpr ⟨cq_X6_8, List.forall_mem_cons.mpr ⟨cq_X6_9, List.forall_mem_cons.mpr ⟨cq_X6_10, List.forall_mem_cons.mpr ⟨cq_X6_11, List.forall_mem_cons.mpr ⟨cq_X6_12, List.forall_mem_cons.mpr ⟨cq_X6_13, List.forall_mem_cons.mpr ⟨cq_X6_14, List.forall_mem_cons.mpr ⟨cq_X6_15, List.forall_mem_cons.mpr ⟨cq_X6_16, List.forall_mem_cons.mpr ⟨cq_X6_17, List.forall_mem_cons.mpr ⟨cq_X6_18, List.forall_mem_cons.mpr ⟨cq_X6_19, List.forall_mem_cons.mpr ⟨cq_X6_20, List.forall_mem_cons.mpr ⟨cq_X6_21, List.forall_mem_cons.mpr ⟨cq_X6_22, List.forall_mem_cons.mpr ⟨cq_X6_23, List.forall_mem_cons.mpr ⟨cq_X6_24, List.forall_mem_cons.mpr ⟨cq_X6_25, List.forall_mem_cons.mpr ⟨cq_X6_26, List.forall_mem_cons.mpr ⟨cq_X6_27, List.forall_mem_cons.mpr ⟨cq_X6_28, List.forall_mem_cons.mpr ⟨cq_X6_29, List.forall_mem_cons.mpr ⟨cq_X6_30, List.forall_mem_cons.mpr ⟨cq_X6_31, List.forall_mem_cons.mpr ⟨cq_X6_32, List.forall_mem_cons.mpr ⟨cq_X6_33, List.forall_mem_cons.mpr ⟨cq_X6_34, List.forall_mem_cons.mpr ⟨cq_X6_35, List.forall_mem_cons.mpr ⟨cq_X6_36, List.forall_mem_cons.mpr ⟨cq_X6_37, List.forall_mem_cons.mpr ⟨cq_X6_38, List.forall_mem_cons.mpr ⟨cq_X6_39, List.forall_mem_cons.mpr ⟨cq_X6_40, List.forall_mem_cons.mpr ⟨cq_X6_41, List.forall_mem_cons.mpr ⟨cq_X6_42, List.forall_mem_cons.mpr ⟨cq_X6_43, List.forall_mem_cons.mpr ⟨cq_X6_44, List.forall_mem_cons.mpr ⟨cq_X6_45, List.forall_mem_cons.mpr ⟨cq_X6_46, List.forall_mem_cons.mpr ⟨cq_X6_47, List.forall_mem_cons.mpr ⟨cq_X6_48, List.forall_mem_cons.mpr ⟨cq_X6_49, List.forall_mem_cons.mpr ⟨cq_X6_50, List.forall_mem_cons.mpr ⟨cq_X6_51, List.forall_mem_cons.mpr ⟨cq_X6_52, List.forall_mem_cons.mpr ⟨cq_X6_53, List.forall_mem_cons.mpr ⟨cq_X6_54, List.forall_mem_cons.mpr ⟨cq_X6_55, List.forall_mem_cons.mpr ⟨cq_X6_56, List.forall_mem_cons.mpr ⟨cq_X6_57, List.forall_mem_cons.mpr ⟨cq_X6_58, List.forall_mem_cons.mpr ⟨cq_X6_59, List.forall_mem_cons.mpr ⟨cq_X6_60, List.forall_mem_cons.mpr ⟨cq_X6_61, List.forall_mem_cons.mpr ⟨cq_X6_62, List.forall_mem_cons.mpr ⟨cq_X6_63, List.forall_mem_cons.mpr ⟨cq_X6_64, List.forall_mem_cons.mpr ⟨cq_X6_65, List.forall_mem_cons.mpr ⟨cq_X6_66, List.forall_mem_cons.mpr ⟨cq_X6_67, List.forall_mem_cons.mpr ⟨cq_X6_68, List.forall_mem_cons.mpr ⟨cq_X6_69, List.forall_mem_cons.mpr ⟨cq_X6_70, List.forall_mem_cons.mpr ⟨cq_X6_71, List.forall_mem_cons.mpr ⟨cq_X6_72, List.forall_mem_cons.mpr ⟨cq_X6_73, List.forall_mem_cons.mpr ⟨cq_X6_74, List.forall_mem_cons.mpr ⟨cq_X6_75, List.forall_mem_cons.mpr ⟨cq_X6_76, List.forall_mem_cons.mpr ⟨cq_X6_77, List.forall_mem_cons.mpr ⟨cq_X6_78, List.forall_mem_cons.mpr ⟨cq_X6_79, List.forall_mem_cons.mpr ⟨cq_X6_80, List.forall_mem_cons.mpr ⟨cq_X6_81, List.forall_mem_cons.mpr ⟨cq_X6_82, List.forall_mem_cons.mpr ⟨cq_X6_83, List.forall_mem_cons.mpr ⟨cq_X6_84, List.forall_mem_cons.mpr ⟨cq_X6_85, List.forall_mem_cons.mpr ⟨cq_X6_86, List.forall_mem_cons.mpr ⟨cq_X6_87, List.forall_mem_cons.mpr ⟨cq_X6_88, List.forall_mem_cons.mpr ⟨cq_X6_89, List.forall_mem_cons.mpr ⟨cq_X6_90, List.forall_mem_cons.mpr ⟨cq_X6_91, List.forall_mem_cons.mpr ⟨cq_X6_92, List.forall_mem_cons.mpr ⟨cq_X6_93, List.forall_mem_cons.mpr ⟨cq_X6_94, List.forall_mem_cons.mpr ⟨cq_X6_95, List.forall_mem_cons.mpr ⟨cq_X6_96, List.forall_mem_cons.mpr ⟨cq_X6_97, List.forall_mem_cons.mpr ⟨cq_X6_98, List.forall_mem_cons.mpr ⟨cq_X6_99, List.forall_mem_cons.mpr ⟨cq_X6_100, List.forall_mem_cons.mpr ⟨cq_X6_101, List.forall_mem_cons.mpr ⟨cq_X6_102, List.forall_mem_cons.mpr ⟨cq_X6_103, List.forall_mem_cons.mpr ⟨cq_X6_104, List.forall_mem_cons.mpr ⟨cq_X6_105, List.forall_mem_cons.mpr ⟨cq_X6_106, List.forall_mem_cons.mpr ⟨cq_X6_107, List.forall_mem_cons.mpr ⟨cq_X6_108, List.forall_mem_cons.mpr ⟨cq_X6_109, List.forall_mem_cons.mpr ⟨cq_X6_110, List.forall_mem_cons.mpr ⟨cq_X6_111, List.forall_mem_cons.mpr ⟨cq_X6_112, List.forall_mem_cons.mpr ⟨cq_X6_113, List.forall_mem_cons.mpr ⟨cq_X6_114, List.forall_mem_cons.mpr ⟨cq_X6_115, List.forall_mem_cons.mpr ⟨cq_X6_116, List.forall_mem_cons.mpr ⟨cq_X6_117, List.forall_mem_cons.mpr ⟨cq_X6_118, fun _ h => absurd h List.not_mem_nil⟩⟩⟩⟩⟩⟩⟩⟩⟩⟩⟩⟩⟩⟩⟩⟩⟩⟩⟩⟩⟩⟩⟩⟩⟩⟩⟩⟩⟩⟩⟩⟩⟩⟩⟩⟩⟩⟩⟩⟩⟩⟩⟩⟩⟩⟩⟩⟩⟩⟩⟩⟩⟩⟩⟩⟩⟩⟩⟩⟩⟩⟩⟩⟩⟩⟩⟩⟩⟩⟩⟩⟩⟩⟩⟩⟩⟩⟩⟩⟩⟩⟩⟩⟩⟩⟩⟩⟩⟩⟩⟩⟩⟩⟩⟩⟩⟩⟩⟩⟩⟩⟩⟩⟩⟩⟩⟩⟩⟩⟩⟩⟩⟩⟩⟩⟩⟩⟩⟩
theorem cq_J0_0 : mCpO mD "java/lang/String" (0, 9, 7, 0, 0) := Or.inl ⟨rfl, rfl, mGd_in (i := 1687) (by decide +kernel) rfl⟩
theorem cq_J0_1 : mCpO mD "java/lang/String" (0, 15, 7, 1, 0) := Or.inr (Or.inl ⟨rfl, rfl, mGd_in (i := 1688) (by decide +kernel) rfl⟩)
theorem cq_J0_2 : mCpO mD "java/lang/String" (1, 38, 1, 0, 0) := Or.inr (Or.inl ⟨rfl, mGd_in (i := 467) (by decide +kernel) rfl⟩)
theorem cq_J0_3 : mCpO mD "java/lang/String" (1, 1053, 2, 0, 0) := Or.inr (Or.inr ⟨rfl, mGd_in (i := 483) (by decide +kernel) rfl⟩)
theorem cq_J0_4 : mCpO mD "java/lang/String" (2, 335, 280, 1, 7) := ⟨rfl, rfl, Or.inl (mGd_in (i := 463) (by decide +kernel) rfl)⟩
theorem cq_J0_5 : mCpO mD "java/lang/String" (2, 492, 281, 1, 7) := ⟨rfl, rfl, Or.inl (mGd_in (i := 473) (by decide +kernel) rfl)⟩
theorem cq_J0_6 : mCpO mD "java/lang/String" (2, 495, 283, 2, 99) := ⟨rfl, rfl, Or.inl (mGd_in (i := 477) (by decide +kernel) rfl)⟩
theorem cq_J0_7 : mCpO mD "java/lang/String" (2, 1059, 284, 3, 99) := ⟨rfl, rfl, Or.inl (mGd_in (i := 485) (by decide +kernel) rfl)⟩
theorem co_J0 : ∀ q ∈ cp_J0, mCpO mD "java/lang/String" q := List.forall_mem_cons.mpr ⟨cq_J0_0, List.forall_mem_cons.mpr ⟨cq_J0_1, List.forall_mem_cons.mpr ⟨cq_J0_2, List.forall_mem_cons.mpr ⟨cq_J0_3, List.forall_mem_cons.mpr ⟨cq_J0_4, List.forall_mem_cons.mpr ⟨cq_J0_5, List.forall_mem_cons.mpr ⟨cq_J0_6, List.forall_mem_cons.mpr ⟨cq_J0_7, fun _ h => absurd h List.not_mem_nil⟩⟩⟩⟩⟩⟩⟩⟩
theorem cq_J1_0 : mCpO mD "java/lang/StringLatin1" (2, 9, 282, 2, 99) := ⟨rfl, rfl, Or.inl (mGd_in (i := 480) (by decide +kernel) rfl)⟩
theorem co_J1 : ∀ q ∈ cp_J1, mCpO mD "java/lang/StringLatin1" q := List.forall_mem_cons.mpr ⟨cq_J1_0, fun _ h => absurd h List.not_mem_nil⟩
theorem cq_L_0 : mCpO mD "RingedLightsLaw" (2, 13, 96, 1, 5) := ⟨rfl, rfl, Or.inl (mGd_in (i := 400) (by decide +kernel) rfl)⟩
theorem cq_L_1 : mCpO mD "RingedLightsLaw" (2, 17, 150, 1, 6) := ⟨rfl, rfl, Or.inl (mGd_in (i := 1240) (by decide +kernel) rfl)⟩
theorem cq_L_2 : mCpO mD "RingedLightsLaw" (2, 18, 97, 6, 5) := ⟨rfl, rfl, Or.inl (mGd_in (i := 404) (by decide +kernel) rfl)⟩
theorem cq_L_3 : mCpO mD "RingedLightsLaw" (2, 22, 210, 6, 6) := ⟨rfl, rfl, Or.inl (mGd_in (i := 1244) (by decide +kernel) rfl)⟩
theorem cq_L_4 : mCpO mD "RingedLightsLaw" (2, 23, 98, 2, 5) := ⟨rfl, rfl, Or.inl (mGd_in (i := 412) (by decide +kernel) rfl)⟩
theorem cq_L_5 : mCpO mD "RingedLightsLaw" (2, 27, 230, 2, 6) := ⟨rfl, rfl, Or.inl (mGd_in (i := 1252) (by decide +kernel) rfl)⟩
theorem cq_L_6 : mCpO mD "RingedLightsLaw" (2, 28, 99, 2, 5) := ⟨rfl, rfl, Or.inl (mGd_in (i := 677) (by decide +kernel) rfl)⟩
theorem cq_L_7 : mCpO mD "RingedLightsLaw" (2, 31, 231, 2, 6) := ⟨rfl, rfl, Or.inl (mGd_in (i := 1365) (by decide +kernel) rfl)⟩
theorem cq_L_8 : mCpO mD "RingedLightsLaw" (2, 32, 100, 2, 5) := ⟨rfl, rfl, Or.inl (mGd_in (i := 681) (by decide +kernel) rfl)⟩
theorem cq_L_9 : mCpO mD "RingedLightsLaw" (2, 35, 232, 2, 6) := ⟨rfl, rfl, Or.inl (mGd_in (i := 1369) (by decide +kernel) rfl)⟩
theorem cq_L_10 : mCpO mD "RingedLightsLaw" (2, 36, 101, 3, 5) := ⟨rfl, rfl, Or.inl (mGd_in (i := 685) (by decide +kernel) rfl)⟩
theorem cq_L_11 : mCpO mD "RingedLightsLaw" (2, 40, 233, 3, 6) := ⟨rfl, rfl, Or.inl (mGd_in (i := 1373) (by decide +kernel) rfl)⟩
theorem cq_L_12 : mCpO mD "RingedLightsLaw" (2, 41, 102, 3, 5) := ⟨rfl, rfl, Or.inl (mGd_in (i := 722) (by decide +kernel) rfl)⟩
theorem cq_L_13 : mCpO mD "RingedLightsLaw" (2, 44, 235, 3, 6) := ⟨rfl, rfl, Or.inl (mGd_in (i := 1404) (by decide +kernel) rfl)⟩
theorem cq_L_14 : mCpO mD "RingedLightsLaw" (2, 45, 103, 3, 5) := ⟨rfl, rfl, Or.inl (mGd_in (i := 749) (by decide +kernel) rfl)⟩
theorem cq_L_15 : mCpO mD "RingedLightsLaw" (2, 48, 236, 3, 6) := ⟨rfl, rfl, Or.inl (mGd_in (i := 1420) (by decide +kernel) rfl)⟩
theorem cq_L_16 : mCpO mD "RingedLightsLaw" (2, 49, 104, 3, 5) := ⟨rfl, rfl, Or.inl (mGd_in (i := 754) (by decide +kernel) rfl)⟩
theorem cq_L_17 : mCpO mD "RingedLightsLaw" (2, 52, 237, 3, 6) := ⟨rfl, rfl, Or.inl (mGd_in (i := 1424) (by decide +kernel) rfl)⟩
theorem cq_L_18 : mCpO mD "RingedLightsLaw" (2, 53, 105, 2, 5) := ⟨rfl, rfl, Or.inl (mGd_in (i := 764) (by decide +kernel) rfl)⟩
theorem cq_L_19 : mCpO mD "RingedLightsLaw" (2, 56, 240, 2, 6) := ⟨rfl, rfl, Or.inl (mGd_in (i := 1432) (by decide +kernel) rfl)⟩
theorem cq_L_20 : mCpO mD "RingedLightsLaw" (2, 57, 106, 3, 5) := ⟨rfl, rfl, Or.inl (mGd_in (i := 792) (by decide +kernel) rfl)⟩
theorem cq_L_21 : mCpO mD "RingedLightsLaw" (2, 60, 241, 3, 6) := ⟨rfl, rfl, Or.inl (mGd_in (i := 1452) (by decide +kernel) rfl)⟩
theorem cq_L_22 : mCpO mD "RingedLightsLaw" (2, 61, 107, 4, 5) := ⟨rfl, rfl, Or.inl (mGd_in (i := 802) (by decide +kernel) rfl)⟩
theorem cq_L_23 : mCpO mD "RingedLightsLaw" (2, 65, 242, 4, 6) := ⟨rfl, rfl, Or.inl (mGd_in (i := 1456) (by decide +kernel) rfl)⟩
theorem cq_L_24 : mCpO mD "RingedLightsLaw" (2, 66, 108, 3, 5) := ⟨rfl, rfl, Or.inl (mGd_in (i := 810) (by decide +kernel) rfl)⟩
theorem cq_L_25 : mCpO mD "RingedLightsLaw" (2, 69, 243, 3, 6) := ⟨rfl, rfl, Or.inl (mGd_in (i := 1460) (by decide +kernel) rfl)⟩
theorem cq_L_26 : mCpO mD "RingedLightsLaw" (2, 70, 109, 3, 5) := ⟨rfl, rfl, Or.inl (mGd_in (i := 822) (by decide +kernel) rfl)⟩
theorem cq_L_27 : mCpO mD "RingedLightsLaw" (2, 74, 245, 3, 6) := ⟨rfl, rfl, Or.inl (mGd_in (i := 1464) (by decide +kernel) rfl)⟩
theorem cq_L_28 : mCpO mD "RingedLightsLaw" (2, 75, 110, 3, 5) := ⟨rfl, rfl, Or.inl (mGd_in (i := 842) (by decide +kernel) rfl)⟩
theorem cq_L_29 : mCpO mD "RingedLightsLaw" (2, 78, 246, 3, 6) := ⟨rfl, rfl, Or.inl (mGd_in (i := 1476) (by decide +kernel) rfl)⟩
theorem cq_L_30 : mCpO mD "RingedLightsLaw" (2, 79, 111, 2, 5) := ⟨rfl, rfl, Or.inl (mGd_in (i := 852) (by decide +kernel) rfl)⟩
theorem cq_L_31 : mCpO mD "RingedLightsLaw" (2, 83, 248, 2, 6) := ⟨rfl, rfl, Or.inl (mGd_in (i := 1480) (by decide +kernel) rfl)⟩
theorem cq_L_32 : mCpO mD "RingedLightsLaw" (2, 84, 112, 2, 5) := ⟨rfl, rfl, Or.inl (mGd_in (i := 856) (by decide +kernel) rfl)⟩
theorem cq_L_33 : mCpO mD "RingedLightsLaw" (2, 87, 249, 2, 6) := ⟨rfl, rfl, Or.inl (mGd_in (i := 1488) (by decide +kernel) rfl)⟩
theorem cq_L_34 : mCpO mD "RingedLightsLaw" (2, 88, 113, 7, 5) := ⟨rfl, rfl, Or.inl (mGd_in (i := 860) (by decide +kernel) rfl)⟩
theorem cq_L_35 : mCpO mD "RingedLightsLaw" (2, 92, 251, 7, 6) := ⟨rfl, rfl, Or.inl (mGd_in (i := 1492) (by decide +kernel) rfl)⟩
theorem cq_L_36 : mCpO mD "RingedLightsLaw" (2, 93, 114, 3, 5) := ⟨rfl, rfl, Or.inl (mGd_in (i := 870) (by decide +kernel) rfl)⟩
theorem cq_L_37 : mCpO mD "RingedLightsLaw" (2, 96, 252, 3, 6) := ⟨rfl, rfl, Or.inl (mGd_in (i := 1500) (by decide +kernel) rfl)⟩
theorem cq_L_38 : mCpO mD "RingedLightsLaw" (2, 97, 115, 1, 5) := ⟨rfl, rfl, Or.inl (mGd_in (i := 875) (by decide +kernel) rfl)⟩
theorem cq_L_39 : mCpO mD "RingedLightsLaw" (2, 101, 253, 1, 6) := ⟨rfl, rfl, Or.inl (mGd_in (i := 1504) (by decide +kernel) rfl)⟩
theorem cq_L_40 : mCpO mD "RingedLightsLaw" (2, 102, 116, 2, 5) := ⟨rfl, rfl, Or.inl (mGd_in (i := 885) (by decide +kernel) rfl)⟩
theorem cq_L_41 : mCpO mD "RingedLightsLaw" (2, 105, 254, 2, 6) := ⟨rfl, rfl, Or.inl (mGd_in (i := 1512) (by decide +kernel) rfl)⟩
theorem cq_L_42 : mCpO mD "RingedLightsLaw" (2, 106, 117, 3, 5) := ⟨rfl, rfl, Or.inl (mGd_in (i := 1016) (by decide +kernel) rfl)⟩
theorem cq_L_43 : mCpO mD "RingedLightsLaw" (2, 109, 255, 3, 6) := ⟨rfl, rfl, Or.inl (mGd_in (i := 1607) (by decide +kernel) rfl)⟩
theorem cq_L_44 : mCpO mD "RingedLightsLaw" (2, 110, 118, 1, 5) := ⟨rfl, rfl, Or.inl (mGd_in (i := 1029) (by decide +kernel) rfl)⟩
theorem cq_L_45 : mCpO mD "RingedLightsLaw" (2, 113, 256, 1, 6) := ⟨rfl, rfl, Or.inl (mGd_in (i := 1611) (by decide +kernel) rfl)⟩
theorem cq_L_46 : mCpO mD "RingedLightsLaw" (2, 114, 119, 1, 5) := ⟨rfl, rfl, Or.inl (mGd_in (i := 1052) (by decide +kernel) rfl)⟩
theorem cq_L_47 : mCpO mD "RingedLightsLaw" (2, 117, 257, 1, 6) := ⟨rfl, rfl, Or.inl (mGd_in (i := 1615) (by decide +kernel) rfl)⟩
theorem cq_L_48 : mCpO mD "RingedLightsLaw" (2, 118, 120, 3, 5) := ⟨rfl, rfl, Or.inl (mGd_in (i := 1056) (by decide +kernel) rfl)⟩
theorem cq_L_49 : mCpO mD "RingedLightsLaw" (2, 121, 258, 3, 6) := ⟨rfl, rfl, Or.inl (mGd_in (i := 1619) (by decide +kernel) rfl)⟩
theorem cq_L_50 : mCpO mD "RingedLightsLaw" (2, 122, 121, 2, 5) := ⟨rfl, rfl, Or.inl (mGd_in (i := 1061) (by decide +kernel) rfl)⟩
theorem cq_L_51 : mCpO mD "RingedLightsLaw" (2, 125, 261, 2, 6) := ⟨rfl, rfl, Or.inl (mGd_in (i := 1623) (by decide +kernel) rfl)⟩
theorem cq_L_52 : mCpO mD "RingedLightsLaw" (2, 126, 122, 2, 5) := ⟨rfl, rfl, Or.inl (mGd_in (i := 1074) (by decide +kernel) rfl)⟩
theorem cq_L_53 : mCpO mD "RingedLightsLaw" (2, 129, 266, 2, 6) := ⟨rfl, rfl, Or.inl (mGd_in (i := 1635) (by decide +kernel) rfl)⟩
theorem cq_L_54 : mCpO mD "RingedLightsLaw" (2, 130, 123, 2, 5) := ⟨rfl, rfl, Or.inl (mGd_in (i := 1091) (by decide +kernel) rfl)⟩
theorem cq_L_55 : mCpO mD "RingedLightsLaw" (2, 133, 267, 2, 6) := ⟨rfl, rfl, Or.inl (mGd_in (i := 1655) (by decide +kernel) rfl)⟩
theorem cq_L_56 : mCpO mD "RingedLightsLaw" (2, 134, 124, 1, 5) := ⟨rfl, rfl, Or.inl (mGd_in (i := 1095) (by decide +kernel) rfl)⟩
theorem cq_L_57 : mCpO mD "RingedLightsLaw" (2, 137, 268, 1, 6) := ⟨rfl, rfl, Or.inl (mGd_in (i := 1659) (by decide +kernel) rfl)⟩
theorem cq_L_58 : mCpO mD "RingedLightsLaw" (2, 138, 125, 1, 5) := ⟨rfl, rfl, Or.inl (mGd_in (i := 1099) (by decide +kernel) rfl)⟩
theorem cq_L_59 : mCpO mD "RingedLightsLaw" (2, 141, 269, 1, 6) := ⟨rfl, rfl, Or.inl (mGd_in (i := 1663) (by decide +kernel) rfl)⟩
theorem cq_L_60 : mCpO mD "RingedLightsLaw" (2, 142, 126, 2, 5) := ⟨rfl, rfl, Or.inl (mGd_in (i := 1103) (by decide +kernel) rfl)⟩
theorem cq_L_61 : mCpO mD "RingedLightsLaw" (2, 145, 270, 2, 6) := ⟨rfl, rfl, Or.inl (mGd_in (i := 1667) (by decide +kernel) rfl)⟩
theorem cq_L_62 : mCpO mD "RingedLightsLaw" (2, 146, 127, 3, 5) := ⟨rfl, rfl, Or.inl (mGd_in (i := 1107) (by decide +kernel) rfl)⟩
theorem cq_L_63 : mCpO mD "RingedLightsLaw" (2, 149, 272, 3, 6) := ⟨rfl, rfl, Or.inl (mGd_in (i := 1671) (by decide +kernel) rfl)⟩
theorem cq_L_64 : mCpO mD "RingedLightsLaw" (2, 150, 128, 3, 5) := ⟨rfl, rfl, Or.inl (mGd_in (i := 1111) (by decide +kernel) rfl)⟩
theorem cq_L_65 : mCpO mD "RingedLightsLaw" (2, 153, 273, 3, 6) := ⟨rfl, rfl, Or.inl (mGd_in (i := 1679) (by decide +kernel) rfl)⟩
theorem cq_L_66 : mCpO mD "RingedLightsLaw" (2, 154, 129, 2, 5) := ⟨rfl, rfl, Or.inl (mGd_in (i := 1115) (by decide +kernel) rfl)⟩
theorem cq_L_67 : mCpO mD "RingedLightsLaw" (2, 157, 274, 2, 6) := ⟨rfl, rfl, Or.inl (mGd_in (i := 1683) (by decide +kernel) rfl)⟩
theorem co_L : ∀ q ∈ cp_L, mCpO mD "RingedLightsLaw" q := List.forall_mem_cons.mpr ⟨cq_L_0, List.forall_mem_cons.mpr ⟨cq_L_1, List.forall_mem_cons.mpr ⟨cq_L_2, List.forall_mem_cons.mpr ⟨cq_L_3, List.forall_mem_cons.mpr ⟨cq_L_4, List.forall_mem_cons.mpr ⟨cq_L_5, List.forall_mem_cons.mpr ⟨cq_L_6, List.forall_mem_cons.mpr ⟨cq_L_7, List.forall_mem_cons.mpr ⟨cq_L_8, List.forall_mem_cons.mpr ⟨cq_L_9, List.forall_mem_cons.mpr ⟨cq_L_10, List.forall_mem_cons.mpr ⟨cq_L_11, List.forall_mem_cons.mpr ⟨cq_L_12, List.forall_mem_cons.mpr ⟨cq_L_13, List.forall_mem_cons.mpr ⟨cq_L_14, List.forall_mem_cons.mpr ⟨cq_L_15, List.forall_mem_cons.mpr ⟨cq_L_16, List.forall_mem_cons.mpr ⟨cq_L_17, List.forall_mem_cons.mpr ⟨cq_L_18, List.forall_mem_cons.mpr ⟨cq_L_19, List.forall_mem_cons.mpr ⟨cq_L_20, List.forall_mem_cons.mpr ⟨cq_L_21, List.forall_mem_cons.mpr ⟨cq_L_22, List.forall_mem_cons.mpr ⟨cq_L_23, List.forall_mem_cons.mpr ⟨cq_L_24, List.forall_mem_cons.mpr ⟨cq_L_25, List.forall_mem_cons.mpr ⟨cq_L_26, List.forall_mem_cons.mpr ⟨cq_L_27, List.forall_mem_cons.mpr ⟨cq_L_28, List.forall_mem_cons.mpr ⟨cq_L_29, List.forall_mem_cons.mpr ⟨cq_L_30, List.forall_mem_cons.mpr ⟨cq_L_31, List.forall_mem_cons.mpr ⟨cq_L_32, List.forall_mem_cons.mpr ⟨cq_L_33, List.forall_mem_cons.mpr ⟨cq_L_34, List.forall_mem_cons.mpr ⟨cq_L_35, List.forall_mem_cons.mpr ⟨cq_L_36, List.forall_mem_cons.mpr ⟨cq_L_37, List.forall_mem_cons.mpr ⟨cq_L_38, List.forall_mem_cons.mpr ⟨cq_L_39, List.forall_mem_cons.mpr ⟨cq_L_40, List.forall_mem_cons.mpr ⟨cq_L_41, List.forall_mem_cons.mpr ⟨cq_L_42, List.forall_mem_cons.mpr ⟨cq_L_43, List.forall_mem_cons.mpr ⟨cq_L_44, List.forall_mem_cons.mpr ⟨cq_L_45, List.forall_mem_cons.mpr ⟨cq_L_46, List.forall_mem_cons.mpr ⟨cq_L_47, List.forall_mem_cons.mpr ⟨cq_L_48, List.forall_mem_cons.mpr ⟨cq_L_49, List.forall_mem_cons.mpr ⟨cq_L_50, List.forall_mem_cons.mpr ⟨cq_L_51, List.forall_mem_cons.mpr ⟨cq_L_52, List.forall_mem_cons.mpr ⟨cq_L_53, List.forall_mem_cons.mpr ⟨cq_L_54, List.forall_mem_cons.mpr ⟨cq_L_55, List.forall_mem_cons.mpr ⟨cq_L_56, List.forall_mem_cons.mpr ⟨cq_L_57, List.forall_mem_cons.mpr ⟨cq_L_58, List.forall_mem_cons.mpr ⟨cq_L_59, List.forall_mem_cons.mpr ⟨cq_L_60, List.forall_mem_cons.mpr ⟨cq_L_61, List.forall_mem_cons.mpr ⟨cq_L_62, List.forall_mem_cons.mpr ⟨cq_L_63, List.forall_mem_cons.mpr ⟨cq_L_64, List.forall_mem_cons.mpr ⟨cq_L_65, List.forall_mem_cons.mpr ⟨cq_L_66, List.forall_mem_cons.mpr ⟨cq_L_67, fun _ h => absurd h List.not_mem_nil⟩⟩⟩⟩⟩⟩⟩⟩⟩⟩⟩⟩⟩⟩⟩⟩⟩⟩⟩⟩⟩⟩⟩⟩⟩⟩⟩⟩⟩⟩⟩⟩⟩⟩⟩⟩⟩⟩⟩⟩⟩⟩⟩⟩⟩⟩⟩⟩⟩⟩⟩⟩⟩⟩⟩⟩⟩⟩⟩⟩⟩⟩⟩⟩⟩⟩⟩⟩
theorem co_J9 : ∀ q ∈ cp_J9, mCpO mD "java/lang/Math" q := fun _ h => absurd h List.not_mem_nil
theorem co_J3 : ∀ q ∈ cp_J3, mCpO mD "jdk/internal/util/Preconditions" q := fun _ h => absurd h List.not_mem_nil
