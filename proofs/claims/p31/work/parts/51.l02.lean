/-! the law's instructions 10 -/
theorem tkc_10 : ((t_L_law.drop 400).take 40).all mDecL = true := by decide +kernel
theorem tkc_11 : ((t_L_law.drop 440).take 40).all mDecL = true := by decide +kernel
theorem tkc_12 : ((t_L_law.drop 480).take 40).all mDecL = true := by decide +kernel
theorem tkc_13 : ((t_L_law.drop 520).take 40).all mDecL = true := by decide +kernel
theorem tkc_14 : ((t_L_law.drop 560).take 40).all mDecL = true := by decide +kernel
