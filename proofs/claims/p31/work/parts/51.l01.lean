/-! the law's instructions 5 -/
theorem tkc_5 : ((t_L_law.drop 200).take 40).all mDecL = true := by decide +kernel
theorem tkc_6 : ((t_L_law.drop 240).take 40).all mDecL = true := by decide +kernel
theorem tkc_7 : ((t_L_law.drop 280).take 40).all mDecL = true := by decide +kernel
theorem tkc_8 : ((t_L_law.drop 320).take 40).all mDecL = true := by decide +kernel
theorem tkc_9 : ((t_L_law.drop 360).take 40).all mDecL = true := by decide +kernel
