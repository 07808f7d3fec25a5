/-! the law's instructions 0 -/
def mOkL (x : mT) : Prop := decode code x.1 = .ok (x.2.1.1, x.2.1.2) ∧ (mIsSw x.2.1.1 || Nat.beq x.2.1.2 (mLn x.2.1.1)) = true ∧ mCkI [] 4 cp_L x.1 x.2.1.1 x.2.2.1.1 x.2.2.1.2.1 x.2.2.1.2.2 x.2.2.2 = true
abbrev mDecL (x : mT) : Bool := decide (decode code x.1 = .ok (x.2.1.1, x.2.1.2)) && ((mIsSw x.2.1.1 || Nat.beq x.2.1.2 (mLn x.2.1.1)) && mCkI [] 4 cp_L x.1 x.2.1.1 x.2.2.1.1 x.2.2.1.2.1 x.2.2.1.2.2 x.2.2.2)
theorem tkc_0 : ((t_L_law.drop 0).take 40).all mDecL = true := by decide +kernel
theorem tkc_1 : ((t_L_law.drop 40).take 40).all mDecL = true := by decide +kernel
theorem tkc_2 : ((t_L_law.drop 80).take 40).all mDecL = true := by decide +kernel
theorem tkc_3 : ((t_L_law.drop 120).take 40).all mDecL = true := by decide +kernel
theorem tkc_4 : ((t_L_law.drop 160).take 40).all mDecL = true := by decide +kernel
