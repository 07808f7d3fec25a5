/-! the law's instructions 15 -/
theorem tkc_15 : ((t_L_law.drop 600).take 40).all mDecL = true := by decide +kernel
theorem tkc_16 : ((t_L_law.drop 640).take 40).all mDecL = true := by decide +kernel
theorem tkc_17 : ((t_L_law.drop 680).take 40).all mDecL = true := by decide +kernel
theorem tkc_18 : ((t_L_law.drop 720).take 40).all mDecL = true := by decide +kernel
theorem tkc_19 : ((t_L_law.drop 760).take 40).all mDecL = true := by decide +kernel
theorem all_chunk {p : mT → Bool} (l : List mT) (n : Nat) (h1 : (l.take n).all p = true) (h2 : (l.drop n).all p = true) : l.all p = true := by
  rw [← List.take_append_drop n l, List.all_append, h1, h2]; rfl
theorem tk_all : t_L_law.all mDecL = true := by
  have e : ∀ k : Nat, (t_L_law.drop k).drop 40 = t_L_law.drop (k + 40) := fun k => by rw [List.drop_drop]
  have h20 : (t_L_law.drop 800).all mDecL = true := by
    rw [show t_L_law.drop 800 = [] from by decide +kernel]; rfl
  have h19 : (t_L_law.drop 760).all mDecL = true := all_chunk _ 40 tkc_19 (by rw [e]; exact h20)
  have h18 : (t_L_law.drop 720).all mDecL = true := all_chunk _ 40 tkc_18 (by rw [e]; exact h19)
  have h17 : (t_L_law.drop 680).all mDecL = true := all_chunk _ 40 tkc_17 (by rw [e]; exact h18)
  have h16 : (t_L_law.drop 640).all mDecL = true := all_chunk _ 40 tkc_16 (by rw [e]; exact h17)
  have h15 : (t_L_law.drop 600).all mDecL = true := all_chunk _ 40 tkc_15 (by rw [e]; exact h16)
  have h14 : (t_L_law.drop 560).all mDecL = true := all_chunk _ 40 tkc_14 (by rw [e]; exact h15)
  have h13 : (t_L_law.drop 520).all mDecL = true := all_chunk _ 40 tkc_13 (by rw [e]; exact h14)
  have h12 : (t_L_law.drop 480).all mDecL = true := all_chunk _ 40 tkc_12 (by rw [e]; exact h13)
  have h11 : (t_L_law.drop 440).all mDecL = true := all_chunk _ 40 tkc_11 (by rw [e]; exact h12)
  have h10 : (t_L_law.drop 400).all mDecL = true := all_chunk _ 40 tkc_10 (by rw [e]; exact h11)
  have h9 : (t_L_law.drop 360).all mDecL = true := all_chunk _ 40 tkc_9 (by rw [e]; exact h10)
  have h8 : (t_L_law.drop 320).all mDecL = true := all_chunk _ 40 tkc_8 (by rw [e]; exact h9)
  have h7 : (t_L_law.drop 280).all mDecL = true := all_chunk _ 40 tkc_7 (by rw [e]; exact h8)
  have h6 : (t_L_law.drop 240).all mDecL = true := all_chunk _ 40 tkc_6 (by rw [e]; exact h7)
  have h5 : (t_L_law.drop 200).all mDecL = true := all_chunk _ 40 tkc_5 (by rw [e]; exact h6)
  have h4 : (t_L_law.drop 160).all mDecL = true := all_chunk _ 40 tkc_4 (by rw [e]; exact h5)
  have h3 : (t_L_law.drop 120).all mDecL = true := all_chunk _ 40 tkc_3 (by rw [e]; exact h4)
  have h2 : (t_L_law.drop 80).all mDecL = true := all_chunk _ 40 tkc_2 (by rw [e]; exact h3)
  have h1 : (t_L_law.drop 40).all mDecL = true := all_chunk _ 40 tkc_1 (by rw [e]; exact h2)
  have h0 : (t_L_law.drop 0).all mDecL = true := all_chunk _ 40 tkc_0 (by rw [e]; exact h1)
  exact h0
theorem tk_L : mTok [] 4 cp_L code t_L_law := by
  refine ⟨by decide +kernel, fun x hx => ?_⟩
  have h := List.all_eq_true.mp tk_all x hx
  unfold mDecL at h
  rw [Bool.and_eq_true, Bool.and_eq_true, decide_eq_true_eq] at h
  exact h
