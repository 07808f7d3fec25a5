/-! The law: its blocks, its cases, its loop (cases compared: 29) -/
section LAW
variable {X : mX} {i : Nat}
theorem lx0 (hX : X.2 ≤ 3584) (hi : i + 7 ≤ X.2) : ¬ ((nI i) < 0 ∨ X.2 ≤ (nI i).toNatClampNeg) := by
  rw [nI_clamp (by omega)]
  rintro (z | z)
  · exact nI_pos (by omega) z
  · omega
theorem lv0 (hX : X.2 ≤ 3584) (hi : i + 7 ≤ X.2) : X.1 (nI i).toNatClampNeg = X.1 i := by rw [nI_clamp (by omega)]
theorem lx {j : Nat} {c : Int32} (hX : X.2 ≤ 3584) (hi : i + 7 ≤ X.2) (hj : j < 7) (hc : c = nI j) : ¬ ((nI i + c) < 0 ∨ X.2 ≤ (nI i + c).toNatClampNeg) := by
  subst hc
  have e : nI i + nI j = nI (i + j) := (Int32.ofNat_add i j).symm
  rw [e, nI_clamp (by omega)]
  rintro (z | z)
  · exact nI_pos (by omega) z
  · omega
theorem lv {j : Nat} {c : Int32} (hX : X.2 ≤ 3584) (hi : i + 7 ≤ X.2) (hj : j < 7) (hc : c = nI j) : X.1 (nI i + c).toNatClampNeg = X.1 (i + j) := by
  subst hc
  have e : nI i + nI j = nI (i + j) := (Int32.ofNat_add i j).symm
  rw [e, nI_clamp (by omega)]
set_option maxRecDepth 100000 in
theorem e_L_law_184 {X : mX} {call : Nat → List mV → mG → mR} {g : mG} {x3 : Int32} : mEv X call 2 t_L_law (mDrop t_L_law 184) [some (mr 8 26), some (mr 6 18), some (mr 7 20), some (mi x3)] [] g = mAns (mEv X call 2 t_L_law) (mDrop t_L_law 188) [some (mr 8 26), some (mr 6 18), some (mr 7 20), some (mi x3)] [] (call 97 [mr 6 18] g) := (mEv_2 _ _ _ _).trans rfl
set_option maxRecDepth 100000 in
theorem e_L_law_188 {X : mX} {call : Nat → List mV → mG → mR} {g : mG} {x3 s0 : Int32} : mEv X call 2 t_L_law (mDrop t_L_law 188) [some (mr 8 26), some (mr 6 18), some (mr 7 20), some (mi x3)] [mi s0] g = mAns (mEv X call 2 t_L_law) (mDrop t_L_law 193) [some (mr 8 26), some (mr 6 18), some (mr 7 20), some (mi x3)] [] (call 151 [mr 7 20] g) := (mEv_3 _ _ _ _).trans rfl
set_option maxRecDepth 100000 in
theorem e_L_law_193 {X : mX} {call : Nat → List mV → mG → mR} {g : mG} {x3 s0 : Int32} : mEv X call 2 t_L_law (mDrop t_L_law 193) [some (mr 8 26), some (mr 6 18), some (mr 7 20), some (mi x3)] [mi s0] g = mEv X call 2 t_L_law (mDrop t_L_law 1180) [some (mr 8 26), some (mr 6 18), some (mr 7 20), some (mi x3)] [] g := (mEv_2 _ _ _ _).trans rfl
set_option maxRecDepth 100000 in
theorem e_L_law_197 {X : mX} {call : Nat → List mV → mG → mR} {g : mG} {x3 : Int32} : mEv X call 2 t_L_law (mDrop t_L_law 197) [some (mr 8 26), some (mr 6 18), some (mr 7 20), some (mi x3)] [] g = if ((x3 + 1) : Int32) < 0 ∨ X.2 ≤ ((x3 + 1) : Int32).toNatClampNeg then none else mEv X call 2 t_L_law (mDrop t_L_law 203) [some (mr 8 26), some (mr 6 18), some (mr 7 20), some (mi x3)] [mi (X.1 ((x3 + 1)).toNatClampNeg), mr 6 18] g := (mEv_6 _ _ _ _).trans rfl
set_option maxRecDepth 100000 in
theorem e_L_law_203 {X : mX} {call : Nat → List mV → mG → mR} {g : mG} {x3 s1 : Int32} : mEv X call 2 t_L_law (mDrop t_L_law 203) [some (mr 8 26), some (mr 6 18), some (mr 7 20), some (mi x3)] [mi s1, mr 6 18] g = if ((x3 + 2) : Int32) < 0 ∨ X.2 ≤ ((x3 + 2) : Int32).toNatClampNeg then none else mEv X call 2 t_L_law (mDrop t_L_law 208) [some (mr 8 26), some (mr 6 18), some (mr 7 20), some (mi x3)] [mi (X.1 ((x3 + 2)).toNatClampNeg), mi s1, mr 6 18] g := (mEv_5 _ _ _ _).trans rfl
set_option maxRecDepth 100000 in
theorem e_L_law_208 {X : mX} {call : Nat → List mV → mG → mR} {g : mG} {x3 s1 s2 : Int32} : mEv X call 2 t_L_law (mDrop t_L_law 208) [some (mr 8 26), some (mr 6 18), some (mr 7 20), some (mi x3)] [mi s2, mi s1, mr 6 18] g = if ((x3 + 3) : Int32) < 0 ∨ X.2 ≤ ((x3 + 3) : Int32).toNatClampNeg then none else mEv X call 2 t_L_law (mDrop t_L_law 213) [some (mr 8 26), some (mr 6 18), some (mr 7 20), some (mi x3)] [mi (X.1 ((x3 + 3)).toNatClampNeg), mi s2, mi s1, mr 6 18] g := (mEv_5 _ _ _ _).trans rfl
set_option maxRecDepth 100000 in
theorem e_L_law_213 {X : mX} {call : Nat → List mV → mG → mR} {g : mG} {x3 s1 s2 s3 : Int32} : mEv X call 2 t_L_law (mDrop t_L_law 213) [some (mr 8 26), some (mr 6 18), some (mr 7 20), some (mi x3)] [mi s3, mi s2, mi s1, mr 6 18] g = if ((x3 + 4) : Int32) < 0 ∨ X.2 ≤ ((x3 + 4) : Int32).toNatClampNeg then none else mEv X call 2 t_L_law (mDrop t_L_law 218) [some (mr 8 26), some (mr 6 18), some (mr 7 20), some (mi x3)] [mi (X.1 ((x3 + 4)).toNatClampNeg), mi s3, mi s2, mi s1, mr 6 18] g := (mEv_5 _ _ _ _).trans rfl
set_option maxRecDepth 100000 in
theorem e_L_law_218 {X : mX} {call : Nat → List mV → mG → mR} {g : mG} {x3 s1 s2 s3 s4 : Int32} : mEv X call 2 t_L_law (mDrop t_L_law 218) [some (mr 8 26), some (mr 6 18), some (mr 7 20), some (mi x3)] [mi s4, mi s3, mi s2, mi s1, mr 6 18] g = if ((x3 + 5) : Int32) < 0 ∨ X.2 ≤ ((x3 + 5) : Int32).toNatClampNeg then none else mEv X call 2 t_L_law (mDrop t_L_law 223) [some (mr 8 26), some (mr 6 18), some (mr 7 20), some (mi x3)] [mi (X.1 ((x3 + 5)).toNatClampNeg), mi s4, mi s3, mi s2, mi s1, mr 6 18] g := (mEv_5 _ _ _ _).trans rfl
set_option maxRecDepth 100000 in
theorem e_L_law_223 {X : mX} {call : Nat → List mV → mG → mR} {g : mG} {x3 s1 s2 s3 s4 s5 : Int32} : mEv X call 2 t_L_law (mDrop t_L_law 223) [some (mr 8 26), some (mr 6 18), some (mr 7 20), some (mi x3)] [mi s5, mi s4, mi s3, mi s2, mi s1, mr 6 18] g = mAns (mEv X call 2 t_L_law) (mDrop t_L_law 226) [some (mr 8 26), some (mr 6 18), some (mr 7 20), some (mi x3)] [] (call 98 [mr 6 18, mi s1, mi s2, mi s3, mi s4, mi s5] g) := (mEv_1 _ _ _ _).trans rfl
set_option maxRecDepth 100000 in
theorem e_L_law_226 {X : mX} {call : Nat → List mV → mG → mR} {g : mG} {x3 s0 : Int32} : mEv X call 2 t_L_law (mDrop t_L_law 226) [some (mr 8 26), some (mr 6 18), some (mr 7 20), some (mi x3)] [mi s0] g = if ((x3 + 1) : Int32) < 0 ∨ X.2 ≤ ((x3 + 1) : Int32).toNatClampNeg then none else mEv X call 2 t_L_law (mDrop t_L_law 233) [some (mr 8 26), some (mr 6 18), some (mr 7 20), some (mi x3)] [mi (X.1 ((x3 + 1)).toNatClampNeg), mr 7 20] g := (mEv_7 _ _ _ _).trans rfl
set_option maxRecDepth 100000 in
theorem e_L_law_233 {X : mX} {call : Nat → List mV → mG → mR} {g : mG} {x3 s1 : Int32} : mEv X call 2 t_L_law (mDrop t_L_law 233) [some (mr 8 26), some (mr 6 18), some (mr 7 20), some (mi x3)] [mi s1, mr 7 20] g = if ((x3 + 2) : Int32) < 0 ∨ X.2 ≤ ((x3 + 2) : Int32).toNatClampNeg then none else mEv X call 2 t_L_law (mDrop t_L_law 238) [some (mr 8 26), some (mr 6 18), some (mr 7 20), some (mi x3)] [mi (X.1 ((x3 + 2)).toNatClampNeg), mi s1, mr 7 20] g := (mEv_5 _ _ _ _).trans rfl
set_option maxRecDepth 100000 in
theorem e_L_law_238 {X : mX} {call : Nat → List mV → mG → mR} {g : mG} {x3 s1 s2 : Int32} : mEv X call 2 t_L_law (mDrop t_L_law 238) [some (mr 8 26), some (mr 6 18), some (mr 7 20), some (mi x3)] [mi s2, mi s1, mr 7 20] g = if ((x3 + 3) : Int32) < 0 ∨ X.2 ≤ ((x3 + 3) : Int32).toNatClampNeg then none else mEv X call 2 t_L_law (mDrop t_L_law 243) [some (mr 8 26), some (mr 6 18), some (mr 7 20), some (mi x3)] [mi (X.1 ((x3 + 3)).toNatClampNeg), mi s2, mi s1, mr 7 20] g := (mEv_5 _ _ _ _).trans rfl
set_option maxRecDepth 100000 in
theorem e_L_law_243 {X : mX} {call : Nat → List mV → mG → mR} {g : mG} {x3 s1 s2 s3 : Int32} : mEv X call 2 t_L_law (mDrop t_L_law 243) [some (mr 8 26), some (mr 6 18), some (mr 7 20), some (mi x3)] [mi s3, mi s2, mi s1, mr 7 20] g = if ((x3 + 4) : Int32) < 0 ∨ X.2 ≤ ((x3 + 4) : Int32).toNatClampNeg then none else mEv X call 2 t_L_law (mDrop t_L_law 248) [some (mr 8 26), some (mr 6 18), some (mr 7 20), some (mi x3)] [mi (X.1 ((x3 + 4)).toNatClampNeg), mi s3, mi s2, mi s1, mr 7 20] g := (mEv_5 _ _ _ _).trans rfl
set_option maxRecDepth 100000 in
theorem e_L_law_248 {X : mX} {call : Nat → List mV → mG → mR} {g : mG} {x3 s1 s2 s3 s4 : Int32} : mEv X call 2 t_L_law (mDrop t_L_law 248) [some (mr 8 26), some (mr 6 18), some (mr 7 20), some (mi x3)] [mi s4, mi s3, mi s2, mi s1, mr 7 20] g = if ((x3 + 5) : Int32) < 0 ∨ X.2 ≤ ((x3 + 5) : Int32).toNatClampNeg then none else mEv X call 2 t_L_law (mDrop t_L_law 253) [some (mr 8 26), some (mr 6 18), some (mr 7 20), some (mi x3)] [mi (X.1 ((x3 + 5)).toNatClampNeg), mi s4, mi s3, mi s2, mi s1, mr 7 20] g := (mEv_5 _ _ _ _).trans rfl
set_option maxRecDepth 100000 in
theorem e_L_law_253 {X : mX} {call : Nat → List mV → mG → mR} {g : mG} {x3 s1 s2 s3 s4 s5 : Int32} : mEv X call 2 t_L_law (mDrop t_L_law 253) [some (mr 8 26), some (mr 6 18), some (mr 7 20), some (mi x3)] [mi s5, mi s4, mi s3, mi s2, mi s1, mr 7 20] g = mAns (mEv X call 2 t_L_law) (mDrop t_L_law 256) [some (mr 8 26), some (mr 6 18), some (mr 7 20), some (mi x3)] [] (call 211 [mr 7 20, mi s1, mi s2, mi s3, mi s4, mi s5] g) := (mEv_1 _ _ _ _).trans rfl
set_option maxRecDepth 100000 in
theorem e_L_law_256 {X : mX} {call : Nat → List mV → mG → mR} {g : mG} {x3 s0 : Int32} : mEv X call 2 t_L_law (mDrop t_L_law 256) [some (mr 8 26), some (mr 6 18), some (mr 7 20), some (mi x3)] [mi s0] g = mEv X call 2 t_L_law (mDrop t_L_law 1180) [some (mr 8 26), some (mr 6 18), some (mr 7 20), some (mi x3)] [] g := (mEv_2 _ _ _ _).trans rfl
set_option maxRecDepth 100000 in
theorem e_L_law_260 {X : mX} {call : Nat → List mV → mG → mR} {g : mG} {x3 : Int32} : mEv X call 2 t_L_law (mDrop t_L_law 260) [some (mr 8 26), some (mr 6 18), some (mr 7 20), some (mi x3)] [] g = if ((x3 + 1) : Int32) < 0 ∨ X.2 ≤ ((x3 + 1) : Int32).toNatClampNeg then none else mEv X call 2 t_L_law (mDrop t_L_law 266) [some (mr 8 26), some (mr 6 18), some (mr 7 20), some (mi x3)] [mi (X.1 ((x3 + 1)).toNatClampNeg), mr 6 18] g := (mEv_6 _ _ _ _).trans rfl
set_option maxRecDepth 100000 in
theorem e_L_law_266 {X : mX} {call : Nat → List mV → mG → mR} {g : mG} {x3 s1 : Int32} : mEv X call 2 t_L_law (mDrop t_L_law 266) [some (mr 8 26), some (mr 6 18), some (mr 7 20), some (mi x3)] [mi s1, mr 6 18] g = mAns (mEv X call 2 t_L_law) (mDrop t_L_law 269) [some (mr 8 26), some (mr 6 18), some (mr 7 20), some (mi x3)] [] (call 99 [mr 6 18, mi s1] g) := (mEv_1 _ _ _ _).trans rfl
set_option maxRecDepth 100000 in
theorem e_L_law_269 {X : mX} {call : Nat → List mV → mG → mR} {g : mG} {x3 s0 : Int32} : mEv X call 2 t_L_law (mDrop t_L_law 269) [some (mr 8 26), some (mr 6 18), some (mr 7 20), some (mi x3)] [mi s0] g = if ((x3 + 1) : Int32) < 0 ∨ X.2 ≤ ((x3 + 1) : Int32).toNatClampNeg then none else mEv X call 2 t_L_law (mDrop t_L_law 276) [some (mr 8 26), some (mr 6 18), some (mr 7 20), some (mi x3)] [mi (X.1 ((x3 + 1)).toNatClampNeg), mr 7 20] g := (mEv_7 _ _ _ _).trans rfl
set_option maxRecDepth 100000 in
theorem e_L_law_276 {X : mX} {call : Nat → List mV → mG → mR} {g : mG} {x3 s1 : Int32} : mEv X call 2 t_L_law (mDrop t_L_law 276) [some (mr 8 26), some (mr 6 18), some (mr 7 20), some (mi x3)] [mi s1, mr 7 20] g = mAns (mEv X call 2 t_L_law) (mDrop t_L_law 279) [some (mr 8 26), some (mr 6 18), some (mr 7 20), some (mi x3)] [] (call 231 [mr 7 20, mi s1] g) := (mEv_1 _ _ _ _).trans rfl
set_option maxRecDepth 100000 in
theorem e_L_law_279 {X : mX} {call : Nat → List mV → mG → mR} {g : mG} {x3 s0 : Int32} : mEv X call 2 t_L_law (mDrop t_L_law 279) [some (mr 8 26), some (mr 6 18), some (mr 7 20), some (mi x3)] [mi s0] g = mEv X call 2 t_L_law (mDrop t_L_law 1180) [some (mr 8 26), some (mr 6 18), some (mr 7 20), some (mi x3)] [] g := (mEv_2 _ _ _ _).trans rfl
set_option maxRecDepth 100000 in
theorem e_L_law_283 {X : mX} {call : Nat → List mV → mG → mR} {g : mG} {x3 : Int32} : mEv X call 2 t_L_law (mDrop t_L_law 283) [some (mr 8 26), some (mr 6 18), some (mr 7 20), some (mi x3)] [] g = if ((x3 + 1) : Int32) < 0 ∨ X.2 ≤ ((x3 + 1) : Int32).toNatClampNeg then none else mEv X call 2 t_L_law (mDrop t_L_law 289) [some (mr 8 26), some (mr 6 18), some (mr 7 20), some (mi x3)] [mi (X.1 ((x3 + 1)).toNatClampNeg), mr 6 18] g := (mEv_6 _ _ _ _).trans rfl
set_option maxRecDepth 100000 in
theorem e_L_law_289 {X : mX} {call : Nat → List mV → mG → mR} {g : mG} {x3 s1 : Int32} : mEv X call 2 t_L_law (mDrop t_L_law 289) [some (mr 8 26), some (mr 6 18), some (mr 7 20), some (mi x3)] [mi s1, mr 6 18] g = mAns (mEv X call 2 t_L_law) (mDrop t_L_law 292) [some (mr 8 26), some (mr 6 18), some (mr 7 20), some (mi x3)] [] (call 100 [mr 6 18, mi s1] g) := (mEv_1 _ _ _ _).trans rfl
set_option maxRecDepth 100000 in
theorem e_L_law_292 {X : mX} {call : Nat → List mV → mG → mR} {g : mG} {x3 s0 : Int32} : mEv X call 2 t_L_law (mDrop t_L_law 292) [some (mr 8 26), some (mr 6 18), some (mr 7 20), some (mi x3)] [mi s0] g = if ((x3 + 1) : Int32) < 0 ∨ X.2 ≤ ((x3 + 1) : Int32).toNatClampNeg then none else mEv X call 2 t_L_law (mDrop t_L_law 299) [some (mr 8 26), some (mr 6 18), some (mr 7 20), some (mi x3)] [mi (X.1 ((x3 + 1)).toNatClampNeg), mr 7 20] g := (mEv_7 _ _ _ _).trans rfl
set_option maxRecDepth 100000 in
theorem e_L_law_299 {X : mX} {call : Nat → List mV → mG → mR} {g : mG} {x3 s1 : Int32} : mEv X call 2 t_L_law (mDrop t_L_law 299) [some (mr 8 26), some (mr 6 18), some (mr 7 20), some (mi x3)] [mi s1, mr 7 20] g = mAns (mEv X call 2 t_L_law) (mDrop t_L_law 302) [some (mr 8 26), some (mr 6 18), some (mr 7 20), some (mi x3)] [] (call 232 [mr 7 20, mi s1] g) := (mEv_1 _ _ _ _).trans rfl
set_option maxRecDepth 100000 in
theorem e_L_law_302 {X : mX} {call : Nat → List mV → mG → mR} {g : mG} {x3 s0 : Int32} : mEv X call 2 t_L_law (mDrop t_L_law 302) [some (mr 8 26), some (mr 6 18), some (mr 7 20), some (mi x3)] [mi s0] g = mEv X call 2 t_L_law (mDrop t_L_law 1180) [some (mr 8 26), some (mr 6 18), some (mr 7 20), some (mi x3)] [] g := (mEv_2 _ _ _ _).trans rfl
set_option maxRecDepth 100000 in
theorem e_L_law_306 {X : mX} {call : Nat → List mV → mG → mR} {g : mG} {x3 : Int32} : mEv X call 2 t_L_law (mDrop t_L_law 306) [some (mr 8 26), some (mr 6 18), some (mr 7 20), some (mi x3)] [] g = if ((x3 + 1) : Int32) < 0 ∨ X.2 ≤ ((x3 + 1) : Int32).toNatClampNeg then none else mEv X call 2 t_L_law (mDrop t_L_law 312) [some (mr 8 26), some (mr 6 18), some (mr 7 20), some (mi x3)] [mi (X.1 ((x3 + 1)).toNatClampNeg), mr 6 18] g := (mEv_6 _ _ _ _).trans rfl
set_option maxRecDepth 100000 in
theorem e_L_law_312 {X : mX} {call : Nat → List mV → mG → mR} {g : mG} {x3 s1 : Int32} : mEv X call 2 t_L_law (mDrop t_L_law 312) [some (mr 8 26), some (mr 6 18), some (mr 7 20), some (mi x3)] [mi s1, mr 6 18] g = mAns (mEv X call 2 t_L_law) (mDrop t_L_law 315) [some (mr 8 26), some (mr 6 18), some (mr 7 20), some (mi x3)] [] (call 101 [mr 6 18, mi s1] g) := (mEv_1 _ _ _ _).trans rfl
set_option maxRecDepth 100000 in
theorem e_L_law_315 {X : mX} {call : Nat → List mV → mG → mR} {g : mG} {x3 s0 : Int32} : mEv X call 2 t_L_law (mDrop t_L_law 315) [some (mr 8 26), some (mr 6 18), some (mr 7 20), some (mi x3)] [mi s0] g = if ((x3 + 1) : Int32) < 0 ∨ X.2 ≤ ((x3 + 1) : Int32).toNatClampNeg then none else mEv X call 2 t_L_law (mDrop t_L_law 322) [some (mr 8 26), some (mr 6 18), some (mr 7 20), some (mi x3)] [mi (X.1 ((x3 + 1)).toNatClampNeg), mr 7 20] g := (mEv_7 _ _ _ _).trans rfl
set_option maxRecDepth 100000 in
theorem e_L_law_322 {X : mX} {call : Nat → List mV → mG → mR} {g : mG} {x3 s1 : Int32} : mEv X call 2 t_L_law (mDrop t_L_law 322) [some (mr 8 26), some (mr 6 18), some (mr 7 20), some (mi x3)] [mi s1, mr 7 20] g = mAns (mEv X call 2 t_L_law) (mDrop t_L_law 325) [some (mr 8 26), some (mr 6 18), some (mr 7 20), some (mi x3)] [] (call 233 [mr 7 20, mi s1] g) := (mEv_1 _ _ _ _).trans rfl
set_option maxRecDepth 100000 in
theorem e_L_law_325 {X : mX} {call : Nat → List mV → mG → mR} {g : mG} {x3 s0 : Int32} : mEv X call 2 t_L_law (mDrop t_L_law 325) [some (mr 8 26), some (mr 6 18), some (mr 7 20), some (mi x3)] [mi s0] g = mEv X call 2 t_L_law (mDrop t_L_law 1180) [some (mr 8 26), some (mr 6 18), some (mr 7 20), some (mi x3)] [] g := (mEv_2 _ _ _ _).trans rfl
set_option maxRecDepth 100000 in
theorem e_L_law_329 {X : mX} {call : Nat → List mV → mG → mR} {g : mG} {x3 : Int32} : mEv X call 2 t_L_law (mDrop t_L_law 329) [some (mr 8 26), some (mr 6 18), some (mr 7 20), some (mi x3)] [] g = if ((x3 + 1) : Int32) < 0 ∨ X.2 ≤ ((x3 + 1) : Int32).toNatClampNeg then none else mEv X call 2 t_L_law (mDrop t_L_law 335) [some (mr 8 26), some (mr 6 18), some (mr 7 20), some (mi x3)] [mi (X.1 ((x3 + 1)).toNatClampNeg), mr 6 18] g := (mEv_6 _ _ _ _).trans rfl
set_option maxRecDepth 100000 in
theorem e_L_law_335 {X : mX} {call : Nat → List mV → mG → mR} {g : mG} {x3 s1 : Int32} : mEv X call 2 t_L_law (mDrop t_L_law 335) [some (mr 8 26), some (mr 6 18), some (mr 7 20), some (mi x3)] [mi s1, mr 6 18] g = if ((x3 + 2) : Int32) < 0 ∨ X.2 ≤ ((x3 + 2) : Int32).toNatClampNeg then none else mEv X call 2 t_L_law (mDrop t_L_law 340) [some (mr 8 26), some (mr 6 18), some (mr 7 20), some (mi x3)] [mi (X.1 ((x3 + 2)).toNatClampNeg), mi s1, mr 6 18] g := (mEv_5 _ _ _ _).trans rfl
set_option maxRecDepth 100000 in
theorem e_L_law_340 {X : mX} {call : Nat → List mV → mG → mR} {g : mG} {x3 s1 s2 : Int32} : mEv X call 2 t_L_law (mDrop t_L_law 340) [some (mr 8 26), some (mr 6 18), some (mr 7 20), some (mi x3)] [mi s2, mi s1, mr 6 18] g = mAns (mEv X call 2 t_L_law) (mDrop t_L_law 343) [some (mr 8 26), some (mr 6 18), some (mr 7 20), some (mi x3)] [] (call 102 [mr 6 18, mi s1, mi s2] g) := (mEv_1 _ _ _ _).trans rfl
set_option maxRecDepth 100000 in
theorem e_L_law_343 {X : mX} {call : Nat → List mV → mG → mR} {g : mG} {x3 s0 : Int32} : mEv X call 2 t_L_law (mDrop t_L_law 343) [some (mr 8 26), some (mr 6 18), some (mr 7 20), some (mi x3)] [mi s0] g = if ((x3 + 1) : Int32) < 0 ∨ X.2 ≤ ((x3 + 1) : Int32).toNatClampNeg then none else mEv X call 2 t_L_law (mDrop t_L_law 350) [some (mr 8 26), some (mr 6 18), some (mr 7 20), some (mi x3)] [mi (X.1 ((x3 + 1)).toNatClampNeg), mr 7 20] g := (mEv_7 _ _ _ _).trans rfl
set_option maxRecDepth 100000 in
theorem e_L_law_350 {X : mX} {call : Nat → List mV → mG → mR} {g : mG} {x3 s1 : Int32} : mEv X call 2 t_L_law (mDrop t_L_law 350) [some (mr 8 26), some (mr 6 18), some (mr 7 20), some (mi x3)] [mi s1, mr 7 20] g = if ((x3 + 2) : Int32) < 0 ∨ X.2 ≤ ((x3 + 2) : Int32).toNatClampNeg then none else mEv X call 2 t_L_law (mDrop t_L_law 355) [some (mr 8 26), some (mr 6 18), some (mr 7 20), some (mi x3)] [mi (X.1 ((x3 + 2)).toNatClampNeg), mi s1, mr 7 20] g := (mEv_5 _ _ _ _).trans rfl
set_option maxRecDepth 100000 in
theorem e_L_law_355 {X : mX} {call : Nat → List mV → mG → mR} {g : mG} {x3 s1 s2 : Int32} : mEv X call 2 t_L_law (mDrop t_L_law 355) [some (mr 8 26), some (mr 6 18), some (mr 7 20), some (mi x3)] [mi s2, mi s1, mr 7 20] g = mAns (mEv X call 2 t_L_law) (mDrop t_L_law 358) [some (mr 8 26), some (mr 6 18), some (mr 7 20), some (mi x3)] [] (call 234 [mr 7 20, mi s1, mi s2] g) := (mEv_1 _ _ _ _).trans rfl
set_option maxRecDepth 100000 in
theorem e_L_law_358 {X : mX} {call : Nat → List mV → mG → mR} {g : mG} {x3 s0 : Int32} : mEv X call 2 t_L_law (mDrop t_L_law 358) [some (mr 8 26), some (mr 6 18), some (mr 7 20), some (mi x3)] [mi s0] g = mEv X call 2 t_L_law (mDrop t_L_law 1180) [some (mr 8 26), some (mr 6 18), some (mr 7 20), some (mi x3)] [] g := (mEv_2 _ _ _ _).trans rfl
set_option maxRecDepth 100000 in
theorem e_L_law_362 {X : mX} {call : Nat → List mV → mG → mR} {g : mG} {x3 : Int32} : mEv X call 2 t_L_law (mDrop t_L_law 362) [some (mr 8 26), some (mr 6 18), some (mr 7 20), some (mi x3)] [] g = if ((x3 + 1) : Int32) < 0 ∨ X.2 ≤ ((x3 + 1) : Int32).toNatClampNeg then none else mEv X call 2 t_L_law (mDrop t_L_law 368) [some (mr 8 26), some (mr 6 18), some (mr 7 20), some (mi x3)] [mi (X.1 ((x3 + 1)).toNatClampNeg), mr 6 18] g := (mEv_6 _ _ _ _).trans rfl
set_option maxRecDepth 100000 in
theorem e_L_law_368 {X : mX} {call : Nat → List mV → mG → mR} {g : mG} {x3 s1 : Int32} : mEv X call 2 t_L_law (mDrop t_L_law 368) [some (mr 8 26), some (mr 6 18), some (mr 7 20), some (mi x3)] [mi s1, mr 6 18] g = if ((x3 + 2) : Int32) < 0 ∨ X.2 ≤ ((x3 + 2) : Int32).toNatClampNeg then none else mEv X call 2 t_L_law (mDrop t_L_law 373) [some (mr 8 26), some (mr 6 18), some (mr 7 20), some (mi x3)] [mi (X.1 ((x3 + 2)).toNatClampNeg), mi s1, mr 6 18] g := (mEv_5 _ _ _ _).trans rfl
set_option maxRecDepth 100000 in
theorem e_L_law_373 {X : mX} {call : Nat → List mV → mG → mR} {g : mG} {x3 s1 s2 : Int32} : mEv X call 2 t_L_law (mDrop t_L_law 373) [some (mr 8 26), some (mr 6 18), some (mr 7 20), some (mi x3)] [mi s2, mi s1, mr 6 18] g = mAns (mEv X call 2 t_L_law) (mDrop t_L_law 376) [some (mr 8 26), some (mr 6 18), some (mr 7 20), some (mi x3)] [] (call 103 [mr 6 18, mi s1, mi s2] g) := (mEv_1 _ _ _ _).trans rfl
set_option maxRecDepth 100000 in
theorem e_L_law_376 {X : mX} {call : Nat → List mV → mG → mR} {g : mG} {x3 s0 : Int32} : mEv X call 2 t_L_law (mDrop t_L_law 376) [some (mr 8 26), some (mr 6 18), some (mr 7 20), some (mi x3)] [mi s0] g = if ((x3 + 1) : Int32) < 0 ∨ X.2 ≤ ((x3 + 1) : Int32).toNatClampNeg then none else mEv X call 2 t_L_law (mDrop t_L_law 383) [some (mr 8 26), some (mr 6 18), some (mr 7 20), some (mi x3)] [mi (X.1 ((x3 + 1)).toNatClampNeg), mr 7 20] g := (mEv_7 _ _ _ _).trans rfl
set_option maxRecDepth 100000 in
theorem e_L_law_383 {X : mX} {call : Nat → List mV → mG → mR} {g : mG} {x3 s1 : Int32} : mEv X call 2 t_L_law (mDrop t_L_law 383) [some (mr 8 26), some (mr 6 18), some (mr 7 20), some (mi x3)] [mi s1, mr 7 20] g = if ((x3 + 2) : Int32) < 0 ∨ X.2 ≤ ((x3 + 2) : Int32).toNatClampNeg then none else mEv X call 2 t_L_law (mDrop t_L_law 388) [some (mr 8 26), some (mr 6 18), some (mr 7 20), some (mi x3)] [mi (X.1 ((x3 + 2)).toNatClampNeg), mi s1, mr 7 20] g := (mEv_5 _ _ _ _).trans rfl
set_option maxRecDepth 100000 in
theorem e_L_law_388 {X : mX} {call : Nat → List mV → mG → mR} {g : mG} {x3 s1 s2 : Int32} : mEv X call 2 t_L_law (mDrop t_L_law 388) [some (mr 8 26), some (mr 6 18), some (mr 7 20), some (mi x3)] [mi s2, mi s1, mr 7 20] g = mAns (mEv X call 2 t_L_law) (mDrop t_L_law 391) [some (mr 8 26), some (mr 6 18), some (mr 7 20), some (mi x3)] [] (call 236 [mr 7 20, mi s1, mi s2] g) := (mEv_1 _ _ _ _).trans rfl
set_option maxRecDepth 100000 in
theorem e_L_law_391 {X : mX} {call : Nat → List mV → mG → mR} {g : mG} {x3 s0 : Int32} : mEv X call 2 t_L_law (mDrop t_L_law 391) [some (mr 8 26), some (mr 6 18), some (mr 7 20), some (mi x3)] [mi s0] g = mEv X call 2 t_L_law (mDrop t_L_law 1180) [some (mr 8 26), some (mr 6 18), some (mr 7 20), some (mi x3)] [] g := (mEv_2 _ _ _ _).trans rfl
set_option maxRecDepth 100000 in
theorem e_L_law_395 {X : mX} {call : Nat → List mV → mG → mR} {g : mG} {x3 : Int32} : mEv X call 2 t_L_law (mDrop t_L_law 395) [some (mr 8 26), some (mr 6 18), some (mr 7 20), some (mi x3)] [] g = if ((x3 + 1) : Int32) < 0 ∨ X.2 ≤ ((x3 + 1) : Int32).toNatClampNeg then none else mEv X call 2 t_L_law (mDrop t_L_law 401) [some (mr 8 26), some (mr 6 18), some (mr 7 20), some (mi x3)] [mi (X.1 ((x3 + 1)).toNatClampNeg), mr 6 18] g := (mEv_6 _ _ _ _).trans rfl
set_option maxRecDepth 100000 in
theorem e_L_law_401 {X : mX} {call : Nat → List mV → mG → mR} {g : mG} {x3 s1 : Int32} : mEv X call 2 t_L_law (mDrop t_L_law 401) [some (mr 8 26), some (mr 6 18), some (mr 7 20), some (mi x3)] [mi s1, mr 6 18] g = if ((x3 + 2) : Int32) < 0 ∨ X.2 ≤ ((x3 + 2) : Int32).toNatClampNeg then none else mEv X call 2 t_L_law (mDrop t_L_law 406) [some (mr 8 26), some (mr 6 18), some (mr 7 20), some (mi x3)] [mi (X.1 ((x3 + 2)).toNatClampNeg), mi s1, mr 6 18] g := (mEv_5 _ _ _ _).trans rfl
set_option maxRecDepth 100000 in
theorem e_L_law_406 {X : mX} {call : Nat → List mV → mG → mR} {g : mG} {x3 s1 s2 : Int32} : mEv X call 2 t_L_law (mDrop t_L_law 406) [some (mr 8 26), some (mr 6 18), some (mr 7 20), some (mi x3)] [mi s2, mi s1, mr 6 18] g = mAns (mEv X call 2 t_L_law) (mDrop t_L_law 409) [some (mr 8 26), some (mr 6 18), some (mr 7 20), some (mi x3)] [] (call 104 [mr 6 18, mi s1, mi s2] g) := (mEv_1 _ _ _ _).trans rfl
set_option maxRecDepth 100000 in
theorem e_L_law_409 {X : mX} {call : Nat → List mV → mG → mR} {g : mG} {x3 s0 : Int32} : mEv X call 2 t_L_law (mDrop t_L_law 409) [some (mr 8 26), some (mr 6 18), some (mr 7 20), some (mi x3)] [mi s0] g = if ((x3 + 1) : Int32) < 0 ∨ X.2 ≤ ((x3 + 1) : Int32).toNatClampNeg then none else mEv X call 2 t_L_law (mDrop t_L_law 416) [some (mr 8 26), some (mr 6 18), some (mr 7 20), some (mi x3)] [mi (X.1 ((x3 + 1)).toNatClampNeg), mr 7 20] g := (mEv_7 _ _ _ _).trans rfl
set_option maxRecDepth 100000 in
theorem e_L_law_416 {X : mX} {call : Nat → List mV → mG → mR} {g : mG} {x3 s1 : Int32} : mEv X call 2 t_L_law (mDrop t_L_law 416) [some (mr 8 26), some (mr 6 18), some (mr 7 20), some (mi x3)] [mi s1, mr 7 20] g = if ((x3 + 2) : Int32) < 0 ∨ X.2 ≤ ((x3 + 2) : Int32).toNatClampNeg then none else mEv X call 2 t_L_law (mDrop t_L_law 421) [some (mr 8 26), some (mr 6 18), some (mr 7 20), some (mi x3)] [mi (X.1 ((x3 + 2)).toNatClampNeg), mi s1, mr 7 20] g := (mEv_5 _ _ _ _).trans rfl
set_option maxRecDepth 100000 in
theorem e_L_law_421 {X : mX} {call : Nat → List mV → mG → mR} {g : mG} {x3 s1 s2 : Int32} : mEv X call 2 t_L_law (mDrop t_L_law 421) [some (mr 8 26), some (mr 6 18), some (mr 7 20), some (mi x3)] [mi s2, mi s1, mr 7 20] g = mAns (mEv X call 2 t_L_law) (mDrop t_L_law 424) [some (mr 8 26), some (mr 6 18), some (mr 7 20), some (mi x3)] [] (call 237 [mr 7 20, mi s1, mi s2] g) := (mEv_1 _ _ _ _).trans rfl
set_option maxRecDepth 100000 in
theorem e_L_law_424 {X : mX} {call : Nat → List mV → mG → mR} {g : mG} {x3 s0 : Int32} : mEv X call 2 t_L_law (mDrop t_L_law 424) [some (mr 8 26), some (mr 6 18), some (mr 7 20), some (mi x3)] [mi s0] g = mEv X call 2 t_L_law (mDrop t_L_law 1180) [some (mr 8 26), some (mr 6 18), some (mr 7 20), some (mi x3)] [] g := (mEv_2 _ _ _ _).trans rfl
set_option maxRecDepth 100000 in
theorem e_L_law_428 {X : mX} {call : Nat → List mV → mG → mR} {g : mG} {x3 : Int32} : mEv X call 2 t_L_law (mDrop t_L_law 428) [some (mr 8 26), some (mr 6 18), some (mr 7 20), some (mi x3)] [] g = if ((x3 + 1) : Int32) < 0 ∨ X.2 ≤ ((x3 + 1) : Int32).toNatClampNeg then none else mEv X call 2 t_L_law (mDrop t_L_law 434) [some (mr 8 26), some (mr 6 18), some (mr 7 20), some (mi x3)] [mi (X.1 ((x3 + 1)).toNatClampNeg), mr 6 18] g := (mEv_6 _ _ _ _).trans rfl
set_option maxRecDepth 100000 in
theorem e_L_law_434 {X : mX} {call : Nat → List mV → mG → mR} {g : mG} {x3 s1 : Int32} : mEv X call 2 t_L_law (mDrop t_L_law 434) [some (mr 8 26), some (mr 6 18), some (mr 7 20), some (mi x3)] [mi s1, mr 6 18] g = if ((x3 + 2) : Int32) < 0 ∨ X.2 ≤ ((x3 + 2) : Int32).toNatClampNeg then none else mEv X call 2 t_L_law (mDrop t_L_law 439) [some (mr 8 26), some (mr 6 18), some (mr 7 20), some (mi x3)] [mi (X.1 ((x3 + 2)).toNatClampNeg), mi s1, mr 6 18] g := (mEv_5 _ _ _ _).trans rfl
set_option maxRecDepth 100000 in
theorem e_L_law_439 {X : mX} {call : Nat → List mV → mG → mR} {g : mG} {x3 s1 s2 : Int32} : mEv X call 2 t_L_law (mDrop t_L_law 439) [some (mr 8 26), some (mr 6 18), some (mr 7 20), some (mi x3)] [mi s2, mi s1, mr 6 18] g = mAns (mEv X call 2 t_L_law) (mDrop t_L_law 442) [some (mr 8 26), some (mr 6 18), some (mr 7 20), some (mi x3)] [] (call 105 [mr 6 18, mi s1, mi s2] g) := (mEv_1 _ _ _ _).trans rfl
set_option maxRecDepth 100000 in
theorem e_L_law_442 {X : mX} {call : Nat → List mV → mG → mR} {g : mG} {x3 s0 : Int32} : mEv X call 2 t_L_law (mDrop t_L_law 442) [some (mr 8 26), some (mr 6 18), some (mr 7 20), some (mi x3)] [mi s0] g = if ((x3 + 1) : Int32) < 0 ∨ X.2 ≤ ((x3 + 1) : Int32).toNatClampNeg then none else mEv X call 2 t_L_law (mDrop t_L_law 449) [some (mr 8 26), some (mr 6 18), some (mr 7 20), some (mi x3)] [mi (X.1 ((x3 + 1)).toNatClampNeg), mr 7 20] g := (mEv_7 _ _ _ _).trans rfl
set_option maxRecDepth 100000 in
theorem e_L_law_449 {X : mX} {call : Nat → List mV → mG → mR} {g : mG} {x3 s1 : Int32} : mEv X call 2 t_L_law (mDrop t_L_law 449) [some (mr 8 26), some (mr 6 18), some (mr 7 20), some (mi x3)] [mi s1, mr 7 20] g = if ((x3 + 2) : Int32) < 0 ∨ X.2 ≤ ((x3 + 2) : Int32).toNatClampNeg then none else mEv X call 2 t_L_law (mDrop t_L_law 454) [some (mr 8 26), some (mr 6 18), some (mr 7 20), some (mi x3)] [mi (X.1 ((x3 + 2)).toNatClampNeg), mi s1, mr 7 20] g := (mEv_5 _ _ _ _).trans rfl
set_option maxRecDepth 100000 in
theorem e_L_law_454 {X : mX} {call : Nat → List mV → mG → mR} {g : mG} {x3 s1 s2 : Int32} : mEv X call 2 t_L_law (mDrop t_L_law 454) [some (mr 8 26), some (mr 6 18), some (mr 7 20), some (mi x3)] [mi s2, mi s1, mr 7 20] g = mAns (mEv X call 2 t_L_law) (mDrop t_L_law 457) [some (mr 8 26), some (mr 6 18), some (mr 7 20), some (mi x3)] [] (call 238 [mr 7 20, mi s1, mi s2] g) := (mEv_1 _ _ _ _).trans rfl
set_option maxRecDepth 100000 in
theorem e_L_law_457 {X : mX} {call : Nat → List mV → mG → mR} {g : mG} {x3 s0 : Int32} : mEv X call 2 t_L_law (mDrop t_L_law 457) [some (mr 8 26), some (mr 6 18), some (mr 7 20), some (mi x3)] [mi s0] g = mEv X call 2 t_L_law (mDrop t_L_law 1180) [some (mr 8 26), some (mr 6 18), some (mr 7 20), some (mi x3)] [] g := (mEv_2 _ _ _ _).trans rfl
set_option maxRecDepth 100000 in
theorem e_L_law_461 {X : mX} {call : Nat → List mV → mG → mR} {g : mG} {x3 : Int32} : mEv X call 2 t_L_law (mDrop t_L_law 461) [some (mr 8 26), some (mr 6 18), some (mr 7 20), some (mi x3)] [] g = if ((x3 + 1) : Int32) < 0 ∨ X.2 ≤ ((x3 + 1) : Int32).toNatClampNeg then none else mEv X call 2 t_L_law (mDrop t_L_law 467) [some (mr 8 26), some (mr 6 18), some (mr 7 20), some (mi x3)] [mi (X.1 ((x3 + 1)).toNatClampNeg), mr 6 18] g := (mEv_6 _ _ _ _).trans rfl
set_option maxRecDepth 100000 in
theorem e_L_law_467 {X : mX} {call : Nat → List mV → mG → mR} {g : mG} {x3 s1 : Int32} : mEv X call 2 t_L_law (mDrop t_L_law 467) [some (mr 8 26), some (mr 6 18), some (mr 7 20), some (mi x3)] [mi s1, mr 6 18] g = mAns (mEv X call 2 t_L_law) (mDrop t_L_law 470) [some (mr 8 26), some (mr 6 18), some (mr 7 20), some (mi x3)] [] (call 106 [mr 6 18, mi s1] g) := (mEv_1 _ _ _ _).trans rfl
set_option maxRecDepth 100000 in
theorem e_L_law_470 {X : mX} {call : Nat → List mV → mG → mR} {g : mG} {x3 s0 : Int32} : mEv X call 2 t_L_law (mDrop t_L_law 470) [some (mr 8 26), some (mr 6 18), some (mr 7 20), some (mi x3)] [mi s0] g = if ((x3 + 1) : Int32) < 0 ∨ X.2 ≤ ((x3 + 1) : Int32).toNatClampNeg then none else mEv X call 2 t_L_law (mDrop t_L_law 477) [some (mr 8 26), some (mr 6 18), some (mr 7 20), some (mi x3)] [mi (X.1 ((x3 + 1)).toNatClampNeg), mr 7 20] g := (mEv_7 _ _ _ _).trans rfl
set_option maxRecDepth 100000 in
theorem e_L_law_477 {X : mX} {call : Nat → List mV → mG → mR} {g : mG} {x3 s1 : Int32} : mEv X call 2 t_L_law (mDrop t_L_law 477) [some (mr 8 26), some (mr 6 18), some (mr 7 20), some (mi x3)] [mi s1, mr 7 20] g = mAns (mEv X call 2 t_L_law) (mDrop t_L_law 480) [some (mr 8 26), some (mr 6 18), some (mr 7 20), some (mi x3)] [] (call 241 [mr 7 20, mi s1] g) := (mEv_1 _ _ _ _).trans rfl
set_option maxRecDepth 100000 in
theorem e_L_law_480 {X : mX} {call : Nat → List mV → mG → mR} {g : mG} {x3 s0 : Int32} : mEv X call 2 t_L_law (mDrop t_L_law 480) [some (mr 8 26), some (mr 6 18), some (mr 7 20), some (mi x3)] [mi s0] g = mEv X call 2 t_L_law (mDrop t_L_law 1180) [some (mr 8 26), some (mr 6 18), some (mr 7 20), some (mi x3)] [] g := (mEv_2 _ _ _ _).trans rfl
set_option maxRecDepth 100000 in
theorem e_L_law_484 {X : mX} {call : Nat → List mV → mG → mR} {g : mG} {x3 : Int32} : mEv X call 2 t_L_law (mDrop t_L_law 484) [some (mr 8 26), some (mr 6 18), some (mr 7 20), some (mi x3)] [] g = if ((x3 + 1) : Int32) < 0 ∨ X.2 ≤ ((x3 + 1) : Int32).toNatClampNeg then none else mEv X call 2 t_L_law (mDrop t_L_law 490) [some (mr 8 26), some (mr 6 18), some (mr 7 20), some (mi x3)] [mi (X.1 ((x3 + 1)).toNatClampNeg), mr 6 18] g := (mEv_6 _ _ _ _).trans rfl
set_option maxRecDepth 100000 in
theorem e_L_law_490 {X : mX} {call : Nat → List mV → mG → mR} {g : mG} {x3 s1 : Int32} : mEv X call 2 t_L_law (mDrop t_L_law 490) [some (mr 8 26), some (mr 6 18), some (mr 7 20), some (mi x3)] [mi s1, mr 6 18] g = if ((x3 + 2) : Int32) < 0 ∨ X.2 ≤ ((x3 + 2) : Int32).toNatClampNeg then none else mEv X call 2 t_L_law (mDrop t_L_law 495) [some (mr 8 26), some (mr 6 18), some (mr 7 20), some (mi x3)] [mi (X.1 ((x3 + 2)).toNatClampNeg), mi s1, mr 6 18] g := (mEv_5 _ _ _ _).trans rfl
set_option maxRecDepth 100000 in
theorem e_L_law_495 {X : mX} {call : Nat → List mV → mG → mR} {g : mG} {x3 s1 s2 : Int32} : mEv X call 2 t_L_law (mDrop t_L_law 495) [some (mr 8 26), some (mr 6 18), some (mr 7 20), some (mi x3)] [mi s2, mi s1, mr 6 18] g = mAns (mEv X call 2 t_L_law) (mDrop t_L_law 498) [some (mr 8 26), some (mr 6 18), some (mr 7 20), some (mi x3)] [] (call 107 [mr 6 18, mi s1, mi s2] g) := (mEv_1 _ _ _ _).trans rfl
set_option maxRecDepth 100000 in
theorem e_L_law_498 {X : mX} {call : Nat → List mV → mG → mR} {g : mG} {x3 s0 : Int32} : mEv X call 2 t_L_law (mDrop t_L_law 498) [some (mr 8 26), some (mr 6 18), some (mr 7 20), some (mi x3)] [mi s0] g = if ((x3 + 1) : Int32) < 0 ∨ X.2 ≤ ((x3 + 1) : Int32).toNatClampNeg then none else mEv X call 2 t_L_law (mDrop t_L_law 505) [some (mr 8 26), some (mr 6 18), some (mr 7 20), some (mi x3)] [mi (X.1 ((x3 + 1)).toNatClampNeg), mr 7 20] g := (mEv_7 _ _ _ _).trans rfl
set_option maxRecDepth 100000 in
theorem e_L_law_505 {X : mX} {call : Nat → List mV → mG → mR} {g : mG} {x3 s1 : Int32} : mEv X call 2 t_L_law (mDrop t_L_law 505) [some (mr 8 26), some (mr 6 18), some (mr 7 20), some (mi x3)] [mi s1, mr 7 20] g = if ((x3 + 2) : Int32) < 0 ∨ X.2 ≤ ((x3 + 2) : Int32).toNatClampNeg then none else mEv X call 2 t_L_law (mDrop t_L_law 510) [some (mr 8 26), some (mr 6 18), some (mr 7 20), some (mi x3)] [mi (X.1 ((x3 + 2)).toNatClampNeg), mi s1, mr 7 20] g := (mEv_5 _ _ _ _).trans rfl
set_option maxRecDepth 100000 in
theorem e_L_law_510 {X : mX} {call : Nat → List mV → mG → mR} {g : mG} {x3 s1 s2 : Int32} : mEv X call 2 t_L_law (mDrop t_L_law 510) [some (mr 8 26), some (mr 6 18), some (mr 7 20), some (mi x3)] [mi s2, mi s1, mr 7 20] g = mAns (mEv X call 2 t_L_law) (mDrop t_L_law 513) [some (mr 8 26), some (mr 6 18), some (mr 7 20), some (mi x3)] [] (call 242 [mr 7 20, mi s1, mi s2] g) := (mEv_1 _ _ _ _).trans rfl
set_option maxRecDepth 100000 in
theorem e_L_law_513 {X : mX} {call : Nat → List mV → mG → mR} {g : mG} {x3 s0 : Int32} : mEv X call 2 t_L_law (mDrop t_L_law 513) [some (mr 8 26), some (mr 6 18), some (mr 7 20), some (mi x3)] [mi s0] g = mEv X call 2 t_L_law (mDrop t_L_law 1180) [some (mr 8 26), some (mr 6 18), some (mr 7 20), some (mi x3)] [] g := (mEv_2 _ _ _ _).trans rfl
set_option maxRecDepth 100000 in
theorem e_L_law_517 {X : mX} {call : Nat → List mV → mG → mR} {g : mG} {x3 : Int32} : mEv X call 2 t_L_law (mDrop t_L_law 517) [some (mr 8 26), some (mr 6 18), some (mr 7 20), some (mi x3)] [] g = if ((x3 + 1) : Int32) < 0 ∨ X.2 ≤ ((x3 + 1) : Int32).toNatClampNeg then none else mEv X call 2 t_L_law (mDrop t_L_law 523) [some (mr 8 26), some (mr 6 18), some (mr 7 20), some (mi x3)] [mi (X.1 ((x3 + 1)).toNatClampNeg), mr 6 18] g := (mEv_6 _ _ _ _).trans rfl
set_option maxRecDepth 100000 in
theorem e_L_law_523 {X : mX} {call : Nat → List mV → mG → mR} {g : mG} {x3 s1 : Int32} : mEv X call 2 t_L_law (mDrop t_L_law 523) [some (mr 8 26), some (mr 6 18), some (mr 7 20), some (mi x3)] [mi s1, mr 6 18] g = if ((x3 + 2) : Int32) < 0 ∨ X.2 ≤ ((x3 + 2) : Int32).toNatClampNeg then none else mEv X call 2 t_L_law (mDrop t_L_law 528) [some (mr 8 26), some (mr 6 18), some (mr 7 20), some (mi x3)] [mi (X.1 ((x3 + 2)).toNatClampNeg), mi s1, mr 6 18] g := (mEv_5 _ _ _ _).trans rfl
set_option maxRecDepth 100000 in
theorem e_L_law_528 {X : mX} {call : Nat → List mV → mG → mR} {g : mG} {x3 s1 s2 : Int32} : mEv X call 2 t_L_law (mDrop t_L_law 528) [some (mr 8 26), some (mr 6 18), some (mr 7 20), some (mi x3)] [mi s2, mi s1, mr 6 18] g = if ((x3 + 3) : Int32) < 0 ∨ X.2 ≤ ((x3 + 3) : Int32).toNatClampNeg then none else mEv X call 2 t_L_law (mDrop t_L_law 533) [some (mr 8 26), some (mr 6 18), some (mr 7 20), some (mi x3)] [mi (X.1 ((x3 + 3)).toNatClampNeg), mi s2, mi s1, mr 6 18] g := (mEv_5 _ _ _ _).trans rfl
set_option maxRecDepth 100000 in
theorem e_L_law_533 {X : mX} {call : Nat → List mV → mG → mR} {g : mG} {x3 s1 s2 s3 : Int32} : mEv X call 2 t_L_law (mDrop t_L_law 533) [some (mr 8 26), some (mr 6 18), some (mr 7 20), some (mi x3)] [mi s3, mi s2, mi s1, mr 6 18] g = mAns (mEv X call 2 t_L_law) (mDrop t_L_law 536) [some (mr 8 26), some (mr 6 18), some (mr 7 20), some (mi x3)] [] (call 108 [mr 6 18, mi s1, mi s2, mi s3] g) := (mEv_1 _ _ _ _).trans rfl
set_option maxRecDepth 100000 in
theorem e_L_law_536 {X : mX} {call : Nat → List mV → mG → mR} {g : mG} {x3 s0 : Int32} : mEv X call 2 t_L_law (mDrop t_L_law 536) [some (mr 8 26), some (mr 6 18), some (mr 7 20), some (mi x3)] [mi s0] g = if ((x3 + 1) : Int32) < 0 ∨ X.2 ≤ ((x3 + 1) : Int32).toNatClampNeg then none else mEv X call 2 t_L_law (mDrop t_L_law 543) [some (mr 8 26), some (mr 6 18), some (mr 7 20), some (mi x3)] [mi (X.1 ((x3 + 1)).toNatClampNeg), mr 7 20] g := (mEv_7 _ _ _ _).trans rfl
set_option maxRecDepth 100000 in
theorem e_L_law_543 {X : mX} {call : Nat → List mV → mG → mR} {g : mG} {x3 s1 : Int32} : mEv X call 2 t_L_law (mDrop t_L_law 543) [some (mr 8 26), some (mr 6 18), some (mr 7 20), some (mi x3)] [mi s1, mr 7 20] g = if ((x3 + 2) : Int32) < 0 ∨ X.2 ≤ ((x3 + 2) : Int32).toNatClampNeg then none else mEv X call 2 t_L_law (mDrop t_L_law 548) [some (mr 8 26), some (mr 6 18), some (mr 7 20), some (mi x3)] [mi (X.1 ((x3 + 2)).toNatClampNeg), mi s1, mr 7 20] g := (mEv_5 _ _ _ _).trans rfl
set_option maxRecDepth 100000 in
theorem e_L_law_548 {X : mX} {call : Nat → List mV → mG → mR} {g : mG} {x3 s1 s2 : Int32} : mEv X call 2 t_L_law (mDrop t_L_law 548) [some (mr 8 26), some (mr 6 18), some (mr 7 20), some (mi x3)] [mi s2, mi s1, mr 7 20] g = if ((x3 + 3) : Int32) < 0 ∨ X.2 ≤ ((x3 + 3) : Int32).toNatClampNeg then none else mEv X call 2 t_L_law (mDrop t_L_law 553) [some (mr 8 26), some (mr 6 18), some (mr 7 20), some (mi x3)] [mi (X.1 ((x3 + 3)).toNatClampNeg), mi s2, mi s1, mr 7 20] g := (mEv_5 _ _ _ _).trans rfl
set_option maxRecDepth 100000 in
theorem e_L_law_553 {X : mX} {call : Nat → List mV → mG → mR} {g : mG} {x3 s1 s2 s3 : Int32} : mEv X call 2 t_L_law (mDrop t_L_law 553) [some (mr 8 26), some (mr 6 18), some (mr 7 20), some (mi x3)] [mi s3, mi s2, mi s1, mr 7 20] g = mAns (mEv X call 2 t_L_law) (mDrop t_L_law 556) [some (mr 8 26), some (mr 6 18), some (mr 7 20), some (mi x3)] [] (call 243 [mr 7 20, mi s1, mi s2, mi s3] g) := (mEv_1 _ _ _ _).trans rfl
set_option maxRecDepth 100000 in
theorem e_L_law_556 {X : mX} {call : Nat → List mV → mG → mR} {g : mG} {x3 s0 : Int32} : mEv X call 2 t_L_law (mDrop t_L_law 556) [some (mr 8 26), some (mr 6 18), some (mr 7 20), some (mi x3)] [mi s0] g = mEv X call 2 t_L_law (mDrop t_L_law 1180) [some (mr 8 26), some (mr 6 18), some (mr 7 20), some (mi x3)] [] g := (mEv_2 _ _ _ _).trans rfl
set_option maxRecDepth 100000 in
theorem e_L_law_560 {X : mX} {call : Nat → List mV → mG → mR} {g : mG} {x3 : Int32} : mEv X call 2 t_L_law (mDrop t_L_law 560) [some (mr 8 26), some (mr 6 18), some (mr 7 20), some (mi x3)] [] g = if ((x3 + 1) : Int32) < 0 ∨ X.2 ≤ ((x3 + 1) : Int32).toNatClampNeg then none else mEv X call 2 t_L_law (mDrop t_L_law 566) [some (mr 8 26), some (mr 6 18), some (mr 7 20), some (mi x3)] [mi (X.1 ((x3 + 1)).toNatClampNeg), mr 6 18] g := (mEv_6 _ _ _ _).trans rfl
set_option maxRecDepth 100000 in
theorem e_L_law_566 {X : mX} {call : Nat → List mV → mG → mR} {g : mG} {x3 s1 : Int32} : mEv X call 2 t_L_law (mDrop t_L_law 566) [some (mr 8 26), some (mr 6 18), some (mr 7 20), some (mi x3)] [mi s1, mr 6 18] g = if ((x3 + 2) : Int32) < 0 ∨ X.2 ≤ ((x3 + 2) : Int32).toNatClampNeg then none else mEv X call 2 t_L_law (mDrop t_L_law 571) [some (mr 8 26), some (mr 6 18), some (mr 7 20), some (mi x3)] [mi (X.1 ((x3 + 2)).toNatClampNeg), mi s1, mr 6 18] g := (mEv_5 _ _ _ _).trans rfl
set_option maxRecDepth 100000 in
theorem e_L_law_571 {X : mX} {call : Nat → List mV → mG → mR} {g : mG} {x3 s1 s2 : Int32} : mEv X call 2 t_L_law (mDrop t_L_law 571) [some (mr 8 26), some (mr 6 18), some (mr 7 20), some (mi x3)] [mi s2, mi s1, mr 6 18] g = mAns (mEv X call 2 t_L_law) (mDrop t_L_law 574) [some (mr 8 26), some (mr 6 18), some (mr 7 20), some (mi x3)] [] (call 109 [mr 6 18, mi s1, mi s2] g) := (mEv_1 _ _ _ _).trans rfl
set_option maxRecDepth 100000 in
theorem e_L_law_574 {X : mX} {call : Nat → List mV → mG → mR} {g : mG} {x3 s0 : Int32} : mEv X call 2 t_L_law (mDrop t_L_law 574) [some (mr 8 26), some (mr 6 18), some (mr 7 20), some (mi x3)] [mi s0] g = if ((x3 + 1) : Int32) < 0 ∨ X.2 ≤ ((x3 + 1) : Int32).toNatClampNeg then none else mEv X call 2 t_L_law (mDrop t_L_law 581) [some (mr 8 26), some (mr 6 18), some (mr 7 20), some (mi x3)] [mi (X.1 ((x3 + 1)).toNatClampNeg), mr 7 20] g := (mEv_7 _ _ _ _).trans rfl
set_option maxRecDepth 100000 in
theorem e_L_law_581 {X : mX} {call : Nat → List mV → mG → mR} {g : mG} {x3 s1 : Int32} : mEv X call 2 t_L_law (mDrop t_L_law 581) [some (mr 8 26), some (mr 6 18), some (mr 7 20), some (mi x3)] [mi s1, mr 7 20] g = if ((x3 + 2) : Int32) < 0 ∨ X.2 ≤ ((x3 + 2) : Int32).toNatClampNeg then none else mEv X call 2 t_L_law (mDrop t_L_law 586) [some (mr 8 26), some (mr 6 18), some (mr 7 20), some (mi x3)] [mi (X.1 ((x3 + 2)).toNatClampNeg), mi s1, mr 7 20] g := (mEv_5 _ _ _ _).trans rfl
set_option maxRecDepth 100000 in
theorem e_L_law_586 {X : mX} {call : Nat → List mV → mG → mR} {g : mG} {x3 s1 s2 : Int32} : mEv X call 2 t_L_law (mDrop t_L_law 586) [some (mr 8 26), some (mr 6 18), some (mr 7 20), some (mi x3)] [mi s2, mi s1, mr 7 20] g = mAns (mEv X call 2 t_L_law) (mDrop t_L_law 589) [some (mr 8 26), some (mr 6 18), some (mr 7 20), some (mi x3)] [] (call 244 [mr 7 20, mi s1, mi s2] g) := (mEv_1 _ _ _ _).trans rfl
set_option maxRecDepth 100000 in
theorem e_L_law_589 {X : mX} {call : Nat → List mV → mG → mR} {g : mG} {x3 s0 : Int32} : mEv X call 2 t_L_law (mDrop t_L_law 589) [some (mr 8 26), some (mr 6 18), some (mr 7 20), some (mi x3)] [mi s0] g = mEv X call 2 t_L_law (mDrop t_L_law 1180) [some (mr 8 26), some (mr 6 18), some (mr 7 20), some (mi x3)] [] g := (mEv_2 _ _ _ _).trans rfl
set_option maxRecDepth 100000 in
theorem e_L_law_593 {X : mX} {call : Nat → List mV → mG → mR} {g : mG} {x3 : Int32} : mEv X call 2 t_L_law (mDrop t_L_law 593) [some (mr 8 26), some (mr 6 18), some (mr 7 20), some (mi x3)] [] g = if ((x3 + 1) : Int32) < 0 ∨ X.2 ≤ ((x3 + 1) : Int32).toNatClampNeg then none else mEv X call 2 t_L_law (mDrop t_L_law 599) [some (mr 8 26), some (mr 6 18), some (mr 7 20), some (mi x3)] [mi (X.1 ((x3 + 1)).toNatClampNeg), mr 6 18] g := (mEv_6 _ _ _ _).trans rfl
set_option maxRecDepth 100000 in
theorem e_L_law_599 {X : mX} {call : Nat → List mV → mG → mR} {g : mG} {x3 s1 : Int32} : mEv X call 2 t_L_law (mDrop t_L_law 599) [some (mr 8 26), some (mr 6 18), some (mr 7 20), some (mi x3)] [mi s1, mr 6 18] g = if ((x3 + 2) : Int32) < 0 ∨ X.2 ≤ ((x3 + 2) : Int32).toNatClampNeg then none else mEv X call 2 t_L_law (mDrop t_L_law 604) [some (mr 8 26), some (mr 6 18), some (mr 7 20), some (mi x3)] [mi (X.1 ((x3 + 2)).toNatClampNeg), mi s1, mr 6 18] g := (mEv_5 _ _ _ _).trans rfl
set_option maxRecDepth 100000 in
theorem e_L_law_604 {X : mX} {call : Nat → List mV → mG → mR} {g : mG} {x3 s1 s2 : Int32} : mEv X call 2 t_L_law (mDrop t_L_law 604) [some (mr 8 26), some (mr 6 18), some (mr 7 20), some (mi x3)] [mi s2, mi s1, mr 6 18] g = if s2 = 0 then mEv X call 2 t_L_law (mDrop t_L_law 611) [some (mr 8 26), some (mr 6 18), some (mr 7 20), some (mi x3)] [mi s1, mr 6 18] g else mEv X call 2 t_L_law (mDrop t_L_law 607) [some (mr 8 26), some (mr 6 18), some (mr 7 20), some (mi x3)] [mi s1, mr 6 18] g := (mEv_1 _ _ _ _).trans rfl
set_option maxRecDepth 100000 in
theorem e_L_law_611 {X : mX} {call : Nat → List mV → mG → mR} {g : mG} {x3 s1 : Int32} : mEv X call 2 t_L_law (mDrop t_L_law 611) [some (mr 8 26), some (mr 6 18), some (mr 7 20), some (mi x3)] [mi s1, mr 6 18] g = mEv X call 2 t_L_law (mDrop t_L_law 612) [some (mr 8 26), some (mr 6 18), some (mr 7 20), some (mi x3)] [mi 0, mi s1, mr 6 18] g := (mEv_1 _ _ _ _).trans rfl
set_option maxRecDepth 100000 in
theorem e_L_law_612 {X : mX} {call : Nat → List mV → mG → mR} {g : mG} {x3 s1 s2 : Int32} : mEv X call 2 t_L_law (mDrop t_L_law 612) [some (mr 8 26), some (mr 6 18), some (mr 7 20), some (mi x3)] [mi s2, mi s1, mr 6 18] g = mAns (mEv X call 2 t_L_law) (mDrop t_L_law 615) [some (mr 8 26), some (mr 6 18), some (mr 7 20), some (mi x3)] [] (call 110 [mr 6 18, mi s1, mi s2] g) := (mEv_1 _ _ _ _).trans rfl
set_option maxRecDepth 100000 in
theorem e_L_law_615 {X : mX} {call : Nat → List mV → mG → mR} {g : mG} {x3 s0 : Int32} : mEv X call 2 t_L_law (mDrop t_L_law 615) [some (mr 8 26), some (mr 6 18), some (mr 7 20), some (mi x3)] [mi s0] g = if ((x3 + 1) : Int32) < 0 ∨ X.2 ≤ ((x3 + 1) : Int32).toNatClampNeg then none else mEv X call 2 t_L_law (mDrop t_L_law 622) [some (mr 8 26), some (mr 6 18), some (mr 7 20), some (mi x3)] [mi (X.1 ((x3 + 1)).toNatClampNeg), mr 7 20] g := (mEv_7 _ _ _ _).trans rfl
set_option maxRecDepth 100000 in
theorem e_L_law_622 {X : mX} {call : Nat → List mV → mG → mR} {g : mG} {x3 s1 : Int32} : mEv X call 2 t_L_law (mDrop t_L_law 622) [some (mr 8 26), some (mr 6 18), some (mr 7 20), some (mi x3)] [mi s1, mr 7 20] g = if ((x3 + 2) : Int32) < 0 ∨ X.2 ≤ ((x3 + 2) : Int32).toNatClampNeg then none else mEv X call 2 t_L_law (mDrop t_L_law 627) [some (mr 8 26), some (mr 6 18), some (mr 7 20), some (mi x3)] [mi (X.1 ((x3 + 2)).toNatClampNeg), mi s1, mr 7 20] g := (mEv_5 _ _ _ _).trans rfl
set_option maxRecDepth 100000 in
theorem e_L_law_627 {X : mX} {call : Nat → List mV → mG → mR} {g : mG} {x3 s1 s2 : Int32} : mEv X call 2 t_L_law (mDrop t_L_law 627) [some (mr 8 26), some (mr 6 18), some (mr 7 20), some (mi x3)] [mi s2, mi s1, mr 7 20] g = if s2 = 0 then mEv X call 2 t_L_law (mDrop t_L_law 634) [some (mr 8 26), some (mr 6 18), some (mr 7 20), some (mi x3)] [mi s1, mr 7 20] g else mEv X call 2 t_L_law (mDrop t_L_law 630) [some (mr 8 26), some (mr 6 18), some (mr 7 20), some (mi x3)] [mi s1, mr 7 20] g := (mEv_1 _ _ _ _).trans rfl
set_option maxRecDepth 100000 in
theorem e_L_law_634 {X : mX} {call : Nat → List mV → mG → mR} {g : mG} {x3 s1 : Int32} : mEv X call 2 t_L_law (mDrop t_L_law 634) [some (mr 8 26), some (mr 6 18), some (mr 7 20), some (mi x3)] [mi s1, mr 7 20] g = mEv X call 2 t_L_law (mDrop t_L_law 635) [some (mr 8 26), some (mr 6 18), some (mr 7 20), some (mi x3)] [mi 0, mi s1, mr 7 20] g := (mEv_1 _ _ _ _).trans rfl
set_option maxRecDepth 100000 in
theorem e_L_law_635 {X : mX} {call : Nat → List mV → mG → mR} {g : mG} {x3 s1 s2 : Int32} : mEv X call 2 t_L_law (mDrop t_L_law 635) [some (mr 8 26), some (mr 6 18), some (mr 7 20), some (mi x3)] [mi s2, mi s1, mr 7 20] g = mAns (mEv X call 2 t_L_law) (mDrop t_L_law 638) [some (mr 8 26), some (mr 6 18), some (mr 7 20), some (mi x3)] [] (call 246 [mr 7 20, mi s1, mi s2] g) := (mEv_1 _ _ _ _).trans rfl
set_option maxRecDepth 100000 in
theorem e_L_law_638 {X : mX} {call : Nat → List mV → mG → mR} {g : mG} {x3 s0 : Int32} : mEv X call 2 t_L_law (mDrop t_L_law 638) [some (mr 8 26), some (mr 6 18), some (mr 7 20), some (mi x3)] [mi s0] g = mEv X call 2 t_L_law (mDrop t_L_law 1180) [some (mr 8 26), some (mr 6 18), some (mr 7 20), some (mi x3)] [] g := (mEv_2 _ _ _ _).trans rfl
set_option maxRecDepth 100000 in
theorem e_L_law_607 {X : mX} {call : Nat → List mV → mG → mR} {g : mG} {x3 s1 : Int32} : mEv X call 2 t_L_law (mDrop t_L_law 607) [some (mr 8 26), some (mr 6 18), some (mr 7 20), some (mi x3)] [mi s1, mr 6 18] g = mEv X call 2 t_L_law (mDrop t_L_law 612) [some (mr 8 26), some (mr 6 18), some (mr 7 20), some (mi x3)] [mi 1, mi s1, mr 6 18] g := (mEv_2 _ _ _ _).trans rfl
set_option maxRecDepth 100000 in
theorem e_L_law_630 {X : mX} {call : Nat → List mV → mG → mR} {g : mG} {x3 s1 : Int32} : mEv X call 2 t_L_law (mDrop t_L_law 630) [some (mr 8 26), some (mr 6 18), some (mr 7 20), some (mi x3)] [mi s1, mr 7 20] g = mEv X call 2 t_L_law (mDrop t_L_law 635) [some (mr 8 26), some (mr 6 18), some (mr 7 20), some (mi x3)] [mi 1, mi s1, mr 7 20] g := (mEv_2 _ _ _ _).trans rfl
set_option maxRecDepth 100000 in
theorem e_L_law_642 {X : mX} {call : Nat → List mV → mG → mR} {g : mG} {x3 : Int32} : mEv X call 2 t_L_law (mDrop t_L_law 642) [some (mr 8 26), some (mr 6 18), some (mr 7 20), some (mi x3)] [] g = if ((x3 + 1) : Int32) < 0 ∨ X.2 ≤ ((x3 + 1) : Int32).toNatClampNeg then none else mEv X call 2 t_L_law (mDrop t_L_law 648) [some (mr 8 26), some (mr 6 18), some (mr 7 20), some (mi x3)] [mi (X.1 ((x3 + 1)).toNatClampNeg), mr 6 18] g := (mEv_6 _ _ _ _).trans rfl
set_option maxRecDepth 100000 in
theorem e_L_law_648 {X : mX} {call : Nat → List mV → mG → mR} {g : mG} {x3 s1 : Int32} : mEv X call 2 t_L_law (mDrop t_L_law 648) [some (mr 8 26), some (mr 6 18), some (mr 7 20), some (mi x3)] [mi s1, mr 6 18] g = if ((x3 + 2) : Int32) < 0 ∨ X.2 ≤ ((x3 + 2) : Int32).toNatClampNeg then none else mEv X call 2 t_L_law (mDrop t_L_law 653) [some (mr 8 26), some (mr 6 18), some (mr 7 20), some (mi x3)] [mi (X.1 ((x3 + 2)).toNatClampNeg), mi s1, mr 6 18] g := (mEv_5 _ _ _ _).trans rfl
set_option maxRecDepth 100000 in
theorem e_L_law_653 {X : mX} {call : Nat → List mV → mG → mR} {g : mG} {x3 s1 s2 : Int32} : mEv X call 2 t_L_law (mDrop t_L_law 653) [some (mr 8 26), some (mr 6 18), some (mr 7 20), some (mi x3)] [mi s2, mi s1, mr 6 18] g = mAns (mEv X call 2 t_L_law) (mDrop t_L_law 656) [some (mr 8 26), some (mr 6 18), some (mr 7 20), some (mi x3)] [] (call 111 [mr 6 18, mi s1, mi s2] g) := (mEv_1 _ _ _ _).trans rfl
set_option maxRecDepth 100000 in
theorem e_L_law_656 {X : mX} {call : Nat → List mV → mG → mR} {g : mG} {x3 s0 : Int32} : mEv X call 2 t_L_law (mDrop t_L_law 656) [some (mr 8 26), some (mr 6 18), some (mr 7 20), some (mi x3)] [mi s0] g = if ((x3 + 1) : Int32) < 0 ∨ X.2 ≤ ((x3 + 1) : Int32).toNatClampNeg then none else mEv X call 2 t_L_law (mDrop t_L_law 663) [some (mr 8 26), some (mr 6 18), some (mr 7 20), some (mi x3)] [mi (X.1 ((x3 + 1)).toNatClampNeg), mr 7 20] g := (mEv_7 _ _ _ _).trans rfl
set_option maxRecDepth 100000 in
theorem e_L_law_663 {X : mX} {call : Nat → List mV → mG → mR} {g : mG} {x3 s1 : Int32} : mEv X call 2 t_L_law (mDrop t_L_law 663) [some (mr 8 26), some (mr 6 18), some (mr 7 20), some (mi x3)] [mi s1, mr 7 20] g = if ((x3 + 2) : Int32) < 0 ∨ X.2 ≤ ((x3 + 2) : Int32).toNatClampNeg then none else mEv X call 2 t_L_law (mDrop t_L_law 668) [some (mr 8 26), some (mr 6 18), some (mr 7 20), some (mi x3)] [mi (X.1 ((x3 + 2)).toNatClampNeg), mi s1, mr 7 20] g := (mEv_5 _ _ _ _).trans rfl
set_option maxRecDepth 100000 in
theorem e_L_law_668 {X : mX} {call : Nat → List mV → mG → mR} {g : mG} {x3 s1 s2 : Int32} : mEv X call 2 t_L_law (mDrop t_L_law 668) [some (mr 8 26), some (mr 6 18), some (mr 7 20), some (mi x3)] [mi s2, mi s1, mr 7 20] g = mAns (mEv X call 2 t_L_law) (mDrop t_L_law 671) [some (mr 8 26), some (mr 6 18), some (mr 7 20), some (mi x3)] [] (call 247 [mr 7 20, mi s1, mi s2] g) := (mEv_1 _ _ _ _).trans rfl
set_option maxRecDepth 100000 in
theorem e_L_law_671 {X : mX} {call : Nat → List mV → mG → mR} {g : mG} {x3 s0 : Int32} : mEv X call 2 t_L_law (mDrop t_L_law 671) [some (mr 8 26), some (mr 6 18), some (mr 7 20), some (mi x3)] [mi s0] g = mEv X call 2 t_L_law (mDrop t_L_law 1180) [some (mr 8 26), some (mr 6 18), some (mr 7 20), some (mi x3)] [] g := (mEv_2 _ _ _ _).trans rfl
set_option maxRecDepth 100000 in
theorem e_L_law_675 {X : mX} {call : Nat → List mV → mG → mR} {g : mG} {x3 : Int32} : mEv X call 2 t_L_law (mDrop t_L_law 675) [some (mr 8 26), some (mr 6 18), some (mr 7 20), some (mi x3)] [] g = if ((x3 + 1) : Int32) < 0 ∨ X.2 ≤ ((x3 + 1) : Int32).toNatClampNeg then none else mEv X call 2 t_L_law (mDrop t_L_law 681) [some (mr 8 26), some (mr 6 18), some (mr 7 20), some (mi x3)] [mi (X.1 ((x3 + 1)).toNatClampNeg), mr 6 18] g := (mEv_6 _ _ _ _).trans rfl
set_option maxRecDepth 100000 in
theorem e_L_law_681 {X : mX} {call : Nat → List mV → mG → mR} {g : mG} {x3 s1 : Int32} : mEv X call 2 t_L_law (mDrop t_L_law 681) [some (mr 8 26), some (mr 6 18), some (mr 7 20), some (mi x3)] [mi s1, mr 6 18] g = mAns (mEv X call 2 t_L_law) (mDrop t_L_law 684) [some (mr 8 26), some (mr 6 18), some (mr 7 20), some (mi x3)] [] (call 112 [mr 6 18, mi s1] g) := (mEv_1 _ _ _ _).trans rfl
set_option maxRecDepth 100000 in
theorem e_L_law_684 {X : mX} {call : Nat → List mV → mG → mR} {g : mG} {x3 s0 : Int32} : mEv X call 2 t_L_law (mDrop t_L_law 684) [some (mr 8 26), some (mr 6 18), some (mr 7 20), some (mi x3)] [mi s0] g = if ((x3 + 1) : Int32) < 0 ∨ X.2 ≤ ((x3 + 1) : Int32).toNatClampNeg then none else mEv X call 2 t_L_law (mDrop t_L_law 691) [some (mr 8 26), some (mr 6 18), some (mr 7 20), some (mi x3)] [mi (X.1 ((x3 + 1)).toNatClampNeg), mr 7 20] g := (mEv_7 _ _ _ _).trans rfl
set_option maxRecDepth 100000 in
theorem e_L_law_691 {X : mX} {call : Nat → List mV → mG → mR} {g : mG} {x3 s1 : Int32} : mEv X call 2 t_L_law (mDrop t_L_law 691) [some (mr 8 26), some (mr 6 18), some (mr 7 20), some (mi x3)] [mi s1, mr 7 20] g = mAns (mEv X call 2 t_L_law) (mDrop t_L_law 694) [some (mr 8 26), some (mr 6 18), some (mr 7 20), some (mi x3)] [] (call 249 [mr 7 20, mi s1] g) := (mEv_1 _ _ _ _).trans rfl
set_option maxRecDepth 100000 in
theorem e_L_law_694 {X : mX} {call : Nat → List mV → mG → mR} {g : mG} {x3 s0 : Int32} : mEv X call 2 t_L_law (mDrop t_L_law 694) [some (mr 8 26), some (mr 6 18), some (mr 7 20), some (mi x3)] [mi s0] g = mEv X call 2 t_L_law (mDrop t_L_law 1180) [some (mr 8 26), some (mr 6 18), some (mr 7 20), some (mi x3)] [] g := (mEv_2 _ _ _ _).trans rfl
set_option maxRecDepth 100000 in
theorem e_L_law_698 {X : mX} {call : Nat → List mV → mG → mR} {g : mG} {x3 : Int32} : mEv X call 2 t_L_law (mDrop t_L_law 698) [some (mr 8 26), some (mr 6 18), some (mr 7 20), some (mi x3)] [] g = if ((x3 + 1) : Int32) < 0 ∨ X.2 ≤ ((x3 + 1) : Int32).toNatClampNeg then none else mEv X call 2 t_L_law (mDrop t_L_law 704) [some (mr 8 26), some (mr 6 18), some (mr 7 20), some (mi x3)] [mi (X.1 ((x3 + 1)).toNatClampNeg), mr 6 18] g := (mEv_6 _ _ _ _).trans rfl
set_option maxRecDepth 100000 in
theorem e_L_law_704 {X : mX} {call : Nat → List mV → mG → mR} {g : mG} {x3 s1 : Int32} : mEv X call 2 t_L_law (mDrop t_L_law 704) [some (mr 8 26), some (mr 6 18), some (mr 7 20), some (mi x3)] [mi s1, mr 6 18] g = mAns (mEv X call 2 t_L_law) (mDrop t_L_law 707) [some (mr 8 26), some (mr 6 18), some (mr 7 20), some (mi x3)] [] (call 113 [mr 6 18, mi s1] g) := (mEv_1 _ _ _ _).trans rfl
set_option maxRecDepth 100000 in
theorem e_L_law_707 {X : mX} {call : Nat → List mV → mG → mR} {g : mG} {x3 s0 : Int32} : mEv X call 2 t_L_law (mDrop t_L_law 707) [some (mr 8 26), some (mr 6 18), some (mr 7 20), some (mi x3)] [mi s0] g = if ((x3 + 1) : Int32) < 0 ∨ X.2 ≤ ((x3 + 1) : Int32).toNatClampNeg then none else mEv X call 2 t_L_law (mDrop t_L_law 714) [some (mr 8 26), some (mr 6 18), some (mr 7 20), some (mi x3)] [mi (X.1 ((x3 + 1)).toNatClampNeg), mr 7 20] g := (mEv_7 _ _ _ _).trans rfl
set_option maxRecDepth 100000 in
theorem e_L_law_714 {X : mX} {call : Nat → List mV → mG → mR} {g : mG} {x3 s1 : Int32} : mEv X call 2 t_L_law (mDrop t_L_law 714) [some (mr 8 26), some (mr 6 18), some (mr 7 20), some (mi x3)] [mi s1, mr 7 20] g = mAns (mEv X call 2 t_L_law) (mDrop t_L_law 717) [some (mr 8 26), some (mr 6 18), some (mr 7 20), some (mi x3)] [] (call 250 [mr 7 20, mi s1] g) := (mEv_1 _ _ _ _).trans rfl
set_option maxRecDepth 100000 in
theorem e_L_law_717 {X : mX} {call : Nat → List mV → mG → mR} {g : mG} {x3 s0 : Int32} : mEv X call 2 t_L_law (mDrop t_L_law 717) [some (mr 8 26), some (mr 6 18), some (mr 7 20), some (mi x3)] [mi s0] g = mEv X call 2 t_L_law (mDrop t_L_law 1180) [some (mr 8 26), some (mr 6 18), some (mr 7 20), some (mi x3)] [] g := (mEv_2 _ _ _ _).trans rfl
set_option maxRecDepth 100000 in
theorem e_L_law_721 {X : mX} {call : Nat → List mV → mG → mR} {g : mG} {x3 : Int32} : mEv X call 2 t_L_law (mDrop t_L_law 721) [some (mr 8 26), some (mr 6 18), some (mr 7 20), some (mi x3)] [] g = if ((x3 + 1) : Int32) < 0 ∨ X.2 ≤ ((x3 + 1) : Int32).toNatClampNeg then none else mEv X call 2 t_L_law (mDrop t_L_law 727) [some (mr 8 26), some (mr 6 18), some (mr 7 20), some (mi x3)] [mi (X.1 ((x3 + 1)).toNatClampNeg), mr 6 18] g := (mEv_6 _ _ _ _).trans rfl
set_option maxRecDepth 100000 in
theorem e_L_law_727 {X : mX} {call : Nat → List mV → mG → mR} {g : mG} {x3 s1 : Int32} : mEv X call 2 t_L_law (mDrop t_L_law 727) [some (mr 8 26), some (mr 6 18), some (mr 7 20), some (mi x3)] [mi s1, mr 6 18] g = if ((x3 + 2) : Int32) < 0 ∨ X.2 ≤ ((x3 + 2) : Int32).toNatClampNeg then none else mEv X call 2 t_L_law (mDrop t_L_law 732) [some (mr 8 26), some (mr 6 18), some (mr 7 20), some (mi x3)] [mi (X.1 ((x3 + 2)).toNatClampNeg), mi s1, mr 6 18] g := (mEv_5 _ _ _ _).trans rfl
set_option maxRecDepth 100000 in
theorem e_L_law_732 {X : mX} {call : Nat → List mV → mG → mR} {g : mG} {x3 s1 s2 : Int32} : mEv X call 2 t_L_law (mDrop t_L_law 732) [some (mr 8 26), some (mr 6 18), some (mr 7 20), some (mi x3)] [mi s2, mi s1, mr 6 18] g = if ((x3 + 3) : Int32) < 0 ∨ X.2 ≤ ((x3 + 3) : Int32).toNatClampNeg then none else mEv X call 2 t_L_law (mDrop t_L_law 737) [some (mr 8 26), some (mr 6 18), some (mr 7 20), some (mi x3)] [mi (X.1 ((x3 + 3)).toNatClampNeg), mi s2, mi s1, mr 6 18] g := (mEv_5 _ _ _ _).trans rfl
set_option maxRecDepth 100000 in
theorem e_L_law_737 {X : mX} {call : Nat → List mV → mG → mR} {g : mG} {x3 s1 s2 s3 : Int32} : mEv X call 2 t_L_law (mDrop t_L_law 737) [some (mr 8 26), some (mr 6 18), some (mr 7 20), some (mi x3)] [mi s3, mi s2, mi s1, mr 6 18] g = if ((x3 + 4) : Int32) < 0 ∨ X.2 ≤ ((x3 + 4) : Int32).toNatClampNeg then none else mEv X call 2 t_L_law (mDrop t_L_law 742) [some (mr 8 26), some (mr 6 18), some (mr 7 20), some (mi x3)] [mi (X.1 ((x3 + 4)).toNatClampNeg), mi s3, mi s2, mi s1, mr 6 18] g := (mEv_5 _ _ _ _).trans rfl
set_option maxRecDepth 100000 in
theorem e_L_law_742 {X : mX} {call : Nat → List mV → mG → mR} {g : mG} {x3 s1 s2 s3 s4 : Int32} : mEv X call 2 t_L_law (mDrop t_L_law 742) [some (mr 8 26), some (mr 6 18), some (mr 7 20), some (mi x3)] [mi s4, mi s3, mi s2, mi s1, mr 6 18] g = if ((x3 + 5) : Int32) < 0 ∨ X.2 ≤ ((x3 + 5) : Int32).toNatClampNeg then none else mEv X call 2 t_L_law (mDrop t_L_law 747) [some (mr 8 26), some (mr 6 18), some (mr 7 20), some (mi x3)] [mi (X.1 ((x3 + 5)).toNatClampNeg), mi s4, mi s3, mi s2, mi s1, mr 6 18] g := (mEv_5 _ _ _ _).trans rfl
set_option maxRecDepth 100000 in
theorem e_L_law_747 {X : mX} {call : Nat → List mV → mG → mR} {g : mG} {x3 s1 s2 s3 s4 s5 : Int32} : mEv X call 2 t_L_law (mDrop t_L_law 747) [some (mr 8 26), some (mr 6 18), some (mr 7 20), some (mi x3)] [mi s5, mi s4, mi s3, mi s2, mi s1, mr 6 18] g = if ((x3 + 6) : Int32) < 0 ∨ X.2 ≤ ((x3 + 6) : Int32).toNatClampNeg then none else mEv X call 2 t_L_law (mDrop t_L_law 753) [some (mr 8 26), some (mr 6 18), some (mr 7 20), some (mi x3)] [mi (X.1 ((x3 + 6)).toNatClampNeg), mi s5, mi s4, mi s3, mi s2, mi s1, mr 6 18] g := (mEv_5 _ _ _ _).trans rfl
set_option maxRecDepth 100000 in
theorem e_L_law_753 {X : mX} {call : Nat → List mV → mG → mR} {g : mG} {x3 s1 s2 s3 s4 s5 s6 : Int32} : mEv X call 2 t_L_law (mDrop t_L_law 753) [some (mr 8 26), some (mr 6 18), some (mr 7 20), some (mi x3)] [mi s6, mi s5, mi s4, mi s3, mi s2, mi s1, mr 6 18] g = mAns (mEv X call 2 t_L_law) (mDrop t_L_law 756) [some (mr 8 26), some (mr 6 18), some (mr 7 20), some (mi x3)] [] (call 114 [mr 6 18, mi s1, mi s2, mi s3, mi s4, mi s5, mi s6] g) := (mEv_1 _ _ _ _).trans rfl
set_option maxRecDepth 100000 in
theorem e_L_law_756 {X : mX} {call : Nat → List mV → mG → mR} {g : mG} {x3 s0 : Int32} : mEv X call 2 t_L_law (mDrop t_L_law 756) [some (mr 8 26), some (mr 6 18), some (mr 7 20), some (mi x3)] [mi s0] g = if ((x3 + 1) : Int32) < 0 ∨ X.2 ≤ ((x3 + 1) : Int32).toNatClampNeg then none else mEv X call 2 t_L_law (mDrop t_L_law 763) [some (mr 8 26), some (mr 6 18), some (mr 7 20), some (mi x3)] [mi (X.1 ((x3 + 1)).toNatClampNeg), mr 7 20] g := (mEv_7 _ _ _ _).trans rfl
set_option maxRecDepth 100000 in
theorem e_L_law_763 {X : mX} {call : Nat → List mV → mG → mR} {g : mG} {x3 s1 : Int32} : mEv X call 2 t_L_law (mDrop t_L_law 763) [some (mr 8 26), some (mr 6 18), some (mr 7 20), some (mi x3)] [mi s1, mr 7 20] g = if ((x3 + 2) : Int32) < 0 ∨ X.2 ≤ ((x3 + 2) : Int32).toNatClampNeg then none else mEv X call 2 t_L_law (mDrop t_L_law 768) [some (mr 8 26), some (mr 6 18), some (mr 7 20), some (mi x3)] [mi (X.1 ((x3 + 2)).toNatClampNeg), mi s1, mr 7 20] g := (mEv_5 _ _ _ _).trans rfl
set_option maxRecDepth 100000 in
theorem e_L_law_768 {X : mX} {call : Nat → List mV → mG → mR} {g : mG} {x3 s1 s2 : Int32} : mEv X call 2 t_L_law (mDrop t_L_law 768) [some (mr 8 26), some (mr 6 18), some (mr 7 20), some (mi x3)] [mi s2, mi s1, mr 7 20] g = if ((x3 + 3) : Int32) < 0 ∨ X.2 ≤ ((x3 + 3) : Int32).toNatClampNeg then none else mEv X call 2 t_L_law (mDrop t_L_law 773) [some (mr 8 26), some (mr 6 18), some (mr 7 20), some (mi x3)] [mi (X.1 ((x3 + 3)).toNatClampNeg), mi s2, mi s1, mr 7 20] g := (mEv_5 _ _ _ _).trans rfl
set_option maxRecDepth 100000 in
theorem e_L_law_773 {X : mX} {call : Nat → List mV → mG → mR} {g : mG} {x3 s1 s2 s3 : Int32} : mEv X call 2 t_L_law (mDrop t_L_law 773) [some (mr 8 26), some (mr 6 18), some (mr 7 20), some (mi x3)] [mi s3, mi s2, mi s1, mr 7 20] g = if ((x3 + 4) : Int32) < 0 ∨ X.2 ≤ ((x3 + 4) : Int32).toNatClampNeg then none else mEv X call 2 t_L_law (mDrop t_L_law 778) [some (mr 8 26), some (mr 6 18), some (mr 7 20), some (mi x3)] [mi (X.1 ((x3 + 4)).toNatClampNeg), mi s3, mi s2, mi s1, mr 7 20] g := (mEv_5 _ _ _ _).trans rfl
set_option maxRecDepth 100000 in
theorem e_L_law_778 {X : mX} {call : Nat → List mV → mG → mR} {g : mG} {x3 s1 s2 s3 s4 : Int32} : mEv X call 2 t_L_law (mDrop t_L_law 778) [some (mr 8 26), some (mr 6 18), some (mr 7 20), some (mi x3)] [mi s4, mi s3, mi s2, mi s1, mr 7 20] g = if ((x3 + 5) : Int32) < 0 ∨ X.2 ≤ ((x3 + 5) : Int32).toNatClampNeg then none else mEv X call 2 t_L_law (mDrop t_L_law 783) [some (mr 8 26), some (mr 6 18), some (mr 7 20), some (mi x3)] [mi (X.1 ((x3 + 5)).toNatClampNeg), mi s4, mi s3, mi s2, mi s1, mr 7 20] g := (mEv_5 _ _ _ _).trans rfl
set_option maxRecDepth 100000 in
theorem e_L_law_783 {X : mX} {call : Nat → List mV → mG → mR} {g : mG} {x3 s1 s2 s3 s4 s5 : Int32} : mEv X call 2 t_L_law (mDrop t_L_law 783) [some (mr 8 26), some (mr 6 18), some (mr 7 20), some (mi x3)] [mi s5, mi s4, mi s3, mi s2, mi s1, mr 7 20] g = if ((x3 + 6) : Int32) < 0 ∨ X.2 ≤ ((x3 + 6) : Int32).toNatClampNeg then none else mEv X call 2 t_L_law (mDrop t_L_law 789) [some (mr 8 26), some (mr 6 18), some (mr 7 20), some (mi x3)] [mi (X.1 ((x3 + 6)).toNatClampNeg), mi s5, mi s4, mi s3, mi s2, mi s1, mr 7 20] g := (mEv_5 _ _ _ _).trans rfl
set_option maxRecDepth 100000 in
theorem e_L_law_789 {X : mX} {call : Nat → List mV → mG → mR} {g : mG} {x3 s1 s2 s3 s4 s5 s6 : Int32} : mEv X call 2 t_L_law (mDrop t_L_law 789) [some (mr 8 26), some (mr 6 18), some (mr 7 20), some (mi x3)] [mi s6, mi s5, mi s4, mi s3, mi s2, mi s1, mr 7 20] g = mAns (mEv X call 2 t_L_law) (mDrop t_L_law 792) [some (mr 8 26), some (mr 6 18), some (mr 7 20), some (mi x3)] [] (call 252 [mr 7 20, mi s1, mi s2, mi s3, mi s4, mi s5, mi s6] g) := (mEv_1 _ _ _ _).trans rfl
set_option maxRecDepth 100000 in
theorem e_L_law_792 {X : mX} {call : Nat → List mV → mG → mR} {g : mG} {x3 s0 : Int32} : mEv X call 2 t_L_law (mDrop t_L_law 792) [some (mr 8 26), some (mr 6 18), some (mr 7 20), some (mi x3)] [mi s0] g = mEv X call 2 t_L_law (mDrop t_L_law 1180) [some (mr 8 26), some (mr 6 18), some (mr 7 20), some (mi x3)] [] g := (mEv_2 _ _ _ _).trans rfl
set_option maxRecDepth 100000 in
theorem e_L_law_796 {X : mX} {call : Nat → List mV → mG → mR} {g : mG} {x3 : Int32} : mEv X call 2 t_L_law (mDrop t_L_law 796) [some (mr 8 26), some (mr 6 18), some (mr 7 20), some (mi x3)] [] g = if ((x3 + 1) : Int32) < 0 ∨ X.2 ≤ ((x3 + 1) : Int32).toNatClampNeg then none else mEv X call 2 t_L_law (mDrop t_L_law 802) [some (mr 8 26), some (mr 6 18), some (mr 7 20), some (mi x3)] [mi (X.1 ((x3 + 1)).toNatClampNeg), mr 6 18] g := (mEv_6 _ _ _ _).trans rfl
set_option maxRecDepth 100000 in
theorem e_L_law_802 {X : mX} {call : Nat → List mV → mG → mR} {g : mG} {x3 s1 : Int32} : mEv X call 2 t_L_law (mDrop t_L_law 802) [some (mr 8 26), some (mr 6 18), some (mr 7 20), some (mi x3)] [mi s1, mr 6 18] g = if ((x3 + 2) : Int32) < 0 ∨ X.2 ≤ ((x3 + 2) : Int32).toNatClampNeg then none else mEv X call 2 t_L_law (mDrop t_L_law 807) [some (mr 8 26), some (mr 6 18), some (mr 7 20), some (mi x3)] [mi (X.1 ((x3 + 2)).toNatClampNeg), mi s1, mr 6 18] g := (mEv_5 _ _ _ _).trans rfl
set_option maxRecDepth 100000 in
theorem e_L_law_807 {X : mX} {call : Nat → List mV → mG → mR} {g : mG} {x3 s1 s2 : Int32} : mEv X call 2 t_L_law (mDrop t_L_law 807) [some (mr 8 26), some (mr 6 18), some (mr 7 20), some (mi x3)] [mi s2, mi s1, mr 6 18] g = if s2 = 0 then mEv X call 2 t_L_law (mDrop t_L_law 814) [some (mr 8 26), some (mr 6 18), some (mr 7 20), some (mi x3)] [mi s1, mr 6 18] g else mEv X call 2 t_L_law (mDrop t_L_law 810) [some (mr 8 26), some (mr 6 18), some (mr 7 20), some (mi x3)] [mi s1, mr 6 18] g := (mEv_1 _ _ _ _).trans rfl
set_option maxRecDepth 100000 in
theorem e_L_law_814 {X : mX} {call : Nat → List mV → mG → mR} {g : mG} {x3 s1 : Int32} : mEv X call 2 t_L_law (mDrop t_L_law 814) [some (mr 8 26), some (mr 6 18), some (mr 7 20), some (mi x3)] [mi s1, mr 6 18] g = mEv X call 2 t_L_law (mDrop t_L_law 815) [some (mr 8 26), some (mr 6 18), some (mr 7 20), some (mi x3)] [mi 0, mi s1, mr 6 18] g := (mEv_1 _ _ _ _).trans rfl
set_option maxRecDepth 100000 in
theorem e_L_law_815 {X : mX} {call : Nat → List mV → mG → mR} {g : mG} {x3 s1 s2 : Int32} : mEv X call 2 t_L_law (mDrop t_L_law 815) [some (mr 8 26), some (mr 6 18), some (mr 7 20), some (mi x3)] [mi s2, mi s1, mr 6 18] g = mAns (mEv X call 2 t_L_law) (mDrop t_L_law 818) [some (mr 8 26), some (mr 6 18), some (mr 7 20), some (mi x3)] [] (call 115 [mr 6 18, mi s1, mi s2] g) := (mEv_1 _ _ _ _).trans rfl
set_option maxRecDepth 100000 in
theorem e_L_law_818 {X : mX} {call : Nat → List mV → mG → mR} {g : mG} {x3 s0 : Int32} : mEv X call 2 t_L_law (mDrop t_L_law 818) [some (mr 8 26), some (mr 6 18), some (mr 7 20), some (mi x3)] [mi s0] g = if ((x3 + 1) : Int32) < 0 ∨ X.2 ≤ ((x3 + 1) : Int32).toNatClampNeg then none else mEv X call 2 t_L_law (mDrop t_L_law 825) [some (mr 8 26), some (mr 6 18), some (mr 7 20), some (mi x3)] [mi (X.1 ((x3 + 1)).toNatClampNeg), mr 7 20] g := (mEv_7 _ _ _ _).trans rfl
set_option maxRecDepth 100000 in
theorem e_L_law_825 {X : mX} {call : Nat → List mV → mG → mR} {g : mG} {x3 s1 : Int32} : mEv X call 2 t_L_law (mDrop t_L_law 825) [some (mr 8 26), some (mr 6 18), some (mr 7 20), some (mi x3)] [mi s1, mr 7 20] g = if ((x3 + 2) : Int32) < 0 ∨ X.2 ≤ ((x3 + 2) : Int32).toNatClampNeg then none else mEv X call 2 t_L_law (mDrop t_L_law 830) [some (mr 8 26), some (mr 6 18), some (mr 7 20), some (mi x3)] [mi (X.1 ((x3 + 2)).toNatClampNeg), mi s1, mr 7 20] g := (mEv_5 _ _ _ _).trans rfl
set_option maxRecDepth 100000 in
theorem e_L_law_830 {X : mX} {call : Nat → List mV → mG → mR} {g : mG} {x3 s1 s2 : Int32} : mEv X call 2 t_L_law (mDrop t_L_law 830) [some (mr 8 26), some (mr 6 18), some (mr 7 20), some (mi x3)] [mi s2, mi s1, mr 7 20] g = if s2 = 0 then mEv X call 2 t_L_law (mDrop t_L_law 837) [some (mr 8 26), some (mr 6 18), some (mr 7 20), some (mi x3)] [mi s1, mr 7 20] g else mEv X call 2 t_L_law (mDrop t_L_law 833) [some (mr 8 26), some (mr 6 18), some (mr 7 20), some (mi x3)] [mi s1, mr 7 20] g := (mEv_1 _ _ _ _).trans rfl
set_option maxRecDepth 100000 in
theorem e_L_law_837 {X : mX} {call : Nat → List mV → mG → mR} {g : mG} {x3 s1 : Int32} : mEv X call 2 t_L_law (mDrop t_L_law 837) [some (mr 8 26), some (mr 6 18), some (mr 7 20), some (mi x3)] [mi s1, mr 7 20] g = mEv X call 2 t_L_law (mDrop t_L_law 838) [some (mr 8 26), some (mr 6 18), some (mr 7 20), some (mi x3)] [mi 0, mi s1, mr 7 20] g := (mEv_1 _ _ _ _).trans rfl
set_option maxRecDepth 100000 in
theorem e_L_law_838 {X : mX} {call : Nat → List mV → mG → mR} {g : mG} {x3 s1 s2 : Int32} : mEv X call 2 t_L_law (mDrop t_L_law 838) [some (mr 8 26), some (mr 6 18), some (mr 7 20), some (mi x3)] [mi s2, mi s1, mr 7 20] g = mAns (mEv X call 2 t_L_law) (mDrop t_L_law 841) [some (mr 8 26), some (mr 6 18), some (mr 7 20), some (mi x3)] [] (call 253 [mr 7 20, mi s1, mi s2] g) := (mEv_1 _ _ _ _).trans rfl
set_option maxRecDepth 100000 in
theorem e_L_law_841 {X : mX} {call : Nat → List mV → mG → mR} {g : mG} {x3 s0 : Int32} : mEv X call 2 t_L_law (mDrop t_L_law 841) [some (mr 8 26), some (mr 6 18), some (mr 7 20), some (mi x3)] [mi s0] g = mEv X call 2 t_L_law (mDrop t_L_law 1180) [some (mr 8 26), some (mr 6 18), some (mr 7 20), some (mi x3)] [] g := (mEv_2 _ _ _ _).trans rfl
set_option maxRecDepth 100000 in
theorem e_L_law_810 {X : mX} {call : Nat → List mV → mG → mR} {g : mG} {x3 s1 : Int32} : mEv X call 2 t_L_law (mDrop t_L_law 810) [some (mr 8 26), some (mr 6 18), some (mr 7 20), some (mi x3)] [mi s1, mr 6 18] g = mEv X call 2 t_L_law (mDrop t_L_law 815) [some (mr 8 26), some (mr 6 18), some (mr 7 20), some (mi x3)] [mi 1, mi s1, mr 6 18] g := (mEv_2 _ _ _ _).trans rfl
set_option maxRecDepth 100000 in
theorem e_L_law_833 {X : mX} {call : Nat → List mV → mG → mR} {g : mG} {x3 s1 : Int32} : mEv X call 2 t_L_law (mDrop t_L_law 833) [some (mr 8 26), some (mr 6 18), some (mr 7 20), some (mi x3)] [mi s1, mr 7 20] g = mEv X call 2 t_L_law (mDrop t_L_law 838) [some (mr 8 26), some (mr 6 18), some (mr 7 20), some (mi x3)] [mi 1, mi s1, mr 7 20] g := (mEv_2 _ _ _ _).trans rfl
set_option maxRecDepth 100000 in
theorem e_L_law_845 {X : mX} {call : Nat → List mV → mG → mR} {g : mG} {x3 : Int32} : mEv X call 2 t_L_law (mDrop t_L_law 845) [some (mr 8 26), some (mr 6 18), some (mr 7 20), some (mi x3)] [] g = mAns (mEv X call 2 t_L_law) (mDrop t_L_law 849) [some (mr 8 26), some (mr 6 18), some (mr 7 20), some (mi x3)] [] (call 116 [mr 6 18] g) := (mEv_2 _ _ _ _).trans rfl
set_option maxRecDepth 100000 in
theorem e_L_law_849 {X : mX} {call : Nat → List mV → mG → mR} {g : mG} {x3 s0 : Int32} : mEv X call 2 t_L_law (mDrop t_L_law 849) [some (mr 8 26), some (mr 6 18), some (mr 7 20), some (mi x3)] [mi s0] g = mAns (mEv X call 2 t_L_law) (mDrop t_L_law 854) [some (mr 8 26), some (mr 6 18), some (mr 7 20), some (mi x3)] [] (call 254 [mr 7 20] g) := (mEv_3 _ _ _ _).trans rfl
set_option maxRecDepth 100000 in
theorem e_L_law_854 {X : mX} {call : Nat → List mV → mG → mR} {g : mG} {x3 s0 : Int32} : mEv X call 2 t_L_law (mDrop t_L_law 854) [some (mr 8 26), some (mr 6 18), some (mr 7 20), some (mi x3)] [mi s0] g = mEv X call 2 t_L_law (mDrop t_L_law 1180) [some (mr 8 26), some (mr 6 18), some (mr 7 20), some (mi x3)] [] g := (mEv_2 _ _ _ _).trans rfl
set_option maxRecDepth 100000 in
theorem e_L_law_858 {X : mX} {call : Nat → List mV → mG → mR} {g : mG} {x3 : Int32} : mEv X call 2 t_L_law (mDrop t_L_law 858) [some (mr 8 26), some (mr 6 18), some (mr 7 20), some (mi x3)] [] g = if ((x3 + 1) : Int32) < 0 ∨ X.2 ≤ ((x3 + 1) : Int32).toNatClampNeg then none else mEv X call 2 t_L_law (mDrop t_L_law 864) [some (mr 8 26), some (mr 6 18), some (mr 7 20), some (mi x3)] [mi (X.1 ((x3 + 1)).toNatClampNeg), mr 6 18] g := (mEv_6 _ _ _ _).trans rfl
set_option maxRecDepth 100000 in
theorem e_L_law_864 {X : mX} {call : Nat → List mV → mG → mR} {g : mG} {x3 s1 : Int32} : mEv X call 2 t_L_law (mDrop t_L_law 864) [some (mr 8 26), some (mr 6 18), some (mr 7 20), some (mi x3)] [mi s1, mr 6 18] g = mAns (mEv X call 2 t_L_law) (mDrop t_L_law 867) [some (mr 8 26), some (mr 6 18), some (mr 7 20), some (mi x3)] [] (call 117 [mr 6 18, mi s1] g) := (mEv_1 _ _ _ _).trans rfl
set_option maxRecDepth 100000 in
theorem e_L_law_867 {X : mX} {call : Nat → List mV → mG → mR} {g : mG} {x3 s0 : Int32} : mEv X call 2 t_L_law (mDrop t_L_law 867) [some (mr 8 26), some (mr 6 18), some (mr 7 20), some (mi x3)] [mi s0] g = if ((x3 + 1) : Int32) < 0 ∨ X.2 ≤ ((x3 + 1) : Int32).toNatClampNeg then none else mEv X call 2 t_L_law (mDrop t_L_law 874) [some (mr 8 26), some (mr 6 18), some (mr 7 20), some (mi x3)] [mi (X.1 ((x3 + 1)).toNatClampNeg), mr 7 20] g := (mEv_7 _ _ _ _).trans rfl
set_option maxRecDepth 100000 in
theorem e_L_law_874 {X : mX} {call : Nat → List mV → mG → mR} {g : mG} {x3 s1 : Int32} : mEv X call 2 t_L_law (mDrop t_L_law 874) [some (mr 8 26), some (mr 6 18), some (mr 7 20), some (mi x3)] [mi s1, mr 7 20] g = mAns (mEv X call 2 t_L_law) (mDrop t_L_law 877) [some (mr 8 26), some (mr 6 18), some (mr 7 20), some (mi x3)] [] (call 255 [mr 7 20, mi s1] g) := (mEv_1 _ _ _ _).trans rfl
set_option maxRecDepth 100000 in
theorem e_L_law_877 {X : mX} {call : Nat → List mV → mG → mR} {g : mG} {x3 s0 : Int32} : mEv X call 2 t_L_law (mDrop t_L_law 877) [some (mr 8 26), some (mr 6 18), some (mr 7 20), some (mi x3)] [mi s0] g = mEv X call 2 t_L_law (mDrop t_L_law 1180) [some (mr 8 26), some (mr 6 18), some (mr 7 20), some (mi x3)] [] g := (mEv_2 _ _ _ _).trans rfl
set_option maxRecDepth 100000 in
theorem e_L_law_881 {X : mX} {call : Nat → List mV → mG → mR} {g : mG} {x3 : Int32} : mEv X call 2 t_L_law (mDrop t_L_law 881) [some (mr 8 26), some (mr 6 18), some (mr 7 20), some (mi x3)] [] g = if ((x3 + 1) : Int32) < 0 ∨ X.2 ≤ ((x3 + 1) : Int32).toNatClampNeg then none else mEv X call 2 t_L_law (mDrop t_L_law 887) [some (mr 8 26), some (mr 6 18), some (mr 7 20), some (mi x3)] [mi (X.1 ((x3 + 1)).toNatClampNeg), mr 6 18] g := (mEv_6 _ _ _ _).trans rfl
set_option maxRecDepth 100000 in
theorem e_L_law_887 {X : mX} {call : Nat → List mV → mG → mR} {g : mG} {x3 s1 : Int32} : mEv X call 2 t_L_law (mDrop t_L_law 887) [some (mr 8 26), some (mr 6 18), some (mr 7 20), some (mi x3)] [mi s1, mr 6 18] g = if ((x3 + 2) : Int32) < 0 ∨ X.2 ≤ ((x3 + 2) : Int32).toNatClampNeg then none else mEv X call 2 t_L_law (mDrop t_L_law 892) [some (mr 8 26), some (mr 6 18), some (mr 7 20), some (mi x3)] [mi (X.1 ((x3 + 2)).toNatClampNeg), mi s1, mr 6 18] g := (mEv_5 _ _ _ _).trans rfl
set_option maxRecDepth 100000 in
theorem e_L_law_892 {X : mX} {call : Nat → List mV → mG → mR} {g : mG} {x3 s1 s2 : Int32} : mEv X call 2 t_L_law (mDrop t_L_law 892) [some (mr 8 26), some (mr 6 18), some (mr 7 20), some (mi x3)] [mi s2, mi s1, mr 6 18] g = mAns (mEv X call 2 t_L_law) (mDrop t_L_law 895) [some (mr 8 26), some (mr 6 18), some (mr 7 20), some (mi x3)] [] (call 118 [mr 6 18, mi s1, mi s2] g) := (mEv_1 _ _ _ _).trans rfl
set_option maxRecDepth 100000 in
theorem e_L_law_895 {X : mX} {call : Nat → List mV → mG → mR} {g : mG} {x3 s0 : Int32} : mEv X call 2 t_L_law (mDrop t_L_law 895) [some (mr 8 26), some (mr 6 18), some (mr 7 20), some (mi x3)] [mi s0] g = if ((x3 + 1) : Int32) < 0 ∨ X.2 ≤ ((x3 + 1) : Int32).toNatClampNeg then none else mEv X call 2 t_L_law (mDrop t_L_law 902) [some (mr 8 26), some (mr 6 18), some (mr 7 20), some (mi x3)] [mi (X.1 ((x3 + 1)).toNatClampNeg), mr 7 20] g := (mEv_7 _ _ _ _).trans rfl
set_option maxRecDepth 100000 in
theorem e_L_law_902 {X : mX} {call : Nat → List mV → mG → mR} {g : mG} {x3 s1 : Int32} : mEv X call 2 t_L_law (mDrop t_L_law 902) [some (mr 8 26), some (mr 6 18), some (mr 7 20), some (mi x3)] [mi s1, mr 7 20] g = if ((x3 + 2) : Int32) < 0 ∨ X.2 ≤ ((x3 + 2) : Int32).toNatClampNeg then none else mEv X call 2 t_L_law (mDrop t_L_law 907) [some (mr 8 26), some (mr 6 18), some (mr 7 20), some (mi x3)] [mi (X.1 ((x3 + 2)).toNatClampNeg), mi s1, mr 7 20] g := (mEv_5 _ _ _ _).trans rfl
set_option maxRecDepth 100000 in
theorem e_L_law_907 {X : mX} {call : Nat → List mV → mG → mR} {g : mG} {x3 s1 s2 : Int32} : mEv X call 2 t_L_law (mDrop t_L_law 907) [some (mr 8 26), some (mr 6 18), some (mr 7 20), some (mi x3)] [mi s2, mi s1, mr 7 20] g = mAns (mEv X call 2 t_L_law) (mDrop t_L_law 910) [some (mr 8 26), some (mr 6 18), some (mr 7 20), some (mi x3)] [] (call 256 [mr 7 20, mi s1, mi s2] g) := (mEv_1 _ _ _ _).trans rfl
set_option maxRecDepth 100000 in
theorem e_L_law_910 {X : mX} {call : Nat → List mV → mG → mR} {g : mG} {x3 s0 : Int32} : mEv X call 2 t_L_law (mDrop t_L_law 910) [some (mr 8 26), some (mr 6 18), some (mr 7 20), some (mi x3)] [mi s0] g = mEv X call 2 t_L_law (mDrop t_L_law 1180) [some (mr 8 26), some (mr 6 18), some (mr 7 20), some (mi x3)] [] g := (mEv_2 _ _ _ _).trans rfl
set_option maxRecDepth 100000 in
theorem e_L_law_914 {X : mX} {call : Nat → List mV → mG → mR} {g : mG} {x3 : Int32} : mEv X call 2 t_L_law (mDrop t_L_law 914) [some (mr 8 26), some (mr 6 18), some (mr 7 20), some (mi x3)] [] g = mAns (mEv X call 2 t_L_law) (mDrop t_L_law 918) [some (mr 8 26), some (mr 6 18), some (mr 7 20), some (mi x3)] [] (call 119 [mr 6 18] g) := (mEv_2 _ _ _ _).trans rfl
set_option maxRecDepth 100000 in
theorem e_L_law_918 {X : mX} {call : Nat → List mV → mG → mR} {g : mG} {x3 s0 : Int32} : mEv X call 2 t_L_law (mDrop t_L_law 918) [some (mr 8 26), some (mr 6 18), some (mr 7 20), some (mi x3)] [mi s0] g = mAns (mEv X call 2 t_L_law) (mDrop t_L_law 923) [some (mr 8 26), some (mr 6 18), some (mr 7 20), some (mi x3)] [] (call 257 [mr 7 20] g) := (mEv_3 _ _ _ _).trans rfl
set_option maxRecDepth 100000 in
theorem e_L_law_923 {X : mX} {call : Nat → List mV → mG → mR} {g : mG} {x3 s0 : Int32} : mEv X call 2 t_L_law (mDrop t_L_law 923) [some (mr 8 26), some (mr 6 18), some (mr 7 20), some (mi x3)] [mi s0] g = mEv X call 2 t_L_law (mDrop t_L_law 1180) [some (mr 8 26), some (mr 6 18), some (mr 7 20), some (mi x3)] [] g := (mEv_2 _ _ _ _).trans rfl
set_option maxRecDepth 100000 in
theorem e_L_law_927 {X : mX} {call : Nat → List mV → mG → mR} {g : mG} {x3 : Int32} : mEv X call 2 t_L_law (mDrop t_L_law 927) [some (mr 8 26), some (mr 6 18), some (mr 7 20), some (mi x3)] [] g = mAns (mEv X call 2 t_L_law) (mDrop t_L_law 931) [some (mr 8 26), some (mr 6 18), some (mr 7 20), some (mi x3)] [] (call 120 [mr 6 18] g) := (mEv_2 _ _ _ _).trans rfl
set_option maxRecDepth 100000 in
theorem e_L_law_931 {X : mX} {call : Nat → List mV → mG → mR} {g : mG} {x3 s0 : Int32} : mEv X call 2 t_L_law (mDrop t_L_law 931) [some (mr 8 26), some (mr 6 18), some (mr 7 20), some (mi x3)] [mi s0] g = mAns (mEv X call 2 t_L_law) (mDrop t_L_law 936) [some (mr 8 26), some (mr 6 18), some (mr 7 20), some (mi x3)] [] (call 258 [mr 7 20] g) := (mEv_3 _ _ _ _).trans rfl
set_option maxRecDepth 100000 in
theorem e_L_law_936 {X : mX} {call : Nat → List mV → mG → mR} {g : mG} {x3 s0 : Int32} : mEv X call 2 t_L_law (mDrop t_L_law 936) [some (mr 8 26), some (mr 6 18), some (mr 7 20), some (mi x3)] [mi s0] g = mEv X call 2 t_L_law (mDrop t_L_law 1180) [some (mr 8 26), some (mr 6 18), some (mr 7 20), some (mi x3)] [] g := (mEv_2 _ _ _ _).trans rfl
set_option maxRecDepth 100000 in
theorem e_L_law_940 {X : mX} {call : Nat → List mV → mG → mR} {g : mG} {x3 : Int32} : mEv X call 2 t_L_law (mDrop t_L_law 940) [some (mr 8 26), some (mr 6 18), some (mr 7 20), some (mi x3)] [] g = if ((x3 + 1) : Int32) < 0 ∨ X.2 ≤ ((x3 + 1) : Int32).toNatClampNeg then none else mEv X call 2 t_L_law (mDrop t_L_law 946) [some (mr 8 26), some (mr 6 18), some (mr 7 20), some (mi x3)] [mi (X.1 ((x3 + 1)).toNatClampNeg), mr 6 18] g := (mEv_6 _ _ _ _).trans rfl
set_option maxRecDepth 100000 in
theorem e_L_law_946 {X : mX} {call : Nat → List mV → mG → mR} {g : mG} {x3 s1 : Int32} : mEv X call 2 t_L_law (mDrop t_L_law 946) [some (mr 8 26), some (mr 6 18), some (mr 7 20), some (mi x3)] [mi s1, mr 6 18] g = if ((x3 + 2) : Int32) < 0 ∨ X.2 ≤ ((x3 + 2) : Int32).toNatClampNeg then none else mEv X call 2 t_L_law (mDrop t_L_law 951) [some (mr 8 26), some (mr 6 18), some (mr 7 20), some (mi x3)] [mi (X.1 ((x3 + 2)).toNatClampNeg), mi s1, mr 6 18] g := (mEv_5 _ _ _ _).trans rfl
set_option maxRecDepth 100000 in
theorem e_L_law_951 {X : mX} {call : Nat → List mV → mG → mR} {g : mG} {x3 s1 s2 : Int32} : mEv X call 2 t_L_law (mDrop t_L_law 951) [some (mr 8 26), some (mr 6 18), some (mr 7 20), some (mi x3)] [mi s2, mi s1, mr 6 18] g = mAns (mEv X call 2 t_L_law) (mDrop t_L_law 954) [some (mr 8 26), some (mr 6 18), some (mr 7 20), some (mi x3)] [] (call 121 [mr 6 18, mi s1, mi s2] g) := (mEv_1 _ _ _ _).trans rfl
set_option maxRecDepth 100000 in
theorem e_L_law_954 {X : mX} {call : Nat → List mV → mG → mR} {g : mG} {x3 s0 : Int32} : mEv X call 2 t_L_law (mDrop t_L_law 954) [some (mr 8 26), some (mr 6 18), some (mr 7 20), some (mi x3)] [mi s0] g = if ((x3 + 1) : Int32) < 0 ∨ X.2 ≤ ((x3 + 1) : Int32).toNatClampNeg then none else mEv X call 2 t_L_law (mDrop t_L_law 961) [some (mr 8 26), some (mr 6 18), some (mr 7 20), some (mi x3)] [mi (X.1 ((x3 + 1)).toNatClampNeg), mr 7 20] g := (mEv_7 _ _ _ _).trans rfl
set_option maxRecDepth 100000 in
theorem e_L_law_961 {X : mX} {call : Nat → List mV → mG → mR} {g : mG} {x3 s1 : Int32} : mEv X call 2 t_L_law (mDrop t_L_law 961) [some (mr 8 26), some (mr 6 18), some (mr 7 20), some (mi x3)] [mi s1, mr 7 20] g = if ((x3 + 2) : Int32) < 0 ∨ X.2 ≤ ((x3 + 2) : Int32).toNatClampNeg then none else mEv X call 2 t_L_law (mDrop t_L_law 966) [some (mr 8 26), some (mr 6 18), some (mr 7 20), some (mi x3)] [mi (X.1 ((x3 + 2)).toNatClampNeg), mi s1, mr 7 20] g := (mEv_5 _ _ _ _).trans rfl
set_option maxRecDepth 100000 in
theorem e_L_law_966 {X : mX} {call : Nat → List mV → mG → mR} {g : mG} {x3 s1 s2 : Int32} : mEv X call 2 t_L_law (mDrop t_L_law 966) [some (mr 8 26), some (mr 6 18), some (mr 7 20), some (mi x3)] [mi s2, mi s1, mr 7 20] g = mAns (mEv X call 2 t_L_law) (mDrop t_L_law 969) [some (mr 8 26), some (mr 6 18), some (mr 7 20), some (mi x3)] [] (call 259 [mr 7 20, mi s1, mi s2] g) := (mEv_1 _ _ _ _).trans rfl
set_option maxRecDepth 100000 in
theorem e_L_law_969 {X : mX} {call : Nat → List mV → mG → mR} {g : mG} {x3 s0 : Int32} : mEv X call 2 t_L_law (mDrop t_L_law 969) [some (mr 8 26), some (mr 6 18), some (mr 7 20), some (mi x3)] [mi s0] g = mEv X call 2 t_L_law (mDrop t_L_law 1180) [some (mr 8 26), some (mr 6 18), some (mr 7 20), some (mi x3)] [] g := (mEv_2 _ _ _ _).trans rfl
set_option maxRecDepth 100000 in
theorem e_L_law_973 {X : mX} {call : Nat → List mV → mG → mR} {g : mG} {x3 : Int32} : mEv X call 2 t_L_law (mDrop t_L_law 973) [some (mr 8 26), some (mr 6 18), some (mr 7 20), some (mi x3)] [] g = if ((x3 + 1) : Int32) < 0 ∨ X.2 ≤ ((x3 + 1) : Int32).toNatClampNeg then none else mEv X call 2 t_L_law (mDrop t_L_law 979) [some (mr 8 26), some (mr 6 18), some (mr 7 20), some (mi x3)] [mi (X.1 ((x3 + 1)).toNatClampNeg), mr 6 18] g := (mEv_6 _ _ _ _).trans rfl
set_option maxRecDepth 100000 in
theorem e_L_law_979 {X : mX} {call : Nat → List mV → mG → mR} {g : mG} {x3 s1 : Int32} : mEv X call 2 t_L_law (mDrop t_L_law 979) [some (mr 8 26), some (mr 6 18), some (mr 7 20), some (mi x3)] [mi s1, mr 6 18] g = mAns (mEv X call 2 t_L_law) (mDrop t_L_law 982) [some (mr 8 26), some (mr 6 18), some (mr 7 20), some (mi x3)] [] (call 122 [mr 6 18, mi s1] g) := (mEv_1 _ _ _ _).trans rfl
set_option maxRecDepth 100000 in
theorem e_L_law_982 {X : mX} {call : Nat → List mV → mG → mR} {g : mG} {x3 s0 : Int32} : mEv X call 2 t_L_law (mDrop t_L_law 982) [some (mr 8 26), some (mr 6 18), some (mr 7 20), some (mi x3)] [mi s0] g = if ((x3 + 1) : Int32) < 0 ∨ X.2 ≤ ((x3 + 1) : Int32).toNatClampNeg then none else mEv X call 2 t_L_law (mDrop t_L_law 989) [some (mr 8 26), some (mr 6 18), some (mr 7 20), some (mi x3)] [mi (X.1 ((x3 + 1)).toNatClampNeg), mr 7 20] g := (mEv_7 _ _ _ _).trans rfl
set_option maxRecDepth 100000 in
theorem e_L_law_989 {X : mX} {call : Nat → List mV → mG → mR} {g : mG} {x3 s1 : Int32} : mEv X call 2 t_L_law (mDrop t_L_law 989) [some (mr 8 26), some (mr 6 18), some (mr 7 20), some (mi x3)] [mi s1, mr 7 20] g = mAns (mEv X call 2 t_L_law) (mDrop t_L_law 992) [some (mr 8 26), some (mr 6 18), some (mr 7 20), some (mi x3)] [] (call 262 [mr 7 20, mi s1] g) := (mEv_1 _ _ _ _).trans rfl
set_option maxRecDepth 100000 in
theorem e_L_law_992 {X : mX} {call : Nat → List mV → mG → mR} {g : mG} {x3 s0 : Int32} : mEv X call 2 t_L_law (mDrop t_L_law 992) [some (mr 8 26), some (mr 6 18), some (mr 7 20), some (mi x3)] [mi s0] g = mEv X call 2 t_L_law (mDrop t_L_law 1180) [some (mr 8 26), some (mr 6 18), some (mr 7 20), some (mi x3)] [] g := (mEv_2 _ _ _ _).trans rfl
set_option maxRecDepth 100000 in
theorem e_L_law_996 {X : mX} {call : Nat → List mV → mG → mR} {g : mG} {x3 : Int32} : mEv X call 2 t_L_law (mDrop t_L_law 996) [some (mr 8 26), some (mr 6 18), some (mr 7 20), some (mi x3)] [] g = if ((x3 + 1) : Int32) < 0 ∨ X.2 ≤ ((x3 + 1) : Int32).toNatClampNeg then none else mEv X call 2 t_L_law (mDrop t_L_law 1002) [some (mr 8 26), some (mr 6 18), some (mr 7 20), some (mi x3)] [mi (X.1 ((x3 + 1)).toNatClampNeg), mr 6 18] g := (mEv_6 _ _ _ _).trans rfl
set_option maxRecDepth 100000 in
theorem e_L_law_1002 {X : mX} {call : Nat → List mV → mG → mR} {g : mG} {x3 s1 : Int32} : mEv X call 2 t_L_law (mDrop t_L_law 1002) [some (mr 8 26), some (mr 6 18), some (mr 7 20), some (mi x3)] [mi s1, mr 6 18] g = mAns (mEv X call 2 t_L_law) (mDrop t_L_law 1005) [some (mr 8 26), some (mr 6 18), some (mr 7 20), some (mi x3)] [] (call 123 [mr 6 18, mi s1] g) := (mEv_1 _ _ _ _).trans rfl
set_option maxRecDepth 100000 in
theorem e_L_law_1005 {X : mX} {call : Nat → List mV → mG → mR} {g : mG} {x3 s0 : Int32} : mEv X call 2 t_L_law (mDrop t_L_law 1005) [some (mr 8 26), some (mr 6 18), some (mr 7 20), some (mi x3)] [mi s0] g = if ((x3 + 1) : Int32) < 0 ∨ X.2 ≤ ((x3 + 1) : Int32).toNatClampNeg then none else mEv X call 2 t_L_law (mDrop t_L_law 1012) [some (mr 8 26), some (mr 6 18), some (mr 7 20), some (mi x3)] [mi (X.1 ((x3 + 1)).toNatClampNeg), mr 7 20] g := (mEv_7 _ _ _ _).trans rfl
set_option maxRecDepth 100000 in
theorem e_L_law_1012 {X : mX} {call : Nat → List mV → mG → mR} {g : mG} {x3 s1 : Int32} : mEv X call 2 t_L_law (mDrop t_L_law 1012) [some (mr 8 26), some (mr 6 18), some (mr 7 20), some (mi x3)] [mi s1, mr 7 20] g = mAns (mEv X call 2 t_L_law) (mDrop t_L_law 1015) [some (mr 8 26), some (mr 6 18), some (mr 7 20), some (mi x3)] [] (call 267 [mr 7 20, mi s1] g) := (mEv_1 _ _ _ _).trans rfl
set_option maxRecDepth 100000 in
theorem e_L_law_1015 {X : mX} {call : Nat → List mV → mG → mR} {g : mG} {x3 s0 : Int32} : mEv X call 2 t_L_law (mDrop t_L_law 1015) [some (mr 8 26), some (mr 6 18), some (mr 7 20), some (mi x3)] [mi s0] g = mEv X call 2 t_L_law (mDrop t_L_law 1180) [some (mr 8 26), some (mr 6 18), some (mr 7 20), some (mi x3)] [] g := (mEv_2 _ _ _ _).trans rfl
set_option maxRecDepth 100000 in
theorem e_L_law_1019 {X : mX} {call : Nat → List mV → mG → mR} {g : mG} {x3 : Int32} : mEv X call 2 t_L_law (mDrop t_L_law 1019) [some (mr 8 26), some (mr 6 18), some (mr 7 20), some (mi x3)] [] g = if ((x3 + 1) : Int32) < 0 ∨ X.2 ≤ ((x3 + 1) : Int32).toNatClampNeg then none else mEv X call 2 t_L_law (mDrop t_L_law 1025) [some (mr 8 26), some (mr 6 18), some (mr 7 20), some (mi x3)] [mi (X.1 ((x3 + 1)).toNatClampNeg), mr 6 18] g := (mEv_6 _ _ _ _).trans rfl
set_option maxRecDepth 100000 in
theorem e_L_law_1025 {X : mX} {call : Nat → List mV → mG → mR} {g : mG} {x3 s1 : Int32} : mEv X call 2 t_L_law (mDrop t_L_law 1025) [some (mr 8 26), some (mr 6 18), some (mr 7 20), some (mi x3)] [mi s1, mr 6 18] g = mAns (mEv X call 2 t_L_law) (mDrop t_L_law 1028) [some (mr 8 26), some (mr 6 18), some (mr 7 20), some (mi x3)] [] (call 124 [mr 6 18, mi s1] g) := (mEv_1 _ _ _ _).trans rfl
set_option maxRecDepth 100000 in
theorem e_L_law_1028 {X : mX} {call : Nat → List mV → mG → mR} {g : mG} {x3 s0 : Int32} : mEv X call 2 t_L_law (mDrop t_L_law 1028) [some (mr 8 26), some (mr 6 18), some (mr 7 20), some (mi x3)] [mi s0] g = if ((x3 + 1) : Int32) < 0 ∨ X.2 ≤ ((x3 + 1) : Int32).toNatClampNeg then none else mEv X call 2 t_L_law (mDrop t_L_law 1035) [some (mr 8 26), some (mr 6 18), some (mr 7 20), some (mi x3)] [mi (X.1 ((x3 + 1)).toNatClampNeg), mr 7 20] g := (mEv_7 _ _ _ _).trans rfl
set_option maxRecDepth 100000 in
theorem e_L_law_1035 {X : mX} {call : Nat → List mV → mG → mR} {g : mG} {x3 s1 : Int32} : mEv X call 2 t_L_law (mDrop t_L_law 1035) [some (mr 8 26), some (mr 6 18), some (mr 7 20), some (mi x3)] [mi s1, mr 7 20] g = mAns (mEv X call 2 t_L_law) (mDrop t_L_law 1038) [some (mr 8 26), some (mr 6 18), some (mr 7 20), some (mi x3)] [] (call 268 [mr 7 20, mi s1] g) := (mEv_1 _ _ _ _).trans rfl
set_option maxRecDepth 100000 in
theorem e_L_law_1038 {X : mX} {call : Nat → List mV → mG → mR} {g : mG} {x3 s0 : Int32} : mEv X call 2 t_L_law (mDrop t_L_law 1038) [some (mr 8 26), some (mr 6 18), some (mr 7 20), some (mi x3)] [mi s0] g = mEv X call 2 t_L_law (mDrop t_L_law 1180) [some (mr 8 26), some (mr 6 18), some (mr 7 20), some (mi x3)] [] g := (mEv_2 _ _ _ _).trans rfl
set_option maxRecDepth 100000 in
theorem e_L_law_1042 {X : mX} {call : Nat → List mV → mG → mR} {g : mG} {x3 : Int32} : mEv X call 2 t_L_law (mDrop t_L_law 1042) [some (mr 8 26), some (mr 6 18), some (mr 7 20), some (mi x3)] [] g = mAns (mEv X call 2 t_L_law) (mDrop t_L_law 1046) [some (mr 8 26), some (mr 6 18), some (mr 7 20), some (mi x3)] [] (call 125 [mr 6 18] g) := (mEv_2 _ _ _ _).trans rfl
set_option maxRecDepth 100000 in
theorem e_L_law_1046 {X : mX} {call : Nat → List mV → mG → mR} {g : mG} {x3 s0 : Int32} : mEv X call 2 t_L_law (mDrop t_L_law 1046) [some (mr 8 26), some (mr 6 18), some (mr 7 20), some (mi x3)] [mi s0] g = mAns (mEv X call 2 t_L_law) (mDrop t_L_law 1051) [some (mr 8 26), some (mr 6 18), some (mr 7 20), some (mi x3)] [] (call 269 [mr 7 20] g) := (mEv_3 _ _ _ _).trans rfl
set_option maxRecDepth 100000 in
theorem e_L_law_1051 {X : mX} {call : Nat → List mV → mG → mR} {g : mG} {x3 s0 : Int32} : mEv X call 2 t_L_law (mDrop t_L_law 1051) [some (mr 8 26), some (mr 6 18), some (mr 7 20), some (mi x3)] [mi s0] g = mEv X call 2 t_L_law (mDrop t_L_law 1180) [some (mr 8 26), some (mr 6 18), some (mr 7 20), some (mi x3)] [] g := (mEv_2 _ _ _ _).trans rfl
set_option maxRecDepth 100000 in
theorem e_L_law_1055 {X : mX} {call : Nat → List mV → mG → mR} {g : mG} {x3 : Int32} : mEv X call 2 t_L_law (mDrop t_L_law 1055) [some (mr 8 26), some (mr 6 18), some (mr 7 20), some (mi x3)] [] g = mAns (mEv X call 2 t_L_law) (mDrop t_L_law 1059) [some (mr 8 26), some (mr 6 18), some (mr 7 20), some (mi x3)] [] (call 126 [mr 6 18] g) := (mEv_2 _ _ _ _).trans rfl
set_option maxRecDepth 100000 in
theorem e_L_law_1059 {X : mX} {call : Nat → List mV → mG → mR} {g : mG} {x3 s0 : Int32} : mEv X call 2 t_L_law (mDrop t_L_law 1059) [some (mr 8 26), some (mr 6 18), some (mr 7 20), some (mi x3)] [mi s0] g = mAns (mEv X call 2 t_L_law) (mDrop t_L_law 1063) [some (mr 8 26), some (mr 6 18), some (mr 7 20), some (mi x3)] [mi s0] (call 270 [mr 7 20] g) := (mEv_2 _ _ _ _).trans rfl
set_option maxRecDepth 100000 in
theorem e_L_law_1063 {X : mX} {call : Nat → List mV → mG → mR} {g : mG} {x3 s0 s1 : Int32} : mEv X call 2 t_L_law (mDrop t_L_law 1063) [some (mr 8 26), some (mr 6 18), some (mr 7 20), some (mi x3)] [mi s1, mi s0] g = if s0 = s1 then mEv X call 2 t_L_law (mDrop t_L_law 1180) [some (mr 8 26), some (mr 6 18), some (mr 7 20), some (mi x3)] [] g else mEv X call 2 t_L_law (mDrop t_L_law 1066) [some (mr 8 26), some (mr 6 18), some (mr 7 20), some (mi x3)] [] g := (mEv_1 _ _ _ _).trans rfl
set_option maxRecDepth 100000 in
theorem e_L_law_1068 {X : mX} {call : Nat → List mV → mG → mR} {g : mG} {x3 : Int32} : mEv X call 2 t_L_law (mDrop t_L_law 1068) [some (mr 8 26), some (mr 6 18), some (mr 7 20), some (mi x3)] [] g = if ((x3 + 1) : Int32) < 0 ∨ X.2 ≤ ((x3 + 1) : Int32).toNatClampNeg then none else mEv X call 2 t_L_law (mDrop t_L_law 1074) [some (mr 8 26), some (mr 6 18), some (mr 7 20), some (mi x3)] [mi (X.1 ((x3 + 1)).toNatClampNeg), mr 6 18] g := (mEv_6 _ _ _ _).trans rfl
set_option maxRecDepth 100000 in
theorem e_L_law_1074 {X : mX} {call : Nat → List mV → mG → mR} {g : mG} {x3 s1 : Int32} : mEv X call 2 t_L_law (mDrop t_L_law 1074) [some (mr 8 26), some (mr 6 18), some (mr 7 20), some (mi x3)] [mi s1, mr 6 18] g = mAns (mEv X call 2 t_L_law) (mDrop t_L_law 1077) [some (mr 8 26), some (mr 6 18), some (mr 7 20), some (mi x3)] [] (call 127 [mr 6 18, mi s1] g) := (mEv_1 _ _ _ _).trans rfl
set_option maxRecDepth 100000 in
theorem e_L_law_1077 {X : mX} {call : Nat → List mV → mG → mR} {g : mG} {x3 s0 : Int32} : mEv X call 2 t_L_law (mDrop t_L_law 1077) [some (mr 8 26), some (mr 6 18), some (mr 7 20), some (mi x3)] [mi s0] g = if ((x3 + 1) : Int32) < 0 ∨ X.2 ≤ ((x3 + 1) : Int32).toNatClampNeg then none else mEv X call 2 t_L_law (mDrop t_L_law 1084) [some (mr 8 26), some (mr 6 18), some (mr 7 20), some (mi x3)] [mi (X.1 ((x3 + 1)).toNatClampNeg), mr 7 20] g := (mEv_7 _ _ _ _).trans rfl
set_option maxRecDepth 100000 in
theorem e_L_law_1084 {X : mX} {call : Nat → List mV → mG → mR} {g : mG} {x3 s1 : Int32} : mEv X call 2 t_L_law (mDrop t_L_law 1084) [some (mr 8 26), some (mr 6 18), some (mr 7 20), some (mi x3)] [mi s1, mr 7 20] g = mAns (mEv X call 2 t_L_law) (mDrop t_L_law 1087) [some (mr 8 26), some (mr 6 18), some (mr 7 20), some (mi x3)] [] (call 271 [mr 7 20, mi s1] g) := (mEv_1 _ _ _ _).trans rfl
set_option maxRecDepth 100000 in
theorem e_L_law_1087 {X : mX} {call : Nat → List mV → mG → mR} {g : mG} {x3 s0 : Int32} : mEv X call 2 t_L_law (mDrop t_L_law 1087) [some (mr 8 26), some (mr 6 18), some (mr 7 20), some (mi x3)] [mi s0] g = mEv X call 2 t_L_law (mDrop t_L_law 1180) [some (mr 8 26), some (mr 6 18), some (mr 7 20), some (mi x3)] [] g := (mEv_2 _ _ _ _).trans rfl
set_option maxRecDepth 100000 in
theorem e_L_law_1091 {X : mX} {call : Nat → List mV → mG → mR} {g : mG} {x3 : Int32} : mEv X call 2 t_L_law (mDrop t_L_law 1091) [some (mr 8 26), some (mr 6 18), some (mr 7 20), some (mi x3)] [] g = if ((x3 + 1) : Int32) < 0 ∨ X.2 ≤ ((x3 + 1) : Int32).toNatClampNeg then none else mEv X call 2 t_L_law (mDrop t_L_law 1097) [some (mr 8 26), some (mr 6 18), some (mr 7 20), some (mi x3)] [mi (X.1 ((x3 + 1)).toNatClampNeg), mr 6 18] g := (mEv_6 _ _ _ _).trans rfl
set_option maxRecDepth 100000 in
theorem e_L_law_1097 {X : mX} {call : Nat → List mV → mG → mR} {g : mG} {x3 s1 : Int32} : mEv X call 2 t_L_law (mDrop t_L_law 1097) [some (mr 8 26), some (mr 6 18), some (mr 7 20), some (mi x3)] [mi s1, mr 6 18] g = if ((x3 + 2) : Int32) < 0 ∨ X.2 ≤ ((x3 + 2) : Int32).toNatClampNeg then none else mEv X call 2 t_L_law (mDrop t_L_law 1102) [some (mr 8 26), some (mr 6 18), some (mr 7 20), some (mi x3)] [mi (X.1 ((x3 + 2)).toNatClampNeg), mi s1, mr 6 18] g := (mEv_5 _ _ _ _).trans rfl
set_option maxRecDepth 100000 in
theorem e_L_law_1102 {X : mX} {call : Nat → List mV → mG → mR} {g : mG} {x3 s1 s2 : Int32} : mEv X call 2 t_L_law (mDrop t_L_law 1102) [some (mr 8 26), some (mr 6 18), some (mr 7 20), some (mi x3)] [mi s2, mi s1, mr 6 18] g = mAns (mEv X call 2 t_L_law) (mDrop t_L_law 1105) [some (mr 8 26), some (mr 6 18), some (mr 7 20), some (mi x3)] [] (call 128 [mr 6 18, mi s1, mi s2] g) := (mEv_1 _ _ _ _).trans rfl
set_option maxRecDepth 100000 in
theorem e_L_law_1105 {X : mX} {call : Nat → List mV → mG → mR} {g : mG} {x3 s0 : Int32} : mEv X call 2 t_L_law (mDrop t_L_law 1105) [some (mr 8 26), some (mr 6 18), some (mr 7 20), some (mi x3)] [mi s0] g = if ((x3 + 1) : Int32) < 0 ∨ X.2 ≤ ((x3 + 1) : Int32).toNatClampNeg then none else mEv X call 2 t_L_law (mDrop t_L_law 1112) [some (mr 8 26), some (mr 6 18), some (mr 7 20), some (mi x3)] [mi (X.1 ((x3 + 1)).toNatClampNeg), mr 7 20] g := (mEv_7 _ _ _ _).trans rfl
set_option maxRecDepth 100000 in
theorem e_L_law_1112 {X : mX} {call : Nat → List mV → mG → mR} {g : mG} {x3 s1 : Int32} : mEv X call 2 t_L_law (mDrop t_L_law 1112) [some (mr 8 26), some (mr 6 18), some (mr 7 20), some (mi x3)] [mi s1, mr 7 20] g = if ((x3 + 2) : Int32) < 0 ∨ X.2 ≤ ((x3 + 2) : Int32).toNatClampNeg then none else mEv X call 2 t_L_law (mDrop t_L_law 1117) [some (mr 8 26), some (mr 6 18), some (mr 7 20), some (mi x3)] [mi (X.1 ((x3 + 2)).toNatClampNeg), mi s1, mr 7 20] g := (mEv_5 _ _ _ _).trans rfl
set_option maxRecDepth 100000 in
theorem e_L_law_1117 {X : mX} {call : Nat → List mV → mG → mR} {g : mG} {x3 s1 s2 : Int32} : mEv X call 2 t_L_law (mDrop t_L_law 1117) [some (mr 8 26), some (mr 6 18), some (mr 7 20), some (mi x3)] [mi s2, mi s1, mr 7 20] g = mAns (mEv X call 2 t_L_law) (mDrop t_L_law 1120) [some (mr 8 26), some (mr 6 18), some (mr 7 20), some (mi x3)] [] (call 273 [mr 7 20, mi s1, mi s2] g) := (mEv_1 _ _ _ _).trans rfl
set_option maxRecDepth 100000 in
theorem e_L_law_1120 {X : mX} {call : Nat → List mV → mG → mR} {g : mG} {x3 s0 : Int32} : mEv X call 2 t_L_law (mDrop t_L_law 1120) [some (mr 8 26), some (mr 6 18), some (mr 7 20), some (mi x3)] [mi s0] g = mEv X call 2 t_L_law (mDrop t_L_law 1180) [some (mr 8 26), some (mr 6 18), some (mr 7 20), some (mi x3)] [] g := (mEv_2 _ _ _ _).trans rfl
set_option maxRecDepth 100000 in
theorem e_L_law_1124 {X : mX} {call : Nat → List mV → mG → mR} {g : mG} {x3 : Int32} : mEv X call 2 t_L_law (mDrop t_L_law 1124) [some (mr 8 26), some (mr 6 18), some (mr 7 20), some (mi x3)] [] g = if ((x3 + 1) : Int32) < 0 ∨ X.2 ≤ ((x3 + 1) : Int32).toNatClampNeg then none else mEv X call 2 t_L_law (mDrop t_L_law 1130) [some (mr 8 26), some (mr 6 18), some (mr 7 20), some (mi x3)] [mi (X.1 ((x3 + 1)).toNatClampNeg), mr 6 18] g := (mEv_6 _ _ _ _).trans rfl
set_option maxRecDepth 100000 in
theorem e_L_law_1130 {X : mX} {call : Nat → List mV → mG → mR} {g : mG} {x3 s1 : Int32} : mEv X call 2 t_L_law (mDrop t_L_law 1130) [some (mr 8 26), some (mr 6 18), some (mr 7 20), some (mi x3)] [mi s1, mr 6 18] g = if ((x3 + 2) : Int32) < 0 ∨ X.2 ≤ ((x3 + 2) : Int32).toNatClampNeg then none else mEv X call 2 t_L_law (mDrop t_L_law 1135) [some (mr 8 26), some (mr 6 18), some (mr 7 20), some (mi x3)] [mi (X.1 ((x3 + 2)).toNatClampNeg), mi s1, mr 6 18] g := (mEv_5 _ _ _ _).trans rfl
set_option maxRecDepth 100000 in
theorem e_L_law_1135 {X : mX} {call : Nat → List mV → mG → mR} {g : mG} {x3 s1 s2 : Int32} : mEv X call 2 t_L_law (mDrop t_L_law 1135) [some (mr 8 26), some (mr 6 18), some (mr 7 20), some (mi x3)] [mi s2, mi s1, mr 6 18] g = mAns (mEv X call 2 t_L_law) (mDrop t_L_law 1138) [some (mr 8 26), some (mr 6 18), some (mr 7 20), some (mi x3)] [] (call 129 [mr 6 18, mi s1, mi s2] g) := (mEv_1 _ _ _ _).trans rfl
set_option maxRecDepth 100000 in
theorem e_L_law_1138 {X : mX} {call : Nat → List mV → mG → mR} {g : mG} {x3 s0 : Int32} : mEv X call 2 t_L_law (mDrop t_L_law 1138) [some (mr 8 26), some (mr 6 18), some (mr 7 20), some (mi x3)] [mi s0] g = if ((x3 + 1) : Int32) < 0 ∨ X.2 ≤ ((x3 + 1) : Int32).toNatClampNeg then none else mEv X call 2 t_L_law (mDrop t_L_law 1145) [some (mr 8 26), some (mr 6 18), some (mr 7 20), some (mi x3)] [mi (X.1 ((x3 + 1)).toNatClampNeg), mr 7 20] g := (mEv_7 _ _ _ _).trans rfl
set_option maxRecDepth 100000 in
theorem e_L_law_1145 {X : mX} {call : Nat → List mV → mG → mR} {g : mG} {x3 s1 : Int32} : mEv X call 2 t_L_law (mDrop t_L_law 1145) [some (mr 8 26), some (mr 6 18), some (mr 7 20), some (mi x3)] [mi s1, mr 7 20] g = if ((x3 + 2) : Int32) < 0 ∨ X.2 ≤ ((x3 + 2) : Int32).toNatClampNeg then none else mEv X call 2 t_L_law (mDrop t_L_law 1150) [some (mr 8 26), some (mr 6 18), some (mr 7 20), some (mi x3)] [mi (X.1 ((x3 + 2)).toNatClampNeg), mi s1, mr 7 20] g := (mEv_5 _ _ _ _).trans rfl
set_option maxRecDepth 100000 in
theorem e_L_law_1150 {X : mX} {call : Nat → List mV → mG → mR} {g : mG} {x3 s1 s2 : Int32} : mEv X call 2 t_L_law (mDrop t_L_law 1150) [some (mr 8 26), some (mr 6 18), some (mr 7 20), some (mi x3)] [mi s2, mi s1, mr 7 20] g = mAns (mEv X call 2 t_L_law) (mDrop t_L_law 1153) [some (mr 8 26), some (mr 6 18), some (mr 7 20), some (mi x3)] [] (call 274 [mr 7 20, mi s1, mi s2] g) := (mEv_1 _ _ _ _).trans rfl
set_option maxRecDepth 100000 in
theorem e_L_law_1153 {X : mX} {call : Nat → List mV → mG → mR} {g : mG} {x3 s0 : Int32} : mEv X call 2 t_L_law (mDrop t_L_law 1153) [some (mr 8 26), some (mr 6 18), some (mr 7 20), some (mi x3)] [mi s0] g = mEv X call 2 t_L_law (mDrop t_L_law 1180) [some (mr 8 26), some (mr 6 18), some (mr 7 20), some (mi x3)] [] g := (mEv_2 _ _ _ _).trans rfl
set_option maxRecDepth 100000 in
theorem e_L_law_1157 {X : mX} {call : Nat → List mV → mG → mR} {g : mG} {x3 : Int32} : mEv X call 2 t_L_law (mDrop t_L_law 1157) [some (mr 8 26), some (mr 6 18), some (mr 7 20), some (mi x3)] [] g = if ((x3 + 1) : Int32) < 0 ∨ X.2 ≤ ((x3 + 1) : Int32).toNatClampNeg then none else mEv X call 2 t_L_law (mDrop t_L_law 1163) [some (mr 8 26), some (mr 6 18), some (mr 7 20), some (mi x3)] [mi (X.1 ((x3 + 1)).toNatClampNeg), mr 6 18] g := (mEv_6 _ _ _ _).trans rfl
set_option maxRecDepth 100000 in
theorem e_L_law_1163 {X : mX} {call : Nat → List mV → mG → mR} {g : mG} {x3 s1 : Int32} : mEv X call 2 t_L_law (mDrop t_L_law 1163) [some (mr 8 26), some (mr 6 18), some (mr 7 20), some (mi x3)] [mi s1, mr 6 18] g = mAns (mEv X call 2 t_L_law) (mDrop t_L_law 1166) [some (mr 8 26), some (mr 6 18), some (mr 7 20), some (mi x3)] [] (call 130 [mr 6 18, mi s1] g) := (mEv_1 _ _ _ _).trans rfl
set_option maxRecDepth 100000 in
theorem e_L_law_1166 {X : mX} {call : Nat → List mV → mG → mR} {g : mG} {x3 s0 : Int32} : mEv X call 2 t_L_law (mDrop t_L_law 1166) [some (mr 8 26), some (mr 6 18), some (mr 7 20), some (mi x3)] [mi s0] g = if ((x3 + 1) : Int32) < 0 ∨ X.2 ≤ ((x3 + 1) : Int32).toNatClampNeg then none else mEv X call 2 t_L_law (mDrop t_L_law 1173) [some (mr 8 26), some (mr 6 18), some (mr 7 20), some (mi x3)] [mi (X.1 ((x3 + 1)).toNatClampNeg), mr 7 20] g := (mEv_7 _ _ _ _).trans rfl
set_option maxRecDepth 100000 in
theorem e_L_law_1173 {X : mX} {call : Nat → List mV → mG → mR} {g : mG} {x3 s1 : Int32} : mEv X call 2 t_L_law (mDrop t_L_law 1173) [some (mr 8 26), some (mr 6 18), some (mr 7 20), some (mi x3)] [mi s1, mr 7 20] g = mAns (mEv X call 2 t_L_law) (mDrop t_L_law 1176) [some (mr 8 26), some (mr 6 18), some (mr 7 20), some (mi x3)] [] (call 275 [mr 7 20, mi s1] g) := (mEv_1 _ _ _ _).trans rfl
set_option maxRecDepth 100000 in
theorem e_L_law_1176 {X : mX} {call : Nat → List mV → mG → mR} {g : mG} {x3 s0 : Int32} : mEv X call 2 t_L_law (mDrop t_L_law 1176) [some (mr 8 26), some (mr 6 18), some (mr 7 20), some (mi x3)] [mi s0] g = mEv X call 2 t_L_law (mDrop t_L_law 1180) [some (mr 8 26), some (mr 6 18), some (mr 7 20), some (mi x3)] [] g := (mEv_2 _ _ _ _).trans rfl
set_option maxRecDepth 100000 in
theorem e_L_law_16 {X : mX} {call : Nat → List mV → mG → mR} {g : mG} : mEv X call 2 t_L_law (mDrop t_L_law 16) [some (mr 8 26), some (mr 6 18), some (mr 7 20), none] [] g = mEv X call 2 t_L_law (mDrop t_L_law 18) [some (mr 8 26), some (mr 6 18), some (mr 7 20), some (mi 0)] [] g := (mEv_2 _ _ _ _).trans rfl
set_option maxRecDepth 100000 in
theorem e_L_law_18 {X : mX} {call : Nat → List mV → mG → mR} {g : mG} {x3 : Int32} : mEv X call 2 t_L_law (mDrop t_L_law 18) [some (mr 8 26), some (mr 6 18), some (mr 7 20), some (mi x3)] [] g = if ((Int32.ofNat X.2) - 7) < x3 then mEv X call 2 t_L_law (mDrop t_L_law 1186) [some (mr 8 26), some (mr 6 18), some (mr 7 20), some (mi x3)] [] g else mEv X call 2 t_L_law (mDrop t_L_law 27) [some (mr 8 26), some (mr 6 18), some (mr 7 20), some (mi x3)] [] g := (mEv_6 _ _ _ _).trans rfl
set_option maxRecDepth 100000 in
theorem e_L_law_27 {X : mX} {call : Nat → List mV → mG → mR} {g : mG} {x3 : Int32} : mEv X call 2 t_L_law (mDrop t_L_law 27) [some (mr 8 26), some (mr 6 18), some (mr 7 20), some (mi x3)] [] g = if (x3 : Int32) < 0 ∨ X.2 ≤ (x3 : Int32).toNatClampNeg then none else mEv X call 2 t_L_law (mDrop t_L_law 30) [some (mr 8 26), some (mr 6 18), some (mr 7 20), some (mi x3)] [mi (X.1 (x3).toNatClampNeg)] g := (mEv_3 _ _ _ _).trans rfl
set_option maxRecDepth 100000 in
theorem e_L_law_30 {X : mX} {call : Nat → List mV → mG → mR} {g : mG} {x3 s0 : Int32} : mEv X call 2 t_L_law (mDrop t_L_law 30) [some (mr 8 26), some (mr 6 18), some (mr 7 20), some (mi x3)] [mi s0] g = if (s0 &&& 63) = 0 then mEv X call 2 t_L_law (mDrop t_L_law 184) [some (mr 8 26), some (mr 6 18), some (mr 7 20), some (mi x3)] [] g else (if (s0 &&& 63) = 1 then mEv X call 2 t_L_law (mDrop t_L_law 197) [some (mr 8 26), some (mr 6 18), some (mr 7 20), some (mi x3)] [] g else (if (s0 &&& 63) = 2 then mEv X call 2 t_L_law (mDrop t_L_law 260) [some (mr 8 26), some (mr 6 18), some (mr 7 20), some (mi x3)] [] g else (if (s0 &&& 63) = 3 then mEv X call 2 t_L_law (mDrop t_L_law 283) [some (mr 8 26), some (mr 6 18), some (mr 7 20), some (mi x3)] [] g else (if (s0 &&& 63) = 4 then mEv X call 2 t_L_law (mDrop t_L_law 306) [some (mr 8 26), some (mr 6 18), some (mr 7 20), some (mi x3)] [] g else (if (s0 &&& 63) = 5 then mEv X call 2 t_L_law (mDrop t_L_law 329) [some (mr 8 26), some (mr 6 18), some (mr 7 20), some (mi x3)] [] g else (if (s0 &&& 63) = 6 then mEv X call 2 t_L_law (mDrop t_L_law 362) [some (mr 8 26), some (mr 6 18), some (mr 7 20), some (mi x3)] [] g else (if (s0 &&& 63) = 7 then mEv X call 2 t_L_law (mDrop t_L_law 395) [some (mr 8 26), some (mr 6 18), some (mr 7 20), some (mi x3)] [] g else (if (s0 &&& 63) = 8 then mEv X call 2 t_L_law (mDrop t_L_law 428) [some (mr 8 26), some (mr 6 18), some (mr 7 20), some (mi x3)] [] g else (if (s0 &&& 63) = 9 then mEv X call 2 t_L_law (mDrop t_L_law 461) [some (mr 8 26), some (mr 6 18), some (mr 7 20), some (mi x3)] [] g else (if (s0 &&& 63) = 10 then mEv X call 2 t_L_law (mDrop t_L_law 484) [some (mr 8 26), some (mr 6 18), some (mr 7 20), some (mi x3)] [] g else (if (s0 &&& 63) = 11 then mEv X call 2 t_L_law (mDrop t_L_law 517) [some (mr 8 26), some (mr 6 18), some (mr 7 20), some (mi x3)] [] g else (if (s0 &&& 63) = 12 then mEv X call 2 t_L_law (mDrop t_L_law 560) [some (mr 8 26), some (mr 6 18), some (mr 7 20), some (mi x3)] [] g else (if (s0 &&& 63) = 13 then mEv X call 2 t_L_law (mDrop t_L_law 593) [some (mr 8 26), some (mr 6 18), some (mr 7 20), some (mi x3)] [] g else (if (s0 &&& 63) = 14 then mEv X call 2 t_L_law (mDrop t_L_law 642) [some (mr 8 26), some (mr 6 18), some (mr 7 20), some (mi x3)] [] g else (if (s0 &&& 63) = 15 then mEv X call 2 t_L_law (mDrop t_L_law 675) [some (mr 8 26), some (mr 6 18), some (mr 7 20), some (mi x3)] [] g else (if (s0 &&& 63) = 16 then mEv X call 2 t_L_law (mDrop t_L_law 698) [some (mr 8 26), some (mr 6 18), some (mr 7 20), some (mi x3)] [] g else (if (s0 &&& 63) = 17 then mEv X call 2 t_L_law (mDrop t_L_law 721) [some (mr 8 26), some (mr 6 18), some (mr 7 20), some (mi x3)] [] g else (if (s0 &&& 63) = 18 then mEv X call 2 t_L_law (mDrop t_L_law 796) [some (mr 8 26), some (mr 6 18), some (mr 7 20), some (mi x3)] [] g else (if (s0 &&& 63) = 19 then mEv X call 2 t_L_law (mDrop t_L_law 845) [some (mr 8 26), some (mr 6 18), some (mr 7 20), some (mi x3)] [] g else (if (s0 &&& 63) = 20 then mEv X call 2 t_L_law (mDrop t_L_law 858) [some (mr 8 26), some (mr 6 18), some (mr 7 20), some (mi x3)] [] g else (if (s0 &&& 63) = 21 then mEv X call 2 t_L_law (mDrop t_L_law 881) [some (mr 8 26), some (mr 6 18), some (mr 7 20), some (mi x3)] [] g else (if (s0 &&& 63) = 22 then mEv X call 2 t_L_law (mDrop t_L_law 914) [some (mr 8 26), some (mr 6 18), some (mr 7 20), some (mi x3)] [] g else (if (s0 &&& 63) = 23 then mEv X call 2 t_L_law (mDrop t_L_law 927) [some (mr 8 26), some (mr 6 18), some (mr 7 20), some (mi x3)] [] g else (if (s0 &&& 63) = 24 then mEv X call 2 t_L_law (mDrop t_L_law 940) [some (mr 8 26), some (mr 6 18), some (mr 7 20), some (mi x3)] [] g else (if (s0 &&& 63) = 25 then mEv X call 2 t_L_law (mDrop t_L_law 973) [some (mr 8 26), some (mr 6 18), some (mr 7 20), some (mi x3)] [] g else (if (s0 &&& 63) = 26 then mEv X call 2 t_L_law (mDrop t_L_law 996) [some (mr 8 26), some (mr 6 18), some (mr 7 20), some (mi x3)] [] g else (if (s0 &&& 63) = 27 then mEv X call 2 t_L_law (mDrop t_L_law 1019) [some (mr 8 26), some (mr 6 18), some (mr 7 20), some (mi x3)] [] g else (if (s0 &&& 63) = 28 then mEv X call 2 t_L_law (mDrop t_L_law 1042) [some (mr 8 26), some (mr 6 18), some (mr 7 20), some (mi x3)] [] g else (if (s0 &&& 63) = 29 then mEv X call 2 t_L_law (mDrop t_L_law 1055) [some (mr 8 26), some (mr 6 18), some (mr 7 20), some (mi x3)] [] g else (if (s0 &&& 63) = 30 then mEv X call 2 t_L_law (mDrop t_L_law 1068) [some (mr 8 26), some (mr 6 18), some (mr 7 20), some (mi x3)] [] g else (if (s0 &&& 63) = 31 then mEv X call 2 t_L_law (mDrop t_L_law 1091) [some (mr 8 26), some (mr 6 18), some (mr 7 20), some (mi x3)] [] g else (if (s0 &&& 63) = 32 then mEv X call 2 t_L_law (mDrop t_L_law 1124) [some (mr 8 26), some (mr 6 18), some (mr 7 20), some (mi x3)] [] g else (if (s0 &&& 63) = 33 then mEv X call 2 t_L_law (mDrop t_L_law 1157) [some (mr 8 26), some (mr 6 18), some (mr 7 20), some (mi x3)] [] g else (mEv X call 2 t_L_law (mDrop t_L_law 1180) [some (mr 8 26), some (mr 6 18), some (mr 7 20), some (mi x3)] [] g)))))))))))))))))))))))))))))))))) := (mEv_3 _ _ _ _).trans rfl
set_option maxRecDepth 100000 in
theorem e_L_law_1180 {X : mX} {call : Nat → List mV → mG → mR} {g : mG} {x3 : Int32} : mEv X call 2 t_L_law (mDrop t_L_law 1180) [some (mr 8 26), some (mr 6 18), some (mr 7 20), some (mi x3)] [] g = mEv X call 2 t_L_law (mDrop t_L_law 18) [some (mr 8 26), some (mr 6 18), some (mr 7 20), some (mi (x3 + 7))] [] g := (mEv_2 _ _ _ _).trans rfl
set_option maxRecDepth 100000 in
theorem e_L_law_1186 {X : mX} {call : Nat → List mV → mG → mR} {g : mG} {x3 : Int32} : mEv X call 2 t_L_law (mDrop t_L_law 1186) [some (mr 8 26), some (mr 6 18), some (mr 7 20), some (mi x3)] [] g = if (1 : Int32) &&& 1 = 1 then some (some (mi 1), g) else none := (mEv_2 _ _ _ _).trans rfl
noncomputable def lwR_0 (g : mG) (a : Nat → Int32) : Option ((Int32 × Int32) × mG) := mBo (α := Int32) none (P_X6_status (g 7)) (fun w => some (((P_X5_status g), w), g))
set_option maxRecDepth 100000 in
theorem lc_0 {g : mG} (hX : X.2 ≤ 3584) (hi : i + 7 ≤ X.2) {v w : Int32} {g2 : mG} (h : lwR_0 g (fun k => X.1 (i + k)) = some ((v, w), g2))  : mEv X (mCall mD X 12) 2 t_L_law (mDrop t_L_law 184) [some (mr 8 26), some (mr 6 18), some (mr 7 20), some (mi (nI i))] [] g = mEv X (mCall mD X 12) 2 t_L_law (mDrop t_L_law 1180) [some (mr 8 26), some (mr 6 18), some (mr 7 20), some (mi (nI i))] [] g2 := by
  unfold lwR_0 at h
  (try dsimp only at h)
  refine Eq.trans e_L_law_184 ?_
  rw [rr_X5_status 11]
  generalize hp : P_X5_status g = p at h ⊢
  show mEv X (mCall mD X 12) 2 t_L_law (mDrop t_L_law 188) [some (mr 8 26), some (mr 6 18), some (mr 7 20), some (mi (nI i))] [mi p] g = _
  refine Eq.trans e_L_law_188 ?_
  rw [rr_X6_status_at 11]
  cases hq : P_X6_status (g 7) with
  | none => rw [hq] at h; cases h
  | some q =>
    rw [hq] at h
    have h0 := Option.some.inj h
    have h1 := congrArg (fun z => z.1.1) h0
    have h2 := congrArg (fun z => z.1.2) h0
    have h3 := congrArg (fun z => z.2) h0
    dsimp only at h1 h2 h3
    subst h1
    subst h2
    subst h3
    show mEv X (mCall mD X 12) 2 t_L_law (mDrop t_L_law 193) [some (mr 8 26), some (mr 6 18), some (mr 7 20), some (mi (nI i))] [mi q] g = _
    refine Eq.trans e_L_law_193 ?_
    rfl
noncomputable def lwR_1 (g : mG) (a : Nat → Int32) : Option ((Int32 × Int32) × mG) := mBo (α := Int32 × mC) none (P_X6_feed ((P_X5_feed g (a 1) (a 2) (a 3) (a 4) (a 5)).2 7) (a 1) (a 2) (a 3) (a 4) (a 5)) (fun q => some (((P_X5_feed g (a 1) (a 2) (a 3) (a 4) (a 5)).1, q.1), mU ((P_X5_feed g (a 1) (a 2) (a 3) (a 4) (a 5)).2) 7 q.2))
set_option maxRecDepth 100000 in
theorem lc_1 {g : mG} (hX : X.2 ≤ 3584) (hi : i + 7 ≤ X.2) {v w : Int32} {g2 : mG} (h : lwR_1 g (fun k => X.1 (i + k)) = some ((v, w), g2))  : mEv X (mCall mD X 12) 2 t_L_law (mDrop t_L_law 197) [some (mr 8 26), some (mr 6 18), some (mr 7 20), some (mi (nI i))] [] g = mEv X (mCall mD X 12) 2 t_L_law (mDrop t_L_law 1180) [some (mr 8 26), some (mr 6 18), some (mr 7 20), some (mi (nI i))] [] g2 := by
  unfold lwR_1 at h
  (try dsimp only at h)
  refine Eq.trans e_L_law_197 ?_
  rw [if_neg (lx hX hi (j := 1) (c := 1) (by decide) (by decide)), lv hX hi (j := 1) (c := 1) (by decide) (by decide)]
  refine Eq.trans e_L_law_203 ?_
  rw [if_neg (lx hX hi (j := 2) (c := 2) (by decide) (by decide)), lv hX hi (j := 2) (c := 2) (by decide) (by decide)]
  refine Eq.trans e_L_law_208 ?_
  rw [if_neg (lx hX hi (j := 3) (c := 3) (by decide) (by decide)), lv hX hi (j := 3) (c := 3) (by decide) (by decide)]
  refine Eq.trans e_L_law_213 ?_
  rw [if_neg (lx hX hi (j := 4) (c := 4) (by decide) (by decide)), lv hX hi (j := 4) (c := 4) (by decide) (by decide)]
  refine Eq.trans e_L_law_218 ?_
  rw [if_neg (lx hX hi (j := 5) (c := 5) (by decide) (by decide)), lv hX hi (j := 5) (c := 5) (by decide) (by decide)]
  refine Eq.trans e_L_law_223 ?_
  rw [rr_X5_feed 9]
  generalize hp : P_X5_feed g (X.1 (i + 1)) (X.1 (i + 2)) (X.1 (i + 3)) (X.1 (i + 4)) (X.1 (i + 5)) = p at h ⊢
  show mEv X (mCall mD X 12) 2 t_L_law (mDrop t_L_law 226) [some (mr 8 26), some (mr 6 18), some (mr 7 20), some (mi (nI i))] [mi p.1] p.2 = _
  refine Eq.trans e_L_law_226 ?_
  rw [if_neg (lx hX hi (j := 1) (c := 1) (by decide) (by decide)), lv hX hi (j := 1) (c := 1) (by decide) (by decide)]
  refine Eq.trans e_L_law_233 ?_
  rw [if_neg (lx hX hi (j := 2) (c := 2) (by decide) (by decide)), lv hX hi (j := 2) (c := 2) (by decide) (by decide)]
  refine Eq.trans e_L_law_238 ?_
  rw [if_neg (lx hX hi (j := 3) (c := 3) (by decide) (by decide)), lv hX hi (j := 3) (c := 3) (by decide) (by decide)]
  refine Eq.trans e_L_law_243 ?_
  rw [if_neg (lx hX hi (j := 4) (c := 4) (by decide) (by decide)), lv hX hi (j := 4) (c := 4) (by decide) (by decide)]
  refine Eq.trans e_L_law_248 ?_
  rw [if_neg (lx hX hi (j := 5) (c := 5) (by decide) (by decide)), lv hX hi (j := 5) (c := 5) (by decide) (by decide)]
  refine Eq.trans e_L_law_253 ?_
  rw [rr_X6_feed_at 10]
  cases hq : P_X6_feed (p.2 7) (X.1 (i + 1)) (X.1 (i + 2)) (X.1 (i + 3)) (X.1 (i + 4)) (X.1 (i + 5)) with
  | none => rw [hq] at h; cases h
  | some q =>
    rw [hq] at h
    have h0 := Option.some.inj h
    have h1 := congrArg (fun z => z.1.1) h0
    have h2 := congrArg (fun z => z.1.2) h0
    have h3 := congrArg (fun z => z.2) h0
    dsimp only at h1 h2 h3
    subst h1
    subst h2
    subst h3
    show mEv X (mCall mD X 12) 2 t_L_law (mDrop t_L_law 256) [some (mr 8 26), some (mr 6 18), some (mr 7 20), some (mi (nI i))] [mi q.1] (mU p.2 7 q.2) = _
    refine Eq.trans e_L_law_256 ?_
    rfl
noncomputable def lwR_2 (g : mG) (a : Nat → Int32) : Option ((Int32 × Int32) × mG) := mBo (α := Int32 × mC) none (P_X6_load ((P_X5_load g (a 1)).2 7) (a 1)) (fun q => some (((P_X5_load g (a 1)).1, q.1), mU ((P_X5_load g (a 1)).2) 7 q.2))
set_option maxRecDepth 100000 in
theorem lc_2 {g : mG} (hX : X.2 ≤ 3584) (hi : i + 7 ≤ X.2) {v w : Int32} {g2 : mG} (h : lwR_2 g (fun k => X.1 (i + k)) = some ((v, w), g2))  : mEv X (mCall mD X 12) 2 t_L_law (mDrop t_L_law 260) [some (mr 8 26), some (mr 6 18), some (mr 7 20), some (mi (nI i))] [] g = mEv X (mCall mD X 12) 2 t_L_law (mDrop t_L_law 1180) [some (mr 8 26), some (mr 6 18), some (mr 7 20), some (mi (nI i))] [] g2 := by
  unfold lwR_2 at h
  (try dsimp only at h)
  refine Eq.trans e_L_law_260 ?_
  rw [if_neg (lx hX hi (j := 1) (c := 1) (by decide) (by decide)), lv hX hi (j := 1) (c := 1) (by decide) (by decide)]
  refine Eq.trans e_L_law_266 ?_
  rw [rr_X5_load 2]
  generalize hp : P_X5_load g (X.1 (i + 1)) = p at h ⊢
  show mEv X (mCall mD X 12) 2 t_L_law (mDrop t_L_law 269) [some (mr 8 26), some (mr 6 18), some (mr 7 20), some (mi (nI i))] [mi p.1] p.2 = _
  refine Eq.trans e_L_law_269 ?_
  rw [if_neg (lx hX hi (j := 1) (c := 1) (by decide) (by decide)), lv hX hi (j := 1) (c := 1) (by decide) (by decide)]
  refine Eq.trans e_L_law_276 ?_
  rw [rr_X6_load_at 2]
  cases hq : P_X6_load (p.2 7) (X.1 (i + 1)) with
  | none => rw [hq] at h; cases h
  | some q =>
    rw [hq] at h
    have h0 := Option.some.inj h
    have h1 := congrArg (fun z => z.1.1) h0
    have h2 := congrArg (fun z => z.1.2) h0
    have h3 := congrArg (fun z => z.2) h0
    dsimp only at h1 h2 h3
    subst h1
    subst h2
    subst h3
    show mEv X (mCall mD X 12) 2 t_L_law (mDrop t_L_law 279) [some (mr 8 26), some (mr 6 18), some (mr 7 20), some (mi (nI i))] [mi q.1] (mU p.2 7 q.2) = _
    refine Eq.trans e_L_law_279 ?_
    rfl
noncomputable def lwR_3 (g : mG) (a : Nat → Int32) : Option ((Int32 × Int32) × mG) := mBo (α := Int32) none (P_X6_fault (g 7) (a 1)) (fun w => some (((P_X5_fault g (a 1)), w), g))
set_option maxRecDepth 100000 in
theorem lc_3 {g : mG} (hX : X.2 ≤ 3584) (hi : i + 7 ≤ X.2) {v w : Int32} {g2 : mG} (h : lwR_3 g (fun k => X.1 (i + k)) = some ((v, w), g2))  : mEv X (mCall mD X 12) 2 t_L_law (mDrop t_L_law 283) [some (mr 8 26), some (mr 6 18), some (mr 7 20), some (mi (nI i))] [] g = mEv X (mCall mD X 12) 2 t_L_law (mDrop t_L_law 1180) [some (mr 8 26), some (mr 6 18), some (mr 7 20), some (mi (nI i))] [] g2 := by
  unfold lwR_3 at h
  (try dsimp only at h)
  refine Eq.trans e_L_law_283 ?_
  rw [if_neg (lx hX hi (j := 1) (c := 1) (by decide) (by decide)), lv hX hi (j := 1) (c := 1) (by decide) (by decide)]
  refine Eq.trans e_L_law_289 ?_
  rw [rr_X5_fault 11]
  generalize hp : P_X5_fault g (X.1 (i + 1)) = p at h ⊢
  show mEv X (mCall mD X 12) 2 t_L_law (mDrop t_L_law 292) [some (mr 8 26), some (mr 6 18), some (mr 7 20), some (mi (nI i))] [mi p] g = _
  refine Eq.trans e_L_law_292 ?_
  rw [if_neg (lx hX hi (j := 1) (c := 1) (by decide) (by decide)), lv hX hi (j := 1) (c := 1) (by decide) (by decide)]
  refine Eq.trans e_L_law_299 ?_
  rw [rr_X6_fault_at 11]
  cases hq : P_X6_fault (g 7) (X.1 (i + 1)) with
  | none => rw [hq] at h; cases h
  | some q =>
    rw [hq] at h
    have h0 := Option.some.inj h
    have h1 := congrArg (fun z => z.1.1) h0
    have h2 := congrArg (fun z => z.1.2) h0
    have h3 := congrArg (fun z => z.2) h0
    dsimp only at h1 h2 h3
    subst h1
    subst h2
    subst h3
    show mEv X (mCall mD X 12) 2 t_L_law (mDrop t_L_law 302) [some (mr 8 26), some (mr 6 18), some (mr 7 20), some (mi (nI i))] [mi q] g = _
    refine Eq.trans e_L_law_302 ?_
    rfl
noncomputable def lwR_4 (g : mG) (a : Nat → Int32) : Option ((Int32 × Int32) × mG) := mBo (α := Int32 × mC) none (P_X6_many ((P_X5_many g (a 1)).2 7) (a 1)) (fun q => some (((P_X5_many g (a 1)).1, q.1), mU ((P_X5_many g (a 1)).2) 7 q.2))
set_option maxRecDepth 100000 in
theorem lc_4 {g : mG} (hX : X.2 ≤ 3584) (hi : i + 7 ≤ X.2) {v w : Int32} {g2 : mG} (h : lwR_4 g (fun k => X.1 (i + k)) = some ((v, w), g2))  : mEv X (mCall mD X 12) 2 t_L_law (mDrop t_L_law 306) [some (mr 8 26), some (mr 6 18), some (mr 7 20), some (mi (nI i))] [] g = mEv X (mCall mD X 12) 2 t_L_law (mDrop t_L_law 1180) [some (mr 8 26), some (mr 6 18), some (mr 7 20), some (mi (nI i))] [] g2 := by
  unfold lwR_4 at h
  (try dsimp only at h)
  refine Eq.trans e_L_law_306 ?_
  rw [if_neg (lx hX hi (j := 1) (c := 1) (by decide) (by decide)), lv hX hi (j := 1) (c := 1) (by decide) (by decide)]
  refine Eq.trans e_L_law_312 ?_
  rw [rr_X5_many 10]
  generalize hp : P_X5_many g (X.1 (i + 1)) = p at h ⊢
  show mEv X (mCall mD X 12) 2 t_L_law (mDrop t_L_law 315) [some (mr 8 26), some (mr 6 18), some (mr 7 20), some (mi (nI i))] [mi p.1] p.2 = _
  refine Eq.trans e_L_law_315 ?_
  rw [if_neg (lx hX hi (j := 1) (c := 1) (by decide) (by decide)), lv hX hi (j := 1) (c := 1) (by decide) (by decide)]
  refine Eq.trans e_L_law_322 ?_
  rw [rr_X6_many_at 10]
  cases hq : P_X6_many (p.2 7) (X.1 (i + 1)) with
  | none => rw [hq] at h; cases h
  | some q =>
    rw [hq] at h
    have h0 := Option.some.inj h
    have h1 := congrArg (fun z => z.1.1) h0
    have h2 := congrArg (fun z => z.1.2) h0
    have h3 := congrArg (fun z => z.2) h0
    dsimp only at h1 h2 h3
    subst h1
    subst h2
    subst h3
    show mEv X (mCall mD X 12) 2 t_L_law (mDrop t_L_law 325) [some (mr 8 26), some (mr 6 18), some (mr 7 20), some (mi (nI i))] [mi q.1] (mU p.2 7 q.2) = _
    refine Eq.trans e_L_law_325 ?_
    rfl
noncomputable def lwR_5 (g : mG) (a : Nat → Int32) : Option ((Int32 × Int32) × mG) := mBo (α := Int32 × mC) none (P_X6_ring_ ((P_X5_ring g (a 1) (a 2)).2 7) (a 1) (a 2)) (fun q => some (((P_X5_ring g (a 1) (a 2)).1, q.1), mU ((P_X5_ring g (a 1) (a 2)).2) 7 q.2))
set_option maxRecDepth 100000 in
theorem lc_5 {g : mG} (hX : X.2 ≤ 3584) (hi : i + 7 ≤ X.2) {v w : Int32} {g2 : mG} (h : lwR_5 g (fun k => X.1 (i + k)) = some ((v, w), g2))  : mEv X (mCall mD X 12) 2 t_L_law (mDrop t_L_law 329) [some (mr 8 26), some (mr 6 18), some (mr 7 20), some (mi (nI i))] [] g = mEv X (mCall mD X 12) 2 t_L_law (mDrop t_L_law 1180) [some (mr 8 26), some (mr 6 18), some (mr 7 20), some (mi (nI i))] [] g2 := by
  unfold lwR_5 at h
  (try dsimp only at h)
  refine Eq.trans e_L_law_329 ?_
  rw [if_neg (lx hX hi (j := 1) (c := 1) (by decide) (by decide)), lv hX hi (j := 1) (c := 1) (by decide) (by decide)]
  refine Eq.trans e_L_law_335 ?_
  rw [if_neg (lx hX hi (j := 2) (c := 2) (by decide) (by decide)), lv hX hi (j := 2) (c := 2) (by decide) (by decide)]
  refine Eq.trans e_L_law_340 ?_
  rw [rr_X5_ring 6]
  generalize hp : P_X5_ring g (X.1 (i + 1)) (X.1 (i + 2)) = p at h ⊢
  show mEv X (mCall mD X 12) 2 t_L_law (mDrop t_L_law 343) [some (mr 8 26), some (mr 6 18), some (mr 7 20), some (mi (nI i))] [mi p.1] p.2 = _
  refine Eq.trans e_L_law_343 ?_
  rw [if_neg (lx hX hi (j := 1) (c := 1) (by decide) (by decide)), lv hX hi (j := 1) (c := 1) (by decide) (by decide)]
  refine Eq.trans e_L_law_350 ?_
  rw [if_neg (lx hX hi (j := 2) (c := 2) (by decide) (by decide)), lv hX hi (j := 2) (c := 2) (by decide) (by decide)]
  refine Eq.trans e_L_law_355 ?_
  rw [rr_X6_ring__at 3]
  cases hq : P_X6_ring_ (p.2 7) (X.1 (i + 1)) (X.1 (i + 2)) with
  | none => rw [hq] at h; cases h
  | some q =>
    rw [hq] at h
    have h0 := Option.some.inj h
    have h1 := congrArg (fun z => z.1.1) h0
    have h2 := congrArg (fun z => z.1.2) h0
    have h3 := congrArg (fun z => z.2) h0
    dsimp only at h1 h2 h3
    subst h1
    subst h2
    subst h3
    show mEv X (mCall mD X 12) 2 t_L_law (mDrop t_L_law 358) [some (mr 8 26), some (mr 6 18), some (mr 7 20), some (mi (nI i))] [mi q.1] (mU p.2 7 q.2) = _
    refine Eq.trans e_L_law_358 ?_
    rfl
noncomputable def lwR_6 (g : mG) (a : Nat → Int32) : Option ((Int32 × Int32) × mG) := mBo (α := Int32 × mC) none (P_X6_phase ((P_X5_phase g (a 1) (a 2)).2 7) (a 1) (a 2)) (fun q => some (((P_X5_phase g (a 1) (a 2)).1, q.1), mU ((P_X5_phase g (a 1) (a 2)).2) 7 q.2))
set_option maxRecDepth 100000 in
theorem lc_6 {g : mG} (hX : X.2 ≤ 3584) (hi : i + 7 ≤ X.2) {v w : Int32} {g2 : mG} (h : lwR_6 g (fun k => X.1 (i + k)) = some ((v, w), g2))  : mEv X (mCall mD X 12) 2 t_L_law (mDrop t_L_law 362) [some (mr 8 26), some (mr 6 18), some (mr 7 20), some (mi (nI i))] [] g = mEv X (mCall mD X 12) 2 t_L_law (mDrop t_L_law 1180) [some (mr 8 26), some (mr 6 18), some (mr 7 20), some (mi (nI i))] [] g2 := by
  unfold lwR_6 at h
  (try dsimp only at h)
  refine Eq.trans e_L_law_362 ?_
  rw [if_neg (lx hX hi (j := 1) (c := 1) (by decide) (by decide)), lv hX hi (j := 1) (c := 1) (by decide) (by decide)]
  refine Eq.trans e_L_law_368 ?_
  rw [if_neg (lx hX hi (j := 2) (c := 2) (by decide) (by decide)), lv hX hi (j := 2) (c := 2) (by decide) (by decide)]
  refine Eq.trans e_L_law_373 ?_
  rw [rr_X5_phase 8]
  generalize hp : P_X5_phase g (X.1 (i + 1)) (X.1 (i + 2)) = p at h ⊢
  show mEv X (mCall mD X 12) 2 t_L_law (mDrop t_L_law 376) [some (mr 8 26), some (mr 6 18), some (mr 7 20), some (mi (nI i))] [mi p.1] p.2 = _
  refine Eq.trans e_L_law_376 ?_
  rw [if_neg (lx hX hi (j := 1) (c := 1) (by decide) (by decide)), lv hX hi (j := 1) (c := 1) (by decide) (by decide)]
  refine Eq.trans e_L_law_383 ?_
  rw [if_neg (lx hX hi (j := 2) (c := 2) (by decide) (by decide)), lv hX hi (j := 2) (c := 2) (by decide) (by decide)]
  refine Eq.trans e_L_law_388 ?_
  rw [rr_X6_phase_at 7]
  cases hq : P_X6_phase (p.2 7) (X.1 (i + 1)) (X.1 (i + 2)) with
  | none => rw [hq] at h; cases h
  | some q =>
    rw [hq] at h
    have h0 := Option.some.inj h
    have h1 := congrArg (fun z => z.1.1) h0
    have h2 := congrArg (fun z => z.1.2) h0
    have h3 := congrArg (fun z => z.2) h0
    dsimp only at h1 h2 h3
    subst h1
    subst h2
    subst h3
    show mEv X (mCall mD X 12) 2 t_L_law (mDrop t_L_law 391) [some (mr 8 26), some (mr 6 18), some (mr 7 20), some (mi (nI i))] [mi q.1] (mU p.2 7 q.2) = _
    refine Eq.trans e_L_law_391 ?_
    rfl
noncomputable def lwR_7 (g : mG) (a : Nat → Int32) : Option ((Int32 × Int32) × mG) := mBo (α := Int32 × mC) none (P_X6_marked ((P_X5_marked g (a 1) (a 2)).2 7) (a 1) (a 2)) (fun q => some (((P_X5_marked g (a 1) (a 2)).1, q.1), mU ((P_X5_marked g (a 1) (a 2)).2) 7 q.2))
set_option maxRecDepth 100000 in
theorem lc_7 {g : mG} (hX : X.2 ≤ 3584) (hi : i + 7 ≤ X.2) {v w : Int32} {g2 : mG} (h : lwR_7 g (fun k => X.1 (i + k)) = some ((v, w), g2))  : mEv X (mCall mD X 12) 2 t_L_law (mDrop t_L_law 395) [some (mr 8 26), some (mr 6 18), some (mr 7 20), some (mi (nI i))] [] g = mEv X (mCall mD X 12) 2 t_L_law (mDrop t_L_law 1180) [some (mr 8 26), some (mr 6 18), some (mr 7 20), some (mi (nI i))] [] g2 := by
  unfold lwR_7 at h
  (try dsimp only at h)
  refine Eq.trans e_L_law_395 ?_
  rw [if_neg (lx hX hi (j := 1) (c := 1) (by decide) (by decide)), lv hX hi (j := 1) (c := 1) (by decide) (by decide)]
  refine Eq.trans e_L_law_401 ?_
  rw [if_neg (lx hX hi (j := 2) (c := 2) (by decide) (by decide)), lv hX hi (j := 2) (c := 2) (by decide) (by decide)]
  refine Eq.trans e_L_law_406 ?_
  rw [rr_X5_marked 10]
  generalize hp : P_X5_marked g (X.1 (i + 1)) (X.1 (i + 2)) = p at h ⊢
  show mEv X (mCall mD X 12) 2 t_L_law (mDrop t_L_law 409) [some (mr 8 26), some (mr 6 18), some (mr 7 20), some (mi (nI i))] [mi p.1] p.2 = _
  refine Eq.trans e_L_law_409 ?_
  rw [if_neg (lx hX hi (j := 1) (c := 1) (by decide) (by decide)), lv hX hi (j := 1) (c := 1) (by decide) (by decide)]
  refine Eq.trans e_L_law_416 ?_
  rw [if_neg (lx hX hi (j := 2) (c := 2) (by decide) (by decide)), lv hX hi (j := 2) (c := 2) (by decide) (by decide)]
  refine Eq.trans e_L_law_421 ?_
  rw [rr_X6_marked_at 8]
  cases hq : P_X6_marked (p.2 7) (X.1 (i + 1)) (X.1 (i + 2)) with
  | none => rw [hq] at h; cases h
  | some q =>
    rw [hq] at h
    have h0 := Option.some.inj h
    have h1 := congrArg (fun z => z.1.1) h0
    have h2 := congrArg (fun z => z.1.2) h0
    have h3 := congrArg (fun z => z.2) h0
    dsimp only at h1 h2 h3
    subst h1
    subst h2
    subst h3
    show mEv X (mCall mD X 12) 2 t_L_law (mDrop t_L_law 424) [some (mr 8 26), some (mr 6 18), some (mr 7 20), some (mi (nI i))] [mi q.1] (mU p.2 7 q.2) = _
    refine Eq.trans e_L_law_424 ?_
    rfl
noncomputable def lwR_8 (g : mG) (a : Nat → Int32) : Option ((Int32 × Int32) × mG) := mBo (α := Int32 × mC) none (P_X6_brake ((P_X5_brake g (a 1) (a 2)).2 7) (a 1) (a 2)) (fun q => some (((P_X5_brake g (a 1) (a 2)).1, q.1), mU ((P_X5_brake g (a 1) (a 2)).2) 7 q.2))
set_option maxRecDepth 100000 in
theorem lc_8 {g : mG} (hX : X.2 ≤ 3584) (hi : i + 7 ≤ X.2) {v w : Int32} {g2 : mG} (h : lwR_8 g (fun k => X.1 (i + k)) = some ((v, w), g2))  : mEv X (mCall mD X 12) 2 t_L_law (mDrop t_L_law 428) [some (mr 8 26), some (mr 6 18), some (mr 7 20), some (mi (nI i))] [] g = mEv X (mCall mD X 12) 2 t_L_law (mDrop t_L_law 1180) [some (mr 8 26), some (mr 6 18), some (mr 7 20), some (mi (nI i))] [] g2 := by
  unfold lwR_8 at h
  (try dsimp only at h)
  refine Eq.trans e_L_law_428 ?_
  rw [if_neg (lx hX hi (j := 1) (c := 1) (by decide) (by decide)), lv hX hi (j := 1) (c := 1) (by decide) (by decide)]
  refine Eq.trans e_L_law_434 ?_
  rw [if_neg (lx hX hi (j := 2) (c := 2) (by decide) (by decide)), lv hX hi (j := 2) (c := 2) (by decide) (by decide)]
  refine Eq.trans e_L_law_439 ?_
  rw [rr_X5_brake 9]
  generalize hp : P_X5_brake g (X.1 (i + 1)) (X.1 (i + 2)) = p at h ⊢
  show mEv X (mCall mD X 12) 2 t_L_law (mDrop t_L_law 442) [some (mr 8 26), some (mr 6 18), some (mr 7 20), some (mi (nI i))] [mi p.1] p.2 = _
  refine Eq.trans e_L_law_442 ?_
  rw [if_neg (lx hX hi (j := 1) (c := 1) (by decide) (by decide)), lv hX hi (j := 1) (c := 1) (by decide) (by decide)]
  refine Eq.trans e_L_law_449 ?_
  rw [if_neg (lx hX hi (j := 2) (c := 2) (by decide) (by decide)), lv hX hi (j := 2) (c := 2) (by decide) (by decide)]
  refine Eq.trans e_L_law_454 ?_
  rw [rr_X6_brake_at 9]
  cases hq : P_X6_brake (p.2 7) (X.1 (i + 1)) (X.1 (i + 2)) with
  | none => rw [hq] at h; cases h
  | some q =>
    rw [hq] at h
    have h0 := Option.some.inj h
    have h1 := congrArg (fun z => z.1.1) h0
    have h2 := congrArg (fun z => z.1.2) h0
    have h3 := congrArg (fun z => z.2) h0
    dsimp only at h1 h2 h3
    subst h1
    subst h2
    subst h3
    show mEv X (mCall mD X 12) 2 t_L_law (mDrop t_L_law 457) [some (mr 8 26), some (mr 6 18), some (mr 7 20), some (mi (nI i))] [mi q.1] (mU p.2 7 q.2) = _
    refine Eq.trans e_L_law_457 ?_
    rfl
noncomputable def lwR_9 (g : mG) (a : Nat → Int32) : Option ((Int32 × Int32) × mG) := mBo (α := Int32 × mC) none (P_X6_sum ((P_X5_sum g (a 1)).2 7) (a 1)) (fun q => some (((P_X5_sum g (a 1)).1, q.1), mU ((P_X5_sum g (a 1)).2) 7 q.2))
set_option maxRecDepth 100000 in
theorem lc_9 {g : mG} (hX : X.2 ≤ 3584) (hi : i + 7 ≤ X.2) {v w : Int32} {g2 : mG} (h : lwR_9 g (fun k => X.1 (i + k)) = some ((v, w), g2))  : mEv X (mCall mD X 12) 2 t_L_law (mDrop t_L_law 461) [some (mr 8 26), some (mr 6 18), some (mr 7 20), some (mi (nI i))] [] g = mEv X (mCall mD X 12) 2 t_L_law (mDrop t_L_law 1180) [some (mr 8 26), some (mr 6 18), some (mr 7 20), some (mi (nI i))] [] g2 := by
  unfold lwR_9 at h
  (try dsimp only at h)
  refine Eq.trans e_L_law_461 ?_
  rw [if_neg (lx hX hi (j := 1) (c := 1) (by decide) (by decide)), lv hX hi (j := 1) (c := 1) (by decide) (by decide)]
  refine Eq.trans e_L_law_467 ?_
  rw [rr_X5_sum 8]
  generalize hp : P_X5_sum g (X.1 (i + 1)) = p at h ⊢
  show mEv X (mCall mD X 12) 2 t_L_law (mDrop t_L_law 470) [some (mr 8 26), some (mr 6 18), some (mr 7 20), some (mi (nI i))] [mi p.1] p.2 = _
  refine Eq.trans e_L_law_470 ?_
  rw [if_neg (lx hX hi (j := 1) (c := 1) (by decide) (by decide)), lv hX hi (j := 1) (c := 1) (by decide) (by decide)]
  refine Eq.trans e_L_law_477 ?_
  rw [rr_X6_sum_at 7]
  cases hq : P_X6_sum (p.2 7) (X.1 (i + 1)) with
  | none => rw [hq] at h; cases h
  | some q =>
    rw [hq] at h
    have h0 := Option.some.inj h
    have h1 := congrArg (fun z => z.1.1) h0
    have h2 := congrArg (fun z => z.1.2) h0
    have h3 := congrArg (fun z => z.2) h0
    dsimp only at h1 h2 h3
    subst h1
    subst h2
    subst h3
    show mEv X (mCall mD X 12) 2 t_L_law (mDrop t_L_law 480) [some (mr 8 26), some (mr 6 18), some (mr 7 20), some (mi (nI i))] [mi q.1] (mU p.2 7 q.2) = _
    refine Eq.trans e_L_law_480 ?_
    rfl
noncomputable def lwR_10 (g : mG) (a : Nat → Int32) : Option ((Int32 × Int32) × mG) := mBo (α := Int32 × mC) none (P_X6_event ((P_X5_event g (a 1) (a 2)).2 7) (a 1) (a 2)) (fun q => some (((P_X5_event g (a 1) (a 2)).1, q.1), mU ((P_X5_event g (a 1) (a 2)).2) 7 q.2))
set_option maxRecDepth 100000 in
theorem lc_10 {g : mG} (hX : X.2 ≤ 3584) (hi : i + 7 ≤ X.2) {v w : Int32} {g2 : mG} (h : lwR_10 g (fun k => X.1 (i + k)) = some ((v, w), g2))  : mEv X (mCall mD X 12) 2 t_L_law (mDrop t_L_law 484) [some (mr 8 26), some (mr 6 18), some (mr 7 20), some (mi (nI i))] [] g = mEv X (mCall mD X 12) 2 t_L_law (mDrop t_L_law 1180) [some (mr 8 26), some (mr 6 18), some (mr 7 20), some (mi (nI i))] [] g2 := by
  unfold lwR_10 at h
  (try dsimp only at h)
  refine Eq.trans e_L_law_484 ?_
  rw [if_neg (lx hX hi (j := 1) (c := 1) (by decide) (by decide)), lv hX hi (j := 1) (c := 1) (by decide) (by decide)]
  refine Eq.trans e_L_law_490 ?_
  rw [if_neg (lx hX hi (j := 2) (c := 2) (by decide) (by decide)), lv hX hi (j := 2) (c := 2) (by decide) (by decide)]
  refine Eq.trans e_L_law_495 ?_
  rw [rr_X5_event 9]
  generalize hp : P_X5_event g (X.1 (i + 1)) (X.1 (i + 2)) = p at h ⊢
  show mEv X (mCall mD X 12) 2 t_L_law (mDrop t_L_law 498) [some (mr 8 26), some (mr 6 18), some (mr 7 20), some (mi (nI i))] [mi p.1] p.2 = _
  refine Eq.trans e_L_law_498 ?_
  rw [if_neg (lx hX hi (j := 1) (c := 1) (by decide) (by decide)), lv hX hi (j := 1) (c := 1) (by decide) (by decide)]
  refine Eq.trans e_L_law_505 ?_
  rw [if_neg (lx hX hi (j := 2) (c := 2) (by decide) (by decide)), lv hX hi (j := 2) (c := 2) (by decide) (by decide)]
  refine Eq.trans e_L_law_510 ?_
  rw [rr_X6_event_at 10]
  cases hq : P_X6_event (p.2 7) (X.1 (i + 1)) (X.1 (i + 2)) with
  | none => rw [hq] at h; cases h
  | some q =>
    rw [hq] at h
    have h0 := Option.some.inj h
    have h1 := congrArg (fun z => z.1.1) h0
    have h2 := congrArg (fun z => z.1.2) h0
    have h3 := congrArg (fun z => z.2) h0
    dsimp only at h1 h2 h3
    subst h1
    subst h2
    subst h3
    show mEv X (mCall mD X 12) 2 t_L_law (mDrop t_L_law 513) [some (mr 8 26), some (mr 6 18), some (mr 7 20), some (mi (nI i))] [mi q.1] (mU p.2 7 q.2) = _
    refine Eq.trans e_L_law_513 ?_
    rfl
noncomputable def lwR_11 (g : mG) (a : Nat → Int32) : Option ((Int32 × Int32) × mG) := mBo (α := Int32 × mC) none (P_X6_mark_ ((P_X5_mark g (a 1) (a 2) (a 3)).2 7) (a 1) (a 2) (a 3)) (fun q => some (((P_X5_mark g (a 1) (a 2) (a 3)).1, q.1), mU ((P_X5_mark g (a 1) (a 2) (a 3)).2) 7 q.2))
set_option maxRecDepth 100000 in
theorem lc_11 {g : mG} (hX : X.2 ≤ 3584) (hi : i + 7 ≤ X.2) {v w : Int32} {g2 : mG} (h : lwR_11 g (fun k => X.1 (i + k)) = some ((v, w), g2))  : mEv X (mCall mD X 12) 2 t_L_law (mDrop t_L_law 517) [some (mr 8 26), some (mr 6 18), some (mr 7 20), some (mi (nI i))] [] g = mEv X (mCall mD X 12) 2 t_L_law (mDrop t_L_law 1180) [some (mr 8 26), some (mr 6 18), some (mr 7 20), some (mi (nI i))] [] g2 := by
  unfold lwR_11 at h
  (try dsimp only at h)
  refine Eq.trans e_L_law_517 ?_
  rw [if_neg (lx hX hi (j := 1) (c := 1) (by decide) (by decide)), lv hX hi (j := 1) (c := 1) (by decide) (by decide)]
  refine Eq.trans e_L_law_523 ?_
  rw [if_neg (lx hX hi (j := 2) (c := 2) (by decide) (by decide)), lv hX hi (j := 2) (c := 2) (by decide) (by decide)]
  refine Eq.trans e_L_law_528 ?_
  rw [if_neg (lx hX hi (j := 3) (c := 3) (by decide) (by decide)), lv hX hi (j := 3) (c := 3) (by decide) (by decide)]
  refine Eq.trans e_L_law_533 ?_
  rw [rr_X5_mark 8]
  generalize hp : P_X5_mark g (X.1 (i + 1)) (X.1 (i + 2)) (X.1 (i + 3)) = p at h ⊢
  show mEv X (mCall mD X 12) 2 t_L_law (mDrop t_L_law 536) [some (mr 8 26), some (mr 6 18), some (mr 7 20), some (mi (nI i))] [mi p.1] p.2 = _
  refine Eq.trans e_L_law_536 ?_
  rw [if_neg (lx hX hi (j := 1) (c := 1) (by decide) (by decide)), lv hX hi (j := 1) (c := 1) (by decide) (by decide)]
  refine Eq.trans e_L_law_543 ?_
  rw [if_neg (lx hX hi (j := 2) (c := 2) (by decide) (by decide)), lv hX hi (j := 2) (c := 2) (by decide) (by decide)]
  refine Eq.trans e_L_law_548 ?_
  rw [if_neg (lx hX hi (j := 3) (c := 3) (by decide) (by decide)), lv hX hi (j := 3) (c := 3) (by decide) (by decide)]
  refine Eq.trans e_L_law_553 ?_
  rw [rr_X6_mark__at 8]
  cases hq : P_X6_mark_ (p.2 7) (X.1 (i + 1)) (X.1 (i + 2)) (X.1 (i + 3)) with
  | none => rw [hq] at h; cases h
  | some q =>
    rw [hq] at h
    have h0 := Option.some.inj h
    have h1 := congrArg (fun z => z.1.1) h0
    have h2 := congrArg (fun z => z.1.2) h0
    have h3 := congrArg (fun z => z.2) h0
    dsimp only at h1 h2 h3
    subst h1
    subst h2
    subst h3
    show mEv X (mCall mD X 12) 2 t_L_law (mDrop t_L_law 556) [some (mr 8 26), some (mr 6 18), some (mr 7 20), some (mi (nI i))] [mi q.1] (mU p.2 7 q.2) = _
    refine Eq.trans e_L_law_556 ?_
    rfl
noncomputable def lwR_12 (g : mG) (a : Nat → Int32) : Option ((Int32 × Int32) × mG) := mBo (α := Int32 × mC) none (P_X6_clock ((P_X5_clock g (a 1) (a 2)).2 7) (a 1) (a 2)) (fun q => some (((P_X5_clock g (a 1) (a 2)).1, q.1), mU ((P_X5_clock g (a 1) (a 2)).2) 7 q.2))
set_option maxRecDepth 100000 in
theorem lc_12 {g : mG} (hX : X.2 ≤ 3584) (hi : i + 7 ≤ X.2) {v w : Int32} {g2 : mG} (h : lwR_12 g (fun k => X.1 (i + k)) = some ((v, w), g2))  : mEv X (mCall mD X 12) 2 t_L_law (mDrop t_L_law 560) [some (mr 8 26), some (mr 6 18), some (mr 7 20), some (mi (nI i))] [] g = mEv X (mCall mD X 12) 2 t_L_law (mDrop t_L_law 1180) [some (mr 8 26), some (mr 6 18), some (mr 7 20), some (mi (nI i))] [] g2 := by
  unfold lwR_12 at h
  (try dsimp only at h)
  refine Eq.trans e_L_law_560 ?_
  rw [if_neg (lx hX hi (j := 1) (c := 1) (by decide) (by decide)), lv hX hi (j := 1) (c := 1) (by decide) (by decide)]
  refine Eq.trans e_L_law_566 ?_
  rw [if_neg (lx hX hi (j := 2) (c := 2) (by decide) (by decide)), lv hX hi (j := 2) (c := 2) (by decide) (by decide)]
  refine Eq.trans e_L_law_571 ?_
  rw [rr_X5_clock 9]
  generalize hp : P_X5_clock g (X.1 (i + 1)) (X.1 (i + 2)) = p at h ⊢
  show mEv X (mCall mD X 12) 2 t_L_law (mDrop t_L_law 574) [some (mr 8 26), some (mr 6 18), some (mr 7 20), some (mi (nI i))] [mi p.1] p.2 = _
  refine Eq.trans e_L_law_574 ?_
  rw [if_neg (lx hX hi (j := 1) (c := 1) (by decide) (by decide)), lv hX hi (j := 1) (c := 1) (by decide) (by decide)]
  refine Eq.trans e_L_law_581 ?_
  rw [if_neg (lx hX hi (j := 2) (c := 2) (by decide) (by decide)), lv hX hi (j := 2) (c := 2) (by decide) (by decide)]
  refine Eq.trans e_L_law_586 ?_
  rw [rr_X6_clock_at 9]
  cases hq : P_X6_clock (p.2 7) (X.1 (i + 1)) (X.1 (i + 2)) with
  | none => rw [hq] at h; cases h
  | some q =>
    rw [hq] at h
    have h0 := Option.some.inj h
    have h1 := congrArg (fun z => z.1.1) h0
    have h2 := congrArg (fun z => z.1.2) h0
    have h3 := congrArg (fun z => z.2) h0
    dsimp only at h1 h2 h3
    subst h1
    subst h2
    subst h3
    show mEv X (mCall mD X 12) 2 t_L_law (mDrop t_L_law 589) [some (mr 8 26), some (mr 6 18), some (mr 7 20), some (mi (nI i))] [mi q.1] (mU p.2 7 q.2) = _
    refine Eq.trans e_L_law_589 ?_
    rfl
noncomputable def lwR_13 (g : mG) (a : Nat → Int32) : Option ((Int32 × Int32) × mG) := mBo (α := Int32 × mC) none (P_X6_call ((P_X5_call g (a 1) (if a 2 = 0 then 0 else 1)).2 7) (a 1) (if a 2 = 0 then 0 else 1)) (fun q => some (((P_X5_call g (a 1) (if a 2 = 0 then 0 else 1)).1, q.1), mU ((P_X5_call g (a 1) (if a 2 = 0 then 0 else 1)).2) 7 q.2))
set_option maxRecDepth 100000 in
theorem lc_13 {g : mG} (hX : X.2 ≤ 3584) (hi : i + 7 ≤ X.2) {v w : Int32} {g2 : mG} (h : lwR_13 g (fun k => X.1 (i + k)) = some ((v, w), g2))  : mEv X (mCall mD X 12) 2 t_L_law (mDrop t_L_law 593) [some (mr 8 26), some (mr 6 18), some (mr 7 20), some (mi (nI i))] [] g = mEv X (mCall mD X 12) 2 t_L_law (mDrop t_L_law 1180) [some (mr 8 26), some (mr 6 18), some (mr 7 20), some (mi (nI i))] [] g2 := by
  unfold lwR_13 at h
  (try dsimp only at h)
  refine Eq.trans e_L_law_593 ?_
  rw [if_neg (lx hX hi (j := 1) (c := 1) (by decide) (by decide)), lv hX hi (j := 1) (c := 1) (by decide) (by decide)]
  refine Eq.trans e_L_law_599 ?_
  rw [if_neg (lx hX hi (j := 2) (c := 2) (by decide) (by decide)), lv hX hi (j := 2) (c := 2) (by decide) (by decide)]
  refine Eq.trans e_L_law_604 ?_
  by_cases hb : (X.1 (i + 2)) = 0
  · rw [if_pos hb]
    simp only [if_pos hb] at h
    refine Eq.trans e_L_law_611 ?_
    refine Eq.trans e_L_law_612 ?_
    rw [rr_X5_call 8]
    generalize hp : P_X5_call g (X.1 (i + 1)) 0 = p at h ⊢
    show mEv X (mCall mD X 12) 2 t_L_law (mDrop t_L_law 615) [some (mr 8 26), some (mr 6 18), some (mr 7 20), some (mi (nI i))] [mi p.1] p.2 = _
    refine Eq.trans e_L_law_615 ?_
    rw [if_neg (lx hX hi (j := 1) (c := 1) (by decide) (by decide)), lv hX hi (j := 1) (c := 1) (by decide) (by decide)]
    refine Eq.trans e_L_law_622 ?_
    rw [if_neg (lx hX hi (j := 2) (c := 2) (by decide) (by decide)), lv hX hi (j := 2) (c := 2) (by decide) (by decide)]
    refine Eq.trans e_L_law_627 ?_
    rw [if_pos hb]
    refine Eq.trans e_L_law_634 ?_
    refine Eq.trans e_L_law_635 ?_
    rw [rr_X6_call_at 7]
    cases hq : P_X6_call (p.2 7) (X.1 (i + 1)) 0 with
    | none => rw [hq] at h; cases h
    | some q =>
      rw [hq] at h
      have h0 := Option.some.inj h
      have h1 := congrArg (fun z => z.1.1) h0
      have h2 := congrArg (fun z => z.1.2) h0
      have h3 := congrArg (fun z => z.2) h0
      dsimp only at h1 h2 h3
      subst h1
      subst h2
      subst h3
      show mEv X (mCall mD X 12) 2 t_L_law (mDrop t_L_law 638) [some (mr 8 26), some (mr 6 18), some (mr 7 20), some (mi (nI i))] [mi q.1] (mU p.2 7 q.2) = _
      refine Eq.trans e_L_law_638 ?_
      rfl
  · rw [if_neg hb]
    simp only [if_neg hb] at h
    refine Eq.trans e_L_law_607 ?_
    refine Eq.trans e_L_law_612 ?_
    rw [rr_X5_call 8]
    generalize hp : P_X5_call g (X.1 (i + 1)) 1 = p at h ⊢
    show mEv X (mCall mD X 12) 2 t_L_law (mDrop t_L_law 615) [some (mr 8 26), some (mr 6 18), some (mr 7 20), some (mi (nI i))] [mi p.1] p.2 = _
    refine Eq.trans e_L_law_615 ?_
    rw [if_neg (lx hX hi (j := 1) (c := 1) (by decide) (by decide)), lv hX hi (j := 1) (c := 1) (by decide) (by decide)]
    refine Eq.trans e_L_law_622 ?_
    rw [if_neg (lx hX hi (j := 2) (c := 2) (by decide) (by decide)), lv hX hi (j := 2) (c := 2) (by decide) (by decide)]
    refine Eq.trans e_L_law_627 ?_
    rw [if_neg hb]
    refine Eq.trans e_L_law_630 ?_
    refine Eq.trans e_L_law_635 ?_
    rw [rr_X6_call_at 7]
    cases hq : P_X6_call (p.2 7) (X.1 (i + 1)) 1 with
    | none => rw [hq] at h; cases h
    | some q =>
      rw [hq] at h
      have h0 := Option.some.inj h
      have h1 := congrArg (fun z => z.1.1) h0
      have h2 := congrArg (fun z => z.1.2) h0
      have h3 := congrArg (fun z => z.2) h0
      dsimp only at h1 h2 h3
      subst h1
      subst h2
      subst h3
      show mEv X (mCall mD X 12) 2 t_L_law (mDrop t_L_law 638) [some (mr 8 26), some (mr 6 18), some (mr 7 20), some (mi (nI i))] [mi q.1] (mU p.2 7 q.2) = _
      refine Eq.trans e_L_law_638 ?_
      rfl
noncomputable def lwR_14 (g : mG) (a : Nat → Int32) : Option ((Int32 × Int32) × mG) := mBo (α := Int32 × mC) none (P_X6_come ((P_X5_come g (a 1) (a 2)).2 7) (a 1) (a 2)) (fun q => some (((P_X5_come g (a 1) (a 2)).1, q.1), mU ((P_X5_come g (a 1) (a 2)).2) 7 q.2))
set_option maxRecDepth 100000 in
theorem lc_14 {g : mG} (hX : X.2 ≤ 3584) (hi : i + 7 ≤ X.2) {v w : Int32} {g2 : mG} (h : lwR_14 g (fun k => X.1 (i + k)) = some ((v, w), g2))  : mEv X (mCall mD X 12) 2 t_L_law (mDrop t_L_law 642) [some (mr 8 26), some (mr 6 18), some (mr 7 20), some (mi (nI i))] [] g = mEv X (mCall mD X 12) 2 t_L_law (mDrop t_L_law 1180) [some (mr 8 26), some (mr 6 18), some (mr 7 20), some (mi (nI i))] [] g2 := by
  unfold lwR_14 at h
  (try dsimp only at h)
  refine Eq.trans e_L_law_642 ?_
  rw [if_neg (lx hX hi (j := 1) (c := 1) (by decide) (by decide)), lv hX hi (j := 1) (c := 1) (by decide) (by decide)]
  refine Eq.trans e_L_law_648 ?_
  rw [if_neg (lx hX hi (j := 2) (c := 2) (by decide) (by decide)), lv hX hi (j := 2) (c := 2) (by decide) (by decide)]
  refine Eq.trans e_L_law_653 ?_
  rw [rr_X5_come 8]
  generalize hp : P_X5_come g (X.1 (i + 1)) (X.1 (i + 2)) = p at h ⊢
  show mEv X (mCall mD X 12) 2 t_L_law (mDrop t_L_law 656) [some (mr 8 26), some (mr 6 18), some (mr 7 20), some (mi (nI i))] [mi p.1] p.2 = _
  refine Eq.trans e_L_law_656 ?_
  rw [if_neg (lx hX hi (j := 1) (c := 1) (by decide) (by decide)), lv hX hi (j := 1) (c := 1) (by decide) (by decide)]
  refine Eq.trans e_L_law_663 ?_
  rw [if_neg (lx hX hi (j := 2) (c := 2) (by decide) (by decide)), lv hX hi (j := 2) (c := 2) (by decide) (by decide)]
  refine Eq.trans e_L_law_668 ?_
  rw [rr_X6_come_at 9]
  cases hq : P_X6_come (p.2 7) (X.1 (i + 1)) (X.1 (i + 2)) with
  | none => rw [hq] at h; cases h
  | some q =>
    rw [hq] at h
    have h0 := Option.some.inj h
    have h1 := congrArg (fun z => z.1.1) h0
    have h2 := congrArg (fun z => z.1.2) h0
    have h3 := congrArg (fun z => z.2) h0
    dsimp only at h1 h2 h3
    subst h1
    subst h2
    subst h3
    show mEv X (mCall mD X 12) 2 t_L_law (mDrop t_L_law 671) [some (mr 8 26), some (mr 6 18), some (mr 7 20), some (mi (nI i))] [mi q.1] (mU p.2 7 q.2) = _
    refine Eq.trans e_L_law_671 ?_
    rfl
noncomputable def lwR_15 (g : mG) (a : Nat → Int32) : Option ((Int32 × Int32) × mG) := mBo (α := Int32 × mC) none (P_X6_ask ((P_X5_ask g (a 1)).2 7) (a 1)) (fun q => some (((P_X5_ask g (a 1)).1, q.1), mU ((P_X5_ask g (a 1)).2) 7 q.2))
set_option maxRecDepth 100000 in
theorem lc_15 {g : mG} (hX : X.2 ≤ 3584) (hi : i + 7 ≤ X.2) {v w : Int32} {g2 : mG} (h : lwR_15 g (fun k => X.1 (i + k)) = some ((v, w), g2))  : mEv X (mCall mD X 12) 2 t_L_law (mDrop t_L_law 675) [some (mr 8 26), some (mr 6 18), some (mr 7 20), some (mi (nI i))] [] g = mEv X (mCall mD X 12) 2 t_L_law (mDrop t_L_law 1180) [some (mr 8 26), some (mr 6 18), some (mr 7 20), some (mi (nI i))] [] g2 := by
  unfold lwR_15 at h
  (try dsimp only at h)
  refine Eq.trans e_L_law_675 ?_
  rw [if_neg (lx hX hi (j := 1) (c := 1) (by decide) (by decide)), lv hX hi (j := 1) (c := 1) (by decide) (by decide)]
  refine Eq.trans e_L_law_681 ?_
  rw [rr_X5_ask 10]
  generalize hp : P_X5_ask g (X.1 (i + 1)) = p at h ⊢
  show mEv X (mCall mD X 12) 2 t_L_law (mDrop t_L_law 684) [some (mr 8 26), some (mr 6 18), some (mr 7 20), some (mi (nI i))] [mi p.1] p.2 = _
  refine Eq.trans e_L_law_684 ?_
  rw [if_neg (lx hX hi (j := 1) (c := 1) (by decide) (by decide)), lv hX hi (j := 1) (c := 1) (by decide) (by decide)]
  refine Eq.trans e_L_law_691 ?_
  rw [rr_X6_ask_at 9]
  cases hq : P_X6_ask (p.2 7) (X.1 (i + 1)) with
  | none => rw [hq] at h; cases h
  | some q =>
    rw [hq] at h
    have h0 := Option.some.inj h
    have h1 := congrArg (fun z => z.1.1) h0
    have h2 := congrArg (fun z => z.1.2) h0
    have h3 := congrArg (fun z => z.2) h0
    dsimp only at h1 h2 h3
    subst h1
    subst h2
    subst h3
    show mEv X (mCall mD X 12) 2 t_L_law (mDrop t_L_law 694) [some (mr 8 26), some (mr 6 18), some (mr 7 20), some (mi (nI i))] [mi q.1] (mU p.2 7 q.2) = _
    refine Eq.trans e_L_law_694 ?_
    rfl
noncomputable def lwR_16 (g : mG) (a : Nat → Int32) : Option ((Int32 × Int32) × mG) := mBo (α := Int32 × mC) none (P_X6_let ((P_X5_let g (a 1)).2 7) (a 1)) (fun q => some (((P_X5_let g (a 1)).1, q.1), mU ((P_X5_let g (a 1)).2) 7 q.2))
set_option maxRecDepth 100000 in
theorem lc_16 {g : mG} (hX : X.2 ≤ 3584) (hi : i + 7 ≤ X.2) {v w : Int32} {g2 : mG} (h : lwR_16 g (fun k => X.1 (i + k)) = some ((v, w), g2))  : mEv X (mCall mD X 12) 2 t_L_law (mDrop t_L_law 698) [some (mr 8 26), some (mr 6 18), some (mr 7 20), some (mi (nI i))] [] g = mEv X (mCall mD X 12) 2 t_L_law (mDrop t_L_law 1180) [some (mr 8 26), some (mr 6 18), some (mr 7 20), some (mi (nI i))] [] g2 := by
  unfold lwR_16 at h
  (try dsimp only at h)
  refine Eq.trans e_L_law_698 ?_
  rw [if_neg (lx hX hi (j := 1) (c := 1) (by decide) (by decide)), lv hX hi (j := 1) (c := 1) (by decide) (by decide)]
  refine Eq.trans e_L_law_704 ?_
  rw [rr_X5_let 10]
  generalize hp : P_X5_let g (X.1 (i + 1)) = p at h ⊢
  show mEv X (mCall mD X 12) 2 t_L_law (mDrop t_L_law 707) [some (mr 8 26), some (mr 6 18), some (mr 7 20), some (mi (nI i))] [mi p.1] p.2 = _
  refine Eq.trans e_L_law_707 ?_
  rw [if_neg (lx hX hi (j := 1) (c := 1) (by decide) (by decide)), lv hX hi (j := 1) (c := 1) (by decide) (by decide)]
  refine Eq.trans e_L_law_714 ?_
  rw [rr_X6_let_at 9]
  cases hq : P_X6_let (p.2 7) (X.1 (i + 1)) with
  | none => rw [hq] at h; cases h
  | some q =>
    rw [hq] at h
    have h0 := Option.some.inj h
    have h1 := congrArg (fun z => z.1.1) h0
    have h2 := congrArg (fun z => z.1.2) h0
    have h3 := congrArg (fun z => z.2) h0
    dsimp only at h1 h2 h3
    subst h1
    subst h2
    subst h3
    show mEv X (mCall mD X 12) 2 t_L_law (mDrop t_L_law 717) [some (mr 8 26), some (mr 6 18), some (mr 7 20), some (mi (nI i))] [mi q.1] (mU p.2 7 q.2) = _
    refine Eq.trans e_L_law_717 ?_
    rfl
noncomputable def lwR_17 (g : mG) (a : Nat → Int32) : Option ((Int32 × Int32) × mG) := mBo (α := Int32 × mC) none (P_X6_brakes ((P_X5_brakes g (a 1) (a 2) (a 3) (a 4) (a 5) (a 6)).2 7) (a 1) (a 2) (a 3) (a 4) (a 5) (a 6)) (fun q => some (((P_X5_brakes g (a 1) (a 2) (a 3) (a 4) (a 5) (a 6)).1, q.1), mU ((P_X5_brakes g (a 1) (a 2) (a 3) (a 4) (a 5) (a 6)).2) 7 q.2))
set_option maxRecDepth 100000 in
theorem lc_17 {g : mG} (hX : X.2 ≤ 3584) (hi : i + 7 ≤ X.2) {v w : Int32} {g2 : mG} (h : lwR_17 g (fun k => X.1 (i + k)) = some ((v, w), g2))  : mEv X (mCall mD X 12) 2 t_L_law (mDrop t_L_law 721) [some (mr 8 26), some (mr 6 18), some (mr 7 20), some (mi (nI i))] [] g = mEv X (mCall mD X 12) 2 t_L_law (mDrop t_L_law 1180) [some (mr 8 26), some (mr 6 18), some (mr 7 20), some (mi (nI i))] [] g2 := by
  unfold lwR_17 at h
  (try dsimp only at h)
  refine Eq.trans e_L_law_721 ?_
  rw [if_neg (lx hX hi (j := 1) (c := 1) (by decide) (by decide)), lv hX hi (j := 1) (c := 1) (by decide) (by decide)]
  refine Eq.trans e_L_law_727 ?_
  rw [if_neg (lx hX hi (j := 2) (c := 2) (by decide) (by decide)), lv hX hi (j := 2) (c := 2) (by decide) (by decide)]
  refine Eq.trans e_L_law_732 ?_
  rw [if_neg (lx hX hi (j := 3) (c := 3) (by decide) (by decide)), lv hX hi (j := 3) (c := 3) (by decide) (by decide)]
  refine Eq.trans e_L_law_737 ?_
  rw [if_neg (lx hX hi (j := 4) (c := 4) (by decide) (by decide)), lv hX hi (j := 4) (c := 4) (by decide) (by decide)]
  refine Eq.trans e_L_law_742 ?_
  rw [if_neg (lx hX hi (j := 5) (c := 5) (by decide) (by decide)), lv hX hi (j := 5) (c := 5) (by decide) (by decide)]
  refine Eq.trans e_L_law_747 ?_
  rw [if_neg (lx hX hi (j := 6) (c := 6) (by decide) (by decide)), lv hX hi (j := 6) (c := 6) (by decide) (by decide)]
  refine Eq.trans e_L_law_753 ?_
  rw [rr_X5_brakes 7]
  generalize hp : P_X5_brakes g (X.1 (i + 1)) (X.1 (i + 2)) (X.1 (i + 3)) (X.1 (i + 4)) (X.1 (i + 5)) (X.1 (i + 6)) = p at h ⊢
  show mEv X (mCall mD X 12) 2 t_L_law (mDrop t_L_law 756) [some (mr 8 26), some (mr 6 18), some (mr 7 20), some (mi (nI i))] [mi p.1] p.2 = _
  refine Eq.trans e_L_law_756 ?_
  rw [if_neg (lx hX hi (j := 1) (c := 1) (by decide) (by decide)), lv hX hi (j := 1) (c := 1) (by decide) (by decide)]
  refine Eq.trans e_L_law_763 ?_
  rw [if_neg (lx hX hi (j := 2) (c := 2) (by decide) (by decide)), lv hX hi (j := 2) (c := 2) (by decide) (by decide)]
  refine Eq.trans e_L_law_768 ?_
  rw [if_neg (lx hX hi (j := 3) (c := 3) (by decide) (by decide)), lv hX hi (j := 3) (c := 3) (by decide) (by decide)]
  refine Eq.trans e_L_law_773 ?_
  rw [if_neg (lx hX hi (j := 4) (c := 4) (by decide) (by decide)), lv hX hi (j := 4) (c := 4) (by decide) (by decide)]
  refine Eq.trans e_L_law_778 ?_
  rw [if_neg (lx hX hi (j := 5) (c := 5) (by decide) (by decide)), lv hX hi (j := 5) (c := 5) (by decide) (by decide)]
  refine Eq.trans e_L_law_783 ?_
  rw [if_neg (lx hX hi (j := 6) (c := 6) (by decide) (by decide)), lv hX hi (j := 6) (c := 6) (by decide) (by decide)]
  refine Eq.trans e_L_law_789 ?_
  rw [rr_X6_brakes_at 6]
  cases hq : P_X6_brakes (p.2 7) (X.1 (i + 1)) (X.1 (i + 2)) (X.1 (i + 3)) (X.1 (i + 4)) (X.1 (i + 5)) (X.1 (i + 6)) with
  | none => rw [hq] at h; cases h
  | some q =>
    rw [hq] at h
    have h0 := Option.some.inj h
    have h1 := congrArg (fun z => z.1.1) h0
    have h2 := congrArg (fun z => z.1.2) h0
    have h3 := congrArg (fun z => z.2) h0
    dsimp only at h1 h2 h3
    subst h1
    subst h2
    subst h3
    show mEv X (mCall mD X 12) 2 t_L_law (mDrop t_L_law 792) [some (mr 8 26), some (mr 6 18), some (mr 7 20), some (mi (nI i))] [mi q.1] (mU p.2 7 q.2) = _
    refine Eq.trans e_L_law_792 ?_
    rfl
noncomputable def lwR_18 (g : mG) (a : Nat → Int32) : Option ((Int32 × Int32) × mG) := mBo (α := Int32 × mC) none (P_X6_stick ((P_X5_stick g (a 1) (if a 2 = 0 then 0 else 1)).2 7) (a 1) (if a 2 = 0 then 0 else 1)) (fun q => some (((P_X5_stick g (a 1) (if a 2 = 0 then 0 else 1)).1, q.1), mU ((P_X5_stick g (a 1) (if a 2 = 0 then 0 else 1)).2) 7 q.2))
set_option maxRecDepth 100000 in
theorem lc_18 {g : mG} (hX : X.2 ≤ 3584) (hi : i + 7 ≤ X.2) {v w : Int32} {g2 : mG} (h : lwR_18 g (fun k => X.1 (i + k)) = some ((v, w), g2))  : mEv X (mCall mD X 12) 2 t_L_law (mDrop t_L_law 796) [some (mr 8 26), some (mr 6 18), some (mr 7 20), some (mi (nI i))] [] g = mEv X (mCall mD X 12) 2 t_L_law (mDrop t_L_law 1180) [some (mr 8 26), some (mr 6 18), some (mr 7 20), some (mi (nI i))] [] g2 := by
  unfold lwR_18 at h
  (try dsimp only at h)
  refine Eq.trans e_L_law_796 ?_
  rw [if_neg (lx hX hi (j := 1) (c := 1) (by decide) (by decide)), lv hX hi (j := 1) (c := 1) (by decide) (by decide)]
  refine Eq.trans e_L_law_802 ?_
  rw [if_neg (lx hX hi (j := 2) (c := 2) (by decide) (by decide)), lv hX hi (j := 2) (c := 2) (by decide) (by decide)]
  refine Eq.trans e_L_law_807 ?_
  by_cases hb : (X.1 (i + 2)) = 0
  · rw [if_pos hb]
    simp only [if_pos hb] at h
    refine Eq.trans e_L_law_814 ?_
    refine Eq.trans e_L_law_815 ?_
    rw [rr_X5_stick 9]
    generalize hp : P_X5_stick g (X.1 (i + 1)) 0 = p at h ⊢
    show mEv X (mCall mD X 12) 2 t_L_law (mDrop t_L_law 818) [some (mr 8 26), some (mr 6 18), some (mr 7 20), some (mi (nI i))] [mi p.1] p.2 = _
    refine Eq.trans e_L_law_818 ?_
    rw [if_neg (lx hX hi (j := 1) (c := 1) (by decide) (by decide)), lv hX hi (j := 1) (c := 1) (by decide) (by decide)]
    refine Eq.trans e_L_law_825 ?_
    rw [if_neg (lx hX hi (j := 2) (c := 2) (by decide) (by decide)), lv hX hi (j := 2) (c := 2) (by decide) (by decide)]
    refine Eq.trans e_L_law_830 ?_
    rw [if_pos hb]
    refine Eq.trans e_L_law_837 ?_
    refine Eq.trans e_L_law_838 ?_
    rw [rr_X6_stick_at 9]
    cases hq : P_X6_stick (p.2 7) (X.1 (i + 1)) 0 with
    | none => rw [hq] at h; cases h
    | some q =>
      rw [hq] at h
      have h0 := Option.some.inj h
      have h1 := congrArg (fun z => z.1.1) h0
      have h2 := congrArg (fun z => z.1.2) h0
      have h3 := congrArg (fun z => z.2) h0
      dsimp only at h1 h2 h3
      subst h1
      subst h2
      subst h3
      show mEv X (mCall mD X 12) 2 t_L_law (mDrop t_L_law 841) [some (mr 8 26), some (mr 6 18), some (mr 7 20), some (mi (nI i))] [mi q.1] (mU p.2 7 q.2) = _
      refine Eq.trans e_L_law_841 ?_
      rfl
  · rw [if_neg hb]
    simp only [if_neg hb] at h
    refine Eq.trans e_L_law_810 ?_
    refine Eq.trans e_L_law_815 ?_
    rw [rr_X5_stick 9]
    generalize hp : P_X5_stick g (X.1 (i + 1)) 1 = p at h ⊢
    show mEv X (mCall mD X 12) 2 t_L_law (mDrop t_L_law 818) [some (mr 8 26), some (mr 6 18), some (mr 7 20), some (mi (nI i))] [mi p.1] p.2 = _
    refine Eq.trans e_L_law_818 ?_
    rw [if_neg (lx hX hi (j := 1) (c := 1) (by decide) (by decide)), lv hX hi (j := 1) (c := 1) (by decide) (by decide)]
    refine Eq.trans e_L_law_825 ?_
    rw [if_neg (lx hX hi (j := 2) (c := 2) (by decide) (by decide)), lv hX hi (j := 2) (c := 2) (by decide) (by decide)]
    refine Eq.trans e_L_law_830 ?_
    rw [if_neg hb]
    refine Eq.trans e_L_law_833 ?_
    refine Eq.trans e_L_law_838 ?_
    rw [rr_X6_stick_at 9]
    cases hq : P_X6_stick (p.2 7) (X.1 (i + 1)) 1 with
    | none => rw [hq] at h; cases h
    | some q =>
      rw [hq] at h
      have h0 := Option.some.inj h
      have h1 := congrArg (fun z => z.1.1) h0
      have h2 := congrArg (fun z => z.1.2) h0
      have h3 := congrArg (fun z => z.2) h0
      dsimp only at h1 h2 h3
      subst h1
      subst h2
      subst h3
      show mEv X (mCall mD X 12) 2 t_L_law (mDrop t_L_law 841) [some (mr 8 26), some (mr 6 18), some (mr 7 20), some (mi (nI i))] [mi q.1] (mU p.2 7 q.2) = _
      refine Eq.trans e_L_law_841 ?_
      rfl
noncomputable def lwR_19 (g : mG) (a : Nat → Int32) : Option ((Int32 × Int32) × mG) := mBo (α := Int32 × mC) none (P_X6_reset ((P_X5_reset g).2 7)) (fun q => some (((P_X5_reset g).1, q.1), mU ((P_X5_reset g).2) 7 q.2))
set_option maxRecDepth 100000 in
theorem lc_19 {g : mG} (hX : X.2 ≤ 3584) (hi : i + 7 ≤ X.2) {v w : Int32} {g2 : mG} (h : lwR_19 g (fun k => X.1 (i + k)) = some ((v, w), g2))  : mEv X (mCall mD X 12) 2 t_L_law (mDrop t_L_law 845) [some (mr 8 26), some (mr 6 18), some (mr 7 20), some (mi (nI i))] [] g = mEv X (mCall mD X 12) 2 t_L_law (mDrop t_L_law 1180) [some (mr 8 26), some (mr 6 18), some (mr 7 20), some (mi (nI i))] [] g2 := by
  unfold lwR_19 at h
  (try dsimp only at h)
  refine Eq.trans e_L_law_845 ?_
  rw [rr_X5_reset 9]
  generalize hp : P_X5_reset g = p at h ⊢
  show mEv X (mCall mD X 12) 2 t_L_law (mDrop t_L_law 849) [some (mr 8 26), some (mr 6 18), some (mr 7 20), some (mi (nI i))] [mi p.1] p.2 = _
  refine Eq.trans e_L_law_849 ?_
  rw [rr_X6_reset_at 4]
  cases hq : P_X6_reset (p.2 7) with
  | none => rw [hq] at h; cases h
  | some q =>
    rw [hq] at h
    have h0 := Option.some.inj h
    have h1 := congrArg (fun z => z.1.1) h0
    have h2 := congrArg (fun z => z.1.2) h0
    have h3 := congrArg (fun z => z.2) h0
    dsimp only at h1 h2 h3
    subst h1
    subst h2
    subst h3
    show mEv X (mCall mD X 12) 2 t_L_law (mDrop t_L_law 854) [some (mr 8 26), some (mr 6 18), some (mr 7 20), some (mi (nI i))] [mi q.1] (mU p.2 7 q.2) = _
    refine Eq.trans e_L_law_854 ?_
    rfl
noncomputable def lwR_20 (g : mG) (a : Nat → Int32) : Option ((Int32 × Int32) × mG) := mBo (α := Int32 × mC) none (P_X6_tick ((P_X5_tick g (a 1)).2 7) (a 1)) (fun q => some (((P_X5_tick g (a 1)).1, q.1), mU ((P_X5_tick g (a 1)).2) 7 q.2))
set_option maxRecDepth 100000 in
theorem lc_20 {g : mG} (hX : X.2 ≤ 3584) (hi : i + 7 ≤ X.2) {v w : Int32} {g2 : mG} (h : lwR_20 g (fun k => X.1 (i + k)) = some ((v, w), g2))  : mEv X (mCall mD X 12) 2 t_L_law (mDrop t_L_law 858) [some (mr 8 26), some (mr 6 18), some (mr 7 20), some (mi (nI i))] [] g = mEv X (mCall mD X 12) 2 t_L_law (mDrop t_L_law 1180) [some (mr 8 26), some (mr 6 18), some (mr 7 20), some (mi (nI i))] [] g2 := by
  unfold lwR_20 at h
  (try dsimp only at h)
  refine Eq.trans e_L_law_858 ?_
  rw [if_neg (lx hX hi (j := 1) (c := 1) (by decide) (by decide)), lv hX hi (j := 1) (c := 1) (by decide) (by decide)]
  refine Eq.trans e_L_law_864 ?_
  rw [rr_X5_tick 3]
  generalize hp : P_X5_tick g (X.1 (i + 1)) = p at h ⊢
  show mEv X (mCall mD X 12) 2 t_L_law (mDrop t_L_law 867) [some (mr 8 26), some (mr 6 18), some (mr 7 20), some (mi (nI i))] [mi p.1] p.2 = _
  refine Eq.trans e_L_law_867 ?_
  rw [if_neg (lx hX hi (j := 1) (c := 1) (by decide) (by decide)), lv hX hi (j := 1) (c := 1) (by decide) (by decide)]
  refine Eq.trans e_L_law_874 ?_
  rw [rr_X6_tick_at 1]
  cases hq : P_X6_tick (p.2 7) (X.1 (i + 1)) with
  | none => rw [hq] at h; cases h
  | some q =>
    rw [hq] at h
    have h0 := Option.some.inj h
    have h1 := congrArg (fun z => z.1.1) h0
    have h2 := congrArg (fun z => z.1.2) h0
    have h3 := congrArg (fun z => z.2) h0
    dsimp only at h1 h2 h3
    subst h1
    subst h2
    subst h3
    show mEv X (mCall mD X 12) 2 t_L_law (mDrop t_L_law 877) [some (mr 8 26), some (mr 6 18), some (mr 7 20), some (mi (nI i))] [mi q.1] (mU p.2 7 q.2) = _
    refine Eq.trans e_L_law_877 ?_
    rfl
noncomputable def lwR_21 (g : mG) (a : Nat → Int32) : Option ((Int32 × Int32) × mG) := mBo (α := Int32 × mC) none (P_X6_run ((P_X5_run g (a 1) (a 2)).2 7) (a 1) (a 2)) (fun q => some (((P_X5_run g (a 1) (a 2)).1, q.1), mU ((P_X5_run g (a 1) (a 2)).2) 7 q.2))
set_option maxRecDepth 100000 in
theorem lc_21 {g : mG} (hX : X.2 ≤ 3584) (hi : i + 7 ≤ X.2) {v w : Int32} {g2 : mG} (h : lwR_21 g (fun k => X.1 (i + k)) = some ((v, w), g2))  : mEv X (mCall mD X 12) 2 t_L_law (mDrop t_L_law 881) [some (mr 8 26), some (mr 6 18), some (mr 7 20), some (mi (nI i))] [] g = mEv X (mCall mD X 12) 2 t_L_law (mDrop t_L_law 1180) [some (mr 8 26), some (mr 6 18), some (mr 7 20), some (mi (nI i))] [] g2 := by
  unfold lwR_21 at h
  (try dsimp only at h)
  refine Eq.trans e_L_law_881 ?_
  rw [if_neg (lx hX hi (j := 1) (c := 1) (by decide) (by decide)), lv hX hi (j := 1) (c := 1) (by decide) (by decide)]
  refine Eq.trans e_L_law_887 ?_
  rw [if_neg (lx hX hi (j := 2) (c := 2) (by decide) (by decide)), lv hX hi (j := 2) (c := 2) (by decide) (by decide)]
  refine Eq.trans e_L_law_892 ?_
  rw [rr_X5_run 4]
  generalize hp : P_X5_run g (X.1 (i + 1)) (X.1 (i + 2)) = p at h ⊢
  show mEv X (mCall mD X 12) 2 t_L_law (mDrop t_L_law 895) [some (mr 8 26), some (mr 6 18), some (mr 7 20), some (mi (nI i))] [mi p.1] p.2 = _
  refine Eq.trans e_L_law_895 ?_
  rw [if_neg (lx hX hi (j := 1) (c := 1) (by decide) (by decide)), lv hX hi (j := 1) (c := 1) (by decide) (by decide)]
  refine Eq.trans e_L_law_902 ?_
  rw [if_neg (lx hX hi (j := 2) (c := 2) (by decide) (by decide)), lv hX hi (j := 2) (c := 2) (by decide) (by decide)]
  refine Eq.trans e_L_law_907 ?_
  rw [rr_X6_run_at 1]
  cases hq : P_X6_run (p.2 7) (X.1 (i + 1)) (X.1 (i + 2)) with
  | none => rw [hq] at h; cases h
  | some q =>
    rw [hq] at h
    have h0 := Option.some.inj h
    have h1 := congrArg (fun z => z.1.1) h0
    have h2 := congrArg (fun z => z.1.2) h0
    have h3 := congrArg (fun z => z.2) h0
    dsimp only at h1 h2 h3
    subst h1
    subst h2
    subst h3
    show mEv X (mCall mD X 12) 2 t_L_law (mDrop t_L_law 910) [some (mr 8 26), some (mr 6 18), some (mr 7 20), some (mi (nI i))] [mi q.1] (mU p.2 7 q.2) = _
    refine Eq.trans e_L_law_910 ?_
    rfl
noncomputable def lwR_22 (g : mG) (a : Nat → Int32) : Option ((Int32 × Int32) × mG) := mBo (α := Int32 × mC) none (P_X6_keep ((P_X5_keep g).2 7)) (fun q => some (((P_X5_keep g).1, q.1), mU ((P_X5_keep g).2) 7 q.2))
set_option maxRecDepth 100000 in
theorem lc_22 {g : mG} (hX : X.2 ≤ 3584) (hi : i + 7 ≤ X.2) {v w : Int32} {g2 : mG} (h : lwR_22 g (fun k => X.1 (i + k)) = some ((v, w), g2))  : mEv X (mCall mD X 12) 2 t_L_law (mDrop t_L_law 914) [some (mr 8 26), some (mr 6 18), some (mr 7 20), some (mi (nI i))] [] g = mEv X (mCall mD X 12) 2 t_L_law (mDrop t_L_law 1180) [some (mr 8 26), some (mr 6 18), some (mr 7 20), some (mi (nI i))] [] g2 := by
  unfold lwR_22 at h
  (try dsimp only at h)
  refine Eq.trans e_L_law_914 ?_
  rw [rr_X5_keep 7]
  generalize hp : P_X5_keep g = p at h ⊢
  show mEv X (mCall mD X 12) 2 t_L_law (mDrop t_L_law 918) [some (mr 8 26), some (mr 6 18), some (mr 7 20), some (mi (nI i))] [mi p.1] p.2 = _
  refine Eq.trans e_L_law_918 ?_
  rw [rr_X6_keep_at 10]
  cases hq : P_X6_keep (p.2 7) with
  | none => rw [hq] at h; cases h
  | some q =>
    rw [hq] at h
    have h0 := Option.some.inj h
    have h1 := congrArg (fun z => z.1.1) h0
    have h2 := congrArg (fun z => z.1.2) h0
    have h3 := congrArg (fun z => z.2) h0
    dsimp only at h1 h2 h3
    subst h1
    subst h2
    subst h3
    show mEv X (mCall mD X 12) 2 t_L_law (mDrop t_L_law 923) [some (mr 8 26), some (mr 6 18), some (mr 7 20), some (mi (nI i))] [mi q.1] (mU p.2 7 q.2) = _
    refine Eq.trans e_L_law_923 ?_
    rfl
noncomputable def lwR_23 (g : mG) (a : Nat → Int32) : Option ((Int32 × Int32) × mG) := mBo (α := Int32 × mC) none (P_X6_back ((P_X5_back g).2 7)) (fun q => some (((P_X5_back g).1, q.1), mU ((P_X5_back g).2) 7 q.2))
set_option maxRecDepth 100000 in
theorem lc_23 {g : mG} (hX : X.2 ≤ 3584) (hi : i + 7 ≤ X.2) {v w : Int32} {g2 : mG} (h : lwR_23 g (fun k => X.1 (i + k)) = some ((v, w), g2))  : mEv X (mCall mD X 12) 2 t_L_law (mDrop t_L_law 927) [some (mr 8 26), some (mr 6 18), some (mr 7 20), some (mi (nI i))] [] g = mEv X (mCall mD X 12) 2 t_L_law (mDrop t_L_law 1180) [some (mr 8 26), some (mr 6 18), some (mr 7 20), some (mi (nI i))] [] g2 := by
  unfold lwR_23 at h
  (try dsimp only at h)
  refine Eq.trans e_L_law_927 ?_
  rw [rr_X5_back 7]
  generalize hp : P_X5_back g = p at h ⊢
  show mEv X (mCall mD X 12) 2 t_L_law (mDrop t_L_law 931) [some (mr 8 26), some (mr 6 18), some (mr 7 20), some (mi (nI i))] [mi p.1] p.2 = _
  refine Eq.trans e_L_law_931 ?_
  rw [rr_X6_back_at 10]
  cases hq : P_X6_back (p.2 7) with
  | none => rw [hq] at h; cases h
  | some q =>
    rw [hq] at h
    have h0 := Option.some.inj h
    have h1 := congrArg (fun z => z.1.1) h0
    have h2 := congrArg (fun z => z.1.2) h0
    have h3 := congrArg (fun z => z.2) h0
    dsimp only at h1 h2 h3
    subst h1
    subst h2
    subst h3
    show mEv X (mCall mD X 12) 2 t_L_law (mDrop t_L_law 936) [some (mr 8 26), some (mr 6 18), some (mr 7 20), some (mi (nI i))] [mi q.1] (mU p.2 7 q.2) = _
    refine Eq.trans e_L_law_936 ?_
    rfl
noncomputable def lwR_24 (g : mG) (a : Nat → Int32) : Option ((Int32 × Int32) × mG) := mBo (α := Int32 × mC) none (P_X6_foes ((P_X5_foes g (a 1) (a 2)).2 7) (a 1) (a 2)) (fun q => some (((P_X5_foes g (a 1) (a 2)).1, q.1), mU ((P_X5_foes g (a 1) (a 2)).2) 7 q.2))
set_option maxRecDepth 100000 in
theorem lc_24 {g : mG} (hX : X.2 ≤ 3584) (hi : i + 7 ≤ X.2) {v w : Int32} {g2 : mG} (h : lwR_24 g (fun k => X.1 (i + k)) = some ((v, w), g2))  : mEv X (mCall mD X 12) 2 t_L_law (mDrop t_L_law 940) [some (mr 8 26), some (mr 6 18), some (mr 7 20), some (mi (nI i))] [] g = mEv X (mCall mD X 12) 2 t_L_law (mDrop t_L_law 1180) [some (mr 8 26), some (mr 6 18), some (mr 7 20), some (mi (nI i))] [] g2 := by
  unfold lwR_24 at h
  (try dsimp only at h)
  refine Eq.trans e_L_law_940 ?_
  rw [if_neg (lx hX hi (j := 1) (c := 1) (by decide) (by decide)), lv hX hi (j := 1) (c := 1) (by decide) (by decide)]
  refine Eq.trans e_L_law_946 ?_
  rw [if_neg (lx hX hi (j := 2) (c := 2) (by decide) (by decide)), lv hX hi (j := 2) (c := 2) (by decide) (by decide)]
  refine Eq.trans e_L_law_951 ?_
  rw [rr_X5_foes 9]
  generalize hp : P_X5_foes g (X.1 (i + 1)) (X.1 (i + 2)) = p at h ⊢
  show mEv X (mCall mD X 12) 2 t_L_law (mDrop t_L_law 954) [some (mr 8 26), some (mr 6 18), some (mr 7 20), some (mi (nI i))] [mi p.1] p.2 = _
  refine Eq.trans e_L_law_954 ?_
  rw [if_neg (lx hX hi (j := 1) (c := 1) (by decide) (by decide)), lv hX hi (j := 1) (c := 1) (by decide) (by decide)]
  refine Eq.trans e_L_law_961 ?_
  rw [if_neg (lx hX hi (j := 2) (c := 2) (by decide) (by decide)), lv hX hi (j := 2) (c := 2) (by decide) (by decide)]
  refine Eq.trans e_L_law_966 ?_
  rw [rr_X6_foes_at 8]
  cases hq : P_X6_foes (p.2 7) (X.1 (i + 1)) (X.1 (i + 2)) with
  | none => rw [hq] at h; cases h
  | some q =>
    rw [hq] at h
    have h0 := Option.some.inj h
    have h1 := congrArg (fun z => z.1.1) h0
    have h2 := congrArg (fun z => z.1.2) h0
    have h3 := congrArg (fun z => z.2) h0
    dsimp only at h1 h2 h3
    subst h1
    subst h2
    subst h3
    show mEv X (mCall mD X 12) 2 t_L_law (mDrop t_L_law 969) [some (mr 8 26), some (mr 6 18), some (mr 7 20), some (mi (nI i))] [mi q.1] (mU p.2 7 q.2) = _
    refine Eq.trans e_L_law_969 ?_
    rfl
noncomputable def lwR_25 (g : mG) (a : Nat → Int32) : Option ((Int32 × Int32) × mG) := mBo (α := Int32 × mC) none (P_X6_sets ((P_X5_sets g (a 1)).2 7) (a 1)) (fun q => some (((P_X5_sets g (a 1)).1, q.1), mU ((P_X5_sets g (a 1)).2) 7 q.2))
set_option maxRecDepth 100000 in
theorem lc_25 {g : mG} (hX : X.2 ≤ 3584) (hi : i + 7 ≤ X.2) (hS : (P_X2_allSet (g 0)).toInt < 2147483647) {v w : Int32} {g2 : mG} (h : lwR_25 g (fun k => X.1 (i + k)) = some ((v, w), g2))  : mEv X (mCall mD X 12) 2 t_L_law (mDrop t_L_law 973) [some (mr 8 26), some (mr 6 18), some (mr 7 20), some (mi (nI i))] [] g = mEv X (mCall mD X 12) 2 t_L_law (mDrop t_L_law 1180) [some (mr 8 26), some (mr 6 18), some (mr 7 20), some (mi (nI i))] [] g2 := by
  unfold lwR_25 at h
  (try dsimp only at h)
  refine Eq.trans e_L_law_973 ?_
  rw [if_neg (lx hX hi (j := 1) (c := 1) (by decide) (by decide)), lv hX hi (j := 1) (c := 1) (by decide) (by decide)]
  refine Eq.trans e_L_law_979 ?_
  rw [rr_X5_sets 8 hS]
  generalize hp : P_X5_sets g (X.1 (i + 1)) = p at h ⊢
  show mEv X (mCall mD X 12) 2 t_L_law (mDrop t_L_law 982) [some (mr 8 26), some (mr 6 18), some (mr 7 20), some (mi (nI i))] [mi p.1] p.2 = _
  refine Eq.trans e_L_law_982 ?_
  rw [if_neg (lx hX hi (j := 1) (c := 1) (by decide) (by decide)), lv hX hi (j := 1) (c := 1) (by decide) (by decide)]
  refine Eq.trans e_L_law_989 ?_
  rw [rr_X6_sets_at 5]
  cases hq : P_X6_sets (p.2 7) (X.1 (i + 1)) with
  | none => rw [hq] at h; cases h
  | some q =>
    rw [hq] at h
    have h0 := Option.some.inj h
    have h1 := congrArg (fun z => z.1.1) h0
    have h2 := congrArg (fun z => z.1.2) h0
    have h3 := congrArg (fun z => z.2) h0
    dsimp only at h1 h2 h3
    subst h1
    subst h2
    subst h3
    show mEv X (mCall mD X 12) 2 t_L_law (mDrop t_L_law 992) [some (mr 8 26), some (mr 6 18), some (mr 7 20), some (mi (nI i))] [mi q.1] (mU p.2 7 q.2) = _
    refine Eq.trans e_L_law_992 ?_
    rfl
noncomputable def lwR_26 (g : mG) (a : Nat → Int32) : Option ((Int32 × Int32) × mG) := mBo (α := Int32 × mC) none (P_X6_when ((P_X5_when g (a 1)).2 7) (a 1)) (fun q => some (((P_X5_when g (a 1)).1, q.1), mU ((P_X5_when g (a 1)).2) 7 q.2))
set_option maxRecDepth 100000 in
theorem lc_26 {g : mG} (hX : X.2 ≤ 3584) (hi : i + 7 ≤ X.2) {v w : Int32} {g2 : mG} (h : lwR_26 g (fun k => X.1 (i + k)) = some ((v, w), g2))  : mEv X (mCall mD X 12) 2 t_L_law (mDrop t_L_law 996) [some (mr 8 26), some (mr 6 18), some (mr 7 20), some (mi (nI i))] [] g = mEv X (mCall mD X 12) 2 t_L_law (mDrop t_L_law 1180) [some (mr 8 26), some (mr 6 18), some (mr 7 20), some (mi (nI i))] [] g2 := by
  unfold lwR_26 at h
  (try dsimp only at h)
  refine Eq.trans e_L_law_996 ?_
  rw [if_neg (lx hX hi (j := 1) (c := 1) (by decide) (by decide)), lv hX hi (j := 1) (c := 1) (by decide) (by decide)]
  refine Eq.trans e_L_law_1002 ?_
  rw [rr_X5_when 3]
  generalize hp : P_X5_when g (X.1 (i + 1)) = p at h ⊢
  show mEv X (mCall mD X 12) 2 t_L_law (mDrop t_L_law 1005) [some (mr 8 26), some (mr 6 18), some (mr 7 20), some (mi (nI i))] [mi p.1] p.2 = _
  refine Eq.trans e_L_law_1005 ?_
  rw [if_neg (lx hX hi (j := 1) (c := 1) (by decide) (by decide)), lv hX hi (j := 1) (c := 1) (by decide) (by decide)]
  refine Eq.trans e_L_law_1012 ?_
  rw [rr_X6_when_at 0]
  cases hq : P_X6_when (p.2 7) (X.1 (i + 1)) with
  | none => rw [hq] at h; cases h
  | some q =>
    rw [hq] at h
    have h0 := Option.some.inj h
    have h1 := congrArg (fun z => z.1.1) h0
    have h2 := congrArg (fun z => z.1.2) h0
    have h3 := congrArg (fun z => z.2) h0
    dsimp only at h1 h2 h3
    subst h1
    subst h2
    subst h3
    show mEv X (mCall mD X 12) 2 t_L_law (mDrop t_L_law 1015) [some (mr 8 26), some (mr 6 18), some (mr 7 20), some (mi (nI i))] [mi q.1] (mU p.2 7 q.2) = _
    refine Eq.trans e_L_law_1015 ?_
    rfl
noncomputable def lwR_27 (g : mG) (a : Nat → Int32) : Option ((Int32 × Int32) × mG) := mBo (α := Int32 × mC) none (P_X6_worst ((P_X5_worst g (a 1)).2 7) (a 1)) (fun q => some (((P_X5_worst g (a 1)).1, q.1), mU ((P_X5_worst g (a 1)).2) 7 q.2))
set_option maxRecDepth 100000 in
theorem lc_27 {g : mG} (hX : X.2 ≤ 3584) (hi : i + 7 ≤ X.2) {v w : Int32} {g2 : mG} (h : lwR_27 g (fun k => X.1 (i + k)) = some ((v, w), g2))  : mEv X (mCall mD X 12) 2 t_L_law (mDrop t_L_law 1019) [some (mr 8 26), some (mr 6 18), some (mr 7 20), some (mi (nI i))] [] g = mEv X (mCall mD X 12) 2 t_L_law (mDrop t_L_law 1180) [some (mr 8 26), some (mr 6 18), some (mr 7 20), some (mi (nI i))] [] g2 := by
  unfold lwR_27 at h
  (try dsimp only at h)
  refine Eq.trans e_L_law_1019 ?_
  rw [if_neg (lx hX hi (j := 1) (c := 1) (by decide) (by decide)), lv hX hi (j := 1) (c := 1) (by decide) (by decide)]
  refine Eq.trans e_L_law_1025 ?_
  rw [rr_X5_worst 3]
  generalize hp : P_X5_worst g (X.1 (i + 1)) = p at h ⊢
  show mEv X (mCall mD X 12) 2 t_L_law (mDrop t_L_law 1028) [some (mr 8 26), some (mr 6 18), some (mr 7 20), some (mi (nI i))] [mi p.1] p.2 = _
  refine Eq.trans e_L_law_1028 ?_
  rw [if_neg (lx hX hi (j := 1) (c := 1) (by decide) (by decide)), lv hX hi (j := 1) (c := 1) (by decide) (by decide)]
  refine Eq.trans e_L_law_1035 ?_
  rw [rr_X6_worst_at 0]
  cases hq : P_X6_worst (p.2 7) (X.1 (i + 1)) with
  | none => rw [hq] at h; cases h
  | some q =>
    rw [hq] at h
    have h0 := Option.some.inj h
    have h1 := congrArg (fun z => z.1.1) h0
    have h2 := congrArg (fun z => z.1.2) h0
    have h3 := congrArg (fun z => z.2) h0
    dsimp only at h1 h2 h3
    subst h1
    subst h2
    subst h3
    show mEv X (mCall mD X 12) 2 t_L_law (mDrop t_L_law 1038) [some (mr 8 26), some (mr 6 18), some (mr 7 20), some (mi (nI i))] [mi q.1] (mU p.2 7 q.2) = _
    refine Eq.trans e_L_law_1038 ?_
    rfl
noncomputable def lwR_28 (g : mG) (a : Nat → Int32) : Option ((Int32 × Int32) × mG) := mBo (α := Int32 × mC) none (P_X6_cleared ((P_X5_cleared g).2 7)) (fun q => some (((P_X5_cleared g).1, q.1), mU ((P_X5_cleared g).2) 7 q.2))
set_option maxRecDepth 100000 in
theorem lc_28 {g : mG} (hX : X.2 ≤ 3584) (hi : i + 7 ≤ X.2) {v w : Int32} {g2 : mG} (h : lwR_28 g (fun k => X.1 (i + k)) = some ((v, w), g2))  : mEv X (mCall mD X 12) 2 t_L_law (mDrop t_L_law 1042) [some (mr 8 26), some (mr 6 18), some (mr 7 20), some (mi (nI i))] [] g = mEv X (mCall mD X 12) 2 t_L_law (mDrop t_L_law 1180) [some (mr 8 26), some (mr 6 18), some (mr 7 20), some (mi (nI i))] [] g2 := by
  unfold lwR_28 at h
  (try dsimp only at h)
  refine Eq.trans e_L_law_1042 ?_
  rw [rr_X5_cleared 3]
  generalize hp : P_X5_cleared g = p at h ⊢
  show mEv X (mCall mD X 12) 2 t_L_law (mDrop t_L_law 1046) [some (mr 8 26), some (mr 6 18), some (mr 7 20), some (mi (nI i))] [mi p.1] p.2 = _
  refine Eq.trans e_L_law_1046 ?_
  rw [rr_X6_cleared_at 0]
  cases hq : P_X6_cleared (p.2 7) with
  | none => rw [hq] at h; cases h
  | some q =>
    rw [hq] at h
    have h0 := Option.some.inj h
    have h1 := congrArg (fun z => z.1.1) h0
    have h2 := congrArg (fun z => z.1.2) h0
    have h3 := congrArg (fun z => z.2) h0
    dsimp only at h1 h2 h3
    subst h1
    subst h2
    subst h3
    show mEv X (mCall mD X 12) 2 t_L_law (mDrop t_L_law 1051) [some (mr 8 26), some (mr 6 18), some (mr 7 20), some (mi (nI i))] [mi q.1] (mU p.2 7 q.2) = _
    refine Eq.trans e_L_law_1051 ?_
    rfl
noncomputable def lwR_29 (g : mG) (a : Nat → Int32) : Option ((Int32 × Int32) × mG) := mBo (α := Int32 × mC) none (P_X6_instep ((P_X5_instep g).2 7)) (fun q => some (((P_X5_instep g).1, q.1), mU ((P_X5_instep g).2) 7 q.2))
set_option maxRecDepth 100000 in
theorem lc_29 {g : mG} (hX : X.2 ≤ 3584) (hi : i + 7 ≤ X.2) {v w : Int32} {g2 : mG} (h : lwR_29 g (fun k => X.1 (i + k)) = some ((v, w), g2)) (hvw : true = true → v = w) : mEv X (mCall mD X 12) 2 t_L_law (mDrop t_L_law 1055) [some (mr 8 26), some (mr 6 18), some (mr 7 20), some (mi (nI i))] [] g = mEv X (mCall mD X 12) 2 t_L_law (mDrop t_L_law 1180) [some (mr 8 26), some (mr 6 18), some (mr 7 20), some (mi (nI i))] [] g2 := by
  unfold lwR_29 at h
  (try dsimp only at h)
  refine Eq.trans e_L_law_1055 ?_
  rw [rr_X5_instep 3]
  generalize hp : P_X5_instep g = p at h ⊢
  show mEv X (mCall mD X 12) 2 t_L_law (mDrop t_L_law 1059) [some (mr 8 26), some (mr 6 18), some (mr 7 20), some (mi (nI i))] [mi p.1] p.2 = _
  refine Eq.trans e_L_law_1059 ?_
  rw [rr_X6_instep_at 0]
  cases hq : P_X6_instep (p.2 7) with
  | none => rw [hq] at h; cases h
  | some q =>
    rw [hq] at h
    have h0 := Option.some.inj h
    have h1 := congrArg (fun z => z.1.1) h0
    have h2 := congrArg (fun z => z.1.2) h0
    have h3 := congrArg (fun z => z.2) h0
    dsimp only at h1 h2 h3
    subst h1
    subst h2
    subst h3
    show mEv X (mCall mD X 12) 2 t_L_law (mDrop t_L_law 1063) [some (mr 8 26), some (mr 6 18), some (mr 7 20), some (mi (nI i))] [mi q.1, mi p.1] (mU p.2 7 q.2) = _
    refine Eq.trans e_L_law_1063 ?_
    exact if_pos (hvw rfl)
noncomputable def lwR_30 (g : mG) (a : Nat → Int32) : Option ((Int32 × Int32) × mG) := mBo (α := Int32 × mC) none (P_X6_broken ((P_X5_broken g (a 1)).2 7) (a 1)) (fun q => some (((P_X5_broken g (a 1)).1, q.1), mU ((P_X5_broken g (a 1)).2) 7 q.2))
set_option maxRecDepth 100000 in
theorem lc_30 {g : mG} (hX : X.2 ≤ 3584) (hi : i + 7 ≤ X.2) {v w : Int32} {g2 : mG} (h : lwR_30 g (fun k => X.1 (i + k)) = some ((v, w), g2))  : mEv X (mCall mD X 12) 2 t_L_law (mDrop t_L_law 1068) [some (mr 8 26), some (mr 6 18), some (mr 7 20), some (mi (nI i))] [] g = mEv X (mCall mD X 12) 2 t_L_law (mDrop t_L_law 1180) [some (mr 8 26), some (mr 6 18), some (mr 7 20), some (mi (nI i))] [] g2 := by
  unfold lwR_30 at h
  (try dsimp only at h)
  refine Eq.trans e_L_law_1068 ?_
  rw [if_neg (lx hX hi (j := 1) (c := 1) (by decide) (by decide)), lv hX hi (j := 1) (c := 1) (by decide) (by decide)]
  refine Eq.trans e_L_law_1074 ?_
  rw [rr_X5_broken 3]
  generalize hp : P_X5_broken g (X.1 (i + 1)) = p at h ⊢
  show mEv X (mCall mD X 12) 2 t_L_law (mDrop t_L_law 1077) [some (mr 8 26), some (mr 6 18), some (mr 7 20), some (mi (nI i))] [mi p.1] p.2 = _
  refine Eq.trans e_L_law_1077 ?_
  rw [if_neg (lx hX hi (j := 1) (c := 1) (by decide) (by decide)), lv hX hi (j := 1) (c := 1) (by decide) (by decide)]
  refine Eq.trans e_L_law_1084 ?_
  rw [rr_X6_broken_at 0]
  cases hq : P_X6_broken (p.2 7) (X.1 (i + 1)) with
  | none => rw [hq] at h; cases h
  | some q =>
    rw [hq] at h
    have h0 := Option.some.inj h
    have h1 := congrArg (fun z => z.1.1) h0
    have h2 := congrArg (fun z => z.1.2) h0
    have h3 := congrArg (fun z => z.2) h0
    dsimp only at h1 h2 h3
    subst h1
    subst h2
    subst h3
    show mEv X (mCall mD X 12) 2 t_L_law (mDrop t_L_law 1087) [some (mr 8 26), some (mr 6 18), some (mr 7 20), some (mi (nI i))] [mi q.1] (mU p.2 7 q.2) = _
    refine Eq.trans e_L_law_1087 ?_
    rfl
noncomputable def lwR_31 (g : mG) (a : Nat → Int32) : Option ((Int32 × Int32) × mG) := mBo (α := Int32 × mC) none (P_X6_paper ((P_X5_paper g (a 1) (a 2)).2 7) (a 1) (a 2)) (fun q => some (((P_X5_paper g (a 1) (a 2)).1, q.1), mU ((P_X5_paper g (a 1) (a 2)).2) 7 q.2))
set_option maxRecDepth 100000 in
theorem lc_31 {g : mG} (hX : X.2 ≤ 3584) (hi : i + 7 ≤ X.2) {v w : Int32} {g2 : mG} (h : lwR_31 g (fun k => X.1 (i + k)) = some ((v, w), g2))  : mEv X (mCall mD X 12) 2 t_L_law (mDrop t_L_law 1091) [some (mr 8 26), some (mr 6 18), some (mr 7 20), some (mi (nI i))] [] g = mEv X (mCall mD X 12) 2 t_L_law (mDrop t_L_law 1180) [some (mr 8 26), some (mr 6 18), some (mr 7 20), some (mi (nI i))] [] g2 := by
  unfold lwR_31 at h
  (try dsimp only at h)
  refine Eq.trans e_L_law_1091 ?_
  rw [if_neg (lx hX hi (j := 1) (c := 1) (by decide) (by decide)), lv hX hi (j := 1) (c := 1) (by decide) (by decide)]
  refine Eq.trans e_L_law_1097 ?_
  rw [if_neg (lx hX hi (j := 2) (c := 2) (by decide) (by decide)), lv hX hi (j := 2) (c := 2) (by decide) (by decide)]
  refine Eq.trans e_L_law_1102 ?_
  rw [rr_X5_paper 3]
  generalize hp : P_X5_paper g (X.1 (i + 1)) (X.1 (i + 2)) = p at h ⊢
  show mEv X (mCall mD X 12) 2 t_L_law (mDrop t_L_law 1105) [some (mr 8 26), some (mr 6 18), some (mr 7 20), some (mi (nI i))] [mi p.1] p.2 = _
  refine Eq.trans e_L_law_1105 ?_
  rw [if_neg (lx hX hi (j := 1) (c := 1) (by decide) (by decide)), lv hX hi (j := 1) (c := 1) (by decide) (by decide)]
  refine Eq.trans e_L_law_1112 ?_
  rw [if_neg (lx hX hi (j := 2) (c := 2) (by decide) (by decide)), lv hX hi (j := 2) (c := 2) (by decide) (by decide)]
  refine Eq.trans e_L_law_1117 ?_
  rw [rr_X6_paper_at 0]
  cases hq : P_X6_paper (p.2 7) (X.1 (i + 1)) (X.1 (i + 2)) with
  | none => rw [hq] at h; cases h
  | some q =>
    rw [hq] at h
    have h0 := Option.some.inj h
    have h1 := congrArg (fun z => z.1.1) h0
    have h2 := congrArg (fun z => z.1.2) h0
    have h3 := congrArg (fun z => z.2) h0
    dsimp only at h1 h2 h3
    subst h1
    subst h2
    subst h3
    show mEv X (mCall mD X 12) 2 t_L_law (mDrop t_L_law 1120) [some (mr 8 26), some (mr 6 18), some (mr 7 20), some (mi (nI i))] [mi q.1] (mU p.2 7 q.2) = _
    refine Eq.trans e_L_law_1120 ?_
    rfl
noncomputable def lwR_32 (g : mG) (a : Nat → Int32) : Option ((Int32 × Int32) × mG) := mBo (α := Int32 × mC) none (P_X6_bestMax ((P_X5_bestMax g (a 1) (a 2)).2 7) (a 1) (a 2)) (fun q => some (((P_X5_bestMax g (a 1) (a 2)).1, q.1), mU ((P_X5_bestMax g (a 1) (a 2)).2) 7 q.2))
set_option maxRecDepth 100000 in
theorem lc_32 {g : mG} (hX : X.2 ≤ 3584) (hi : i + 7 ≤ X.2) {v w : Int32} {g2 : mG} (h : lwR_32 g (fun k => X.1 (i + k)) = some ((v, w), g2))  : mEv X (mCall mD X 12) 2 t_L_law (mDrop t_L_law 1124) [some (mr 8 26), some (mr 6 18), some (mr 7 20), some (mi (nI i))] [] g = mEv X (mCall mD X 12) 2 t_L_law (mDrop t_L_law 1180) [some (mr 8 26), some (mr 6 18), some (mr 7 20), some (mi (nI i))] [] g2 := by
  unfold lwR_32 at h
  (try dsimp only at h)
  refine Eq.trans e_L_law_1124 ?_
  rw [if_neg (lx hX hi (j := 1) (c := 1) (by decide) (by decide)), lv hX hi (j := 1) (c := 1) (by decide) (by decide)]
  refine Eq.trans e_L_law_1130 ?_
  rw [if_neg (lx hX hi (j := 2) (c := 2) (by decide) (by decide)), lv hX hi (j := 2) (c := 2) (by decide) (by decide)]
  refine Eq.trans e_L_law_1135 ?_
  rw [rr_X5_bestMax 3]
  generalize hp : P_X5_bestMax g (X.1 (i + 1)) (X.1 (i + 2)) = p at h ⊢
  show mEv X (mCall mD X 12) 2 t_L_law (mDrop t_L_law 1138) [some (mr 8 26), some (mr 6 18), some (mr 7 20), some (mi (nI i))] [mi p.1] p.2 = _
  refine Eq.trans e_L_law_1138 ?_
  rw [if_neg (lx hX hi (j := 1) (c := 1) (by decide) (by decide)), lv hX hi (j := 1) (c := 1) (by decide) (by decide)]
  refine Eq.trans e_L_law_1145 ?_
  rw [if_neg (lx hX hi (j := 2) (c := 2) (by decide) (by decide)), lv hX hi (j := 2) (c := 2) (by decide) (by decide)]
  refine Eq.trans e_L_law_1150 ?_
  rw [rr_X6_bestMax_at 0]
  cases hq : P_X6_bestMax (p.2 7) (X.1 (i + 1)) (X.1 (i + 2)) with
  | none => rw [hq] at h; cases h
  | some q =>
    rw [hq] at h
    have h0 := Option.some.inj h
    have h1 := congrArg (fun z => z.1.1) h0
    have h2 := congrArg (fun z => z.1.2) h0
    have h3 := congrArg (fun z => z.2) h0
    dsimp only at h1 h2 h3
    subst h1
    subst h2
    subst h3
    show mEv X (mCall mD X 12) 2 t_L_law (mDrop t_L_law 1153) [some (mr 8 26), some (mr 6 18), some (mr 7 20), some (mi (nI i))] [mi q.1] (mU p.2 7 q.2) = _
    refine Eq.trans e_L_law_1153 ?_
    rfl
noncomputable def lwR_33 (g : mG) (a : Nat → Int32) : Option ((Int32 × Int32) × mG) := mBo (α := Int32 × mC) none (P_X6_cheapest ((P_X5_cheapest g (a 1)).2 7) (a 1)) (fun q => some (((P_X5_cheapest g (a 1)).1, q.1), mU ((P_X5_cheapest g (a 1)).2) 7 q.2))
set_option maxRecDepth 100000 in
theorem lc_33 {g : mG} (hX : X.2 ≤ 3584) (hi : i + 7 ≤ X.2) {v w : Int32} {g2 : mG} (h : lwR_33 g (fun k => X.1 (i + k)) = some ((v, w), g2))  : mEv X (mCall mD X 12) 2 t_L_law (mDrop t_L_law 1157) [some (mr 8 26), some (mr 6 18), some (mr 7 20), some (mi (nI i))] [] g = mEv X (mCall mD X 12) 2 t_L_law (mDrop t_L_law 1180) [some (mr 8 26), some (mr 6 18), some (mr 7 20), some (mi (nI i))] [] g2 := by
  unfold lwR_33 at h
  (try dsimp only at h)
  refine Eq.trans e_L_law_1157 ?_
  rw [if_neg (lx hX hi (j := 1) (c := 1) (by decide) (by decide)), lv hX hi (j := 1) (c := 1) (by decide) (by decide)]
  refine Eq.trans e_L_law_1163 ?_
  rw [rr_X5_cheapest 3]
  generalize hp : P_X5_cheapest g (X.1 (i + 1)) = p at h ⊢
  show mEv X (mCall mD X 12) 2 t_L_law (mDrop t_L_law 1166) [some (mr 8 26), some (mr 6 18), some (mr 7 20), some (mi (nI i))] [mi p.1] p.2 = _
  refine Eq.trans e_L_law_1166 ?_
  rw [if_neg (lx hX hi (j := 1) (c := 1) (by decide) (by decide)), lv hX hi (j := 1) (c := 1) (by decide) (by decide)]
  refine Eq.trans e_L_law_1173 ?_
  rw [rr_X6_cheapest_at 0]
  cases hq : P_X6_cheapest (p.2 7) (X.1 (i + 1)) with
  | none => rw [hq] at h; cases h
  | some q =>
    rw [hq] at h
    have h0 := Option.some.inj h
    have h1 := congrArg (fun z => z.1.1) h0
    have h2 := congrArg (fun z => z.1.2) h0
    have h3 := congrArg (fun z => z.2) h0
    dsimp only at h1 h2 h3
    subst h1
    subst h2
    subst h3
    show mEv X (mCall mD X 12) 2 t_L_law (mDrop t_L_law 1176) [some (mr 8 26), some (mr 6 18), some (mr 7 20), some (mi (nI i))] [mi q.1] (mU p.2 7 q.2) = _
    refine Eq.trans e_L_law_1176 ?_
    rfl
noncomputable def lwS (x : Int32) (g : mG) (a : Nat → Int32) : Option ((Int32 × Int32) × mG) := if x = 0 then lwR_0 g a else (if x = 1 then lwR_1 g a else (if x = 2 then lwR_2 g a else (if x = 3 then lwR_3 g a else (if x = 4 then lwR_4 g a else (if x = 5 then lwR_5 g a else (if x = 6 then lwR_6 g a else (if x = 7 then lwR_7 g a else (if x = 8 then lwR_8 g a else (if x = 9 then lwR_9 g a else (if x = 10 then lwR_10 g a else (if x = 11 then lwR_11 g a else (if x = 12 then lwR_12 g a else (if x = 13 then lwR_13 g a else (if x = 14 then lwR_14 g a else (if x = 15 then lwR_15 g a else (if x = 16 then lwR_16 g a else (if x = 17 then lwR_17 g a else (if x = 18 then lwR_18 g a else (if x = 19 then lwR_19 g a else (if x = 20 then lwR_20 g a else (if x = 21 then lwR_21 g a else (if x = 22 then lwR_22 g a else (if x = 23 then lwR_23 g a else (if x = 24 then lwR_24 g a else (if x = 25 then lwR_25 g a else (if x = 26 then lwR_26 g a else (if x = 27 then lwR_27 g a else (if x = 28 then lwR_28 g a else (if x = 29 then lwR_29 g a else (if x = 30 then lwR_30 g a else (if x = 31 then lwR_31 g a else (if x = 32 then lwR_32 g a else (if x = 33 then lwR_33 g a else (some ((0, 0), g)))))))))))))))))))))))))))))))))))
def lwC : List Bool := [false, false, false, false, false, false, false, false, false, false, false, false, false, false, false, false, false, false, false, false, false, false, false, false, false, false, false, false, false, true, false, false, false, false]
set_option maxRecDepth 100000 in
set_option maxHeartbeats 4000000 in
theorem l_step {g : mG} (hX : X.2 ≤ 3584) (hi : i + 7 ≤ X.2) {v w : Int32} {g2 : mG} (h : lwS (X.1 i &&& 63) g (fun k => X.1 (i + k)) = some ((v, w), g2)) (hvw : ∀ k : Nat, X.1 i &&& 63 = nI k → lwC.getD k false = true → v = w) (hS : X.1 i &&& 63 = 25 → (P_X2_allSet (g 0)).toInt < 2147483647) : mEv X (mCall mD X 12) 2 t_L_law (mDrop t_L_law 27) [some (mr 8 26), some (mr 6 18), some (mr 7 20), some (mi (nI i))] [] g = mEv X (mCall mD X 12) 2 t_L_law (mDrop t_L_law 1180) [some (mr 8 26), some (mr 6 18), some (mr 7 20), some (mi (nI i))] [] g2 := by
  refine Eq.trans e_L_law_27 ?_
  rw [if_neg (lx0 hX hi), lv0 hX hi]
  refine Eq.trans e_L_law_30 ?_
  unfold lwS at h
  by_cases h0 : X.1 i &&& 63 = 0
  · rw [if_pos h0] at h ⊢
    exact lc_0 hX hi h
  rw [if_neg h0] at h ⊢
  by_cases h1 : X.1 i &&& 63 = 1
  · rw [if_pos h1] at h ⊢
    exact lc_1 hX hi h
  rw [if_neg h1] at h ⊢
  by_cases h2 : X.1 i &&& 63 = 2
  · rw [if_pos h2] at h ⊢
    exact lc_2 hX hi h
  rw [if_neg h2] at h ⊢
  by_cases h3 : X.1 i &&& 63 = 3
  · rw [if_pos h3] at h ⊢
    exact lc_3 hX hi h
  rw [if_neg h3] at h ⊢
  by_cases h4 : X.1 i &&& 63 = 4
  · rw [if_pos h4] at h ⊢
    exact lc_4 hX hi h
  rw [if_neg h4] at h ⊢
  by_cases h5 : X.1 i &&& 63 = 5
  · rw [if_pos h5] at h ⊢
    exact lc_5 hX hi h
  rw [if_neg h5] at h ⊢
  by_cases h6 : X.1 i &&& 63 = 6
  · rw [if_pos h6] at h ⊢
    exact lc_6 hX hi h
  rw [if_neg h6] at h ⊢
  by_cases h7 : X.1 i &&& 63 = 7
  · rw [if_pos h7] at h ⊢
    exact lc_7 hX hi h
  rw [if_neg h7] at h ⊢
  by_cases h8 : X.1 i &&& 63 = 8
  · rw [if_pos h8] at h ⊢
    exact lc_8 hX hi h
  rw [if_neg h8] at h ⊢
  by_cases h9 : X.1 i &&& 63 = 9
  · rw [if_pos h9] at h ⊢
    exact lc_9 hX hi h
  rw [if_neg h9] at h ⊢
  by_cases h10 : X.1 i &&& 63 = 10
  · rw [if_pos h10] at h ⊢
    exact lc_10 hX hi h
  rw [if_neg h10] at h ⊢
  by_cases h11 : X.1 i &&& 63 = 11
  · rw [if_pos h11] at h ⊢
    exact lc_11 hX hi h
  rw [if_neg h11] at h ⊢
  by_cases h12 : X.1 i &&& 63 = 12
  · rw [if_pos h12] at h ⊢
    exact lc_12 hX hi h
  rw [if_neg h12] at h ⊢
  by_cases h13 : X.1 i &&& 63 = 13
  · rw [if_pos h13] at h ⊢
    exact lc_13 hX hi h
  rw [if_neg h13] at h ⊢
  by_cases h14 : X.1 i &&& 63 = 14
  · rw [if_pos h14] at h ⊢
    exact lc_14 hX hi h
  rw [if_neg h14] at h ⊢
  by_cases h15 : X.1 i &&& 63 = 15
  · rw [if_pos h15] at h ⊢
    exact lc_15 hX hi h
  rw [if_neg h15] at h ⊢
  by_cases h16 : X.1 i &&& 63 = 16
  · rw [if_pos h16] at h ⊢
    exact lc_16 hX hi h
  rw [if_neg h16] at h ⊢
  by_cases h17 : X.1 i &&& 63 = 17
  · rw [if_pos h17] at h ⊢
    exact lc_17 hX hi h
  rw [if_neg h17] at h ⊢
  by_cases h18 : X.1 i &&& 63 = 18
  · rw [if_pos h18] at h ⊢
    exact lc_18 hX hi h
  rw [if_neg h18] at h ⊢
  by_cases h19 : X.1 i &&& 63 = 19
  · rw [if_pos h19] at h ⊢
    exact lc_19 hX hi h
  rw [if_neg h19] at h ⊢
  by_cases h20 : X.1 i &&& 63 = 20
  · rw [if_pos h20] at h ⊢
    exact lc_20 hX hi h
  rw [if_neg h20] at h ⊢
  by_cases h21 : X.1 i &&& 63 = 21
  · rw [if_pos h21] at h ⊢
    exact lc_21 hX hi h
  rw [if_neg h21] at h ⊢
  by_cases h22 : X.1 i &&& 63 = 22
  · rw [if_pos h22] at h ⊢
    exact lc_22 hX hi h
  rw [if_neg h22] at h ⊢
  by_cases h23 : X.1 i &&& 63 = 23
  · rw [if_pos h23] at h ⊢
    exact lc_23 hX hi h
  rw [if_neg h23] at h ⊢
  by_cases h24 : X.1 i &&& 63 = 24
  · rw [if_pos h24] at h ⊢
    exact lc_24 hX hi h
  rw [if_neg h24] at h ⊢
  by_cases h25 : X.1 i &&& 63 = 25
  · rw [if_pos h25] at h ⊢
    exact lc_25 hX hi (hS h25) h
  rw [if_neg h25] at h ⊢
  by_cases h26 : X.1 i &&& 63 = 26
  · rw [if_pos h26] at h ⊢
    exact lc_26 hX hi h
  rw [if_neg h26] at h ⊢
  by_cases h27 : X.1 i &&& 63 = 27
  · rw [if_pos h27] at h ⊢
    exact lc_27 hX hi h
  rw [if_neg h27] at h ⊢
  by_cases h28 : X.1 i &&& 63 = 28
  · rw [if_pos h28] at h ⊢
    exact lc_28 hX hi h
  rw [if_neg h28] at h ⊢
  by_cases h29 : X.1 i &&& 63 = 29
  · rw [if_pos h29] at h ⊢
    exact lc_29 hX hi h (fun _ => hvw 29 h29 rfl)
  rw [if_neg h29] at h ⊢
  by_cases h30 : X.1 i &&& 63 = 30
  · rw [if_pos h30] at h ⊢
    exact lc_30 hX hi h
  rw [if_neg h30] at h ⊢
  by_cases h31 : X.1 i &&& 63 = 31
  · rw [if_pos h31] at h ⊢
    exact lc_31 hX hi h
  rw [if_neg h31] at h ⊢
  by_cases h32 : X.1 i &&& 63 = 32
  · rw [if_pos h32] at h ⊢
    exact lc_32 hX hi h
  rw [if_neg h32] at h ⊢
  by_cases h33 : X.1 i &&& 63 = 33
  · rw [if_pos h33] at h ⊢
    exact lc_33 hX hi h
  rw [if_neg h33] at h ⊢
  cases h
  rfl
theorem l_le {n : Nat} (hX : X.2 ≤ 3584) (hn : n ≤ 3591) : (Int32.ofNat X.2 - 7 < nI n) ↔ X.2 < n + 7 := by
  rw [Int32.lt_iff_toInt_lt, Int32.toInt_sub]
  have e1 : (Int32.ofNat X.2).toInt = X.2 := Int32.toInt_ofNat_of_lt (by omega)
  have e2 : (nI n).toInt = n := Int32.toInt_ofNat_of_lt (by omega)
  have e3 : (7 : Int32).toInt = 7 := by decide
  rw [e1, e2, e3]
  simp only [Int.bmod]
  omega
set_option maxRecDepth 100000 in
theorem l_loop {Inv : Nat → mG → Prop} (hX : X.2 ≤ 3584) (hstep : ∀ i g, i + 7 ≤ X.2 → Inv i g → ∃ v w g2, lwS (X.1 i &&& 63) g (fun k => X.1 (i + k)) = some ((v, w), g2) ∧ (∀ k : Nat, X.1 i &&& 63 = nI k → lwC.getD k false = true → v = w) ∧ (X.1 i &&& 63 = 25 → (P_X2_allSet (g 0)).toInt < 2147483647) ∧ Inv (i + 7) g2) :
    ∀ (n i : Nat) (g : mG), X.2 ≤ i + n → i ≤ 3584 → Inv i g → ∃ g', mEv X (mCall mD X 12) 2 t_L_law (mDrop t_L_law 18) [some (mr 8 26), some (mr 6 18), some (mr 7 20), some (mi (nI i))] [] g = some (some (mi 1), g') := by
  intro n
  induction n with
  | zero =>
    intro i g hn hi _
    refine ⟨g, Eq.trans e_L_law_18 ?_⟩
    rw [if_pos ((l_le hX (by omega)).mpr (by omega))]
    exact Eq.trans e_L_law_1186 (if_pos (by decide))
  | succ n ih =>
    intro i g hn hi hI
    by_cases h7 : X.2 < i + 7
    · refine ⟨g, Eq.trans e_L_law_18 ?_⟩
      rw [if_pos ((l_le hX (by omega)).mpr h7)]
      exact Eq.trans e_L_law_1186 (if_pos (by decide))
    · obtain ⟨v, w, g2, h1, h2, h3, h4⟩ := hstep i g (by omega) hI
      obtain ⟨g', hg⟩ := ih (i + 7) g2 (by omega) (by omega) h4
      refine ⟨g', Eq.trans e_L_law_18 ?_⟩
      rw [if_neg (fun z => h7 ((l_le hX (by omega)).mp z))]
      refine Eq.trans (l_step hX (by omega) h1 h2 h3) (Eq.trans e_L_law_1180 ?_)
      rw [show nI i + 7 = nI (i + 7) from (Int32.ofNat_add i 7).symm]
      exact hg
theorem l_ev {Inv : Nat → mG → Prop} {g : mG} (hX : X.2 ≤ 3584) (hstep : ∀ i g, i + 7 ≤ X.2 → Inv i g → ∃ v w g2, lwS (X.1 i &&& 63) g (fun k => X.1 (i + k)) = some ((v, w), g2) ∧ (∀ k : Nat, X.1 i &&& 63 = nI k → lwC.getD k false = true → v = w) ∧ (X.1 i &&& 63 = 25 → (P_X2_allSet (g 0)).toInt < 2147483647) ∧ Inv (i + 7) g2) (h0 : Inv 0 g) : ∃ g', mEv X (mCall mD X 12) 2 t_L_law (mDrop t_L_law 16) [some (mr 8 26), some (mr 6 18), some (mr 7 20), none] [] g = some (some (mi 1), g') := by
  obtain ⟨g', h⟩ := l_loop hX hstep X.2 0 g (by omega) (by omega) h0
  exact ⟨g', Eq.trans e_L_law_16 h⟩
end LAW
