/-! Functions side by side: numbers, bits, first of a set, the reference's cells. (bt, b_ext .. b_sshr begin as rows of kit/laws/BITS.) -/
def bt (x : Int32) (i : Nat) : Bool := x.toBitVec.getLsbD i
theorem b_ext {x y : Int32} (h : ∀ i, i < 32 → bt x i = bt y i) : x = y := Int32.toBitVec_inj.mp (BitVec.eq_of_getLsbD_eq (fun i hi => h i hi))
theorem b_or (x y : Int32) (i : Nat) : bt (x ||| y) i = (bt x i || bt y i) := by unfold bt; rw [Int32.toBitVec_or, BitVec.getLsbD_or]
theorem b_and (x y : Int32) (i : Nat) : bt (x &&& y) i = (bt x i && bt y i) := by unfold bt; rw [Int32.toBitVec_and, BitVec.getLsbD_and]
theorem b_xor (x y : Int32) (i : Nat) : bt (x ^^^ y) i = (bt x i ^^ bt y i) := by unfold bt; rw [Int32.toBitVec_xor, BitVec.getLsbD_xor]
theorem b_m1 : ∀ i, i < 32 → bt (-1) i = true := by decide +kernel
theorem b_0 (i : Nat) : bt 0 i = false := BitVec.getLsbD_zero
theorem b_big {x : Int32} {i : Nat} (h : 32 ≤ i) : bt x i = false := BitVec.getLsbD_of_ge _ _ h
theorem s_l : ∀ n, n < 32 → ((nI n &&& 31).toBitVec.smod 32).toNat = n := by decide +kernel
theorem b_sshr (n : Nat) (hn : n < 32) (x : Int32) {i : Nat} (hi : i < 32) : bt (x >>> (nI n &&& 31)) i = if n + i < 32 then bt x (n + i) else bt x 31 := by
  unfold bt
  rw [Int32.toBitVec_shiftRight]
  show (x.toBitVec.sshiftRight ((nI n &&& 31).toBitVec.smod 32).toNat).getLsbD i = _
  rw [s_l n hn, BitVec.getLsbD_sshiftRight, BitVec.msb_eq_getLsbD_last]
  simp [hi]
theorem b_one : ∀ i, i < 32 → bt 1 i = decide (i = 0) := by decide +kernel
theorem b_not (x : Int32) {i : Nat} (hi : i < 32) : bt (x ^^^ (-1)) i = !bt x i := by rw [b_xor, b_m1 i hi, Bool.xor_true]
def bI (b : Bool) : Int32 := if b then 1 else 0
theorem bI_0 {b : Bool} : bI b = 0 ↔ b = false := by cases b <;> decide
theorem bI_1 {b : Bool} : bI b = 1 ↔ b = true := by cases b <;> decide
theorem bI_eq {a b : Bool} : bI a = bI b ↔ a = b := by cases a <;> cases b <;> decide
theorem bI_a (b : Bool) : bI b &&& 1 = bI b := by cases b <;> decide
theorem bI_if (p : Prop) [Decidable p] : (if p then (1 : Int32) else 0) = bI (decide p) := by
  by_cases h : p <;> simp [h, bI]
theorem bI_if2 (p : Prop) [Decidable p] : (if p then (0 : Int32) else 1) = bI (!decide p) := by
  by_cases h : p <;> simp [h, bI]
theorem b_bI (b : Bool) {i : Nat} (hi : i < 32) : bt (bI b) i = (b && decide (i = 0)) := by
  cases b
  · exact b_0 i
  · show bt 1 i = _
    rw [b_one i hi, Bool.true_and]
theorem shr1 {s : Int32} {q : Nat} (hq : q < 32) : (s >>> (nI q &&& 31)) &&& 1 = bI (bt s q) := by
  apply b_ext
  intro i hi
  rw [b_and, b_sshr q hq s hi, b_one i hi, b_bI _ hi]
  by_cases h : i = 0
  · subst h
    simp [hq]
  · simp [h]
theorem b_shl1 : ∀ q, q < 32 → ∀ i, i < 32 → bt ((1 : Int32) <<< (nI q &&& 31)) i = decide (i = q) := by decide +kernel
theorem bit_shl : ∀ q, q < 8 → P_X5_bit (nI q) = (1 : Int32) <<< (nI q &&& 31) := by decide +kernel
theorem b_bit {q : Nat} (hq : q < 8) {i : Nat} (hi : i < 32) : bt (P_X5_bit (nI q)) i = decide (i = q) := by
  rw [bit_shl q hq]
  exact b_shl1 q (by omega) i hi
theorem bit_m1 : P_X5_bit (-1) = 0 := by decide +kernel
theorem b_upTo : ∀ q, q < 8 → ∀ i, i < 32 → bt ((P_X5_bit (nI q) * 2) - 1) i = decide (i ≤ q) := by decide +kernel
theorem nI_8 : ∀ q, q < 8 → ¬ nI q < 0 ∧ ¬ 8 ≤ nI q ∧ nI q < 8 := by decide +kernel
theorem inSet_eq {s : Int32} {q : Nat} (hq : q < 8) : P_X5_inSet s (nI q) = bI (bt s q) := by
  have h := nI_8 q hq
  unfold P_X5_inSet J_X5_inSet_22
  rw [if_neg h.1, if_neg h.2.1, shr1 (by omega)]
  cases bt s q <;> rfl
theorem inSet_m1 {s : Int32} : P_X5_inSet s (-1) = 0 := rfl
theorem has_eq {s : Int32} {q : Nat} (hq : q < 32) : P_X6_has s (nI q) = bI (bt s q) := by
  unfold P_X6_has
  rw [shr1 hq]
  cases bt s q <;> rfl
theorem withBit_eq {s : Int32} {q : Nat} (hq : q < 8) (v : Bool) {i : Nat} (hi : i < 32) : bt (P_X5_withBit s (nI q) (bI v)) i = if i = q then v else bt s i := by
  unfold P_X5_withBit mBd
  cases v
  · rw [if_pos (by rfl), b_and, b_not _ hi, b_bit hq hi]
    by_cases h : i = q <;> simp [h]
  · rw [if_neg (by decide), b_or, b_bit hq hi]
    by_cases h : i = q <;> simp [h]
theorem b_ne0 {x : Int32} : x ≠ 0 ↔ ∃ i, i < 32 ∧ bt x i = true := by
  constructor
  · intro h
    by_cases hx : ∃ i, i < 32 ∧ bt x i = true
    · exact hx
    · exfalso
      apply h
      apply b_ext
      intro i hi
      rw [b_0]
      cases hb : bt x i
      · rfl
      · exact absurd ⟨i, hi, hb⟩ hx
  · rintro ⟨i, hi, hb⟩ rfl
    rw [b_0] at hb
    cases hb
theorem b_eq0 {x : Int32} : x = 0 ↔ ∀ i, i < 32 → bt x i = false := by
  constructor
  · rintro rfl i _
    exact b_0 i
  · intro h
    apply b_ext
    intro i hi
    rw [b_0, h i hi]
/-- the first from a on, of k, that P holds of -/
def fsG (P : Nat → Bool) : Nat → Nat → Int32
  | 0, _ => -1
  | k + 1, a => if P a then nI a else fsG P k (a + 1)
theorem fsG_cong {P Q : Nat → Bool} : ∀ (k a : Nat), (∀ i, a ≤ i → i < a + k → P i = Q i) → fsG P k a = fsG Q k a
  | 0, _, _ => rfl
  | k + 1, a, h => by
    unfold fsG
    rw [h a (Nat.le_refl a) (by omega), fsG_cong k (a + 1) (fun i h1 h2 => h i (by omega) (by omega))]
theorem fsG_none {P : Nat → Bool} : ∀ (k a : Nat), (∀ i, a ≤ i → i < a + k → P i = false) → fsG P k a = -1
  | 0, _, _ => rfl
  | k + 1, a, h => by
    unfold fsG
    rw [h a (Nat.le_refl a) (by omega), fsG_none k (a + 1) (fun i h1 h2 => h i (by omega) (by omega))]
    rfl
theorem fsG_add {P : Nat → Bool} : ∀ (k l a : Nat), (∀ i, a ≤ i → i < a + k → P i = false) → fsG P (k + l) a = fsG P l (a + k)
  | 0, l, a, _ => by rw [Nat.zero_add, Nat.add_zero]
  | k + 1, l, a, h => by
    have e : k + 1 + l = (k + l) + 1 := by omega
    rw [e]
    show (if P a then nI a else fsG P (k + l) (a + 1)) = _
    rw [h a (Nat.le_refl a) (by omega), fsG_add k l (a + 1) (fun i h1 h2 => h i (by omega) (by omega))]
    have e2 : a + 1 + k = a + (k + 1) := by omega
    rw [e2]; rfl
theorem fsG_cut {P : Nat → Bool} : ∀ (k l a : Nat), (∀ i, a + k ≤ i → i < a + k + l → P i = false) → fsG P (k + l) a = fsG P k a
  | 0, l, a, h => by
    rw [Nat.zero_add]
    exact fsG_none l a (fun i h1 h2 => h i (by omega) (by omega))
  | k + 1, l, a, h => by
    have e : k + 1 + l = (k + l) + 1 := by omega
    rw [e]
    show (if P a then nI a else fsG P (k + l) (a + 1)) = (if P a then nI a else fsG P k (a + 1))
    rw [fsG_cut k l (a + 1) (fun i h1 h2 => h i (by omega) (by omega))]
theorem fsG_cases {P : Nat → Bool} : ∀ (k a : Nat), (fsG P k a = -1 ∧ ∀ i, a ≤ i → i < a + k → P i = false) ∨ ∃ i, a ≤ i ∧ i < a + k ∧ P i = true ∧ fsG P k a = nI i ∧ ∀ j, a ≤ j → j < i → P j = false
  | 0, a => Or.inl ⟨rfl, fun i h1 h2 => by omega⟩
  | k + 1, a => by
    by_cases h : P a = true
    · right
      refine ⟨a, Nat.le_refl a, by omega, h, ?_, fun j h1 h2 => by omega⟩
      unfold fsG
      rw [if_pos h]
    · have e : fsG P (k + 1) a = fsG P k (a + 1) := by
        show (if P a then nI a else fsG P k (a + 1)) = _
        rw [if_neg h]
      have hf : P a = false := by cases hp : P a <;> simp_all
      rcases fsG_cases (P := P) k (a + 1) with ⟨h1, h2⟩ | ⟨i, h1, h2, h3, h4, h5⟩
      · left
        refine ⟨by rw [e, h1], fun i h3 h4 => ?_⟩
        rcases Nat.eq_or_lt_of_le h3 with rfl | h6
        · exact hf
        · exact h2 i (by omega) (by omega)
      · right
        refine ⟨i, by omega, by omega, h3, by rw [e, h4], fun j h6 h7 => ?_⟩
        rcases Nat.eq_or_lt_of_le h6 with rfl | h8
        · exact hf
        · exact h5 j (by omega) h7
theorem nI_m1 {i : Nat} (h : i < 2 ^ 31) : nI i ≠ -1 := by
  intro e
  have := nI_pos h
  rw [e] at this
  exact this (by decide)
theorem fsG_m1 {P : Nat → Bool} {k a : Nat} (hk : a + k < 2 ^ 31) : fsG P k a = -1 ↔ ∀ i, a ≤ i → i < a + k → P i = false := by
  constructor
  · intro h
    rcases fsG_cases (P := P) k a with ⟨_, h2⟩ | ⟨i, h1, h2, h3, h4, _⟩
    · exact h2
    · rw [h] at h4
      exact absurd h4.symm (nI_m1 (by omega))
  · exact fsG_none k a
theorem firstIn_go {s : Int32} : ∀ (k a : Nat), a + k = 8 → mWh 0 (B_X5_firstIn_2 s) (nI a) = fsG (bt s) k a
  | 0, a, h => by
    rw [mWh_eq tm_X5_firstIn_2]
    have : a = 8 := by omega
    subst this
    rfl
  | k + 1, a, h => by
    rw [mWh_eq tm_X5_firstIn_2]
    have ha := nI_8 a (by omega)
    have e : B_X5_firstIn_2 s (nI a) = if bt s a then .inr (nI a) else .inl (nI (a + 1)) := by
      unfold B_X5_firstIn_2
      rw [if_neg ha.2.1, shr1 (by omega)]
      cases bt s a
      · show (if (0 : Int32) = 0 then _ else _) = _
        rw [if_pos rfl]
        show (Sum.inl (nI a + 1) : Int32 ⊕ Int32) = _
        rw [nI_1]; rfl
      · rfl
    rw [e]
    unfold fsG
    cases bt s a
    · exact firstIn_go k (a + 1) (by omega)
    · rfl
theorem firstIn_eq {s : Int32} : P_X5_firstIn s = fsG (bt s) 8 0 := firstIn_go 8 0 rfl
/-! the reference's cells -/
def uP (f : Nat → Int32) (k : Nat) (v : Int32) : Nat → Int32 := fun i => if i = k then v else f i
def uQ (f : Nat → Nat → Int32) (p w : Nat) (v : Int32) : Nat → Nat → Int32 := fun i j => if i = p ∧ j = w then v else f i j
def sA (m : mC) (k : Nat) : Int32 := if k < 16 then m 21 k else 0
def rA (m : mC) (r w : Nat) : Int32 := if r < 2 ∧ w < 8 then m 21 (16 + 8 * r + w) else 0
def pA (m : mC) (p w : Nat) : Int32 := if p < 8 ∧ w < 18 then m 21 (32 + 18 * p + w) else 0
def bA (m : mC) (k : Nat) : Int32 := if k < 10 then m 21 (176 + k) else 0
def eA (m : mC) (i w : Nat) : Int32 := if i < 32 ∧ w < 3 then m 21 (192 + 3 * i + w) else 0
def sW (m : mC) (k : Nat) (v : Int32) : mC := mP m 21 k v
def rW (m : mC) (r w : Nat) (v : Int32) : mC := mP m 21 (16 + 8 * r + w) v
def pW (m : mC) (p w : Nat) (v : Int32) : mC := mP m 21 (32 + 18 * p + w) v
def bW (m : mC) (k : Nat) (v : Int32) : mC := mP m 21 (176 + k) v
def eW (m : mC) (i w : Nat) (v : Int32) : mC := mP m 21 (192 + 3 * i + w) v
theorem w_ne {m : mC} {k k' : Nat} {v : Int32} (h : k' ≠ k) : mP m 21 k v 21 k' = m 21 k' := by
  unfold mP
  rw [if_neg (fun e => h e.2)]
theorem w_eq {m : mC} {k k' : Nat} {v : Int32} (h : k' = k) : mP m 21 k v 21 k' = v := by
  unfold mP
  rw [if_pos ⟨rfl, h⟩]
theorem sA_of {m m' : mC} (h : ∀ k, k < 16 → m' 21 k = m 21 k) : sA m' = sA m := by
  funext k
  unfold sA
  by_cases hk : k < 16
  · rw [if_pos hk, if_pos hk, h k hk]
  · rw [if_neg hk, if_neg hk]
theorem rA_of {m m' : mC} (h : ∀ k, 16 ≤ k → k < 32 → m' 21 k = m 21 k) : rA m' = rA m := by
  funext r w
  unfold rA
  by_cases hk : r < 2 ∧ w < 8
  · rw [if_pos hk, if_pos hk, h _ (by omega) (by omega)]
  · rw [if_neg hk, if_neg hk]
theorem pA_of {m m' : mC} (h : ∀ k, 32 ≤ k → k < 176 → m' 21 k = m 21 k) : pA m' = pA m := by
  funext p w
  unfold pA
  by_cases hk : p < 8 ∧ w < 18
  · rw [if_pos hk, if_pos hk, h _ (by omega) (by omega)]
  · rw [if_neg hk, if_neg hk]
theorem bA_of {m m' : mC} (h : ∀ k, 176 ≤ k → k < 186 → m' 21 k = m 21 k) : bA m' = bA m := by
  funext k
  unfold bA
  by_cases hk : k < 10
  · rw [if_pos hk, if_pos hk, h _ (by omega) (by omega)]
  · rw [if_neg hk, if_neg hk]
theorem eA_of {m m' : mC} (h : ∀ k, 192 ≤ k → k < 288 → m' 21 k = m 21 k) : eA m' = eA m := by
  funext i w
  unfold eA
  by_cases hk : i < 32 ∧ w < 3
  · rw [if_pos hk, if_pos hk, h _ (by omega) (by omega)]
  · rw [if_neg hk, if_neg hk]
theorem sA_sW {m : mC} {k : Nat} {v : Int32} (h : k < 16) : sA (sW m k v) = uP (sA m) k v := by
  funext i
  unfold sA sW uP
  by_cases hi : i = k
  · rw [if_pos hi, if_pos (by omega), w_eq hi]
  · rw [if_neg hi, w_ne hi]
theorem rA_rW {m : mC} {r w : Nat} {v : Int32} (hr : r < 2) (hw : w < 8) : rA (rW m r w v) = uQ (rA m) r w v := by
  funext i j
  unfold rA rW uQ
  dsimp only
  by_cases hi : i = r ∧ j = w
  · rw [if_pos hi, if_pos (by omega), w_eq (by omega)]
  · rw [if_neg hi]
    by_cases hk : i < 2 ∧ j < 8
    · rw [if_pos hk, if_pos hk, w_ne (by omega)]
    · rw [if_neg hk, if_neg hk]
theorem pA_pW {m : mC} {p w : Nat} {v : Int32} (hp : p < 8) (hw : w < 18) : pA (pW m p w v) = uQ (pA m) p w v := by
  funext i j
  unfold pA pW uQ
  dsimp only
  by_cases hi : i = p ∧ j = w
  · rw [if_pos hi, if_pos (by omega), w_eq (by omega)]
  · rw [if_neg hi]
    by_cases hk : i < 8 ∧ j < 18
    · rw [if_pos hk, if_pos hk, w_ne (by omega)]
    · rw [if_neg hk, if_neg hk]
theorem bA_bW {m : mC} {k : Nat} {v : Int32} (h : k < 10) : bA (bW m k v) = uP (bA m) k v := by
  funext i
  unfold bA bW uP
  by_cases hi : i = k
  · rw [if_pos hi, if_pos (by omega), w_eq (by omega)]
  · rw [if_neg hi, w_ne (by omega)]
theorem eA_eW {m : mC} {i w : Nat} {v : Int32} (hi : i < 32) (hw : w < 3) : eA (eW m i w v) = uQ (eA m) i w v := by
  funext a j
  unfold eA eW uQ
  dsimp only
  by_cases h : a = i ∧ j = w
  · rw [if_pos h, if_pos (by omega), w_eq (by omega)]
  · rw [if_neg h]
    by_cases hk : a < 32 ∧ j < 3
    · rw [if_pos hk, if_pos hk, w_ne (by omega)]
    · rw [if_neg hk, if_neg hk]
theorem rA_sW {m : mC} {k : Nat} {v : Int32} (h : k < 16) : rA (sW m k v) = rA m := rA_of (fun i h1 h2 => w_ne (by omega))
theorem pA_sW {m : mC} {k : Nat} {v : Int32} (h : k < 16) : pA (sW m k v) = pA m := pA_of (fun i h1 h2 => w_ne (by omega))
theorem bA_sW {m : mC} {k : Nat} {v : Int32} (h : k < 16) : bA (sW m k v) = bA m := bA_of (fun i h1 h2 => w_ne (by omega))
theorem eA_sW {m : mC} {k : Nat} {v : Int32} (h : k < 16) : eA (sW m k v) = eA m := eA_of (fun i h1 h2 => w_ne (by omega))
theorem sA_rW {m : mC} {r w : Nat} {v : Int32} : sA (rW m r w v) = sA m := sA_of (fun i h1 => w_ne (by omega))
theorem pA_rW {m : mC} {r w : Nat} {v : Int32} (hr : r < 2) (hw : w < 8) : pA (rW m r w v) = pA m := pA_of (fun i h1 h2 => w_ne (by omega))
theorem bA_rW {m : mC} {r w : Nat} {v : Int32} (hr : r < 2) (hw : w < 8) : bA (rW m r w v) = bA m := bA_of (fun i h1 h2 => w_ne (by omega))
theorem eA_rW {m : mC} {r w : Nat} {v : Int32} (hr : r < 2) (hw : w < 8) : eA (rW m r w v) = eA m := eA_of (fun i h1 h2 => w_ne (by omega))
theorem sA_pW {m : mC} {p w : Nat} {v : Int32} : sA (pW m p w v) = sA m := sA_of (fun i h1 => w_ne (by omega))
theorem rA_pW {m : mC} {p w : Nat} {v : Int32} : rA (pW m p w v) = rA m := rA_of (fun i h1 h2 => w_ne (by omega))
theorem bA_pW {m : mC} {p w : Nat} {v : Int32} (hp : p < 8) (hw : w < 18) : bA (pW m p w v) = bA m := bA_of (fun i h1 h2 => w_ne (by omega))
theorem eA_pW {m : mC} {p w : Nat} {v : Int32} (hp : p < 8) (hw : w < 18) : eA (pW m p w v) = eA m := eA_of (fun i h1 h2 => w_ne (by omega))
theorem sA_bW {m : mC} {k : Nat} {v : Int32} : sA (bW m k v) = sA m := sA_of (fun i h1 => w_ne (by omega))
theorem rA_bW {m : mC} {k : Nat} {v : Int32} : rA (bW m k v) = rA m := rA_of (fun i h1 h2 => w_ne (by omega))
theorem pA_bW {m : mC} {k : Nat} {v : Int32} : pA (bW m k v) = pA m := pA_of (fun i h1 h2 => w_ne (by omega))
theorem eA_bW {m : mC} {k : Nat} {v : Int32} (h : k < 10) : eA (bW m k v) = eA m := eA_of (fun i h1 h2 => w_ne (by omega))
theorem sA_eW {m : mC} {i w : Nat} {v : Int32} : sA (eW m i w v) = sA m := sA_of (fun i h1 => w_ne (by omega))
theorem rA_eW {m : mC} {i w : Nat} {v : Int32} : rA (eW m i w v) = rA m := rA_of (fun i h1 h2 => w_ne (by omega))
theorem pA_eW {m : mC} {i w : Nat} {v : Int32} : pA (eW m i w v) = pA m := pA_of (fun i h1 h2 => w_ne (by omega))
theorem bA_eW {m : mC} {i w : Nat} {v : Int32} : bA (eW m i w v) = bA m := bA_of (fun i h1 h2 => w_ne (by omega))
theorem sA_20 {m : mC} {k : Nat} {v : Int32} : sA (mP m 20 k v) = sA m := rfl
theorem rA_20 {m : mC} {k : Nat} {v : Int32} : rA (mP m 20 k v) = rA m := rfl
theorem pA_20 {m : mC} {k : Nat} {v : Int32} : pA (mP m 20 k v) = pA m := rfl
theorem bA_20 {m : mC} {k : Nat} {v : Int32} : bA (mP m 20 k v) = bA m := rfl
theorem eA_20 {m : mC} {k : Nat} {v : Int32} : eA (mP m 20 k v) = eA m := rfl
/-- all else stays: the tape, the text, what was put aside -/
def Fr (m m' : mC) : Prop := (∀ j, j ≠ 21 → j ≠ 20 → m' j = m j) ∧ (∀ k, 288 ≤ k → m' 21 k = m 21 k) ∧ (∀ k, k ≠ 3 → k ≠ 4 → k ≠ 5 → m' 20 k = m 20 k)
theorem Fr.rf {m : mC} : Fr m m := ⟨fun _ _ _ => rfl, fun _ _ => rfl, fun _ _ _ _ => rfl⟩
theorem Fr.tr {a b c : mC} (h1 : Fr a b) (h2 : Fr b c) : Fr a c := ⟨fun j x y => (h2.1 j x y).trans (h1.1 j x y), fun k x => (h2.2.1 k x).trans (h1.2.1 k x), fun k x y z => (h2.2.2 k x y z).trans (h1.2.2 k x y z)⟩
theorem Fr.w {m m' : mC} {k : Nat} {v : Int32} (h : Fr m m') (hk : k < 288) : Fr m (mP m' 21 k v) := Fr.tr h ⟨fun j x _ => mP_o x, fun i x => w_ne (by omega), fun i _ _ _ => rfl⟩
theorem Fr.s {m m' : mC} {k : Nat} {v : Int32} (h : Fr m m') (hk : k < 16) : Fr m (sW m' k v) := h.w (by omega)
theorem Fr.r {m m' : mC} {r w : Nat} {v : Int32} (h : Fr m m') (hr : r < 2) (hw : w < 8) : Fr m (rW m' r w v) := h.w (by omega)
theorem Fr.p {m m' : mC} {p w : Nat} {v : Int32} (h : Fr m m') (hp : p < 8) (hw : w < 18) : Fr m (pW m' p w v) := h.w (by omega)
theorem Fr.b {m m' : mC} {k : Nat} {v : Int32} (h : Fr m m') (hk : k < 10) : Fr m (bW m' k v) := h.w (by omega)
theorem Fr.e {m m' : mC} {i w : Nat} {v : Int32} (h : Fr m m') (hi : i < 32) (hw : w < 3) : Fr m (eW m' i w v) := h.w (by omega)
theorem Fr.m {m m' : mC} {k : Nat} {v : Int32} (h : Fr m m') (hk : k = 3 ∨ k = 4 ∨ k = 5) : Fr m (mP m' 20 k v) := Fr.tr h ⟨fun j _ x => mP_o x, fun i x => rfl, fun i a b c => by
  unfold mP
  rw [if_neg (by omega)]⟩
theorem nI_mul (a b : Nat) : nI a * nI b = nI (a * b) := (Int32.ofNat_mul a b).symm
theorem of_l {m : mC} {k : Nat} (h : k < 1440) : P_X6_of m (nI k) = some (m 21 k) := by
  unfold P_X6_of
  rw [if_neg (nI_in h (by decide)), nI_clamp (by omega)]
theorem puts_l {m : mC} {k : Nat} {v : Int32} (h : k < 1440) : P_X6_puts m (nI k) v = some (mP m 21 k v) := by
  unfold P_X6_puts
  rw [if_neg (nI_in h (by decide)), nI_clamp (by omega)]
theorem adds_l {m : mC} {k : Nat} {v : Int32} (h : k < 1440) : P_X6_adds m (nI k) v = some (mP m 21 k (m 21 k + v)) := by
  unfold P_X6_adds
  rw [if_neg (nI_in h (by decide)), if_neg (nI_in h (by decide)), nI_clamp (by omega)]
theorem os_l {m : mC} {k : Nat} (h : k < 16) : P_X6_of m (nI k) = some (sA m k) := by
  rw [of_l (by omega)]
  unfold sA
  rw [if_pos h]
theorem ps_l {m : mC} {k : Nat} {v : Int32} (h : k < 16) : P_X6_puts m (nI k) v = some (sW m k v) := puts_l (by omega)
theorem ads_l {m : mC} {k : Nat} {v : Int32} (h : k < 16) : P_X6_adds m (nI k) v = some (sW m k (sA m k + v)) := by
  rw [adds_l (by omega)]
  unfold sW sA
  rw [if_pos h]
theorem ring_l (r w : Nat) : P_X6_ring (nI r) + nI w = nI (16 + 8 * r + w) := by
  show (nI 16 + nI 8 * nI r) + nI w = _
  rw [nI_mul, nI_add, nI_add]
theorem phase_l (p w : Nat) : ((32 : Int32) + ((18 : Int32) * nI p)) + nI w = nI (32 + 18 * p + w) := by
  show (nI 32 + nI 18 * nI p) + nI w = _
  rw [nI_mul, nI_add, nI_add]
theorem or_l {m : mC} {r w : Nat} (hr : r < 2) (hw : w < 8) : P_X6_ofRing m (nI r) (nI w) = some (rA m r w) := by
  unfold P_X6_ofRing mBd
  dsimp only
  rw [ring_l, of_l (by omega)]
  unfold rA
  rw [if_pos ⟨hr, hw⟩]
  rfl
theorem pr_l {m : mC} {r w : Nat} {v : Int32} (hr : r < 2) (hw : w < 8) : P_X6_putsRing m (nI r) (nI w) v = some (rW m r w v) := by
  unfold P_X6_putsRing mBd
  dsimp only
  rw [ring_l, puts_l (by omega)]
  rfl
theorem op_l {m : mC} {p w : Nat} (hp : p < 8) (hw : w < 18) : P_X6_ofPhase m (nI p) (nI w) = some (pA m p w) := by
  unfold P_X6_ofPhase
  rw [phase_l, of_l (by omega)]
  unfold pA
  rw [if_pos ⟨hp, hw⟩]
  rfl
theorem pp_l {m : mC} {p w : Nat} {v : Int32} (hp : p < 8) (hw : w < 18) : P_X6_putsPhase m (nI p) (nI w) v = some (pW m p w v) := by
  unfold P_X6_putsPhase
  rw [phase_l, puts_l (by omega)]
  rfl
theorem mk_l {m : mC} {p k : Nat} (hp : p < 8) (hk : k < 10) : P_X6_mark m (nI p) (nI k) = some (pA m p (2 + k)) := by
  unfold P_X6_mark
  have e : (2 : Int32) + nI k = nI (2 + k) := nI_add 2 k
  rw [e, op_l hp (by omega)]
  rfl
theorem ob_l {m : mC} {b k : Nat} (hb : b < 2) (hk : k < 5) : P_X6_ofBreak m (nI b) (nI k) = some (bA m (5 * b + k)) := by
  unfold P_X6_ofBreak
  have e : ((176 : Int32) + ((5 : Int32) * nI b)) + nI k = nI (176 + 5 * b + k) := by
    show (nI 176 + nI 5 * nI b) + nI k = _
    rw [nI_mul, nI_add, nI_add]
  rw [e, of_l (by omega)]
  unfold bA
  rw [if_pos (by omega)]
  have e2 : 176 + 5 * b + k = 176 + (5 * b + k) := by omega
  rw [e2]
  rfl
theorem of_0 {m : mC} : P_X6_of m 0 = some (sA m 0) := os_l (k := 0) (by decide)
theorem pu_0 {m : mC} {v : Int32} : P_X6_puts m 0 v = some (sW m 0 v) := ps_l (k := 0) (by decide)
theorem ad_0 {m : mC} {v : Int32} : P_X6_adds m 0 v = some (sW m 0 (sA m 0 + v)) := ads_l (k := 0) (by decide)
theorem of_1 {m : mC} : P_X6_of m 1 = some (sA m 1) := os_l (k := 1) (by decide)
theorem pu_1 {m : mC} {v : Int32} : P_X6_puts m 1 v = some (sW m 1 v) := ps_l (k := 1) (by decide)
theorem ad_1 {m : mC} {v : Int32} : P_X6_adds m 1 v = some (sW m 1 (sA m 1 + v)) := ads_l (k := 1) (by decide)
theorem of_2 {m : mC} : P_X6_of m 2 = some (sA m 2) := os_l (k := 2) (by decide)
theorem pu_2 {m : mC} {v : Int32} : P_X6_puts m 2 v = some (sW m 2 v) := ps_l (k := 2) (by decide)
theorem ad_2 {m : mC} {v : Int32} : P_X6_adds m 2 v = some (sW m 2 (sA m 2 + v)) := ads_l (k := 2) (by decide)
theorem of_3 {m : mC} : P_X6_of m 3 = some (sA m 3) := os_l (k := 3) (by decide)
theorem pu_3 {m : mC} {v : Int32} : P_X6_puts m 3 v = some (sW m 3 v) := ps_l (k := 3) (by decide)
theorem ad_3 {m : mC} {v : Int32} : P_X6_adds m 3 v = some (sW m 3 (sA m 3 + v)) := ads_l (k := 3) (by decide)
theorem of_4 {m : mC} : P_X6_of m 4 = some (sA m 4) := os_l (k := 4) (by decide)
theorem pu_4 {m : mC} {v : Int32} : P_X6_puts m 4 v = some (sW m 4 v) := ps_l (k := 4) (by decide)
theorem ad_4 {m : mC} {v : Int32} : P_X6_adds m 4 v = some (sW m 4 (sA m 4 + v)) := ads_l (k := 4) (by decide)
theorem of_5 {m : mC} : P_X6_of m 5 = some (sA m 5) := os_l (k := 5) (by decide)
theorem pu_5 {m : mC} {v : Int32} : P_X6_puts m 5 v = some (sW m 5 v) := ps_l (k := 5) (by decide)
theorem ad_5 {m : mC} {v : Int32} : P_X6_adds m 5 v = some (sW m 5 (sA m 5 + v)) := ads_l (k := 5) (by decide)
theorem of_6 {m : mC} : P_X6_of m 6 = some (sA m 6) := os_l (k := 6) (by decide)
theorem pu_6 {m : mC} {v : Int32} : P_X6_puts m 6 v = some (sW m 6 v) := ps_l (k := 6) (by decide)
theorem ad_6 {m : mC} {v : Int32} : P_X6_adds m 6 v = some (sW m 6 (sA m 6 + v)) := ads_l (k := 6) (by decide)
theorem of_7 {m : mC} : P_X6_of m 7 = some (sA m 7) := os_l (k := 7) (by decide)
theorem pu_7 {m : mC} {v : Int32} : P_X6_puts m 7 v = some (sW m 7 v) := ps_l (k := 7) (by decide)
theorem ad_7 {m : mC} {v : Int32} : P_X6_adds m 7 v = some (sW m 7 (sA m 7 + v)) := ads_l (k := 7) (by decide)
theorem of_8 {m : mC} : P_X6_of m 8 = some (sA m 8) := os_l (k := 8) (by decide)
theorem pu_8 {m : mC} {v : Int32} : P_X6_puts m 8 v = some (sW m 8 v) := ps_l (k := 8) (by decide)
theorem ad_8 {m : mC} {v : Int32} : P_X6_adds m 8 v = some (sW m 8 (sA m 8 + v)) := ads_l (k := 8) (by decide)
theorem of_9 {m : mC} : P_X6_of m 9 = some (sA m 9) := os_l (k := 9) (by decide)
theorem pu_9 {m : mC} {v : Int32} : P_X6_puts m 9 v = some (sW m 9 v) := ps_l (k := 9) (by decide)
theorem ad_9 {m : mC} {v : Int32} : P_X6_adds m 9 v = some (sW m 9 (sA m 9 + v)) := ads_l (k := 9) (by decide)
theorem of_10 {m : mC} : P_X6_of m 10 = some (sA m 10) := os_l (k := 10) (by decide)
theorem pu_10 {m : mC} {v : Int32} : P_X6_puts m 10 v = some (sW m 10 v) := ps_l (k := 10) (by decide)
theorem ad_10 {m : mC} {v : Int32} : P_X6_adds m 10 v = some (sW m 10 (sA m 10 + v)) := ads_l (k := 10) (by decide)
theorem of_11 {m : mC} : P_X6_of m 11 = some (sA m 11) := os_l (k := 11) (by decide)
theorem pu_11 {m : mC} {v : Int32} : P_X6_puts m 11 v = some (sW m 11 v) := ps_l (k := 11) (by decide)
theorem ad_11 {m : mC} {v : Int32} : P_X6_adds m 11 v = some (sW m 11 (sA m 11 + v)) := ads_l (k := 11) (by decide)
theorem of_12 {m : mC} : P_X6_of m 12 = some (sA m 12) := os_l (k := 12) (by decide)
theorem pu_12 {m : mC} {v : Int32} : P_X6_puts m 12 v = some (sW m 12 v) := ps_l (k := 12) (by decide)
theorem ad_12 {m : mC} {v : Int32} : P_X6_adds m 12 v = some (sW m 12 (sA m 12 + v)) := ads_l (k := 12) (by decide)
theorem or_0 {m : mC} {r : Nat} (hr : r < 2) : P_X6_ofRing m (nI r) 0 = some (rA m r 0) := or_l (w := 0) hr (by decide)
theorem pr_0 {m : mC} {r : Nat} {v : Int32} (hr : r < 2) : P_X6_putsRing m (nI r) 0 v = some (rW m r 0 v) := pr_l (w := 0) hr (by decide)
theorem or_1 {m : mC} {r : Nat} (hr : r < 2) : P_X6_ofRing m (nI r) 1 = some (rA m r 1) := or_l (w := 1) hr (by decide)
theorem pr_1 {m : mC} {r : Nat} {v : Int32} (hr : r < 2) : P_X6_putsRing m (nI r) 1 v = some (rW m r 1 v) := pr_l (w := 1) hr (by decide)
theorem or_2 {m : mC} {r : Nat} (hr : r < 2) : P_X6_ofRing m (nI r) 2 = some (rA m r 2) := or_l (w := 2) hr (by decide)
theorem pr_2 {m : mC} {r : Nat} {v : Int32} (hr : r < 2) : P_X6_putsRing m (nI r) 2 v = some (rW m r 2 v) := pr_l (w := 2) hr (by decide)
theorem or_3 {m : mC} {r : Nat} (hr : r < 2) : P_X6_ofRing m (nI r) 3 = some (rA m r 3) := or_l (w := 3) hr (by decide)
theorem pr_3 {m : mC} {r : Nat} {v : Int32} (hr : r < 2) : P_X6_putsRing m (nI r) 3 v = some (rW m r 3 v) := pr_l (w := 3) hr (by decide)
theorem or_4 {m : mC} {r : Nat} (hr : r < 2) : P_X6_ofRing m (nI r) 4 = some (rA m r 4) := or_l (w := 4) hr (by decide)
theorem pr_4 {m : mC} {r : Nat} {v : Int32} (hr : r < 2) : P_X6_putsRing m (nI r) 4 v = some (rW m r 4 v) := pr_l (w := 4) hr (by decide)
theorem or_5 {m : mC} {r : Nat} (hr : r < 2) : P_X6_ofRing m (nI r) 5 = some (rA m r 5) := or_l (w := 5) hr (by decide)
theorem pr_5 {m : mC} {r : Nat} {v : Int32} (hr : r < 2) : P_X6_putsRing m (nI r) 5 v = some (rW m r 5 v) := pr_l (w := 5) hr (by decide)
theorem or_6 {m : mC} {r : Nat} (hr : r < 2) : P_X6_ofRing m (nI r) 6 = some (rA m r 6) := or_l (w := 6) hr (by decide)
theorem pr_6 {m : mC} {r : Nat} {v : Int32} (hr : r < 2) : P_X6_putsRing m (nI r) 6 v = some (rW m r 6 v) := pr_l (w := 6) hr (by decide)
theorem or_7 {m : mC} {r : Nat} (hr : r < 2) : P_X6_ofRing m (nI r) 7 = some (rA m r 7) := or_l (w := 7) hr (by decide)
theorem pr_7 {m : mC} {r : Nat} {v : Int32} (hr : r < 2) : P_X6_putsRing m (nI r) 7 v = some (rW m r 7 v) := pr_l (w := 7) hr (by decide)
theorem op_0 {m : mC} {p : Nat} (hp : p < 8) : P_X6_ofPhase m (nI p) 0 = some (pA m p 0) := op_l (w := 0) hp (by decide)
theorem pp_0 {m : mC} {p : Nat} {v : Int32} (hp : p < 8) : P_X6_putsPhase m (nI p) 0 v = some (pW m p 0 v) := pp_l (w := 0) hp (by decide)
theorem op_1 {m : mC} {p : Nat} (hp : p < 8) : P_X6_ofPhase m (nI p) 1 = some (pA m p 1) := op_l (w := 1) hp (by decide)
theorem pp_1 {m : mC} {p : Nat} {v : Int32} (hp : p < 8) : P_X6_putsPhase m (nI p) 1 v = some (pW m p 1 v) := pp_l (w := 1) hp (by decide)
theorem op_12 {m : mC} {p : Nat} (hp : p < 8) : P_X6_ofPhase m (nI p) 12 = some (pA m p 12) := op_l (w := 12) hp (by decide)
theorem pp_12 {m : mC} {p : Nat} {v : Int32} (hp : p < 8) : P_X6_putsPhase m (nI p) 12 v = some (pW m p 12 v) := pp_l (w := 12) hp (by decide)
theorem op_13 {m : mC} {p : Nat} (hp : p < 8) : P_X6_ofPhase m (nI p) 13 = some (pA m p 13) := op_l (w := 13) hp (by decide)
theorem pp_13 {m : mC} {p : Nat} {v : Int32} (hp : p < 8) : P_X6_putsPhase m (nI p) 13 v = some (pW m p 13 v) := pp_l (w := 13) hp (by decide)
theorem op_14 {m : mC} {p : Nat} (hp : p < 8) : P_X6_ofPhase m (nI p) 14 = some (pA m p 14) := op_l (w := 14) hp (by decide)
theorem pp_14 {m : mC} {p : Nat} {v : Int32} (hp : p < 8) : P_X6_putsPhase m (nI p) 14 v = some (pW m p 14 v) := pp_l (w := 14) hp (by decide)
theorem op_15 {m : mC} {p : Nat} (hp : p < 8) : P_X6_ofPhase m (nI p) 15 = some (pA m p 15) := op_l (w := 15) hp (by decide)
theorem pp_15 {m : mC} {p : Nat} {v : Int32} (hp : p < 8) : P_X6_putsPhase m (nI p) 15 v = some (pW m p 15 v) := pp_l (w := 15) hp (by decide)
theorem op_16 {m : mC} {p : Nat} (hp : p < 8) : P_X6_ofPhase m (nI p) 16 = some (pA m p 16) := op_l (w := 16) hp (by decide)
theorem pp_16 {m : mC} {p : Nat} {v : Int32} (hp : p < 8) : P_X6_putsPhase m (nI p) 16 v = some (pW m p 16 v) := pp_l (w := 16) hp (by decide)
theorem mk_0 {m : mC} {p : Nat} (hp : p < 8) : P_X6_mark m (nI p) 0 = some (pA m p 2) := mk_l (k := 0) hp (by decide)
theorem mk_1 {m : mC} {p : Nat} (hp : p < 8) : P_X6_mark m (nI p) 1 = some (pA m p 3) := mk_l (k := 1) hp (by decide)
theorem mk_2 {m : mC} {p : Nat} (hp : p < 8) : P_X6_mark m (nI p) 2 = some (pA m p 4) := mk_l (k := 2) hp (by decide)
theorem mk_3 {m : mC} {p : Nat} (hp : p < 8) : P_X6_mark m (nI p) 3 = some (pA m p 5) := mk_l (k := 3) hp (by decide)
theorem mk_4 {m : mC} {p : Nat} (hp : p < 8) : P_X6_mark m (nI p) 4 = some (pA m p 6) := mk_l (k := 4) hp (by decide)
theorem mk_5 {m : mC} {p : Nat} (hp : p < 8) : P_X6_mark m (nI p) 5 = some (pA m p 7) := mk_l (k := 5) hp (by decide)
theorem mk_6 {m : mC} {p : Nat} (hp : p < 8) : P_X6_mark m (nI p) 6 = some (pA m p 8) := mk_l (k := 6) hp (by decide)
theorem mk_7 {m : mC} {p : Nat} (hp : p < 8) : P_X6_mark m (nI p) 7 = some (pA m p 9) := mk_l (k := 7) hp (by decide)
theorem mk_8 {m : mC} {p : Nat} (hp : p < 8) : P_X6_mark m (nI p) 8 = some (pA m p 10) := mk_l (k := 8) hp (by decide)
theorem mk_9 {m : mC} {p : Nat} (hp : p < 8) : P_X6_mark m (nI p) 9 = some (pA m p 11) := mk_l (k := 9) hp (by decide)
theorem ob_0 {m : mC} {b : Nat} (hb : b < 2) : P_X6_ofBreak m (nI b) 0 = some (bA m (5 * b + 0)) := ob_l (k := 0) hb (by decide)
theorem ob_1 {m : mC} {b : Nat} (hb : b < 2) : P_X6_ofBreak m (nI b) 1 = some (bA m (5 * b + 1)) := ob_l (k := 1) hb (by decide)
theorem ob_2 {m : mC} {b : Nat} (hb : b < 2) : P_X6_ofBreak m (nI b) 2 = some (bA m (5 * b + 2)) := ob_l (k := 2) hb (by decide)
theorem ob_3 {m : mC} {b : Nat} (hb : b < 2) : P_X6_ofBreak m (nI b) 3 = some (bA m (5 * b + 3)) := ob_l (k := 3) hb (by decide)
theorem ob_4 {m : mC} {b : Nat} (hb : b < 2) : P_X6_ofBreak m (nI b) 4 = some (bA m (5 * b + 4)) := ob_l (k := 4) hb (by decide)
