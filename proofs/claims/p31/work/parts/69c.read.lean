/-! The reference reads -/
/-- what stands while the reference reads its text -/
def L (c0 c : mC) : Prop := St c ∧ Sp c ∧ (∀ k, (288 ≤ k ∨ k = 1 ∨ k = 4 ∨ k = 6 ∨ k = 10) → c 21 k = c0 21 k) ∧ c 20 2 = c0 20 2 ∧ c 20 8 = 0 ∧ ∃ n p, n ≤ 700 ∧ p ≤ n ∧ c 20 9 = nI n ∧ c 20 12 = nI p
/-- the place is below the end -/
def Lt (c : mC) : Prop := ∃ n p, n ≤ 700 ∧ p < n ∧ c 20 9 = nI n ∧ c 20 12 = nI p
theorem L.m {c0 c : mC} {k : Nat} {v : Int32} (h : L c0 c) (hk : k ≠ 2 ∧ k ≠ 8 ∧ k ≠ 9 ∧ k ≠ 12) : L c0 (mP c 20 k v) := by
  obtain ⟨h1, h2, h3, h4, h5, n, p, hn, hp, e1, e2⟩ := h
  have cell : ∀ q, q ≠ k → mP c 20 k v 20 q = c 20 q := fun q hq => by
    show (if 20 = 20 ∧ q = k then v else c 20 q) = _
    rw [if_neg (fun z => hq z.2)]
  exact ⟨h1, h2, h3, (cell 2 (by omega)).trans h4, (cell 8 (by omega)).trans h5, n, p, hn, hp, (cell 9 (by omega)).trans e1, (cell 12 (by omega)).trans e2⟩
theorem Lt.m {c : mC} {k : Nat} {v : Int32} (h : Lt c) (hk : k ≠ 9 ∧ k ≠ 12) : Lt (mP c 20 k v) := by
  obtain ⟨n, p, hn, hp, e1, e2⟩ := h
  have cell : ∀ q, q ≠ k → mP c 20 k v 20 q = c 20 q := fun q hq => by
    show (if 20 = 20 ∧ q = k then v else c 20 q) = _
    rw [if_neg (fun z => hq z.2)]
  exact ⟨n, p, hn, hp, (cell 9 (by omega)).trans e1, (cell 12 (by omega)).trans e2⟩
theorem L.s {c0 c : mC} (h : L c0 c) (hl : Lt c) : L c0 (mP c 20 12 (c 20 12 + 1)) := by
  obtain ⟨h1, h2, h3, h4, h5, _⟩ := h
  obtain ⟨n, p, hn, hp, e1, e2⟩ := hl
  refine ⟨h1, h2, h3, h4, h5, n, p + 1, hn, by omega, e1, ?_⟩
  show c 20 12 + 1 = _
  rw [e2]
  exact nI_1 p
theorem t_byteAt {c0 c : mC} (h : L c0 c) : ok (fun v => ¬ v = -1 → Lt c) (P_X6_byteAt c (c 20 12)) := by
  obtain ⟨_, _, _, _, _, n, p, hn, hp, e1, e2⟩ := h
  refine ok_if (fun _ => ok_s (fun z => absurd rfl z)) (fun q => ?_)
  have hlt : p < n := by
    have : ¬ n ≤ p := fun z => q (by rw [e1, e2]; exact (nI_leI (by omega) (by omega)).mpr z)
    omega
  have hin : ¬ (c 20 12 < 0 ∨ 700 ≤ (c 20 12).toNatClampNeg) := by
    rw [e2]
    exact nI_in (by omega) (by decide)
  rw [if_neg hin]
  exact ok_s (fun _ => ⟨n, p, hn, hlt, e1, e2⟩)
theorem nI_j {a b : Nat} (ha : a ≤ 1000) (hb : b ≤ 1000) (e : nI a = nI b) : a = b := Nat.le_antisymm ((nI_leI (by omega) (by omega)).mp (by rw [e]; exact Int32.le_refl _)) ((nI_leI (by omega) (by omega)).mp (by rw [e]; exact Int32.le_refl _))
/-- the token's first byte -/
def Tt (c : mC) : Prop := ∃ t p n, t ≤ p ∧ p ≤ n ∧ n ≤ 700 ∧ c 20 9 = nI n ∧ c 20 11 = nI t ∧ c 20 12 = nI p
theorem Tt.m {c : mC} {k : Nat} {v : Int32} (h : Tt c) (hk : k ≠ 9 ∧ k ≠ 11 ∧ k ≠ 12) : Tt (mP c 20 k v) := by
  obtain ⟨t, p, n, h1, h2, h3, e1, e2, e3⟩ := h
  have cell : ∀ q, q ≠ k → mP c 20 k v 20 q = c 20 q := fun q hq => by
    show (if 20 = 20 ∧ q = k then v else c 20 q) = _
    rw [if_neg (fun z => hq z.2)]
  exact ⟨t, p, n, h1, h2, h3, (cell 9 (by omega)).trans e1, (cell 11 (by omega)).trans e2, (cell 12 (by omega)).trans e3⟩
theorem Tt.s {c : mC} (h : Tt c) (hl : Lt c) : Tt (mP c 20 12 (c 20 12 + 1)) := by
  obtain ⟨t, p, n, h1, h2, h3, e1, e2, e3⟩ := h
  obtain ⟨n', p', hn, hp, f1, f2⟩ := hl
  have a1 : n = n' := nI_j (by omega) (by omega) (e1.symm.trans f1)
  have a2 : p = p' := nI_j (by omega) (by omega) (e3.symm.trans f2)
  refine ⟨t, p + 1, n, by omega, by omega, h3, e1, e2, ?_⟩
  show c 20 12 + 1 = _
  rw [e3]; exact nI_1 p
theorem Tt.i {c0 c : mC} (h : L c0 c) : Tt (mP c 20 11 (c 20 12)) := by
  obtain ⟨_, _, _, _, _, n, p, hn, hp, e1, e2⟩ := h
  exact ⟨p, p, n, Nat.le_refl _, hp, hn, e1, e2, e2⟩
theorem sm_ne {v : Int32} (h : ¬ P_X6_isSmall v = 0) : ¬ v = -1 := fun z => h (by rw [z]; decide)
theorem dgt_ne {v : Int32} (h : ¬ P_X6_isDigit v = 0) : ¬ v = -1 := fun z => h (by rw [z]; decide)
/-- behind a token: what a row of the reader may rely on -/
def Ah (c0 c c' : mC) : Prop := L c0 c' ∧ (c' 20 20 = c 20 20 ∧ c' 21 = c 21) ∧ (c' 20 10 = 3 → ∃ m, m ≤ 9999 ∧ c' 20 13 = nI m) ∧ Tt c'
theorem tr_ahead76 {c0 c : mC} (h : L c0 c) (ht : Tt c) : ok (Ah c0 c) (mWh none B_X6_ahead_76 c) := by
  refine ok_wh (fun s : mC => L c0 s ∧ (s 20 20 = c 20 20 ∧ s 21 = c 21) ∧ Tt s) tm_X6_ahead_76 ?_ ⟨h, ⟨rfl, rfl⟩, ht⟩
  rintro s ⟨hs, e, ht⟩
  exact ok_b2 (t_byteAt hs) (fun v1 h1 => ok2_bd (fun v2 e2 => ok2_if (fun _ => ok2_r (ok_s ⟨hs.m (by decide), e, fun z => absurd (show (2 : Int32) = 3 from z) (by decide), ht.m (by decide)⟩)) (fun n => ok2_l ⟨hs.s (h1 (sm_ne (e2 ▸ n))), e, ht.s (h1 (sm_ne (e2 ▸ n)))⟩)))
theorem min9 {x : Int32} {m : Nat} (hm : m < 2 ^ 31) (e : x = nI m) : ∃ q, q ≤ 9999 ∧ P_J9_min_7cf53 9999 x = nI q := by
  subst e
  unfold P_J9_min_7cf53
  by_cases z : nI m < (9999 : Int32)
  · have hm2 : m < 9999 := by
      have : ¬ 9999 ≤ m := fun w => absurd z (Int32.not_lt.mpr ((nI_leI (a := 9999) (by decide) (by omega)).mpr w))
      omega
    exact ⟨m, by omega, by rw [if_pos z]⟩
  · exact ⟨9999, by decide, by rw [if_neg z]; rfl⟩
theorem dg_n {v : Int32} (h : ¬ P_X6_isDigit v = 0) : ∃ d, d ≤ 9 ∧ v = nI (48 + d) := by
  unfold P_X6_isDigit J_X6_isDigit_16 at h
  by_cases q : v < 48
  · rw [if_pos q] at h; exact absurd rfl h
  · rw [if_neg q] at h
    by_cases q2 : 57 < v
    · rw [if_pos q2] at h; exact absurd rfl h
    · have h0 : ¬ v < 0 := fun z => q (Int32.lt_trans z (by decide))
      obtain ⟨p, hp, rfl⟩ := nI_of h0
      have l1 : 48 ≤ p := (nI_leI (a := 48) (by decide) (by omega)).mp (Int32.not_lt.mp q)
      have l2 : p ≤ 57 := (nI_leI (b := 57) (by omega) (by decide)).mp (Int32.not_lt.mp q2)
      exact ⟨p - 48, by omega, by rw [show 48 + (p - 48) = p from by omega]⟩
theorem tr_ahead123 {c0 c : mC} (h : L c0 c) (h13 : ∃ m, m ≤ 9999 ∧ c 20 13 = nI m) (ht : Tt c) : ok (Ah c0 c) (mWh none B_X6_ahead_123 c) := by
  refine ok_wh (fun s : mC => L c0 s ∧ (s 20 20 = c 20 20 ∧ s 21 = c 21) ∧ (∃ m, m ≤ 9999 ∧ s 20 13 = nI m) ∧ Tt s) tm_X6_ahead_123 ?_ ⟨h, ⟨rfl, rfl⟩, h13, ht⟩
  rintro s ⟨hs, e, ⟨m, hm, em⟩, ht⟩
  obtain ⟨v1, eb, h1⟩ := t_byteAt hs
  refine ok_b2 (P := fun v => v = v1) ⟨v1, eb, rfl⟩ (fun v hv => ?_)
  subst hv
  refine ok2_bd (fun v2 e2 => ok2_if (fun _ => ok2_r ?_) (fun n => ?_))
  · exact ok_if (fun _ => ok_s ⟨hs.m (by decide), e, fun _ => ⟨m, hm, em⟩, ht.m (by decide)⟩) (fun _ => ok_s ⟨hs.m (by decide), e, fun z => absurd (show (1 : Int32) = 3 from z) (by decide), ht.m (by decide)⟩)
  · refine ok_b2 (P := fun w => w = v) ⟨v, eb, rfl⟩ (fun v4 hv4 => ?_)
    subst hv4
    have hl := h1 (dgt_ne (e2 ▸ n))
    obtain ⟨d, hd, ed⟩ := dg_n (v := v4) (e2 ▸ n)
    refine ok2_bd (fun v5 e5 => ok2_l ⟨(hs.m (by decide)).s (hl.m (by decide)), e, ?_, (ht.m (by decide)).s (hl.m (by decide))⟩)
    have ex : (((10 : Int32) * (s 20 13)) + v4) - 48 = nI (10 * m + d) := by
      rw [em, ed]
      show (nI 10 * nI m + nI (48 + d)) - nI 48 = _
      rw [show nI 10 * nI m = nI (10 * m) from (Int32.ofNat_mul 10 m).symm, nI_add, show 10 * m + (48 + d) = 10 * m + d + 48 from by omega, ← nI_add (10 * m + d) 48, Int32.add_sub_cancel]
    obtain ⟨q, hq, eq⟩ := min9 (by omega) ex
    exact ⟨q, hq, (show v5 = nI q from e5.symm.trans eq)⟩
theorem tr_ahead {c0 c : mC} (h : L c0 c) : ok (Ah c0 c) (P_X6_ahead c) := by
  refine ok_wh (fun s : mC => L c0 s ∧ (s 20 20 = c 20 20 ∧ s 21 = c 21)) tm_X6_ahead_0 ?_ ⟨h, ⟨rfl, rfl⟩⟩
  rintro s ⟨hs, e⟩
  have up : ∀ {m m' : mC}, (m 20 20 = c 20 20 ∧ m 21 = c 21) → Ah c0 m m' → Ah c0 c m' := fun e z => ⟨z.1, ⟨z.2.1.1.trans e.1, z.2.1.2.trans e.2⟩, z.2.2⟩
  have j26 : Lt s → ok2 (fun s : mC => L c0 s ∧ (s 20 20 = c 20 20 ∧ s 21 = c 21)) (Ah c0 c) (J_X6_ahead_26 s) := fun hl => ok2_l ⟨hs.s hl, e⟩
  refine ok_b2 (t_byteAt hs) (fun v1 h1 => ok2_if (fun q => j26 (h1 (by rw [q]; decide))) (fun _ => ok_b2 (t_byteAt hs) (fun v2 h2 => ok2_if (fun q => j26 (h2 (by rw [q]; decide))) (fun _ => ok2_r ?_))))
  have hs1 : L c0 (mP s 20 11 (s 20 12)) := hs.m (by decide)
  have ht1 := Tt.i hs
  refine ok_bo (t_byteAt hs1) (fun v3 h3 => ok_if (fun _ => ok_s ⟨hs1.m (by decide), e, fun z => absurd (show (0 : Int32) = 3 from z) (by decide), ht1.m (by decide)⟩) (fun n3 => ?_))
  have hl := h3 n3
  refine ok_bd (fun v4 _ => ok_if (fun _ => ok_bd (fun v5 _ => ok_if (fun _ => ?_) (fun _ => ?_))) (fun _ => ?_))
  · exact ok_if (fun _ => ok_s ⟨(hs1.s hl).m (by decide), e, fun z => absurd (show (4 : Int32) = 3 from z) (by decide), (ht1.s hl).m (by decide)⟩) (fun _ => ok_s ⟨(hs1.s hl).m (by decide), e, fun z => absurd (show (1 : Int32) = 3 from z) (by decide), (ht1.s hl).m (by decide)⟩)
  · exact ok_mo (tr_ahead123 (hs1.m (k := 13) (v := 0) (by decide)) ⟨0, by decide, rfl⟩ (ht1.m (by decide))) (fun m z => up e z)
  · exact ok_mo (tr_ahead76 hs1 ht1) (fun m z => up e z)
def ks (i : Nat) : Nat := ([1, 5, 10, 14, 21, 27, 32, 37, 44, 50, 55, 61, 67, 74, 80, 86, 92, 96] : List Nat).getD i 0
def ke (i : Nat) : Nat := ([4, 9, 13, 20, 26, 31, 36, 43, 49, 54, 60, 66, 73, 79, 85, 91, 95] : List Nat).getD i 0
theorem key25 : ∀ i, i < 17 → mWn B_key_25 12 (nI (ks i)) = some (some (nI (ke i))) := by decide +kernel
theorem key_s : ∀ i, i < 17 → ke i + 1 = ks (i + 1) ∧ ks i ≤ ke i ∧ ke i < mSL.getD 17 0 := by decide +kernel
theorem key_l : mSL.getD 17 0 = 96 := by decide +kernel
theorem nI_subn {a b : Nat} (h : b ≤ a) : nI a - nI b = nI (a - b) := by
  have : nI a = nI (a - b) + nI b := by rw [nI_add, show a - b + b = a from by omega]
  rw [this, Int32.add_sub_cancel]
theorem t_byteAt_n {c0 c : mC} (h : L c0 c) {x : Int32} (hx : ∃ q, q < 700 ∧ x = nI q) : ok (fun _ => True) (P_X6_byteAt c x) := by
  obtain ⟨q, hq, rfl⟩ := hx
  refine ok_if (fun _ => ok_s trivial) (fun _ => ?_)
  rw [if_neg (nI_in (by omega) (by decide))]
  exact ok_s trivial
theorem t_key67 {c0 c : mC} (h : L c0 c) (ht : Tt c) {i : Nat} (hi : i < 17) : ok (fun _ => True) (mWh none (B_key_67 c (nI (ks i)) (nI (ke i))) ((if nI (ke i) - nI (ks i) = c 20 12 - c 20 11 then 1 else 0), 0)) := by
  obtain ⟨t, p, n, h1, h2, h3, e1, e2, e3⟩ := ht
  obtain ⟨_, k2, k3⟩ := key_s i hi
  rw [key_l] at k3
  have ew : nI (ke i) - nI (ks i) = nI (ke i - ks i) := nI_subn k2
  have ep : c 20 12 - c 20 11 = nI (p - t) := by rw [e2, e3]; exact nI_subn h1
  refine ok_wh (fun s : Int32 × Int32 => (s.1 = 0 ∨ ke i - ks i = p - t) ∧ ∃ m, m ≤ ke i - ks i ∧ s.2 = nI m) tm_key_67 ?_ ⟨?_, 0, by omega, rfl⟩
  · rintro ⟨x4, x5⟩ ⟨ha, m, hm, em⟩
    have em' : x5 = nI m := em
    subst em'
    show ok2 _ _ (if nI (ke i) - nI (ks i) ≤ nI m then _ else _)
    refine ok2_if (fun _ => ok2_r (ok_s trivial)) (fun q => ok2_if (fun _ => ok2_r (ok_s trivial)) (fun q0 => ?_))
    have hlt : m < ke i - ks i := by
      have : ¬ ke i - ks i ≤ m := fun z => q (by rw [ew]; exact (nI_leI (by omega) (by omega)).mpr z)
      omega
    have hb : ke i - ks i = p - t := ha.resolve_left q0
    have ec : P_J0_charAt_5068e 17 (nI (ks i) + nI m) = some (mSg 17 (nI (ks i) + nI m)) := by
      unfold P_J0_charAt_5068e
      rw [nI_add, key_l, if_neg (nI_in (by omega) (by decide))]
    refine ok_b2 (P := fun _ => True) ⟨_, ec, trivial⟩ (fun v _ => ok_b2 (t_byteAt_n h ⟨t + m, by omega, by rw [e2]; exact nI_add t m⟩) (fun v2 _ => ?_))
    exact ok2_if (fun _ => ok2_l ⟨Or.inr hb, m + 1, by omega, nI_1 m⟩) (fun _ => ok2_l ⟨Or.inr hb, m + 1, by omega, nI_1 m⟩)
  · show (if nI (ke i) - nI (ks i) = c 20 12 - c 20 11 then (1 : Int32) else 0) = 0 ∨ _
    by_cases z : nI (ke i) - nI (ks i) = c 20 12 - c 20 11
    · right
      rw [ew, ep] at z
      exact nI_j (by omega) (by omega) z
    · left
      rw [if_neg z]
theorem t_key {c0 c : mC} (h : L c0 c) (ht : Tt c) : ok (fun _ => True) (P_X6_key c) := by
  refine ok_if (fun _ => ?_) (fun _ => ok_s trivial)
  refine ok_wh (fun s : Int32 × Int32 => ∃ i, i ≤ 17 ∧ s.2 = nI (ks i)) tm_key_14 ?_ ⟨0, by decide, rfl⟩
  rintro ⟨x1, x2⟩ ⟨i, hi, e⟩
  have e' : x2 = nI (ks i) := e
  subst e'
  show ok2 _ _ (mBd (α := Int32) (P_J0_length_8abf5 17) (fun n => if n ≤ nI (ks i) then _ else _))
  refine ok2_bd (fun n en => ok2_if (fun _ => ok2_r (ok_s trivial)) (fun q => ?_))
  have hi2 : i < 17 := by
    have : ¬ i = 17 := fun z => q (by rw [← en, z]; decide +kernel)
    omega
  refine ok_b2 (P := fun v => v = nI (ke i)) ⟨_, mWh_of (key25 i hi2), rfl⟩ (fun v hv => ?_)
  subst hv
  refine ok_b2 (t_key67 h ht hi2) (fun p _ => ok2_if (fun _ => ok2_l ⟨i + 1, by omega, ?_⟩) (fun _ => ok2_r (ok_s trivial)))
  show nI (ke i) + 1 = _
  rw [← (key_s i hi2).1]
  exact nI_1 _
/-- a row of the reader begins with this -/
def Ar (c0 c : mC) : Prop := L c0 c ∧ (c 20 10 = 3 → ∃ m, m ≤ 9999 ∧ c 20 13 = nI m) ∧ Tt c
theorem Ah.r {c0 c c' : mC} (h : Ah c0 c c') : Ar c0 c' := ⟨h.1, h.2.2.1, h.2.2.2⟩
theorem Ar.m {c0 c : mC} {k : Nat} {v : Int32} (h : Ar c0 c) (hk : k ≠ 2 ∧ k ≠ 8 ∧ k ≠ 9 ∧ k ≠ 10 ∧ k ≠ 11 ∧ k ≠ 12 ∧ k ≠ 13) : Ar c0 (mP c 20 k v) := by
  obtain ⟨h1, h2, h3⟩ := h
  have cell : ∀ q, q ≠ k → mP c 20 k v 20 q = c 20 q := fun q hq => by
    show (if 20 = 20 ∧ q = k then v else c 20 q) = _
    rw [if_neg (fun z => hq z.2)]
  refine ⟨h1.m (by omega), ?_, h3.m (by omega)⟩
  rw [cell 10 (by omega), cell 13 (by omega)]
  exact h2
theorem t_fails {c0 c : mC} (h : Ar c0 c) {x : Int32} : ok (fun p : Int32 × mC => p.1 = 0 ∧ Ar c0 p.2 ∧ p.2 21 = c 21) (P_X6_fails c x) := by
  have j : ∀ {s : Int32}, ok (fun p : Int32 × mC => p.1 = 0 ∧ Ar c0 p.2 ∧ p.2 21 = c 21) (J_X6_fails_21 c s) := fun {s} => ok_s ⟨rfl, ((h.m (by decide)).m (by decide)).m (by decide), rfl⟩
  exact ok_if (fun _ => ok_if (fun _ => j) (fun _ => j)) (fun _ => ok_s ⟨rfl, h, rfl⟩)
theorem t_takes {c0 c : mC} (h : Ar c0 c) : ok (fun p : Int32 × mC => p.1 = 1 ∧ Ar c0 p.2 ∧ p.2 21 = c 21 ∧ p.2 20 20 = c 20 20) (P_X6_takes c) :=
  ok_bo (tr_ahead h.1) (fun c1 z => ok_s ⟨rfl, z.r, z.2.1.2, z.2.1.1⟩)
theorem t_takesNumber {c0 c : mC} (h : Ar c0 c) {a b : Int32} : ok (fun p : Int32 × mC => Ar c0 p.2 ∧ p.2 21 = c 21 ∧ (¬ p.1 = 0 → ¬ P_X6_isFrom (p.2 20 20) a b = 0)) (P_X6_takesNumber c a b) := by
  have f : ∀ {x : Int32}, ok (fun p : Int32 × mC => Ar c0 p.2 ∧ p.2 21 = c 21 ∧ (¬ p.1 = 0 → ¬ P_X6_isFrom (p.2 20 20) a b = 0)) (mBo (α := Int32 × mC) none (P_X6_fails c x) (fun p => (some (p.1, p.2)))) := fun {x} => ok_bo (t_fails h) (fun p z => ok_s ⟨z.2.1, z.2.2, fun n => absurd z.1 n⟩)
  refine ok_if (fun _ => ok_bd (fun v1 e1 => ok_if (fun _ => f) (fun n1 => ok_bo (t_takes (h.m (k := 20) (v := c 20 13) (by decide))) (fun p z => ok_s ⟨z.2.1, z.2.2.1, fun _ => ?_⟩)))) (fun _ => f)
  have e : p.2 20 20 = c 20 13 := z.2.2.2
  show ¬ P_X6_isFrom (p.2 20 20) a b = 0
  rw [e, e1]; exact n1
theorem t_takesWord {c0 c : mC} (h : Ar c0 c) {x : Int32} : ok (fun p : Int32 × mC => Ar c0 p.2 ∧ p.2 21 = c 21) (P_X6_takesWord c x) :=
  ok_bo (t_key h.1 h.2.2) (fun v _ => ok_if (fun _ => ok_bo (t_takes h) (fun p z => ok_s ⟨z.2.1, z.2.2.1⟩)) (fun _ => ok_bo (t_fails h) (fun p z => ok_s ⟨z.2.1, z.2.2⟩)))
theorem St.w {c : mC} {k : Nat} {v : Int32} (h : St c) (h0 : k = 0 → r08 v) (hq : (k = 16 ∨ k = 19 ∨ k = 24 ∨ k = 27) → rQ v) (hr : ∀ p, p < 8 → k = 32 + 18 * p → r01 v) (h12 : k = 12 → rL v) (h7 : k = 7 → rB v) : St (mP c 21 k v) := by
  obtain ⟨s0, ⟨s1, s2, s3, s4⟩, s5, s6, s7⟩ := h
  refine ⟨?_, ⟨?_, ?_, ?_, ?_⟩, ?_, ?_, ?_⟩
  · rw [rd21]; split
    · exact h0 (by omega)
    · exact s0
  · rw [rd21]; split
    · exact hq (by omega)
    · exact s1
  · rw [rd21]; split
    · exact hq (by omega)
    · exact s2
  · rw [rd21]; split
    · exact hq (by omega)
    · exact s3
  · rw [rd21]; split
    · exact hq (by omega)
    · exact s4
  · intro p hp
    rw [rd21]; split
    · exact hr p hp (by omega)
    · exact s5 p hp
  · rw [rd21]; split
    · exact h12 (by omega)
    · exact s6
  · rw [rd21]; split
    · exact h7 (by omega)
    · exact s7
theorem L.w {c0 c : mC} {k : Nat} {v : Int32} (h : L c0 c) (hk : k < 288 ∧ k ≠ 1 ∧ k ≠ 4 ∧ k ≠ 6 ∧ k ≠ 10) (hs : St (mP c 21 k v)) : L c0 (mP c 21 k v) := by
  obtain ⟨_, h2, h3, h4, h5, h6⟩ := h
  have e20 : mP c 21 k v 20 = c 20 := mP_other _ _ _ _ _ (by decide)
  refine ⟨hs, h2.congr (fun k' _ => ?_), fun k' hk' => ?_, ?_, ?_, ?_⟩
  · rw [rd21, if_neg (by omega)]
  · rw [rd21, if_neg (by omega)]; exact h3 k' hk'
  · rw [e20]; exact h4
  · rw [e20]; exact h5
  · rw [e20]; exact h6
theorem Ar.w {c0 c : mC} {k : Nat} {v : Int32} (h : Ar c0 c) (hk : k < 288 ∧ k ≠ 1 ∧ k ≠ 4 ∧ k ≠ 6 ∧ k ≠ 10) (hs : St (mP c 21 k v)) : Ar c0 (mP c 21 k v) := by
  obtain ⟨h1, h2, h3⟩ := h
  have e20 : mP c 21 k v 20 = c 20 := mP_other _ _ _ _ _ (by decide)
  refine ⟨h1.w hk hs, ?_, ?_⟩
  · rw [e20]; exact h2
  · unfold Tt
    rw [e20]; exact h3
theorem t_aClock94 {c0 c : mC} (h : Ar c0 c) {s : Int32} (k : Nat) (hs : s = nI k) (hk : k = 2 ∨ k = 3) : ok (fun p : Int32 × mC => Ar c0 p.2) (J_X6_aClock_94 c s) := by
  subst hs
  unfold J_X6_aClock_94
  rw [puts_n (by omega)]
  refine ok_bo (ok_s (Q := Ar c0) (h.w (by omega) (h.1.1.w (by omega) (by omega) (fun p hp z => by omega) (by omega) (by omega)))) (fun c1 h1 => ok_bo (t_takes h1) (fun p z => ok_s z.2.1))
theorem t_failsM {c0 c : mC} (h : Ar c0 c) {x : Int32} : ok (fun p : Int32 × mC => Ar c0 p.2) (mBo (α := Int32 × mC) none (P_X6_fails c x) (fun p => (some (p.1, p.2)))) := ok_bo (t_fails h) (fun p z => ok_s z.2.1)
theorem t_aClock {c0 c : mC} (h : Ar c0 c) {x : Int32} : ok (fun p : Int32 × mC => Ar c0 p.2) (P_X6_aClock c x) := by
  refine ok_bd (fun v1 _ => ok_if (fun _ => ok_bo (tr_ahead (h.m (by decide)).1) (fun c2 z => ?_)) (fun _ => t_failsM h))
  have j82 : ok (fun p : Int32 × mC => Ar c0 p.2) (J_X6_aClock_82 c2 x) := ok_if (fun _ => t_aClock94 z.r 2 rfl (Or.inl rfl)) (fun _ => t_aClock94 z.r 3 rfl (Or.inr rfl))
  have j76 : ok (fun p : Int32 × mC => Ar c0 p.2) (J_X6_aClock_76 c2) := t_failsM z.r
  exact ok_if (fun _ => ok_if (fun _ => ok_bd (fun v3 _ => ok_if (fun _ => j76) (fun _ => j82))) (fun _ => ok_if (fun _ => j82) (fun _ => j76))) (fun _ => t_failsM z.r)
theorem t_aSet {c0 c : mC} (h : Ar c0 c) : ok (fun p : Int32 × mC => Ar c0 p.2 ∧ p.2 21 = c 21) (P_X6_aSet c) := by
  have f : ∀ {x : Int32}, ok (fun p : Int32 × mC => Ar c0 p.2 ∧ p.2 21 = c 21) (mBo (α := Int32 × mC) none (P_X6_fails c x) (fun p => (some (p.1, p.2)))) := fun {x} => ok_bo (t_fails h) (fun p z => ok_s z.2)
  exact ok_if (fun _ => ok_bo (t_of0 (G.rf h.1.1)) (fun v1 _ => ok_if (fun _ => ok_bo (tk_P_X6_isPeace (G.rf h.1.1)) (fun v2 _ => ok_if (fun _ => f) (fun _ => ok_bo (t_takes (h.m (k := 20) (v := c 20 13) (by decide))) (fun p z => ok_s ⟨z.2.1, z.2.2.1⟩)))) (fun _ => f))) (fun _ => f)
theorem t_putsA {c0 c : mC} (h : Ar c0 c) {x v : Int32} (k : Nat) (hx : x = nI k) (hk : 176 ≤ k ∧ k < 186) : ok (Ar c0) (P_X6_puts c x v) := by
  rw [hx, puts_n (by omega)]
  exact ok_s (h.w (by omega) (h.1.1.w (by omega) (by omega) (fun p hp z => by omega) (by omega) (by omega)))
theorem t_aGoal {c0 c : mC} (h : Ar c0 c) {x w : Int32} (k : Nat) (hx : x = nI k) (hk : 176 ≤ k ∧ k + 1 < 186) : ok (fun p : Int32 × mC => Ar c0 p.2) (P_X6_aGoal c x w) := by
  have e1 : x + 1 = nI (k + 1) := by rw [hx]; exact nI_1 k
  exact ok_bo (t_takesWord h) (fun p1 z1 => ok_if (fun _ => ok_s z1.1) (fun _ => ok_bo (t_aSet z1.1) (fun p2 z2 => ok_if (fun _ => ok_s z2.1) (fun _ => ok_bo (t_putsA z2.1 k hx (by omega)) (fun c3 h3 => ok_bo (t_takesNumber h3) (fun p4 z4 => ok_if (fun _ => ok_s z4.1) (fun _ => ok_bo (t_putsA z4.1 (k + 1) e1 (by omega)) (fun c5 h5 => ok_s h5))))))))
theorem t_aBreak {c0 c : mC} (h : Ar c0 c) : ok (fun p : Int32 × mC => Ar c0 p.2) (P_X6_aBreak c) := by
  refine ok_bo (tr_ahead h.1) (fun c1 z => ok_if (fun q3 => ok_if (fun q1 => ok_bd (fun v2 _ => ok_if (fun _ => ?_) (fun _ => t_failsM z.r))) (fun _ => t_failsM z.r)) (fun _ => t_failsM z.r))
  obtain ⟨m, hm, em⟩ := z.r.2.1 q3
  have hm1 : m ≤ 1 := by
    rw [em] at q1
    exact (nI_leI (b := 1) (by omega) (by decide)).mp q1
  have eb : ∀ (w : Nat) {y : Int32} {v : Int32}, y = nI w → (((176 : Int32) + ((5 : Int32) * ((mP c1 20 19 v) 20 13))) + y) = nI (176 + 5 * m + w) := fun w y v hy => by
    subst hy
    show (((176 : Int32) + ((5 : Int32) * (c1 20 13))) + nI w) = _
    rw [em]
    show (nI 176 + nI 5 * nI m) + nI w = _
    rw [show nI 5 * nI m = nI (5 * m) from (Int32.ofNat_mul 5 m).symm, nI_add, nI_add]
  exact ok_bo (tr_ahead (z.r.m (by decide)).1) (fun c3 z3 => ok_bo (t_aGoal z3.r (176 + 5 * m + 0) (eb 0 rfl) (by omega)) (fun p4 h4 => ok_if (fun _ => ok_s h4) (fun _ => ok_bo (t_aGoal h4 (176 + 5 * m + 2) (eb 2 rfl) (by omega)) (fun p5 h5 => ok_if (fun _ => ok_s h5) (fun _ => ok_bo (t_takesWord h5) (fun p6 z6 => ok_if (fun _ => ok_s z6.1) (fun _ => ok_bo (t_takesNumber z6.1) (fun p7 z7 => ok_if (fun _ => ok_s z7.1) (fun _ => ok_bo (t_putsA z7.1 (176 + 5 * m + 4) (eb 4 rfl) (by omega)) (fun c8 h8 => ok_s h8))))))))))
theorem t_putsPA {c0 c : mC} (h : Ar c0 c) {x : Int32} (hx : rP x) {y v : Int32} (hy : ∃ w, w < 18 ∧ y = nI w ∧ (w = 0 → r01 v)) : ok (fun m => Ar c0 m ∧ m 21 0 = c 21 0) (P_X6_putsPhase c x y v) := by
  obtain ⟨w, hw, rfl, h0⟩ := hy
  obtain ⟨p, hp, rfl⟩ := hx
  have e : P_X6_putsPhase c (nI p) (nI w) v = some (mP c 21 (32 + 18 * p + w) v) := by
    unfold P_X6_putsPhase
    rw [phase_n, puts_n (by omega)]; rfl
  rw [e]
  refine ok_s ⟨h.w (by omega) (h.1.1.w (by omega) (by omega) (fun q hq z => h0 (by omega)) (by omega) (by omega)), ?_⟩
  rw [rd21, if_neg (by omega)]
theorem t_aPhase108 {c0 c : mC} (h : Ar c0 c) {x2 v : Int32} (hv : rP v) (e0 : c 21 0 = v) : ok (fun p : Int32 × mC => Ar c0 p.2) (mWh none (B_X6_aPhase_108 v) (x2, c)) := by
  refine ok_wh (fun s : Int32 × mC => Ar c0 s.2 ∧ s.2 21 0 = v) tm_X6_aPhase_108 ?_ ⟨h, e0⟩
  rintro ⟨x2, s⟩ ⟨hs, es⟩
  have es' : s 21 0 = v := es
  obtain ⟨k, ek, _⟩ := t_key (c := s) hs.1 hs.2.2
  show ok2 _ _ (mBo (α := Int32) (.inr none) (P_X6_key s) _)
  refine ok_b2 (P := fun w => w = k) ⟨k, ek, rfl⟩ (fun w hw => ?_)
  subst hw
  refine ok2_bd (fun v2 e2 => ok2_if (fun _ => ok2_r ?_) (fun n2 => ok_b2 (P := fun u => u = w) ⟨w, ek, rfl⟩ (fun v4 hv4 => ?_)))
  · have ea : P_X6_adds s 0 1 = some (mP s 21 0 (s 21 0 + 1)) := rfl
    rw [ea]
    refine ok_bo (ok_s (Q := Ar c0) (Ar.w hs (by decide) (St.w hs.1.1 (fun _ => ?_) (by omega) (fun p hp z => by omega) (by omega) (by omega)))) (fun c3 h3 => ok_s h3)
    rw [es']; exact rP_up hv
  · subst hv4
    refine ok2_bd (fun v5 _ => ok2_if (fun _ => ok_b2 (tr_ahead (c := s) hs.1) (fun c6 z6 => ok2_bd (fun v7 _ => ok2_bd (fun v8 _ => ok_b2 (t_takesNumber z6.r) (fun p9 z9 => ok2_if (fun _ => ok2_r (ok_s z9.1)) (fun _ => ?_)))))) (fun _ => ok2_r (t_failsM hs)))
    obtain ⟨w, h2, h18, ew⟩ := isF_2 (isF_w (b := 9) (by decide) e2 n2)
    refine ok_b2 (t_putsPA z9.1 hv ⟨w, h18, ew, fun z => by omega⟩) (fun c10 h10 => ok2_l ⟨h10.1, ?_⟩)
    show c10 21 0 = v
    rw [h10.2, z9.2.1, z6.2.1.2]; exact es'
theorem t_aPhase {c0 c : mC} (h : Ar c0 c) : ok (fun p : Int32 × mC => Ar c0 p.2) (P_X6_aPhase c) := by
  obtain ⟨v1, e1, r1⟩ := t_of0 (G.rf h.1.1)
  have ev : v1 = c 21 0 := (Option.some.inj (e1.symm.trans (show P_X6_of c 0 = some (c 21 0) from of_n (k := 0) (by decide))))
  refine ok_bo (P := fun w => w = v1) ⟨v1, e1, rfl⟩ (fun w hw => ?_)
  subst hw
  refine ok_if (fun _ => t_failsM h) (fun n8 => ok_bo (tr_ahead h.1) (fun c3 z3 => ?_))
  have hP : rP w := by
    obtain ⟨q, hq, e⟩ := r1
    refine ⟨q, ?_, e⟩
    have : ¬ q = 8 := fun z => n8 (by rw [e, z]; rfl)
    omega
  have e3 : c3 21 0 = w := by rw [z3.2.1.2]; exact ev.symm
  refine ok_bo (P := fun u => u = w) ⟨w, by rw [show P_X6_of c3 0 = some (c3 21 0) from of_n (k := 0) (by decide), e3], rfl⟩ (fun v4 h4 => ?_)
  subst h4
  refine ok_bo (t_takesNumber z3.r) (fun p5 z5 => ok_if (fun _ => ok_s z5.1) (fun n5 => ?_))
  have f5 : p5.2 21 0 = v4 := by rw [z5.2.1]; exact e3
  refine ok_bo (t_putsPA z5.1 hP ⟨0, by decide, rfl, fun _ => isF_01 rfl (z5.2.2 n5)⟩) (fun c6 h6 => ok_bo (t_takesNumber h6.1) (fun p7 z7 => ok_if (fun _ => ok_s z7.1) (fun n7 => ?_)))
  have f7 : p7.2 21 0 = v4 := by rw [z7.2.1, h6.2]; exact f5
  refine ok_bo (t_putsPA z7.1 hP ⟨1, by decide, rfl, fun z => absurd z (by decide)⟩) (fun c8 h8 => ok_bo (t_putsPA h8.1 hP ⟨2, by decide, rfl, fun z => absurd z (by decide)⟩) (fun c9 h9 => ok_bo (t_putsPA h9.1 hP ⟨3, by decide, rfl, fun z => absurd z (by decide)⟩) (fun c10 h10 => ok_bo (t_putsPA h10.1 hP ⟨4, by decide, rfl, fun z => absurd z (by decide)⟩) (fun c11 h11 => ok_bo (t_putsPA h11.1 hP ⟨5, by decide, rfl, fun z => absurd z (by decide)⟩) (fun c12 h12 => ok_bo (t_putsPA h12.1 hP ⟨6, by decide, rfl, fun z => absurd z (by decide)⟩) (fun c13 h13 => t_aPhase108 h13.1 hP ?_))))))
  rw [h13.2, h12.2, h11.2, h10.2, h9.2, h8.2]; exact f7
theorem t_aLine56 {c0 c : mC} (h : Ar c0 c) {s : Int32} : ok (fun p : Int32 × mC => Ar c0 p.2) (J_X6_aLine_56 c s) :=
  ok_if (fun _ => ok_s h) (fun _ => ok_if (fun _ => ok_bo (t_takes (h.m (by decide))) (fun p z => ok_s z.2.1)) (fun _ => t_failsM h))
theorem t_aLine {c0 c : mC} (h : Ar c0 c) : ok (fun p : Int32 × mC => Ar c0 p.2) (P_X6_aLine c) := by
  have j30 : ∀ {x : Int32}, ok (fun p : Int32 × mC => Ar c0 p.2) (J_X6_aLine_30 c x) := fun {x} => ok_bo (t_aClock h) (fun p z => t_aLine56 z)
  exact ok_bo (t_key h.1 h.2.2) (fun v _ => ok_if (fun _ => ok_bo (t_aPhase h) (fun p z => t_aLine56 z)) (fun _ => ok_if (fun _ => j30) (fun _ => ok_if (fun _ => j30) (fun _ => ok_if (fun _ => ok_bo (t_aBreak h) (fun p z => t_aLine56 z)) (fun _ => ok_bo (t_fails h) (fun p z => t_aLine56 z.2.1))))))
/-- what load leaves -/
def Ld (c0 c : mC) : Prop := St c ∧ Sp c ∧ (∀ k, 576 ≤ k → c 21 k = c0 21 k) ∧ c 20 2 = c0 20 2 ∧ c 20 8 = 0
theorem L.ld {c0 c c' : mC} (h : L c0 c) (z : H c c') : Ld c0 c' := by
  obtain ⟨_, _, h3, h4, h5, _⟩ := h
  obtain ⟨z1, z2, z3, _, z5⟩ := z
  exact ⟨z1, z2, fun k hk => (z3 k hk).trans (h3 k (Or.inl (by omega))), (z5 2 (by decide) (by decide) (by decide) (by decide)).trans h4, (z5 8 (by decide) (by decide) (by decide) (by decide)).trans h5⟩
theorem t_load120 {c0 c : mC} (h : L c0 c) : ok (fun p : Int32 × mC => Ld c0 p.2) (J_X6_load_120 c) := by
  have h1 : L c0 (mP c 20 17 (c 20 14)) := h.m (by decide)
  have hh : H (mP c 20 17 (c 20 14)) (mP c 20 17 (c 20 14)) := H.rf h1.1 h1.2.1
  exact ok_if (fun _ => ok_bo (H.up hh (tk_P_X6_starts (G.rf h1.1))) (fun c1 z1 => ok_bo (t_of0 (G.rf z1.1)) (fun v2 _ => ok_bo (t_gives z1) (fun p z => ok_s (h1.ld z))))) (fun _ => ok_bo (h_load hh) (fun c4 z4 => ok_bo (t_refuse z4) (fun p z => ok_s (h1.ld z))))
theorem t_load101 {c0 c : mC} (h : Ar c0 c) {x2 : Int32} : ok (fun p : Int32 × mC => Ld c0 p.2) (mWh none B_X6_load_101 (x2, c)) := by
  refine ok_wh (fun s : Int32 × mC => Ar c0 s.2) tm_X6_load_101 ?_ h
  rintro ⟨x2, s⟩ hs
  exact ok2_if (fun _ => ok2_r (t_load120 hs.1)) (fun _ => ok2_if (fun _ => ok2_r (t_load120 hs.1)) (fun _ => ok_b2 (t_aLine hs) (fun p h => ok2_l h)))
theorem zS (c : mC) : St (mP (zC c 288) 21 7 (-1)) := by
  have z : ∀ k, k < 288 → k ≠ 7 → (mP (zC c 288) 21 7 (-1)) 21 k = 0 := fun k h1 h2 => by
    rw [rd21, if_neg h2]
    show (if 21 = 21 ∧ k < 288 then (0 : Int32) else c 21 k) = 0
    rw [if_pos ⟨rfl, h1⟩]
  refine ⟨?_, ⟨?_, ?_, ?_, ?_⟩, ?_, ?_, ?_⟩
  · rw [z 0 (by decide) (by decide)]; exact r08_0
  · rw [z 16 (by decide) (by decide)]; exact rQ_0
  · rw [z 19 (by decide) (by decide)]; exact rQ_0
  · rw [z 24 (by decide) (by decide)]; exact rQ_0
  · rw [z 27 (by decide) (by decide)]; exact rQ_0
  · intro p hp
    rw [z _ (by omega) (by omega)]; exact r01_0
  · rw [z 12 (by decide) (by decide)]; exact ⟨0, by decide, rfl⟩
  · rw [rd21, if_pos rfl]; exact rB_m
theorem t_load25 {c0 : mC} (hc : St c0) {n : Nat} (hn : n ≤ 700) : ok (fun p : Int32 × mC => Ld c0 p.2) (mWh none (B_X6_load_25 (nI n)) (0, mP c0 20 9 (nI n))) := by
  refine ok_wh (fun s : Int32 × mC => (∃ q, q ≤ n ∧ s.1 = nI q) ∧ s.2 21 = c0 21 ∧ s.2 20 2 = c0 20 2 ∧ s.2 20 9 = nI n) tm_X6_load_25 ?_ ⟨⟨0, by omega, rfl⟩, rfl, rfl, rfl⟩
  rintro ⟨x2, s⟩ ⟨⟨q, hq, e⟩, e21, e2, e9⟩
  have e' : x2 = nI q := e
  subst e'
  refine ok2_if (fun _ => ok2_r ?_) (fun nle => ?_)
  · generalize hm : (mP (mP (mP (mP (mP (mP (mP s 20 8 0) 20 14 0) 20 15 (-1)) 20 16 (-1)) 20 18 0) 20 19 0) 20 12 0) = m
    have m21 : m 21 = c0 21 := by rw [← hm]; exact e21
    have m2 : m 20 2 = c0 20 2 := by rw [← hm]; exact e2
    have m8 : m 20 8 = 0 := by rw [← hm]; rfl
    have m9 : m 20 9 = nI n := by rw [← hm]; exact e9
    have m12 : m 20 12 = 0 := by rw [← hm]; rfl
    show ok _ (mBo (α := mC) none (P_X6_copies m (nI 0) (nI 288)) _)
    rw [copies_eq m (a := 0) (b := 288) (by decide) (by decide) (by decide)]
    show ok _ (mBo (α := mC) none (P_X6_begins (cpC m 0 288 288)) _)
    rw [begins_eq]
    have back : ∀ {p : Int32 × mC}, Ld (mP (zC (cpC m 0 288 288) 288) 21 7 (-1)) p.2 → Ld c0 p.2 := fun {p} z => by
      obtain ⟨z1, z2, z3, z4, z5⟩ := z
      refine ⟨z1, z2, fun k hk => (z3 k hk).trans ?_, z4.trans m2, z5⟩
      rw [rd21, if_neg (by omega)]
      show (if 21 = 21 ∧ k < 288 then (0 : Int32) else cpC m 0 288 288 21 k) = _
      rw [if_neg (by omega)]
      show (if 21 = 21 ∧ 288 ≤ k ∧ k < 288 + 288 then _ else m 21 k) = _
      rw [if_neg (by omega), m21]
    have hL : L (mP (zC (cpC m 0 288 288) 288) 21 7 (-1)) (mP (zC (cpC m 0 288 288) 288) 21 7 (-1)) := by
      have cell : ∀ k, 288 ≤ k → (mP (zC (cpC m 0 288 288) 288) 21 7 (-1)) 21 k = cpC m 0 288 288 21 k := fun k hk => by
        rw [rd21, if_neg (by omega)]
        show (if 21 = 21 ∧ k < 288 then (0 : Int32) else cpC m 0 288 288 21 k) = _
        rw [if_neg (by omega)]
      refine ⟨zS _, (Sr.of hc).congr (fun k hk => ?_), fun k hk => rfl, rfl, m8, n, 0, hn, Nat.zero_le _, m9, m12⟩
      show (mP (zC (cpC m 0 288 288) 288) 21 7 (-1)) 21 (288 + k) = _
      rw [cell _ (by omega)]
      show (if 21 = 21 ∧ 288 ≤ 288 + k ∧ 288 + k < 288 + 288 then m 21 (0 + (288 + k - 288)) else _) = _
      rw [if_pos (by omega), show 0 + (288 + k - 288) = k from by omega, m21]
    exact ok_bo (P := fun c2 => c2 = mP (zC (cpC m 0 288 288) 288) 21 7 (-1)) ⟨_, rfl, rfl⟩ (fun c2 h2 => ok_bo (tr_ahead (c0 := mP (zC (cpC m 0 288 288) 288) 21 7 (-1)) (c := c2) (by rw [h2]; exact hL)) (fun c3 z3 => ok_mo (t_load101 z3.r) (fun p z => back z)))
  · have hlt : q < n := by
      have : ¬ n ≤ q := fun z => nle ((nI_leI (by omega) (by omega)).mpr z)
      omega
    rw [if_neg (nI_in (by omega) (by decide)), if_neg (nI_in (by omega) (by decide))]
    exact ok2_l ⟨⟨q + 1, by omega, nI_1 q⟩, e21, e2, e9⟩
/-- load: refused when what it is given isn't from 0 to what is fed -/
theorem t_load {c : mC} (h : St c) {t : Nat} (ht : t ≤ 700) (e : c 20 8 = nI t) {x : Int32} : ok (fun p : Int32 × mC => (P_X6_isFrom x 0 (nI t) = 0 ∧ p.2 = mP c 20 1 1) ∨ (¬ P_X6_isFrom x 0 (nI t) = 0 ∧ Ld c p.2)) (P_X6_load c x) := by
  unfold P_X6_load
  rw [e]
  refine ok_bd (fun v1 e1 => ok_if (fun q => ?_) (fun q => ?_))
  · subst q
    exact ok_s (Or.inl ⟨e1, rfl⟩)
  · obtain ⟨n, hn, rfl⟩ := isF_w (b := t) (by omega) e1 q
    exact ok_mo (t_load25 h (n := n) (by omega)) (fun p z => Or.inr ⟨by rw [e1]; exact q, z⟩)
