/-! each method -/
abbrev mMok (q : mDat) : Prop := mMO q ∧ mTok (mdW q) (mdL q) (mdP q) (mdB q) (mdT q) ∧ mPc (mdT q) = 0 ∧ ∀ e ∈ mdP q, mCpO mD (mdY q).cls e
theorem mem_td {n i : Nat} {l : List Cond} {w : Cond} (h : (lw_tbl.drop i).take n = l) (hw : w ∈ l) (hg : goodWord w = true) : w ∈ mGd := List.mem_filter.mpr ⟨List.mem_of_mem_drop (List.mem_of_mem_take (h ▸ hw)), hg⟩
theorem mGd_2 {i : Nat} {a b : Cond} (h : (lw_tbl.drop i).take 2 = [a, b]) (ha : goodWord a = true) (hb : goodWord b = true) : a ∈ mGd ∧ b ∈ mGd :=
  ⟨mem_td h List.mem_cons_self ha, mem_td h (List.mem_cons_of_mem _ List.mem_cons_self) hb⟩
theorem mGd_3 {i : Nat} {a b c : Cond} (h : (lw_tbl.drop i).take 3 = [a, b, c]) (ha : goodWord a = true) (hb : goodWord b = true) (hc : goodWord c = true) : a ∈ mGd ∧ b ∈ mGd ∧ c ∈ mGd :=
  ⟨mem_td h List.mem_cons_self ha, mem_td h (List.mem_cons_of_mem _ List.mem_cons_self) hb, mem_td h (List.mem_cons_of_mem _ (List.mem_cons_of_mem _ List.mem_cons_self)) hc⟩
set_option maxRecDepth 100000 in
theorem ini_X0 : Cond.initialized "RingedLights$Crossing" ∈ mGd := mGd_in (i := 93) rfl rfl
set_option maxRecDepth 100000 in
theorem ini_X1 : Cond.initialized "RingedLights$Log" ∈ mGd := mGd_in (i := 95) rfl rfl
set_option maxRecDepth 100000 in
theorem ini_X2 : Cond.initialized "RingedLights$Plan" ∈ mGd := mGd_in (i := 92) rfl rfl
set_option maxRecDepth 100000 in
theorem ini_X3 : Cond.initialized "RingedLights$Reader" ∈ mGd := mGd_in (i := 91) rfl rfl
set_option maxRecDepth 100000 in
theorem ini_X4 : Cond.initialized "RingedLights$Ring" ∈ mGd := mGd_in (i := 94) rfl rfl
set_option maxRecDepth 100000 in
theorem ini_X5 : Cond.initialized "RingedLights" ∈ mGd := mGd_in (i := 90) rfl rfl
set_option maxRecDepth 100000 in
theorem ini_X6 : Cond.initialized "RingedLightsModel" ∈ mGd := mGd_in (i := 96) rfl rfl
set_option maxRecDepth 100000 in
theorem ini_J9 : Cond.initialized "java/lang/Math" ∈ mGd := mGd_in (i := 97) rfl rfl
set_option maxRecDepth 100000 in
theorem ini_J0 : Cond.initialized "java/lang/String" ∈ mGd := mGd_in (i := 98) rfl rfl
set_option maxRecDepth 100000 in
theorem ini_J1 : Cond.initialized "java/lang/StringLatin1" ∈ mGd := mGd_in (i := 99) rfl rfl
set_option maxRecDepth 100000 in
theorem ini_J3 : Cond.initialized "jdk/internal/util/Preconditions" ∈ mGd := mGd_in (i := 100) rfl rfl
set_option maxRecDepth 100000 in
theorem mo_X0_takeFrom : mMok m_X0_takeFrom :=
  have t := mGd_3 (i := 1039) (a := Cond.instanceMethod (mdY m_X0_takeFrom)) (b := Cond.selects (mdY m_X0_takeFrom).cls (mdY m_X0_takeFrom) (mdY m_X0_takeFrom)) (c := (Cond.code (mdY m_X0_takeFrom) (mdB m_X0_takeFrom) (mdL m_X0_takeFrom) (mdR m_X0_takeFrom))) rfl rfl rfl rfl
  ⟨⟨t.2.2, by decide, by decide +kernel, ⟨by decide +kernel, by decide +kernel, by decide +kernel⟩, ini_X0, Or.inr ⟨by decide, t.1, t.2.1, rfl⟩, Or.inl ⟨rfl, rfl⟩⟩, mTokB_ok (by decide +kernel), rfl, co_X0⟩
set_option maxRecDepth 100000 in
theorem mo_X0_beginAnew : mMok m_X0_beginAnew :=
  have t := mGd_3 (i := 650) (a := Cond.instanceMethod (mdY m_X0_beginAnew)) (b := Cond.selects (mdY m_X0_beginAnew).cls (mdY m_X0_beginAnew) (mdY m_X0_beginAnew)) (c := (Cond.code (mdY m_X0_beginAnew) (mdB m_X0_beginAnew) (mdL m_X0_beginAnew) (mdR m_X0_beginAnew))) rfl rfl rfl rfl
  ⟨⟨t.2.2, by decide, by decide +kernel, ⟨by decide +kernel, by decide +kernel, by decide +kernel⟩, ini_X0, Or.inr ⟨by decide, t.1, t.2.1, rfl⟩, Or.inl ⟨rfl, rfl⟩⟩, mTokB_ok (by decide +kernel), rfl, co_X0⟩
set_option maxRecDepth 100000 in
theorem mo_X0_startRings : mMok m_X0_startRings :=
  have t := mGd_3 (i := 663) (a := Cond.instanceMethod (mdY m_X0_startRings)) (b := Cond.selects (mdY m_X0_startRings).cls (mdY m_X0_startRings) (mdY m_X0_startRings)) (c := (Cond.code (mdY m_X0_startRings) (mdB m_X0_startRings) (mdL m_X0_startRings) (mdR m_X0_startRings))) rfl rfl rfl rfl
  ⟨⟨t.2.2, by decide, by decide +kernel, ⟨by decide +kernel, by decide +kernel, by decide +kernel⟩, ini_X0, Or.inr ⟨by decide, t.1, t.2.1, rfl⟩, Or.inl ⟨rfl, rfl⟩⟩, mTokB_ok (by decide +kernel), rfl, co_X0⟩
set_option maxRecDepth 100000 in
theorem mo_X0_tellRing : mMok m_X0_tellRing :=
  have t := mGd_3 (i := 691) (a := Cond.instanceMethod (mdY m_X0_tellRing)) (b := Cond.selects (mdY m_X0_tellRing).cls (mdY m_X0_tellRing) (mdY m_X0_tellRing)) (c := (Cond.code (mdY m_X0_tellRing) (mdB m_X0_tellRing) (mdL m_X0_tellRing) (mdR m_X0_tellRing))) rfl rfl rfl rfl
  ⟨⟨t.2.2, by decide, by decide +kernel, ⟨by decide +kernel, by decide +kernel, by decide +kernel⟩, ini_X0, Or.inr ⟨by decide, t.1, t.2.1, rfl⟩, Or.inr (Or.inl ⟨rfl, rfl⟩)⟩, mTokB_ok (by decide +kernel), rfl, co_X0⟩
set_option maxRecDepth 100000 in
theorem mo_X0_tellPhase : mMok m_X0_tellPhase :=
  have t := mGd_3 (i := 732) (a := Cond.instanceMethod (mdY m_X0_tellPhase)) (b := Cond.selects (mdY m_X0_tellPhase).cls (mdY m_X0_tellPhase) (mdY m_X0_tellPhase)) (c := (Cond.code (mdY m_X0_tellPhase) (mdB m_X0_tellPhase) (mdL m_X0_tellPhase) (mdR m_X0_tellPhase))) rfl rfl rfl rfl
  ⟨⟨t.2.2, by decide, by decide +kernel, ⟨by decide +kernel, by decide +kernel, by decide +kernel⟩, ini_X0, Or.inr ⟨by decide, t.1, t.2.1, rfl⟩, Or.inr (Or.inl ⟨rfl, rfl⟩)⟩, mTokB_ok (by decide +kernel), rfl, co_X0⟩
set_option maxRecDepth 100000 in
theorem mo_X0_lampOf : mMok m_X0_lampOf :=
  have t := mGd_3 (i := 737) (a := Cond.instanceMethod (mdY m_X0_lampOf)) (b := Cond.selects (mdY m_X0_lampOf).cls (mdY m_X0_lampOf) (mdY m_X0_lampOf)) (c := (Cond.code (mdY m_X0_lampOf) (mdB m_X0_lampOf) (mdL m_X0_lampOf) (mdR m_X0_lampOf))) rfl rfl rfl rfl
  ⟨⟨t.2.2, by decide, by decide +kernel, ⟨by decide +kernel, by decide +kernel, by decide +kernel⟩, ini_X0, Or.inr ⟨by decide, t.1, t.2.1, rfl⟩, Or.inr (Or.inl ⟨rfl, rfl⟩)⟩, mTokB_ok (by decide +kernel), rfl, co_X0⟩
set_option maxRecDepth 100000 in
theorem mo_X0_isGreenAt : mMok m_X0_isGreenAt :=
  have t := mGd_3 (i := 836) (a := Cond.instanceMethod (mdY m_X0_isGreenAt)) (b := Cond.selects (mdY m_X0_isGreenAt).cls (mdY m_X0_isGreenAt) (mdY m_X0_isGreenAt)) (c := (Cond.code (mdY m_X0_isGreenAt) (mdB m_X0_isGreenAt) (mdL m_X0_isGreenAt) (mdR m_X0_isGreenAt))) rfl rfl rfl rfl
  ⟨⟨t.2.2, by decide, by decide +kernel, ⟨by decide +kernel, by decide +kernel, by decide +kernel⟩, ini_X0, Or.inr ⟨by decide, t.1, t.2.1, rfl⟩, Or.inr (Or.inr (Or.inl ⟨rfl, rfl⟩))⟩, mTokB_ok (by decide +kernel), rfl, co_X0⟩
set_option maxRecDepth 100000 in
theorem mo_X0_longestQueue : mMok m_X0_longestQueue :=
  have t := mGd_3 (i := 773) (a := Cond.instanceMethod (mdY m_X0_longestQueue)) (b := Cond.selects (mdY m_X0_longestQueue).cls (mdY m_X0_longestQueue) (mdY m_X0_longestQueue)) (c := (Cond.code (mdY m_X0_longestQueue) (mdB m_X0_longestQueue) (mdL m_X0_longestQueue) (mdR m_X0_longestQueue))) rfl rfl rfl rfl
  ⟨⟨t.2.2, by decide, by decide +kernel, ⟨by decide +kernel, by decide +kernel, by decide +kernel⟩, ini_X0, Or.inr ⟨by decide, t.1, t.2.1, rfl⟩, Or.inr (Or.inl ⟨rfl, rfl⟩)⟩, mTokB_ok (by decide +kernel), rfl, co_X0⟩
set_option maxRecDepth 100000 in
theorem mo_X0_firstLongest : mMok m_X0_firstLongest :=
  have t := mGd_3 (i := 780) (a := Cond.instanceMethod (mdY m_X0_firstLongest)) (b := Cond.selects (mdY m_X0_firstLongest).cls (mdY m_X0_firstLongest) (mdY m_X0_firstLongest)) (c := (Cond.code (mdY m_X0_firstLongest) (mdB m_X0_firstLongest) (mdL m_X0_firstLongest) (mdR m_X0_firstLongest))) rfl rfl rfl rfl
  ⟨⟨t.2.2, by decide, by decide +kernel, ⟨by decide +kernel, by decide +kernel, by decide +kernel⟩, ini_X0, Or.inr ⟨by decide, t.1, t.2.1, rfl⟩, Or.inr (Or.inl ⟨rfl, rfl⟩)⟩, mTokB_ok (by decide +kernel), rfl, co_X0⟩
set_option maxRecDepth 100000 in
theorem mo_X0_queueOf : mMok m_X0_queueOf :=
  have t := mGd_3 (i := 1072) (a := Cond.instanceMethod (mdY m_X0_queueOf)) (b := Cond.selects (mdY m_X0_queueOf).cls (mdY m_X0_queueOf) (mdY m_X0_queueOf)) (c := (Cond.code (mdY m_X0_queueOf) (mdB m_X0_queueOf) (mdL m_X0_queueOf) (mdR m_X0_queueOf))) rfl rfl rfl rfl
  ⟨⟨t.2.2, by decide, by decide +kernel, ⟨by decide +kernel, by decide +kernel, by decide +kernel⟩, ini_X0, Or.inr ⟨by decide, t.1, t.2.1, rfl⟩, Or.inr (Or.inl ⟨rfl, rfl⟩)⟩, mTokB_ok (by decide +kernel), rfl, co_X0⟩
set_option maxRecDepth 100000 in
theorem mo_X0_calledSet : mMok m_X0_calledSet :=
  have t := mGd_3 (i := 742) (a := Cond.instanceMethod (mdY m_X0_calledSet)) (b := Cond.selects (mdY m_X0_calledSet).cls (mdY m_X0_calledSet) (mdY m_X0_calledSet)) (c := (Cond.code (mdY m_X0_calledSet) (mdB m_X0_calledSet) (mdL m_X0_calledSet) (mdR m_X0_calledSet))) rfl rfl rfl rfl
  ⟨⟨t.2.2, by decide, by decide +kernel, ⟨by decide +kernel, by decide +kernel, by decide +kernel⟩, ini_X0, Or.inr ⟨by decide, t.1, t.2.1, rfl⟩, Or.inr (Or.inl ⟨rfl, rfl⟩)⟩, mTokB_ok (by decide +kernel), rfl, co_X0⟩
set_option maxRecDepth 100000 in
theorem mo_X0_onFootSet : mMok m_X0_onFootSet :=
  have t := mGd_3 (i := 746) (a := Cond.instanceMethod (mdY m_X0_onFootSet)) (b := Cond.selects (mdY m_X0_onFootSet).cls (mdY m_X0_onFootSet) (mdY m_X0_onFootSet)) (c := (Cond.code (mdY m_X0_onFootSet) (mdB m_X0_onFootSet) (mdL m_X0_onFootSet) (mdR m_X0_onFootSet))) rfl rfl rfl rfl
  ⟨⟨t.2.2, by decide, by decide +kernel, ⟨by decide +kernel, by decide +kernel, by decide +kernel⟩, ini_X0, Or.inr ⟨by decide, t.1, t.2.1, rfl⟩, Or.inr (Or.inl ⟨rfl, rfl⟩)⟩, mTokB_ok (by decide +kernel), rfl, co_X0⟩
set_option maxRecDepth 100000 in
theorem mo_X0_askedSet : mMok m_X0_askedSet :=
  have t := mGd_3 (i := 920) (a := Cond.instanceMethod (mdY m_X0_askedSet)) (b := Cond.selects (mdY m_X0_askedSet).cls (mdY m_X0_askedSet) (mdY m_X0_askedSet)) (c := (Cond.code (mdY m_X0_askedSet) (mdB m_X0_askedSet) (mdL m_X0_askedSet) (mdR m_X0_askedSet))) rfl rfl rfl rfl
  ⟨⟨t.2.2, by decide, by decide +kernel, ⟨by decide +kernel, by decide +kernel, by decide +kernel⟩, ini_X0, Or.inr ⟨by decide, t.1, t.2.1, rfl⟩, Or.inr (Or.inl ⟨rfl, rfl⟩)⟩, mTokB_ok (by decide +kernel), rfl, co_X0⟩
set_option maxRecDepth 100000 in
theorem mo_X0_shownSet : mMok m_X0_shownSet :=
  have t := mGd_3 (i := 785) (a := Cond.instanceMethod (mdY m_X0_shownSet)) (b := Cond.selects (mdY m_X0_shownSet).cls (mdY m_X0_shownSet) (mdY m_X0_shownSet)) (c := (Cond.code (mdY m_X0_shownSet) (mdB m_X0_shownSet) (mdL m_X0_shownSet) (mdR m_X0_shownSet))) rfl rfl rfl rfl
  ⟨⟨t.2.2, by decide, by decide +kernel, ⟨by decide +kernel, by decide +kernel, by decide +kernel⟩, ini_X0, Or.inr ⟨by decide, t.1, t.2.1, rfl⟩, Or.inr (Or.inl ⟨rfl, rfl⟩)⟩, mTokB_ok (by decide +kernel), rfl, co_X0⟩
set_option maxRecDepth 100000 in
theorem mo_X0_shownBy : mMok m_X0_shownBy :=
  have t := mGd_3 (i := 789) (a := Cond.instanceMethod (mdY m_X0_shownBy)) (b := Cond.selects (mdY m_X0_shownBy).cls (mdY m_X0_shownBy) (mdY m_X0_shownBy)) (c := (Cond.code (mdY m_X0_shownBy) (mdB m_X0_shownBy) (mdL m_X0_shownBy) (mdR m_X0_shownBy))) rfl rfl rfl rfl
  ⟨⟨t.2.2, by decide, by decide +kernel, ⟨by decide +kernel, by decide +kernel, by decide +kernel⟩, ini_X0, Or.inr ⟨by decide, t.1, t.2.1, rfl⟩, Or.inr (Or.inl ⟨rfl, rfl⟩)⟩, mTokB_ok (by decide +kernel), rfl, co_X0⟩
set_option maxRecDepth 100000 in
theorem mo_X0_hasReached : mMok m_X0_hasReached :=
  have t := mGd_3 (i := 1084) (a := Cond.instanceMethod (mdY m_X0_hasReached)) (b := Cond.selects (mdY m_X0_hasReached).cls (mdY m_X0_hasReached) (mdY m_X0_hasReached)) (c := (Cond.code (mdY m_X0_hasReached) (mdB m_X0_hasReached) (mdL m_X0_hasReached) (mdR m_X0_hasReached))) rfl rfl rfl rfl
  ⟨⟨t.2.2, by decide, by decide +kernel, ⟨by decide +kernel, by decide +kernel, by decide +kernel⟩, ini_X0, Or.inr ⟨by decide, t.1, t.2.1, rfl⟩, Or.inr (Or.inr (Or.inl ⟨rfl, rfl⟩))⟩, mTokB_ok (by decide +kernel), rfl, co_X0⟩
set_option maxRecDepth 100000 in
theorem mo_X0_putQueue : mMok m_X0_putQueue :=
  have t := mGd_3 (i := 848) (a := Cond.instanceMethod (mdY m_X0_putQueue)) (b := Cond.selects (mdY m_X0_putQueue).cls (mdY m_X0_putQueue) (mdY m_X0_putQueue)) (c := (Cond.code (mdY m_X0_putQueue) (mdB m_X0_putQueue) (mdL m_X0_putQueue) (mdR m_X0_putQueue))) rfl rfl rfl rfl
  ⟨⟨t.2.2, by decide, by decide +kernel, ⟨by decide +kernel, by decide +kernel, by decide +kernel⟩, ini_X0, Or.inr ⟨by decide, t.1, t.2.1, rfl⟩, Or.inl ⟨rfl, rfl⟩⟩, mTokB_ok (by decide +kernel), rfl, co_X0⟩
set_option maxRecDepth 100000 in
theorem mo_X0_takeCall : mMok m_X0_takeCall :=
  have t := mGd_3 (i := 832) (a := Cond.instanceMethod (mdY m_X0_takeCall)) (b := Cond.selects (mdY m_X0_takeCall).cls (mdY m_X0_takeCall) (mdY m_X0_takeCall)) (c := (Cond.code (mdY m_X0_takeCall) (mdB m_X0_takeCall) (mdL m_X0_takeCall) (mdR m_X0_takeCall))) rfl rfl rfl rfl
  ⟨⟨t.2.2, by decide, by decide +kernel, ⟨by decide +kernel, by decide +kernel, by decide +kernel⟩, ini_X0, Or.inr ⟨by decide, t.1, t.2.1, rfl⟩, Or.inl ⟨rfl, rfl⟩⟩, mTokB_ok (by decide +kernel), rfl, co_X0⟩
set_option maxRecDepth 100000 in
theorem mo_X0_callOthers : mMok m_X0_callOthers :=
  have t := mGd_3 (i := 1088) (a := Cond.instanceMethod (mdY m_X0_callOthers)) (b := Cond.selects (mdY m_X0_callOthers).cls (mdY m_X0_callOthers) (mdY m_X0_callOthers)) (c := (Cond.code (mdY m_X0_callOthers) (mdB m_X0_callOthers) (mdL m_X0_callOthers) (mdR m_X0_callOthers))) rfl rfl rfl rfl
  ⟨⟨t.2.2, by decide, by decide +kernel, ⟨by decide +kernel, by decide +kernel, by decide +kernel⟩, ini_X0, Or.inr ⟨by decide, t.1, t.2.1, rfl⟩, Or.inl ⟨rfl, rfl⟩⟩, mTokB_ok (by decide +kernel), rfl, co_X0⟩
set_option maxRecDepth 100000 in
theorem mo_X0_takeCycle : mMok m_X0_takeCycle :=
  have t := mGd_3 (i := 820) (a := Cond.instanceMethod (mdY m_X0_takeCycle)) (b := Cond.selects (mdY m_X0_takeCycle).cls (mdY m_X0_takeCycle) (mdY m_X0_takeCycle)) (c := (Cond.code (mdY m_X0_takeCycle) (mdB m_X0_takeCycle) (mdL m_X0_takeCycle) (mdR m_X0_takeCycle))) rfl rfl rfl rfl
  ⟨⟨t.2.2, by decide, by decide +kernel, ⟨by decide +kernel, by decide +kernel, by decide +kernel⟩, ini_X0, Or.inr ⟨by decide, t.1, t.2.1, rfl⟩, Or.inl ⟨rfl, rfl⟩⟩, mTokB_ok (by decide +kernel), rfl, co_X0⟩
set_option maxRecDepth 100000 in
theorem mo_X0_takeComers : mMok m_X0_takeComers :=
  have t := mGd_3 (i := 1022) (a := Cond.instanceMethod (mdY m_X0_takeComers)) (b := Cond.selects (mdY m_X0_takeComers).cls (mdY m_X0_takeComers) (mdY m_X0_takeComers)) (c := (Cond.code (mdY m_X0_takeComers) (mdB m_X0_takeComers) (mdL m_X0_takeComers) (mdR m_X0_takeComers))) rfl rfl rfl rfl
  ⟨⟨t.2.2, by decide, by decide +kernel, ⟨by decide +kernel, by decide +kernel, by decide +kernel⟩, ini_X0, Or.inr ⟨by decide, t.1, t.2.1, rfl⟩, Or.inr (Or.inl ⟨rfl, rfl⟩)⟩, mTokB_ok (by decide +kernel), rfl, co_X0⟩
set_option maxRecDepth 100000 in
theorem mo_X0_passTicks : mMok m_X0_passTicks :=
  have t := mGd_3 (i := 891) (a := Cond.instanceMethod (mdY m_X0_passTicks)) (b := Cond.selects (mdY m_X0_passTicks).cls (mdY m_X0_passTicks) (mdY m_X0_passTicks)) (c := (Cond.code (mdY m_X0_passTicks) (mdB m_X0_passTicks) (mdL m_X0_passTicks) (mdR m_X0_passTicks))) rfl rfl rfl rfl
  ⟨⟨t.2.2, by decide, by decide +kernel, ⟨by decide +kernel, by decide +kernel, by decide +kernel⟩, ini_X0, Or.inr ⟨by decide, t.1, t.2.1, rfl⟩, Or.inl ⟨rfl, rfl⟩⟩, mTokB_ok (by decide +kernel), rfl, co_X0⟩
set_option maxRecDepth 100000 in
theorem mo_X0_passTick : mMok m_X0_passTick :=
  have t := mGd_3 (i := 895) (a := Cond.instanceMethod (mdY m_X0_passTick)) (b := Cond.selects (mdY m_X0_passTick).cls (mdY m_X0_passTick) (mdY m_X0_passTick)) (c := (Cond.code (mdY m_X0_passTick) (mdB m_X0_passTick) (mdL m_X0_passTick) (mdR m_X0_passTick))) rfl rfl rfl rfl
  ⟨⟨t.2.2, by decide, by decide +kernel, ⟨by decide +kernel, by decide +kernel, by decide +kernel⟩, ini_X0, Or.inr ⟨by decide, t.1, t.2.1, rfl⟩, Or.inl ⟨rfl, rfl⟩⟩, mTokB_ok (by decide +kernel), rfl, co_X0⟩
set_option maxRecDepth 100000 in
theorem mo_X0_moveClock : mMok m_X0_moveClock :=
  have t := mGd_3 (i := 899) (a := Cond.instanceMethod (mdY m_X0_moveClock)) (b := Cond.selects (mdY m_X0_moveClock).cls (mdY m_X0_moveClock) (mdY m_X0_moveClock)) (c := (Cond.code (mdY m_X0_moveClock) (mdB m_X0_moveClock) (mdL m_X0_moveClock) (mdR m_X0_moveClock))) rfl rfl rfl rfl
  ⟨⟨t.2.2, by decide, by decide +kernel, ⟨by decide +kernel, by decide +kernel, by decide +kernel⟩, ini_X0, Or.inr ⟨by decide, t.1, t.2.1, rfl⟩, Or.inl ⟨rfl, rfl⟩⟩, mTokB_ok (by decide +kernel), rfl, co_X0⟩
set_option maxRecDepth 100000 in
theorem mo_X0_aheadOfClock : mMok m_X0_aheadOfClock :=
  have t := mGd_3 (i := 903) (a := Cond.instanceMethod (mdY m_X0_aheadOfClock)) (b := Cond.selects (mdY m_X0_aheadOfClock).cls (mdY m_X0_aheadOfClock) (mdY m_X0_aheadOfClock)) (c := (Cond.code (mdY m_X0_aheadOfClock) (mdB m_X0_aheadOfClock) (mdL m_X0_aheadOfClock) (mdR m_X0_aheadOfClock))) rfl rfl rfl rfl
  ⟨⟨t.2.2, by decide, by decide +kernel, ⟨by decide +kernel, by decide +kernel, by decide +kernel⟩, ini_X0, Or.inr ⟨by decide, t.1, t.2.1, rfl⟩, Or.inr (Or.inl ⟨rfl, rfl⟩)⟩, mTokB_ok (by decide +kernel), rfl, co_X0⟩
set_option maxRecDepth 100000 in
theorem mo_X0_isForced : mMok m_X0_isForced :=
  have t := mGd_3 (i := 707) (a := Cond.instanceMethod (mdY m_X0_isForced)) (b := Cond.selects (mdY m_X0_isForced).cls (mdY m_X0_isForced) (mdY m_X0_isForced)) (c := (Cond.code (mdY m_X0_isForced) (mdB m_X0_isForced) (mdL m_X0_isForced) (mdR m_X0_isForced))) rfl rfl rfl rfl
  ⟨⟨t.2.2, by decide, by decide +kernel, ⟨by decide +kernel, by decide +kernel, by decide +kernel⟩, ini_X0, Or.inr ⟨by decide, t.1, t.2.1, rfl⟩, Or.inr (Or.inr (Or.inl ⟨rfl, rfl⟩))⟩, mTokB_ok (by decide +kernel), rfl, co_X0⟩
set_option maxRecDepth 100000 in
theorem mo_X0_ageRing : mMok m_X0_ageRing :=
  have t := mGd_3 (i := 907) (a := Cond.instanceMethod (mdY m_X0_ageRing)) (b := Cond.selects (mdY m_X0_ageRing).cls (mdY m_X0_ageRing) (mdY m_X0_ageRing)) (c := (Cond.code (mdY m_X0_ageRing) (mdB m_X0_ageRing) (mdL m_X0_ageRing) (mdR m_X0_ageRing))) rfl rfl rfl rfl
  ⟨⟨t.2.2, by decide, by decide +kernel, ⟨by decide +kernel, by decide +kernel, by decide +kernel⟩, ini_X0, Or.inr ⟨by decide, t.1, t.2.1, rfl⟩, Or.inl ⟨rfl, rfl⟩⟩, mTokB_ok (by decide +kernel), rfl, co_X0⟩
set_option maxRecDepth 100000 in
theorem mo_X0_ageGreen : mMok m_X0_ageGreen :=
  have t := mGd_3 (i := 915) (a := Cond.instanceMethod (mdY m_X0_ageGreen)) (b := Cond.selects (mdY m_X0_ageGreen).cls (mdY m_X0_ageGreen) (mdY m_X0_ageGreen)) (c := (Cond.code (mdY m_X0_ageGreen) (mdB m_X0_ageGreen) (mdL m_X0_ageGreen) (mdR m_X0_ageGreen))) rfl rfl rfl rfl
  ⟨⟨t.2.2, by decide, by decide +kernel, ⟨by decide +kernel, by decide +kernel, by decide +kernel⟩, ini_X0, Or.inr ⟨by decide, t.1, t.2.1, rfl⟩, Or.inl ⟨rfl, rfl⟩⟩, mTokB_ok (by decide +kernel), rfl, co_X0⟩
set_option maxRecDepth 100000 in
theorem mo_X0_goTo : mMok m_X0_goTo :=
  have t := mGd_3 (i := 955) (a := Cond.instanceMethod (mdY m_X0_goTo)) (b := Cond.selects (mdY m_X0_goTo).cls (mdY m_X0_goTo) (mdY m_X0_goTo)) (c := (Cond.code (mdY m_X0_goTo) (mdB m_X0_goTo) (mdL m_X0_goTo) (mdR m_X0_goTo))) rfl rfl rfl rfl
  ⟨⟨t.2.2, by decide, by decide +kernel, ⟨by decide +kernel, by decide +kernel, by decide +kernel⟩, ini_X0, Or.inr ⟨by decide, t.1, t.2.1, rfl⟩, Or.inl ⟨rfl, rfl⟩⟩, mTokB_ok (by decide +kernel), rfl, co_X0⟩
set_option maxRecDepth 100000 in
theorem mo_X0_turnGreen : mMok m_X0_turnGreen :=
  have t := mGd_3 (i := 963) (a := Cond.instanceMethod (mdY m_X0_turnGreen)) (b := Cond.selects (mdY m_X0_turnGreen).cls (mdY m_X0_turnGreen) (mdY m_X0_turnGreen)) (c := (Cond.code (mdY m_X0_turnGreen) (mdB m_X0_turnGreen) (mdL m_X0_turnGreen) (mdR m_X0_turnGreen))) rfl rfl rfl rfl
  ⟨⟨t.2.2, by decide, by decide +kernel, ⟨by decide +kernel, by decide +kernel, by decide +kernel⟩, ini_X0, Or.inr ⟨by decide, t.1, t.2.1, rfl⟩, Or.inl ⟨rfl, rfl⟩⟩, mTokB_ok (by decide +kernel), rfl, co_X0⟩
set_option maxRecDepth 100000 in
theorem mo_X0_watch : mMok m_X0_watch :=
  have t := mGd_3 (i := 1011) (a := Cond.instanceMethod (mdY m_X0_watch)) (b := Cond.selects (mdY m_X0_watch).cls (mdY m_X0_watch) (mdY m_X0_watch)) (c := (Cond.code (mdY m_X0_watch) (mdB m_X0_watch) (mdL m_X0_watch) (mdR m_X0_watch))) rfl rfl rfl rfl
  ⟨⟨t.2.2, by decide, by decide +kernel, ⟨by decide +kernel, by decide +kernel, by decide +kernel⟩, ini_X0, Or.inr ⟨by decide, t.1, t.2.1, rfl⟩, Or.inl ⟨rfl, rfl⟩⟩, mTokB_ok (by decide +kernel), rfl, co_X0⟩
set_option maxRecDepth 100000 in
theorem mo_X0_isDone : mMok m_X0_isDone :=
  have t := mGd_3 (i := 699) (a := Cond.instanceMethod (mdY m_X0_isDone)) (b := Cond.selects (mdY m_X0_isDone).cls (mdY m_X0_isDone) (mdY m_X0_isDone)) (c := (Cond.code (mdY m_X0_isDone) (mdB m_X0_isDone) (mdL m_X0_isDone) (mdR m_X0_isDone))) rfl rfl rfl rfl
  ⟨⟨t.2.2, by decide, by decide +kernel, ⟨by decide +kernel, by decide +kernel, by decide +kernel⟩, ini_X0, Or.inr ⟨by decide, t.1, t.2.1, rfl⟩, Or.inr (Or.inr (Or.inl ⟨rfl, rfl⟩))⟩, mTokB_ok (by decide +kernel), rfl, co_X0⟩
set_option maxRecDepth 100000 in
theorem mo_X0_moveOn : mMok m_X0_moveOn :=
  have t := mGd_3 (i := 987) (a := Cond.instanceMethod (mdY m_X0_moveOn)) (b := Cond.selects (mdY m_X0_moveOn).cls (mdY m_X0_moveOn) (mdY m_X0_moveOn)) (c := (Cond.code (mdY m_X0_moveOn) (mdB m_X0_moveOn) (mdL m_X0_moveOn) (mdR m_X0_moveOn))) rfl rfl rfl rfl
  ⟨⟨t.2.2, by decide, by decide +kernel, ⟨by decide +kernel, by decide +kernel, by decide +kernel⟩, ini_X0, Or.inr ⟨by decide, t.1, t.2.1, rfl⟩, Or.inl ⟨rfl, rfl⟩⟩, mTokB_ok (by decide +kernel), rfl, co_X0⟩
set_option maxRecDepth 100000 in
theorem mo_X0_leaveToNext : mMok m_X0_leaveToNext :=
  have t := mGd_3 (i := 991) (a := Cond.instanceMethod (mdY m_X0_leaveToNext)) (b := Cond.selects (mdY m_X0_leaveToNext).cls (mdY m_X0_leaveToNext) (mdY m_X0_leaveToNext)) (c := (Cond.code (mdY m_X0_leaveToNext) (mdB m_X0_leaveToNext) (mdL m_X0_leaveToNext) (mdR m_X0_leaveToNext))) rfl rfl rfl rfl
  ⟨⟨t.2.2, by decide, by decide +kernel, ⟨by decide +kernel, by decide +kernel, by decide +kernel⟩, ini_X0, Or.inr ⟨by decide, t.1, t.2.1, rfl⟩, Or.inr (Or.inr (Or.inl ⟨rfl, rfl⟩))⟩, mTokB_ok (by decide +kernel), rfl, co_X0⟩
set_option maxRecDepth 100000 in
theorem mo_X0_moveTogether : mMok m_X0_moveTogether :=
  have t := mGd_3 (i := 995) (a := Cond.instanceMethod (mdY m_X0_moveTogether)) (b := Cond.selects (mdY m_X0_moveTogether).cls (mdY m_X0_moveTogether) (mdY m_X0_moveTogether)) (c := (Cond.code (mdY m_X0_moveTogether) (mdB m_X0_moveTogether) (mdL m_X0_moveTogether) (mdR m_X0_moveTogether))) rfl rfl rfl rfl
  ⟨⟨t.2.2, by decide, by decide +kernel, ⟨by decide +kernel, by decide +kernel, by decide +kernel⟩, ini_X0, Or.inr ⟨by decide, t.1, t.2.1, rfl⟩, Or.inl ⟨rfl, rfl⟩⟩, mTokB_ok (by decide +kernel), rfl, co_X0⟩
set_option maxRecDepth 100000 in
theorem mo_X0_crossOver : mMok m_X0_crossOver :=
  have t := mGd_3 (i := 1003) (a := Cond.instanceMethod (mdY m_X0_crossOver)) (b := Cond.selects (mdY m_X0_crossOver).cls (mdY m_X0_crossOver) (mdY m_X0_crossOver)) (c := (Cond.code (mdY m_X0_crossOver) (mdB m_X0_crossOver) (mdL m_X0_crossOver) (mdR m_X0_crossOver))) rfl rfl rfl rfl
  ⟨⟨t.2.2, by decide, by decide +kernel, ⟨by decide +kernel, by decide +kernel, by decide +kernel⟩, ini_X0, Or.inr ⟨by decide, t.1, t.2.1, rfl⟩, Or.inl ⟨rfl, rfl⟩⟩, mTokB_ok (by decide +kernel), rfl, co_X0⟩
set_option maxRecDepth 100000 in
theorem mo_X0_turnBack : mMok m_X0_turnBack :=
  have t := mGd_3 (i := 1007) (a := Cond.instanceMethod (mdY m_X0_turnBack)) (b := Cond.selects (mdY m_X0_turnBack).cls (mdY m_X0_turnBack) (mdY m_X0_turnBack)) (c := (Cond.code (mdY m_X0_turnBack) (mdB m_X0_turnBack) (mdL m_X0_turnBack) (mdR m_X0_turnBack))) rfl rfl rfl rfl
  ⟨⟨t.2.2, by decide, by decide +kernel, ⟨by decide +kernel, by decide +kernel, by decide +kernel⟩, ini_X0, Or.inr ⟨by decide, t.1, t.2.1, rfl⟩, Or.inl ⟨rfl, rfl⟩⟩, mTokB_ok (by decide +kernel), rfl, co_X0⟩
set_option maxRecDepth 100000 in
theorem mo_X0_moveBreaks : mMok m_X0_moveBreaks :=
  have t := mGd_3 (i := 933) (a := Cond.instanceMethod (mdY m_X0_moveBreaks)) (b := Cond.selects (mdY m_X0_moveBreaks).cls (mdY m_X0_moveBreaks) (mdY m_X0_moveBreaks)) (c := (Cond.code (mdY m_X0_moveBreaks) (mdB m_X0_moveBreaks) (mdL m_X0_moveBreaks) (mdR m_X0_moveBreaks))) rfl rfl rfl rfl
  ⟨⟨t.2.2, by decide, by decide +kernel, ⟨by decide +kernel, by decide +kernel, by decide +kernel⟩, ini_X0, Or.inr ⟨by decide, t.1, t.2.1, rfl⟩, Or.inl ⟨rfl, rfl⟩⟩, mTokB_ok (by decide +kernel), rfl, co_X0⟩
set_option maxRecDepth 100000 in
theorem mo_X0_beginWanted : mMok m_X0_beginWanted :=
  have t := mGd_3 (i := 937) (a := Cond.instanceMethod (mdY m_X0_beginWanted)) (b := Cond.selects (mdY m_X0_beginWanted).cls (mdY m_X0_beginWanted) (mdY m_X0_beginWanted)) (c := (Cond.code (mdY m_X0_beginWanted) (mdB m_X0_beginWanted) (mdL m_X0_beginWanted) (mdR m_X0_beginWanted))) rfl rfl rfl rfl
  ⟨⟨t.2.2, by decide, by decide +kernel, ⟨by decide +kernel, by decide +kernel, by decide +kernel⟩, ini_X0, Or.inr ⟨by decide, t.1, t.2.1, rfl⟩, Or.inl ⟨rfl, rfl⟩⟩, mTokB_ok (by decide +kernel), rfl, co_X0⟩
set_option maxRecDepth 100000 in
theorem mo_X0_beginBreak : mMok m_X0_beginBreak :=
  have t := mGd_3 (i := 941) (a := Cond.instanceMethod (mdY m_X0_beginBreak)) (b := Cond.selects (mdY m_X0_beginBreak).cls (mdY m_X0_beginBreak) (mdY m_X0_beginBreak)) (c := (Cond.code (mdY m_X0_beginBreak) (mdB m_X0_beginBreak) (mdL m_X0_beginBreak) (mdR m_X0_beginBreak))) rfl rfl rfl rfl
  ⟨⟨t.2.2, by decide, by decide +kernel, ⟨by decide +kernel, by decide +kernel, by decide +kernel⟩, ini_X0, Or.inr ⟨by decide, t.1, t.2.1, rfl⟩, Or.inl ⟨rfl, rfl⟩⟩, mTokB_ok (by decide +kernel), rfl, co_X0⟩
set_option maxRecDepth 100000 in
theorem mo_X0_dropBreak : mMok m_X0_dropBreak :=
  have t := mGd_3 (i := 659) (a := Cond.instanceMethod (mdY m_X0_dropBreak)) (b := Cond.selects (mdY m_X0_dropBreak).cls (mdY m_X0_dropBreak) (mdY m_X0_dropBreak)) (c := (Cond.code (mdY m_X0_dropBreak) (mdB m_X0_dropBreak) (mdL m_X0_dropBreak) (mdR m_X0_dropBreak))) rfl rfl rfl rfl
  ⟨⟨t.2.2, by decide, by decide +kernel, ⟨by decide +kernel, by decide +kernel, by decide +kernel⟩, ini_X0, Or.inr ⟨by decide, t.1, t.2.1, rfl⟩, Or.inl ⟨rfl, rfl⟩⟩, mTokB_ok (by decide +kernel), rfl, co_X0⟩
set_option maxRecDepth 100000 in
theorem mo_X0_seek : mMok m_X0_seek :=
  have t := mGd_3 (i := 947) (a := Cond.instanceMethod (mdY m_X0_seek)) (b := Cond.selects (mdY m_X0_seek).cls (mdY m_X0_seek) (mdY m_X0_seek)) (c := (Cond.code (mdY m_X0_seek) (mdB m_X0_seek) (mdL m_X0_seek) (mdR m_X0_seek))) rfl rfl rfl rfl
  ⟨⟨t.2.2, by decide, by decide +kernel, ⟨by decide +kernel, by decide +kernel, by decide +kernel⟩, ini_X0, Or.inr ⟨by decide, t.1, t.2.1, rfl⟩, Or.inl ⟨rfl, rfl⟩⟩, mTokB_ok (by decide +kernel), rfl, co_X0⟩
set_option maxRecDepth 100000 in
theorem mo_X0_steer : mMok m_X0_steer :=
  have t := mGd_3 (i := 951) (a := Cond.instanceMethod (mdY m_X0_steer)) (b := Cond.selects (mdY m_X0_steer).cls (mdY m_X0_steer) (mdY m_X0_steer)) (c := (Cond.code (mdY m_X0_steer) (mdB m_X0_steer) (mdL m_X0_steer) (mdR m_X0_steer))) rfl rfl rfl rfl
  ⟨⟨t.2.2, by decide, by decide +kernel, ⟨by decide +kernel, by decide +kernel, by decide +kernel⟩, ini_X0, Or.inr ⟨by decide, t.1, t.2.1, rfl⟩, Or.inl ⟨rfl, rfl⟩⟩, mTokB_ok (by decide +kernel), rfl, co_X0⟩
set_option maxRecDepth 100000 in
theorem mo_X0_isThere : mMok m_X0_isThere :=
  have t := mGd_3 (i := 971) (a := Cond.instanceMethod (mdY m_X0_isThere)) (b := Cond.selects (mdY m_X0_isThere).cls (mdY m_X0_isThere) (mdY m_X0_isThere)) (c := (Cond.code (mdY m_X0_isThere) (mdB m_X0_isThere) (mdL m_X0_isThere) (mdR m_X0_isThere))) rfl rfl rfl rfl
  ⟨⟨t.2.2, by decide, by decide +kernel, ⟨by decide +kernel, by decide +kernel, by decide +kernel⟩, ini_X0, Or.inr ⟨by decide, t.1, t.2.1, rfl⟩, Or.inr (Or.inr (Or.inl ⟨rfl, rfl⟩))⟩, mTokB_ok (by decide +kernel), rfl, co_X0⟩
set_option maxRecDepth 100000 in
theorem mo_X0_stayOnTrack : mMok m_X0_stayOnTrack :=
  have t := mGd_3 (i := 975) (a := Cond.instanceMethod (mdY m_X0_stayOnTrack)) (b := Cond.selects (mdY m_X0_stayOnTrack).cls (mdY m_X0_stayOnTrack) (mdY m_X0_stayOnTrack)) (c := (Cond.code (mdY m_X0_stayOnTrack) (mdB m_X0_stayOnTrack) (mdL m_X0_stayOnTrack) (mdR m_X0_stayOnTrack))) rfl rfl rfl rfl
  ⟨⟨t.2.2, by decide, by decide +kernel, ⟨by decide +kernel, by decide +kernel, by decide +kernel⟩, ini_X0, Or.inr ⟨by decide, t.1, t.2.1, rfl⟩, Or.inl ⟨rfl, rfl⟩⟩, mTokB_ok (by decide +kernel), rfl, co_X0⟩
set_option maxRecDepth 100000 in
theorem mo_X0_stayOnDwell : mMok m_X0_stayOnDwell :=
  have t := mGd_3 (i := 979) (a := Cond.instanceMethod (mdY m_X0_stayOnDwell)) (b := Cond.selects (mdY m_X0_stayOnDwell).cls (mdY m_X0_stayOnDwell) (mdY m_X0_stayOnDwell)) (c := (Cond.code (mdY m_X0_stayOnDwell) (mdB m_X0_stayOnDwell) (mdL m_X0_stayOnDwell) (mdR m_X0_stayOnDwell))) rfl rfl rfl rfl
  ⟨⟨t.2.2, by decide, by decide +kernel, ⟨by decide +kernel, by decide +kernel, by decide +kernel⟩, ini_X0, Or.inr ⟨by decide, t.1, t.2.1, rfl⟩, Or.inl ⟨rfl, rfl⟩⟩, mTokB_ok (by decide +kernel), rfl, co_X0⟩
set_option maxRecDepth 100000 in
theorem mo_X0_resume : mMok m_X0_resume :=
  have t := mGd_3 (i := 983) (a := Cond.instanceMethod (mdY m_X0_resume)) (b := Cond.selects (mdY m_X0_resume).cls (mdY m_X0_resume) (mdY m_X0_resume)) (c := (Cond.code (mdY m_X0_resume) (mdB m_X0_resume) (mdL m_X0_resume) (mdR m_X0_resume))) rfl rfl rfl rfl
  ⟨⟨t.2.2, by decide, by decide +kernel, ⟨by decide +kernel, by decide +kernel, by decide +kernel⟩, ini_X0, Or.inr ⟨by decide, t.1, t.2.1, rfl⟩, Or.inl ⟨rfl, rfl⟩⟩, mTokB_ok (by decide +kernel), rfl, co_X0⟩
set_option maxRecDepth 100000 in
theorem mo_X1_wipe : mMok m_X1_wipe :=
  have t := mGd_3 (i := 654) (a := Cond.instanceMethod (mdY m_X1_wipe)) (b := Cond.selects (mdY m_X1_wipe).cls (mdY m_X1_wipe) (mdY m_X1_wipe)) (c := (Cond.code (mdY m_X1_wipe) (mdB m_X1_wipe) (mdL m_X1_wipe) (mdR m_X1_wipe))) rfl rfl rfl rfl
  ⟨⟨t.2.2, by decide, by decide +kernel, ⟨by decide +kernel, by decide +kernel, by decide +kernel⟩, ini_X1, Or.inr ⟨by decide, t.1, t.2.1, rfl⟩, Or.inl ⟨rfl, rfl⟩⟩, mTokB_ok (by decide +kernel), rfl, co_X1⟩
set_option maxRecDepth 100000 in
theorem mo_X1_takeFrom : mMok m_X1_takeFrom :=
  have t := mGd_3 (i := 1048) (a := Cond.instanceMethod (mdY m_X1_takeFrom)) (b := Cond.selects (mdY m_X1_takeFrom).cls (mdY m_X1_takeFrom) (mdY m_X1_takeFrom)) (c := (Cond.code (mdY m_X1_takeFrom) (mdB m_X1_takeFrom) (mdL m_X1_takeFrom) (mdR m_X1_takeFrom))) rfl rfl rfl rfl
  ⟨⟨t.2.2, by decide, by decide +kernel, ⟨by decide +kernel, by decide +kernel, by decide +kernel⟩, ini_X1, Or.inr ⟨by decide, t.1, t.2.1, rfl⟩, Or.inl ⟨rfl, rfl⟩⟩, mTokB_ok (by decide +kernel), rfl, co_X1⟩
set_option maxRecDepth 100000 in
theorem mo_X1_note : mMok m_X1_note :=
  have t := mGd_3 (i := 882) (a := Cond.instanceMethod (mdY m_X1_note)) (b := Cond.selects (mdY m_X1_note).cls (mdY m_X1_note) (mdY m_X1_note)) (c := (Cond.code (mdY m_X1_note) (mdB m_X1_note) (mdL m_X1_note) (mdR m_X1_note))) rfl rfl rfl rfl
  ⟨⟨t.2.2, by decide, by decide +kernel, ⟨by decide +kernel, by decide +kernel, by decide +kernel⟩, ini_X1, Or.inr ⟨by decide, t.1, t.2.1, rfl⟩, Or.inl ⟨rfl, rfl⟩⟩, mTokB_ok (by decide +kernel), rfl, co_X1⟩
set_option maxRecDepth 100000 in
theorem mo_X1_tell : mMok m_X1_tell :=
  have t := mGd_3 (i := 798) (a := Cond.instanceMethod (mdY m_X1_tell)) (b := Cond.selects (mdY m_X1_tell).cls (mdY m_X1_tell) (mdY m_X1_tell)) (c := (Cond.code (mdY m_X1_tell) (mdB m_X1_tell) (mdL m_X1_tell) (mdR m_X1_tell))) rfl rfl rfl rfl
  ⟨⟨t.2.2, by decide, by decide +kernel, ⟨by decide +kernel, by decide +kernel, by decide +kernel⟩, ini_X1, Or.inr ⟨by decide, t.1, t.2.1, rfl⟩, Or.inr (Or.inl ⟨rfl, rfl⟩)⟩, mTokB_ok (by decide +kernel), rfl, co_X1⟩
set_option maxRecDepth 100000 in
theorem mo_X2_wipe : mMok m_X2_wipe :=
  have t := mGd_3 (i := 426) (a := Cond.instanceMethod (mdY m_X2_wipe)) (b := Cond.selects (mdY m_X2_wipe).cls (mdY m_X2_wipe) (mdY m_X2_wipe)) (c := (Cond.code (mdY m_X2_wipe) (mdB m_X2_wipe) (mdL m_X2_wipe) (mdR m_X2_wipe))) rfl rfl rfl rfl
  ⟨⟨t.2.2, by decide, by decide +kernel, ⟨by decide +kernel, by decide +kernel, by decide +kernel⟩, ini_X2, Or.inr ⟨by decide, t.1, t.2.1, rfl⟩, Or.inl ⟨rfl, rfl⟩⟩, mTokB_ok (by decide +kernel), rfl, co_X2⟩
set_option maxRecDepth 100000 in
theorem mo_X2_takeFrom : mMok m_X2_takeFrom :=
  have t := mGd_3 (i := 639) (a := Cond.instanceMethod (mdY m_X2_takeFrom)) (b := Cond.selects (mdY m_X2_takeFrom).cls (mdY m_X2_takeFrom) (mdY m_X2_takeFrom)) (c := (Cond.code (mdY m_X2_takeFrom) (mdB m_X2_takeFrom) (mdL m_X2_takeFrom) (mdR m_X2_takeFrom))) rfl rfl rfl rfl
  ⟨⟨t.2.2, by decide, by decide +kernel, ⟨by decide +kernel, by decide +kernel, by decide +kernel⟩, ini_X2, Or.inr ⟨by decide, t.1, t.2.1, rfl⟩, Or.inl ⟨rfl, rfl⟩⟩, mTokB_ok (by decide +kernel), rfl, co_X2⟩
set_option maxRecDepth 100000 in
theorem mo_X2_addPhase : mMok m_X2_addPhase :=
  have t := mGd_3 (i := 517) (a := Cond.instanceMethod (mdY m_X2_addPhase)) (b := Cond.selects (mdY m_X2_addPhase).cls (mdY m_X2_addPhase) (mdY m_X2_addPhase)) (c := (Cond.code (mdY m_X2_addPhase) (mdB m_X2_addPhase) (mdL m_X2_addPhase) (mdR m_X2_addPhase))) rfl rfl rfl rfl
  ⟨⟨t.2.2, by decide, by decide +kernel, ⟨by decide +kernel, by decide +kernel, by decide +kernel⟩, ini_X2, Or.inr ⟨by decide, t.1, t.2.1, rfl⟩, Or.inl ⟨rfl, rfl⟩⟩, mTokB_ok (by decide +kernel), rfl, co_X2⟩
set_option maxRecDepth 100000 in
theorem mo_X2_hasPhase : mMok m_X2_hasPhase :=
  have t := mGd_3 (i := 728) (a := Cond.instanceMethod (mdY m_X2_hasPhase)) (b := Cond.selects (mdY m_X2_hasPhase).cls (mdY m_X2_hasPhase) (mdY m_X2_hasPhase)) (c := (Cond.code (mdY m_X2_hasPhase) (mdB m_X2_hasPhase) (mdL m_X2_hasPhase) (mdR m_X2_hasPhase))) rfl rfl rfl rfl
  ⟨⟨t.2.2, by decide, by decide +kernel, ⟨by decide +kernel, by decide +kernel, by decide +kernel⟩, ini_X2, Or.inr ⟨by decide, t.1, t.2.1, rfl⟩, Or.inr (Or.inr (Or.inl ⟨rfl, rfl⟩))⟩, mTokB_ok (by decide +kernel), rfl, co_X2⟩
set_option maxRecDepth 100000 in
theorem mo_X2_allSet : mMok m_X2_allSet :=
  have t := mGd_3 (i := 618) (a := Cond.instanceMethod (mdY m_X2_allSet)) (b := Cond.selects (mdY m_X2_allSet).cls (mdY m_X2_allSet) (mdY m_X2_allSet)) (c := (Cond.code (mdY m_X2_allSet) (mdB m_X2_allSet) (mdL m_X2_allSet) (mdR m_X2_allSet))) rfl rfl rfl rfl
  ⟨⟨t.2.2, by decide, by decide +kernel, ⟨by decide +kernel, by decide +kernel, by decide +kernel⟩, ini_X2, Or.inr ⟨by decide, t.1, t.2.1, rfl⟩, Or.inr (Or.inl ⟨rfl, rfl⟩)⟩, mTokB_ok (by decide +kernel), rfl, co_X2⟩
set_option maxRecDepth 100000 in
theorem mo_X2_hasAll : mMok m_X2_hasAll :=
  have t := mGd_3 (i := 614) (a := Cond.instanceMethod (mdY m_X2_hasAll)) (b := Cond.selects (mdY m_X2_hasAll).cls (mdY m_X2_hasAll) (mdY m_X2_hasAll)) (c := (Cond.code (mdY m_X2_hasAll) (mdB m_X2_hasAll) (mdL m_X2_hasAll) (mdR m_X2_hasAll))) rfl rfl rfl rfl
  ⟨⟨t.2.2, by decide, by decide +kernel, ⟨by decide +kernel, by decide +kernel, by decide +kernel⟩, ini_X2, Or.inr ⟨by decide, t.1, t.2.1, rfl⟩, Or.inr (Or.inr (Or.inl ⟨rfl, rfl⟩))⟩, mTokB_ok (by decide +kernel), rfl, co_X2⟩
set_option maxRecDepth 100000 in
theorem mo_X2_markOf : mMok m_X2_markOf :=
  have t := mGd_3 (i := 703) (a := Cond.instanceMethod (mdY m_X2_markOf)) (b := Cond.selects (mdY m_X2_markOf).cls (mdY m_X2_markOf) (mdY m_X2_markOf)) (c := (Cond.code (mdY m_X2_markOf) (mdB m_X2_markOf) (mdL m_X2_markOf) (mdR m_X2_markOf))) rfl rfl rfl rfl
  ⟨⟨t.2.2, by decide, by decide +kernel, ⟨by decide +kernel, by decide +kernel, by decide +kernel⟩, ini_X2, Or.inr ⟨by decide, t.1, t.2.1, rfl⟩, Or.inr (Or.inl ⟨rfl, rfl⟩)⟩, mTokB_ok (by decide +kernel), rfl, co_X2⟩
set_option maxRecDepth 100000 in
theorem mo_X2_putMark : mMok m_X2_putMark :=
  have t := mGd_3 (i := 540) (a := Cond.instanceMethod (mdY m_X2_putMark)) (b := Cond.selects (mdY m_X2_putMark).cls (mdY m_X2_putMark) (mdY m_X2_putMark)) (c := (Cond.code (mdY m_X2_putMark) (mdB m_X2_putMark) (mdL m_X2_putMark) (mdR m_X2_putMark))) rfl rfl rfl rfl
  ⟨⟨t.2.2, by decide, by decide +kernel, ⟨by decide +kernel, by decide +kernel, by decide +kernel⟩, ini_X2, Or.inr ⟨by decide, t.1, t.2.1, rfl⟩, Or.inl ⟨rfl, rfl⟩⟩, mTokB_ok (by decide +kernel), rfl, co_X2⟩
set_option maxRecDepth 100000 in
theorem mo_X2_breakOf : mMok m_X2_breakOf :=
  have t := mGd_3 (i := 762) (a := Cond.instanceMethod (mdY m_X2_breakOf)) (b := Cond.selects (mdY m_X2_breakOf).cls (mdY m_X2_breakOf) (mdY m_X2_breakOf)) (c := (Cond.code (mdY m_X2_breakOf) (mdB m_X2_breakOf) (mdL m_X2_breakOf) (mdR m_X2_breakOf))) rfl rfl rfl rfl
  ⟨⟨t.2.2, by decide, by decide +kernel, ⟨by decide +kernel, by decide +kernel, by decide +kernel⟩, ini_X2, Or.inr ⟨by decide, t.1, t.2.1, rfl⟩, Or.inr (Or.inl ⟨rfl, rfl⟩)⟩, mTokB_ok (by decide +kernel), rfl, co_X2⟩
set_option maxRecDepth 100000 in
theorem mo_X2_putBreak : mMok m_X2_putBreak :=
  have t := mGd_3 (i := 633) (a := Cond.instanceMethod (mdY m_X2_putBreak)) (b := Cond.selects (mdY m_X2_putBreak).cls (mdY m_X2_putBreak) (mdY m_X2_putBreak)) (c := (Cond.code (mdY m_X2_putBreak) (mdB m_X2_putBreak) (mdL m_X2_putBreak) (mdR m_X2_putBreak))) rfl rfl rfl rfl
  ⟨⟨t.2.2, by decide, by decide +kernel, ⟨by decide +kernel, by decide +kernel, by decide +kernel⟩, ini_X2, Or.inr ⟨by decide, t.1, t.2.1, rfl⟩, Or.inl ⟨rfl, rfl⟩⟩, mTokB_ok (by decide +kernel), rfl, co_X2⟩
set_option maxRecDepth 100000 in
theorem mo_X2_partOf : mMok m_X2_partOf :=
  have t := mGd_3 (i := 534) (a := Cond.instanceMethod (mdY m_X2_partOf)) (b := Cond.selects (mdY m_X2_partOf).cls (mdY m_X2_partOf) (mdY m_X2_partOf)) (c := (Cond.code (mdY m_X2_partOf) (mdB m_X2_partOf) (mdL m_X2_partOf) (mdR m_X2_partOf))) rfl rfl rfl rfl
  ⟨⟨t.2.2, by decide, by decide +kernel, ⟨by decide +kernel, by decide +kernel, by decide +kernel⟩, ini_X2, Or.inr ⟨by decide, t.1, t.2.1, rfl⟩, Or.inr (Or.inl ⟨rfl, rfl⟩)⟩, mTokB_ok (by decide +kernel), rfl, co_X2⟩
set_option maxRecDepth 100000 in
theorem mo_X2_sideSet : mMok m_X2_sideSet :=
  have t := mGd_3 (i := 999) (a := Cond.instanceMethod (mdY m_X2_sideSet)) (b := Cond.selects (mdY m_X2_sideSet).cls (mdY m_X2_sideSet) (mdY m_X2_sideSet)) (c := (Cond.code (mdY m_X2_sideSet) (mdB m_X2_sideSet) (mdL m_X2_sideSet) (mdR m_X2_sideSet))) rfl rfl rfl rfl
  ⟨⟨t.2.2, by decide, by decide +kernel, ⟨by decide +kernel, by decide +kernel, by decide +kernel⟩, ini_X2, Or.inr ⟨by decide, t.1, t.2.1, rfl⟩, Or.inr (Or.inl ⟨rfl, rfl⟩)⟩, mTokB_ok (by decide +kernel), rfl, co_X2⟩
set_option maxRecDepth 100000 in
theorem mo_X2_foesOf : mMok m_X2_foesOf :=
  have t := mGd_3 (i := 524) (a := Cond.instanceMethod (mdY m_X2_foesOf)) (b := Cond.selects (mdY m_X2_foesOf).cls (mdY m_X2_foesOf) (mdY m_X2_foesOf)) (c := (Cond.code (mdY m_X2_foesOf) (mdB m_X2_foesOf) (mdL m_X2_foesOf) (mdR m_X2_foesOf))) rfl rfl rfl rfl
  ⟨⟨t.2.2, by decide, by decide +kernel, ⟨by decide +kernel, by decide +kernel, by decide +kernel⟩, ini_X2, Or.inr ⟨by decide, t.1, t.2.1, rfl⟩, Or.inr (Or.inl ⟨rfl, rfl⟩)⟩, mTokB_ok (by decide +kernel), rfl, co_X2⟩
set_option maxRecDepth 100000 in
theorem mo_X2_holdsFoes : mMok m_X2_holdsFoes :=
  have t := mGd_3 (i := 622) (a := Cond.instanceMethod (mdY m_X2_holdsFoes)) (b := Cond.selects (mdY m_X2_holdsFoes).cls (mdY m_X2_holdsFoes) (mdY m_X2_holdsFoes)) (c := (Cond.code (mdY m_X2_holdsFoes) (mdB m_X2_holdsFoes) (mdL m_X2_holdsFoes) (mdR m_X2_holdsFoes))) rfl rfl rfl rfl
  ⟨⟨t.2.2, by decide, by decide +kernel, ⟨by decide +kernel, by decide +kernel, by decide +kernel⟩, ini_X2, Or.inr ⟨by decide, t.1, t.2.1, rfl⟩, Or.inr (Or.inr (Or.inl ⟨rfl, rfl⟩))⟩, mTokB_ok (by decide +kernel), rfl, co_X2⟩
set_option maxRecDepth 100000 in
theorem mo_X2_firstWithFoe : mMok m_X2_firstWithFoe :=
  have t := mGd_3 (i := 626) (a := Cond.instanceMethod (mdY m_X2_firstWithFoe)) (b := Cond.selects (mdY m_X2_firstWithFoe).cls (mdY m_X2_firstWithFoe) (mdY m_X2_firstWithFoe)) (c := (Cond.code (mdY m_X2_firstWithFoe) (mdB m_X2_firstWithFoe) (mdL m_X2_firstWithFoe) (mdR m_X2_firstWithFoe))) rfl rfl rfl rfl
  ⟨⟨t.2.2, by decide, by decide +kernel, ⟨by decide +kernel, by decide +kernel, by decide +kernel⟩, ini_X2, Or.inr ⟨by decide, t.1, t.2.1, rfl⟩, Or.inr (Or.inl ⟨rfl, rfl⟩)⟩, mTokB_ok (by decide +kernel), rfl, co_X2⟩
set_option maxRecDepth 100000 in
theorem mo_X2_isFull : mMok m_X2_isFull :=
  have t := mGd_3 (i := 1068) (a := Cond.instanceMethod (mdY m_X2_isFull)) (b := Cond.selects (mdY m_X2_isFull).cls (mdY m_X2_isFull) (mdY m_X2_isFull)) (c := (Cond.code (mdY m_X2_isFull) (mdB m_X2_isFull) (mdL m_X2_isFull) (mdR m_X2_isFull))) rfl rfl rfl rfl
  ⟨⟨t.2.2, by decide, by decide +kernel, ⟨by decide +kernel, by decide +kernel, by decide +kernel⟩, ini_X2, Or.inr ⟨by decide, t.1, t.2.1, rfl⟩, Or.inr (Or.inr (Or.inl ⟨rfl, rfl⟩))⟩, mTokB_ok (by decide +kernel), rfl, co_X2⟩
set_option maxRecDepth 100000 in
theorem mo_X2_firstOfRow : mMok m_X2_firstOfRow :=
  have t := mGd_3 (i := 719) (a := Cond.instanceMethod (mdY m_X2_firstOfRow)) (b := Cond.selects (mdY m_X2_firstOfRow).cls (mdY m_X2_firstOfRow) (mdY m_X2_firstOfRow)) (c := (Cond.code (mdY m_X2_firstOfRow) (mdB m_X2_firstOfRow) (mdL m_X2_firstOfRow) (mdR m_X2_firstOfRow))) rfl rfl rfl rfl
  ⟨⟨t.2.2, by decide, by decide +kernel, ⟨by decide +kernel, by decide +kernel, by decide +kernel⟩, ini_X2, Or.inr ⟨by decide, t.1, t.2.1, rfl⟩, Or.inr (Or.inl ⟨rfl, rfl⟩)⟩, mTokB_ok (by decide +kernel), rfl, co_X2⟩
set_option maxRecDepth 100000 in
theorem mo_X2_endOf : mMok m_X2_endOf :=
  have t := mGd_3 (i := 711) (a := Cond.instanceMethod (mdY m_X2_endOf)) (b := Cond.selects (mdY m_X2_endOf).cls (mdY m_X2_endOf) (mdY m_X2_endOf)) (c := (Cond.code (mdY m_X2_endOf) (mdB m_X2_endOf) (mdL m_X2_endOf) (mdR m_X2_endOf))) rfl rfl rfl rfl
  ⟨⟨t.2.2, by decide, by decide +kernel, ⟨by decide +kernel, by decide +kernel, by decide +kernel⟩, ini_X2, Or.inr ⟨by decide, t.1, t.2.1, rfl⟩, Or.inr (Or.inl ⟨rfl, rfl⟩)⟩, mTokB_ok (by decide +kernel), rfl, co_X2⟩
set_option maxRecDepth 100000 in
theorem mo_X3_putByte : mMok m_X3_putByte :=
  have t := mGd_3 (i := 410) (a := Cond.instanceMethod (mdY m_X3_putByte)) (b := Cond.selects (mdY m_X3_putByte).cls (mdY m_X3_putByte) (mdY m_X3_putByte)) (c := (Cond.code (mdY m_X3_putByte) (mdB m_X3_putByte) (mdL m_X3_putByte) (mdR m_X3_putByte))) rfl rfl rfl rfl
  ⟨⟨t.2.2, by decide, by decide +kernel, ⟨by decide +kernel, by decide +kernel, by decide +kernel⟩, ini_X3, Or.inr ⟨by decide, t.1, t.2.1, rfl⟩, Or.inl ⟨rfl, rfl⟩⟩, mTokB_ok (by decide +kernel), rfl, co_X3⟩
set_option maxRecDepth 100000 in
theorem mo_X3_readText : mMok m_X3_readText :=
  have t := mGd_3 (i := 422) (a := Cond.instanceMethod (mdY m_X3_readText)) (b := Cond.selects (mdY m_X3_readText).cls (mdY m_X3_readText) (mdY m_X3_readText)) (c := (Cond.code (mdY m_X3_readText) (mdB m_X3_readText) (mdL m_X3_readText) (mdR m_X3_readText))) rfl rfl rfl rfl
  ⟨⟨t.2.2, by decide, by decide +kernel, ⟨by decide +kernel, by decide +kernel, by decide +kernel⟩, ini_X3, Or.inr ⟨by decide, t.1, t.2.1, rfl⟩, Or.inl ⟨rfl, rfl⟩⟩, mTokB_ok (by decide +kernel), rfl, co_X3⟩
set_option maxRecDepth 100000 in
theorem mo_X3_fail : mMok m_X3_fail :=
  have t := mGd_3 (i := 448) (a := Cond.instanceMethod (mdY m_X3_fail)) (b := Cond.selects (mdY m_X3_fail).cls (mdY m_X3_fail) (mdY m_X3_fail)) (c := (Cond.code (mdY m_X3_fail) (mdB m_X3_fail) (mdL m_X3_fail) (mdR m_X3_fail))) rfl rfl rfl rfl
  ⟨⟨t.2.2, by decide, by decide +kernel, ⟨by decide +kernel, by decide +kernel, by decide +kernel⟩, ini_X3, Or.inr ⟨by decide, t.1, t.2.1, rfl⟩, Or.inl ⟨rfl, rfl⟩⟩, mTokB_ok (by decide +kernel), rfl, co_X3⟩
set_option maxRecDepth 100000 in
theorem mo_X3_step : mMok m_X3_step :=
  have t := mGd_3 (i := 436) (a := Cond.instanceMethod (mdY m_X3_step)) (b := Cond.selects (mdY m_X3_step).cls (mdY m_X3_step) (mdY m_X3_step)) (c := (Cond.code (mdY m_X3_step) (mdB m_X3_step) (mdL m_X3_step) (mdR m_X3_step))) rfl rfl rfl rfl
  ⟨⟨t.2.2, by decide, by decide +kernel, ⟨by decide +kernel, by decide +kernel, by decide +kernel⟩, ini_X3, Or.inr ⟨by decide, t.1, t.2.1, rfl⟩, Or.inl ⟨rfl, rfl⟩⟩, mTokB_ok (by decide +kernel), rfl, co_X3⟩
set_option maxRecDepth 100000 in
theorem mo_X3_behind : mMok m_X3_behind :=
  have t := mGd_3 (i := 440) (a := Cond.instanceMethod (mdY m_X3_behind)) (b := Cond.selects (mdY m_X3_behind).cls (mdY m_X3_behind) (mdY m_X3_behind)) (c := (Cond.code (mdY m_X3_behind) (mdB m_X3_behind) (mdL m_X3_behind) (mdR m_X3_behind))) rfl rfl rfl rfl
  ⟨⟨t.2.2, by decide, by decide +kernel, ⟨by decide +kernel, by decide +kernel, by decide +kernel⟩, ini_X3, Or.inr ⟨by decide, t.1, t.2.1, rfl⟩, Or.inr (Or.inl ⟨rfl, rfl⟩)⟩, mTokB_ok (by decide +kernel), rfl, co_X3⟩
set_option maxRecDepth 100000 in
theorem mo_X3_kindAt : mMok m_X3_kindAt :=
  have t := mGd_3 (i := 444) (a := Cond.instanceMethod (mdY m_X3_kindAt)) (b := Cond.selects (mdY m_X3_kindAt).cls (mdY m_X3_kindAt) (mdY m_X3_kindAt)) (c := (Cond.code (mdY m_X3_kindAt) (mdB m_X3_kindAt) (mdL m_X3_kindAt) (mdR m_X3_kindAt))) rfl rfl rfl rfl
  ⟨⟨t.2.2, by decide, by decide +kernel, ⟨by decide +kernel, by decide +kernel, by decide +kernel⟩, ini_X3, Or.inr ⟨by decide, t.1, t.2.1, rfl⟩, Or.inr (Or.inl ⟨rfl, rfl⟩)⟩, mTokB_ok (by decide +kernel), rfl, co_X3⟩
set_option maxRecDepth 100000 in
theorem mo_X3_signAt : mMok m_X3_signAt :=
  have t := mGd_3 (i := 452) (a := Cond.instanceMethod (mdY m_X3_signAt)) (b := Cond.selects (mdY m_X3_signAt).cls (mdY m_X3_signAt) (mdY m_X3_signAt)) (c := (Cond.code (mdY m_X3_signAt) (mdB m_X3_signAt) (mdL m_X3_signAt) (mdR m_X3_signAt))) rfl rfl rfl rfl
  ⟨⟨t.2.2, by decide, by decide +kernel, ⟨by decide +kernel, by decide +kernel, by decide +kernel⟩, ini_X3, Or.inr ⟨by decide, t.1, t.2.1, rfl⟩, Or.inr (Or.inl ⟨rfl, rfl⟩)⟩, mTokB_ok (by decide +kernel), rfl, co_X3⟩
set_option maxRecDepth 100000 in
theorem mo_X3_isWord : mMok m_X3_isWord :=
  have t := mGd_3 (i := 457) (a := Cond.instanceMethod (mdY m_X3_isWord)) (b := Cond.selects (mdY m_X3_isWord).cls (mdY m_X3_isWord) (mdY m_X3_isWord)) (c := (Cond.code (mdY m_X3_isWord) (mdB m_X3_isWord) (mdL m_X3_isWord) (mdR m_X3_isWord))) rfl rfl rfl rfl
  ⟨⟨t.2.2, by decide, by decide +kernel, ⟨by decide +kernel, by decide +kernel, by decide +kernel⟩, ini_X3, Or.inr ⟨by decide, t.1, t.2.1, rfl⟩, Or.inr (Or.inr (Or.inl ⟨rfl, rfl⟩))⟩, mTokB_ok (by decide +kernel), rfl, co_X3⟩
set_option maxRecDepth 100000 in
theorem mo_X3_endLine : mMok m_X3_endLine :=
  have t := mGd_3 (i := 575) (a := Cond.instanceMethod (mdY m_X3_endLine)) (b := Cond.selects (mdY m_X3_endLine).cls (mdY m_X3_endLine) (mdY m_X3_endLine)) (c := (Cond.code (mdY m_X3_endLine) (mdB m_X3_endLine) (mdL m_X3_endLine) (mdR m_X3_endLine))) rfl rfl rfl rfl
  ⟨⟨t.2.2, by decide, by decide +kernel, ⟨by decide +kernel, by decide +kernel, by decide +kernel⟩, ini_X3, Or.inr ⟨by decide, t.1, t.2.1, rfl⟩, Or.inl ⟨rfl, rfl⟩⟩, mTokB_ok (by decide +kernel), rfl, co_X3⟩
set_option maxRecDepth 100000 in
theorem mo_X3_takeWord : mMok m_X3_takeWord :=
  have t := mGd_3 (i := 588) (a := Cond.instanceMethod (mdY m_X3_takeWord)) (b := Cond.selects (mdY m_X3_takeWord).cls (mdY m_X3_takeWord) (mdY m_X3_takeWord)) (c := (Cond.code (mdY m_X3_takeWord) (mdB m_X3_takeWord) (mdL m_X3_takeWord) (mdR m_X3_takeWord))) rfl rfl rfl rfl
  ⟨⟨t.2.2, by decide, by decide +kernel, ⟨by decide +kernel, by decide +kernel, by decide +kernel⟩, ini_X3, Or.inr ⟨by decide, t.1, t.2.1, rfl⟩, Or.inl ⟨rfl, rfl⟩⟩, mTokB_ok (by decide +kernel), rfl, co_X3⟩
set_option maxRecDepth 100000 in
theorem mo_X3_takeNumber : mMok m_X3_takeNumber :=
  have t := mGd_3 (i := 513) (a := Cond.instanceMethod (mdY m_X3_takeNumber)) (b := Cond.selects (mdY m_X3_takeNumber).cls (mdY m_X3_takeNumber) (mdY m_X3_takeNumber)) (c := (Cond.code (mdY m_X3_takeNumber) (mdB m_X3_takeNumber) (mdL m_X3_takeNumber) (mdR m_X3_takeNumber))) rfl rfl rfl rfl
  ⟨⟨t.2.2, by decide, by decide +kernel, ⟨by decide +kernel, by decide +kernel, by decide +kernel⟩, ini_X3, Or.inr ⟨by decide, t.1, t.2.1, rfl⟩, Or.inr (Or.inl ⟨rfl, rfl⟩)⟩, mTokB_ok (by decide +kernel), rfl, co_X3⟩
set_option maxRecDepth 100000 in
theorem mo_X3_takeSet : mMok m_X3_takeSet :=
  have t := mGd_3 (i := 610) (a := Cond.instanceMethod (mdY m_X3_takeSet)) (b := Cond.selects (mdY m_X3_takeSet).cls (mdY m_X3_takeSet) (mdY m_X3_takeSet)) (c := (Cond.code (mdY m_X3_takeSet) (mdB m_X3_takeSet) (mdL m_X3_takeSet) (mdR m_X3_takeSet))) rfl rfl rfl rfl
  ⟨⟨t.2.2, by decide, by decide +kernel, ⟨by decide +kernel, by decide +kernel, by decide +kernel⟩, ini_X3, Or.inr ⟨by decide, t.1, t.2.1, rfl⟩, Or.inr (Or.inl ⟨rfl, rfl⟩)⟩, mTokB_ok (by decide +kernel), rfl, co_X3⟩
set_option maxRecDepth 100000 in
theorem mo_X3_readPhase : mMok m_X3_readPhase :=
  have t := mGd_3 (i := 509) (a := Cond.instanceMethod (mdY m_X3_readPhase)) (b := Cond.selects (mdY m_X3_readPhase).cls (mdY m_X3_readPhase) (mdY m_X3_readPhase)) (c := (Cond.code (mdY m_X3_readPhase) (mdB m_X3_readPhase) (mdL m_X3_readPhase) (mdR m_X3_readPhase))) rfl rfl rfl rfl
  ⟨⟨t.2.2, by decide, by decide +kernel, ⟨by decide +kernel, by decide +kernel, by decide +kernel⟩, ini_X3, Or.inr ⟨by decide, t.1, t.2.1, rfl⟩, Or.inl ⟨rfl, rfl⟩⟩, mTokB_ok (by decide +kernel), rfl, co_X3⟩
set_option maxRecDepth 100000 in
theorem mo_X3_readMarks : mMok m_X3_readMarks :=
  have t := mGd_3 (i := 548) (a := Cond.instanceMethod (mdY m_X3_readMarks)) (b := Cond.selects (mdY m_X3_readMarks).cls (mdY m_X3_readMarks) (mdY m_X3_readMarks)) (c := (Cond.code (mdY m_X3_readMarks) (mdB m_X3_readMarks) (mdL m_X3_readMarks) (mdR m_X3_readMarks))) rfl rfl rfl rfl
  ⟨⟨t.2.2, by decide, by decide +kernel, ⟨by decide +kernel, by decide +kernel, by decide +kernel⟩, ini_X3, Or.inr ⟨by decide, t.1, t.2.1, rfl⟩, Or.inl ⟨rfl, rfl⟩⟩, mTokB_ok (by decide +kernel), rfl, co_X3⟩
set_option maxRecDepth 100000 in
theorem mo_X3_markHere : mMok m_X3_markHere :=
  have t := mGd_3 (i := 552) (a := Cond.instanceMethod (mdY m_X3_markHere)) (b := Cond.selects (mdY m_X3_markHere).cls (mdY m_X3_markHere) (mdY m_X3_markHere)) (c := (Cond.code (mdY m_X3_markHere) (mdB m_X3_markHere) (mdL m_X3_markHere) (mdR m_X3_markHere))) rfl rfl rfl rfl
  ⟨⟨t.2.2, by decide, by decide +kernel, ⟨by decide +kernel, by decide +kernel, by decide +kernel⟩, ini_X3, Or.inr ⟨by decide, t.1, t.2.1, rfl⟩, Or.inr (Or.inl ⟨rfl, rfl⟩)⟩, mTokB_ok (by decide +kernel), rfl, co_X3⟩
set_option maxRecDepth 100000 in
theorem mo_X3_wordOf : mMok m_X3_wordOf :=
  have t := mGd_2 (i := 556) (a := Cond.static (mdY m_X3_wordOf)) (b := (Cond.code (mdY m_X3_wordOf) (mdB m_X3_wordOf) (mdL m_X3_wordOf) (mdR m_X3_wordOf))) rfl rfl rfl
  ⟨⟨t.2, by decide, by decide +kernel, ⟨by decide +kernel, by decide +kernel, by decide +kernel⟩, ini_X3, Or.inl ⟨rfl, t.1⟩, Or.inr (Or.inr (Or.inr (Or.inr (Or.inr (⟨rfl, _, rfl⟩)))))⟩, mTokB_ok (by decide +kernel), rfl, co_X3⟩
set_option maxRecDepth 100000 in
theorem mo_X3_tellOnce : mMok m_X3_tellOnce :=
  have t := mGd_3 (i := 584) (a := Cond.instanceMethod (mdY m_X3_tellOnce)) (b := Cond.selects (mdY m_X3_tellOnce).cls (mdY m_X3_tellOnce) (mdY m_X3_tellOnce)) (c := (Cond.code (mdY m_X3_tellOnce) (mdB m_X3_tellOnce) (mdL m_X3_tellOnce) (mdR m_X3_tellOnce))) rfl rfl rfl rfl
  ⟨⟨t.2.2, by decide, by decide +kernel, ⟨by decide +kernel, by decide +kernel, by decide +kernel⟩, ini_X3, Or.inr ⟨by decide, t.1, t.2.1, rfl⟩, Or.inl ⟨rfl, rfl⟩⟩, mTokB_ok (by decide +kernel), rfl, co_X3⟩
set_option maxRecDepth 100000 in
theorem mo_X3_readCycle : mMok m_X3_readCycle :=
  have t := mGd_3 (i := 580) (a := Cond.instanceMethod (mdY m_X3_readCycle)) (b := Cond.selects (mdY m_X3_readCycle).cls (mdY m_X3_readCycle) (mdY m_X3_readCycle)) (c := (Cond.code (mdY m_X3_readCycle) (mdB m_X3_readCycle) (mdL m_X3_readCycle) (mdR m_X3_readCycle))) rfl rfl rfl rfl
  ⟨⟨t.2.2, by decide, by decide +kernel, ⟨by decide +kernel, by decide +kernel, by decide +kernel⟩, ini_X3, Or.inr ⟨by decide, t.1, t.2.1, rfl⟩, Or.inl ⟨rfl, rfl⟩⟩, mTokB_ok (by decide +kernel), rfl, co_X3⟩
set_option maxRecDepth 100000 in
theorem mo_X3_readOffset : mMok m_X3_readOffset :=
  have t := mGd_3 (i := 596) (a := Cond.instanceMethod (mdY m_X3_readOffset)) (b := Cond.selects (mdY m_X3_readOffset).cls (mdY m_X3_readOffset) (mdY m_X3_readOffset)) (c := (Cond.code (mdY m_X3_readOffset) (mdB m_X3_readOffset) (mdL m_X3_readOffset) (mdR m_X3_readOffset))) rfl rfl rfl rfl
  ⟨⟨t.2.2, by decide, by decide +kernel, ⟨by decide +kernel, by decide +kernel, by decide +kernel⟩, ini_X3, Or.inr ⟨by decide, t.1, t.2.1, rfl⟩, Or.inl ⟨rfl, rfl⟩⟩, mTokB_ok (by decide +kernel), rfl, co_X3⟩
set_option maxRecDepth 100000 in
theorem mo_X3_readBreak : mMok m_X3_readBreak :=
  have t := mGd_3 (i := 601) (a := Cond.instanceMethod (mdY m_X3_readBreak)) (b := Cond.selects (mdY m_X3_readBreak).cls (mdY m_X3_readBreak) (mdY m_X3_readBreak)) (c := (Cond.code (mdY m_X3_readBreak) (mdB m_X3_readBreak) (mdL m_X3_readBreak) (mdR m_X3_readBreak))) rfl rfl rfl rfl
  ⟨⟨t.2.2, by decide, by decide +kernel, ⟨by decide +kernel, by decide +kernel, by decide +kernel⟩, ini_X3, Or.inr ⟨by decide, t.1, t.2.1, rfl⟩, Or.inl ⟨rfl, rfl⟩⟩, mTokB_ok (by decide +kernel), rfl, co_X3⟩
set_option maxRecDepth 100000 in
theorem mo_X4_takeFrom : mMok m_X4_takeFrom :=
  have t := mGd_3 (i := 1044) (a := Cond.instanceMethod (mdY m_X4_takeFrom)) (b := Cond.selects (mdY m_X4_takeFrom).cls (mdY m_X4_takeFrom) (mdY m_X4_takeFrom)) (c := (Cond.code (mdY m_X4_takeFrom) (mdB m_X4_takeFrom) (mdL m_X4_takeFrom) (mdR m_X4_takeFrom))) rfl rfl rfl rfl
  ⟨⟨t.2.2, by decide, by decide +kernel, ⟨by decide +kernel, by decide +kernel, by decide +kernel⟩, ini_X4, Or.inr ⟨by decide, t.1, t.2.1, rfl⟩, Or.inl ⟨rfl, rfl⟩⟩, mTokB_ok (by decide +kernel), rfl, co_X4⟩
set_option maxRecDepth 100000 in
theorem mo_X4_holds : mMok m_X4_holds :=
  have t := mGd_3 (i := 911) (a := Cond.instanceMethod (mdY m_X4_holds)) (b := Cond.selects (mdY m_X4_holds).cls (mdY m_X4_holds) (mdY m_X4_holds)) (c := (Cond.code (mdY m_X4_holds) (mdB m_X4_holds) (mdL m_X4_holds) (mdR m_X4_holds))) rfl rfl rfl rfl
  ⟨⟨t.2.2, by decide, by decide +kernel, ⟨by decide +kernel, by decide +kernel, by decide +kernel⟩, ini_X4, Or.inr ⟨by decide, t.1, t.2.1, rfl⟩, Or.inr (Or.inr (Or.inl ⟨rfl, rfl⟩))⟩, mTokB_ok (by decide +kernel), rfl, co_X4⟩
set_option maxRecDepth 100000 in
theorem mo_X4_isGreen : mMok m_X4_isGreen :=
  have t := mGd_3 (i := 695) (a := Cond.instanceMethod (mdY m_X4_isGreen)) (b := Cond.selects (mdY m_X4_isGreen).cls (mdY m_X4_isGreen) (mdY m_X4_isGreen)) (c := (Cond.code (mdY m_X4_isGreen) (mdB m_X4_isGreen) (mdL m_X4_isGreen) (mdR m_X4_isGreen))) rfl rfl rfl rfl
  ⟨⟨t.2.2, by decide, by decide +kernel, ⟨by decide +kernel, by decide +kernel, by decide +kernel⟩, ini_X4, Or.inr ⟨by decide, t.1, t.2.1, rfl⟩, Or.inr (Or.inr (Or.inl ⟨rfl, rfl⟩))⟩, mTokB_ok (by decide +kernel), rfl, co_X4⟩
set_option maxRecDepth 100000 in
theorem mo_X4_waitFor : mMok m_X4_waitFor :=
  have t := mGd_3 (i := 671) (a := Cond.instanceMethod (mdY m_X4_waitFor)) (b := Cond.selects (mdY m_X4_waitFor).cls (mdY m_X4_waitFor) (mdY m_X4_waitFor)) (c := (Cond.code (mdY m_X4_waitFor) (mdB m_X4_waitFor) (mdL m_X4_waitFor) (mdR m_X4_waitFor))) rfl rfl rfl rfl
  ⟨⟨t.2.2, by decide, by decide +kernel, ⟨by decide +kernel, by decide +kernel, by decide +kernel⟩, ini_X4, Or.inr ⟨by decide, t.1, t.2.1, rfl⟩, Or.inl ⟨rfl, rfl⟩⟩, mTokB_ok (by decide +kernel), rfl, co_X4⟩
set_option maxRecDepth 100000 in
theorem mo_X4_turnGreen : mMok m_X4_turnGreen :=
  have t := mGd_3 (i := 967) (a := Cond.instanceMethod (mdY m_X4_turnGreen)) (b := Cond.selects (mdY m_X4_turnGreen).cls (mdY m_X4_turnGreen) (mdY m_X4_turnGreen)) (c := (Cond.code (mdY m_X4_turnGreen) (mdB m_X4_turnGreen) (mdL m_X4_turnGreen) (mdR m_X4_turnGreen))) rfl rfl rfl rfl
  ⟨⟨t.2.2, by decide, by decide +kernel, ⟨by decide +kernel, by decide +kernel, by decide +kernel⟩, ini_X4, Or.inr ⟨by decide, t.1, t.2.1, rfl⟩, Or.inl ⟨rfl, rfl⟩⟩, mTokB_ok (by decide +kernel), rfl, co_X4⟩
set_option maxRecDepth 100000 in
theorem mo_X4_turnYellow : mMok m_X4_turnYellow :=
  have t := mGd_3 (i := 959) (a := Cond.instanceMethod (mdY m_X4_turnYellow)) (b := Cond.selects (mdY m_X4_turnYellow).cls (mdY m_X4_turnYellow) (mdY m_X4_turnYellow)) (c := (Cond.code (mdY m_X4_turnYellow) (mdB m_X4_turnYellow) (mdL m_X4_turnYellow) (mdR m_X4_turnYellow))) rfl rfl rfl rfl
  ⟨⟨t.2.2, by decide, by decide +kernel, ⟨by decide +kernel, by decide +kernel, by decide +kernel⟩, ini_X4, Or.inr ⟨by decide, t.1, t.2.1, rfl⟩, Or.inl ⟨rfl, rfl⟩⟩, mTokB_ok (by decide +kernel), rfl, co_X4⟩
set_option maxRecDepth 100000 in
theorem mo_X4_growDark : mMok m_X4_growDark :=
  have t := mGd_3 (i := 928) (a := Cond.instanceMethod (mdY m_X4_growDark)) (b := Cond.selects (mdY m_X4_growDark).cls (mdY m_X4_growDark) (mdY m_X4_growDark)) (c := (Cond.code (mdY m_X4_growDark) (mdB m_X4_growDark) (mdL m_X4_growDark) (mdR m_X4_growDark))) rfl rfl rfl rfl
  ⟨⟨t.2.2, by decide, by decide +kernel, ⟨by decide +kernel, by decide +kernel, by decide +kernel⟩, ini_X4, Or.inr ⟨by decide, t.1, t.2.1, rfl⟩, Or.inl ⟨rfl, rfl⟩⟩, mTokB_ok (by decide +kernel), rfl, co_X4⟩
set_option maxRecDepth 100000 in
theorem mo_X4_walkOn : mMok m_X4_walkOn :=
  have t := mGd_3 (i := 924) (a := Cond.instanceMethod (mdY m_X4_walkOn)) (b := Cond.selects (mdY m_X4_walkOn).cls (mdY m_X4_walkOn) (mdY m_X4_walkOn)) (c := (Cond.code (mdY m_X4_walkOn) (mdB m_X4_walkOn) (mdL m_X4_walkOn) (mdR m_X4_walkOn))) rfl rfl rfl rfl
  ⟨⟨t.2.2, by decide, by decide +kernel, ⟨by decide +kernel, by decide +kernel, by decide +kernel⟩, ini_X4, Or.inr ⟨by decide, t.1, t.2.1, rfl⟩, Or.inl ⟨rfl, rfl⟩⟩, mTokB_ok (by decide +kernel), rfl, co_X4⟩
set_option maxRecDepth 100000 in
theorem mo_X5_status : mMok m_X5_status :=
  have t := mGd_3 (i := 398) (a := Cond.instanceMethod (mdY m_X5_status)) (b := Cond.selects (mdY m_X5_status).cls (mdY m_X5_status) (mdY m_X5_status)) (c := (Cond.code (mdY m_X5_status) (mdB m_X5_status) (mdL m_X5_status) (mdR m_X5_status))) rfl rfl rfl rfl
  ⟨⟨t.2.2, by decide, by decide +kernel, ⟨by decide +kernel, by decide +kernel, by decide +kernel⟩, ini_X5, Or.inr ⟨by decide, t.1, t.2.1, rfl⟩, Or.inr (Or.inl ⟨rfl, rfl⟩)⟩, mTokB_ok (by decide +kernel), rfl, co_X5⟩
set_option maxRecDepth 100000 in
theorem mo_X5_feed : mMok m_X5_feed :=
  have t := mGd_3 (i := 402) (a := Cond.instanceMethod (mdY m_X5_feed)) (b := Cond.selects (mdY m_X5_feed).cls (mdY m_X5_feed) (mdY m_X5_feed)) (c := (Cond.code (mdY m_X5_feed) (mdB m_X5_feed) (mdL m_X5_feed) (mdR m_X5_feed))) rfl rfl rfl rfl
  ⟨⟨t.2.2, by decide, by decide +kernel, ⟨by decide +kernel, by decide +kernel, by decide +kernel⟩, ini_X5, Or.inr ⟨by decide, t.1, t.2.1, rfl⟩, Or.inr (Or.inl ⟨rfl, rfl⟩)⟩, mTokB_ok (by decide +kernel), rfl, co_X5⟩
set_option maxRecDepth 100000 in
theorem mo_X5_load : mMok m_X5_load :=
  have t := mGd_3 (i := 414) (a := Cond.instanceMethod (mdY m_X5_load)) (b := Cond.selects (mdY m_X5_load).cls (mdY m_X5_load) (mdY m_X5_load)) (c := (Cond.code (mdY m_X5_load) (mdB m_X5_load) (mdL m_X5_load) (mdR m_X5_load))) rfl rfl rfl rfl
  ⟨⟨t.2.2, by decide, by decide +kernel, ⟨by decide +kernel, by decide +kernel, by decide +kernel⟩, ini_X5, Or.inr ⟨by decide, t.1, t.2.1, rfl⟩, Or.inr (Or.inl ⟨rfl, rfl⟩)⟩, mTokB_ok (by decide +kernel), rfl, co_X5⟩
set_option maxRecDepth 100000 in
theorem mo_X5_fault : mMok m_X5_fault :=
  have t := mGd_3 (i := 679) (a := Cond.instanceMethod (mdY m_X5_fault)) (b := Cond.selects (mdY m_X5_fault).cls (mdY m_X5_fault) (mdY m_X5_fault)) (c := (Cond.code (mdY m_X5_fault) (mdB m_X5_fault) (mdL m_X5_fault) (mdR m_X5_fault))) rfl rfl rfl rfl
  ⟨⟨t.2.2, by decide, by decide +kernel, ⟨by decide +kernel, by decide +kernel, by decide +kernel⟩, ini_X5, Or.inr ⟨by decide, t.1, t.2.1, rfl⟩, Or.inr (Or.inl ⟨rfl, rfl⟩)⟩, mTokB_ok (by decide +kernel), rfl, co_X5⟩
set_option maxRecDepth 100000 in
theorem mo_X5_many : mMok m_X5_many :=
  have t := mGd_3 (i := 683) (a := Cond.instanceMethod (mdY m_X5_many)) (b := Cond.selects (mdY m_X5_many).cls (mdY m_X5_many) (mdY m_X5_many)) (c := (Cond.code (mdY m_X5_many) (mdB m_X5_many) (mdL m_X5_many) (mdR m_X5_many))) rfl rfl rfl rfl
  ⟨⟨t.2.2, by decide, by decide +kernel, ⟨by decide +kernel, by decide +kernel, by decide +kernel⟩, ini_X5, Or.inr ⟨by decide, t.1, t.2.1, rfl⟩, Or.inr (Or.inl ⟨rfl, rfl⟩)⟩, mTokB_ok (by decide +kernel), rfl, co_X5⟩
set_option maxRecDepth 100000 in
theorem mo_X5_ring : mMok m_X5_ring :=
  have t := mGd_3 (i := 687) (a := Cond.instanceMethod (mdY m_X5_ring)) (b := Cond.selects (mdY m_X5_ring).cls (mdY m_X5_ring) (mdY m_X5_ring)) (c := (Cond.code (mdY m_X5_ring) (mdB m_X5_ring) (mdL m_X5_ring) (mdR m_X5_ring))) rfl rfl rfl rfl
  ⟨⟨t.2.2, by decide, by decide +kernel, ⟨by decide +kernel, by decide +kernel, by decide +kernel⟩, ini_X5, Or.inr ⟨by decide, t.1, t.2.1, rfl⟩, Or.inr (Or.inl ⟨rfl, rfl⟩)⟩, mTokB_ok (by decide +kernel), rfl, co_X5⟩
set_option maxRecDepth 100000 in
theorem mo_X5_phase : mMok m_X5_phase :=
  have t := mGd_3 (i := 724) (a := Cond.instanceMethod (mdY m_X5_phase)) (b := Cond.selects (mdY m_X5_phase).cls (mdY m_X5_phase) (mdY m_X5_phase)) (c := (Cond.code (mdY m_X5_phase) (mdB m_X5_phase) (mdL m_X5_phase) (mdR m_X5_phase))) rfl rfl rfl rfl
  ⟨⟨t.2.2, by decide, by decide +kernel, ⟨by decide +kernel, by decide +kernel, by decide +kernel⟩, ini_X5, Or.inr ⟨by decide, t.1, t.2.1, rfl⟩, Or.inr (Or.inl ⟨rfl, rfl⟩)⟩, mTokB_ok (by decide +kernel), rfl, co_X5⟩
set_option maxRecDepth 100000 in
theorem mo_X5_marked : mMok m_X5_marked :=
  have t := mGd_3 (i := 751) (a := Cond.instanceMethod (mdY m_X5_marked)) (b := Cond.selects (mdY m_X5_marked).cls (mdY m_X5_marked) (mdY m_X5_marked)) (c := (Cond.code (mdY m_X5_marked) (mdB m_X5_marked) (mdL m_X5_marked) (mdR m_X5_marked))) rfl rfl rfl rfl
  ⟨⟨t.2.2, by decide, by decide +kernel, ⟨by decide +kernel, by decide +kernel, by decide +kernel⟩, ini_X5, Or.inr ⟨by decide, t.1, t.2.1, rfl⟩, Or.inr (Or.inl ⟨rfl, rfl⟩)⟩, mTokB_ok (by decide +kernel), rfl, co_X5⟩
set_option maxRecDepth 100000 in
theorem mo_X5_brake : mMok m_X5_brake :=
  have t := mGd_3 (i := 756) (a := Cond.instanceMethod (mdY m_X5_brake)) (b := Cond.selects (mdY m_X5_brake).cls (mdY m_X5_brake) (mdY m_X5_brake)) (c := (Cond.code (mdY m_X5_brake) (mdB m_X5_brake) (mdL m_X5_brake) (mdR m_X5_brake))) rfl rfl rfl rfl
  ⟨⟨t.2.2, by decide, by decide +kernel, ⟨by decide +kernel, by decide +kernel, by decide +kernel⟩, ini_X5, Or.inr ⟨by decide, t.1, t.2.1, rfl⟩, Or.inr (Or.inl ⟨rfl, rfl⟩)⟩, mTokB_ok (by decide +kernel), rfl, co_X5⟩
set_option maxRecDepth 100000 in
theorem mo_X5_sum : mMok m_X5_sum :=
  have t := mGd_3 (i := 766) (a := Cond.instanceMethod (mdY m_X5_sum)) (b := Cond.selects (mdY m_X5_sum).cls (mdY m_X5_sum) (mdY m_X5_sum)) (c := (Cond.code (mdY m_X5_sum) (mdB m_X5_sum) (mdL m_X5_sum) (mdR m_X5_sum))) rfl rfl rfl rfl
  ⟨⟨t.2.2, by decide, by decide +kernel, ⟨by decide +kernel, by decide +kernel, by decide +kernel⟩, ini_X5, Or.inr ⟨by decide, t.1, t.2.1, rfl⟩, Or.inr (Or.inl ⟨rfl, rfl⟩)⟩, mTokB_ok (by decide +kernel), rfl, co_X5⟩
set_option maxRecDepth 100000 in
theorem mo_X5_event : mMok m_X5_event :=
  have t := mGd_3 (i := 794) (a := Cond.instanceMethod (mdY m_X5_event)) (b := Cond.selects (mdY m_X5_event).cls (mdY m_X5_event) (mdY m_X5_event)) (c := (Cond.code (mdY m_X5_event) (mdB m_X5_event) (mdL m_X5_event) (mdR m_X5_event))) rfl rfl rfl rfl
  ⟨⟨t.2.2, by decide, by decide +kernel, ⟨by decide +kernel, by decide +kernel, by decide +kernel⟩, ini_X5, Or.inr ⟨by decide, t.1, t.2.1, rfl⟩, Or.inr (Or.inl ⟨rfl, rfl⟩)⟩, mTokB_ok (by decide +kernel), rfl, co_X5⟩
set_option maxRecDepth 100000 in
theorem mo_X5_mark : mMok m_X5_mark :=
  have t := mGd_3 (i := 804) (a := Cond.instanceMethod (mdY m_X5_mark)) (b := Cond.selects (mdY m_X5_mark).cls (mdY m_X5_mark) (mdY m_X5_mark)) (c := (Cond.code (mdY m_X5_mark) (mdB m_X5_mark) (mdL m_X5_mark) (mdR m_X5_mark))) rfl rfl rfl rfl
  ⟨⟨t.2.2, by decide, by decide +kernel, ⟨by decide +kernel, by decide +kernel, by decide +kernel⟩, ini_X5, Or.inr ⟨by decide, t.1, t.2.1, rfl⟩, Or.inr (Or.inl ⟨rfl, rfl⟩)⟩, mTokB_ok (by decide +kernel), rfl, co_X5⟩
set_option maxRecDepth 100000 in
theorem mo_X5_clock : mMok m_X5_clock :=
  have t := mGd_3 (i := 812) (a := Cond.instanceMethod (mdY m_X5_clock)) (b := Cond.selects (mdY m_X5_clock).cls (mdY m_X5_clock) (mdY m_X5_clock)) (c := (Cond.code (mdY m_X5_clock) (mdB m_X5_clock) (mdL m_X5_clock) (mdR m_X5_clock))) rfl rfl rfl rfl
  ⟨⟨t.2.2, by decide, by decide +kernel, ⟨by decide +kernel, by decide +kernel, by decide +kernel⟩, ini_X5, Or.inr ⟨by decide, t.1, t.2.1, rfl⟩, Or.inr (Or.inl ⟨rfl, rfl⟩)⟩, mTokB_ok (by decide +kernel), rfl, co_X5⟩
set_option maxRecDepth 100000 in
theorem mo_X5_call : mMok m_X5_call :=
  have t := mGd_3 (i := 824) (a := Cond.instanceMethod (mdY m_X5_call)) (b := Cond.selects (mdY m_X5_call).cls (mdY m_X5_call) (mdY m_X5_call)) (c := (Cond.code (mdY m_X5_call) (mdB m_X5_call) (mdL m_X5_call) (mdR m_X5_call))) rfl rfl rfl rfl
  ⟨⟨t.2.2, by decide, by decide +kernel, ⟨by decide +kernel, by decide +kernel, by decide +kernel⟩, ini_X5, Or.inr ⟨by decide, t.1, t.2.1, rfl⟩, Or.inr (Or.inr (Or.inl ⟨rfl, rfl⟩))⟩, mTokB_ok (by decide +kernel), rfl, co_X5⟩
set_option maxRecDepth 100000 in
theorem mo_X5_come : mMok m_X5_come :=
  have t := mGd_3 (i := 844) (a := Cond.instanceMethod (mdY m_X5_come)) (b := Cond.selects (mdY m_X5_come).cls (mdY m_X5_come) (mdY m_X5_come)) (c := (Cond.code (mdY m_X5_come) (mdB m_X5_come) (mdL m_X5_come) (mdR m_X5_come))) rfl rfl rfl rfl
  ⟨⟨t.2.2, by decide, by decide +kernel, ⟨by decide +kernel, by decide +kernel, by decide +kernel⟩, ini_X5, Or.inr ⟨by decide, t.1, t.2.1, rfl⟩, Or.inr (Or.inl ⟨rfl, rfl⟩)⟩, mTokB_ok (by decide +kernel), rfl, co_X5⟩
set_option maxRecDepth 100000 in
theorem mo_X5_ask : mMok m_X5_ask :=
  have t := mGd_3 (i := 854) (a := Cond.instanceMethod (mdY m_X5_ask)) (b := Cond.selects (mdY m_X5_ask).cls (mdY m_X5_ask) (mdY m_X5_ask)) (c := (Cond.code (mdY m_X5_ask) (mdB m_X5_ask) (mdL m_X5_ask) (mdR m_X5_ask))) rfl rfl rfl rfl
  ⟨⟨t.2.2, by decide, by decide +kernel, ⟨by decide +kernel, by decide +kernel, by decide +kernel⟩, ini_X5, Or.inr ⟨by decide, t.1, t.2.1, rfl⟩, Or.inr (Or.inr (Or.inl ⟨rfl, rfl⟩))⟩, mTokB_ok (by decide +kernel), rfl, co_X5⟩
set_option maxRecDepth 100000 in
theorem mo_X5_let : mMok m_X5_let :=
  have t := mGd_3 (i := 858) (a := Cond.instanceMethod (mdY m_X5_let)) (b := Cond.selects (mdY m_X5_let).cls (mdY m_X5_let) (mdY m_X5_let)) (c := (Cond.code (mdY m_X5_let) (mdB m_X5_let) (mdL m_X5_let) (mdR m_X5_let))) rfl rfl rfl rfl
  ⟨⟨t.2.2, by decide, by decide +kernel, ⟨by decide +kernel, by decide +kernel, by decide +kernel⟩, ini_X5, Or.inr ⟨by decide, t.1, t.2.1, rfl⟩, Or.inr (Or.inr (Or.inl ⟨rfl, rfl⟩))⟩, mTokB_ok (by decide +kernel), rfl, co_X5⟩
set_option maxRecDepth 100000 in
theorem mo_X5_brakes : mMok m_X5_brakes :=
  have t := mGd_3 (i := 862) (a := Cond.instanceMethod (mdY m_X5_brakes)) (b := Cond.selects (mdY m_X5_brakes).cls (mdY m_X5_brakes) (mdY m_X5_brakes)) (c := (Cond.code (mdY m_X5_brakes) (mdB m_X5_brakes) (mdL m_X5_brakes) (mdR m_X5_brakes))) rfl rfl rfl rfl
  ⟨⟨t.2.2, by decide, by decide +kernel, ⟨by decide +kernel, by decide +kernel, by decide +kernel⟩, ini_X5, Or.inr ⟨by decide, t.1, t.2.1, rfl⟩, Or.inr (Or.inr (Or.inl ⟨rfl, rfl⟩))⟩, mTokB_ok (by decide +kernel), rfl, co_X5⟩
set_option maxRecDepth 100000 in
theorem mo_X5_stick : mMok m_X5_stick :=
  have t := mGd_3 (i := 872) (a := Cond.instanceMethod (mdY m_X5_stick)) (b := Cond.selects (mdY m_X5_stick).cls (mdY m_X5_stick) (mdY m_X5_stick)) (c := (Cond.code (mdY m_X5_stick) (mdB m_X5_stick) (mdL m_X5_stick) (mdR m_X5_stick))) rfl rfl rfl rfl
  ⟨⟨t.2.2, by decide, by decide +kernel, ⟨by decide +kernel, by decide +kernel, by decide +kernel⟩, ini_X5, Or.inr ⟨by decide, t.1, t.2.1, rfl⟩, Or.inr (Or.inr (Or.inl ⟨rfl, rfl⟩))⟩, mTokB_ok (by decide +kernel), rfl, co_X5⟩
set_option maxRecDepth 100000 in
theorem mo_X5_reset : mMok m_X5_reset :=
  have t := mGd_3 (i := 877) (a := Cond.instanceMethod (mdY m_X5_reset)) (b := Cond.selects (mdY m_X5_reset).cls (mdY m_X5_reset) (mdY m_X5_reset)) (c := (Cond.code (mdY m_X5_reset) (mdB m_X5_reset) (mdL m_X5_reset) (mdR m_X5_reset))) rfl rfl rfl rfl
  ⟨⟨t.2.2, by decide, by decide +kernel, ⟨by decide +kernel, by decide +kernel, by decide +kernel⟩, ini_X5, Or.inr ⟨by decide, t.1, t.2.1, rfl⟩, Or.inr (Or.inr (Or.inl ⟨rfl, rfl⟩))⟩, mTokB_ok (by decide +kernel), rfl, co_X5⟩
set_option maxRecDepth 100000 in
theorem mo_X5_tick : mMok m_X5_tick :=
  have t := mGd_3 (i := 887) (a := Cond.instanceMethod (mdY m_X5_tick)) (b := Cond.selects (mdY m_X5_tick).cls (mdY m_X5_tick) (mdY m_X5_tick)) (c := (Cond.code (mdY m_X5_tick) (mdB m_X5_tick) (mdL m_X5_tick) (mdR m_X5_tick))) rfl rfl rfl rfl
  ⟨⟨t.2.2, by decide, by decide +kernel, ⟨by decide +kernel, by decide +kernel, by decide +kernel⟩, ini_X5, Or.inr ⟨by decide, t.1, t.2.1, rfl⟩, Or.inr (Or.inl ⟨rfl, rfl⟩)⟩, mTokB_ok (by decide +kernel), rfl, co_X5⟩
set_option maxRecDepth 100000 in
theorem mo_X5_run : mMok m_X5_run :=
  have t := mGd_3 (i := 1018) (a := Cond.instanceMethod (mdY m_X5_run)) (b := Cond.selects (mdY m_X5_run).cls (mdY m_X5_run) (mdY m_X5_run)) (c := (Cond.code (mdY m_X5_run) (mdB m_X5_run) (mdL m_X5_run) (mdR m_X5_run))) rfl rfl rfl rfl
  ⟨⟨t.2.2, by decide, by decide +kernel, ⟨by decide +kernel, by decide +kernel, by decide +kernel⟩, ini_X5, Or.inr ⟨by decide, t.1, t.2.1, rfl⟩, Or.inr (Or.inl ⟨rfl, rfl⟩)⟩, mTokB_ok (by decide +kernel), rfl, co_X5⟩
set_option maxRecDepth 100000 in
theorem mo_X5_keep : mMok m_X5_keep :=
  have t := mGd_3 (i := 1031) (a := Cond.instanceMethod (mdY m_X5_keep)) (b := Cond.selects (mdY m_X5_keep).cls (mdY m_X5_keep) (mdY m_X5_keep)) (c := (Cond.code (mdY m_X5_keep) (mdB m_X5_keep) (mdL m_X5_keep) (mdR m_X5_keep))) rfl rfl rfl rfl
  ⟨⟨t.2.2, by decide, by decide +kernel, ⟨by decide +kernel, by decide +kernel, by decide +kernel⟩, ini_X5, Or.inr ⟨by decide, t.1, t.2.1, rfl⟩, Or.inr (Or.inl ⟨rfl, rfl⟩)⟩, mTokB_ok (by decide +kernel), rfl, co_X5⟩
set_option maxRecDepth 100000 in
theorem mo_X5_back : mMok m_X5_back :=
  have t := mGd_3 (i := 1054) (a := Cond.instanceMethod (mdY m_X5_back)) (b := Cond.selects (mdY m_X5_back).cls (mdY m_X5_back) (mdY m_X5_back)) (c := (Cond.code (mdY m_X5_back) (mdB m_X5_back) (mdL m_X5_back) (mdR m_X5_back))) rfl rfl rfl rfl
  ⟨⟨t.2.2, by decide, by decide +kernel, ⟨by decide +kernel, by decide +kernel, by decide +kernel⟩, ini_X5, Or.inr ⟨by decide, t.1, t.2.1, rfl⟩, Or.inr (Or.inl ⟨rfl, rfl⟩)⟩, mTokB_ok (by decide +kernel), rfl, co_X5⟩
set_option maxRecDepth 100000 in
theorem mo_X5_foes : mMok m_X5_foes :=
  have t := mGd_3 (i := 1058) (a := Cond.instanceMethod (mdY m_X5_foes)) (b := Cond.selects (mdY m_X5_foes).cls (mdY m_X5_foes) (mdY m_X5_foes)) (c := (Cond.code (mdY m_X5_foes) (mdB m_X5_foes) (mdL m_X5_foes) (mdR m_X5_foes))) rfl rfl rfl rfl
  ⟨⟨t.2.2, by decide, by decide +kernel, ⟨by decide +kernel, by decide +kernel, by decide +kernel⟩, ini_X5, Or.inr ⟨by decide, t.1, t.2.1, rfl⟩, Or.inr (Or.inl ⟨rfl, rfl⟩)⟩, mTokB_ok (by decide +kernel), rfl, co_X5⟩
set_option maxRecDepth 100000 in
theorem mo_X5_sets : mMok m_X5_sets :=
  have t := mGd_3 (i := 1063) (a := Cond.instanceMethod (mdY m_X5_sets)) (b := Cond.selects (mdY m_X5_sets).cls (mdY m_X5_sets) (mdY m_X5_sets)) (c := (Cond.code (mdY m_X5_sets) (mdB m_X5_sets) (mdL m_X5_sets) (mdR m_X5_sets))) rfl rfl rfl rfl
  ⟨⟨t.2.2, by decide, by decide +kernel, ⟨by decide +kernel, by decide +kernel, by decide +kernel⟩, ini_X5, Or.inr ⟨by decide, t.1, t.2.1, rfl⟩, Or.inr (Or.inl ⟨rfl, rfl⟩)⟩, mTokB_ok (by decide +kernel), rfl, co_X5⟩
set_option maxRecDepth 100000 in
theorem mo_X5_when : mMok m_X5_when :=
  have t := mGd_3 (i := 1076) (a := Cond.instanceMethod (mdY m_X5_when)) (b := Cond.selects (mdY m_X5_when).cls (mdY m_X5_when) (mdY m_X5_when)) (c := (Cond.code (mdY m_X5_when) (mdB m_X5_when) (mdL m_X5_when) (mdR m_X5_when))) rfl rfl rfl rfl
  ⟨⟨t.2.2, by decide, by decide +kernel, ⟨by decide +kernel, by decide +kernel, by decide +kernel⟩, ini_X5, Or.inr ⟨by decide, t.1, t.2.1, rfl⟩, Or.inr (Or.inl ⟨rfl, rfl⟩)⟩, mTokB_ok (by decide +kernel), rfl, co_X5⟩
set_option maxRecDepth 100000 in
theorem mo_X5_worst : mMok m_X5_worst :=
  have t := mGd_3 (i := 1093) (a := Cond.instanceMethod (mdY m_X5_worst)) (b := Cond.selects (mdY m_X5_worst).cls (mdY m_X5_worst) (mdY m_X5_worst)) (c := (Cond.code (mdY m_X5_worst) (mdB m_X5_worst) (mdL m_X5_worst) (mdR m_X5_worst))) rfl rfl rfl rfl
  ⟨⟨t.2.2, by decide, by decide +kernel, ⟨by decide +kernel, by decide +kernel, by decide +kernel⟩, ini_X5, Or.inr ⟨by decide, t.1, t.2.1, rfl⟩, Or.inr (Or.inl ⟨rfl, rfl⟩)⟩, mTokB_ok (by decide +kernel), rfl, co_X5⟩
set_option maxRecDepth 100000 in
theorem mo_X5_cleared : mMok m_X5_cleared :=
  have t := mGd_3 (i := 1097) (a := Cond.instanceMethod (mdY m_X5_cleared)) (b := Cond.selects (mdY m_X5_cleared).cls (mdY m_X5_cleared) (mdY m_X5_cleared)) (c := (Cond.code (mdY m_X5_cleared) (mdB m_X5_cleared) (mdL m_X5_cleared) (mdR m_X5_cleared))) rfl rfl rfl rfl
  ⟨⟨t.2.2, by decide, by decide +kernel, ⟨by decide +kernel, by decide +kernel, by decide +kernel⟩, ini_X5, Or.inr ⟨by decide, t.1, t.2.1, rfl⟩, Or.inr (Or.inl ⟨rfl, rfl⟩)⟩, mTokB_ok (by decide +kernel), rfl, co_X5⟩
set_option maxRecDepth 100000 in
theorem mo_X5_instep : mMok m_X5_instep :=
  have t := mGd_3 (i := 1101) (a := Cond.instanceMethod (mdY m_X5_instep)) (b := Cond.selects (mdY m_X5_instep).cls (mdY m_X5_instep) (mdY m_X5_instep)) (c := (Cond.code (mdY m_X5_instep) (mdB m_X5_instep) (mdL m_X5_instep) (mdR m_X5_instep))) rfl rfl rfl rfl
  ⟨⟨t.2.2, by decide, by decide +kernel, ⟨by decide +kernel, by decide +kernel, by decide +kernel⟩, ini_X5, Or.inr ⟨by decide, t.1, t.2.1, rfl⟩, Or.inr (Or.inl ⟨rfl, rfl⟩)⟩, mTokB_ok (by decide +kernel), rfl, co_X5⟩
set_option maxRecDepth 100000 in
theorem mo_X5_broken : mMok m_X5_broken :=
  have t := mGd_3 (i := 1105) (a := Cond.instanceMethod (mdY m_X5_broken)) (b := Cond.selects (mdY m_X5_broken).cls (mdY m_X5_broken) (mdY m_X5_broken)) (c := (Cond.code (mdY m_X5_broken) (mdB m_X5_broken) (mdL m_X5_broken) (mdR m_X5_broken))) rfl rfl rfl rfl
  ⟨⟨t.2.2, by decide, by decide +kernel, ⟨by decide +kernel, by decide +kernel, by decide +kernel⟩, ini_X5, Or.inr ⟨by decide, t.1, t.2.1, rfl⟩, Or.inr (Or.inl ⟨rfl, rfl⟩)⟩, mTokB_ok (by decide +kernel), rfl, co_X5⟩
set_option maxRecDepth 100000 in
theorem mo_X5_paper : mMok m_X5_paper :=
  have t := mGd_3 (i := 1109) (a := Cond.instanceMethod (mdY m_X5_paper)) (b := Cond.selects (mdY m_X5_paper).cls (mdY m_X5_paper) (mdY m_X5_paper)) (c := (Cond.code (mdY m_X5_paper) (mdB m_X5_paper) (mdL m_X5_paper) (mdR m_X5_paper))) rfl rfl rfl rfl
  ⟨⟨t.2.2, by decide, by decide +kernel, ⟨by decide +kernel, by decide +kernel, by decide +kernel⟩, ini_X5, Or.inr ⟨by decide, t.1, t.2.1, rfl⟩, Or.inr (Or.inl ⟨rfl, rfl⟩)⟩, mTokB_ok (by decide +kernel), rfl, co_X5⟩
set_option maxRecDepth 100000 in
theorem mo_X5_bestMax : mMok m_X5_bestMax :=
  have t := mGd_3 (i := 1113) (a := Cond.instanceMethod (mdY m_X5_bestMax)) (b := Cond.selects (mdY m_X5_bestMax).cls (mdY m_X5_bestMax) (mdY m_X5_bestMax)) (c := (Cond.code (mdY m_X5_bestMax) (mdB m_X5_bestMax) (mdL m_X5_bestMax) (mdR m_X5_bestMax))) rfl rfl rfl rfl
  ⟨⟨t.2.2, by decide, by decide +kernel, ⟨by decide +kernel, by decide +kernel, by decide +kernel⟩, ini_X5, Or.inr ⟨by decide, t.1, t.2.1, rfl⟩, Or.inr (Or.inl ⟨rfl, rfl⟩)⟩, mTokB_ok (by decide +kernel), rfl, co_X5⟩
set_option maxRecDepth 100000 in
theorem mo_X5_cheapest : mMok m_X5_cheapest :=
  have t := mGd_3 (i := 1117) (a := Cond.instanceMethod (mdY m_X5_cheapest)) (b := Cond.selects (mdY m_X5_cheapest).cls (mdY m_X5_cheapest) (mdY m_X5_cheapest)) (c := (Cond.code (mdY m_X5_cheapest) (mdB m_X5_cheapest) (mdL m_X5_cheapest) (mdR m_X5_cheapest))) rfl rfl rfl rfl
  ⟨⟨t.2.2, by decide, by decide +kernel, ⟨by decide +kernel, by decide +kernel, by decide +kernel⟩, ini_X5, Or.inr ⟨by decide, t.1, t.2.1, rfl⟩, Or.inr (Or.inl ⟨rfl, rfl⟩)⟩, mTokB_ok (by decide +kernel), rfl, co_X5⟩
set_option maxRecDepth 100000 in
theorem mo_X5_answer : mMok m_X5_answer :=
  have t := mGd_2 (i := 676) (a := Cond.instanceMethod (mdY m_X5_answer)) (b := (Cond.code (mdY m_X5_answer) (mdB m_X5_answer) (mdL m_X5_answer) (mdR m_X5_answer))) rfl rfl rfl
  ⟨⟨t.2, by decide, by decide +kernel, ⟨by decide +kernel, by decide +kernel, by decide +kernel⟩, ini_X5, Or.inr ⟨by decide, t.1, mGd_in (i := 2) rfl rfl, rfl⟩, Or.inr (Or.inl ⟨rfl, rfl⟩)⟩, mTokB_ok (by decide +kernel), rfl, co_X5⟩
set_option maxRecDepth 100000 in
theorem mo_X5_refuse : mMok m_X5_refuse :=
  have t := mGd_2 (i := 419) (a := Cond.instanceMethod (mdY m_X5_refuse)) (b := (Cond.code (mdY m_X5_refuse) (mdB m_X5_refuse) (mdL m_X5_refuse) (mdR m_X5_refuse))) rfl rfl rfl
  ⟨⟨t.2, by decide, by decide +kernel, ⟨by decide +kernel, by decide +kernel, by decide +kernel⟩, ini_X5, Or.inr ⟨by decide, t.1, mGd_in (i := 1) rfl rfl, rfl⟩, Or.inr (Or.inl ⟨rfl, rfl⟩)⟩, mTokB_ok (by decide +kernel), rfl, co_X5⟩
set_option maxRecDepth 100000 in
theorem mo_X5_grant : mMok m_X5_grant :=
  have t := mGd_2 (i := 841) (a := Cond.instanceMethod (mdY m_X5_grant)) (b := (Cond.code (mdY m_X5_grant) (mdB m_X5_grant) (mdL m_X5_grant) (mdR m_X5_grant))) rfl rfl rfl
  ⟨⟨t.2, by decide, by decide +kernel, ⟨by decide +kernel, by decide +kernel, by decide +kernel⟩, ini_X5, Or.inr ⟨by decide, t.1, mGd_in (i := 4) rfl rfl, rfl⟩, Or.inr (Or.inr (Or.inl ⟨rfl, rfl⟩))⟩, mTokB_ok (by decide +kernel), rfl, co_X5⟩
set_option maxRecDepth 100000 in
theorem mo_X5_deny : mMok m_X5_deny :=
  have t := mGd_2 (i := 829) (a := Cond.instanceMethod (mdY m_X5_deny)) (b := (Cond.code (mdY m_X5_deny) (mdB m_X5_deny) (mdL m_X5_deny) (mdR m_X5_deny))) rfl rfl rfl
  ⟨⟨t.2, by decide, by decide +kernel, ⟨by decide +kernel, by decide +kernel, by decide +kernel⟩, ini_X5, Or.inr ⟨by decide, t.1, mGd_in (i := 3) rfl rfl, rfl⟩, Or.inr (Or.inr (Or.inl ⟨rfl, rfl⟩))⟩, mTokB_ok (by decide +kernel), rfl, co_X5⟩
set_option maxRecDepth 100000 in
theorem mo_X5_tapeFour : mMok m_X5_tapeFour :=
  have t := mGd_2 (i := 407) (a := Cond.instanceMethod (mdY m_X5_tapeFour)) (b := (Cond.code (mdY m_X5_tapeFour) (mdB m_X5_tapeFour) (mdL m_X5_tapeFour) (mdR m_X5_tapeFour))) rfl rfl rfl
  ⟨⟨t.2, by decide, by decide +kernel, ⟨by decide +kernel, by decide +kernel, by decide +kernel⟩, ini_X5, Or.inr ⟨by decide, t.1, mGd_in (i := 0) rfl rfl, rfl⟩, Or.inl ⟨rfl, rfl⟩⟩, mTokB_ok (by decide +kernel), rfl, co_X5⟩
set_option maxRecDepth 100000 in
theorem mo_X5_keptAt : mMok m_X5_keptAt :=
  have t := mGd_2 (i := 1036) (a := Cond.instanceMethod (mdY m_X5_keptAt)) (b := (Cond.code (mdY m_X5_keptAt) (mdB m_X5_keptAt) (mdL m_X5_keptAt) (mdR m_X5_keptAt))) rfl rfl rfl
  ⟨⟨t.2, by decide, by decide +kernel, ⟨by decide +kernel, by decide +kernel, by decide +kernel⟩, ini_X5, Or.inr ⟨by decide, t.1, mGd_in (i := 5) rfl rfl, rfl⟩, Or.inr (Or.inr (Or.inr (Or.inr (Or.inr (⟨rfl, _, rfl⟩)))))⟩, mTokB_ok (by decide +kernel), rfl, co_X5⟩
set_option maxRecDepth 100000 in
theorem mo_X5_ticksUntil : mMok m_X5_ticksUntil :=
  have t := mGd_2 (i := 1081) (a := Cond.instanceMethod (mdY m_X5_ticksUntil)) (b := (Cond.code (mdY m_X5_ticksUntil) (mdB m_X5_ticksUntil) (mdL m_X5_ticksUntil) (mdR m_X5_ticksUntil))) rfl rfl rfl
  ⟨⟨t.2, by decide, by decide +kernel, ⟨by decide +kernel, by decide +kernel, by decide +kernel⟩, ini_X5, Or.inr ⟨by decide, t.1, mGd_in (i := 6) rfl rfl, rfl⟩, Or.inr (Or.inl ⟨rfl, rfl⟩)⟩, mTokB_ok (by decide +kernel), rfl, co_X5⟩
set_option maxRecDepth 100000 in
theorem mo_X5_isBreak : mMok m_X5_isBreak :=
  have t := mGd_2 (i := 605) (a := Cond.static (mdY m_X5_isBreak)) (b := (Cond.code (mdY m_X5_isBreak) (mdB m_X5_isBreak) (mdL m_X5_isBreak) (mdR m_X5_isBreak))) rfl rfl rfl
  ⟨⟨t.2, by decide, by decide +kernel, ⟨by decide +kernel, by decide +kernel, by decide +kernel⟩, ini_X5, Or.inl ⟨rfl, t.1⟩, Or.inr (Or.inr (Or.inl ⟨rfl, rfl⟩))⟩, mTokB_ok (by decide +kernel), rfl, co_X5⟩
set_option maxRecDepth 100000 in
theorem mo_X5_isCycle : mMok m_X5_isCycle :=
  have t := mGd_2 (i := 592) (a := Cond.static (mdY m_X5_isCycle)) (b := (Cond.code (mdY m_X5_isCycle) (mdB m_X5_isCycle) (mdL m_X5_isCycle) (mdR m_X5_isCycle))) rfl rfl rfl
  ⟨⟨t.2, by decide, by decide +kernel, ⟨by decide +kernel, by decide +kernel, by decide +kernel⟩, ini_X5, Or.inl ⟨rfl, t.1⟩, Or.inr (Or.inr (Or.inl ⟨rfl, rfl⟩))⟩, mTokB_ok (by decide +kernel), rfl, co_X5⟩
set_option maxRecDepth 100000 in
theorem mo_X5_isOffset : mMok m_X5_isOffset :=
  have t := mGd_2 (i := 817) (a := Cond.static (mdY m_X5_isOffset)) (b := (Cond.code (mdY m_X5_isOffset) (mdB m_X5_isOffset) (mdL m_X5_isOffset) (mdR m_X5_isOffset))) rfl rfl rfl
  ⟨⟨t.2, by decide, by decide +kernel, ⟨by decide +kernel, by decide +kernel, by decide +kernel⟩, ini_X5, Or.inl ⟨rfl, t.1⟩, Or.inr (Or.inr (Or.inl ⟨rfl, rfl⟩))⟩, mTokB_ok (by decide +kernel), rfl, co_X5⟩
set_option maxRecDepth 100000 in
theorem mo_X5_isDwell : mMok m_X5_isDwell :=
  have t := mGd_2 (i := 867) (a := Cond.static (mdY m_X5_isDwell)) (b := (Cond.code (mdY m_X5_isDwell) (mdB m_X5_isDwell) (mdL m_X5_isDwell) (mdR m_X5_isDwell))) rfl rfl rfl
  ⟨⟨t.2, by decide, by decide +kernel, ⟨by decide +kernel, by decide +kernel, by decide +kernel⟩, ini_X5, Or.inl ⟨rfl, t.1⟩, Or.inr (Or.inr (Or.inl ⟨rfl, rfl⟩))⟩, mTokB_ok (by decide +kernel), rfl, co_X5⟩
set_option maxRecDepth 100000 in
theorem mo_X5_cell : mMok m_X5_cell :=
  have t := mGd_2 (i := 521) (a := Cond.static (mdY m_X5_cell)) (b := (Cond.code (mdY m_X5_cell) (mdB m_X5_cell) (mdL m_X5_cell) (mdR m_X5_cell))) rfl rfl rfl
  ⟨⟨t.2, by decide, by decide +kernel, ⟨by decide +kernel, by decide +kernel, by decide +kernel⟩, ini_X5, Or.inl ⟨rfl, t.1⟩, Or.inr (Or.inl ⟨rfl, rfl⟩)⟩, mTokB_ok (by decide +kernel), rfl, co_X5⟩
set_option maxRecDepth 100000 in
theorem mo_X5_put : mMok m_X5_put :=
  have t := mGd_2 (i := 531) (a := Cond.static (mdY m_X5_put)) (b := (Cond.code (mdY m_X5_put) (mdB m_X5_put) (mdL m_X5_put) (mdR m_X5_put))) rfl rfl rfl
  ⟨⟨t.2, by decide, by decide +kernel, ⟨by decide +kernel, by decide +kernel, by decide +kernel⟩, ini_X5, Or.inl ⟨rfl, t.1⟩, Or.inl ⟨rfl, rfl⟩⟩, mTokB_ok (by decide +kernel), rfl, co_X5⟩
set_option maxRecDepth 100000 in
theorem mo_X5_copyRow : mMok m_X5_copyRow :=
  have t := mGd_2 (i := 643) (a := Cond.static (mdY m_X5_copyRow)) (b := (Cond.code (mdY m_X5_copyRow) (mdB m_X5_copyRow) (mdL m_X5_copyRow) (mdR m_X5_copyRow))) rfl rfl rfl
  ⟨⟨t.2, by decide, by decide +kernel, ⟨by decide +kernel, by decide +kernel, by decide +kernel⟩, ini_X5, Or.inl ⟨rfl, t.1⟩, Or.inl ⟨rfl, rfl⟩⟩, mTokB_ok (by decide +kernel), rfl, co_X5⟩
set_option maxRecDepth 100000 in
theorem mo_X5_fillRow : mMok m_X5_fillRow :=
  have t := mGd_2 (i := 430) (a := Cond.static (mdY m_X5_fillRow)) (b := (Cond.code (mdY m_X5_fillRow) (mdB m_X5_fillRow) (mdL m_X5_fillRow) (mdR m_X5_fillRow))) rfl rfl rfl
  ⟨⟨t.2, by decide, by decide +kernel, ⟨by decide +kernel, by decide +kernel, by decide +kernel⟩, ini_X5, Or.inl ⟨rfl, t.1⟩, Or.inl ⟨rfl, rfl⟩⟩, mTokB_ok (by decide +kernel), rfl, co_X5⟩
set_option maxRecDepth 100000 in
theorem mo_X5_total : mMok m_X5_total :=
  have t := mGd_2 (i := 770) (a := Cond.static (mdY m_X5_total)) (b := (Cond.code (mdY m_X5_total) (mdB m_X5_total) (mdL m_X5_total) (mdR m_X5_total))) rfl rfl rfl
  ⟨⟨t.2, by decide, by decide +kernel, ⟨by decide +kernel, by decide +kernel, by decide +kernel⟩, ini_X5, Or.inl ⟨rfl, t.1⟩, Or.inr (Or.inl ⟨rfl, rfl⟩)⟩, mTokB_ok (by decide +kernel), rfl, co_X5⟩
set_option maxRecDepth 100000 in
theorem mo_X5_bit : mMok m_X5_bit :=
  have t := mGd_2 (i := 528) (a := Cond.static (mdY m_X5_bit)) (b := (Cond.code (mdY m_X5_bit) (mdB m_X5_bit) (mdL m_X5_bit) (mdR m_X5_bit))) rfl rfl rfl
  ⟨⟨t.2, by decide, by decide +kernel, ⟨by decide +kernel, by decide +kernel, by decide +kernel⟩, ini_X5, Or.inl ⟨rfl, t.1⟩, Or.inr (Or.inl ⟨rfl, rfl⟩)⟩, mTokB_ok (by decide +kernel), rfl, co_X5⟩
set_option maxRecDepth 100000 in
theorem mo_X5_withBit : mMok m_X5_withBit :=
  have t := mGd_2 (i := 544) (a := Cond.static (mdY m_X5_withBit)) (b := (Cond.code (mdY m_X5_withBit) (mdB m_X5_withBit) (mdL m_X5_withBit) (mdR m_X5_withBit))) rfl rfl rfl
  ⟨⟨t.2, by decide, by decide +kernel, ⟨by decide +kernel, by decide +kernel, by decide +kernel⟩, ini_X5, Or.inl ⟨rfl, t.1⟩, Or.inr (Or.inl ⟨rfl, rfl⟩)⟩, mTokB_ok (by decide +kernel), rfl, co_X5⟩
set_option maxRecDepth 100000 in
theorem mo_X5_inSet : mMok m_X5_inSet :=
  have t := mGd_2 (i := 630) (a := Cond.static (mdY m_X5_inSet)) (b := (Cond.code (mdY m_X5_inSet) (mdB m_X5_inSet) (mdL m_X5_inSet) (mdR m_X5_inSet))) rfl rfl rfl
  ⟨⟨t.2, by decide, by decide +kernel, ⟨by decide +kernel, by decide +kernel, by decide +kernel⟩, ini_X5, Or.inl ⟨rfl, t.1⟩, Or.inr (Or.inr (Or.inl ⟨rfl, rfl⟩))⟩, mTokB_ok (by decide +kernel), rfl, co_X5⟩
set_option maxRecDepth 100000 in
theorem mo_X5_firstIn : mMok m_X5_firstIn :=
  have t := mGd_2 (i := 668) (a := Cond.static (mdY m_X5_firstIn)) (b := (Cond.code (mdY m_X5_firstIn) (mdB m_X5_firstIn) (mdL m_X5_firstIn) (mdR m_X5_firstIn))) rfl rfl rfl
  ⟨⟨t.2, by decide, by decide +kernel, ⟨by decide +kernel, by decide +kernel, by decide +kernel⟩, ini_X5, Or.inl ⟨rfl, t.1⟩, Or.inr (Or.inl ⟨rfl, rfl⟩)⟩, mTokB_ok (by decide +kernel), rfl, co_X5⟩
set_option maxRecDepth 100000 in
theorem mo_X6_status : mMok m_X6_status :=
  have t := mGd_3 (i := 1242) (a := Cond.instanceMethod (mdY m_X6_status)) (b := Cond.selects (mdY m_X6_status).cls (mdY m_X6_status) (mdY m_X6_status)) (c := (Cond.code (mdY m_X6_status) (mdB m_X6_status) (mdL m_X6_status) (mdR m_X6_status))) rfl rfl rfl rfl
  ⟨⟨t.2.2, by decide, by decide +kernel, ⟨by decide +kernel, by decide +kernel, by decide +kernel⟩, ini_X6, Or.inr ⟨by decide, t.1, t.2.1, rfl⟩, Or.inr (Or.inl ⟨rfl, rfl⟩)⟩, mTokB_ok (by decide +kernel), rfl, co_X6⟩
set_option maxRecDepth 100000 in
theorem mo_X6_refuse : mMok m_X6_refuse :=
  have t := mGd_2 (i := 1262) (a := Cond.instanceMethod (mdY m_X6_refuse)) (b := (Cond.code (mdY m_X6_refuse) (mdB m_X6_refuse) (mdL m_X6_refuse) (mdR m_X6_refuse))) rfl rfl rfl
  ⟨⟨t.2, by decide, by decide +kernel, ⟨by decide +kernel, by decide +kernel, by decide +kernel⟩, ini_X6, Or.inr ⟨by decide, t.1, mGd_in (i := 20) rfl rfl, rfl⟩, Or.inr (Or.inl ⟨rfl, rfl⟩)⟩, mTokB_ok (by decide +kernel), rfl, co_X6⟩
set_option maxRecDepth 100000 in
theorem mo_X6_isSo : mMok m_X6_isSo :=
  have t := mGd_2 (i := 1471) (a := Cond.instanceMethod (mdY m_X6_isSo)) (b := (Cond.code (mdY m_X6_isSo) (mdB m_X6_isSo) (mdL m_X6_isSo) (mdR m_X6_isSo))) rfl rfl rfl
  ⟨⟨t.2, by decide, by decide +kernel, ⟨by decide +kernel, by decide +kernel, by decide +kernel⟩, ini_X6, Or.inr ⟨by decide, t.1, mGd_in (i := 55) rfl rfl, rfl⟩, Or.inr (Or.inr (Or.inl ⟨rfl, rfl⟩))⟩, mTokB_ok (by decide +kernel), rfl, co_X6⟩
set_option maxRecDepth 100000 in
theorem mo_X6_gives : mMok m_X6_gives :=
  have t := mGd_2 (i := 1364) (a := Cond.instanceMethod (mdY m_X6_gives)) (b := (Cond.code (mdY m_X6_gives) (mdB m_X6_gives) (mdL m_X6_gives) (mdR m_X6_gives))) rfl rfl rfl
  ⟨⟨t.2, by decide, by decide +kernel, ⟨by decide +kernel, by decide +kernel, by decide +kernel⟩, ini_X6, Or.inr ⟨by decide, t.1, mGd_in (i := 40) rfl rfl, rfl⟩, Or.inr (Or.inl ⟨rfl, rfl⟩)⟩, mTokB_ok (by decide +kernel), rfl, co_X6⟩
set_option maxRecDepth 100000 in
theorem mo_X6_isFrom : mMok m_X6_isFrom :=
  have t := mGd_2 (i := 1258) (a := Cond.static (mdY m_X6_isFrom)) (b := (Cond.code (mdY m_X6_isFrom) (mdB m_X6_isFrom) (mdL m_X6_isFrom) (mdR m_X6_isFrom))) rfl rfl rfl
  ⟨⟨t.2, by decide, by decide +kernel, ⟨by decide +kernel, by decide +kernel, by decide +kernel⟩, ini_X6, Or.inl ⟨rfl, t.1⟩, Or.inr (Or.inr (Or.inl ⟨rfl, rfl⟩))⟩, mTokB_ok (by decide +kernel), rfl, co_X6⟩
set_option maxRecDepth 100000 in
theorem mo_X6_has : mMok m_X6_has :=
  have t := mGd_2 (i := 1315) (a := Cond.static (mdY m_X6_has)) (b := (Cond.code (mdY m_X6_has) (mdB m_X6_has) (mdL m_X6_has) (mdR m_X6_has))) rfl rfl rfl
  ⟨⟨t.2, by decide, by decide +kernel, ⟨by decide +kernel, by decide +kernel, by decide +kernel⟩, ini_X6, Or.inl ⟨rfl, t.1⟩, Or.inr (Or.inr (Or.inl ⟨rfl, rfl⟩))⟩, mTokB_ok (by decide +kernel), rfl, co_X6⟩
set_option maxRecDepth 100000 in
theorem mo_X6_left : mMok m_X6_left :=
  have t := mGd_2 (i := 1399) (a := Cond.static (mdY m_X6_left)) (b := (Cond.code (mdY m_X6_left) (mdB m_X6_left) (mdL m_X6_left) (mdR m_X6_left))) rfl rfl rfl
  ⟨⟨t.2, by decide, by decide +kernel, ⟨by decide +kernel, by decide +kernel, by decide +kernel⟩, ini_X6, Or.inl ⟨rfl, t.1⟩, Or.inr (Or.inl ⟨rfl, rfl⟩)⟩, mTokB_ok (by decide +kernel), rfl, co_X6⟩
set_option maxRecDepth 100000 in
theorem mo_X6_of : mMok m_X6_of :=
  have t := mGd_2 (i := 1144) (a := Cond.instanceMethod (mdY m_X6_of)) (b := (Cond.code (mdY m_X6_of) (mdB m_X6_of) (mdL m_X6_of) (mdR m_X6_of))) rfl rfl rfl
  ⟨⟨t.2, by decide, by decide +kernel, ⟨by decide +kernel, by decide +kernel, by decide +kernel⟩, ini_X6, Or.inr ⟨by decide, t.1, mGd_in (i := 11) rfl rfl, rfl⟩, Or.inr (Or.inl ⟨rfl, rfl⟩)⟩, mTokB_ok (by decide +kernel), rfl, co_X6⟩
set_option maxRecDepth 100000 in
theorem mo_X6_puts : mMok m_X6_puts :=
  have t := mGd_2 (i := 1132) (a := Cond.instanceMethod (mdY m_X6_puts)) (b := (Cond.code (mdY m_X6_puts) (mdB m_X6_puts) (mdL m_X6_puts) (mdR m_X6_puts))) rfl rfl rfl
  ⟨⟨t.2, by decide, by decide +kernel, ⟨by decide +kernel, by decide +kernel, by decide +kernel⟩, ini_X6, Or.inr ⟨by decide, t.1, mGd_in (i := 8) rfl rfl, rfl⟩, Or.inl ⟨rfl, rfl⟩⟩, mTokB_ok (by decide +kernel), rfl, co_X6⟩
set_option maxRecDepth 100000 in
theorem mo_X6_adds : mMok m_X6_adds :=
  have t := mGd_2 (i := 1325) (a := Cond.instanceMethod (mdY m_X6_adds)) (b := (Cond.code (mdY m_X6_adds) (mdB m_X6_adds) (mdL m_X6_adds) (mdR m_X6_adds))) rfl rfl rfl
  ⟨⟨t.2, by decide, by decide +kernel, ⟨by decide +kernel, by decide +kernel, by decide +kernel⟩, ini_X6, Or.inr ⟨by decide, t.1, mGd_in (i := 31) rfl rfl, rfl⟩, Or.inl ⟨rfl, rfl⟩⟩, mTokB_ok (by decide +kernel), rfl, co_X6⟩
set_option maxRecDepth 100000 in
theorem mo_X6_copies : mMok m_X6_copies :=
  have t := mGd_2 (i := 1266) (a := Cond.instanceMethod (mdY m_X6_copies)) (b := (Cond.code (mdY m_X6_copies) (mdB m_X6_copies) (mdL m_X6_copies) (mdR m_X6_copies))) rfl rfl rfl
  ⟨⟨t.2, by decide, by decide +kernel, ⟨by decide +kernel, by decide +kernel, by decide +kernel⟩, ini_X6, Or.inr ⟨by decide, t.1, mGd_in (i := 21) rfl rfl, rfl⟩, Or.inl ⟨rfl, rfl⟩⟩, mTokB_ok (by decide +kernel), rfl, co_X6⟩
set_option maxRecDepth 100000 in
theorem mo_X6_ring : mMok m_X6_ring :=
  have t := mGd_2 (i := 1175) (a := Cond.static (mdY m_X6_ring)) (b := (Cond.code (mdY m_X6_ring) (mdB m_X6_ring) (mdL m_X6_ring) (mdR m_X6_ring))) rfl rfl rfl
  ⟨⟨t.2, by decide, by decide +kernel, ⟨by decide +kernel, by decide +kernel, by decide +kernel⟩, ini_X6, Or.inl ⟨rfl, t.1⟩, Or.inr (Or.inl ⟨rfl, rfl⟩)⟩, mTokB_ok (by decide +kernel), rfl, co_X6⟩
set_option maxRecDepth 100000 in
theorem mo_X6_ofRing : mMok m_X6_ofRing :=
  have t := mGd_2 (i := 1380) (a := Cond.instanceMethod (mdY m_X6_ofRing)) (b := (Cond.code (mdY m_X6_ofRing) (mdB m_X6_ofRing) (mdL m_X6_ofRing) (mdR m_X6_ofRing))) rfl rfl rfl
  ⟨⟨t.2, by decide, by decide +kernel, ⟨by decide +kernel, by decide +kernel, by decide +kernel⟩, ini_X6, Or.inr ⟨by decide, t.1, mGd_in (i := 41) rfl rfl, rfl⟩, Or.inr (Or.inl ⟨rfl, rfl⟩)⟩, mTokB_ok (by decide +kernel), rfl, co_X6⟩
set_option maxRecDepth 100000 in
theorem mo_X6_putsRing : mMok m_X6_putsRing :=
  have t := mGd_2 (i := 1172) (a := Cond.instanceMethod (mdY m_X6_putsRing)) (b := (Cond.code (mdY m_X6_putsRing) (mdB m_X6_putsRing) (mdL m_X6_putsRing) (mdR m_X6_putsRing))) rfl rfl rfl
  ⟨⟨t.2, by decide, by decide +kernel, ⟨by decide +kernel, by decide +kernel, by decide +kernel⟩, ini_X6, Or.inr ⟨by decide, t.1, mGd_in (i := 18) rfl rfl, rfl⟩, Or.inl ⟨rfl, rfl⟩⟩, mTokB_ok (by decide +kernel), rfl, co_X6⟩
set_option maxRecDepth 100000 in
theorem mo_X6_ofPhase : mMok m_X6_ofPhase :=
  have t := mGd_2 (i := 1148) (a := Cond.instanceMethod (mdY m_X6_ofPhase)) (b := (Cond.code (mdY m_X6_ofPhase) (mdB m_X6_ofPhase) (mdL m_X6_ofPhase) (mdR m_X6_ofPhase))) rfl rfl rfl
  ⟨⟨t.2, by decide, by decide +kernel, ⟨by decide +kernel, by decide +kernel, by decide +kernel⟩, ini_X6, Or.inr ⟨by decide, t.1, mGd_in (i := 12) rfl rfl, rfl⟩, Or.inr (Or.inl ⟨rfl, rfl⟩)⟩, mTokB_ok (by decide +kernel), rfl, co_X6⟩
set_option maxRecDepth 100000 in
theorem mo_X6_putsPhase : mMok m_X6_putsPhase :=
  have t := mGd_2 (i := 1312) (a := Cond.instanceMethod (mdY m_X6_putsPhase)) (b := (Cond.code (mdY m_X6_putsPhase) (mdB m_X6_putsPhase) (mdL m_X6_putsPhase) (mdR m_X6_putsPhase))) rfl rfl rfl
  ⟨⟨t.2, by decide, by decide +kernel, ⟨by decide +kernel, by decide +kernel, by decide +kernel⟩, ini_X6, Or.inr ⟨by decide, t.1, mGd_in (i := 30) rfl rfl, rfl⟩, Or.inl ⟨rfl, rfl⟩⟩, mTokB_ok (by decide +kernel), rfl, co_X6⟩
set_option maxRecDepth 100000 in
theorem mo_X6_mark : mMok m_X6_mark :=
  have t := mGd_2 (i := 1160) (a := Cond.instanceMethod (mdY m_X6_mark)) (b := (Cond.code (mdY m_X6_mark) (mdB m_X6_mark) (mdL m_X6_mark) (mdR m_X6_mark))) rfl rfl rfl
  ⟨⟨t.2, by decide, by decide +kernel, ⟨by decide +kernel, by decide +kernel, by decide +kernel⟩, ini_X6, Or.inr ⟨by decide, t.1, mGd_in (i := 15) rfl rfl, rfl⟩, Or.inr (Or.inl ⟨rfl, rfl⟩)⟩, mTokB_ok (by decide +kernel), rfl, co_X6⟩
set_option maxRecDepth 100000 in
theorem mo_X6_isPhase : mMok m_X6_isPhase :=
  have t := mGd_2 (i := 1411) (a := Cond.instanceMethod (mdY m_X6_isPhase)) (b := (Cond.code (mdY m_X6_isPhase) (mdB m_X6_isPhase) (mdL m_X6_isPhase) (mdR m_X6_isPhase))) rfl rfl rfl
  ⟨⟨t.2, by decide, by decide +kernel, ⟨by decide +kernel, by decide +kernel, by decide +kernel⟩, ini_X6, Or.inr ⟨by decide, t.1, mGd_in (i := 47) rfl rfl, rfl⟩, Or.inr (Or.inr (Or.inl ⟨rfl, rfl⟩))⟩, mTokB_ok (by decide +kernel), rfl, co_X6⟩
set_option maxRecDepth 100000 in
theorem mo_X6_begins : mMok m_X6_begins :=
  have t := mGd_2 (i := 1128) (a := Cond.instanceMethod (mdY m_X6_begins)) (b := (Cond.code (mdY m_X6_begins) (mdB m_X6_begins) (mdL m_X6_begins) (mdR m_X6_begins))) rfl rfl rfl
  ⟨⟨t.2, by decide, by decide +kernel, ⟨by decide +kernel, by decide +kernel, by decide +kernel⟩, ini_X6, Or.inr ⟨by decide, t.1, mGd_in (i := 7) rfl rfl, rfl⟩, Or.inl ⟨rfl, rfl⟩⟩, mTokB_ok (by decide +kernel), rfl, co_X6⟩
set_option maxRecDepth 100000 in
theorem mo_X6_areFoes : mMok m_X6_areFoes :=
  have t := mGd_2 (i := 1360) (a := Cond.instanceMethod (mdY m_X6_areFoes)) (b := (Cond.code (mdY m_X6_areFoes) (mdB m_X6_areFoes) (mdL m_X6_areFoes) (mdR m_X6_areFoes))) rfl rfl rfl
  ⟨⟨t.2, by decide, by decide +kernel, ⟨by decide +kernel, by decide +kernel, by decide +kernel⟩, ini_X6, Or.inr ⟨by decide, t.1, mGd_in (i := 39) rfl rfl, rfl⟩, Or.inr (Or.inr (Or.inl ⟨rfl, rfl⟩))⟩, mTokB_ok (by decide +kernel), rfl, co_X6⟩
set_option maxRecDepth 100000 in
theorem mo_X6_foesOf : mMok m_X6_foesOf :=
  have t := mGd_2 (i := 1356) (a := Cond.instanceMethod (mdY m_X6_foesOf)) (b := (Cond.code (mdY m_X6_foesOf) (mdB m_X6_foesOf) (mdL m_X6_foesOf) (mdR m_X6_foesOf))) rfl rfl rfl
  ⟨⟨t.2, by decide, by decide +kernel, ⟨by decide +kernel, by decide +kernel, by decide +kernel⟩, ini_X6, Or.inr ⟨by decide, t.1, mGd_in (i := 38) rfl rfl, rfl⟩, Or.inr (Or.inl ⟨rfl, rfl⟩)⟩, mTokB_ok (by decide +kernel), rfl, co_X6⟩
set_option maxRecDepth 100000 in
theorem mo_X6_isPeace : mMok m_X6_isPeace :=
  have t := mGd_2 (i := 1352) (a := Cond.instanceMethod (mdY m_X6_isPeace)) (b := (Cond.code (mdY m_X6_isPeace) (mdB m_X6_isPeace) (mdL m_X6_isPeace) (mdR m_X6_isPeace))) rfl rfl rfl
  ⟨⟨t.2, by decide, by decide +kernel, ⟨by decide +kernel, by decide +kernel, by decide +kernel⟩, ini_X6, Or.inr ⟨by decide, t.1, mGd_in (i := 37) rfl rfl, rfl⟩, Or.inr (Or.inr (Or.inl ⟨rfl, rfl⟩))⟩, mTokB_ok (by decide +kernel), rfl, co_X6⟩
set_option maxRecDepth 100000 in
theorem mo_X6_firstOf : mMok m_X6_firstOf :=
  have t := mGd_2 (i := 1140) (a := Cond.instanceMethod (mdY m_X6_firstOf)) (b := (Cond.code (mdY m_X6_firstOf) (mdB m_X6_firstOf) (mdL m_X6_firstOf) (mdR m_X6_firstOf))) rfl rfl rfl
  ⟨⟨t.2, by decide, by decide +kernel, ⟨by decide +kernel, by decide +kernel, by decide +kernel⟩, ini_X6, Or.inr ⟨by decide, t.1, mGd_in (i := 10) rfl rfl, rfl⟩, Or.inr (Or.inl ⟨rfl, rfl⟩)⟩, mTokB_ok (by decide +kernel), rfl, co_X6⟩
set_option maxRecDepth 100000 in
theorem mo_X6_starts : mMok m_X6_starts :=
  have t := mGd_2 (i := 1136) (a := Cond.instanceMethod (mdY m_X6_starts)) (b := (Cond.code (mdY m_X6_starts) (mdB m_X6_starts) (mdL m_X6_starts) (mdR m_X6_starts))) rfl rfl rfl
  ⟨⟨t.2, by decide, by decide +kernel, ⟨by decide +kernel, by decide +kernel, by decide +kernel⟩, ini_X6, Or.inr ⟨by decide, t.1, mGd_in (i := 9) rfl rfl, rfl⟩, Or.inl ⟨rfl, rfl⟩⟩, mTokB_ok (by decide +kernel), rfl, co_X6⟩
set_option maxRecDepth 100000 in
theorem mo_X6_clearsRing : mMok m_X6_clearsRing :=
  have t := mGd_2 (i := 1168) (a := Cond.instanceMethod (mdY m_X6_clearsRing)) (b := (Cond.code (mdY m_X6_clearsRing) (mdB m_X6_clearsRing) (mdL m_X6_clearsRing) (mdR m_X6_clearsRing))) rfl rfl rfl
  ⟨⟨t.2, by decide, by decide +kernel, ⟨by decide +kernel, by decide +kernel, by decide +kernel⟩, ini_X6, Or.inr ⟨by decide, t.1, mGd_in (i := 17) rfl rfl, rfl⟩, Or.inl ⟨rfl, rfl⟩⟩, mTokB_ok (by decide +kernel), rfl, co_X6⟩
set_option maxRecDepth 100000 in
theorem mo_X6_isCalled : mMok m_X6_isCalled :=
  have t := mGd_2 (i := 1156) (a := Cond.instanceMethod (mdY m_X6_isCalled)) (b := (Cond.code (mdY m_X6_isCalled) (mdB m_X6_isCalled) (mdL m_X6_isCalled) (mdR m_X6_isCalled))) rfl rfl rfl
  ⟨⟨t.2, by decide, by decide +kernel, ⟨by decide +kernel, by decide +kernel, by decide +kernel⟩, ini_X6, Or.inr ⟨by decide, t.1, mGd_in (i := 14) rfl rfl, rfl⟩, Or.inr (Or.inr (Or.inl ⟨rfl, rfl⟩))⟩, mTokB_ok (by decide +kernel), rfl, co_X6⟩
set_option maxRecDepth 100000 in
theorem mo_X6_isOnFoot : mMok m_X6_isOnFoot :=
  have t := mGd_2 (i := 1164) (a := Cond.instanceMethod (mdY m_X6_isOnFoot)) (b := (Cond.code (mdY m_X6_isOnFoot) (mdB m_X6_isOnFoot) (mdL m_X6_isOnFoot) (mdR m_X6_isOnFoot))) rfl rfl rfl
  ⟨⟨t.2, by decide, by decide +kernel, ⟨by decide +kernel, by decide +kernel, by decide +kernel⟩, ini_X6, Or.inr ⟨by decide, t.1, mGd_in (i := 16) rfl rfl, rfl⟩, Or.inr (Or.inr (Or.inl ⟨rfl, rfl⟩))⟩, mTokB_ok (by decide +kernel), rfl, co_X6⟩
set_option maxRecDepth 100000 in
theorem mo_X6_isAsked : mMok m_X6_isAsked :=
  have t := mGd_2 (i := 1152) (a := Cond.instanceMethod (mdY m_X6_isAsked)) (b := (Cond.code (mdY m_X6_isAsked) (mdB m_X6_isAsked) (mdL m_X6_isAsked) (mdR m_X6_isAsked))) rfl rfl rfl
  ⟨⟨t.2, by decide, by decide +kernel, ⟨by decide +kernel, by decide +kernel, by decide +kernel⟩, ini_X6, Or.inr ⟨by decide, t.1, mGd_in (i := 13) rfl rfl, rfl⟩, Or.inr (Or.inr (Or.inl ⟨rfl, rfl⟩))⟩, mTokB_ok (by decide +kernel), rfl, co_X6⟩
set_option maxRecDepth 100000 in
theorem mo_X6_isFoeAsked : mMok m_X6_isFoeAsked :=
  have t := mGd_2 (i := 1550) (a := Cond.instanceMethod (mdY m_X6_isFoeAsked)) (b := (Cond.code (mdY m_X6_isFoeAsked) (mdB m_X6_isFoeAsked) (mdL m_X6_isFoeAsked) (mdR m_X6_isFoeAsked))) rfl rfl rfl
  ⟨⟨t.2, by decide, by decide +kernel, ⟨by decide +kernel, by decide +kernel, by decide +kernel⟩, ini_X6, Or.inr ⟨by decide, t.1, mGd_in (i := 67) rfl rfl, rfl⟩, Or.inr (Or.inr (Or.inl ⟨rfl, rfl⟩))⟩, mTokB_ok (by decide +kernel), rfl, co_X6⟩
set_option maxRecDepth 100000 in
theorem mo_X6_isHolding : mMok m_X6_isHolding :=
  have t := mGd_2 (i := 1419) (a := Cond.instanceMethod (mdY m_X6_isHolding)) (b := (Cond.code (mdY m_X6_isHolding) (mdB m_X6_isHolding) (mdL m_X6_isHolding) (mdR m_X6_isHolding))) rfl rfl rfl
  ⟨⟨t.2, by decide, by decide +kernel, ⟨by decide +kernel, by decide +kernel, by decide +kernel⟩, ini_X6, Or.inr ⟨by decide, t.1, mGd_in (i := 49) rfl rfl, rfl⟩, Or.inr (Or.inr (Or.inl ⟨rfl, rfl⟩))⟩, mTokB_ok (by decide +kernel), rfl, co_X6⟩
set_option maxRecDepth 100000 in
theorem mo_X6_isGreen : mMok m_X6_isGreen :=
  have t := mGd_2 (i := 1384) (a := Cond.instanceMethod (mdY m_X6_isGreen)) (b := (Cond.code (mdY m_X6_isGreen) (mdB m_X6_isGreen) (mdL m_X6_isGreen) (mdR m_X6_isGreen))) rfl rfl rfl
  ⟨⟨t.2, by decide, by decide +kernel, ⟨by decide +kernel, by decide +kernel, by decide +kernel⟩, ini_X6, Or.inr ⟨by decide, t.1, mGd_in (i := 42) rfl rfl, rfl⟩, Or.inr (Or.inr (Or.inl ⟨rfl, rfl⟩))⟩, mTokB_ok (by decide +kernel), rfl, co_X6⟩
set_option maxRecDepth 100000 in
theorem mo_X6_happens : mMok m_X6_happens :=
  have t := mGd_2 (i := 1511) (a := Cond.instanceMethod (mdY m_X6_happens)) (b := (Cond.code (mdY m_X6_happens) (mdB m_X6_happens) (mdL m_X6_happens) (mdR m_X6_happens))) rfl rfl rfl
  ⟨⟨t.2, by decide, by decide +kernel, ⟨by decide +kernel, by decide +kernel, by decide +kernel⟩, ini_X6, Or.inr ⟨by decide, t.1, mGd_in (i := 59) rfl rfl, rfl⟩, Or.inl ⟨rfl, rfl⟩⟩, mTokB_ok (by decide +kernel), rfl, co_X6⟩
set_option maxRecDepth 100000 in
theorem mo_X6_becomesGreen : mMok m_X6_becomesGreen :=
  have t := mGd_2 (i := 1598) (a := Cond.instanceMethod (mdY m_X6_becomesGreen)) (b := (Cond.code (mdY m_X6_becomesGreen) (mdB m_X6_becomesGreen) (mdL m_X6_becomesGreen) (mdR m_X6_becomesGreen))) rfl rfl rfl
  ⟨⟨t.2, by decide, by decide +kernel, ⟨by decide +kernel, by decide +kernel, by decide +kernel⟩, ini_X6, Or.inr ⟨by decide, t.1, mGd_in (i := 79) rfl rfl, rfl⟩, Or.inl ⟨rfl, rfl⟩⟩, mTokB_ok (by decide +kernel), rfl, co_X6⟩
set_option maxRecDepth 100000 in
theorem mo_X6_leaves : mMok m_X6_leaves :=
  have t := mGd_2 (i := 1582) (a := Cond.instanceMethod (mdY m_X6_leaves)) (b := (Cond.code (mdY m_X6_leaves) (mdB m_X6_leaves) (mdL m_X6_leaves) (mdR m_X6_leaves))) rfl rfl rfl
  ⟨⟨t.2, by decide, by decide +kernel, ⟨by decide +kernel, by decide +kernel, by decide +kernel⟩, ini_X6, Or.inr ⟨by decide, t.1, mGd_in (i := 75) rfl rfl, rfl⟩, Or.inl ⟨rfl, rfl⟩⟩, mTokB_ok (by decide +kernel), rfl, co_X6⟩
set_option maxRecDepth 100000 in
theorem mo_X6_goes : mMok m_X6_goes :=
  have t := mGd_2 (i := 1590) (a := Cond.instanceMethod (mdY m_X6_goes)) (b := (Cond.code (mdY m_X6_goes) (mdB m_X6_goes) (mdL m_X6_goes) (mdR m_X6_goes))) rfl rfl rfl
  ⟨⟨t.2, by decide, by decide +kernel, ⟨by decide +kernel, by decide +kernel, by decide +kernel⟩, ini_X6, Or.inr ⟨by decide, t.1, mGd_in (i := 77) rfl rfl, rfl⟩, Or.inl ⟨rfl, rfl⟩⟩, mTokB_ok (by decide +kernel), rfl, co_X6⟩
set_option maxRecDepth 100000 in
theorem mo_X6_drawBy : mMok m_X6_drawBy :=
  have t := mGd_2 (i := 1527) (a := Cond.instanceMethod (mdY m_X6_drawBy)) (b := (Cond.code (mdY m_X6_drawBy) (mdB m_X6_drawBy) (mdL m_X6_drawBy) (mdR m_X6_drawBy))) rfl rfl rfl
  ⟨⟨t.2, by decide, by decide +kernel, ⟨by decide +kernel, by decide +kernel, by decide +kernel⟩, ini_X6, Or.inr ⟨by decide, t.1, mGd_in (i := 62) rfl rfl, rfl⟩, Or.inr (Or.inl ⟨rfl, rfl⟩)⟩, mTokB_ok (by decide +kernel), rfl, co_X6⟩
set_option maxRecDepth 100000 in
theorem mo_X6_comers : mMok m_X6_comers :=
  have t := mGd_2 (i := 1523) (a := Cond.instanceMethod (mdY m_X6_comers)) (b := (Cond.code (mdY m_X6_comers) (mdB m_X6_comers) (mdL m_X6_comers) (mdR m_X6_comers))) rfl rfl rfl
  ⟨⟨t.2, by decide, by decide +kernel, ⟨by decide +kernel, by decide +kernel, by decide +kernel⟩, ini_X6, Or.inr ⟨by decide, t.1, mGd_in (i := 61) rfl rfl, rfl⟩, Or.inl ⟨rfl, rfl⟩⟩, mTokB_ok (by decide +kernel), rfl, co_X6⟩
set_option maxRecDepth 100000 in
theorem mo_X6_due : mMok m_X6_due :=
  have t := mGd_2 (i := 1538) (a := Cond.instanceMethod (mdY m_X6_due)) (b := (Cond.code (mdY m_X6_due) (mdB m_X6_due) (mdL m_X6_due) (mdR m_X6_due))) rfl rfl rfl
  ⟨⟨t.2, by decide, by decide +kernel, ⟨by decide +kernel, by decide +kernel, by decide +kernel⟩, ini_X6, Or.inr ⟨by decide, t.1, mGd_in (i := 64) rfl rfl, rfl⟩, Or.inr (Or.inl ⟨rfl, rfl⟩)⟩, mTokB_ok (by decide +kernel), rfl, co_X6⟩
set_option maxRecDepth 100000 in
theorem mo_X6_clockGoes : mMok m_X6_clockGoes :=
  have t := mGd_2 (i := 1534) (a := Cond.instanceMethod (mdY m_X6_clockGoes)) (b := (Cond.code (mdY m_X6_clockGoes) (mdB m_X6_clockGoes) (mdL m_X6_clockGoes) (mdR m_X6_clockGoes))) rfl rfl rfl
  ⟨⟨t.2, by decide, by decide +kernel, ⟨by decide +kernel, by decide +kernel, by decide +kernel⟩, ini_X6, Or.inr ⟨by decide, t.1, mGd_in (i := 63) rfl rfl, rfl⟩, Or.inl ⟨rfl, rfl⟩⟩, mTokB_ok (by decide +kernel), rfl, co_X6⟩
set_option maxRecDepth 100000 in
theorem mo_X6_greenGoes : mMok m_X6_greenGoes :=
  have t := mGd_2 (i := 1546) (a := Cond.instanceMethod (mdY m_X6_greenGoes)) (b := (Cond.code (mdY m_X6_greenGoes) (mdB m_X6_greenGoes) (mdL m_X6_greenGoes) (mdR m_X6_greenGoes))) rfl rfl rfl
  ⟨⟨t.2, by decide, by decide +kernel, ⟨by decide +kernel, by decide +kernel, by decide +kernel⟩, ini_X6, Or.inr ⟨by decide, t.1, mGd_in (i := 66) rfl rfl, rfl⟩, Or.inl ⟨rfl, rfl⟩⟩, mTokB_ok (by decide +kernel), rfl, co_X6⟩
set_option maxRecDepth 100000 in
theorem mo_X6_ringGoes : mMok m_X6_ringGoes :=
  have t := mGd_2 (i := 1542) (a := Cond.instanceMethod (mdY m_X6_ringGoes)) (b := (Cond.code (mdY m_X6_ringGoes) (mdB m_X6_ringGoes) (mdL m_X6_ringGoes) (mdR m_X6_ringGoes))) rfl rfl rfl
  ⟨⟨t.2, by decide, by decide +kernel, ⟨by decide +kernel, by decide +kernel, by decide +kernel⟩, ini_X6, Or.inr ⟨by decide, t.1, mGd_in (i := 65) rfl rfl, rfl⟩, Or.inl ⟨rfl, rfl⟩⟩, mTokB_ok (by decide +kernel), rfl, co_X6⟩
set_option maxRecDepth 100000 in
theorem mo_X6_endOf : mMok m_X6_endOf :=
  have t := mGd_2 (i := 1396) (a := Cond.instanceMethod (mdY m_X6_endOf)) (b := (Cond.code (mdY m_X6_endOf) (mdB m_X6_endOf) (mdL m_X6_endOf) (mdR m_X6_endOf))) rfl rfl rfl
  ⟨⟨t.2, by decide, by decide +kernel, ⟨by decide +kernel, by decide +kernel, by decide +kernel⟩, ini_X6, Or.inr ⟨by decide, t.1, mGd_in (i := 45) rfl rfl, rfl⟩, Or.inr (Or.inl ⟨rfl, rfl⟩)⟩, mTokB_ok (by decide +kernel), rfl, co_X6⟩
set_option maxRecDepth 100000 in
theorem mo_X6_isForced : mMok m_X6_isForced :=
  have t := mGd_2 (i := 1392) (a := Cond.instanceMethod (mdY m_X6_isForced)) (b := (Cond.code (mdY m_X6_isForced) (mdB m_X6_isForced) (mdL m_X6_isForced) (mdR m_X6_isForced))) rfl rfl rfl
  ⟨⟨t.2, by decide, by decide +kernel, ⟨by decide +kernel, by decide +kernel, by decide +kernel⟩, ini_X6, Or.inr ⟨by decide, t.1, mGd_in (i := 44) rfl rfl, rfl⟩, Or.inr (Or.inr (Or.inl ⟨rfl, rfl⟩))⟩, mTokB_ok (by decide +kernel), rfl, co_X6⟩
set_option maxRecDepth 100000 in
theorem mo_X6_isFirst : mMok m_X6_isFirst :=
  have t := mGd_2 (i := 1403) (a := Cond.instanceMethod (mdY m_X6_isFirst)) (b := (Cond.code (mdY m_X6_isFirst) (mdB m_X6_isFirst) (mdL m_X6_isFirst) (mdR m_X6_isFirst))) rfl rfl rfl
  ⟨⟨t.2, by decide, by decide +kernel, ⟨by decide +kernel, by decide +kernel, by decide +kernel⟩, ini_X6, Or.inr ⟨by decide, t.1, mGd_in (i := 46) rfl rfl, rfl⟩, Or.inr (Or.inr (Or.inl ⟨rfl, rfl⟩))⟩, mTokB_ok (by decide +kernel), rfl, co_X6⟩
set_option maxRecDepth 100000 in
theorem mo_X6_isDone : mMok m_X6_isDone :=
  have t := mGd_2 (i := 1388) (a := Cond.instanceMethod (mdY m_X6_isDone)) (b := (Cond.code (mdY m_X6_isDone) (mdB m_X6_isDone) (mdL m_X6_isDone) (mdR m_X6_isDone))) rfl rfl rfl
  ⟨⟨t.2, by decide, by decide +kernel, ⟨by decide +kernel, by decide +kernel, by decide +kernel⟩, ini_X6, Or.inr ⟨by decide, t.1, mGd_in (i := 43) rfl rfl, rfl⟩, Or.inr (Or.inr (Or.inl ⟨rfl, rfl⟩))⟩, mTokB_ok (by decide +kernel), rfl, co_X6⟩
set_option maxRecDepth 100000 in
theorem mo_X6_goesOn : mMok m_X6_goesOn :=
  have t := mGd_2 (i := 1586) (a := Cond.instanceMethod (mdY m_X6_goesOn)) (b := (Cond.code (mdY m_X6_goesOn) (mdB m_X6_goesOn) (mdL m_X6_goesOn) (mdR m_X6_goesOn))) rfl rfl rfl
  ⟨⟨t.2, by decide, by decide +kernel, ⟨by decide +kernel, by decide +kernel, by decide +kernel⟩, ini_X6, Or.inr ⟨by decide, t.1, mGd_in (i := 76) rfl rfl, rfl⟩, Or.inl ⟨rfl, rfl⟩⟩, mTokB_ok (by decide +kernel), rfl, co_X6⟩
set_option maxRecDepth 100000 in
theorem mo_X6_becomes : mMok m_X6_becomes :=
  have t := mGd_2 (i := 1594) (a := Cond.instanceMethod (mdY m_X6_becomes)) (b := (Cond.code (mdY m_X6_becomes) (mdB m_X6_becomes) (mdL m_X6_becomes) (mdR m_X6_becomes))) rfl rfl rfl
  ⟨⟨t.2, by decide, by decide +kernel, ⟨by decide +kernel, by decide +kernel, by decide +kernel⟩, ini_X6, Or.inr ⟨by decide, t.1, mGd_in (i := 78) rfl rfl, rfl⟩, Or.inl ⟨rfl, rfl⟩⟩, mTokB_ok (by decide +kernel), rfl, co_X6⟩
set_option maxRecDepth 100000 in
theorem mo_X6_shown : mMok m_X6_shown :=
  have t := mGd_2 (i := 1451) (a := Cond.instanceMethod (mdY m_X6_shown)) (b := (Cond.code (mdY m_X6_shown) (mdB m_X6_shown) (mdL m_X6_shown) (mdR m_X6_shown))) rfl rfl rfl
  ⟨⟨t.2, by decide, by decide +kernel, ⟨by decide +kernel, by decide +kernel, by decide +kernel⟩, ini_X6, Or.inr ⟨by decide, t.1, mGd_in (i := 54) rfl rfl, rfl⟩, Or.inr (Or.inl ⟨rfl, rfl⟩)⟩, mTokB_ok (by decide +kernel), rfl, co_X6⟩
set_option maxRecDepth 100000 in
theorem mo_X6_watches : mMok m_X6_watches :=
  have t := mGd_2 (i := 1606) (a := Cond.instanceMethod (mdY m_X6_watches)) (b := (Cond.code (mdY m_X6_watches) (mdB m_X6_watches) (mdL m_X6_watches) (mdR m_X6_watches))) rfl rfl rfl
  ⟨⟨t.2, by decide, by decide +kernel, ⟨by decide +kernel, by decide +kernel, by decide +kernel⟩, ini_X6, Or.inr ⟨by decide, t.1, mGd_in (i := 81) rfl rfl, rfl⟩, Or.inl ⟨rfl, rfl⟩⟩, mTokB_ok (by decide +kernel), rfl, co_X6⟩
set_option maxRecDepth 100000 in
theorem mo_X6_queues : mMok m_X6_queues :=
  have t := mGd_2 (i := 1443) (a := Cond.instanceMethod (mdY m_X6_queues)) (b := (Cond.code (mdY m_X6_queues) (mdB m_X6_queues) (mdL m_X6_queues) (mdR m_X6_queues))) rfl rfl rfl
  ⟨⟨t.2, by decide, by decide +kernel, ⟨by decide +kernel, by decide +kernel, by decide +kernel⟩, ini_X6, Or.inr ⟨by decide, t.1, mGd_in (i := 52) rfl rfl, rfl⟩, Or.inr (Or.inl ⟨rfl, rfl⟩)⟩, mTokB_ok (by decide +kernel), rfl, co_X6⟩
set_option maxRecDepth 100000 in
theorem mo_X6_ticks : mMok m_X6_ticks :=
  have t := mGd_2 (i := 1519) (a := Cond.instanceMethod (mdY m_X6_ticks)) (b := (Cond.code (mdY m_X6_ticks) (mdB m_X6_ticks) (mdL m_X6_ticks) (mdR m_X6_ticks))) rfl rfl rfl
  ⟨⟨t.2, by decide, by decide +kernel, ⟨by decide +kernel, by decide +kernel, by decide +kernel⟩, ini_X6, Or.inr ⟨by decide, t.1, mGd_in (i := 60) rfl rfl, rfl⟩, Or.inl ⟨rfl, rfl⟩⟩, mTokB_ok (by decide +kernel), rfl, co_X6⟩
set_option maxRecDepth 100000 in
theorem mo_X6_ofBreak : mMok m_X6_ofBreak :=
  have t := mGd_2 (i := 1431) (a := Cond.instanceMethod (mdY m_X6_ofBreak)) (b := (Cond.code (mdY m_X6_ofBreak) (mdB m_X6_ofBreak) (mdL m_X6_ofBreak) (mdR m_X6_ofBreak))) rfl rfl rfl
  ⟨⟨t.2, by decide, by decide +kernel, ⟨by decide +kernel, by decide +kernel, by decide +kernel⟩, ini_X6, Or.inr ⟨by decide, t.1, mGd_in (i := 50) rfl rfl, rfl⟩, Or.inr (Or.inl ⟨rfl, rfl⟩)⟩, mTokB_ok (by decide +kernel), rfl, co_X6⟩
set_option maxRecDepth 100000 in
theorem mo_X6_noBreak : mMok m_X6_noBreak :=
  have t := mGd_2 (i := 1562) (a := Cond.instanceMethod (mdY m_X6_noBreak)) (b := (Cond.code (mdY m_X6_noBreak) (mdB m_X6_noBreak) (mdL m_X6_noBreak) (mdR m_X6_noBreak))) rfl rfl rfl
  ⟨⟨t.2, by decide, by decide +kernel, ⟨by decide +kernel, by decide +kernel, by decide +kernel⟩, ini_X6, Or.inr ⟨by decide, t.1, mGd_in (i := 70) rfl rfl, rfl⟩, Or.inl ⟨rfl, rfl⟩⟩, mTokB_ok (by decide +kernel), rfl, co_X6⟩
set_option maxRecDepth 100000 in
theorem mo_X6_isStage : mMok m_X6_isStage :=
  have t := mGd_2 (i := 1570) (a := Cond.instanceMethod (mdY m_X6_isStage)) (b := (Cond.code (mdY m_X6_isStage) (mdB m_X6_isStage) (mdL m_X6_isStage) (mdR m_X6_isStage))) rfl rfl rfl
  ⟨⟨t.2, by decide, by decide +kernel, ⟨by decide +kernel, by decide +kernel, by decide +kernel⟩, ini_X6, Or.inr ⟨by decide, t.1, mGd_in (i := 72) rfl rfl, rfl⟩, Or.inl ⟨rfl, rfl⟩⟩, mTokB_ok (by decide +kernel), rfl, co_X6⟩
set_option maxRecDepth 100000 in
theorem mo_X6_breakBegins : mMok m_X6_breakBegins :=
  have t := mGd_2 (i := 1566) (a := Cond.instanceMethod (mdY m_X6_breakBegins)) (b := (Cond.code (mdY m_X6_breakBegins) (mdB m_X6_breakBegins) (mdL m_X6_breakBegins) (mdR m_X6_breakBegins))) rfl rfl rfl
  ⟨⟨t.2, by decide, by decide +kernel, ⟨by decide +kernel, by decide +kernel, by decide +kernel⟩, ini_X6, Or.inr ⟨by decide, t.1, mGd_in (i := 71) rfl rfl, rfl⟩, Or.inl ⟨rfl, rfl⟩⟩, mTokB_ok (by decide +kernel), rfl, co_X6⟩
set_option maxRecDepth 100000 in
theorem mo_X6_breakEnds : mMok m_X6_breakEnds :=
  have t := mGd_2 (i := 1558) (a := Cond.instanceMethod (mdY m_X6_breakEnds)) (b := (Cond.code (mdY m_X6_breakEnds) (mdB m_X6_breakEnds) (mdL m_X6_breakEnds) (mdR m_X6_breakEnds))) rfl rfl rfl
  ⟨⟨t.2, by decide, by decide +kernel, ⟨by decide +kernel, by decide +kernel, by decide +kernel⟩, ini_X6, Or.inr ⟨by decide, t.1, mGd_in (i := 69) rfl rfl, rfl⟩, Or.inl ⟨rfl, rfl⟩⟩, mTokB_ok (by decide +kernel), rfl, co_X6⟩
set_option maxRecDepth 100000 in
theorem mo_X6_goal : mMok m_X6_goal :=
  have t := mGd_2 (i := 1578) (a := Cond.instanceMethod (mdY m_X6_goal)) (b := (Cond.code (mdY m_X6_goal) (mdB m_X6_goal) (mdL m_X6_goal) (mdR m_X6_goal))) rfl rfl rfl
  ⟨⟨t.2, by decide, by decide +kernel, ⟨by decide +kernel, by decide +kernel, by decide +kernel⟩, ini_X6, Or.inr ⟨by decide, t.1, mGd_in (i := 74) rfl rfl, rfl⟩, Or.inr (Or.inl ⟨rfl, rfl⟩)⟩, mTokB_ok (by decide +kernel), rfl, co_X6⟩
set_option maxRecDepth 100000 in
theorem mo_X6_goesTo : mMok m_X6_goesTo :=
  have t := mGd_2 (i := 1574) (a := Cond.instanceMethod (mdY m_X6_goesTo)) (b := (Cond.code (mdY m_X6_goesTo) (mdB m_X6_goesTo) (mdL m_X6_goesTo) (mdR m_X6_goesTo))) rfl rfl rfl
  ⟨⟨t.2, by decide, by decide +kernel, ⟨by decide +kernel, by decide +kernel, by decide +kernel⟩, ini_X6, Or.inr ⟨by decide, t.1, mGd_in (i := 73) rfl rfl, rfl⟩, Or.inl ⟨rfl, rfl⟩⟩, mTokB_ok (by decide +kernel), rfl, co_X6⟩
set_option maxRecDepth 100000 in
theorem mo_X6_breaks : mMok m_X6_breaks :=
  have t := mGd_2 (i := 1554) (a := Cond.instanceMethod (mdY m_X6_breaks)) (b := (Cond.code (mdY m_X6_breaks) (mdB m_X6_breaks) (mdL m_X6_breaks) (mdR m_X6_breaks))) rfl rfl rfl
  ⟨⟨t.2, by decide, by decide +kernel, ⟨by decide +kernel, by decide +kernel, by decide +kernel⟩, ini_X6, Or.inr ⟨by decide, t.1, mGd_in (i := 68) rfl rfl, rfl⟩, Or.inl ⟨rfl, rfl⟩⟩, mTokB_ok (by decide +kernel), rfl, co_X6⟩
set_option maxRecDepth 100000 in
theorem mo_X6_staged : mMok m_X6_staged :=
  have t := mGd_2 (i := 1602) (a := Cond.instanceMethod (mdY m_X6_staged)) (b := (Cond.code (mdY m_X6_staged) (mdB m_X6_staged) (mdL m_X6_staged) (mdR m_X6_staged))) rfl rfl rfl
  ⟨⟨t.2, by decide, by decide +kernel, ⟨by decide +kernel, by decide +kernel, by decide +kernel⟩, ini_X6, Or.inr ⟨by decide, t.1, mGd_in (i := 80) rfl rfl, rfl⟩, Or.inl ⟨rfl, rfl⟩⟩, mTokB_ok (by decide +kernel), rfl, co_X6⟩
set_option maxRecDepth 100000 in
theorem mo_X6_feed : mMok m_X6_feed :=
  have t := mGd_3 (i := 1246) (a := Cond.instanceMethod (mdY m_X6_feed)) (b := Cond.selects (mdY m_X6_feed).cls (mdY m_X6_feed) (mdY m_X6_feed)) (c := (Cond.code (mdY m_X6_feed) (mdB m_X6_feed) (mdL m_X6_feed) (mdR m_X6_feed))) rfl rfl rfl rfl
  ⟨⟨t.2.2, by decide, by decide +kernel, ⟨by decide +kernel, by decide +kernel, by decide +kernel⟩, ini_X6, Or.inr ⟨by decide, t.1, t.2.1, rfl⟩, Or.inr (Or.inl ⟨rfl, rfl⟩)⟩, mTokB_ok (by decide +kernel), rfl, co_X6⟩
set_option maxRecDepth 100000 in
theorem mo_X6_four : mMok m_X6_four :=
  have t := mGd_2 (i := 1251) (a := Cond.instanceMethod (mdY m_X6_four)) (b := (Cond.code (mdY m_X6_four) (mdB m_X6_four) (mdL m_X6_four) (mdR m_X6_four))) rfl rfl rfl
  ⟨⟨t.2, by decide, by decide +kernel, ⟨by decide +kernel, by decide +kernel, by decide +kernel⟩, ini_X6, Or.inr ⟨by decide, t.1, mGd_in (i := 19) rfl rfl, rfl⟩, Or.inl ⟨rfl, rfl⟩⟩, mTokB_ok (by decide +kernel), rfl, co_X6⟩
set_option maxRecDepth 100000 in
theorem mo_X6_byteAt : mMok m_X6_byteAt :=
  have t := mGd_2 (i := 1274) (a := Cond.instanceMethod (mdY m_X6_byteAt)) (b := (Cond.code (mdY m_X6_byteAt) (mdB m_X6_byteAt) (mdL m_X6_byteAt) (mdR m_X6_byteAt))) rfl rfl rfl
  ⟨⟨t.2, by decide, by decide +kernel, ⟨by decide +kernel, by decide +kernel, by decide +kernel⟩, ini_X6, Or.inr ⟨by decide, t.1, mGd_in (i := 23) rfl rfl, rfl⟩, Or.inr (Or.inl ⟨rfl, rfl⟩)⟩, mTokB_ok (by decide +kernel), rfl, co_X6⟩
set_option maxRecDepth 100000 in
theorem mo_X6_isSmall : mMok m_X6_isSmall :=
  have t := mGd_2 (i := 1277) (a := Cond.static (mdY m_X6_isSmall)) (b := (Cond.code (mdY m_X6_isSmall) (mdB m_X6_isSmall) (mdL m_X6_isSmall) (mdR m_X6_isSmall))) rfl rfl rfl
  ⟨⟨t.2, by decide, by decide +kernel, ⟨by decide +kernel, by decide +kernel, by decide +kernel⟩, ini_X6, Or.inl ⟨rfl, t.1⟩, Or.inr (Or.inr (Or.inl ⟨rfl, rfl⟩))⟩, mTokB_ok (by decide +kernel), rfl, co_X6⟩
set_option maxRecDepth 100000 in
theorem mo_X6_isDigit : mMok m_X6_isDigit :=
  have t := mGd_2 (i := 1280) (a := Cond.static (mdY m_X6_isDigit)) (b := (Cond.code (mdY m_X6_isDigit) (mdB m_X6_isDigit) (mdL m_X6_isDigit) (mdR m_X6_isDigit))) rfl rfl rfl
  ⟨⟨t.2, by decide, by decide +kernel, ⟨by decide +kernel, by decide +kernel, by decide +kernel⟩, ini_X6, Or.inl ⟨rfl, t.1⟩, Or.inr (Or.inr (Or.inl ⟨rfl, rfl⟩))⟩, mTokB_ok (by decide +kernel), rfl, co_X6⟩
set_option maxRecDepth 100000 in
theorem mo_X6_ahead : mMok m_X6_ahead :=
  have t := mGd_2 (i := 1270) (a := Cond.instanceMethod (mdY m_X6_ahead)) (b := (Cond.code (mdY m_X6_ahead) (mdB m_X6_ahead) (mdL m_X6_ahead) (mdR m_X6_ahead))) rfl rfl rfl
  ⟨⟨t.2, by decide, by decide +kernel, ⟨by decide +kernel, by decide +kernel, by decide +kernel⟩, ini_X6, Or.inr ⟨by decide, t.1, mGd_in (i := 22) rfl rfl, rfl⟩, Or.inl ⟨rfl, rfl⟩⟩, mTokB_ok (by decide +kernel), rfl, co_X6⟩
set_option maxRecDepth 100000 in
theorem mo_X6_key : mMok m_X6_key :=
  have t := mGd_2 (i := 1289) (a := Cond.instanceMethod (mdY m_X6_key)) (b := (Cond.code (mdY m_X6_key) (mdB m_X6_key) (mdL m_X6_key) (mdR m_X6_key))) rfl rfl rfl
  ⟨⟨t.2, by decide, by decide +kernel, ⟨by decide +kernel, by decide +kernel, by decide +kernel⟩, ini_X6, Or.inr ⟨by decide, t.1, mGd_in (i := 25) rfl rfl, rfl⟩, Or.inr (Or.inl ⟨rfl, rfl⟩)⟩, mTokB_ok (by decide +kernel), rfl, co_X6⟩
set_option maxRecDepth 100000 in
theorem mo_X6_fails : mMok m_X6_fails :=
  have t := mGd_2 (i := 1300) (a := Cond.instanceMethod (mdY m_X6_fails)) (b := (Cond.code (mdY m_X6_fails) (mdB m_X6_fails) (mdL m_X6_fails) (mdR m_X6_fails))) rfl rfl rfl
  ⟨⟨t.2, by decide, by decide +kernel, ⟨by decide +kernel, by decide +kernel, by decide +kernel⟩, ini_X6, Or.inr ⟨by decide, t.1, mGd_in (i := 27) rfl rfl, rfl⟩, Or.inr (Or.inr (Or.inl ⟨rfl, rfl⟩))⟩, mTokB_ok (by decide +kernel), rfl, co_X6⟩
set_option maxRecDepth 100000 in
theorem mo_X6_takes : mMok m_X6_takes :=
  have t := mGd_2 (i := 1308) (a := Cond.instanceMethod (mdY m_X6_takes)) (b := (Cond.code (mdY m_X6_takes) (mdB m_X6_takes) (mdL m_X6_takes) (mdR m_X6_takes))) rfl rfl rfl
  ⟨⟨t.2, by decide, by decide +kernel, ⟨by decide +kernel, by decide +kernel, by decide +kernel⟩, ini_X6, Or.inr ⟨by decide, t.1, mGd_in (i := 29) rfl rfl, rfl⟩, Or.inr (Or.inr (Or.inl ⟨rfl, rfl⟩))⟩, mTokB_ok (by decide +kernel), rfl, co_X6⟩
set_option maxRecDepth 100000 in
theorem mo_X6_takesNumber : mMok m_X6_takesNumber :=
  have t := mGd_2 (i := 1304) (a := Cond.instanceMethod (mdY m_X6_takesNumber)) (b := (Cond.code (mdY m_X6_takesNumber) (mdB m_X6_takesNumber) (mdL m_X6_takesNumber) (mdR m_X6_takesNumber))) rfl rfl rfl
  ⟨⟨t.2, by decide, by decide +kernel, ⟨by decide +kernel, by decide +kernel, by decide +kernel⟩, ini_X6, Or.inr ⟨by decide, t.1, mGd_in (i := 28) rfl rfl, rfl⟩, Or.inr (Or.inr (Or.inl ⟨rfl, rfl⟩))⟩, mTokB_ok (by decide +kernel), rfl, co_X6⟩
set_option maxRecDepth 100000 in
theorem mo_X6_takesWord : mMok m_X6_takesWord :=
  have t := mGd_2 (i := 1344) (a := Cond.instanceMethod (mdY m_X6_takesWord)) (b := (Cond.code (mdY m_X6_takesWord) (mdB m_X6_takesWord) (mdL m_X6_takesWord) (mdR m_X6_takesWord))) rfl rfl rfl
  ⟨⟨t.2, by decide, by decide +kernel, ⟨by decide +kernel, by decide +kernel, by decide +kernel⟩, ini_X6, Or.inr ⟨by decide, t.1, mGd_in (i := 35) rfl rfl, rfl⟩, Or.inr (Or.inr (Or.inl ⟨rfl, rfl⟩))⟩, mTokB_ok (by decide +kernel), rfl, co_X6⟩
set_option maxRecDepth 100000 in
theorem mo_X6_leastOf : mMok m_X6_leastOf :=
  have t := mGd_2 (i := 1318) (a := Cond.static (mdY m_X6_leastOf)) (b := (Cond.code (mdY m_X6_leastOf) (mdB m_X6_leastOf) (mdL m_X6_leastOf) (mdR m_X6_leastOf))) rfl rfl rfl
  ⟨⟨t.2, by decide, by decide +kernel, ⟨by decide +kernel, by decide +kernel, by decide +kernel⟩, ini_X6, Or.inl ⟨rfl, t.1⟩, Or.inr (Or.inl ⟨rfl, rfl⟩)⟩, mTokB_ok (by decide +kernel), rfl, co_X6⟩
set_option maxRecDepth 100000 in
theorem mo_X6_mostOf : mMok m_X6_mostOf :=
  have t := mGd_2 (i := 1321) (a := Cond.static (mdY m_X6_mostOf)) (b := (Cond.code (mdY m_X6_mostOf) (mdB m_X6_mostOf) (mdL m_X6_mostOf) (mdR m_X6_mostOf))) rfl rfl rfl
  ⟨⟨t.2, by decide, by decide +kernel, ⟨by decide +kernel, by decide +kernel, by decide +kernel⟩, ini_X6, Or.inl ⟨rfl, t.1⟩, Or.inr (Or.inl ⟨rfl, rfl⟩)⟩, mTokB_ok (by decide +kernel), rfl, co_X6⟩
set_option maxRecDepth 100000 in
theorem mo_X6_aPhase : mMok m_X6_aPhase :=
  have t := mGd_2 (i := 1296) (a := Cond.instanceMethod (mdY m_X6_aPhase)) (b := (Cond.code (mdY m_X6_aPhase) (mdB m_X6_aPhase) (mdL m_X6_aPhase) (mdR m_X6_aPhase))) rfl rfl rfl
  ⟨⟨t.2, by decide, by decide +kernel, ⟨by decide +kernel, by decide +kernel, by decide +kernel⟩, ini_X6, Or.inr ⟨by decide, t.1, mGd_in (i := 26) rfl rfl, rfl⟩, Or.inr (Or.inr (Or.inl ⟨rfl, rfl⟩))⟩, mTokB_ok (by decide +kernel), rfl, co_X6⟩
set_option maxRecDepth 100000 in
theorem mo_X6_aSet : mMok m_X6_aSet :=
  have t := mGd_2 (i := 1348) (a := Cond.instanceMethod (mdY m_X6_aSet)) (b := (Cond.code (mdY m_X6_aSet) (mdB m_X6_aSet) (mdL m_X6_aSet) (mdR m_X6_aSet))) rfl rfl rfl
  ⟨⟨t.2, by decide, by decide +kernel, ⟨by decide +kernel, by decide +kernel, by decide +kernel⟩, ini_X6, Or.inr ⟨by decide, t.1, mGd_in (i := 36) rfl rfl, rfl⟩, Or.inr (Or.inr (Or.inl ⟨rfl, rfl⟩))⟩, mTokB_ok (by decide +kernel), rfl, co_X6⟩
set_option maxRecDepth 100000 in
theorem mo_X6_aGoal : mMok m_X6_aGoal :=
  have t := mGd_2 (i := 1340) (a := Cond.instanceMethod (mdY m_X6_aGoal)) (b := (Cond.code (mdY m_X6_aGoal) (mdB m_X6_aGoal) (mdL m_X6_aGoal) (mdR m_X6_aGoal))) rfl rfl rfl
  ⟨⟨t.2, by decide, by decide +kernel, ⟨by decide +kernel, by decide +kernel, by decide +kernel⟩, ini_X6, Or.inr ⟨by decide, t.1, mGd_in (i := 34) rfl rfl, rfl⟩, Or.inr (Or.inr (Or.inl ⟨rfl, rfl⟩))⟩, mTokB_ok (by decide +kernel), rfl, co_X6⟩
set_option maxRecDepth 100000 in
theorem mo_X6_aBreak : mMok m_X6_aBreak :=
  have t := mGd_2 (i := 1336) (a := Cond.instanceMethod (mdY m_X6_aBreak)) (b := (Cond.code (mdY m_X6_aBreak) (mdB m_X6_aBreak) (mdL m_X6_aBreak) (mdR m_X6_aBreak))) rfl rfl rfl
  ⟨⟨t.2, by decide, by decide +kernel, ⟨by decide +kernel, by decide +kernel, by decide +kernel⟩, ini_X6, Or.inr ⟨by decide, t.1, mGd_in (i := 33) rfl rfl, rfl⟩, Or.inr (Or.inr (Or.inl ⟨rfl, rfl⟩))⟩, mTokB_ok (by decide +kernel), rfl, co_X6⟩
set_option maxRecDepth 100000 in
theorem mo_X6_isCycle : mMok m_X6_isCycle :=
  have t := mGd_2 (i := 1332) (a := Cond.static (mdY m_X6_isCycle)) (b := (Cond.code (mdY m_X6_isCycle) (mdB m_X6_isCycle) (mdL m_X6_isCycle) (mdR m_X6_isCycle))) rfl rfl rfl
  ⟨⟨t.2, by decide, by decide +kernel, ⟨by decide +kernel, by decide +kernel, by decide +kernel⟩, ini_X6, Or.inl ⟨rfl, t.1⟩, Or.inr (Or.inr (Or.inl ⟨rfl, rfl⟩))⟩, mTokB_ok (by decide +kernel), rfl, co_X6⟩
set_option maxRecDepth 100000 in
theorem mo_X6_aClock : mMok m_X6_aClock :=
  have t := mGd_2 (i := 1329) (a := Cond.instanceMethod (mdY m_X6_aClock)) (b := (Cond.code (mdY m_X6_aClock) (mdB m_X6_aClock) (mdL m_X6_aClock) (mdR m_X6_aClock))) rfl rfl rfl
  ⟨⟨t.2, by decide, by decide +kernel, ⟨by decide +kernel, by decide +kernel, by decide +kernel⟩, ini_X6, Or.inr ⟨by decide, t.1, mGd_in (i := 32) rfl rfl, rfl⟩, Or.inr (Or.inr (Or.inl ⟨rfl, rfl⟩))⟩, mTokB_ok (by decide +kernel), rfl, co_X6⟩
set_option maxRecDepth 100000 in
theorem mo_X6_aLine : mMok m_X6_aLine :=
  have t := mGd_2 (i := 1285) (a := Cond.instanceMethod (mdY m_X6_aLine)) (b := (Cond.code (mdY m_X6_aLine) (mdB m_X6_aLine) (mdL m_X6_aLine) (mdR m_X6_aLine))) rfl rfl rfl
  ⟨⟨t.2, by decide, by decide +kernel, ⟨by decide +kernel, by decide +kernel, by decide +kernel⟩, ini_X6, Or.inr ⟨by decide, t.1, mGd_in (i := 24) rfl rfl, rfl⟩, Or.inr (Or.inr (Or.inl ⟨rfl, rfl⟩))⟩, mTokB_ok (by decide +kernel), rfl, co_X6⟩
set_option maxRecDepth 100000 in
theorem mo_X6_load : mMok m_X6_load :=
  have t := mGd_3 (i := 1254) (a := Cond.instanceMethod (mdY m_X6_load)) (b := Cond.selects (mdY m_X6_load).cls (mdY m_X6_load) (mdY m_X6_load)) (c := (Cond.code (mdY m_X6_load) (mdB m_X6_load) (mdL m_X6_load) (mdR m_X6_load))) rfl rfl rfl rfl
  ⟨⟨t.2.2, by decide, by decide +kernel, ⟨by decide +kernel, by decide +kernel, by decide +kernel⟩, ini_X6, Or.inr ⟨by decide, t.1, t.2.1, rfl⟩, Or.inr (Or.inl ⟨rfl, rfl⟩)⟩, mTokB_ok (by decide +kernel), rfl, co_X6⟩
set_option maxRecDepth 100000 in
theorem mo_X6_fault : mMok m_X6_fault :=
  have t := mGd_3 (i := 1367) (a := Cond.instanceMethod (mdY m_X6_fault)) (b := Cond.selects (mdY m_X6_fault).cls (mdY m_X6_fault) (mdY m_X6_fault)) (c := (Cond.code (mdY m_X6_fault) (mdB m_X6_fault) (mdL m_X6_fault) (mdR m_X6_fault))) rfl rfl rfl rfl
  ⟨⟨t.2.2, by decide, by decide +kernel, ⟨by decide +kernel, by decide +kernel, by decide +kernel⟩, ini_X6, Or.inr ⟨by decide, t.1, t.2.1, rfl⟩, Or.inr (Or.inl ⟨rfl, rfl⟩)⟩, mTokB_ok (by decide +kernel), rfl, co_X6⟩
set_option maxRecDepth 100000 in
theorem mo_X6_many : mMok m_X6_many :=
  have t := mGd_3 (i := 1371) (a := Cond.instanceMethod (mdY m_X6_many)) (b := Cond.selects (mdY m_X6_many).cls (mdY m_X6_many) (mdY m_X6_many)) (c := (Cond.code (mdY m_X6_many) (mdB m_X6_many) (mdL m_X6_many) (mdR m_X6_many))) rfl rfl rfl rfl
  ⟨⟨t.2.2, by decide, by decide +kernel, ⟨by decide +kernel, by decide +kernel, by decide +kernel⟩, ini_X6, Or.inr ⟨by decide, t.1, t.2.1, rfl⟩, Or.inr (Or.inl ⟨rfl, rfl⟩)⟩, mTokB_ok (by decide +kernel), rfl, co_X6⟩
set_option maxRecDepth 100000 in
theorem mo_X6_ring_ : mMok m_X6_ring_ :=
  have t := mGd_3 (i := 1375) (a := Cond.instanceMethod (mdY m_X6_ring_)) (b := Cond.selects (mdY m_X6_ring_).cls (mdY m_X6_ring_) (mdY m_X6_ring_)) (c := (Cond.code (mdY m_X6_ring_) (mdB m_X6_ring_) (mdL m_X6_ring_) (mdR m_X6_ring_))) rfl rfl rfl rfl
  ⟨⟨t.2.2, by decide, by decide +kernel, ⟨by decide +kernel, by decide +kernel, by decide +kernel⟩, ini_X6, Or.inr ⟨by decide, t.1, t.2.1, rfl⟩, Or.inr (Or.inl ⟨rfl, rfl⟩)⟩, mTokB_ok (by decide +kernel), rfl, co_X6⟩
set_option maxRecDepth 100000 in
theorem mo_X6_lampOf : mMok m_X6_lampOf :=
  have t := mGd_2 (i := 1415) (a := Cond.instanceMethod (mdY m_X6_lampOf)) (b := (Cond.code (mdY m_X6_lampOf) (mdB m_X6_lampOf) (mdL m_X6_lampOf) (mdR m_X6_lampOf))) rfl rfl rfl
  ⟨⟨t.2, by decide, by decide +kernel, ⟨by decide +kernel, by decide +kernel, by decide +kernel⟩, ini_X6, Or.inr ⟨by decide, t.1, mGd_in (i := 48) rfl rfl, rfl⟩, Or.inr (Or.inl ⟨rfl, rfl⟩)⟩, mTokB_ok (by decide +kernel), rfl, co_X6⟩
set_option maxRecDepth 100000 in
theorem mo_X6_phase : mMok m_X6_phase :=
  have t := mGd_3 (i := 1406) (a := Cond.instanceMethod (mdY m_X6_phase)) (b := Cond.selects (mdY m_X6_phase).cls (mdY m_X6_phase) (mdY m_X6_phase)) (c := (Cond.code (mdY m_X6_phase) (mdB m_X6_phase) (mdL m_X6_phase) (mdR m_X6_phase))) rfl rfl rfl rfl
  ⟨⟨t.2.2, by decide, by decide +kernel, ⟨by decide +kernel, by decide +kernel, by decide +kernel⟩, ini_X6, Or.inr ⟨by decide, t.1, t.2.1, rfl⟩, Or.inr (Or.inl ⟨rfl, rfl⟩)⟩, mTokB_ok (by decide +kernel), rfl, co_X6⟩
set_option maxRecDepth 100000 in
theorem mo_X6_marked : mMok m_X6_marked :=
  have t := mGd_3 (i := 1422) (a := Cond.instanceMethod (mdY m_X6_marked)) (b := Cond.selects (mdY m_X6_marked).cls (mdY m_X6_marked) (mdY m_X6_marked)) (c := (Cond.code (mdY m_X6_marked) (mdB m_X6_marked) (mdL m_X6_marked) (mdR m_X6_marked))) rfl rfl rfl rfl
  ⟨⟨t.2.2, by decide, by decide +kernel, ⟨by decide +kernel, by decide +kernel, by decide +kernel⟩, ini_X6, Or.inr ⟨by decide, t.1, t.2.1, rfl⟩, Or.inr (Or.inl ⟨rfl, rfl⟩)⟩, mTokB_ok (by decide +kernel), rfl, co_X6⟩
set_option maxRecDepth 100000 in
theorem mo_X6_brake : mMok m_X6_brake :=
  have t := mGd_3 (i := 1426) (a := Cond.instanceMethod (mdY m_X6_brake)) (b := Cond.selects (mdY m_X6_brake).cls (mdY m_X6_brake) (mdY m_X6_brake)) (c := (Cond.code (mdY m_X6_brake) (mdB m_X6_brake) (mdL m_X6_brake) (mdR m_X6_brake))) rfl rfl rfl rfl
  ⟨⟨t.2.2, by decide, by decide +kernel, ⟨by decide +kernel, by decide +kernel, by decide +kernel⟩, ini_X6, Or.inr ⟨by decide, t.1, t.2.1, rfl⟩, Or.inr (Or.inl ⟨rfl, rfl⟩)⟩, mTokB_ok (by decide +kernel), rfl, co_X6⟩
set_option maxRecDepth 100000 in
theorem mo_X6_greatest : mMok m_X6_greatest :=
  have t := mGd_2 (i := 1447) (a := Cond.instanceMethod (mdY m_X6_greatest)) (b := (Cond.code (mdY m_X6_greatest) (mdB m_X6_greatest) (mdL m_X6_greatest) (mdR m_X6_greatest))) rfl rfl rfl
  ⟨⟨t.2, by decide, by decide +kernel, ⟨by decide +kernel, by decide +kernel, by decide +kernel⟩, ini_X6, Or.inr ⟨by decide, t.1, mGd_in (i := 53) rfl rfl, rfl⟩, Or.inr (Or.inl ⟨rfl, rfl⟩)⟩, mTokB_ok (by decide +kernel), rfl, co_X6⟩
set_option maxRecDepth 100000 in
theorem mo_X6_goneAll : mMok m_X6_goneAll :=
  have t := mGd_2 (i := 1439) (a := Cond.instanceMethod (mdY m_X6_goneAll)) (b := (Cond.code (mdY m_X6_goneAll) (mdB m_X6_goneAll) (mdL m_X6_goneAll) (mdR m_X6_goneAll))) rfl rfl rfl
  ⟨⟨t.2, by decide, by decide +kernel, ⟨by decide +kernel, by decide +kernel, by decide +kernel⟩, ini_X6, Or.inr ⟨by decide, t.1, mGd_in (i := 51) rfl rfl, rfl⟩, Or.inr (Or.inl ⟨rfl, rfl⟩)⟩, mTokB_ok (by decide +kernel), rfl, co_X6⟩
set_option maxRecDepth 100000 in
theorem mo_X6_sum : mMok m_X6_sum :=
  have t := mGd_3 (i := 1434) (a := Cond.instanceMethod (mdY m_X6_sum)) (b := Cond.selects (mdY m_X6_sum).cls (mdY m_X6_sum) (mdY m_X6_sum)) (c := (Cond.code (mdY m_X6_sum) (mdB m_X6_sum) (mdL m_X6_sum) (mdR m_X6_sum))) rfl rfl rfl rfl
  ⟨⟨t.2.2, by decide, by decide +kernel, ⟨by decide +kernel, by decide +kernel, by decide +kernel⟩, ini_X6, Or.inr ⟨by decide, t.1, t.2.1, rfl⟩, Or.inr (Or.inl ⟨rfl, rfl⟩)⟩, mTokB_ok (by decide +kernel), rfl, co_X6⟩
set_option maxRecDepth 100000 in
theorem mo_X6_event : mMok m_X6_event :=
  have t := mGd_3 (i := 1454) (a := Cond.instanceMethod (mdY m_X6_event)) (b := Cond.selects (mdY m_X6_event).cls (mdY m_X6_event) (mdY m_X6_event)) (c := (Cond.code (mdY m_X6_event) (mdB m_X6_event) (mdL m_X6_event) (mdR m_X6_event))) rfl rfl rfl rfl
  ⟨⟨t.2.2, by decide, by decide +kernel, ⟨by decide +kernel, by decide +kernel, by decide +kernel⟩, ini_X6, Or.inr ⟨by decide, t.1, t.2.1, rfl⟩, Or.inr (Or.inl ⟨rfl, rfl⟩)⟩, mTokB_ok (by decide +kernel), rfl, co_X6⟩
set_option maxRecDepth 100000 in
theorem mo_X6_mark_ : mMok m_X6_mark_ :=
  have t := mGd_3 (i := 1458) (a := Cond.instanceMethod (mdY m_X6_mark_)) (b := Cond.selects (mdY m_X6_mark_).cls (mdY m_X6_mark_) (mdY m_X6_mark_)) (c := (Cond.code (mdY m_X6_mark_) (mdB m_X6_mark_) (mdL m_X6_mark_) (mdR m_X6_mark_))) rfl rfl rfl rfl
  ⟨⟨t.2.2, by decide, by decide +kernel, ⟨by decide +kernel, by decide +kernel, by decide +kernel⟩, ini_X6, Or.inr ⟨by decide, t.1, t.2.1, rfl⟩, Or.inr (Or.inl ⟨rfl, rfl⟩)⟩, mTokB_ok (by decide +kernel), rfl, co_X6⟩
set_option maxRecDepth 100000 in
theorem mo_X6_clock : mMok m_X6_clock :=
  have t := mGd_3 (i := 1462) (a := Cond.instanceMethod (mdY m_X6_clock)) (b := Cond.selects (mdY m_X6_clock).cls (mdY m_X6_clock) (mdY m_X6_clock)) (c := (Cond.code (mdY m_X6_clock) (mdB m_X6_clock) (mdL m_X6_clock) (mdR m_X6_clock))) rfl rfl rfl rfl
  ⟨⟨t.2.2, by decide, by decide +kernel, ⟨by decide +kernel, by decide +kernel, by decide +kernel⟩, ini_X6, Or.inr ⟨by decide, t.1, t.2.1, rfl⟩, Or.inr (Or.inl ⟨rfl, rfl⟩)⟩, mTokB_ok (by decide +kernel), rfl, co_X6⟩
set_option maxRecDepth 100000 in
theorem mo_X6_calls : mMok m_X6_calls :=
  have t := mGd_2 (i := 1475) (a := Cond.instanceMethod (mdY m_X6_calls)) (b := (Cond.code (mdY m_X6_calls) (mdB m_X6_calls) (mdL m_X6_calls) (mdR m_X6_calls))) rfl rfl rfl
  ⟨⟨t.2, by decide, by decide +kernel, ⟨by decide +kernel, by decide +kernel, by decide +kernel⟩, ini_X6, Or.inr ⟨by decide, t.1, mGd_in (i := 56) rfl rfl, rfl⟩, Or.inl ⟨rfl, rfl⟩⟩, mTokB_ok (by decide +kernel), rfl, co_X6⟩
set_option maxRecDepth 100000 in
theorem mo_X6_call : mMok m_X6_call :=
  have t := mGd_3 (i := 1466) (a := Cond.instanceMethod (mdY m_X6_call)) (b := Cond.selects (mdY m_X6_call).cls (mdY m_X6_call) (mdY m_X6_call)) (c := (Cond.code (mdY m_X6_call) (mdB m_X6_call) (mdL m_X6_call) (mdR m_X6_call))) rfl rfl rfl rfl
  ⟨⟨t.2.2, by decide, by decide +kernel, ⟨by decide +kernel, by decide +kernel, by decide +kernel⟩, ini_X6, Or.inr ⟨by decide, t.1, t.2.1, rfl⟩, Or.inr (Or.inr (Or.inl ⟨rfl, rfl⟩))⟩, mTokB_ok (by decide +kernel), rfl, co_X6⟩
set_option maxRecDepth 100000 in
theorem mo_X6_come : mMok m_X6_come :=
  have t := mGd_3 (i := 1478) (a := Cond.instanceMethod (mdY m_X6_come)) (b := Cond.selects (mdY m_X6_come).cls (mdY m_X6_come) (mdY m_X6_come)) (c := (Cond.code (mdY m_X6_come) (mdB m_X6_come) (mdL m_X6_come) (mdR m_X6_come))) rfl rfl rfl rfl
  ⟨⟨t.2.2, by decide, by decide +kernel, ⟨by decide +kernel, by decide +kernel, by decide +kernel⟩, ini_X6, Or.inr ⟨by decide, t.1, t.2.1, rfl⟩, Or.inr (Or.inl ⟨rfl, rfl⟩)⟩, mTokB_ok (by decide +kernel), rfl, co_X6⟩
set_option maxRecDepth 100000 in
theorem mo_X6_isWanted : mMok m_X6_isWanted :=
  have t := mGd_2 (i := 1487) (a := Cond.instanceMethod (mdY m_X6_isWanted)) (b := (Cond.code (mdY m_X6_isWanted) (mdB m_X6_isWanted) (mdL m_X6_isWanted) (mdR m_X6_isWanted))) rfl rfl rfl
  ⟨⟨t.2, by decide, by decide +kernel, ⟨by decide +kernel, by decide +kernel, by decide +kernel⟩, ini_X6, Or.inr ⟨by decide, t.1, mGd_in (i := 57) rfl rfl, rfl⟩, Or.inr (Or.inr (Or.inl ⟨rfl, rfl⟩))⟩, mTokB_ok (by decide +kernel), rfl, co_X6⟩
set_option maxRecDepth 100000 in
theorem mo_X6_ask : mMok m_X6_ask :=
  have t := mGd_3 (i := 1482) (a := Cond.instanceMethod (mdY m_X6_ask)) (b := Cond.selects (mdY m_X6_ask).cls (mdY m_X6_ask) (mdY m_X6_ask)) (c := (Cond.code (mdY m_X6_ask) (mdB m_X6_ask) (mdL m_X6_ask) (mdR m_X6_ask))) rfl rfl rfl rfl
  ⟨⟨t.2.2, by decide, by decide +kernel, ⟨by decide +kernel, by decide +kernel, by decide +kernel⟩, ini_X6, Or.inr ⟨by decide, t.1, t.2.1, rfl⟩, Or.inr (Or.inr (Or.inl ⟨rfl, rfl⟩))⟩, mTokB_ok (by decide +kernel), rfl, co_X6⟩
set_option maxRecDepth 100000 in
theorem mo_X6_let : mMok m_X6_let :=
  have t := mGd_3 (i := 1490) (a := Cond.instanceMethod (mdY m_X6_let)) (b := Cond.selects (mdY m_X6_let).cls (mdY m_X6_let) (mdY m_X6_let)) (c := (Cond.code (mdY m_X6_let) (mdB m_X6_let) (mdL m_X6_let) (mdR m_X6_let))) rfl rfl rfl rfl
  ⟨⟨t.2.2, by decide, by decide +kernel, ⟨by decide +kernel, by decide +kernel, by decide +kernel⟩, ini_X6, Or.inr ⟨by decide, t.1, t.2.1, rfl⟩, Or.inr (Or.inr (Or.inl ⟨rfl, rfl⟩))⟩, mTokB_ok (by decide +kernel), rfl, co_X6⟩
set_option maxRecDepth 100000 in
theorem mo_X6_isSet : mMok m_X6_isSet :=
  have t := mGd_2 (i := 1499) (a := Cond.instanceMethod (mdY m_X6_isSet)) (b := (Cond.code (mdY m_X6_isSet) (mdB m_X6_isSet) (mdL m_X6_isSet) (mdR m_X6_isSet))) rfl rfl rfl
  ⟨⟨t.2, by decide, by decide +kernel, ⟨by decide +kernel, by decide +kernel, by decide +kernel⟩, ini_X6, Or.inr ⟨by decide, t.1, mGd_in (i := 58) rfl rfl, rfl⟩, Or.inr (Or.inr (Or.inl ⟨rfl, rfl⟩))⟩, mTokB_ok (by decide +kernel), rfl, co_X6⟩
set_option maxRecDepth 100000 in
theorem mo_X6_brakes : mMok m_X6_brakes :=
  have t := mGd_3 (i := 1494) (a := Cond.instanceMethod (mdY m_X6_brakes)) (b := Cond.selects (mdY m_X6_brakes).cls (mdY m_X6_brakes) (mdY m_X6_brakes)) (c := (Cond.code (mdY m_X6_brakes) (mdB m_X6_brakes) (mdL m_X6_brakes) (mdR m_X6_brakes))) rfl rfl rfl rfl
  ⟨⟨t.2.2, by decide, by decide +kernel, ⟨by decide +kernel, by decide +kernel, by decide +kernel⟩, ini_X6, Or.inr ⟨by decide, t.1, t.2.1, rfl⟩, Or.inr (Or.inr (Or.inl ⟨rfl, rfl⟩))⟩, mTokB_ok (by decide +kernel), rfl, co_X6⟩
set_option maxRecDepth 100000 in
theorem mo_X6_stick : mMok m_X6_stick :=
  have t := mGd_3 (i := 1502) (a := Cond.instanceMethod (mdY m_X6_stick)) (b := Cond.selects (mdY m_X6_stick).cls (mdY m_X6_stick) (mdY m_X6_stick)) (c := (Cond.code (mdY m_X6_stick) (mdB m_X6_stick) (mdL m_X6_stick) (mdR m_X6_stick))) rfl rfl rfl rfl
  ⟨⟨t.2.2, by decide, by decide +kernel, ⟨by decide +kernel, by decide +kernel, by decide +kernel⟩, ini_X6, Or.inr ⟨by decide, t.1, t.2.1, rfl⟩, Or.inr (Or.inr (Or.inl ⟨rfl, rfl⟩))⟩, mTokB_ok (by decide +kernel), rfl, co_X6⟩
set_option maxRecDepth 100000 in
theorem mo_X6_reset : mMok m_X6_reset :=
  have t := mGd_3 (i := 1506) (a := Cond.instanceMethod (mdY m_X6_reset)) (b := Cond.selects (mdY m_X6_reset).cls (mdY m_X6_reset) (mdY m_X6_reset)) (c := (Cond.code (mdY m_X6_reset) (mdB m_X6_reset) (mdL m_X6_reset) (mdR m_X6_reset))) rfl rfl rfl rfl
  ⟨⟨t.2.2, by decide, by decide +kernel, ⟨by decide +kernel, by decide +kernel, by decide +kernel⟩, ini_X6, Or.inr ⟨by decide, t.1, t.2.1, rfl⟩, Or.inr (Or.inr (Or.inl ⟨rfl, rfl⟩))⟩, mTokB_ok (by decide +kernel), rfl, co_X6⟩
set_option maxRecDepth 100000 in
theorem mo_X6_tick : mMok m_X6_tick :=
  have t := mGd_3 (i := 1514) (a := Cond.instanceMethod (mdY m_X6_tick)) (b := Cond.selects (mdY m_X6_tick).cls (mdY m_X6_tick) (mdY m_X6_tick)) (c := (Cond.code (mdY m_X6_tick) (mdB m_X6_tick) (mdL m_X6_tick) (mdR m_X6_tick))) rfl rfl rfl rfl
  ⟨⟨t.2.2, by decide, by decide +kernel, ⟨by decide +kernel, by decide +kernel, by decide +kernel⟩, ini_X6, Or.inr ⟨by decide, t.1, t.2.1, rfl⟩, Or.inr (Or.inl ⟨rfl, rfl⟩)⟩, mTokB_ok (by decide +kernel), rfl, co_X6⟩
set_option maxRecDepth 100000 in
theorem mo_X6_run : mMok m_X6_run :=
  have t := mGd_3 (i := 1609) (a := Cond.instanceMethod (mdY m_X6_run)) (b := Cond.selects (mdY m_X6_run).cls (mdY m_X6_run) (mdY m_X6_run)) (c := (Cond.code (mdY m_X6_run) (mdB m_X6_run) (mdL m_X6_run) (mdR m_X6_run))) rfl rfl rfl rfl
  ⟨⟨t.2.2, by decide, by decide +kernel, ⟨by decide +kernel, by decide +kernel, by decide +kernel⟩, ini_X6, Or.inr ⟨by decide, t.1, t.2.1, rfl⟩, Or.inr (Or.inl ⟨rfl, rfl⟩)⟩, mTokB_ok (by decide +kernel), rfl, co_X6⟩
set_option maxRecDepth 100000 in
theorem mo_X6_keep : mMok m_X6_keep :=
  have t := mGd_3 (i := 1613) (a := Cond.instanceMethod (mdY m_X6_keep)) (b := Cond.selects (mdY m_X6_keep).cls (mdY m_X6_keep) (mdY m_X6_keep)) (c := (Cond.code (mdY m_X6_keep) (mdB m_X6_keep) (mdL m_X6_keep) (mdR m_X6_keep))) rfl rfl rfl rfl
  ⟨⟨t.2.2, by decide, by decide +kernel, ⟨by decide +kernel, by decide +kernel, by decide +kernel⟩, ini_X6, Or.inr ⟨by decide, t.1, t.2.1, rfl⟩, Or.inr (Or.inl ⟨rfl, rfl⟩)⟩, mTokB_ok (by decide +kernel), rfl, co_X6⟩
set_option maxRecDepth 100000 in
theorem mo_X6_back : mMok m_X6_back :=
  have t := mGd_3 (i := 1617) (a := Cond.instanceMethod (mdY m_X6_back)) (b := Cond.selects (mdY m_X6_back).cls (mdY m_X6_back) (mdY m_X6_back)) (c := (Cond.code (mdY m_X6_back) (mdB m_X6_back) (mdL m_X6_back) (mdR m_X6_back))) rfl rfl rfl rfl
  ⟨⟨t.2.2, by decide, by decide +kernel, ⟨by decide +kernel, by decide +kernel, by decide +kernel⟩, ini_X6, Or.inr ⟨by decide, t.1, t.2.1, rfl⟩, Or.inr (Or.inl ⟨rfl, rfl⟩)⟩, mTokB_ok (by decide +kernel), rfl, co_X6⟩
set_option maxRecDepth 100000 in
theorem mo_X6_foes : mMok m_X6_foes :=
  have t := mGd_3 (i := 1621) (a := Cond.instanceMethod (mdY m_X6_foes)) (b := Cond.selects (mdY m_X6_foes).cls (mdY m_X6_foes) (mdY m_X6_foes)) (c := (Cond.code (mdY m_X6_foes) (mdB m_X6_foes) (mdL m_X6_foes) (mdR m_X6_foes))) rfl rfl rfl rfl
  ⟨⟨t.2.2, by decide, by decide +kernel, ⟨by decide +kernel, by decide +kernel, by decide +kernel⟩, ini_X6, Or.inr ⟨by decide, t.1, t.2.1, rfl⟩, Or.inr (Or.inl ⟨rfl, rfl⟩)⟩, mTokB_ok (by decide +kernel), rfl, co_X6⟩
set_option maxRecDepth 100000 in
theorem mo_X6_isFull : mMok m_X6_isFull :=
  have t := mGd_2 (i := 1630) (a := Cond.instanceMethod (mdY m_X6_isFull)) (b := (Cond.code (mdY m_X6_isFull) (mdB m_X6_isFull) (mdL m_X6_isFull) (mdR m_X6_isFull))) rfl rfl rfl
  ⟨⟨t.2, by decide, by decide +kernel, ⟨by decide +kernel, by decide +kernel, by decide +kernel⟩, ini_X6, Or.inr ⟨by decide, t.1, mGd_in (i := 82) rfl rfl, rfl⟩, Or.inr (Or.inr (Or.inl ⟨rfl, rfl⟩))⟩, mTokB_ok (by decide +kernel), rfl, co_X6⟩
set_option maxRecDepth 100000 in
theorem mo_X6_queuesIn : mMok m_X6_queuesIn :=
  have t := mGd_2 (i := 1634) (a := Cond.instanceMethod (mdY m_X6_queuesIn)) (b := (Cond.code (mdY m_X6_queuesIn) (mdB m_X6_queuesIn) (mdL m_X6_queuesIn) (mdR m_X6_queuesIn))) rfl rfl rfl
  ⟨⟨t.2, by decide, by decide +kernel, ⟨by decide +kernel, by decide +kernel, by decide +kernel⟩, ini_X6, Or.inr ⟨by decide, t.1, mGd_in (i := 83) rfl rfl, rfl⟩, Or.inr (Or.inl ⟨rfl, rfl⟩)⟩, mTokB_ok (by decide +kernel), rfl, co_X6⟩
set_option maxRecDepth 100000 in
theorem mo_X6_sets : mMok m_X6_sets :=
  have t := mGd_3 (i := 1625) (a := Cond.instanceMethod (mdY m_X6_sets)) (b := Cond.selects (mdY m_X6_sets).cls (mdY m_X6_sets) (mdY m_X6_sets)) (c := (Cond.code (mdY m_X6_sets) (mdB m_X6_sets) (mdL m_X6_sets) (mdR m_X6_sets))) rfl rfl rfl rfl
  ⟨⟨t.2.2, by decide, by decide +kernel, ⟨by decide +kernel, by decide +kernel, by decide +kernel⟩, ini_X6, Or.inr ⟨by decide, t.1, t.2.1, rfl⟩, Or.inr (Or.inl ⟨rfl, rfl⟩)⟩, mTokB_ok (by decide +kernel), rfl, co_X6⟩
set_option maxRecDepth 100000 in
theorem mo_X6_isGreenAt : mMok m_X6_isGreenAt :=
  have t := mGd_2 (i := 1650) (a := Cond.instanceMethod (mdY m_X6_isGreenAt)) (b := (Cond.code (mdY m_X6_isGreenAt) (mdB m_X6_isGreenAt) (mdL m_X6_isGreenAt) (mdR m_X6_isGreenAt))) rfl rfl rfl
  ⟨⟨t.2, by decide, by decide +kernel, ⟨by decide +kernel, by decide +kernel, by decide +kernel⟩, ini_X6, Or.inr ⟨by decide, t.1, mGd_in (i := 86) rfl rfl, rfl⟩, Or.inr (Or.inr (Or.inl ⟨rfl, rfl⟩))⟩, mTokB_ok (by decide +kernel), rfl, co_X6⟩
set_option maxRecDepth 100000 in
theorem mo_X6_isReached : mMok m_X6_isReached :=
  have t := mGd_2 (i := 1646) (a := Cond.instanceMethod (mdY m_X6_isReached)) (b := (Cond.code (mdY m_X6_isReached) (mdB m_X6_isReached) (mdL m_X6_isReached) (mdR m_X6_isReached))) rfl rfl rfl
  ⟨⟨t.2, by decide, by decide +kernel, ⟨by decide +kernel, by decide +kernel, by decide +kernel⟩, ini_X6, Or.inr ⟨by decide, t.1, mGd_in (i := 85) rfl rfl, rfl⟩, Or.inr (Or.inr (Or.inl ⟨rfl, rfl⟩))⟩, mTokB_ok (by decide +kernel), rfl, co_X6⟩
set_option maxRecDepth 100000 in
theorem mo_X6_callsOthers : mMok m_X6_callsOthers :=
  have t := mGd_2 (i := 1654) (a := Cond.instanceMethod (mdY m_X6_callsOthers)) (b := (Cond.code (mdY m_X6_callsOthers) (mdB m_X6_callsOthers) (mdL m_X6_callsOthers) (mdR m_X6_callsOthers))) rfl rfl rfl
  ⟨⟨t.2, by decide, by decide +kernel, ⟨by decide +kernel, by decide +kernel, by decide +kernel⟩, ini_X6, Or.inr ⟨by decide, t.1, mGd_in (i := 87) rfl rfl, rfl⟩, Or.inl ⟨rfl, rfl⟩⟩, mTokB_ok (by decide +kernel), rfl, co_X6⟩
set_option maxRecDepth 100000 in
theorem mo_X6_reaches : mMok m_X6_reaches :=
  have t := mGd_2 (i := 1642) (a := Cond.instanceMethod (mdY m_X6_reaches)) (b := (Cond.code (mdY m_X6_reaches) (mdB m_X6_reaches) (mdL m_X6_reaches) (mdR m_X6_reaches))) rfl rfl rfl
  ⟨⟨t.2, by decide, by decide +kernel, ⟨by decide +kernel, by decide +kernel, by decide +kernel⟩, ini_X6, Or.inr ⟨by decide, t.1, mGd_in (i := 84) rfl rfl, rfl⟩, Or.inr (Or.inl ⟨rfl, rfl⟩)⟩, mTokB_ok (by decide +kernel), rfl, co_X6⟩
set_option maxRecDepth 100000 in
theorem mo_X6_when : mMok m_X6_when :=
  have t := mGd_3 (i := 1637) (a := Cond.instanceMethod (mdY m_X6_when)) (b := Cond.selects (mdY m_X6_when).cls (mdY m_X6_when) (mdY m_X6_when)) (c := (Cond.code (mdY m_X6_when) (mdB m_X6_when) (mdL m_X6_when) (mdR m_X6_when))) rfl rfl rfl rfl
  ⟨⟨t.2.2, by decide, by decide +kernel, ⟨by decide +kernel, by decide +kernel, by decide +kernel⟩, ini_X6, Or.inr ⟨by decide, t.1, t.2.1, rfl⟩, Or.inr (Or.inl ⟨rfl, rfl⟩)⟩, mTokB_ok (by decide +kernel), rfl, co_X6⟩
set_option maxRecDepth 100000 in
theorem mo_X6_worst : mMok m_X6_worst :=
  have t := mGd_3 (i := 1657) (a := Cond.instanceMethod (mdY m_X6_worst)) (b := Cond.selects (mdY m_X6_worst).cls (mdY m_X6_worst) (mdY m_X6_worst)) (c := (Cond.code (mdY m_X6_worst) (mdB m_X6_worst) (mdL m_X6_worst) (mdR m_X6_worst))) rfl rfl rfl rfl
  ⟨⟨t.2.2, by decide, by decide +kernel, ⟨by decide +kernel, by decide +kernel, by decide +kernel⟩, ini_X6, Or.inr ⟨by decide, t.1, t.2.1, rfl⟩, Or.inr (Or.inl ⟨rfl, rfl⟩)⟩, mTokB_ok (by decide +kernel), rfl, co_X6⟩
set_option maxRecDepth 100000 in
theorem mo_X6_cleared : mMok m_X6_cleared :=
  have t := mGd_3 (i := 1661) (a := Cond.instanceMethod (mdY m_X6_cleared)) (b := Cond.selects (mdY m_X6_cleared).cls (mdY m_X6_cleared) (mdY m_X6_cleared)) (c := (Cond.code (mdY m_X6_cleared) (mdB m_X6_cleared) (mdL m_X6_cleared) (mdR m_X6_cleared))) rfl rfl rfl rfl
  ⟨⟨t.2.2, by decide, by decide +kernel, ⟨by decide +kernel, by decide +kernel, by decide +kernel⟩, ini_X6, Or.inr ⟨by decide, t.1, t.2.1, rfl⟩, Or.inr (Or.inl ⟨rfl, rfl⟩)⟩, mTokB_ok (by decide +kernel), rfl, co_X6⟩
set_option maxRecDepth 100000 in
theorem mo_X6_instep : mMok m_X6_instep :=
  have t := mGd_3 (i := 1665) (a := Cond.instanceMethod (mdY m_X6_instep)) (b := Cond.selects (mdY m_X6_instep).cls (mdY m_X6_instep) (mdY m_X6_instep)) (c := (Cond.code (mdY m_X6_instep) (mdB m_X6_instep) (mdL m_X6_instep) (mdR m_X6_instep))) rfl rfl rfl rfl
  ⟨⟨t.2.2, by decide, by decide +kernel, ⟨by decide +kernel, by decide +kernel, by decide +kernel⟩, ini_X6, Or.inr ⟨by decide, t.1, t.2.1, rfl⟩, Or.inr (Or.inl ⟨rfl, rfl⟩)⟩, mTokB_ok (by decide +kernel), rfl, co_X6⟩
set_option maxRecDepth 100000 in
theorem mo_X6_broken : mMok m_X6_broken :=
  have t := mGd_3 (i := 1669) (a := Cond.instanceMethod (mdY m_X6_broken)) (b := Cond.selects (mdY m_X6_broken).cls (mdY m_X6_broken) (mdY m_X6_broken)) (c := (Cond.code (mdY m_X6_broken) (mdB m_X6_broken) (mdL m_X6_broken) (mdR m_X6_broken))) rfl rfl rfl rfl
  ⟨⟨t.2.2, by decide, by decide +kernel, ⟨by decide +kernel, by decide +kernel, by decide +kernel⟩, ini_X6, Or.inr ⟨by decide, t.1, t.2.1, rfl⟩, Or.inr (Or.inl ⟨rfl, rfl⟩)⟩, mTokB_ok (by decide +kernel), rfl, co_X6⟩
set_option maxRecDepth 100000 in
theorem mo_X6_waitsIn : mMok m_X6_waitsIn :=
  have t := mGd_2 (i := 1678) (a := Cond.instanceMethod (mdY m_X6_waitsIn)) (b := (Cond.code (mdY m_X6_waitsIn) (mdB m_X6_waitsIn) (mdL m_X6_waitsIn) (mdR m_X6_waitsIn))) rfl rfl rfl
  ⟨⟨t.2, by decide, by decide +kernel, ⟨by decide +kernel, by decide +kernel, by decide +kernel⟩, ini_X6, Or.inr ⟨by decide, t.1, mGd_in (i := 88) rfl rfl, rfl⟩, Or.inr (Or.inl ⟨rfl, rfl⟩)⟩, mTokB_ok (by decide +kernel), rfl, co_X6⟩
set_option maxRecDepth 100000 in
theorem mo_X6_paper : mMok m_X6_paper :=
  have t := mGd_3 (i := 1673) (a := Cond.instanceMethod (mdY m_X6_paper)) (b := Cond.selects (mdY m_X6_paper).cls (mdY m_X6_paper) (mdY m_X6_paper)) (c := (Cond.code (mdY m_X6_paper) (mdB m_X6_paper) (mdL m_X6_paper) (mdR m_X6_paper))) rfl rfl rfl rfl
  ⟨⟨t.2.2, by decide, by decide +kernel, ⟨by decide +kernel, by decide +kernel, by decide +kernel⟩, ini_X6, Or.inr ⟨by decide, t.1, t.2.1, rfl⟩, Or.inr (Or.inl ⟨rfl, rfl⟩)⟩, mTokB_ok (by decide +kernel), rfl, co_X6⟩
set_option maxRecDepth 100000 in
theorem mo_X6_bestMax : mMok m_X6_bestMax :=
  have t := mGd_3 (i := 1681) (a := Cond.instanceMethod (mdY m_X6_bestMax)) (b := Cond.selects (mdY m_X6_bestMax).cls (mdY m_X6_bestMax) (mdY m_X6_bestMax)) (c := (Cond.code (mdY m_X6_bestMax) (mdB m_X6_bestMax) (mdL m_X6_bestMax) (mdR m_X6_bestMax))) rfl rfl rfl rfl
  ⟨⟨t.2.2, by decide, by decide +kernel, ⟨by decide +kernel, by decide +kernel, by decide +kernel⟩, ini_X6, Or.inr ⟨by decide, t.1, t.2.1, rfl⟩, Or.inr (Or.inl ⟨rfl, rfl⟩)⟩, mTokB_ok (by decide +kernel), rfl, co_X6⟩
set_option maxRecDepth 100000 in
theorem mo_X6_cheapest : mMok m_X6_cheapest :=
  have t := mGd_3 (i := 1685) (a := Cond.instanceMethod (mdY m_X6_cheapest)) (b := Cond.selects (mdY m_X6_cheapest).cls (mdY m_X6_cheapest) (mdY m_X6_cheapest)) (c := (Cond.code (mdY m_X6_cheapest) (mdB m_X6_cheapest) (mdL m_X6_cheapest) (mdR m_X6_cheapest))) rfl rfl rfl rfl
  ⟨⟨t.2.2, by decide, by decide +kernel, ⟨by decide +kernel, by decide +kernel, by decide +kernel⟩, ini_X6, Or.inr ⟨by decide, t.1, t.2.1, rfl⟩, Or.inr (Or.inl ⟨rfl, rfl⟩)⟩, mTokB_ok (by decide +kernel), rfl, co_X6⟩
set_option maxRecDepth 100000 in
theorem mo_J9_floorMod_7cf53 : mMok m_J9_floorMod_7cf53 :=
  have t := mGd_2 (i := 716) (a := Cond.static (mdY m_J9_floorMod_7cf53)) (b := (Cond.code (mdY m_J9_floorMod_7cf53) (mdB m_J9_floorMod_7cf53) (mdL m_J9_floorMod_7cf53) (mdR m_J9_floorMod_7cf53))) rfl rfl rfl
  ⟨⟨t.2, by decide, by decide +kernel, ⟨by decide +kernel, by decide +kernel, by decide +kernel⟩, ini_J9, Or.inl ⟨rfl, t.1⟩, Or.inr (Or.inl ⟨rfl, rfl⟩)⟩, mTokB_ok (by decide +kernel), rfl, co_J9⟩
set_option maxRecDepth 100000 in
theorem mo_J9_max_7cf53 : mMok m_J9_max_7cf53 :=
  have t := mGd_2 (i := 777) (a := Cond.static (mdY m_J9_max_7cf53)) (b := (Cond.code (mdY m_J9_max_7cf53) (mdB m_J9_max_7cf53) (mdL m_J9_max_7cf53) (mdR m_J9_max_7cf53))) rfl rfl rfl
  ⟨⟨t.2, by decide, by decide +kernel, ⟨by decide +kernel, by decide +kernel, by decide +kernel⟩, ini_J9, Or.inl ⟨rfl, t.1⟩, Or.inr (Or.inl ⟨rfl, rfl⟩)⟩, mTokB_ok (by decide +kernel), rfl, co_J9⟩
set_option maxRecDepth 100000 in
theorem mo_J9_min_7cf53 : mMok m_J9_min_7cf53 :=
  have t := mGd_2 (i := 433) (a := Cond.static (mdY m_J9_min_7cf53)) (b := (Cond.code (mdY m_J9_min_7cf53) (mdB m_J9_min_7cf53) (mdL m_J9_min_7cf53) (mdR m_J9_min_7cf53))) rfl rfl rfl
  ⟨⟨t.2, by decide, by decide +kernel, ⟨by decide +kernel, by decide +kernel, by decide +kernel⟩, ini_J9, Or.inl ⟨rfl, t.1⟩, Or.inr (Or.inl ⟨rfl, rfl⟩)⟩, mTokB_ok (by decide +kernel), rfl, co_J9⟩
set_option maxRecDepth 100000 in
theorem mo_J0_length_8abf5 : mMok m_J0_length_8abf5 :=
  have t := mGd_3 (i := 461) (a := Cond.instanceMethod (mdY m_J0_length_8abf5)) (b := Cond.selects (mdY m_J0_length_8abf5).cls (mdY m_J0_length_8abf5) (mdY m_J0_length_8abf5)) (c := (Cond.code (mdY m_J0_length_8abf5) (mdB m_J0_length_8abf5) (mdL m_J0_length_8abf5) (mdR m_J0_length_8abf5))) rfl rfl rfl rfl
  ⟨⟨t.2.2, by decide, by decide +kernel, ⟨by decide +kernel, by decide +kernel, by decide +kernel⟩, ini_J0, Or.inr ⟨by decide, t.1, t.2.1, rfl⟩, Or.inr (Or.inl ⟨rfl, rfl⟩)⟩, mTokB_ok (by decide +kernel), rfl, co_J0⟩
set_option maxRecDepth 100000 in
theorem mo_J0_charAt_5068e : mMok m_J0_charAt_5068e :=
  have t := mGd_3 (i := 471) (a := Cond.instanceMethod (mdY m_J0_charAt_5068e)) (b := Cond.selects (mdY m_J0_charAt_5068e).cls (mdY m_J0_charAt_5068e) (mdY m_J0_charAt_5068e)) (c := (Cond.code (mdY m_J0_charAt_5068e) (mdB m_J0_charAt_5068e) (mdL m_J0_charAt_5068e) (mdR m_J0_charAt_5068e))) rfl rfl rfl rfl
  ⟨⟨t.2.2, by decide, by decide +kernel, ⟨by decide +kernel, by decide +kernel, by decide +kernel⟩, ini_J0, Or.inr ⟨by decide, t.1, t.2.1, rfl⟩, Or.inr (Or.inr (Or.inr (Or.inl ⟨rfl, rfl⟩)))⟩, mTokB_ok (by decide +kernel), rfl, co_J0⟩
set_option maxRecDepth 100000 in
theorem mo_J0_coder_7d493 : mMok m_J0_coder_7d493 :=
  have t := mGd_3 (i := 465) (a := Cond.instanceMethod (mdY m_J0_coder_7d493)) (b := Cond.selects (mdY m_J0_coder_7d493).cls (mdY m_J0_coder_7d493) (mdY m_J0_coder_7d493)) (c := (Cond.code (mdY m_J0_coder_7d493) (mdB m_J0_coder_7d493) (mdL m_J0_coder_7d493) (mdR m_J0_coder_7d493))) rfl rfl rfl rfl
  ⟨⟨t.2.2, by decide, by decide +kernel, ⟨by decide +kernel, by decide +kernel, by decide +kernel⟩, ini_J0, Or.inr ⟨by decide, t.1, t.2.1, rfl⟩, Or.inr (Or.inr (Or.inr (Or.inr (Or.inl ⟨rfl, rfl⟩))))⟩, mTokB_ok (by decide +kernel), rfl, co_J0⟩
set_option maxRecDepth 100000 in
theorem mo_J0_isLatin1_aae02 : mMok m_J0_isLatin1_aae02 :=
  have t := mGd_3 (i := 475) (a := Cond.instanceMethod (mdY m_J0_isLatin1_aae02)) (b := Cond.selects (mdY m_J0_isLatin1_aae02).cls (mdY m_J0_isLatin1_aae02) (mdY m_J0_isLatin1_aae02)) (c := (Cond.code (mdY m_J0_isLatin1_aae02) (mdB m_J0_isLatin1_aae02) (mdL m_J0_isLatin1_aae02) (mdR m_J0_isLatin1_aae02))) rfl rfl rfl rfl
  ⟨⟨t.2.2, by decide, by decide +kernel, ⟨by decide +kernel, by decide +kernel, by decide +kernel⟩, ini_J0, Or.inr ⟨by decide, t.1, t.2.1, rfl⟩, Or.inr (Or.inr (Or.inl ⟨rfl, rfl⟩))⟩, mTokB_ok (by decide +kernel), rfl, co_J0⟩
set_option maxRecDepth 100000 in
theorem mo_J0_checkIndex_df160 : mMok m_J0_checkIndex_df160 :=
  have t := mGd_2 (i := 482) (a := Cond.static (mdY m_J0_checkIndex_df160)) (b := (Cond.code (mdY m_J0_checkIndex_df160) (mdB m_J0_checkIndex_df160) (mdL m_J0_checkIndex_df160) (mdR m_J0_checkIndex_df160))) rfl rfl rfl
  ⟨⟨t.2, by decide, by decide +kernel, ⟨by decide +kernel, by decide +kernel, by decide +kernel⟩, ini_J0, Or.inl ⟨rfl, t.1⟩, Or.inl ⟨rfl, rfl⟩⟩, mTokB_ok (by decide +kernel), rfl, co_J0⟩
set_option maxRecDepth 100000 in
theorem mo_J1_charAt_3b067 : mMok m_J1_charAt_3b067 :=
  have t := mGd_2 (i := 479) (a := Cond.static (mdY m_J1_charAt_3b067)) (b := (Cond.code (mdY m_J1_charAt_3b067) (mdB m_J1_charAt_3b067) (mdL m_J1_charAt_3b067) (mdR m_J1_charAt_3b067))) rfl rfl rfl
  ⟨⟨t.2, by decide, by decide +kernel, ⟨by decide +kernel, by decide +kernel, by decide +kernel⟩, ini_J1, Or.inl ⟨rfl, t.1⟩, Or.inr (Or.inr (Or.inr (Or.inl ⟨rfl, rfl⟩)))⟩, mTokB_ok (by decide +kernel), rfl, co_J1⟩
set_option maxRecDepth 100000 in
theorem mo_J3_checkIndex_8e157 : mMok m_J3_checkIndex_8e157 :=
  have t := mGd_2 (i := 487) (a := Cond.static (mdY m_J3_checkIndex_8e157)) (b := (Cond.code (mdY m_J3_checkIndex_8e157) (mdB m_J3_checkIndex_8e157) (mdL m_J3_checkIndex_8e157) (mdR m_J3_checkIndex_8e157))) rfl rfl rfl
  ⟨⟨t.2, by decide, by decide +kernel, ⟨by decide +kernel, by decide +kernel, by decide +kernel⟩, ini_J3, Or.inl ⟨rfl, t.1⟩, Or.inr (Or.inl ⟨rfl, rfl⟩)⟩, mTokB_ok (by decide +kernel), rfl, co_J3⟩
set_option maxRecDepth 100000 in
theorem mDs_ok : ∀ q ∈ mDs, mMok q := List.forall_mem_cons.mpr ⟨mo_X0_takeFrom, List.forall_mem_cons.mpr ⟨mo_X0_beginAnew, List.forall_mem_cons.mpr ⟨mo_X0_startRings, List.forall_mem_cons.mpr ⟨mo_X0_tellRing, List.forall_mem_cons.mpr ⟨mo_X0_tellPhase, List.forall_mem_cons.mpr ⟨mo_X0_lampOf, List.forall_mem_cons.mpr ⟨mo_X0_isGreenAt, List.forall_mem_cons.mpr ⟨mo_X0_longestQueue, List.forall_mem_cons.mpr ⟨mo_X0_firstLongest, List.forall_mem_cons.mpr ⟨mo_X0_queueOf, List.forall_mem_cons.mpr ⟨mo_X0_calledSet, List.forall_mem_cons.mpr ⟨mo_X0_onFootSet, List.forall_mem_cons.mpr ⟨mo_X0_askedSet, List.forall_mem_cons.mpr ⟨mo_X0_shownSet, List.forall_mem_cons.mpr ⟨mo_X0_shownBy, List.forall_mem_cons.mpr ⟨mo_X0_hasReached, List.forall_mem_cons.mpr ⟨mo_X0_putQueue, List.forall_mem_cons.mpr ⟨mo_X0_takeCall, List.forall_mem_cons.mpr ⟨mo_X0_callOthers, List.forall_mem_cons.mpr ⟨mo_X0_takeCycle, List.forall_mem_cons.mpr ⟨mo_X0_takeComers, List.forall_mem_cons.mpr ⟨mo_X0_passTicks, List.forall_mem_cons.mpr ⟨mo_X0_passTick, List.forall_mem_cons.mpr ⟨mo_X0_moveClock, List.forall_mem_cons.mpr ⟨mo_X0_aheadOfClock, List.forall_mem_cons.mpr ⟨mo_X0_isForced, List.forall_mem_cons.mpr ⟨mo_X0_ageRing, List.forall_mem_cons.mpr ⟨mo_X0_ageGreen, List.forall_mem_cons.mpr ⟨mo_X0_goTo, List.forall_mem_cons.mpr ⟨mo_X0_turnGreen, List.forall_mem_cons.mpr ⟨mo_X0_watch, List.forall_mem_cons.mpr ⟨mo_X0_isDone, List.forall_mem_cons.mpr ⟨mo_X0_moveOn, List.forall_mem_cons.mpr ⟨mo_X0_leaveToNext, List.forall_mem_cons.mpr ⟨mo_X0_moveTogether, List.forall_mem_cons.mpr ⟨mo_X0_crossOver, List.forall_mem_cons.mpr ⟨mo_X0_turnBack, List.forall_mem_cons.mpr ⟨mo_X0_moveBreaks, List.forall_mem_cons.mpr ⟨mo_X0_beginWanted, List.forall_mem_cons.mpr ⟨mo_X0_beginBreak, List.forall_mem_cons.mpr ⟨mo_X0_dropBreak, List.forall_mem_cons.mpr ⟨mo_X0_seek, List.forall_mem_cons.mpr ⟨mo_X0_steer, List.forall_mem_cons.mpr ⟨mo_X0_isThere, List.forall_mem_cons.mpr ⟨mo_X0_stayOnTrack, List.forall_mem_cons.mpr ⟨mo_X0_stayOnDwell, List.forall_mem_cons.mpr ⟨mo_X0_resume, List.forall_mem_cons.mpr ⟨mo_X1_wipe, List.forall_mem_cons.mpr ⟨mo_X1_takeFrom, List.forall_mem_cons.mpr ⟨mo_X1_note, List.forall_mem_cons.mpr ⟨mo_X1_tell, List.forall_mem_cons.mpr ⟨mo_X2_wipe, List.forall_mem_cons.mpr ⟨mo_X2_takeFrom, List.forall_mem_cons.mpr ⟨mo_X2_addPhase, List.forall_mem_cons.mpr ⟨mo_X2_hasPhase, List.forall_mem_cons.mpr ⟨mo_X2_allSet, List.forall_mem_cons.mpr ⟨mo_X2_hasAll, List.forall_mem_cons.mpr ⟨mo_X2_markOf, List.forall_mem_cons.mpr ⟨mo_X2_putMark, List.forall_mem_cons.mpr ⟨mo_X2_breakOf, List.forall_mem_cons.mpr ⟨mo_X2_putBreak, List.forall_mem_cons.mpr ⟨mo_X2_partOf, List.forall_mem_cons.mpr ⟨mo_X2_sideSet, List.forall_mem_cons.mpr ⟨mo_X2_foesOf, List.forall_mem_cons.mpr ⟨mo_X2_holdsFoes, List.forall_mem_cons.mpr ⟨mo_X2_firstWithFoe, List.forall_mem_cons.mpr ⟨mo_X2_isFull, List.forall_mem_cons.mpr ⟨mo_X2_firstOfRow, List.forall_mem_cons.mpr ⟨mo_X2_endOf, List.forall_mem_cons.mpr ⟨mo_X3_putByte, List.forall_mem_cons.mpr ⟨mo_X3_readText, List.forall_mem_cons.mpr ⟨mo_X3_fail, List.forall_mem_cons.mpr ⟨mo_X3_step, List.forall_mem_cons.mpr ⟨mo_X3_behind, List.forall_mem_cons.mpr ⟨mo_X3_kindAt, List.forall_mem_cons.mpr ⟨mo_X3_signAt, List.forall_mem_cons.mpr ⟨mo_X3_isWord, List.forall_mem_cons.mpr ⟨mo_X3_endLine, List.forall_mem_cons.mpr ⟨mo_X3_takeWord, List.forall_mem_cons.mpr ⟨mo_X3_takeNumber, List.forall_mem_cons.mpr ⟨mo_X3_takeSet, List.forall_mem_cons.mpr ⟨mo_X3_readPhase, List.forall_mem_cons.mpr ⟨mo_X3_readMarks, List.forall_mem_cons.mpr ⟨mo_X3_markHere, List.forall_mem_cons.mpr ⟨mo_X3_wordOf, List.forall_mem_cons.mpr ⟨mo_X3_tellOnce, List.forall_mem_cons.mpr ⟨mo_X3_readCycle, List.forall_mem_cons.mpr ⟨mo_X3_readOffset, List.forall_mem_cons.mpr ⟨mo_X3_readBreak, List.forall_mem_cons.mpr ⟨mo_X4_takeFrom, List.forall_mem_cons.mpr ⟨mo_X4_holds, List.forall_mem_cons.mpr ⟨mo_X4_isGreen, List.forall_mem_cons.mpr ⟨mo_X4_waitFor, List.forall_mem_cons.mpr ⟨mo_X4_turnGreen, List.forall_mem_cons.mpr ⟨mo_X4_turnYellow, List.forall_mem_cons.mpr ⟨mo_X4_growDark, List.forall_mem_cons.mpr ⟨mo_X4_walkOn, List.forall_mem_cons.mpr ⟨mo_X5_status, List.forall_mem_cons.mpr ⟨mo_X5_feed, List.forall_mem_cons.mpr ⟨mo_X5_load, List.forall_mem_cons.mpr ⟨mo_X5_fault, List.forall_mem_cons.mpr ⟨mo_X5_many, List.forall_mem_cons.mpr ⟨mo_X5_ring, List.forall_mem_cons.mpr ⟨mo_X5_phase, List.forall_mem_cons.mpr ⟨mo_X5_marked, List.forall_mem_cons.mpr ⟨mo_X5_brake, List.forall_mem_cons.mpr ⟨mo_X5_sum, List.forall_mem_cons.mpr ⟨mo_X5_event, List.forall_mem_cons.mpr ⟨mo_X5_mark, List.forall_mem_cons.mpr ⟨mo_X5_clock, List.forall_mem_cons.mpr ⟨mo_X5_call, List.forall_mem_cons.mpr ⟨mo_X5_come, List.forall_mem_cons.mpr ⟨mo_X5_ask, List.forall_mem_cons.mpr ⟨mo_X5_let, List.forall_mem_cons.mpr ⟨mo_X5_brakes, List.forall_mem_cons.mpr ⟨mo_X5_stick, List.forall_mem_cons.mpr ⟨mo_X5_reset, List.forall_mem_cons.mpr ⟨mo_X5_tick, List.forall_mem_cons.mpr ⟨mo_X5_run, List.forall_mem_cons.mpr ⟨mo_X5_keep, List.forall_mem_cons.mpr ⟨mo_X5_back, List.forall_mem_cons.mpr ⟨mo_X5_foes, List.forall_mem_cons.mpr ⟨mo_X5_sets, List.forall_mem_cons.mpr ⟨mo_X5_when, List.forall_mem_cons.mpr ⟨mo_X5_worst, List.forall_mem_cons.mpr ⟨mo_X5_cleared, List.forall_mem_cons.mpr ⟨mo_X5_instep, List.forall_mem_cons.mpr ⟨mo_X5_broken, List.forall_mem_cons.mpr ⟨mo_X5_paper, List.forall_mem_cons.mpr ⟨mo_X5_bestMax, List.forall_mem_cons.mpr ⟨mo_X5_cheapest, List.forall_mem_cons.mpr ⟨mo_X5_answer, List.forall_mem_cons.mpr ⟨mo_X5_refuse, List.forall_mem_cons.mpr ⟨mo_X5_grant, List.forall_mem_cons.mpr ⟨mo_X5_deny, List.forall_mem_cons.mpr ⟨mo_X5_tapeFour, List.forall_mem_cons.mpr ⟨mo_X5_keptAt, List.forall_mem_cons.mpr ⟨mo_X5_ticksUntil, List.forall_mem_cons.mpr ⟨mo_X5_isBreak, List.forall_mem_cons.mpr ⟨mo_X5_isCycle, List.forall_mem_cons.mpr ⟨mo_X5_isOffset, List.forall_mem_cons.mpr ⟨mo_X5_isDwell, List.forall_mem_cons.mpr ⟨mo_X5_cell, List.forall_mem_cons.mpr ⟨mo_X5_put, List.forall_mem_cons.mpr ⟨mo_X5_copyRow, List.forall_mem_cons.mpr ⟨mo_X5_fillRow, List.forall_mem_cons.mpr ⟨mo_X5_total, List.forall_mem_cons.mpr ⟨mo_X5_bit, List.forall_mem_cons.mpr ⟨mo_X5_withBit, List.forall_mem_cons.mpr ⟨mo_X5_inSet, List.forall_mem_cons.mpr ⟨mo_X5_firstIn, List.forall_mem_cons.mpr ⟨mo_X6_status, List.forall_mem_cons.mpr ⟨mo_X6_refuse, List.forall_mem_cons.mpr ⟨mo_X6_isSo, List.forall_mem_cons.mpr ⟨mo_X6_gives, List.forall_mem_cons.mpr ⟨mo_X6_isFrom, List.forall_mem_cons.mpr ⟨mo_X6_has, List.forall_mem_cons.mpr ⟨mo_X6_left, List.forall_mem_cons.mpr ⟨mo_X6_of, List.forall_mem_cons.mpr ⟨mo_X6_puts, List.forall_mem_cons.mpr ⟨mo_X6_adds, List.forall_mem_cons.mpr ⟨mo_X6_copies, List.forall_mem_cons.mpr ⟨mo_X6_ring, List.forall_mem_cons.mpr ⟨mo_X6_ofRing, List.forall_mem_cons.mpr ⟨mo_X6_putsRing, List.forall_mem_cons.mpr ⟨mo_X6_ofPhase, List.forall_mem_cons.mpr ⟨mo_X6_putsPhase, List.forall_mem_cons.mpr ⟨mo_X6_mark, List.forall_mem_cons.mpr ⟨mo_X6_isPhase, List.forall_mem_cons.mpr ⟨mo_X6_begins, List.forall_mem_cons.mpr ⟨mo_X6_areFoes, List.forall_mem_cons.mpr ⟨mo_X6_foesOf, List.forall_mem_cons.mpr ⟨mo_X6_isPeace, List.forall_mem_cons.mpr ⟨mo_X6_firstOf, List.forall_mem_cons.mpr ⟨mo_X6_starts, List.forall_mem_cons.mpr ⟨mo_X6_clearsRing, List.forall_mem_cons.mpr ⟨mo_X6_isCalled, List.forall_mem_cons.mpr ⟨mo_X6_isOnFoot, List.forall_mem_cons.mpr ⟨mo_X6_isAsked, List.forall_mem_cons.mpr ⟨mo_X6_isFoeAsked, List.forall_mem_cons.mpr ⟨mo_X6_isHolding, List.forall_mem_cons.mpr ⟨mo_X6_isGreen, List.forall_mem_cons.mpr ⟨mo_X6_happens, List.forall_mem_cons.mpr ⟨mo_X6_becomesGreen, List.forall_mem_cons.mpr ⟨mo_X6_leaves, List.forall_mem_cons.mpr ⟨mo_X6_goes, List.forall_mem_cons.mpr ⟨mo_X6_drawBy, List.forall_mem_cons.mpr ⟨mo_X6_comers, List.forall_mem_cons.mpr ⟨mo_X6_due, List.forall_mem_cons.mpr ⟨mo_X6_clockGoes, List.forall_mem_cons.mpr ⟨mo_X6_greenGoes, List.forall_mem_cons.mpr ⟨mo_X6_ringGoes, List.forall_mem_cons.mpr ⟨mo_X6_endOf, List.forall_mem_cons.mpr ⟨mo_X6_isForced, List.forall_mem_cons.mpr ⟨mo_X6_isFirst, List.forall_mem_cons.mpr ⟨mo_X6_isDone, List.forall_mem_cons.mpr ⟨mo_X6_goesOn, List.forall_mem_cons.mpr ⟨mo_X6_becomes, List.forall_mem_cons.mpr ⟨mo_X6_shown, List.forall_mem_cons.mpr ⟨mo_X6_watches, List.forall_mem_cons.mpr ⟨mo_X6_queues, List.forall_mem_cons.mpr ⟨mo_X6_ticks, List.forall_mem_cons.mpr ⟨mo_X6_ofBreak, List.forall_mem_cons.mpr ⟨mo_X6_noBreak, List.forall_mem_cons.mpr ⟨mo_X6_isStage, List.forall_mem_cons.mpr ⟨mo_X6_breakBegins, List.forall_mem_cons.mpr ⟨mo_X6_breakEnds, List.forall_mem_cons.mpr ⟨mo_X6_goal, List.forall_mem_cons.mpr ⟨mo_X6_goesTo, List.forall_mem_cons.mpr ⟨mo_X6_breaks, List.forall_mem_cons.mpr ⟨mo_X6_staged, List.forall_mem_cons.mpr ⟨mo_X6_feed, List.forall_mem_cons.mpr ⟨mo_X6_four, List.forall_mem_cons.mpr ⟨mo_X6_byteAt, List.forall_mem_cons.mpr ⟨mo_X6_isSmall, List.forall_mem_cons.mpr ⟨mo_X6_isDigit, List.forall_mem_cons.mpr ⟨mo_X6_ahead, List.forall_mem_cons.mpr ⟨mo_X6_key, List.forall_mem_cons.mpr ⟨mo_X6_fails, List.forall_mem_cons.mpr ⟨mo_X6_takes, List.forall_mem_cons.mpr ⟨mo_X6_takesNumber, List.forall_mem_cons.mpr ⟨mo_X6_takesWord, List.forall_mem_cons.mpr ⟨mo_X6_leastOf, List.forall_mem_cons.mpr ⟨mo_X6_mostOf, List.forall_mem_cons.mpr ⟨mo_X6_aPhase, List.forall_mem_cons.mpr ⟨mo_X6_aSet, List.forall_mem_cons.mpr ⟨mo_X6_aGoal, List.forall_mem_cons.mpr ⟨mo_X6_aBreak, List.forall_mem_cons.mpr ⟨mo_X6_isCycle, List.forall_mem_cons.mpr ⟨mo_X6_aClock, List.forall_mem_cons.mpr ⟨mo_X6_aLine, List.forall_mem_cons.mpr ⟨mo_X6_load, List.forall_mem_cons.mpr ⟨mo_X6_fault, List.forall_mem_cons.mpr ⟨mo_X6_many, List.forall_mem_cons.mpr ⟨mo_X6_ring_, List.forall_mem_cons.mpr ⟨mo_X6_lampOf, List.forall_mem_cons.mpr ⟨mo_X6_phase, List.forall_mem_cons.mpr ⟨mo_X6_marked, List.forall_mem_cons.mpr ⟨mo_X6_brake, List.forall_mem_cons.mpr ⟨mo_X6_greatest, List.forall_mem_cons.mpr ⟨mo_X6_goneAll, List.forall_mem_cons.mpr ⟨mo_X6_sum, List.forall_mem_cons.mpr ⟨mo_X6_event, List.forall_mem_cons.mpr ⟨mo_X6_mark_, List.forall_mem_cons.mpr ⟨mo_X6_clock, List.forall_mem_cons.mpr ⟨mo_X6_calls, List.forall_mem_cons.mpr ⟨mo_X6_call, List.forall_mem_cons.mpr ⟨mo_X6_come, List.forall_mem_cons.mpr ⟨mo_X6_isWanted, List.forall_mem_cons.mpr ⟨mo_X6_ask, List.forall_mem_cons.mpr ⟨mo_X6_let, List.forall_mem_cons.mpr ⟨mo_X6_isSet, List.forall_mem_cons.mpr ⟨mo_X6_brakes, List.forall_mem_cons.mpr ⟨mo_X6_stick, List.forall_mem_cons.mpr ⟨mo_X6_reset, List.forall_mem_cons.mpr ⟨mo_X6_tick, List.forall_mem_cons.mpr ⟨mo_X6_run, List.forall_mem_cons.mpr ⟨mo_X6_keep, List.forall_mem_cons.mpr ⟨mo_X6_back, List.forall_mem_cons.mpr ⟨mo_X6_foes, List.forall_mem_cons.mpr ⟨mo_X6_isFull, List.forall_mem_cons.mpr ⟨mo_X6_queuesIn, List.forall_mem_cons.mpr ⟨mo_X6_sets, List.forall_mem_cons.mpr ⟨mo_X6_isGreenAt, List.forall_mem_cons.mpr ⟨mo_X6_isReached, List.forall_mem_cons.mpr ⟨mo_X6_callsOthers, List.forall_mem_cons.mpr ⟨mo_X6_reaches, List.forall_mem_cons.mpr ⟨mo_X6_when, List.forall_mem_cons.mpr ⟨mo_X6_worst, List.forall_mem_cons.mpr ⟨mo_X6_cleared, List.forall_mem_cons.mpr ⟨mo_X6_instep, List.forall_mem_cons.mpr ⟨mo_X6_broken, List.forall_mem_cons.mpr ⟨mo_X6_waitsIn, List.forall_mem_cons.mpr ⟨mo_X6_paper, List.forall_mem_cons.mpr ⟨mo_X6_bestMax, List.forall_mem_cons.mpr ⟨mo_X6_cheapest, List.forall_mem_cons.mpr ⟨mo_J9_floorMod_7cf53, List.forall_mem_cons.mpr ⟨mo_J9_max_7cf53, List.forall_mem_cons.mpr ⟨mo_J9_min_7cf53, List.forall_mem_cons.mpr ⟨mo_J0_length_8abf5, List.forall_mem_cons.mpr ⟨mo_J0_charAt_5068e, List.forall_mem_cons.mpr ⟨mo_J0_coder_7d493, List.forall_mem_cons.mpr ⟨mo_J0_isLatin1_aae02, List.forall_mem_cons.mpr ⟨mo_J0_checkIndex_df160, List.forall_mem_cons.mpr ⟨mo_J1_charAt_3b067, List.forall_mem_cons.mpr ⟨mo_J3_checkIndex_8e157, fun _ h => absurd h List.not_mem_nil⟩⟩⟩⟩⟩⟩⟩⟩⟩⟩⟩⟩⟩⟩⟩⟩⟩⟩⟩⟩⟩⟩⟩⟩⟩⟩⟩⟩⟩⟩⟩⟩⟩⟩⟩⟩⟩⟩⟩⟩⟩⟩⟩⟩⟩⟩⟩⟩⟩⟩⟩⟩⟩⟩⟩⟩⟩⟩⟩⟩⟩⟩⟩⟩⟩⟩⟩⟩⟩⟩⟩⟩⟩⟩⟩⟩⟩⟩⟩⟩⟩⟩⟩⟩⟩⟩⟩⟩⟩⟩⟩⟩⟩⟩⟩⟩⟩⟩⟩⟩⟩⟩⟩⟩⟩⟩⟩⟩⟩⟩⟩⟩⟩⟩⟩⟩⟩⟩⟩⟩⟩⟩⟩⟩⟩⟩⟩⟩⟩⟩⟩⟩⟩⟩⟩⟩⟩⟩⟩⟩⟩⟩⟩⟩⟩⟩⟩⟩⟩⟩⟩⟩⟩⟩⟩⟩⟩⟩⟩⟩⟩⟩⟩⟩⟩⟩⟩⟩⟩⟩⟩⟩⟩⟩⟩⟩⟩⟩⟩⟩⟩⟩⟩⟩⟩⟩⟩⟩⟩⟩⟩⟩⟩⟩⟩⟩⟩⟩⟩⟩⟩⟩⟩⟩⟩⟩⟩⟩⟩⟩⟩⟩⟩⟩⟩⟩⟩⟩⟩⟩⟩⟩⟩⟩⟩⟩⟩⟩⟩⟩⟩⟩⟩⟩⟩⟩⟩⟩⟩⟩⟩⟩⟩⟩⟩⟩⟩⟩⟩⟩⟩⟩⟩⟩⟩⟩⟩⟩⟩⟩⟩⟩⟩⟩⟩⟩⟩⟩⟩⟩⟩⟩⟩⟩⟩⟩⟩⟩⟩⟩⟩⟩⟩⟩⟩⟩
theorem mD_ok : mDatOk mD := by
  intro a ha
  unfold mD at ha ⊢
  rw [List.getD_eq_getElem?_getD] at ha ⊢
  cases h : mDs[a]? with
  | none => rw [h] at ha; exact absurd rfl ha
  | some q => exact mDs_ok q (List.mem_of_getElem? h)
set_option maxRecDepth 100000 in
theorem mW_copy : Cond.native arraycopyName ∈ mGd ∧ Cond.static arraycopyName ∈ mGd ∧ Cond.initialized "java/lang/System" ∈ mGd := ⟨mGd_in (i := 648) rfl rfl, mGd_in (i := 647) rfl rfl, mGd_in (i := 102) rfl rfl⟩
