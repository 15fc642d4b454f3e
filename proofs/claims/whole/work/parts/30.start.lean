/-! RunsLaw out of the law's value from its loop on -/
theorem H_go {X : mX} {y pc pc1 len : Nat} {l l1 : mL} {st st1 : List Value} {h h1 : mH} {i : Instr} (hd : decode (mCd y) pc = .ok (i, len) ∧ lk (mMsk y) pc = none) (e : mIns oH X y pc len l st h i = some (.inl (pc1, l1, st1, h1))) : mV oH X y pc l st h = mV oH X y pc1 l1 st1 h1 := by
  rw [mV_unf, mM_n hd.2, mStep_d hd.1, e]
theorem H_ci {X : mX} {y pc pc1 len y1 : Nat} {l l1 : mL} {st st1 as : List Value} {h h1 h2 : mH} {v : Option Value} {i : Instr} (hd : decode (mCd y) pc = .ok (i, len) ∧ lk (mMsk y) pc = none) (e : mIns oH X y pc len l st h i = some (.inr (.inr (y1, as, pc1, l1, st1, h1)))) (hc : mV oH X y1 0 (mEnt as (mMx y1)) [] h1 = some (v, h2)) : mV oH X y pc l st h = mV oH X y pc1 l1 (v.toList ++ st1) h2 := by
  rw [mV_unf, mM_n hd.2, mStep_d hd.1, e]
  dsimp only
  rw [hc]
  rfl
theorem hNw_ok {h : mH} {ci N : Nat} (e : (vwCl[ci]?).map (fun r => r.2.2) = some N) (hl : h.length < 1000) : hNw h ci = some (h ++ [.inr (ci, hDf ci N)], h.length) := by
  unfold hNw
  cases e1 : vwCl[ci]? with
  | none => rw [e1] at e; cases e
  | some r =>
    rw [e1] at e
    dsimp only
    have e2 : r.2.2 = N := Option.some.inj e
    rw [if_pos hl, e2]
theorem H_new {X : mX} {y pc idx ci N : Nat} {l : mL} {st : List Value} {h : mH} (e0 : lk (mCt (mOwn y)) idx = some ci) (e : (vwCl[ci]?).map (fun r => r.2.2) = some N) (hl : h.length < 1000) : mIns oH X y pc 3 l st h (.new idx) = some (.inl (pc + 3, l, .ref h.length :: st, h ++ [.inr (ci, hDf ci N)])) := by
  show mNw oH y 3 pc l st h idx = _
  unfold mNw
  rw [e0]
  dsimp only
  rw [show oH.nw h ci = hNw h ci from rfl, hNw_ok e hl]
  rfl
theorem H_dup {X : mX} {y pc a : Nat} {l : mL} {st : List Value} {h : mH} : mIns oH X y pc 1 l (.ref a :: st) h .dup = some (.inl (pc + 1, l, .ref a :: .ref a :: st, h)) := rfl
theorem H_init {X : mX} {y pc idx y1 a : Nat} {l : mL} {rest : List Value} {h : mH} (e0 : lk (mMt (mOwn y)) idx = some y1 ∧ mNp y1 = 0 ∧ (mIni y1 == true && !mSta y1) = true ∧ 1 ≤ mMx y1 ∧ mRm y y1 = true) (hs : mSm rest = true) : mIns oH X y pc 3 l (.ref a :: rest) h (.invokespecial idx) = some (.inr (.inr (y1, [.ref a], pc + 3, l, rest, h))) := by
  obtain ⟨k1, k2, k3, k4, k5⟩ := e0
  show mCv oH true y 3 pc l (.ref a :: rest) h idx = _
  unfold mCv
  rw [k1]
  dsimp only
  rw [k2, List.drop_zero, List.take_zero]
  dsimp only
  rw [if_pos]
  · rfl
  · refine ⟨rfl, Nat.zero_le _, hs, k3, rfl, ?_, k5⟩
    exact k4
theorem hl_0 : decode (mCd 177) 0 = .ok (.new 7, 3) ∧ lk (mMsk 177) 0 = none := by decide +kernel
theorem hl_3 : decode (mCd 177) 3 = .ok (.dup, 1) ∧ lk (mMsk 177) 3 = none := by decide +kernel
theorem hl_4 : decode (mCd 177) 4 = .ok (.invokespecial 9, 3) ∧ lk (mMsk 177) 4 = none := by decide +kernel
theorem hl_7 : decode (mCd 177) 7 = .ok (.astore_n 1, 1) ∧ lk (mMsk 177) 7 = none := by decide +kernel
theorem hl_8 : decode (mCd 177) 8 = .ok (.new 10, 3) ∧ lk (mMsk 177) 8 = none := by decide +kernel
theorem hl_11 : decode (mCd 177) 11 = .ok (.dup, 1) ∧ lk (mMsk 177) 11 = none := by decide +kernel
theorem hl_12 : decode (mCd 177) 12 = .ok (.invokespecial 12, 3) ∧ lk (mMsk 177) 12 = none := by decide +kernel
theorem hl_15 : decode (mCd 177) 15 = .ok (.astore_n 2, 1) ∧ lk (mMsk 177) 15 = none := by decide +kernel
theorem hl_16 : decode (mCd 177) 16 = .ok (.iconst 0, 1) ∧ lk (mMsk 177) 16 = none := by decide +kernel
theorem hl_17 : decode (mCd 177) 17 = .ok (.istore_n 3, 1) ∧ lk (mMsk 177) 17 = none := by decide +kernel
theorem hl_n1 : lk (mCt (mOwn 177)) 7 = some 8 ∧ (vwCl[8]?).map (fun r => r.2.2) = some 12 := by decide +kernel
theorem hl_n2 : lk (mCt (mOwn 177)) 10 = some 9 ∧ (vwCl[9]?).map (fun r => r.2.2) = some 53 := by decide +kernel
theorem hl_s1 : lk (mMt (mOwn 177)) 9 = some 71 ∧ mNp 71 = 0 ∧ (mIni 71 == true && !mSta 71) = true ∧ 1 ≤ mMx 71 ∧ mRm 177 71 = true := by decide +kernel
theorem hl_s2 : lk (mMt (mOwn 177)) 12 = some 106 ∧ mNp 106 = 0 ∧ (mIni 106 == true && !mSta 106) = true ∧ 1 ≤ mMx 106 ∧ mRm 177 106 = true := by decide +kernel
theorem hA_v (X : mX) : mV oH X 71 0 (mEnt [.ref 0] (mMx 71)) [] [.inr (8, hDf 8 12)] = some (none, hA) := (mV_iff _ _ _ _ _ _ _ _).mpr ⟨6000, mRun_sim (sim_id oH) (Or.inr rfl) 6000 hA_run.1⟩
theorem hB_v (X : mX) : mV oH X 106 0 (mEnt [.ref hA.length] (mMx 106)) [] (hA ++ [.inr (9, hDf 9 53)]) = some (none, hB) := (mV_iff _ _ _ _ _ _ _ _).mpr ⟨6000, mRun_sim (sim_id oH) (Or.inr rfl) 6000 hB_run.1⟩
theorem H_law (X : mX) : mV oH X 177 0 (mEnt [.ref mSid] 4) [] [] = mV oH X 177 18 [some (.ref mSid), some (.ref 0), some (.ref 55), some (.int 0)] [] hB := by
  refine (H_go hl_0 (H_new hl_n1.1 hl_n1.2 (Nat.lt_of_lt_of_le Nat.zero_lt_one (by decide)))).trans ?_
  refine (H_go (pc1 := 4) (l1 := mEnt [.ref mSid] 4) (st1 := [.ref 0, .ref 0]) (h1 := [.inr (8, hDf 8 12)]) hl_3 rfl).trans ?_
  refine (H_ci hl_4 (H_init hl_s1 rfl) (hA_v X)).trans ?_
  refine (H_go (pc1 := 8) (l1 := [some (.ref mSid), some (.ref 0), none, none]) (st1 := []) (h1 := hA) hl_7 rfl).trans ?_
  refine (H_go hl_8 (H_new hl_n2.1 hl_n2.2 (by rw [hA_run.2]; decide))).trans ?_
  refine (H_go hl_11 H_dup).trans ?_
  refine (H_ci hl_12 (H_init hl_s2 rfl) (hB_v X)).trans ?_
  refine (H_go (pc1 := 16) (l1 := [some (.ref mSid), some (.ref 0), some (.ref hA.length), none]) (st1 := []) (h1 := hB) hl_15 rfl).trans ?_
  refine (H_go (pc1 := 17) (l1 := [some (.ref mSid), some (.ref 0), some (.ref hA.length), none]) (st1 := [.int 0]) (h1 := hB) hl_16 rfl).trans ?_
  refine (H_go (pc1 := 18) (l1 := [some (.ref mSid), some (.ref 0), some (.ref hA.length), some (.int 0)]) (st1 := []) (h1 := hB) hl_17 rfl).trans ?_
  rw [hA_run.2]
  rfl
theorem cI_inv {r : Option (Option Value × Mem)} {x : Int32} {S : Mem} (h : cI r = some (x, S)) : r = some (some (.int x), S) := by
  unfold cI at h
  split at h
  · cases h; rfl
  · cases h
/-- what is left: the law's loop ends in 1 -/
theorem runs_of (H : ∀ X : mX, 1 ≤ X.1 → X.1 ≤ 2561 → ∃ S1, k_Law_law_18 X 0 S0 = some (1, S1)) : RunsLaw := by
  intro X h1 h2
  obtain ⟨S1, e⟩ := H X h1 h2
  have e1 := cI_inv e
  obtain ⟨n, hn⟩ := (mV_iff _ _ _ _ _ _ _ _).mp e1
  have hn1 := mRun_sim sim_SH (Or.inl rfl) n hn
  rw [S0_ok] at hn1
  have e2 := (mV_iff _ _ _ _ _ _ _ _).mpr ⟨n, hn1⟩
  rw [← H_law X] at e2
  obtain ⟨k, hk⟩ := (mV_iff _ _ _ _ _ _ _ _).mp e2
  have hsz := S0_size
  rw [← S0_ok] at hsz
  refine ⟨k, hO S1, hk, ?_, ?_⟩
  · have a1 := hsz.1
    unfold hO at a1 ⊢
    rw [hOf_len] at a1 ⊢
    omega
  · have a2 := hsz.2
    rw [hO_size] at a2 ⊢
    omega
