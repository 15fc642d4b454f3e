/-! THE START: what the constructors leave -/
def zz : List (Nat × Nat) := [(55, 0), (55, 4), (55, 5), (55, 6), (55, 7), (55, 16), (55, 17), (55, 18), (55, 42), (55, 43), (1, 1), (7, 3), (7, 4), (7, 5), (14, 1), (14, 3), (0, 8), (0, 9), (0, 10), (0, 11)]
def chkH (h : mH) : Bool := (zz.all fun p => decide (S1of h p.1 p.2 = 0)) && ((List.range 8).all fun k => decide (S1of h 66 k = 0) && decide (S1of h 16 k = 0)) && (List.range 64).all fun k => decide (S1of h 11 k = -1)
set_option maxRecDepth 1000000 in
theorem hB_chk : (match mRun oH X0 6000 106 0 (mEnt [.ref hA.length] (mMx 106)) [] (hA ++ [.inr (9, hDf 9 53)]) with
  | some (none, h) => chkH h
  | _ => false) = true := by decide +kernel
theorem S0_chk : chkH hB = true := by
  have h := hB_chk
  rw [hB_run.1] at h
  exact h
theorem S0_1 : S0.1 = S1of hB := by
  unfold S0 Sof
  dsimp only
theorem nI_back (x : Int32) : nI x.toUInt32.toNat = x := by
  show Int32.ofNat _ = x
  apply Int32.toBitVec_inj.1
  show BitVec.ofNat 32 x.toUInt32.toNat = x.toBitVec
  exact BitVec.ofNat_toNat _ _
def D0 : DD := fun a k => (S0.1 a k).toUInt32.toNat
theorem D0_z {a k : Nat} (h : S0.1 a k = 0) : D0 a k = 0 := by
  unfold D0
  rw [h]
  rfl
theorem Inv_start : ∃ D, Inv 0 D S0 := by
  have h := S0_chk
  simp only [chkH, Bool.and_eq_true, List.all_eq_true, decide_eq_true_eq] at h
  obtain ⟨⟨h1, h2⟩, h3⟩ := h
  have z : ∀ p ∈ zz, S0.1 p.1 p.2 = 0 := by rw [S0_1]; exact h1
  have z1 : ∀ k, k < 8 → S0.1 66 k = 0 ∧ S0.1 16 k = 0 := by rw [S0_1]; exact fun k hk => h2 k (List.mem_range.mpr hk)
  have z3 : ∀ k, k < 64 → S0.1 11 k = -nI 1 := by rw [S0_1]; exact fun k hk => h3 k (List.mem_range.mpr hk)
  have a0 := z (55, 0) (by decide)
  have a4 := z (55, 4) (by decide)
  have a5 := z (55, 5) (by decide)
  have a6 := z (55, 6) (by decide)
  have a7 := z (55, 7) (by decide)
  have a16 := z (55, 16) (by decide)
  have a17 := z (55, 17) (by decide)
  have a18 := z (55, 18) (by decide)
  have a42 := z (55, 42) (by decide)
  have a43 := z (55, 43) (by decide)
  have d0 : D0 55 0 = 0 := D0_z a0
  have d4 : D0 55 4 = 0 := D0_z a4
  have d5 : D0 55 5 = 0 := D0_z a5
  have d6 : D0 55 6 = 0 := D0_z a6
  have d7 : D0 55 7 = 0 := D0_z a7
  have d16 : D0 55 16 = 0 := D0_z a16
  have d17 : D0 55 17 = 0 := D0_z a17
  have d18 : D0 55 18 = 0 := D0_z a18
  have d42 : D0 55 42 = 0 := D0_z a42
  have d43 : D0 55 43 = 0 := D0_z a43
  have hnK : ¬ hasK D0 := fun w => by have := w.1; omega
  refine ⟨D0, ⟨⟨by omega, by omega, by omega, fun k hk => by omega, fun j k _ hk => by omega⟩, ⟨by omega, fun i hi => by omega⟩, ⟨by omega, fun k hk => by omega, fun c hc => by rw [D0_z (z1 c hc).1]; omega, by omega, fun _ => ⟨d0, d7, d42⟩, by omega, by omega⟩, fun w => absurd w hnK⟩, ⟨⟨?_, fun k hk => by omega⟩, ⟨?_, ?_, ?_, fun k hk => by omega, fun k hk => by omega, fun k hk => by omega, fun a b ha hb => ?_, fun w => absurd d6 w, fun w => absurd d6 w⟩, ⟨?_, fun i hi => by omega, fun i hi => by omega, fun i hi => by omega, fun i hi => by omega, fun i hi => by omega, fun i hi => by omega, fun i k hi => by omega⟩, ⟨?_, fun c hc => ?_⟩, ⟨?_, fun w => absurd w hnK, fun _ => ?_, ?_, ?_⟩, fun w => absurd w hnK⟩, fun a k _ => (nI_back _).symm, by omega, Nat.zero_le _, by omega⟩
  · rw [d18]; exact z (1, 1) (by decide)
  · rw [d0]; exact z (7, 3) (by decide)
  · rw [d4]; exact z (7, 4) (by decide)
  · rw [d5]; exact z (7, 5) (by decide)
  · rw [z3 _ (by omega)]
    cases e : ln D0 a b with
    | none => rfl
    | some k => have := (ln_some e).1; omega
  · rw [d7]; exact z (14, 1) (by decide)
  · rw [d16]; exact z (14, 3) (by decide)
  · rw [(z1 c hc).2, D0_z (z1 c hc).1]; rfl
  · rw [if_pos d6]; exact z (0, 8) (by decide)
  · exact z (0, 9) (by decide)
  · rw [d6]; exact z (0, 10) (by decide)
  · rw [d17]; exact z (0, 11) (by decide)
