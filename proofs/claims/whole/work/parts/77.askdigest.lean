section MDG
variable {D : DD} {S : Mem}
def MIx (D : DD) (S0 : Mem) (h : Int64) (T : Mem) : Prop := RM D T ∧ frM S0 T ∧ T.2 55 52 = h
theorem MIx_mix {S0 T : Mem} {h : Int64} (q : MIx D S0 h T) (v : Int32) : ∃ T', f_Mod_mix v.toInt64 T = some T' ∧ MIx D S0 (hmx h v) T' := by
  obtain ⟨q1, q2, q3⟩ := q
  refine ⟨u2 T 55 52 (hmx h v), ?_, RM_l q1, fun a k q => q2 a k q, zvS ⟨rfl, rfl⟩⟩
  rw [f_Mod_mix_eq, q3]
  rfl
theorem MIx_st {S0 T T' : Mem} {h : Int64} (q : MIx D S0 h T) (m : RM D T') (f : frM T T') (e : T'.2 = T.2) : MIx D S0 h T' := ⟨m, fun a k w => by rw [f a k w, q.2.1 a k w], by rw [e]; exact q.2.2⟩
theorem mo_mixWalker (hd : okD D) {i : Nat} (hi : i < D 55 7) {S0 : Mem} {h : Int64} (q : MIx D S0 h S) : ∃ S', f_Mod_mixWalker (nI i) S = some S' ∧ MIx D S0 (hWk D i h) S' := by
  have w5 := hd.2.1.1
  obtain ⟨S1, e1, q1⟩ := zfor (fun k T => k_Mod_mixWalker_2 (nI i) (nI k) T) 7 (fun k T => MIx D S0 (hSq (ab D i) k h) T) (by
    intro k T hk qT
    obtain ⟨T2, e, q2⟩ := MIx_mix qT (ab D i k)
    refine ⟨T2, ?_, q2⟩
    have ea := mo_about hd qT.1 hi (k := k) (by omega)
    show k_Mod_mixWalker_2 _ _ _ = _
    rw [k_Mod_mixWalker_2_eq, zL7, zL1, if_neg (by rw [zle (by omega) (by omega)]; omega), ea, bI_s, e, bU_s, zadd]) 7 0 S rfl q
  have e1' : k_Mod_mixWalker_2 (nI i) (nI 0) S = k_Mod_mixWalker_2 (nI i) (nI 7) S1 := e1
  obtain ⟨h1, eh1⟩ : ∃ h1, h1 = hSq (ab D i) 7 h := ⟨_, rfl⟩
  rw [← eh1] at q1
  obtain ⟨S2, e2, q2⟩ := zfor (fun j T => k_Mod_mixWalker_27 (nI i) (nI j) T) (D 55 7) (fun j T => MIx D S0 (hP D i j h1) T) (by
    intro j T hj qT
    have r7 := qT.1.r 55 7 (by omega)
    have hPs : hP D i (j + 1) h1 = if j = i then hP D i j h1 else hmx (hP D i j h1) (nI (if mp D i j then 1 else 0)) := rfl
    by_cases c : j = i
    · refine ⟨T, ?_, by rw [hPs, if_pos c]; exact qT⟩
      show k_Mod_mixWalker_27 _ _ _ = _
      rw [k_Mod_mixWalker_27_eq, r7, if_neg (by rw [zle (by omega) (by omega)]; omega), if_pos (by rw [c]), k_Mod_mixWalker_58_eq, zL1, zadd]
    · obtain ⟨T2, e, qT2⟩ := MIx_mix qT (nI (if mp D i j then 1 else 0))
      refine ⟨T2, ?_, by rw [hPs, if_neg c]; exact qT2⟩
      have p2 := mo_mayPass qT.1 hd.1 hd.2.1 hi hj
      show k_Mod_mixWalker_27 _ _ _ = _
      rw [k_Mod_mixWalker_27_eq, r7, if_neg (by rw [zle (by omega) (by omega)]; omega), if_neg (by rw [zeq (by omega) (by omega)]; exact c), p2, bI_s, zL0]
      cases cp : mp D i j
      · rw [cp] at e
        rw [if_pos (show nI (if false = true then 1 else 0) = nI 0 from rfl), k_Mod_mixWalker_55_eq]
        have e' : f_Mod_mix 0 T = some T2 := e
        rw [e', bU_s, k_Mod_mixWalker_58_eq, zL1, zadd]
      · rw [cp] at e
        rw [if_neg (show ¬ nI (if true = true then 1 else 0) = nI 0 by decide), k_Mod_mixWalker_55_eq]
        have e' : f_Mod_mix 1 T = some T2 := e
        rw [e', bU_s, k_Mod_mixWalker_58_eq, zL1, zadd]) (D 55 7) 0 S1 (by omega) q1
  have e2' : k_Mod_mixWalker_27 (nI i) (nI 0) S1 = k_Mod_mixWalker_27 (nI i) (nI (D 55 7)) S2 := e2
  obtain ⟨S3, e3, m3, f3⟩ := mo_enoughNow hd hi q2.1
  have q3 := MIx_st q2 m3 (frF_M (D := D) f3) f3.2
  obtain ⟨S4, e4, q4⟩ := MIx_mix q3 (en D i)
  rw [eh1] at q4
  refine ⟨S4, ?_, q4⟩
  have r7 := q2.1.r 55 7 (by omega)
  rw [f_Mod_mixWalker_eq, zL0, e1', k_Mod_mixWalker_2_eq, zL7, zL0, if_pos (by rw [zle (by omega) (by omega)]; omega), e2', k_Mod_mixWalker_27_eq, r7, if_pos (by rw [zle (by omega) (by omega)]; exact Nat.le_refl _), e3, bI_s, e4, bU_s]
theorem mo_dg1 (hd : okD D) {S0 : Mem} {h : Int64} (q : MIx D S0 h S) : ∃ S', k_Mod_digest_9 (nI 0) S = k_Mod_digest_49 (nI 0) S' ∧ MIx D S0 (hLan D (D 55 0) h) S' := by
  have n12 := hd.1.1
  obtain ⟨S1, e1, q1⟩ := zfor (fun k T => k_Mod_digest_9 (nI k) T) (D 55 0) (fun k T => MIx D S0 (hLan D k h) T) (by
    intro k T hk qT
    have r0 := qT.1.r 55 0 (by omega)
    have l0 := mo_laneV hd qT.1 (k := 0) hk (by omega)
    obtain ⟨T1, a1, q1⟩ := MIx_mix qT (lnv D k 0)
    have l1 := mo_laneV hd q1.1 (k := 1) hk (by omega)
    obtain ⟨T2, a2, q2⟩ := MIx_mix q1 (lnv D k 1)
    have l2 := mo_laneV hd q2.1 (k := 2) hk (by omega)
    obtain ⟨T3, a3, q3⟩ := MIx_mix q2 (lnv D k 2)
    refine ⟨T3, ?_, q3⟩
    show k_Mod_digest_9 _ _ = _
    rw [k_Mod_digest_9_eq, r0, if_neg (by rw [zle (by omega) (by omega)]; omega), zL0, k_Mod_digest_19_eq, zL3, if_neg (by rw [zle (by omega) (by omega)]; omega), l0, bI_s, a1, bU_s, zL1, zadd, k_Mod_digest_19_eq, zL3, if_neg (by rw [zle (by omega) (by omega)]; omega), l1, bI_s, a2, bU_s, zL1, zadd, k_Mod_digest_19_eq, zL3, if_neg (by rw [zle (by omega) (by omega)]; omega), l2, bI_s, a3, bU_s, zL1, zadd, k_Mod_digest_19_eq, zL3, if_pos (by rw [zle (by omega) (by omega)]; omega), zL1, zadd]) (D 55 0) 0 S (by omega) q
  have r1 := q1.1.r 55 0 (by omega)
  refine ⟨S1, Eq.trans e1 ?_, q1⟩
  show k_Mod_digest_9 _ _ = _
  rw [k_Mod_digest_9_eq, r1, if_pos (by rw [zle (by omega) (by omega)]; exact Nat.le_refl _), zL0]
theorem mo_dg2 (hd : okD D) {S0 : Mem} {h : Int64} (q : MIx D S0 h S) : ∃ S', k_Mod_digest_49 (nI 0) S = k_Mod_digest_70 (nI 0) S' ∧ MIx D S0 (hWs D (D 55 7) h) S' := by
  have w5 := hd.2.1.1
  obtain ⟨S2, e2, q2⟩ := zfor (fun k T => k_Mod_digest_49 (nI k) T) (D 55 7) (fun k T => MIx D S0 (hWs D k h) T) (by
    intro k T hk qT
    have r7 := qT.1.r 55 7 (by omega)
    obtain ⟨T1, a1, q1⟩ := mo_mixWalker hd hk qT
    refine ⟨T1, ?_, q1⟩
    show k_Mod_digest_49 _ _ = _
    rw [k_Mod_digest_49_eq, r7, if_neg (by rw [zle (by omega) (by omega)]; omega), a1, bU_s, zL1, zadd]) (D 55 7) 0 S (by omega) q
  have r2 := q2.1.r 55 7 (by omega)
  refine ⟨S2, Eq.trans e2 ?_, q2⟩
  show k_Mod_digest_49 _ _ = _
  rw [k_Mod_digest_49_eq, r2, if_pos (by rw [zle (by omega) (by omega)]; exact Nat.le_refl _), zL0]
theorem mo_dg3 (h6 : D 55 6 < 2147483648) {S0 : Mem} {h : Int64} (q : MIx D S0 h S) : ∃ S', k_Mod_digest_70 (nI 0) S = k_Mod_digest_100 S' ∧ MIx D S0 (hHp D h) S' := by
  unfold hHp
  by_cases c : D 55 6 = 0
  · have r6 := q.1.r 55 6 (by omega)
    rw [if_pos c]
    refine ⟨S, ?_, q⟩
    rw [k_Mod_digest_70_eq, zL0, zL8, if_neg (by rw [zle (by omega) (by omega)]; omega), r6, if_pos (by rw [c, zle (by omega) (by omega)]; omega)]
  · rw [if_neg c]
    obtain ⟨S3, e3, q3⟩ := zfor (fun k T => k_Mod_digest_70 (nI k) T) 8 (fun k T => MIx D S0 (hSq (fun k => nI (D 66 k)) k h) T) (by
      intro k T hk qT
      have r6 := qT.1.r 55 6 (by omega)
      have r66 := qT.1.r 66 k (by omega)
      obtain ⟨T1, a1, q1⟩ := MIx_mix qT (nI (D 66 k))
      refine ⟨T1, ?_, q1⟩
      show k_Mod_digest_70 _ _ = _
      rw [k_Mod_digest_70_eq, zL0, zL8, if_neg (by rw [zle (by omega) (by omega)]; omega), r6, if_neg (fun hle => c (zle0 h6 hle)), if_pos (by rw [zin (by omega)]; omega), ztn (by omega), r66, a1, bU_s, zL1, zadd]) 8 0 S rfl q
    refine ⟨S3, Eq.trans e3 ?_, q3⟩
    show k_Mod_digest_70 _ _ = _
    rw [k_Mod_digest_70_eq, zL8, if_pos (by rw [zle (by omega) (by omega)]; omega)]
theorem mo_dg4 (hd : okD D) {S0 : Mem} {h : Int64} (q : MIx D S0 h S) : ∃ S', k_Mod_digest_100 S = k_Mod_digest_157 (nI 0) S' ∧ MIx D S0 (hmx (hSq (fun k => fiR k (fo (qs 31) (mp D) 60 1 D)) 3 h) (nI (fitsN D (ms (D 55 7))))) S' := by
  have w5 := hd.2.1.1
  obtain ⟨F, hF⟩ : ∃ F, F = fun k => fiR k (fo (qs 31) (mp D) 60 1 D) := ⟨_, rfl⟩
  rw [← hF]
  obtain ⟨S4, e4, q4⟩ := zfor (fun k T => k_Mod_digest_102 (nI k) T) 3 (fun k T => MIx D S0 (hSq F k h) T) (by
    intro k T hk qT
    obtain ⟨T1, a1, m1, f1⟩ := mo_firstNow (what := k) (by omega) qT.1 hd.1 hd.2.1
    have a1' : f_Mod_firstNow (nI k) T = some (F k, T1) := by rw [hF]; exact a1
    have qT1 := MIx_st qT m1 (frF_M (D := D) f1) f1.2
    obtain ⟨T2, a2, q2⟩ := MIx_mix qT1 (F k)
    refine ⟨T2, ?_, q2⟩
    show k_Mod_digest_102 _ _ = _
    rw [k_Mod_digest_102_eq, zL3, if_neg (by rw [zle (by omega) (by omega)]; omega), a1', bI_s, a2, bU_s, zL1, zadd]) 3 0 S rfl q
  have r4 := q4.1.r 55 7 (by omega)
  obtain ⟨S5, e5, m5, f5, g5, _⟩ := mo_fitsNow (D := D) (set := ms (D 55 7)) hd (ms_lt _ w5) (w := 0) (by omega) q4.1
  have q5 := MIx_st q4 m5 f5 g5
  obtain ⟨S6, e6, q6⟩ := MIx_mix q5 (nI (fitsN D (ms (D 55 7))))
  refine ⟨S6, ?_, q6⟩
  have go : ∀ z : Int32, ((1 : Int32) <<< (z &&& 31)) - 1 = nI (ms (D 55 7)) → k_Mod_digest_139 z S4 = k_Mod_digest_157 (nI 0) S6 := fun z ez => by
    rw [k_Mod_digest_139_eq, ez, zL0, e5, bI_s, e6, bU_s]
  have h2 := ms_eq2 _ w5
  rw [k_Mod_digest_100_eq, zL0]
  refine Eq.trans e4 ?_
  show k_Mod_digest_102 _ _ = _
  rw [k_Mod_digest_102_eq, zL3, if_pos (by rw [zle (by omega) (by omega)]; exact Nat.le_refl _), r4]
  by_cases c : nI 3 ≤ nI (D 55 7)
  · rw [if_pos c] at h2 ⊢
    exact go _ h2
  · rw [if_neg c] at h2 ⊢
    exact go _ h2
theorem mo_dg5 (hd : okD D) {S0 : Mem} {h : Int64} (q : MIx D S0 h S) : ∃ S', k_Mod_digest_157 (nI 0) S = some (hSq (hw D) 10 (hSq (fun k => nI (D 67 k)) (D 55 18) h), S') ∧ RM D S' ∧ frM S0 S' := by
  have p50 := hd.2.2.1.1
  obtain ⟨P, hP_⟩ : ∃ P : Nat → Int32, P = fun k => nI (D 67 k) := ⟨_, rfl⟩
  rw [← hP_]
  obtain ⟨S7, e7, q7⟩ := zfor (fun k T => k_Mod_digest_157 (nI k) T) (D 55 18) (fun k T => MIx D S0 (hSq P k h) T) (by
    intro k T hk qT
    have r18 := qT.1.r 55 18 (by omega)
    have r67 : T.1 67 k = P k := by rw [hP_]; exact qT.1.r 67 k (by omega)
    obtain ⟨T1, a1, q1⟩ := MIx_mix qT (P k)
    refine ⟨T1, ?_, q1⟩
    show k_Mod_digest_157 _ _ = _
    rw [k_Mod_digest_157_eq, r18, if_neg (by rw [zle (by omega) (by omega)]; omega), if_pos (by rw [zin (by omega)]; omega), ztn (by omega), r67, a1, bU_s, zL1, zadd]) (D 55 18) 0 S (by omega) q
  have r7 := q7.1.r 55 18 (by omega)
  obtain ⟨h2, eh2⟩ : ∃ h2, h2 = hSq P (D 55 18) h := ⟨_, rfl⟩
  rw [← eh2]
  have q7' : MIx D S0 h2 S7 := by rw [eh2]; exact q7
  obtain ⟨W, hW⟩ : ∃ W : Nat → Int32, W = hw D := ⟨_, rfl⟩
  rw [← hW]
  obtain ⟨S8, e8, q8⟩ := zfor (fun k T => k_Mod_digest_184 (nI k) T) 10 (fun k T => MIx D S0 (hSq W k h2) T) (by
    intro k T hk qT
    have ea : f_Mod_howMany (nI k) T = some (W k, T) := by rw [hW]; exact mo_howMany hd qT.1 (by omega)
    obtain ⟨T1, a1, q1⟩ := MIx_mix qT (W k)
    refine ⟨T1, ?_, q1⟩
    show k_Mod_digest_184 _ _ = _
    rw [k_Mod_digest_184_eq, zL10, if_neg (by rw [zle (by omega) (by omega)]; omega), ea, bI_s, a1, bU_s, zL1, zadd]) 10 0 S7 rfl q7'
  have e8' : k_Mod_digest_184 (nI 0) S7 = k_Mod_digest_184 (nI 10) S8 := e8
  have q8' : MIx D S0 (hSq W 10 h2) S8 := q8
  refine ⟨S8, ?_, q8'.1, q8'.2.1⟩
  refine Eq.trans e7 ?_
  show k_Mod_digest_157 _ _ = _
  rw [k_Mod_digest_157_eq, r7, if_pos (by rw [zle (by omega) (by omega)]; exact Nat.le_refl _), zL0, e8', k_Mod_digest_184_eq, zL10, if_pos (by rw [zle (by omega) (by omega)]; exact Nat.le_refl _), q8'.2.2]
theorem mo_digest (hd : okD D) (hm : RM D S) (h6 : D 55 6 < 2147483648) : ∃ S', f_Mod_digest S = some (d5 D, S') ∧ RM D S' ∧ frM S S' := by
  obtain ⟨S0, hS0⟩ : ∃ S0, S0 = u2 S 55 52 617 := ⟨_, rfl⟩
  have q0 : MIx D S 617 S0 := by rw [hS0]; exact ⟨RM_l hm, fun a k q => rfl, zvS ⟨rfl, rfl⟩⟩
  obtain ⟨S1, e1, q1⟩ := mo_dg1 hd q0
  obtain ⟨S2, e2, q2⟩ := mo_dg2 hd q1
  obtain ⟨S3, e3, q3⟩ := mo_dg3 h6 q2
  obtain ⟨S4, e4, q4⟩ := mo_dg4 hd q3
  obtain ⟨S5, e5, m5, f5⟩ := mo_dg5 hd q4
  refine ⟨S5, ?_, m5, f5⟩
  rw [f_Mod_digest_eq, ← hS0, zL0, e1, e2, e3, e4, e5]
  unfold d5
  rfl
/-- what a call owes that answers in 64 bits -/
def CALJ (c : Nat) (S : Mem) (T M : Mem → Option (Int64 × Mem)) : Prop := ∃ r S1 S2 D', T S = some (r, S1) ∧ M S1 = some (r, S2) ∧ Inv (c + 1) D' S2
theorem ask_digest {c : Nat} (h : Inv c D S) (hc : c < 512) : CALJ c S f_Top_digest f_Mod_digest := by
  obtain ⟨hd, hr, hm, h4, h5, h6⟩ := id h
  obtain ⟨S1, e1, f1⟩ := ct_digest hd hr
  have r1 : RC D S1 := RC_f hd hr f1
  obtain ⟨S2, e2, m2, f2⟩ := mo_digest hd (RM_T hm (frC_T f1)) (by omega)
  exact ⟨d5 D, S1, S2, D, e1, e2, hd, RC_M hd r1 f2, m2, by omega, by omega, by omega⟩
end MDG
