/-! the crowd. What the model's meeting asks of the walkers alone (the same rows as before, without their ways) -/
def okV (D : DD) : Prop := D 55 7 ≤ 5 ∧ ∀ i, i < D 55 7 → D 59 i ≤ 3 ∧ D 60 i < 8 ∧ D 61 i < 8 ∧ D 62 i ≤ 20
theorem okW.v {D : DD} (h : okW D) : okV D := ⟨h.1, fun i hi => by
  obtain ⟨q1, q2, q3, q4, _⟩ := h.2 i hi
  exact ⟨q1, q2, q3, q4⟩⟩
section MV
variable {D : DD} {S : Mem}
theorem ca_leV (h : okV D) {i : Nat} (hi : i < D 55 7) : ca D i ≤ 27 := by
  have := h.2 i hi
  unfold ca
  split <;> omega
theorem mo_carriesV (h : RM D S) (hw : okV D) {i : Nat} (hi : i < D 55 7) : f_Mod_carries (nI i) S = some (nI (ca D i), S) := by
  have h1 := hw.1
  have h2 := hw.2 i hi
  rw [f_Mod_carries_eq]
  unfold ca
  by_cases c : D 59 i = 2
  · simp (disch := omega) only [k_Mod_carries_28_eq, h.r, zL0, zL1, zL2, zL3, zL4, zL5, zL6, zL7, zL8, zL9, zL10, zL12, zL20, zL30, zL31, zL32, zL44, zL48, zL49, zL50, zL56, zL59, zL60, zL61, zL64, zL65, zL97, zL99, zL100, zL101, zL102, zL103, zL104, zL111, zL119, zL126, zL255, zL512, zL617, zL65535, zL65536, zL1048576, zlt, zle, zeq, ztn, zin, zzb, zadd, zmul, zm_lt, zm_gt, zm_le, zm_ge, zm_eq, zm_eq', zm_in, if_pos, if_neg, bI_s, bJ_s, bA_s, bU_s, if_true, if_false, reduceIte, or_true, true_or, or_false, false_or, and_true, true_and, and_false, false_and, not_true_eq_false, not_false_eq_true, Nat.reduceEqDiff, Nat.zero_ne_one, Nat.one_ne_zero]
  · simp (disch := omega) only [k_Mod_carries_28_eq, h.r, zL0, zL1, zL2, zL3, zL4, zL5, zL6, zL7, zL8, zL9, zL10, zL12, zL20, zL30, zL31, zL32, zL44, zL48, zL49, zL50, zL56, zL59, zL60, zL61, zL64, zL65, zL97, zL99, zL100, zL101, zL102, zL103, zL104, zL111, zL119, zL126, zL255, zL512, zL617, zL65535, zL65536, zL1048576, zlt, zle, zeq, ztn, zin, zzb, zadd, zmul, zm_lt, zm_gt, zm_le, zm_ge, zm_eq, zm_eq', zm_in, if_pos, if_neg, bI_s, bJ_s, bA_s, bU_s, if_true, if_false, reduceIte, or_true, true_or, or_false, false_or, and_true, true_and, and_false, false_and, not_true_eq_false, not_false_eq_true, Nat.reduceEqDiff, Nat.zero_ne_one, Nat.one_ne_zero]
theorem mo_mp3V (h : RM D S) (hw : okV D) {i j : Nat} (hi : i < D 55 7) (hj : j < D 55 7) {x y a b : Nat} (hx : x < 1000) (hy : y < 1000) (ha : a ≤ 1) (hb : b ≤ 1) : k_Mod_mayPass_64 (nI i) (nI j) (nI x) (nI y) (nI a) (nI b) S = some (nI (if x = y ∨ a = 1 ∨ b = 1 ∨ (D 59 i = 3 ∧ y = 0) ∨ (D 59 j = 3 ∧ x = 0) then 1 else 0), S) := by
  have h1 := hw.1
  have h2 := hw.2 i hi
  have h3 := hw.2 j hj
  rw [k_Mod_mayPass_64_eq]
  simp (disch := omega) only [k_Mod_mayPass_81_eq, k_Mod_mayPass_95_eq, k_Mod_mayPass_99_eq, mo_mp4, h.r, zL0, zL1, zL2, zL3, zL4, zL5, zL6, zL7, zL8, zL9, zL10, zL12, zL20, zL30, zL31, zL32, zL44, zL48, zL49, zL50, zL56, zL59, zL60, zL61, zL64, zL65, zL97, zL99, zL100, zL101, zL102, zL103, zL104, zL111, zL119, zL126, zL255, zL512, zL617, zL65535, zL65536, zL1048576, zlt, zle, zeq, ztn, zin, zzb, zadd, zmul, zm_lt, zm_gt, zm_le, zm_ge, zm_eq, zm_eq', zm_in, if_pos, if_neg, bI_s, bJ_s, bA_s, bU_s, if_true, if_false, reduceIte, or_true, true_or, or_false, false_or, and_true, true_and, and_false, false_and, not_true_eq_false, not_false_eq_true, Nat.reduceEqDiff, Nat.zero_ne_one, Nat.one_ne_zero]
  repeat' split
  all_goals first | rfl | (exfalso; omega)
theorem mo_mp2V (h : RM D S) (hn : okN D) (hw : okV D) {i j : Nat} (hi : i < D 55 7) (hj : j < D 55 7) {x y a : Nat} (hx : x < 1000) (hy : y < 1000) (ha : a ≤ 1) : k_Mod_mayPass_41 (nI i) (nI j) (nI x) (nI y) (nI a) S = some (nI (if x = y ∨ a = 1 ∨ (D 55 5 ≠ 0 ∧ (x = 0 ∨ y = 0)) ∨ (D 59 i = 3 ∧ y = 0) ∨ (D 59 j = 3 ∧ x = 0) then 1 else 0), S) := by
  have n2 := hn.2.2.1
  rw [k_Mod_mayPass_41_eq]
  simp (disch := omega) only [k_Mod_mayPass_59_eq, k_Mod_mayPass_63_eq, mo_mp3V h hw hi hj, h.r, zL0, zL1, zL2, zL3, zL4, zL5, zL6, zL7, zL8, zL9, zL10, zL12, zL20, zL30, zL31, zL32, zL44, zL48, zL49, zL50, zL56, zL59, zL60, zL61, zL64, zL65, zL97, zL99, zL100, zL101, zL102, zL103, zL104, zL111, zL119, zL126, zL255, zL512, zL617, zL65535, zL65536, zL1048576, zlt, zle, zeq, ztn, zin, zzb, zadd, zmul, zm_lt, zm_gt, zm_le, zm_ge, zm_eq, zm_eq', zm_in, if_pos, if_neg, bI_s, bJ_s, bA_s, bU_s, if_true, if_false, reduceIte, or_true, true_or, or_false, false_or, and_true, true_and, and_false, false_and, not_true_eq_false, not_false_eq_true, Nat.reduceEqDiff, Nat.zero_ne_one, Nat.one_ne_zero]
  repeat' split
  all_goals first | rfl | (exfalso; omega)
theorem mo_mayPassV (h : RM D S) (hn : okN D) (hw : okV D) {i j : Nat} (hi : i < D 55 7) (hj : j < D 55 7) : f_Mod_mayPass (nI i) (nI j) S = some (nI (if mp D i j then 1 else 0), S) := by
  have c1 := ca_leV hw hi
  have c2 := ca_leV hw hj
  have n1 := hn.2.1
  rw [f_Mod_mayPass_eq]
  simp (disch := omega) only [mo_carriesV h hw hi, mo_carriesV h hw hj, k_Mod_mayPass_36_eq, k_Mod_mayPass_40_eq, mo_mp2V h hn hw hi hj, h.r, zL0, zL1, zL2, zL3, zL4, zL5, zL6, zL7, zL8, zL9, zL10, zL12, zL20, zL30, zL31, zL32, zL44, zL48, zL49, zL50, zL56, zL59, zL60, zL61, zL64, zL65, zL97, zL99, zL100, zL101, zL102, zL103, zL104, zL111, zL119, zL126, zL255, zL512, zL617, zL65535, zL65536, zL1048576, zlt, zle, zeq, ztn, zin, zzb, zadd, zmul, zm_lt, zm_gt, zm_le, zm_ge, zm_eq, zm_eq', zm_in, if_pos, if_neg, bI_s, bJ_s, bA_s, bU_s, if_true, if_false, reduceIte, or_true, true_or, or_false, false_or, and_true, true_and, and_false, false_and, not_true_eq_false, not_false_eq_true, Nat.reduceEqDiff, Nat.zero_ne_one, Nat.one_ne_zero, mp_iff]
  repeat' split
  all_goals first | rfl | (exfalso; omega)
theorem mo_cannotV {D : DD} {S : Mem} (h : RM D S) (hn : okN D) (hw : okV D) {w : Nat → Nat} (hws : ∀ i, i < D 55 7 → S.1 71 i = nI (w i)) (hst : ∀ i, i < D 55 7 → stp D (D 60 i) (w i) ∧ w i < 8) {a b : Nat} (ha : a < D 55 7) (hb : b < D 55 7) : f_Mod_cannot (nI a) (nI b) S = some (nI (if cl D (mp D) w a b then 1 else 0), S) := by
  have w5 := hw.1
  have wa := hw.2 a ha
  have wb := hw.2 b hb
  have sa := hst a ha
  have sb := hst b hb
  rw [f_Mod_cannot_eq]
  by_cases c1 : w a = D 60 b
  · by_cases c2 : w b = D 60 a
    · by_cases c3 : w a = D 60 a
      · have hcl : cl D (mp D) w a b = false := by
          unfold cl mt
          rw [← c1, c3, nar_irr hn]
          simp
        rw [hcl]
        simp (disch := omega) only [k_Mod_cannot_49_eq, k_Mod_cannot_50_eq, k_Mod_cannot_92_eq, k_Mod_cannot_93_eq, h.r, hws, zL0, zL1, zL2, zL3, zL4, zL5, zL6, zL7, zL8, zL9, zL10, zL12, zL20, zL30, zL31, zL32, zL44, zL48, zL49, zL50, zL56, zL59, zL60, zL61, zL64, zL65, zL97, zL99, zL100, zL101, zL102, zL103, zL104, zL111, zL119, zL126, zL255, zL512, zL617, zL65535, zL65536, zL1048576, zlt, zle, zeq, ztn, zin, zzb, zadd, zmul, zm_lt, zm_gt, zm_le, zm_ge, zm_eq, zm_eq', zm_in, if_pos, if_neg, bI_s, bJ_s, bA_s, bU_s, if_true, if_false, reduceIte, or_true, true_or, or_false, false_or, and_true, true_and, and_false, false_and, not_true_eq_false, not_false_eq_true, Nat.reduceEqDiff, Nat.zero_ne_one, Nat.one_ne_zero, Bool.false_eq_true]
      · have hadj : adj D (D 60 a) (D 60 b) = true := by
          rcases sa.1 with q | q
          · exact absurd q.symm c3
          · rw [← c1]; exact q
        unfold adj at hadj
        cases e : ln D (D 60 a) (D 60 b) with
        | none => rw [e] at hadj; cases hadj
        | some q =>
          have hq := ln_lt hn e
          have hcl : cl D (mp D) w a b = (decide (D 58 q = 0) && !mp D a b) := by
            unfold cl mt nar
            rw [e]
            simp [ha, hb, c1, c2]
          rw [hcl]
          by_cases c4 : D 58 q = 0
          · cases c5 : mp D a b
            · simp (disch := omega) only [k_Mod_cannot_49_eq, k_Mod_cannot_50_eq, k_Mod_cannot_92_eq, k_Mod_cannot_93_eq, h.r, hws, mo_laneOf h hn, mo_mayPassV h hn hw ha hb, e, eo, c5, zL0, zL1, zL2, zL3, zL4, zL5, zL6, zL7, zL8, zL9, zL10, zL12, zL20, zL30, zL31, zL32, zL44, zL48, zL49, zL50, zL56, zL59, zL60, zL61, zL64, zL65, zL97, zL99, zL100, zL101, zL102, zL103, zL104, zL111, zL119, zL126, zL255, zL512, zL617, zL65535, zL65536, zL1048576, zlt, zle, zeq, ztn, zin, zzb, zadd, zmul, zm_lt, zm_gt, zm_le, zm_ge, zm_eq, zm_eq', zm_in, if_pos, if_neg, bI_s, bJ_s, bA_s, bU_s, if_true, if_false, reduceIte, or_true, true_or, or_false, false_or, and_true, true_and, and_false, false_and, not_true_eq_false, not_false_eq_true, Nat.reduceEqDiff, Nat.zero_ne_one, Nat.one_ne_zero, Bool.false_eq_true, decide_eq_true c4, Bool.not_false, Bool.and_self]
            · simp (disch := omega) only [k_Mod_cannot_49_eq, k_Mod_cannot_50_eq, k_Mod_cannot_92_eq, k_Mod_cannot_93_eq, h.r, hws, mo_laneOf h hn, mo_mayPassV h hn hw ha hb, e, eo, c5, zL0, zL1, zL2, zL3, zL4, zL5, zL6, zL7, zL8, zL9, zL10, zL12, zL20, zL30, zL31, zL32, zL44, zL48, zL49, zL50, zL56, zL59, zL60, zL61, zL64, zL65, zL97, zL99, zL100, zL101, zL102, zL103, zL104, zL111, zL119, zL126, zL255, zL512, zL617, zL65535, zL65536, zL1048576, zlt, zle, zeq, ztn, zin, zzb, zadd, zmul, zm_lt, zm_gt, zm_le, zm_ge, zm_eq, zm_eq', zm_in, if_pos, if_neg, bI_s, bJ_s, bA_s, bU_s, if_true, if_false, reduceIte, or_true, true_or, or_false, false_or, and_true, true_and, and_false, false_and, not_true_eq_false, not_false_eq_true, Nat.reduceEqDiff, Nat.zero_ne_one, Nat.one_ne_zero, Bool.false_eq_true, Bool.not_true, Bool.and_false]
          · simp (disch := omega) only [k_Mod_cannot_49_eq, k_Mod_cannot_50_eq, k_Mod_cannot_92_eq, k_Mod_cannot_93_eq, h.r, hws, mo_laneOf h hn, mo_mayPassV h hn hw ha hb, e, eo, zL0, zL1, zL2, zL3, zL4, zL5, zL6, zL7, zL8, zL9, zL10, zL12, zL20, zL30, zL31, zL32, zL44, zL48, zL49, zL50, zL56, zL59, zL60, zL61, zL64, zL65, zL97, zL99, zL100, zL101, zL102, zL103, zL104, zL111, zL119, zL126, zL255, zL512, zL617, zL65535, zL65536, zL1048576, zlt, zle, zeq, ztn, zin, zzb, zadd, zmul, zm_lt, zm_gt, zm_le, zm_ge, zm_eq, zm_eq', zm_in, if_pos, if_neg, bI_s, bJ_s, bA_s, bU_s, if_true, if_false, reduceIte, or_true, true_or, or_false, false_or, and_true, true_and, and_false, false_and, not_true_eq_false, not_false_eq_true, Nat.reduceEqDiff, Nat.zero_ne_one, Nat.one_ne_zero, Bool.false_eq_true, decide_eq_false c4, Bool.false_and]
    · have hcl : cl D (mp D) w a b = false := by
        unfold cl mt
        simp [c2]
      rw [hcl]
      simp (disch := omega) only [k_Mod_cannot_49_eq, k_Mod_cannot_50_eq, k_Mod_cannot_92_eq, k_Mod_cannot_93_eq, h.r, hws, zL0, zL1, zL2, zL3, zL4, zL5, zL6, zL7, zL8, zL9, zL10, zL12, zL20, zL30, zL31, zL32, zL44, zL48, zL49, zL50, zL56, zL59, zL60, zL61, zL64, zL65, zL97, zL99, zL100, zL101, zL102, zL103, zL104, zL111, zL119, zL126, zL255, zL512, zL617, zL65535, zL65536, zL1048576, zlt, zle, zeq, ztn, zin, zzb, zadd, zmul, zm_lt, zm_gt, zm_le, zm_ge, zm_eq, zm_eq', zm_in, if_pos, if_neg, bI_s, bJ_s, bA_s, bU_s, if_true, if_false, reduceIte, or_true, true_or, or_false, false_or, and_true, true_and, and_false, false_and, not_true_eq_false, not_false_eq_true, Nat.reduceEqDiff, Nat.zero_ne_one, Nat.one_ne_zero, Bool.false_eq_true]
  · have hcl : cl D (mp D) w a b = false := by
      unfold cl mt
      simp [c1]
    rw [hcl]
    simp (disch := omega) only [k_Mod_cannot_49_eq, k_Mod_cannot_50_eq, k_Mod_cannot_92_eq, k_Mod_cannot_93_eq, h.r, hws, zL0, zL1, zL2, zL3, zL4, zL5, zL6, zL7, zL8, zL9, zL10, zL12, zL20, zL30, zL31, zL32, zL44, zL48, zL49, zL50, zL56, zL59, zL60, zL61, zL64, zL65, zL97, zL99, zL100, zL101, zL102, zL103, zL104, zL111, zL119, zL126, zL255, zL512, zL617, zL65535, zL65536, zL1048576, zlt, zle, zeq, ztn, zin, zzb, zadd, zmul, zm_lt, zm_gt, zm_le, zm_ge, zm_eq, zm_eq', zm_in, if_pos, if_neg, bI_s, bJ_s, bA_s, bU_s, if_true, if_false, reduceIte, or_true, true_or, or_false, false_or, and_true, true_and, and_false, false_and, not_true_eq_false, not_false_eq_true, Nat.reduceEqDiff, Nat.zero_ne_one, Nat.one_ne_zero, Bool.false_eq_true]
theorem mo_layBackV {D : DD} {S : Mem} (h : RM D S) (hn : okN D) (hw : okV D) {w : Nat → Nat} (hws : ∀ i, i < D 55 7 → S.1 71 i = nI (w i)) (hst : ∀ i, i < D 55 7 → stp D (D 60 i) (w i) ∧ w i < 8) : ∃ S', f_Mod_layBack S = some (nI (lay D (mp D) w).1, S') ∧ frL S S' ∧ LI (lay D (mp D) w) S' :=
  mo_lay hw.1 (h.r 55 7 (by omega)) (fun S' hf a b hab hb => mo_cannotV (RM_L h hf) hn hw (fun i hi => by rw [hf.1 _ _ (by omega), hws i hi]) hst (by omega) hb)
end MV
theorem mx_mtV {D D' : DD} (hd : okD D) (ho : ovr D D') {w : Nat → Nat} (hw : D' 55 7 ≤ 5) {i j : Nat} (hij : i < j) : mx D (fun i => if i < D' 55 7 then D' 60 i else 0) (fun i => if i < D' 55 7 then w i else 0) i j = mt D' (w) i j := by
  have hnar : ∀ a b, nar D' a b = nar D a b := fun a b => nar_row (ho 55 (by omega) (by omega)) (ho 56 (by omega) (by omega)) (ho 57 (by omega) (by omega)) (ho 58 (by omega) (by omega)) a b
  unfold mx mt
  by_cases hj : j < D' 55 7
  · have hi : i < D' 55 7 := by omega
    simp only [if_pos hi, if_pos hj, hnar, decide_eq_true hi, decide_eq_true hj, Bool.true_and]
  · simp only [if_neg hj, decide_eq_false hj, Bool.and_false, Bool.false_and]
    by_cases h0 : (if i < D' 55 7 then D' 60 i else 0) = 0
    · rw [h0, nar_irr hd.1]; simp
    · simp only [decide_eq_false (fun q : 0 = (if i < D' 55 7 then D' 60 i else 0) => h0 q.symm), Bool.and_false, Bool.false_and]
theorem lay_mxV {D D' : DD} {P : Nat → Nat → Bool} (hd : okD D) (ho : ovr D D') {w : Nat → Nat} (hw : D' 55 7 ≤ 5) : lb (fun i j => mx D (fun i => if i < D' 55 7 then D' 60 i else 0) (fun i => if i < D' 55 7 then w i else 0) i j && !P i j) 5 = lay D' P (w) := by
  rw [lb_cong (f' := cl D' P (w)) (fun i j hij hj => by unfold cl; rw [mx_mtV hd ho hw hij])]
  exact lb_ext hw (fun i j hj => by unfold cl mt; simp [show ¬ j < D' 55 7 by omega])
