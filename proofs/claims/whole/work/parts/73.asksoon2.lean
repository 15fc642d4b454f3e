section SOP
variable {D : DD} {S : Mem}
/-- one plan more -/
def pln (D : DD) : DD := dS D 55 (dU (D 55) 17 (D 55 17 + 1))
theorem okD_p (hd : okD D) (h : D 55 17 < 40) : okD (pln D) := ⟨okN_d hd.1 rfl rfl rfl rfl rfl rfl, okW_d hd.2.1 rfl rfl rfl rfl rfl rfl rfl (fun i hi => (hd.2.1.2 i hi).2.2.2.1) rfl rfl rfl, ⟨hd.2.2.1.1, hd.2.2.1.2.1, hd.2.2.1.2.2.1, by show D 55 17 + 1 ≤ 40; omega, hd.2.2.1.2.2.2.2.1, hd.2.2.1.2.2.2.2.2.1, hd.2.2.1.2.2.2.2.2.2⟩, okK_d hd.2.2.2 rfl rfl rfl rfl rfl rfl rfl rfl (Nat.le_refl _) rfl rfl rfl rfl rfl rfl⟩
theorem RC.pl (h : RC D S) : S.1 0 11 = nI (D 55 17) := h.2.2.2.2.1.2.2.2.2
theorem RC_p (hd : okD D) (hr : RC D S) : RC (pln D) (u1 S 0 11 (nI (D 55 17 + 1))) := by
  have w5 := hd.2.1.1
  have hk := hd.2.2.2
  refine ⟨rPg_f (rPg_d hr.1 rfl rfl) (fun a k q => zuN (by omega)), rNt_f (rNt_d hr.2.1 rfl rfl rfl rfl rfl rfl rfl) (fun a k q => zuN (by omega)), rTw_f w5 (rTw_d hr.2.2.1 rfl rfl rfl rfl rfl rfl rfl rfl) (fun a k q => zuN (by omega)), rHp_f (rHp_d hr.2.2.2.1 rfl rfl) (fun a k q => zuN (by omega)), ?_, rKp_f (okK_d hk rfl rfl rfl rfl rfl rfl rfl rfl (Nat.le_refl _) rfl rfl rfl rfl rfl rfl) w5 (rKp_d hr.2.2.2.2.2 rfl rfl rfl rfl rfl (fun _ _ => rfl) (fun _ _ => rfl) rfl rfl rfl rfl rfl rfl) (fun a k q => zuN (by omega))⟩
  obtain ⟨h1, h2, h3, h4, h5⟩ := hr.2.2.2.2.1
  exact ⟨by rw [zuN (by omega)]; exact h1, fun q => by rw [zuN (by omega)]; exact h2 q, fun q => by rw [zuN (by omega)]; exact h3 q, by rw [zuN (by omega)]; exact h4, by rw [zuS ⟨rfl, rfl⟩]; rfl⟩
theorem ct_mayPlan (hd : okD D) (hr : RC D S) : f_Top_mayPlan S = some (nI (if 1 ≤ D 55 7 ∧ D 55 7 ≤ 3 ∧ D 55 17 < 40 then 1 else 0), S) := by
  have w5 := hd.2.1.1
  have e1 := hr.w
  have e2 := hr.pl
  have p40 := hd.2.2.1.2.2.2.1
  rw [f_Top_mayPlan_eq]
  by_cases c1 : 1 ≤ D 55 7
  · by_cases c2 : D 55 7 ≤ 3
    · by_cases c3 : D 55 17 < 40
      · simp (disch := omega) only [zL0, zL1, zL2, zL3, zL4, zL5, zL6, zL7, zL8, zL9, zL10, zL12, zL20, zL30, zL31, zL32, zL44, zL48, zL49, zL50, zL56, zL59, zL60, zL61, zL64, zL65, zL97, zL99, zL100, zL101, zL102, zL103, zL104, zL111, zL119, zL126, zL255, zL512, zL617, zL65535, zL65536, zL1048576, zlt, zle, zeq, ztn, zin, zzb, zadd, zmul, zm_lt, zm_gt, zm_le, zm_ge, zm_eq, zm_eq', zm_in, if_pos, if_neg, bI_s, bJ_s, bA_s, bU_s, if_true, if_false, reduceIte, or_true, true_or, or_false, false_or, and_true, true_and, and_false, false_and, not_true_eq_false, not_false_eq_true, Nat.reduceEqDiff, Nat.zero_ne_one, Nat.one_ne_zero, e1, e2, show (40 : Int32) = nI 40 from rfl, k_Top_mayPlan_35_eq, k_Top_mayPlan_36_eq]
      · simp (disch := omega) only [zL0, zL1, zL2, zL3, zL4, zL5, zL6, zL7, zL8, zL9, zL10, zL12, zL20, zL30, zL31, zL32, zL44, zL48, zL49, zL50, zL56, zL59, zL60, zL61, zL64, zL65, zL97, zL99, zL100, zL101, zL102, zL103, zL104, zL111, zL119, zL126, zL255, zL512, zL617, zL65535, zL65536, zL1048576, zlt, zle, zeq, ztn, zin, zzb, zadd, zmul, zm_lt, zm_gt, zm_le, zm_ge, zm_eq, zm_eq', zm_in, if_pos, if_neg, bI_s, bJ_s, bA_s, bU_s, if_true, if_false, reduceIte, or_true, true_or, or_false, false_or, and_true, true_and, and_false, false_and, not_true_eq_false, not_false_eq_true, Nat.reduceEqDiff, Nat.zero_ne_one, Nat.one_ne_zero, e1, e2, show (40 : Int32) = nI 40 from rfl, k_Top_mayPlan_35_eq, k_Top_mayPlan_36_eq]
    · simp (disch := omega) only [zL0, zL1, zL2, zL3, zL4, zL5, zL6, zL7, zL8, zL9, zL10, zL12, zL20, zL30, zL31, zL32, zL44, zL48, zL49, zL50, zL56, zL59, zL60, zL61, zL64, zL65, zL97, zL99, zL100, zL101, zL102, zL103, zL104, zL111, zL119, zL126, zL255, zL512, zL617, zL65535, zL65536, zL1048576, zlt, zle, zeq, ztn, zin, zzb, zadd, zmul, zm_lt, zm_gt, zm_le, zm_ge, zm_eq, zm_eq', zm_in, if_pos, if_neg, bI_s, bJ_s, bA_s, bU_s, if_true, if_false, reduceIte, or_true, true_or, or_false, false_or, and_true, true_and, and_false, false_and, not_true_eq_false, not_false_eq_true, Nat.reduceEqDiff, Nat.zero_ne_one, Nat.one_ne_zero, e1, e2, show (40 : Int32) = nI 40 from rfl, k_Top_mayPlan_35_eq, k_Top_mayPlan_36_eq]
  · simp (disch := omega) only [zL0, zL1, zL2, zL3, zL4, zL5, zL6, zL7, zL8, zL9, zL10, zL12, zL20, zL30, zL31, zL32, zL44, zL48, zL49, zL50, zL56, zL59, zL60, zL61, zL64, zL65, zL97, zL99, zL100, zL101, zL102, zL103, zL104, zL111, zL119, zL126, zL255, zL512, zL617, zL65535, zL65536, zL1048576, zlt, zle, zeq, ztn, zin, zzb, zadd, zmul, zm_lt, zm_gt, zm_le, zm_ge, zm_eq, zm_eq', zm_in, if_pos, if_neg, bI_s, bJ_s, bA_s, bU_s, if_true, if_false, reduceIte, or_true, true_or, or_false, false_or, and_true, true_and, and_false, false_and, not_true_eq_false, not_false_eq_true, Nat.reduceEqDiff, Nat.zero_ne_one, Nat.one_ne_zero, e1, e2, show (40 : Int32) = nI 40 from rfl, k_Top_mayPlan_35_eq, k_Top_mayPlan_36_eq]
/-- a plan is asked for: both count it -/
theorem CAL_p {c : Nat} (h : Inv c D S) (hc : c < 512) (h40 : D 55 17 < 40) {T M : Mem → Option (Int32 × Mem)} {A : Int32} (hT : RC (pln D) (u1 S 0 11 (nI (D 55 17 + 1))) → ∃ S1, T S = some (A, S1) ∧ frC (u1 S 0 11 (nI (D 55 17 + 1))) S1) (hM : ∀ S1, RM D S1 → RM (pln D) (u1 S1 55 17 (nI (D 55 17 + 1))) → ∃ S2, M S1 = some (A, S2) ∧ RM (pln D) S2 ∧ frM (u1 S1 55 17 (nI (D 55 17 + 1))) S2) : CAL c S T M := by
  obtain ⟨hd, hr, hm, h4, h5, h6⟩ := h
  have hd' := okD_p hd h40
  have hr' := RC_p hd hr
  obtain ⟨S1, e1, f1⟩ := hT hr'
  have hr1 := RC_f hd' hr' f1
  have hm1 : RM D S1 := RM_T hm (fun a k q => by rw [f1 a k (by omega), zuN (by omega)])
  obtain ⟨S2, e2, m2, f2⟩ := hM S1 hm1 (RM_u1 hm1)
  refine ⟨A, S1, S2, pln D, e1, e2, hd', RC_M hd' hr1 (fun a k q => by rw [f2 a k q, zuN (by omega)]), m2, by show D 55 6 ≤ c + 1; omega, Nat.zero_le _, by omega⟩
theorem ct_soonestNow (hd : okD D) (hr : RC D S) (h1 : 1 ≤ D 55 7) (h3 : D 55 7 ≤ 3) {x : Nat} (hx : x ≤ 3) : ∃ S1 r S2 A, f_Planner_begin S = some S1 ∧ f_Planner_fewest (-nI 1) (nI 30) S1 = some (eo r, S2) ∧ frC S S2 ∧ (∀ v, r = some v → v ≤ 30) ∧ soA D x A ∧ ((x = 0 ∧ A = eo r) ∨ (x ≠ 0 ∧ (r = none ∨ r = some 0) ∧ A = -nI 1) ∨ (x ≠ 0 ∧ D 55 7 < x ∧ A = -nI 1) ∨ (x ≠ 0 ∧ x ≤ D 55 7 ∧ ∃ d, r = some (d + 1) ∧ f_Planner_firstStep (nI (d + 1)) (nI (x - 1)) S2 = some (A, S2))) := by
  have hg5 := (cdk_3 hd (a := 61) (by omega)).1
  have hs5 := (cdk_3 hd (a := 60) (by omega)).1
  obtain ⟨S1, e1, f1, g1, b1⟩ := cp_begin hd hr
  obtain ⟨S2, r, far, e2, f2, sn2, far2, pl2, le2, at2⟩ := cp_fewest hd h1 (cdk_im hd (by omega)) hg5 hs5 b1 (NW_0 hd) (nar_sym D) (most := 30) (by omega)
  have hle := sn_le sn2
  have fc : frC S S2 := frC_t (fun a k q => f1 a k (by omega)) (frE_C f2)
  by_cases c0 : x = 0
  · exact ⟨S1, r, S2, eo r, e1, e2, fc, hle, ⟨r, sn2, by rw [if_pos c0]⟩, Or.inl ⟨c0, rfl⟩⟩
  · match r, e2, sn2, hle, at2 with
    | none, e2, sn2, hle, at2 => exact ⟨S1, none, S2, -nI 1, e1, e2, fc, hle, ⟨none, sn2, by rw [if_neg c0]; rfl⟩, Or.inr (Or.inl ⟨c0, Or.inl rfl, rfl⟩)⟩
    | some 0, e2, sn2, hle, at2 => exact ⟨S1, some 0, S2, -nI 1, e1, e2, fc, hle, ⟨some 0, sn2, by rw [if_neg c0]; rfl⟩, Or.inr (Or.inl ⟨c0, Or.inr rfl, rfl⟩)⟩
    | some (d + 1), e2, sn2, hle, at2 =>
      by_cases cW : x ≤ D 55 7
      · obtain ⟨p, L, ef⟩ := cp_firstStep hd pl2 (NW_0 hd) (w := x - 1) hs5 (cdk_im hd (by omega)) (cdk_im hd (by omega)) (by rw [f2.1 _ _ (by omega) (by omega) (by omega)]; exact b1.2.1) (by omega) (by have := hle _ rfl; omega) far2 le2 (at2 d rfl) sn2.1
        exact ⟨S1, some (d + 1), S2, nI (dq p (x - 1)), e1, e2, fc, hle, ⟨some (d + 1), sn2, by rw [if_neg c0, soT_s, if_pos cW]; exact ⟨p, L, rfl⟩⟩, Or.inr (Or.inr (Or.inr ⟨c0, cW, d, rfl, ef⟩))⟩
      · exact ⟨S1, some (d + 1), S2, -nI 1, e1, e2, fc, hle, ⟨some (d + 1), sn2, by rw [if_neg c0, soT_s, if_neg cW]⟩, Or.inr (Or.inr (Or.inl ⟨c0, by omega, rfl⟩))⟩
theorem ask_soonest {c : Nat} (h : Inv c D S) (hc : c < 512) (x : Int32) : CAL c S (f_Top_soonest x) (f_Mod_soonest x) := by
  obtain ⟨hd, hr, hm, h4, h5, h6⟩ := id h
  have w5 := hd.2.1.1
  have p40 := hd.2.2.1.2.2.2.1
  rcases zcase x with hx | ⟨n, hn, rfl⟩
  · refine CAL_00 h hc (r := -nI 102) ?_ ?_
    · rw [f_Top_soonest_eq, zL0, if_pos hx, k_Top_soonest_9_eq]; rfl
    · rw [f_Mod_soonest_eq]; simp (disch := omega) only [mo_within_n hx, zL0, zL1, zL2, zL3, zL4, zL5, zL6, zL7, zL8, zL9, zL10, zL12, zL20, zL30, zL31, zL32, zL44, zL48, zL49, zL50, zL56, zL59, zL60, zL61, zL64, zL65, zL97, zL99, zL100, zL101, zL102, zL103, zL104, zL111, zL119, zL126, zL255, zL512, zL617, zL65535, zL65536, zL1048576, zlt, zle, zeq, ztn, zin, zzb, zadd, zmul, zm_lt, zm_gt, zm_le, zm_ge, zm_eq, zm_eq', zm_in, if_pos, if_neg, bI_s, bJ_s, bA_s, bU_s, if_true, if_false, reduceIte, or_true, true_or, or_false, false_or, and_true, true_and, and_false, false_and, not_true_eq_false, not_false_eq_true, Nat.reduceEqDiff, Nat.zero_ne_one, Nat.one_ne_zero]
  by_cases cn : n ≤ 3
  rotate_left
  · refine CAL_00 h hc (r := -nI 102) ?_ ?_
    · rw [f_Top_soonest_eq]; simp (disch := omega) only [zL0, zL1, zL2, zL3, zL4, zL5, zL6, zL7, zL8, zL9, zL10, zL12, zL20, zL30, zL31, zL32, zL44, zL48, zL49, zL50, zL56, zL59, zL60, zL61, zL64, zL65, zL97, zL99, zL100, zL101, zL102, zL103, zL104, zL111, zL119, zL126, zL255, zL512, zL617, zL65535, zL65536, zL1048576, zlt, zle, zeq, ztn, zin, zzb, zadd, zmul, zm_lt, zm_gt, zm_le, zm_ge, zm_eq, zm_eq', zm_in, if_pos, if_neg, bI_s, bJ_s, bA_s, bU_s, if_true, if_false, reduceIte, or_true, true_or, or_false, false_or, and_true, true_and, and_false, false_and, not_true_eq_false, not_false_eq_true, Nat.reduceEqDiff, Nat.zero_ne_one, Nat.one_ne_zero, k_Top_soonest_9_eq]
    · rw [f_Mod_soonest_eq]; simp (disch := omega) only [mo_within, zL0, zL1, zL2, zL3, zL4, zL5, zL6, zL7, zL8, zL9, zL10, zL12, zL20, zL30, zL31, zL32, zL44, zL48, zL49, zL50, zL56, zL59, zL60, zL61, zL64, zL65, zL97, zL99, zL100, zL101, zL102, zL103, zL104, zL111, zL119, zL126, zL255, zL512, zL617, zL65535, zL65536, zL1048576, zlt, zle, zeq, ztn, zin, zzb, zadd, zmul, zm_lt, zm_gt, zm_le, zm_ge, zm_eq, zm_eq', zm_in, if_pos, if_neg, bI_s, bJ_s, bA_s, bU_s, if_true, if_false, reduceIte, or_true, true_or, or_false, false_or, and_true, true_and, and_false, false_and, not_true_eq_false, not_false_eq_true, Nat.reduceEqDiff, Nat.zero_ne_one, Nat.one_ne_zero]
  have hmp := ct_mayPlan hd hr
  by_cases cm : 1 ≤ D 55 7 ∧ D 55 7 ≤ 3 ∧ D 55 17 < 40
  rotate_left
  · refine CAL_00 h hc (r := -nI 103) ?_ ?_
    · rw [if_neg cm] at hmp
      rw [f_Top_soonest_eq]; simp (disch := omega) only [zL0, zL1, zL2, zL3, zL4, zL5, zL6, zL7, zL8, zL9, zL10, zL12, zL20, zL30, zL31, zL32, zL44, zL48, zL49, zL50, zL56, zL59, zL60, zL61, zL64, zL65, zL97, zL99, zL100, zL101, zL102, zL103, zL104, zL111, zL119, zL126, zL255, zL512, zL617, zL65535, zL65536, zL1048576, zlt, zle, zeq, ztn, zin, zzb, zadd, zmul, zm_lt, zm_gt, zm_le, zm_ge, zm_eq, zm_eq', zm_in, if_pos, if_neg, bI_s, bJ_s, bA_s, bU_s, if_true, if_false, reduceIte, or_true, true_or, or_false, false_or, and_true, true_and, and_false, false_and, not_true_eq_false, not_false_eq_true, Nat.reduceEqDiff, Nat.zero_ne_one, Nat.one_ne_zero, hmp]
    · have r7 := hm.r 55 7 (by omega)
      have r17 := hm.r 55 17 (by omega)
      rw [f_Mod_soonest_eq]
      by_cases c1 : 1 ≤ D 55 7 ∧ D 55 7 ≤ 3
      · simp (disch := omega) only [mo_within, zL0, zL1, zL2, zL3, zL4, zL5, zL6, zL7, zL8, zL9, zL10, zL12, zL20, zL30, zL31, zL32, zL44, zL48, zL49, zL50, zL56, zL59, zL60, zL61, zL64, zL65, zL97, zL99, zL100, zL101, zL102, zL103, zL104, zL111, zL119, zL126, zL255, zL512, zL617, zL65535, zL65536, zL1048576, zlt, zle, zeq, ztn, zin, zzb, zadd, zmul, zm_lt, zm_gt, zm_le, zm_ge, zm_eq, zm_eq', zm_in, if_pos, if_neg, bI_s, bJ_s, bA_s, bU_s, if_true, if_false, reduceIte, or_true, true_or, or_false, false_or, and_true, true_and, and_false, false_and, not_true_eq_false, not_false_eq_true, Nat.reduceEqDiff, Nat.zero_ne_one, Nat.one_ne_zero, r7, r17, k_Mod_soonest_33_eq, show (40 : Int32) = nI 40 from rfl]
      · simp (disch := omega) only [mo_within, zL0, zL1, zL2, zL3, zL4, zL5, zL6, zL7, zL8, zL9, zL10, zL12, zL20, zL30, zL31, zL32, zL44, zL48, zL49, zL50, zL56, zL59, zL60, zL61, zL64, zL65, zL97, zL99, zL100, zL101, zL102, zL103, zL104, zL111, zL119, zL126, zL255, zL512, zL617, zL65535, zL65536, zL1048576, zlt, zle, zeq, ztn, zin, zzb, zadd, zmul, zm_lt, zm_gt, zm_le, zm_ge, zm_eq, zm_eq', zm_in, if_pos, if_neg, bI_s, bJ_s, bA_s, bU_s, if_true, if_false, reduceIte, or_true, true_or, or_false, false_or, and_true, true_and, and_false, false_and, not_true_eq_false, not_false_eq_true, Nat.reduceEqDiff, Nat.zero_ne_one, Nat.one_ne_zero, r7, r17, k_Mod_soonest_33_eq]
  obtain ⟨m1, m3, m40⟩ := cm
  have hd' := okD_p hd m40
  obtain ⟨S1, r, S2, A, e1, e2, fc, hle, hA, hcase⟩ := ct_soonestNow (S := u1 S 0 11 (nI (D 55 17 + 1))) hd' (RC_p hd hr) m1 m3 cn
  refine CAL_p h hc m40 (A := A) (fun hr' => ⟨S2, ?_, fc⟩) (fun T1 hm1 hm2 => ?_)
  · rw [if_pos ⟨m1, m3, m40⟩] at hmp
    have w2 : S2.1 14 1 = nI (D 55 7) := (RC_f hd' hr' fc).w
    rw [f_Top_soonest_eq]
    rcases hcase with ⟨c0, rfl⟩ | ⟨c0, c2, rfl⟩ | ⟨c0, c2, rfl⟩ | ⟨c0, c2, d, rfl, ef⟩
    · simp (disch := omega) only [zL0, zL1, zL2, zL3, zL4, zL5, zL6, zL7, zL8, zL9, zL10, zL12, zL20, zL30, zL31, zL32, zL44, zL48, zL49, zL50, zL56, zL59, zL60, zL61, zL64, zL65, zL97, zL99, zL100, zL101, zL102, zL103, zL104, zL111, zL119, zL126, zL255, zL512, zL617, zL65535, zL65536, zL1048576, zlt, zle, zeq, ztn, zin, zzb, zadd, zmul, zm_lt, zm_gt, zm_le, zm_ge, zm_eq, zm_eq', zm_in, if_pos, if_neg, bI_s, bJ_s, bA_s, bU_s, if_true, if_false, reduceIte, or_true, true_or, or_false, false_or, and_true, true_and, and_false, false_and, not_true_eq_false, not_false_eq_true, Nat.reduceEqDiff, Nat.zero_ne_one, Nat.one_ne_zero, hmp, hr.pl, e1, e2]
    · rcases c2 with rfl | rfl
      · simp (disch := omega) only [zL0, zL1, zL2, zL3, zL4, zL5, zL6, zL7, zL8, zL9, zL10, zL12, zL20, zL30, zL31, zL32, zL44, zL48, zL49, zL50, zL56, zL59, zL60, zL61, zL64, zL65, zL97, zL99, zL100, zL101, zL102, zL103, zL104, zL111, zL119, zL126, zL255, zL512, zL617, zL65535, zL65536, zL1048576, zlt, zle, zeq, ztn, zin, zzb, zadd, zmul, zm_lt, zm_gt, zm_le, zm_ge, zm_eq, zm_eq', zm_in, if_pos, if_neg, bI_s, bJ_s, bA_s, bU_s, if_true, if_false, reduceIte, or_true, true_or, or_false, false_or, and_true, true_and, and_false, false_and, not_true_eq_false, not_false_eq_true, Nat.reduceEqDiff, Nat.zero_ne_one, Nat.one_ne_zero, hmp, hr.pl, e1, e2, eo, k_Top_soonest_71_eq, k_Top_soonest_86_eq]
      · simp (disch := omega) only [zL0, zL1, zL2, zL3, zL4, zL5, zL6, zL7, zL8, zL9, zL10, zL12, zL20, zL30, zL31, zL32, zL44, zL48, zL49, zL50, zL56, zL59, zL60, zL61, zL64, zL65, zL97, zL99, zL100, zL101, zL102, zL103, zL104, zL111, zL119, zL126, zL255, zL512, zL617, zL65535, zL65536, zL1048576, zlt, zle, zeq, ztn, zin, zzb, zadd, zmul, zm_lt, zm_gt, zm_le, zm_ge, zm_eq, zm_eq', zm_in, if_pos, if_neg, bI_s, bJ_s, bA_s, bU_s, if_true, if_false, reduceIte, or_true, true_or, or_false, false_or, and_true, true_and, and_false, false_and, not_true_eq_false, not_false_eq_true, Nat.reduceEqDiff, Nat.zero_ne_one, Nat.one_ne_zero, hmp, hr.pl, e1, e2, eo, k_Top_soonest_71_eq, k_Top_soonest_86_eq]
    · have c2' : D 55 7 < n := c2
      match r, hle, e2 with
      | none, hle, e2 => simp (disch := omega) only [zL0, zL1, zL2, zL3, zL4, zL5, zL6, zL7, zL8, zL9, zL10, zL12, zL20, zL30, zL31, zL32, zL44, zL48, zL49, zL50, zL56, zL59, zL60, zL61, zL64, zL65, zL97, zL99, zL100, zL101, zL102, zL103, zL104, zL111, zL119, zL126, zL255, zL512, zL617, zL65535, zL65536, zL1048576, zlt, zle, zeq, ztn, zin, zzb, zadd, zmul, zm_lt, zm_gt, zm_le, zm_ge, zm_eq, zm_eq', zm_in, if_pos, if_neg, bI_s, bJ_s, bA_s, bU_s, if_true, if_false, reduceIte, or_true, true_or, or_false, false_or, and_true, true_and, and_false, false_and, not_true_eq_false, not_false_eq_true, Nat.reduceEqDiff, Nat.zero_ne_one, Nat.one_ne_zero, hmp, hr.pl, e1, e2, eo, w2, k_Top_soonest_71_eq, k_Top_soonest_86_eq]
      | some v, hle, e2 =>
        have hv := hle v rfl
        by_cases v0 : v = 0
        · simp (disch := omega) only [zL0, zL1, zL2, zL3, zL4, zL5, zL6, zL7, zL8, zL9, zL10, zL12, zL20, zL30, zL31, zL32, zL44, zL48, zL49, zL50, zL56, zL59, zL60, zL61, zL64, zL65, zL97, zL99, zL100, zL101, zL102, zL103, zL104, zL111, zL119, zL126, zL255, zL512, zL617, zL65535, zL65536, zL1048576, zlt, zle, zeq, ztn, zin, zzb, zadd, zmul, zm_lt, zm_gt, zm_le, zm_ge, zm_eq, zm_eq', zm_in, if_pos, if_neg, bI_s, bJ_s, bA_s, bU_s, if_true, if_false, reduceIte, or_true, true_or, or_false, false_or, and_true, true_and, and_false, false_and, not_true_eq_false, not_false_eq_true, Nat.reduceEqDiff, Nat.zero_ne_one, Nat.one_ne_zero, hmp, hr.pl, e1, e2, eo, w2, k_Top_soonest_71_eq, k_Top_soonest_86_eq, v0]
        · simp (disch := omega) only [zL0, zL1, zL2, zL3, zL4, zL5, zL6, zL7, zL8, zL9, zL10, zL12, zL20, zL30, zL31, zL32, zL44, zL48, zL49, zL50, zL56, zL59, zL60, zL61, zL64, zL65, zL97, zL99, zL100, zL101, zL102, zL103, zL104, zL111, zL119, zL126, zL255, zL512, zL617, zL65535, zL65536, zL1048576, zlt, zle, zeq, ztn, zin, zzb, zadd, zmul, zm_lt, zm_gt, zm_le, zm_ge, zm_eq, zm_eq', zm_in, if_pos, if_neg, bI_s, bJ_s, bA_s, bU_s, if_true, if_false, reduceIte, or_true, true_or, or_false, false_or, and_true, true_and, and_false, false_and, not_true_eq_false, not_false_eq_true, Nat.reduceEqDiff, Nat.zero_ne_one, Nat.one_ne_zero, hmp, hr.pl, e1, e2, eo, w2, k_Top_soonest_71_eq, k_Top_soonest_86_eq]
    · have c2' : n ≤ D 55 7 := c2
      have hv := hle _ rfl
      simp (disch := omega) only [zL0, zL1, zL2, zL3, zL4, zL5, zL6, zL7, zL8, zL9, zL10, zL12, zL20, zL30, zL31, zL32, zL44, zL48, zL49, zL50, zL56, zL59, zL60, zL61, zL64, zL65, zL97, zL99, zL100, zL101, zL102, zL103, zL104, zL111, zL119, zL126, zL255, zL512, zL617, zL65535, zL65536, zL1048576, zlt, zle, zeq, ztn, zin, zzb, zadd, zmul, zm_lt, zm_gt, zm_le, zm_ge, zm_eq, zm_eq', zm_in, if_pos, if_neg, bI_s, bJ_s, bA_s, bU_s, if_true, if_false, reduceIte, or_true, true_or, or_false, false_or, and_true, true_and, and_false, false_and, not_true_eq_false, not_false_eq_true, Nat.reduceEqDiff, Nat.zero_ne_one, Nat.one_ne_zero, hmp, hr.pl, e1, e2, eo, w2, zsub, ef, k_Top_soonest_86_eq]
  · have r7 := hm1.r 55 7 (by omega)
    have r17 := hm1.r 55 17 (by omega)
    obtain ⟨T2, B, e3, m3', f3, hB⟩ := mo_soonestNow hd' hm2 m1 m3 cn
    rw [soA_one hA hB]
    refine ⟨T2, ?_, m3', f3⟩
    rw [f_Mod_soonest_eq]
    simp (disch := omega) only [mo_within, zL0, zL1, zL2, zL3, zL4, zL5, zL6, zL7, zL8, zL9, zL10, zL12, zL20, zL30, zL31, zL32, zL44, zL48, zL49, zL50, zL56, zL59, zL60, zL61, zL64, zL65, zL97, zL99, zL100, zL101, zL102, zL103, zL104, zL111, zL119, zL126, zL255, zL512, zL617, zL65535, zL65536, zL1048576, zlt, zle, zeq, ztn, zin, zzb, zadd, zmul, zm_lt, zm_gt, zm_le, zm_ge, zm_eq, zm_eq', zm_in, if_pos, if_neg, bI_s, bJ_s, bA_s, bU_s, if_true, if_false, reduceIte, or_true, true_or, or_false, false_or, and_true, true_and, and_false, false_and, not_true_eq_false, not_false_eq_true, Nat.reduceEqDiff, Nat.zero_ne_one, Nat.one_ne_zero, r7, r17, e3, show (40 : Int32) = nI 40 from rfl]
end SOP
