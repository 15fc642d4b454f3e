/-! a new walker; the minutes -/
theorem CAL_w {c : Nat} {D' : DD} {S S1 S2 : Mem} {T M : Mem → Option (Int32 × Mem)} {r : Int32} (hc : c < 512) (hd' : okD D') (hT : T S = some (r, S1)) (hr1 : RC D' S1) (hM : M S1 = some (r, S2)) (f : frM S1 S2) (hm2 : RM D' S2) (b6 : D' 55 6 ≤ c + 1) (b16 : 0 ≤ D' 55 16) : CAL c S T M := ⟨r, S1, S2, D', hT, hM, hd', RC_M hd' hr1 f, hm2, b6, b16, by omega⟩
section WK
variable {c : Nat} {D : DD} {S : Mem}
def wD (D : DD) (k co g l : Nat) : DD := dS (dS (dS (dS (dS (dS (dS D 59 (dU (D 59) (D 55 7) k)) 60 (dU (D 60) (D 55 7) co)) 61 (dU (D 61) (D 55 7) g)) 62 (dU (D 62) (D 55 7) l)) 64 (dU (D 64) (D 55 7) 0)) 65 (dU (D 65) (D 55 7) 0)) 55 (dU (D 55) 7 (D 55 7 + 1))
theorem wD_ok (hd : okD D) (h6 : D 55 6 ≠ 0) (hw : D 55 7 < 5) {k co g l : Nat} (hk : k ≤ 3) (hco : co < 8) (hg : g < 8) (hl : l ≤ 20) : okD (wD D k co g l) := by
  refine ⟨okN_d hd.1 rfl rfl rfl rfl rfl rfl, ⟨show D 55 7 + 1 ≤ 5 by omega, fun i hi => ?_⟩, ?_, okK_d hd.2.2.2 rfl rfl rfl rfl rfl rfl rfl rfl (show D 55 7 ≤ D 55 7 + 1 by omega) rfl rfl rfl rfl rfl rfl⟩
  · simp only [stp_d (D := D) (D' := wD D k co g l) rfl rfl rfl]
    show dU (D 59) (D 55 7) k i ≤ 3 ∧ dU (D 60) (D 55 7) co i < 8 ∧ dU (D 61) (D 55 7) g i < 8 ∧ dU (D 62) (D 55 7) l i ≤ 20 ∧ dU (D 64) (D 55 7) 0 i ≤ 20 ∧ dU (D 65) (D 55 7) 0 i ≤ dU (D 64) (D 55 7) 0 i ∧ (∀ k, k < dU (D 64) (D 55 7) 0 i → D 63 (20 * i + k) < 8) ∧ (dU (D 65) (D 55 7) 0 i < dU (D 64) (D 55 7) 0 i → stp D (dU (D 60) (D 55 7) co i) (D 63 (20 * i + dU (D 65) (D 55 7) 0 i))) ∧ (∀ k, k + 1 < dU (D 64) (D 55 7) 0 i → stp D (D 63 (20 * i + k)) (D 63 (20 * i + k + 1)))
    by_cases e : i = D 55 7
    · simp only [dU_s e]
      exact ⟨hk, hco, hg, hl, by omega, by omega, fun k hk => absurd hk (Nat.not_lt_zero k), fun q => absurd q (Nat.not_lt_zero 0), fun k hk => absurd hk (Nat.not_lt_zero _)⟩
    · simp only [dU_n e]
      have : i < D 55 7 + 1 := hi
      exact hd.2.1.2 i (by omega)
  · obtain ⟨s1, s2, s3, s4, s5, s6, s7⟩ := hd.2.2.1
    exact ⟨s1, s2, s3, s4, fun q => absurd q h6, s6, s7⟩
theorem ask_walker (h : Inv c D S) (hc : c < 512) (x y z u : Int32) : CAL c S (f_Top_walker x y z u) (f_Mod_walker x y z u) := by
  obtain ⟨hd, hr, hm, h4, h5, h6⟩ := id h
  have hn8 := hr.net
  have w5 := hd.2.1.1
  have e11 : ∀ S : Mem, (∃ n, n < 8 ∧ y = nI n) ∨ (f_Top_isCorner y S = some (nI 0, S) ∧ f_Mod_isCorner y S = some (nI 0, S)) := fun S => by
    rcases zcase y with hy | ⟨n, hn, rfl⟩
    · exact Or.inr ⟨ct_isCorner_n hy, mo_isCorner_n hy⟩
    · by_cases c8 : n < 8
      · exact Or.inl ⟨n, c8, rfl⟩
      · exact Or.inr ⟨by rw [ct_isCorner hn, if_neg c8], by rw [mo_isCorner hn, if_neg c8]⟩
  have e12 : ∀ S : Mem, (∃ n, n < 8 ∧ z = nI n) ∨ (f_Top_isCorner z S = some (nI 0, S) ∧ f_Mod_isCorner z S = some (nI 0, S)) := fun S => by
    rcases zcase z with hy | ⟨n, hn, rfl⟩
    · exact Or.inr ⟨ct_isCorner_n hy, mo_isCorner_n hy⟩
    · by_cases c8 : n < 8
      · exact Or.inl ⟨n, c8, rfl⟩
      · exact Or.inr ⟨by rw [ct_isCorner hn, if_neg c8], by rw [mo_isCorner hn, if_neg c8]⟩
  have e13 : ∀ S : Mem, (∃ n, n ≤ 3 ∧ x = nI n) ∨ (f_Top_isKind x S = some (nI 0, S) ∧ f_Mod_within x (nI 0) (nI 3) S = some (nI 0, S)) := fun S => by
    rcases zcase x with hy | ⟨n, hn, rfl⟩
    · exact Or.inr ⟨ct_isKind_n hy, mo_within_n hy (by omega)⟩
    · by_cases c8 : n ≤ 3
      · exact Or.inl ⟨n, c8, rfl⟩
      · exact Or.inr ⟨by rw [ct_isKind hn, if_neg c8], by rw [mo_within hn (by omega) (by omega), if_neg (by omega)]⟩
  have e14 : ∀ S : Mem, (∃ n, n ≤ 20 ∧ u = nI n) ∨ (f_Top_isLoad u S = some (nI 0, S) ∧ f_Mod_within u (nI 0) (nI 20) S = some (nI 0, S)) := fun S => by
    rcases zcase u with hy | ⟨n, hn, rfl⟩
    · exact Or.inr ⟨ct_isLoad_n hy, mo_within_n hy (by omega)⟩
    · by_cases c8 : n ≤ 20
      · exact Or.inl ⟨n, c8, rfl⟩
      · exact Or.inr ⟨by rw [ct_isLoad hn, if_neg c8], by rw [mo_within hn (by omega) (by omega), if_neg (by omega)]⟩
  rcases e11 S with ⟨co, hco, rfl⟩ | ⟨a1, a2⟩
  rotate_left
  · refine CAL_00 h hc (r := -nI 101) ?_ ?_
    · rw [f_Top_walker_eq]; simp (disch := omega) only [a1, k_Top_walker_14_eq, zL0, zL1, zL2, zL3, zL4, zL5, zL6, zL7, zL8, zL9, zL10, zL12, zL20, zL30, zL31, zL32, zL44, zL48, zL49, zL50, zL56, zL59, zL60, zL61, zL64, zL65, zL97, zL99, zL100, zL101, zL102, zL103, zL104, zL111, zL119, zL126, zL255, zL512, zL617, zL65535, zL65536, zL1048576, zlt, zle, zeq, ztn, zin, zzb, zadd, zmul, zm_lt, zm_gt, zm_le, zm_ge, zm_eq, zm_eq', zm_in, if_pos, if_neg, bI_s, bJ_s, bA_s, bU_s, if_true, if_false, reduceIte, or_true, true_or, or_false, false_or, and_true, true_and, and_false, false_and, not_true_eq_false, not_false_eq_true, Nat.reduceEqDiff, Nat.zero_ne_one, Nat.one_ne_zero]
    · rw [f_Mod_walker_eq]; simp (disch := omega) only [a2, k_Mod_walker_14_eq, zL0, zL1, zL2, zL3, zL4, zL5, zL6, zL7, zL8, zL9, zL10, zL12, zL20, zL30, zL31, zL32, zL44, zL48, zL49, zL50, zL56, zL59, zL60, zL61, zL64, zL65, zL97, zL99, zL100, zL101, zL102, zL103, zL104, zL111, zL119, zL126, zL255, zL512, zL617, zL65535, zL65536, zL1048576, zlt, zle, zeq, ztn, zin, zzb, zadd, zmul, zm_lt, zm_gt, zm_le, zm_ge, zm_eq, zm_eq', zm_in, if_pos, if_neg, bI_s, bJ_s, bA_s, bU_s, if_true, if_false, reduceIte, or_true, true_or, or_false, false_or, and_true, true_and, and_false, false_and, not_true_eq_false, not_false_eq_true, Nat.reduceEqDiff, Nat.zero_ne_one, Nat.one_ne_zero]
  rcases e12 S with ⟨g, hg, rfl⟩ | ⟨a1, a2⟩
  rotate_left
  · refine CAL_00 h hc (r := -nI 101) ?_ ?_
    · rw [f_Top_walker_eq]; simp (disch := omega) only [ct_isCorner, a1, k_Top_walker_14_eq, zL0, zL1, zL2, zL3, zL4, zL5, zL6, zL7, zL8, zL9, zL10, zL12, zL20, zL30, zL31, zL32, zL44, zL48, zL49, zL50, zL56, zL59, zL60, zL61, zL64, zL65, zL97, zL99, zL100, zL101, zL102, zL103, zL104, zL111, zL119, zL126, zL255, zL512, zL617, zL65535, zL65536, zL1048576, zlt, zle, zeq, ztn, zin, zzb, zadd, zmul, zm_lt, zm_gt, zm_le, zm_ge, zm_eq, zm_eq', zm_in, if_pos, if_neg, bI_s, bJ_s, bA_s, bU_s, if_true, if_false, reduceIte, or_true, true_or, or_false, false_or, and_true, true_and, and_false, false_and, not_true_eq_false, not_false_eq_true, Nat.reduceEqDiff, Nat.zero_ne_one, Nat.one_ne_zero]
    · rw [f_Mod_walker_eq]; simp (disch := omega) only [mo_isCorner, a2, k_Mod_walker_14_eq, zL0, zL1, zL2, zL3, zL4, zL5, zL6, zL7, zL8, zL9, zL10, zL12, zL20, zL30, zL31, zL32, zL44, zL48, zL49, zL50, zL56, zL59, zL60, zL61, zL64, zL65, zL97, zL99, zL100, zL101, zL102, zL103, zL104, zL111, zL119, zL126, zL255, zL512, zL617, zL65535, zL65536, zL1048576, zlt, zle, zeq, ztn, zin, zzb, zadd, zmul, zm_lt, zm_gt, zm_le, zm_ge, zm_eq, zm_eq', zm_in, if_pos, if_neg, bI_s, bJ_s, bA_s, bU_s, if_true, if_false, reduceIte, or_true, true_or, or_false, false_or, and_true, true_and, and_false, false_and, not_true_eq_false, not_false_eq_true, Nat.reduceEqDiff, Nat.zero_ne_one, Nat.one_ne_zero]
  rcases e13 S with ⟨k, hk, rfl⟩ | ⟨a1, a2⟩
  rotate_left
  · refine CAL_00 h hc (r := -nI 102) ?_ ?_
    · rw [f_Top_walker_eq]; simp (disch := omega) only [ct_isCorner, a1, k_Top_walker_32_eq, zL0, zL1, zL2, zL3, zL4, zL5, zL6, zL7, zL8, zL9, zL10, zL12, zL20, zL30, zL31, zL32, zL44, zL48, zL49, zL50, zL56, zL59, zL60, zL61, zL64, zL65, zL97, zL99, zL100, zL101, zL102, zL103, zL104, zL111, zL119, zL126, zL255, zL512, zL617, zL65535, zL65536, zL1048576, zlt, zle, zeq, ztn, zin, zzb, zadd, zmul, zm_lt, zm_gt, zm_le, zm_ge, zm_eq, zm_eq', zm_in, if_pos, if_neg, bI_s, bJ_s, bA_s, bU_s, if_true, if_false, reduceIte, or_true, true_or, or_false, false_or, and_true, true_and, and_false, false_and, not_true_eq_false, not_false_eq_true, Nat.reduceEqDiff, Nat.zero_ne_one, Nat.one_ne_zero]
    · rw [f_Mod_walker_eq]; simp (disch := omega) only [mo_isCorner, a2, k_Mod_walker_37_eq, zL0, zL1, zL2, zL3, zL4, zL5, zL6, zL7, zL8, zL9, zL10, zL12, zL20, zL30, zL31, zL32, zL44, zL48, zL49, zL50, zL56, zL59, zL60, zL61, zL64, zL65, zL97, zL99, zL100, zL101, zL102, zL103, zL104, zL111, zL119, zL126, zL255, zL512, zL617, zL65535, zL65536, zL1048576, zlt, zle, zeq, ztn, zin, zzb, zadd, zmul, zm_lt, zm_gt, zm_le, zm_ge, zm_eq, zm_eq', zm_in, if_pos, if_neg, bI_s, bJ_s, bA_s, bU_s, if_true, if_false, reduceIte, or_true, true_or, or_false, false_or, and_true, true_and, and_false, false_and, not_true_eq_false, not_false_eq_true, Nat.reduceEqDiff, Nat.zero_ne_one, Nat.one_ne_zero]
  rcases e14 S with ⟨l, hl, rfl⟩ | ⟨a1, a2⟩
  rotate_left
  · refine CAL_00 h hc (r := -nI 102) ?_ ?_
    · rw [f_Top_walker_eq]; simp (disch := omega) only [ct_isCorner, ct_isKind, a1, k_Top_walker_32_eq, zL0, zL1, zL2, zL3, zL4, zL5, zL6, zL7, zL8, zL9, zL10, zL12, zL20, zL30, zL31, zL32, zL44, zL48, zL49, zL50, zL56, zL59, zL60, zL61, zL64, zL65, zL97, zL99, zL100, zL101, zL102, zL103, zL104, zL111, zL119, zL126, zL255, zL512, zL617, zL65535, zL65536, zL1048576, zlt, zle, zeq, ztn, zin, zzb, zadd, zmul, zm_lt, zm_gt, zm_le, zm_ge, zm_eq, zm_eq', zm_in, if_pos, if_neg, bI_s, bJ_s, bA_s, bU_s, if_true, if_false, reduceIte, or_true, true_or, or_false, false_or, and_true, true_and, and_false, false_and, not_true_eq_false, not_false_eq_true, Nat.reduceEqDiff, Nat.zero_ne_one, Nat.one_ne_zero]
    · rw [f_Mod_walker_eq]; simp (disch := omega) only [mo_isCorner, mo_within, a2, k_Mod_walker_37_eq, zL0, zL1, zL2, zL3, zL4, zL5, zL6, zL7, zL8, zL9, zL10, zL12, zL20, zL30, zL31, zL32, zL44, zL48, zL49, zL50, zL56, zL59, zL60, zL61, zL64, zL65, zL97, zL99, zL100, zL101, zL102, zL103, zL104, zL111, zL119, zL126, zL255, zL512, zL617, zL65535, zL65536, zL1048576, zlt, zle, zeq, ztn, zin, zzb, zadd, zmul, zm_lt, zm_gt, zm_le, zm_ge, zm_eq, zm_eq', zm_in, if_pos, if_neg, bI_s, bJ_s, bA_s, bU_s, if_true, if_false, reduceIte, or_true, true_or, or_false, false_or, and_true, true_and, and_false, false_and, not_true_eq_false, not_false_eq_true, Nat.reduceEqDiff, Nat.zero_ne_one, Nat.one_ne_zero]
  by_cases c6 : D 55 6 = 0
  · rw [if_pos c6] at hn8
    refine CAL_00 h hc (r := -nI 103) ?_ ?_
    · rw [f_Top_walker_eq]; simp (disch := omega) only [ct_isCorner, ct_isKind, ct_isLoad, hn8, zL0, zL1, zL2, zL3, zL4, zL5, zL6, zL7, zL8, zL9, zL10, zL12, zL20, zL30, zL31, zL32, zL44, zL48, zL49, zL50, zL56, zL59, zL60, zL61, zL64, zL65, zL97, zL99, zL100, zL101, zL102, zL103, zL104, zL111, zL119, zL126, zL255, zL512, zL617, zL65535, zL65536, zL1048576, zlt, zle, zeq, ztn, zin, zzb, zadd, zmul, zm_lt, zm_gt, zm_le, zm_ge, zm_eq, zm_eq', zm_in, if_pos, if_neg, bI_s, bJ_s, bA_s, bU_s, if_true, if_false, reduceIte, or_true, true_or, or_false, false_or, and_true, true_and, and_false, false_and, not_true_eq_false, not_false_eq_true, Nat.reduceEqDiff, Nat.zero_ne_one, Nat.one_ne_zero]
    · rw [f_Mod_walker_eq]; simp (disch := omega) only [mo_isCorner, mo_within, hm.r, zL0, zL1, zL2, zL3, zL4, zL5, zL6, zL7, zL8, zL9, zL10, zL12, zL20, zL30, zL31, zL32, zL44, zL48, zL49, zL50, zL56, zL59, zL60, zL61, zL64, zL65, zL97, zL99, zL100, zL101, zL102, zL103, zL104, zL111, zL119, zL126, zL255, zL512, zL617, zL65535, zL65536, zL1048576, zlt, zle, zeq, ztn, zin, zzb, zadd, zmul, zm_lt, zm_gt, zm_le, zm_ge, zm_eq, zm_eq', zm_in, if_pos, if_neg, bI_s, bJ_s, bA_s, bU_s, if_true, if_false, reduceIte, or_true, true_or, or_false, false_or, and_true, true_and, and_false, false_and, not_true_eq_false, not_false_eq_true, Nat.reduceEqDiff, Nat.zero_ne_one, Nat.one_ne_zero]
  rw [if_neg c6] at hn8
  by_cases c5 : D 55 7 = 5
  · refine CAL_00 h hc (r := -nI 104) ?_ ?_
    · rw [f_Top_walker_eq]; simp (disch := omega) only [ct_isCorner, ct_isKind, ct_isLoad, hn8, f_Town_add_eq isT_14, hr.w, k_Top_walker_74_eq, zL0, zL1, zL2, zL3, zL4, zL5, zL6, zL7, zL8, zL9, zL10, zL12, zL20, zL30, zL31, zL32, zL44, zL48, zL49, zL50, zL56, zL59, zL60, zL61, zL64, zL65, zL97, zL99, zL100, zL101, zL102, zL103, zL104, zL111, zL119, zL126, zL255, zL512, zL617, zL65535, zL65536, zL1048576, zlt, zle, zeq, ztn, zin, zzb, zadd, zmul, zm_lt, zm_gt, zm_le, zm_ge, zm_eq, zm_eq', zm_in, if_pos, if_neg, bI_s, bJ_s, bA_s, bU_s, if_true, if_false, reduceIte, or_true, true_or, or_false, false_or, and_true, true_and, and_false, false_and, not_true_eq_false, not_false_eq_true, Nat.reduceEqDiff, Nat.zero_ne_one, Nat.one_ne_zero]
    · rw [f_Mod_walker_eq]; simp (disch := omega) only [mo_isCorner, mo_within, hm.r, zL0, zL1, zL2, zL3, zL4, zL5, zL6, zL7, zL8, zL9, zL10, zL12, zL20, zL30, zL31, zL32, zL44, zL48, zL49, zL50, zL56, zL59, zL60, zL61, zL64, zL65, zL97, zL99, zL100, zL101, zL102, zL103, zL104, zL111, zL119, zL126, zL255, zL512, zL617, zL65535, zL65536, zL1048576, zlt, zle, zeq, ztn, zin, zzb, zadd, zmul, zm_lt, zm_gt, zm_le, zm_ge, zm_eq, zm_eq', zm_in, if_pos, if_neg, bI_s, bJ_s, bA_s, bU_s, if_true, if_false, reduceIte, or_true, true_or, or_false, false_or, and_true, true_and, and_false, false_and, not_true_eq_false, not_false_eq_true, Nat.reduceEqDiff, Nat.zero_ne_one, Nat.one_ne_zero]
  · have hd' := wD_ok hd c6 (by omega) hk hco hg hl
    obtain ⟨S1, hS1⟩ : ∃ S1, S1 = u1 (u1 (u1 (u1 (u1 (u1 (u1 S (17 + 2 * D 55 7) 0 (nI k)) (17 + 2 * D 55 7) 1 (nI co)) (17 + 2 * D 55 7) 2 (nI g)) (17 + 2 * D 55 7) 3 (nI l)) (17 + 2 * D 55 7) 5 (nI 0)) (17 + 2 * D 55 7) 6 (nI 0)) 14 1 (nI (D 55 7 + 1)) := ⟨_, rfl⟩
    have hf : ∀ a q, a < 14 ∨ (a = 14 ∧ q ≠ 1) ∨ a = 15 ∨ a = 16 ∨ 26 < a ∨ a % 2 = 0 ∧ a ≠ 14 → S1.1 a q = S.1 a q := fun a q w => by rw [hS1]; simp (disch := omega) only [zuS, zuN, zu2, zv1, zvS, zvN]
    have hm1 : RM D S1 := RM_T hm (fun a q w => hf a q (by omega))
    have hold : ∀ j q, j < D 55 7 → S1.1 (17 + 2 * j) q = S.1 (17 + 2 * j) q := fun j q hj => by rw [hS1]; simp (disch := omega) only [zuS, zuN, zu2, zv1, zvS, zvN]
    have hr1 : RC (wD D k co g l) S1 := by
      refine ⟨rPg_f (rPg_d hr.1 rfl rfl) (fun a q w => hf a q (by omega)), rNt_f (rNt_d hr.2.1 rfl rfl rfl rfl rfl rfl rfl) (fun a q w => hf a q (by omega)), ⟨?_, fun j hj => ?_, fun j hj => ?_, fun j hj => ?_, fun j hj => ?_, fun j hj => ?_, fun j hj => ?_, fun j q hj hq => ?_⟩, rHp_f (rHp_d hr.2.2.2.1 rfl rfl) (fun a q w => hf a q (by omega)), rTp_f (rTp_d hr.2.2.2.2.1 rfl rfl rfl rfl) (fun a q w => hf a q (by omega)), rKp_f hd'.2.2.2 hd'.2.1.1 ?_ (fun a q w => hf a q (by omega))⟩
      · rw [hS1]; simp (disch := omega) only [zuS, zuN, zu2, zv1, zvS, zvN]; rfl
      · show _ = nI (dU (D 59) (D 55 7) k j)
        have hj' : j < D 55 7 + 1 := hj
        by_cases e : j = D 55 7
        · rw [dU_s e, e, hS1]; simp (disch := omega) only [zuS, zuN, zu2, zv1, zvS, zvN]
        · rw [dU_n e, hold j _ (by omega)]; exact hr.kind j (by omega)
      · show _ = nI (dU (D 60) (D 55 7) co j)
        have hj' : j < D 55 7 + 1 := hj
        by_cases e : j = D 55 7
        · rw [dU_s e, e, hS1]; simp (disch := omega) only [zuS, zuN, zu2, zv1, zvS, zvN]
        · rw [dU_n e, hold j _ (by omega)]; exact hr.cor j (by omega)
      · show _ = nI (dU (D 61) (D 55 7) g j)
        have hj' : j < D 55 7 + 1 := hj
        by_cases e : j = D 55 7
        · rw [dU_s e, e, hS1]; simp (disch := omega) only [zuS, zuN, zu2, zv1, zvS, zvN]
        · rw [dU_n e, hold j _ (by omega)]; exact hr.goal j (by omega)
      · show _ = nI (dU (D 62) (D 55 7) l j)
        have hj' : j < D 55 7 + 1 := hj
        by_cases e : j = D 55 7
        · rw [dU_s e, e, hS1]; simp (disch := omega) only [zuS, zuN, zu2, zv1, zvS, zvN]
        · rw [dU_n e, hold j _ (by omega)]; exact hr.load j (by omega)
      · show _ = nI (dU (D 64) (D 55 7) 0 j)
        have hj' : j < D 55 7 + 1 := hj
        by_cases e : j = D 55 7
        · rw [dU_s e, e, hS1]; simp (disch := omega) only [zuS, zuN, zu2, zv1, zvS, zvN]
        · rw [dU_n e, hold j _ (by omega)]; exact hr.wl j (by omega)
      · show _ = nI (dU (D 65) (D 55 7) 0 j)
        have hj' : j < D 55 7 + 1 := hj
        by_cases e : j = D 55 7
        · rw [dU_s e, e, hS1]; simp (disch := omega) only [zuS, zuN, zu2, zv1, zvS, zvN]
        · rw [dU_n e, hold j _ (by omega)]; exact hr.wd j (by omega)
      · have hj' : j < D 55 7 + 1 := hj
        have hq' : q < dU (D 64) (D 55 7) 0 j := hq
        show _ = nI (D 63 (20 * j + q))
        by_cases e : j = D 55 7
        · rw [dU_s e] at hq'; omega
        · rw [dU_n e] at hq'
          rw [hf _ _ (by omega)]; exact hr.way j q (by omega) hq'
      · intro hK
        have hle := (hd.2.2.2 hK).1
        refine rKp_d hr.2.2.2.2.2 rfl rfl rfl rfl rfl (fun i hi => ?_) (fun i hi => ?_) rfl rfl rfl rfl rfl rfl hK
        · show dU (D 59) (D 55 7) k i = D 59 i
          rw [dU_n (by omega)]
        · show dU (D 61) (D 55 7) g i = D 61 i
          rw [dU_n (by omega)]
    refine CAL_w (r := nI (D 55 7)) (S1 := S1) (S2 := u1 (u1 (u1 (u1 (u1 (u1 (u1 S1 59 (D 55 7) (nI k)) 60 (D 55 7) (nI co)) 61 (D 55 7) (nI g)) 62 (D 55 7) (nI l)) 64 (D 55 7) (nI 0)) 65 (D 55 7) (nI 0)) 55 7 (nI (D 55 7 + 1))) hc hd' ?_ hr1 ?_ (fun a q w => by simp (disch := omega) only [zuS, zuN, zu2, zv1, zvS, zvN]) (RM_u1 (RM_u1 (RM_u1 (RM_u1 (RM_u1 (RM_u1 (RM_u1 hm1))))))) (by show D 55 6 ≤ c + 1; omega) (Nat.zero_le _)
    · rw [f_Top_walker_eq]
      simp (disch := omega) only [ct_isCorner, ct_isKind, ct_isLoad, hn8, f_Town_add_eq isT_14, hr.w, k_Top_walker_74_eq, zL0, zL1, zL2, zL3, zL4, zL5, zL6, zL7, zL8, zL9, zL10, zL12, zL20, zL30, zL31, zL32, zL44, zL48, zL49, zL50, zL56, zL59, zL60, zL61, zL64, zL65, zL97, zL99, zL100, zL101, zL102, zL103, zL104, zL111, zL119, zL126, zL255, zL512, zL617, zL65535, zL65536, zL1048576, zlt, zle, zeq, ztn, zin, zzb, zadd, zmul, zm_lt, zm_gt, zm_le, zm_ge, zm_eq, zm_eq', zm_in, if_pos, if_neg, bI_s, bJ_s, bA_s, bU_s, if_true, if_false, reduceIte, or_true, true_or, or_false, false_or, and_true, true_and, and_false, false_and, not_true_eq_false, not_false_eq_true, Nat.reduceEqDiff, Nat.zero_ne_one, Nat.one_ne_zero, zuS, zuN, zu2, zv1, zvS, zvN, Nat.reduceAdd, hS1, zpred]
    · rw [f_Mod_walker_eq]
      simp (disch := omega) only [mo_isCorner, mo_within, hm1.r, zL0, zL1, zL2, zL3, zL4, zL5, zL6, zL7, zL8, zL9, zL10, zL12, zL20, zL30, zL31, zL32, zL44, zL48, zL49, zL50, zL56, zL59, zL60, zL61, zL64, zL65, zL97, zL99, zL100, zL101, zL102, zL103, zL104, zL111, zL119, zL126, zL255, zL512, zL617, zL65535, zL65536, zL1048576, zlt, zle, zeq, ztn, zin, zzb, zadd, zmul, zm_lt, zm_gt, zm_le, zm_ge, zm_eq, zm_eq', zm_in, if_pos, if_neg, bI_s, bJ_s, bA_s, bU_s, if_true, if_false, reduceIte, or_true, true_or, or_false, false_or, and_true, true_and, and_false, false_and, not_true_eq_false, not_false_eq_true, Nat.reduceEqDiff, Nat.zero_ne_one, Nat.one_ne_zero, zpred]
end WK
section MIN
variable {D : DD} {P : Nat → Nat → Bool}
theorem gon_ext {P P' : Nat → Nat → Bool} : ∀ n D, (∀ i j, i < D 55 7 → j < D 55 7 → P i j = P' i j) → gon P n D = gon P' n D ∧ tms P n D = tms P' n D
  | 0, _, _ => ⟨rfl, rfl⟩
  | n + 1, D, h => by
    have e : go D P = go D P' := by unfold go; rw [P_ext h]
    have ih := gon_ext n (go D P') (fun i j hi hj => h i j (by rw [go_row (by omega) (by omega)] at hi; exact hi) (by rw [go_row (by omega) (by omega)] at hj; exact hj))
    unfold gon tms
    rw [e, P_ext h, ih.1, ih.2]
    exact ⟨rfl, rfl⟩
theorem ct_minutes_k (hd : okD D) {x : Nat} (hx : x ≤ 60) : ∀ m i t D' M S, i + m = x → t + 10 * m ≤ 10000 → ovr D D' → okW D' → RC D S → MR D' S → PB P S → ME M S → ∃ S', k_Top_minutes_32 (nI x) (nI t) (nI i) S = k_Top_minutes_32 (nI x) (nI (t + tms P m D')) (nI x) S' ∧ frW S S' ∧ MR (gon P m D') S' := by
  intro m
  induction m with
  | zero =>
    intro i t D' M S hi ht ho hw hr hm hP hM
    refine ⟨S, ?_, frW_r S, hm⟩
    rw [show i = x by omega, tms, Nat.add_zero]
  | succ m ih =>
    intro i t D' M S hi ht ho hw hr hm hP hM
    obtain ⟨S1, e1, f1, z1, m1, _, M1, hM1, b1⟩ := cm_goOn hd ho hw hr hm hP hM
    have hr1 : RC D S1 := RC_f hd hr (frW_C f1)
    have hle := lb_le (f := cl D' P (wn D')) hw.1
    have hle2 : (lay D' P (wn D')).1 ≤ 10 := hle
    obtain ⟨S2, e2, f2, m2⟩ := ih (i + 1) (t + (lay D' P (wn D')).1) (go D' P) M1 S1 (by omega) (by omega) (ovr_go ho P) (go_okW hw P) hr1 m1 (PB_fr hP (fun k => f1 _ _ (by omega) (by omega) (by omega) (by omega) (by omega) (by omega))) hM1
    refine ⟨S2, ?_, frW_t f1 f2, m2⟩
    rw [tms, ← Nat.add_assoc, ← e2, k_Top_minutes_32_eq]
    simp (disch := omega) only [zL0, zL1, zL2, zL3, zL4, zL5, zL6, zL7, zL8, zL9, zL10, zL12, zL20, zL30, zL31, zL32, zL44, zL48, zL49, zL50, zL56, zL59, zL60, zL61, zL64, zL65, zL97, zL99, zL100, zL101, zL102, zL103, zL104, zL111, zL119, zL126, zL255, zL512, zL617, zL65535, zL65536, zL1048576, zlt, zle, zeq, ztn, zin, zzb, zadd, zmul, zm_lt, zm_gt, zm_le, zm_ge, zm_eq, zm_eq', zm_in, if_pos, if_neg, bI_s, bJ_s, bA_s, bU_s, if_true, if_false, reduceIte, or_true, true_or, or_false, false_or, and_true, true_and, and_false, false_and, not_true_eq_false, not_false_eq_true, Nat.reduceEqDiff, Nat.zero_ne_one, Nat.one_ne_zero, e1]
theorem ct_keep (hd : okD D) {S : Mem} (hr : RC D S) : ∃ S', f_Morning_keep S = some S' ∧ (∀ x k, x < 17 ∨ 26 < x ∨ x % 2 = 0 ∨ (k ≠ 1 ∧ k ≠ 6) → S'.1 x k = S.1 x k) ∧ (∀ i, i < D 55 7 → S'.1 (17 + 2 * i) 1 = S.1 41 i ∧ S'.1 (17 + 2 * i) 6 = S.1 42 i) := by
  have w5 := hd.2.1.1
  obtain ⟨S1, e1, f1, q1⟩ := zfor (fun i S => k_Morning_keep_2 (nI i) S) 5 (fun i S1 => (∀ x k, x < 17 ∨ 26 < x ∨ x % 2 = 0 ∨ (k ≠ 1 ∧ k ≠ 6) → S1.1 x k = S.1 x k) ∧ ∀ j, j < i → j < D 55 7 → S1.1 (17 + 2 * j) 1 = S.1 41 j ∧ S1.1 (17 + 2 * j) 6 = S.1 42 j) (by
    intro i S1 hi ⟨f1, q1⟩
    have hw1 : S1.1 14 1 = nI (D 55 7) := by rw [f1 _ _ (by omega)]; exact hr.w
    by_cases c : i < D 55 7
    · have wi5 := isW_i hi
      refine ⟨u1 (u1 S1 (17 + 2 * i) 1 (S1.1 41 i)) (17 + 2 * i) 6 (S1.1 42 i), ?_, fun x k q => by rw [zuN (by omega), zuN (by omega), f1 x k q], fun j hj hj2 => ?_⟩
      · rw [k_Morning_keep_2_eq]
        simp (disch := omega) only [zL0, zL1, zL2, zL3, zL4, zL5, zL6, zL7, zL8, zL9, zL10, zL12, zL20, zL30, zL31, zL32, zL44, zL48, zL49, zL50, zL56, zL59, zL60, zL61, zL64, zL65, zL97, zL99, zL100, zL101, zL102, zL103, zL104, zL111, zL119, zL126, zL255, zL512, zL617, zL65535, zL65536, zL1048576, zlt, zle, zeq, ztn, zin, zzb, zadd, zmul, zm_lt, zm_gt, zm_le, zm_ge, zm_eq, zm_eq', zm_in, if_pos, if_neg, bI_s, bJ_s, bA_s, bU_s, if_true, if_false, reduceIte, or_true, true_or, or_false, false_or, and_true, true_and, and_false, false_and, not_true_eq_false, not_false_eq_true, Nat.reduceEqDiff, Nat.zero_ne_one, Nat.one_ne_zero, zuS, zuN, zu2, zv1, zvS, zvN, ct_at hw1 w5 c, oc, k_Morning_keep_20_eq wi5, k_Morning_keep_40_eq]
      · by_cases e : j = i
        · subst e
          refine ⟨?_, ?_⟩
          · simp (disch := omega) only [zuS, zuN, zu2, zv1, zvS, zvN]; exact f1 _ _ (by omega)
          · simp (disch := omega) only [zuS, zuN, zu2, zv1, zvS, zvN]; exact f1 _ _ (by omega)
        · obtain ⟨a1, a2⟩ := q1 j (by omega) hj2
          refine ⟨?_, ?_⟩
          · simp (disch := omega) only [zuS, zuN, zu2, zv1, zvS, zvN]; exact a1
          · simp (disch := omega) only [zuS, zuN, zu2, zv1, zvS, zvN]; exact a2
    · refine ⟨S1, ?_, f1, fun j hj hj2 => q1 j (by omega) hj2⟩
      rw [k_Morning_keep_2_eq]
      simp (disch := omega) only [zL0, zL1, zL2, zL3, zL4, zL5, zL6, zL7, zL8, zL9, zL10, zL12, zL20, zL30, zL31, zL32, zL44, zL48, zL49, zL50, zL56, zL59, zL60, zL61, zL64, zL65, zL97, zL99, zL100, zL101, zL102, zL103, zL104, zL111, zL119, zL126, zL255, zL512, zL617, zL65535, zL65536, zL1048576, zlt, zle, zeq, ztn, zin, zzb, zadd, zmul, zm_lt, zm_gt, zm_le, zm_ge, zm_eq, zm_eq', zm_in, if_pos, if_neg, bI_s, bJ_s, bA_s, bU_s, if_true, if_false, reduceIte, or_true, true_or, or_false, false_or, and_true, true_and, and_false, false_and, not_true_eq_false, not_false_eq_true, Nat.reduceEqDiff, Nat.zero_ne_one, Nat.one_ne_zero, ct_at0 hw1 w5, oc, k_Morning_keep_40_eq]) 5 0 S (by omega) ⟨fun _ _ _ => rfl, fun _ _ => by omega⟩
  refine ⟨S1, ?_, f1, fun i hi => q1 i (by omega) hi⟩
  rw [f_Morning_keep_eq, zL0, e1, k_Morning_keep_2_eq]
  simp (disch := omega) only [zL0, zL1, zL2, zL3, zL4, zL5, zL6, zL7, zL8, zL9, zL10, zL12, zL20, zL30, zL31, zL32, zL44, zL48, zL49, zL50, zL56, zL59, zL60, zL61, zL64, zL65, zL97, zL99, zL100, zL101, zL102, zL103, zL104, zL111, zL119, zL126, zL255, zL512, zL617, zL65535, zL65536, zL1048576, zlt, zle, zeq, ztn, zin, zzb, zadd, zmul, zm_lt, zm_gt, zm_le, zm_ge, zm_eq, zm_eq', zm_in, if_pos, if_neg, bI_s, bJ_s, bA_s, bU_s, if_true, if_false, reduceIte, or_true, true_or, or_false, false_or, and_true, true_and, and_false, false_and, not_true_eq_false, not_false_eq_true, Nat.reduceEqDiff, Nat.zero_ne_one, Nat.one_ne_zero]
theorem ct_areMinutes {n : Nat} (hn : n < 2147483648) {S : Mem} : f_Top_areMinutes (nI n) S = some (nI (if 1 ≤ n ∧ n ≤ 60 then 1 else 0), S) := by
  rw [f_Top_areMinutes_eq]
  by_cases c : 1 ≤ n
  · by_cases c2 : n ≤ 60
    · simp (disch := omega) only [k_Top_areMinutes_15_eq, k_Top_areMinutes_16_eq, zL0, zL1, zL2, zL3, zL4, zL5, zL6, zL7, zL8, zL9, zL10, zL12, zL20, zL30, zL31, zL32, zL44, zL48, zL49, zL50, zL56, zL59, zL60, zL61, zL64, zL65, zL97, zL99, zL100, zL101, zL102, zL103, zL104, zL111, zL119, zL126, zL255, zL512, zL617, zL65535, zL65536, zL1048576, zlt, zle, zeq, ztn, zin, zzb, zadd, zmul, zm_lt, zm_gt, zm_le, zm_ge, zm_eq, zm_eq', zm_in, if_pos, if_neg, bI_s, bJ_s, bA_s, bU_s, if_true, if_false, reduceIte, or_true, true_or, or_false, false_or, and_true, true_and, and_false, false_and, not_true_eq_false, not_false_eq_true, Nat.reduceEqDiff, Nat.zero_ne_one, Nat.one_ne_zero]
    · simp (disch := omega) only [k_Top_areMinutes_15_eq, k_Top_areMinutes_16_eq, zL0, zL1, zL2, zL3, zL4, zL5, zL6, zL7, zL8, zL9, zL10, zL12, zL20, zL30, zL31, zL32, zL44, zL48, zL49, zL50, zL56, zL59, zL60, zL61, zL64, zL65, zL97, zL99, zL100, zL101, zL102, zL103, zL104, zL111, zL119, zL126, zL255, zL512, zL617, zL65535, zL65536, zL1048576, zlt, zle, zeq, ztn, zin, zzb, zadd, zmul, zm_lt, zm_gt, zm_le, zm_ge, zm_eq, zm_eq', zm_in, if_pos, if_neg, bI_s, bJ_s, bA_s, bU_s, if_true, if_false, reduceIte, or_true, true_or, or_false, false_or, and_true, true_and, and_false, false_and, not_true_eq_false, not_false_eq_true, Nat.reduceEqDiff, Nat.zero_ne_one, Nat.one_ne_zero]
  · simp (disch := omega) only [k_Top_areMinutes_15_eq, k_Top_areMinutes_16_eq, zL0, zL1, zL2, zL3, zL4, zL5, zL6, zL7, zL8, zL9, zL10, zL12, zL20, zL30, zL31, zL32, zL44, zL48, zL49, zL50, zL56, zL59, zL60, zL61, zL64, zL65, zL97, zL99, zL100, zL101, zL102, zL103, zL104, zL111, zL119, zL126, zL255, zL512, zL617, zL65535, zL65536, zL1048576, zlt, zle, zeq, ztn, zin, zzb, zadd, zmul, zm_lt, zm_gt, zm_le, zm_ge, zm_eq, zm_eq', zm_in, if_pos, if_neg, bI_s, bJ_s, bA_s, bU_s, if_true, if_false, reduceIte, or_true, true_or, or_false, false_or, and_true, true_and, and_false, false_and, not_true_eq_false, not_false_eq_true, Nat.reduceEqDiff, Nat.zero_ne_one, Nat.one_ne_zero]
theorem ct_areMinutes_n {x : Int32} (hx : x < nI 0) {S : Mem} : f_Top_areMinutes x S = some (nI 0, S) := by
  rw [f_Top_areMinutes_eq, zL1, if_pos (by rw [zn_lt hx (by omega)]; trivial)]
  simp (disch := omega) only [k_Top_areMinutes_15_eq, k_Top_areMinutes_16_eq, zL0, zL1, zL2, zL3, zL4, zL5, zL6, zL7, zL8, zL9, zL10, zL12, zL20, zL30, zL31, zL32, zL44, zL48, zL49, zL50, zL56, zL59, zL60, zL61, zL64, zL65, zL97, zL99, zL100, zL101, zL102, zL103, zL104, zL111, zL119, zL126, zL255, zL512, zL617, zL65535, zL65536, zL1048576, zlt, zle, zeq, ztn, zin, zzb, zadd, zmul, zm_lt, zm_gt, zm_le, zm_ge, zm_eq, zm_eq', zm_in, if_pos, if_neg, bI_s, bJ_s, bA_s, bU_s, if_true, if_false, reduceIte, or_true, true_or, or_false, false_or, and_true, true_and, and_false, false_and, not_true_eq_false, not_false_eq_true, Nat.reduceEqDiff, Nat.zero_ne_one, Nat.one_ne_zero]
def mnD (D : DD) (x : Nat) : DD := dS (gon (mp D) x D) 55 (dU (D 55) 16 (D 55 16 + x))
theorem mnD_row {x a : Nat} (h0 : ¬ a = 60) (h5 : ¬ a = 65) (h55 : ¬ a = 55) : mnD D x a = D a := by
  unfold mnD
  rw [dS_n h55, gon_row h0 h5]
theorem mnD_55 {x k : Nat} (h : ¬ k = 16) : mnD D x 55 k = D 55 k := by
  unfold mnD
  rw [dS_s, dU_n h]
theorem mnD_60 {x : Nat} : mnD D x 60 = gon (mp D) x D 60 := by
  unfold mnD
  rw [dS_n (by omega)]
theorem mnD_65 {x : Nat} : mnD D x 65 = gon (mp D) x D 65 := by
  unfold mnD
  rw [dS_n (by omega)]
theorem mnD_ok (hd : okD D) (x : Nat) : okD (mnD D x) := by
  have r : ∀ a, ¬ a = 60 → ¬ a = 65 → ¬ a = 55 → mnD D x a = D a := fun a h0 h5 h55 => mnD_row h0 h5 h55
  have hw := gon_okW (P := mp D) x D hd.2.1
  have g : ∀ a, ¬ a = 60 → ¬ a = 65 → gon (mp D) x D a = D a := fun a h0 h5 => gon_row h0 h5 x D
  refine ⟨okN_d hd.1 (mnD_55 (by omega)) (mnD_55 (by omega)) (mnD_55 (by omega)) (r _ (by omega) (by omega) (by omega)) (r _ (by omega) (by omega) (by omega)) (r _ (by omega) (by omega) (by omega)), ?_, ?_, okK_d hd.2.2.2 (mnD_55 (by omega)) (r _ (by omega) (by omega) (by omega)) (r _ (by omega) (by omega) (by omega)) (mnD_55 (by omega)) (mnD_55 (by omega)) (mnD_55 (by omega)) (mnD_55 (by omega)) (mnD_55 (by omega)) (by rw [mnD_55 (by omega)]; exact Nat.le_refl _) (r _ (by omega) (by omega) (by omega)) (r _ (by omega) (by omega) (by omega)) (r _ (by omega) (by omega) (by omega)) (r _ (by omega) (by omega) (by omega)) (r _ (by omega) (by omega) (by omega)) (r _ (by omega) (by omega) (by omega))⟩
  · refine okW_d hw ?_ ?_ ?_ ?_ ?_ mnD_60 ?_ (fun i hi => ?_) ?_ ?_ mnD_65
    · rw [mnD_55 (by omega), g _ (by omega) (by omega)]
    · rw [r _ (by omega) (by omega) (by omega), g _ (by omega) (by omega)]
    · rw [r _ (by omega) (by omega) (by omega), g _ (by omega) (by omega)]
    · rw [mnD_55 (by omega), g _ (by omega) (by omega)]
    · rw [r _ (by omega) (by omega) (by omega), g _ (by omega) (by omega)]
    · rw [r _ (by omega) (by omega) (by omega), g _ (by omega) (by omega)]
    · rw [r _ (by omega) (by omega) (by omega)]
      rw [g _ (by omega) (by omega)] at hi
      exact (hd.2.1.2 i hi).2.2.2.1
    · rw [r _ (by omega) (by omega) (by omega), g _ (by omega) (by omega)]
    · rw [r _ (by omega) (by omega) (by omega), g _ (by omega) (by omega)]
  · have hs := hd.2.2.1
    unfold okS at hs ⊢
    simp only [mnD_55 (D := D) (x := x) (k := 18) (by omega), mnD_55 (D := D) (x := x) (k := 17) (by omega), mnD_55 (D := D) (x := x) (k := 6) (by omega), mnD_55 (D := D) (x := x) (k := 0) (by omega), mnD_55 (D := D) (x := x) (k := 7) (by omega), mnD_55 (D := D) (x := x) (k := 42) (by omega), mnD_55 (D := D) (x := x) (k := 43) (by omega), r 67 (by omega) (by omega) (by omega), r 66 (by omega) (by omega) (by omega)]
    exact hs
theorem ask_minutes {c : Nat} {S : Mem} (h : Inv c D S) (hc : c < 512) (x : Int32) : CAL c S (f_Top_minutes x) (f_Mod_minutes x) := by
  obtain ⟨hd, hr, hm, h4, h5, h6⟩ := id h
  have hn8 := hr.net
  have w5 := hd.2.1.1
  rcases zcase x with hx | ⟨n, hn, rfl⟩
  · refine CAL_00 h hc (r := -nI 102) ?_ ?_
    · rw [f_Top_minutes_eq]; simp (disch := omega) only [ct_areMinutes_n hx, zL0, zL1, zL2, zL3, zL4, zL5, zL6, zL7, zL8, zL9, zL10, zL12, zL20, zL30, zL31, zL32, zL44, zL48, zL49, zL50, zL56, zL59, zL60, zL61, zL64, zL65, zL97, zL99, zL100, zL101, zL102, zL103, zL104, zL111, zL119, zL126, zL255, zL512, zL617, zL65535, zL65536, zL1048576, zlt, zle, zeq, ztn, zin, zzb, zadd, zmul, zm_lt, zm_gt, zm_le, zm_ge, zm_eq, zm_eq', zm_in, if_pos, if_neg, bI_s, bJ_s, bA_s, bU_s, if_true, if_false, reduceIte, or_true, true_or, or_false, false_or, and_true, true_and, and_false, false_and, not_true_eq_false, not_false_eq_true, Nat.reduceEqDiff, Nat.zero_ne_one, Nat.one_ne_zero]
    · rw [f_Mod_minutes_eq]; simp (disch := omega) only [mo_within_n hx, zL0, zL1, zL2, zL3, zL4, zL5, zL6, zL7, zL8, zL9, zL10, zL12, zL20, zL30, zL31, zL32, zL44, zL48, zL49, zL50, zL56, zL59, zL60, zL61, zL64, zL65, zL97, zL99, zL100, zL101, zL102, zL103, zL104, zL111, zL119, zL126, zL255, zL512, zL617, zL65535, zL65536, zL1048576, zlt, zle, zeq, ztn, zin, zzb, zadd, zmul, zm_lt, zm_gt, zm_le, zm_ge, zm_eq, zm_eq', zm_in, if_pos, if_neg, bI_s, bJ_s, bA_s, bU_s, if_true, if_false, reduceIte, or_true, true_or, or_false, false_or, and_true, true_and, and_false, false_and, not_true_eq_false, not_false_eq_true, Nat.reduceEqDiff, Nat.zero_ne_one, Nat.one_ne_zero]
  by_cases cn : 1 ≤ n ∧ n ≤ 60
  rotate_left
  · refine CAL_00 h hc (r := -nI 102) ?_ ?_
    · rw [f_Top_minutes_eq]; simp (disch := omega) only [ct_areMinutes, zL0, zL1, zL2, zL3, zL4, zL5, zL6, zL7, zL8, zL9, zL10, zL12, zL20, zL30, zL31, zL32, zL44, zL48, zL49, zL50, zL56, zL59, zL60, zL61, zL64, zL65, zL97, zL99, zL100, zL101, zL102, zL103, zL104, zL111, zL119, zL126, zL255, zL512, zL617, zL65535, zL65536, zL1048576, zlt, zle, zeq, ztn, zin, zzb, zadd, zmul, zm_lt, zm_gt, zm_le, zm_ge, zm_eq, zm_eq', zm_in, if_pos, if_neg, bI_s, bJ_s, bA_s, bU_s, if_true, if_false, reduceIte, or_true, true_or, or_false, false_or, and_true, true_and, and_false, false_and, not_true_eq_false, not_false_eq_true, Nat.reduceEqDiff, Nat.zero_ne_one, Nat.one_ne_zero]
    · rw [f_Mod_minutes_eq]; simp (disch := omega) only [mo_within, zL0, zL1, zL2, zL3, zL4, zL5, zL6, zL7, zL8, zL9, zL10, zL12, zL20, zL30, zL31, zL32, zL44, zL48, zL49, zL50, zL56, zL59, zL60, zL61, zL64, zL65, zL97, zL99, zL100, zL101, zL102, zL103, zL104, zL111, zL119, zL126, zL255, zL512, zL617, zL65535, zL65536, zL1048576, zlt, zle, zeq, ztn, zin, zzb, zadd, zmul, zm_lt, zm_gt, zm_le, zm_ge, zm_eq, zm_eq', zm_in, if_pos, if_neg, bI_s, bJ_s, bA_s, bU_s, if_true, if_false, reduceIte, or_true, true_or, or_false, false_or, and_true, true_and, and_false, false_and, not_true_eq_false, not_false_eq_true, Nat.reduceEqDiff, Nat.zero_ne_one, Nat.one_ne_zero]
  by_cases c6 : D 55 6 = 0
  · rw [if_pos c6] at hn8
    refine CAL_00 h hc (r := -nI 103) ?_ ?_
    · rw [f_Top_minutes_eq]; simp (disch := omega) only [ct_areMinutes, hn8, zL0, zL1, zL2, zL3, zL4, zL5, zL6, zL7, zL8, zL9, zL10, zL12, zL20, zL30, zL31, zL32, zL44, zL48, zL49, zL50, zL56, zL59, zL60, zL61, zL64, zL65, zL97, zL99, zL100, zL101, zL102, zL103, zL104, zL111, zL119, zL126, zL255, zL512, zL617, zL65535, zL65536, zL1048576, zlt, zle, zeq, ztn, zin, zzb, zadd, zmul, zm_lt, zm_gt, zm_le, zm_ge, zm_eq, zm_eq', zm_in, if_pos, if_neg, bI_s, bJ_s, bA_s, bU_s, if_true, if_false, reduceIte, or_true, true_or, or_false, false_or, and_true, true_and, and_false, false_and, not_true_eq_false, not_false_eq_true, Nat.reduceEqDiff, Nat.zero_ne_one, Nat.one_ne_zero]
    · rw [f_Mod_minutes_eq]; simp (disch := omega) only [mo_within, hm.r, zL0, zL1, zL2, zL3, zL4, zL5, zL6, zL7, zL8, zL9, zL10, zL12, zL20, zL30, zL31, zL32, zL44, zL48, zL49, zL50, zL56, zL59, zL60, zL61, zL64, zL65, zL97, zL99, zL100, zL101, zL102, zL103, zL104, zL111, zL119, zL126, zL255, zL512, zL617, zL65535, zL65536, zL1048576, zlt, zle, zeq, ztn, zin, zzb, zadd, zmul, zm_lt, zm_gt, zm_le, zm_ge, zm_eq, zm_eq', zm_in, if_pos, if_neg, bI_s, bJ_s, bA_s, bU_s, if_true, if_false, reduceIte, or_true, true_or, or_false, false_or, and_true, true_and, and_false, false_and, not_true_eq_false, not_false_eq_true, Nat.reduceEqDiff, Nat.zero_ne_one, Nat.one_ne_zero]
  rw [if_neg c6] at hn8
  obtain ⟨S1, e1, f1, z1, m1, p1, n1⟩ := cm_begin hd (free := 0) (by omega) hr
  have hr1 : RC D S1 := RC_f hd hr (fun a k q => f1 a k (by omega) (by omega) (by omega) (by omega))
  obtain ⟨S2, e2, f2, m2⟩ := ct_minutes_k hd cn.2 n 0 0 D (fun _ => 0) S1 (by omega) (by omega) (ovr_r D) hd.2.1 hr1 m1 p1 n1
  have hext := gon_ext n D (pfr_0 D)
  rw [hext.2, Nat.zero_add] at e2
  rw [hext.1] at m2
  have hr2 : RC D S2 := RC_f hd hr1 (frW_C f2)
  obtain ⟨S3, e3, f3, q3⟩ := ct_keep hd hr2
  have h143 : S3.1 14 3 = nI (D 55 16) := by rw [f3 _ _ (by omega)]; exact hr2.2.2.2.1.1
  have g : ∀ a, ¬ a = 60 → ¬ a = 65 → gon (mp D) n D a = D a := fun a h0 h5 => gon_row h0 h5 n D
  have r : ∀ a, ¬ a = 60 → ¬ a = 65 → ¬ a = 55 → mnD D n a = D a := fun a h0 h5 h55 => mnD_row h0 h5 h55
  obtain ⟨S4, hS4⟩ : ∃ S4, S4 = u1 S3 14 3 (nI (D 55 16 + n)) := ⟨_, rfl⟩
  have f4 : ∀ x k, (x < 17 ∨ 26 < x ∨ x % 2 = 0 ∨ (k ≠ 1 ∧ k ≠ 6)) → ¬ (x = 14 ∧ k = 3) → S4.1 x k = S2.1 x k := fun x k q q2 => by rw [hS4, zuN (by omega), f3 x k q]
  have hd' := mnD_ok hd n
  have hr4 : RC (mnD D n) S4 := by
    refine ⟨rPg_f (rPg_d hr2.1 (mnD_55 (by omega)) (r _ (by omega) (by omega) (by omega))) (fun a k q => f4 a k (by omega) (by omega)), rNt_f (rNt_d hr2.2.1 (mnD_55 (by omega)) (mnD_55 (by omega)) (mnD_55 (by omega)) (r _ (by omega) (by omega) (by omega)) (r _ (by omega) (by omega) (by omega)) (r _ (by omega) (by omega) (by omega)) (mnD_55 (by omega))) (fun a k q => f4 a k (by omega) (by omega)), ?_, ⟨?_, fun j hj => ?_⟩, rTp_f (rTp_d hr2.2.2.2.2.1 (mnD_55 (by omega)) (mnD_55 (by omega)) (mnD_55 (by omega)) (mnD_55 (by omega))) (fun a k q => f4 a k (by omega) (by omega)), rKp_f hd'.2.2.2 hd'.2.1.1 (rKp_d hr2.2.2.2.2.2 (mnD_55 (by omega)) (mnD_55 (by omega)) (mnD_55 (by omega)) (mnD_55 (by omega)) (mnD_55 (by omega)) (fun i _ => by rw [r _ (by omega) (by omega) (by omega)]) (fun i _ => by rw [r _ (by omega) (by omega) (by omega)]) (r _ (by omega) (by omega) (by omega)) (r _ (by omega) (by omega) (by omega)) (r _ (by omega) (by omega) (by omega)) (r _ (by omega) (by omega) (by omega)) (r _ (by omega) (by omega) (by omega)) (r _ (by omega) (by omega) (by omega))) (fun a k q => f4 a k (by omega) (by omega))⟩
    · unfold rTw
      rw [mnD_55 (by omega), r 59 (by omega) (by omega) (by omega), r 61 (by omega) (by omega) (by omega), r 62 (by omega) (by omega) (by omega), r 63 (by omega) (by omega) (by omega), r 64 (by omega) (by omega) (by omega), mnD_60, mnD_65]
      have g7 : gon (mp D) n D 55 = D 55 := g 55 (by omega) (by omega)
      refine ⟨?_, fun j hj => ?_, fun j hj => ?_, fun j hj => ?_, fun j hj => ?_, fun j hj => ?_, fun j hj => ?_, fun j q hj hq => ?_⟩
      · rw [f4 _ _ (by omega) (by omega)]; exact hr2.w
      · rw [f4 _ _ (by omega) (by omega)]; exact hr2.kind j hj
      · rw [hS4, zuN (by omega), (q3 j hj).1, m2.1 j (by omega), g7, if_pos hj]
      · rw [f4 _ _ (by omega) (by omega)]; exact hr2.goal j hj
      · rw [f4 _ _ (by omega) (by omega)]; exact hr2.load j hj
      · rw [f4 _ _ (by omega) (by omega)]; exact hr2.wl j hj
      · rw [hS4, zuN (by omega), (q3 j hj).2, m2.2 j (by rw [g7]; exact hj)]
      · rw [f4 _ _ (by omega) (by omega)]; exact hr2.way j q hj hq
    · rw [hS4, zuS ⟨rfl, rfl⟩]; rfl
    · rw [f4 _ _ (by omega) (by omega), r 66 (by omega) (by omega) (by omega)]; exact hr2.hp j hj
  have hm4 : RM D S4 := RM_T hm (fun a k q => by rw [f4 a k (by omega) (by omega), f2 a k (by omega) (by omega) (by omega) (by omega) (by omega) (by omega), f1 a k (by omega) (by omega) (by omega) (by omega)])
  obtain ⟨S5, e5, m5, f5⟩ := mo_minutes cn.1 cn.2 hm4 hd.1 hd.2.1 c6 (by omega)
  refine CAL_w (r := nI (tms (mp D) n D)) hc hd' ?_ hr4 e5 f5 m5 (by rw [mnD_55 (by omega)]; omega) (Nat.zero_le _)
  rw [f_Top_minutes_eq]
  simp (disch := omega) only [ct_areMinutes, hn8, zL0, zL1, zL2, zL3, zL4, zL5, zL6, zL7, zL8, zL9, zL10, zL12, zL20, zL30, zL31, zL32, zL44, zL48, zL49, zL50, zL56, zL59, zL60, zL61, zL64, zL65, zL97, zL99, zL100, zL101, zL102, zL103, zL104, zL111, zL119, zL126, zL255, zL512, zL617, zL65535, zL65536, zL1048576, zlt, zle, zeq, ztn, zin, zzb, zadd, zmul, zm_lt, zm_gt, zm_le, zm_ge, zm_eq, zm_eq', zm_in, if_pos, if_neg, bI_s, bJ_s, bA_s, bU_s, if_true, if_false, reduceIte, or_true, true_or, or_false, false_or, and_true, true_and, and_false, false_and, not_true_eq_false, not_false_eq_true, Nat.reduceEqDiff, Nat.zero_ne_one, Nat.one_ne_zero, e1, e2]
  rw [k_Top_minutes_32_eq]
  simp (disch := omega) only [zL0, zL1, zL2, zL3, zL4, zL5, zL6, zL7, zL8, zL9, zL10, zL12, zL20, zL30, zL31, zL32, zL44, zL48, zL49, zL50, zL56, zL59, zL60, zL61, zL64, zL65, zL97, zL99, zL100, zL101, zL102, zL103, zL104, zL111, zL119, zL126, zL255, zL512, zL617, zL65535, zL65536, zL1048576, zlt, zle, zeq, ztn, zin, zzb, zadd, zmul, zm_lt, zm_gt, zm_le, zm_ge, zm_eq, zm_eq', zm_in, if_pos, if_neg, bI_s, bJ_s, bA_s, bU_s, if_true, if_false, reduceIte, or_true, true_or, or_false, false_or, and_true, true_and, and_false, false_and, not_true_eq_false, not_false_eq_true, Nat.reduceEqDiff, Nat.zero_ne_one, Nat.one_ne_zero, e3, h143, hS4]
end MIN
