/-! the class's small methods -/
section CLS
variable {D : DD} {S : Mem}
theorem RC.w (h : RC D S) : S.1 14 1 = nI (D 55 7) := h.2.2.1.1
theorem RC.kind (h : RC D S) : ∀ i, i < D 55 7 → S.1 (17 + 2 * i) 0 = nI (D 59 i) := h.2.2.1.2.1
theorem RC.cor (h : RC D S) : ∀ i, i < D 55 7 → S.1 (17 + 2 * i) 1 = nI (D 60 i) := h.2.2.1.2.2.1
theorem RC.goal (h : RC D S) : ∀ i, i < D 55 7 → S.1 (17 + 2 * i) 2 = nI (D 61 i) := h.2.2.1.2.2.2.1
theorem RC.load (h : RC D S) : ∀ i, i < D 55 7 → S.1 (17 + 2 * i) 3 = nI (D 62 i) := h.2.2.1.2.2.2.2.1
theorem RC.wl (h : RC D S) : ∀ i, i < D 55 7 → S.1 (17 + 2 * i) 5 = nI (D 64 i) := h.2.2.1.2.2.2.2.2.1
theorem RC.wd (h : RC D S) : ∀ i, i < D 55 7 → S.1 (17 + 2 * i) 6 = nI (D 65 i) := h.2.2.1.2.2.2.2.2.2.1
theorem RC.way (h : RC D S) : ∀ i k, i < D 55 7 → k < D 64 i → S.1 (18 + 2 * i) k = nI (D 63 (20 * i + k)) := h.2.2.1.2.2.2.2.2.2.2
theorem RC.lanes (h : RC D S) : S.1 7 3 = nI (D 55 0) := h.2.1.1
theorem RC.dbl (h : RC D S) : S.1 7 4 = nI (D 55 4) := h.2.1.2.1
theorem RC.emp (h : RC D S) : S.1 7 5 = nI (D 55 5) := h.2.1.2.2.1
theorem RC.la (h : RC D S) : ∀ k, k < D 55 0 → S.1 8 k = nI (D 56 k) := h.2.1.2.2.2.1
theorem RC.lb (h : RC D S) : ∀ k, k < D 55 0 → S.1 9 k = nI (D 57 k) := h.2.1.2.2.2.2.1
theorem RC.wide (h : RC D S) : ∀ k, k < D 55 0 → S.1 10 k = nI (D 58 k) := h.2.1.2.2.2.2.2.1
theorem RC.btw (h : RC D S) : ∀ a b, a < 8 → b < 8 → S.1 11 (8 * a + b) = eo (ln D a b) := h.2.1.2.2.2.2.2.2.1
theorem RC.cnt (h : RC D S) : D 55 6 ≠ 0 → ∀ a, a < 8 → S.1 13 a = nI (sc D a 8) := h.2.1.2.2.2.2.2.2.2.1
theorem RC.st (h : RC D S) : D 55 6 ≠ 0 → ∀ a b, a < 8 → b < 8 → stp D a b → S.1 12 (8 * a + sc D a b) = nI b := h.2.1.2.2.2.2.2.2.2.2
theorem isW_i {i : Nat} (h : i < 5) : isW (17 + 2 * i) := by
  match i, h with
  | 0, _ => exact isT_14.2.2.2.1
  | 1, _ => exact isT_14.2.2.2.2.1
  | 2, _ => exact isT_14.2.2.2.2.2.1
  | 3, _ => exact isT_14.2.2.2.2.2.2.1
  | 4, _ => exact isT_14.2.2.2.2.2.2.2
theorem ct_at {W : Nat} (h : S.1 14 1 = nI W) (hw : W ≤ 5) {i : Nat} (hi : i < W) : f_Town_at 14 (nI i) S = some (some (17 + 2 * i), S) := by
  rw [f_Town_at_eq isT_14, zL0, zL5, h]
  simp (disch := omega) only [k_Town_at_26_eq, k_Town_at_27_eq, zL0, zL1, zL2, zL3, zL4, zL5, zL6, zL7, zL8, zL9, zL10, zL12, zL20, zL30, zL31, zL32, zL44, zL48, zL49, zL50, zL56, zL59, zL60, zL61, zL64, zL65, zL97, zL99, zL100, zL101, zL102, zL103, zL104, zL111, zL119, zL126, zL255, zL512, zL617, zL65535, zL65536, zL1048576, zlt, zle, zeq, ztn, zin, zzb, zadd, zmul, zm_lt, zm_gt, zm_le, zm_ge, zm_eq, zm_eq', zm_in, if_pos, if_neg, bI_s, bJ_s, bA_s, bU_s, if_true, if_false, reduceIte, or_true, true_or, or_false, false_or, and_true, true_and, and_false, false_and, not_true_eq_false, not_false_eq_true, Nat.reduceEqDiff, Nat.zero_ne_one, Nat.one_ne_zero, Nat.reduceAdd]
theorem ct_at0 {W : Nat} (h : S.1 14 1 = nI W) (hw : W ≤ 5) {i : Nat} (hi : W ≤ i) (hi2 : i < 2147483648) : f_Town_at 14 (nI i) S = some (none, S) := by
  rw [f_Town_at_eq isT_14, zL0, zL5, h]
  simp (disch := omega) only [k_Town_at_26_eq, k_Town_at_27_eq, zL0, zL1, zL2, zL3, zL4, zL5, zL6, zL7, zL8, zL9, zL10, zL12, zL20, zL30, zL31, zL32, zL44, zL48, zL49, zL50, zL56, zL59, zL60, zL61, zL64, zL65, zL97, zL99, zL100, zL101, zL102, zL103, zL104, zL111, zL119, zL126, zL255, zL512, zL617, zL65535, zL65536, zL1048576, zlt, zle, zeq, ztn, zin, zzb, zadd, zmul, zm_lt, zm_gt, zm_le, zm_ge, zm_eq, zm_eq', zm_in, if_pos, if_neg, bI_s, bJ_s, bA_s, bU_s, if_true, if_false, reduceIte, or_true, true_or, or_false, false_or, and_true, true_and, and_false, false_and, not_true_eq_false, not_false_eq_true, Nat.reduceEqDiff, Nat.zero_ne_one, Nat.one_ne_zero]
theorem ct_atn {x : Int32} (hx : x < nI 0) : f_Town_at 14 x S = some (none, S) := by
  rw [f_Town_at_eq isT_14, zL0, if_pos hx]
  simp (disch := omega) only [k_Town_at_26_eq, k_Town_at_27_eq]
theorem ct_isCorner {a : Nat} (ha : a < 2147483648) : f_Top_isCorner (nI a) S = some (nI (if a < 8 then 1 else 0), S) := by
  rw [f_Top_isCorner_eq]
  by_cases c : a < 8
  · simp (disch := omega) only [k_Top_isCorner_14_eq, k_Top_isCorner_15_eq, zL0, zL1, zL2, zL3, zL4, zL5, zL6, zL7, zL8, zL9, zL10, zL12, zL20, zL30, zL31, zL32, zL44, zL48, zL49, zL50, zL56, zL59, zL60, zL61, zL64, zL65, zL97, zL99, zL100, zL101, zL102, zL103, zL104, zL111, zL119, zL126, zL255, zL512, zL617, zL65535, zL65536, zL1048576, zlt, zle, zeq, ztn, zin, zzb, zadd, zmul, zm_lt, zm_gt, zm_le, zm_ge, zm_eq, zm_eq', zm_in, if_pos, if_neg, bI_s, bJ_s, bA_s, bU_s, if_true, if_false, reduceIte, or_true, true_or, or_false, false_or, and_true, true_and, and_false, false_and, not_true_eq_false, not_false_eq_true, Nat.reduceEqDiff, Nat.zero_ne_one, Nat.one_ne_zero]
  · simp (disch := omega) only [k_Top_isCorner_14_eq, k_Top_isCorner_15_eq, zL0, zL1, zL2, zL3, zL4, zL5, zL6, zL7, zL8, zL9, zL10, zL12, zL20, zL30, zL31, zL32, zL44, zL48, zL49, zL50, zL56, zL59, zL60, zL61, zL64, zL65, zL97, zL99, zL100, zL101, zL102, zL103, zL104, zL111, zL119, zL126, zL255, zL512, zL617, zL65535, zL65536, zL1048576, zlt, zle, zeq, ztn, zin, zzb, zadd, zmul, zm_lt, zm_gt, zm_le, zm_ge, zm_eq, zm_eq', zm_in, if_pos, if_neg, bI_s, bJ_s, bA_s, bU_s, if_true, if_false, reduceIte, or_true, true_or, or_false, false_or, and_true, true_and, and_false, false_and, not_true_eq_false, not_false_eq_true, Nat.reduceEqDiff, Nat.zero_ne_one, Nat.one_ne_zero]
def cx (D : DD) (i x : Nat) : Nat := if D 59 i = 2 then x + 7 else x
def lp (D : DD) (i x j y : Nat) : Bool := decide (cx D i x = cx D j y) || (decide (D 55 4 ≠ 0) && (decide (cx D i x = 2 * cx D j y) || decide (cx D j y = 2 * cx D i x))) || (decide (D 55 5 ≠ 0) && (decide (cx D i x = 0) || decide (cx D j y = 0))) || (decide (D 59 i = 3) && decide (cx D j y = 0)) || (decide (D 59 j = 3) && decide (cx D i x = 0))
theorem lp_mp (D : DD) (i j : Nat) : mp D i j = lp D i (D 62 i) j (D 62 j) := rfl
theorem lp_iff {D : DD} {i x j y : Nat} : lp D i x j y = true ↔ (cx D i x = cx D j y ∨ (D 55 4 ≠ 0 ∧ (cx D i x = 2 * cx D j y ∨ cx D j y = 2 * cx D i x)) ∨ (D 55 5 ≠ 0 ∧ (cx D i x = 0 ∨ cx D j y = 0)) ∨ (D 59 i = 3 ∧ cx D j y = 0) ∨ (D 59 j = 3 ∧ cx D i x = 0)) := by
  unfold lp
  simp only [Bool.or_eq_true, Bool.and_eq_true, decide_eq_true_eq]
  omega
theorem cx_le {D : DD} {i x : Nat} : cx D i x ≤ x + 7 := by unfold cx; split <;> omega
theorem cw_carries (h : RC D S) (hw : okW D) {i x : Nat} (hi : i < D 55 7) (hx : x < 1000) : f_Walker_carriesWith (17 + 2 * i) (nI x) S = some (nI (cx D i x), S) := by
  have w5 := hw.1
  have wi := hw.2 i hi
  rw [f_Walker_carriesWith_eq (isW_i (by omega))]
  unfold cx
  by_cases c : D 59 i = 2
  · simp (disch := omega) only [h.kind, k_Walker_carriesWith_16_eq, zL0, zL1, zL2, zL3, zL4, zL5, zL6, zL7, zL8, zL9, zL10, zL12, zL20, zL30, zL31, zL32, zL44, zL48, zL49, zL50, zL56, zL59, zL60, zL61, zL64, zL65, zL97, zL99, zL100, zL101, zL102, zL103, zL104, zL111, zL119, zL126, zL255, zL512, zL617, zL65535, zL65536, zL1048576, zlt, zle, zeq, ztn, zin, zzb, zadd, zmul, zm_lt, zm_gt, zm_le, zm_ge, zm_eq, zm_eq', zm_in, if_pos, if_neg, bI_s, bJ_s, bA_s, bU_s, if_true, if_false, reduceIte, or_true, true_or, or_false, false_or, and_true, true_and, and_false, false_and, not_true_eq_false, not_false_eq_true, Nat.reduceEqDiff, Nat.zero_ne_one, Nat.one_ne_zero]
  · simp (disch := omega) only [h.kind, k_Walker_carriesWith_16_eq, zL0, zL1, zL2, zL3, zL4, zL5, zL6, zL7, zL8, zL9, zL10, zL12, zL20, zL30, zL31, zL32, zL44, zL48, zL49, zL50, zL56, zL59, zL60, zL61, zL64, zL65, zL97, zL99, zL100, zL101, zL102, zL103, zL104, zL111, zL119, zL126, zL255, zL512, zL617, zL65535, zL65536, zL1048576, zlt, zle, zeq, ztn, zin, zzb, zadd, zmul, zm_lt, zm_gt, zm_le, zm_ge, zm_eq, zm_eq', zm_in, if_pos, if_neg, bI_s, bJ_s, bA_s, bU_s, if_true, if_false, reduceIte, or_true, true_or, or_false, false_or, and_true, true_and, and_false, false_and, not_true_eq_false, not_false_eq_true, Nat.reduceEqDiff, Nat.zero_ne_one, Nat.one_ne_zero]
theorem cw_isA (h : RC D S) (hw : okW D) {i k : Nat} (hi : i < D 55 7) (hk : k < 1000) : f_Walker_isA (17 + 2 * i) (nI k) S = some (nI (if k = 0 ∨ k = D 59 i ∨ (k = 1 ∧ D 59 i = 3) then 1 else 0), S) := by
  have w5 := hw.1
  have wi := hw.2 i hi
  rw [f_Walker_isA_eq (isW_i (by omega))]
  simp (disch := omega) only [h.kind, k_Walker_isA_25_eq, k_Walker_isA_29_eq, k_Walker_isA_30_eq, zL0, zL1, zL2, zL3, zL4, zL5, zL6, zL7, zL8, zL9, zL10, zL12, zL20, zL30, zL31, zL32, zL44, zL48, zL49, zL50, zL56, zL59, zL60, zL61, zL64, zL65, zL97, zL99, zL100, zL101, zL102, zL103, zL104, zL111, zL119, zL126, zL255, zL512, zL617, zL65535, zL65536, zL1048576, zlt, zle, zeq, ztn, zin, zzb, zadd, zmul, zm_lt, zm_gt, zm_le, zm_ge, zm_eq, zm_eq', zm_in, if_pos, if_neg, bI_s, bJ_s, bA_s, bU_s, if_true, if_false, reduceIte, or_true, true_or, or_false, false_or, and_true, true_and, and_false, false_and, not_true_eq_false, not_false_eq_true, Nat.reduceEqDiff, Nat.zero_ne_one, Nat.one_ne_zero]
  repeat' split
  all_goals first | rfl | (exfalso; omega)
theorem cw_isA3 (h : RC D S) (hw : okW D) {i : Nat} (hi : i < D 55 7) : f_Walker_isA (17 + 2 * i) (nI 3) S = some (nI (if D 59 i = 3 then 1 else 0), S) := by
  rw [cw_isA h hw hi (by omega)]
  by_cases c : D 59 i = 3
  · rw [if_pos c, if_pos (by omega)]
  · rw [if_neg c, if_neg (by omega)]
theorem cn_lp2 (h : RC D S) (hw : okW D) {i j : Nat} (hi : i < D 55 7) (hj : j < D 55 7) {x y : Nat} (hx : x < 2000) (hy : y < 2000) : k_Net_letsPass_70 (17 + 2 * i) (17 + 2 * j) (nI x) (nI y) S = some (nI (if (D 59 i = 3 ∧ y = 0) ∨ (D 59 j = 3 ∧ x = 0) then 1 else 0), S) := by
  have w5 := hw.1
  have wi := hw.2 i hi
  have wj := hw.2 j hj
  rw [k_Net_letsPass_70_eq (isW_i (by omega)) (isW_i (by omega))]
  by_cases c1 : D 59 i = 3 <;> by_cases c2 : D 59 j = 3 <;> simp (disch := omega) only [cw_isA3 h hw hi, cw_isA3 h hw hj, k_Net_letsPass_83_eq (isW_i (show j < 5 by omega)), k_Net_letsPass_96_eq, k_Net_letsPass_100_eq, k_Net_letsPass_101_eq, zL0, zL1, zL2, zL3, zL4, zL5, zL6, zL7, zL8, zL9, zL10, zL12, zL20, zL30, zL31, zL32, zL44, zL48, zL49, zL50, zL56, zL59, zL60, zL61, zL64, zL65, zL97, zL99, zL100, zL101, zL102, zL103, zL104, zL111, zL119, zL126, zL255, zL512, zL617, zL65535, zL65536, zL1048576, zlt, zle, zeq, ztn, zin, zzb, zadd, zmul, zm_lt, zm_gt, zm_le, zm_ge, zm_eq, zm_eq', zm_in, if_pos, if_neg, bI_s, bJ_s, bA_s, bU_s, if_true, if_false, reduceIte, or_true, true_or, or_false, false_or, and_true, true_and, and_false, false_and, not_true_eq_false, not_false_eq_true, Nat.reduceEqDiff, Nat.zero_ne_one, Nat.one_ne_zero, c1, c2]
  all_goals repeat' split
  all_goals first | rfl | (exfalso; omega)
theorem cn_lp1 (h : RC D S) (hn : okN D) (hw : okW D) {i j : Nat} (hi : i < D 55 7) (hj : j < D 55 7) {x y : Nat} (hx : x < 2000) (hy : y < 2000) : k_Net_letsPass_51 (17 + 2 * i) (17 + 2 * j) (nI x) (nI y) S = some (nI (if (D 55 5 ≠ 0 ∧ (x = 0 ∨ y = 0)) ∨ (D 59 i = 3 ∧ y = 0) ∨ (D 59 j = 3 ∧ x = 0) then 1 else 0), S) := by
  have w5 := hw.1
  have n1 := hn.2.2.1
  rw [k_Net_letsPass_51_eq (isW_i (by omega)) (isW_i (by omega))]
  simp (disch := omega) only [cn_lp2 h hw hi hj, h.emp, k_Net_letsPass_68_eq, zL0, zL1, zL2, zL3, zL4, zL5, zL6, zL7, zL8, zL9, zL10, zL12, zL20, zL30, zL31, zL32, zL44, zL48, zL49, zL50, zL56, zL59, zL60, zL61, zL64, zL65, zL97, zL99, zL100, zL101, zL102, zL103, zL104, zL111, zL119, zL126, zL255, zL512, zL617, zL65535, zL65536, zL1048576, zlt, zle, zeq, ztn, zin, zzb, zadd, zmul, zm_lt, zm_gt, zm_le, zm_ge, zm_eq, zm_eq', zm_in, if_pos, if_neg, bI_s, bJ_s, bA_s, bU_s, if_true, if_false, reduceIte, or_true, true_or, or_false, false_or, and_true, true_and, and_false, false_and, not_true_eq_false, not_false_eq_true, Nat.reduceEqDiff, Nat.zero_ne_one, Nat.one_ne_zero]
  repeat' split
  all_goals first | rfl | (exfalso; omega)
theorem cn_letsPass (h : RC D S) (hn : okN D) (hw : okW D) {i j : Nat} (hi : i < D 55 7) (hj : j < D 55 7) {x y : Nat} (hx : x < 1000) (hy : y < 1000) : f_Net_letsPass (17 + 2 * i) (nI x) (17 + 2 * j) (nI y) S = some (nI (if lp D i x j y then 1 else 0), S) := by
  have w5 := hw.1
  have n1 := hn.2.1
  have b1 := cx_le (D := D) (i := i) (x := x)
  have b2 := cx_le (D := D) (i := j) (x := y)
  rw [f_Net_letsPass_eq (isW_i (by omega)) (isW_i (by omega))]
  simp (disch := omega) only [cw_carries h hw hi, cw_carries h hw hj, cn_lp1 h hn hw hi hj, h.dbl, k_Net_letsPass_49_eq, zL0, zL1, zL2, zL3, zL4, zL5, zL6, zL7, zL8, zL9, zL10, zL12, zL20, zL30, zL31, zL32, zL44, zL48, zL49, zL50, zL56, zL59, zL60, zL61, zL64, zL65, zL97, zL99, zL100, zL101, zL102, zL103, zL104, zL111, zL119, zL126, zL255, zL512, zL617, zL65535, zL65536, zL1048576, zlt, zle, zeq, ztn, zin, zzb, zadd, zmul, zm_lt, zm_gt, zm_le, zm_ge, zm_eq, zm_eq', zm_in, if_pos, if_neg, bI_s, bJ_s, bA_s, bU_s, if_true, if_false, reduceIte, or_true, true_or, or_false, false_or, and_true, true_and, and_false, false_and, not_true_eq_false, not_false_eq_true, Nat.reduceEqDiff, Nat.zero_ne_one, Nat.one_ne_zero, lp_iff]
  repeat' split
  all_goals first | rfl | (exfalso; omega)
theorem ct_mayPass (h : RC D S) (hn : okN D) (hw : okW D) {i j : Nat} (hi : i < D 55 7) (hj : j < D 55 7) : f_Town_mayPass 14 (nI i) (nI j) S = some (nI (if mp D i j then 1 else 0), S) := by
  have w5 := hw.1
  have wi := hw.2 i hi
  have wj := hw.2 j hj
  rw [f_Town_mayPass_eq isT_14, ct_at h.w w5 hi, bA_s, ct_at h.w w5 hj, bA_s]
  show k_Town_mayPass_19 (17 + 2 * i) (some (17 + 2 * j)) S = _
  rw [k_Town_mayPass_19_eq (isW_i (by omega))]
  show k_Town_mayPass_24 (17 + 2 * i) (17 + 2 * j) S = _
  rw [k_Town_mayPass_24_eq (isW_i (by omega)) (isW_i (by omega)), h.load i hi, h.load j hj, cn_letsPass h hn hw hi hj (by omega) (by omega), lp_mp]
  cases lp D i (D 62 i) j (D 62 j)
  · simp (disch := omega) only [k_Town_mayPass_45_eq, k_Town_mayPass_50_eq, zL0, zL1, zL2, zL3, zL4, zL5, zL6, zL7, zL8, zL9, zL10, zL12, zL20, zL30, zL31, zL32, zL44, zL48, zL49, zL50, zL56, zL59, zL60, zL61, zL64, zL65, zL97, zL99, zL100, zL101, zL102, zL103, zL104, zL111, zL119, zL126, zL255, zL512, zL617, zL65535, zL65536, zL1048576, zlt, zle, zeq, ztn, zin, zzb, zadd, zmul, zm_lt, zm_gt, zm_le, zm_ge, zm_eq, zm_eq', zm_in, if_pos, if_neg, bI_s, bJ_s, bA_s, bU_s, if_true, if_false, reduceIte, or_true, true_or, or_false, false_or, and_true, true_and, and_false, false_and, not_true_eq_false, not_false_eq_true, Nat.reduceEqDiff, Nat.zero_ne_one, Nat.one_ne_zero, Bool.false_eq_true]
  · simp (disch := omega) only [k_Town_mayPass_45_eq, k_Town_mayPass_50_eq, zL0, zL1, zL2, zL3, zL4, zL5, zL6, zL7, zL8, zL9, zL10, zL12, zL20, zL30, zL31, zL32, zL44, zL48, zL49, zL50, zL56, zL59, zL60, zL61, zL64, zL65, zL97, zL99, zL100, zL101, zL102, zL103, zL104, zL111, zL119, zL126, zL255, zL512, zL617, zL65535, zL65536, zL1048576, zlt, zle, zeq, ztn, zin, zzb, zadd, zmul, zm_lt, zm_gt, zm_le, zm_ge, zm_eq, zm_eq', zm_in, if_pos, if_neg, bI_s, bJ_s, bA_s, bU_s, if_true, if_false, reduceIte, or_true, true_or, or_false, false_or, and_true, true_and, and_false, false_and, not_true_eq_false, not_false_eq_true, Nat.reduceEqDiff, Nat.zero_ne_one, Nat.one_ne_zero]
theorem ct_mayPass0 (h : RC D S) (hw : okW D) {i j : Nat} (hi : i < 2147483648) (hj : j < 2147483648) (hn : ¬ (i < D 55 7 ∧ j < D 55 7)) : f_Town_mayPass 14 (nI i) (nI j) S = some (nI 1, S) := by
  have w5 := hw.1
  rw [f_Town_mayPass_eq isT_14]
  by_cases c : i < D 55 7
  · rw [ct_at h.w w5 c, bA_s, ct_at0 h.w w5 (by omega) hj, bA_s]
    show k_Town_mayPass_19 (17 + 2 * i) none S = _
    rw [k_Town_mayPass_19_eq (isW_i (by omega))]
    show k_Town_mayPass_45 S = _
    simp (disch := omega) only [k_Town_mayPass_45_eq, k_Town_mayPass_50_eq, zL0, zL1, zL2, zL3, zL4, zL5, zL6, zL7, zL8, zL9, zL10, zL12, zL20, zL30, zL31, zL32, zL44, zL48, zL49, zL50, zL56, zL59, zL60, zL61, zL64, zL65, zL97, zL99, zL100, zL101, zL102, zL103, zL104, zL111, zL119, zL126, zL255, zL512, zL617, zL65535, zL65536, zL1048576, zlt, zle, zeq, ztn, zin, zzb, zadd, zmul, zm_lt, zm_gt, zm_le, zm_ge, zm_eq, zm_eq', zm_in, if_pos, if_neg, bI_s, bJ_s, bA_s, bU_s, if_true, if_false, reduceIte, or_true, true_or, or_false, false_or, and_true, true_and, and_false, false_and, not_true_eq_false, not_false_eq_true, Nat.reduceEqDiff, Nat.zero_ne_one, Nat.one_ne_zero]
  · rw [ct_at0 h.w w5 (by omega) hi, bA_s]
    by_cases d : j < D 55 7
    · rw [ct_at h.w w5 d, bA_s]
      show k_Town_mayPass_45 S = _
      simp (disch := omega) only [k_Town_mayPass_45_eq, k_Town_mayPass_50_eq, zL0, zL1, zL2, zL3, zL4, zL5, zL6, zL7, zL8, zL9, zL10, zL12, zL20, zL30, zL31, zL32, zL44, zL48, zL49, zL50, zL56, zL59, zL60, zL61, zL64, zL65, zL97, zL99, zL100, zL101, zL102, zL103, zL104, zL111, zL119, zL126, zL255, zL512, zL617, zL65535, zL65536, zL1048576, zlt, zle, zeq, ztn, zin, zzb, zadd, zmul, zm_lt, zm_gt, zm_le, zm_ge, zm_eq, zm_eq', zm_in, if_pos, if_neg, bI_s, bJ_s, bA_s, bU_s, if_true, if_false, reduceIte, or_true, true_or, or_false, false_or, and_true, true_and, and_false, false_and, not_true_eq_false, not_false_eq_true, Nat.reduceEqDiff, Nat.zero_ne_one, Nat.one_ne_zero]
    · rw [ct_at0 h.w w5 (by omega) hj, bA_s]
      show k_Town_mayPass_45 S = _
      simp (disch := omega) only [k_Town_mayPass_45_eq, k_Town_mayPass_50_eq, zL0, zL1, zL2, zL3, zL4, zL5, zL6, zL7, zL8, zL9, zL10, zL12, zL20, zL30, zL31, zL32, zL44, zL48, zL49, zL50, zL56, zL59, zL60, zL61, zL64, zL65, zL97, zL99, zL100, zL101, zL102, zL103, zL104, zL111, zL119, zL126, zL255, zL512, zL617, zL65535, zL65536, zL1048576, zlt, zle, zeq, ztn, zin, zzb, zadd, zmul, zm_lt, zm_gt, zm_le, zm_ge, zm_eq, zm_eq', zm_in, if_pos, if_neg, bI_s, bJ_s, bA_s, bU_s, if_true, if_false, reduceIte, or_true, true_or, or_false, false_or, and_true, true_and, and_false, false_and, not_true_eq_false, not_false_eq_true, Nat.reduceEqDiff, Nat.zero_ne_one, Nat.one_ne_zero]
theorem cn_isNarrow (h : RC D S) (hn : okN D) {a b : Nat} (ha : a < 8) (hb : b < 8) : f_Net_isNarrow (nI a) (nI b) (-nI 1) S = some (nI (if nar D a b then 1 else 0), S) := by
  rw [f_Net_isNarrow_eq]
  unfold nar
  have e1 := h.btw a b ha hb
  cases e : ln D a b with
  | none =>
    rw [e] at e1
    simp (disch := omega) only [k_Net_isNarrow_26_eq, k_Net_isNarrow_73_eq, k_Net_isNarrow_74_eq, zL0, zL1, zL2, zL3, zL4, zL5, zL6, zL7, zL8, zL9, zL10, zL12, zL20, zL30, zL31, zL32, zL44, zL48, zL49, zL50, zL56, zL59, zL60, zL61, zL64, zL65, zL97, zL99, zL100, zL101, zL102, zL103, zL104, zL111, zL119, zL126, zL255, zL512, zL617, zL65535, zL65536, zL1048576, zlt, zle, zeq, ztn, zin, zzb, zadd, zmul, zm_lt, zm_gt, zm_le, zm_ge, zm_eq, zm_eq', zm_in, if_pos, if_neg, bI_s, bJ_s, bA_s, bU_s, if_true, if_false, reduceIte, or_true, true_or, or_false, false_or, and_true, true_and, and_false, false_and, not_true_eq_false, not_false_eq_true, Nat.reduceEqDiff, Nat.zero_ne_one, Nat.one_ne_zero, e1, eo, Bool.false_eq_true, zL0]
  | some q =>
    rw [e] at e1
    have hq := ln_lt hn e
    have hq2 := ln_some e
    by_cases c : D 58 q = 0
    · simp (disch := omega) only [k_Net_isNarrow_26_eq, k_Net_isNarrow_73_eq, k_Net_isNarrow_74_eq, zL0, zL1, zL2, zL3, zL4, zL5, zL6, zL7, zL8, zL9, zL10, zL12, zL20, zL30, zL31, zL32, zL44, zL48, zL49, zL50, zL56, zL59, zL60, zL61, zL64, zL65, zL97, zL99, zL100, zL101, zL102, zL103, zL104, zL111, zL119, zL126, zL255, zL512, zL617, zL65535, zL65536, zL1048576, zlt, zle, zeq, ztn, zin, zzb, zadd, zmul, zm_lt, zm_gt, zm_le, zm_ge, zm_eq, zm_eq', zm_in, if_pos, if_neg, bI_s, bJ_s, bA_s, bU_s, if_true, if_false, reduceIte, or_true, true_or, or_false, false_or, and_true, true_and, and_false, false_and, not_true_eq_false, not_false_eq_true, Nat.reduceEqDiff, Nat.zero_ne_one, Nat.one_ne_zero, e1, eo, h.wide, decide_eq_true c]
    · simp (disch := omega) only [k_Net_isNarrow_26_eq, k_Net_isNarrow_73_eq, k_Net_isNarrow_74_eq, zL0, zL1, zL2, zL3, zL4, zL5, zL6, zL7, zL8, zL9, zL10, zL12, zL20, zL30, zL31, zL32, zL44, zL48, zL49, zL50, zL56, zL59, zL60, zL61, zL64, zL65, zL97, zL99, zL100, zL101, zL102, zL103, zL104, zL111, zL119, zL126, zL255, zL512, zL617, zL65535, zL65536, zL1048576, zlt, zle, zeq, ztn, zin, zzb, zadd, zmul, zm_lt, zm_gt, zm_le, zm_ge, zm_eq, zm_eq', zm_in, if_pos, if_neg, bI_s, bJ_s, bA_s, bU_s, if_true, if_false, reduceIte, or_true, true_or, or_false, false_or, and_true, true_and, and_false, false_and, not_true_eq_false, not_false_eq_true, Nat.reduceEqDiff, Nat.zero_ne_one, Nat.one_ne_zero, e1, eo, h.wide, decide_eq_false c, Bool.false_eq_true]
theorem cn_joins (h : RC D S) (hn : okN D) {a b : Nat} (ha : a < 8) (hb : b < 8) : f_Net_joins (nI a) (nI b) S = some (nI (if adj D a b then 1 else 0), S) := by
  rw [f_Net_joins_eq]
  unfold adj
  have e1 := h.btw a b ha hb
  cases e : ln D a b with
  | none =>
    rw [e] at e1
    simp (disch := omega) only [ct_isCorner, k_Net_joins_33_eq, k_Net_joins_34_eq, zL0, zL1, zL2, zL3, zL4, zL5, zL6, zL7, zL8, zL9, zL10, zL12, zL20, zL30, zL31, zL32, zL44, zL48, zL49, zL50, zL56, zL59, zL60, zL61, zL64, zL65, zL97, zL99, zL100, zL101, zL102, zL103, zL104, zL111, zL119, zL126, zL255, zL512, zL617, zL65535, zL65536, zL1048576, zlt, zle, zeq, ztn, zin, zzb, zadd, zmul, zm_lt, zm_gt, zm_le, zm_ge, zm_eq, zm_eq', zm_in, if_pos, if_neg, bI_s, bJ_s, bA_s, bU_s, if_true, if_false, reduceIte, or_true, true_or, or_false, false_or, and_true, true_and, and_false, false_and, not_true_eq_false, not_false_eq_true, Nat.reduceEqDiff, Nat.zero_ne_one, Nat.one_ne_zero, e1, eo, Option.isSome_none, Bool.false_eq_true]
  | some q =>
    rw [e] at e1
    have hq := ln_lt hn e
    simp (disch := omega) only [ct_isCorner, k_Net_joins_33_eq, k_Net_joins_34_eq, zL0, zL1, zL2, zL3, zL4, zL5, zL6, zL7, zL8, zL9, zL10, zL12, zL20, zL30, zL31, zL32, zL44, zL48, zL49, zL50, zL56, zL59, zL60, zL61, zL64, zL65, zL97, zL99, zL100, zL101, zL102, zL103, zL104, zL111, zL119, zL126, zL255, zL512, zL617, zL65535, zL65536, zL1048576, zlt, zle, zeq, ztn, zin, zzb, zadd, zmul, zm_lt, zm_gt, zm_le, zm_ge, zm_eq, zm_eq', zm_in, if_pos, if_neg, bI_s, bJ_s, bA_s, bU_s, if_true, if_false, reduceIte, or_true, true_or, or_false, false_or, and_true, true_and, and_false, false_and, not_true_eq_false, not_false_eq_true, Nat.reduceEqDiff, Nat.zero_ne_one, Nat.one_ne_zero, e1, eo, Option.isSome_some]
theorem cw_cornerBehind (h : RC D S) (hw : okW D) {i k : Nat} (hi : i < D 55 7) (hk : k < 1000) : f_Walker_cornerBehind (17 + 2 * i) (nI k) S = some (if k < D 64 i then nI (D 63 (20 * i + k)) else -nI 1, S) := by
  have w5 := hw.1
  have wi := hw.2 i hi
  rw [f_Walker_cornerBehind_eq (isW_i (by omega))]
  by_cases c : k < D 64 i
  · have e := h.way i k hi c
    rw [show 18 + 2 * i = 17 + 2 * i + 1 by omega] at e
    simp (disch := omega) only [h.wl, k_Walker_cornerBehind_27_eq, k_Walker_cornerBehind_28_eq, zL0, zL1, zL2, zL3, zL4, zL5, zL6, zL7, zL8, zL9, zL10, zL12, zL20, zL30, zL31, zL32, zL44, zL48, zL49, zL50, zL56, zL59, zL60, zL61, zL64, zL65, zL97, zL99, zL100, zL101, zL102, zL103, zL104, zL111, zL119, zL126, zL255, zL512, zL617, zL65535, zL65536, zL1048576, zlt, zle, zeq, ztn, zin, zzb, zadd, zmul, zm_lt, zm_gt, zm_le, zm_ge, zm_eq, zm_eq', zm_in, if_pos, if_neg, bI_s, bJ_s, bA_s, bU_s, if_true, if_false, reduceIte, or_true, true_or, or_false, false_or, and_true, true_and, and_false, false_and, not_true_eq_false, not_false_eq_true, Nat.reduceEqDiff, Nat.zero_ne_one, Nat.one_ne_zero, e]
  · simp (disch := omega) only [h.wl, k_Walker_cornerBehind_27_eq, k_Walker_cornerBehind_28_eq, zL0, zL1, zL2, zL3, zL4, zL5, zL6, zL7, zL8, zL9, zL10, zL12, zL20, zL30, zL31, zL32, zL44, zL48, zL49, zL50, zL56, zL59, zL60, zL61, zL64, zL65, zL97, zL99, zL100, zL101, zL102, zL103, zL104, zL111, zL119, zL126, zL255, zL512, zL617, zL65535, zL65536, zL1048576, zlt, zle, zeq, ztn, zin, zzb, zadd, zmul, zm_lt, zm_gt, zm_le, zm_ge, zm_eq, zm_eq', zm_in, if_pos, if_neg, bI_s, bJ_s, bA_s, bU_s, if_true, if_false, reduceIte, or_true, true_or, or_false, false_or, and_true, true_and, and_false, false_and, not_true_eq_false, not_false_eq_true, Nat.reduceEqDiff, Nat.zero_ne_one, Nat.one_ne_zero]
end CLS
