/-! DIGEST: one number of all -/
def hmx (h : Int64) (v : Int32) : Int64 := 31 * h + v.toInt64
def hSq (f : Nat → Int32) : Nat → Int64 → Int64
  | 0, h => h
  | n + 1, h => hmx (hSq f n h) (f n)
def lnv (D : DD) (x y : Nat) : Int32 := if y = 0 then nI (D 56 x) else if y = 1 then nI (D 57 x) else nI (D 58 x)
def hLan (D : DD) : Nat → Int64 → Int64
  | 0, h => h
  | n + 1, h => hSq (lnv D n) 3 (hLan D n h)
def hP (D : DD) (i : Nat) : Nat → Int64 → Int64
  | 0, h => h
  | j + 1, h => if j = i then hP D i j h else hmx (hP D i j h) (nI (if mp D i j then 1 else 0))
def hWk (D : DD) (i : Nat) (h : Int64) : Int64 := hmx (hP D i (D 55 7) (hSq (ab D i) 7 h)) (en D i)
def hWs (D : DD) : Nat → Int64 → Int64
  | 0, h => h
  | n + 1, h => hWk D n (hWs D n h)
def hHp (D : DD) (h : Int64) : Int64 := if D 55 6 = 0 then h else hSq (fun k => nI (D 66 k)) 8 h
def ms (n : Nat) : Nat := if 3 < n then 7 else 2 ^ n - 1
def d5 (D : DD) : Int64 := hSq (hw D) 10 (hSq (fun k => nI (D 67 k)) (D 55 18) (hmx (hSq (fun k => fiR k (fo (qs 31) (mp D) 60 1 D)) 3 (hHp D (hWs D (D 55 7) (hLan D (D 55 0) 617)))) (nI (fitsN D (ms (D 55 7))))))
theorem zle0 {n : Nat} (hn : n < 2147483648) (h : nI n ≤ nI 0) : n = 0 := by
  rw [zle hn (by omega)] at h; omega
theorem ms_lt : ∀ n, n ≤ 5 → ms n < 2 ^ n ∧ bc (ms n) 5 ≤ 3 := by
  intro n hn
  match n, hn with
  | 0, _ => exact ⟨by decide, by decide⟩
  | 1, _ => exact ⟨by decide, by decide⟩
  | 2, _ => exact ⟨by decide, by decide⟩
  | 3, _ => exact ⟨by decide, by decide⟩
  | 4, _ => exact ⟨by decide, by decide⟩
  | 5, _ => exact ⟨by decide, by decide⟩
  | n + 6, h => omega
section DIG
variable {D : DD} {S : Mem}
theorem ct_laneV (hd : okD D) (hr : RC D S) {n k : Nat} (c1 : n < D 55 0) (hk : k < 3) : f_Top_lane (nI n) (nI k) S = some (lnv D n k, S) := by
  have n12 := hd.1.1
  have hl := hd.1.2.2.2.1 n c1
  rw [f_Top_lane_eq]
  unfold lnv
  by_cases k0 : k = 0
  · simp (disch := omega) only [hr.lanes, hr.la, zL0, zL1, zL2, zL3, zL4, zL5, zL6, zL7, zL8, zL9, zL10, zL12, zL20, zL30, zL31, zL32, zL44, zL48, zL49, zL50, zL56, zL59, zL60, zL61, zL64, zL65, zL97, zL99, zL100, zL101, zL102, zL103, zL104, zL111, zL119, zL126, zL255, zL512, zL617, zL65535, zL65536, zL1048576, zlt, zle, zeq, ztn, zin, zzb, zadd, zmul, zm_lt, zm_gt, zm_le, zm_ge, zm_eq, zm_eq', zm_in, if_pos, if_neg, bI_s, bJ_s, bA_s, bU_s, if_true, if_false, reduceIte, or_true, true_or, or_false, false_or, and_true, true_and, and_false, false_and, not_true_eq_false, not_false_eq_true, Nat.reduceEqDiff, Nat.zero_ne_one, Nat.one_ne_zero]
  · by_cases k1 : k = 1
    · simp (disch := omega) only [hr.lanes, hr.lb, zL0, zL1, zL2, zL3, zL4, zL5, zL6, zL7, zL8, zL9, zL10, zL12, zL20, zL30, zL31, zL32, zL44, zL48, zL49, zL50, zL56, zL59, zL60, zL61, zL64, zL65, zL97, zL99, zL100, zL101, zL102, zL103, zL104, zL111, zL119, zL126, zL255, zL512, zL617, zL65535, zL65536, zL1048576, zlt, zle, zeq, ztn, zin, zzb, zadd, zmul, zm_lt, zm_gt, zm_le, zm_ge, zm_eq, zm_eq', zm_in, if_pos, if_neg, bI_s, bJ_s, bA_s, bU_s, if_true, if_false, reduceIte, or_true, true_or, or_false, false_or, and_true, true_and, and_false, false_and, not_true_eq_false, not_false_eq_true, Nat.reduceEqDiff, Nat.zero_ne_one, Nat.one_ne_zero]
    · by_cases w0 : D 58 n = 0
      · simp (disch := omega) only [hr.lanes, hr.wide, zL0, zL1, zL2, zL3, zL4, zL5, zL6, zL7, zL8, zL9, zL10, zL12, zL20, zL30, zL31, zL32, zL44, zL48, zL49, zL50, zL56, zL59, zL60, zL61, zL64, zL65, zL97, zL99, zL100, zL101, zL102, zL103, zL104, zL111, zL119, zL126, zL255, zL512, zL617, zL65535, zL65536, zL1048576, zlt, zle, zeq, ztn, zin, zzb, zadd, zmul, zm_lt, zm_gt, zm_le, zm_ge, zm_eq, zm_eq', zm_in, if_pos, if_neg, bI_s, bJ_s, bA_s, bU_s, if_true, if_false, reduceIte, or_true, true_or, or_false, false_or, and_true, true_and, and_false, false_and, not_true_eq_false, not_false_eq_true, Nat.reduceEqDiff, Nat.zero_ne_one, Nat.one_ne_zero, k_Top_lane_81_eq, w0]
      · have w1 : D 58 n = 1 := by omega
        simp (disch := omega) only [hr.lanes, hr.wide, zL0, zL1, zL2, zL3, zL4, zL5, zL6, zL7, zL8, zL9, zL10, zL12, zL20, zL30, zL31, zL32, zL44, zL48, zL49, zL50, zL56, zL59, zL60, zL61, zL64, zL65, zL97, zL99, zL100, zL101, zL102, zL103, zL104, zL111, zL119, zL126, zL255, zL512, zL617, zL65535, zL65536, zL1048576, zlt, zle, zeq, ztn, zin, zzb, zadd, zmul, zm_lt, zm_gt, zm_le, zm_ge, zm_eq, zm_eq', zm_in, if_pos, if_neg, bI_s, bJ_s, bA_s, bU_s, if_true, if_false, reduceIte, or_true, true_or, or_false, false_or, and_true, true_and, and_false, false_and, not_true_eq_false, not_false_eq_true, Nat.reduceEqDiff, Nat.zero_ne_one, Nat.one_ne_zero, k_Top_lane_81_eq, w1]
theorem mo_laneV (hd : okD D) (hm : RM D S) {n k : Nat} (c1 : n < D 55 0) (hk : k < 3) : f_Mod_laneNow (nI n) (nI k) S = some (lnv D n k, S) := by
  have n12 := hd.1.1
  have hl := hd.1.2.2.2.1 n c1
  rw [f_Mod_laneNow_eq]
  unfold lnv
  by_cases k0 : k = 0
  · simp (disch := omega) only [hm.r, zL0, zL1, zL2, zL3, zL4, zL5, zL6, zL7, zL8, zL9, zL10, zL12, zL20, zL30, zL31, zL32, zL44, zL48, zL49, zL50, zL56, zL59, zL60, zL61, zL64, zL65, zL97, zL99, zL100, zL101, zL102, zL103, zL104, zL111, zL119, zL126, zL255, zL512, zL617, zL65535, zL65536, zL1048576, zlt, zle, zeq, ztn, zin, zzb, zadd, zmul, zm_lt, zm_gt, zm_le, zm_ge, zm_eq, zm_eq', zm_in, if_pos, if_neg, bI_s, bJ_s, bA_s, bU_s, if_true, if_false, reduceIte, or_true, true_or, or_false, false_or, and_true, true_and, and_false, false_and, not_true_eq_false, not_false_eq_true, Nat.reduceEqDiff, Nat.zero_ne_one, Nat.one_ne_zero, k_Mod_laneNow_41_eq]
  · by_cases k1 : k = 1
    · simp (disch := omega) only [hm.r, zL0, zL1, zL2, zL3, zL4, zL5, zL6, zL7, zL8, zL9, zL10, zL12, zL20, zL30, zL31, zL32, zL44, zL48, zL49, zL50, zL56, zL59, zL60, zL61, zL64, zL65, zL97, zL99, zL100, zL101, zL102, zL103, zL104, zL111, zL119, zL126, zL255, zL512, zL617, zL65535, zL65536, zL1048576, zlt, zle, zeq, ztn, zin, zzb, zadd, zmul, zm_lt, zm_gt, zm_le, zm_ge, zm_eq, zm_eq', zm_in, if_pos, if_neg, bI_s, bJ_s, bA_s, bU_s, if_true, if_false, reduceIte, or_true, true_or, or_false, false_or, and_true, true_and, and_false, false_and, not_true_eq_false, not_false_eq_true, Nat.reduceEqDiff, Nat.zero_ne_one, Nat.one_ne_zero, k_Mod_laneNow_41_eq]
    · by_cases w0 : D 58 n = 0
      · simp (disch := omega) only [hm.r, zL0, zL1, zL2, zL3, zL4, zL5, zL6, zL7, zL8, zL9, zL10, zL12, zL20, zL30, zL31, zL32, zL44, zL48, zL49, zL50, zL56, zL59, zL60, zL61, zL64, zL65, zL97, zL99, zL100, zL101, zL102, zL103, zL104, zL111, zL119, zL126, zL255, zL512, zL617, zL65535, zL65536, zL1048576, zlt, zle, zeq, ztn, zin, zzb, zadd, zmul, zm_lt, zm_gt, zm_le, zm_ge, zm_eq, zm_eq', zm_in, if_pos, if_neg, bI_s, bJ_s, bA_s, bU_s, if_true, if_false, reduceIte, or_true, true_or, or_false, false_or, and_true, true_and, and_false, false_and, not_true_eq_false, not_false_eq_true, Nat.reduceEqDiff, Nat.zero_ne_one, Nat.one_ne_zero, k_Mod_laneNow_41_eq, w0]
      · have w1 : D 58 n = 1 := by omega
        simp (disch := omega) only [hm.r, zL0, zL1, zL2, zL3, zL4, zL5, zL6, zL7, zL8, zL9, zL10, zL12, zL20, zL30, zL31, zL32, zL44, zL48, zL49, zL50, zL56, zL59, zL60, zL61, zL64, zL65, zL97, zL99, zL100, zL101, zL102, zL103, zL104, zL111, zL119, zL126, zL255, zL512, zL617, zL65535, zL65536, zL1048576, zlt, zle, zeq, ztn, zin, zzb, zadd, zmul, zm_lt, zm_gt, zm_le, zm_ge, zm_eq, zm_eq', zm_in, if_pos, if_neg, bI_s, bJ_s, bA_s, bU_s, if_true, if_false, reduceIte, or_true, true_or, or_false, false_or, and_true, true_and, and_false, false_and, not_true_eq_false, not_false_eq_true, Nat.reduceEqDiff, Nat.zero_ne_one, Nat.one_ne_zero, k_Mod_laneNow_41_eq, w1]
theorem ct_aboutV (hd : okD D) (hr : RC D S) {i k : Nat} (hi : i < D 55 7) (hk : k ≤ 6) : f_Top_about (nI i) (nI k) S = some (ab D i k, S) := by
  have w5 := hd.2.1.1
  rw [f_Top_about_eq, ct_at hr.w w5 hi]
  simp (disch := omega) only [oc, zL0, zL1, zL2, zL3, zL4, zL5, zL6, zL7, zL8, zL9, zL10, zL12, zL20, zL30, zL31, zL32, zL44, zL48, zL49, zL50, zL56, zL59, zL60, zL61, zL64, zL65, zL97, zL99, zL100, zL101, zL102, zL103, zL104, zL111, zL119, zL126, zL255, zL512, zL617, zL65535, zL65536, zL1048576, zlt, zle, zeq, ztn, zin, zzb, zadd, zmul, zm_lt, zm_gt, zm_le, zm_ge, zm_eq, zm_eq', zm_in, if_pos, if_neg, bI_s, bJ_s, bA_s, bU_s, if_true, if_false, reduceIte, or_true, true_or, or_false, false_or, and_true, true_and, and_false, false_and, not_true_eq_false, not_false_eq_true, Nat.reduceEqDiff, Nat.zero_ne_one, Nat.one_ne_zero, ct_about hd hr hi hk]
theorem ct_passV (hd : okD D) (hr : RC D S) {i j : Nat} (hi : i < D 55 7) (hj : j < D 55 7) (hij : i ≠ j) : f_Top_pass (nI i) (nI j) S = some (nI (if mp D i j then 1 else 0), S) := by
  have w5 := hd.2.1.1
  have p1 := ct_mayPass hr hd.1 hd.2.1 hi hj
  rw [f_Top_pass_eq, ct_at hr.w w5 hi]
  cases cp : mp D i j
  · rw [cp] at p1
    simp (disch := omega) only [ct_at hr.w w5 hj, oc, zL0, zL1, zL2, zL3, zL4, zL5, zL6, zL7, zL8, zL9, zL10, zL12, zL20, zL30, zL31, zL32, zL44, zL48, zL49, zL50, zL56, zL59, zL60, zL61, zL64, zL65, zL97, zL99, zL100, zL101, zL102, zL103, zL104, zL111, zL119, zL126, zL255, zL512, zL617, zL65535, zL65536, zL1048576, zlt, zle, zeq, ztn, zin, zzb, zadd, zmul, zm_lt, zm_gt, zm_le, zm_ge, zm_eq, zm_eq', zm_in, if_pos, if_neg, bI_s, bJ_s, bA_s, bU_s, if_true, if_false, reduceIte, or_true, true_or, or_false, false_or, and_true, true_and, and_false, false_and, not_true_eq_false, not_false_eq_true, Nat.reduceEqDiff, Nat.zero_ne_one, Nat.one_ne_zero, k_Top_pass_11_eq, k_Top_pass_22_eq, k_Top_pass_27_eq, p1, k_Top_pass_51_eq, Bool.false_eq_true]
  · rw [cp] at p1
    simp (disch := omega) only [ct_at hr.w w5 hj, oc, zL0, zL1, zL2, zL3, zL4, zL5, zL6, zL7, zL8, zL9, zL10, zL12, zL20, zL30, zL31, zL32, zL44, zL48, zL49, zL50, zL56, zL59, zL60, zL61, zL64, zL65, zL97, zL99, zL100, zL101, zL102, zL103, zL104, zL111, zL119, zL126, zL255, zL512, zL617, zL65535, zL65536, zL1048576, zlt, zle, zeq, ztn, zin, zzb, zadd, zmul, zm_lt, zm_gt, zm_le, zm_ge, zm_eq, zm_eq', zm_in, if_pos, if_neg, bI_s, bJ_s, bA_s, bU_s, if_true, if_false, reduceIte, or_true, true_or, or_false, false_or, and_true, true_and, and_false, false_and, not_true_eq_false, not_false_eq_true, Nat.reduceEqDiff, Nat.zero_ne_one, Nat.one_ne_zero, k_Top_pass_11_eq, k_Top_pass_22_eq, k_Top_pass_27_eq, p1, k_Top_pass_51_eq]
/-- the class's number -/
theorem ct_withWalker (hd : okD D) (hr : RC D S) {i : Nat} (hi : i < D 55 7) (h : Int64) : ∃ S', f_Top_withWalker h (nI i) S = some (hWk D i h, S') ∧ frC S S' := by
  have w5 := hd.2.1.1
  obtain ⟨S1, e1, q1⟩ := zfor (fun k T => k_Top_withWalker_6 (nI i) (hSq (ab D i) k h) (nI k) T) 7 (fun _ T => T = S) (by
    intro k T hk e
    have e' : T = S := e
    refine ⟨S, ?_, rfl⟩
    have ea := ct_aboutV hd hr hi (k := k) (by omega)
    show k_Top_withWalker_6 _ _ _ _ = _
    rw [e', k_Top_withWalker_6_eq, zL6, zL1, if_neg (by rw [zlt (by omega) (by omega)]; omega), ea, bI_s, zadd]
    rfl) 7 0 S rfl rfl
  have q1' : S1 = S := q1
  rw [q1'] at e1
  obtain ⟨h1, eh1⟩ : ∃ h1, h1 = hSq (ab D i) 7 h := ⟨_, rfl⟩
  obtain ⟨S2, e2, q2⟩ := zfor (fun j T => k_Top_withWalker_39 (nI i) (hP D i j h1) (nI j) T) (D 55 7) (fun _ T => T = S) (by
    intro j T hj e
    have e' : T = S := e
    refine ⟨S, ?_, rfl⟩
    have hw := hr.w
    show k_Top_withWalker_39 _ _ _ _ = k_Top_withWalker_39 _ (if j = i then hP D i j h1 else hmx (hP D i j h1) (nI (if mp D i j then 1 else 0))) _ _
    rw [e', k_Top_withWalker_39_eq, hw, if_neg (by rw [zle (by omega) (by omega)]; omega)]
    by_cases c : j = i
    · rw [if_pos (by rw [c]), if_pos c, k_Top_withWalker_74_eq, zL1, zadd]
    · rw [if_neg (by rw [zeq (by omega) (by omega)]; exact c), if_neg c, ct_passV hd hr hi hj (by omega), bI_s, k_Top_withWalker_74_eq, zL1, zadd]
      rfl) (D 55 7) 0 S (by omega) rfl
  have q2' : S2 = S := q2
  rw [q2'] at e2
  obtain ⟨S3, e3, f3⟩ := cl_least hd hi hr
  refine ⟨S3, ?_, f3⟩
  have e1' : k_Top_withWalker_6 (nI i) h (nI 0) S = k_Top_withWalker_6 (nI i) (hSq (ab D i) 7 h) (nI 7) S := e1
  have e2' : k_Top_withWalker_39 (nI i) h1 (nI 0) S = k_Top_withWalker_39 (nI i) (hP D i (D 55 7) h1) (nI (D 55 7)) S := e2
  have hw := hr.w
  rw [f_Top_withWalker_eq, zL0, e1', ← eh1, k_Top_withWalker_6_eq, zL6, zL0, if_pos (by rw [zlt (by omega) (by omega)]; omega), e2', k_Top_withWalker_39_eq, hw, if_pos (by rw [zle (by omega) (by omega)]; exact Nat.le_refl _), e3, bI_s]
  unfold hWk
  rw [← eh1]
  rfl
theorem ms_eq : ∀ n, n ≤ 5 → ((1 : Int32) <<< ((if (3 : Int32) < nI n then (3 : Int32) else nI n) &&& 31)) - 1 = nI (ms n) := by
  intro n hn
  match n, hn with
  | 0, _ => decide +kernel
  | 1, _ => decide +kernel
  | 2, _ => decide +kernel
  | 3, _ => decide +kernel
  | 4, _ => decide +kernel
  | 5, _ => decide +kernel
  | n + 6, h => omega
theorem ms_eq2 : ∀ n, n ≤ 5 → (if nI 3 ≤ nI n then ((1 : Int32) <<< (nI 3 &&& 31)) - 1 else ((1 : Int32) <<< (nI n &&& 31)) - 1) = nI (ms n) := by
  intro n hn
  match n, hn with
  | 0, _ => decide +kernel
  | 1, _ => decide +kernel
  | 2, _ => decide +kernel
  | 3, _ => decide +kernel
  | 4, _ => decide +kernel
  | 5, _ => decide +kernel
  | n + 6, h => omega
theorem ct_dg1 (hd : okD D) (hr : RC D S) (h : Int64) : k_Top_digest_6 h (nI 0) S = k_Top_digest_55 (hLan D (D 55 0) h) (nI 0) S := by
  have n12 := hd.1.1
  have r3 := hr.lanes
  obtain ⟨S1, e1, q1⟩ := zfor (fun k T => k_Top_digest_6 (hLan D k h) (nI k) T) (D 55 0) (fun _ T => T = S) (by
    intro k T hk e
    have e' : T = S := e
    refine ⟨S, ?_, rfl⟩
    have l0 := ct_laneV hd hr (k := 0) hk (by omega)
    have l1 := ct_laneV hd hr (k := 1) hk (by omega)
    have l2 := ct_laneV hd hr (k := 2) hk (by omega)
    show k_Top_digest_6 _ _ _ = _
    rw [e', k_Top_digest_6_eq, r3, if_neg (by rw [zle (by omega) (by omega)]; omega), zL0, k_Top_digest_20_eq, zL2, if_neg (by rw [zlt (by omega) (by omega)]; omega), l0, bI_s, zL1, zadd, k_Top_digest_20_eq, zL2, if_neg (by rw [zlt (by omega) (by omega)]; omega), l1, bI_s, zL1, zadd, k_Top_digest_20_eq, zL2, if_neg (by rw [zlt (by omega) (by omega)]; omega), l2, bI_s, zL1, zadd, k_Top_digest_20_eq, zL2, if_pos (by rw [zlt (by omega) (by omega)]; omega), zL1, zadd]
    rfl) (D 55 0) 0 S (by omega) rfl
  have q1' : S1 = S := q1
  rw [q1'] at e1
  refine Eq.trans e1 ?_
  show k_Top_digest_6 _ _ _ = _
  rw [k_Top_digest_6_eq, r3, if_pos (by rw [zle (by omega) (by omega)]; exact Nat.le_refl _), zL0]
theorem ct_dg2 (hd : okD D) (hr : RC D S) (h : Int64) : ∃ S', k_Top_digest_55 h (nI 0) S = k_Top_digest_81 (hWs D (D 55 7) h) (nI 0) S' ∧ frC S S' := by
  have w5 := hd.2.1.1
  obtain ⟨S2, e2, f2⟩ := zfor (fun i T => k_Top_digest_55 (hWs D i h) (nI i) T) (D 55 7) (fun _ T => frC S T) (by
    intro i T hi f
    have hrT := RC_f hd hr f
    obtain ⟨T2, e, f'⟩ := ct_withWalker hd hrT hi (hWs D i h)
    refine ⟨T2, ?_, frC_t f f'⟩
    have hwT := hrT.w
    show k_Top_digest_55 _ _ _ = k_Top_digest_55 (hWk D i (hWs D i h)) _ _
    rw [k_Top_digest_55_eq, hwT, if_neg (by rw [zle (by omega) (by omega)]; omega), e, bJ_s, zL1, zadd]) (D 55 7) 0 S (by omega) (frC_r S)
  refine ⟨S2, Eq.trans e2 ?_, f2⟩
  have hw2 := (RC_f hd hr f2).w
  show k_Top_digest_55 _ _ _ = _
  rw [k_Top_digest_55_eq, hw2, if_pos (by rw [zle (by omega) (by omega)]; exact Nat.le_refl _), zL0]
theorem ct_dg3 (hr : RC D S) (h : Int64) : k_Top_digest_81 h (nI 0) S = k_Top_digest_117 (hHp D h) S := by
  have r8 : S.1 0 8 = nI (if D 55 6 = 0 then 0 else 1) := hr.2.2.2.2.1.1
  unfold hHp
  by_cases c : D 55 6 = 0
  · rw [if_pos c] at r8 ⊢
    rw [k_Top_digest_81_eq, r8, zL0, if_pos rfl]
  · rw [if_neg c] at r8 ⊢
    obtain ⟨S3, e3, q3⟩ := zfor (fun k T => k_Top_digest_81 (hSq (fun k => nI (D 66 k)) k h) (nI k) T) 8 (fun _ T => T = S) (by
      intro k T hk e
      have e' : T = S := e
      refine ⟨S, ?_, rfl⟩
      have r16 : S.1 (14 + 2) k = nI (D 66 k) := hr.2.2.2.1.2 k hk
      show k_Top_digest_81 _ _ _ = k_Top_digest_81 (31 * hSq (fun k => nI (D 66 k)) k h + (nI (D 66 k)).toInt64) _ _
      rw [e', k_Top_digest_81_eq, r8, zL0, zL8, if_neg (by decide), if_neg (by rw [zle (by omega) (by omega)]; omega), if_pos (by rw [zin (by omega)]; omega), ztn (by omega), r16, zL1, zadd]) 8 0 S rfl rfl
    have q3' : S3 = S := q3
    rw [q3'] at e3
    refine Eq.trans e3 ?_
    show k_Top_digest_81 _ _ _ = _
    rw [k_Top_digest_81_eq, r8, zL0, zL8, if_neg (by decide), if_pos (by rw [zle (by omega) (by omega)]; omega)]
theorem ct_dg4 (hd : okD D) (hr : RC D S) (h : Int64) : ∃ S', k_Top_digest_117 h S = k_Top_digest_175 (hmx (hSq (fun k => fiR k (fo (qs 31) (mp D) 60 1 D)) 3 h) (nI (fitsN D (ms (D 55 7))))) (nI 0) S' ∧ frC S S' := by
  have w5 := hd.2.1.1
  obtain ⟨F, hF⟩ : ∃ F, F = fun k => fiR k (fo (qs 31) (mp D) 60 1 D) := ⟨_, rfl⟩
  rw [← hF]
  obtain ⟨S4, e4, f4⟩ := zfor (fun k T => k_Top_digest_119 (hSq F k h) (nI k) T) 3 (fun _ T => frC S T) (by
    intro k T hk f
    have hrT := RC_f hd hr f
    obtain ⟨T2, e, f'⟩ := ct_first hd (what := k) (by omega) hrT
    refine ⟨T2, ?_, frC_t f (frX_C f')⟩
    have e2 : f_Top_first (nI k) T = some (F k, T2) := by rw [hF]; exact e
    show k_Top_digest_119 _ _ _ = k_Top_digest_119 (31 * hSq F k h + (F k).toInt64) _ _
    rw [k_Top_digest_119_eq, zL2, if_neg (by rw [zlt (by omega) (by omega)]; omega), e2, bI_s, zL1, zadd]) 3 0 S rfl (frC_r S)
  have hr4 := RC_f hd hr f4
  have hw4 := hr4.w
  obtain ⟨S5, e5, f5, _⟩ := cl_ways (D := D) (set := ms (D 55 7)) hd (ms_lt _ w5) hr4
  refine ⟨S5, ?_, frC_t f4 f5⟩
  rw [k_Top_digest_117_eq, zL0]
  refine Eq.trans e4 ?_
  show k_Top_digest_119 (hSq F 3 h) (nI 3) S4 = k_Top_digest_175 (31 * hSq F 3 h + (nI (fitsN D (ms (D 55 7)))).toInt64) (nI 0) S5
  rw [k_Top_digest_119_eq, zL2, if_pos (by rw [zlt (by omega) (by omega)]; omega), hw4, ms_eq _ w5, e5, bI_s, zL0]
theorem ct_dg5 (hd : okD D) (hr : RC D S) (h : Int64) : k_Top_digest_175 h (nI 0) S = some (hSq (hw D) 10 (hSq (fun k => nI (D 67 k)) (D 55 18) h), S) := by
  have p50 := hd.2.2.1.1
  have r11 : S.1 1 1 = nI (D 55 18) := hr.1.1
  obtain ⟨P, hP_⟩ : ∃ P : Nat → Int32, P = fun k => nI (D 67 k) := ⟨_, rfl⟩
  rw [← hP_]
  obtain ⟨S6, e6, q6⟩ := zfor (fun k T => k_Top_digest_175 (hSq P k h) (nI k) T) (D 55 18) (fun _ T => T = S) (by
    intro k T hk e
    have e' : T = S := e
    refine ⟨S, ?_, rfl⟩
    have ea : f_Page_at (nI k) S = some (P k, S) := by rw [hP_]; exact ct_pageAt hr.1 hd.2.2.1 hk
    show k_Top_digest_175 _ _ _ = k_Top_digest_175 (31 * hSq P k h + (P k).toInt64) _ _
    rw [e', k_Top_digest_175_eq, r11, if_neg (by rw [zle (by omega) (by omega)]; omega), ea, bI_s, zL1, zadd]) (D 55 18) 0 S (by omega) rfl
  have q6' : S6 = S := q6
  rw [q6'] at e6
  refine Eq.trans e6 ?_
  obtain ⟨h2, eh2⟩ : ∃ h2, h2 = hSq P (D 55 18) h := ⟨_, rfl⟩
  rw [← eh2]
  obtain ⟨W, hW⟩ : ∃ W : Nat → Int32, W = hw D := ⟨_, rfl⟩
  rw [← hW]
  obtain ⟨S7, e7, q7⟩ := zfor (fun k T => k_Top_digest_210 (hSq W k h2) (nI k) T) 10 (fun _ T => T = S) (by
    intro k T hk e
    have e' : T = S := e
    refine ⟨S, ?_, rfl⟩
    have ea : f_Top_count (nI k) S = some (W k, S) := by rw [hW]; exact ct_count hd hr (by omega)
    show k_Top_digest_210 _ _ _ = k_Top_digest_210 (31 * hSq W k h2 + (W k).toInt64) _ _
    rw [e', k_Top_digest_210_eq, zL9, if_neg (by rw [zlt (by omega) (by omega)]; omega), ea, bI_s, zL1, zadd]) 10 0 S rfl rfl
  have q7' : S7 = S := q7
  rw [q7'] at e7
  have e7' : k_Top_digest_210 h2 (nI 0) S = k_Top_digest_210 (hSq W 10 h2) (nI 10) S := e7
  show k_Top_digest_175 h2 (nI (D 55 18)) S = _
  rw [k_Top_digest_175_eq, r11, if_pos (by rw [zle (by omega) (by omega)]; exact Nat.le_refl _), zL0, e7', k_Top_digest_210_eq, zL9, if_pos (by rw [zlt (by omega) (by omega)]; omega)]
theorem ct_digest (hd : okD D) (hr : RC D S) : ∃ S', f_Top_digest S = some (d5 D, S') ∧ frC S S' := by
  have e1 := ct_dg1 hd hr 617
  obtain ⟨S2, e2, f2⟩ := ct_dg2 hd hr (hLan D (D 55 0) 617)
  have hr2 := RC_f hd hr f2
  have e3 := ct_dg3 hr2 (hWs D (D 55 7) (hLan D (D 55 0) 617))
  obtain ⟨S4, e4, f4⟩ := ct_dg4 hd hr2 (hHp D (hWs D (D 55 7) (hLan D (D 55 0) 617)))
  have e5 := ct_dg5 hd (RC_f hd hr2 f4) (hmx (hSq (fun k => fiR k (fo (qs 31) (mp D) 60 1 D)) 3 (hHp D (hWs D (D 55 7) (hLan D (D 55 0) 617)))) (nI (fitsN D (ms (D 55 7)))))
  refine ⟨S4, ?_, frC_t f2 f4⟩
  rw [f_Top_digest_eq, zL0, e1, e2, e3, e4, e5]
  unfold d5
  rfl
end DIG
