/-! calls that write a number or a few -/
section WR
variable {c : Nat} {D : DD} {S : Mem}
theorem ask_blank (h : Inv c D S) (hc : c < 512) : CAL c S f_Top_blank f_Mod_blank := by
  obtain ⟨hd, hr, hm, h4, h5, h6⟩ := id h
  have ht : frT S (u1 S 1 1 (nI 0)) := fun a k q => zuN (by omega)
  have hm1 : RM D (u1 S 1 1 (nI 0)) := RM_T hm ht
  have hd' : okD (dS D 55 (dU (D 55) 18 0)) := by
    refine ⟨okN_d hd.1 rfl rfl rfl rfl rfl rfl, okW_d hd.2.1 rfl rfl rfl rfl rfl rfl rfl (fun i hi => (hd.2.1.2 i hi).2.2.2.1) rfl rfl rfl, ?_, okK_d hd.2.2.2 rfl rfl rfl rfl rfl rfl rfl rfl (Nat.le_refl _) rfl rfl rfl rfl rfl rfl⟩
    obtain ⟨s1, s2, s3, s4, s5, s6, s7⟩ := hd.2.2.1
    exact ⟨Nat.zero_le _, fun k hk => absurd hk (Nat.not_lt_zero k), s3, s4, s5, s6, s7⟩
  have hr1 : RC (dS D 55 (dU (D 55) 18 0)) (u1 S 1 1 (nI 0)) := ⟨⟨zuS ⟨rfl, rfl⟩, fun k hk => absurd hk (Nat.not_lt_zero k)⟩, rNt_f (rNt_d hr.2.1 rfl rfl rfl rfl rfl rfl rfl) (fun a k q => zuN (by omega)), rTw_f hd'.2.1.1 (rTw_d hr.2.2.1 rfl rfl rfl rfl rfl rfl rfl rfl) (fun a k q => zuN (by omega)), rHp_f (rHp_d hr.2.2.2.1 rfl rfl) (fun a k q => zuN (by omega)), rTp_f (rTp_d hr.2.2.2.2.1 rfl rfl rfl rfl) (fun a k q => zuN (by omega)), rKp_f hd'.2.2.2 hd'.2.1.1 (rKp_d hr.2.2.2.2.2 rfl rfl rfl rfl rfl (fun _ _ => rfl) (fun _ _ => rfl) rfl rfl rfl rfl rfl rfl) (fun a k q => zuN (by omega))⟩
  refine ⟨nI (D 55 18), u1 S 1 1 (nI 0), u1 (u1 S 1 1 (nI 0)) 55 18 (nI 0), _, ?_, ?_, hd', RC_M hd' hr1 (fun a k q => zuN (by omega)), RM_u1 hm1, by show D 55 6 ≤ c + 1; omega, Nat.zero_le _, by omega⟩
  · rw [f_Top_blank_eq, hr.1.1]; rfl
  · rw [f_Mod_blank_eq, hm1.r 55 18 (by omega)]; rfl
theorem ask_load (h : Inv c D S) (hc : c < 512) (x y : Int32) : CAL c S (f_Top_load x y) (f_Mod_load x y) := by
  obtain ⟨hd, hr, hm, h4, h5, h6⟩ := id h
  rcases ask_w hd hr hm x with ⟨i, hi, hi5, rfl, hat, hw⟩ | ⟨_, hat, hw⟩
  · have wi := hd.2.1.2 i hi
    rcases zcase y with hy | ⟨v, hv, rfl⟩
    · refine CAL_00 h hc (r := -nI 102) ?_ ?_
      · rw [f_Top_load_eq]; simp (disch := omega) only [hat, oc, zL0, zL1, zL2, zL3, zL4, zL5, zL6, zL7, zL8, zL9, zL10, zL12, zL20, zL30, zL31, zL32, zL44, zL48, zL49, zL50, zL56, zL59, zL60, zL61, zL64, zL65, zL97, zL99, zL100, zL101, zL102, zL103, zL104, zL111, zL119, zL126, zL255, zL512, zL617, zL65535, zL65536, zL1048576, zlt, zle, zeq, ztn, zin, zzb, zadd, zmul, zm_lt, zm_gt, zm_le, zm_ge, zm_eq, zm_eq', zm_in, if_pos, if_neg, bI_s, bJ_s, bA_s, bU_s, if_true, if_false, reduceIte, or_true, true_or, or_false, false_or, and_true, true_and, and_false, false_and, not_true_eq_false, not_false_eq_true, Nat.reduceEqDiff, Nat.zero_ne_one, Nat.one_ne_zero, k_Top_load_16_eq (isW_i hi5), ct_isLoad_n hy]
      · rw [f_Mod_load_eq]; simp (disch := omega) only [hw, mo_within_n hy, zL0, zL1, zL2, zL3, zL4, zL5, zL6, zL7, zL8, zL9, zL10, zL12, zL20, zL30, zL31, zL32, zL44, zL48, zL49, zL50, zL56, zL59, zL60, zL61, zL64, zL65, zL97, zL99, zL100, zL101, zL102, zL103, zL104, zL111, zL119, zL126, zL255, zL512, zL617, zL65535, zL65536, zL1048576, zlt, zle, zeq, ztn, zin, zzb, zadd, zmul, zm_lt, zm_gt, zm_le, zm_ge, zm_eq, zm_eq', zm_in, if_pos, if_neg, bI_s, bJ_s, bA_s, bU_s, if_true, if_false, reduceIte, or_true, true_or, or_false, false_or, and_true, true_and, and_false, false_and, not_true_eq_false, not_false_eq_true, Nat.reduceEqDiff, Nat.zero_ne_one, Nat.one_ne_zero]
    · by_cases c1 : v ≤ 20
      · have ht : frT S (u1 S (17 + 2 * i) 3 (nI v)) := fun a k q => zuN (by omega)
        have hm1 : RM D (u1 S (17 + 2 * i) 3 (nI v)) := RM_T hm ht
        have hw1 : f_Mod_isWalker (nI i) (u1 S (17 + 2 * i) 3 (nI v)) = some (nI 1, u1 S (17 + 2 * i) 3 (nI v)) := by
          rw [mo_isWalker hm1 hd.2.1.1 (by omega), if_pos hi]
        have hd' : okD (dS D 62 (dU (D 62) i v)) := by
          refine ⟨okN_d hd.1 rfl rfl rfl rfl rfl rfl, okW_d hd.2.1 rfl rfl rfl rfl rfl rfl rfl (fun j hj => ?_) rfl rfl rfl, hd.2.2.1, okK_d hd.2.2.2 rfl rfl rfl rfl rfl rfl rfl rfl (Nat.le_refl _) rfl rfl rfl rfl rfl rfl⟩
          show dU (D 62) i v j ≤ 20
          by_cases e : j = i
          · rw [dU_s e]; exact c1
          · rw [dU_n e]; exact (hd.2.1.2 j hj).2.2.2.1
        have hr1 : RC (dS D 62 (dU (D 62) i v)) (u1 S (17 + 2 * i) 3 (nI v)) := by
          refine ⟨rPg_f (rPg_d hr.1 rfl rfl) (fun a k q => zuN (by omega)), rNt_f (rNt_d hr.2.1 rfl rfl rfl rfl rfl rfl rfl) (fun a k q => zuN (by omega)), ⟨?_, fun j hj => ?_, fun j hj => ?_, fun j hj => ?_, fun j hj => ?_, fun j hj => ?_, fun j hj => ?_, fun j k hj hk => ?_⟩, rHp_f (rHp_d hr.2.2.2.1 rfl rfl) (fun a k q => zuN (by omega)), rTp_f (rTp_d hr.2.2.2.2.1 rfl rfl rfl rfl) (fun a k q => zuN (by omega)), rKp_f hd'.2.2.2 hd'.2.1.1 (rKp_d hr.2.2.2.2.2 rfl rfl rfl rfl rfl (fun _ _ => rfl) (fun _ _ => rfl) rfl rfl rfl rfl rfl rfl) (fun a k q => zuN (by omega))⟩
          · rw [zuN (by omega)]; exact hr.w
          · rw [zuN (by omega)]; exact hr.kind j hj
          · rw [zuN (by omega)]; exact hr.cor j hj
          · rw [zuN (by omega)]; exact hr.goal j hj
          · show _ = nI (dU (D 62) i v j)
            by_cases e : j = i
            · rw [dU_s e, zuS ⟨by omega, rfl⟩]
            · rw [dU_n e, zuN (by omega)]; exact hr.load j hj
          · rw [zuN (by omega)]; exact hr.wl j hj
          · rw [zuN (by omega)]; exact hr.wd j hj
          · rw [zuN (by omega)]; exact hr.way j k hj hk
        refine ⟨nI (D 62 i), u1 S (17 + 2 * i) 3 (nI v), u1 (u1 S (17 + 2 * i) 3 (nI v)) 62 i (nI v), _, ?_, ?_, hd', RC_M hd' hr1 (fun a k q => zuN (by omega)), RM_u1 hm1, by show D 55 6 ≤ c + 1; omega, Nat.zero_le _, by omega⟩
        · rw [f_Top_load_eq]; simp (disch := omega) only [hat, oc, zL0, zL1, zL2, zL3, zL4, zL5, zL6, zL7, zL8, zL9, zL10, zL12, zL20, zL30, zL31, zL32, zL44, zL48, zL49, zL50, zL56, zL59, zL60, zL61, zL64, zL65, zL97, zL99, zL100, zL101, zL102, zL103, zL104, zL111, zL119, zL126, zL255, zL512, zL617, zL65535, zL65536, zL1048576, zlt, zle, zeq, ztn, zin, zzb, zadd, zmul, zm_lt, zm_gt, zm_le, zm_ge, zm_eq, zm_eq', zm_in, if_pos, if_neg, bI_s, bJ_s, bA_s, bU_s, if_true, if_false, reduceIte, or_true, true_or, or_false, false_or, and_true, true_and, and_false, false_and, not_true_eq_false, not_false_eq_true, Nat.reduceEqDiff, Nat.zero_ne_one, Nat.one_ne_zero, k_Top_load_16_eq (isW_i hi5), ct_isLoad, hr.load]
        · rw [f_Mod_load_eq]; simp (disch := omega) only [hw1, mo_within, zL0, zL1, zL2, zL3, zL4, zL5, zL6, zL7, zL8, zL9, zL10, zL12, zL20, zL30, zL31, zL32, zL44, zL48, zL49, zL50, zL56, zL59, zL60, zL61, zL64, zL65, zL97, zL99, zL100, zL101, zL102, zL103, zL104, zL111, zL119, zL126, zL255, zL512, zL617, zL65535, zL65536, zL1048576, zlt, zle, zeq, ztn, zin, zzb, zadd, zmul, zm_lt, zm_gt, zm_le, zm_ge, zm_eq, zm_eq', zm_in, if_pos, if_neg, bI_s, bJ_s, bA_s, bU_s, if_true, if_false, reduceIte, or_true, true_or, or_false, false_or, and_true, true_and, and_false, false_and, not_true_eq_false, not_false_eq_true, Nat.reduceEqDiff, Nat.zero_ne_one, Nat.one_ne_zero, hm1.r]
      · refine CAL_00 h hc (r := -nI 102) ?_ ?_
        · rw [f_Top_load_eq]; simp (disch := omega) only [hat, oc, zL0, zL1, zL2, zL3, zL4, zL5, zL6, zL7, zL8, zL9, zL10, zL12, zL20, zL30, zL31, zL32, zL44, zL48, zL49, zL50, zL56, zL59, zL60, zL61, zL64, zL65, zL97, zL99, zL100, zL101, zL102, zL103, zL104, zL111, zL119, zL126, zL255, zL512, zL617, zL65535, zL65536, zL1048576, zlt, zle, zeq, ztn, zin, zzb, zadd, zmul, zm_lt, zm_gt, zm_le, zm_ge, zm_eq, zm_eq', zm_in, if_pos, if_neg, bI_s, bJ_s, bA_s, bU_s, if_true, if_false, reduceIte, or_true, true_or, or_false, false_or, and_true, true_and, and_false, false_and, not_true_eq_false, not_false_eq_true, Nat.reduceEqDiff, Nat.zero_ne_one, Nat.one_ne_zero, k_Top_load_16_eq (isW_i hi5), ct_isLoad]
        · rw [f_Mod_load_eq]; simp (disch := omega) only [hw, mo_within, zL0, zL1, zL2, zL3, zL4, zL5, zL6, zL7, zL8, zL9, zL10, zL12, zL20, zL30, zL31, zL32, zL44, zL48, zL49, zL50, zL56, zL59, zL60, zL61, zL64, zL65, zL97, zL99, zL100, zL101, zL102, zL103, zL104, zL111, zL119, zL126, zL255, zL512, zL617, zL65535, zL65536, zL1048576, zlt, zle, zeq, ztn, zin, zzb, zadd, zmul, zm_lt, zm_gt, zm_le, zm_ge, zm_eq, zm_eq', zm_in, if_pos, if_neg, bI_s, bJ_s, bA_s, bU_s, if_true, if_false, reduceIte, or_true, true_or, or_false, false_or, and_true, true_and, and_false, false_and, not_true_eq_false, not_false_eq_true, Nat.reduceEqDiff, Nat.zero_ne_one, Nat.one_ne_zero]
  · refine CAL_00 h hc (r := -nI 101) ?_ ?_
    · rw [f_Top_load_eq]; simp (disch := omega) only [hat, oc, zL0, zL1, zL2, zL3, zL4, zL5, zL6, zL7, zL8, zL9, zL10, zL12, zL20, zL30, zL31, zL32, zL44, zL48, zL49, zL50, zL56, zL59, zL60, zL61, zL64, zL65, zL97, zL99, zL100, zL101, zL102, zL103, zL104, zL111, zL119, zL126, zL255, zL512, zL617, zL65535, zL65536, zL1048576, zlt, zle, zeq, ztn, zin, zzb, zadd, zmul, zm_lt, zm_gt, zm_le, zm_ge, zm_eq, zm_eq', zm_in, if_pos, if_neg, bI_s, bJ_s, bA_s, bU_s, if_true, if_false, reduceIte, or_true, true_or, or_false, false_or, and_true, true_and, and_false, false_and, not_true_eq_false, not_false_eq_true, Nat.reduceEqDiff, Nat.zero_ne_one, Nat.one_ne_zero, k_Top_load_13_eq]
    · rw [f_Mod_load_eq]; simp (disch := omega) only [hw, zL0, zL1, zL2, zL3, zL4, zL5, zL6, zL7, zL8, zL9, zL10, zL12, zL20, zL30, zL31, zL32, zL44, zL48, zL49, zL50, zL56, zL59, zL60, zL61, zL64, zL65, zL97, zL99, zL100, zL101, zL102, zL103, zL104, zL111, zL119, zL126, zL255, zL512, zL617, zL65535, zL65536, zL1048576, zlt, zle, zeq, ztn, zin, zzb, zadd, zmul, zm_lt, zm_gt, zm_le, zm_ge, zm_eq, zm_eq', zm_in, if_pos, if_neg, bI_s, bJ_s, bA_s, bU_s, if_true, if_false, reduceIte, or_true, true_or, or_false, false_or, and_true, true_and, and_false, false_and, not_true_eq_false, not_false_eq_true, Nat.reduceEqDiff, Nat.zero_ne_one, Nat.one_ne_zero]
theorem okS_h (h : okS D) {k v : Nat} (hv : v ≤ 99) : okS (dS D 66 (dU (D 66) k v)) := by
  obtain ⟨s1, s2, s3, s4, s5, s6, s7⟩ := h
  refine ⟨s1, s2, fun j hj => ?_, s4, s5, s6, s7⟩
  show dU (D 66) k v j ≤ 99
  by_cases e : j = k
  · rw [dU_s e]; exact hv
  · rw [dU_n e]; exact s3 j hj
theorem okD_h (h : okD D) {k v : Nat} (hv : v ≤ 99) : okD (dS D 66 (dU (D 66) k v)) := ⟨okN_d h.1 rfl rfl rfl rfl rfl rfl, okW_d h.2.1 rfl rfl rfl rfl rfl rfl rfl (fun i hi => (h.2.1.2 i hi).2.2.2.1) rfl rfl rfl, okS_h h.2.2.1 hv, okK_d h.2.2.2 rfl rfl rfl rfl rfl rfl rfl rfl (Nat.le_refl _) rfl rfl rfl rfl rfl rfl⟩
theorem RC_h (hd : okD D) (hr : RC D S) {k v : Nat} (hk : k < 8) (hv : v ≤ 99) : RC (dS D 66 (dU (D 66) k v)) (u1 S 16 k (nI v)) := by
  have hd' := okD_h (k := k) hd hv
  refine ⟨rPg_f (rPg_d hr.1 rfl rfl) (fun a k q => zuN (by omega)), rNt_f (rNt_d hr.2.1 rfl rfl rfl rfl rfl rfl rfl) (fun a k q => zuN (by omega)), rTw_f hd'.2.1.1 (rTw_d hr.2.2.1 rfl rfl rfl rfl rfl rfl rfl rfl) (fun a k q => zuN (by omega)), ⟨?_, fun j hj => ?_⟩, rTp_f (rTp_d hr.2.2.2.2.1 rfl rfl rfl rfl) (fun a k q => zuN (by omega)), rKp_f hd'.2.2.2 hd'.2.1.1 (rKp_d hr.2.2.2.2.2 rfl rfl rfl rfl rfl (fun _ _ => rfl) (fun _ _ => rfl) rfl rfl rfl rfl rfl rfl) (fun a k q => zuN (by omega))⟩
  · rw [zuN (by omega)]; exact hr.2.2.2.1.1
  · show _ = nI (dU (D 66) k v j)
    by_cases e : j = k
    · rw [dU_s e, zuS ⟨rfl, e⟩]
    · rw [dU_n e, zuN (by omega)]; exact hr.2.2.2.1.2 j hj
theorem RC.hp (h : RC D S) : ∀ k, k < 8 → S.1 16 k = nI (D 66 k) := h.2.2.2.1.2
theorem RC.net (h : RC D S) : S.1 0 8 = nI (if D 55 6 = 0 then 0 else 1) := h.2.2.2.2.1.1
theorem ask_heap (h : Inv c D S) (hc : c < 512) (x y : Int32) : CAL c S (f_Top_heap x y) (f_Mod_heap x y) := by
  obtain ⟨hd, hr, hm, h4, h5, h6⟩ := id h
  have hn8 := hr.net
  rcases zcase x with hx | ⟨n, hn, rfl⟩
  · refine CAL_00 h hc (r := -nI 101) ?_ ?_
    · rw [f_Top_heap_eq]; simp (disch := omega) only [ct_isCorner_n hx, zL0, zL1, zL2, zL3, zL4, zL5, zL6, zL7, zL8, zL9, zL10, zL12, zL20, zL30, zL31, zL32, zL44, zL48, zL49, zL50, zL56, zL59, zL60, zL61, zL64, zL65, zL97, zL99, zL100, zL101, zL102, zL103, zL104, zL111, zL119, zL126, zL255, zL512, zL617, zL65535, zL65536, zL1048576, zlt, zle, zeq, ztn, zin, zzb, zadd, zmul, zm_lt, zm_gt, zm_le, zm_ge, zm_eq, zm_eq', zm_in, if_pos, if_neg, bI_s, bJ_s, bA_s, bU_s, if_true, if_false, reduceIte, or_true, true_or, or_false, false_or, and_true, true_and, and_false, false_and, not_true_eq_false, not_false_eq_true, Nat.reduceEqDiff, Nat.zero_ne_one, Nat.one_ne_zero]
    · rw [f_Mod_heap_eq]; simp (disch := omega) only [mo_isCorner_n hx, zL0, zL1, zL2, zL3, zL4, zL5, zL6, zL7, zL8, zL9, zL10, zL12, zL20, zL30, zL31, zL32, zL44, zL48, zL49, zL50, zL56, zL59, zL60, zL61, zL64, zL65, zL97, zL99, zL100, zL101, zL102, zL103, zL104, zL111, zL119, zL126, zL255, zL512, zL617, zL65535, zL65536, zL1048576, zlt, zle, zeq, ztn, zin, zzb, zadd, zmul, zm_lt, zm_gt, zm_le, zm_ge, zm_eq, zm_eq', zm_in, if_pos, if_neg, bI_s, bJ_s, bA_s, bU_s, if_true, if_false, reduceIte, or_true, true_or, or_false, false_or, and_true, true_and, and_false, false_and, not_true_eq_false, not_false_eq_true, Nat.reduceEqDiff, Nat.zero_ne_one, Nat.one_ne_zero]
  · by_cases c8 : n < 8
    · rcases zcase y with hy | ⟨v, hv, rfl⟩
      · refine CAL_00 h hc (r := -nI 102) ?_ ?_
        · rw [f_Top_heap_eq]; simp (disch := omega) only [ct_isCorner, ct_isHeap_n hy, zL0, zL1, zL2, zL3, zL4, zL5, zL6, zL7, zL8, zL9, zL10, zL12, zL20, zL30, zL31, zL32, zL44, zL48, zL49, zL50, zL56, zL59, zL60, zL61, zL64, zL65, zL97, zL99, zL100, zL101, zL102, zL103, zL104, zL111, zL119, zL126, zL255, zL512, zL617, zL65535, zL65536, zL1048576, zlt, zle, zeq, ztn, zin, zzb, zadd, zmul, zm_lt, zm_gt, zm_le, zm_ge, zm_eq, zm_eq', zm_in, if_pos, if_neg, bI_s, bJ_s, bA_s, bU_s, if_true, if_false, reduceIte, or_true, true_or, or_false, false_or, and_true, true_and, and_false, false_and, not_true_eq_false, not_false_eq_true, Nat.reduceEqDiff, Nat.zero_ne_one, Nat.one_ne_zero]
        · rw [f_Mod_heap_eq]; simp (disch := omega) only [mo_isCorner, mo_within_n hy, zL0, zL1, zL2, zL3, zL4, zL5, zL6, zL7, zL8, zL9, zL10, zL12, zL20, zL30, zL31, zL32, zL44, zL48, zL49, zL50, zL56, zL59, zL60, zL61, zL64, zL65, zL97, zL99, zL100, zL101, zL102, zL103, zL104, zL111, zL119, zL126, zL255, zL512, zL617, zL65535, zL65536, zL1048576, zlt, zle, zeq, ztn, zin, zzb, zadd, zmul, zm_lt, zm_gt, zm_le, zm_ge, zm_eq, zm_eq', zm_in, if_pos, if_neg, bI_s, bJ_s, bA_s, bU_s, if_true, if_false, reduceIte, or_true, true_or, or_false, false_or, and_true, true_and, and_false, false_and, not_true_eq_false, not_false_eq_true, Nat.reduceEqDiff, Nat.zero_ne_one, Nat.one_ne_zero]
      · by_cases c9 : v ≤ 99
        · by_cases c6 : D 55 6 = 0
          · rw [if_pos c6] at hn8
            refine CAL_00 h hc (r := -nI 103) ?_ ?_
            · rw [f_Top_heap_eq]; simp (disch := omega) only [ct_isCorner, ct_isHeap, hn8, zL0, zL1, zL2, zL3, zL4, zL5, zL6, zL7, zL8, zL9, zL10, zL12, zL20, zL30, zL31, zL32, zL44, zL48, zL49, zL50, zL56, zL59, zL60, zL61, zL64, zL65, zL97, zL99, zL100, zL101, zL102, zL103, zL104, zL111, zL119, zL126, zL255, zL512, zL617, zL65535, zL65536, zL1048576, zlt, zle, zeq, ztn, zin, zzb, zadd, zmul, zm_lt, zm_gt, zm_le, zm_ge, zm_eq, zm_eq', zm_in, if_pos, if_neg, bI_s, bJ_s, bA_s, bU_s, if_true, if_false, reduceIte, or_true, true_or, or_false, false_or, and_true, true_and, and_false, false_and, not_true_eq_false, not_false_eq_true, Nat.reduceEqDiff, Nat.zero_ne_one, Nat.one_ne_zero]
            · rw [f_Mod_heap_eq]; simp (disch := omega) only [mo_isCorner, mo_within, hm.r, zL0, zL1, zL2, zL3, zL4, zL5, zL6, zL7, zL8, zL9, zL10, zL12, zL20, zL30, zL31, zL32, zL44, zL48, zL49, zL50, zL56, zL59, zL60, zL61, zL64, zL65, zL97, zL99, zL100, zL101, zL102, zL103, zL104, zL111, zL119, zL126, zL255, zL512, zL617, zL65535, zL65536, zL1048576, zlt, zle, zeq, ztn, zin, zzb, zadd, zmul, zm_lt, zm_gt, zm_le, zm_ge, zm_eq, zm_eq', zm_in, if_pos, if_neg, bI_s, bJ_s, bA_s, bU_s, if_true, if_false, reduceIte, or_true, true_or, or_false, false_or, and_true, true_and, and_false, false_and, not_true_eq_false, not_false_eq_true, Nat.reduceEqDiff, Nat.zero_ne_one, Nat.one_ne_zero]
          · rw [if_neg c6] at hn8
            have hd' := okD_h (k := n) hd c9
            have hr1 := RC_h hd hr c8 c9
            have hm1 : RM D (u1 S 16 n (nI v)) := RM_T hm (fun a k q => zuN (by omega))
            refine ⟨nI (D 66 n), u1 S 16 n (nI v), u1 (u1 S 16 n (nI v)) 66 n (nI v), _, ?_, ?_, hd', RC_M hd' hr1 (fun a k q => zuN (by omega)), RM_u1 hm1, by show D 55 6 ≤ c + 1; omega, Nat.zero_le _, by omega⟩
            · rw [f_Top_heap_eq]; simp (disch := omega) only [ct_isCorner, ct_isHeap, hn8, zL0, zL1, zL2, zL3, zL4, zL5, zL6, zL7, zL8, zL9, zL10, zL12, zL20, zL30, zL31, zL32, zL44, zL48, zL49, zL50, zL56, zL59, zL60, zL61, zL64, zL65, zL97, zL99, zL100, zL101, zL102, zL103, zL104, zL111, zL119, zL126, zL255, zL512, zL617, zL65535, zL65536, zL1048576, zlt, zle, zeq, ztn, zin, zzb, zadd, zmul, zm_lt, zm_gt, zm_le, zm_ge, zm_eq, zm_eq', zm_in, if_pos, if_neg, bI_s, bJ_s, bA_s, bU_s, if_true, if_false, reduceIte, or_true, true_or, or_false, false_or, and_true, true_and, and_false, false_and, not_true_eq_false, not_false_eq_true, Nat.reduceEqDiff, Nat.zero_ne_one, Nat.one_ne_zero, hr.hp, Nat.reduceAdd]
            · rw [f_Mod_heap_eq]; simp (disch := omega) only [mo_isCorner, mo_within, hm1.r, zL0, zL1, zL2, zL3, zL4, zL5, zL6, zL7, zL8, zL9, zL10, zL12, zL20, zL30, zL31, zL32, zL44, zL48, zL49, zL50, zL56, zL59, zL60, zL61, zL64, zL65, zL97, zL99, zL100, zL101, zL102, zL103, zL104, zL111, zL119, zL126, zL255, zL512, zL617, zL65535, zL65536, zL1048576, zlt, zle, zeq, ztn, zin, zzb, zadd, zmul, zm_lt, zm_gt, zm_le, zm_ge, zm_eq, zm_eq', zm_in, if_pos, if_neg, bI_s, bJ_s, bA_s, bU_s, if_true, if_false, reduceIte, or_true, true_or, or_false, false_or, and_true, true_and, and_false, false_and, not_true_eq_false, not_false_eq_true, Nat.reduceEqDiff, Nat.zero_ne_one, Nat.one_ne_zero]
        · refine CAL_00 h hc (r := -nI 102) ?_ ?_
          · rw [f_Top_heap_eq]; simp (disch := omega) only [ct_isCorner, ct_isHeap, zL0, zL1, zL2, zL3, zL4, zL5, zL6, zL7, zL8, zL9, zL10, zL12, zL20, zL30, zL31, zL32, zL44, zL48, zL49, zL50, zL56, zL59, zL60, zL61, zL64, zL65, zL97, zL99, zL100, zL101, zL102, zL103, zL104, zL111, zL119, zL126, zL255, zL512, zL617, zL65535, zL65536, zL1048576, zlt, zle, zeq, ztn, zin, zzb, zadd, zmul, zm_lt, zm_gt, zm_le, zm_ge, zm_eq, zm_eq', zm_in, if_pos, if_neg, bI_s, bJ_s, bA_s, bU_s, if_true, if_false, reduceIte, or_true, true_or, or_false, false_or, and_true, true_and, and_false, false_and, not_true_eq_false, not_false_eq_true, Nat.reduceEqDiff, Nat.zero_ne_one, Nat.one_ne_zero]
          · rw [f_Mod_heap_eq]; simp (disch := omega) only [mo_isCorner, mo_within, zL0, zL1, zL2, zL3, zL4, zL5, zL6, zL7, zL8, zL9, zL10, zL12, zL20, zL30, zL31, zL32, zL44, zL48, zL49, zL50, zL56, zL59, zL60, zL61, zL64, zL65, zL97, zL99, zL100, zL101, zL102, zL103, zL104, zL111, zL119, zL126, zL255, zL512, zL617, zL65535, zL65536, zL1048576, zlt, zle, zeq, ztn, zin, zzb, zadd, zmul, zm_lt, zm_gt, zm_le, zm_ge, zm_eq, zm_eq', zm_in, if_pos, if_neg, bI_s, bJ_s, bA_s, bU_s, if_true, if_false, reduceIte, or_true, true_or, or_false, false_or, and_true, true_and, and_false, false_and, not_true_eq_false, not_false_eq_true, Nat.reduceEqDiff, Nat.zero_ne_one, Nat.one_ne_zero]
    · refine CAL_00 h hc (r := -nI 101) ?_ ?_
      · rw [f_Top_heap_eq]; simp (disch := omega) only [ct_isCorner, zL0, zL1, zL2, zL3, zL4, zL5, zL6, zL7, zL8, zL9, zL10, zL12, zL20, zL30, zL31, zL32, zL44, zL48, zL49, zL50, zL56, zL59, zL60, zL61, zL64, zL65, zL97, zL99, zL100, zL101, zL102, zL103, zL104, zL111, zL119, zL126, zL255, zL512, zL617, zL65535, zL65536, zL1048576, zlt, zle, zeq, ztn, zin, zzb, zadd, zmul, zm_lt, zm_gt, zm_le, zm_ge, zm_eq, zm_eq', zm_in, if_pos, if_neg, bI_s, bJ_s, bA_s, bU_s, if_true, if_false, reduceIte, or_true, true_or, or_false, false_or, and_true, true_and, and_false, false_and, not_true_eq_false, not_false_eq_true, Nat.reduceEqDiff, Nat.zero_ne_one, Nat.one_ne_zero]
      · rw [f_Mod_heap_eq]; simp (disch := omega) only [mo_isCorner, zL0, zL1, zL2, zL3, zL4, zL5, zL6, zL7, zL8, zL9, zL10, zL12, zL20, zL30, zL31, zL32, zL44, zL48, zL49, zL50, zL56, zL59, zL60, zL61, zL64, zL65, zL97, zL99, zL100, zL101, zL102, zL103, zL104, zL111, zL119, zL126, zL255, zL512, zL617, zL65535, zL65536, zL1048576, zlt, zle, zeq, ztn, zin, zzb, zadd, zmul, zm_lt, zm_gt, zm_le, zm_ge, zm_eq, zm_eq', zm_in, if_pos, if_neg, bI_s, bJ_s, bA_s, bU_s, if_true, if_false, reduceIte, or_true, true_or, or_false, false_or, and_true, true_and, and_false, false_and, not_true_eq_false, not_false_eq_true, Nat.reduceEqDiff, Nat.zero_ne_one, Nat.one_ne_zero]
/-- a walker's load becomes v: both sides -/
theorem okD_l (hd : okD D) {i v : Nat} (hv : v ≤ 20) : okD (dS D 62 (dU (D 62) i v)) := by
  refine ⟨okN_d hd.1 rfl rfl rfl rfl rfl rfl, okW_d hd.2.1 rfl rfl rfl rfl rfl rfl rfl (fun j hj => ?_) rfl rfl rfl, hd.2.2.1, okK_d hd.2.2.2 rfl rfl rfl rfl rfl rfl rfl rfl (Nat.le_refl _) rfl rfl rfl rfl rfl rfl⟩
  show dU (D 62) i v j ≤ 20
  by_cases e : j = i
  · rw [dU_s e]; exact hv
  · rw [dU_n e]; exact (hd.2.1.2 j hj).2.2.2.1
theorem RC_l (hd : okD D) (hr : RC D S) {i v : Nat} (hi : i < D 55 7) (hv : v ≤ 20) : RC (dS D 62 (dU (D 62) i v)) (u1 S (17 + 2 * i) 3 (nI v)) := by
  have w5 := hd.2.1.1
  have hd' := okD_l (i := i) hd hv
  refine ⟨rPg_f (rPg_d hr.1 rfl rfl) (fun a k q => zuN (by omega)), rNt_f (rNt_d hr.2.1 rfl rfl rfl rfl rfl rfl rfl) (fun a k q => zuN (by omega)), ⟨?_, fun j hj => ?_, fun j hj => ?_, fun j hj => ?_, fun j hj => ?_, fun j hj => ?_, fun j hj => ?_, fun j k hj hk => ?_⟩, rHp_f (rHp_d hr.2.2.2.1 rfl rfl) (fun a k q => zuN (by omega)), rTp_f (rTp_d hr.2.2.2.2.1 rfl rfl rfl rfl) (fun a k q => zuN (by omega)), rKp_f hd'.2.2.2 hd'.2.1.1 (rKp_d hr.2.2.2.2.2 rfl rfl rfl rfl rfl (fun _ _ => rfl) (fun _ _ => rfl) rfl rfl rfl rfl rfl rfl) (fun a k q => zuN (by omega))⟩
  · rw [zuN (by omega)]; exact hr.w
  · rw [zuN (by omega)]; exact hr.kind j hj
  · rw [zuN (by omega)]; exact hr.cor j hj
  · rw [zuN (by omega)]; exact hr.goal j hj
  · show _ = nI (dU (D 62) i v j)
    by_cases e : j = i
    · rw [dU_s e, zuS ⟨by omega, rfl⟩]
    · rw [dU_n e, zuN (by omega)]; exact hr.load j hj
  · rw [zuN (by omega)]; exact hr.wl j hj
  · rw [zuN (by omega)]; exact hr.wd j hj
  · rw [zuN (by omega)]; exact hr.way j k hj hk
theorem z20 {x : Int32} : (nI 20 < x) = ¬ x ≤ nI 20 := by
  rw [Int32.not_le]
theorem ask_take (h : Inv c D S) (hc : c < 512) (x y : Int32) : CAL c S (f_Top_take x y) (f_Mod_take x y) := by
  obtain ⟨hd, hr, hm, h4, h5, h6⟩ := id h
  rcases ask_w hd hr hm x with ⟨i, hi, hi5, rfl, hat, hw⟩ | ⟨_, hat, hw⟩
  · have wi := hd.2.1.2 i hi
    by_cases a1 : y < -nI 20
    · refine CAL_00 h hc (r := -nI 102) ?_ ?_
      · rw [f_Top_take_eq]; simp (disch := omega) only [hat, oc, zL0, zL1, zL2, zL3, zL4, zL5, zL6, zL7, zL8, zL9, zL10, zL12, zL20, zL30, zL31, zL32, zL44, zL48, zL49, zL50, zL56, zL59, zL60, zL61, zL64, zL65, zL97, zL99, zL100, zL101, zL102, zL103, zL104, zL111, zL119, zL126, zL255, zL512, zL617, zL65535, zL65536, zL1048576, zlt, zle, zeq, ztn, zin, zzb, zadd, zmul, zm_lt, zm_gt, zm_le, zm_ge, zm_eq, zm_eq', zm_in, if_pos, if_neg, bI_s, bJ_s, bA_s, bU_s, if_true, if_false, reduceIte, or_true, true_or, or_false, false_or, and_true, true_and, and_false, false_and, not_true_eq_false, not_false_eq_true, Nat.reduceEqDiff, Nat.zero_ne_one, Nat.one_ne_zero, k_Top_take_16_eq (isW_i hi5), a1, k_Top_take_28_eq]
      · rw [f_Mod_take_eq]; simp (disch := omega) only [hw, f_Mod_within_eq, a1, k_Mod_within_14_eq, k_Mod_within_15_eq, zL0, zL1, zL2, zL3, zL4, zL5, zL6, zL7, zL8, zL9, zL10, zL12, zL20, zL30, zL31, zL32, zL44, zL48, zL49, zL50, zL56, zL59, zL60, zL61, zL64, zL65, zL97, zL99, zL100, zL101, zL102, zL103, zL104, zL111, zL119, zL126, zL255, zL512, zL617, zL65535, zL65536, zL1048576, zlt, zle, zeq, ztn, zin, zzb, zadd, zmul, zm_lt, zm_gt, zm_le, zm_ge, zm_eq, zm_eq', zm_in, if_pos, if_neg, bI_s, bJ_s, bA_s, bU_s, if_true, if_false, reduceIte, or_true, true_or, or_false, false_or, and_true, true_and, and_false, false_and, not_true_eq_false, not_false_eq_true, Nat.reduceEqDiff, Nat.zero_ne_one, Nat.one_ne_zero]
    by_cases a2 : y ≤ nI 20
    · have hwi : ∀ S1 : Mem, f_Mod_within y (-nI 20) (nI 20) S1 = some (nI 1, S1) := fun S1 => by
        rw [f_Mod_within_eq]
        simp (disch := omega) only [z20, a1, a2, k_Mod_within_14_eq, k_Mod_within_15_eq, zL0, zL1, zL2, zL3, zL4, zL5, zL6, zL7, zL8, zL9, zL10, zL12, zL20, zL30, zL31, zL32, zL44, zL48, zL49, zL50, zL56, zL59, zL60, zL61, zL64, zL65, zL97, zL99, zL100, zL101, zL102, zL103, zL104, zL111, zL119, zL126, zL255, zL512, zL617, zL65535, zL65536, zL1048576, zlt, zle, zeq, ztn, zin, zzb, zadd, zmul, zm_lt, zm_gt, zm_le, zm_ge, zm_eq, zm_eq', zm_in, if_pos, if_neg, bI_s, bJ_s, bA_s, bU_s, if_true, if_false, reduceIte, or_true, true_or, or_false, false_or, and_true, true_and, and_false, false_and, not_true_eq_false, not_false_eq_true, Nat.reduceEqDiff, Nat.zero_ne_one, Nat.one_ne_zero]
      have hA := cw_isA hr hd.2.1 hi (k := 1) (by omega)
      have eL := hr.load i hi
      have eC := hr.cor i hi
      have eH := hr.hp (D 60 i) wi.2.1
      have mK := hm.r 59 i (by omega)
      have mL := hm.r 62 i (by omega)
      have mC := hm.r 60 i (by omega)
      have mH := hm.r 66 (D 60 i) (by omega)
      -- the common road to STATE
      by_cases b1 : D 59 i = 1 ∨ D 59 i = 3
      · rw [if_pos (by omega)] at hA
        have hmt : ∀ S1 : Mem, S1.1 59 i = nI (D 59 i) → f_Mod_isWalker (nI i) S1 = some (nI 1, S1) → f_Mod_take (nI i) y S1 = k_Mod_take_50 (nI i) y (nI 1) S1 := by
          intro S1 k1 k2
          rw [f_Mod_take_eq]
          rcases b1 with b1 | b1
          · simp (disch := omega) only [k2, hwi, k1, b1, k_Mod_take_45_eq, zL0, zL1, zL2, zL3, zL4, zL5, zL6, zL7, zL8, zL9, zL10, zL12, zL20, zL30, zL31, zL32, zL44, zL48, zL49, zL50, zL56, zL59, zL60, zL61, zL64, zL65, zL97, zL99, zL100, zL101, zL102, zL103, zL104, zL111, zL119, zL126, zL255, zL512, zL617, zL65535, zL65536, zL1048576, zlt, zle, zeq, ztn, zin, zzb, zadd, zmul, zm_lt, zm_gt, zm_le, zm_ge, zm_eq, zm_eq', zm_in, if_pos, if_neg, bI_s, bJ_s, bA_s, bU_s, if_true, if_false, reduceIte, or_true, true_or, or_false, false_or, and_true, true_and, and_false, false_and, not_true_eq_false, not_false_eq_true, Nat.reduceEqDiff, Nat.zero_ne_one, Nat.one_ne_zero]
          · simp (disch := omega) only [k2, hwi, k1, b1, k_Mod_take_45_eq, zL0, zL1, zL2, zL3, zL4, zL5, zL6, zL7, zL8, zL9, zL10, zL12, zL20, zL30, zL31, zL32, zL44, zL48, zL49, zL50, zL56, zL59, zL60, zL61, zL64, zL65, zL97, zL99, zL100, zL101, zL102, zL103, zL104, zL111, zL119, zL126, zL255, zL512, zL617, zL65535, zL65536, zL1048576, zlt, zle, zeq, ztn, zin, zzb, zadd, zmul, zm_lt, zm_gt, zm_le, zm_ge, zm_eq, zm_eq', zm_in, if_pos, if_neg, bI_s, bJ_s, bA_s, bU_s, if_true, if_false, reduceIte, or_true, true_or, or_false, false_or, and_true, true_and, and_false, false_and, not_true_eq_false, not_false_eq_true, Nat.reduceEqDiff, Nat.zero_ne_one, Nat.one_ne_zero]
        rcases zcase (nI (D 62 i) + y) with hl | ⟨l, hl, el⟩
        · refine CAL_00 h hc (r := -nI 103) ?_ ?_
          · rw [f_Top_take_eq]; simp (disch := omega) only [hat, oc, zL0, zL1, zL2, zL3, zL4, zL5, zL6, zL7, zL8, zL9, zL10, zL12, zL20, zL30, zL31, zL32, zL44, zL48, zL49, zL50, zL56, zL59, zL60, zL61, zL64, zL65, zL97, zL99, zL100, zL101, zL102, zL103, zL104, zL111, zL119, zL126, zL255, zL512, zL617, zL65535, zL65536, zL1048576, zlt, zle, zeq, ztn, zin, zzb, zadd, zmul, zm_lt, zm_gt, zm_le, zm_ge, zm_eq, zm_eq', zm_in, if_pos, if_neg, bI_s, bJ_s, bA_s, bU_s, if_true, if_false, reduceIte, or_true, true_or, or_false, false_or, and_true, true_and, and_false, false_and, not_true_eq_false, not_false_eq_true, Nat.reduceEqDiff, Nat.zero_ne_one, Nat.one_ne_zero, k_Top_take_16_eq (isW_i hi5), a1, a2, hA, eL, eC, ct_isLoad_n hl, k_Top_take_79_eq]
          · rw [hmt S mK hw, k_Mod_take_50_eq]; simp (disch := omega) only [mC, mL, mo_within_n hl, k_Mod_take_98_eq, zL0, zL1, zL2, zL3, zL4, zL5, zL6, zL7, zL8, zL9, zL10, zL12, zL20, zL30, zL31, zL32, zL44, zL48, zL49, zL50, zL56, zL59, zL60, zL61, zL64, zL65, zL97, zL99, zL100, zL101, zL102, zL103, zL104, zL111, zL119, zL126, zL255, zL512, zL617, zL65535, zL65536, zL1048576, zlt, zle, zeq, ztn, zin, zzb, zadd, zmul, zm_lt, zm_gt, zm_le, zm_ge, zm_eq, zm_eq', zm_in, if_pos, if_neg, bI_s, bJ_s, bA_s, bU_s, if_true, if_false, reduceIte, or_true, true_or, or_false, false_or, and_true, true_and, and_false, false_and, not_true_eq_false, not_false_eq_true, Nat.reduceEqDiff, Nat.zero_ne_one, Nat.one_ne_zero]
        · by_cases l20 : l ≤ 20
          · rcases zcase (nI (D 66 (D 60 i)) - y) with hh | ⟨p, hp, ep⟩
            · refine CAL_00 h hc (r := -nI 103) ?_ ?_
              · rw [f_Top_take_eq]; simp (disch := omega) only [hat, oc, zL0, zL1, zL2, zL3, zL4, zL5, zL6, zL7, zL8, zL9, zL10, zL12, zL20, zL30, zL31, zL32, zL44, zL48, zL49, zL50, zL56, zL59, zL60, zL61, zL64, zL65, zL97, zL99, zL100, zL101, zL102, zL103, zL104, zL111, zL119, zL126, zL255, zL512, zL617, zL65535, zL65536, zL1048576, zlt, zle, zeq, ztn, zin, zzb, zadd, zmul, zm_lt, zm_gt, zm_le, zm_ge, zm_eq, zm_eq', zm_in, if_pos, if_neg, bI_s, bJ_s, bA_s, bU_s, if_true, if_false, reduceIte, or_true, true_or, or_false, false_or, and_true, true_and, and_false, false_and, not_true_eq_false, not_false_eq_true, Nat.reduceEqDiff, Nat.zero_ne_one, Nat.one_ne_zero, k_Top_take_16_eq (isW_i hi5), a1, a2, hA, eL, eC, el, ct_isLoad, eH, ct_isHeap_n hh, k_Top_take_79_eq, Nat.reduceAdd]
              · rw [hmt S mK hw, k_Mod_take_50_eq]; simp (disch := omega) only [mC, mL, el, mo_within, mH, mo_within_n hh, k_Mod_take_98_eq, zL0, zL1, zL2, zL3, zL4, zL5, zL6, zL7, zL8, zL9, zL10, zL12, zL20, zL30, zL31, zL32, zL44, zL48, zL49, zL50, zL56, zL59, zL60, zL61, zL64, zL65, zL97, zL99, zL100, zL101, zL102, zL103, zL104, zL111, zL119, zL126, zL255, zL512, zL617, zL65535, zL65536, zL1048576, zlt, zle, zeq, ztn, zin, zzb, zadd, zmul, zm_lt, zm_gt, zm_le, zm_ge, zm_eq, zm_eq', zm_in, if_pos, if_neg, bI_s, bJ_s, bA_s, bU_s, if_true, if_false, reduceIte, or_true, true_or, or_false, false_or, and_true, true_and, and_false, false_and, not_true_eq_false, not_false_eq_true, Nat.reduceEqDiff, Nat.zero_ne_one, Nat.one_ne_zero]
            · by_cases p99 : p ≤ 99
              · have hd1 := okD_h (k := D 60 i) hd p99
                have hd2 := okD_l (i := i) hd1 l20
                obtain ⟨S1, hS1⟩ : ∃ S1, S1 = u1 (u1 S (17 + 2 * i) 3 (nI l)) 16 (D 60 i) (nI p) := ⟨_, rfl⟩
                have hcomm : S1 = u1 (u1 S 16 (D 60 i) (nI p)) (17 + 2 * i) 3 (nI l) := by
                  rw [hS1]
                  refine Prod.ext ?_ rfl
                  funext a k
                  by_cases q1 : a = 17 + 2 * i ∧ k = 3
                  · rw [zuN (by omega), zuS q1, zuS q1]
                  · rw [zuN (a := 17 + 2 * i) q1]
                    by_cases q2 : a = 16 ∧ k = D 60 i
                    · rw [zuS q2, zuS q2]
                    · rw [zuN q2, zuN q2, zuN q1]
                have hr1 : RC (dS (dS D 66 (dU (D 66) (D 60 i) p)) 62 (dU (D 62) i l)) S1 := by
                  rw [hcomm]
                  exact RC_l hd1 (RC_h hd hr wi.2.1 p99) hi l20
                have hm1 : RM D S1 := RM_T hm (fun a k q => by rw [hS1]; simp (disch := omega) only [zuS, zuN, zu2, zv1, zvS, zvN])
                refine ⟨nI l, S1, u1 (u1 S1 66 (D 60 i) (nI p)) 62 i (nI l), dS (dS D 66 (dU (D 66) (D 60 i) p)) 62 (dU (D 62) i l), ?_, ?_, hd2, RC_M hd2 hr1 (fun a k q => by simp (disch := omega) only [zuS, zuN, zu2, zv1, zvS, zvN]), RM_u1 (RM_u1 hm1), by show D 55 6 ≤ c + 1; omega, Nat.zero_le _, by omega⟩
                · rw [f_Top_take_eq]; simp (disch := omega) only [hat, oc, zL0, zL1, zL2, zL3, zL4, zL5, zL6, zL7, zL8, zL9, zL10, zL12, zL20, zL30, zL31, zL32, zL44, zL48, zL49, zL50, zL56, zL59, zL60, zL61, zL64, zL65, zL97, zL99, zL100, zL101, zL102, zL103, zL104, zL111, zL119, zL126, zL255, zL512, zL617, zL65535, zL65536, zL1048576, zlt, zle, zeq, ztn, zin, zzb, zadd, zmul, zm_lt, zm_gt, zm_le, zm_ge, zm_eq, zm_eq', zm_in, if_pos, if_neg, bI_s, bJ_s, bA_s, bU_s, if_true, if_false, reduceIte, or_true, true_or, or_false, false_or, and_true, true_and, and_false, false_and, not_true_eq_false, not_false_eq_true, Nat.reduceEqDiff, Nat.zero_ne_one, Nat.one_ne_zero, zuS, zuN, zu2, zv1, zvS, zvN, k_Top_take_16_eq (isW_i hi5), a1, a2, hA, eL, eC, el, ct_isLoad, eH, ep, ct_isHeap, Nat.reduceAdd, hS1]
                · rw [hmt S1 (hm1.r 59 i (by omega)) (by rw [mo_isWalker hm1 hd.2.1.1 (by omega), if_pos hi]), k_Mod_take_50_eq]; simp (disch := omega) only [hm1.r, el, ep, mo_within, zL0, zL1, zL2, zL3, zL4, zL5, zL6, zL7, zL8, zL9, zL10, zL12, zL20, zL30, zL31, zL32, zL44, zL48, zL49, zL50, zL56, zL59, zL60, zL61, zL64, zL65, zL97, zL99, zL100, zL101, zL102, zL103, zL104, zL111, zL119, zL126, zL255, zL512, zL617, zL65535, zL65536, zL1048576, zlt, zle, zeq, ztn, zin, zzb, zadd, zmul, zm_lt, zm_gt, zm_le, zm_ge, zm_eq, zm_eq', zm_in, if_pos, if_neg, bI_s, bJ_s, bA_s, bU_s, if_true, if_false, reduceIte, or_true, true_or, or_false, false_or, and_true, true_and, and_false, false_and, not_true_eq_false, not_false_eq_true, Nat.reduceEqDiff, Nat.zero_ne_one, Nat.one_ne_zero, zuS, zuN, zu2, zv1, zvS, zvN]
              · refine CAL_00 h hc (r := -nI 103) ?_ ?_
                · rw [f_Top_take_eq]; simp (disch := omega) only [hat, oc, zL0, zL1, zL2, zL3, zL4, zL5, zL6, zL7, zL8, zL9, zL10, zL12, zL20, zL30, zL31, zL32, zL44, zL48, zL49, zL50, zL56, zL59, zL60, zL61, zL64, zL65, zL97, zL99, zL100, zL101, zL102, zL103, zL104, zL111, zL119, zL126, zL255, zL512, zL617, zL65535, zL65536, zL1048576, zlt, zle, zeq, ztn, zin, zzb, zadd, zmul, zm_lt, zm_gt, zm_le, zm_ge, zm_eq, zm_eq', zm_in, if_pos, if_neg, bI_s, bJ_s, bA_s, bU_s, if_true, if_false, reduceIte, or_true, true_or, or_false, false_or, and_true, true_and, and_false, false_and, not_true_eq_false, not_false_eq_true, Nat.reduceEqDiff, Nat.zero_ne_one, Nat.one_ne_zero, k_Top_take_16_eq (isW_i hi5), a1, a2, hA, eL, eC, el, ct_isLoad, eH, ep, ct_isHeap, k_Top_take_79_eq, Nat.reduceAdd]
                · rw [hmt S mK hw, k_Mod_take_50_eq]; simp (disch := omega) only [mC, mL, el, mo_within, mH, ep, k_Mod_take_98_eq, zL0, zL1, zL2, zL3, zL4, zL5, zL6, zL7, zL8, zL9, zL10, zL12, zL20, zL30, zL31, zL32, zL44, zL48, zL49, zL50, zL56, zL59, zL60, zL61, zL64, zL65, zL97, zL99, zL100, zL101, zL102, zL103, zL104, zL111, zL119, zL126, zL255, zL512, zL617, zL65535, zL65536, zL1048576, zlt, zle, zeq, ztn, zin, zzb, zadd, zmul, zm_lt, zm_gt, zm_le, zm_ge, zm_eq, zm_eq', zm_in, if_pos, if_neg, bI_s, bJ_s, bA_s, bU_s, if_true, if_false, reduceIte, or_true, true_or, or_false, false_or, and_true, true_and, and_false, false_and, not_true_eq_false, not_false_eq_true, Nat.reduceEqDiff, Nat.zero_ne_one, Nat.one_ne_zero]
          · refine CAL_00 h hc (r := -nI 103) ?_ ?_
            · rw [f_Top_take_eq]; simp (disch := omega) only [hat, oc, zL0, zL1, zL2, zL3, zL4, zL5, zL6, zL7, zL8, zL9, zL10, zL12, zL20, zL30, zL31, zL32, zL44, zL48, zL49, zL50, zL56, zL59, zL60, zL61, zL64, zL65, zL97, zL99, zL100, zL101, zL102, zL103, zL104, zL111, zL119, zL126, zL255, zL512, zL617, zL65535, zL65536, zL1048576, zlt, zle, zeq, ztn, zin, zzb, zadd, zmul, zm_lt, zm_gt, zm_le, zm_ge, zm_eq, zm_eq', zm_in, if_pos, if_neg, bI_s, bJ_s, bA_s, bU_s, if_true, if_false, reduceIte, or_true, true_or, or_false, false_or, and_true, true_and, and_false, false_and, not_true_eq_false, not_false_eq_true, Nat.reduceEqDiff, Nat.zero_ne_one, Nat.one_ne_zero, k_Top_take_16_eq (isW_i hi5), a1, a2, hA, eL, eC, el, ct_isLoad, k_Top_take_79_eq]
            · rw [hmt S mK hw, k_Mod_take_50_eq]; simp (disch := omega) only [mC, mL, el, mo_within, k_Mod_take_98_eq, zL0, zL1, zL2, zL3, zL4, zL5, zL6, zL7, zL8, zL9, zL10, zL12, zL20, zL30, zL31, zL32, zL44, zL48, zL49, zL50, zL56, zL59, zL60, zL61, zL64, zL65, zL97, zL99, zL100, zL101, zL102, zL103, zL104, zL111, zL119, zL126, zL255, zL512, zL617, zL65535, zL65536, zL1048576, zlt, zle, zeq, ztn, zin, zzb, zadd, zmul, zm_lt, zm_gt, zm_le, zm_ge, zm_eq, zm_eq', zm_in, if_pos, if_neg, bI_s, bJ_s, bA_s, bU_s, if_true, if_false, reduceIte, or_true, true_or, or_false, false_or, and_true, true_and, and_false, false_and, not_true_eq_false, not_false_eq_true, Nat.reduceEqDiff, Nat.zero_ne_one, Nat.one_ne_zero]
      · rw [if_neg (by omega)] at hA
        refine CAL_00 h hc (r := -nI 103) ?_ ?_
        · rw [f_Top_take_eq]; simp (disch := omega) only [hat, oc, zL0, zL1, zL2, zL3, zL4, zL5, zL6, zL7, zL8, zL9, zL10, zL12, zL20, zL30, zL31, zL32, zL44, zL48, zL49, zL50, zL56, zL59, zL60, zL61, zL64, zL65, zL97, zL99, zL100, zL101, zL102, zL103, zL104, zL111, zL119, zL126, zL255, zL512, zL617, zL65535, zL65536, zL1048576, zlt, zle, zeq, ztn, zin, zzb, zadd, zmul, zm_lt, zm_gt, zm_le, zm_ge, zm_eq, zm_eq', zm_in, if_pos, if_neg, bI_s, bJ_s, bA_s, bU_s, if_true, if_false, reduceIte, or_true, true_or, or_false, false_or, and_true, true_and, and_false, false_and, not_true_eq_false, not_false_eq_true, Nat.reduceEqDiff, Nat.zero_ne_one, Nat.one_ne_zero, k_Top_take_16_eq (isW_i hi5), a1, a2, hA, eL, eC, k_Top_take_79_eq]
        · rw [f_Mod_take_eq]; simp (disch := omega) only [hw, hwi, mK, k_Mod_take_50_eq, mC, k_Mod_take_98_eq, zL0, zL1, zL2, zL3, zL4, zL5, zL6, zL7, zL8, zL9, zL10, zL12, zL20, zL30, zL31, zL32, zL44, zL48, zL49, zL50, zL56, zL59, zL60, zL61, zL64, zL65, zL97, zL99, zL100, zL101, zL102, zL103, zL104, zL111, zL119, zL126, zL255, zL512, zL617, zL65535, zL65536, zL1048576, zlt, zle, zeq, ztn, zin, zzb, zadd, zmul, zm_lt, zm_gt, zm_le, zm_ge, zm_eq, zm_eq', zm_in, if_pos, if_neg, bI_s, bJ_s, bA_s, bU_s, if_true, if_false, reduceIte, or_true, true_or, or_false, false_or, and_true, true_and, and_false, false_and, not_true_eq_false, not_false_eq_true, Nat.reduceEqDiff, Nat.zero_ne_one, Nat.one_ne_zero]
    · refine CAL_00 h hc (r := -nI 102) ?_ ?_
      · rw [f_Top_take_eq]; simp (disch := omega) only [hat, oc, zL0, zL1, zL2, zL3, zL4, zL5, zL6, zL7, zL8, zL9, zL10, zL12, zL20, zL30, zL31, zL32, zL44, zL48, zL49, zL50, zL56, zL59, zL60, zL61, zL64, zL65, zL97, zL99, zL100, zL101, zL102, zL103, zL104, zL111, zL119, zL126, zL255, zL512, zL617, zL65535, zL65536, zL1048576, zlt, zle, zeq, ztn, zin, zzb, zadd, zmul, zm_lt, zm_gt, zm_le, zm_ge, zm_eq, zm_eq', zm_in, if_pos, if_neg, bI_s, bJ_s, bA_s, bU_s, if_true, if_false, reduceIte, or_true, true_or, or_false, false_or, and_true, true_and, and_false, false_and, not_true_eq_false, not_false_eq_true, Nat.reduceEqDiff, Nat.zero_ne_one, Nat.one_ne_zero, k_Top_take_16_eq (isW_i hi5), a1, a2, k_Top_take_28_eq]
      · rw [f_Mod_take_eq]; simp (disch := omega) only [hw, f_Mod_within_eq, a1, a2, z20, k_Mod_within_14_eq, k_Mod_within_15_eq, zL0, zL1, zL2, zL3, zL4, zL5, zL6, zL7, zL8, zL9, zL10, zL12, zL20, zL30, zL31, zL32, zL44, zL48, zL49, zL50, zL56, zL59, zL60, zL61, zL64, zL65, zL97, zL99, zL100, zL101, zL102, zL103, zL104, zL111, zL119, zL126, zL255, zL512, zL617, zL65535, zL65536, zL1048576, zlt, zle, zeq, ztn, zin, zzb, zadd, zmul, zm_lt, zm_gt, zm_le, zm_ge, zm_eq, zm_eq', zm_in, if_pos, if_neg, bI_s, bJ_s, bA_s, bU_s, if_true, if_false, reduceIte, or_true, true_or, or_false, false_or, and_true, true_and, and_false, false_and, not_true_eq_false, not_false_eq_true, Nat.reduceEqDiff, Nat.zero_ne_one, Nat.one_ne_zero]
  · refine CAL_00 h hc (r := -nI 101) ?_ ?_
    · rw [f_Top_take_eq]; simp (disch := omega) only [hat, oc, zL0, zL1, zL2, zL3, zL4, zL5, zL6, zL7, zL8, zL9, zL10, zL12, zL20, zL30, zL31, zL32, zL44, zL48, zL49, zL50, zL56, zL59, zL60, zL61, zL64, zL65, zL97, zL99, zL100, zL101, zL102, zL103, zL104, zL111, zL119, zL126, zL255, zL512, zL617, zL65535, zL65536, zL1048576, zlt, zle, zeq, ztn, zin, zzb, zadd, zmul, zm_lt, zm_gt, zm_le, zm_ge, zm_eq, zm_eq', zm_in, if_pos, if_neg, bI_s, bJ_s, bA_s, bU_s, if_true, if_false, reduceIte, or_true, true_or, or_false, false_or, and_true, true_and, and_false, false_and, not_true_eq_false, not_false_eq_true, Nat.reduceEqDiff, Nat.zero_ne_one, Nat.one_ne_zero, k_Top_take_13_eq]
    · rw [f_Mod_take_eq]; simp (disch := omega) only [hw, zL0, zL1, zL2, zL3, zL4, zL5, zL6, zL7, zL8, zL9, zL10, zL12, zL20, zL30, zL31, zL32, zL44, zL48, zL49, zL50, zL56, zL59, zL60, zL61, zL64, zL65, zL97, zL99, zL100, zL101, zL102, zL103, zL104, zL111, zL119, zL126, zL255, zL512, zL617, zL65535, zL65536, zL1048576, zlt, zle, zeq, ztn, zin, zzb, zadd, zmul, zm_lt, zm_gt, zm_le, zm_ge, zm_eq, zm_eq', zm_in, if_pos, if_neg, bI_s, bJ_s, bA_s, bU_s, if_true, if_false, reduceIte, or_true, true_or, or_false, false_or, and_true, true_and, and_false, false_and, not_true_eq_false, not_false_eq_true, Nat.reduceEqDiff, Nat.zero_ne_one, Nat.one_ne_zero]
end WR
