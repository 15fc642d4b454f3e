/-! the calls fits and sure -/
section AF
variable {c : Nat} {D : DD} {S : Mem}
theorem ask_fits (h : Inv c D S) (hc : c < 512) (x : Int32) : CAL c S (f_Top_fits x) (f_Mod_fits x) := by
  obtain ⟨hd, hr, hm, h4, h5, h6⟩ := id h
  rcases ct_isSet hd hr (x := x) with ⟨set, rfl, hs, e⟩ | ⟨hs, e⟩
  · refine CAL_0 h hc (r := nI (fitsN D set)) ?_ (fun S1 r1 m1 => ?_)
    · obtain ⟨S1, e1, f1, _⟩ := cl_ways hd hs hr
      refine ⟨S1, ?_, f1⟩
      rw [f_Top_fits_eq]
      simp (disch := omega) only [zL0, zL1, zL2, zL3, zL4, zL5, zL6, zL7, zL8, zL9, zL10, zL12, zL20, zL30, zL31, zL32, zL44, zL48, zL49, zL50, zL56, zL59, zL60, zL61, zL64, zL65, zL97, zL99, zL100, zL101, zL102, zL103, zL104, zL111, zL119, zL126, zL255, zL512, zL617, zL65535, zL65536, zL1048576, zlt, zle, zeq, ztn, zin, zzb, zadd, zmul, zm_lt, zm_gt, zm_le, zm_ge, zm_eq, zm_eq', zm_in, if_pos, if_neg, bI_s, bJ_s, bA_s, bU_s, if_true, if_false, reduceIte, or_true, true_or, or_false, false_or, and_true, true_and, and_false, false_and, not_true_eq_false, not_false_eq_true, Nat.reduceEqDiff, Nat.zero_ne_one, Nat.one_ne_zero, e, e1, k_Top_fits_21_eq]
    · obtain ⟨S2, e2, m2, f2, _⟩ := mo_fitsNow hd hs (w := 0) (by omega) m1
      have hi := mo_isSet_t hd m1 hs
      refine ⟨S2, ?_, m2, f2⟩
      rw [f_Mod_fits_eq]
      simp (disch := omega) only [zL0, zL1, zL2, zL3, zL4, zL5, zL6, zL7, zL8, zL9, zL10, zL12, zL20, zL30, zL31, zL32, zL44, zL48, zL49, zL50, zL56, zL59, zL60, zL61, zL64, zL65, zL97, zL99, zL100, zL101, zL102, zL103, zL104, zL111, zL119, zL126, zL255, zL512, zL617, zL65535, zL65536, zL1048576, zlt, zle, zeq, ztn, zin, zzb, zadd, zmul, zm_lt, zm_gt, zm_le, zm_ge, zm_eq, zm_eq', zm_in, if_pos, if_neg, bI_s, bJ_s, bA_s, bU_s, if_true, if_false, reduceIte, or_true, true_or, or_false, false_or, and_true, true_and, and_false, false_and, not_true_eq_false, not_false_eq_true, Nat.reduceEqDiff, Nat.zero_ne_one, Nat.one_ne_zero, hi, e2, k_Mod_fits_19_eq]
  · have hi := mo_isSet_f hd hm hs
    refine CAL_00 h hc (r := -nI 102) ?_ ?_
    · rw [f_Top_fits_eq]; simp (disch := omega) only [zL0, zL1, zL2, zL3, zL4, zL5, zL6, zL7, zL8, zL9, zL10, zL12, zL20, zL30, zL31, zL32, zL44, zL48, zL49, zL50, zL56, zL59, zL60, zL61, zL64, zL65, zL97, zL99, zL100, zL101, zL102, zL103, zL104, zL111, zL119, zL126, zL255, zL512, zL617, zL65535, zL65536, zL1048576, zlt, zle, zeq, ztn, zin, zzb, zadd, zmul, zm_lt, zm_gt, zm_le, zm_ge, zm_eq, zm_eq', zm_in, if_pos, if_neg, bI_s, bJ_s, bA_s, bU_s, if_true, if_false, reduceIte, or_true, true_or, or_false, false_or, and_true, true_and, and_false, false_and, not_true_eq_false, not_false_eq_true, Nat.reduceEqDiff, Nat.zero_ne_one, Nat.one_ne_zero, e, k_Top_fits_21_eq]
    · rw [f_Mod_fits_eq]; simp (disch := omega) only [zL0, zL1, zL2, zL3, zL4, zL5, zL6, zL7, zL8, zL9, zL10, zL12, zL20, zL30, zL31, zL32, zL44, zL48, zL49, zL50, zL56, zL59, zL60, zL61, zL64, zL65, zL97, zL99, zL100, zL101, zL102, zL103, zL104, zL111, zL119, zL126, zL255, zL512, zL617, zL65535, zL65536, zL1048576, zlt, zle, zeq, ztn, zin, zzb, zadd, zmul, zm_lt, zm_gt, zm_le, zm_ge, zm_eq, zm_eq', zm_in, if_pos, if_neg, bI_s, bJ_s, bA_s, bU_s, if_true, if_false, reduceIte, or_true, true_or, or_false, false_or, and_true, true_and, and_false, false_and, not_true_eq_false, not_false_eq_true, Nat.reduceEqDiff, Nat.zero_ne_one, Nat.one_ne_zero, hi, k_Mod_fits_19_eq]
theorem cl_onlyOne {w lo hi n : Nat} (hw : w < 5) (hn : n < 2147483648) (h0 : n ≠ 0) (h7 : S.1 47 7 = nI n) (e1 : S.1 50 w = nI lo) (e2 : S.1 51 w = nI hi) (l1 : lo ≤ 20) (l2 : hi ≤ 20) : f_Loads_onlyOne (nI w) S = some (if lo = hi then nI lo else -nI 1, S) := by
  rw [f_Loads_onlyOne_eq]
  by_cases c : lo = hi
  · simp (disch := omega) only [zL0, zL1, zL2, zL3, zL4, zL5, zL6, zL7, zL8, zL9, zL10, zL12, zL20, zL30, zL31, zL32, zL44, zL48, zL49, zL50, zL56, zL59, zL60, zL61, zL64, zL65, zL97, zL99, zL100, zL101, zL102, zL103, zL104, zL111, zL119, zL126, zL255, zL512, zL617, zL65535, zL65536, zL1048576, zlt, zle, zeq, ztn, zin, zzb, zadd, zmul, zm_lt, zm_gt, zm_le, zm_ge, zm_eq, zm_eq', zm_in, if_pos, if_neg, bI_s, bJ_s, bA_s, bU_s, if_true, if_false, reduceIte, or_true, true_or, or_false, false_or, and_true, true_and, and_false, false_and, not_true_eq_false, not_false_eq_true, Nat.reduceEqDiff, Nat.zero_ne_one, Nat.one_ne_zero, h7, e1, e2, k_Loads_onlyOne_40_eq, k_Loads_onlyOne_41_eq]
  · simp (disch := omega) only [zL0, zL1, zL2, zL3, zL4, zL5, zL6, zL7, zL8, zL9, zL10, zL12, zL20, zL30, zL31, zL32, zL44, zL48, zL49, zL50, zL56, zL59, zL60, zL61, zL64, zL65, zL97, zL99, zL100, zL101, zL102, zL103, zL104, zL111, zL119, zL126, zL255, zL512, zL617, zL65535, zL65536, zL1048576, zlt, zle, zeq, ztn, zin, zzb, zadd, zmul, zm_lt, zm_gt, zm_le, zm_ge, zm_eq, zm_eq', zm_in, if_pos, if_neg, bI_s, bJ_s, bA_s, bU_s, if_true, if_false, reduceIte, or_true, true_or, or_false, false_or, and_true, true_and, and_false, false_and, not_true_eq_false, not_false_eq_true, Nat.reduceEqDiff, Nat.zero_ne_one, Nat.one_ne_zero, h7, e1, e2, k_Loads_onlyOne_40_eq, k_Loads_onlyOne_41_eq]
theorem sm_pos {f : Nat → Nat} : ∀ {n : Nat}, sm f n ≠ 0 → ∃ k, k < n ∧ f k ≠ 0
  | 0, h => absurd rfl h
  | n + 1, h => by
    by_cases e : f n = 0
    · have : sm f n ≠ 0 := fun q => h (by rw [sm, q, e])
      obtain ⟨k, h1, h2⟩ := sm_pos this
      exact ⟨k, by omega, h2⟩
    · exact ⟨n, by omega, e⟩
theorem ask_sure (h : Inv c D S) (hc : c < 512) (x y : Int32) : CAL c S (f_Top_sure x y) (f_Mod_sure x y) := by
  obtain ⟨hd, hr, hm, h4, h5, h6⟩ := id h
  rcases ask_w hd hr hm x with ⟨i, hi, hi5, rfl, hat, hw⟩ | ⟨_, hat, hw⟩
  rotate_left
  · refine CAL_00 h hc (r := -nI 101) ?_ ?_
    · rw [f_Top_sure_eq]; simp (disch := omega) only [hat, oc, zL0, zL1, zL2, zL3, zL4, zL5, zL6, zL7, zL8, zL9, zL10, zL12, zL20, zL30, zL31, zL32, zL44, zL48, zL49, zL50, zL56, zL59, zL60, zL61, zL64, zL65, zL97, zL99, zL100, zL101, zL102, zL103, zL104, zL111, zL119, zL126, zL255, zL512, zL617, zL65535, zL65536, zL1048576, zlt, zle, zeq, ztn, zin, zzb, zadd, zmul, zm_lt, zm_gt, zm_le, zm_ge, zm_eq, zm_eq', zm_in, if_pos, if_neg, bI_s, bJ_s, bA_s, bU_s, if_true, if_false, reduceIte, or_true, true_or, or_false, false_or, and_true, true_and, and_false, false_and, not_true_eq_false, not_false_eq_true, Nat.reduceEqDiff, Nat.zero_ne_one, Nat.one_ne_zero, k_Top_sure_11_eq]
    · rw [f_Mod_sure_eq]; simp (disch := omega) only [hw, zL0, zL1, zL2, zL3, zL4, zL5, zL6, zL7, zL8, zL9, zL10, zL12, zL20, zL30, zL31, zL32, zL44, zL48, zL49, zL50, zL56, zL59, zL60, zL61, zL64, zL65, zL97, zL99, zL100, zL101, zL102, zL103, zL104, zL111, zL119, zL126, zL255, zL512, zL617, zL65535, zL65536, zL1048576, zlt, zle, zeq, ztn, zin, zzb, zadd, zmul, zm_lt, zm_gt, zm_le, zm_ge, zm_eq, zm_eq', zm_in, if_pos, if_neg, bI_s, bJ_s, bA_s, bU_s, if_true, if_false, reduceIte, or_true, true_or, or_false, false_or, and_true, true_and, and_false, false_and, not_true_eq_false, not_false_eq_true, Nat.reduceEqDiff, Nat.zero_ne_one, Nat.one_ne_zero]
  rcases ct_isSet hd hr (x := y) with ⟨set, rfl, hs, e⟩ | ⟨hs, e⟩
  rotate_left
  · have hi := mo_isSet_f hd hm hs
    refine CAL_00 h hc (r := -nI 102) ?_ ?_
    · rw [f_Top_sure_eq]; simp (disch := omega) only [hat, oc, zL0, zL1, zL2, zL3, zL4, zL5, zL6, zL7, zL8, zL9, zL10, zL12, zL20, zL30, zL31, zL32, zL44, zL48, zL49, zL50, zL56, zL59, zL60, zL61, zL64, zL65, zL97, zL99, zL100, zL101, zL102, zL103, zL104, zL111, zL119, zL126, zL255, zL512, zL617, zL65535, zL65536, zL1048576, zlt, zle, zeq, ztn, zin, zzb, zadd, zmul, zm_lt, zm_gt, zm_le, zm_ge, zm_eq, zm_eq', zm_in, if_pos, if_neg, bI_s, bJ_s, bA_s, bU_s, if_true, if_false, reduceIte, or_true, true_or, or_false, false_or, and_true, true_and, and_false, false_and, not_true_eq_false, not_false_eq_true, Nat.reduceEqDiff, Nat.zero_ne_one, Nat.one_ne_zero, k_Top_sure_14_eq, e]
    · rw [f_Mod_sure_eq]; simp (disch := omega) only [hw, zL0, zL1, zL2, zL3, zL4, zL5, zL6, zL7, zL8, zL9, zL10, zL12, zL20, zL30, zL31, zL32, zL44, zL48, zL49, zL50, zL56, zL59, zL60, zL61, zL64, zL65, zL97, zL99, zL100, zL101, zL102, zL103, zL104, zL111, zL119, zL126, zL255, zL512, zL617, zL65535, zL65536, zL1048576, zlt, zle, zeq, ztn, zin, zzb, zadd, zmul, zm_lt, zm_gt, zm_le, zm_ge, zm_eq, zm_eq', zm_in, if_pos, if_neg, bI_s, bJ_s, bA_s, bU_s, if_true, if_false, reduceIte, or_true, true_or, or_false, false_or, and_true, true_and, and_false, false_and, not_true_eq_false, not_false_eq_true, Nat.reduceEqDiff, Nat.zero_ne_one, Nat.one_ne_zero, hi, k_Mod_sure_30_eq]
  obtain ⟨s32, s3, sW⟩ := isS_ok hd hs
  have hbit := zbit (g := set) (i := i) (by omega) (by omega)
  refine CAL_0 h hc (r := sul D set i 10 0) ?_ (fun S1 r1 m1 => ?_)
  rotate_left
  · obtain ⟨S2, e2, m2, f2⟩ := mo_sureNow hd hs hi m1
    have hi2 := mo_isSet_t hd m1 hs
    have hw1 : f_Mod_isWalker (nI i) S1 = some (nI 1, S1) := by rw [mo_isWalker m1 hd.2.1.1 (by omega), if_pos hi]
    refine ⟨S2, ?_, m2, f2⟩
    rw [f_Mod_sure_eq]
    simp (disch := omega) only [zL0, zL1, zL2, zL3, zL4, zL5, zL6, zL7, zL8, zL9, zL10, zL12, zL20, zL30, zL31, zL32, zL44, zL48, zL49, zL50, zL56, zL59, zL60, zL61, zL64, zL65, zL97, zL99, zL100, zL101, zL102, zL103, zL104, zL111, zL119, zL126, zL255, zL512, zL617, zL65535, zL65536, zL1048576, zlt, zle, zeq, ztn, zin, zzb, zadd, zmul, zm_lt, zm_gt, zm_le, zm_ge, zm_eq, zm_eq', zm_in, if_pos, if_neg, bI_s, bJ_s, bA_s, bU_s, if_true, if_false, reduceIte, or_true, true_or, or_false, false_or, and_true, true_and, and_false, false_and, not_true_eq_false, not_false_eq_true, Nat.reduceEqDiff, Nat.zero_ne_one, Nat.one_ne_zero, hw1, hi2, e2, k_Mod_sure_30_eq]
  rcases Bool.eq_false_or_eq_true (set.testBit i) with cb | cb
  rotate_left
  · rw [cb] at hbit
    refine ⟨S, ?_, frC_r S⟩
    rw [sul_none 10 0 (fun u _ _ q => by rw [cb] at q; exact absurd q.2 (by decide)), f_Top_sure_eq]
    simp (disch := omega) only [hat, oc, zL0, zL1, zL2, zL3, zL4, zL5, zL6, zL7, zL8, zL9, zL10, zL12, zL20, zL30, zL31, zL32, zL44, zL48, zL49, zL50, zL56, zL59, zL60, zL61, zL64, zL65, zL97, zL99, zL100, zL101, zL102, zL103, zL104, zL111, zL119, zL126, zL255, zL512, zL617, zL65535, zL65536, zL1048576, zlt, zle, zeq, ztn, zin, zzb, zadd, zmul, zm_lt, zm_gt, zm_le, zm_ge, zm_eq, zm_eq', zm_in, if_pos, if_neg, bI_s, bJ_s, bA_s, bU_s, if_true, if_false, reduceIte, or_true, true_or, or_false, false_or, and_true, true_and, and_false, false_and, not_true_eq_false, not_false_eq_true, Nat.reduceEqDiff, Nat.zero_ne_one, Nat.one_ne_zero, k_Top_sure_14_eq, e, hbit, k_Top_sure_44_eq, Bool.false_eq_true]
  rw [cb] at hbit
  obtain ⟨S1, e1, f1, w1, hf⟩ := cl_ways hd hs hr
  have hfl : fitsN D set ≤ 10 ^ bc set 5 * 1 := sm_le (fun k _ => by split <;> omega)
  have hp10 := pw10 (bc set 5) s3
  have hlc : ∀ c, Lc D set c i = dg c (bc set i) := fun c => if_pos cb
  by_cases h0 : fitsN D set = 0
  · refine ⟨S1, ?_, f1⟩
    have hno : ∀ c, c < 10 ^ bc set 5 → ¬ okc D set c = true := fun c hcl q => by
      have : ∀ n, c < n → sm (fun c => if okc D set c then 1 else 0) n ≠ 0 := by
        intro n
        induction n with
        | zero => intro hh; omega
        | succ n ih =>
          intro hh
          rw [sm]
          by_cases ee : c = n
          · rw [← ee, if_pos q]; omega
          · have := ih (by omega); omega
      exact this _ hcl h0
    rw [sul_none 10 0 (fun u _ _ q => by
      have hb : (mkm D set i (10 ^ bc set 5)).testBit u = true := by rw [q.1, Nat.testBit_two_pow_self]
      obtain ⟨c, c1, c2, _⟩ := mkm_bit.mp hb
      exact hno c c1 c2), f_Top_sure_eq]
    simp (disch := omega) only [hat, oc, zL0, zL1, zL2, zL3, zL4, zL5, zL6, zL7, zL8, zL9, zL10, zL12, zL20, zL30, zL31, zL32, zL44, zL48, zL49, zL50, zL56, zL59, zL60, zL61, zL64, zL65, zL97, zL99, zL100, zL101, zL102, zL103, zL104, zL111, zL119, zL126, zL255, zL512, zL617, zL65535, zL65536, zL1048576, zlt, zle, zeq, ztn, zin, zzb, zadd, zmul, zm_lt, zm_gt, zm_le, zm_ge, zm_eq, zm_eq', zm_in, if_pos, if_neg, bI_s, bJ_s, bA_s, bU_s, if_true, if_false, reduceIte, or_true, true_or, or_false, false_or, and_true, true_and, and_false, false_and, not_true_eq_false, not_false_eq_true, Nat.reduceEqDiff, Nat.zero_ne_one, Nat.one_ne_zero, k_Top_sure_14_eq, e, hbit, k_Top_sure_44_eq, e1]
  obtain ⟨w7, wk⟩ := hf h0
  obtain ⟨b1, b2⟩ := mem_of set s32 i hi5 cb
  obtain ⟨lo, hi', g1, g2, g3, g4, g5, g6, g7⟩ := wk (bc set i) b1
  rw [b2] at g1 g2
  obtain ⟨c0, q1, q2⟩ := sm_pos h0
  have q3 : okc D set c0 = true := by
    cases ee : okc D set c0
    · rw [ee] at q2; exact absurd rfl q2
    · rfl
  obtain ⟨⟨cl, ⟨k1, k2⟩, k3⟩, ⟨ch, ⟨l1, l2⟩, l3⟩⟩ := g6 ⟨c0, q1, q3⟩
  have eo1 := cl_onlyOne (S := S1) hi5 (n := fitsN D set) (by omega) h0 w7 g1 g2 g3 g4
  have hres : sul D set i 10 0 = if lo = hi' then nI lo else -nI 1 := by
    by_cases ee : lo = hi'
    · rw [if_pos ee]
      refine sul_some ?_ cb 10 0 (Nat.zero_le _) (by rw [← k3]; have := dg_lt cl (bc set i); omega)
      refine Nat.eq_of_testBit_eq (fun v => ?_)
      rw [Bool.eq_iff_iff, mkm_bit, Nat.testBit_two_pow, decide_eq_true_eq]
      constructor
      · rintro ⟨c, c1, c2, c3⟩
        rw [hlc] at c3
        have := g5 c ⟨c1, c2⟩
        omega
      · intro hv
        exact ⟨cl, k1, k2, by rw [hlc, k3, hv]⟩
    · rw [if_neg ee]
      refine sul_none 10 0 (fun u _ _ q => ee ?_)
      have hb1 : (mkm D set i (10 ^ bc set 5)).testBit lo = true := mkm_bit.mpr ⟨cl, k1, k2, by rw [hlc, k3]⟩
      have hb2 : (mkm D set i (10 ^ bc set 5)).testBit hi' = true := mkm_bit.mpr ⟨ch, l1, l2, by rw [hlc, l3]⟩
      rw [q.1, Nat.testBit_two_pow, decide_eq_true_eq] at hb1 hb2
      omega
  refine ⟨S1, ?_, f1⟩
  rw [hres, f_Top_sure_eq]
  simp (disch := omega) only [hat, oc, zL0, zL1, zL2, zL3, zL4, zL5, zL6, zL7, zL8, zL9, zL10, zL12, zL20, zL30, zL31, zL32, zL44, zL48, zL49, zL50, zL56, zL59, zL60, zL61, zL64, zL65, zL97, zL99, zL100, zL101, zL102, zL103, zL104, zL111, zL119, zL126, zL255, zL512, zL617, zL65535, zL65536, zL1048576, zlt, zle, zeq, ztn, zin, zzb, zadd, zmul, zm_lt, zm_gt, zm_le, zm_ge, zm_eq, zm_eq', zm_in, if_pos, if_neg, bI_s, bJ_s, bA_s, bU_s, if_true, if_false, reduceIte, or_true, true_or, or_false, false_or, and_true, true_and, and_false, false_and, not_true_eq_false, not_false_eq_true, Nat.reduceEqDiff, Nat.zero_ne_one, Nat.one_ne_zero, k_Top_sure_14_eq, e, hbit, e1, eo1]
end AF
