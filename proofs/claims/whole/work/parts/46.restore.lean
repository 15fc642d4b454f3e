/-! restore, count -/
section RE
variable {c : Nat} {D : DD} {S : Mem}
def reD (D : DD) : DD := dS (dS (dS (dS (dS (dS (dS D 55 (dU (dU (D 55) 7 (D 55 44)) 16 (D 55 45))) 60 (fun k => if k < 5 then D 78 k else D 60 k)) 62 (fun k => if k < 5 then D 79 k else D 62 k)) 64 (fun k => if k < 5 then D 80 k else D 64 k)) 65 (fun k => if k < 5 then D 81 k else D 65 k)) 63 (fun k => if k < 100 then D 82 k else D 63 k)) 66 (fun k => if k < 8 then D 83 k else D 66 k)
theorem mo_restore (hm : RM D S) (hK : hasK D) (h6' : D 55 6 < 2147483648) : ∃ S', f_Mod_restore S = some (nI (D 55 45), S') ∧ RM (reD D) S' ∧ frM S S' := by
  obtain ⟨Sa, hSa⟩ : ∃ Sa, Sa = u1 (u1 S 55 7 (nI (D 55 44))) 55 16 (nI (D 55 45)) := ⟨_, rfl⟩
  obtain ⟨S1, e1, f1, p1⟩ := zfor (fun i S => k_Mod_restore_39 (nI i) S) 5 (fun i S1 => (∀ x k, x ≠ 60 → x ≠ 62 → x ≠ 64 → x ≠ 65 → S1.1 x k = Sa.1 x k) ∧ ∀ j, S1.1 60 j = nI (if j < i then D 78 j else D 60 j) ∧ S1.1 62 j = nI (if j < i then D 79 j else D 62 j) ∧ S1.1 64 j = nI (if j < i then D 80 j else D 64 j) ∧ S1.1 65 j = nI (if j < i then D 81 j else D 65 j)) (by
    intro i S1 hi ⟨f1, p1⟩
    have b0 : S1.1 78 i = nI (D 78 i) := by rw [f1 _ _ (by omega) (by omega) (by omega) (by omega), hSa]; simp (disch := omega) only [zuS, zuN, zu2, zv1, zvS, zvN]; exact hm.r 78 i (by omega)
    have b2 : S1.1 79 i = nI (D 79 i) := by rw [f1 _ _ (by omega) (by omega) (by omega) (by omega), hSa]; simp (disch := omega) only [zuS, zuN, zu2, zv1, zvS, zvN]; exact hm.r 79 i (by omega)
    have b4 : S1.1 80 i = nI (D 80 i) := by rw [f1 _ _ (by omega) (by omega) (by omega) (by omega), hSa]; simp (disch := omega) only [zuS, zuN, zu2, zv1, zvS, zvN]; exact hm.r 80 i (by omega)
    have b5 : S1.1 81 i = nI (D 81 i) := by rw [f1 _ _ (by omega) (by omega) (by omega) (by omega), hSa]; simp (disch := omega) only [zuS, zuN, zu2, zv1, zvS, zvN]; exact hm.r 81 i (by omega)
    refine ⟨u1 (u1 (u1 (u1 S1 60 i (nI (D 78 i))) 62 i (nI (D 79 i))) 64 i (nI (D 80 i))) 65 i (nI (D 81 i)), ?_, fun x k q0 q1 q2 q3 => ?_, fun j => ?_⟩
    · rw [k_Mod_restore_39_eq]
      simp (disch := omega) only [zL0, zL1, zL2, zL3, zL4, zL5, zL6, zL7, zL8, zL9, zL10, zL12, zL20, zL30, zL31, zL32, zL44, zL48, zL49, zL50, zL56, zL59, zL60, zL61, zL64, zL65, zL97, zL99, zL100, zL101, zL102, zL103, zL104, zL111, zL119, zL126, zL255, zL512, zL617, zL65535, zL65536, zL1048576, zlt, zle, zeq, ztn, zin, zzb, zadd, zmul, zm_lt, zm_gt, zm_le, zm_ge, zm_eq, zm_eq', zm_in, if_pos, if_neg, bI_s, bJ_s, bA_s, bU_s, if_true, if_false, reduceIte, or_true, true_or, or_false, false_or, and_true, true_and, and_false, false_and, not_true_eq_false, not_false_eq_true, Nat.reduceEqDiff, Nat.zero_ne_one, Nat.one_ne_zero, zuS, zuN, zu2, zv1, zvS, zvN, b0, b2, b4, b5]
    · simp (disch := omega) only [zuS, zuN, zu2, zv1, zvS, zvN]; exact f1 x k q0 q1 q2 q3
    · by_cases e : j = i
      · subst e
        refine ⟨?_, ?_, ?_, ?_⟩ <;> rw [if_pos (by omega)] <;> simp (disch := omega) only [zuS, zuN, zu2, zv1, zvS, zvN]
      · obtain ⟨c0, c1, c2, c3⟩ := p1 j
        by_cases q : j < i
        · rw [if_pos q] at c0 c1 c2 c3
          refine ⟨?_, ?_, ?_, ?_⟩ <;> rw [if_pos (by omega)] <;> simp (disch := omega) only [zuS, zuN, zu2, zv1, zvS, zvN]
          · exact c0
          · exact c1
          · exact c2
          · exact c3
        · rw [if_neg q] at c0 c1 c2 c3
          refine ⟨?_, ?_, ?_, ?_⟩ <;> rw [if_neg (by omega)] <;> simp (disch := omega) only [zuS, zuN, zu2, zv1, zvS, zvN]
          · exact c0
          · exact c1
          · exact c2
          · exact c3) 5 0 Sa (by omega) ⟨fun _ _ _ _ _ _ => rfl, fun j => by
        refine ⟨?_, ?_, ?_, ?_⟩ <;> rw [if_neg (by omega), hSa] <;> simp (disch := omega) only [zuS, zuN, zu2, zv1, zvS, zvN]
        · exact hm.r 60 j (by omega)
        · exact hm.r 62 j (by omega)
        · exact hm.r 64 j (by omega)
        · exact hm.r 65 j (by omega)⟩
  obtain ⟨S2, e2, f2, p2⟩ := zfor (fun i S => k_Mod_restore_100 (nI i) S) 100 (fun i S2 => (∀ x k, x ≠ 63 → S2.1 x k = S1.1 x k) ∧ ∀ j, S2.1 63 j = nI (if j < i then D 82 j else D 63 j)) (by
    intro i S2 hi ⟨f2, p2⟩
    have b0 : S2.1 82 i = nI (D 82 i) := by rw [f2 _ _ (by omega), f1 _ _ (by omega) (by omega) (by omega) (by omega), hSa]; simp (disch := omega) only [zuS, zuN, zu2, zv1, zvS, zvN]; exact hm.r 82 i (by omega)
    refine ⟨u1 S2 63 i (nI (D 82 i)), ?_, fun x k q => ?_, fun j => ?_⟩
    · rw [k_Mod_restore_100_eq]
      simp (disch := omega) only [zL0, zL1, zL2, zL3, zL4, zL5, zL6, zL7, zL8, zL9, zL10, zL12, zL20, zL30, zL31, zL32, zL44, zL48, zL49, zL50, zL56, zL59, zL60, zL61, zL64, zL65, zL97, zL99, zL100, zL101, zL102, zL103, zL104, zL111, zL119, zL126, zL255, zL512, zL617, zL65535, zL65536, zL1048576, zlt, zle, zeq, ztn, zin, zzb, zadd, zmul, zm_lt, zm_gt, zm_le, zm_ge, zm_eq, zm_eq', zm_in, if_pos, if_neg, bI_s, bJ_s, bA_s, bU_s, if_true, if_false, reduceIte, or_true, true_or, or_false, false_or, and_true, true_and, and_false, false_and, not_true_eq_false, not_false_eq_true, Nat.reduceEqDiff, Nat.zero_ne_one, Nat.one_ne_zero, b0]
    · simp (disch := omega) only [zuS, zuN, zu2, zv1, zvS, zvN]; exact f2 x k q
    · by_cases e : j = i
      · subst e; rw [if_pos (by omega)]; simp (disch := omega) only [zuS, zuN, zu2, zv1, zvS, zvN]
      · have c0 := p2 j
        by_cases q : j < i
        · rw [if_pos q] at c0; rw [if_pos (by omega)]; simp (disch := omega) only [zuS, zuN, zu2, zv1, zvS, zvN]; exact c0
        · rw [if_neg q] at c0; rw [if_neg (by omega)]; simp (disch := omega) only [zuS, zuN, zu2, zv1, zvS, zvN]; exact c0) 100 0 S1 (by omega) ⟨fun _ _ _ => rfl, fun j => by rw [if_neg (by omega), f1 _ _ (by omega) (by omega) (by omega) (by omega), hSa]; simp (disch := omega) only [zuS, zuN, zu2, zv1, zvS, zvN]; exact hm.r 63 j (by omega)⟩
  obtain ⟨S3, e3, f3, p3⟩ := zfor (fun i S => k_Mod_restore_126 (nI i) S) 8 (fun i S3 => (∀ x k, x ≠ 66 → S3.1 x k = S2.1 x k) ∧ ∀ j, S3.1 66 j = nI (if j < i then D 83 j else D 66 j)) (by
    intro i S3 hi ⟨f3, p3⟩
    have b0 : S3.1 83 i = nI (D 83 i) := by rw [f3 _ _ (by omega), f2 _ _ (by omega), f1 _ _ (by omega) (by omega) (by omega) (by omega), hSa]; simp (disch := omega) only [zuS, zuN, zu2, zv1, zvS, zvN]; exact hm.r 83 i (by omega)
    refine ⟨u1 S3 66 i (nI (D 83 i)), ?_, fun x k q => ?_, fun j => ?_⟩
    · rw [k_Mod_restore_126_eq]
      simp (disch := omega) only [zL0, zL1, zL2, zL3, zL4, zL5, zL6, zL7, zL8, zL9, zL10, zL12, zL20, zL30, zL31, zL32, zL44, zL48, zL49, zL50, zL56, zL59, zL60, zL61, zL64, zL65, zL97, zL99, zL100, zL101, zL102, zL103, zL104, zL111, zL119, zL126, zL255, zL512, zL617, zL65535, zL65536, zL1048576, zlt, zle, zeq, ztn, zin, zzb, zadd, zmul, zm_lt, zm_gt, zm_le, zm_ge, zm_eq, zm_eq', zm_in, if_pos, if_neg, bI_s, bJ_s, bA_s, bU_s, if_true, if_false, reduceIte, or_true, true_or, or_false, false_or, and_true, true_and, and_false, false_and, not_true_eq_false, not_false_eq_true, Nat.reduceEqDiff, Nat.zero_ne_one, Nat.one_ne_zero, b0]
    · simp (disch := omega) only [zuS, zuN, zu2, zv1, zvS, zvN]; exact f3 x k q
    · by_cases e : j = i
      · subst e; rw [if_pos (by omega)]; simp (disch := omega) only [zuS, zuN, zu2, zv1, zvS, zvN]
      · have c0 := p3 j
        by_cases q : j < i
        · rw [if_pos q] at c0; rw [if_pos (by omega)]; simp (disch := omega) only [zuS, zuN, zu2, zv1, zvS, zvN]; exact c0
        · rw [if_neg q] at c0; rw [if_neg (by omega)]; simp (disch := omega) only [zuS, zuN, zu2, zv1, zvS, zvN]; exact c0) 8 0 S2 (by omega) ⟨fun _ _ _ => rfl, fun j => by rw [if_neg (by omega), f2 _ _ (by omega), f1 _ _ (by omega) (by omega) (by omega) (by omega), hSa]; simp (disch := omega) only [zuS, zuN, zu2, zv1, zvS, zvN]; exact hm.r 66 j (by omega)⟩
  have hall : ∀ x k, x ≠ 60 → x ≠ 62 → x ≠ 64 → x ≠ 65 → x ≠ 63 → x ≠ 66 → S3.1 x k = Sa.1 x k := fun x k q0 q1 q2 q3 q4 q5 => by rw [f3 x k q5, f2 x k q4, f1 x k q0 q1 q2 q3]
  refine ⟨S3, ?_, ?_, fun a k q => by rw [hall a k (by omega) (by omega) (by omega) (by omega) (by omega) (by omega), hSa]; simp (disch := omega) only [zuS, zuN, zu2, zv1, zvS, zvN]⟩
  · rw [f_Mod_restore_eq]
    have b16 : S3.1 55 16 = nI (D 55 45) := by rw [hall _ _ (by omega) (by omega) (by omega) (by omega) (by omega) (by omega), hSa]; simp (disch := omega) only [zuS, zuN, zu2, zv1, zvS, zvN]
    have g42 := hm.r 55 42 (by omega)
    have g43 := hm.r 55 43 (by omega)
    have g44 := hm.r 55 44 (by omega)
    have g45 := hm.r 55 45 (by omega)
    have g6 := hm.r 55 6 (by omega)
    have e45 : (u1 S 55 7 (nI (D 55 44))).1 55 45 = nI (D 55 45) := by rw [zuN (by omega)]; exact g45
    rw [hK.1] at g42
    rw [hK.2] at g43
    rw [g42, g43, g6, if_neg (by decide), if_pos rfl, g44]
    simp (disch := omega) only [g45, zuS, zuN, zu2, zv1, zvS, zvN]
    rw [← hSa, zL0, e1, k_Mod_restore_39_eq, zL5, if_pos (by rw [zle (by omega) (by omega)]; omega), zL0, e2, k_Mod_restore_100_eq, zL100, if_pos (by rw [zle (by omega) (by omega)]; omega), zL0, e3, k_Mod_restore_126_eq, zL8, if_pos (by rw [zle (by omega) (by omega)]; omega), b16]
  · intro a k q
    by_cases a60 : a = 60
    · subst a60; rw [f3 _ _ (by omega), f2 _ _ (by omega)]; exact (p1 k).1
    by_cases a62 : a = 62
    · subst a62; rw [f3 _ _ (by omega), f2 _ _ (by omega)]; exact (p1 k).2.1
    by_cases a64 : a = 64
    · subst a64; rw [f3 _ _ (by omega), f2 _ _ (by omega)]; exact (p1 k).2.2.1
    by_cases a65 : a = 65
    · subst a65; rw [f3 _ _ (by omega), f2 _ _ (by omega)]; exact (p1 k).2.2.2
    by_cases a63 : a = 63
    · subst a63; rw [f3 _ _ (by omega)]; exact p2 k
    by_cases a66 : a = 66
    · subst a66; exact p3 k
    rw [hall a k a60 a62 a64 a65 a63 a66, hSa]
    unfold reD
    rw [dS_n a66, dS_n a63, dS_n a65, dS_n a64, dS_n a62, dS_n a60]
    by_cases a55 : a = 55
    · subst a55
      rw [dS_s]
      by_cases k16 : k = 16
      · rw [zuS ⟨rfl, k16⟩, dU_s k16]
      by_cases k7 : k = 7
      · rw [zuN (by omega), zuS ⟨rfl, k7⟩, dU_n k16, dU_s k7]
      rw [zuN (by omega), zuN (by omega), dU_n k16, dU_n k7]
      exact hm 55 k q
    · rw [zuN (by omega), zuN (by omega), dS_n a55]
      exact hm a k q
theorem reD_ok (hd : okD D) (hK : hasK D) : okD (reD D) := by
  have w5 := hd.2.1.1
  obtain ⟨k1, k2, k3, k4⟩ := hd.2.2.2 hK
  refine ⟨okN_d hd.1 rfl rfl rfl rfl rfl rfl, ⟨show D 55 44 ≤ 5 by omega, fun i hi => ?_⟩, ?_, fun _ => ?_⟩
  · have hi' : i < D 55 44 := hi
    simp only [stp_d (D := D) (D' := reD D) rfl rfl rfl]
    show D 59 i ≤ 3 ∧ (if i < 5 then D 78 i else D 60 i) < 8 ∧ D 61 i < 8 ∧ (if i < 5 then D 79 i else D 62 i) ≤ 20 ∧ (if i < 5 then D 80 i else D 64 i) ≤ 20 ∧ (if i < 5 then D 81 i else D 65 i) ≤ (if i < 5 then D 80 i else D 64 i) ∧ (∀ k, k < (if i < 5 then D 80 i else D 64 i) → (if 20 * i + k < 100 then D 82 (20 * i + k) else D 63 (20 * i + k)) < 8) ∧ ((if i < 5 then D 81 i else D 65 i) < (if i < 5 then D 80 i else D 64 i) → stp D (if i < 5 then D 78 i else D 60 i) (if 20 * i + (if i < 5 then D 81 i else D 65 i) < 100 then D 82 (20 * i + (if i < 5 then D 81 i else D 65 i)) else D 63 (20 * i + (if i < 5 then D 81 i else D 65 i)))) ∧ (∀ k, k + 1 < (if i < 5 then D 80 i else D 64 i) → stp D (if 20 * i + k < 100 then D 82 (20 * i + k) else D 63 (20 * i + k)) (if 20 * i + k + 1 < 100 then D 82 (20 * i + k + 1) else D 63 (20 * i + k + 1)))
    obtain ⟨q2, q4, q5, q6, q7, q8, q9⟩ := k4 i hi'
    have wi := hd.2.1.2 i (by omega)
    simp only [if_pos (show i < 5 by omega)]
    refine ⟨wi.1, q2, wi.2.2.1, q4, q5, q6, fun k hk => ?_, fun q => ?_, fun k hk => ?_⟩
    · rw [if_pos (by omega)]; exact q7 k hk
    · rw [if_pos (by omega)]; exact q8 q
    · rw [if_pos (by omega), if_pos (by omega)]; exact q9 k hk
  · obtain ⟨s1, s2, s3, s4, s5, s6, s7⟩ := hd.2.2.1
    refine ⟨s1, s2, fun k hk => ?_, s4, fun q => ?_, s6, s7⟩
    · show (if k < 8 then D 83 k else D 66 k) ≤ 99
      rw [if_pos hk]; exact k3 k hk
    · have := s5 q
      exact ⟨this.1, by show D 55 44 = 0; omega, this.2.2⟩
  · simp only [stp_d (D := D) (D' := reD D) rfl rfl rfl]
    exact ⟨Nat.le_refl _, k2, k3, k4⟩
theorem ask_restore (h : Inv c D S) (hc : c < 512) : CAL c S f_Top_restore f_Mod_restore := by
  obtain ⟨hd, hr, hm, h4, h5, h6⟩ := id h
  have w5 := hd.2.1.1
  by_cases hK : hasK D
  rotate_left
  · have h9 := hr.2.2.2.2.1.2.2.1 hK
    refine CAL_00 h hc (r := -nI 103) ?_ ?_
    · rw [f_Top_restore_eq]; simp (disch := omega) only [h9, zL0, zL1, zL2, zL3, zL4, zL5, zL6, zL7, zL8, zL9, zL10, zL12, zL20, zL30, zL31, zL32, zL44, zL48, zL49, zL50, zL56, zL59, zL60, zL61, zL64, zL65, zL97, zL99, zL100, zL101, zL102, zL103, zL104, zL111, zL119, zL126, zL255, zL512, zL617, zL65535, zL65536, zL1048576, zlt, zle, zeq, ztn, zin, zzb, zadd, zmul, zm_lt, zm_gt, zm_le, zm_ge, zm_eq, zm_eq', zm_in, if_pos, if_neg, bI_s, bJ_s, bA_s, bU_s, if_true, if_false, reduceIte, or_true, true_or, or_false, false_or, and_true, true_and, and_false, false_and, not_true_eq_false, not_false_eq_true, Nat.reduceEqDiff, Nat.zero_ne_one, Nat.one_ne_zero]
    · have g42 := hm.r 55 42 (by omega)
      have g43 := hm.r 55 43 (by omega)
      have g6 := hm.r 55 6 (by omega)
      have s := hd.2.2.1.2.2.2.2.2
      rw [f_Mod_restore_eq]
      by_cases e : D 55 42 = 0
      · simp (disch := omega) only [g42, e, k_Mod_restore_18_eq, zL0, zL1, zL2, zL3, zL4, zL5, zL6, zL7, zL8, zL9, zL10, zL12, zL20, zL30, zL31, zL32, zL44, zL48, zL49, zL50, zL56, zL59, zL60, zL61, zL64, zL65, zL97, zL99, zL100, zL101, zL102, zL103, zL104, zL111, zL119, zL126, zL255, zL512, zL617, zL65535, zL65536, zL1048576, zlt, zle, zeq, ztn, zin, zzb, zadd, zmul, zm_lt, zm_gt, zm_le, zm_ge, zm_eq, zm_eq', zm_in, if_pos, if_neg, bI_s, bJ_s, bA_s, bU_s, if_true, if_false, reduceIte, or_true, true_or, or_false, false_or, and_true, true_and, and_false, false_and, not_true_eq_false, not_false_eq_true, Nat.reduceEqDiff, Nat.zero_ne_one, Nat.one_ne_zero]
      · have e1 : D 55 42 = 1 := by omega
        have e2 : D 55 43 ≠ D 55 6 := fun q => hK ⟨e1, q⟩
        simp (disch := omega) only [g42, g43, g6, e1, k_Mod_restore_18_eq, zL0, zL1, zL2, zL3, zL4, zL5, zL6, zL7, zL8, zL9, zL10, zL12, zL20, zL30, zL31, zL32, zL44, zL48, zL49, zL50, zL56, zL59, zL60, zL61, zL64, zL65, zL97, zL99, zL100, zL101, zL102, zL103, zL104, zL111, zL119, zL126, zL255, zL512, zL617, zL65535, zL65536, zL1048576, zlt, zle, zeq, ztn, zin, zzb, zadd, zmul, zm_lt, zm_gt, zm_le, zm_ge, zm_eq, zm_eq', zm_in, if_pos, if_neg, bI_s, bJ_s, bA_s, bU_s, if_true, if_false, reduceIte, or_true, true_or, or_false, false_or, and_true, true_and, and_false, false_and, not_true_eq_false, not_false_eq_true, Nat.reduceEqDiff, Nat.zero_ne_one, Nat.one_ne_zero]
  have h9 := hr.2.2.2.2.1.2.1 hK
  obtain ⟨r1, r3, r8, r59, r78, r61, r79, r80, r81, r82⟩ := hr.2.2.2.2.2 hK
  obtain ⟨k1, k2, k3, k4⟩ := hd.2.2.2 hK
  obtain ⟨S1, e1, f1, a1, a3, a8, aw⟩ := tb_town (t0 := 14) (t1 := 27) (W := D 55 44) (Or.inl ⟨rfl, rfl⟩) r1 (by omega)
  have hd' := reD_ok hd hK
  have hr1 : RC (reD D) S1 := by
    refine ⟨rPg_f (rPg_d hr.1 rfl rfl) (fun a k q => f1 a k (by omega)), rNt_f (rNt_d hr.2.1 rfl rfl rfl rfl rfl rfl rfl) (fun a k q => f1 a k (by omega)), ⟨?_, fun i hi => ?_, fun i hi => ?_, fun i hi => ?_, fun i hi => ?_, fun i hi => ?_, fun i hi => ?_, fun i k hi hk => ?_⟩, ⟨?_, fun k hk => ?_⟩, rTp_f (rTp_d hr.2.2.2.2.1 rfl rfl rfl rfl) (fun a k q => f1 a k (by omega)), rKp_f hd'.2.2.2 hd'.2.1.1 (rKp_d hr.2.2.2.2.2 rfl rfl rfl rfl rfl (fun _ _ => rfl) (fun _ _ => rfl) rfl rfl rfl rfl rfl rfl) (fun a k q => f1 a k (by omega))⟩
    · rw [a1]; rfl
    · have hi' : i < D 55 44 := hi
      rw [(aw i hi').1]; exact r59 i hi'
    · have hi' : i < D 55 44 := hi
      show _ = nI (if i < 5 then D 78 i else D 60 i)
      rw [if_pos (by omega), (aw i hi').2.1]; exact r78 i hi'
    · have hi' : i < D 55 44 := hi
      rw [(aw i hi').2.2.1]; exact r61 i hi'
    · have hi' : i < D 55 44 := hi
      show _ = nI (if i < 5 then D 79 i else D 62 i)
      rw [if_pos (by omega), (aw i hi').2.2.2.1]; exact r79 i hi'
    · have hi' : i < D 55 44 := hi
      show _ = nI (if i < 5 then D 80 i else D 64 i)
      rw [if_pos (by omega), (aw i hi').2.2.2.2.1]; exact r80 i hi'
    · have hi' : i < D 55 44 := hi
      show _ = nI (if i < 5 then D 81 i else D 65 i)
      rw [if_pos (by omega), (aw i hi').2.2.2.2.2.1]; exact r81 i hi'
    · have hi' : i < D 55 44 := hi
      have hk' : k < (if i < 5 then D 80 i else D 64 i) := hk
      rw [if_pos (by omega)] at hk'
      have wl := (k4 i hi').2.2.1
      show _ = nI (if 20 * i + k < 100 then D 82 (20 * i + k) else D 63 (20 * i + k))
      rw [if_pos (by omega)]
      have e := (aw i hi').2.2.2.2.2.2 k (by omega)
      rw [show 27 + 3 + 2 * i + 1 = 31 + 2 * i by omega, show 14 + 3 + 2 * i + 1 = 18 + 2 * i by omega] at e
      rw [e]; exact r82 i k hi' hk'
    · rw [a3, r3]; rfl
    · show _ = nI (if k < 8 then D 83 k else D 66 k)
      rw [if_pos hk, a8 k hk]; exact r8 k hk
  have hm1 : RM D S1 := RM_T hm (fun a k q => f1 a k (by omega))
  obtain ⟨S3, e3, m3, f3⟩ := mo_restore hm1 hK (by omega)
  refine CAL_w (r := nI (D 55 45)) hc hd' ?_ hr1 e3 f3 m3 (by show D 55 6 ≤ c + 1; omega) (Nat.zero_le _)
  rw [f_Top_restore_eq]
  simp (disch := omega) only [h9, zL0, zL1, zL2, zL3, zL4, zL5, zL6, zL7, zL8, zL9, zL10, zL12, zL20, zL30, zL31, zL32, zL44, zL48, zL49, zL50, zL56, zL59, zL60, zL61, zL64, zL65, zL97, zL99, zL100, zL101, zL102, zL103, zL104, zL111, zL119, zL126, zL255, zL512, zL617, zL65535, zL65536, zL1048576, zlt, zle, zeq, ztn, zin, zzb, zadd, zmul, zm_lt, zm_gt, zm_le, zm_ge, zm_eq, zm_eq', zm_in, if_pos, if_neg, bI_s, bJ_s, bA_s, bU_s, if_true, if_false, reduceIte, or_true, true_or, or_false, false_or, and_true, true_and, and_false, false_and, not_true_eq_false, not_false_eq_true, Nat.reduceEqDiff, Nat.zero_ne_one, Nat.one_ne_zero, e1, a3, r3]
end RE
/-! count -/
section CT
variable {c : Nat} {D : DD} {S : Mem}
/-- how many lanes are wide, of the first n -/
def wideN (D : DD) : Nat → Nat
  | 0 => 0
  | n + 1 => wideN D n + D 58 n
def goalN (D : DD) : Nat → Nat
  | 0 => 0
  | n + 1 => goalN D n + if D 60 n = D 61 n then 1 else 0
def goalM (D : DD) : Nat → Nat
  | 0 => 0
  | n + 1 => goalM D n ||| if D 60 n = D 61 n then 2 ^ n else 0
def hw (D : DD) (k : Nat) : Int32 := if k = 0 then nI (D 55 0) else if k = 1 then nI (wideN D (D 55 0)) else if k = 2 then nI (D 55 7) else if k = 3 then nI (goalN D (D 55 7)) else if k = 4 then nI (D 55 16) else if k = 5 then nI (D 55 18) else if k = 6 then nI (D 55 6) else if k = 7 then nI (D 55 17) else if k = 8 then nI (D 55 4) else if k = 9 then nI (D 55 5) else -nI 102
theorem ct_wideOnes (hd : okD D) (hr : RC D S) : f_Net_wideOnes S = some (nI (wideN D (D 55 0)), S) := by
  have n12 := hd.1.1
  have key : ∀ m i, i + m = D 55 0 → k_Net_wideOnes_4 (nI (wideN D i)) (nI i) S = some (nI (wideN D (D 55 0)), S) := by
    intro m
    induction m with
    | zero =>
      intro i hi
      rw [k_Net_wideOnes_4_eq, show i = D 55 0 by omega]
      simp (disch := omega) only [hr.lanes, k_Net_wideOnes_41_eq, zL0, zL1, zL2, zL3, zL4, zL5, zL6, zL7, zL8, zL9, zL10, zL12, zL20, zL30, zL31, zL32, zL44, zL48, zL49, zL50, zL56, zL59, zL60, zL61, zL64, zL65, zL97, zL99, zL100, zL101, zL102, zL103, zL104, zL111, zL119, zL126, zL255, zL512, zL617, zL65535, zL65536, zL1048576, zlt, zle, zeq, ztn, zin, zzb, zadd, zmul, zm_lt, zm_gt, zm_le, zm_ge, zm_eq, zm_eq', zm_in, if_pos, if_neg, bI_s, bJ_s, bA_s, bU_s, if_true, if_false, reduceIte, or_true, true_or, or_false, false_or, and_true, true_and, and_false, false_and, not_true_eq_false, not_false_eq_true, Nat.reduceEqDiff, Nat.zero_ne_one, Nat.one_ne_zero]
    | succ m ih =>
      intro i hi
      have hl := hd.1.2.2.2.1 i (by omega)
      rw [← ih (i + 1) (by omega), k_Net_wideOnes_4_eq, wideN]
      by_cases w0 : D 58 i = 0
      · simp (disch := omega) only [hr.lanes, hr.wide, k_Net_wideOnes_33_eq, zL0, zL1, zL2, zL3, zL4, zL5, zL6, zL7, zL8, zL9, zL10, zL12, zL20, zL30, zL31, zL32, zL44, zL48, zL49, zL50, zL56, zL59, zL60, zL61, zL64, zL65, zL97, zL99, zL100, zL101, zL102, zL103, zL104, zL111, zL119, zL126, zL255, zL512, zL617, zL65535, zL65536, zL1048576, zlt, zle, zeq, ztn, zin, zzb, zadd, zmul, zm_lt, zm_gt, zm_le, zm_ge, zm_eq, zm_eq', zm_in, if_pos, if_neg, bI_s, bJ_s, bA_s, bU_s, if_true, if_false, reduceIte, or_true, true_or, or_false, false_or, and_true, true_and, and_false, false_and, not_true_eq_false, not_false_eq_true, Nat.reduceEqDiff, Nat.zero_ne_one, Nat.one_ne_zero, w0]
      · have w1 : D 58 i = 1 := by omega
        simp (disch := omega) only [hr.lanes, hr.wide, k_Net_wideOnes_33_eq, zL0, zL1, zL2, zL3, zL4, zL5, zL6, zL7, zL8, zL9, zL10, zL12, zL20, zL30, zL31, zL32, zL44, zL48, zL49, zL50, zL56, zL59, zL60, zL61, zL64, zL65, zL97, zL99, zL100, zL101, zL102, zL103, zL104, zL111, zL119, zL126, zL255, zL512, zL617, zL65535, zL65536, zL1048576, zlt, zle, zeq, ztn, zin, zzb, zadd, zmul, zm_lt, zm_gt, zm_le, zm_ge, zm_eq, zm_eq', zm_in, if_pos, if_neg, bI_s, bJ_s, bA_s, bU_s, if_true, if_false, reduceIte, or_true, true_or, or_false, false_or, and_true, true_and, and_false, false_and, not_true_eq_false, not_false_eq_true, Nat.reduceEqDiff, Nat.zero_ne_one, Nat.one_ne_zero, w1]
  rw [f_Net_wideOnes_eq, zL0]
  exact key (D 55 0) 0 (by omega)
theorem mo_wideMany (hd : okD D) (hm : RM D S) : f_Mod_wideMany S = some (nI (wideN D (D 55 0)), S) := by
  have n12 := hd.1.1
  have key : ∀ m i, i + m = D 55 0 → k_Mod_wideMany_4 (nI (wideN D i)) (nI i) S = some (nI (wideN D (D 55 0)), S) := by
    intro m
    induction m with
    | zero =>
      intro i hi
      rw [k_Mod_wideMany_4_eq, show i = D 55 0 by omega]
      simp (disch := omega) only [hm.r, zL0, zL1, zL2, zL3, zL4, zL5, zL6, zL7, zL8, zL9, zL10, zL12, zL20, zL30, zL31, zL32, zL44, zL48, zL49, zL50, zL56, zL59, zL60, zL61, zL64, zL65, zL97, zL99, zL100, zL101, zL102, zL103, zL104, zL111, zL119, zL126, zL255, zL512, zL617, zL65535, zL65536, zL1048576, zlt, zle, zeq, ztn, zin, zzb, zadd, zmul, zm_lt, zm_gt, zm_le, zm_ge, zm_eq, zm_eq', zm_in, if_pos, if_neg, bI_s, bJ_s, bA_s, bU_s, if_true, if_false, reduceIte, or_true, true_or, or_false, false_or, and_true, true_and, and_false, false_and, not_true_eq_false, not_false_eq_true, Nat.reduceEqDiff, Nat.zero_ne_one, Nat.one_ne_zero]
    | succ m ih =>
      intro i hi
      have hl := hd.1.2.2.2.1 i (by omega)
      rw [← ih (i + 1) (by omega), k_Mod_wideMany_4_eq, wideN]
      by_cases w0 : D 58 i = 0
      · simp (disch := omega) only [hm.r, k_Mod_wideMany_27_eq, zL0, zL1, zL2, zL3, zL4, zL5, zL6, zL7, zL8, zL9, zL10, zL12, zL20, zL30, zL31, zL32, zL44, zL48, zL49, zL50, zL56, zL59, zL60, zL61, zL64, zL65, zL97, zL99, zL100, zL101, zL102, zL103, zL104, zL111, zL119, zL126, zL255, zL512, zL617, zL65535, zL65536, zL1048576, zlt, zle, zeq, ztn, zin, zzb, zadd, zmul, zm_lt, zm_gt, zm_le, zm_ge, zm_eq, zm_eq', zm_in, if_pos, if_neg, bI_s, bJ_s, bA_s, bU_s, if_true, if_false, reduceIte, or_true, true_or, or_false, false_or, and_true, true_and, and_false, false_and, not_true_eq_false, not_false_eq_true, Nat.reduceEqDiff, Nat.zero_ne_one, Nat.one_ne_zero, w0]
      · have w1 : D 58 i = 1 := by omega
        simp (disch := omega) only [hm.r, k_Mod_wideMany_27_eq, zL0, zL1, zL2, zL3, zL4, zL5, zL6, zL7, zL8, zL9, zL10, zL12, zL20, zL30, zL31, zL32, zL44, zL48, zL49, zL50, zL56, zL59, zL60, zL61, zL64, zL65, zL97, zL99, zL100, zL101, zL102, zL103, zL104, zL111, zL119, zL126, zL255, zL512, zL617, zL65535, zL65536, zL1048576, zlt, zle, zeq, ztn, zin, zzb, zadd, zmul, zm_lt, zm_gt, zm_le, zm_ge, zm_eq, zm_eq', zm_in, if_pos, if_neg, bI_s, bJ_s, bA_s, bU_s, if_true, if_false, reduceIte, or_true, true_or, or_false, false_or, and_true, true_and, and_false, false_and, not_true_eq_false, not_false_eq_true, Nat.reduceEqDiff, Nat.zero_ne_one, Nat.one_ne_zero, w1]
  rw [f_Mod_wideMany_eq, zL0]
  exact key (D 55 0) 0 (by omega)
theorem ct_atGoals (hd : okD D) (hr : RC D S) : f_Town_atGoals 14 S = some (nI (goalN D (D 55 7)), S) := by
  have w5 := hd.2.1.1
  have key : ∀ m i, i + m = D 55 7 → k_Town_atGoals_4 14 (nI (goalN D i)) (nI i) S = some (nI (goalN D (D 55 7)), S) := by
    intro m
    induction m with
    | zero =>
      intro i hi
      rw [k_Town_atGoals_4_eq isT_14, show i = D 55 7 by omega]
      simp (disch := omega) only [hr.w, k_Town_atGoals_52_eq, zL0, zL1, zL2, zL3, zL4, zL5, zL6, zL7, zL8, zL9, zL10, zL12, zL20, zL30, zL31, zL32, zL44, zL48, zL49, zL50, zL56, zL59, zL60, zL61, zL64, zL65, zL97, zL99, zL100, zL101, zL102, zL103, zL104, zL111, zL119, zL126, zL255, zL512, zL617, zL65535, zL65536, zL1048576, zlt, zle, zeq, ztn, zin, zzb, zadd, zmul, zm_lt, zm_gt, zm_le, zm_ge, zm_eq, zm_eq', zm_in, if_pos, if_neg, bI_s, bJ_s, bA_s, bU_s, if_true, if_false, reduceIte, or_true, true_or, or_false, false_or, and_true, true_and, and_false, false_and, not_true_eq_false, not_false_eq_true, Nat.reduceEqDiff, Nat.zero_ne_one, Nat.one_ne_zero]
    | succ m ih =>
      intro i hi
      have wi := hd.2.1.2 i (by omega)
      have b1 := hr.cor i (by omega)
      have b2 := hr.goal i (by omega)
      rw [← ih (i + 1) (by omega), k_Town_atGoals_4_eq isT_14, goalN]
      by_cases w0 : D 60 i = D 61 i
      · simp (disch := omega) only [hr.w, b1, b2, k_Town_atGoals_44_eq isT_14, zL0, zL1, zL2, zL3, zL4, zL5, zL6, zL7, zL8, zL9, zL10, zL12, zL20, zL30, zL31, zL32, zL44, zL48, zL49, zL50, zL56, zL59, zL60, zL61, zL64, zL65, zL97, zL99, zL100, zL101, zL102, zL103, zL104, zL111, zL119, zL126, zL255, zL512, zL617, zL65535, zL65536, zL1048576, zlt, zle, zeq, ztn, zin, zzb, zadd, zmul, zm_lt, zm_gt, zm_le, zm_ge, zm_eq, zm_eq', zm_in, if_pos, if_neg, bI_s, bJ_s, bA_s, bU_s, if_true, if_false, reduceIte, or_true, true_or, or_false, false_or, and_true, true_and, and_false, false_and, not_true_eq_false, not_false_eq_true, Nat.reduceEqDiff, Nat.zero_ne_one, Nat.one_ne_zero, w0, Nat.reduceAdd]
      · simp (disch := omega) only [hr.w, b1, b2, k_Town_atGoals_44_eq isT_14, zL0, zL1, zL2, zL3, zL4, zL5, zL6, zL7, zL8, zL9, zL10, zL12, zL20, zL30, zL31, zL32, zL44, zL48, zL49, zL50, zL56, zL59, zL60, zL61, zL64, zL65, zL97, zL99, zL100, zL101, zL102, zL103, zL104, zL111, zL119, zL126, zL255, zL512, zL617, zL65535, zL65536, zL1048576, zlt, zle, zeq, ztn, zin, zzb, zadd, zmul, zm_lt, zm_gt, zm_le, zm_ge, zm_eq, zm_eq', zm_in, if_pos, if_neg, bI_s, bJ_s, bA_s, bU_s, if_true, if_false, reduceIte, or_true, true_or, or_false, false_or, and_true, true_and, and_false, false_and, not_true_eq_false, not_false_eq_true, Nat.reduceEqDiff, Nat.zero_ne_one, Nat.one_ne_zero, Nat.reduceAdd]
  rw [f_Town_atGoals_eq isT_14, zL0]
  exact key (D 55 7) 0 (by omega)
theorem goalM_lt : ∀ {n : Nat}, n ≤ 5 → goalM D n < 32
  | 0, _ => by unfold goalM; omega
  | n + 1, h => by
    have := goalM_lt (n := n) (by omega)
    unfold goalM
    split
    · exact Nat.or_lt_two_pow (n := 5) this (Nat.pow_lt_pow_right (n := 5) (by decide) (by omega))
    · rw [Nat.or_zero]; exact this
theorem goalM_bit : ∀ {n i : Nat}, (goalM D n).testBit i = decide (i < n ∧ D 60 i = D 61 i)
  | 0, i => by simp [goalM]
  | n + 1, i => by
    unfold goalM
    rw [Nat.testBit_or, goalM_bit (n := n)]
    by_cases c : D 60 n = D 61 n
    · rw [if_pos c, Nat.testBit_two_pow, Bool.eq_iff_iff]
      simp only [Bool.or_eq_true, decide_eq_true_eq]
      constructor
      · rintro (⟨h, h2⟩ | h)
        · exact ⟨by omega, h2⟩
        · rw [← h]; exact ⟨by omega, c⟩
      · rintro ⟨h, h2⟩
        by_cases e : n = i
        · exact Or.inr e
        · exact Or.inl ⟨by omega, h2⟩
    · rw [if_neg c, Nat.zero_testBit, Bool.or_false, decide_eq_decide]
      constructor
      · rintro ⟨h, h2⟩; exact ⟨by omega, h2⟩
      · rintro ⟨h, h2⟩
        by_cases e : i = n
        · rw [e] at h2; exact absurd h2 c
        · exact ⟨by omega, h2⟩
theorem mo_atGoal (hw5 : okW D) (hm : RM D S) : f_Mod_atGoal S = some (nI (goalM D (D 55 7)), S) := by
  have w5 := hw5.1
  have key : ∀ m i, i + m = D 55 7 → k_Mod_atGoal_4 (nI (goalM D i)) (nI i) S = some (nI (goalM D (D 55 7)), S) := by
    intro m
    induction m with
    | zero =>
      intro i hi
      rw [k_Mod_atGoal_4_eq, show i = D 55 7 by omega]
      simp (disch := omega) only [hm.r, zL0, zL1, zL2, zL3, zL4, zL5, zL6, zL7, zL8, zL9, zL10, zL12, zL20, zL30, zL31, zL32, zL44, zL48, zL49, zL50, zL56, zL59, zL60, zL61, zL64, zL65, zL97, zL99, zL100, zL101, zL102, zL103, zL104, zL111, zL119, zL126, zL255, zL512, zL617, zL65535, zL65536, zL1048576, zlt, zle, zeq, ztn, zin, zzb, zadd, zmul, zm_lt, zm_gt, zm_le, zm_ge, zm_eq, zm_eq', zm_in, if_pos, if_neg, bI_s, bJ_s, bA_s, bU_s, if_true, if_false, reduceIte, or_true, true_or, or_false, false_or, and_true, true_and, and_false, false_and, not_true_eq_false, not_false_eq_true, Nat.reduceEqDiff, Nat.zero_ne_one, Nat.one_ne_zero]
    | succ m ih =>
      intro i hi
      have wi := hw5.2 i (by omega)
      rw [← ih (i + 1) (by omega), k_Mod_atGoal_4_eq, goalM]
      by_cases w0 : D 60 i = D 61 i
      · simp (disch := omega) only [hm.r, k_Mod_atGoal_35_eq, zL0, zL1, zL2, zL3, zL4, zL5, zL6, zL7, zL8, zL9, zL10, zL12, zL20, zL30, zL31, zL32, zL44, zL48, zL49, zL50, zL56, zL59, zL60, zL61, zL64, zL65, zL97, zL99, zL100, zL101, zL102, zL103, zL104, zL111, zL119, zL126, zL255, zL512, zL617, zL65535, zL65536, zL1048576, zlt, zle, zeq, ztn, zin, zzb, zadd, zmul, zm_lt, zm_gt, zm_le, zm_ge, zm_eq, zm_eq', zm_in, if_pos, if_neg, bI_s, bJ_s, bA_s, bU_s, if_true, if_false, reduceIte, or_true, true_or, or_false, false_or, and_true, true_and, and_false, false_and, not_true_eq_false, not_false_eq_true, Nat.reduceEqDiff, Nat.zero_ne_one, Nat.one_ne_zero, w0, zsh, zor]
      · simp (disch := omega) only [hm.r, k_Mod_atGoal_35_eq, zL0, zL1, zL2, zL3, zL4, zL5, zL6, zL7, zL8, zL9, zL10, zL12, zL20, zL30, zL31, zL32, zL44, zL48, zL49, zL50, zL56, zL59, zL60, zL61, zL64, zL65, zL97, zL99, zL100, zL101, zL102, zL103, zL104, zL111, zL119, zL126, zL255, zL512, zL617, zL65535, zL65536, zL1048576, zlt, zle, zeq, ztn, zin, zzb, zadd, zmul, zm_lt, zm_gt, zm_le, zm_ge, zm_eq, zm_eq', zm_in, if_pos, if_neg, bI_s, bJ_s, bA_s, bU_s, if_true, if_false, reduceIte, or_true, true_or, or_false, false_or, and_true, true_and, and_false, false_and, not_true_eq_false, not_false_eq_true, Nat.reduceEqDiff, Nat.zero_ne_one, Nat.one_ne_zero, zsh, zor]
  rw [f_Mod_atGoal_eq, zL0]
  exact key (D 55 7) 0 (by omega)
/-- bits below 5, counted -/
def bc (g : Nat) : Nat → Nat
  | 0 => 0
  | n + 1 => bc g n + if g.testBit n then 1 else 0
theorem mo_size {g : Nat} (hg : g < 2147483648) : f_Mod_size (nI g) S = some (nI (bc g 5), S) := by
  have key : ∀ m i, i + m = 5 → k_Mod_size_4 (nI g) (nI (bc g i)) (nI i) S = some (nI (bc g 5), S) := by
    intro m
    induction m with
    | zero =>
      intro i hi
      rw [k_Mod_size_4_eq, show i = 5 by omega]
      simp (disch := omega) only [zL0, zL1, zL2, zL3, zL4, zL5, zL6, zL7, zL8, zL9, zL10, zL12, zL20, zL30, zL31, zL32, zL44, zL48, zL49, zL50, zL56, zL59, zL60, zL61, zL64, zL65, zL97, zL99, zL100, zL101, zL102, zL103, zL104, zL111, zL119, zL126, zL255, zL512, zL617, zL65535, zL65536, zL1048576, zlt, zle, zeq, ztn, zin, zzb, zadd, zmul, zm_lt, zm_gt, zm_le, zm_ge, zm_eq, zm_eq', zm_in, if_pos, if_neg, bI_s, bJ_s, bA_s, bU_s, if_true, if_false, reduceIte, or_true, true_or, or_false, false_or, and_true, true_and, and_false, false_and, not_true_eq_false, not_false_eq_true, Nat.reduceEqDiff, Nat.zero_ne_one, Nat.one_ne_zero]
    | succ m ih =>
      intro i hi
      rw [← ih (i + 1) (by omega), k_Mod_size_4_eq, bc]
      simp (disch := omega) only [zL0, zL1, zL2, zL3, zL4, zL5, zL6, zL7, zL8, zL9, zL10, zL12, zL20, zL30, zL31, zL32, zL44, zL48, zL49, zL50, zL56, zL59, zL60, zL61, zL64, zL65, zL97, zL99, zL100, zL101, zL102, zL103, zL104, zL111, zL119, zL126, zL255, zL512, zL617, zL65535, zL65536, zL1048576, zlt, zle, zeq, ztn, zin, zzb, zadd, zmul, zm_lt, zm_gt, zm_le, zm_ge, zm_eq, zm_eq', zm_in, if_pos, if_neg, bI_s, bJ_s, bA_s, bU_s, if_true, if_false, reduceIte, or_true, true_or, or_false, false_or, and_true, true_and, and_false, false_and, not_true_eq_false, not_false_eq_true, Nat.reduceEqDiff, Nat.zero_ne_one, Nat.one_ne_zero, zbit]
  rw [f_Mod_size_eq, zL0]
  exact key 5 0 (by omega)
theorem bc_goal : ∀ {m n : Nat}, m ≤ n → bc (goalM D n) m = goalN D m
  | 0, _, _ => rfl
  | m + 1, n, h => by
    unfold bc goalN
    rw [bc_goal (by omega), goalM_bit]
    by_cases c : D 60 m = D 61 m
    · rw [if_pos c, decide_eq_true ⟨by omega, c⟩]; rfl
    · rw [if_neg c, decide_eq_false (fun q => c q.2)]; rfl
theorem bc_goal5 (h : D 55 7 ≤ 5) : bc (goalM D (D 55 7)) 5 = goalN D (D 55 7) := by
  have key : ∀ d m, m = D 55 7 + d → bc (goalM D (D 55 7)) m = goalN D (D 55 7) := by
    intro d
    induction d with
    | zero => intro m hm; rw [hm]; exact bc_goal (Nat.le_refl _)
    | succ d ih =>
      intro m hm
      rw [hm, ← Nat.add_assoc, bc, ih _ rfl, goalM_bit, decide_eq_false (fun q => by omega)]
      rfl
  exact key (5 - D 55 7) 5 (by omega)
theorem ct_count (hd : okD D) (hr : RC D S) {k : Nat} (hk : k < 2147483648) : f_Top_count (nI k) S = some (hw D k, S) := by
  have n1 := hd.1.2.1
  have n2 := hd.1.2.2.1
  rw [f_Top_count_eq]
  unfold hw
  by_cases k0 : k = 0
  · simp (disch := omega) only [zL0, zL1, zL2, zL3, zL4, zL5, zL6, zL7, zL8, zL9, zL10, zL12, zL20, zL30, zL31, zL32, zL44, zL48, zL49, zL50, zL56, zL59, zL60, zL61, zL64, zL65, zL97, zL99, zL100, zL101, zL102, zL103, zL104, zL111, zL119, zL126, zL255, zL512, zL617, zL65535, zL65536, zL1048576, zlt, zle, zeq, ztn, zin, zzb, zadd, zmul, zm_lt, zm_gt, zm_le, zm_ge, zm_eq, zm_eq', zm_in, if_pos, if_neg, bI_s, bJ_s, bA_s, bU_s, if_true, if_false, reduceIte, or_true, true_or, or_false, false_or, and_true, true_and, and_false, false_and, not_true_eq_false, not_false_eq_true, Nat.reduceEqDiff, Nat.zero_ne_one, Nat.one_ne_zero, hr.lanes]
  by_cases k1 : k = 1
  · simp (disch := omega) only [zL0, zL1, zL2, zL3, zL4, zL5, zL6, zL7, zL8, zL9, zL10, zL12, zL20, zL30, zL31, zL32, zL44, zL48, zL49, zL50, zL56, zL59, zL60, zL61, zL64, zL65, zL97, zL99, zL100, zL101, zL102, zL103, zL104, zL111, zL119, zL126, zL255, zL512, zL617, zL65535, zL65536, zL1048576, zlt, zle, zeq, ztn, zin, zzb, zadd, zmul, zm_lt, zm_gt, zm_le, zm_ge, zm_eq, zm_eq', zm_in, if_pos, if_neg, bI_s, bJ_s, bA_s, bU_s, if_true, if_false, reduceIte, or_true, true_or, or_false, false_or, and_true, true_and, and_false, false_and, not_true_eq_false, not_false_eq_true, Nat.reduceEqDiff, Nat.zero_ne_one, Nat.one_ne_zero, ct_wideOnes hd hr]
  by_cases k2 : k = 2
  · simp (disch := omega) only [zL0, zL1, zL2, zL3, zL4, zL5, zL6, zL7, zL8, zL9, zL10, zL12, zL20, zL30, zL31, zL32, zL44, zL48, zL49, zL50, zL56, zL59, zL60, zL61, zL64, zL65, zL97, zL99, zL100, zL101, zL102, zL103, zL104, zL111, zL119, zL126, zL255, zL512, zL617, zL65535, zL65536, zL1048576, zlt, zle, zeq, ztn, zin, zzb, zadd, zmul, zm_lt, zm_gt, zm_le, zm_ge, zm_eq, zm_eq', zm_in, if_pos, if_neg, bI_s, bJ_s, bA_s, bU_s, if_true, if_false, reduceIte, or_true, true_or, or_false, false_or, and_true, true_and, and_false, false_and, not_true_eq_false, not_false_eq_true, Nat.reduceEqDiff, Nat.zero_ne_one, Nat.one_ne_zero, hr.w]
  by_cases k3 : k = 3
  · simp (disch := omega) only [zL0, zL1, zL2, zL3, zL4, zL5, zL6, zL7, zL8, zL9, zL10, zL12, zL20, zL30, zL31, zL32, zL44, zL48, zL49, zL50, zL56, zL59, zL60, zL61, zL64, zL65, zL97, zL99, zL100, zL101, zL102, zL103, zL104, zL111, zL119, zL126, zL255, zL512, zL617, zL65535, zL65536, zL1048576, zlt, zle, zeq, ztn, zin, zzb, zadd, zmul, zm_lt, zm_gt, zm_le, zm_ge, zm_eq, zm_eq', zm_in, if_pos, if_neg, bI_s, bJ_s, bA_s, bU_s, if_true, if_false, reduceIte, or_true, true_or, or_false, false_or, and_true, true_and, and_false, false_and, not_true_eq_false, not_false_eq_true, Nat.reduceEqDiff, Nat.zero_ne_one, Nat.one_ne_zero, ct_atGoals hd hr]
  by_cases k4 : k = 4
  · simp (disch := omega) only [zL0, zL1, zL2, zL3, zL4, zL5, zL6, zL7, zL8, zL9, zL10, zL12, zL20, zL30, zL31, zL32, zL44, zL48, zL49, zL50, zL56, zL59, zL60, zL61, zL64, zL65, zL97, zL99, zL100, zL101, zL102, zL103, zL104, zL111, zL119, zL126, zL255, zL512, zL617, zL65535, zL65536, zL1048576, zlt, zle, zeq, ztn, zin, zzb, zadd, zmul, zm_lt, zm_gt, zm_le, zm_ge, zm_eq, zm_eq', zm_in, if_pos, if_neg, bI_s, bJ_s, bA_s, bU_s, if_true, if_false, reduceIte, or_true, true_or, or_false, false_or, and_true, true_and, and_false, false_and, not_true_eq_false, not_false_eq_true, Nat.reduceEqDiff, Nat.zero_ne_one, Nat.one_ne_zero, hr.2.2.2.1.1]
  by_cases k5 : k = 5
  · simp (disch := omega) only [zL0, zL1, zL2, zL3, zL4, zL5, zL6, zL7, zL8, zL9, zL10, zL12, zL20, zL30, zL31, zL32, zL44, zL48, zL49, zL50, zL56, zL59, zL60, zL61, zL64, zL65, zL97, zL99, zL100, zL101, zL102, zL103, zL104, zL111, zL119, zL126, zL255, zL512, zL617, zL65535, zL65536, zL1048576, zlt, zle, zeq, ztn, zin, zzb, zadd, zmul, zm_lt, zm_gt, zm_le, zm_ge, zm_eq, zm_eq', zm_in, if_pos, if_neg, bI_s, bJ_s, bA_s, bU_s, if_true, if_false, reduceIte, or_true, true_or, or_false, false_or, and_true, true_and, and_false, false_and, not_true_eq_false, not_false_eq_true, Nat.reduceEqDiff, Nat.zero_ne_one, Nat.one_ne_zero, hr.1.1]
  by_cases k6 : k = 6
  · simp (disch := omega) only [zL0, zL1, zL2, zL3, zL4, zL5, zL6, zL7, zL8, zL9, zL10, zL12, zL20, zL30, zL31, zL32, zL44, zL48, zL49, zL50, zL56, zL59, zL60, zL61, zL64, zL65, zL97, zL99, zL100, zL101, zL102, zL103, zL104, zL111, zL119, zL126, zL255, zL512, zL617, zL65535, zL65536, zL1048576, zlt, zle, zeq, ztn, zin, zzb, zadd, zmul, zm_lt, zm_gt, zm_le, zm_ge, zm_eq, zm_eq', zm_in, if_pos, if_neg, bI_s, bJ_s, bA_s, bU_s, if_true, if_false, reduceIte, or_true, true_or, or_false, false_or, and_true, true_and, and_false, false_and, not_true_eq_false, not_false_eq_true, Nat.reduceEqDiff, Nat.zero_ne_one, Nat.one_ne_zero, hr.2.2.2.2.1.2.2.2.1]
  by_cases k7 : k = 7
  · simp (disch := omega) only [zL0, zL1, zL2, zL3, zL4, zL5, zL6, zL7, zL8, zL9, zL10, zL12, zL20, zL30, zL31, zL32, zL44, zL48, zL49, zL50, zL56, zL59, zL60, zL61, zL64, zL65, zL97, zL99, zL100, zL101, zL102, zL103, zL104, zL111, zL119, zL126, zL255, zL512, zL617, zL65535, zL65536, zL1048576, zlt, zle, zeq, ztn, zin, zzb, zadd, zmul, zm_lt, zm_gt, zm_le, zm_ge, zm_eq, zm_eq', zm_in, if_pos, if_neg, bI_s, bJ_s, bA_s, bU_s, if_true, if_false, reduceIte, or_true, true_or, or_false, false_or, and_true, true_and, and_false, false_and, not_true_eq_false, not_false_eq_true, Nat.reduceEqDiff, Nat.zero_ne_one, Nat.one_ne_zero, hr.2.2.2.2.1.2.2.2.2]
  by_cases k8 : k = 8
  · by_cases w0 : D 55 4 = 0
    · simp (disch := omega) only [zL0, zL1, zL2, zL3, zL4, zL5, zL6, zL7, zL8, zL9, zL10, zL12, zL20, zL30, zL31, zL32, zL44, zL48, zL49, zL50, zL56, zL59, zL60, zL61, zL64, zL65, zL97, zL99, zL100, zL101, zL102, zL103, zL104, zL111, zL119, zL126, zL255, zL512, zL617, zL65535, zL65536, zL1048576, zlt, zle, zeq, ztn, zin, zzb, zadd, zmul, zm_lt, zm_gt, zm_le, zm_ge, zm_eq, zm_eq', zm_in, if_pos, if_neg, bI_s, bJ_s, bA_s, bU_s, if_true, if_false, reduceIte, or_true, true_or, or_false, false_or, and_true, true_and, and_false, false_and, not_true_eq_false, not_false_eq_true, Nat.reduceEqDiff, Nat.zero_ne_one, Nat.one_ne_zero, hr.dbl, k_Top_count_129_eq, w0]
    · have w1 : D 55 4 = 1 := by omega
      simp (disch := omega) only [zL0, zL1, zL2, zL3, zL4, zL5, zL6, zL7, zL8, zL9, zL10, zL12, zL20, zL30, zL31, zL32, zL44, zL48, zL49, zL50, zL56, zL59, zL60, zL61, zL64, zL65, zL97, zL99, zL100, zL101, zL102, zL103, zL104, zL111, zL119, zL126, zL255, zL512, zL617, zL65535, zL65536, zL1048576, zlt, zle, zeq, ztn, zin, zzb, zadd, zmul, zm_lt, zm_gt, zm_le, zm_ge, zm_eq, zm_eq', zm_in, if_pos, if_neg, bI_s, bJ_s, bA_s, bU_s, if_true, if_false, reduceIte, or_true, true_or, or_false, false_or, and_true, true_and, and_false, false_and, not_true_eq_false, not_false_eq_true, Nat.reduceEqDiff, Nat.zero_ne_one, Nat.one_ne_zero, hr.dbl, k_Top_count_129_eq, w1]
  by_cases k9 : k = 9
  · by_cases w0 : D 55 5 = 0
    · simp (disch := omega) only [zL0, zL1, zL2, zL3, zL4, zL5, zL6, zL7, zL8, zL9, zL10, zL12, zL20, zL30, zL31, zL32, zL44, zL48, zL49, zL50, zL56, zL59, zL60, zL61, zL64, zL65, zL97, zL99, zL100, zL101, zL102, zL103, zL104, zL111, zL119, zL126, zL255, zL512, zL617, zL65535, zL65536, zL1048576, zlt, zle, zeq, ztn, zin, zzb, zadd, zmul, zm_lt, zm_gt, zm_le, zm_ge, zm_eq, zm_eq', zm_in, if_pos, if_neg, bI_s, bJ_s, bA_s, bU_s, if_true, if_false, reduceIte, or_true, true_or, or_false, false_or, and_true, true_and, and_false, false_and, not_true_eq_false, not_false_eq_true, Nat.reduceEqDiff, Nat.zero_ne_one, Nat.one_ne_zero, hr.emp, k_Top_count_145_eq, w0]
    · have w1 : D 55 5 = 1 := by omega
      simp (disch := omega) only [zL0, zL1, zL2, zL3, zL4, zL5, zL6, zL7, zL8, zL9, zL10, zL12, zL20, zL30, zL31, zL32, zL44, zL48, zL49, zL50, zL56, zL59, zL60, zL61, zL64, zL65, zL97, zL99, zL100, zL101, zL102, zL103, zL104, zL111, zL119, zL126, zL255, zL512, zL617, zL65535, zL65536, zL1048576, zlt, zle, zeq, ztn, zin, zzb, zadd, zmul, zm_lt, zm_gt, zm_le, zm_ge, zm_eq, zm_eq', zm_in, if_pos, if_neg, bI_s, bJ_s, bA_s, bU_s, if_true, if_false, reduceIte, or_true, true_or, or_false, false_or, and_true, true_and, and_false, false_and, not_true_eq_false, not_false_eq_true, Nat.reduceEqDiff, Nat.zero_ne_one, Nat.one_ne_zero, hr.emp, k_Top_count_145_eq, w1]
  simp (disch := omega) only [zL0, zL1, zL2, zL3, zL4, zL5, zL6, zL7, zL8, zL9, zL10, zL12, zL20, zL30, zL31, zL32, zL44, zL48, zL49, zL50, zL56, zL59, zL60, zL61, zL64, zL65, zL97, zL99, zL100, zL101, zL102, zL103, zL104, zL111, zL119, zL126, zL255, zL512, zL617, zL65535, zL65536, zL1048576, zlt, zle, zeq, ztn, zin, zzb, zadd, zmul, zm_lt, zm_gt, zm_le, zm_ge, zm_eq, zm_eq', zm_in, if_pos, if_neg, bI_s, bJ_s, bA_s, bU_s, if_true, if_false, reduceIte, or_true, true_or, or_false, false_or, and_true, true_and, and_false, false_and, not_true_eq_false, not_false_eq_true, Nat.reduceEqDiff, Nat.zero_ne_one, Nat.one_ne_zero]
theorem mo_howMany (hd : okD D) (hm : RM D S) {k : Nat} (hk : k < 2147483648) : f_Mod_howMany (nI k) S = some (hw D k, S) := by
  have n1 := hd.1.2.1
  have n2 := hd.1.2.2.1
  have w5 := hd.2.1.1
  have hg := goalM_lt (D := D) w5
  rw [f_Mod_howMany_eq]
  unfold hw
  by_cases k0 : k = 0
  · simp (disch := omega) only [zL0, zL1, zL2, zL3, zL4, zL5, zL6, zL7, zL8, zL9, zL10, zL12, zL20, zL30, zL31, zL32, zL44, zL48, zL49, zL50, zL56, zL59, zL60, zL61, zL64, zL65, zL97, zL99, zL100, zL101, zL102, zL103, zL104, zL111, zL119, zL126, zL255, zL512, zL617, zL65535, zL65536, zL1048576, zlt, zle, zeq, ztn, zin, zzb, zadd, zmul, zm_lt, zm_gt, zm_le, zm_ge, zm_eq, zm_eq', zm_in, if_pos, if_neg, bI_s, bJ_s, bA_s, bU_s, if_true, if_false, reduceIte, or_true, true_or, or_false, false_or, and_true, true_and, and_false, false_and, not_true_eq_false, not_false_eq_true, Nat.reduceEqDiff, Nat.zero_ne_one, Nat.one_ne_zero, hm.r]
  by_cases k1 : k = 1
  · simp (disch := omega) only [zL0, zL1, zL2, zL3, zL4, zL5, zL6, zL7, zL8, zL9, zL10, zL12, zL20, zL30, zL31, zL32, zL44, zL48, zL49, zL50, zL56, zL59, zL60, zL61, zL64, zL65, zL97, zL99, zL100, zL101, zL102, zL103, zL104, zL111, zL119, zL126, zL255, zL512, zL617, zL65535, zL65536, zL1048576, zlt, zle, zeq, ztn, zin, zzb, zadd, zmul, zm_lt, zm_gt, zm_le, zm_ge, zm_eq, zm_eq', zm_in, if_pos, if_neg, bI_s, bJ_s, bA_s, bU_s, if_true, if_false, reduceIte, or_true, true_or, or_false, false_or, and_true, true_and, and_false, false_and, not_true_eq_false, not_false_eq_true, Nat.reduceEqDiff, Nat.zero_ne_one, Nat.one_ne_zero, mo_wideMany hd hm]
  by_cases k2 : k = 2
  · simp (disch := omega) only [zL0, zL1, zL2, zL3, zL4, zL5, zL6, zL7, zL8, zL9, zL10, zL12, zL20, zL30, zL31, zL32, zL44, zL48, zL49, zL50, zL56, zL59, zL60, zL61, zL64, zL65, zL97, zL99, zL100, zL101, zL102, zL103, zL104, zL111, zL119, zL126, zL255, zL512, zL617, zL65535, zL65536, zL1048576, zlt, zle, zeq, ztn, zin, zzb, zadd, zmul, zm_lt, zm_gt, zm_le, zm_ge, zm_eq, zm_eq', zm_in, if_pos, if_neg, bI_s, bJ_s, bA_s, bU_s, if_true, if_false, reduceIte, or_true, true_or, or_false, false_or, and_true, true_and, and_false, false_and, not_true_eq_false, not_false_eq_true, Nat.reduceEqDiff, Nat.zero_ne_one, Nat.one_ne_zero, hm.r]
  by_cases k3 : k = 3
  · simp (disch := omega) only [zL0, zL1, zL2, zL3, zL4, zL5, zL6, zL7, zL8, zL9, zL10, zL12, zL20, zL30, zL31, zL32, zL44, zL48, zL49, zL50, zL56, zL59, zL60, zL61, zL64, zL65, zL97, zL99, zL100, zL101, zL102, zL103, zL104, zL111, zL119, zL126, zL255, zL512, zL617, zL65535, zL65536, zL1048576, zlt, zle, zeq, ztn, zin, zzb, zadd, zmul, zm_lt, zm_gt, zm_le, zm_ge, zm_eq, zm_eq', zm_in, if_pos, if_neg, bI_s, bJ_s, bA_s, bU_s, if_true, if_false, reduceIte, or_true, true_or, or_false, false_or, and_true, true_and, and_false, false_and, not_true_eq_false, not_false_eq_true, Nat.reduceEqDiff, Nat.zero_ne_one, Nat.one_ne_zero, mo_atGoal hd.2.1 hm, mo_size, bc_goal5]
  by_cases k4 : k = 4
  · simp (disch := omega) only [zL0, zL1, zL2, zL3, zL4, zL5, zL6, zL7, zL8, zL9, zL10, zL12, zL20, zL30, zL31, zL32, zL44, zL48, zL49, zL50, zL56, zL59, zL60, zL61, zL64, zL65, zL97, zL99, zL100, zL101, zL102, zL103, zL104, zL111, zL119, zL126, zL255, zL512, zL617, zL65535, zL65536, zL1048576, zlt, zle, zeq, ztn, zin, zzb, zadd, zmul, zm_lt, zm_gt, zm_le, zm_ge, zm_eq, zm_eq', zm_in, if_pos, if_neg, bI_s, bJ_s, bA_s, bU_s, if_true, if_false, reduceIte, or_true, true_or, or_false, false_or, and_true, true_and, and_false, false_and, not_true_eq_false, not_false_eq_true, Nat.reduceEqDiff, Nat.zero_ne_one, Nat.one_ne_zero, hm.r]
  by_cases k5 : k = 5
  · simp (disch := omega) only [zL0, zL1, zL2, zL3, zL4, zL5, zL6, zL7, zL8, zL9, zL10, zL12, zL20, zL30, zL31, zL32, zL44, zL48, zL49, zL50, zL56, zL59, zL60, zL61, zL64, zL65, zL97, zL99, zL100, zL101, zL102, zL103, zL104, zL111, zL119, zL126, zL255, zL512, zL617, zL65535, zL65536, zL1048576, zlt, zle, zeq, ztn, zin, zzb, zadd, zmul, zm_lt, zm_gt, zm_le, zm_ge, zm_eq, zm_eq', zm_in, if_pos, if_neg, bI_s, bJ_s, bA_s, bU_s, if_true, if_false, reduceIte, or_true, true_or, or_false, false_or, and_true, true_and, and_false, false_and, not_true_eq_false, not_false_eq_true, Nat.reduceEqDiff, Nat.zero_ne_one, Nat.one_ne_zero, hm.r]
  by_cases k6 : k = 6
  · simp (disch := omega) only [zL0, zL1, zL2, zL3, zL4, zL5, zL6, zL7, zL8, zL9, zL10, zL12, zL20, zL30, zL31, zL32, zL44, zL48, zL49, zL50, zL56, zL59, zL60, zL61, zL64, zL65, zL97, zL99, zL100, zL101, zL102, zL103, zL104, zL111, zL119, zL126, zL255, zL512, zL617, zL65535, zL65536, zL1048576, zlt, zle, zeq, ztn, zin, zzb, zadd, zmul, zm_lt, zm_gt, zm_le, zm_ge, zm_eq, zm_eq', zm_in, if_pos, if_neg, bI_s, bJ_s, bA_s, bU_s, if_true, if_false, reduceIte, or_true, true_or, or_false, false_or, and_true, true_and, and_false, false_and, not_true_eq_false, not_false_eq_true, Nat.reduceEqDiff, Nat.zero_ne_one, Nat.one_ne_zero, hm.r]
  by_cases k7 : k = 7
  · simp (disch := omega) only [zL0, zL1, zL2, zL3, zL4, zL5, zL6, zL7, zL8, zL9, zL10, zL12, zL20, zL30, zL31, zL32, zL44, zL48, zL49, zL50, zL56, zL59, zL60, zL61, zL64, zL65, zL97, zL99, zL100, zL101, zL102, zL103, zL104, zL111, zL119, zL126, zL255, zL512, zL617, zL65535, zL65536, zL1048576, zlt, zle, zeq, ztn, zin, zzb, zadd, zmul, zm_lt, zm_gt, zm_le, zm_ge, zm_eq, zm_eq', zm_in, if_pos, if_neg, bI_s, bJ_s, bA_s, bU_s, if_true, if_false, reduceIte, or_true, true_or, or_false, false_or, and_true, true_and, and_false, false_and, not_true_eq_false, not_false_eq_true, Nat.reduceEqDiff, Nat.zero_ne_one, Nat.one_ne_zero, hm.r]
  by_cases k8 : k = 8
  · by_cases w0 : D 55 4 = 0
    · simp (disch := omega) only [zL0, zL1, zL2, zL3, zL4, zL5, zL6, zL7, zL8, zL9, zL10, zL12, zL20, zL30, zL31, zL32, zL44, zL48, zL49, zL50, zL56, zL59, zL60, zL61, zL64, zL65, zL97, zL99, zL100, zL101, zL102, zL103, zL104, zL111, zL119, zL126, zL255, zL512, zL617, zL65535, zL65536, zL1048576, zlt, zle, zeq, ztn, zin, zzb, zadd, zmul, zm_lt, zm_gt, zm_le, zm_ge, zm_eq, zm_eq', zm_in, if_pos, if_neg, bI_s, bJ_s, bA_s, bU_s, if_true, if_false, reduceIte, or_true, true_or, or_false, false_or, and_true, true_and, and_false, false_and, not_true_eq_false, not_false_eq_true, Nat.reduceEqDiff, Nat.zero_ne_one, Nat.one_ne_zero, hm.r, k_Mod_howMany_111_eq, w0]
    · have w1 : D 55 4 = 1 := by omega
      simp (disch := omega) only [zL0, zL1, zL2, zL3, zL4, zL5, zL6, zL7, zL8, zL9, zL10, zL12, zL20, zL30, zL31, zL32, zL44, zL48, zL49, zL50, zL56, zL59, zL60, zL61, zL64, zL65, zL97, zL99, zL100, zL101, zL102, zL103, zL104, zL111, zL119, zL126, zL255, zL512, zL617, zL65535, zL65536, zL1048576, zlt, zle, zeq, ztn, zin, zzb, zadd, zmul, zm_lt, zm_gt, zm_le, zm_ge, zm_eq, zm_eq', zm_in, if_pos, if_neg, bI_s, bJ_s, bA_s, bU_s, if_true, if_false, reduceIte, or_true, true_or, or_false, false_or, and_true, true_and, and_false, false_and, not_true_eq_false, not_false_eq_true, Nat.reduceEqDiff, Nat.zero_ne_one, Nat.one_ne_zero, hm.r, k_Mod_howMany_111_eq, w1]
  by_cases k9 : k = 9
  · by_cases w0 : D 55 5 = 0
    · simp (disch := omega) only [zL0, zL1, zL2, zL3, zL4, zL5, zL6, zL7, zL8, zL9, zL10, zL12, zL20, zL30, zL31, zL32, zL44, zL48, zL49, zL50, zL56, zL59, zL60, zL61, zL64, zL65, zL97, zL99, zL100, zL101, zL102, zL103, zL104, zL111, zL119, zL126, zL255, zL512, zL617, zL65535, zL65536, zL1048576, zlt, zle, zeq, ztn, zin, zzb, zadd, zmul, zm_lt, zm_gt, zm_le, zm_ge, zm_eq, zm_eq', zm_in, if_pos, if_neg, bI_s, bJ_s, bA_s, bU_s, if_true, if_false, reduceIte, or_true, true_or, or_false, false_or, and_true, true_and, and_false, false_and, not_true_eq_false, not_false_eq_true, Nat.reduceEqDiff, Nat.zero_ne_one, Nat.one_ne_zero, hm.r, k_Mod_howMany_124_eq, w0]
    · have w1 : D 55 5 = 1 := by omega
      simp (disch := omega) only [zL0, zL1, zL2, zL3, zL4, zL5, zL6, zL7, zL8, zL9, zL10, zL12, zL20, zL30, zL31, zL32, zL44, zL48, zL49, zL50, zL56, zL59, zL60, zL61, zL64, zL65, zL97, zL99, zL100, zL101, zL102, zL103, zL104, zL111, zL119, zL126, zL255, zL512, zL617, zL65535, zL65536, zL1048576, zlt, zle, zeq, ztn, zin, zzb, zadd, zmul, zm_lt, zm_gt, zm_le, zm_ge, zm_eq, zm_eq', zm_in, if_pos, if_neg, bI_s, bJ_s, bA_s, bU_s, if_true, if_false, reduceIte, or_true, true_or, or_false, false_or, and_true, true_and, and_false, false_and, not_true_eq_false, not_false_eq_true, Nat.reduceEqDiff, Nat.zero_ne_one, Nat.one_ne_zero, hm.r, k_Mod_howMany_124_eq, w1]
  simp (disch := omega) only [zL0, zL1, zL2, zL3, zL4, zL5, zL6, zL7, zL8, zL9, zL10, zL12, zL20, zL30, zL31, zL32, zL44, zL48, zL49, zL50, zL56, zL59, zL60, zL61, zL64, zL65, zL97, zL99, zL100, zL101, zL102, zL103, zL104, zL111, zL119, zL126, zL255, zL512, zL617, zL65535, zL65536, zL1048576, zlt, zle, zeq, ztn, zin, zzb, zadd, zmul, zm_lt, zm_gt, zm_le, zm_ge, zm_eq, zm_eq', zm_in, if_pos, if_neg, bI_s, bJ_s, bA_s, bU_s, if_true, if_false, reduceIte, or_true, true_or, or_false, false_or, and_true, true_and, and_false, false_and, not_true_eq_false, not_false_eq_true, Nat.reduceEqDiff, Nat.zero_ne_one, Nat.one_ne_zero]
theorem ask_count (h : Inv c D S) (hc : c < 512) (x : Int32) : CAL c S (f_Top_count x) (f_Mod_count x) := by
  obtain ⟨hd, hr, hm, h4, h5, h6⟩ := id h
  rcases zcase x with hx | ⟨n, hn, rfl⟩
  · refine CAL_00 h hc (r := -nI 102) ?_ ?_
    · rw [f_Top_count_eq]; simp (disch := omega) only [zL0, zL1, zL2, zL3, zL4, zL5, zL6, zL7, zL8, zL9, zL10, zL12, zL20, zL30, zL31, zL32, zL44, zL48, zL49, zL50, zL56, zL59, zL60, zL61, zL64, zL65, zL97, zL99, zL100, zL101, zL102, zL103, zL104, zL111, zL119, zL126, zL255, zL512, zL617, zL65535, zL65536, zL1048576, zlt, zle, zeq, ztn, zin, zzb, zadd, zmul, zm_lt, zm_gt, zm_le, zm_ge, zm_eq, zm_eq', zm_in, if_pos, if_neg, bI_s, bJ_s, bA_s, bU_s, if_true, if_false, reduceIte, or_true, true_or, or_false, false_or, and_true, true_and, and_false, false_and, not_true_eq_false, not_false_eq_true, Nat.reduceEqDiff, Nat.zero_ne_one, Nat.one_ne_zero, zn_eq hx]
    · rw [f_Mod_count_eq, f_Mod_howMany_eq]; simp (disch := omega) only [zL0, zL1, zL2, zL3, zL4, zL5, zL6, zL7, zL8, zL9, zL10, zL12, zL20, zL30, zL31, zL32, zL44, zL48, zL49, zL50, zL56, zL59, zL60, zL61, zL64, zL65, zL97, zL99, zL100, zL101, zL102, zL103, zL104, zL111, zL119, zL126, zL255, zL512, zL617, zL65535, zL65536, zL1048576, zlt, zle, zeq, ztn, zin, zzb, zadd, zmul, zm_lt, zm_gt, zm_le, zm_ge, zm_eq, zm_eq', zm_in, if_pos, if_neg, bI_s, bJ_s, bA_s, bU_s, if_true, if_false, reduceIte, or_true, true_or, or_false, false_or, and_true, true_and, and_false, false_and, not_true_eq_false, not_false_eq_true, Nat.reduceEqDiff, Nat.zero_ne_one, Nat.one_ne_zero, zn_eq hx]
  · refine CAL_00 h hc (r := hw D n) (ct_count hd hr hn) ?_
    rw [f_Mod_count_eq, mo_howMany hd hm hn, bI_s]
end CT
