/-! images -/
section TB
theorem isW_k {i : Nat} (h : i < 5) : isW (30 + 2 * i) := by
  match i, h with
  | 0, _ => exact isT_27.2.2.2.1
  | 1, _ => exact isT_27.2.2.2.2.1
  | 2, _ => exact isT_27.2.2.2.2.2.1
  | 3, _ => exact isT_27.2.2.2.2.2.2.1
  | 4, _ => exact isT_27.2.2.2.2.2.2.2
theorem cpy_in {f g : Nat → Int32} {n k : Nat} (h : k < n) : va_cpy f g 0 0 n k = f k := by
  unfold va_cpy
  rw [if_pos ⟨Nat.zero_le _, by omega⟩, Nat.zero_add, Nat.sub_zero]
theorem tb_walker {w0 w1 : Nat} (h0 : isW w0) (h1 : isW w1) (hw : w0 + 1 < w1 ∨ w1 + 1 < w0) {S : Mem} : ∃ S', f_Walker_become w0 w1 S = some S' ∧ (∀ x k, x ≠ w0 → x ≠ w0 + 1 → S'.1 x k = S.1 x k) ∧ S'.1 w0 0 = S.1 w1 0 ∧ S'.1 w0 1 = S.1 w1 1 ∧ S'.1 w0 2 = S.1 w1 2 ∧ S'.1 w0 3 = S.1 w1 3 ∧ S'.1 w0 5 = S.1 w1 5 ∧ S'.1 w0 6 = S.1 w1 6 ∧ (∀ k, k < 20 → S'.1 (w0 + 1) k = S.1 (w1 + 1) k) := by
  rw [f_Walker_become_eq h0 h1]
  refine ⟨_, rfl, fun x k q0 q1 => ?_, ?_, ?_, ?_, ?_, ?_, ?_, fun k hk => ?_⟩
  · simp (disch := omega) only [zwN, zuS, zuN, zu2, zv1, zvS, zvN]
  · simp (disch := omega) only [zwN, zuS, zuN, zu2, zv1, zvS, zvN]
  · simp (disch := omega) only [zwN, zuS, zuN, zu2, zv1, zvS, zvN]
  · simp (disch := omega) only [zwN, zuS, zuN, zu2, zv1, zvS, zvN]
  · simp (disch := omega) only [zwN, zuS, zuN, zu2, zv1, zvS, zvN]
  · simp (disch := omega) only [zwN, zuS, zuN, zu2, zv1, zvS, zvN]
  · simp (disch := omega) only [zwN, zuS, zuN, zu2, zv1, zvS, zvN]
  · rw [zwS, cpy_in hk]
    simp (disch := omega) only [zuS, zuN, zu2, zv1, zvS, zvN]
/-- town t0 becomes town t1 -/
theorem tb_town {t0 t1 W : Nat} (h : (t0 = 14 ∧ t1 = 27) ∨ (t0 = 27 ∧ t1 = 14)) {S : Mem} (hW : S.1 t1 1 = nI W) (hw : W ≤ 5) : ∃ S', f_Town_become t0 t1 S = some S' ∧ (∀ x k, x < t0 ∨ t0 + 12 < x → S'.1 x k = S.1 x k) ∧ S'.1 t0 1 = nI W ∧ S'.1 t0 3 = S.1 t1 3 ∧ (∀ k, k < 8 → S'.1 (t0 + 2) k = S.1 (t1 + 2) k) ∧ ∀ i, i < W → (S'.1 (t0 + 3 + 2 * i) 0 = S.1 (t1 + 3 + 2 * i) 0 ∧ S'.1 (t0 + 3 + 2 * i) 1 = S.1 (t1 + 3 + 2 * i) 1 ∧ S'.1 (t0 + 3 + 2 * i) 2 = S.1 (t1 + 3 + 2 * i) 2 ∧ S'.1 (t0 + 3 + 2 * i) 3 = S.1 (t1 + 3 + 2 * i) 3 ∧ S'.1 (t0 + 3 + 2 * i) 5 = S.1 (t1 + 3 + 2 * i) 5 ∧ S'.1 (t0 + 3 + 2 * i) 6 = S.1 (t1 + 3 + 2 * i) 6 ∧ (∀ k, k < 20 → S'.1 (t0 + 3 + 2 * i + 1) k = S.1 (t1 + 3 + 2 * i + 1) k)) := by
  have i0 : isT t0 := by
    rcases h with ⟨a, b⟩ | ⟨a, b⟩
    · rw [a]; exact isT_14
    · rw [a]; exact isT_27
  have i1 : isT t1 := by
    rcases h with ⟨a, b⟩ | ⟨a, b⟩
    · rw [b]; exact isT_27
    · rw [b]; exact isT_14
  have wi : ∀ i, i < 5 → isW (t0 + 3 + 2 * i) ∧ isW (t1 + 3 + 2 * i) := fun i hi => by
    rcases h with ⟨a, b⟩ | ⟨a, b⟩
    · rw [a, b]; exact ⟨isW_i hi, isW_k hi⟩
    · rw [a, b]; exact ⟨isW_k hi, isW_i hi⟩
  rw [f_Town_become_eq i0 i1]
  obtain ⟨Sa, hSa⟩ : ∃ Sa, Sa = (u3 (u1 (u1 S t0 1 (S.1 t1 1)) t0 3 ((u1 S t0 1 (S.1 t1 1)).1 t1 3)) (t0 + 2) (va_cpy ((u1 (u1 S t0 1 (S.1 t1 1)) t0 3 ((u1 S t0 1 (S.1 t1 1)).1 t1 3)).1 (t1 + 2)) ((u1 (u1 S t0 1 (S.1 t1 1)) t0 3 ((u1 S t0 1 (S.1 t1 1)).1 t1 3)).1 (t0 + 2)) 0 0 8)) := ⟨_, rfl⟩
  rw [← hSa]
  have a1 : Sa.1 t0 1 = nI W := by rw [hSa]; simp (disch := omega) only [zwN, zuS, zuN, zu2, zv1, zvS, zvN]; exact hW
  have a3 : Sa.1 t0 3 = S.1 t1 3 := by rw [hSa]; simp (disch := omega) only [zwN, zuS, zuN, zu2, zv1, zvS, zvN]
  have a8 : ∀ k, k < 8 → Sa.1 (t0 + 2) k = S.1 (t1 + 2) k := fun k hk => by rw [hSa, zwS, cpy_in hk]; simp (disch := omega) only [zuS, zuN, zu2, zv1, zvS, zvN]
  have af : ∀ x k, x ≠ t0 → x ≠ t0 + 2 → Sa.1 x k = S.1 x k := fun x k q0 q2 => by rw [hSa]; simp (disch := omega) only [zwN, zuS, zuN, zu2, zv1, zvS, zvN]
  clear hSa
  obtain ⟨S1, e1, f1, q1⟩ := zfor (fun i S => k_Town_become_33 t0 t1 (nI i) S) W (fun i S1 => (∀ x k, x < t0 + 3 ∨ t0 + 12 < x → S1.1 x k = Sa.1 x k) ∧ ∀ j, j < i → (S1.1 (t0 + 3 + 2 * j) 0 = S.1 (t1 + 3 + 2 * j) 0 ∧ S1.1 (t0 + 3 + 2 * j) 1 = S.1 (t1 + 3 + 2 * j) 1 ∧ S1.1 (t0 + 3 + 2 * j) 2 = S.1 (t1 + 3 + 2 * j) 2 ∧ S1.1 (t0 + 3 + 2 * j) 3 = S.1 (t1 + 3 + 2 * j) 3 ∧ S1.1 (t0 + 3 + 2 * j) 5 = S.1 (t1 + 3 + 2 * j) 5 ∧ S1.1 (t0 + 3 + 2 * j) 6 = S.1 (t1 + 3 + 2 * j) 6 ∧ (∀ k, k < 20 → S1.1 (t0 + 3 + 2 * j + 1) k = S.1 (t1 + 3 + 2 * j + 1) k))) (by
    intro i S1 hi ⟨f1, q1⟩
    obtain ⟨S2, e2, f2, b0, b1, b2, b3, b5, b6, b7⟩ := tb_walker (wi i (by omega)).1 (wi i (by omega)).2 (by omega) (S := S1)
    have hs : ∀ k, S1.1 (t1 + 3 + 2 * i) k = S.1 (t1 + 3 + 2 * i) k ∧ S1.1 (t1 + 3 + 2 * i + 1) k = S.1 (t1 + 3 + 2 * i + 1) k := fun k => ⟨by rw [f1 _ _ (by omega), af _ _ (by omega) (by omega)], by rw [f1 _ _ (by omega), af _ _ (by omega) (by omega)]⟩
    refine ⟨S2, ?_, fun x k q => by rw [f2 x k (by omega) (by omega), f1 x k q], fun j hj => ?_⟩
    · have a1' : S1.1 t0 1 = nI W := by rw [f1 _ _ (by omega)]; exact a1
      rw [k_Town_become_33_eq i0 i1]
      simp (disch := omega) only [zL0, zL1, zL2, zL3, zL4, zL5, zL6, zL7, zL8, zL9, zL10, zL12, zL20, zL30, zL31, zL32, zL44, zL48, zL49, zL50, zL56, zL59, zL60, zL61, zL64, zL65, zL97, zL99, zL100, zL101, zL102, zL103, zL104, zL111, zL119, zL126, zL255, zL512, zL617, zL65535, zL65536, zL1048576, zlt, zle, zeq, ztn, zin, zzb, zadd, zmul, zm_lt, zm_gt, zm_le, zm_ge, zm_eq, zm_eq', zm_in, if_pos, if_neg, bI_s, bJ_s, bA_s, bU_s, if_true, if_false, reduceIte, or_true, true_or, or_false, false_or, and_true, true_and, and_false, false_and, not_true_eq_false, not_false_eq_true, Nat.reduceEqDiff, Nat.zero_ne_one, Nat.one_ne_zero, a1', e2]
    · by_cases e : j = i
      · subst e
        exact ⟨by rw [b0, (hs 0).1], by rw [b1, (hs 1).1], by rw [b2, (hs 2).1], by rw [b3, (hs 3).1], by rw [b5, (hs 5).1], by rw [b6, (hs 6).1], fun k hk => by rw [b7 k hk, (hs k).2]⟩
      · obtain ⟨c0, c1, c2, c3, c5, c6, c7⟩ := q1 j (by omega)
        exact ⟨by rw [f2 _ _ (by omega) (by omega), c0], by rw [f2 _ _ (by omega) (by omega), c1], by rw [f2 _ _ (by omega) (by omega), c2], by rw [f2 _ _ (by omega) (by omega), c3], by rw [f2 _ _ (by omega) (by omega), c5], by rw [f2 _ _ (by omega) (by omega), c6], fun k hk => by rw [f2 _ _ (by omega) (by omega), c7 k hk]⟩) W 0 Sa (by omega) ⟨fun _ _ _ => rfl, fun _ _ => by omega⟩
  refine ⟨S1, ?_, fun x k q => by rw [f1 x k (by omega), af x k (by omega) (by omega)], by rw [f1 _ _ (by omega)]; exact a1, by rw [f1 _ _ (by omega)]; exact a3, fun k hk => by rw [f1 _ _ (by omega)]; exact a8 k hk, q1⟩
  have a1' : S1.1 t0 1 = nI W := by rw [f1 _ _ (by omega)]; exact a1
  rw [zL0, e1, k_Town_become_33_eq i0 i1]
  simp (disch := omega) only [zL0, zL1, zL2, zL3, zL4, zL5, zL6, zL7, zL8, zL9, zL10, zL12, zL20, zL30, zL31, zL32, zL44, zL48, zL49, zL50, zL56, zL59, zL60, zL61, zL64, zL65, zL97, zL99, zL100, zL101, zL102, zL103, zL104, zL111, zL119, zL126, zL255, zL512, zL617, zL65535, zL65536, zL1048576, zlt, zle, zeq, ztn, zin, zzb, zadd, zmul, zm_lt, zm_gt, zm_le, zm_ge, zm_eq, zm_eq', zm_in, if_pos, if_neg, bI_s, bJ_s, bA_s, bU_s, if_true, if_false, reduceIte, or_true, true_or, or_false, false_or, and_true, true_and, and_false, false_and, not_true_eq_false, not_false_eq_true, Nat.reduceEqDiff, Nat.zero_ne_one, Nat.one_ne_zero, a1', k_Town_become_67_eq]
end TB
section IM
variable {c : Nat} {D : DD} {S : Mem}
def imD (D : DD) : DD := dS (dS (dS (dS (dS (dS (dS D 55 (dU (dU (dU (dU (D 55) 42 1) 43 (D 55 6)) 44 (D 55 7)) 45 (D 55 16))) 78 (fun k => if k < 5 then D 60 k else D 78 k)) 79 (fun k => if k < 5 then D 62 k else D 79 k)) 80 (fun k => if k < 5 then D 64 k else D 80 k)) 81 (fun k => if k < 5 then D 65 k else D 81 k)) 82 (fun k => if k < 100 then D 63 k else D 82 k)) 83 (fun k => if k < 8 then D 66 k else D 83 k)
theorem mo_image (hm : RM D S) (h6 : D 55 6 ≠ 0) (h6' : D 55 6 < 2147483648) : ∃ S', f_Mod_image S = some (nI (D 55 16), S') ∧ RM (imD D) S' ∧ frM S S' := by
  obtain ⟨Sa, hSa⟩ : ∃ Sa, Sa = u1 (u1 (u1 (u1 S 55 42 (nI 1)) 55 43 (nI (D 55 6))) 55 44 (nI (D 55 7))) 55 45 (nI (D 55 16)) := ⟨_, rfl⟩
  obtain ⟨S1, e1, f1, p1⟩ := zfor (fun i S => k_Mod_image_41 (nI i) S) 5 (fun i S1 => (∀ x k, x ≠ 78 → x ≠ 79 → x ≠ 80 → x ≠ 81 → S1.1 x k = Sa.1 x k) ∧ ∀ j, S1.1 78 j = nI (if j < i then D 60 j else D 78 j) ∧ S1.1 79 j = nI (if j < i then D 62 j else D 79 j) ∧ S1.1 80 j = nI (if j < i then D 64 j else D 80 j) ∧ S1.1 81 j = nI (if j < i then D 65 j else D 81 j)) (by
    intro i S1 hi ⟨f1, p1⟩
    have b0 : S1.1 60 i = nI (D 60 i) := by rw [f1 _ _ (by omega) (by omega) (by omega) (by omega), hSa]; simp (disch := omega) only [zuS, zuN, zu2, zv1, zvS, zvN]; exact hm.r 60 i (by omega)
    have b2 : S1.1 62 i = nI (D 62 i) := by rw [f1 _ _ (by omega) (by omega) (by omega) (by omega), hSa]; simp (disch := omega) only [zuS, zuN, zu2, zv1, zvS, zvN]; exact hm.r 62 i (by omega)
    have b4 : S1.1 64 i = nI (D 64 i) := by rw [f1 _ _ (by omega) (by omega) (by omega) (by omega), hSa]; simp (disch := omega) only [zuS, zuN, zu2, zv1, zvS, zvN]; exact hm.r 64 i (by omega)
    have b5 : S1.1 65 i = nI (D 65 i) := by rw [f1 _ _ (by omega) (by omega) (by omega) (by omega), hSa]; simp (disch := omega) only [zuS, zuN, zu2, zv1, zvS, zvN]; exact hm.r 65 i (by omega)
    refine ⟨u1 (u1 (u1 (u1 S1 78 i (nI (D 60 i))) 79 i (nI (D 62 i))) 80 i (nI (D 64 i))) 81 i (nI (D 65 i)), ?_, fun x k q0 q1 q2 q3 => ?_, fun j => ?_⟩
    · rw [k_Mod_image_41_eq]
      simp (disch := omega) only [zL0, zL1, zL2, zL3, zL4, zL5, zL6, zL7, zL8, zL9, zL10, zL12, zL20, zL30, zL31, zL32, zL44, zL48, zL49, zL50, zL56, zL59, zL60, zL61, zL64, zL65, zL97, zL99, zL100, zL101, zL102, zL103, zL104, zL111, zL119, zL126, zL255, zL512, zL617, zL65535, zL65536, zL1048576, zlt, zle, zeq, ztn, zin, zzb, zadd, zmul, zm_lt, zm_gt, zm_le, zm_ge, zm_eq, zm_eq', zm_in, if_pos, if_neg, bI_s, bJ_s, bA_s, bU_s, if_true, if_false, reduceIte, or_true, true_or, or_false, false_or, and_true, true_and, and_false, false_and, not_true_eq_false, not_false_eq_true, Nat.reduceEqDiff, Nat.zero_ne_one, Nat.one_ne_zero, zuS, zuN, zu2, zv1, zvS, zvN, b0, b2, b4, b5]
    · simp (disch := omega) only [zuS, zuN, zu2, zv1, zvS, zvN]; exact f1 x k q0 q1 q2 q3
    · by_cases e : j = i
      · subst e
        refine ⟨?_, ?_, ?_, ?_⟩ <;> rw [if_pos (by omega)] <;> simp (disch := omega) only [zuS, zuN, zu2, zv1, zvS, zvN]
      · obtain ⟨c0, c1, c2, c3⟩ := p1 j
        by_cases q : j < i
        · rw [if_pos q] at c0 c1 c2 c3
          refine ⟨?_, ?_, ?_, ?_⟩ <;> rw [if_pos (by omega)] <;> simp (disch := omega) only [zuS, zuN, zu2, zv1, zvS, zvN]
          · exact c0
          · exact c1
          · exact c2
          · exact c3
        · rw [if_neg q] at c0 c1 c2 c3
          refine ⟨?_, ?_, ?_, ?_⟩ <;> rw [if_neg (by omega)] <;> simp (disch := omega) only [zuS, zuN, zu2, zv1, zvS, zvN]
          · exact c0
          · exact c1
          · exact c2
          · exact c3) 5 0 Sa (by omega) ⟨fun _ _ _ _ _ _ => rfl, fun j => by
        refine ⟨?_, ?_, ?_, ?_⟩ <;> rw [if_neg (by omega), hSa] <;> simp (disch := omega) only [zuS, zuN, zu2, zv1, zvS, zvN]
        · exact hm.r 78 j (by omega)
        · exact hm.r 79 j (by omega)
        · exact hm.r 80 j (by omega)
        · exact hm.r 81 j (by omega)⟩
  obtain ⟨S2, e2, f2, p2⟩ := zfor (fun i S => k_Mod_image_102 (nI i) S) 100 (fun i S2 => (∀ x k, x ≠ 82 → S2.1 x k = S1.1 x k) ∧ ∀ j, S2.1 82 j = nI (if j < i then D 63 j else D 82 j)) (by
    intro i S2 hi ⟨f2, p2⟩
    have b0 : S2.1 63 i = nI (D 63 i) := by rw [f2 _ _ (by omega), f1 _ _ (by omega) (by omega) (by omega) (by omega), hSa]; simp (disch := omega) only [zuS, zuN, zu2, zv1, zvS, zvN]; exact hm.r 63 i (by omega)
    refine ⟨u1 S2 82 i (nI (D 63 i)), ?_, fun x k q => ?_, fun j => ?_⟩
    · rw [k_Mod_image_102_eq]
      simp (disch := omega) only [zL0, zL1, zL2, zL3, zL4, zL5, zL6, zL7, zL8, zL9, zL10, zL12, zL20, zL30, zL31, zL32, zL44, zL48, zL49, zL50, zL56, zL59, zL60, zL61, zL64, zL65, zL97, zL99, zL100, zL101, zL102, zL103, zL104, zL111, zL119, zL126, zL255, zL512, zL617, zL65535, zL65536, zL1048576, zlt, zle, zeq, ztn, zin, zzb, zadd, zmul, zm_lt, zm_gt, zm_le, zm_ge, zm_eq, zm_eq', zm_in, if_pos, if_neg, bI_s, bJ_s, bA_s, bU_s, if_true, if_false, reduceIte, or_true, true_or, or_false, false_or, and_true, true_and, and_false, false_and, not_true_eq_false, not_false_eq_true, Nat.reduceEqDiff, Nat.zero_ne_one, Nat.one_ne_zero, b0]
    · simp (disch := omega) only [zuS, zuN, zu2, zv1, zvS, zvN]; exact f2 x k q
    · by_cases e : j = i
      · subst e; rw [if_pos (by omega)]; simp (disch := omega) only [zuS, zuN, zu2, zv1, zvS, zvN]
      · have c0 := p2 j
        by_cases q : j < i
        · rw [if_pos q] at c0; rw [if_pos (by omega)]; simp (disch := omega) only [zuS, zuN, zu2, zv1, zvS, zvN]; exact c0
        · rw [if_neg q] at c0; rw [if_neg (by omega)]; simp (disch := omega) only [zuS, zuN, zu2, zv1, zvS, zvN]; exact c0) 100 0 S1 (by omega) ⟨fun _ _ _ => rfl, fun j => by rw [if_neg (by omega), f1 _ _ (by omega) (by omega) (by omega) (by omega), hSa]; simp (disch := omega) only [zuS, zuN, zu2, zv1, zvS, zvN]; exact hm.r 82 j (by omega)⟩
  obtain ⟨S3, e3, f3, p3⟩ := zfor (fun i S => k_Mod_image_128 (nI i) S) 8 (fun i S3 => (∀ x k, x ≠ 83 → S3.1 x k = S2.1 x k) ∧ ∀ j, S3.1 83 j = nI (if j < i then D 66 j else D 83 j)) (by
    intro i S3 hi ⟨f3, p3⟩
    have b0 : S3.1 66 i = nI (D 66 i) := by rw [f3 _ _ (by omega), f2 _ _ (by omega), f1 _ _ (by omega) (by omega) (by omega) (by omega), hSa]; simp (disch := omega) only [zuS, zuN, zu2, zv1, zvS, zvN]; exact hm.r 66 i (by omega)
    refine ⟨u1 S3 83 i (nI (D 66 i)), ?_, fun x k q => ?_, fun j => ?_⟩
    · rw [k_Mod_image_128_eq]
      simp (disch := omega) only [zL0, zL1, zL2, zL3, zL4, zL5, zL6, zL7, zL8, zL9, zL10, zL12, zL20, zL30, zL31, zL32, zL44, zL48, zL49, zL50, zL56, zL59, zL60, zL61, zL64, zL65, zL97, zL99, zL100, zL101, zL102, zL103, zL104, zL111, zL119, zL126, zL255, zL512, zL617, zL65535, zL65536, zL1048576, zlt, zle, zeq, ztn, zin, zzb, zadd, zmul, zm_lt, zm_gt, zm_le, zm_ge, zm_eq, zm_eq', zm_in, if_pos, if_neg, bI_s, bJ_s, bA_s, bU_s, if_true, if_false, reduceIte, or_true, true_or, or_false, false_or, and_true, true_and, and_false, false_and, not_true_eq_false, not_false_eq_true, Nat.reduceEqDiff, Nat.zero_ne_one, Nat.one_ne_zero, b0]
    · simp (disch := omega) only [zuS, zuN, zu2, zv1, zvS, zvN]; exact f3 x k q
    · by_cases e : j = i
      · subst e; rw [if_pos (by omega)]; simp (disch := omega) only [zuS, zuN, zu2, zv1, zvS, zvN]
      · have c0 := p3 j
        by_cases q : j < i
        · rw [if_pos q] at c0; rw [if_pos (by omega)]; simp (disch := omega) only [zuS, zuN, zu2, zv1, zvS, zvN]; exact c0
        · rw [if_neg q] at c0; rw [if_neg (by omega)]; simp (disch := omega) only [zuS, zuN, zu2, zv1, zvS, zvN]; exact c0) 8 0 S2 (by omega) ⟨fun _ _ _ => rfl, fun j => by rw [if_neg (by omega), f2 _ _ (by omega), f1 _ _ (by omega) (by omega) (by omega) (by omega), hSa]; simp (disch := omega) only [zuS, zuN, zu2, zv1, zvS, zvN]; exact hm.r 83 j (by omega)⟩
  have hall : ∀ x k, x ≠ 78 → x ≠ 79 → x ≠ 80 → x ≠ 81 → x ≠ 82 → x ≠ 83 → S3.1 x k = Sa.1 x k := fun x k q0 q1 q2 q3 q4 q5 => by rw [f3 x k q5, f2 x k q4, f1 x k q0 q1 q2 q3]
  refine ⟨S3, ?_, ?_, fun a k q => by rw [hall a k (by omega) (by omega) (by omega) (by omega) (by omega) (by omega), hSa]; simp (disch := omega) only [zuS, zuN, zu2, zv1, zvS, zvN]⟩
  · rw [f_Mod_image_eq, zL0]
    have b16 : S3.1 55 16 = nI (D 55 16) := by rw [hall _ _ (by omega) (by omega) (by omega) (by omega) (by omega) (by omega), hSa]; simp (disch := omega) only [zuS, zuN, zu2, zv1, zvS, zvN]; exact hm.r 55 16 (by omega)
    have g7 := hm.r 55 7 (by omega)
    have g6 := hm.r 55 6 (by omega)
    have g16 := hm.r 55 16 (by omega)
    rw [show (1 : Int32) = nI 1 from rfl, g7, g6, g16, ← hSa, if_neg (by rw [zeq h6' (by omega)]; exact h6), e1, k_Mod_image_41_eq, zL5, if_pos (by rw [zle (by omega) (by omega)]; omega), zL0, e2, k_Mod_image_102_eq, zL100, if_pos (by rw [zle (by omega) (by omega)]; omega), zL0, e3, k_Mod_image_128_eq, zL8, if_pos (by rw [zle (by omega) (by omega)]; omega), b16]
  · intro a k q
    by_cases a78 : a = 78
    · subst a78; rw [f3 _ _ (by omega), f2 _ _ (by omega)]; exact (p1 k).1
    by_cases a79 : a = 79
    · subst a79; rw [f3 _ _ (by omega), f2 _ _ (by omega)]; exact (p1 k).2.1
    by_cases a80 : a = 80
    · subst a80; rw [f3 _ _ (by omega), f2 _ _ (by omega)]; exact (p1 k).2.2.1
    by_cases a81 : a = 81
    · subst a81; rw [f3 _ _ (by omega), f2 _ _ (by omega)]; exact (p1 k).2.2.2
    by_cases a82 : a = 82
    · subst a82; rw [f3 _ _ (by omega)]; exact p2 k
    by_cases a83 : a = 83
    · subst a83; exact p3 k
    rw [hall a k a78 a79 a80 a81 a82 a83, hSa]
    unfold imD
    rw [dS_n a83, dS_n a82, dS_n a81, dS_n a80, dS_n a79, dS_n a78]
    by_cases a55 : a = 55
    · subst a55
      rw [dS_s]
      by_cases k45 : k = 45
      · rw [zuS ⟨rfl, k45⟩, dU_s k45]
      by_cases k44 : k = 44
      · rw [zuN (by omega), zuS ⟨rfl, k44⟩, dU_n k45, dU_s k44]
      by_cases k43 : k = 43
      · rw [zuN (by omega), zuN (by omega), zuS ⟨rfl, k43⟩, dU_n k45, dU_n k44, dU_s k43]
      by_cases k42 : k = 42
      · rw [zuN (by omega), zuN (by omega), zuN (by omega), zuS ⟨rfl, k42⟩, dU_n k45, dU_n k44, dU_n k43, dU_s k42]
      rw [zuN (by omega), zuN (by omega), zuN (by omega), zuN (by omega), dU_n k45, dU_n k44, dU_n k43, dU_n k42]
      exact hm 55 k q
    · rw [zuN (by omega), zuN (by omega), zuN (by omega), zuN (by omega), dS_n a55]
      exact hm a k q
theorem imD_ok (hd : okD D) (h6 : D 55 6 ≠ 0) : okD (imD D) := by
  refine ⟨okN_d hd.1 rfl rfl rfl rfl rfl rfl, okW_d hd.2.1 rfl rfl rfl rfl rfl rfl rfl (fun i hi => (hd.2.1.2 i hi).2.2.2.1) rfl rfl rfl, ?_, fun _ => ?_⟩
  · obtain ⟨s1, s2, s3, s4, s5, s6, s7⟩ := hd.2.2.1
    exact ⟨s1, s2, s3, s4, fun q => absurd q h6, Nat.le_refl _, Nat.le_refl _⟩
  · have w5 := hd.2.1.1
    simp only [stp_d (D := D) (D' := imD D) rfl rfl rfl]
    refine ⟨Nat.le_refl _, Nat.zero_le _, fun k hk => ?_, fun i hi => ?_⟩
    · show (if k < 8 then D 66 k else D 83 k) ≤ 99
      rw [if_pos hk]; exact hd.2.2.1.2.2.1 k hk
    · have hi' : i < D 55 7 := hi
      show (if i < 5 then D 60 i else D 78 i) < 8 ∧ (if i < 5 then D 62 i else D 79 i) ≤ 20 ∧ (if i < 5 then D 64 i else D 80 i) ≤ 20 ∧ (if i < 5 then D 65 i else D 81 i) ≤ (if i < 5 then D 64 i else D 80 i) ∧ (∀ k, k < (if i < 5 then D 64 i else D 80 i) → (if 20 * i + k < 100 then D 63 (20 * i + k) else D 82 (20 * i + k)) < 8) ∧ ((if i < 5 then D 65 i else D 81 i) < (if i < 5 then D 64 i else D 80 i) → stp D (if i < 5 then D 60 i else D 78 i) (if 20 * i + (if i < 5 then D 65 i else D 81 i) < 100 then D 63 (20 * i + (if i < 5 then D 65 i else D 81 i)) else D 82 (20 * i + (if i < 5 then D 65 i else D 81 i)))) ∧ (∀ k, k + 1 < (if i < 5 then D 64 i else D 80 i) → stp D (if 20 * i + k < 100 then D 63 (20 * i + k) else D 82 (20 * i + k)) (if 20 * i + k + 1 < 100 then D 63 (20 * i + k + 1) else D 82 (20 * i + k + 1)))
      obtain ⟨q1, q2, q3, q4, q5, q6, q7, q8, q9⟩ := hd.2.1.2 i hi'
      simp only [if_pos (show i < 5 by omega)]
      refine ⟨q2, q4, q5, q6, fun k hk => ?_, fun q => ?_, fun k hk => ?_⟩
      · rw [if_pos (by omega)]; exact q7 k hk
      · rw [if_pos (by omega)]; exact q8 q
      · rw [if_pos (by omega), if_pos (by omega)]; exact q9 k hk
theorem ask_image (h : Inv c D S) (hc : c < 512) : CAL c S f_Top_image f_Mod_image := by
  obtain ⟨hd, hr, hm, h4, h5, h6⟩ := id h
  have hn8 := hr.net
  have w5 := hd.2.1.1
  by_cases c6 : D 55 6 = 0
  · rw [if_pos c6] at hn8
    refine CAL_00 h hc (r := -nI 103) ?_ ?_
    · rw [f_Top_image_eq]; simp (disch := omega) only [hn8, zL0, zL1, zL2, zL3, zL4, zL5, zL6, zL7, zL8, zL9, zL10, zL12, zL20, zL30, zL31, zL32, zL44, zL48, zL49, zL50, zL56, zL59, zL60, zL61, zL64, zL65, zL97, zL99, zL100, zL101, zL102, zL103, zL104, zL111, zL119, zL126, zL255, zL512, zL617, zL65535, zL65536, zL1048576, zlt, zle, zeq, ztn, zin, zzb, zadd, zmul, zm_lt, zm_gt, zm_le, zm_ge, zm_eq, zm_eq', zm_in, if_pos, if_neg, bI_s, bJ_s, bA_s, bU_s, if_true, if_false, reduceIte, or_true, true_or, or_false, false_or, and_true, true_and, and_false, false_and, not_true_eq_false, not_false_eq_true, Nat.reduceEqDiff, Nat.zero_ne_one, Nat.one_ne_zero]
    · rw [f_Mod_image_eq]; simp (disch := omega) only [hm.r, zL0, zL1, zL2, zL3, zL4, zL5, zL6, zL7, zL8, zL9, zL10, zL12, zL20, zL30, zL31, zL32, zL44, zL48, zL49, zL50, zL56, zL59, zL60, zL61, zL64, zL65, zL97, zL99, zL100, zL101, zL102, zL103, zL104, zL111, zL119, zL126, zL255, zL512, zL617, zL65535, zL65536, zL1048576, zlt, zle, zeq, ztn, zin, zzb, zadd, zmul, zm_lt, zm_gt, zm_le, zm_ge, zm_eq, zm_eq', zm_in, if_pos, if_neg, bI_s, bJ_s, bA_s, bU_s, if_true, if_false, reduceIte, or_true, true_or, or_false, false_or, and_true, true_and, and_false, false_and, not_true_eq_false, not_false_eq_true, Nat.reduceEqDiff, Nat.zero_ne_one, Nat.one_ne_zero]
  rw [if_neg c6] at hn8
  obtain ⟨S1, e1, f1, a1, a3, a8, aw⟩ := tb_town (t0 := 27) (t1 := 14) (W := D 55 7) (Or.inr ⟨rfl, rfl⟩) hr.w w5
  obtain ⟨S2, hS2⟩ : ∃ S2, S2 = u1 S1 0 9 (nI 1) := ⟨_, rfl⟩
  have hd' := imD_ok hd c6
  have f2 : ∀ x k, (x < 27 ∨ 39 < x) → ¬ (x = 0 ∧ k = 9) → S2.1 x k = S.1 x k := fun x k q q2 => by rw [hS2, zuN q2, f1 x k q]
  have g2 : ∀ x k, ¬ x = 0 → S2.1 x k = S1.1 x k := fun x k q => by rw [hS2, zuN (fun w => q w.1)]
  have hK : hasK (imD D) := ⟨rfl, rfl⟩
  have hr2 : RC (imD D) S2 := by
    refine ⟨rPg_f (rPg_d hr.1 rfl rfl) (fun a k q => f2 a k (by omega) (by omega)), rNt_f (rNt_d hr.2.1 rfl rfl rfl rfl rfl rfl rfl) (fun a k q => f2 a k (by omega) (by omega)), rTw_f hd'.2.1.1 (rTw_d hr.2.2.1 rfl rfl rfl rfl rfl rfl rfl rfl) (fun a k q => f2 a k (by omega) (by omega)), rHp_f (rHp_d hr.2.2.2.1 rfl rfl) (fun a k q => f2 a k (by omega) (by omega)), ⟨?_, fun _ => ?_, fun q => absurd hK q, ?_, ?_⟩, fun _ => ⟨?_, ?_, fun k hk => ?_, fun i hi => ?_, fun i hi => ?_, fun i hi => ?_, fun i hi => ?_, fun i hi => ?_, fun i hi => ?_, fun i k hi hk => ?_⟩⟩
    · rw [f2 _ _ (by omega) (by omega)]; exact hr.net
    · rw [hS2, zuS ⟨rfl, rfl⟩]
    · rw [f2 _ _ (by omega) (by omega)]; exact hr.2.2.2.2.1.2.2.2.1
    · rw [f2 _ _ (by omega) (by omega)]; exact hr.2.2.2.2.1.2.2.2.2
    · rw [g2 _ _ (by omega), a1]; rfl
    · rw [g2 _ _ (by omega), a3]; exact hr.2.2.2.1.1
    · show _ = nI (if k < 8 then D 66 k else D 83 k)
      rw [if_pos hk, g2 _ _ (by omega), a8 k hk]; exact hr.hp k hk
    · have hi' : i < D 55 7 := hi
      rw [g2 _ _ (by omega), (aw i hi').1]; exact hr.kind i hi'
    · have hi' : i < D 55 7 := hi
      show _ = nI (if i < 5 then D 60 i else D 78 i)
      rw [if_pos (by omega), g2 _ _ (by omega), (aw i hi').2.1]; exact hr.cor i hi'
    · have hi' : i < D 55 7 := hi
      rw [g2 _ _ (by omega), (aw i hi').2.2.1]; exact hr.goal i hi'
    · have hi' : i < D 55 7 := hi
      show _ = nI (if i < 5 then D 62 i else D 79 i)
      rw [if_pos (by omega), g2 _ _ (by omega), (aw i hi').2.2.2.1]; exact hr.load i hi'
    · have hi' : i < D 55 7 := hi
      show _ = nI (if i < 5 then D 64 i else D 80 i)
      rw [if_pos (by omega), g2 _ _ (by omega), (aw i hi').2.2.2.2.1]; exact hr.wl i hi'
    · have hi' : i < D 55 7 := hi
      show _ = nI (if i < 5 then D 65 i else D 81 i)
      rw [if_pos (by omega), g2 _ _ (by omega), (aw i hi').2.2.2.2.2.1]; exact hr.wd i hi'
    · have hi' : i < D 55 7 := hi
      have hk' : k < (if i < 5 then D 64 i else D 80 i) := hk
      rw [if_pos (by omega)] at hk'
      have wl := (hd.2.1.2 i hi').2.2.2.2.1
      show _ = nI (if 20 * i + k < 100 then D 63 (20 * i + k) else D 82 (20 * i + k))
      rw [if_pos (by omega), g2 _ _ (by omega)]
      have e := (aw i hi').2.2.2.2.2.2 k (by omega)
      rw [show 27 + 3 + 2 * i + 1 = 31 + 2 * i by omega, show 14 + 3 + 2 * i + 1 = 18 + 2 * i by omega] at e
      rw [e]; exact hr.way i k hi' hk'
  have hm2 : RM D S2 := RM_T hm (fun a k q => f2 a k (by omega) (by omega))
  obtain ⟨S3, e3, m3, f3⟩ := mo_image hm2 c6 (by omega)
  refine CAL_w (r := nI (D 55 16)) hc hd' ?_ hr2 e3 f3 m3 (by show D 55 6 ≤ c + 1; omega) (Nat.zero_le _)
  rw [f_Top_image_eq]
  have b3 : S1.1 14 3 = nI (D 55 16) := by rw [f1 _ _ (by omega)]; exact hr.2.2.2.1.1
  simp (disch := omega) only [hn8, zL0, zL1, zL2, zL3, zL4, zL5, zL6, zL7, zL8, zL9, zL10, zL12, zL20, zL30, zL31, zL32, zL44, zL48, zL49, zL50, zL56, zL59, zL60, zL61, zL64, zL65, zL97, zL99, zL100, zL101, zL102, zL103, zL104, zL111, zL119, zL126, zL255, zL512, zL617, zL65535, zL65536, zL1048576, zlt, zle, zeq, ztn, zin, zzb, zadd, zmul, zm_lt, zm_gt, zm_le, zm_ge, zm_eq, zm_eq', zm_in, if_pos, if_neg, bI_s, bJ_s, bA_s, bU_s, if_true, if_false, reduceIte, or_true, true_or, or_false, false_or, and_true, true_and, and_false, false_and, not_true_eq_false, not_false_eq_true, Nat.reduceEqDiff, Nat.zero_ne_one, Nat.one_ne_zero, e1, b3, hS2]
end IM
