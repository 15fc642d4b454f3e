/-! the class's reader, all of it -/
theorem cr_mark {q : Qt} (hq : okQ q) {J : Nat} {S : Mem} (h : NR q J S) (hs : q.1 = 2 ∨ q.1 = 3) {ch : Nat} (hc : ch < 1000) (h61 : q.1 = 2 → ch ≠ 61) : (nst q ch = none ∧ f_NetReader_acceptsMark (nI ch) S = some (nI 0, S)) ∨ ∃ q' S', nst q ch = some q' ∧ f_NetReader_acceptsMark (nI ch) S = some (nI 1, S') ∧ NR q' J S' ∧ frR S S' := by
  have hn : nst q ch = if ch = 44 ∧ q.2.1 < 12 then some (0, q.2) else if ch = 59 then some (4, q.2) else none := by
    rcases hs with e | e
    · rw [nst_2 e, if_neg (h61 e)]
    · rw [nst_3 e]
  have n12 := hq.2.1
  obtain ⟨g6, g3, g4, g5, gJ, gj, ga, gb, gw, gt⟩ := h
  have mk : ∀ v, v ≠ 1 → NR (v, q.2) J (u1 S 3 6 (nI v)) ∧ frR S (u1 S 3 6 (nI v)) := by
    intro v hv
    refine ⟨⟨?_, ?_, ?_, ?_, gJ, gj, fun k hk => ?_, fun k hk => ?_, fun k hk => ?_, gt⟩, fun x k q => by simp (disch := omega) only [zuS, zuN, zu2, zv1, zvS, zvN]⟩
    · simp (disch := omega) only [zuS, zuN, zu2, zv1, zvS, zvN]
    · simp (disch := omega) only [zuS, zuN, zu2, zv1, zvS, zvN]; exact g3
    · simp (disch := omega) only [zuS, zuN, zu2, zv1, zvS, zvN]; exact g4
    · simp (disch := omega) only [zuS, zuN, zu2, zv1, zvS, zvN]; exact g5
    · simp (disch := omega) only [zuS, zuN, zu2, zv1, zvS, zvN]
      rcases hk with hk | hk
      · exact ga k (Or.inl hk)
      · exact absurd hk.2 hv
    · simp (disch := omega) only [zuS, zuN, zu2, zv1, zvS, zvN]; exact gb k hk
    · simp (disch := omega) only [zuS, zuN, zu2, zv1, zvS, zvN]; exact gw k hk
  rw [hn, f_NetReader_acceptsMark_eq]
  by_cases c1 : ch = 44
  · by_cases c2 : q.2.1 < 12
    · obtain ⟨m1, m2⟩ := mk 0 (by omega)
      refine Or.inr ⟨(0, q.2), _, ?_, ?_, m1, m2⟩
      · rw [if_pos ⟨c1, c2⟩]
      · simp (disch := omega) only [g3, zL0, zL1, zL2, zL3, zL4, zL5, zL6, zL7, zL8, zL9, zL10, zL12, zL20, zL30, zL31, zL32, zL44, zL48, zL49, zL50, zL56, zL59, zL60, zL61, zL64, zL65, zL97, zL99, zL100, zL101, zL102, zL103, zL104, zL111, zL119, zL126, zL255, zL512, zL617, zL65535, zL65536, zL1048576, zlt, zle, zeq, ztn, zin, zzb, zadd, zmul, zm_lt, zm_gt, zm_le, zm_ge, zm_eq, zm_eq', zm_in, if_pos, if_neg, bI_s, bJ_s, bA_s, bU_s, if_true, if_false, reduceIte, or_true, true_or, or_false, false_or, and_true, true_and, and_false, false_and, not_true_eq_false, not_false_eq_true, Nat.reduceEqDiff, Nat.zero_ne_one, Nat.one_ne_zero]
    · refine Or.inl ⟨?_, ?_⟩
      · rw [if_neg (fun w => c2 w.2), if_neg (by omega)]
      · simp (disch := omega) only [g3, zL0, zL1, zL2, zL3, zL4, zL5, zL6, zL7, zL8, zL9, zL10, zL12, zL20, zL30, zL31, zL32, zL44, zL48, zL49, zL50, zL56, zL59, zL60, zL61, zL64, zL65, zL97, zL99, zL100, zL101, zL102, zL103, zL104, zL111, zL119, zL126, zL255, zL512, zL617, zL65535, zL65536, zL1048576, zlt, zle, zeq, ztn, zin, zzb, zadd, zmul, zm_lt, zm_gt, zm_le, zm_ge, zm_eq, zm_eq', zm_in, if_pos, if_neg, bI_s, bJ_s, bA_s, bU_s, if_true, if_false, reduceIte, or_true, true_or, or_false, false_or, and_true, true_and, and_false, false_and, not_true_eq_false, not_false_eq_true, Nat.reduceEqDiff, Nat.zero_ne_one, Nat.one_ne_zero, k_NetReader_acceptsMark_22_eq]
  · by_cases c3 : ch = 59
    · obtain ⟨m1, m2⟩ := mk 4 (by omega)
      refine Or.inr ⟨(4, q.2), _, ?_, ?_, m1, m2⟩
      · rw [if_neg (fun w => c1 w.1), if_pos c3]
      · simp (disch := omega) only [g3, zL0, zL1, zL2, zL3, zL4, zL5, zL6, zL7, zL8, zL9, zL10, zL12, zL20, zL30, zL31, zL32, zL44, zL48, zL49, zL50, zL56, zL59, zL60, zL61, zL64, zL65, zL97, zL99, zL100, zL101, zL102, zL103, zL104, zL111, zL119, zL126, zL255, zL512, zL617, zL65535, zL65536, zL1048576, zlt, zle, zeq, ztn, zin, zzb, zadd, zmul, zm_lt, zm_gt, zm_le, zm_ge, zm_eq, zm_eq', zm_in, if_pos, if_neg, bI_s, bJ_s, bA_s, bU_s, if_true, if_false, reduceIte, or_true, true_or, or_false, false_or, and_true, true_and, and_false, false_and, not_true_eq_false, not_false_eq_true, Nat.reduceEqDiff, Nat.zero_ne_one, Nat.one_ne_zero, k_NetReader_acceptsMark_22_eq]
    · refine Or.inl ⟨?_, ?_⟩
      · rw [if_neg (fun w => c1 w.1), if_neg c3]
      · simp (disch := omega) only [g3, zL0, zL1, zL2, zL3, zL4, zL5, zL6, zL7, zL8, zL9, zL10, zL12, zL20, zL30, zL31, zL32, zL44, zL48, zL49, zL50, zL56, zL59, zL60, zL61, zL64, zL65, zL97, zL99, zL100, zL101, zL102, zL103, zL104, zL111, zL119, zL126, zL255, zL512, zL617, zL65535, zL65536, zL1048576, zlt, zle, zeq, ztn, zin, zzb, zadd, zmul, zm_lt, zm_gt, zm_le, zm_ge, zm_eq, zm_eq', zm_in, if_pos, if_neg, bI_s, bJ_s, bA_s, bU_s, if_true, if_false, reduceIte, or_true, true_or, or_false, false_or, and_true, true_and, and_false, false_and, not_true_eq_false, not_false_eq_true, Nat.reduceEqDiff, Nat.zero_ne_one, Nat.one_ne_zero, k_NetReader_acceptsMark_22_eq]
theorem cr_acc {q : Qt} (hq : okQ q) {J : Nat} {S : Mem} (h : NR q J S) {ch : Nat} (hc : ch < 1000) : (nst q ch = none ∧ f_NetReader_accepts (nI ch) S = some (nI 0, S)) ∨ ∃ q' J' S', nst q ch = some q' ∧ f_NetReader_accepts (nI ch) S = some (nI 1, S') ∧ NR q' J' S' ∧ frR S S' := by
  have g6 := h.1
  have st := hq.1
  rw [f_NetReader_accepts_eq]
  by_cases c0 : q.1 = 0
  · obtain ⟨st, n, a, b, wd, dd, ee⟩ := q
    dsimp only at c0 g6
    subst c0
    rcases cr_first hq h hc with ⟨h1, h2⟩ | ⟨q', S', h1, h2, h3, h4⟩
    · exact Or.inl ⟨h1, by simp (disch := omega) only [g6, zL0, zL1, zL2, zL3, zL4, zL5, zL6, zL7, zL8, zL9, zL10, zL12, zL20, zL30, zL31, zL32, zL44, zL48, zL49, zL50, zL56, zL59, zL60, zL61, zL64, zL65, zL97, zL99, zL100, zL101, zL102, zL103, zL104, zL111, zL119, zL126, zL255, zL512, zL617, zL65535, zL65536, zL1048576, zlt, zle, zeq, ztn, zin, zzb, zadd, zmul, zm_lt, zm_gt, zm_le, zm_ge, zm_eq, zm_eq', zm_in, if_pos, if_neg, bI_s, bJ_s, bA_s, bU_s, if_true, if_false, reduceIte, or_true, true_or, or_false, false_or, and_true, true_and, and_false, false_and, not_true_eq_false, not_false_eq_true, Nat.reduceEqDiff, Nat.zero_ne_one, Nat.one_ne_zero, h2]⟩
    · exact Or.inr ⟨q', J, S', h1, by simp (disch := omega) only [g6, zL0, zL1, zL2, zL3, zL4, zL5, zL6, zL7, zL8, zL9, zL10, zL12, zL20, zL30, zL31, zL32, zL44, zL48, zL49, zL50, zL56, zL59, zL60, zL61, zL64, zL65, zL97, zL99, zL100, zL101, zL102, zL103, zL104, zL111, zL119, zL126, zL255, zL512, zL617, zL65535, zL65536, zL1048576, zlt, zle, zeq, ztn, zin, zzb, zadd, zmul, zm_lt, zm_gt, zm_le, zm_ge, zm_eq, zm_eq', zm_in, if_pos, if_neg, bI_s, bJ_s, bA_s, bU_s, if_true, if_false, reduceIte, or_true, true_or, or_false, false_or, and_true, true_and, and_false, false_and, not_true_eq_false, not_false_eq_true, Nat.reduceEqDiff, Nat.zero_ne_one, Nat.one_ne_zero, h2], h3, h4⟩
  by_cases c1 : q.1 = 1
  · obtain ⟨st, n, a, b, wd, dd, ee⟩ := q
    dsimp only at c1 g6
    subst c1
    rcases cr_second hq h hc with ⟨h1, h2⟩ | ⟨q', J', S', h1, h2, h3, h4⟩
    · exact Or.inl ⟨h1, by simp (disch := omega) only [g6, zL0, zL1, zL2, zL3, zL4, zL5, zL6, zL7, zL8, zL9, zL10, zL12, zL20, zL30, zL31, zL32, zL44, zL48, zL49, zL50, zL56, zL59, zL60, zL61, zL64, zL65, zL97, zL99, zL100, zL101, zL102, zL103, zL104, zL111, zL119, zL126, zL255, zL512, zL617, zL65535, zL65536, zL1048576, zlt, zle, zeq, ztn, zin, zzb, zadd, zmul, zm_lt, zm_gt, zm_le, zm_ge, zm_eq, zm_eq', zm_in, if_pos, if_neg, bI_s, bJ_s, bA_s, bU_s, if_true, if_false, reduceIte, or_true, true_or, or_false, false_or, and_true, true_and, and_false, false_and, not_true_eq_false, not_false_eq_true, Nat.reduceEqDiff, Nat.zero_ne_one, Nat.one_ne_zero, h2]⟩
    · exact Or.inr ⟨q', J', S', h1, by simp (disch := omega) only [g6, zL0, zL1, zL2, zL3, zL4, zL5, zL6, zL7, zL8, zL9, zL10, zL12, zL20, zL30, zL31, zL32, zL44, zL48, zL49, zL50, zL56, zL59, zL60, zL61, zL64, zL65, zL97, zL99, zL100, zL101, zL102, zL103, zL104, zL111, zL119, zL126, zL255, zL512, zL617, zL65535, zL65536, zL1048576, zlt, zle, zeq, ztn, zin, zzb, zadd, zmul, zm_lt, zm_gt, zm_le, zm_ge, zm_eq, zm_eq', zm_in, if_pos, if_neg, bI_s, bJ_s, bA_s, bU_s, if_true, if_false, reduceIte, or_true, true_or, or_false, false_or, and_true, true_and, and_false, false_and, not_true_eq_false, not_false_eq_true, Nat.reduceEqDiff, Nat.zero_ne_one, Nat.one_ne_zero, h2], h3, h4⟩
  by_cases c2 : q.1 = 2
  · by_cases c61 : ch = 61
    · have n1 := hq.2.2.2.1 (by omega)
      have n12 := hq.2.1
      obtain ⟨_, g3, g4, g5, gJ, gj, ga, gb, gw, gt⟩ := h
      refine Or.inr ⟨(3, q.2.1, q.2.2.1, q.2.2.2.1, dU q.2.2.2.2.1 (q.2.1 - 1) 1, q.2.2.2.2.2), J, u1 (u1 S 6 (q.2.1 - 1) (nI 1)) 3 6 (nI 3), ?_, ?_, ⟨?_, ?_, ?_, ?_, gJ, gj, fun k hk => ?_, fun k hk => ?_, fun k hk => ?_, gt⟩, fun x k q => by simp (disch := omega) only [zuS, zuN, zu2, zv1, zvS, zvN]⟩
      · rw [nst_2 c2, if_pos c61]
      · simp (disch := omega) only [g6, zL0, zL1, zL2, zL3, zL4, zL5, zL6, zL7, zL8, zL9, zL10, zL12, zL20, zL30, zL31, zL32, zL44, zL48, zL49, zL50, zL56, zL59, zL60, zL61, zL64, zL65, zL97, zL99, zL100, zL101, zL102, zL103, zL104, zL111, zL119, zL126, zL255, zL512, zL617, zL65535, zL65536, zL1048576, zlt, zle, zeq, ztn, zin, zzb, zadd, zmul, zm_lt, zm_gt, zm_le, zm_ge, zm_eq, zm_eq', zm_in, if_pos, if_neg, bI_s, bJ_s, bA_s, bU_s, if_true, if_false, reduceIte, or_true, true_or, or_false, false_or, and_true, true_and, and_false, false_and, not_true_eq_false, not_false_eq_true, Nat.reduceEqDiff, Nat.zero_ne_one, Nat.one_ne_zero, f_NetReader_acceptsWide_eq, g3, zsub, k_NetReader_accepts_74_eq]
      · simp (disch := omega) only [zuS, zuN, zu2, zv1, zvS, zvN]
      · simp (disch := omega) only [zuS, zuN, zu2, zv1, zvS, zvN]; exact g3
      · simp (disch := omega) only [zuS, zuN, zu2, zv1, zvS, zvN]; exact g4
      · simp (disch := omega) only [zuS, zuN, zu2, zv1, zvS, zvN]; exact g5
      · dsimp only at hk
        simp (disch := omega) only [zuS, zuN, zu2, zv1, zvS, zvN]; exact ga k (by omega)
      · simp (disch := omega) only [zuS, zuN, zu2, zv1, zvS, zvN]; exact gb k hk
      · dsimp only at hk ⊢
        by_cases e : k = q.2.1 - 1
        · rw [dU_s e, e]; simp (disch := omega) only [zuS, zuN, zu2, zv1, zvS, zvN]
        · rw [dU_n e]; simp (disch := omega) only [zuS, zuN, zu2, zv1, zvS, zvN]; exact gw k hk
    · rcases cr_mark hq h (Or.inl c2) hc (fun _ => c61) with ⟨h1, h2⟩ | ⟨q', S', h1, h2, h3, h4⟩
      · exact Or.inl ⟨h1, by simp (disch := omega) only [g6, zL0, zL1, zL2, zL3, zL4, zL5, zL6, zL7, zL8, zL9, zL10, zL12, zL20, zL30, zL31, zL32, zL44, zL48, zL49, zL50, zL56, zL59, zL60, zL61, zL64, zL65, zL97, zL99, zL100, zL101, zL102, zL103, zL104, zL111, zL119, zL126, zL255, zL512, zL617, zL65535, zL65536, zL1048576, zlt, zle, zeq, ztn, zin, zzb, zadd, zmul, zm_lt, zm_gt, zm_le, zm_ge, zm_eq, zm_eq', zm_in, if_pos, if_neg, bI_s, bJ_s, bA_s, bU_s, if_true, if_false, reduceIte, or_true, true_or, or_false, false_or, and_true, true_and, and_false, false_and, not_true_eq_false, not_false_eq_true, Nat.reduceEqDiff, Nat.zero_ne_one, Nat.one_ne_zero, h2, k_NetReader_accepts_74_eq]⟩
      · exact Or.inr ⟨q', J, S', h1, by simp (disch := omega) only [g6, zL0, zL1, zL2, zL3, zL4, zL5, zL6, zL7, zL8, zL9, zL10, zL12, zL20, zL30, zL31, zL32, zL44, zL48, zL49, zL50, zL56, zL59, zL60, zL61, zL64, zL65, zL97, zL99, zL100, zL101, zL102, zL103, zL104, zL111, zL119, zL126, zL255, zL512, zL617, zL65535, zL65536, zL1048576, zlt, zle, zeq, ztn, zin, zzb, zadd, zmul, zm_lt, zm_gt, zm_le, zm_ge, zm_eq, zm_eq', zm_in, if_pos, if_neg, bI_s, bJ_s, bA_s, bU_s, if_true, if_false, reduceIte, or_true, true_or, or_false, false_or, and_true, true_and, and_false, false_and, not_true_eq_false, not_false_eq_true, Nat.reduceEqDiff, Nat.zero_ne_one, Nat.one_ne_zero, h2, k_NetReader_accepts_74_eq], h3, h4⟩
  by_cases c3 : q.1 = 3
  · rcases cr_mark hq h (Or.inr c3) hc (fun w => by omega) with ⟨h1, h2⟩ | ⟨q', S', h1, h2, h3, h4⟩
    · exact Or.inl ⟨h1, by simp (disch := omega) only [g6, zL0, zL1, zL2, zL3, zL4, zL5, zL6, zL7, zL8, zL9, zL10, zL12, zL20, zL30, zL31, zL32, zL44, zL48, zL49, zL50, zL56, zL59, zL60, zL61, zL64, zL65, zL97, zL99, zL100, zL101, zL102, zL103, zL104, zL111, zL119, zL126, zL255, zL512, zL617, zL65535, zL65536, zL1048576, zlt, zle, zeq, ztn, zin, zzb, zadd, zmul, zm_lt, zm_gt, zm_le, zm_ge, zm_eq, zm_eq', zm_in, if_pos, if_neg, bI_s, bJ_s, bA_s, bU_s, if_true, if_false, reduceIte, or_true, true_or, or_false, false_or, and_true, true_and, and_false, false_and, not_true_eq_false, not_false_eq_true, Nat.reduceEqDiff, Nat.zero_ne_one, Nat.one_ne_zero, h2]⟩
    · exact Or.inr ⟨q', J, S', h1, by simp (disch := omega) only [g6, zL0, zL1, zL2, zL3, zL4, zL5, zL6, zL7, zL8, zL9, zL10, zL12, zL20, zL30, zL31, zL32, zL44, zL48, zL49, zL50, zL56, zL59, zL60, zL61, zL64, zL65, zL97, zL99, zL100, zL101, zL102, zL103, zL104, zL111, zL119, zL126, zL255, zL512, zL617, zL65535, zL65536, zL1048576, zlt, zle, zeq, ztn, zin, zzb, zadd, zmul, zm_lt, zm_gt, zm_le, zm_ge, zm_eq, zm_eq', zm_in, if_pos, if_neg, bI_s, bJ_s, bA_s, bU_s, if_true, if_false, reduceIte, or_true, true_or, or_false, false_or, and_true, true_and, and_false, false_and, not_true_eq_false, not_false_eq_true, Nat.reduceEqDiff, Nat.zero_ne_one, Nat.one_ne_zero, h2], h3, h4⟩
  obtain ⟨_, g3, g4, g5, gJ, gj, ga, gb, gw, gt⟩ := h
  have mw : NR (6, q.2.1, q.2.2.1, q.2.2.2.1, q.2.2.2.2.1, q.2.2.2.2.2.1, 1) J (u1 (u1 S 3 5 (nI 1)) 3 6 (nI 6)) ∧ frR S (u1 (u1 S 3 5 (nI 1)) 3 6 (nI 6)) := by
    refine ⟨⟨?_, ?_, ?_, ?_, gJ, gj, fun k hk => ?_, fun k hk => ?_, fun k hk => ?_, gt⟩, fun x k q => by simp (disch := omega) only [zuS, zuN, zu2, zv1, zvS, zvN]⟩
    · simp (disch := omega) only [zuS, zuN, zu2, zv1, zvS, zvN]
    · simp (disch := omega) only [zuS, zuN, zu2, zv1, zvS, zvN]; exact g3
    · simp (disch := omega) only [zuS, zuN, zu2, zv1, zvS, zvN]; exact g4
    · simp (disch := omega) only [zuS, zuN, zu2, zv1, zvS, zvN]
    · dsimp only at hk
      simp (disch := omega) only [zuS, zuN, zu2, zv1, zvS, zvN]; exact ga k (by omega)
    · simp (disch := omega) only [zuS, zuN, zu2, zv1, zvS, zvN]; exact gb k hk
    · simp (disch := omega) only [zuS, zuN, zu2, zv1, zvS, zvN]; exact gw k hk
  by_cases c4 : q.1 = 4
  · by_cases d1 : ch = 100
    · refine Or.inr ⟨(5, q.2.1, q.2.2.1, q.2.2.2.1, q.2.2.2.2.1, 1, q.2.2.2.2.2.2), J, u1 (u1 S 3 4 (nI 1)) 3 6 (nI 5), ?_, ?_, ⟨?_, ?_, ?_, ?_, gJ, gj, fun k hk => ?_, fun k hk => ?_, fun k hk => ?_, gt⟩, fun x k q => by simp (disch := omega) only [zuS, zuN, zu2, zv1, zvS, zvN]⟩
      · rw [nst_4 c4, if_pos d1]
      · simp (disch := omega) only [g6, zL0, zL1, zL2, zL3, zL4, zL5, zL6, zL7, zL8, zL9, zL10, zL12, zL20, zL30, zL31, zL32, zL44, zL48, zL49, zL50, zL56, zL59, zL60, zL61, zL64, zL65, zL97, zL99, zL100, zL101, zL102, zL103, zL104, zL111, zL119, zL126, zL255, zL512, zL617, zL65535, zL65536, zL1048576, zlt, zle, zeq, ztn, zin, zzb, zadd, zmul, zm_lt, zm_gt, zm_le, zm_ge, zm_eq, zm_eq', zm_in, if_pos, if_neg, bI_s, bJ_s, bA_s, bU_s, if_true, if_false, reduceIte, or_true, true_or, or_false, false_or, and_true, true_and, and_false, false_and, not_true_eq_false, not_false_eq_true, Nat.reduceEqDiff, Nat.zero_ne_one, Nat.one_ne_zero, f_NetReader_acceptsDoubles_eq, k_NetReader_accepts_112_eq]
      · simp (disch := omega) only [zuS, zuN, zu2, zv1, zvS, zvN]
      · simp (disch := omega) only [zuS, zuN, zu2, zv1, zvS, zvN]; exact g3
      · simp (disch := omega) only [zuS, zuN, zu2, zv1, zvS, zvN]
      · simp (disch := omega) only [zuS, zuN, zu2, zv1, zvS, zvN]; exact g5
      · dsimp only at hk
        simp (disch := omega) only [zuS, zuN, zu2, zv1, zvS, zvN]; exact ga k (by omega)
      · simp (disch := omega) only [zuS, zuN, zu2, zv1, zvS, zvN]; exact gb k hk
      · simp (disch := omega) only [zuS, zuN, zu2, zv1, zvS, zvN]; exact gw k hk
    · by_cases d2 : ch = 119
      · refine Or.inr ⟨_, J, _, ?_, ?_, mw.1, mw.2⟩
        · rw [nst_4 c4, if_neg d1, if_pos d2]
        · simp (disch := omega) only [g6, zL0, zL1, zL2, zL3, zL4, zL5, zL6, zL7, zL8, zL9, zL10, zL12, zL20, zL30, zL31, zL32, zL44, zL48, zL49, zL50, zL56, zL59, zL60, zL61, zL64, zL65, zL97, zL99, zL100, zL101, zL102, zL103, zL104, zL111, zL119, zL126, zL255, zL512, zL617, zL65535, zL65536, zL1048576, zlt, zle, zeq, ztn, zin, zzb, zadd, zmul, zm_lt, zm_gt, zm_le, zm_ge, zm_eq, zm_eq', zm_in, if_pos, if_neg, bI_s, bJ_s, bA_s, bU_s, if_true, if_false, reduceIte, or_true, true_or, or_false, false_or, and_true, true_and, and_false, false_and, not_true_eq_false, not_false_eq_true, Nat.reduceEqDiff, Nat.zero_ne_one, Nat.one_ne_zero, f_NetReader_acceptsEmpties_eq, k_NetReader_accepts_112_eq]
      · refine Or.inl ⟨?_, ?_⟩
        · rw [nst_4 c4, if_neg d1, if_neg d2]
        · simp (disch := omega) only [g6, zL0, zL1, zL2, zL3, zL4, zL5, zL6, zL7, zL8, zL9, zL10, zL12, zL20, zL30, zL31, zL32, zL44, zL48, zL49, zL50, zL56, zL59, zL60, zL61, zL64, zL65, zL97, zL99, zL100, zL101, zL102, zL103, zL104, zL111, zL119, zL126, zL255, zL512, zL617, zL65535, zL65536, zL1048576, zlt, zle, zeq, ztn, zin, zzb, zadd, zmul, zm_lt, zm_gt, zm_le, zm_ge, zm_eq, zm_eq', zm_in, if_pos, if_neg, bI_s, bJ_s, bA_s, bU_s, if_true, if_false, reduceIte, or_true, true_or, or_false, false_or, and_true, true_and, and_false, false_and, not_true_eq_false, not_false_eq_true, Nat.reduceEqDiff, Nat.zero_ne_one, Nat.one_ne_zero, k_NetReader_accepts_111_eq, k_NetReader_accepts_112_eq]
  by_cases c5 : q.1 = 5
  · by_cases d2 : ch = 119
    · refine Or.inr ⟨_, J, _, ?_, ?_, mw.1, mw.2⟩
      · rw [nst_5 c5, if_pos d2]
      · simp (disch := omega) only [g6, zL0, zL1, zL2, zL3, zL4, zL5, zL6, zL7, zL8, zL9, zL10, zL12, zL20, zL30, zL31, zL32, zL44, zL48, zL49, zL50, zL56, zL59, zL60, zL61, zL64, zL65, zL97, zL99, zL100, zL101, zL102, zL103, zL104, zL111, zL119, zL126, zL255, zL512, zL617, zL65535, zL65536, zL1048576, zlt, zle, zeq, ztn, zin, zzb, zadd, zmul, zm_lt, zm_gt, zm_le, zm_ge, zm_eq, zm_eq', zm_in, if_pos, if_neg, bI_s, bJ_s, bA_s, bU_s, if_true, if_false, reduceIte, or_true, true_or, or_false, false_or, and_true, true_and, and_false, false_and, not_true_eq_false, not_false_eq_true, Nat.reduceEqDiff, Nat.zero_ne_one, Nat.one_ne_zero, f_NetReader_acceptsEmpties_eq, k_NetReader_accepts_131_eq]
    · refine Or.inl ⟨?_, ?_⟩
      · rw [nst_5 c5, if_neg d2]
      · simp (disch := omega) only [g6, zL0, zL1, zL2, zL3, zL4, zL5, zL6, zL7, zL8, zL9, zL10, zL12, zL20, zL30, zL31, zL32, zL44, zL48, zL49, zL50, zL56, zL59, zL60, zL61, zL64, zL65, zL97, zL99, zL100, zL101, zL102, zL103, zL104, zL111, zL119, zL126, zL255, zL512, zL617, zL65535, zL65536, zL1048576, zlt, zle, zeq, ztn, zin, zzb, zadd, zmul, zm_lt, zm_gt, zm_le, zm_ge, zm_eq, zm_eq', zm_in, if_pos, if_neg, bI_s, bJ_s, bA_s, bU_s, if_true, if_false, reduceIte, or_true, true_or, or_false, false_or, and_true, true_and, and_false, false_and, not_true_eq_false, not_false_eq_true, Nat.reduceEqDiff, Nat.zero_ne_one, Nat.one_ne_zero, k_NetReader_accepts_130_eq, k_NetReader_accepts_131_eq]
  · refine Or.inl ⟨nst_6 (by omega), ?_⟩
    simp (disch := omega) only [g6, zL0, zL1, zL2, zL3, zL4, zL5, zL6, zL7, zL8, zL9, zL10, zL12, zL20, zL30, zL31, zL32, zL44, zL48, zL49, zL50, zL56, zL59, zL60, zL61, zL64, zL65, zL97, zL99, zL100, zL101, zL102, zL103, zL104, zL111, zL119, zL126, zL255, zL512, zL617, zL65535, zL65536, zL1048576, zlt, zle, zeq, ztn, zin, zzb, zadd, zmul, zm_lt, zm_gt, zm_le, zm_ge, zm_eq, zm_eq', zm_in, if_pos, if_neg, bI_s, bJ_s, bA_s, bU_s, if_true, if_false, reduceIte, or_true, true_or, or_false, false_or, and_true, true_and, and_false, false_and, not_true_eq_false, not_false_eq_true, Nat.reduceEqDiff, Nat.zero_ne_one, Nat.one_ne_zero]
theorem ct_pageAt {D : DD} {S : Mem} (h : rPg D S) (hs : okS D) {k : Nat} (hk : k < D 55 18) : f_Page_at (nI k) S = some (nI (D 67 k), S) := by
  have p := hs.1
  have pk := hs.2.1 k hk
  rw [f_Page_at_eq]
  simp (disch := omega) only [h.1, h.2, k_Page_at_22_eq, zL0, zL1, zL2, zL3, zL4, zL5, zL6, zL7, zL8, zL9, zL10, zL12, zL20, zL30, zL31, zL32, zL44, zL48, zL49, zL50, zL56, zL59, zL60, zL61, zL64, zL65, zL97, zL99, zL100, zL101, zL102, zL103, zL104, zL111, zL119, zL126, zL255, zL512, zL617, zL65535, zL65536, zL1048576, zlt, zle, zeq, ztn, zin, zzb, zadd, zmul, zm_lt, zm_gt, zm_le, zm_ge, zm_eq, zm_eq', zm_in, if_pos, if_neg, bI_s, bJ_s, bA_s, bU_s, if_true, if_false, reduceIte, or_true, true_or, or_false, false_or, and_true, true_and, and_false, false_and, not_true_eq_false, not_false_eq_true, Nat.reduceEqDiff, Nat.zero_ne_one, Nat.one_ne_zero]
theorem cr_read {D : DD} (hs : okS D) : ∀ m k q J S, k + m = D 55 18 → rPg D S → okQ q → NR q J S → ∃ J' S', k_NetReader_readFrom_27 (nI k) S = some (nI (rn (D 67) m k q).1, S') ∧ frR S S' ∧ NR (rn (D 67) m k q).2 J' S' := by
  intro m
  induction m with
  | zero =>
    intro k q J S hk hp hq hn
    have p50 := hs.1
    refine ⟨J, S, ?_, frR_r S, hn⟩
    rw [k_NetReader_readFrom_27_eq]
    simp (disch := omega) only [hp.1, zL0, zL1, zL2, zL3, zL4, zL5, zL6, zL7, zL8, zL9, zL10, zL12, zL20, zL30, zL31, zL32, zL44, zL48, zL49, zL50, zL56, zL59, zL60, zL61, zL64, zL65, zL97, zL99, zL100, zL101, zL102, zL103, zL104, zL111, zL119, zL126, zL255, zL512, zL617, zL65535, zL65536, zL1048576, zlt, zle, zeq, ztn, zin, zzb, zadd, zmul, zm_lt, zm_gt, zm_le, zm_ge, zm_eq, zm_eq', zm_in, if_pos, if_neg, bI_s, bJ_s, bA_s, bU_s, if_true, if_false, reduceIte, or_true, true_or, or_false, false_or, and_true, true_and, and_false, false_and, not_true_eq_false, not_false_eq_true, Nat.reduceEqDiff, Nat.zero_ne_one, Nat.one_ne_zero, k_NetReader_readFrom_53_eq, rn]
  | succ m ih =>
    intro k q J S hk hp hq hn
    have p50 := hs.1
    have pk := hs.2.1 k (by omega)
    have hat := ct_pageAt hp hs (k := k) (by omega)
    rw [k_NetReader_readFrom_27_eq, rn]
    rcases cr_acc hq hn (ch := D 67 k) (by omega) with ⟨h1, h2⟩ | ⟨q', J', S', h1, h2, h3, h4⟩
    · refine ⟨J, S, ?_, frR_r S, ?_⟩
      · simp (disch := omega) only [hp.1, zL0, zL1, zL2, zL3, zL4, zL5, zL6, zL7, zL8, zL9, zL10, zL12, zL20, zL30, zL31, zL32, zL44, zL48, zL49, zL50, zL56, zL59, zL60, zL61, zL64, zL65, zL97, zL99, zL100, zL101, zL102, zL103, zL104, zL111, zL119, zL126, zL255, zL512, zL617, zL65535, zL65536, zL1048576, zlt, zle, zeq, ztn, zin, zzb, zadd, zmul, zm_lt, zm_gt, zm_le, zm_ge, zm_eq, zm_eq', zm_in, if_pos, if_neg, bI_s, bJ_s, bA_s, bU_s, if_true, if_false, reduceIte, or_true, true_or, or_false, false_or, and_true, true_and, and_false, false_and, not_true_eq_false, not_false_eq_true, Nat.reduceEqDiff, Nat.zero_ne_one, Nat.one_ne_zero, hat, h2, k_NetReader_readFrom_53_eq, h1]
      · rw [h1]; exact hn
    · obtain ⟨J2, S2, e2, f2, n2⟩ := ih (k + 1) q' J' S' (by omega) (rPg_f hp (fun a k q => h4 a k (by omega))) (nst_ok hq h1) h3
      refine ⟨J2, S2, ?_, frR_t h4 f2, ?_⟩
      · rw [h1]
        simp (disch := omega) only [hp.1, zL0, zL1, zL2, zL3, zL4, zL5, zL6, zL7, zL8, zL9, zL10, zL12, zL20, zL30, zL31, zL32, zL44, zL48, zL49, zL50, zL56, zL59, zL60, zL61, zL64, zL65, zL97, zL99, zL100, zL101, zL102, zL103, zL104, zL111, zL119, zL126, zL255, zL512, zL617, zL65535, zL65536, zL1048576, zlt, zle, zeq, ztn, zin, zzb, zadd, zmul, zm_lt, zm_gt, zm_le, zm_ge, zm_eq, zm_eq', zm_in, if_pos, if_neg, bI_s, bJ_s, bA_s, bU_s, if_true, if_false, reduceIte, or_true, true_or, or_false, false_or, and_true, true_and, and_false, false_and, not_true_eq_false, not_false_eq_true, Nat.reduceEqDiff, Nat.zero_ne_one, Nat.one_ne_zero, hat, h2]
        exact e2
      · rw [h1]; exact n2
theorem cr_readFrom {D : DD} (hs : okS D) {S : Mem} (hp : rPg D S) : ∃ J' S', f_NetReader_readFrom S = some (nI (rn (D 67) (D 55 18) 0 q0).1, S') ∧ frR S S' ∧ NR (rn (D 67) (D 55 18) 0 q0).2 J' S' := by
  obtain ⟨Sa, hSa⟩ : ∃ Sa, Sa = u2 (u1 (u1 (u1 (u1 S 3 3 (nI 0)) 3 4 (nI 0)) 3 5 (nI 0)) 3 6 (nI 0)) 3 7 0 := ⟨_, rfl⟩
  have fa : frR S Sa := fun x k q => by rw [hSa]; simp (disch := omega) only [zuS, zuN, zu2, zv1, zvS, zvN]
  have na : NR q0 0 Sa := by
    rw [hSa]
    refine ⟨?_, ?_, ?_, ?_, ?_, by decide, fun k hk => ?_, fun k hk => absurd hk (Nat.not_lt_zero k), fun k hk => absurd hk (Nat.not_lt_zero k), fun x y _ _ => ?_⟩
    · simp (disch := omega) only [zuS, zuN, zu2, zv1, zvS, zvN]; rfl
    · simp (disch := omega) only [zuS, zuN, zu2, zv1, zvS, zvN]; rfl
    · simp (disch := omega) only [zuS, zuN, zu2, zv1, zvS, zvN]; rfl
    · simp (disch := omega) only [zuS, zuN, zu2, zv1, zvS, zvN]; rfl
    · simp (disch := omega) only [zuS, zuN, zu2, zv1, zvS, zvN]; rfl
    · rcases hk with hk | hk
      · exact absurd hk (Nat.not_lt_zero k)
      · exact absurd hk.2 (by decide)
    · simp [q0, thr]
  obtain ⟨J', S', e, f, n⟩ := cr_read hs (D 55 18) 0 q0 0 Sa (by omega) (rPg_f hp (fun a k q => fa a k (by omega))) q0_ok na
  refine ⟨J', S', ?_, frR_t fa f, n⟩
  rw [f_NetReader_readFrom_eq, zL0, ← hSa]
  exact e
theorem cr_isWhole {q : Qt} {J : Nat} {S : Mem} (hq : okQ q) (h : NR q J S) : f_NetReader_isWhole S = some (nI (if 1 < q.1 ∧ q.1 ≠ 4 then 1 else 0), S) := by
  have g6 := h.1
  have st := hq.1
  rw [f_NetReader_isWhole_eq]
  simp (disch := omega) only [g6, zL0, zL1, zL2, zL3, zL4, zL5, zL6, zL7, zL8, zL9, zL10, zL12, zL20, zL30, zL31, zL32, zL44, zL48, zL49, zL50, zL56, zL59, zL60, zL61, zL64, zL65, zL97, zL99, zL100, zL101, zL102, zL103, zL104, zL111, zL119, zL126, zL255, zL512, zL617, zL65535, zL65536, zL1048576, zlt, zle, zeq, ztn, zin, zzb, zadd, zmul, zm_lt, zm_gt, zm_le, zm_ge, zm_eq, zm_eq', zm_in, if_pos, if_neg, bI_s, bJ_s, bA_s, bU_s, if_true, if_false, reduceIte, or_true, true_or, or_false, false_or, and_true, true_and, and_false, false_and, not_true_eq_false, not_false_eq_true, Nat.reduceEqDiff, Nat.zero_ne_one, Nat.one_ne_zero, k_NetReader_isWhole_33_eq, k_NetReader_isWhole_38_eq]
  repeat' split
  all_goals first | rfl | (exfalso; omega)
/-! the model's reader -/
def NM (q : Qt) (S : Mem) : Prop := S.1 55 22 = nI q.2.1 ∧ S.1 55 26 = nI q.2.2.2.2.2.1 ∧ S.1 55 27 = nI q.2.2.2.2.2.2 ∧ (∀ k, k < q.2.1 ∨ (k = q.2.1 ∧ q.1 = 1) → S.1 68 k = nI (q.2.2.1 k)) ∧ (∀ k, k < q.2.1 → S.1 69 k = nI (q.2.2.2.1 k)) ∧ (∀ k, k < q.2.1 → S.1 70 k = nI (q.2.2.2.2.1 k))
/-- cells that the model's reader does not touch -/
def frN (S S' : Mem) : Prop := ∀ a k, ¬ (a = 55 ∧ (k = 20 ∨ k = 21 ∨ k = 22 ∨ k = 26 ∨ k = 27)) → a ≠ 68 → a ≠ 69 → a ≠ 70 → S'.1 a k = S.1 a k
theorem frN_r (S : Mem) : frN S S := fun _ _ _ _ _ _ => rfl
theorem frN_t {S S' S'' : Mem} (h : frN S S') (h2 : frN S' S'') : frN S S'' := fun a k q0 q1 q2 q3 => by rw [h2 a k q0 q1 q2 q3, h a k q0 q1 q2 q3]
theorem frN_M {S S' : Mem} (h : frN S S') : frM S S' := fun a k q => h a k (by omega) (by omega) (by omega) (by omega)
theorem RM_N {D : DD} {S S' : Mem} (h : RM D S) (e : frN S S') : RM D S' := RM_fr h (fun a k q => e a k (by omega) (by omega) (by omega) (by omega))
/-- a letter's corner -/
theorem zcor {ch : Nat} (hc : ch < 1000) (S : Mem) : (48 ≤ ch ∧ ch < 56 ∧ nI ch - nI 48 = nI (ch - 48) ∧ f_Mod_isCorner (nI ch - nI 48) S = some (nI 1, S)) ∨ (¬ (48 ≤ ch ∧ ch < 56) ∧ f_Mod_isCorner (nI ch - nI 48) S = some (nI 0, S)) := by
  by_cases c : 48 ≤ ch
  · rw [zsub c, mo_isCorner (by omega)]
    by_cases c2 : ch < 56
    · exact Or.inl ⟨c, c2, rfl, by rw [if_pos (by omega)]⟩
    · exact Or.inr ⟨fun w => c2 w.2, by rw [if_neg (by omega)]⟩
  · refine Or.inr ⟨fun w => c w.1, mo_isCorner_n (pk_sneg (by omega) (by omega))⟩
theorem mr_isThere {q : Qt} {S : Mem} (hq : okQ q) (h : NM q S) {x y : Nat} (hx : x < 8) (hy : y < 8) : f_Mod_isThere (nI x) (nI y) S = some (nI (if thr q.2.2.1 q.2.2.2.1 x y q.2.1 then 1 else 0), S) := by
  obtain ⟨g2, g26, g27, ga, gb, gw⟩ := h
  have n12 := hq.2.1
  have key : ∀ m i, i + m = q.2.1 → k_Mod_isThere_5 (nI x) (nI y) (nI (if thr q.2.2.1 q.2.2.2.1 x y i then 1 else 0)) (nI i) S = some (nI (if thr q.2.2.1 q.2.2.2.1 x y q.2.1 then 1 else 0), S) := by
    intro m
    induction m with
    | zero =>
      intro i hi
      rw [k_Mod_isThere_5_eq, show i = q.2.1 by omega]
      cases thr q.2.2.1 q.2.2.2.1 x y q.2.1
      · simp (disch := omega) only [g2, zL0, zL1, zL2, zL3, zL4, zL5, zL6, zL7, zL8, zL9, zL10, zL12, zL20, zL30, zL31, zL32, zL44, zL48, zL49, zL50, zL56, zL59, zL60, zL61, zL64, zL65, zL97, zL99, zL100, zL101, zL102, zL103, zL104, zL111, zL119, zL126, zL255, zL512, zL617, zL65535, zL65536, zL1048576, zlt, zle, zeq, ztn, zin, zzb, zadd, zmul, zm_lt, zm_gt, zm_le, zm_ge, zm_eq, zm_eq', zm_in, if_pos, if_neg, bI_s, bJ_s, bA_s, bU_s, if_true, if_false, reduceIte, or_true, true_or, or_false, false_or, and_true, true_and, and_false, false_and, not_true_eq_false, not_false_eq_true, Nat.reduceEqDiff, Nat.zero_ne_one, Nat.one_ne_zero, Bool.false_eq_true]
      · simp (disch := omega) only [g2, zL0, zL1, zL2, zL3, zL4, zL5, zL6, zL7, zL8, zL9, zL10, zL12, zL20, zL30, zL31, zL32, zL44, zL48, zL49, zL50, zL56, zL59, zL60, zL61, zL64, zL65, zL97, zL99, zL100, zL101, zL102, zL103, zL104, zL111, zL119, zL126, zL255, zL512, zL617, zL65535, zL65536, zL1048576, zlt, zle, zeq, ztn, zin, zzb, zadd, zmul, zm_lt, zm_gt, zm_le, zm_ge, zm_eq, zm_eq', zm_in, if_pos, if_neg, bI_s, bJ_s, bA_s, bU_s, if_true, if_false, reduceIte, or_true, true_or, or_false, false_or, and_true, true_and, and_false, false_and, not_true_eq_false, not_false_eq_true, Nat.reduceEqDiff, Nat.zero_ne_one, Nat.one_ne_zero]
    | succ m ih =>
      intro i hi
      have h7 := hq.2.2.2.2.2.2.1 i (by omega)
      have ea := ga i (Or.inl (by omega))
      have eb := gb i (by omega)
      rw [← ih (i + 1) (by omega), k_Mod_isThere_5_eq, thr]
      cases thr q.2.2.1 q.2.2.2.1 x y i
      · by_cases c1 : q.2.2.1 i = x
        · by_cases c2 : q.2.2.2.1 i = y
          · simp (disch := omega) only [g2, zL0, zL1, zL2, zL3, zL4, zL5, zL6, zL7, zL8, zL9, zL10, zL12, zL20, zL30, zL31, zL32, zL44, zL48, zL49, zL50, zL56, zL59, zL60, zL61, zL64, zL65, zL97, zL99, zL100, zL101, zL102, zL103, zL104, zL111, zL119, zL126, zL255, zL512, zL617, zL65535, zL65536, zL1048576, zlt, zle, zeq, ztn, zin, zzb, zadd, zmul, zm_lt, zm_gt, zm_le, zm_ge, zm_eq, zm_eq', zm_in, if_pos, if_neg, bI_s, bJ_s, bA_s, bU_s, if_true, if_false, reduceIte, or_true, true_or, or_false, false_or, and_true, true_and, and_false, false_and, not_true_eq_false, not_false_eq_true, Nat.reduceEqDiff, Nat.zero_ne_one, Nat.one_ne_zero, ea, eb, k_Mod_isThere_40_eq, k_Mod_isThere_62_eq, k_Mod_isThere_66_eq, k_Mod_isThere_67_eq, Bool.false_eq_true, Bool.false_or, decide_eq_true_eq]
          · by_cases c3 : q.2.2.1 i = y
            · by_cases c4 : q.2.2.2.1 i = x
              · exfalso; omega
              · simp (disch := omega) only [g2, zL0, zL1, zL2, zL3, zL4, zL5, zL6, zL7, zL8, zL9, zL10, zL12, zL20, zL30, zL31, zL32, zL44, zL48, zL49, zL50, zL56, zL59, zL60, zL61, zL64, zL65, zL97, zL99, zL100, zL101, zL102, zL103, zL104, zL111, zL119, zL126, zL255, zL512, zL617, zL65535, zL65536, zL1048576, zlt, zle, zeq, ztn, zin, zzb, zadd, zmul, zm_lt, zm_gt, zm_le, zm_ge, zm_eq, zm_eq', zm_in, if_pos, if_neg, bI_s, bJ_s, bA_s, bU_s, if_true, if_false, reduceIte, or_true, true_or, or_false, false_or, and_true, true_and, and_false, false_and, not_true_eq_false, not_false_eq_true, Nat.reduceEqDiff, Nat.zero_ne_one, Nat.one_ne_zero, ea, eb, k_Mod_isThere_40_eq, k_Mod_isThere_62_eq, k_Mod_isThere_66_eq, k_Mod_isThere_67_eq, Bool.false_eq_true, Bool.false_or, decide_eq_true_eq]
            · simp (disch := omega) only [g2, zL0, zL1, zL2, zL3, zL4, zL5, zL6, zL7, zL8, zL9, zL10, zL12, zL20, zL30, zL31, zL32, zL44, zL48, zL49, zL50, zL56, zL59, zL60, zL61, zL64, zL65, zL97, zL99, zL100, zL101, zL102, zL103, zL104, zL111, zL119, zL126, zL255, zL512, zL617, zL65535, zL65536, zL1048576, zlt, zle, zeq, ztn, zin, zzb, zadd, zmul, zm_lt, zm_gt, zm_le, zm_ge, zm_eq, zm_eq', zm_in, if_pos, if_neg, bI_s, bJ_s, bA_s, bU_s, if_true, if_false, reduceIte, or_true, true_or, or_false, false_or, and_true, true_and, and_false, false_and, not_true_eq_false, not_false_eq_true, Nat.reduceEqDiff, Nat.zero_ne_one, Nat.one_ne_zero, ea, eb, k_Mod_isThere_40_eq, k_Mod_isThere_62_eq, k_Mod_isThere_66_eq, k_Mod_isThere_67_eq, Bool.false_eq_true, Bool.false_or, decide_eq_true_eq]
        · by_cases c3 : q.2.2.1 i = y
          · by_cases c4 : q.2.2.2.1 i = x
            · simp (disch := omega) only [g2, zL0, zL1, zL2, zL3, zL4, zL5, zL6, zL7, zL8, zL9, zL10, zL12, zL20, zL30, zL31, zL32, zL44, zL48, zL49, zL50, zL56, zL59, zL60, zL61, zL64, zL65, zL97, zL99, zL100, zL101, zL102, zL103, zL104, zL111, zL119, zL126, zL255, zL512, zL617, zL65535, zL65536, zL1048576, zlt, zle, zeq, ztn, zin, zzb, zadd, zmul, zm_lt, zm_gt, zm_le, zm_ge, zm_eq, zm_eq', zm_in, if_pos, if_neg, bI_s, bJ_s, bA_s, bU_s, if_true, if_false, reduceIte, or_true, true_or, or_false, false_or, and_true, true_and, and_false, false_and, not_true_eq_false, not_false_eq_true, Nat.reduceEqDiff, Nat.zero_ne_one, Nat.one_ne_zero, ea, eb, k_Mod_isThere_40_eq, k_Mod_isThere_62_eq, k_Mod_isThere_66_eq, k_Mod_isThere_67_eq, Bool.false_eq_true, Bool.false_or, decide_eq_true_eq]
            · simp (disch := omega) only [g2, zL0, zL1, zL2, zL3, zL4, zL5, zL6, zL7, zL8, zL9, zL10, zL12, zL20, zL30, zL31, zL32, zL44, zL48, zL49, zL50, zL56, zL59, zL60, zL61, zL64, zL65, zL97, zL99, zL100, zL101, zL102, zL103, zL104, zL111, zL119, zL126, zL255, zL512, zL617, zL65535, zL65536, zL1048576, zlt, zle, zeq, ztn, zin, zzb, zadd, zmul, zm_lt, zm_gt, zm_le, zm_ge, zm_eq, zm_eq', zm_in, if_pos, if_neg, bI_s, bJ_s, bA_s, bU_s, if_true, if_false, reduceIte, or_true, true_or, or_false, false_or, and_true, true_and, and_false, false_and, not_true_eq_false, not_false_eq_true, Nat.reduceEqDiff, Nat.zero_ne_one, Nat.one_ne_zero, ea, eb, k_Mod_isThere_40_eq, k_Mod_isThere_62_eq, k_Mod_isThere_66_eq, k_Mod_isThere_67_eq, Bool.false_eq_true, Bool.false_or, decide_eq_true_eq]
          · simp (disch := omega) only [g2, zL0, zL1, zL2, zL3, zL4, zL5, zL6, zL7, zL8, zL9, zL10, zL12, zL20, zL30, zL31, zL32, zL44, zL48, zL49, zL50, zL56, zL59, zL60, zL61, zL64, zL65, zL97, zL99, zL100, zL101, zL102, zL103, zL104, zL111, zL119, zL126, zL255, zL512, zL617, zL65535, zL65536, zL1048576, zlt, zle, zeq, ztn, zin, zzb, zadd, zmul, zm_lt, zm_gt, zm_le, zm_ge, zm_eq, zm_eq', zm_in, if_pos, if_neg, bI_s, bJ_s, bA_s, bU_s, if_true, if_false, reduceIte, or_true, true_or, or_false, false_or, and_true, true_and, and_false, false_and, not_true_eq_false, not_false_eq_true, Nat.reduceEqDiff, Nat.zero_ne_one, Nat.one_ne_zero, ea, eb, k_Mod_isThere_40_eq, k_Mod_isThere_62_eq, k_Mod_isThere_66_eq, k_Mod_isThere_67_eq, Bool.false_eq_true, Bool.false_or, decide_eq_true_eq]
      · simp (disch := omega) only [g2, zL0, zL1, zL2, zL3, zL4, zL5, zL6, zL7, zL8, zL9, zL10, zL12, zL20, zL30, zL31, zL32, zL44, zL48, zL49, zL50, zL56, zL59, zL60, zL61, zL64, zL65, zL97, zL99, zL100, zL101, zL102, zL103, zL104, zL111, zL119, zL126, zL255, zL512, zL617, zL65535, zL65536, zL1048576, zlt, zle, zeq, ztn, zin, zzb, zadd, zmul, zm_lt, zm_gt, zm_le, zm_ge, zm_eq, zm_eq', zm_in, if_pos, if_neg, bI_s, bJ_s, bA_s, bU_s, if_true, if_false, reduceIte, or_true, true_or, or_false, false_or, and_true, true_and, and_false, false_and, not_true_eq_false, not_false_eq_true, Nat.reduceEqDiff, Nat.zero_ne_one, Nat.one_ne_zero, ea, eb, k_Mod_isThere_62_eq, k_Mod_isThere_67_eq, Bool.true_or]
  rw [f_Mod_isThere_eq, zL0]
  exact key q.2.1 0 (by omega)
theorem mr_next {q : Qt} {S : Mem} (hq : okQ q) (h : NM q S) {ch : Nat} (hc : ch < 1000) : ∃ S', frN S S' ∧ S'.1 55 20 = S.1 55 20 ∧ ((nst q ch = none ∧ f_Mod_nextState (nI q.1) (nI ch) S = some (-nI 1, S')) ∨ ∃ q', nst q ch = some q' ∧ f_Mod_nextState (nI q.1) (nI ch) S = some (nI q'.1, S') ∧ NM q' S') := by
  have hst := hq.1
  have hNM := h
  obtain ⟨g2, g26, g27, ga, gb, gw⟩ := h
  have n12 := hq.2.1
  rw [f_Mod_nextState_eq]
  by_cases c0 : q.1 = 0
  · have n11 := hq.2.2.1 (by omega)
    refine ⟨u1 S 68 q.2.1 (nI ch - nI 48), fun a k q0 q1 q2 q3 => by simp (disch := omega) only [zuS, zuN, zu2, zv1, zvS, zvN], by simp (disch := omega) only [zuS, zuN, zu2, zv1, zvS, zvN], ?_⟩
    rcases zcor hc (u1 S 68 q.2.1 (nI ch - nI 48)) with ⟨d1, d2, d3, d4⟩ | ⟨d1, d4⟩
    · refine Or.inr ⟨(1, q.2.1, dU q.2.2.1 q.2.1 (ch - 48), q.2.2.2), ?_, ?_, ⟨?_, ?_, ?_, fun k hk => ?_, fun k hk => ?_, fun k hk => ?_⟩⟩
      · rw [nst_0 c0, if_pos ⟨d1, d2, n11⟩]
      · simp (disch := omega) only [zL0, zL1, zL2, zL3, zL4, zL5, zL6, zL7, zL8, zL9, zL10, zL12, zL20, zL30, zL31, zL32, zL44, zL48, zL49, zL50, zL56, zL59, zL60, zL61, zL64, zL65, zL97, zL99, zL100, zL101, zL102, zL103, zL104, zL111, zL119, zL126, zL255, zL512, zL617, zL65535, zL65536, zL1048576, zlt, zle, zeq, ztn, zin, zzb, zadd, zmul, zm_lt, zm_gt, zm_le, zm_ge, zm_eq, zm_eq', zm_in, if_pos, if_neg, bI_s, bJ_s, bA_s, bU_s, if_true, if_false, reduceIte, or_true, true_or, or_false, false_or, and_true, true_and, and_false, false_and, not_true_eq_false, not_false_eq_true, Nat.reduceEqDiff, Nat.zero_ne_one, Nat.one_ne_zero, c0, g2, d4, k_Mod_nextState_31_eq]
      · simp (disch := omega) only [zuS, zuN, zu2, zv1, zvS, zvN]; exact g2
      · simp (disch := omega) only [zuS, zuN, zu2, zv1, zvS, zvN]; exact g26
      · simp (disch := omega) only [zuS, zuN, zu2, zv1, zvS, zvN]; exact g27
      · dsimp only at hk ⊢
        by_cases e : k = q.2.1
        · rw [dU_s e, e]; simp (disch := omega) only [zuS, zuN, zu2, zv1, zvS, zvN]; exact d3
        · rw [dU_n e]; simp (disch := omega) only [zuS, zuN, zu2, zv1, zvS, zvN]; exact ga k (by omega)
      · simp (disch := omega) only [zuS, zuN, zu2, zv1, zvS, zvN]; exact gb k hk
      · simp (disch := omega) only [zuS, zuN, zu2, zv1, zvS, zvN]; exact gw k hk
    · refine Or.inl ⟨?_, ?_⟩
      · rw [nst_0 c0, if_neg (fun w => d1 ⟨w.1, w.2.1⟩)]
      · simp (disch := omega) only [zL0, zL1, zL2, zL3, zL4, zL5, zL6, zL7, zL8, zL9, zL10, zL12, zL20, zL30, zL31, zL32, zL44, zL48, zL49, zL50, zL56, zL59, zL60, zL61, zL64, zL65, zL97, zL99, zL100, zL101, zL102, zL103, zL104, zL111, zL119, zL126, zL255, zL512, zL617, zL65535, zL65536, zL1048576, zlt, zle, zeq, ztn, zin, zzb, zadd, zmul, zm_lt, zm_gt, zm_le, zm_ge, zm_eq, zm_eq', zm_in, if_pos, if_neg, bI_s, bJ_s, bA_s, bU_s, if_true, if_false, reduceIte, or_true, true_or, or_false, false_or, and_true, true_and, and_false, false_and, not_true_eq_false, not_false_eq_true, Nat.reduceEqDiff, Nat.zero_ne_one, Nat.one_ne_zero, c0, g2, d4, k_Mod_nextState_31_eq]
  by_cases c1 : q.1 = 1
  · have n11 := hq.2.2.1 (by omega)
    have a8 := hq.2.2.2.2.2.2.2.2 c1
    have gan := ga q.2.1 (Or.inr ⟨rfl, c1⟩)
    rcases zcor hc S with ⟨d1, d2, d3, d4⟩ | ⟨d1, d4⟩
    · by_cases e1 : q.2.2.1 q.2.1 = ch - 48
      · refine ⟨S, frN_r S, rfl, Or.inl ⟨?_, ?_⟩⟩
        · rw [nst_1 c1, if_neg (fun w => w.2.2.2.1 e1)]
        · rw [d3] at d4
          simp (disch := omega) only [zL0, zL1, zL2, zL3, zL4, zL5, zL6, zL7, zL8, zL9, zL10, zL12, zL20, zL30, zL31, zL32, zL44, zL48, zL49, zL50, zL56, zL59, zL60, zL61, zL64, zL65, zL97, zL99, zL100, zL101, zL102, zL103, zL104, zL111, zL119, zL126, zL255, zL512, zL617, zL65535, zL65536, zL1048576, zlt, zle, zeq, ztn, zin, zzb, zadd, zmul, zm_lt, zm_gt, zm_le, zm_ge, zm_eq, zm_eq', zm_in, if_pos, if_neg, bI_s, bJ_s, bA_s, bU_s, if_true, if_false, reduceIte, or_true, true_or, or_false, false_or, and_true, true_and, and_false, false_and, not_true_eq_false, not_false_eq_true, Nat.reduceEqDiff, Nat.zero_ne_one, Nat.one_ne_zero, c1, g2, d3, d4, gan, e1, k_Mod_nextState_74_eq]
      · have hT := mr_isThere hq hNM a8 (show ch - 48 < 8 by omega)
        have e1' : (nI (ch - 48) = S.1 68 q.2.1) = False := by
          rw [gan, zeq (by omega) (by omega)]; exact eq_false (fun w => e1 w.symm)
        rw [d3] at d4
        cases ct : thr q.2.2.1 q.2.2.2.1 (q.2.2.1 q.2.1) (ch - 48) q.2.1
        · rw [ct] at hT
          refine ⟨u1 (u1 (u1 S 69 q.2.1 (nI (ch - 48))) 70 q.2.1 (nI 0)) 55 22 (nI (q.2.1 + 1)), fun a k q0 q1 q2 q3 => by simp (disch := omega) only [zuS, zuN, zu2, zv1, zvS, zvN], by simp (disch := omega) only [zuS, zuN, zu2, zv1, zvS, zvN], Or.inr ⟨(2, q.2.1 + 1, q.2.2.1, dU q.2.2.2.1 q.2.1 (ch - 48), dU q.2.2.2.2.1 q.2.1 0, q.2.2.2.2.2), ?_, ?_, ⟨?_, ?_, ?_, fun k hk => ?_, fun k hk => ?_, fun k hk => ?_⟩⟩⟩
          · rw [nst_1 c1, if_pos ⟨d1, d2, n11, e1, ct⟩]
          · simp (disch := omega) only [zL0, zL1, zL2, zL3, zL4, zL5, zL6, zL7, zL8, zL9, zL10, zL12, zL20, zL30, zL31, zL32, zL44, zL48, zL49, zL50, zL56, zL59, zL60, zL61, zL64, zL65, zL97, zL99, zL100, zL101, zL102, zL103, zL104, zL111, zL119, zL126, zL255, zL512, zL617, zL65535, zL65536, zL1048576, zlt, zle, zeq, ztn, zin, zzb, zadd, zmul, zm_lt, zm_gt, zm_le, zm_ge, zm_eq, zm_eq', zm_in, if_pos, if_neg, bI_s, bJ_s, bA_s, bU_s, if_true, if_false, reduceIte, or_true, true_or, or_false, false_or, and_true, true_and, and_false, false_and, not_true_eq_false, not_false_eq_true, Nat.reduceEqDiff, Nat.zero_ne_one, Nat.one_ne_zero, c1, g2, d3, d4, e1', hT, gan, Bool.false_eq_true, zuS, zuN, zu2, zv1, zvS, zvN]
          · simp (disch := omega) only [zuS, zuN, zu2, zv1, zvS, zvN]
          · simp (disch := omega) only [zuS, zuN, zu2, zv1, zvS, zvN]; exact g26
          · simp (disch := omega) only [zuS, zuN, zu2, zv1, zvS, zvN]; exact g27
          · dsimp only at hk ⊢
            simp (disch := omega) only [zuS, zuN, zu2, zv1, zvS, zvN]
            by_cases e : k = q.2.1
            · rw [e]; exact gan
            · exact ga k (by omega)
          · dsimp only at hk ⊢
            by_cases e : k = q.2.1
            · rw [dU_s e, e]; simp (disch := omega) only [zuS, zuN, zu2, zv1, zvS, zvN]
            · rw [dU_n e]; simp (disch := omega) only [zuS, zuN, zu2, zv1, zvS, zvN]; exact gb k (by omega)
          · dsimp only at hk ⊢
            by_cases e : k = q.2.1
            · rw [dU_s e, e]; simp (disch := omega) only [zuS, zuN, zu2, zv1, zvS, zvN]
            · rw [dU_n e]; simp (disch := omega) only [zuS, zuN, zu2, zv1, zvS, zvN]; exact gw k (by omega)
        · rw [ct] at hT
          refine ⟨S, frN_r S, rfl, Or.inl ⟨?_, ?_⟩⟩
          · rw [nst_1 c1, if_neg (fun w => by rw [ct] at w; exact absurd w.2.2.2.2 (by decide))]
          · simp (disch := omega) only [zL0, zL1, zL2, zL3, zL4, zL5, zL6, zL7, zL8, zL9, zL10, zL12, zL20, zL30, zL31, zL32, zL44, zL48, zL49, zL50, zL56, zL59, zL60, zL61, zL64, zL65, zL97, zL99, zL100, zL101, zL102, zL103, zL104, zL111, zL119, zL126, zL255, zL512, zL617, zL65535, zL65536, zL1048576, zlt, zle, zeq, ztn, zin, zzb, zadd, zmul, zm_lt, zm_gt, zm_le, zm_ge, zm_eq, zm_eq', zm_in, if_pos, if_neg, bI_s, bJ_s, bA_s, bU_s, if_true, if_false, reduceIte, or_true, true_or, or_false, false_or, and_true, true_and, and_false, false_and, not_true_eq_false, not_false_eq_true, Nat.reduceEqDiff, Nat.zero_ne_one, Nat.one_ne_zero, c1, g2, d3, d4, e1', hT, gan, k_Mod_nextState_74_eq]
    · refine ⟨S, frN_r S, rfl, Or.inl ⟨?_, ?_⟩⟩
      · rw [nst_1 c1, if_neg (fun w => d1 ⟨w.1, w.2.1⟩)]
      · simp (disch := omega) only [zL0, zL1, zL2, zL3, zL4, zL5, zL6, zL7, zL8, zL9, zL10, zL12, zL20, zL30, zL31, zL32, zL44, zL48, zL49, zL50, zL56, zL59, zL60, zL61, zL64, zL65, zL97, zL99, zL100, zL101, zL102, zL103, zL104, zL111, zL119, zL126, zL255, zL512, zL617, zL65535, zL65536, zL1048576, zlt, zle, zeq, ztn, zin, zzb, zadd, zmul, zm_lt, zm_gt, zm_le, zm_ge, zm_eq, zm_eq', zm_in, if_pos, if_neg, bI_s, bJ_s, bA_s, bU_s, if_true, if_false, reduceIte, or_true, true_or, or_false, false_or, and_true, true_and, and_false, false_and, not_true_eq_false, not_false_eq_true, Nat.reduceEqDiff, Nat.zero_ne_one, Nat.one_ne_zero, c1, g2, d4, k_Mod_nextState_74_eq]
  have n1 := hq.2.2.2.1 (by omega)
  have keep : ∀ v, v ≠ 1 → NM (v, q.2) S := fun v hv => ⟨g2, g26, g27, fun k hk => by
    rcases hk with hk | hk
    · exact ga k (Or.inl hk)
    · exact absurd hk.2 hv, gb, gw⟩
  by_cases c2 : q.1 = 2
  · by_cases c61 : ch = 61
    · refine ⟨u1 S 70 (q.2.1 - 1) (nI 1), fun a k q0 q1 q2 q3 => by simp (disch := omega) only [zuS, zuN, zu2, zv1, zvS, zvN], by simp (disch := omega) only [zuS, zuN, zu2, zv1, zvS, zvN], Or.inr ⟨(3, q.2.1, q.2.2.1, q.2.2.2.1, dU q.2.2.2.2.1 (q.2.1 - 1) 1, q.2.2.2.2.2), ?_, ?_, ⟨?_, ?_, ?_, fun k hk => ?_, fun k hk => ?_, fun k hk => ?_⟩⟩⟩
      · rw [nst_2 c2, if_pos c61]
      · simp (disch := omega) only [zL0, zL1, zL2, zL3, zL4, zL5, zL6, zL7, zL8, zL9, zL10, zL12, zL20, zL30, zL31, zL32, zL44, zL48, zL49, zL50, zL56, zL59, zL60, zL61, zL64, zL65, zL97, zL99, zL100, zL101, zL102, zL103, zL104, zL111, zL119, zL126, zL255, zL512, zL617, zL65535, zL65536, zL1048576, zlt, zle, zeq, ztn, zin, zzb, zadd, zmul, zm_lt, zm_gt, zm_le, zm_ge, zm_eq, zm_eq', zm_in, if_pos, if_neg, bI_s, bJ_s, bA_s, bU_s, if_true, if_false, reduceIte, or_true, true_or, or_false, false_or, and_true, true_and, and_false, false_and, not_true_eq_false, not_false_eq_true, Nat.reduceEqDiff, Nat.zero_ne_one, Nat.one_ne_zero, c2, g2, zsub]
      · simp (disch := omega) only [zuS, zuN, zu2, zv1, zvS, zvN]; exact g2
      · simp (disch := omega) only [zuS, zuN, zu2, zv1, zvS, zvN]; exact g26
      · simp (disch := omega) only [zuS, zuN, zu2, zv1, zvS, zvN]; exact g27
      · dsimp only at hk
        simp (disch := omega) only [zuS, zuN, zu2, zv1, zvS, zvN]; exact ga k (by omega)
      · simp (disch := omega) only [zuS, zuN, zu2, zv1, zvS, zvN]; exact gb k hk
      · dsimp only at hk ⊢
        by_cases e : k = q.2.1 - 1
        · rw [dU_s e, e]; simp (disch := omega) only [zuS, zuN, zu2, zv1, zvS, zvN]
        · rw [dU_n e]; simp (disch := omega) only [zuS, zuN, zu2, zv1, zvS, zvN]; exact gw k hk
    · refine ⟨S, frN_r S, rfl, ?_⟩
      rw [nst_2 c2, if_neg c61]
      by_cases d1 : ch = 44
      · by_cases d2 : q.2.1 < 12
        · refine Or.inr ⟨(0, q.2), by rw [if_pos ⟨d1, d2⟩], ?_, keep 0 (by omega)⟩
          simp (disch := omega) only [zL0, zL1, zL2, zL3, zL4, zL5, zL6, zL7, zL8, zL9, zL10, zL12, zL20, zL30, zL31, zL32, zL44, zL48, zL49, zL50, zL56, zL59, zL60, zL61, zL64, zL65, zL97, zL99, zL100, zL101, zL102, zL103, zL104, zL111, zL119, zL126, zL255, zL512, zL617, zL65535, zL65536, zL1048576, zlt, zle, zeq, ztn, zin, zzb, zadd, zmul, zm_lt, zm_gt, zm_le, zm_ge, zm_eq, zm_eq', zm_in, if_pos, if_neg, bI_s, bJ_s, bA_s, bU_s, if_true, if_false, reduceIte, or_true, true_or, or_false, false_or, and_true, true_and, and_false, false_and, not_true_eq_false, not_false_eq_true, Nat.reduceEqDiff, Nat.zero_ne_one, Nat.one_ne_zero, c2, g2, k_Mod_nextState_133_eq, k_Mod_nextState_143_eq, k_Mod_nextState_162_eq, k_Mod_nextState_173_eq]
        · refine Or.inl ⟨by rw [if_neg (fun w => d2 w.2), if_neg (by omega)], ?_⟩
          simp (disch := omega) only [zL0, zL1, zL2, zL3, zL4, zL5, zL6, zL7, zL8, zL9, zL10, zL12, zL20, zL30, zL31, zL32, zL44, zL48, zL49, zL50, zL56, zL59, zL60, zL61, zL64, zL65, zL97, zL99, zL100, zL101, zL102, zL103, zL104, zL111, zL119, zL126, zL255, zL512, zL617, zL65535, zL65536, zL1048576, zlt, zle, zeq, ztn, zin, zzb, zadd, zmul, zm_lt, zm_gt, zm_le, zm_ge, zm_eq, zm_eq', zm_in, if_pos, if_neg, bI_s, bJ_s, bA_s, bU_s, if_true, if_false, reduceIte, or_true, true_or, or_false, false_or, and_true, true_and, and_false, false_and, not_true_eq_false, not_false_eq_true, Nat.reduceEqDiff, Nat.zero_ne_one, Nat.one_ne_zero, c2, g2, k_Mod_nextState_133_eq, k_Mod_nextState_143_eq, k_Mod_nextState_162_eq, k_Mod_nextState_173_eq]
      · by_cases d3 : ch = 59
        · refine Or.inr ⟨(4, q.2), by rw [if_neg (fun w => d1 w.1), if_pos d3], ?_, keep 4 (by omega)⟩
          simp (disch := omega) only [zL0, zL1, zL2, zL3, zL4, zL5, zL6, zL7, zL8, zL9, zL10, zL12, zL20, zL30, zL31, zL32, zL44, zL48, zL49, zL50, zL56, zL59, zL60, zL61, zL64, zL65, zL97, zL99, zL100, zL101, zL102, zL103, zL104, zL111, zL119, zL126, zL255, zL512, zL617, zL65535, zL65536, zL1048576, zlt, zle, zeq, ztn, zin, zzb, zadd, zmul, zm_lt, zm_gt, zm_le, zm_ge, zm_eq, zm_eq', zm_in, if_pos, if_neg, bI_s, bJ_s, bA_s, bU_s, if_true, if_false, reduceIte, or_true, true_or, or_false, false_or, and_true, true_and, and_false, false_and, not_true_eq_false, not_false_eq_true, Nat.reduceEqDiff, Nat.zero_ne_one, Nat.one_ne_zero, c2, g2, k_Mod_nextState_133_eq, k_Mod_nextState_143_eq, k_Mod_nextState_162_eq, k_Mod_nextState_173_eq]
        · refine Or.inl ⟨by rw [if_neg (fun w => d1 w.1), if_neg d3], ?_⟩
          simp (disch := omega) only [zL0, zL1, zL2, zL3, zL4, zL5, zL6, zL7, zL8, zL9, zL10, zL12, zL20, zL30, zL31, zL32, zL44, zL48, zL49, zL50, zL56, zL59, zL60, zL61, zL64, zL65, zL97, zL99, zL100, zL101, zL102, zL103, zL104, zL111, zL119, zL126, zL255, zL512, zL617, zL65535, zL65536, zL1048576, zlt, zle, zeq, ztn, zin, zzb, zadd, zmul, zm_lt, zm_gt, zm_le, zm_ge, zm_eq, zm_eq', zm_in, if_pos, if_neg, bI_s, bJ_s, bA_s, bU_s, if_true, if_false, reduceIte, or_true, true_or, or_false, false_or, and_true, true_and, and_false, false_and, not_true_eq_false, not_false_eq_true, Nat.reduceEqDiff, Nat.zero_ne_one, Nat.one_ne_zero, c2, g2, k_Mod_nextState_133_eq, k_Mod_nextState_143_eq, k_Mod_nextState_162_eq, k_Mod_nextState_173_eq]
  by_cases c3 : q.1 = 3
  · refine ⟨S, frN_r S, rfl, ?_⟩
    rw [nst_3 c3]
    by_cases d1 : ch = 44
    · by_cases d2 : q.2.1 < 12
      · refine Or.inr ⟨(0, q.2), by rw [if_pos ⟨d1, d2⟩], ?_, keep 0 (by omega)⟩
        simp (disch := omega) only [zL0, zL1, zL2, zL3, zL4, zL5, zL6, zL7, zL8, zL9, zL10, zL12, zL20, zL30, zL31, zL32, zL44, zL48, zL49, zL50, zL56, zL59, zL60, zL61, zL64, zL65, zL97, zL99, zL100, zL101, zL102, zL103, zL104, zL111, zL119, zL126, zL255, zL512, zL617, zL65535, zL65536, zL1048576, zlt, zle, zeq, ztn, zin, zzb, zadd, zmul, zm_lt, zm_gt, zm_le, zm_ge, zm_eq, zm_eq', zm_in, if_pos, if_neg, bI_s, bJ_s, bA_s, bU_s, if_true, if_false, reduceIte, or_true, true_or, or_false, false_or, and_true, true_and, and_false, false_and, not_true_eq_false, not_false_eq_true, Nat.reduceEqDiff, Nat.zero_ne_one, Nat.one_ne_zero, c3, g2, k_Mod_nextState_133_eq, k_Mod_nextState_143_eq, k_Mod_nextState_162_eq, k_Mod_nextState_173_eq]
      · refine Or.inl ⟨by rw [if_neg (fun w => d2 w.2), if_neg (by omega)], ?_⟩
        simp (disch := omega) only [zL0, zL1, zL2, zL3, zL4, zL5, zL6, zL7, zL8, zL9, zL10, zL12, zL20, zL30, zL31, zL32, zL44, zL48, zL49, zL50, zL56, zL59, zL60, zL61, zL64, zL65, zL97, zL99, zL100, zL101, zL102, zL103, zL104, zL111, zL119, zL126, zL255, zL512, zL617, zL65535, zL65536, zL1048576, zlt, zle, zeq, ztn, zin, zzb, zadd, zmul, zm_lt, zm_gt, zm_le, zm_ge, zm_eq, zm_eq', zm_in, if_pos, if_neg, bI_s, bJ_s, bA_s, bU_s, if_true, if_false, reduceIte, or_true, true_or, or_false, false_or, and_true, true_and, and_false, false_and, not_true_eq_false, not_false_eq_true, Nat.reduceEqDiff, Nat.zero_ne_one, Nat.one_ne_zero, c3, g2, k_Mod_nextState_133_eq, k_Mod_nextState_143_eq, k_Mod_nextState_162_eq, k_Mod_nextState_173_eq]
    · by_cases d3 : ch = 59
      · refine Or.inr ⟨(4, q.2), by rw [if_neg (fun w => d1 w.1), if_pos d3], ?_, keep 4 (by omega)⟩
        simp (disch := omega) only [zL0, zL1, zL2, zL3, zL4, zL5, zL6, zL7, zL8, zL9, zL10, zL12, zL20, zL30, zL31, zL32, zL44, zL48, zL49, zL50, zL56, zL59, zL60, zL61, zL64, zL65, zL97, zL99, zL100, zL101, zL102, zL103, zL104, zL111, zL119, zL126, zL255, zL512, zL617, zL65535, zL65536, zL1048576, zlt, zle, zeq, ztn, zin, zzb, zadd, zmul, zm_lt, zm_gt, zm_le, zm_ge, zm_eq, zm_eq', zm_in, if_pos, if_neg, bI_s, bJ_s, bA_s, bU_s, if_true, if_false, reduceIte, or_true, true_or, or_false, false_or, and_true, true_and, and_false, false_and, not_true_eq_false, not_false_eq_true, Nat.reduceEqDiff, Nat.zero_ne_one, Nat.one_ne_zero, c3, g2, k_Mod_nextState_133_eq, k_Mod_nextState_143_eq, k_Mod_nextState_162_eq, k_Mod_nextState_173_eq]
      · refine Or.inl ⟨by rw [if_neg (fun w => d1 w.1), if_neg d3], ?_⟩
        simp (disch := omega) only [zL0, zL1, zL2, zL3, zL4, zL5, zL6, zL7, zL8, zL9, zL10, zL12, zL20, zL30, zL31, zL32, zL44, zL48, zL49, zL50, zL56, zL59, zL60, zL61, zL64, zL65, zL97, zL99, zL100, zL101, zL102, zL103, zL104, zL111, zL119, zL126, zL255, zL512, zL617, zL65535, zL65536, zL1048576, zlt, zle, zeq, ztn, zin, zzb, zadd, zmul, zm_lt, zm_gt, zm_le, zm_ge, zm_eq, zm_eq', zm_in, if_pos, if_neg, bI_s, bJ_s, bA_s, bU_s, if_true, if_false, reduceIte, or_true, true_or, or_false, false_or, and_true, true_and, and_false, false_and, not_true_eq_false, not_false_eq_true, Nat.reduceEqDiff, Nat.zero_ne_one, Nat.one_ne_zero, c3, g2, k_Mod_nextState_133_eq, k_Mod_nextState_143_eq, k_Mod_nextState_162_eq, k_Mod_nextState_173_eq]
  have mw : NM (6, q.2.1, q.2.2.1, q.2.2.2.1, q.2.2.2.2.1, q.2.2.2.2.2.1, 1) (u1 S 55 27 (nI 1)) := by
    refine ⟨?_, ?_, ?_, fun k hk => ?_, fun k hk => ?_, fun k hk => ?_⟩
    · simp (disch := omega) only [zuS, zuN, zu2, zv1, zvS, zvN]; exact g2
    · simp (disch := omega) only [zuS, zuN, zu2, zv1, zvS, zvN]; exact g26
    · simp (disch := omega) only [zuS, zuN, zu2, zv1, zvS, zvN]
    · dsimp only at hk
      simp (disch := omega) only [zuS, zuN, zu2, zv1, zvS, zvN]; exact ga k (by omega)
    · simp (disch := omega) only [zuS, zuN, zu2, zv1, zvS, zvN]; exact gb k hk
    · simp (disch := omega) only [zuS, zuN, zu2, zv1, zvS, zvN]; exact gw k hk
  by_cases c4 : q.1 = 4
  · by_cases d1 : ch = 100
    · refine ⟨u1 S 55 26 (nI 1), fun a k q0 q1 q2 q3 => by simp (disch := omega) only [zuS, zuN, zu2, zv1, zvS, zvN], by simp (disch := omega) only [zuS, zuN, zu2, zv1, zvS, zvN], Or.inr ⟨(5, q.2.1, q.2.2.1, q.2.2.2.1, q.2.2.2.2.1, 1, q.2.2.2.2.2.2), ?_, ?_, ⟨?_, ?_, ?_, fun k hk => ?_, fun k hk => ?_, fun k hk => ?_⟩⟩⟩
      · rw [nst_4 c4, if_pos d1]
      · simp (disch := omega) only [zL0, zL1, zL2, zL3, zL4, zL5, zL6, zL7, zL8, zL9, zL10, zL12, zL20, zL30, zL31, zL32, zL44, zL48, zL49, zL50, zL56, zL59, zL60, zL61, zL64, zL65, zL97, zL99, zL100, zL101, zL102, zL103, zL104, zL111, zL119, zL126, zL255, zL512, zL617, zL65535, zL65536, zL1048576, zlt, zle, zeq, ztn, zin, zzb, zadd, zmul, zm_lt, zm_gt, zm_le, zm_ge, zm_eq, zm_eq', zm_in, if_pos, if_neg, bI_s, bJ_s, bA_s, bU_s, if_true, if_false, reduceIte, or_true, true_or, or_false, false_or, and_true, true_and, and_false, false_and, not_true_eq_false, not_false_eq_true, Nat.reduceEqDiff, Nat.zero_ne_one, Nat.one_ne_zero, c4, k_Mod_nextState_133_eq]
      · simp (disch := omega) only [zuS, zuN, zu2, zv1, zvS, zvN]; exact g2
      · simp (disch := omega) only [zuS, zuN, zu2, zv1, zvS, zvN]
      · simp (disch := omega) only [zuS, zuN, zu2, zv1, zvS, zvN]; exact g27
      · dsimp only at hk
        simp (disch := omega) only [zuS, zuN, zu2, zv1, zvS, zvN]; exact ga k (by omega)
      · simp (disch := omega) only [zuS, zuN, zu2, zv1, zvS, zvN]; exact gb k hk
      · simp (disch := omega) only [zuS, zuN, zu2, zv1, zvS, zvN]; exact gw k hk
    · by_cases d2 : ch = 119
      · refine ⟨u1 S 55 27 (nI 1), fun a k q0 q1 q2 q3 => by simp (disch := omega) only [zuS, zuN, zu2, zv1, zvS, zvN], by simp (disch := omega) only [zuS, zuN, zu2, zv1, zvS, zvN], Or.inr ⟨_, ?_, ?_, mw⟩⟩
        · rw [nst_4 c4, if_neg d1, if_pos d2]
        · simp (disch := omega) only [zL0, zL1, zL2, zL3, zL4, zL5, zL6, zL7, zL8, zL9, zL10, zL12, zL20, zL30, zL31, zL32, zL44, zL48, zL49, zL50, zL56, zL59, zL60, zL61, zL64, zL65, zL97, zL99, zL100, zL101, zL102, zL103, zL104, zL111, zL119, zL126, zL255, zL512, zL617, zL65535, zL65536, zL1048576, zlt, zle, zeq, ztn, zin, zzb, zadd, zmul, zm_lt, zm_gt, zm_le, zm_ge, zm_eq, zm_eq', zm_in, if_pos, if_neg, bI_s, bJ_s, bA_s, bU_s, if_true, if_false, reduceIte, or_true, true_or, or_false, false_or, and_true, true_and, and_false, false_and, not_true_eq_false, not_false_eq_true, Nat.reduceEqDiff, Nat.zero_ne_one, Nat.one_ne_zero, c4, k_Mod_nextState_133_eq, k_Mod_nextState_192_eq]
      · refine ⟨S, frN_r S, rfl, Or.inl ⟨?_, ?_⟩⟩
        · rw [nst_4 c4, if_neg d1, if_neg d2]
        · simp (disch := omega) only [zL0, zL1, zL2, zL3, zL4, zL5, zL6, zL7, zL8, zL9, zL10, zL12, zL20, zL30, zL31, zL32, zL44, zL48, zL49, zL50, zL56, zL59, zL60, zL61, zL64, zL65, zL97, zL99, zL100, zL101, zL102, zL103, zL104, zL111, zL119, zL126, zL255, zL512, zL617, zL65535, zL65536, zL1048576, zlt, zle, zeq, ztn, zin, zzb, zadd, zmul, zm_lt, zm_gt, zm_le, zm_ge, zm_eq, zm_eq', zm_in, if_pos, if_neg, bI_s, bJ_s, bA_s, bU_s, if_true, if_false, reduceIte, or_true, true_or, or_false, false_or, and_true, true_and, and_false, false_and, not_true_eq_false, not_false_eq_true, Nat.reduceEqDiff, Nat.zero_ne_one, Nat.one_ne_zero, c4, k_Mod_nextState_133_eq, k_Mod_nextState_192_eq, k_Mod_nextState_212_eq]
  by_cases c5 : q.1 = 5
  · by_cases d2 : ch = 119
    · refine ⟨u1 S 55 27 (nI 1), fun a k q0 q1 q2 q3 => by simp (disch := omega) only [zuS, zuN, zu2, zv1, zvS, zvN], by simp (disch := omega) only [zuS, zuN, zu2, zv1, zvS, zvN], Or.inr ⟨_, ?_, ?_, mw⟩⟩
      · rw [nst_5 c5, if_pos d2]
      · simp (disch := omega) only [zL0, zL1, zL2, zL3, zL4, zL5, zL6, zL7, zL8, zL9, zL10, zL12, zL20, zL30, zL31, zL32, zL44, zL48, zL49, zL50, zL56, zL59, zL60, zL61, zL64, zL65, zL97, zL99, zL100, zL101, zL102, zL103, zL104, zL111, zL119, zL126, zL255, zL512, zL617, zL65535, zL65536, zL1048576, zlt, zle, zeq, ztn, zin, zzb, zadd, zmul, zm_lt, zm_gt, zm_le, zm_ge, zm_eq, zm_eq', zm_in, if_pos, if_neg, bI_s, bJ_s, bA_s, bU_s, if_true, if_false, reduceIte, or_true, true_or, or_false, false_or, and_true, true_and, and_false, false_and, not_true_eq_false, not_false_eq_true, Nat.reduceEqDiff, Nat.zero_ne_one, Nat.one_ne_zero, c5, k_Mod_nextState_133_eq, k_Mod_nextState_192_eq]
    · refine ⟨S, frN_r S, rfl, Or.inl ⟨?_, ?_⟩⟩
      · rw [nst_5 c5, if_neg d2]
      · simp (disch := omega) only [zL0, zL1, zL2, zL3, zL4, zL5, zL6, zL7, zL8, zL9, zL10, zL12, zL20, zL30, zL31, zL32, zL44, zL48, zL49, zL50, zL56, zL59, zL60, zL61, zL64, zL65, zL97, zL99, zL100, zL101, zL102, zL103, zL104, zL111, zL119, zL126, zL255, zL512, zL617, zL65535, zL65536, zL1048576, zlt, zle, zeq, ztn, zin, zzb, zadd, zmul, zm_lt, zm_gt, zm_le, zm_ge, zm_eq, zm_eq', zm_in, if_pos, if_neg, bI_s, bJ_s, bA_s, bU_s, if_true, if_false, reduceIte, or_true, true_or, or_false, false_or, and_true, true_and, and_false, false_and, not_true_eq_false, not_false_eq_true, Nat.reduceEqDiff, Nat.zero_ne_one, Nat.one_ne_zero, c5, k_Mod_nextState_133_eq, k_Mod_nextState_192_eq, k_Mod_nextState_212_eq]
  · have c6 : q.1 = 6 := by omega
    refine ⟨S, frN_r S, rfl, Or.inl ⟨nst_6 c6, ?_⟩⟩
    simp (disch := omega) only [zL0, zL1, zL2, zL3, zL4, zL5, zL6, zL7, zL8, zL9, zL10, zL12, zL20, zL30, zL31, zL32, zL44, zL48, zL49, zL50, zL56, zL59, zL60, zL61, zL64, zL65, zL97, zL99, zL100, zL101, zL102, zL103, zL104, zL111, zL119, zL126, zL255, zL512, zL617, zL65535, zL65536, zL1048576, zlt, zle, zeq, ztn, zin, zzb, zadd, zmul, zm_lt, zm_gt, zm_le, zm_ge, zm_eq, zm_eq', zm_in, if_pos, if_neg, bI_s, bJ_s, bA_s, bU_s, if_true, if_false, reduceIte, or_true, true_or, or_false, false_or, and_true, true_and, and_false, false_and, not_true_eq_false, not_false_eq_true, Nat.reduceEqDiff, Nat.zero_ne_one, Nat.one_ne_zero, c6, k_Mod_nextState_133_eq, k_Mod_nextState_192_eq, k_Mod_nextState_212_eq]
