/-! the model's minute -/
theorem mo_cannot {D : DD} {S : Mem} (h : RM D S) (hn : okN D) (hw : okW D) {w : Nat → Nat} (hws : ∀ i, i < D 55 7 → S.1 71 i = nI (w i)) (hst : ∀ i, i < D 55 7 → stp D (D 60 i) (w i) ∧ w i < 8) {a b : Nat} (ha : a < D 55 7) (hb : b < D 55 7) : f_Mod_cannot (nI a) (nI b) S = some (nI (if cl D (mp D) w a b then 1 else 0), S) := by
  have w5 := hw.1
  have wa := hw.2 a ha
  have wb := hw.2 b hb
  have sa := hst a ha
  have sb := hst b hb
  rw [f_Mod_cannot_eq]
  by_cases c1 : w a = D 60 b
  · by_cases c2 : w b = D 60 a
    · by_cases c3 : w a = D 60 a
      · have hcl : cl D (mp D) w a b = false := by
          unfold cl mt
          rw [← c1, c3, nar_irr hn]
          simp
        rw [hcl]
        simp (disch := omega) only [k_Mod_cannot_49_eq, k_Mod_cannot_50_eq, k_Mod_cannot_92_eq, k_Mod_cannot_93_eq, h.r, hws, zL0, zL1, zL2, zL3, zL4, zL5, zL6, zL7, zL8, zL9, zL10, zL12, zL20, zL30, zL31, zL32, zL44, zL48, zL49, zL50, zL56, zL59, zL60, zL61, zL64, zL65, zL97, zL99, zL100, zL101, zL102, zL103, zL104, zL111, zL119, zL126, zL255, zL512, zL617, zL65535, zL65536, zL1048576, zlt, zle, zeq, ztn, zin, zzb, zadd, zmul, zm_lt, zm_gt, zm_le, zm_ge, zm_eq, zm_eq', zm_in, if_pos, if_neg, bI_s, bJ_s, bA_s, bU_s, if_true, if_false, reduceIte, or_true, true_or, or_false, false_or, and_true, true_and, and_false, false_and, not_true_eq_false, not_false_eq_true, Nat.reduceEqDiff, Nat.zero_ne_one, Nat.one_ne_zero, Bool.false_eq_true]
      · have hadj : adj D (D 60 a) (D 60 b) = true := by
          rcases sa.1 with q | q
          · exact absurd q.symm c3
          · rw [← c1]; exact q
        unfold adj at hadj
        cases e : ln D (D 60 a) (D 60 b) with
        | none => rw [e] at hadj; cases hadj
        | some q =>
          have hq := ln_lt hn e
          have hcl : cl D (mp D) w a b = (decide (D 58 q = 0) && !mp D a b) := by
            unfold cl mt nar
            rw [e]
            simp [ha, hb, c1, c2]
          rw [hcl]
          by_cases c4 : D 58 q = 0
          · cases c5 : mp D a b
            · simp (disch := omega) only [k_Mod_cannot_49_eq, k_Mod_cannot_50_eq, k_Mod_cannot_92_eq, k_Mod_cannot_93_eq, h.r, hws, mo_laneOf h hn, mo_mayPass h hn hw ha hb, e, eo, c5, zL0, zL1, zL2, zL3, zL4, zL5, zL6, zL7, zL8, zL9, zL10, zL12, zL20, zL30, zL31, zL32, zL44, zL48, zL49, zL50, zL56, zL59, zL60, zL61, zL64, zL65, zL97, zL99, zL100, zL101, zL102, zL103, zL104, zL111, zL119, zL126, zL255, zL512, zL617, zL65535, zL65536, zL1048576, zlt, zle, zeq, ztn, zin, zzb, zadd, zmul, zm_lt, zm_gt, zm_le, zm_ge, zm_eq, zm_eq', zm_in, if_pos, if_neg, bI_s, bJ_s, bA_s, bU_s, if_true, if_false, reduceIte, or_true, true_or, or_false, false_or, and_true, true_and, and_false, false_and, not_true_eq_false, not_false_eq_true, Nat.reduceEqDiff, Nat.zero_ne_one, Nat.one_ne_zero, Bool.false_eq_true, decide_eq_true c4, Bool.not_false, Bool.and_self]
            · simp (disch := omega) only [k_Mod_cannot_49_eq, k_Mod_cannot_50_eq, k_Mod_cannot_92_eq, k_Mod_cannot_93_eq, h.r, hws, mo_laneOf h hn, mo_mayPass h hn hw ha hb, e, eo, c5, zL0, zL1, zL2, zL3, zL4, zL5, zL6, zL7, zL8, zL9, zL10, zL12, zL20, zL30, zL31, zL32, zL44, zL48, zL49, zL50, zL56, zL59, zL60, zL61, zL64, zL65, zL97, zL99, zL100, zL101, zL102, zL103, zL104, zL111, zL119, zL126, zL255, zL512, zL617, zL65535, zL65536, zL1048576, zlt, zle, zeq, ztn, zin, zzb, zadd, zmul, zm_lt, zm_gt, zm_le, zm_ge, zm_eq, zm_eq', zm_in, if_pos, if_neg, bI_s, bJ_s, bA_s, bU_s, if_true, if_false, reduceIte, or_true, true_or, or_false, false_or, and_true, true_and, and_false, false_and, not_true_eq_false, not_false_eq_true, Nat.reduceEqDiff, Nat.zero_ne_one, Nat.one_ne_zero, Bool.false_eq_true, Bool.not_true, Bool.and_false]
          · simp (disch := omega) only [k_Mod_cannot_49_eq, k_Mod_cannot_50_eq, k_Mod_cannot_92_eq, k_Mod_cannot_93_eq, h.r, hws, mo_laneOf h hn, mo_mayPass h hn hw ha hb, e, eo, zL0, zL1, zL2, zL3, zL4, zL5, zL6, zL7, zL8, zL9, zL10, zL12, zL20, zL30, zL31, zL32, zL44, zL48, zL49, zL50, zL56, zL59, zL60, zL61, zL64, zL65, zL97, zL99, zL100, zL101, zL102, zL103, zL104, zL111, zL119, zL126, zL255, zL512, zL617, zL65535, zL65536, zL1048576, zlt, zle, zeq, ztn, zin, zzb, zadd, zmul, zm_lt, zm_gt, zm_le, zm_ge, zm_eq, zm_eq', zm_in, if_pos, if_neg, bI_s, bJ_s, bA_s, bU_s, if_true, if_false, reduceIte, or_true, true_or, or_false, false_or, and_true, true_and, and_false, false_and, not_true_eq_false, not_false_eq_true, Nat.reduceEqDiff, Nat.zero_ne_one, Nat.one_ne_zero, Bool.false_eq_true, decide_eq_false c4, Bool.false_and]
    · have hcl : cl D (mp D) w a b = false := by
        unfold cl mt
        simp [c2]
      rw [hcl]
      simp (disch := omega) only [k_Mod_cannot_49_eq, k_Mod_cannot_50_eq, k_Mod_cannot_92_eq, k_Mod_cannot_93_eq, h.r, hws, zL0, zL1, zL2, zL3, zL4, zL5, zL6, zL7, zL8, zL9, zL10, zL12, zL20, zL30, zL31, zL32, zL44, zL48, zL49, zL50, zL56, zL59, zL60, zL61, zL64, zL65, zL97, zL99, zL100, zL101, zL102, zL103, zL104, zL111, zL119, zL126, zL255, zL512, zL617, zL65535, zL65536, zL1048576, zlt, zle, zeq, ztn, zin, zzb, zadd, zmul, zm_lt, zm_gt, zm_le, zm_ge, zm_eq, zm_eq', zm_in, if_pos, if_neg, bI_s, bJ_s, bA_s, bU_s, if_true, if_false, reduceIte, or_true, true_or, or_false, false_or, and_true, true_and, and_false, false_and, not_true_eq_false, not_false_eq_true, Nat.reduceEqDiff, Nat.zero_ne_one, Nat.one_ne_zero, Bool.false_eq_true]
  · have hcl : cl D (mp D) w a b = false := by
      unfold cl mt
      simp [c1]
    rw [hcl]
    simp (disch := omega) only [k_Mod_cannot_49_eq, k_Mod_cannot_50_eq, k_Mod_cannot_92_eq, k_Mod_cannot_93_eq, h.r, hws, zL0, zL1, zL2, zL3, zL4, zL5, zL6, zL7, zL8, zL9, zL10, zL12, zL20, zL30, zL31, zL32, zL44, zL48, zL49, zL50, zL56, zL59, zL60, zL61, zL64, zL65, zL97, zL99, zL100, zL101, zL102, zL103, zL104, zL111, zL119, zL126, zL255, zL512, zL617, zL65535, zL65536, zL1048576, zlt, zle, zeq, ztn, zin, zzb, zadd, zmul, zm_lt, zm_gt, zm_le, zm_ge, zm_eq, zm_eq', zm_in, if_pos, if_neg, bI_s, bJ_s, bA_s, bU_s, if_true, if_false, reduceIte, or_true, true_or, or_false, false_or, and_true, true_and, and_false, false_and, not_true_eq_false, not_false_eq_true, Nat.reduceEqDiff, Nat.zero_ne_one, Nat.one_ne_zero, Bool.false_eq_true]
def frL (S S' : Mem) : Prop := (∀ a k, ¬ (a = 55 ∧ (k = 29 ∨ k = 30 ∨ k = 31)) → S'.1 a k = S.1 a k) ∧ S'.2 = S.2
def LI (s : Nat × (Nat × Nat) × Nat) (S : Mem) : Prop := S.1 55 29 = nI s.2.2 ∧ (0 < s.1 → S.1 55 30 = nI s.2.1.1 ∧ S.1 55 31 = nI s.2.1.2)
theorem lbs_t {f : Nat → Nat → Bool} {s : Nat × (Nat × Nat) × Nat} {a b : Nat} (h : f a b = true) : lbs f s (a, b) = (s.1 + 1, (if s.1 = 0 then (a, b) else s.2.1), s.2.2 ||| (2 ^ a ||| 2 ^ b)) := by
  unfold lbs; rw [if_pos h]
theorem lbs_f {f : Nat → Nat → Bool} {s : Nat × (Nat × Nat) × Nat} {a b : Nat} (h : f a b = false) : lbs f s (a, b) = s := by
  unfold lbs; simp [h]
section LAY
variable {f : Nat → Nat → Bool} {W : Nat} {S0 : Mem}
theorem lay_in (hW : W ≤ 5) (h7 : S0.1 55 7 = nI W) (C : ∀ S', frL S0 S' → ∀ a b, a < b → b < W → f_Mod_cannot (nI a) (nI b) S' = some (nI (if f a b then 1 else 0), S')) (a : Nat) : ∀ m b s S, b + m = W → a < b → frL S0 S → LI s S → s.1 + m ≤ 100 → s.2.2 < 32 → ∃ S', k_Mod_layBack_21 (nI s.1) (nI a) (nI b) S = k_Mod_layBack_9 (nI ((ri a m b).foldl (lbs f) s).1) (nI (a + 1)) S' ∧ frL S0 S' ∧ LI ((ri a m b).foldl (lbs f) s) S' ∧ ((ri a m b).foldl (lbs f) s).1 ≤ s.1 + m ∧ ((ri a m b).foldl (lbs f) s).2.2 < 32 := by
  intro m
  induction m with
  | zero =>
    intro b s S hb hab hf hl ht hg
    have h7' : S.1 55 7 = nI W := by rw [hf.1 _ _ (by omega), h7]
    refine ⟨S, ?_, hf, hl, by simp [ri], hg⟩
    rw [k_Mod_layBack_21_eq]
    simp (disch := omega) only [h7', zL0, zL1, zL2, zL3, zL4, zL5, zL6, zL7, zL8, zL9, zL10, zL12, zL20, zL30, zL31, zL32, zL44, zL48, zL49, zL50, zL56, zL59, zL60, zL61, zL64, zL65, zL97, zL99, zL100, zL101, zL102, zL103, zL104, zL111, zL119, zL126, zL255, zL512, zL617, zL65535, zL65536, zL1048576, zlt, zle, zeq, ztn, zin, zzb, zadd, zmul, zm_lt, zm_gt, zm_le, zm_ge, zm_eq, zm_eq', zm_in, if_pos, if_neg, bI_s, bJ_s, bA_s, bU_s, if_true, if_false, reduceIte, or_true, true_or, or_false, false_or, and_true, true_and, and_false, false_and, not_true_eq_false, not_false_eq_true, Nat.reduceEqDiff, Nat.zero_ne_one, Nat.one_ne_zero, ri, List.foldl_nil]
  | succ m ih =>
    intro b s S hb hab hf hl ht hg
    have h7' : S.1 55 7 = nI W := by rw [hf.1 _ _ (by omega), h7]
    have hc := C S hf a b hab (by omega)
    have ha5 : a < 31 := by omega
    have hb5 : b < 31 := by omega
    rw [k_Mod_layBack_21_eq]
    cases hfab : f a b
    · rw [hfab] at hc
      obtain ⟨S', e, h1, h2, h3, h4⟩ := ih (b + 1) s S (by omega) (by omega) hf hl (by omega) hg
      refine ⟨S', ?_, ?_⟩
      · rw [ri, List.foldl_cons, lbs_f hfab, ← e]
        simp (disch := omega) only [h7', hc, k_Mod_layBack_89_eq, zL0, zL1, zL2, zL3, zL4, zL5, zL6, zL7, zL8, zL9, zL10, zL12, zL20, zL30, zL31, zL32, zL44, zL48, zL49, zL50, zL56, zL59, zL60, zL61, zL64, zL65, zL97, zL99, zL100, zL101, zL102, zL103, zL104, zL111, zL119, zL126, zL255, zL512, zL617, zL65535, zL65536, zL1048576, zlt, zle, zeq, ztn, zin, zzb, zadd, zmul, zm_lt, zm_gt, zm_le, zm_ge, zm_eq, zm_eq', zm_in, if_pos, if_neg, bI_s, bJ_s, bA_s, bU_s, if_true, if_false, reduceIte, or_true, true_or, or_false, false_or, and_true, true_and, and_false, false_and, not_true_eq_false, not_false_eq_true, Nat.reduceEqDiff, Nat.zero_ne_one, Nat.one_ne_zero, Bool.false_eq_true]
      · rw [ri, List.foldl_cons, lbs_f hfab]
        exact ⟨h1, h2, by omega, h4⟩
    · rw [hfab] at hc
      have hs := lbs_t (s := s) hfab
      obtain ⟨S', e, h1, h2, h3, h4⟩ := ih (b + 1) (lbs f s (a, b)) (u1 (u1 (u1 S 55 30 (nI (lbs f s (a, b)).2.1.1)) 55 31 (nI (lbs f s (a, b)).2.1.2)) 55 29 (nI (lbs f s (a, b)).2.2)) (by omega) (by omega) (by
          refine ⟨fun x k q => ?_, hf.2⟩
          rw [← hf.1 x k q]
          simp (disch := omega) only [zuS, zuN, zu2, zv1, zvS, zvN]) (by
          refine ⟨?_, fun _ => ⟨?_, ?_⟩⟩ <;> simp (disch := omega) only [zuS, zuN, zu2, zv1, zvS, zvN]) (by rw [hs]; dsimp only; omega) (by
          rw [hs]
          exact Nat.or_lt_two_pow (n := 5) hg (Nat.or_lt_two_pow (n := 5) (Nat.pow_lt_pow_right (n := 5) (by decide) (by omega)) (Nat.pow_lt_pow_right (n := 5) (by decide) (by omega))))
      refine ⟨S', ?_, ?_⟩
      · rw [ri, List.foldl_cons, ← e, hs]
        have hl1 := hl.1
        by_cases c : s.1 = 0
        · simp (disch := omega) only [h7', hc, k_Mod_layBack_51_eq, k_Mod_layBack_67_eq, k_Mod_layBack_89_eq, zL0, zL1, zL2, zL3, zL4, zL5, zL6, zL7, zL8, zL9, zL10, zL12, zL20, zL30, zL31, zL32, zL44, zL48, zL49, zL50, zL56, zL59, zL60, zL61, zL64, zL65, zL97, zL99, zL100, zL101, zL102, zL103, zL104, zL111, zL119, zL126, zL255, zL512, zL617, zL65535, zL65536, zL1048576, zlt, zle, zeq, ztn, zin, zzb, zadd, zmul, zm_lt, zm_gt, zm_le, zm_ge, zm_eq, zm_eq', zm_in, if_pos, if_neg, bI_s, bJ_s, bA_s, bU_s, if_true, if_false, reduceIte, or_true, true_or, or_false, false_or, and_true, true_and, and_false, false_and, not_true_eq_false, not_false_eq_true, Nat.reduceEqDiff, Nat.zero_ne_one, Nat.one_ne_zero, zuS, zuN, zu2, zv1, zvS, zvN, c, hl1, zsh, zor]
        · have hl2 := hl.2 (by omega)
          simp (disch := omega) only [h7', hc, k_Mod_layBack_51_eq, k_Mod_layBack_67_eq, k_Mod_layBack_89_eq, zL0, zL1, zL2, zL3, zL4, zL5, zL6, zL7, zL8, zL9, zL10, zL12, zL20, zL30, zL31, zL32, zL44, zL48, zL49, zL50, zL56, zL59, zL60, zL61, zL64, zL65, zL97, zL99, zL100, zL101, zL102, zL103, zL104, zL111, zL119, zL126, zL255, zL512, zL617, zL65535, zL65536, zL1048576, zlt, zle, zeq, ztn, zin, zzb, zadd, zmul, zm_lt, zm_gt, zm_le, zm_ge, zm_eq, zm_eq', zm_in, if_pos, if_neg, bI_s, bJ_s, bA_s, bU_s, if_true, if_false, reduceIte, or_true, true_or, or_false, false_or, and_true, true_and, and_false, false_and, not_true_eq_false, not_false_eq_true, Nat.reduceEqDiff, Nat.zero_ne_one, Nat.one_ne_zero, zuS, zuN, zu2, zv1, zvS, zvN, hl1, hl2.1, hl2.2, zsh, zor]
      · rw [ri, List.foldl_cons]
        refine ⟨h1, h2, ?_, h4⟩
        have : (lbs f s (a, b)).1 = s.1 + 1 := by rw [hs]
        omega
theorem lay_out (hW : W ≤ 5) (h7 : S0.1 55 7 = nI W) (C : ∀ S', frL S0 S' → ∀ a b, a < b → b < W → f_Mod_cannot (nI a) (nI b) S' = some (nI (if f a b then 1 else 0), S')) : ∀ m a s S, a + m = W → frL S0 S → LI s S → s.1 + 10 * m ≤ 100 → s.2.2 < 32 → ∃ S', k_Mod_layBack_9 (nI s.1) (nI a) S = some (nI ((ro m a).foldl (lbs f) s).1, S') ∧ frL S0 S' ∧ LI ((ro m a).foldl (lbs f) s) S' := by
  intro m
  induction m with
  | zero =>
    intro a s S ha hf hl ht hg
    have h7' : S.1 55 7 = nI W := by rw [hf.1 _ _ (by omega), h7]
    refine ⟨S, ?_, hf, hl⟩
    rw [k_Mod_layBack_9_eq]
    simp (disch := omega) only [h7', zL0, zL1, zL2, zL3, zL4, zL5, zL6, zL7, zL8, zL9, zL10, zL12, zL20, zL30, zL31, zL32, zL44, zL48, zL49, zL50, zL56, zL59, zL60, zL61, zL64, zL65, zL97, zL99, zL100, zL101, zL102, zL103, zL104, zL111, zL119, zL126, zL255, zL512, zL617, zL65535, zL65536, zL1048576, zlt, zle, zeq, ztn, zin, zzb, zadd, zmul, zm_lt, zm_gt, zm_le, zm_ge, zm_eq, zm_eq', zm_in, if_pos, if_neg, bI_s, bJ_s, bA_s, bU_s, if_true, if_false, reduceIte, or_true, true_or, or_false, false_or, and_true, true_and, and_false, false_and, not_true_eq_false, not_false_eq_true, Nat.reduceEqDiff, Nat.zero_ne_one, Nat.one_ne_zero, ro, List.foldl_nil]
  | succ m ih =>
    intro a s S ha hf hl ht hg
    have h7' : S.1 55 7 = nI W := by rw [hf.1 _ _ (by omega), h7]
    obtain ⟨S1, e1, f1, l1, t1, g1⟩ := lay_in hW h7 C a m (a + 1) s S (by omega) (by omega) hf hl (by omega) hg
    obtain ⟨S2, e2, f2, l2⟩ := ih (a + 1) _ S1 (by omega) f1 l1 (by omega) g1
    refine ⟨S2, ?_, f2, ?_⟩
    · rw [ro, List.foldl_append, ← e2, ← e1, k_Mod_layBack_9_eq]
      simp (disch := omega) only [h7', zL0, zL1, zL2, zL3, zL4, zL5, zL6, zL7, zL8, zL9, zL10, zL12, zL20, zL30, zL31, zL32, zL44, zL48, zL49, zL50, zL56, zL59, zL60, zL61, zL64, zL65, zL97, zL99, zL100, zL101, zL102, zL103, zL104, zL111, zL119, zL126, zL255, zL512, zL617, zL65535, zL65536, zL1048576, zlt, zle, zeq, ztn, zin, zzb, zadd, zmul, zm_lt, zm_gt, zm_le, zm_ge, zm_eq, zm_eq', zm_in, if_pos, if_neg, bI_s, bJ_s, bA_s, bU_s, if_true, if_false, reduceIte, or_true, true_or, or_false, false_or, and_true, true_and, and_false, false_and, not_true_eq_false, not_false_eq_true, Nat.reduceEqDiff, Nat.zero_ne_one, Nat.one_ne_zero]
    · rw [ro, List.foldl_append]; exact l2
theorem mo_lay (hW : W ≤ 5) (h7 : S0.1 55 7 = nI W) (C : ∀ S', frL S0 S' → ∀ a b, a < b → b < W → f_Mod_cannot (nI a) (nI b) S' = some (nI (if f a b then 1 else 0), S')) : ∃ S', f_Mod_layBack S0 = some (nI (lb f W).1, S') ∧ frL S0 S' ∧ LI (lb f W) S' := by
  obtain ⟨S', e, h1, h2⟩ := lay_out (f := f) (S0 := S0) hW h7 C W 0 (0, (0, 0), 0) (u1 S0 55 29 (nI 0)) (by omega) (⟨fun x k q => by simp (disch := omega) only [zuS, zuN, zu2, zv1, zvS, zvN], rfl⟩) ⟨by simp (disch := omega) only [zuS, zuN, zu2, zv1, zvS, zvN], fun q => absurd q (Nat.lt_irrefl 0)⟩ (by dsimp only; omega) (by dsimp only; omega)
  refine ⟨S', ?_, h1, h2⟩
  rw [f_Mod_layBack_eq, zL0]
  exact e
end LAY
theorem RM_L {D : DD} {S S' : Mem} (h : RM D S) (e : frL S S') : RM D S' := RM_fr h (fun a k q => e.1 a k (by omega))
theorem mo_layBack {D : DD} {S : Mem} (h : RM D S) (hn : okN D) (hw : okW D) {w : Nat → Nat} (hws : ∀ i, i < D 55 7 → S.1 71 i = nI (w i)) (hst : ∀ i, i < D 55 7 → stp D (D 60 i) (w i) ∧ w i < 8) : ∃ S', f_Mod_layBack S = some (nI (lay D (mp D) w).1, S') ∧ frL S S' ∧ LI (lay D (mp D) w) S' :=
  mo_lay hw.1 (h.r 55 7 (by omega)) (fun S' hf a b hab hb => mo_cannot (RM_L h hf) hn hw (fun i hi => by rw [hf.1 _ _ (by omega), hws i hi]) hst (by omega) hb)
theorem mo_wanted {D : DD} {S : Mem} (h : RM D S) (hw : okW D) {i : Nat} (hi : i < D 55 7) : f_Mod_wanted (nI i) S = some (if D 65 i < D 64 i then nI (D 63 (20 * i + D 65 i)) else -nI 1, S) := by
  have w5 := hw.1
  have wi := hw.2 i hi
  rw [f_Mod_wanted_eq]
  by_cases c : D 65 i < D 64 i
  · have := wi.2.2.2.2.2.2.1 _ c
    simp (disch := omega) only [k_Mod_wanted_35_eq, h.r, zL0, zL1, zL2, zL3, zL4, zL5, zL6, zL7, zL8, zL9, zL10, zL12, zL20, zL30, zL31, zL32, zL44, zL48, zL49, zL50, zL56, zL59, zL60, zL61, zL64, zL65, zL97, zL99, zL100, zL101, zL102, zL103, zL104, zL111, zL119, zL126, zL255, zL512, zL617, zL65535, zL65536, zL1048576, zlt, zle, zeq, ztn, zin, zzb, zadd, zmul, zm_lt, zm_gt, zm_le, zm_ge, zm_eq, zm_eq', zm_in, if_pos, if_neg, bI_s, bJ_s, bA_s, bU_s, if_true, if_false, reduceIte, or_true, true_or, or_false, false_or, and_true, true_and, and_false, false_and, not_true_eq_false, not_false_eq_true, Nat.reduceEqDiff, Nat.zero_ne_one, Nat.one_ne_zero]
  · simp (disch := omega) only [k_Mod_wanted_35_eq, h.r, zL0, zL1, zL2, zL3, zL4, zL5, zL6, zL7, zL8, zL9, zL10, zL12, zL20, zL30, zL31, zL32, zL44, zL48, zL49, zL50, zL56, zL59, zL60, zL61, zL64, zL65, zL97, zL99, zL100, zL101, zL102, zL103, zL104, zL111, zL119, zL126, zL255, zL512, zL617, zL65535, zL65536, zL1048576, zlt, zle, zeq, ztn, zin, zzb, zadd, zmul, zm_lt, zm_gt, zm_le, zm_ge, zm_eq, zm_eq', zm_in, if_pos, if_neg, bI_s, bJ_s, bA_s, bU_s, if_true, if_false, reduceIte, or_true, true_or, or_false, false_or, and_true, true_and, and_false, false_and, not_true_eq_false, not_false_eq_true, Nat.reduceEqDiff, Nat.zero_ne_one, Nat.one_ne_zero]
