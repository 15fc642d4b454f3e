/-! the class's minute -/
def PB (P : Nat → Nat → Bool) (S : Mem) : Prop := ∀ i j, i < 5 → j < 5 → ((S.1 45 i >>> (nI j &&& nI 31)) &&& nI 1) = nI (if P i j then 1 else 0)
def ME (M : Nat → Nat) (S : Mem) : Prop := ∀ i, i < 5 → S.1 46 i = nI (M i) ∧ M i < 32
def mfs (f : Nat → Nat → Bool) (M : Nat → Nat) (q : Nat × Nat) : Nat → Nat := if f q.1 q.2 then dU (dU M q.1 (M q.1 ||| 2 ^ q.2)) q.2 (M q.2 ||| 2 ^ q.1) else M
def frQ (S S' : Mem) : Prop := (∀ x k, ¬ (x = 40 ∧ (k = 8 ∨ k = 9)) → x ≠ 44 → x ≠ 46 → S'.1 x k = S.1 x k) ∧ S'.2 = S.2
def MI (s : Nat × (Nat × Nat) × Nat) (M : Nat → Nat) (S : Mem) : Prop := (∀ i, i < 5 → S.1 44 i = nI (if s.2.2.testBit i then 1 else 0)) ∧ (S.1 40 8 = if s.1 = 0 then -nI 1 else nI s.2.1.1) ∧ (s.1 ≠ 0 → S.1 40 9 = nI s.2.1.2) ∧ ME M S
theorem frQ_C {S S' : Mem} (h : frQ S S') : frC S S' := fun a k q => h.1 a k (by omega) (by omega) (by omega)
theorem mm_orlt {a b i : Nat} (ha : a < 32) (hi : i < 5) (hb : b = 2 ^ i) : a ||| b < 32 := Nat.or_lt_two_pow (n := 5) ha (by rw [hb]; exact Nat.pow_lt_pow_right (n := 5) (by decide) hi)
theorem cm_goBack {P : Nat → Nat → Bool} {s : Nat × (Nat × Nat) × Nat} {M : Nat → Nat} {S : Mem} (hP : PB P S) (hI : MI s M S) {a b : Nat} (hab : a < b) (hb : b < 5) (hs1 : s.1 < 1000) (hs2 : s.2.1.1 < 5) : ∃ S', f_Morning_goBack (nI a) (nI b) S = some (nI (if P a b then 0 else 1), S') ∧ frQ S S' ∧ MI (lbs (fun i j => !P i j) s (a, b)) (dU (dU M a (M a ||| 2 ^ b)) b (M b ||| 2 ^ a)) S' := by
  obtain ⟨h1, h2, h3, h4⟩ := hI
  have ha4 := h4 a (by omega)
  have hb4 := h4 b (by omega)
  have hp := hP a b (by omega) hb
  have m1 := mm_orlt ha4.2 hb rfl
  have m2 := mm_orlt hb4.2 (show a < 5 by omega) rfl
  have hM : ∀ S1 : Mem, (∀ i, S1.1 46 i = (u1 (u1 S 46 a (nI (M a ||| 2 ^ b))) 46 b (nI (M b ||| 2 ^ a))).1 46 i) → ME (dU (dU M a (M a ||| 2 ^ b)) b (M b ||| 2 ^ a)) S1 := by
    intro S1 e i hi
    rw [e i]
    by_cases c : i = b
    · rw [zuS ⟨rfl, c⟩, dU_s c]; exact ⟨rfl, m2⟩
    · by_cases d : i = a
      · rw [zuN (by omega), zuS ⟨rfl, d⟩, dU_n c, dU_s d]; exact ⟨rfl, m1⟩
      · rw [zuN (by omega), zuN (by omega), dU_n c, dU_n d]; exact h4 i hi
  cases hPab : P a b
  · rw [hPab] at hp
    have hl : lbs (fun i j => !P i j) s (a, b) = (s.1 + 1, (if s.1 = 0 then (a, b) else s.2.1), s.2.2 ||| (2 ^ a ||| 2 ^ b)) := lbs_t (by simp [hPab])
    by_cases c : s.1 = 0
    · rw [if_pos c] at h2
      refine ⟨u1 (u1 (u1 (u1 (u1 (u1 S 46 a (nI (M a ||| 2 ^ b))) 46 b (nI (M b ||| 2 ^ a))) 44 a (nI 1)) 44 b (nI 1)) 40 8 (nI a)) 40 9 (nI b), ?_, ⟨fun x k q0 q1 q2 => by simp (disch := omega) only [zuS, zuN, zu2, zv1, zvS, zvN], rfl⟩, fun i hi => ?_, ?_, fun _ => ?_, ?_⟩
      · rw [f_Morning_goBack_eq]
        simp (disch := omega) only [zL0, zL1, zL2, zL3, zL4, zL5, zL6, zL7, zL8, zL9, zL10, zL12, zL20, zL30, zL31, zL32, zL44, zL48, zL49, zL50, zL56, zL59, zL60, zL61, zL64, zL65, zL97, zL99, zL100, zL101, zL102, zL103, zL104, zL111, zL119, zL126, zL255, zL512, zL617, zL65535, zL65536, zL1048576, zlt, zle, zeq, ztn, zin, zzb, zadd, zmul, zm_lt, zm_gt, zm_le, zm_ge, zm_eq, zm_eq', zm_in, if_pos, if_neg, bI_s, bJ_s, bA_s, bU_s, if_true, if_false, reduceIte, or_true, true_or, or_false, false_or, and_true, true_and, and_false, false_and, not_true_eq_false, not_false_eq_true, Nat.reduceEqDiff, Nat.zero_ne_one, Nat.one_ne_zero, zuS, zuN, zu2, zv1, zvS, zvN, zsh, zor, ha4.1, hb4.1, hp, h2, k_Morning_goBack_72_eq, Bool.false_eq_true]
      · rw [hl]
        by_cases c1 : i = b
        · subst c1
          simp (disch := omega) only [zuS, zuN, zu2, zv1, zvS, zvN, Nat.testBit_or, Nat.testBit_two_pow, decide_true, Bool.or_true, zL0, zL1, zL2, zL3, zL4, zL5, zL6, zL7, zL8, zL9, zL10, zL12, zL20, zL30, zL31, zL32, zL44, zL48, zL49, zL50, zL56, zL59, zL60, zL61, zL64, zL65, zL97, zL99, zL100, zL101, zL102, zL103, zL104, zL111, zL119, zL126, zL255, zL512, zL617, zL65535, zL65536, zL1048576, zlt, zle, zeq, ztn, zin, zzb, zadd, zmul, zm_lt, zm_gt, zm_le, zm_ge, zm_eq, zm_eq', zm_in, if_pos, if_neg, bI_s, bJ_s, bA_s, bU_s, if_true, if_false, reduceIte, or_true, true_or, or_false, false_or, and_true, true_and, and_false, false_and, not_true_eq_false, not_false_eq_true, Nat.reduceEqDiff, Nat.zero_ne_one, Nat.one_ne_zero]
        · by_cases c2 : i = a
          · subst c2
            simp (disch := omega) only [zuS, zuN, zu2, zv1, zvS, zvN, Nat.testBit_or, Nat.testBit_two_pow, decide_true, Bool.or_true, Bool.true_or, zL0, zL1, zL2, zL3, zL4, zL5, zL6, zL7, zL8, zL9, zL10, zL12, zL20, zL30, zL31, zL32, zL44, zL48, zL49, zL50, zL56, zL59, zL60, zL61, zL64, zL65, zL97, zL99, zL100, zL101, zL102, zL103, zL104, zL111, zL119, zL126, zL255, zL512, zL617, zL65535, zL65536, zL1048576, zlt, zle, zeq, ztn, zin, zzb, zadd, zmul, zm_lt, zm_gt, zm_le, zm_ge, zm_eq, zm_eq', zm_in, if_pos, if_neg, bI_s, bJ_s, bA_s, bU_s, if_true, if_false, reduceIte, or_true, true_or, or_false, false_or, and_true, true_and, and_false, false_and, not_true_eq_false, not_false_eq_true, Nat.reduceEqDiff, Nat.zero_ne_one, Nat.one_ne_zero]
          · simp (disch := omega) only [zuS, zuN, zu2, zv1, zvS, zvN, Nat.testBit_or, Nat.testBit_two_pow, decide_eq_false (show ¬ a = i by omega), decide_eq_false (show ¬ b = i by omega), Bool.or_false, h1]
      · rw [hl]
        simp (disch := omega) only [zuS, zuN, zu2, zv1, zvS, zvN, zL0, zL1, zL2, zL3, zL4, zL5, zL6, zL7, zL8, zL9, zL10, zL12, zL20, zL30, zL31, zL32, zL44, zL48, zL49, zL50, zL56, zL59, zL60, zL61, zL64, zL65, zL97, zL99, zL100, zL101, zL102, zL103, zL104, zL111, zL119, zL126, zL255, zL512, zL617, zL65535, zL65536, zL1048576, zlt, zle, zeq, ztn, zin, zzb, zadd, zmul, zm_lt, zm_gt, zm_le, zm_ge, zm_eq, zm_eq', zm_in, if_pos, if_neg, bI_s, bJ_s, bA_s, bU_s, if_true, if_false, reduceIte, or_true, true_or, or_false, false_or, and_true, true_and, and_false, false_and, not_true_eq_false, not_false_eq_true, Nat.reduceEqDiff, Nat.zero_ne_one, Nat.one_ne_zero]
      · rw [hl]
        simp (disch := omega) only [zuS, zuN, zu2, zv1, zvS, zvN, zL0, zL1, zL2, zL3, zL4, zL5, zL6, zL7, zL8, zL9, zL10, zL12, zL20, zL30, zL31, zL32, zL44, zL48, zL49, zL50, zL56, zL59, zL60, zL61, zL64, zL65, zL97, zL99, zL100, zL101, zL102, zL103, zL104, zL111, zL119, zL126, zL255, zL512, zL617, zL65535, zL65536, zL1048576, zlt, zle, zeq, ztn, zin, zzb, zadd, zmul, zm_lt, zm_gt, zm_le, zm_ge, zm_eq, zm_eq', zm_in, if_pos, if_neg, bI_s, bJ_s, bA_s, bU_s, if_true, if_false, reduceIte, or_true, true_or, or_false, false_or, and_true, true_and, and_false, false_and, not_true_eq_false, not_false_eq_true, Nat.reduceEqDiff, Nat.zero_ne_one, Nat.one_ne_zero]
      · exact hM _ (fun i => by simp (disch := omega) only [zuS, zuN, zu2, zv1, zvS, zvN])
    · rw [if_neg c] at h2
      refine ⟨u1 (u1 (u1 (u1 S 46 a (nI (M a ||| 2 ^ b))) 46 b (nI (M b ||| 2 ^ a))) 44 a (nI 1)) 44 b (nI 1), ?_, ⟨fun x k q0 q1 q2 => by simp (disch := omega) only [zuS, zuN, zu2, zv1, zvS, zvN], rfl⟩, fun i hi => ?_, ?_, fun _ => ?_, ?_⟩
      · rw [f_Morning_goBack_eq]
        simp (disch := omega) only [zL0, zL1, zL2, zL3, zL4, zL5, zL6, zL7, zL8, zL9, zL10, zL12, zL20, zL30, zL31, zL32, zL44, zL48, zL49, zL50, zL56, zL59, zL60, zL61, zL64, zL65, zL97, zL99, zL100, zL101, zL102, zL103, zL104, zL111, zL119, zL126, zL255, zL512, zL617, zL65535, zL65536, zL1048576, zlt, zle, zeq, ztn, zin, zzb, zadd, zmul, zm_lt, zm_gt, zm_le, zm_ge, zm_eq, zm_eq', zm_in, if_pos, if_neg, bI_s, bJ_s, bA_s, bU_s, if_true, if_false, reduceIte, or_true, true_or, or_false, false_or, and_true, true_and, and_false, false_and, not_true_eq_false, not_false_eq_true, Nat.reduceEqDiff, Nat.zero_ne_one, Nat.one_ne_zero, zuS, zuN, zu2, zv1, zvS, zvN, zsh, zor, ha4.1, hb4.1, hp, h2, k_Morning_goBack_72_eq, Bool.false_eq_true]
      · rw [hl]
        by_cases c1 : i = b
        · subst c1
          simp (disch := omega) only [zuS, zuN, zu2, zv1, zvS, zvN, Nat.testBit_or, Nat.testBit_two_pow, decide_true, Bool.or_true, zL0, zL1, zL2, zL3, zL4, zL5, zL6, zL7, zL8, zL9, zL10, zL12, zL20, zL30, zL31, zL32, zL44, zL48, zL49, zL50, zL56, zL59, zL60, zL61, zL64, zL65, zL97, zL99, zL100, zL101, zL102, zL103, zL104, zL111, zL119, zL126, zL255, zL512, zL617, zL65535, zL65536, zL1048576, zlt, zle, zeq, ztn, zin, zzb, zadd, zmul, zm_lt, zm_gt, zm_le, zm_ge, zm_eq, zm_eq', zm_in, if_pos, if_neg, bI_s, bJ_s, bA_s, bU_s, if_true, if_false, reduceIte, or_true, true_or, or_false, false_or, and_true, true_and, and_false, false_and, not_true_eq_false, not_false_eq_true, Nat.reduceEqDiff, Nat.zero_ne_one, Nat.one_ne_zero]
        · by_cases c2 : i = a
          · subst c2
            simp (disch := omega) only [zuS, zuN, zu2, zv1, zvS, zvN, Nat.testBit_or, Nat.testBit_two_pow, decide_true, Bool.or_true, Bool.true_or, zL0, zL1, zL2, zL3, zL4, zL5, zL6, zL7, zL8, zL9, zL10, zL12, zL20, zL30, zL31, zL32, zL44, zL48, zL49, zL50, zL56, zL59, zL60, zL61, zL64, zL65, zL97, zL99, zL100, zL101, zL102, zL103, zL104, zL111, zL119, zL126, zL255, zL512, zL617, zL65535, zL65536, zL1048576, zlt, zle, zeq, ztn, zin, zzb, zadd, zmul, zm_lt, zm_gt, zm_le, zm_ge, zm_eq, zm_eq', zm_in, if_pos, if_neg, bI_s, bJ_s, bA_s, bU_s, if_true, if_false, reduceIte, or_true, true_or, or_false, false_or, and_true, true_and, and_false, false_and, not_true_eq_false, not_false_eq_true, Nat.reduceEqDiff, Nat.zero_ne_one, Nat.one_ne_zero]
          · simp (disch := omega) only [zuS, zuN, zu2, zv1, zvS, zvN, Nat.testBit_or, Nat.testBit_two_pow, decide_eq_false (show ¬ a = i by omega), decide_eq_false (show ¬ b = i by omega), Bool.or_false, h1]
      · rw [hl]
        simp (disch := omega) only [zuS, zuN, zu2, zv1, zvS, zvN, zL0, zL1, zL2, zL3, zL4, zL5, zL6, zL7, zL8, zL9, zL10, zL12, zL20, zL30, zL31, zL32, zL44, zL48, zL49, zL50, zL56, zL59, zL60, zL61, zL64, zL65, zL97, zL99, zL100, zL101, zL102, zL103, zL104, zL111, zL119, zL126, zL255, zL512, zL617, zL65535, zL65536, zL1048576, zlt, zle, zeq, ztn, zin, zzb, zadd, zmul, zm_lt, zm_gt, zm_le, zm_ge, zm_eq, zm_eq', zm_in, if_pos, if_neg, bI_s, bJ_s, bA_s, bU_s, if_true, if_false, reduceIte, or_true, true_or, or_false, false_or, and_true, true_and, and_false, false_and, not_true_eq_false, not_false_eq_true, Nat.reduceEqDiff, Nat.zero_ne_one, Nat.one_ne_zero, h2]
      · rw [hl]
        simp (disch := omega) only [zuS, zuN, zu2, zv1, zvS, zvN, zL0, zL1, zL2, zL3, zL4, zL5, zL6, zL7, zL8, zL9, zL10, zL12, zL20, zL30, zL31, zL32, zL44, zL48, zL49, zL50, zL56, zL59, zL60, zL61, zL64, zL65, zL97, zL99, zL100, zL101, zL102, zL103, zL104, zL111, zL119, zL126, zL255, zL512, zL617, zL65535, zL65536, zL1048576, zlt, zle, zeq, ztn, zin, zzb, zadd, zmul, zm_lt, zm_gt, zm_le, zm_ge, zm_eq, zm_eq', zm_in, if_pos, if_neg, bI_s, bJ_s, bA_s, bU_s, if_true, if_false, reduceIte, or_true, true_or, or_false, false_or, and_true, true_and, and_false, false_and, not_true_eq_false, not_false_eq_true, Nat.reduceEqDiff, Nat.zero_ne_one, Nat.one_ne_zero, h3 c]
      · exact hM _ (fun i => by simp (disch := omega) only [zuS, zuN, zu2, zv1, zvS, zvN])
  · rw [hPab] at hp
    have hl : lbs (fun i j => !P i j) s (a, b) = s := lbs_f (by simp [hPab])
    refine ⟨u1 (u1 S 46 a (nI (M a ||| 2 ^ b))) 46 b (nI (M b ||| 2 ^ a)), ?_, ⟨fun x k q0 q1 q2 => by simp (disch := omega) only [zuS, zuN, zu2, zv1, zvS, zvN], rfl⟩, ?_⟩
    · rw [f_Morning_goBack_eq]
      simp (disch := omega) only [zL0, zL1, zL2, zL3, zL4, zL5, zL6, zL7, zL8, zL9, zL10, zL12, zL20, zL30, zL31, zL32, zL44, zL48, zL49, zL50, zL56, zL59, zL60, zL61, zL64, zL65, zL97, zL99, zL100, zL101, zL102, zL103, zL104, zL111, zL119, zL126, zL255, zL512, zL617, zL65535, zL65536, zL1048576, zlt, zle, zeq, ztn, zin, zzb, zadd, zmul, zm_lt, zm_gt, zm_le, zm_ge, zm_eq, zm_eq', zm_in, if_pos, if_neg, bI_s, bJ_s, bA_s, bU_s, if_true, if_false, reduceIte, or_true, true_or, or_false, false_or, and_true, true_and, and_false, false_and, not_true_eq_false, not_false_eq_true, Nat.reduceEqDiff, Nat.zero_ne_one, Nat.one_ne_zero, zuS, zuN, zu2, zv1, zvS, zvN, zsh, zor, ha4.1, hb4.1, hp]
    · rw [hl]
      refine ⟨fun i hi => ?_, ?_, fun q => ?_, hM _ (fun i => rfl)⟩
      · simp (disch := omega) only [zuS, zuN, zu2, zv1, zvS, zvN, h1]
      · simp (disch := omega) only [zuS, zuN, zu2, zv1, zvS, zvN, h2]
      · simp (disch := omega) only [zuS, zuN, zu2, zv1, zvS, zvN, h3 q]
/-- of two against one another in a lane that is not wide -/
def mx (D : DD) (c w : Nat → Nat) (i j : Nat) : Bool := decide (w i = c j) && decide (w j = c i) && nar D (c i) (c j)
section MEET
variable {D : DD} {S0 : Mem} {P : Nat → Nat → Bool} {c w : Nat → Nat}
theorem cm_in (hd : okD D) (hr : RC D S0) (hc : ∀ i, i < 5 → S0.1 41 i = nI (c i) ∧ c i < 8) (hww : ∀ i, i < 5 → S0.1 43 i = nI (w i) ∧ w i < 8) (hP : PB P S0) (a : Nat) : ∀ m b s M S, b + m = 5 → a < b → frQ S0 S → MI s M S → s.1 + m ≤ 100 → s.2.1.1 < 5 ∧ s.2.1.2 < 5 ∧ s.2.2 < 32 → ∃ S', k_Morning_meet_43 (nI s.1) (nI a) (nI b) S = k_Morning_meet_34 (nI ((ri a m b).foldl (lbs (fun i j => mx D c w i j && !P i j)) s).1) (nI (a + 1)) S' ∧ frQ S0 S' ∧ MI ((ri a m b).foldl (lbs (fun i j => mx D c w i j && !P i j)) s) ((ri a m b).foldl (mfs (mx D c w)) M) S' ∧ ((ri a m b).foldl (lbs (fun i j => mx D c w i j && !P i j)) s).1 ≤ s.1 + m := by
  intro m
  induction m with
  | zero =>
    intro b s M S hb hab hf hi ht hg
    refine ⟨S, ?_, hf, hi, by simp [ri]⟩
    rw [k_Morning_meet_43_eq]
    simp (disch := omega) only [zL0, zL1, zL2, zL3, zL4, zL5, zL6, zL7, zL8, zL9, zL10, zL12, zL20, zL30, zL31, zL32, zL44, zL48, zL49, zL50, zL56, zL59, zL60, zL61, zL64, zL65, zL97, zL99, zL100, zL101, zL102, zL103, zL104, zL111, zL119, zL126, zL255, zL512, zL617, zL65535, zL65536, zL1048576, zlt, zle, zeq, ztn, zin, zzb, zadd, zmul, zm_lt, zm_gt, zm_le, zm_ge, zm_eq, zm_eq', zm_in, if_pos, if_neg, bI_s, bJ_s, bA_s, bU_s, if_true, if_false, reduceIte, or_true, true_or, or_false, false_or, and_true, true_and, and_false, false_and, not_true_eq_false, not_false_eq_true, Nat.reduceEqDiff, Nat.zero_ne_one, Nat.one_ne_zero, ri, List.foldl_nil]
  | succ m ih =>
    intro b s M S hb hab hf hi ht hg
    have hca := hc a (by omega)
    have hcb := hc b (by omega)
    have hwa := hww a (by omega)
    have hwb := hww b (by omega)
    have r41 : ∀ k, S.1 41 k = S0.1 41 k := fun k => hf.1 _ _ (by omega) (by omega) (by omega)
    have r43 : ∀ k, S.1 43 k = S0.1 43 k := fun k => hf.1 _ _ (by omega) (by omega) (by omega)
    have hrS : RC D S := RC_f hd hr (frQ_C hf)
    have hPS : PB P S := fun i j h1 h2 => by rw [hf.1 _ _ (by omega) (by omega) (by omega)]; exact hP i j h1 h2
    have hnar := cn_isNarrow hrS hd.1 hca.2 hcb.2
    by_cases hm : mx D c w a b = true
    · obtain ⟨S1, e1, f1, i1⟩ := cm_goBack hPS hi hab (by omega) (by omega) hg.1
      have f1' : frQ S0 S1 := ⟨fun x k q0 q1 q2 => by rw [f1.1 x k q0 q1 q2, hf.1 x k q0 q1 q2], f1.2.trans hf.2⟩
      have hl : lbs (fun i j => mx D c w i j && !P i j) s (a, b) = lbs (fun i j => !P i j) s (a, b) := by
        unfold lbs
        simp [hm]
      have hmf : mfs (mx D c w) M (a, b) = dU (dU M a (M a ||| 2 ^ b)) b (M b ||| 2 ^ a) := by
        unfold mfs
        simp [hm]
      have hg1 : (lbs (fun i j => !P i j) s (a, b)).1 ≤ s.1 + 1 ∧ (lbs (fun i j => !P i j) s (a, b)).2.1.1 < 5 ∧ (lbs (fun i j => !P i j) s (a, b)).2.1.2 < 5 ∧ (lbs (fun i j => !P i j) s (a, b)).2.2 < 32 := by
        have q1 := lb_in_l (f := fun i j => !P i j) [(a, b)] s (fun i j hm => by simp at hm; omega) hg
        have q2 := lb_le_l (f := fun i j => !P i j) [(a, b)] s
        simp only [List.foldl_cons, List.foldl_nil, List.length_cons, List.length_nil] at q1 q2
        exact ⟨by omega, q1⟩
      obtain ⟨S2, e2, f2, i2, t2⟩ := ih (b + 1) (lbs (fun i j => !P i j) s (a, b)) (dU (dU M a (M a ||| 2 ^ b)) b (M b ||| 2 ^ a)) S1 (by omega) (by omega) f1' i1 (by omega) hg1.2
      refine ⟨S2, ?_, f2, ?_, ?_⟩
      · rw [ri, List.foldl_cons, hl, ← e2]
        have hm2 := hm
        unfold mx at hm2
        simp only [Bool.and_eq_true, decide_eq_true_eq] at hm2
        rw [k_Morning_meet_43_eq]
        cases hPab : P a b
        · have ht1 : (lbs (fun i j => !P i j) s (a, b)).1 = s.1 + 1 := by rw [lbs_t (by simp [hPab])]
          rw [hPab] at e1
          simp (disch := omega) only [zL0, zL1, zL2, zL3, zL4, zL5, zL6, zL7, zL8, zL9, zL10, zL12, zL20, zL30, zL31, zL32, zL44, zL48, zL49, zL50, zL56, zL59, zL60, zL61, zL64, zL65, zL97, zL99, zL100, zL101, zL102, zL103, zL104, zL111, zL119, zL126, zL255, zL512, zL617, zL65535, zL65536, zL1048576, zlt, zle, zeq, ztn, zin, zzb, zadd, zmul, zm_lt, zm_gt, zm_le, zm_ge, zm_eq, zm_eq', zm_in, if_pos, if_neg, bI_s, bJ_s, bA_s, bU_s, if_true, if_false, reduceIte, or_true, true_or, or_false, false_or, and_true, true_and, and_false, false_and, not_true_eq_false, not_false_eq_true, Nat.reduceEqDiff, Nat.zero_ne_one, Nat.one_ne_zero, r41, r43, hca.1, hcb.1, hwa.1, hwb.1, hm2.1.1, hm2.1.2, k_Morning_meet_83_eq, k_Morning_meet_125_eq, hnar, hm2.2, e1, ht1, Bool.false_eq_true]
        · have ht1 : (lbs (fun i j => !P i j) s (a, b)).1 = s.1 := by rw [lbs_f (by simp [hPab])]
          rw [hPab] at e1
          simp (disch := omega) only [zL0, zL1, zL2, zL3, zL4, zL5, zL6, zL7, zL8, zL9, zL10, zL12, zL20, zL30, zL31, zL32, zL44, zL48, zL49, zL50, zL56, zL59, zL60, zL61, zL64, zL65, zL97, zL99, zL100, zL101, zL102, zL103, zL104, zL111, zL119, zL126, zL255, zL512, zL617, zL65535, zL65536, zL1048576, zlt, zle, zeq, ztn, zin, zzb, zadd, zmul, zm_lt, zm_gt, zm_le, zm_ge, zm_eq, zm_eq', zm_in, if_pos, if_neg, bI_s, bJ_s, bA_s, bU_s, if_true, if_false, reduceIte, or_true, true_or, or_false, false_or, and_true, true_and, and_false, false_and, not_true_eq_false, not_false_eq_true, Nat.reduceEqDiff, Nat.zero_ne_one, Nat.one_ne_zero, r41, r43, hca.1, hcb.1, hwa.1, hwb.1, hm2.1.1, hm2.1.2, k_Morning_meet_83_eq, k_Morning_meet_125_eq, hnar, hm2.2, e1, ht1, Bool.false_eq_true]
      · rw [ri, List.foldl_cons, List.foldl_cons, hl, hmf]; exact i2
      · rw [ri, List.foldl_cons, hl]; omega
    · have hmF : mx D c w a b = false := by simpa using hm
      have hl : lbs (fun i j => mx D c w i j && !P i j) s (a, b) = s := by
        unfold lbs
        simp [hmF]
      have hmf : mfs (mx D c w) M (a, b) = M := by
        unfold mfs
        simp [hmF]
      obtain ⟨S2, e2, f2, i2, t2⟩ := ih (b + 1) s M S (by omega) (by omega) hf hi (by omega) hg
      refine ⟨S2, ?_, f2, ?_, ?_⟩
      · rw [ri, List.foldl_cons, hl, ← e2, k_Morning_meet_43_eq]
        by_cases c1 : w a = c b
        · by_cases c2 : w b = c a
          · have hn : nar D (c a) (c b) = false := by
              unfold mx at hmF
              simpa [c1, c2] using hmF
            simp (disch := omega) only [zL0, zL1, zL2, zL3, zL4, zL5, zL6, zL7, zL8, zL9, zL10, zL12, zL20, zL30, zL31, zL32, zL44, zL48, zL49, zL50, zL56, zL59, zL60, zL61, zL64, zL65, zL97, zL99, zL100, zL101, zL102, zL103, zL104, zL111, zL119, zL126, zL255, zL512, zL617, zL65535, zL65536, zL1048576, zlt, zle, zeq, ztn, zin, zzb, zadd, zmul, zm_lt, zm_gt, zm_le, zm_ge, zm_eq, zm_eq', zm_in, if_pos, if_neg, bI_s, bJ_s, bA_s, bU_s, if_true, if_false, reduceIte, or_true, true_or, or_false, false_or, and_true, true_and, and_false, false_and, not_true_eq_false, not_false_eq_true, Nat.reduceEqDiff, Nat.zero_ne_one, Nat.one_ne_zero, r41, r43, hca.1, hcb.1, hwa.1, hwb.1, c1, c2, k_Morning_meet_83_eq, k_Morning_meet_82_eq, k_Morning_meet_125_eq, hnar, hn, Bool.false_eq_true]
          · simp (disch := omega) only [zL0, zL1, zL2, zL3, zL4, zL5, zL6, zL7, zL8, zL9, zL10, zL12, zL20, zL30, zL31, zL32, zL44, zL48, zL49, zL50, zL56, zL59, zL60, zL61, zL64, zL65, zL97, zL99, zL100, zL101, zL102, zL103, zL104, zL111, zL119, zL126, zL255, zL512, zL617, zL65535, zL65536, zL1048576, zlt, zle, zeq, ztn, zin, zzb, zadd, zmul, zm_lt, zm_gt, zm_le, zm_ge, zm_eq, zm_eq', zm_in, if_pos, if_neg, bI_s, bJ_s, bA_s, bU_s, if_true, if_false, reduceIte, or_true, true_or, or_false, false_or, and_true, true_and, and_false, false_and, not_true_eq_false, not_false_eq_true, Nat.reduceEqDiff, Nat.zero_ne_one, Nat.one_ne_zero, r41, r43, hca.1, hcb.1, hwa.1, hwb.1, k_Morning_meet_83_eq, k_Morning_meet_82_eq, k_Morning_meet_125_eq]
        · simp (disch := omega) only [zL0, zL1, zL2, zL3, zL4, zL5, zL6, zL7, zL8, zL9, zL10, zL12, zL20, zL30, zL31, zL32, zL44, zL48, zL49, zL50, zL56, zL59, zL60, zL61, zL64, zL65, zL97, zL99, zL100, zL101, zL102, zL103, zL104, zL111, zL119, zL126, zL255, zL512, zL617, zL65535, zL65536, zL1048576, zlt, zle, zeq, ztn, zin, zzb, zadd, zmul, zm_lt, zm_gt, zm_le, zm_ge, zm_eq, zm_eq', zm_in, if_pos, if_neg, bI_s, bJ_s, bA_s, bU_s, if_true, if_false, reduceIte, or_true, true_or, or_false, false_or, and_true, true_and, and_false, false_and, not_true_eq_false, not_false_eq_true, Nat.reduceEqDiff, Nat.zero_ne_one, Nat.one_ne_zero, r41, r43, hca.1, hcb.1, hwa.1, hwb.1, k_Morning_meet_83_eq, k_Morning_meet_82_eq, k_Morning_meet_125_eq]
      · rw [ri, List.foldl_cons, List.foldl_cons, hl, hmf]; exact i2
      · rw [ri, List.foldl_cons, hl]; omega
theorem cm_out (hd : okD D) (hr : RC D S0) (hc : ∀ i, i < 5 → S0.1 41 i = nI (c i) ∧ c i < 8) (hww : ∀ i, i < 5 → S0.1 43 i = nI (w i) ∧ w i < 8) (hP : PB P S0) : ∀ m a s M S, a + m = 5 → frQ S0 S → MI s M S → s.1 + 10 * m ≤ 100 → s.2.1.1 < 5 ∧ s.2.1.2 < 5 ∧ s.2.2 < 32 → ∃ S', k_Morning_meet_34 (nI s.1) (nI a) S = some (nI ((ro m a).foldl (lbs (fun i j => mx D c w i j && !P i j)) s).1, S') ∧ frQ S0 S' ∧ MI ((ro m a).foldl (lbs (fun i j => mx D c w i j && !P i j)) s) ((ro m a).foldl (mfs (mx D c w)) M) S' := by
  intro m
  induction m with
  | zero =>
    intro a s M S ha hf hi ht hg
    refine ⟨S, ?_, hf, hi⟩
    rw [k_Morning_meet_34_eq]
    simp (disch := omega) only [zL0, zL1, zL2, zL3, zL4, zL5, zL6, zL7, zL8, zL9, zL10, zL12, zL20, zL30, zL31, zL32, zL44, zL48, zL49, zL50, zL56, zL59, zL60, zL61, zL64, zL65, zL97, zL99, zL100, zL101, zL102, zL103, zL104, zL111, zL119, zL126, zL255, zL512, zL617, zL65535, zL65536, zL1048576, zlt, zle, zeq, ztn, zin, zzb, zadd, zmul, zm_lt, zm_gt, zm_le, zm_ge, zm_eq, zm_eq', zm_in, if_pos, if_neg, bI_s, bJ_s, bA_s, bU_s, if_true, if_false, reduceIte, or_true, true_or, or_false, false_or, and_true, true_and, and_false, false_and, not_true_eq_false, not_false_eq_true, Nat.reduceEqDiff, Nat.zero_ne_one, Nat.one_ne_zero, ro, List.foldl_nil]
  | succ m ih =>
    intro a s M S ha hf hi ht hg
    obtain ⟨S1, e1, f1, i1, t1⟩ := cm_in hd hr hc hww hP a m (a + 1) s M S (by omega) (by omega) hf hi (by omega) hg
    have g1 := lb_in_l (f := fun i j => mx D c w i j && !P i j) (ri a m (a + 1)) s (fun i j hm => by have := ri_mem.mp hm; omega) hg
    obtain ⟨S2, e2, f2, i2⟩ := ih (a + 1) _ _ S1 (by omega) f1 i1 (by omega) g1
    refine ⟨S2, ?_, f2, ?_⟩
    · rw [ro, List.foldl_append, ← e2, ← e1, k_Morning_meet_34_eq]
      simp (disch := omega) only [zL0, zL1, zL2, zL3, zL4, zL5, zL6, zL7, zL8, zL9, zL10, zL12, zL20, zL30, zL31, zL32, zL44, zL48, zL49, zL50, zL56, zL59, zL60, zL61, zL64, zL65, zL97, zL99, zL100, zL101, zL102, zL103, zL104, zL111, zL119, zL126, zL255, zL512, zL617, zL65535, zL65536, zL1048576, zlt, zle, zeq, ztn, zin, zzb, zadd, zmul, zm_lt, zm_gt, zm_le, zm_ge, zm_eq, zm_eq', zm_in, if_pos, if_neg, bI_s, bJ_s, bA_s, bU_s, if_true, if_false, reduceIte, or_true, true_or, or_false, false_or, and_true, true_and, and_false, false_and, not_true_eq_false, not_false_eq_true, Nat.reduceEqDiff, Nat.zero_ne_one, Nat.one_ne_zero]
    · rw [ro, List.foldl_append, List.foldl_append]; exact i2
theorem cm_meet (hd : okD D) (hr : RC D S0) (hc : ∀ i, i < 5 → S0.1 41 i = nI (c i) ∧ c i < 8) (hww : ∀ i, i < 5 → S0.1 43 i = nI (w i) ∧ w i < 8) (hP : PB P S0) {M : Nat → Nat} (hM : ME M S0) : ∃ S', f_Morning_meet S0 = some (nI (lb (fun i j => mx D c w i j && !P i j) 5).1, S') ∧ frQ S0 S' ∧ MI (lb (fun i j => mx D c w i j && !P i j) 5) ((ro 5 0).foldl (mfs (mx D c w)) M) S' := by
  obtain ⟨S1, e1, f1, z1⟩ := zfor (fun i S => k_Morning_meet_14 (nI 0) (nI i) S) 5 (fun i S1 => ((∀ x k, x ≠ 44 → S1.1 x k = (u1 (u1 S0 40 8 (-nI 1)) 40 9 (-nI 1)).1 x k) ∧ S1.2 = S0.2) ∧ ∀ j, j < i → S1.1 44 j = nI 0) (by
    intro i S1 hi ⟨f1, z1⟩
    refine ⟨u1 S1 44 i (nI 0), ?_, ⟨fun x k q => by rw [zuN (by omega), f1.1 x k q], f1.2⟩, fun j hj => ?_⟩
    · rw [k_Morning_meet_14_eq]
      simp (disch := omega) only [zL0, zL1, zL2, zL3, zL4, zL5, zL6, zL7, zL8, zL9, zL10, zL12, zL20, zL30, zL31, zL32, zL44, zL48, zL49, zL50, zL56, zL59, zL60, zL61, zL64, zL65, zL97, zL99, zL100, zL101, zL102, zL103, zL104, zL111, zL119, zL126, zL255, zL512, zL617, zL65535, zL65536, zL1048576, zlt, zle, zeq, ztn, zin, zzb, zadd, zmul, zm_lt, zm_gt, zm_le, zm_ge, zm_eq, zm_eq', zm_in, if_pos, if_neg, bI_s, bJ_s, bA_s, bU_s, if_true, if_false, reduceIte, or_true, true_or, or_false, false_or, and_true, true_and, and_false, false_and, not_true_eq_false, not_false_eq_true, Nat.reduceEqDiff, Nat.zero_ne_one, Nat.one_ne_zero]
    · by_cases e : j = i
      · rw [zuS ⟨rfl, e⟩]
      · rw [zuN (by omega), z1 j (by omega)]) 5 0 (u1 (u1 S0 40 8 (-nI 1)) 40 9 (-nI 1)) (by omega) ⟨⟨fun _ _ _ => rfl, rfl⟩, fun _ _ => by omega⟩
  have fq : frQ S0 S1 := ⟨fun x k q0 q1 q2 => by rw [f1.1 x k q1]; simp (disch := omega) only [zuS, zuN, zu2, zv1, zvS, zvN], f1.2⟩
  obtain ⟨S2, e2, f2, i2⟩ := cm_out hd hr hc hww hP 5 0 (0, (0, 0), 0) M S1 (by omega) fq ⟨fun i hi => by rw [z1 i hi]; simp, by rw [f1.1 _ _ (by omega)]; simp (disch := omega) only [zuS, zuN, zu2, zv1, zvS, zvN, zL0, zL1, zL2, zL3, zL4, zL5, zL6, zL7, zL8, zL9, zL10, zL12, zL20, zL30, zL31, zL32, zL44, zL48, zL49, zL50, zL56, zL59, zL60, zL61, zL64, zL65, zL97, zL99, zL100, zL101, zL102, zL103, zL104, zL111, zL119, zL126, zL255, zL512, zL617, zL65535, zL65536, zL1048576, zlt, zle, zeq, ztn, zin, zzb, zadd, zmul, zm_lt, zm_gt, zm_le, zm_ge, zm_eq, zm_eq', zm_in, if_pos, if_neg, bI_s, bJ_s, bA_s, bU_s, if_true, if_false, reduceIte, or_true, true_or, or_false, false_or, and_true, true_and, and_false, false_and, not_true_eq_false, not_false_eq_true, Nat.reduceEqDiff, Nat.zero_ne_one, Nat.one_ne_zero], fun q => absurd rfl q, fun i hi => by rw [f1.1 _ _ (by omega)]; simp (disch := omega) only [zuS, zuN, zu2, zv1, zvS, zvN]; exact hM i hi⟩ (by dsimp only; omega) (by dsimp only; omega)
  refine ⟨S2, ?_, f2, i2⟩
  rw [f_Morning_meet_eq, zL0, zL1, e1, k_Morning_meet_14_eq]
  simp (disch := omega) only [zL0, zL1, zL2, zL3, zL4, zL5, zL6, zL7, zL8, zL9, zL10, zL12, zL20, zL30, zL31, zL32, zL44, zL48, zL49, zL50, zL56, zL59, zL60, zL61, zL64, zL65, zL97, zL99, zL100, zL101, zL102, zL103, zL104, zL111, zL119, zL126, zL255, zL512, zL617, zL65535, zL65536, zL1048576, zlt, zle, zeq, ztn, zin, zzb, zadd, zmul, zm_lt, zm_gt, zm_le, zm_ge, zm_eq, zm_eq', zm_in, if_pos, if_neg, bI_s, bJ_s, bA_s, bU_s, if_true, if_false, reduceIte, or_true, true_or, or_false, false_or, and_true, true_and, and_false, false_and, not_true_eq_false, not_false_eq_true, Nat.reduceEqDiff, Nat.zero_ne_one, Nat.one_ne_zero]
  exact e2
end MEET
