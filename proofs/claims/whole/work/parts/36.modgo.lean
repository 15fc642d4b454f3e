/-! the model's minutes, one behind another -/
theorem gmk_step (D : DD) (g : Nat) (w : Nat → Nat) (n : Nat) (c : g.testBit n = false) : gmk D g w (n + 1) = dS (dS (gmk D g w n) 65 (dU (gmk D g w n 65) n (if D 65 n < D 64 n then D 65 n + 1 else D 65 n))) 60 (dU (dS (gmk D g w n) 65 (dU (gmk D g w n 65) n (if D 65 n < D 64 n then D 65 n + 1 else D 65 n)) 60) n (w n)) := by
  funext a i
  unfold gmk
  by_cases h0 : a = 60
  · subst h0
    simp only [dS_s]
    by_cases hi : i = n
    · rw [dU_s hi, hi, if_pos ⟨by omega, c⟩]
    · rw [dU_n hi, dS_n (by omega), dS_s]
      by_cases hj : i < n
      · by_cases hg : g.testBit i = false
        · rw [if_pos ⟨by omega, hg⟩, if_pos ⟨hj, hg⟩]
        · rw [if_neg (fun q => hg q.2), if_neg (fun q => hg q.2)]
      · rw [if_neg (fun q => by omega), if_neg (fun q => by omega)]
  · rw [dS_n h0, dS_n h0]
    by_cases h5 : a = 65
    · subst h5
      simp only [dS_s]
      by_cases hi : i = n
      · rw [dU_s hi, hi]
        by_cases hd : D 65 n < D 64 n
        · rw [if_pos ⟨by omega, c, hd⟩, if_pos hd]
        · rw [if_neg (fun q => hd q.2.2), if_neg hd]
      · rw [dU_n hi, dS_n h0, dS_s]
        by_cases hj : i < n
        · by_cases hg : g.testBit i = false ∧ D 65 i < D 64 i
          · rw [if_pos ⟨by omega, hg⟩, if_pos ⟨hj, hg⟩]
          · rw [if_neg (fun q => hg q.2), if_neg (fun q => hg q.2)]
        · rw [if_neg (fun q => by omega), if_neg (fun q => by omega)]
    · rw [dS_n h5, dS_n h5, dS_n h0, dS_n h5]
theorem gmk_skip (D : DD) (g : Nat) (w : Nat → Nat) (n : Nat) (c : ¬ g.testBit n = false) : gmk D g w (n + 1) = gmk D g w n := by
  funext a i
  unfold gmk
  by_cases h0 : a = 60
  · subst h0
    simp only [dS_s]
    by_cases hi : i = n
    · subst hi; rw [if_neg (fun q => c q.2), if_neg (fun q => c q.2)]
    · by_cases hg : i < n ∧ g.testBit i = false
      · rw [if_pos ⟨by omega, hg.2⟩, if_pos hg]
      · rw [if_neg (fun q => hg ⟨by omega, q.2⟩), if_neg hg]
  · rw [dS_n h0, dS_n h0]
    by_cases h5 : a = 65
    · subst h5
      simp only [dS_s]
      by_cases hi : i = n
      · subst hi; rw [if_neg (fun q => c q.2.1), if_neg (fun q => c q.2.1)]
      · by_cases hg : i < n ∧ g.testBit i = false ∧ D 65 i < D 64 i
        · rw [if_pos ⟨by omega, hg.2⟩, if_pos hg]
        · rw [if_neg (fun q => hg ⟨by omega, q.2⟩), if_neg hg]
    · rw [dS_n h5, dS_n h5]
theorem gmk_row {D : DD} {g : Nat} {w : Nat → Nat} {n a : Nat} (h0 : ¬ a = 60) (h5 : ¬ a = 65) : gmk D g w n a = D a := by
  unfold gmk
  rw [dS_n h0, dS_n h5]
theorem gmk_60 {D : DD} {g : Nat} {w : Nat → Nat} {n i : Nat} (h : n ≤ i) : gmk D g w n 60 i = D 60 i := if_neg (fun q => by omega)
theorem gmk_65 {D : DD} {g : Nat} {w : Nat → Nat} {n i : Nat} (h : n ≤ i) : gmk D g w n 65 i = D 65 i := if_neg (fun q => by omega)
theorem gmk_0 (D : DD) (g : Nat) (w : Nat → Nat) : gmk D g w 0 = D := by
  funext a i
  by_cases h0 : a = 60
  · subst h0; exact gmk_60 (by omega)
  · by_cases h5 : a = 65
    · subst h5; exact gmk_65 (by omega)
    · rw [gmk_row h0 h5]
/-- cells that a minute of the model does not touch -/
def frG (S S' : Mem) : Prop := (∀ a k, ¬ (a = 55 ∧ (k = 29 ∨ k = 30 ∨ k = 31)) → a ≠ 60 → a ≠ 65 → a ≠ 71 → S'.1 a k = S.1 a k) ∧ S'.2 = S.2
theorem frG_r (S : Mem) : frG S S := ⟨fun _ _ _ _ _ _ => rfl, rfl⟩
theorem frG_t {S S' S'' : Mem} (h : frG S S') (h2 : frG S' S'') : frG S S'' := ⟨fun a k q0 q1 q2 q3 => by rw [h2.1 a k q0 q1 q2 q3, h.1 a k q0 q1 q2 q3], h2.2.trans h.2⟩
theorem mo_goMinute {D : DD} {S : Mem} (h : RM D S) (hn : okN D) (hw : okW D) : ∃ S', f_Mod_goMinute S = some (nI (lay D (mp D) (wn D)).1, S') ∧ RM (go D (mp D)) S' ∧ frG S S' ∧ LI (lay D (mp D) (wn D)) S' := by
  have w5 := hw.1
  -- what each wants
  obtain ⟨S1, e1, f1, q1⟩ := zfor (fun i S => k_Mod_goMinute_2 (nI i) S) (D 55 7) (fun i S1 => ((∀ a k, a ≠ 71 → S1.1 a k = S.1 a k) ∧ S1.2 = S.2) ∧ ∀ j, j < i → S1.1 71 j = nI (wn D j)) (by
    intro i S1 hi ⟨f1, q1⟩
    have hm : RM D S1 := RM_fr h (fun a k q => f1.1 a k (by omega))
    have wi := hw.2 i hi
    refine ⟨u1 S1 71 i (nI (wn D i)), ?_, ⟨fun a k q => ?_, f1.2⟩, fun j hj => ?_⟩
    · rw [k_Mod_goMinute_2_eq]
      unfold wn
      by_cases c : D 65 i < D 64 i
      · have := wi.2.2.2.2.2.2.1 _ c
        simp (disch := omega) only [mo_wanted hm hw hi, k_Mod_goMinute_38_eq, hm.r, zL0, zL1, zL2, zL3, zL4, zL5, zL6, zL7, zL8, zL9, zL10, zL12, zL20, zL30, zL31, zL32, zL44, zL48, zL49, zL50, zL56, zL59, zL60, zL61, zL64, zL65, zL97, zL99, zL100, zL101, zL102, zL103, zL104, zL111, zL119, zL126, zL255, zL512, zL617, zL65535, zL65536, zL1048576, zlt, zle, zeq, ztn, zin, zzb, zadd, zmul, zm_lt, zm_gt, zm_le, zm_ge, zm_eq, zm_eq', zm_in, if_pos, if_neg, bI_s, bJ_s, bA_s, bU_s, if_true, if_false, reduceIte, or_true, true_or, or_false, false_or, and_true, true_and, and_false, false_and, not_true_eq_false, not_false_eq_true, Nat.reduceEqDiff, Nat.zero_ne_one, Nat.one_ne_zero]
      · simp (disch := omega) only [mo_wanted hm hw hi, k_Mod_goMinute_38_eq, hm.r, zL0, zL1, zL2, zL3, zL4, zL5, zL6, zL7, zL8, zL9, zL10, zL12, zL20, zL30, zL31, zL32, zL44, zL48, zL49, zL50, zL56, zL59, zL60, zL61, zL64, zL65, zL97, zL99, zL100, zL101, zL102, zL103, zL104, zL111, zL119, zL126, zL255, zL512, zL617, zL65535, zL65536, zL1048576, zlt, zle, zeq, ztn, zin, zzb, zadd, zmul, zm_lt, zm_gt, zm_le, zm_ge, zm_eq, zm_eq', zm_in, if_pos, if_neg, bI_s, bJ_s, bA_s, bU_s, if_true, if_false, reduceIte, or_true, true_or, or_false, false_or, and_true, true_and, and_false, false_and, not_true_eq_false, not_false_eq_true, Nat.reduceEqDiff, Nat.zero_ne_one, Nat.one_ne_zero]
    · rw [zuN (by omega), f1.1 a k q]
    · by_cases hj2 : j = i
      · rw [zuS ⟨rfl, hj2⟩, hj2]
      · rw [zuN (by omega), q1 j (by omega)]) (D 55 7) 0 S (by omega) ⟨⟨fun _ _ _ => rfl, rfl⟩, fun j hj => by omega⟩
  have hm1 : RM D S1 := RM_fr h (fun a k q => f1.1 a k (by omega))
  obtain ⟨S2, e2, f2, l2⟩ := mo_layBack hm1 hn hw (w := wn D) q1 (fun i hi => wn_stp hw hi)
  have hm2 : RM D S2 := RM_L hm1 f2
  have hg := lb_in (f := cl D (mp D) (wn D)) w5
  obtain ⟨g, hgg⟩ : ∃ g, g = (lay D (mp D) (wn D)).2.2 := ⟨_, rfl⟩
  have hg32 : g < 32 := by rw [hgg]; exact hg.2.2
  have lg := l2.1
  rw [← hgg] at lg
  obtain ⟨t, ht⟩ : ∃ t, t = (lay D (mp D) (wn D)).1 := ⟨_, rfl⟩
  -- who goes
  obtain ⟨S3, e3, m3, f3⟩ := zfor (fun i S => k_Mod_goMinute_52 (nI t) (nI i) S) (D 55 7) (fun i S3 => RM (gmk D g (wn D) i) S3 ∧ ((∀ a k, a ≠ 60 → a ≠ 65 → S3.1 a k = S2.1 a k) ∧ S3.2 = S2.2)) (by
    intro i S3 hi ⟨m3, f3⟩
    have wi := hw.2 i hi
    have lg3 : S3.1 55 29 = nI g := by rw [f3.1 _ _ (by omega) (by omega), lg]
    have q3 : S3.1 71 i = nI (wn D i) := by rw [f3.1 _ _ (by omega) (by omega), f2.1 _ _ (by omega), q1 i hi]
    have w3 : f_Mod_wanted (nI i) S3 = some (if D 65 i < D 64 i then nI (D 63 (20 * i + D 65 i)) else -nI 1, S3) := by
      have k1 := m3.r 64 i (by omega)
      have k2 := m3.r 65 i (by omega)
      have k3 := m3.r 63 (20 * i + D 65 i) (by omega)
      rw [gmk_row (by omega) (by omega)] at k1 k3
      rw [gmk_65 (by omega)] at k2
      rw [f_Mod_wanted_eq]
      by_cases c : D 65 i < D 64 i
      · have := wi.2.2.2.2.2.2.1 _ c
        simp (disch := omega) only [k_Mod_wanted_35_eq, k1, k2, k3, zL0, zL1, zL2, zL3, zL4, zL5, zL6, zL7, zL8, zL9, zL10, zL12, zL20, zL30, zL31, zL32, zL44, zL48, zL49, zL50, zL56, zL59, zL60, zL61, zL64, zL65, zL97, zL99, zL100, zL101, zL102, zL103, zL104, zL111, zL119, zL126, zL255, zL512, zL617, zL65535, zL65536, zL1048576, zlt, zle, zeq, ztn, zin, zzb, zadd, zmul, zm_lt, zm_gt, zm_le, zm_ge, zm_eq, zm_eq', zm_in, if_pos, if_neg, bI_s, bJ_s, bA_s, bU_s, if_true, if_false, reduceIte, or_true, true_or, or_false, false_or, and_true, true_and, and_false, false_and, not_true_eq_false, not_false_eq_true, Nat.reduceEqDiff, Nat.zero_ne_one, Nat.one_ne_zero]
      · simp (disch := omega) only [k_Mod_wanted_35_eq, k1, k2, zL0, zL1, zL2, zL3, zL4, zL5, zL6, zL7, zL8, zL9, zL10, zL12, zL20, zL30, zL31, zL32, zL44, zL48, zL49, zL50, zL56, zL59, zL60, zL61, zL64, zL65, zL97, zL99, zL100, zL101, zL102, zL103, zL104, zL111, zL119, zL126, zL255, zL512, zL617, zL65535, zL65536, zL1048576, zlt, zle, zeq, ztn, zin, zzb, zadd, zmul, zm_lt, zm_gt, zm_le, zm_ge, zm_eq, zm_eq', zm_in, if_pos, if_neg, bI_s, bJ_s, bA_s, bU_s, if_true, if_false, reduceIte, or_true, true_or, or_false, false_or, and_true, true_and, and_false, false_and, not_true_eq_false, not_false_eq_true, Nat.reduceEqDiff, Nat.zero_ne_one, Nat.one_ne_zero]
    have k2 := m3.r 65 i (by omega)
    have k7 := m3.r 55 7 (by omega)
    rw [gmk_65 (by omega)] at k2
    rw [gmk_row (by omega) (by omega)] at k7
    by_cases c : g.testBit i = false
    · refine ⟨u1 (u1 S3 65 i (nI (if D 65 i < D 64 i then D 65 i + 1 else D 65 i))) 60 i (nI (wn D i)), ?_, ?_, fun a k a0 a5 => ?_, f3.2⟩
      · rw [k_Mod_goMinute_52_eq]
        by_cases d : D 65 i < D 64 i
        · have := wi.2.2.2.2.2.2.1 _ d
          simp (disch := omega) only [k7, lg3, mo_has, c, w3, k2, q3, k_Mod_goMinute_92_eq, k_Mod_goMinute_106_eq, zL0, zL1, zL2, zL3, zL4, zL5, zL6, zL7, zL8, zL9, zL10, zL12, zL20, zL30, zL31, zL32, zL44, zL48, zL49, zL50, zL56, zL59, zL60, zL61, zL64, zL65, zL97, zL99, zL100, zL101, zL102, zL103, zL104, zL111, zL119, zL126, zL255, zL512, zL617, zL65535, zL65536, zL1048576, zlt, zle, zeq, ztn, zin, zzb, zadd, zmul, zm_lt, zm_gt, zm_le, zm_ge, zm_eq, zm_eq', zm_in, if_pos, if_neg, bI_s, bJ_s, bA_s, bU_s, if_true, if_false, reduceIte, or_true, true_or, or_false, false_or, and_true, true_and, and_false, false_and, not_true_eq_false, not_false_eq_true, Nat.reduceEqDiff, Nat.zero_ne_one, Nat.one_ne_zero, zuS, zuN, zu2, zv1, zvS, zvN, Bool.false_eq_true]
        · simp (disch := omega) only [k7, lg3, mo_has, c, w3, k2, q3, k_Mod_goMinute_92_eq, k_Mod_goMinute_106_eq, zL0, zL1, zL2, zL3, zL4, zL5, zL6, zL7, zL8, zL9, zL10, zL12, zL20, zL30, zL31, zL32, zL44, zL48, zL49, zL50, zL56, zL59, zL60, zL61, zL64, zL65, zL97, zL99, zL100, zL101, zL102, zL103, zL104, zL111, zL119, zL126, zL255, zL512, zL617, zL65535, zL65536, zL1048576, zlt, zle, zeq, ztn, zin, zzb, zadd, zmul, zm_lt, zm_gt, zm_le, zm_ge, zm_eq, zm_eq', zm_in, if_pos, if_neg, bI_s, bJ_s, bA_s, bU_s, if_true, if_false, reduceIte, or_true, true_or, or_false, false_or, and_true, true_and, and_false, false_and, not_true_eq_false, not_false_eq_true, Nat.reduceEqDiff, Nat.zero_ne_one, Nat.one_ne_zero, zuS, zuN, zu2, zv1, zvS, zvN, Bool.false_eq_true, Nat.add_zero]
      · rw [gmk_step D g (wn D) i c]
        exact RM_u1 (RM_u1 m3)
      · rw [zuN (by omega), zuN (by omega), f3.1 a k a0 a5]
    · have c' : g.testBit i = true := by simpa using c
      refine ⟨S3, ?_, ?_, f3⟩
      · rw [k_Mod_goMinute_52_eq]
        simp (disch := omega) only [k7, lg3, mo_has, c', k_Mod_goMinute_106_eq, zL0, zL1, zL2, zL3, zL4, zL5, zL6, zL7, zL8, zL9, zL10, zL12, zL20, zL30, zL31, zL32, zL44, zL48, zL49, zL50, zL56, zL59, zL60, zL61, zL64, zL65, zL97, zL99, zL100, zL101, zL102, zL103, zL104, zL111, zL119, zL126, zL255, zL512, zL617, zL65535, zL65536, zL1048576, zlt, zle, zeq, ztn, zin, zzb, zadd, zmul, zm_lt, zm_gt, zm_le, zm_ge, zm_eq, zm_eq', zm_in, if_pos, if_neg, bI_s, bJ_s, bA_s, bU_s, if_true, if_false, reduceIte, or_true, true_or, or_false, false_or, and_true, true_and, and_false, false_and, not_true_eq_false, not_false_eq_true, Nat.reduceEqDiff, Nat.zero_ne_one, Nat.one_ne_zero]
      · rw [gmk_skip D g (wn D) i c]
        exact m3) (D 55 7) 0 S2 (by omega) ⟨by rw [gmk_0]; exact hm2, fun _ _ _ _ => rfl, rfl⟩
  have k7 := m3.r 55 7 (by omega)
  rw [gmk_row (by omega) (by omega)] at k7
  have k71 := hm1.r 55 7 (by omega)
  refine ⟨S3, ?_, ?_, ⟨fun a k q0 q1 q2 q3 => ?_, ?_⟩, ?_, fun q => ?_⟩
  · rw [f_Mod_goMinute_eq, zL0, e1, k_Mod_goMinute_2_eq]
    simp (disch := omega) only [k71, e2, zL0, zL1, zL2, zL3, zL4, zL5, zL6, zL7, zL8, zL9, zL10, zL12, zL20, zL30, zL31, zL32, zL44, zL48, zL49, zL50, zL56, zL59, zL60, zL61, zL64, zL65, zL97, zL99, zL100, zL101, zL102, zL103, zL104, zL111, zL119, zL126, zL255, zL512, zL617, zL65535, zL65536, zL1048576, zlt, zle, zeq, ztn, zin, zzb, zadd, zmul, zm_lt, zm_gt, zm_le, zm_ge, zm_eq, zm_eq', zm_in, if_pos, if_neg, bI_s, bJ_s, bA_s, bU_s, if_true, if_false, reduceIte, or_true, true_or, or_false, false_or, and_true, true_and, and_false, false_and, not_true_eq_false, not_false_eq_true, Nat.reduceEqDiff, Nat.zero_ne_one, Nat.one_ne_zero, ← ht, e3]
    rw [k_Mod_goMinute_52_eq]
    simp (disch := omega) only [k7, zL0, zL1, zL2, zL3, zL4, zL5, zL6, zL7, zL8, zL9, zL10, zL12, zL20, zL30, zL31, zL32, zL44, zL48, zL49, zL50, zL56, zL59, zL60, zL61, zL64, zL65, zL97, zL99, zL100, zL101, zL102, zL103, zL104, zL111, zL119, zL126, zL255, zL512, zL617, zL65535, zL65536, zL1048576, zlt, zle, zeq, ztn, zin, zzb, zadd, zmul, zm_lt, zm_gt, zm_le, zm_ge, zm_eq, zm_eq', zm_in, if_pos, if_neg, bI_s, bJ_s, bA_s, bU_s, if_true, if_false, reduceIte, or_true, true_or, or_false, false_or, and_true, true_and, and_false, false_and, not_true_eq_false, not_false_eq_true, Nat.reduceEqDiff, Nat.zero_ne_one, Nat.one_ne_zero]
  · unfold go gm
    rw [← hgg]
    exact m3
  · rw [f3.1 a k q1 q2, f2.1 a k q0, f1.1 a k q3]
  · rw [f3.2, f2.2, f1.2]
  · rw [f3.1 _ _ (by omega) (by omega)]; exact l2.1
  · rw [f3.1 _ _ (by omega) (by omega), f3.1 _ _ (by omega) (by omega)]; exact l2.2 q
theorem mo_isAnyLeft {D : DD} {S : Mem} (h : RM D S) (hw : okW D) : f_Mod_isAnyLeft S = some (nI (if ov D then 0 else 1), S) := by
  have w5 := hw.1
  obtain ⟨t, S1, e1, h1, h2⟩ := zforT (τ := Nat) (fun i t S => k_Mod_isAnyLeft_4 (nI t) (nI i) S) (D 55 7) (fun i t S1 => S1 = S ∧ t = if ovk D i then 0 else 1) (by
    intro i t S1 hi ⟨h1, h2⟩
    subst h1
    have wi := hw.2 i hi
    refine ⟨if ovk D (i + 1) then 0 else 1, S1, ?_, rfl, rfl⟩
    rw [k_Mod_isAnyLeft_4_eq, h2]
    simp only [ovk]
    rcases Bool.eq_false_or_eq_true (ovk D i) with ho | ho
    rotate_left
    · simp (disch := omega) only [ho, h.r, k_Mod_isAnyLeft_25_eq, k_Mod_isAnyLeft_30_eq, zL0, zL1, zL2, zL3, zL4, zL5, zL6, zL7, zL8, zL9, zL10, zL12, zL20, zL30, zL31, zL32, zL44, zL48, zL49, zL50, zL56, zL59, zL60, zL61, zL64, zL65, zL97, zL99, zL100, zL101, zL102, zL103, zL104, zL111, zL119, zL126, zL255, zL512, zL617, zL65535, zL65536, zL1048576, zlt, zle, zeq, ztn, zin, zzb, zadd, zmul, zm_lt, zm_gt, zm_le, zm_ge, zm_eq, zm_eq', zm_in, if_pos, if_neg, bI_s, bJ_s, bA_s, bU_s, if_true, if_false, reduceIte, or_true, true_or, or_false, false_or, and_true, true_and, and_false, false_and, not_true_eq_false, not_false_eq_true, Nat.reduceEqDiff, Nat.zero_ne_one, Nat.one_ne_zero, Bool.false_eq_true, Bool.false_and]
    · by_cases c : D 65 i < D 64 i
      · have := wi.2.2.2.2.2.2.1 _ c
        simp (disch := omega) only [ho, h.r, mo_wanted h hw hi, k_Mod_isAnyLeft_25_eq, k_Mod_isAnyLeft_30_eq, zL0, zL1, zL2, zL3, zL4, zL5, zL6, zL7, zL8, zL9, zL10, zL12, zL20, zL30, zL31, zL32, zL44, zL48, zL49, zL50, zL56, zL59, zL60, zL61, zL64, zL65, zL97, zL99, zL100, zL101, zL102, zL103, zL104, zL111, zL119, zL126, zL255, zL512, zL617, zL65535, zL65536, zL1048576, zlt, zle, zeq, ztn, zin, zzb, zadd, zmul, zm_lt, zm_gt, zm_le, zm_ge, zm_eq, zm_eq', zm_in, if_pos, if_neg, bI_s, bJ_s, bA_s, bU_s, if_true, if_false, reduceIte, or_true, true_or, or_false, false_or, and_true, true_and, and_false, false_and, not_true_eq_false, not_false_eq_true, Nat.reduceEqDiff, Nat.zero_ne_one, Nat.one_ne_zero, Bool.false_eq_true, Bool.true_and, decide_eq_true_eq]
      · simp (disch := omega) only [ho, h.r, mo_wanted h hw hi, k_Mod_isAnyLeft_25_eq, k_Mod_isAnyLeft_30_eq, zL0, zL1, zL2, zL3, zL4, zL5, zL6, zL7, zL8, zL9, zL10, zL12, zL20, zL30, zL31, zL32, zL44, zL48, zL49, zL50, zL56, zL59, zL60, zL61, zL64, zL65, zL97, zL99, zL100, zL101, zL102, zL103, zL104, zL111, zL119, zL126, zL255, zL512, zL617, zL65535, zL65536, zL1048576, zlt, zle, zeq, ztn, zin, zzb, zadd, zmul, zm_lt, zm_gt, zm_le, zm_ge, zm_eq, zm_eq', zm_in, if_pos, if_neg, bI_s, bJ_s, bA_s, bU_s, if_true, if_false, reduceIte, or_true, true_or, or_false, false_or, and_true, true_and, and_false, false_and, not_true_eq_false, not_false_eq_true, Nat.reduceEqDiff, Nat.zero_ne_one, Nat.one_ne_zero, Bool.false_eq_true, Bool.true_and, decide_eq_true_eq]) (D 55 7) 0 0 S (by omega) ⟨rfl, rfl⟩
  subst h1
  rw [f_Mod_isAnyLeft_eq, zL0, e1, k_Mod_isAnyLeft_4_eq, h2]
  show _ = some (nI (if ovk D (D 55 7) then 0 else 1), S1)
  cases ho : ovk D (D 55 7)
  · simp (disch := omega) only [h.r, zL0, zL1, zL2, zL3, zL4, zL5, zL6, zL7, zL8, zL9, zL10, zL12, zL20, zL30, zL31, zL32, zL44, zL48, zL49, zL50, zL56, zL59, zL60, zL61, zL64, zL65, zL97, zL99, zL100, zL101, zL102, zL103, zL104, zL111, zL119, zL126, zL255, zL512, zL617, zL65535, zL65536, zL1048576, zlt, zle, zeq, ztn, zin, zzb, zadd, zmul, zm_lt, zm_gt, zm_le, zm_ge, zm_eq, zm_eq', zm_in, if_pos, if_neg, bI_s, bJ_s, bA_s, bU_s, if_true, if_false, reduceIte, or_true, true_or, or_false, false_or, and_true, true_and, and_false, false_and, not_true_eq_false, not_false_eq_true, Nat.reduceEqDiff, Nat.zero_ne_one, Nat.one_ne_zero, Bool.false_eq_true]
  · simp (disch := omega) only [h.r, zL0, zL1, zL2, zL3, zL4, zL5, zL6, zL7, zL8, zL9, zL10, zL12, zL20, zL30, zL31, zL32, zL44, zL48, zL49, zL50, zL56, zL59, zL60, zL61, zL64, zL65, zL97, zL99, zL100, zL101, zL102, zL103, zL104, zL111, zL119, zL126, zL255, zL512, zL617, zL65535, zL65536, zL1048576, zlt, zle, zeq, ztn, zin, zzb, zadd, zmul, zm_lt, zm_gt, zm_le, zm_ge, zm_eq, zm_eq', zm_in, if_pos, if_neg, bI_s, bJ_s, bA_s, bU_s, if_true, if_false, reduceIte, or_true, true_or, or_false, false_or, and_true, true_and, and_false, false_and, not_true_eq_false, not_false_eq_true, Nat.reduceEqDiff, Nat.zero_ne_one, Nat.one_ne_zero]
theorem mo_save {S : Mem} : ∃ S', f_Mod_save S = some S' ∧ (∀ a k, a ≠ 72 → a ≠ 73 → S'.1 a k = S.1 a k) ∧ S'.2 = S.2 ∧ (∀ i, i < 5 → S'.1 72 i = S.1 60 i) ∧ (∀ i, i < 5 → S'.1 73 i = S.1 65 i) := by
  obtain ⟨S1, e1, f1, g1, q1, r1⟩ := zfor (fun i S => k_Mod_save_2 (nI i) S) 5 (fun i S1 => (∀ a k, a ≠ 72 → a ≠ 73 → S1.1 a k = S.1 a k) ∧ S1.2 = S.2 ∧ (∀ j, j < i → S1.1 72 j = S.1 60 j) ∧ (∀ j, j < i → S1.1 73 j = S.1 65 j)) (by
    intro i S1 hi ⟨f1, g1, q1, r1⟩
    refine ⟨u1 (u1 S1 72 i (S1.1 60 i)) 73 i (S1.1 65 i), ?_, fun a k a0 a5 => ?_, g1, fun j hj => ?_, fun j hj => ?_⟩
    · rw [k_Mod_save_2_eq]
      simp (disch := omega) only [zL0, zL1, zL2, zL3, zL4, zL5, zL6, zL7, zL8, zL9, zL10, zL12, zL20, zL30, zL31, zL32, zL44, zL48, zL49, zL50, zL56, zL59, zL60, zL61, zL64, zL65, zL97, zL99, zL100, zL101, zL102, zL103, zL104, zL111, zL119, zL126, zL255, zL512, zL617, zL65535, zL65536, zL1048576, zlt, zle, zeq, ztn, zin, zzb, zadd, zmul, zm_lt, zm_gt, zm_le, zm_ge, zm_eq, zm_eq', zm_in, if_pos, if_neg, bI_s, bJ_s, bA_s, bU_s, if_true, if_false, reduceIte, or_true, true_or, or_false, false_or, and_true, true_and, and_false, false_and, not_true_eq_false, not_false_eq_true, Nat.reduceEqDiff, Nat.zero_ne_one, Nat.one_ne_zero, zuS, zuN, zu2, zv1, zvS, zvN]
    · rw [zuN (by omega), zuN (by omega), f1 a k a0 a5]
    · by_cases e : j = i
      · subst e; rw [zuN (by omega), zuS ⟨rfl, rfl⟩, f1 _ _ (by omega) (by omega)]
      · rw [zuN (by omega), zuN (by omega), q1 j (by omega)]
    · by_cases e : j = i
      · subst e; rw [zuS ⟨rfl, rfl⟩, f1 _ _ (by omega) (by omega)]
      · rw [zuN (by omega), zuN (by omega), r1 j (by omega)]) 5 0 S (by omega) ⟨fun _ _ _ _ => rfl, rfl, fun _ _ => by omega, fun _ _ => by omega⟩
  refine ⟨S1, ?_, f1, g1, q1, r1⟩
  rw [f_Mod_save_eq, zL0, e1, k_Mod_save_2_eq]
  simp (disch := omega) only [zL0, zL1, zL2, zL3, zL4, zL5, zL6, zL7, zL8, zL9, zL10, zL12, zL20, zL30, zL31, zL32, zL44, zL48, zL49, zL50, zL56, zL59, zL60, zL61, zL64, zL65, zL97, zL99, zL100, zL101, zL102, zL103, zL104, zL111, zL119, zL126, zL255, zL512, zL617, zL65535, zL65536, zL1048576, zlt, zle, zeq, ztn, zin, zzb, zadd, zmul, zm_lt, zm_gt, zm_le, zm_ge, zm_eq, zm_eq', zm_in, if_pos, if_neg, bI_s, bJ_s, bA_s, bU_s, if_true, if_false, reduceIte, or_true, true_or, or_false, false_or, and_true, true_and, and_false, false_and, not_true_eq_false, not_false_eq_true, Nat.reduceEqDiff, Nat.zero_ne_one, Nat.one_ne_zero]
theorem mo_back {S : Mem} : ∃ S', f_Mod_back S = some S' ∧ (∀ a k, ¬ (a = 60 ∧ k < 5) → ¬ (a = 65 ∧ k < 5) → S'.1 a k = S.1 a k) ∧ S'.2 = S.2 ∧ (∀ i, i < 5 → S'.1 60 i = S.1 72 i) ∧ (∀ i, i < 5 → S'.1 65 i = S.1 73 i) := by
  obtain ⟨S1, e1, f1, g1, q1, r1⟩ := zfor (fun i S => k_Mod_back_2 (nI i) S) 5 (fun i S1 => (∀ a k, ¬ (a = 60 ∧ k < 5) → ¬ (a = 65 ∧ k < 5) → S1.1 a k = S.1 a k) ∧ S1.2 = S.2 ∧ (∀ j, j < i → S1.1 60 j = S.1 72 j) ∧ (∀ j, j < i → S1.1 65 j = S.1 73 j)) (by
    intro i S1 hi ⟨f1, g1, q1, r1⟩
    refine ⟨u1 (u1 S1 60 i (S1.1 72 i)) 65 i (S1.1 73 i), ?_, fun a k a0 a5 => ?_, g1, fun j hj => ?_, fun j hj => ?_⟩
    · rw [k_Mod_back_2_eq]
      simp (disch := omega) only [zL0, zL1, zL2, zL3, zL4, zL5, zL6, zL7, zL8, zL9, zL10, zL12, zL20, zL30, zL31, zL32, zL44, zL48, zL49, zL50, zL56, zL59, zL60, zL61, zL64, zL65, zL97, zL99, zL100, zL101, zL102, zL103, zL104, zL111, zL119, zL126, zL255, zL512, zL617, zL65535, zL65536, zL1048576, zlt, zle, zeq, ztn, zin, zzb, zadd, zmul, zm_lt, zm_gt, zm_le, zm_ge, zm_eq, zm_eq', zm_in, if_pos, if_neg, bI_s, bJ_s, bA_s, bU_s, if_true, if_false, reduceIte, or_true, true_or, or_false, false_or, and_true, true_and, and_false, false_and, not_true_eq_false, not_false_eq_true, Nat.reduceEqDiff, Nat.zero_ne_one, Nat.one_ne_zero, zuS, zuN, zu2, zv1, zvS, zvN]
    · rw [zuN (by omega), zuN (by omega), f1 a k a0 a5]
    · by_cases e : j = i
      · subst e; rw [zuN (by omega), zuS ⟨rfl, rfl⟩, f1 _ _ (by omega) (by omega)]
      · rw [zuN (by omega), zuN (by omega), q1 j (by omega)]
    · by_cases e : j = i
      · subst e; rw [zuS ⟨rfl, rfl⟩, f1 _ _ (by omega) (by omega)]
      · rw [zuN (by omega), zuN (by omega), r1 j (by omega)]) 5 0 S (by omega) ⟨fun _ _ _ _ => rfl, rfl, fun _ _ => by omega, fun _ _ => by omega⟩
  refine ⟨S1, ?_, f1, g1, q1, r1⟩
  rw [f_Mod_back_eq, zL0, e1, k_Mod_back_2_eq]
  simp (disch := omega) only [zL0, zL1, zL2, zL3, zL4, zL5, zL6, zL7, zL8, zL9, zL10, zL12, zL20, zL30, zL31, zL32, zL44, zL48, zL49, zL50, zL56, zL59, zL60, zL61, zL64, zL65, zL97, zL99, zL100, zL101, zL102, zL103, zL104, zL111, zL119, zL126, zL255, zL512, zL617, zL65535, zL65536, zL1048576, zlt, zle, zeq, ztn, zin, zzb, zadd, zmul, zm_lt, zm_gt, zm_le, zm_ge, zm_eq, zm_eq', zm_in, if_pos, if_neg, bI_s, bJ_s, bA_s, bU_s, if_true, if_false, reduceIte, or_true, true_or, or_false, false_or, and_true, true_and, and_false, false_and, not_true_eq_false, not_false_eq_true, Nat.reduceEqDiff, Nat.zero_ne_one, Nat.one_ne_zero]
