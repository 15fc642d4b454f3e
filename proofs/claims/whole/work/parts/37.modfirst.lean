/-! many minutes, pure -/
def fo (q : Nat → Bool) (P : Nat → Nat → Bool) : Nat → Nat → DD → Option (Nat × Nat × Nat)
  | 0, _, _ => none
  | m + 1, t, D => if ov D then none else if q (lay D P (wn D)).2.2 then some (t, (lay D P (wn D)).2.1) else fo q P m (t + 1) (go D P)
def gon (P : Nat → Nat → Bool) : Nat → DD → DD
  | 0, D => D
  | n + 1, D => gon P n (go D P)
def tms (P : Nat → Nat → Bool) : Nat → DD → Nat
  | 0, _ => 0
  | n + 1, D => (lay D P (wn D)).1 + tms P n (go D P)
def qs (set g : Nat) : Bool := decide (g &&& set ≠ 0)
theorem go_row {D : DD} {P : Nat → Nat → Bool} {a : Nat} (h0 : ¬ a = 60) (h5 : ¬ a = 65) : go D P a = D a := gm_row h0 h5
theorem go_okW {D : DD} (h : okW D) (P : Nat → Nat → Bool) : okW (go D P) := gm_okW h _
theorem okN_row {D D' : DD} (h : okN D) (h5 : D' 55 = D 55) (h6 : D' 56 = D 56) (h7 : D' 57 = D 57) (h8 : D' 58 = D 58) : okN D' := by
  unfold okN at h ⊢
  rw [h5, h6, h7, h8]
  exact h
theorem go_okN {D : DD} (h : okN D) (P : Nat → Nat → Bool) : okN (go D P) := okN_row h (go_row (by omega) (by omega)) (go_row (by omega) (by omega)) (go_row (by omega) (by omega)) (go_row (by omega) (by omega))
theorem go_mp (D : DD) (P : Nat → Nat → Bool) : mp (go D P) = mp D := mp_row (go_row (by omega) (by omega)) (go_row (by omega) (by omega)) (go_row (by omega) (by omega))
theorem tms_le {P : Nat → Nat → Bool} : ∀ n D, okW D → tms P n D ≤ 10 * n
  | 0, _, _ => Nat.le_refl 0
  | n + 1, D, h => by
    have h1 := tms_le (P := P) n (go D P) (go_okW h P)
    have h2 := lb_le (f := cl D P (wn D)) h.1
    unfold tms lay
    omega
/-- D' differs from D in where they are and how far, of at most five -/
def sb (D D' : DD) : Prop := (∀ a, ¬ a = 60 → ¬ a = 65 → D' a = D a) ∧ ∀ i, 5 ≤ i → D' 60 i = D 60 i ∧ D' 65 i = D 65 i
theorem sb_r (D : DD) : sb D D := ⟨fun _ _ _ => rfl, fun _ _ => ⟨rfl, rfl⟩⟩
theorem sb_go {D D' : DD} (h : sb D D') (hw : D' 55 7 ≤ 5) (P : Nat → Nat → Bool) : sb D (go D' P) := by
  refine ⟨fun a h0 h5 => by rw [go_row h0 h5, h.1 a h0 h5], fun i hi => ⟨?_, ?_⟩⟩
  · rw [← (h.2 i hi).1]; exact gmk_60 (w := wn D') (by omega)
  · rw [← (h.2 i hi).2]; exact gmk_65 (w := wn D') (by omega)
/-- cells that a search of the model does not touch, but for 60 and 65 -/
def frF (S S' : Mem) : Prop := (∀ a k, ¬ (a = 55 ∧ (k = 29 ∨ k = 30 ∨ k = 31 ∨ k = 35 ∨ k = 36)) → a ≠ 60 → a ≠ 65 → a ≠ 71 → a ≠ 72 → a ≠ 73 → S'.1 a k = S.1 a k) ∧ S'.2 = S.2
theorem frF_t {S S' S'' : Mem} (h : frF S S') (h2 : frF S' S'') : frF S S'' := ⟨fun a k q0 q1 q2 q3 q4 q5 => by rw [h2.1 a k q0 q1 q2 q3 q4 q5, h.1 a k q0 q1 q2 q3 q4 q5], h2.2.trans h.2⟩
theorem frG_F {S S' : Mem} (h : frG S S') : frF S S' := ⟨fun a k q0 q1 q2 q3 _ _ => h.1 a k (by omega) q1 q2 q3, h.2⟩
theorem mo_fin {D D' : DD} {S : Mem} (h : RM D' S) (hb : sb D D') (s6 : ∀ i, i < 5 → S.1 72 i = nI (D 60 i)) (s7 : ∀ i, i < 5 → S.1 73 i = nI (D 65 i)) (x : Int32) : ∃ S', k_Mod_firstOf_52 x S = some (x, S') ∧ RM D S' ∧ frF S S' ∧ S'.1 55 35 = S.1 55 30 ∧ S'.1 55 36 = S.1 55 31 := by
  obtain ⟨S1, e1, f1, g1, q1, r1⟩ := mo_back (S := u1 (u1 S 55 35 (S.1 55 30)) 55 36 (S.1 55 31))
  refine ⟨S1, ?_, ?_, ⟨fun a k c0 c1 c2 c3 c4 c5 => ?_, g1⟩, ?_, ?_⟩
  · rw [k_Mod_firstOf_52_eq]
    simp (disch := omega) only [zuS, zuN, zu2, zv1, zvS, zvN, e1, bU_s]
  · intro a k q
    by_cases h0 : a = 60
    · subst h0
      by_cases hk : k < 5
      · rw [q1 k hk]
        simp (disch := omega) only [zuS, zuN, zu2, zv1, zvS, zvN]
        exact s6 k hk
      · rw [f1 _ _ (by omega) (by omega)]
        simp (disch := omega) only [zuS, zuN, zu2, zv1, zvS, zvN]
        rw [h _ _ (by omega), (hb.2 k (by omega)).1]
    · by_cases h5 : a = 65
      · subst h5
        by_cases hk : k < 5
        · rw [r1 k hk]
          simp (disch := omega) only [zuS, zuN, zu2, zv1, zvS, zvN]
          exact s7 k hk
        · rw [f1 _ _ (by omega) (by omega)]
          simp (disch := omega) only [zuS, zuN, zu2, zv1, zvS, zvN]
          rw [h _ _ (by omega), (hb.2 k (by omega)).2]
      · rw [f1 _ _ (by omega) (by omega)]
        simp (disch := omega) only [zuS, zuN, zu2, zv1, zvS, zvN]
        rw [h a k q, hb.1 a h0 h5]
  · rw [f1 _ _ (by omega) (by omega)]
    simp (disch := omega) only [zuS, zuN, zu2, zv1, zvS, zvN]
  · rw [f1 _ _ (by omega) (by omega)]
    simp (disch := omega) only [zuS, zuN, zu2, zv1, zvS, zvN]
  · rw [f1 _ _ (by omega) (by omega)]
    simp (disch := omega) only [zuS, zuN, zu2, zv1, zvS, zvN]
def foR (r : Option (Nat × Nat × Nat)) : Int32 := match r with
  | none => -nI 1
  | some q => nI q.1
theorem mo_firstOf_k {D : DD} {set : Nat} (hset : set < 32) : ∀ m t D' S, t + m = 61 → 1 ≤ t → RM D' S → okN D' → okW D' → sb D D' → (∀ i, i < 5 → S.1 72 i = nI (D 60 i)) → (∀ i, i < 5 → S.1 73 i = nI (D 65 i)) → ∃ S', k_Mod_firstOf_8 (nI set) (-nI 1) (nI t) S = some (foR (fo (qs set) (mp D') m t D'), S') ∧ RM D S' ∧ frF S S' ∧ (∀ q, fo (qs set) (mp D') m t D' = some q → S'.1 55 35 = nI q.2.1 ∧ S'.1 55 36 = nI q.2.2) := by
  intro m
  induction m with
  | zero =>
    intro t D' S ht h1 h hn hw hb s6 s7
    obtain ⟨S', e, h2, h3, h4, h5⟩ := mo_fin h hb s6 s7 (-nI 1)
    refine ⟨S', ?_, h2, h3, fun q hq => by simp [fo] at hq⟩
    rw [k_Mod_firstOf_8_eq]
    simp (disch := omega) only [zL0, zL1, zL2, zL3, zL4, zL5, zL6, zL7, zL8, zL9, zL10, zL12, zL20, zL30, zL31, zL32, zL44, zL48, zL49, zL50, zL56, zL59, zL60, zL61, zL64, zL65, zL97, zL99, zL100, zL101, zL102, zL103, zL104, zL111, zL119, zL126, zL255, zL512, zL617, zL65535, zL65536, zL1048576, zlt, zle, zeq, ztn, zin, zzb, zadd, zmul, zm_lt, zm_gt, zm_le, zm_ge, zm_eq, zm_eq', zm_in, if_pos, if_neg, bI_s, bJ_s, bA_s, bU_s, if_true, if_false, reduceIte, or_true, true_or, or_false, false_or, and_true, true_and, and_false, false_and, not_true_eq_false, not_false_eq_true, Nat.reduceEqDiff, Nat.zero_ne_one, Nat.one_ne_zero, e, fo, foR]
  | succ m ih =>
    intro t D' S ht h1 h hn hw hb s6 s7
    have ha := mo_isAnyLeft h hw
    rw [k_Mod_firstOf_8_eq]
    rcases Bool.eq_false_or_eq_true (ov D') with ho | ho
    · obtain ⟨S', e, h2, h3, h4, h5⟩ := mo_fin h hb s6 s7 (-nI 1)
      refine ⟨S', ?_, h2, h3, fun q hq => by simp [fo, ho] at hq⟩
      simp (disch := omega) only [zL0, zL1, zL2, zL3, zL4, zL5, zL6, zL7, zL8, zL9, zL10, zL12, zL20, zL30, zL31, zL32, zL44, zL48, zL49, zL50, zL56, zL59, zL60, zL61, zL64, zL65, zL97, zL99, zL100, zL101, zL102, zL103, zL104, zL111, zL119, zL126, zL255, zL512, zL617, zL65535, zL65536, zL1048576, zlt, zle, zeq, ztn, zin, zzb, zadd, zmul, zm_lt, zm_gt, zm_le, zm_ge, zm_eq, zm_eq', zm_in, if_pos, if_neg, bI_s, bJ_s, bA_s, bU_s, if_true, if_false, reduceIte, or_true, true_or, or_false, false_or, and_true, true_and, and_false, false_and, not_true_eq_false, not_false_eq_true, Nat.reduceEqDiff, Nat.zero_ne_one, Nat.one_ne_zero, ha, ho, e, fo, foR]
    · obtain ⟨S1, e1, m1, f1, l1⟩ := mo_goMinute h hn hw
      have hg := lb_in (f := cl D' (mp D') (wn D')) hw.1
      have s61 : ∀ i, i < 5 → S1.1 72 i = nI (D 60 i) := fun i hi => by rw [f1.1 _ _ (by omega) (by omega) (by omega) (by omega), s6 i hi]
      have s71 : ∀ i, i < 5 → S1.1 73 i = nI (D 65 i) := fun i hi => by rw [f1.1 _ _ (by omega) (by omega) (by omega) (by omega), s7 i hi]
      have l11 := l1.1
      have hlt : (lay D' (mp D') (wn D')).2.2 &&& set < 2147483648 := Nat.lt_of_le_of_lt (Nat.and_le_left) (by have := hg.2.2; unfold lay; omega)
      by_cases c : (lay D' (mp D') (wn D')).2.2 &&& set = 0
      · obtain ⟨S2, e2, m2, f2, l2⟩ := ih (t + 1) (go D' (mp D')) S1 (by omega) (by omega) m1 (go_okN hn _) (go_okW hw _) (sb_go hb hw.1 _) s61 s71
        rw [go_mp] at e2 l2
        have hq : qs set (lay D' (mp D') (wn D')).2.2 = false := by unfold qs; simp [c]
        have hfo : fo (qs set) (mp D') (m + 1) t D' = fo (qs set) (mp D') m (t + 1) (go D' (mp D')) := by
          rw [fo, ho, hq]; simp
        refine ⟨S2, ?_, m2, frF_t (frG_F f1) f2, ?_⟩
        · rw [hfo, ← e2]
          simp (disch := omega) only [zL0, zL1, zL2, zL3, zL4, zL5, zL6, zL7, zL8, zL9, zL10, zL12, zL20, zL30, zL31, zL32, zL44, zL48, zL49, zL50, zL56, zL59, zL60, zL61, zL64, zL65, zL97, zL99, zL100, zL101, zL102, zL103, zL104, zL111, zL119, zL126, zL255, zL512, zL617, zL65535, zL65536, zL1048576, zlt, zle, zeq, ztn, zin, zzb, zadd, zmul, zm_lt, zm_gt, zm_le, zm_ge, zm_eq, zm_eq', zm_in, if_pos, if_neg, bI_s, bJ_s, bA_s, bU_s, if_true, if_false, reduceIte, or_true, true_or, or_false, false_or, and_true, true_and, and_false, false_and, not_true_eq_false, not_false_eq_true, Nat.reduceEqDiff, Nat.zero_ne_one, Nat.one_ne_zero, ha, ho, e1, l11, zand, k_Mod_firstOf_45_eq, c, Bool.false_eq_true]
        · rw [hfo]; exact l2
      · obtain ⟨S2, e2, m2, f2, h4, h5⟩ := mo_fin m1 (sb_go hb hw.1 _) s61 s71 (nI t)
        have hq : qs set (lay D' (mp D') (wn D')).2.2 = true := by unfold qs; simp [c]
        have hfo : fo (qs set) (mp D') (m + 1) t D' = some (t, (lay D' (mp D') (wn D')).2.1) := by
          rw [fo, ho, hq]; simp
        have hpos : 0 < (lay D' (mp D') (wn D')).1 := by
          unfold lay
          rw [lb_pos]
          have hne : (lb (cl D' (mp D') (wn D')) (D' 55 7)).2.2 ≠ 0 := by
            intro z
            unfold lay at c
            rw [z] at c
            simp at c
          obtain ⟨i, hi⟩ := Nat.exists_testBit_of_ne_zero hne
          obtain ⟨a, b, h1, h2, h3, _⟩ := lb_bit.mp hi
          exact ⟨a, b, h1, h2, h3⟩
        refine ⟨S2, ?_, m2, frF_t (frG_F f1) f2, fun q hq => ?_⟩
        · rw [hfo]
          simp (disch := omega) only [zL0, zL1, zL2, zL3, zL4, zL5, zL6, zL7, zL8, zL9, zL10, zL12, zL20, zL30, zL31, zL32, zL44, zL48, zL49, zL50, zL56, zL59, zL60, zL61, zL64, zL65, zL97, zL99, zL100, zL101, zL102, zL103, zL104, zL111, zL119, zL126, zL255, zL512, zL617, zL65535, zL65536, zL1048576, zlt, zle, zeq, ztn, zin, zzb, zadd, zmul, zm_lt, zm_gt, zm_le, zm_ge, zm_eq, zm_eq', zm_in, if_pos, if_neg, bI_s, bJ_s, bA_s, bU_s, if_true, if_false, reduceIte, or_true, true_or, or_false, false_or, and_true, true_and, and_false, false_and, not_true_eq_false, not_false_eq_true, Nat.reduceEqDiff, Nat.zero_ne_one, Nat.one_ne_zero, ha, ho, e1, l11, zand, k_Mod_firstOf_45_eq, c, Bool.false_eq_true, foR]
          rw [k_Mod_firstOf_8_eq]
          by_cases ht : 60 < t + 1
          · simp (disch := omega) only [zL0, zL1, zL2, zL3, zL4, zL5, zL6, zL7, zL8, zL9, zL10, zL12, zL20, zL30, zL31, zL32, zL44, zL48, zL49, zL50, zL56, zL59, zL60, zL61, zL64, zL65, zL97, zL99, zL100, zL101, zL102, zL103, zL104, zL111, zL119, zL126, zL255, zL512, zL617, zL65535, zL65536, zL1048576, zlt, zle, zeq, ztn, zin, zzb, zadd, zmul, zm_lt, zm_gt, zm_le, zm_ge, zm_eq, zm_eq', zm_in, if_pos, if_neg, bI_s, bJ_s, bA_s, bU_s, if_true, if_false, reduceIte, or_true, true_or, or_false, false_or, and_true, true_and, and_false, false_and, not_true_eq_false, not_false_eq_true, Nat.reduceEqDiff, Nat.zero_ne_one, Nat.one_ne_zero, e2]
          · simp (disch := omega) only [zL0, zL1, zL2, zL3, zL4, zL5, zL6, zL7, zL8, zL9, zL10, zL12, zL20, zL30, zL31, zL32, zL44, zL48, zL49, zL50, zL56, zL59, zL60, zL61, zL64, zL65, zL97, zL99, zL100, zL101, zL102, zL103, zL104, zL111, zL119, zL126, zL255, zL512, zL617, zL65535, zL65536, zL1048576, zlt, zle, zeq, ztn, zin, zzb, zadd, zmul, zm_lt, zm_gt, zm_le, zm_ge, zm_eq, zm_eq', zm_in, if_pos, if_neg, bI_s, bJ_s, bA_s, bU_s, if_true, if_false, reduceIte, or_true, true_or, or_false, false_or, and_true, true_and, and_false, false_and, not_true_eq_false, not_false_eq_true, Nat.reduceEqDiff, Nat.zero_ne_one, Nat.one_ne_zero, e2]
        · rw [hfo] at hq
          cases hq
          rw [h4, h5]
          exact l1.2 hpos
theorem mo_firstOf {D : DD} {S : Mem} {set : Nat} (hset : set < 32) (h : RM D S) (hn : okN D) (hw : okW D) : ∃ S', f_Mod_firstOf (nI set) S = some (foR (fo (qs set) (mp D) 60 1 D), S') ∧ RM D S' ∧ frF S S' ∧ (∀ q, fo (qs set) (mp D) 60 1 D = some q → S'.1 55 35 = nI q.2.1 ∧ S'.1 55 36 = nI q.2.2) := by
  obtain ⟨S1, e1, f1, g1, q1, r1⟩ := mo_save (S := S)
  have m1 : RM D S1 := RM_fr h (fun a k q => f1 a k (by omega) (by omega))
  obtain ⟨S2, e2, m2, f2, l2⟩ := mo_firstOf_k hset 60 1 D S1 (by omega) (by omega) m1 hn hw (sb_r D) (fun i hi => by rw [q1 i hi, h _ _ (by omega)]) (fun i hi => by rw [r1 i hi, h _ _ (by omega)])
  refine ⟨S2, ?_, m2, ⟨fun a k c0 c1 c2 c3 c4 c5 => by rw [f2.1 a k c0 c1 c2 c3 c4 c5, f1 a k c4 c5], f2.2.trans g1⟩, l2⟩
  rw [f_Mod_firstOf_eq]
  simp (disch := omega) only [zL0, zL1, zL2, zL3, zL4, zL5, zL6, zL7, zL8, zL9, zL10, zL12, zL20, zL30, zL31, zL32, zL44, zL48, zL49, zL50, zL56, zL59, zL60, zL61, zL64, zL65, zL97, zL99, zL100, zL101, zL102, zL103, zL104, zL111, zL119, zL126, zL255, zL512, zL617, zL65535, zL65536, zL1048576, zlt, zle, zeq, ztn, zin, zzb, zadd, zmul, zm_lt, zm_gt, zm_le, zm_ge, zm_eq, zm_eq', zm_in, if_pos, if_neg, bI_s, bJ_s, bA_s, bU_s, if_true, if_false, reduceIte, or_true, true_or, or_false, false_or, and_true, true_and, and_false, false_and, not_true_eq_false, not_false_eq_true, Nat.reduceEqDiff, Nat.zero_ne_one, Nat.one_ne_zero, e1, e2]
def fiR (what : Nat) (r : Option (Nat × Nat × Nat)) : Int32 := match r with
  | none => -nI 1
  | some q => nI (if what = 0 then q.1 else if what = 1 then q.2.1 else q.2.2)
theorem fo_le {q : Nat → Bool} {P : Nat → Nat → Bool} : ∀ {m t : Nat} {D : DD} {r : Nat × Nat × Nat}, fo q P m t D = some r → t ≤ r.1 ∧ r.1 < t + m
  | 0, _, _, _, h => by simp [fo] at h
  | m + 1, t, D, r, h => by
    unfold fo at h
    split at h
    · cases h
    · split at h
      · cases h; exact ⟨Nat.le_refl _, by omega⟩
      · have := fo_le h; omega
theorem mo_firstNow {D : DD} {S : Mem} {what : Nat} (hwt : what ≤ 2) (h : RM D S) (hn : okN D) (hw : okW D) : ∃ S', f_Mod_firstNow (nI what) S = some (fiR what (fo (qs 31) (mp D) 60 1 D), S') ∧ RM D S' ∧ frF S S' := by
  obtain ⟨S2, e2, m2, f2, l2⟩ := mo_firstOf (set := 31) (by omega) h hn hw
  refine ⟨S2, ?_, m2, f2⟩
  rw [f_Mod_firstNow_eq, zL31, e2]
  cases hr : fo (qs 31) (mp D) 60 1 D with
  | none => simp (disch := omega) only [zL0, zL1, zL2, zL3, zL4, zL5, zL6, zL7, zL8, zL9, zL10, zL12, zL20, zL30, zL31, zL32, zL44, zL48, zL49, zL50, zL56, zL59, zL60, zL61, zL64, zL65, zL97, zL99, zL100, zL101, zL102, zL103, zL104, zL111, zL119, zL126, zL255, zL512, zL617, zL65535, zL65536, zL1048576, zlt, zle, zeq, ztn, zin, zzb, zadd, zmul, zm_lt, zm_gt, zm_le, zm_ge, zm_eq, zm_eq', zm_in, if_pos, if_neg, bI_s, bJ_s, bA_s, bU_s, if_true, if_false, reduceIte, or_true, true_or, or_false, false_or, and_true, true_and, and_false, false_and, not_true_eq_false, not_false_eq_true, Nat.reduceEqDiff, Nat.zero_ne_one, Nat.one_ne_zero, foR, fiR, k_Mod_firstNow_16_eq, k_Mod_firstNow_36_eq]
  | some q =>
    have hq := fo_le hr
    have l3 := l2 q hr
    by_cases c0 : what = 0
    · simp (disch := omega) only [zL0, zL1, zL2, zL3, zL4, zL5, zL6, zL7, zL8, zL9, zL10, zL12, zL20, zL30, zL31, zL32, zL44, zL48, zL49, zL50, zL56, zL59, zL60, zL61, zL64, zL65, zL97, zL99, zL100, zL101, zL102, zL103, zL104, zL111, zL119, zL126, zL255, zL512, zL617, zL65535, zL65536, zL1048576, zlt, zle, zeq, ztn, zin, zzb, zadd, zmul, zm_lt, zm_gt, zm_le, zm_ge, zm_eq, zm_eq', zm_in, if_pos, if_neg, bI_s, bJ_s, bA_s, bU_s, if_true, if_false, reduceIte, or_true, true_or, or_false, false_or, and_true, true_and, and_false, false_and, not_true_eq_false, not_false_eq_true, Nat.reduceEqDiff, Nat.zero_ne_one, Nat.one_ne_zero, foR, fiR, k_Mod_firstNow_16_eq, k_Mod_firstNow_36_eq]
    · by_cases c1 : what = 1
      · simp (disch := omega) only [zL0, zL1, zL2, zL3, zL4, zL5, zL6, zL7, zL8, zL9, zL10, zL12, zL20, zL30, zL31, zL32, zL44, zL48, zL49, zL50, zL56, zL59, zL60, zL61, zL64, zL65, zL97, zL99, zL100, zL101, zL102, zL103, zL104, zL111, zL119, zL126, zL255, zL512, zL617, zL65535, zL65536, zL1048576, zlt, zle, zeq, ztn, zin, zzb, zadd, zmul, zm_lt, zm_gt, zm_le, zm_ge, zm_eq, zm_eq', zm_in, if_pos, if_neg, bI_s, bJ_s, bA_s, bU_s, if_true, if_false, reduceIte, or_true, true_or, or_false, false_or, and_true, true_and, and_false, false_and, not_true_eq_false, not_false_eq_true, Nat.reduceEqDiff, Nat.zero_ne_one, Nat.one_ne_zero, foR, fiR, k_Mod_firstNow_16_eq, k_Mod_firstNow_36_eq, l3.1]
      · simp (disch := omega) only [zL0, zL1, zL2, zL3, zL4, zL5, zL6, zL7, zL8, zL9, zL10, zL12, zL20, zL30, zL31, zL32, zL44, zL48, zL49, zL50, zL56, zL59, zL60, zL61, zL64, zL65, zL97, zL99, zL100, zL101, zL102, zL103, zL104, zL111, zL119, zL126, zL255, zL512, zL617, zL65535, zL65536, zL1048576, zlt, zle, zeq, ztn, zin, zzb, zadd, zmul, zm_lt, zm_gt, zm_le, zm_ge, zm_eq, zm_eq', zm_in, if_pos, if_neg, bI_s, bJ_s, bA_s, bU_s, if_true, if_false, reduceIte, or_true, true_or, or_false, false_or, and_true, true_and, and_false, false_and, not_true_eq_false, not_false_eq_true, Nat.reduceEqDiff, Nat.zero_ne_one, Nat.one_ne_zero, foR, fiR, k_Mod_firstNow_16_eq, k_Mod_firstNow_36_eq, l3.2]
theorem gon_okW {P : Nat → Nat → Bool} : ∀ n D, okW D → okW (gon P n D)
  | 0, _, h => h
  | n + 1, D, h => gon_okW n (go D P) (go_okW h P)
theorem gon_row {P : Nat → Nat → Bool} {a : Nat} (h0 : ¬ a = 60) (h5 : ¬ a = 65) : ∀ n D, gon P n D a = D a
  | 0, _ => rfl
  | n + 1, D => by rw [gon, gon_row h0 h5 n, go_row h0 h5]
theorem mo_minutes_k {x : Nat} (hx : x ≤ 60) : ∀ m i D t S, i + m = x → t + 10 * m ≤ 10000 → RM D S → okN D → okW D → ∃ S', k_Mod_minutes_27 (nI x) (nI t) (nI i) S = some (nI (t + tms (mp D) m D), u1 S' 55 16 (S'.1 55 16 + nI x)) ∧ RM (gon (mp D) m D) S' ∧ frG S S' := by
  intro m
  induction m with
  | zero =>
    intro i D t S hi ht h hn hw
    refine ⟨S, ?_, h, frG_r S⟩
    rw [k_Mod_minutes_27_eq]
    simp (disch := omega) only [zL0, zL1, zL2, zL3, zL4, zL5, zL6, zL7, zL8, zL9, zL10, zL12, zL20, zL30, zL31, zL32, zL44, zL48, zL49, zL50, zL56, zL59, zL60, zL61, zL64, zL65, zL97, zL99, zL100, zL101, zL102, zL103, zL104, zL111, zL119, zL126, zL255, zL512, zL617, zL65535, zL65536, zL1048576, zlt, zle, zeq, ztn, zin, zzb, zadd, zmul, zm_lt, zm_gt, zm_le, zm_ge, zm_eq, zm_eq', zm_in, if_pos, if_neg, bI_s, bJ_s, bA_s, bU_s, if_true, if_false, reduceIte, or_true, true_or, or_false, false_or, and_true, true_and, and_false, false_and, not_true_eq_false, not_false_eq_true, Nat.reduceEqDiff, Nat.zero_ne_one, Nat.one_ne_zero, tms, Nat.add_zero]
  | succ m ih =>
    intro i D t S hi ht h hn hw
    obtain ⟨S1, e1, m1, f1, _⟩ := mo_goMinute h hn hw
    have h2 := lb_le (f := cl D (mp D) (wn D)) hw.1
    have h3 : (lay D (mp D) (wn D)).1 ≤ 10 := h2
    obtain ⟨S2, e2, m2, f2⟩ := ih (i + 1) (go D (mp D)) (t + (lay D (mp D) (wn D)).1) S1 (by omega) (by omega) m1 (go_okN hn _) (go_okW hw _)
    rw [go_mp] at e2 m2
    refine ⟨S2, ?_, m2, frG_t f1 f2⟩
    rw [k_Mod_minutes_27_eq, tms, ← Nat.add_assoc, ← e2]
    simp (disch := omega) only [zL0, zL1, zL2, zL3, zL4, zL5, zL6, zL7, zL8, zL9, zL10, zL12, zL20, zL30, zL31, zL32, zL44, zL48, zL49, zL50, zL56, zL59, zL60, zL61, zL64, zL65, zL97, zL99, zL100, zL101, zL102, zL103, zL104, zL111, zL119, zL126, zL255, zL512, zL617, zL65535, zL65536, zL1048576, zlt, zle, zeq, ztn, zin, zzb, zadd, zmul, zm_lt, zm_gt, zm_le, zm_ge, zm_eq, zm_eq', zm_in, if_pos, if_neg, bI_s, bJ_s, bA_s, bU_s, if_true, if_false, reduceIte, or_true, true_or, or_false, false_or, and_true, true_and, and_false, false_and, not_true_eq_false, not_false_eq_true, Nat.reduceEqDiff, Nat.zero_ne_one, Nat.one_ne_zero, e1]
theorem mo_minutes {D : DD} {S : Mem} {x : Nat} (h1 : 1 ≤ x) (hx : x ≤ 60) (h : RM D S) (hn : okN D) (hw : okW D) (hs : D 55 6 ≠ 0) (hs2 : D 55 6 < 2147483648) : ∃ S', f_Mod_minutes (nI x) S = some (nI (tms (mp D) x D), S') ∧ RM (dS (gon (mp D) x D) 55 (dU (D 55) 16 (D 55 16 + x))) S' ∧ frM S S' := by
  obtain ⟨S1, e1, m1, f1⟩ := mo_minutes_k hx x 0 D 0 S (by omega) (by omega) h hn hw
  have k16 := m1.r 55 16 (by omega)
  rw [gon_row (by omega) (by omega)] at k16
  refine ⟨u1 S1 55 16 (nI (D 55 16 + x)), ?_, ?_, fun a k q => ?_⟩
  · rw [f_Mod_minutes_eq]
    simp (disch := omega) only [zL0, zL1, zL2, zL3, zL4, zL5, zL6, zL7, zL8, zL9, zL10, zL12, zL20, zL30, zL31, zL32, zL44, zL48, zL49, zL50, zL56, zL59, zL60, zL61, zL64, zL65, zL97, zL99, zL100, zL101, zL102, zL103, zL104, zL111, zL119, zL126, zL255, zL512, zL617, zL65535, zL65536, zL1048576, zlt, zle, zeq, ztn, zin, zzb, zadd, zmul, zm_lt, zm_gt, zm_le, zm_ge, zm_eq, zm_eq', zm_in, if_pos, if_neg, bI_s, bJ_s, bA_s, bU_s, if_true, if_false, reduceIte, or_true, true_or, or_false, false_or, and_true, true_and, and_false, false_and, not_true_eq_false, not_false_eq_true, Nat.reduceEqDiff, Nat.zero_ne_one, Nat.one_ne_zero, mo_within, h.r, e1, k16, Nat.zero_add]
  · have := RM_u1 m1 (a := 55) (k := 16) (v := D 55 16 + x)
    rw [gon_row (by omega) (by omega)] at this
    exact this
  · rw [zuN (by omega), f1.1 _ _ (by omega) (by omega) (by omega) (by omega)]
