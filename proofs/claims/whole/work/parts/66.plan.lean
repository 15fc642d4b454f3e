/-! the planner's parts -/
theorem zdn {α : Type} (k : Nat → Mem → α) (I : Nat → Mem → Prop) (n : Nat) (step : ∀ m S, m < n → I (m + 1) S → ∃ S', k (m + 1) S = k m S' ∧ I m S') : ∀ m S, m ≤ n → I m S → ∃ S', k m S = k 0 S' ∧ I 0 S'
  | 0, S, _, h => ⟨S, rfl, h⟩
  | m + 1, S, hm, h => by
    obtain ⟨S1, e1, h1⟩ := step m S (by omega) h
    obtain ⟨S2, e2, h2⟩ := zdn k I n step m S1 (by omega) h1
    exact ⟨S2, e1.trans e2, h2⟩
theorem z7 (a : Nat) : nI a &&& nI 7 = nI (a % 8) := by rw [zand, show a &&& 7 = a % 8 from Nat.and_two_pow_sub_one_eq_mod a 3]
theorem cp_cornerIn {p w : Nat} (hp : p < 512) (hw : w < 3) {S : Mem} : f_Planner_cornerIn (nI p) (nI w) S = some (nI (dq p w), S) := by
  rw [f_Planner_cornerIn_eq]
  have h3 : w = 0 ∨ w = 1 ∨ w = 2 := by omega
  rcases h3 with rfl | rfl | rfl
  · simp (disch := omega) only [zL0, zL1, zL2, zL3, zL4, zL5, zL6, zL7, zL8, zL9, zL10, zL12, zL20, zL30, zL31, zL32, zL44, zL48, zL49, zL50, zL56, zL59, zL60, zL61, zL64, zL65, zL97, zL99, zL100, zL101, zL102, zL103, zL104, zL111, zL119, zL126, zL255, zL512, zL617, zL65535, zL65536, zL1048576, zsub, zmul, zshr, z7, Nat.reduceSub, Nat.reduceMul, Nat.reducePow, dq]
  · simp (disch := omega) only [zL0, zL1, zL2, zL3, zL4, zL5, zL6, zL7, zL8, zL9, zL10, zL12, zL20, zL30, zL31, zL32, zL44, zL48, zL49, zL50, zL56, zL59, zL60, zL61, zL64, zL65, zL97, zL99, zL100, zL101, zL102, zL103, zL104, zL111, zL119, zL126, zL255, zL512, zL617, zL65535, zL65536, zL1048576, zsub, zmul, zshr, z7, Nat.reduceSub, Nat.reduceMul, Nat.reducePow, dq]
  · simp (disch := omega) only [zL0, zL1, zL2, zL3, zL4, zL5, zL6, zL7, zL8, zL9, zL10, zL12, zL20, zL30, zL31, zL32, zL44, zL48, zL49, zL50, zL56, zL59, zL60, zL61, zL64, zL65, zL97, zL99, zL100, zL101, zL102, zL103, zL104, zL111, zL119, zL126, zL255, zL512, zL617, zL65535, zL65536, zL1048576, zsub, zmul, zshr, z7, Nat.reduceSub, Nat.reduceMul, Nat.reducePow, dq, Nat.div_one]
def cf (nw : Nat → Nat → Bool) (a b c d : Nat) : Bool := decide (b = c) && decide (d = a) && nw a c
theorem ec_cf {nw P : Nat → Nat → Bool} {p r i j : Nat} : ec nw P p r i j = (cf nw (dq p i) (dq r i) (dq p j) (dq r j) && !P i j) := rfl
/-- x tells which lanes are narrow -/
def NW (D : DD) (nw : Nat → Nat → Bool) (x : Int32) : Prop := ∀ S a b, RC D S → a < 8 → b < 8 → f_Net_isNarrow (nI a) (nI b) x S = some (nI (if nw a b then 1 else 0), S)
/-- the planner's own cells in a search -/
def PL (D : DD) (P : Nat → Nat → Bool) (x : Int32) (S : Mem) : Prop := RC D S ∧ S.1 52 7 = nI (if P 0 1 then 1 else 0) ∧ S.1 52 8 = nI (if P 0 2 then 1 else 0) ∧ S.1 52 9 = nI (if P 1 2 then 1 else 0) ∧ S.1 52 10 = x
def frP (S S' : Mem) : Prop := (∀ a k, a ≠ 53 → a ≠ 54 → ¬ (a = 52 ∧ k = 4) → S'.1 a k = S.1 a k) ∧ S'.2 = S.2
theorem frP_r (S : Mem) : frP S S := ⟨fun _ _ _ _ _ => rfl, rfl⟩
theorem frP_t {S S' S'' : Mem} (h : frP S S') (h2 : frP S' S'') : frP S S'' := ⟨fun a k a1 a2 a3 => by rw [h2.1 a k a1 a2 a3, h.1 a k a1 a2 a3], h2.2.trans h.2⟩
section PLN
variable {D : DD} {nw P : Nat → Nat → Bool} {x : Int32} {S S' : Mem}
theorem PL_f (hd : okD D) (h : PL D P x S) (f : frP S S') : PL D P x S' := ⟨RC_f hd h.1 (fun a k q => f.1 a k (by omega) (by omega) (by omega)), by rw [f.1 _ _ (by omega) (by omega) (by omega)]; exact h.2.1, by rw [f.1 _ _ (by omega) (by omega) (by omega)]; exact h.2.2.1, by rw [f.1 _ _ (by omega) (by omega) (by omega)]; exact h.2.2.2.1, by rw [f.1 _ _ (by omega) (by omega) (by omega)]; exact h.2.2.2.2⟩
theorem cp_clash (h : PL D P x S) (hN : NW D nw x) {a b c d : Nat} (ha : a < 8) (hb : b < 8) (hc : c < 8) (hd : d < 8) : f_Planner_clash (nI a) (nI b) (nI c) (nI d) S = some (nI (if cf nw a b c d then 1 else 0), S) := by
  have hn := hN S a c h.1 ha hc
  rw [f_Planner_clash_eq, h.2.2.2.2]
  unfold cf
  by_cases c1 : b = c
  · by_cases c2 : d = a
    · cases c3 : nw a c
      · rw [c3] at hn
        simp (disch := omega) only [zL0, zL1, zL2, zL3, zL4, zL5, zL6, zL7, zL8, zL9, zL10, zL12, zL20, zL30, zL31, zL32, zL44, zL48, zL49, zL50, zL56, zL59, zL60, zL61, zL64, zL65, zL97, zL99, zL100, zL101, zL102, zL103, zL104, zL111, zL119, zL126, zL255, zL512, zL617, zL65535, zL65536, zL1048576, zlt, zle, zeq, ztn, zin, zzb, zadd, zmul, zm_lt, zm_gt, zm_le, zm_ge, zm_eq, zm_eq', zm_in, if_pos, if_neg, bI_s, bJ_s, bA_s, bU_s, if_true, if_false, reduceIte, or_true, true_or, or_false, false_or, and_true, true_and, and_false, false_and, not_true_eq_false, not_false_eq_true, Nat.reduceEqDiff, Nat.zero_ne_one, Nat.one_ne_zero, hn, c1, c2, k_Planner_clash_31_eq, k_Planner_clash_32_eq, decide_true, Bool.and_false, Bool.true_and, Bool.false_eq_true]
      · rw [c3] at hn
        simp (disch := omega) only [zL0, zL1, zL2, zL3, zL4, zL5, zL6, zL7, zL8, zL9, zL10, zL12, zL20, zL30, zL31, zL32, zL44, zL48, zL49, zL50, zL56, zL59, zL60, zL61, zL64, zL65, zL97, zL99, zL100, zL101, zL102, zL103, zL104, zL111, zL119, zL126, zL255, zL512, zL617, zL65535, zL65536, zL1048576, zlt, zle, zeq, ztn, zin, zzb, zadd, zmul, zm_lt, zm_gt, zm_le, zm_ge, zm_eq, zm_eq', zm_in, if_pos, if_neg, bI_s, bJ_s, bA_s, bU_s, if_true, if_false, reduceIte, or_true, true_or, or_false, false_or, and_true, true_and, and_false, false_and, not_true_eq_false, not_false_eq_true, Nat.reduceEqDiff, Nat.zero_ne_one, Nat.one_ne_zero, hn, c1, c2, k_Planner_clash_31_eq, k_Planner_clash_32_eq, decide_true, Bool.true_and]
    · simp (disch := omega) only [zL0, zL1, zL2, zL3, zL4, zL5, zL6, zL7, zL8, zL9, zL10, zL12, zL20, zL30, zL31, zL32, zL44, zL48, zL49, zL50, zL56, zL59, zL60, zL61, zL64, zL65, zL97, zL99, zL100, zL101, zL102, zL103, zL104, zL111, zL119, zL126, zL255, zL512, zL617, zL65535, zL65536, zL1048576, zlt, zle, zeq, ztn, zin, zzb, zadd, zmul, zm_lt, zm_gt, zm_le, zm_ge, zm_eq, zm_eq', zm_in, if_pos, if_neg, bI_s, bJ_s, bA_s, bU_s, if_true, if_false, reduceIte, or_true, true_or, or_false, false_or, and_true, true_and, and_false, false_and, not_true_eq_false, not_false_eq_true, Nat.reduceEqDiff, Nat.zero_ne_one, Nat.one_ne_zero, c1, k_Planner_clash_31_eq, k_Planner_clash_32_eq, decide_eq_false c2, Bool.and_false, Bool.false_and, Bool.false_eq_true]
  · simp (disch := omega) only [zL0, zL1, zL2, zL3, zL4, zL5, zL6, zL7, zL8, zL9, zL10, zL12, zL20, zL30, zL31, zL32, zL44, zL48, zL49, zL50, zL56, zL59, zL60, zL61, zL64, zL65, zL97, zL99, zL100, zL101, zL102, zL103, zL104, zL111, zL119, zL126, zL255, zL512, zL617, zL65535, zL65536, zL1048576, zlt, zle, zeq, ztn, zin, zzb, zadd, zmul, zm_lt, zm_gt, zm_le, zm_ge, zm_eq, zm_eq', zm_in, if_pos, if_neg, bI_s, bJ_s, bA_s, bU_s, if_true, if_false, reduceIte, or_true, true_or, or_false, false_or, and_true, true_and, and_false, false_and, not_true_eq_false, not_false_eq_true, Nat.reduceEqDiff, Nat.zero_ne_one, Nat.one_ne_zero, k_Planner_clash_31_eq, k_Planner_clash_32_eq, decide_eq_false c1, Bool.false_and, Bool.false_eq_true]
theorem cp_pair {β : Type} (h : PL D P x S) (hN : NW D nw x) {a b c d : Nat} (ha : a < 8) (hb : b < 8) (hc : c < 8) (hd : d < 8) (A B : Mem → Option β) {y : Int32} {p : Bool} (hy : y = nI (if p then 1 else 0)) : (if y = 0 then bI (f_Planner_clash (nI a) (nI b) (nI c) (nI d) S) (fun r S' => if r = 0 then A S' else B S') else A S) = if (cf nw a b c d && !p) = true then B S else A S := by
  rw [hy, cp_clash h hN ha hb hc hd, bI_s]
  cases p
  · cases cf nw a b c d <;> simp (disch := omega) only [zL0, zL1, zL2, zL3, zL4, zL5, zL6, zL7, zL8, zL9, zL10, zL12, zL20, zL30, zL31, zL32, zL44, zL48, zL49, zL50, zL56, zL59, zL60, zL61, zL64, zL65, zL97, zL99, zL100, zL101, zL102, zL103, zL104, zL111, zL119, zL126, zL255, zL512, zL617, zL65535, zL65536, zL1048576, zlt, zle, zeq, ztn, zin, zzb, zadd, zmul, zm_lt, zm_gt, zm_le, zm_ge, zm_eq, zm_eq', zm_in, if_pos, if_neg, bI_s, bJ_s, bA_s, bU_s, if_true, if_false, reduceIte, or_true, true_or, or_false, false_or, and_true, true_and, and_false, false_and, not_true_eq_false, not_false_eq_true, Nat.reduceEqDiff, Nat.zero_ne_one, Nat.one_ne_zero, Bool.false_eq_true, Bool.not_false, Bool.not_true, Bool.and_true, Bool.and_false, Bool.and_self]
  · cases cf nw a b c d <;> simp (disch := omega) only [zL0, zL1, zL2, zL3, zL4, zL5, zL6, zL7, zL8, zL9, zL10, zL12, zL20, zL30, zL31, zL32, zL44, zL48, zL49, zL50, zL56, zL59, zL60, zL61, zL64, zL65, zL97, zL99, zL100, zL101, zL102, zL103, zL104, zL111, zL119, zL126, zL255, zL512, zL617, zL65535, zL65536, zL1048576, zlt, zle, zeq, ztn, zin, zzb, zadd, zmul, zm_lt, zm_gt, zm_le, zm_ge, zm_eq, zm_eq', zm_in, if_pos, if_neg, bI_s, bJ_s, bA_s, bU_s, if_true, if_false, reduceIte, or_true, true_or, or_false, false_or, and_true, true_and, and_false, false_and, not_true_eq_false, not_false_eq_true, Nat.reduceEqDiff, Nat.zero_ne_one, Nat.one_ne_zero, Bool.false_eq_true, Bool.not_false, Bool.not_true, Bool.and_true, Bool.and_false, Bool.and_self]
/-! a walker's steps, by their index -/
def nsd (D : DD) (w a : Nat) : Nat := if w < D 55 7 then sc D a 8 else 1
def sw (D : DD) (w a b : Nat) : Prop := if w < D 55 7 then stp D a b else a = b
def ix (D : DD) (w a b : Nat) : Nat := if w < D 55 7 then sc D a b else 0
theorem nsd_le (w a : Nat) : nsd D w a ≤ 8 := by
  unfold nsd
  have := sc_le D a 8
  split <;> omega
theorem ix_lt {w a b : Nat} (hb : b < 8) (h : sw D w a b) : ix D w a b < nsd D w a := by
  unfold ix nsd
  unfold sw at h
  by_cases c : w < D 55 7
  · rw [if_pos c] at h ⊢
    rw [if_pos c]
    exact sc_lt hb h
  · rw [if_neg c, if_neg c]; omega
theorem ix_one {w a b b' : Nat} (h : sw D w a b) (h' : sw D w a b') (e : ix D w a b = ix D w a b') : b = b' := by
  unfold ix at e
  unfold sw at h h'
  by_cases c : w < D 55 7
  · rw [if_pos c] at h h' e
    rw [if_pos c] at e
    rcases Nat.lt_trichotomy b b' with q | q | q
    · have := sc_lt (D := D) (a := a) q h; omega
    · exact q
    · have := sc_lt (D := D) (a := a) q h'; omega
  · rw [if_neg c] at h h'
    exact h.symm.trans h'
theorem cp_stepsOf (hd : okD D) (h : RC D S) {w a : Nat} (hw : w < 3) (ha : a < 8) : f_Planner_stepsOf (nI w) (nI a) S = some (nI (nsd D w a), S) := by
  have e := h.w
  have w5 := hd.2.1.1
  rw [f_Planner_stepsOf_eq, e]
  unfold nsd
  by_cases c : w < D 55 7
  · simp (disch := omega) only [zL0, zL1, zL2, zL3, zL4, zL5, zL6, zL7, zL8, zL9, zL10, zL12, zL20, zL30, zL31, zL32, zL44, zL48, zL49, zL50, zL56, zL59, zL60, zL61, zL64, zL65, zL97, zL99, zL100, zL101, zL102, zL103, zL104, zL111, zL119, zL126, zL255, zL512, zL617, zL65535, zL65536, zL1048576, zlt, zle, zeq, ztn, zin, zzb, zadd, zmul, zm_lt, zm_gt, zm_le, zm_ge, zm_eq, zm_eq', zm_in, if_pos, if_neg, bI_s, bJ_s, bA_s, bU_s, if_true, if_false, reduceIte, or_true, true_or, or_false, false_or, and_true, true_and, and_false, false_and, not_true_eq_false, not_false_eq_true, Nat.reduceEqDiff, Nat.zero_ne_one, Nat.one_ne_zero, cn_stepsFrom h (fun q => by have := (hd.2.2.1.2.2.2.2.1 q).2.1; omega) ha, k_Planner_stepsOf_23_eq]
  · simp (disch := omega) only [zL0, zL1, zL2, zL3, zL4, zL5, zL6, zL7, zL8, zL9, zL10, zL12, zL20, zL30, zL31, zL32, zL44, zL48, zL49, zL50, zL56, zL59, zL60, zL61, zL64, zL65, zL97, zL99, zL100, zL101, zL102, zL103, zL104, zL111, zL119, zL126, zL255, zL512, zL617, zL65535, zL65536, zL1048576, zlt, zle, zeq, ztn, zin, zzb, zadd, zmul, zm_lt, zm_gt, zm_le, zm_ge, zm_eq, zm_eq', zm_in, if_pos, if_neg, bI_s, bJ_s, bA_s, bU_s, if_true, if_false, reduceIte, or_true, true_or, or_false, false_or, and_true, true_and, and_false, false_and, not_true_eq_false, not_false_eq_true, Nat.reduceEqDiff, Nat.zero_ne_one, Nat.one_ne_zero, k_Planner_stepsOf_23_eq]
theorem cp_step (hd : okD D) (hW : 1 ≤ D 55 7) {w a i : Nat} (ha : a < 8) (h0 : ¬ w < D 55 7 → a = 0) (hi : i < nsd D w a) : ∃ b, b < 8 ∧ sw D w a b ∧ ix D w a b = i ∧ ∀ S, RC D S → f_Net_step (nI a) (nI i) S = some (nI b, S) := by
  have hz : D 55 6 ≠ 0 := fun q => by have := (hd.2.2.1.2.2.2.2.1 q).2.1; omega
  unfold nsd at hi
  unfold sw ix
  by_cases c : w < D 55 7
  · rw [if_pos c] at hi
    simp only [if_pos c]
    obtain ⟨b, h1, h2, h3⟩ := sc_kth hi
    exact ⟨b, h1, h2, h3, fun S hr => by rw [← h3]; exact cn_step hr hz ha h1 h2⟩
  · rw [if_neg c] at hi
    simp only [if_neg c]
    have ha0 := h0 c
    subst ha0
    refine ⟨0, by omega, rfl, by omega, fun S hr => ?_⟩
    rw [show i = sc D 0 0 by show i = 0; omega]
    exact cn_step hr hz (by omega) (by omega) (Or.inl rfl)
theorem es_sw {p r w : Nat} : es D p r w = true ↔ sw D w (dq p w) (dq r w) := by
  unfold sw
  by_cases c : w < D 55 7
  · rw [if_pos c]; exact es_stp c
  · rw [if_neg c]; exact es_abs c
end PLN
