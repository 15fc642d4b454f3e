/-! the crowd: draws, steps -/
theorem mo_atGoalV {D : DD} {S : Mem} (hw5 : okV D) (hm : RM D S) : f_Mod_atGoal S = some (nI (goalM D (D 55 7)), S) := by
  have w5 := hw5.1
  have key : ∀ m i, i + m = D 55 7 → k_Mod_atGoal_4 (nI (goalM D i)) (nI i) S = some (nI (goalM D (D 55 7)), S) := by
    intro m
    induction m with
    | zero =>
      intro i hi
      rw [k_Mod_atGoal_4_eq, show i = D 55 7 by omega]
      simp (disch := omega) only [hm.r, zL0, zL1, zL2, zL3, zL4, zL5, zL6, zL7, zL8, zL9, zL10, zL12, zL20, zL30, zL31, zL32, zL44, zL48, zL49, zL50, zL56, zL59, zL60, zL61, zL64, zL65, zL97, zL99, zL100, zL101, zL102, zL103, zL104, zL111, zL119, zL126, zL255, zL512, zL617, zL65535, zL65536, zL1048576, zlt, zle, zeq, ztn, zin, zzb, zadd, zmul, zm_lt, zm_gt, zm_le, zm_ge, zm_eq, zm_eq', zm_in, if_pos, if_neg, bI_s, bJ_s, bA_s, bU_s, if_true, if_false, reduceIte, or_true, true_or, or_false, false_or, and_true, true_and, and_false, false_and, not_true_eq_false, not_false_eq_true, Nat.reduceEqDiff, Nat.zero_ne_one, Nat.one_ne_zero]
    | succ m ih =>
      intro i hi
      have wi := hw5.2 i (by omega)
      rw [← ih (i + 1) (by omega), k_Mod_atGoal_4_eq, goalM]
      by_cases w0 : D 60 i = D 61 i
      · simp (disch := omega) only [hm.r, k_Mod_atGoal_35_eq, zL0, zL1, zL2, zL3, zL4, zL5, zL6, zL7, zL8, zL9, zL10, zL12, zL20, zL30, zL31, zL32, zL44, zL48, zL49, zL50, zL56, zL59, zL60, zL61, zL64, zL65, zL97, zL99, zL100, zL101, zL102, zL103, zL104, zL111, zL119, zL126, zL255, zL512, zL617, zL65535, zL65536, zL1048576, zlt, zle, zeq, ztn, zin, zzb, zadd, zmul, zm_lt, zm_gt, zm_le, zm_ge, zm_eq, zm_eq', zm_in, if_pos, if_neg, bI_s, bJ_s, bA_s, bU_s, if_true, if_false, reduceIte, or_true, true_or, or_false, false_or, and_true, true_and, and_false, false_and, not_true_eq_false, not_false_eq_true, Nat.reduceEqDiff, Nat.zero_ne_one, Nat.one_ne_zero, w0, zsh, zor]
      · simp (disch := omega) only [hm.r, k_Mod_atGoal_35_eq, zL0, zL1, zL2, zL3, zL4, zL5, zL6, zL7, zL8, zL9, zL10, zL12, zL20, zL30, zL31, zL32, zL44, zL48, zL49, zL50, zL56, zL59, zL60, zL61, zL64, zL65, zL97, zL99, zL100, zL101, zL102, zL103, zL104, zL111, zL119, zL126, zL255, zL512, zL617, zL65535, zL65536, zL1048576, zlt, zle, zeq, ztn, zin, zzb, zadd, zmul, zm_lt, zm_gt, zm_le, zm_ge, zm_eq, zm_eq', zm_in, if_pos, if_neg, bI_s, bJ_s, bA_s, bU_s, if_true, if_false, reduceIte, or_true, true_or, or_false, false_or, and_true, true_and, and_false, false_and, not_true_eq_false, not_false_eq_true, Nat.reduceEqDiff, Nat.zero_ne_one, Nat.one_ne_zero, zsh, zor]
  rw [f_Mod_atGoal_eq, zL0]
  exact key (D 55 7) 0 (by omega)
def sdn (s : Nat) : Nat := (1103515245 * s + 12345) % 2147483648
theorem sdn_lt (s : Nat) : sdn s < 2147483648 := Nat.mod_lt _ (by decide)
theorem sd_op {s : Nat} (h : s < 2147483648) : ((1103515245 : Int64) * lN s + 12345) &&& 2147483647 = lN (sdn s) := by
  rw [show (1103515245 : Int64) = lN 1103515245 from rfl, show (12345 : Int64) = lN 12345 from rfl, lN_mul, lN_add, show (2147483647 : Int64) = lN (2 ^ 31 - 1) from rfl, wb_mask (by omega) (by omega)]
  rfl
def dw (s d : Nat) : Nat := sdn s / 65536 % d
theorem dw_op {s d : Nat} (h1 : 1 ≤ d) (h2 : d < 1000) : ((lN (sdn s) / 65536) - (lN (sdn s) / 65536) / (nI d).toInt64 * (nI d).toInt64).toInt32 = nI (dw s d) := by
  have hs := sdn_lt s
  have hq : sdn s / 65536 ≤ sdn s := Nat.div_le_self _ _
  rw [show (65536 : Int64) = lN 65536 from rfl, pk_lDiv (by omega) (by omega) (by omega), nI_l (by omega), pk_lRem (by omega) (by omega) (by omega), lN_i]
  rfl
theorem l0_ne {d : Nat} (h1 : 1 ≤ d) (h2 : d < 1000) : ¬ (nI d).toInt64 = 0 := by
  rw [nI_l (by omega), show (0 : Int64) = lN 0 from rfl, pk_lEQ (by omega) (by omega)]
  omega
theorem cm_draw {S : Mem} {s d : Nat} (hs : s < 2147483648) (h : S.2 40 10 = lN s) (h1 : 1 ≤ d) (h2 : d < 1000) : f_Morning_draw (nI d) S = some (nI (dw s d), u2 S 40 10 (lN (sdn s))) := by
  rw [f_Morning_draw_eq, h, sd_op hs, dw_op h1 h2, if_neg (l0_ne h1 h2), zL1, if_pos (by rw [zle (by omega) (by omega)]; exact h1), k_Morning_draw_41_eq]
theorem mo_draw {S : Mem} {s d : Nat} (hs : s < 2147483648) (h : S.2 55 41 = lN s) (h1 : 1 ≤ d) (h2 : d < 1000) : f_Mod_draw (nI d) S = some (nI (dw s d), u2 S 55 41 (lN (sdn s))) := by
  rw [f_Mod_draw_eq, h, sd_op hs, dw_op h1 h2, if_neg (l0_ne h1 h2)]
def deg (D : DD) (a : Nat) : Nat → Nat
  | 0 => 0
  | m + 1 => deg D a m + (if adj D a m then 1 else 0)
theorem deg_le (D : DD) (a : Nat) : ∀ m, deg D a m ≤ m
  | 0 => Nat.le_refl 0
  | m + 1 => by
    have := deg_le D a m
    unfold deg
    split <;> omega
theorem adj_irr {D : DD} (h : okN D) (a : Nat) : adj D a a = false := by unfold adj; rw [ln_irr h]; rfl
theorem sc_deg {D : DD} (h : okN D) (a : Nat) : ∀ m, sc D a m = deg D a m + (if a < m then 1 else 0)
  | 0 => rfl
  | m + 1 => by
    unfold sc deg
    rw [sc_deg h a m]
    by_cases e : a = m
    · subst e
      rw [adj_irr h, decide_eq_true rfl, if_neg (Nat.lt_irrefl a), if_pos (Nat.lt_succ_self a)]
      simp
    · rw [decide_eq_false e, Bool.false_or]
      by_cases c : a < m
      · rw [if_pos c, if_pos (show a < m + 1 by omega)]; omega
      · rw [if_neg c, if_neg (show ¬ a < m + 1 by omega)]; omega
theorem deg_kth {D : DD} {a k : Nat} : ∀ {m : Nat}, k < deg D a m → ∃ b, b < m ∧ adj D a b = true ∧ deg D a b = k
  | 0, h => absurd h (Nat.not_lt_zero k)
  | m + 1, h => by
    by_cases c : k < deg D a m
    · obtain ⟨b, h1, h2, h3⟩ := deg_kth c
      exact ⟨b, by omega, h2, h3⟩
    · unfold deg at h
      cases e : adj D a m
      · rw [e] at h; simp at h; omega
      · rw [e] at h; simp at h
        exact ⟨m, by omega, e, by omega⟩
theorem sc_kth {D : DD} {a k : Nat} : ∀ {m : Nat}, k < sc D a m → ∃ b, b < m ∧ stp D a b ∧ sc D a b = k
  | 0, h => absurd h (Nat.not_lt_zero k)
  | m + 1, h => by
    by_cases c : k < sc D a m
    · obtain ⟨b, h1, h2, h3⟩ := sc_kth c
      exact ⟨b, by omega, h2, h3⟩
    · unfold sc at h
      by_cases e : (decide (a = m) || adj D a m) = true
      · rw [if_pos e] at h
        exact ⟨m, by omega, stp_b.mp e, by omega⟩
      · rw [if_neg e] at h; omega
theorem deg_mono {D : DD} {a x : Nat} : ∀ {y : Nat}, x ≤ y → deg D a x ≤ deg D a y
  | 0, h => by rw [show x = 0 by omega]; exact Nat.le_refl _
  | y + 1, h => by
    by_cases e : x = y + 1
    · rw [e]; exact Nat.le_refl _
    · have := deg_mono (D := D) (a := a) (x := x) (y := y) (by omega)
      rw [deg]; omega
def jn (D : DD) (a : Nat) : Nat → Nat → Nat → Nat → Nat
  | 0, _, _, found => found
  | m + 1, c, left, found => if left = 0 then found else jn D a m (c + 1) (left - (if adj D a c then 1 else 0)) (if left - (if adj D a c then 1 else 0) = 0 then c else found)
theorem jn_z {D : DD} {a c f : Nat} : ∀ m, jn D a m c 0 f = f
  | 0 => rfl
  | m + 1 => by unfold jn; rw [if_pos rfl]
theorem jn_at {D : DD} {a b : Nat} (hb : adj D a b = true) : ∀ m c f, c + m = 8 → c ≤ b → b < 8 → jn D a m c (deg D a b + 1 - deg D a c) f = b
  | 0, c, f, h1, h2, h3 => by omega
  | m + 1, c, f, h1, h2, h3 => by
    have hm := deg_mono (D := D) (a := a) h2
    unfold jn
    rw [if_neg (by omega)]
    by_cases e : c = b
    · subst e
      rw [hb, if_pos rfl, show deg D a c + 1 - deg D a c - 1 = 0 by omega, if_pos rfl, jn_z]
    · have hs : deg D a (c + 1) = deg D a c + (if adj D a c then 1 else 0) := rfl
      have hm2 := deg_mono (D := D) (a := a) (show c + 1 ≤ b by omega)
      rw [show deg D a b + 1 - deg D a c - (if adj D a c then 1 else 0) = deg D a b + 1 - deg D a (c + 1) by omega, if_neg (by omega)]
      exact jn_at hb m (c + 1) f (by omega) (by omega) h3
theorem jn_one {D : DD} {a p : Nat} (hp : 1 ≤ p) (h : p ≤ deg D a 8) : ∃ b, b < 8 ∧ adj D a b = true ∧ deg D a b = p - 1 ∧ jn D a 8 0 p a = b := by
  obtain ⟨b, h1, h2, h3⟩ := deg_kth (D := D) (a := a) (k := p - 1) (m := 8) (by omega)
  refine ⟨b, h1, h2, h3, ?_⟩
  have := jn_at h2 8 0 a (by omega) (Nat.zero_le b) h1
  rw [h3, show deg D a 0 = 0 from rfl, show p - 1 + 1 - 0 = p by omega] at this
  exact this
theorem jn_stp {D : DD} {a p : Nat} (ha : a < 8) (h : p ≤ deg D a 8) : stp D a (jn D a 8 0 p a) ∧ jn D a 8 0 p a < 8 := by
  by_cases c : p = 0
  · rw [c, jn_z]; exact ⟨Or.inl rfl, ha⟩
  · obtain ⟨b, h1, h2, h3, h4⟩ := jn_one (by omega) h
    rw [h4]; exact ⟨Or.inr h2, h1⟩
section CW
variable {D : DD} {S : Mem}
theorem cn_stepsFrom (h : RC D S) (hz : D 55 6 ≠ 0) {a : Nat} (ha : a < 8) : f_Net_stepsFrom (nI a) S = some (nI (sc D a 8), S) := by
  rw [f_Net_stepsFrom_eq]
  simp (disch := omega) only [zL0, zL1, zL2, zL3, zL4, zL5, zL6, zL7, zL8, zL9, zL10, zL12, zL20, zL30, zL31, zL32, zL44, zL48, zL49, zL50, zL56, zL59, zL60, zL61, zL64, zL65, zL97, zL99, zL100, zL101, zL102, zL103, zL104, zL111, zL119, zL126, zL255, zL512, zL617, zL65535, zL65536, zL1048576, zlt, zle, zeq, ztn, zin, zzb, zadd, zmul, zm_lt, zm_gt, zm_le, zm_ge, zm_eq, zm_eq', zm_in, if_pos, if_neg, bI_s, bJ_s, bA_s, bU_s, if_true, if_false, reduceIte, or_true, true_or, or_false, false_or, and_true, true_and, and_false, false_and, not_true_eq_false, not_false_eq_true, Nat.reduceEqDiff, Nat.zero_ne_one, Nat.one_ne_zero, ct_isCorner, h.cnt hz, k_Net_stepsFrom_17_eq]
theorem cn_step (h : RC D S) (hz : D 55 6 ≠ 0) {a b : Nat} (ha : a < 8) (hb : b < 8) (hs : stp D a b) : f_Net_step (nI a) (nI (sc D a b)) S = some (nI b, S) := by
  have h1 := sc_le D a 8
  have h2 := sc_lt (D := D) (a := a) hb hs
  have h3 := h.st hz a b ha hb hs
  have h4 := h.cnt hz a ha
  rw [f_Net_step_eq]
  simp (disch := omega) only [zL0, zL1, zL2, zL3, zL4, zL5, zL6, zL7, zL8, zL9, zL10, zL12, zL20, zL30, zL31, zL32, zL44, zL48, zL49, zL50, zL56, zL59, zL60, zL61, zL64, zL65, zL97, zL99, zL100, zL101, zL102, zL103, zL104, zL111, zL119, zL126, zL255, zL512, zL617, zL65535, zL65536, zL1048576, zlt, zle, zeq, ztn, zin, zzb, zadd, zmul, zm_lt, zm_gt, zm_le, zm_ge, zm_eq, zm_eq', zm_in, if_pos, if_neg, bI_s, bJ_s, bA_s, bU_s, if_true, if_false, reduceIte, or_true, true_or, or_false, false_or, and_true, true_and, and_false, false_and, not_true_eq_false, not_false_eq_true, Nat.reduceEqDiff, Nat.zero_ne_one, Nat.one_ne_zero, ct_isCorner, h4, h3, k_Net_step_36_eq]
theorem cn_drawn (hd : okD D) (h : RC D S) {a p : Nat} (ha : a < 8) (hp : p ≤ deg D a 8) : f_Net_drawn (nI a) (nI p) S = some (nI (jn D a 8 0 p a), S) := by
  have hdl := deg_le D a 8
  have hsd := sc_deg hd.1 a
  rw [f_Net_drawn_eq]
  by_cases c : p = 0
  · rw [c, jn_z]
    simp (disch := omega) only [zL0, zL1, zL2, zL3, zL4, zL5, zL6, zL7, zL8, zL9, zL10, zL12, zL20, zL30, zL31, zL32, zL44, zL48, zL49, zL50, zL56, zL59, zL60, zL61, zL64, zL65, zL97, zL99, zL100, zL101, zL102, zL103, zL104, zL111, zL119, zL126, zL255, zL512, zL617, zL65535, zL65536, zL1048576, zlt, zle, zeq, ztn, zin, zzb, zadd, zmul, zm_lt, zm_gt, zm_le, zm_ge, zm_eq, zm_eq', zm_in, if_pos, if_neg, bI_s, bJ_s, bA_s, bU_s, if_true, if_false, reduceIte, or_true, true_or, or_false, false_or, and_true, true_and, and_false, false_and, not_true_eq_false, not_false_eq_true, Nat.reduceEqDiff, Nat.zero_ne_one, Nat.one_ne_zero]
  · obtain ⟨b, h1, h2, h3, h4⟩ := jn_one (D := D) (a := a) (p := p) (by omega) hp
    rw [h4]
    have hne : a ≠ b := fun e => by rw [← e, adj_irr hd.1] at h2; cases h2
    have h8 := hsd 8
    rw [if_pos ha] at h8
    obtain ⟨o, o1, o2, o3⟩ := sc_kth (D := D) (a := a) (k := p - 1) (m := 8) (by omega)
    have hz : D 55 6 ≠ 0 := fun q => by
      have h0 := (hd.2.2.1.2.2.2.2.1 q).1
      unfold adj at h2
      cases e : ln D a b with
      | none => rw [e] at h2; cases h2
      | some k => have := (ln_some e).1; omega
    have e1 := cn_step h hz ha o1 o2
    rw [o3] at e1
    by_cases cb : b < a
    · have hb' : sc D a b = p - 1 := by rw [hsd b, if_neg (by omega), h3]; omega
      have e2 := cn_step h hz ha h1 (Or.inr h2)
      rw [hb'] at e2
      simp (disch := omega) only [zL0, zL1, zL2, zL3, zL4, zL5, zL6, zL7, zL8, zL9, zL10, zL12, zL20, zL30, zL31, zL32, zL44, zL48, zL49, zL50, zL56, zL59, zL60, zL61, zL64, zL65, zL97, zL99, zL100, zL101, zL102, zL103, zL104, zL111, zL119, zL126, zL255, zL512, zL617, zL65535, zL65536, zL1048576, zlt, zle, zeq, ztn, zin, zzb, zadd, zmul, zm_lt, zm_gt, zm_le, zm_ge, zm_eq, zm_eq', zm_in, if_pos, if_neg, bI_s, bJ_s, bA_s, bU_s, if_true, if_false, reduceIte, or_true, true_or, or_false, false_or, and_true, true_and, and_false, false_and, not_true_eq_false, not_false_eq_true, Nat.reduceEqDiff, Nat.zero_ne_one, Nat.one_ne_zero, zsub, e2, k_Net_drawn_30_eq]
    · have hb' : sc D a b = p := by rw [hsd b, if_pos (by omega), h3]; omega
      have e2 := cn_step h hz ha h1 (Or.inr h2)
      rw [hb'] at e2
      have hoa : a ≤ o := by
        by_cases q : o < a
        · rw [hsd o, if_neg (by omega)] at o3
          have oadj : adj D a o = true := by
            rcases o2 with w | w
            · omega
            · exact w
          have : deg D a (o + 1) = deg D a o + 1 := by rw [deg, oadj]; rfl
          have hm := deg_mono (D := D) (a := a) (show o + 1 ≤ b by omega)
          omega
        · omega
      simp (disch := omega) only [zL0, zL1, zL2, zL3, zL4, zL5, zL6, zL7, zL8, zL9, zL10, zL12, zL20, zL30, zL31, zL32, zL44, zL48, zL49, zL50, zL56, zL59, zL60, zL61, zL64, zL65, zL97, zL99, zL100, zL101, zL102, zL103, zL104, zL111, zL119, zL126, zL255, zL512, zL617, zL65535, zL65536, zL1048576, zlt, zle, zeq, ztn, zin, zzb, zadd, zmul, zm_lt, zm_gt, zm_le, zm_ge, zm_eq, zm_eq', zm_in, if_pos, if_neg, bI_s, bJ_s, bA_s, bU_s, if_true, if_false, reduceIte, or_true, true_or, or_false, false_or, and_true, true_and, and_false, false_and, not_true_eq_false, not_false_eq_true, Nat.reduceEqDiff, Nat.zero_ne_one, Nat.one_ne_zero, zsub, e1, e2, k_Net_drawn_30_eq]
theorem mo_degree (hn : okN D) (hm : RM D S) {a : Nat} (ha : a < 8) : f_Mod_degree (nI a) S = some (nI (deg D a 8), S) := by
  have key : ∀ m i, i + m = 8 → k_Mod_degree_4 (nI a) (nI (deg D a i)) (nI i) S = some (nI (deg D a 8), S) := by
    intro m
    induction m with
    | zero =>
      intro i hi
      rw [k_Mod_degree_4_eq, show i = 8 by omega]
      simp (disch := omega) only [zL0, zL1, zL2, zL3, zL4, zL5, zL6, zL7, zL8, zL9, zL10, zL12, zL20, zL30, zL31, zL32, zL44, zL48, zL49, zL50, zL56, zL59, zL60, zL61, zL64, zL65, zL97, zL99, zL100, zL101, zL102, zL103, zL104, zL111, zL119, zL126, zL255, zL512, zL617, zL65535, zL65536, zL1048576, zlt, zle, zeq, ztn, zin, zzb, zadd, zmul, zm_lt, zm_gt, zm_le, zm_ge, zm_eq, zm_eq', zm_in, if_pos, if_neg, bI_s, bJ_s, bA_s, bU_s, if_true, if_false, reduceIte, or_true, true_or, or_false, false_or, and_true, true_and, and_false, false_and, not_true_eq_false, not_false_eq_true, Nat.reduceEqDiff, Nat.zero_ne_one, Nat.one_ne_zero]
    | succ m ih =>
      intro i hi
      have hl := mo_laneOf hm hn (a := a) (b := i) (by omega) (by omega)
      rw [← ih (i + 1) (by omega), k_Mod_degree_4_eq, deg]
      unfold adj
      cases e : ln D a i with
      | none =>
        rw [e] at hl
        simp (disch := omega) only [zL0, zL1, zL2, zL3, zL4, zL5, zL6, zL7, zL8, zL9, zL10, zL12, zL20, zL30, zL31, zL32, zL44, zL48, zL49, zL50, zL56, zL59, zL60, zL61, zL64, zL65, zL97, zL99, zL100, zL101, zL102, zL103, zL104, zL111, zL119, zL126, zL255, zL512, zL617, zL65535, zL65536, zL1048576, zlt, zle, zeq, ztn, zin, zzb, zadd, zmul, zm_lt, zm_gt, zm_le, zm_ge, zm_eq, zm_eq', zm_in, if_pos, if_neg, bI_s, bJ_s, bA_s, bU_s, if_true, if_false, reduceIte, or_true, true_or, or_false, false_or, and_true, true_and, and_false, false_and, not_true_eq_false, not_false_eq_true, Nat.reduceEqDiff, Nat.zero_ne_one, Nat.one_ne_zero, hl, eo, k_Mod_degree_26_eq, Option.isSome_none, Bool.false_eq_true]
      | some q =>
        rw [e] at hl
        have hq := ln_lt hn e
        simp (disch := omega) only [zL0, zL1, zL2, zL3, zL4, zL5, zL6, zL7, zL8, zL9, zL10, zL12, zL20, zL30, zL31, zL32, zL44, zL48, zL49, zL50, zL56, zL59, zL60, zL61, zL64, zL65, zL97, zL99, zL100, zL101, zL102, zL103, zL104, zL111, zL119, zL126, zL255, zL512, zL617, zL65535, zL65536, zL1048576, zlt, zle, zeq, ztn, zin, zzb, zadd, zmul, zm_lt, zm_gt, zm_le, zm_ge, zm_eq, zm_eq', zm_in, if_pos, if_neg, bI_s, bJ_s, bA_s, bU_s, if_true, if_false, reduceIte, or_true, true_or, or_false, false_or, and_true, true_and, and_false, false_and, not_true_eq_false, not_false_eq_true, Nat.reduceEqDiff, Nat.zero_ne_one, Nat.one_ne_zero, hl, eo, k_Mod_degree_26_eq, Option.isSome_some]
  rw [f_Mod_degree_eq, zL0]
  exact key 8 0 (by omega)
theorem mo_joined (hn : okN D) (hm : RM D S) {a p : Nat} (ha : a < 8) (hp : p < 1000) : f_Mod_joined (nI a) (nI p) S = some (nI (jn D a 8 0 p a), S) := by
  have key : ∀ m c left f, c + m = 8 → left < 1000 → k_Mod_joined_8 (nI a) (nI left) (nI c) (nI f) S = some (nI (jn D a m c left f), S) := by
    intro m
    induction m with
    | zero =>
      intro c left f hc hl
      rw [k_Mod_joined_8_eq, jn]
      simp (disch := omega) only [zL0, zL1, zL2, zL3, zL4, zL5, zL6, zL7, zL8, zL9, zL10, zL12, zL20, zL30, zL31, zL32, zL44, zL48, zL49, zL50, zL56, zL59, zL60, zL61, zL64, zL65, zL97, zL99, zL100, zL101, zL102, zL103, zL104, zL111, zL119, zL126, zL255, zL512, zL617, zL65535, zL65536, zL1048576, zlt, zle, zeq, ztn, zin, zzb, zadd, zmul, zm_lt, zm_gt, zm_le, zm_ge, zm_eq, zm_eq', zm_in, if_pos, if_neg, bI_s, bJ_s, bA_s, bU_s, if_true, if_false, reduceIte, or_true, true_or, or_false, false_or, and_true, true_and, and_false, false_and, not_true_eq_false, not_false_eq_true, Nat.reduceEqDiff, Nat.zero_ne_one, Nat.one_ne_zero, k_Mod_joined_57_eq]
    | succ m ih =>
      intro c left f hc hlf
      have hl := mo_laneOf hm hn (a := a) (b := c) (by omega) (by omega)
      rw [k_Mod_joined_8_eq, jn]
      by_cases c0 : left = 0
      · simp (disch := omega) only [zL0, zL1, zL2, zL3, zL4, zL5, zL6, zL7, zL8, zL9, zL10, zL12, zL20, zL30, zL31, zL32, zL44, zL48, zL49, zL50, zL56, zL59, zL60, zL61, zL64, zL65, zL97, zL99, zL100, zL101, zL102, zL103, zL104, zL111, zL119, zL126, zL255, zL512, zL617, zL65535, zL65536, zL1048576, zlt, zle, zeq, ztn, zin, zzb, zadd, zmul, zm_lt, zm_gt, zm_le, zm_ge, zm_eq, zm_eq', zm_in, if_pos, if_neg, bI_s, bJ_s, bA_s, bU_s, if_true, if_false, reduceIte, or_true, true_or, or_false, false_or, and_true, true_and, and_false, false_and, not_true_eq_false, not_false_eq_true, Nat.reduceEqDiff, Nat.zero_ne_one, Nat.one_ne_zero, k_Mod_joined_57_eq]
      · unfold adj
        cases e : ln D a c with
        | none =>
          rw [e] at hl
          have hn' := ih (c + 1) left f (by omega) hlf
          simp (disch := omega) only [zL0, zL1, zL2, zL3, zL4, zL5, zL6, zL7, zL8, zL9, zL10, zL12, zL20, zL30, zL31, zL32, zL44, zL48, zL49, zL50, zL56, zL59, zL60, zL61, zL64, zL65, zL97, zL99, zL100, zL101, zL102, zL103, zL104, zL111, zL119, zL126, zL255, zL512, zL617, zL65535, zL65536, zL1048576, zlt, zle, zeq, ztn, zin, zzb, zadd, zmul, zm_lt, zm_gt, zm_le, zm_ge, zm_eq, zm_eq', zm_in, if_pos, if_neg, bI_s, bJ_s, bA_s, bU_s, if_true, if_false, reduceIte, or_true, true_or, or_false, false_or, and_true, true_and, and_false, false_and, not_true_eq_false, not_false_eq_true, Nat.reduceEqDiff, Nat.zero_ne_one, Nat.one_ne_zero, hl, eo, k_Mod_joined_36_eq, k_Mod_joined_49_eq, Option.isSome_none, Bool.false_eq_true, zsub, Nat.sub_zero, hn']
        | some q =>
          rw [e] at hl
          have hq := ln_lt hn e
          by_cases c1 : left - 1 = 0
          · have hn' := ih (c + 1) (left - 1) c (by omega) (by omega)
            simp (disch := omega) only [zL0, zL1, zL2, zL3, zL4, zL5, zL6, zL7, zL8, zL9, zL10, zL12, zL20, zL30, zL31, zL32, zL44, zL48, zL49, zL50, zL56, zL59, zL60, zL61, zL64, zL65, zL97, zL99, zL100, zL101, zL102, zL103, zL104, zL111, zL119, zL126, zL255, zL512, zL617, zL65535, zL65536, zL1048576, zlt, zle, zeq, ztn, zin, zzb, zadd, zmul, zm_lt, zm_gt, zm_le, zm_ge, zm_eq, zm_eq', zm_in, if_pos, if_neg, bI_s, bJ_s, bA_s, bU_s, if_true, if_false, reduceIte, or_true, true_or, or_false, false_or, and_true, true_and, and_false, false_and, not_true_eq_false, not_false_eq_true, Nat.reduceEqDiff, Nat.zero_ne_one, Nat.one_ne_zero, hl, eo, k_Mod_joined_36_eq, k_Mod_joined_49_eq, Option.isSome_some, zsub, hn']
          · have hn' := ih (c + 1) (left - 1) f (by omega) (by omega)
            simp (disch := omega) only [zL0, zL1, zL2, zL3, zL4, zL5, zL6, zL7, zL8, zL9, zL10, zL12, zL20, zL30, zL31, zL32, zL44, zL48, zL49, zL50, zL56, zL59, zL60, zL61, zL64, zL65, zL97, zL99, zL100, zL101, zL102, zL103, zL104, zL111, zL119, zL126, zL255, zL512, zL617, zL65535, zL65536, zL1048576, zlt, zle, zeq, ztn, zin, zzb, zadd, zmul, zm_lt, zm_gt, zm_le, zm_ge, zm_eq, zm_eq', zm_in, if_pos, if_neg, bI_s, bJ_s, bA_s, bU_s, if_true, if_false, reduceIte, or_true, true_or, or_false, false_or, and_true, true_and, and_false, false_and, not_true_eq_false, not_false_eq_true, Nat.reduceEqDiff, Nat.zero_ne_one, Nat.one_ne_zero, hl, eo, k_Mod_joined_36_eq, k_Mod_joined_49_eq, Option.isSome_some, zsub, hn']
  rw [f_Mod_joined_eq, zL0]
  exact key 8 0 p a (by omega) hp
end CW
/-! a minute by draws -/
def wdn (D : DD) (s : Nat) : Nat → Nat × (Nat → Nat)
  | 0 => (s, fun _ => 0)
  | n + 1 => (sdn (wdn D s n).1, dU (wdn D s n).2 n (jn D (D 60 n) 8 0 (dw (wdn D s n).1 (deg D (D 60 n) 8 + 1)) (D 60 n)))
theorem wdn_lt {D : DD} {s : Nat} (hs : s < 2147483648) : ∀ n, (wdn D s n).1 < 2147483648
  | 0 => hs
  | n + 1 => sdn_lt _
theorem wdn_st {D : DD} {s i n : Nat} (hi : i < n) : ∀ d, (wdn D s (n + d)).2 i = (wdn D s n).2 i
  | 0 => rfl
  | d + 1 => by
    rw [← Nat.add_assoc, wdn]
    show dU _ _ _ i = _
    rw [dU_n (by omega), wdn_st hi d]
theorem wdn_at {D : DD} {s i n : Nat} (hi : i < n) : (wdn D s n).2 i = jn D (D 60 i) 8 0 (dw (wdn D s i).1 (deg D (D 60 i) 8 + 1)) (D 60 i) := by
  have e : n = (i + 1) + (n - (i + 1)) := by omega
  rw [e, wdn_st (by omega), wdn]
  show dU _ _ _ i = _
  rw [dU_s rfl]
theorem wdn_ok {D : DD} {s i : Nat} (hw : ∀ i, i < D 55 7 → D 60 i < 8) (hi : i < D 55 7) : stp D (D 60 i) ((wdn D s (D 55 7)).2 i) ∧ (wdn D s (D 55 7)).2 i < 8 := by
  rw [wdn_at hi]
  refine jn_stp (hw i hi) ?_
  have : dw (wdn D s i).1 (deg D (D 60 i) 8 + 1) < deg D (D 60 i) 8 + 1 := Nat.mod_lt _ (by omega)
  omega
def crk (D : DD) (g : Nat) (w : Nat → Nat) (n : Nat) : DD := dS D 60 (fun i => if i < n then (if g.testBit i then D 60 i else w i) else D 60 i)
def crd (D : DD) (g : Nat) (w : Nat → Nat) : DD := crk D g w (D 55 7)
theorem crk_row {D : DD} {g : Nat} {w : Nat → Nat} {n a : Nat} (h : ¬ a = 60) : crk D g w n a = D a := dS_n h
theorem crk_60 {D : DD} {g : Nat} {w : Nat → Nat} {n i : Nat} : crk D g w n 60 i = if i < n then (if g.testBit i then D 60 i else w i) else D 60 i := rfl
def cwn (P : Nat → Nat → Bool) : Nat → Nat → DD → Nat × Nat × DD
  | 0, s, D => (0, s, D)
  | m + 1, s, D => ((lay D P (wdn D s (D 55 7)).2).1 + (cwn P m (wdn D s (D 55 7)).1 (crd D (lay D P (wdn D s (D 55 7)).2).2.2 (wdn D s (D 55 7)).2)).1, (cwn P m (wdn D s (D 55 7)).1 (crd D (lay D P (wdn D s (D 55 7)).2).2.2 (wdn D s (D 55 7)).2)).2)
