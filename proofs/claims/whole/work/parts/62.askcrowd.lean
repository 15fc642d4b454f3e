/-! the crowd: both sides -/
section CR
variable {D D' : DD} {P : Nat → Nat → Bool}
theorem crd_ovr (ho : ovr D D') (g : Nat) (w : Nat → Nat) : ovr D (crd D' g w) := fun a h0 h5 => by
  unfold crd
  rw [crk_row h0, ho a h0 h5]
def MRc (D' : DD) (S : Mem) : Prop := ∀ i, i < 5 → S.1 41 i = nI (if i < D' 55 7 then D' 60 i else 0)
theorem cm_wander (hd : okD D) (ho : ovr D D') (h8 : ∀ i, i < D' 55 7 → D' 60 i < 8) {S : Mem} (hr : RC D S) (hm : MRc D' S) (hP : PB P S) {M : Nat → Nat} (hM : ME M S) {s : Nat} (hs : s < 2147483648) (hseed : S.2 40 10 = lN s) : ∃ S', f_Morning_wander S = some (nI (lay D' P (wdn D' s (D' 55 7)).2).1, S') ∧ frW S S' ∧ S'.2 40 10 = lN (wdn D' s (D' 55 7)).1 ∧ MRc (crd D' (lay D' P (wdn D' s (D' 55 7)).2).2.2 (wdn D' s (D' 55 7)).2) S' ∧ ∃ M', ME M' S' := by
  have e7 : D' 55 = D 55 := ho 55 (by omega) (by omega)
  have w5 : D' 55 7 ≤ 5 := by rw [e7]; exact hd.2.1.1
  have hn' : okN D' := okN_row hd.1 e7 (ho 56 (by omega) (by omega)) (ho 57 (by omega) (by omega)) (ho 58 (by omega) (by omega))
  have hadj : ∀ a b, adj D' a b = adj D a b := fun a b => by
    unfold adj
    rw [ln_row e7 (ho 56 (by omega) (by omega)) (ho 57 (by omega) (by omega))]
  have hdeg : ∀ a m, deg D' a m = deg D a m := fun a m => by
    induction m with
    | zero => rfl
    | succ m ih => unfold deg; rw [ih, hadj]
  have hjn : ∀ a m c l f, jn D' a m c l f = jn D a m c l f := fun a m => by
    induction m with
    | zero => intro c l f; rfl
    | succ m ih => intro c l f; unfold jn; rw [hadj]; simp only [ih]
  obtain ⟨W, hW⟩ : ∃ W, W = D' 55 7 := ⟨_, rfl⟩
  rw [← hW] at w5
  obtain ⟨S1, e1, f1, z1, q1⟩ := zfor (fun i S => k_Morning_wander_2 (nI i) S) 5 (fun i S1 => (∀ x k, x ≠ 43 → S1.1 x k = S.1 x k) ∧ S1.2 40 10 = lN (wdn D' s (if i < W then i else W)).1 ∧ ∀ j, j < i → S1.1 43 j = nI (if j < W then (wdn D' s W).2 j else 0)) (by
    intro i S1 hi ⟨f1, z1, q1⟩
    have hr1 : RC D S1 := RC_f hd hr (fun a k q => f1 a k (by omega))
    have m41 : S1.1 41 i = nI (if i < W then D' 60 i else 0) := by rw [f1 _ _ (by omega), hW]; exact hm i hi
    obtain ⟨Sa, hSa⟩ : ∃ Sa, Sa = u1 S1 43 i (nI (if i < W then D' 60 i else 0)) := ⟨_, rfl⟩
    have hra : RC D Sa := RC_f hd hr1 (fun a k q => by rw [hSa, zuN (by omega)])
    by_cases c : i < W
    · rw [if_pos c] at m41 hSa z1
      have hc8 := h8 i (by omega)
      have c' : i < D 55 7 := by rw [← e7, ← hW]; exact c
      have hsl := wdn_lt (D := D') hs i
      have hd1 := cn_stepsFrom hra (fun q => by have := (hd.2.2.1.2.2.2.2.1 q).2.1; omega) hc8
      have hsd := sc_deg hd.1 (D' 60 i) 8
      rw [if_pos hc8] at hsd
      have hdl := deg_le D (D' 60 i) 8
      have hsa : Sa.2 40 10 = lN (wdn D' s i).1 := by rw [hSa]; exact z1
      have hdr := cm_draw (S := Sa) (d := sc D (D' 60 i) 8) hsl hsa (by omega) (by omega)
      obtain ⟨Sb, hSb⟩ : ∃ Sb, Sb = u2 Sa 40 10 (lN (sdn (wdn D' s i).1)) := ⟨_, rfl⟩
      rw [← hSb] at hdr
      have hrb : RC D Sb := RC_f hd hra (fun a k q => by rw [hSb]; rfl)
      have hmod : dw (wdn D' s i).1 (sc D (D' 60 i) 8) < sc D (D' 60 i) 8 := Nat.mod_lt _ (by omega)
      have hdn := cn_drawn hd hrb (a := D' 60 i) (p := dw (wdn D' s i).1 (sc D (D' 60 i) 8)) hc8 (by omega)
      have hwi : (wdn D' s W).2 i = jn D (D' 60 i) 8 0 (dw (wdn D' s i).1 (sc D (D' 60 i) 8)) (D' 60 i) := by
        rw [wdn_at c, hjn, hdeg, hsd]
      have a41 : Sa.1 41 i = nI (D' 60 i) := by rw [hSa, zuN (by omega)]; exact m41
      have b41 : Sb.1 41 i = nI (D' 60 i) := by rw [hSb]; exact a41
      refine ⟨u1 Sb 43 i (nI ((wdn D' s W).2 i)), ?_, fun x k q => by rw [zuN (by omega), hSb]; show Sa.1 x k = _; rw [hSa, zuN (by omega), f1 x k q], ?_, fun j hj => ?_⟩
      · rw [k_Morning_wander_2_eq]
        simp (disch := omega) only [zL0, zL1, zL2, zL3, zL4, zL5, zL6, zL7, zL8, zL9, zL10, zL12, zL20, zL30, zL31, zL32, zL44, zL48, zL49, zL50, zL56, zL59, zL60, zL61, zL64, zL65, zL97, zL99, zL100, zL101, zL102, zL103, zL104, zL111, zL119, zL126, zL255, zL512, zL617, zL65535, zL65536, zL1048576, zlt, zle, zeq, ztn, zin, zzb, zadd, zmul, zm_lt, zm_gt, zm_le, zm_ge, zm_eq, zm_eq', zm_in, if_pos, if_neg, bI_s, bJ_s, bA_s, bU_s, if_true, if_false, reduceIte, or_true, true_or, or_false, false_or, and_true, true_and, and_false, false_and, not_true_eq_false, not_false_eq_true, Nat.reduceEqDiff, Nat.zero_ne_one, Nat.one_ne_zero, m41]
        rw [← hSa]
        simp (disch := omega) only [ct_at hra.w hd.2.1.1 c', bA_s, oc]
        rw [k_Morning_wander_30_eq]
        simp (disch := omega) only [zL0, zL1, zL2, zL3, zL4, zL5, zL6, zL7, zL8, zL9, zL10, zL12, zL20, zL30, zL31, zL32, zL44, zL48, zL49, zL50, zL56, zL59, zL60, zL61, zL64, zL65, zL97, zL99, zL100, zL101, zL102, zL103, zL104, zL111, zL119, zL126, zL255, zL512, zL617, zL65535, zL65536, zL1048576, zlt, zle, zeq, ztn, zin, zzb, zadd, zmul, zm_lt, zm_gt, zm_le, zm_ge, zm_eq, zm_eq', zm_in, if_pos, if_neg, bI_s, bJ_s, bA_s, bU_s, if_true, if_false, reduceIte, or_true, true_or, or_false, false_or, and_true, true_and, and_false, false_and, not_true_eq_false, not_false_eq_true, Nat.reduceEqDiff, Nat.zero_ne_one, Nat.one_ne_zero, a41, hd1, hdr, hdn, k_Morning_wander_66_eq, hwi]
      · show Sb.2 40 10 = _
        rw [hSb, zvS ⟨rfl, rfl⟩]
        by_cases c2 : i + 1 < W
        · rw [if_pos c2]; rfl
        · rw [if_neg c2, show W = i + 1 by omega]; rfl
      · by_cases e : j = i
        · rw [zuS ⟨rfl, e⟩, e, if_pos c]
        · rw [zuN (by omega), hSb]
          show Sa.1 43 j = _
          rw [hSa, zuN (by omega), q1 j (by omega)]
    · rw [if_neg c] at m41 hSa z1
      have c' : ¬ i < D 55 7 := by rw [← e7, ← hW]; exact c
      refine ⟨Sa, ?_, fun x k q => by rw [hSa, zuN (by omega), f1 x k q], ?_, fun j hj => ?_⟩
      · rw [k_Morning_wander_2_eq]
        simp (disch := omega) only [zL0, zL1, zL2, zL3, zL4, zL5, zL6, zL7, zL8, zL9, zL10, zL12, zL20, zL30, zL31, zL32, zL44, zL48, zL49, zL50, zL56, zL59, zL60, zL61, zL64, zL65, zL97, zL99, zL100, zL101, zL102, zL103, zL104, zL111, zL119, zL126, zL255, zL512, zL617, zL65535, zL65536, zL1048576, zlt, zle, zeq, ztn, zin, zzb, zadd, zmul, zm_lt, zm_gt, zm_le, zm_ge, zm_eq, zm_eq', zm_in, if_pos, if_neg, bI_s, bJ_s, bA_s, bU_s, if_true, if_false, reduceIte, or_true, true_or, or_false, false_or, and_true, true_and, and_false, false_and, not_true_eq_false, not_false_eq_true, Nat.reduceEqDiff, Nat.zero_ne_one, Nat.one_ne_zero, m41]
        rw [← hSa]
        simp (disch := omega) only [ct_at0 hra.w hd.2.1.1, bA_s, oc, k_Morning_wander_66_eq, zL0, zL1, zL2, zL3, zL4, zL5, zL6, zL7, zL8, zL9, zL10, zL12, zL20, zL30, zL31, zL32, zL44, zL48, zL49, zL50, zL56, zL59, zL60, zL61, zL64, zL65, zL97, zL99, zL100, zL101, zL102, zL103, zL104, zL111, zL119, zL126, zL255, zL512, zL617, zL65535, zL65536, zL1048576, zlt, zle, zeq, ztn, zin, zzb, zadd, zmul, zm_lt, zm_gt, zm_le, zm_ge, zm_eq, zm_eq', zm_in, if_pos, if_neg, bI_s, bJ_s, bA_s, bU_s, if_true, if_false, reduceIte, or_true, true_or, or_false, false_or, and_true, true_and, and_false, false_and, not_true_eq_false, not_false_eq_true, Nat.reduceEqDiff, Nat.zero_ne_one, Nat.one_ne_zero]
      · rw [if_neg (by omega), hSa]; exact z1
      · by_cases e : j = i
        · rw [hSa, zuS ⟨rfl, e⟩, e, if_neg c]
        · rw [hSa, zuN (by omega), q1 j (by omega)]) 5 0 S (by omega) ⟨fun _ _ _ => rfl, by
      by_cases c : 0 < W
      · rw [if_pos c]; exact hseed
      · rw [if_neg c, show W = 0 by omega]; exact hseed, fun _ _ => by omega⟩
  rw [if_neg (by omega)] at z1
  have hr1 : RC D S1 := RC_f hd hr (fun a k q => f1 a k (by omega))
  have hwk := fun i (hi : i < D' 55 7) => wdn_ok (D := D') (s := s) h8 hi
  rw [hW] at q1 w5 z1
  obtain ⟨S2, e2, f2, i2⟩ := cm_meet (c := fun i => if i < D' 55 7 then D' 60 i else 0) (w := fun i => if i < D' 55 7 then (wdn D' s (D' 55 7)).2 i else 0) hd hr1 (fun i hi => ⟨by rw [f1 _ _ (by omega)]; exact hm i hi, by
      by_cases c : i < D' 55 7
      · rw [if_pos c]; exact h8 i c
      · rw [if_neg c]; omega⟩) (fun i hi => ⟨q1 i hi, by
      by_cases c : i < D' 55 7
      · rw [if_pos c]; exact (hwk i c).2
      · rw [if_neg c]; omega⟩) (fun i j hi hj => by rw [f1 _ _ (by omega)]; exact hP i j hi hj) (M := M) (fun i hi => by rw [f1 _ _ (by omega)]; exact hM i hi)
  rw [lay_mxV hd ho w5] at e2 i2
  obtain ⟨g, hgg⟩ : ∃ g, g = (lay D' P (wdn D' s (D' 55 7)).2).2.2 := ⟨_, rfl⟩
  have b2 := i2.1
  rw [← hgg] at b2
  obtain ⟨S4, e4, f4, g4, q4⟩ := cm_settle (S := S2) (g := g) b2
  refine ⟨S4, ?_, fun x k q0 q1' q2 q3' q4' q6 => ?_, by rw [g4, f2.2]; exact z1, fun i hi => ?_, _, fun i hi => by rw [f4 _ _ (by omega)]; exact i2.2.2.2 i hi⟩
  · rw [f_Morning_wander_eq, zL0, e1, k_Morning_wander_2_eq]
    simp (disch := omega) only [zL0, zL1, zL2, zL3, zL4, zL5, zL6, zL7, zL8, zL9, zL10, zL12, zL20, zL30, zL31, zL32, zL44, zL48, zL49, zL50, zL56, zL59, zL60, zL61, zL64, zL65, zL97, zL99, zL100, zL101, zL102, zL103, zL104, zL111, zL119, zL126, zL255, zL512, zL617, zL65535, zL65536, zL1048576, zlt, zle, zeq, ztn, zin, zzb, zadd, zmul, zm_lt, zm_gt, zm_le, zm_ge, zm_eq, zm_eq', zm_in, if_pos, if_neg, bI_s, bJ_s, bA_s, bU_s, if_true, if_false, reduceIte, or_true, true_or, or_false, false_or, and_true, true_and, and_false, false_and, not_true_eq_false, not_false_eq_true, Nat.reduceEqDiff, Nat.zero_ne_one, Nat.one_ne_zero, e2, e4]
  · rw [f4 x k q1', f2.1 x k q0 q4' q6, f1 x k q3']
  · rw [q4 i hi, f2.1 _ _ (by omega) (by omega) (by omega), f2.1 _ _ (by omega) (by omega) (by omega), f1 _ _ (by omega), hm i hi, q1 i hi, ← hgg]
    have c7 : crd D' g (wdn D' s (D' 55 7)).2 55 = D' 55 := crk_row (by omega)
    rw [c7]
    by_cases c : i < D' 55 7
    · rw [if_pos c, if_pos c, if_pos c]
      show _ = nI (crk D' g _ (D' 55 7) 60 i)
      rw [crk_60, if_pos c]
      split <;> rfl
    · rw [if_neg c, if_neg c, if_neg c]
      split <;> rfl
theorem crd_8 {s : Nat} {g : Nat} (h8 : ∀ i, i < D' 55 7 → D' 60 i < 8) : ∀ i, i < crd D' g (wdn D' s (D' 55 7)).2 55 7 → crd D' g (wdn D' s (D' 55 7)).2 60 i < 8 := by
  intro i hi
  have c7 : crd D' g (wdn D' s (D' 55 7)).2 55 = D' 55 := crk_row (by omega)
  rw [c7] at hi
  show crk D' g _ (D' 55 7) 60 i < 8
  rw [crk_60, if_pos hi]
  split
  · exact h8 i hi
  · exact (wdn_ok h8 hi).2
theorem crd_7 {D : DD} {g : Nat} {w : Nat → Nat} : crd D g w 55 = D 55 := crk_row (by omega)
theorem ct_crowd_k (hd : okD D) {x wh : Nat} (hx : x ≤ 60) : ∀ m i t s D' M S, i + m = x → t + 10 * m ≤ 10000 → s < 2147483648 → ovr D D' → (∀ i, i < D' 55 7 → D' 60 i < 8) → RC D S → MRc D' S → PB P S → ME M S → S.2 40 10 = lN s → ∃ S', k_Top_crowd_56 (nI x) (nI wh) (nI t) (nI i) S = k_Top_crowd_56 (nI x) (nI wh) (nI (t + (cwn P m s D').1)) (nI x) S' ∧ frW S S' ∧ MRc (cwn P m s D').2.2 S' ∧ S'.2 40 10 = lN (cwn P m s D').2.1 ∧ ovr D (cwn P m s D').2.2 ∧ (cwn P m s D').2.1 < 2147483648 ∧ (cwn P m s D').1 ≤ 10 * m := by
  intro m
  induction m with
  | zero =>
    intro i t s D' M S hi ht hs ho h8 hr hm hP hM hz
    refine ⟨S, ?_, frW_r S, hm, hz, ho, hs, Nat.le_refl 0⟩
    rw [show i = x by omega]
    rfl
  | succ m ih =>
    intro i t s D' M S hi ht hs ho h8 hr hm hP hM hz
    have e7 : D' 55 = D 55 := ho 55 (by omega) (by omega)
    have w5 : D' 55 7 ≤ 5 := by rw [e7]; exact hd.2.1.1
    obtain ⟨S1, e1, f1, z1, m1, M1, hM1⟩ := cm_wander hd ho h8 hr hm hP hM hs hz
    have hr1 : RC D S1 := RC_f hd hr (frW_C f1)
    have hle := lb_le (f := cl D' P (wdn D' s (D' 55 7)).2) w5
    have hle2 : (lay D' P (wdn D' s (D' 55 7)).2).1 ≤ 10 := hle
    obtain ⟨S2, e2, f2, m2, z2, o2, l2, t2⟩ := ih (i + 1) (t + (lay D' P (wdn D' s (D' 55 7)).2).1) (wdn D' s (D' 55 7)).1 (crd D' (lay D' P (wdn D' s (D' 55 7)).2).2.2 (wdn D' s (D' 55 7)).2) M1 S1 (by omega) (by omega) (wdn_lt hs _) (crd_ovr ho _ _) (crd_8 h8) hr1 m1 (PB_fr hP (fun k => f1 _ _ (by omega) (by omega) (by omega) (by omega) (by omega) (by omega))) hM1 z1
    refine ⟨S2, ?_, frW_t f1 f2, m2, z2, o2, l2, ?_⟩
    · rw [cwn]
      show _ = k_Top_crowd_56 (nI x) (nI wh) (nI (t + ((lay D' P (wdn D' s (D' 55 7)).2).1 + _))) (nI x) S2
      rw [← Nat.add_assoc, ← e2, k_Top_crowd_56_eq]
      simp (disch := omega) only [zL0, zL1, zL2, zL3, zL4, zL5, zL6, zL7, zL8, zL9, zL10, zL12, zL20, zL30, zL31, zL32, zL44, zL48, zL49, zL50, zL56, zL59, zL60, zL61, zL64, zL65, zL97, zL99, zL100, zL101, zL102, zL103, zL104, zL111, zL119, zL126, zL255, zL512, zL617, zL65535, zL65536, zL1048576, zlt, zle, zeq, ztn, zin, zzb, zadd, zmul, zm_lt, zm_gt, zm_le, zm_ge, zm_eq, zm_eq', zm_in, if_pos, if_neg, bI_s, bJ_s, bA_s, bU_s, if_true, if_false, reduceIte, or_true, true_or, or_false, false_or, and_true, true_and, and_false, false_and, not_true_eq_false, not_false_eq_true, Nat.reduceEqDiff, Nat.zero_ne_one, Nat.one_ne_zero, e1]
    · rw [cwn]
      show (lay D' P (wdn D' s (D' 55 7)).2).1 + _ ≤ _
      omega
theorem cm_atGoals (hd : okD D) (ho : ovr D D') (h8 : ∀ i, i < D' 55 7 → D' 60 i < 100) {S : Mem} (hr : RC D S) (hm : MRc D' S) : f_Morning_atGoals S = some (nI (goalM D' (D' 55 7)), S) := by
  have e7 : D' 55 = D 55 := ho 55 (by omega) (by omega)
  have e61 : D' 61 = D 61 := ho 61 (by omega) (by omega)
  have w5 : D' 55 7 ≤ 5 := by rw [e7]; exact hd.2.1.1
  have gl := goalM_lt (D := D') w5
  have key : ∀ m i, i + m = 5 → k_Morning_atGoals_4 (nI (goalM D' (if i < D' 55 7 then i else D' 55 7))) (nI i) S = some (nI (goalM D' (D' 55 7)), S) := by
    intro m
    induction m with
    | zero =>
      intro i hi
      rw [k_Morning_atGoals_4_eq, if_neg (show ¬ i < D' 55 7 by omega)]
      simp (disch := omega) only [zL0, zL1, zL2, zL3, zL4, zL5, zL6, zL7, zL8, zL9, zL10, zL12, zL20, zL30, zL31, zL32, zL44, zL48, zL49, zL50, zL56, zL59, zL60, zL61, zL64, zL65, zL97, zL99, zL100, zL101, zL102, zL103, zL104, zL111, zL119, zL126, zL255, zL512, zL617, zL65535, zL65536, zL1048576, zlt, zle, zeq, ztn, zin, zzb, zadd, zmul, zm_lt, zm_gt, zm_le, zm_ge, zm_eq, zm_eq', zm_in, if_pos, if_neg, bI_s, bJ_s, bA_s, bU_s, if_true, if_false, reduceIte, or_true, true_or, or_false, false_or, and_true, true_and, and_false, false_and, not_true_eq_false, not_false_eq_true, Nat.reduceEqDiff, Nat.zero_ne_one, Nat.one_ne_zero]
    | succ m ih =>
      intro i hi
      have hn := ih (i + 1) (by omega)
      rw [← hn, k_Morning_atGoals_4_eq]
      by_cases c : i < D' 55 7
      · have c' : i < D 55 7 := by rw [← e7]; exact c
        have wi := hd.2.1.2 i c'
        have hg := hr.goal i c'
        have hc := hm i (by omega)
        have h8i := h8 i c
        rw [if_pos c] at hc
        have en : (if i + 1 < D' 55 7 then i + 1 else D' 55 7) = i + 1 := by
          by_cases c2 : i + 1 < D' 55 7
          · rw [if_pos c2]
          · rw [if_neg c2]; omega
        rw [if_pos c, en, goalM, e61]
        by_cases c3 : D' 60 i = D 61 i
        · simp (disch := omega) only [zL0, zL1, zL2, zL3, zL4, zL5, zL6, zL7, zL8, zL9, zL10, zL12, zL20, zL30, zL31, zL32, zL44, zL48, zL49, zL50, zL56, zL59, zL60, zL61, zL64, zL65, zL97, zL99, zL100, zL101, zL102, zL103, zL104, zL111, zL119, zL126, zL255, zL512, zL617, zL65535, zL65536, zL1048576, zlt, zle, zeq, ztn, zin, zzb, zadd, zmul, zm_lt, zm_gt, zm_le, zm_ge, zm_eq, zm_eq', zm_in, if_pos, if_neg, bI_s, bJ_s, bA_s, bU_s, if_true, if_false, reduceIte, or_true, true_or, or_false, false_or, and_true, true_and, and_false, false_and, not_true_eq_false, not_false_eq_true, Nat.reduceEqDiff, Nat.zero_ne_one, Nat.one_ne_zero, ct_at hr.w hd.2.1.1 c', oc, k_Morning_atGoals_22_eq (isW_i (show i < 5 by omega)), hg, hc, c3, zsh, zor, k_Morning_atGoals_41_eq]
        · simp (disch := omega) only [zL0, zL1, zL2, zL3, zL4, zL5, zL6, zL7, zL8, zL9, zL10, zL12, zL20, zL30, zL31, zL32, zL44, zL48, zL49, zL50, zL56, zL59, zL60, zL61, zL64, zL65, zL97, zL99, zL100, zL101, zL102, zL103, zL104, zL111, zL119, zL126, zL255, zL512, zL617, zL65535, zL65536, zL1048576, zlt, zle, zeq, ztn, zin, zzb, zadd, zmul, zm_lt, zm_gt, zm_le, zm_ge, zm_eq, zm_eq', zm_in, if_pos, if_neg, bI_s, bJ_s, bA_s, bU_s, if_true, if_false, reduceIte, or_true, true_or, or_false, false_or, and_true, true_and, and_false, false_and, not_true_eq_false, not_false_eq_true, Nat.reduceEqDiff, Nat.zero_ne_one, Nat.one_ne_zero, ct_at hr.w hd.2.1.1 c', oc, k_Morning_atGoals_22_eq (isW_i (show i < 5 by omega)), hg, hc, k_Morning_atGoals_41_eq, Nat.or_zero]
      · have c' : ¬ i < D 55 7 := by rw [← e7]; exact c
        rw [if_neg c, if_neg (show ¬ i + 1 < D' 55 7 by omega)]
        simp (disch := omega) only [zL0, zL1, zL2, zL3, zL4, zL5, zL6, zL7, zL8, zL9, zL10, zL12, zL20, zL30, zL31, zL32, zL44, zL48, zL49, zL50, zL56, zL59, zL60, zL61, zL64, zL65, zL97, zL99, zL100, zL101, zL102, zL103, zL104, zL111, zL119, zL126, zL255, zL512, zL617, zL65535, zL65536, zL1048576, zlt, zle, zeq, ztn, zin, zzb, zadd, zmul, zm_lt, zm_gt, zm_le, zm_ge, zm_eq, zm_eq', zm_in, if_pos, if_neg, bI_s, bJ_s, bA_s, bU_s, if_true, if_false, reduceIte, or_true, true_or, or_false, false_or, and_true, true_and, and_false, false_and, not_true_eq_false, not_false_eq_true, Nat.reduceEqDiff, Nat.zero_ne_one, Nat.one_ne_zero, ct_at0 hr.w hd.2.1.1, oc, k_Morning_atGoals_41_eq]
  rw [f_Morning_atGoals_eq, zL0]
  have k0 := key 5 0 (by omega)
  rw [show (if 0 < D' 55 7 then 0 else D' 55 7) = 0 from by
    by_cases c : 0 < D' 55 7
    · rw [if_pos c]
    · rw [if_neg c]; omega] at k0
  exact k0
end CR
