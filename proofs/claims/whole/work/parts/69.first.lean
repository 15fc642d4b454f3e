section CPF
variable {D : DD} {nw P : Nat → Nat → Bool} {x : Int32} {S : Mem} {g : Nat}
def wid (D : DD) (k : Nat) : DD := dS D 58 (dU (D 58) k 1)
theorem wid_ln (k a b : Nat) : ln (wid D k) a b = ln D a b := ln_row (dS_n (by omega)) (dS_n (by omega)) (dS_n (by omega)) a b
theorem NW_0 (hd : okD D) : NW D (nar D) (-nI 1) := fun _ _ _ hr ha hb => cn_isNarrow hr hd.1 ha hb
theorem NW_12 (D : DD) : NW D (fun _ _ => false) (nI 12) := fun S a b hr ha hb => by
  rw [f_Net_isNarrow_eq]
  simp (disch := omega) only [k_Net_isNarrow_26_eq, zL0, zL1, zL2, zL3, zL4, zL5, zL6, zL7, zL8, zL9, zL10, zL12, zL20, zL30, zL31, zL32, zL44, zL48, zL49, zL50, zL56, zL59, zL60, zL61, zL64, zL65, zL97, zL99, zL100, zL101, zL102, zL103, zL104, zL111, zL119, zL126, zL255, zL512, zL617, zL65535, zL65536, zL1048576, zlt, zle, zeq, ztn, zin, zzb, zadd, zmul, zm_lt, zm_gt, zm_le, zm_ge, zm_eq, zm_eq', zm_in, if_pos, if_neg, bI_s, bJ_s, bA_s, bU_s, if_true, if_false, reduceIte, or_true, true_or, or_false, false_or, and_true, true_and, and_false, false_and, not_true_eq_false, not_false_eq_true, Nat.reduceEqDiff, Nat.zero_ne_one, Nat.one_ne_zero, Bool.false_eq_true]
theorem NW_k (hd : okD D) {k : Nat} (hk : k < D 55 0) : NW D (nar (wid D k)) (nI k) := fun S a b h ha hb => by
  have hn := hd.1
  have k12 := hn.1
  rw [f_Net_isNarrow_eq]
  unfold nar
  rw [wid_ln]
  have e1 := h.btw a b ha hb
  cases e : ln D a b with
  | none =>
    rw [e] at e1
    simp (disch := omega) only [k_Net_isNarrow_26_eq, k_Net_isNarrow_73_eq, k_Net_isNarrow_74_eq, zL0, zL1, zL2, zL3, zL4, zL5, zL6, zL7, zL8, zL9, zL10, zL12, zL20, zL30, zL31, zL32, zL44, zL48, zL49, zL50, zL56, zL59, zL60, zL61, zL64, zL65, zL97, zL99, zL100, zL101, zL102, zL103, zL104, zL111, zL119, zL126, zL255, zL512, zL617, zL65535, zL65536, zL1048576, zlt, zle, zeq, ztn, zin, zzb, zadd, zmul, zm_lt, zm_gt, zm_le, zm_ge, zm_eq, zm_eq', zm_in, if_pos, if_neg, bI_s, bJ_s, bA_s, bU_s, if_true, if_false, reduceIte, or_true, true_or, or_false, false_or, and_true, true_and, and_false, false_and, not_true_eq_false, not_false_eq_true, Nat.reduceEqDiff, Nat.zero_ne_one, Nat.one_ne_zero, e1, eo, Bool.false_eq_true, zL0]
  | some q =>
    rw [e] at e1
    have hq := ln_lt hn e
    have hq2 := ln_some e
    have e58 : wid D k 58 q = if q = k then 1 else D 58 q := by
      unfold wid
      rw [dS_s]
      rfl
    show _ = some (nI (if decide (wid D k 58 q = 0) = true then 1 else 0), S)
    rw [e58]
    by_cases c : D 58 q = 0
    · by_cases c2 : q = k
      · rw [if_pos c2, decide_eq_false (show ¬ (1 : Nat) = 0 by omega)]
        simp (disch := omega) only [k_Net_isNarrow_26_eq, k_Net_isNarrow_73_eq, k_Net_isNarrow_74_eq, zL0, zL1, zL2, zL3, zL4, zL5, zL6, zL7, zL8, zL9, zL10, zL12, zL20, zL30, zL31, zL32, zL44, zL48, zL49, zL50, zL56, zL59, zL60, zL61, zL64, zL65, zL97, zL99, zL100, zL101, zL102, zL103, zL104, zL111, zL119, zL126, zL255, zL512, zL617, zL65535, zL65536, zL1048576, zlt, zle, zeq, ztn, zin, zzb, zadd, zmul, zm_lt, zm_gt, zm_le, zm_ge, zm_eq, zm_eq', zm_in, if_pos, if_neg, bI_s, bJ_s, bA_s, bU_s, if_true, if_false, reduceIte, or_true, true_or, or_false, false_or, and_true, true_and, and_false, false_and, not_true_eq_false, not_false_eq_true, Nat.reduceEqDiff, Nat.zero_ne_one, Nat.one_ne_zero, e1, eo, h.wide, Bool.false_eq_true]
      · rw [if_neg c2, decide_eq_true c]
        simp (disch := omega) only [k_Net_isNarrow_26_eq, k_Net_isNarrow_73_eq, k_Net_isNarrow_74_eq, zL0, zL1, zL2, zL3, zL4, zL5, zL6, zL7, zL8, zL9, zL10, zL12, zL20, zL30, zL31, zL32, zL44, zL48, zL49, zL50, zL56, zL59, zL60, zL61, zL64, zL65, zL97, zL99, zL100, zL101, zL102, zL103, zL104, zL111, zL119, zL126, zL255, zL512, zL617, zL65535, zL65536, zL1048576, zlt, zle, zeq, ztn, zin, zzb, zadd, zmul, zm_lt, zm_gt, zm_le, zm_ge, zm_eq, zm_eq', zm_in, if_pos, if_neg, bI_s, bJ_s, bA_s, bU_s, if_true, if_false, reduceIte, or_true, true_or, or_false, false_or, and_true, true_and, and_false, false_and, not_true_eq_false, not_false_eq_true, Nat.reduceEqDiff, Nat.zero_ne_one, Nat.one_ne_zero, e1, eo, h.wide]
    · rw [decide_eq_false (show ¬ (if q = k then 1 else D 58 q) = 0 by split <;> omega)]
      simp (disch := omega) only [k_Net_isNarrow_26_eq, k_Net_isNarrow_73_eq, k_Net_isNarrow_74_eq, zL0, zL1, zL2, zL3, zL4, zL5, zL6, zL7, zL8, zL9, zL10, zL12, zL20, zL30, zL31, zL32, zL44, zL48, zL49, zL50, zL56, zL59, zL60, zL61, zL64, zL65, zL97, zL99, zL100, zL101, zL102, zL103, zL104, zL111, zL119, zL126, zL255, zL512, zL617, zL65535, zL65536, zL1048576, zlt, zle, zeq, ztn, zin, zzb, zadd, zmul, zm_lt, zm_gt, zm_le, zm_ge, zm_eq, zm_eq', zm_in, if_pos, if_neg, bI_s, bJ_s, bA_s, bU_s, if_true, if_false, reduceIte, or_true, true_or, or_false, false_or, and_true, true_and, and_false, false_and, not_true_eq_false, not_false_eq_true, Nat.reduceEqDiff, Nat.zero_ne_one, Nat.one_ne_zero, e1, eo, h.wide, Bool.false_eq_true]
def cd (D : DD) (a w : Nat) : Nat := if w < D 55 7 then D a w else 0
def cdk (D : DD) (a : Nat) : Nat → Nat
  | 0 => 0
  | n + 1 => 8 * cdk D a n + cd D a n
theorem cd_lt (hd : okD D) {a : Nat} (ha : a = 60 ∨ a = 61) (w : Nat) : cd D a w < 8 := by
  unfold cd
  split
  · rename_i c
    have := hd.2.1.2 w c
    rcases ha with rfl | rfl <;> omega
  · omega
theorem cdk_3 (hd : okD D) {a : Nat} (ha : a = 60 ∨ a = 61) : cdk D a 3 < 512 ∧ (∀ w, w < 3 → dq (cdk D a 3) w = cd D a w) ∧ cdk D a 1 < 8 ∧ cdk D a 2 < 64 := by
  have a0 := cd_lt hd ha 0
  have a1 := cd_lt hd ha 1
  have a2 := cd_lt hd ha 2
  have e3 : cdk D a 3 = (cd D a 0 * 8 + cd D a 1) * 8 + cd D a 2 := by simp only [cdk]; omega
  obtain ⟨d0, d1, d2⟩ := dq_of a0 a1 a2
  refine ⟨by omega, fun w hw => ?_, by simp only [cdk]; omega, by simp only [cdk]; omega⟩
  rw [e3]
  have : w = 0 ∨ w = 1 ∨ w = 2 := by omega
  rcases this with rfl | rfl | rfl
  · exact d0
  · exact d1
  · exact d2
theorem cdk_im (hd : okD D) {a : Nat} (ha : a = 60 ∨ a = 61) : im (D 55 7) (cdk D a 3) := fun w h1 h2 => by
  rw [(cdk_3 hd ha).2.1 w h2]
  unfold cd
  rw [if_neg (by omega)]
theorem cp_begin (hd : okD D) (hr : RC D S) : ∃ S', f_Planner_begin S = some S' ∧ (∀ a k, a ≠ 52 → S'.1 a k = S.1 a k) ∧ S'.2 = S.2 ∧ PB0 D (mpx D) (cdk D 60 3) (cdk D 61 3) S' := by
  have w5 := hd.2.1.1
  obtain ⟨S1, e1, f1, g1, p1, q1⟩ := zfor (fun i S => k_Planner_begin_12 (nI i) S) 3 (fun i S1 => (∀ a k, a ≠ 52 → S1.1 a k = S.1 a k) ∧ S1.2 = S.2 ∧ S1.1 52 5 = nI (cdk D 60 i) ∧ S1.1 52 6 = nI (cdk D 61 i)) (by
    intro i S1 hi ⟨f1, g1, p1, q1⟩
    have hr1 : RC D S1 := RC_f hd hr (fun a k q => f1 a k (by omega))
    refine ⟨u1 (u1 S1 52 5 (nI (cdk D 60 (i + 1)))) 52 6 (nI (cdk D 61 (i + 1))), ?_, fun a k a1 => by rw [zuN (by omega), zuN (by omega), f1 a k a1], g1, by rw [zuN (by omega), zuS ⟨rfl, rfl⟩], by rw [zuS ⟨rfl, rfl⟩]⟩
    rw [k_Planner_begin_12_eq]
    by_cases c : i < D 55 7
    · have c1 := hr1.cor i c
      have c2 := hr1.goal i c
      have e6 : ∀ v, (u1 S1 52 5 v).1 52 6 = nI (cdk D 61 i) := fun v => by rw [zuN (by omega)]; exact q1
      have e7 : ∀ v, (u1 S1 52 5 v).1 (17 + 2 * i) 2 = nI (D 61 i) := fun v => by rw [zuN (by omega)]; exact c2
      simp (disch := omega) only [zL0, zL1, zL2, zL3, zL4, zL5, zL6, zL7, zL8, zL9, zL10, zL12, zL20, zL30, zL31, zL32, zL44, zL48, zL49, zL50, zL56, zL59, zL60, zL61, zL64, zL65, zL97, zL99, zL100, zL101, zL102, zL103, zL104, zL111, zL119, zL126, zL255, zL512, zL617, zL65535, zL65536, zL1048576, zlt, zle, zeq, ztn, zin, zzb, zadd, zmul, zm_lt, zm_gt, zm_le, zm_ge, zm_eq, zm_eq', zm_in, if_pos, if_neg, bI_s, bJ_s, bA_s, bU_s, if_true, if_false, reduceIte, or_true, true_or, or_false, false_or, and_true, true_and, and_false, false_and, not_true_eq_false, not_false_eq_true, Nat.reduceEqDiff, Nat.zero_ne_one, Nat.one_ne_zero, ct_at hr1.w w5 c, oc, k_Planner_begin_42_eq (isW_i (show i < 5 by omega)), k_Planner_begin_46_eq, k_Planner_begin_66_eq (isW_i (show i < 5 by omega)), k_Planner_begin_70_eq, c1, p1, q1, e6, e7, cdk, cd]
    · have e6 : ∀ v, (u1 S1 52 5 v).1 52 6 = nI (cdk D 61 i) := fun v => by rw [zuN (by omega)]; exact q1
      simp (disch := omega) only [zL0, zL1, zL2, zL3, zL4, zL5, zL6, zL7, zL8, zL9, zL10, zL12, zL20, zL30, zL31, zL32, zL44, zL48, zL49, zL50, zL56, zL59, zL60, zL61, zL64, zL65, zL97, zL99, zL100, zL101, zL102, zL103, zL104, zL111, zL119, zL126, zL255, zL512, zL617, zL65535, zL65536, zL1048576, zlt, zle, zeq, ztn, zin, zzb, zadd, zmul, zm_lt, zm_gt, zm_le, zm_ge, zm_eq, zm_eq', zm_in, if_pos, if_neg, bI_s, bJ_s, bA_s, bU_s, if_true, if_false, reduceIte, or_true, true_or, or_false, false_or, and_true, true_and, and_false, false_and, not_true_eq_false, not_false_eq_true, Nat.reduceEqDiff, Nat.zero_ne_one, Nat.one_ne_zero, ct_at0 hr1.w w5, oc, k_Planner_begin_38_eq, k_Planner_begin_46_eq, k_Planner_begin_62_eq, k_Planner_begin_70_eq, p1, q1, e6, cdk, cd]) 3 0 (u1 (u1 S 52 5 (nI 0)) 52 6 (nI 0)) (by omega) ⟨fun a k a1 => by rw [zuN (by omega), zuN (by omega)], rfl, by rw [zuN (by omega), zuS ⟨rfl, rfl⟩]; rfl, by rw [zuS ⟨rfl, rfl⟩]; rfl⟩
  have hr1 : RC D S1 := RC_f hd hr (fun a k q => f1 a k (by omega))
  obtain ⟨Sa, hSa⟩ : ∃ Sa, Sa = u1 S1 52 7 (nI (if mpx D 0 1 then 1 else 0)) := ⟨_, rfl⟩
  have hra : RC D Sa := RC_f hd hr1 (fun a k q => by rw [hSa, zuN (by omega)])
  obtain ⟨Sb, hSb⟩ : ∃ Sb, Sb = u1 Sa 52 8 (nI (if mpx D 0 2 then 1 else 0)) := ⟨_, rfl⟩
  have hrb : RC D Sb := RC_f hd hra (fun a k q => by rw [hSb, zuN (by omega)])
  obtain ⟨Sc, hSc⟩ : ∃ Sc, Sc = u1 Sb 52 9 (nI (if mpx D 1 2 then 1 else 0)) := ⟨_, rfl⟩
  have hrc : RC D Sc := RC_f hd hrb (fun a k q => by rw [hSc, zuN (by omega)])
  have m1 := ct_mpx hd hr1 (i := 0) (j := 1) (by omega) (by omega)
  have m2 := ct_mpx hd hra (i := 0) (j := 2) (by omega) (by omega)
  have m3 := ct_mpx hd hrb (i := 1) (j := 2) (by omega) (by omega)
  have zi : ∀ {p : Bool}, zb (nI (if p = true then 1 else 0)) = true := fun {p} => by cases p <;> decide
  refine ⟨Sc, ?_, fun a k a1 => by rw [hSc, zuN (by omega), hSb, zuN (by omega), hSa, zuN (by omega), f1 a k a1], by rw [hSc, hSb, hSa]; exact g1, hrc, ?_, ?_, ?_, ?_, ?_⟩
  · rw [f_Planner_begin_eq, zL0, e1, k_Planner_begin_12_eq, zL0, zL1, zL2, zL3, if_pos (by rw [zle (by omega) (by omega)]; omega), m1, bI_s, if_pos zi, ← hSa, m2, bI_s, if_pos zi, ← hSb, m3, bI_s, if_pos zi, ← hSc]
  · rw [hSc, zuN (by omega), hSb, zuN (by omega), hSa, zuN (by omega)]; exact p1
  · rw [hSc, zuN (by omega), hSb, zuN (by omega), hSa, zuN (by omega)]; exact q1
  · rw [hSc, zuN (by omega), hSb, zuN (by omega), hSa, zuS ⟨rfl, rfl⟩]
  · rw [hSc, zuN (by omega), hSb, zuS ⟨rfl, rfl⟩]
  · rw [hSc, zuS ⟨rfl, rfl⟩]
theorem cp_canGo (hd : okD D) (hPL : PL D P x S) (hN : NW D nw x) {p r : Nat} (hp : p < 512) (hr : r < 512) (ha : ∀ w, D 55 7 ≤ w → w < 3 → dq p w = dq r w) : f_Planner_canGo (nI p) (nI r) S = some (nI (if EE D nw P p r then 1 else 0), S) := by
  have key : ∀ m w, w + m = 3 → (∀ v, v < w → es D p r v = true) → k_Planner_canGo_2 (nI p) (nI r) (nI w) S = some (nI (if EE D nw P p r then 1 else 0), S) := by
    intro m
    induction m with
    | zero =>
      intro w hw hes
      rw [k_Planner_canGo_2_eq, show w = 3 by omega, zL0, zL1, zL2, zL3, if_pos (by rw [zle (by omega) (by omega)]; omega), cp_cornerIn hp (by omega), bI_s, cp_cornerIn hr (by omega), bI_s, cp_cornerIn hp (by omega), bI_s, cp_cornerIn hr (by omega), bI_s, cp_cornerIn hp (by omega), bI_s, cp_cornerIn hr (by omega), bI_s]
      have h012 : es D p r 0 = true ∧ es D p r 1 = true ∧ es D p r 2 = true := ⟨hes 0 (by omega), hes 1 (by omega), hes 2 (by omega)⟩
      have no : EE D nw P p r = false → k_Planner_canGo_159 S = some (nI (if EE D nw P p r then 1 else 0), S) := fun c => by
        rw [c, k_Planner_canGo_159_eq, k_Planner_canGo_160_eq]; rfl
      rw [← zL0, cp_pair hPL hN (dq_lt p 0) (dq_lt r 0) (dq_lt p 1) (dq_lt r 1) (fun S => k_Planner_canGo_112 (nI (dq p 0)) (nI (dq r 0)) (nI (dq p 1)) (nI (dq r 1)) (nI (dq p 2)) (nI (dq r 2)) S) (fun S => k_Planner_canGo_159 S) hPL.2.1]
      have ff : ∀ {c : Prop}, (EE D nw P p r = true → c) → ¬ c → EE D nw P p r = false := fun {c} a b => by
        rcases Bool.eq_false_or_eq_true (EE D nw P p r) with w | w
        · exact absurd (a w) b
        · exact w
      by_cases c01 : (cf nw (dq p 0) (dq r 0) (dq p 1) (dq r 1) && !P 0 1) = true
      · rw [if_pos c01]
        exact no (ff (fun q => (EE_iff.mp q).2.1) (by rw [ec_cf, c01]; simp))
      · rw [if_neg c01, k_Planner_canGo_112_eq, cp_pair hPL hN (dq_lt p 0) (dq_lt r 0) (dq_lt p 2) (dq_lt r 2) (fun S => k_Planner_canGo_133 (nI (dq p 1)) (nI (dq r 1)) (nI (dq p 2)) (nI (dq r 2)) S) (fun S => k_Planner_canGo_159 S) hPL.2.2.1]
        by_cases c02 : (cf nw (dq p 0) (dq r 0) (dq p 2) (dq r 2) && !P 0 2) = true
        · rw [if_pos c02]
          exact no (ff (fun q => (EE_iff.mp q).2.2.1) (by rw [ec_cf, c02]; simp))
        · rw [if_neg c02, k_Planner_canGo_133_eq, cp_pair hPL hN (dq_lt p 1) (dq_lt r 1) (dq_lt p 2) (dq_lt r 2) (fun S => k_Planner_canGo_155 S) (fun S => k_Planner_canGo_159 S) hPL.2.2.2.1]
          by_cases c12 : (cf nw (dq p 1) (dq r 1) (dq p 2) (dq r 2) && !P 1 2) = true
          · rw [if_pos c12]
            exact no (ff (fun q => (EE_iff.mp q).2.2.2) (by rw [ec_cf, c12]; simp))
          · rw [if_neg c12, EE_iff.mpr ⟨h012, by rw [ec_cf]; exact Bool.eq_false_iff.mpr c01, by rw [ec_cf]; exact Bool.eq_false_iff.mpr c02, by rw [ec_cf]; exact Bool.eq_false_iff.mpr c12⟩, k_Planner_canGo_155_eq, k_Planner_canGo_160_eq]
            rfl
    | succ m ih =>
      intro w hw hes
      have e1 := cp_cornerIn hp (show w < 3 by omega) (S := S)
      have e2 := cp_cornerIn hr (show w < 3 by omega) (S := S)
      have l1 := dq_lt p w
      have l2 := dq_lt r w
      have hj := cn_joins hPL.1 hd.1 l1 l2
      by_cases c : dq p w = dq r w
      · have hI := ih (w + 1) (by omega) (fun v hv => by
          by_cases q : v = w
          · rw [q]; unfold es; rw [decide_eq_true c, Bool.true_or]
          · exact hes v (by omega))
        rw [k_Planner_canGo_2_eq]
        simp (disch := omega) only [zL0, zL1, zL2, zL3, zL4, zL5, zL6, zL7, zL8, zL9, zL10, zL12, zL20, zL30, zL31, zL32, zL44, zL48, zL49, zL50, zL56, zL59, zL60, zL61, zL64, zL65, zL97, zL99, zL100, zL101, zL102, zL103, zL104, zL111, zL119, zL126, zL255, zL512, zL617, zL65535, zL65536, zL1048576, zlt, zle, zeq, ztn, zin, zzb, zadd, zmul, zm_lt, zm_gt, zm_le, zm_ge, zm_eq, zm_eq', zm_in, if_pos, if_neg, bI_s, bJ_s, bA_s, bU_s, if_true, if_false, reduceIte, or_true, true_or, or_false, false_or, and_true, true_and, and_false, false_and, not_true_eq_false, not_false_eq_true, Nat.reduceEqDiff, Nat.zero_ne_one, Nat.one_ne_zero, e1, e2, k_Planner_canGo_44_eq, hI]
      · have hwW : w < D 55 7 := by
          by_cases q : w < D 55 7
          · exact q
          · exact absurd (ha w (by omega) (by omega)) c
        cases ca : adj D (dq p w) (dq r w)
        · rw [ca] at hj
          have hf : EE D nw P p r = false := by
            rcases Bool.eq_false_or_eq_true (EE D nw P p r) with q | q
            · exfalso
              have q1 := (EE_iff.mp q).1
              have hes : es D p r w = true := by
                have : w = 0 ∨ w = 1 ∨ w = 2 := by omega
                rcases this with rfl | rfl | rfl
                · exact q1.1
                · exact q1.2.1
                · exact q1.2.2
              rcases (es_stp hwW).mp hes with q2 | q2
              · exact c q2
              · rw [ca] at q2; cases q2
            · exact q
          rw [k_Planner_canGo_2_eq, hf]
          simp (disch := omega) only [zL0, zL1, zL2, zL3, zL4, zL5, zL6, zL7, zL8, zL9, zL10, zL12, zL20, zL30, zL31, zL32, zL44, zL48, zL49, zL50, zL56, zL59, zL60, zL61, zL64, zL65, zL97, zL99, zL100, zL101, zL102, zL103, zL104, zL111, zL119, zL126, zL255, zL512, zL617, zL65535, zL65536, zL1048576, zlt, zle, zeq, ztn, zin, zzb, zadd, zmul, zm_lt, zm_gt, zm_le, zm_ge, zm_eq, zm_eq', zm_in, if_pos, if_neg, bI_s, bJ_s, bA_s, bU_s, if_true, if_false, reduceIte, or_true, true_or, or_false, false_or, and_true, true_and, and_false, false_and, not_true_eq_false, not_false_eq_true, Nat.reduceEqDiff, Nat.zero_ne_one, Nat.one_ne_zero, e1, e2, hj, Bool.false_eq_true]
        · rw [ca] at hj
          have hI := ih (w + 1) (by omega) (fun v hv => by
            by_cases q : v = w
            · rw [q]; exact (es_stp hwW).mpr (Or.inr ca)
            · exact hes v (by omega))
          rw [k_Planner_canGo_2_eq]
          simp (disch := omega) only [zL0, zL1, zL2, zL3, zL4, zL5, zL6, zL7, zL8, zL9, zL10, zL12, zL20, zL30, zL31, zL32, zL44, zL48, zL49, zL50, zL56, zL59, zL60, zL61, zL64, zL65, zL97, zL99, zL100, zL101, zL102, zL103, zL104, zL111, zL119, zL126, zL255, zL512, zL617, zL65535, zL65536, zL1048576, zlt, zle, zeq, ztn, zin, zzb, zadd, zmul, zm_lt, zm_gt, zm_le, zm_ge, zm_eq, zm_eq', zm_in, if_pos, if_neg, bI_s, bJ_s, bA_s, bU_s, if_true, if_false, reduceIte, or_true, true_or, or_false, false_or, and_true, true_and, and_false, false_and, not_true_eq_false, not_false_eq_true, Nat.reduceEqDiff, Nat.zero_ne_one, Nat.one_ne_zero, e1, e2, hj, k_Planner_canGo_44_eq, hI]
  rw [f_Planner_canGo_eq, zL0]
  exact key 3 0 (by omega) (fun v hv => by omega)
theorem cp_firstStep (hd : okD D) (hPL : PL D P x S) (hN : NW D nw x) {s d w : Nat} {far : Nat → Option Nat} (hs5 : s < 512) (hsi : im (D 55 7) s) (hgi : im (D 55 7) g) (h5 : S.1 52 5 = nI s) (hw : w < 3) (hd30 : d ≤ 30) (hfar : ∀ p, p < 512 → S.1 53 p = eo (far p)) (hb : ∀ p v, p < 512 → far p = some v → v ≤ 30) (hat : ∀ q, q < 512 → (far q = some d ↔ ds 512 (EE D nw P) g d q)) (hs : ds 512 (EE D nw P) g (d + 1) s) : ∃ p, Lst 512 (EE D nw P) g d s p ∧ f_Planner_firstStep (nI (d + 1)) (nI w) S = some (nI (dq p w), S) := by
  have key : ∀ m p, p + m = 512 → (∀ r, r < p → ds 512 (EE D nw P) g d r → ¬ EE D nw P s r = true) → ∃ p', Lst 512 (EE D nw P) g d s p' ∧ k_Planner_firstStep_2 (nI (d + 1)) (nI w) (nI p) S = some (nI (dq p' w), S) := by
    intro m
    induction m with
    | zero =>
      intro p hp hno
      obtain ⟨q, hq, h1, h2⟩ := ds_step hs
      exact absurd h2 (hno q (by omega) h1)
    | succ m ih =>
      intro p hp hno
      have hp5 : p < 512 := by omega
      have hfp := hfar p hp5
      have next : (ds 512 (EE D nw P) g d p → ¬ EE D nw P s p = true) → ∃ p', Lst 512 (EE D nw P) g d s p' ∧ k_Planner_firstStep_2 (nI (d + 1)) (nI w) (nI (p + 1)) S = some (nI (dq p' w), S) := fun q => ih (p + 1) (by omega) (fun r hr => by
        by_cases c : r = p
        · rw [c]; exact q
        · exact hno r (by omega))
      have z1 : nI (d + 1) - 1 = nI d := zpred
      by_cases c : far p = some d
      · have hds := (hat p hp5).mp c
        have hcg := cp_canGo hd hPL hN hs5 hp5 (fun v h1 h2 => by
          rw [lv_abs d p hds.1 v h1 h2, hgi v h1 h2]; exact hsi v h1 h2)
        rw [c] at hfp
        cases cE : EE D nw P s p
        · obtain ⟨p', L, e'⟩ := next (fun _ => by rw [cE]; simp)
          refine ⟨p', L, ?_⟩
          rw [cE] at hcg
          rw [← e', k_Planner_firstStep_2_eq, z1, h5]
          simp (disch := omega) only [zL0, zL1, zL2, zL3, zL4, zL5, zL6, zL7, zL8, zL9, zL10, zL12, zL20, zL30, zL31, zL32, zL44, zL48, zL49, zL50, zL56, zL59, zL60, zL61, zL64, zL65, zL97, zL99, zL100, zL101, zL102, zL103, zL104, zL111, zL119, zL126, zL255, zL512, zL617, zL65535, zL65536, zL1048576, zlt, zle, zeq, ztn, zin, zzb, zadd, zmul, zm_lt, zm_gt, zm_le, zm_ge, zm_eq, zm_eq', zm_in, if_pos, if_neg, bI_s, bJ_s, bA_s, bU_s, if_true, if_false, reduceIte, or_true, true_or, or_false, false_or, and_true, true_and, and_false, false_and, not_true_eq_false, not_false_eq_true, Nat.reduceEqDiff, Nat.zero_ne_one, Nat.one_ne_zero, hfp, eo, hcg, k_Planner_firstStep_39_eq, Bool.false_eq_true]
        · rw [cE] at hcg
          refine ⟨p, ⟨hp5, hds, cE, fun r hr hdr hEr => ?_⟩, ?_⟩
          · by_cases q : p ≤ r
            · exact q
            · exact absurd hEr (hno r (by omega) hdr)
          · rw [k_Planner_firstStep_2_eq, z1, h5]
            simp (disch := omega) only [zL0, zL1, zL2, zL3, zL4, zL5, zL6, zL7, zL8, zL9, zL10, zL12, zL20, zL30, zL31, zL32, zL44, zL48, zL49, zL50, zL56, zL59, zL60, zL61, zL64, zL65, zL97, zL99, zL100, zL101, zL102, zL103, zL104, zL111, zL119, zL126, zL255, zL512, zL617, zL65535, zL65536, zL1048576, zlt, zle, zeq, ztn, zin, zzb, zadd, zmul, zm_lt, zm_gt, zm_le, zm_ge, zm_eq, zm_eq', zm_in, if_pos, if_neg, bI_s, bJ_s, bA_s, bU_s, if_true, if_false, reduceIte, or_true, true_or, or_false, false_or, and_true, true_and, and_false, false_and, not_true_eq_false, not_false_eq_true, Nat.reduceEqDiff, Nat.zero_ne_one, Nat.one_ne_zero, hfp, eo, hcg, cp_cornerIn hp5 hw]
      · obtain ⟨p', L, e'⟩ := next (fun q => absurd ((hat p hp5).mpr q) c)
        refine ⟨p', L, ?_⟩
        rw [← e', k_Planner_firstStep_2_eq, z1]
        cases ef : far p with
        | none => rw [ef] at hfp; simp (disch := omega) only [zL0, zL1, zL2, zL3, zL4, zL5, zL6, zL7, zL8, zL9, zL10, zL12, zL20, zL30, zL31, zL32, zL44, zL48, zL49, zL50, zL56, zL59, zL60, zL61, zL64, zL65, zL97, zL99, zL100, zL101, zL102, zL103, zL104, zL111, zL119, zL126, zL255, zL512, zL617, zL65535, zL65536, zL1048576, zlt, zle, zeq, ztn, zin, zzb, zadd, zmul, zm_lt, zm_gt, zm_le, zm_ge, zm_eq, zm_eq', zm_in, if_pos, if_neg, bI_s, bJ_s, bA_s, bU_s, if_true, if_false, reduceIte, or_true, true_or, or_false, false_or, and_true, true_and, and_false, false_and, not_true_eq_false, not_false_eq_true, Nat.reduceEqDiff, Nat.zero_ne_one, Nat.one_ne_zero, hfp, eo, k_Planner_firstStep_39_eq]
        | some v =>
          have hv := hb p v hp5 ef
          have hne : v ≠ d := fun q => c (by rw [ef, q])
          rw [ef] at hfp
          simp (disch := omega) only [zL0, zL1, zL2, zL3, zL4, zL5, zL6, zL7, zL8, zL9, zL10, zL12, zL20, zL30, zL31, zL32, zL44, zL48, zL49, zL50, zL56, zL59, zL60, zL61, zL64, zL65, zL97, zL99, zL100, zL101, zL102, zL103, zL104, zL111, zL119, zL126, zL255, zL512, zL617, zL65535, zL65536, zL1048576, zlt, zle, zeq, ztn, zin, zzb, zadd, zmul, zm_lt, zm_gt, zm_le, zm_ge, zm_eq, zm_eq', zm_in, if_pos, if_neg, bI_s, bJ_s, bA_s, bU_s, if_true, if_false, reduceIte, or_true, true_or, or_false, false_or, and_true, true_and, and_false, false_and, not_true_eq_false, not_false_eq_true, Nat.reduceEqDiff, Nat.zero_ne_one, Nat.one_ne_zero, hfp, eo, k_Planner_firstStep_39_eq]
  rw [f_Planner_firstStep_eq, zL0]
  exact key 512 0 (by omega) (fun r hr => by omega)
end CPF
