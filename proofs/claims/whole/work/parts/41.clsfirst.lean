/-! the class's mornings from their beginning -/
def mpx (D : DD) (i j : Nat) : Bool := if i < D 55 7 ∧ j < D 55 7 then mp D i j else true
def pvr (F : Bool) (g : Nat) : Int32 := if F then -nI 1 else nI g
def pfr (D : DD) (free i j : Nat) : Bool := free.testBit i || free.testBit j || mpx D i j
theorem pm_or (y : Int32) : -nI 1 ||| y = -nI 1 := Int32.neg_one_or
theorem pm_bit : ∀ j, j < 5 → (((-nI 1) >>> (nI j &&& nI 31)) &&& nI 1) = nI 1 := by decide
theorem ct_mpx {D : DD} {S : Mem} (hd : okD D) (h : RC D S) {i j : Nat} (hi : i < 5) (hj : j < 5) : f_Town_mayPass 14 (nI i) (nI j) S = some (nI (if mpx D i j then 1 else 0), S) := by
  unfold mpx
  by_cases c : i < D 55 7 ∧ j < D 55 7
  · rw [if_pos c]; exact ct_mayPass h hd.1 hd.2.1 c.1 c.2
  · rw [if_neg c]; exact ct_mayPass0 h hd.2.1 (by omega) (by omega) c
section BEG
variable {D : DD}
theorem cb_in (hd : okD D) {free i : Nat} (hi : i < 5) (hf : free < 32) {S0 : Mem} (hr : RC D S0) (h0 : S0.1 45 i = pvr (free.testBit i) free) : ∃ S' g, k_Morning_begin_82 (nI free) (nI i) (nI 0) S0 = k_Morning_begin_82 (nI free) (nI i) (nI 5) S' ∧ (∀ x k, ¬ (x = 45 ∧ k = i) → S'.1 x k = S0.1 x k) ∧ S'.2 = S0.2 ∧ S'.1 45 i = pvr (free.testBit i) g ∧ g < 32 ∧ ∀ q, q < 5 → g.testBit q = (free.testBit q || mpx D i q) := by
  obtain ⟨g, S1, e1, f1, z1, y1, g1, b1⟩ := zforT (τ := Nat) (fun j g S => k_Morning_begin_82 (nI free) (nI i) (nI j) S) 5 (fun j g S1 => (∀ x k, ¬ (x = 45 ∧ k = i) → S1.1 x k = S0.1 x k) ∧ S1.2 = S0.2 ∧ S1.1 45 i = pvr (free.testBit i) g ∧ g < 32 ∧ ∀ q, q < 5 → g.testBit q = (free.testBit q || (decide (q < j) && mpx D i q))) (by
    intro j g S1 hj ⟨f1, z1, y1, g1, b1⟩
    have hr1 : RC D S1 := RC_f hd hr (fun a k q => f1 a k (by omega))
    have hm := ct_mpx hd hr1 hi hj
    cases c : mpx D i j
    · rw [c] at hm
      refine ⟨g, S1, ?_, f1, z1, y1, g1, fun q hq => ?_⟩
      · rw [k_Morning_begin_82_eq]
        simp (disch := omega) only [zL0, zL1, zL2, zL3, zL4, zL5, zL6, zL7, zL8, zL9, zL10, zL12, zL20, zL30, zL31, zL32, zL44, zL48, zL49, zL50, zL56, zL59, zL60, zL61, zL64, zL65, zL97, zL99, zL100, zL101, zL102, zL103, zL104, zL111, zL119, zL126, zL255, zL512, zL617, zL65535, zL65536, zL1048576, zlt, zle, zeq, ztn, zin, zzb, zadd, zmul, zm_lt, zm_gt, zm_le, zm_ge, zm_eq, zm_eq', zm_in, if_pos, if_neg, bI_s, bJ_s, bA_s, bU_s, if_true, if_false, reduceIte, or_true, true_or, or_false, false_or, and_true, true_and, and_false, false_and, not_true_eq_false, not_false_eq_true, Nat.reduceEqDiff, Nat.zero_ne_one, Nat.one_ne_zero, hm, k_Morning_begin_118_eq, Bool.false_eq_true]
      · rw [b1 q hq]
        by_cases e : q = j
        · rw [e, c]; simp
        · congr 2
          rw [decide_eq_decide]; omega
    · rw [c] at hm
      refine ⟨g ||| 2 ^ j, u1 S1 45 i (pvr (free.testBit i) (g ||| 2 ^ j)), ?_, fun x k q => by rw [zuN q, f1 x k q], z1, zuS ⟨rfl, rfl⟩, mm_orlt g1 hj rfl, fun q hq => ?_⟩
      · rw [k_Morning_begin_82_eq]
        cases hF : free.testBit i
        · rw [hF] at y1
          simp only [pvr, Bool.false_eq_true, if_false] at y1
          simp (disch := omega) only [zL0, zL1, zL2, zL3, zL4, zL5, zL6, zL7, zL8, zL9, zL10, zL12, zL20, zL30, zL31, zL32, zL44, zL48, zL49, zL50, zL56, zL59, zL60, zL61, zL64, zL65, zL97, zL99, zL100, zL101, zL102, zL103, zL104, zL111, zL119, zL126, zL255, zL512, zL617, zL65535, zL65536, zL1048576, zlt, zle, zeq, ztn, zin, zzb, zadd, zmul, zm_lt, zm_gt, zm_le, zm_ge, zm_eq, zm_eq', zm_in, if_pos, if_neg, bI_s, bJ_s, bA_s, bU_s, if_true, if_false, reduceIte, or_true, true_or, or_false, false_or, and_true, true_and, and_false, false_and, not_true_eq_false, not_false_eq_true, Nat.reduceEqDiff, Nat.zero_ne_one, Nat.one_ne_zero, hm, k_Morning_begin_118_eq, y1, zsh, zor, pvr, Bool.false_eq_true]
        · rw [hF] at y1
          simp only [pvr, if_true] at y1
          simp (disch := omega) only [zL0, zL1, zL2, zL3, zL4, zL5, zL6, zL7, zL8, zL9, zL10, zL12, zL20, zL30, zL31, zL32, zL44, zL48, zL49, zL50, zL56, zL59, zL60, zL61, zL64, zL65, zL97, zL99, zL100, zL101, zL102, zL103, zL104, zL111, zL119, zL126, zL255, zL512, zL617, zL65535, zL65536, zL1048576, zlt, zle, zeq, ztn, zin, zzb, zadd, zmul, zm_lt, zm_gt, zm_le, zm_ge, zm_eq, zm_eq', zm_in, if_pos, if_neg, bI_s, bJ_s, bA_s, bU_s, if_true, if_false, reduceIte, or_true, true_or, or_false, false_or, and_true, true_and, and_false, false_and, not_true_eq_false, not_false_eq_true, Nat.reduceEqDiff, Nat.zero_ne_one, Nat.one_ne_zero, hm, k_Morning_begin_118_eq, y1, zsh, pm_or, pvr]
      · rw [Nat.testBit_or, b1 q hq, Nat.testBit_two_pow]
        by_cases e : q = j
        · rw [e, c]; simp
        · rw [decide_eq_false (fun w : j = q => e w.symm), Bool.or_false]
          congr 2
          rw [decide_eq_decide]; omega) 5 0 free S0 (by omega) ⟨fun _ _ _ => rfl, rfl, h0, hf, fun q _ => by simp⟩
  refine ⟨S1, g, e1, f1, z1, y1, g1, fun q hq => ?_⟩
  rw [b1 q hq, decide_eq_true hq, Bool.true_and]
theorem cm_begin (hd : okD D) {free : Nat} (hf : free < 32) {S : Mem} (hr : RC D S) : ∃ S', f_Morning_begin (nI free) S = some S' ∧ (∀ x k, x ≠ 41 → x ≠ 42 → x ≠ 45 → x ≠ 46 → S'.1 x k = S.1 x k) ∧ S'.2 = S.2 ∧ MR D S' ∧ PB (pfr D free) S' ∧ ME (fun _ => 0) S' := by
  have w5 := hd.2.1.1
  obtain ⟨S1, e1, f1, z1, y1⟩ := zfor (fun i S => k_Morning_begin_2 (nI free) (nI i) S) 5 (fun i S1 => (∀ x k, x ≠ 41 → x ≠ 42 → x ≠ 45 → x ≠ 46 → S1.1 x k = S.1 x k) ∧ S1.2 = S.2 ∧ ∀ j, j < i → S1.1 41 j = nI (if j < D 55 7 then D 60 j else 0) ∧ S1.1 42 j = nI (if j < D 55 7 then D 65 j else 0) ∧ S1.1 46 j = nI 0 ∧ ∃ g, S1.1 45 j = pvr (free.testBit j) g ∧ g < 32 ∧ ∀ q, q < 5 → g.testBit q = (free.testBit q || mpx D j q)) (by
    intro i S1 hi ⟨f1, z1, y1⟩
    have hr1 : RC D S1 := RC_f hd hr (fun a k q => f1 a k (by omega) (by omega) (by omega) (by omega))
    obtain ⟨Sa, hSa⟩ : ∃ Sa, Sa = u1 (u1 (u1 (u1 S1 41 i (nI (if i < D 55 7 then D 60 i else 0))) 42 i (nI (if i < D 55 7 then D 65 i else 0))) 45 i (pvr (free.testBit i) free)) 46 i (nI 0) := ⟨_, rfl⟩
    have hra : RC D Sa := RC_f hd hr1 (fun a k q => by rw [hSa]; simp (disch := omega) only [zuS, zuN, zu2, zv1, zvS, zvN])
    obtain ⟨S2, g, e2, f2, z2, y2, g2, b2⟩ := cb_in hd hi hf hra (by rw [hSa]; simp (disch := omega) only [zuS, zuN, zu2, zv1, zvS, zvN])
    have wi5 := isW_i hi
    have hbit := zbit (g := free) (i := i) (by omega) (by omega)
    refine ⟨S2, ?_, fun x k q1 q2 q3 q4 => ?_, ?_, fun j hj => ?_⟩
    · rw [k_Morning_begin_2_eq]
      have e3 : k_Morning_begin_82 (nI free) (nI i) (nI 5) S2 = k_Morning_begin_2 (nI free) (nI (i + 1)) S2 := by
        rw [k_Morning_begin_82_eq]
        simp (disch := omega) only [zL0, zL1, zL2, zL3, zL4, zL5, zL6, zL7, zL8, zL9, zL10, zL12, zL20, zL30, zL31, zL32, zL44, zL48, zL49, zL50, zL56, zL59, zL60, zL61, zL64, zL65, zL97, zL99, zL100, zL101, zL102, zL103, zL104, zL111, zL119, zL126, zL255, zL512, zL617, zL65535, zL65536, zL1048576, zlt, zle, zeq, ztn, zin, zzb, zadd, zmul, zm_lt, zm_gt, zm_le, zm_ge, zm_eq, zm_eq', zm_in, if_pos, if_neg, bI_s, bJ_s, bA_s, bU_s, if_true, if_false, reduceIte, or_true, true_or, or_false, false_or, and_true, true_and, and_false, false_and, not_true_eq_false, not_false_eq_true, Nat.reduceEqDiff, Nat.zero_ne_one, Nat.one_ne_zero]
      rw [← e3, ← e2, hSa]
      by_cases c : i < D 55 7
      · have wi := hd.2.1.2 i c
        have c1 := hr1.cor i c
        have c6 := hr1.wd i c
        cases hF : free.testBit i
        · rw [hF] at hbit
          simp (disch := omega) only [zL0, zL1, zL2, zL3, zL4, zL5, zL6, zL7, zL8, zL9, zL10, zL12, zL20, zL30, zL31, zL32, zL44, zL48, zL49, zL50, zL56, zL59, zL60, zL61, zL64, zL65, zL97, zL99, zL100, zL101, zL102, zL103, zL104, zL111, zL119, zL126, zL255, zL512, zL617, zL65535, zL65536, zL1048576, zlt, zle, zeq, ztn, zin, zzb, zadd, zmul, zm_lt, zm_gt, zm_le, zm_ge, zm_eq, zm_eq', zm_in, if_pos, if_neg, bI_s, bJ_s, bA_s, bU_s, if_true, if_false, reduceIte, or_true, true_or, or_false, false_or, and_true, true_and, and_false, false_and, not_true_eq_false, not_false_eq_true, Nat.reduceEqDiff, Nat.zero_ne_one, Nat.one_ne_zero, zuS, zuN, zu2, zv1, zvS, zvN, ct_at hr1.w w5 c, oc, k_Morning_begin_29_eq wi5, k_Morning_begin_33_eq, k_Morning_begin_47_eq wi5, k_Morning_begin_51_eq, k_Morning_begin_71_eq, c1, c6, hbit, pvr, Bool.false_eq_true]
        · rw [hF] at hbit
          simp (disch := omega) only [zL0, zL1, zL2, zL3, zL4, zL5, zL6, zL7, zL8, zL9, zL10, zL12, zL20, zL30, zL31, zL32, zL44, zL48, zL49, zL50, zL56, zL59, zL60, zL61, zL64, zL65, zL97, zL99, zL100, zL101, zL102, zL103, zL104, zL111, zL119, zL126, zL255, zL512, zL617, zL65535, zL65536, zL1048576, zlt, zle, zeq, ztn, zin, zzb, zadd, zmul, zm_lt, zm_gt, zm_le, zm_ge, zm_eq, zm_eq', zm_in, if_pos, if_neg, bI_s, bJ_s, bA_s, bU_s, if_true, if_false, reduceIte, or_true, true_or, or_false, false_or, and_true, true_and, and_false, false_and, not_true_eq_false, not_false_eq_true, Nat.reduceEqDiff, Nat.zero_ne_one, Nat.one_ne_zero, zuS, zuN, zu2, zv1, zvS, zvN, ct_at hr1.w w5 c, oc, k_Morning_begin_29_eq wi5, k_Morning_begin_33_eq, k_Morning_begin_47_eq wi5, k_Morning_begin_51_eq, k_Morning_begin_71_eq, c1, c6, hbit, pvr]
      · cases hF : free.testBit i
        · rw [hF] at hbit
          simp (disch := omega) only [zL0, zL1, zL2, zL3, zL4, zL5, zL6, zL7, zL8, zL9, zL10, zL12, zL20, zL30, zL31, zL32, zL44, zL48, zL49, zL50, zL56, zL59, zL60, zL61, zL64, zL65, zL97, zL99, zL100, zL101, zL102, zL103, zL104, zL111, zL119, zL126, zL255, zL512, zL617, zL65535, zL65536, zL1048576, zlt, zle, zeq, ztn, zin, zzb, zadd, zmul, zm_lt, zm_gt, zm_le, zm_ge, zm_eq, zm_eq', zm_in, if_pos, if_neg, bI_s, bJ_s, bA_s, bU_s, if_true, if_false, reduceIte, or_true, true_or, or_false, false_or, and_true, true_and, and_false, false_and, not_true_eq_false, not_false_eq_true, Nat.reduceEqDiff, Nat.zero_ne_one, Nat.one_ne_zero, zuS, zuN, zu2, zv1, zvS, zvN, ct_at0 hr1.w w5, oc, k_Morning_begin_25_eq, k_Morning_begin_33_eq, k_Morning_begin_43_eq, k_Morning_begin_51_eq, k_Morning_begin_71_eq, hbit, pvr, Bool.false_eq_true]
        · rw [hF] at hbit
          simp (disch := omega) only [zL0, zL1, zL2, zL3, zL4, zL5, zL6, zL7, zL8, zL9, zL10, zL12, zL20, zL30, zL31, zL32, zL44, zL48, zL49, zL50, zL56, zL59, zL60, zL61, zL64, zL65, zL97, zL99, zL100, zL101, zL102, zL103, zL104, zL111, zL119, zL126, zL255, zL512, zL617, zL65535, zL65536, zL1048576, zlt, zle, zeq, ztn, zin, zzb, zadd, zmul, zm_lt, zm_gt, zm_le, zm_ge, zm_eq, zm_eq', zm_in, if_pos, if_neg, bI_s, bJ_s, bA_s, bU_s, if_true, if_false, reduceIte, or_true, true_or, or_false, false_or, and_true, true_and, and_false, false_and, not_true_eq_false, not_false_eq_true, Nat.reduceEqDiff, Nat.zero_ne_one, Nat.one_ne_zero, zuS, zuN, zu2, zv1, zvS, zvN, ct_at0 hr1.w w5, oc, k_Morning_begin_25_eq, k_Morning_begin_33_eq, k_Morning_begin_43_eq, k_Morning_begin_51_eq, k_Morning_begin_71_eq, hbit, pvr]
    · rw [f2 x k (by omega), hSa]
      simp (disch := omega) only [zuS, zuN, zu2, zv1, zvS, zvN]
      exact f1 x k q1 q2 q3 q4
    · rw [z2, hSa]; exact z1
    · by_cases e : j = i
      · subst e
        refine ⟨?_, ?_, ?_, g, y2, g2, b2⟩
        · rw [f2 _ _ (by omega), hSa]; simp (disch := omega) only [zuS, zuN, zu2, zv1, zvS, zvN]
        · rw [f2 _ _ (by omega), hSa]; simp (disch := omega) only [zuS, zuN, zu2, zv1, zvS, zvN]
        · rw [f2 _ _ (by omega), hSa]; simp (disch := omega) only [zuS, zuN, zu2, zv1, zvS, zvN]
      · obtain ⟨t1, t2, t3, g', t4, t5⟩ := y1 j (by omega)
        refine ⟨?_, ?_, ?_, g', ?_, t5⟩
        · rw [f2 _ _ (by omega), hSa]; simp (disch := omega) only [zuS, zuN, zu2, zv1, zvS, zvN]; exact t1
        · rw [f2 _ _ (by omega), hSa]; simp (disch := omega) only [zuS, zuN, zu2, zv1, zvS, zvN]; exact t2
        · rw [f2 _ _ (by omega), hSa]; simp (disch := omega) only [zuS, zuN, zu2, zv1, zvS, zvN]; exact t3
        · rw [f2 _ _ (by omega), hSa]; simp (disch := omega) only [zuS, zuN, zu2, zv1, zvS, zvN]; exact t4) 5 0 S (by omega) ⟨fun _ _ _ _ _ _ => rfl, rfl, fun _ _ => by omega⟩
  refine ⟨S1, ?_, f1, z1, ⟨fun i hi => (y1 i hi).1, fun i hi => ?_⟩, fun i j hi hj => ?_, fun i hi => ⟨(y1 i hi).2.2.1, show (0 : Nat) < 32 by decide⟩⟩
  · rw [f_Morning_begin_eq, zL0, e1, k_Morning_begin_2_eq]
    simp (disch := omega) only [zL0, zL1, zL2, zL3, zL4, zL5, zL6, zL7, zL8, zL9, zL10, zL12, zL20, zL30, zL31, zL32, zL44, zL48, zL49, zL50, zL56, zL59, zL60, zL61, zL64, zL65, zL97, zL99, zL100, zL101, zL102, zL103, zL104, zL111, zL119, zL126, zL255, zL512, zL617, zL65535, zL65536, zL1048576, zlt, zle, zeq, ztn, zin, zzb, zadd, zmul, zm_lt, zm_gt, zm_le, zm_ge, zm_eq, zm_eq', zm_in, if_pos, if_neg, bI_s, bJ_s, bA_s, bU_s, if_true, if_false, reduceIte, or_true, true_or, or_false, false_or, and_true, true_and, and_false, false_and, not_true_eq_false, not_false_eq_true, Nat.reduceEqDiff, Nat.zero_ne_one, Nat.one_ne_zero]
  · rw [(y1 i (by omega)).2.1, if_pos hi]
  · obtain ⟨_, _, _, g, t4, t5, t6⟩ := y1 i hi
    rw [t4]
    unfold pvr pfr
    cases hF : free.testBit i
    · simp only [Bool.false_eq_true, if_false, Bool.false_or]
      rw [zbit (by omega) (by omega), t6 j hj]
    · simp only [if_true, Bool.true_or]
      exact pm_bit j hj
end BEG
section OVER
variable {D D' : DD}
theorem cm_isOver (hd : okD D) (ho : ovr D D') (hw : okW D') {S : Mem} (hr : RC D S) (hm : MR D' S) : f_Morning_isOver S = some (nI (if ov D' then 1 else 0), S) := by
  have w5 := hw.1
  have e7 : D' 55 = D 55 := ho 55 (by omega) (by omega)
  have e64 : D' 64 = D 64 := ho 64 (by omega) (by omega)
  have key : ∀ m i, i + m = 5 → (∀ j, j < i → j < D' 55 7 → D' 64 j ≤ D' 65 j) → k_Morning_isOver_2 (nI i) S = some (nI (if ov D' then 1 else 0), S) := by
    intro m
    induction m with
    | zero =>
      intro i hi h
      have ho : ov D' = true := ovk_iff.mpr (fun j hj => h j (by omega) hj)
      rw [k_Morning_isOver_2_eq, ho]
      simp (disch := omega) only [zL0, zL1, zL2, zL3, zL4, zL5, zL6, zL7, zL8, zL9, zL10, zL12, zL20, zL30, zL31, zL32, zL44, zL48, zL49, zL50, zL56, zL59, zL60, zL61, zL64, zL65, zL97, zL99, zL100, zL101, zL102, zL103, zL104, zL111, zL119, zL126, zL255, zL512, zL617, zL65535, zL65536, zL1048576, zlt, zle, zeq, ztn, zin, zzb, zadd, zmul, zm_lt, zm_gt, zm_le, zm_ge, zm_eq, zm_eq', zm_in, if_pos, if_neg, bI_s, bJ_s, bA_s, bU_s, if_true, if_false, reduceIte, or_true, true_or, or_false, false_or, and_true, true_and, and_false, false_and, not_true_eq_false, not_false_eq_true, Nat.reduceEqDiff, Nat.zero_ne_one, Nat.one_ne_zero]
    | succ m ih =>
      intro i hi h
      rw [k_Morning_isOver_2_eq]
      by_cases c : i < D' 55 7
      · have c' : i < D 55 7 := by rw [← e7]; exact c
        have wi := hw.2 i c
        have wl := hr.wl i c'
        rw [← e64] at wl
        have m42 := hm.2 i c
        have wi5 := isW_i (show i < 5 by omega)
        by_cases d : D' 64 i ≤ D' 65 i
        · have hn := ih (i + 1) (by omega) (fun j hj hj2 => by
            by_cases e : j = i
            · rw [e]; exact d
            · exact h j (by omega) hj2)
          rw [← hn]
          simp (disch := omega) only [zL0, zL1, zL2, zL3, zL4, zL5, zL6, zL7, zL8, zL9, zL10, zL12, zL20, zL30, zL31, zL32, zL44, zL48, zL49, zL50, zL56, zL59, zL60, zL61, zL64, zL65, zL97, zL99, zL100, zL101, zL102, zL103, zL104, zL111, zL119, zL126, zL255, zL512, zL617, zL65535, zL65536, zL1048576, zlt, zle, zeq, ztn, zin, zzb, zadd, zmul, zm_lt, zm_gt, zm_le, zm_ge, zm_eq, zm_eq', zm_in, if_pos, if_neg, bI_s, bJ_s, bA_s, bU_s, if_true, if_false, reduceIte, or_true, true_or, or_false, false_or, and_true, true_and, and_false, false_and, not_true_eq_false, not_false_eq_true, Nat.reduceEqDiff, Nat.zero_ne_one, Nat.one_ne_zero, ct_at hr.w hd.2.1.1 c', oc, k_Morning_isOver_20_eq wi5, wl, m42, k_Morning_isOver_35_eq]
        · have hov : ov D' = false := by
            cases hh : ov D'
            · rfl
            · exact absurd (ovk_iff.mp hh i c) d
          rw [hov]
          simp (disch := omega) only [zL0, zL1, zL2, zL3, zL4, zL5, zL6, zL7, zL8, zL9, zL10, zL12, zL20, zL30, zL31, zL32, zL44, zL48, zL49, zL50, zL56, zL59, zL60, zL61, zL64, zL65, zL97, zL99, zL100, zL101, zL102, zL103, zL104, zL111, zL119, zL126, zL255, zL512, zL617, zL65535, zL65536, zL1048576, zlt, zle, zeq, ztn, zin, zzb, zadd, zmul, zm_lt, zm_gt, zm_le, zm_ge, zm_eq, zm_eq', zm_in, if_pos, if_neg, bI_s, bJ_s, bA_s, bU_s, if_true, if_false, reduceIte, or_true, true_or, or_false, false_or, and_true, true_and, and_false, false_and, not_true_eq_false, not_false_eq_true, Nat.reduceEqDiff, Nat.zero_ne_one, Nat.one_ne_zero, ct_at hr.w hd.2.1.1 c', oc, k_Morning_isOver_20_eq wi5, wl, m42, Bool.false_eq_true]
      · have c' : ¬ i < D 55 7 := by rw [← e7]; exact c
        have hn := ih (i + 1) (by omega) (fun j hj hj2 => h j (by omega) hj2)
        rw [← hn]
        simp (disch := omega) only [zL0, zL1, zL2, zL3, zL4, zL5, zL6, zL7, zL8, zL9, zL10, zL12, zL20, zL30, zL31, zL32, zL44, zL48, zL49, zL50, zL56, zL59, zL60, zL61, zL64, zL65, zL97, zL99, zL100, zL101, zL102, zL103, zL104, zL111, zL119, zL126, zL255, zL512, zL617, zL65535, zL65536, zL1048576, zlt, zle, zeq, ztn, zin, zzb, zadd, zmul, zm_lt, zm_gt, zm_le, zm_ge, zm_eq, zm_eq', zm_in, if_pos, if_neg, bI_s, bJ_s, bA_s, bU_s, if_true, if_false, reduceIte, or_true, true_or, or_false, false_or, and_true, true_and, and_false, false_and, not_true_eq_false, not_false_eq_true, Nat.reduceEqDiff, Nat.zero_ne_one, Nat.one_ne_zero, ct_at0 hr.w hd.2.1.1, oc, k_Morning_isOver_35_eq]
  rw [f_Morning_isOver_eq, zL0]
  exact key 5 0 (by omega) (fun _ _ => by omega)
end OVER
def ga (P : Nat → Nat → Bool) : Nat → DD → Nat
  | 0, _ => 0
  | m + 1, D => if ov D then 0 else (lay D P (wn D)).1 + ga P m (go D P)
def me (P : Nat → Nat → Bool) : Nat → DD → Nat → Nat → Bool
  | 0, _, _, _ => false
  | m + 1, D, i, j => if ov D then false else mt D (wn D) i j || me P m (go D P) i j
theorem PB_fr {P : Nat → Nat → Bool} {S S' : Mem} (h : PB P S) (e : ∀ k, S'.1 45 k = S.1 45 k) : PB P S' := fun i j hi hj => by rw [e]; exact h i j hi hj
theorem cm_goAll_k {D : DD} {P : Nat → Nat → Bool} (hd : okD D) : ∀ m i t D' M S, i + m = 60 → t + 10 * m ≤ 10000 → ovr D D' → okW D' → RC D S → MR D' S → PB P S → ME M S → ∃ S', k_Morning_goAll_4 (nI t) (nI i) S = some (nI (t + ga P m D'), S') ∧ frW S S' ∧ S'.2 = S.2 ∧ ∃ M', ME M' S' ∧ ∀ i j, i < 5 → j < 5 → (M' i).testBit j = ((M i).testBit j || me P m D' i j) := by
  intro m
  induction m with
  | zero =>
    intro i t D' M S hi ht ho hw hr hm hP hM
    refine ⟨S, ?_, frW_r S, rfl, M, hM, fun i j _ _ => by simp [me]⟩
    rw [k_Morning_goAll_4_eq]
    simp (disch := omega) only [zL0, zL1, zL2, zL3, zL4, zL5, zL6, zL7, zL8, zL9, zL10, zL12, zL20, zL30, zL31, zL32, zL44, zL48, zL49, zL50, zL56, zL59, zL60, zL61, zL64, zL65, zL97, zL99, zL100, zL101, zL102, zL103, zL104, zL111, zL119, zL126, zL255, zL512, zL617, zL65535, zL65536, zL1048576, zlt, zle, zeq, ztn, zin, zzb, zadd, zmul, zm_lt, zm_gt, zm_le, zm_ge, zm_eq, zm_eq', zm_in, if_pos, if_neg, bI_s, bJ_s, bA_s, bU_s, if_true, if_false, reduceIte, or_true, true_or, or_false, false_or, and_true, true_and, and_false, false_and, not_true_eq_false, not_false_eq_true, Nat.reduceEqDiff, Nat.zero_ne_one, Nat.one_ne_zero, k_Morning_goAll_30_eq, ga, Nat.add_zero]
  | succ m ih =>
    intro i t D' M S hi ht ho hw hr hm hP hM
    have hov := cm_isOver hd ho hw hr hm
    rw [k_Morning_goAll_4_eq]
    cases c : ov D'
    · rw [c] at hov
      obtain ⟨S1, e1, f1, z1, m1, _, M1, hM1, b1⟩ := cm_goOn hd ho hw hr hm hP hM
      have hr1 : RC D S1 := RC_f hd hr (frW_C f1)
      have hle := lb_le (f := cl D' P (wn D')) hw.1
      have hle2 : (lay D' P (wn D')).1 ≤ 10 := hle
      obtain ⟨S2, e2, f2, z2, M2, hM2, b2⟩ := ih (i + 1) (t + (lay D' P (wn D')).1) (go D' P) M1 S1 (by omega) (by omega) (ovr_go ho P) (go_okW hw P) hr1 m1 (PB_fr hP (fun k => f1 _ _ (by omega) (by omega) (by omega) (by omega) (by omega) (by omega))) hM1
      refine ⟨S2, ?_, frW_t f1 f2, z2.trans z1, M2, hM2, fun a b ha hb => ?_⟩
      · rw [show ga P (m + 1) D' = (lay D' P (wn D')).1 + ga P m (go D' P) from by rw [ga, c]; simp, ← Nat.add_assoc, ← e2]
        simp (disch := omega) only [zL0, zL1, zL2, zL3, zL4, zL5, zL6, zL7, zL8, zL9, zL10, zL12, zL20, zL30, zL31, zL32, zL44, zL48, zL49, zL50, zL56, zL59, zL60, zL61, zL64, zL65, zL97, zL99, zL100, zL101, zL102, zL103, zL104, zL111, zL119, zL126, zL255, zL512, zL617, zL65535, zL65536, zL1048576, zlt, zle, zeq, ztn, zin, zzb, zadd, zmul, zm_lt, zm_gt, zm_le, zm_ge, zm_eq, zm_eq', zm_in, if_pos, if_neg, bI_s, bJ_s, bA_s, bU_s, if_true, if_false, reduceIte, or_true, true_or, or_false, false_or, and_true, true_and, and_false, false_and, not_true_eq_false, not_false_eq_true, Nat.reduceEqDiff, Nat.zero_ne_one, Nat.one_ne_zero, hov, e1, Bool.false_eq_true]
      · rw [b2 a b ha hb, b1 a b ha hb, show me P (m + 1) D' a b = (mt D' (wn D') a b || me P m (go D' P) a b) from by rw [me, c]; simp, Bool.or_assoc]
    · rw [c] at hov
      refine ⟨S, ?_, frW_r S, rfl, M, hM, fun i j _ _ => by simp [me, c]⟩
      simp (disch := omega) only [zL0, zL1, zL2, zL3, zL4, zL5, zL6, zL7, zL8, zL9, zL10, zL12, zL20, zL30, zL31, zL32, zL44, zL48, zL49, zL50, zL56, zL59, zL60, zL61, zL64, zL65, zL97, zL99, zL100, zL101, zL102, zL103, zL104, zL111, zL119, zL126, zL255, zL512, zL617, zL65535, zL65536, zL1048576, zlt, zle, zeq, ztn, zin, zzb, zadd, zmul, zm_lt, zm_gt, zm_le, zm_ge, zm_eq, zm_eq', zm_in, if_pos, if_neg, bI_s, bJ_s, bA_s, bU_s, if_true, if_false, reduceIte, or_true, true_or, or_false, false_or, and_true, true_and, and_false, false_and, not_true_eq_false, not_false_eq_true, Nat.reduceEqDiff, Nat.zero_ne_one, Nat.one_ne_zero, hov, k_Morning_goAll_30_eq, ga, c, Nat.add_zero]
theorem cm_goAll {D : DD} {P : Nat → Nat → Bool} (hd : okD D) {M : Nat → Nat} {S : Mem} (hr : RC D S) (hm : MR D S) (hP : PB P S) (hM : ME M S) : ∃ S', f_Morning_goAll S = some (nI (ga P 60 D), S') ∧ frW S S' ∧ S'.2 = S.2 ∧ ∃ M', ME M' S' ∧ ∀ i j, i < 5 → j < 5 → (M' i).testBit j = ((M i).testBit j || me P 60 D i j) := by
  have := cm_goAll_k (P := P) hd 60 0 0 D M S (by omega) (by omega) (ovr_r D) hd.2.1 hr hm hP hM
  rw [Nat.zero_add] at this
  rw [f_Morning_goAll_eq, zL0]
  exact this
theorem lay_q31 {f : Nat → Nat → Bool} {n : Nat} (hn : n ≤ 5) : qs 31 (lb f n).2.2 = decide ((lb f n).1 ≠ 0) := by
  have h := (lb_in (f := f) hn).2.2
  unfold qs
  have e : (lb f n).2.2 &&& 31 = (lb f n).2.2 := by
    rw [show (31 : Nat) = 2 ^ 5 - 1 from rfl, Nat.and_two_pow_sub_one_eq_mod]
    exact Nat.mod_eq_of_lt h
  rw [e, decide_eq_decide]
  constructor
  · intro h1
    obtain ⟨i, hi⟩ := Nat.exists_testBit_of_ne_zero h1
    obtain ⟨a, b, q1, q2, q3, _⟩ := lb_bit.mp hi
    have := lb_pos.mpr ⟨a, b, q1, q2, q3⟩
    omega
  · intro h1 h2
    obtain ⟨a, b, q1, q2, q3⟩ := lb_pos.mp (Nat.pos_of_ne_zero h1)
    have := lb_bit.mpr ⟨a, b, q1, q2, q3, Or.inl rfl⟩
    rw [h2, Nat.zero_testBit] at this
    cases this
theorem ct_first_k {D : DD} {P : Nat → Nat → Bool} (hd : okD D) {what : Nat} (hwt : what ≤ 2) : ∀ m t D' M S, t + m = 61 → ovr D D' → okW D' → RC D S → MR D' S → PB P S → ME M S → ∃ S', k_Top_first_22 (nI what) (nI t) S = some (fiR what (fo (qs 31) P m t D'), S') ∧ frW S S' := by
  intro m
  induction m with
  | zero =>
    intro t D' M S ht ho hw hr hm hP hM
    refine ⟨S, ?_, frW_r S⟩
    rw [k_Top_first_22_eq]
    simp (disch := omega) only [zL0, zL1, zL2, zL3, zL4, zL5, zL6, zL7, zL8, zL9, zL10, zL12, zL20, zL30, zL31, zL32, zL44, zL48, zL49, zL50, zL56, zL59, zL60, zL61, zL64, zL65, zL97, zL99, zL100, zL101, zL102, zL103, zL104, zL111, zL119, zL126, zL255, zL512, zL617, zL65535, zL65536, zL1048576, zlt, zle, zeq, ztn, zin, zzb, zadd, zmul, zm_lt, zm_gt, zm_le, zm_ge, zm_eq, zm_eq', zm_in, if_pos, if_neg, bI_s, bJ_s, bA_s, bU_s, if_true, if_false, reduceIte, or_true, true_or, or_false, false_or, and_true, true_and, and_false, false_and, not_true_eq_false, not_false_eq_true, Nat.reduceEqDiff, Nat.zero_ne_one, Nat.one_ne_zero, k_Top_first_85_eq, fo, fiR]
  | succ m ih =>
    intro t D' M S ht ho hw hr hm hP hM
    have hov := cm_isOver hd ho hw hr hm
    rw [k_Top_first_22_eq]
    cases c : ov D'
    · rw [c] at hov
      obtain ⟨S1, e1, f1, z1, m1, p1, M1, hM1, b1⟩ := cm_goOn hd ho hw hr hm hP hM
      have hr1 : RC D S1 := RC_f hd hr (frW_C f1)
      have hle := lb_le (f := cl D' P (wn D')) hw.1
      have hle2 : (lay D' P (wn D')).1 ≤ 10 := hle
      have hq : qs 31 (lay D' P (wn D')).2.2 = decide ((lay D' P (wn D')).1 ≠ 0) := lay_q31 hw.1
      by_cases h0 : (lay D' P (wn D')).1 = 0
      · obtain ⟨S2, e2, f2⟩ := ih (t + 1) (go D' P) M1 S1 (by omega) (ovr_go ho P) (go_okW hw P) hr1 m1 (PB_fr hP (fun k => f1 _ _ (by omega) (by omega) (by omega) (by omega) (by omega) (by omega))) hM1
        refine ⟨S2, ?_, frW_t f1 f2⟩
        have hfo : fo (qs 31) P (m + 1) t D' = fo (qs 31) P m (t + 1) (go D' P) := by
          rw [fo, c, hq]; simp [h0]
        rw [hfo, ← e2]
        simp (disch := omega) only [zL0, zL1, zL2, zL3, zL4, zL5, zL6, zL7, zL8, zL9, zL10, zL12, zL20, zL30, zL31, zL32, zL44, zL48, zL49, zL50, zL56, zL59, zL60, zL61, zL64, zL65, zL97, zL99, zL100, zL101, zL102, zL103, zL104, zL111, zL119, zL126, zL255, zL512, zL617, zL65535, zL65536, zL1048576, zlt, zle, zeq, ztn, zin, zzb, zadd, zmul, zm_lt, zm_gt, zm_le, zm_ge, zm_eq, zm_eq', zm_in, if_pos, if_neg, bI_s, bJ_s, bA_s, bU_s, if_true, if_false, reduceIte, or_true, true_or, or_false, false_or, and_true, true_and, and_false, false_and, not_true_eq_false, not_false_eq_true, Nat.reduceEqDiff, Nat.zero_ne_one, Nat.one_ne_zero, hov, e1, Bool.false_eq_true]
      · have hfo : fo (qs 31) P (m + 1) t D' = some (t, (lay D' P (wn D')).2.1) := by
          rw [fo, c, hq]; simp [h0]
        refine ⟨S1, ?_, f1⟩
        rw [hfo]
        have p2 := p1 h0
        by_cases c0 : what = 0
        · simp (disch := omega) only [zL0, zL1, zL2, zL3, zL4, zL5, zL6, zL7, zL8, zL9, zL10, zL12, zL20, zL30, zL31, zL32, zL44, zL48, zL49, zL50, zL56, zL59, zL60, zL61, zL64, zL65, zL97, zL99, zL100, zL101, zL102, zL103, zL104, zL111, zL119, zL126, zL255, zL512, zL617, zL65535, zL65536, zL1048576, zlt, zle, zeq, ztn, zin, zzb, zadd, zmul, zm_lt, zm_gt, zm_le, zm_ge, zm_eq, zm_eq', zm_in, if_pos, if_neg, bI_s, bJ_s, bA_s, bU_s, if_true, if_false, reduceIte, or_true, true_or, or_false, false_or, and_true, true_and, and_false, false_and, not_true_eq_false, not_false_eq_true, Nat.reduceEqDiff, Nat.zero_ne_one, Nat.one_ne_zero, hov, e1, Bool.false_eq_true, k_Top_first_78_eq, fiR]
        · by_cases c1 : what = 1
          · simp (disch := omega) only [zL0, zL1, zL2, zL3, zL4, zL5, zL6, zL7, zL8, zL9, zL10, zL12, zL20, zL30, zL31, zL32, zL44, zL48, zL49, zL50, zL56, zL59, zL60, zL61, zL64, zL65, zL97, zL99, zL100, zL101, zL102, zL103, zL104, zL111, zL119, zL126, zL255, zL512, zL617, zL65535, zL65536, zL1048576, zlt, zle, zeq, ztn, zin, zzb, zadd, zmul, zm_lt, zm_gt, zm_le, zm_ge, zm_eq, zm_eq', zm_in, if_pos, if_neg, bI_s, bJ_s, bA_s, bU_s, if_true, if_false, reduceIte, or_true, true_or, or_false, false_or, and_true, true_and, and_false, false_and, not_true_eq_false, not_false_eq_true, Nat.reduceEqDiff, Nat.zero_ne_one, Nat.one_ne_zero, hov, e1, Bool.false_eq_true, k_Top_first_78_eq, fiR, p2.1]
          · simp (disch := omega) only [zL0, zL1, zL2, zL3, zL4, zL5, zL6, zL7, zL8, zL9, zL10, zL12, zL20, zL30, zL31, zL32, zL44, zL48, zL49, zL50, zL56, zL59, zL60, zL61, zL64, zL65, zL97, zL99, zL100, zL101, zL102, zL103, zL104, zL111, zL119, zL126, zL255, zL512, zL617, zL65535, zL65536, zL1048576, zlt, zle, zeq, ztn, zin, zzb, zadd, zmul, zm_lt, zm_gt, zm_le, zm_ge, zm_eq, zm_eq', zm_in, if_pos, if_neg, bI_s, bJ_s, bA_s, bU_s, if_true, if_false, reduceIte, or_true, true_or, or_false, false_or, and_true, true_and, and_false, false_and, not_true_eq_false, not_false_eq_true, Nat.reduceEqDiff, Nat.zero_ne_one, Nat.one_ne_zero, hov, e1, Bool.false_eq_true, k_Top_first_78_eq, fiR, p2.2]
    · rw [c] at hov
      refine ⟨S, ?_, frW_r S⟩
      simp (disch := omega) only [zL0, zL1, zL2, zL3, zL4, zL5, zL6, zL7, zL8, zL9, zL10, zL12, zL20, zL30, zL31, zL32, zL44, zL48, zL49, zL50, zL56, zL59, zL60, zL61, zL64, zL65, zL97, zL99, zL100, zL101, zL102, zL103, zL104, zL111, zL119, zL126, zL255, zL512, zL617, zL65535, zL65536, zL1048576, zlt, zle, zeq, ztn, zin, zzb, zadd, zmul, zm_lt, zm_gt, zm_le, zm_ge, zm_eq, zm_eq', zm_in, if_pos, if_neg, bI_s, bJ_s, bA_s, bU_s, if_true, if_false, reduceIte, or_true, true_or, or_false, false_or, and_true, true_and, and_false, false_and, not_true_eq_false, not_false_eq_true, Nat.reduceEqDiff, Nat.zero_ne_one, Nat.one_ne_zero, hov, k_Top_first_85_eq, fo, fiR, c]
/-- the cells that the class's mornings may touch -/
def frX (S S' : Mem) : Prop := ∀ x k, x < 40 ∨ 46 < x → S'.1 x k = S.1 x k
theorem frX_C {S S' : Mem} (h : frX S S') : frC S S' := fun a k q => h a k (by omega)
theorem P_ext {D : DD} {P P' : Nat → Nat → Bool} (h : ∀ i j, i < D 55 7 → j < D 55 7 → P i j = P' i j) : ∀ w : Nat → Nat, lay D P w = lay D P' w := fun w => lb_cong (fun i j hij hj => by unfold cl; rw [h i j (by omega) hj])
theorem fo_ext {q : Nat → Bool} {P P' : Nat → Nat → Bool} : ∀ m t D, (∀ i j, i < D 55 7 → j < D 55 7 → P i j = P' i j) → fo q P m t D = fo q P' m t D
  | 0, _, _, _ => rfl
  | m + 1, t, D, h => by
    have e : go D P = go D P' := by unfold go; rw [P_ext h]
    unfold fo
    rw [P_ext h, e, fo_ext m (t + 1) (go D P') (fun i j hi hj => h i j (by rw [go_row (by omega) (by omega)] at hi; exact hi) (by rw [go_row (by omega) (by omega)] at hj; exact hj))]
theorem pfr_0 (D : DD) : ∀ i j, i < D 55 7 → j < D 55 7 → pfr D 0 i j = mp D i j := by
  intro i j hi hj
  unfold pfr mpx
  rw [if_pos ⟨hi, hj⟩]
  simp
theorem ct_first {D : DD} (hd : okD D) {what : Nat} (hwt : what ≤ 2) {S : Mem} (hr : RC D S) : ∃ S', f_Top_first (nI what) S = some (fiR what (fo (qs 31) (mp D) 60 1 D), S') ∧ frX S S' := by
  obtain ⟨S1, e1, f1, z1, m1, p1, n1⟩ := cm_begin hd (free := 0) (by omega) hr
  have hr1 : RC D S1 := RC_f hd hr (fun a k q => f1 a k (by omega) (by omega) (by omega) (by omega))
  obtain ⟨S2, e2, f2⟩ := ct_first_k hd hwt 60 1 D (fun _ => 0) S1 (by omega) (ovr_r D) hd.2.1 hr1 m1 p1 n1
  rw [fo_ext 60 1 D (pfr_0 D)] at e2
  refine ⟨S2, ?_, fun x k q => by rw [f2 x k (by omega) (by omega) (by omega) (by omega) (by omega) (by omega), f1 x k (by omega) (by omega) (by omega) (by omega)]⟩
  rw [f_Top_first_eq, zL0, e1]
  simp (disch := omega) only [zL0, zL1, zL2, zL3, zL4, zL5, zL6, zL7, zL8, zL9, zL10, zL12, zL20, zL30, zL31, zL32, zL44, zL48, zL49, zL50, zL56, zL59, zL60, zL61, zL64, zL65, zL97, zL99, zL100, zL101, zL102, zL103, zL104, zL111, zL119, zL126, zL255, zL512, zL617, zL65535, zL65536, zL1048576, zlt, zle, zeq, ztn, zin, zzb, zadd, zmul, zm_lt, zm_gt, zm_le, zm_ge, zm_eq, zm_eq', zm_in, if_pos, if_neg, bI_s, bJ_s, bA_s, bU_s, if_true, if_false, reduceIte, or_true, true_or, or_false, false_or, and_true, true_and, and_false, false_and, not_true_eq_false, not_false_eq_true, Nat.reduceEqDiff, Nat.zero_ne_one, Nat.one_ne_zero, e2]
