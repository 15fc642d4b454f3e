/-! ENOUGH by the class -/
section EN
variable {D : DD}
def enP (D : DD) (w v : Nat) : Bool := (fo (qs (2 ^ w)) (mp (dS D 62 (dU (D 62) w v))) 60 1 D).isNone
def enl (D : DD) (w : Nat) : Nat → Nat → Int32
  | 0, _ => -nI 1
  | m + 1, v => if enP D w v then nI v else enl D w m (v + 1)
def en (D : DD) (w : Nat) : Int32 := enl D w 21 0
theorem isNone_iff {α : Type} {o : Option α} : o.isNone = true ↔ o = none := by cases o <;> simp
theorem mp_lp {w v : Nat} (h : ∀ i, i ≠ w → True) (i j : Nat) (hi : i ≠ w) : mp (dS D 62 (dU (D 62) w v)) w i = lp D w v i (D 62 i) := by
  rw [lp_mp]
  show lp (dS D 62 (dU (D 62) w v)) w (dU (D 62) w v w) i (dU (D 62) w v i) = _
  rw [dU_s rfl, dU_n hi]
  rfl
theorem bits1 : ∀ w, w < 5 → bc (2 ^ w) 5 = 1 ∧ mem (2 ^ w) 0 = w ∧ bh (2 ^ w) w = 0 ∧ 2 ^ w < 32 := by decide +kernel
theorem bit_p2 (w i : Nat) : (2 ^ w).testBit i = decide (w = i) := Nat.testBit_two_pow
/-- the free morning of one tells by which loads it never goes back -/
theorem en_sok (hd : okD D) {w v : Nat} (hw : w < D 55 7) {Mi : Nat} (hM : ∀ j, j < 5 → Mi.testBit j = me (pfr D (2 ^ w)) 60 D w j) : sok D Mi 0 w v (dU (fun j => if j < D 55 7 then D 62 j else 0) w v) 5 = enP D w v := by
  have w5 := hd.2.1.1
  have hfree := free_one (P := mp (dS D 62 (dU (D 62) w v))) (P' := pfr D (2 ^ w)) (w := w) (W := D 55 7) (fun i j => mp_sym _ i j) (fun i j hiW hjW hi hj => by
      unfold pfr mpx
      rw [bit_p2, bit_p2, decide_eq_false (fun q => hi q.symm), decide_eq_false (fun q => hj q.symm), if_pos ⟨hiW, hjW⟩, lp_mp, lp_mp]
      show lp (dS D 62 (dU (D 62) w v)) i (dU (D 62) w v i) j (dU (D 62) w v j) = _
      rw [dU_n hi, dU_n hj]
      rfl) (fun i => ⟨by unfold pfr; rw [bit_p2, decide_eq_true rfl]; simp, by unfold pfr; rw [bit_p2, bit_p2, decide_eq_true (rfl : w = w)]; simp⟩) 60 1 D hd.1 rfl
  rw [Bool.eq_iff_iff, sok_iff]
  unfold enP
  rw [isNone_iff, hfree]
  constructor
  · intro h j hj
    have hlt := me_lt _ _ _ _ hj
    have hne : j ≠ w := fun e => by rw [e, me_irr _ _ _ hd.1] at hj; cases hj
    have := h j (by omega) hlt.2 (by rw [hM j (by omega)]; exact hj) (by simp)
    rw [dU_n hne, if_pos hlt.2] at this
    rw [mp_lp (fun _ _ => trivial) j j hne]
    exact this
  · intro h j hj hjw hm _
    rw [hM j hj] at hm
    have hne : j ≠ w := fun e => by rw [e, me_irr _ _ _ hd.1] at hm; cases hm
    have := h j hm
    rw [mp_lp (fun _ _ => trivial) j j hne] at this
    rw [dU_n hne, if_pos hjw]
    exact this
theorem cl_least (hd : okD D) {w : Nat} (hw : w < D 55 7) {S : Mem} (hr : RC D S) : ∃ S', f_Loads_leastFor (nI w) S = some (en D w, S') ∧ frC S S' := by
  have w5 := hd.2.1.1
  obtain ⟨b1, b2, b3, b4⟩ := bits1 w (by omega)
  have hsh := zsh (a := w) (by omega)
  obtain ⟨S1, e1, f1, p6, p5, p7, p49, p48, p50⟩ := cl_gather hd b4 (by omega) hr rfl
  have hr1 : RC D S1 := RC_f hd hr (fun a k q => f1 a k (by omega))
  obtain ⟨S2, e2, f2, z2, m2, q2, n2⟩ := cm_begin hd (free := 2 ^ w) b4 hr1
  have hr2 : RC D S2 := RC_f hd hr1 (fun a k q => f2 a k (by omega) (by omega) (by omega) (by omega))
  obtain ⟨S3, e3, f3, z3, M, hM, bM⟩ := cm_goAll hd hr2 m2 q2 n2
  have hr3 : RC D S3 := RC_f hd hr2 (frW_C f3)
  have g : ∀ x k, 47 ≤ x → S3.1 x k = S1.1 x k := fun x k q => by rw [f3 x k (by omega) (by omega) (by omega) (by omega) (by omega) (by omega), f2 x k (by omega) (by omega) (by omega) (by omega)]
  have hL : LSt (2 ^ w) (fun j => if j < D 55 7 then D 62 j else 0) M S3 := by
    refine ⟨?_, ?_, fun k hk => ?_, fun i hi => ⟨?_, ?_⟩, hM⟩
    · rw [g _ _ (by omega)]; exact p6
    · rw [g _ _ (by omega)]; exact p5
    · rw [g _ _ (by omega)]; exact p49 k hk
    · rw [g _ _ (by omega)]; exact p48 i hi
    · show (if i < D 55 7 then D 62 i else 0) < 1000
      by_cases q : i < D 55 7
      · rw [if_pos q]; have := hd.2.1.2 i q; omega
      · rw [if_neg q]; omega
  have key : ∀ m v S T, v + m = 21 → RC D S → LSt (2 ^ w) T M S → (∀ j, j ≠ w → T j = if j < D 55 7 then D 62 j else 0) → ∃ S', k_Loads_leastFor_28 (nI v) S = some (enl D w m v, S') ∧ frC S S' := by
    intro m
    induction m with
    | zero =>
      intro v S T hv hr hL hT
      refine ⟨S, ?_, frC_r S⟩
      rw [k_Loads_leastFor_28_eq]
      simp (disch := omega) only [zL0, zL1, zL2, zL3, zL4, zL5, zL6, zL7, zL8, zL9, zL10, zL12, zL20, zL30, zL31, zL32, zL44, zL48, zL49, zL50, zL56, zL59, zL60, zL61, zL64, zL65, zL97, zL99, zL100, zL101, zL102, zL103, zL104, zL111, zL119, zL126, zL255, zL512, zL617, zL65535, zL65536, zL1048576, zlt, zle, zeq, ztn, zin, zzb, zadd, zmul, zm_lt, zm_gt, zm_le, zm_ge, zm_eq, zm_eq', zm_in, if_pos, if_neg, bI_s, bJ_s, bA_s, bU_s, if_true, if_false, reduceIte, or_true, true_or, or_false, false_or, and_true, true_and, and_false, false_and, not_true_eq_false, not_false_eq_true, Nat.reduceEqDiff, Nat.zero_ne_one, Nat.one_ne_zero, enl]
    | succ m ih =>
      intro v S T hv hr hL hT
      obtain ⟨S', e', s', L', f'⟩ := cl_suits (k := 0) (v := v) hd b4 hr hL (by omega) (by omega) (by rw [b2]; exact hw) (by omega)
      rw [b2, b3] at e'
      rw [b2] at L'
      have hdu : dU T w v = dU (fun j => if j < D 55 7 then D 62 j else 0) w v := by
        funext j
        by_cases e : j = w
        · rw [dU_s e, dU_s e]
        · rw [dU_n e, dU_n e, hT j e]
      rw [hdu, en_sok hd hw (Mi := M w) (fun j hj => by rw [bM w j (by omega) hj]; simp)] at e'
      rw [k_Loads_leastFor_28_eq, enl]
      cases ce : enP D w v
      · rw [ce] at e'
        obtain ⟨S2, e2, f2⟩ := ih (v + 1) S' (dU T w v) (by omega) (RC_f hd hr (frY_C f')) L' (fun j hj => by rw [dU_n hj]; exact hT j hj)
        refine ⟨S2, ?_, frC_t (frY_C f') f2⟩
        simp (disch := omega) only [zL0, zL1, zL2, zL3, zL4, zL5, zL6, zL7, zL8, zL9, zL10, zL12, zL20, zL30, zL31, zL32, zL44, zL48, zL49, zL50, zL56, zL59, zL60, zL61, zL64, zL65, zL97, zL99, zL100, zL101, zL102, zL103, zL104, zL111, zL119, zL126, zL255, zL512, zL617, zL65535, zL65536, zL1048576, zlt, zle, zeq, ztn, zin, zzb, zadd, zmul, zm_lt, zm_gt, zm_le, zm_ge, zm_eq, zm_eq', zm_in, if_pos, if_neg, bI_s, bJ_s, bA_s, bU_s, if_true, if_false, reduceIte, or_true, true_or, or_false, false_or, and_true, true_and, and_false, false_and, not_true_eq_false, not_false_eq_true, Nat.reduceEqDiff, Nat.zero_ne_one, Nat.one_ne_zero, e', e2, Bool.false_eq_true]
      · rw [ce] at e'
        refine ⟨S', ?_, frY_C f'⟩
        simp (disch := omega) only [zL0, zL1, zL2, zL3, zL4, zL5, zL6, zL7, zL8, zL9, zL10, zL12, zL20, zL30, zL31, zL32, zL44, zL48, zL49, zL50, zL56, zL59, zL60, zL61, zL64, zL65, zL97, zL99, zL100, zL101, zL102, zL103, zL104, zL111, zL119, zL126, zL255, zL512, zL617, zL65535, zL65536, zL1048576, zlt, zle, zeq, ztn, zin, zzb, zadd, zmul, zm_lt, zm_gt, zm_le, zm_ge, zm_eq, zm_eq', zm_in, if_pos, if_neg, bI_s, bJ_s, bA_s, bU_s, if_true, if_false, reduceIte, or_true, true_or, or_false, false_or, and_true, true_and, and_false, false_and, not_true_eq_false, not_false_eq_true, Nat.reduceEqDiff, Nat.zero_ne_one, Nat.one_ne_zero, e']
  obtain ⟨S4, e4, f4⟩ := key 21 0 S3 (fun j => if j < D 55 7 then D 62 j else 0) (by omega) hr3 hL (fun _ _ => rfl)
  refine ⟨S4, ?_, frC_t (fun a k q => by rw [f3 a k (by omega) (by omega) (by omega) (by omega) (by omega) (by omega), f2 a k (by omega) (by omega) (by omega) (by omega), f1 a k (by omega)]) f4⟩
  rw [f_Loads_leastFor_eq]
  simp (disch := omega) only [zL0, zL1, zL2, zL3, zL4, zL5, zL6, zL7, zL8, zL9, zL10, zL12, zL20, zL30, zL31, zL32, zL44, zL48, zL49, zL50, zL56, zL59, zL60, zL61, zL64, zL65, zL97, zL99, zL100, zL101, zL102, zL103, zL104, zL111, zL119, zL126, zL255, zL512, zL617, zL65535, zL65536, zL1048576, zlt, zle, zeq, ztn, zin, zzb, zadd, zmul, zm_lt, zm_gt, zm_le, zm_ge, zm_eq, zm_eq', zm_in, if_pos, if_neg, bI_s, bJ_s, bA_s, bU_s, if_true, if_false, reduceIte, or_true, true_or, or_false, false_or, and_true, true_and, and_false, false_and, not_true_eq_false, not_false_eq_true, Nat.reduceEqDiff, Nat.zero_ne_one, Nat.one_ne_zero, hsh, e1, p6, e2, e3]
  exact e4
/-! ENOUGH by the model -/
theorem mo_enoughNow (hd : okD D) {w : Nat} (hw : w < D 55 7) {S : Mem} (hm : RM D S) : ∃ S', f_Mod_enoughNow (nI w) S = some (en D w, S') ∧ RM D S' ∧ frF S S' := by
  have w5 := hd.2.1.1
  have wi := hd.2.1.2 w hw
  have hsh := zsh (a := w) (by omega)
  have b4 := (bits1 w (by omega)).2.2.2
  have key : ∀ m v D' S', v + m = 21 → (∃ u, u ≤ 20 ∧ D' = dS D 62 (dU (D 62) w u)) → RM D' S' → ∃ S2, k_Mod_enoughNow_12 (nI w) (nI (D 62 w)) (-nI 1) (nI v) S' = k_Mod_enoughNow_56 (nI w) (nI (D 62 w)) (enl D w m v) S2 ∧ (∃ u, u ≤ 20 ∧ RM (dS D 62 (dU (D 62) w u)) S2) ∧ (∀ a k, a ≠ 62 → ¬ (a = 55 ∧ (k = 29 ∨ k = 30 ∨ k = 31 ∨ k = 35 ∨ k = 36)) → a ≠ 60 → a ≠ 65 → a ≠ 71 → a ≠ 72 → a ≠ 73 → S2.1 a k = S'.1 a k) ∧ S2.2 = S'.2 := by
    intro m
    induction m with
    | zero =>
      intro v D' S' hv hD hm'
      obtain ⟨u, hu, rfl⟩ := hD
      refine ⟨S', ?_, ⟨u, hu, hm'⟩, fun _ _ _ _ _ _ _ _ _ => rfl, rfl⟩
      rw [k_Mod_enoughNow_12_eq]
      simp (disch := omega) only [zL0, zL1, zL2, zL3, zL4, zL5, zL6, zL7, zL8, zL9, zL10, zL12, zL20, zL30, zL31, zL32, zL44, zL48, zL49, zL50, zL56, zL59, zL60, zL61, zL64, zL65, zL97, zL99, zL100, zL101, zL102, zL103, zL104, zL111, zL119, zL126, zL255, zL512, zL617, zL65535, zL65536, zL1048576, zlt, zle, zeq, ztn, zin, zzb, zadd, zmul, zm_lt, zm_gt, zm_le, zm_ge, zm_eq, zm_eq', zm_in, if_pos, if_neg, bI_s, bJ_s, bA_s, bU_s, if_true, if_false, reduceIte, or_true, true_or, or_false, false_or, and_true, true_and, and_false, false_and, not_true_eq_false, not_false_eq_true, Nat.reduceEqDiff, Nat.zero_ne_one, Nat.one_ne_zero, enl]
    | succ m ih =>
      intro v D' S' hv hD hm'
      obtain ⟨u, hu, rfl⟩ := hD
      have hm1 : RM (dS D 62 (dU (D 62) w v)) (u1 S' 62 w (nI v)) := by
        have := RM_u1 hm' (a := 62) (k := w) (v := v)
        refine fun a k q => ?_
        rw [this a k q]
        congr 1
        by_cases a62 : a = 62
        · subst a62
          rw [dS_s, dS_s, dS_s]
          by_cases e : k = w
          · rw [dU_s e, dU_s e]
          · rw [dU_n e, dU_n e, dU_n e]
        · rw [dS_n a62, dS_n a62, dS_n a62]
      have hd1 : okD (dS D 62 (dU (D 62) w v)) := okD_l hd (by omega)
      obtain ⟨S2, e2, m2, f2, _⟩ := mo_firstOf (set := 2 ^ w) b4 hm1 hd1.1 hd1.2.1
      have hfo : fo (qs (2 ^ w)) (mp (dS D 62 (dU (D 62) w v))) 60 1 (dS D 62 (dU (D 62) w v)) = fo (qs (2 ^ w)) (mp (dS D 62 (dU (D 62) w v))) 60 1 D := fo_62 60 1 D _ (fun a ha => dS_n ha)
      rw [hfo] at e2
      have fr2 : ∀ a k, a ≠ 62 → ¬ (a = 55 ∧ (k = 29 ∨ k = 30 ∨ k = 31 ∨ k = 35 ∨ k = 36)) → a ≠ 60 → a ≠ 65 → a ≠ 71 → a ≠ 72 → a ≠ 73 → S2.1 a k = S'.1 a k := fun a k q0 q1 q2 q3 q4 q5 q6 => by rw [f2.1 a k q1 q2 q3 q4 q5 q6, zuN (by omega)]
      rw [k_Mod_enoughNow_12_eq, enl]
      unfold enP
      cases hr : fo (qs (2 ^ w)) (mp (dS D 62 (dU (D 62) w v))) 60 1 D with
      | none =>
        rw [hr] at e2
        refine ⟨S2, ?_, ⟨v, by omega, m2⟩, fr2, f2.2⟩
        simp (disch := omega) only [zL0, zL1, zL2, zL3, zL4, zL5, zL6, zL7, zL8, zL9, zL10, zL12, zL20, zL30, zL31, zL32, zL44, zL48, zL49, zL50, zL56, zL59, zL60, zL61, zL64, zL65, zL97, zL99, zL100, zL101, zL102, zL103, zL104, zL111, zL119, zL126, zL255, zL512, zL617, zL65535, zL65536, zL1048576, zlt, zle, zeq, ztn, zin, zzb, zadd, zmul, zm_lt, zm_gt, zm_le, zm_ge, zm_eq, zm_eq', zm_in, if_pos, if_neg, bI_s, bJ_s, bA_s, bU_s, if_true, if_false, reduceIte, or_true, true_or, or_false, false_or, and_true, true_and, and_false, false_and, not_true_eq_false, not_false_eq_true, Nat.reduceEqDiff, Nat.zero_ne_one, Nat.one_ne_zero, hsh, e2, foR, k_Mod_enoughNow_49_eq, Option.isNone_none]
        rw [k_Mod_enoughNow_12_eq]
        by_cases q : 20 < v + 1
        · simp (disch := omega) only [zL0, zL1, zL2, zL3, zL4, zL5, zL6, zL7, zL8, zL9, zL10, zL12, zL20, zL30, zL31, zL32, zL44, zL48, zL49, zL50, zL56, zL59, zL60, zL61, zL64, zL65, zL97, zL99, zL100, zL101, zL102, zL103, zL104, zL111, zL119, zL126, zL255, zL512, zL617, zL65535, zL65536, zL1048576, zlt, zle, zeq, ztn, zin, zzb, zadd, zmul, zm_lt, zm_gt, zm_le, zm_ge, zm_eq, zm_eq', zm_in, if_pos, if_neg, bI_s, bJ_s, bA_s, bU_s, if_true, if_false, reduceIte, or_true, true_or, or_false, false_or, and_true, true_and, and_false, false_and, not_true_eq_false, not_false_eq_true, Nat.reduceEqDiff, Nat.zero_ne_one, Nat.one_ne_zero]
        · simp (disch := omega) only [zL0, zL1, zL2, zL3, zL4, zL5, zL6, zL7, zL8, zL9, zL10, zL12, zL20, zL30, zL31, zL32, zL44, zL48, zL49, zL50, zL56, zL59, zL60, zL61, zL64, zL65, zL97, zL99, zL100, zL101, zL102, zL103, zL104, zL111, zL119, zL126, zL255, zL512, zL617, zL65535, zL65536, zL1048576, zlt, zle, zeq, ztn, zin, zzb, zadd, zmul, zm_lt, zm_gt, zm_le, zm_ge, zm_eq, zm_eq', zm_in, if_pos, if_neg, bI_s, bJ_s, bA_s, bU_s, if_true, if_false, reduceIte, or_true, true_or, or_false, false_or, and_true, true_and, and_false, false_and, not_true_eq_false, not_false_eq_true, Nat.reduceEqDiff, Nat.zero_ne_one, Nat.one_ne_zero]
      | some r =>
        rw [hr] at e2
        have hle := fo_le hr
        obtain ⟨S3, e3, m3, f3, z3⟩ := ih (v + 1) _ S2 (by omega) ⟨v, by omega, rfl⟩ m2
        refine ⟨S3, ?_, m3, fun a k q0 q1 q2 q3 q4 q5 q6 => by rw [f3 a k q0 q1 q2 q3 q4 q5 q6, fr2 a k q0 q1 q2 q3 q4 q5 q6], z3.trans f2.2⟩
        simp (disch := omega) only [zL0, zL1, zL2, zL3, zL4, zL5, zL6, zL7, zL8, zL9, zL10, zL12, zL20, zL30, zL31, zL32, zL44, zL48, zL49, zL50, zL56, zL59, zL60, zL61, zL64, zL65, zL97, zL99, zL100, zL101, zL102, zL103, zL104, zL111, zL119, zL126, zL255, zL512, zL617, zL65535, zL65536, zL1048576, zlt, zle, zeq, ztn, zin, zzb, zadd, zmul, zm_lt, zm_gt, zm_le, zm_ge, zm_eq, zm_eq', zm_in, if_pos, if_neg, bI_s, bJ_s, bA_s, bU_s, if_true, if_false, reduceIte, or_true, true_or, or_false, false_or, and_true, true_and, and_false, false_and, not_true_eq_false, not_false_eq_true, Nat.reduceEqDiff, Nat.zero_ne_one, Nat.one_ne_zero, hsh, e2, foR, k_Mod_enoughNow_49_eq, Option.isNone_some, Bool.false_eq_true]
        exact e3
  have hm0 : RM (dS D 62 (dU (D 62) w (D 62 w))) S := by
    intro a k q
    rw [hm a k q]
    congr 1
    by_cases a62 : a = 62
    · subst a62
      rw [dS_s]
      by_cases e : k = w
      · rw [dU_s e, e]
      · rw [dU_n e]
    · rw [dS_n a62]
  obtain ⟨S1, e1, ⟨u, hu, m1⟩, f1, z1⟩ := key 21 0 _ S (by omega) ⟨D 62 w, wi.2.2.2.1, rfl⟩ hm0
  have hmE : RM D (u1 S1 62 w (nI (D 62 w))) := by
    intro a k q
    by_cases a62 : a = 62 ∧ k = w
    · rw [zuS a62, a62.1, a62.2]
    · rw [zuN a62, m1 a k q]
      congr 1
      by_cases e : a = 62
      · subst e
        rw [dS_s, dU_n (fun w => a62 ⟨rfl, w⟩)]
      · rw [dS_n e]
  refine ⟨u1 S1 62 w (nI (D 62 w)), ?_, hmE, fun a k q1 q2 q3 q4 q5 q6 => ?_, z1⟩
  · rw [f_Mod_enoughNow_eq]
    simp (disch := omega) only [zL0, zL1, zL2, zL3, zL4, zL5, zL6, zL7, zL8, zL9, zL10, zL12, zL20, zL30, zL31, zL32, zL44, zL48, zL49, zL50, zL56, zL59, zL60, zL61, zL64, zL65, zL97, zL99, zL100, zL101, zL102, zL103, zL104, zL111, zL119, zL126, zL255, zL512, zL617, zL65535, zL65536, zL1048576, zlt, zle, zeq, ztn, zin, zzb, zadd, zmul, zm_lt, zm_gt, zm_le, zm_ge, zm_eq, zm_eq', zm_in, if_pos, if_neg, bI_s, bJ_s, bA_s, bU_s, if_true, if_false, reduceIte, or_true, true_or, or_false, false_or, and_true, true_and, and_false, false_and, not_true_eq_false, not_false_eq_true, Nat.reduceEqDiff, Nat.zero_ne_one, Nat.one_ne_zero, hm.r]
    rw [e1, k_Mod_enoughNow_56_eq]
    simp (disch := omega) only [zL0, zL1, zL2, zL3, zL4, zL5, zL6, zL7, zL8, zL9, zL10, zL12, zL20, zL30, zL31, zL32, zL44, zL48, zL49, zL50, zL56, zL59, zL60, zL61, zL64, zL65, zL97, zL99, zL100, zL101, zL102, zL103, zL104, zL111, zL119, zL126, zL255, zL512, zL617, zL65535, zL65536, zL1048576, zlt, zle, zeq, ztn, zin, zzb, zadd, zmul, zm_lt, zm_gt, zm_le, zm_ge, zm_eq, zm_eq', zm_in, if_pos, if_neg, bI_s, bJ_s, bA_s, bU_s, if_true, if_false, reduceIte, or_true, true_or, or_false, false_or, and_true, true_and, and_false, false_and, not_true_eq_false, not_false_eq_true, Nat.reduceEqDiff, Nat.zero_ne_one, Nat.one_ne_zero]
    rfl
  · by_cases e : a = 62
    · subst e
      rw [hmE 62 k (by omega), hm 62 k (by omega)]
    · rw [zuN (by omega), f1 a k e q1 q2 q3 q4 q5 q6]
theorem frF_M {D : DD} {S S' : Mem} (h : frF S S') : frM S S' := fun a k q => h.1 a k (by omega) (by omega) (by omega) (by omega) (by omega) (by omega)
theorem ask_enough {c : Nat} {S : Mem} (h : Inv c D S) (hc : c < 512) (x : Int32) : CAL c S (f_Top_enough x) (f_Mod_enough x) := by
  obtain ⟨hd, hr, hm, h4, h5, h6⟩ := id h
  rcases ask_w hd hr hm x with ⟨i, hi, hi5, rfl, hat, hw⟩ | ⟨_, hat, hw⟩
  · refine CAL_0 h hc (r := en D i) ?_ (fun S1 r1 m1 => ?_)
    · obtain ⟨S1, e1, f1⟩ := cl_least hd hi hr
      refine ⟨S1, ?_, f1⟩
      rw [f_Top_enough_eq]
      simp (disch := omega) only [hat, oc, zL0, zL1, zL2, zL3, zL4, zL5, zL6, zL7, zL8, zL9, zL10, zL12, zL20, zL30, zL31, zL32, zL44, zL48, zL49, zL50, zL56, zL59, zL60, zL61, zL64, zL65, zL97, zL99, zL100, zL101, zL102, zL103, zL104, zL111, zL119, zL126, zL255, zL512, zL617, zL65535, zL65536, zL1048576, zlt, zle, zeq, ztn, zin, zzb, zadd, zmul, zm_lt, zm_gt, zm_le, zm_ge, zm_eq, zm_eq', zm_in, if_pos, if_neg, bI_s, bJ_s, bA_s, bU_s, if_true, if_false, reduceIte, or_true, true_or, or_false, false_or, and_true, true_and, and_false, false_and, not_true_eq_false, not_false_eq_true, Nat.reduceEqDiff, Nat.zero_ne_one, Nat.one_ne_zero, k_Top_enough_16_eq, e1, k_Top_enough_24_eq]
    · obtain ⟨S2, e2, m2, f2⟩ := mo_enoughNow hd hi m1
      have hw1 : f_Mod_isWalker (nI i) S1 = some (nI 1, S1) := by rw [mo_isWalker m1 hd.2.1.1 (by omega), if_pos hi]
      refine ⟨S2, ?_, m2, frF_M (D := D) f2⟩
      rw [f_Mod_enough_eq]
      simp (disch := omega) only [zL0, zL1, zL2, zL3, zL4, zL5, zL6, zL7, zL8, zL9, zL10, zL12, zL20, zL30, zL31, zL32, zL44, zL48, zL49, zL50, zL56, zL59, zL60, zL61, zL64, zL65, zL97, zL99, zL100, zL101, zL102, zL103, zL104, zL111, zL119, zL126, zL255, zL512, zL617, zL65535, zL65536, zL1048576, zlt, zle, zeq, ztn, zin, zzb, zadd, zmul, zm_lt, zm_gt, zm_le, zm_ge, zm_eq, zm_eq', zm_in, if_pos, if_neg, bI_s, bJ_s, bA_s, bU_s, if_true, if_false, reduceIte, or_true, true_or, or_false, false_or, and_true, true_and, and_false, false_and, not_true_eq_false, not_false_eq_true, Nat.reduceEqDiff, Nat.zero_ne_one, Nat.one_ne_zero, hw1, e2, k_Mod_enough_18_eq]
  · refine CAL_00 h hc (r := -nI 101) ?_ ?_
    · rw [f_Top_enough_eq]; simp (disch := omega) only [hat, oc, zL0, zL1, zL2, zL3, zL4, zL5, zL6, zL7, zL8, zL9, zL10, zL12, zL20, zL30, zL31, zL32, zL44, zL48, zL49, zL50, zL56, zL59, zL60, zL61, zL64, zL65, zL97, zL99, zL100, zL101, zL102, zL103, zL104, zL111, zL119, zL126, zL255, zL512, zL617, zL65535, zL65536, zL1048576, zlt, zle, zeq, ztn, zin, zzb, zadd, zmul, zm_lt, zm_gt, zm_le, zm_ge, zm_eq, zm_eq', zm_in, if_pos, if_neg, bI_s, bJ_s, bA_s, bU_s, if_true, if_false, reduceIte, or_true, true_or, or_false, false_or, and_true, true_and, and_false, false_and, not_true_eq_false, not_false_eq_true, Nat.reduceEqDiff, Nat.zero_ne_one, Nat.one_ne_zero, k_Top_enough_11_eq, k_Top_enough_24_eq]
    · rw [f_Mod_enough_eq]; simp (disch := omega) only [hw, zL0, zL1, zL2, zL3, zL4, zL5, zL6, zL7, zL8, zL9, zL10, zL12, zL20, zL30, zL31, zL32, zL44, zL48, zL49, zL50, zL56, zL59, zL60, zL61, zL64, zL65, zL97, zL99, zL100, zL101, zL102, zL103, zL104, zL111, zL119, zL126, zL255, zL512, zL617, zL65535, zL65536, zL1048576, zlt, zle, zeq, ztn, zin, zzb, zadd, zmul, zm_lt, zm_gt, zm_le, zm_ge, zm_eq, zm_eq', zm_in, if_pos, if_neg, bI_s, bJ_s, bA_s, bU_s, if_true, if_false, reduceIte, or_true, true_or, or_false, false_or, and_true, true_and, and_false, false_and, not_true_eq_false, not_false_eq_true, Nat.reduceEqDiff, Nat.zero_ne_one, Nat.one_ne_zero, k_Mod_enough_18_eq]
end EN
