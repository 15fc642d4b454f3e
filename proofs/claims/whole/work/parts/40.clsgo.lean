/-! the class's morning: state D' of the walk, over the standing D -/
def MR (D' : DD) (S : Mem) : Prop := (∀ i, i < 5 → S.1 41 i = nI (if i < D' 55 7 then D' 60 i else 0)) ∧ (∀ i, i < D' 55 7 → S.1 42 i = nI (D' 65 i))
/-- D' stands over D -/
def ovr (D D' : DD) : Prop := ∀ a, ¬ a = 60 → ¬ a = 65 → D' a = D a
theorem ovr_r (D : DD) : ovr D D := fun _ _ _ => rfl
theorem ovr_go {D D' : DD} (h : ovr D D') (P : Nat → Nat → Bool) : ovr D (go D' P) := fun a h0 h5 => by rw [go_row h0 h5, h a h0 h5]
/-- cells that a walk of the class does not touch -/
def frW (S S' : Mem) : Prop := (∀ x k, ¬ (x = 40 ∧ (k = 8 ∨ k = 9)) → x ≠ 41 → x ≠ 42 → x ≠ 43 → x ≠ 44 → x ≠ 46 → S'.1 x k = S.1 x k)
theorem frW_r (S : Mem) : frW S S := fun _ _ _ _ _ _ _ _ => rfl
theorem frW_t {S S' S'' : Mem} (h : frW S S') (h2 : frW S' S'') : frW S S'' := fun x k q0 q1 q2 q3 q4 q6 => by rw [h2 x k q0 q1 q2 q3 q4 q6, h x k q0 q1 q2 q3 q4 q6]
theorem frW_C {S S' : Mem} (h : frW S S') : frC S S' := fun a k q => h a k (by omega) (by omega) (by omega) (by omega) (by omega) (by omega)
theorem frQ_W {S S' : Mem} (h : frQ S S') : frW S S' := fun x k q0 _ _ _ q4 q6 => h.1 x k q0 q4 q6
/-- the meetings of a minute, gathered -/
theorem mf_bit_l {f : Nat → Nat → Bool} {i j : Nat} : ∀ (l : List (Nat × Nat)) (M : Nat → Nat), (∀ a b, (a, b) ∈ l → a < b) → ((l.foldl (mfs f) M i).testBit j = true ↔ (M i).testBit j = true ∨ ∃ a b, (a, b) ∈ l ∧ f a b = true ∧ ((a = i ∧ b = j) ∨ (b = i ∧ a = j)))
  | [], M, _ => by simp
  | q :: l, M, hl => by
    rw [List.foldl_cons, mf_bit_l l _ (fun a b hm => hl a b (List.mem_cons_of_mem _ hm))]
    have hq := hl q.1 q.2 (by simp)
    have e : (mfs f M q i).testBit j = true ↔ (M i).testBit j = true ∨ (f q.1 q.2 = true ∧ ((q.1 = i ∧ q.2 = j) ∨ (q.2 = i ∧ q.1 = j))) := by
      unfold mfs
      by_cases c : f q.1 q.2 = true
      · rw [if_pos c]
        by_cases c2 : i = q.2
        · rw [dU_s c2, Nat.testBit_or, Nat.testBit_two_pow, Bool.or_eq_true, decide_eq_true_eq, ← c2]
          constructor
          · rintro (h | h)
            · exact Or.inl h
            · exact Or.inr ⟨by rw [c2]; exact c, Or.inr ⟨rfl, h⟩⟩
          · rintro (h | ⟨_, h⟩)
            · exact Or.inl h
            · exact Or.inr (by omega)
        · rw [dU_n c2]
          by_cases c1 : i = q.1
          · rw [dU_s c1, Nat.testBit_or, Nat.testBit_two_pow, Bool.or_eq_true, decide_eq_true_eq, ← c1]
            constructor
            · rintro (h | h)
              · exact Or.inl h
              · exact Or.inr ⟨by rw [c1]; exact c, Or.inl ⟨rfl, h⟩⟩
            · rintro (h | ⟨_, h⟩)
              · exact Or.inl h
              · exact Or.inr (by omega)
          · rw [dU_n c1]
            constructor
            · intro h; exact Or.inl h
            · rintro (h | ⟨_, h⟩)
              · exact h
              · omega
      · rw [if_neg c]
        constructor
        · intro h; exact Or.inl h
        · rintro (h | ⟨h, _⟩)
          · exact h
          · exact absurd h c
    rw [e]
    constructor
    · rintro ((h | h) | ⟨a, b, h1, h2, h3⟩)
      · exact Or.inl h
      · exact Or.inr ⟨q.1, q.2, by simp, h⟩
      · exact Or.inr ⟨a, b, List.mem_cons_of_mem _ h1, h2, h3⟩
    · rintro (h | ⟨a, b, h1, h2, h3⟩)
      · exact Or.inl (Or.inl h)
      · rcases List.mem_cons.mp h1 with h4 | h4
        · subst h4; exact Or.inl (Or.inr ⟨h2, h3⟩)
        · exact Or.inr ⟨a, b, h4, h2, h3⟩
section GO
variable {D D' : DD} {P : Nat → Nat → Bool}
theorem mx_mt (hd : okD D) (ho : ovr D D') (hw : okW D') {i j : Nat} (hij : i < j) : mx D (fun i => if i < D' 55 7 then D' 60 i else 0) (fun i => if i < D' 55 7 then wn D' i else 0) i j = mt D' (wn D') i j := by
  have hnar : ∀ a b, nar D' a b = nar D a b := fun a b => nar_row (ho 55 (by omega) (by omega)) (ho 56 (by omega) (by omega)) (ho 57 (by omega) (by omega)) (ho 58 (by omega) (by omega)) a b
  unfold mx mt
  by_cases hj : j < D' 55 7
  · have hi : i < D' 55 7 := by omega
    simp only [if_pos hi, if_pos hj, hnar, decide_eq_true hi, decide_eq_true hj, Bool.true_and]
  · simp only [if_neg hj, decide_eq_false hj, Bool.and_false, Bool.false_and]
    by_cases h0 : (if i < D' 55 7 then D' 60 i else 0) = 0
    · rw [h0, nar_irr hd.1]; simp
    · simp only [decide_eq_false (fun q : 0 = (if i < D' 55 7 then D' 60 i else 0) => h0 q.symm), Bool.and_false, Bool.false_and]
theorem lay_mx (hd : okD D) (ho : ovr D D') (hw : okW D') : lb (fun i j => mx D (fun i => if i < D' 55 7 then D' 60 i else 0) (fun i => if i < D' 55 7 then wn D' i else 0) i j && !P i j) 5 = lay D' P (wn D') := by
  rw [lb_cong (f' := cl D' P (wn D')) (fun i j hij hj => by unfold cl; rw [mx_mt hd ho hw hij])]
  exact lb_ext hw.1 (fun i j hj => by unfold cl mt; simp [show ¬ j < D' 55 7 by omega])
theorem mf_mt (hd : okD D) (ho : ovr D D') (hw : okW D') {M : Nat → Nat} {i j : Nat} (hi : i < 5) (hj : j < 5) : ((ro 5 0).foldl (mfs (mx D (fun i => if i < D' 55 7 then D' 60 i else 0) (fun i => if i < D' 55 7 then wn D' i else 0))) M i).testBit j = ((M i).testBit j || mt D' (wn D') i j) := by
  have hnn : okN D' := okN_row hd.1 (ho 55 (by omega) (by omega)) (ho 56 (by omega) (by omega)) (ho 57 (by omega) (by omega)) (ho 58 (by omega) (by omega))
  rw [Bool.eq_iff_iff, mf_bit_l _ _ (fun a b hm => (ro_mem.mp hm).2.1), Bool.or_eq_true]
  constructor
  · rintro (h | ⟨a, b, h1, h2, h3⟩)
    · exact Or.inl h
    · have h4 := ro_mem.mp h1
      rw [mx_mt hd ho hw h4.2.1] at h2
      rcases h3 with h3 | h3
      · rw [← h3.1, ← h3.2]; exact Or.inr h2
      · rw [← h3.1, ← h3.2, mt_sym]; exact Or.inr h2
  · rintro (h | h)
    · exact Or.inl h
    · rcases Nat.lt_trichotomy i j with c | c | c
      · exact Or.inr ⟨i, j, ro_mem.mpr (by omega), by rw [mx_mt hd ho hw c]; exact h, Or.inl ⟨rfl, rfl⟩⟩
      · subst c
        have := (mt_iff.mp h).2.2.2.2
        rw [nar_irr hnn] at this
        cases this
      · exact Or.inr ⟨j, i, ro_mem.mpr (by omega), by rw [mx_mt hd ho hw c, mt_sym]; exact h, Or.inr ⟨rfl, rfl⟩⟩
theorem cm_settle {S : Mem} {g : Nat} (hb : ∀ i, i < 5 → S.1 44 i = nI (if g.testBit i then 1 else 0)) : ∃ S', f_Morning_settle S = some S' ∧ (∀ x k, x ≠ 41 → S'.1 x k = S.1 x k) ∧ S'.2 = S.2 ∧ ∀ i, i < 5 → S'.1 41 i = if g.testBit i then S.1 41 i else S.1 43 i := by
  obtain ⟨S1, e1, f1, g1, z1, y1⟩ := zfor (fun i S => k_Morning_settle_2 (nI i) S) 5 (fun i S1 => (∀ x k, x ≠ 41 → S1.1 x k = S.1 x k) ∧ S1.2 = S.2 ∧ (∀ j, j < i → S1.1 41 j = if g.testBit j then S.1 41 j else S.1 43 j) ∧ (∀ j, i ≤ j → S1.1 41 j = S.1 41 j)) (by
    intro i S1 hi ⟨f1, g1, z1, y1⟩
    have hbi := hb i hi
    rw [← f1 44 i (by omega)] at hbi
    cases c : g.testBit i
    · rw [c] at hbi
      refine ⟨u1 S1 41 i (S1.1 43 i), ?_, fun x k q => by rw [zuN (by omega), f1 x k q], g1, fun j hj => ?_, fun j hj => by rw [zuN (by omega), y1 j (by omega)]⟩
      · rw [k_Morning_settle_2_eq]
        simp (disch := omega) only [zL0, zL1, zL2, zL3, zL4, zL5, zL6, zL7, zL8, zL9, zL10, zL12, zL20, zL30, zL31, zL32, zL44, zL48, zL49, zL50, zL56, zL59, zL60, zL61, zL64, zL65, zL97, zL99, zL100, zL101, zL102, zL103, zL104, zL111, zL119, zL126, zL255, zL512, zL617, zL65535, zL65536, zL1048576, zlt, zle, zeq, ztn, zin, zzb, zadd, zmul, zm_lt, zm_gt, zm_le, zm_ge, zm_eq, zm_eq', zm_in, if_pos, if_neg, bI_s, bJ_s, bA_s, bU_s, if_true, if_false, reduceIte, or_true, true_or, or_false, false_or, and_true, true_and, and_false, false_and, not_true_eq_false, not_false_eq_true, Nat.reduceEqDiff, Nat.zero_ne_one, Nat.one_ne_zero, hbi, k_Morning_settle_28_eq, Bool.false_eq_true]
      · by_cases e : j = i
        · rw [zuS ⟨rfl, e⟩, e, c, f1 _ _ (by omega)]; simp
        · rw [zuN (by omega), z1 j (by omega)]
    · rw [c] at hbi
      refine ⟨S1, ?_, f1, g1, fun j hj => ?_, fun j hj => y1 j (by omega)⟩
      · rw [k_Morning_settle_2_eq]
        simp (disch := omega) only [zL0, zL1, zL2, zL3, zL4, zL5, zL6, zL7, zL8, zL9, zL10, zL12, zL20, zL30, zL31, zL32, zL44, zL48, zL49, zL50, zL56, zL59, zL60, zL61, zL64, zL65, zL97, zL99, zL100, zL101, zL102, zL103, zL104, zL111, zL119, zL126, zL255, zL512, zL617, zL65535, zL65536, zL1048576, zlt, zle, zeq, ztn, zin, zzb, zadd, zmul, zm_lt, zm_gt, zm_le, zm_ge, zm_eq, zm_eq', zm_in, if_pos, if_neg, bI_s, bJ_s, bA_s, bU_s, if_true, if_false, reduceIte, or_true, true_or, or_false, false_or, and_true, true_and, and_false, false_and, not_true_eq_false, not_false_eq_true, Nat.reduceEqDiff, Nat.zero_ne_one, Nat.one_ne_zero, hbi, k_Morning_settle_28_eq]
      · by_cases e : j = i
        · rw [y1 j (by omega), e, c]; simp
        · rw [z1 j (by omega)]) 5 0 S (by omega) ⟨fun _ _ _ => rfl, rfl, fun _ _ => by omega, fun _ _ => rfl⟩
  refine ⟨S1, ?_, f1, g1, z1⟩
  rw [f_Morning_settle_eq, zL0, e1, k_Morning_settle_2_eq]
  simp (disch := omega) only [zL0, zL1, zL2, zL3, zL4, zL5, zL6, zL7, zL8, zL9, zL10, zL12, zL20, zL30, zL31, zL32, zL44, zL48, zL49, zL50, zL56, zL59, zL60, zL61, zL64, zL65, zL97, zL99, zL100, zL101, zL102, zL103, zL104, zL111, zL119, zL126, zL255, zL512, zL617, zL65535, zL65536, zL1048576, zlt, zle, zeq, ztn, zin, zzb, zadd, zmul, zm_lt, zm_gt, zm_le, zm_ge, zm_eq, zm_eq', zm_in, if_pos, if_neg, bI_s, bJ_s, bA_s, bU_s, if_true, if_false, reduceIte, or_true, true_or, or_false, false_or, and_true, true_and, and_false, false_and, not_true_eq_false, not_false_eq_true, Nat.reduceEqDiff, Nat.zero_ne_one, Nat.one_ne_zero]
theorem cm_goOn (hd : okD D) (ho : ovr D D') (hw : okW D') {S : Mem} (hr : RC D S) (hm : MR D' S) (hP : PB P S) {M : Nat → Nat} (hM : ME M S) : ∃ S', f_Morning_goOn S = some (nI (lay D' P (wn D')).1, S') ∧ frW S S' ∧ S'.2 = S.2 ∧ MR (go D' P) S' ∧ ((lay D' P (wn D')).1 ≠ 0 → S'.1 40 8 = nI (lay D' P (wn D')).2.1.1 ∧ S'.1 40 9 = nI (lay D' P (wn D')).2.1.2) ∧ ∃ M', ME M' S' ∧ ∀ i j, i < 5 → j < 5 → (M' i).testBit j = ((M i).testBit j || mt D' (wn D') i j) := by
  have w5 := hw.1
  have e7 : D' 55 = D 55 := ho 55 (by omega) (by omega)
  have e63 : D' 63 = D 63 := ho 63 (by omega) (by omega)
  have e64 : D' 64 = D 64 := ho 64 (by omega) (by omega)
  obtain ⟨S1, e1, f1, g1, q1⟩ := zfor (fun i S => k_Morning_goOn_2 (nI i) S) 5 (fun i S1 => (∀ x k, x ≠ 43 → S1.1 x k = S.1 x k) ∧ S1.2 = S.2 ∧ ∀ j, j < i → S1.1 43 j = nI (if j < D' 55 7 then wn D' j else 0)) (by
    intro i S1 hi ⟨f1, g1, q1⟩
    have hr1 : RC D S1 := RC_f hd hr (fun a k q => f1 a k (by omega))
    have m41 : S1.1 41 i = nI (if i < D' 55 7 then D' 60 i else 0) := by rw [f1 _ _ (by omega)]; exact hm.1 i hi
    refine ⟨u1 S1 43 i (nI (if i < D' 55 7 then wn D' i else 0)), ?_, fun x k q => by rw [zuN (by omega), f1 x k q], g1, fun j hj => ?_⟩
    · rw [k_Morning_goOn_2_eq]
      by_cases c : i < D' 55 7
      · have wi := hw.2 i c
        have m42 : S1.1 42 i = nI (D' 65 i) := by rw [f1 _ _ (by omega)]; exact hm.2 i c
        have c' : i < D 55 7 := by rw [← e7]; exact c
        have hcb := cw_cornerBehind (k := D' 65 i) hr1 hd.2.1 c' (by omega)
        have hw2 := isW_i hi
        rw [if_pos c] at m41
        rw [if_pos c]
        unfold wn
        rw [e63, e64]
        by_cases d : D' 65 i < D 64 i
        · have := wi.2.2.2.2.2.2.1 (D' 65 i) (by rw [e64]; exact d)
          rw [e63] at this
          simp (disch := omega) only [zL0, zL1, zL2, zL3, zL4, zL5, zL6, zL7, zL8, zL9, zL10, zL12, zL20, zL30, zL31, zL32, zL44, zL48, zL49, zL50, zL56, zL59, zL60, zL61, zL64, zL65, zL97, zL99, zL100, zL101, zL102, zL103, zL104, zL111, zL119, zL126, zL255, zL512, zL617, zL65535, zL65536, zL1048576, zlt, zle, zeq, ztn, zin, zzb, zadd, zmul, zm_lt, zm_gt, zm_le, zm_ge, zm_eq, zm_eq', zm_in, if_pos, if_neg, bI_s, bJ_s, bA_s, bU_s, if_true, if_false, reduceIte, or_true, true_or, or_false, false_or, and_true, true_and, and_false, false_and, not_true_eq_false, not_false_eq_true, Nat.reduceEqDiff, Nat.zero_ne_one, Nat.one_ne_zero, ct_at hr1.w hd.2.1.1 c', oc, k_Morning_goOn_24_eq hw2, m42, hcb, k_Morning_goOn_34_eq, k_Morning_goOn_55_eq]
        · simp (disch := omega) only [zL0, zL1, zL2, zL3, zL4, zL5, zL6, zL7, zL8, zL9, zL10, zL12, zL20, zL30, zL31, zL32, zL44, zL48, zL49, zL50, zL56, zL59, zL60, zL61, zL64, zL65, zL97, zL99, zL100, zL101, zL102, zL103, zL104, zL111, zL119, zL126, zL255, zL512, zL617, zL65535, zL65536, zL1048576, zlt, zle, zeq, ztn, zin, zzb, zadd, zmul, zm_lt, zm_gt, zm_le, zm_ge, zm_eq, zm_eq', zm_in, if_pos, if_neg, bI_s, bJ_s, bA_s, bU_s, if_true, if_false, reduceIte, or_true, true_or, or_false, false_or, and_true, true_and, and_false, false_and, not_true_eq_false, not_false_eq_true, Nat.reduceEqDiff, Nat.zero_ne_one, Nat.one_ne_zero, ct_at hr1.w hd.2.1.1 c', oc, k_Morning_goOn_24_eq hw2, m42, hcb, k_Morning_goOn_34_eq, k_Morning_goOn_55_eq, m41]
      · have c' : ¬ i < D 55 7 := by rw [← e7]; exact c
        rw [if_neg c] at m41
        rw [if_neg c]
        simp (disch := omega) only [zL0, zL1, zL2, zL3, zL4, zL5, zL6, zL7, zL8, zL9, zL10, zL12, zL20, zL30, zL31, zL32, zL44, zL48, zL49, zL50, zL56, zL59, zL60, zL61, zL64, zL65, zL97, zL99, zL100, zL101, zL102, zL103, zL104, zL111, zL119, zL126, zL255, zL512, zL617, zL65535, zL65536, zL1048576, zlt, zle, zeq, ztn, zin, zzb, zadd, zmul, zm_lt, zm_gt, zm_le, zm_ge, zm_eq, zm_eq', zm_in, if_pos, if_neg, bI_s, bJ_s, bA_s, bU_s, if_true, if_false, reduceIte, or_true, true_or, or_false, false_or, and_true, true_and, and_false, false_and, not_true_eq_false, not_false_eq_true, Nat.reduceEqDiff, Nat.zero_ne_one, Nat.one_ne_zero, ct_at0 hr1.w hd.2.1.1, oc, k_Morning_goOn_20_eq, k_Morning_goOn_34_eq, k_Morning_goOn_55_eq, m41]
    · by_cases e : j = i
      · rw [zuS ⟨rfl, e⟩, e]
      · rw [zuN (by omega), q1 j (by omega)]) 5 0 S (by omega) ⟨fun _ _ _ => rfl, rfl, fun _ _ => by omega⟩
  have hr1 : RC D S1 := RC_f hd hr (fun a k q => f1 a k (by omega))
  obtain ⟨S2, e2, f2, i2⟩ := cm_meet (c := fun i => if i < D' 55 7 then D' 60 i else 0) (w := fun i => if i < D' 55 7 then wn D' i else 0) hd hr1 (fun i hi => ⟨by rw [f1 _ _ (by omega)]; exact hm.1 i hi, by
      by_cases c : i < D' 55 7
      · rw [if_pos c]; exact (hw.2 i c).2.1
      · rw [if_neg c]; omega⟩) (fun i hi => ⟨q1 i hi, by
      by_cases c : i < D' 55 7
      · rw [if_pos c]; exact (wn_stp hw c).2
      · rw [if_neg c]; omega⟩) (fun i j hi hj => by rw [f1 _ _ (by omega)]; exact hP i j hi hj) (M := M) (fun i hi => by rw [f1 _ _ (by omega)]; exact hM i hi)
  rw [lay_mx hd ho hw] at e2 i2
  have hr2 : RC D S2 := RC_f hd hr1 (frQ_C f2)
  obtain ⟨g, hgg⟩ : ∃ g, g = (lay D' P (wn D')).2.2 := ⟨_, rfl⟩
  have b2 := i2.1
  rw [← hgg] at b2
  obtain ⟨t, ht⟩ : ∃ t, t = (lay D' P (wn D')).1 := ⟨_, rfl⟩
  obtain ⟨S3, e3, f3, g3, q3, y3⟩ := zfor (fun i S => k_Morning_goOn_69 (nI t) (nI i) S) 5 (fun i S3 => (∀ x k, x ≠ 42 → S3.1 x k = S2.1 x k) ∧ S3.2 = S2.2 ∧ (∀ j, j < i → j < D' 55 7 → S3.1 42 j = nI (if g.testBit j = false ∧ D' 65 j < D' 64 j then D' 65 j + 1 else D' 65 j)) ∧ (∀ j, i ≤ j → j < D' 55 7 → S3.1 42 j = nI (D' 65 j))) (by
    intro i S3 hi ⟨f3, g3, q3, y3⟩
    have hr3 : RC D S3 := RC_f hd hr2 (fun a k q => f3 a k (by omega))
    have b3 : S3.1 44 i = nI (if g.testBit i then 1 else 0) := by rw [f3 _ _ (by omega)]; exact b2 i hi
    have hw2 := isW_i hi
    by_cases c : i < D' 55 7
    · have wi := hw.2 i c
      have c' : i < D 55 7 := by rw [← e7]; exact c
      have m42 := y3 i (Nat.le_refl i) c
      have wl := hr3.wl i c'
      cases cg : g.testBit i
      · rw [cg] at b3
        by_cases d : D' 65 i < D' 64 i
        · refine ⟨u1 S3 42 i (nI (D' 65 i + 1)), ?_, fun x k q => by rw [zuN (by omega), f3 x k q], g3, fun j hj hj2 => ?_, fun j hj hj2 => by rw [zuN (by omega), y3 j (by omega) hj2]⟩
          · rw [k_Morning_goOn_69_eq]
            rw [← e64] at wl
            simp (disch := omega) only [zL0, zL1, zL2, zL3, zL4, zL5, zL6, zL7, zL8, zL9, zL10, zL12, zL20, zL30, zL31, zL32, zL44, zL48, zL49, zL50, zL56, zL59, zL60, zL61, zL64, zL65, zL97, zL99, zL100, zL101, zL102, zL103, zL104, zL111, zL119, zL126, zL255, zL512, zL617, zL65535, zL65536, zL1048576, zlt, zle, zeq, ztn, zin, zzb, zadd, zmul, zm_lt, zm_gt, zm_le, zm_ge, zm_eq, zm_eq', zm_in, if_pos, if_neg, bI_s, bJ_s, bA_s, bU_s, if_true, if_false, reduceIte, or_true, true_or, or_false, false_or, and_true, true_and, and_false, false_and, not_true_eq_false, not_false_eq_true, Nat.reduceEqDiff, Nat.zero_ne_one, Nat.one_ne_zero, ct_at hr3.w hd.2.1.1 c', oc, k_Morning_goOn_87_eq hw2, m42, wl, b3, k_Morning_goOn_119_eq, Bool.false_eq_true]
          · by_cases e : j = i
            · rw [zuS ⟨rfl, e⟩, e, if_pos ⟨cg, d⟩]
            · rw [zuN (by omega), q3 j (by omega) hj2]
        · refine ⟨S3, ?_, f3, g3, fun j hj hj2 => ?_, fun j hj hj2 => y3 j (by omega) hj2⟩
          · rw [k_Morning_goOn_69_eq]
            rw [← e64] at wl
            simp (disch := omega) only [zL0, zL1, zL2, zL3, zL4, zL5, zL6, zL7, zL8, zL9, zL10, zL12, zL20, zL30, zL31, zL32, zL44, zL48, zL49, zL50, zL56, zL59, zL60, zL61, zL64, zL65, zL97, zL99, zL100, zL101, zL102, zL103, zL104, zL111, zL119, zL126, zL255, zL512, zL617, zL65535, zL65536, zL1048576, zlt, zle, zeq, ztn, zin, zzb, zadd, zmul, zm_lt, zm_gt, zm_le, zm_ge, zm_eq, zm_eq', zm_in, if_pos, if_neg, bI_s, bJ_s, bA_s, bU_s, if_true, if_false, reduceIte, or_true, true_or, or_false, false_or, and_true, true_and, and_false, false_and, not_true_eq_false, not_false_eq_true, Nat.reduceEqDiff, Nat.zero_ne_one, Nat.one_ne_zero, ct_at hr3.w hd.2.1.1 c', oc, k_Morning_goOn_87_eq hw2, m42, wl, b3, k_Morning_goOn_119_eq, Bool.false_eq_true]
          · by_cases e : j = i
            · rw [e, m42, if_neg (fun q => d q.2)]
            · rw [q3 j (by omega) hj2]
      · rw [cg] at b3
        refine ⟨S3, ?_, f3, g3, fun j hj hj2 => ?_, fun j hj hj2 => y3 j (by omega) hj2⟩
        · rw [k_Morning_goOn_69_eq]
          simp (disch := omega) only [zL0, zL1, zL2, zL3, zL4, zL5, zL6, zL7, zL8, zL9, zL10, zL12, zL20, zL30, zL31, zL32, zL44, zL48, zL49, zL50, zL56, zL59, zL60, zL61, zL64, zL65, zL97, zL99, zL100, zL101, zL102, zL103, zL104, zL111, zL119, zL126, zL255, zL512, zL617, zL65535, zL65536, zL1048576, zlt, zle, zeq, ztn, zin, zzb, zadd, zmul, zm_lt, zm_gt, zm_le, zm_ge, zm_eq, zm_eq', zm_in, if_pos, if_neg, bI_s, bJ_s, bA_s, bU_s, if_true, if_false, reduceIte, or_true, true_or, or_false, false_or, and_true, true_and, and_false, false_and, not_true_eq_false, not_false_eq_true, Nat.reduceEqDiff, Nat.zero_ne_one, Nat.one_ne_zero, ct_at hr3.w hd.2.1.1 c', oc, k_Morning_goOn_87_eq hw2, b3, k_Morning_goOn_119_eq]
        · by_cases e : j = i
          · rw [e, m42, if_neg (fun q => by rw [cg] at q; exact absurd q.1 (by decide))]
          · rw [q3 j (by omega) hj2]
    · have c' : ¬ i < D 55 7 := by rw [← e7]; exact c
      refine ⟨S3, ?_, f3, g3, fun j hj hj2 => q3 j (by omega) hj2, fun j hj hj2 => y3 j (by omega) hj2⟩
      rw [k_Morning_goOn_69_eq]
      simp (disch := omega) only [zL0, zL1, zL2, zL3, zL4, zL5, zL6, zL7, zL8, zL9, zL10, zL12, zL20, zL30, zL31, zL32, zL44, zL48, zL49, zL50, zL56, zL59, zL60, zL61, zL64, zL65, zL97, zL99, zL100, zL101, zL102, zL103, zL104, zL111, zL119, zL126, zL255, zL512, zL617, zL65535, zL65536, zL1048576, zlt, zle, zeq, ztn, zin, zzb, zadd, zmul, zm_lt, zm_gt, zm_le, zm_ge, zm_eq, zm_eq', zm_in, if_pos, if_neg, bI_s, bJ_s, bA_s, bU_s, if_true, if_false, reduceIte, or_true, true_or, or_false, false_or, and_true, true_and, and_false, false_and, not_true_eq_false, not_false_eq_true, Nat.reduceEqDiff, Nat.zero_ne_one, Nat.one_ne_zero, ct_at0 hr3.w hd.2.1.1, oc, k_Morning_goOn_119_eq]) 5 0 S2 (by omega) ⟨fun _ _ _ => rfl, rfl, fun _ _ => by omega, fun j _ hj => by rw [f2.1 _ _ (by omega) (by omega) (by omega), f1 _ _ (by omega)]; exact hm.2 j hj⟩
  obtain ⟨S4, e4, f4, g4, q4⟩ := cm_settle (S := S3) (g := g) (fun i hi => by rw [f3 _ _ (by omega)]; exact b2 i hi)
  have r41 : ∀ i, S3.1 41 i = S.1 41 i := fun i => by rw [f3 _ _ (by omega), f2.1 _ _ (by omega) (by omega) (by omega), f1 _ _ (by omega)]
  have r43 : ∀ i, i < 5 → S3.1 43 i = nI (if i < D' 55 7 then wn D' i else 0) := fun i hi => by rw [f3 _ _ (by omega), f2.1 _ _ (by omega) (by omega) (by omega), q1 i hi]
  have go7 : go D' P 55 = D' 55 := go_row (by omega) (by omega)
  refine ⟨S4, ?_, fun x k q0 q1' q2 q3' q4' q6 => ?_, by rw [g4, g3, f2.2, g1], ⟨fun i hi => ?_, fun i hi => ?_⟩, fun q => ?_, (ro 5 0).foldl (mfs (mx D (fun i => if i < D' 55 7 then D' 60 i else 0) (fun i => if i < D' 55 7 then wn D' i else 0))) M, fun i hi => ?_, fun i j hi hj => mf_mt hd ho hw hi hj⟩
  · rw [f_Morning_goOn_eq, zL0, e1, k_Morning_goOn_2_eq]
    simp (disch := omega) only [zL0, zL1, zL2, zL3, zL4, zL5, zL6, zL7, zL8, zL9, zL10, zL12, zL20, zL30, zL31, zL32, zL44, zL48, zL49, zL50, zL56, zL59, zL60, zL61, zL64, zL65, zL97, zL99, zL100, zL101, zL102, zL103, zL104, zL111, zL119, zL126, zL255, zL512, zL617, zL65535, zL65536, zL1048576, zlt, zle, zeq, ztn, zin, zzb, zadd, zmul, zm_lt, zm_gt, zm_le, zm_ge, zm_eq, zm_eq', zm_in, if_pos, if_neg, bI_s, bJ_s, bA_s, bU_s, if_true, if_false, reduceIte, or_true, true_or, or_false, false_or, and_true, true_and, and_false, false_and, not_true_eq_false, not_false_eq_true, Nat.reduceEqDiff, Nat.zero_ne_one, Nat.one_ne_zero, e2, ← ht]
    rw [e3, k_Morning_goOn_69_eq]
    simp (disch := omega) only [zL0, zL1, zL2, zL3, zL4, zL5, zL6, zL7, zL8, zL9, zL10, zL12, zL20, zL30, zL31, zL32, zL44, zL48, zL49, zL50, zL56, zL59, zL60, zL61, zL64, zL65, zL97, zL99, zL100, zL101, zL102, zL103, zL104, zL111, zL119, zL126, zL255, zL512, zL617, zL65535, zL65536, zL1048576, zlt, zle, zeq, ztn, zin, zzb, zadd, zmul, zm_lt, zm_gt, zm_le, zm_ge, zm_eq, zm_eq', zm_in, if_pos, if_neg, bI_s, bJ_s, bA_s, bU_s, if_true, if_false, reduceIte, or_true, true_or, or_false, false_or, and_true, true_and, and_false, false_and, not_true_eq_false, not_false_eq_true, Nat.reduceEqDiff, Nat.zero_ne_one, Nat.one_ne_zero, e4]
  · rw [f4 x k q1', f3 x k q2, f2.1 x k q0 q4' q6, f1 x k q3']
  · rw [q4 i hi, r41, r43 i hi, hm.1 i hi, go7]
    by_cases c : i < D' 55 7
    · rw [if_pos c, if_pos c, if_pos c]
      show _ = nI (gm D' (lay D' P (wn D')).2.2 (wn D') 60 i)
      rw [← hgg, gm_60]
      cases cg : g.testBit i
      · simp [c]
      · simp [c]
    · rw [if_neg c, if_neg c, if_neg c]
      split <;> rfl
  · rw [go7] at hi
    rw [f4 _ _ (by omega), q3 i (by omega) hi]
    show _ = nI (gm D' (lay D' P (wn D')).2.2 (wn D') 65 i)
    rw [← hgg, gm_65]
    by_cases c : g.testBit i = false ∧ D' 65 i < D' 64 i
    · rw [if_pos c, if_pos ⟨hi, c⟩]
    · rw [if_neg c, if_neg (fun q => c q.2)]
  · have h2 := i2.2.1
    have h3 := i2.2.2.1 q
    rw [if_neg q] at h2
    exact ⟨by rw [f4 _ _ (by omega), f3 _ _ (by omega), h2], by rw [f4 _ _ (by omega), f3 _ _ (by omega), h3]⟩
  · rw [f4 _ _ (by omega), f3 _ _ (by omega)]
    exact i2.2.2.2 i hi
end GO
