/-! the class's loads -/
/-- the k-th of a set -/
def mem (set k : Nat) : Nat := if set.testBit 0 && bc set 0 == k then 0 else if set.testBit 1 && bc set 1 == k then 1 else if set.testBit 2 && bc set 2 == k then 2 else if set.testBit 3 && bc set 3 == k then 3 else 4
theorem mem_ok : ∀ set, set < 32 → ∀ k, k < 5 → k < bc set 5 → mem set k < 5 ∧ set.testBit (mem set k) = true ∧ bc set (mem set k) = k := by decide +kernel
theorem mem_of : ∀ set, set < 32 → ∀ i, i < 5 → set.testBit i = true → bc set i < bc set 5 ∧ mem set (bc set i) = i := by decide +kernel
/-- those of the set behind i -/
def bh (set i : Nat) : Nat := set / 2 ^ (i + 1) * 2 ^ (i + 1)
theorem bh_and : ∀ set, set < 32 → ∀ i, i < 5 → nI set &&& ((-nI 2) <<< (nI i &&& nI 31)) = nI (bh set i) ∧ bh set i < 32 := by decide +kernel
theorem bh_bit : ∀ set, set < 32 → ∀ i, i < 5 → ∀ j, j < 5 → (bh set i).testBit j = (set.testBit j && decide (i < j)) := by decide +kernel
theorem sb_meet : ∀ M, M < 32 → ∀ B, B < 32 → ∀ j, j < 5 → decide (((nI M &&& (nI B ^^^ (-nI 1))) &&& (nI 1 <<< (nI j &&& nI 31))) = nI 0) = !(M.testBit j && !B.testBit j) := by decide +kernel
section LO
variable {D : DD}
/-- what the class's loads hold: the set, its members, the trial loads, whom all have met -/
def LSt (set : Nat) (T M : Nat → Nat) (S : Mem) : Prop := S.1 47 6 = nI set ∧ S.1 47 5 = nI (bc set 5) ∧ (∀ k, k < bc set 5 → S.1 49 k = nI (mem set k)) ∧ (∀ i, i < 5 → S.1 48 i = nI (T i) ∧ T i < 1000) ∧ ME M S
/-- cells that the loads' trials do not touch -/
def frY (S S' : Mem) : Prop := ∀ x k, ¬ (x = 47 ∧ k = 7) → x ≠ 48 → x ≠ 50 → x ≠ 51 → S'.1 x k = S.1 x k
theorem frY_r (S : Mem) : frY S S := fun _ _ _ _ _ _ => rfl
theorem frY_t {S S' S'' : Mem} (h : frY S S') (h2 : frY S' S'') : frY S S'' := fun x k q0 q1 q2 q3 => by rw [h2 x k q0 q1 q2 q3, h x k q0 q1 q2 q3]
theorem frY_C {S S' : Mem} (h : frY S S') : frC S S' := fun a k q => h a k (by omega) (by omega) (by omega) (by omega)
theorem LSt_Y {set : Nat} {T M : Nat → Nat} {S S' : Mem} (h : LSt set T M S) (e : frY S S') (e48 : ∀ k, S'.1 48 k = S.1 48 k) : LSt set T M S' := by
  obtain ⟨h1, h2, h3, h4, h5⟩ := h
  refine ⟨?_, ?_, fun k hk => ?_, fun i hi => ?_, fun i hi => ?_⟩
  · rw [e _ _ (by omega) (by omega) (by omega) (by omega)]; exact h1
  · rw [e _ _ (by omega) (by omega) (by omega) (by omega)]; exact h2
  · rw [e _ _ (by omega) (by omega) (by omega) (by omega)]; exact h3 k hk
  · rw [e48]; exact h4 i hi
  · rw [e _ _ (by omega) (by omega) (by omega) (by omega)]; exact h5 i hi
theorem bc_le (g : Nat) : ∀ n, bc g n ≤ n
  | 0 => Nat.le_refl 0
  | n + 1 => by
    have := bc_le g n
    unfold bc
    split <;> omega
theorem cl_gather (hd : okD D) {set : Nat} (hs : set < 32) (h3 : bc set 5 ≤ 3) {S : Mem} (hr : RC D S) {x : Int32} (hx : x = nI set) : ∃ S', f_Loads_gather x S = some S' ∧ (∀ x k, x < 47 ∨ 51 < x → S'.1 x k = S.1 x k) ∧ S'.1 47 6 = nI set ∧ S'.1 47 5 = nI (bc set 5) ∧ S'.1 47 7 = nI 0 ∧ (∀ k, k < bc set 5 → S'.1 49 k = nI (mem set k)) ∧ (∀ i, i < 5 → S'.1 48 i = nI (if i < D 55 7 then D 62 i else 0)) ∧ (∀ i, i < 5 → S'.1 50 i = nI 20 ∧ S'.1 51 i = nI 0) := by
  subst hx
  have w5 := hd.2.1.1
  obtain ⟨Sa, hSa⟩ : ∃ Sa, Sa = u1 (u1 (u1 S 47 6 (nI set)) 47 5 (nI 0)) 47 7 (nI 0) := ⟨_, rfl⟩
  obtain ⟨S1, e1, f1, p6, p5, p7, p49, p48, p50⟩ := zfor (fun i S => k_Loads_gather_17 (nI i) S) 5 (fun i S1 => (∀ x k, x < 47 ∨ 51 < x → S1.1 x k = S.1 x k) ∧ S1.1 47 6 = nI set ∧ S1.1 47 5 = nI (bc set i) ∧ S1.1 47 7 = nI 0 ∧ (∀ j, j < i → set.testBit j = true → S1.1 49 (bc set j) = nI j) ∧ (∀ j, j < i → S1.1 48 j = nI (if j < D 55 7 then D 62 j else 0)) ∧ (∀ j, j < i → S1.1 50 j = nI 20 ∧ S1.1 51 j = nI 0)) (by
    intro i S1 hi ⟨f1, p6, p5, p7, p49, p48, p50⟩
    have hw : S1.1 14 1 = nI (D 55 7) := by rw [f1 _ _ (by omega)]; exact hr.w
    have hbl := bc_le set i
    have hbit := zbit (g := set) (i := i) (by omega) (by omega)
    obtain ⟨Sb, hSb⟩ : ∃ Sb, Sb = u1 (u1 (u1 S1 48 i (nI (if i < D 55 7 then D 62 i else 0))) 50 i (nI 20)) 51 i (nI 0) := ⟨_, rfl⟩
    have common : k_Loads_gather_17 (nI i) S1 = k_Loads_gather_48 (nI i) (nI (if i < D 55 7 then D 62 i else 0)) (nI i) S1 := by
      rw [k_Loads_gather_17_eq]
      by_cases c : i < D 55 7
      · have hl : S1.1 (17 + 2 * i) 3 = nI (D 62 i) := by rw [f1 _ _ (by omega)]; exact hr.load i c
        simp (disch := omega) only [zL0, zL1, zL2, zL3, zL4, zL5, zL6, zL7, zL8, zL9, zL10, zL12, zL20, zL30, zL31, zL32, zL44, zL48, zL49, zL50, zL56, zL59, zL60, zL61, zL64, zL65, zL97, zL99, zL100, zL101, zL102, zL103, zL104, zL111, zL119, zL126, zL255, zL512, zL617, zL65535, zL65536, zL1048576, zlt, zle, zeq, ztn, zin, zzb, zadd, zmul, zm_lt, zm_gt, zm_le, zm_ge, zm_eq, zm_eq', zm_in, if_pos, if_neg, bI_s, bJ_s, bA_s, bU_s, if_true, if_false, reduceIte, or_true, true_or, or_false, false_or, and_true, true_and, and_false, false_and, not_true_eq_false, not_false_eq_true, Nat.reduceEqDiff, Nat.zero_ne_one, Nat.one_ne_zero, ct_at hw w5 c, oc, k_Loads_gather_44_eq (isW_i hi), hl]
      · simp (disch := omega) only [zL0, zL1, zL2, zL3, zL4, zL5, zL6, zL7, zL8, zL9, zL10, zL12, zL20, zL30, zL31, zL32, zL44, zL48, zL49, zL50, zL56, zL59, zL60, zL61, zL64, zL65, zL97, zL99, zL100, zL101, zL102, zL103, zL104, zL111, zL119, zL126, zL255, zL512, zL617, zL65535, zL65536, zL1048576, zlt, zle, zeq, ztn, zin, zzb, zadd, zmul, zm_lt, zm_gt, zm_le, zm_ge, zm_eq, zm_eq', zm_in, if_pos, if_neg, bI_s, bJ_s, bA_s, bU_s, if_true, if_false, reduceIte, or_true, true_or, or_false, false_or, and_true, true_and, and_false, false_and, not_true_eq_false, not_false_eq_true, Nat.reduceEqDiff, Nat.zero_ne_one, Nat.one_ne_zero, ct_at0 hw w5, oc, k_Loads_gather_40_eq]
    cases cb : set.testBit i
    · rw [cb] at hbit
      refine ⟨Sb, ?_, fun x k q => by rw [hSb]; simp (disch := omega) only [zuS, zuN, zu2, zv1, zvS, zvN]; exact f1 x k q, ?_, ?_, ?_, fun j hj hb => ?_, fun j hj => ?_, fun j hj => ?_⟩
      · rw [common, k_Loads_gather_48_eq, hSb]
        simp (disch := omega) only [zL0, zL1, zL2, zL3, zL4, zL5, zL6, zL7, zL8, zL9, zL10, zL12, zL20, zL30, zL31, zL32, zL44, zL48, zL49, zL50, zL56, zL59, zL60, zL61, zL64, zL65, zL97, zL99, zL100, zL101, zL102, zL103, zL104, zL111, zL119, zL126, zL255, zL512, zL617, zL65535, zL65536, zL1048576, zlt, zle, zeq, ztn, zin, zzb, zadd, zmul, zm_lt, zm_gt, zm_le, zm_ge, zm_eq, zm_eq', zm_in, if_pos, if_neg, bI_s, bJ_s, bA_s, bU_s, if_true, if_false, reduceIte, or_true, true_or, or_false, false_or, and_true, true_and, and_false, false_and, not_true_eq_false, not_false_eq_true, Nat.reduceEqDiff, Nat.zero_ne_one, Nat.one_ne_zero, p6, hbit, k_Loads_gather_104_eq, Bool.false_eq_true]
      · rw [hSb]; simp (disch := omega) only [zuS, zuN, zu2, zv1, zvS, zvN]; exact p6
      · rw [hSb, bc, cb]; simp (disch := omega) only [zuS, zuN, zu2, zv1, zvS, zvN, Bool.false_eq_true, if_false, Nat.add_zero]; exact p5
      · rw [hSb]; simp (disch := omega) only [zuS, zuN, zu2, zv1, zvS, zvN]; exact p7
      · rw [hSb]; simp (disch := omega) only [zuS, zuN, zu2, zv1, zvS, zvN]
        by_cases e : j = i
        · rw [e, cb] at hb; cases hb
        · exact p49 j (by omega) hb
      · rw [hSb]
        by_cases e : j = i
        · rw [e]; simp (disch := omega) only [zuS, zuN, zu2, zv1, zvS, zvN]
        · simp (disch := omega) only [zuS, zuN, zu2, zv1, zvS, zvN]; exact p48 j (by omega)
      · rw [hSb]
        by_cases e : j = i
        · rw [e]; simp (disch := omega) only [zuS, zuN, zu2, zv1, zvS, zvN]; exact ⟨trivial, trivial⟩
        · simp (disch := omega) only [zuS, zuN, zu2, zv1, zvS, zvN]; exact p50 j (by omega)
    · rw [cb] at hbit
      have hm := (mem_of set hs i hi cb).1
      refine ⟨u1 (u1 Sb 49 (bc set i) (nI i)) 47 5 (nI (bc set i + 1)), ?_, fun x k q => by rw [hSb]; simp (disch := omega) only [zuS, zuN, zu2, zv1, zvS, zvN]; exact f1 x k q, ?_, ?_, ?_, fun j hj hb => ?_, fun j hj => ?_, fun j hj => ?_⟩
      · rw [common, k_Loads_gather_48_eq, hSb]
        simp (disch := omega) only [zL0, zL1, zL2, zL3, zL4, zL5, zL6, zL7, zL8, zL9, zL10, zL12, zL20, zL30, zL31, zL32, zL44, zL48, zL49, zL50, zL56, zL59, zL60, zL61, zL64, zL65, zL97, zL99, zL100, zL101, zL102, zL103, zL104, zL111, zL119, zL126, zL255, zL512, zL617, zL65535, zL65536, zL1048576, zlt, zle, zeq, ztn, zin, zzb, zadd, zmul, zm_lt, zm_gt, zm_le, zm_ge, zm_eq, zm_eq', zm_in, if_pos, if_neg, bI_s, bJ_s, bA_s, bU_s, if_true, if_false, reduceIte, or_true, true_or, or_false, false_or, and_true, true_and, and_false, false_and, not_true_eq_false, not_false_eq_true, Nat.reduceEqDiff, Nat.zero_ne_one, Nat.one_ne_zero, p6, p5, hbit, k_Loads_gather_104_eq, zuS, zuN, zu2, zv1, zvS, zvN]
      · rw [hSb]; simp (disch := omega) only [zuS, zuN, zu2, zv1, zvS, zvN]; exact p6
      · rw [bc, cb]; simp (disch := omega) only [zuS, zuN, zu2, zv1, zvS, zvN, if_true]
      · rw [hSb]; simp (disch := omega) only [zuS, zuN, zu2, zv1, zvS, zvN]; exact p7
      · by_cases e : j = i
        · rw [e]; simp (disch := omega) only [zuS, zuN, zu2, zv1, zvS, zvN]
        · have hlt : bc set j ≠ bc set i := fun q => by
            have a1 := (mem_of set hs j (by omega) hb).2
            have a2 := (mem_of set hs i hi cb).2
            rw [q, a2] at a1
            exact e a1.symm
          rw [hSb]; simp (disch := omega) only [zuS, zuN, zu2, zv1, zvS, zvN]
          exact p49 j (by omega) hb
      · rw [hSb]
        by_cases e : j = i
        · rw [e]; simp (disch := omega) only [zuS, zuN, zu2, zv1, zvS, zvN]
        · simp (disch := omega) only [zuS, zuN, zu2, zv1, zvS, zvN]; exact p48 j (by omega)
      · rw [hSb]
        by_cases e : j = i
        · rw [e]; simp (disch := omega) only [zuS, zuN, zu2, zv1, zvS, zvN]; exact ⟨trivial, trivial⟩
        · simp (disch := omega) only [zuS, zuN, zu2, zv1, zvS, zvN]; exact p50 j (by omega)) 5 0 Sa (by omega) ⟨fun x k q => by rw [hSa]; simp (disch := omega) only [zuS, zuN, zu2, zv1, zvS, zvN], by rw [hSa]; simp (disch := omega) only [zuS, zuN, zu2, zv1, zvS, zvN], by rw [hSa]; simp (disch := omega) only [zuS, zuN, zu2, zv1, zvS, zvN]; rfl, by rw [hSa]; simp (disch := omega) only [zuS, zuN, zu2, zv1, zvS, zvN], fun _ _ => by omega, fun _ _ => by omega, fun _ _ => by omega⟩
  refine ⟨S1, ?_, f1, p6, p5, p7, fun k hk => ?_, p48, p50⟩
  · rw [f_Loads_gather_eq, zL0, ← hSa, e1, k_Loads_gather_17_eq]
    simp (disch := omega) only [zL0, zL1, zL2, zL3, zL4, zL5, zL6, zL7, zL8, zL9, zL10, zL12, zL20, zL30, zL31, zL32, zL44, zL48, zL49, zL50, zL56, zL59, zL60, zL61, zL64, zL65, zL97, zL99, zL100, zL101, zL102, zL103, zL104, zL111, zL119, zL126, zL255, zL512, zL617, zL65535, zL65536, zL1048576, zlt, zle, zeq, ztn, zin, zzb, zadd, zmul, zm_lt, zm_gt, zm_le, zm_ge, zm_eq, zm_eq', zm_in, if_pos, if_neg, bI_s, bJ_s, bA_s, bU_s, if_true, if_false, reduceIte, or_true, true_or, or_false, false_or, and_true, true_and, and_false, false_and, not_true_eq_false, not_false_eq_true, Nat.reduceEqDiff, Nat.zero_ne_one, Nat.one_ne_zero]
  · obtain ⟨a1, a2, a3⟩ := mem_ok set hs k (by omega) hk
    have := p49 (mem set k) a1 a2
    rw [a3] at this
    exact this
/-- a load suits: against all of whom i has met, but those of B -/
def sok (D : DD) (Mi B i v : Nat) (T : Nat → Nat) : Nat → Bool
  | 0 => true
  | n + 1 => sok D Mi B i v T n && (!(Mi.testBit n && !B.testBit n && decide (n < D 55 7)) || lp D i v n (T n))
theorem sok_iff {Mi B i v : Nat} {T : Nat → Nat} : ∀ {n : Nat}, sok D Mi B i v T n = true ↔ ∀ j, j < n → j < D 55 7 → Mi.testBit j = true → B.testBit j = false → lp D i v j (T j) = true
  | 0 => by simp [sok]
  | n + 1 => by
    simp only [sok, Bool.and_eq_true, sok_iff (n := n), Bool.or_eq_true, Bool.not_eq_true', Bool.and_eq_false_iff, decide_eq_false_iff_not, Bool.not_eq_false']
    constructor
    · rintro ⟨h1, h2⟩ j hj hw hm hb
      by_cases e : j = n
      · subst e
        rcases h2 with ((h2 | h2) | h2) | h2
        · rw [hm] at h2; cases h2
        · rw [hb] at h2; cases h2
        · exact absurd hw h2
        · exact h2
      · exact h1 j (by omega) hw hm hb
    · intro h
      refine ⟨fun j hj => h j (by omega), ?_⟩
      cases hm : Mi.testBit n
      · exact Or.inl (Or.inl (Or.inl rfl))
      · cases hb : B.testBit n
        · by_cases hw : n < D 55 7
          · exact Or.inr (h n (by omega) hw hm hb)
          · exact Or.inl (Or.inr hw)
        · exact Or.inl (Or.inl (Or.inr rfl))
theorem cl_suits (hd : okD D) {set : Nat} (hs : set < 32) {T M : Nat → Nat} {S : Mem} (hr : RC D S) (hL : LSt set T M S) {k v : Nat} (hk : k < 3) (hk2 : k < bc set 5) (hmw : mem set k < D 55 7) (hv : v < 100) : ∃ S', f_Loads_suits (nI k) (nI v) S = some (nI (if sok D (M (mem set k)) (bh set (mem set k)) (mem set k) v (dU T (mem set k) v) 5 then 1 else 0), S') ∧ S' = u1 S 48 (mem set k) (nI v) ∧ LSt set (dU T (mem set k) v) M S' ∧ frY S S' := by
  have w5 := hd.2.1.1
  obtain ⟨L1, L2, L3, L4, L5⟩ := hL
  obtain ⟨i, hi⟩ : ∃ i, i = mem set k := ⟨_, rfl⟩
  have L3k := L3 k hk2
  rw [← hi] at hmw L3k ⊢
  obtain ⟨b1, b2⟩ := bh_and set hs i (by omega)
  have hMi := L5 i (by omega)
  obtain ⟨Sa, hSa⟩ : ∃ Sa, Sa = u1 S 48 i (nI v) := ⟨_, rfl⟩
  have fa : frY S Sa := fun x k q0 q1 q2 q3 => by rw [hSa, zuN (by omega)]
  have hra : RC D Sa := RC_f hd hr (frY_C fa)
  have L4' : ∀ j, j < 5 → Sa.1 48 j = nI (dU T i v j) ∧ dU T i v j < 1000 := fun j hj => by
    rw [hSa]
    by_cases e : j = i
    · rw [zuS ⟨rfl, e⟩, dU_s e]; exact ⟨rfl, by omega⟩
    · rw [zuN (by omega), dU_n e]; exact L4 j hj
  have a46 : Sa.1 46 i = nI (M i) := by rw [hSa, zuN (by omega)]; exact hMi.1
  have key : ∀ m j, j + m = 5 → sok D (M i) (bh set i) i v (dU T i v) j = true → k_Loads_suits_64 (nI v) (nI i) (17 + 2 * i) (nI (bh set i)) (nI j) Sa = some (nI (if sok D (M i) (bh set i) i v (dU T i v) 5 then 1 else 0), Sa) := by
    intro m
    induction m with
    | zero =>
      intro j hj h
      rw [k_Loads_suits_64_eq (isW_i (by omega)), show j = 5 by omega] at *
      rw [h]
      simp (disch := omega) only [zL0, zL1, zL2, zL3, zL4, zL5, zL6, zL7, zL8, zL9, zL10, zL12, zL20, zL30, zL31, zL32, zL44, zL48, zL49, zL50, zL56, zL59, zL60, zL61, zL64, zL65, zL97, zL99, zL100, zL101, zL102, zL103, zL104, zL111, zL119, zL126, zL255, zL512, zL617, zL65535, zL65536, zL1048576, zlt, zle, zeq, ztn, zin, zzb, zadd, zmul, zm_lt, zm_gt, zm_le, zm_ge, zm_eq, zm_eq', zm_in, if_pos, if_neg, bI_s, bJ_s, bA_s, bU_s, if_true, if_false, reduceIte, or_true, true_or, or_false, false_or, and_true, true_and, and_false, false_and, not_true_eq_false, not_false_eq_true, Nat.reduceEqDiff, Nat.zero_ne_one, Nat.one_ne_zero]
    | succ m ih =>
      intro j hj h
      have hmeet := sb_meet (M i) hMi.2 (bh set i) b2 j (by omega)
      have hT := L4' j (by omega)
      have hst : sok D (M i) (bh set i) i v (dU T i v) (j + 1) = (!((M i).testBit j && !(bh set i).testBit j && decide (j < D 55 7)) || lp D i v j (dU T i v j)) := by rw [sok, h, Bool.true_and]
      have hnx := ih (j + 1) (by omega)
      have hfail : sok D (M i) (bh set i) i v (dU T i v) (j + 1) = false → sok D (M i) (bh set i) i v (dU T i v) 5 = false := by
        intro hf
        cases e : sok D (M i) (bh set i) i v (dU T i v) 5
        · rfl
        · have := sok_iff.mp e
          have h2 : sok D (M i) (bh set i) i v (dU T i v) (j + 1) = true := sok_iff.mpr (fun q hq => this q (by omega))
          rw [hf] at h2; cases h2
      rw [k_Loads_suits_64_eq (isW_i (by omega))]
      cases cm : (M i).testBit j && !(bh set i).testBit j
      · rw [cm] at hmeet hst
        have hm0 : (((nI (M i) &&& (nI (bh set i) ^^^ (-nI 1))) &&& (nI 1 <<< (nI j &&& nI 31))) = nI 0) = True := eq_true (of_decide_eq_true hmeet)
        rw [← hnx (by rw [hst]; simp)]
        by_cases cw : j < D 55 7
        · simp (disch := omega) only [zL0, zL1, zL2, zL3, zL4, zL5, zL6, zL7, zL8, zL9, zL10, zL12, zL20, zL30, zL31, zL32, zL44, zL48, zL49, zL50, zL56, zL59, zL60, zL61, zL64, zL65, zL97, zL99, zL100, zL101, zL102, zL103, zL104, zL111, zL119, zL126, zL255, zL512, zL617, zL65535, zL65536, zL1048576, zlt, zle, zeq, ztn, zin, zzb, zadd, zmul, zm_lt, zm_gt, zm_le, zm_ge, zm_eq, zm_eq', zm_in, if_pos, if_neg, bI_s, bJ_s, bA_s, bU_s, if_true, if_false, reduceIte, or_true, true_or, or_false, false_or, and_true, true_and, and_false, false_and, not_true_eq_false, not_false_eq_true, Nat.reduceEqDiff, Nat.zero_ne_one, Nat.one_ne_zero, ct_at hra.w w5 cw, a46, hm0, k_Loads_suits_108_eq (isW_i (show i < 5 by omega)), k_Loads_suits_144_eq (isW_i (show i < 5 by omega))]
        · simp (disch := omega) only [zL0, zL1, zL2, zL3, zL4, zL5, zL6, zL7, zL8, zL9, zL10, zL12, zL20, zL30, zL31, zL32, zL44, zL48, zL49, zL50, zL56, zL59, zL60, zL61, zL64, zL65, zL97, zL99, zL100, zL101, zL102, zL103, zL104, zL111, zL119, zL126, zL255, zL512, zL617, zL65535, zL65536, zL1048576, zlt, zle, zeq, ztn, zin, zzb, zadd, zmul, zm_lt, zm_gt, zm_le, zm_ge, zm_eq, zm_eq', zm_in, if_pos, if_neg, bI_s, bJ_s, bA_s, bU_s, if_true, if_false, reduceIte, or_true, true_or, or_false, false_or, and_true, true_and, and_false, false_and, not_true_eq_false, not_false_eq_true, Nat.reduceEqDiff, Nat.zero_ne_one, Nat.one_ne_zero, ct_at0 hra.w w5, a46, hm0, k_Loads_suits_108_eq (isW_i (show i < 5 by omega)), k_Loads_suits_144_eq (isW_i (show i < 5 by omega))]
      · rw [cm] at hmeet hst
        have hm0 : (((nI (M i) &&& (nI (bh set i) ^^^ (-nI 1))) &&& (nI 1 <<< (nI j &&& nI 31))) = nI 0) = False := eq_false (of_decide_eq_false hmeet)
        by_cases cw : j < D 55 7
        · rw [decide_eq_true cw] at hst
          have hlp := cn_letsPass hra hd.1 hd.2.1 hmw cw (x := v) (y := dU T i v j) (by omega) hT.2
          cases cl : lp D i v j (dU T i v j)
          · rw [cl] at hlp hst
            rw [hfail (by rw [hst]; rfl)]
            simp (disch := omega) only [zL0, zL1, zL2, zL3, zL4, zL5, zL6, zL7, zL8, zL9, zL10, zL12, zL20, zL30, zL31, zL32, zL44, zL48, zL49, zL50, zL56, zL59, zL60, zL61, zL64, zL65, zL97, zL99, zL100, zL101, zL102, zL103, zL104, zL111, zL119, zL126, zL255, zL512, zL617, zL65535, zL65536, zL1048576, zlt, zle, zeq, ztn, zin, zzb, zadd, zmul, zm_lt, zm_gt, zm_le, zm_ge, zm_eq, zm_eq', zm_in, if_pos, if_neg, bI_s, bJ_s, bA_s, bU_s, if_true, if_false, reduceIte, or_true, true_or, or_false, false_or, and_true, true_and, and_false, false_and, not_true_eq_false, not_false_eq_true, Nat.reduceEqDiff, Nat.zero_ne_one, Nat.one_ne_zero, ct_at hra.w w5 cw, a46, hm0, k_Loads_suits_108_eq (isW_i (show i < 5 by omega)), oc, k_Loads_suits_120_eq (isW_i (show i < 5 by omega)) (isW_i (show j < 5 by omega)), hT.1, hlp, Bool.false_eq_true]
          · rw [cl] at hlp hst
            rw [← hnx (by rw [hst]; rfl)]
            simp (disch := omega) only [zL0, zL1, zL2, zL3, zL4, zL5, zL6, zL7, zL8, zL9, zL10, zL12, zL20, zL30, zL31, zL32, zL44, zL48, zL49, zL50, zL56, zL59, zL60, zL61, zL64, zL65, zL97, zL99, zL100, zL101, zL102, zL103, zL104, zL111, zL119, zL126, zL255, zL512, zL617, zL65535, zL65536, zL1048576, zlt, zle, zeq, ztn, zin, zzb, zadd, zmul, zm_lt, zm_gt, zm_le, zm_ge, zm_eq, zm_eq', zm_in, if_pos, if_neg, bI_s, bJ_s, bA_s, bU_s, if_true, if_false, reduceIte, or_true, true_or, or_false, false_or, and_true, true_and, and_false, false_and, not_true_eq_false, not_false_eq_true, Nat.reduceEqDiff, Nat.zero_ne_one, Nat.one_ne_zero, ct_at hra.w w5 cw, a46, hm0, k_Loads_suits_108_eq (isW_i (show i < 5 by omega)), oc, k_Loads_suits_120_eq (isW_i (show i < 5 by omega)) (isW_i (show j < 5 by omega)), hT.1, hlp, k_Loads_suits_144_eq (isW_i (show i < 5 by omega))]
        · rw [decide_eq_false cw] at hst
          rw [← hnx (by rw [hst]; simp)]
          simp (disch := omega) only [zL0, zL1, zL2, zL3, zL4, zL5, zL6, zL7, zL8, zL9, zL10, zL12, zL20, zL30, zL31, zL32, zL44, zL48, zL49, zL50, zL56, zL59, zL60, zL61, zL64, zL65, zL97, zL99, zL100, zL101, zL102, zL103, zL104, zL111, zL119, zL126, zL255, zL512, zL617, zL65535, zL65536, zL1048576, zlt, zle, zeq, ztn, zin, zzb, zadd, zmul, zm_lt, zm_gt, zm_le, zm_ge, zm_eq, zm_eq', zm_in, if_pos, if_neg, bI_s, bJ_s, bA_s, bU_s, if_true, if_false, reduceIte, or_true, true_or, or_false, false_or, and_true, true_and, and_false, false_and, not_true_eq_false, not_false_eq_true, Nat.reduceEqDiff, Nat.zero_ne_one, Nat.one_ne_zero, ct_at0 hra.w w5, a46, hm0, k_Loads_suits_108_eq (isW_i (show i < 5 by omega)), oc, k_Loads_suits_144_eq (isW_i (show i < 5 by omega))]
  refine ⟨Sa, ?_, hSa, ⟨?_, ?_, fun q hq => ?_, L4', fun q hq => ?_⟩, fa⟩
  · have hk0 := key 5 0 (by omega) rfl
    have hbc5 := bc_le set 5
    have a476 : (u1 S 48 i (nI v)).1 47 6 = nI set := by rw [zuN (by omega)]; exact L1
    rw [f_Loads_suits_eq]
    simp (disch := omega) only [zL0, zL1, zL2, zL3, zL4, zL5, zL6, zL7, zL8, zL9, zL10, zL12, zL20, zL30, zL31, zL32, zL44, zL48, zL49, zL50, zL56, zL59, zL60, zL61, zL64, zL65, zL97, zL99, zL100, zL101, zL102, zL103, zL104, zL111, zL119, zL126, zL255, zL512, zL617, zL65535, zL65536, zL1048576, zlt, zle, zeq, ztn, zin, zzb, zadd, zmul, zm_lt, zm_gt, zm_le, zm_ge, zm_eq, zm_eq', zm_in, if_pos, if_neg, bI_s, bJ_s, bA_s, bU_s, if_true, if_false, reduceIte, or_true, true_or, or_false, false_or, and_true, true_and, and_false, false_and, not_true_eq_false, not_false_eq_true, Nat.reduceEqDiff, Nat.zero_ne_one, Nat.one_ne_zero, L2, L3k, ct_at hr.w w5 hmw, oc, k_Loads_suits_43_eq (isW_i (show i < 5 by omega)), L1, zL2]
    rw [b1, ← hSa]
    exact hk0
  · rw [hSa, zuN (by omega)]; exact L1
  · rw [hSa, zuN (by omega)]; exact L2
  · rw [hSa, zuN (by omega)]; exact L3 q hq
  · rw [hSa, zuN (by omega)]; exact L5 q hq
theorem cl_suits0 {set : Nat} {S : Mem} (h5 : S.1 47 5 = nI (bc set 5)) {k v : Nat} (hk : k < 3) (hk2 : ¬ k < bc set 5) : f_Loads_suits (nI k) (nI v) S = some (nI 1, S) := by
  have := bc_le set 5
  rw [f_Loads_suits_eq]
  simp (disch := omega) only [zL0, zL1, zL2, zL3, zL4, zL5, zL6, zL7, zL8, zL9, zL10, zL12, zL20, zL30, zL31, zL32, zL44, zL48, zL49, zL50, zL56, zL59, zL60, zL61, zL64, zL65, zL97, zL99, zL100, zL101, zL102, zL103, zL104, zL111, zL119, zL126, zL255, zL512, zL617, zL65535, zL65536, zL1048576, zlt, zle, zeq, ztn, zin, zzb, zadd, zmul, zm_lt, zm_gt, zm_le, zm_ge, zm_eq, zm_eq', zm_in, if_pos, if_neg, bI_s, bJ_s, bA_s, bU_s, if_true, if_false, reduceIte, or_true, true_or, or_false, false_or, and_true, true_and, and_false, false_and, not_true_eq_false, not_false_eq_true, Nat.reduceEqDiff, Nat.zero_ne_one, Nat.one_ne_zero, h5, k_Loads_suits_17_eq]
theorem cl_choices {set : Nat} {S : Mem} (h5 : S.1 47 5 = nI (bc set 5)) {k : Nat} (hk : k < 3) : f_Loads_choices (nI k) S = some (nI (if k < bc set 5 then 10 else 1), S) := by
  have := bc_le set 5
  rw [f_Loads_choices_eq]
  by_cases c : k < bc set 5
  · simp (disch := omega) only [zL0, zL1, zL2, zL3, zL4, zL5, zL6, zL7, zL8, zL9, zL10, zL12, zL20, zL30, zL31, zL32, zL44, zL48, zL49, zL50, zL56, zL59, zL60, zL61, zL64, zL65, zL97, zL99, zL100, zL101, zL102, zL103, zL104, zL111, zL119, zL126, zL255, zL512, zL617, zL65535, zL65536, zL1048576, zlt, zle, zeq, ztn, zin, zzb, zadd, zmul, zm_lt, zm_gt, zm_le, zm_ge, zm_eq, zm_eq', zm_in, if_pos, if_neg, bI_s, bJ_s, bA_s, bU_s, if_true, if_false, reduceIte, or_true, true_or, or_false, false_or, and_true, true_and, and_false, false_and, not_true_eq_false, not_false_eq_true, Nat.reduceEqDiff, Nat.zero_ne_one, Nat.one_ne_zero, h5, k_Loads_choices_14_eq]
  · simp (disch := omega) only [zL0, zL1, zL2, zL3, zL4, zL5, zL6, zL7, zL8, zL9, zL10, zL12, zL20, zL30, zL31, zL32, zL44, zL48, zL49, zL50, zL56, zL59, zL60, zL61, zL64, zL65, zL97, zL99, zL100, zL101, zL102, zL103, zL104, zL111, zL119, zL126, zL255, zL512, zL617, zL65535, zL65536, zL1048576, zlt, zle, zeq, ztn, zin, zzb, zadd, zmul, zm_lt, zm_gt, zm_le, zm_ge, zm_eq, zm_eq', zm_in, if_pos, if_neg, bI_s, bJ_s, bA_s, bU_s, if_true, if_false, reduceIte, or_true, true_or, or_false, false_or, and_true, true_and, and_false, false_and, not_true_eq_false, not_false_eq_true, Nat.reduceEqDiff, Nat.zero_ne_one, Nat.one_ne_zero, h5, k_Loads_choices_14_eq]
end LO
