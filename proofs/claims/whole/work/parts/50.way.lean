/-! the model's reading of a net; faults; ways -/
section RD
variable {c : Nat} {D : DD} {S : Mem}
theorem mr_read (hs : okS D) : ∀ m k q S, k + m = D 55 18 → RM D S → okQ q → NM q S → ∃ S', k_Mod_readNet_21 (nI q.1) (nI k) (nI 1) S = k_Mod_readNet_84 (nI (rn (D 67) m k q).2.1) (nI (rn (D 67) m k q).1) S' ∧ frN S S' ∧ ((rn (D 67) m k q).1 = D 55 18 → NM (rn (D 67) m k q).2 S') := by
  intro m
  induction m with
  | zero =>
    intro k q S hk hm hq hn
    have p50 := hs.1
    refine ⟨S, ?_, frN_r S, fun _ => hn⟩
    rw [k_Mod_readNet_21_eq]
    simp (disch := omega) only [hm.r, zL0, zL1, zL2, zL3, zL4, zL5, zL6, zL7, zL8, zL9, zL10, zL12, zL20, zL30, zL31, zL32, zL44, zL48, zL49, zL50, zL56, zL59, zL60, zL61, zL64, zL65, zL97, zL99, zL100, zL101, zL102, zL103, zL104, zL111, zL119, zL126, zL255, zL512, zL617, zL65535, zL65536, zL1048576, zlt, zle, zeq, ztn, zin, zzb, zadd, zmul, zm_lt, zm_gt, zm_le, zm_ge, zm_eq, zm_eq', zm_in, if_pos, if_neg, bI_s, bJ_s, bA_s, bU_s, if_true, if_false, reduceIte, or_true, true_or, or_false, false_or, and_true, true_and, and_false, false_and, not_true_eq_false, not_false_eq_true, Nat.reduceEqDiff, Nat.zero_ne_one, Nat.one_ne_zero, rn]
  | succ m ih =>
    intro k q S hk hm hq hn
    have p50 := hs.1
    have pk := hs.2.1 k (by omega)
    have hst := hq.1
    obtain ⟨S1, f1, z1, h1⟩ := mr_next hq hn (ch := D 67 k) (by omega)
    rw [k_Mod_readNet_21_eq, rn]
    rcases h1 with ⟨h1, h2⟩ | ⟨q', h1, h2, h3⟩
    · refine ⟨S1, ?_, f1, fun w => ?_⟩
      · rw [h1]
        simp (disch := omega) only [hm.r, zL0, zL1, zL2, zL3, zL4, zL5, zL6, zL7, zL8, zL9, zL10, zL12, zL20, zL30, zL31, zL32, zL44, zL48, zL49, zL50, zL56, zL59, zL60, zL61, zL64, zL65, zL97, zL99, zL100, zL101, zL102, zL103, zL104, zL111, zL119, zL126, zL255, zL512, zL617, zL65535, zL65536, zL1048576, zlt, zle, zeq, ztn, zin, zzb, zadd, zmul, zm_lt, zm_gt, zm_le, zm_ge, zm_eq, zm_eq', zm_in, if_pos, if_neg, bI_s, bJ_s, bA_s, bU_s, if_true, if_false, reduceIte, or_true, true_or, or_false, false_or, and_true, true_and, and_false, false_and, not_true_eq_false, not_false_eq_true, Nat.reduceEqDiff, Nat.zero_ne_one, Nat.one_ne_zero, h2, k_Mod_readNet_57_eq, k_Mod_readNet_68_eq, k_Mod_readNet_79_eq, Nat.add_zero]
        rw [k_Mod_readNet_21_eq]
        simp (disch := omega) only [(RM_N hm f1).r, zL0, zL1, zL2, zL3, zL4, zL5, zL6, zL7, zL8, zL9, zL10, zL12, zL20, zL30, zL31, zL32, zL44, zL48, zL49, zL50, zL56, zL59, zL60, zL61, zL64, zL65, zL97, zL99, zL100, zL101, zL102, zL103, zL104, zL111, zL119, zL126, zL255, zL512, zL617, zL65535, zL65536, zL1048576, zlt, zle, zeq, ztn, zin, zzb, zadd, zmul, zm_lt, zm_gt, zm_le, zm_ge, zm_eq, zm_eq', zm_in, if_pos, if_neg, bI_s, bJ_s, bA_s, bU_s, if_true, if_false, reduceIte, or_true, true_or, or_false, false_or, and_true, true_and, and_false, false_and, not_true_eq_false, not_false_eq_true, Nat.reduceEqDiff, Nat.zero_ne_one, Nat.one_ne_zero]
      · rw [h1] at w
        dsimp only at w
        omega
    · have hq' := nst_ok hq h1
      have hst' := hq'.1
      obtain ⟨S2, e2, f2, n2⟩ := ih (k + 1) q' S1 (by omega) (RM_N hm f1) hq' h3
      refine ⟨S2, ?_, frN_t f1 f2, ?_⟩
      · rw [h1]
        simp (disch := omega) only [hm.r, zL0, zL1, zL2, zL3, zL4, zL5, zL6, zL7, zL8, zL9, zL10, zL12, zL20, zL30, zL31, zL32, zL44, zL48, zL49, zL50, zL56, zL59, zL60, zL61, zL64, zL65, zL97, zL99, zL100, zL101, zL102, zL103, zL104, zL111, zL119, zL126, zL255, zL512, zL617, zL65535, zL65536, zL1048576, zlt, zle, zeq, ztn, zin, zzb, zadd, zmul, zm_lt, zm_gt, zm_le, zm_ge, zm_eq, zm_eq', zm_in, if_pos, if_neg, bI_s, bJ_s, bA_s, bU_s, if_true, if_false, reduceIte, or_true, true_or, or_false, false_or, and_true, true_and, and_false, false_and, not_true_eq_false, not_false_eq_true, Nat.reduceEqDiff, Nat.zero_ne_one, Nat.one_ne_zero, h2, k_Mod_readNet_57_eq, k_Mod_readNet_68_eq, k_Mod_readNet_79_eq]
        exact e2
      · rw [h1]; exact n2
def whl (D : DD) : Prop := (rn (D 67) (D 55 18) 0 q0).1 = D 55 18 ∧ 1 < (rn (D 67) (D 55 18) 0 q0).2.1 ∧ (rn (D 67) (D 55 18) 0 q0).2.1 ≠ 4
theorem mr_readNet (hs : okS D) (hm : RM D S) : ∃ S', f_Mod_readNet S = some S' ∧ frN S S' ∧ S'.1 55 20 = nI (rn (D 67) (D 55 18) 0 q0).1 ∧ (whl D → S'.1 55 21 = nI 1 ∧ NM (rn (D 67) (D 55 18) 0 q0).2 S') ∧ (¬ whl D → S'.1 55 21 = nI 0) := by
  have p50 := hs.1
  obtain ⟨Sa, hSa⟩ : ∃ Sa, Sa = u1 (u1 (u1 S 55 22 (nI 0)) 55 26 (nI 0)) 55 27 (nI 0) := ⟨_, rfl⟩
  have fa : frN S Sa := fun x k q q1 q2 q3 => by rw [hSa]; simp (disch := omega) only [zuS, zuN, zu2, zv1, zvS, zvN]
  have na : NM q0 Sa := by
    rw [hSa]
    refine ⟨?_, ?_, ?_, fun k hk => ?_, fun k hk => absurd hk (Nat.not_lt_zero k), fun k hk => absurd hk (Nat.not_lt_zero k)⟩
    · simp (disch := omega) only [zuS, zuN, zu2, zv1, zvS, zvN]; rfl
    · simp (disch := omega) only [zuS, zuN, zu2, zv1, zvS, zvN]; rfl
    · simp (disch := omega) only [zuS, zuN, zu2, zv1, zvS, zvN]; rfl
    · rcases hk with hk | hk
      · exact absurd hk (Nat.not_lt_zero k)
      · exact absurd hk.2 (by decide)
  obtain ⟨S1, e1, f1, n1⟩ := mr_read hs (D 55 18) 0 q0 Sa (by omega) (RM_N hm fa) q0_ok na
  have hm1 := RM_N (RM_N hm fa) f1
  have hqe := rn_ok (pg := D 67) (D 55 18) 0 q0 q0_ok
  have hle := rn_le (pg := D 67) (D 55 18) 0 q0
  have hst := hqe.1
  have e0 : f_Mod_readNet S = k_Mod_readNet_84 (nI (rn (D 67) (D 55 18) 0 q0).2.1) (nI (rn (D 67) (D 55 18) 0 q0).1) S1 := by
    rw [f_Mod_readNet_eq, zL0, zL1, ← hSa]; exact e1
  unfold whl
  clear e1
  generalize rn (D 67) (D 55 18) 0 q0 = rr at n1 hqe hle hst e0 ⊢
  obtain ⟨kk, qq⟩ := rr
  dsimp only at n1 hqe hle hst e0 ⊢
  have upd21 : ∀ v : Nat, frN S (u1 (u1 S1 55 20 (nI kk)) 55 21 (nI v)) := fun v x k q q1 q2 q3 => by
    simp (disch := omega) only [zuS, zuN, zu2, zv1, zvS, zvN]
    rw [f1 x k q q1 q2 q3, fa x k q q1 q2 q3]
  by_cases w : kk = D 55 18 ∧ 1 < qq.1 ∧ qq.1 ≠ 4
  · obtain ⟨g2, g26, g27, ga, gb, gw⟩ := n1 w.1
    refine ⟨u1 (u1 S1 55 20 (nI kk)) 55 21 (nI 1), ?_, upd21 1, by simp (disch := omega) only [zuS, zuN, zu2, zv1, zvS, zvN], fun _ => ⟨by simp (disch := omega) only [zuS, zuN, zu2, zv1, zvS, zvN], ?_, ?_, ?_, fun k hk => ?_, fun k hk => ?_, fun k hk => ?_⟩, fun q => absurd w q⟩
    · rw [e0, k_Mod_readNet_84_eq]
      simp (disch := omega) only [hm1.r, zL0, zL1, zL2, zL3, zL4, zL5, zL6, zL7, zL8, zL9, zL10, zL12, zL20, zL30, zL31, zL32, zL44, zL48, zL49, zL50, zL56, zL59, zL60, zL61, zL64, zL65, zL97, zL99, zL100, zL101, zL102, zL103, zL104, zL111, zL119, zL126, zL255, zL512, zL617, zL65535, zL65536, zL1048576, zlt, zle, zeq, ztn, zin, zzb, zadd, zmul, zm_lt, zm_gt, zm_le, zm_ge, zm_eq, zm_eq', zm_in, if_pos, if_neg, bI_s, bJ_s, bA_s, bU_s, if_true, if_false, reduceIte, or_true, true_or, or_false, false_or, and_true, true_and, and_false, false_and, not_true_eq_false, not_false_eq_true, Nat.reduceEqDiff, Nat.zero_ne_one, Nat.one_ne_zero, w.1, k_Mod_readNet_113_eq]
    · simp (disch := omega) only [zuS, zuN, zu2, zv1, zvS, zvN]; exact g2
    · simp (disch := omega) only [zuS, zuN, zu2, zv1, zvS, zvN]; exact g26
    · simp (disch := omega) only [zuS, zuN, zu2, zv1, zvS, zvN]; exact g27
    · simp (disch := omega) only [zuS, zuN, zu2, zv1, zvS, zvN]; exact ga k hk
    · simp (disch := omega) only [zuS, zuN, zu2, zv1, zvS, zvN]; exact gb k hk
    · simp (disch := omega) only [zuS, zuN, zu2, zv1, zvS, zvN]; exact gw k hk
  · refine ⟨u1 (u1 S1 55 20 (nI kk)) 55 21 (nI 0), ?_, upd21 0, by simp (disch := omega) only [zuS, zuN, zu2, zv1, zvS, zvN], fun q => absurd q w, fun _ => by simp (disch := omega) only [zuS, zuN, zu2, zv1, zvS, zvN]⟩
    rw [e0, k_Mod_readNet_84_eq]
    by_cases w1 : kk = D 55 18
    · by_cases w2 : qq.1 ≤ 1
      · simp (disch := omega) only [hm1.r, zL0, zL1, zL2, zL3, zL4, zL5, zL6, zL7, zL8, zL9, zL10, zL12, zL20, zL30, zL31, zL32, zL44, zL48, zL49, zL50, zL56, zL59, zL60, zL61, zL64, zL65, zL97, zL99, zL100, zL101, zL102, zL103, zL104, zL111, zL119, zL126, zL255, zL512, zL617, zL65535, zL65536, zL1048576, zlt, zle, zeq, ztn, zin, zzb, zadd, zmul, zm_lt, zm_gt, zm_le, zm_ge, zm_eq, zm_eq', zm_in, if_pos, if_neg, bI_s, bJ_s, bA_s, bU_s, if_true, if_false, reduceIte, or_true, true_or, or_false, false_or, and_true, true_and, and_false, false_and, not_true_eq_false, not_false_eq_true, Nat.reduceEqDiff, Nat.zero_ne_one, Nat.one_ne_zero, k_Mod_readNet_112_eq, k_Mod_readNet_113_eq]
      · have w3 : qq.1 = 4 := by
          by_cases q : qq.1 = 4
          · exact q
          · exact absurd ⟨w1, by omega, q⟩ w
        simp (disch := omega) only [hm1.r, zL0, zL1, zL2, zL3, zL4, zL5, zL6, zL7, zL8, zL9, zL10, zL12, zL20, zL30, zL31, zL32, zL44, zL48, zL49, zL50, zL56, zL59, zL60, zL61, zL64, zL65, zL97, zL99, zL100, zL101, zL102, zL103, zL104, zL111, zL119, zL126, zL255, zL512, zL617, zL65535, zL65536, zL1048576, zlt, zle, zeq, ztn, zin, zzb, zadd, zmul, zm_lt, zm_gt, zm_le, zm_ge, zm_eq, zm_eq', zm_in, if_pos, if_neg, bI_s, bJ_s, bA_s, bU_s, if_true, if_false, reduceIte, or_true, true_or, or_false, false_or, and_true, true_and, and_false, false_and, not_true_eq_false, not_false_eq_true, Nat.reduceEqDiff, Nat.zero_ne_one, Nat.one_ne_zero, k_Mod_readNet_112_eq, k_Mod_readNet_113_eq]
    · simp (disch := omega) only [hm1.r, zL0, zL1, zL2, zL3, zL4, zL5, zL6, zL7, zL8, zL9, zL10, zL12, zL20, zL30, zL31, zL32, zL44, zL48, zL49, zL50, zL56, zL59, zL60, zL61, zL64, zL65, zL97, zL99, zL100, zL101, zL102, zL103, zL104, zL111, zL119, zL126, zL255, zL512, zL617, zL65535, zL65536, zL1048576, zlt, zle, zeq, ztn, zin, zzb, zadd, zmul, zm_lt, zm_gt, zm_le, zm_ge, zm_eq, zm_eq', zm_in, if_pos, if_neg, bI_s, bJ_s, bA_s, bU_s, if_true, if_false, reduceIte, or_true, true_or, or_false, false_or, and_true, true_and, and_false, false_and, not_true_eq_false, not_false_eq_true, Nat.reduceEqDiff, Nat.zero_ne_one, Nat.one_ne_zero, k_Mod_readNet_112_eq, k_Mod_readNet_113_eq]
def dgs (pg : Nat → Nat) : Nat → Nat → Nat
  | 0, k => k
  | m + 1, k => if k < 20 ∧ 48 ≤ pg k ∧ pg k < 56 then dgs pg m (k + 1) else k
theorem dgs_le {pg : Nat → Nat} : ∀ m k, k ≤ dgs pg m k ∧ dgs pg m k ≤ k + m
  | 0, k => ⟨Nat.le_refl _, Nat.le_refl _⟩
  | m + 1, k => by
    unfold dgs
    have := dgs_le (pg := pg) m (k + 1)
    split <;> omega
theorem dgs_all {pg : Nat → Nat} : ∀ {m k : Nat}, dgs pg m k = k + m → (∀ j, k ≤ j → j < k + m → 48 ≤ pg j ∧ pg j < 56) ∧ (0 < m → k + m ≤ 20)
  | 0, k, _ => ⟨fun j h1 h2 => by omega, fun q => absurd q (Nat.lt_irrefl 0)⟩
  | m + 1, k, h => by
    unfold dgs at h
    split at h
    · next c =>
      obtain ⟨i1, i2⟩ := dgs_all (pg := pg) (m := m) (k := k + 1) (by omega)
      refine ⟨fun j h1 h2 => ?_, fun _ => ?_⟩
      · by_cases e : j = k
        · rw [e]; exact c.2
        · exact i1 j (by omega) (by omega)
      · by_cases e : m = 0
        · omega
        · have := i2 (by omega)
          omega
    · omega
theorem ct_digits (hs : okS D) (hp : rPg D S) : f_Page_digitsOfWay S = some (nI (dgs (D 67) (D 55 18) 0), S) := by
  have p50 := hs.1
  have key : ∀ m k, k + m = D 55 18 → k_Page_digitsOfWay_2 (nI k) S = some (nI (dgs (D 67) m k), S) := by
    intro m
    induction m with
    | zero =>
      intro k hk
      rw [k_Page_digitsOfWay_2_eq]
      simp (disch := omega) only [hp.1, zL0, zL1, zL2, zL3, zL4, zL5, zL6, zL7, zL8, zL9, zL10, zL12, zL20, zL30, zL31, zL32, zL44, zL48, zL49, zL50, zL56, zL59, zL60, zL61, zL64, zL65, zL97, zL99, zL100, zL101, zL102, zL103, zL104, zL111, zL119, zL126, zL255, zL512, zL617, zL65535, zL65536, zL1048576, zlt, zle, zeq, ztn, zin, zzb, zadd, zmul, zm_lt, zm_gt, zm_le, zm_ge, zm_eq, zm_eq', zm_in, if_pos, if_neg, bI_s, bJ_s, bA_s, bU_s, if_true, if_false, reduceIte, or_true, true_or, or_false, false_or, and_true, true_and, and_false, false_and, not_true_eq_false, not_false_eq_true, Nat.reduceEqDiff, Nat.zero_ne_one, Nat.one_ne_zero, k_Page_digitsOfWay_34_eq, dgs]
    | succ m ih =>
      intro k hk
      have pk := hs.2.1 k (by omega)
      have h2 := hp.2 k (by omega)
      have hn := ih (k + 1) (by omega)
      rw [k_Page_digitsOfWay_2_eq, dgs]
      by_cases c1 : k < 20
      · by_cases c2 : 48 ≤ D 67 k ∧ D 67 k < 56
        · simp (disch := omega) only [hp.1, zL0, zL1, zL2, zL3, zL4, zL5, zL6, zL7, zL8, zL9, zL10, zL12, zL20, zL30, zL31, zL32, zL44, zL48, zL49, zL50, zL56, zL59, zL60, zL61, zL64, zL65, zL97, zL99, zL100, zL101, zL102, zL103, zL104, zL111, zL119, zL126, zL255, zL512, zL617, zL65535, zL65536, zL1048576, zlt, zle, zeq, ztn, zin, zzb, zadd, zmul, zm_lt, zm_gt, zm_le, zm_ge, zm_eq, zm_eq', zm_in, if_pos, if_neg, bI_s, bJ_s, bA_s, bU_s, if_true, if_false, reduceIte, or_true, true_or, or_false, false_or, and_true, true_and, and_false, false_and, not_true_eq_false, not_false_eq_true, Nat.reduceEqDiff, Nat.zero_ne_one, Nat.one_ne_zero, h2, ct_isDigit, k_Page_digitsOfWay_34_eq, hn]
        · simp (disch := omega) only [hp.1, zL0, zL1, zL2, zL3, zL4, zL5, zL6, zL7, zL8, zL9, zL10, zL12, zL20, zL30, zL31, zL32, zL44, zL48, zL49, zL50, zL56, zL59, zL60, zL61, zL64, zL65, zL97, zL99, zL100, zL101, zL102, zL103, zL104, zL111, zL119, zL126, zL255, zL512, zL617, zL65535, zL65536, zL1048576, zlt, zle, zeq, ztn, zin, zzb, zadd, zmul, zm_lt, zm_gt, zm_le, zm_ge, zm_eq, zm_eq', zm_in, if_pos, if_neg, bI_s, bJ_s, bA_s, bU_s, if_true, if_false, reduceIte, or_true, true_or, or_false, false_or, and_true, true_and, and_false, false_and, not_true_eq_false, not_false_eq_true, Nat.reduceEqDiff, Nat.zero_ne_one, Nat.one_ne_zero, h2, ct_isDigit, k_Page_digitsOfWay_34_eq]
      · simp (disch := omega) only [hp.1, zL0, zL1, zL2, zL3, zL4, zL5, zL6, zL7, zL8, zL9, zL10, zL12, zL20, zL30, zL31, zL32, zL44, zL48, zL49, zL50, zL56, zL59, zL60, zL61, zL64, zL65, zL97, zL99, zL100, zL101, zL102, zL103, zL104, zL111, zL119, zL126, zL255, zL512, zL617, zL65535, zL65536, zL1048576, zlt, zle, zeq, ztn, zin, zzb, zadd, zmul, zm_lt, zm_gt, zm_le, zm_ge, zm_eq, zm_eq', zm_in, if_pos, if_neg, bI_s, bJ_s, bA_s, bU_s, if_true, if_false, reduceIte, or_true, true_or, or_false, false_or, and_true, true_and, and_false, false_and, not_true_eq_false, not_false_eq_true, Nat.reduceEqDiff, Nat.zero_ne_one, Nat.one_ne_zero, k_Page_digitsOfWay_34_eq]
  rw [f_Page_digitsOfWay_eq, zL0]
  exact key (D 55 18) 0 (by omega)
theorem mo_readWay (hs : okS D) (hm : RM D S) : ∃ S', f_Mod_readWay S = some S' ∧ frN S S' ∧ S'.1 55 20 = nI (dgs (D 67) (D 55 18) 0) ∧ S'.1 55 21 = nI (if dgs (D 67) (D 55 18) 0 = D 55 18 ∧ 0 < D 55 18 then 1 else 0) := by
  have p50 := hs.1
  have key : ∀ m k, k + m = D 55 18 → k_Mod_readWay_2 (nI k) S = k_Mod_readWay_37 (nI (dgs (D 67) m k)) S := by
    intro m
    induction m with
    | zero =>
      intro k hk
      rw [k_Mod_readWay_2_eq]
      simp (disch := omega) only [hm.r, zL0, zL1, zL2, zL3, zL4, zL5, zL6, zL7, zL8, zL9, zL10, zL12, zL20, zL30, zL31, zL32, zL44, zL48, zL49, zL50, zL56, zL59, zL60, zL61, zL64, zL65, zL97, zL99, zL100, zL101, zL102, zL103, zL104, zL111, zL119, zL126, zL255, zL512, zL617, zL65535, zL65536, zL1048576, zlt, zle, zeq, ztn, zin, zzb, zadd, zmul, zm_lt, zm_gt, zm_le, zm_ge, zm_eq, zm_eq', zm_in, if_pos, if_neg, bI_s, bJ_s, bA_s, bU_s, if_true, if_false, reduceIte, or_true, true_or, or_false, false_or, and_true, true_and, and_false, false_and, not_true_eq_false, not_false_eq_true, Nat.reduceEqDiff, Nat.zero_ne_one, Nat.one_ne_zero, dgs]
    | succ m ih =>
      intro k hk
      have pk := hs.2.1 k (by omega)
      have hn := ih (k + 1) (by omega)
      rw [k_Mod_readWay_2_eq, dgs]
      by_cases c1 : k < 20
      · rcases zcor (ch := D 67 k) (by omega) S with ⟨d1, d2, d3, d4⟩ | ⟨d1, d4⟩
        · simp (disch := omega) only [hm.r, zL0, zL1, zL2, zL3, zL4, zL5, zL6, zL7, zL8, zL9, zL10, zL12, zL20, zL30, zL31, zL32, zL44, zL48, zL49, zL50, zL56, zL59, zL60, zL61, zL64, zL65, zL97, zL99, zL100, zL101, zL102, zL103, zL104, zL111, zL119, zL126, zL255, zL512, zL617, zL65535, zL65536, zL1048576, zlt, zle, zeq, ztn, zin, zzb, zadd, zmul, zm_lt, zm_gt, zm_le, zm_ge, zm_eq, zm_eq', zm_in, if_pos, if_neg, bI_s, bJ_s, bA_s, bU_s, if_true, if_false, reduceIte, or_true, true_or, or_false, false_or, and_true, true_and, and_false, false_and, not_true_eq_false, not_false_eq_true, Nat.reduceEqDiff, Nat.zero_ne_one, Nat.one_ne_zero, d4, hn]
        · simp (disch := omega) only [hm.r, zL0, zL1, zL2, zL3, zL4, zL5, zL6, zL7, zL8, zL9, zL10, zL12, zL20, zL30, zL31, zL32, zL44, zL48, zL49, zL50, zL56, zL59, zL60, zL61, zL64, zL65, zL97, zL99, zL100, zL101, zL102, zL103, zL104, zL111, zL119, zL126, zL255, zL512, zL617, zL65535, zL65536, zL1048576, zlt, zle, zeq, ztn, zin, zzb, zadd, zmul, zm_lt, zm_gt, zm_le, zm_ge, zm_eq, zm_eq', zm_in, if_pos, if_neg, bI_s, bJ_s, bA_s, bU_s, if_true, if_false, reduceIte, or_true, true_or, or_false, false_or, and_true, true_and, and_false, false_and, not_true_eq_false, not_false_eq_true, Nat.reduceEqDiff, Nat.zero_ne_one, Nat.one_ne_zero, d4]
      · simp (disch := omega) only [hm.r, zL0, zL1, zL2, zL3, zL4, zL5, zL6, zL7, zL8, zL9, zL10, zL12, zL20, zL30, zL31, zL32, zL44, zL48, zL49, zL50, zL56, zL59, zL60, zL61, zL64, zL65, zL97, zL99, zL100, zL101, zL102, zL103, zL104, zL111, zL119, zL126, zL255, zL512, zL617, zL65535, zL65536, zL1048576, zlt, zle, zeq, ztn, zin, zzb, zadd, zmul, zm_lt, zm_gt, zm_le, zm_ge, zm_eq, zm_eq', zm_in, if_pos, if_neg, bI_s, bJ_s, bA_s, bU_s, if_true, if_false, reduceIte, or_true, true_or, or_false, false_or, and_true, true_and, and_false, false_and, not_true_eq_false, not_false_eq_true, Nat.reduceEqDiff, Nat.zero_ne_one, Nat.one_ne_zero]
  have hle := dgs_le (pg := D 67) (D 55 18) 0
  obtain ⟨d, hd⟩ : ∃ d, d = dgs (D 67) (D 55 18) 0 := ⟨_, rfl⟩
  have e0 : f_Mod_readWay S = k_Mod_readWay_37 (nI d) S := by
    rw [f_Mod_readWay_eq, zL0, hd]; exact key (D 55 18) 0 (by omega)
  rw [← hd] at hle ⊢
  refine ⟨u1 (u1 S 55 20 (nI d)) 55 21 (nI (if d = D 55 18 ∧ 0 < D 55 18 then 1 else 0)), ?_, fun x k q q1 q2 q3 => by simp (disch := omega) only [zuS, zuN, zu2, zv1, zvS, zvN], by simp (disch := omega) only [zuS, zuN, zu2, zv1, zvS, zvN], by simp (disch := omega) only [zuS, zuN, zu2, zv1, zvS, zvN]⟩
  rw [e0, k_Mod_readWay_37_eq]
  by_cases c1 : d = D 55 18
  · by_cases c2 : 0 < D 55 18
    · simp (disch := omega) only [hm.r, zL0, zL1, zL2, zL3, zL4, zL5, zL6, zL7, zL8, zL9, zL10, zL12, zL20, zL30, zL31, zL32, zL44, zL48, zL49, zL50, zL56, zL59, zL60, zL61, zL64, zL65, zL97, zL99, zL100, zL101, zL102, zL103, zL104, zL111, zL119, zL126, zL255, zL512, zL617, zL65535, zL65536, zL1048576, zlt, zle, zeq, ztn, zin, zzb, zadd, zmul, zm_lt, zm_gt, zm_le, zm_ge, zm_eq, zm_eq', zm_in, if_pos, if_neg, bI_s, bJ_s, bA_s, bU_s, if_true, if_false, reduceIte, or_true, true_or, or_false, false_or, and_true, true_and, and_false, false_and, not_true_eq_false, not_false_eq_true, Nat.reduceEqDiff, Nat.zero_ne_one, Nat.one_ne_zero, k_Mod_readWay_59_eq, k_Mod_readWay_60_eq]
    · simp (disch := omega) only [hm.r, zL0, zL1, zL2, zL3, zL4, zL5, zL6, zL7, zL8, zL9, zL10, zL12, zL20, zL30, zL31, zL32, zL44, zL48, zL49, zL50, zL56, zL59, zL60, zL61, zL64, zL65, zL97, zL99, zL100, zL101, zL102, zL103, zL104, zL111, zL119, zL126, zL255, zL512, zL617, zL65535, zL65536, zL1048576, zlt, zle, zeq, ztn, zin, zzb, zadd, zmul, zm_lt, zm_gt, zm_le, zm_ge, zm_eq, zm_eq', zm_in, if_pos, if_neg, bI_s, bJ_s, bA_s, bU_s, if_true, if_false, reduceIte, or_true, true_or, or_false, false_or, and_true, true_and, and_false, false_and, not_true_eq_false, not_false_eq_true, Nat.reduceEqDiff, Nat.zero_ne_one, Nat.one_ne_zero, k_Mod_readWay_59_eq, k_Mod_readWay_60_eq]
  · simp (disch := omega) only [hm.r, zL0, zL1, zL2, zL3, zL4, zL5, zL6, zL7, zL8, zL9, zL10, zL12, zL20, zL30, zL31, zL32, zL44, zL48, zL49, zL50, zL56, zL59, zL60, zL61, zL64, zL65, zL97, zL99, zL100, zL101, zL102, zL103, zL104, zL111, zL119, zL126, zL255, zL512, zL617, zL65535, zL65536, zL1048576, zlt, zle, zeq, ztn, zin, zzb, zadd, zmul, zm_lt, zm_gt, zm_le, zm_ge, zm_eq, zm_eq', zm_in, if_pos, if_neg, bI_s, bJ_s, bA_s, bU_s, if_true, if_false, reduceIte, or_true, true_or, or_false, false_or, and_true, true_and, and_false, false_and, not_true_eq_false, not_false_eq_true, Nat.reduceEqDiff, Nat.zero_ne_one, Nat.one_ne_zero, k_Mod_readWay_59_eq, k_Mod_readWay_60_eq]
theorem frR_C {S S' : Mem} (h : frR S S') : frC S S' := fun a k q => h a k (by omega)
theorem ask_fault (h : Inv c D S) (hc : c < 512) (x : Int32) : CAL c S (f_Top_fault x) (f_Mod_fault x) := by
  obtain ⟨hd, hr, hm, h4, h5, h6⟩ := id h
  rcases zcase x with hx | ⟨n, hn, rfl⟩
  · refine CAL_00 h hc (r := -nI 102) ?_ ?_
    · rw [f_Top_fault_eq]; simp (disch := omega) only [zL0, zL1, zL2, zL3, zL4, zL5, zL6, zL7, zL8, zL9, zL10, zL12, zL20, zL30, zL31, zL32, zL44, zL48, zL49, zL50, zL56, zL59, zL60, zL61, zL64, zL65, zL97, zL99, zL100, zL101, zL102, zL103, zL104, zL111, zL119, zL126, zL255, zL512, zL617, zL65535, zL65536, zL1048576, zlt, zle, zeq, ztn, zin, zzb, zadd, zmul, zm_lt, zm_gt, zm_le, zm_ge, zm_eq, zm_eq', zm_in, if_pos, if_neg, bI_s, bJ_s, bA_s, bU_s, if_true, if_false, reduceIte, or_true, true_or, or_false, false_or, and_true, true_and, and_false, false_and, not_true_eq_false, not_false_eq_true, Nat.reduceEqDiff, Nat.zero_ne_one, Nat.one_ne_zero, zn_eq hx]
    · rw [f_Mod_fault_eq, zL0, mo_within_n hx (by omega)]; simp (disch := omega) only [zL0, zL1, zL2, zL3, zL4, zL5, zL6, zL7, zL8, zL9, zL10, zL12, zL20, zL30, zL31, zL32, zL44, zL48, zL49, zL50, zL56, zL59, zL60, zL61, zL64, zL65, zL97, zL99, zL100, zL101, zL102, zL103, zL104, zL111, zL119, zL126, zL255, zL512, zL617, zL65535, zL65536, zL1048576, zlt, zle, zeq, ztn, zin, zzb, zadd, zmul, zm_lt, zm_gt, zm_le, zm_ge, zm_eq, zm_eq', zm_in, if_pos, if_neg, bI_s, bJ_s, bA_s, bU_s, if_true, if_false, reduceIte, or_true, true_or, or_false, false_or, and_true, true_and, and_false, false_and, not_true_eq_false, not_false_eq_true, Nat.reduceEqDiff, Nat.zero_ne_one, Nat.one_ne_zero]
  by_cases n0 : n = 0
  · refine CAL_0 h hc (r := nI (rn (D 67) (D 55 18) 0 q0).1) ?_ (fun S1 r1 m1 => ?_)
    · obtain ⟨J, S1, e1, f1, _⟩ := cr_readFrom hd.2.2.1 hr.1
      refine ⟨S1, ?_, frR_C f1⟩
      rw [f_Top_fault_eq]
      simp (disch := omega) only [zL0, zL1, zL2, zL3, zL4, zL5, zL6, zL7, zL8, zL9, zL10, zL12, zL20, zL30, zL31, zL32, zL44, zL48, zL49, zL50, zL56, zL59, zL60, zL61, zL64, zL65, zL97, zL99, zL100, zL101, zL102, zL103, zL104, zL111, zL119, zL126, zL255, zL512, zL617, zL65535, zL65536, zL1048576, zlt, zle, zeq, ztn, zin, zzb, zadd, zmul, zm_lt, zm_gt, zm_le, zm_ge, zm_eq, zm_eq', zm_in, if_pos, if_neg, bI_s, bJ_s, bA_s, bU_s, if_true, if_false, reduceIte, or_true, true_or, or_false, false_or, and_true, true_and, and_false, false_and, not_true_eq_false, not_false_eq_true, Nat.reduceEqDiff, Nat.zero_ne_one, Nat.one_ne_zero, k_Top_fault_12_eq, e1, k_Top_fault_37_eq]
    · obtain ⟨S2, e2, f2, z2, _⟩ := mr_readNet hd.2.2.1 m1
      refine ⟨S2, ?_, RM_N m1 f2, frN_M f2⟩
      rw [f_Mod_fault_eq]
      simp (disch := omega) only [mo_within, zL0, zL1, zL2, zL3, zL4, zL5, zL6, zL7, zL8, zL9, zL10, zL12, zL20, zL30, zL31, zL32, zL44, zL48, zL49, zL50, zL56, zL59, zL60, zL61, zL64, zL65, zL97, zL99, zL100, zL101, zL102, zL103, zL104, zL111, zL119, zL126, zL255, zL512, zL617, zL65535, zL65536, zL1048576, zlt, zle, zeq, ztn, zin, zzb, zadd, zmul, zm_lt, zm_gt, zm_le, zm_ge, zm_eq, zm_eq', zm_in, if_pos, if_neg, bI_s, bJ_s, bA_s, bU_s, if_true, if_false, reduceIte, or_true, true_or, or_false, false_or, and_true, true_and, and_false, false_and, not_true_eq_false, not_false_eq_true, Nat.reduceEqDiff, Nat.zero_ne_one, Nat.one_ne_zero, e2, k_Mod_fault_27_eq, z2]
  by_cases n1 : n = 1
  · refine CAL_0 h hc (r := nI (dgs (D 67) (D 55 18) 0)) ?_ (fun S1 r1 m1 => ?_)
    · refine ⟨S, ?_, frC_r S⟩
      rw [f_Top_fault_eq]
      simp (disch := omega) only [zL0, zL1, zL2, zL3, zL4, zL5, zL6, zL7, zL8, zL9, zL10, zL12, zL20, zL30, zL31, zL32, zL44, zL48, zL49, zL50, zL56, zL59, zL60, zL61, zL64, zL65, zL97, zL99, zL100, zL101, zL102, zL103, zL104, zL111, zL119, zL126, zL255, zL512, zL617, zL65535, zL65536, zL1048576, zlt, zle, zeq, ztn, zin, zzb, zadd, zmul, zm_lt, zm_gt, zm_le, zm_ge, zm_eq, zm_eq', zm_in, if_pos, if_neg, bI_s, bJ_s, bA_s, bU_s, if_true, if_false, reduceIte, or_true, true_or, or_false, false_or, and_true, true_and, and_false, false_and, not_true_eq_false, not_false_eq_true, Nat.reduceEqDiff, Nat.zero_ne_one, Nat.one_ne_zero, k_Top_fault_12_eq, ct_digits hd.2.2.1 hr.1, k_Top_fault_37_eq]
    · obtain ⟨S2, e2, f2, z2, _⟩ := mo_readWay hd.2.2.1 m1
      refine ⟨S2, ?_, RM_N m1 f2, frN_M f2⟩
      rw [f_Mod_fault_eq]
      simp (disch := omega) only [mo_within, zL0, zL1, zL2, zL3, zL4, zL5, zL6, zL7, zL8, zL9, zL10, zL12, zL20, zL30, zL31, zL32, zL44, zL48, zL49, zL50, zL56, zL59, zL60, zL61, zL64, zL65, zL97, zL99, zL100, zL101, zL102, zL103, zL104, zL111, zL119, zL126, zL255, zL512, zL617, zL65535, zL65536, zL1048576, zlt, zle, zeq, ztn, zin, zzb, zadd, zmul, zm_lt, zm_gt, zm_le, zm_ge, zm_eq, zm_eq', zm_in, if_pos, if_neg, bI_s, bJ_s, bA_s, bU_s, if_true, if_false, reduceIte, or_true, true_or, or_false, false_or, and_true, true_and, and_false, false_and, not_true_eq_false, not_false_eq_true, Nat.reduceEqDiff, Nat.zero_ne_one, Nat.one_ne_zero, e2, k_Mod_fault_27_eq, z2]
  · refine CAL_00 h hc (r := -nI 102) ?_ ?_
    · rw [f_Top_fault_eq]; simp (disch := omega) only [zL0, zL1, zL2, zL3, zL4, zL5, zL6, zL7, zL8, zL9, zL10, zL12, zL20, zL30, zL31, zL32, zL44, zL48, zL49, zL50, zL56, zL59, zL60, zL61, zL64, zL65, zL97, zL99, zL100, zL101, zL102, zL103, zL104, zL111, zL119, zL126, zL255, zL512, zL617, zL65535, zL65536, zL1048576, zlt, zle, zeq, ztn, zin, zzb, zadd, zmul, zm_lt, zm_gt, zm_le, zm_ge, zm_eq, zm_eq', zm_in, if_pos, if_neg, bI_s, bJ_s, bA_s, bU_s, if_true, if_false, reduceIte, or_true, true_or, or_false, false_or, and_true, true_and, and_false, false_and, not_true_eq_false, not_false_eq_true, Nat.reduceEqDiff, Nat.zero_ne_one, Nat.one_ne_zero]
    · rw [f_Mod_fault_eq]; simp (disch := omega) only [mo_within, zL0, zL1, zL2, zL3, zL4, zL5, zL6, zL7, zL8, zL9, zL10, zL12, zL20, zL30, zL31, zL32, zL44, zL48, zL49, zL50, zL56, zL59, zL60, zL61, zL64, zL65, zL97, zL99, zL100, zL101, zL102, zL103, zL104, zL111, zL119, zL126, zL255, zL512, zL617, zL65535, zL65536, zL1048576, zlt, zle, zeq, ztn, zin, zzb, zadd, zmul, zm_lt, zm_gt, zm_le, zm_ge, zm_eq, zm_eq', zm_in, if_pos, if_neg, bI_s, bJ_s, bA_s, bU_s, if_true, if_false, reduceIte, or_true, true_or, or_false, false_or, and_true, true_and, and_false, false_and, not_true_eq_false, not_false_eq_true, Nat.reduceEqDiff, Nat.zero_ne_one, Nat.one_ne_zero]
/-! ways -/
def lead (D : DD) : Nat → Nat → Nat → Bool
  | 0, _, _ => true
  | m + 1, k, a => (decide (D 67 k - 48 = a) || adj D a (D 67 k - 48)) && lead D m (k + 1) (D 67 k - 48)
theorem lead_stp : ∀ {m k a : Nat}, lead D m k a = true → (0 < m → stp D a (D 67 k - 48)) ∧ ∀ j, k ≤ j → j + 1 < k + m → stp D (D 67 j - 48) (D 67 (j + 1) - 48)
  | 0, k, a, _ => ⟨fun q => absurd q (Nat.lt_irrefl 0), fun j h1 h2 => by omega⟩
  | m + 1, k, a, h => by
    simp only [lead, Bool.and_eq_true, Bool.or_eq_true, decide_eq_true_eq] at h
    obtain ⟨i1, i2⟩ := lead_stp h.2
    refine ⟨fun _ => ?_, fun j h1 h2 => ?_⟩
    · rcases h.1 with q | q
      · exact Or.inl q.symm
      · exact Or.inr q
    · by_cases e : j = k
      · rw [e]; exact i1 (by omega)
      · exact i2 j (by omega) (by omega)
theorem ct_leads (hd : okD D) (hr : RC D S) (hall : ∀ j, j < D 55 18 → 48 ≤ D 67 j ∧ D 67 j < 56) : ∀ m k a, k + m = D 55 18 → a < 8 → k_Top_leadsOn_4 (nI a) (nI k) S = some (nI (if lead D m k a then 1 else 0), S) := by
  have p50 := hd.2.2.1.1
  intro m
  induction m with
  | zero =>
    intro k a hk ha
    rw [k_Top_leadsOn_4_eq]
    simp (disch := omega) only [hr.1.1, zL0, zL1, zL2, zL3, zL4, zL5, zL6, zL7, zL8, zL9, zL10, zL12, zL20, zL30, zL31, zL32, zL44, zL48, zL49, zL50, zL56, zL59, zL60, zL61, zL64, zL65, zL97, zL99, zL100, zL101, zL102, zL103, zL104, zL111, zL119, zL126, zL255, zL512, zL617, zL65535, zL65536, zL1048576, zlt, zle, zeq, ztn, zin, zzb, zadd, zmul, zm_lt, zm_gt, zm_le, zm_ge, zm_eq, zm_eq', zm_in, if_pos, if_neg, bI_s, bJ_s, bA_s, bU_s, if_true, if_false, reduceIte, or_true, true_or, or_false, false_or, and_true, true_and, and_false, false_and, not_true_eq_false, not_false_eq_true, Nat.reduceEqDiff, Nat.zero_ne_one, Nat.one_ne_zero, lead]
  | succ m ih =>
    intro k a hk ha
    have pk := hall k (by omega)
    have hat := ct_pageAt hr.1 hd.2.2.1 (k := k) (by omega)
    have hn := ih (k + 1) (D 67 k - 48) (by omega) (by omega)
    have hj := cn_joins hr hd.1 ha (show D 67 k - 48 < 8 by omega)
    rw [k_Top_leadsOn_4_eq, lead]
    by_cases c1 : D 67 k - 48 = a
    · simp (disch := omega) only [hr.1.1, zL0, zL1, zL2, zL3, zL4, zL5, zL6, zL7, zL8, zL9, zL10, zL12, zL20, zL30, zL31, zL32, zL44, zL48, zL49, zL50, zL56, zL59, zL60, zL61, zL64, zL65, zL97, zL99, zL100, zL101, zL102, zL103, zL104, zL111, zL119, zL126, zL255, zL512, zL617, zL65535, zL65536, zL1048576, zlt, zle, zeq, ztn, zin, zzb, zadd, zmul, zm_lt, zm_gt, zm_le, zm_ge, zm_eq, zm_eq', zm_in, if_pos, if_neg, bI_s, bJ_s, bA_s, bU_s, if_true, if_false, reduceIte, or_true, true_or, or_false, false_or, and_true, true_and, and_false, false_and, not_true_eq_false, not_false_eq_true, Nat.reduceEqDiff, Nat.zero_ne_one, Nat.one_ne_zero, hat, zsub, k_Top_leadsOn_49_eq, decide_eq_true c1, Bool.true_or, Bool.true_and, ← hn]
    · cases cj : adj D a (D 67 k - 48)
      · rw [cj] at hj
        simp (disch := omega) only [hr.1.1, zL0, zL1, zL2, zL3, zL4, zL5, zL6, zL7, zL8, zL9, zL10, zL12, zL20, zL30, zL31, zL32, zL44, zL48, zL49, zL50, zL56, zL59, zL60, zL61, zL64, zL65, zL97, zL99, zL100, zL101, zL102, zL103, zL104, zL111, zL119, zL126, zL255, zL512, zL617, zL65535, zL65536, zL1048576, zlt, zle, zeq, ztn, zin, zzb, zadd, zmul, zm_lt, zm_gt, zm_le, zm_ge, zm_eq, zm_eq', zm_in, if_pos, if_neg, bI_s, bJ_s, bA_s, bU_s, if_true, if_false, reduceIte, or_true, true_or, or_false, false_or, and_true, true_and, and_false, false_and, not_true_eq_false, not_false_eq_true, Nat.reduceEqDiff, Nat.zero_ne_one, Nat.one_ne_zero, hat, zsub, k_Top_leadsOn_49_eq, decide_eq_false c1, Bool.false_or, Bool.false_and, hj, Bool.false_eq_true]
      · rw [cj] at hj
        simp (disch := omega) only [hr.1.1, zL0, zL1, zL2, zL3, zL4, zL5, zL6, zL7, zL8, zL9, zL10, zL12, zL20, zL30, zL31, zL32, zL44, zL48, zL49, zL50, zL56, zL59, zL60, zL61, zL64, zL65, zL97, zL99, zL100, zL101, zL102, zL103, zL104, zL111, zL119, zL126, zL255, zL512, zL617, zL65535, zL65536, zL1048576, zlt, zle, zeq, ztn, zin, zzb, zadd, zmul, zm_lt, zm_gt, zm_le, zm_ge, zm_eq, zm_eq', zm_in, if_pos, if_neg, bI_s, bJ_s, bA_s, bU_s, if_true, if_false, reduceIte, or_true, true_or, or_false, false_or, and_true, true_and, and_false, false_and, not_true_eq_false, not_false_eq_true, Nat.reduceEqDiff, Nat.zero_ne_one, Nat.one_ne_zero, hat, zsub, k_Top_leadsOn_49_eq, decide_eq_false c1, Bool.false_or, Bool.true_and, hj, ← hn]
theorem mo_leads {w : Nat} (hd : okD D) (hm : RM D S) (hall : ∀ j, j < D 55 18 → 48 ≤ D 67 j ∧ D 67 j < 56) : ∀ m k a, k + m = D 55 18 → a < 8 → k_Mod_way_30 (nI w) (nI 1) (nI a) (nI k) S = k_Mod_way_87 (nI w) (nI (if lead D m k a then 1 else 0)) S := by
  have p50 := hd.2.2.1.1
  intro m
  induction m with
  | zero =>
    intro k a hk ha
    rw [k_Mod_way_30_eq]
    simp (disch := omega) only [hm.r, zL0, zL1, zL2, zL3, zL4, zL5, zL6, zL7, zL8, zL9, zL10, zL12, zL20, zL30, zL31, zL32, zL44, zL48, zL49, zL50, zL56, zL59, zL60, zL61, zL64, zL65, zL97, zL99, zL100, zL101, zL102, zL103, zL104, zL111, zL119, zL126, zL255, zL512, zL617, zL65535, zL65536, zL1048576, zlt, zle, zeq, ztn, zin, zzb, zadd, zmul, zm_lt, zm_gt, zm_le, zm_ge, zm_eq, zm_eq', zm_in, if_pos, if_neg, bI_s, bJ_s, bA_s, bU_s, if_true, if_false, reduceIte, or_true, true_or, or_false, false_or, and_true, true_and, and_false, false_and, not_true_eq_false, not_false_eq_true, Nat.reduceEqDiff, Nat.zero_ne_one, Nat.one_ne_zero, lead]
  | succ m ih =>
    intro k a hk ha
    have pk := hall k (by omega)
    have hn := ih (k + 1) (D 67 k - 48) (by omega) (by omega)
    have hl := mo_laneOf hm hd.1 (a := a) (b := D 67 k - 48) (by omega) (by omega)
    rw [k_Mod_way_30_eq, lead]
    by_cases c1 : D 67 k - 48 = a
    · simp (disch := omega) only [hm.r, zL0, zL1, zL2, zL3, zL4, zL5, zL6, zL7, zL8, zL9, zL10, zL12, zL20, zL30, zL31, zL32, zL44, zL48, zL49, zL50, zL56, zL59, zL60, zL61, zL64, zL65, zL97, zL99, zL100, zL101, zL102, zL103, zL104, zL111, zL119, zL126, zL255, zL512, zL617, zL65535, zL65536, zL1048576, zlt, zle, zeq, ztn, zin, zzb, zadd, zmul, zm_lt, zm_gt, zm_le, zm_ge, zm_eq, zm_eq', zm_in, if_pos, if_neg, bI_s, bJ_s, bA_s, bU_s, if_true, if_false, reduceIte, or_true, true_or, or_false, false_or, and_true, true_and, and_false, false_and, not_true_eq_false, not_false_eq_true, Nat.reduceEqDiff, Nat.zero_ne_one, Nat.one_ne_zero, zsub, k_Mod_way_72_eq, k_Mod_way_77_eq, decide_eq_true c1, Bool.true_or, Bool.true_and, ← hn]
    · unfold adj
      cases e : ln D a (D 67 k - 48) with
      | none =>
        rw [e] at hl
        simp (disch := omega) only [hm.r, zL0, zL1, zL2, zL3, zL4, zL5, zL6, zL7, zL8, zL9, zL10, zL12, zL20, zL30, zL31, zL32, zL44, zL48, zL49, zL50, zL56, zL59, zL60, zL61, zL64, zL65, zL97, zL99, zL100, zL101, zL102, zL103, zL104, zL111, zL119, zL126, zL255, zL512, zL617, zL65535, zL65536, zL1048576, zlt, zle, zeq, ztn, zin, zzb, zadd, zmul, zm_lt, zm_gt, zm_le, zm_ge, zm_eq, zm_eq', zm_in, if_pos, if_neg, bI_s, bJ_s, bA_s, bU_s, if_true, if_false, reduceIte, or_true, true_or, or_false, false_or, and_true, true_and, and_false, false_and, not_true_eq_false, not_false_eq_true, Nat.reduceEqDiff, Nat.zero_ne_one, Nat.one_ne_zero, zsub, hl, eo, k_Mod_way_72_eq, k_Mod_way_77_eq, decide_eq_false c1, Option.isSome_none, Bool.false_or, Bool.false_and, Bool.false_eq_true]
        rw [k_Mod_way_30_eq]
        by_cases q : D 55 18 ≤ k + 1
        · simp (disch := omega) only [hm.r, zL0, zL1, zL2, zL3, zL4, zL5, zL6, zL7, zL8, zL9, zL10, zL12, zL20, zL30, zL31, zL32, zL44, zL48, zL49, zL50, zL56, zL59, zL60, zL61, zL64, zL65, zL97, zL99, zL100, zL101, zL102, zL103, zL104, zL111, zL119, zL126, zL255, zL512, zL617, zL65535, zL65536, zL1048576, zlt, zle, zeq, ztn, zin, zzb, zadd, zmul, zm_lt, zm_gt, zm_le, zm_ge, zm_eq, zm_eq', zm_in, if_pos, if_neg, bI_s, bJ_s, bA_s, bU_s, if_true, if_false, reduceIte, or_true, true_or, or_false, false_or, and_true, true_and, and_false, false_and, not_true_eq_false, not_false_eq_true, Nat.reduceEqDiff, Nat.zero_ne_one, Nat.one_ne_zero]
        · simp (disch := omega) only [hm.r, zL0, zL1, zL2, zL3, zL4, zL5, zL6, zL7, zL8, zL9, zL10, zL12, zL20, zL30, zL31, zL32, zL44, zL48, zL49, zL50, zL56, zL59, zL60, zL61, zL64, zL65, zL97, zL99, zL100, zL101, zL102, zL103, zL104, zL111, zL119, zL126, zL255, zL512, zL617, zL65535, zL65536, zL1048576, zlt, zle, zeq, ztn, zin, zzb, zadd, zmul, zm_lt, zm_gt, zm_le, zm_ge, zm_eq, zm_eq', zm_in, if_pos, if_neg, bI_s, bJ_s, bA_s, bU_s, if_true, if_false, reduceIte, or_true, true_or, or_false, false_or, and_true, true_and, and_false, false_and, not_true_eq_false, not_false_eq_true, Nat.reduceEqDiff, Nat.zero_ne_one, Nat.one_ne_zero]
      | some l =>
        rw [e] at hl
        have hq := ln_lt hd.1 e
        simp (disch := omega) only [hm.r, zL0, zL1, zL2, zL3, zL4, zL5, zL6, zL7, zL8, zL9, zL10, zL12, zL20, zL30, zL31, zL32, zL44, zL48, zL49, zL50, zL56, zL59, zL60, zL61, zL64, zL65, zL97, zL99, zL100, zL101, zL102, zL103, zL104, zL111, zL119, zL126, zL255, zL512, zL617, zL65535, zL65536, zL1048576, zlt, zle, zeq, ztn, zin, zzb, zadd, zmul, zm_lt, zm_gt, zm_le, zm_ge, zm_eq, zm_eq', zm_in, if_pos, if_neg, bI_s, bJ_s, bA_s, bU_s, if_true, if_false, reduceIte, or_true, true_or, or_false, false_or, and_true, true_and, and_false, false_and, not_true_eq_false, not_false_eq_true, Nat.reduceEqDiff, Nat.zero_ne_one, Nat.one_ne_zero, zsub, hl, eo, k_Mod_way_72_eq, k_Mod_way_77_eq, decide_eq_false c1, Option.isSome_some, Bool.false_or, Bool.true_and, ← hn]
def wyD (D : DD) (w : Nat) : DD := dS (dS (dS (dS D 63 (fun j => if 20 * w ≤ j ∧ j < 20 * w + D 55 18 then D 67 (j - 20 * w) - 48 else D 63 j)) 64 (dU (D 64) w (D 55 18))) 65 (dU (D 65) w 0)) 55 (dU (D 55) 18 0)
theorem wyD_ok (hd : okD D) {w : Nat} (hw : w < D 55 7) (h0 : 0 < D 55 18) (hall : ∀ j, j < D 55 18 → 48 ≤ D 67 j ∧ D 67 j < 56) (h20 : D 55 18 ≤ 20) (hl : lead D (D 55 18) 0 (D 60 w) = true) : okD (wyD D w) := by
  have w5 := hd.2.1.1
  refine ⟨okN_d hd.1 rfl rfl rfl rfl rfl rfl, ⟨w5, fun i hi => ?_⟩, ?_, okK_d hd.2.2.2 rfl rfl rfl rfl rfl rfl rfl rfl (Nat.le_refl _) rfl rfl rfl rfl rfl rfl⟩
  · have hi' : i < D 55 7 := hi
    obtain ⟨q1, q2, q3, q4, q5, q6, q7, q8, q9⟩ := hd.2.1.2 i hi'
    simp only [stp_d (D := D) (D' := wyD D w) rfl rfl rfl]
    have e63 : wyD D w 63 = fun j => if 20 * w ≤ j ∧ j < 20 * w + D 55 18 then D 67 (j - 20 * w) - 48 else D 63 j := rfl
    have e64 : wyD D w 64 = dU (D 64) w (D 55 18) := rfl
    have e65 : wyD D w 65 = dU (D 65) w 0 := rfl
    have e60 : wyD D w 60 = D 60 := rfl
    rw [e64, e65, e60]
    obtain ⟨l1, l2⟩ := lead_stp hl
    by_cases e : i = w
    · subst e
      rw [dU_s rfl, dU_s rfl]
      have g : ∀ k, k < D 55 18 → wyD D i 63 (20 * i + k) = D 67 k - 48 := fun k hk => by
        rw [e63]
        show (if 20 * i ≤ 20 * i + k ∧ 20 * i + k < 20 * i + D 55 18 then D 67 (20 * i + k - 20 * i) - 48 else D 63 (20 * i + k)) = _
        rw [if_pos (by omega), Nat.add_sub_cancel_left]
      refine ⟨q1, q2, q3, q4, h20, Nat.zero_le _, fun k hk => ?_, fun q => ?_, fun k hk => ?_⟩
      · rw [g k hk]; have := hall k hk; omega
      · rw [g 0 q]; exact l1 q
      · rw [g k (by omega), Nat.add_assoc, g (k + 1) hk]; exact l2 k (Nat.zero_le _) (by omega)
    · rw [dU_n e, dU_n e]
      have g : ∀ k, k < 20 → wyD D w 63 (20 * i + k) = D 63 (20 * i + k) := fun k hk => by
        rw [e63]
        show (if 20 * w ≤ 20 * i + k ∧ 20 * i + k < 20 * w + D 55 18 then D 67 (20 * i + k - 20 * w) - 48 else D 63 (20 * i + k)) = _
        rw [if_neg (by omega)]
      refine ⟨q1, q2, q3, q4, q5, q6, fun k hk => ?_, fun q => ?_, fun k hk => ?_⟩
      · rw [g k (by omega)]; exact q7 k hk
      · rw [g _ (by omega)]; exact q8 q
      · rw [g k (by omega), Nat.add_assoc, g (k + 1) (by omega), ← Nat.add_assoc]; exact q9 k hk
  · obtain ⟨s1, s2, s3, s4, s5, s6, s7⟩ := hd.2.2.1
    exact ⟨Nat.zero_le _, fun k hk => absurd hk (Nat.not_lt_zero k), s3, s4, s5, s6, s7⟩
theorem mo_wayPut (hm : RM D S) {w : Nat} (hw : w < 5) (hall : ∀ j, j < D 55 18 → 48 ≤ D 67 j ∧ D 67 j < 56) (h20 : D 55 18 ≤ 20) : ∃ S', k_Mod_way_97 (nI w) (nI 0) S = some (nI (D 55 18), S') ∧ RM (wyD D w) S' ∧ frM S S' := by
  obtain ⟨S1, e1, f1, b1⟩ := zfor (fun i S => k_Mod_way_97 (nI w) (nI i) S) (D 55 18) (fun i S1 => (∀ x k, x ≠ 63 → S1.1 x k = S.1 x k) ∧ ∀ j, S1.1 63 j = nI (if 20 * w ≤ j ∧ j < 20 * w + i then D 67 (j - 20 * w) - 48 else D 63 j)) (by
    intro i S1 hi ⟨f1, b1⟩
    have pi := hall i hi
    have a1 : S1.1 55 18 = nI (D 55 18) := by rw [f1 _ _ (by omega)]; exact hm.r 55 18 (by omega)
    have a2 : S1.1 67 i = nI (D 67 i) := by rw [f1 _ _ (by omega)]; exact hm.r 67 i (by omega)
    refine ⟨u1 S1 63 (20 * w + i) (nI (D 67 i - 48)), ?_, fun x k q => by rw [zuN (by omega), f1 x k q], fun k => ?_⟩
    · rw [k_Mod_way_97_eq]
      simp (disch := omega) only [zL0, zL1, zL2, zL3, zL4, zL5, zL6, zL7, zL8, zL9, zL10, zL12, zL20, zL30, zL31, zL32, zL44, zL48, zL49, zL50, zL56, zL59, zL60, zL61, zL64, zL65, zL97, zL99, zL100, zL101, zL102, zL103, zL104, zL111, zL119, zL126, zL255, zL512, zL617, zL65535, zL65536, zL1048576, zlt, zle, zeq, ztn, zin, zzb, zadd, zmul, zm_lt, zm_gt, zm_le, zm_ge, zm_eq, zm_eq', zm_in, if_pos, if_neg, bI_s, bJ_s, bA_s, bU_s, if_true, if_false, reduceIte, or_true, true_or, or_false, false_or, and_true, true_and, and_false, false_and, not_true_eq_false, not_false_eq_true, Nat.reduceEqDiff, Nat.zero_ne_one, Nat.one_ne_zero, a1, a2, zsub]
    · by_cases e : k = 20 * w + i
      · rw [zuS ⟨rfl, e⟩, if_pos (by omega), e, Nat.add_sub_cancel_left]
      · rw [zuN (by omega), b1 k]
        by_cases q : 20 * w ≤ k ∧ k < 20 * w + i
        · rw [if_pos q, if_pos (by omega)]
        · rw [if_neg q, if_neg (by omega)]) (D 55 18) 0 S (by omega) ⟨fun _ _ _ => rfl, fun j => by rw [if_neg (by omega)]; exact hm.r 63 j (by omega)⟩
  have a1 : S1.1 55 18 = nI (D 55 18) := by rw [f1 _ _ (by omega)]; exact hm.r 55 18 (by omega)
  refine ⟨u1 (u1 (u1 S1 64 w (nI (D 55 18))) 65 w (nI 0)) 55 18 (nI 0), ?_, fun a k q => ?_, fun a k q => by simp (disch := omega) only [zuS, zuN, zu2, zv1, zvS, zvN]; rw [f1 a k (by omega)]⟩
  · rw [e1, k_Mod_way_97_eq]
    simp (disch := omega) only [zL0, zL1, zL2, zL3, zL4, zL5, zL6, zL7, zL8, zL9, zL10, zL12, zL20, zL30, zL31, zL32, zL44, zL48, zL49, zL50, zL56, zL59, zL60, zL61, zL64, zL65, zL97, zL99, zL100, zL101, zL102, zL103, zL104, zL111, zL119, zL126, zL255, zL512, zL617, zL65535, zL65536, zL1048576, zlt, zle, zeq, ztn, zin, zzb, zadd, zmul, zm_lt, zm_gt, zm_le, zm_ge, zm_eq, zm_eq', zm_in, if_pos, if_neg, bI_s, bJ_s, bA_s, bU_s, if_true, if_false, reduceIte, or_true, true_or, or_false, false_or, and_true, true_and, and_false, false_and, not_true_eq_false, not_false_eq_true, Nat.reduceEqDiff, Nat.zero_ne_one, Nat.one_ne_zero, a1, zuS, zuN, zu2, zv1, zvS, zvN]
  · unfold wyD
    by_cases a55 : a = 55
    · subst a55
      rw [dS_s]
      by_cases k18 : k = 18
      · rw [zuS ⟨rfl, k18⟩, dU_s k18]
      · rw [zuN (by omega), zuN (by omega), zuN (by omega), dU_n k18, f1 _ _ (by omega)]; exact hm 55 k q
    rw [zuN (by omega), dS_n a55]
    by_cases a65 : a = 65
    · subst a65
      rw [dS_s]
      by_cases kw : k = w
      · rw [zuS ⟨rfl, kw⟩, dU_s kw]
      · rw [zuN (by omega), zuN (by omega), dU_n kw, f1 _ _ (by omega)]; exact hm 65 k q
    rw [zuN (by omega), dS_n a65]
    by_cases a64 : a = 64
    · subst a64
      rw [dS_s]
      by_cases kw : k = w
      · rw [zuS ⟨rfl, kw⟩, dU_s kw]
      · rw [zuN (by omega), dU_n kw, f1 _ _ (by omega)]; exact hm 64 k q
    rw [zuN (by omega), dS_n a64]
    by_cases a63 : a = 63
    · subst a63; exact b1 k
    · rw [dS_n a63, f1 _ _ a63]; exact hm a k q
theorem ct_readWay (hd : okD D) (hr : RC D S) {w : Nat} (hw : w < D 55 7) (hall : ∀ j, j < D 55 18 → 48 ≤ D 67 j ∧ D 67 j < 56) (h20 : D 55 18 ≤ 20) : ∃ S', f_Walker_readWay (17 + 2 * w) S = some S' ∧ (∀ x k, ¬ (x = 17 + 2 * w ∧ (k = 5 ∨ k = 6)) → ¬ (x = 18 + 2 * w ∧ k < D 55 18) → S'.1 x k = S.1 x k) ∧ S'.1 (17 + 2 * w) 5 = nI (D 55 18) ∧ S'.1 (17 + 2 * w) 6 = nI 0 ∧ ∀ k, k < D 55 18 → S'.1 (18 + 2 * w) k = nI (D 67 k - 48) := by
  have w5 := hd.2.1.1
  have wi5 := isW_i (show w < 5 by omega)
  obtain ⟨Sa, hSa⟩ : ∃ Sa, Sa = u1 (u1 S (17 + 2 * w) 5 (nI (D 55 18))) (17 + 2 * w) 6 (nI 0) := ⟨_, rfl⟩
  obtain ⟨S1, e1, f1, b1⟩ := zfor (fun i S => k_Walker_readWay_20 (17 + 2 * w) (nI i) S) (D 55 18) (fun i S1 => (∀ x k, ¬ (x = 18 + 2 * w ∧ k < D 55 18) → S1.1 x k = Sa.1 x k) ∧ ∀ j, j < i → S1.1 (18 + 2 * w) j = nI (D 67 j - 48)) (by
    intro i S1 hi ⟨f1, b1⟩
    have pi := hall i hi
    have a5 : S1.1 (17 + 2 * w) 5 = nI (D 55 18) := by rw [f1 _ _ (by omega), hSa]; simp (disch := omega) only [zuS, zuN, zu2, zv1, zvS, zvN]
    have hp1 : rPg D S1 := rPg_f hr.1 (fun a k q => by rw [f1 a k (by omega), hSa]; simp (disch := omega) only [zuS, zuN, zu2, zv1, zvS, zvN])
    have hat := ct_pageAt hp1 hd.2.2.1 hi
    refine ⟨u1 S1 (18 + 2 * w) i (nI (D 67 i - 48)), ?_, fun x k q => by rw [zuN (by omega), f1 x k q], fun j hj => ?_⟩
    · rw [k_Walker_readWay_20_eq wi5]
      simp (disch := omega) only [zL0, zL1, zL2, zL3, zL4, zL5, zL6, zL7, zL8, zL9, zL10, zL12, zL20, zL30, zL31, zL32, zL44, zL48, zL49, zL50, zL56, zL59, zL60, zL61, zL64, zL65, zL97, zL99, zL100, zL101, zL102, zL103, zL104, zL111, zL119, zL126, zL255, zL512, zL617, zL65535, zL65536, zL1048576, zlt, zle, zeq, ztn, zin, zzb, zadd, zmul, zm_lt, zm_gt, zm_le, zm_ge, zm_eq, zm_eq', zm_in, if_pos, if_neg, bI_s, bJ_s, bA_s, bU_s, if_true, if_false, reduceIte, or_true, true_or, or_false, false_or, and_true, true_and, and_false, false_and, not_true_eq_false, not_false_eq_true, Nat.reduceEqDiff, Nat.zero_ne_one, Nat.one_ne_zero, a5, hat, zsub, show 17 + 2 * w + 1 = 18 + 2 * w by omega]
    · by_cases e : j = i
      · rw [e, zuS ⟨rfl, rfl⟩]
      · rw [zuN (by omega), b1 j (by omega)]) (D 55 18) 0 Sa (by omega) ⟨fun _ _ _ => rfl, fun _ _ => by omega⟩
  have a5 : S1.1 (17 + 2 * w) 5 = nI (D 55 18) := by rw [f1 _ _ (by omega), hSa]; simp (disch := omega) only [zuS, zuN, zu2, zv1, zvS, zvN]
  refine ⟨S1, ?_, fun x k q1 q2 => by rw [f1 x k q2, hSa]; simp (disch := omega) only [zuS, zuN, zu2, zv1, zvS, zvN], a5, by rw [f1 _ _ (by omega), hSa]; simp (disch := omega) only [zuS, zuN, zu2, zv1, zvS, zvN], b1⟩
  rw [f_Walker_readWay_eq wi5, hr.1.1, zL20, zL0, if_neg (by rw [zlt (by omega) (by omega)]; omega), ← hSa, e1, k_Walker_readWay_20_eq wi5]
  simp (disch := omega) only [zL0, zL1, zL2, zL3, zL4, zL5, zL6, zL7, zL8, zL9, zL10, zL12, zL20, zL30, zL31, zL32, zL44, zL48, zL49, zL50, zL56, zL59, zL60, zL61, zL64, zL65, zL97, zL99, zL100, zL101, zL102, zL103, zL104, zL111, zL119, zL126, zL255, zL512, zL617, zL65535, zL65536, zL1048576, zlt, zle, zeq, ztn, zin, zzb, zadd, zmul, zm_lt, zm_gt, zm_le, zm_ge, zm_eq, zm_eq', zm_in, if_pos, if_neg, bI_s, bJ_s, bA_s, bU_s, if_true, if_false, reduceIte, or_true, true_or, or_false, false_or, and_true, true_and, and_false, false_and, not_true_eq_false, not_false_eq_true, Nat.reduceEqDiff, Nat.zero_ne_one, Nat.one_ne_zero, a5]
theorem ask_way (h : Inv c D S) (hc : c < 512) (x : Int32) : CAL c S (f_Top_way x) (f_Mod_way x) := by
  obtain ⟨hd, hr, hm, h4, h5, h6⟩ := id h
  have p50 := hd.2.2.1.1
  rcases ask_w hd hr hm x with ⟨i, hi, hi5, rfl, hat, hw⟩ | ⟨_, hat, hw⟩
  rotate_left
  · refine CAL_00 h hc (r := -nI 101) ?_ ?_
    · rw [f_Top_way_eq]; simp (disch := omega) only [hat, oc, zL0, zL1, zL2, zL3, zL4, zL5, zL6, zL7, zL8, zL9, zL10, zL12, zL20, zL30, zL31, zL32, zL44, zL48, zL49, zL50, zL56, zL59, zL60, zL61, zL64, zL65, zL97, zL99, zL100, zL101, zL102, zL103, zL104, zL111, zL119, zL126, zL255, zL512, zL617, zL65535, zL65536, zL1048576, zlt, zle, zeq, ztn, zin, zzb, zadd, zmul, zm_lt, zm_gt, zm_le, zm_ge, zm_eq, zm_eq', zm_in, if_pos, if_neg, bI_s, bJ_s, bA_s, bU_s, if_true, if_false, reduceIte, or_true, true_or, or_false, false_or, and_true, true_and, and_false, false_and, not_true_eq_false, not_false_eq_true, Nat.reduceEqDiff, Nat.zero_ne_one, Nat.one_ne_zero, k_Top_way_13_eq]
    · rw [f_Mod_way_eq]; simp (disch := omega) only [hw, zL0, zL1, zL2, zL3, zL4, zL5, zL6, zL7, zL8, zL9, zL10, zL12, zL20, zL30, zL31, zL32, zL44, zL48, zL49, zL50, zL56, zL59, zL60, zL61, zL64, zL65, zL97, zL99, zL100, zL101, zL102, zL103, zL104, zL111, zL119, zL126, zL255, zL512, zL617, zL65535, zL65536, zL1048576, zlt, zle, zeq, ztn, zin, zzb, zadd, zmul, zm_lt, zm_gt, zm_le, zm_ge, zm_eq, zm_eq', zm_in, if_pos, if_neg, bI_s, bJ_s, bA_s, bU_s, if_true, if_false, reduceIte, or_true, true_or, or_false, false_or, and_true, true_and, and_false, false_and, not_true_eq_false, not_false_eq_true, Nat.reduceEqDiff, Nat.zero_ne_one, Nat.one_ne_zero]
  have wi := hd.2.1.2 i hi
  have hle := dgs_le (pg := D 67) (D 55 18) 0
  by_cases c1 : dgs (D 67) (D 55 18) 0 = D 55 18 ∧ 0 < D 55 18
  rotate_left
  · refine CAL_0 h hc (r := -nI 103) ⟨S, ?_, frC_r S⟩ (fun S1 r1 m1 => ?_)
    · rw [f_Top_way_eq]
      by_cases z : D 55 18 = 0
      · simp (disch := omega) only [hat, oc, zL0, zL1, zL2, zL3, zL4, zL5, zL6, zL7, zL8, zL9, zL10, zL12, zL20, zL30, zL31, zL32, zL44, zL48, zL49, zL50, zL56, zL59, zL60, zL61, zL64, zL65, zL97, zL99, zL100, zL101, zL102, zL103, zL104, zL111, zL119, zL126, zL255, zL512, zL617, zL65535, zL65536, zL1048576, zlt, zle, zeq, ztn, zin, zzb, zadd, zmul, zm_lt, zm_gt, zm_le, zm_ge, zm_eq, zm_eq', zm_in, if_pos, if_neg, bI_s, bJ_s, bA_s, bU_s, if_true, if_false, reduceIte, or_true, true_or, or_false, false_or, and_true, true_and, and_false, false_and, not_true_eq_false, not_false_eq_true, Nat.reduceEqDiff, Nat.zero_ne_one, Nat.one_ne_zero, k_Top_way_16_eq (isW_i hi5), hr.1.1, k_Top_way_54_eq]
      · simp (disch := omega) only [hat, oc, zL0, zL1, zL2, zL3, zL4, zL5, zL6, zL7, zL8, zL9, zL10, zL12, zL20, zL30, zL31, zL32, zL44, zL48, zL49, zL50, zL56, zL59, zL60, zL61, zL64, zL65, zL97, zL99, zL100, zL101, zL102, zL103, zL104, zL111, zL119, zL126, zL255, zL512, zL617, zL65535, zL65536, zL1048576, zlt, zle, zeq, ztn, zin, zzb, zadd, zmul, zm_lt, zm_gt, zm_le, zm_ge, zm_eq, zm_eq', zm_in, if_pos, if_neg, bI_s, bJ_s, bA_s, bU_s, if_true, if_false, reduceIte, or_true, true_or, or_false, false_or, and_true, true_and, and_false, false_and, not_true_eq_false, not_false_eq_true, Nat.reduceEqDiff, Nat.zero_ne_one, Nat.one_ne_zero, k_Top_way_16_eq (isW_i hi5), hr.1.1, k_Top_way_54_eq, ct_digits hd.2.2.1 hr.1]
    · obtain ⟨S2, e2, f2, z2, y2⟩ := mo_readWay hd.2.2.1 m1
      have m2 := RM_N m1 f2
      have hw1 : f_Mod_isWalker (nI i) S1 = some (nI 1, S1) := by rw [mo_isWalker m1 hd.2.1.1 (by omega), if_pos hi]
      rw [if_neg c1] at y2
      refine ⟨S2, ?_, m2, frN_M f2⟩
      rw [f_Mod_way_eq]
      simp (disch := omega) only [hw1, zL0, zL1, zL2, zL3, zL4, zL5, zL6, zL7, zL8, zL9, zL10, zL12, zL20, zL30, zL31, zL32, zL44, zL48, zL49, zL50, zL56, zL59, zL60, zL61, zL64, zL65, zL97, zL99, zL100, zL101, zL102, zL103, zL104, zL111, zL119, zL126, zL255, zL512, zL617, zL65535, zL65536, zL1048576, zlt, zle, zeq, ztn, zin, zzb, zadd, zmul, zm_lt, zm_gt, zm_le, zm_ge, zm_eq, zm_eq', zm_in, if_pos, if_neg, bI_s, bJ_s, bA_s, bU_s, if_true, if_false, reduceIte, or_true, true_or, or_false, false_or, and_true, true_and, and_false, false_and, not_true_eq_false, not_false_eq_true, Nat.reduceEqDiff, Nat.zero_ne_one, Nat.one_ne_zero, e2, y2, m2.r]
      rw [k_Mod_way_30_eq]
      by_cases z : D 55 18 ≤ 0
      · simp (disch := omega) only [zL0, zL1, zL2, zL3, zL4, zL5, zL6, zL7, zL8, zL9, zL10, zL12, zL20, zL30, zL31, zL32, zL44, zL48, zL49, zL50, zL56, zL59, zL60, zL61, zL64, zL65, zL97, zL99, zL100, zL101, zL102, zL103, zL104, zL111, zL119, zL126, zL255, zL512, zL617, zL65535, zL65536, zL1048576, zlt, zle, zeq, ztn, zin, zzb, zadd, zmul, zm_lt, zm_gt, zm_le, zm_ge, zm_eq, zm_eq', zm_in, if_pos, if_neg, bI_s, bJ_s, bA_s, bU_s, if_true, if_false, reduceIte, or_true, true_or, or_false, false_or, and_true, true_and, and_false, false_and, not_true_eq_false, not_false_eq_true, Nat.reduceEqDiff, Nat.zero_ne_one, Nat.one_ne_zero, m2.r, k_Mod_way_87_eq]
      · simp (disch := omega) only [zL0, zL1, zL2, zL3, zL4, zL5, zL6, zL7, zL8, zL9, zL10, zL12, zL20, zL30, zL31, zL32, zL44, zL48, zL49, zL50, zL56, zL59, zL60, zL61, zL64, zL65, zL97, zL99, zL100, zL101, zL102, zL103, zL104, zL111, zL119, zL126, zL255, zL512, zL617, zL65535, zL65536, zL1048576, zlt, zle, zeq, ztn, zin, zzb, zadd, zmul, zm_lt, zm_gt, zm_le, zm_ge, zm_eq, zm_eq', zm_in, if_pos, if_neg, bI_s, bJ_s, bA_s, bU_s, if_true, if_false, reduceIte, or_true, true_or, or_false, false_or, and_true, true_and, and_false, false_and, not_true_eq_false, not_false_eq_true, Nat.reduceEqDiff, Nat.zero_ne_one, Nat.one_ne_zero, m2.r, k_Mod_way_87_eq]
  obtain ⟨hall0, h200⟩ := dgs_all (pg := D 67) (m := D 55 18) (k := 0) (by omega)
  have hall : ∀ j, j < D 55 18 → 48 ≤ D 67 j ∧ D 67 j < 56 := fun j hj => hall0 j (Nat.zero_le _) (by omega)
  have h20 : D 55 18 ≤ 20 := by have := h200 c1.2; omega
  have hcor := hr.cor i hi
  have tl := ct_leads hd hr hall (D 55 18) 0 (D 60 i) (by omega) wi.2.1
  have ml := fun S2 (m2 : RM D S2) => mo_leads (w := i) hd m2 hall (D 55 18) 0 (D 60 i) (by omega) wi.2.1
  cases cl : lead D (D 55 18) 0 (D 60 i)
  · rw [cl] at tl
    refine CAL_0 h hc (r := -nI 103) ⟨S, ?_, frC_r S⟩ (fun S1 r1 m1 => ?_)
    · rw [f_Top_way_eq]
      simp (disch := omega) only [hat, oc, zL0, zL1, zL2, zL3, zL4, zL5, zL6, zL7, zL8, zL9, zL10, zL12, zL20, zL30, zL31, zL32, zL44, zL48, zL49, zL50, zL56, zL59, zL60, zL61, zL64, zL65, zL97, zL99, zL100, zL101, zL102, zL103, zL104, zL111, zL119, zL126, zL255, zL512, zL617, zL65535, zL65536, zL1048576, zlt, zle, zeq, ztn, zin, zzb, zadd, zmul, zm_lt, zm_gt, zm_le, zm_ge, zm_eq, zm_eq', zm_in, if_pos, if_neg, bI_s, bJ_s, bA_s, bU_s, if_true, if_false, reduceIte, or_true, true_or, or_false, false_or, and_true, true_and, and_false, false_and, not_true_eq_false, not_false_eq_true, Nat.reduceEqDiff, Nat.zero_ne_one, Nat.one_ne_zero, k_Top_way_16_eq (isW_i hi5), hr.1.1, k_Top_way_54_eq, ct_digits hd.2.2.1 hr.1, hcor, f_Top_leadsOn_eq, tl, Bool.false_eq_true]
    · obtain ⟨S2, e2, f2, z2, y2⟩ := mo_readWay hd.2.2.1 m1
      have m2 := RM_N m1 f2
      have hw1 : f_Mod_isWalker (nI i) S1 = some (nI 1, S1) := by rw [mo_isWalker m1 hd.2.1.1 (by omega), if_pos hi]
      rw [if_pos c1] at y2
      have ml2 := ml S2 m2
      rw [cl] at ml2
      refine ⟨S2, ?_, m2, frN_M f2⟩
      rw [f_Mod_way_eq]
      simp (disch := omega) only [hw1, zL0, zL1, zL2, zL3, zL4, zL5, zL6, zL7, zL8, zL9, zL10, zL12, zL20, zL30, zL31, zL32, zL44, zL48, zL49, zL50, zL56, zL59, zL60, zL61, zL64, zL65, zL97, zL99, zL100, zL101, zL102, zL103, zL104, zL111, zL119, zL126, zL255, zL512, zL617, zL65535, zL65536, zL1048576, zlt, zle, zeq, ztn, zin, zzb, zadd, zmul, zm_lt, zm_gt, zm_le, zm_ge, zm_eq, zm_eq', zm_in, if_pos, if_neg, bI_s, bJ_s, bA_s, bU_s, if_true, if_false, reduceIte, or_true, true_or, or_false, false_or, and_true, true_and, and_false, false_and, not_true_eq_false, not_false_eq_true, Nat.reduceEqDiff, Nat.zero_ne_one, Nat.one_ne_zero, e2, y2, m2.r, ml2, k_Mod_way_87_eq, Bool.false_eq_true]
  · rw [cl] at tl
    have hd' := wyD_ok hd hi c1.2 hall h20 cl
    obtain ⟨S1, e1, f1, a5, a6, aw⟩ := ct_readWay hd hr hi hall h20
    obtain ⟨S2, hS2⟩ : ∃ S2, S2 = u1 S1 1 1 (nI 0) := ⟨_, rfl⟩
    have g2 : ∀ x k, ¬ (x = 1 ∧ k = 1) → ¬ (x = 17 + 2 * i ∧ (k = 5 ∨ k = 6)) → ¬ (x = 18 + 2 * i ∧ k < D 55 18) → S2.1 x k = S.1 x k := fun x k q0 q1 q2 => by rw [hS2, zuN q0, f1 x k q1 q2]
    have hr2 : RC (wyD D i) S2 := by
      refine ⟨⟨by rw [hS2]; exact zuS ⟨rfl, rfl⟩, fun k hk => absurd hk (Nat.not_lt_zero k)⟩, rNt_f (rNt_d hr.2.1 rfl rfl rfl rfl rfl rfl rfl) (fun a k q => g2 a k (by omega) (by omega) (by omega)), ⟨?_, fun j hj => ?_, fun j hj => ?_, fun j hj => ?_, fun j hj => ?_, fun j hj => ?_, fun j hj => ?_, fun j k hj hk => ?_⟩, rHp_f (rHp_d hr.2.2.2.1 rfl rfl) (fun a k q => g2 a k (by omega) (by omega) (by omega)), rTp_f (rTp_d hr.2.2.2.2.1 rfl rfl rfl rfl) (fun a k q => g2 a k (by omega) (by omega) (by omega)), rKp_f hd'.2.2.2 hd'.2.1.1 (rKp_d hr.2.2.2.2.2 rfl rfl rfl rfl rfl (fun _ _ => rfl) (fun _ _ => rfl) rfl rfl rfl rfl rfl rfl) (fun a k q => g2 a k (by omega) (by omega) (by omega))⟩
      · rw [g2 _ _ (by omega) (by omega) (by omega)]; exact hr.w
      · rw [g2 _ _ (by omega) (by omega) (by omega)]; exact hr.kind j hj
      · rw [g2 _ _ (by omega) (by omega) (by omega)]; exact hr.cor j hj
      · rw [g2 _ _ (by omega) (by omega) (by omega)]; exact hr.goal j hj
      · rw [g2 _ _ (by omega) (by omega) (by omega)]; exact hr.load j hj
      · show _ = nI (dU (D 64) i (D 55 18) j)
        by_cases e : j = i
        · rw [dU_s e, e, hS2, zuN (by omega)]; exact a5
        · rw [dU_n e, g2 _ _ (by omega) (by omega) (by omega)]; exact hr.wl j hj
      · show _ = nI (dU (D 65) i 0 j)
        by_cases e : j = i
        · rw [dU_s e, e, hS2, zuN (by omega)]; exact a6
        · rw [dU_n e, g2 _ _ (by omega) (by omega) (by omega)]; exact hr.wd j hj
      · have hk' : k < dU (D 64) i (D 55 18) j := hk
        have hj' : j < D 55 7 := hj
        show _ = nI (if 20 * i ≤ 20 * j + k ∧ 20 * j + k < 20 * i + D 55 18 then D 67 (20 * j + k - 20 * i) - 48 else D 63 (20 * j + k))
        by_cases e : j = i
        · rw [dU_s e] at hk'
          subst e
          rw [if_pos (by omega), Nat.add_sub_cancel_left, hS2, zuN (by omega)]; exact aw k hk'
        · rw [dU_n e] at hk'
          have hl := (hd.2.1.2 j hj').2.2.2.2.1
          rw [if_neg (by omega), g2 _ _ (by omega) (by omega) (by omega)]; exact hr.way j k hj hk'
    have hm2 : RM D S2 := RM_T hm (fun a k q => g2 a k (by omega) (by omega) (by omega))
    obtain ⟨S3, e3, f3, z3, y3⟩ := mo_readWay hd.2.2.1 hm2
    have m3 := RM_N hm2 f3
    rw [if_pos c1] at y3
    have ml3 := ml S3 m3
    rw [cl] at ml3
    obtain ⟨S4, e4, m4, f4⟩ := mo_wayPut m3 hi5 hall h20
    have hw2 : f_Mod_isWalker (nI i) S2 = some (nI 1, S2) := by rw [mo_isWalker hm2 hd.2.1.1 (by omega), if_pos hi]
    refine CAL_w (r := nI (D 55 18)) (S1 := S2) (S2 := S4) hc hd' ?_ hr2 ?_ (frM_t (frN_M f3) f4) m4 (by show D 55 6 ≤ c + 1; omega) (Nat.zero_le _)
    · rw [f_Top_way_eq]
      simp (disch := omega) only [hat, oc, zL0, zL1, zL2, zL3, zL4, zL5, zL6, zL7, zL8, zL9, zL10, zL12, zL20, zL30, zL31, zL32, zL44, zL48, zL49, zL50, zL56, zL59, zL60, zL61, zL64, zL65, zL97, zL99, zL100, zL101, zL102, zL103, zL104, zL111, zL119, zL126, zL255, zL512, zL617, zL65535, zL65536, zL1048576, zlt, zle, zeq, ztn, zin, zzb, zadd, zmul, zm_lt, zm_gt, zm_le, zm_ge, zm_eq, zm_eq', zm_in, if_pos, if_neg, bI_s, bJ_s, bA_s, bU_s, if_true, if_false, reduceIte, or_true, true_or, or_false, false_or, and_true, true_and, and_false, false_and, not_true_eq_false, not_false_eq_true, Nat.reduceEqDiff, Nat.zero_ne_one, Nat.one_ne_zero, k_Top_way_16_eq (isW_i hi5), hr.1.1, ct_digits hd.2.2.1 hr.1, hcor, f_Top_leadsOn_eq, tl, e1, zuS, zuN, zu2, zv1, zvS, zvN, a5, hS2]
    · rw [f_Mod_way_eq]
      simp (disch := omega) only [hw2, zL0, zL1, zL2, zL3, zL4, zL5, zL6, zL7, zL8, zL9, zL10, zL12, zL20, zL30, zL31, zL32, zL44, zL48, zL49, zL50, zL56, zL59, zL60, zL61, zL64, zL65, zL97, zL99, zL100, zL101, zL102, zL103, zL104, zL111, zL119, zL126, zL255, zL512, zL617, zL65535, zL65536, zL1048576, zlt, zle, zeq, ztn, zin, zzb, zadd, zmul, zm_lt, zm_gt, zm_le, zm_ge, zm_eq, zm_eq', zm_in, if_pos, if_neg, bI_s, bJ_s, bA_s, bU_s, if_true, if_false, reduceIte, or_true, true_or, or_false, false_or, and_true, true_and, and_false, false_and, not_true_eq_false, not_false_eq_true, Nat.reduceEqDiff, Nat.zero_ne_one, Nat.one_ne_zero, e3, y3, m3.r, ml3, k_Mod_way_87_eq, e4]
end RD
