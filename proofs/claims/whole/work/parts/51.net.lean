/-! a net is read -/
section NT
variable {c : Nat} {D : DD} {S : Mem}
theorem jfill {a0 n0 : Nat} (h0 : SH[a0]? = some (.inr (0, n0, none))) (hn : n0 < 1000) (x : Int32) {S : Mem} : ∃ S', f_JArr_fill a0 x S = some S' ∧ (∀ y k, y ≠ a0 → S'.1 y k = S.1 y k) ∧ S'.2 = S.2 ∧ (∀ k, S'.1 a0 k = if k < n0 then x else S.1 a0 k) := by
  obtain ⟨S1, e1, f1, g1, b1⟩ := zfor (fun i S => k_JArr_fill_5 a0 x (nI i) (Int32.ofNat n0) S) n0 (fun i S1 => (∀ y k, y ≠ a0 → S1.1 y k = S.1 y k) ∧ S1.2 = S.2 ∧ ∀ k, S1.1 a0 k = if k < i then x else S.1 a0 k) (by
    intro i S1 hi ⟨f1, g1, b1⟩
    refine ⟨u1 S1 a0 i x, ?_, fun y k q => by rw [zuN (by omega), f1 y k q], g1, fun k => ?_⟩
    · rw [k_JArr_fill_5_eq h0, show Int32.ofNat n0 = nI n0 from rfl]
      simp (disch := omega) only [zL0, zL1, zL2, zL3, zL4, zL5, zL6, zL7, zL8, zL9, zL10, zL12, zL20, zL30, zL31, zL32, zL44, zL48, zL49, zL50, zL56, zL59, zL60, zL61, zL64, zL65, zL97, zL99, zL100, zL101, zL102, zL103, zL104, zL111, zL119, zL126, zL255, zL512, zL617, zL65535, zL65536, zL1048576, zlt, zle, zeq, ztn, zin, zzb, zadd, zmul, zm_lt, zm_gt, zm_le, zm_ge, zm_eq, zm_eq', zm_in, if_pos, if_neg, bI_s, bJ_s, bA_s, bU_s, if_true, if_false, reduceIte, or_true, true_or, or_false, false_or, and_true, true_and, and_false, false_and, not_true_eq_false, not_false_eq_true, Nat.reduceEqDiff, Nat.zero_ne_one, Nat.one_ne_zero]
    · by_cases e : k = i
      · rw [zuS ⟨rfl, e⟩, if_pos (by omega)]
      · rw [zuN (by omega), b1 k]
        by_cases q : k < i
        · rw [if_pos q, if_pos (by omega)]
        · rw [if_neg q, if_neg (by omega)]) n0 0 S (by omega) ⟨fun _ _ _ => rfl, rfl, fun k => by rw [if_neg (by omega)]⟩
  refine ⟨S1, ?_, f1, g1, b1⟩
  rw [f_JArr_fill_eq h0, zL0, e1, k_JArr_fill_5_eq h0, show Int32.ofNat n0 = nI n0 from rfl]
  simp (disch := omega) only [zL0, zL1, zL2, zL3, zL4, zL5, zL6, zL7, zL8, zL9, zL10, zL12, zL20, zL30, zL31, zL32, zL44, zL48, zL49, zL50, zL56, zL59, zL60, zL61, zL64, zL65, zL97, zL99, zL100, zL101, zL102, zL103, zL104, zL111, zL119, zL126, zL255, zL512, zL617, zL65535, zL65536, zL1048576, zlt, zle, zeq, ztn, zin, zzb, zadd, zmul, zm_lt, zm_gt, zm_le, zm_ge, zm_eq, zm_eq', zm_in, if_pos, if_neg, bI_s, bJ_s, bA_s, bU_s, if_true, if_false, reduceIte, or_true, true_or, or_false, false_or, and_true, true_and, and_false, false_and, not_true_eq_false, not_false_eq_true, Nat.reduceEqDiff, Nat.zero_ne_one, Nat.one_ne_zero]
theorem nbool {v : Nat} (h : v ≤ 1) : vp_nar .boolean (nI v) = nI v := by
  match v, h with
  | 0, _ => rfl
  | 1, _ => rfl
def ntD (D : DD) (q : Qt) : DD := dS (dS (dS (dS (dS D 56 (fun k => if k < q.2.1 then q.2.2.1 k else D 56 k)) 57 (fun k => if k < q.2.1 then q.2.2.2.1 k else D 57 k)) 58 (fun k => if k < q.2.1 then q.2.2.2.2.1 k else D 58 k)) 66 (fun k => if k < 8 then 0 else D 66 k)) 55 (dU (dU (dU (dU (dU (dU (dU (D 55) 0 q.2.1) 4 q.2.2.2.2.2.1) 5 q.2.2.2.2.2.2) 6 (D 55 6 + 1)) 7 0) 16 0) 18 0)
theorem ntD_okN {q : Qt} (hq : okQ q) : okN (ntD D q) := by
  obtain ⟨h1, h2, h3, h4, h5, h6, h7, h8, h9⟩ := hq
  refine ⟨h2, h5, h6, fun k hk => ?_, fun j k hj hk => ?_⟩
  · have hk' : k < q.2.1 := hk
    show (if k < q.2.1 then q.2.2.1 k else D 56 k) < 8 ∧ (if k < q.2.1 then q.2.2.2.1 k else D 57 k) < 8 ∧ (if k < q.2.1 then q.2.2.1 k else D 56 k) ≠ (if k < q.2.1 then q.2.2.2.1 k else D 57 k) ∧ (if k < q.2.1 then q.2.2.2.2.1 k else D 58 k) ≤ 1
    simp only [if_pos hk']
    exact h7 k hk'
  · have hk' : k < q.2.1 := hk
    show ¬ (((if j < q.2.1 then q.2.2.1 j else D 56 j) = (if k < q.2.1 then q.2.2.1 k else D 56 k) ∧ (if j < q.2.1 then q.2.2.2.1 j else D 57 j) = (if k < q.2.1 then q.2.2.2.1 k else D 57 k)) ∨ ((if j < q.2.1 then q.2.2.1 j else D 56 j) = (if k < q.2.1 then q.2.2.2.1 k else D 57 k) ∧ (if j < q.2.1 then q.2.2.2.1 j else D 57 j) = (if k < q.2.1 then q.2.2.1 k else D 56 k)))
    simp only [if_pos hk', if_pos (show j < q.2.1 by omega)]
    exact h8 j k hj hk'
theorem ntD_56 {q : Qt} {k : Nat} (hk : k < q.2.1) : ntD D q 56 k = q.2.2.1 k := if_pos hk
theorem ntD_57 {q : Qt} {k : Nat} (hk : k < q.2.1) : ntD D q 57 k = q.2.2.2.1 k := if_pos hk
theorem ntD_58 {q : Qt} {k : Nat} (hk : k < q.2.1) : ntD D q 58 k = q.2.2.2.2.1 k := if_pos hk
theorem ntD_ok {q : Qt} (hd : okD D) (hq : okQ q) : okD (ntD D q) := by
  obtain ⟨s1, s2, s3, s4, s5, s6, s7⟩ := hd.2.2.1
  refine ⟨ntD_okN hq, ⟨Nat.zero_le _, fun i hi => absurd hi (Nat.not_lt_zero i)⟩, ⟨Nat.zero_le _, fun k hk => absurd hk (Nat.not_lt_zero k), fun k hk => ?_, s4, fun w => ?_, ?_, s7⟩, fun w => ?_⟩
  · show (if k < 8 then 0 else D 66 k) ≤ 99
    rw [if_pos hk]; exact Nat.zero_le _
  · have : D 55 6 + 1 = 0 := w
    omega
  · show D 55 43 ≤ D 55 6 + 1
    omega
  · have h2 : D 55 43 = D 55 6 + 1 := w.2
    omega
theorem mo_net (hs : okS D) (hm : RM D S) (hw : whl D) : ∃ S', f_Mod_net S = some (nI (rn (D 67) (D 55 18) 0 q0).2.2.1, S') ∧ RM (ntD D (rn (D 67) (D 55 18) 0 q0).2) S' ∧ frM S S' := by
  obtain ⟨Sb, e0, f0, _, h1, _⟩ := mr_readNet hs hm
  obtain ⟨z21, g2, g26, g27, ga, gb, gw⟩ := h1 hw
  have hqq := rn_ok (pg := D 67) (D 55 18) 0 q0 q0_ok
  have hmb := RM_N hm f0
  generalize (rn (D 67) (D 55 18) 0 q0).2 = q at *
  obtain ⟨k1, k2, k3, k4, k5, k6, k7, k8, k9⟩ := hqq
  obtain ⟨Sa, hSa⟩ : ∃ Sa, Sa = u1 Sb 55 0 (nI q.2.1) := ⟨_, rfl⟩
  have ra : ∀ x k, ¬ (x = 55 ∧ k = 0) → Sa.1 x k = Sb.1 x k := fun x k w => by rw [hSa, zuN w]
  obtain ⟨S1, e1, f1, p1⟩ := zfor (fun i S => k_Mod_net_24 (nI i) S) q.2.1 (fun i S1 => (∀ x k, x ≠ 56 → x ≠ 57 → x ≠ 58 → S1.1 x k = Sa.1 x k) ∧ ∀ j, S1.1 56 j = nI (if j < i then q.2.2.1 j else D 56 j) ∧ S1.1 57 j = nI (if j < i then q.2.2.2.1 j else D 57 j) ∧ S1.1 58 j = nI (if j < i then q.2.2.2.2.1 j else D 58 j)) (by
    intro i S1 hi ⟨f1, p1⟩
    have b0 : S1.1 68 i = nI (q.2.2.1 i) := by rw [f1 _ _ (by omega) (by omega) (by omega), ra _ _ (by omega)]; exact ga i (Or.inl hi)
    have b1 : S1.1 69 i = nI (q.2.2.2.1 i) := by rw [f1 _ _ (by omega) (by omega) (by omega), ra _ _ (by omega)]; exact gb i hi
    have b2 : S1.1 70 i = nI (q.2.2.2.2.1 i) := by rw [f1 _ _ (by omega) (by omega) (by omega), ra _ _ (by omega)]; exact gw i hi
    have b3 : S1.1 55 0 = nI q.2.1 := by rw [f1 _ _ (by omega) (by omega) (by omega), hSa, zuS ⟨rfl, rfl⟩]
    have bn := nbool (k7 i hi).2.2.2
    refine ⟨u1 (u1 (u1 S1 56 i (nI (q.2.2.1 i))) 57 i (nI (q.2.2.2.1 i))) 58 i (nI (q.2.2.2.2.1 i)), ?_, fun x k q0 q1 q2 => ?_, fun j => ?_⟩
    · rw [k_Mod_net_24_eq]
      simp (disch := omega) only [zL0, zL1, zL2, zL3, zL4, zL5, zL6, zL7, zL8, zL9, zL10, zL12, zL20, zL30, zL31, zL32, zL44, zL48, zL49, zL50, zL56, zL59, zL60, zL61, zL64, zL65, zL97, zL99, zL100, zL101, zL102, zL103, zL104, zL111, zL119, zL126, zL255, zL512, zL617, zL65535, zL65536, zL1048576, zlt, zle, zeq, ztn, zin, zzb, zadd, zmul, zm_lt, zm_gt, zm_le, zm_ge, zm_eq, zm_eq', zm_in, if_pos, if_neg, bI_s, bJ_s, bA_s, bU_s, if_true, if_false, reduceIte, or_true, true_or, or_false, false_or, and_true, true_and, and_false, false_and, not_true_eq_false, not_false_eq_true, Nat.reduceEqDiff, Nat.zero_ne_one, Nat.one_ne_zero, zuS, zuN, zu2, zv1, zvS, zvN, b0, b1, b2, b3, bn]
    · simp (disch := omega) only [zuS, zuN, zu2, zv1, zvS, zvN]; exact f1 x k q0 q1 q2
    · by_cases e : j = i
      · subst e
        refine ⟨?_, ?_, ?_⟩ <;> rw [if_pos (by omega)] <;> simp (disch := omega) only [zuS, zuN, zu2, zv1, zvS, zvN]
      · obtain ⟨c0, c1, c2⟩ := p1 j
        by_cases w : j < i
        · rw [if_pos w] at c0 c1 c2
          refine ⟨?_, ?_, ?_⟩ <;> rw [if_pos (by omega)] <;> simp (disch := omega) only [zuS, zuN, zu2, zv1, zvS, zvN]
          · exact c0
          · exact c1
          · exact c2
        · rw [if_neg w] at c0 c1 c2
          refine ⟨?_, ?_, ?_⟩ <;> rw [if_neg (by omega)] <;> simp (disch := omega) only [zuS, zuN, zu2, zv1, zvS, zvN]
          · exact c0
          · exact c1
          · exact c2) q.2.1 0 Sa (by omega) ⟨fun _ _ _ _ _ => rfl, fun j => by
        refine ⟨?_, ?_, ?_⟩ <;> rw [if_neg (by omega), ra _ _ (by omega)]
        · exact hmb.r 56 j (by omega)
        · exact hmb.r 57 j (by omega)
        · exact hmb.r 58 j (by omega)⟩
  have r1 : ∀ x k, x ≠ 56 → x ≠ 57 → x ≠ 58 → ¬ (x = 55 ∧ k = 0) → S1.1 x k = Sb.1 x k := fun x k w1 w2 w3 w4 => by rw [f1 x k w1 w2 w3, ra x k w4]
  have c26 : S1.1 55 26 = nI q.2.2.2.2.2.1 := by rw [r1 _ _ (by omega) (by omega) (by omega) (by omega)]; exact g26
  have c27 : S1.1 55 27 = nI q.2.2.2.2.2.2 := by rw [r1 _ _ (by omega) (by omega) (by omega) (by omega)]; exact g27
  have c6 : S1.1 55 6 = nI (D 55 6) := by rw [r1 _ _ (by omega) (by omega) (by omega) (by omega)]; exact hmb.r 55 6 (by omega)
  have c0 : S1.1 55 0 = nI q.2.1 := by rw [f1 _ _ (by omega) (by omega) (by omega), hSa, zuS ⟨rfl, rfl⟩]
  obtain ⟨Sc, hSc⟩ : ∃ Sc, Sc = u1 (u1 (u1 (u1 (u1 S1 55 4 (nI q.2.2.2.2.2.1)) 55 5 (nI q.2.2.2.2.2.2)) 55 6 (nI (D 55 6 + 1))) 55 7 (nI 0)) 55 16 (nI 0) := ⟨_, rfl⟩
  obtain ⟨S2, e2, f2, p2⟩ := zfor (fun i S => k_Mod_net_112 (nI i) S) 8 (fun i S2 => (∀ x k, x ≠ 66 → S2.1 x k = Sc.1 x k) ∧ ∀ j, S2.1 66 j = nI (if j < i then 0 else D 66 j)) (by
    intro i S2 hi ⟨f2, p2⟩
    refine ⟨u1 S2 66 i (nI 0), ?_, fun x k w => by rw [zuN (by omega), f2 x k w], fun j => ?_⟩
    · rw [k_Mod_net_112_eq]
      simp (disch := omega) only [zL0, zL1, zL2, zL3, zL4, zL5, zL6, zL7, zL8, zL9, zL10, zL12, zL20, zL30, zL31, zL32, zL44, zL48, zL49, zL50, zL56, zL59, zL60, zL61, zL64, zL65, zL97, zL99, zL100, zL101, zL102, zL103, zL104, zL111, zL119, zL126, zL255, zL512, zL617, zL65535, zL65536, zL1048576, zlt, zle, zeq, ztn, zin, zzb, zadd, zmul, zm_lt, zm_gt, zm_le, zm_ge, zm_eq, zm_eq', zm_in, if_pos, if_neg, bI_s, bJ_s, bA_s, bU_s, if_true, if_false, reduceIte, or_true, true_or, or_false, false_or, and_true, true_and, and_false, false_and, not_true_eq_false, not_false_eq_true, Nat.reduceEqDiff, Nat.zero_ne_one, Nat.one_ne_zero]
    · by_cases e : j = i
      · rw [zuS ⟨rfl, e⟩, if_pos (by omega)]
      · rw [zuN (by omega), p2 j]
        by_cases w : j < i
        · rw [if_pos w, if_pos (by omega)]
        · rw [if_neg w, if_neg (by omega)]) 8 0 Sc (by omega) ⟨fun _ _ _ => rfl, fun j => by rw [if_neg (by omega), hSc]; simp (disch := omega) only [zuS, zuN, zu2, zv1, zvS, zvN]; rw [r1 _ _ (by omega) (by omega) (by omega) (by omega)]; exact hmb.r 66 j (by omega)⟩
  have d0 : S2.1 55 0 = nI q.2.1 := by rw [f2 _ _ (by omega), hSc]; simp (disch := omega) only [zuS, zuN, zu2, zv1, zvS, zvN]; exact c0
  refine ⟨u1 S2 55 18 (nI 0), ?_, fun a k w => ?_, fun a k w => ?_⟩
  · rw [f_Mod_net_eq]
    simp (disch := omega) only [zL0, zL1, zL2, zL3, zL4, zL5, zL6, zL7, zL8, zL9, zL10, zL12, zL20, zL30, zL31, zL32, zL44, zL48, zL49, zL50, zL56, zL59, zL60, zL61, zL64, zL65, zL97, zL99, zL100, zL101, zL102, zL103, zL104, zL111, zL119, zL126, zL255, zL512, zL617, zL65535, zL65536, zL1048576, zlt, zle, zeq, ztn, zin, zzb, zadd, zmul, zm_lt, zm_gt, zm_le, zm_ge, zm_eq, zm_eq', zm_in, if_pos, if_neg, bI_s, bJ_s, bA_s, bU_s, if_true, if_false, reduceIte, or_true, true_or, or_false, false_or, and_true, true_and, and_false, false_and, not_true_eq_false, not_false_eq_true, Nat.reduceEqDiff, Nat.zero_ne_one, Nat.one_ne_zero, e0, z21, g2]
    rw [← hSa, e1, k_Mod_net_24_eq]
    simp (disch := omega) only [zL0, zL1, zL2, zL3, zL4, zL5, zL6, zL7, zL8, zL9, zL10, zL12, zL20, zL30, zL31, zL32, zL44, zL48, zL49, zL50, zL56, zL59, zL60, zL61, zL64, zL65, zL97, zL99, zL100, zL101, zL102, zL103, zL104, zL111, zL119, zL126, zL255, zL512, zL617, zL65535, zL65536, zL1048576, zlt, zle, zeq, ztn, zin, zzb, zadd, zmul, zm_lt, zm_gt, zm_le, zm_ge, zm_eq, zm_eq', zm_in, if_pos, if_neg, bI_s, bJ_s, bA_s, bU_s, if_true, if_false, reduceIte, or_true, true_or, or_false, false_or, and_true, true_and, and_false, false_and, not_true_eq_false, not_false_eq_true, Nat.reduceEqDiff, Nat.zero_ne_one, Nat.one_ne_zero, c0, c26, c27, c6]
    rw [← hSc, e2, k_Mod_net_112_eq]
    simp (disch := omega) only [zL0, zL1, zL2, zL3, zL4, zL5, zL6, zL7, zL8, zL9, zL10, zL12, zL20, zL30, zL31, zL32, zL44, zL48, zL49, zL50, zL56, zL59, zL60, zL61, zL64, zL65, zL97, zL99, zL100, zL101, zL102, zL103, zL104, zL111, zL119, zL126, zL255, zL512, zL617, zL65535, zL65536, zL1048576, zlt, zle, zeq, ztn, zin, zzb, zadd, zmul, zm_lt, zm_gt, zm_le, zm_ge, zm_eq, zm_eq', zm_in, if_pos, if_neg, bI_s, bJ_s, bA_s, bU_s, if_true, if_false, reduceIte, or_true, true_or, or_false, false_or, and_true, true_and, and_false, false_and, not_true_eq_false, not_false_eq_true, Nat.reduceEqDiff, Nat.zero_ne_one, Nat.one_ne_zero, d0]
  · unfold ntD
    by_cases a55 : a = 55
    · subst a55
      rw [dS_s]
      by_cases k18 : k = 18
      · rw [zuS ⟨rfl, k18⟩, dU_s k18]
      rw [zuN (by omega), dU_n k18, f2 _ _ (by omega), hSc]
      by_cases k16 : k = 16
      · rw [zuS ⟨rfl, k16⟩, dU_s k16]
      rw [zuN (by omega), dU_n k16]
      by_cases k77 : k = 7
      · rw [zuS ⟨rfl, k77⟩, dU_s k77]
      rw [zuN (by omega), dU_n k77]
      by_cases k66 : k = 6
      · rw [zuS ⟨rfl, k66⟩, dU_s k66]
      rw [zuN (by omega), dU_n k66]
      by_cases k55 : k = 5
      · rw [zuS ⟨rfl, k55⟩, dU_s k55]
      rw [zuN (by omega), dU_n k55]
      by_cases k44 : k = 4
      · rw [zuS ⟨rfl, k44⟩, dU_s k44]
      rw [zuN (by omega), dU_n k44]
      by_cases k00 : k = 0
      · rw [dU_s k00, k00]; exact c0
      rw [dU_n k00, r1 _ _ (by omega) (by omega) (by omega) (by omega)]
      exact hmb 55 k w
    rw [zuN (by omega), dS_n a55]
    by_cases a66 : a = 66
    · subst a66; exact p2 k
    rw [f2 _ _ a66, dS_n a66, hSc, zuN (by omega), zuN (by omega), zuN (by omega), zuN (by omega), zuN (by omega)]
    by_cases a58 : a = 58
    · subst a58; exact (p1 k).2.2
    by_cases a57 : a = 57
    · subst a57; exact (p1 k).2.1
    by_cases a56 : a = 56
    · subst a56; exact (p1 k).1
    rw [dS_n a58, dS_n a57, dS_n a56, r1 _ _ a56 a57 a58 (by omega)]
    exact hmb a k w
  · rw [zuN (by omega), f2 _ _ (by omega), hSc, zuN (by omega), zuN (by omega), zuN (by omega), zuN (by omega), zuN (by omega), r1 _ _ (by omega) (by omega) (by omega) (by omega), frN_M f0 a k w]
/-! the class's net out of its reader -/
theorem cn_joins2 {D : DD} {S : Mem} (hn : okN D) (hb : ∀ a b, a < 8 → b < 8 → S.1 11 (8 * a + b) = eo (ln D a b)) {a b : Nat} (ha : a < 8) (hbb : b < 8) : f_Net_joins (nI a) (nI b) S = some (nI (if adj D a b then 1 else 0), S) := by
  rw [f_Net_joins_eq]
  unfold adj
  have e1 := hb a b ha hbb
  cases e : ln D a b with
  | none =>
    rw [e] at e1
    simp (disch := omega) only [ct_isCorner, k_Net_joins_33_eq, k_Net_joins_34_eq, zL0, zL1, zL2, zL3, zL4, zL5, zL6, zL7, zL8, zL9, zL10, zL12, zL20, zL30, zL31, zL32, zL44, zL48, zL49, zL50, zL56, zL59, zL60, zL61, zL64, zL65, zL97, zL99, zL100, zL101, zL102, zL103, zL104, zL111, zL119, zL126, zL255, zL512, zL617, zL65535, zL65536, zL1048576, zlt, zle, zeq, ztn, zin, zzb, zadd, zmul, zm_lt, zm_gt, zm_le, zm_ge, zm_eq, zm_eq', zm_in, if_pos, if_neg, bI_s, bJ_s, bA_s, bU_s, if_true, if_false, reduceIte, or_true, true_or, or_false, false_or, and_true, true_and, and_false, false_and, not_true_eq_false, not_false_eq_true, Nat.reduceEqDiff, Nat.zero_ne_one, Nat.one_ne_zero, e1, eo, Option.isSome_none, Bool.false_eq_true]
  | some q =>
    rw [e] at e1
    have hq := ln_lt hn e
    simp (disch := omega) only [ct_isCorner, k_Net_joins_33_eq, k_Net_joins_34_eq, zL0, zL1, zL2, zL3, zL4, zL5, zL6, zL7, zL8, zL9, zL10, zL12, zL20, zL30, zL31, zL32, zL44, zL48, zL49, zL50, zL56, zL59, zL60, zL61, zL64, zL65, zL97, zL99, zL100, zL101, zL102, zL103, zL104, zL111, zL119, zL126, zL255, zL512, zL617, zL65535, zL65536, zL1048576, zlt, zle, zeq, ztn, zin, zzb, zadd, zmul, zm_lt, zm_gt, zm_le, zm_ge, zm_eq, zm_eq', zm_in, if_pos, if_neg, bI_s, bJ_s, bA_s, bU_s, if_true, if_false, reduceIte, or_true, true_or, or_false, false_or, and_true, true_and, and_false, false_and, not_true_eq_false, not_false_eq_true, Nat.reduceEqDiff, Nat.zero_ne_one, Nat.one_ne_zero, e1, eo, Option.isSome_some]
theorem stp_b {D : DD} {a b : Nat} : (decide (a = b) || adj D a b) = true ↔ stp D a b := by
  unfold stp
  simp only [Bool.or_eq_true, decide_eq_true_eq]
theorem sc_mono {D : DD} {a x : Nat} : ∀ {y : Nat}, x ≤ y → sc D a x ≤ sc D a y
  | 0, h => by rw [show x = 0 by omega]; exact Nat.le_refl _
  | y + 1, h => by
    by_cases e : x = y + 1
    · rw [e]; exact Nat.le_refl _
    · have := sc_mono (D := D) (a := a) (x := x) (y := y) (by omega)
      rw [sc]
      omega
theorem sc_lt {D : DD} {a x y : Nat} (h : x < y) (hs : stp D a x) : sc D a x < sc D a y := by
  have h1 := sc_mono (D := D) (a := a) (show x + 1 ≤ y by omega)
  rw [sc, if_pos (stp_b.mpr hs)] at h1
  omega
theorem cn_steps {D : DD} {S : Mem} (hn : okN D) (hb : ∀ a b, a < 8 → b < 8 → S.1 11 (8 * a + b) = eo (ln D a b)) : ∃ S', f_Net_listSteps S = some S' ∧ (∀ x k, x ≠ 12 → x ≠ 13 → S'.1 x k = S.1 x k) ∧ (∀ a, a < 8 → S'.1 13 a = nI (sc D a 8)) ∧ ∀ a b, a < 8 → b < 8 → stp D a b → S'.1 12 (8 * a + sc D a b) = nI b := by
  obtain ⟨S1, e1, f1, p1⟩ := zfor (fun i S => k_Net_listSteps_2 (nI i) S) 8 (fun i S1 => (∀ x k, x ≠ 12 → x ≠ 13 → S1.1 x k = S.1 x k) ∧ (∀ a, a < i → S1.1 13 a = nI (sc D a 8)) ∧ ∀ a b, a < i → b < 8 → stp D a b → S1.1 12 (8 * a + sc D a b) = nI b) (by
    intro i S1 hi ⟨f1, p1, r1⟩
    obtain ⟨S2, e2, f2, p2, r2⟩ := zfor (fun j S => k_Net_listSteps_17 (nI i) (nI j) S) 8 (fun j S2 => (∀ x k, ¬ (x = 12 ∧ 8 * i ≤ k ∧ k < 8 * i + 8) → ¬ (x = 13 ∧ k = i) → S2.1 x k = S1.1 x k) ∧ S2.1 13 i = nI (sc D i j) ∧ ∀ b, b < j → stp D i b → S2.1 12 (8 * i + sc D i b) = nI b) (by
      intro j S2 hj ⟨f2, p2, r2⟩
      have hle := sc_le D i j
      have hb2 : ∀ a b, a < 8 → b < 8 → S2.1 11 (8 * a + b) = eo (ln D a b) := fun a b ha hb' => by rw [f2 _ _ (by omega) (by omega), f1 _ _ (by omega) (by omega)]; exact hb a b ha hb'
      have hjn := cn_joins2 hn hb2 hi hj
      by_cases hs : stp D i j
      · refine ⟨u1 (u1 S2 12 (8 * i + sc D i j) (nI j)) 13 i (nI (sc D i j + 1)), ?_, fun x k q1 q2 => by rw [zuN (by omega), zuN (by omega), f2 x k q1 q2], ?_, fun b hb' hsb => ?_⟩
        · rw [k_Net_listSteps_17_eq]
          by_cases e : i = j
          · have hle' := hle
            subst e
            simp (disch := omega) only [zL0, zL1, zL2, zL3, zL4, zL5, zL6, zL7, zL8, zL9, zL10, zL12, zL20, zL30, zL31, zL32, zL44, zL48, zL49, zL50, zL56, zL59, zL60, zL61, zL64, zL65, zL97, zL99, zL100, zL101, zL102, zL103, zL104, zL111, zL119, zL126, zL255, zL512, zL617, zL65535, zL65536, zL1048576, zlt, zle, zeq, ztn, zin, zzb, zadd, zmul, zm_lt, zm_gt, zm_le, zm_ge, zm_eq, zm_eq', zm_in, if_pos, if_neg, bI_s, bJ_s, bA_s, bU_s, if_true, if_false, reduceIte, or_true, true_or, or_false, false_or, and_true, true_and, and_false, false_and, not_true_eq_false, not_false_eq_true, Nat.reduceEqDiff, Nat.zero_ne_one, Nat.one_ne_zero, k_Net_listSteps_37_eq, k_Net_listSteps_64_eq, p2, zuS, zuN, zu2, zv1, zvS, zvN]
          · have ha : adj D i j = true := by
              rcases hs with q | q
              · exact absurd q e
              · exact q
            rw [ha] at hjn
            simp (disch := omega) only [zL0, zL1, zL2, zL3, zL4, zL5, zL6, zL7, zL8, zL9, zL10, zL12, zL20, zL30, zL31, zL32, zL44, zL48, zL49, zL50, zL56, zL59, zL60, zL61, zL64, zL65, zL97, zL99, zL100, zL101, zL102, zL103, zL104, zL111, zL119, zL126, zL255, zL512, zL617, zL65535, zL65536, zL1048576, zlt, zle, zeq, ztn, zin, zzb, zadd, zmul, zm_lt, zm_gt, zm_le, zm_ge, zm_eq, zm_eq', zm_in, if_pos, if_neg, bI_s, bJ_s, bA_s, bU_s, if_true, if_false, reduceIte, or_true, true_or, or_false, false_or, and_true, true_and, and_false, false_and, not_true_eq_false, not_false_eq_true, Nat.reduceEqDiff, Nat.zero_ne_one, Nat.one_ne_zero, hjn, k_Net_listSteps_37_eq, k_Net_listSteps_64_eq, p2, zuS, zuN, zu2, zv1, zvS, zvN]
        · rw [zuS ⟨rfl, rfl⟩, sc, if_pos (stp_b.mpr hs)]
        · by_cases e : b = j
          · rw [e, zuN (by omega), zuS ⟨rfl, rfl⟩]
          · have hlt := sc_lt (D := D) (a := i) (show b < j by omega) hsb
            rw [zuN (by omega), zuN (by omega), r2 b (by omega) hsb]
      · have hne : i ≠ j := fun q => hs (Or.inl q)
        have ha : adj D i j = false := by
          cases e : adj D i j
          · rfl
          · exact absurd (Or.inr e) hs
        rw [ha] at hjn
        refine ⟨S2, ?_, f2, ?_, fun b hb' hsb => ?_⟩
        · rw [k_Net_listSteps_17_eq]
          simp (disch := omega) only [zL0, zL1, zL2, zL3, zL4, zL5, zL6, zL7, zL8, zL9, zL10, zL12, zL20, zL30, zL31, zL32, zL44, zL48, zL49, zL50, zL56, zL59, zL60, zL61, zL64, zL65, zL97, zL99, zL100, zL101, zL102, zL103, zL104, zL111, zL119, zL126, zL255, zL512, zL617, zL65535, zL65536, zL1048576, zlt, zle, zeq, ztn, zin, zzb, zadd, zmul, zm_lt, zm_gt, zm_le, zm_ge, zm_eq, zm_eq', zm_in, if_pos, if_neg, bI_s, bJ_s, bA_s, bU_s, if_true, if_false, reduceIte, or_true, true_or, or_false, false_or, and_true, true_and, and_false, false_and, not_true_eq_false, not_false_eq_true, Nat.reduceEqDiff, Nat.zero_ne_one, Nat.one_ne_zero, hjn, k_Net_listSteps_64_eq, Bool.false_eq_true]
        · rw [sc, if_neg (fun q => hs (stp_b.mp q))]; exact p2
        · by_cases e : b = j
          · rw [e] at hsb; exact absurd hsb hs
          · exact r2 b (by omega) hsb) 8 0 (u1 S1 13 i (nI 0)) (by omega) ⟨fun x k _ q2 => by rw [zuN q2], by rw [zuS ⟨rfl, rfl⟩]; rfl, fun _ _ => by omega⟩
    refine ⟨S2, ?_, fun x k q1 q2 => by rw [f2 x k (by omega) (by omega), f1 x k q1 q2], fun a ha => ?_, fun a b ha hb' hs => ?_⟩
    · rw [k_Net_listSteps_2_eq]
      simp (disch := omega) only [zL0, zL1, zL2, zL3, zL4, zL5, zL6, zL7, zL8, zL9, zL10, zL12, zL20, zL30, zL31, zL32, zL44, zL48, zL49, zL50, zL56, zL59, zL60, zL61, zL64, zL65, zL97, zL99, zL100, zL101, zL102, zL103, zL104, zL111, zL119, zL126, zL255, zL512, zL617, zL65535, zL65536, zL1048576, zlt, zle, zeq, ztn, zin, zzb, zadd, zmul, zm_lt, zm_gt, zm_le, zm_ge, zm_eq, zm_eq', zm_in, if_pos, if_neg, bI_s, bJ_s, bA_s, bU_s, if_true, if_false, reduceIte, or_true, true_or, or_false, false_or, and_true, true_and, and_false, false_and, not_true_eq_false, not_false_eq_true, Nat.reduceEqDiff, Nat.zero_ne_one, Nat.one_ne_zero]
      rw [e2, k_Net_listSteps_17_eq]
      simp (disch := omega) only [zL0, zL1, zL2, zL3, zL4, zL5, zL6, zL7, zL8, zL9, zL10, zL12, zL20, zL30, zL31, zL32, zL44, zL48, zL49, zL50, zL56, zL59, zL60, zL61, zL64, zL65, zL97, zL99, zL100, zL101, zL102, zL103, zL104, zL111, zL119, zL126, zL255, zL512, zL617, zL65535, zL65536, zL1048576, zlt, zle, zeq, ztn, zin, zzb, zadd, zmul, zm_lt, zm_gt, zm_le, zm_ge, zm_eq, zm_eq', zm_in, if_pos, if_neg, bI_s, bJ_s, bA_s, bU_s, if_true, if_false, reduceIte, or_true, true_or, or_false, false_or, and_true, true_and, and_false, false_and, not_true_eq_false, not_false_eq_true, Nat.reduceEqDiff, Nat.zero_ne_one, Nat.one_ne_zero]
    · by_cases e : a = i
      · rw [e]; exact p2
      · rw [f2 _ _ (by omega) (by omega), p1 a (by omega)]
    · by_cases e : a = i
      · subst e; exact r2 b hb' hs
      · have hle := sc_le D a b
        rw [f2 _ _ (by omega) (by omega), r1 a b (by omega) hb' hs]) 8 0 S (by omega) ⟨fun _ _ _ _ => rfl, fun _ _ => by omega, fun _ _ _ => by omega⟩
  refine ⟨S1, ?_, f1, p1.1, p1.2⟩
  rw [f_Net_listSteps_eq, zL0, e1, k_Net_listSteps_2_eq]
  simp (disch := omega) only [zL0, zL1, zL2, zL3, zL4, zL5, zL6, zL7, zL8, zL9, zL10, zL12, zL20, zL30, zL31, zL32, zL44, zL48, zL49, zL50, zL56, zL59, zL60, zL61, zL64, zL65, zL97, zL99, zL100, zL101, zL102, zL103, zL104, zL111, zL119, zL126, zL255, zL512, zL617, zL65535, zL65536, zL1048576, zlt, zle, zeq, ztn, zin, zzb, zadd, zmul, zm_lt, zm_gt, zm_le, zm_ge, zm_eq, zm_eq', zm_in, if_pos, if_neg, bI_s, bJ_s, bA_s, bU_s, if_true, if_false, reduceIte, or_true, true_or, or_false, false_or, and_true, true_and, and_false, false_and, not_true_eq_false, not_false_eq_true, Nat.reduceEqDiff, Nat.zero_ne_one, Nat.one_ne_zero]
theorem cn_become {q : Qt} {J : Nat} (hq : okQ q) (h : NR q J S) (D : DD) : ∃ S', f_Net_become S = some S' ∧ (∀ x k, x < 7 ∨ 13 < x → S'.1 x k = S.1 x k) ∧ rNt (ntD D q) S' := by
  have hokN := ntD_okN (D := D) hq
  obtain ⟨k1, k2, k3, k4, k5, k6, k7, k8, k9⟩ := hq
  obtain ⟨g6, g3, g4, g5, gJ, gj, ga, gb, gw, gt⟩ := h
  obtain ⟨Sa, hSa⟩ : ∃ Sa, Sa = u1 (u1 (u1 S 7 3 (nI q.2.1)) 7 4 (nI q.2.2.2.2.2.1)) 7 5 (nI q.2.2.2.2.2.2) := ⟨_, rfl⟩
  obtain ⟨Sb, eb, fb, _, pb⟩ := jfill (a0 := 11) (n0 := 64) rfl (by omega) (-nI 1) (S := Sa)
  have rb : ∀ x k, x ≠ 11 → ¬ (x = 7 ∧ (k = 3 ∨ k = 4 ∨ k = 5)) → Sb.1 x k = S.1 x k := fun x k w1 w2 => by rw [fb x k w1, hSa, zuN (by omega), zuN (by omega), zuN (by omega)]
  have b73 : Sb.1 7 3 = nI q.2.1 := by rw [fb _ _ (by omega), hSa]; simp (disch := omega) only [zuS, zuN, zu2, zv1, zvS, zvN]
  have b74 : Sb.1 7 4 = nI q.2.2.2.2.2.1 := by rw [fb _ _ (by omega), hSa]; simp (disch := omega) only [zuS, zuN, zu2, zv1, zvS, zvN]
  have b75 : Sb.1 7 5 = nI q.2.2.2.2.2.2 := by rw [fb _ _ (by omega), hSa]; simp (disch := omega) only [zuS, zuN, zu2, zv1, zvS, zvN]
  obtain ⟨S1, e1, f1, pa, pbb, pw, pm⟩ := zfor (fun i S => k_Net_become_34 (nI i) S) q.2.1 (fun i S1 => (∀ x k, x < 8 ∨ 11 < x → S1.1 x k = Sb.1 x k) ∧ (∀ j, j < i → S1.1 8 j = nI (q.2.2.1 j)) ∧ (∀ j, j < i → S1.1 9 j = nI (q.2.2.2.1 j)) ∧ (∀ j, j < i → S1.1 10 j = nI (q.2.2.2.2.1 j)) ∧ ∀ x y, x < 8 → y < 8 → (∃ k, k < i ∧ ((q.2.2.1 k = x ∧ q.2.2.2.1 k = y) ∨ (q.2.2.1 k = y ∧ q.2.2.2.1 k = x)) ∧ S1.1 11 (8 * x + y) = nI k) ∨ ((∀ k, k < i → ¬ ((q.2.2.1 k = x ∧ q.2.2.2.1 k = y) ∨ (q.2.2.1 k = y ∧ q.2.2.2.1 k = x))) ∧ S1.1 11 (8 * x + y) = -nI 1)) (by
    intro i S1 hi ⟨f1, pa, pbb, pw, pm⟩
    have b0 : S1.1 4 i = nI (q.2.2.1 i) := by rw [f1 _ _ (by omega), rb _ _ (by omega) (by omega)]; exact ga i (Or.inl hi)
    have b1 : S1.1 5 i = nI (q.2.2.2.1 i) := by rw [f1 _ _ (by omega), rb _ _ (by omega) (by omega)]; exact gb i hi
    have b2 : S1.1 6 i = nI (q.2.2.2.2.1 i) := by rw [f1 _ _ (by omega), rb _ _ (by omega) (by omega)]; exact gw i hi
    have b3 : S1.1 7 3 = nI q.2.1 := by rw [f1 _ _ (by omega)]; exact b73
    have h7 := k7 i hi
    have bn := nbool h7.2.2.2
    refine ⟨u1 (u1 (u1 (u1 (u1 S1 8 i (nI (q.2.2.1 i))) 9 i (nI (q.2.2.2.1 i))) 10 i (nI (q.2.2.2.2.1 i))) 11 (8 * q.2.2.1 i + q.2.2.2.1 i) (nI i)) 11 (8 * q.2.2.2.1 i + q.2.2.1 i) (nI i), ?_, fun x k w => ?_, fun j hj => ?_, fun j hj => ?_, fun j hj => ?_, fun x y hx hy => ?_⟩
    · rw [k_Net_become_34_eq]
      simp (disch := omega) only [zL0, zL1, zL2, zL3, zL4, zL5, zL6, zL7, zL8, zL9, zL10, zL12, zL20, zL30, zL31, zL32, zL44, zL48, zL49, zL50, zL56, zL59, zL60, zL61, zL64, zL65, zL97, zL99, zL100, zL101, zL102, zL103, zL104, zL111, zL119, zL126, zL255, zL512, zL617, zL65535, zL65536, zL1048576, zlt, zle, zeq, ztn, zin, zzb, zadd, zmul, zm_lt, zm_gt, zm_le, zm_ge, zm_eq, zm_eq', zm_in, if_pos, if_neg, bI_s, bJ_s, bA_s, bU_s, if_true, if_false, reduceIte, or_true, true_or, or_false, false_or, and_true, true_and, and_false, false_and, not_true_eq_false, not_false_eq_true, Nat.reduceEqDiff, Nat.zero_ne_one, Nat.one_ne_zero, zuS, zuN, zu2, zv1, zvS, zvN, b0, b1, b2, b3, bn]
    · simp (disch := omega) only [zuS, zuN, zu2, zv1, zvS, zvN]; exact f1 x k w
    · by_cases e : j = i
      · subst e; simp (disch := omega) only [zuS, zuN, zu2, zv1, zvS, zvN]
      · simp (disch := omega) only [zuS, zuN, zu2, zv1, zvS, zvN]; exact pa j (by omega)
    · by_cases e : j = i
      · subst e; simp (disch := omega) only [zuS, zuN, zu2, zv1, zvS, zvN]
      · simp (disch := omega) only [zuS, zuN, zu2, zv1, zvS, zvN]; exact pbb j (by omega)
    · by_cases e : j = i
      · subst e; simp (disch := omega) only [zuS, zuN, zu2, zv1, zvS, zvN]
      · simp (disch := omega) only [zuS, zuN, zu2, zv1, zvS, zvN]; exact pw j (by omega)
    · by_cases e1 : q.2.2.1 i = x ∧ q.2.2.2.1 i = y
      · refine Or.inl ⟨i, by omega, Or.inl e1, ?_⟩
        rw [zuN (by omega), zuS ⟨rfl, by omega⟩]
      · by_cases e2 : q.2.2.1 i = y ∧ q.2.2.2.1 i = x
        · refine Or.inl ⟨i, by omega, Or.inr e2, ?_⟩
          rw [zuS ⟨rfl, by omega⟩]
        · have same : (u1 (u1 (u1 (u1 (u1 S1 8 i (nI (q.2.2.1 i))) 9 i (nI (q.2.2.2.1 i))) 10 i (nI (q.2.2.2.2.1 i))) 11 (8 * q.2.2.1 i + q.2.2.2.1 i) (nI i)) 11 (8 * q.2.2.2.1 i + q.2.2.1 i) (nI i)).1 11 (8 * x + y) = S1.1 11 (8 * x + y) := by
            rw [zuN (by omega), zuN (by omega), zuN (by omega), zuN (by omega), zuN (by omega)]
          rw [same]
          rcases pm x y hx hy with ⟨k, w1, w2, w3⟩ | ⟨w1, w2⟩
          · exact Or.inl ⟨k, by omega, w2, w3⟩
          · refine Or.inr ⟨fun k hk => ?_, w2⟩
            by_cases e : k = i
            · rw [e]
              rintro (w | w)
              · exact e1 w
              · exact e2 w
            · exact w1 k (by omega)) q.2.1 0 Sb (by omega) ⟨fun _ _ _ => rfl, fun _ _ => by omega, fun _ _ => by omega, fun _ _ => by omega, fun x y hx hy => Or.inr ⟨fun k hk => absurd hk (Nat.not_lt_zero k), by rw [pb, if_pos (by omega)]⟩⟩
  have hbt : ∀ a b, a < 8 → b < 8 → S1.1 11 (8 * a + b) = eo (ln (ntD D q) a b) := by
    intro a b ha hb
    cases e : ln (ntD D q) a b with
    | none =>
      have hno := ln_none e
      rcases pm a b ha hb with ⟨k, w1, w2, w3⟩ | ⟨w1, w2⟩
      · have := hno k w1
        rw [ntD_56 w1, ntD_57 w1] at this
        exact absurd w2 this
      · exact w2
    | some l =>
      obtain ⟨l1, l2⟩ := ln_some e
      have l1' : l < q.2.1 := l1
      rw [ntD_56 l1', ntD_57 l1'] at l2
      rcases pm a b ha hb with ⟨k, w1, w2, w3⟩ | ⟨w1, w2⟩
      · have ekl : k = l := by
          rcases Nat.lt_trichotomy k l with c | c | c
          · exact absurd (show _ by omega) (k8 k l c l1')
          · exact c
          · exact absurd (show _ by omega) (k8 l k c w1)
        rw [w3, ekl]; rfl
      · exact absurd l2 (w1 l l1')
  obtain ⟨S2, e2, f2, p13, p12⟩ := cn_steps hokN hbt
  have c73 : S1.1 7 3 = nI q.2.1 := by rw [f1 _ _ (by omega)]; exact b73
  refine ⟨S2, ?_, fun x k w => ?_, ⟨?_, ?_, ?_, fun k hk => ?_, fun k hk => ?_, fun k hk => ?_, fun a b ha hb => ?_, fun _ => p13, fun _ => p12⟩⟩
  · rw [f_Net_become_eq, g3, g4, g5, show (-1 : Int32) = -nI 1 from rfl, ← hSa, eb, if_pos (by rw [zzb (by omega)]; exact k5), if_pos (by rw [zzb (by omega)]; exact k6), bU_s, zL0, e1, k_Net_become_34_eq]
    simp (disch := omega) only [zL0, zL1, zL2, zL3, zL4, zL5, zL6, zL7, zL8, zL9, zL10, zL12, zL20, zL30, zL31, zL32, zL44, zL48, zL49, zL50, zL56, zL59, zL60, zL61, zL64, zL65, zL97, zL99, zL100, zL101, zL102, zL103, zL104, zL111, zL119, zL126, zL255, zL512, zL617, zL65535, zL65536, zL1048576, zlt, zle, zeq, ztn, zin, zzb, zadd, zmul, zm_lt, zm_gt, zm_le, zm_ge, zm_eq, zm_eq', zm_in, if_pos, if_neg, bI_s, bJ_s, bA_s, bU_s, if_true, if_false, reduceIte, or_true, true_or, or_false, false_or, and_true, true_and, and_false, false_and, not_true_eq_false, not_false_eq_true, Nat.reduceEqDiff, Nat.zero_ne_one, Nat.one_ne_zero, c73, k_Net_become_134_eq, e2]
  · rw [f2 x k (by omega) (by omega), f1 x k (by omega), rb x k (by omega) (by omega)]
  · rw [f2 _ _ (by omega) (by omega)]; exact c73
  · rw [f2 _ _ (by omega) (by omega), f1 _ _ (by omega)]; exact b74
  · rw [f2 _ _ (by omega) (by omega), f1 _ _ (by omega)]; exact b75
  · have hk' : k < q.2.1 := hk
    rw [f2 _ _ (by omega) (by omega), pa k hk', ntD_56 hk']
  · have hk' : k < q.2.1 := hk
    rw [f2 _ _ (by omega) (by omega), pbb k hk', ntD_57 hk']
  · have hk' : k < q.2.1 := hk
    rw [f2 _ _ (by omega) (by omega), pw k hk', ntD_58 hk']
  · rw [f2 _ _ (by omega) (by omega)]; exact hbt a b ha hb
theorem ask_net (h : Inv c D S) (hc : c < 512) : CAL c S f_Top_net f_Mod_net := by
  obtain ⟨hd, hr, hm, h4, h5, h6⟩ := id h
  have p50 := hd.2.2.1.1
  obtain ⟨J, S1, e1, f1, n1⟩ := cr_readFrom hd.2.2.1 hr.1
  have hqq := rn_ok (pg := D 67) (D 55 18) 0 q0 q0_ok
  have hle := rn_le (pg := D 67) (D 55 18) 0 q0
  have hr1 : RC D S1 := RC_f hd hr (frR_C f1)
  have ew := cr_isWhole hqq n1
  by_cases hw : whl D
  rotate_left
  · refine CAL_0 h hc (r := -nI 103) ⟨S1, ?_, frR_C f1⟩ (fun S2 r2 m2 => ?_)
    · rw [f_Top_net_eq]
      by_cases w1 : (rn (D 67) (D 55 18) 0 q0).1 = D 55 18
      · rw [if_neg (fun q => hw ⟨w1, q.1, q.2⟩)] at ew
        simp (disch := omega) only [zL0, zL1, zL2, zL3, zL4, zL5, zL6, zL7, zL8, zL9, zL10, zL12, zL20, zL30, zL31, zL32, zL44, zL48, zL49, zL50, zL56, zL59, zL60, zL61, zL64, zL65, zL97, zL99, zL100, zL101, zL102, zL103, zL104, zL111, zL119, zL126, zL255, zL512, zL617, zL65535, zL65536, zL1048576, zlt, zle, zeq, ztn, zin, zzb, zadd, zmul, zm_lt, zm_gt, zm_le, zm_ge, zm_eq, zm_eq', zm_in, if_pos, if_neg, bI_s, bJ_s, bA_s, bU_s, if_true, if_false, reduceIte, or_true, true_or, or_false, false_or, and_true, true_and, and_false, false_and, not_true_eq_false, not_false_eq_true, Nat.reduceEqDiff, Nat.zero_ne_one, Nat.one_ne_zero, e1, hr1.1.1, ew, k_Top_net_31_eq]
      · simp (disch := omega) only [zL0, zL1, zL2, zL3, zL4, zL5, zL6, zL7, zL8, zL9, zL10, zL12, zL20, zL30, zL31, zL32, zL44, zL48, zL49, zL50, zL56, zL59, zL60, zL61, zL64, zL65, zL97, zL99, zL100, zL101, zL102, zL103, zL104, zL111, zL119, zL126, zL255, zL512, zL617, zL65535, zL65536, zL1048576, zlt, zle, zeq, ztn, zin, zzb, zadd, zmul, zm_lt, zm_gt, zm_le, zm_ge, zm_eq, zm_eq', zm_in, if_pos, if_neg, bI_s, bJ_s, bA_s, bU_s, if_true, if_false, reduceIte, or_true, true_or, or_false, false_or, and_true, true_and, and_false, false_and, not_true_eq_false, not_false_eq_true, Nat.reduceEqDiff, Nat.zero_ne_one, Nat.one_ne_zero, e1, hr1.1.1, k_Top_net_31_eq]
    · obtain ⟨S3, e3, f3, _, _, z3⟩ := mr_readNet hd.2.2.1 m2
      refine ⟨S3, ?_, RM_N m2 f3, frN_M f3⟩
      rw [f_Mod_net_eq]
      simp (disch := omega) only [zL0, zL1, zL2, zL3, zL4, zL5, zL6, zL7, zL8, zL9, zL10, zL12, zL20, zL30, zL31, zL32, zL44, zL48, zL49, zL50, zL56, zL59, zL60, zL61, zL64, zL65, zL97, zL99, zL100, zL101, zL102, zL103, zL104, zL111, zL119, zL126, zL255, zL512, zL617, zL65535, zL65536, zL1048576, zlt, zle, zeq, ztn, zin, zzb, zadd, zmul, zm_lt, zm_gt, zm_le, zm_ge, zm_eq, zm_eq', zm_in, if_pos, if_neg, bI_s, bJ_s, bA_s, bU_s, if_true, if_false, reduceIte, or_true, true_or, or_false, false_or, and_true, true_and, and_false, false_and, not_true_eq_false, not_false_eq_true, Nat.reduceEqDiff, Nat.zero_ne_one, Nat.one_ne_zero, e3, z3 hw]
  rw [if_pos ⟨hw.2.1, hw.2.2⟩] at ew
  obtain ⟨S2, e2, f2, r2⟩ := cn_become hqq n1 D
  obtain ⟨Sa, hSa⟩ : ∃ Sa, Sa = u1 (u1 S2 14 1 (nI 0)) 14 3 (nI 0) := ⟨_, rfl⟩
  obtain ⟨S3, e3, f3, _, p3⟩ := jfill (a0 := 16) (n0 := 8) rfl (by omega) (nI 0) (S := Sa)
  have rt : ∀ x k, ¬ (x = 14 ∧ (k = 1 ∨ k = 3)) → x ≠ 16 → S3.1 x k = S2.1 x k := fun x k w1 w2 => by rw [f3 x k w2, hSa, zuN (by omega), zuN (by omega)]
  have ee : f_Town_empty 14 S2 = some S3 := by
    rw [f_Town_empty_eq isT_14, zL0, ← hSa]
    simp (disch := omega) only [Nat.reduceAdd, e3, bU_s]
  have c10 : S3.1 0 10 = nI (D 55 6) := by rw [rt _ _ (by omega) (by omega), f2 _ _ (by omega)]; exact hr1.2.2.2.2.1.2.2.2.1
  have c73 : S3.1 7 3 = nI (rn (D 67) (D 55 18) 0 q0).2.2.1 := by rw [rt _ _ (by omega) (by omega)]; exact r2.1
  obtain ⟨S4, hS4⟩ : ∃ S4, S4 = u1 (u1 (u1 (u1 S3 1 1 (nI 0)) 0 8 (nI 1)) 0 9 (nI 0)) 0 10 (nI (D 55 6 + 1)) := ⟨_, rfl⟩
  have r4 : ∀ x k, ¬ (x = 1 ∧ k = 1) → ¬ (x = 0 ∧ (k = 8 ∨ k = 9 ∨ k = 10)) → S4.1 x k = S3.1 x k := fun x k w1 w2 => by rw [hS4, zuN (by omega), zuN (by omega), zuN (by omega), zuN (by omega)]
  have hd' := ntD_ok (q := (rn (D 67) (D 55 18) 0 q0).2) hd hqq
  have hnK : ¬ hasK (ntD D (rn (D 67) (D 55 18) 0 q0).2) := fun w => by
    have w2 : D 55 43 = D 55 6 + 1 := w.2
    have := hd.2.2.1.2.2.2.2.2.1
    omega
  have hr4 : RC (ntD D (rn (D 67) (D 55 18) 0 q0).2) S4 := by
    refine ⟨⟨by rw [hS4]; simp (disch := omega) only [zuS, zuN, zu2, zv1, zvS, zvN]; rfl, fun k hk => absurd hk (Nat.not_lt_zero k)⟩, rNt_f r2 (fun a k w => by rw [r4 a k (by omega) (by omega), rt a k (by omega) (by omega)]), ⟨?_, fun i hi => absurd hi (Nat.not_lt_zero i), fun i hi => absurd hi (Nat.not_lt_zero i), fun i hi => absurd hi (Nat.not_lt_zero i), fun i hi => absurd hi (Nat.not_lt_zero i), fun i hi => absurd hi (Nat.not_lt_zero i), fun i hi => absurd hi (Nat.not_lt_zero i), fun i k hi => absurd hi (Nat.not_lt_zero i)⟩, ⟨?_, fun k hk => ?_⟩, ⟨?_, fun w => absurd w hnK, fun _ => ?_, ?_, ?_⟩, fun w => absurd w hnK⟩
    · rw [r4 _ _ (by omega) (by omega), f3 _ _ (by omega), hSa]; simp (disch := omega) only [zuS, zuN, zu2, zv1, zvS, zvN]; rfl
    · rw [r4 _ _ (by omega) (by omega), f3 _ _ (by omega), hSa]; simp (disch := omega) only [zuS, zuN, zu2, zv1, zvS, zvN]; rfl
    · rw [r4 _ _ (by omega) (by omega), p3, if_pos hk]
      show nI 0 = nI (if k < 8 then 0 else D 66 k)
      rw [if_pos hk]
    · rw [hS4]; simp (disch := omega) only [zuS, zuN, zu2, zv1, zvS, zvN]; rfl
    · rw [hS4]; simp (disch := omega) only [zuS, zuN, zu2, zv1, zvS, zvN]
    · rw [hS4]; simp (disch := omega) only [zuS, zuN, zu2, zv1, zvS, zvN]; rfl
    · rw [r4 _ _ (by omega) (by omega), rt _ _ (by omega) (by omega), f2 _ _ (by omega)]; exact hr1.2.2.2.2.1.2.2.2.2
  have hm4 : RM D S4 := RM_T hm (fun a k w => by rw [r4 a k (by omega) (by omega), rt a k (by omega) (by omega), f2 a k (by omega), f1 a k (by omega)])
  obtain ⟨S5, e5, m5, f5⟩ := mo_net hd.2.2.1 hm4 hw
  refine CAL_w (r := nI (rn (D 67) (D 55 18) 0 q0).2.2.1) (S1 := S4) (S2 := S5) hc hd' ?_ hr4 e5 f5 m5 (by show D 55 6 + 1 ≤ c + 1; omega) (Nat.zero_le _)
  rw [f_Top_net_eq]
  have hw1 := hw.1
  simp (disch := omega) only [zL0, zL1, zL2, zL3, zL4, zL5, zL6, zL7, zL8, zL9, zL10, zL12, zL20, zL30, zL31, zL32, zL44, zL48, zL49, zL50, zL56, zL59, zL60, zL61, zL64, zL65, zL97, zL99, zL100, zL101, zL102, zL103, zL104, zL111, zL119, zL126, zL255, zL512, zL617, zL65535, zL65536, zL1048576, zlt, zle, zeq, ztn, zin, zzb, zadd, zmul, zm_lt, zm_gt, zm_le, zm_ge, zm_eq, zm_eq', zm_in, if_pos, if_neg, bI_s, bJ_s, bA_s, bU_s, if_true, if_false, reduceIte, or_true, true_or, or_false, false_or, and_true, true_and, and_false, false_and, not_true_eq_false, not_false_eq_true, Nat.reduceEqDiff, Nat.zero_ne_one, Nat.one_ne_zero, e1, hr1.1.1, ew, e2, ee, c10, c73, hS4]
end NT
