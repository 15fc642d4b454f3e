/-! the model's planner: its parts -/
theorem adj_iff {D : DD} {a b : Nat} : adj D a b = true ↔ ∃ j, j < D 55 0 ∧ ((D 56 j = a ∧ D 57 j = b) ∨ (D 56 j = b ∧ D 57 j = a)) := by
  unfold adj
  cases e : ln D a b with
  | none => exact ⟨fun q => (by cases q), fun ⟨j, h1, h2⟩ => absurd h2 (ln_none e j h1)⟩
  | some q => exact ⟨fun _ => ⟨q, ln_some e⟩, fun _ => rfl⟩
theorem dS_dS {D : DD} {a : Nat} {f f' : Nat → Nat} : dS (dS D a f) a f' = dS D a f' := by
  funext b
  unfold dS
  split <;> rfl
theorem tb_or {m b x : Nat} : (m ||| 2 ^ b).testBit x = true ↔ m.testBit x = true ∨ b = x := by
  rw [Nat.testBit_or, Bool.or_eq_true, Nat.testBit_two_pow, decide_eq_true_eq]
theorem or8 {m b : Nat} (hm : m < 256) (hb : b < 8) : m ||| 2 ^ b < 256 := Nat.or_lt_two_pow (n := 8) hm (Nat.pow_lt_pow_right (n := 8) (by decide) hb)
section MGO
variable {D : DD} {S : Mem}
theorem mo_layNear (hm : RM D S) (hn : okN D) : ∃ (S' : Mem) (m : Nat → Nat), f_Mod_layNear S = some S' ∧ (∀ a k, a ≠ 77 → S'.1 a k = S.1 a k) ∧ S'.2 = S.2 ∧ ∀ x, x < 8 → S'.1 77 x = nI (m x) ∧ m x < 256 ∧ ∀ b, b < 8 → ((m x).testBit b = true ↔ stp D x b) := by
  have n12 := hn.1
  obtain ⟨S1, e1, f1, g1, p1⟩ := zfor (fun i S => k_Mod_layNear_2 (nI i) S) 8 (fun i S1 => (∀ a k, a ≠ 77 → S1.1 a k = S.1 a k) ∧ S1.2 = S.2 ∧ ∀ x, x < i → S1.1 77 x = nI (2 ^ x)) (by
    intro i S1 hi ⟨f1, g1, p1⟩
    refine ⟨u1 S1 77 i (nI (2 ^ i)), ?_, fun a k a1 => by rw [zuN (by omega), f1 a k a1], g1, fun x hx => ?_⟩
    · rw [k_Mod_layNear_2_eq]
      simp (disch := omega) only [zL0, zL1, zL2, zL3, zL4, zL5, zL6, zL7, zL8, zL9, zL10, zL12, zL20, zL30, zL31, zL32, zL44, zL48, zL49, zL50, zL56, zL59, zL60, zL61, zL64, zL65, zL97, zL99, zL100, zL101, zL102, zL103, zL104, zL111, zL119, zL126, zL255, zL512, zL617, zL65535, zL65536, zL1048576, zlt, zle, zeq, ztn, zin, zzb, zadd, zmul, zm_lt, zm_gt, zm_le, zm_ge, zm_eq, zm_eq', zm_in, if_pos, if_neg, bI_s, bJ_s, bA_s, bU_s, if_true, if_false, reduceIte, or_true, true_or, or_false, false_or, and_true, true_and, and_false, false_and, not_true_eq_false, not_false_eq_true, Nat.reduceEqDiff, Nat.zero_ne_one, Nat.one_ne_zero, zsh]
    · by_cases c : x = i
      · rw [c, zuS ⟨rfl, rfl⟩]
      · rw [zuN (by omega), p1 x (by omega)]) 8 0 S (by omega) ⟨fun _ _ _ => rfl, rfl, fun x hx => by omega⟩
  obtain ⟨S2, e2, f2, g2, m, p2⟩ := zfor (fun i S => k_Mod_layNear_25 (nI i) S) (D 55 0) (fun i S2 => (∀ a k, a ≠ 77 → S2.1 a k = S.1 a k) ∧ S2.2 = S.2 ∧ ∃ m : Nat → Nat, ∀ x, x < 8 → S2.1 77 x = nI (m x) ∧ m x < 256 ∧ ∀ b, b < 8 → ((m x).testBit b = true ↔ (x = b ∨ ∃ j, j < i ∧ ((D 56 j = x ∧ D 57 j = b) ∨ (D 56 j = b ∧ D 57 j = x))))) (by
    intro i S2 hi ⟨f2, g2, m, p2⟩
    have hm2 : RM D S2 := RM_fr hm (fun a k q => f2 a k (by omega))
    obtain ⟨a8, b8, hab, _⟩ := hn.2.2.2.1 i hi
    obtain ⟨A, hA⟩ : ∃ A, A = D 56 i := ⟨_, rfl⟩
    obtain ⟨B, hB⟩ : ∃ B, B = D 57 i := ⟨_, rfl⟩
    have r56 := hm2.r 56 i (by omega)
    have r57 := hm2.r 57 i (by omega)
    have r0 := hm2.r 55 0 (by omega)
    rw [← hA] at a8 hab r56
    rw [← hB] at b8 hab r57
    obtain ⟨pa, la, qa⟩ := p2 A a8
    obtain ⟨pb, lb', qb⟩ := p2 B b8
    have la2 := or8 la b8
    have lb2 := or8 lb' a8
    refine ⟨u1 (u1 S2 77 A (nI (m A ||| 2 ^ B))) 77 B (nI (m B ||| 2 ^ A)), ?_, fun a k a1 => by rw [zuN (by omega), zuN (by omega), f2 a k a1], g2, fun x => if x = B then m B ||| 2 ^ A else if x = A then m A ||| 2 ^ B else m x, fun x hx => ?_⟩
    · have e7 : ∀ v, (u1 S2 77 A v).1 77 B = nI (m B) := fun v => by rw [zuN (by omega)]; exact pb
      rw [k_Mod_layNear_25_eq]
      simp (disch := omega) only [zL0, zL1, zL2, zL3, zL4, zL5, zL6, zL7, zL8, zL9, zL10, zL12, zL20, zL30, zL31, zL32, zL44, zL48, zL49, zL50, zL56, zL59, zL60, zL61, zL64, zL65, zL97, zL99, zL100, zL101, zL102, zL103, zL104, zL111, zL119, zL126, zL255, zL512, zL617, zL65535, zL65536, zL1048576, zlt, zle, zeq, ztn, zin, zzb, zadd, zmul, zm_lt, zm_gt, zm_le, zm_ge, zm_eq, zm_eq', zm_in, if_pos, if_neg, bI_s, bJ_s, bA_s, bU_s, if_true, if_false, reduceIte, or_true, true_or, or_false, false_or, and_true, true_and, and_false, false_and, not_true_eq_false, not_false_eq_true, Nat.reduceEqDiff, Nat.zero_ne_one, Nat.one_ne_zero, r0, r56, r57, pa, e7, zsh, zor]
    · have ex : ∀ b, (∃ j, j < i + 1 ∧ ((D 56 j = x ∧ D 57 j = b) ∨ (D 56 j = b ∧ D 57 j = x))) ↔ ((∃ j, j < i ∧ ((D 56 j = x ∧ D 57 j = b) ∨ (D 56 j = b ∧ D 57 j = x))) ∨ ((A = x ∧ B = b) ∨ (A = b ∧ B = x))) := fun b => by
        constructor
        · rintro ⟨j, hj, h⟩
          by_cases c : j = i
          · subst c; rw [hA, hB]; exact Or.inr h
          · exact Or.inl ⟨j, by omega, h⟩
        · rintro (⟨j, hj, h⟩ | h)
          · exact ⟨j, by omega, h⟩
          · rw [hA, hB] at h; exact ⟨i, by omega, h⟩
      dsimp only
      by_cases cB : x = B
      · rw [if_pos cB, cB, zuS ⟨rfl, rfl⟩]
        refine ⟨rfl, lb2, fun b hb => ?_⟩
        rw [tb_or, qb b hb, ← cB, ex b, cB]
        constructor
        · rintro ((h | h) | h)
          · exact Or.inl h
          · exact Or.inr (Or.inl h)
          · exact Or.inr (Or.inr (Or.inr ⟨h, rfl⟩))
        · rintro (h | h | h)
          · exact Or.inl (Or.inl h)
          · exact Or.inl (Or.inr h)
          · exact Or.inr (by omega)
      · rw [if_neg cB, zuN (by omega)]
        by_cases cA : x = A
        · rw [if_pos cA, cA, zuS ⟨rfl, rfl⟩]
          refine ⟨rfl, la2, fun b hb => ?_⟩
          rw [tb_or, qa b hb, ← cA, ex b, cA]
          constructor
          · rintro ((h | h) | h)
            · exact Or.inl h
            · exact Or.inr (Or.inl h)
            · exact Or.inr (Or.inr (Or.inl ⟨rfl, h⟩))
          · rintro (h | h | h)
            · exact Or.inl (Or.inl h)
            · exact Or.inl (Or.inr h)
            · exact Or.inr (by omega)
        · rw [if_neg cA, zuN (by omega)]
          obtain ⟨px, lx, qx⟩ := p2 x hx
          refine ⟨px, lx, fun b hb => ?_⟩
          rw [qx b hb, ex b]
          constructor
          · rintro (h | h)
            · exact Or.inl h
            · exact Or.inr (Or.inl h)
          · rintro (h | h | h)
            · exact Or.inl h
            · exact Or.inr h
            · exact absurd h (by omega)) (D 55 0) 0 S1 (by omega) ⟨f1, g1, fun x => 2 ^ x, fun x hx => ⟨p1 x hx, Nat.pow_lt_pow_right (n := 8) (by decide) hx, fun b hb => by
      rw [Nat.testBit_two_pow, decide_eq_true_eq]
      constructor
      · intro h; exact Or.inl h
      · rintro (h | ⟨j, hj, _⟩)
        · exact h
        · omega⟩⟩
  have hm2 : RM D S2 := RM_fr hm (fun a k q => f2 a k (by omega))
  refine ⟨S2, m, ?_, f2, g2, fun x hx => ⟨(p2 x hx).1, (p2 x hx).2.1, fun b hb => ?_⟩⟩
  · rw [f_Mod_layNear_eq, zL0, e1, k_Mod_layNear_2_eq]
    simp (disch := omega) only [zL0, zL1, zL2, zL3, zL4, zL5, zL6, zL7, zL8, zL9, zL10, zL12, zL20, zL30, zL31, zL32, zL44, zL48, zL49, zL50, zL56, zL59, zL60, zL61, zL64, zL65, zL97, zL99, zL100, zL101, zL102, zL103, zL104, zL111, zL119, zL126, zL255, zL512, zL617, zL65535, zL65536, zL1048576, zlt, zle, zeq, ztn, zin, zzb, zadd, zmul, zm_lt, zm_gt, zm_le, zm_ge, zm_eq, zm_eq', zm_in, if_pos, if_neg, bI_s, bJ_s, bA_s, bU_s, if_true, if_false, reduceIte, or_true, true_or, or_false, false_or, and_true, true_and, and_false, false_and, not_true_eq_false, not_false_eq_true, Nat.reduceEqDiff, Nat.zero_ne_one, Nat.one_ne_zero]
    rw [e2, k_Mod_layNear_25_eq]
    simp (disch := omega) only [zL0, zL1, zL2, zL3, zL4, zL5, zL6, zL7, zL8, zL9, zL10, zL12, zL20, zL30, zL31, zL32, zL44, zL48, zL49, zL50, zL56, zL59, zL60, zL61, zL64, zL65, zL97, zL99, zL100, zL101, zL102, zL103, zL104, zL111, zL119, zL126, zL255, zL512, zL617, zL65535, zL65536, zL1048576, zlt, zle, zeq, ztn, zin, zzb, zadd, zmul, zm_lt, zm_gt, zm_le, zm_ge, zm_eq, zm_eq', zm_in, if_pos, if_neg, bI_s, bJ_s, bA_s, bU_s, if_true, if_false, reduceIte, or_true, true_or, or_false, false_or, and_true, true_and, and_false, false_and, not_true_eq_false, not_false_eq_true, Nat.reduceEqDiff, Nat.zero_ne_one, Nat.one_ne_zero, hm2.r]
  · rw [(p2 x hx).2.2 b hb]
    unfold stp
    rw [adj_iff]
theorem mo_dig {q w : Nat} (hq : q < 512) (hw : w < 3) : (nI q >>> ((3 * nI w) &&& 31)) &&& 7 = nI (dq (tr q) w) := by
  have h3 : w = 0 ∨ w = 1 ∨ w = 2 := by omega
  obtain ⟨d0, d1, d2⟩ := dq_of (a := q % 8) (b := q / 8 % 8) (c := q / 64 % 8) (by omega) (by omega) (by omega)
  rw [tr_dq]
  rcases h3 with rfl | rfl | rfl
  · rw [d0]; simp (disch := omega) only [zL0, zL1, zL2, zL3, zL4, zL5, zL6, zL7, zL8, zL9, zL10, zL12, zL20, zL30, zL31, zL32, zL44, zL48, zL49, zL50, zL56, zL59, zL60, zL61, zL64, zL65, zL97, zL99, zL100, zL101, zL102, zL103, zL104, zL111, zL119, zL126, zL255, zL512, zL617, zL65535, zL65536, zL1048576, zmul, zshr, z7, Nat.reduceMul, Nat.reducePow, Nat.div_one]
  · rw [d1]; simp (disch := omega) only [zL0, zL1, zL2, zL3, zL4, zL5, zL6, zL7, zL8, zL9, zL10, zL12, zL20, zL30, zL31, zL32, zL44, zL48, zL49, zL50, zL56, zL59, zL60, zL61, zL64, zL65, zL97, zL99, zL100, zL101, zL102, zL103, zL104, zL111, zL119, zL126, zL255, zL512, zL617, zL65535, zL65536, zL1048576, zmul, zshr, z7, Nat.reduceMul, Nat.reducePow]
  · rw [d2]; simp (disch := omega) only [zL0, zL1, zL2, zL3, zL4, zL5, zL6, zL7, zL8, zL9, zL10, zL12, zL20, zL30, zL31, zL32, zL44, zL48, zL49, zL50, zL56, zL59, zL60, zL61, zL64, zL65, zL97, zL99, zL100, zL101, zL102, zL103, zL104, zL111, zL119, zL126, zL255, zL512, zL617, zL65535, zL65536, zL1048576, zmul, zshr, z7, Nat.reduceMul, Nat.reducePow]
def mcs (D : DD) (a : Nat) : Nat → Nat
  | 0 => 0
  | m + 1 => D a m * 8 ^ m + mcs D a m
theorem mcs_tr (hd : okD D) {a : Nat} (ha : a = 60 ∨ a = 61) (h1 : 1 ≤ D 55 7) (h3 : D 55 7 ≤ 3) : mcs D a (D 55 7) = tr (cdk D a 3) ∧ tr (cdk D a 3) < 8 ^ D 55 7 := by
  have a0 := cd_lt hd ha 0
  have a1 := cd_lt hd ha 1
  have a2 := cd_lt hd ha 2
  have e3 : cdk D a 3 = (cd D a 0 * 8 + cd D a 1) * 8 + cd D a 2 := by simp only [cdk]; omega
  refine ⟨?_, (im_tr h1 h3 (cdk_3 hd ha).1).mpr (cdk_im hd ha)⟩
  rw [e3, tr_dig a0 a1 a2]
  unfold cd
  have hW : D 55 7 = 1 ∨ D 55 7 = 2 ∨ D 55 7 = 3 := by omega
  rcases hW with e | e | e
  · rw [e]; simp only [mcs]; simp
  · rw [e]; simp only [mcs]; simp
  · rw [e]; simp only [mcs]; simp; omega
theorem mo_code1 (hd : okD D) (hm : RM D S) {v : Nat} (hv : v < 2) {m acc : Nat} (hmW : m < D 55 7) (ha : acc < 1000) : k_Mod_codeOf_9 (nI v) (nI acc) (nI m) S = k_Mod_codeOf_9 (nI v) (nI (8 * acc + D (60 + v) m)) (nI m - nI 1) S := by
  have w5 := hd.2.1.1
  have hv2 : v = 0 ∨ v = 1 := by omega
  have r60 := hm.r 60 m (by omega)
  have r61 := hm.r 61 m (by omega)
  have e := zm1 m
  rw [k_Mod_codeOf_9_eq, ← e]
  rcases hv2 with rfl | rfl
  · simp (disch := omega) only [zL0, zL1, zL2, zL3, zL4, zL5, zL6, zL7, zL8, zL9, zL10, zL12, zL20, zL30, zL31, zL32, zL44, zL48, zL49, zL50, zL56, zL59, zL60, zL61, zL64, zL65, zL97, zL99, zL100, zL101, zL102, zL103, zL104, zL111, zL119, zL126, zL255, zL512, zL617, zL65535, zL65536, zL1048576, zlt, zle, zeq, ztn, zin, zzb, zadd, zmul, zm_lt, zm_gt, zm_le, zm_ge, zm_eq, zm_eq', zm_in, if_pos, if_neg, bI_s, bJ_s, bA_s, bU_s, if_true, if_false, reduceIte, or_true, true_or, or_false, false_or, and_true, true_and, and_false, false_and, not_true_eq_false, not_false_eq_true, Nat.reduceEqDiff, Nat.zero_ne_one, Nat.one_ne_zero, k_Mod_codeOf_36_eq, r60]
  · simp (disch := omega) only [zL0, zL1, zL2, zL3, zL4, zL5, zL6, zL7, zL8, zL9, zL10, zL12, zL20, zL30, zL31, zL32, zL44, zL48, zL49, zL50, zL56, zL59, zL60, zL61, zL64, zL65, zL97, zL99, zL100, zL101, zL102, zL103, zL104, zL111, zL119, zL126, zL255, zL512, zL617, zL65535, zL65536, zL1048576, zlt, zle, zeq, ztn, zin, zzb, zadd, zmul, zm_lt, zm_gt, zm_le, zm_ge, zm_eq, zm_eq', zm_in, if_pos, if_neg, bI_s, bJ_s, bA_s, bU_s, if_true, if_false, reduceIte, or_true, true_or, or_false, false_or, and_true, true_and, and_false, false_and, not_true_eq_false, not_false_eq_true, Nat.reduceEqDiff, Nat.zero_ne_one, Nat.one_ne_zero, k_Mod_codeOf_36_eq, r61]
theorem mo_codeOf (hd : okD D) (hm : RM D S) (h1 : 1 ≤ D 55 7) (h3 : D 55 7 ≤ 3) {v : Nat} (hv : v < 2) : f_Mod_codeOf (nI v) S = some (nI (tr (cdk D (60 + v) 3)), S) := by
  have hv2 : v = 0 ∨ v = 1 := by omega
  rw [← (mcs_tr hd (a := 60 + v) (by omega) h1 h3).1, f_Mod_codeOf_eq, hm.r 55 7 (by omega)]
  have b8 : ∀ i, i < D 55 7 → D (60 + v) i < 8 := fun i hi => by
    have := hd.2.1.2 i hi
    rcases hv2 with rfl | rfl
    · exact this.2.1
    · exact this.2.2.1
  have fin : ∀ a, k_Mod_codeOf_9 (nI v) (nI a) (nI 0 - nI 1) S = some (nI a, S) := fun a => by
    rw [k_Mod_codeOf_9_eq, if_pos (by decide)]
  have hW : D 55 7 = 1 ∨ D 55 7 = 2 ∨ D 55 7 = 3 := by omega
  rcases hW with e | e | e
  · have b0 := b8 0 (by omega)
    rw [e, show nI 1 - 1 = nI 0 from by decide, zL0, mo_code1 hd hm hv (by omega) (by omega), fin]
    simp only [mcs]
    simp
  · have b0 := b8 0 (by omega)
    have b1 := b8 1 (by omega)
    rw [e, show nI 2 - 1 = nI 1 from by decide, zL0, mo_code1 hd hm hv (by omega) (by omega), show nI 1 - nI 1 = nI 0 from by decide, mo_code1 hd hm hv (by omega) (by omega), fin, show 8 * (8 * 0 + D (60 + v) 1) + D (60 + v) 0 = mcs D (60 + v) 2 by simp only [mcs]; omega]
  · have b0 := b8 0 (by omega)
    have b1 := b8 1 (by omega)
    have b2 := b8 2 (by omega)
    rw [e, show nI 3 - 1 = nI 2 from by decide, zL0, mo_code1 hd hm hv (by omega) (by omega), show nI 2 - nI 1 = nI 1 from by decide, mo_code1 hd hm hv (by omega) (by omega), show nI 1 - nI 1 = nI 0 from by decide, mo_code1 hd hm hv (by omega) (by omega), fin, show 8 * (8 * (8 * 0 + D (60 + v) 2) + D (60 + v) 1) + D (60 + v) 0 = mcs D (60 + v) 3 by simp only [mcs]; omega]
/-- a search's state: the masks stand, the walkers' corners are anything -/
def frS (S S' : Mem) : Prop := (∀ a k, ¬ (a = 60 ∧ k < 5) → a ≠ 71 → ¬ (a = 55 ∧ (k = 29 ∨ k = 30 ∨ k = 31)) → S'.1 a k = S.1 a k) ∧ S'.2 = S.2
theorem frS_r (S : Mem) : frS S S := ⟨fun _ _ _ _ _ => rfl, rfl⟩
theorem frS_t {S S' S'' : Mem} (h : frS S S') (h2 : frS S' S'') : frS S S'' := ⟨fun a k a1 a2 a3 => by rw [h2.1 a k a1 a2 a3, h.1 a k a1 a2 a3], h2.2.trans h.2⟩
def near (D : DD) (S : Mem) : Prop := ∃ m : Nat → Nat, ∀ x, x < 8 → S.1 77 x = nI (m x) ∧ m x < 256 ∧ ∀ b, b < 8 → ((m x).testBit b = true ↔ stp D x b)
theorem near_f {S' : Mem} (h : near D S) (e : ∀ k, S'.1 77 k = S.1 77 k) : near D S' := by
  obtain ⟨m, hm⟩ := h
  exact ⟨m, fun x hx => by rw [e]; exact hm x hx⟩
theorem ec_lay {D' : DD} (h3 : D 55 7 ≤ 3) (ho : ∀ a, a ≠ 60 → D' a = D a) {p r : Nat} {w : Nat → Nat} (h60 : ∀ i, i < D 55 7 → D' 60 i = dq p i) (hw : ∀ i, i < D 55 7 → w i = dq r i) : (lay D' (mp D') w).1 = 0 ↔ ec (nar D) (mpx D) p r 0 1 = false ∧ ec (nar D) (mpx D) p r 0 2 = false ∧ ec (nar D) (mpx D) p r 1 2 = false := by
  have hnar : ∀ a b, nar D' a b = nar D a b := fun a b => nar_row (ho 55 (by omega)) (ho 56 (by omega)) (ho 57 (by omega)) (ho 58 (by omega)) a b
  have hmp : mp D' = mp D := mp_row (ho 55 (by omega)) (ho 59 (by omega)) (ho 62 (by omega))
  have h55 := ho 55 (by omega)
  have hcl : ∀ i j, i < D 55 7 → j < D 55 7 → cl D' (mp D') w i j = ec (nar D) (mpx D) p r i j := fun i j hi hj => by
    unfold cl mt ec mpx
    rw [hmp, h55, decide_eq_true hi, decide_eq_true hj, h60 i hi, h60 j hj, hw i hi, hw j hj, hnar, if_pos ⟨hi, hj⟩, Bool.true_and, Bool.true_and]
  have hab : ∀ i j, ¬ (i < D 55 7 ∧ j < D 55 7) → ec (nar D) (mpx D) p r i j = false := fun i j h => by
    unfold ec mpx
    rw [if_neg h]
    simp
  have hpos := lb_pos (f := cl D' (mp D') w) (n := D' 55 7)
  rw [h55] at hpos
  unfold lay
  rw [h55]
  have key : ∀ i j, i < j → (lb (cl D' (mp D') w) (D 55 7)).1 = 0 → ec (nar D) (mpx D) p r i j = false := fun i j hij h => by
    by_cases c : i < D 55 7 ∧ j < D 55 7
    · rcases Bool.eq_false_or_eq_true (ec (nar D) (mpx D) p r i j) with q | q
      · have := hpos.mpr ⟨i, j, hij, c.2, by rw [hcl i j c.1 c.2]; exact q⟩
        omega
      · exact q
    · exact hab i j c
  constructor
  · intro h; exact ⟨key 0 1 (by omega) h, key 0 2 (by omega) h, key 1 2 (by omega) h⟩
  · rintro ⟨e1, e2, e3⟩
    by_cases c : 0 < (lb (cl D' (mp D') w) (D 55 7)).1
    · obtain ⟨a, b, hab', hb, hf⟩ := hpos.mp c
      rw [hcl a b (by omega) hb] at hf
      have : (a = 0 ∧ b = 1) ∨ (a = 0 ∧ b = 2) ∨ (a = 1 ∧ b = 2) := by omega
      rcases this with ⟨rfl, rfl⟩ | ⟨rfl, rfl⟩ | ⟨rfl, rfl⟩
      · rw [e1] at hf; cases hf
      · rw [e2] at hf; cases hf
      · rw [e3] at hf; cases hf
    · omega
theorem mo_mayGo (hd : okD D) (h1 : 1 ≤ D 55 7) (h3 : D 55 7 ≤ 3) (hn : near D S) (hR : ∃ f, RM (dS D 60 f) S) {q r : Nat} (hq : q < 8 ^ D 55 7) (hr : r < 8 ^ D 55 7) : ∃ S', f_Mod_mayGo (nI q) (nI r) S = some (nI (if Em D (nar D) (mpx D) q r then 1 else 0), S') ∧ frS S S' ∧ ∃ f, RM (dS D 60 f) S' := by
  have p8 := p8_le h3
  obtain ⟨f0, hR⟩ := hR
  obtain ⟨m, hm⟩ := hn
  have r7 : S.1 55 7 = nI (D 55 7) := hR.r 55 7 (by omega)
  have imq : im (D 55 7) (tr q) := (im_tr h1 h3 (tr_lt q)).mp (by rw [tr_tr (by omega)]; exact hq)
  have imr : im (D 55 7) (tr r) := (im_tr h1 h3 (tr_lt r)).mp (by rw [tr_tr (by omega)]; exact hr)
  have key : ∀ n w, w + n = D 55 7 → (∀ v, v < w → es D (tr q) (tr r) v = true) → ∃ S', k_Mod_mayGo_2 (nI q) (nI r) (nI w) S = some (nI (if Em D (nar D) (mpx D) q r then 1 else 0), S') ∧ frS S S' ∧ ∃ f, RM (dS D 60 f) S' := by
    intro n
    induction n with
    | zero =>
      intro w hw hes
      have hall : es D (tr q) (tr r) 0 = true ∧ es D (tr q) (tr r) 1 = true ∧ es D (tr q) (tr r) 2 = true := by
        have : ∀ v, v < 3 → es D (tr q) (tr r) v = true := fun v hv => by
          by_cases c : v < w
          · exact hes v c
          · exact (es_abs (by omega)).mpr (by rw [imq v (by omega) hv, imr v (by omega) hv])
        exact ⟨this 0 (by omega), this 1 (by omega), this 2 (by omega)⟩
      obtain ⟨S1, e1, f1, ⟨f, hf, gf⟩, p1⟩ := zfor (fun i S => k_Mod_mayGo_47 (nI q) (nI r) (nI i) S) (D 55 7) (fun i S1 => frS S S1 ∧ (∃ f, RM (dS D 60 f) S1 ∧ ∀ j, j < i → f j = dq (tr q) j) ∧ ∀ j, j < i → S1.1 71 j = nI (dq (tr r) j)) (by
        intro i S1 hi ⟨f1, ⟨f, hf, gf⟩, p1⟩
        have r7' : S1.1 55 7 = nI (D 55 7) := hf.r 55 7 (by omega)
        have dg1 := mo_dig (q := q) (w := i) (by omega) (by omega)
        have dg2 := mo_dig (q := r) (w := i) (by omega) (by omega)
        refine ⟨u1 (u1 S1 60 i (nI (dq (tr q) i))) 71 i (nI (dq (tr r) i)), ?_, ⟨fun a k a1 a2 a3 => by rw [zuN (by omega), zuN (by omega), f1.1 a k a1 a2 a3], f1.2⟩, ⟨dU f i (dq (tr q) i), ?_, fun j hj => ?_⟩, fun j hj => ?_⟩
        · rw [k_Mod_mayGo_47_eq, dg1, dg2]
          simp (disch := omega) only [zL0, zL1, zL2, zL3, zL4, zL5, zL6, zL7, zL8, zL9, zL10, zL12, zL20, zL30, zL31, zL32, zL44, zL48, zL49, zL50, zL56, zL59, zL60, zL61, zL64, zL65, zL97, zL99, zL100, zL101, zL102, zL103, zL104, zL111, zL119, zL126, zL255, zL512, zL617, zL65535, zL65536, zL1048576, zlt, zle, zeq, ztn, zin, zzb, zadd, zmul, zm_lt, zm_gt, zm_le, zm_ge, zm_eq, zm_eq', zm_in, if_pos, if_neg, bI_s, bJ_s, bA_s, bU_s, if_true, if_false, reduceIte, or_true, true_or, or_false, false_or, and_true, true_and, and_false, false_and, not_true_eq_false, not_false_eq_true, Nat.reduceEqDiff, Nat.zero_ne_one, Nat.one_ne_zero, r7']
        · have := RM_u1 hf (a := 60) (k := i) (v := dq (tr q) i)
          rw [dS_dS, dS_s] at this
          exact RM_x this (by omega)
        · by_cases c : j = i
          · rw [dU_s c, c]
          · rw [dU_n c]; exact gf j (by omega)
        · by_cases c : j = i
          · rw [c, zuS ⟨rfl, rfl⟩]
          · rw [zuN (by omega), zuN (by omega)]; exact p1 j (by omega)) (D 55 7) 0 S (by omega) ⟨frS_r S, ⟨f0, hR, fun j hj => by omega⟩, fun j hj => by omega⟩
      have ho : ∀ a, a ≠ 60 → dS D 60 f a = D a := fun a ha => dS_n ha
      have h55 := ho 55 (by omega)
      have hn' : okN (dS D 60 f) := okN_row hd.1 h55 (ho 56 (by omega)) (ho 57 (by omega)) (ho 58 (by omega))
      have h60 : ∀ i, i < D 55 7 → dS D 60 f 60 i = dq (tr q) i := fun i hi => by rw [dS_s]; exact gf i hi
      have hv : okV (dS D 60 f) := by
        have hvD := hd.2.1.v
        refine ⟨by rw [h55]; exact hvD.1, fun i hi => ?_⟩
        rw [h55] at hi
        obtain ⟨v1, v2, v3, v4⟩ := hvD.2 i hi
        rw [ho 59 (by omega), ho 61 (by omega), ho 62 (by omega), h60 i hi]
        exact ⟨v1, dq_lt _ _, v3, v4⟩
      have hst : ∀ i, i < dS D 60 f 55 7 → stp (dS D 60 f) (dS D 60 f 60 i) (dq (tr r) i) ∧ dq (tr r) i < 8 := fun i hi => by
        rw [h55] at hi
        refine ⟨?_, dq_lt _ _⟩
        rw [stp_row h55 (ho 56 (by omega)) (ho 57 (by omega)), h60 i hi]
        exact (es_stp hi).mp (hes i (by omega))
      obtain ⟨S2, e2, f2, _⟩ := mo_layBackV hf hn' hv (w := fun i => dq (tr r) i) (fun i hi => by rw [h55] at hi; exact p1 i hi) hst
      have hlay := ec_lay h3 ho (p := tr q) (r := tr r) (w := fun i => dq (tr r) i) h60 (fun i _ => rfl)
      have hr71 : S1.1 55 7 = nI (D 55 7) := hf.r 55 7 (by omega)
      have hlle := lb_le (f := cl (dS D 60 f) (mp (dS D 60 f)) (fun i => dq (tr r) i)) (n := dS D 60 f 55 7) (by rw [h55]; omega)
      have hlle2 : (lay (dS D 60 f) (mp (dS D 60 f)) (fun i => dq (tr r) i)).1 ≤ 10 := hlle
      refine ⟨S2, ?_, frS_t f1 ⟨fun a k a1 a2 a3 => f2.1 a k a3, f2.2⟩, f, RM_L hf f2⟩
      rw [show w = D 55 7 by omega, k_Mod_mayGo_2_eq, r7, if_pos (by rw [zle (by omega) (by omega)]; exact Nat.le_refl _), zL0, e1, k_Mod_mayGo_47_eq, hr71, if_pos (by rw [zle (by omega) (by omega)]; exact Nat.le_refl _), e2, bI_s]
      by_cases c : (lay (dS D 60 f) (mp (dS D 60 f)) (fun i => dq (tr r) i)).1 = 0
      · have hE : Em D (nar D) (mpx D) q r = true := EE_iff.mpr ⟨hall, hlay.mp c⟩
        rw [c, hE]
        simp (disch := omega) only [zL0, zL1, zL2, zL3, zL4, zL5, zL6, zL7, zL8, zL9, zL10, zL12, zL20, zL30, zL31, zL32, zL44, zL48, zL49, zL50, zL56, zL59, zL60, zL61, zL64, zL65, zL97, zL99, zL100, zL101, zL102, zL103, zL104, zL111, zL119, zL126, zL255, zL512, zL617, zL65535, zL65536, zL1048576, zlt, zle, zeq, ztn, zin, zzb, zadd, zmul, zm_lt, zm_gt, zm_le, zm_ge, zm_eq, zm_eq', zm_in, if_pos, if_neg, bI_s, bJ_s, bA_s, bU_s, if_true, if_false, reduceIte, or_true, true_or, or_false, false_or, and_true, true_and, and_false, false_and, not_true_eq_false, not_false_eq_true, Nat.reduceEqDiff, Nat.zero_ne_one, Nat.one_ne_zero, k_Mod_mayGo_101_eq]
      · have hE : Em D (nar D) (mpx D) q r = false := by
          rcases Bool.eq_false_or_eq_true (Em D (nar D) (mpx D) q r) with x | x
          · exact absurd (hlay.mpr (EE_iff.mp x).2) c
          · exact x
        rw [hE]
        simp (disch := omega) only [zL0, zL1, zL2, zL3, zL4, zL5, zL6, zL7, zL8, zL9, zL10, zL12, zL20, zL30, zL31, zL32, zL44, zL48, zL49, zL50, zL56, zL59, zL60, zL61, zL64, zL65, zL97, zL99, zL100, zL101, zL102, zL103, zL104, zL111, zL119, zL126, zL255, zL512, zL617, zL65535, zL65536, zL1048576, zlt, zle, zeq, ztn, zin, zzb, zadd, zmul, zm_lt, zm_gt, zm_le, zm_ge, zm_eq, zm_eq', zm_in, if_pos, if_neg, bI_s, bJ_s, bA_s, bU_s, if_true, if_false, reduceIte, or_true, true_or, or_false, false_or, and_true, true_and, and_false, false_and, not_true_eq_false, not_false_eq_true, Nat.reduceEqDiff, Nat.zero_ne_one, Nat.one_ne_zero, k_Mod_mayGo_101_eq, Bool.false_eq_true]
    | succ n ih =>
      intro w hw hes
      have hw3 : w < 3 := by omega
      have hwW : w < D 55 7 := by omega
      have dg1 := mo_dig (q := q) (w := w) (by omega) hw3
      have dg2 := mo_dig (q := r) (w := w) (by omega) hw3
      have l1 := dq_lt (tr q) w
      have l2 := dq_lt (tr r) w
      obtain ⟨m1, m2, m3⟩ := hm _ l1
      have hh : f_Mod_has (nI (m (dq (tr q) w))) (nI (dq (tr r) w)) S = _ := mo_has (by omega) (by omega)
      have hb := m3 _ l2
      rw [k_Mod_mayGo_2_eq, dg1, dg2]
      by_cases c : stp D (dq (tr q) w) (dq (tr r) w)
      · obtain ⟨S', e', rest⟩ := ih (w + 1) (by omega) (fun v hv => by
          by_cases x : v = w
          · rw [x]; exact (es_stp hwW).mpr c
          · exact hes v (by omega))
        refine ⟨S', ?_, rest⟩
        rw [hb.mpr c] at hh
        simp (disch := omega) only [zL0, zL1, zL2, zL3, zL4, zL5, zL6, zL7, zL8, zL9, zL10, zL12, zL20, zL30, zL31, zL32, zL44, zL48, zL49, zL50, zL56, zL59, zL60, zL61, zL64, zL65, zL97, zL99, zL100, zL101, zL102, zL103, zL104, zL111, zL119, zL126, zL255, zL512, zL617, zL65535, zL65536, zL1048576, zlt, zle, zeq, ztn, zin, zzb, zadd, zmul, zm_lt, zm_gt, zm_le, zm_ge, zm_eq, zm_eq', zm_in, if_pos, if_neg, bI_s, bJ_s, bA_s, bU_s, if_true, if_false, reduceIte, or_true, true_or, or_false, false_or, and_true, true_and, and_false, false_and, not_true_eq_false, not_false_eq_true, Nat.reduceEqDiff, Nat.zero_ne_one, Nat.one_ne_zero, r7, m1, hh, e']
      · have hbf : (m (dq (tr q) w)).testBit (dq (tr r) w) = false := by
          rcases Bool.eq_false_or_eq_true ((m (dq (tr q) w)).testBit (dq (tr r) w)) with x | x
          · exact absurd (hb.mp x) c
          · exact x
        have hE : Em D (nar D) (mpx D) q r = false := by
          rcases Bool.eq_false_or_eq_true (Em D (nar D) (mpx D) q r) with x | x
          · exfalso
            have x1 := (EE_iff.mp x).1
            have hes' : es D (tr q) (tr r) w = true := by
              have : w = 0 ∨ w = 1 ∨ w = 2 := by omega
              rcases this with rfl | rfl | rfl
              · exact x1.1
              · exact x1.2.1
              · exact x1.2.2
            exact c ((es_stp hwW).mp hes')
          · exact x
        refine ⟨S, ?_, frS_r S, f0, hR⟩
        rw [hbf] at hh
        rw [hE]
        simp (disch := omega) only [zL0, zL1, zL2, zL3, zL4, zL5, zL6, zL7, zL8, zL9, zL10, zL12, zL20, zL30, zL31, zL32, zL44, zL48, zL49, zL50, zL56, zL59, zL60, zL61, zL64, zL65, zL97, zL99, zL100, zL101, zL102, zL103, zL104, zL111, zL119, zL126, zL255, zL512, zL617, zL65535, zL65536, zL1048576, zlt, zle, zeq, ztn, zin, zzb, zadd, zmul, zm_lt, zm_gt, zm_le, zm_ge, zm_eq, zm_eq', zm_in, if_pos, if_neg, bI_s, bJ_s, bA_s, bU_s, if_true, if_false, reduceIte, or_true, true_or, or_false, false_or, and_true, true_and, and_false, false_and, not_true_eq_false, not_false_eq_true, Nat.reduceEqDiff, Nat.zero_ne_one, Nat.one_ne_zero, r7, m1, hh, Bool.false_eq_true]
  rw [f_Mod_mayGo_eq, zL0]
  exact key (D 55 7) 0 (by omega) (fun v hv => by omega)
end MGO
