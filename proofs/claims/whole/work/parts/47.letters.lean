/-! bytes of a long (the rows wb_ are the kit's starting text, BITS) -/
theorem wb_tb (n : Nat) : (lN n).toBitVec = BitVec.ofNat 64 n := rfl
theorem wb_inj {a b : Int64} (h : a.toBitVec = b.toBitVec) : a = b := Int64.toBitVec_inj.mp h
theorem wb_tn {n : Nat} (h : n < 2 ^ 64) : (lN n).toBitVec.toNat = n := by rw [wb_tb, BitVec.toNat_ofNat, Nat.mod_eq_of_lt h]
theorem wb_of (x : Int64) : ∃ n, n < 2 ^ 64 ∧ x = lN n := ⟨x.toBitVec.toNat, x.toBitVec.isLt, wb_inj (by rw [wb_tb]; simp)⟩
theorem wb_of32 (x : Int32) : ∃ n, n < 2 ^ 32 ∧ x = nI n := ⟨x.toBitVec.toNat, x.toBitVec.isLt, Int32.toBitVec_inj.mp (by show _ = BitVec.ofNat 32 _; simp)⟩
theorem wb_c : ∀ k, k < 64 → ((nI k).toInt64 &&& 63) = lN k := by decide +kernel
theorem wb_cu : ∀ k, k < 64 → ((nI k).toInt64.toUInt64 &&& Int64.toUInt64 63) = UInt64.ofNat k := by decide +kernel
theorem wb_sm : ∀ k, k < 64 → (BitVec.ofNat 64 k).smod 64 = BitVec.ofNat 64 k := by decide +kernel
theorem wb_pw {a b : Nat} (h : a ≤ b) : 2 ^ b = 2 ^ a * 2 ^ (b - a) := by rw [← Nat.pow_add]; congr 1; omega
theorem wb_lt2 {a b : Nat} (h : a < b) : 2 ^ a < 2 ^ b := Nat.pow_lt_pow_right (by decide) h
theorem wb_mod (n : Nat) : lN n = lN (n % 2 ^ 64) := wb_inj (by rw [wb_tb, wb_tb]; apply BitVec.eq_of_toNat_eq; rw [BitVec.toNat_ofNat, BitVec.toNat_ofNat, Nat.mod_mod])
theorem wb_shr {n k : Nat} (hn : n < 2 ^ 64) (hk : k < 64) : ((lN n).toUInt64 >>> ((nI k).toInt64.toUInt64 &&& Int64.toUInt64 63)).toInt64 = lN (n / 2 ^ k) := by
  rw [wb_cu k hk]
  apply wb_inj
  apply BitVec.eq_of_toNat_eq
  show ((lN n).toUInt64 >>> UInt64.ofNat k).toNat = (BitVec.ofNat 64 _).toNat
  have h1 : (UInt64.ofNat k).toNat = k := by
    show (BitVec.ofNat 64 k).toNat = k
    rw [BitVec.toNat_ofNat, Nat.mod_eq_of_lt (by omega)]
  have h2 : (lN n).toUInt64.toNat = n := wb_tn hn
  rw [UInt64.toNat_shiftRight, h1, h2, Nat.mod_eq_of_lt hk, Nat.shiftRight_eq_div_pow, BitVec.toNat_ofNat, Nat.mod_eq_of_lt (Nat.lt_of_le_of_lt (Nat.div_le_self _ _) hn)]
theorem wb_shl (n : Nat) {k : Nat} (hk : k < 64) : lN n <<< ((nI k).toInt64 &&& 63) = lN (n * 2 ^ k) := by
  rw [wb_c k hk]
  apply wb_inj
  rw [Int64.toBitVec_shiftLeft, wb_tb, wb_tb, wb_tb, wb_sm k hk]
  apply BitVec.eq_of_toNat_eq
  rw [BitVec.shiftLeft_eq', BitVec.toNat_shiftLeft, BitVec.toNat_ofNat, BitVec.toNat_ofNat, BitVec.toNat_ofNat, Nat.mod_eq_of_lt (show k < 2 ^ 64 by omega), Nat.shiftLeft_eq, Nat.mul_mod, Nat.mod_mod, ← Nat.mul_mod]
theorem wb_and {a b : Nat} (ha : a < 2 ^ 64) (hb : b < 2 ^ 64) : lN a &&& lN b = lN (a &&& b) := by
  apply wb_inj
  rw [Int64.toBitVec_and, wb_tb, wb_tb, wb_tb]
  apply BitVec.eq_of_toNat_eq
  rw [BitVec.toNat_and, BitVec.toNat_ofNat, BitVec.toNat_ofNat, BitVec.toNat_ofNat, Nat.mod_eq_of_lt ha, Nat.mod_eq_of_lt hb, Nat.mod_eq_of_lt (Nat.and_lt_two_pow _ hb)]
theorem wb_or {a b : Nat} (ha : a < 2 ^ 64) (hb : b < 2 ^ 64) : lN a ||| lN b = lN (a ||| b) := by
  apply wb_inj
  rw [Int64.toBitVec_or, wb_tb, wb_tb, wb_tb]
  apply BitVec.eq_of_toNat_eq
  rw [BitVec.toNat_or, BitVec.toNat_ofNat, BitVec.toNat_ofNat, BitVec.toNat_ofNat, Nat.mod_eq_of_lt ha, Nat.mod_eq_of_lt hb, Nat.mod_eq_of_lt (Nat.or_lt_two_pow ha hb)]
theorem wb_mask {n k : Nat} (hn : n < 2 ^ 64) (hk : k < 64) : lN n &&& lN (2 ^ k - 1) = lN (n % 2 ^ k) := by
  rw [wb_and hn (by have := wb_lt2 hk; omega), Nat.and_two_pow_sub_one_eq_mod]
theorem wb_a1 {n : Nat} (hn : n < 2 ^ 64) : lN n &&& 1 = lN (n % 2) := wb_mask (k := 1) hn (by decide)
theorem wb_bit {n k : Nat} (hn : n < 2 ^ 64) (hk : k < 64) : ((lN n).toUInt64 >>> ((nI k).toInt64.toUInt64 &&& Int64.toUInt64 63)).toInt64 &&& 1 = lN (n / 2 ^ k % 2) := by
  rw [wb_shr hn hk, wb_a1 (Nat.lt_of_le_of_lt (Nat.div_le_self _ _) hn)]
theorem by_low (x : Int32) : (x &&& 255).toInt8 = x.toInt8 := by
  apply Int8.toBitVec_inj.1
  apply BitVec.eq_of_getLsbD_eq
  intro i hi
  have h2 : (255 : Int32).toBitVec.getLsbD i = true := by
    have : ∀ j : Fin 8, (255 : Int32).toBitVec.getLsbD j.val = true := by decide +kernel
    exact this ⟨i, hi⟩
  show (BitVec.signExtend 8 (x.toBitVec &&& (255 : Int32).toBitVec)).getLsbD i = (BitVec.signExtend 8 x.toBitVec).getLsbD i
  rw [BitVec.getLsbD_signExtend, BitVec.getLsbD_signExtend, BitVec.getLsbD_and, h2, Bool.and_true]
  simp [show i < 32 by omega]
theorem by_small {n : Nat} (h : n < 128) : (nI n).toInt8.toInt32 = nI n := by
  have : ∀ j : Fin 128, (nI j.val).toInt8.toInt32 = nI j.val := by decide +kernel
  exact this ⟨n, h⟩
def bw (n i : Nat) : Nat := n / 2 ^ (8 * i) % 256
theorem bw_lt (n i : Nat) : bw n i < 256 := Nat.mod_lt _ (by decide)
theorem by_u {n i : Nat} (hn : n < 2 ^ 64) (hi : i < 8) : (((lN n).toUInt64 >>> ((nI (8 * i)).toInt64.toUInt64 &&& Int64.toUInt64 63)).toInt64 &&& 255).toInt32 = nI (bw n i) := by
  rw [wb_shr hn (by omega), show (255 : Int64) = lN (2 ^ 8 - 1) from rfl, wb_mask (Nat.lt_of_le_of_lt (Nat.div_le_self _ _) hn) (by omega), lN_i]
  rfl
theorem by_sh {n k : Nat} (hn : n < 2 ^ 64) (hk : k ≤ 56) : (lN n >>> ((nI k).toInt64 &&& 63)) &&& 255 = lN (n / 2 ^ k % 256) := by
  rw [wb_c k (by omega)]
  apply wb_inj
  rw [Int64.toBitVec_and, Int64.toBitVec_shiftRight, wb_tb, wb_tb, wb_tb, wb_sm k (by omega)]
  apply BitVec.eq_of_getLsbD_eq
  intro i hi
  rw [BitVec.getLsbD_and, BitVec.sshiftRight_eq', BitVec.toNat_ofNat, Nat.mod_eq_of_lt (show k < 2 ^ 64 by omega), BitVec.getLsbD_sshiftRight, BitVec.getLsbD_ofNat, BitVec.getLsbD_ofNat]
  have e255 : (255 : Int64).toBitVec.getLsbD i = decide (i < 8) := by
    have : ∀ j : Fin 64, (255 : Int64).toBitVec.getLsbD j.val = decide (j.val < 8) := by decide +kernel
    exact this ⟨i, hi⟩
  rw [e255, show n / 2 ^ k % 256 = n / 2 ^ k % 2 ^ 8 from rfl, Nat.testBit_mod_two_pow, Nat.testBit_div_two_pow]
  by_cases c : i < 8
  · simp [c, hi, show ¬ 64 ≤ i by omega, show k + i < 64 by omega, Nat.add_comm i k]
  · simp [c]
theorem by_s {n i : Nat} (hn : n < 2 ^ 64) (hi : i < 8) : ((lN n >>> ((nI (8 * i)).toInt64 &&& 63)) &&& 255).toInt32 = nI (bw n i) := by
  rw [by_sh hn (by omega), lN_i]
  rfl
theorem by_b {n i : Nat} (hn : n < 2 ^ 64) (hi : i < 8) (h : bw n i ≤ 126) : vp_nar .byte ((lN n >>> ((nI (8 * i)).toInt64 &&& 63)).toInt32).toInt8.toInt32 = nI (bw n i) := by
  have e := by_s hn hi
  rw [Int64.toInt32_and] at e
  rw [pk_vb, ← by_low, show (255 : Int32) = (255 : Int64).toInt32 from rfl, e]
  exact by_small (by omega)
theorem by_c {b : Nat} (h : b ≤ 126) : vp_nar .char ((nI b).toUInt32 % 65536).toInt32 = nI b := by
  rw [pk_vc, pk_char, pk_tn (by omega), Nat.mod_eq_of_lt (by omega)]
/-! letters -/
def lt (b : Nat → Nat) : Nat → Nat → Nat → Bool → Option Nat
  | 0, _, many, _ => some many
  | m + 1, i, many, e => if 126 < b i ∨ (e = true ∧ b i ≠ 0) then none else lt b m (i + 1) (if b i = 0 then many else many + 1) (e || decide (b i = 0))
theorem lt_le {b : Nat → Nat} : ∀ {m i many : Nat} {e : Bool} {t : Nat}, lt b m i many e = some t → many ≤ t ∧ t ≤ many + m
  | 0, _, many, _, t, h => by simp only [lt, Option.some.injEq] at h; omega
  | m + 1, i, many, e, t, h => by
    unfold lt at h
    split at h
    · cases h
    · have := lt_le h
      split at this <;> omega
theorem lt_end {b : Nat → Nat} : ∀ {m i many : Nat} {t : Nat}, lt b m i many true = some t → t = many
  | 0, _, many, t, h => by simp only [lt, Option.some.injEq] at h; omega
  | m + 1, i, many, t, h => by
    unfold lt at h
    split at h
    · cases h
    · next c =>
      have e0 : b i = 0 := by
        by_cases e : b i = 0
        · exact e
        · exact absurd (Or.inr ⟨rfl, e⟩) c
      rw [if_pos e0, Bool.true_or] at h
      exact lt_end h
theorem lt_ok {b : Nat → Nat} : ∀ {m i t : Nat}, lt b m i i false = some t → ∀ k, i ≤ k → k < t → 1 ≤ b k ∧ b k ≤ 126
  | 0, i, t, h, k, h1, h2 => by simp only [lt, Option.some.injEq] at h; omega
  | m + 1, i, t, h, k, h1, h2 => by
    unfold lt at h
    split at h
    · cases h
    · next c =>
      by_cases e0 : b i = 0
      · rw [if_pos e0, decide_eq_true e0, Bool.or_true] at h
        have := lt_end h
        omega
      · rw [if_neg e0, decide_eq_false e0, Bool.or_false] at h
        by_cases e : k = i
        · rw [e]
          refine ⟨by omega, ?_⟩
          have : ¬ 126 < b i := fun q => c (Or.inl q)
          omega
        · exact lt_ok h k (by omega) h2
section LE
variable {c : Nat} {D : DD} {S : Mem}
theorem ct_told {n : Nat} (hn : n < 2 ^ 64) : ∀ m i many (e : Bool), i + m = 8 → many ≤ i → k_Page_told_7 (lN n) (nI many) (nI (if e then 1 else 0)) (nI i) S = some (match lt (bw n) m i many e with | none => -nI 1 | some t => nI t, S) := by
  intro m
  induction m with
  | zero =>
    intro i many e hi hm
    rw [k_Page_told_7_eq]
    simp (disch := omega) only [zL0, zL1, zL2, zL3, zL4, zL5, zL6, zL7, zL8, zL9, zL10, zL12, zL20, zL30, zL31, zL32, zL44, zL48, zL49, zL50, zL56, zL59, zL60, zL61, zL64, zL65, zL97, zL99, zL100, zL101, zL102, zL103, zL104, zL111, zL119, zL126, zL255, zL512, zL617, zL65535, zL65536, zL1048576, zlt, zle, zeq, ztn, zin, zzb, zadd, zmul, zm_lt, zm_gt, zm_le, zm_ge, zm_eq, zm_eq', zm_in, if_pos, if_neg, bI_s, bJ_s, bA_s, bU_s, if_true, if_false, reduceIte, or_true, true_or, or_false, false_or, and_true, true_and, and_false, false_and, not_true_eq_false, not_false_eq_true, Nat.reduceEqDiff, Nat.zero_ne_one, Nat.one_ne_zero, lt]
  | succ m ih =>
    intro i many e hi hm
    have hb := bw_lt n i
    rw [k_Page_told_7_eq, lt]
    simp only [zL8, zmul, by_u hn (show i < 8 by omega)]
    cases e
    · by_cases c1 : 126 < bw n i
      · simp (disch := omega) only [zL0, zL1, zL2, zL3, zL4, zL5, zL6, zL7, zL8, zL9, zL10, zL12, zL20, zL30, zL31, zL32, zL44, zL48, zL49, zL50, zL56, zL59, zL60, zL61, zL64, zL65, zL97, zL99, zL100, zL101, zL102, zL103, zL104, zL111, zL119, zL126, zL255, zL512, zL617, zL65535, zL65536, zL1048576, zlt, zle, zeq, ztn, zin, zzb, zadd, zmul, zm_lt, zm_gt, zm_le, zm_ge, zm_eq, zm_eq', zm_in, if_pos, if_neg, bI_s, bJ_s, bA_s, bU_s, if_true, if_false, reduceIte, or_true, true_or, or_false, false_or, and_true, true_and, and_false, false_and, not_true_eq_false, not_false_eq_true, Nat.reduceEqDiff, Nat.zero_ne_one, Nat.one_ne_zero, k_Page_told_44_eq, Bool.false_eq_true]
      · by_cases c0 : bw n i = 0
        · have := ih (i + 1) many true (by omega) (by omega)
          simp (disch := omega) only [zL0, zL1, zL2, zL3, zL4, zL5, zL6, zL7, zL8, zL9, zL10, zL12, zL20, zL30, zL31, zL32, zL44, zL48, zL49, zL50, zL56, zL59, zL60, zL61, zL64, zL65, zL97, zL99, zL100, zL101, zL102, zL103, zL104, zL111, zL119, zL126, zL255, zL512, zL617, zL65535, zL65536, zL1048576, zlt, zle, zeq, ztn, zin, zzb, zadd, zmul, zm_lt, zm_gt, zm_le, zm_ge, zm_eq, zm_eq', zm_in, if_pos, if_neg, bI_s, bJ_s, bA_s, bU_s, if_true, if_false, reduceIte, or_true, true_or, or_false, false_or, and_true, true_and, and_false, false_and, not_true_eq_false, not_false_eq_true, Nat.reduceEqDiff, Nat.zero_ne_one, Nat.one_ne_zero, k_Page_told_44_eq, k_Page_told_46_eq, k_Page_told_59_eq, Bool.false_eq_true, c0, decide_true, Bool.or_true]
          simp (disch := omega) only [zL0, zL1, zL2, zL3, zL4, zL5, zL6, zL7, zL8, zL9, zL10, zL12, zL20, zL30, zL31, zL32, zL44, zL48, zL49, zL50, zL56, zL59, zL60, zL61, zL64, zL65, zL97, zL99, zL100, zL101, zL102, zL103, zL104, zL111, zL119, zL126, zL255, zL512, zL617, zL65535, zL65536, zL1048576, zlt, zle, zeq, ztn, zin, zzb, zadd, zmul, zm_lt, zm_gt, zm_le, zm_ge, zm_eq, zm_eq', zm_in, if_pos, if_neg, bI_s, bJ_s, bA_s, bU_s, if_true, if_false, reduceIte, or_true, true_or, or_false, false_or, and_true, true_and, and_false, false_and, not_true_eq_false, not_false_eq_true, Nat.reduceEqDiff, Nat.zero_ne_one, Nat.one_ne_zero] at this
          rw [this]
        · have := ih (i + 1) (many + 1) false (by omega) (by omega)
          simp (disch := omega) only [zL0, zL1, zL2, zL3, zL4, zL5, zL6, zL7, zL8, zL9, zL10, zL12, zL20, zL30, zL31, zL32, zL44, zL48, zL49, zL50, zL56, zL59, zL60, zL61, zL64, zL65, zL97, zL99, zL100, zL101, zL102, zL103, zL104, zL111, zL119, zL126, zL255, zL512, zL617, zL65535, zL65536, zL1048576, zlt, zle, zeq, ztn, zin, zzb, zadd, zmul, zm_lt, zm_gt, zm_le, zm_ge, zm_eq, zm_eq', zm_in, if_pos, if_neg, bI_s, bJ_s, bA_s, bU_s, if_true, if_false, reduceIte, or_true, true_or, or_false, false_or, and_true, true_and, and_false, false_and, not_true_eq_false, not_false_eq_true, Nat.reduceEqDiff, Nat.zero_ne_one, Nat.one_ne_zero, k_Page_told_44_eq, k_Page_told_46_eq, k_Page_told_59_eq, Bool.false_eq_true, decide_eq_false c0, Bool.or_false]
          simp (disch := omega) only [zL0, zL1, zL2, zL3, zL4, zL5, zL6, zL7, zL8, zL9, zL10, zL12, zL20, zL30, zL31, zL32, zL44, zL48, zL49, zL50, zL56, zL59, zL60, zL61, zL64, zL65, zL97, zL99, zL100, zL101, zL102, zL103, zL104, zL111, zL119, zL126, zL255, zL512, zL617, zL65535, zL65536, zL1048576, zlt, zle, zeq, ztn, zin, zzb, zadd, zmul, zm_lt, zm_gt, zm_le, zm_ge, zm_eq, zm_eq', zm_in, if_pos, if_neg, bI_s, bJ_s, bA_s, bU_s, if_true, if_false, reduceIte, or_true, true_or, or_false, false_or, and_true, true_and, and_false, false_and, not_true_eq_false, not_false_eq_true, Nat.reduceEqDiff, Nat.zero_ne_one, Nat.one_ne_zero, Bool.false_eq_true] at this
          rw [this]
    · by_cases c1 : 126 < bw n i
      · simp (disch := omega) only [zL0, zL1, zL2, zL3, zL4, zL5, zL6, zL7, zL8, zL9, zL10, zL12, zL20, zL30, zL31, zL32, zL44, zL48, zL49, zL50, zL56, zL59, zL60, zL61, zL64, zL65, zL97, zL99, zL100, zL101, zL102, zL103, zL104, zL111, zL119, zL126, zL255, zL512, zL617, zL65535, zL65536, zL1048576, zlt, zle, zeq, ztn, zin, zzb, zadd, zmul, zm_lt, zm_gt, zm_le, zm_ge, zm_eq, zm_eq', zm_in, if_pos, if_neg, bI_s, bJ_s, bA_s, bU_s, if_true, if_false, reduceIte, or_true, true_or, or_false, false_or, and_true, true_and, and_false, false_and, not_true_eq_false, not_false_eq_true, Nat.reduceEqDiff, Nat.zero_ne_one, Nat.one_ne_zero, k_Page_told_44_eq]
      · by_cases c0 : bw n i = 0
        · have := ih (i + 1) many true (by omega) (by omega)
          simp (disch := omega) only [zL0, zL1, zL2, zL3, zL4, zL5, zL6, zL7, zL8, zL9, zL10, zL12, zL20, zL30, zL31, zL32, zL44, zL48, zL49, zL50, zL56, zL59, zL60, zL61, zL64, zL65, zL97, zL99, zL100, zL101, zL102, zL103, zL104, zL111, zL119, zL126, zL255, zL512, zL617, zL65535, zL65536, zL1048576, zlt, zle, zeq, ztn, zin, zzb, zadd, zmul, zm_lt, zm_gt, zm_le, zm_ge, zm_eq, zm_eq', zm_in, if_pos, if_neg, bI_s, bJ_s, bA_s, bU_s, if_true, if_false, reduceIte, or_true, true_or, or_false, false_or, and_true, true_and, and_false, false_and, not_true_eq_false, not_false_eq_true, Nat.reduceEqDiff, Nat.zero_ne_one, Nat.one_ne_zero, k_Page_told_44_eq, k_Page_told_46_eq, k_Page_told_59_eq, c0, Bool.true_or]
          simp (disch := omega) only [zL0, zL1, zL2, zL3, zL4, zL5, zL6, zL7, zL8, zL9, zL10, zL12, zL20, zL30, zL31, zL32, zL44, zL48, zL49, zL50, zL56, zL59, zL60, zL61, zL64, zL65, zL97, zL99, zL100, zL101, zL102, zL103, zL104, zL111, zL119, zL126, zL255, zL512, zL617, zL65535, zL65536, zL1048576, zlt, zle, zeq, ztn, zin, zzb, zadd, zmul, zm_lt, zm_gt, zm_le, zm_ge, zm_eq, zm_eq', zm_in, if_pos, if_neg, bI_s, bJ_s, bA_s, bU_s, if_true, if_false, reduceIte, or_true, true_or, or_false, false_or, and_true, true_and, and_false, false_and, not_true_eq_false, not_false_eq_true, Nat.reduceEqDiff, Nat.zero_ne_one, Nat.one_ne_zero] at this
          rw [this]
        · rw [if_pos (Or.inr ⟨rfl, c0⟩)]
          simp (disch := omega) only [zL0, zL1, zL2, zL3, zL4, zL5, zL6, zL7, zL8, zL9, zL10, zL12, zL20, zL30, zL31, zL32, zL44, zL48, zL49, zL50, zL56, zL59, zL60, zL61, zL64, zL65, zL97, zL99, zL100, zL101, zL102, zL103, zL104, zL111, zL119, zL126, zL255, zL512, zL617, zL65535, zL65536, zL1048576, zlt, zle, zeq, ztn, zin, zzb, zadd, zmul, zm_lt, zm_gt, zm_le, zm_ge, zm_eq, zm_eq', zm_in, if_pos, if_neg, bI_s, bJ_s, bA_s, bU_s, if_true, if_false, reduceIte, or_true, true_or, or_false, false_or, and_true, true_and, and_false, false_and, not_true_eq_false, not_false_eq_true, Nat.reduceEqDiff, Nat.zero_ne_one, Nat.one_ne_zero, k_Page_told_44_eq]
theorem mo_told {n : Nat} (hn : n < 2 ^ 64) : ∀ m i many (e : Bool), i + m = 8 → many ≤ i → k_Mod_letters_8 (lN n) (nI many) (nI (if e then 1 else 0)) (nI i) S = match lt (bw n) m i many e with | none => some (-nI 102, S) | some t => if ((S.1 55 18) + nI t) ≤ nI 50 then k_Mod_letters_102 (lN n) (nI t) (nI 0) S else some (-nI 104, S) := by
  intro m
  induction m with
  | zero =>
    intro i many e hi hm
    rw [k_Mod_letters_8_eq]
    simp (disch := omega) only [zL0, zL1, zL2, zL3, zL4, zL5, zL6, zL7, zL8, zL9, zL10, zL12, zL20, zL30, zL31, zL32, zL44, zL48, zL49, zL50, zL56, zL59, zL60, zL61, zL64, zL65, zL97, zL99, zL100, zL101, zL102, zL103, zL104, zL111, zL119, zL126, zL255, zL512, zL617, zL65535, zL65536, zL1048576, zlt, zle, zeq, ztn, zin, zzb, zadd, zmul, zm_lt, zm_gt, zm_le, zm_ge, zm_eq, zm_eq', zm_in, if_pos, if_neg, bI_s, bJ_s, bA_s, bU_s, if_true, if_false, reduceIte, or_true, true_or, or_false, false_or, and_true, true_and, and_false, false_and, not_true_eq_false, not_false_eq_true, Nat.reduceEqDiff, Nat.zero_ne_one, Nat.one_ne_zero, lt]
    rfl
  | succ m ih =>
    intro i many e hi hm
    have hb := bw_lt n i
    rw [k_Mod_letters_8_eq, lt]
    simp only [zL8, zmul, by_s hn (show i < 8 by omega)]
    cases e
    · by_cases c1 : 126 < bw n i
      · simp (disch := omega) only [zL0, zL1, zL2, zL3, zL4, zL5, zL6, zL7, zL8, zL9, zL10, zL12, zL20, zL30, zL31, zL32, zL44, zL48, zL49, zL50, zL56, zL59, zL60, zL61, zL64, zL65, zL97, zL99, zL100, zL101, zL102, zL103, zL104, zL111, zL119, zL126, zL255, zL512, zL617, zL65535, zL65536, zL1048576, zlt, zle, zeq, ztn, zin, zzb, zadd, zmul, zm_lt, zm_gt, zm_le, zm_ge, zm_eq, zm_eq', zm_in, if_pos, if_neg, bI_s, bJ_s, bA_s, bU_s, if_true, if_false, reduceIte, or_true, true_or, or_false, false_or, and_true, true_and, and_false, false_and, not_true_eq_false, not_false_eq_true, Nat.reduceEqDiff, Nat.zero_ne_one, Nat.one_ne_zero, k_Mod_letters_46_eq, Bool.false_eq_true]
      · by_cases c0 : bw n i = 0
        · have := ih (i + 1) many true (by omega) (by omega)
          simp (disch := omega) only [zL0, zL1, zL2, zL3, zL4, zL5, zL6, zL7, zL8, zL9, zL10, zL12, zL20, zL30, zL31, zL32, zL44, zL48, zL49, zL50, zL56, zL59, zL60, zL61, zL64, zL65, zL97, zL99, zL100, zL101, zL102, zL103, zL104, zL111, zL119, zL126, zL255, zL512, zL617, zL65535, zL65536, zL1048576, zlt, zle, zeq, ztn, zin, zzb, zadd, zmul, zm_lt, zm_gt, zm_le, zm_ge, zm_eq, zm_eq', zm_in, if_pos, if_neg, bI_s, bJ_s, bA_s, bU_s, if_true, if_false, reduceIte, or_true, true_or, or_false, false_or, and_true, true_and, and_false, false_and, not_true_eq_false, not_false_eq_true, Nat.reduceEqDiff, Nat.zero_ne_one, Nat.one_ne_zero, k_Mod_letters_46_eq, k_Mod_letters_49_eq, k_Mod_letters_59_eq, k_Mod_letters_64_eq, k_Mod_letters_77_eq, Bool.false_eq_true, c0, decide_true, Bool.or_true, Nat.add_zero]
          simp (disch := omega) only [zL0, zL1, zL2, zL3, zL4, zL5, zL6, zL7, zL8, zL9, zL10, zL12, zL20, zL30, zL31, zL32, zL44, zL48, zL49, zL50, zL56, zL59, zL60, zL61, zL64, zL65, zL97, zL99, zL100, zL101, zL102, zL103, zL104, zL111, zL119, zL126, zL255, zL512, zL617, zL65535, zL65536, zL1048576, zlt, zle, zeq, ztn, zin, zzb, zadd, zmul, zm_lt, zm_gt, zm_le, zm_ge, zm_eq, zm_eq', zm_in, if_pos, if_neg, bI_s, bJ_s, bA_s, bU_s, if_true, if_false, reduceIte, or_true, true_or, or_false, false_or, and_true, true_and, and_false, false_and, not_true_eq_false, not_false_eq_true, Nat.reduceEqDiff, Nat.zero_ne_one, Nat.one_ne_zero] at this
          rw [this]
        · have := ih (i + 1) (many + 1) false (by omega) (by omega)
          simp (disch := omega) only [zL0, zL1, zL2, zL3, zL4, zL5, zL6, zL7, zL8, zL9, zL10, zL12, zL20, zL30, zL31, zL32, zL44, zL48, zL49, zL50, zL56, zL59, zL60, zL61, zL64, zL65, zL97, zL99, zL100, zL101, zL102, zL103, zL104, zL111, zL119, zL126, zL255, zL512, zL617, zL65535, zL65536, zL1048576, zlt, zle, zeq, ztn, zin, zzb, zadd, zmul, zm_lt, zm_gt, zm_le, zm_ge, zm_eq, zm_eq', zm_in, if_pos, if_neg, bI_s, bJ_s, bA_s, bU_s, if_true, if_false, reduceIte, or_true, true_or, or_false, false_or, and_true, true_and, and_false, false_and, not_true_eq_false, not_false_eq_true, Nat.reduceEqDiff, Nat.zero_ne_one, Nat.one_ne_zero, k_Mod_letters_46_eq, k_Mod_letters_49_eq, k_Mod_letters_59_eq, k_Mod_letters_64_eq, k_Mod_letters_77_eq, Bool.false_eq_true, decide_eq_false c0, Bool.or_false]
          simp (disch := omega) only [zL0, zL1, zL2, zL3, zL4, zL5, zL6, zL7, zL8, zL9, zL10, zL12, zL20, zL30, zL31, zL32, zL44, zL48, zL49, zL50, zL56, zL59, zL60, zL61, zL64, zL65, zL97, zL99, zL100, zL101, zL102, zL103, zL104, zL111, zL119, zL126, zL255, zL512, zL617, zL65535, zL65536, zL1048576, zlt, zle, zeq, ztn, zin, zzb, zadd, zmul, zm_lt, zm_gt, zm_le, zm_ge, zm_eq, zm_eq', zm_in, if_pos, if_neg, bI_s, bJ_s, bA_s, bU_s, if_true, if_false, reduceIte, or_true, true_or, or_false, false_or, and_true, true_and, and_false, false_and, not_true_eq_false, not_false_eq_true, Nat.reduceEqDiff, Nat.zero_ne_one, Nat.one_ne_zero, Bool.false_eq_true] at this
          rw [this]
    · by_cases c1 : 126 < bw n i
      · simp (disch := omega) only [zL0, zL1, zL2, zL3, zL4, zL5, zL6, zL7, zL8, zL9, zL10, zL12, zL20, zL30, zL31, zL32, zL44, zL48, zL49, zL50, zL56, zL59, zL60, zL61, zL64, zL65, zL97, zL99, zL100, zL101, zL102, zL103, zL104, zL111, zL119, zL126, zL255, zL512, zL617, zL65535, zL65536, zL1048576, zlt, zle, zeq, ztn, zin, zzb, zadd, zmul, zm_lt, zm_gt, zm_le, zm_ge, zm_eq, zm_eq', zm_in, if_pos, if_neg, bI_s, bJ_s, bA_s, bU_s, if_true, if_false, reduceIte, or_true, true_or, or_false, false_or, and_true, true_and, and_false, false_and, not_true_eq_false, not_false_eq_true, Nat.reduceEqDiff, Nat.zero_ne_one, Nat.one_ne_zero, k_Mod_letters_46_eq]
      · by_cases c0 : bw n i = 0
        · have := ih (i + 1) many true (by omega) (by omega)
          simp (disch := omega) only [zL0, zL1, zL2, zL3, zL4, zL5, zL6, zL7, zL8, zL9, zL10, zL12, zL20, zL30, zL31, zL32, zL44, zL48, zL49, zL50, zL56, zL59, zL60, zL61, zL64, zL65, zL97, zL99, zL100, zL101, zL102, zL103, zL104, zL111, zL119, zL126, zL255, zL512, zL617, zL65535, zL65536, zL1048576, zlt, zle, zeq, ztn, zin, zzb, zadd, zmul, zm_lt, zm_gt, zm_le, zm_ge, zm_eq, zm_eq', zm_in, if_pos, if_neg, bI_s, bJ_s, bA_s, bU_s, if_true, if_false, reduceIte, or_true, true_or, or_false, false_or, and_true, true_and, and_false, false_and, not_true_eq_false, not_false_eq_true, Nat.reduceEqDiff, Nat.zero_ne_one, Nat.one_ne_zero, k_Mod_letters_46_eq, k_Mod_letters_49_eq, k_Mod_letters_59_eq, k_Mod_letters_64_eq, k_Mod_letters_77_eq, c0, Bool.true_or, Nat.add_zero]
          simp (disch := omega) only [zL0, zL1, zL2, zL3, zL4, zL5, zL6, zL7, zL8, zL9, zL10, zL12, zL20, zL30, zL31, zL32, zL44, zL48, zL49, zL50, zL56, zL59, zL60, zL61, zL64, zL65, zL97, zL99, zL100, zL101, zL102, zL103, zL104, zL111, zL119, zL126, zL255, zL512, zL617, zL65535, zL65536, zL1048576, zlt, zle, zeq, ztn, zin, zzb, zadd, zmul, zm_lt, zm_gt, zm_le, zm_ge, zm_eq, zm_eq', zm_in, if_pos, if_neg, bI_s, bJ_s, bA_s, bU_s, if_true, if_false, reduceIte, or_true, true_or, or_false, false_or, and_true, true_and, and_false, false_and, not_true_eq_false, not_false_eq_true, Nat.reduceEqDiff, Nat.zero_ne_one, Nat.one_ne_zero] at this
          rw [this]
        · rw [if_pos (Or.inr ⟨rfl, c0⟩)]
          simp (disch := omega) only [zL0, zL1, zL2, zL3, zL4, zL5, zL6, zL7, zL8, zL9, zL10, zL12, zL20, zL30, zL31, zL32, zL44, zL48, zL49, zL50, zL56, zL59, zL60, zL61, zL64, zL65, zL97, zL99, zL100, zL101, zL102, zL103, zL104, zL111, zL119, zL126, zL255, zL512, zL617, zL65535, zL65536, zL1048576, zlt, zle, zeq, ztn, zin, zzb, zadd, zmul, zm_lt, zm_gt, zm_le, zm_ge, zm_eq, zm_eq', zm_in, if_pos, if_neg, bI_s, bJ_s, bA_s, bU_s, if_true, if_false, reduceIte, or_true, true_or, or_false, false_or, and_true, true_and, and_false, false_and, not_true_eq_false, not_false_eq_true, Nat.reduceEqDiff, Nat.zero_ne_one, Nat.one_ne_zero, k_Mod_letters_46_eq]
def leD (D : DD) (n t : Nat) : DD := dS (dS D 67 (fun k => if D 55 18 ≤ k ∧ k < D 55 18 + t then bw n (k - D 55 18) else D 67 k)) 55 (dU (D 55) 18 (D 55 18 + t))
theorem ct_append {n t p : Nat} (hn : n < 2 ^ 64) (ht : t ≤ 8) (hp : p + t ≤ 50) (hb : ∀ k, k < t → bw n k ≤ 126) (h1 : S.1 1 1 = nI p) : ∃ S', f_Page_append (lN n) (nI t) S = some S' ∧ (∀ x k, x ≠ 2 → ¬ (x = 1 ∧ k = 1) → S'.1 x k = S.1 x k) ∧ S'.1 1 1 = nI (p + t) ∧ ∀ k, S'.1 2 k = if p ≤ k ∧ k < p + t then nI (bw n (k - p)) else S.1 2 k := by
  obtain ⟨S1, e1, f1, a1, b1⟩ := zfor (fun i S => k_Page_append_3 (lN n) (nI t) (nI i) S) t (fun i S1 => (∀ x k, x ≠ 2 → ¬ (x = 1 ∧ k = 1) → S1.1 x k = S.1 x k) ∧ S1.1 1 1 = nI (p + i) ∧ ∀ k, S1.1 2 k = if p ≤ k ∧ k < p + i then nI (bw n (k - p)) else S.1 2 k) (by
    intro i S1 hi ⟨f1, a1, b1⟩
    refine ⟨u1 (u1 S1 2 (p + i) (nI (bw n i))) 1 1 (nI (p + (i + 1))), ?_, fun x k q q2 => by rw [zuN (by omega), zuN (by omega), f1 x k q q2], zuS ⟨rfl, rfl⟩, fun k => ?_⟩
    · rw [k_Page_append_3_eq]
      simp only [zL8, zmul, by_u hn (show i < 8 by omega), by_c (hb i hi)]
      simp (disch := omega) only [zL0, zL1, zL2, zL3, zL4, zL5, zL6, zL7, zL8, zL9, zL10, zL12, zL20, zL30, zL31, zL32, zL44, zL48, zL49, zL50, zL56, zL59, zL60, zL61, zL64, zL65, zL97, zL99, zL100, zL101, zL102, zL103, zL104, zL111, zL119, zL126, zL255, zL512, zL617, zL65535, zL65536, zL1048576, zlt, zle, zeq, ztn, zin, zzb, zadd, zmul, zm_lt, zm_gt, zm_le, zm_ge, zm_eq, zm_eq', zm_in, if_pos, if_neg, bI_s, bJ_s, bA_s, bU_s, if_true, if_false, reduceIte, or_true, true_or, or_false, false_or, and_true, true_and, and_false, false_and, not_true_eq_false, not_false_eq_true, Nat.reduceEqDiff, Nat.zero_ne_one, Nat.one_ne_zero, a1, Nat.add_assoc]
    · rw [zuN (by omega)]
      by_cases e : k = p + i
      · rw [zuS ⟨rfl, e⟩, if_pos (by omega), e, Nat.add_sub_cancel_left]
      · rw [zuN (by omega), b1 k]
        by_cases q : p ≤ k ∧ k < p + i
        · rw [if_pos q, if_pos (by omega)]
        · rw [if_neg q, if_neg (by omega)]) t 0 S (by omega) ⟨fun _ _ _ _ => rfl, h1, fun k => by rw [if_neg (by omega)]⟩
  refine ⟨S1, ?_, f1, a1, b1⟩
  rw [f_Page_append_eq, zL0, e1, k_Page_append_3_eq]
  simp (disch := omega) only [zL0, zL1, zL2, zL3, zL4, zL5, zL6, zL7, zL8, zL9, zL10, zL12, zL20, zL30, zL31, zL32, zL44, zL48, zL49, zL50, zL56, zL59, zL60, zL61, zL64, zL65, zL97, zL99, zL100, zL101, zL102, zL103, zL104, zL111, zL119, zL126, zL255, zL512, zL617, zL65535, zL65536, zL1048576, zlt, zle, zeq, ztn, zin, zzb, zadd, zmul, zm_lt, zm_gt, zm_le, zm_ge, zm_eq, zm_eq', zm_in, if_pos, if_neg, bI_s, bJ_s, bA_s, bU_s, if_true, if_false, reduceIte, or_true, true_or, or_false, false_or, and_true, true_and, and_false, false_and, not_true_eq_false, not_false_eq_true, Nat.reduceEqDiff, Nat.zero_ne_one, Nat.one_ne_zero, k_Page_append_56_eq]
theorem mo_append {n t : Nat} (hm : RM D S) (hn : n < 2 ^ 64) (ht : t ≤ 8) (hp : D 55 18 + t ≤ 50) (hb : ∀ k, k < t → bw n k ≤ 126) : ∃ S', k_Mod_letters_102 (lN n) (nI t) (nI 0) S = some (nI (D 55 18 + t), S') ∧ RM (leD D n t) S' ∧ frM S S' := by
  obtain ⟨S1, e1, f1, b1⟩ := zfor (fun i S => k_Mod_letters_102 (lN n) (nI t) (nI i) S) t (fun i S1 => (∀ x k, x ≠ 67 → S1.1 x k = S.1 x k) ∧ ∀ k, S1.1 67 k = nI (if D 55 18 ≤ k ∧ k < D 55 18 + i then bw n (k - D 55 18) else D 67 k)) (by
    intro i S1 hi ⟨f1, b1⟩
    have a1 : S1.1 55 18 = nI (D 55 18) := by rw [f1 _ _ (by omega)]; exact hm.r 55 18 (by omega)
    refine ⟨u1 S1 67 (D 55 18 + i) (nI (bw n i)), ?_, fun x k q => by rw [zuN (by omega), f1 x k q], fun k => ?_⟩
    · rw [k_Mod_letters_102_eq]
      simp only [zL8, zmul, by_b hn (show i < 8 by omega) (hb i hi)]
      simp (disch := omega) only [zL0, zL1, zL2, zL3, zL4, zL5, zL6, zL7, zL8, zL9, zL10, zL12, zL20, zL30, zL31, zL32, zL44, zL48, zL49, zL50, zL56, zL59, zL60, zL61, zL64, zL65, zL97, zL99, zL100, zL101, zL102, zL103, zL104, zL111, zL119, zL126, zL255, zL512, zL617, zL65535, zL65536, zL1048576, zlt, zle, zeq, ztn, zin, zzb, zadd, zmul, zm_lt, zm_gt, zm_le, zm_ge, zm_eq, zm_eq', zm_in, if_pos, if_neg, bI_s, bJ_s, bA_s, bU_s, if_true, if_false, reduceIte, or_true, true_or, or_false, false_or, and_true, true_and, and_false, false_and, not_true_eq_false, not_false_eq_true, Nat.reduceEqDiff, Nat.zero_ne_one, Nat.one_ne_zero, a1]
    · by_cases e : k = D 55 18 + i
      · rw [zuS ⟨rfl, e⟩, if_pos (by omega), e, Nat.add_sub_cancel_left]
      · rw [zuN (by omega), b1 k]
        by_cases q : D 55 18 ≤ k ∧ k < D 55 18 + i
        · rw [if_pos q, if_pos (by omega)]
        · rw [if_neg q, if_neg (by omega)]) t 0 S (by omega) ⟨fun _ _ _ => rfl, fun k => by rw [if_neg (by omega)]; exact hm.r 67 k (by omega)⟩
  have a1 : S1.1 55 18 = nI (D 55 18) := by rw [f1 _ _ (by omega)]; exact hm.r 55 18 (by omega)
  refine ⟨u1 S1 55 18 (nI (D 55 18 + t)), ?_, fun a k q => ?_, fun a k q => by rw [zuN (by omega), f1 a k (by omega)]⟩
  · rw [e1, k_Mod_letters_102_eq]
    simp (disch := omega) only [zL0, zL1, zL2, zL3, zL4, zL5, zL6, zL7, zL8, zL9, zL10, zL12, zL20, zL30, zL31, zL32, zL44, zL48, zL49, zL50, zL56, zL59, zL60, zL61, zL64, zL65, zL97, zL99, zL100, zL101, zL102, zL103, zL104, zL111, zL119, zL126, zL255, zL512, zL617, zL65535, zL65536, zL1048576, zlt, zle, zeq, ztn, zin, zzb, zadd, zmul, zm_lt, zm_gt, zm_le, zm_ge, zm_eq, zm_eq', zm_in, if_pos, if_neg, bI_s, bJ_s, bA_s, bU_s, if_true, if_false, reduceIte, or_true, true_or, or_false, false_or, and_true, true_and, and_false, false_and, not_true_eq_false, not_false_eq_true, Nat.reduceEqDiff, Nat.zero_ne_one, Nat.one_ne_zero, a1]
  · unfold leD
    by_cases a67 : a = 67
    · subst a67; rw [zuN (by omega)]; exact b1 k
    by_cases a55 : a = 55
    · subst a55
      rw [dS_s]
      by_cases k18 : k = 18
      · rw [zuS ⟨rfl, k18⟩, dU_s k18]
      · rw [zuN (by omega), dU_n k18, f1 _ _ (by omega)]; exact hm 55 k q
    · rw [zuN (by omega), dS_n a55, dS_n a67, f1 _ _ a67]; exact hm a k q
theorem ask_letters (h : Inv c D S) (hc : c < 512) (j : Int64) : CAL c S (f_Top_letters j) (f_Mod_letters j) := by
  obtain ⟨hd, hr, hm, h4, h5, h6⟩ := id h
  obtain ⟨n, hn, rfl⟩ := wb_of j
  have p50 := hd.2.2.1.1
  have t1 := fun S : Mem => ct_told (S := S) hn 8 0 0 false (by omega) (by omega)
  have t2 := fun S : Mem => mo_told (S := S) hn 8 0 0 false (by omega) (by omega)
  simp (disch := omega) only [zL0, zL1, zL2, zL3, zL4, zL5, zL6, zL7, zL8, zL9, zL10, zL12, zL20, zL30, zL31, zL32, zL44, zL48, zL49, zL50, zL56, zL59, zL60, zL61, zL64, zL65, zL97, zL99, zL100, zL101, zL102, zL103, zL104, zL111, zL119, zL126, zL255, zL512, zL617, zL65535, zL65536, zL1048576, zlt, zle, zeq, ztn, zin, zzb, zadd, zmul, zm_lt, zm_gt, zm_le, zm_ge, zm_eq, zm_eq', zm_in, if_pos, if_neg, bI_s, bJ_s, bA_s, bU_s, if_true, if_false, reduceIte, or_true, true_or, or_false, false_or, and_true, true_and, and_false, false_and, not_true_eq_false, not_false_eq_true, Nat.reduceEqDiff, Nat.zero_ne_one, Nat.one_ne_zero, Bool.false_eq_true] at t1 t2
  have e18 := hm.r 55 18 (by omega)
  cases hl : lt (bw n) 8 0 0 false with
  | none =>
    refine CAL_00 h hc (r := -nI 102) ?_ ?_
    · rw [f_Top_letters_eq, f_Page_told_eq]
      simp (disch := omega) only [zL0, zL1, zL2, zL3, zL4, zL5, zL6, zL7, zL8, zL9, zL10, zL12, zL20, zL30, zL31, zL32, zL44, zL48, zL49, zL50, zL56, zL59, zL60, zL61, zL64, zL65, zL97, zL99, zL100, zL101, zL102, zL103, zL104, zL111, zL119, zL126, zL255, zL512, zL617, zL65535, zL65536, zL1048576, zlt, zle, zeq, ztn, zin, zzb, zadd, zmul, zm_lt, zm_gt, zm_le, zm_ge, zm_eq, zm_eq', zm_in, if_pos, if_neg, bI_s, bJ_s, bA_s, bU_s, if_true, if_false, reduceIte, or_true, true_or, or_false, false_or, and_true, true_and, and_false, false_and, not_true_eq_false, not_false_eq_true, Nat.reduceEqDiff, Nat.zero_ne_one, Nat.one_ne_zero, t1, hl]
    · rw [f_Mod_letters_eq]
      simp (disch := omega) only [zL0, zL1, zL2, zL3, zL4, zL5, zL6, zL7, zL8, zL9, zL10, zL12, zL20, zL30, zL31, zL32, zL44, zL48, zL49, zL50, zL56, zL59, zL60, zL61, zL64, zL65, zL97, zL99, zL100, zL101, zL102, zL103, zL104, zL111, zL119, zL126, zL255, zL512, zL617, zL65535, zL65536, zL1048576, zlt, zle, zeq, ztn, zin, zzb, zadd, zmul, zm_lt, zm_gt, zm_le, zm_ge, zm_eq, zm_eq', zm_in, if_pos, if_neg, bI_s, bJ_s, bA_s, bU_s, if_true, if_false, reduceIte, or_true, true_or, or_false, false_or, and_true, true_and, and_false, false_and, not_true_eq_false, not_false_eq_true, Nat.reduceEqDiff, Nat.zero_ne_one, Nat.one_ne_zero, t2, hl]
  | some t =>
    have tl := lt_le hl
    have tb := fun k hk => (lt_ok hl k (Nat.zero_le _) hk)
    by_cases c50 : D 55 18 + t ≤ 50
    · obtain ⟨S1, e1, f1, a1, b1⟩ := ct_append (S := S) (p := D 55 18) hn (by omega) c50 (fun k hk => (tb k hk).2) hr.1.1
      have hd' : okD (leD D n t) := by
        refine ⟨okN_d hd.1 rfl rfl rfl rfl rfl rfl, okW_d hd.2.1 rfl rfl rfl rfl rfl rfl rfl (fun i hi => (hd.2.1.2 i hi).2.2.2.1) rfl rfl rfl, ?_, okK_d hd.2.2.2 rfl rfl rfl rfl rfl rfl rfl rfl (Nat.le_refl _) rfl rfl rfl rfl rfl rfl⟩
        obtain ⟨s1, s2, s3, s4, s5, s6, s7⟩ := hd.2.2.1
        refine ⟨c50, fun k hk => ?_, s3, s4, s5, s6, s7⟩
        have hk' : k < D 55 18 + t := hk
        show 1 ≤ (if D 55 18 ≤ k ∧ k < D 55 18 + t then bw n (k - D 55 18) else D 67 k) ∧ (if D 55 18 ≤ k ∧ k < D 55 18 + t then bw n (k - D 55 18) else D 67 k) ≤ 126
        by_cases q : D 55 18 ≤ k
        · rw [if_pos ⟨q, hk'⟩]; exact tb _ (by omega)
        · rw [if_neg (fun w => q w.1)]; exact s2 k (by omega)
      have hr1 : RC (leD D n t) S1 := by
        refine ⟨⟨a1, fun k hk => ?_⟩, rNt_f (rNt_d hr.2.1 rfl rfl rfl rfl rfl rfl rfl) (fun a k q => f1 a k (by omega) (by omega)), rTw_f hd'.2.1.1 (rTw_d hr.2.2.1 rfl rfl rfl rfl rfl rfl rfl rfl) (fun a k q => f1 a k (by omega) (by omega)), rHp_f (rHp_d hr.2.2.2.1 rfl rfl) (fun a k q => f1 a k (by omega) (by omega)), rTp_f (rTp_d hr.2.2.2.2.1 rfl rfl rfl rfl) (fun a k q => f1 a k (by omega) (by omega)), rKp_f hd'.2.2.2 hd'.2.1.1 (rKp_d hr.2.2.2.2.2 rfl rfl rfl rfl rfl (fun _ _ => rfl) (fun _ _ => rfl) rfl rfl rfl rfl rfl rfl) (fun a k q => f1 a k (by omega) (by omega))⟩
        have hk' : k < D 55 18 + t := hk
        show _ = nI (if D 55 18 ≤ k ∧ k < D 55 18 + t then bw n (k - D 55 18) else D 67 k)
        rw [b1 k]
        by_cases q : D 55 18 ≤ k
        · rw [if_pos ⟨q, hk'⟩, if_pos ⟨q, hk'⟩]
        · rw [if_neg (fun w => q w.1), if_neg (fun w => q w.1)]; exact hr.1.2 k (by omega)
      have hm1 : RM D S1 := RM_T hm (fun a k q => f1 a k (by omega) (by omega))
      obtain ⟨S2, e2, m2, f2⟩ := mo_append hm1 hn (by omega) c50 (fun k hk => (tb k hk).2)
      have e181 := hm1.r 55 18 (by omega)
      refine CAL_w (r := nI (D 55 18 + t)) hc hd' ?_ hr1 ?_ f2 m2 (by show D 55 6 ≤ c + 1; omega) (Nat.zero_le _)
      · rw [f_Top_letters_eq, f_Page_told_eq]
        simp (disch := omega) only [zL0, zL1, zL2, zL3, zL4, zL5, zL6, zL7, zL8, zL9, zL10, zL12, zL20, zL30, zL31, zL32, zL44, zL48, zL49, zL50, zL56, zL59, zL60, zL61, zL64, zL65, zL97, zL99, zL100, zL101, zL102, zL103, zL104, zL111, zL119, zL126, zL255, zL512, zL617, zL65535, zL65536, zL1048576, zlt, zle, zeq, ztn, zin, zzb, zadd, zmul, zm_lt, zm_gt, zm_le, zm_ge, zm_eq, zm_eq', zm_in, if_pos, if_neg, bI_s, bJ_s, bA_s, bU_s, if_true, if_false, reduceIte, or_true, true_or, or_false, false_or, and_true, true_and, and_false, false_and, not_true_eq_false, not_false_eq_true, Nat.reduceEqDiff, Nat.zero_ne_one, Nat.one_ne_zero, t1, hl, hr.1.1, e1, a1]
      · rw [f_Mod_letters_eq]
        simp (disch := omega) only [zL0, zL1, zL2, zL3, zL4, zL5, zL6, zL7, zL8, zL9, zL10, zL12, zL20, zL30, zL31, zL32, zL44, zL48, zL49, zL50, zL56, zL59, zL60, zL61, zL64, zL65, zL97, zL99, zL100, zL101, zL102, zL103, zL104, zL111, zL119, zL126, zL255, zL512, zL617, zL65535, zL65536, zL1048576, zlt, zle, zeq, ztn, zin, zzb, zadd, zmul, zm_lt, zm_gt, zm_le, zm_ge, zm_eq, zm_eq', zm_in, if_pos, if_neg, bI_s, bJ_s, bA_s, bU_s, if_true, if_false, reduceIte, or_true, true_or, or_false, false_or, and_true, true_and, and_false, false_and, not_true_eq_false, not_false_eq_true, Nat.reduceEqDiff, Nat.zero_ne_one, Nat.one_ne_zero, t2, hl, e181, e2]
    · refine CAL_00 h hc (r := -nI 104) ?_ ?_
      · rw [f_Top_letters_eq, f_Page_told_eq]
        simp (disch := omega) only [zL0, zL1, zL2, zL3, zL4, zL5, zL6, zL7, zL8, zL9, zL10, zL12, zL20, zL30, zL31, zL32, zL44, zL48, zL49, zL50, zL56, zL59, zL60, zL61, zL64, zL65, zL97, zL99, zL100, zL101, zL102, zL103, zL104, zL111, zL119, zL126, zL255, zL512, zL617, zL65535, zL65536, zL1048576, zlt, zle, zeq, ztn, zin, zzb, zadd, zmul, zm_lt, zm_gt, zm_le, zm_ge, zm_eq, zm_eq', zm_in, if_pos, if_neg, bI_s, bJ_s, bA_s, bU_s, if_true, if_false, reduceIte, or_true, true_or, or_false, false_or, and_true, true_and, and_false, false_and, not_true_eq_false, not_false_eq_true, Nat.reduceEqDiff, Nat.zero_ne_one, Nat.one_ne_zero, t1, hl, hr.1.1]
      · rw [f_Mod_letters_eq]
        simp (disch := omega) only [zL0, zL1, zL2, zL3, zL4, zL5, zL6, zL7, zL8, zL9, zL10, zL12, zL20, zL30, zL31, zL32, zL44, zL48, zL49, zL50, zL56, zL59, zL60, zL61, zL64, zL65, zL97, zL99, zL100, zL101, zL102, zL103, zL104, zL111, zL119, zL126, zL255, zL512, zL617, zL65535, zL65536, zL1048576, zlt, zle, zeq, ztn, zin, zzb, zadd, zmul, zm_lt, zm_gt, zm_le, zm_ge, zm_eq, zm_eq', zm_in, if_pos, if_neg, bI_s, bJ_s, bA_s, bU_s, if_true, if_false, reduceIte, or_true, true_or, or_false, false_or, and_true, true_and, and_false, false_and, not_true_eq_false, not_false_eq_true, Nat.reduceEqDiff, Nat.zero_ne_one, Nat.one_ne_zero, t2, hl, e18]
end LE
