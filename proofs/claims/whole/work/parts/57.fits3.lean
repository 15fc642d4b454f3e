/-! FITS and SURE: both sides -/
theorem jbc : ∀ g, g < 32 → (((((((((nI g) - ((((nI g).toUInt32 >>> ((1 : Int32).toUInt32 &&& Int32.toUInt32 31)).toInt32) &&& 1431655765)) &&& 858993459) + (((((nI g) - ((((nI g).toUInt32 >>> ((1 : Int32).toUInt32 &&& Int32.toUInt32 31)).toInt32) &&& 1431655765)).toUInt32 >>> ((2 : Int32).toUInt32 &&& Int32.toUInt32 31)).toInt32) &&& 858993459)) + ((((((nI g) - ((((nI g).toUInt32 >>> ((1 : Int32).toUInt32 &&& Int32.toUInt32 31)).toInt32) &&& 1431655765)) &&& 858993459) + (((((nI g) - ((((nI g).toUInt32 >>> ((1 : Int32).toUInt32 &&& Int32.toUInt32 31)).toInt32) &&& 1431655765)).toUInt32 >>> ((2 : Int32).toUInt32 &&& Int32.toUInt32 31)).toInt32) &&& 858993459)).toUInt32 >>> ((4 : Int32).toUInt32 &&& Int32.toUInt32 31)).toInt32)) &&& 252645135) + ((((((((nI g) - ((((nI g).toUInt32 >>> ((1 : Int32).toUInt32 &&& Int32.toUInt32 31)).toInt32) &&& 1431655765)) &&& 858993459) + (((((nI g) - ((((nI g).toUInt32 >>> ((1 : Int32).toUInt32 &&& Int32.toUInt32 31)).toInt32) &&& 1431655765)).toUInt32 >>> ((2 : Int32).toUInt32 &&& Int32.toUInt32 31)).toInt32) &&& 858993459)) + ((((((nI g) - ((((nI g).toUInt32 >>> ((1 : Int32).toUInt32 &&& Int32.toUInt32 31)).toInt32) &&& 1431655765)) &&& 858993459) + (((((nI g) - ((((nI g).toUInt32 >>> ((1 : Int32).toUInt32 &&& Int32.toUInt32 31)).toInt32) &&& 1431655765)).toUInt32 >>> ((2 : Int32).toUInt32 &&& Int32.toUInt32 31)).toInt32) &&& 858993459)).toUInt32 >>> ((4 : Int32).toUInt32 &&& Int32.toUInt32 31)).toInt32)) &&& 252645135).toUInt32 >>> ((8 : Int32).toUInt32 &&& Int32.toUInt32 31)).toInt32)) + (((((((((nI g) - ((((nI g).toUInt32 >>> ((1 : Int32).toUInt32 &&& Int32.toUInt32 31)).toInt32) &&& 1431655765)) &&& 858993459) + (((((nI g) - ((((nI g).toUInt32 >>> ((1 : Int32).toUInt32 &&& Int32.toUInt32 31)).toInt32) &&& 1431655765)).toUInt32 >>> ((2 : Int32).toUInt32 &&& Int32.toUInt32 31)).toInt32) &&& 858993459)) + ((((((nI g) - ((((nI g).toUInt32 >>> ((1 : Int32).toUInt32 &&& Int32.toUInt32 31)).toInt32) &&& 1431655765)) &&& 858993459) + (((((nI g) - ((((nI g).toUInt32 >>> ((1 : Int32).toUInt32 &&& Int32.toUInt32 31)).toInt32) &&& 1431655765)).toUInt32 >>> ((2 : Int32).toUInt32 &&& Int32.toUInt32 31)).toInt32) &&& 858993459)).toUInt32 >>> ((4 : Int32).toUInt32 &&& Int32.toUInt32 31)).toInt32)) &&& 252645135) + ((((((((nI g) - ((((nI g).toUInt32 >>> ((1 : Int32).toUInt32 &&& Int32.toUInt32 31)).toInt32) &&& 1431655765)) &&& 858993459) + (((((nI g) - ((((nI g).toUInt32 >>> ((1 : Int32).toUInt32 &&& Int32.toUInt32 31)).toInt32) &&& 1431655765)).toUInt32 >>> ((2 : Int32).toUInt32 &&& Int32.toUInt32 31)).toInt32) &&& 858993459)) + ((((((nI g) - ((((nI g).toUInt32 >>> ((1 : Int32).toUInt32 &&& Int32.toUInt32 31)).toInt32) &&& 1431655765)) &&& 858993459) + (((((nI g) - ((((nI g).toUInt32 >>> ((1 : Int32).toUInt32 &&& Int32.toUInt32 31)).toInt32) &&& 1431655765)).toUInt32 >>> ((2 : Int32).toUInt32 &&& Int32.toUInt32 31)).toInt32) &&& 858993459)).toUInt32 >>> ((4 : Int32).toUInt32 &&& Int32.toUInt32 31)).toInt32)) &&& 252645135).toUInt32 >>> ((8 : Int32).toUInt32 &&& Int32.toUInt32 31)).toInt32)).toUInt32 >>> ((16 : Int32).toUInt32 &&& Int32.toUInt32 31)).toInt32)) &&& 63) = nI (bc g 5) := by decide +kernel
theorem ct_bitCount {g : Nat} (hg : g < 32) {S : Mem} : f_JInt_bitCount (nI g) S = some (nI (bc g 5), S) := by
  rw [f_JInt_bitCount_eq, jbc g hg]
theorem pw5 : ∀ w, w ≤ 5 → 2 ^ w ≤ 32 ∧ 1 ≤ 2 ^ w := by decide
theorem ga_le {P : Nat → Nat → Bool} : ∀ m D, D 55 7 ≤ 5 → ga P m D ≤ 10 * m
  | 0, _, _ => Nat.le_refl 0
  | m + 1, D, h => by
    have h1 := ga_le (P := P) m (go D P) (by rw [go_row (by omega) (by omega)]; exact h)
    have h2 := lb_le (f := cl D P (wn D)) h
    unfold ga
    split
    · omega
    · unfold lay; omega
section FK
variable {D : DD} {set : Nat}
def isS (D : DD) (set : Nat) : Prop := set < 2 ^ D 55 7 ∧ bc set 5 ≤ 3
theorem isS_ok (hd : okD D) (h : isS D set) : set < 32 ∧ bc set 5 ≤ 3 ∧ ∀ i, set.testBit i = true → i < D 55 7 := by
  have w5 := hd.2.1.1
  have hp := pw5 (D 55 7) w5
  refine ⟨by have := h.1; omega, h.2, fun i hi => ?_⟩
  by_cases c : i < D 55 7
  · exact c
  · have : set < 2 ^ i := Nat.lt_of_lt_of_le h.1 (Nat.pow_le_pow_right (by decide) (by omega))
    rw [Nat.testBit_lt_two_pow this] at hi
    cases hi
theorem ct_isSet (hd : okD D) {S : Mem} (hr : RC D S) {x : Int32} : (∃ set, x = nI set ∧ isS D set ∧ f_Top_isSet x S = some (nI 1, S)) ∨ ((∀ set, x = nI set → set < 32 → ¬ isS D set) ∧ f_Top_isSet x S = some (nI 0, S)) := by
  have w5 := hd.2.1.1
  have hp := pw5 (D 55 7) w5
  have hsh := zsh (a := D 55 7) (by omega)
  rw [f_Top_isSet_eq]
  rcases zcase x with hx | ⟨n, hn, rfl⟩
  · refine Or.inr ⟨fun s e h32 _ => ?_, ?_⟩
    · have := zn_eq hx (a := s) (by omega)
      rw [this] at e; exact e
    · rw [zL0, if_pos hx]; simp (disch := omega) only [k_Top_isSet_29_eq, k_Top_isSet_30_eq, zL0, zL1, zL2, zL3, zL4, zL5, zL6, zL7, zL8, zL9, zL10, zL12, zL20, zL30, zL31, zL32, zL44, zL48, zL49, zL50, zL56, zL59, zL60, zL61, zL64, zL65, zL97, zL99, zL100, zL101, zL102, zL103, zL104, zL111, zL119, zL126, zL255, zL512, zL617, zL65535, zL65536, zL1048576, zlt, zle, zeq, ztn, zin, zzb, zadd, zmul, zm_lt, zm_gt, zm_le, zm_ge, zm_eq, zm_eq', zm_in, if_pos, if_neg, bI_s, bJ_s, bA_s, bU_s, if_true, if_false, reduceIte, or_true, true_or, or_false, false_or, and_true, true_and, and_false, false_and, not_true_eq_false, not_false_eq_true, Nat.reduceEqDiff, Nat.zero_ne_one, Nat.one_ne_zero]
  · by_cases c1 : n < 2 ^ D 55 7
    · have hbc := ct_bitCount (g := n) (by omega) (S := S)
      have hb := bc_le n 5
      by_cases c3 : bc n 5 ≤ 3
      · refine Or.inl ⟨n, rfl, ⟨c1, c3⟩, ?_⟩
        simp (disch := omega) only [zL0, zL1, zL2, zL3, zL4, zL5, zL6, zL7, zL8, zL9, zL10, zL12, zL20, zL30, zL31, zL32, zL44, zL48, zL49, zL50, zL56, zL59, zL60, zL61, zL64, zL65, zL97, zL99, zL100, zL101, zL102, zL103, zL104, zL111, zL119, zL126, zL255, zL512, zL617, zL65535, zL65536, zL1048576, zlt, zle, zeq, ztn, zin, zzb, zadd, zmul, zm_lt, zm_gt, zm_le, zm_ge, zm_eq, zm_eq', zm_in, if_pos, if_neg, bI_s, bJ_s, bA_s, bU_s, if_true, if_false, reduceIte, or_true, true_or, or_false, false_or, and_true, true_and, and_false, false_and, not_true_eq_false, not_false_eq_true, Nat.reduceEqDiff, Nat.zero_ne_one, Nat.one_ne_zero, hr.w, hsh, hbc, k_Top_isSet_29_eq, k_Top_isSet_30_eq]
      · refine Or.inr ⟨fun s e h32 h => ?_, ?_⟩
        · rw [zeq (by omega) (by omega)] at e
          rw [← e] at h
          exact c3 h.2
        · simp (disch := omega) only [zL0, zL1, zL2, zL3, zL4, zL5, zL6, zL7, zL8, zL9, zL10, zL12, zL20, zL30, zL31, zL32, zL44, zL48, zL49, zL50, zL56, zL59, zL60, zL61, zL64, zL65, zL97, zL99, zL100, zL101, zL102, zL103, zL104, zL111, zL119, zL126, zL255, zL512, zL617, zL65535, zL65536, zL1048576, zlt, zle, zeq, ztn, zin, zzb, zadd, zmul, zm_lt, zm_gt, zm_le, zm_ge, zm_eq, zm_eq', zm_in, if_pos, if_neg, bI_s, bJ_s, bA_s, bU_s, if_true, if_false, reduceIte, or_true, true_or, or_false, false_or, and_true, true_and, and_false, false_and, not_true_eq_false, not_false_eq_true, Nat.reduceEqDiff, Nat.zero_ne_one, Nat.one_ne_zero, hr.w, hsh, hbc, k_Top_isSet_29_eq, k_Top_isSet_30_eq]
    · refine Or.inr ⟨fun s e h32 h => ?_, ?_⟩
      · rw [zeq (by omega) (by omega)] at e
        rw [← e] at h
        exact c1 h.1
      · simp (disch := omega) only [zL0, zL1, zL2, zL3, zL4, zL5, zL6, zL7, zL8, zL9, zL10, zL12, zL20, zL30, zL31, zL32, zL44, zL48, zL49, zL50, zL56, zL59, zL60, zL61, zL64, zL65, zL97, zL99, zL100, zL101, zL102, zL103, zL104, zL111, zL119, zL126, zL255, zL512, zL617, zL65535, zL65536, zL1048576, zlt, zle, zeq, ztn, zin, zzb, zadd, zmul, zm_lt, zm_gt, zm_le, zm_ge, zm_eq, zm_eq', zm_in, if_pos, if_neg, bI_s, bJ_s, bA_s, bU_s, if_true, if_false, reduceIte, or_true, true_or, or_false, false_or, and_true, true_and, and_false, false_and, not_true_eq_false, not_false_eq_true, Nat.reduceEqDiff, Nat.zero_ne_one, Nat.one_ne_zero, hr.w, hsh, k_Top_isSet_29_eq, k_Top_isSet_30_eq]
theorem mo_isSet_t (hd : okD D) {S : Mem} (hm : RM D S) (h : isS D set) : f_Mod_isSet (nI set) S = some (nI 1, S) := by
  have w5 := hd.2.1.1
  have hp := pw5 (D 55 7) w5
  have hsh := zsh (a := D 55 7) (by omega)
  have h1 := h.1
  have h2 := h.2
  rw [f_Mod_isSet_eq]
  simp (disch := omega) only [zL0, zL1, zL2, zL3, zL4, zL5, zL6, zL7, zL8, zL9, zL10, zL12, zL20, zL30, zL31, zL32, zL44, zL48, zL49, zL50, zL56, zL59, zL60, zL61, zL64, zL65, zL97, zL99, zL100, zL101, zL102, zL103, zL104, zL111, zL119, zL126, zL255, zL512, zL617, zL65535, zL65536, zL1048576, zlt, zle, zeq, ztn, zin, zzb, zadd, zmul, zm_lt, zm_gt, zm_le, zm_ge, zm_eq, zm_eq', zm_in, if_pos, if_neg, bI_s, bJ_s, bA_s, bU_s, if_true, if_false, reduceIte, or_true, true_or, or_false, false_or, and_true, true_and, and_false, false_and, not_true_eq_false, not_false_eq_true, Nat.reduceEqDiff, Nat.zero_ne_one, Nat.one_ne_zero, hm.r, hsh, zsub, mo_within, mo_size, k_Mod_isSet_28_eq, k_Mod_isSet_29_eq]
theorem mo_isSet_f (hd : okD D) {S : Mem} (hm : RM D S) {x : Int32} (h : ∀ set, x = nI set → set < 32 → ¬ isS D set) : f_Mod_isSet x S = some (nI 0, S) := by
  have w5 := hd.2.1.1
  have hp := pw5 (D 55 7) w5
  have hsh := zsh (a := D 55 7) (by omega)
  rw [f_Mod_isSet_eq]
  rcases zcase x with hx | ⟨n, hn, rfl⟩
  · simp (disch := omega) only [zL0, zL1, zL2, zL3, zL4, zL5, zL6, zL7, zL8, zL9, zL10, zL12, zL20, zL30, zL31, zL32, zL44, zL48, zL49, zL50, zL56, zL59, zL60, zL61, zL64, zL65, zL97, zL99, zL100, zL101, zL102, zL103, zL104, zL111, zL119, zL126, zL255, zL512, zL617, zL65535, zL65536, zL1048576, zlt, zle, zeq, ztn, zin, zzb, zadd, zmul, zm_lt, zm_gt, zm_le, zm_ge, zm_eq, zm_eq', zm_in, if_pos, if_neg, bI_s, bJ_s, bA_s, bU_s, if_true, if_false, reduceIte, or_true, true_or, or_false, false_or, and_true, true_and, and_false, false_and, not_true_eq_false, not_false_eq_true, Nat.reduceEqDiff, Nat.zero_ne_one, Nat.one_ne_zero, mo_within_n hx, k_Mod_isSet_28_eq, k_Mod_isSet_29_eq]
  · by_cases c1 : n < 2 ^ D 55 7
    · have hb := bc_le n 5
      have c3 : ¬ bc n 5 ≤ 3 := fun q => h n rfl (by omega) ⟨c1, q⟩
      simp (disch := omega) only [zL0, zL1, zL2, zL3, zL4, zL5, zL6, zL7, zL8, zL9, zL10, zL12, zL20, zL30, zL31, zL32, zL44, zL48, zL49, zL50, zL56, zL59, zL60, zL61, zL64, zL65, zL97, zL99, zL100, zL101, zL102, zL103, zL104, zL111, zL119, zL126, zL255, zL512, zL617, zL65535, zL65536, zL1048576, zlt, zle, zeq, ztn, zin, zzb, zadd, zmul, zm_lt, zm_gt, zm_le, zm_ge, zm_eq, zm_eq', zm_in, if_pos, if_neg, bI_s, bJ_s, bA_s, bU_s, if_true, if_false, reduceIte, or_true, true_or, or_false, false_or, and_true, true_and, and_false, false_and, not_true_eq_false, not_false_eq_true, Nat.reduceEqDiff, Nat.zero_ne_one, Nat.one_ne_zero, hm.r, hsh, zsub, mo_within, mo_size, k_Mod_isSet_28_eq, k_Mod_isSet_29_eq]
    · simp (disch := omega) only [zL0, zL1, zL2, zL3, zL4, zL5, zL6, zL7, zL8, zL9, zL10, zL12, zL20, zL30, zL31, zL32, zL44, zL48, zL49, zL50, zL56, zL59, zL60, zL61, zL64, zL65, zL97, zL99, zL100, zL101, zL102, zL103, zL104, zL111, zL119, zL126, zL255, zL512, zL617, zL65535, zL65536, zL1048576, zlt, zle, zeq, ztn, zin, zzb, zadd, zmul, zm_lt, zm_gt, zm_le, zm_ge, zm_eq, zm_eq', zm_in, if_pos, if_neg, bI_s, bJ_s, bA_s, bU_s, if_true, if_false, reduceIte, or_true, true_or, or_false, false_or, and_true, true_and, and_false, false_and, not_true_eq_false, not_false_eq_true, Nat.reduceEqDiff, Nat.zero_ne_one, Nat.one_ne_zero, hm.r, hsh, zsub, mo_within, k_Mod_isSet_28_eq, k_Mod_isSet_29_eq]
theorem t3_of {c n : Nat} (h3 : n ≤ 3) (h : c < 10 ^ n) : c = t3 (dg c 0) (dg c 1) (dg c 2) ∧ (∀ k, ¬ k < n → k < 3 → dg c k = 0) := by
  unfold t3 dg
  rw [Nat.pow_zero, Nat.pow_one, show (10 : Nat) ^ 2 = 100 from rfl]
  match n, h3 with
  | 0, _ =>
    rw [Nat.pow_zero] at h
    refine ⟨by omega, fun k _ _ => ?_⟩
    rw [show c = 0 by omega, Nat.zero_div]
  | 1, _ =>
    rw [Nat.pow_one] at h
    refine ⟨by omega, fun k h1 h2 => ?_⟩
    match k, h1, h2 with
    | 1, _, _ => rw [Nat.pow_one]; omega
    | 2, _, _ => rw [show (10 : Nat) ^ 2 = 100 from rfl]; omega
  | 2, _ =>
    rw [show (10 : Nat) ^ 2 = 100 from rfl] at h
    refine ⟨by omega, fun k h1 h2 => ?_⟩
    match k, h1, h2 with
    | 2, _, _ => rw [show (10 : Nat) ^ 2 = 100 from rfl]; omega
  | 3, _ =>
    rw [show (10 : Nat) ^ 3 = 1000 from rfl] at h
    exact ⟨by omega, fun k h1 h2 => by omega⟩
theorem t3_lt {a b c : Nat} (h3 : bc set 5 ≤ 3) (ha : a < rr set 0) (hb : b < rr set 1) (hc : c < rr set 2) : t3 a b c < 10 ^ bc set 5 := by
  unfold rr at ha hb hc
  unfold t3
  generalize bc set 5 = n at *
  match n, h3 with
  | 0, _ =>
    rw [if_neg (by decide)] at ha hb hc
    rw [Nat.pow_zero]; omega
  | 1, _ =>
    rw [if_pos (by decide)] at ha
    rw [if_neg (by decide)] at hb hc
    rw [Nat.pow_one]; omega
  | 2, _ =>
    rw [if_pos (by decide)] at ha hb
    rw [if_neg (by decide)] at hc
    rw [show (10 : Nat) ^ 2 = 100 from rfl]; omega
  | 3, _ =>
    rw [if_pos (by decide)] at ha hb hc
    rw [show (10 : Nat) ^ 3 = 1000 from rfl]; omega
/-- the ways seen are the codes that do -/
theorem Q0_iff (hd : okD D) (hs : isS D set) {M : Nat → Nat} (hM : ∀ i j, i < 5 → j < 5 → (M i).testBit j = me (pfr D set) 60 D i j) (hg : ga (pfr D set) 60 D = 0) (c : Nat) : Q0 D set M (rr set 0) c ↔ c < 10 ^ bc set 5 ∧ okc D set c = true := by
  obtain ⟨s32, s3, sW⟩ := isS_ok hd hs
  have hr0 := rr_le set 0
  have hr1 := rr_le set 1
  have hr2 := rr_le set 2
  have hk0 : ∀ a b c, a < 10 → b < 10 → c < 10 → sk D set M 0 (t3 a b c) = sk D set M 0 (t3 a 0 0) := fun a b c ha hb hc => sk_cong s32 (fun q hq => by
    obtain ⟨d0, _, _⟩ := t3_dg ha hb hc
    obtain ⟨d0', _, _⟩ := t3_dg ha (show 0 < 10 by omega) (show 0 < 10 by omega)
    rw [show q = 0 by omega, d0, d0'])
  have hk1 : ∀ a b c, a < 10 → b < 10 → c < 10 → sk D set M 1 (t3 a b c) = sk D set M 1 (t3 a b 0) := fun a b c ha hb hc => sk_cong s32 (fun q hq => by
    obtain ⟨d0, d1, _⟩ := t3_dg ha hb hc
    obtain ⟨d0', d1', _⟩ := t3_dg ha hb (show 0 < 10 by omega)
    match q, hq with
    | 0, _ => rw [d0, d0']
    | 1, _ => rw [d1, d1'])
  constructor
  · rintro ⟨a, ha, q0, b, hb, q1, x, hx, q2, rfl⟩
    refine ⟨t3_lt s3 ha hb hx, (okc_iff hd s32 s3 sW hM _).mpr ⟨hg, fun k hk => ?_⟩⟩
    match k, hk with
    | 0, _ => rw [hk0 a b x (by omega) (by omega) (by omega)]; exact q0
    | 1, _ => rw [hk1 a b x (by omega) (by omega) (by omega)]; exact q1
    | 2, _ => exact q2
  · rintro ⟨hc, ho⟩
    obtain ⟨_, hk⟩ := (okc_iff hd s32 s3 sW hM _).mp ho
    obtain ⟨e, hz⟩ := t3_of s3 hc
    have d0 := dg_lt c 0
    have d1 := dg_lt c 1
    have d2 := dg_lt c 2
    have hin : ∀ k, k < 3 → dg c k < rr set k := fun k hk => by
      unfold rr
      by_cases q : k < bc set 5
      · rw [if_pos q]; exact dg_lt c k
      · rw [if_neg q, hz k q hk]; omega
    refine ⟨dg c 0, hin 0 (by omega), ?_, dg c 1, hin 1 (by omega), ?_, dg c 2, hin 2 (by omega), ?_, e⟩
    · rw [← hk0 (dg c 0) (dg c 1) (dg c 2) d0 d1 d2, ← e]; exact hk 0 (by omega)
    · rw [← hk1 (dg c 0) (dg c 1) (dg c 2) d0 d1 d2, ← e]; exact hk 1 (by omega)
    · rw [← e]; exact hk 2 (by omega)
/-- FITS by the class; what its least and most say -/
theorem cl_ways (hd : okD D) (hs : isS D set) {S : Mem} (hr : RC D S) : ∃ S', f_Loads_waysFor (nI set) S = some (nI (fitsN D set), S') ∧ frC S S' ∧ S'.1 14 1 = nI (D 55 7) ∧ (fitsN D set ≠ 0 → S'.1 47 7 = nI (fitsN D set) ∧ ∀ k, k < bc set 5 → WK set (fun c => c < 10 ^ bc set 5 ∧ okc D set c = true) k S') := by
  obtain ⟨s32, s3, sW⟩ := isS_ok hd hs
  have w5 := hd.2.1.1
  obtain ⟨S1, e1, f1, p6, p5, p7, p49, p48, p50⟩ := cl_gather hd s32 s3 hr rfl
  have hr1 : RC D S1 := RC_f hd hr (fun a k q => f1 a k (by omega))
  obtain ⟨S2, e2, f2, z2, m2, q2, n2⟩ := cm_begin hd (free := set) s32 hr1
  have hr2 : RC D S2 := RC_f hd hr1 (fun a k q => f2 a k (by omega) (by omega) (by omega) (by omega))
  obtain ⟨S3, e3, f3, z3, M, hM, bM⟩ := cm_goAll hd hr2 m2 q2 n2
  have hr3 : RC D S3 := RC_f hd hr2 (frW_C f3)
  have hgl := ga_le (P := pfr D set) 60 D w5
  have bM' : ∀ i j, i < 5 → j < 5 → (M i).testBit j = me (pfr D set) 60 D i j := fun i j hi hj => by rw [bM i j hi hj]; simp
  have hc3 : frC S S3 := fun a k q => by rw [f3 a k (by omega) (by omega) (by omega) (by omega) (by omega) (by omega), f2 a k (by omega) (by omega) (by omega) (by omega), f1 a k (by omega)]
  by_cases hg : ga (pfr D set) 60 D = 0
  rotate_left
  · have hz : fitsN D set = 0 := sm_zero (fun c _ => by
      cases e : okc D set c
      · simp
      · exact absurd ((okc_iff hd s32 s3 sW bM' c).mp e).1 hg)
    refine ⟨S3, ?_, hc3, hr3.w, fun q => absurd hz q⟩
    rw [hz, f_Loads_waysFor_eq]
    simp (disch := omega) only [zL0, zL1, zL2, zL3, zL4, zL5, zL6, zL7, zL8, zL9, zL10, zL12, zL20, zL30, zL31, zL32, zL44, zL48, zL49, zL50, zL56, zL59, zL60, zL61, zL64, zL65, zL97, zL99, zL100, zL101, zL102, zL103, zL104, zL111, zL119, zL126, zL255, zL512, zL617, zL65535, zL65536, zL1048576, zlt, zle, zeq, ztn, zin, zzb, zadd, zmul, zm_lt, zm_gt, zm_le, zm_ge, zm_eq, zm_eq', zm_in, if_pos, if_neg, bI_s, bJ_s, bA_s, bU_s, if_true, if_false, reduceIte, or_true, true_or, or_false, false_or, and_true, true_and, and_false, false_and, not_true_eq_false, not_false_eq_true, Nat.reduceEqDiff, Nat.zero_ne_one, Nat.one_ne_zero, e1, p6, e2, e3]
  · have g : ∀ x k, 47 ≤ x → S3.1 x k = S1.1 x k := fun x k q => by rw [f3 x k (by omega) (by omega) (by omega) (by omega) (by omega) (by omega), f2 x k (by omega) (by omega) (by omega) (by omega)]
    have hL : LSt set (fun j => if j < D 55 7 then D 62 j else 0) M S3 := by
      refine ⟨?_, ?_, fun k hk => ?_, fun i hi => ⟨?_, ?_⟩, hM⟩
      · rw [g _ _ (by omega)]; exact p6
      · rw [g _ _ (by omega)]; exact p5
      · rw [g _ _ (by omega)]; exact p49 k hk
      · rw [g _ _ (by omega)]; exact p48 i hi
      · show (if i < D 55 7 then D 62 i else 0) < 1000
        by_cases q : i < D 55 7
        · rw [if_pos q]; have := hd.2.1.2 i q; omega
        · rw [if_neg q]; omega
    have hSt : St D set M S3 0 0 (fun _ => False) 0 S3 := by
      refine ⟨hr3, frY_r S3, _, hL, ⟨fun j hj hw _ => ?_, fun k hk => absurd hk (Nat.not_lt_zero k)⟩, ?_, fun k hk => ?_⟩
      · show (if j < D 55 7 then D 62 j else 0) = D 62 j
        rw [if_pos hw]
      · rw [g _ _ (by omega)]; exact p7
      · have hb := bc_le set 5
        obtain ⟨a1, a2, a3⟩ := mem_ok set s32 k (by omega) hk
        exact ⟨20, 0, by rw [g _ _ (by omega)]; exact (p50 _ a1).1, by rw [g _ _ (by omega)]; exact (p50 _ a1).2, Nat.le_refl _, by omega, fun c q => q.elim, fun ⟨c, q⟩ => q.elim, fun _ => ⟨rfl, rfl⟩⟩
    obtain ⟨S4, e4, h4⟩ := cl_outer hd s32 s3 sW hSt
    have hfit : g0 D set M = fitsN D set := by
      rw [g0_sum s32]
      unfold fitsN
      rw [sm_codes (set := set) _ s3]
      refine sm_cong (fun a _ => sm_cong (fun b _ => sm_cong (fun c _ => ?_)))
      have hi := okc_iff hd s32 s3 sW bM' (t3 a b c)
      have hb : (sk D set M 0 (t3 a b c) && sk D set M 1 (t3 a b c) && sk D set M 2 (t3 a b c)) = okc D set (t3 a b c) := by
        rw [Bool.eq_iff_iff, hi]
        simp only [Bool.and_eq_true]
        constructor
        · rintro ⟨⟨w0, w1⟩, w2⟩
          exact ⟨hg, fun k hk => by
            match k, hk with
            | 0, _ => exact w0
            | 1, _ => exact w1
            | 2, _ => exact w2⟩
        · rintro ⟨_, w⟩
          exact ⟨⟨w 0 (by omega), w 1 (by omega)⟩, w 2 (by omega)⟩
      rw [hb]
    rw [hfit] at e4 h4
    obtain ⟨r4, f4, T, L4, A4, W4⟩ := h4
    refine ⟨S4, ?_, frC_t hc3 (frY_C f4), r4.w, fun _ => ⟨W4.1, fun k hk => WK_cong (W4.2 k hk) (fun c => Q0_iff hd hs bM' hg c)⟩⟩
    rw [f_Loads_waysFor_eq]
    simp (disch := omega) only [zL0, zL1, zL2, zL3, zL4, zL5, zL6, zL7, zL8, zL9, zL10, zL12, zL20, zL30, zL31, zL32, zL44, zL48, zL49, zL50, zL56, zL59, zL60, zL61, zL64, zL65, zL97, zL99, zL100, zL101, zL102, zL103, zL104, zL111, zL119, zL126, zL255, zL512, zL617, zL65535, zL65536, zL1048576, zlt, zle, zeq, ztn, zin, zzb, zadd, zmul, zm_lt, zm_gt, zm_le, zm_ge, zm_eq, zm_eq', zm_in, if_pos, if_neg, bI_s, bJ_s, bA_s, bU_s, if_true, if_false, reduceIte, or_true, true_or, or_false, false_or, and_true, true_and, and_false, false_and, not_true_eq_false, not_false_eq_true, Nat.reduceEqDiff, Nat.zero_ne_one, Nat.one_ne_zero, e1, p6, e2, e3]
    exact e4
end FK
