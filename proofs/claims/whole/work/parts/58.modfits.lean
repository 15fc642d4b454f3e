/-! FITS by the model -/
section FM
variable {D : DD} {set : Nat}
/-- a walker's loads in all the ways, as bits -/
def mkm (D : DD) (set w : Nat) : Nat → Nat
  | 0 => 0
  | n + 1 => if okc D set n then mkm D set w n ||| 2 ^ Lc D set n w else mkm D set w n
theorem mkm_bit {w v : Nat} : ∀ {n : Nat}, (mkm D set w n).testBit v = true ↔ ∃ c, c < n ∧ okc D set c = true ∧ Lc D set c w = v
  | 0 => by simp [mkm]
  | n + 1 => by
    unfold mkm
    by_cases ho : okc D set n = true
    · rw [if_pos ho, Nat.testBit_or, Bool.or_eq_true, mkm_bit (n := n), Nat.testBit_two_pow, decide_eq_true_eq]
      constructor
      · rintro (⟨c, h1, h2⟩ | h)
        · exact ⟨c, by omega, h2⟩
        · exact ⟨n, by omega, ho, h⟩
      · rintro ⟨c, h1, h2, h3⟩
        by_cases e : c = n
        · rw [e] at h3; exact Or.inr h3
        · exact Or.inl ⟨c, by omega, h2, h3⟩
    · rw [if_neg ho, mkm_bit (n := n)]
      constructor
      · rintro ⟨c, h1, h2⟩; exact ⟨c, by omega, h2⟩
      · rintro ⟨c, h1, h2, h3⟩
        by_cases e : c = n
        · rw [e] at h2; exact absurd h2 ho
        · exact ⟨c, by omega, h2, h3⟩
theorem Lc_le (hd : okD D) {c w : Nat} (hw : w < D 55 7) : Lc D set c w ≤ 20 := by
  unfold Lc
  split
  · have := dg_lt c (bc set w); omega
  · exact (hd.2.1.2 w hw).2.2.2.1
theorem mkm_lt (hd : okD D) {w : Nat} (hw : w < D 55 7) : ∀ n, mkm D set w n < 2147483648
  | 0 => by unfold mkm; omega
  | n + 1 => by
    have h1 := mkm_lt hd hw n
    have h2 := Lc_le (set := set) (c := n) hd hw
    unfold mkm
    split
    · exact zor_lt h1 (zp_lt (by omega))
    · exact h1
theorem pk_d {a : Nat} (h : a < 1000000) : nI a / nI 10 = nI (a / 10) := pk_div (by omega) (by omega) (by omega)
theorem pk_r {a : Nat} (h : a < 1000000) : nI a - nI a / nI 10 * nI 10 = nI (a % 10) := pk_rem (by omega) (by omega) (by omega)
theorem pk_r2 {a : Nat} : nI a - nI (a / 10 * 10) = nI (a % 10) := by
  rw [zsub (by omega)]; congr 1; omega
/-- cells that FITS of the model may touch, but for the loads -/
def frZ (S S' : Mem) : Prop := ∀ a k, a ≠ 62 → ¬ (a = 55 ∧ (k = 29 ∨ k = 30 ∨ k = 31 ∨ k = 35 ∨ k = 36 ∨ k = 40)) → a ≠ 60 → a ≠ 65 → a ≠ 71 → a ≠ 72 → a ≠ 73 → S'.1 a k = S.1 a k
theorem frZ_t {S S' S'' : Mem} (h : frZ S S') (h2 : frZ S' S'') : frZ S S'' := fun a k q0 q1 q2 q3 q4 q5 q6 => by rw [h2 a k q0 q1 q2 q3 q4 q5 q6, h a k q0 q1 q2 q3 q4 q5 q6]
theorem RM_62 {L : Nat → Nat} {S : Mem} (h : RM (dS D 62 L) S) {j v : Nat} : RM (dS D 62 (dU L j v)) (u1 S 62 j (nI v)) := by
  intro a k q
  by_cases a62 : a = 62
  · subst a62
    rw [dS_s]
    by_cases e : k = j
    · rw [zuS ⟨rfl, e⟩, dU_s e]
    · rw [zuN (by omega), dU_n e, h 62 k q, dS_s]
  · rw [zuN (by omega), dS_n a62, h a k q, dS_n a62]
/-- a code's loads are laid -/
theorem mf_lay (hd : okD D) (hs : isS D set) {c w codes all : Nat} (hc : c < 1000) {L : Nat → Nat} (hL : ∀ j, set.testBit j = false → L j = D 62 j) {S : Mem} (hm : RM (dS D 62 L) S) : ∃ S', k_Mod_fitsNow_73 (nI set) (nI w) (nI codes) (nI all) (nI c) (nI c) (nI 0) S = k_Mod_fitsNow_73 (nI set) (nI w) (nI codes) (nI all) (nI c) (nI (c / 10 ^ bc set (D 55 7))) (nI (D 55 7)) S' ∧ RM (dS D 62 (Lc D set c)) S' ∧ (∀ a k, a ≠ 62 → S'.1 a k = S.1 a k) ∧ S'.2 = S.2 := by
  obtain ⟨s32, s3, sW⟩ := isS_ok hd hs
  have w5 := hd.2.1.1
  obtain ⟨left, S1, e1, hl, L1, hm1, hL1, hLc, f1, z1⟩ := zforT (τ := Nat) (fun j left S => k_Mod_fitsNow_73 (nI set) (nI w) (nI codes) (nI all) (nI c) (nI left) (nI j) S) (D 55 7) (fun j left S1 => left = c / 10 ^ bc set j ∧ ∃ L1 : Nat → Nat, RM (dS D 62 L1) S1 ∧ (∀ q, set.testBit q = false → L1 q = D 62 q) ∧ (∀ q, q < j → L1 q = Lc D set c q) ∧ (∀ a k, a ≠ 62 → S1.1 a k = S.1 a k) ∧ S1.2 = S.2) (by
    intro j left S1 hj ⟨hl, L1, hm1, hL1, hLc, f1, z1⟩
    have k7 := hm1.r 55 7 (by omega)
    rw [dS_n (by omega)] at k7
    have k62 := hm1.r 62 j (by omega)
    rw [dS_s] at k62
    have hlt : left ≤ c := by rw [hl]; exact Nat.div_le_self _ _
    have hh : ∀ S : Mem, f_Mod_has (nI set) (nI j) S = some (nI (if set.testBit j then 1 else 0), S) := fun S => mo_has (by omega) (by omega)
    cases cb : set.testBit j
    · rw [cb] at hh
      refine ⟨left, u1 S1 62 j (nI (L1 j)), ?_, ?_, dU L1 j (L1 j), RM_62 hm1, fun q hq => ?_, fun q hq => ?_, fun a k q => by rw [zuN (by omega), f1 a k q], z1⟩
      · rw [k_Mod_fitsNow_73_eq]
        simp (disch := omega) only [zL0, zL1, zL2, zL3, zL4, zL5, zL6, zL7, zL8, zL9, zL10, zL12, zL20, zL30, zL31, zL32, zL44, zL48, zL49, zL50, zL56, zL59, zL60, zL61, zL64, zL65, zL97, zL99, zL100, zL101, zL102, zL103, zL104, zL111, zL119, zL126, zL255, zL512, zL617, zL65535, zL65536, zL1048576, zlt, zle, zeq, ztn, zin, zzb, zadd, zmul, zm_lt, zm_gt, zm_le, zm_ge, zm_eq, zm_eq', zm_in, if_pos, if_neg, bI_s, bJ_s, bA_s, bU_s, if_true, if_false, reduceIte, or_true, true_or, or_false, false_or, and_true, true_and, and_false, false_and, not_true_eq_false, not_false_eq_true, Nat.reduceEqDiff, Nat.zero_ne_one, Nat.one_ne_zero, k7, k62, hh, k_Mod_fitsNow_112_eq, k_Mod_fitsNow_132_eq, Bool.false_eq_true]
      · rw [hl, bc, cb]; simp
      · by_cases e : q = j
        · rw [dU_s e, ← hL1 q hq, e]
        · rw [dU_n e]; exact hL1 q hq
      · by_cases e : q = j
        · rw [dU_s e, hL1 j cb, e]
          unfold Lc
          rw [cb]; rfl
        · rw [dU_n e]; exact hLc q (by omega)
    · rw [cb] at hh
      refine ⟨left / 10, u1 S1 62 j (nI (left % 10)), ?_, ?_, dU L1 j (left % 10), RM_62 hm1, fun q hq => ?_, fun q hq => ?_, fun a k q => by rw [zuN (by omega), f1 a k q], z1⟩
      · rw [k_Mod_fitsNow_73_eq]
        simp (disch := omega) only [zL0, zL1, zL2, zL3, zL4, zL5, zL6, zL7, zL8, zL9, zL10, zL12, zL20, zL30, zL31, zL32, zL44, zL48, zL49, zL50, zL56, zL59, zL60, zL61, zL64, zL65, zL97, zL99, zL100, zL101, zL102, zL103, zL104, zL111, zL119, zL126, zL255, zL512, zL617, zL65535, zL65536, zL1048576, zlt, zle, zeq, ztn, zin, zzb, zadd, zmul, zm_lt, zm_gt, zm_le, zm_ge, zm_eq, zm_eq', zm_in, if_pos, if_neg, bI_s, bJ_s, bA_s, bU_s, if_true, if_false, reduceIte, or_true, true_or, or_false, false_or, and_true, true_and, and_false, false_and, not_true_eq_false, not_false_eq_true, Nat.reduceEqDiff, Nat.zero_ne_one, Nat.one_ne_zero, k7, hh, k_Mod_fitsNow_112_eq, k_Mod_fitsNow_132_eq, pk_d, pk_r2]
      · rw [hl, bc, cb, if_pos rfl, Nat.pow_succ, Nat.div_div_eq_div_mul]
      · have : q ≠ j := fun e => by rw [e, cb] at hq; cases hq
        rw [dU_n this]; exact hL1 q hq
      · by_cases e : q = j
        · rw [dU_s e, e, hl]
          unfold Lc dg
          rw [cb]; rfl
        · rw [dU_n e]; exact hLc q (by omega)) (D 55 7) 0 c S (by omega) ⟨by show c = c / 10 ^ 0; rw [Nat.pow_zero, Nat.div_one], L, hm, hL, fun _ _ => by omega, fun _ _ _ => rfl, rfl⟩
  have hLL : L1 = Lc D set c := by
    funext q
    by_cases c1 : q < D 55 7
    · exact hLc q c1
    · have : set.testBit q = false := by
        cases e : set.testBit q
        · rfl
        · exact absurd (sW q e) c1
      rw [hL1 q this]
      unfold Lc
      rw [this]; rfl
  rw [hLL] at hm1
  rw [← hl]
  exact ⟨S1, e1, hm1, f1, z1⟩
theorem mf_code (hd : okD D) (hs : isS D set) {c w codes all : Nat} (hc : c < 1000) (hw5 : w < 5) {L : Nat → Nat} (hL : ∀ j, set.testBit j = false → L j = D 62 j) {S : Mem} (hm : RM (dS D 62 L) S) : ∃ S', k_Mod_fitsNow_73 (nI set) (nI w) (nI codes) (nI all) (nI c) (nI c) (nI 0) S = k_Mod_fitsNow_170 (nI set) (nI w) (nI codes) (nI (all + if okc D set c then 1 else 0)) (nI c) S' ∧ RM (dS D 62 (Lc D set c)) S' ∧ frZ S S' ∧ (w < D 55 7 → ∀ g, g < 2147483648 → S.1 55 40 = nI g → S'.1 55 40 = nI (if okc D set c then g ||| 2 ^ Lc D set c w else g)) ∧ S'.2 = S.2 := by
  obtain ⟨s32, s3, sW⟩ := isS_ok hd hs
  have w5 := hd.2.1.1
  obtain ⟨S1, e1, m1, f1, z1⟩ := mf_lay (w := w) (codes := codes) (all := all) hd hs hc hL hm
  have hn1 : okN (dS D 62 (Lc D set c)) := okN_d hd.1 rfl rfl rfl rfl rfl rfl
  have hw1 : okW (dS D 62 (Lc D set c)) := okW_d hd.2.1 rfl rfl rfl rfl rfl rfl rfl (fun i hi => Lc_le hd hi) rfl rfl rfl
  obtain ⟨S2, e2, m2, f2, _⟩ := mo_firstOf (set := 31) (by omega) m1 hn1 hw1
  have hfo : fo (qs 31) (mp (dS D 62 (Lc D set c))) 60 1 (dS D 62 (Lc D set c)) = fo (qs 31) (mp (dS D 62 (Lc D set c))) 60 1 D := fo_62 60 1 D _ (fun a ha => dS_n ha)
  rw [hfo] at e2
  have k7 := m1.r 55 7 (by omega)
  rw [dS_n (by omega)] at k7
  have z2 : frZ S S2 := fun a k q0 q1 q2 q3 q4 q5 q6 => by rw [f2.1 a k (by omega) q2 q3 q4 q5 q6, f1 a k q0]
  rw [e1, k_Mod_fitsNow_73_eq]
  unfold okc
  cases hr : fo (qs 31) (mp (dS D 62 (Lc D set c))) 60 1 D with
  | none =>
    rw [hr] at e2
    refine ⟨u1 S2 55 40 (S2.1 55 40 ||| (nI 1 <<< (S2.1 62 w &&& nI 31))), ?_, RM_x m2 (by omega), fun a k q0 q1 q2 q3 q4 q5 q6 => by rw [zuN (by omega), z2 a k q0 q1 q2 q3 q4 q5 q6], fun hw g hg h40 => ?_, f2.2.trans z1⟩
    · simp (disch := omega) only [zL0, zL1, zL2, zL3, zL4, zL5, zL6, zL7, zL8, zL9, zL10, zL12, zL20, zL30, zL31, zL32, zL44, zL48, zL49, zL50, zL56, zL59, zL60, zL61, zL64, zL65, zL97, zL99, zL100, zL101, zL102, zL103, zL104, zL111, zL119, zL126, zL255, zL512, zL617, zL65535, zL65536, zL1048576, zlt, zle, zeq, ztn, zin, zzb, zadd, zmul, zm_lt, zm_gt, zm_le, zm_ge, zm_eq, zm_eq', zm_in, if_pos, if_neg, bI_s, bJ_s, bA_s, bU_s, if_true, if_false, reduceIte, or_true, true_or, or_false, false_or, and_true, true_and, and_false, false_and, not_true_eq_false, not_false_eq_true, Nat.reduceEqDiff, Nat.zero_ne_one, Nat.one_ne_zero, k7, e2, foR, Option.isNone_none]
    · have k62 := m2.r 62 w (by omega)
      rw [dS_s] at k62
      have hle := Lc_le (set := set) (c := c) hd hw
      have g40 : S2.1 55 40 = nI g := by rw [f2.1 _ _ (by omega) (by omega) (by omega) (by omega) (by omega) (by omega), f1 _ _ (by omega), h40]
      rw [zuS ⟨rfl, rfl⟩, g40, k62, zsh (by omega), zor]
      rfl
  | some r =>
    rw [hr] at e2
    have hle := fo_le hr
    refine ⟨S2, ?_, m2, z2, fun hw g hg h40 => ?_, f2.2.trans z1⟩
    · simp (disch := omega) only [zL0, zL1, zL2, zL3, zL4, zL5, zL6, zL7, zL8, zL9, zL10, zL12, zL20, zL30, zL31, zL32, zL44, zL48, zL49, zL50, zL56, zL59, zL60, zL61, zL64, zL65, zL97, zL99, zL100, zL101, zL102, zL103, zL104, zL111, zL119, zL126, zL255, zL512, zL617, zL65535, zL65536, zL1048576, zlt, zle, zeq, ztn, zin, zzb, zadd, zmul, zm_lt, zm_gt, zm_le, zm_ge, zm_eq, zm_eq', zm_in, if_pos, if_neg, bI_s, bJ_s, bA_s, bU_s, if_true, if_false, reduceIte, or_true, true_or, or_false, false_or, and_true, true_and, and_false, false_and, not_true_eq_false, not_false_eq_true, Nat.reduceEqDiff, Nat.zero_ne_one, Nat.one_ne_zero, k7, e2, foR, Option.isNone_some, Bool.false_eq_true, Nat.add_zero]
    · rw [f2.1 _ _ (by omega) (by omega) (by omega) (by omega) (by omega) (by omega), f1 _ _ (by omega), h40]
      simp
theorem pw10 : ∀ n, n ≤ 3 → 10 ^ n ≤ 1000 := by decide
theorem mo_fitsNow (hd : okD D) (hs : isS D set) {w : Nat} (hw5 : w < 5) {S : Mem} (hm : RM D S) : ∃ S', f_Mod_fitsNow (nI set) (nI w) S = some (nI (fitsN D set), S') ∧ RM D S' ∧ frM S S' ∧ S'.2 = S.2 ∧ (w < D 55 7 → S'.1 55 40 = nI (mkm D set w (10 ^ bc set 5))) := by
  obtain ⟨s32, s3, sW⟩ := isS_ok hd hs
  have w5 := hd.2.1.1
  have hcl := pw10 (bc set 5) s3
  have hbc : ∀ j, j ≤ 5 → 10 ^ bc set j ≤ 1000 := fun j hj => pw10 _ (Nat.le_trans (bc_mono hj) s3)
  obtain ⟨codes, S1, e1, hc1, p74, f1, z1⟩ := zforT (τ := Nat) (fun j t S => k_Mod_fitsNow_5 (nI set) (nI w) (nI t) (nI j) S) 5 (fun j t S1 => t = 10 ^ bc set j ∧ (∀ q, q < j → S1.1 74 q = nI (D 62 q)) ∧ (∀ a k, a ≠ 74 → S1.1 a k = S.1 a k) ∧ S1.2 = S.2) (by
    intro j t S1 hj ⟨ht, p74, f1, z1⟩
    have hh : ∀ S : Mem, f_Mod_has (nI set) (nI j) S = some (nI (if set.testBit j then 1 else 0), S) := fun S => mo_has (by omega) (by omega)
    have k62 : S1.1 62 j = nI (D 62 j) := by rw [f1 _ _ (by omega)]; exact hm.r 62 j (by omega)
    refine ⟨10 ^ bc set (j + 1), u1 S1 74 j (nI (D 62 j)), ?_, rfl, fun q hq => ?_, fun a k q => by rw [zuN (by omega), f1 a k q], z1⟩
    · rw [k_Mod_fitsNow_5_eq, ht, bc]
      cases cb : set.testBit j
      · rw [cb] at hh
        simp (disch := omega) only [zL0, zL1, zL2, zL3, zL4, zL5, zL6, zL7, zL8, zL9, zL10, zL12, zL20, zL30, zL31, zL32, zL44, zL48, zL49, zL50, zL56, zL59, zL60, zL61, zL64, zL65, zL97, zL99, zL100, zL101, zL102, zL103, zL104, zL111, zL119, zL126, zL255, zL512, zL617, zL65535, zL65536, zL1048576, zlt, zle, zeq, ztn, zin, zzb, zadd, zmul, zm_lt, zm_gt, zm_le, zm_ge, zm_eq, zm_eq', zm_in, if_pos, if_neg, bI_s, bJ_s, bA_s, bU_s, if_true, if_false, reduceIte, or_true, true_or, or_false, false_or, and_true, true_and, and_false, false_and, not_true_eq_false, not_false_eq_true, Nat.reduceEqDiff, Nat.zero_ne_one, Nat.one_ne_zero, k62, hh, k_Mod_fitsNow_41_eq, Bool.false_eq_true, Nat.add_zero, Nat.mul_one]
      · rw [cb] at hh
        simp (disch := omega) only [zL0, zL1, zL2, zL3, zL4, zL5, zL6, zL7, zL8, zL9, zL10, zL12, zL20, zL30, zL31, zL32, zL44, zL48, zL49, zL50, zL56, zL59, zL60, zL61, zL64, zL65, zL97, zL99, zL100, zL101, zL102, zL103, zL104, zL111, zL119, zL126, zL255, zL512, zL617, zL65535, zL65536, zL1048576, zlt, zle, zeq, ztn, zin, zzb, zadd, zmul, zm_lt, zm_gt, zm_le, zm_ge, zm_eq, zm_eq', zm_in, if_pos, if_neg, bI_s, bJ_s, bA_s, bU_s, if_true, if_false, reduceIte, or_true, true_or, or_false, false_or, and_true, true_and, and_false, false_and, not_true_eq_false, not_false_eq_true, Nat.reduceEqDiff, Nat.zero_ne_one, Nat.one_ne_zero, k62, hh, k_Mod_fitsNow_41_eq, Nat.pow_succ]
    · by_cases e : q = j
      · rw [zuS ⟨rfl, e⟩, e]
      · rw [zuN (by omega), p74 q (by omega)]) 5 0 1 S (by omega) ⟨rfl, fun _ _ => by omega, fun _ _ _ => rfl, rfl⟩
  subst hc1
  have m1 : RM D S1 := RM_fr hm (fun a k q => f1 a k (by omega))
  have m1' : RM (dS D 62 (D 62)) (u1 S1 55 40 (nI 0)) := by
    intro a k q
    rw [zuN (by omega), m1 a k q]
    congr 1
    by_cases e : a = 62
    · subst e; rw [dS_s]
    · rw [dS_n e]
  obtain ⟨all, S2, e2, ha, L, m2, hL, g74, g40, f2, z2⟩ := zforT (τ := Nat) (fun c all S => k_Mod_fitsNow_60 (nI set) (nI w) (nI (10 ^ bc set 5)) (nI all) (nI c) S) (10 ^ bc set 5) (fun c all S2 => all = sm (fun c => if okc D set c then 1 else 0) c ∧ ∃ L : Nat → Nat, RM (dS D 62 L) S2 ∧ (∀ j, set.testBit j = false → L j = D 62 j) ∧ (∀ q, q < 5 → S2.1 74 q = nI (D 62 q)) ∧ (w < D 55 7 → S2.1 55 40 = nI (mkm D set w c)) ∧ (∀ a k, a < 55 → S2.1 a k = S1.1 a k) ∧ S2.2 = S1.2) (by
    intro c all S2 hc ⟨ha, L, m2, hL, g74, g40, f2, z2⟩
    have hsl : sm (fun c => if okc D set c then 1 else 0) c ≤ c * 1 := sm_le (fun k _ => by split <;> omega)
    obtain ⟨S3, e3, m3, f3, g3, z3⟩ := mf_code (w := w) (codes := 10 ^ bc set 5) (all := all) hd hs (show c < 1000 by omega) hw5 hL m2
    refine ⟨all + if okc D set c then 1 else 0, S3, ?_, ?_, Lc D set c, m3, fun j hj => ?_, fun q hq => ?_, fun hw => ?_, fun a k q => ?_, z3.trans z2⟩
    · rw [k_Mod_fitsNow_60_eq]
      simp (disch := omega) only [zL0, zL1, zL2, zL3, zL4, zL5, zL6, zL7, zL8, zL9, zL10, zL12, zL20, zL30, zL31, zL32, zL44, zL48, zL49, zL50, zL56, zL59, zL60, zL61, zL64, zL65, zL97, zL99, zL100, zL101, zL102, zL103, zL104, zL111, zL119, zL126, zL255, zL512, zL617, zL65535, zL65536, zL1048576, zlt, zle, zeq, ztn, zin, zzb, zadd, zmul, zm_lt, zm_gt, zm_le, zm_ge, zm_eq, zm_eq', zm_in, if_pos, if_neg, bI_s, bJ_s, bA_s, bU_s, if_true, if_false, reduceIte, or_true, true_or, or_false, false_or, and_true, true_and, and_false, false_and, not_true_eq_false, not_false_eq_true, Nat.reduceEqDiff, Nat.zero_ne_one, Nat.one_ne_zero]
      rw [e3, k_Mod_fitsNow_170_eq]
      simp (disch := omega) only [zL0, zL1, zL2, zL3, zL4, zL5, zL6, zL7, zL8, zL9, zL10, zL12, zL20, zL30, zL31, zL32, zL44, zL48, zL49, zL50, zL56, zL59, zL60, zL61, zL64, zL65, zL97, zL99, zL100, zL101, zL102, zL103, zL104, zL111, zL119, zL126, zL255, zL512, zL617, zL65535, zL65536, zL1048576, zlt, zle, zeq, ztn, zin, zzb, zadd, zmul, zm_lt, zm_gt, zm_le, zm_ge, zm_eq, zm_eq', zm_in, if_pos, if_neg, bI_s, bJ_s, bA_s, bU_s, if_true, if_false, reduceIte, or_true, true_or, or_false, false_or, and_true, true_and, and_false, false_and, not_true_eq_false, not_false_eq_true, Nat.reduceEqDiff, Nat.zero_ne_one, Nat.one_ne_zero]
    · rw [ha]; rfl
    · unfold Lc; rw [hj]; rfl
    · rw [f3 _ _ (by omega) (by omega) (by omega) (by omega) (by omega) (by omega) (by omega)]; exact g74 q hq
    · rw [g3 hw _ (mkm_lt hd hw c) (g40 hw)]; rfl
    · rw [f3 _ _ (by omega) (by omega) (by omega) (by omega) (by omega) (by omega) (by omega), f2 a k q]) (10 ^ bc set 5) 0 0 (u1 S1 55 40 (nI 0)) (by omega) ⟨rfl, D 62, m1', fun _ _ => rfl, fun q hq => by rw [zuN (by omega)]; exact p74 q hq, fun _ => by rw [zuS ⟨rfl, rfl⟩]; rfl, fun a k q => by rw [zuN (by omega)], rfl⟩
  have hfl : all = fitsN D set := ha
  have hsl : fitsN D set ≤ 10 ^ bc set 5 * 1 := sm_le (fun k _ => by split <;> omega)
  obtain ⟨S3, e3, ⟨L3, m3, hL3, hL3'⟩, f3, z3⟩ := zfor (fun j S => k_Mod_fitsNow_179 (nI all) (nI j) S) 5 (fun j S3 => (∃ L3 : Nat → Nat, RM (dS D 62 L3) S3 ∧ (∀ q, set.testBit q = false → L3 q = D 62 q) ∧ ∀ q, q < j → L3 q = D 62 q) ∧ (∀ a k, a ≠ 62 → S3.1 a k = S2.1 a k) ∧ S3.2 = S2.2) (by
    intro j S3 hj ⟨⟨L3, m3, hL3, hL3'⟩, f3, z3⟩
    have k74 : S3.1 74 j = nI (D 62 j) := by rw [f3 _ _ (by omega)]; exact g74 j hj
    refine ⟨u1 S3 62 j (nI (D 62 j)), ?_, ⟨dU L3 j (D 62 j), RM_62 m3, fun q hq => ?_, fun q hq => ?_⟩, fun a k q => by rw [zuN (by omega), f3 a k q], z3⟩
    · rw [k_Mod_fitsNow_179_eq]
      simp (disch := omega) only [zL0, zL1, zL2, zL3, zL4, zL5, zL6, zL7, zL8, zL9, zL10, zL12, zL20, zL30, zL31, zL32, zL44, zL48, zL49, zL50, zL56, zL59, zL60, zL61, zL64, zL65, zL97, zL99, zL100, zL101, zL102, zL103, zL104, zL111, zL119, zL126, zL255, zL512, zL617, zL65535, zL65536, zL1048576, zlt, zle, zeq, ztn, zin, zzb, zadd, zmul, zm_lt, zm_gt, zm_le, zm_ge, zm_eq, zm_eq', zm_in, if_pos, if_neg, bI_s, bJ_s, bA_s, bU_s, if_true, if_false, reduceIte, or_true, true_or, or_false, false_or, and_true, true_and, and_false, false_and, not_true_eq_false, not_false_eq_true, Nat.reduceEqDiff, Nat.zero_ne_one, Nat.one_ne_zero, k74]
    · by_cases e : q = j
      · rw [dU_s e, e]
      · rw [dU_n e]; exact hL3 q hq
    · by_cases e : q = j
      · rw [dU_s e, e]
      · rw [dU_n e]; exact hL3' q (by omega)) 5 0 S2 (by omega) ⟨⟨L, m2, hL, fun _ _ => by omega⟩, fun _ _ _ => rfl, rfl⟩
  have hLD : L3 = D 62 := by
    funext q
    by_cases c : q < 5
    · exact hL3' q c
    · refine hL3 q ?_
      cases e : set.testBit q
      · rfl
      · have := sW q e; omega
  refine ⟨S3, ?_, ?_, fun a k q => ?_, ?_, fun hw => ?_⟩
  · rw [f_Mod_fitsNow_eq, zL1, zL0, e1, k_Mod_fitsNow_5_eq]
    simp (disch := omega) only [zL0, zL1, zL2, zL3, zL4, zL5, zL6, zL7, zL8, zL9, zL10, zL12, zL20, zL30, zL31, zL32, zL44, zL48, zL49, zL50, zL56, zL59, zL60, zL61, zL64, zL65, zL97, zL99, zL100, zL101, zL102, zL103, zL104, zL111, zL119, zL126, zL255, zL512, zL617, zL65535, zL65536, zL1048576, zlt, zle, zeq, ztn, zin, zzb, zadd, zmul, zm_lt, zm_gt, zm_le, zm_ge, zm_eq, zm_eq', zm_in, if_pos, if_neg, bI_s, bJ_s, bA_s, bU_s, if_true, if_false, reduceIte, or_true, true_or, or_false, false_or, and_true, true_and, and_false, false_and, not_true_eq_false, not_false_eq_true, Nat.reduceEqDiff, Nat.zero_ne_one, Nat.one_ne_zero]
    rw [e2, k_Mod_fitsNow_60_eq]
    simp (disch := omega) only [zL0, zL1, zL2, zL3, zL4, zL5, zL6, zL7, zL8, zL9, zL10, zL12, zL20, zL30, zL31, zL32, zL44, zL48, zL49, zL50, zL56, zL59, zL60, zL61, zL64, zL65, zL97, zL99, zL100, zL101, zL102, zL103, zL104, zL111, zL119, zL126, zL255, zL512, zL617, zL65535, zL65536, zL1048576, zlt, zle, zeq, ztn, zin, zzb, zadd, zmul, zm_lt, zm_gt, zm_le, zm_ge, zm_eq, zm_eq', zm_in, if_pos, if_neg, bI_s, bJ_s, bA_s, bU_s, if_true, if_false, reduceIte, or_true, true_or, or_false, false_or, and_true, true_and, and_false, false_and, not_true_eq_false, not_false_eq_true, Nat.reduceEqDiff, Nat.zero_ne_one, Nat.one_ne_zero]
    rw [e3, k_Mod_fitsNow_179_eq, hfl]
    simp (disch := omega) only [zL0, zL1, zL2, zL3, zL4, zL5, zL6, zL7, zL8, zL9, zL10, zL12, zL20, zL30, zL31, zL32, zL44, zL48, zL49, zL50, zL56, zL59, zL60, zL61, zL64, zL65, zL97, zL99, zL100, zL101, zL102, zL103, zL104, zL111, zL119, zL126, zL255, zL512, zL617, zL65535, zL65536, zL1048576, zlt, zle, zeq, ztn, zin, zzb, zadd, zmul, zm_lt, zm_gt, zm_le, zm_ge, zm_eq, zm_eq', zm_in, if_pos, if_neg, bI_s, bJ_s, bA_s, bU_s, if_true, if_false, reduceIte, or_true, true_or, or_false, false_or, and_true, true_and, and_false, false_and, not_true_eq_false, not_false_eq_true, Nat.reduceEqDiff, Nat.zero_ne_one, Nat.one_ne_zero]
  · intro a k q
    rw [m3 a k q, hLD]
    congr 1
    by_cases e : a = 62
    · subst e; rw [dS_s]
    · rw [dS_n e]
  · rw [f3 a k (by omega), f2 a k q, f1 a k (by omega)]
  · rw [z3, z2, z1]
  · rw [f3 _ _ (by omega)]; exact g40 hw
/-! SURE -/
def sul (D : DD) (set w : Nat) : Nat → Nat → Int32
  | 0, _ => -nI 1
  | m + 1, v => if mkm D set w (10 ^ bc set 5) = 2 ^ v ∧ set.testBit w = true then nI v else sul D set w m (v + 1)
theorem sul_none {w : Nat} : ∀ m v, (∀ u, v ≤ u → u < v + m → ¬ (mkm D set w (10 ^ bc set 5) = 2 ^ u ∧ set.testBit w = true)) → sul D set w m v = -nI 1
  | 0, _, _ => rfl
  | m + 1, v, h => by
    unfold sul
    rw [if_neg (h v (Nat.le_refl v) (by omega)), sul_none m (v + 1) (fun u h1 h2 => h u (by omega) (by omega))]
theorem sul_some {w u : Nat} (hu : mkm D set w (10 ^ bc set 5) = 2 ^ u) (hb : set.testBit w = true) : ∀ m v, v ≤ u → u < v + m → sul D set w m v = nI u
  | 0, v, h1, h2 => by omega
  | m + 1, v, h1, h2 => by
    unfold sul
    by_cases e : u = v
    · rw [if_pos ⟨by rw [hu, e], hb⟩, e]
    · rw [if_neg (fun q => e ((Nat.pow_right_inj (by decide)).mp (hu.symm.trans q.1))), sul_some hu hb m (v + 1) (by omega) (by omega)]
theorem mo_sureNow (hd : okD D) (hs : isS D set) {w : Nat} (hw : w < D 55 7) {S : Mem} (hm : RM D S) : ∃ S', f_Mod_sureNow (nI w) (nI set) S = some (sul D set w 10 0, S') ∧ RM D S' ∧ frM S S' := by
  obtain ⟨s32, s3, sW⟩ := isS_ok hd hs
  have w5 := hd.2.1.1
  obtain ⟨S1, e1, m1, f1, z1, g40⟩ := mo_fitsNow hd hs (w := w) (by omega) hm
  have g40 := g40 hw
  have hlt := mkm_lt (set := set) hd hw (10 ^ bc set 5)
  have hh : f_Mod_has (nI set) (nI w) S1 = some (nI (if set.testBit w then 1 else 0), S1) := mo_has (by omega) (by omega)
  have key : ∀ m v, v + m = 10 → k_Mod_sureNow_9 (nI w) (nI set) (nI v) S1 = some (sul D set w m v, S1) := by
    intro m
    induction m with
    | zero =>
      intro v hv
      rw [k_Mod_sureNow_9_eq]
      simp (disch := omega) only [zL0, zL1, zL2, zL3, zL4, zL5, zL6, zL7, zL8, zL9, zL10, zL12, zL20, zL30, zL31, zL32, zL44, zL48, zL49, zL50, zL56, zL59, zL60, zL61, zL64, zL65, zL97, zL99, zL100, zL101, zL102, zL103, zL104, zL111, zL119, zL126, zL255, zL512, zL617, zL65535, zL65536, zL1048576, zlt, zle, zeq, ztn, zin, zzb, zadd, zmul, zm_lt, zm_gt, zm_le, zm_ge, zm_eq, zm_eq', zm_in, if_pos, if_neg, bI_s, bJ_s, bA_s, bU_s, if_true, if_false, reduceIte, or_true, true_or, or_false, false_or, and_true, true_and, and_false, false_and, not_true_eq_false, not_false_eq_true, Nat.reduceEqDiff, Nat.zero_ne_one, Nat.one_ne_zero, sul]
    | succ m ih =>
      intro v hv
      have hn := ih (v + 1) (by omega)
      have hsh := zsh (a := v) (by omega)
      have hp := zp_lt (a := v) (by omega)
      have ef : ¬ (mkm D set w (10 ^ bc set 5) = 2 ^ v ∧ set.testBit w = true) → sul D set w (m + 1) v = sul D set w m (v + 1) := fun q => by rw [sul, if_neg q]
      have et : (mkm D set w (10 ^ bc set 5) = 2 ^ v ∧ set.testBit w = true) → sul D set w (m + 1) v = nI v := fun q => by rw [sul, if_pos q]
      rw [k_Mod_sureNow_9_eq]
      by_cases c1 : mkm D set w (10 ^ bc set 5) = 2 ^ v
      · rcases Bool.eq_false_or_eq_true (set.testBit w) with cb | cb
        · rw [et ⟨c1, cb⟩]
          simp (disch := omega) only [zL0, zL1, zL2, zL3, zL4, zL5, zL6, zL7, zL8, zL9, zL10, zL12, zL20, zL30, zL31, zL32, zL44, zL48, zL49, zL50, zL56, zL59, zL60, zL61, zL64, zL65, zL97, zL99, zL100, zL101, zL102, zL103, zL104, zL111, zL119, zL126, zL255, zL512, zL617, zL65535, zL65536, zL1048576, zlt, zle, zeq, ztn, zin, zzb, zadd, zmul, zm_lt, zm_gt, zm_le, zm_ge, zm_eq, zm_eq', zm_in, if_pos, if_neg, bI_s, bJ_s, bA_s, bU_s, if_true, if_false, reduceIte, or_true, true_or, or_false, false_or, and_true, true_and, and_false, false_and, not_true_eq_false, not_false_eq_true, Nat.reduceEqDiff, Nat.zero_ne_one, Nat.one_ne_zero, g40, hsh, c1, hh, cb]
        · rw [ef (fun q => by rw [cb] at q; exact absurd q.2 (by decide)), ← hn]
          simp (disch := omega) only [zL0, zL1, zL2, zL3, zL4, zL5, zL6, zL7, zL8, zL9, zL10, zL12, zL20, zL30, zL31, zL32, zL44, zL48, zL49, zL50, zL56, zL59, zL60, zL61, zL64, zL65, zL97, zL99, zL100, zL101, zL102, zL103, zL104, zL111, zL119, zL126, zL255, zL512, zL617, zL65535, zL65536, zL1048576, zlt, zle, zeq, ztn, zin, zzb, zadd, zmul, zm_lt, zm_gt, zm_le, zm_ge, zm_eq, zm_eq', zm_in, if_pos, if_neg, bI_s, bJ_s, bA_s, bU_s, if_true, if_false, reduceIte, or_true, true_or, or_false, false_or, and_true, true_and, and_false, false_and, not_true_eq_false, not_false_eq_true, Nat.reduceEqDiff, Nat.zero_ne_one, Nat.one_ne_zero, g40, hsh, c1, hh, cb, k_Mod_sureNow_35_eq, Bool.false_eq_true]
      · rw [ef (fun q => c1 q.1), ← hn]
        simp (disch := omega) only [zL0, zL1, zL2, zL3, zL4, zL5, zL6, zL7, zL8, zL9, zL10, zL12, zL20, zL30, zL31, zL32, zL44, zL48, zL49, zL50, zL56, zL59, zL60, zL61, zL64, zL65, zL97, zL99, zL100, zL101, zL102, zL103, zL104, zL111, zL119, zL126, zL255, zL512, zL617, zL65535, zL65536, zL1048576, zlt, zle, zeq, ztn, zin, zzb, zadd, zmul, zm_lt, zm_gt, zm_le, zm_ge, zm_eq, zm_eq', zm_in, if_pos, if_neg, bI_s, bJ_s, bA_s, bU_s, if_true, if_false, reduceIte, or_true, true_or, or_false, false_or, and_true, true_and, and_false, false_and, not_true_eq_false, not_false_eq_true, Nat.reduceEqDiff, Nat.zero_ne_one, Nat.one_ne_zero, g40, hsh, k_Mod_sureNow_35_eq]
  refine ⟨S1, ?_, m1, f1⟩
  rw [f_Mod_sureNow_eq]
  simp (disch := omega) only [zL0, zL1, zL2, zL3, zL4, zL5, zL6, zL7, zL8, zL9, zL10, zL12, zL20, zL30, zL31, zL32, zL44, zL48, zL49, zL50, zL56, zL59, zL60, zL61, zL64, zL65, zL97, zL99, zL100, zL101, zL102, zL103, zL104, zL111, zL119, zL126, zL255, zL512, zL617, zL65535, zL65536, zL1048576, zlt, zle, zeq, ztn, zin, zzb, zadd, zmul, zm_lt, zm_gt, zm_le, zm_ge, zm_eq, zm_eq', zm_in, if_pos, if_neg, bI_s, bJ_s, bA_s, bU_s, if_true, if_false, reduceIte, or_true, true_or, or_false, false_or, and_true, true_and, and_false, false_and, not_true_eq_false, not_false_eq_true, Nat.reduceEqDiff, Nat.zero_ne_one, Nat.one_ne_zero, e1]
  exact key 10 0 (by omega)
end FM
