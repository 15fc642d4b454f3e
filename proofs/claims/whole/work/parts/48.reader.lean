/-! THE NET as a text: the pure reader -/
abbrev Qt : Type := Nat × Nat × (Nat → Nat) × (Nat → Nat) × (Nat → Nat) × Nat × Nat
def thr (a b : Nat → Nat) (x y : Nat) : Nat → Bool
  | 0 => false
  | n + 1 => thr a b x y n || decide ((a n = x ∧ b n = y) ∨ (a n = y ∧ b n = x))
theorem thr_iff {a b : Nat → Nat} {x y : Nat} : ∀ {n : Nat}, thr a b x y n = true ↔ ∃ k, k < n ∧ ((a k = x ∧ b k = y) ∨ (a k = y ∧ b k = x))
  | 0 => by simp [thr]
  | n + 1 => by
    simp only [thr, Bool.or_eq_true, decide_eq_true_eq, thr_iff (n := n)]
    constructor
    · rintro (⟨k, h1, h2⟩ | h)
      · exact ⟨k, by omega, h2⟩
      · exact ⟨n, by omega, h⟩
    · rintro ⟨k, h1, h2⟩
      by_cases e : k = n
      · rw [e] at h2; exact Or.inr h2
      · exact Or.inl ⟨k, by omega, h2⟩
theorem thr_sym (a b : Nat → Nat) (x y : Nat) (n : Nat) : thr a b x y n = thr a b y x n := by
  rw [Bool.eq_iff_iff, thr_iff, thr_iff]
  constructor <;> (rintro ⟨k, h1, h2⟩; exact ⟨k, h1, Or.symm h2⟩)
theorem thr_cong {a b a' b' : Nat → Nat} {x y n : Nat} (h : ∀ k, k < n → a k = a' k ∧ b k = b' k) : thr a b x y n = thr a' b' x y n := by
  rw [Bool.eq_iff_iff, thr_iff, thr_iff]
  constructor
  · rintro ⟨k, h1, h2⟩; exact ⟨k, h1, by rw [← (h k h1).1, ← (h k h1).2]; exact h2⟩
  · rintro ⟨k, h1, h2⟩; exact ⟨k, h1, by rw [(h k h1).1, (h k h1).2]; exact h2⟩
def nst (q : Qt) (ch : Nat) : Option Qt :=
  if q.1 = 0 then (if 48 ≤ ch ∧ ch < 56 ∧ q.2.1 < 12 then some (1, q.2.1, dU q.2.2.1 q.2.1 (ch - 48), q.2.2.2) else none)
  else if q.1 = 1 then (if 48 ≤ ch ∧ ch < 56 ∧ q.2.1 < 12 ∧ q.2.2.1 q.2.1 ≠ ch - 48 ∧ thr q.2.2.1 q.2.2.2.1 (q.2.2.1 q.2.1) (ch - 48) q.2.1 = false then some (2, q.2.1 + 1, q.2.2.1, dU q.2.2.2.1 q.2.1 (ch - 48), dU q.2.2.2.2.1 q.2.1 0, q.2.2.2.2.2) else none)
  else if q.1 = 2 ∧ ch = 61 then some (3, q.2.1, q.2.2.1, q.2.2.2.1, dU q.2.2.2.2.1 (q.2.1 - 1) 1, q.2.2.2.2.2)
  else if q.1 = 2 ∨ q.1 = 3 then (if ch = 44 ∧ q.2.1 < 12 then some (0, q.2) else if ch = 59 then some (4, q.2) else none)
  else if q.1 = 4 ∧ ch = 100 then some (5, q.2.1, q.2.2.1, q.2.2.2.1, q.2.2.2.2.1, 1, q.2.2.2.2.2.2)
  else if (q.1 = 4 ∨ q.1 = 5) ∧ ch = 119 then some (6, q.2.1, q.2.2.1, q.2.2.2.1, q.2.2.2.2.1, q.2.2.2.2.2.1, 1)
  else none
theorem nst_0 {q : Qt} {ch : Nat} (h : q.1 = 0) : nst q ch = if 48 ≤ ch ∧ ch < 56 ∧ q.2.1 < 12 then some (1, q.2.1, dU q.2.2.1 q.2.1 (ch - 48), q.2.2.2) else none := by
  unfold nst; rw [if_pos h]
theorem nst_1 {q : Qt} {ch : Nat} (h : q.1 = 1) : nst q ch = if 48 ≤ ch ∧ ch < 56 ∧ q.2.1 < 12 ∧ q.2.2.1 q.2.1 ≠ ch - 48 ∧ thr q.2.2.1 q.2.2.2.1 (q.2.2.1 q.2.1) (ch - 48) q.2.1 = false then some (2, q.2.1 + 1, q.2.2.1, dU q.2.2.2.1 q.2.1 (ch - 48), dU q.2.2.2.2.1 q.2.1 0, q.2.2.2.2.2) else none := by
  unfold nst; rw [if_neg (by omega), if_pos h]
theorem nst_2 {q : Qt} {ch : Nat} (h : q.1 = 2) : nst q ch = if ch = 61 then some (3, q.2.1, q.2.2.1, q.2.2.2.1, dU q.2.2.2.2.1 (q.2.1 - 1) 1, q.2.2.2.2.2) else if ch = 44 ∧ q.2.1 < 12 then some (0, q.2) else if ch = 59 then some (4, q.2) else none := by
  unfold nst; rw [if_neg (by omega), if_neg (by omega)]
  by_cases c : ch = 61
  · rw [if_pos ⟨h, c⟩, if_pos c]
  · rw [if_neg (fun w => c w.2), if_neg c, if_pos (Or.inl h)]
theorem nst_3 {q : Qt} {ch : Nat} (h : q.1 = 3) : nst q ch = if ch = 44 ∧ q.2.1 < 12 then some (0, q.2) else if ch = 59 then some (4, q.2) else none := by
  unfold nst; rw [if_neg (by omega), if_neg (by omega), if_neg (by omega), if_pos (Or.inr h)]
theorem nst_4 {q : Qt} {ch : Nat} (h : q.1 = 4) : nst q ch = if ch = 100 then some (5, q.2.1, q.2.2.1, q.2.2.2.1, q.2.2.2.2.1, 1, q.2.2.2.2.2.2) else if ch = 119 then some (6, q.2.1, q.2.2.1, q.2.2.2.1, q.2.2.2.2.1, q.2.2.2.2.2.1, 1) else none := by
  unfold nst; rw [if_neg (by omega), if_neg (by omega), if_neg (by omega), if_neg (by omega)]
  by_cases c : ch = 100
  · rw [if_pos ⟨h, c⟩, if_pos c]
  · rw [if_neg (fun w => c w.2), if_neg c]
    by_cases c2 : ch = 119
    · rw [if_pos ⟨Or.inl h, c2⟩, if_pos c2]
    · rw [if_neg (fun w => c2 w.2), if_neg c2]
theorem nst_5 {q : Qt} {ch : Nat} (h : q.1 = 5) : nst q ch = if ch = 119 then some (6, q.2.1, q.2.2.1, q.2.2.2.1, q.2.2.2.2.1, q.2.2.2.2.2.1, 1) else none := by
  unfold nst; rw [if_neg (by omega), if_neg (by omega), if_neg (by omega), if_neg (by omega), if_neg (by omega)]
  by_cases c2 : ch = 119
  · rw [if_pos ⟨Or.inr h, c2⟩, if_pos c2]
  · rw [if_neg (fun w => c2 w.2), if_neg c2]
theorem nst_6 {q : Qt} {ch : Nat} (h : q.1 = 6) : nst q ch = none := by
  unfold nst; rw [if_neg (by omega), if_neg (by omega), if_neg (by omega), if_neg (by omega), if_neg (by omega), if_neg (by omega)]
def okQ (q : Qt) : Prop := q.1 ≤ 6 ∧ q.2.1 ≤ 12 ∧ (q.1 ≤ 1 → q.2.1 < 12) ∧ (2 ≤ q.1 → 1 ≤ q.2.1) ∧ q.2.2.2.2.2.1 ≤ 1 ∧ q.2.2.2.2.2.2 ≤ 1 ∧ (∀ k, k < q.2.1 → q.2.2.1 k < 8 ∧ q.2.2.2.1 k < 8 ∧ q.2.2.1 k ≠ q.2.2.2.1 k ∧ q.2.2.2.2.1 k ≤ 1) ∧ (∀ j k, j < k → k < q.2.1 → ¬ ((q.2.2.1 j = q.2.2.1 k ∧ q.2.2.2.1 j = q.2.2.2.1 k) ∨ (q.2.2.1 j = q.2.2.2.1 k ∧ q.2.2.2.1 j = q.2.2.1 k))) ∧ (q.1 = 1 → q.2.2.1 q.2.1 < 8)
theorem nst_ok {q q' : Qt} {ch : Nat} (h : okQ q) (e : nst q ch = some q') : okQ q' := by
  obtain ⟨st, n, a, b, wd, dd, ee⟩ := q
  obtain ⟨h1, h2, h3, h4, h5, h6, h7, h8, h9⟩ := h
  dsimp only at h1 h2 h3 h4 h5 h6 h7 h8 h9
  unfold nst at e
  dsimp only at e
  split at e
  · next c0 =>
    split at e
    · next c =>
      cases e
      refine ⟨by dsimp only; omega, h2, fun _ => c.2.2, fun q => by dsimp only at q; omega, h5, h6, fun k hk => ?_, fun j k hj hk => ?_, fun _ => ?_⟩
      · dsimp only at hk ⊢
        rw [dU_n (by omega)]; exact h7 k hk
      · dsimp only at hk ⊢
        rw [dU_n (by omega), dU_n (by omega)]; exact h8 j k hj hk
      · dsimp only
        rw [dU_s rfl]; omega
    · cases e
  · next c0 =>
    split at e
    · next c1 =>
      split at e
      · next c =>
        cases e
        have ha := h9 c1
        refine ⟨by dsimp only; omega, by dsimp only; omega, fun q => by dsimp only at q; omega, fun _ => by dsimp only; omega, h5, h6, fun k hk => ?_, fun j k hj hk => ?_, fun q => by dsimp only at q; omega⟩
        · dsimp only at hk ⊢
          by_cases ek : k = n
          · rw [ek, dU_s rfl, dU_s rfl]; exact ⟨ha, by omega, c.2.2.2.1, by omega⟩
          · rw [dU_n ek, dU_n ek]; exact h7 k (by omega)
        · dsimp only at hk ⊢
          by_cases ek : k = n
          · rw [ek, dU_s rfl, dU_n (by omega)]
            intro w
            have := thr_iff (a := a) (b := b) (x := a n) (y := ch - 48) (n := n)
            rw [c.2.2.2.2] at this
            exact absurd (this.mpr ⟨j, by omega, by omega⟩) (by decide)
          · rw [dU_n ek, dU_n (by omega)]; exact h8 j k hj (by omega)
      · cases e
    · next c1 =>
      split at e
      · next c2 =>
        cases e
        refine ⟨by dsimp only; omega, h2, fun q => by dsimp only at q; omega, fun _ => h4 (by omega), h5, h6, fun k hk => ?_, h8, fun q => by dsimp only at q; omega⟩
        dsimp only at hk ⊢
        by_cases ek : k = n - 1
        · rw [dU_s ek]; exact ⟨(h7 k hk).1, (h7 k hk).2.1, (h7 k hk).2.2.1, by omega⟩
        · rw [dU_n ek]; exact h7 k hk
      · next c2 =>
        split at e
        · next c3 =>
          split at e
          · next c4 =>
            cases e
            exact ⟨by dsimp only; omega, h2, fun _ => c4.2, fun q => by dsimp only at q; omega, h5, h6, h7, h8, fun q => by dsimp only at q; omega⟩
          · split at e
            · cases e
              exact ⟨by dsimp only; omega, h2, fun q => by dsimp only at q; omega, fun _ => h4 (by omega), h5, h6, h7, h8, fun q => by dsimp only at q; omega⟩
            · cases e
        · next c3 =>
          split at e
          · next c4 =>
            cases e
            exact ⟨by dsimp only; omega, h2, fun q => by dsimp only at q; omega, fun _ => h4 (by omega), by dsimp only; omega, h6, h7, h8, fun q => by dsimp only at q; omega⟩
          · split at e
            · next c5 =>
              cases e
              exact ⟨by dsimp only; omega, h2, fun q => by dsimp only at q; omega, fun _ => h4 (by omega), h5, by dsimp only; omega, h7, h8, fun q => by dsimp only at q; omega⟩
            · cases e
def rn (pg : Nat → Nat) : Nat → Nat → Qt → Nat × Qt
  | 0, k, q => (k, q)
  | m + 1, k, q => match nst q (pg k) with
    | none => (k, q)
    | some q' => rn pg m (k + 1) q'
def q0 : Qt := (0, 0, fun _ => 0, fun _ => 0, fun _ => 0, 0, 0)
theorem q0_ok : okQ q0 := ⟨by decide, by decide, fun _ => by decide, fun q => absurd q (by decide), by decide, by decide, fun k hk => absurd hk (Nat.not_lt_zero k), fun j k _ hk => absurd hk (Nat.not_lt_zero k), fun q => absurd q (by decide)⟩
theorem rn_ok {pg : Nat → Nat} : ∀ m k q, okQ q → okQ (rn pg m k q).2
  | 0, _, _, h => h
  | m + 1, k, q, h => by
    unfold rn
    cases e : nst q (pg k) with
    | none => exact h
    | some q' => exact rn_ok m (k + 1) q' (nst_ok h e)
theorem rn_le {pg : Nat → Nat} : ∀ m k q, k ≤ (rn pg m k q).1 ∧ (rn pg m k q).1 ≤ k + m
  | 0, _, _ => ⟨Nat.le_refl _, Nat.le_refl _⟩
  | m + 1, k, q => by
    unfold rn
    cases e : nst q (pg k) with
    | none => exact ⟨Nat.le_refl _, by dsimp only; omega⟩
    | some q' =>
      have := rn_le (pg := pg) m (k + 1) q'
      dsimp only
      omega
/-! the class's reader -/
def NR (q : Qt) (J : Nat) (S : Mem) : Prop := S.1 3 6 = nI q.1 ∧ S.1 3 3 = nI q.2.1 ∧ S.1 3 4 = nI q.2.2.2.2.2.1 ∧ S.1 3 5 = nI q.2.2.2.2.2.2 ∧ S.2 3 7 = lN J ∧ J < 2 ^ 64 ∧ (∀ k, k < q.2.1 ∨ (k = q.2.1 ∧ q.1 = 1) → S.1 4 k = nI (q.2.2.1 k)) ∧ (∀ k, k < q.2.1 → S.1 5 k = nI (q.2.2.2.1 k)) ∧ (∀ k, k < q.2.1 → S.1 6 k = nI (q.2.2.2.2.1 k)) ∧ (∀ x y, x < 8 → y < 8 → J.testBit (8 * x + y) = thr q.2.2.1 q.2.2.2.1 x y q.2.1)
def frR (S S' : Mem) : Prop := ∀ a k, a < 3 ∨ 6 < a → S'.1 a k = S.1 a k
theorem frR_r (S : Mem) : frR S S := fun _ _ _ => rfl
theorem frR_t {S S' S'' : Mem} (h : frR S S') (h2 : frR S' S'') : frR S S'' := fun a k q => by rw [h2 a k q, h a k q]
theorem ct_isDigit {ch : Nat} (h : ch < 1000) {S : Mem} : f_Page_isDigit (nI ch) S = some (nI (if 48 ≤ ch ∧ ch < 56 then 1 else 0), S) := by
  rw [f_Page_isDigit_eq]
  by_cases c : 48 ≤ ch
  · by_cases c2 : ch < 56
    · simp (disch := omega) only [k_Page_isDigit_16_eq, k_Page_isDigit_17_eq, zL0, zL1, zL2, zL3, zL4, zL5, zL6, zL7, zL8, zL9, zL10, zL12, zL20, zL30, zL31, zL32, zL44, zL48, zL49, zL50, zL56, zL59, zL60, zL61, zL64, zL65, zL97, zL99, zL100, zL101, zL102, zL103, zL104, zL111, zL119, zL126, zL255, zL512, zL617, zL65535, zL65536, zL1048576, zlt, zle, zeq, ztn, zin, zzb, zadd, zmul, zm_lt, zm_gt, zm_le, zm_ge, zm_eq, zm_eq', zm_in, if_pos, if_neg, bI_s, bJ_s, bA_s, bU_s, if_true, if_false, reduceIte, or_true, true_or, or_false, false_or, and_true, true_and, and_false, false_and, not_true_eq_false, not_false_eq_true, Nat.reduceEqDiff, Nat.zero_ne_one, Nat.one_ne_zero]
    · simp (disch := omega) only [k_Page_isDigit_16_eq, k_Page_isDigit_17_eq, zL0, zL1, zL2, zL3, zL4, zL5, zL6, zL7, zL8, zL9, zL10, zL12, zL20, zL30, zL31, zL32, zL44, zL48, zL49, zL50, zL56, zL59, zL60, zL61, zL64, zL65, zL97, zL99, zL100, zL101, zL102, zL103, zL104, zL111, zL119, zL126, zL255, zL512, zL617, zL65535, zL65536, zL1048576, zlt, zle, zeq, ztn, zin, zzb, zadd, zmul, zm_lt, zm_gt, zm_le, zm_ge, zm_eq, zm_eq', zm_in, if_pos, if_neg, bI_s, bJ_s, bA_s, bU_s, if_true, if_false, reduceIte, or_true, true_or, or_false, false_or, and_true, true_and, and_false, false_and, not_true_eq_false, not_false_eq_true, Nat.reduceEqDiff, Nat.zero_ne_one, Nat.one_ne_zero]
  · simp (disch := omega) only [k_Page_isDigit_16_eq, k_Page_isDigit_17_eq, zL0, zL1, zL2, zL3, zL4, zL5, zL6, zL7, zL8, zL9, zL10, zL12, zL20, zL30, zL31, zL32, zL44, zL48, zL49, zL50, zL56, zL59, zL60, zL61, zL64, zL65, zL97, zL99, zL100, zL101, zL102, zL103, zL104, zL111, zL119, zL126, zL255, zL512, zL617, zL65535, zL65536, zL1048576, zlt, zle, zeq, ztn, zin, zzb, zadd, zmul, zm_lt, zm_gt, zm_le, zm_ge, zm_eq, zm_eq', zm_in, if_pos, if_neg, bI_s, bJ_s, bA_s, bU_s, if_true, if_false, reduceIte, or_true, true_or, or_false, false_or, and_true, true_and, and_false, false_and, not_true_eq_false, not_false_eq_true, Nat.reduceEqDiff, Nat.zero_ne_one, Nat.one_ne_zero]
theorem lcmp0 {x y : Int64} : (lg_cmp x y = nI 0) = (x = y) := by
  unfold lg_cmp
  by_cases h : x > y
  · rw [if_pos h]
    refine propext ⟨fun q => absurd q (by decide), fun q => ?_⟩
    rw [q] at h
    exact absurd h (Int64.lt_irrefl)
  · rw [if_neg h]
    by_cases e : x = y
    · rw [if_pos e]; exact propext ⟨fun _ => e, fun _ => rfl⟩
    · rw [if_neg e]; exact propext ⟨fun q => absurd q (by decide), fun q => absurd q e⟩
theorem lN1_eq {a : Nat} (h : a < 2) : (lN a = 1) = (a = 1) := by
  match a, h with
  | 0, _ => exact propext ⟨fun q => absurd q (by decide), fun q => absurd q (by decide)⟩
  | 1, _ => exact propext ⟨fun _ => rfl, fun _ => rfl⟩
section ACC
variable {S : Mem} {J n dd ee : Nat} {a b wd : Nat → Nat}
theorem cr_first (hq : okQ (0, n, a, b, wd, dd, ee)) (h : NR (0, n, a, b, wd, dd, ee) J S) {ch : Nat} (hc : ch < 1000) : (nst (0, n, a, b, wd, dd, ee) ch = none ∧ f_NetReader_acceptsFirst (nI ch) S = some (nI 0, S)) ∨ ∃ q' S', nst (0, n, a, b, wd, dd, ee) ch = some q' ∧ f_NetReader_acceptsFirst (nI ch) S = some (nI 1, S') ∧ NR q' J S' ∧ frR S S' := by
  obtain ⟨g6, g3, g4, g5, gJ, gj, ga, gb, gw, gt⟩ := h
  dsimp only at g6 g3 g4 g5 ga gb gw gt
  have n12 := hq.2.2.1 (by dsimp only; omega)
  dsimp only at n12
  by_cases c : 48 ≤ ch ∧ ch < 56
  · refine Or.inr ⟨(1, n, dU a n (ch - 48), b, wd, dd, ee), u1 (u1 S 4 n (nI (ch - 48))) 3 6 (nI 1), ?_, ?_, ⟨?_, ?_, ?_, ?_, gJ, gj, fun k hk => ?_, fun k hk => ?_, fun k hk => ?_, fun x y hx hy => ?_⟩, fun x k q => by simp (disch := omega) only [zuS, zuN, zu2, zv1, zvS, zvN]⟩
    · rw [nst_0 rfl, if_pos ⟨c.1, c.2, n12⟩]
    · rw [f_NetReader_acceptsFirst_eq]; simp (disch := omega) only [ct_isDigit, g3, zL0, zL1, zL2, zL3, zL4, zL5, zL6, zL7, zL8, zL9, zL10, zL12, zL20, zL30, zL31, zL32, zL44, zL48, zL49, zL50, zL56, zL59, zL60, zL61, zL64, zL65, zL97, zL99, zL100, zL101, zL102, zL103, zL104, zL111, zL119, zL126, zL255, zL512, zL617, zL65535, zL65536, zL1048576, zlt, zle, zeq, ztn, zin, zzb, zadd, zmul, zm_lt, zm_gt, zm_le, zm_ge, zm_eq, zm_eq', zm_in, if_pos, if_neg, bI_s, bJ_s, bA_s, bU_s, if_true, if_false, reduceIte, or_true, true_or, or_false, false_or, and_true, true_and, and_false, false_and, not_true_eq_false, not_false_eq_true, Nat.reduceEqDiff, Nat.zero_ne_one, Nat.one_ne_zero, zuS, zuN, zu2, zv1, zvS, zvN, zsub]
    · simp (disch := omega) only [zuS, zuN, zu2, zv1, zvS, zvN]
    · simp (disch := omega) only [zuS, zuN, zu2, zv1, zvS, zvN]; exact g3
    · simp (disch := omega) only [zuS, zuN, zu2, zv1, zvS, zvN]; exact g4
    · simp (disch := omega) only [zuS, zuN, zu2, zv1, zvS, zvN]; exact g5
    · dsimp only at hk ⊢
      by_cases e : k = n
      · rw [dU_s e, e]; simp (disch := omega) only [zuS, zuN, zu2, zv1, zvS, zvN]
      · rw [dU_n e]; simp (disch := omega) only [zuS, zuN, zu2, zv1, zvS, zvN]; exact ga k (by omega)
    · simp (disch := omega) only [zuS, zuN, zu2, zv1, zvS, zvN]; exact gb k hk
    · simp (disch := omega) only [zuS, zuN, zu2, zv1, zvS, zvN]; exact gw k hk
    · dsimp only
      rw [gt x y hx hy]
      exact thr_cong (fun k hk => ⟨by rw [dU_n (by omega)], rfl⟩)
  · refine Or.inl ⟨?_, ?_⟩
    · rw [nst_0 rfl, if_neg (fun w => c ⟨w.1, w.2.1⟩)]
    · rw [f_NetReader_acceptsFirst_eq]; simp (disch := omega) only [ct_isDigit, zL0, zL1, zL2, zL3, zL4, zL5, zL6, zL7, zL8, zL9, zL10, zL12, zL20, zL30, zL31, zL32, zL44, zL48, zL49, zL50, zL56, zL59, zL60, zL61, zL64, zL65, zL97, zL99, zL100, zL101, zL102, zL103, zL104, zL111, zL119, zL126, zL255, zL512, zL617, zL65535, zL65536, zL1048576, zlt, zle, zeq, ztn, zin, zzb, zadd, zmul, zm_lt, zm_gt, zm_le, zm_ge, zm_eq, zm_eq', zm_in, if_pos, if_neg, bI_s, bJ_s, bA_s, bU_s, if_true, if_false, reduceIte, or_true, true_or, or_false, false_or, and_true, true_and, and_false, false_and, not_true_eq_false, not_false_eq_true, Nat.reduceEqDiff, Nat.zero_ne_one, Nat.one_ne_zero, k_NetReader_acceptsFirst_16_eq]
theorem cr_second (hq : okQ (1, n, a, b, wd, dd, ee)) (h : NR (1, n, a, b, wd, dd, ee) J S) {ch : Nat} (hc : ch < 1000) : (nst (1, n, a, b, wd, dd, ee) ch = none ∧ f_NetReader_acceptsSecond (nI ch) S = some (nI 0, S)) ∨ ∃ q' J' S', nst (1, n, a, b, wd, dd, ee) ch = some q' ∧ f_NetReader_acceptsSecond (nI ch) S = some (nI 1, S') ∧ NR q' J' S' ∧ frR S S' := by
  obtain ⟨g6, g3, g4, g5, gJ, gj, ga, gb, gw, gt⟩ := h
  dsimp only at g6 g3 g4 g5 ga gb gw gt
  have n12 := hq.2.2.1 (by dsimp only; omega)
  have a8 := hq.2.2.2.2.2.2.2.2 rfl
  dsimp only at n12 a8
  have gan := ga n (Or.inr ⟨rfl, rfl⟩)
  by_cases c : 48 ≤ ch ∧ ch < 56
  · by_cases c2 : a n = ch - 48
    · refine Or.inl ⟨?_, ?_⟩
      · rw [nst_1 rfl, if_neg (fun w => w.2.2.2.1 c2)]
      · rw [f_NetReader_acceptsSecond_eq]; simp (disch := omega) only [ct_isDigit, g3, gan, c2, zL0, zL1, zL2, zL3, zL4, zL5, zL6, zL7, zL8, zL9, zL10, zL12, zL20, zL30, zL31, zL32, zL44, zL48, zL49, zL50, zL56, zL59, zL60, zL61, zL64, zL65, zL97, zL99, zL100, zL101, zL102, zL103, zL104, zL111, zL119, zL126, zL255, zL512, zL617, zL65535, zL65536, zL1048576, zlt, zle, zeq, ztn, zin, zzb, zadd, zmul, zm_lt, zm_gt, zm_le, zm_ge, zm_eq, zm_eq', zm_in, if_pos, if_neg, bI_s, bJ_s, bA_s, bU_s, if_true, if_false, reduceIte, or_true, true_or, or_false, false_or, and_true, true_and, and_false, false_and, not_true_eq_false, not_false_eq_true, Nat.reduceEqDiff, Nat.zero_ne_one, Nat.one_ne_zero, zsub, k_NetReader_acceptsSecond_56_eq]
    · have hbit := wb_bit (n := J) (k := 8 * a n + (ch - 48)) gj (by omega)
      have htb := gt (a n) (ch - 48) a8 (by omega)
      rw [Nat.testBit_eq_decide_div_mod_eq] at htb
      cases ct : thr a b (a n) (ch - 48) n
      · rw [ct] at htb
        have h0 : ¬ J / 2 ^ (8 * a n + (ch - 48)) % 2 = 1 := of_decide_eq_false htb
        have e1 := wb_shl 1 (k := 8 * a n + (ch - 48)) (by omega)
        have e2 := wb_shl 1 (k := 8 * (ch - 48) + a n) (by omega)
        rw [Nat.one_mul] at e1 e2
        have l1 : 2 ^ (8 * a n + (ch - 48)) < 2 ^ 64 := wb_lt2 (by omega)
        have l2 : 2 ^ (8 * (ch - 48) + a n) < 2 ^ 64 := wb_lt2 (by omega)
        have o1 := wb_or l1 l2
        have l12 := Nat.or_lt_two_pow l1 l2
        have o2 := wb_or gj l12
        refine Or.inr ⟨(2, n + 1, a, dU b n (ch - 48), dU wd n 0, dd, ee), J ||| (2 ^ (8 * a n + (ch - 48)) ||| 2 ^ (8 * (ch - 48) + a n)), u1 (u1 (u1 (u1 (u2 S 3 7 (lN (J ||| (2 ^ (8 * a n + (ch - 48)) ||| 2 ^ (8 * (ch - 48) + a n))))) 5 n (nI (ch - 48))) 6 n (nI 0)) 3 3 (nI (n + 1))) 3 6 (nI 2), ?_, ?_, ⟨?_, ?_, ?_, ?_, ?_, Nat.or_lt_two_pow gj l12, fun k hk => ?_, fun k hk => ?_, fun k hk => ?_, fun x y hx hy => ?_⟩, fun x k q => by simp (disch := omega) only [zuS, zuN, zu2, zv1, zvS, zvN]⟩
        · rw [nst_1 rfl, if_pos ⟨c.1, c.2, n12, c2, ct⟩]
        · rw [f_NetReader_acceptsSecond_eq]
          have e1' : (1 : Int64) <<< ((nI (8 * a n + (ch - 48))).toInt64 &&& 63) = lN (2 ^ (8 * a n + (ch - 48))) := e1
          have e2' : (1 : Int64) <<< ((nI (8 * (ch - 48) + a n)).toInt64 &&& 63) = lN (2 ^ (8 * (ch - 48) + a n)) := e2
          have hb2 : (lN (J / 2 ^ (8 * a n + (ch - 48)) % 2) = 1) = False := by
            rw [lN1_eq (Nat.mod_lt _ (by decide))]; exact eq_false h0
          simp (disch := omega) only [ct_isDigit, g3, gan, zL0, zL1, zL2, zL3, zL4, zL5, zL6, zL7, zL8, zL9, zL10, zL12, zL20, zL30, zL31, zL32, zL44, zL48, zL49, zL50, zL56, zL59, zL60, zL61, zL64, zL65, zL97, zL99, zL100, zL101, zL102, zL103, zL104, zL111, zL119, zL126, zL255, zL512, zL617, zL65535, zL65536, zL1048576, zlt, zle, zeq, ztn, zin, zzb, zadd, zmul, zm_lt, zm_gt, zm_le, zm_ge, zm_eq, zm_eq', zm_in, if_pos, if_neg, bI_s, bJ_s, bA_s, bU_s, if_true, if_false, reduceIte, or_true, true_or, or_false, false_or, and_true, true_and, and_false, false_and, not_true_eq_false, not_false_eq_true, Nat.reduceEqDiff, Nat.zero_ne_one, Nat.one_ne_zero, zsub, gJ, hbit, lcmp0, hb2, zuS, zuN, zu2, zv1, zvS, zvN, e1', e2', o1, o2]
        · simp (disch := omega) only [zuS, zuN, zu2, zv1, zvS, zvN]
        · simp (disch := omega) only [zuS, zuN, zu2, zv1, zvS, zvN]
        · simp (disch := omega) only [zuS, zuN, zu2, zv1, zvS, zvN]; exact g4
        · simp (disch := omega) only [zuS, zuN, zu2, zv1, zvS, zvN]; exact g5
        · simp (disch := omega) only [zuS, zuN, zu2, zv1, zvS, zvN]
        · dsimp only at hk ⊢
          simp (disch := omega) only [zuS, zuN, zu2, zv1, zvS, zvN]
          by_cases e : k = n
          · rw [e]; exact gan
          · exact ga k (by omega)
        · dsimp only at hk ⊢
          by_cases e : k = n
          · rw [dU_s e, e]; simp (disch := omega) only [zuS, zuN, zu2, zv1, zvS, zvN]
          · rw [dU_n e]; simp (disch := omega) only [zuS, zuN, zu2, zv1, zvS, zvN]; exact gb k (by omega)
        · dsimp only at hk ⊢
          by_cases e : k = n
          · rw [dU_s e, e]; simp (disch := omega) only [zuS, zuN, zu2, zv1, zvS, zvN]
          · rw [dU_n e]; simp (disch := omega) only [zuS, zuN, zu2, zv1, zvS, zvN]; exact gw k (by omega)
        · dsimp only
          rw [Nat.testBit_or, Nat.testBit_or, Nat.testBit_two_pow, Nat.testBit_two_pow, gt x y hx hy, thr, thr_cong (a := a) (b := b) (a' := a) (b' := dU b n (ch - 48)) (fun k hk => ⟨rfl, by rw [dU_n (by omega)]⟩)]
          congr 1
          rw [dU_s rfl, Bool.eq_iff_iff]
          simp only [Bool.or_eq_true, decide_eq_true_eq]
          omega
      · rw [ct] at htb
        have h0 : J / 2 ^ (8 * a n + (ch - 48)) % 2 = 1 := of_decide_eq_true htb
        refine Or.inl ⟨?_, ?_⟩
        · rw [nst_1 rfl, if_neg (fun w => by rw [ct] at w; exact absurd w.2.2.2.2 (by decide))]
        · rw [f_NetReader_acceptsSecond_eq]
          have hb2 : (lN (J / 2 ^ (8 * a n + (ch - 48)) % 2) = 1) = True := by
            rw [lN1_eq (Nat.mod_lt _ (by decide))]; exact eq_true h0
          simp (disch := omega) only [ct_isDigit, g3, gan, zL0, zL1, zL2, zL3, zL4, zL5, zL6, zL7, zL8, zL9, zL10, zL12, zL20, zL30, zL31, zL32, zL44, zL48, zL49, zL50, zL56, zL59, zL60, zL61, zL64, zL65, zL97, zL99, zL100, zL101, zL102, zL103, zL104, zL111, zL119, zL126, zL255, zL512, zL617, zL65535, zL65536, zL1048576, zlt, zle, zeq, ztn, zin, zzb, zadd, zmul, zm_lt, zm_gt, zm_le, zm_ge, zm_eq, zm_eq', zm_in, if_pos, if_neg, bI_s, bJ_s, bA_s, bU_s, if_true, if_false, reduceIte, or_true, true_or, or_false, false_or, and_true, true_and, and_false, false_and, not_true_eq_false, not_false_eq_true, Nat.reduceEqDiff, Nat.zero_ne_one, Nat.one_ne_zero, zsub, gJ, hbit, lcmp0, hb2, k_NetReader_acceptsSecond_56_eq]
  · refine Or.inl ⟨?_, ?_⟩
    · rw [nst_1 rfl, if_neg (fun w => c ⟨w.1, w.2.1⟩)]
    · rw [f_NetReader_acceptsSecond_eq]; simp (disch := omega) only [ct_isDigit, zL0, zL1, zL2, zL3, zL4, zL5, zL6, zL7, zL8, zL9, zL10, zL12, zL20, zL30, zL31, zL32, zL44, zL48, zL49, zL50, zL56, zL59, zL60, zL61, zL64, zL65, zL97, zL99, zL100, zL101, zL102, zL103, zL104, zL111, zL119, zL126, zL255, zL512, zL617, zL65535, zL65536, zL1048576, zlt, zle, zeq, ztn, zin, zzb, zadd, zmul, zm_lt, zm_gt, zm_le, zm_ge, zm_eq, zm_eq', zm_in, if_pos, if_neg, bI_s, bJ_s, bA_s, bU_s, if_true, if_false, reduceIte, or_true, true_or, or_false, false_or, and_true, true_and, and_false, false_and, not_true_eq_false, not_false_eq_true, Nat.reduceEqDiff, Nat.zero_ne_one, Nat.one_ne_zero, k_NetReader_acceptsSecond_16_eq]
end ACC
