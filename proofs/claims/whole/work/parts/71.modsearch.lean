/-! the model's search -/
def SPm (N : Nat) (far : Nat → Option Nat) (line : Nat → Nat) (e : Nat) (S : Mem) : Prop := (∀ p, p < N → S.1 75 p = eo (far p)) ∧ (∀ k, k < e → S.1 76 k = nI (line k))
def frK9 (S S' : Mem) : Prop := (∀ a k, ¬ (a = 60 ∧ k < 5) → a ≠ 71 → a ≠ 75 → a ≠ 76 → ¬ (a = 55 ∧ (k = 29 ∨ k = 30 ∨ k = 31)) → S'.1 a k = S.1 a k) ∧ S'.2 = S.2
theorem frK9_r (S : Mem) : frK9 S S := ⟨fun _ _ _ _ _ _ _ => rfl, rfl⟩
theorem frK9_t {S S' S'' : Mem} (h : frK9 S S') (h2 : frK9 S' S'') : frK9 S S'' := ⟨fun a k a1 a2 a3 a4 a5 => by rw [h2.1 a k a1 a2 a3 a4 a5, h.1 a k a1 a2 a3 a4 a5], h2.2.trans h.2⟩
theorem frS_K9 {S S' : Mem} (h : frS S S') : frK9 S S' := ⟨fun a k a1 a2 _ _ a5 => h.1 a k a1 a2 a5, h.2⟩
section MSE
variable {D : DD} {S : Mem} {far : Nat → Option Nat} {line : Nat → Nat} {e h g : Nat}
theorem ms_one (hd : okD D) (h1 : 1 ≤ D 55 7) (h3 : D 55 7 ≤ 3) {N : Nat} (hN : N = 8 ^ D 55 7) (hn : near D S) (hR : ∃ f, RM (dS D 60 f) S) {u d x1 q : Nat} (hB : BI N (Em D (nar D) (mpx D)) g 30 far line e h u d (fun p => p < q)) (hS : SPm N far line e S) (hq : q < N) : ∃ (S' : Mem) (far' : Nat → Option Nat) (line' : Nat → Nat) (e' : Nat), k_Mod_soonestOf_109 (nI x1) (nI N) (nI e) (nI h) (nI q) S = k_Mod_soonestOf_109 (nI x1) (nI N) (nI e') (nI h) (nI (q + 1)) S' ∧ frK9 S S' ∧ (∃ f, RM (dS D 60 f) S') ∧ SPm N far' line' e' S' ∧ BI N (Em D (nar D) (mpx D)) g 30 far' line' e' h u d (fun p => p < q + 1) := by
  have p8 := p8_le h3
  rw [← hN] at p8
  have he := bf_le hB.1
  have hhe := hB.2.1
  have hlu := hB.2.2.1
  have hl := hS.2 h hhe
  rw [hlu] at hl
  have huN : u < N := by rw [← hlu]; exact (hB.1.1 h hhe).1
  have hfq := hS.1 q hq
  have hfu := hS.1 u huN
  rw [hB.2.2.2.1] at hfu
  have hd30 := hB.2.2.2.2.1
  have keep : (∀ p, p < N → p < q + 1 → Em D (nar D) (mpx D) u p = true → far p ≠ none) → BI N (Em D (nar D) (mpx D)) g 30 far line e h u d (fun p => p < q + 1) := fun k => bi_more hB k
  have old : ∀ p, p < N → p < q → Em D (nar D) (mpx D) u p = true → far p ≠ none := hB.2.2.2.2.2.2
  cases ef : far q with
  | some v =>
    have hv := (bf_some hB.1 hq ef).2
    refine ⟨S, far, line, e, ?_, frK9_r S, hR, hS, keep (fun p hp c hE => ?_)⟩
    · rw [ef] at hfq
      rw [k_Mod_soonestOf_109_eq]
      simp (disch := omega) only [zL0, zL1, zL2, zL3, zL4, zL5, zL6, zL7, zL8, zL9, zL10, zL12, zL20, zL30, zL31, zL32, zL44, zL48, zL49, zL50, zL56, zL59, zL60, zL61, zL64, zL65, zL97, zL99, zL100, zL101, zL102, zL103, zL104, zL111, zL119, zL126, zL255, zL512, zL617, zL65535, zL65536, zL1048576, zlt, zle, zeq, ztn, zin, zzb, zadd, zmul, zm_lt, zm_gt, zm_le, zm_ge, zm_eq, zm_eq', zm_in, if_pos, if_neg, bI_s, bJ_s, bA_s, bU_s, if_true, if_false, reduceIte, or_true, true_or, or_false, false_or, and_true, true_and, and_false, false_and, not_true_eq_false, not_false_eq_true, Nat.reduceEqDiff, Nat.zero_ne_one, Nat.one_ne_zero, hfq, eo, k_Mod_soonestOf_175_eq]
    · by_cases x : p = q
      · rw [x, ef]; simp
      · exact old p hp (by omega) hE
  | none =>
    rw [ef] at hfq
    obtain ⟨S1, e1, f1, R1⟩ := mo_mayGo hd h1 h3 hn hR (q := q) (r := u) (by omega) (by omega)
    have hS1 : SPm N far line e S1 := ⟨fun p hp => by rw [f1.1 _ _ (by omega) (by omega) (by omega)]; exact hS.1 p hp, fun k hk => by rw [f1.1 _ _ (by omega) (by omega) (by omega)]; exact hS.2 k hk⟩
    cases cE : Em D (nar D) (mpx D) q u
    · rw [cE] at e1
      refine ⟨S1, far, line, e, ?_, frS_K9 f1, R1, hS1, keep (fun p hp c hE => ?_)⟩
      · rw [k_Mod_soonestOf_109_eq]
        simp (disch := omega) only [zL0, zL1, zL2, zL3, zL4, zL5, zL6, zL7, zL8, zL9, zL10, zL12, zL20, zL30, zL31, zL32, zL44, zL48, zL49, zL50, zL56, zL59, zL60, zL61, zL64, zL65, zL97, zL99, zL100, zL101, zL102, zL103, zL104, zL111, zL119, zL126, zL255, zL512, zL617, zL65535, zL65536, zL1048576, zlt, zle, zeq, ztn, zin, zzb, zadd, zmul, zm_lt, zm_gt, zm_le, zm_ge, zm_eq, zm_eq', zm_in, if_pos, if_neg, bI_s, bJ_s, bA_s, bU_s, if_true, if_false, reduceIte, or_true, true_or, or_false, false_or, and_true, true_and, and_false, false_and, not_true_eq_false, not_false_eq_true, Nat.reduceEqDiff, Nat.zero_ne_one, Nat.one_ne_zero, hfq, eo, hl, e1, k_Mod_soonestOf_175_eq, Bool.false_eq_true]
      · by_cases x : p = q
        · rw [x, Em_sym (nar_sym D), cE] at hE; cases hE
        · exact old p hp (by omega) hE
    · rw [cE] at e1
      obtain ⟨hB2, heN⟩ := bi_add (Em_sym (nar_sym D)) hB hq (by rw [Em_sym (nar_sym D)]; exact cE) ef
      have hl1 : S1.1 76 h = nI u := by rw [f1.1 _ _ (by omega) (by omega) (by omega)]; exact hl
      have hfu1 : S1.1 75 u = nI d := by rw [f1.1 _ _ (by omega) (by omega) (by omega)]; exact hfu
      refine ⟨u1 (u1 S1 75 q (nI (d + 1))) 76 e (nI q), fun p => if p = q then some (d + 1) else far p, fun k => if k = e then q else line k, e + 1, ?_, ⟨fun a k a1 a2 a3 a4 a5 => by rw [zuN (by omega), zuN (by omega), f1.1 a k a1 a2 a5], f1.2⟩, ?_, ⟨fun p hp => ?_, fun k hk => ?_⟩, bi_more hB2 (fun p hp c hE => hB2.2.2.2.2.2.2 p hp (by omega) hE)⟩
      · rw [k_Mod_soonestOf_109_eq]
        simp (disch := omega) only [zL0, zL1, zL2, zL3, zL4, zL5, zL6, zL7, zL8, zL9, zL10, zL12, zL20, zL30, zL31, zL32, zL44, zL48, zL49, zL50, zL56, zL59, zL60, zL61, zL64, zL65, zL97, zL99, zL100, zL101, zL102, zL103, zL104, zL111, zL119, zL126, zL255, zL512, zL617, zL65535, zL65536, zL1048576, zlt, zle, zeq, ztn, zin, zzb, zadd, zmul, zm_lt, zm_gt, zm_le, zm_ge, zm_eq, zm_eq', zm_in, if_pos, if_neg, bI_s, bJ_s, bA_s, bU_s, if_true, if_false, reduceIte, or_true, true_or, or_false, false_or, and_true, true_and, and_false, false_and, not_true_eq_false, not_false_eq_true, Nat.reduceEqDiff, Nat.zero_ne_one, Nat.one_ne_zero, hfq, eo, hl, e1, hl1, hfu1, k_Mod_soonestOf_175_eq]
      · obtain ⟨f, hf⟩ := R1
        exact ⟨f, RM_x (RM_x hf (by omega)) (by omega)⟩
      · rw [zuN (by omega)]
        show _ = eo (if p = q then some (d + 1) else far p)
        by_cases c : p = q
        · rw [zuS ⟨rfl, c⟩, if_pos c]; rfl
        · rw [zuN (by omega), if_neg c]; exact hS1.1 p hp
      · show _ = nI (if k = e then q else line k)
        by_cases c : k = e
        · rw [zuS ⟨rfl, c⟩, if_pos c]
        · rw [zuN (by omega), if_neg c, zuN (by omega)]; exact hS1.2 k (by omega)
theorem ms_all (hd : okD D) (h1 : 1 ≤ D 55 7) (h3 : D 55 7 ≤ 3) {N : Nat} (hN : N = 8 ^ D 55 7) {u d x1 : Nat} : ∀ m q S far line e, q + m = N → near D S → (∃ f, RM (dS D 60 f) S) → BI N (Em D (nar D) (mpx D)) g 30 far line e h u d (fun p => p < q) → SPm N far line e S → ∃ (S' : Mem) (far' : Nat → Option Nat) (line' : Nat → Nat) (e' : Nat), k_Mod_soonestOf_109 (nI x1) (nI N) (nI e) (nI h) (nI q) S = k_Mod_soonestOf_72 (nI x1) (nI N) (nI e') (nI (h + 1)) S' ∧ frK9 S S' ∧ (∃ f, RM (dS D 60 f) S') ∧ SPm N far' line' e' S' ∧ BF N (Em D (nar D) (mpx D)) g 30 far' line' e' (h + 1) ∧ h + 1 ≤ e' := by
  have p8 := p8_le h3
  rw [← hN] at p8
  intro m
  induction m with
  | zero =>
    intro q S far line e hq hn hR hB hS
    refine ⟨S, far, line, e, ?_, frK9_r S, hR, hS, bi_out hB (fun p hp _ => by omega), hB.2.1⟩
    rw [k_Mod_soonestOf_109_eq]
    simp (disch := omega) only [zL0, zL1, zL2, zL3, zL4, zL5, zL6, zL7, zL8, zL9, zL10, zL12, zL20, zL30, zL31, zL32, zL44, zL48, zL49, zL50, zL56, zL59, zL60, zL61, zL64, zL65, zL97, zL99, zL100, zL101, zL102, zL103, zL104, zL111, zL119, zL126, zL255, zL512, zL617, zL65535, zL65536, zL1048576, zlt, zle, zeq, ztn, zin, zzb, zadd, zmul, zm_lt, zm_gt, zm_le, zm_ge, zm_eq, zm_eq', zm_in, if_pos, if_neg, bI_s, bJ_s, bA_s, bU_s, if_true, if_false, reduceIte, or_true, true_or, or_false, false_or, and_true, true_and, and_false, false_and, not_true_eq_false, not_false_eq_true, Nat.reduceEqDiff, Nat.zero_ne_one, Nat.one_ne_zero]
  | succ m ih =>
    intro q S far line e hq hn hR hB hS
    obtain ⟨S1, far1, line1, e1, q1, f1, R1, p1, B1⟩ := ms_one hd h1 h3 hN hn hR hB hS (by omega) (x1 := x1)
    obtain ⟨S2, far2, line2, e2, q2, f2, R2, p2, B2, l2⟩ := ih (q + 1) S1 far1 line1 e1 (by omega) (near_f hn (fun k => f1.1 _ _ (by omega) (by omega) (by omega) (by omega) (by omega))) R1 B1 p1
    exact ⟨S2, far2, line2, e2, q1.trans q2, frK9_t f1 f2, R2, p2, B2, l2⟩
theorem ms_loop (hd : okD D) (h1 : 1 ≤ D 55 7) (h3 : D 55 7 ≤ 3) {N s : Nat} (hN : N = 8 ^ D 55 7) (hs : s < N) : ∀ m h S far line e, 512 ≤ h + m → h ≤ e → near D S → (∃ f, RM (dS D 60 f) S) → SPm N far line e S → BF N (Em D (nar D) (mpx D)) g 30 far line e h → ∃ (S' : Mem) (far' : Nat → Option Nat) (line' : Nat → Nat) (e' : Nat) (h' : Nat), k_Mod_soonestOf_72 (nI s) (nI N) (nI e) (nI h) S = k_Mod_soonestOf_187 (nI s) S' ∧ frK9 S S' ∧ (∃ f, RM (dS D 60 f) S') ∧ SPm N far' line' e' S' ∧ BF N (Em D (nar D) (mpx D)) g 30 far' line' e' h' ∧ (far' s ≠ none ∨ e' ≤ h' ∨ (h' < e' ∧ ∃ d, far' (line' h') = some d ∧ 30 ≤ d)) := by
  have p8 := p8_le h3
  rw [← hN] at p8
  intro m
  induction m with
  | zero =>
    intro h S far line e hh hhe hn hR hS hB
    have he := bf_le hB
    refine ⟨S, far, line, e, h, ?_, frK9_r S, hR, hS, hB, Or.inr (Or.inl (by omega))⟩
    rw [k_Mod_soonestOf_72_eq]
    simp (disch := omega) only [zL0, zL1, zL2, zL3, zL4, zL5, zL6, zL7, zL8, zL9, zL10, zL12, zL20, zL30, zL31, zL32, zL44, zL48, zL49, zL50, zL56, zL59, zL60, zL61, zL64, zL65, zL97, zL99, zL100, zL101, zL102, zL103, zL104, zL111, zL119, zL126, zL255, zL512, zL617, zL65535, zL65536, zL1048576, zlt, zle, zeq, ztn, zin, zzb, zadd, zmul, zm_lt, zm_gt, zm_le, zm_ge, zm_eq, zm_eq', zm_in, if_pos, if_neg, bI_s, bJ_s, bA_s, bU_s, if_true, if_false, reduceIte, or_true, true_or, or_false, false_or, and_true, true_and, and_false, false_and, not_true_eq_false, not_false_eq_true, Nat.reduceEqDiff, Nat.zero_ne_one, Nat.one_ne_zero]
  | succ m ih =>
    intro h S far line e hh hhe hn hR hS hB
    have he := bf_le hB
    have hf := hS.1 s hs
    by_cases c1 : e ≤ h
    · refine ⟨S, far, line, e, h, ?_, frK9_r S, hR, hS, hB, Or.inr (Or.inl (by omega))⟩
      rw [k_Mod_soonestOf_72_eq]
      simp (disch := omega) only [zL0, zL1, zL2, zL3, zL4, zL5, zL6, zL7, zL8, zL9, zL10, zL12, zL20, zL30, zL31, zL32, zL44, zL48, zL49, zL50, zL56, zL59, zL60, zL61, zL64, zL65, zL97, zL99, zL100, zL101, zL102, zL103, zL104, zL111, zL119, zL126, zL255, zL512, zL617, zL65535, zL65536, zL1048576, zlt, zle, zeq, ztn, zin, zzb, zadd, zmul, zm_lt, zm_gt, zm_le, zm_ge, zm_eq, zm_eq', zm_in, if_pos, if_neg, bI_s, bJ_s, bA_s, bU_s, if_true, if_false, reduceIte, or_true, true_or, or_false, false_or, and_true, true_and, and_false, false_and, not_true_eq_false, not_false_eq_true, Nat.reduceEqDiff, Nat.zero_ne_one, Nat.one_ne_zero]
    · cases ef : far s with
      | some v =>
        have hv := (bf_some hB hs ef).2
        rw [ef] at hf
        refine ⟨S, far, line, e, h, ?_, frK9_r S, hR, hS, hB, Or.inl (by rw [ef]; simp)⟩
        rw [k_Mod_soonestOf_72_eq]
        simp (disch := omega) only [zL0, zL1, zL2, zL3, zL4, zL5, zL6, zL7, zL8, zL9, zL10, zL12, zL20, zL30, zL31, zL32, zL44, zL48, zL49, zL50, zL56, zL59, zL60, zL61, zL64, zL65, zL97, zL99, zL100, zL101, zL102, zL103, zL104, zL111, zL119, zL126, zL255, zL512, zL617, zL65535, zL65536, zL1048576, zlt, zle, zeq, ztn, zin, zzb, zadd, zmul, zm_lt, zm_gt, zm_le, zm_ge, zm_eq, zm_eq', zm_in, if_pos, if_neg, bI_s, bJ_s, bA_s, bU_s, if_true, if_false, reduceIte, or_true, true_or, or_false, false_or, and_true, true_and, and_false, false_and, not_true_eq_false, not_false_eq_true, Nat.reduceEqDiff, Nat.zero_ne_one, Nat.one_ne_zero, hf, eo]
      | none =>
        rw [ef] at hf
        obtain ⟨d, hdd⟩ := on_some (hB.1 h (by omega)).2
        have hlN := (hB.1 h (by omega)).1
        have hl := hS.2 h (by omega)
        have hfl := hS.1 _ hlN
        rw [hdd] at hfl
        have hdm := (bf_some hB hlN hdd).2
        by_cases c2 : 30 ≤ d
        · refine ⟨S, far, line, e, h, ?_, frK9_r S, hR, hS, hB, Or.inr (Or.inr ⟨by omega, d, hdd, c2⟩)⟩
          rw [k_Mod_soonestOf_72_eq]
          simp (disch := omega) only [zL0, zL1, zL2, zL3, zL4, zL5, zL6, zL7, zL8, zL9, zL10, zL12, zL20, zL30, zL31, zL32, zL44, zL48, zL49, zL50, zL56, zL59, zL60, zL61, zL64, zL65, zL97, zL99, zL100, zL101, zL102, zL103, zL104, zL111, zL119, zL126, zL255, zL512, zL617, zL65535, zL65536, zL1048576, zlt, zle, zeq, ztn, zin, zzb, zadd, zmul, zm_lt, zm_gt, zm_le, zm_ge, zm_eq, zm_eq', zm_in, if_pos, if_neg, bI_s, bJ_s, bA_s, bU_s, if_true, if_false, reduceIte, or_true, true_or, or_false, false_or, and_true, true_and, and_false, false_and, not_true_eq_false, not_false_eq_true, Nat.reduceEqDiff, Nat.zero_ne_one, Nat.one_ne_zero, hf, eo, hl, hfl]
        · obtain ⟨S1, far1, line1, e1, q1, f1, R1, p1, B1, l1⟩ := ms_all hd h1 h3 hN N 0 S far line e (by omega) hn hR (bi_more (bi_in hB (Em_sym (nar_sym D)) (by omega) hdd (by omega)) (fun p _ q => by omega)) hS (x1 := s)
          obtain ⟨S2, far2, line2, e2, h2, q2, f2, R2, p2, B2, st⟩ := ih (h + 1) S1 far1 line1 e1 (by omega) l1 (near_f hn (fun k => f1.1 _ _ (by omega) (by omega) (by omega) (by omega) (by omega))) R1 p1 B1
          refine ⟨S2, far2, line2, e2, h2, ?_, frK9_t f1 f2, R2, p2, B2, st⟩
          rw [← q2, ← q1, k_Mod_soonestOf_72_eq]
          simp (disch := omega) only [zL0, zL1, zL2, zL3, zL4, zL5, zL6, zL7, zL8, zL9, zL10, zL12, zL20, zL30, zL31, zL32, zL44, zL48, zL49, zL50, zL56, zL59, zL60, zL61, zL64, zL65, zL97, zL99, zL100, zL101, zL102, zL103, zL104, zL111, zL119, zL126, zL255, zL512, zL617, zL65535, zL65536, zL1048576, zlt, zle, zeq, ztn, zin, zzb, zadd, zmul, zm_lt, zm_gt, zm_le, zm_ge, zm_eq, zm_eq', zm_in, if_pos, if_neg, bI_s, bJ_s, bA_s, bU_s, if_true, if_false, reduceIte, or_true, true_or, or_false, false_or, and_true, true_and, and_false, false_and, not_true_eq_false, not_false_eq_true, Nat.reduceEqDiff, Nat.zero_ne_one, Nat.one_ne_zero, hf, eo, hl, hfl]
theorem p8_two (W : Nat) : 2 ^ (3 * W) = 8 ^ W := by rw [Nat.pow_mul]
/-- saved, sought, restored -/
def frB (S S' : Mem) : Prop := ∀ a k, ¬ (a = 55 ∧ (k = 29 ∨ k = 30 ∨ k = 31)) → a ≠ 71 → a ≠ 72 → a ≠ 73 → a ≠ 75 → a ≠ 76 → a ≠ 77 → S'.1 a k = S.1 a k
theorem mo_soonestOf (hd : okD D) (hm : RM D S) (h1 : 1 ≤ D 55 7) (h3 : D 55 7 ≤ 3) {N : Nat} (hN : N = 8 ^ D 55 7) : ∃ (S' : Mem) (r : Option Nat) (far : Nat → Option Nat), f_Mod_soonestOf S = some (eo r, S') ∧ frB S S' ∧ S'.2 = S.2 ∧ near D S' ∧ sn N (Em D (nar D) (mpx D)) (tr (cdk D 61 3)) 30 (tr (cdk D 60 3)) r ∧ (∀ p, p < N → S'.1 75 p = eo (far p)) ∧ (∀ p v, p < N → far p = some v → v ≤ 30) ∧ (∀ d, r = some (d + 1) → ∀ q, q < N → (far q = some d ↔ ds N (Em D (nar D) (mpx D)) (tr (cdk D 61 3)) d q)) := by
  have p8 := p8_le h3
  rw [← hN] at p8
  have c60 := mo_codeOf hd hm h1 h3 (v := 0) (by omega)
  have c61 := mo_codeOf hd hm h1 h3 (v := 1) (by omega)
  have l60 := (mcs_tr hd (a := 60) (by omega) h1 h3).2
  have l61 := (mcs_tr hd (a := 61) (by omega) h1 h3).2
  rw [← hN] at l60 l61
  obtain ⟨s, hs⟩ : ∃ s, s = tr (cdk D 60 3) := ⟨_, rfl⟩
  obtain ⟨g, hg⟩ : ∃ g, g = tr (cdk D 61 3) := ⟨_, rfl⟩
  rw [show 60 + 0 = 60 from rfl, ← hs] at c60
  rw [show 60 + 1 = 61 from rfl, ← hg] at c61
  rw [← hs] at l60
  rw [← hg] at l61
  rw [← hs, ← hg]
  obtain ⟨S1, e1, f1, g1, q1, r1⟩ := mo_save (S := S)
  have hm1 : RM D S1 := RM_fr hm (fun a k q => f1 a k (by omega) (by omega))
  obtain ⟨S2, m, e2, f2, g2, n2⟩ := mo_layNear hm1 hd.1
  have hm2 : RM D S2 := RM_fr hm1 (fun a k q => f2 a k (by omega))
  have hN512 := p8
  have hNN : nI 1 <<< ((nI 3 * (S.1 55 7)) &&& nI 31) = nI N := by
    rw [hm.r 55 7 (by omega), zmul, zsh (by omega), p8_two, hN]
  obtain ⟨S3, e3, f3, g3, p3⟩ := zfor (fun i S => k_Mod_soonestOf_32 (nI s) (nI g) (nI N) (nI i) S) N (fun i S3 => (∀ a k, a ≠ 75 → S3.1 a k = S2.1 a k) ∧ S3.2 = S2.2 ∧ ∀ x, x < i → S3.1 75 x = -nI 1) (by
    intro i S3 hi ⟨f3, g3, p3⟩
    refine ⟨u1 S3 75 i (-nI 1), ?_, fun a k a1 => by rw [zuN (by omega), f3 a k a1], g3, fun x hx => ?_⟩
    · rw [k_Mod_soonestOf_32_eq]
      simp (disch := omega) only [zL0, zL1, zL2, zL3, zL4, zL5, zL6, zL7, zL8, zL9, zL10, zL12, zL20, zL30, zL31, zL32, zL44, zL48, zL49, zL50, zL56, zL59, zL60, zL61, zL64, zL65, zL97, zL99, zL100, zL101, zL102, zL103, zL104, zL111, zL119, zL126, zL255, zL512, zL617, zL65535, zL65536, zL1048576, zlt, zle, zeq, ztn, zin, zzb, zadd, zmul, zm_lt, zm_gt, zm_le, zm_ge, zm_eq, zm_eq', zm_in, if_pos, if_neg, bI_s, bJ_s, bA_s, bU_s, if_true, if_false, reduceIte, or_true, true_or, or_false, false_or, and_true, true_and, and_false, false_and, not_true_eq_false, not_false_eq_true, Nat.reduceEqDiff, Nat.zero_ne_one, Nat.one_ne_zero]
    · by_cases c : x = i
      · rw [c, zuS ⟨rfl, rfl⟩]
      · rw [zuN (by omega), p3 x (by omega)]) N 0 S2 (by omega) ⟨fun _ _ _ => rfl, rfl, fun x hx => by omega⟩
  obtain ⟨S4, hS4⟩ : ∃ S4, S4 = u1 (u1 S3 75 g (nI 0)) 76 0 (nI g) := ⟨_, rfl⟩
  have f4 : ∀ a k, a ≠ 75 → a ≠ 76 → S4.1 a k = S2.1 a k := fun a k a1 a2 => by rw [hS4, zuN (by omega), zuN (by omega), f3 a k a1]
  have hm4 : RM D S4 := RM_fr hm2 (fun a k q => f4 a k (by omega) (by omega))
  have hSP : SPm N (fun p => if p = g then some 0 else none) (fun _ => g) 1 S4 := by
    refine ⟨fun p hp => ?_, fun k hk => by rw [hS4, zuS ⟨rfl, by omega⟩]⟩
    rw [hS4, zuN (by omega)]
    dsimp only
    by_cases c : p = g
    · rw [zuS ⟨rfl, c⟩, if_pos c]; rfl
    · rw [zuN (by omega), if_neg c, p3 p hp]; rfl
  have dS60 : dS D 60 (D 60) = D := by
    funext b
    unfold dS
    split
    · rename_i c; rw [c]
    · rfl
  obtain ⟨S5, far5, line5, e5', h5, e5, f5, R5, p5, B5, st5⟩ := ms_loop hd h1 h3 hN l60 512 0 S4 _ _ 1 (by omega) (by omega) (near_f ⟨m, n2⟩ (fun k => f4 _ _ (by omega) (by omega))) ⟨D 60, by rw [dS60]; exact hm4⟩ hSP (bf_start l61)
  obtain ⟨S6, e6, f6, g6, q6, r6⟩ := mo_back (S := S5)
  have hs6 : S6.1 75 s = eo (far5 s) := by rw [f6 _ _ (by omega) (by omega)]; exact p5.1 s l60
  refine ⟨S6, far5 s, far5, ?_, fun a k a1 a2 a3 a4 a5 a6 a7 => ?_, ?_, ?_, bf_sn B5 (Em_sym (nar_sym D)) l60 st5, fun p hp => by rw [f6 _ _ (by omega) (by omega)]; exact p5.1 p hp, fun p v hp hv => (bf_some B5 hp hv).2, fun d hdd q hq => bf_at B5 (Em_sym (nar_sym D)) l60 hdd hq⟩
  · rw [f_Mod_soonestOf_eq, zL0, zL1, zL3, zL31, c60, bI_s, c61, bI_s, e1, bU_s, e2, bU_s, hNN, e3, k_Mod_soonestOf_32_eq]
    simp (disch := omega) only [zL0, zL1, zL2, zL3, zL4, zL5, zL6, zL7, zL8, zL9, zL10, zL12, zL20, zL30, zL31, zL32, zL44, zL48, zL49, zL50, zL56, zL59, zL60, zL61, zL64, zL65, zL97, zL99, zL100, zL101, zL102, zL103, zL104, zL111, zL119, zL126, zL255, zL512, zL617, zL65535, zL65536, zL1048576, zlt, zle, zeq, ztn, zin, zzb, zadd, zmul, zm_lt, zm_gt, zm_le, zm_ge, zm_eq, zm_eq', zm_in, if_pos, if_neg, bI_s, bJ_s, bA_s, bU_s, if_true, if_false, reduceIte, or_true, true_or, or_false, false_or, and_true, true_and, and_false, false_and, not_true_eq_false, not_false_eq_true, Nat.reduceEqDiff, Nat.zero_ne_one, Nat.one_ne_zero]
    rw [← hS4, e5, k_Mod_soonestOf_187_eq, e6]
    simp (disch := omega) only [zL0, zL1, zL2, zL3, zL4, zL5, zL6, zL7, zL8, zL9, zL10, zL12, zL20, zL30, zL31, zL32, zL44, zL48, zL49, zL50, zL56, zL59, zL60, zL61, zL64, zL65, zL97, zL99, zL100, zL101, zL102, zL103, zL104, zL111, zL119, zL126, zL255, zL512, zL617, zL65535, zL65536, zL1048576, zlt, zle, zeq, ztn, zin, zzb, zadd, zmul, zm_lt, zm_gt, zm_le, zm_ge, zm_eq, zm_eq', zm_in, if_pos, if_neg, bI_s, bJ_s, bA_s, bU_s, if_true, if_false, reduceIte, or_true, true_or, or_false, false_or, and_true, true_and, and_false, false_and, not_true_eq_false, not_false_eq_true, Nat.reduceEqDiff, Nat.zero_ne_one, Nat.one_ne_zero, hs6]
  · by_cases c60' : a = 60 ∧ k < 5
    · rw [c60'.1, q6 k c60'.2, f5.1 _ _ (by omega) (by omega) (by omega) (by omega) (by omega), f4 _ _ (by omega) (by omega), f2 _ _ (by omega), q1 k c60'.2]
    · by_cases c65 : a = 65 ∧ k < 5
      · rw [c65.1, r6 k c65.2, f5.1 _ _ (by omega) (by omega) (by omega) (by omega) (by omega), f4 _ _ (by omega) (by omega), f2 _ _ (by omega), r1 k c65.2]
      · rw [f6 _ _ c60' c65, f5.1 _ _ c60' a2 a5 a6 a1, f4 _ _ a5 a6, f2 _ _ a7, f1 _ _ a3 a4]
  · rw [g6, f5.2, hS4]
    show S3.2 = _
    rw [g3, g2, g1]
  · exact near_f ⟨m, n2⟩ (fun k => by rw [f6 _ _ (by omega) (by omega), f5.1 _ _ (by omega) (by omega) (by omega) (by omega) (by omega), f4 _ _ (by omega) (by omega)])
end MSE
