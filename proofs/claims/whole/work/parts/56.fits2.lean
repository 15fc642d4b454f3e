/-! FITS by the class: its loops -/
section FJ
variable {D : DD} {set : Nat} {M : Nat → Nat} {S0 : Mem}
def St (D : DD) (set : Nat) (M : Nat → Nat) (S0 : Mem) (kk c : Nat) (Q : Nat → Prop) (n : Nat) (S : Mem) : Prop := RC D S ∧ frY S0 S ∧ ∃ T, LSt set T M S ∧ agr D set kk T c ∧ WI set Q n S
def rr (set k : Nat) : Nat := if k < bc set 5 then 10 else 1
theorem rr_le (set k : Nat) : rr set k ≤ 10 ∧ 1 ≤ rr set k := by unfold rr; split <;> omega
theorem St_cong {kk c n : Nat} {Q Q' : Nat → Prop} {S : Mem} (h : St D set M S0 kk c Q n S) (e : ∀ c, Q c ↔ Q' c) : St D set M S0 kk c Q' n S := by
  obtain ⟨h1, h2, T, h3, h4, h5⟩ := h
  exact ⟨h1, h2, T, h3, h4, WI_cong h5 e⟩
theorem St_le {kk kk' c c' n : Nat} {Q : Nat → Prop} {S : Mem} (h : St D set M S0 kk c Q n S) (hk : kk' ≤ kk) (hc : ∀ k, k < kk' → dg c k = dg c' k) : St D set M S0 kk' c' Q n S := by
  obtain ⟨h1, h2, T, h3, h4, h5⟩ := h
  exact ⟨h1, h2, T, h3, agr_le h4 hk hc, h5⟩
theorem sk_not {k c : Nat} (h : ¬ k < bc set 5) : sk D set M k c = true := by unfold sk; rw [if_neg h]
theorem sk_cong (hs : set < 32) {k c c' : Nat} (hc : ∀ q, q ≤ k → dg c q = dg c' q) : sk D set M k c = sk D set M k c' := by
  unfold sk
  by_cases h : k < bc set 5
  · rw [if_pos h, if_pos h, hc k (Nat.le_refl k)]
    have hb := bc_le set 5
    obtain ⟨a1, a2, a3⟩ := mem_ok set hs k (by omega) h
    refine sok_ext (fun j hj hw hB => ?_)
    rw [bh_bit set hs _ a1 j hj] at hB
    unfold Lc
    cases hF : set.testBit j
    · rfl
    · rw [hF, Bool.true_and, decide_eq_false_iff_not] at hB
      have hle := bc_mono (g := set) (i := j) (j := mem set k) (by omega)
      rw [a3] at hle
      rw [hc _ hle]
  · rw [if_neg h, if_neg h]
/-- one trial: suits(k, v) at a code whose k-th digit is v -/
theorem cl_try (hd : okD D) (hs : set < 32) (hW : ∀ i, set.testBit i = true → i < D 55 7) {k v c n : Nat} (hk : k < 3) (hv : v < rr set k) (hc : k < bc set 5 → dg c k = v) {Q : Nat → Prop} {S : Mem} (h : St D set M S0 k c Q n S) : ∃ S', f_Loads_suits (nI k) (nI v) S = some (nI (if sk D set M k c then 1 else 0), S') ∧ St D set M S0 (k + 1) c Q n S' := by
  obtain ⟨h1, h2, T, h3, h4, h5⟩ := h
  by_cases ck : k < bc set 5
  · have hb := bc_le set 5
    obtain ⟨a1, a2, a3⟩ := mem_ok set hs k (by omega) ck
    have hv10 := (rr_le set k).1
    obtain ⟨S', e', s', L', f'⟩ := cl_suits (k := k) (v := v) hd hs h1 h3 hk ck (hW _ a2) (by omega)
    have hup := agr_up (D := D) hs ck h4
    rw [hc ck] at hup
    have hsk := sok_agr (D := D) hs ck (M := M) hup
    rw [hc ck] at hsk
    rw [hsk] at e'
    refine ⟨S', e', RC_f hd h1 (frY_C f'), frY_t h2 f', _, L', hup, ?_, fun q hq => WK_fr (h5.2 q hq) (fun j => ⟨?_, ?_⟩)⟩
    · rw [s', zuN (by omega)]; exact h5.1
    · rw [s', zuN (by omega)]
    · rw [s', zuN (by omega)]
  · refine ⟨S, ?_, h1, h2, T, h3, ⟨h4.1, fun q q1 q2 => h4.2 q (by omega) q2⟩, h5⟩
    rw [sk_not ck, cl_suits0 h3.2.1 hk ck]
    rfl
theorem St_ch {kk c n : Nat} {Q : Nat → Prop} {S : Mem} (h : St D set M S0 kk c Q n S) {k : Nat} (hk : k < 3) : f_Loads_choices (nI k) S = some (nI (rr set k), S) := by
  obtain ⟨h1, h2, T, h3, h4, h5⟩ := h
  exact cl_choices h3.2.1 hk
def t3 (a b c : Nat) : Nat := a + 10 * b + 100 * c
def g2 (D : DD) (set : Nat) (M : Nat → Nat) (a b : Nat) : Nat := sm (fun x => if sk D set M 2 (t3 a b x) then 1 else 0) (rr set 2)
def g1 (D : DD) (set : Nat) (M : Nat → Nat) (a : Nat) : Nat := sm (fun y => if sk D set M 1 (t3 a y 0) then g2 D set M a y else 0) (rr set 1)
def g0 (D : DD) (set : Nat) (M : Nat → Nat) : Nat := sm (fun z => if sk D set M 0 (t3 z 0 0) then g1 D set M z else 0) (rr set 0)
def Q2 (D : DD) (set : Nat) (M : Nat → Nat) (a b n c : Nat) : Prop := ∃ x, x < n ∧ sk D set M 2 (t3 a b x) = true ∧ c = t3 a b x
def Q1 (D : DD) (set : Nat) (M : Nat → Nat) (a n c : Nat) : Prop := ∃ y, y < n ∧ sk D set M 1 (t3 a y 0) = true ∧ Q2 D set M a y (rr set 2) c
def Q0 (D : DD) (set : Nat) (M : Nat → Nat) (n c : Nat) : Prop := ∃ z, z < n ∧ sk D set M 0 (t3 z 0 0) = true ∧ Q1 D set M z (rr set 1) c
theorem t3_dg {a b c : Nat} (ha : a < 10) (hb : b < 10) (hc : c < 10) : dg (t3 a b c) 0 = a ∧ dg (t3 a b c) 1 = b ∧ dg (t3 a b c) 2 = c := ⟨dg_0 ha hb, dg_1 ha hb, dg_2 ha hb hc⟩
theorem cl_inner (hd : okD D) (hs : set < 32) (h3 : bc set 5 ≤ 3) (hW : ∀ i, set.testBit i = true → i < D 55 7) {a b n : Nat} (ha : a < 10) (hb : b < 10) (hn : n < 2000) {Q : Nat → Prop} {S : Mem} (h : St D set M S0 2 (t3 a b 0) Q n S) : ∃ S', k_Loads_tryOthers_25 (nI b) (nI 0) S = k_Loads_tryOthers_53 (nI b) S' ∧ St D set M S0 2 (t3 a b 0) (fun c => Q c ∨ Q2 D set M a b (rr set 2) c) (n + g2 D set M a b) S' := by
  have hr2 := rr_le set 2
  obtain ⟨S1, e1, h1⟩ := zfor (fun x S => k_Loads_tryOthers_25 (nI b) (nI x) S) (rr set 2) (fun x S1 => St D set M S0 2 (t3 a b 0) (fun c => Q c ∨ Q2 D set M a b x c) (n + sm (fun x => if sk D set M 2 (t3 a b x) then 1 else 0) x) S1) (by
    intro x S1 hx h1
    have hch := St_ch h1 (k := 2) (by omega)
    obtain ⟨d0, d1, d2⟩ := t3_dg ha hb (show x < 10 by omega)
    obtain ⟨d0', d1', d2'⟩ := t3_dg ha hb (show 0 < 10 by omega)
    have h1' : St D set M S0 2 (t3 a b x) (fun c => Q c ∨ Q2 D set M a b x c) (n + sm (fun x => if sk D set M 2 (t3 a b x) then 1 else 0) x) S1 := St_le h1 (Nat.le_refl 2) (fun k hk => by
      match k, hk with
      | 0, _ => rw [d0, d0']
      | 1, _ => rw [d1, d1'])
    obtain ⟨S2, e2, h2⟩ := cl_try hd hs hW (k := 2) (v := x) (by omega) hx (fun _ => d2) h1'
    have hsl : sm (fun x => if sk D set M 2 (t3 a b x) then 1 else 0) x ≤ x * 1 := sm_le (fun k _ => by split <;> omega)
    cases cs : sk D set M 2 (t3 a b x)
    · rw [cs] at e2
      refine ⟨S2, ?_, ?_⟩
      · rw [k_Loads_tryOthers_25_eq]
        simp (disch := omega) only [zL0, zL1, zL2, zL3, zL4, zL5, zL6, zL7, zL8, zL9, zL10, zL12, zL20, zL30, zL31, zL32, zL44, zL48, zL49, zL50, zL56, zL59, zL60, zL61, zL64, zL65, zL97, zL99, zL100, zL101, zL102, zL103, zL104, zL111, zL119, zL126, zL255, zL512, zL617, zL65535, zL65536, zL1048576, zlt, zle, zeq, ztn, zin, zzb, zadd, zmul, zm_lt, zm_gt, zm_le, zm_ge, zm_eq, zm_eq', zm_in, if_pos, if_neg, bI_s, bJ_s, bA_s, bU_s, if_true, if_false, reduceIte, or_true, true_or, or_false, false_or, and_true, true_and, and_false, false_and, not_true_eq_false, not_false_eq_true, Nat.reduceEqDiff, Nat.zero_ne_one, Nat.one_ne_zero, hch, e2, k_Loads_tryOthers_47_eq, Bool.false_eq_true]
      · rw [sm, cs]
        refine St_cong (St_le h2 (by omega) (fun k hk => by
          match k, hk with
          | 0, _ => rw [d0, d0']
          | 1, _ => rw [d1, d1'])) (fun c => ?_)
        constructor
        · rintro (q | ⟨y, q1, q2, q3⟩)
          · exact Or.inl q
          · exact Or.inr ⟨y, by omega, q2, q3⟩
        · rintro (q | ⟨y, q1, q2, q3⟩)
          · exact Or.inl q
          · by_cases e : y = x
            · rw [e, cs] at q2; cases q2
            · exact Or.inr ⟨y, by omega, q2, q3⟩
    · rw [cs] at e2
      obtain ⟨r2, f2, T, L2, A2, W2⟩ := h2
      obtain ⟨S3, e3, f3, f48, W3⟩ := cl_note hs h3 L2 W2 (c0 := t3 a b x) (fun k hk => A2.2 k (by omega) hk)
      refine ⟨S3, ?_, ?_⟩
      · rw [k_Loads_tryOthers_25_eq]
        simp (disch := omega) only [zL0, zL1, zL2, zL3, zL4, zL5, zL6, zL7, zL8, zL9, zL10, zL12, zL20, zL30, zL31, zL32, zL44, zL48, zL49, zL50, zL56, zL59, zL60, zL61, zL64, zL65, zL97, zL99, zL100, zL101, zL102, zL103, zL104, zL111, zL119, zL126, zL255, zL512, zL617, zL65535, zL65536, zL1048576, zlt, zle, zeq, ztn, zin, zzb, zadd, zmul, zm_lt, zm_gt, zm_le, zm_ge, zm_eq, zm_eq', zm_in, if_pos, if_neg, bI_s, bJ_s, bA_s, bU_s, if_true, if_false, reduceIte, or_true, true_or, or_false, false_or, and_true, true_and, and_false, false_and, not_true_eq_false, not_false_eq_true, Nat.reduceEqDiff, Nat.zero_ne_one, Nat.one_ne_zero, hch, e2, e3, k_Loads_tryOthers_47_eq]
      · rw [sm, cs]
        have h4 : St D set M S0 3 (t3 a b x) (fun c => (Q c ∨ Q2 D set M a b x c) ∨ c = t3 a b x) (n + sm (fun x => if sk D set M 2 (t3 a b x) then 1 else 0) x + 1) S3 := ⟨RC_f hd r2 (frY_C f3), frY_t f2 f3, T, LSt_Y L2 f3 f48, A2, W3⟩
        refine St_cong (St_le h4 (by omega) (fun k hk => by
          match k, hk with
          | 0, _ => rw [d0, d0']
          | 1, _ => rw [d1, d1'])) (fun c => ?_)
        constructor
        · rintro ((q | ⟨y, q1, q2, q3⟩) | q)
          · exact Or.inl q
          · exact Or.inr ⟨y, by omega, q2, q3⟩
          · exact Or.inr ⟨x, by omega, cs, q⟩
        · rintro (q | ⟨y, q1, q2, q3⟩)
          · exact Or.inl (Or.inl q)
          · by_cases e : y = x
            · rw [e] at q3; exact Or.inr q3
            · exact Or.inl (Or.inr ⟨y, by omega, q2, q3⟩)) (rr set 2) 0 S (by omega) (by
      refine St_cong h (fun c => ⟨fun q => Or.inl q, fun q => ?_⟩)
      rcases q with q | ⟨y, q1, _⟩
      · exact q
      · omega)
  refine ⟨S1, ?_, h1⟩
  have hch := St_ch h1 (k := 2) (by omega)
  rw [e1, k_Loads_tryOthers_25_eq]
  simp (disch := omega) only [zL0, zL1, zL2, zL3, zL4, zL5, zL6, zL7, zL8, zL9, zL10, zL12, zL20, zL30, zL31, zL32, zL44, zL48, zL49, zL50, zL56, zL59, zL60, zL61, zL64, zL65, zL97, zL99, zL100, zL101, zL102, zL103, zL104, zL111, zL119, zL126, zL255, zL512, zL617, zL65535, zL65536, zL1048576, zlt, zle, zeq, ztn, zin, zzb, zadd, zmul, zm_lt, zm_gt, zm_le, zm_ge, zm_eq, zm_eq', zm_in, if_pos, if_neg, bI_s, bJ_s, bA_s, bU_s, if_true, if_false, reduceIte, or_true, true_or, or_false, false_or, and_true, true_and, and_false, false_and, not_true_eq_false, not_false_eq_true, Nat.reduceEqDiff, Nat.zero_ne_one, Nat.one_ne_zero, hch]
theorem g2_le (a b : Nat) : g2 D set M a b ≤ 10 := by
  have h1 : g2 D set M a b ≤ rr set 2 * 1 := sm_le (fun k _ => by split <;> omega)
  have := (rr_le set 2).1
  omega
theorem cl_middle (hd : okD D) (hs : set < 32) (h3 : bc set 5 ≤ 3) (hW : ∀ i, set.testBit i = true → i < D 55 7) {a n : Nat} (ha : a < 10) (hn : n < 950) {Q : Nat → Prop} {S : Mem} (h : St D set M S0 1 (t3 a 0 0) Q n S) : ∃ S', f_Loads_tryOthers S = some S' ∧ St D set M S0 1 (t3 a 0 0) (fun c => Q c ∨ Q1 D set M a (rr set 1) c) (n + g1 D set M a) S' := by
  have hr1 := rr_le set 1
  obtain ⟨S1, e1, h1⟩ := zfor (fun y S => k_Loads_tryOthers_2 (nI y) S) (rr set 1) (fun y S1 => St D set M S0 1 (t3 a 0 0) (fun c => Q c ∨ Q1 D set M a y c) (n + sm (fun y => if sk D set M 1 (t3 a y 0) then g2 D set M a y else 0) y) S1) (by
    intro y S1 hy h1
    have hch := St_ch h1 (k := 1) (by omega)
    obtain ⟨d0, d1, d2⟩ := t3_dg ha (show y < 10 by omega) (show 0 < 10 by omega)
    obtain ⟨d0', d1', d2'⟩ := t3_dg ha (show 0 < 10 by omega) (show 0 < 10 by omega)
    have h1' : St D set M S0 1 (t3 a y 0) (fun c => Q c ∨ Q1 D set M a y c) (n + sm (fun y => if sk D set M 1 (t3 a y 0) then g2 D set M a y else 0) y) S1 := St_le h1 (Nat.le_refl 1) (fun k hk => by
      match k, hk with
      | 0, _ => rw [d0, d0'])
    obtain ⟨S2, e2, h2⟩ := cl_try hd hs hW (k := 1) (v := y) (by omega) hy (fun _ => d1) h1'
    have hsl : sm (fun y => if sk D set M 1 (t3 a y 0) then g2 D set M a y else 0) y ≤ y * 10 := sm_le (fun k _ => by
      have := g2_le (D := D) (set := set) (M := M) a k
      split <;> omega)
    cases cs : sk D set M 1 (t3 a y 0)
    · rw [cs] at e2
      refine ⟨S2, ?_, ?_⟩
      · rw [k_Loads_tryOthers_2_eq]
        simp (disch := omega) only [zL0, zL1, zL2, zL3, zL4, zL5, zL6, zL7, zL8, zL9, zL10, zL12, zL20, zL30, zL31, zL32, zL44, zL48, zL49, zL50, zL56, zL59, zL60, zL61, zL64, zL65, zL97, zL99, zL100, zL101, zL102, zL103, zL104, zL111, zL119, zL126, zL255, zL512, zL617, zL65535, zL65536, zL1048576, zlt, zle, zeq, ztn, zin, zzb, zadd, zmul, zm_lt, zm_gt, zm_le, zm_ge, zm_eq, zm_eq', zm_in, if_pos, if_neg, bI_s, bJ_s, bA_s, bU_s, if_true, if_false, reduceIte, or_true, true_or, or_false, false_or, and_true, true_and, and_false, false_and, not_true_eq_false, not_false_eq_true, Nat.reduceEqDiff, Nat.zero_ne_one, Nat.one_ne_zero, hch, e2, k_Loads_tryOthers_53_eq, Bool.false_eq_true]
      · rw [sm, cs]
        refine St_cong (St_le h2 (by omega) (fun k hk => by
          match k, hk with
          | 0, _ => rw [d0, d0'])) (fun c => ?_)
        constructor
        · rintro (q | ⟨y', q1, q2, q3⟩)
          · exact Or.inl q
          · exact Or.inr ⟨y', by omega, q2, q3⟩
        · rintro (q | ⟨y', q1, q2, q3⟩)
          · exact Or.inl q
          · by_cases e : y' = y
            · rw [e, cs] at q2; cases q2
            · exact Or.inr ⟨y', by omega, q2, q3⟩
    · rw [cs] at e2
      have hsl2 : n + sm (fun y => if sk D set M 1 (t3 a y 0) then g2 D set M a y else 0) y < 10000 := by omega
      obtain ⟨S3, e3, h3'⟩ := cl_inner hd hs h3 hW (a := a) (b := y) ha (by omega) (show n + sm (fun y => if sk D set M 1 (t3 a y 0) then g2 D set M a y else 0) y < 2000 by omega) h2
      refine ⟨S3, ?_, ?_⟩
      · rw [k_Loads_tryOthers_2_eq]
        simp (disch := omega) only [zL0, zL1, zL2, zL3, zL4, zL5, zL6, zL7, zL8, zL9, zL10, zL12, zL20, zL30, zL31, zL32, zL44, zL48, zL49, zL50, zL56, zL59, zL60, zL61, zL64, zL65, zL97, zL99, zL100, zL101, zL102, zL103, zL104, zL111, zL119, zL126, zL255, zL512, zL617, zL65535, zL65536, zL1048576, zlt, zle, zeq, ztn, zin, zzb, zadd, zmul, zm_lt, zm_gt, zm_le, zm_ge, zm_eq, zm_eq', zm_in, if_pos, if_neg, bI_s, bJ_s, bA_s, bU_s, if_true, if_false, reduceIte, or_true, true_or, or_false, false_or, and_true, true_and, and_false, false_and, not_true_eq_false, not_false_eq_true, Nat.reduceEqDiff, Nat.zero_ne_one, Nat.one_ne_zero, hch, e2, k_Loads_tryOthers_53_eq]
        rw [e3, k_Loads_tryOthers_53_eq]
        simp (disch := omega) only [zL0, zL1, zL2, zL3, zL4, zL5, zL6, zL7, zL8, zL9, zL10, zL12, zL20, zL30, zL31, zL32, zL44, zL48, zL49, zL50, zL56, zL59, zL60, zL61, zL64, zL65, zL97, zL99, zL100, zL101, zL102, zL103, zL104, zL111, zL119, zL126, zL255, zL512, zL617, zL65535, zL65536, zL1048576, zlt, zle, zeq, ztn, zin, zzb, zadd, zmul, zm_lt, zm_gt, zm_le, zm_ge, zm_eq, zm_eq', zm_in, if_pos, if_neg, bI_s, bJ_s, bA_s, bU_s, if_true, if_false, reduceIte, or_true, true_or, or_false, false_or, and_true, true_and, and_false, false_and, not_true_eq_false, not_false_eq_true, Nat.reduceEqDiff, Nat.zero_ne_one, Nat.one_ne_zero]
      · rw [sm, cs, ← Nat.add_assoc]
        refine St_cong (St_le h3' (by omega) (fun k hk => by
          match k, hk with
          | 0, _ => rw [d0, d0'])) (fun c => ?_)
        constructor
        · rintro ((q | ⟨y', q1, q2, q3⟩) | q)
          · exact Or.inl q
          · exact Or.inr ⟨y', by omega, q2, q3⟩
          · exact Or.inr ⟨y, by omega, cs, q⟩
        · rintro (q | ⟨y', q1, q2, q3⟩)
          · exact Or.inl (Or.inl q)
          · by_cases e : y' = y
            · rw [e] at q3; exact Or.inr q3
            · exact Or.inl (Or.inr ⟨y', by omega, q2, q3⟩)) (rr set 1) 0 S (by omega) (by
      refine St_cong h (fun c => ⟨fun q => Or.inl q, fun q => ?_⟩)
      rcases q with q | ⟨y, q1, _⟩
      · exact q
      · omega)
  refine ⟨S1, ?_, h1⟩
  have hch := St_ch h1 (k := 1) (by omega)
  rw [f_Loads_tryOthers_eq, zL0, e1, k_Loads_tryOthers_2_eq]
  simp (disch := omega) only [zL0, zL1, zL2, zL3, zL4, zL5, zL6, zL7, zL8, zL9, zL10, zL12, zL20, zL30, zL31, zL32, zL44, zL48, zL49, zL50, zL56, zL59, zL60, zL61, zL64, zL65, zL97, zL99, zL100, zL101, zL102, zL103, zL104, zL111, zL119, zL126, zL255, zL512, zL617, zL65535, zL65536, zL1048576, zlt, zle, zeq, ztn, zin, zzb, zadd, zmul, zm_lt, zm_gt, zm_le, zm_ge, zm_eq, zm_eq', zm_in, if_pos, if_neg, bI_s, bJ_s, bA_s, bU_s, if_true, if_false, reduceIte, or_true, true_or, or_false, false_or, and_true, true_and, and_false, false_and, not_true_eq_false, not_false_eq_true, Nat.reduceEqDiff, Nat.zero_ne_one, Nat.one_ne_zero, hch]
theorem g1_le (a : Nat) : g1 D set M a ≤ 100 := by
  have h1 : g1 D set M a ≤ rr set 1 * 10 := sm_le (fun k _ => by
    have := g2_le (D := D) (set := set) (M := M) a k
    split <;> omega)
  have := (rr_le set 1).1
  omega
theorem cl_outer (hd : okD D) (hs : set < 32) (h3 : bc set 5 ≤ 3) (hW : ∀ i, set.testBit i = true → i < D 55 7) {S : Mem} (h : St D set M S0 0 0 (fun _ => False) 0 S) : ∃ S', k_Loads_waysFor_30 (nI 0) S = some (nI (g0 D set M), S') ∧ St D set M S0 0 0 (Q0 D set M (rr set 0)) (g0 D set M) S' := by
  have hr0 := rr_le set 0
  obtain ⟨S1, e1, h1⟩ := zfor (fun z S => k_Loads_waysFor_30 (nI z) S) (rr set 0) (fun z S1 => St D set M S0 0 0 (Q0 D set M z) (sm (fun z => if sk D set M 0 (t3 z 0 0) then g1 D set M z else 0) z) S1) (by
    intro z S1 hz h1
    have hch := St_ch h1 (k := 0) (by omega)
    obtain ⟨d0, d1, d2⟩ := t3_dg (show z < 10 by omega) (show 0 < 10 by omega) (show 0 < 10 by omega)
    have h1' : St D set M S0 0 (t3 z 0 0) (Q0 D set M z) (sm (fun z => if sk D set M 0 (t3 z 0 0) then g1 D set M z else 0) z) S1 := St_le h1 (Nat.le_refl 0) (fun k hk => absurd hk (Nat.not_lt_zero k))
    obtain ⟨S2, e2, h2⟩ := cl_try hd hs hW (k := 0) (v := z) (by omega) hz (fun _ => d0) h1'
    have hsl : sm (fun z => if sk D set M 0 (t3 z 0 0) then g1 D set M z else 0) z ≤ z * 100 := sm_le (fun k _ => by
      have := g1_le (D := D) (set := set) (M := M) k
      split <;> omega)
    cases cs : sk D set M 0 (t3 z 0 0)
    · rw [cs] at e2
      refine ⟨S2, ?_, ?_⟩
      · rw [k_Loads_waysFor_30_eq]
        simp (disch := omega) only [zL0, zL1, zL2, zL3, zL4, zL5, zL6, zL7, zL8, zL9, zL10, zL12, zL20, zL30, zL31, zL32, zL44, zL48, zL49, zL50, zL56, zL59, zL60, zL61, zL64, zL65, zL97, zL99, zL100, zL101, zL102, zL103, zL104, zL111, zL119, zL126, zL255, zL512, zL617, zL65535, zL65536, zL1048576, zlt, zle, zeq, ztn, zin, zzb, zadd, zmul, zm_lt, zm_gt, zm_le, zm_ge, zm_eq, zm_eq', zm_in, if_pos, if_neg, bI_s, bJ_s, bA_s, bU_s, if_true, if_false, reduceIte, or_true, true_or, or_false, false_or, and_true, true_and, and_false, false_and, not_true_eq_false, not_false_eq_true, Nat.reduceEqDiff, Nat.zero_ne_one, Nat.one_ne_zero, hch, e2, k_Loads_waysFor_52_eq, Bool.false_eq_true]
      · rw [sm, cs]
        refine St_cong (St_le h2 (by omega) (fun k hk => absurd hk (Nat.not_lt_zero k))) (fun c => ?_)
        constructor
        · rintro ⟨z', q1, q2, q3⟩
          exact ⟨z', by omega, q2, q3⟩
        · rintro ⟨z', q1, q2, q3⟩
          by_cases e : z' = z
          · rw [e, cs] at q2; cases q2
          · exact ⟨z', by omega, q2, q3⟩
    · rw [cs] at e2
      obtain ⟨S3, e3, h3'⟩ := cl_middle hd hs h3 hW (a := z) (by omega) (show sm (fun z => if sk D set M 0 (t3 z 0 0) then g1 D set M z else 0) z < 950 by omega) h2
      refine ⟨S3, ?_, ?_⟩
      · rw [k_Loads_waysFor_30_eq]
        simp (disch := omega) only [zL0, zL1, zL2, zL3, zL4, zL5, zL6, zL7, zL8, zL9, zL10, zL12, zL20, zL30, zL31, zL32, zL44, zL48, zL49, zL50, zL56, zL59, zL60, zL61, zL64, zL65, zL97, zL99, zL100, zL101, zL102, zL103, zL104, zL111, zL119, zL126, zL255, zL512, zL617, zL65535, zL65536, zL1048576, zlt, zle, zeq, ztn, zin, zzb, zadd, zmul, zm_lt, zm_gt, zm_le, zm_ge, zm_eq, zm_eq', zm_in, if_pos, if_neg, bI_s, bJ_s, bA_s, bU_s, if_true, if_false, reduceIte, or_true, true_or, or_false, false_or, and_true, true_and, and_false, false_and, not_true_eq_false, not_false_eq_true, Nat.reduceEqDiff, Nat.zero_ne_one, Nat.one_ne_zero, hch, e2, e3, k_Loads_waysFor_52_eq]
      · rw [sm, cs]
        refine St_cong (St_le h3' (by omega) (fun k hk => absurd hk (Nat.not_lt_zero k))) (fun c => ?_)
        constructor
        · rintro (⟨z', q1, q2, q3⟩ | q)
          · exact ⟨z', by omega, q2, q3⟩
          · exact ⟨z, by omega, cs, q⟩
        · rintro ⟨z', q1, q2, q3⟩
          by_cases e : z' = z
          · rw [e] at q3; exact Or.inr q3
          · exact Or.inl ⟨z', by omega, q2, q3⟩) (rr set 0) 0 S (by omega) (by
      refine St_cong h (fun c => ⟨fun q => q.elim, fun q => ?_⟩)
      obtain ⟨z, q1, _⟩ := q
      omega)
  refine ⟨S1, ?_, h1⟩
  have hch := St_ch h1 (k := 0) (by omega)
  obtain ⟨_, _, T, _, _, W⟩ := h1
  have w7 := W.1
  rw [e1, k_Loads_waysFor_30_eq]
  simp (disch := omega) only [zL0, zL1, zL2, zL3, zL4, zL5, zL6, zL7, zL8, zL9, zL10, zL12, zL20, zL30, zL31, zL32, zL44, zL48, zL49, zL50, zL56, zL59, zL60, zL61, zL64, zL65, zL97, zL99, zL100, zL101, zL102, zL103, zL104, zL111, zL119, zL126, zL255, zL512, zL617, zL65535, zL65536, zL1048576, zlt, zle, zeq, ztn, zin, zzb, zadd, zmul, zm_lt, zm_gt, zm_le, zm_ge, zm_eq, zm_eq', zm_in, if_pos, if_neg, bI_s, bJ_s, bA_s, bU_s, if_true, if_false, reduceIte, or_true, true_or, or_false, false_or, and_true, true_and, and_false, false_and, not_true_eq_false, not_false_eq_true, Nat.reduceEqDiff, Nat.zero_ne_one, Nat.one_ne_zero, hch]
  rw [w7]
  rfl
/-! the ways counted by their codes -/
theorem sm_codes (f : Nat → Nat) (h3 : bc set 5 ≤ 3) : sm f (10 ^ bc set 5) = sm (fun a => sm (fun b => sm (fun c => f (t3 a b c)) (rr set 2)) (rr set 1)) (rr set 0) := by
  have hr : ∀ k, rr set k = if k < bc set 5 then 10 else 1 := fun k => rfl
  rw [hr 0, hr 1, hr 2]
  generalize bc set 5 = n at *
  match n, h3 with
  | 0, _ => simp [sm, t3]
  | 1, _ =>
    simp only [Nat.pow_one, show (0 : Nat) < 1 from by decide, show ¬ (1 : Nat) < 1 from by decide, show ¬ (2 : Nat) < 1 from by decide, if_true, if_false]
    refine sm_cong (fun k _ => ?_)
    simp [sm, t3]
  | 2, _ =>
    simp only [show (0 : Nat) < 2 from by decide, show (1 : Nat) < 2 from by decide, show ¬ (2 : Nat) < 2 from by decide, if_true, if_false]
    rw [show (10 : Nat) ^ 2 = 10 * 10 from rfl, sm_ten, sm_swap]
    refine sm_cong (fun a _ => sm_cong (fun b _ => ?_))
    simp only [sm, Nat.zero_add]
    congr 1
    unfold t3
    omega
  | 3, _ =>
    simp only [show (0 : Nat) < 3 from by decide, show (1 : Nat) < 3 from by decide, show (2 : Nat) < 3 from by decide, if_true]
    rw [show (10 : Nat) ^ 3 = 10 * (10 * 10) from rfl, sm_ten, sm_swap]
    refine sm_cong (fun a _ => ?_)
    rw [sm_ten, sm_swap]
    refine sm_cong (fun b _ => sm_cong (fun c _ => ?_))
    congr 1
    unfold t3
    omega
theorem g0_sum (hs : set < 32) : g0 D set M = sm (fun a => sm (fun b => sm (fun c => if sk D set M 0 (t3 a b c) && sk D set M 1 (t3 a b c) && sk D set M 2 (t3 a b c) then 1 else 0) (rr set 2)) (rr set 1)) (rr set 0) := by
  have hr0 := rr_le set 0
  have hr1 := rr_le set 1
  have hr2 := rr_le set 2
  unfold g0
  refine sm_cong (fun a ha => ?_)
  have e0 : ∀ b c, b < 10 → c < 10 → sk D set M 0 (t3 a b c) = sk D set M 0 (t3 a 0 0) := fun b c hb hc => sk_cong hs (fun q hq => by
    obtain ⟨d0, _, _⟩ := t3_dg (show a < 10 by omega) hb hc
    obtain ⟨d0', _, _⟩ := t3_dg (show a < 10 by omega) (show 0 < 10 by omega) (show 0 < 10 by omega)
    rw [show q = 0 by omega, d0, d0'])
  cases c0 : sk D set M 0 (t3 a 0 0)
  · rw [if_neg (by simp)]
    refine (sm_zero (fun b hb => sm_zero (fun c hc => ?_))).symm
    rw [e0 b c (by omega) (by omega), c0]
    simp
  · rw [if_pos rfl]
    unfold g1
    refine sm_cong (fun b hb => ?_)
    have e1 : ∀ c, c < 10 → sk D set M 1 (t3 a b c) = sk D set M 1 (t3 a b 0) := fun c hc => sk_cong hs (fun q hq => by
      obtain ⟨d0, d1, _⟩ := t3_dg (show a < 10 by omega) (show b < 10 by omega) hc
      obtain ⟨d0', d1', _⟩ := t3_dg (show a < 10 by omega) (show b < 10 by omega) (show 0 < 10 by omega)
      match q, hq with
      | 0, _ => rw [d0, d0']
      | 1, _ => rw [d1, d1'])
    cases c1 : sk D set M 1 (t3 a b 0)
    · rw [if_neg (by simp)]
      refine (sm_zero (fun c hc => ?_)).symm
      rw [e1 c (by omega), c1]
      simp
    · rw [if_pos rfl]
      unfold g2
      refine sm_cong (fun c hc => ?_)
      rw [e0 b c (by omega) (by omega), c0, e1 c (by omega), c1]
      simp
end FJ
