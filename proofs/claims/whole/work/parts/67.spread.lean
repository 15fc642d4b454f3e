/-! the planner's search -/
def SPc (far : Nat → Option Nat) (line : Nat → Nat) (e : Nat) (S : Mem) : Prop := (∀ p, p < 512 → S.1 53 p = eo (far p)) ∧ (∀ k, k < e → S.1 54 k = nI (line k)) ∧ S.1 52 4 = nI e
theorem bf_le {N g most : Nat} {E : Nat → Nat → Bool} {far : Nat → Option Nat} {line : Nat → Nat} {e h : Nat} (H : BF N E g most far line e h) : e ≤ N := fb_holes N e line (fun i hi => (H.1 i hi).1) (fun i j hij hj => H.2.1 i j hij hj)
section SPR
variable {D : DD} {nw P : Nat → Nat → Bool} {x : Int32} {S : Mem} {far : Nat → Option Nat} {line : Nat → Nat} {e h u d g most : Nat} {dn : Nat → Prop}
theorem cp_reach (hS : SPc far line e S) {r v : Nat} (hr : r < 512) (he : e < 512) : ∃ S', f_Planner_reach (nI r) (nI v) S = some S' ∧ SPc (fun q => if q = r then some v else far q) (fun k => if k = e then r else line k) (e + 1) S' ∧ frP S S' := by
  refine ⟨u1 (u1 (u1 S 53 r (nI v)) 54 e (nI r)) 52 4 (nI (e + 1)), ?_, ⟨fun p hp => ?_, fun k hk => ?_, zuS ⟨rfl, rfl⟩⟩, ⟨fun a k a1 a2 a3 => by rw [zuN (by omega), zuN (by omega), zuN (by omega)], rfl⟩⟩
  · rw [f_Planner_reach_eq, hS.2.2]
    simp (disch := omega) only [zL0, zL1, zL2, zL3, zL4, zL5, zL6, zL7, zL8, zL9, zL10, zL12, zL20, zL30, zL31, zL32, zL44, zL48, zL49, zL50, zL56, zL59, zL60, zL61, zL64, zL65, zL97, zL99, zL100, zL101, zL102, zL103, zL104, zL111, zL119, zL126, zL255, zL512, zL617, zL65535, zL65536, zL1048576, zlt, zle, zeq, ztn, zin, zzb, zadd, zmul, zm_lt, zm_gt, zm_le, zm_ge, zm_eq, zm_eq', zm_in, if_pos, if_neg, bI_s, bJ_s, bA_s, bU_s, if_true, if_false, reduceIte, or_true, true_or, or_false, false_or, and_true, true_and, and_false, false_and, not_true_eq_false, not_false_eq_true, Nat.reduceEqDiff, Nat.zero_ne_one, Nat.one_ne_zero, k_Planner_reach_37_eq]
  · rw [zuN (by omega), zuN (by omega)]
    dsimp only
    by_cases c : p = r
    · rw [zuS ⟨rfl, c⟩, if_pos c]; rfl
    · rw [zuN (by omega), if_neg c]; exact hS.1 p hp
  · rw [zuN (by omega)]
    dsimp only
    by_cases c : k = e
    · rw [zuS ⟨rfl, c⟩, if_pos c]
    · rw [zuN (by omega), if_neg c, zuN (by omega)]; exact hS.2.1 k (by omega)
theorem cp_one (hd : okD D) (hW : 1 ≤ D 55 7) (hPL : PL D P x S) (hN : NW D nw x) (hs : ∀ a b, nw a b = nw b a) (hB : BI 512 (EE D nw P) g most far line e h u d dn) (hS : SPc far line e S) (hu : u < 512) (hm : most ≤ 30) {b0 b1 k : Nat} (hb0 : b0 < 8) (hb1 : b1 < 8) (s0 : sw D 0 (dq u 0) b0) (s1 : sw D 1 (dq u 1) b1) (h01 : (cf nw (dq u 0) b0 (dq u 1) b1 && !P 0 1) = false) (h2 : ¬ 2 < D 55 7 → dq u 2 = 0) (hk : k < nsd D 2 (dq u 2)) {i j : Int32} : ∃ S' far' line' e' b2 r, r = (b0 * 8 + b1) * 8 + b2 ∧ b2 < 8 ∧ sw D 2 (dq u 2) b2 ∧ ix D 2 (dq u 2) b2 = k ∧ k_Planner_spread_108 (nI u) (nI (dq u 0)) (nI (dq u 1)) (nI (dq u 2)) (nI (nsd D 2 (dq u 2))) i (nI b0) j (nI b1) (nI k) S = k_Planner_spread_108 (nI u) (nI (dq u 0)) (nI (dq u 1)) (nI (dq u 2)) (nI (nsd D 2 (dq u 2))) i (nI b0) j (nI b1) (nI (k + 1)) S' ∧ frP S S' ∧ SPc far' line' e' S' ∧ BI 512 (EE D nw P) g most far' line' e' h u d (fun q => dn q ∨ q = r) := by
  obtain ⟨b2, hb2, s2, hix, hst⟩ := cp_step hd hW (dq_lt u 2) h2 hk
  have hst := hst S hPL.1
  obtain ⟨r, hrr⟩ : ∃ r, r = (b0 * 8 + b1) * 8 + b2 := ⟨_, rfl⟩
  obtain ⟨r0, r1, r2⟩ := dq_of hb0 hb1 hb2
  rw [← hrr] at r0 r1 r2
  have hr : r < 512 := by omega
  have hns := nsd_le (D := D) 2 (dq u 2)
  have hfr := hS.1 r hr
  have g0 := dq_lt u 0
  have g1 := dq_lt u 1
  have g2 := dq_lt u 2
  have head : k_Planner_spread_108 (nI u) (nI (dq u 0)) (nI (dq u 1)) (nI (dq u 2)) (nI (nsd D 2 (dq u 2))) i (nI b0) j (nI b1) (nI k) S = if eo (far r) = -nI 1 then (if S.1 52 8 = 0 then bI (f_Planner_clash (nI (dq u 0)) (nI b0) (nI (dq u 2)) (nI b2) S) (fun r47 S46 => if r47 = 0 then k_Planner_spread_176 (nI u) (nI (dq u 0)) (nI (dq u 1)) (nI (dq u 2)) (nI (nsd D 2 (dq u 2))) i (nI b0) j (nI b1) (nI k) (nI b2) (nI r) S46 else k_Planner_spread_211 (nI u) (nI (dq u 0)) (nI (dq u 1)) (nI (dq u 2)) (nI (nsd D 2 (dq u 2))) i (nI b0) j (nI b1) (nI k) S46) else k_Planner_spread_176 (nI u) (nI (dq u 0)) (nI (dq u 1)) (nI (dq u 2)) (nI (nsd D 2 (dq u 2))) i (nI b0) j (nI b1) (nI k) (nI b2) (nI r) S) else k_Planner_spread_211 (nI u) (nI (dq u 0)) (nI (dq u 1)) (nI (dq u 2)) (nI (nsd D 2 (dq u 2))) i (nI b0) j (nI b1) (nI k) S := by
    rw [k_Planner_spread_108_eq]
    simp (disch := omega) only [zL0, zL1, zL2, zL3, zL4, zL5, zL6, zL7, zL8, zL9, zL10, zL12, zL20, zL30, zL31, zL32, zL44, zL48, zL49, zL50, zL56, zL59, zL60, zL61, zL64, zL65, zL97, zL99, zL100, zL101, zL102, zL103, zL104, zL111, zL119, zL126, zL255, zL512, zL617, zL65535, zL65536, zL1048576, zlt, zle, zeq, ztn, zin, zzb, zadd, zmul, zm_lt, zm_gt, zm_le, zm_ge, zm_eq, zm_eq', zm_in, if_pos, if_neg, bI_s, bJ_s, bA_s, bU_s, if_true, if_false, reduceIte, or_true, true_or, or_false, false_or, and_true, true_and, and_false, false_and, not_true_eq_false, not_false_eq_true, Nat.reduceEqDiff, Nat.zero_ne_one, Nat.one_ne_zero, hst, ← hrr, hfr]
    rfl
  rw [head]
  have keep : k_Planner_spread_211 (nI u) (nI (dq u 0)) (nI (dq u 1)) (nI (dq u 2)) (nI (nsd D 2 (dq u 2))) i (nI b0) j (nI b1) (nI k) S = k_Planner_spread_108 (nI u) (nI (dq u 0)) (nI (dq u 1)) (nI (dq u 2)) (nI (nsd D 2 (dq u 2))) i (nI b0) j (nI b1) (nI (k + 1)) S := by
    rw [k_Planner_spread_211_eq, zL1, zadd]
  have no : EE D nw P u r = false → BI 512 (EE D nw P) g most far line e h u d (fun q => dn q ∨ q = r) := fun hE => bi_more hB (fun q hq hdn hEq => by
    rcases hdn with w | w
    · exact hB.2.2.2.2.2.2 q hq w hEq
    · rw [w, hE] at hEq; cases hEq)
  cases ef : far r with
  | some v =>
    have hv := (bf_some hB.1 hr ef).2
    refine ⟨S, far, line, e, b2, r, hrr, hb2, s2, hix, ?_, frP_r S, hS, bi_more hB (fun q hq hdn hEq => ?_)⟩
    · rw [eo, if_neg (by rw [zm_eq (by omega)]; trivial)]
      exact keep
    · rcases hdn with w | w
      · exact hB.2.2.2.2.2.2 q hq w hEq
      · rw [w, ef]; simp
  | none =>
    rw [eo, if_pos rfl, cp_pair hPL hN g0 hb0 g2 hb2 (fun S46 => k_Planner_spread_176 (nI u) (nI (dq u 0)) (nI (dq u 1)) (nI (dq u 2)) (nI (nsd D 2 (dq u 2))) i (nI b0) j (nI b1) (nI k) (nI b2) (nI r) S46) (fun S46 => k_Planner_spread_211 (nI u) (nI (dq u 0)) (nI (dq u 1)) (nI (dq u 2)) (nI (nsd D 2 (dq u 2))) i (nI b0) j (nI b1) (nI k) S46) hPL.2.2.1]
    by_cases c02 : (cf nw (dq u 0) b0 (dq u 2) b2 && !P 0 2) = true
    · refine ⟨S, far, line, e, b2, r, hrr, hb2, s2, hix, ?_, frP_r S, hS, no ?_⟩
      · rw [if_pos c02]; exact keep
      · rcases Bool.eq_false_or_eq_true (EE D nw P u r) with w | w
        · have := (EE_iff.mp w).2.2.1
          rw [ec_cf, r0, r2, c02] at this
          cases this
        · exact w
    · rw [if_neg c02, k_Planner_spread_176_eq, cp_pair hPL hN g1 hb1 g2 hb2 (fun S46 => k_Planner_spread_197 (nI u) (nI (dq u 0)) (nI (dq u 1)) (nI (dq u 2)) (nI (nsd D 2 (dq u 2))) i (nI b0) j (nI b1) (nI k) (nI r) S46) (fun S46 => k_Planner_spread_211 (nI u) (nI (dq u 0)) (nI (dq u 1)) (nI (dq u 2)) (nI (nsd D 2 (dq u 2))) i (nI b0) j (nI b1) (nI k) S46) hPL.2.2.2.1]
      by_cases c12 : (cf nw (dq u 1) b1 (dq u 2) b2 && !P 1 2) = true
      · refine ⟨S, far, line, e, b2, r, hrr, hb2, s2, hix, ?_, frP_r S, hS, no ?_⟩
        · rw [if_pos c12]; exact keep
        · rcases Bool.eq_false_or_eq_true (EE D nw P u r) with w | w
          · have := (EE_iff.mp w).2.2.2
            rw [ec_cf, r1, r2, c12] at this
            cases this
          · exact w
      · rw [if_neg c12]
        have hE : EE D nw P u r = true := by
          rw [EE_iff]
          refine ⟨⟨es_sw.mpr (by rw [r0]; exact s0), es_sw.mpr (by rw [r1]; exact s1), es_sw.mpr (by rw [r2]; exact s2)⟩, ?_, ?_, ?_⟩
          · rw [ec_cf, r0, r1]; exact h01
          · rw [ec_cf, r0, r2]; exact Bool.eq_false_iff.mpr c02
          · rw [ec_cf, r1, r2]; exact Bool.eq_false_iff.mpr c12
        obtain ⟨hB2, he⟩ := bi_add (EE_sym hs) hB hr hE ef
        obtain ⟨S1, e1, p1, f1⟩ := cp_reach (v := d + 1) hS hr he
        have hd30 := hB.2.2.2.2.1
        have hfu : S.1 53 u = nI d := by rw [hS.1 u hu, hB.2.2.2.1]; rfl
        refine ⟨S1, _, _, _, b2, r, hrr, hb2, s2, hix, ?_, f1, p1, hB2⟩
        rw [k_Planner_spread_197_eq]
        simp (disch := omega) only [zL0, zL1, zL2, zL3, zL4, zL5, zL6, zL7, zL8, zL9, zL10, zL12, zL20, zL30, zL31, zL32, zL44, zL48, zL49, zL50, zL56, zL59, zL60, zL61, zL64, zL65, zL97, zL99, zL100, zL101, zL102, zL103, zL104, zL111, zL119, zL126, zL255, zL512, zL617, zL65535, zL65536, zL1048576, zlt, zle, zeq, ztn, zin, zzb, zadd, zmul, zm_lt, zm_gt, zm_le, zm_ge, zm_eq, zm_eq', zm_in, if_pos, if_neg, bI_s, bJ_s, bA_s, bU_s, if_true, if_false, reduceIte, or_true, true_or, or_false, false_or, and_true, true_and, and_false, false_and, not_true_eq_false, not_false_eq_true, Nat.reduceEqDiff, Nat.zero_ne_one, Nat.one_ne_zero, hfu, e1]
        rw [k_Planner_spread_211_eq, zL1, zadd]
theorem cp_k (hd : okD D) (hW : 1 ≤ D 55 7) (hPL : PL D P x S) (hN : NW D nw x) (hs : ∀ a b, nw a b = nw b a) (hB : BI 512 (EE D nw P) g most far line e h u d dn) (hS : SPc far line e S) (hu : u < 512) (hm : most ≤ 30) {b0 b1 : Nat} (hb0 : b0 < 8) (hb1 : b1 < 8) (s0 : sw D 0 (dq u 0) b0) (s1 : sw D 1 (dq u 1) b1) (h01 : (cf nw (dq u 0) b0 (dq u 1) b1 && !P 0 1) = false) (h2 : ¬ 2 < D 55 7 → dq u 2 = 0) {i j : Int32} : ∃ S' far' line' e', k_Planner_spread_108 (nI u) (nI (dq u 0)) (nI (dq u 1)) (nI (dq u 2)) (nI (nsd D 2 (dq u 2))) i (nI b0) j (nI b1) (nI 0) S = k_Planner_spread_217 (nI u) (nI (dq u 0)) (nI (dq u 1)) (nI (dq u 2)) (nI (nsd D 2 (dq u 2))) i (nI b0) j S' ∧ frP S S' ∧ SPc far' line' e' S' ∧ BI 512 (EE D nw P) g most far' line' e' h u d (fun q => dn q ∨ (dq q 0 = b0 ∧ dq q 1 = b1)) := by
  obtain ⟨S1, e1, f1, far1, line1, ee1, p1, B1⟩ := zfor (fun k S => k_Planner_spread_108 (nI u) (nI (dq u 0)) (nI (dq u 1)) (nI (dq u 2)) (nI (nsd D 2 (dq u 2))) i (nI b0) j (nI b1) (nI k) S) (nsd D 2 (dq u 2)) (fun k S1 => frP S S1 ∧ ∃ far1 line1 ee1, SPc far1 line1 ee1 S1 ∧ BI 512 (EE D nw P) g most far1 line1 ee1 h u d (fun q => dn q ∨ (dq q 0 = b0 ∧ dq q 1 = b1 ∧ ix D 2 (dq u 2) (dq q 2) < k))) (by
    intro k S1 hk ⟨f1, far1, line1, ee1, p1, B1⟩
    obtain ⟨S2, far2, line2, ee2, b2, r, hrr, hb2, s2, hix, e2, f2, p2, B2⟩ := cp_one hd hW (PL_f hd hPL f1) hN hs B1 p1 hu hm hb0 hb1 s0 s1 h01 h2 hk (i := i) (j := j)
    refine ⟨S2, e2, frP_t f1 f2, far2, line2, ee2, p2, bi_more B2 (fun q hq hdn hE => B2.2.2.2.2.2.2 q hq ?_ hE)⟩
    rcases hdn with w | ⟨w0, w1, w2⟩
    · exact Or.inl (Or.inl w)
    · by_cases c : ix D 2 (dq u 2) (dq q 2) < k
      · exact Or.inl (Or.inr ⟨w0, w1, c⟩)
      · have hb : dq q 2 = b2 := ix_one (es_sw.mp (EE_iff.mp hE).1.2.2) s2 (by omega)
        have := dq_code hq
        rw [w0, w1, hb] at this
        exact Or.inr (by rw [hrr]; exact this.symm)) (nsd D 2 (dq u 2)) 0 S (by omega) ⟨frP_r S, far, line, e, hS, bi_more hB (fun q hq hdn hE => by
      rcases hdn with w | ⟨_, _, w⟩
      · exact hB.2.2.2.2.2.2 q hq w hE
      · omega)⟩
  have hns := nsd_le (D := D) 2 (dq u 2)
  refine ⟨S1, far1, line1, ee1, ?_, f1, p1, bi_more B1 (fun q hq hdn hE => B1.2.2.2.2.2.2 q hq ?_ hE)⟩
  · rw [e1, k_Planner_spread_108_eq, if_pos (by rw [zle (by omega) (by omega)]; exact Nat.le_refl _)]
  · rcases hdn with w | ⟨w0, w1⟩
    · exact Or.inl w
    · exact Or.inr ⟨w0, w1, ix_lt (dq_lt q 2) (es_sw.mp (EE_iff.mp hE).1.2.2)⟩
theorem zm1 (m : Nat) : nI m + -1 = nI m - nI 1 := by rw [Int32.sub_eq_add_neg]; rfl
theorem cp_j (hd : okD D) (hW : 1 ≤ D 55 7) (hPL : PL D P x S) (hN : NW D nw x) (hs : ∀ a b, nw a b = nw b a) (hB : BI 512 (EE D nw P) g most far line e h u d dn) (hS : SPc far line e S) (hu : u < 512) (hm : most ≤ 30) {b0 : Nat} (hb0 : b0 < 8) (s0 : sw D 0 (dq u 0) b0) (h1 : ¬ 1 < D 55 7 → dq u 1 = 0) (h2 : ¬ 2 < D 55 7 → dq u 2 = 0) {i : Int32} : ∃ S' far' line' e', k_Planner_spread_65 (nI u) (nI (dq u 0)) (nI (dq u 1)) (nI (dq u 2)) (nI (nsd D 2 (dq u 2))) i (nI b0) (nI (nsd D 1 (dq u 1)) - nI 1) S = k_Planner_spread_38 (nI u) (nI (dq u 0)) (nI (dq u 1)) (nI (dq u 2)) (nI (nsd D 2 (dq u 2))) (i + -1) S' ∧ frP S S' ∧ SPc far' line' e' S' ∧ BI 512 (EE D nw P) g most far' line' e' h u d (fun q => dn q ∨ dq q 0 = b0) := by
  have hns := nsd_le (D := D) 1 (dq u 1)
  obtain ⟨S1, e1, f1, far1, line1, ee1, p1, B1⟩ := zdn (fun m S => k_Planner_spread_65 (nI u) (nI (dq u 0)) (nI (dq u 1)) (nI (dq u 2)) (nI (nsd D 2 (dq u 2))) i (nI b0) (nI m - nI 1) S) (fun m S1 => frP S S1 ∧ ∃ far1 line1 ee1, SPc far1 line1 ee1 S1 ∧ BI 512 (EE D nw P) g most far1 line1 ee1 h u d (fun q => dn q ∨ (dq q 0 = b0 ∧ m ≤ ix D 1 (dq u 1) (dq q 1)))) (nsd D 1 (dq u 1)) (by
    intro m S1 hm1 ⟨f1, far1, line1, ee1, p1, B1⟩
    obtain ⟨b1, hb1, s1, hix, hst⟩ := cp_step hd hW (dq_lt u 1) h1 hm1
    have hPL1 := PL_f hd hPL f1
    have hst := hst S1 hPL1.1
    have uniq : ∀ q, EE D nw P u q = true → m ≤ ix D 1 (dq u 1) (dq q 1) → ¬ m + 1 ≤ ix D 1 (dq u 1) (dq q 1) → dq q 1 = b1 := fun q hE c1 c2 => ix_one (es_sw.mp (EE_iff.mp hE).1.2.1) s1 (by omega)
    have head : k_Planner_spread_65 (nI u) (nI (dq u 0)) (nI (dq u 1)) (nI (dq u 2)) (nI (nsd D 2 (dq u 2))) i (nI b0) (nI (m + 1) - nI 1) S1 = if (cf nw (dq u 0) b0 (dq u 1) b1 && !P 0 1) = true then k_Planner_spread_217 (nI u) (nI (dq u 0)) (nI (dq u 1)) (nI (dq u 2)) (nI (nsd D 2 (dq u 2))) i (nI b0) (nI m) S1 else k_Planner_spread_105 (nI u) (nI (dq u 0)) (nI (dq u 1)) (nI (dq u 2)) (nI (nsd D 2 (dq u 2))) i (nI b0) (nI m) (nI b1) S1 := by
      rw [zpred, k_Planner_spread_65_eq, hst, bI_s, if_neg (znlt0 (by omega)), cp_pair hPL1 hN (dq_lt u 0) hb0 (dq_lt u 1) hb1 (fun S => k_Planner_spread_105 (nI u) (nI (dq u 0)) (nI (dq u 1)) (nI (dq u 2)) (nI (nsd D 2 (dq u 2))) i (nI b0) (nI m) (nI b1) S) (fun S => k_Planner_spread_217 (nI u) (nI (dq u 0)) (nI (dq u 1)) (nI (dq u 2)) (nI (nsd D 2 (dq u 2))) i (nI b0) (nI m) S) hPL1.2.1]
    show ∃ S', k_Planner_spread_65 _ _ _ _ _ _ _ (nI (m + 1) - nI 1) S1 = _ ∧ _
    rw [head]
    by_cases c01 : (cf nw (dq u 0) b0 (dq u 1) b1 && !P 0 1) = true
    · refine ⟨S1, ?_, f1, far1, line1, ee1, p1, bi_more B1 (fun q hq hdn hE => B1.2.2.2.2.2.2 q hq ?_ hE)⟩
      · rw [if_pos c01, k_Planner_spread_217_eq, zm1]
      · rcases hdn with w | ⟨w0, w1⟩
        · exact Or.inl w
        · by_cases c : m + 1 ≤ ix D 1 (dq u 1) (dq q 1)
          · exact Or.inr ⟨w0, c⟩
          · exfalso
            have hb := uniq q hE w1 c
            have := (EE_iff.mp hE).2.1
            rw [ec_cf, w0, hb, c01] at this
            cases this
    · rw [if_neg c01]
      obtain ⟨S2, far2, line2, ee2, e2, f2, p2, B2⟩ := cp_k hd hW hPL1 hN hs B1 p1 hu hm hb0 hb1 s0 s1 (Bool.eq_false_iff.mpr c01) h2 (i := i) (j := nI m)
      refine ⟨S2, ?_, frP_t f1 f2, far2, line2, ee2, p2, bi_more B2 (fun q hq hdn hE => B2.2.2.2.2.2.2 q hq ?_ hE)⟩
      · rw [k_Planner_spread_105_eq, zL0, e2, k_Planner_spread_217_eq, zm1]
      · rcases hdn with w | ⟨w0, w1⟩
        · exact Or.inl (Or.inl w)
        · by_cases c : m + 1 ≤ ix D 1 (dq u 1) (dq q 1)
          · exact Or.inl (Or.inr ⟨w0, c⟩)
          · exact Or.inr ⟨w0, uniq q hE w1 c⟩) (nsd D 1 (dq u 1)) S (Nat.le_refl _) ⟨frP_r S, far, line, e, hS, bi_more hB (fun q hq hdn hE => by
      rcases hdn with w | ⟨_, w⟩
      · exact hB.2.2.2.2.2.2 q hq w hE
      · have := ix_lt (dq_lt q 1) (es_sw.mp (EE_iff.mp hE).1.2.1)
        omega)⟩
  refine ⟨S1, far1, line1, ee1, ?_, f1, p1, bi_more B1 (fun q hq hdn hE => B1.2.2.2.2.2.2 q hq ?_ hE)⟩
  · rw [e1, k_Planner_spread_65_eq, if_pos (by decide)]
  · rcases hdn with w | w
    · exact Or.inl w
    · exact Or.inr ⟨w, Nat.zero_le _⟩
end SPR
