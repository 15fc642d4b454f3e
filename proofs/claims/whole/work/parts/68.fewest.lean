section FEW
variable {D : DD} {nw P : Nat → Nat → Bool} {x : Int32} {S : Mem} {far : Nat → Option Nat} {line : Nat → Nat} {e h g most : Nat}
theorem cp_spread (hd : okD D) (hW : 1 ≤ D 55 7) (hg : im (D 55 7) g) (hPL : PL D P x S) (hN : NW D nw x) (hs : ∀ a b, nw a b = nw b a) (hB : BF 512 (EE D nw P) g most far line e h) (hS : SPc far line e S) (hm : most ≤ 30) (he : h < e) {d : Nat} (hfd : far (line h) = some d) (hdm : d < most) : ∃ S' far' line' e', f_Planner_spread (nI (line h)) S = some S' ∧ frP S S' ∧ SPc far' line' e' S' ∧ BF 512 (EE D nw P) g most far' line' e' (h + 1) ∧ h + 1 ≤ e' := by
  obtain ⟨u, hu_⟩ : ∃ u, u = line h := ⟨_, rfl⟩
  have hu : u < 512 := by rw [hu_]; exact (hB.1 h he).1
  have hI := bi_in hB (EE_sym hs) he hfd hdm
  rw [← hu_] at hI hfd ⊢
  have hds := (bf_some hB hu hfd).1
  have habs : ∀ w, w < 3 → ¬ w < D 55 7 → dq u w = 0 := fun w w3 hw => by
    rw [lv_abs d u hds.1 w (by omega) w3]
    exact hg w (by omega) w3
  obtain ⟨S1, e1, f1, far1, line1, ee1, p1, B1⟩ := zdn (fun m S => k_Planner_spread_38 (nI u) (nI (dq u 0)) (nI (dq u 1)) (nI (dq u 2)) (nI (nsd D 2 (dq u 2))) (nI m - nI 1) S) (fun m S1 => frP S S1 ∧ ∃ far1 line1 ee1, SPc far1 line1 ee1 S1 ∧ BI 512 (EE D nw P) g most far1 line1 ee1 h u d (fun q => m ≤ ix D 0 (dq u 0) (dq q 0))) (nsd D 0 (dq u 0)) (by
    intro m S1 hm1 ⟨f1, far1, line1, ee1, p1, B1⟩
    obtain ⟨b0, hb0, s0, hix, hst⟩ := cp_step hd hW (dq_lt u 0) (habs 0 (by omega)) hm1
    have hPL1 := PL_f hd hPL f1
    have hst := hst S1 hPL1.1
    have hns := cp_stepsOf hd hPL1.1 (w := 1) (by omega) (dq_lt u 1)
    have n8 := nsd_le (D := D) 0 (dq u 0)
    obtain ⟨S2, far2, line2, ee2, e2, f2, p2, B2⟩ := cp_j hd hW hPL1 hN hs B1 p1 hu hm hb0 s0 (habs 1 (by omega)) (habs 2 (by omega)) (i := nI m)
    refine ⟨S2, ?_, frP_t f1 f2, far2, line2, ee2, p2, bi_more B2 (fun q hq hdn hE => B2.2.2.2.2.2.2 q hq ?_ hE)⟩
    · show k_Planner_spread_38 _ _ _ _ _ (nI (m + 1) - nI 1) S1 = _
      rw [zpred, k_Planner_spread_38_eq, hst, bI_s, if_neg (znlt0 (by omega)), show (1 : Int32) = nI 1 from rfl, hns, bI_s, e2, zm1]
    · by_cases c : m + 1 ≤ ix D 0 (dq u 0) (dq q 0)
      · exact Or.inl c
      · exact Or.inr (ix_one (es_sw.mp (EE_iff.mp hE).1.1) s0 (by omega))) (nsd D 0 (dq u 0)) S (Nat.le_refl _) ⟨frP_r S, far, line, e, hS, bi_more hI (fun q hq hdn hE => by
      have := ix_lt (dq_lt q 0) (es_sw.mp (EE_iff.mp hE).1.1)
      omega)⟩
  refine ⟨S1, far1, line1, ee1, ?_, f1, p1, bi_out B1 (fun _ _ _ => Nat.zero_le _), B1.2.1⟩
  have e0 : k_Planner_spread_38 (nI u) (nI (dq u 0)) (nI (dq u 1)) (nI (dq u 2)) (nI (nsd D 2 (dq u 2))) (nI (nsd D 0 (dq u 0)) - nI 1) S = some S1 := by
    rw [e1, k_Planner_spread_38_eq, if_pos (by decide)]
  rw [f_Planner_spread_eq, zL0, zL1, zL2]
  simp (disch := omega) only [cp_cornerIn, cp_stepsOf hd hPL.1 (w := 2) (by omega) (dq_lt u 2), cp_stepsOf hd hPL.1 (w := 0) (by omega) (dq_lt u 0), bI_s, e0]
def frE (S S' : Mem) : Prop := (∀ a k, a ≠ 53 → a ≠ 54 → ¬ (a = 52 ∧ (k = 4 ∨ k = 10)) → S'.1 a k = S.1 a k) ∧ S'.2 = S.2
theorem frE_t {S S' S'' : Mem} (h : frE S S') (h2 : frE S' S'') : frE S S'' := ⟨fun a k a1 a2 a3 => by rw [h2.1 a k a1 a2 a3, h.1 a k a1 a2 a3], h2.2.trans h.2⟩
theorem frE_C {S S' : Mem} (h : frE S S') : frC S S' := fun a k q => h.1 a k (by omega) (by omega) (by omega)
/-- the begun planner: from s to g -/
def PB0 (D : DD) (P : Nat → Nat → Bool) (s g : Nat) (S : Mem) : Prop := RC D S ∧ S.1 52 5 = nI s ∧ S.1 52 6 = nI g ∧ S.1 52 7 = nI (if P 0 1 then 1 else 0) ∧ S.1 52 8 = nI (if P 0 2 then 1 else 0) ∧ S.1 52 9 = nI (if P 1 2 then 1 else 0)
theorem PB0_f (hd : okD D) {s : Nat} {S' : Mem} (h : PB0 D P s g S) (f : frE S S') : PB0 D P s g S' := ⟨RC_f hd h.1 (frE_C f), by rw [f.1 _ _ (by omega) (by omega) (by omega)]; exact h.2.1, by rw [f.1 _ _ (by omega) (by omega) (by omega)]; exact h.2.2.1, by rw [f.1 _ _ (by omega) (by omega) (by omega)]; exact h.2.2.2.1, by rw [f.1 _ _ (by omega) (by omega) (by omega)]; exact h.2.2.2.2.1, by rw [f.1 _ _ (by omega) (by omega) (by omega)]; exact h.2.2.2.2.2⟩
theorem cp_loop (hd : okD D) (hW : 1 ≤ D 55 7) (hg : im (D 55 7) g) (hN : NW D nw x) (hs : ∀ a b, nw a b = nw b a) (hm : most ≤ 30) {s : Nat} (hs5 : s < 512) : ∀ m h S far line e, 512 ≤ h + m → h ≤ e → PL D P x S → S.1 52 5 = nI s → SPc far line e S → BF 512 (EE D nw P) g most far line e h → ∃ S' far' line' e' h', k_Planner_fewest_40 (nI most) (nI h) S = some (eo (far' s), S') ∧ frP S S' ∧ SPc far' line' e' S' ∧ BF 512 (EE D nw P) g most far' line' e' h' ∧ (far' s ≠ none ∨ e' ≤ h' ∨ (h' < e' ∧ ∃ d, far' (line' h') = some d ∧ most ≤ d)) := by
  intro m
  induction m with
  | zero =>
    intro h S far line e hh hhe hPL h5 hS hB
    have he := bf_le hB
    refine ⟨S, far, line, e, h, ?_, frP_r S, hS, hB, Or.inr (Or.inl (by omega))⟩
    have h1 := hS.1 s hs5
    rw [k_Planner_fewest_40_eq, hS.2.2, k_Planner_fewest_99_eq, h5]
    simp (disch := omega) only [zL0, zL1, zL2, zL3, zL4, zL5, zL6, zL7, zL8, zL9, zL10, zL12, zL20, zL30, zL31, zL32, zL44, zL48, zL49, zL50, zL56, zL59, zL60, zL61, zL64, zL65, zL97, zL99, zL100, zL101, zL102, zL103, zL104, zL111, zL119, zL126, zL255, zL512, zL617, zL65535, zL65536, zL1048576, zlt, zle, zeq, ztn, zin, zzb, zadd, zmul, zm_lt, zm_gt, zm_le, zm_ge, zm_eq, zm_eq', zm_in, if_pos, if_neg, bI_s, bJ_s, bA_s, bU_s, if_true, if_false, reduceIte, or_true, true_or, or_false, false_or, and_true, true_and, and_false, false_and, not_true_eq_false, not_false_eq_true, Nat.reduceEqDiff, Nat.zero_ne_one, Nat.one_ne_zero, h1]
  | succ m ih =>
    intro h S far line e hh hhe hPL h5 hS hB
    have he := bf_le hB
    have h1 := hS.1 s hs5
    by_cases c1 : e ≤ h
    · refine ⟨S, far, line, e, h, ?_, frP_r S, hS, hB, Or.inr (Or.inl (by omega))⟩
      rw [k_Planner_fewest_40_eq, hS.2.2, k_Planner_fewest_99_eq, h5]
      by_cases c0 : 512 ≤ h
      · simp (disch := omega) only [zL0, zL1, zL2, zL3, zL4, zL5, zL6, zL7, zL8, zL9, zL10, zL12, zL20, zL30, zL31, zL32, zL44, zL48, zL49, zL50, zL56, zL59, zL60, zL61, zL64, zL65, zL97, zL99, zL100, zL101, zL102, zL103, zL104, zL111, zL119, zL126, zL255, zL512, zL617, zL65535, zL65536, zL1048576, zlt, zle, zeq, ztn, zin, zzb, zadd, zmul, zm_lt, zm_gt, zm_le, zm_ge, zm_eq, zm_eq', zm_in, if_pos, if_neg, bI_s, bJ_s, bA_s, bU_s, if_true, if_false, reduceIte, or_true, true_or, or_false, false_or, and_true, true_and, and_false, false_and, not_true_eq_false, not_false_eq_true, Nat.reduceEqDiff, Nat.zero_ne_one, Nat.one_ne_zero, h1]
      · simp (disch := omega) only [zL0, zL1, zL2, zL3, zL4, zL5, zL6, zL7, zL8, zL9, zL10, zL12, zL20, zL30, zL31, zL32, zL44, zL48, zL49, zL50, zL56, zL59, zL60, zL61, zL64, zL65, zL97, zL99, zL100, zL101, zL102, zL103, zL104, zL111, zL119, zL126, zL255, zL512, zL617, zL65535, zL65536, zL1048576, zlt, zle, zeq, ztn, zin, zzb, zadd, zmul, zm_lt, zm_gt, zm_le, zm_ge, zm_eq, zm_eq', zm_in, if_pos, if_neg, bI_s, bJ_s, bA_s, bU_s, if_true, if_false, reduceIte, or_true, true_or, or_false, false_or, and_true, true_and, and_false, false_and, not_true_eq_false, not_false_eq_true, Nat.reduceEqDiff, Nat.zero_ne_one, Nat.one_ne_zero, h1]
    · cases ef : far s with
      | some v =>
        have hv := (bf_some hB hs5 ef).2
        refine ⟨S, far, line, e, h, ?_, frP_r S, hS, hB, Or.inl (by rw [ef]; simp)⟩
        rw [k_Planner_fewest_40_eq, hS.2.2, k_Planner_fewest_99_eq, h5]
        rw [ef] at h1
        simp (disch := omega) only [zL0, zL1, zL2, zL3, zL4, zL5, zL6, zL7, zL8, zL9, zL10, zL12, zL20, zL30, zL31, zL32, zL44, zL48, zL49, zL50, zL56, zL59, zL60, zL61, zL64, zL65, zL97, zL99, zL100, zL101, zL102, zL103, zL104, zL111, zL119, zL126, zL255, zL512, zL617, zL65535, zL65536, zL1048576, zlt, zle, zeq, ztn, zin, zzb, zadd, zmul, zm_lt, zm_gt, zm_le, zm_ge, zm_eq, zm_eq', zm_in, if_pos, if_neg, bI_s, bJ_s, bA_s, bU_s, if_true, if_false, reduceIte, or_true, true_or, or_false, false_or, and_true, true_and, and_false, false_and, not_true_eq_false, not_false_eq_true, Nat.reduceEqDiff, Nat.zero_ne_one, Nat.one_ne_zero, h1, eo, ef]
      | none =>
        obtain ⟨d, hdd⟩ := on_some (hB.1 h (by omega)).2
        have hl5 := (hB.1 h (by omega)).1
        have hl := hS.2.1 h (by omega)
        have hfl := hS.1 _ hl5
        rw [hdd] at hfl
        have hdm := (bf_some hB hl5 hdd).2
        rw [ef] at h1
        by_cases c2 : most ≤ d
        · refine ⟨S, far, line, e, h, ?_, frP_r S, hS, hB, Or.inr (Or.inr ⟨by omega, d, hdd, c2⟩)⟩
          rw [k_Planner_fewest_40_eq, hS.2.2, k_Planner_fewest_99_eq, h5]
          simp (disch := omega) only [zL0, zL1, zL2, zL3, zL4, zL5, zL6, zL7, zL8, zL9, zL10, zL12, zL20, zL30, zL31, zL32, zL44, zL48, zL49, zL50, zL56, zL59, zL60, zL61, zL64, zL65, zL97, zL99, zL100, zL101, zL102, zL103, zL104, zL111, zL119, zL126, zL255, zL512, zL617, zL65535, zL65536, zL1048576, zlt, zle, zeq, ztn, zin, zzb, zadd, zmul, zm_lt, zm_gt, zm_le, zm_ge, zm_eq, zm_eq', zm_in, if_pos, if_neg, bI_s, bJ_s, bA_s, bU_s, if_true, if_false, reduceIte, or_true, true_or, or_false, false_or, and_true, true_and, and_false, false_and, not_true_eq_false, not_false_eq_true, Nat.reduceEqDiff, Nat.zero_ne_one, Nat.one_ne_zero, h1, eo, ef, hl, hfl]
        · obtain ⟨S1, far1, line1, e1, q1, f1, p1, B1, hle⟩ := cp_spread hd hW hg hPL hN hs hB hS hm (by omega) hdd (by omega)
          obtain ⟨S2, far2, line2, e2, h2, q2, f2, p2, B2, st⟩ := ih (h + 1) S1 far1 line1 e1 (by omega) hle (PL_f hd hPL f1) (by rw [f1.1 _ _ (by omega) (by omega) (by omega)]; exact h5) p1 B1
          refine ⟨S2, far2, line2, e2, h2, ?_, frP_t f1 f2, p2, B2, st⟩
          rw [← q2, k_Planner_fewest_40_eq, hS.2.2, h5]
          simp (disch := omega) only [zL0, zL1, zL2, zL3, zL4, zL5, zL6, zL7, zL8, zL9, zL10, zL12, zL20, zL30, zL31, zL32, zL44, zL48, zL49, zL50, zL56, zL59, zL60, zL61, zL64, zL65, zL97, zL99, zL100, zL101, zL102, zL103, zL104, zL111, zL119, zL126, zL255, zL512, zL617, zL65535, zL65536, zL1048576, zlt, zle, zeq, ztn, zin, zzb, zadd, zmul, zm_lt, zm_gt, zm_le, zm_ge, zm_eq, zm_eq', zm_in, if_pos, if_neg, bI_s, bJ_s, bA_s, bU_s, if_true, if_false, reduceIte, or_true, true_or, or_false, false_or, and_true, true_and, and_false, false_and, not_true_eq_false, not_false_eq_true, Nat.reduceEqDiff, Nat.zero_ne_one, Nat.one_ne_zero, h1, eo, hl, hfl, q1]
theorem cp_fewest (hd : okD D) (hW : 1 ≤ D 55 7) {s : Nat} (hg : im (D 55 7) g) (hg5 : g < 512) (hs5 : s < 512) (hPB : PB0 D P s g S) (hN : NW D nw x) (hs : ∀ a b, nw a b = nw b a) (hm : most ≤ 30) : ∃ (S' : Mem) (r : Option Nat) (far : Nat → Option Nat), f_Planner_fewest x (nI most) S = some (eo r, S') ∧ frE S S' ∧ sn 512 (EE D nw P) g most s r ∧ (∀ p, p < 512 → S'.1 53 p = eo (far p)) ∧ PL D P x S' ∧ (∀ p v, p < 512 → far p = some v → v ≤ most) ∧ (∀ d, r = some (d + 1) → ∀ q, q < 512 → (far q = some d ↔ ds 512 (EE D nw P) g d q)) := by
  obtain ⟨Sa, ea, fa, ga, pa⟩ := jfill (a0 := 53) (n0 := 512) rfl (by omega) (-nI 1) (S := u1 S 52 10 x)
  obtain ⟨Sb, hSb⟩ : ∃ Sb, Sb = u1 (u1 (u1 Sa 53 g (nI 0)) 54 0 (nI g)) 52 4 (nI 1) := ⟨_, rfl⟩
  have fQ : frE S Sb := ⟨fun a k a1 a2 a3 => by rw [hSb, zuN (by omega), zuN (by omega), zuN (by omega), fa a k (by omega), zuN (by omega)], by rw [hSb]; show Sa.2 = _; rw [ga]; rfl⟩
  have hPB2 := PB0_f hd hPB fQ
  have hPL : PL D P x Sb := ⟨hPB2.1, hPB2.2.2.2.1, hPB2.2.2.2.2.1, hPB2.2.2.2.2.2, by rw [hSb, zuN (by omega), zuN (by omega), zuN (by omega), fa _ _ (by omega), zuS ⟨rfl, rfl⟩]⟩
  have hSP : SPc (fun p => if p = g then some 0 else none) (fun _ => g) 1 Sb := by
    refine ⟨fun p hp => ?_, fun k hk => ?_, by rw [hSb, zuS ⟨rfl, rfl⟩]⟩
    · rw [hSb, zuN (by omega), zuN (by omega)]
      dsimp only
      by_cases c : p = g
      · rw [zuS ⟨rfl, c⟩, if_pos c]; rfl
      · rw [zuN (by omega), if_neg c, pa p, if_pos hp]; rfl
    · rw [hSb, zuN (by omega), zuS ⟨rfl, by omega⟩]
  obtain ⟨S1, far1, line1, e1, h1, q1, f1, p1, B1, st⟩ := cp_loop hd hW hg hN hs hm hs5 512 0 Sb _ _ 1 (by omega) (by omega) hPL hPB2.2.1 hSP (bf_start hg5)
  have hg2 : (Sa.1 52 6) = nI g := by rw [fa _ _ (by omega), zuN (by omega)]; exact hPB.2.2.1
  refine ⟨S1, far1 s, far1, ?_, ⟨fun a k a1 a2 a3 => by rw [f1.1 a k a1 a2 (by omega), fQ.1 a k a1 a2 a3], f1.2.trans fQ.2⟩, bf_sn B1 (EE_sym hs) hs5 st, p1.1, PL_f hd hPL f1, fun p v hp hv => (bf_some B1 hp hv).2, fun d hdd q hq => bf_at B1 (EE_sym hs) hs5 hdd hq⟩
  rw [f_Planner_fewest_eq, zL1]
  rw [ea, bU_s, hg2]
  simp (disch := omega) only [zL0, zL1, zL2, zL3, zL4, zL5, zL6, zL7, zL8, zL9, zL10, zL12, zL20, zL30, zL31, zL32, zL44, zL48, zL49, zL50, zL56, zL59, zL60, zL61, zL64, zL65, zL97, zL99, zL100, zL101, zL102, zL103, zL104, zL111, zL119, zL126, zL255, zL512, zL617, zL65535, zL65536, zL1048576, zlt, zle, zeq, ztn, zin, zzb, zadd, zmul, zm_lt, zm_gt, zm_le, zm_ge, zm_eq, zm_eq', zm_in, if_pos, if_neg, bI_s, bJ_s, bA_s, bU_s, if_true, if_false, reduceIte, or_true, true_or, or_false, false_or, and_true, true_and, and_false, false_and, not_true_eq_false, not_false_eq_true, Nat.reduceEqDiff, Nat.zero_ne_one, Nat.one_ne_zero, ← hSb, q1]
end FEW
