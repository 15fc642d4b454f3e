/-! the crowd by the model -/
section MC
theorem crk_step (D : DD) (g : Nat) (w : Nat → Nat) (n : Nat) : crk D g w (n + 1) = dS (crk D g w n) 60 (dU (crk D g w n 60) n (if g.testBit n then D 60 n else w n)) := by
  funext a i
  by_cases h0 : a = 60
  · subst h0
    rw [dS_s, crk_60]
    by_cases e : i = n
    · rw [dU_s e, e, if_pos (Nat.lt_succ_self n)]
    · rw [dU_n e, crk_60]
      by_cases c : i < n
      · rw [if_pos c, if_pos (by omega)]
      · rw [if_neg c, if_neg (by omega)]
  · rw [dS_n h0, crk_row h0, crk_row h0]
theorem crk_0 (D : DD) (g : Nat) (w : Nat → Nat) : crk D g w 0 = D := by
  funext a i
  by_cases h0 : a = 60
  · subst h0; rw [crk_60, if_neg (Nat.not_lt_zero i)]
  · rw [crk_row h0]
/-- cells that a minute of the model's crowd does not touch -/
def frV (S S' : Mem) : Prop := ∀ a k, ¬ (a = 55 ∧ (k = 29 ∨ k = 30 ∨ k = 31)) → a ≠ 60 → a ≠ 71 → S'.1 a k = S.1 a k
theorem frV_t {S S' S'' : Mem} (h : frV S S') (h2 : frV S' S'') : frV S S'' := fun a k q0 q1 q2 => by rw [h2 a k q0 q1 q2, h a k q0 q1 q2]
theorem mo_wander {D : DD} {S : Mem} (hm : RM D S) (hn : okN D) (hv : okV D) {x wh t i s : Nat} (hx : x < 1000) (hi : i < x) (ht : t < 100000) (hs : s < 2147483648) (hz : S.2 55 41 = lN s) : ∃ S', k_Mod_crowdNow_16 (nI x) (nI wh) (nI t) (nI i) S = k_Mod_crowdNow_16 (nI x) (nI wh) (nI (t + (lay D (mp D) (wdn D s (D 55 7)).2).1)) (nI (i + 1)) S' ∧ RM (crd D (lay D (mp D) (wdn D s (D 55 7)).2).2.2 (wdn D s (D 55 7)).2) S' ∧ S'.2 55 41 = lN (wdn D s (D 55 7)).1 ∧ frV S S' := by
  have w5 := hv.1
  have h8 : ∀ i, i < D 55 7 → D 60 i < 8 := fun i hi => (hv.2 i hi).2.1
  obtain ⟨S1, e1, f1, z1, q1⟩ := zfor (fun j S => k_Mod_crowdNow_25 (nI x) (nI wh) (nI t) (nI i) (nI j) S) (D 55 7) (fun j S1 => (∀ a k, a ≠ 71 → S1.1 a k = S.1 a k) ∧ S1.2 55 41 = lN (wdn D s j).1 ∧ ∀ q, q < j → S1.1 71 q = nI ((wdn D s (D 55 7)).2 q)) (by
    intro j S1 hj ⟨f1, z1, q1⟩
    have hm1 : RM D S1 := RM_fr hm (fun a k q => f1 a k (by omega))
    have hc8 := h8 j hj
    have hdg := mo_degree hn hm1 hc8
    have hdl := deg_le D (D 60 j) 8
    have hdr := mo_draw (S := S1) (d := deg D (D 60 j) 8 + 1) (wdn_lt hs j) z1 (by omega) (by omega)
    obtain ⟨Sb, hSb⟩ : ∃ Sb, Sb = u2 S1 55 41 (lN (sdn (wdn D s j).1)) := ⟨_, rfl⟩
    rw [← hSb] at hdr
    have hmb : RM D Sb := by rw [hSb]; exact RM_l hm1
    have hmod : dw (wdn D s j).1 (deg D (D 60 j) 8 + 1) < deg D (D 60 j) 8 + 1 := Nat.mod_lt _ (by omega)
    have hjn := mo_joined hn hmb (a := D 60 j) (p := dw (wdn D s j).1 (deg D (D 60 j) 8 + 1)) hc8 (by omega)
    have hwj := wdn_at (D := D) (s := s) hj
    refine ⟨u1 Sb 71 j (nI ((wdn D s (D 55 7)).2 j)), ?_, fun a k q => by rw [zuN (by omega), hSb]; exact f1 a k q, ?_, fun q hq => ?_⟩
    · rw [k_Mod_crowdNow_25_eq]
      simp (disch := omega) only [zL0, zL1, zL2, zL3, zL4, zL5, zL6, zL7, zL8, zL9, zL10, zL12, zL20, zL30, zL31, zL32, zL44, zL48, zL49, zL50, zL56, zL59, zL60, zL61, zL64, zL65, zL97, zL99, zL100, zL101, zL102, zL103, zL104, zL111, zL119, zL126, zL255, zL512, zL617, zL65535, zL65536, zL1048576, zlt, zle, zeq, ztn, zin, zzb, zadd, zmul, zm_lt, zm_gt, zm_le, zm_ge, zm_eq, zm_eq', zm_in, if_pos, if_neg, bI_s, bJ_s, bA_s, bU_s, if_true, if_false, reduceIte, or_true, true_or, or_false, false_or, and_true, true_and, and_false, false_and, not_true_eq_false, not_false_eq_true, Nat.reduceEqDiff, Nat.zero_ne_one, Nat.one_ne_zero, hm1.r, hdg, hdr, hmb.r, hjn, hwj]
    · show Sb.2 55 41 = _
      rw [hSb, zvS ⟨rfl, rfl⟩]
      rfl
    · by_cases e : q = j
      · rw [zuS ⟨rfl, e⟩, e]
      · rw [zuN (by omega), hSb]; exact q1 q (by omega)) (D 55 7) 0 S (by omega) ⟨fun _ _ _ => rfl, hz, fun _ _ => by omega⟩
  have hm1 : RM D S1 := RM_fr hm (fun a k q => f1 a k (by omega))
  obtain ⟨S2, e2, f2, l2⟩ := mo_layBackV hm1 hn hv (w := (wdn D s (D 55 7)).2) q1 (fun i hi => wdn_ok h8 hi)
  have hm2 : RM D S2 := RM_L hm1 f2
  have hle := lb_le (f := cl D (mp D) (wdn D s (D 55 7)).2) w5
  have hle2 : (lay D (mp D) (wdn D s (D 55 7)).2).1 ≤ 10 := hle
  have hg := lb_in (f := cl D (mp D) (wdn D s (D 55 7)).2) w5
  obtain ⟨g, hgg⟩ : ∃ g, g = (lay D (mp D) (wdn D s (D 55 7)).2).2.2 := ⟨_, rfl⟩
  have hg32 : g < 32 := by rw [hgg]; exact hg.2.2
  have lg := l2.1
  rw [← hgg] at lg
  obtain ⟨tt, htt⟩ : ∃ tt, tt = (lay D (mp D) (wdn D s (D 55 7)).2).1 := ⟨_, rfl⟩
  obtain ⟨w, hw⟩ : ∃ w, w = (wdn D s (D 55 7)).2 := ⟨_, rfl⟩
  rw [← hw] at q1
  obtain ⟨S3, e3, m3, f3⟩ := zfor (fun j S => k_Mod_crowdNow_87 (nI x) (nI wh) (nI (t + tt)) (nI i) (nI j) S) (D 55 7) (fun j S3 => RM (crk D g w j) S3 ∧ ((∀ a k, a ≠ 60 → S3.1 a k = S2.1 a k) ∧ S3.2 = S2.2)) (by
    intro j S3 hj ⟨m3, f3⟩
    have lg3 : S3.1 55 29 = nI g := by rw [f3.1 _ _ (by omega), lg]
    have q3 : S3.1 71 j = nI (w j) := by rw [f3.1 _ _ (by omega), f2.1 _ _ (by omega), q1 j hj]
    have k7 := m3.r 55 7 (by omega)
    have k60 := m3.r 60 j (by omega)
    rw [crk_row (by omega)] at k7
    rw [crk_60, if_neg (Nat.lt_irrefl j)] at k60
    refine ⟨u1 S3 60 j (nI (if g.testBit j then D 60 j else w j)), ?_, ?_, fun a k q => by rw [zuN (by omega), f3.1 a k q], f3.2⟩
    · rw [k_Mod_crowdNow_87_eq]
      have hh : f_Mod_has (nI g) (nI j) S3 = some (nI (if g.testBit j then 1 else 0), S3) := mo_has (by omega) (by omega)
      cases cb : g.testBit j
      · rw [cb] at hh
        simp (disch := omega) only [zL0, zL1, zL2, zL3, zL4, zL5, zL6, zL7, zL8, zL9, zL10, zL12, zL20, zL30, zL31, zL32, zL44, zL48, zL49, zL50, zL56, zL59, zL60, zL61, zL64, zL65, zL97, zL99, zL100, zL101, zL102, zL103, zL104, zL111, zL119, zL126, zL255, zL512, zL617, zL65535, zL65536, zL1048576, zlt, zle, zeq, ztn, zin, zzb, zadd, zmul, zm_lt, zm_gt, zm_le, zm_ge, zm_eq, zm_eq', zm_in, if_pos, if_neg, bI_s, bJ_s, bA_s, bU_s, if_true, if_false, reduceIte, or_true, true_or, or_false, false_or, and_true, true_and, and_false, false_and, not_true_eq_false, not_false_eq_true, Nat.reduceEqDiff, Nat.zero_ne_one, Nat.one_ne_zero, k7, lg3, hh, q3, k_Mod_crowdNow_131_eq, Bool.false_eq_true]
      · rw [cb] at hh
        simp (disch := omega) only [zL0, zL1, zL2, zL3, zL4, zL5, zL6, zL7, zL8, zL9, zL10, zL12, zL20, zL30, zL31, zL32, zL44, zL48, zL49, zL50, zL56, zL59, zL60, zL61, zL64, zL65, zL97, zL99, zL100, zL101, zL102, zL103, zL104, zL111, zL119, zL126, zL255, zL512, zL617, zL65535, zL65536, zL1048576, zlt, zle, zeq, ztn, zin, zzb, zadd, zmul, zm_lt, zm_gt, zm_le, zm_ge, zm_eq, zm_eq', zm_in, if_pos, if_neg, bI_s, bJ_s, bA_s, bU_s, if_true, if_false, reduceIte, or_true, true_or, or_false, false_or, and_true, true_and, and_false, false_and, not_true_eq_false, not_false_eq_true, Nat.reduceEqDiff, Nat.zero_ne_one, Nat.one_ne_zero, k7, lg3, hh, k60, k_Mod_crowdNow_131_eq]
    · rw [crk_step]
      exact RM_u1 m3) (D 55 7) 0 S2 (by omega) ⟨by rw [crk_0]; exact hm2, fun _ _ _ => rfl, rfl⟩
  have k7 := m3.r 55 7 (by omega)
  rw [crk_row (by omega)] at k7
  refine ⟨S3, ?_, ?_, by rw [f3.2, f2.2]; exact z1, fun a k q0 q1 q2 => by rw [f3.1 a k q1, f2.1 a k q0, f1 a k q2]⟩
  · rw [k_Mod_crowdNow_16_eq]
    simp (disch := omega) only [zL0, zL1, zL2, zL3, zL4, zL5, zL6, zL7, zL8, zL9, zL10, zL12, zL20, zL30, zL31, zL32, zL44, zL48, zL49, zL50, zL56, zL59, zL60, zL61, zL64, zL65, zL97, zL99, zL100, zL101, zL102, zL103, zL104, zL111, zL119, zL126, zL255, zL512, zL617, zL65535, zL65536, zL1048576, zlt, zle, zeq, ztn, zin, zzb, zadd, zmul, zm_lt, zm_gt, zm_le, zm_ge, zm_eq, zm_eq', zm_in, if_pos, if_neg, bI_s, bJ_s, bA_s, bU_s, if_true, if_false, reduceIte, or_true, true_or, or_false, false_or, and_true, true_and, and_false, false_and, not_true_eq_false, not_false_eq_true, Nat.reduceEqDiff, Nat.zero_ne_one, Nat.one_ne_zero]
    rw [e1, k_Mod_crowdNow_25_eq]
    simp (disch := omega) only [zL0, zL1, zL2, zL3, zL4, zL5, zL6, zL7, zL8, zL9, zL10, zL12, zL20, zL30, zL31, zL32, zL44, zL48, zL49, zL50, zL56, zL59, zL60, zL61, zL64, zL65, zL97, zL99, zL100, zL101, zL102, zL103, zL104, zL111, zL119, zL126, zL255, zL512, zL617, zL65535, zL65536, zL1048576, zlt, zle, zeq, ztn, zin, zzb, zadd, zmul, zm_lt, zm_gt, zm_le, zm_ge, zm_eq, zm_eq', zm_in, if_pos, if_neg, bI_s, bJ_s, bA_s, bU_s, if_true, if_false, reduceIte, or_true, true_or, or_false, false_or, and_true, true_and, and_false, false_and, not_true_eq_false, not_false_eq_true, Nat.reduceEqDiff, Nat.zero_ne_one, Nat.one_ne_zero, hm1.r, e2, ← htt]
    rw [e3, k_Mod_crowdNow_87_eq]
    simp (disch := omega) only [zL0, zL1, zL2, zL3, zL4, zL5, zL6, zL7, zL8, zL9, zL10, zL12, zL20, zL30, zL31, zL32, zL44, zL48, zL49, zL50, zL56, zL59, zL60, zL61, zL64, zL65, zL97, zL99, zL100, zL101, zL102, zL103, zL104, zL111, zL119, zL126, zL255, zL512, zL617, zL65535, zL65536, zL1048576, zlt, zle, zeq, ztn, zin, zzb, zadd, zmul, zm_lt, zm_gt, zm_le, zm_ge, zm_eq, zm_eq', zm_in, if_pos, if_neg, bI_s, bJ_s, bA_s, bU_s, if_true, if_false, reduceIte, or_true, true_or, or_false, false_or, and_true, true_and, and_false, false_and, not_true_eq_false, not_false_eq_true, Nat.reduceEqDiff, Nat.zero_ne_one, Nat.one_ne_zero, k7]
  · rw [← hgg, ← hw]; exact m3
theorem crd_okV {D : DD} (hv : okV D) {s g : Nat} : okV (crd D g (wdn D s (D 55 7)).2) := by
  have r : ∀ a, ¬ a = 60 → crd D g (wdn D s (D 55 7)).2 a = D a := fun a h => crk_row h
  refine ⟨by rw [r 55 (by omega)]; exact hv.1, fun i hi => ?_⟩
  have h8 := crd_8 (D' := D) (s := s) (g := g) (fun i hi => (hv.2 i hi).2.1) i hi
  rw [r 55 (by omega)] at hi
  obtain ⟨q1, q2, q3, q4⟩ := hv.2 i hi
  rw [r 59 (by omega), r 61 (by omega), r 62 (by omega)]
  exact ⟨q1, h8, q3, q4⟩
theorem sb_crd {D D' : DD} (h : sb D D') (hw : D' 55 7 ≤ 5) (g : Nat) (w : Nat → Nat) : sb D (crd D' g w) := by
  refine ⟨fun a h0 h5 => by unfold crd; rw [crk_row h0, h.1 a h0 h5], fun i hi => ⟨?_, ?_⟩⟩
  · rw [← (h.2 i hi).1]
    show crk D' g w (D' 55 7) 60 i = _
    rw [crk_60, if_neg (by omega)]
  · rw [← (h.2 i hi).2]
    unfold crd
    rw [crk_row (by omega)]
theorem mo_crowd_k {x wh : Nat} (hx : x ≤ 60) : ∀ m i t s (D0 D : DD) S, i + m = x → t + 10 * m ≤ 10000 → s < 2147483648 → RM D S → okN D → okV D → sb D0 D → S.2 55 41 = lN s → ∃ S', k_Mod_crowdNow_16 (nI x) (nI wh) (nI t) (nI i) S = k_Mod_crowdNow_16 (nI x) (nI wh) (nI (t + (cwn (mp D) m s D).1)) (nI x) S' ∧ RM (cwn (mp D) m s D).2.2 S' ∧ sb D0 (cwn (mp D) m s D).2.2 ∧ okV (cwn (mp D) m s D).2.2 ∧ S'.2 55 41 = lN (cwn (mp D) m s D).2.1 ∧ frV S S' := by
  intro m
  induction m with
  | zero =>
    intro i t s D0 D S hi ht hs hm hn hv hb hz
    refine ⟨S, ?_, hm, hb, hv, hz, fun _ _ _ _ _ => rfl⟩
    rw [show i = x by omega]
    rfl
  | succ m ih =>
    intro i t s D0 D S hi ht hs hm hn hv hb hz
    have hle := lb_le (f := cl D (mp D) (wdn D s (D 55 7)).2) hv.1
    have hle2 : (lay D (mp D) (wdn D s (D 55 7)).2).1 ≤ 10 := hle
    obtain ⟨S1, e1, m1, z1, f1⟩ := mo_wander (x := x) (wh := wh) (t := t) (i := i) hm hn hv (by omega) (by omega) (by omega) hs hz
    have hmp : mp (crd D (lay D (mp D) (wdn D s (D 55 7)).2).2.2 (wdn D s (D 55 7)).2) = mp D := mp_row (crk_row (by omega)) (crk_row (by omega)) (crk_row (by omega))
    obtain ⟨S2, e2, m2, b2, v2, z2, f2⟩ := ih (i + 1) (t + (lay D (mp D) (wdn D s (D 55 7)).2).1) (wdn D s (D 55 7)).1 D0 _ S1 (by omega) (by omega) (wdn_lt hs _) m1 (okN_row hn (crk_row (by omega)) (crk_row (by omega)) (crk_row (by omega)) (crk_row (by omega))) (crd_okV hv) (sb_crd hb hv.1 _ _) z1
    rw [hmp] at e2 m2 b2 v2 z2
    refine ⟨S2, ?_, m2, b2, v2, z2, frV_t f1 f2⟩
    rw [cwn]
    show _ = k_Mod_crowdNow_16 (nI x) (nI wh) (nI (t + ((lay D (mp D) (wdn D s (D 55 7)).2).1 + _))) (nI x) S2
    rw [← Nat.add_assoc, ← e2, e1]
def cwR (D : DD) (x s wh : Nat) : Int32 := if wh = 0 then nI (cwn (mp D) x s D).1 else if wh = 1 then nI (goalM (cwn (mp D) x s D).2.2 ((cwn (mp D) x s D).2.2 55 7)) else nI (cwn (mp D) x s D).2.1
theorem cwn_ext {P P' : Nat → Nat → Bool} : ∀ m s D, (∀ i j, i < D 55 7 → j < D 55 7 → P i j = P' i j) → cwn P m s D = cwn P' m s D
  | 0, _, _, _ => rfl
  | m + 1, s, D, h => by
    unfold cwn
    rw [P_ext h, cwn_ext m _ _ (fun i j hi hj => h i j (by rw [crd_7] at hi; exact hi) (by rw [crd_7] at hj; exact hj))]
theorem mo_crowdNow {D : DD} (hd : okD D) {S : Mem} (hm : RM D S) {x s wh : Nat} (h1 : 1 ≤ x) (hx : x ≤ 60) (hs : s < 2147483648) (hwh : wh ≤ 2) : ∃ S', f_Mod_crowdNow (nI x) (nI s) (nI wh) S = some (cwR D x s wh, S') ∧ RM D S' ∧ frM S S' := by
  obtain ⟨S1, e1, f1, g1, q1, r1⟩ := mo_save (S := S)
  obtain ⟨Sa, hSa⟩ : ∃ Sa, Sa = u2 S1 55 41 (lN s) := ⟨_, rfl⟩
  have m1 : RM D Sa := by rw [hSa]; exact RM_l (RM_fr hm (fun a k q => f1 a k (by omega) (by omega)))
  obtain ⟨S2, e2, m2, b2, v2, z2, f2⟩ := mo_crowd_k (wh := wh) hx x 0 0 s D D Sa (by omega) (by omega) hs m1 hd.1 hd.2.1.v (sb_r D) (by rw [hSa, zvS ⟨rfl, rfl⟩])
  rw [Nat.zero_add] at e2
  have hag := mo_atGoalV v2 m2
  obtain ⟨S3, e3, f3, g3, q3, r3⟩ := mo_back (S := S2)
  have ra : ∀ a k, Sa.1 a k = S1.1 a k := fun a k => by rw [hSa]; rfl
  refine ⟨S3, ?_, ?_, fun a k q => ?_⟩
  · rw [f_Mod_crowdNow_eq]
    simp (disch := omega) only [zL0, zL1, zL2, zL3, zL4, zL5, zL6, zL7, zL8, zL9, zL10, zL12, zL20, zL30, zL31, zL32, zL44, zL48, zL49, zL50, zL56, zL59, zL60, zL61, zL64, zL65, zL97, zL99, zL100, zL101, zL102, zL103, zL104, zL111, zL119, zL126, zL255, zL512, zL617, zL65535, zL65536, zL1048576, zlt, zle, zeq, ztn, zin, zzb, zadd, zmul, zm_lt, zm_gt, zm_le, zm_ge, zm_eq, zm_eq', zm_in, if_pos, if_neg, bI_s, bJ_s, bA_s, bU_s, if_true, if_false, reduceIte, or_true, true_or, or_false, false_or, and_true, true_and, and_false, false_and, not_true_eq_false, not_false_eq_true, Nat.reduceEqDiff, Nat.zero_ne_one, Nat.one_ne_zero, e1]
    rw [nI_l hs, ← hSa, e2, k_Mod_crowdNow_16_eq]
    unfold cwR
    have z3 : S3.2 55 41 = lN (cwn (mp D) x s D).2.1 := by rw [g3]; exact z2
    by_cases c0 : wh = 0
    · simp (disch := omega) only [zL0, zL1, zL2, zL3, zL4, zL5, zL6, zL7, zL8, zL9, zL10, zL12, zL20, zL30, zL31, zL32, zL44, zL48, zL49, zL50, zL56, zL59, zL60, zL61, zL64, zL65, zL97, zL99, zL100, zL101, zL102, zL103, zL104, zL111, zL119, zL126, zL255, zL512, zL617, zL65535, zL65536, zL1048576, zlt, zle, zeq, ztn, zin, zzb, zadd, zmul, zm_lt, zm_gt, zm_le, zm_ge, zm_eq, zm_eq', zm_in, if_pos, if_neg, bI_s, bJ_s, bA_s, bU_s, if_true, if_false, reduceIte, or_true, true_or, or_false, false_or, and_true, true_and, and_false, false_and, not_true_eq_false, not_false_eq_true, Nat.reduceEqDiff, Nat.zero_ne_one, Nat.one_ne_zero, hag, e3, k_Mod_crowdNow_178_eq]
    · by_cases c1 : wh = 1
      · simp (disch := omega) only [zL0, zL1, zL2, zL3, zL4, zL5, zL6, zL7, zL8, zL9, zL10, zL12, zL20, zL30, zL31, zL32, zL44, zL48, zL49, zL50, zL56, zL59, zL60, zL61, zL64, zL65, zL97, zL99, zL100, zL101, zL102, zL103, zL104, zL111, zL119, zL126, zL255, zL512, zL617, zL65535, zL65536, zL1048576, zlt, zle, zeq, ztn, zin, zzb, zadd, zmul, zm_lt, zm_gt, zm_le, zm_ge, zm_eq, zm_eq', zm_in, if_pos, if_neg, bI_s, bJ_s, bA_s, bU_s, if_true, if_false, reduceIte, or_true, true_or, or_false, false_or, and_true, true_and, and_false, false_and, not_true_eq_false, not_false_eq_true, Nat.reduceEqDiff, Nat.zero_ne_one, Nat.one_ne_zero, hag, e3, k_Mod_crowdNow_178_eq]
      · simp (disch := omega) only [zL0, zL1, zL2, zL3, zL4, zL5, zL6, zL7, zL8, zL9, zL10, zL12, zL20, zL30, zL31, zL32, zL44, zL48, zL49, zL50, zL56, zL59, zL60, zL61, zL64, zL65, zL97, zL99, zL100, zL101, zL102, zL103, zL104, zL111, zL119, zL126, zL255, zL512, zL617, zL65535, zL65536, zL1048576, zlt, zle, zeq, ztn, zin, zzb, zadd, zmul, zm_lt, zm_gt, zm_le, zm_ge, zm_eq, zm_eq', zm_in, if_pos, if_neg, bI_s, bJ_s, bA_s, bU_s, if_true, if_false, reduceIte, or_true, true_or, or_false, false_or, and_true, true_and, and_false, false_and, not_true_eq_false, not_false_eq_true, Nat.reduceEqDiff, Nat.zero_ne_one, Nat.one_ne_zero, hag, e3, k_Mod_crowdNow_178_eq, z3, lN_i]
  · intro a k q
    by_cases a60 : a = 60
    · subst a60
      by_cases hk : k < 5
      · rw [q3 k hk, f2 _ _ (by omega) (by omega) (by omega), ra, q1 k hk]; exact hm 60 k q
      · rw [f3 _ _ (by omega) (by omega), m2 60 k q, (b2.2 k (by omega)).1]
    · by_cases a65 : a = 65
      · subst a65
        by_cases hk : k < 5
        · rw [r3 k hk, f2 _ _ (by omega) (by omega) (by omega), ra, r1 k hk]; exact hm 65 k q
        · rw [f3 _ _ (by omega) (by omega), m2 65 k q, (b2.2 k (by omega)).2]
      · rw [f3 _ _ (by omega) (by omega), m2 a k q, b2.1 a a60 a65]
  · rw [f3 _ _ (by omega) (by omega), f2 _ _ (by omega) (by omega) (by omega), ra, f1 _ _ (by omega) (by omega)]
theorem ct_crowd {D : DD} (hd : okD D) {S : Mem} (hr : RC D S) {x s wh : Nat} (h1 : 1 ≤ x) (hx : x ≤ 60) (hs : s < 2147483648) (hwh : wh ≤ 2) (h6 : D 55 6 ≠ 0) : ∃ S', f_Top_crowd (nI x) (nI s) (nI wh) S = some (cwR D x s wh, S') ∧ frC S S' := by
  have hn8 := hr.net
  rw [if_neg h6] at hn8
  obtain ⟨S1, e1, f1, z1, m1, p1, n1⟩ := cm_begin hd (free := 0) (by omega) hr
  obtain ⟨Sa, hSa⟩ : ∃ Sa, Sa = u2 S1 40 10 (lN s) := ⟨_, rfl⟩
  have ra : ∀ a k, Sa.1 a k = S1.1 a k := fun a k => by rw [hSa]; rfl
  have hra : RC D Sa := RC_f hd hr (fun a k q => by rw [ra, f1 a k (by omega) (by omega) (by omega) (by omega)])
  obtain ⟨S2, e2, f2, m2, z2, o2, l2, t2⟩ := ct_crowd_k (wh := wh) hd hx x 0 0 s D (fun _ => 0) Sa (by omega) (by omega) hs (ovr_r D) (fun i hi => (hd.2.1.2 i hi).2.1) hra (fun i hi => by rw [ra]; exact m1.1 i hi) (PB_fr p1 (fun k => ra _ _)) (fun i hi => by rw [ra]; exact n1 i hi) (by rw [hSa, zvS ⟨rfl, rfl⟩])
  rw [cwn_ext x s D (pfr_0 D), Nat.zero_add] at e2
  rw [cwn_ext x s D (pfr_0 D)] at m2 z2 o2 l2 t2
  have hr2 : RC D S2 := RC_f hd hra (frW_C f2)
  refine ⟨S2, ?_, fun a k q => by rw [f2 a k (by omega) (by omega) (by omega) (by omega) (by omega) (by omega), ra, f1 a k (by omega) (by omega) (by omega) (by omega)]⟩
  rw [f_Top_crowd_eq]
  simp (disch := omega) only [zL0, zL1, zL2, zL3, zL4, zL5, zL6, zL7, zL8, zL9, zL10, zL12, zL20, zL30, zL31, zL32, zL44, zL48, zL49, zL50, zL56, zL59, zL60, zL61, zL64, zL65, zL97, zL99, zL100, zL101, zL102, zL103, zL104, zL111, zL119, zL126, zL255, zL512, zL617, zL65535, zL65536, zL1048576, zlt, zle, zeq, ztn, zin, zzb, zadd, zmul, zm_lt, zm_gt, zm_le, zm_ge, zm_eq, zm_eq', zm_in, if_pos, if_neg, bI_s, bJ_s, bA_s, bU_s, if_true, if_false, reduceIte, or_true, true_or, or_false, false_or, and_true, true_and, and_false, false_and, not_true_eq_false, not_false_eq_true, Nat.reduceEqDiff, Nat.zero_ne_one, Nat.one_ne_zero, ct_areMinutes, hn8, e1]
  rw [nI_l hs, ← hSa, e2, k_Top_crowd_56_eq]
  unfold cwR
  by_cases c0 : wh = 0
  · simp (disch := omega) only [zL0, zL1, zL2, zL3, zL4, zL5, zL6, zL7, zL8, zL9, zL10, zL12, zL20, zL30, zL31, zL32, zL44, zL48, zL49, zL50, zL56, zL59, zL60, zL61, zL64, zL65, zL97, zL99, zL100, zL101, zL102, zL103, zL104, zL111, zL119, zL126, zL255, zL512, zL617, zL65535, zL65536, zL1048576, zlt, zle, zeq, ztn, zin, zzb, zadd, zmul, zm_lt, zm_gt, zm_le, zm_ge, zm_eq, zm_eq', zm_in, if_pos, if_neg, bI_s, bJ_s, bA_s, bU_s, if_true, if_false, reduceIte, or_true, true_or, or_false, false_or, and_true, true_and, and_false, false_and, not_true_eq_false, not_false_eq_true, Nat.reduceEqDiff, Nat.zero_ne_one, Nat.one_ne_zero, k_Top_crowd_112_eq]
  · by_cases c1 : wh = 1
    · have e7 : (cwn (mp D) x s D).2.2 55 = D 55 := o2 55 (by omega) (by omega)
      have hb : ∀ m s (D : DD), okV D → ∀ i, i < (cwn (mp D) m s D).2.2 55 7 → (cwn (mp D) m s D).2.2 60 i < 100 := by
        intro m
        induction m with
        | zero =>
          intro s D hv i hi
          have := (hv.2 i hi).2.1
          show D 60 i < 100
          omega
        | succ m ih =>
          intro s D hv i hi
          have hmp : mp (crd D (lay D (mp D) (wdn D s (D 55 7)).2).2.2 (wdn D s (D 55 7)).2) = mp D := mp_row (crk_row (by omega)) (crk_row (by omega)) (crk_row (by omega))
          have := ih (wdn D s (D 55 7)).1 _ (crd_okV hv (s := s) (g := (lay D (mp D) (wdn D s (D 55 7)).2).2.2)) i
          rw [hmp] at this
          exact this hi
      have hag := cm_atGoals hd o2 (hb x s D hd.2.1.v) hr2 m2
      simp (disch := omega) only [zL0, zL1, zL2, zL3, zL4, zL5, zL6, zL7, zL8, zL9, zL10, zL12, zL20, zL30, zL31, zL32, zL44, zL48, zL49, zL50, zL56, zL59, zL60, zL61, zL64, zL65, zL97, zL99, zL100, zL101, zL102, zL103, zL104, zL111, zL119, zL126, zL255, zL512, zL617, zL65535, zL65536, zL1048576, zlt, zle, zeq, ztn, zin, zzb, zadd, zmul, zm_lt, zm_gt, zm_le, zm_ge, zm_eq, zm_eq', zm_in, if_pos, if_neg, bI_s, bJ_s, bA_s, bU_s, if_true, if_false, reduceIte, or_true, true_or, or_false, false_or, and_true, true_and, and_false, false_and, not_true_eq_false, not_false_eq_true, Nat.reduceEqDiff, Nat.zero_ne_one, Nat.one_ne_zero, hag, k_Top_crowd_112_eq]
    · simp (disch := omega) only [zL0, zL1, zL2, zL3, zL4, zL5, zL6, zL7, zL8, zL9, zL10, zL12, zL20, zL30, zL31, zL32, zL44, zL48, zL49, zL50, zL56, zL59, zL60, zL61, zL64, zL65, zL97, zL99, zL100, zL101, zL102, zL103, zL104, zL111, zL119, zL126, zL255, zL512, zL617, zL65535, zL65536, zL1048576, zlt, zle, zeq, ztn, zin, zzb, zadd, zmul, zm_lt, zm_gt, zm_le, zm_ge, zm_eq, zm_eq', zm_in, if_pos, if_neg, bI_s, bJ_s, bA_s, bU_s, if_true, if_false, reduceIte, or_true, true_or, or_false, false_or, and_true, true_and, and_false, false_and, not_true_eq_false, not_false_eq_true, Nat.reduceEqDiff, Nat.zero_ne_one, Nat.one_ne_zero, k_Top_crowd_112_eq, z2, lN_i]
theorem ask_crowd {c : Nat} {D : DD} {S : Mem} (h : Inv c D S) (hc : c < 512) (x y z : Int32) : CAL c S (f_Top_crowd x y z) (f_Mod_crowd x y z) := by
  obtain ⟨hd, hr, hm, h4, h5, h6⟩ := id h
  have hn8 := hr.net
  rcases zcase x with hx | ⟨n, hn, rfl⟩
  · refine CAL_00 h hc (r := -nI 102) ?_ ?_
    · rw [f_Top_crowd_eq]; simp (disch := omega) only [ct_areMinutes_n hx, zL0, zL1, zL2, zL3, zL4, zL5, zL6, zL7, zL8, zL9, zL10, zL12, zL20, zL30, zL31, zL32, zL44, zL48, zL49, zL50, zL56, zL59, zL60, zL61, zL64, zL65, zL97, zL99, zL100, zL101, zL102, zL103, zL104, zL111, zL119, zL126, zL255, zL512, zL617, zL65535, zL65536, zL1048576, zlt, zle, zeq, ztn, zin, zzb, zadd, zmul, zm_lt, zm_gt, zm_le, zm_ge, zm_eq, zm_eq', zm_in, if_pos, if_neg, bI_s, bJ_s, bA_s, bU_s, if_true, if_false, reduceIte, or_true, true_or, or_false, false_or, and_true, true_and, and_false, false_and, not_true_eq_false, not_false_eq_true, Nat.reduceEqDiff, Nat.zero_ne_one, Nat.one_ne_zero, k_Top_crowd_20_eq]
    · rw [f_Mod_crowd_eq]; simp (disch := omega) only [mo_within_n hx, zL0, zL1, zL2, zL3, zL4, zL5, zL6, zL7, zL8, zL9, zL10, zL12, zL20, zL30, zL31, zL32, zL44, zL48, zL49, zL50, zL56, zL59, zL60, zL61, zL64, zL65, zL97, zL99, zL100, zL101, zL102, zL103, zL104, zL111, zL119, zL126, zL255, zL512, zL617, zL65535, zL65536, zL1048576, zlt, zle, zeq, ztn, zin, zzb, zadd, zmul, zm_lt, zm_gt, zm_le, zm_ge, zm_eq, zm_eq', zm_in, if_pos, if_neg, bI_s, bJ_s, bA_s, bU_s, if_true, if_false, reduceIte, or_true, true_or, or_false, false_or, and_true, true_and, and_false, false_and, not_true_eq_false, not_false_eq_true, Nat.reduceEqDiff, Nat.zero_ne_one, Nat.one_ne_zero, k_Mod_crowd_23_eq]
  by_cases cn : 1 ≤ n ∧ n ≤ 60
  rotate_left
  · refine CAL_00 h hc (r := -nI 102) ?_ ?_
    · rw [f_Top_crowd_eq]; simp (disch := omega) only [ct_areMinutes, zL0, zL1, zL2, zL3, zL4, zL5, zL6, zL7, zL8, zL9, zL10, zL12, zL20, zL30, zL31, zL32, zL44, zL48, zL49, zL50, zL56, zL59, zL60, zL61, zL64, zL65, zL97, zL99, zL100, zL101, zL102, zL103, zL104, zL111, zL119, zL126, zL255, zL512, zL617, zL65535, zL65536, zL1048576, zlt, zle, zeq, ztn, zin, zzb, zadd, zmul, zm_lt, zm_gt, zm_le, zm_ge, zm_eq, zm_eq', zm_in, if_pos, if_neg, bI_s, bJ_s, bA_s, bU_s, if_true, if_false, reduceIte, or_true, true_or, or_false, false_or, and_true, true_and, and_false, false_and, not_true_eq_false, not_false_eq_true, Nat.reduceEqDiff, Nat.zero_ne_one, Nat.one_ne_zero, k_Top_crowd_20_eq]
    · rw [f_Mod_crowd_eq]; simp (disch := omega) only [mo_within, zL0, zL1, zL2, zL3, zL4, zL5, zL6, zL7, zL8, zL9, zL10, zL12, zL20, zL30, zL31, zL32, zL44, zL48, zL49, zL50, zL56, zL59, zL60, zL61, zL64, zL65, zL97, zL99, zL100, zL101, zL102, zL103, zL104, zL111, zL119, zL126, zL255, zL512, zL617, zL65535, zL65536, zL1048576, zlt, zle, zeq, ztn, zin, zzb, zadd, zmul, zm_lt, zm_gt, zm_le, zm_ge, zm_eq, zm_eq', zm_in, if_pos, if_neg, bI_s, bJ_s, bA_s, bU_s, if_true, if_false, reduceIte, or_true, true_or, or_false, false_or, and_true, true_and, and_false, false_and, not_true_eq_false, not_false_eq_true, Nat.reduceEqDiff, Nat.zero_ne_one, Nat.one_ne_zero, k_Mod_crowd_23_eq]
  rcases zcase y with hy | ⟨s, hs, rfl⟩
  · refine CAL_00 h hc (r := -nI 102) ?_ ?_
    · rw [f_Top_crowd_eq]; simp (disch := omega) only [ct_areMinutes, zL0, zL1, zL2, zL3, zL4, zL5, zL6, zL7, zL8, zL9, zL10, zL12, zL20, zL30, zL31, zL32, zL44, zL48, zL49, zL50, zL56, zL59, zL60, zL61, zL64, zL65, zL97, zL99, zL100, zL101, zL102, zL103, zL104, zL111, zL119, zL126, zL255, zL512, zL617, zL65535, zL65536, zL1048576, zlt, zle, zeq, ztn, zin, zzb, zadd, zmul, zm_lt, zm_gt, zm_le, zm_ge, zm_eq, zm_eq', zm_in, if_pos, if_neg, bI_s, bJ_s, bA_s, bU_s, if_true, if_false, reduceIte, or_true, true_or, or_false, false_or, and_true, true_and, and_false, false_and, not_true_eq_false, not_false_eq_true, Nat.reduceEqDiff, Nat.zero_ne_one, Nat.one_ne_zero, zn_lt hy, k_Top_crowd_20_eq]
    · rw [f_Mod_crowd_eq]; simp (disch := omega) only [mo_within, zL0, zL1, zL2, zL3, zL4, zL5, zL6, zL7, zL8, zL9, zL10, zL12, zL20, zL30, zL31, zL32, zL44, zL48, zL49, zL50, zL56, zL59, zL60, zL61, zL64, zL65, zL97, zL99, zL100, zL101, zL102, zL103, zL104, zL111, zL119, zL126, zL255, zL512, zL617, zL65535, zL65536, zL1048576, zlt, zle, zeq, ztn, zin, zzb, zadd, zmul, zm_lt, zm_gt, zm_le, zm_ge, zm_eq, zm_eq', zm_in, if_pos, if_neg, bI_s, bJ_s, bA_s, bU_s, if_true, if_false, reduceIte, or_true, true_or, or_false, false_or, and_true, true_and, and_false, false_and, not_true_eq_false, not_false_eq_true, Nat.reduceEqDiff, Nat.zero_ne_one, Nat.one_ne_zero, zn_lt hy, k_Mod_crowd_23_eq]
  rcases zcase z with hz | ⟨k, hk, rfl⟩
  · refine CAL_00 h hc (r := -nI 102) ?_ ?_
    · rw [f_Top_crowd_eq]; simp (disch := omega) only [ct_areMinutes, zL0, zL1, zL2, zL3, zL4, zL5, zL6, zL7, zL8, zL9, zL10, zL12, zL20, zL30, zL31, zL32, zL44, zL48, zL49, zL50, zL56, zL59, zL60, zL61, zL64, zL65, zL97, zL99, zL100, zL101, zL102, zL103, zL104, zL111, zL119, zL126, zL255, zL512, zL617, zL65535, zL65536, zL1048576, zlt, zle, zeq, ztn, zin, zzb, zadd, zmul, zm_lt, zm_gt, zm_le, zm_ge, zm_eq, zm_eq', zm_in, if_pos, if_neg, bI_s, bJ_s, bA_s, bU_s, if_true, if_false, reduceIte, or_true, true_or, or_false, false_or, and_true, true_and, and_false, false_and, not_true_eq_false, not_false_eq_true, Nat.reduceEqDiff, Nat.zero_ne_one, Nat.one_ne_zero, zn_lt hz, k_Top_crowd_20_eq]
    · rw [f_Mod_crowd_eq]; simp (disch := omega) only [mo_within, zL0, zL1, zL2, zL3, zL4, zL5, zL6, zL7, zL8, zL9, zL10, zL12, zL20, zL30, zL31, zL32, zL44, zL48, zL49, zL50, zL56, zL59, zL60, zL61, zL64, zL65, zL97, zL99, zL100, zL101, zL102, zL103, zL104, zL111, zL119, zL126, zL255, zL512, zL617, zL65535, zL65536, zL1048576, zlt, zle, zeq, ztn, zin, zzb, zadd, zmul, zm_lt, zm_gt, zm_le, zm_ge, zm_eq, zm_eq', zm_in, if_pos, if_neg, bI_s, bJ_s, bA_s, bU_s, if_true, if_false, reduceIte, or_true, true_or, or_false, false_or, and_true, true_and, and_false, false_and, not_true_eq_false, not_false_eq_true, Nat.reduceEqDiff, Nat.zero_ne_one, Nat.one_ne_zero, mo_within_n hz, k_Mod_crowd_23_eq]
  by_cases c2 : k ≤ 2
  rotate_left
  · refine CAL_00 h hc (r := -nI 102) ?_ ?_
    · rw [f_Top_crowd_eq]; simp (disch := omega) only [ct_areMinutes, zL0, zL1, zL2, zL3, zL4, zL5, zL6, zL7, zL8, zL9, zL10, zL12, zL20, zL30, zL31, zL32, zL44, zL48, zL49, zL50, zL56, zL59, zL60, zL61, zL64, zL65, zL97, zL99, zL100, zL101, zL102, zL103, zL104, zL111, zL119, zL126, zL255, zL512, zL617, zL65535, zL65536, zL1048576, zlt, zle, zeq, ztn, zin, zzb, zadd, zmul, zm_lt, zm_gt, zm_le, zm_ge, zm_eq, zm_eq', zm_in, if_pos, if_neg, bI_s, bJ_s, bA_s, bU_s, if_true, if_false, reduceIte, or_true, true_or, or_false, false_or, and_true, true_and, and_false, false_and, not_true_eq_false, not_false_eq_true, Nat.reduceEqDiff, Nat.zero_ne_one, Nat.one_ne_zero, k_Top_crowd_20_eq]
    · rw [f_Mod_crowd_eq]; simp (disch := omega) only [mo_within, zL0, zL1, zL2, zL3, zL4, zL5, zL6, zL7, zL8, zL9, zL10, zL12, zL20, zL30, zL31, zL32, zL44, zL48, zL49, zL50, zL56, zL59, zL60, zL61, zL64, zL65, zL97, zL99, zL100, zL101, zL102, zL103, zL104, zL111, zL119, zL126, zL255, zL512, zL617, zL65535, zL65536, zL1048576, zlt, zle, zeq, ztn, zin, zzb, zadd, zmul, zm_lt, zm_gt, zm_le, zm_ge, zm_eq, zm_eq', zm_in, if_pos, if_neg, bI_s, bJ_s, bA_s, bU_s, if_true, if_false, reduceIte, or_true, true_or, or_false, false_or, and_true, true_and, and_false, false_and, not_true_eq_false, not_false_eq_true, Nat.reduceEqDiff, Nat.zero_ne_one, Nat.one_ne_zero, k_Mod_crowd_23_eq]
  by_cases c6 : D 55 6 = 0
  · rw [if_pos c6] at hn8
    refine CAL_00 h hc (r := -nI 103) ?_ ?_
    · rw [f_Top_crowd_eq]; simp (disch := omega) only [ct_areMinutes, hn8, zL0, zL1, zL2, zL3, zL4, zL5, zL6, zL7, zL8, zL9, zL10, zL12, zL20, zL30, zL31, zL32, zL44, zL48, zL49, zL50, zL56, zL59, zL60, zL61, zL64, zL65, zL97, zL99, zL100, zL101, zL102, zL103, zL104, zL111, zL119, zL126, zL255, zL512, zL617, zL65535, zL65536, zL1048576, zlt, zle, zeq, ztn, zin, zzb, zadd, zmul, zm_lt, zm_gt, zm_le, zm_ge, zm_eq, zm_eq', zm_in, if_pos, if_neg, bI_s, bJ_s, bA_s, bU_s, if_true, if_false, reduceIte, or_true, true_or, or_false, false_or, and_true, true_and, and_false, false_and, not_true_eq_false, not_false_eq_true, Nat.reduceEqDiff, Nat.zero_ne_one, Nat.one_ne_zero]
    · rw [f_Mod_crowd_eq]; simp (disch := omega) only [mo_within, hm.r, zL0, zL1, zL2, zL3, zL4, zL5, zL6, zL7, zL8, zL9, zL10, zL12, zL20, zL30, zL31, zL32, zL44, zL48, zL49, zL50, zL56, zL59, zL60, zL61, zL64, zL65, zL97, zL99, zL100, zL101, zL102, zL103, zL104, zL111, zL119, zL126, zL255, zL512, zL617, zL65535, zL65536, zL1048576, zlt, zle, zeq, ztn, zin, zzb, zadd, zmul, zm_lt, zm_gt, zm_le, zm_ge, zm_eq, zm_eq', zm_in, if_pos, if_neg, bI_s, bJ_s, bA_s, bU_s, if_true, if_false, reduceIte, or_true, true_or, or_false, false_or, and_true, true_and, and_false, false_and, not_true_eq_false, not_false_eq_true, Nat.reduceEqDiff, Nat.zero_ne_one, Nat.one_ne_zero, k_Mod_crowd_45_eq]
  · refine CAL_0 h hc (r := cwR D n s k) (ct_crowd hd hr cn.1 cn.2 hs c2 c6) (fun S1 r1 m1 => ?_)
    obtain ⟨S2, e2, m2, f2⟩ := mo_crowdNow hd m1 cn.1 cn.2 hs c2
    refine ⟨S2, ?_, m2, f2⟩
    rw [f_Mod_crowd_eq]
    simp (disch := omega) only [mo_within, zL0, zL1, zL2, zL3, zL4, zL5, zL6, zL7, zL8, zL9, zL10, zL12, zL20, zL30, zL31, zL32, zL44, zL48, zL49, zL50, zL56, zL59, zL60, zL61, zL64, zL65, zL97, zL99, zL100, zL101, zL102, zL103, zL104, zL111, zL119, zL126, zL255, zL512, zL617, zL65535, zL65536, zL1048576, zlt, zle, zeq, ztn, zin, zzb, zadd, zmul, zm_lt, zm_gt, zm_le, zm_ge, zm_eq, zm_eq', zm_in, if_pos, if_neg, bI_s, bJ_s, bA_s, bU_s, if_true, if_false, reduceIte, or_true, true_or, or_false, false_or, and_true, true_and, and_false, false_and, not_true_eq_false, not_false_eq_true, Nat.reduceEqDiff, Nat.zero_ne_one, Nat.one_ne_zero, m1.r, e2, k_Mod_crowd_45_eq]
end MC
