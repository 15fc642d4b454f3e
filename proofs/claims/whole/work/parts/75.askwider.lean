theorem wa_n {x : Nat} {s : Option Nat × Option Nat} (h : s.2 = none) : wa x s = -nI 1 := by unfold wa; rw [h]
theorem wa_s {x k : Nat} {s : Option Nat × Option Nat} (h : s.2 = some k) : wa x s = if x = 0 then nI k else eo s.1 := by unfold wa; rw [h]
theorem C12_n {s : Option Nat × Option Nat} (h : s.2 = none) : C12 s = -nI 1 := by unfold C12; rw [h]
theorem C12_s {k : Nat} {s : Option Nat × Option Nat} (h : s.2 = some k) : C12 s = eo s.1 := by unfold C12; rw [h]
section AWI
variable {D : DD} {S : Mem}
theorem okD_w (hd : okD D) (k : Nat) : okD (wid D k) := by
  refine ⟨⟨hd.1.1, hd.1.2.1, hd.1.2.2.1, fun i hi => ?_, hd.1.2.2.2.2⟩, okW_d hd.2.1 rfl rfl rfl rfl rfl rfl rfl (fun i hi => (hd.2.1.2 i hi).2.2.2.1) rfl rfl rfl, hd.2.2.1, okK_d hd.2.2.2 rfl rfl rfl rfl rfl rfl rfl rfl (Nat.le_refl _) rfl rfl rfl rfl rfl rfl⟩
  have h := hd.1.2.2.2.1 i hi
  refine ⟨h.1, h.2.1, h.2.2.1, ?_⟩
  show (if i = k then 1 else D 58 i) ≤ 1
  split
  · exact Nat.le_refl _
  · exact h.2.2.2
theorem wid_mpx (D : DD) (k : Nat) : mpx (wid D k) = mpx D := by
  funext i j
  unfold mpx
  rw [mp_row (D := D) (D' := wid D k) rfl rfl rfl]
  rfl
theorem wid_EE (D : DD) (k : Nat) (nw P : Nat → Nat → Bool) : EE (wid D k) nw P = EE D nw P := by
  funext p r
  unfold EE es adj
  simp only [wid_ln]
  rfl
theorem wid_cdk (D : DD) (k a : Nat) (ha : a ≠ 58) : ∀ n, cdk (wid D k) a n = cdk D a n
  | 0 => rfl
  | n + 1 => by
    have e : cd (wid D k) a n = cd D a n := by
      unfold cd wid
      rw [dS_n (by omega), dS_n (by omega)]
    show 8 * cdk (wid D k) a n + cd (wid D k) a n = _
    rw [wid_cdk D k a ha n, e]
    rfl
theorem mo_sn (hd : okD D) (hm : RM D S) (h1 : 1 ≤ D 55 7) (h3 : D 55 7 ≤ 3) : ∃ S' r, f_Mod_soonestOf S = some (eo r, S') ∧ RM D S' ∧ frM S S' ∧ sn 512 (EE D (nar D) (mpx D)) (cdk D 61 3) 30 (cdk D 60 3) r := by
  have hg5 := (cdk_3 hd (a := 61) (by omega)).1
  have hs5 := (cdk_3 hd (a := 60) (by omega)).1
  have l60 := (mcs_tr hd (a := 60) (by omega) h1 h3).2
  obtain ⟨S1, r, far, e1, f1, g1, n1, s1, p1, b1, at1⟩ := mo_soonestOf hd hm h1 h3 rfl
  have hsn := sn_tr h1 h3 hg5 l60 s1
  rw [tr_tr hs5] at hsn
  exact ⟨S1, r, e1, RM_B hm f1, frB_M f1, hsn⟩
theorem RM_eq {D' : DD} (h : RM D S) (e : D' = D) : RM D' S := by rw [e]; exact h
theorem mo_snk (hd : okD D) (hm : RM D S) (h1 : 1 ≤ D 55 7) (h3 : D 55 7 ≤ 3) {k : Nat} (hk : k < D 55 0) (h0 : D 58 k = 0) : ∃ S' r, f_Mod_soonestOf (u1 S 58 k (nI 1)) = some (eo r, S') ∧ RM D (u1 S' 58 k (nI 0)) ∧ frM S (u1 S' 58 k (nI 0)) ∧ sn 512 (EE D (nar (wid D k)) (mpx D)) (cdk D 61 3) 30 (cdk D 60 3) r := by
  obtain ⟨S1, r, e1, m1, f1, s1⟩ := mo_sn (D := wid D k) (S := u1 S 58 k (nI 1)) (okD_w hd k) (RM_u1 hm) h1 h3
  rw [wid_EE, wid_mpx, wid_cdk D k 61 (by omega), wid_cdk D k 60 (by omega)] at s1
  refine ⟨S1, r, e1, RM_eq (RM_u1 (a := 58) (k := k) (v := 0) m1) ?_, fun a j q => by rw [zuN (by omega), f1 a j q, zuN (by omega)], s1⟩
  funext a j
  unfold wid dS dU
  by_cases ca : a = 58
  · subst ca
    by_cases cj : j = k
    · subst cj
      simp [h0]
    · simp [cj]
  · simp [ca]
theorem DK_ex (hd : okD D) (hm : RM D S) (h1 : 1 ≤ D 55 7) (h3 : D 55 7 ≤ 3) : ∃ dk, DK D dk := zpick none (D 55 0) (fun k hk => by
  obtain ⟨S1, r, e1, m1, f1, s1⟩ := mo_sn (D := wid D k) (S := u1 S 58 k (nI 1)) (okD_w hd k) (RM_u1 hm) h1 h3
  rw [wid_EE, wid_mpx, wid_cdk D k 61 (by omega), wid_cdk D k 60 (by omega)] at s1
  exact ⟨r, s1⟩)
theorem mw_loop (hd : okD D) (h1 : 1 ≤ D 55 7) (h3 : D 55 7 ≤ 3) {dk : Nat → Option Nat} (hdk : DK D dk) {b0 : Option Nat} (hb0 : ∀ v, b0 = some v → v ≤ 30) {x : Nat} (hx : x ≤ 1) : ∀ m k S, k + m = D 55 0 → RM D S → ∃ S', k_Mod_widerNow_23 (nI x) (nI (bN 1048576 (wfd D dk b0 k).1)) (eo (wfd D dk b0 k).2) (nI k) S = some (wa x (wfd D dk b0 (D 55 0)), S') ∧ RM D S' ∧ frM S S' := by
  have n12 := hd.1.1
  have hdle : ∀ k v, k < D 55 0 → dk k = some v → v ≤ 30 := fun k v hk => sn_le (hdk k hk) v
  have hok := fun k (hk : k ≤ D 55 0) => wfd_ok (D := D) hb0 hdle k hk
  intro m
  induction m with
  | zero =>
    intro k S hk hm
    have e : k = D 55 0 := by omega
    have r0 := hm.r 55 0 (by omega)
    obtain ⟨o1, o2⟩ := hok k (by omega)
    refine ⟨S, ?_, hm, frM_r S⟩
    rw [k_Mod_widerNow_23_eq, r0, if_pos (by rw [zle (by omega) (by omega)]; omega), ← e, zL1]
    cases e2 : (wfd D dk b0 k).2 with
    | none =>
      rw [wa_n e2, if_pos (show eo none = -nI 1 from rfl), k_Mod_widerNow_120_eq, k_Mod_widerNow_126_eq]
      rfl
    | some v =>
      have hv := o2 v e2
      rw [wa_s e2, eo, if_neg (by rw [zm_eq (by omega)]; simp), zL0]
      by_cases c0 : x = 0
      · rw [if_pos (by rw [c0]), k_Mod_widerNow_120_eq, k_Mod_widerNow_126_eq, if_pos c0]
      · rw [if_neg (by rw [zeq (by omega) (by omega)]; exact c0), k_Mod_widerNow_126_eq, if_neg c0]
        cases e1 : (wfd D dk b0 k).1 with
        | none => exact absurd e1 hv.2
        | some b => rfl
  | succ m ih =>
    intro k S hk hm
    have r0 := hm.r 55 0 (by omega)
    have r58 := hm.r 58 k (by omega)
    obtain ⟨o1, o2⟩ := hok k (by omega)
    have w58 := (hd.1.2.2.2.1 k (by omega)).2.2.2
    have hB : bN 1048576 (wfd D dk b0 k).1 ≤ 1048576 := by
      cases e : (wfd D dk b0 k).1 with
      | none => exact Nat.le_refl _
      | some v => have := o1 v e; show v ≤ 1048576; omega
    have himp : ∀ v, v ≤ 30 → (wimp v (wfd D dk b0 k).1 = true ↔ v < bN 1048576 (wfd D dk b0 k).1) := fun v h30 => by
      cases e : (wfd D dk b0 k).1 with
      | none => exact ⟨fun _ => by show v < 1048576; omega, fun _ => rfl⟩
      | some b => exact ⟨fun h => of_decide_eq_true h, fun h => decide_eq_true h⟩
    have same : wfd D dk b0 (k + 1) = wfd D dk b0 k → ∀ S2, RM D S2 → frM S S2 → ∃ S', k_Mod_widerNow_104 (nI x) (nI (bN 1048576 (wfd D dk b0 k).1)) (eo (wfd D dk b0 k).2) (nI k) S2 = some (wa x (wfd D dk b0 (D 55 0)), S') ∧ RM D S' ∧ frM S S' := fun e S2 m2 f2 => by
      obtain ⟨S3, e3, m3, f3⟩ := ih (k + 1) S2 (by omega) m2
      refine ⟨S3, ?_, m3, fun a j q => by rw [f3 a j q, f2 a j q]⟩
      rw [k_Mod_widerNow_104_eq, zL1, zadd, ← e, e3]
    obtain ⟨B, hBe⟩ : ∃ B, B = bN 1048576 (wfd D dk b0 k).1 := ⟨_, rfl⟩
    obtain ⟨L, hLe⟩ : ∃ L, L = eo (wfd D dk b0 k).2 := ⟨_, rfl⟩
    rw [← hBe, ← hLe] at same ⊢
    rw [← hBe] at hB himp
    rw [k_Mod_widerNow_23_eq, r0, if_neg (by rw [zle (by omega) (by omega)]; omega), if_pos (by rw [zin (by omega)]; omega), ztn (by omega), r58, zL0, zL1]
    by_cases c2 : D 58 k = 0
    · rw [if_pos (by rw [c2]), if_pos (by rw [zin (by omega)]; omega)]
      obtain ⟨S2, r, e2, m2, f2, s2⟩ := mo_snk hd hm h1 h3 (k := k) (by omega) c2
      have ed : dk k = r := sn_one (hdk k (by omega)) s2
      rw [e2, bI_s, if_pos (by rw [zin (by omega)]; omega)]
      cases er : r with
      | none =>
        rw [if_pos (show eo none = -nI 1 from rfl), k_Mod_widerNow_81_eq, k_Mod_widerNow_83_eq, zL1, if_pos (show eo none = -nI 1 from rfl), k_Mod_widerNow_102_eq, k_Mod_widerNow_103_eq]
        refine same ?_ _ m2 f2
        show wstp D dk k _ = _
        unfold wstp
        rw [if_pos c2, ed, er]
      | some v =>
        have hv := hdle k v (by omega) (by rw [ed, er])
        rw [eo, if_neg (by rw [zm_eq (by omega)]; simp)]
        by_cases c3 : B ≤ v
        · rw [if_pos (by rw [zle (by omega) (by omega)]; exact c3), k_Mod_widerNow_81_eq, k_Mod_widerNow_83_eq, zL1, if_neg (by rw [zm_eq (by omega)]; simp), if_pos (by rw [zle (by omega) (by omega)]; exact c3), k_Mod_widerNow_102_eq, k_Mod_widerNow_103_eq]
          refine same ?_ _ m2 f2
          show wstp D dk k _ = _
          unfold wstp
          rw [if_pos c2, ed, er]
          exact if_neg (fun h => by have := (himp v hv).mp h; omega)
        · have e : wfd D dk b0 (k + 1) = (some v, some k) := by
            show wstp D dk k _ = _
            unfold wstp
            rw [if_pos c2, ed, er]
            exact if_pos ((himp v hv).mpr (by omega))
          obtain ⟨S3, e3, m3, f3⟩ := ih (k + 1) _ (by omega) m2
          refine ⟨S3, ?_, m3, fun a j q => by rw [f3 a j q, f2 a j q]⟩
          rw [e] at e3
          rw [if_neg (by rw [zle (by omega) (by omega)]; exact c3), k_Mod_widerNow_83_eq, zL1, if_neg (by rw [zm_eq (by omega)]; simp), if_neg (by rw [zle (by omega) (by omega)]; exact c3), k_Mod_widerNow_103_eq, k_Mod_widerNow_104_eq, zL1, zadd]
          exact e3
    · rw [if_neg (by rw [zeq (by omega) (by omega)]; exact c2)]
      exact same (by show wstp D dk k _ = _; unfold wstp; rw [if_neg c2]) S hm (frM_r S)
theorem mo_widerNow (hd : okD D) (hm : RM D S) (h1 : 1 ≤ D 55 7) (h3 : D 55 7 ≤ 3) {dk : Nat → Option Nat} (hdk : DK D dk) {b0 : Option Nat} (hb0 : sn 512 (EE D (nar D) (mpx D)) (cdk D 61 3) 30 (cdk D 60 3) b0) {x : Nat} (hx : x ≤ 1) : ∃ S', f_Mod_widerNow (nI x) S = some (wa x (wfd D dk b0 (D 55 0)), S') ∧ RM D S' ∧ frM S S' := by
  obtain ⟨S1, r, e1, m1, f1, s1⟩ := mo_sn hd hm h1 h3
  have er : r = b0 := sn_one s1 hb0
  subst er
  have hle := sn_le hb0
  obtain ⟨S2, e2, m2, f2⟩ := mw_loop hd h1 h3 hdk hle hx (D 55 0) 0 S1 (by omega) m1
  refine ⟨S2, ?_, m2, fun a j q => by rw [f2 a j q, f1 a j q]⟩
  have e2' : k_Mod_widerNow_23 (nI x) (nI (bN 1048576 r)) (-nI 1) (nI 0) S1 = some (wa x (wfd D dk r (D 55 0)), S2) := e2
  rw [f_Mod_widerNow_eq, e1, bI_s, zL1, zL1048576]
  cases r with
  | none =>
    rw [if_pos (show eo none = -nI 1 from rfl), k_Mod_widerNow_16_eq, zL0, zL1]
    exact e2'
  | some v =>
    have hv := hle v rfl
    rw [eo, if_neg (by rw [zm_eq (by omega)]; simp), k_Mod_widerNow_16_eq, zL0, zL1]
    exact e2'
theorem ask_wider {c : Nat} (h : Inv c D S) (hc : c < 512) (x : Int32) : CAL c S (f_Top_wider x) (f_Mod_wider x) := by
  obtain ⟨hd, hr, hm, h4, h5, h6⟩ := id h
  have w5 := hd.2.1.1
  have p40 := hd.2.2.1.2.2.2.1
  rcases zcase x with hx | ⟨n, hn, rfl⟩
  · refine CAL_00 h hc (r := -nI 102) ?_ ?_
    · rw [f_Top_wider_eq, zL0, zL1, if_neg (by intro q; rw [q] at hx; exact absurd hx (by decide)), if_neg (by intro q; rw [q] at hx; exact absurd hx (by decide))]; rfl
    · rw [f_Mod_wider_eq]; simp (disch := omega) only [mo_within_n hx, zL0, zL1, zL2, zL3, zL4, zL5, zL6, zL7, zL8, zL9, zL10, zL12, zL20, zL30, zL31, zL32, zL44, zL48, zL49, zL50, zL56, zL59, zL60, zL61, zL64, zL65, zL97, zL99, zL100, zL101, zL102, zL103, zL104, zL111, zL119, zL126, zL255, zL512, zL617, zL65535, zL65536, zL1048576, zlt, zle, zeq, ztn, zin, zzb, zadd, zmul, zm_lt, zm_gt, zm_le, zm_ge, zm_eq, zm_eq', zm_in, if_pos, if_neg, bI_s, bJ_s, bA_s, bU_s, if_true, if_false, reduceIte, or_true, true_or, or_false, false_or, and_true, true_and, and_false, false_and, not_true_eq_false, not_false_eq_true, Nat.reduceEqDiff, Nat.zero_ne_one, Nat.one_ne_zero]
  by_cases cn : n ≤ 1
  rotate_left
  · refine CAL_00 h hc (r := -nI 102) ?_ ?_
    · rw [f_Top_wider_eq, zL0, zL1, if_neg (by rw [zeq (by omega) (by omega)]; omega), if_neg (by rw [zeq (by omega) (by omega)]; omega)]; rfl
    · rw [f_Mod_wider_eq]; simp (disch := omega) only [mo_within, zL0, zL1, zL2, zL3, zL4, zL5, zL6, zL7, zL8, zL9, zL10, zL12, zL20, zL30, zL31, zL32, zL44, zL48, zL49, zL50, zL56, zL59, zL60, zL61, zL64, zL65, zL97, zL99, zL100, zL101, zL102, zL103, zL104, zL111, zL119, zL126, zL255, zL512, zL617, zL65535, zL65536, zL1048576, zlt, zle, zeq, ztn, zin, zzb, zadd, zmul, zm_lt, zm_gt, zm_le, zm_ge, zm_eq, zm_eq', zm_in, if_pos, if_neg, bI_s, bJ_s, bA_s, bU_s, if_true, if_false, reduceIte, or_true, true_or, or_false, false_or, and_true, true_and, and_false, false_and, not_true_eq_false, not_false_eq_true, Nat.reduceEqDiff, Nat.zero_ne_one, Nat.one_ne_zero]
  have hmp := ct_mayPlan hd hr
  have top : f_Top_wider (nI n) S = k_Top_wider_12 (nI n) S := by
    rw [f_Top_wider_eq, zL0, zL1]
    by_cases c0 : n = 0
    · rw [if_pos (by rw [c0])]
    · rw [if_neg (by rw [zeq (by omega) (by omega)]; exact c0), if_pos (by rw [show n = 1 by omega])]
  by_cases cm : 1 ≤ D 55 7 ∧ D 55 7 ≤ 3 ∧ D 55 17 < 40
  rotate_left
  · refine CAL_00 h hc (r := -nI 103) ?_ ?_
    · rw [if_neg cm] at hmp
      rw [top, k_Top_wider_12_eq]; simp (disch := omega) only [zL0, zL1, zL2, zL3, zL4, zL5, zL6, zL7, zL8, zL9, zL10, zL12, zL20, zL30, zL31, zL32, zL44, zL48, zL49, zL50, zL56, zL59, zL60, zL61, zL64, zL65, zL97, zL99, zL100, zL101, zL102, zL103, zL104, zL111, zL119, zL126, zL255, zL512, zL617, zL65535, zL65536, zL1048576, zlt, zle, zeq, ztn, zin, zzb, zadd, zmul, zm_lt, zm_gt, zm_le, zm_ge, zm_eq, zm_eq', zm_in, if_pos, if_neg, bI_s, bJ_s, bA_s, bU_s, if_true, if_false, reduceIte, or_true, true_or, or_false, false_or, and_true, true_and, and_false, false_and, not_true_eq_false, not_false_eq_true, Nat.reduceEqDiff, Nat.zero_ne_one, Nat.one_ne_zero, hmp]
    · have r7 := hm.r 55 7 (by omega)
      have r17 := hm.r 55 17 (by omega)
      rw [f_Mod_wider_eq]
      by_cases c1 : 1 ≤ D 55 7 ∧ D 55 7 ≤ 3
      · simp (disch := omega) only [mo_within, zL0, zL1, zL2, zL3, zL4, zL5, zL6, zL7, zL8, zL9, zL10, zL12, zL20, zL30, zL31, zL32, zL44, zL48, zL49, zL50, zL56, zL59, zL60, zL61, zL64, zL65, zL97, zL99, zL100, zL101, zL102, zL103, zL104, zL111, zL119, zL126, zL255, zL512, zL617, zL65535, zL65536, zL1048576, zlt, zle, zeq, ztn, zin, zzb, zadd, zmul, zm_lt, zm_gt, zm_le, zm_ge, zm_eq, zm_eq', zm_in, if_pos, if_neg, bI_s, bJ_s, bA_s, bU_s, if_true, if_false, reduceIte, or_true, true_or, or_false, false_or, and_true, true_and, and_false, false_and, not_true_eq_false, not_false_eq_true, Nat.reduceEqDiff, Nat.zero_ne_one, Nat.one_ne_zero, r7, r17, k_Mod_wider_33_eq, show (40 : Int32) = nI 40 from rfl]
      · simp (disch := omega) only [mo_within, zL0, zL1, zL2, zL3, zL4, zL5, zL6, zL7, zL8, zL9, zL10, zL12, zL20, zL30, zL31, zL32, zL44, zL48, zL49, zL50, zL56, zL59, zL60, zL61, zL64, zL65, zL97, zL99, zL100, zL101, zL102, zL103, zL104, zL111, zL119, zL126, zL255, zL512, zL617, zL65535, zL65536, zL1048576, zlt, zle, zeq, ztn, zin, zzb, zadd, zmul, zm_lt, zm_gt, zm_le, zm_ge, zm_eq, zm_eq', zm_in, if_pos, if_neg, bI_s, bJ_s, bA_s, bU_s, if_true, if_false, reduceIte, or_true, true_or, or_false, false_or, and_true, true_and, and_false, false_and, not_true_eq_false, not_false_eq_true, Nat.reduceEqDiff, Nat.zero_ne_one, Nat.one_ne_zero, r7, r17, k_Mod_wider_33_eq]
  obtain ⟨m1, m3, m40⟩ := cm
  have hd' := okD_p hd m40
  obtain ⟨dk, hdk⟩ := DK_ex (D := pln D) hd' (RM_u1 (a := 55) (k := 17) (v := D 55 17 + 1) hm) m1 m3
  obtain ⟨_, b0, _, _, _, hb0⟩ := mo_sn (D := pln D) hd' (RM_u1 (a := 55) (k := 17) (v := D 55 17 + 1) hm) m1 m3
  refine CAL_p h hc m40 (A := wa n (wfd (pln D) dk b0 ((pln D) 55 0))) (fun hr' => ?_) (fun T1 hm1 hm2 => ?_)
  · obtain ⟨S1, e1, f1, g1, b1⟩ := cp_begin hd' hr'
    obtain ⟨S2, e2, f2, p11, p12⟩ := cw_widen hd' m1 m3 hdk hb0 b1
    refine ⟨S2, ?_, frC_t (fun a k q => f1 a k (by omega)) f2⟩
    rw [if_pos ⟨m1, m3, m40⟩] at hmp
    rw [top, k_Top_wider_12_eq, hmp, bI_s, zL0, if_neg (by decide), hr.pl, zL1, zadd, e1, bU_s, e2, bU_s, p11, p12]
    by_cases c0 : n = 0
    · rw [if_pos (by rw [c0]), k_Top_wider_67_eq]
      cases e : (wfd (pln D) dk b0 ((pln D) 55 0)).2 with
      | none => rw [wa_n e]; rfl
      | some v => rw [wa_s e, if_pos c0]; rfl
    · rw [if_neg (by rw [zeq (by omega) (by omega)]; exact c0), k_Top_wider_67_eq]
      cases e : (wfd (pln D) dk b0 ((pln D) 55 0)).2 with
      | none => rw [wa_n e, C12_n e]
      | some v => rw [wa_s e, C12_s e, if_neg c0]
  · have r7 := hm1.r 55 7 (by omega)
    have r17 := hm1.r 55 17 (by omega)
    obtain ⟨T2, e3, m3', f3⟩ := mo_widerNow hd' hm2 m1 m3 hdk hb0 cn
    refine ⟨T2, ?_, m3', f3⟩
    rw [f_Mod_wider_eq]
    simp (disch := omega) only [mo_within, zL0, zL1, zL2, zL3, zL4, zL5, zL6, zL7, zL8, zL9, zL10, zL12, zL20, zL30, zL31, zL32, zL44, zL48, zL49, zL50, zL56, zL59, zL60, zL61, zL64, zL65, zL97, zL99, zL100, zL101, zL102, zL103, zL104, zL111, zL119, zL126, zL255, zL512, zL617, zL65535, zL65536, zL1048576, zlt, zle, zeq, ztn, zin, zzb, zadd, zmul, zm_lt, zm_gt, zm_le, zm_ge, zm_eq, zm_eq', zm_in, if_pos, if_neg, bI_s, bJ_s, bA_s, bU_s, if_true, if_false, reduceIte, or_true, true_or, or_false, false_or, and_true, true_and, and_false, false_and, not_true_eq_false, not_false_eq_true, Nat.reduceEqDiff, Nat.zero_ne_one, Nat.one_ne_zero, r7, r17, e3, show (40 : Int32) = nI 40 from rfl]
end AWI
