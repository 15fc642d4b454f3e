/-! WIDER -/
theorem zpick {α : Type} {Q : Nat → α → Prop} (a0 : α) : ∀ n, (∀ k, k < n → ∃ r, Q k r) → ∃ f : Nat → α, ∀ k, k < n → Q k (f k)
  | 0, _ => ⟨fun _ => a0, fun k hk => absurd hk (Nat.not_lt_zero k)⟩
  | n + 1, h => by
    obtain ⟨f, hf⟩ := zpick a0 n (fun k hk => h k (by omega))
    obtain ⟨r, hr⟩ := h n (by omega)
    refine ⟨fun k => if k = n then r else f k, fun k hk => ?_⟩
    by_cases c : k = n
    · simp only [if_pos c]; rw [c]; exact hr
    · simp only [if_neg c]; exact hf k (by omega)
def wimp (v : Nat) : Option Nat → Bool
  | none => true
  | some b => decide (v < b)
def wstp (D : DD) (dk : Nat → Option Nat) (k : Nat) (s : Option Nat × Option Nat) : Option Nat × Option Nat := if D 58 k = 0 then (match dk k with
  | none => s
  | some v => if wimp v s.1 then (some v, some k) else s) else s
def wfd (D : DD) (dk : Nat → Option Nat) (b0 : Option Nat) : Nat → Option Nat × Option Nat
  | 0 => (b0, none)
  | k + 1 => wstp D dk k (wfd D dk b0 k)
def wa (x : Nat) (s : Option Nat × Option Nat) : Int32 := match s.2 with
  | none => -nI 1
  | some k => if x = 0 then nI k else eo s.1
def bN (m : Nat) (o : Option Nat) : Nat := match o with
  | none => m
  | some b => b
theorem wfd_ok {D : DD} {dk : Nat → Option Nat} {b0 : Option Nat} (hb : ∀ v, b0 = some v → v ≤ 30) {n : Nat} (hd : ∀ k v, k < n → dk k = some v → v ≤ 30) : ∀ k, k ≤ n → (∀ v, (wfd D dk b0 k).1 = some v → v ≤ 30) ∧ (∀ v, (wfd D dk b0 k).2 = some v → v < k ∧ (wfd D dk b0 k).1 ≠ none)
  | 0, _ => ⟨hb, fun v h => by cases h⟩
  | k + 1, hk => by
    obtain ⟨i1, i2⟩ := wfd_ok (D := D) hb hd k (by omega)
    have same : wfd D dk b0 (k + 1) = wfd D dk b0 k → (∀ v, (wfd D dk b0 (k + 1)).1 = some v → v ≤ 30) ∧ (∀ v, (wfd D dk b0 (k + 1)).2 = some v → v < k + 1 ∧ (wfd D dk b0 (k + 1)).1 ≠ none) := fun e => by
      rw [e]; exact ⟨i1, fun v h => ⟨by have := (i2 v h).1; omega, (i2 v h).2⟩⟩
    by_cases c : D 58 k = 0
    · cases ed : dk k with
      | none => exact same (by show wstp D dk k _ = _; unfold wstp; rw [if_pos c, ed])
      | some w =>
        by_cases ci : wimp w (wfd D dk b0 k).1
        · have e : wfd D dk b0 (k + 1) = (some w, some k) := by show wstp D dk k _ = _; unfold wstp; rw [if_pos c, ed]; exact if_pos ci
          rw [e]
          refine ⟨fun v h => ?_, fun v h => ?_⟩
          · cases h; exact hd k w (by omega) ed
          · cases h; exact ⟨by omega, by simp⟩
        · exact same (by show wstp D dk k _ = _; unfold wstp; rw [if_pos c, ed]; exact if_neg ci)
    · exact same (by show wstp D dk k _ = _; unfold wstp; rw [if_neg c])
/-- nothing betters it any more -/
theorem wfd_end {D : DD} {dk : Nat → Option Nat} {b0 : Option Nat} {n k : Nat} (h : ∀ j v, k ≤ j → j < n → dk j = some v → ¬ wimp v (wfd D dk b0 k).1) : ∀ m, k + m ≤ n → wfd D dk b0 (k + m) = wfd D dk b0 k
  | 0, _ => rfl
  | m + 1, hm => by
    have ih := wfd_end h m (by omega)
    show wstp D dk (k + m) (wfd D dk b0 (k + m)) = _
    rw [ih]
    unfold wstp
    by_cases c : D 58 (k + m) = 0
    · rw [if_pos c]
      cases ed : dk (k + m) with
      | none => rfl
      | some v => exact if_neg (h (k + m) v (by omega) (by omega) ed)
    · rw [if_neg c]
def C12 (s : Option Nat × Option Nat) : Int32 := match s.2 with
  | none => -nI 1
  | some _ => eo s.1
section WID
variable {D : DD} {S : Mem}
/-- the distances with one lane more wide -/
def DK (D : DD) (dk : Nat → Option Nat) : Prop := ∀ k, k < D 55 0 → sn 512 (EE D (nar (wid D k)) (mpx D)) (cdk D 61 3) 30 (cdk D 60 3) (dk k)
theorem cw_loop (hd : okD D) (h1 : 1 ≤ D 55 7) (h3 : D 55 7 ≤ 3) {dk : Nat → Option Nat} (hdk : DK D dk) {b0 : Option Nat} (hb0 : ∀ v, b0 = some v → v ≤ 30) {al : Nat} (hal : al ≤ 30) (hall : ∀ j v, j < D 55 0 → dk j = some v → al ≤ v) : ∀ m k S, k + m = D 55 0 → PB0 D (mpx D) (cdk D 60 3) (cdk D 61 3) S → S.1 52 11 = eo (wfd D dk b0 k).2 → S.1 52 12 = C12 (wfd D dk b0 k) → ∃ S', k_Planner_widen_48 (nI al) (nI (bN 31 (wfd D dk b0 k).1)) (nI k) S = some S' ∧ frC S S' ∧ S'.1 52 11 = eo (wfd D dk b0 (D 55 0)).2 ∧ S'.1 52 12 = C12 (wfd D dk b0 (D 55 0)) := by
  have n12 := hd.1.1
  have hg5 := (cdk_3 hd (a := 61) (by omega)).1
  have hs5 := (cdk_3 hd (a := 60) (by omega)).1
  have hdle : ∀ k v, k < D 55 0 → dk k = some v → v ≤ 30 := fun k v hk => sn_le (hdk k hk) v
  have hok := fun k (hk : k ≤ D 55 0) => wfd_ok (D := D) hb0 hdle k hk
  intro m
  induction m with
  | zero =>
    intro k S hk hPB q1 q2
    have e : k = D 55 0 := by omega
    rw [e] at q1 q2
    refine ⟨S, ?_, frC_r S, q1, q2⟩
    have r3 := hPB.1.lanes
    rw [k_Planner_widen_48_eq, e, r3, if_pos (by rw [zle (by omega) (by omega)]; exact Nat.le_refl _), k_Planner_widen_120_eq]
  | succ m ih =>
    intro k S hk hPB q1 q2
    obtain ⟨o1, o2⟩ := hok k (by omega)
    have r3 := hPB.1.lanes
    have rw' := hPB.1.wide k (by omega)
    have w58 := (hd.1.2.2.2.1 k (by omega)).2.2.2
    have hB31 : bN 31 (wfd D dk b0 k).1 ≤ 31 := by
      cases e : (wfd D dk b0 k).1 with
      | none => exact Nat.le_refl _
      | some v => have := o1 v e; show v ≤ 31; omega
    have himp : ∀ v, wimp v (wfd D dk b0 k).1 → v ≤ 30 → v < bN 31 (wfd D dk b0 k).1 := fun v hv h30 => by
      cases e : (wfd D dk b0 k).1 with
      | none => show v < 31; omega
      | some b => rw [e] at hv; exact of_decide_eq_true hv
    have himp2 : ∀ v, v < bN 31 (wfd D dk b0 k).1 → wimp v (wfd D dk b0 k).1 := fun v hv => by
      cases e : (wfd D dk b0 k).1 with
      | none => rfl
      | some b => rw [e] at hv; exact decide_eq_true hv
    obtain ⟨B, hB⟩ : ∃ B, B = bN 31 (wfd D dk b0 k).1 := ⟨_, rfl⟩
    rw [← hB] at hB31 himp himp2 ⊢
    have same : wfd D dk b0 (k + 1) = wfd D dk b0 k → ∀ S2, frC S S2 → PB0 D (mpx D) (cdk D 60 3) (cdk D 61 3) S2 → S2.1 52 11 = S.1 52 11 → S2.1 52 12 = S.1 52 12 → ∃ S', k_Planner_widen_91 (nI al) (nI B) (nI k) (-nI 1) S2 = some S' ∧ frC S S' ∧ S'.1 52 11 = eo (wfd D dk b0 (D 55 0)).2 ∧ S'.1 52 12 = C12 (wfd D dk b0 (D 55 0)) := fun e S2 f2 hPB2 a1 a2 => by
      obtain ⟨S3, e3, f3, p3, p4⟩ := ih (k + 1) S2 (by omega) hPB2 (by rw [e, a1]; exact q1) (by rw [e, a2]; exact q2)
      refine ⟨S3, ?_, frC_t f2 f3, p3, p4⟩
      rw [e, ← hB] at e3
      rw [k_Planner_widen_91_eq, zL1, if_pos rfl, k_Planner_widen_114_eq, zL1, zadd, e3]
    by_cases c1 : B ≤ al
    · have e : wfd D dk b0 (D 55 0) = wfd D dk b0 k := by
        have := wfd_end (D := D) (dk := dk) (b0 := b0) (n := D 55 0) (k := k) (fun j v hj hjn ev hw => by
          have a1 := hall j v hjn ev
          have a2 := himp v hw (hdle j v hjn ev)
          omega) (m + 1) (by omega)
        rw [← this, hk]
      refine ⟨S, ?_, frC_r S, by rw [e]; exact q1, by rw [e]; exact q2⟩
      rw [k_Planner_widen_48_eq, r3, if_neg (by rw [zle (by omega) (by omega)]; omega), if_pos (by rw [zle (by omega) (by omega)]; exact c1), k_Planner_widen_120_eq]
    · rw [k_Planner_widen_48_eq, r3, if_neg (by rw [zle (by omega) (by omega)]; omega), if_neg (by rw [zle (by omega) (by omega)]; exact c1), if_pos (by rw [zin (by omega)]; omega), ztn (by omega), rw', zL0, zL1]
      by_cases c2 : D 58 k = 0
      · rw [if_pos (by rw [c2]), zsub (by omega)]
        obtain ⟨S2, r, far, e2, f2, sn2, _⟩ := cp_fewest hd h1 (cdk_im hd (by omega)) hg5 hs5 hPB (NW_k hd (k := k) (by omega)) (nar_sym (wid D k)) (most := B - 1) (by omega)
        have hPB2 := PB0_f hd hPB f2
        have a1 : S2.1 52 11 = S.1 52 11 := f2.1 _ _ (by omega) (by omega) (by omega)
        have a2 : S2.1 52 12 = S.1 52 12 := f2.1 _ _ (by omega) (by omega) (by omega)
        rw [e2, bI_s]
        cases er : r with
        | none =>
          rw [er] at sn2
          refine same ?_ S2 (frE_C f2) hPB2 a1 a2
          show wstp D dk k _ = _
          unfold wstp
          rw [if_pos c2]
          cases ed : dk k with
          | none => rfl
          | some v =>
            refine if_neg (fun hw => ?_)
            have hk' := hdk k (by omega)
            rw [ed] at hk'
            exact sn2 v (by have := himp v hw hk'.2; omega) hk'.1.1
        | some v =>
          rw [er] at sn2
          have hk' := hdk k (by omega)
          have ed : dk k = some v := sn_one hk' (show sn 512 _ _ 30 _ (some v) from ⟨sn2.1, by have := sn2.2; omega⟩)
          have hv := sn2.2
          have e : wfd D dk b0 (k + 1) = (some v, some k) := by
            show wstp D dk k _ = _
            unfold wstp
            rw [if_pos c2, ed]
            exact if_pos (himp2 v (by omega))
          obtain ⟨S2', hS2'⟩ : ∃ S2', S2' = u1 (u1 S2 52 11 (nI k)) 52 12 (nI v) := ⟨_, rfl⟩
          have z : ∀ a j, ¬ (a = 52 ∧ (j = 11 ∨ j = 12)) → S2'.1 a j = S2.1 a j := fun a j hj => by rw [hS2', zuN (by omega), zuN (by omega)]
          have hPB2' : PB0 D (mpx D) (cdk D 60 3) (cdk D 61 3) S2' := ⟨RC_f hd hPB2.1 (fun a j q => z a j (by omega)), by rw [z _ _ (by omega)]; exact hPB2.2.1, by rw [z _ _ (by omega)]; exact hPB2.2.2.1, by rw [z _ _ (by omega)]; exact hPB2.2.2.2.1, by rw [z _ _ (by omega)]; exact hPB2.2.2.2.2.1, by rw [z _ _ (by omega)]; exact hPB2.2.2.2.2.2⟩
          obtain ⟨S3, e3, f3, p3, p4⟩ := ih (k + 1) S2' (by omega) hPB2' (by rw [e, hS2', zuN (by omega), zuS ⟨rfl, rfl⟩]; rfl) (by rw [e, hS2', zuS ⟨rfl, rfl⟩]; rfl)
          refine ⟨S3, ?_, frC_t (frE_C f2) (frC_t (fun a j q => z a j (by omega)) f3), p3, p4⟩
          rw [e] at e3
          have e3' : k_Planner_widen_48 (nI al) (nI v) (nI (k + 1)) S2' = some S3 := e3
          rw [eo, k_Planner_widen_91_eq, zL1, if_neg (by rw [zm_eq (by omega)]; simp), ← hS2', k_Planner_widen_114_eq, zL1, zadd, e3']
      · rw [if_neg (by rw [zeq (by omega) (by omega)]; exact c2)]
        exact same (by show wstp D dk k _ = _; unfold wstp; rw [if_neg c2]) S (frC_r S) hPB rfl rfl
theorem cw_widen (hd : okD D) (h1 : 1 ≤ D 55 7) (h3 : D 55 7 ≤ 3) {dk : Nat → Option Nat} (hdk : DK D dk) {b0 : Option Nat} (hb0 : sn 512 (EE D (nar D) (mpx D)) (cdk D 61 3) 30 (cdk D 60 3) b0) (hPB : PB0 D (mpx D) (cdk D 60 3) (cdk D 61 3) S) : ∃ S', f_Planner_widen S = some S' ∧ frC S S' ∧ S'.1 52 11 = eo (wfd D dk b0 (D 55 0)).2 ∧ S'.1 52 12 = C12 (wfd D dk b0 (D 55 0)) := by
  have hg5 := (cdk_3 hd (a := 61) (by omega)).1
  have hs5 := (cdk_3 hd (a := 60) (by omega)).1
  have hle := sn_le hb0
  obtain ⟨S1, hS1⟩ : ∃ S1, S1 = u1 (u1 S 52 11 (-nI 1)) 52 12 (-nI 1) := ⟨_, rfl⟩
  have z : ∀ a j, ¬ (a = 52 ∧ (j = 11 ∨ j = 12)) → S1.1 a j = S.1 a j := fun a j hj => by rw [hS1, zuN (by omega), zuN (by omega)]
  have hPB1 : PB0 D (mpx D) (cdk D 60 3) (cdk D 61 3) S1 := ⟨RC_f hd hPB.1 (fun a j q => z a j (by omega)), by rw [z _ _ (by omega)]; exact hPB.2.1, by rw [z _ _ (by omega)]; exact hPB.2.2.1, by rw [z _ _ (by omega)]; exact hPB.2.2.2.1, by rw [z _ _ (by omega)]; exact hPB.2.2.2.2.1, by rw [z _ _ (by omega)]; exact hPB.2.2.2.2.2⟩
  have fc1 : frC S S1 := fun a j q => z a j (by omega)
  obtain ⟨S2, r, far, e2, f2, sn2, _⟩ := cp_fewest hd h1 (cdk_im hd (by omega)) hg5 hs5 hPB1 (NW_0 hd) (nar_sym D) (most := 30) (by omega)
  have er : r = b0 := sn_one sn2 hb0
  rw [er] at e2
  have hPB2 := PB0_f hd hPB1 f2
  obtain ⟨S3, ra, fara, e3, f3, sn3, _⟩ := cp_fewest hd h1 (cdk_im hd (by omega)) hg5 hs5 hPB2 (NW_12 D) (fun _ _ => rfl) (most := 30) (by omega)
  have hPB3 := PB0_f hd hPB2 f3
  have hle3 := sn_le sn3
  have hall : ∀ j v, j < D 55 0 → dk j = some v → ∃ d, ra = some d ∧ d ≤ v := fun j v hj ev => by
    have hk' := hdk j hj
    rw [ev] at hk'
    have hl := lvSub (E' := EE D (fun _ _ => false) (mpx D)) (fun p q hE => EE_sub (nw := nar (wid D j)) (nw' := fun _ _ => false) (fun a b x => by cases x) p q hE) v _ hk'.1.1
    cases ea : ra with
    | none => rw [ea] at sn3; exact absurd hl (sn3 v hk'.2)
    | some d =>
      rw [ea] at sn3
      refine ⟨d, rfl, ?_⟩
      by_cases c : d ≤ v
      · exact c
      · exact absurd hl (sn3.1.2 v (by omega))
  have c11 : S3.1 52 11 = -nI 1 := by rw [f3.1 _ _ (by omega) (by omega) (by omega), f2.1 _ _ (by omega) (by omega) (by omega), hS1, zuN (by omega), zuS ⟨rfl, rfl⟩]
  have c12 : S3.1 52 12 = -nI 1 := by rw [f3.1 _ _ (by omega) (by omega) (by omega), f2.1 _ _ (by omega) (by omega) (by omega), hS1, zuS ⟨rfl, rfl⟩]
  have fc : frC S S3 := frC_t fc1 (frC_t (frE_C f2) (frE_C f3))
  have head : f_Planner_widen S = if eo ra = -nI 1 then some S3 else if eo b0 = -nI 1 then k_Planner_widen_44 (eo ra) (nI 31) S3 else k_Planner_widen_44 (eo ra) (eo b0) S3 := by
    rw [f_Planner_widen_eq, zL1, zL12, zL30, zL31, ← hS1, e2, bI_s, e3, bI_s]
  rw [head]
  cases ea : ra with
  | none =>
    have e : wfd D dk b0 (0 + D 55 0) = wfd D dk b0 0 := wfd_end (n := D 55 0) (fun j v _ hj ev _ => by
      obtain ⟨d, h, _⟩ := hall j v hj ev
      rw [ea] at h; cases h) (D 55 0) (by omega)
    rw [Nat.zero_add] at e
    exact ⟨S3, by rw [if_pos (show eo none = -nI 1 from rfl)], fc, by rw [e]; exact c11, by rw [e]; exact c12⟩
  | some al =>
    have hal := hle3 al ea
    have hall' : ∀ j v, j < D 55 0 → dk j = some v → al ≤ v := fun j v hj ev => by
      obtain ⟨d, h, h2⟩ := hall j v hj ev
      rw [ea] at h; cases h; exact h2
    obtain ⟨S4, e4, f4, p4, p5⟩ := cw_loop hd h1 h3 hdk hle hal hall' (D 55 0) 0 S3 (by omega) hPB3 c11 c12
    refine ⟨S4, ?_, frC_t fc f4, p4, p5⟩
    rw [eo, if_neg (by rw [zm_eq (by omega)]; simp)]
    have e4' : k_Planner_widen_48 (nI al) (nI (bN 31 b0)) (nI 0) S3 = some S4 := e4
    cases eb : b0 with
    | none =>
      rw [eb] at e4'
      rw [if_pos (show eo none = -nI 1 from rfl), k_Planner_widen_44_eq]
      exact e4'
    | some v =>
      have hv := hle v eb
      rw [eb] at e4'
      rw [eo, if_neg (by rw [zm_eq (by omega)]; simp), k_Planner_widen_44_eq]
      exact e4'
end WID
