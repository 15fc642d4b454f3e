/-! free mornings: those of F pass all; whom they meet tells which loads do -/
theorem fo_62 {q : Nat → Bool} {P : Nat → Nat → Bool} : ∀ m t (D D' : DD), (∀ a, a ≠ 62 → D' a = D a) → fo q P m t D' = fo q P m t D
  | 0, _, _, _, _ => rfl
  | m + 1, t, D, D', h => by
    have e7 : D' 55 = D 55 := h 55 (by omega)
    have ov' : ov D' = ov D := by
      unfold ov
      rw [e7]
      have : ∀ n, ovk D' n = ovk D n := by
        intro n
        induction n with
        | zero => rfl
        | succ n ih => unfold ovk; rw [ih, h 64 (by omega), h 65 (by omega)]
      exact this _
    have wn' : wn D' = wn D := by
      funext i
      unfold wn
      rw [h 65 (by omega), h 64 (by omega), h 63 (by omega), h 60 (by omega)]
    have nr' : ∀ a b, nar D' a b = nar D a b := fun a b => nar_row e7 (h 56 (by omega)) (h 57 (by omega)) (h 58 (by omega)) a b
    have lay' : ∀ w, lay D' P w = lay D P w := by
      intro w
      unfold lay
      rw [e7]
      congr 1
      funext i j
      unfold cl mt
      rw [e7, h 60 (by omega)]
      simp only [nr']
    have go' : ∀ a, a ≠ 62 → go D' P a = go D P a := by
      intro a ha
      unfold go
      rw [wn', lay']
      funext i
      by_cases h0 : a = 60
      · subst h0; rw [gm_60, gm_60, e7, h 60 (by omega)]
      · by_cases h5 : a = 65
        · subst h5; rw [gm_65, gm_65, e7, h 65 (by omega), h 64 (by omega)]
        · rw [gm_row h0 h5, gm_row h0 h5, h a ha]
    unfold fo
    rw [ov', wn', lay', fo_62 m (t + 1) (go D P) (go D' P) go']
theorem and_p2 (g w : Nat) : (g &&& 2 ^ w ≠ 0) ↔ g.testBit w = true := by
  constructor
  · intro h
    obtain ⟨i, hi⟩ := Nat.exists_testBit_of_ne_zero h
    rw [Nat.testBit_and, Nat.testBit_two_pow, Bool.and_eq_true, decide_eq_true_eq] at hi
    rw [hi.2]; exact hi.1
  · intro h e
    have : (g &&& 2 ^ w).testBit w = true := by rw [Nat.testBit_and, Nat.testBit_two_pow, h]; simp
    rw [e, Nat.zero_testBit] at this
    cases this
theorem mt_irr {D : DD} (h : okN D) (w : Nat → Nat) (i : Nat) : mt D w i i = false := by
  unfold mt
  rw [nar_irr h]
  simp
theorem me_sym {P : Nat → Nat → Bool} : ∀ m D i j, me P m D i j = me P m D j i
  | 0, _, _, _ => rfl
  | m + 1, D, i, j => by unfold me; rw [mt_sym, me_sym m (go D P) i j]
theorem me_irr {P : Nat → Nat → Bool} : ∀ m D i, okN D → me P m D i i = false
  | 0, _, _, _ => rfl
  | m + 1, D, i, h => by
    unfold me
    rw [mt_irr h, me_irr m (go D P) i (go_okN h P)]
    simp
theorem me_lt {P : Nat → Nat → Bool} : ∀ m D i j, me P m D i j = true → i < D 55 7 ∧ j < D 55 7
  | 0, _, _, _, h => by simp [me] at h
  | m + 1, D, i, j, h => by
    unfold me at h
    split at h
    · cases h
    · rw [Bool.or_eq_true] at h
      rcases h with h | h
      · have := mt_iff.mp h; exact ⟨this.1, this.2.1⟩
      · have := me_lt m (go D P) i j h
        rw [go_row (by omega) (by omega)] at this
        exact this
/-- one alone is free -/
theorem free_one {P P' : Nat → Nat → Bool} {w W : Nat} (hsym : ∀ i j, P i j = P j i) (hP : ∀ i j, i < W → j < W → i ≠ w → j ≠ w → P i j = P' i j) (hw : ∀ i, P' w i = true ∧ P' i w = true) : ∀ m t D, okN D → D 55 7 = W → (fo (qs (2 ^ w)) P m t D = none ↔ ∀ j, me P' m D w j = true → P w j = true)
  | 0, t, D, hn, hW => by simp [fo, me]
  | m + 1, t, D, hn, hW => by
    rcases Bool.eq_false_or_eq_true (ov D) with ho | ho
    · simp [fo, me, ho]
    · by_cases hA : ∀ j, mt D (wn D) w j = true → P w j = true
      · have hcl : ∀ i j, i < j → j < D 55 7 → cl D P (wn D) i j = cl D P' (wn D) i j := by
          intro i j hij hj
          unfold cl
          by_cases ei : i = w
          · subst ei
            cases hm : mt D (wn D) i j
            · rfl
            · rw [hA j hm, (hw j).1]
          · by_cases ej : j = w
            · subst ej
              cases hm : mt D (wn D) i j
              · rfl
              · rw [hsym i j, hA i (by rw [mt_sym]; exact hm), (hw i).2]
            · rw [hP i j (by omega) (by omega) ei ej]
        have hlay : lay D P (wn D) = lay D P' (wn D) := lb_cong hcl
        have hgo : go D P = go D P' := by unfold go; rw [hlay]
        have hbit : (lay D P (wn D)).2.2.testBit w = false := by
          cases hb : (lay D P (wn D)).2.2.testBit w
          · rfl
          · obtain ⟨a, b, hab, hb1, hc, he⟩ := lb_bit.mp hb
            rw [hcl a b hab hb1] at hc
            have hc2 := (cl_iff.mp hc).2
            rcases he with he | he
            · rw [he, (hw b).1] at hc2; cases hc2
            · rw [he, (hw a).2] at hc2; cases hc2
        have hq : qs (2 ^ w) (lay D P (wn D)).2.2 = false := by
          unfold qs
          rw [decide_eq_false_iff_not, and_p2, hbit]; simp
        have e1 : fo (qs (2 ^ w)) P (m + 1) t D = fo (qs (2 ^ w)) P m (t + 1) (go D P') := by
          rw [fo, ho, hq, hgo]; simp
        have e2 : ∀ j, me P' (m + 1) D w j = (mt D (wn D) w j || me P' m (go D P') w j) := fun j => by rw [me, ho]; simp
        rw [e1, free_one hsym hP hw m (t + 1) (go D P') (go_okN hn P') (by rw [go_row (by omega) (by omega)]; exact hW)]
        constructor
        · intro h j hj
          rw [e2, Bool.or_eq_true] at hj
          rcases hj with hj | hj
          · exact hA j hj
          · exact h j hj
        · intro h j hj
          exact h j (by rw [e2, hj]; simp)
      · have hB : ∃ j, mt D (wn D) w j = true ∧ P w j = false := by
          by_cases q : ∃ j, mt D (wn D) w j = true ∧ P w j = false
          · exact q
          · refine absurd (fun j hj => ?_) hA
            cases hp : P w j
            · exact absurd ⟨j, hj, hp⟩ q
            · rfl
        obtain ⟨j, hj, hp⟩ := hB
        have hlt := mt_iff.mp hj
        have hne : w ≠ j := fun e => by rw [← e, mt_irr hn] at hj; cases hj
        have hbit : (lay D P (wn D)).2.2.testBit w = true := by
          refine lb_bit.mpr ?_
          by_cases c : w < j
          · exact ⟨w, j, c, hlt.2.1, cl_iff.mpr ⟨hj, hp⟩, Or.inl rfl⟩
          · exact ⟨j, w, by omega, hlt.1, cl_iff.mpr ⟨by rw [mt_sym]; exact hj, by rw [hsym]; exact hp⟩, Or.inr rfl⟩
        have hq : qs (2 ^ w) (lay D P (wn D)).2.2 = true := by
          unfold qs
          rw [decide_eq_true_eq, and_p2]; exact hbit
        constructor
        · intro h
          rw [fo, ho, hq] at h
          simp at h
        · intro h
          have := h j (by rw [me, ho, hj]; simp)
          rw [hp] at this
          cases this
/-- all of F are free -/
theorem free_all {P P' : Nat → Nat → Bool} {F : Nat → Bool} {W : Nat} (hsym : ∀ i j, P i j = P j i) (hP : ∀ i j, i < W → j < W → F i = false → F j = false → P i j = P' i j) (hF : ∀ i j, F i = true ∨ F j = true → P' i j = true) : ∀ m t D, okN D → D 55 7 ≤ 5 → D 55 7 = W → (fo (qs 31) P m t D = none ↔ ga P' m D = 0 ∧ ∀ i j, (F i = true ∨ F j = true) → me P' m D i j = true → P i j = true)
  | 0, t, D, hn, h5, hW => by simp [fo, me, ga]
  | m + 1, t, D, hn, h5, hW => by
    rcases Bool.eq_false_or_eq_true (ov D) with ho | ho
    · simp [fo, me, ga, ho]
    · have hq0 : qs 31 (lay D P (wn D)).2.2 = decide ((lay D P (wn D)).1 ≠ 0) := lay_q31 h5
      have hF' : ∀ i j, P' i j = false → F i = false ∧ F j = false := by
        intro i j h
        refine ⟨?_, ?_⟩
        · cases e : F i
          · rfl
          · rw [hF i j (Or.inl e)] at h; cases h
        · cases e : F j
          · rfl
          · rw [hF i j (Or.inr e)] at h; cases h
      have e2 : ∀ i j, me P' (m + 1) D i j = (mt D (wn D) i j || me P' m (go D P') i j) := fun i j => by rw [me, ho]; simp
      have e3 : ga P' (m + 1) D = (lay D P' (wn D)).1 + ga P' m (go D P') := by rw [ga, ho]; simp
      by_cases hA : (lay D P' (wn D)).1 = 0 ∧ ∀ i j, (F i = true ∨ F j = true) → mt D (wn D) i j = true → P i j = true
      · have hno' : ∀ i j, i < j → j < D 55 7 → cl D P' (wn D) i j = false := by
          intro i j hij hj
          cases e : cl D P' (wn D) i j
          · rfl
          · have := lb_pos.mpr ⟨i, j, hij, hj, e⟩
            have h0 := hA.1
            unfold lay at h0
            omega
        have hno : ∀ i j, i < j → j < D 55 7 → cl D P (wn D) i j = false := by
          intro i j hij hj
          unfold cl
          cases hm : mt D (wn D) i j
          · rfl
          · by_cases hf : F i = true ∨ F j = true
            · rw [hA.2 i j hf hm]; rfl
            · have f1 : F i = false := by
                cases e : F i
                · rfl
                · exact absurd (Or.inl e) hf
              have f2 : F j = false := by
                cases e : F j
                · rfl
                · exact absurd (Or.inr e) hf
              have := hno' i j hij hj
              unfold cl at this
              rw [hm] at this
              rw [hP i j (by omega) (by omega) f1 f2]; exact this
        have hl : lay D P (wn D) = (0, (0, 0), 0) := lb_no hno
        have hl' : lay D P' (wn D) = (0, (0, 0), 0) := lb_no hno'
        have hgo : go D P = go D P' := by unfold go; rw [hl, hl']
        have e1 : fo (qs 31) P (m + 1) t D = fo (qs 31) P m (t + 1) (go D P') := by
          rw [fo, ho, hq0, hl, hgo]; simp
        rw [e1, e3, hl', free_all hsym hP hF m (t + 1) (go D P') (go_okN hn P') (by rw [go_row (by omega) (by omega)]; exact h5) (by rw [go_row (by omega) (by omega)]; exact hW)]
        simp only [Nat.zero_add]
        constructor
        · rintro ⟨h1, h2⟩
          refine ⟨h1, fun i j hf hm => ?_⟩
          rw [e2, Bool.or_eq_true] at hm
          rcases hm with hm | hm
          · exact hA.2 i j hf hm
          · exact h2 i j hf hm
        · rintro ⟨h1, h2⟩
          exact ⟨h1, fun i j hf hm => h2 i j hf (by rw [e2, hm]; simp)⟩
      · have hcl : ∃ i j, i < j ∧ j < D 55 7 ∧ cl D P (wn D) i j = true := by
          by_cases h0 : (lay D P' (wn D)).1 = 0
          · have hB : ∃ i j, (F i = true ∨ F j = true) ∧ mt D (wn D) i j = true ∧ P i j = false := by
              by_cases q : ∃ i j, (F i = true ∨ F j = true) ∧ mt D (wn D) i j = true ∧ P i j = false
              · exact q
              · refine absurd ⟨h0, fun i j hf hm => ?_⟩ hA
                cases hp : P i j
                · exact absurd ⟨i, j, hf, hm, hp⟩ q
                · rfl
            obtain ⟨i, j, hf, hm, hp⟩ := hB
            have hlt := mt_iff.mp hm
            have hne : i ≠ j := fun e => by rw [e, mt_irr hn] at hm; cases hm
            by_cases c : i < j
            · exact ⟨i, j, c, hlt.2.1, cl_iff.mpr ⟨hm, hp⟩⟩
            · exact ⟨j, i, by omega, hlt.1, cl_iff.mpr ⟨by rw [mt_sym]; exact hm, by rw [hsym]; exact hp⟩⟩
          · obtain ⟨i, j, hij, hj, hc⟩ := lb_pos.mp (Nat.pos_of_ne_zero h0)
            have hc2 := cl_iff.mp hc
            obtain ⟨f1, f2⟩ := hF' i j hc2.2
            exact ⟨i, j, hij, hj, cl_iff.mpr ⟨hc2.1, by rw [hP i j (by omega) (by omega) f1 f2]; exact hc2.2⟩⟩
        have hpos : 0 < (lay D P (wn D)).1 := lb_pos.mpr hcl
        have hq : qs 31 (lay D P (wn D)).2.2 = true := by
          rw [hq0, decide_eq_true_eq]; omega
        constructor
        · intro h
          rw [fo, ho, hq] at h
          simp at h
        · rintro ⟨h1, h2⟩
          refine absurd ⟨by omega, fun i j hf hm => h2 i j hf (by rw [e2, hm]; simp)⟩ hA
/-! sums -/
def sm (f : Nat → Nat) : Nat → Nat
  | 0 => 0
  | n + 1 => sm f n + f n
theorem sm_cong {f g : Nat → Nat} : ∀ {n : Nat}, (∀ k, k < n → f k = g k) → sm f n = sm g n
  | 0, _ => rfl
  | n + 1, h => by unfold sm; rw [sm_cong (fun k hk => h k (by omega)), h n (by omega)]
theorem sm_zero {f : Nat → Nat} : ∀ {n : Nat}, (∀ k, k < n → f k = 0) → sm f n = 0
  | 0, _ => rfl
  | n + 1, h => by unfold sm; rw [sm_zero (fun k hk => h k (by omega)), h n (by omega)]
theorem sm_add (f g : Nat → Nat) : ∀ n, sm (fun k => f k + g k) n = sm f n + sm g n
  | 0 => rfl
  | n + 1 => by unfold sm; rw [sm_add f g n]; omega
theorem sm_swap (f : Nat → Nat → Nat) (m : Nat) : ∀ n, sm (fun i => sm (fun j => f i j) m) n = sm (fun j => sm (fun i => f i j) n) m
  | 0 => (sm_zero (fun _ _ => rfl)).symm
  | n + 1 => by
    rw [sm, sm_swap f m n, ← sm_add]
    rfl
theorem sm_split (f : Nat → Nat) (a : Nat) : ∀ b, sm f (a + b) = sm f a + sm (fun k => f (a + k)) b
  | 0 => rfl
  | b + 1 => by
    rw [← Nat.add_assoc, sm, sm_split f a b, sm]; omega
theorem sm_ten (f : Nat → Nat) : ∀ n, sm f (10 * n) = sm (fun q => sm (fun r => f (10 * q + r)) 10) n
  | 0 => rfl
  | n + 1 => by
    rw [Nat.mul_add, Nat.mul_one, sm_split, sm_ten f n, sm]
    rfl
theorem sm_le {f : Nat → Nat} {c : Nat} : ∀ {n : Nat}, (∀ k, k < n → f k ≤ c) → sm f n ≤ n * c
  | 0, _ => by simp [sm]
  | n + 1, h => by
    have h1 := sm_le (f := f) (c := c) (n := n) (fun k hk => h k (by omega))
    have h2 := h n (by omega)
    unfold sm
    rw [Nat.succ_mul]; omega
