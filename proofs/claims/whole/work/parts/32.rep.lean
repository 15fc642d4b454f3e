/-! the document's state as plain numbers: D a k is what place k of the model's cell a holds -/
abbrev DD : Type := Nat → Nat → Nat
def dS (D : DD) (a : Nat) (f : Nat → Nat) : DD := fun b => if b = a then f else D b
def dU (f : Nat → Nat) (k v : Nat) : Nat → Nat := fun j => if j = k then v else f j
theorem dS_s {D : DD} {a : Nat} {f : Nat → Nat} : dS D a f a = f := if_pos rfl
theorem dS_n {D : DD} {a b : Nat} {f : Nat → Nat} (h : ¬ b = a) : dS D a f b = D b := if_neg h
theorem dU_s {f : Nat → Nat} {j k v : Nat} (h : j = k) : dU f k v j = v := if_pos h
theorem dU_n {f : Nat → Nat} {j k v : Nat} (h : ¬ j = k) : dU f k v j = f j := if_neg h
/-- the model's own cells hold D -/
def RM (D : DD) (S : Mem) : Prop := ∀ a k, ((56 ≤ a ∧ a ≤ 67) ∨ (78 ≤ a ∧ a ≤ 83) ∨ (a = 55 ∧ (k = 0 ∨ k = 4 ∨ k = 5 ∨ k = 6 ∨ k = 7 ∨ k = 16 ∨ k = 17 ∨ k = 18 ∨ k = 42 ∨ k = 43 ∨ k = 44 ∨ k = 45))) → S.1 a k = nI (D a k)
theorem RM.r {D : DD} {S : Mem} (h : RM D S) : ∀ a k, ((56 ≤ a ∧ a ≤ 67) ∨ (78 ≤ a ∧ a ≤ 83) ∨ (a = 55 ∧ (k = 0 ∨ k = 4 ∨ k = 5 ∨ k = 6 ∨ k = 7 ∨ k = 16 ∨ k = 17 ∨ k = 18 ∨ k = 42 ∨ k = 43 ∨ k = 44 ∨ k = 45))) → S.1 a k = nI (D a k) := h
theorem RM_fr {D : DD} {S S' : Mem} (h : RM D S) (e : ∀ a k, ((56 ≤ a ∧ a ≤ 67) ∨ (78 ≤ a ∧ a ≤ 83) ∨ (a = 55 ∧ (k = 0 ∨ k = 4 ∨ k = 5 ∨ k = 6 ∨ k = 7 ∨ k = 16 ∨ k = 17 ∨ k = 18 ∨ k = 42 ∨ k = 43 ∨ k = 44 ∨ k = 45))) → S'.1 a k = S.1 a k) : RM D S' := fun a k q => by rw [e a k q, h a k q]
/-- one number written -/
theorem RM_u1 {D : DD} {S : Mem} (h : RM D S) {a k v : Nat} : RM (dS D a (dU (D a) k v)) (u1 S a k (nI v)) := by
  intro b j q
  by_cases hb : b = a
  · subst hb
    rw [dS_s]
    by_cases hj : j = k
    · rw [zuS ⟨rfl, hj⟩, dU_s hj]
    · rw [zuN (fun w => hj w.2), dU_n hj, h b j q]
  · rw [zuN (fun w => hb w.1), dS_n hb, h b j q]
/-- a number of no matter written -/
theorem RM_x {D : DD} {S : Mem} (h : RM D S) {a k : Nat} {x : Int32} (q : ¬ ((56 ≤ a ∧ a ≤ 67) ∨ (78 ≤ a ∧ a ≤ 83) ∨ (a = 55 ∧ (k = 0 ∨ k = 4 ∨ k = 5 ∨ k = 6 ∨ k = 7 ∨ k = 16 ∨ k = 17 ∨ k = 18 ∨ k = 42 ∨ k = 43 ∨ k = 44 ∨ k = 45)))) : RM D (u1 S a k x) := by
  intro b j w
  rw [zuN (fun u => q (by rw [← u.1, ← u.2]; exact w)), h b j w]
theorem RM_l {D : DD} {S : Mem} (h : RM D S) {a k : Nat} {x : Int64} : RM D (u2 S a k x) := fun b j w => h b j w
/-! lanes -/
def eo : Option Nat → Int32
  | none => -nI 1
  | some k => nI k
def lnf (D : DD) (a b : Nat) : Nat → Nat → Option Nat
  | 0, _ => none
  | m + 1, k => if (D 56 k = a ∧ D 57 k = b) ∨ (D 56 k = b ∧ D 57 k = a) then some k else lnf D a b m (k + 1)
def ln (D : DD) (a b : Nat) : Option Nat := lnf D a b (D 55 0) 0
theorem lnf_some {D : DD} {a b : Nat} : ∀ {m k q : Nat}, lnf D a b m k = some q → k ≤ q ∧ q < k + m ∧ ((D 56 q = a ∧ D 57 q = b) ∨ (D 56 q = b ∧ D 57 q = a))
  | 0, _, _, h => by simp [lnf] at h
  | m + 1, k, q, h => by
    unfold lnf at h
    split at h
    · next c => cases h; exact ⟨by omega, by omega, c⟩
    · obtain ⟨h1, h2, h3⟩ := lnf_some h
      exact ⟨by omega, by omega, h3⟩
theorem lnf_none {D : DD} {a b : Nat} : ∀ {m k : Nat}, lnf D a b m k = none → ∀ q, k ≤ q → q < k + m → ¬ ((D 56 q = a ∧ D 57 q = b) ∨ (D 56 q = b ∧ D 57 q = a))
  | 0, _, _, q, h1, h2 => by omega
  | m + 1, k, h, q, h1, h2 => by
    unfold lnf at h
    split at h
    · cases h
    · next c =>
      by_cases e : q = k
      · rw [e]; exact c
      · exact lnf_none h q (by omega) (by omega)
theorem ln_some {D : DD} {a b q : Nat} (h : ln D a b = some q) : q < D 55 0 ∧ ((D 56 q = a ∧ D 57 q = b) ∨ (D 56 q = b ∧ D 57 q = a)) := by
  obtain ⟨_, h2, h3⟩ := lnf_some h
  exact ⟨by omega, h3⟩
theorem ln_none {D : DD} {a b : Nat} (h : ln D a b = none) : ∀ q, q < D 55 0 → ¬ ((D 56 q = a ∧ D 57 q = b) ∨ (D 56 q = b ∧ D 57 q = a)) := fun q hq => lnf_none h q (by omega) (by omega)
theorem lnf_sym (D : DD) (a b : Nat) : ∀ m k, lnf D a b m k = lnf D b a m k
  | 0, _ => rfl
  | m + 1, k => by
    unfold lnf
    rw [lnf_sym D a b m (k + 1)]
    by_cases c : (D 56 k = a ∧ D 57 k = b) ∨ (D 56 k = b ∧ D 57 k = a)
    · rw [if_pos c, if_pos (Or.symm c)]
    · rw [if_neg c, if_neg (fun q => c (Or.symm q))]
theorem ln_sym (D : DD) (a b : Nat) : ln D a b = ln D b a := lnf_sym D a b _ _
/-- joined -/
def adj (D : DD) (a b : Nat) : Bool := (ln D a b).isSome
/-- joined by a lane that is not wide -/
def nar (D : DD) (a b : Nat) : Bool := match ln D a b with
  | none => false
  | some k => decide (D 58 k = 0)
theorem adj_sym (D : DD) (a b : Nat) : adj D a b = adj D b a := by unfold adj; rw [ln_sym]
theorem nar_sym (D : DD) (a b : Nat) : nar D a b = nar D b a := by unfold nar; rw [ln_sym]
def okN (D : DD) : Prop := D 55 0 ≤ 12 ∧ D 55 4 ≤ 1 ∧ D 55 5 ≤ 1 ∧ (∀ k, k < D 55 0 → D 56 k < 8 ∧ D 57 k < 8 ∧ D 56 k ≠ D 57 k ∧ D 58 k ≤ 1) ∧ (∀ j k, j < k → k < D 55 0 → ¬ ((D 56 j = D 56 k ∧ D 57 j = D 57 k) ∨ (D 56 j = D 57 k ∧ D 57 j = D 56 k)))
theorem ln_irr {D : DD} (h : okN D) (a : Nat) : ln D a a = none := by
  cases e : ln D a a with
  | none => rfl
  | some q =>
    obtain ⟨h1, h2⟩ := ln_some e
    have := (h.2.2.2.1 q h1).2.2.1
    omega
theorem nar_irr {D : DD} (h : okN D) (a : Nat) : nar D a a = false := by unfold nar; rw [ln_irr h]
theorem ln_lt {D : DD} {a b q : Nat} (h : okN D) (e : ln D a b = some q) : a < 8 ∧ b < 8 ∧ a ≠ b ∧ q < 12 ∧ D 58 q ≤ 1 := by
  obtain ⟨h1, h2⟩ := ln_some e
  have h3 := h.2.2.2.1 q h1
  have h4 := h.1
  omega
theorem nar_adj {D : DD} {a b : Nat} (h : nar D a b = true) : adj D a b = true := by
  unfold nar at h
  unfold adj
  cases e : ln D a b with
  | none => rw [e] at h; cases h
  | some q => rfl
/-- a step of a minute: to stay, or along a lane -/
def stp (D : DD) (a b : Nat) : Prop := a = b ∨ adj D a b = true
/-- how many of the corners below m one can step to from a -/
def sc (D : DD) (a : Nat) : Nat → Nat
  | 0 => 0
  | m + 1 => sc D a m + (if decide (a = m) || adj D a m then 1 else 0)
theorem sc_le (D : DD) (a : Nat) : ∀ m, sc D a m ≤ m
  | 0 => Nat.le_refl 0
  | m + 1 => by
    have := sc_le D a m
    unfold sc
    split <;> omega
/-! walkers -/
def okW (D : DD) : Prop := D 55 7 ≤ 5 ∧ ∀ i, i < D 55 7 → D 59 i ≤ 3 ∧ D 60 i < 8 ∧ D 61 i < 8 ∧ D 62 i ≤ 20 ∧ D 64 i ≤ 20 ∧ D 65 i ≤ D 64 i ∧ (∀ k, k < D 64 i → D 63 (20 * i + k) < 8) ∧ (D 65 i < D 64 i → stp D (D 60 i) (D 63 (20 * i + D 65 i))) ∧ (∀ k, k + 1 < D 64 i → stp D (D 63 (20 * i + k)) (D 63 (20 * i + k + 1)))
def okS (D : DD) : Prop := D 55 18 ≤ 50 ∧ (∀ k, k < D 55 18 → 1 ≤ D 67 k ∧ D 67 k ≤ 126) ∧ (∀ c, c < 8 → D 66 c ≤ 99) ∧ D 55 17 ≤ 40 ∧ (D 55 6 = 0 → D 55 0 = 0 ∧ D 55 7 = 0 ∧ D 55 42 = 0) ∧ D 55 43 ≤ D 55 6 ∧ D 55 42 ≤ 1
def hasK (D : DD) : Prop := D 55 42 = 1 ∧ D 55 43 = D 55 6
def okK (D : DD) : Prop := hasK D → D 55 44 ≤ D 55 7 ∧ 0 ≤ D 55 45 ∧ (∀ c, c < 8 → D 83 c ≤ 99) ∧ ∀ i, i < D 55 44 → D 78 i < 8 ∧ D 79 i ≤ 20 ∧ D 80 i ≤ 20 ∧ D 81 i ≤ D 80 i ∧ (∀ k, k < D 80 i → D 82 (20 * i + k) < 8) ∧ (D 81 i < D 80 i → stp D (D 78 i) (D 82 (20 * i + D 81 i))) ∧ (∀ k, k + 1 < D 80 i → stp D (D 82 (20 * i + k)) (D 82 (20 * i + k + 1)))
/-! what the class's cells hold -/
def rPg (D : DD) (S : Mem) : Prop := S.1 1 1 = nI (D 55 18) ∧ ∀ k, k < D 55 18 → S.1 2 k = nI (D 67 k)
def rNt (D : DD) (S : Mem) : Prop := S.1 7 3 = nI (D 55 0) ∧ S.1 7 4 = nI (D 55 4) ∧ S.1 7 5 = nI (D 55 5) ∧ (∀ k, k < D 55 0 → S.1 8 k = nI (D 56 k)) ∧ (∀ k, k < D 55 0 → S.1 9 k = nI (D 57 k)) ∧ (∀ k, k < D 55 0 → S.1 10 k = nI (D 58 k)) ∧ (∀ a b, a < 8 → b < 8 → S.1 11 (8 * a + b) = eo (ln D a b)) ∧ (D 55 6 ≠ 0 → ∀ a, a < 8 → S.1 13 a = nI (sc D a 8)) ∧ (D 55 6 ≠ 0 → ∀ a b, a < 8 → b < 8 → stp D a b → S.1 12 (8 * a + sc D a b) = nI b)
def rTw (D : DD) (S : Mem) : Prop := S.1 14 1 = nI (D 55 7) ∧ (∀ i, i < D 55 7 → S.1 (17 + 2 * i) 0 = nI (D 59 i)) ∧ (∀ i, i < D 55 7 → S.1 (17 + 2 * i) 1 = nI (D 60 i)) ∧ (∀ i, i < D 55 7 → S.1 (17 + 2 * i) 2 = nI (D 61 i)) ∧ (∀ i, i < D 55 7 → S.1 (17 + 2 * i) 3 = nI (D 62 i)) ∧ (∀ i, i < D 55 7 → S.1 (17 + 2 * i) 5 = nI (D 64 i)) ∧ (∀ i, i < D 55 7 → S.1 (17 + 2 * i) 6 = nI (D 65 i)) ∧ (∀ i k, i < D 55 7 → k < D 64 i → S.1 (18 + 2 * i) k = nI (D 63 (20 * i + k)))
def rHp (D : DD) (S : Mem) : Prop := S.1 14 3 = nI (D 55 16) ∧ ∀ c, c < 8 → S.1 16 c = nI (D 66 c)
def rTp (D : DD) (S : Mem) : Prop := S.1 0 8 = nI (if D 55 6 = 0 then 0 else 1) ∧ (hasK D → S.1 0 9 = nI 1) ∧ (¬ hasK D → S.1 0 9 = nI 0) ∧ S.1 0 10 = nI (D 55 6) ∧ S.1 0 11 = nI (D 55 17)
def rKp (D : DD) (S : Mem) : Prop := hasK D → S.1 27 1 = nI (D 55 44) ∧ S.1 27 3 = nI (D 55 45) ∧ (∀ c, c < 8 → S.1 29 c = nI (D 83 c)) ∧ (∀ i, i < D 55 44 → S.1 (30 + 2 * i) 0 = nI (D 59 i)) ∧ (∀ i, i < D 55 44 → S.1 (30 + 2 * i) 1 = nI (D 78 i)) ∧ (∀ i, i < D 55 44 → S.1 (30 + 2 * i) 2 = nI (D 61 i)) ∧ (∀ i, i < D 55 44 → S.1 (30 + 2 * i) 3 = nI (D 79 i)) ∧ (∀ i, i < D 55 44 → S.1 (30 + 2 * i) 5 = nI (D 80 i)) ∧ (∀ i, i < D 55 44 → S.1 (30 + 2 * i) 6 = nI (D 81 i)) ∧ (∀ i k, i < D 55 44 → k < D 80 i → S.1 (31 + 2 * i) k = nI (D 82 (20 * i + k)))
def RC (D : DD) (S : Mem) : Prop := rPg D S ∧ rNt D S ∧ rTw D S ∧ rHp D S ∧ rTp D S ∧ rKp D S
/-- the class's own cells that last, but for the scratch ones -/
def frC (S S' : Mem) : Prop := ∀ a k, a < 3 ∨ (6 < a ∧ a < 40) ∨ 54 < a → S'.1 a k = S.1 a k
theorem frC_r (S : Mem) : frC S S := fun _ _ _ => rfl
theorem frC_t {S S' S'' : Mem} (h : frC S S') (h2 : frC S' S'') : frC S S'' := fun a k q => by rw [h2 a k q, h a k q]
theorem rPg_f {D : DD} {S S' : Mem} (h : rPg D S) (e : ∀ a k, a = 1 ∨ a = 2 → S'.1 a k = S.1 a k) : rPg D S' := by
  refine ⟨?_, fun k hk => ?_⟩
  · rw [e _ _ (by omega)]; exact h.1
  · rw [e _ _ (by omega)]; exact h.2 k hk
theorem rNt_f {D : DD} {S S' : Mem} (h : rNt D S) (e : ∀ a k, 7 ≤ a ∧ a ≤ 13 → S'.1 a k = S.1 a k) : rNt D S' := by
  obtain ⟨h1, h2, h3, h4, h5, h6, h7, h8, h9⟩ := h
  refine ⟨?_, ?_, ?_, fun k hk => ?_, fun k hk => ?_, fun k hk => ?_, fun a b ha hb => ?_, fun hz a ha => ?_, fun hz a b ha hb hs => ?_⟩ <;> rw [e _ _ (by omega)]
  · exact h1
  · exact h2
  · exact h3
  · exact h4 k hk
  · exact h5 k hk
  · exact h6 k hk
  · exact h7 a b ha hb
  · exact h8 hz a ha
  · exact h9 hz a b ha hb hs
theorem rTw_f {D : DD} {S S' : Mem} (hw : D 55 7 ≤ 5) (h : rTw D S) (e : ∀ a k, (a = 14 ∧ k = 1) ∨ (17 ≤ a ∧ a ≤ 26) → S'.1 a k = S.1 a k) : rTw D S' := by
  obtain ⟨h1, h2, h3, h4, h5, h6, h7, h8⟩ := h
  refine ⟨?_, fun i hi => ?_, fun i hi => ?_, fun i hi => ?_, fun i hi => ?_, fun i hi => ?_, fun i hi => ?_, fun i k hi hk => ?_⟩ <;> rw [e _ _ (by omega)]
  · exact h1
  · exact h2 i hi
  · exact h3 i hi
  · exact h4 i hi
  · exact h5 i hi
  · exact h6 i hi
  · exact h7 i hi
  · exact h8 i k hi hk
theorem rHp_f {D : DD} {S S' : Mem} (h : rHp D S) (e : ∀ a k, (a = 14 ∧ k = 3) ∨ a = 16 → S'.1 a k = S.1 a k) : rHp D S' := by
  refine ⟨?_, fun k hk => ?_⟩
  · rw [e _ _ (by omega)]; exact h.1
  · rw [e _ _ (by omega)]; exact h.2 k hk
theorem rTp_f {D : DD} {S S' : Mem} (h : rTp D S) (e : ∀ a k, a = 0 → S'.1 a k = S.1 a k) : rTp D S' := by
  obtain ⟨h1, h2, h3, h4, h5⟩ := h
  refine ⟨?_, fun q => ?_, fun q => ?_, ?_, ?_⟩ <;> rw [e _ _ rfl]
  · exact h1
  · exact h2 q
  · exact h3 q
  · exact h4
  · exact h5
theorem rKp_f {D : DD} {S S' : Mem} (hk : okK D) (hw : D 55 7 ≤ 5) (h : rKp D S) (e : ∀ a k, 27 ≤ a ∧ a ≤ 39 → S'.1 a k = S.1 a k) : rKp D S' := by
  intro q
  obtain ⟨h1, h2, h3, h4, h5, h6, h7, h8, h9, h10⟩ := h q
  have h0 := (hk q).1
  refine ⟨?_, ?_, fun i hi => ?_, fun i hi => ?_, fun i hi => ?_, fun i hi => ?_, fun i hi => ?_, fun i hi => ?_, fun i hi => ?_, fun i k hi hk => ?_⟩ <;> rw [e _ _ (by omega)]
  · exact h1
  · exact h2
  · exact h3 i hi
  · exact h4 i hi
  · exact h5 i hi
  · exact h6 i hi
  · exact h7 i hi
  · exact h8 i hi
  · exact h9 i hi
  · exact h10 i k hi hk
/-- all together, at a state after at most c calls -/
def okD (D : DD) : Prop := okN D ∧ okW D ∧ okS D ∧ okK D
theorem RC_f {D : DD} {S S' : Mem} (hd : okD D) (h : RC D S) (e : frC S S') : RC D S' := ⟨rPg_f h.1 (fun a k q => e a k (by omega)), rNt_f h.2.1 (fun a k q => e a k (by omega)), rTw_f hd.2.1.1 h.2.2.1 (fun a k q => e a k (by omega)), rHp_f h.2.2.2.1 (fun a k q => e a k (by omega)), rTp_f h.2.2.2.2.1 (fun a k q => e a k (by omega)), rKp_f hd.2.2.2 hd.2.1.1 h.2.2.2.2.2 (fun a k q => e a k (by omega))⟩
/-- the model's calls leave the class's cells alone -/
def frM (S S' : Mem) : Prop := ∀ a k, a < 55 → S'.1 a k = S.1 a k
/-- the class's calls leave the model's cells alone -/
def frT (S S' : Mem) : Prop := ∀ a k, 55 ≤ a → S'.1 a k = S.1 a k
theorem frM_r (S : Mem) : frM S S := fun _ _ _ => rfl
theorem frM_t {S S' S'' : Mem} (h : frM S S') (h2 : frM S' S'') : frM S S'' := fun a k q => by rw [h2 a k q, h a k q]
theorem frT_r (S : Mem) : frT S S := fun _ _ _ => rfl
theorem frT_t {S S' S'' : Mem} (h : frT S S') (h2 : frT S' S'') : frT S S'' := fun a k q => by rw [h2 a k q, h a k q]
theorem frC_T {S S' : Mem} (h : frC S S') : frT S S' := fun a k q => h a k (by omega)
theorem RC_M {D : DD} {S S' : Mem} (hd : okD D) (h : RC D S) (e : frM S S') : RC D S' := ⟨rPg_f h.1 (fun a k q => e a k (by omega)), rNt_f h.2.1 (fun a k q => e a k (by omega)), rTw_f hd.2.1.1 h.2.2.1 (fun a k q => e a k (by omega)), rHp_f h.2.2.2.1 (fun a k q => e a k (by omega)), rTp_f h.2.2.2.2.1 (fun a k q => e a k (by omega)), rKp_f hd.2.2.2 hd.2.1.1 h.2.2.2.2.2 (fun a k q => e a k (by omega))⟩
theorem RM_T {D : DD} {S S' : Mem} (h : RM D S) (e : frT S S') : RM D S' := RM_fr h (fun a k q => e a k (by omega))
