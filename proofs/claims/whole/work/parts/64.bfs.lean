/-! breadth first, pure (fb_holes: the kit's starting text, COUNTS) -/
theorem fb_holes : ∀ (m n : Nat) (f : Nat → Nat), (∀ i, i < n → f i < m) → (∀ i j, i < j → j < n → f i ≠ f j) → n ≤ m := by
  intro m
  induction m with
  | zero =>
    intro n f h1 _
    rcases Nat.eq_zero_or_pos n with h | h
    · omega
    · exact absurd (h1 0 h) (Nat.not_lt_zero _)
  | succ m ih =>
    intro n f h1 h2
    by_cases hx : ∃ i, i < n ∧ f i = m
    · obtain ⟨a, ha, hfa⟩ := hx
      have hg := ih (n - 1) (fun i => if i < a then f i else f (i + 1)) (by
        intro i hi
        by_cases q : i < a
        · simp only [if_pos q]
          have b1 := h1 i (by omega)
          have b2 := h2 i a q ha
          omega
        · simp only [if_neg q]
          have b1 := h1 (i + 1) (by omega)
          have b2 := h2 a (i + 1) (by omega) (by omega)
          omega) (by
        intro i j hij hj
        by_cases q : i < a
        · by_cases r : j < a
          · simp only [if_pos q, if_pos r]
            exact h2 i j hij (by omega)
          · simp only [if_pos q, if_neg r]
            exact h2 i (j + 1) (by omega) (by omega)
        · have r : ¬ j < a := by omega
          simp only [if_neg q, if_neg r]
          exact h2 (i + 1) (j + 1) (by omega) (by omega))
      omega
    · have hg := ih n f (fun i hi => by
        have b1 := h1 i hi
        have b2 : f i ≠ m := fun e => hx ⟨i, hi, e⟩
        omega) h2
      omega
def lv (N : Nat) (E : Nat → Nat → Bool) (g : Nat) : Nat → Nat → Prop
  | 0, p => p = g
  | n + 1, p => lv N E g n p ∨ ∃ q, q < N ∧ lv N E g n q ∧ E p q = true
theorem lv_mono {N g p : Nat} {E : Nat → Nat → Bool} {m : Nat} : ∀ {n : Nat}, m ≤ n → lv N E g m p → lv N E g n p
  | 0, h, q => by rw [show m = 0 by omega] at q; exact q
  | n + 1, h, q => by
    by_cases e : m = n + 1
    · rw [e] at q; exact q
    · exact Or.inl (lv_mono (show m ≤ n by omega) q)
/-- p lies d away -/
def ds (N : Nat) (E : Nat → Nat → Bool) (g d p : Nat) : Prop := lv N E g d p ∧ ∀ d', d' < d → ¬ lv N E g d' p
theorem ds_one {N g p d d' : Nat} {E : Nat → Nat → Bool} (h : ds N E g d p) (h' : ds N E g d' p) : d = d' := by
  rcases Nat.lt_trichotomy d d' with c | c | c
  · exact absurd h.1 (h'.2 d c)
  · exact c
  · exact absurd h'.1 (h.2 d' c)
theorem ds_of {N g p : Nat} {E : Nat → Nat → Bool} : ∀ {n : Nat}, lv N E g n p → ∃ d, d ≤ n ∧ ds N E g d p
  | 0, h => ⟨0, Nat.le_refl 0, h, fun d' hd => absurd hd (Nat.not_lt_zero d')⟩
  | n + 1, h => by
    by_cases c : lv N E g n p
    · obtain ⟨d, h1, h2⟩ := ds_of c
      exact ⟨d, by omega, h2⟩
    · exact ⟨n + 1, Nat.le_refl _, h, fun d' hd q => c (lv_mono (by omega) q)⟩
def fv (far : Nat → Option Nat) (p : Nat) : Nat := (far p).getD 0
/-- what stands before the h-th of the line is spread -/
def BF (N : Nat) (E : Nat → Nat → Bool) (g most : Nat) (far : Nat → Option Nat) (line : Nat → Nat) (e h : Nat) : Prop :=
  (∀ k, k < e → line k < N ∧ far (line k) ≠ none) ∧ (∀ j k, j < k → k < e → line j ≠ line k) ∧ (∀ p, p < N → far p ≠ none → ∃ k, k < e ∧ line k = p) ∧ (∀ j k, j ≤ k → k < e → fv far (line j) ≤ fv far (line k)) ∧ (∀ p d, p < N → far p = some d → ds N E g d p ∧ d ≤ most) ∧ (∀ k, k < h → k < e → ∀ p, p < N → E (line k) p = true → far p ≠ none) ∧ (∀ k, h < e → k < e → fv far (line k) ≤ fv far (line h) + 1) ∧ (g < N ∧ far g ≠ none)
/-- while the h-th, u, is spread: dn are done -/
def BI (N : Nat) (E : Nat → Nat → Bool) (g most : Nat) (far : Nat → Option Nat) (line : Nat → Nat) (e h u d : Nat) (dn : Nat → Prop) : Prop := BF N E g most far line e h ∧ h < e ∧ line h = u ∧ far u = some d ∧ d < most ∧ (∀ p, p < N → lv N E g d p → far p ≠ none) ∧ (∀ p, p < N → dn p → E u p = true → far p ≠ none)
section BFS
variable {N g most : Nat} {E : Nat → Nat → Bool} {far : Nat → Option Nat} {line : Nat → Nat} {e h : Nat}
theorem bf_start (hg : g < N) : BF N E g most (fun p => if p = g then some 0 else none) (fun _ => g) 1 0 := by
  refine ⟨fun k hk => ⟨hg, by simp⟩, fun j k h1 h2 => by omega, fun p hp hf => ?_, fun j k h1 h2 => Nat.le_refl _, fun p d hp hf => ?_, fun k hk => absurd hk (Nat.not_lt_zero k), fun k _ _ => Nat.le_succ_of_le (Nat.le_refl _), hg, by simp⟩
  · by_cases c : p = g
    · exact ⟨0, by omega, c.symm⟩
    · exact absurd (if_neg c) hf
  · dsimp only at hf
    by_cases c : p = g
    · rw [if_pos c] at hf
      cases hf
      exact ⟨⟨c, fun d' hd => absurd hd (Nat.not_lt_zero d')⟩, Nat.zero_le _⟩
    · rw [if_neg c] at hf; cases hf
/-- all that lie no farther than the h-th are known -/
theorem bf_known (H : BF N E g most far line e h) (hs : ∀ p q, E p q = E q p) (he : h < e) {d : Nat} (hd : far (line h) = some d) : ∀ n p, n ≤ d → p < N → lv N E g n p → far p ≠ none := by
  obtain ⟨b1, b2, b3, b4, b5, b6, b7, b8⟩ := H
  intro n
  induction n with
  | zero =>
    intro p _ hp hl
    have : p = g := hl
    rw [this]; exact b8.2
  | succ n ih =>
    intro p hn hp hl
    by_cases c : lv N E g n p
    · exact ih p (by omega) hp c
    · rcases hl with hl | ⟨q, hq, hlq, hE⟩
      · exact absurd hl c
      · have hqk := ih q (by omega) hq hlq
        obtain ⟨k, hk, hkq⟩ := b3 q hq hqk
        have hfq : ∃ x, far q = some x := by
          cases ee : far q with
          | none => exact absurd ee hqk
          | some x => exact ⟨x, rfl⟩
        obtain ⟨x, hx⟩ := hfq
        have hdx := (b5 q x hq hx).1
        have hxn : x ≤ n := by
          by_cases w : x ≤ n
          · exact w
          · exact absurd hlq (hdx.2 n (by omega))
        have hkh : k < h := by
          by_cases w : k < h
          · exact w
          · have := b4 h k (by omega) hk
            unfold fv at this
            rw [hkq, hx, hd] at this
            simp at this
            omega
        have hE' : E (line k) p = true := by rw [hkq, hs]; exact hE
        exact b6 k hkh hk p hp hE'
theorem bi_in (H : BF N E g most far line e h) (hs : ∀ p q, E p q = E q p) (he : h < e) {d : Nat} (hd : far (line h) = some d) (hm : d < most) : BI N E g most far line e h (line h) d (fun _ => False) := ⟨H, he, rfl, hd, hm, fun p hp hl => bf_known H hs he hd d p (Nat.le_refl d) hp hl, fun p _ q => q.elim⟩
theorem bi_more {u d : Nat} {dn dn' : Nat → Prop} (H : BI N E g most far line e h u d dn) (hd : ∀ p, p < N → dn' p → E u p = true → far p ≠ none) : BI N E g most far line e h u d dn' := ⟨H.1, H.2.1, H.2.2.1, H.2.2.2.1, H.2.2.2.2.1, H.2.2.2.2.2.1, hd⟩
theorem bi_add {u d p : Nat} {dn : Nat → Prop} (hs : ∀ p q, E p q = E q p) (H : BI N E g most far line e h u d dn) (hp : p < N) (hE : E u p = true) (hf : far p = none) : BI N E g most (fun q => if q = p then some (d + 1) else far q) (fun k => if k = e then p else line k) (e + 1) h u d (fun q => dn q ∨ q = p) ∧ e < N := by
  obtain ⟨⟨b1, b2, b3, b4, b5, b6, b7, b8⟩, he, hu, hd, hm, hC, hdn⟩ := H
  have lne : ∀ k, k < e → line k ≠ p := fun k hk q => (b1 k hk).2 (by rw [q]; exact hf)
  have hinj : ∀ i j, i < j → j < e + 1 → (if i = e then p else line i) ≠ (if j = e then p else line j) := by
    intro i j hij hj
    rw [if_neg (show ¬ i = e by omega)]
    by_cases c : j = e
    · rw [if_pos c]; exact lne i (by omega)
    · rw [if_neg c]; exact b2 i j hij (by omega)
  have heN : e + 1 ≤ N := fb_holes N (e + 1) (fun k => if k = e then p else line k) (fun i hi => by
    by_cases c : i = e
    · simp only [if_pos c]; exact hp
    · simp only [if_neg c]; exact (b1 i (by omega)).1) hinj
  have hup : u ≠ p := fun q => by rw [q, hf] at hd; cases hd
  have hfl : ∀ k, k < e → (if line k = p then some (d + 1) else far (line k)) = far (line k) := fun k hk => if_neg (lne k hk)
  have hfe : (if (if e = e then p else line e) = p then some (d + 1) else far (if e = e then p else line e)) = some (d + 1) := by rw [if_pos rfl, if_pos rfl]
  have hline : ∀ k, k < e → (if k = e then p else line k) = line k := fun k hk => if_neg (by omega)
  have hmono : ∀ q, far q ≠ none → (if q = p then some (d + 1) else far q) ≠ none := fun q hq => by
    by_cases c : q = p
    · rw [if_pos c]; simp
    · rw [if_neg c]; exact hq
  have hvu : fv far u = d := by unfold fv; rw [hd]; rfl
  have b7' : ∀ k, k < e → fv far (line k) ≤ d + 1 := fun k hk => by
    have := b7 k he hk
    rw [hu, hvu] at this
    exact this
  have hdsp : ds N E g (d + 1) p := by
    have hu_l : lv N E g d u := (b5 u d (by rw [← hu]; exact (b1 h he).1) hd).1.1
    refine ⟨Or.inr ⟨u, by rw [← hu]; exact (b1 h he).1, hu_l, by rw [hs]; exact hE⟩, fun d' hd' hl => ?_⟩
    exact hC p hp (lv_mono (by omega) hl) hf
  have fv1 : ∀ k, k < e → fv (fun q => if q = p then some (d + 1) else far q) (line k) = fv far (line k) := fun k hk => by unfold fv; simp only [hfl k hk]
  have fv2 : fv (fun q => if q = p then some (d + 1) else far q) p = d + 1 := by unfold fv; simp
  refine ⟨⟨⟨fun k hk => ?_, hinj, fun q hq hq2 => ?_, fun j k hjk hk => ?_, fun q x hq hx => ?_, fun k hk hk2 q hq hq2 => ?_, fun k _ hk => ?_, b8.1, hmono g b8.2⟩, by omega, ?_, ?_, hm, fun q hq hl => hmono q (hC q hq hl), fun q hq hq1 hq2 => ?_⟩, by omega⟩
  · dsimp only
    by_cases c : k = e
    · simp only [if_pos c]; exact ⟨hp, by simp⟩
    · simp only [if_neg c]
      rw [hfl k (by omega)]
      exact b1 k (by omega)
  · dsimp only at hq2 ⊢
    by_cases c : q = p
    · exact ⟨e, by omega, by rw [if_pos rfl, c]⟩
    · rw [if_neg c] at hq2
      obtain ⟨k, k1, k2⟩ := b3 q hq hq2
      exact ⟨k, by omega, by rw [hline k k1]; exact k2⟩
  · dsimp only
    by_cases ck : k = e
    · rw [if_pos ck, fv2]
      by_cases cj : j = e
      · rw [if_pos cj, fv2]; exact Nat.le_refl _
      · rw [if_neg cj, fv1 j (by omega)]
        exact b7' j (by omega)
    · rw [if_neg ck, if_neg (show ¬ j = e by omega), fv1 k (by omega), fv1 j (by omega)]
      exact b4 j k hjk (by omega)
  · dsimp only at hx
    by_cases c : q = p
    · rw [if_pos c] at hx
      cases hx
      rw [c]
      exact ⟨hdsp, by omega⟩
    · rw [if_neg c] at hx
      exact b5 q x hq hx
  · dsimp only at hq2 ⊢
    rw [hline k (by omega)] at hq2
    exact hmono q (b6 k hk (by omega) q hq hq2)
  · dsimp only
    rw [hline h he]
    have : fv (fun q => if q = p then some (d + 1) else far q) (line h) = d := by rw [fv1 h he, hu, hvu]
    rw [this]
    by_cases ck : k = e
    · rw [if_pos ck, fv2]; exact Nat.le_refl _
    · rw [if_neg ck, fv1 k (by omega)]
      exact b7' k (by omega)
  · dsimp only; rw [hline h he]; exact hu
  · dsimp only; rw [if_neg hup]; exact hd
  · dsimp only
    rcases hq1 with hq1 | hq1
    · exact hmono q (hdn q hq hq1 hq2)
    · rw [if_pos hq1]; simp
/-- the h-th is spread -/
theorem bi_out {u d : Nat} {dn : Nat → Prop} (H : BI N E g most far line e h u d dn) (hall : ∀ p, p < N → E u p = true → dn p) : BF N E g most far line e (h + 1) := by
  obtain ⟨⟨b1, b2, b3, b4, b5, b6, b7, b8⟩, he, hu, hd, hm, hC, hdn⟩ := H
  refine ⟨b1, b2, b3, b4, b5, fun k hk hk2 p hp hp2 => ?_, fun k h1 hk => ?_, b8⟩
  · by_cases c : k = h
    · rw [c, hu] at hp2
      exact hdn p hp (hall p hp hp2) hp2
    · exact b6 k (by omega) hk2 p hp hp2
  · have a1 := b7 k he hk
    have a2 := b4 h (h + 1) (by omega) h1
    omega
/-- known: at its distance -/
theorem bf_some (H : BF N E g most far line e h) {p d : Nat} (hp : p < N) (hf : far p = some d) : ds N E g d p ∧ d ≤ most := H.2.2.2.2.1 p d hp hf
/-- the line is at its end: what is not known cannot be reached -/
theorem bf_end (H : BF N E g most far line e h) (hs : ∀ p q, E p q = E q p) (he : e ≤ h) : ∀ n p, p < N → lv N E g n p → far p ≠ none := by
  obtain ⟨b1, b2, b3, b4, b5, b6, b7, b8⟩ := H
  intro n
  induction n with
  | zero =>
    intro p hp hl
    have : p = g := hl
    rw [this]; exact b8.2
  | succ n ih =>
    intro p hp hl
    rcases hl with hl | ⟨q, hq, hlq, hE⟩
    · exact ih p hp hl
    · obtain ⟨k, hk, hkq⟩ := b3 q hq (ih q hq hlq)
      exact b6 k (by omega) hk p hp (by rw [hkq, hs]; exact hE)
end BFS
/-- the distance, if it is no more than most -/
def sn (N : Nat) (E : Nat → Nat → Bool) (g most s : Nat) (r : Option Nat) : Prop := match r with
  | none => ∀ n, n ≤ most → ¬ lv N E g n s
  | some d => ds N E g d s ∧ d ≤ most
theorem sn_one {N g most s : Nat} {E : Nat → Nat → Bool} {r r' : Option Nat} (h : sn N E g most s r) (h' : sn N E g most s r') : r = r' := by
  cases r with
  | none =>
    cases r' with
    | none => rfl
    | some d => exact absurd h'.1.1 (h d h'.2)
  | some d =>
    cases r' with
    | none => exact absurd h.1.1 (h' d h.2)
    | some d' => rw [ds_one h.1 h'.1]
