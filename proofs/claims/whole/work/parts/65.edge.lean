/-! what a search knows at its end -/
section BFE
variable {N g most : Nat} {E : Nat → Nat → Bool} {far : Nat → Option Nat} {line : Nat → Nat} {e h : Nat}
theorem on_some {α : Type} {x : Option α} (h : x ≠ none) : ∃ d, x = some d := by
  cases x with
  | none => exact absurd rfl h
  | some d => exact ⟨d, rfl⟩
theorem bf_sn (H : BF N E g most far line e h) (hs : ∀ p q, E p q = E q p) {s : Nat} (hsN : s < N) (hstop : far s ≠ none ∨ e ≤ h ∨ (h < e ∧ ∃ d, far (line h) = some d ∧ most ≤ d)) : sn N E g most s (far s) := by
  cases ef : far s with
  | some d => exact bf_some H hsN ef
  | none =>
    intro n hn hl
    rcases hstop with q | q | ⟨he, d, hd, hm⟩
    · exact q ef
    · exact bf_end H hs q n s hsN hl ef
    · exact bf_known H hs he hd n s (by omega) hsN hl ef
theorem bf_all (H : BF N E g most far line e h) (hs : ∀ p q, E p q = E q p) {s d : Nat} (hsN : s < N) (hf : far s = some (d + 1)) : ∀ q, q < N → lv N E g d q → far q ≠ none := by
  intro q hq hl
  by_cases he : h < e
  · obtain ⟨x, hx⟩ := on_some (H.1 h he).2
    obtain ⟨k, hk, hks⟩ := H.2.2.1 s hsN (by rw [hf]; simp)
    have b7 := H.2.2.2.2.2.2.1 k he hk
    have v1 : fv far (line k) = d + 1 := by unfold fv; rw [hks, hf]; rfl
    have v2 : fv far (line h) = x := by unfold fv; rw [hx]; rfl
    rw [v1, v2] at b7
    exact bf_known H hs he hx d q (by omega) hq hl
  · exact bf_end H hs (by omega) d q hq hl
theorem bf_at (H : BF N E g most far line e h) (hs : ∀ p q, E p q = E q p) {s d : Nat} (hsN : s < N) (hf : far s = some (d + 1)) {q : Nat} (hq : q < N) : far q = some d ↔ ds N E g d q := by
  constructor
  · intro c; exact (bf_some H hq c).1
  · intro c
    obtain ⟨x, hx⟩ := on_some (bf_all H hs hsN hf q hq c.1)
    rw [hx, ds_one (bf_some H hq hx).1 c]
theorem ds_step {d s : Nat} (h : ds N E g (d + 1) s) : ∃ q, q < N ∧ ds N E g d q ∧ E s q = true := by
  obtain ⟨h1, h2⟩ := h
  rcases h1 with h1 | ⟨q, hq, hl, hE⟩
  · exact absurd h1 (h2 d (by omega))
  · exact ⟨q, hq, ⟨hl, fun d' hd c => h2 (d' + 1) (by omega) (Or.inr ⟨q, hq, c, hE⟩)⟩, hE⟩
/-- the least of those one step nearer -/
def Lst (N : Nat) (E : Nat → Nat → Bool) (g d s p : Nat) : Prop := p < N ∧ ds N E g d p ∧ E s p = true ∧ ∀ r, r < N → ds N E g d r → E s r = true → p ≤ r
theorem Lst_one {d s p p' : Nat} (h : Lst N E g d s p) (h' : Lst N E g d s p') : p = p' := by
  have a := h.2.2.2 p' h'.1 h'.2.1 h'.2.2.1
  have b := h'.2.2.2 p h.1 h.2.1 h.2.2.1
  omega
theorem lvSub {E' : Nat → Nat → Bool} (h : ∀ p q, E p q = true → E' p q = true) : ∀ n p, lv N E g n p → lv N E' g n p
  | 0, _, q => q
  | n + 1, p, q => by
    rcases q with q | ⟨r, hr, hl, hE⟩
    · exact Or.inl (lvSub h n p q)
    · exact Or.inr ⟨r, hr, lvSub h n r hl, h p r hE⟩
end BFE
/-! where all stand: three corners as one number -/
def dq (p : Nat) : Nat → Nat
  | 0 => p / 64 % 8
  | 1 => p / 8 % 8
  | _ => p % 8
def tr (q : Nat) : Nat := q % 8 * 64 + q / 8 % 8 * 8 + q / 64 % 8
theorem dq_lt (p w : Nat) : dq p w < 8 := by unfold dq; split <;> omega
theorem tr_lt (q : Nat) : tr q < 512 := by unfold tr; omega
theorem tr_dig {a b c : Nat} (ha : a < 8) (hb : b < 8) (hc : c < 8) : tr ((a * 8 + b) * 8 + c) = (c * 8 + b) * 8 + a := by unfold tr; omega
theorem tr_dq (q : Nat) : tr q = (q % 8 * 8 + q / 8 % 8) * 8 + q / 64 % 8 := by unfold tr; omega
theorem tr_tr {q : Nat} (h : q < 512) : tr (tr q) = q := by
  rw [tr_dq q, tr_dig (by omega) (by omega) (by omega)]
  omega
theorem dq_code {p : Nat} (h : p < 512) : (dq p 0 * 8 + dq p 1) * 8 + dq p 2 = p := by simp only [dq]; omega
theorem dq_of {a b c : Nat} (ha : a < 8) (hb : b < 8) (hc : c < 8) : dq ((a * 8 + b) * 8 + c) 0 = a ∧ dq ((a * 8 + b) * 8 + c) 1 = b ∧ dq ((a * 8 + b) * 8 + c) 2 = c := by simp only [dq]; omega
def es (D : DD) (p r w : Nat) : Bool := decide (dq p w = dq r w) || (decide (w < D 55 7) && adj D (dq p w) (dq r w))
def ec (nw : Nat → Nat → Bool) (P : Nat → Nat → Bool) (p r i j : Nat) : Bool := decide (dq r i = dq p j) && decide (dq r j = dq p i) && nw (dq p i) (dq p j) && !P i j
def EE (D : DD) (nw P : Nat → Nat → Bool) (p r : Nat) : Bool := es D p r 0 && es D p r 1 && es D p r 2 && !ec nw P p r 0 1 && !ec nw P p r 0 2 && !ec nw P p r 1 2
section EDGE
variable {D : DD} {nw P : Nat → Nat → Bool}
theorem EE_iff {p r : Nat} : EE D nw P p r = true ↔ (es D p r 0 = true ∧ es D p r 1 = true ∧ es D p r 2 = true) ∧ ec nw P p r 0 1 = false ∧ ec nw P p r 0 2 = false ∧ ec nw P p r 1 2 = false := by
  unfold EE
  simp only [Bool.and_eq_true, Bool.not_eq_true', and_assoc]
theorem es_sym (p r w : Nat) : es D p r w = es D r p w := by
  unfold es
  rw [adj_sym, Bool.eq_iff_iff]
  simp only [Bool.or_eq_true, Bool.and_eq_true, decide_eq_true_eq]
  constructor <;> (rintro (a | a); exact Or.inl a.symm; exact Or.inr a)
theorem ec_sym1 (hs : ∀ a b, nw a b = nw b a) {p r i j : Nat} (h : ec nw P p r i j = true) : ec nw P r p i j = true := by
  unfold ec at h ⊢
  simp only [Bool.and_eq_true, decide_eq_true_eq] at h ⊢
  obtain ⟨⟨⟨a, b⟩, c⟩, d⟩ := h
  exact ⟨⟨⟨b.symm, a.symm⟩, by rw [a, b, hs]; exact c⟩, d⟩
theorem ec_sym (hs : ∀ a b, nw a b = nw b a) (p r i j : Nat) : ec nw P p r i j = ec nw P r p i j := by
  rw [Bool.eq_iff_iff]
  exact ⟨ec_sym1 hs, ec_sym1 hs⟩
theorem EE_sym (hs : ∀ a b, nw a b = nw b a) (p r : Nat) : EE D nw P p r = EE D nw P r p := by
  unfold EE
  rw [es_sym p r 0, es_sym p r 1, es_sym p r 2, ec_sym hs p r 0 1, ec_sym hs p r 0 2, ec_sym hs p r 1 2]
theorem EE_sub {nw' : Nat → Nat → Bool} (h : ∀ a b, nw' a b = true → nw a b = true) (p r : Nat) (hE : EE D nw P p r = true) : EE D nw' P p r = true := by
  have k : ∀ i j, ec nw P p r i j = false → ec nw' P p r i j = false := fun i j q => by
    rcases Bool.eq_false_or_eq_true (ec nw' P p r i j) with c | c
    · exfalso
      unfold ec at c q
      simp only [Bool.and_eq_true, decide_eq_true_eq] at c
      obtain ⟨⟨⟨c1, c2⟩, c3⟩, c4⟩ := c
      rw [decide_eq_true c1, decide_eq_true c2, h _ _ c3, c4] at q
      cases q
    · exact c
  rw [EE_iff] at hE ⊢
  exact ⟨hE.1, k _ _ hE.2.1, k _ _ hE.2.2.1, k _ _ hE.2.2.2⟩
theorem es_stp {p r w : Nat} (hw : w < D 55 7) : es D p r w = true ↔ stp D (dq p w) (dq r w) := by
  unfold es
  rw [decide_eq_true hw, Bool.true_and]
  exact stp_b
theorem es_abs {p r w : Nat} (hw : ¬ w < D 55 7) : es D p r w = true ↔ dq p w = dq r w := by
  unfold es
  rw [decide_eq_false hw, Bool.false_and, Bool.or_false, decide_eq_true_eq]
theorem EE_abs {p r : Nat} (h : EE D nw P p r = true) : ∀ w, D 55 7 ≤ w → w < 3 → dq p w = dq r w := by
  intro w h1 h2
  obtain ⟨⟨a, b, c⟩, _⟩ := EE_iff.mp h
  have h3 : w = 0 ∨ w = 1 ∨ w = 2 := by omega
  rcases h3 with rfl | rfl | rfl
  · exact (es_abs (by omega)).mp a
  · exact (es_abs (by omega)).mp b
  · exact (es_abs (by omega)).mp c
theorem lv_abs {N g : Nat} : ∀ n p, lv N (EE D nw P) g n p → ∀ w, D 55 7 ≤ w → w < 3 → dq p w = dq g w
  | 0, p, h => by
    have : p = g := h
    rw [this]; intro _ _ _; rfl
  | n + 1, p, h => by
    rcases h with h | ⟨r, hr, hl, hE⟩
    · exact lv_abs n p h
    · intro w h1 h2
      rw [EE_abs hE w h1 h2]
      exact lv_abs n r hl w h1 h2
/-- the corners of walkers there are none of -/
def im (W p : Nat) : Prop := ∀ w, W ≤ w → w < 3 → dq p w = 0
theorem im_tr {W p : Nat} (h1 : 1 ≤ W) (h3 : W ≤ 3) (hp : p < 512) : tr p < 8 ^ W ↔ im W p := by
  have hW : W = 1 ∨ W = 2 ∨ W = 3 := by omega
  unfold im
  rcases hW with rfl | rfl | rfl
  · constructor
    · intro h w a b
      have hw : w = 1 ∨ w = 2 := by omega
      unfold tr at h
      rcases hw with rfl | rfl <;> simp only [dq] <;> omega
    · intro h
      have a := h 1 (by omega) (by omega)
      have b := h 2 (by omega) (by omega)
      simp only [dq] at a b
      unfold tr
      omega
  · constructor
    · intro h w a b
      have hw : w = 2 := by omega
      unfold tr at h
      subst hw
      simp only [dq]; omega
    · intro h
      have b := h 2 (by omega) (by omega)
      simp only [dq] at b
      unfold tr
      omega
  · exact ⟨fun _ w a b => by omega, fun _ => tr_lt p⟩
theorem im_EE {p r : Nat} (h : EE D nw P p r = true) (hi : im (D 55 7) p) : im (D 55 7) r := fun w a b => by rw [← EE_abs h w a b]; exact hi w a b
theorem p8_le {W : Nat} (h3 : W ≤ 3) : 8 ^ W ≤ 512 := Nat.pow_le_pow_right (n := 8) (by omega) h3
/-- the same walk, by the model's numbers -/
def Em (D : DD) (nw P : Nat → Nat → Bool) (q r : Nat) : Bool := EE D nw P (tr q) (tr r)
theorem Em_sym (hs : ∀ a b, nw a b = nw b a) (p r : Nat) : Em D nw P p r = Em D nw P r p := EE_sym hs _ _
theorem lv_tr {g : Nat} (h1 : 1 ≤ D 55 7) (h3 : D 55 7 ≤ 3) (hg : g < 512) : ∀ n q, q < 8 ^ D 55 7 → (lv (8 ^ D 55 7) (Em D nw P) (tr g) n q ↔ lv 512 (EE D nw P) g n (tr q)) := by
  have h8 := p8_le h3
  intro n
  induction n with
  | zero =>
    intro q hq
    show q = tr g ↔ tr q = g
    constructor
    · intro c; rw [c, tr_tr hg]
    · intro c; rw [← c, tr_tr (by omega)]
  | succ n ih =>
    intro q hq
    have hiq : im (D 55 7) (tr q) := (im_tr h1 h3 (tr_lt q)).mp (by rw [tr_tr (by omega)]; exact hq)
    constructor
    · rintro (c | ⟨r, hr, hl, hE⟩)
      · exact Or.inl ((ih q hq).mp c)
      · exact Or.inr ⟨tr r, tr_lt r, (ih r hr).mp hl, hE⟩
    · rintro (c | ⟨r, hr, hl, hE⟩)
      · exact Or.inl ((ih q hq).mpr c)
      · have hr8 := (im_tr h1 h3 hr).mpr (im_EE hE hiq)
        exact Or.inr ⟨tr r, hr8, (ih (tr r) hr8).mpr (by rw [tr_tr hr]; exact hl), by show EE D nw P (tr q) (tr (tr r)) = true; rw [tr_tr hr]; exact hE⟩
theorem ds_tr {g : Nat} (h1 : 1 ≤ D 55 7) (h3 : D 55 7 ≤ 3) (hg : g < 512) {d q : Nat} (hq : q < 8 ^ D 55 7) : ds (8 ^ D 55 7) (Em D nw P) (tr g) d q ↔ ds 512 (EE D nw P) g d (tr q) := by
  unfold ds
  rw [lv_tr h1 h3 hg d q hq]
  constructor
  · rintro ⟨a, b⟩; exact ⟨a, fun d' hd c => b d' hd ((lv_tr h1 h3 hg d' q hq).mpr c)⟩
  · rintro ⟨a, b⟩; exact ⟨a, fun d' hd c => b d' hd ((lv_tr h1 h3 hg d' q hq).mp c)⟩
theorem sn_tr {g most : Nat} (h1 : 1 ≤ D 55 7) (h3 : D 55 7 ≤ 3) (hg : g < 512) {q : Nat} (hq : q < 8 ^ D 55 7) {r : Option Nat} (h : sn (8 ^ D 55 7) (Em D nw P) (tr g) most q r) : sn 512 (EE D nw P) g most (tr q) r := by
  cases r with
  | none => intro n hn c; exact h n hn ((lv_tr h1 h3 hg n q hq).mpr c)
  | some d => exact ⟨(ds_tr h1 h3 hg hq).mp h.1, h.2⟩
end EDGE
