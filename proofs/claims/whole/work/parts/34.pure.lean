/-! loops -/
theorem zfor {α : Type} (k : Nat → Mem → α) (n : Nat) (I : Nat → Mem → Prop) (step : ∀ i S, i < n → I i S → ∃ S', k i S = k (i + 1) S' ∧ I (i + 1) S') : ∀ m i S, i + m = n → I i S → ∃ S', k i S = k n S' ∧ I n S' := by
  intro m
  induction m with
  | zero => intro i S hi h; rw [show i = n by omega] at h ⊢; exact ⟨S, rfl, h⟩
  | succ m ih =>
    intro i S hi h
    obtain ⟨S1, e1, h1⟩ := step i S (by omega) h
    obtain ⟨S2, e2, h2⟩ := ih (i + 1) S1 (by omega) h1
    exact ⟨S2, e1.trans e2, h2⟩
theorem zforT {α τ : Type} (k : Nat → τ → Mem → α) (n : Nat) (I : Nat → τ → Mem → Prop) (step : ∀ i t S, i < n → I i t S → ∃ t' S', k i t S = k (i + 1) t' S' ∧ I (i + 1) t' S') : ∀ m i t S, i + m = n → I i t S → ∃ t' S', k i t S = k n t' S' ∧ I n t' S' := by
  intro m
  induction m with
  | zero => intro i t S hi h; rw [show i = n by omega] at h ⊢; exact ⟨t, S, rfl, h⟩
  | succ m ih =>
    intro i t S hi h
    obtain ⟨t1, S1, e1, h1⟩ := step i t S (by omega) h
    obtain ⟨t2, S2, e2, h2⟩ := ih (i + 1) t1 S1 (by omega) h1
    exact ⟨t2, S2, e1.trans e2, h2⟩
/-! pairs, by number -/
def ri (a : Nat) : Nat → Nat → List (Nat × Nat)
  | 0, _ => []
  | m + 1, b => (a, b) :: ri a m (b + 1)
def ro : Nat → Nat → List (Nat × Nat)
  | 0, _ => []
  | m + 1, a => ri a m (a + 1) ++ ro m (a + 1)
def lbs (f : Nat → Nat → Bool) (s : Nat × (Nat × Nat) × Nat) (q : Nat × Nat) : Nat × (Nat × Nat) × Nat := if f q.1 q.2 then (s.1 + 1, (if s.1 = 0 then q else s.2.1), s.2.2 ||| (2 ^ q.1 ||| 2 ^ q.2)) else s
/-- of those who cannot pass: how many two, the first two, all as bits -/
def lb (f : Nat → Nat → Bool) (n : Nat) : Nat × (Nat × Nat) × Nat := (ro n 0).foldl (lbs f) (0, (0, 0), 0)
theorem ri_mem {a : Nat} : ∀ {m b i j : Nat}, (i, j) ∈ ri a m b ↔ i = a ∧ b ≤ j ∧ j < b + m
  | 0, b, i, j => by simp [ri] <;> omega
  | m + 1, b, i, j => by
    simp only [ri, List.mem_cons, Prod.mk.injEq, ri_mem (m := m)]
    omega
theorem ro_mem : ∀ {m a i j : Nat}, (i, j) ∈ ro m a ↔ a ≤ i ∧ i < j ∧ j < a + m
  | 0, a, i, j => by simp [ro] <;> omega
  | m + 1, a, i, j => by
    simp only [ro, List.mem_append, ri_mem, ro_mem (m := m)]
    omega
theorem lb_cong_l {f f' : Nat → Nat → Bool} : ∀ (l : List (Nat × Nat)) (s : Nat × (Nat × Nat) × Nat), (∀ i j, (i, j) ∈ l → f i j = f' i j) → l.foldl (lbs f) s = l.foldl (lbs f') s
  | [], _, _ => rfl
  | q :: l, s, h => by
    have e : lbs f s q = lbs f' s q := by unfold lbs; rw [h q.1 q.2 (by simp)]
    rw [List.foldl_cons, List.foldl_cons, e]
    exact lb_cong_l l _ (fun i j hm => h i j (List.mem_cons_of_mem _ hm))
theorem lb_cong {f f' : Nat → Nat → Bool} {n : Nat} (h : ∀ i j, i < j → j < n → f i j = f' i j) : lb f n = lb f' n := lb_cong_l _ _ (fun i j hm => h i j (ro_mem.mp hm).2.1 (by have := ro_mem.mp hm; omega))
theorem lb_no_l {f : Nat → Nat → Bool} : ∀ (l : List (Nat × Nat)) (s : Nat × (Nat × Nat) × Nat), (∀ i j, (i, j) ∈ l → f i j = false) → l.foldl (lbs f) s = s
  | [], _, _ => rfl
  | q :: l, s, h => by
    have e : lbs f s q = s := by unfold lbs; rw [h q.1 q.2 (by simp)]; simp
    rw [List.foldl_cons, e]
    exact lb_no_l l _ (fun i j hm => h i j (List.mem_cons_of_mem _ hm))
theorem lb_no {f : Nat → Nat → Bool} {n : Nat} (h : ∀ i j, i < j → j < n → f i j = false) : lb f n = (0, (0, 0), 0) := lb_no_l _ _ (fun i j hm => h i j (ro_mem.mp hm).2.1 (by have := ro_mem.mp hm; omega))
theorem lb_le_l {f : Nat → Nat → Bool} : ∀ (l : List (Nat × Nat)) (s : Nat × (Nat × Nat) × Nat), s.1 ≤ (l.foldl (lbs f) s).1 ∧ (l.foldl (lbs f) s).1 ≤ s.1 + l.length
  | [], s => by simp
  | q :: l, s => by
    have ih := lb_le_l (f := f) l (lbs f s q)
    have e : s.1 ≤ (lbs f s q).1 ∧ (lbs f s q).1 ≤ s.1 + 1 := by
      unfold lbs
      split
      · simp
      · simp
    rw [List.foldl_cons, List.length_cons]
    omega
theorem ri_len (a : Nat) : ∀ m b, (ri a m b).length = m
  | 0, _ => rfl
  | m + 1, b => by simp [ri, ri_len a m]
theorem ro_len : ∀ m a, m ≤ 5 → (ro m a).length ≤ 10 := by
  intro m a h
  match m, h with
  | 0, _ => simp [ro]
  | 1, _ => simp [ro, ri]
  | 2, _ => simp [ro, ri]
  | 3, _ => simp [ro, ri]
  | 4, _ => simp [ro, ri]
  | 5, _ => simp [ro, ri]
theorem lb_le {f : Nat → Nat → Bool} {n : Nat} (h : n ≤ 5) : (lb f n).1 ≤ 10 := by
  have h1 := (lb_le_l (f := f) (ro n 0) (0, (0, 0), 0)).2
  have h2 := ro_len n 0 h
  unfold lb
  omega
/-- the pairs are those of the list, the bits small -/
theorem lb_in_l {f : Nat → Nat → Bool} : ∀ (l : List (Nat × Nat)) (s : Nat × (Nat × Nat) × Nat), (∀ i j, (i, j) ∈ l → i < 5 ∧ j < 5) → s.2.1.1 < 5 ∧ s.2.1.2 < 5 ∧ s.2.2 < 32 → (l.foldl (lbs f) s).2.1.1 < 5 ∧ (l.foldl (lbs f) s).2.1.2 < 5 ∧ (l.foldl (lbs f) s).2.2 < 32
  | [], _, _, h => h
  | q :: l, s, hl, h => by
    rw [List.foldl_cons]
    refine lb_in_l l _ (fun i j hm => hl i j (List.mem_cons_of_mem _ hm)) ?_
    have hq := hl q.1 q.2 (by simp)
    unfold lbs
    split
    · refine ⟨?_, ?_, ?_⟩
      · dsimp only; split
        · exact hq.1
        · exact h.1
      · dsimp only; split
        · exact hq.2
        · exact h.2.1
      · have p1 : 2 ^ q.1 < 32 := Nat.pow_lt_pow_right (n := 5) (by decide) hq.1
        have p2 : 2 ^ q.2 < 32 := Nat.pow_lt_pow_right (n := 5) (by decide) hq.2
        exact Nat.or_lt_two_pow (n := 5) h.2.2 (Nat.or_lt_two_pow (n := 5) p1 p2)
    · exact h
theorem lb_in {f : Nat → Nat → Bool} {n : Nat} (h : n ≤ 5) : (lb f n).2.1.1 < 5 ∧ (lb f n).2.1.2 < 5 ∧ (lb f n).2.2 < 32 := lb_in_l _ _ (fun i j hm => by have := ro_mem.mp hm; omega) (by decide)
theorem lb_bit_l {f : Nat → Nat → Bool} {i : Nat} : ∀ (l : List (Nat × Nat)) (s : Nat × (Nat × Nat) × Nat), ((l.foldl (lbs f) s).2.2.testBit i = true ↔ s.2.2.testBit i = true ∨ ∃ a b, (a, b) ∈ l ∧ f a b = true ∧ (a = i ∨ b = i))
  | [], s => by simp
  | q :: l, s => by
    rw [List.foldl_cons, lb_bit_l l]
    have e : (lbs f s q).2.2.testBit i = true ↔ s.2.2.testBit i = true ∨ (f q.1 q.2 = true ∧ (q.1 = i ∨ q.2 = i)) := by
      unfold lbs
      by_cases c : f q.1 q.2 = true
      · rw [if_pos c]
        simp only [Nat.testBit_or, Nat.testBit_two_pow, Bool.or_eq_true, decide_eq_true_eq, c, true_and]
      · rw [if_neg c]
        simp only [c, Bool.false_eq_true, false_and, or_false]
    rw [e]
    constructor
    · rintro ((h | h) | ⟨a, b, h1, h2, h3⟩)
      · exact Or.inl h
      · exact Or.inr ⟨q.1, q.2, by simp, h⟩
      · exact Or.inr ⟨a, b, List.mem_cons_of_mem _ h1, h2, h3⟩
    · rintro (h | ⟨a, b, h1, h2, h3⟩)
      · exact Or.inl (Or.inl h)
      · rcases List.mem_cons.mp h1 with h4 | h4
        · subst h4; exact Or.inl (Or.inr ⟨h2, h3⟩)
        · exact Or.inr ⟨a, b, h4, h2, h3⟩
theorem lb_bit {f : Nat → Nat → Bool} {n i : Nat} : (lb f n).2.2.testBit i = true ↔ ∃ a b, a < b ∧ b < n ∧ f a b = true ∧ (a = i ∨ b = i) := by
  unfold lb
  rw [lb_bit_l]
  simp only [Nat.zero_testBit, Bool.false_eq_true, false_or]
  constructor
  · rintro ⟨a, b, h1, h2, h3⟩
    have := ro_mem.mp h1
    exact ⟨a, b, by omega, by omega, h2, h3⟩
  · rintro ⟨a, b, h1, h2, h3, h4⟩
    exact ⟨a, b, ro_mem.mpr (by omega), h3, h4⟩
theorem lb_pos_l {f : Nat → Nat → Bool} : ∀ (l : List (Nat × Nat)) (s : Nat × (Nat × Nat) × Nat), (0 < (l.foldl (lbs f) s).1 ↔ 0 < s.1 ∨ ∃ a b, (a, b) ∈ l ∧ f a b = true)
  | [], s => by simp
  | q :: l, s => by
    rw [List.foldl_cons, lb_pos_l l]
    have e : 0 < (lbs f s q).1 ↔ 0 < s.1 ∨ f q.1 q.2 = true := by
      unfold lbs
      by_cases c : f q.1 q.2 = true
      · rw [if_pos c]; simp [c]
      · rw [if_neg c]; simp [c]
    rw [e]
    constructor
    · rintro ((h | h) | ⟨a, b, h1, h2⟩)
      · exact Or.inl h
      · exact Or.inr ⟨q.1, q.2, by simp, h⟩
      · exact Or.inr ⟨a, b, List.mem_cons_of_mem _ h1, h2⟩
    · rintro (h | ⟨a, b, h1, h2⟩)
      · exact Or.inl (Or.inl h)
      · rcases List.mem_cons.mp h1 with h4 | h4
        · subst h4; exact Or.inl (Or.inr h2)
        · exact Or.inr ⟨a, b, h4, h2⟩
theorem lb_pos {f : Nat → Nat → Bool} {n : Nat} : 0 < (lb f n).1 ↔ ∃ a b, a < b ∧ b < n ∧ f a b = true := by
  unfold lb
  rw [lb_pos_l]
  simp only [Nat.lt_irrefl, false_or]
  constructor
  · rintro ⟨a, b, h1, h2⟩
    have := ro_mem.mp h1
    exact ⟨a, b, by omega, by omega, h2⟩
  · rintro ⟨a, b, h1, h2, h3⟩
    exact ⟨a, b, ro_mem.mpr (by omega), h3⟩
/-- what lies behind n says nothing -/
theorem lb_ext {f : Nat → Nat → Bool} {n : Nat} (hn : n ≤ 5) (h : ∀ i j, n ≤ j → f i j = false) : lb f 5 = lb f n := by
  have e : ∀ s q, n ≤ q.2 → lbs f s q = s := by
    intro s q hq
    unfold lbs
    rw [h _ _ hq]; simp
  unfold lb
  match n, hn, e with
  | 0, _, e => simp (disch := omega) only [ro, ri, List.nil_append, List.cons_append, List.foldl_cons, List.foldl_nil, e, Nat.reduceAdd]
  | 1, _, e => simp (disch := omega) only [ro, ri, List.nil_append, List.cons_append, List.foldl_cons, List.foldl_nil, e, Nat.reduceAdd]
  | 2, _, e => simp (disch := omega) only [ro, ri, List.nil_append, List.cons_append, List.foldl_cons, List.foldl_nil, e, Nat.reduceAdd]
  | 3, _, e => simp (disch := omega) only [ro, ri, List.nil_append, List.cons_append, List.foldl_cons, List.foldl_nil, e, Nat.reduceAdd]
  | 4, _, e => simp (disch := omega) only [ro, ri, List.nil_append, List.cons_append, List.foldl_cons, List.foldl_nil, e, Nat.reduceAdd]
  | 5, _, _ => rfl
/-! a minute -/
def wn (D : DD) (i : Nat) : Nat := if D 65 i < D 64 i then D 63 (20 * i + D 65 i) else D 60 i
def mt (D : DD) (w : Nat → Nat) (i j : Nat) : Bool := decide (i < D 55 7) && decide (j < D 55 7) && decide (w i = D 60 j) && decide (w j = D 60 i) && nar D (D 60 i) (D 60 j)
def cl (D : DD) (P : Nat → Nat → Bool) (w : Nat → Nat) (i j : Nat) : Bool := mt D w i j && !P i j
theorem mt_iff {D : DD} {w : Nat → Nat} {i j : Nat} : mt D w i j = true ↔ i < D 55 7 ∧ j < D 55 7 ∧ w i = D 60 j ∧ w j = D 60 i ∧ nar D (D 60 i) (D 60 j) = true := by
  unfold mt
  simp only [Bool.and_eq_true, decide_eq_true_eq, and_assoc]
theorem mt_sym (D : DD) (w : Nat → Nat) (i j : Nat) : mt D w i j = mt D w j i := by
  rw [Bool.eq_iff_iff, mt_iff, mt_iff, nar_sym D (D 60 j)]
  constructor <;> (rintro ⟨a, b, c, d, e⟩; exact ⟨b, a, d, c, e⟩)
theorem cl_iff {D : DD} {P : Nat → Nat → Bool} {w : Nat → Nat} {i j : Nat} : cl D P w i j = true ↔ mt D w i j = true ∧ P i j = false := by
  unfold cl
  simp only [Bool.and_eq_true, Bool.not_eq_true']
def gmk (D : DD) (g : Nat) (w : Nat → Nat) (n : Nat) : DD := dS (dS D 65 (fun i => if i < n ∧ g.testBit i = false ∧ D 65 i < D 64 i then D 65 i + 1 else D 65 i)) 60 (fun i => if i < n ∧ g.testBit i = false then w i else D 60 i)
/-- behind a minute: those of g have gone back -/
def gm (D : DD) (g : Nat) (w : Nat → Nat) : DD := gmk D g w (D 55 7)
def lay (D : DD) (P : Nat → Nat → Bool) (w : Nat → Nat) : Nat × (Nat × Nat) × Nat := lb (cl D P w) (D 55 7)
def go (D : DD) (P : Nat → Nat → Bool) : DD := gm D (lay D P (wn D)).2.2 (wn D)
def ovk (D : DD) : Nat → Bool
  | 0 => true
  | n + 1 => ovk D n && decide (D 64 n ≤ D 65 n)
def ov (D : DD) : Bool := ovk D (D 55 7)
theorem ovk_iff {D : DD} : ∀ {n : Nat}, ovk D n = true ↔ ∀ i, i < n → D 64 i ≤ D 65 i
  | 0 => by simp [ovk]
  | n + 1 => by
    simp only [ovk, Bool.and_eq_true, decide_eq_true_eq, ovk_iff (n := n)]
    constructor
    · rintro ⟨h1, h2⟩ i hi
      by_cases e : i = n
      · rw [e]; exact h2
      · exact h1 i (by omega)
    · intro h
      exact ⟨fun i hi => h i (by omega), h n (by omega)⟩
/-- rows other than 60, 65 stand -/
theorem gm_row {D : DD} {g : Nat} {w : Nat → Nat} {a : Nat} (h0 : ¬ a = 60) (h5 : ¬ a = 65) : gm D g w a = D a := by
  unfold gm gmk
  rw [dS_n h0, dS_n h5]
theorem gm_60 {D : DD} {g : Nat} {w : Nat → Nat} {i : Nat} : gm D g w 60 i = if i < D 55 7 ∧ g.testBit i = false then w i else D 60 i := rfl
theorem gm_65 {D : DD} {g : Nat} {w : Nat → Nat} {i : Nat} : gm D g w 65 i = if i < D 55 7 ∧ g.testBit i = false ∧ D 65 i < D 64 i then D 65 i + 1 else D 65 i := rfl
theorem lnf_row {D D' : DD} (h6 : D' 56 = D 56) (h7 : D' 57 = D 57) (a b : Nat) : ∀ m k, lnf D' a b m k = lnf D a b m k
  | 0, _ => rfl
  | m + 1, k => by unfold lnf; rw [h6, h7, lnf_row h6 h7 a b m (k + 1)]
theorem ln_row {D D' : DD} (h5 : D' 55 = D 55) (h6 : D' 56 = D 56) (h7 : D' 57 = D 57) (a b : Nat) : ln D' a b = ln D a b := by
  unfold ln
  rw [h5, lnf_row h6 h7]
theorem stp_row {D D' : DD} (h5 : D' 55 = D 55) (h6 : D' 56 = D 56) (h7 : D' 57 = D 57) {a b : Nat} : stp D' a b ↔ stp D a b := by
  unfold stp adj
  rw [ln_row h5 h6 h7]
theorem nar_row {D D' : DD} (h5 : D' 55 = D 55) (h6 : D' 56 = D 56) (h7 : D' 57 = D 57) (h8 : D' 58 = D 58) (a b : Nat) : nar D' a b = nar D a b := by
  unfold nar
  rw [ln_row h5 h6 h7, h8]
theorem mp_row {D D' : DD} (h5 : D' 55 = D 55) (h9 : D' 59 = D 59) (h2 : D' 62 = D 62) : mp D' = mp D := by
  funext i j
  unfold mp ca
  rw [h5, h9, h2]
theorem wn_stp {D : DD} (h : okW D) {i : Nat} (hi : i < D 55 7) : stp D (D 60 i) (wn D i) ∧ wn D i < 8 := by
  obtain ⟨h1, h2, h3, h4, h5, h6, h7, h8, h9⟩ := h.2 i hi
  unfold wn
  by_cases c : D 65 i < D 64 i
  · rw [if_pos c]; exact ⟨h8 c, h7 _ c⟩
  · rw [if_neg c]; exact ⟨Or.inl rfl, h2⟩
/-- the law of the ways stands behind a minute -/
theorem gm_okW {D : DD} (h : okW D) (g : Nat) : okW (gm D g (wn D)) := by
  have e5 : gm D g (wn D) 55 = D 55 := gm_row (by omega) (by omega)
  have e6 : gm D g (wn D) 56 = D 56 := gm_row (by omega) (by omega)
  have e7 : gm D g (wn D) 57 = D 57 := gm_row (by omega) (by omega)
  have e9 : gm D g (wn D) 59 = D 59 := gm_row (by omega) (by omega)
  have e1 : gm D g (wn D) 61 = D 61 := gm_row (by omega) (by omega)
  have e2 : gm D g (wn D) 62 = D 62 := gm_row (by omega) (by omega)
  have e3 : gm D g (wn D) 63 = D 63 := gm_row (by omega) (by omega)
  have e4 : gm D g (wn D) 64 = D 64 := gm_row (by omega) (by omega)
  unfold okW
  rw [e5]
  refine ⟨h.1, fun i hi => ?_⟩
  obtain ⟨h1, h2, h3, h4, h5, h6, h7, h8, h9⟩ := h.2 i hi
  have hs := wn_stp h hi
  rw [e9, e1, e2, e3, e4, gm_60, gm_65]
  simp only [stp_row e5 e6 e7]
  by_cases c : g.testBit i = false
  · by_cases d : D 65 i < D 64 i
    · rw [if_pos ⟨hi, c⟩, if_pos ⟨hi, c, d⟩]
      refine ⟨h1, hs.2, h3, h4, h5, d, h7, fun q => ?_, h9⟩
      have e : wn D i = D 63 (20 * i + D 65 i) := if_pos d
      rw [e]
      exact h9 _ q
    · rw [if_pos ⟨hi, c⟩, if_neg (fun q => d q.2.2)]
      have e : wn D i = D 60 i := if_neg d
      rw [e]
      exact ⟨h1, h2, h3, h4, h5, h6, h7, h8, h9⟩
  · rw [if_neg (fun q => c q.2), if_neg (fun q => c q.2.1)]
    exact ⟨h1, h2, h3, h4, h5, h6, h7, h8, h9⟩
