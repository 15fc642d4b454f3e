/-! the heap as a list of cells, and what it stands for -/
/-- kinds of fields: 0 int, 1 boolean, 2 long, 3 a reference -/
def mFkL : List (List Nat) := [[3, 3, 3, 3, 3, 0, 0, 0, 3, 3], [3, 3, 3, 3, 3, 3, 3, 3, 0, 0, 2], [3, 3, 3, 0, 1, 1, 3, 3, 3], [3, 3, 3, 0, 1, 1, 0, 2], [3, 0], [3, 3, 3, 3, 0, 0, 0, 1, 1, 1, 0, 0, 0], [3, 0, 3, 0], [0, 0, 0, 0, 3, 0, 0], [3, 3, 3, 3, 3, 3, 3, 3, 1, 1, 0, 0], [0, 3, 3, 3, 1, 1, 0, 0, 3, 3, 3, 3, 3, 3, 3, 3, 0, 0, 0, 3, 0, 1, 0, 3, 3, 3, 1, 1, 3, 0, 0, 0, 3, 3, 3, 0, 0, 3, 3, 3, 0, 2, 1, 0, 0, 0, 3, 3, 3, 3, 3, 3, 2]]
def mFk (ci k : Nat) : Nat := (mFkL.getD ci []).getD k 9
def mWk : Nat := 7
theorem mWk_ok : (vwCl[mWk]?).map (fun r => r.1) = some "CarryAlike$Walker" := by decide +kernel
def mFkOk (ci k : Nat) (d : String) : Bool := match mFk ci k with
  | 0 => decide (parseFieldDescriptor d = some .int)
  | 1 => decide (parseFieldDescriptor d = some .boolean)
  | 2 => decide (parseFieldDescriptor d = some .long)
  | 3 => (match parseFieldDescriptor d with
    | some (.object _) => true
    | some (.array _) => true
    | _ => false)
  | _ => false
theorem mFk_ok : (List.range vwCl.length).all (fun ci => match vwCl[ci]? with
  | some r => (List.range r.2.2).all (fun k => mFkOk ci k (r.2.1 k).2.2.1)
  | none => false) = true := by decide +kernel
theorem mFk_get {ci k : Nat} {r : vw_C} (h : vwCl[ci]? = some r) (hk : k < r.2.2) : mFkOk ci k (r.2.1 k).2.2.1 = true := by
  have h1 := all_range mFk_ok (List.getElem?_eq_some_iff.mp h).1
  rw [h] at h1
  exact all_range h1 hk
def hOk (ci k : Nat) (v : Value) : Bool := match mFk ci k, v with
  | 0, .int _ => true
  | 1, .int x => decide (x = 0) || decide (x = 1)
  | 2, .long _ => true
  | 3, .ref _ => true
  | 3, .null => true
  | _, _ => false
def hGf (h : mH) (a ci k : Nat) : Option Value := match h[a]? with
  | some (.inr (c, fs)) => if c = ci then fs[k]? else none
  | _ => none
def hPf (h : mH) (a ci k : Nat) (v : Value) : Option mH := match h[a]? with
  | some (.inr (c, fs)) => if c = ci ∧ k < fs.length ∧ hOk ci k v = true then some (h.set a (.inr (c, fs.set k v))) else none
  | _ => none
def hKi (kind t : Nat) : Bool := (kind == 0 && t == 0) || (kind == 1 && (t == 1 || t == 3)) || (kind == 2 && t == 2)
def hNar (t : Nat) (x : Int32) : Int32 := match t with
  | 0 => x
  | 1 => vp_nar .boolean x
  | 2 => vp_nar .char x
  | _ => vp_nar .byte x
def hLd (h : mH) (a kind : Nat) (i : Int32) : Option Value := match h[a]? with
  | some (.inl (t, n, .inl f)) => if inb i n = true ∧ hKi kind t = true then some (.int (f i.toNatClampNeg)) else none
  | some (.inl (t, n, .inr g)) => if inb i n = true ∧ kind = 3 ∧ t = 4 then some (va_rf ((g[i.toNatClampNeg]?).join)) else none
  | _ => none
def hSt (h : mH) (a kind : Nat) (i : Int32) (v : Value) : Option mH := match h[a]?, v with
  | some (.inl (t, n, .inl f)), .int x => if inb i n = true ∧ hKi kind t = true then some (h.set a (.inl (t, n, .inl (upd f i.toNatClampNeg (hNar t x))))) else none
  | some (.inl (t, n, .inr g)), .ref b => if inb i n = true ∧ kind = 3 ∧ t = 4 ∧ i.toNatClampNeg < g.length then (match h[b]? with
    | some (.inr (c, _)) => if c = mWk then some (h.set a (.inl (t, n, .inr (g.set i.toNatClampNeg (some b))))) else none
    | _ => none) else none
  | _, _ => none
def hLn (h : mH) (a : Nat) : Option Int32 := match h[a]? with
  | some (.inl (t, n, _)) => if t < 5 then some (Int32.ofNat n) else none
  | _ => none
def hD1 (n : Nat) : Value := match n with
  | 0 => .int 0
  | 1 => .int 0
  | 2 => .long 0
  | _ => .null
def hDf (ci N : Nat) : List Value := (List.range N).map fun k => hD1 (mFk ci k)
def hNw (h : mH) (ci : Nat) : Option (mH × Nat) := match vwCl[ci]? with
  | some r => if h.length < 1000 then some (h ++ [.inr (ci, hDf ci r.2.2)], h.length) else none
  | none => none
def hNa (h : mH) (t : Nat) (n : Int32) : Option (mH × Nat) := if h.length < 1000 ∧ ¬ n < 0 ∧ n.toNatClampNeg ≤ 1000 ∧ t < 5 then some (h ++ [.inl (t, n.toNatClampNeg, if t = 4 then .inr (List.replicate n.toNatClampNeg none) else .inl (fun _ => 0))], h.length) else none
def hCp (h : mH) (a0 : Nat) (sp : Int32) (a : Nat) (dp n : Int32) : Option mH := match h[a0]?, h[a]? with
  | some (.inl (t0, n0, .inl f)), some (.inl (t1, n1, .inl g)) => if t0 = 0 ∧ t1 = 0 ∧ ¬ sp < 0 ∧ ¬ dp < 0 ∧ ¬ n < 0 ∧ sp.toNatClampNeg + n.toNatClampNeg ≤ n0 ∧ dp.toNatClampNeg + n.toNatClampNeg ≤ n1 then some (h.set a (.inl (t1, n1, .inl (va_cpy f g sp.toNatClampNeg dp.toNatClampNeg n.toNatClampNeg)))) else none
  | _, _ => none
def hCl (h : mH) (a : Nat) : Option Nat := match h[a]? with
  | some (.inr (c, _)) => some c
  | _ => none
def oH : mO mH := (hGf, hPf, hLd, hSt, hLn, hNw, hNa, hCp, hCl)
def hSz1 : mC → Nat
  | .inl (_, n, _) => n
  | .inr (_, fs) => fs.length
def hSz (h : mH) : Nat := (h.map hSz1).sum
theorem hSz_push (h : mH) (c : mC) : hSz (h ++ [c]) = hSz h + hSz1 c := by
  simp [hSz]
theorem hSz_set : ∀ (h : mH) (a : Nat) (c0 c : mC), h[a]? = some c0 → hSz1 c = hSz1 c0 → hSz (h.set a c) = hSz h
  | [], a, c0, c, h1, _ => by simp at h1
  | x :: r, 0, c0, c, h1, h2 => by
    simp at h1
    subst h1
    simp [hSz, h2]
  | x :: r, a + 1, c0, c, h1, h2 => by
    have ih := hSz_set r a c0 c (by simpa using h1) h2
    simp only [hSz, List.map_set] at ih
    simp [hSz, List.map_set, ih]
/-- what a picture stands for -/
def cAd (b base a : Nat) : Nat := if a = mSid then b else base + a
def cV (b base : Nat) : Value → Value
  | .ref a => .ref (cAd b base a)
  | v => v
def cE (b base : Nat) (tc : Nat → ClassId) : mC → va_E
  | .inl (t, n, .inl f) => .inl (tc t, n, .inl f)
  | .inl (t, n, .inr g) => .inl (tc t, n, .inr (.inr (.inr (.inr (fun j => ((g[j]?).join).map (cAd b base))))))
  | .inr (c, fs) => .inr (c, fs.map (cV b base))
def cW (b base : Nat) (tc : Nat → ClassId) (h : mH) : va_W := h.zipIdx.map fun q => (base + q.2, cE b base tc q.1)
theorem cW_get {b base : Nat} {tc : Nat → ClassId} {h : mH} {a : Nat} {c : mC} (e : h[a]? = some c) : (cW b base tc h)[a]? = some (base + a, cE b base tc c) := by
  simp [cW, List.getElem?_zipIdx, e]
theorem cW_inv {b base : Nat} {tc : Nat → ClassId} {h : mH} {a : Nat} {q : Nat × va_E} (e : (cW b base tc h)[a]? = some q) : ∃ c, h[a]? = some c ∧ q = (base + a, cE b base tc c) := by
  simp only [cW, List.getElem?_map, List.getElem?_zipIdx] at e
  cases hc : h[a]? with
  | none => rw [hc] at e; simp at e
  | some c => rw [hc] at e; simp at e; exact ⟨c, rfl, e.symm⟩
theorem cW_set {b base : Nat} {tc : Nat → ClassId} {h : mH} {a : Nat} {c c0 : mC} (e : h[a]? = some c0) : (cW b base tc h).set a (base + a, cE b base tc c) = cW b base tc (h.set a c) := by
  apply List.ext_getElem?
  intro i
  have hl : a < h.length := (List.getElem?_eq_some_iff.mp e).1
  have hlw : a < (cW b base tc h).length := (List.getElem?_eq_some_iff.mp (cW_get (b := b) (base := base) (tc := tc) e)).1
  by_cases hi : i = a
  · subst hi
    rw [List.getElem?_set_self hlw]
    exact (cW_get (by rw [List.getElem?_set_self hl])).symm
  · rw [List.getElem?_set_ne (Ne.symm hi)]
    simp [cW, List.getElem?_zipIdx, List.getElem?_set_ne (Ne.symm hi)]
theorem cW_push {b base : Nat} {tc : Nat → ClassId} {h : mH} {c : mC} : cW b base tc (h ++ [c]) = cW b base tc h ++ [(base + h.length, cE b base tc c)] := by
  simp [cW, List.zipIdx_append]
theorem cW_D {b base : Nat} {tc : Nat → ClassId} {h : mH} : va_D (fun q : Nat => base ≤ q) (cW b base tc h) := by
  refine ⟨fun i j p q hi hj he => ?_, fun k q hk => ?_⟩
  · obtain ⟨_, -, rfl⟩ := cW_inv hi
    obtain ⟨_, -, rfl⟩ := cW_inv hj
    exact Nat.add_left_cancel he
  · obtain ⟨_, -, rfl⟩ := cW_inv hk
    exact Nat.le_add_right _ _
theorem cV_cat (b base : Nat) (v : Value) : (cV b base v).category = v.category := by cases v <;> rfl
theorem cV_sum (b base : Nat) (st : List Value) : ((st.map (cV b base)).map fun v => v.category).sum = (st.map fun v => v.category).sum := by
  rw [List.map_map]
  congr 1
  apply List.map_congr_left
  intro v _
  exact cV_cat b base v
theorem inb_in {i : Int32} {n : Nat} (h : inb i n = true) : vp_in i n := by
  unfold inb at h
  simp only [Bool.and_eq_true, Bool.not_eq_true', decide_eq_false_iff_not, decide_eq_true_eq] at h
  rintro (q | q)
  · exact h.1 q
  · omega
theorem hOk_ok {ci k : Nat} {r : vw_C} {v : Value} {b base : Nat} (h : vwCl[ci]? = some r) (hk : k < r.2.2) (ho : hOk ci k v = true) : ∃ ty, parseFieldDescriptor (r.2.1 k).2.2.1 = some ty ∧ narrow ty (cV b base v) = cV b base v ∧ fits ty (cV b base v) = true := by
  have h1 := mFk_get h hk
  unfold mFkOk at h1
  unfold hOk at ho
  split at h1
  · next e =>
    rw [e] at ho
    rw [decide_eq_true_eq] at h1
    refine ⟨_, h1, ?_⟩
    cases v <;> first | (simp at ho; done) | exact ⟨rfl, rfl⟩
  · next e =>
    rw [e] at ho
    rw [decide_eq_true_eq] at h1
    refine ⟨_, h1, ?_⟩
    cases v with
    | int x =>
      simp only [Bool.or_eq_true, decide_eq_true_eq] at ho
      rcases ho with rfl | rfl
      · exact ⟨show narrow .boolean (.int 0) = .int 0 by decide, show fits .boolean (.int 0) = true by decide⟩
      · exact ⟨show narrow .boolean (.int 1) = .int 1 by decide, show fits .boolean (.int 1) = true by decide⟩
    | _ => simp at ho
  · next e =>
    rw [e] at ho
    rw [decide_eq_true_eq] at h1
    refine ⟨_, h1, ?_⟩
    cases v <;> first | (simp at ho; done) | exact ⟨rfl, rfl⟩
  · next e =>
    rw [e] at ho
    split at h1
    · next e2 =>
      refine ⟨_, e2, ?_⟩
      cases v <;> first | (simp at ho; done) | exact ⟨rfl, rfl⟩
    · next e2 =>
      refine ⟨_, e2, ?_⟩
      cases v <;> first | (simp at ho; done) | exact ⟨rfl, rfl⟩
    · cases h1
  · cases h1
/-- locals -/
def lOK (b base : Nat) (ls : Array Slot) (n : Nat) (l : mL) : Prop := l.length = n ∧ ∃ lv, lv_has ls n lv ∧ ∀ (i : Nat) (v : Value), l[i]? = some (some v) → (i, cV b base v) ∈ lv
theorem lOK_at {b base : Nat} {ls : Array Slot} {n : Nat} {l : mL} (h : lOK b base ls n l) {i : Nat} {v : Value} (e : l[i]? = some (some v)) : ls[i]? = some (.val (cV b base v)) := by
  obtain ⟨-, lv, h1, h2⟩ := h
  exact h1.2.2 (i, cV b base v) (h2 i v e)
theorem mKill_len (l : mL) (i : Nat) : (mKill l i).length = l.length := by
  unfold mKill
  split <;> simp
theorem mSt1_len (l : mL) (i : Nat) (v : Value) : (mSt1 l i v).length = l.length := by
  cases i with
  | zero => simp [mSt1]
  | succ i => simp [mSt1, mKill_len]
theorem mSt2_len (l : mL) (i : Nat) (v : Value) : (mSt2 l i v).length = l.length := by simp [mSt2, mSt1_len]
theorem mKill_get {l : mL} {i j : Nat} {w : Value} (h : (mKill l i)[j]? = some (some w)) : l[j]? = some (some w) ∧ (j = i → w.category ≠ 2) := by
  unfold mKill at h
  split at h
  · next x e =>
    by_cases hj : i = j
    · subst hj
      rw [List.getElem?_set_self (List.getElem?_eq_some_iff.mp e).1] at h
      cases h
    · rw [List.getElem?_set_ne hj] at h
      exact ⟨h, fun q => absurd q.symm hj⟩
  · next x e =>
    by_cases hj : i = j
    · subst hj
      rw [List.getElem?_set_self (List.getElem?_eq_some_iff.mp e).1] at h
      cases h
    · rw [List.getElem?_set_ne hj] at h
      exact ⟨h, fun q => absurd q.symm hj⟩
  · next n1 n2 =>
    refine ⟨h, fun q => ?_⟩
    subst q
    intro hc
    cases w with
    | long x => exact n1 x h
    | double x => exact n2 x h
    | _ => simp [Value.category] at hc
theorem mSt1_get {b base : Nat} {l : mL} {i : Nat} {v : Value} {lv : List (Nat × Value)} (h : ∀ (i : Nat) (v : Value), l[i]? = some (some v) → (i, cV b base v) ∈ lv) (hi : i < l.length) {j : Nat} {w : Value} (e : (mSt1 l i v)[j]? = some (some w)) : (j, cV b base w) ∈ (i, cV b base v) :: lv.filter (fun q => !(q.1 == i) && !(q.1 + 1 == i && q.2.category == 2)) := by
  by_cases hj : i = j
  · subst hj
    have : (mSt1 l i v)[i]? = some (some v) := by
      cases i with
      | zero => simp [mSt1, hi]
      | succ i => rw [mSt1, List.getElem?_set_self (by rw [mKill_len]; exact hi)]
    rw [this] at e
    cases e
    exact List.mem_cons_self
  · refine List.mem_cons_of_mem _ ?_
    cases i with
    | zero =>
      rw [mSt1, List.getElem?_set_ne hj] at e
      refine List.mem_filter.mpr ⟨h _ _ e, ?_⟩
      simp
      exact fun q => hj q.symm
    | succ i =>
      rw [mSt1, List.getElem?_set_ne hj] at e
      obtain ⟨e1, e2⟩ := mKill_get e
      refine List.mem_filter.mpr ⟨h _ _ e1, ?_⟩
      simp only [cV_cat, Bool.and_eq_true, Bool.not_eq_true', beq_eq_false_iff_ne, Bool.and_eq_false_iff, ne_eq]
      refine ⟨fun q => hj q.symm, ?_⟩
      by_cases q : j = i
      · exact Or.inr (e2 q)
      · exact Or.inl (by omega)
theorem mSt2_get {b base : Nat} {l : mL} {i : Nat} {v : Value} {lv : List (Nat × Value)} (h : ∀ (i : Nat) (v : Value), l[i]? = some (some v) → (i, cV b base v) ∈ lv) (hi : i + 1 < l.length) {j : Nat} {w : Value} (e : (mSt2 l i v)[j]? = some (some w)) : (j, cV b base w) ∈ (i, cV b base v) :: lv.filter (fun q => !(q.1 == i) && (!(q.1 == i + 1) && !(q.1 + 1 == i && q.2.category == 2))) := by
  unfold mSt2 at e
  by_cases hj : i + 1 = j
  · subst hj
    rw [List.getElem?_set_self (by rw [mSt1_len]; exact hi)] at e
    cases e
  · rw [List.getElem?_set_ne hj] at e
    rcases List.mem_cons.mp (mSt1_get h (by omega) e) with q | q
    · exact List.mem_cons.mpr (Or.inl q)
    · refine List.mem_cons_of_mem _ ?_
      obtain ⟨q1, q2⟩ := List.mem_filter.mp q
      refine List.mem_filter.mpr ⟨q1, ?_⟩
      simp only [Bool.and_eq_true] at q2 ⊢
      refine ⟨q2.1, ?_, q2.2⟩
      simp
      exact fun z => hj z.symm
theorem mZ_get : ∀ (l : mL) (bs : List Bool) (i : Nat) (v : Value), (mZ l bs)[i]? = some (some v) → l[i]? = some (some v)
  | [], bs, i, v, h => by cases bs <;> simp [mZ] at h
  | o :: r, [], i, v, h => by simpa [mZ] using h
  | o :: r, b :: bs, 0, v, h => by
    simp only [mZ, List.getElem?_cons_zero, Option.some.injEq] at h ⊢
    split at h
    · exact h
    · cases h
  | o :: r, b :: bs, i + 1, v, h => by
    simp only [mZ, List.getElem?_cons_succ] at h ⊢
    exact mZ_get r bs i v h
theorem mZ_len : ∀ (l : mL) (bs : List Bool), (mZ l bs).length = l.length
  | [], bs => by cases bs <;> rfl
  | o :: r, [] => rfl
  | o :: r, b :: bs => by simp [mZ, mZ_len r bs]
theorem lOK_mask {b base : Nat} {ls : Array Slot} {n : Nat} {l : mL} (y pc : Nat) (h : lOK b base ls n l) : lOK b base ls n (mM y pc l) := by
  unfold mM
  split
  · exact h
  · obtain ⟨h0, lv, h1, h2⟩ := h
    exact ⟨by rw [mZ_len]; exact h0, lv, h1, fun i v e => h2 i v (mZ_get _ _ _ _ e)⟩
/-- the entry -/
theorem mEn_args (b base : Nat) : ∀ (vs : List Value) (k : Nat) (j : Nat) (w : Value), (mEn vs)[j]? = some (some w) → (k + j, cV b base w) ∈ lv_args k (vs.map (cV b base))
  | [], k, j, w, h => by simp [mEn] at h
  | v :: r, k, j, w, h => by
    unfold mEn at h
    simp only [List.map_cons, lv_args, cV_cat]
    by_cases hc : v.category = 2
    · rw [if_pos hc] at h ⊢
      match j, h with
      | 0, h => simp at h; subst h; exact List.mem_cons_self
      | 1, h => simp at h
      | j + 2, h =>
        have := mEn_args b base r (k + 2) j w (by simpa using h)
        rw [show k + (j + 2) = k + 2 + j by omega]
        exact List.mem_cons_of_mem _ this
    · rw [if_neg hc] at h ⊢
      match j, h with
      | 0, h => simp at h; subst h; exact List.mem_cons_self
      | j + 1, h =>
        have := mEn_args b base r (k + 1) j w (by simpa using h)
        rw [show k + (j + 1) = k + 1 + j by omega]
        exact List.mem_cons_of_mem _ this
theorem mEn_len (b base : Nat) : ∀ (vs : List Value), (lg_sl (vs.map (cV b base))).length = (mEn vs).length
  | [] => rfl
  | v :: r => by
    have ih := mEn_len b base r
    simp only [lg_sl] at ih
    by_cases hc : v.category = 2
    · simp [lg_sl, mEn, cV_cat, hc, ih]
    · simp [lg_sl, mEn, cV_cat, hc, ih]
theorem lOK_entry {b base n : Nat} {vs : List Value} (h : (mEn vs).length ≤ n) : lOK b base ((lg_sl (vs.map (cV b base)) ++ List.replicate (n - (lg_sl (vs.map (cV b base))).length) Slot.unset).toArray) n (mEnt vs n) := by
  refine ⟨by simp [mEnt]; omega, _, lv_entry (vs.map (cV b base)) (by rw [mEn_len]; exact h), fun i v e => ?_⟩
  unfold mEnt at e
  by_cases hi : i < (mEn vs).length
  · rw [List.getElem?_append_left hi] at e
    have := mEn_args b base vs 0 i v e
    rwa [Nat.zero_add] at this
  · rw [List.getElem?_append_right (by omega)] at e
    rw [List.getElem?_replicate] at e
    split at e
    · cases e
    · cases e
