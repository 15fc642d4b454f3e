/-! what the tables say, by links -/
def mYchk (y : Nat) : Bool := (decide ((mNm y).cls = "CarryAlikeLaw")) || (decide (lw_tbl[(mPos y).2.1]? = some (.initialized (mNm y).cls)) && decide (lw_tbl[(mPos y).2.2.1]? = some (if mSta y then .static (mNm y) else .instanceMethod (mNm y))) && (mSta y || mIni y || decide (lw_tbl[(mPos y).2.2.2]? = some (.selects (mNm y).cls (mNm y) (mNm y)))) && decide ((mNm y).cls ≠ "java/lang/invoke/MethodHandle") && decide ((mNm y).cls ≠ "java/lang/invoke/VarHandle") && decide ((parseMethodDescriptor (mNm y).desc).map (fun d => d.parameters.length) = some (mNp y)) && decide (mOwn y < mOwnN) && decide (mCn (mOwn y) = (mNm y).cls) && (mIni y == decide ((mNm y).name = "<init>")) && (!(mIni y) || decide (mRt y = none)))
set_option maxRecDepth 100000 in
theorem mY_ok : (List.range mCount).all mYchk = true := by decide +kernel
theorem mPl_0 : plainName (mCn 0) = true := by decide
theorem mPl_1 : plainName (mCn 1) = true := by decide
theorem mPl_2 : plainName (mCn 2) = true := by decide
theorem mPl_3 : plainName (mCn 3) = true := by decide
theorem mPl_4 : plainName (mCn 4) = true := by decide
theorem mPl_5 : plainName (mCn 5) = true := by decide
theorem mPl_6 : plainName (mCn 6) = true := by decide
theorem mPl_7 : plainName (mCn 7) = true := by decide
theorem mPl_8 : plainName (mCn 8) = true := by decide
theorem mPl_9 : plainName (mCn 9) = true := by decide
theorem mPl_10 : plainName (mCn 10) = true := by decide
theorem mPl_11 : plainName (mCn 11) = true := by decide
theorem mPl_12 : plainName (mCn 12) = true := by decide
theorem mPl_13 : plainName (mCn 13) = true := by decide
theorem mPl : ∀ o, o < mOwnN → plainName (mCn o) = true := by
  intro o ho
  match o, ho with
  | 0, _ => exact mPl_0
  | 1, _ => exact mPl_1
  | 2, _ => exact mPl_2
  | 3, _ => exact mPl_3
  | 4, _ => exact mPl_4
  | 5, _ => exact mPl_5
  | 6, _ => exact mPl_6
  | 7, _ => exact mPl_7
  | 8, _ => exact mPl_8
  | 9, _ => exact mPl_9
  | 10, _ => exact mPl_10
  | 11, _ => exact mPl_11
  | 12, _ => exact mPl_12
  | 13, _ => exact mPl_13
  | n + 14, h => exact absurd h (by unfold mOwnN; omega)
/-- the words that a callee may ask for -/
def lw_G : List Cond := lw_tbl.filter goodWord
theorem lw_in {w : Cond} {i : Nat} (h : lw_tbl[i]? = some w) (hg : goodWord w = true) : w ∈ lw_G := List.mem_filter.mpr ⟨List.mem_of_getElem? h, hg⟩
theorem all_range {n : Nat} {f : Nat → Bool} (h : (List.range n).all f = true) {i : Nat} (hi : i < n) : f i = true := List.all_eq_true.mp h i (List.mem_range.mpr hi)
/-- a field by its link -/
theorem mF_get {o idx ci k : Nat} (h : lk (mFt o) idx = some (ci, k)) : ∃ r, vwCl[ci]? = some r ∧ k < r.2.2 ∧ (r.2.1 k).1 = r.1 ∧ (Cond.fieldLink (mCn o) idx r.1 (r.2.1 k).2.1 (r.2.1 k).2.2.1 ∈ lw_G ∨ Cond.fieldLinkNest (mCn o) idx r.1 (r.2.1 k).2.1 (r.2.1 k).2.2.1 "CarryAlike" ∈ lw_tbl) := by
  have ho : o < mOwnN := by
    rcases Nat.lt_or_ge o mOwnN with q | q
    · exact q
    · rw [show mFt o = [] from mDef _ o q] at h; cases h
  have h1 := List.all_eq_true.mp (all_range mF_ok ho) _ (lk_mem h)
  unfold mFchk at h1
  dsimp only at h1
  split at h1
  · next r q e1 e2 =>
    simp only [Bool.and_eq_true, decide_eq_true_eq] at h1
    obtain ⟨⟨a1, a2⟩, a3⟩ := h1
    refine ⟨r, e1, a1, a2, ?_⟩
    by_cases hq : q.2 = true
    · rw [if_pos hq] at a3; exact Or.inr (List.mem_of_getElem? a3)
    · rw [if_neg hq] at a3; exact Or.inl (lw_in a3 rfl)
  · cases h1
theorem mM_get {o idx y : Nat} (h : lk (mMt o) idx = some y) : y < mCount ∧ (mNm y).cls ≠ "CarryAlikeLaw" ∧ (Cond.methodLink (mCn o) idx (mNm y) ∈ lw_G ∨ Cond.methodLinkNest (mCn o) idx (mNm y) "CarryAlike" ∈ lw_tbl) := by
  have ho : o < mOwnN := by
    rcases Nat.lt_or_ge o mOwnN with q | q
    · exact q
    · rw [show mMt o = [] from mDef _ o q] at h; cases h
  have h1 := List.all_eq_true.mp (all_range mM_ok ho) _ (lk_mem h)
  unfold mMchk at h1
  dsimp only at h1
  split at h1
  · next q e1 =>
    simp only [Bool.and_eq_true, decide_eq_true_eq] at h1
    obtain ⟨⟨a1, a2⟩, a3⟩ := h1
    refine ⟨a1, a2, ?_⟩
    by_cases hq : q.2 = true
    · rw [if_pos hq] at a3; exact Or.inr (List.mem_of_getElem? a3)
    · rw [if_neg hq] at a3; exact Or.inl (lw_in a3 rfl)
  · cases h1
theorem mY_get {y : Nat} (hy : y < mCount) (hl : (mNm y).cls ≠ "CarryAlikeLaw") : Cond.code (mNm y) (mCd y) (mMx y) (mRt y) ∈ lw_G ∧ Cond.initialized (mNm y).cls ∈ lw_G ∧ (mSta y = true → Cond.static (mNm y) ∈ lw_G) ∧ (mSta y = false → Cond.instanceMethod (mNm y) ∈ lw_G) ∧ (mSta y = false → mIni y = false → Cond.selects (mNm y).cls (mNm y) (mNm y) ∈ lw_G) ∧ ((mNm y).cls ≠ "java/lang/invoke/MethodHandle" ∧ (mNm y).cls ≠ "java/lang/invoke/VarHandle" ∧ (parseMethodDescriptor (mNm y).desc).map (fun d => d.parameters.length) = some (mNp y)) ∧ plainName (mNm y).cls = true ∧ mCn (mOwn y) = (mNm y).cls ∧ (mIni y = true → (mNm y).name = "<init>" ∧ mRt y = none) := by
  have h := all_range mY_ok hy
  unfold mYchk at h
  rw [decide_eq_false hl, Bool.false_or] at h
  simp only [Bool.and_eq_true, decide_eq_true_eq] at h
  obtain ⟨⟨⟨⟨⟨⟨⟨⟨⟨a2, a3⟩, a4⟩, a5⟩, a6⟩, a7⟩, a8⟩, a9⟩, a10⟩, a11⟩ := h
  have a0 := all_range mYcL_ok hy
  rw [decide_eq_false hl, Bool.false_or, decide_eq_true_eq] at a0
  have a1 : lw_tbl[(mPos y).1]? = some (.code (mNm y) (mCd y) (mMx y) (mRt y)) := mYc_all y a0
  refine ⟨lw_in a1 rfl, lw_in a2 rfl, fun e => ?_, fun e => ?_, fun e1 e2 => ?_, ⟨a5, a6, a7⟩, (by rw [← a9]; exact mPl _ a8), a9, fun e => ?_⟩
  · rw [if_pos e] at a3; exact lw_in a3 rfl
  · rw [if_neg (by rw [e]; decide)] at a3; exact lw_in a3 rfl
  · rw [e1, e2, Bool.false_or, Bool.false_or, decide_eq_true_eq] at a4; exact lw_in a4 rfl
  · rw [e] at a10 a11
    simp at a10 a11
    exact ⟨a10, a11⟩
theorem mC_get {o idx ci : Nat} (h : lk (mCt o) idx = some ci) : ∃ r, vwCl[ci]? = some r ∧ Cond.classLink (mCn o) idx r.1 ∈ lw_G := by
  have ho : o < mOwnN := by
    rcases Nat.lt_or_ge o mOwnN with q | q
    · exact q
    · rw [show mCt o = [] from mDef _ o q] at h; cases h
  have h1 := List.all_eq_true.mp (all_range mC_ok ho) _ (lk_mem h)
  unfold mCchk at h1
  dsimp only at h1
  split at h1
  · next r q e1 e2 =>
    rw [decide_eq_true_eq] at h1
    exact ⟨r, e1, lw_in h1 rfl⟩
  · cases h1
theorem mK_get {o idx : Nat} {v : Int32 ⊕ Int64} (h : lk (mKt o) idx = some v) : (match v with | .inl v => Cond.constant (mCn o) idx v | .inr v => Cond.constantLong (mCn o) idx v) ∈ lw_G := by
  have ho : o < mOwnN := by
    rcases Nat.lt_or_ge o mOwnN with q | q
    · exact q
    · rw [show mKt o = [] from mDef _ o q] at h; cases h
  have h1 := List.all_eq_true.mp (all_range mK_ok ho) _ (lk_mem h)
  unfold mKchk at h1
  dsimp only at h1
  split at h1
  · next q e1 =>
    rw [decide_eq_true_eq] at h1
    cases v with
    | inl v => exact lw_in h1 rfl
    | inr v => exact lw_in h1 rfl
  · cases h1
theorem mAny_get {l : List (Nat × Nat)} {i : Nat} (h : (l.any fun q => q.1 == i) = true) : ∃ p, (i, p) ∈ l := by
  obtain ⟨q, hq, he⟩ := List.any_eq_true.mp h
  exact ⟨q.2, by rw [← eq_of_beq he]; exact hq⟩
theorem mA_get {o idx : Nat} (h : mAt o idx = true) : Cond.classLink (mCn o) idx "CarryAlike$Walker" ∈ lw_G := by
  obtain ⟨p, hp⟩ := mAny_get h
  have ho : o < mOwnN := by
    rcases Nat.lt_or_ge o mOwnN with q | q
    · exact q
    · rw [show mAq o = [] from mDef _ o q] at hp; cases hp
  have h1 := List.all_eq_true.mp (all_range mA_ok ho) _ hp
  unfold mAchk at h1
  rw [decide_eq_true_eq] at h1
  exact lw_in h1 rfl
theorem mO_get {o idx : Nat} (h : mOt o idx = true) : Cond.methodLink (mCn o) idx Lib.objectInit ∈ lw_G := by
  obtain ⟨p, hp⟩ := mAny_get h
  have ho : o < mOwnN := by
    rcases Nat.lt_or_ge o mOwnN with q | q
    · exact q
    · rw [show mOq o = [] from mDef _ o q] at hp; cases hp
  have h1 := List.all_eq_true.mp (all_range mN_ok ho) _ hp
  unfold mNchk at h1
  rw [decide_eq_true_eq] at h1
  exact lw_in h1 rfl
theorem mN_get {o idx : Nat} (h : mNt o idx = true) : Cond.methodLink (mCn o) idx arraycopyName ∈ lw_G := by
  obtain ⟨p, hp⟩ := mAny_get h
  have ho : o < mOwnN := by
    rcases Nat.lt_or_ge o mOwnN with q | q
    · exact q
    · rw [show mNq o = [] from mDef _ o q] at hp; cases hp
  have h1 := List.all_eq_true.mp (all_range mAc_ok ho) _ hp
  unfold mAcchk at h1
  rw [decide_eq_true_eq] at h1
  exact lw_in h1 rfl
theorem mX_get {o idx : Nat} {q : Nat × Bool} (h : lk (mXq o) idx = some q) : Cond.methodLink (mCn o) idx (if q.2 = true then Lib.Math.max.name else Lib.Math.min.name) ∈ lw_G := by
  have ho : o < mOwnN := by
    rcases Nat.lt_or_ge o mOwnN with z | z
    · exact z
    · rw [show mXq o = [] from mDef _ o z] at h; cases h
  have h1 := List.all_eq_true.mp (all_range mX_ok ho) _ (lk_mem h)
  unfold mXchk at h1
  rw [decide_eq_true_eq] at h1
  exact lw_in h1 rfl
/-- a class by its number -/
theorem mL_get {ci : Nat} {r : vw_C} (h : vwCl[ci]? = some r) : Cond.instantiable r.1 r.2.2 ∈ lw_G ∧ Cond.initialized r.1 ∈ lw_G ∧ (∀ w ∈ u_ws r.1 r.2.1 r.2.2, w ∈ lw_G) ∧ (∀ k, k < r.2.2 → (parseFieldDescriptor (r.2.1 k).2.2.1).isSome = true) ∧ (∀ a, a < r.2.2 → ∀ b, b < r.2.2 → a ≠ b → (r.2.1 a).2.1 ≠ (r.2.1 b).2.1) ∧ mCn ci = r.1 := by
  have hlt : ci < vwCl.length := (List.getElem?_eq_some_iff.mp h).1
  have h1 := all_range mL_ok hlt
  rw [h] at h1
  dsimp only at h1
  unfold mLchk at h1
  split at h1
  · next q e1 =>
    simp only [Bool.and_eq_true, decide_eq_true_eq] at h1
    obtain ⟨⟨⟨a1, a2⟩, a3⟩, a4⟩ := h1
    have key : ∀ k, k < r.2.2 → _ := fun k hk => all_range a3 hk
    simp only [Bool.and_eq_true, decide_eq_true_eq] at key
    refine ⟨lw_in a1 rfl, lw_in a2 rfl, fun w hw => ?_, fun k hk => (key k hk).1.2, fun a ha b hb hne => ?_, a4⟩
    · obtain ⟨k, hk, rfl⟩ := List.mem_map.mp hw
      refine lw_in (key k (List.mem_range.mp hk)).1.1 ?_
      unfold u_lay
      split <;> rfl
    · have := all_range (key b hb).2 ha
      simp only [Bool.or_eq_true, decide_eq_true_eq] at this
      exact this.resolve_left hne
  · cases h1
