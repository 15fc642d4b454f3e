/-! one step of the machine is a step of the bytes -/
section INV
variable {σ : Type} {L len pc i : Nat} {l : mL} {st : List Value} {h : σ} {q : mR σ} {O : mO σ} {X : mX} {y : Nat} {off : Int}
theorem mGo_inv (hs : mGo L len pc l st h = some q) : len = L ∧ q = .inl (pc + L, l, st, h) := by
  unfold mGo at hs
  split at hs
  · next e => exact ⟨e, (Option.some.inj hs).symm⟩
  · cases hs
theorem mLd_inv {ok : Value → Bool} (hs : mLd L len pc l i st h ok = some q) : ∃ v, l[i]? = some (some v) ∧ ok v = true ∧ len = L ∧ q = .inl (pc + L, l, v :: st, h) := by
  unfold mLd at hs
  split at hs
  · next v e =>
    split at hs
    · next e2 => exact ⟨v, e, e2, mGo_inv hs⟩
    · cases hs
  · cases hs
theorem mStI_inv (hs : mStI L len pc l i st h = some q) : ∃ x r, st = .int x :: r ∧ i < l.length ∧ len = L ∧ q = .inl (pc + L, mSt1 l i (.int x), r, h) := by
  unfold mStI at hs
  split at hs
  · next x r =>
    split at hs
    · next e => exact ⟨x, r, rfl, e, mGo_inv hs⟩
    · cases hs
  · cases hs
theorem mStA_inv (hs : mStA L len pc l i st h = some q) : ∃ v r, st = v :: r ∧ (v = .null ∨ ∃ a, v = .ref a) ∧ i < l.length ∧ len = L ∧ q = .inl (pc + L, mSt1 l i v, r, h) := by
  unfold mStA at hs
  split at hs
  · next x r =>
    split at hs
    · next e => exact ⟨_, r, rfl, Or.inr ⟨x, rfl⟩, e, mGo_inv hs⟩
    · cases hs
  · next r =>
    split at hs
    · next e => exact ⟨_, r, rfl, Or.inl rfl, e, mGo_inv hs⟩
    · cases hs
  · cases hs
theorem mStL_inv (hs : mStL L len pc l i st h = some q) : ∃ x r, st = .long x :: r ∧ i + 1 < l.length ∧ len = L ∧ q = .inl (pc + L, mSt2 l i (.long x), r, h) := by
  unfold mStL at hs
  split at hs
  · next x r =>
    split at hs
    · next e => exact ⟨x, r, rfl, e, mGo_inv hs⟩
    · cases hs
  · cases hs
theorem mI1_inv {f : Int32 → Value} (hs : mI1 len pc l st h f = some q) : ∃ x r, st = .int x :: r ∧ len = 1 ∧ q = .inl (pc + 1, l, f x :: r, h) := by
  unfold mI1 at hs
  split at hs
  · next x r => exact ⟨x, r, rfl, mGo_inv hs⟩
  · cases hs
theorem mL1_inv {f : Int64 → Value} (hs : mL1 len pc l st h f = some q) : ∃ x r, st = .long x :: r ∧ len = 1 ∧ q = .inl (pc + 1, l, f x :: r, h) := by
  unfold mL1 at hs
  split at hs
  · next x r => exact ⟨x, r, rfl, mGo_inv hs⟩
  · cases hs
theorem mII_inv {f : Int32 → Int32 → Int32} (hs : mII len pc l st h f = some q) : ∃ x z r, st = .int z :: .int x :: r ∧ len = 1 ∧ q = .inl (pc + 1, l, .int (f x z) :: r, h) := by
  unfold mII at hs
  split at hs
  · next z x r => exact ⟨x, z, r, rfl, mGo_inv hs⟩
  · cases hs
theorem mIZ_inv {f : Int32 → Int32 → Int32} (hs : mIZ len pc l st h f = some q) : ∃ x z r, st = .int z :: .int x :: r ∧ ¬ z = 0 ∧ len = 1 ∧ q = .inl (pc + 1, l, .int (f x z) :: r, h) := by
  unfold mIZ at hs
  split at hs
  · next z x r =>
    split at hs
    · cases hs
    · next e => exact ⟨x, z, r, rfl, e, mGo_inv hs⟩
  · cases hs
theorem mLL_inv {f : Int64 → Int64 → Value} (hs : mLL len pc l st h f = some q) : ∃ x z r, st = .long z :: .long x :: r ∧ len = 1 ∧ q = .inl (pc + 1, l, f x z :: r, h) := by
  unfold mLL at hs
  split at hs
  · next z x r => exact ⟨x, z, r, rfl, mGo_inv hs⟩
  · cases hs
theorem mLZ_inv {f : Int64 → Int64 → Value} (hs : mLZ len pc l st h f = some q) : ∃ x z r, st = .long z :: .long x :: r ∧ ¬ z = 0 ∧ len = 1 ∧ q = .inl (pc + 1, l, f x z :: r, h) := by
  unfold mLZ at hs
  split at hs
  · next z x r =>
    split at hs
    · cases hs
    · next e => exact ⟨x, z, r, rfl, e, mGo_inv hs⟩
  · cases hs
theorem mLI_inv {f : Int64 → Int32 → Int64} (hs : mLI len pc l st h f = some q) : ∃ x z r, st = .int z :: .long x :: r ∧ len = 1 ∧ q = .inl (pc + 1, l, .long (f x z) :: r, h) := by
  unfold mLI at hs
  split at hs
  · next z x r => exact ⟨x, z, r, rfl, mGo_inv hs⟩
  · cases hs
theorem mTg_inv {t : Nat} (hs : mTg pc off = some t) : (pc : Int) + off = (t : Int) := by
  unfold mTg at hs
  split at hs
  · next e => rw [← Option.some.inj hs]; omega
  · cases hs
theorem mJp_inv {cb : Bool} (hs : mJp len pc l st h cb off = some q) : ∃ t : Nat, len = 3 ∧ (pc : Int) + off = (t : Int) ∧ q = .inl (if cb then t else pc + 3, l, st, h) := by
  unfold mJp at hs
  split at hs
  · next e =>
    split at hs
    · next t e2 => exact ⟨t, e, mTg_inv e2, (Option.some.inj hs).symm⟩
    · cases hs
  · cases hs
theorem mIf_inv {cc : ClassFile.Cond} (hs : mIf cc len pc l st h off = some q) : ∃ x r, st = .int x :: r ∧ ∃ t : Nat, len = 3 ∧ (pc : Int) + off = (t : Int) ∧ q = .inl (if mCb cc x 0 then t else pc + 3, l, r, h) := by
  unfold mIf at hs
  split at hs
  · next x r => exact ⟨x, r, rfl, mJp_inv hs⟩
  · cases hs
theorem mIc_inv {cc : ClassFile.Cond} (hs : mIc cc len pc l st h off = some q) : ∃ x z r, st = .int z :: .int x :: r ∧ ∃ t : Nat, len = 3 ∧ (pc : Int) + off = (t : Int) ∧ q = .inl (if mCb cc x z then t else pc + 3, l, r, h) := by
  unfold mIc at hs
  split at hs
  · next z x r => exact ⟨x, z, r, rfl, mJp_inv hs⟩
  · cases hs
theorem mNl_inv {w : Bool} (hs : mNl w len pc l st h off = some q) : (∃ r, st = .null :: r ∧ ∃ t : Nat, len = 3 ∧ (pc : Int) + off = (t : Int) ∧ q = .inl (if w then t else pc + 3, l, r, h)) ∨ ∃ a r, st = .ref a :: r ∧ ∃ t : Nat, len = 3 ∧ (pc : Int) + off = (t : Int) ∧ q = .inl (if (!w) then t else pc + 3, l, r, h) := by
  unfold mNl at hs
  split at hs
  · next r => exact Or.inl ⟨r, rfl, mJp_inv hs⟩
  · next a r => exact Or.inr ⟨a, r, rfl, mJp_inv hs⟩
  · cases hs
theorem mSw_inv {d lo hi : Int} {os : Array Int} (hs : mSw pc l st h d lo hi os = some q) : ∃ x r o, st = .int x :: r ∧ mSo d lo hi os x = some o ∧ ∃ t : Nat, (pc : Int) + o = (t : Int) ∧ q = .inl (t, l, r, h) := by
  unfold mSw at hs
  split at hs
  · next x r =>
    split at hs
    · next o e =>
      split at hs
      · next t e2 => exact ⟨x, r, o, rfl, e, t, mTg_inv e2, (Option.some.inj hs).symm⟩
      · cases hs
    · cases hs
  · cases hs
theorem mAl_inv {k : Nat} (hs : mAl O X k len pc l st h = some q) : ∃ j a r, st = .int j :: .ref a :: r ∧ len = 1 ∧ ((a = mSid ∧ k = 0 ∧ inb j (X.1 - 1) = true ∧ q = .inl (pc + 1, l, .int (X.2 j.toNatClampNeg) :: r, h)) ∨ ∃ v, O.ld h a k j = some v ∧ q = .inl (pc + 1, l, v :: r, h)) := by
  unfold mAl at hs
  split at hs
  · next j a r =>
    split at hs
    · next e =>
      split at hs
      · next e2 =>
        obtain ⟨g1, g2⟩ := mGo_inv hs
        exact ⟨j, a, r, rfl, g1, Or.inl ⟨e, e2.1, e2.2, g2⟩⟩
      · cases hs
    · split at hs
      · next v e2 =>
        obtain ⟨g1, g2⟩ := mGo_inv hs
        exact ⟨j, a, r, rfl, g1, Or.inr ⟨v, e2, g2⟩⟩
      · cases hs
  · cases hs
theorem mAs_inv {k : Nat} (hs : mAs O k len pc l st h = some q) : ∃ v j a r h1, st = v :: .int j :: .ref a :: r ∧ len = 1 ∧ O.st h a k j v = some h1 ∧ q = .inl (pc + 1, l, r, h1) := by
  unfold mAs at hs
  split at hs
  · next v j a r =>
    split at hs
    · next h1 e =>
      obtain ⟨g1, g2⟩ := mGo_inv hs
      exact ⟨v, j, a, r, h1, rfl, g1, e, g2⟩
    · cases hs
  · cases hs
theorem mAn_inv (hs : mAn O X len pc l st h = some q) : ∃ a r, st = .ref a :: r ∧ len = 1 ∧ ((a = mSid ∧ q = .inl (pc + 1, l, .int (Int32.ofNat (X.1 - 1)) :: r, h)) ∨ ∃ v, O.ln h a = some v ∧ q = .inl (pc + 1, l, .int v :: r, h)) := by
  unfold mAn at hs
  split at hs
  · next a r =>
    split at hs
    · next e =>
      split at hs
      · cases hs
      · obtain ⟨g1, g2⟩ := mGo_inv hs
        exact ⟨a, r, rfl, g1, Or.inl ⟨e, g2⟩⟩
    · split at hs
      · next v e2 =>
        obtain ⟨g1, g2⟩ := mGo_inv hs
        exact ⟨a, r, rfl, g1, Or.inr ⟨v, e2, g2⟩⟩
      · cases hs
  · cases hs
theorem mNa_inv {t : Nat} (hs : mNa O L t len pc l st h = some q) : ∃ n r z, st = .int n :: r ∧ O.na h t n = some z ∧ len = L ∧ q = .inl (pc + L, l, .ref z.2 :: r, z.1) := by
  unfold mNa at hs
  split at hs
  · next n r =>
    split at hs
    · next z e => exact ⟨n, r, z, rfl, e, mGo_inv hs⟩
    · cases hs
  · cases hs
theorem mGf_inv {idx : Nat} (hs : mGf O y len pc l st h idx = some q) : ∃ a r z v, st = .ref a :: r ∧ lk (mFt (mOwn y)) idx = some z ∧ O.gf h a z.1 z.2 = some v ∧ len = 3 ∧ q = .inl (pc + 3, l, v :: r, h) := by
  unfold mGf at hs
  split at hs
  · next a r =>
    split at hs
    · next z e =>
      split at hs
      · next v e2 => exact ⟨a, r, z, v, rfl, e, e2, mGo_inv hs⟩
      · cases hs
    · cases hs
  · cases hs
theorem mPf_inv {idx : Nat} (hs : mPf O y len pc l st h idx = some q) : ∃ v a r z h1, st = v :: .ref a :: r ∧ lk (mFt (mOwn y)) idx = some z ∧ (mFin z.1 z.2 && !(mIni y && (mOwn y == z.1))) = false ∧ O.pf h a z.1 z.2 v = some h1 ∧ len = 3 ∧ q = .inl (pc + 3, l, r, h1) := by
  unfold mPf at hs
  split at hs
  · next v a r =>
    split at hs
    · next z e =>
      split at hs
      · cases hs
      · next e3 =>
        split at hs
        · next h1 e2 => exact ⟨v, a, r, z, h1, rfl, e, by simpa using e3, e2, mGo_inv hs⟩
        · cases hs
    · cases hs
  · cases hs
theorem mNw_inv {idx : Nat} (hs : mNw O y len pc l st h idx = some q) : ∃ ci z, lk (mCt (mOwn y)) idx = some ci ∧ O.nw h ci = some z ∧ len = 3 ∧ q = .inl (pc + 3, l, .ref z.2 :: st, z.1) := by
  unfold mNw at hs
  split at hs
  · next ci e =>
    split at hs
    · next z e2 => exact ⟨ci, z, e, e2, mGo_inv hs⟩
    · cases hs
  · cases hs
theorem mCs_inv {idx : Nat} {w : Bool} (hs : mCs L len y pc l st h idx w = some q) : (w = false ∧ ∃ v, lk (mKt (mOwn y)) idx = some (.inl v) ∧ len = L ∧ q = .inl (pc + L, l, .int v :: st, h)) ∨ (w = true ∧ ∃ v, lk (mKt (mOwn y)) idx = some (.inr v) ∧ len = L ∧ q = .inl (pc + L, l, .long v :: st, h)) := by
  unfold mCs at hs
  split at hs
  · next v e =>
    split at hs
    · cases hs
    · next e2 => exact Or.inl ⟨by simpa using e2, v, e, mGo_inv hs⟩
  · next v e =>
    split at hs
    · next e2 => exact Or.inr ⟨e2, v, e, mGo_inv hs⟩
    · cases hs
  · cases hs
theorem mCv_inl {sp : Bool} {idx : Nat} {z : Nat × mL × List Value × σ} (hs : mCv O sp y len pc l st h idx = some (.inl z)) : sp = true ∧ mOt (mOwn y) idx = true ∧ mRo1 y = true ∧ ∃ a r, st = .ref a :: r ∧ mSm r = true ∧ len = 3 ∧ z = (pc + 3, l, r, h) := by
  unfold mCv at hs
  split at hs
  · split at hs
    · split at hs
      · cases hs
      · cases hs
    · cases hs
  · split at hs
    · next e =>
      simp only [Bool.and_eq_true] at e
      split at hs
      · next a r =>
        split at hs
        · next e2 =>
          obtain ⟨g1, g2⟩ := mGo_inv hs
          exact ⟨e.1.1, e.1.2, e.2, a, r, rfl, e2, g1, Sum.inl.inj g2⟩
        · cases hs
      · cases hs
    · cases hs
theorem mCi_inl {idx : Nat} {z : Nat × mL × List Value × σ} (hs : mCi O y len pc l st h idx = some (.inl z)) : (∃ k v w r, lk (mXq (mOwn y)) idx = some k ∧ mRx y = true ∧ st = .int w :: .int v :: r ∧ mSm r = true ∧ len = 3 ∧ z = (pc + 3, l, .int (if k.2 = true then (if v < w then w else v) else (if w < v then w else v)) :: r, h)) ∨ ∃ n dp a sp a0 r h1, mNt (mOwn y) idx = true ∧ mRn y = true ∧ st = .int n :: .int dp :: .ref a :: .int sp :: .ref a0 :: r ∧ mSm r = true ∧ O.cp h a0 sp a dp n = some h1 ∧ len = 3 ∧ z = (pc + 3, l, r, h1) := by
  unfold mCi at hs
  split at hs
  · split at hs
    · cases hs
    · cases hs
  · split at hs
    · next k e =>
      split at hs
      · next e1 =>
        split at hs
        · next w v r =>
          split at hs
          · next e2 =>
            obtain ⟨g1, g2⟩ := mGo_inv hs
            exact Or.inl ⟨k, v, w, r, e, e1, rfl, e2, g1, Sum.inl.inj g2⟩
          · cases hs
        · cases hs
      · cases hs
    · split at hs
      · next e =>
        simp only [Bool.and_eq_true] at e
        split at hs
        · next n dp a sp a0 r =>
          split at hs
          · next e2 =>
            split at hs
            · next h1 e3 =>
              obtain ⟨g1, g2⟩ := mGo_inv hs
              exact Or.inr ⟨n, dp, a, sp, a0, r, h1, e.1, e.2, rfl, e2, e3, g1, Sum.inl.inj g2⟩
            · cases hs
          · cases hs
        · cases hs
      · cases hs
theorem mSm_inv {r : List Value} (hs : mSm r = true) : (r.map fun v => v.category).sum ≤ 8 := by
  unfold mSm at hs
  exact of_decide_eq_true hs
end INV
section STEP7
variable {p : Program} {L : Launch} {e : Env} {R : Room} {s : State} {m : MethodId} {args : Array Value} {below : List Frame} {meth : Method} {c : Code} {H : Heap} {locs : List Loc} {cells slots : Nat} {Q : State → Prop}
variable {D : va_G} {tc : Nat → ClassId} {b base : Nat} {h : mH} {X : mX} {y pc : Nat} {ls : Array Slot} {l : mL} {st : List Value}
theorem lOK_size {n : Nat} (hl : lOK b base ls n l) : ls.size = n := by
  obtain ⟨-, lv, h1, -⟩ := hl
  exact h1.1
set_option maxHeartbeats 4000000 in
theorem step_ok (hc : cOK p R s m args meth c y) (hg : gOK D tc b X s) (hb1 : b < s.heap.size) (hb2 : ¬ base ≤ b) (hw : wOK D tc b base h H) (hS : va_S (fun q : Nat => base ≤ q) s.heap H locs) (hl : lOK b base ls (mMx y) l) {i : Instr} {len pc1 : Nat} {l1 : mL} {st1 : List Value} {h1 : mH} (hs : mIns oH X y pc len l st h i = some (.inl (pc1, l1, st1, h1))) (hd : decode (mCd y) pc = .ok (i, len)) (hR1 : cells + (h1.length - h.length) ≤ R.cells) (hR2 : slots + (hSz h1 - hSz h) ≤ R.slots)
    (kk : h.length ≤ h1.length → hSz h ≤ hSz h1 → ∀ H1 locs1 ls1, kOK D tc b base s.heap h1 H1 locs1 → lOK b base ls1 (mMx y) l1 → W p L e R s m args below meth c H1 locs1 (cells + (h1.length - h.length)) (slots + (hSz h1 - hSz h)) Q (F0 m pc1 ls1 (st1.map (cV b base)))) : W p L e R s m args below meth c H locs cells slots Q (F0 m pc ls (st.map (cV b base))) := by
  have hx := hc.1
  have hb := hc.2.1
  have hown := hc.2.2.2.2.1
  have hts := hc.2.2.2.2.2.1
  have k0 : h1 = h → ∀ ls1, lOK b base ls1 (mMx y) l1 → W p L e R s m args below meth c H locs cells slots Q (F0 m pc1 ls1 (st1.map (cV b base))) := by
    intro hh ls1 hl1
    subst hh
    have k := kk (Nat.le_refl _) (Nat.le_refl _) H locs ls1 ⟨hw, hS⟩ hl1
    simpa only [Nat.sub_self, Nat.add_zero] using k
  have ks : h1.length = h.length → hSz h1 = hSz h → ∀ H1 locs1 ls1, kOK D tc b base s.heap h1 H1 locs1 → lOK b base ls1 (mMx y) l1 → W p L e R s m args below meth c H1 locs1 cells slots Q (F0 m pc1 ls1 (st1.map (cV b base))) := by
    intro e1 e2 H1 locs1 ls1 g1 g2
    have k := kk (by omega) (by omega) H1 locs1 ls1 g1 g2
    rw [e1, e2] at k
    simpa only [Nat.sub_self, Nat.add_zero] using k
  cases i with
  | iconst n =>
    change mGo 1 len pc l (.int (Int32.ofInt n) :: st) h = _ at hs
    obtain ⟨rfl, hq⟩ := mGo_inv hs
    cases hq
    exact lv_iconst hx hb hd rfl (k0 rfl ls hl)
  | bipush n =>
    change mGo 2 len pc l (.int (Int8.ofInt n).toInt32 :: st) h = _ at hs
    obtain ⟨rfl, hq⟩ := mGo_inv hs
    cases hq
    exact lv_bipush hx hb hd rfl (k0 rfl ls hl)
  | sipush n =>
    change mGo 3 len pc l (.int (Int16.ofInt n).toInt32 :: st) h = _ at hs
    obtain ⟨rfl, hq⟩ := mGo_inv hs
    cases hq
    exact lv_sipush hx hb hd rfl (k0 rfl ls hl)
  | lconst n =>
    change mGo 1 len pc l (.long (Int64.ofNat (n : Nat)) :: st) h = _ at hs
    obtain ⟨rfl, hq⟩ := mGo_inv hs
    cases hq
    exact lv_lconst hx hb hd rfl (k0 rfl ls hl)
  | aconst_null =>
    change mGo 1 len pc l (.null :: st) h = _ at hs
    obtain ⟨rfl, hq⟩ := mGo_inv hs
    cases hq
    exact lv_null hx hb hd (k0 rfl ls hl)
  | ldc idx =>
    change mCs 2 len y pc l st h idx false = _ at hs
    rcases mCs_inv hs with ⟨-, v, e1, rfl, hq⟩ | ⟨hf, -⟩
    · cases hq
      exact lv_ldc hx hb hown (hts _ (mK_get e1)) hd (k0 rfl ls hl)
    · cases hf
  | ldc_w idx =>
    change mCs 3 len y pc l st h idx false = _ at hs
    rcases mCs_inv hs with ⟨-, v, e1, rfl, hq⟩ | ⟨hf, -⟩
    · cases hq
      exact lv_ldcw hx hb hown (hts _ (mK_get e1)) hd (k0 rfl ls hl)
    · cases hf
  | ldc2_w idx =>
    change mCs 3 len y pc l st h idx true = _ at hs
    rcases mCs_inv hs with ⟨hf, -⟩ | ⟨-, v, e1, rfl, hq⟩
    · cases hf
    · cases hq
      exact lv_ldc2 hx hb hown (hts _ (mK_get e1)) hd (k0 rfl ls hl)
  | iload_n k =>
    change mLd 1 len pc l k st h isI = _ at hs
    obtain ⟨v, e1, e2, rfl, hq⟩ := mLd_inv hs
    cases hq
    cases v with
    | int x => exact lv_iload_n hx hb hd rfl (lOK_at hl e1) (k0 rfl ls hl)
    | _ => cases e2
  | iload k =>
    change mLd 2 len pc l k st h isI = _ at hs
    obtain ⟨v, e1, e2, rfl, hq⟩ := mLd_inv hs
    cases hq
    cases v with
    | int x => exact lv_iload hx hb hd (lOK_at hl e1) (k0 rfl ls hl)
    | _ => cases e2
  | lload_n k =>
    change mLd 1 len pc l k st h isL = _ at hs
    obtain ⟨v, e1, e2, rfl, hq⟩ := mLd_inv hs
    cases hq
    cases v with
    | long x => exact lv_lload_n hx hb hd rfl (lOK_at hl e1) (k0 rfl ls hl)
    | _ => cases e2
  | lload k =>
    change mLd 2 len pc l k st h isL = _ at hs
    obtain ⟨v, e1, e2, rfl, hq⟩ := mLd_inv hs
    cases hq
    cases v with
    | long x => exact lv_lload hx hb hd (lOK_at hl e1) (k0 rfl ls hl)
    | _ => cases e2
  | aload_n k =>
    change mLd 1 len pc l k st h isA = _ at hs
    obtain ⟨v, e1, e2, rfl, hq⟩ := mLd_inv hs
    cases hq
    cases v with
    | ref x => exact lv_aload_n hx hb hd rfl (lOK_at hl e1) (k0 rfl ls hl)
    | null => exact lv_aload_nN hx hb hd rfl (lOK_at hl e1) (k0 rfl ls hl)
    | _ => cases e2
  | aload k =>
    change mLd 2 len pc l k st h isA = _ at hs
    obtain ⟨v, e1, e2, rfl, hq⟩ := mLd_inv hs
    cases hq
    cases v with
    | ref x => exact lv_aload hx hb hd (lOK_at hl e1) (k0 rfl ls hl)
    | null => exact lv_aloadN hx hb hd (lOK_at hl e1) (k0 rfl ls hl)
    | _ => cases e2
  | istore_n k =>
    change mStI 1 len pc l k st h = _ at hs
    obtain ⟨x, r, rfl, hi, rfl, hq⟩ := mStI_inv hs
    cases hq
    obtain ⟨hn, lv, h1, h2⟩ := hl
    exact lv_istore_n hx hb hd rfl h1 (by rw [← hn]; exact hi) rfl (fun ls1 hl1 => k0 rfl ls1 ⟨by rw [mSt1_len]; exact hn, _, hl1, fun _ _ z => mSt1_get h2 hi z⟩)
  | istore k =>
    change mStI 2 len pc l k st h = _ at hs
    obtain ⟨x, r, rfl, hi, rfl, hq⟩ := mStI_inv hs
    cases hq
    obtain ⟨hn, lv, h1, h2⟩ := hl
    exact lv_istore hx hb hd h1 (by rw [← hn]; exact hi) rfl (fun ls1 hl1 => k0 rfl ls1 ⟨by rw [mSt1_len]; exact hn, _, hl1, fun _ _ z => mSt1_get h2 hi z⟩)
  | lstore_n k =>
    change mStL 1 len pc l k st h = _ at hs
    obtain ⟨x, r, rfl, hi, rfl, hq⟩ := mStL_inv hs
    cases hq
    obtain ⟨hn, lv, h1, h2⟩ := hl
    exact lv_lstore_n hx hb hd rfl h1 (by rw [← hn]; exact hi) rfl (fun ls1 hl1 => k0 rfl ls1 ⟨by rw [mSt2_len]; exact hn, _, hl1, fun _ _ z => mSt2_get h2 hi z⟩)
  | lstore k =>
    change mStL 2 len pc l k st h = _ at hs
    obtain ⟨x, r, rfl, hi, rfl, hq⟩ := mStL_inv hs
    cases hq
    obtain ⟨hn, lv, h1, h2⟩ := hl
    exact lv_lstore hx hb hd h1 (by rw [← hn]; exact hi) rfl (fun ls1 hl1 => k0 rfl ls1 ⟨by rw [mSt2_len]; exact hn, _, hl1, fun _ _ z => mSt2_get h2 hi z⟩)
  | astore_n k =>
    change mStA 1 len pc l k st h = _ at hs
    obtain ⟨v, r, rfl, hv, hi, rfl, hq⟩ := mStA_inv hs
    cases hq
    obtain ⟨hn, lv, h1, h2⟩ := hl
    rcases hv with rfl | ⟨a, rfl⟩
    · exact lv_astore_nN hx hb hd rfl h1 (by rw [← hn]; exact hi) rfl (fun ls1 hl1 => k0 rfl ls1 ⟨by rw [mSt1_len]; exact hn, _, hl1, fun _ _ z => mSt1_get h2 hi z⟩)
    · exact lv_astore_n hx hb hd rfl h1 (by rw [← hn]; exact hi) rfl (fun ls1 hl1 => k0 rfl ls1 ⟨by rw [mSt1_len]; exact hn, _, hl1, fun _ _ z => mSt1_get h2 hi z⟩)
  | astore k =>
    change mStA 2 len pc l k st h = _ at hs
    obtain ⟨v, r, rfl, hv, hi, rfl, hq⟩ := mStA_inv hs
    cases hq
    obtain ⟨hn, lv, h1, h2⟩ := hl
    rcases hv with rfl | ⟨a, rfl⟩
    · exact lv_astoreN hx hb hd h1 (by rw [← hn]; exact hi) rfl (fun ls1 hl1 => k0 rfl ls1 ⟨by rw [mSt1_len]; exact hn, _, hl1, fun _ _ z => mSt1_get h2 hi z⟩)
    · exact lv_astore hx hb hd h1 (by rw [← hn]; exact hi) rfl (fun ls1 hl1 => k0 rfl ls1 ⟨by rw [mSt1_len]; exact hn, _, hl1, fun _ _ z => mSt1_get h2 hi z⟩)
  | iinc k n =>
    change (match l[k]? with | some (some (.int x)) => mGo 3 len pc (mSt1 l k (.int (x + Int32.ofInt n))) st h | _ => none) = _ at hs
    split at hs
    case h_2 => cases hs
    next x e1 =>
    obtain ⟨rfl, hq⟩ := mGo_inv hs
    cases hq
    obtain ⟨hn, lv, h1, h2⟩ := hl
    have hi : k < l.length := (List.getElem?_eq_some_iff.mp e1).1
    obtain ⟨j, hj⟩ := List.getElem?_of_mem (h2 _ _ e1)
    exact lv_iinc hx hb hd h1 hj rfl (by rw [← hn]; exact hi) rfl (fun ls1 hl1 => k0 rfl ls1 ⟨by rw [mSt1_len]; exact hn, _, hl1, fun _ _ z => mSt1_get h2 hi z⟩)
  | iadd =>
    change mII len pc l st h (fun x y => x + y) = _ at hs
    obtain ⟨x, z, r, rfl, rfl, hq⟩ := mII_inv hs
    cases hq
    exact lv_iadd hx hb hd (k0 rfl ls hl)
  | isub =>
    change mII len pc l st h (fun x y => x - y) = _ at hs
    obtain ⟨x, z, r, rfl, rfl, hq⟩ := mII_inv hs
    cases hq
    exact lv_isub hx hb hd (k0 rfl ls hl)
  | imul =>
    change mII len pc l st h (fun x y => x * y) = _ at hs
    obtain ⟨x, z, r, rfl, rfl, hq⟩ := mII_inv hs
    cases hq
    exact lv_imul hx hb hd (k0 rfl ls hl)
  | iand =>
    change mII len pc l st h (fun x y => x &&& y) = _ at hs
    obtain ⟨x, z, r, rfl, rfl, hq⟩ := mII_inv hs
    cases hq
    exact lv_iand hx hb hd (k0 rfl ls hl)
  | ior =>
    change mII len pc l st h (fun x y => x ||| y) = _ at hs
    obtain ⟨x, z, r, rfl, rfl, hq⟩ := mII_inv hs
    cases hq
    exact lv_ior hx hb hd (k0 rfl ls hl)
  | ixor =>
    change mII len pc l st h (fun x y => x ^^^ y) = _ at hs
    obtain ⟨x, z, r, rfl, rfl, hq⟩ := mII_inv hs
    cases hq
    exact lv_ixor hx hb hd (k0 rfl ls hl)
  | ishl =>
    change mII len pc l st h (fun x y => x <<< (y &&& 31)) = _ at hs
    obtain ⟨x, z, r, rfl, rfl, hq⟩ := mII_inv hs
    cases hq
    exact lv_ishl hx hb hd (k0 rfl ls hl)
  | ishr =>
    change mII len pc l st h (fun x y => x >>> (y &&& 31)) = _ at hs
    obtain ⟨x, z, r, rfl, rfl, hq⟩ := mII_inv hs
    cases hq
    exact lv_ishr hx hb hd (k0 rfl ls hl)
  | iushr =>
    change mII len pc l st h (fun x y => (x.toUInt32 >>> (y.toUInt32 &&& Int32.toUInt32 31)).toInt32) = _ at hs
    obtain ⟨x, z, r, rfl, rfl, hq⟩ := mII_inv hs
    cases hq
    exact lv_iushr hx hb hd rfl (k0 rfl ls hl)
  | idiv =>
    change mIZ len pc l st h (fun x y => x / y) = _ at hs
    obtain ⟨x, z, r, rfl, hz, rfl, hq⟩ := mIZ_inv hs
    cases hq
    exact lv_idiv hx hb hd hz (k0 rfl ls hl)
  | irem =>
    change mIZ len pc l st h (fun x y => x - x / y * y) = _ at hs
    obtain ⟨x, z, r, rfl, hz, rfl, hq⟩ := mIZ_inv hs
    cases hq
    exact lv_irem hx hb hd hz (k0 rfl ls hl)
  | ineg =>
    change mI1 len pc l st h (fun x => .int (-x)) = _ at hs
    obtain ⟨x, r, rfl, rfl, hq⟩ := mI1_inv hs
    cases hq
    exact lv_ineg hx hb hd (k0 rfl ls hl)
  | ladd =>
    change mLL len pc l st h (fun x y => .long (x + y)) = _ at hs
    obtain ⟨x, z, r, rfl, rfl, hq⟩ := mLL_inv hs
    cases hq
    exact lv_ladd hx hb hd (k0 rfl ls hl)
  | lsub =>
    change mLL len pc l st h (fun x y => .long (x - y)) = _ at hs
    obtain ⟨x, z, r, rfl, rfl, hq⟩ := mLL_inv hs
    cases hq
    exact lv_lsub hx hb hd (k0 rfl ls hl)
  | lmul =>
    change mLL len pc l st h (fun x y => .long (x * y)) = _ at hs
    obtain ⟨x, z, r, rfl, rfl, hq⟩ := mLL_inv hs
    cases hq
    exact lv_lmul hx hb hd (k0 rfl ls hl)
  | land =>
    change mLL len pc l st h (fun x y => .long (x &&& y)) = _ at hs
    obtain ⟨x, z, r, rfl, rfl, hq⟩ := mLL_inv hs
    cases hq
    exact lv_land hx hb hd (k0 rfl ls hl)
  | lor =>
    change mLL len pc l st h (fun x y => .long (x ||| y)) = _ at hs
    obtain ⟨x, z, r, rfl, rfl, hq⟩ := mLL_inv hs
    cases hq
    exact lv_lor hx hb hd (k0 rfl ls hl)
  | lcmp =>
    change mLL len pc l st h (fun x y => .int (lg_cmp x y)) = _ at hs
    obtain ⟨x, z, r, rfl, rfl, hq⟩ := mLL_inv hs
    cases hq
    exact W.lcmp hx hb hd (k0 rfl ls hl)
  | ldiv =>
    change mLZ len pc l st h (fun x y => .long (x / y)) = _ at hs
    obtain ⟨x, z, r, rfl, hz, rfl, hq⟩ := mLZ_inv hs
    cases hq
    exact lv_ldiv hx hb hd hz (k0 rfl ls hl)
  | lrem =>
    change mLZ len pc l st h (fun x y => .long (x - x / y * y)) = _ at hs
    obtain ⟨x, z, r, rfl, hz, rfl, hq⟩ := mLZ_inv hs
    cases hq
    exact lv_lrem hx hb hd hz (k0 rfl ls hl)
  | lshl =>
    change mLI len pc l st h (fun x y => x <<< (y.toInt64 &&& 63)) = _ at hs
    obtain ⟨x, z, r, rfl, rfl, hq⟩ := mLI_inv hs
    cases hq
    exact lv_lshl hx hb hd rfl (k0 rfl ls hl)
  | lshr =>
    change mLI len pc l st h (fun x y => x >>> (y.toInt64 &&& 63)) = _ at hs
    obtain ⟨x, z, r, rfl, rfl, hq⟩ := mLI_inv hs
    cases hq
    exact lv_lshr hx hb hd rfl (k0 rfl ls hl)
  | lushr =>
    change mLI len pc l st h (fun x y => (x.toUInt64 >>> (y.toInt64.toUInt64 &&& Int64.toUInt64 63)).toInt64) = _ at hs
    obtain ⟨x, z, r, rfl, rfl, hq⟩ := mLI_inv hs
    cases hq
    exact lv_lushr hx hb hd rfl (k0 rfl ls hl)
  | i2l =>
    change mI1 len pc l st h (fun x => .long x.toInt64) = _ at hs
    obtain ⟨x, r, rfl, rfl, hq⟩ := mI1_inv hs
    cases hq
    exact lv_i2l hx hb hd rfl (k0 rfl ls hl)
  | i2b =>
    change mI1 len pc l st h (fun x => .int x.toInt8.toInt32) = _ at hs
    obtain ⟨x, r, rfl, rfl, hq⟩ := mI1_inv hs
    cases hq
    exact lv_i2b hx hb hd rfl (k0 rfl ls hl)
  | i2c =>
    change mI1 len pc l st h (fun x => .int (x.toUInt32 % 65536).toInt32) = _ at hs
    obtain ⟨x, r, rfl, rfl, hq⟩ := mI1_inv hs
    cases hq
    exact lv_i2c hx hb hd rfl (k0 rfl ls hl)
  | l2i =>
    change mL1 len pc l st h (fun x => .int x.toInt32) = _ at hs
    obtain ⟨x, r, rfl, rfl, hq⟩ := mL1_inv hs
    cases hq
    exact lv_l2i hx hb hd rfl (k0 rfl ls hl)
  | dup =>
    change (match st with | v :: r => if v.category = 1 then mGo 1 len pc l (v :: v :: r) h else none | _ => none) = _ at hs
    split at hs
    case h_2 => cases hs
    next v  r =>
    split at hs
    case isFalse => cases hs
    next e2 =>
    obtain ⟨rfl, hq⟩ := mGo_inv hs
    cases hq
    exact lv_dup hx hb hd (by rw [cV_cat]; exact e2) (k0 rfl ls hl)
  | dup2 =>
    change (match st with | v :: w :: r => if v.category = 1 ∧ w.category = 1 then mGo 1 len pc l (v :: w :: v :: w :: r) h else none | _ => none) = _ at hs
    split at hs
    case h_2 => cases hs
    next v  w  r =>
    split at hs
    case isFalse => cases hs
    next e2 =>
    obtain ⟨rfl, hq⟩ := mGo_inv hs
    cases hq
    exact lv_dup2_11 hx hb hd (by rw [cV_cat]; exact e2.1) (by rw [cV_cat]; exact e2.2) (k0 rfl ls hl)
  | pop =>
    change (match st with | v :: r => if v.category = 1 then mGo 1 len pc l (r) h else none | _ => none) = _ at hs
    split at hs
    case h_2 => cases hs
    next v  r =>
    split at hs
    case isFalse => cases hs
    next e2 =>
    obtain ⟨rfl, hq⟩ := mGo_inv hs
    cases hq
    exact lv_pop hx hb hd (by rw [cV_cat]; exact e2) (k0 rfl ls hl)
  | ifCond cc off =>
    change mIf cc len pc l st h off = _ at hs
    obtain ⟨x, r, rfl, t, rfl, ht, hq⟩ := mIf_inv hs
    cases hq
    have k := k0 rfl ls hl
    cases cc with
    | eq => exact lv_if_eq hx hb hd ht (fun hh => (by rw [if_pos (show mCb .eq x 0 = true from decide_eq_true hh)] at k; exact k)) (fun hh => (by rw [if_neg (show ¬ mCb .eq x 0 = true from fun q => hh (of_decide_eq_true q))] at k; exact k))
    | ne => exact lv_if_ne hx hb hd ht (fun hh => (by rw [if_pos (show mCb .ne x 0 = true from decide_eq_true hh)] at k; exact k)) (fun hh => (by rw [if_neg (show ¬ mCb .ne x 0 = true from fun q => (of_decide_eq_true q) hh)] at k; exact k))
    | lt => exact lv_if_lt hx hb hd ht (fun hh => (by rw [if_pos (show mCb .lt x 0 = true from decide_eq_true hh)] at k; exact k)) (fun hh => (by rw [if_neg (show ¬ mCb .lt x 0 = true from fun q => hh (of_decide_eq_true q))] at k; exact k))
    | ge => exact lv_if_ge hx hb hd ht (fun hh => (by rw [if_pos (show mCb .ge x 0 = true from decide_eq_true hh)] at k; exact k)) (fun hh => (by rw [if_neg (show ¬ mCb .ge x 0 = true from fun q => hh (of_decide_eq_true q))] at k; exact k))
    | gt => exact lv_if_gt hx hb hd ht (fun hh => (by rw [if_pos (show mCb .gt x 0 = true from decide_eq_true hh)] at k; exact k)) (fun hh => (by rw [if_neg (show ¬ mCb .gt x 0 = true from fun q => hh (of_decide_eq_true q))] at k; exact k))
    | le => exact lv_if_le hx hb hd ht (fun hh => (by rw [if_pos (show mCb .le x 0 = true from decide_eq_true hh)] at k; exact k)) (fun hh => (by rw [if_neg (show ¬ mCb .le x 0 = true from fun q => hh (of_decide_eq_true q))] at k; exact k))
  | if_icmp cc off =>
    change mIc cc len pc l st h off = _ at hs
    obtain ⟨x, z, r, rfl, t, rfl, ht, hq⟩ := mIc_inv hs
    cases hq
    have k := k0 rfl ls hl
    cases cc with
    | eq => exact lv_icmp_eq hx hb hd ht (fun hh => (by rw [if_pos (show mCb .eq x z = true from decide_eq_true hh)] at k; exact k)) (fun hh => (by rw [if_neg (show ¬ mCb .eq x z = true from fun q => hh (of_decide_eq_true q))] at k; exact k))
    | ne => exact lv_icmp_ne hx hb hd ht (fun hh => (by rw [if_pos (show mCb .ne x z = true from decide_eq_true hh)] at k; exact k)) (fun hh => (by rw [if_neg (show ¬ mCb .ne x z = true from fun q => (of_decide_eq_true q) hh)] at k; exact k))
    | lt => exact lv_icmp_lt hx hb hd ht (fun hh => (by rw [if_pos (show mCb .lt x z = true from decide_eq_true hh)] at k; exact k)) (fun hh => (by rw [if_neg (show ¬ mCb .lt x z = true from fun q => hh (of_decide_eq_true q))] at k; exact k))
    | ge => exact lv_icmp_ge hx hb hd ht (fun hh => (by rw [if_pos (show mCb .ge x z = true from decide_eq_true hh)] at k; exact k)) (fun hh => (by rw [if_neg (show ¬ mCb .ge x z = true from fun q => hh (of_decide_eq_true q))] at k; exact k))
    | gt => exact lv_icmp_gt hx hb hd ht (fun hh => (by rw [if_pos (show mCb .gt x z = true from decide_eq_true hh)] at k; exact k)) (fun hh => (by rw [if_neg (show ¬ mCb .gt x z = true from fun q => hh (of_decide_eq_true q))] at k; exact k))
    | le => exact lv_icmp_le hx hb hd ht (fun hh => (by rw [if_pos (show mCb .le x z = true from decide_eq_true hh)] at k; exact k)) (fun hh => (by rw [if_neg (show ¬ mCb .le x z = true from fun q => hh (of_decide_eq_true q))] at k; exact k))
  | ifnull off =>
    change mNl true len pc l st h off = _ at hs
    rcases mNl_inv hs with ⟨r, rfl, t, rfl, ht, hq⟩ | ⟨a, r, rfl, t, rfl, ht, hq⟩
    · cases hq
      exact lv_ifnullN hx hb hd ht (k0 rfl ls hl)
    · cases hq
      exact lv_ifnull hx hb hd (k0 rfl ls hl)
  | ifnonnull off =>
    change mNl false len pc l st h off = _ at hs
    rcases mNl_inv hs with ⟨r, rfl, t, rfl, ht, hq⟩ | ⟨a, r, rfl, t, rfl, ht, hq⟩
    · cases hq
      exact lv_ifnonnullN hx hb hd (k0 rfl ls hl)
    · cases hq
      exact lv_ifnonnull hx hb hd ht (k0 rfl ls hl)
  | goto off =>
    change mJp len pc l st h true off = _ at hs
    obtain ⟨t, rfl, ht, hq⟩ := mJp_inv hs
    cases hq
    exact lv_goto hx hb hd ht (k0 rfl ls hl)
  | tableswitch d lo hi os =>
    change mSw pc l st h d lo hi os = _ at hs
    obtain ⟨x, r, o, rfl, ho, t, ht, hq⟩ := mSw_inv hs
    cases hq
    unfold mSo at ho
    split at ho
    · next hh =>
      cases ho
      exact lv_tableOut hx hb hd hh ht (k0 rfl ls hl)
    · next hh =>
      exact lv_tableIn hx hb hd (fun z => hh (Or.inl z)) (fun z => hh (Or.inr z)) ho ht (k0 rfl ls hl)
  | iaload =>
    change mAl oH X 0 len pc l st h = _ at hs
    obtain ⟨j, a, r, rfl, rfl, ⟨ea, hk0, hin, hq⟩ | ⟨v, hv, hq⟩⟩ := mAl_inv hs
    · cases hq
      subst ea
      rw [show ((.int j :: .ref mSid :: r : List Value).map (cV b base)) = .int j :: .ref b :: r.map (cV b base) from by simp [cV, cAd]]
      exact va_sld hx hb hg.2.2.2.2 hb1 hb2 hS (inb_in hin) hd (k0 rfl ls hl)
    · cases hq
      exact r_ald hc hg hw (Or.inl rfl) hv hd (k0 rfl ls hl)
  | baload =>
    change mAl oH X 1 len pc l st h = _ at hs
    obtain ⟨j, a, r, rfl, rfl, ⟨ea, hk0, hin, hq⟩ | ⟨v, hv, hq⟩⟩ := mAl_inv hs
    · cases hk0
    · cases hq
      exact r_ald hc hg hw (Or.inr (Or.inl rfl)) hv hd (k0 rfl ls hl)
  | caload =>
    change mAl oH X 2 len pc l st h = _ at hs
    obtain ⟨j, a, r, rfl, rfl, ⟨ea, hk0, hin, hq⟩ | ⟨v, hv, hq⟩⟩ := mAl_inv hs
    · cases hk0
    · cases hq
      exact r_ald hc hg hw (Or.inr (Or.inr (Or.inl rfl))) hv hd (k0 rfl ls hl)
  | aaload =>
    change mAl oH X 3 len pc l st h = _ at hs
    obtain ⟨j, a, r, rfl, rfl, ⟨ea, hk0, hin, hq⟩ | ⟨v, hv, hq⟩⟩ := mAl_inv hs
    · cases hk0
    · cases hq
      exact r_ald hc hg hw (Or.inr (Or.inr (Or.inr rfl))) hv hd (k0 rfl ls hl)
  | iastore =>
    change mAs oH 0 len pc l st h = _ at hs
    obtain ⟨v, j, a, r, h2, rfl, rfl, hv, hq⟩ := mAs_inv hs
    cases hq
    exact r_ast hc hg hw hS (Or.inl rfl) hv hd (fun g1 g2 H1 locs1 g3 => ks g1 g2 H1 locs1 ls g3 hl)
  | bastore =>
    change mAs oH 1 len pc l st h = _ at hs
    obtain ⟨v, j, a, r, h2, rfl, rfl, hv, hq⟩ := mAs_inv hs
    cases hq
    exact r_ast hc hg hw hS (Or.inr (Or.inl rfl)) hv hd (fun g1 g2 H1 locs1 g3 => ks g1 g2 H1 locs1 ls g3 hl)
  | castore =>
    change mAs oH 2 len pc l st h = _ at hs
    obtain ⟨v, j, a, r, h2, rfl, rfl, hv, hq⟩ := mAs_inv hs
    cases hq
    exact r_ast hc hg hw hS (Or.inr (Or.inr (Or.inl rfl))) hv hd (fun g1 g2 H1 locs1 g3 => ks g1 g2 H1 locs1 ls g3 hl)
  | aastore =>
    change mAs oH 3 len pc l st h = _ at hs
    obtain ⟨v, j, a, r, h2, rfl, rfl, hv, hq⟩ := mAs_inv hs
    cases hq
    exact r_ast hc hg hw hS (Or.inr (Or.inr (Or.inr rfl))) hv hd (fun g1 g2 H1 locs1 g3 => ks g1 g2 H1 locs1 ls g3 hl)
  | arraylength =>
    change mAn oH X len pc l st h = _ at hs
    obtain ⟨a, r, rfl, rfl, ⟨ea, hq⟩ | ⟨v, hv, hq⟩⟩ := mAn_inv hs
    · cases hq
      subst ea
      rw [show ((.ref mSid :: r : List Value).map (cV b base)) = .ref b :: r.map (cV b base) from by simp [cV, cAd]]
      exact va_slen hx hb hg.2.2.2.2 hb1 hb2 hS hd (k0 rfl ls hl)
    · cases hq
      exact r_alen hc hg hw hv hd (k0 rfl ls hl)
  | newarray at1 =>
    cases at1 with
    | int =>
      change mNa oH 2 0 len pc l st h = _ at hs
      obtain ⟨n, r, z, rfl, hv, rfl, hq⟩ := mNa_inv hs
      cases hq
      have ez : z.1.length = h.length + 1 → z.1.length - h.length = 1 := fun q => by omega
      have el : z.1.length = h.length + 1 := by
        have hv2 : hNa h 0 n = some z := hv
        unfold hNa at hv2
        split at hv2
        · cases hv2; simp
        · cases hv2
      rw [ez el] at hR1
      exact r_newa hc hg hw hS (Or.inl rfl) hv hd hR1 hR2 (fun g1 g2 H1 g3 => by have k := kk (by omega) g2 H1 locs ls g3 hl; rw [ez el] at k; exact k)
    | boolean =>
      change mNa oH 2 1 len pc l st h = _ at hs
      obtain ⟨n, r, z, rfl, hv, rfl, hq⟩ := mNa_inv hs
      cases hq
      have ez : z.1.length = h.length + 1 → z.1.length - h.length = 1 := fun q => by omega
      have el : z.1.length = h.length + 1 := by
        have hv2 : hNa h 1 n = some z := hv
        unfold hNa at hv2
        split at hv2
        · cases hv2; simp
        · cases hv2
      rw [ez el] at hR1
      exact r_newa hc hg hw hS (Or.inr (Or.inl rfl)) hv hd hR1 hR2 (fun g1 g2 H1 g3 => by have k := kk (by omega) g2 H1 locs ls g3 hl; rw [ez el] at k; exact k)
    | char =>
      change mNa oH 2 2 len pc l st h = _ at hs
      obtain ⟨n, r, z, rfl, hv, rfl, hq⟩ := mNa_inv hs
      cases hq
      have ez : z.1.length = h.length + 1 → z.1.length - h.length = 1 := fun q => by omega
      have el : z.1.length = h.length + 1 := by
        have hv2 : hNa h 2 n = some z := hv
        unfold hNa at hv2
        split at hv2
        · cases hv2; simp
        · cases hv2
      rw [ez el] at hR1
      exact r_newa hc hg hw hS (Or.inr (Or.inr (Or.inl rfl))) hv hd hR1 hR2 (fun g1 g2 H1 g3 => by have k := kk (by omega) g2 H1 locs ls g3 hl; rw [ez el] at k; exact k)
    | byte =>
      change mNa oH 2 3 len pc l st h = _ at hs
      obtain ⟨n, r, z, rfl, hv, rfl, hq⟩ := mNa_inv hs
      cases hq
      have ez : z.1.length = h.length + 1 → z.1.length - h.length = 1 := fun q => by omega
      have el : z.1.length = h.length + 1 := by
        have hv2 : hNa h 3 n = some z := hv
        unfold hNa at hv2
        split at hv2
        · cases hv2; simp
        · cases hv2
      rw [ez el] at hR1
      exact r_newa hc hg hw hS (Or.inr (Or.inr (Or.inr rfl))) hv hd hR1 hR2 (fun g1 g2 H1 g3 => by have k := kk (by omega) g2 H1 locs ls g3 hl; rw [ez el] at k; exact k)
    | _ => cases hs
  | anewarray idx =>
    change (if mAt (mOwn y) idx then mNa oH 3 4 len pc l st h else none) = _ at hs
    split at hs
    case isFalse => cases hs
    next hat =>
    obtain ⟨n, r, z, rfl, hv, rfl, hq⟩ := mNa_inv hs
    cases hq
    have el : z.1.length = h.length + 1 := by
      have hv2 : hNa h 4 n = some z := hv
      unfold hNa at hv2
      split at hv2
      · cases hv2; simp
      · cases hv2
    have ez : z.1.length - h.length = 1 := by omega
    rw [ez] at hR1
    exact r_anew hc hg hw hS hat hv hd hR1 hR2 (fun g1 g2 H1 g3 => by have k := kk (by omega) g2 H1 locs ls g3 hl; rw [ez] at k; exact k)
  | getfield idx =>
    change mGf oH y len pc l st h idx = _ at hs
    obtain ⟨a, r, z, v, rfl, hf, hv, rfl, hq⟩ := mGf_inv hs
    cases hq
    exact r_getf hc hg hw hf hv hd (k0 rfl ls hl)
  | putfield idx =>
    change mPf oH y len pc l st h idx = _ at hs
    obtain ⟨v, a, r, z, h2, rfl, hf, hfin, hv, rfl, hq⟩ := mPf_inv hs
    cases hq
    exact r_putf hc hg hw hS hf hfin hv hd (fun g1 g2 H1 locs1 g3 => ks g1 g2 H1 locs1 ls g3 hl)
  | new idx =>
    change mNw oH y len pc l st h idx = _ at hs
    obtain ⟨ci, z, hf, hv, rfl, hq⟩ := mNw_inv hs
    cases hq
    have el : z.1.length = h.length + 1 := by
      have hv2 : hNw h ci = some z := hv
      unfold hNw at hv2
      split at hv2
      · split at hv2
        · cases hv2; simp
        · cases hv2
      · cases hv2
    have ez : z.1.length - h.length = 1 := by omega
    rw [ez] at hR1
    exact r_new hc hg hw hS hf hv hd hR1 hR2 (fun g1 g2 H1 g3 => by have k := kk (by omega) g2 H1 locs ls g3 hl; rw [ez] at k; exact k)
  | invokevirtual idx =>
    change mCv oH false y len pc l st h idx = _ at hs
    obtain ⟨hf, -⟩ := mCv_inl hs
    cases hf
  | invokespecial idx =>
    change mCv oH true y len pc l st h idx = _ at hs
    obtain ⟨-, ho, hr, a, r, rfl, hsm, rfl, hq⟩ := mCv_inl hs
    cases hq
    simp only [mRo1, Bool.and_eq_true, decide_eq_true_eq] at hr
    have hsm2 := mSm_inv hsm
    refine W.objInit hx hb hown (hts _ (mO_get ho)) (hts _ (lw_in mOb_w.2 rfl)) (hts _ (lw_in mOb_w.1 rfl)) rfl (by rw [hc.2.2.1]; exact lOK_size hl) rfl hd (by have := hc.2.2.2.2.2.2.2.1; omega) ?_ ?_
    · have := hc.2.2.2.2.2.2.2.2
      rw [cV_sum]
      show 2 * 0 + _ + 12 ≤ _
      omega
    · exact W.eq (g2 := F0 m (pc + 3) ls (st1.map (cV b base))) rfl (k0 rfl ls hl)
  | invokestatic idx =>
    change mCi oH y len pc l st h idx = _ at hs
    rcases mCi_inl hs with ⟨k1, v, w, r, e1, hr, rfl, hsm, rfl, hq⟩ | ⟨n, dp, a, sp, a0, r, h2, ho, hr, rfl, hsm, hv, rfl, hq⟩
    · cases hq
      simp only [mRx, Bool.and_eq_true, decide_eq_true_eq] at hr
      have hsm2 := mSm_inv hsm
      have f1 := hc.2.2.2.2.2.2.2.1
      have f2 := hc.2.2.2.2.2.2.2.2
      have hlk := mX_get e1
      have k := k0 rfl ls hl
      have hcl : cells ≤ R.cells := by omega
      have hsl : slots ≤ R.slots := by omega
      by_cases hk : k1.2 = true
      · rw [if_pos hk] at hlk
        rw [if_pos hk] at k
        exact va_mmax hx hb (by rw [hc.2.2.1]; exact (lOK_size hl).symm) hown (hts _ hlk) (hts _ (lw_in mMa_w.2.1 rfl)) (hts _ (lw_in mMa_w.2.2 rfl)) (hts _ (lw_in mMa_max rfl)) (by omega) (by rw [cV_sum]; omega) hcl hsl hd k
      · rw [if_neg hk] at hlk
        rw [if_neg hk] at k
        exact va_mmin hx hb (by rw [hc.2.2.1]; exact (lOK_size hl).symm) hown (hts _ hlk) (hts _ (lw_in mMa_w.1 rfl)) (hts _ (lw_in mMa_w.2.2 rfl)) (hts _ (lw_in mMa_min rfl)) (by omega) (by rw [cV_sum]; omega) hcl hsl hd k
    · cases hq
      exact r_copy hc hg hw hS (lOK_size hl) ho hr (by rw [cV_sum]; exact mSm_inv hsm) hv hd (fun g1 g2 H1 locs1 g3 => ks g1 g2 H1 locs1 ls g3 hl)
  | ireturn =>
    simp only [mIns] at hs
    split at hs
    · split at hs <;> cases hs
    · cases hs
  | lreturn =>
    simp only [mIns] at hs
    split at hs
    · split at hs <;> cases hs
    · cases hs
  | areturn =>
    simp only [mIns] at hs
    split at hs
    · split at hs <;> cases hs
    · split at hs <;> cases hs
    · cases hs
  | return_ =>
    simp only [mIns] at hs
    split at hs
    · split at hs <;> cases hs
    · cases hs
  | _ => first | (cases hs; done) | (simp [mIns] at hs; done)
end STEP7
