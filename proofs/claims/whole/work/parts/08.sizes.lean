/-! a run of the machine is a run of the bytes -/
theorem hPf_sz {h h1 : mH} {a ci k : Nat} {v : Value} (hv : hPf h a ci k v = some h1) : h.length ≤ h1.length ∧ hSz h ≤ hSz h1 := by
  unfold hPf at hv
  split at hv
  · next c fs e =>
    split at hv
    · cases hv; exact ⟨by simp, Nat.le_of_eq (hSz_set h a _ _ e (by simp [hSz1])).symm⟩
    · cases hv
  · cases hv
theorem hSt_sz {h h1 : mH} {a k : Nat} {i : Int32} {v : Value} (hv : hSt h a k i v = some h1) : h.length ≤ h1.length ∧ hSz h ≤ hSz h1 := by
  unfold hSt at hv
  split at hv
  · next t n f x e =>
    split at hv
    · cases hv; exact ⟨by simp, Nat.le_of_eq (hSz_set h a _ _ e (by simp [hSz1])).symm⟩
    · cases hv
  · next t n g b e =>
    split at hv
    · split at hv
      · split at hv
        · cases hv; exact ⟨by simp, Nat.le_of_eq (hSz_set h a _ _ e (by simp [hSz1])).symm⟩
        · cases hv
      · cases hv
    · cases hv
  · cases hv
theorem hNa_sz {h : mH} {t : Nat} {n : Int32} {z : mH × Nat} (hv : hNa h t n = some z) : h.length ≤ z.1.length ∧ hSz h ≤ hSz z.1 := by
  unfold hNa at hv
  split at hv
  · cases hv; exact ⟨by simp, by rw [hSz_push]; omega⟩
  · cases hv
theorem hNw_sz {h : mH} {ci : Nat} {z : mH × Nat} (hv : hNw h ci = some z) : h.length ≤ z.1.length ∧ hSz h ≤ hSz z.1 := by
  unfold hNw at hv
  split at hv
  · split at hv
    · cases hv; exact ⟨by simp, by rw [hSz_push]; omega⟩
    · cases hv
  · cases hv
theorem hCp_sz {h h1 : mH} {a0 a : Nat} {sp dp n : Int32} (hv : hCp h a0 sp a dp n = some h1) : h.length ≤ h1.length ∧ hSz h ≤ hSz h1 := by
  unfold hCp at hv
  split at hv
  · next t0 n0 f t1 n1 g e0 e =>
    split at hv
    · cases hv; exact ⟨by simp, Nat.le_of_eq (hSz_set h a _ _ e (by simp [hSz1])).symm⟩
    · cases hv
  · cases hv
section SZ
variable {L len pc i : Nat} {l : mL} {st : List Value} {h : mH} {X : mX} {y : Nat} {off : Int}
def qSz (h : mH) (q : mR mH) : Prop := match q with
  | .inl z => h.length ≤ z.2.2.2.length ∧ hSz h ≤ hSz z.2.2.2
  | .inr (.inl z) => z.2 = h
  | .inr (.inr z) => z.2.2.2.2.2 = h
theorem qSz_rf {pc1 : Nat} {l1 : mL} {st1 : List Value} : qSz h (.inl (pc1, l1, st1, h)) := ⟨Nat.le_refl _, Nat.le_refl _⟩
theorem mCv_sz {sp : Bool} {idx : Nat} {q : mR mH} (hs : mCv oH sp y len pc l st h idx = some q) : qSz h q := by
  rcases q with z | z | z
  · obtain ⟨-, -, -, a, r, -, -, -, rfl⟩ := mCv_inl hs
    exact qSz_rf
  all_goals
    unfold mCv at hs
    split at hs
    · split at hs
      · split at hs
        · cases hs <;> first | rfl | exact qSz_rf
        · cases hs
      · cases hs
    · split at hs
      · split at hs
        · split at hs
          · have := (mGo_inv hs).2; cases this
          · cases hs
        · cases hs
      · cases hs
theorem mCi_sz {idx : Nat} {q : mR mH} (hs : mCi oH y len pc l st h idx = some q) : qSz h q := by
  rcases q with z | z | z
  · rcases mCi_inl hs with ⟨k, v, w, r, -, -, -, -, -, rfl⟩ | ⟨n, dp, a, sp, a0, r, h1, -, -, -, -, hv, -, rfl⟩
    · exact qSz_rf
    · exact hCp_sz hv
  all_goals
    unfold mCi at hs
    split at hs
    · split at hs
      · cases hs <;> first | rfl | exact qSz_rf
      · cases hs
    · split at hs
      · split at hs
        · split at hs
          · split at hs
            · have := (mGo_inv hs).2; cases this
            · cases hs
          · cases hs
        · cases hs
      · split at hs
        · split at hs
          · split at hs
            · split at hs
              · have := (mGo_inv hs).2; cases this
              · cases hs
            · cases hs
          · cases hs
        · cases hs
set_option maxHeartbeats 4000000 in
theorem mIns_sz {ins : Instr} {q : mR mH} (hs : mIns oH X y pc len l st h ins = some q) : qSz h q := by
  cases ins with
  | iconst n =>
    change mGo 1 len pc l (.int (Int32.ofInt n) :: st) h = _ at hs
    obtain ⟨-, hq⟩ := mGo_inv hs
    subst hq
    exact qSz_rf
  | bipush n =>
    change mGo 2 len pc l (.int (Int8.ofInt n).toInt32 :: st) h = _ at hs
    obtain ⟨-, hq⟩ := mGo_inv hs
    subst hq
    exact qSz_rf
  | sipush n =>
    change mGo 3 len pc l (.int (Int16.ofInt n).toInt32 :: st) h = _ at hs
    obtain ⟨-, hq⟩ := mGo_inv hs
    subst hq
    exact qSz_rf
  | lconst n =>
    change mGo 1 len pc l (.long (Int64.ofNat (n : Nat)) :: st) h = _ at hs
    obtain ⟨-, hq⟩ := mGo_inv hs
    subst hq
    exact qSz_rf
  | aconst_null =>
    change mGo 1 len pc l (.null :: st) h = _ at hs
    obtain ⟨-, hq⟩ := mGo_inv hs
    subst hq
    exact qSz_rf
  | ldc idx =>
    change mCs 2 len y pc l st h idx false = _ at hs
    rcases mCs_inv hs with ⟨-, v, -, -, hq⟩ | ⟨-, v, -, -, hq⟩ <;> (subst hq; exact qSz_rf)
  | ldc_w idx =>
    change mCs 3 len y pc l st h idx false = _ at hs
    rcases mCs_inv hs with ⟨-, v, -, -, hq⟩ | ⟨-, v, -, -, hq⟩ <;> (subst hq; exact qSz_rf)
  | ldc2_w idx =>
    change mCs 3 len y pc l st h idx true = _ at hs
    rcases mCs_inv hs with ⟨-, v, -, -, hq⟩ | ⟨-, v, -, -, hq⟩ <;> (subst hq; exact qSz_rf)
  | iload_n k =>
    change mLd 1 len pc l k st h isI = _ at hs
    obtain ⟨v, -, -, -, hq⟩ := mLd_inv hs
    subst hq
    exact qSz_rf
  | iload k =>
    change mLd 2 len pc l k st h isI = _ at hs
    obtain ⟨v, -, -, -, hq⟩ := mLd_inv hs
    subst hq
    exact qSz_rf
  | lload_n k =>
    change mLd 1 len pc l k st h isL = _ at hs
    obtain ⟨v, -, -, -, hq⟩ := mLd_inv hs
    subst hq
    exact qSz_rf
  | lload k =>
    change mLd 2 len pc l k st h isL = _ at hs
    obtain ⟨v, -, -, -, hq⟩ := mLd_inv hs
    subst hq
    exact qSz_rf
  | aload_n k =>
    change mLd 1 len pc l k st h isA = _ at hs
    obtain ⟨v, -, -, -, hq⟩ := mLd_inv hs
    subst hq
    exact qSz_rf
  | aload k =>
    change mLd 2 len pc l k st h isA = _ at hs
    obtain ⟨v, -, -, -, hq⟩ := mLd_inv hs
    subst hq
    exact qSz_rf
  | istore_n k =>
    change mStI 1 len pc l k st h = _ at hs
    obtain ⟨x, r, -, -, -, hq⟩ := mStI_inv hs
    subst hq
    exact qSz_rf
  | istore k =>
    change mStI 2 len pc l k st h = _ at hs
    obtain ⟨x, r, -, -, -, hq⟩ := mStI_inv hs
    subst hq
    exact qSz_rf
  | lstore_n k =>
    change mStL 1 len pc l k st h = _ at hs
    obtain ⟨x, r, -, -, -, hq⟩ := mStL_inv hs
    subst hq
    exact qSz_rf
  | lstore k =>
    change mStL 2 len pc l k st h = _ at hs
    obtain ⟨x, r, -, -, -, hq⟩ := mStL_inv hs
    subst hq
    exact qSz_rf
  | astore_n k =>
    change mStA 1 len pc l k st h = _ at hs
    obtain ⟨x, r, -, -, -, -, hq⟩ := mStA_inv hs
    subst hq
    exact qSz_rf
  | astore k =>
    change mStA 2 len pc l k st h = _ at hs
    obtain ⟨x, r, -, -, -, -, hq⟩ := mStA_inv hs
    subst hq
    exact qSz_rf
  | iinc k n =>
    change (match l[k]? with | some (some (.int x)) => mGo 3 len pc (mSt1 l k (.int (x + Int32.ofInt n))) st h | _ => none) = _ at hs
    split at hs
    · obtain ⟨-, hq⟩ := mGo_inv hs
      subst hq
      exact qSz_rf
    · cases hs
  | iadd =>
    change mII len pc l st h (fun x y => x + y) = _ at hs
    obtain ⟨x, z, r, -, -, hq⟩ := mII_inv hs
    subst hq
    exact qSz_rf
  | isub =>
    change mII len pc l st h (fun x y => x - y) = _ at hs
    obtain ⟨x, z, r, -, -, hq⟩ := mII_inv hs
    subst hq
    exact qSz_rf
  | imul =>
    change mII len pc l st h (fun x y => x * y) = _ at hs
    obtain ⟨x, z, r, -, -, hq⟩ := mII_inv hs
    subst hq
    exact qSz_rf
  | iand =>
    change mII len pc l st h (fun x y => x &&& y) = _ at hs
    obtain ⟨x, z, r, -, -, hq⟩ := mII_inv hs
    subst hq
    exact qSz_rf
  | ior =>
    change mII len pc l st h (fun x y => x ||| y) = _ at hs
    obtain ⟨x, z, r, -, -, hq⟩ := mII_inv hs
    subst hq
    exact qSz_rf
  | ixor =>
    change mII len pc l st h (fun x y => x ^^^ y) = _ at hs
    obtain ⟨x, z, r, -, -, hq⟩ := mII_inv hs
    subst hq
    exact qSz_rf
  | ishl =>
    change mII len pc l st h (fun x y => x <<< (y &&& 31)) = _ at hs
    obtain ⟨x, z, r, -, -, hq⟩ := mII_inv hs
    subst hq
    exact qSz_rf
  | ishr =>
    change mII len pc l st h (fun x y => x >>> (y &&& 31)) = _ at hs
    obtain ⟨x, z, r, -, -, hq⟩ := mII_inv hs
    subst hq
    exact qSz_rf
  | iushr =>
    change mII len pc l st h (fun x y => (x.toUInt32 >>> (y.toUInt32 &&& Int32.toUInt32 31)).toInt32) = _ at hs
    obtain ⟨x, z, r, -, -, hq⟩ := mII_inv hs
    subst hq
    exact qSz_rf
  | idiv =>
    change mIZ len pc l st h (fun x y => x / y) = _ at hs
    obtain ⟨x, z, r, -, -, -, hq⟩ := mIZ_inv hs
    subst hq
    exact qSz_rf
  | irem =>
    change mIZ len pc l st h (fun x y => x - x / y * y) = _ at hs
    obtain ⟨x, z, r, -, -, -, hq⟩ := mIZ_inv hs
    subst hq
    exact qSz_rf
  | ineg =>
    change mI1 len pc l st h (fun x => .int (-x)) = _ at hs
    obtain ⟨x, r, -, -, hq⟩ := mI1_inv hs
    subst hq
    exact qSz_rf
  | ladd =>
    change mLL len pc l st h (fun x y => .long (x + y)) = _ at hs
    obtain ⟨x, z, r, -, -, hq⟩ := mLL_inv hs
    subst hq
    exact qSz_rf
  | lsub =>
    change mLL len pc l st h (fun x y => .long (x - y)) = _ at hs
    obtain ⟨x, z, r, -, -, hq⟩ := mLL_inv hs
    subst hq
    exact qSz_rf
  | lmul =>
    change mLL len pc l st h (fun x y => .long (x * y)) = _ at hs
    obtain ⟨x, z, r, -, -, hq⟩ := mLL_inv hs
    subst hq
    exact qSz_rf
  | land =>
    change mLL len pc l st h (fun x y => .long (x &&& y)) = _ at hs
    obtain ⟨x, z, r, -, -, hq⟩ := mLL_inv hs
    subst hq
    exact qSz_rf
  | lor =>
    change mLL len pc l st h (fun x y => .long (x ||| y)) = _ at hs
    obtain ⟨x, z, r, -, -, hq⟩ := mLL_inv hs
    subst hq
    exact qSz_rf
  | lcmp =>
    change mLL len pc l st h (fun x y => .int (lg_cmp x y)) = _ at hs
    obtain ⟨x, z, r, -, -, hq⟩ := mLL_inv hs
    subst hq
    exact qSz_rf
  | ldiv =>
    change mLZ len pc l st h (fun x y => .long (x / y)) = _ at hs
    obtain ⟨x, z, r, -, -, -, hq⟩ := mLZ_inv hs
    subst hq
    exact qSz_rf
  | lrem =>
    change mLZ len pc l st h (fun x y => .long (x - x / y * y)) = _ at hs
    obtain ⟨x, z, r, -, -, -, hq⟩ := mLZ_inv hs
    subst hq
    exact qSz_rf
  | lshl =>
    change mLI len pc l st h (fun x y => x <<< (y.toInt64 &&& 63)) = _ at hs
    obtain ⟨x, z, r, -, -, hq⟩ := mLI_inv hs
    subst hq
    exact qSz_rf
  | lshr =>
    change mLI len pc l st h (fun x y => x >>> (y.toInt64 &&& 63)) = _ at hs
    obtain ⟨x, z, r, -, -, hq⟩ := mLI_inv hs
    subst hq
    exact qSz_rf
  | lushr =>
    change mLI len pc l st h (fun x y => (x.toUInt64 >>> (y.toInt64.toUInt64 &&& Int64.toUInt64 63)).toInt64) = _ at hs
    obtain ⟨x, z, r, -, -, hq⟩ := mLI_inv hs
    subst hq
    exact qSz_rf
  | i2l =>
    change mI1 len pc l st h (fun x => .long x.toInt64) = _ at hs
    obtain ⟨x, r, -, -, hq⟩ := mI1_inv hs
    subst hq
    exact qSz_rf
  | i2b =>
    change mI1 len pc l st h (fun x => .int x.toInt8.toInt32) = _ at hs
    obtain ⟨x, r, -, -, hq⟩ := mI1_inv hs
    subst hq
    exact qSz_rf
  | i2c =>
    change mI1 len pc l st h (fun x => .int (x.toUInt32 % 65536).toInt32) = _ at hs
    obtain ⟨x, r, -, -, hq⟩ := mI1_inv hs
    subst hq
    exact qSz_rf
  | l2i =>
    change mL1 len pc l st h (fun x => .int x.toInt32) = _ at hs
    obtain ⟨x, r, -, -, hq⟩ := mL1_inv hs
    subst hq
    exact qSz_rf
  | dup =>
    change (match st with | v :: r => if v.category = 1 then mGo 1 len pc l (v :: v :: r) h else none | _ => none) = _ at hs
    split at hs
    · split at hs
      · obtain ⟨-, hq⟩ := mGo_inv hs
        subst hq
        exact qSz_rf
      · cases hs
    · cases hs
  | dup2 =>
    change (match st with | v :: w :: r => if v.category = 1 ∧ w.category = 1 then mGo 1 len pc l (v :: w :: v :: w :: r) h else none | _ => none) = _ at hs
    split at hs
    · split at hs
      · obtain ⟨-, hq⟩ := mGo_inv hs
        subst hq
        exact qSz_rf
      · cases hs
    · cases hs
  | pop =>
    change (match st with | v :: r => if v.category = 1 then mGo 1 len pc l (r) h else none | _ => none) = _ at hs
    split at hs
    · split at hs
      · obtain ⟨-, hq⟩ := mGo_inv hs
        subst hq
        exact qSz_rf
      · cases hs
    · cases hs
  | ifCond cc off =>
    change mIf cc len pc l st h off = _ at hs
    obtain ⟨x, r, -, t, -, -, hq⟩ := mIf_inv hs
    subst hq
    exact qSz_rf
  | if_icmp cc off =>
    change mIc cc len pc l st h off = _ at hs
    obtain ⟨x, z, r, -, t, -, -, hq⟩ := mIc_inv hs
    subst hq
    exact qSz_rf
  | ifnull off =>
    change mNl true len pc l st h off = _ at hs
    rcases mNl_inv hs with ⟨r, -, t, -, -, hq⟩ | ⟨a, r, -, t, -, -, hq⟩ <;> (subst hq; exact qSz_rf)
  | ifnonnull off =>
    change mNl false len pc l st h off = _ at hs
    rcases mNl_inv hs with ⟨r, -, t, -, -, hq⟩ | ⟨a, r, -, t, -, -, hq⟩ <;> (subst hq; exact qSz_rf)
  | goto off =>
    change mJp len pc l st h true off = _ at hs
    obtain ⟨t, -, -, hq⟩ := mJp_inv hs
    subst hq
    exact qSz_rf
  | tableswitch d lo hi os =>
    change mSw pc l st h d lo hi os = _ at hs
    obtain ⟨x, r, o, -, -, t, -, hq⟩ := mSw_inv hs
    subst hq
    exact qSz_rf
  | iaload =>
    change mAl oH X 0 len pc l st h = _ at hs
    obtain ⟨j, a, r, -, -, ⟨-, -, -, hq⟩ | ⟨v, -, hq⟩⟩ := mAl_inv hs <;> (subst hq; exact qSz_rf)
  | baload =>
    change mAl oH X 1 len pc l st h = _ at hs
    obtain ⟨j, a, r, -, -, ⟨-, -, -, hq⟩ | ⟨v, -, hq⟩⟩ := mAl_inv hs <;> (subst hq; exact qSz_rf)
  | caload =>
    change mAl oH X 2 len pc l st h = _ at hs
    obtain ⟨j, a, r, -, -, ⟨-, -, -, hq⟩ | ⟨v, -, hq⟩⟩ := mAl_inv hs <;> (subst hq; exact qSz_rf)
  | aaload =>
    change mAl oH X 3 len pc l st h = _ at hs
    obtain ⟨j, a, r, -, -, ⟨-, -, -, hq⟩ | ⟨v, -, hq⟩⟩ := mAl_inv hs <;> (subst hq; exact qSz_rf)
  | iastore =>
    change mAs oH 0 len pc l st h = _ at hs
    obtain ⟨v, j, a, r, h2, -, -, hv, hq⟩ := mAs_inv hs
    subst hq
    exact hSt_sz hv
  | bastore =>
    change mAs oH 1 len pc l st h = _ at hs
    obtain ⟨v, j, a, r, h2, -, -, hv, hq⟩ := mAs_inv hs
    subst hq
    exact hSt_sz hv
  | castore =>
    change mAs oH 2 len pc l st h = _ at hs
    obtain ⟨v, j, a, r, h2, -, -, hv, hq⟩ := mAs_inv hs
    subst hq
    exact hSt_sz hv
  | aastore =>
    change mAs oH 3 len pc l st h = _ at hs
    obtain ⟨v, j, a, r, h2, -, -, hv, hq⟩ := mAs_inv hs
    subst hq
    exact hSt_sz hv
  | arraylength =>
    change mAn oH X len pc l st h = _ at hs
    obtain ⟨a, r, -, -, ⟨-, hq⟩ | ⟨v, -, hq⟩⟩ := mAn_inv hs <;> (subst hq; exact qSz_rf)
  | newarray at1 =>
    cases at1 with
    | int =>
      change mNa oH 2 0 len pc l st h = _ at hs
      obtain ⟨n, r, z, -, hv, -, hq⟩ := mNa_inv hs
      subst hq
      exact hNa_sz hv
    | boolean =>
      change mNa oH 2 1 len pc l st h = _ at hs
      obtain ⟨n, r, z, -, hv, -, hq⟩ := mNa_inv hs
      subst hq
      exact hNa_sz hv
    | char =>
      change mNa oH 2 2 len pc l st h = _ at hs
      obtain ⟨n, r, z, -, hv, -, hq⟩ := mNa_inv hs
      subst hq
      exact hNa_sz hv
    | byte =>
      change mNa oH 2 3 len pc l st h = _ at hs
      obtain ⟨n, r, z, -, hv, -, hq⟩ := mNa_inv hs
      subst hq
      exact hNa_sz hv
    | _ => cases hs
  | anewarray idx =>
    change (if mAt (mOwn y) idx then mNa oH 3 4 len pc l st h else none) = _ at hs
    split at hs
    · obtain ⟨n, r, z, -, hv, -, hq⟩ := mNa_inv hs
      subst hq
      exact hNa_sz hv
    · cases hs
  | getfield idx =>
    change mGf oH y len pc l st h idx = _ at hs
    obtain ⟨a, r, z, v, -, -, -, -, hq⟩ := mGf_inv hs
    subst hq
    exact qSz_rf
  | putfield idx =>
    change mPf oH y len pc l st h idx = _ at hs
    obtain ⟨v, a, r, z, h2, -, -, -, hv, -, hq⟩ := mPf_inv hs
    subst hq
    exact hPf_sz hv
  | new idx =>
    change mNw oH y len pc l st h idx = _ at hs
    obtain ⟨ci, z, -, hv, -, hq⟩ := mNw_inv hs
    subst hq
    exact hNw_sz hv
  | invokevirtual idx =>
    change mCv oH false y len pc l st h idx = _ at hs
    exact mCv_sz hs
  | invokespecial idx =>
    change mCv oH true y len pc l st h idx = _ at hs
    exact mCv_sz hs
  | invokestatic idx =>
    change mCi oH y len pc l st h idx = _ at hs
    exact mCi_sz hs
  | ireturn =>
    simp only [mIns] at hs
    split at hs
    · split at hs
      · cases hs; rfl
      · cases hs
    · cases hs
  | lreturn =>
    simp only [mIns] at hs
    split at hs
    · split at hs
      · cases hs; rfl
      · cases hs
    · cases hs
  | return_ =>
    simp only [mIns] at hs
    split at hs
    · split at hs
      · cases hs; rfl
      · cases hs
    · cases hs
  | areturn =>
    simp only [mIns] at hs
    split at hs
    · split at hs
      · cases hs; rfl
      · cases hs
    · split at hs
      · cases hs; rfl
      · cases hs
    · cases hs
  | _ => first | (cases hs; done) | (simp [mIns] at hs; done)
theorem mStep_inv {q : mR mH} (hs : mStep oH X y pc l st h = some q) : ∃ ins len, decode (mCd y) pc = .ok (ins, len) ∧ mIns oH X y pc len l st h ins = some q := by
  unfold mStep at hs
  split at hs
  · next ins len e => exact ⟨ins, len, e, hs⟩
  · cases hs
theorem mRun_sz : ∀ (n : Nat) {y pc : Nat} {l : mL} {st : List Value} {h : mH} {r : Option Value × mH}, mRun oH X n y pc l st h = some r → h.length ≤ r.2.length ∧ hSz h ≤ hSz r.2 := by
  intro n
  induction n with
  | zero => intro y pc l st h r hr; simp [mRun] at hr
  | succ n ih =>
    intro y pc l st h r hr
    rw [mRun] at hr
    cases hs : mStep oH X y pc (mM y pc l) st h with
    | none => rw [hs] at hr; cases hr
    | some q =>
      rw [hs] at hr
      obtain ⟨ins, len, -, h2⟩ := mStep_inv hs
      have h3 := mIns_sz h2
      rcases q with ⟨pc1, l1, st1, h1⟩ | z | ⟨y1, as, pc1, l1, st1, h1⟩
      · have h4 := ih hr
        exact ⟨Nat.le_trans h3.1 h4.1, Nat.le_trans h3.2 h4.2⟩
      · have h3' : z.2 = h := h3
        cases hr
        rw [h3']
        exact ⟨Nat.le_refl _, Nat.le_refl _⟩
      · have h3' : h1 = h := h3
        subst h3'
        dsimp only at hr
        cases hc : mRun oH X n y1 0 (mEnt as (mMx y1)) [] h1 with
        | none => rw [hc] at hr; cases hr
        | some v =>
          rw [hc] at hr
          have h5 := ih hc
          have h6 := ih hr
          exact ⟨Nat.le_trans h5.1 h6.1, Nat.le_trans h5.2 h6.2⟩
/-- how a method ends -/
def retOK (y : Nat) (v : Option Value) (pc : Nat) : Prop := (∃ x, v = some (.int x) ∧ mRo (mRt y) x = true ∧ decode (mCd y) pc = .ok (.ireturn, 1)) ∨ (∃ x, v = some (.long x) ∧ mRt y = some .long ∧ decode (mCd y) pc = .ok (.lreturn, 1)) ∨ (∃ x, v = some x ∧ (x = .null ∨ ∃ a, x = .ref a) ∧ mRa (mRt y) = true ∧ decode (mCd y) pc = .ok (.areturn, 1)) ∨ (v = none ∧ mRt y = none ∧ decode (mCd y) pc = .ok (.return_, 1))
theorem mCv_nr {sp : Bool} {idx : Nat} {z : Option Value × mH} (hs : mCv oH sp y len pc l st h idx = some (.inr (.inl z))) : False := by
  unfold mCv at hs
  split at hs
  · split at hs
    · split at hs <;> cases hs
    · cases hs
  · split at hs
    · split at hs
      · split at hs
        · have := (mGo_inv hs).2; cases this
        · cases hs
      · cases hs
    · cases hs
theorem mCi_nr {idx : Nat} {z : Option Value × mH} (hs : mCi oH y len pc l st h idx = some (.inr (.inl z))) : False := by
  unfold mCi at hs
  split at hs
  · split at hs <;> cases hs
  · split at hs
    · split at hs
      · split at hs
        · split at hs
          · have := (mGo_inv hs).2; cases this
          · cases hs
        · cases hs
      · cases hs
    · split at hs
      · split at hs
        · split at hs
          · split at hs
            · have := (mGo_inv hs).2; cases this
            · cases hs
          · cases hs
        · cases hs
      · cases hs
theorem mCv_call {sp : Bool} {idx y1 pc1 : Nat} {as : List Value} {l1 : mL} {st1 : List Value} {h1 : mH} (hs : mCv oH sp y len pc l st h idx = some (.inr (.inr (y1, as, pc1, l1, st1, h1)))) : lk (mMt (mOwn y)) idx = some y1 ∧ len = 3 ∧ mNp y1 ≤ st.length ∧ mSm st1 = true ∧ mIni y1 = sp ∧ mSta y1 = false ∧ (∃ a, st.drop (mNp y1) = .ref a :: st1 ∧ as = .ref a :: (st.take (mNp y1)).reverse ∧ (sp = false → hCl h a = some (mOwn y1))) ∧ (mEn as).length ≤ mMx y1 ∧ mRm y y1 = true ∧ pc1 = pc + 3 ∧ l1 = l ∧ h1 = h := by
  unfold mCv at hs
  split at hs
  · next y2 e =>
    split at hs
    · next a rest e2 =>
      split at hs
      · next hc =>
        obtain ⟨g1, g2, g3, g4, g5, g6, g7⟩ := hc
        cases hs
        simp only [Bool.and_eq_true, Bool.not_eq_true'] at g4
        refine ⟨e, g1, g2, g3, eq_of_beq g4.1, g4.2, ⟨a, e2, rfl, fun z => ?_⟩, g6, g7, rfl, rfl, rfl⟩
        rw [z, Bool.false_or] at g5
        exact eq_of_beq g5
      · cases hs
    · cases hs
  · split at hs
    · split at hs
      · split at hs
        · have := (mGo_inv hs).2; cases this
        · cases hs
      · cases hs
    · cases hs
theorem mCi_call {idx y1 pc1 : Nat} {as : List Value} {l1 : mL} {st1 : List Value} {h1 : mH} (hs : mCi oH y len pc l st h idx = some (.inr (.inr (y1, as, pc1, l1, st1, h1)))) : lk (mMt (mOwn y)) idx = some y1 ∧ len = 3 ∧ mNp y1 ≤ st.length ∧ mSm st1 = true ∧ mSta y1 = true ∧ st1 = st.drop (mNp y1) ∧ as = (st.take (mNp y1)).reverse ∧ (mEn as).length ≤ mMx y1 ∧ mRm y y1 = true ∧ pc1 = pc + 3 ∧ l1 = l ∧ h1 = h := by
  unfold mCi at hs
  split at hs
  · next y2 e =>
    split at hs
    · next hc =>
      obtain ⟨g1, g2, g3, g4, g5, g6⟩ := hc
      cases hs
      exact ⟨e, g1, g2, g3, g4, rfl, rfl, g5, g6, rfl, rfl, rfl⟩
    · cases hs
  · split at hs
    · split at hs
      · split at hs
        · split at hs
          · have := (mGo_inv hs).2; cases this
          · cases hs
        · cases hs
      · cases hs
    · split at hs
      · split at hs
        · split at hs
          · split at hs
            · have := (mGo_inv hs).2; cases this
            · cases hs
          · cases hs
        · cases hs
      · cases hs
end SZ
set_option maxHeartbeats 4000000 in
theorem mIns_ret {len pc : Nat} {l : mL} {st : List Value} {h : mH} {X : mX} {y : Nat} {ins : Instr} {z : Option Value × mH} (hd : decode (mCd y) pc = .ok (ins, len)) (hs : mIns oH X y pc len l st h ins = some (.inr (.inl z))) : retOK y z.1 pc ∧ st = z.1.toList ∧ z.2 = h := by
  cases ins with
  | invokevirtual idx => exact (mCv_nr (show mCv oH false y len pc l st h idx = _ from hs)).elim
  | invokespecial idx => exact (mCv_nr (show mCv oH true y len pc l st h idx = _ from hs)).elim
  | invokestatic idx => exact (mCi_nr (show mCi oH y len pc l st h idx = _ from hs)).elim
  | ireturn =>
    simp only [mIns] at hs
    split at hs
    · next x =>
      split at hs
      · next e => cases hs; obtain ⟨rfl, e2⟩ := e; exact ⟨Or.inl ⟨x, rfl, e2, hd⟩, rfl, rfl⟩
      · cases hs
    · cases hs
  | lreturn =>
    simp only [mIns] at hs
    split at hs
    · next x =>
      split at hs
      · next e => cases hs; obtain ⟨rfl, e2⟩ := e; exact ⟨Or.inr (Or.inl ⟨x, rfl, e2, hd⟩), rfl, rfl⟩
      · cases hs
    · cases hs
  | areturn =>
    simp only [mIns] at hs
    split at hs
    · next x =>
      split at hs
      · next e => cases hs; obtain ⟨rfl, e2⟩ := e; exact ⟨Or.inr (Or.inr (Or.inl ⟨_, rfl, Or.inr ⟨x, rfl⟩, e2, hd⟩)), rfl, rfl⟩
      · cases hs
    · split at hs
      · next e => cases hs; obtain ⟨rfl, e2⟩ := e; exact ⟨Or.inr (Or.inr (Or.inl ⟨_, rfl, Or.inl rfl, e2, hd⟩)), rfl, rfl⟩
      · cases hs
    · cases hs
  | return_ =>
    simp only [mIns] at hs
    split at hs
    · split at hs
      · next e => cases hs; obtain ⟨rfl, e2⟩ := e; exact ⟨Or.inr (Or.inr (Or.inr ⟨rfl, e2, hd⟩)), rfl, rfl⟩
      · cases hs
    · cases hs
  | iconst n =>
    change mGo 1 len pc l (.int (Int32.ofInt n) :: st) h = _ at hs
    obtain ⟨-, hq⟩ := mGo_inv hs
    cases hq
  | bipush n =>
    change mGo 2 len pc l (.int (Int8.ofInt n).toInt32 :: st) h = _ at hs
    obtain ⟨-, hq⟩ := mGo_inv hs
    cases hq
  | sipush n =>
    change mGo 3 len pc l (.int (Int16.ofInt n).toInt32 :: st) h = _ at hs
    obtain ⟨-, hq⟩ := mGo_inv hs
    cases hq
  | lconst n =>
    change mGo 1 len pc l (.long (Int64.ofNat (n : Nat)) :: st) h = _ at hs
    obtain ⟨-, hq⟩ := mGo_inv hs
    cases hq
  | aconst_null =>
    change mGo 1 len pc l (.null :: st) h = _ at hs
    obtain ⟨-, hq⟩ := mGo_inv hs
    cases hq
  | ldc idx =>
    change mCs 2 len y pc l st h idx false = _ at hs
    rcases mCs_inv hs with ⟨-, v, -, -, hq⟩ | ⟨-, v, -, -, hq⟩ <;> (cases hq)
  | ldc_w idx =>
    change mCs 3 len y pc l st h idx false = _ at hs
    rcases mCs_inv hs with ⟨-, v, -, -, hq⟩ | ⟨-, v, -, -, hq⟩ <;> (cases hq)
  | ldc2_w idx =>
    change mCs 3 len y pc l st h idx true = _ at hs
    rcases mCs_inv hs with ⟨-, v, -, -, hq⟩ | ⟨-, v, -, -, hq⟩ <;> (cases hq)
  | iload_n k =>
    change mLd 1 len pc l k st h isI = _ at hs
    obtain ⟨v, -, -, -, hq⟩ := mLd_inv hs
    cases hq
  | iload k =>
    change mLd 2 len pc l k st h isI = _ at hs
    obtain ⟨v, -, -, -, hq⟩ := mLd_inv hs
    cases hq
  | lload_n k =>
    change mLd 1 len pc l k st h isL = _ at hs
    obtain ⟨v, -, -, -, hq⟩ := mLd_inv hs
    cases hq
  | lload k =>
    change mLd 2 len pc l k st h isL = _ at hs
    obtain ⟨v, -, -, -, hq⟩ := mLd_inv hs
    cases hq
  | aload_n k =>
    change mLd 1 len pc l k st h isA = _ at hs
    obtain ⟨v, -, -, -, hq⟩ := mLd_inv hs
    cases hq
  | aload k =>
    change mLd 2 len pc l k st h isA = _ at hs
    obtain ⟨v, -, -, -, hq⟩ := mLd_inv hs
    cases hq
  | istore_n k =>
    change mStI 1 len pc l k st h = _ at hs
    obtain ⟨x, r, -, -, -, hq⟩ := mStI_inv hs
    cases hq
  | istore k =>
    change mStI 2 len pc l k st h = _ at hs
    obtain ⟨x, r, -, -, -, hq⟩ := mStI_inv hs
    cases hq
  | lstore_n k =>
    change mStL 1 len pc l k st h = _ at hs
    obtain ⟨x, r, -, -, -, hq⟩ := mStL_inv hs
    cases hq
  | lstore k =>
    change mStL 2 len pc l k st h = _ at hs
    obtain ⟨x, r, -, -, -, hq⟩ := mStL_inv hs
    cases hq
  | astore_n k =>
    change mStA 1 len pc l k st h = _ at hs
    obtain ⟨x, r, -, -, -, -, hq⟩ := mStA_inv hs
    cases hq
  | astore k =>
    change mStA 2 len pc l k st h = _ at hs
    obtain ⟨x, r, -, -, -, -, hq⟩ := mStA_inv hs
    cases hq
  | iinc k n =>
    change (match l[k]? with | some (some (.int x)) => mGo 3 len pc (mSt1 l k (.int (x + Int32.ofInt n))) st h | _ => none) = _ at hs
    split at hs
    · obtain ⟨-, hq⟩ := mGo_inv hs
      cases hq
    · cases hs
  | iadd =>
    change mII len pc l st h (fun x y => x + y) = _ at hs
    obtain ⟨x, z, r, -, -, hq⟩ := mII_inv hs
    cases hq
  | isub =>
    change mII len pc l st h (fun x y => x - y) = _ at hs
    obtain ⟨x, z, r, -, -, hq⟩ := mII_inv hs
    cases hq
  | imul =>
    change mII len pc l st h (fun x y => x * y) = _ at hs
    obtain ⟨x, z, r, -, -, hq⟩ := mII_inv hs
    cases hq
  | iand =>
    change mII len pc l st h (fun x y => x &&& y) = _ at hs
    obtain ⟨x, z, r, -, -, hq⟩ := mII_inv hs
    cases hq
  | ior =>
    change mII len pc l st h (fun x y => x ||| y) = _ at hs
    obtain ⟨x, z, r, -, -, hq⟩ := mII_inv hs
    cases hq
  | ixor =>
    change mII len pc l st h (fun x y => x ^^^ y) = _ at hs
    obtain ⟨x, z, r, -, -, hq⟩ := mII_inv hs
    cases hq
  | ishl =>
    change mII len pc l st h (fun x y => x <<< (y &&& 31)) = _ at hs
    obtain ⟨x, z, r, -, -, hq⟩ := mII_inv hs
    cases hq
  | ishr =>
    change mII len pc l st h (fun x y => x >>> (y &&& 31)) = _ at hs
    obtain ⟨x, z, r, -, -, hq⟩ := mII_inv hs
    cases hq
  | iushr =>
    change mII len pc l st h (fun x y => (x.toUInt32 >>> (y.toUInt32 &&& Int32.toUInt32 31)).toInt32) = _ at hs
    obtain ⟨x, z, r, -, -, hq⟩ := mII_inv hs
    cases hq
  | idiv =>
    change mIZ len pc l st h (fun x y => x / y) = _ at hs
    obtain ⟨x, z, r, -, -, -, hq⟩ := mIZ_inv hs
    cases hq
  | irem =>
    change mIZ len pc l st h (fun x y => x - x / y * y) = _ at hs
    obtain ⟨x, z, r, -, -, -, hq⟩ := mIZ_inv hs
    cases hq
  | ineg =>
    change mI1 len pc l st h (fun x => .int (-x)) = _ at hs
    obtain ⟨x, r, -, -, hq⟩ := mI1_inv hs
    cases hq
  | ladd =>
    change mLL len pc l st h (fun x y => .long (x + y)) = _ at hs
    obtain ⟨x, z, r, -, -, hq⟩ := mLL_inv hs
    cases hq
  | lsub =>
    change mLL len pc l st h (fun x y => .long (x - y)) = _ at hs
    obtain ⟨x, z, r, -, -, hq⟩ := mLL_inv hs
    cases hq
  | lmul =>
    change mLL len pc l st h (fun x y => .long (x * y)) = _ at hs
    obtain ⟨x, z, r, -, -, hq⟩ := mLL_inv hs
    cases hq
  | land =>
    change mLL len pc l st h (fun x y => .long (x &&& y)) = _ at hs
    obtain ⟨x, z, r, -, -, hq⟩ := mLL_inv hs
    cases hq
  | lor =>
    change mLL len pc l st h (fun x y => .long (x ||| y)) = _ at hs
    obtain ⟨x, z, r, -, -, hq⟩ := mLL_inv hs
    cases hq
  | lcmp =>
    change mLL len pc l st h (fun x y => .int (lg_cmp x y)) = _ at hs
    obtain ⟨x, z, r, -, -, hq⟩ := mLL_inv hs
    cases hq
  | ldiv =>
    change mLZ len pc l st h (fun x y => .long (x / y)) = _ at hs
    obtain ⟨x, z, r, -, -, -, hq⟩ := mLZ_inv hs
    cases hq
  | lrem =>
    change mLZ len pc l st h (fun x y => .long (x - x / y * y)) = _ at hs
    obtain ⟨x, z, r, -, -, -, hq⟩ := mLZ_inv hs
    cases hq
  | lshl =>
    change mLI len pc l st h (fun x y => x <<< (y.toInt64 &&& 63)) = _ at hs
    obtain ⟨x, z, r, -, -, hq⟩ := mLI_inv hs
    cases hq
  | lshr =>
    change mLI len pc l st h (fun x y => x >>> (y.toInt64 &&& 63)) = _ at hs
    obtain ⟨x, z, r, -, -, hq⟩ := mLI_inv hs
    cases hq
  | lushr =>
    change mLI len pc l st h (fun x y => (x.toUInt64 >>> (y.toInt64.toUInt64 &&& Int64.toUInt64 63)).toInt64) = _ at hs
    obtain ⟨x, z, r, -, -, hq⟩ := mLI_inv hs
    cases hq
  | i2l =>
    change mI1 len pc l st h (fun x => .long x.toInt64) = _ at hs
    obtain ⟨x, r, -, -, hq⟩ := mI1_inv hs
    cases hq
  | i2b =>
    change mI1 len pc l st h (fun x => .int x.toInt8.toInt32) = _ at hs
    obtain ⟨x, r, -, -, hq⟩ := mI1_inv hs
    cases hq
  | i2c =>
    change mI1 len pc l st h (fun x => .int (x.toUInt32 % 65536).toInt32) = _ at hs
    obtain ⟨x, r, -, -, hq⟩ := mI1_inv hs
    cases hq
  | l2i =>
    change mL1 len pc l st h (fun x => .int x.toInt32) = _ at hs
    obtain ⟨x, r, -, -, hq⟩ := mL1_inv hs
    cases hq
  | dup =>
    change (match st with | v :: r => if v.category = 1 then mGo 1 len pc l (v :: v :: r) h else none | _ => none) = _ at hs
    split at hs
    · split at hs
      · obtain ⟨-, hq⟩ := mGo_inv hs
        cases hq
      · cases hs
    · cases hs
  | dup2 =>
    change (match st with | v :: w :: r => if v.category = 1 ∧ w.category = 1 then mGo 1 len pc l (v :: w :: v :: w :: r) h else none | _ => none) = _ at hs
    split at hs
    · split at hs
      · obtain ⟨-, hq⟩ := mGo_inv hs
        cases hq
      · cases hs
    · cases hs
  | pop =>
    change (match st with | v :: r => if v.category = 1 then mGo 1 len pc l (r) h else none | _ => none) = _ at hs
    split at hs
    · split at hs
      · obtain ⟨-, hq⟩ := mGo_inv hs
        cases hq
      · cases hs
    · cases hs
  | ifCond cc off =>
    change mIf cc len pc l st h off = _ at hs
    obtain ⟨x, r, -, t, -, -, hq⟩ := mIf_inv hs
    cases hq
  | if_icmp cc off =>
    change mIc cc len pc l st h off = _ at hs
    obtain ⟨x, z, r, -, t, -, -, hq⟩ := mIc_inv hs
    cases hq
  | ifnull off =>
    change mNl true len pc l st h off = _ at hs
    rcases mNl_inv hs with ⟨r, -, t, -, -, hq⟩ | ⟨a, r, -, t, -, -, hq⟩ <;> (cases hq)
  | ifnonnull off =>
    change mNl false len pc l st h off = _ at hs
    rcases mNl_inv hs with ⟨r, -, t, -, -, hq⟩ | ⟨a, r, -, t, -, -, hq⟩ <;> (cases hq)
  | goto off =>
    change mJp len pc l st h true off = _ at hs
    obtain ⟨t, -, -, hq⟩ := mJp_inv hs
    cases hq
  | tableswitch d lo hi os =>
    change mSw pc l st h d lo hi os = _ at hs
    obtain ⟨x, r, o, -, -, t, -, hq⟩ := mSw_inv hs
    cases hq
  | iaload =>
    change mAl oH X 0 len pc l st h = _ at hs
    obtain ⟨j, a, r, -, -, ⟨-, -, -, hq⟩ | ⟨v, -, hq⟩⟩ := mAl_inv hs <;> (cases hq)
  | baload =>
    change mAl oH X 1 len pc l st h = _ at hs
    obtain ⟨j, a, r, -, -, ⟨-, -, -, hq⟩ | ⟨v, -, hq⟩⟩ := mAl_inv hs <;> (cases hq)
  | caload =>
    change mAl oH X 2 len pc l st h = _ at hs
    obtain ⟨j, a, r, -, -, ⟨-, -, -, hq⟩ | ⟨v, -, hq⟩⟩ := mAl_inv hs <;> (cases hq)
  | aaload =>
    change mAl oH X 3 len pc l st h = _ at hs
    obtain ⟨j, a, r, -, -, ⟨-, -, -, hq⟩ | ⟨v, -, hq⟩⟩ := mAl_inv hs <;> (cases hq)
  | iastore =>
    change mAs oH 0 len pc l st h = _ at hs
    obtain ⟨v, j, a, r, h2, -, -, hv, hq⟩ := mAs_inv hs
    cases hq
  | bastore =>
    change mAs oH 1 len pc l st h = _ at hs
    obtain ⟨v, j, a, r, h2, -, -, hv, hq⟩ := mAs_inv hs
    cases hq
  | castore =>
    change mAs oH 2 len pc l st h = _ at hs
    obtain ⟨v, j, a, r, h2, -, -, hv, hq⟩ := mAs_inv hs
    cases hq
  | aastore =>
    change mAs oH 3 len pc l st h = _ at hs
    obtain ⟨v, j, a, r, h2, -, -, hv, hq⟩ := mAs_inv hs
    cases hq
  | arraylength =>
    change mAn oH X len pc l st h = _ at hs
    obtain ⟨a, r, -, -, ⟨-, hq⟩ | ⟨v, -, hq⟩⟩ := mAn_inv hs <;> (cases hq)
  | newarray at1 =>
    cases at1 with
    | int =>
      change mNa oH 2 0 len pc l st h = _ at hs
      obtain ⟨n, r, z, -, hv, -, hq⟩ := mNa_inv hs
      cases hq
    | boolean =>
      change mNa oH 2 1 len pc l st h = _ at hs
      obtain ⟨n, r, z, -, hv, -, hq⟩ := mNa_inv hs
      cases hq
    | char =>
      change mNa oH 2 2 len pc l st h = _ at hs
      obtain ⟨n, r, z, -, hv, -, hq⟩ := mNa_inv hs
      cases hq
    | byte =>
      change mNa oH 2 3 len pc l st h = _ at hs
      obtain ⟨n, r, z, -, hv, -, hq⟩ := mNa_inv hs
      cases hq
    | _ => cases hs
  | anewarray idx =>
    change (if mAt (mOwn y) idx then mNa oH 3 4 len pc l st h else none) = _ at hs
    split at hs
    · obtain ⟨n, r, z, -, hv, -, hq⟩ := mNa_inv hs
      cases hq
    · cases hs
  | getfield idx =>
    change mGf oH y len pc l st h idx = _ at hs
    obtain ⟨a, r, z, v, -, -, -, -, hq⟩ := mGf_inv hs
    cases hq
  | putfield idx =>
    change mPf oH y len pc l st h idx = _ at hs
    obtain ⟨v, a, r, z, h2, -, -, -, hv, -, hq⟩ := mPf_inv hs
    cases hq
  | new idx =>
    change mNw oH y len pc l st h idx = _ at hs
    obtain ⟨ci, z, -, hv, -, hq⟩ := mNw_inv hs
    cases hq
  | _ => first | (cases hs; done) | (simp [mIns] at hs; done)
set_option maxHeartbeats 4000000 in
theorem mIns_call {len pc : Nat} {l : mL} {st : List Value} {h : mH} {X : mX} {y : Nat} {ins : Instr} {z : Nat × List Value × Nat × mL × List Value × mH} (hs : mIns oH X y pc len l st h ins = some (.inr (.inr z))) : (∃ idx, ins = .invokevirtual idx ∧ mCv oH false y len pc l st h idx = some (.inr (.inr z))) ∨ (∃ idx, ins = .invokespecial idx ∧ mCv oH true y len pc l st h idx = some (.inr (.inr z))) ∨ (∃ idx, ins = .invokestatic idx ∧ mCi oH y len pc l st h idx = some (.inr (.inr z))) := by
  cases ins with
  | invokevirtual idx => exact Or.inl ⟨idx, rfl, hs⟩
  | invokespecial idx => exact Or.inr (Or.inl ⟨idx, rfl, hs⟩)
  | invokestatic idx => exact Or.inr (Or.inr ⟨idx, rfl, hs⟩)
  | ireturn =>
    simp only [mIns] at hs
    split at hs
    · split at hs <;> cases hs
    · cases hs
  | lreturn =>
    simp only [mIns] at hs
    split at hs
    · split at hs <;> cases hs
    · cases hs
  | areturn =>
    simp only [mIns] at hs
    split at hs
    · split at hs <;> cases hs
    · split at hs <;> cases hs
    · cases hs
  | return_ =>
    simp only [mIns] at hs
    split at hs
    · split at hs <;> cases hs
    · cases hs
  | iconst n =>
    change mGo 1 len pc l (.int (Int32.ofInt n) :: st) h = _ at hs
    obtain ⟨-, hq⟩ := mGo_inv hs
    cases hq
  | bipush n =>
    change mGo 2 len pc l (.int (Int8.ofInt n).toInt32 :: st) h = _ at hs
    obtain ⟨-, hq⟩ := mGo_inv hs
    cases hq
  | sipush n =>
    change mGo 3 len pc l (.int (Int16.ofInt n).toInt32 :: st) h = _ at hs
    obtain ⟨-, hq⟩ := mGo_inv hs
    cases hq
  | lconst n =>
    change mGo 1 len pc l (.long (Int64.ofNat (n : Nat)) :: st) h = _ at hs
    obtain ⟨-, hq⟩ := mGo_inv hs
    cases hq
  | aconst_null =>
    change mGo 1 len pc l (.null :: st) h = _ at hs
    obtain ⟨-, hq⟩ := mGo_inv hs
    cases hq
  | ldc idx =>
    change mCs 2 len y pc l st h idx false = _ at hs
    rcases mCs_inv hs with ⟨-, v, -, -, hq⟩ | ⟨-, v, -, -, hq⟩ <;> (cases hq)
  | ldc_w idx =>
    change mCs 3 len y pc l st h idx false = _ at hs
    rcases mCs_inv hs with ⟨-, v, -, -, hq⟩ | ⟨-, v, -, -, hq⟩ <;> (cases hq)
  | ldc2_w idx =>
    change mCs 3 len y pc l st h idx true = _ at hs
    rcases mCs_inv hs with ⟨-, v, -, -, hq⟩ | ⟨-, v, -, -, hq⟩ <;> (cases hq)
  | iload_n k =>
    change mLd 1 len pc l k st h isI = _ at hs
    obtain ⟨v, -, -, -, hq⟩ := mLd_inv hs
    cases hq
  | iload k =>
    change mLd 2 len pc l k st h isI = _ at hs
    obtain ⟨v, -, -, -, hq⟩ := mLd_inv hs
    cases hq
  | lload_n k =>
    change mLd 1 len pc l k st h isL = _ at hs
    obtain ⟨v, -, -, -, hq⟩ := mLd_inv hs
    cases hq
  | lload k =>
    change mLd 2 len pc l k st h isL = _ at hs
    obtain ⟨v, -, -, -, hq⟩ := mLd_inv hs
    cases hq
  | aload_n k =>
    change mLd 1 len pc l k st h isA = _ at hs
    obtain ⟨v, -, -, -, hq⟩ := mLd_inv hs
    cases hq
  | aload k =>
    change mLd 2 len pc l k st h isA = _ at hs
    obtain ⟨v, -, -, -, hq⟩ := mLd_inv hs
    cases hq
  | istore_n k =>
    change mStI 1 len pc l k st h = _ at hs
    obtain ⟨x, r, -, -, -, hq⟩ := mStI_inv hs
    cases hq
  | istore k =>
    change mStI 2 len pc l k st h = _ at hs
    obtain ⟨x, r, -, -, -, hq⟩ := mStI_inv hs
    cases hq
  | lstore_n k =>
    change mStL 1 len pc l k st h = _ at hs
    obtain ⟨x, r, -, -, -, hq⟩ := mStL_inv hs
    cases hq
  | lstore k =>
    change mStL 2 len pc l k st h = _ at hs
    obtain ⟨x, r, -, -, -, hq⟩ := mStL_inv hs
    cases hq
  | astore_n k =>
    change mStA 1 len pc l k st h = _ at hs
    obtain ⟨x, r, -, -, -, -, hq⟩ := mStA_inv hs
    cases hq
  | astore k =>
    change mStA 2 len pc l k st h = _ at hs
    obtain ⟨x, r, -, -, -, -, hq⟩ := mStA_inv hs
    cases hq
  | iinc k n =>
    change (match l[k]? with | some (some (.int x)) => mGo 3 len pc (mSt1 l k (.int (x + Int32.ofInt n))) st h | _ => none) = _ at hs
    split at hs
    · obtain ⟨-, hq⟩ := mGo_inv hs
      cases hq
    · cases hs
  | iadd =>
    change mII len pc l st h (fun x y => x + y) = _ at hs
    obtain ⟨x, z, r, -, -, hq⟩ := mII_inv hs
    cases hq
  | isub =>
    change mII len pc l st h (fun x y => x - y) = _ at hs
    obtain ⟨x, z, r, -, -, hq⟩ := mII_inv hs
    cases hq
  | imul =>
    change mII len pc l st h (fun x y => x * y) = _ at hs
    obtain ⟨x, z, r, -, -, hq⟩ := mII_inv hs
    cases hq
  | iand =>
    change mII len pc l st h (fun x y => x &&& y) = _ at hs
    obtain ⟨x, z, r, -, -, hq⟩ := mII_inv hs
    cases hq
  | ior =>
    change mII len pc l st h (fun x y => x ||| y) = _ at hs
    obtain ⟨x, z, r, -, -, hq⟩ := mII_inv hs
    cases hq
  | ixor =>
    change mII len pc l st h (fun x y => x ^^^ y) = _ at hs
    obtain ⟨x, z, r, -, -, hq⟩ := mII_inv hs
    cases hq
  | ishl =>
    change mII len pc l st h (fun x y => x <<< (y &&& 31)) = _ at hs
    obtain ⟨x, z, r, -, -, hq⟩ := mII_inv hs
    cases hq
  | ishr =>
    change mII len pc l st h (fun x y => x >>> (y &&& 31)) = _ at hs
    obtain ⟨x, z, r, -, -, hq⟩ := mII_inv hs
    cases hq
  | iushr =>
    change mII len pc l st h (fun x y => (x.toUInt32 >>> (y.toUInt32 &&& Int32.toUInt32 31)).toInt32) = _ at hs
    obtain ⟨x, z, r, -, -, hq⟩ := mII_inv hs
    cases hq
  | idiv =>
    change mIZ len pc l st h (fun x y => x / y) = _ at hs
    obtain ⟨x, z, r, -, -, -, hq⟩ := mIZ_inv hs
    cases hq
  | irem =>
    change mIZ len pc l st h (fun x y => x - x / y * y) = _ at hs
    obtain ⟨x, z, r, -, -, -, hq⟩ := mIZ_inv hs
    cases hq
  | ineg =>
    change mI1 len pc l st h (fun x => .int (-x)) = _ at hs
    obtain ⟨x, r, -, -, hq⟩ := mI1_inv hs
    cases hq
  | ladd =>
    change mLL len pc l st h (fun x y => .long (x + y)) = _ at hs
    obtain ⟨x, z, r, -, -, hq⟩ := mLL_inv hs
    cases hq
  | lsub =>
    change mLL len pc l st h (fun x y => .long (x - y)) = _ at hs
    obtain ⟨x, z, r, -, -, hq⟩ := mLL_inv hs
    cases hq
  | lmul =>
    change mLL len pc l st h (fun x y => .long (x * y)) = _ at hs
    obtain ⟨x, z, r, -, -, hq⟩ := mLL_inv hs
    cases hq
  | land =>
    change mLL len pc l st h (fun x y => .long (x &&& y)) = _ at hs
    obtain ⟨x, z, r, -, -, hq⟩ := mLL_inv hs
    cases hq
  | lor =>
    change mLL len pc l st h (fun x y => .long (x ||| y)) = _ at hs
    obtain ⟨x, z, r, -, -, hq⟩ := mLL_inv hs
    cases hq
  | lcmp =>
    change mLL len pc l st h (fun x y => .int (lg_cmp x y)) = _ at hs
    obtain ⟨x, z, r, -, -, hq⟩ := mLL_inv hs
    cases hq
  | ldiv =>
    change mLZ len pc l st h (fun x y => .long (x / y)) = _ at hs
    obtain ⟨x, z, r, -, -, -, hq⟩ := mLZ_inv hs
    cases hq
  | lrem =>
    change mLZ len pc l st h (fun x y => .long (x - x / y * y)) = _ at hs
    obtain ⟨x, z, r, -, -, -, hq⟩ := mLZ_inv hs
    cases hq
  | lshl =>
    change mLI len pc l st h (fun x y => x <<< (y.toInt64 &&& 63)) = _ at hs
    obtain ⟨x, z, r, -, -, hq⟩ := mLI_inv hs
    cases hq
  | lshr =>
    change mLI len pc l st h (fun x y => x >>> (y.toInt64 &&& 63)) = _ at hs
    obtain ⟨x, z, r, -, -, hq⟩ := mLI_inv hs
    cases hq
  | lushr =>
    change mLI len pc l st h (fun x y => (x.toUInt64 >>> (y.toInt64.toUInt64 &&& Int64.toUInt64 63)).toInt64) = _ at hs
    obtain ⟨x, z, r, -, -, hq⟩ := mLI_inv hs
    cases hq
  | i2l =>
    change mI1 len pc l st h (fun x => .long x.toInt64) = _ at hs
    obtain ⟨x, r, -, -, hq⟩ := mI1_inv hs
    cases hq
  | i2b =>
    change mI1 len pc l st h (fun x => .int x.toInt8.toInt32) = _ at hs
    obtain ⟨x, r, -, -, hq⟩ := mI1_inv hs
    cases hq
  | i2c =>
    change mI1 len pc l st h (fun x => .int (x.toUInt32 % 65536).toInt32) = _ at hs
    obtain ⟨x, r, -, -, hq⟩ := mI1_inv hs
    cases hq
  | l2i =>
    change mL1 len pc l st h (fun x => .int x.toInt32) = _ at hs
    obtain ⟨x, r, -, -, hq⟩ := mL1_inv hs
    cases hq
  | dup =>
    change (match st with | v :: r => if v.category = 1 then mGo 1 len pc l (v :: v :: r) h else none | _ => none) = _ at hs
    split at hs
    · split at hs
      · obtain ⟨-, hq⟩ := mGo_inv hs
        cases hq
      · cases hs
    · cases hs
  | dup2 =>
    change (match st with | v :: w :: r => if v.category = 1 ∧ w.category = 1 then mGo 1 len pc l (v :: w :: v :: w :: r) h else none | _ => none) = _ at hs
    split at hs
    · split at hs
      · obtain ⟨-, hq⟩ := mGo_inv hs
        cases hq
      · cases hs
    · cases hs
  | pop =>
    change (match st with | v :: r => if v.category = 1 then mGo 1 len pc l (r) h else none | _ => none) = _ at hs
    split at hs
    · split at hs
      · obtain ⟨-, hq⟩ := mGo_inv hs
        cases hq
      · cases hs
    · cases hs
  | ifCond cc off =>
    change mIf cc len pc l st h off = _ at hs
    obtain ⟨x, r, -, t, -, -, hq⟩ := mIf_inv hs
    cases hq
  | if_icmp cc off =>
    change mIc cc len pc l st h off = _ at hs
    obtain ⟨x, z, r, -, t, -, -, hq⟩ := mIc_inv hs
    cases hq
  | ifnull off =>
    change mNl true len pc l st h off = _ at hs
    rcases mNl_inv hs with ⟨r, -, t, -, -, hq⟩ | ⟨a, r, -, t, -, -, hq⟩ <;> (cases hq)
  | ifnonnull off =>
    change mNl false len pc l st h off = _ at hs
    rcases mNl_inv hs with ⟨r, -, t, -, -, hq⟩ | ⟨a, r, -, t, -, -, hq⟩ <;> (cases hq)
  | goto off =>
    change mJp len pc l st h true off = _ at hs
    obtain ⟨t, -, -, hq⟩ := mJp_inv hs
    cases hq
  | tableswitch d lo hi os =>
    change mSw pc l st h d lo hi os = _ at hs
    obtain ⟨x, r, o, -, -, t, -, hq⟩ := mSw_inv hs
    cases hq
  | iaload =>
    change mAl oH X 0 len pc l st h = _ at hs
    obtain ⟨j, a, r, -, -, ⟨-, -, -, hq⟩ | ⟨v, -, hq⟩⟩ := mAl_inv hs <;> (cases hq)
  | baload =>
    change mAl oH X 1 len pc l st h = _ at hs
    obtain ⟨j, a, r, -, -, ⟨-, -, -, hq⟩ | ⟨v, -, hq⟩⟩ := mAl_inv hs <;> (cases hq)
  | caload =>
    change mAl oH X 2 len pc l st h = _ at hs
    obtain ⟨j, a, r, -, -, ⟨-, -, -, hq⟩ | ⟨v, -, hq⟩⟩ := mAl_inv hs <;> (cases hq)
  | aaload =>
    change mAl oH X 3 len pc l st h = _ at hs
    obtain ⟨j, a, r, -, -, ⟨-, -, -, hq⟩ | ⟨v, -, hq⟩⟩ := mAl_inv hs <;> (cases hq)
  | iastore =>
    change mAs oH 0 len pc l st h = _ at hs
    obtain ⟨v, j, a, r, h2, -, -, hv, hq⟩ := mAs_inv hs
    cases hq
  | bastore =>
    change mAs oH 1 len pc l st h = _ at hs
    obtain ⟨v, j, a, r, h2, -, -, hv, hq⟩ := mAs_inv hs
    cases hq
  | castore =>
    change mAs oH 2 len pc l st h = _ at hs
    obtain ⟨v, j, a, r, h2, -, -, hv, hq⟩ := mAs_inv hs
    cases hq
  | aastore =>
    change mAs oH 3 len pc l st h = _ at hs
    obtain ⟨v, j, a, r, h2, -, -, hv, hq⟩ := mAs_inv hs
    cases hq
  | arraylength =>
    change mAn oH X len pc l st h = _ at hs
    obtain ⟨a, r, -, -, ⟨-, hq⟩ | ⟨v, -, hq⟩⟩ := mAn_inv hs <;> (cases hq)
  | newarray at1 =>
    cases at1 with
    | int =>
      change mNa oH 2 0 len pc l st h = _ at hs
      obtain ⟨n, r, z, -, hv, -, hq⟩ := mNa_inv hs
      cases hq
    | boolean =>
      change mNa oH 2 1 len pc l st h = _ at hs
      obtain ⟨n, r, z, -, hv, -, hq⟩ := mNa_inv hs
      cases hq
    | char =>
      change mNa oH 2 2 len pc l st h = _ at hs
      obtain ⟨n, r, z, -, hv, -, hq⟩ := mNa_inv hs
      cases hq
    | byte =>
      change mNa oH 2 3 len pc l st h = _ at hs
      obtain ⟨n, r, z, -, hv, -, hq⟩ := mNa_inv hs
      cases hq
    | _ => cases hs
  | anewarray idx =>
    change (if mAt (mOwn y) idx then mNa oH 3 4 len pc l st h else none) = _ at hs
    split at hs
    · obtain ⟨n, r, z, -, hv, -, hq⟩ := mNa_inv hs
      cases hq
    · cases hs
  | getfield idx =>
    change mGf oH y len pc l st h idx = _ at hs
    obtain ⟨a, r, z, v, -, -, -, -, hq⟩ := mGf_inv hs
    cases hq
  | putfield idx =>
    change mPf oH y len pc l st h idx = _ at hs
    obtain ⟨v, a, r, z, h2, -, -, -, hv, -, hq⟩ := mPf_inv hs
    cases hq
  | new idx =>
    change mNw oH y len pc l st h idx = _ at hs
    obtain ⟨ci, z, -, hv, -, hq⟩ := mNw_inv hs
    cases hq
  | _ => first | (cases hs; done) | (simp [mIns] at hs; done)
