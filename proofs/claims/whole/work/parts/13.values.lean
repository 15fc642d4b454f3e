/-! the machine's value, an instruction a row: equations for the blocks that a program prints -/
section TY
variable {σ : Type} {O : mO σ} {X : mX}
def tyOK (rt : Option FieldType) (v : Option Value) : Prop := (∃ x, v = some (.int x) ∧ mRo rt x = true) ∨ (∃ x, v = some (.long x) ∧ rt = some .long) ∨ (∃ x, v = some x ∧ (x = .null ∨ ∃ a, x = .ref a) ∧ mRa rt = true) ∨ (v = none ∧ rt = none)

variable {len pc : Nat} {l : mL} {st : List Value} {h : σ} {y : Nat}
theorem mCv_nrO {sp : Bool} {idx : Nat} {z : Option Value × σ} (hs : mCv O sp y len pc l st h idx = some (.inr (.inl z))) : False := by
  unfold mCv at hs
  split at hs
  · split at hs
    · split at hs <;> cases hs
    · cases hs
  · split at hs
    · split at hs
      · split at hs
        · have := (mGo_inv hs).2; cases this
        · cases hs
      · cases hs
    · cases hs
theorem mCi_nrO {idx : Nat} {z : Option Value × σ} (hs : mCi O y len pc l st h idx = some (.inr (.inl z))) : False := by
  unfold mCi at hs
  split at hs
  · split at hs <;> cases hs
  · split at hs
    · split at hs
      · split at hs
        · split at hs
          · have := (mGo_inv hs).2; cases this
          · cases hs
        · cases hs
      · cases hs
    · split at hs
      · split at hs
        · split at hs
          · split at hs
            · have := (mGo_inv hs).2; cases this
            · cases hs
          · cases hs
        · cases hs
      · cases hs
set_option maxHeartbeats 4000000 in
theorem mIns_retO {ins : Instr} {z : Option Value × σ} (hs : mIns O X y pc len l st h ins = some (.inr (.inl z))) : tyOK (mRt y) z.1 := by
  cases ins with
  | invokevirtual idx => exact (mCv_nrO (show mCv O false y len pc l st h idx = _ from hs)).elim
  | invokespecial idx => exact (mCv_nrO (show mCv O true y len pc l st h idx = _ from hs)).elim
  | invokestatic idx => exact (mCi_nrO (show mCi O y len pc l st h idx = _ from hs)).elim
  | ireturn =>
    simp only [mIns] at hs
    split at hs
    · next x =>
      split at hs
      · next e => cases hs; exact Or.inl ⟨x, rfl, e.2⟩
      · cases hs
    · cases hs
  | lreturn =>
    simp only [mIns] at hs
    split at hs
    · next x =>
      split at hs
      · next e => cases hs; exact Or.inr (Or.inl ⟨x, rfl, e.2⟩)
      · cases hs
    · cases hs
  | areturn =>
    simp only [mIns] at hs
    split at hs
    · next x =>
      split at hs
      · next e => cases hs; exact Or.inr (Or.inr (Or.inl ⟨_, rfl, Or.inr ⟨x, rfl⟩, e.2⟩))
      · cases hs
    · split at hs
      · next e => cases hs; exact Or.inr (Or.inr (Or.inl ⟨_, rfl, Or.inl rfl, e.2⟩))
      · cases hs
    · cases hs
  | return_ =>
    simp only [mIns] at hs
    split at hs
    · split at hs
      · next e => cases hs; exact Or.inr (Or.inr (Or.inr ⟨rfl, e.2⟩))
      · cases hs
    · cases hs
  | iconst n =>
    change mGo 1 len pc l (.int (Int32.ofInt n) :: st) h = _ at hs
    obtain ⟨-, hq⟩ := mGo_inv hs
    cases hq
  | bipush n =>
    change mGo 2 len pc l (.int (Int8.ofInt n).toInt32 :: st) h = _ at hs
    obtain ⟨-, hq⟩ := mGo_inv hs
    cases hq
  | sipush n =>
    change mGo 3 len pc l (.int (Int16.ofInt n).toInt32 :: st) h = _ at hs
    obtain ⟨-, hq⟩ := mGo_inv hs
    cases hq
  | lconst n =>
    change mGo 1 len pc l (.long (Int64.ofNat (n : Nat)) :: st) h = _ at hs
    obtain ⟨-, hq⟩ := mGo_inv hs
    cases hq
  | aconst_null =>
    change mGo 1 len pc l (.null :: st) h = _ at hs
    obtain ⟨-, hq⟩ := mGo_inv hs
    cases hq
  | ldc idx =>
    change mCs 2 len y pc l st h idx false = _ at hs
    rcases mCs_inv hs with ⟨-, v, -, -, hq⟩ | ⟨-, v, -, -, hq⟩ <;> (cases hq)
  | ldc_w idx =>
    change mCs 3 len y pc l st h idx false = _ at hs
    rcases mCs_inv hs with ⟨-, v, -, -, hq⟩ | ⟨-, v, -, -, hq⟩ <;> (cases hq)
  | ldc2_w idx =>
    change mCs 3 len y pc l st h idx true = _ at hs
    rcases mCs_inv hs with ⟨-, v, -, -, hq⟩ | ⟨-, v, -, -, hq⟩ <;> (cases hq)
  | iload_n k =>
    change mLd 1 len pc l k st h isI = _ at hs
    obtain ⟨v, -, -, -, hq⟩ := mLd_inv hs
    cases hq
  | iload k =>
    change mLd 2 len pc l k st h isI = _ at hs
    obtain ⟨v, -, -, -, hq⟩ := mLd_inv hs
    cases hq
  | lload_n k =>
    change mLd 1 len pc l k st h isL = _ at hs
    obtain ⟨v, -, -, -, hq⟩ := mLd_inv hs
    cases hq
  | lload k =>
    change mLd 2 len pc l k st h isL = _ at hs
    obtain ⟨v, -, -, -, hq⟩ := mLd_inv hs
    cases hq
  | aload_n k =>
    change mLd 1 len pc l k st h isA = _ at hs
    obtain ⟨v, -, -, -, hq⟩ := mLd_inv hs
    cases hq
  | aload k =>
    change mLd 2 len pc l k st h isA = _ at hs
    obtain ⟨v, -, -, -, hq⟩ := mLd_inv hs
    cases hq
  | istore_n k =>
    change mStI 1 len pc l k st h = _ at hs
    obtain ⟨x, r, -, -, -, hq⟩ := mStI_inv hs
    cases hq
  | istore k =>
    change mStI 2 len pc l k st h = _ at hs
    obtain ⟨x, r, -, -, -, hq⟩ := mStI_inv hs
    cases hq
  | lstore_n k =>
    change mStL 1 len pc l k st h = _ at hs
    obtain ⟨x, r, -, -, -, hq⟩ := mStL_inv hs
    cases hq
  | lstore k =>
    change mStL 2 len pc l k st h = _ at hs
    obtain ⟨x, r, -, -, -, hq⟩ := mStL_inv hs
    cases hq
  | astore_n k =>
    change mStA 1 len pc l k st h = _ at hs
    obtain ⟨x, r, -, -, -, -, hq⟩ := mStA_inv hs
    cases hq
  | astore k =>
    change mStA 2 len pc l k st h = _ at hs
    obtain ⟨x, r, -, -, -, -, hq⟩ := mStA_inv hs
    cases hq
  | iinc k n =>
    change (match l[k]? with | some (some (.int x)) => mGo 3 len pc (mSt1 l k (.int (x + Int32.ofInt n))) st h | _ => none) = _ at hs
    split at hs
    · obtain ⟨-, hq⟩ := mGo_inv hs
      cases hq
    · cases hs
  | iadd =>
    change mII len pc l st h (fun x y => x + y) = _ at hs
    obtain ⟨x, z, r, -, -, hq⟩ := mII_inv hs
    cases hq
  | isub =>
    change mII len pc l st h (fun x y => x - y) = _ at hs
    obtain ⟨x, z, r, -, -, hq⟩ := mII_inv hs
    cases hq
  | imul =>
    change mII len pc l st h (fun x y => x * y) = _ at hs
    obtain ⟨x, z, r, -, -, hq⟩ := mII_inv hs
    cases hq
  | iand =>
    change mII len pc l st h (fun x y => x &&& y) = _ at hs
    obtain ⟨x, z, r, -, -, hq⟩ := mII_inv hs
    cases hq
  | ior =>
    change mII len pc l st h (fun x y => x ||| y) = _ at hs
    obtain ⟨x, z, r, -, -, hq⟩ := mII_inv hs
    cases hq
  | ixor =>
    change mII len pc l st h (fun x y => x ^^^ y) = _ at hs
    obtain ⟨x, z, r, -, -, hq⟩ := mII_inv hs
    cases hq
  | ishl =>
    change mII len pc l st h (fun x y => x <<< (y &&& 31)) = _ at hs
    obtain ⟨x, z, r, -, -, hq⟩ := mII_inv hs
    cases hq
  | ishr =>
    change mII len pc l st h (fun x y => x >>> (y &&& 31)) = _ at hs
    obtain ⟨x, z, r, -, -, hq⟩ := mII_inv hs
    cases hq
  | iushr =>
    change mII len pc l st h (fun x y => (x.toUInt32 >>> (y.toUInt32 &&& Int32.toUInt32 31)).toInt32) = _ at hs
    obtain ⟨x, z, r, -, -, hq⟩ := mII_inv hs
    cases hq
  | idiv =>
    change mIZ len pc l st h (fun x y => x / y) = _ at hs
    obtain ⟨x, z, r, -, -, -, hq⟩ := mIZ_inv hs
    cases hq
  | irem =>
    change mIZ len pc l st h (fun x y => x - x / y * y) = _ at hs
    obtain ⟨x, z, r, -, -, -, hq⟩ := mIZ_inv hs
    cases hq
  | ineg =>
    change mI1 len pc l st h (fun x => .int (-x)) = _ at hs
    obtain ⟨x, r, -, -, hq⟩ := mI1_inv hs
    cases hq
  | ladd =>
    change mLL len pc l st h (fun x y => .long (x + y)) = _ at hs
    obtain ⟨x, z, r, -, -, hq⟩ := mLL_inv hs
    cases hq
  | lsub =>
    change mLL len pc l st h (fun x y => .long (x - y)) = _ at hs
    obtain ⟨x, z, r, -, -, hq⟩ := mLL_inv hs
    cases hq
  | lmul =>
    change mLL len pc l st h (fun x y => .long (x * y)) = _ at hs
    obtain ⟨x, z, r, -, -, hq⟩ := mLL_inv hs
    cases hq
  | land =>
    change mLL len pc l st h (fun x y => .long (x &&& y)) = _ at hs
    obtain ⟨x, z, r, -, -, hq⟩ := mLL_inv hs
    cases hq
  | lor =>
    change mLL len pc l st h (fun x y => .long (x ||| y)) = _ at hs
    obtain ⟨x, z, r, -, -, hq⟩ := mLL_inv hs
    cases hq
  | lcmp =>
    change mLL len pc l st h (fun x y => .int (lg_cmp x y)) = _ at hs
    obtain ⟨x, z, r, -, -, hq⟩ := mLL_inv hs
    cases hq
  | ldiv =>
    change mLZ len pc l st h (fun x y => .long (x / y)) = _ at hs
    obtain ⟨x, z, r, -, -, -, hq⟩ := mLZ_inv hs
    cases hq
  | lrem =>
    change mLZ len pc l st h (fun x y => .long (x - x / y * y)) = _ at hs
    obtain ⟨x, z, r, -, -, -, hq⟩ := mLZ_inv hs
    cases hq
  | lshl =>
    change mLI len pc l st h (fun x y => x <<< (y.toInt64 &&& 63)) = _ at hs
    obtain ⟨x, z, r, -, -, hq⟩ := mLI_inv hs
    cases hq
  | lshr =>
    change mLI len pc l st h (fun x y => x >>> (y.toInt64 &&& 63)) = _ at hs
    obtain ⟨x, z, r, -, -, hq⟩ := mLI_inv hs
    cases hq
  | lushr =>
    change mLI len pc l st h (fun x y => (x.toUInt64 >>> (y.toInt64.toUInt64 &&& Int64.toUInt64 63)).toInt64) = _ at hs
    obtain ⟨x, z, r, -, -, hq⟩ := mLI_inv hs
    cases hq
  | i2l =>
    change mI1 len pc l st h (fun x => .long x.toInt64) = _ at hs
    obtain ⟨x, r, -, -, hq⟩ := mI1_inv hs
    cases hq
  | i2b =>
    change mI1 len pc l st h (fun x => .int x.toInt8.toInt32) = _ at hs
    obtain ⟨x, r, -, -, hq⟩ := mI1_inv hs
    cases hq
  | i2c =>
    change mI1 len pc l st h (fun x => .int (x.toUInt32 % 65536).toInt32) = _ at hs
    obtain ⟨x, r, -, -, hq⟩ := mI1_inv hs
    cases hq
  | l2i =>
    change mL1 len pc l st h (fun x => .int x.toInt32) = _ at hs
    obtain ⟨x, r, -, -, hq⟩ := mL1_inv hs
    cases hq
  | dup =>
    change (match st with | v :: r => if v.category = 1 then mGo 1 len pc l (v :: v :: r) h else none | _ => none) = _ at hs
    split at hs
    · split at hs
      · obtain ⟨-, hq⟩ := mGo_inv hs
        cases hq
      · cases hs
    · cases hs
  | dup2 =>
    change (match st with | v :: w :: r => if v.category = 1 ∧ w.category = 1 then mGo 1 len pc l (v :: w :: v :: w :: r) h else none | _ => none) = _ at hs
    split at hs
    · split at hs
      · obtain ⟨-, hq⟩ := mGo_inv hs
        cases hq
      · cases hs
    · cases hs
  | pop =>
    change (match st with | v :: r => if v.category = 1 then mGo 1 len pc l (r) h else none | _ => none) = _ at hs
    split at hs
    · split at hs
      · obtain ⟨-, hq⟩ := mGo_inv hs
        cases hq
      · cases hs
    · cases hs
  | ifCond cc off =>
    change mIf cc len pc l st h off = _ at hs
    obtain ⟨x, r, -, t, -, -, hq⟩ := mIf_inv hs
    cases hq
  | if_icmp cc off =>
    change mIc cc len pc l st h off = _ at hs
    obtain ⟨x, z, r, -, t, -, -, hq⟩ := mIc_inv hs
    cases hq
  | ifnull off =>
    change mNl true len pc l st h off = _ at hs
    rcases mNl_inv hs with ⟨r, -, t, -, -, hq⟩ | ⟨a, r, -, t, -, -, hq⟩ <;> (cases hq)
  | ifnonnull off =>
    change mNl false len pc l st h off = _ at hs
    rcases mNl_inv hs with ⟨r, -, t, -, -, hq⟩ | ⟨a, r, -, t, -, -, hq⟩ <;> (cases hq)
  | goto off =>
    change mJp len pc l st h true off = _ at hs
    obtain ⟨t, -, -, hq⟩ := mJp_inv hs
    cases hq
  | tableswitch d lo hi os =>
    change mSw pc l st h d lo hi os = _ at hs
    obtain ⟨x, r, o, -, -, t, -, hq⟩ := mSw_inv hs
    cases hq
  | iaload =>
    change mAl O X 0 len pc l st h = _ at hs
    obtain ⟨j, a, r, -, -, ⟨-, -, -, hq⟩ | ⟨v, -, hq⟩⟩ := mAl_inv hs <;> (cases hq)
  | baload =>
    change mAl O X 1 len pc l st h = _ at hs
    obtain ⟨j, a, r, -, -, ⟨-, -, -, hq⟩ | ⟨v, -, hq⟩⟩ := mAl_inv hs <;> (cases hq)
  | caload =>
    change mAl O X 2 len pc l st h = _ at hs
    obtain ⟨j, a, r, -, -, ⟨-, -, -, hq⟩ | ⟨v, -, hq⟩⟩ := mAl_inv hs <;> (cases hq)
  | aaload =>
    change mAl O X 3 len pc l st h = _ at hs
    obtain ⟨j, a, r, -, -, ⟨-, -, -, hq⟩ | ⟨v, -, hq⟩⟩ := mAl_inv hs <;> (cases hq)
  | iastore =>
    change mAs O 0 len pc l st h = _ at hs
    obtain ⟨v, j, a, r, h2, -, -, hv, hq⟩ := mAs_inv hs
    cases hq
  | bastore =>
    change mAs O 1 len pc l st h = _ at hs
    obtain ⟨v, j, a, r, h2, -, -, hv, hq⟩ := mAs_inv hs
    cases hq
  | castore =>
    change mAs O 2 len pc l st h = _ at hs
    obtain ⟨v, j, a, r, h2, -, -, hv, hq⟩ := mAs_inv hs
    cases hq
  | aastore =>
    change mAs O 3 len pc l st h = _ at hs
    obtain ⟨v, j, a, r, h2, -, -, hv, hq⟩ := mAs_inv hs
    cases hq
  | arraylength =>
    change mAn O X len pc l st h = _ at hs
    obtain ⟨a, r, -, -, ⟨-, hq⟩ | ⟨v, -, hq⟩⟩ := mAn_inv hs <;> (cases hq)
  | newarray at1 =>
    cases at1 with
    | int =>
      change mNa O 2 0 len pc l st h = _ at hs
      obtain ⟨n, r, z, -, hv, -, hq⟩ := mNa_inv hs
      cases hq
    | boolean =>
      change mNa O 2 1 len pc l st h = _ at hs
      obtain ⟨n, r, z, -, hv, -, hq⟩ := mNa_inv hs
      cases hq
    | char =>
      change mNa O 2 2 len pc l st h = _ at hs
      obtain ⟨n, r, z, -, hv, -, hq⟩ := mNa_inv hs
      cases hq
    | byte =>
      change mNa O 2 3 len pc l st h = _ at hs
      obtain ⟨n, r, z, -, hv, -, hq⟩ := mNa_inv hs
      cases hq
    | _ => cases hs
  | anewarray idx =>
    change (if mAt (mOwn y) idx then mNa O 3 4 len pc l st h else none) = _ at hs
    split at hs
    · obtain ⟨n, r, z, -, hv, -, hq⟩ := mNa_inv hs
      cases hq
    · cases hs
  | getfield idx =>
    change mGf O y len pc l st h idx = _ at hs
    obtain ⟨a, r, z, v, -, -, -, -, hq⟩ := mGf_inv hs
    cases hq
  | putfield idx =>
    change mPf O y len pc l st h idx = _ at hs
    obtain ⟨v, a, r, z, h2, -, -, -, hv, -, hq⟩ := mPf_inv hs
    cases hq
  | new idx =>
    change mNw O y len pc l st h idx = _ at hs
    obtain ⟨ci, z, -, hv, -, hq⟩ := mNw_inv hs
    cases hq
  | _ => first | (cases hs; done) | (simp [mIns] at hs; done)
theorem mRun_ty : ∀ (n : Nat) {y pc : Nat} {l : mL} {st : List Value} {h : σ} {r : Option Value × σ}, mRun O X n y pc l st h = some r → tyOK (mRt y) r.1 := by
  intro n
  induction n with
  | zero => intro y pc l st h r hr; simp [mRun] at hr
  | succ n ih =>
    intro y pc l st h r hr
    rw [mRun] at hr
    cases hs : mStep O X y pc (mM y pc l) st h with
    | none => rw [hs] at hr; cases hr
    | some q =>
      rw [hs] at hr
      rcases q with ⟨pc1, l1, st1, h1⟩ | z | ⟨y1, as, pc1, l1, st1, h1⟩
      · exact ih hr
      · cases hr
        unfold mStep at hs
        split at hs
        · exact mIns_retO hs
        · cases hs
      · dsimp only at hr
        cases hc : mRun O X n y1 0 (mEnt as (mMx y1)) [] h1 with
        | none => rw [hc] at hr; cases hr
        | some v => rw [hc] at hr; exact ih hr
theorem mV_ty {y pc : Nat} {l : mL} {st : List Value} {h : σ} {r : Option Value × σ} (hr : mV O X y pc l st h = some r) : tyOK (mRt y) r.1 := by
  obtain ⟨n, hn⟩ := (mV_iff O X y pc l st h r).mp hr
  exact mRun_ty n hn
end TY
def cI (r : Option (Option Value × Mem)) : Option (Int32 × Mem) := match r with
  | some (some (.int x), S) => some (x, S)
  | _ => none
def cJ (r : Option (Option Value × Mem)) : Option (Int64 × Mem) := match r with
  | some (some (.long x), S) => some (x, S)
  | _ => none
def cU (r : Option (Option Value × Mem)) : Option Mem := match r with
  | some (none, S) => some S
  | _ => none
def cA (r : Option (Option Value × Mem)) : Option (Option Nat × Mem) := match r with
  | some (some (.ref a), S) => some (some a, S)
  | some (some .null, S) => some (none, S)
  | _ => none
def oc {α : Type} (o : Option Nat) (A : α) (B : Nat → α) : α := match o with
  | none => A
  | some w => B w
def bI {γ : Type} (r : Option (Int32 × Mem)) (E : Int32 → Mem → Option γ) : Option γ := r.bind fun q => E q.1 q.2
def bJ {γ : Type} (r : Option (Int64 × Mem)) (E : Int64 → Mem → Option γ) : Option γ := r.bind fun q => E q.1 q.2
def bA {γ : Type} (r : Option (Option Nat × Mem)) (E : Option Nat → Mem → Option γ) : Option γ := r.bind fun q => E q.1 q.2
def bU {γ : Type} (r : Option Mem) (E : Mem → Option γ) : Option γ := r.bind E
theorem bI_s {γ : Type} {x : Int32} {S : Mem} {E : Int32 → Mem → Option γ} : bI (some (x, S)) E = E x S := rfl
theorem bJ_s {γ : Type} {x : Int64} {S : Mem} {E : Int64 → Mem → Option γ} : bJ (some (x, S)) E = E x S := rfl
theorem bA_s {γ : Type} {x : Option Nat} {S : Mem} {E : Option Nat → Mem → Option γ} : bA (some (x, S)) E = E x S := rfl
theorem bU_s {γ : Type} {S : Mem} {E : Mem → Option γ} : bU (some S) E = E S := rfl
def zb (x : Int32) : Bool := decide (x = 0) || decide (x = 1)
/-- what kind of answer: 0 int, boolean, char; 1 long; 2 a reference; 3 none -/
def mRk (rt : Option FieldType) : Nat := match rt with
  | none => 3
  | some .long => 1
  | some (.object _) => 2
  | some (.array _) => 2
  | some _ => 0
def cvOk (y idx y1 np rk : Nat) : Bool := decide (lk (mMt (mOwn y)) idx = some y1) && decide (mNp y1 = np) && !(mIni y1) && !(mSta y1) && mRm y y1 && decide (mRk (mRt y1) = rk)
def ciOk (y idx y1 np rk : Nat) : Bool := decide (lk (mMt (mOwn y)) idx = some y1) && decide (mNp y1 = np) && mSta y1 && mRm y y1 && decide (mRk (mRt y1) = rk)
def fOk (y idx ci k : Nat) : Bool := decide (lk (mFt (mOwn y)) idx = some (ci, k))
def pOk (y idx ci k : Nat) : Bool := decide (lk (mFt (mOwn y)) idx = some (ci, k)) && !(mFin ci k && !(mIni y && (mOwn y == ci)))
theorem SH_ns {a : Nat} {c : sC} (h : SH[a]? = some c) : a ≠ mSid := by
  have h1 := (List.getElem?_eq_some_iff.mp h).1
  have h2 : SH.length ≤ 1000 := by decide +kernel
  unfold mSid
  omega
theorem mStep_d {σ : Type} {O : mO σ} {X : mX} {y pc len : Nat} {l : mL} {st : List Value} {h : σ} {i : Instr} (hd : decode (mCd y) pc = .ok (i, len)) : mStep O X y pc l st h = mIns O X y pc len l st h i := by
  unfold mStep
  rw [hd]
theorem mM_n {y pc : Nat} {l : mL} (h : lk (mMsk y) pc = none) : mM y pc l = l := by
  unfold mM
  rw [h]
theorem mM_s {y pc : Nat} {l : mL} {bs : List Bool} (h : lk (mMsk y) pc = some bs) (hz : mZ l bs = l) : mM y pc l = l := by
  unfold mM
  rw [h]
  exact hz
theorem mZ_idem : ∀ (l : mL) (bs : List Bool), mZ (mZ l bs) bs = mZ l bs
  | [], bs => by cases bs <;> rfl
  | o :: r, [] => rfl
  | o :: r, b :: bs => by
    simp only [mZ, mZ_idem r bs]
    cases b <;> rfl
section VR
variable {γ : Type} {c : Option (Option Value × Mem) → Option γ} {X : mX} {y pc : Nat} {l : mL} {st : List Value} {S : Mem} {A B rhs : Option γ}
theorem V_msk {bs : List Bool} {l1 : mL} (h : lk (mMsk y) pc = some bs) (hz : mZ l bs = l1) (k : c (mV oS X y pc l1 st S) = rhs) : c (mV oS X y pc l st S) = rhs := by
  rw [← k, mV_unf, mV_unf oS X y pc l1]
  unfold mM
  rw [h]
  dsimp only
  rw [← hz, mZ_idem]
theorem V_go {pc1 : Nat} {l1 : mL} {st1 : List Value} {S1 : Mem} (hm : mM y pc l = l) (hs : mStep oS X y pc l st S = some (.inl (pc1, l1, st1, S1))) (k : c (mV oS X y pc1 l1 st1 S1) = rhs) : c (mV oS X y pc l st S) = rhs := by
  rw [mV_unf, hm, hs]
  exact k
theorem V_no (hm : mM y pc l = l) (hs : mStep oS X y pc l st S = none) (h0 : c none = none) : c (mV oS X y pc l st S) = none := by
  rw [mV_unf, hm, hs]
  exact h0
theorem V_iconst {n : Int} {v : Int32} (hd : decode (mCd y) pc = .ok (.iconst n, 1)) (hm : mM y pc l = l) (hv : Int32.ofInt n = v) (k : c (mV oS X y (pc + 1) l (.int v :: st) S) = rhs) : c (mV oS X y pc l st S) = rhs := V_go hm (by rw [mStep_d hd, ← hv]; rfl) k
theorem V_bipush {n : Int} {v : Int32} (hd : decode (mCd y) pc = .ok (.bipush n, 2)) (hm : mM y pc l = l) (hv : (Int8.ofInt n).toInt32 = v) (k : c (mV oS X y (pc + 2) l (.int v :: st) S) = rhs) : c (mV oS X y pc l st S) = rhs := V_go hm (by rw [mStep_d hd, ← hv]; rfl) k
theorem V_sipush {n : Int} {v : Int32} (hd : decode (mCd y) pc = .ok (.sipush n, 3)) (hm : mM y pc l = l) (hv : (Int16.ofInt n).toInt32 = v) (k : c (mV oS X y (pc + 3) l (.int v :: st) S) = rhs) : c (mV oS X y pc l st S) = rhs := V_go hm (by rw [mStep_d hd, ← hv]; rfl) k
theorem V_lconst {n : Fin 2} {v : Int64} (hd : decode (mCd y) pc = .ok (.lconst n, 1)) (hm : mM y pc l = l) (hv : Int64.ofNat (n : Nat) = v) (k : c (mV oS X y (pc + 1) l (.long v :: st) S) = rhs) : c (mV oS X y pc l st S) = rhs := V_go hm (by rw [mStep_d hd, ← hv]; rfl) k
theorem V_null (hd : decode (mCd y) pc = .ok (.aconst_null, 1)) (hm : mM y pc l = l) (k : c (mV oS X y (pc + 1) l (.null :: st) S) = rhs) : c (mV oS X y pc l st S) = rhs := V_go hm (by rw [mStep_d hd]; rfl) k
theorem V_ldc {i : Nat} {v : Int32} (hd : decode (mCd y) pc = .ok (.ldc i, 2)) (hm : mM y pc l = l) (hv : lk (mKt (mOwn y)) i = some (.inl v)) (k : c (mV oS X y (pc + 2) l (.int v :: st) S) = rhs) : c (mV oS X y pc l st S) = rhs := V_go hm (by rw [mStep_d hd]; show mCs 2 2 y pc l st S i false = _; unfold mCs; rw [hv]; rfl) k
theorem V_ldc_w {i : Nat} {v : Int32} (hd : decode (mCd y) pc = .ok (.ldc_w i, 3)) (hm : mM y pc l = l) (hv : lk (mKt (mOwn y)) i = some (.inl v)) (k : c (mV oS X y (pc + 3) l (.int v :: st) S) = rhs) : c (mV oS X y pc l st S) = rhs := V_go hm (by rw [mStep_d hd]; show mCs 3 3 y pc l st S i false = _; unfold mCs; rw [hv]; rfl) k
theorem V_ldc2_w {i : Nat} {v : Int64} (hd : decode (mCd y) pc = .ok (.ldc2_w i, 3)) (hm : mM y pc l = l) (hv : lk (mKt (mOwn y)) i = some (.inr v)) (k : c (mV oS X y (pc + 3) l (.long v :: st) S) = rhs) : c (mV oS X y pc l st S) = rhs := V_go hm (by rw [mStep_d hd]; show mCs 3 3 y pc l st S i true = _; unfold mCs; rw [hv]; rfl) k
theorem V_iload_n {j : Fin 4} {x : Int32} (hd : decode (mCd y) pc = .ok (.iload_n j, 1)) (hm : mM y pc l = l) (hl : l[(j : Nat)]? = some (some (.int x))) (k : c (mV oS X y (pc + 1) l (.int x :: st) S) = rhs) : c (mV oS X y pc l st S) = rhs := V_go hm (by rw [mStep_d hd]; show mLd 1 1 pc l j st S isI = _; unfold mLd; rw [hl]; rfl) k
theorem V_iload {j : Nat} {x : Int32} (hd : decode (mCd y) pc = .ok (.iload j, 2)) (hm : mM y pc l = l) (hl : l[j]? = some (some (.int x))) (k : c (mV oS X y (pc + 2) l (.int x :: st) S) = rhs) : c (mV oS X y pc l st S) = rhs := V_go hm (by rw [mStep_d hd]; show mLd 2 2 pc l j st S isI = _; unfold mLd; rw [hl]; rfl) k
theorem V_lload_n {j : Fin 4} {x : Int64} (hd : decode (mCd y) pc = .ok (.lload_n j, 1)) (hm : mM y pc l = l) (hl : l[(j : Nat)]? = some (some (.long x))) (k : c (mV oS X y (pc + 1) l (.long x :: st) S) = rhs) : c (mV oS X y pc l st S) = rhs := V_go hm (by rw [mStep_d hd]; show mLd 1 1 pc l j st S isL = _; unfold mLd; rw [hl]; rfl) k
theorem V_lload {j : Nat} {x : Int64} (hd : decode (mCd y) pc = .ok (.lload j, 2)) (hm : mM y pc l = l) (hl : l[j]? = some (some (.long x))) (k : c (mV oS X y (pc + 2) l (.long x :: st) S) = rhs) : c (mV oS X y pc l st S) = rhs := V_go hm (by rw [mStep_d hd]; show mLd 2 2 pc l j st S isL = _; unfold mLd; rw [hl]; rfl) k
theorem V_aload_n {j : Fin 4} {v : Value} (hd : decode (mCd y) pc = .ok (.aload_n j, 1)) (hm : mM y pc l = l) (hl : l[(j : Nat)]? = some (some v)) (hv : isA v = true) (k : c (mV oS X y (pc + 1) l (v :: st) S) = rhs) : c (mV oS X y pc l st S) = rhs := V_go hm (by rw [mStep_d hd]; show mLd 1 1 pc l j st S isA = _; unfold mLd; rw [hl]; dsimp only; rw [if_pos hv]; rfl) k
theorem V_aload {j : Nat} {v : Value} (hd : decode (mCd y) pc = .ok (.aload j, 2)) (hm : mM y pc l = l) (hl : l[j]? = some (some v)) (hv : isA v = true) (k : c (mV oS X y (pc + 2) l (v :: st) S) = rhs) : c (mV oS X y pc l st S) = rhs := V_go hm (by rw [mStep_d hd]; show mLd 2 2 pc l j st S isA = _; unfold mLd; rw [hl]; dsimp only; rw [if_pos hv]; rfl) k
theorem V_istore_n {j : Fin 4} {x : Int32} {l1 : mL} (hd : decode (mCd y) pc = .ok (.istore_n j, 1)) (hm : mM y pc l = l) (hi : (j : Nat) < l.length) (hl : mSt1 l (j : Nat) (.int x) = l1) (k : c (mV oS X y (pc + 1) l1 st S) = rhs) : c (mV oS X y pc l (.int x :: st) S) = rhs := V_go hm (by rw [mStep_d hd, ← hl]; show mStI 1 1 pc l j (.int x :: st) S = _; unfold mStI; dsimp only; rw [if_pos hi]; rfl) k
theorem V_istore {j : Nat} {x : Int32} {l1 : mL} (hd : decode (mCd y) pc = .ok (.istore j, 2)) (hm : mM y pc l = l) (hi : j < l.length) (hl : mSt1 l j (.int x) = l1) (k : c (mV oS X y (pc + 2) l1 st S) = rhs) : c (mV oS X y pc l (.int x :: st) S) = rhs := V_go hm (by rw [mStep_d hd, ← hl]; show mStI 2 2 pc l j (.int x :: st) S = _; unfold mStI; dsimp only; rw [if_pos hi]; rfl) k
theorem V_lstore_n {j : Fin 4} {x : Int64} {l1 : mL} (hd : decode (mCd y) pc = .ok (.lstore_n j, 1)) (hm : mM y pc l = l) (hi : (j : Nat) + 1 < l.length) (hl : mSt2 l (j : Nat) (.long x) = l1) (k : c (mV oS X y (pc + 1) l1 st S) = rhs) : c (mV oS X y pc l (.long x :: st) S) = rhs := V_go hm (by rw [mStep_d hd, ← hl]; show mStL 1 1 pc l j (.long x :: st) S = _; unfold mStL; dsimp only; rw [if_pos hi]; rfl) k
theorem V_lstore {j : Nat} {x : Int64} {l1 : mL} (hd : decode (mCd y) pc = .ok (.lstore j, 2)) (hm : mM y pc l = l) (hi : j + 1 < l.length) (hl : mSt2 l j (.long x) = l1) (k : c (mV oS X y (pc + 2) l1 st S) = rhs) : c (mV oS X y pc l (.long x :: st) S) = rhs := V_go hm (by rw [mStep_d hd, ← hl]; show mStL 2 2 pc l j (.long x :: st) S = _; unfold mStL; dsimp only; rw [if_pos hi]; rfl) k
theorem V_astore_n {j : Fin 4} {v : Value} {l1 : mL} (hd : decode (mCd y) pc = .ok (.astore_n j, 1)) (hm : mM y pc l = l) (hv : isA v = true) (hi : (j : Nat) < l.length) (hl : mSt1 l (j : Nat) v = l1) (k : c (mV oS X y (pc + 1) l1 st S) = rhs) : c (mV oS X y pc l (v :: st) S) = rhs := V_go hm (by rw [mStep_d hd, ← hl]; show mStA 1 1 pc l j (v :: st) S = _; cases v <;> first | (cases hv; done) | (unfold mStA; dsimp only; rw [if_pos hi]; rfl)) k
theorem V_astore {j : Nat} {v : Value} {l1 : mL} (hd : decode (mCd y) pc = .ok (.astore j, 2)) (hm : mM y pc l = l) (hv : isA v = true) (hi : j < l.length) (hl : mSt1 l j v = l1) (k : c (mV oS X y (pc + 2) l1 st S) = rhs) : c (mV oS X y pc l (v :: st) S) = rhs := V_go hm (by rw [mStep_d hd, ← hl]; show mStA 2 2 pc l j (v :: st) S = _; cases v <;> first | (cases hv; done) | (unfold mStA; dsimp only; rw [if_pos hi]; rfl)) k
theorem V_iinc {j : Nat} {n : Int} {x v : Int32} {l1 : mL} (hd : decode (mCd y) pc = .ok (.iinc j n, 3)) (hm : mM y pc l = l) (hl : l[j]? = some (some (.int x))) (hv : Int32.ofInt n = v) (h1 : mSt1 l j (.int (x + v)) = l1) (k : c (mV oS X y (pc + 3) l1 st S) = rhs) : c (mV oS X y pc l st S) = rhs := V_go hm (by rw [mStep_d hd, ← h1, ← hv]; show (match l[j]? with | some (some (.int x)) => mGo 3 3 pc (mSt1 l j (.int (x + Int32.ofInt n))) st S | _ => none) = _; rw [hl]; rfl) k
theorem V_iadd {x z : Int32} (hd : decode (mCd y) pc = .ok (.iadd, 1)) (hm : mM y pc l = l) (k : c (mV oS X y (pc + 1) l (.int (x + z) :: st) S) = rhs) : c (mV oS X y pc l (.int z :: .int x :: st) S) = rhs := V_go hm (by rw [mStep_d hd]; rfl) k
theorem V_isub {x z : Int32} (hd : decode (mCd y) pc = .ok (.isub, 1)) (hm : mM y pc l = l) (k : c (mV oS X y (pc + 1) l (.int (x - z) :: st) S) = rhs) : c (mV oS X y pc l (.int z :: .int x :: st) S) = rhs := V_go hm (by rw [mStep_d hd]; rfl) k
theorem V_imul {x z : Int32} (hd : decode (mCd y) pc = .ok (.imul, 1)) (hm : mM y pc l = l) (k : c (mV oS X y (pc + 1) l (.int (x * z) :: st) S) = rhs) : c (mV oS X y pc l (.int z :: .int x :: st) S) = rhs := V_go hm (by rw [mStep_d hd]; rfl) k
theorem V_iand {x z : Int32} (hd : decode (mCd y) pc = .ok (.iand, 1)) (hm : mM y pc l = l) (k : c (mV oS X y (pc + 1) l (.int (x &&& z) :: st) S) = rhs) : c (mV oS X y pc l (.int z :: .int x :: st) S) = rhs := V_go hm (by rw [mStep_d hd]; rfl) k
theorem V_ior {x z : Int32} (hd : decode (mCd y) pc = .ok (.ior, 1)) (hm : mM y pc l = l) (k : c (mV oS X y (pc + 1) l (.int (x ||| z) :: st) S) = rhs) : c (mV oS X y pc l (.int z :: .int x :: st) S) = rhs := V_go hm (by rw [mStep_d hd]; rfl) k
theorem V_ixor {x z : Int32} (hd : decode (mCd y) pc = .ok (.ixor, 1)) (hm : mM y pc l = l) (k : c (mV oS X y (pc + 1) l (.int (x ^^^ z) :: st) S) = rhs) : c (mV oS X y pc l (.int z :: .int x :: st) S) = rhs := V_go hm (by rw [mStep_d hd]; rfl) k
theorem V_ishl {x z : Int32} (hd : decode (mCd y) pc = .ok (.ishl, 1)) (hm : mM y pc l = l) (k : c (mV oS X y (pc + 1) l (.int (x <<< (z &&& 31)) :: st) S) = rhs) : c (mV oS X y pc l (.int z :: .int x :: st) S) = rhs := V_go hm (by rw [mStep_d hd]; rfl) k
theorem V_ishr {x z : Int32} (hd : decode (mCd y) pc = .ok (.ishr, 1)) (hm : mM y pc l = l) (k : c (mV oS X y (pc + 1) l (.int (x >>> (z &&& 31)) :: st) S) = rhs) : c (mV oS X y pc l (.int z :: .int x :: st) S) = rhs := V_go hm (by rw [mStep_d hd]; rfl) k
theorem V_iushr {x z : Int32} (hd : decode (mCd y) pc = .ok (.iushr, 1)) (hm : mM y pc l = l) (k : c (mV oS X y (pc + 1) l (.int ((x.toUInt32 >>> (z.toUInt32 &&& Int32.toUInt32 31)).toInt32) :: st) S) = rhs) : c (mV oS X y pc l (.int z :: .int x :: st) S) = rhs := V_go hm (by rw [mStep_d hd]; rfl) k
theorem V_idiv {x z : Int32} (hd : decode (mCd y) pc = .ok (.idiv, 1)) (hm : mM y pc l = l) (h0 : c none = none) (k : ¬ z = 0 → c (mV oS X y (pc + 1) l (.int (x / z) :: st) S) = rhs) : c (mV oS X y pc l (.int z :: .int x :: st) S) = if z = 0 then none else rhs := by
  by_cases hz : z = 0
  · rw [if_pos hz]; exact V_no hm (by rw [mStep_d hd]; show mIZ 1 pc l (.int z :: .int x :: st) S (fun x z => x / z) = _; unfold mIZ; dsimp only; rw [if_pos hz]) h0
  · rw [if_neg hz]; exact V_go hm (by rw [mStep_d hd]; show mIZ 1 pc l (.int z :: .int x :: st) S (fun x z => x / z) = _; unfold mIZ; dsimp only; rw [if_neg hz]; rfl) (k hz)
theorem V_idivL {x z : Int32} (hd : decode (mCd y) pc = .ok (.idiv, 1)) (hm : mM y pc l = l) (hz : ¬ z = 0) (k : c (mV oS X y (pc + 1) l (.int (x / z) :: st) S) = rhs) : c (mV oS X y pc l (.int z :: .int x :: st) S) = rhs := V_go hm (by rw [mStep_d hd]; show mIZ 1 pc l (.int z :: .int x :: st) S (fun x z => x / z) = _; unfold mIZ; dsimp only; rw [if_neg hz]; rfl) k
theorem V_irem {x z : Int32} (hd : decode (mCd y) pc = .ok (.irem, 1)) (hm : mM y pc l = l) (h0 : c none = none) (k : ¬ z = 0 → c (mV oS X y (pc + 1) l (.int (x - x / z * z) :: st) S) = rhs) : c (mV oS X y pc l (.int z :: .int x :: st) S) = if z = 0 then none else rhs := by
  by_cases hz : z = 0
  · rw [if_pos hz]; exact V_no hm (by rw [mStep_d hd]; show mIZ 1 pc l (.int z :: .int x :: st) S (fun x z => x - x / z * z) = _; unfold mIZ; dsimp only; rw [if_pos hz]) h0
  · rw [if_neg hz]; exact V_go hm (by rw [mStep_d hd]; show mIZ 1 pc l (.int z :: .int x :: st) S (fun x z => x - x / z * z) = _; unfold mIZ; dsimp only; rw [if_neg hz]; rfl) (k hz)
theorem V_iremL {x z : Int32} (hd : decode (mCd y) pc = .ok (.irem, 1)) (hm : mM y pc l = l) (hz : ¬ z = 0) (k : c (mV oS X y (pc + 1) l (.int (x - x / z * z) :: st) S) = rhs) : c (mV oS X y pc l (.int z :: .int x :: st) S) = rhs := V_go hm (by rw [mStep_d hd]; show mIZ 1 pc l (.int z :: .int x :: st) S (fun x z => x - x / z * z) = _; unfold mIZ; dsimp only; rw [if_neg hz]; rfl) k
theorem V_ladd {x z : Int64} (hd : decode (mCd y) pc = .ok (.ladd, 1)) (hm : mM y pc l = l) (k : c (mV oS X y (pc + 1) l (.long (x + z) :: st) S) = rhs) : c (mV oS X y pc l (.long z :: .long x :: st) S) = rhs := V_go hm (by rw [mStep_d hd]; rfl) k
theorem V_lsub {x z : Int64} (hd : decode (mCd y) pc = .ok (.lsub, 1)) (hm : mM y pc l = l) (k : c (mV oS X y (pc + 1) l (.long (x - z) :: st) S) = rhs) : c (mV oS X y pc l (.long z :: .long x :: st) S) = rhs := V_go hm (by rw [mStep_d hd]; rfl) k
theorem V_lmul {x z : Int64} (hd : decode (mCd y) pc = .ok (.lmul, 1)) (hm : mM y pc l = l) (k : c (mV oS X y (pc + 1) l (.long (x * z) :: st) S) = rhs) : c (mV oS X y pc l (.long z :: .long x :: st) S) = rhs := V_go hm (by rw [mStep_d hd]; rfl) k
theorem V_land {x z : Int64} (hd : decode (mCd y) pc = .ok (.land, 1)) (hm : mM y pc l = l) (k : c (mV oS X y (pc + 1) l (.long (x &&& z) :: st) S) = rhs) : c (mV oS X y pc l (.long z :: .long x :: st) S) = rhs := V_go hm (by rw [mStep_d hd]; rfl) k
theorem V_lor {x z : Int64} (hd : decode (mCd y) pc = .ok (.lor, 1)) (hm : mM y pc l = l) (k : c (mV oS X y (pc + 1) l (.long (x ||| z) :: st) S) = rhs) : c (mV oS X y pc l (.long z :: .long x :: st) S) = rhs := V_go hm (by rw [mStep_d hd]; rfl) k
theorem V_lcmp {x z : Int64} (hd : decode (mCd y) pc = .ok (.lcmp, 1)) (hm : mM y pc l = l) (k : c (mV oS X y (pc + 1) l (.int (lg_cmp x z) :: st) S) = rhs) : c (mV oS X y pc l (.long z :: .long x :: st) S) = rhs := V_go hm (by rw [mStep_d hd]; rfl) k
theorem V_ldiv {x z : Int64} (hd : decode (mCd y) pc = .ok (.ldiv, 1)) (hm : mM y pc l = l) (h0 : c none = none) (k : ¬ z = 0 → c (mV oS X y (pc + 1) l (.long (x / z) :: st) S) = rhs) : c (mV oS X y pc l (.long z :: .long x :: st) S) = if z = 0 then none else rhs := by
  by_cases hz : z = 0
  · rw [if_pos hz]; exact V_no hm (by rw [mStep_d hd]; show mLZ 1 pc l (.long z :: .long x :: st) S (fun x z => .long (x / z)) = _; unfold mLZ; dsimp only; rw [if_pos hz]) h0
  · rw [if_neg hz]; exact V_go hm (by rw [mStep_d hd]; show mLZ 1 pc l (.long z :: .long x :: st) S (fun x z => .long (x / z)) = _; unfold mLZ; dsimp only; rw [if_neg hz]; rfl) (k hz)
theorem V_ldivL {x z : Int64} (hd : decode (mCd y) pc = .ok (.ldiv, 1)) (hm : mM y pc l = l) (hz : ¬ z = 0) (k : c (mV oS X y (pc + 1) l (.long (x / z) :: st) S) = rhs) : c (mV oS X y pc l (.long z :: .long x :: st) S) = rhs := V_go hm (by rw [mStep_d hd]; show mLZ 1 pc l (.long z :: .long x :: st) S (fun x z => .long (x / z)) = _; unfold mLZ; dsimp only; rw [if_neg hz]; rfl) k
theorem V_lrem {x z : Int64} (hd : decode (mCd y) pc = .ok (.lrem, 1)) (hm : mM y pc l = l) (h0 : c none = none) (k : ¬ z = 0 → c (mV oS X y (pc + 1) l (.long (x - x / z * z) :: st) S) = rhs) : c (mV oS X y pc l (.long z :: .long x :: st) S) = if z = 0 then none else rhs := by
  by_cases hz : z = 0
  · rw [if_pos hz]; exact V_no hm (by rw [mStep_d hd]; show mLZ 1 pc l (.long z :: .long x :: st) S (fun x z => .long (x - x / z * z)) = _; unfold mLZ; dsimp only; rw [if_pos hz]) h0
  · rw [if_neg hz]; exact V_go hm (by rw [mStep_d hd]; show mLZ 1 pc l (.long z :: .long x :: st) S (fun x z => .long (x - x / z * z)) = _; unfold mLZ; dsimp only; rw [if_neg hz]; rfl) (k hz)
theorem V_lremL {x z : Int64} (hd : decode (mCd y) pc = .ok (.lrem, 1)) (hm : mM y pc l = l) (hz : ¬ z = 0) (k : c (mV oS X y (pc + 1) l (.long (x - x / z * z) :: st) S) = rhs) : c (mV oS X y pc l (.long z :: .long x :: st) S) = rhs := V_go hm (by rw [mStep_d hd]; show mLZ 1 pc l (.long z :: .long x :: st) S (fun x z => .long (x - x / z * z)) = _; unfold mLZ; dsimp only; rw [if_neg hz]; rfl) k
theorem V_lshl {x : Int64} {z : Int32} (hd : decode (mCd y) pc = .ok (.lshl, 1)) (hm : mM y pc l = l) (k : c (mV oS X y (pc + 1) l (.long (x <<< (z.toInt64 &&& 63)) :: st) S) = rhs) : c (mV oS X y pc l (.int z :: .long x :: st) S) = rhs := V_go hm (by rw [mStep_d hd]; rfl) k
theorem V_lshr {x : Int64} {z : Int32} (hd : decode (mCd y) pc = .ok (.lshr, 1)) (hm : mM y pc l = l) (k : c (mV oS X y (pc + 1) l (.long (x >>> (z.toInt64 &&& 63)) :: st) S) = rhs) : c (mV oS X y pc l (.int z :: .long x :: st) S) = rhs := V_go hm (by rw [mStep_d hd]; rfl) k
theorem V_lushr {x : Int64} {z : Int32} (hd : decode (mCd y) pc = .ok (.lushr, 1)) (hm : mM y pc l = l) (k : c (mV oS X y (pc + 1) l (.long ((x.toUInt64 >>> (z.toInt64.toUInt64 &&& Int64.toUInt64 63)).toInt64) :: st) S) = rhs) : c (mV oS X y pc l (.int z :: .long x :: st) S) = rhs := V_go hm (by rw [mStep_d hd]; rfl) k
theorem V_i2l {x : Int32} (hd : decode (mCd y) pc = .ok (.i2l, 1)) (hm : mM y pc l = l) (k : c (mV oS X y (pc + 1) l (.long x.toInt64 :: st) S) = rhs) : c (mV oS X y pc l (.int x :: st) S) = rhs := V_go hm (by rw [mStep_d hd]; rfl) k
theorem V_i2b {x : Int32} (hd : decode (mCd y) pc = .ok (.i2b, 1)) (hm : mM y pc l = l) (k : c (mV oS X y (pc + 1) l (.int x.toInt8.toInt32 :: st) S) = rhs) : c (mV oS X y pc l (.int x :: st) S) = rhs := V_go hm (by rw [mStep_d hd]; rfl) k
theorem V_i2c {x : Int32} (hd : decode (mCd y) pc = .ok (.i2c, 1)) (hm : mM y pc l = l) (k : c (mV oS X y (pc + 1) l (.int (x.toUInt32 % 65536).toInt32 :: st) S) = rhs) : c (mV oS X y pc l (.int x :: st) S) = rhs := V_go hm (by rw [mStep_d hd]; rfl) k
theorem V_ineg {x : Int32} (hd : decode (mCd y) pc = .ok (.ineg, 1)) (hm : mM y pc l = l) (k : c (mV oS X y (pc + 1) l (.int (-x) :: st) S) = rhs) : c (mV oS X y pc l (.int x :: st) S) = rhs := V_go hm (by rw [mStep_d hd]; rfl) k
theorem V_l2i {x : Int64} (hd : decode (mCd y) pc = .ok (.l2i, 1)) (hm : mM y pc l = l) (k : c (mV oS X y (pc + 1) l (.int x.toInt32 :: st) S) = rhs) : c (mV oS X y pc l (.long x :: st) S) = rhs := V_go hm (by rw [mStep_d hd]; rfl) k
theorem V_dup {v : Value} (hd : decode (mCd y) pc = .ok (.dup, 1)) (hm : mM y pc l = l) (hv : v.category = 1) (k : c (mV oS X y (pc + 1) l (v :: v :: st) S) = rhs) : c (mV oS X y pc l (v :: st) S) = rhs := V_go hm (by rw [mStep_d hd]; simp [mIns, hv, mGo]) k
theorem V_dup2 {v w : Value} (hd : decode (mCd y) pc = .ok (.dup2, 1)) (hm : mM y pc l = l) (hv : v.category = 1) (hw : w.category = 1) (k : c (mV oS X y (pc + 1) l (v :: w :: v :: w :: st) S) = rhs) : c (mV oS X y pc l (v :: w :: st) S) = rhs := V_go hm (by rw [mStep_d hd]; simp [mIns, hv, hw, mGo]) k
theorem V_pop {v : Value} (hd : decode (mCd y) pc = .ok (.pop, 1)) (hm : mM y pc l = l) (hv : v.category = 1) (k : c (mV oS X y (pc + 1) l st S) = rhs) : c (mV oS X y pc l (v :: st) S) = rhs := V_go hm (by rw [mStep_d hd]; simp [mIns, hv, mGo]) k
theorem V_goto {off : Int} {t : Nat} (hd : decode (mCd y) pc = .ok (.goto off, 3)) (hm : mM y pc l = l) (ht : mTg pc off = some t) (k : c (mV oS X y t l st S) = rhs) : c (mV oS X y pc l st S) = rhs := V_go hm (by rw [mStep_d hd]; show mJp 3 pc l st S true off = _; unfold mJp; rw [ht]; rfl) k
theorem V_if_eq {x : Int32} {off : Int} {t : Nat} (hd : decode (mCd y) pc = .ok (.ifCond .eq off, 3)) (hm : mM y pc l = l) (ht : mTg pc off = some t) (k1 : x = 0 → c (mV oS X y t l st S) = A) (k2 : ¬ x = 0 → c (mV oS X y (pc + 3) l st S) = B) : c (mV oS X y pc l (.int x :: st) S) = if x = 0 then A else B := by
  by_cases hp : x = 0
  · rw [if_pos hp]
    exact V_go hm (by rw [mStep_d hd]; show mJp 3 pc l st S (mCb .eq x 0) off = _; unfold mJp; rw [ht, show mCb .eq x 0 = true from decide_eq_true hp]; rfl) (k1 hp)
  · rw [if_neg hp]
    exact V_go hm (by rw [mStep_d hd]; show mJp 3 pc l st S (mCb .eq x 0) off = _; unfold mJp; rw [ht, show mCb .eq x 0 = false from decide_eq_false hp]; rfl) (k2 hp)
theorem V_icmp_eq {x z : Int32} {off : Int} {t : Nat} (hd : decode (mCd y) pc = .ok (.if_icmp .eq off, 3)) (hm : mM y pc l = l) (ht : mTg pc off = some t) (k1 : x = z → c (mV oS X y t l st S) = A) (k2 : ¬ x = z → c (mV oS X y (pc + 3) l st S) = B) : c (mV oS X y pc l (.int z :: .int x :: st) S) = if x = z then A else B := by
  by_cases hp : x = z
  · rw [if_pos hp]
    exact V_go hm (by rw [mStep_d hd]; show mJp 3 pc l st S (mCb .eq x z) off = _; unfold mJp; rw [ht, show mCb .eq x z = true from decide_eq_true hp]; rfl) (k1 hp)
  · rw [if_neg hp]
    exact V_go hm (by rw [mStep_d hd]; show mJp 3 pc l st S (mCb .eq x z) off = _; unfold mJp; rw [ht, show mCb .eq x z = false from decide_eq_false hp]; rfl) (k2 hp)
theorem V_if_ne {x : Int32} {off : Int} {t : Nat} (hd : decode (mCd y) pc = .ok (.ifCond .ne off, 3)) (hm : mM y pc l = l) (ht : mTg pc off = some t) (k1 : x = 0 → c (mV oS X y (pc + 3) l st S) = A) (k2 : ¬ x = 0 → c (mV oS X y t l st S) = B) : c (mV oS X y pc l (.int x :: st) S) = if x = 0 then A else B := by
  by_cases hp : x = 0
  · rw [if_pos hp]
    exact V_go hm (by rw [mStep_d hd]; show mJp 3 pc l st S (mCb .ne x 0) off = _; unfold mJp; rw [ht, show mCb .ne x 0 = false from decide_eq_false (fun h => h hp)]; rfl) (k1 hp)
  · rw [if_neg hp]
    exact V_go hm (by rw [mStep_d hd]; show mJp 3 pc l st S (mCb .ne x 0) off = _; unfold mJp; rw [ht, show mCb .ne x 0 = true from decide_eq_true hp]; rfl) (k2 hp)
theorem V_icmp_ne {x z : Int32} {off : Int} {t : Nat} (hd : decode (mCd y) pc = .ok (.if_icmp .ne off, 3)) (hm : mM y pc l = l) (ht : mTg pc off = some t) (k1 : x = z → c (mV oS X y (pc + 3) l st S) = A) (k2 : ¬ x = z → c (mV oS X y t l st S) = B) : c (mV oS X y pc l (.int z :: .int x :: st) S) = if x = z then A else B := by
  by_cases hp : x = z
  · rw [if_pos hp]
    exact V_go hm (by rw [mStep_d hd]; show mJp 3 pc l st S (mCb .ne x z) off = _; unfold mJp; rw [ht, show mCb .ne x z = false from decide_eq_false (fun h => h hp)]; rfl) (k1 hp)
  · rw [if_neg hp]
    exact V_go hm (by rw [mStep_d hd]; show mJp 3 pc l st S (mCb .ne x z) off = _; unfold mJp; rw [ht, show mCb .ne x z = true from decide_eq_true hp]; rfl) (k2 hp)
theorem V_if_lt {x : Int32} {off : Int} {t : Nat} (hd : decode (mCd y) pc = .ok (.ifCond .lt off, 3)) (hm : mM y pc l = l) (ht : mTg pc off = some t) (k1 : x < 0 → c (mV oS X y t l st S) = A) (k2 : ¬ x < 0 → c (mV oS X y (pc + 3) l st S) = B) : c (mV oS X y pc l (.int x :: st) S) = if x < 0 then A else B := by
  by_cases hp : x < 0
  · rw [if_pos hp]
    exact V_go hm (by rw [mStep_d hd]; show mJp 3 pc l st S (mCb .lt x 0) off = _; unfold mJp; rw [ht, show mCb .lt x 0 = true from decide_eq_true hp]; rfl) (k1 hp)
  · rw [if_neg hp]
    exact V_go hm (by rw [mStep_d hd]; show mJp 3 pc l st S (mCb .lt x 0) off = _; unfold mJp; rw [ht, show mCb .lt x 0 = false from decide_eq_false hp]; rfl) (k2 hp)
theorem V_icmp_lt {x z : Int32} {off : Int} {t : Nat} (hd : decode (mCd y) pc = .ok (.if_icmp .lt off, 3)) (hm : mM y pc l = l) (ht : mTg pc off = some t) (k1 : x < z → c (mV oS X y t l st S) = A) (k2 : ¬ x < z → c (mV oS X y (pc + 3) l st S) = B) : c (mV oS X y pc l (.int z :: .int x :: st) S) = if x < z then A else B := by
  by_cases hp : x < z
  · rw [if_pos hp]
    exact V_go hm (by rw [mStep_d hd]; show mJp 3 pc l st S (mCb .lt x z) off = _; unfold mJp; rw [ht, show mCb .lt x z = true from decide_eq_true hp]; rfl) (k1 hp)
  · rw [if_neg hp]
    exact V_go hm (by rw [mStep_d hd]; show mJp 3 pc l st S (mCb .lt x z) off = _; unfold mJp; rw [ht, show mCb .lt x z = false from decide_eq_false hp]; rfl) (k2 hp)
theorem V_if_ge {x : Int32} {off : Int} {t : Nat} (hd : decode (mCd y) pc = .ok (.ifCond .ge off, 3)) (hm : mM y pc l = l) (ht : mTg pc off = some t) (k1 : 0 ≤ x → c (mV oS X y t l st S) = A) (k2 : ¬ 0 ≤ x → c (mV oS X y (pc + 3) l st S) = B) : c (mV oS X y pc l (.int x :: st) S) = if 0 ≤ x then A else B := by
  by_cases hp : 0 ≤ x
  · rw [if_pos hp]
    exact V_go hm (by rw [mStep_d hd]; show mJp 3 pc l st S (mCb .ge x 0) off = _; unfold mJp; rw [ht, show mCb .ge x 0 = true from decide_eq_true hp]; rfl) (k1 hp)
  · rw [if_neg hp]
    exact V_go hm (by rw [mStep_d hd]; show mJp 3 pc l st S (mCb .ge x 0) off = _; unfold mJp; rw [ht, show mCb .ge x 0 = false from decide_eq_false hp]; rfl) (k2 hp)
theorem V_icmp_ge {x z : Int32} {off : Int} {t : Nat} (hd : decode (mCd y) pc = .ok (.if_icmp .ge off, 3)) (hm : mM y pc l = l) (ht : mTg pc off = some t) (k1 : z ≤ x → c (mV oS X y t l st S) = A) (k2 : ¬ z ≤ x → c (mV oS X y (pc + 3) l st S) = B) : c (mV oS X y pc l (.int z :: .int x :: st) S) = if z ≤ x then A else B := by
  by_cases hp : z ≤ x
  · rw [if_pos hp]
    exact V_go hm (by rw [mStep_d hd]; show mJp 3 pc l st S (mCb .ge x z) off = _; unfold mJp; rw [ht, show mCb .ge x z = true from decide_eq_true hp]; rfl) (k1 hp)
  · rw [if_neg hp]
    exact V_go hm (by rw [mStep_d hd]; show mJp 3 pc l st S (mCb .ge x z) off = _; unfold mJp; rw [ht, show mCb .ge x z = false from decide_eq_false hp]; rfl) (k2 hp)
theorem V_if_gt {x : Int32} {off : Int} {t : Nat} (hd : decode (mCd y) pc = .ok (.ifCond .gt off, 3)) (hm : mM y pc l = l) (ht : mTg pc off = some t) (k1 : 0 < x → c (mV oS X y t l st S) = A) (k2 : ¬ 0 < x → c (mV oS X y (pc + 3) l st S) = B) : c (mV oS X y pc l (.int x :: st) S) = if 0 < x then A else B := by
  by_cases hp : 0 < x
  · rw [if_pos hp]
    exact V_go hm (by rw [mStep_d hd]; show mJp 3 pc l st S (mCb .gt x 0) off = _; unfold mJp; rw [ht, show mCb .gt x 0 = true from decide_eq_true hp]; rfl) (k1 hp)
  · rw [if_neg hp]
    exact V_go hm (by rw [mStep_d hd]; show mJp 3 pc l st S (mCb .gt x 0) off = _; unfold mJp; rw [ht, show mCb .gt x 0 = false from decide_eq_false hp]; rfl) (k2 hp)
theorem V_icmp_gt {x z : Int32} {off : Int} {t : Nat} (hd : decode (mCd y) pc = .ok (.if_icmp .gt off, 3)) (hm : mM y pc l = l) (ht : mTg pc off = some t) (k1 : z < x → c (mV oS X y t l st S) = A) (k2 : ¬ z < x → c (mV oS X y (pc + 3) l st S) = B) : c (mV oS X y pc l (.int z :: .int x :: st) S) = if z < x then A else B := by
  by_cases hp : z < x
  · rw [if_pos hp]
    exact V_go hm (by rw [mStep_d hd]; show mJp 3 pc l st S (mCb .gt x z) off = _; unfold mJp; rw [ht, show mCb .gt x z = true from decide_eq_true hp]; rfl) (k1 hp)
  · rw [if_neg hp]
    exact V_go hm (by rw [mStep_d hd]; show mJp 3 pc l st S (mCb .gt x z) off = _; unfold mJp; rw [ht, show mCb .gt x z = false from decide_eq_false hp]; rfl) (k2 hp)
theorem V_if_le {x : Int32} {off : Int} {t : Nat} (hd : decode (mCd y) pc = .ok (.ifCond .le off, 3)) (hm : mM y pc l = l) (ht : mTg pc off = some t) (k1 : x ≤ 0 → c (mV oS X y t l st S) = A) (k2 : ¬ x ≤ 0 → c (mV oS X y (pc + 3) l st S) = B) : c (mV oS X y pc l (.int x :: st) S) = if x ≤ 0 then A else B := by
  by_cases hp : x ≤ 0
  · rw [if_pos hp]
    exact V_go hm (by rw [mStep_d hd]; show mJp 3 pc l st S (mCb .le x 0) off = _; unfold mJp; rw [ht, show mCb .le x 0 = true from decide_eq_true hp]; rfl) (k1 hp)
  · rw [if_neg hp]
    exact V_go hm (by rw [mStep_d hd]; show mJp 3 pc l st S (mCb .le x 0) off = _; unfold mJp; rw [ht, show mCb .le x 0 = false from decide_eq_false hp]; rfl) (k2 hp)
theorem V_icmp_le {x z : Int32} {off : Int} {t : Nat} (hd : decode (mCd y) pc = .ok (.if_icmp .le off, 3)) (hm : mM y pc l = l) (ht : mTg pc off = some t) (k1 : x ≤ z → c (mV oS X y t l st S) = A) (k2 : ¬ x ≤ z → c (mV oS X y (pc + 3) l st S) = B) : c (mV oS X y pc l (.int z :: .int x :: st) S) = if x ≤ z then A else B := by
  by_cases hp : x ≤ z
  · rw [if_pos hp]
    exact V_go hm (by rw [mStep_d hd]; show mJp 3 pc l st S (mCb .le x z) off = _; unfold mJp; rw [ht, show mCb .le x z = true from decide_eq_true hp]; rfl) (k1 hp)
  · rw [if_neg hp]
    exact V_go hm (by rw [mStep_d hd]; show mJp 3 pc l st S (mCb .le x z) off = _; unfold mJp; rw [ht, show mCb .le x z = false from decide_eq_false hp]; rfl) (k2 hp)
theorem V_ifnullN {off : Int} {t : Nat} (hd : decode (mCd y) pc = .ok (.ifnull off, 3)) (hm : mM y pc l = l) (ht : mTg pc off = some t) (k : c (mV oS X y t l st S) = rhs) : c (mV oS X y pc l (.null :: st) S) = rhs := V_go hm (by rw [mStep_d hd]; show mJp 3 pc l st S true off = _; unfold mJp; rw [ht]; rfl) k
theorem V_ifnullR {a : Nat} {off : Int} {t : Nat} (hd : decode (mCd y) pc = .ok (.ifnull off, 3)) (hm : mM y pc l = l) (ht : mTg pc off = some t) (k : c (mV oS X y (pc + 3) l st S) = rhs) : c (mV oS X y pc l (.ref a :: st) S) = rhs := V_go hm (by rw [mStep_d hd]; show mJp 3 pc l st S (!true) off = _; unfold mJp; rw [ht]; rfl) k
theorem V_ifnonnullN {off : Int} {t : Nat} (hd : decode (mCd y) pc = .ok (.ifnonnull off, 3)) (hm : mM y pc l = l) (ht : mTg pc off = some t) (k : c (mV oS X y (pc + 3) l st S) = rhs) : c (mV oS X y pc l (.null :: st) S) = rhs := V_go hm (by rw [mStep_d hd]; show mJp 3 pc l st S false off = _; unfold mJp; rw [ht]; rfl) k
theorem V_ifnonnullR {a : Nat} {off : Int} {t : Nat} (hd : decode (mCd y) pc = .ok (.ifnonnull off, 3)) (hm : mM y pc l = l) (ht : mTg pc off = some t) (k : c (mV oS X y t l st S) = rhs) : c (mV oS X y pc l (.ref a :: st) S) = rhs := V_go hm (by rw [mStep_d hd]; show mJp 3 pc l st S (!false) off = _; unfold mJp; rw [ht]; rfl) k
theorem V_sw {d lo hi : Int} {os : Array Int} {len t : Nat} {x : Int32} {o : Int} (hd : decode (mCd y) pc = .ok (.tableswitch d lo hi os, len)) (hm : mM y pc l = l) (hx : mSo d lo hi os x = some o) (ht : mTg pc o = some t) (k : c (mV oS X y t l st S) = rhs) : c (mV oS X y pc l (.int x :: st) S) = rhs := V_go hm (by rw [mStep_d hd]; show mSw pc l (.int x :: st) S d lo hi os = _; unfold mSw; dsimp only; rw [hx]; dsimp only; rw [ht]) k
theorem V_ite {p : Prop} [Decidable p] {L : Option γ} (k1 : p → L = A) (k2 : ¬ p → L = B) : L = if p then A else B := by
  by_cases h : p
  · rw [if_pos h]; exact k1 h
  · rw [if_neg h]; exact k2 h
theorem sw_o {x : Int32} {n : Nat} {d : Int} {os : Array Int} (hn : n < 1000) (h : ∀ k, k < n → x ≠ nI k) : mSo d 0 ((n : Int) - 1) os x = some d := by
  unfold mSo
  rw [if_pos]
  by_cases h1 : x.toInt < 0
  · exact Or.inl h1
  · refine Or.inr ?_
    have hx : ¬ x < 0 := by
      rw [Int32.lt_iff_toInt_lt]
      simpa using h1
    obtain ⟨j, hj, rfl⟩ := nI_of hx
    have : ¬ j < n := fun q => h j q rfl
    rw [nI_toInt hj]
    omega
theorem V_iaload {n a : Nat} {i : Int32} (hd : decode (mCd y) pc = .ok (.iaload, 1)) (hm : mM y pc l = l) (ha : SH[a]? = some (.inr (0, n, none))) (h0 : c none = none) (k : inb i n = true → c (mV oS X y (pc + 1) l (.int (S.1 a i.toNatClampNeg) :: st) S) = rhs) : c (mV oS X y pc l (.int i :: .ref a :: st) S) = if inb i n = true then rhs else none := by
  have e : mStep oS X y pc l (.int i :: .ref a :: st) S = if inb i n = true then some (.inl (pc + 1, l, .int (S.1 a i.toNatClampNeg) :: st, S)) else none := by
    rw [mStep_d hd]
    show mAl oS X 0 1 pc l (.int i :: .ref a :: st) S = _
    unfold mAl
    dsimp only
    rw [if_neg (SH_ns ha), show oS.ld S a 0 i = sLd S a 0 i from rfl]
    unfold sLd
    rw [ha]
    dsimp only
    by_cases hi : inb i n = true
    · rw [if_pos ⟨hi, rfl⟩, if_pos hi]; rfl
    · rw [if_neg (fun z => hi z.1), if_neg hi]
  by_cases hi : inb i n = true
  · rw [if_pos hi] at e ⊢; exact V_go hm e (k hi)
  · rw [if_neg hi] at e ⊢; exact V_no hm e h0
theorem V_ialoadL {n a j : Nat} {i : Int32} (hd : decode (mCd y) pc = .ok (.iaload, 1)) (hm : mM y pc l = l) (ha : SH[a]? = some (.inr (0, n, none))) (h0 : c none = none) (hi : inb i n = true) (hj : i.toNatClampNeg = j) (k : c (mV oS X y (pc + 1) l (.int (S.1 a j) :: st) S) = rhs) : c (mV oS X y pc l (.int i :: .ref a :: st) S) = rhs := by
  exact (V_iaload (rhs := rhs) hd hm ha h0 (fun _ => by rw [hj]; exact k)).trans (if_pos hi)
theorem V_caload {n a : Nat} {i : Int32} (hd : decode (mCd y) pc = .ok (.caload, 1)) (hm : mM y pc l = l) (ha : SH[a]? = some (.inr (2, n, none))) (h0 : c none = none) (k : inb i n = true → c (mV oS X y (pc + 1) l (.int (S.1 a i.toNatClampNeg) :: st) S) = rhs) : c (mV oS X y pc l (.int i :: .ref a :: st) S) = if inb i n = true then rhs else none := by
  have e : mStep oS X y pc l (.int i :: .ref a :: st) S = if inb i n = true then some (.inl (pc + 1, l, .int (S.1 a i.toNatClampNeg) :: st, S)) else none := by
    rw [mStep_d hd]
    show mAl oS X 2 1 pc l (.int i :: .ref a :: st) S = _
    unfold mAl
    dsimp only
    rw [if_neg (SH_ns ha), show oS.ld S a 2 i = sLd S a 2 i from rfl]
    unfold sLd
    rw [ha]
    dsimp only
    by_cases hi : inb i n = true
    · rw [if_pos ⟨hi, rfl⟩, if_pos hi]; rfl
    · rw [if_neg (fun z => hi z.1), if_neg hi]
  by_cases hi : inb i n = true
  · rw [if_pos hi] at e ⊢; exact V_go hm e (k hi)
  · rw [if_neg hi] at e ⊢; exact V_no hm e h0
theorem V_caloadL {n a j : Nat} {i : Int32} (hd : decode (mCd y) pc = .ok (.caload, 1)) (hm : mM y pc l = l) (ha : SH[a]? = some (.inr (2, n, none))) (h0 : c none = none) (hi : inb i n = true) (hj : i.toNatClampNeg = j) (k : c (mV oS X y (pc + 1) l (.int (S.1 a j) :: st) S) = rhs) : c (mV oS X y pc l (.int i :: .ref a :: st) S) = rhs := by
  exact (V_caload (rhs := rhs) hd hm ha h0 (fun _ => by rw [hj]; exact k)).trans (if_pos hi)
theorem V_baload {n a t : Nat} {i : Int32} (hd : decode (mCd y) pc = .ok (.baload, 1)) (hm : mM y pc l = l) (ha : SH[a]? = some (.inr (t, n, none))) (ht : hKi 1 t = true) (h0 : c none = none) (k : inb i n = true → c (mV oS X y (pc + 1) l (.int (S.1 a i.toNatClampNeg) :: st) S) = rhs) : c (mV oS X y pc l (.int i :: .ref a :: st) S) = if inb i n = true then rhs else none := by
  have e : mStep oS X y pc l (.int i :: .ref a :: st) S = if inb i n = true then some (.inl (pc + 1, l, .int (S.1 a i.toNatClampNeg) :: st, S)) else none := by
    rw [mStep_d hd]
    show mAl oS X 1 1 pc l (.int i :: .ref a :: st) S = _
    unfold mAl
    dsimp only
    rw [if_neg (SH_ns ha), show oS.ld S a 1 i = sLd S a 1 i from rfl]
    unfold sLd
    rw [ha]
    dsimp only
    by_cases hi : inb i n = true
    · rw [if_pos ⟨hi, ht⟩, if_pos hi]; rfl
    · rw [if_neg (fun z => hi z.1), if_neg hi]
  by_cases hi : inb i n = true
  · rw [if_pos hi] at e ⊢; exact V_go hm e (k hi)
  · rw [if_neg hi] at e ⊢; exact V_no hm e h0
theorem V_aaload {n a w : Nat} {i : Int32} {rs : List (Option Nat)} (hd : decode (mCd y) pc = .ok (.aaload, 1)) (hm : mM y pc l = l) (ha : SH[a]? = some (.inr (4, n, some rs))) (hw : inb i n = true → (rs[i.toNatClampNeg]?).join = some w) (h0 : c none = none) (k : inb i n = true → c (mV oS X y (pc + 1) l (.ref w :: st) S) = rhs) : c (mV oS X y pc l (.int i :: .ref a :: st) S) = if inb i n = true then rhs else none := by
  have e : mStep oS X y pc l (.int i :: .ref a :: st) S = if inb i n = true then some (.inl (pc + 1, l, .ref w :: st, S)) else none := by
    rw [mStep_d hd]
    show mAl oS X 3 1 pc l (.int i :: .ref a :: st) S = _
    unfold mAl
    dsimp only
    rw [if_neg (SH_ns ha), show oS.ld S a 3 i = sLd S a 3 i from rfl]
    unfold sLd
    rw [ha]
    dsimp only
    by_cases hi : inb i n = true
    · rw [if_pos ⟨hi, rfl, rfl⟩, if_pos hi, hw hi]; rfl
    · rw [if_neg (fun z => hi z.1), if_neg hi]
  by_cases hi : inb i n = true
  · rw [if_pos hi] at e ⊢; exact V_go hm e (k hi)
  · rw [if_neg hi] at e ⊢; exact V_no hm e h0
theorem V_sload {i : Int32} (hd : decode (mCd y) pc = .ok (.iaload, 1)) (hm : mM y pc l = l) (h0 : c none = none) (k : inb i (X.1 - 1) = true → c (mV oS X y (pc + 1) l (.int (X.2 i.toNatClampNeg) :: st) S) = rhs) : c (mV oS X y pc l (.int i :: .ref mSid :: st) S) = if inb i (X.1 - 1) = true then rhs else none := by
  have e : mStep oS X y pc l (.int i :: .ref mSid :: st) S = if inb i (X.1 - 1) = true then some (.inl (pc + 1, l, .int (X.2 i.toNatClampNeg) :: st, S)) else none := by
    rw [mStep_d hd]
    show mAl oS X 0 1 pc l (.int i :: .ref mSid :: st) S = _
    unfold mAl
    dsimp only
    rw [if_pos rfl]
    by_cases hi : inb i (X.1 - 1) = true
    · rw [if_pos ⟨rfl, hi⟩, if_pos hi]; rfl
    · rw [if_neg (fun z => hi z.2), if_neg hi]
  by_cases hi : inb i (X.1 - 1) = true
  · rw [if_pos hi] at e ⊢; exact V_go hm e (k hi)
  · rw [if_neg hi] at e ⊢; exact V_no hm e h0
theorem V_slen {v : Int32} (hd : decode (mCd y) pc = .ok (.arraylength, 1)) (hm : mM y pc l = l) (hX : ¬ X.1 = 0) (hv : Int32.ofNat (X.1 - 1) = v) (k : c (mV oS X y (pc + 1) l (.int v :: st) S) = rhs) : c (mV oS X y pc l (.ref mSid :: st) S) = rhs := V_go hm (by rw [mStep_d hd, ← hv]; show mAn oS X 1 pc l (.ref mSid :: st) S = _; unfold mAn; dsimp only; rw [if_pos rfl, if_neg hX]; rfl) k
theorem V_alen {t n a : Nat} {rs : Option (List (Option Nat))} {v : Int32} (hd : decode (mCd y) pc = .ok (.arraylength, 1)) (hm : mM y pc l = l) (ha : SH[a]? = some (.inr (t, n, rs))) (h5 : t < 5) (hv : Int32.ofNat n = v) (k : c (mV oS X y (pc + 1) l (.int v :: st) S) = rhs) : c (mV oS X y pc l (.ref a :: st) S) = rhs := V_go hm (by
  rw [mStep_d hd, ← hv]
  show mAn oS X 1 pc l (.ref a :: st) S = _
  unfold mAn
  dsimp only
  rw [if_neg (SH_ns ha), show oS.ln S a = sLn S a from rfl]
  unfold sLn
  rw [ha]
  dsimp only
  rw [if_pos h5]
  rfl) k
theorem V_iastore {n a t : Nat} {i x x1 : Int32} (hd : decode (mCd y) pc = .ok (.iastore, 1)) (hm : mM y pc l = l) (ha : SH[a]? = some (.inr (t, n, none))) (ht : hKi 0 t = true) (hx : hNar t x = x1) (h0 : c none = none) (k : inb i n = true → c (mV oS X y (pc + 1) l st (u1 S a i.toNatClampNeg x1)) = rhs) : c (mV oS X y pc l (.int x :: .int i :: .ref a :: st) S) = if inb i n = true then rhs else none := by
  have e : mStep oS X y pc l (.int x :: .int i :: .ref a :: st) S = if inb i n = true then some (.inl (pc + 1, l, st, u1 S a i.toNatClampNeg x1)) else none := by
    rw [mStep_d hd, ← hx]
    show mAs oS 0 1 pc l (.int x :: .int i :: .ref a :: st) S = _
    unfold mAs
    dsimp only
    rw [show oS.st S a 0 i (.int x) = sSt S a 0 i (.int x) from rfl]
    unfold sSt
    rw [ha]
    dsimp only
    by_cases hi : inb i n = true
    · rw [if_pos ⟨hi, ht⟩, if_pos hi]; rfl
    · rw [if_neg (fun z => hi z.1), if_neg hi]
  by_cases hi : inb i n = true
  · rw [if_pos hi] at e ⊢; exact V_go hm e (k hi)
  · rw [if_neg hi] at e ⊢; exact V_no hm e h0
theorem V_iastoreL {n a t j : Nat} {i x x1 : Int32} (hd : decode (mCd y) pc = .ok (.iastore, 1)) (hm : mM y pc l = l) (ha : SH[a]? = some (.inr (t, n, none))) (ht : hKi 0 t = true) (hx : hNar t x = x1) (h0 : c none = none) (hi : inb i n = true) (hj : i.toNatClampNeg = j) (k : c (mV oS X y (pc + 1) l st (u1 S a j x1)) = rhs) : c (mV oS X y pc l (.int x :: .int i :: .ref a :: st) S) = rhs := by
  exact (V_iastore (rhs := rhs) hd hm ha ht hx h0 (fun _ => by rw [hj]; exact k)).trans (if_pos hi)
theorem V_bastore {n a t : Nat} {i x x1 : Int32} (hd : decode (mCd y) pc = .ok (.bastore, 1)) (hm : mM y pc l = l) (ha : SH[a]? = some (.inr (t, n, none))) (ht : hKi 1 t = true) (hx : hNar t x = x1) (h0 : c none = none) (k : inb i n = true → c (mV oS X y (pc + 1) l st (u1 S a i.toNatClampNeg x1)) = rhs) : c (mV oS X y pc l (.int x :: .int i :: .ref a :: st) S) = if inb i n = true then rhs else none := by
  have e : mStep oS X y pc l (.int x :: .int i :: .ref a :: st) S = if inb i n = true then some (.inl (pc + 1, l, st, u1 S a i.toNatClampNeg x1)) else none := by
    rw [mStep_d hd, ← hx]
    show mAs oS 1 1 pc l (.int x :: .int i :: .ref a :: st) S = _
    unfold mAs
    dsimp only
    rw [show oS.st S a 1 i (.int x) = sSt S a 1 i (.int x) from rfl]
    unfold sSt
    rw [ha]
    dsimp only
    by_cases hi : inb i n = true
    · rw [if_pos ⟨hi, ht⟩, if_pos hi]; rfl
    · rw [if_neg (fun z => hi z.1), if_neg hi]
  by_cases hi : inb i n = true
  · rw [if_pos hi] at e ⊢; exact V_go hm e (k hi)
  · rw [if_neg hi] at e ⊢; exact V_no hm e h0
theorem V_bastoreL {n a t j : Nat} {i x x1 : Int32} (hd : decode (mCd y) pc = .ok (.bastore, 1)) (hm : mM y pc l = l) (ha : SH[a]? = some (.inr (t, n, none))) (ht : hKi 1 t = true) (hx : hNar t x = x1) (h0 : c none = none) (hi : inb i n = true) (hj : i.toNatClampNeg = j) (k : c (mV oS X y (pc + 1) l st (u1 S a j x1)) = rhs) : c (mV oS X y pc l (.int x :: .int i :: .ref a :: st) S) = rhs := by
  exact (V_bastore (rhs := rhs) hd hm ha ht hx h0 (fun _ => by rw [hj]; exact k)).trans (if_pos hi)
theorem V_castore {n a t : Nat} {i x x1 : Int32} (hd : decode (mCd y) pc = .ok (.castore, 1)) (hm : mM y pc l = l) (ha : SH[a]? = some (.inr (t, n, none))) (ht : hKi 2 t = true) (hx : hNar t x = x1) (h0 : c none = none) (k : inb i n = true → c (mV oS X y (pc + 1) l st (u1 S a i.toNatClampNeg x1)) = rhs) : c (mV oS X y pc l (.int x :: .int i :: .ref a :: st) S) = if inb i n = true then rhs else none := by
  have e : mStep oS X y pc l (.int x :: .int i :: .ref a :: st) S = if inb i n = true then some (.inl (pc + 1, l, st, u1 S a i.toNatClampNeg x1)) else none := by
    rw [mStep_d hd, ← hx]
    show mAs oS 2 1 pc l (.int x :: .int i :: .ref a :: st) S = _
    unfold mAs
    dsimp only
    rw [show oS.st S a 2 i (.int x) = sSt S a 2 i (.int x) from rfl]
    unfold sSt
    rw [ha]
    dsimp only
    by_cases hi : inb i n = true
    · rw [if_pos ⟨hi, ht⟩, if_pos hi]; rfl
    · rw [if_neg (fun z => hi z.1), if_neg hi]
  by_cases hi : inb i n = true
  · rw [if_pos hi] at e ⊢; exact V_go hm e (k hi)
  · rw [if_neg hi] at e ⊢; exact V_no hm e h0
theorem V_castoreL {n a t j : Nat} {i x x1 : Int32} (hd : decode (mCd y) pc = .ok (.castore, 1)) (hm : mM y pc l = l) (ha : SH[a]? = some (.inr (t, n, none))) (ht : hKi 2 t = true) (hx : hNar t x = x1) (h0 : c none = none) (hi : inb i n = true) (hj : i.toNatClampNeg = j) (k : c (mV oS X y (pc + 1) l st (u1 S a j x1)) = rhs) : c (mV oS X y pc l (.int x :: .int i :: .ref a :: st) S) = rhs := by
  exact (V_castore (rhs := rhs) hd hm ha ht hx h0 (fun _ => by rw [hj]; exact k)).trans (if_pos hi)
theorem V_gf {idx a ci j : Nat} {v : Value} (hd : decode (mCd y) pc = .ok (.getfield idx, 3)) (hm : mM y pc l = l) (hf : fOk y idx ci j = true) (hv : sGf S a ci j = some v) (k : c (mV oS X y (pc + 3) l (v :: st) S) = rhs) : c (mV oS X y pc l (.ref a :: st) S) = rhs := V_go hm (by
  rw [mStep_d hd]
  show mGf oS y 3 pc l (.ref a :: st) S idx = _
  unfold mGf
  dsimp only
  rw [of_decide_eq_true hf]
  dsimp only
  rw [show oS.gf S a ci j = some v from hv]
  rfl) k
theorem V_pf {idx a ci j : Nat} {v : Value} {S1 : Mem} (hd : decode (mCd y) pc = .ok (.putfield idx, 3)) (hm : mM y pc l = l) (hf : pOk y idx ci j = true) (hv : sPf S a ci j v = some S1) (k : c (mV oS X y (pc + 3) l st S1) = rhs) : c (mV oS X y pc l (v :: .ref a :: st) S) = rhs := V_go hm (by
  simp only [pOk, Bool.and_eq_true, decide_eq_true_eq, Bool.not_eq_true'] at hf
  rw [mStep_d hd]
  show mPf oS y 3 pc l (v :: .ref a :: st) S idx = _
  unfold mPf
  dsimp only
  rw [hf.1]
  dsimp only
  rw [if_neg (by rw [hf.2]; decide), show oS.pf S a ci j v = some S1 from hv]
  rfl) k
theorem sPf_Z {a ci j : Nat} {x : Int32} {fk : List sK} (ha : SH[a]? = some (.inl (ci, fk))) (hj : fk[j]? = some (.inr false)) (hk : mFk ci j = 1) : sPf S a ci j (.int x) = if zb x = true then some (u1 S a j x) else none := by
  unfold sPf
  rw [ha]
  dsimp only
  have e : hOk ci j (.int x) = zb x := by unfold hOk; rw [hk]; rfl
  rw [e]
  by_cases hz : zb x = true
  · rw [if_pos ⟨rfl, hz⟩, if_pos hz, hj]
  · rw [if_neg (fun q => hz q.2), if_neg hz]
theorem V_pfZ {idx a ci j : Nat} {x : Int32} {fk : List sK} (hd : decode (mCd y) pc = .ok (.putfield idx, 3)) (hm : mM y pc l = l) (hf : pOk y idx ci j = true) (ha : SH[a]? = some (.inl (ci, fk))) (hj : fk[j]? = some (.inr false)) (hk : mFk ci j = 1) (h0 : c none = none) (k : zb x = true → c (mV oS X y (pc + 3) l st (u1 S a j x)) = rhs) : c (mV oS X y pc l (.int x :: .ref a :: st) S) = if zb x = true then rhs else none := by
  by_cases hz : zb x = true
  · rw [if_pos hz]
    exact V_pf hd hm hf (by rw [sPf_Z ha hj hk, if_pos hz]) (k hz)
  · rw [if_neg hz]
    refine V_no hm ?_ h0
    simp only [pOk, Bool.and_eq_true, decide_eq_true_eq, Bool.not_eq_true'] at hf
    rw [mStep_d hd]
    show mPf oS y 3 pc l (.int x :: .ref a :: st) S idx = _
    unfold mPf
    dsimp only
    rw [hf.1]
    dsimp only
    rw [if_neg (by rw [hf.2]; decide), show oS.pf S a ci j (.int x) = none from by
      show sPf S a ci j (.int x) = none
      rw [sPf_Z ha hj hk, if_neg hz]]
theorem V_min {idx : Nat} {x z : Int32} {k9 : Nat} (hd : decode (mCd y) pc = .ok (.invokestatic idx, 3)) (hm : mM y pc l = l) (h1 : lk (mMt (mOwn y)) idx = none) (h2 : lk (mXq (mOwn y)) idx = some (k9, false)) (h3 : mRx y = true) (h4 : mSm st = true) (k : c (mV oS X y (pc + 3) l (.int (if z < x then z else x) :: st) S) = rhs) : c (mV oS X y pc l (.int z :: .int x :: st) S) = rhs := V_go hm (by
  rw [mStep_d hd]
  show mCi oS y 3 pc l (.int z :: .int x :: st) S idx = _
  unfold mCi
  rw [h1]
  dsimp only
  rw [h2]
  dsimp only
  rw [if_pos h3, if_pos h4]
  rfl) k
theorem V_max {idx : Nat} {x z : Int32} {k9 : Nat} (hd : decode (mCd y) pc = .ok (.invokestatic idx, 3)) (hm : mM y pc l = l) (h1 : lk (mMt (mOwn y)) idx = none) (h2 : lk (mXq (mOwn y)) idx = some (k9, true)) (h3 : mRx y = true) (h4 : mSm st = true) (k : c (mV oS X y (pc + 3) l (.int (if x < z then z else x) :: st) S) = rhs) : c (mV oS X y pc l (.int z :: .int x :: st) S) = rhs := V_go hm (by
  rw [mStep_d hd]
  show mCi oS y 3 pc l (.int z :: .int x :: st) S idx = _
  unfold mCi
  rw [h1]
  dsimp only
  rw [h2]
  dsimp only
  rw [if_pos h3, if_pos h4]
  rfl) k
theorem V_copy {idx a0 a : Nat} {sp dp n : Int32} {S1 : Mem} (hd : decode (mCd y) pc = .ok (.invokestatic idx, 3)) (hm : mM y pc l = l) (h1 : lk (mMt (mOwn y)) idx = none) (h2 : lk (mXq (mOwn y)) idx = none) (h3 : (mNt (mOwn y) idx && mRn y) = true) (h4 : mSm st = true) (hv : sCp S a0 sp a dp n = some S1) (k : c (mV oS X y (pc + 3) l st S1) = rhs) : c (mV oS X y pc l (.int n :: .int dp :: .ref a :: .int sp :: .ref a0 :: st) S) = rhs := V_go hm (by
  rw [mStep_d hd]
  show mCi oS y 3 pc l (.int n :: .int dp :: .ref a :: .int sp :: .ref a0 :: st) S idx = _
  unfold mCi
  rw [h1]
  dsimp only
  rw [h2]
  dsimp only
  rw [if_pos h3, if_pos h4, show oS.cp S a0 sp a dp n = some S1 from hv]
  rfl) k
theorem take_rev {α : Type} (As : List α) (r : List α) {n : Nat} (hn : As.length = n) : (As.reverse ++ r).take n = As.reverse ∧ (As.reverse ++ r).drop n = r := by
  subst hn
  constructor
  · rw [List.take_append_of_le_length (by simp)]
    rw [List.take_of_length_le (by simp)]
  · rw [List.drop_append_of_le_length (by simp)]
    rw [List.drop_of_length_le (by simp)]
    rfl
theorem V_cv {idx y1 a rk np : Nat} {As rest : List Value} {en : mL} {E : Option Value × Mem → Option γ} (hd : decode (mCd y) pc = .ok (.invokevirtual idx, 3)) (hm : mM y pc l = l) (hk : cvOk y idx y1 np rk = true) (hn : As.length = np) (hcl : sCl S a = some (mOwn y1)) (hsm : mSm rest = true) (hen : mEnt (.ref a :: As) (mMx y1) = en) (hel : (mEn (.ref a :: As)).length ≤ mMx y1) (h0 : c none = none) (k : ∀ q : Option Value × Mem, mV oS X y1 0 en [] S = some q → c (mV oS X y (pc + 3) l (q.1.toList ++ rest) q.2) = E q) : c (mV oS X y pc l (As.reverse ++ .ref a :: rest) S) = (mV oS X y1 0 en [] S).bind E := by
  simp only [cvOk, Bool.and_eq_true, decide_eq_true_eq, Bool.not_eq_true'] at hk
  obtain ⟨⟨⟨⟨⟨k1, k2⟩, k3⟩, k4⟩, k5⟩, k6⟩ := hk
  have e : mStep oS X y pc l (As.reverse ++ .ref a :: rest) S = some (.inr (.inr (y1, .ref a :: As, pc + 3, l, rest, S))) := by
    rw [mStep_d hd]
    show mCv oS false y 3 pc l (As.reverse ++ .ref a :: rest) S idx = _
    unfold mCv
    rw [k1]
    dsimp only
    obtain ⟨t1, t2⟩ := take_rev As (.ref a :: rest) (hn.trans k2.symm)
    rw [t1, t2, List.reverse_reverse]
    dsimp only
    rw [if_pos]
    refine ⟨rfl, by simp; omega, hsm, by rw [k3, k4]; rfl, ?_, hel, k5⟩
    rw [show oS.cl S a = some (mOwn y1) from hcl]
    simp
  rw [mV_unf, hm, e]
  dsimp only
  rw [hen]
  cases hv : mV oS X y1 0 en [] S with
  | none => exact h0
  | some q => exact k q hv
theorem V_ci {idx y1 rk np : Nat} {As rest : List Value} {en : mL} {E : Option Value × Mem → Option γ} (hd : decode (mCd y) pc = .ok (.invokestatic idx, 3)) (hm : mM y pc l = l) (hk : ciOk y idx y1 np rk = true) (hn : As.length = np) (hsm : mSm rest = true) (hen : mEnt As (mMx y1) = en) (hel : (mEn As).length ≤ mMx y1) (h0 : c none = none) (k : ∀ q : Option Value × Mem, mV oS X y1 0 en [] S = some q → c (mV oS X y (pc + 3) l (q.1.toList ++ rest) q.2) = E q) : c (mV oS X y pc l (As.reverse ++ rest) S) = (mV oS X y1 0 en [] S).bind E := by
  simp only [ciOk, Bool.and_eq_true, decide_eq_true_eq] at hk
  obtain ⟨⟨⟨⟨k1, k2⟩, k4⟩, k5⟩, k6⟩ := hk
  have e : mStep oS X y pc l (As.reverse ++ rest) S = some (.inr (.inr (y1, As, pc + 3, l, rest, S))) := by
    rw [mStep_d hd]
    show mCi oS y 3 pc l (As.reverse ++ rest) S idx = _
    unfold mCi
    rw [k1]
    dsimp only
    obtain ⟨t1, t2⟩ := take_rev As rest (hn.trans k2.symm)
    rw [t1, t2, List.reverse_reverse]
    rw [if_pos]
    exact ⟨rfl, by simp; omega, hsm, k4, hel, k5⟩
  rw [mV_unf, hm, e]
  dsimp only
  rw [hen]
  cases hv : mV oS X y1 0 en [] S with
  | none => exact h0
  | some q => exact k q hv
theorem ty_I {y1 : Nat} {v : Option Value} (h : tyOK (mRt y1) v) (hk : mRk (mRt y1) = 0) : ∃ x, v = some (.int x) := by
  rcases h with ⟨x, e, -⟩ | ⟨x, -, e⟩ | ⟨x, -, -, e⟩ | ⟨-, e⟩
  · exact ⟨x, e⟩
  · rw [e] at hk; cases hk
  · exfalso
    unfold mRa at e
    split at e
    · next q => rw [q] at hk; cases hk
    · next q => rw [q] at hk; cases hk
    · cases e
  · rw [e] at hk; cases hk
theorem ty_J {y1 : Nat} {v : Option Value} (h : tyOK (mRt y1) v) (hk : mRk (mRt y1) = 1) : ∃ x, v = some (.long x) := by
  rcases h with ⟨x, -, e⟩ | ⟨x, e, -⟩ | ⟨x, -, -, e⟩ | ⟨-, e⟩
  · exfalso
    unfold mRo at e
    split at e
    · next q => rw [q] at hk; cases hk
    · next q => rw [q] at hk; cases hk
    · next q => rw [q] at hk; cases hk
    · cases e
  · exact ⟨x, e⟩
  · exfalso
    unfold mRa at e
    split at e
    · next q => rw [q] at hk; cases hk
    · next q => rw [q] at hk; cases hk
    · cases e
  · rw [e] at hk; cases hk
theorem ty_A {y1 : Nat} {v : Option Value} (h : tyOK (mRt y1) v) (hk : mRk (mRt y1) = 2) : ∃ o, v = some (va_rf o) := by
  rcases h with ⟨x, -, e⟩ | ⟨x, -, e⟩ | ⟨x, e, e2, -⟩ | ⟨-, e⟩
  · exfalso
    unfold mRo at e
    split at e
    · next q => rw [q] at hk; cases hk
    · next q => rw [q] at hk; cases hk
    · next q => rw [q] at hk; cases hk
    · cases e
  · rw [e] at hk; cases hk
  · rcases e2 with rfl | ⟨a, rfl⟩
    · exact ⟨none, e⟩
    · exact ⟨some a, e⟩
  · rw [e] at hk; cases hk
theorem ty_U {y1 : Nat} {v : Option Value} (h : tyOK (mRt y1) v) (hk : mRk (mRt y1) = 3) : v = none := by
  rcases h with ⟨x, -, e⟩ | ⟨x, -, e⟩ | ⟨x, -, -, e⟩ | ⟨e, -⟩
  · exfalso
    unfold mRo at e
    split at e
    · next q => rw [q] at hk; cases hk
    · next q => rw [q] at hk; cases hk
    · next q => rw [q] at hk; cases hk
    · cases e
  · rw [e] at hk; cases hk
  · exfalso
    unfold mRa at e
    split at e
    · next q => rw [q] at hk; cases hk
    · next q => rw [q] at hk; cases hk
    · cases e
  · exact e
theorem bind_I {y1 pc1 : Nat} {en : mL} {E : Option Value × Mem → Option γ} {F : Int32 × Mem → Option γ} (hk : mRk (mRt y1) = 0) (h : ∀ x S1, E (some (.int x), S1) = F (x, S1)) : (mV oS X y1 pc1 en [] S).bind E = (cI (mV oS X y1 pc1 en [] S)).bind F := by
  cases hv : mV oS X y1 pc1 en [] S with
  | none => rfl
  | some q =>
    obtain ⟨v, S1⟩ := q
    obtain ⟨x, rfl⟩ := ty_I (mV_ty hv) hk
    exact h x S1
theorem bind_J {y1 pc1 : Nat} {en : mL} {E : Option Value × Mem → Option γ} {F : Int64 × Mem → Option γ} (hk : mRk (mRt y1) = 1) (h : ∀ x S1, E (some (.long x), S1) = F (x, S1)) : (mV oS X y1 pc1 en [] S).bind E = (cJ (mV oS X y1 pc1 en [] S)).bind F := by
  cases hv : mV oS X y1 pc1 en [] S with
  | none => rfl
  | some q =>
    obtain ⟨v, S1⟩ := q
    obtain ⟨x, rfl⟩ := ty_J (mV_ty hv) hk
    exact h x S1
theorem bind_A {y1 pc1 : Nat} {en : mL} {E : Option Value × Mem → Option γ} {F : Option Nat × Mem → Option γ} (hk : mRk (mRt y1) = 2) (h : ∀ o S1, E (some (va_rf o), S1) = F (o, S1)) : (mV oS X y1 pc1 en [] S).bind E = (cA (mV oS X y1 pc1 en [] S)).bind F := by
  cases hv : mV oS X y1 pc1 en [] S with
  | none => rfl
  | some q =>
    obtain ⟨v, S1⟩ := q
    obtain ⟨o, rfl⟩ := ty_A (mV_ty hv) hk
    cases o with
    | none => exact h none S1
    | some a => exact h (some a) S1
theorem bind_U {y1 pc1 : Nat} {en : mL} {E : Option Value × Mem → Option γ} {F : Mem → Option γ} (hk : mRk (mRt y1) = 3) (h : ∀ S1, E (none, S1) = F S1) : (mV oS X y1 pc1 en [] S).bind E = (cU (mV oS X y1 pc1 en [] S)).bind F := by
  cases hv : mV oS X y1 pc1 en [] S with
  | none => rfl
  | some q =>
    obtain ⟨v, S1⟩ := q
    obtain rfl := ty_U (mV_ty hv) hk
    exact h S1
theorem cvOk_rk {idx y1 np rk : Nat} (hk : cvOk y idx y1 np rk = true) : mRk (mRt y1) = rk := by
  simp only [cvOk, Bool.and_eq_true, decide_eq_true_eq] at hk
  exact hk.2
theorem ciOk_rk {idx y1 np rk : Nat} (hk : ciOk y idx y1 np rk = true) : mRk (mRt y1) = rk := by
  simp only [ciOk, Bool.and_eq_true, decide_eq_true_eq] at hk
  exact hk.2
theorem V_cvI {idx y1 a np : Nat} {As rest : List Value} {en : mL} {E : Int32 → Mem → Option γ} (hd : decode (mCd y) pc = .ok (.invokevirtual idx, 3)) (hm : mM y pc l = l) (hk : cvOk y idx y1 np 0 = true) (hn : As.length = np) (hcl : sCl S a = some (mOwn y1)) (hsm : mSm rest = true) (hen : mEnt (.ref a :: As) (mMx y1) = en) (hel : (mEn (.ref a :: As)).length ≤ mMx y1) (h0 : c none = none) (k : ∀ (r : Int32) (S1 : Mem), c (mV oS X y (pc + 3) l (.int r :: rest) S1) = E r S1) : c (mV oS X y pc l (As.reverse ++ .ref a :: rest) S) = bI (cI (mV oS X y1 0 en [] S)) E := by
  refine (V_cv (E := fun q => match q.1 with | some (.int r) => E r q.2 | _ => none) hd hm hk hn hcl hsm hen hel h0 (fun q hq => ?_)).trans (bind_I (cvOk_rk hk) ?_)
  · obtain ⟨v, S1⟩ := q
    obtain ⟨r, rfl⟩ := ty_I (mV_ty hq) (cvOk_rk hk)
    exact k r S1
  · intro x S1; rfl
theorem V_ciI {idx y1 np : Nat} {As rest : List Value} {en : mL} {E : Int32 → Mem → Option γ} (hd : decode (mCd y) pc = .ok (.invokestatic idx, 3)) (hm : mM y pc l = l) (hk : ciOk y idx y1 np 0 = true) (hn : As.length = np) (hsm : mSm rest = true) (hen : mEnt As (mMx y1) = en) (hel : (mEn As).length ≤ mMx y1) (h0 : c none = none) (k : ∀ (r : Int32) (S1 : Mem), c (mV oS X y (pc + 3) l (.int r :: rest) S1) = E r S1) : c (mV oS X y pc l (As.reverse ++ rest) S) = bI (cI (mV oS X y1 0 en [] S)) E := by
  refine (V_ci (E := fun q => match q.1 with | some (.int r) => E r q.2 | _ => none) hd hm hk hn hsm hen hel h0 (fun q hq => ?_)).trans (bind_I (ciOk_rk hk) ?_)
  · obtain ⟨v, S1⟩ := q
    obtain ⟨r, rfl⟩ := ty_I (mV_ty hq) (ciOk_rk hk)
    exact k r S1
  · intro x S1; rfl
theorem V_cvJ {idx y1 a np : Nat} {As rest : List Value} {en : mL} {E : Int64 → Mem → Option γ} (hd : decode (mCd y) pc = .ok (.invokevirtual idx, 3)) (hm : mM y pc l = l) (hk : cvOk y idx y1 np 1 = true) (hn : As.length = np) (hcl : sCl S a = some (mOwn y1)) (hsm : mSm rest = true) (hen : mEnt (.ref a :: As) (mMx y1) = en) (hel : (mEn (.ref a :: As)).length ≤ mMx y1) (h0 : c none = none) (k : ∀ (r : Int64) (S1 : Mem), c (mV oS X y (pc + 3) l (.long r :: rest) S1) = E r S1) : c (mV oS X y pc l (As.reverse ++ .ref a :: rest) S) = bJ (cJ (mV oS X y1 0 en [] S)) E := by
  refine (V_cv (E := fun q => match q.1 with | some (.long r) => E r q.2 | _ => none) hd hm hk hn hcl hsm hen hel h0 (fun q hq => ?_)).trans (bind_J (cvOk_rk hk) ?_)
  · obtain ⟨v, S1⟩ := q
    obtain ⟨r, rfl⟩ := ty_J (mV_ty hq) (cvOk_rk hk)
    exact k r S1
  · intro x S1; rfl
theorem V_ciJ {idx y1 np : Nat} {As rest : List Value} {en : mL} {E : Int64 → Mem → Option γ} (hd : decode (mCd y) pc = .ok (.invokestatic idx, 3)) (hm : mM y pc l = l) (hk : ciOk y idx y1 np 1 = true) (hn : As.length = np) (hsm : mSm rest = true) (hen : mEnt As (mMx y1) = en) (hel : (mEn As).length ≤ mMx y1) (h0 : c none = none) (k : ∀ (r : Int64) (S1 : Mem), c (mV oS X y (pc + 3) l (.long r :: rest) S1) = E r S1) : c (mV oS X y pc l (As.reverse ++ rest) S) = bJ (cJ (mV oS X y1 0 en [] S)) E := by
  refine (V_ci (E := fun q => match q.1 with | some (.long r) => E r q.2 | _ => none) hd hm hk hn hsm hen hel h0 (fun q hq => ?_)).trans (bind_J (ciOk_rk hk) ?_)
  · obtain ⟨v, S1⟩ := q
    obtain ⟨r, rfl⟩ := ty_J (mV_ty hq) (ciOk_rk hk)
    exact k r S1
  · intro x S1; rfl
theorem V_cvA {idx y1 a np : Nat} {As rest : List Value} {en : mL} {E : Option Nat → Mem → Option γ} (hd : decode (mCd y) pc = .ok (.invokevirtual idx, 3)) (hm : mM y pc l = l) (hk : cvOk y idx y1 np 2 = true) (hn : As.length = np) (hcl : sCl S a = some (mOwn y1)) (hsm : mSm rest = true) (hen : mEnt (.ref a :: As) (mMx y1) = en) (hel : (mEn (.ref a :: As)).length ≤ mMx y1) (h0 : c none = none) (k : ∀ (r : Option Nat) (S1 : Mem), c (mV oS X y (pc + 3) l (va_rf r :: rest) S1) = E r S1) : c (mV oS X y pc l (As.reverse ++ .ref a :: rest) S) = bA (cA (mV oS X y1 0 en [] S)) E := by
  refine (V_cv (E := fun q => match q.1 with | some (.ref r) => E (some r) q.2 | some .null => E none q.2 | _ => none) hd hm hk hn hcl hsm hen hel h0 (fun q hq => ?_)).trans (bind_A (cvOk_rk hk) ?_)
  · obtain ⟨v, S1⟩ := q
    obtain ⟨o, rfl⟩ := ty_A (mV_ty hq) (cvOk_rk hk)
    cases o with
    | none => exact k none S1
    | some r => exact k (some r) S1
  · intro o S1; cases o <;> rfl
theorem V_ciA {idx y1 np : Nat} {As rest : List Value} {en : mL} {E : Option Nat → Mem → Option γ} (hd : decode (mCd y) pc = .ok (.invokestatic idx, 3)) (hm : mM y pc l = l) (hk : ciOk y idx y1 np 2 = true) (hn : As.length = np) (hsm : mSm rest = true) (hen : mEnt As (mMx y1) = en) (hel : (mEn As).length ≤ mMx y1) (h0 : c none = none) (k : ∀ (r : Option Nat) (S1 : Mem), c (mV oS X y (pc + 3) l (va_rf r :: rest) S1) = E r S1) : c (mV oS X y pc l (As.reverse ++ rest) S) = bA (cA (mV oS X y1 0 en [] S)) E := by
  refine (V_ci (E := fun q => match q.1 with | some (.ref r) => E (some r) q.2 | some .null => E none q.2 | _ => none) hd hm hk hn hsm hen hel h0 (fun q hq => ?_)).trans (bind_A (ciOk_rk hk) ?_)
  · obtain ⟨v, S1⟩ := q
    obtain ⟨o, rfl⟩ := ty_A (mV_ty hq) (ciOk_rk hk)
    cases o with
    | none => exact k none S1
    | some r => exact k (some r) S1
  · intro o S1; cases o <;> rfl
theorem V_cvU {idx y1 a np : Nat} {As rest : List Value} {en : mL} {E : Mem → Option γ} (hd : decode (mCd y) pc = .ok (.invokevirtual idx, 3)) (hm : mM y pc l = l) (hk : cvOk y idx y1 np 3 = true) (hn : As.length = np) (hcl : sCl S a = some (mOwn y1)) (hsm : mSm rest = true) (hen : mEnt (.ref a :: As) (mMx y1) = en) (hel : (mEn (.ref a :: As)).length ≤ mMx y1) (h0 : c none = none) (k : ∀  (S1 : Mem), c (mV oS X y (pc + 3) l ( rest) S1) = E S1) : c (mV oS X y pc l (As.reverse ++ .ref a :: rest) S) = bU (cU (mV oS X y1 0 en [] S)) E := by
  refine (V_cv (E := fun q => match q.1 with | none => E q.2 | _ => none) hd hm hk hn hcl hsm hen hel h0 (fun q hq => ?_)).trans (bind_U (cvOk_rk hk) ?_)
  · obtain ⟨v, S1⟩ := q
    obtain rfl := ty_U (mV_ty hq) (cvOk_rk hk)
    exact k S1
  · intro S1; rfl
theorem V_ciU {idx y1 np : Nat} {As rest : List Value} {en : mL} {E : Mem → Option γ} (hd : decode (mCd y) pc = .ok (.invokestatic idx, 3)) (hm : mM y pc l = l) (hk : ciOk y idx y1 np 3 = true) (hn : As.length = np) (hsm : mSm rest = true) (hen : mEnt As (mMx y1) = en) (hel : (mEn As).length ≤ mMx y1) (h0 : c none = none) (k : ∀  (S1 : Mem), c (mV oS X y (pc + 3) l ( rest) S1) = E S1) : c (mV oS X y pc l (As.reverse ++ rest) S) = bU (cU (mV oS X y1 0 en [] S)) E := by
  refine (V_ci (E := fun q => match q.1 with | none => E q.2 | _ => none) hd hm hk hn hsm hen hel h0 (fun q hq => ?_)).trans (bind_U (ciOk_rk hk) ?_)
  · obtain ⟨v, S1⟩ := q
    obtain rfl := ty_U (mV_ty hq) (ciOk_rk hk)
    exact k S1
  · intro S1; rfl
theorem V_iret {x : Int32} (hd : decode (mCd y) pc = .ok (.ireturn, 1)) (hm : mM y pc l = l) (ht : mRo (mRt y) x = true) : cI (mV oS X y pc l [.int x] S) = some (x, S) := by
  rw [mV_unf, hm, mStep_d hd]
  simp [mIns, ht, cI]
theorem V_iretZ {x : Int32} (hd : decode (mCd y) pc = .ok (.ireturn, 1)) (hm : mM y pc l = l) (ht : mRo (mRt y) x = zb x) : cI (mV oS X y pc l [.int x] S) = if zb x = true then some (x, S) else none := by
  rw [mV_unf, hm, mStep_d hd]
  by_cases hz : zb x = true
  · rw [if_pos hz]
    rw [hz] at ht
    simp [mIns, ht, cI]
  · rw [if_neg hz]
    have hz2 : mRo (mRt y) x = false := by rw [ht]; simpa using hz
    simp [mIns, hz2, cI]
theorem V_iretC {x : Int32} (hd : decode (mCd y) pc = .ok (.ireturn, 1)) (hm : mM y pc l = l) (ht : mRo (mRt y) x = inb x 65536) : cI (mV oS X y pc l [.int x] S) = if inb x 65536 = true then some (x, S) else none := by
  rw [mV_unf, hm, mStep_d hd]
  by_cases hz : inb x 65536 = true
  · rw [if_pos hz]
    rw [hz] at ht
    simp [mIns, ht, cI]
  · rw [if_neg hz]
    have hz2 : mRo (mRt y) x = false := by rw [ht]; simpa using hz
    simp [mIns, hz2, cI]
theorem V_lret {x : Int64} (hd : decode (mCd y) pc = .ok (.lreturn, 1)) (hm : mM y pc l = l) (ht : mRt y = some .long) : cJ (mV oS X y pc l [.long x] S) = some (x, S) := by
  rw [mV_unf, hm, mStep_d hd]
  simp [mIns, ht, cJ]
theorem V_aret {o : Option Nat} (hd : decode (mCd y) pc = .ok (.areturn, 1)) (hm : mM y pc l = l) (ht : mRa (mRt y) = true) : cA (mV oS X y pc l [va_rf o] S) = some (o, S) := by
  rw [mV_unf, hm, mStep_d hd]
  cases o <;> simp [mIns, va_rf, ht, cA]
theorem V_vret (hd : decode (mCd y) pc = .ok (.return_, 1)) (hm : mM y pc l = l) (ht : mRt y = none) : cU (mV oS X y pc l [] S) = some S := by
  rw [mV_unf, hm, mStep_d hd]
  simp [mIns, ht, cU]
end VR
