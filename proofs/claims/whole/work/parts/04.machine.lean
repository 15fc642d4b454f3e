/-! A small machine over pictures of cells: the instructions that this claim's code holds, as a function; what it says is shown of the bytes in a later part. A reference is a number of a cell; the script is a cell of its own. -/
abbrev mC : Type := (Nat × Nat × ((Nat → Int32) ⊕ List (Option Nat))) ⊕ (Nat × List Value)
abbrev mH : Type := List mC
abbrev mL : Type := List (Option Value)
abbrev mX : Type := Nat × (Nat → Int32)
def mSid : Nat := 1000000
def inb (i : Int32) (n : Nat) : Bool := !(decide (i < 0)) && decide (i.toNatClampNeg < n)
/-- the heap's ways: getf, putf, ald, ast, alen, new, newarr, copy, class -/
abbrev mO (σ : Type) : Type := (σ → Nat → Nat → Nat → Option Value) × (σ → Nat → Nat → Nat → Value → Option σ) × (σ → Nat → Nat → Int32 → Option Value) × (σ → Nat → Nat → Int32 → Value → Option σ) × (σ → Nat → Option Int32) × (σ → Nat → Option (σ × Nat)) × (σ → Nat → Int32 → Option (σ × Nat)) × (σ → Nat → Int32 → Nat → Int32 → Int32 → Option σ) × (σ → Nat → Option Nat)
def mO.gf {σ : Type} (O : mO σ) : σ → Nat → Nat → Nat → Option Value := O.1
def mO.pf {σ : Type} (O : mO σ) : σ → Nat → Nat → Nat → Value → Option σ := O.2.1
def mO.ld {σ : Type} (O : mO σ) : σ → Nat → Nat → Int32 → Option Value := O.2.2.1
def mO.st {σ : Type} (O : mO σ) : σ → Nat → Nat → Int32 → Value → Option σ := O.2.2.2.1
def mO.ln {σ : Type} (O : mO σ) : σ → Nat → Option Int32 := O.2.2.2.2.1
def mO.nw {σ : Type} (O : mO σ) : σ → Nat → Option (σ × Nat) := O.2.2.2.2.2.1
def mO.na {σ : Type} (O : mO σ) : σ → Nat → Int32 → Option (σ × Nat) := O.2.2.2.2.2.2.1
def mO.cp {σ : Type} (O : mO σ) : σ → Nat → Int32 → Nat → Int32 → Int32 → Option σ := O.2.2.2.2.2.2.2.1
def mO.cl {σ : Type} (O : mO σ) : σ → Nat → Option Nat := O.2.2.2.2.2.2.2.2
abbrev mR (σ : Type) : Type := (Nat × mL × List Value × σ) ⊕ ((Option Value × σ) ⊕ (Nat × List Value × Nat × mL × List Value × σ))
/-- locals -/
def mKill (l : mL) (i : Nat) : mL := match l[i]? with
  | some (some (.long _)) => l.set i none
  | some (some (.double _)) => l.set i none
  | _ => l
def mSt1 (l : mL) (i : Nat) (v : Value) : mL := match i with
  | 0 => l.set 0 (some v)
  | j + 1 => (mKill l j).set (j + 1) (some v)
def mSt2 (l : mL) (i : Nat) (v : Value) : mL := (mSt1 l i v).set (i + 1) none
def mEn : List Value → mL
  | [] => []
  | v :: r => if v.category = 2 then some v :: none :: mEn r else some v :: mEn r
def mEnt (as : List Value) (n : Nat) : mL := mEn as ++ List.replicate (n - (mEn as).length) none
def mZ : mL → List Bool → mL
  | o :: r, b :: bs => (if b then o else none) :: mZ r bs
  | r, [] => r
  | [], _ => []
def mM (y pc : Nat) (l : mL) : mL := match lk (mMsk y) pc with
  | none => l
  | some bs => mZ l bs
section MACH
variable {σ : Type}
def mGo (L len pc : Nat) (l : mL) (st : List Value) (h : σ) : Option (mR σ) := if len = L then some (.inl (pc + L, l, st, h)) else none
def mLd (L len pc : Nat) (l : mL) (i : Nat) (st : List Value) (h : σ) (ok : Value → Bool) : Option (mR σ) := match l[i]? with
  | some (some v) => if ok v then mGo L len pc l (v :: st) h else none
  | _ => none
def mStI (L len pc : Nat) (l : mL) (i : Nat) (st : List Value) (h : σ) : Option (mR σ) := match st with
  | .int x :: r => if i < l.length then mGo L len pc (mSt1 l i (.int x)) r h else none
  | _ => none
def mStA (L len pc : Nat) (l : mL) (i : Nat) (st : List Value) (h : σ) : Option (mR σ) := match st with
  | .ref x :: r => if i < l.length then mGo L len pc (mSt1 l i (.ref x)) r h else none
  | .null :: r => if i < l.length then mGo L len pc (mSt1 l i .null) r h else none
  | _ => none
def mStL (L len pc : Nat) (l : mL) (i : Nat) (st : List Value) (h : σ) : Option (mR σ) := match st with
  | .long x :: r => if i + 1 < l.length then mGo L len pc (mSt2 l i (.long x)) r h else none
  | _ => none
def isI : Value → Bool
  | .int _ => true
  | _ => false
def isL : Value → Bool
  | .long _ => true
  | _ => false
def isA : Value → Bool
  | .ref _ => true
  | .null => true
  | _ => false
def mI1 (len pc : Nat) (l : mL) (st : List Value) (h : σ) (f : Int32 → Value) : Option (mR σ) := match st with
  | .int x :: r => mGo 1 len pc l (f x :: r) h
  | _ => none
def mL1 (len pc : Nat) (l : mL) (st : List Value) (h : σ) (f : Int64 → Value) : Option (mR σ) := match st with
  | .long x :: r => mGo 1 len pc l (f x :: r) h
  | _ => none
def mII (len pc : Nat) (l : mL) (st : List Value) (h : σ) (f : Int32 → Int32 → Int32) : Option (mR σ) := match st with
  | .int y :: .int x :: r => mGo 1 len pc l (.int (f x y) :: r) h
  | _ => none
def mIZ (len pc : Nat) (l : mL) (st : List Value) (h : σ) (f : Int32 → Int32 → Int32) : Option (mR σ) := match st with
  | .int y :: .int x :: r => if y = 0 then none else mGo 1 len pc l (.int (f x y) :: r) h
  | _ => none
def mLL (len pc : Nat) (l : mL) (st : List Value) (h : σ) (f : Int64 → Int64 → Value) : Option (mR σ) := match st with
  | .long y :: .long x :: r => mGo 1 len pc l (f x y :: r) h
  | _ => none
def mLZ (len pc : Nat) (l : mL) (st : List Value) (h : σ) (f : Int64 → Int64 → Value) : Option (mR σ) := match st with
  | .long y :: .long x :: r => if y = 0 then none else mGo 1 len pc l (f x y :: r) h
  | _ => none
def mLI (len pc : Nat) (l : mL) (st : List Value) (h : σ) (f : Int64 → Int32 → Int64) : Option (mR σ) := match st with
  | .int y :: .long x :: r => mGo 1 len pc l (.long (f x y) :: r) h
  | _ => none
def mTg (pc : Nat) (off : Int) : Option Nat := if (0 : Int) ≤ (pc : Int) + off then some ((pc : Int) + off).toNat else none
def mJp (len pc : Nat) (l : mL) (st : List Value) (h : σ) (c : Bool) (off : Int) : Option (mR σ) := if len = 3 then (match mTg pc off with
  | some t => some (.inl (if c then t else pc + 3, l, st, h))
  | none => none) else none
def mCb (c : ClassFile.Cond) (x y : Int32) : Bool := match c with
  | .eq => decide (x = y)
  | .ne => decide (¬ x = y)
  | .lt => decide (x < y)
  | .ge => decide (y ≤ x)
  | .gt => decide (y < x)
  | .le => decide (x ≤ y)
def mIf (c : ClassFile.Cond) (len pc : Nat) (l : mL) (st : List Value) (h : σ) (off : Int) : Option (mR σ) := match st with
  | .int x :: r => mJp len pc l r h (mCb c x 0) off
  | _ => none
def mIc (c : ClassFile.Cond) (len pc : Nat) (l : mL) (st : List Value) (h : σ) (off : Int) : Option (mR σ) := match st with
  | .int y :: .int x :: r => mJp len pc l r h (mCb c x y) off
  | _ => none
def mNl (w : Bool) (len pc : Nat) (l : mL) (st : List Value) (h : σ) (off : Int) : Option (mR σ) := match st with
  | .null :: r => mJp len pc l r h w off
  | .ref _ :: r => mJp len pc l r h (!w) off
  | _ => none
def mSo (dflt lo hi : Int) (offs : Array Int) (x : Int32) : Option Int := if x.toInt < lo ∨ hi < x.toInt then some dflt else offs[(x.toInt - lo).toNat]?
def mSw (pc : Nat) (l : mL) (st : List Value) (h : σ) (dflt lo hi : Int) (offs : Array Int) : Option (mR σ) := match st with
  | .int x :: r => (match mSo dflt lo hi offs x with
    | some off => (match mTg pc off with
      | some t => some (.inl (t, l, r, h))
      | none => none)
    | none => none)
  | _ => none
def mAl (O : mO σ) (X : mX) (k len pc : Nat) (l : mL) (st : List Value) (h : σ) : Option (mR σ) := match st with
  | .int i :: .ref a :: r => if a = mSid then (if k = 0 ∧ inb i (X.1 - 1) = true then mGo 1 len pc l (.int (X.2 i.toNatClampNeg) :: r) h else none) else (match O.ld h a k i with
    | some v => mGo 1 len pc l (v :: r) h
    | none => none)
  | _ => none
def mAs (O : mO σ) (k len pc : Nat) (l : mL) (st : List Value) (h : σ) : Option (mR σ) := match st with
  | v :: .int i :: .ref a :: r => (match O.st h a k i v with
    | some h1 => mGo 1 len pc l r h1
    | none => none)
  | _ => none
def mAn (O : mO σ) (X : mX) (len pc : Nat) (l : mL) (st : List Value) (h : σ) : Option (mR σ) := match st with
  | .ref a :: r => if a = mSid then (if X.1 = 0 then none else mGo 1 len pc l (.int (Int32.ofNat (X.1 - 1)) :: r) h) else (match O.ln h a with
    | some v => mGo 1 len pc l (.int v :: r) h
    | none => none)
  | _ => none
def mNa (O : mO σ) (L t len pc : Nat) (l : mL) (st : List Value) (h : σ) : Option (mR σ) := match st with
  | .int n :: r => (match O.na h t n with
    | some q => mGo L len pc l (.ref q.2 :: r) q.1
    | none => none)
  | _ => none
def mGf (O : mO σ) (y len pc : Nat) (l : mL) (st : List Value) (h : σ) (idx : Nat) : Option (mR σ) := match st with
  | .ref a :: r => (match lk (mFt (mOwn y)) idx with
    | some q => (match O.gf h a q.1 q.2 with
      | some v => mGo 3 len pc l (v :: r) h
      | none => none)
    | none => none)
  | _ => none
def mPf (O : mO σ) (y len pc : Nat) (l : mL) (st : List Value) (h : σ) (idx : Nat) : Option (mR σ) := match st with
  | v :: .ref a :: r => (match lk (mFt (mOwn y)) idx with
    | some q => if mFin q.1 q.2 && !(mIni y && (mOwn y == q.1)) then none else (match O.pf h a q.1 q.2 v with
      | some h1 => mGo 3 len pc l r h1
      | none => none)
    | none => none)
  | _ => none
def mNw (O : mO σ) (y len pc : Nat) (l : mL) (st : List Value) (h : σ) (idx : Nat) : Option (mR σ) := match lk (mCt (mOwn y)) idx with
  | some ci => (match O.nw h ci with
    | some q => mGo 3 len pc l (.ref q.2 :: st) q.1
    | none => none)
  | none => none
def mCs (L len y pc : Nat) (l : mL) (st : List Value) (h : σ) (idx : Nat) (w : Bool) : Option (mR σ) := match lk (mKt (mOwn y)) idx with
  | some (.inl v) => if w then none else mGo L len pc l (.int v :: st) h
  | some (.inr v) => if w then mGo L len pc l (.long v :: st) h else none
  | none => none
def mSm (rest : List Value) : Bool := decide ((rest.map fun v => v.category).sum ≤ 8)
def mCv (O : mO σ) (sp : Bool) (y len pc : Nat) (l : mL) (st : List Value) (h : σ) (idx : Nat) : Option (mR σ) := match lk (mMt (mOwn y)) idx with
  | some y1 => (match st.drop (mNp y1) with
    | .ref a :: rest => if len = 3 ∧ mNp y1 ≤ st.length ∧ mSm rest = true ∧ (mIni y1 == sp && !mSta y1) = true ∧ (sp || O.cl h a == some (mOwn y1)) = true ∧ (mEn (.ref a :: (st.take (mNp y1)).reverse)).length ≤ mMx y1 ∧ mRm y y1 = true then some (.inr (.inr (y1, .ref a :: (st.take (mNp y1)).reverse, pc + 3, l, rest, h))) else none
    | _ => none)
  | none => if sp && mOt (mOwn y) idx && mRo1 y then (match st with
    | .ref _ :: rest => if mSm rest = true then mGo 3 len pc l rest h else none
    | _ => none) else none
def mCi (O : mO σ) (y len pc : Nat) (l : mL) (st : List Value) (h : σ) (idx : Nat) : Option (mR σ) := match lk (mMt (mOwn y)) idx with
  | some y1 => if len = 3 ∧ mNp y1 ≤ st.length ∧ mSm (st.drop (mNp y1)) = true ∧ mSta y1 = true ∧ (mEn ((st.take (mNp y1)).reverse)).length ≤ mMx y1 ∧ mRm y y1 = true then some (.inr (.inr (y1, (st.take (mNp y1)).reverse, pc + 3, l, st.drop (mNp y1), h))) else none
  | none => match lk (mXq (mOwn y)) idx with
    | some q => if mRx y then (match st with
      | .int w :: .int v :: rest => if mSm rest = true then mGo 3 len pc l (.int (if q.2 = true then (if v < w then w else v) else (if w < v then w else v)) :: rest) h else none
      | _ => none) else none
    | none => if mNt (mOwn y) idx && mRn y then (match st with
    | .int n :: .int dp :: .ref a :: .int sp :: .ref a0 :: rest => if mSm rest = true then (match O.cp h a0 sp a dp n with
      | some h1 => mGo 3 len pc l rest h1
      | none => none) else none
    | _ => none) else none
def mRo (ty : Option FieldType) (v : Int32) : Bool := match ty with
  | some .int => true
  | some .boolean => decide (v = 0) || decide (v = 1)
  | some .char => inb v 65536
  | _ => false
def mRa (ty : Option FieldType) : Bool := match ty with
  | some (.object _) => true
  | some (.array _) => true
  | _ => false
def mIns (O : mO σ) (X : mX) (y pc len : Nat) (l : mL) (st : List Value) (h : σ) : Instr → Option (mR σ)
  | .iconst n => mGo 1 len pc l (.int (Int32.ofInt n) :: st) h
  | .bipush n => mGo 2 len pc l (.int (Int8.ofInt n).toInt32 :: st) h
  | .sipush n => mGo 3 len pc l (.int (Int16.ofInt n).toInt32 :: st) h
  | .lconst n => mGo 1 len pc l (.long (Int64.ofNat (n : Nat)) :: st) h
  | .aconst_null => mGo 1 len pc l (.null :: st) h
  | .ldc i => mCs 2 len y pc l st h i false
  | .ldc_w i => mCs 3 len y pc l st h i false
  | .ldc2_w i => mCs 3 len y pc l st h i true
  | .iload_n k => mLd 1 len pc l k st h isI
  | .iload i => mLd 2 len pc l i st h isI
  | .lload_n k => mLd 1 len pc l k st h isL
  | .lload i => mLd 2 len pc l i st h isL
  | .aload_n k => mLd 1 len pc l k st h isA
  | .aload i => mLd 2 len pc l i st h isA
  | .istore_n k => mStI 1 len pc l k st h
  | .istore i => mStI 2 len pc l i st h
  | .lstore_n k => mStL 1 len pc l k st h
  | .lstore i => mStL 2 len pc l i st h
  | .astore_n k => mStA 1 len pc l k st h
  | .astore i => mStA 2 len pc l i st h
  | .iinc i n => (match l[i]? with
    | some (some (.int x)) => mGo 3 len pc (mSt1 l i (.int (x + Int32.ofInt n))) st h
    | _ => none)
  | .iadd => mII len pc l st h (fun x y => x + y)
  | .isub => mII len pc l st h (fun x y => x - y)
  | .imul => mII len pc l st h (fun x y => x * y)
  | .iand => mII len pc l st h (fun x y => x &&& y)
  | .ior => mII len pc l st h (fun x y => x ||| y)
  | .ixor => mII len pc l st h (fun x y => x ^^^ y)
  | .ishl => mII len pc l st h (fun x y => x <<< (y &&& 31))
  | .ishr => mII len pc l st h (fun x y => x >>> (y &&& 31))
  | .iushr => mII len pc l st h (fun x y => (x.toUInt32 >>> (y.toUInt32 &&& Int32.toUInt32 31)).toInt32)
  | .idiv => mIZ len pc l st h (fun x y => x / y)
  | .irem => mIZ len pc l st h (fun x y => x - x / y * y)
  | .ineg => mI1 len pc l st h (fun x => .int (-x))
  | .ladd => mLL len pc l st h (fun x y => .long (x + y))
  | .lsub => mLL len pc l st h (fun x y => .long (x - y))
  | .lmul => mLL len pc l st h (fun x y => .long (x * y))
  | .land => mLL len pc l st h (fun x y => .long (x &&& y))
  | .lor => mLL len pc l st h (fun x y => .long (x ||| y))
  | .lcmp => mLL len pc l st h (fun x y => .int (lg_cmp x y))
  | .ldiv => mLZ len pc l st h (fun x y => .long (x / y))
  | .lrem => mLZ len pc l st h (fun x y => .long (x - x / y * y))
  | .lshl => mLI len pc l st h (fun x y => x <<< (y.toInt64 &&& 63))
  | .lshr => mLI len pc l st h (fun x y => x >>> (y.toInt64 &&& 63))
  | .lushr => mLI len pc l st h (fun x y => (x.toUInt64 >>> (y.toInt64.toUInt64 &&& Int64.toUInt64 63)).toInt64)
  | .i2l => mI1 len pc l st h (fun x => .long x.toInt64)
  | .i2b => mI1 len pc l st h (fun x => .int x.toInt8.toInt32)
  | .i2c => mI1 len pc l st h (fun x => .int (x.toUInt32 % 65536).toInt32)
  | .l2i => mL1 len pc l st h (fun x => .int x.toInt32)
  | .dup => (match st with
    | v :: r => if v.category = 1 then mGo 1 len pc l (v :: v :: r) h else none
    | _ => none)
  | .dup2 => (match st with
    | v :: w :: r => if v.category = 1 ∧ w.category = 1 then mGo 1 len pc l (v :: w :: v :: w :: r) h else none
    | _ => none)
  | .pop => (match st with
    | v :: r => if v.category = 1 then mGo 1 len pc l r h else none
    | _ => none)
  | .ifCond c off => mIf c len pc l st h off
  | .if_icmp c off => mIc c len pc l st h off
  | .ifnull off => mNl true len pc l st h off
  | .ifnonnull off => mNl false len pc l st h off
  | .goto off => mJp len pc l st h true off
  | .tableswitch d lo hi os => mSw pc l st h d lo hi os
  | .iaload => mAl O X 0 len pc l st h
  | .baload => mAl O X 1 len pc l st h
  | .caload => mAl O X 2 len pc l st h
  | .aaload => mAl O X 3 len pc l st h
  | .iastore => mAs O 0 len pc l st h
  | .bastore => mAs O 1 len pc l st h
  | .castore => mAs O 2 len pc l st h
  | .aastore => mAs O 3 len pc l st h
  | .arraylength => mAn O X len pc l st h
  | .newarray .int => mNa O 2 0 len pc l st h
  | .newarray .boolean => mNa O 2 1 len pc l st h
  | .newarray .char => mNa O 2 2 len pc l st h
  | .newarray .byte => mNa O 2 3 len pc l st h
  | .anewarray i => if mAt (mOwn y) i then mNa O 3 4 len pc l st h else none
  | .getfield i => mGf O y len pc l st h i
  | .putfield i => mPf O y len pc l st h i
  | .new i => mNw O y len pc l st h i
  | .invokevirtual i => mCv O false y len pc l st h i
  | .invokespecial i => mCv O true y len pc l st h i
  | .invokestatic i => mCi O y len pc l st h i
  | .ireturn => (match st with
    | [.int v] => if len = 1 ∧ mRo (mRt y) v = true then some (.inr (.inl (some (.int v), h))) else none
    | _ => none)
  | .lreturn => (match st with
    | [.long v] => if len = 1 ∧ mRt y = some .long then some (.inr (.inl (some (.long v), h))) else none
    | _ => none)
  | .areturn => (match st with
    | [.ref v] => if len = 1 ∧ mRa (mRt y) = true then some (.inr (.inl (some (.ref v), h))) else none
    | [.null] => if len = 1 ∧ mRa (mRt y) = true then some (.inr (.inl (some .null, h))) else none
    | _ => none)
  | .return_ => (match st with
    | [] => if len = 1 ∧ mRt y = none then some (.inr (.inl (none, h))) else none
    | _ => none)
  | _ => none
def mStep (O : mO σ) (X : mX) (y pc : Nat) (l : mL) (st : List Value) (h : σ) : Option (mR σ) := match decode (mCd y) pc with
  | .ok (i, len) => mIns O X y pc len l st h i
  | .error _ => none
def mRun (O : mO σ) (X : mX) : Nat → Nat → Nat → mL → List Value → σ → Option (Option Value × σ)
  | 0, _, _, _, _, _ => none
  | n + 1, y, pc, l, st, h => match mStep O X y pc (mM y pc l) st h with
    | none => none
    | some (.inl (pc1, l1, st1, h1)) => mRun O X n y pc1 l1 st1 h1
    | some (.inr (.inl r)) => some r
    | some (.inr (.inr (y1, as, pc1, l1, st1, h1))) => match mRun O X n y1 0 (mEnt as (mMx y1)) [] h1 with
      | none => none
      | some (v, h2) => mRun O X n y pc1 l1 (v.toList ++ st1) h2
theorem mRun_mono (O : mO σ) (X : mX) : ∀ (n y pc : Nat) (l : mL) (st : List Value) (h : σ) (r : Option Value × σ), mRun O X n y pc l st h = some r → mRun O X (n + 1) y pc l st h = some r := by
  intro n
  induction n with
  | zero => intro y pc l st h r hr; simp [mRun] at hr
  | succ n ih =>
    intro y pc l st h r hr
    rw [mRun] at hr ⊢
    cases hs : mStep O X y pc (mM y pc l) st h with
    | none => rw [hs] at hr; simp at hr
    | some q =>
      rw [hs] at hr
      rcases q with ⟨pc1, l1, st1, h1⟩ | q | ⟨y1, as, pc1, l1, st1, h1⟩
      · exact ih _ _ _ _ _ _ hr
      · exact hr
      · dsimp only at hr ⊢
        cases hc : mRun O X n y1 0 (mEnt as (mMx y1)) [] h1 with
        | none => rw [hc] at hr; simp at hr
        | some v =>
          rw [hc] at hr
          rw [ih _ _ _ _ _ _ hc]
          exact ih _ _ _ _ _ _ hr
theorem mRun_le (O : mO σ) (X : mX) {n m : Nat} (hnm : n ≤ m) {y pc : Nat} {l : mL} {st : List Value} {h : σ} {r : Option Value × σ} (hr : mRun O X n y pc l st h = some r) : mRun O X m y pc l st h = some r := by
  induction hnm with
  | refl => exact hr
  | step _ ih => exact mRun_mono O X _ _ _ _ _ _ _ ih
noncomputable def mV (O : mO σ) (X : mX) (y pc : Nat) (l : mL) (st : List Value) (h : σ) : Option (Option Value × σ) :=
  @dite _ (∃ r, ∃ n, mRun O X n y pc l st h = some r) (Classical.propDecidable _) (fun hx => some (Classical.choose hx)) (fun _ => none)
theorem mV_iff (O : mO σ) (X : mX) (y pc : Nat) (l : mL) (st : List Value) (h : σ) (r : Option Value × σ) : mV O X y pc l st h = some r ↔ ∃ n, mRun O X n y pc l st h = some r := by
  unfold mV
  constructor
  · intro hr
    split at hr
    · next hx =>
      obtain ⟨n, hn⟩ := Classical.choose_spec hx
      cases hr
      exact ⟨n, hn⟩
    · cases hr
  · rintro ⟨n, hn⟩
    have hx : ∃ r, ∃ n, mRun O X n y pc l st h = some r := ⟨r, n, hn⟩
    rw [dif_pos hx]
    obtain ⟨k, hk⟩ := Classical.choose_spec hx
    have h1 := mRun_le O X (Nat.le_max_left n k) hn
    have h2 := mRun_le O X (Nat.le_max_right n k) hk
    rw [h1] at h2
    exact h2.symm
theorem mV_unf (O : mO σ) (X : mX) (y pc : Nat) (l : mL) (st : List Value) (h : σ) : mV O X y pc l st h = match mStep O X y pc (mM y pc l) st h with
    | none => none
    | some (.inl (pc1, l1, st1, h1)) => mV O X y pc1 l1 st1 h1
    | some (.inr (.inl r)) => some r
    | some (.inr (.inr (y1, as, pc1, l1, st1, h1))) => (mV O X y1 0 (mEnt as (mMx y1)) [] h1).bind fun q => mV O X y pc1 l1 (q.1.toList ++ st1) q.2 := by
  apply Option.ext
  intro r
  rw [mV_iff]
  cases hs : mStep O X y pc (mM y pc l) st h with
  | none =>
    refine ⟨fun ⟨n, hn⟩ => ?_, fun hr => by cases hr⟩
    cases n with
    | zero => simp [mRun] at hn
    | succ n => rw [mRun, hs] at hn; cases hn
  | some q =>
    rcases q with ⟨pc1, l1, st1, h1⟩ | q | ⟨y1, as, pc1, l1, st1, h1⟩
    · dsimp only
      rw [mV_iff]
      refine ⟨fun ⟨n, hn⟩ => ?_, fun ⟨n, hn⟩ => ⟨n + 1, by rw [mRun, hs]; exact hn⟩⟩
      cases n with
      | zero => simp [mRun] at hn
      | succ n => rw [mRun, hs] at hn; exact ⟨n, hn⟩
    · dsimp only
      refine ⟨fun ⟨n, hn⟩ => ?_, fun hr => ⟨1, by rw [mRun, hs]; exact hr⟩⟩
      cases n with
      | zero => simp [mRun] at hn
      | succ n => rw [mRun, hs] at hn; exact hn
    · dsimp only
      constructor
      · rintro ⟨n, hn⟩
        cases n with
        | zero => simp [mRun] at hn
        | succ n =>
          rw [mRun, hs] at hn
          dsimp only at hn
          cases hc : mRun O X n y1 0 (mEnt as (mMx y1)) [] h1 with
          | none => rw [hc] at hn; cases hn
          | some v =>
            rw [hc] at hn
            rw [(mV_iff O X _ _ _ _ _ v).mpr ⟨n, hc⟩]
            exact (mV_iff O X _ _ _ _ _ r).mpr ⟨n, hn⟩
      · intro hr
        cases hc : mV O X y1 0 (mEnt as (mMx y1)) [] h1 with
        | none => rw [hc] at hr; cases hr
        | some v =>
          rw [hc] at hr
          obtain ⟨n1, e1⟩ := (mV_iff O X _ _ _ _ _ v).mp hc
          obtain ⟨n2, e2⟩ := (mV_iff O X _ _ _ _ _ r).mp hr
          refine ⟨max n1 n2 + 1, ?_⟩
          rw [mRun, hs]
          dsimp only
          rw [mRun_le O X (Nat.le_max_left n1 n2) e1]
          exact mRun_le O X (Nat.le_max_right n1 n2) e2
end MACH
