/-! one heap for another: what runs over numbers runs over cells; what runs without a script runs with one -/
def qm {σ τ : Type} (φ : σ → τ) (q : mR σ) : mR τ := match q with
  | .inl (pc, l, st, h) => .inl (pc, l, st, φ h)
  | .inr (.inl (v, h)) => .inr (.inl (v, φ h))
  | .inr (.inr (y, as, pc, l, st, h)) => .inr (.inr (y, as, pc, l, st, φ h))
def simO {σ τ : Type} (φ : σ → τ) (O1 : mO σ) (O2 : mO τ) : Prop := (∀ S a c k v, O1.gf S a c k = some v → O2.gf (φ S) a c k = some v) ∧ (∀ S a c k v S1, O1.pf S a c k v = some S1 → O2.pf (φ S) a c k v = some (φ S1)) ∧ (∀ S a k i v, O1.ld S a k i = some v → O2.ld (φ S) a k i = some v) ∧ (∀ S a k i v S1, O1.st S a k i v = some S1 → O2.st (φ S) a k i v = some (φ S1)) ∧ (∀ S a v, O1.ln S a = some v → O2.ln (φ S) a = some v) ∧ (∀ S c z, O1.nw S c = some z → O2.nw (φ S) c = some (φ z.1, z.2)) ∧ (∀ S t n z, O1.na S t n = some z → O2.na (φ S) t n = some (φ z.1, z.2)) ∧ (∀ S a0 sp a dp n S1, O1.cp S a0 sp a dp n = some S1 → O2.cp (φ S) a0 sp a dp n = some (φ S1)) ∧ (∀ S a c, O1.cl S a = some c → O2.cl (φ S) a = some c)
def simX (X X1 : mX) : Prop := X1 = X ∨ X.1 = 0
section SIM
variable {σ τ : Type} {φ : σ → τ} {O1 : mO σ} {O2 : mO τ} {X X1 : mX} {y pc len : Nat} {l : mL} {st : List Value} {S : σ}
theorem inb_0 (i : Int32) : inb i 0 = false := by simp [inb]
theorem mGo_sim {L : Nat} {q : mR σ} (hs : mGo L len pc l st S = some q) : mGo L len pc l st (φ S) = some (qm φ q) := by
  obtain ⟨rfl, rfl⟩ := mGo_inv hs
  simp [mGo, qm]
theorem mCv_sim (H : simO φ O1 O2) {sp : Bool} {idx : Nat} {q : mR σ} (hs : mCv O1 sp y len pc l st S idx = some q) : mCv O2 sp y len pc l st (φ S) idx = some (qm φ q) := by
  unfold mCv at hs ⊢
  split at hs
  · next y1 e =>
    split at hs
    · next a rest e2 =>
      split at hs
      · next hc =>
        obtain ⟨g1, g2, g3, g4, g5, g6, g7⟩ := hc
        cases hs
        have g5' : (sp || O2.cl (φ S) a == some (mOwn y1)) = true := by
          rw [Bool.or_eq_true] at g5 ⊢
          rcases g5 with g5 | g5
          · exact Or.inl g5
          · refine Or.inr ?_
            rw [beq_iff_eq] at g5 ⊢
            exact H.2.2.2.2.2.2.2.2 _ _ _ g5
        rw [if_pos ⟨g1, g2, g3, g4, g5', g6, g7⟩]
        rfl
      · cases hs
    · cases hs
  · split at hs
    · next e2 =>
      rw [if_pos e2]
      split at hs
      · split at hs
        · next e3 =>
          simp only [e3, if_true]
          exact mGo_sim hs
        · cases hs
      · cases hs
    · cases hs
theorem mCi_sim (H : simO φ O1 O2) {idx : Nat} {q : mR σ} (hs : mCi O1 y len pc l st S idx = some q) : mCi O2 y len pc l st (φ S) idx = some (qm φ q) := by
  unfold mCi at hs ⊢
  split at hs
  · next y1 e =>
    split at hs
    · next hc =>
      cases hs
      rw [if_pos hc]
      rfl
    · cases hs
  · split at hs
    · next k e =>
      split at hs
      · next e2 =>
        rw [if_pos e2]
        split at hs
        · split at hs
          · next e3 =>
            simp only [e3, if_true]
            exact mGo_sim hs
          · cases hs
        · cases hs
      · cases hs
    · split at hs
      · next e2 =>
        rw [if_pos e2]
        split at hs
        · split at hs
          · next e3 =>
            split at hs
            · next h1 e4 =>
              simp only [e3, if_true, H.2.2.2.2.2.2.2.1 _ _ _ _ _ _ _ e4]
              exact mGo_sim hs
            · cases hs
          · cases hs
        · cases hs
      · cases hs
set_option maxHeartbeats 4000000 in
theorem mIns_sim (H : simO φ O1 O2) (HX : simX X X1) {i : Instr} {q : mR σ} (hs : mIns O1 X y pc len l st S i = some q) : mIns O2 X1 y pc len l st (φ S) i = some (qm φ q) := by
  cases i with
  | iconst n =>
    change mGo 1 len pc l (.int (Int32.ofInt n) :: st) S = _ at hs
    exact mGo_sim hs
  | bipush n =>
    change mGo 2 len pc l (.int (Int8.ofInt n).toInt32 :: st) S = _ at hs
    exact mGo_sim hs
  | sipush n =>
    change mGo 3 len pc l (.int (Int16.ofInt n).toInt32 :: st) S = _ at hs
    exact mGo_sim hs
  | lconst n =>
    change mGo 1 len pc l (.long (Int64.ofNat (n : Nat)) :: st) S = _ at hs
    exact mGo_sim hs
  | aconst_null =>
    change mGo 1 len pc l (.null :: st) S = _ at hs
    exact mGo_sim hs
  | ldc idx =>
    change mCs 2 len y pc l st S idx false = _ at hs
    rcases mCs_inv hs with ⟨hw, v, e1, rfl, rfl⟩ | ⟨hw, v, e1, rfl, rfl⟩ <;> first | (cases hw; done) | simp [mIns, mCs, mGo, qm, e1]
  | ldc_w idx =>
    change mCs 3 len y pc l st S idx false = _ at hs
    rcases mCs_inv hs with ⟨hw, v, e1, rfl, rfl⟩ | ⟨hw, v, e1, rfl, rfl⟩ <;> first | (cases hw; done) | simp [mIns, mCs, mGo, qm, e1]
  | ldc2_w idx =>
    change mCs 3 len y pc l st S idx true = _ at hs
    rcases mCs_inv hs with ⟨hw, v, e1, rfl, rfl⟩ | ⟨hw, v, e1, rfl, rfl⟩ <;> first | (cases hw; done) | simp [mIns, mCs, mGo, qm, e1]
  | iload_n k =>
    change mLd 1 len pc l k st S isI = _ at hs
    obtain ⟨v, e1, e2, rfl, rfl⟩ := mLd_inv hs
    simp [mIns, mLd, mGo, qm, e1, e2]
  | iload k =>
    change mLd 2 len pc l k st S isI = _ at hs
    obtain ⟨v, e1, e2, rfl, rfl⟩ := mLd_inv hs
    simp [mIns, mLd, mGo, qm, e1, e2]
  | lload_n k =>
    change mLd 1 len pc l k st S isL = _ at hs
    obtain ⟨v, e1, e2, rfl, rfl⟩ := mLd_inv hs
    simp [mIns, mLd, mGo, qm, e1, e2]
  | lload k =>
    change mLd 2 len pc l k st S isL = _ at hs
    obtain ⟨v, e1, e2, rfl, rfl⟩ := mLd_inv hs
    simp [mIns, mLd, mGo, qm, e1, e2]
  | aload_n k =>
    change mLd 1 len pc l k st S isA = _ at hs
    obtain ⟨v, e1, e2, rfl, rfl⟩ := mLd_inv hs
    simp [mIns, mLd, mGo, qm, e1, e2]
  | aload k =>
    change mLd 2 len pc l k st S isA = _ at hs
    obtain ⟨v, e1, e2, rfl, rfl⟩ := mLd_inv hs
    simp [mIns, mLd, mGo, qm, e1, e2]
  | istore_n k =>
    change mStI 1 len pc l k st S = _ at hs
    obtain ⟨x, r, rfl, e1, rfl, rfl⟩ := mStI_inv hs
    simp [mIns, mStI, mGo, qm, e1]
  | istore k =>
    change mStI 2 len pc l k st S = _ at hs
    obtain ⟨x, r, rfl, e1, rfl, rfl⟩ := mStI_inv hs
    simp [mIns, mStI, mGo, qm, e1]
  | lstore_n k =>
    change mStL 1 len pc l k st S = _ at hs
    obtain ⟨x, r, rfl, e1, rfl, rfl⟩ := mStL_inv hs
    simp [mIns, mStL, mGo, qm, e1]
  | lstore k =>
    change mStL 2 len pc l k st S = _ at hs
    obtain ⟨x, r, rfl, e1, rfl, rfl⟩ := mStL_inv hs
    simp [mIns, mStL, mGo, qm, e1]
  | astore_n k =>
    change mStA 1 len pc l k st S = _ at hs
    obtain ⟨v, r, rfl, e0, e1, rfl, rfl⟩ := mStA_inv hs
    rcases e0 with rfl | ⟨a, rfl⟩ <;> simp [mIns, mStA, mGo, qm, e1]
  | astore k =>
    change mStA 2 len pc l k st S = _ at hs
    obtain ⟨v, r, rfl, e0, e1, rfl, rfl⟩ := mStA_inv hs
    rcases e0 with rfl | ⟨a, rfl⟩ <;> simp [mIns, mStA, mGo, qm, e1]
  | iinc k n =>
    change (match l[k]? with | some (some (.int x)) => mGo 3 len pc (mSt1 l k (.int (x + Int32.ofInt n))) st S | _ => none) = _ at hs
    split at hs
    · next x e1 =>
      obtain ⟨rfl, rfl⟩ := mGo_inv hs
      simp [mIns, mGo, qm, e1]
    · cases hs
  | iadd =>
    change mII len pc l st S (fun x y => x + y) = _ at hs
    obtain ⟨x, z, r, rfl, rfl, rfl⟩ := mII_inv hs
    rfl
  | isub =>
    change mII len pc l st S (fun x y => x - y) = _ at hs
    obtain ⟨x, z, r, rfl, rfl, rfl⟩ := mII_inv hs
    rfl
  | imul =>
    change mII len pc l st S (fun x y => x * y) = _ at hs
    obtain ⟨x, z, r, rfl, rfl, rfl⟩ := mII_inv hs
    rfl
  | iand =>
    change mII len pc l st S (fun x y => x &&& y) = _ at hs
    obtain ⟨x, z, r, rfl, rfl, rfl⟩ := mII_inv hs
    rfl
  | ior =>
    change mII len pc l st S (fun x y => x ||| y) = _ at hs
    obtain ⟨x, z, r, rfl, rfl, rfl⟩ := mII_inv hs
    rfl
  | ixor =>
    change mII len pc l st S (fun x y => x ^^^ y) = _ at hs
    obtain ⟨x, z, r, rfl, rfl, rfl⟩ := mII_inv hs
    rfl
  | ishl =>
    change mII len pc l st S (fun x y => x <<< (y &&& 31)) = _ at hs
    obtain ⟨x, z, r, rfl, rfl, rfl⟩ := mII_inv hs
    rfl
  | ishr =>
    change mII len pc l st S (fun x y => x >>> (y &&& 31)) = _ at hs
    obtain ⟨x, z, r, rfl, rfl, rfl⟩ := mII_inv hs
    rfl
  | iushr =>
    change mII len pc l st S (fun x y => (x.toUInt32 >>> (y.toUInt32 &&& Int32.toUInt32 31)).toInt32) = _ at hs
    obtain ⟨x, z, r, rfl, rfl, rfl⟩ := mII_inv hs
    rfl
  | idiv =>
    change mIZ len pc l st S (fun x y => x / y) = _ at hs
    obtain ⟨x, z, r, rfl, hz, rfl, rfl⟩ := mIZ_inv hs
    simp [mIns, mIZ, mGo, qm, hz]
  | irem =>
    change mIZ len pc l st S (fun x y => x - x / y * y) = _ at hs
    obtain ⟨x, z, r, rfl, hz, rfl, rfl⟩ := mIZ_inv hs
    simp [mIns, mIZ, mGo, qm, hz]
  | ineg =>
    change mI1 len pc l st S (fun x => .int (-x)) = _ at hs
    obtain ⟨x, r, rfl, rfl, rfl⟩ := mI1_inv hs
    rfl
  | ladd =>
    change mLL len pc l st S (fun x y => .long (x + y)) = _ at hs
    obtain ⟨x, z, r, rfl, rfl, rfl⟩ := mLL_inv hs
    rfl
  | lsub =>
    change mLL len pc l st S (fun x y => .long (x - y)) = _ at hs
    obtain ⟨x, z, r, rfl, rfl, rfl⟩ := mLL_inv hs
    rfl
  | lmul =>
    change mLL len pc l st S (fun x y => .long (x * y)) = _ at hs
    obtain ⟨x, z, r, rfl, rfl, rfl⟩ := mLL_inv hs
    rfl
  | land =>
    change mLL len pc l st S (fun x y => .long (x &&& y)) = _ at hs
    obtain ⟨x, z, r, rfl, rfl, rfl⟩ := mLL_inv hs
    rfl
  | lor =>
    change mLL len pc l st S (fun x y => .long (x ||| y)) = _ at hs
    obtain ⟨x, z, r, rfl, rfl, rfl⟩ := mLL_inv hs
    rfl
  | lcmp =>
    change mLL len pc l st S (fun x y => .int (lg_cmp x y)) = _ at hs
    obtain ⟨x, z, r, rfl, rfl, rfl⟩ := mLL_inv hs
    rfl
  | ldiv =>
    change mLZ len pc l st S (fun x y => .long (x / y)) = _ at hs
    obtain ⟨x, z, r, rfl, hz, rfl, rfl⟩ := mLZ_inv hs
    simp [mIns, mLZ, mGo, qm, hz]
  | lrem =>
    change mLZ len pc l st S (fun x y => .long (x - x / y * y)) = _ at hs
    obtain ⟨x, z, r, rfl, hz, rfl, rfl⟩ := mLZ_inv hs
    simp [mIns, mLZ, mGo, qm, hz]
  | lshl =>
    change mLI len pc l st S (fun x y => x <<< (y.toInt64 &&& 63)) = _ at hs
    obtain ⟨x, z, r, rfl, rfl, rfl⟩ := mLI_inv hs
    rfl
  | lshr =>
    change mLI len pc l st S (fun x y => x >>> (y.toInt64 &&& 63)) = _ at hs
    obtain ⟨x, z, r, rfl, rfl, rfl⟩ := mLI_inv hs
    rfl
  | lushr =>
    change mLI len pc l st S (fun x y => (x.toUInt64 >>> (y.toInt64.toUInt64 &&& Int64.toUInt64 63)).toInt64) = _ at hs
    obtain ⟨x, z, r, rfl, rfl, rfl⟩ := mLI_inv hs
    rfl
  | i2l =>
    change mI1 len pc l st S (fun x => .long x.toInt64) = _ at hs
    obtain ⟨x, r, rfl, rfl, rfl⟩ := mI1_inv hs
    rfl
  | i2b =>
    change mI1 len pc l st S (fun x => .int x.toInt8.toInt32) = _ at hs
    obtain ⟨x, r, rfl, rfl, rfl⟩ := mI1_inv hs
    rfl
  | i2c =>
    change mI1 len pc l st S (fun x => .int (x.toUInt32 % 65536).toInt32) = _ at hs
    obtain ⟨x, r, rfl, rfl, rfl⟩ := mI1_inv hs
    rfl
  | l2i =>
    change mL1 len pc l st S (fun x => .int x.toInt32) = _ at hs
    obtain ⟨x, r, rfl, rfl, rfl⟩ := mL1_inv hs
    rfl
  | dup =>
    change (match st with | v :: r => if v.category = 1 then mGo 1 len pc l (v :: v :: r) S else none | _ => none) = _ at hs
    split at hs
    · split at hs
      · next e1 =>
        obtain ⟨rfl, rfl⟩ := mGo_inv hs
        simp [mIns, mGo, qm, e1]
      · cases hs
    · cases hs
  | dup2 =>
    change (match st with | v :: w :: r => if v.category = 1 ∧ w.category = 1 then mGo 1 len pc l (v :: w :: v :: w :: r) S else none | _ => none) = _ at hs
    split at hs
    · split at hs
      · next e1 =>
        obtain ⟨rfl, rfl⟩ := mGo_inv hs
        simp [mIns, mGo, qm, e1]
      · cases hs
    · cases hs
  | pop =>
    change (match st with | v :: r => if v.category = 1 then mGo 1 len pc l (r) S else none | _ => none) = _ at hs
    split at hs
    · split at hs
      · next e1 =>
        obtain ⟨rfl, rfl⟩ := mGo_inv hs
        simp [mIns, mGo, qm, e1]
      · cases hs
    · cases hs
  | ifCond cc off =>
    change mIf cc len pc l st S off = _ at hs
    unfold mIf mJp at hs
    split at hs
    · split at hs
      · next e1 =>
        split at hs
        · next t e2 => cases hs; simp [mIns, mIf, mJp, qm, e1, e2]
        · cases hs
      · cases hs
    · cases hs
  | if_icmp cc off =>
    change mIc cc len pc l st S off = _ at hs
    unfold mIc mJp at hs
    split at hs
    · split at hs
      · next e1 =>
        split at hs
        · next t e2 => cases hs; simp [mIns, mIc, mJp, qm, e1, e2]
        · cases hs
      · cases hs
    · cases hs
  | ifnull off =>
    change mNl true len pc l st S off = _ at hs
    unfold mNl mJp at hs
    split at hs
    · split at hs
      · next e1 =>
        split at hs
        · next t e2 => cases hs; simp [mIns, mNl, mJp, qm, e1, e2]
        · cases hs
      · cases hs
    · split at hs
      · next e1 =>
        split at hs
        · next t e2 => cases hs; simp [mIns, mNl, mJp, qm, e1, e2]
        · cases hs
      · cases hs
    · cases hs
  | ifnonnull off =>
    change mNl false len pc l st S off = _ at hs
    unfold mNl mJp at hs
    split at hs
    · split at hs
      · next e1 =>
        split at hs
        · next t e2 => cases hs; simp [mIns, mNl, mJp, qm, e1, e2]
        · cases hs
      · cases hs
    · split at hs
      · next e1 =>
        split at hs
        · next t e2 => cases hs; simp [mIns, mNl, mJp, qm, e1, e2]
        · cases hs
      · cases hs
    · cases hs
  | goto off =>
    change mJp len pc l st S true off = _ at hs
    unfold mJp at hs
    split at hs
    · next e1 =>
      split at hs
      · next t e2 => cases hs; simp [mIns, mJp, qm, e1, e2]
      · cases hs
    · cases hs
  | tableswitch d lo hi os =>
    change mSw pc l st S d lo hi os = _ at hs
    unfold mSw at hs
    split at hs
    · split at hs
      · next o e1 =>
        split at hs
        · next t e2 => cases hs; simp [mIns, mSw, qm, e1, e2]
        · cases hs
      · cases hs
    · cases hs
  | iaload =>
    change mAl O1 X 0 len pc l st S = _ at hs
    change mAl O2 X1 0 len pc l st (φ S) = _
    unfold mAl at hs ⊢
    split at hs
    · next j a r =>
      split at hs
      · next ea =>
        split at hs
        · next e1 =>
          rw [if_pos ea]
          rcases HX with rfl | h0
          · rw [if_pos e1]; exact mGo_sim hs
          · rw [h0, inb_0] at e1; exact absurd e1.2 (by decide)
        · cases hs
      · next ea =>
        split at hs
        · next v e1 =>
          rw [if_neg ea, H.2.2.1 _ _ _ _ _ e1]
          exact mGo_sim hs
        · cases hs
    · cases hs
  | baload =>
    change mAl O1 X 1 len pc l st S = _ at hs
    change mAl O2 X1 1 len pc l st (φ S) = _
    unfold mAl at hs ⊢
    split at hs
    · next j a r =>
      split at hs
      · next ea =>
        split at hs
        · next e1 =>
          rw [if_pos ea]
          rcases HX with rfl | h0
          · rw [if_pos e1]; exact mGo_sim hs
          · rw [h0, inb_0] at e1; exact absurd e1.2 (by decide)
        · cases hs
      · next ea =>
        split at hs
        · next v e1 =>
          rw [if_neg ea, H.2.2.1 _ _ _ _ _ e1]
          exact mGo_sim hs
        · cases hs
    · cases hs
  | caload =>
    change mAl O1 X 2 len pc l st S = _ at hs
    change mAl O2 X1 2 len pc l st (φ S) = _
    unfold mAl at hs ⊢
    split at hs
    · next j a r =>
      split at hs
      · next ea =>
        split at hs
        · next e1 =>
          rw [if_pos ea]
          rcases HX with rfl | h0
          · rw [if_pos e1]; exact mGo_sim hs
          · rw [h0, inb_0] at e1; exact absurd e1.2 (by decide)
        · cases hs
      · next ea =>
        split at hs
        · next v e1 =>
          rw [if_neg ea, H.2.2.1 _ _ _ _ _ e1]
          exact mGo_sim hs
        · cases hs
    · cases hs
  | aaload =>
    change mAl O1 X 3 len pc l st S = _ at hs
    change mAl O2 X1 3 len pc l st (φ S) = _
    unfold mAl at hs ⊢
    split at hs
    · next j a r =>
      split at hs
      · next ea =>
        split at hs
        · next e1 =>
          rw [if_pos ea]
          rcases HX with rfl | h0
          · rw [if_pos e1]; exact mGo_sim hs
          · rw [h0, inb_0] at e1; exact absurd e1.2 (by decide)
        · cases hs
      · next ea =>
        split at hs
        · next v e1 =>
          rw [if_neg ea, H.2.2.1 _ _ _ _ _ e1]
          exact mGo_sim hs
        · cases hs
    · cases hs
  | iastore =>
    change mAs O1 0 len pc l st S = _ at hs
    obtain ⟨v, j, a, r, h1, rfl, rfl, e1, rfl⟩ := mAs_inv hs
    simp [mIns, mAs, mGo, qm, H.2.2.2.1 _ _ _ _ _ _ e1]
  | bastore =>
    change mAs O1 1 len pc l st S = _ at hs
    obtain ⟨v, j, a, r, h1, rfl, rfl, e1, rfl⟩ := mAs_inv hs
    simp [mIns, mAs, mGo, qm, H.2.2.2.1 _ _ _ _ _ _ e1]
  | castore =>
    change mAs O1 2 len pc l st S = _ at hs
    obtain ⟨v, j, a, r, h1, rfl, rfl, e1, rfl⟩ := mAs_inv hs
    simp [mIns, mAs, mGo, qm, H.2.2.2.1 _ _ _ _ _ _ e1]
  | aastore =>
    change mAs O1 3 len pc l st S = _ at hs
    obtain ⟨v, j, a, r, h1, rfl, rfl, e1, rfl⟩ := mAs_inv hs
    simp [mIns, mAs, mGo, qm, H.2.2.2.1 _ _ _ _ _ _ e1]
  | arraylength =>
    change mAn O1 X len pc l st S = _ at hs
    change mAn O2 X1 len pc l st (φ S) = _
    unfold mAn at hs ⊢
    split at hs
    · next a r =>
      split at hs
      · next ea =>
        split at hs
        · cases hs
        · next e1 =>
          rw [if_pos ea]
          rcases HX with rfl | h0
          · rw [if_neg e1]; exact mGo_sim hs
          · exact absurd h0 e1
      · next ea =>
        split at hs
        · next v e1 =>
          rw [if_neg ea, H.2.2.2.2.1 _ _ _ e1]
          exact mGo_sim hs
        · cases hs
    · cases hs
  | newarray at1 =>
    cases at1 with
    | int =>
      change mNa O1 2 0 len pc l st S = _ at hs
      obtain ⟨n, r, z, rfl, e1, rfl, rfl⟩ := mNa_inv hs
      simp [mIns, mNa, mGo, qm, H.2.2.2.2.2.2.1 _ _ _ _ e1]
    | boolean =>
      change mNa O1 2 1 len pc l st S = _ at hs
      obtain ⟨n, r, z, rfl, e1, rfl, rfl⟩ := mNa_inv hs
      simp [mIns, mNa, mGo, qm, H.2.2.2.2.2.2.1 _ _ _ _ e1]
    | char =>
      change mNa O1 2 2 len pc l st S = _ at hs
      obtain ⟨n, r, z, rfl, e1, rfl, rfl⟩ := mNa_inv hs
      simp [mIns, mNa, mGo, qm, H.2.2.2.2.2.2.1 _ _ _ _ e1]
    | byte =>
      change mNa O1 2 3 len pc l st S = _ at hs
      obtain ⟨n, r, z, rfl, e1, rfl, rfl⟩ := mNa_inv hs
      simp [mIns, mNa, mGo, qm, H.2.2.2.2.2.2.1 _ _ _ _ e1]
    | _ => cases hs
  | anewarray idx =>
    change (if mAt (mOwn y) idx then mNa O1 3 4 len pc l st S else none) = _ at hs
    split at hs
    · next e0 =>
      obtain ⟨n, r, z, rfl, e1, rfl, rfl⟩ := mNa_inv hs
      simp [mIns, mNa, mGo, qm, e0, H.2.2.2.2.2.2.1 _ _ _ _ e1]
    · cases hs
  | getfield idx =>
    change mGf O1 y len pc l st S idx = _ at hs
    obtain ⟨a, r, z, v, rfl, e1, e2, rfl, rfl⟩ := mGf_inv hs
    simp [mIns, mGf, mGo, qm, e1, H.1 _ _ _ _ _ e2]
  | putfield idx =>
    change mPf O1 y len pc l st S idx = _ at hs
    obtain ⟨v, a, r, z, h1, rfl, e1, e3, e2, rfl, rfl⟩ := mPf_inv hs
    simp only [mIns, mPf, e1, e3, H.2.1 _ _ _ _ _ _ e2]
    rfl
  | new idx =>
    change mNw O1 y len pc l st S idx = _ at hs
    obtain ⟨ci, z, e1, e2, rfl, rfl⟩ := mNw_inv hs
    simp [mIns, mNw, mGo, qm, e1, H.2.2.2.2.2.1 _ _ _ e2]
  | invokevirtual idx =>
    change mCv O1 false y len pc l st S idx = _ at hs
    exact mCv_sim H hs
  | invokespecial idx =>
    change mCv O1 true y len pc l st S idx = _ at hs
    exact mCv_sim H hs
  | invokestatic idx =>
    change mCi O1 y len pc l st S idx = _ at hs
    exact mCi_sim H hs
  | ireturn =>
    simp only [mIns] at hs ⊢
    split at hs
    · split at hs
      · next e1 => cases hs; simp [e1, qm]
      · cases hs
    · cases hs
  | lreturn =>
    simp only [mIns] at hs ⊢
    split at hs
    · split at hs
      · next e1 => cases hs; simp [e1, qm]
      · cases hs
    · cases hs
  | return_ =>
    simp only [mIns] at hs ⊢
    split at hs
    · split at hs
      · next e1 => cases hs; simp [e1, qm]
      · cases hs
    · cases hs
  | areturn =>
    simp only [mIns] at hs ⊢
    split at hs
    · split at hs
      · next e1 => cases hs; simp [e1, qm]
      · cases hs
    · split at hs
      · next e1 => cases hs; simp [e1, qm]
      · cases hs
    · cases hs
  | _ => first | (cases hs; done) | (simp [mIns] at hs; done)
theorem mRun_sim (H : simO φ O1 O2) (HX : simX X X1) : ∀ (n : Nat) {y pc : Nat} {l : mL} {st : List Value} {S S1 : σ} {v : Option Value}, mRun O1 X n y pc l st S = some (v, S1) → mRun O2 X1 n y pc l st (φ S) = some (v, φ S1) := by
  intro n
  induction n with
  | zero => intro y pc l st S S1 v hr; simp [mRun] at hr
  | succ n ih =>
    intro y pc l st S S1 v hr
    rw [mRun] at hr ⊢
    cases hs : mStep O1 X y pc (mM y pc l) st S with
    | none => rw [hs] at hr; cases hr
    | some q =>
      rw [hs] at hr
      have h2 : mStep O2 X1 y pc (mM y pc l) st (φ S) = some (qm φ q) := by
        unfold mStep at hs ⊢
        split at hs
        · exact mIns_sim H HX hs
        · cases hs
      rw [h2]
      rcases q with ⟨pc1, l1, st1, h1⟩ | ⟨v1, h1⟩ | ⟨y1, as, pc1, l1, st1, h1⟩
      · exact ih hr
      · cases hr; rfl
      · dsimp only [qm] at hr ⊢
        cases hc : mRun O1 X n y1 0 (mEnt as (mMx y1)) [] h1 with
        | none => rw [hc] at hr; cases hr
        | some z =>
          obtain ⟨v1, h3⟩ := z
          rw [hc] at hr
          rw [ih hc]
          exact ih hr
end SIM
theorem sim_SH : simO hO oS oH := ⟨fun _ _ _ _ _ h => sGf_ok h, fun _ _ _ _ _ _ h => sPf_ok h, fun _ _ _ _ _ h => sLd_ok h, fun _ _ _ _ _ _ h => sSt_ok h, fun _ _ _ h => sLn_ok h, fun _ _ _ h => (by cases h), fun _ _ _ _ h => (by cases h), fun _ _ _ _ _ _ _ h => sCp_ok h, fun _ _ _ h => sCl_ok h⟩
theorem sim_id {σ : Type} (O : mO σ) : simO (fun S : σ => S) O O := ⟨fun _ _ _ _ _ h => h, fun _ _ _ _ _ _ h => h, fun _ _ _ _ _ h => h, fun _ _ _ _ _ _ h => h, fun _ _ _ h => h, fun _ _ _ h => h, fun _ _ _ _ h => h, fun _ _ _ _ _ _ _ h => h, fun _ _ _ h => h⟩
def X0 : mX := (0, fun _ => 0)
/-- the value of a call does not hang on the script -/
theorem mV_X {X : mX} {y pc : Nat} {l : mL} {st : List Value} {S : Mem} {r : Option Value × Mem} (h : mV oS X0 y pc l st S = some r) : mV oS X y pc l st S = some r := by
  obtain ⟨n, hn⟩ := (mV_iff oS X0 y pc l st S r).mp h
  exact (mV_iff oS X y pc l st S r).mpr ⟨n, mRun_sim (sim_id oS) (Or.inr rfl) n hn⟩
