/-! small numbers in 32 bits: comparisons, indices, bits (nI, lN: the kit's) -/
theorem zlt {a b : Nat} (ha : a < 2147483648) (hb : b < 2147483648) : (nI a < nI b) = (a < b) := propext (Int32.ofNat_lt_iff_lt ha hb)
theorem zle {a b : Nat} (ha : a < 2147483648) (hb : b < 2147483648) : (nI a ≤ nI b) = (a ≤ b) := propext (Int32.ofNat_le_iff_le ha hb)
theorem ztn {a : Nat} (ha : a < 2147483648) : (nI a).toNatClampNeg = a := Int32.toNatClampNeg_ofNat_of_lt ha
theorem zeq {a b : Nat} (ha : a < 2147483648) (hb : b < 2147483648) : (nI a = nI b) = (a = b) := propext ⟨fun h => by rw [← ztn ha, ← ztn hb, h], fun h => by rw [h]⟩
theorem zadd (a b : Nat) : nI a + nI b = nI (a + b) := (Int32.ofNat_add a b).symm
theorem zmul (a b : Nat) : nI a * nI b = nI (a * b) := (Int32.ofNat_mul a b).symm
theorem zsub {a b : Nat} (h : b ≤ a) : nI a - nI b = nI (a - b) := (Int32.ofNat_sub a b h).symm
theorem znlt0 {a : Nat} (ha : a < 2147483648) : ¬ nI a < (0 : Int32) := by
  have h := zlt (b := 0) ha (by omega)
  show ¬ nI a < nI 0
  rw [h]; omega
theorem zin {a n : Nat} (ha : a < 2147483648) : (inb (nI a) n = true) = (a < n) := by
  unfold inb
  rw [ztn ha, decide_eq_false (znlt0 ha)]
  simp
theorem zzb {a : Nat} (ha : a < 2147483648) : (zb (nI a) = true) = (a ≤ 1) := by
  have h0 : (nI a = (0 : Int32)) = (a = 0) := zeq (b := 0) ha (by omega)
  have h1 : (nI a = (1 : Int32)) = (a = 1) := zeq (b := 1) ha (by omega)
  unfold zb
  simp only [h0, h1, Bool.or_eq_true, decide_eq_true_eq]
  exact propext ⟨fun h => by omega, fun h => by omega⟩
theorem zL0 : (0 : Int32) = nI 0 := rfl
theorem zL1 : (1 : Int32) = nI 1 := rfl
theorem zL2 : (2 : Int32) = nI 2 := rfl
theorem zL3 : (3 : Int32) = nI 3 := rfl
theorem zL4 : (4 : Int32) = nI 4 := rfl
theorem zL5 : (5 : Int32) = nI 5 := rfl
theorem zL6 : (6 : Int32) = nI 6 := rfl
theorem zL7 : (7 : Int32) = nI 7 := rfl
theorem zL8 : (8 : Int32) = nI 8 := rfl
theorem zL9 : (9 : Int32) = nI 9 := rfl
theorem zL10 : (10 : Int32) = nI 10 := rfl
theorem zL12 : (12 : Int32) = nI 12 := rfl
theorem zL20 : (20 : Int32) = nI 20 := rfl
theorem zL30 : (30 : Int32) = nI 30 := rfl
theorem zL31 : (31 : Int32) = nI 31 := rfl
theorem zL32 : (32 : Int32) = nI 32 := rfl
theorem zL44 : (44 : Int32) = nI 44 := rfl
theorem zL48 : (48 : Int32) = nI 48 := rfl
theorem zL49 : (49 : Int32) = nI 49 := rfl
theorem zL50 : (50 : Int32) = nI 50 := rfl
theorem zL56 : (56 : Int32) = nI 56 := rfl
theorem zL59 : (59 : Int32) = nI 59 := rfl
theorem zL60 : (60 : Int32) = nI 60 := rfl
theorem zL61 : (61 : Int32) = nI 61 := rfl
theorem zL64 : (64 : Int32) = nI 64 := rfl
theorem zL65 : (65 : Int32) = nI 65 := rfl
theorem zL97 : (97 : Int32) = nI 97 := rfl
theorem zL99 : (99 : Int32) = nI 99 := rfl
theorem zL100 : (100 : Int32) = nI 100 := rfl
theorem zL101 : (101 : Int32) = nI 101 := rfl
theorem zL102 : (102 : Int32) = nI 102 := rfl
theorem zL103 : (103 : Int32) = nI 103 := rfl
theorem zL104 : (104 : Int32) = nI 104 := rfl
theorem zL111 : (111 : Int32) = nI 111 := rfl
theorem zL119 : (119 : Int32) = nI 119 := rfl
theorem zL126 : (126 : Int32) = nI 126 := rfl
theorem zL255 : (255 : Int32) = nI 255 := rfl
theorem zL512 : (512 : Int32) = nI 512 := rfl
theorem zL617 : (617 : Int32) = nI 617 := rfl
theorem zL65535 : (65535 : Int32) = nI 65535 := rfl
theorem zL65536 : (65536 : Int32) = nI 65536 := rfl
theorem zL1048576 : (1048576 : Int32) = nI 1048576 := rfl
theorem zi0 {c : Prop} [Decidable c] : (nI (if c then 1 else 0) = nI 0) = ¬ c := by
  by_cases h : c
  · rw [if_pos h, zeq (by omega) (by omega)]; exact propext ⟨fun q => by omega, fun q => absurd h q⟩
  · rw [if_neg h]; exact propext ⟨fun _ => h, fun _ => rfl⟩
theorem zi1 {c : Prop} [Decidable c] : (nI (if c then 1 else 0) = nI 1) = c := by
  by_cases h : c
  · rw [if_pos h]; exact propext ⟨fun _ => h, fun _ => rfl⟩
  · rw [if_neg h, zeq (by omega) (by omega)]; exact propext ⟨fun q => by omega, fun q => absurd q h⟩
/-! minus one: NONE -/
theorem zni {a : Nat} (ha : a < 2147483648) : (nI a).toInt = (a : Int) := Int32.toInt_ofNat_of_lt ha
theorem zmi : (-nI 1).toInt = -1 := by decide
theorem zmi2 : (-nI 101).toInt = -101 ∧ (-nI 102).toInt = -102 ∧ (-nI 103).toInt = -103 ∧ (-nI 104).toInt = -104 := by decide
theorem zm_lt {a : Nat} (ha : a < 2147483648) : (nI a < -nI 1) = False := by
  rw [Int32.lt_iff_toInt_lt, zni ha, zmi]; exact eq_false (by omega)
theorem zm_gt {a : Nat} (ha : a < 2147483648) : (-nI 1 < nI a) = True := by
  rw [Int32.lt_iff_toInt_lt, zni ha, zmi]; exact eq_true (by omega)
theorem zm_le {a : Nat} (ha : a < 2147483648) : (nI a ≤ -nI 1) = False := by
  rw [Int32.le_iff_toInt_le, zni ha, zmi]; exact eq_false (by omega)
theorem zm_ge {a : Nat} (ha : a < 2147483648) : (-nI 1 ≤ nI a) = True := by
  rw [Int32.le_iff_toInt_le, zni ha, zmi]; exact eq_true (by omega)
theorem zm_eq {a : Nat} (ha : a < 2147483648) : (nI a = -nI 1) = False := by
  refine eq_false fun h => ?_
  have h2 := congrArg Int32.toInt h
  rw [zni ha, zmi] at h2
  omega
theorem zm_eq' {a : Nat} (ha : a < 2147483648) : (-nI 1 = nI a) = False := by
  refine eq_false fun h => ?_
  have h2 := congrArg Int32.toInt h
  rw [zni ha, zmi] at h2
  omega
theorem zm_in (n : Nat) : (inb (-nI 1) n = true) = False := by
  unfold inb
  simp [decide_eq_true (show -nI 1 < (0 : Int32) by decide)]
theorem zpred {a : Nat} : nI (a + 1) - nI 1 = nI a := by rw [zsub (by omega)]; rfl
theorem zdec {a : Nat} : nI (a + 1) + -nI 1 = nI a := by
  rw [← Int32.sub_eq_add_neg]; exact zpred
theorem z0m : nI 0 - nI 1 = -nI 1 := by decide
/-! a number from outside -/
theorem zcase (x : Int32) : x < nI 0 ∨ ∃ n : Nat, n < 2147483648 ∧ x = nI n := by
  by_cases h : x < nI 0
  · exact Or.inl h
  · refine Or.inr ⟨x.toNatClampNeg, Int32.toNatClampNeg_lt x, ?_⟩
    have h0 : (0 : Int32) ≤ x := by
      rw [Int32.le_iff_toInt_le]
      rw [Int32.lt_iff_toInt_lt] at h
      have e0 : (nI 0).toInt = (0 : Int32).toInt := rfl
      rw [e0] at h
      omega
    exact (Int32.ofNat_toNatClampNeg x h0).symm
theorem zn_t {x : Int32} (h : x < nI 0) : x.toInt < 0 := by
  rw [Int32.lt_iff_toInt_lt, zni (by omega)] at h; simpa using h
theorem zn_lt {x : Int32} (h : x < nI 0) {a : Nat} (ha : a < 2147483648) : (x < nI a) = True := by
  have := zn_t h
  rw [Int32.lt_iff_toInt_lt, zni ha]; exact eq_true (by omega)
theorem zn_le {x : Int32} (h : x < nI 0) {a : Nat} (ha : a < 2147483648) : (x ≤ nI a) = True := by
  have := zn_t h
  rw [Int32.le_iff_toInt_le, zni ha]; exact eq_true (by omega)
theorem zn_gt {x : Int32} (h : x < nI 0) {a : Nat} (ha : a < 2147483648) : (nI a < x) = False := by
  have := zn_t h
  rw [Int32.lt_iff_toInt_lt, zni ha]; exact eq_false (by omega)
theorem zn_ge {x : Int32} (h : x < nI 0) {a : Nat} (ha : a < 2147483648) : (nI a ≤ x) = False := by
  have := zn_t h
  rw [Int32.le_iff_toInt_le, zni ha]; exact eq_false (by omega)
theorem zn_eq {x : Int32} (h : x < nI 0) {a : Nat} (ha : a < 2147483648) : (x = nI a) = False := by
  refine eq_false fun e => ?_
  have := zn_t h
  rw [e, zni ha] at this
  omega
/-! cells -/
theorem zuS {S : Mem} {a k b j : Nat} {x : Int32} (h : b = a ∧ j = k) : (u1 S a k x).1 b j = x := if_pos h
theorem zuN {S : Mem} {a k b j : Nat} {x : Int32} (h : ¬ (b = a ∧ j = k)) : (u1 S a k x).1 b j = S.1 b j := if_neg h
theorem zu2 {S : Mem} {a k : Nat} {x : Int32} : (u1 S a k x).2 = S.2 := rfl
theorem zv1 {S : Mem} {a k : Nat} {x : Int64} : (u2 S a k x).1 = S.1 := rfl
theorem zvS {S : Mem} {a k b j : Nat} {x : Int64} (h : b = a ∧ j = k) : (u2 S a k x).2 b j = x := if_pos h
theorem zvN {S : Mem} {a k b j : Nat} {x : Int64} (h : ¬ (b = a ∧ j = k)) : (u2 S a k x).2 b j = S.2 b j := if_neg h
theorem zwN {S : Mem} {a b : Nat} {f : Nat → Int32} (h : ¬ b = a) : (u3 S a f).1 b = S.1 b := if_neg h
theorem zwS {S : Mem} {a : Nat} {f : Nat → Int32} : (u3 S a f).1 a = f := if_pos rfl
theorem zw2 {S : Mem} {a : Nat} {f : Nat → Int32} : (u3 S a f).2 = S.2 := rfl
/-! bits -/
theorem zor (a b : Nat) : nI a ||| nI b = nI (a ||| b) := by
  apply Int32.toBitVec_inj.1
  exact BitVec.ofNat_or.symm
theorem zand (a b : Nat) : nI a &&& nI b = nI (a &&& b) := by
  apply Int32.toBitVec_inj.1
  exact BitVec.ofNat_and.symm
theorem zsk : ∀ n, n < 32 → ((nI n &&& nI 31).toBitVec.smod 32).toNat = n := by decide +kernel
theorem zsh {a : Nat} (h : a < 31) : nI 1 <<< (nI a &&& nI 31) = nI (2 ^ a) := by
  have e := pk_shlN (n := 1) (nI a &&& nI 31) a (zsk a (by omega)) (by
    have : 2 ^ a < 2 ^ 32 := Nat.pow_lt_pow_right (by decide) (by omega)
    omega)
  rw [e, Nat.one_mul]
theorem zshr {g i : Nat} (hg : g < 2147483648) (hi : i < 32) : nI g >>> (nI i &&& nI 31) = nI (g / 2 ^ i) := pk_shrN (by exact hg) _ i (zsk i hi)
theorem zbit {g i : Nat} (hg : g < 2147483648) (hi : i < 32) : (nI g >>> (nI i &&& nI 31)) &&& nI 1 = nI (if g.testBit i then 1 else 0) := by
  rw [zshr hg hi, zand, Nat.and_one_is_mod]
  congr 1
  rw [Nat.testBit_eq_decide_div_mod_eq]
  by_cases h : g / 2 ^ i % 2 = 1
  · simp [h]
  · simp [h]; omega
theorem zor_lt {a b : Nat} (ha : a < 2147483648) (hb : b < 2147483648) : a ||| b < 2147483648 := Nat.or_lt_two_pow (n := 31) ha hb
theorem zp_lt {a : Nat} (ha : a < 31) : 2 ^ a < 2147483648 := Nat.pow_lt_pow_right (n := 31) (by decide) ha
