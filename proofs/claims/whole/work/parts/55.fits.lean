/-! FITS by the class -/
def dg (c k : Nat) : Nat := c / 10 ^ k % 10
theorem dg_lt (c k : Nat) : dg c k < 10 := Nat.mod_lt _ (by decide)
theorem dg_0 {a b c : Nat} (ha : a < 10) (hb : b < 10) : dg (a + 10 * b + 100 * c) 0 = a := by
  unfold dg; rw [Nat.pow_zero, Nat.div_one]; omega
theorem dg_1 {a b c : Nat} (ha : a < 10) (hb : b < 10) : dg (a + 10 * b + 100 * c) 1 = b := by
  unfold dg; rw [Nat.pow_one]; omega
theorem dg_2 {a b c : Nat} (ha : a < 10) (hb : b < 10) (hc : c < 10) : dg (a + 10 * b + 100 * c) 2 = c := by
  unfold dg; rw [show (10 : Nat) ^ 2 = 100 from rfl]; omega
def Lc (D : DD) (set c j : Nat) : Nat := if set.testBit j then dg c (bc set j) else D 62 j
def okc (D : DD) (set c : Nat) : Bool := (fo (qs 31) (mp (dS D 62 (Lc D set c))) 60 1 D).isNone
def fitsN (D : DD) (set : Nat) : Nat := sm (fun c => if okc D set c then 1 else 0) (10 ^ bc set 5)
theorem bc_mono {g : Nat} {i : Nat} : ∀ {j : Nat}, i ≤ j → bc g i ≤ bc g j
  | 0, h => by rw [show i = 0 by omega]; exact Nat.le_refl _
  | j + 1, h => by
    by_cases e : i = j + 1
    · rw [e]; exact Nat.le_refl _
    · have := bc_mono (g := g) (i := i) (j := j) (by omega)
      have e2 : bc g (j + 1) = bc g j + (if g.testBit j then 1 else 0) := rfl
      rw [e2]; omega
section FI
variable {D : DD} {set : Nat}
def sk (D : DD) (set : Nat) (M : Nat → Nat) (k c : Nat) : Bool := if k < bc set 5 then sok D (M (mem set k)) (bh set (mem set k)) (mem set k) (dg c k) (Lc D set c) 5 else true
theorem mp_Lc (i j c : Nat) : mp (dS D 62 (Lc D set c)) i j = lp D i (Lc D set c i) j (Lc D set c j) := rfl
theorem Lc_mem (hs : set < 32) {k : Nat} (h : k < bc set 5) (c : Nat) : Lc D set c (mem set k) = dg c k := by
  have hb := bc_le set 5
  obtain ⟨a1, a2, a3⟩ := mem_ok set hs k (by omega) h
  unfold Lc
  rw [if_pos a2, a3]
theorem okc_iff (hd : okD D) (hs : set < 32) (h3 : bc set 5 ≤ 3) (hW : ∀ i, set.testBit i = true → i < D 55 7) {M : Nat → Nat} (hM : ∀ i j, i < 5 → j < 5 → (M i).testBit j = me (pfr D set) 60 D i j) (c : Nat) : okc D set c = true ↔ ga (pfr D set) 60 D = 0 ∧ ∀ k, k < 3 → sk D set M k c = true := by
  have w5 := hd.2.1.1
  have hfree := free_all (P := mp (dS D 62 (Lc D set c))) (P' := pfr D set) (F := fun i => set.testBit i) (W := D 55 7) (fun i j => mp_sym _ i j) (fun i j hi hj f1 f2 => by
      unfold pfr mpx
      rw [f1, f2, if_pos ⟨hi, hj⟩, mp_Lc, lp_mp]
      unfold Lc
      rw [f1, f2]
      rfl) (fun i j h => by
      unfold pfr
      rcases h with h | h
      · rw [h]; simp
      · rw [h]; simp) 60 1 D hd.1 w5 rfl
  unfold okc
  rw [isNone_iff, hfree]
  refine and_congr_right (fun _ => ⟨fun h k hk => ?_, fun h i j hF hme => ?_⟩)
  · unfold sk
    by_cases ck : k < bc set 5
    · rw [if_pos ck, sok_iff]
      intro j hj hjw hm hb
      obtain ⟨a1, a2, a3⟩ := mem_ok set hs k (by omega) ck
      rw [hM _ _ a1 hj] at hm
      have := h (mem set k) j (Or.inl a2) hm
      rw [mp_Lc, Lc_mem hs ck] at this
      exact this
    · rw [if_neg ck]
  · have hlt := me_lt _ _ _ _ hme
    have hsy : me (pfr D set) 60 D j i = true := by rw [me_sym]; exact hme
    have one : ∀ i j, set.testBit i = true → i < D 55 7 → j < D 55 7 → me (pfr D set) 60 D i j = true → (bh set i).testBit j = false → mp (dS D 62 (Lc D set c)) i j = true := by
      intro i j hi hiw hjw hm hb
      obtain ⟨a1, a2⟩ := mem_of set hs i (by omega) hi
      have hk := h (bc set i) (by omega)
      unfold sk at hk
      rw [if_pos a1, sok_iff, a2] at hk
      have := hk j (by omega) hjw (by rw [hM _ _ (by omega) (by omega)]; exact hm) hb
      rw [mp_Lc, show Lc D set c i = dg c (bc set i) from if_pos hi]
      exact this
    cases hFi : set.testBit i
    · have hFj : set.testBit j = true := by
        rcases hF with q | q
        · rw [hFi] at q; cases q
        · exact q
      rw [mp_sym]
      exact one j i hFj hlt.2 hlt.1 hsy (by rw [bh_bit set hs j (by omega) i (by omega), hFi]; rfl)
    · cases hbj : (bh set i).testBit j
      · exact one i j hFi hlt.1 hlt.2 hme hbj
      · rw [bh_bit set hs i (by omega) j (by omega), Bool.and_eq_true, decide_eq_true_eq] at hbj
        rw [mp_sym]
        exact one j i hbj.1 hlt.2 hlt.1 hsy (by rw [bh_bit set hs j (by omega) i (by omega), hFi, decide_eq_false (by omega)]; rfl)
/-- the trial loads agree with a code's first kk digits, and with the loads outside of the set -/
def agr (D : DD) (set kk : Nat) (T : Nat → Nat) (c : Nat) : Prop := (∀ j, j < 5 → j < D 55 7 → set.testBit j = false → T j = D 62 j) ∧ (∀ k, k < kk → k < bc set 5 → T (mem set k) = dg c k)
theorem agr_le {kk kk' : Nat} {T : Nat → Nat} {c c' : Nat} (h : agr D set kk T c) (hk : kk' ≤ kk) (hc : ∀ k, k < kk' → dg c k = dg c' k) : agr D set kk' T c' := ⟨h.1, fun k h1 h2 => by rw [h.2 k (by omega) h2, hc k h1]⟩
theorem agr_up (hs : set < 32) {k : Nat} (hk : k < bc set 5) {T : Nat → Nat} {c : Nat} (h : agr D set k T c) : agr D set (k + 1) (dU T (mem set k) (dg c k)) c := by
  have hb := bc_le set 5
  obtain ⟨a1, a2, a3⟩ := mem_ok set hs k (by omega) hk
  refine ⟨fun j hj hw hf => ?_, fun q h1 h2 => ?_⟩
  · have : j ≠ mem set k := fun e => by rw [e, a2] at hf; cases hf
    rw [dU_n this]; exact h.1 j hj hw hf
  · by_cases e : q = k
    · rw [e, dU_s rfl]
    · obtain ⟨b1, b2, b3⟩ := mem_ok set hs q (by omega) h2
      have : mem set q ≠ mem set k := fun w => by rw [w, a3] at b3; exact e b3.symm
      rw [dU_n this]; exact h.2 q (by omega) h2
theorem sok_ext {Mi B i v : Nat} {T T' : Nat → Nat} {n : Nat} (h : ∀ j, j < n → j < D 55 7 → B.testBit j = false → T j = T' j) : sok D Mi B i v T n = sok D Mi B i v T' n := by
  rw [Bool.eq_iff_iff, sok_iff, sok_iff]
  constructor
  · intro q j h1 h2 h3 h4; rw [← h j h1 h2 h4]; exact q j h1 h2 h3 h4
  · intro q j h1 h2 h3 h4; rw [h j h1 h2 h4]; exact q j h1 h2 h3 h4
theorem sok_agr (hs : set < 32) {k : Nat} (hk : k < bc set 5) {M T : Nat → Nat} {c : Nat} (h : agr D set (k + 1) T c) : sok D (M (mem set k)) (bh set (mem set k)) (mem set k) (dg c k) T 5 = sk D set M k c := by
  have hb := bc_le set 5
  obtain ⟨a1, a2, a3⟩ := mem_ok set hs k (by omega) hk
  unfold sk
  rw [if_pos hk]
  refine sok_ext (fun j hj hw hB => ?_)
  rw [bh_bit set hs _ a1 j hj] at hB
  unfold Lc
  cases hF : set.testBit j
  · exact h.1 j hj hw hF
  · rw [hF, Bool.true_and, decide_eq_false_iff_not] at hB
    obtain ⟨b1, b2⟩ := mem_of set hs j hj hF
    have hle := bc_mono (g := set) (i := j) (j := mem set k) (by omega)
    rw [a3] at hle
    have := h.2 (bc set j) (by omega) b1
    rw [b2] at this
    rw [this]; rfl
/-- what stands of the ways seen: Q -/
def WK (set : Nat) (Q : Nat → Prop) (k : Nat) (S : Mem) : Prop := ∃ lo hi, S.1 50 (mem set k) = nI lo ∧ S.1 51 (mem set k) = nI hi ∧ lo ≤ 20 ∧ hi ≤ 20 ∧ (∀ c, Q c → lo ≤ dg c k ∧ dg c k ≤ hi) ∧ ((∃ c, Q c) → (∃ c, Q c ∧ dg c k = lo) ∧ (∃ c, Q c ∧ dg c k = hi)) ∧ ((∀ c, ¬ Q c) → lo = 20 ∧ hi = 0)
def WI (set : Nat) (Q : Nat → Prop) (n : Nat) (S : Mem) : Prop := S.1 47 7 = nI n ∧ ∀ k, k < bc set 5 → WK set Q k S
theorem WK_cong {Q Q' : Nat → Prop} {k : Nat} {S : Mem} (h : WK set Q k S) (e : ∀ c, Q c ↔ Q' c) : WK set Q' k S := by
  obtain ⟨lo, hi, h1, h2, h3, h4, h5, h6, h7⟩ := h
  refine ⟨lo, hi, h1, h2, h3, h4, fun c hc => h5 c ((e c).mpr hc), fun ⟨c, hc⟩ => ?_, fun hn => h7 (fun c hc => hn c ((e c).mp hc))⟩
  obtain ⟨⟨c1, a1, a2⟩, ⟨c2, b1, b2⟩⟩ := h6 ⟨c, (e c).mpr hc⟩
  exact ⟨⟨c1, (e c1).mp a1, a2⟩, ⟨c2, (e c2).mp b1, b2⟩⟩
theorem WI_cong {Q Q' : Nat → Prop} {n : Nat} {S : Mem} (h : WI set Q n S) (e : ∀ c, Q c ↔ Q' c) : WI set Q' n S := ⟨h.1, fun k hk => WK_cong (h.2 k hk) e⟩
theorem WK_fr {Q : Nat → Prop} {k : Nat} {S S' : Mem} (h : WK set Q k S) (e : ∀ j, S'.1 50 j = S.1 50 j ∧ S'.1 51 j = S.1 51 j) : WK set Q k S' := by
  obtain ⟨lo, hi, h1, h2, h3⟩ := h
  exact ⟨lo, hi, by rw [(e _).1]; exact h1, by rw [(e _).2]; exact h2, h3⟩
theorem cl_note (hs : set < 32) (h3 : bc set 5 ≤ 3) {T M : Nat → Nat} {n c0 : Nat} {Q : Nat → Prop} {S : Mem} (hL : LSt set T M S) (hW : WI set Q n S) (hT : ∀ k, k < bc set 5 → T (mem set k) = dg c0 k) : ∃ S', f_Loads_note S = some S' ∧ frY S S' ∧ (∀ k, S'.1 48 k = S.1 48 k) ∧ WI set (fun c => Q c ∨ c = c0) (n + 1) S' := by
  obtain ⟨L1, L2, L3, L4, L5⟩ := hL
  obtain ⟨w7, wk⟩ := hW
  obtain ⟨S1, e1, f1, f48, p7, pn, po⟩ := zfor (fun k S => k_Loads_note_12 (nI k) S) (bc set 5) (fun k S1 => frY S S1 ∧ (∀ j, S1.1 48 j = S.1 48 j) ∧ S1.1 47 7 = nI (n + 1) ∧ (∀ q, q < k → WK set (fun c => Q c ∨ c = c0) q S1) ∧ (∀ q, k ≤ q → q < bc set 5 → WK set Q q S1)) (by
    intro k S1 hk ⟨f1, f48, p7, pn, po⟩
    obtain ⟨a1, a2, a3⟩ := mem_ok set hs k (by omega) hk
    obtain ⟨lo, hi, b1, b2, b3, b4, b5, b6, b7⟩ := po k (Nat.le_refl k) hk
    have t1 := dg_lt c0 k
    have hTk : S1.1 48 (mem set k) = nI (dg c0 k) := by rw [f48, (L4 _ a1).1, hT k hk]
    have l2 : S1.1 47 5 = nI (bc set 5) := by rw [f1 _ _ (by omega) (by omega) (by omega) (by omega)]; exact L2
    have l3 : S1.1 49 k = nI (mem set k) := by rw [f1 _ _ (by omega) (by omega) (by omega) (by omega)]; exact L3 k hk
    obtain ⟨lo', hlo⟩ : ∃ lo', lo' = if dg c0 k < lo then dg c0 k else lo := ⟨_, rfl⟩
    obtain ⟨hi', hhi⟩ : ∃ hi', hi' = if hi < dg c0 k then dg c0 k else hi := ⟨_, rfl⟩
    refine ⟨u1 (u1 S1 50 (mem set k) (nI lo')) 51 (mem set k) (nI hi'), ?_, fun x j q0 q1 q2 q3 => by rw [zuN (by omega), zuN (by omega), f1 x j q0 q1 q2 q3], fun j => by simp (disch := omega) only [zuS, zuN, zu2, zv1, zvS, zvN]; exact f48 j, by simp (disch := omega) only [zuS, zuN, zu2, zv1, zvS, zvN]; exact p7, fun q hq => ?_, fun q hq hq2 => ?_⟩
    · rw [k_Loads_note_12_eq]
      have c1 : (if nI (dg c0 k) < nI lo then nI (dg c0 k) else nI lo) = nI lo' := by
        rw [hlo]
        by_cases w : dg c0 k < lo
        · rw [if_pos w, if_pos (by rw [zlt (by omega) (by omega)]; exact w)]
        · rw [if_neg w, if_neg (by rw [zlt (by omega) (by omega)]; exact w)]
      have c2 : (if nI hi < nI (dg c0 k) then nI (dg c0 k) else nI hi) = nI hi' := by
        rw [hhi]
        by_cases w : hi < dg c0 k
        · rw [if_pos w, if_pos (by rw [zlt (by omega) (by omega)]; exact w)]
        · rw [if_neg w, if_neg (by rw [zlt (by omega) (by omega)]; exact w)]
      have d1 : inb (nI (mem set k)) 5 = true := by rw [zin (by omega)]; exact a1
      have d2 : inb (nI k) 3 = true := by rw [zin (by omega)]; omega
      rw [l2, zL3, if_neg (by rw [zle (by omega) (by omega)]; omega), if_neg (by rw [zle (by omega) (by omega)]; omega), if_pos d2, ztn (by omega), l3, if_pos d1, if_pos d1, if_pos d1, if_pos d1, if_pos d1, if_pos d1, ztn (by omega), hTk, b1, b2, c1, c2, zL1, zadd]
    · by_cases e : q = k
      · subst e
        refine ⟨lo', hi', by rw [zuN (by omega), zuS ⟨rfl, rfl⟩], by rw [zuS ⟨rfl, rfl⟩], ?_, ?_, fun c hc => ?_, fun _ => ?_, fun hn => absurd (Or.inr rfl) (hn c0)⟩
        · rw [hlo]; split <;> omega
        · rw [hhi]; split <;> omega
        · rcases hc with hc | hc
          · have := b5 c hc
            rw [hlo, hhi]
            refine ⟨?_, ?_⟩
            · split <;> omega
            · split <;> omega
          · rw [hc, hlo, hhi]
            refine ⟨?_, ?_⟩
            · split <;> omega
            · split <;> omega
        · by_cases hQ : ∃ c, Q c
          · obtain ⟨⟨x1, x2, x3⟩, ⟨y1, y2, y3⟩⟩ := b6 hQ
            refine ⟨?_, ?_⟩
            · rw [hlo]
              by_cases w : dg c0 q < lo
              · rw [if_pos w]; exact ⟨c0, Or.inr rfl, rfl⟩
              · rw [if_neg w]; exact ⟨x1, Or.inl x2, x3⟩
            · rw [hhi]
              by_cases w : hi < dg c0 q
              · rw [if_pos w]; exact ⟨c0, Or.inr rfl, rfl⟩
              · rw [if_neg w]; exact ⟨y1, Or.inl y2, y3⟩
          · obtain ⟨z1, z2⟩ := b7 (fun c hc => hQ ⟨c, hc⟩)
            refine ⟨⟨c0, Or.inr rfl, ?_⟩, ⟨c0, Or.inr rfl, ?_⟩⟩
            · rw [hlo, if_pos (by omega)]
            · rw [hhi]; split <;> omega
      · obtain ⟨b1, b2, b3⟩ := mem_ok set hs q (by omega) (by omega)
        have hne : mem set q ≠ mem set k := fun w => by rw [w, a3] at b3; exact e b3.symm
        obtain ⟨lo2, hi2, g1, g2, g3⟩ := pn q (by omega)
        exact ⟨lo2, hi2, by rw [zuN (by omega), zuN (by omega)]; exact g1, by rw [zuN (by omega), zuN (by omega)]; exact g2, g3⟩
    · obtain ⟨b1, b2, b3⟩ := mem_ok set hs q (by omega) (by omega)
      have hne : mem set q ≠ mem set k := fun w => by rw [w, a3] at b3; omega
      obtain ⟨lo2, hi2, g1, g2, g3⟩ := po q (by omega) hq2
      exact ⟨lo2, hi2, by rw [zuN (by omega), zuN (by omega)]; exact g1, by rw [zuN (by omega), zuN (by omega)]; exact g2, g3⟩) (bc set 5) 0 (u1 S 47 7 (nI (n + 1))) (by omega) ⟨fun x j q0 q1 q2 q3 => by rw [zuN (by omega)], fun j => by rw [zuN (by omega)], zuS ⟨rfl, rfl⟩, fun _ _ => by omega, fun q _ hq => WK_fr (wk q hq) (fun j => ⟨by rw [zuN (by omega)], by rw [zuN (by omega)]⟩)⟩
  refine ⟨S1, ?_, f1, f48, p7, fun q hq => pn q hq⟩
  have l2 : S1.1 47 5 = nI (bc set 5) := by rw [f1 _ _ (by omega) (by omega) (by omega) (by omega)]; exact L2
  rw [f_Loads_note_eq, w7, zL0, zL1, zadd, e1, k_Loads_note_12_eq]
  simp (disch := omega) only [zL0, zL1, zL2, zL3, zL4, zL5, zL6, zL7, zL8, zL9, zL10, zL12, zL20, zL30, zL31, zL32, zL44, zL48, zL49, zL50, zL56, zL59, zL60, zL61, zL64, zL65, zL97, zL99, zL100, zL101, zL102, zL103, zL104, zL111, zL119, zL126, zL255, zL512, zL617, zL65535, zL65536, zL1048576, zlt, zle, zeq, ztn, zin, zzb, zadd, zmul, zm_lt, zm_gt, zm_le, zm_ge, zm_eq, zm_eq', zm_in, if_pos, if_neg, bI_s, bJ_s, bA_s, bU_s, if_true, if_false, reduceIte, or_true, true_or, or_false, false_or, and_true, true_and, and_false, false_and, not_true_eq_false, not_false_eq_true, Nat.reduceEqDiff, Nat.zero_ne_one, Nat.one_ne_zero, l2, k_Loads_note_80_eq]
end FI
