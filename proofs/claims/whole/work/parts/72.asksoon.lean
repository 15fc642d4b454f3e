/-! the first step: the model's -/
section MST
variable {D : DD} {S : Mem} {g : Nat}
theorem mo_ord {q : Nat} (hq : q < 512) : (((nI q &&& nI 7) * nI 64) + (((nI q >>> (nI 3 &&& nI 31)) &&& nI 7) * nI 8)) + ((nI q >>> (nI 6 &&& nI 31)) &&& nI 7) = nI (tr q) := by
  rw [zshr (by omega) (by omega), zshr (by omega) (by omega), z7, z7, z7, zmul, zmul, zadd, zadd]
  rfl
theorem mo_stepOf (hd : okD D) (hm : RM D S) (h1 : 1 ≤ D 55 7) (h3 : D 55 7 ≤ 3) {N : Nat} (hN : N = 8 ^ D 55 7) (hn : near D S) {d s : Nat} {far : Nat → Option Nat} (hss : s = tr (cdk D 60 3)) (hd30 : d ≤ 30) (hfar : ∀ p, p < N → S.1 75 p = eo (far p)) (hb : ∀ p v, p < N → far p = some v → v ≤ 30) (hat : ∀ q, q < N → (far q = some d ↔ ds N (Em D (nar D) (mpx D)) g d q)) (hs : ds N (Em D (nar D) (mpx D)) g (d + 1) s) : ∃ (S' : Mem) (b : Nat), f_Mod_stepOf (nI (d + 1)) S = some (nI b, S') ∧ frB S S' ∧ S'.2 = S.2 ∧ b < N ∧ ds N (Em D (nar D) (mpx D)) g d b ∧ Em D (nar D) (mpx D) s b = true ∧ ∀ r, r < N → ds N (Em D (nar D) (mpx D)) g d r → Em D (nar D) (mpx D) s r = true → tr b ≤ tr r := by
  have p8 := p8_le h3
  rw [← hN] at p8
  have c60 := mo_codeOf hd hm h1 h3 (v := 0) (by omega)
  have l60 := (mcs_tr hd (a := 60) (by omega) h1 h3).2
  rw [show 60 + 0 = 60 from rfl, ← hss] at c60
  rw [← hN, ← hss] at l60
  obtain ⟨S1, e1, f1, g1, q1, r1⟩ := mo_save (S := S)
  have hm1 : RM D S1 := RM_fr hm (fun a k q => f1 a k (by omega) (by omega))
  have dS60 : dS D 60 (D 60) = D := by
    funext b
    unfold dS
    split
    · rename_i c; rw [c]
    · rfl
  have hNN : nI 1 <<< ((nI 3 * (S.1 55 7)) &&& nI 31) = nI N := by
    rw [hm.r 55 7 (by omega), zmul, zsh (by omega), p8_two, hN]
  have z1 : nI (d + 1) - nI 1 = nI d := zpred
  have key : ∀ m q S2 (bo : Option Nat), q + m = N → frS S1 S2 → (∃ f, RM (dS D 60 f) S2) → (match bo with
      | none => ∀ r, r < q → ds N (Em D (nar D) (mpx D)) g d r → ¬ Em D (nar D) (mpx D) s r = true
      | some b => b < N ∧ ds N (Em D (nar D) (mpx D)) g d b ∧ Em D (nar D) (mpx D) s b = true ∧ ∀ r, r < q → ds N (Em D (nar D) (mpx D)) g d r → Em D (nar D) (mpx D) s r = true → tr b ≤ tr r) → ∃ (S3 : Mem) (b : Nat), k_Mod_stepOf_29 (nI (d + 1)) (nI s) (nI N) (eo bo) (nI (match bo with | none => 1048576 | some b => tr b)) (nI q) S2 = bU (f_Mod_back S3) (fun S10 => some (nI b, S10)) ∧ frS S1 S3 ∧ b < N ∧ ds N (Em D (nar D) (mpx D)) g d b ∧ Em D (nar D) (mpx D) s b = true ∧ ∀ r, r < N → ds N (Em D (nar D) (mpx D)) g d r → Em D (nar D) (mpx D) s r = true → tr b ≤ tr r := by
    intro m
    induction m with
    | zero =>
      intro q S2 bo hq f2 R2 hI
      cases bo with
      | none =>
        obtain ⟨r, hr, a1, a2⟩ := ds_step hs
        exact absurd a2 (hI r (by omega) a1)
      | some b =>
        obtain ⟨i1, i2, i3, i4⟩ := hI
        refine ⟨S2, b, ?_, f2, i1, i2, i3, fun r hr => i4 r (by omega)⟩
        rw [k_Mod_stepOf_29_eq, if_pos (by rw [zle (by omega) (by omega)]; omega)]
        rfl
    | succ m ih =>
      intro q S2 bo hq f2 R2 hI
      have hqN : q < N := by omega
      have htr := tr_lt q
      have hbt : (match bo with | none => 1048576 | some b => tr b) ≤ 1048576 := by
        cases bo with
        | none => exact Nat.le_refl _
        | some b => have := tr_lt b; show tr b ≤ 1048576; omega
      obtain ⟨bt, hbt'⟩ : ∃ bt, bt = (match bo with | none => 1048576 | some b => tr b) := ⟨_, rfl⟩
      rw [← hbt'] at hbt ⊢
      have hfq : S2.1 75 q = eo (far q) := by rw [f2.1 _ _ (by omega) (by omega) (by omega), f1 _ _ (by omega) (by omega)]; exact hfar q hqN
      have hn2 : near D S2 := near_f hn (fun k => by rw [f2.1 _ _ (by omega) (by omega) (by omega), f1 _ _ (by omega) (by omega)])
      have ord := mo_ord (q := q) (by omega)
      have skip : ∀ S4, frS S1 S4 → (∃ f, RM (dS D 60 f) S4) → (ds N (Em D (nar D) (mpx D)) g d q → Em D (nar D) (mpx D) s q = true → bt ≤ tr q) → ∃ (S3 : Mem) (b : Nat), k_Mod_stepOf_103 (nI (d + 1)) (nI s) (nI N) (eo bo) (nI bt) (nI q) S4 = bU (f_Mod_back S3) (fun S10 => some (nI b, S10)) ∧ frS S1 S3 ∧ b < N ∧ ds N (Em D (nar D) (mpx D)) g d b ∧ Em D (nar D) (mpx D) s b = true ∧ ∀ r, r < N → ds N (Em D (nar D) (mpx D)) g d r → Em D (nar D) (mpx D) s r = true → tr b ≤ tr r := fun S4 f4 R4 hle => by
        have := ih (q + 1) S4 bo (by omega) f4 R4 (by
          cases bo with
          | none =>
            intro r hr a1 a2
            by_cases c : r = q
            · subst c
              have := hle a1 a2
              have e0 : bt = 1048576 := hbt'
              omega
            · exact hI r (by omega) a1 a2
          | some b =>
            refine ⟨hI.1, hI.2.1, hI.2.2.1, fun r hr a1 a2 => ?_⟩
            by_cases c : r = q
            · subst c
              have := hle a1 a2
              rw [hbt'] at this
              exact this
            · exact hI.2.2.2 r (by omega) a1 a2)
        rw [← hbt'] at this
        rw [k_Mod_stepOf_103_eq, zL1, zadd]
        exact this
      rw [k_Mod_stepOf_29_eq, zL1, z1, zL3, zL6, zL7, zL8, zL31, zL64, ord, if_neg (by rw [zle (by omega) (by omega)]; omega), if_pos (by rw [zin (by omega)]; omega), ztn (by omega), hfq]
      by_cases c1 : far q = some d
      · rw [c1, eo, if_pos rfl]
        by_cases c2 : bt ≤ tr q
        · rw [if_pos (by rw [zle (by omega) (by omega)]; exact c2)]
          exact skip S2 f2 R2 (fun _ _ => c2)
        · rw [if_neg (by rw [zle (by omega) (by omega)]; exact c2)]
          obtain ⟨S4, e4, f4, R4⟩ := mo_mayGo hd h1 h3 hn2 R2 (q := s) (r := q) (by omega) (by omega)
          rw [e4, bI_s]
          cases cE : Em D (nar D) (mpx D) s q
          · rw [show (if false = true then (1 : Nat) else 0) = 0 from rfl, if_pos (show nI 0 = 0 from rfl)]
            exact skip S4 (frS_t f2 f4) R4 (fun _ hE => by rw [cE] at hE; cases hE)
          · rw [show (if true = true then (1 : Nat) else 0) = 1 from rfl, if_neg (by decide)]
            have := ih (q + 1) S4 (some q) (by omega) (frS_t f2 f4) R4 ⟨hqN, (hat q hqN).mp c1, cE, fun r hr a1 a2 => by
              by_cases c : r = q
              · rw [c]; exact Nat.le_refl _
              · cases bo with
                | none => exact absurd a2 (hI r (by omega) a1)
                | some b =>
                  have h4 := hI.2.2.2 r (by omega) a1 a2
                  rw [hbt'] at c2
                  have c2' : ¬ tr b ≤ tr q := c2
                  omega⟩
            rw [k_Mod_stepOf_103_eq, zL1, zadd]
            exact this
      · have hne : ¬ eo (far q) = nI d := by
          cases ef : far q with
          | none => rw [eo, zm_eq' (by omega)]; simp
          | some v =>
            have hv := hb q v hqN ef
            rw [eo, zeq (by omega) (by omega)]
            exact fun x => c1 (by rw [ef, x])
        rw [if_neg hne]
        exact skip S2 f2 R2 (fun a1 _ => absurd ((hat q hqN).mpr a1) c1)
  obtain ⟨S3, b, e3, f3, b1, b2, b3, b4⟩ := key N 0 S1 none (by omega) (frS_r S1) ⟨D 60, by rw [dS60]; exact hm1⟩ (fun r hr => by omega)
  obtain ⟨S6, e6, f6, g6, q6, r6⟩ := mo_back (S := S3)
  refine ⟨S6, b, ?_, fun a k a1 a2 a3 a4 a5 a6 a7 => ?_, by rw [g6, f3.2, g1], b1, b2, b3, b4⟩
  · rw [f_Mod_stepOf_eq, zL0, zL1, zL3, zL31, c60, bI_s, e1, bU_s, hNN]
    show k_Mod_stepOf_29 (nI (d + 1)) (nI s) (nI N) (eo none) (nI 1048576) (nI 0) S1 = _
    rw [e3, e6]
    rfl
  · by_cases c60' : a = 60 ∧ k < 5
    · rw [c60'.1, q6 k c60'.2, f3.1 _ _ (by omega) (by omega) (by omega), q1 k c60'.2]
    · by_cases c65 : a = 65 ∧ k < 5
      · rw [c65.1, r6 k c65.2, f3.1 _ _ (by omega) (by omega) (by omega), r1 k c65.2]
      · rw [f6 _ _ c60' c65, f3.1 _ _ c60' a2 a1, f1 _ _ a3 a4]
theorem Lst_tr {P nwP : Nat → Nat → Bool} {d s b : Nat} (h1 : 1 ≤ D 55 7) (h3 : D 55 7 ≤ 3) (hg : g < 512) (hgi : im (D 55 7) g) (hs5 : s < 512) {N : Nat} (hN : N = 8 ^ D 55 7) (b1 : b < N) (b2 : ds N (Em D nwP P) (tr g) d b) (b3 : Em D nwP P (tr s) b = true) (b4 : ∀ r, r < N → ds N (Em D nwP P) (tr g) d r → Em D nwP P (tr s) r = true → tr b ≤ tr r) : Lst 512 (EE D nwP P) g d s (tr b) := by
  have p8 := p8_le h3
  subst hN
  refine ⟨tr_lt b, (ds_tr h1 h3 hg b1).mp b2, ?_, fun r hr hdr hEr => ?_⟩
  · have : EE D nwP P (tr (tr s)) (tr b) = true := b3
    rw [tr_tr hs5] at this
    exact this
  · have hir : im (D 55 7) r := fun w a1 a2 => by rw [lv_abs d r hdr.1 w a1 a2]; exact hgi w a1 a2
    have hr8 := (im_tr h1 h3 hr).mpr hir
    have := b4 (tr r) hr8 ((ds_tr h1 h3 hg hr8).mpr (by rw [tr_tr hr]; exact hdr)) (by
      show EE D nwP P (tr (tr s)) (tr (tr r)) = true
      rw [tr_tr hs5, tr_tr hr]
      exact hEr)
    rw [tr_tr hr] at this
    exact this
end MST
/-! SOONEST -/
def soT (D : DD) (x : Nat) (A : Int32) : Option Nat → Prop
  | some (d + 1) => if x ≤ D 55 7 then ∃ p, Lst 512 (EE D (nar D) (mpx D)) (cdk D 61 3) d (cdk D 60 3) p ∧ A = nI (dq p (x - 1)) else A = -nI 1
  | _ => A = -nI 1
theorem soT_s {D : DD} {x d : Nat} {A : Int32} : soT D x A (some (d + 1)) = (if x ≤ D 55 7 then ∃ p, Lst 512 (EE D (nar D) (mpx D)) (cdk D 61 3) d (cdk D 60 3) p ∧ A = nI (dq p (x - 1)) else A = -nI 1) := rfl
def soA (D : DD) (x : Nat) (A : Int32) : Prop := ∃ r, sn 512 (EE D (nar D) (mpx D)) (cdk D 61 3) 30 (cdk D 60 3) r ∧ (if x = 0 then A = eo r else soT D x A r)
theorem soA_one {D : DD} {x : Nat} {A B : Int32} (h : soA D x A) (h' : soA D x B) : A = B := by
  obtain ⟨r, s1, t1⟩ := h
  obtain ⟨r', s2, t2⟩ := h'
  have e := sn_one s1 s2
  subst e
  by_cases c : x = 0
  · rw [if_pos c] at t1 t2; rw [t1, t2]
  · rw [if_neg c] at t1 t2
    match r, t1, t2 with
    | none, t1, t2 => exact Eq.trans t1 (Eq.symm t2)
    | some 0, t1, t2 => exact Eq.trans t1 (Eq.symm t2)
    | some (d + 1), t1, t2 =>
      rw [soT_s] at t1 t2
      by_cases c2 : x ≤ D 55 7
      · rw [if_pos c2] at t1 t2
        obtain ⟨p, L, a⟩ := t1
        obtain ⟨p', L', a'⟩ := t2
        rw [a, a', Lst_one L L']
      · rw [if_neg c2] at t1 t2
        rw [t1, t2]
section SOO
variable {D : DD} {S : Mem}
theorem frB_M {S S' : Mem} (h : frB S S') : frM S S' := fun a k q => h a k (by omega) (by omega) (by omega) (by omega) (by omega) (by omega) (by omega)
theorem RM_B {S' : Mem} (h : RM D S) (f : frB S S') : RM D S' := RM_fr h (fun a k q => f a k (by omega) (by omega) (by omega) (by omega) (by omega) (by omega) (by omega))
theorem frB_t {S S' S'' : Mem} (h : frB S S') (h2 : frB S' S'') : frB S S'' := fun a k a1 a2 a3 a4 a5 a6 a7 => by rw [h2 a k a1 a2 a3 a4 a5 a6 a7, h a k a1 a2 a3 a4 a5 a6 a7]
theorem eo_m1 {r : Option Nat} (h : ∀ v, r = some v → v ≤ 30) : (eo r = -nI 1) = (r = none) := by
  cases r with
  | none => simp [eo]
  | some v =>
    have := h v rfl
    rw [eo, zm_eq (by omega)]
    simp
theorem sn_le {N g most s : Nat} {E : Nat → Nat → Bool} {r : Option Nat} (h : sn N E g most s r) : ∀ v, r = some v → v ≤ most := fun v e => by
  subst e
  exact h.2
theorem mo_soonestNow (hd : okD D) (hm : RM D S) (h1 : 1 ≤ D 55 7) (h3 : D 55 7 ≤ 3) {x : Nat} (hx : x ≤ 3) : ∃ S' A, f_Mod_soonestNow (nI x) S = some (A, S') ∧ RM D S' ∧ frM S S' ∧ soA D x A := by
  have hg5 := (cdk_3 hd (a := 61) (by omega)).1
  have hs5 := (cdk_3 hd (a := 60) (by omega)).1
  have l60 := (mcs_tr hd (a := 60) (by omega) h1 h3).2
  obtain ⟨S1, r, far, e1, f1, g1, n1, s1, p1, b1, at1⟩ := mo_soonestOf hd hm h1 h3 rfl
  have hm1 := RM_B hm f1
  have hsn := sn_tr h1 h3 hg5 l60 s1
  rw [tr_tr hs5] at hsn
  have hle := sn_le hsn
  have hr7 := hm1.r 55 7 (by omega)
  have plain : ∀ A, f_Mod_soonestNow (nI x) S = some (A, S1) → (if x = 0 then A = eo r else soT D x A r) → ∃ S' A, f_Mod_soonestNow (nI x) S = some (A, S') ∧ RM D S' ∧ frM S S' ∧ soA D x A := fun A e t => ⟨S1, A, e, hm1, frB_M f1, r, hsn, t⟩
  have em := eo_m1 hle
  match r, em, hsn, hle, s1, at1, e1, plain with
  | none, em, hsn, hle, s1, at1, e1, plain =>
    refine plain (-nI 1) ?_ ?_
    · rw [f_Mod_soonestNow_eq, e1, bI_s, zL1, if_pos (show eo none = -nI 1 from rfl), k_Mod_soonestNow_14_eq]; rfl
    · split
      · rfl
      · exact rfl
  | some v, em, hsn, hle, s1, at1, e1, plain =>
    have hv := hle v rfl
    by_cases c0 : x = 0
    · refine plain (nI v) ?_ ?_
      · rw [f_Mod_soonestNow_eq, e1]
        simp (disch := omega) only [zL0, zL1, zL2, zL3, zL4, zL5, zL6, zL7, zL8, zL9, zL10, zL12, zL20, zL30, zL31, zL32, zL44, zL48, zL49, zL50, zL56, zL59, zL60, zL61, zL64, zL65, zL97, zL99, zL100, zL101, zL102, zL103, zL104, zL111, zL119, zL126, zL255, zL512, zL617, zL65535, zL65536, zL1048576, zlt, zle, zeq, ztn, zin, zzb, zadd, zmul, zm_lt, zm_gt, zm_le, zm_ge, zm_eq, zm_eq', zm_in, if_pos, if_neg, bI_s, bJ_s, bA_s, bU_s, if_true, if_false, reduceIte, or_true, true_or, or_false, false_or, and_true, true_and, and_false, false_and, not_true_eq_false, not_false_eq_true, Nat.reduceEqDiff, Nat.zero_ne_one, Nat.one_ne_zero, eo, k_Mod_soonestNow_14_eq]
      · rw [if_pos c0]; rfl
    · match v, hv, hsn, s1, at1, e1, plain with
      | 0, hv, hsn, s1, at1, e1, plain =>
        refine plain (-nI 1) ?_ ?_
        · rw [f_Mod_soonestNow_eq, e1]
          simp (disch := omega) only [zL0, zL1, zL2, zL3, zL4, zL5, zL6, zL7, zL8, zL9, zL10, zL12, zL20, zL30, zL31, zL32, zL44, zL48, zL49, zL50, zL56, zL59, zL60, zL61, zL64, zL65, zL97, zL99, zL100, zL101, zL102, zL103, zL104, zL111, zL119, zL126, zL255, zL512, zL617, zL65535, zL65536, zL1048576, zlt, zle, zeq, ztn, zin, zzb, zadd, zmul, zm_lt, zm_gt, zm_le, zm_ge, zm_eq, zm_eq', zm_in, if_pos, if_neg, bI_s, bJ_s, bA_s, bU_s, if_true, if_false, reduceIte, or_true, true_or, or_false, false_or, and_true, true_and, and_false, false_and, not_true_eq_false, not_false_eq_true, Nat.reduceEqDiff, Nat.zero_ne_one, Nat.one_ne_zero, eo, k_Mod_soonestNow_28_eq]
        · rw [if_neg c0]; rfl
      | d + 1, hv, hsn, s1, at1, e1, plain =>
        by_cases cW : x ≤ D 55 7
        · obtain ⟨S2, b, e2, f2, g2, q1, q2, q3, q4⟩ := mo_stepOf hd hm1 h1 h3 rfl n1 rfl (by omega) p1 b1 (at1 d rfl) s1.1
          have L := Lst_tr h1 h3 hg5 (cdk_im hd (by omega)) hs5 rfl q1 q2 q3 q4
          have p8 := p8_le h3
          have dg := mo_dig (q := b) (w := x - 1) (by omega) (by omega)
          refine ⟨S2, nI (dq (tr b) (x - 1)), ?_, RM_B hm1 f2, frB_M (frB_t f1 f2), some (d + 1), hsn, ?_⟩
          · rw [f_Mod_soonestNow_eq, e1, bI_s, zL0, zL1, eo, if_neg (by rw [zm_eq (by omega)]; simp), if_neg (by rw [zeq (by omega) (by omega)]; exact c0), if_neg (by rw [zeq (by omega) (by omega)]; omega), hr7, if_pos (by rw [zle (by omega) (by omega)]; exact cW), e2, bI_s, zsub (by omega), dg]
          · rw [if_neg c0]
            rw [soT_s]
            rw [if_pos cW]
            exact ⟨tr b, L, rfl⟩
        · refine plain (-nI 1) ?_ ?_
          · rw [f_Mod_soonestNow_eq, e1]
            simp (disch := omega) only [zL0, zL1, zL2, zL3, zL4, zL5, zL6, zL7, zL8, zL9, zL10, zL12, zL20, zL30, zL31, zL32, zL44, zL48, zL49, zL50, zL56, zL59, zL60, zL61, zL64, zL65, zL97, zL99, zL100, zL101, zL102, zL103, zL104, zL111, zL119, zL126, zL255, zL512, zL617, zL65535, zL65536, zL1048576, zlt, zle, zeq, ztn, zin, zzb, zadd, zmul, zm_lt, zm_gt, zm_le, zm_ge, zm_eq, zm_eq', zm_in, if_pos, if_neg, bI_s, bJ_s, bA_s, bU_s, if_true, if_false, reduceIte, or_true, true_or, or_false, false_or, and_true, true_and, and_false, false_and, not_true_eq_false, not_false_eq_true, Nat.reduceEqDiff, Nat.zero_ne_one, Nat.one_ne_zero, eo, hr7, k_Mod_soonestNow_28_eq]
          · rw [if_neg c0]
            rw [soT_s]
            rw [if_neg cW]
end SOO
