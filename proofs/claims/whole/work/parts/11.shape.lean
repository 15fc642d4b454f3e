/-! behind the constructors the heap's shape stands still: numbers by cell and place -/
abbrev sK : Type := Option Nat ⊕ Bool
abbrev sC : Type := (Nat × List sK) ⊕ (Nat × Nat × Option (List (Option Nat)))
abbrev Mem : Type := (Nat → Nat → Int32) × (Nat → Nat → Int64)
def SH : List sC := [.inl (8, [.inl (some 1), .inl (some 3), .inl (some 7), .inl (some 14), .inl (some 27), .inl (some 40), .inl (some 47), .inl (some 52), .inr false, .inr false, .inr false, .inr false]),
  .inl (4, [.inl (some 2), .inr false]),
  .inr (2, 50, none),
  .inl (3, [.inl (some 4), .inl (some 5), .inl (some 6), .inr false, .inr false, .inr false, .inr false, .inr true]),
  .inr (0, 12, none),
  .inr (0, 12, none),
  .inr (1, 12, none),
  .inl (2, [.inl (some 8), .inl (some 9), .inl (some 10), .inr false, .inr false, .inr false, .inl (some 11), .inl (some 12), .inl (some 13)]),
  .inr (0, 12, none),
  .inr (0, 12, none),
  .inr (1, 12, none),
  .inr (0, 64, none),
  .inr (0, 64, none),
  .inr (0, 8, none),
  .inl (6, [.inl (some 15), .inr false, .inl (some 16), .inr false]),
  .inr (4, 5, some [some 17, some 19, some 21, some 23, some 25]),
  .inr (0, 8, none),
  .inl (7, [.inr false, .inr false, .inr false, .inr false, .inl (some 18), .inr false, .inr false]),
  .inr (0, 20, none),
  .inl (7, [.inr false, .inr false, .inr false, .inr false, .inl (some 20), .inr false, .inr false]),
  .inr (0, 20, none),
  .inl (7, [.inr false, .inr false, .inr false, .inr false, .inl (some 22), .inr false, .inr false]),
  .inr (0, 20, none),
  .inl (7, [.inr false, .inr false, .inr false, .inr false, .inl (some 24), .inr false, .inr false]),
  .inr (0, 20, none),
  .inl (7, [.inr false, .inr false, .inr false, .inr false, .inl (some 26), .inr false, .inr false]),
  .inr (0, 20, none),
  .inl (6, [.inl (some 28), .inr false, .inl (some 29), .inr false]),
  .inr (4, 5, some [some 30, some 32, some 34, some 36, some 38]),
  .inr (0, 8, none),
  .inl (7, [.inr false, .inr false, .inr false, .inr false, .inl (some 31), .inr false, .inr false]),
  .inr (0, 20, none),
  .inl (7, [.inr false, .inr false, .inr false, .inr false, .inl (some 33), .inr false, .inr false]),
  .inr (0, 20, none),
  .inl (7, [.inr false, .inr false, .inr false, .inr false, .inl (some 35), .inr false, .inr false]),
  .inr (0, 20, none),
  .inl (7, [.inr false, .inr false, .inr false, .inr false, .inl (some 37), .inr false, .inr false]),
  .inr (0, 20, none),
  .inl (7, [.inr false, .inr false, .inr false, .inr false, .inl (some 39), .inr false, .inr false]),
  .inr (0, 20, none),
  .inl (1, [.inl (some 7), .inl (some 14), .inl (some 41), .inl (some 42), .inl (some 43), .inl (some 44), .inl (some 45), .inl (some 46), .inr false, .inr false, .inr true]),
  .inr (0, 5, none),
  .inr (0, 5, none),
  .inr (0, 5, none),
  .inr (1, 5, none),
  .inr (0, 5, none),
  .inr (0, 5, none),
  .inl (0, [.inl (some 7), .inl (some 14), .inl (some 40), .inl (some 48), .inl (some 49), .inr false, .inr false, .inr false, .inl (some 50), .inl (some 51)]),
  .inr (0, 5, none),
  .inr (0, 3, none),
  .inr (0, 5, none),
  .inr (0, 5, none),
  .inl (5, [.inl (some 7), .inl (some 14), .inl (some 53), .inl (some 54), .inr false, .inr false, .inr false, .inr false, .inr false, .inr false, .inr false, .inr false, .inr false]),
  .inr (0, 512, none),
  .inr (0, 512, none),
  .inl (9, [.inr false, .inl (some 56), .inl (some 57), .inl (some 58), .inr false, .inr false, .inr false, .inr false, .inl (some 59), .inl (some 60), .inl (some 61), .inl (some 62), .inl (some 63), .inl (some 64), .inl (some 65), .inl (some 66), .inr false, .inr false, .inr false, .inl (some 67), .inr false, .inr false, .inr false, .inl (some 68), .inl (some 69), .inl (some 70), .inr false, .inr false, .inl (some 71), .inr false, .inr false, .inr false, .inl (some 72), .inl (some 73), .inl (some 74), .inr false, .inr false, .inl (some 75), .inl (some 76), .inl (some 77), .inr false, .inr true, .inr false, .inr false, .inr false, .inr false, .inl (some 78), .inl (some 79), .inl (some 80), .inl (some 81), .inl (some 82), .inl (some 83), .inr true]),
  .inr (0, 12, none),
  .inr (0, 12, none),
  .inr (1, 12, none),
  .inr (0, 5, none),
  .inr (0, 5, none),
  .inr (0, 5, none),
  .inr (0, 5, none),
  .inr (0, 100, none),
  .inr (0, 5, none),
  .inr (0, 5, none),
  .inr (0, 8, none),
  .inr (3, 50, none),
  .inr (0, 12, none),
  .inr (0, 12, none),
  .inr (1, 12, none),
  .inr (0, 5, none),
  .inr (0, 5, none),
  .inr (0, 5, none),
  .inr (0, 5, none),
  .inr (0, 512, none),
  .inr (0, 512, none),
  .inr (0, 8, none),
  .inr (0, 5, none),
  .inr (0, 5, none),
  .inr (0, 5, none),
  .inr (0, 5, none),
  .inr (0, 100, none),
  .inr (0, 8, none)]
def rX : Nat := 0
def rM : Nat := 55
def u1 (S : Mem) (a k : Nat) (x : Int32) : Mem := (fun c j => if c = a ∧ j = k then x else S.1 c j, S.2)
def u2 (S : Mem) (a k : Nat) (x : Int64) : Mem := (S.1, fun c j => if c = a ∧ j = k then x else S.2 c j)
def u3 (S : Mem) (a : Nat) (f : Nat → Int32) : Mem := (fun c => if c = a then f else S.1 c, S.2)
def sF1 (S : Mem) (a k : Nat) : sK → Value
  | .inl r => va_rf r
  | .inr false => .int (S.1 a k)
  | .inr true => .long (S.2 a k)
def sFs (S : Mem) (a : Nat) : Nat → List sK → List Value
  | _, [] => []
  | k, f :: r => sF1 S a k f :: sFs S a (k + 1) r
def sI (S : Mem) (a : Nat) : sC → mC
  | .inl (ci, fk) => .inr (ci, sFs S a 0 fk)
  | .inr (t, n, none) => .inl (t, n, .inl (S.1 a))
  | .inr (t, n, some rs) => .inl (t, n, .inr rs)
def hOf (S : Mem) : Nat → List sC → mH
  | _, [] => []
  | a, c :: r => sI S a c :: hOf S (a + 1) r
def hO (S : Mem) : mH := hOf S 0 SH
theorem sFs_get (S : Mem) (a : Nat) : ∀ (fk : List sK) (k0 k : Nat), (sFs S a k0 fk)[k]? = (fk[k]?).map (sF1 S a (k0 + k))
  | [], k0, k => by simp [sFs]
  | f :: r, k0, 0 => by simp [sFs]
  | f :: r, k0, k + 1 => by
    simp only [sFs, List.getElem?_cons_succ]
    rw [sFs_get S a r (k0 + 1) k, show k0 + 1 + k = k0 + (k + 1) by omega]
theorem sFs_len (S : Mem) (a : Nat) : ∀ (fk : List sK) (k0 : Nat), (sFs S a k0 fk).length = fk.length
  | [], _ => rfl
  | f :: r, k0 => by simp [sFs, sFs_len S a r]
theorem hOf_get (S : Mem) : ∀ (l : List sC) (a0 a : Nat), (hOf S a0 l)[a]? = (l[a]?).map (sI S (a0 + a))
  | [], a0, a => by simp [hOf]
  | c :: r, a0, 0 => by simp [hOf]
  | c :: r, a0, a + 1 => by
    simp only [hOf, List.getElem?_cons_succ]
    rw [hOf_get S r (a0 + 1) a, show a0 + 1 + a = a0 + (a + 1) by omega]
theorem hO_get (S : Mem) {a : Nat} {c : sC} (h : SH[a]? = some c) : (hO S)[a]? = some (sI S a c) := by
  unfold hO
  rw [hOf_get, h, Nat.zero_add]
  rfl
theorem hOf_len (S : Mem) : ∀ (l : List sC) (a : Nat), (hOf S a l).length = l.length
  | [], _ => rfl
  | c :: r, a => by simp [hOf, hOf_len S r]
theorem sI_same {S S' : Mem} {a : Nat} (h1 : S'.1 a = S.1 a) (h2 : S'.2 a = S.2 a) (c : sC) : sI S' a c = sI S a c := by
  rcases c with ⟨ci, fk⟩ | ⟨t, n, rs⟩
  · have : ∀ (fk : List sK) (k : Nat), sFs S' a k fk = sFs S a k fk := by
      intro fk
      induction fk with
      | nil => intro k; rfl
      | cons f r ih =>
        intro k
        simp only [sFs, ih]
        congr 1
        rcases f with r | b
        · rfl
        · cases b
          · simp [sF1, h1]
          · simp [sF1, h2]
    simp only [sI, this]
  · cases rs
    · simp only [sI, h1]
    · rfl
theorem hO_set {S S' : Mem} {a : Nat} {c : sC} {d : mC} (h : SH[a]? = some c) (hd : sI S' a c = d) (ho : ∀ b, b ≠ a → S'.1 b = S.1 b ∧ S'.2 b = S.2 b) : (hO S).set a d = hO S' := by
  apply List.ext_getElem?
  intro i
  by_cases hi : i = a
  · subst hi
    have hl : i < (hO S).length := by
      unfold hO
      rw [hOf_len]
      exact (List.getElem?_eq_some_iff.mp h).1
    rw [List.getElem?_set_self hl, hO_get S' h, hd]
  · rw [List.getElem?_set_ne (Ne.symm hi)]
    unfold hO
    rw [hOf_get, hOf_get, Nat.zero_add]
    cases SH[i]? with
    | none => rfl
    | some c2 => simp only [Option.map_some]; rw [sI_same (ho i hi).1 (ho i hi).2]
def sGf (S : Mem) (a ci k : Nat) : Option Value := match SH[a]? with
  | some (.inl (c, fk)) => if c = ci then (match fk[k]? with
    | some f => some (sF1 S a k f)
    | none => none) else none
  | _ => none
def sPf (S : Mem) (a ci k : Nat) (v : Value) : Option Mem := match SH[a]? with
  | some (.inl (c, fk)) => if c = ci ∧ hOk ci k v = true then (match fk[k]?, v with
    | some (.inr false), .int x => some (u1 S a k x)
    | some (.inr true), .long x => some (u2 S a k x)
    | _, _ => none) else none
  | _ => none
def sLd (S : Mem) (a kind : Nat) (i : Int32) : Option Value := match SH[a]? with
  | some (.inr (t, n, none)) => if inb i n = true ∧ hKi kind t = true then some (.int (S.1 a i.toNatClampNeg)) else none
  | some (.inr (t, n, some rs)) => if inb i n = true ∧ kind = 3 ∧ t = 4 then some (va_rf ((rs[i.toNatClampNeg]?).join)) else none
  | _ => none
def sSt (S : Mem) (a kind : Nat) (i : Int32) (v : Value) : Option Mem := match SH[a]?, v with
  | some (.inr (t, n, none)), .int x => if inb i n = true ∧ hKi kind t = true then some (u1 S a i.toNatClampNeg (hNar t x)) else none
  | _, _ => none
def sLn (_ : Mem) (a : Nat) : Option Int32 := match SH[a]? with
  | some (.inr (t, n, _)) => if t < 5 then some (Int32.ofNat n) else none
  | _ => none
def sCp (S : Mem) (a0 : Nat) (sp : Int32) (a : Nat) (dp n : Int32) : Option Mem := match SH[a0]?, SH[a]? with
  | some (.inr (t0, n0, none)), some (.inr (t1, n1, none)) => if t0 = 0 ∧ t1 = 0 ∧ ¬ sp < 0 ∧ ¬ dp < 0 ∧ ¬ n < 0 ∧ sp.toNatClampNeg + n.toNatClampNeg ≤ n0 ∧ dp.toNatClampNeg + n.toNatClampNeg ≤ n1 then some (u3 S a (va_cpy (S.1 a0) (S.1 a) sp.toNatClampNeg dp.toNatClampNeg n.toNatClampNeg)) else none
  | _, _ => none
def sCl (_ : Mem) (a : Nat) : Option Nat := match SH[a]? with
  | some (.inl (c, _)) => some c
  | _ => none
def oS : mO Mem := (sGf, sPf, sLd, sSt, sLn, fun _ _ => none, fun _ _ _ => none, sCp, sCl)
theorem sGf_ok {S : Mem} {a ci k : Nat} {v : Value} (h : sGf S a ci k = some v) : hGf (hO S) a ci k = some v := by
  unfold sGf at h
  split at h
  · next c fk e =>
    split at h
    · next hc =>
      split at h
      · next f e2 =>
        cases h
        unfold hGf
        rw [hO_get S e]
        simp only [sI]
        rw [if_pos hc, sFs_get, e2, Nat.zero_add]
        rfl
      · cases h
    · cases h
  · cases h
theorem sFs_set (S S' : Mem) (a k : Nat) (v : Value) : ∀ (fk : List sK) (k0 : Nat), (∀ f j, fk[j]? = some f → sF1 S' a (k0 + j) f = if k0 + j = k then v else sF1 S a (k0 + j) f) → ∀ j, k = k0 + j → (sFs S a k0 fk).set j v = sFs S' a k0 fk := by
  intro fk k0 h j hj
  apply List.ext_getElem?
  intro i
  by_cases hi : i = j
  · subst hi
    by_cases hl : i < fk.length
    · rw [List.getElem?_set_self (by rw [sFs_len]; exact hl), sFs_get, List.getElem?_eq_getElem hl]
      simp only [Option.map_some]
      rw [h _ i (List.getElem?_eq_getElem hl), if_pos hj.symm]
    · rw [List.getElem?_eq_none (by rw [List.length_set, sFs_len]; omega), List.getElem?_eq_none (by rw [sFs_len]; omega)]
  · rw [List.getElem?_set_ne (Ne.symm hi), sFs_get, sFs_get]
    cases e : fk[i]? with
    | none => rfl
    | some f =>
      simp only [Option.map_some]
      rw [h f i e, if_neg (by omega)]
theorem sPf_ok {S S' : Mem} {a ci k : Nat} {v : Value} (h : sPf S a ci k v = some S') : hPf (hO S) a ci k v = some (hO S') := by
  unfold sPf at h
  split at h
  · next c fk e =>
    split at h
    · next hc =>
      unfold hPf
      rw [hO_get S e]
      simp only [sI, sFs_len]
      split at h
      · next x e2 =>
        cases h
        rw [if_pos ⟨hc.1, (List.getElem?_eq_some_iff.mp e2).1, hc.2⟩]
        congr 1
        refine hO_set e ?_ (fun b hb => ⟨by simp [u1, hb], rfl⟩)
        simp only [sI]
        congr 2
        refine (sFs_set S _ a k _ fk 0 (fun f j hf => ?_) k (by omega)).symm
        rw [Nat.zero_add]
        rcases f with r | b
        · by_cases hj : j = k
          · subst hj; rw [hf] at e2; cases e2
          · simp [sF1, hj]
        · cases b
          · by_cases hj : j = k <;> simp [sF1, u1, hj]
          · by_cases hj : j = k
            · subst hj; rw [hf] at e2; cases e2
            · simp [sF1, u1, hj]
      · next x e2 =>
        cases h
        rw [if_pos ⟨hc.1, (List.getElem?_eq_some_iff.mp e2).1, hc.2⟩]
        congr 1
        refine hO_set e ?_ (fun b hb => ⟨rfl, by simp [u2, hb]⟩)
        simp only [sI]
        congr 2
        refine (sFs_set S _ a k _ fk 0 (fun f j hf => ?_) k (by omega)).symm
        rw [Nat.zero_add]
        rcases f with r | b
        · by_cases hj : j = k
          · subst hj; rw [hf] at e2; cases e2
          · simp [sF1, hj]
        · cases b
          · by_cases hj : j = k
            · subst hj; rw [hf] at e2; cases e2
            · simp [sF1, u2, hj]
          · by_cases hj : j = k <;> simp [sF1, u2, hj]
      · cases h
    · cases h
  · cases h
theorem sLd_ok {S : Mem} {a kind : Nat} {i : Int32} {v : Value} (h : sLd S a kind i = some v) : hLd (hO S) a kind i = some v := by
  unfold sLd at h
  unfold hLd
  split at h
  · next t n e => rw [hO_get S e]; exact h
  · next t n rs e => rw [hO_get S e]; exact h
  · cases h
theorem sSt_ok {S S' : Mem} {a kind : Nat} {i : Int32} {v : Value} (h : sSt S a kind i v = some S') : hSt (hO S) a kind i v = some (hO S') := by
  unfold sSt at h
  split at h
  · next t n x e =>
    split at h
    · next hc =>
      cases h
      unfold hSt
      rw [hO_get S e]
      simp only [sI]
      rw [if_pos hc]
      congr 1
      refine hO_set e ?_ (fun b hb => ⟨by simp [u1, hb], rfl⟩)
      simp only [sI]
      congr 4
      funext j
      simp [u1, upd]
    · cases h
  · cases h
theorem sLn_ok {S : Mem} {a : Nat} {v : Int32} (h : sLn S a = some v) : hLn (hO S) a = some v := by
  unfold sLn at h
  split at h
  · next t n rs e =>
    unfold hLn
    rw [hO_get S e]
    cases rs <;> exact h
  · cases h
theorem sCp_ok {S S' : Mem} {a0 a : Nat} {sp dp n : Int32} (h : sCp S a0 sp a dp n = some S') : hCp (hO S) a0 sp a dp n = some (hO S') := by
  unfold sCp at h
  split at h
  · next t0 n0 t1 n1 e0 e1 =>
    split at h
    · next hc =>
      cases h
      unfold hCp
      rw [hO_get S e0, hO_get S e1]
      simp only [sI]
      rw [if_pos hc]
      congr 1
      refine hO_set e1 ?_ (fun b hb => ⟨by simp [u3, hb], rfl⟩)
      simp [sI, u3]
    · cases h
  · cases h
theorem sCl_ok {S : Mem} {a ci : Nat} (h : sCl S a = some ci) : hCl (hO S) a = some ci := by
  unfold sCl at h
  split at h
  · next c fk e =>
    unfold hCl
    rw [hO_get S e]
    exact h
  · cases h
