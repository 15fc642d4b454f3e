/-! the constructors, run by the kernel: the heap that they leave has the shape SH -/
def fkOk : List Value → List sK → Bool
  | [], [] => true
  | .int _ :: r, .inr false :: s => fkOk r s
  | .long _ :: r, .inr true :: s => fkOk r s
  | .ref a :: r, .inl (some b) :: s => decide (a = b) && fkOk r s
  | .null :: r, .inl none :: s => fkOk r s
  | _, _ => false
def cOk : mC → sC → Bool
  | .inl (t, n, .inl _), .inr (t1, n1, none) => decide (t = t1) && decide (n = n1)
  | .inl (t, n, .inr g), .inr (t1, n1, some rs) => decide (t = t1) && decide (n = n1) && decide (g = rs)
  | .inr (c, fs), .inl (ci, fk) => decide (c = ci) && fkOk fs fk
  | _, _ => false
def hpOk : mH → List sC → Bool
  | [], [] => true
  | c :: r, d :: s => cOk c d && hpOk r s
  | _, _ => false
def S1of (h : mH) (a k : Nat) : Int32 := match h[a]? with
  | some (.inl (_, _, .inl f)) => f k
  | some (.inr (_, fs)) => (match fs[k]? with
    | some (.int x) => x
    | _ => 0)
  | _ => 0
def S2of (h : mH) (a k : Nat) : Int64 := match h[a]? with
  | some (.inr (_, fs)) => (match fs[k]? with
    | some (.long x) => x
    | _ => 0)
  | _ => 0
def Sof (h : mH) : Mem := (S1of h, S2of h)
theorem fkOk_ok (S : Mem) (a : Nat) : ∀ (fs : List Value) (fk : List sK) (k0 : Nat), fkOk fs fk = true → (∀ j x, fs[j]? = some (.int x) → S.1 a (k0 + j) = x) → (∀ j x, fs[j]? = some (.long x) → S.2 a (k0 + j) = x) → sFs S a k0 fk = fs
  | [], [], _, _, _, _ => rfl
  | v :: r, f :: s, k0, h, h1, h2 => by
    have step : fkOk r s = true → sF1 S a k0 f = v → sFs S a k0 (f :: s) = v :: r := by
      intro g1 g2
      simp only [sFs]
      rw [g2, fkOk_ok S a r s (k0 + 1) g1 (fun j x e => by have := h1 (j + 1) x (by simpa using e); rwa [show k0 + 1 + j = k0 + (j + 1) by omega]) (fun j x e => by have := h2 (j + 1) x (by simpa using e); rwa [show k0 + 1 + j = k0 + (j + 1) by omega])]
    unfold fkOk at h
    split at h
    · next e1 e2 => cases e1
    · next e1 e2 => cases e1; cases e2; exact step h (by have := h1 0 _ rfl; simpa [sF1] using this)
    · next e1 e2 => cases e1; cases e2; exact step h (by have := h2 0 _ rfl; simpa [sF1] using this)
    · next e1 e2 =>
      cases e1; cases e2
      simp only [Bool.and_eq_true, decide_eq_true_eq] at h
      exact step h.2 (by rw [h.1]; rfl)
    · next e1 e2 => cases e1; cases e2; exact step h rfl
    · cases h
  | [], f :: s, _, h, _, _ => by simp [fkOk] at h
  | v :: r, [], _, h, _, _ => by cases v <;> simp [fkOk] at h
theorem cOk_ok {S : Mem} {a : Nat} {c : mC} {d : sC} (h : cOk c d = true) (h1 : ∀ t n f, c = .inl (t, n, .inl f) → S.1 a = f) (h2 : ∀ ci fs, c = .inr (ci, fs) → (∀ j x, fs[j]? = some (.int x) → S.1 a j = x) ∧ ∀ j x, fs[j]? = some (.long x) → S.2 a j = x) : sI S a d = c := by
  unfold cOk at h
  split at h
  · next t n f t1 n1 =>
    simp only [Bool.and_eq_true, decide_eq_true_eq] at h
    obtain ⟨rfl, rfl⟩ := h
    simp only [sI, h1 _ _ _ rfl]
  · next t n g t1 n1 rs =>
    simp only [Bool.and_eq_true, decide_eq_true_eq] at h
    obtain ⟨⟨rfl, rfl⟩, rfl⟩ := h
    rfl
  · next c fs ci fk =>
    simp only [Bool.and_eq_true, decide_eq_true_eq] at h
    obtain ⟨rfl, h⟩ := h
    obtain ⟨g1, g2⟩ := h2 _ _ rfl
    simp only [sI]
    rw [fkOk_ok S a fs fk 0 h (fun j x e => by rw [Nat.zero_add]; exact g1 j x e) (fun j x e => by rw [Nat.zero_add]; exact g2 j x e)]
  · cases h
theorem hpOk_ok {S : Mem} : ∀ (h : mH) (l : List sC) (a0 : Nat), hpOk h l = true → (∀ a c, h[a]? = some c → (∀ t n f, c = .inl (t, n, .inl f) → S.1 (a0 + a) = f) ∧ ∀ ci fs, c = .inr (ci, fs) → (∀ j x, fs[j]? = some (.int x) → S.1 (a0 + a) j = x) ∧ ∀ j x, fs[j]? = some (.long x) → S.2 (a0 + a) j = x) → hOf S a0 l = h
  | [], [], _, _, _ => rfl
  | c :: r, d :: s, a0, h, hc => by
    simp only [hpOk, Bool.and_eq_true] at h
    simp only [hOf]
    have h0 := hc 0 c rfl
    rw [Nat.add_zero] at h0
    rw [cOk_ok h.1 h0.1 h0.2, hpOk_ok r s (a0 + 1) h.2 (fun a e he => by have := hc (a + 1) e (by simpa using he); rwa [show a0 + 1 + a = a0 + (a + 1) by omega])]
  | [], _ :: _, _, h, _ => by simp [hpOk] at h
  | _ :: _, [], _, h, _ => by simp [hpOk] at h
theorem hO_Sof {h : mH} (hh : hpOk h SH = true) : hO (Sof h) = h := by
  refine hpOk_ok h SH 0 hh (fun a c e => ⟨fun t n f ec => ?_, fun ci fs ec => ⟨fun j x ej => ?_, fun j x ej => ?_⟩⟩)
  · subst ec
    rw [Nat.zero_add]
    funext k
    simp [Sof, S1of, e]
  · subst ec
    rw [Nat.zero_add]
    simp [Sof, S1of, e, ej]
  · subst ec
    rw [Nat.zero_add]
    simp [Sof, S2of, e, ej]
def cSz : sC → Nat
  | .inl (_, fk) => fk.length
  | .inr (_, n, _) => n
theorem sI_sz (S : Mem) (a : Nat) : ∀ c : sC, hSz1 (sI S a c) = cSz c
  | .inl (ci, fk) => by simp only [sI, hSz1, cSz, sFs_len]
  | .inr (t, n, none) => rfl
  | .inr (t, n, some rs) => rfl
theorem hOf_size (S : Mem) : ∀ (l : List sC) (a : Nat), hSz (hOf S a l) = (l.map cSz).sum
  | [], _ => rfl
  | c :: r, a => by
    have h1 : hSz (hOf S a (c :: r)) = hSz1 (sI S a c) + hSz (hOf S (a + 1) r) := by
      unfold hSz
      simp only [hOf, List.map_cons, List.sum_cons]
    rw [h1, sI_sz, hOf_size S r (a + 1)]
    simp only [List.map_cons, List.sum_cons]
theorem hO_size (S : Mem) : hSz (hO S) = (SH.map cSz).sum := hOf_size S SH 0
def hA : mH := match mRun oH X0 6000 71 0 (mEnt [.ref 0] (mMx 71)) [] [.inr (8, hDf 8 12)] with
  | some q => q.2
  | none => []
def hB : mH := match mRun oH X0 6000 106 0 (mEnt [.ref hA.length] (mMx 106)) [] (hA ++ [.inr (9, hDf 9 53)]) with
  | some q => q.2
  | none => []
set_option maxRecDepth 1000000 in
theorem hA_ok : (match mRun oH X0 6000 71 0 (mEnt [.ref 0] (mMx 71)) [] [.inr (8, hDf 8 12)] with
  | some (none, h) => decide (h.length = rM)
  | _ => false) = true := by decide +kernel
set_option maxRecDepth 1000000 in
theorem hB_ok : (match mRun oH X0 6000 106 0 (mEnt [.ref hA.length] (mMx 106)) [] (hA ++ [.inr (9, hDf 9 53)]) with
  | some (none, h) => hpOk h SH
  | _ => false) = true := by decide +kernel
theorem hA_run : mRun oH X0 6000 71 0 (mEnt [.ref 0] (mMx 71)) [] [.inr (8, hDf 8 12)] = some (none, hA) ∧ hA.length = rM := by
  have h := hA_ok
  split at h
  · next h1 e =>
    have e2 : hA = h1 := by unfold hA; rw [e]
    rw [e2]
    exact ⟨e, of_decide_eq_true h⟩
  · cases h
theorem hB_run : mRun oH X0 6000 106 0 (mEnt [.ref hA.length] (mMx 106)) [] (hA ++ [.inr (9, hDf 9 53)]) = some (none, hB) ∧ hpOk hB SH = true := by
  have h := hB_ok
  split at h
  · next h1 e =>
    have e2 : hB = h1 := by unfold hB; rw [e]
    rw [e2]
    exact ⟨e, h⟩
  · cases h
/-- the numbers behind the constructors -/
def S0 : Mem := Sof hB
theorem S0_ok : hO S0 = hB := hO_Sof hB_run.2
theorem S0_size : hB.length ≤ 1000 ∧ hSz hB ≤ 100000 := by
  have e := S0_ok
  have h1 : hB.length = SH.length := by rw [← e]; unfold hO; rw [hOf_len]
  refine ⟨by rw [h1]; decide +kernel, ?_⟩
  rw [← e, hO_size]
  decide +kernel
