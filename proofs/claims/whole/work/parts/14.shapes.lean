/-! the shapes that walkers and towns have, and what is read of them -/
def isW (w : Nat) : Prop := SH[w]? = some (.inl (7, [.inr false, .inr false, .inr false, .inr false, .inl (some (w + 1)), .inr false, .inr false])) ∧ SH[w + 1]? = some (.inr (0, 20, none))
def isT (t : Nat) : Prop := SH[t]? = some (.inl (6, [.inl (some (t + 1)), .inr false, .inl (some (t + 2)), .inr false])) ∧ SH[t + 1]? = some (.inr (4, 5, some [some (t + 3), some (t + 5), some (t + 7), some (t + 9), some (t + 11)])) ∧ SH[t + 2]? = some (.inr (0, 8, none)) ∧ isW (t + 3) ∧ isW (t + 5) ∧ isW (t + 7) ∧ isW (t + 9) ∧ isW (t + 11)
theorem isT_14 : isT 14 := ⟨rfl, rfl, rfl, ⟨rfl, rfl⟩, ⟨rfl, rfl⟩, ⟨rfl, rfl⟩, ⟨rfl, rfl⟩, ⟨rfl, rfl⟩⟩
theorem isT_27 : isT 27 := ⟨rfl, rfl, rfl, ⟨rfl, rfl⟩, ⟨rfl, rfl⟩, ⟨rfl, rfl⟩, ⟨rfl, rfl⟩, ⟨rfl, rfl⟩⟩
theorem isW_o {w : Nat} (h : isW w) : SH[w]? = some (.inl (7, [.inr false, .inr false, .inr false, .inr false, .inl (some (w + 1)), .inr false, .inr false])) := h.1
theorem isW_a {w : Nat} (h : isW w) : SH[w + 1]? = some (.inr (0, 20, none)) := h.2
theorem isT_o {t : Nat} (h : isT t) : SH[t]? = some (.inl (6, [.inl (some (t + 1)), .inr false, .inl (some (t + 2)), .inr false])) := h.1
theorem isT_a {t : Nat} (h : isT t) : SH[t + 1]? = some (.inr (4, 5, some [some (t + 3), some (t + 5), some (t + 7), some (t + 9), some (t + 11)])) := h.2.1
theorem isT_h {t : Nat} (h : isT t) : SH[t + 2]? = some (.inr (0, 8, none)) := h.2.2.1
theorem wal_at {t : Nat} {i : Int32} (h : inb i 5 = true) : (([some (t + 3), some (t + 5), some (t + 7), some (t + 9), some (t + 11)] : List (Option Nat))[i.toNatClampNeg]?).join = some (t + 3 + 2 * i.toNatClampNeg) := by
  have h5 : i.toNatClampNeg < 5 := by
    have := inb_in h
    exact Nat.not_le.mp fun q => this (Or.inr q)
  match i.toNatClampNeg, h5 with
  | 0, _ => rfl
  | 1, _ => rfl
  | 2, _ => rfl
  | 3, _ => rfl
  | 4, _ => rfl
theorem wal_w {t : Nat} {i : Int32} (ht : isT t) (h : inb i 5 = true) : isW (t + 3 + 2 * i.toNatClampNeg) := by
  have h5 : i.toNatClampNeg < 5 := by
    have := inb_in h
    exact Nat.not_le.mp fun q => this (Or.inr q)
  match i.toNatClampNeg, h5 with
  | 0, _ => exact ht.2.2.2.1
  | 1, _ => exact ht.2.2.2.2.1
  | 2, _ => exact ht.2.2.2.2.2.1
  | 3, _ => exact ht.2.2.2.2.2.2.1
  | 4, _ => exact ht.2.2.2.2.2.2.2
theorem mSt1_rf {l l1 : mL} {j : Nat} {o : Option Nat} {v : Value} (h : l[j]? = some (some (va_rf o))) (h1 : l.set (j + 1) (some v) = l1) : mSt1 l (j + 1) v = l1 := by
  show (mKill l j).set (j + 1) (some v) = l1
  unfold mKill
  rw [h]
  cases o <;> exact h1
theorem isA_rf (o : Option Nat) : isA (va_rf o) = true := by cases o <;> rfl
theorem gf_sh {S : Mem} {a ci k : Nat} {fk : List sK} {f : sK} (h : SH[a]? = some (.inl (ci, fk))) (hk : fk[k]? = some f) : sGf S a ci k = some (sF1 S a k f) := by
  unfold sGf
  rw [h]
  dsimp only
  rw [if_pos rfl, hk]
theorem gf_i {S : Mem} {a ci k : Nat} {fk : List sK} (h : SH[a]? = some (.inl (ci, fk))) (hk : fk[k]? = some (.inr false)) : sGf S a ci k = some (.int (S.1 a k)) := gf_sh h hk
theorem gf_r {S : Mem} {a ci k r : Nat} {fk : List sK} (h : SH[a]? = some (.inl (ci, fk))) (hk : fk[k]? = some (.inl (some r))) : sGf S a ci k = some (.ref r) := gf_sh h hk
theorem cl_sh {S : Mem} {a ci : Nat} {fk : List sK} (h : SH[a]? = some (.inl (ci, fk))) : sCl S a = some ci := by
  unfold sCl
  rw [h]
theorem pf_i {S : Mem} {a ci k : Nat} {x : Int32} {fk : List sK} (h : SH[a]? = some (.inl (ci, fk))) (hk : fk[k]? = some (.inr false)) (hm : mFk ci k = 0) : sPf S a ci k (.int x) = some (u1 S a k x) := by
  unfold sPf
  rw [h]
  dsimp only
  rw [if_pos ⟨rfl, by unfold hOk; rw [hm]; rfl⟩, hk]
theorem pf_j {S : Mem} {a ci k : Nat} {x : Int64} {fk : List sK} (h : SH[a]? = some (.inl (ci, fk))) (hk : fk[k]? = some (.inr true)) (hm : mFk ci k = 2) : sPf S a ci k (.long x) = some (u2 S a k x) := by
  unfold sPf
  rw [h]
  dsimp only
  rw [if_pos ⟨rfl, by unfold hOk; rw [hm]; rfl⟩, hk]
theorem pf_z {S : Mem} {a ci k : Nat} {x : Int32} {fk : List sK} (h : SH[a]? = some (.inl (ci, fk))) (hk : fk[k]? = some (.inr false)) (hm : mFk ci k = 1) (hz : zb x = true) : sPf S a ci k (.int x) = some (u1 S a k x) := by
  rw [sPf_Z h hk hm, if_pos hz]
theorem cp_sh {S : Mem} {a0 a n0 n1 i0 i1 i2 : Nat} {sp dp n : Int32} (h0 : SH[a0]? = some (.inr (0, n0, none))) (h1 : SH[a]? = some (.inr (0, n1, none))) (hc : ¬ sp < 0 ∧ ¬ dp < 0 ∧ ¬ n < 0 ∧ sp.toNatClampNeg + n.toNatClampNeg ≤ n0 ∧ dp.toNatClampNeg + n.toNatClampNeg ≤ n1) (e0 : sp.toNatClampNeg = i0) (e1 : dp.toNatClampNeg = i1) (e2 : n.toNatClampNeg = i2) : sCp S a0 sp a dp n = some (u3 S a (va_cpy (S.1 a0) (S.1 a) i0 i1 i2)) := by
  subst e0; subst e1; subst e2
  unfold sCp
  rw [h0, h1]
  dsimp only
  rw [if_pos ⟨rfl, rfl, hc⟩]
