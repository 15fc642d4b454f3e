/-! one instruction on the heap, over pictures: each from the kit's rows, with the heap's size kept in sight -/
def tysL (tc : Nat → ClassId) : List (ClassId × FieldType) := [(tc 0, .int), (tc 1, .boolean), (tc 2, .char), (tc 3, .byte), (tc 4, .object "CarryAlike$Walker")]
def wOK (D : va_G) (tc : Nat → ClassId) (b base : Nat) (h : mH) (H : Heap) : Prop := va_P D vwCl (cW b base tc h) H ∧ H.size = base + h.length ∧ h.length ≤ 1000
def gOK (D : va_G) (tc : Nat → ClassId) (b : Nat) (X : mX) (U : State) : Prop := va_K D vwCl (tysL tc) U ∧ (∀ a i c n d, Cond.fieldLinkNest a i c n d "CarryAlike" ∈ lw_tbl → va_Nw (.fieldLinkNest a i c n d "CarryAlike") U) ∧ (∀ a i x, Cond.methodLinkNest a i x "CarryAlike" ∈ lw_tbl → va_Nw (.methodLinkNest a i x "CarryAlike") U) ∧ va_AO "CarryAlike$Walker" U ∧ va_X b (X.1 - 1) X.2 U U.heap
def cOK (p : Program) (R : Room) (s : State) (m : MethodId) (args : Array Value) (meth : Method) (c : Code) (y : Nat) : Prop := p.tables.exec = Jvm.exec ∧ c.code = mCd y ∧ c.maxLocals = mMx y ∧ meth.sig.returnType = mRt y ∧ s.vm.findClass (mCn (mOwn y)) = some m.cls ∧ (∀ w ∈ lw_G, w.before args s = true) ∧ (mIni y = true → meth.name = "<init>") ∧ mFr y ≤ R.frames ∧ mLo y ≤ R.locals
theorem cAd_at {b base a : Nat} {h : mH} {c : mC} (e : h[a]? = some c) (hl : h.length ≤ 1000) : cAd b base a = base + a := by
  unfold cAd
  rw [if_neg]
  have := (List.getElem?_eq_some_iff.mp e).1
  unfold mSid
  omega
section ROW6
variable {p : Program} {L : Launch} {e : Env} {R : Room} {s : State} {m : MethodId} {args : Array Value} {below : List Frame} {meth : Method} {c : Code} {H : Heap} {locs : List Loc} {cells slots : Nat} {Q : State → Prop}
variable {D : va_G} {tc : Nat → ClassId} {b base : Nat} {h : mH} {X : mX} {y pc : Nat} {ls : Array Slot} {rest : List Value} {H0 : Heap}
theorem wOK_set {H1 : Heap} {a : Nat} {c0 c1 : mC} (hw : wOK D tc b base h H) (e0 : h[a]? = some c0) (he : va_at D vwCl (base + a, cE b base tc c1) H1) (z : H1.size = H.size) (oq : ∀ q : Nat, q ≠ base + a → H1[q]? = H[q]?) : wOK D tc b base (h.set a c1) H1 := by
  refine ⟨?_, by rw [z, hw.2.1, List.length_set], by rw [List.length_set]; exact hw.2.2⟩
  rw [← cW_set (b := b) (base := base) (tc := tc) e0]
  exact hw.1.set cW_D (cW_get e0) he oq
theorem wOK_push {H1 : Heap} {c1 : mC} (hw : wOK D tc b base h H) (hl : h.length < 1000) (he : va_at D vwCl (base + h.length, cE b base tc c1) H1) (z : H1.size = H.size + 1) (oq : ∀ q : Nat, q < H.size → H1[q]? = H[q]?) : wOK D tc b base (h ++ [c1]) H1 := by
  refine ⟨?_, by rw [z, hw.2.1, List.length_append]; rfl, by rw [List.length_append]; exact hl⟩
  rw [cW_push]
  refine (hw.1.kept (fun k q hk => oq q.1 ((hw.1 k q hk).lt))).app (fun k q hk => ?_)
  have hz : k < 1 := (List.getElem?_eq_some_iff.mp hk).1
  rw [show k = 0 by omega] at hk
  cases hk
  exact he
theorem vS_push {H1 : Heap} (hS : va_S (fun q : Nat => base ≤ q) H0 H locs) (z : H1.size = H.size + 1) (oq : ∀ q : Nat, q < H.size → H1[q]? = H[q]?) : va_S (fun q : Nat => base ≤ q) H0 H1 locs :=
  ⟨by rw [z]; exact Nat.le_succ_of_le hS.1, fun q h1 h2 => (oq q (Nat.lt_of_lt_of_le h1 hS.1)).trans (hS.2.1 q h1 h2), hS.2.2⟩
abbrev kOK (D : va_G) (tc : Nat → ClassId) (b base : Nat) (H0 : Heap) (h1 : mH) (H1 : Heap) (locs1 : List Loc) : Prop := wOK D tc b base h1 H1 ∧ va_S (fun q : Nat => base ≤ q) H0 H1 locs1
theorem r_getf (hc : cOK p R s m args meth c y) (hg : gOK D tc b X s) (hw : wOK D tc b base h H) {idx a ci k : Nat} {v : Value} (hf : lk (mFt (mOwn y)) idx = some (ci, k)) (hv : hGf h a ci k = some v) (hd : decode (mCd y) pc = .ok (.getfield idx, 3))
    (kk : W p L e R s m args below meth c H locs cells slots Q (F0 m (pc + 3) ls (cV b base v :: rest))) : W p L e R s m args below meth c H locs cells slots Q (F0 m pc ls (.ref (cAd b base a) :: rest)) := by
  obtain ⟨hx, hb, -, -, hown, hts, -⟩ := hc
  unfold hGf at hv
  split at hv
  · next c1 fs e1 =>
    split at hv
    · next hci =>
      subst hci
      obtain ⟨r, f1, f2, f3, f4⟩ := mF_get hf
      rw [cAd_at e1 hw.2.2]
      rcases f4 with f4 | f4
      · exact va_get (own := mCn (mOwn y)) (ref := r.1) (C := r.1) (T := r.2.1) (N := r.2.2) (ci := c1) hx hb hts (mL_get f1).2.2.1 hown hg.1 hw.1 a (cW_get e1) f1 k f2 (hts _ f4) (fun x hx => by rw [← f3]; rw [f3] at hx ⊢; exact hx) (by rw [List.getElem?_map, hv]; rfl) hd kk
      · exact va_getN (own := mCn (mOwn y)) (ref := r.1) (C := r.1) (T := r.2.1) (N := r.2.2) (ci := c1) hx hb hts (mL_get f1).2.2.1 hown hg.1 hw.1 a (cW_get e1) f1 k f2 (va_Nw.use rfl (hg.2.1 _ _ _ _ _ f4)) (fun x hx => by rw [f3] at hx; exact hx) (by rw [List.getElem?_map, hv]; rfl) hd kk
    · cases hv
  · cases hv
theorem r_putf (hc : cOK p R s m args meth c y) (hg : gOK D tc b X s) (hw : wOK D tc b base h H) (hS : va_S (fun q : Nat => base ≤ q) H0 H locs) {idx a ci k : Nat} {v : Value} {h1 : mH} (hf : lk (mFt (mOwn y)) idx = some (ci, k)) (hfin : (mFin ci k && !(mIni y && (mOwn y == ci))) = false) (hv : hPf h a ci k v = some h1) (hd : decode (mCd y) pc = .ok (.putfield idx, 3))
    (kk : h1.length = h.length → hSz h1 = hSz h → ∀ H1 locs1, kOK D tc b base H0 h1 H1 locs1 → W p L e R s m args below meth c H1 locs1 cells slots Q (F0 m (pc + 3) ls rest)) : W p L e R s m args below meth c H locs cells slots Q (F0 m pc ls (cV b base v :: .ref (cAd b base a) :: rest)) := by
  obtain ⟨hx, hb, -, -, hown, hts, hini, -⟩ := hc
  unfold hPf at hv
  split at hv
  · next c1 fs e1 =>
    split at hv
    · next hcnd =>
      obtain ⟨hci, hkl, hok⟩ := hcnd
      subst hci
      cases hv
      obtain ⟨r, f1, f2, f3, f4⟩ := mF_get hf
      obtain ⟨l1, l2, l3, l4, l5, l6⟩ := mL_get f1
      obtain ⟨ty, t1, t2, t3⟩ := hOk_ok (b := b) (base := base) f1 f2 hok
      rw [cAd_at e1 hw.2.2]
      have kk2 := kk (List.length_set ..) (hSz_set h a _ _ e1 (by simp [hSz1]))
      clear kk
      obtain ⟨r', h1', cell, q1, q2, q3, q4⟩ := hw.1 a _ (cW_get e1)
      have hr : r' = r := Option.some.inj (h1'.symm.trans f1)
      subst hr
      obtain ⟨hSl, hfc, kC, hkC, hkind⟩ := hg.1.1 c1 _ f1
      obtain ⟨cf, kf, fi, f, hi, hsl⟩ := hSl k f2
      have hlays := u_lays hts l3 f2
      have hst := (u_facts hfc hkC hlays hi).1
      have hap := va_apart (own := mCn (mOwn y)) hts l3 (fun k => (parseFieldDescriptor (r'.2.1 k).2.2.1).getD .int) (fun k hk => by
        obtain ⟨z, hz⟩ := Option.isSome_iff_exists.mp (l4 k hk)
        rw [hz]; rfl) l5 hg.1 f1
      have fin : ∀ H' : Heap, H'[base + a]? = some (cell.setSlot ((D.2 c1) k) (cV b base v)) → H'.size = H.size → (∀ q, q ≠ base + a → H'[q]? = H[q]?) → kOK D tc b base H0 (h.set a (.inr (c1, fs.set k v))) H' (locs ++ [⟨base + a, (D.2 c1) k⟩]) := by
        intro H' g1 g2 g3
        refine ⟨wOK_set hw e1 ?_ g2 g3, hS.put g2 g3 (Nat.le_add_right _ _)⟩
        refine ⟨_, f1, ?_⟩
        show t_OB (base + a) _ _ _ _ (vp_V ((fs.set k v).map (cV b base)))
        rw [List.map_set]
        exact t_OB.to (V := updV (vp_V (fs.map (cV b base))) k (cV b base v)) ⟨_, g1, q2, q3, t_set q4 hap f2 _⟩ (fun j _ => vp_updV_set (by rw [List.length_map]; exact hkl) _ j)
      by_cases hF : (r'.2.1 k).2.2.2 = true
      · have hFin : mFin c1 k = true := by unfold mFin; rw [f1]; exact hF
        rw [hFin, Bool.true_and, Bool.not_eq_false', Bool.and_eq_true, beq_iff_eq] at hfin
        have hlay := hts _ (l3 _ (u_in_lay f2))
        unfold u_lay at hlay
        rw [if_pos hF] at hlay
        have hcf : m.cls = cf := by
          obtain ⟨_, _, c', _, _, _, -, -, hf', -, -, -, hown2, -⟩ := Cond.laysFinal_spec hlay
          have z1 : c' = cf := by have := hi.symm.trans hf'; simp at this; exact this.1.symm
          rw [f3, ← l6, ← hfin.2] at hown2
          rw [← z1]; exact Option.some.inj (hown.symm.trans hown2)
        have h6 := u_fits hfc hkC hkind (Or.inr hlay) hi t1 t2 t3
        rcases f4 with f4 | f4
        · refine W.putFinK hx hb hown (hts _ f4) (by rw [f3] at hi; exact hi) hst hcf (hini hfin.1) (by rw [q2]; exact h6) q1 q3 (by rw [hsl]; exact k2_hasslot (q4 k f2)) rfl rfl hd fun H' g1 g2 g3 => ?_
          rw [hsl] at g1 ⊢
          exact kk2 _ _ (fin H' g1 g2 g3)
        · refine va_Wputf hx hb hown (va_Nw.use rfl (hg.2.1 _ _ _ _ _ f4)) (by rw [f3] at hi; exact hi) hst (Or.inr ⟨hcf, hini hfin.1⟩) q1 (by rw [q3]; exact fun z => by cases z) (by rw [hsl]; exact k2_hasslot (q4 k f2)) h6.1 (by rw [q2, q3]; exact h6.2) rfl rfl hd ?_
          rw [hsl]
          have ha : base + a < H.size := (Array.getElem?_eq_some_iff.mp q1).1
          exact kk2 _ _ (fin _ (by simp [Array.getElem?_setIfInBounds, ha]) (by simp) (fun q hq => by simp [Array.getElem?_setIfInBounds, Ne.symm hq]))
      · have hF' : (r'.2.1 k).2.2.2 = false := by simpa using hF
        have hlay := hts _ (l3 _ (u_in_lay f2))
        unfold u_lay at hlay
        rw [if_neg hF] at hlay
        have h6 := u_store hfc hkC hkind hlay hi t1 t2 t3
        rcases f4 with f4 | f4
        · refine W.putK hx hb (f := f) ⟨hown, hts _ f4, ⟨cf, kf, fi, by rw [f3] at hi; exact hi⟩, hst⟩ (by rw [q2]; exact h6) q1 q3 (by rw [hsl]; exact k2_hasslot (q4 k f2)) rfl rfl hd fun H' g1 g2 g3 => ?_
          rw [hsl] at g1 ⊢
          exact kk2 _ _ (fin H' g1 g2 g3)
        · refine va_WputK hx hb (f := f) hown (va_Nw.use rfl (hg.2.1 _ _ _ _ _ f4)) (by rw [f3] at hi; exact hi) hst (by rw [q2]; exact h6) q1 q3 (by rw [hsl]; exact k2_hasslot (q4 k f2)) rfl rfl hd fun H' g1 g2 g3 => ?_
          rw [hsl] at g1 ⊢
          exact kk2 _ _ (fin H' g1 g2 g3)
    · cases hv
  · cases hv
theorem vin_size {i : Int32} {n : Nat} {cA : ClassId} {f : Nat → Value} (hin : inb i n = true) : ¬ (i < 0 ∨ (arrV cA n f).slots.size ≤ i.toNatClampNeg) := by
  rw [arrV_size]; exact inb_in hin
theorem r_arr {H1 : Heap} {a t n : Nat} {i : Int32} {f : Nat → Int32} {x : Int32} (hw : wOK D tc b base h H) (hS : va_S (fun q : Nat => base ≤ q) H0 H locs) (e0 : h[a]? = some (.inl (t, n, .inl f))) (g1 : H1[base + a]? = some ((vp_cell (tc t) (n, .inl f)).setSlot i.toNatClampNeg (.int x))) (g2 : H1.size = H.size) (g3 : ∀ q, q ≠ base + a → H1[q]? = H[q]?) : kOK D tc b base H0 (h.set a (.inl (t, n, .inl (upd f i.toNatClampNeg x)))) H1 (locs ++ [⟨base + a, i.toNatClampNeg⟩]) := by
  refine ⟨wOK_set hw e0 ?_ g2 g3, hS.put g2 g3 (Nat.le_add_right _ _)⟩
  show H1[base + a]? = some (vp_cell (tc t) (n, .inl (upd f i.toNatClampNeg x)))
  rw [g1, vp_cell_i, vp_cell_i, arrV_store]
  congr 2
  funext q
  by_cases hq : q = i.toNatClampNeg
  · subst hq
    simp [updV, upd]
  · simp [updV, upd, hq]
theorem r_ald (hc : cOK p R s m args meth c y) (hg : gOK D tc b X s) (hw : wOK D tc b base h H) {kind a : Nat} {i : Int32} {v : Value} {ins : Instr} (hk : (kind, ins) = (0, Instr.iaload) ∨ (kind, ins) = (1, Instr.baload) ∨ (kind, ins) = (2, Instr.caload) ∨ (kind, ins) = (3, Instr.aaload)) (hv : hLd h a kind i = some v) (hd : decode (mCd y) pc = .ok (ins, 1))
    (kk : W p L e R s m args below meth c H locs cells slots Q (F0 m (pc + 1) ls (cV b base v :: rest))) : W p L e R s m args below meth c H locs cells slots Q (F0 m pc ls (.int i :: .ref (cAd b base a) :: rest)) := by
  obtain ⟨hx, hb, -⟩ := hc
  unfold hLd at hv
  split at hv
  · next t n f e1 =>
    split at hv
    · next hcnd =>
      obtain ⟨hin, hki⟩ := hcnd
      cases hv
      rw [cAd_at e1 hw.2.2]
      have hin' := inb_in hin
      simp only [hKi, Bool.or_eq_true, Bool.and_eq_true, beq_iff_eq] at hki
      rcases hk with hk | hk | hk | hk <;> cases hk
      · have ht : t = 0 := by omega
        subst ht
        exact va_iald hx hb hg.1 hw.1 a 0 (cW_get e1) rfl hin' hd kk
      · have ht : t = 1 ∨ t = 3 := by omega
        rcases ht with rfl | rfl
        · exact va_zald hx hb hg.1 hw.1 a 1 (cW_get e1) rfl hin' hd kk
        · exact va_bald hx hb hg.1 hw.1 a 3 (cW_get e1) rfl hin' hd kk
      · have ht : t = 2 := by omega
        subst ht
        exact va_cald hx hb hg.1 hw.1 a 2 (cW_get e1) rfl hin' hd kk
      · omega
    · cases hv
  · next t n g e1 =>
    split at hv
    · next hcnd =>
      obtain ⟨hin, hki, rfl⟩ := hcnd
      cases hv
      rw [cAd_at e1 hw.2.2]
      have hin' := inb_in hin
      rcases hk with hk | hk | hk | hk <;> cases hk <;> try (exact absurd hki (by decide))
      refine va_aldq (C := "CarryAlike$Walker") hx hb hg.1 hw.1 a 4 (cW_get e1) rfl hin' hd ?_
      have ez : va_rf (((g[i.toNatClampNeg]?).join).map (cAd b base)) = cV b base (va_rf ((g[i.toNatClampNeg]?).join)) := by
        cases (g[i.toNatClampNeg]?).join <;> rfl
      rw [ez]
      exact kk
    · cases hv
  · cases hv
theorem r_ast (hc : cOK p R s m args meth c y) (hg : gOK D tc b X s) (hw : wOK D tc b base h H) (hS : va_S (fun q : Nat => base ≤ q) H0 H locs) {kind a : Nat} {i : Int32} {v : Value} {ins : Instr} {h1 : mH} (hk : (kind, ins) = (0, Instr.iastore) ∨ (kind, ins) = (1, Instr.bastore) ∨ (kind, ins) = (2, Instr.castore) ∨ (kind, ins) = (3, Instr.aastore)) (hv : hSt h a kind i v = some h1) (hd : decode (mCd y) pc = .ok (ins, 1))
    (kk : h1.length = h.length → hSz h1 = hSz h → ∀ H1 locs1, kOK D tc b base H0 h1 H1 locs1 → W p L e R s m args below meth c H1 locs1 cells slots Q (F0 m (pc + 1) ls rest)) : W p L e R s m args below meth c H locs cells slots Q (F0 m pc ls (cV b base v :: .int i :: .ref (cAd b base a) :: rest)) := by
  obtain ⟨hx, hb, -⟩ := hc
  unfold hSt at hv
  split at hv
  · next t n f x e1 =>
    split at hv
    · next hcnd =>
      obtain ⟨hin, hki⟩ := hcnd
      cases hv
      have kk2 := kk (List.length_set ..) (hSz_set h a _ _ e1 rfl)
      clear kk
      rw [cAd_at e1 hw.2.2]
      simp only [hKi, Bool.or_eq_true, Bool.and_eq_true, beq_iff_eq] at hki
      rcases hk with hk | hk | hk | hk <;> cases hk
      · have ht : t = 0 := by omega
        subst ht
        exact W.iast hx hb (hw.1 a _ (cW_get e1)) ((hg.1.2 0 _ rfl).1 n (fun j => .int (f j))) (fun q => by cases q) (vin_size hin) rfl rfl hd fun H1 g1 g2 g3 => kk2 _ _ (r_arr hw hS e1 g1 g2 g3)
      · have ht : t = 1 ∨ t = 3 := by omega
        rcases ht with rfl | rfl
        · exact W.zast hx hb (hw.1 a _ (cW_get e1)) ((hg.1.2 1 _ rfl).1 n (fun j => .int (f j))) (fun q => by cases q) (vin_size hin) rfl rfl hd fun H1 g1 g2 g3 => kk2 _ _ (r_arr hw hS e1 g1 g2 g3)
        · exact W.bast hx hb (hw.1 a _ (cW_get e1)) ((hg.1.2 3 _ rfl).1 n (fun j => .int (f j))) (fun q => by cases q) (vin_size hin) rfl rfl hd fun H1 g1 g2 g3 => kk2 _ _ (r_arr hw hS e1 g1 g2 g3)
      · have ht : t = 2 := by omega
        subst ht
        exact W.cast hx hb (hw.1 a _ (cW_get e1)) ((hg.1.2 2 _ rfl).1 n (fun j => .int (f j))) (fun q => by cases q) (vin_size hin) rfl rfl hd fun H1 g1 g2 g3 => kk2 _ _ (r_arr hw hS e1 g1 g2 g3)
      · omega
    · cases hv
  · next t n g v0 e1 =>
    split at hv
    · next hcnd =>
      obtain ⟨hin, hki, rfl, hgl⟩ := hcnd
      split at hv
      · next c2 fs2 e2 =>
        split at hv
        · next hwk =>
          subst hwk
          cases hv
          have kk2 := kk (List.length_set ..) (hSz_set h a _ _ e1 rfl)
          clear kk
          rcases hk with hk | hk | hk | hk <;> cases hk <;> try (exact absurd hki (by decide))
          rw [cAd_at e1 hw.2.2]
          show W p L e R s m args below meth c H locs cells slots Q (F0 m pc ls (.ref (cAd b base v0) :: .int i :: .ref (base + a) :: rest))
          rw [cAd_at e2 hw.2.2]
          have hlt : i.toNatClampNeg < n := by
            have := inb_in hin
            exact Nat.not_le.mp fun q => this (Or.inr q)
          have h0 : ¬ i < 0 := fun q => inb_in hin (Or.inl q)
          obtain ⟨r', hr', cellV, g1, g2, g3, -⟩ := hw.1 v0 _ (cW_get e2)
          have hcls := (hg.1.1 mWk r' hr').2
          have hwkn : r'.1 = "CarryAlike$Walker" := by
            have hr2 : vwCl[mWk]? = some r' := hr'
            have := mWk_ok
            rw [hr2] at this
            exact Option.some.inj this
          obtain ⟨kA, comp, k1, k2, k3, -⟩ := (hg.1.2 4 _ rfl).2
          rw [← hwkn] at k3
          have hcomp : comp = D.1 mWk := Option.some.inj (k3.symm.trans hcls.1)
          subst hcomp
          have hcls0 := hcls
          obtain ⟨-, kC, hkC, -⟩ := hcls0
          refine W.aast hx hb (hw.1 a _ (cW_get e1)) (fun q z => by cases z) (fun z => by cases z) k1 k2 rfl hkC ⟨h0, by show _ < (arrV _ _ _).slots.size; rw [arrV_size]; exact hlt⟩ g1 (fun q z => by rw [g3] at z; cases z) (by rw [g2]; exact hkC) (by rw [g2]; exact va_assign hcls) rfl rfl hd fun H1 w1 w2 w3 => kk2 _ _ ⟨wOK_set hw e1 ?_ w2 w3, hS.put w2 w3 (Nat.le_add_right _ _)⟩
          show H1[base + a]? = some (vp_cell (tc 4) (n, .inr (.inr (.inr (.inr (fun j => (((g.set i.toNatClampNeg (some v0))[j]?).join).map (cAd b base)))))))
          rw [w1]
          show some ((vp_cell (tc 4) (n, .inr (.inr (.inr (.inr (fun j => ((g[j]?).join).map (cAd b base))))))).setSlot _ _) = _
          rw [vp_cell_q, vp_cell_q, arrV_store]
          congr 2
          funext q
          by_cases hq : q = i.toNatClampNeg
          · subst hq
            rw [List.getElem?_set_self hgl]
            simp [updV, va_rf, cAd_at e2 hw.2.2]
          · rw [List.getElem?_set_ne (fun z => hq z.symm)]
            simp [updV, hq]
        · cases hv
      · cases hv
    · cases hv
  · cases hv
theorem r_alen (hc : cOK p R s m args meth c y) (hg : gOK D tc b X s) (hw : wOK D tc b base h H) {a : Nat} {v : Int32} (hv : hLn h a = some v) (hd : decode (mCd y) pc = .ok (.arraylength, 1))
    (kk : W p L e R s m args below meth c H locs cells slots Q (F0 m (pc + 1) ls (.int v :: rest))) : W p L e R s m args below meth c H locs cells slots Q (F0 m pc ls (.ref (cAd b base a) :: rest)) := by
  obtain ⟨hx, hb, -⟩ := hc
  unfold hLn at hv
  split at hv
  · next t n x e1 =>
    split at hv
    case isFalse => cases hv
    next h5 =>
    cases hv
    rw [cAd_at e1 hw.2.2]
    have hty : ∃ ty, (tysL tc)[t]? = some (tc t, ty) := by
      match t, h5 with
      | 0, _ => exact ⟨_, rfl⟩
      | 1, _ => exact ⟨_, rfl⟩
      | 2, _ => exact ⟨_, rfl⟩
      | 3, _ => exact ⟨_, rfl⟩
      | 4, _ => exact ⟨_, rfl⟩
    obtain ⟨ty, hty⟩ := hty
    cases x with
    | inl f => exact va_alen hx hb hg.1 hw.1 a t (x := (n, .inl f)) (cW_get e1) hty rfl hd kk
    | inr g => exact va_alen hx hb hg.1 hw.1 a t (x := (n, .inr (.inr (.inr (.inr (fun j => ((g[j]?).join).map (cAd b base))))))) (cW_get e1) hty rfl hd kk
  · cases hv
theorem hDf_ok {ci : Nat} {r : vw_C} (h1 : vwCl[ci]? = some r) {ty : Nat → FieldType} (hty : ∀ k, k < r.2.2 → parseFieldDescriptor (r.2.1 k).2.2.1 = some (ty k)) : ∀ j, j < r.2.2 → defaultValue (ty j) = vp_V ((hDf ci r.2.2).map (cV b base)) j := by
  intro j hj
  have h2 := mFk_get h1 hj
  have e1 : ((hDf ci r.2.2).map (cV b base))[j]? = some (cV b base (hD1 (mFk ci j))) := by
    simp [hDf, List.getElem?_map, List.getElem?_range hj]
  unfold vp_V
  rw [List.getD_eq_getElem?_getD, e1, Option.getD_some]
  unfold mFkOk at h2
  rw [hty j hj] at h2
  split at h2
  · next e => rw [e]; rw [decide_eq_true_eq] at h2; rw [Option.some.inj h2]; rfl
  · next e => rw [e]; rw [decide_eq_true_eq] at h2; rw [Option.some.inj h2]; rfl
  · next e => rw [e]; rw [decide_eq_true_eq] at h2; rw [Option.some.inj h2]; rfl
  · next e =>
    rw [e]
    split at h2
    · next e2 => rw [Option.some.inj e2]; rfl
    · next e2 => rw [Option.some.inj e2]; rfl
    · cases h2
  · cases h2
theorem r_new (hc : cOK p R s m args meth c y) (hg : gOK D tc b X s) (hw : wOK D tc b base h H) (hS : va_S (fun q : Nat => base ≤ q) H0 H locs) {idx ci : Nat} {q : mH × Nat} (hf : lk (mCt (mOwn y)) idx = some ci) (hv : hNw h ci = some q) (hd : decode (mCd y) pc = .ok (.new idx, 3)) (hcl : cells + 1 ≤ R.cells) (hsl : slots + (hSz q.1 - hSz h) ≤ R.slots)
    (kk : q.1.length = h.length + 1 → hSz h ≤ hSz q.1 → ∀ H1, kOK D tc b base H0 q.1 H1 locs → W p L e R s m args below meth c H1 locs (cells + 1) (slots + (hSz q.1 - hSz h)) Q (F0 m (pc + 3) ls (.ref (cAd b base q.2) :: rest))) : W p L e R s m args below meth c H locs cells slots Q (F0 m pc ls rest) := by
  obtain ⟨hx, hb, -, -, hown, hts, -⟩ := hc
  unfold hNw at hv
  split at hv
  · next r f1 =>
    split at hv
    · next hlen =>
      cases hv
      obtain ⟨r2, f2, f3⟩ := mC_get hf
      cases f1.symm.trans f2
      obtain ⟨l1, l2, l3, l4, l5, l6⟩ := mL_get f1
      have hKn := hg.1.1 ci _ f1
      have ez : hSz (h ++ [.inr (ci, hDf ci r.2.2)]) - hSz h = r.2.2 := by rw [hSz_push, Nat.add_sub_cancel_left]; simp [hSz1, hDf]
      dsimp only at hsl kk
      rw [ez] at hsl kk
      refine W.newcK hx hb hown (hts _ f3) (hts _ l1) (hts _ l2) rfl hd hcl hsl hKn.2.1 rfl fun H1 kC hkC e1 z1 o1 => ?_
      have ea : cAd b base h.length = H.size := by rw [hw.2.1]; unfold cAd mSid; rw [if_neg (by omega)]
      rw [ea] at kk
      refine kk (by simp) (by rw [hSz_push]; omega) H1 ⟨wOK_push hw hlen ?_ z1 o1, vS_push hS z1 o1⟩
      have hty : ∀ k, k < r.2.2 → parseFieldDescriptor (r.2.1 k).2.2.1 = some ((parseFieldDescriptor (r.2.1 k).2.2.1).getD .int) := fun k hk => by
        obtain ⟨z, hz⟩ := Option.isSome_iff_exists.mp (l4 k hk)
        rw [hz]; rfl
      rw [hw.2.1] at e1
      exact ⟨_, f1, (u_born (fun k => (parseFieldDescriptor (r.2.1 k).2.2.1).getD .int) hts l3 hKn hkC e1 hty).to (hDf_ok f1 hty)⟩
    · cases hv
  · cases hv
theorem r_newa (hc : cOK p R s m args meth c y) (hg : gOK D tc b X s) (hw : wOK D tc b base h H) (hS : va_S (fun q : Nat => base ≤ q) H0 H locs) {t : Nat} {at1 : ArrayType} {n : Int32} {q : mH × Nat} (ht : (t, at1) = (0, ArrayType.int) ∨ (t, at1) = (1, ArrayType.boolean) ∨ (t, at1) = (2, ArrayType.char) ∨ (t, at1) = (3, ArrayType.byte)) (hv : hNa h t n = some q) (hd : decode (mCd y) pc = .ok (.newarray at1, 2)) (hcl : cells + 1 ≤ R.cells) (hsl : slots + (hSz q.1 - hSz h) ≤ R.slots)
    (kk : q.1.length = h.length + 1 → hSz h ≤ hSz q.1 → ∀ H1, kOK D tc b base H0 q.1 H1 locs → W p L e R s m args below meth c H1 locs (cells + 1) (slots + (hSz q.1 - hSz h)) Q (F0 m (pc + 2) ls (.ref (cAd b base q.2) :: rest))) : W p L e R s m args below meth c H locs cells slots Q (F0 m pc ls (.int n :: rest)) := by
  obtain ⟨hx, hb, -, -, hown, hts, -⟩ := hc
  unfold hNa at hv
  split at hv
  · next hcnd =>
    obtain ⟨hlen, hn, hn2, h5⟩ := hcnd
    cases hv
    have ez : hSz (h ++ [.inl (t, n.toNatClampNeg, if t = 4 then .inr (List.replicate n.toNatClampNeg none) else .inl (fun _ => 0))]) - hSz h = n.toNatClampNeg := by rw [hSz_push, Nat.add_sub_cancel_left]; rfl
    have harr : (Cond.arrayClass (newarray.typeOf at1)).before args s = true ∧ componentBytes (newarray.typeOf at1) ≤ 4 ∧ (tysL tc)[t]? = some (tc t, newarray.typeOf at1) ∧ t ≠ 4 ∧ defaultValue (newarray.typeOf at1) = .int 0 ∧ ∀ (U : State) (cA : ClassId), va_RA U cA (newarray.typeOf at1) → U.vm.findClass ("[" ++ (newarray.typeOf at1).toString) = some cA := by
      rcases ht with ht | ht | ht | ht <;> cases ht
      · exact ⟨hts _ (lw_in mAr_w.1 rfl), by decide, rfl, by decide, rfl, fun U cA h => h⟩
      · exact ⟨hts _ (lw_in mAr_w.2.1 rfl), by decide, rfl, by decide, rfl, fun U cA h => h⟩
      · exact ⟨hts _ (lw_in mAr_w.2.2.1 rfl), by decide, rfl, by decide, rfl, fun U cA h => h⟩
      · exact ⟨hts _ (lw_in mAr_w.2.2.2.1 rfl), by decide, rfl, by decide, rfl, fun U cA h => h⟩
    obtain ⟨a1, a2, a3, a4, a5, a6⟩ := harr
    dsimp only at hsl kk
    rw [ez] at hsl kk
    have ea : cAd b base h.length = H.size := by rw [hw.2.1]; unfold cAd mSid; rw [if_neg (by omega)]
    rw [ea] at kk
    refine va_newaK hx hb a1 rfl hd rfl hn rfl ?_ hcl hsl rfl fun H1 cA e1 z1 o1 hAr hNm => ?_
    · have : n.toNatClampNeg * componentBytes (newarray.typeOf at1) ≤ 1000 * 4 := Nat.mul_le_mul hn2 a2
      omega
    · have hcA : cA = tc t := Option.some.inj (hNm.symm.trans (a6 _ _ (hg.1.2 t _ a3).2))
      subst hcA
      refine kk (by simp) (by rw [hSz_push]; omega) H1 ⟨wOK_push hw hlen ?_ z1 o1, vS_push hS z1 o1⟩
      rw [if_neg a4]
      show H1[base + h.length]? = some (vp_cell (tc t) (n.toNatClampNeg, .inl (fun _ => 0)))
      rw [← hw.2.1, e1, a5, vp_cell_i]
  · cases hv
theorem r_anew (hc : cOK p R s m args meth c y) (hg : gOK D tc b X s) (hw : wOK D tc b base h H) (hS : va_S (fun q : Nat => base ≤ q) H0 H locs) {idx : Nat} {n : Int32} {q : mH × Nat} (hf : mAt (mOwn y) idx = true) (hv : hNa h 4 n = some q) (hd : decode (mCd y) pc = .ok (.anewarray idx, 3)) (hcl : cells + 1 ≤ R.cells) (hsl : slots + (hSz q.1 - hSz h) ≤ R.slots)
    (kk : q.1.length = h.length + 1 → hSz h ≤ hSz q.1 → ∀ H1, kOK D tc b base H0 q.1 H1 locs → W p L e R s m args below meth c H1 locs (cells + 1) (slots + (hSz q.1 - hSz h)) Q (F0 m (pc + 3) ls (.ref (cAd b base q.2) :: rest))) : W p L e R s m args below meth c H locs cells slots Q (F0 m pc ls (.int n :: rest)) := by
  obtain ⟨hx, hb, -, -, hown, hts, -⟩ := hc
  unfold hNa at hv
  split at hv
  · next hcnd =>
    obtain ⟨hlen, hn, hn2, h5⟩ := hcnd
    cases hv
    have ez : hSz (h ++ [.inl (4, n.toNatClampNeg, if 4 = 4 then .inr (List.replicate n.toNatClampNeg none) else .inl (fun _ => 0))]) - hSz h = n.toNatClampNeg := by rw [hSz_push, Nat.add_sub_cancel_left]; rfl
    dsimp only at hsl kk
    rw [ez] at hsl kk
    have ea : cAd b base h.length = H.size := by rw [hw.2.1]; unfold cAd mSid; rw [if_neg (by omega)]
    rw [ea] at kk
    refine W.anew hx hb hown (hts _ (mA_get hf)) (va_AO.use hg.2.2.2.1) rfl hd rfl hn (by omega) hcl hsl fun cA kA comp f1 f2 f3 f4 => ?_
    generalize hH1 : H.push ({ cls := cA, slots := Array.replicate n.toNatClampNeg .null, vm := .none } : Cell) = H1
    have z1 : H1.size = H.size + 1 := by rw [← hH1, Array.size_push]
    have e1 : H1[H.size]? = some (arrV cA n.toNatClampNeg (fun _ => .null)) := by rw [← hH1, Array.getElem?_push_size, ← arrV_new]
    have o1 : ∀ q : Nat, q < H.size → H1[q]? = H[q]? := fun q hq => by rw [← hH1, Array.getElem?_push, if_neg (Nat.ne_of_lt hq)]
    obtain ⟨kA', comp', -, -, -, k4⟩ := (hg.1.2 4 _ rfl).2
    have hcA : cA = tc 4 := Option.some.inj (f1.symm.trans k4)
    subst hcA
    refine kk (by simp) (by rw [hSz_push]; omega) H1 ⟨wOK_push hw hlen ?_ z1 o1, vS_push hS z1 o1⟩
    rw [if_pos rfl]
    show H1[base + h.length]? = some (vp_cell (tc 4) (n.toNatClampNeg, .inr (.inr (.inr (.inr (fun j => (((List.replicate n.toNatClampNeg (none : Option Nat))[j]?).join).map (cAd b base)))))))
    rw [← hw.2.1, e1, vp_cell_q]
    congr 2
    funext j
    rw [List.getElem?_replicate]
    split <;> rfl
  · cases hv
theorem r_copy (hc : cOK p R s m args meth c y) (hg : gOK D tc b X s) (hw : wOK D tc b base h H) (hS : va_S (fun q : Nat => base ≤ q) H0 H locs) (hls : ls.size = mMx y) {idx a0 a : Nat} {sp dp n : Int32} {h1 : mH} (hf : mNt (mOwn y) idx = true) (hr : mRn y = true) (hsm : (rest.map fun v => v.category).sum ≤ 8) (hv : hCp h a0 sp a dp n = some h1) (hd : decode (mCd y) pc = .ok (.invokestatic idx, 3))
    (kk : h1.length = h.length → hSz h1 = hSz h → ∀ H1 locs1, kOK D tc b base H0 h1 H1 locs1 → W p L e R s m args below meth c H1 locs1 cells slots Q (F0 m (pc + 3) ls rest)) : W p L e R s m args below meth c H locs cells slots Q (F0 m pc ls (.int n :: .int dp :: .ref (cAd b base a) :: .int sp :: .ref (cAd b base a0) :: rest)) := by
  obtain ⟨hx, hb, hml, -, hown, hts, -, hfr, hlo⟩ := hc
  simp only [mRn, Bool.and_eq_true, decide_eq_true_eq] at hr
  unfold hCp at hv
  split at hv
  case h_2 => cases hv
  next t0 n0 f t1 n1 g e0 e1 =>
  split at hv
  case isFalse => cases hv
  next hcnd =>
  obtain ⟨rfl, rfl, h1', h2', h3', h4', h5'⟩ := hcnd
  cases hv
  have kk2 := kk (List.length_set ..) (hSz_set h a _ _ e1 rfl)
  clear kk
  rw [cAd_at e0 hw.2.2, cAd_at e1 hw.2.2]
  have nn : ∀ z : Int32, ¬ z < 0 → z.toInt = (z.toNatClampNeg : Int) := by
    intro z hz
    have hz0 : (0 : Int) ≤ z.toInt := by
      have := Int32.not_lt.mp hz
      simpa using Int32.le_iff_toInt_le.mp this
    show z.toInt = ((z.toInt.toNat : Nat) : Int)
    omega
  intro T hT X9
  have hc0 : H[base + a0]? = some (vp_cell (tc 0) (n0, .inl f)) := hw.1 a0 _ (cW_get e0)
  have hc1 : H[base + a]? = some (vp_cell (tc 0) (n1, .inl g)) := hw.1 a _ (cW_get e1)
  obtain ⟨-, k0, hk0, cm0, hkk0⟩ := (hg.1.2 0 _ rfl).1 n0 (fun j => .int (f j))
  obtain ⟨-, k1, hk1, cm1, hkk1⟩ := (hg.1.2 0 _ rfl).1 n1 (fun j => .int (g j))
  obtain ⟨vm', X', step⟩ := X9.arraycopy hx hown (hts _ (mN_get hf)) (hts _ (lw_in mAc_w.1 rfl)) (hts _ (lw_in mAc_w.2.1 rfl)) (hts _ (lw_in mAc_w.2.2 rfl)) (src := base + a0) (dst := base + a) (cs := vp_cell (tc 0) (n0, .inl f)) (cd := vp_cell (tc 0) (n1, .inl g)) (srcPos := sp) (destPos := dp) (n := n) (by rw [hT]; exact hc0) (by rw [hT]; exact hc1)
    (fun _ h => by cases h) (fun _ h => by cases h) (fun h => by cases h) (fun h => by cases h) hk0 hk1 hkk0 hkk1 (by simp [refKind]) h1' h2' h3'
    (by rw [nn sp h1', nn n h3']; show ¬ _ > ((arrV (tc 0) n0 (fun j => .int (f j))).slots.size : Int); rw [arrV_size]; omega)
    (by rw [nn dp h2', nn n h3']; show ¬ _ > ((arrV (tc 0) n1 (fun j => .int (g j))).slots.size : Int); rw [arrV_size]; omega)
    (fun vm₁ _ i hi => by
      have ee : (vp_cell (tc 0) (n0, .inl f)).slots.getD (sp.toNatClampNeg + i) .null = .int (f (sp.toNatClampNeg + i)) := by
        show (arrV (tc 0) n0 (fun j => .int (f j))).slots.getD _ _ = _
        rw [Array.getD_eq_getD_getElem?, arrV_read _ _ (by omega)]
        rfl
      refine ⟨?_, ?_⟩
      · rw [ee]; rfl
      · rw [ee]; exact trivial)
    (g := F0 m pc ls (.int n :: .int dp :: .ref (base + a) :: .int sp :: .ref (base + a0) :: rest)) rfl (by rw [hml]; exact hls) (rest := rest) rfl (by rw [hb]; exact hd) (by omega) (by
      have : nativeFrameWords "java/lang/System" "arraycopy" 5 = 7 := by decide
      rw [this]
      show 2 * 0 + _ + _ ≤ _
      omega)
  have ec : copied (vp_cell (tc 0) (n0, .inl f)) (vp_cell (tc 0) (n1, .inl g)) sp dp n = vp_cell (tc 0) (n1, .inl (va_cpy f g sp.toNatClampNeg dp.toNatClampNeg n.toNatClampNeg)) := va_copied (fun z => .int z) (tc 0) (tc 0) f g h4'
  rw [ec] at X' step
  have hl : base + a < H.size := (Array.getElem?_eq_some_iff.mp hc1).1
  have hheap : ((T.setVm vm').setCell (base + a) (vp_cell (tc 0) (n1, .inl (va_cpy f g sp.toNatClampNeg dp.toNatClampNeg n.toNatClampNeg)))).heap = H.setIfInBounds (base + a) (vp_cell (tc 0) (n1, .inl (va_cpy f g sp.toNatClampNeg dp.toNatClampNeg n.toNatClampNeg))) := by rw [← hT]; rfl
  have oq : ∀ q : Nat, q ≠ base + a → (H.setIfInBounds (base + a) (vp_cell (tc 0) (n1, .inl (va_cpy f g sp.toNatClampNeg dp.toNatClampNeg n.toNatClampNeg))))[q]? = H[q]? := fun q hq => by simp [Array.getElem?_setIfInBounds, Ne.symm hq]
  have sz : (H.setIfInBounds (base + a) (vp_cell (tc 0) (n1, .inl (va_cpy f g sp.toNatClampNeg dp.toNatClampNeg n.toNatClampNeg)))).size = H.size := by simp
  obtain ⟨t, a1, b1⟩ := kk2 _ _ ⟨wOK_set hw e1 (c1 := .inl (0, n1, .inl (va_cpy f g sp.toNatClampNeg dp.toNatClampNeg n.toNatClampNeg))) (show (H.setIfInBounds (base + a) _)[base + a]? = some _ by simp [Array.getElem?_setIfInBounds, hl]) sz oq, ⟨by rw [sz]; exact hS.1, fun q g1 g2 => by
      rw [oq q (fun e => g2 (by rw [e]; exact Nat.le_add_right _ _))]
      exact hS.2.1 q g1 g2, fun q hq => by
      rcases List.mem_append.mp hq with h | h
      · exact hS.2.2 q h
      · obtain ⟨z, -, hz⟩ := List.mem_map.mp h
        rw [← hz]
        exact Nat.le_add_right _ _⟩⟩ _ hheap X'
  exact ⟨t, step t a1, b1⟩
end ROW6
