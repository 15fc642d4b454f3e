/-! the law's own walk out of the machine's run -/
def yLaw : Nat := mCount - 1
def RunsLaw : Prop := ∀ X : mX, 1 ≤ X.1 → X.1 ≤ 2561 → ∃ n h', mRun oH X n yLaw 0 (mEnt [.ref mSid] 4) [] [] = some (some (.int 1), h') ∧ h'.length ≤ 600000 ∧ hSz h' ≤ 7302250
theorem hSz_nil : hSz [] = 0 := rfl
theorem yLaw_cd : mCd yLaw = code := rfl
theorem yLaw_mx : mMx yLaw = 4 := by decide +kernel
theorem yLaw_rt : mRt yLaw = some .boolean := rfl
theorem yLaw_cn : mCn (mOwn yLaw) = "CarryAlikeLaw" := by decide +kernel
theorem yLaw_ini : mIni yLaw = false := by decide +kernel
theorem yLaw_room : mFr yLaw ≤ 11 ∧ mLo yLaw ≤ 422 := by decide +kernel
theorem law_go (LR : RunsLaw) {p : Program} {e : Env} {s : State} {m : MethodId} {below : List Frame} {meth : Method} {c : Code} (l : Launch) {Q : State → Prop} {b L : Nat} {xs : Nat → Int32} (hL : L ≤ 2560)
    (hx : p.tables.exec = Jvm.exec) (hb : c.code = code) (hr : meth.sig.returnType = some .boolean) (hml : c.maxLocals = 4) (hown : s.vm.findClass "CarryAlikeLaw" = some m.cls) (hts : ∀ w ∈ lw_tbl, w.before #[Value.ref b] s = true) (hX : va_X b L xs s s.heap) (hbl : b < s.heap.size)
    (hend : ∀ (H1 : Heap) (pc : Nat) (ls : Array Slot), decode code pc = .ok (.ireturn, 1) → W p l e room_1 s m #[Value.ref b] below meth c H1 [] 600000 7302250 Q (F0 m pc ls [.int 1])) :
    W p l e room_1 s m #[Value.ref b] below meth c s.heap [] 0 0 Q (entryFrame m ([Value.ref b] : List Value).toArray 4) := by
  obtain ⟨n, h', hrun, hz1, hz2⟩ := LR (L + 1, xs) (Nat.succ_pos L) (Nat.succ_le_succ hL)
  have htG : ∀ w ∈ lw_G, w.before #[Value.ref b] s = true := fun w hw => hts w (List.mem_filter.mp hw).1
  have hD : ∀ k : Nat, ∃ z : ClassId × (Nat → Nat), ∀ q : vw_C, vwCl[k]? = some q → u_Kn s q.1 q.2.1 q.2.2 z.1 z.2 := by
    intro k
    cases hq : vwCl[k]? with
    | none => exact ⟨(0, fun _ => 0), fun q h => by cases h⟩
    | some q =>
      obtain ⟨l1, l2, l3, -⟩ := mL_get hq
      obtain ⟨cC, iS, hK⟩ := u_known htG l3 (htG _ l1)
      exact ⟨(cC, iS), fun q' h => by cases h; exact hK⟩
  have hA : ∀ t : Nat, ∃ cA : ClassId, ∀ ty, mTys[t]? = some ty → ArrOfT s cA ty ∧ va_RA s cA ty := by
    intro t
    have prim : ∀ ty : FieldType, (Cond.arrayClass ty).before #[Value.ref b] s = true → (∀ U cA, va_RA U cA ty = (U.vm.findClass ("[" ++ ty.toString) = some cA)) → ∃ cA : ClassId, ArrOfT s cA ty ∧ va_RA s cA ty := by
      intro ty h1 h2
      obtain ⟨cA, kA, comp, f1, f2, f3⟩ := Cond.arrayClass_spec h1
      exact ⟨cA, fun n z => ⟨(fun k h => by cases h), kA, f2, comp, f3⟩, by rw [h2]; exact f1⟩
    match t with
    | 0 => obtain ⟨cA, h⟩ := prim .int (hts _ (List.mem_of_getElem? mAr_w.1)) (fun _ _ => rfl); exact ⟨cA, fun ty e => by cases e; exact h⟩
    | 1 => obtain ⟨cA, h⟩ := prim .boolean (hts _ (List.mem_of_getElem? mAr_w.2.1)) (fun _ _ => rfl); exact ⟨cA, fun ty e => by cases e; exact h⟩
    | 2 => obtain ⟨cA, h⟩ := prim .char (hts _ (List.mem_of_getElem? mAr_w.2.2.1)) (fun _ _ => rfl); exact ⟨cA, fun ty e => by cases e; exact h⟩
    | 3 => obtain ⟨cA, h⟩ := prim .byte (hts _ (List.mem_of_getElem? mAr_w.2.2.2.1)) (fun _ _ => rfl); exact ⟨cA, fun ty e => by cases e; exact h⟩
    | 4 =>
      obtain ⟨comp, cA, kA, f1, -, f2, f3, f4⟩ := Cond.arrayOver_spec (hts _ (List.mem_of_getElem? mAr_w.2.2.2.2))
      exact ⟨cA, fun ty e => by cases e; exact ⟨fun n z => ⟨(fun k h => by cases h), kA, f2, comp, f3⟩, kA, comp, f2, f3, f1, f4⟩⟩
    | t + 5 => exact ⟨0, fun ty e => by simp [mTys] at e⟩
  have hg : gOK (fun k => (Classical.choose (hD k)).1, fun k => (Classical.choose (hD k)).2) (fun t => Classical.choose (hA t)) b (L + 1, xs) s := by
    refine ⟨⟨fun k q hq => Classical.choose_spec (hD k) q hq, fun k q hq => ?_⟩, fun a i c n d hw => va_Nw.of rfl (hts _ hw), fun a i x hw => va_Nw.of rfl (hts _ hw), va_AO.of (A := #[Value.ref b]) (hts _ (List.mem_of_getElem? mAr_w.2.2.2.2)), hX⟩
    match k, hq with
    | 0, hq => cases hq; exact Classical.choose_spec (hA 0) _ rfl
    | 1, hq => cases hq; exact Classical.choose_spec (hA 1) _ rfl
    | 2, hq => cases hq; exact Classical.choose_spec (hA 2) _ rfl
    | 3, hq => cases hq; exact Classical.choose_spec (hA 3) _ rfl
    | 4, hq => cases hq; exact Classical.choose_spec (hA 4) _ rfl
    | k + 5, hq => simp [tysL] at hq
  have hw : wOK (fun k => (Classical.choose (hD k)).1, fun k => (Classical.choose (hD k)).2) (fun t => Classical.choose (hA t)) b s.heap.size [] s.heap := ⟨fun k q h => by simp [cW] at h, rfl, Nat.zero_le _⟩
  have hc : cOK p room_1 s m #[Value.ref b] meth c yLaw := ⟨hx, hb, by rw [hml, yLaw_mx], hr, by rw [yLaw_cn]; exact hown, htG, fun h => (by rw [yLaw_ini] at h; cases h), yLaw_room.1, yLaw_room.2⟩
  rw [lg_entry_eq]
  have hl0 := lOK_entry (b := b) (base := s.heap.size) (n := 4) (vs := [.ref mSid]) (by decide)
  have ev : ([Value.ref mSid].map (cV b s.heap.size)) = [.ref b] := by simp [cV, cAd]
  rw [ev] at hl0
  have hl1 : lOK b s.heap.size ((lg_sl [.ref b] ++ List.replicate (4 - (lg_sl [.ref b]).length) Slot.unset).toArray) (mMx yLaw) (mEnt [.ref mSid] 4) := by rw [yLaw_mx]; exact hl0
  refine run_ok n hrun (st := []) hc hg hbl (Nat.not_le.mpr hbl) hw va_S.rf hl1 (by rw [Nat.zero_add]; exact Nat.le_trans (Nat.sub_le _ _) hz1) (by rw [Nat.zero_add]; exact Nat.le_trans (Nat.sub_le _ _) hz2) ?_
  intro H1 locs1 ls1 pc1 hk hro
  refine va_forget (fun q hq => hk.2.2.2 q hq) ?_
  refine W.widen (k := 600000) (n := 7302250) (by rw [Nat.zero_add]; exact Nat.le_trans (Nat.sub_le _ _) hz1) (by rw [Nat.zero_add]; exact Nat.le_trans (Nat.sub_le _ _) hz2) ?_
  rcases hro with ⟨x, e0, -, hd⟩ | ⟨x, e0, -⟩ | ⟨x, e0, e1, -⟩ | ⟨e0, -⟩
  · exact hend H1 pc1 ls1 hd
  · cases e0
  · cases e0
    rcases e1 with e1 | ⟨a, e1⟩ <;> cases e1
  · cases e0
