/-! the machine's run, over the kit's worlds -/
theorem gOK_warm {D : va_G} {tc : Nat → ClassId} {b : Nat} {X : mX} {s U : State} (hg : gOK D tc b X s) (hW : s.WarmedH U.vm) (hh : U.heap[b]? = s.heap[b]?) : gOK D tc b X U := by
  obtain ⟨g1, g2, g3, g4, g5⟩ := hg
  exact ⟨va_K.moved hW.alike g1, fun a i c n d hw => va_Nw.warmF hW (g2 a i c n d hw), fun a i x hw => va_Nw.warmM hW (g3 a i x hw), va_AO.moved hW.alike g4, (va_X.moved hW.alike g5).kept hh⟩
theorem gOK_calling {D : va_G} {tc : Nat → ClassId} {b : Nat} {X : mX} {U : State} {g : JFrame} {mk : MethodId} {a : Array Value} (hg : gOK D tc b X U) : gOK D tc b X (U.calling g mk a) := by
  obtain ⟨g1, g2, g3, g4, g5⟩ := hg
  exact ⟨va_K.moved (u := U) (U := U.calling g mk a) (Vm.Alike.refl U.vm) g1, fun x i c n d hw => va_Nw.same rfl rfl (g2 x i c n d hw), fun x i z hw => va_Nw.same rfl rfl (g3 x i z hw), va_AO.moved (u := U) (U := U.calling g mk a) (Vm.Alike.refl U.vm) g4, va_X.moved (u := U) (U := U.calling g mk a) (Vm.Alike.refl U.vm) g5⟩
theorem mRo_inv {ty : Option FieldType} {x : Int32} (h : mRo ty x = true) : ∃ t, ty = some t ∧ narrow t (.int x) = .int x := by
  unfold mRo at h
  split at h
  · exact ⟨_, rfl, rfl⟩
  · refine ⟨_, rfl, ?_⟩
    simp only [Bool.or_eq_true, decide_eq_true_eq] at h
    rcases h with rfl | rfl
    · decide
    · decide
  · obtain ⟨q, hq, rfl⟩ := vp_in_of (inb_in h) (by decide)
    exact ⟨_, rfl, (pk_charN hq).1⟩
  · cases h
theorem mRa_inv {ty : Option FieldType} (h : mRa ty = true) : ∃ t, ty = some t ∧ ((∃ n, t = .object n) ∨ ∃ z, t = .array z) := by
  unfold mRa at h
  split at h
  · next n => exact ⟨_, rfl, Or.inl ⟨n, rfl⟩⟩
  · next z => exact ⟨_, rfl, Or.inr ⟨z, rfl⟩⟩
  · cases h
theorem G_good {w : Cond} (h : w ∈ lw_G) : goodWord w = true := (List.mem_filter.mp h).2
def mWs (y : Nat) : List Cond := Cond.code (mNm y) (mCd y) (mMx y) (mRt y) :: lw_G
theorem mWs_good {y : Nat} (hy : y < mCount) (hl : (mNm y).cls ≠ "CarryAlikeLaw") : GoodIn lw_G (mWs y) := by
  intro w hw
  have hm : w ∈ lw_G := by
    rcases List.mem_cons.mp hw with rfl | h
    · exact (mY_get hy hl).1
    · exact h
  exact ⟨hm, good_of_word (G_good hm)⟩
def mRoom (y mc ms : Nat) : Room := { frames := mFr y, cells := mc, slots := ms, locals := mLo y }
def mPc (D : va_G) (tc : Nat → ClassId) (b base : Nat) (X : mX) (as : List Value) (h : mH) : Array Value → State → Prop := fun a U => a = (as.map (cV b base)).toArray ∧ gOK D tc b X U ∧ wOK D tc b base h U.heap ∧ b < U.heap.size
def mQc (D : va_G) (tc : Nat → ClassId) (b base : Nat) (v : Option Value) (h : mH) : Array Value → State → Outcome → State → Prop := fun _ st o t => o = .returned (v.map (cV b base)) ∧ wOK D tc b base h t.heap ∧ va_F (fun q : Nat => base ≤ q) st t
/-- what the induction says of runs of n steps -/
def RunsOK (n : Nat) : Prop := ∀ {y pc : Nat} {l : mL} {st : List Value} {h : mH} {X : mX} {v : Option Value} {h' : mH}, mRun oH X n y pc l st h = some (v, h') →
  ∀ {p : Program} {L : Launch} {e : Env} {R : Room} {s : State} {m : MethodId} {args : Array Value} {below : List Frame} {meth : Method} {c : Code} {H : Heap} {locs : List Loc} {cells slots : Nat} {Q : State → Prop} {D : va_G} {tc : Nat → ClassId} {b base : Nat} {ls : Array Slot},
  cOK p R s m args meth c y → gOK D tc b X s → b < s.heap.size → ¬ base ≤ b → wOK D tc b base h H → va_S (fun q : Nat => base ≤ q) s.heap H locs → lOK b base ls (mMx y) l → cells + (h'.length - h.length) ≤ R.cells → slots + (hSz h' - hSz h) ≤ R.slots →
  (∀ H1 locs1 ls1 pc1, kOK D tc b base s.heap h' H1 locs1 → retOK y v pc1 → W p L e R s m args below meth c H1 locs1 (cells + (h'.length - h.length)) (slots + (hSz h' - hSz h)) Q (F0 m pc1 ls1 ((v.toList).map (cV b base)))) →
  W p L e R s m args below meth c H locs cells slots Q (F0 m pc ls (st.map (cV b base)))
theorem met_of {n : Nat} (IH : RunsOK n) {y : Nat} (hy : y < mCount) (hl : (mNm y).cls ≠ "CarryAlikeLaw") {as : List Value} {X : mX} {h h' : mH} {v : Option Value} (hr : mRun oH X n y 0 (mEnt as (mMx y)) [] h = some (v, h')) (has : (mEn as).length ≤ mMx y) (L : Launch) {D : va_G} {tc : Nat → ClassId} {b base : Nat} (hbb : ¬ base ≤ b) :
    Met L (mNm y) (mWs y) (mRoom y (h'.length - h.length) (hSz h' - hSz h)) (mPc D tc b base X as h) (mQc D tc b base v h') (h'.length - h.length) (hSz h' - hSz h) (fun q : Nat => base ≤ q) := by
  obtain ⟨a1, a2, a3, a4, a5, a6, a7, a8, a9⟩ := mY_get hy hl
  refine Met.ofW (cc := mCd y) (maxL := mMx y) (ret := mRt y) a7 rfl ?_
  intro p e s m args below meth c s₁ B hml hv
  obtain ⟨rfl, hg, hw, hb1⟩ := hv
  have hts := atoms_spec (ws := mWs y) B.pre
  have hown : s.vm.findClass (mCn (mOwn y)) = some m.cls := by rw [a8]; exact findClass_of_methodNamed B.named
  have hlocks := B.notSynchronized
  have hx := B.exec
  have hb := B.bytes
  have hret := B.returns
  rw [lg_entry_eq]
  have hl0 := lOK_entry (b := b) (base := base) (n := mMx y) has
  have hC : cOK p (headSpec (mWs y) (mRoom y (h'.length - h.length) (hSz h' - hSz h))).room s m (as.map (cV b base)).toArray meth c y := ⟨hx, hb, hml, hret, hown, fun w hw => hts w (List.mem_cons_of_mem _ hw), fun hi => (name_of_methodNamed B.named B.method).1.trans (a9 hi).1, Nat.le_refl _, Nat.le_refl _⟩
  refine IH hr (D := D) (tc := tc) (b := b) (base := base) (st := []) hC hg hb1 hbb hw va_S.rf hl0 (by rw [Nat.zero_add]; exact Nat.le_refl _) (by rw [Nat.zero_add]; exact Nat.le_refl _) ?_
  intro H1 locs1 ls1 pc1 hk hro
  rw [Nat.zero_add, Nat.zero_add]
  rcases hro with ⟨x, rfl, e1, hd⟩ | ⟨x, rfl, e1, hd⟩ | ⟨x, rfl, e2, e1, hd⟩ | ⟨rfl, e1, hd⟩
  · obtain ⟨t, e3, e4⟩ := mRo_inv e1
    exact W.zret hx hb (hret.trans e3) e4 (fun t ht hW => ⟨rfl, by rw [ht]; exact hk.1, hk.2.F ht⟩) hk.2.2.2 hd
  · exact W.lret hx hb (hret.trans e1) (fun t ht hW => ⟨rfl, by rw [ht]; exact hk.1, hk.2.F ht⟩) hk.2.2.2 hd
  · obtain ⟨t, e3, e4⟩ := mRa_inv e1
    refine W.aret hx hb (hret.trans e3) e4 ?_ (fun t ht hW => ⟨rfl, by rw [ht]; exact hk.1, hk.2.F ht⟩) hk.2.2.2 hd
    rcases e2 with rfl | ⟨a, rfl⟩
    · exact Or.inl rfl
    · exact Or.inr ⟨_, rfl⟩
  · exact W.vret hx hb (hret.trans e1) (fun t ht hW => ⟨rfl, by rw [ht]; exact hk.1, hk.2.F ht⟩) hk.2.2.2 hd
theorem mPc_blind {D : va_G} {tc : Nat → ClassId} {b base : Nat} {X : mX} {as : List Value} {h : mH} : FrameBlind (mPc D tc b base X as h) := by
  intro a U g mk hq
  obtain ⟨q1, q2, q3, q4⟩ := hq
  exact ⟨q1, gOK_calling q2, q3, q4⟩
theorem run_ok : ∀ n, RunsOK n := by
  intro n
  induction n with
  | zero => intro y pc l st h X v h' hr; simp [mRun] at hr
  | succ n IH =>
    intro y pc l st h X v h' hr p L e R s m args below meth c H locs cells slots Q D tc b base ls hc hg hb1 hbb hw hS hl hR1 hR2 kret
    rw [mRun] at hr
    have hl := lOK_mask y pc hl
    generalize hml0 : mM y pc l = l0 at hr hl
    clear hml0
    cases hs : mStep oH X y pc l0 st h with
    | none => rw [hs] at hr; cases hr
    | some q =>
      rw [hs] at hr
      obtain ⟨ins, len, hd, h2⟩ := mStep_inv hs
      have h3 := mIns_sz h2
      rcases q with ⟨pc1, l1, st1, h1⟩ | z | ⟨y1, as, pc1, l1, st1, h1⟩
      · dsimp only at hr
        have h4 := mRun_sz n hr
        have h4a : h1.length ≤ h'.length := h4.1
        have h4b : hSz h1 ≤ hSz h' := h4.2
        have h3a : h.length ≤ h1.length := h3.1
        have h3b : hSz h ≤ hSz h1 := h3.2
        refine step_ok hc hg hb1 hbb hw hS hl h2 hd (by omega) (by omega) ?_
        intro _ _ H1 locs1 ls1 hk hl1
        have ea : cells + (h1.length - h.length) + (h'.length - h1.length) = cells + (h'.length - h.length) := by omega
        have eb : slots + (hSz h1 - hSz h) + (hSz h' - hSz h1) = slots + (hSz h' - hSz h) := by omega
        refine IH hr hc hg hb1 hbb hk.1 hk.2 hl1 (by omega) (by omega) ?_
        rw [ea, eb]
        exact kret
      · obtain ⟨g1, g2, g3⟩ := mIns_ret hd h2
        cases hr
        subst g2
        have g3' : h' = h := g3
        subst g3'
        have k := kret H locs ls pc ⟨hw, hS⟩ g1
        simpa only [Nat.sub_self, Nat.add_zero] using k
      · have h3' : h1 = h := h3
        subst h3'
        dsimp only at hr
        cases hcl : mRun oH X n y1 0 (mEnt as (mMx y1)) [] h1 with
        | none => rw [hcl] at hr; cases hr
        | some vr =>
          obtain ⟨v1, h5⟩ := vr
          rw [hcl] at hr
          dsimp only at hr
          have z1 := mRun_sz n hcl
          have z2 := mRun_sz n hr
          have z1a : h1.length ≤ h5.length := z1.1
          have z1b : hSz h1 ≤ hSz h5 := z1.2
          have z2a : h5.length ≤ h'.length := z2.1
          have z2b : hSz h5 ≤ hSz h' := z2.2
          have hx := hc.1
          have hbd := hc.2.1
          have hmx := hc.2.2.1
          have hown := hc.2.2.2.2.1
          have hts := hc.2.2.2.2.2.1
          have hF1 := hc.2.2.2.2.2.2.2.1
          have hF2 := hc.2.2.2.2.2.2.2.2
          have hHs : H[b]? = s.heap[b]? := hS.2.1 b hb1 hbb
          -- what every call gives
          have key : ∀ (rest : List Value) (st0 : List Value), rest = st1.map (cV b base) → va_Run p L e R s m args below meth c H locs cells slots (h5.length - h1.length) (hSz h5 - hSz h1) (F0 m pc ls st0) rest (mQc D tc b base v1 h5 (as.map (cV b base)).toArray) (fun q : Nat => base ≤ q) → pc1 = pc + 3 → l1 = l0 → W p L e R s m args below meth c H locs cells slots Q (F0 m pc ls st0) := by
            intro rest st0 hrest hrun hpc hl1
            subst hrest
            subst hpc
            subst hl1
            intro T hT X9
            obtain ⟨v', st₀, t, T', Lc, e0, X', hL, e1, e2, ⟨hv, hw2, hF⟩, stp⟩ := hrun T hT X9
            have hv' : v' = v1.map (cV b base) := Outcome.returned.inj hv
            subst hv'
            have hsz : H.size ≤ t.heap.size := by rw [← e0]; exact hF.1
            have hkeep : ∀ q : Nat, q < H.size → ¬ base ≤ q → t.heap[q]? = H[q]? := by rw [← e0]; exact hF.2
            have hS' : va_S (fun q : Nat => base ≤ q) s.heap T'.heap (locs ++ Lc) := by
              rw [e1]
              refine ⟨Nat.le_trans hS.1 hsz, fun q g1 g2 => ?_, fun q hq => ?_⟩
              · rw [hkeep q (Nat.lt_of_lt_of_le g1 hS.1) g2]
                exact hS.2.1 q g1 g2
              · rcases List.mem_append.mp hq with h | h
                · exact hS.2.2 q h
                · exact hL q h
            have ea : cells + (h5.length - h1.length) + (h'.length - h5.length) = cells + (h'.length - h1.length) := by omega
            have eb : slots + (hSz h5 - hSz h1) + (hSz h' - hSz h5) = slots + (hSz h' - hSz h1) := by omega
            have k := IH hr (H := T'.heap) (locs := locs ++ Lc) (cells := cells + (h5.length - h1.length)) (slots := slots + (hSz h5 - hSz h1)) (ls := ls) (Q := Q) (below := below) (e := e) (L := L) hc hg hb1 hbb (by rw [e1]; exact hw2) hS' hl (by omega) (by omega) (by rw [ea, eb]; exact kret)
            obtain ⟨t2, c1, c2⟩ := k T' rfl X'
            refine ⟨t2, stp t2 ?_, c2⟩
            have ez : (v1.map (cV b base)).toList ++ st1.map (cV b base) = (v1.toList ++ st1).map (cV b base) := by cases v1 <;> rfl
            show Steps p.tables e below (T'.setTop (F0 m (pc + 3) ls ((v1.map (cV b base)).toList ++ st1.map (cV b base)))) t2
            rw [ez]
            exact c1
          have preS : PreS s H (mPc D tc b base X as h1) (as.map (cV b base)) := ⟨mPc_blind, fun U hU hW => ⟨rfl, gOK_warm hg hW (by rw [hU]; exact hHs), by rw [hU]; exact hw, by rw [hU]; exact Nat.lt_of_lt_of_le hb1 hS.1⟩⟩
          have hcells : cells + (h5.length - h1.length) ≤ R.cells ∧ slots + (hSz h5 - hSz h1) ≤ R.slots := by omega
          have fix : CallFix p m c (mCd y) (mMx y) s args lw_G (mCn (mOwn y)) := ⟨hx, hbd, hmx, hown, hts⟩
          rcases mIns_call h2 with ⟨idx, rfl, hcv⟩ | ⟨idx, rfl, hcv⟩ | ⟨idx, rfl, hcv⟩
          · obtain ⟨f1, rfl, f2, f3, f4, hsta, ⟨a, f5, f6, f7⟩, f8, f9, f10, f11, -⟩ := mCv_call hcv
            obtain ⟨hy, hnl, hlink⟩ := mM_get f1
            obtain ⟨a1, a2, a3, a4, a5, a6, a7, a8, a9⟩ := mY_get hy hnl
            simp only [mRm, Bool.and_eq_true, decide_eq_true_eq] at f9
            have hM := met_of IH hy hnl hcl f8 L (D := D) (tc := tc) (b := b) (base := base) hbb
            have f7' := f7 rfl
            unfold hCl at f7'
            split at f7'
            · next c9 fs9 e9 =>
              have hc9 : c9 = mOwn y1 := Option.some.inj f7'
              subst hc9
              obtain ⟨r9, hr9⟩ : ∃ r9, vwCl[mOwn y1]? = some r9 := by
                obtain ⟨r', q1, -⟩ := hw.1 a _ (cW_get e9)
                exact ⟨r', q1⟩
              have hrn : r9.1 = (mNm y1).cls := (mL_get hr9).2.2.2.2.2.symm.trans a8
              obtain ⟨cell, w1, w2, w3⟩ := va_recv hg.1 hw.1 hr9 (cW_get e9)
              rw [hrn] at w3
              have hsp := List.take_append_drop (mNp y1) st
              rw [f5] at hsp
              have hstk : st.map (cV b base) = (((st.take (mNp y1)).reverse).map (cV b base)).reverse ++ .ref (base + a) :: st1.map (cV b base) := by
                rw [List.map_reverse, List.reverse_reverse]
                conv => lhs; rw [← hsp]
                rw [List.map_append]
                simp [cV, cAd_at e9 hw.2.2]
              have has : as.map (cV b base) = .ref (base + a) :: ((st.take (mNp y1)).reverse).map (cV b base) := by
                rw [f6]; simp [cV, cAd_at e9 hw.2.2]
              have hn : (((st.take (mNp y1)).reverse).map (cV b base)).length = mNp y1 := by simp; omega
              have preV : PreV s H (mNm y1).cls (base + a) (mPc D tc b base X as h1) (((st.take (mNp y1)).reverse).map (cV b base)) := ⟨preS.1, ⟨cell, w1, w2, w3⟩, fun U hU hW => by rw [← has]; exact preS.2 U hU hW⟩
              have hinst := hts _ (a4 hsta)
              have hsel := hts _ (a5 hsta f4)
              have ws := pay_in hts (mWs_good hy hnl)
              have hlen : ∀ sig, parseMethodDescriptor (mNm y1).desc = some sig → mNp y1 = sig.parameters.length := fun sig hsg => by
                have := a6.2.2
                rw [hsg] at this
                exact (Option.some.inj this).symm
              have hsm2 := mSm_inv f3
              rw [← cV_sum b base] at hsm2
              rcases hlink with hlink | hlink
              · have hrun : va_Run p L e R s m args below meth c H locs cells slots (h5.length - h1.length) (hSz h5 - hSz h1) (F0 m pc ls (st.map (cV b base))) (st1.map (cV b base)) (mQc D tc b base v1 h5 (Value.ref (base + a) :: ((st.take (mNp y1)).reverse).map (cV b base)).toArray) (fun q : Nat => base ≤ q) := va_runV fix hM ⟨⟨rfl, rfl, by show mFr y1 + 1 ≤ R.frames; omega, by show 8 + (mMx y1 + 11) + mLo y1 ≤ R.locals; omega, ws, List.mem_cons_self, hts _ a1, hts _ a2, ⟨a6.1, a6.2.1⟩, hlen, hts _ hlink⟩, hinst, hsel⟩ preV rfl hn (lOK_size hl) hstk (lv_room hsm2) hd hcells
                rw [← has] at hrun
                exact key _ _ rfl hrun f10 f11
              · have hrun : va_Run p L e R s m args below meth c H locs cells slots (h5.length - h1.length) (hSz h5 - hSz h1) (F0 m pc ls (st.map (cV b base))) (st1.map (cV b base)) (mQc D tc b base v1 h5 (Value.ref (base + a) :: ((st.take (mNp y1)).reverse).map (cV b base)).toArray) (fun q : Nat => base ≤ q) := va_runVN fix hM ⟨⟨⟨rfl, rfl, by show mFr y1 + 1 ≤ R.frames; omega, by show 8 + (mMx y1 + 11) + mLo y1 ≤ R.locals; omega, ws, List.mem_cons_self⟩, hts _ a1, hts _ a2, ⟨a6.1, a6.2.1⟩, hlen, va_Nw.use rfl (hg.2.2.1 _ _ _ hlink)⟩, hinst, hsel⟩ preV rfl hn (lOK_size hl) hstk (lv_room hsm2) hd hcells
                rw [← has] at hrun
                exact key _ _ rfl hrun f10 f11
            · cases f7'
          · obtain ⟨f1, rfl, f2, f3, f4, hsta, ⟨a, f5, f6, -⟩, f8, f9, f10, f11, -⟩ := mCv_call hcv
            obtain ⟨hy, hnl, hlink⟩ := mM_get f1
            obtain ⟨a1, a2, a3, a4, a5, a6, a7, a8, a9⟩ := mY_get hy hnl
            simp only [mRm, Bool.and_eq_true, decide_eq_true_eq] at f9
            have hM := met_of IH hy hnl hcl f8 L (D := D) (tc := tc) (b := b) (base := base) hbb
            have hsp := List.take_append_drop (mNp y1) st
            rw [f5] at hsp
            have hstk : st.map (cV b base) = (((st.take (mNp y1)).reverse).map (cV b base)).reverse ++ .ref (cAd b base a) :: st1.map (cV b base) := by
              rw [List.map_reverse, List.reverse_reverse]
              conv => lhs; rw [← hsp]
              rw [List.map_append]
              rfl
            have has : as.map (cV b base) = .ref (cAd b base a) :: ((st.take (mNp y1)).reverse).map (cV b base) := by
              rw [f6]; rfl
            have hn : (((st.take (mNp y1)).reverse).map (cV b base)).length = mNp y1 := by simp; omega
            have hrt : mRt y1 = none := (a9 f4).2
            have hinst := hts _ (a4 hsta)
            have ws := pay_in hts (mWs_good hy hnl)
            have hlen : ∀ sig, parseMethodDescriptor (mNm y1).desc = some sig → mNp y1 = sig.parameters.length := fun sig hsg => by
              have := a6.2.2
              rw [hsg] at this
              exact (Option.some.inj this).symm
            have hsm2 := mSm_inv f3
            rw [← cV_sum b base] at hsm2
            have preI : PreS s H (mPc D tc b base X as h1) (.ref (cAd b base a) :: ((st.take (mNp y1)).reverse).map (cV b base)) := by rw [← has]; exact preS
            have hcode : Cond.code (mNm y1) (mCd y1) (mMx y1) none ∈ mWs y1 := by rw [← hrt]; exact List.mem_cons_self
            have hcode2 : (Cond.code (mNm y1) (mCd y1) (mMx y1) none).before args s = true := by rw [← hrt]; exact hts _ a1
            rcases hlink with hlink | hlink
            · have hrun : va_Run p L e R s m args below meth c H locs cells slots (h5.length - h1.length) (hSz h5 - hSz h1) (F0 m pc ls (st.map (cV b base))) (st1.map (cV b base)) (mQc D tc b base v1 h5 (Value.ref (cAd b base a) :: ((st.take (mNp y1)).reverse).map (cV b base)).toArray) (fun q : Nat => base ≤ q) := va_runI fix hM ⟨⟨rfl, rfl, by show mFr y1 + 1 ≤ R.frames; omega, by show 8 + (mMx y1 + 11) + mLo y1 ≤ R.locals; omega, ws, hcode, hcode2, hts _ a2, ⟨a6.1, a6.2.1⟩, hlen, hts _ hlink⟩, (a9 f4).1, hinst⟩ preI rfl hn (lOK_size hl) hstk (lv_room hsm2) hd hcells
              rw [← has] at hrun
              exact key _ _ rfl hrun f10 f11
            · have hrun : va_Run p L e R s m args below meth c H locs cells slots (h5.length - h1.length) (hSz h5 - hSz h1) (F0 m pc ls (st.map (cV b base))) (st1.map (cV b base)) (mQc D tc b base v1 h5 (Value.ref (cAd b base a) :: ((st.take (mNp y1)).reverse).map (cV b base)).toArray) (fun q : Nat => base ≤ q) := va_runIN fix hM ⟨⟨⟨rfl, rfl, by show mFr y1 + 1 ≤ R.frames; omega, by show 8 + (mMx y1 + 11) + mLo y1 ≤ R.locals; omega, ws, hcode⟩, hcode2, hts _ a2, ⟨a6.1, a6.2.1⟩, hlen, va_Nw.use rfl (hg.2.2.1 _ _ _ hlink)⟩, (a9 f4).1, hinst⟩ preI rfl hn (lOK_size hl) hstk (lv_room hsm2) hd hcells
              rw [← has] at hrun
              exact key _ _ rfl hrun f10 f11
          · obtain ⟨f1, rfl, f2, f3, f4, f5, f6, f8, f9, f10, f11, -⟩ := mCi_call hcv
            obtain ⟨hy, hnl, hlink⟩ := mM_get f1
            obtain ⟨a1, a2, a3, a4, a5, a6, a7, a8, a9⟩ := mY_get hy hnl
            simp only [mRm, Bool.and_eq_true, decide_eq_true_eq] at f9
            have hM := met_of IH hy hnl hcl f8 L (D := D) (tc := tc) (b := b) (base := base) hbb
            have hsp := List.take_append_drop (mNp y1) st
            rw [← f5] at hsp
            have hstk : st.map (cV b base) = (as.map (cV b base)).reverse ++ st1.map (cV b base) := by
              rw [f6, List.map_reverse, List.reverse_reverse]
              conv => lhs; rw [← hsp]
              rw [List.map_append]
            have hn : (as.map (cV b base)).length = mNp y1 := by rw [f6]; simp; omega
            have hstat := hts _ (a3 f4)
            have ws := pay_in hts (mWs_good hy hnl)
            have hlen : ∀ sig, parseMethodDescriptor (mNm y1).desc = some sig → mNp y1 = sig.parameters.length := fun sig hsg => by
              have := a6.2.2
              rw [hsg] at this
              exact (Option.some.inj this).symm
            have hsm2 := mSm_inv f3
            rw [← cV_sum b base] at hsm2
            rcases hlink with hlink | hlink
            · have hrun : va_Run p L e R s m args below meth c H locs cells slots (h5.length - h1.length) (hSz h5 - hSz h1) (F0 m pc ls (st.map (cV b base))) (st1.map (cV b base)) (mQc D tc b base v1 h5 (as.map (cV b base)).toArray) (fun q : Nat => base ≤ q) := va_runS fix hM ⟨⟨rfl, rfl, by show mFr y1 + 1 ≤ R.frames; omega, by show 8 + (mMx y1 + 11) + mLo y1 ≤ R.locals; omega, ws, List.mem_cons_self, hts _ a1, hts _ a2, ⟨a6.1, a6.2.1⟩, hlen, hts _ hlink⟩, hstat⟩ preS rfl hn (lOK_size hl) hstk (lv_room hsm2) hd hcells
              exact key _ _ rfl hrun f10 f11
            · have hrun : va_Run p L e R s m args below meth c H locs cells slots (h5.length - h1.length) (hSz h5 - hSz h1) (F0 m pc ls (st.map (cV b base))) (st1.map (cV b base)) (mQc D tc b base v1 h5 (as.map (cV b base)).toArray) (fun q : Nat => base ≤ q) := va_runSN fix hM ⟨⟨⟨rfl, rfl, by show mFr y1 + 1 ≤ R.frames; omega, by show 8 + (mMx y1 + 11) + mLo y1 ≤ R.locals; omega, ws, List.mem_cons_self⟩, hts _ a1, hts _ a2, ⟨a6.1, a6.2.1⟩, hlen, va_Nw.use rfl (hg.2.2.1 _ _ _ hlink)⟩, hstat, trivial⟩ preS rfl hn (lOK_size hl) hstk (lv_room hsm2) hd hcells
              exact key _ _ rfl hrun f10 f11
