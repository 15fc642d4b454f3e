/-! blocks of JArr: printed by a program -/
theorem i176_0 : decode (mCd 176) 0 = .ok (.iconst 0, 1) ∧ lk (mMsk 176) 0 = none := by decide +kernel
theorem i176_1 : decode (mCd 176) 1 = .ok (.istore_n 2, 1) ∧ lk (mMsk 176) 1 = none := by decide +kernel
theorem i176_2 : decode (mCd 176) 2 = .ok (.aload_n 0, 1) ∧ lk (mMsk 176) 2 = none := by decide +kernel
theorem i176_3 : decode (mCd 176) 3 = .ok (.arraylength, 1) ∧ lk (mMsk 176) 3 = none := by decide +kernel
theorem i176_4 : decode (mCd 176) 4 = .ok (.istore_n 3, 1) ∧ lk (mMsk 176) 4 = none := by decide +kernel
theorem i176_5 : decode (mCd 176) 5 = .ok (.iload_n 2, 1) ∧ lk (mMsk 176) 5 = some [true, true, true, true] := by decide +kernel
theorem i176_6 : decode (mCd 176) 6 = .ok (.iload_n 3, 1) ∧ lk (mMsk 176) 6 = none := by decide +kernel
theorem i176_7 : decode (mCd 176) 7 = .ok (.if_icmp .ge 13, 3) ∧ lk (mMsk 176) 7 = none := by decide +kernel
theorem i176_20 : decode (mCd 176) 20 = .ok (.return_, 1) ∧ lk (mMsk 176) 20 = none := by decide +kernel
theorem i176_10 : decode (mCd 176) 10 = .ok (.aload_n 0, 1) ∧ lk (mMsk 176) 10 = none := by decide +kernel
theorem i176_11 : decode (mCd 176) 11 = .ok (.iload_n 2, 1) ∧ lk (mMsk 176) 11 = none := by decide +kernel
theorem i176_12 : decode (mCd 176) 12 = .ok (.iload_n 1, 1) ∧ lk (mMsk 176) 12 = none := by decide +kernel
theorem i176_13 : decode (mCd 176) 13 = .ok (.iastore, 1) ∧ lk (mMsk 176) 13 = none := by decide +kernel
theorem i176_14 : decode (mCd 176) 14 = .ok (.iinc 2 1, 3) ∧ lk (mMsk 176) 14 = none := by decide +kernel
theorem i176_17 : decode (mCd 176) 17 = .ok (.goto (-12), 3) ∧ lk (mMsk 176) 17 = none := by decide +kernel
theorem f_JArr_fill_eq {a0 : Nat} {x1 : Int32} {n0 : Nat} (h_a0 : SH[a0]? = some (.inr (0, n0, none))) {S : Mem} : f_JArr_fill a0 x1 S = k_JArr_fill_5 a0 x1 0 (Int32.ofNat n0) S := by
  show cU (mV oS X0 176 0 [some (.ref a0), some (.int x1), none, none] [] S) = _
  refine V_iconst (c := cU) i176_0.1 (mM_n i176_0.2) (v := 0) rfl ?_
  refine V_istore_n (c := cU) i176_1.1 (mM_n i176_1.2) (l1 := [some (.ref a0), some (.int x1), some (.int 0), none])  (Nat.le_of_ble_eq_true rfl) rfl ?_
  refine V_aload_n (c := cU) i176_2.1 (mM_n i176_2.2) rfl rfl ?_
  refine V_alen (c := cU) i176_3.1 (mM_n i176_3.2) h_a0 (Nat.le_of_ble_eq_true rfl) rfl ?_
  refine V_istore_n (c := cU) i176_4.1 (mM_n i176_4.2) (l1 := [some (.ref a0), some (.int x1), some (.int 0), some (.int (Int32.ofNat n0))])  (Nat.le_of_ble_eq_true rfl) rfl ?_
  exact V_msk (l1 := [some (.ref a0), some (.int x1), some (.int 0), some (.int (Int32.ofNat n0))]) i176_5.2 rfl rfl
theorem k_JArr_fill_5_eq {a0 : Nat} {x1 : Int32} {x2 : Int32} {x3 : Int32} {n0 : Nat} (h_a0 : SH[a0]? = some (.inr (0, n0, none))) {S : Mem} : k_JArr_fill_5 a0 x1 x2 x3 S = if x3 ≤ x2 then some S else if inb x2 n0 = true then k_JArr_fill_5 a0 x1 (x2 + 1) x3 (u1 S a0 x2.toNatClampNeg x1) else none := by
  show cU (mV oS X0 176 5 [some (.ref a0), some (.int x1), some (.int x2), some (.int x3)] [] S) = _
  refine V_iload_n (c := cU) i176_5.1 (mM_s i176_5.2 rfl) rfl ?_
  refine V_iload_n (c := cU) i176_6.1 (mM_n i176_6.2) rfl ?_
  refine V_icmp_ge (c := cU) i176_7.1 (mM_n i176_7.2) rfl (fun _ => ?_) (fun _ => ?_)
  · exact V_vret i176_20.1 (mM_n i176_20.2) rfl
  · refine V_aload_n (c := cU) i176_10.1 (mM_n i176_10.2) rfl rfl ?_
    refine V_iload_n (c := cU) i176_11.1 (mM_n i176_11.2) rfl ?_
    refine V_iload_n (c := cU) i176_12.1 (mM_n i176_12.2) rfl ?_
    refine V_iastore (c := cU) (x1 := x1) i176_13.1 (mM_n i176_13.2) h_a0 rfl rfl rfl (fun _ => ?_)
    refine V_iinc (c := cU) i176_14.1 (mM_n i176_14.2) (l1 := [some (.ref a0), some (.int x1), some (.int (x2 + 1)), some (.int x3)]) rfl rfl rfl ?_
    refine V_goto (c := cU) i176_17.1 (mM_n i176_17.2) rfl ?_
    exact V_msk (l1 := [some (.ref a0), some (.int x1), some (.int (x2 + 1)), some (.int x3)]) i176_5.2 rfl rfl
