/-! blocks of JArr: printed by a program -/
theorem i177_0 : decode (mCd 177) 0 = .ok (.iconst 0, 1) ∧ lk (mMsk 177) 0 = none := by decide +kernel
theorem i177_1 : decode (mCd 177) 1 = .ok (.istore_n 2, 1) ∧ lk (mMsk 177) 1 = none := by decide +kernel
theorem i177_2 : decode (mCd 177) 2 = .ok (.aload_n 0, 1) ∧ lk (mMsk 177) 2 = none := by decide +kernel
theorem i177_3 : decode (mCd 177) 3 = .ok (.arraylength, 1) ∧ lk (mMsk 177) 3 = none := by decide +kernel
theorem i177_4 : decode (mCd 177) 4 = .ok (.istore_n 3, 1) ∧ lk (mMsk 177) 4 = none := by decide +kernel
theorem i177_5 : decode (mCd 177) 5 = .ok (.iload_n 2, 1) ∧ lk (mMsk 177) 5 = some [true, true, true, true] := by decide +kernel
theorem i177_6 : decode (mCd 177) 6 = .ok (.iload_n 3, 1) ∧ lk (mMsk 177) 6 = none := by decide +kernel
theorem i177_7 : decode (mCd 177) 7 = .ok (.if_icmp .ge 13, 3) ∧ lk (mMsk 177) 7 = none := by decide +kernel
theorem i177_20 : decode (mCd 177) 20 = .ok (.return_, 1) ∧ lk (mMsk 177) 20 = none := by decide +kernel
theorem i177_10 : decode (mCd 177) 10 = .ok (.aload_n 0, 1) ∧ lk (mMsk 177) 10 = none := by decide +kernel
theorem i177_11 : decode (mCd 177) 11 = .ok (.iload_n 2, 1) ∧ lk (mMsk 177) 11 = none := by decide +kernel
theorem i177_12 : decode (mCd 177) 12 = .ok (.iload_n 1, 1) ∧ lk (mMsk 177) 12 = none := by decide +kernel
theorem i177_13 : decode (mCd 177) 13 = .ok (.iastore, 1) ∧ lk (mMsk 177) 13 = none := by decide +kernel
theorem i177_14 : decode (mCd 177) 14 = .ok (.iinc 2 1, 3) ∧ lk (mMsk 177) 14 = none := by decide +kernel
theorem i177_17 : decode (mCd 177) 17 = .ok (.goto (-12), 3) ∧ lk (mMsk 177) 17 = none := by decide +kernel
theorem f_JArr_fill_eq {a0 : Nat} {x1 : Int32} {n0 : Nat} (h_a0 : SH[a0]? = some (.inr (0, n0, none))) {S : Mem} : f_JArr_fill a0 x1 S = k_JArr_fill_5 a0 x1 0 (Int32.ofNat n0) S := by
  show cU (mV oS X0 177 0 [some (.ref a0), some (.int x1), none, none] [] S) = _
  refine V_iconst (c := cU) i177_0.1 (mM_n i177_0.2) (v := 0) rfl ?_
  refine V_istore_n (c := cU) i177_1.1 (mM_n i177_1.2) (l1 := [some (.ref a0), some (.int x1), some (.int 0), none])  (Nat.le_of_ble_eq_true rfl) rfl ?_
  refine V_aload_n (c := cU) i177_2.1 (mM_n i177_2.2) rfl rfl ?_
  refine V_alen (c := cU) i177_3.1 (mM_n i177_3.2) h_a0 (Nat.le_of_ble_eq_true rfl) rfl ?_
  refine V_istore_n (c := cU) i177_4.1 (mM_n i177_4.2) (l1 := [some (.ref a0), some (.int x1), some (.int 0), some (.int (Int32.ofNat n0))])  (Nat.le_of_ble_eq_true rfl) rfl ?_
  exact V_msk (l1 := [some (.ref a0), some (.int x1), some (.int 0), some (.int (Int32.ofNat n0))]) i177_5.2 rfl rfl
theorem k_JArr_fill_5_eq {a0 : Nat} {x1 : Int32} {x2 : Int32} {x3 : Int32} {n0 : Nat} (h_a0 : SH[a0]? = some (.inr (0, n0, none))) {S : Mem} : k_JArr_fill_5 a0 x1 x2 x3 S = if x3 ≤ x2 then some S else if inb x2 n0 = true then k_JArr_fill_5 a0 x1 (x2 + 1) x3 (u1 S a0 x2.toNatClampNeg x1) else none := by
  show cU (mV oS X0 177 5 [some (.ref a0), some (.int x1), some (.int x2), some (.int x3)] [] S) = _
  refine V_iload_n (c := cU) i177_5.1 (mM_s i177_5.2 rfl) rfl ?_
  refine V_iload_n (c := cU) i177_6.1 (mM_n i177_6.2) rfl ?_
  refine V_icmp_ge (c := cU) i177_7.1 (mM_n i177_7.2) rfl (fun _ => ?_) (fun _ => ?_)
  · exact V_vret i177_20.1 (mM_n i177_20.2) rfl
  · refine V_aload_n (c := cU) i177_10.1 (mM_n i177_10.2) rfl rfl ?_
    refine V_iload_n (c := cU) i177_11.1 (mM_n i177_11.2) rfl ?_
    refine V_iload_n (c := cU) i177_12.1 (mM_n i177_12.2) rfl ?_
    refine V_iastore (c := cU) (x1 := x1) i177_13.1 (mM_n i177_13.2) h_a0 rfl rfl rfl (fun _ => ?_)
    refine V_iinc (c := cU) i177_14.1 (mM_n i177_14.2) (l1 := [some (.ref a0), some (.int x1), some (.int (x2 + 1)), some (.int x3)]) rfl rfl rfl ?_
    refine V_goto (c := cU) i177_17.1 (mM_n i177_17.2) rfl ?_
    exact V_msk (l1 := [some (.ref a0), some (.int x1), some (.int (x2 + 1)), some (.int x3)]) i177_5.2 rfl rfl
