/-! blocks of JInt: printed by a program -/
theorem i175_0 : decode (mCd 175) 0 = .ok (.iload_n 0, 1) ∧ lk (mMsk 175) 0 = none := by decide +kernel
theorem i175_1 : decode (mCd 175) 1 = .ok (.iload_n 0, 1) ∧ lk (mMsk 175) 1 = none := by decide +kernel
theorem i175_2 : decode (mCd 175) 2 = .ok (.iconst 1, 1) ∧ lk (mMsk 175) 2 = none := by decide +kernel
theorem i175_3 : decode (mCd 175) 3 = .ok (.iushr, 1) ∧ lk (mMsk 175) 3 = none := by decide +kernel
theorem i175_4 : decode (mCd 175) 4 = .ok (.ldc_w 265, 3) ∧ lk (mMsk 175) 4 = none := by decide +kernel
theorem q175_265 : lk (mKt (mOwn 175)) 265 = some (.inl 1431655765) := by decide +kernel
theorem i175_7 : decode (mCd 175) 7 = .ok (.iand, 1) ∧ lk (mMsk 175) 7 = none := by decide +kernel
theorem i175_8 : decode (mCd 175) 8 = .ok (.isub, 1) ∧ lk (mMsk 175) 8 = none := by decide +kernel
theorem i175_9 : decode (mCd 175) 9 = .ok (.istore_n 0, 1) ∧ lk (mMsk 175) 9 = none := by decide +kernel
theorem i175_10 : decode (mCd 175) 10 = .ok (.iload_n 0, 1) ∧ lk (mMsk 175) 10 = none := by decide +kernel
theorem i175_11 : decode (mCd 175) 11 = .ok (.ldc_w 266, 3) ∧ lk (mMsk 175) 11 = none := by decide +kernel
theorem q175_266 : lk (mKt (mOwn 175)) 266 = some (.inl 858993459) := by decide +kernel
theorem i175_14 : decode (mCd 175) 14 = .ok (.iand, 1) ∧ lk (mMsk 175) 14 = none := by decide +kernel
theorem i175_15 : decode (mCd 175) 15 = .ok (.iload_n 0, 1) ∧ lk (mMsk 175) 15 = none := by decide +kernel
theorem i175_16 : decode (mCd 175) 16 = .ok (.iconst 2, 1) ∧ lk (mMsk 175) 16 = none := by decide +kernel
theorem i175_17 : decode (mCd 175) 17 = .ok (.iushr, 1) ∧ lk (mMsk 175) 17 = none := by decide +kernel
theorem i175_18 : decode (mCd 175) 18 = .ok (.ldc_w 266, 3) ∧ lk (mMsk 175) 18 = none := by decide +kernel
theorem i175_21 : decode (mCd 175) 21 = .ok (.iand, 1) ∧ lk (mMsk 175) 21 = none := by decide +kernel
theorem i175_22 : decode (mCd 175) 22 = .ok (.iadd, 1) ∧ lk (mMsk 175) 22 = none := by decide +kernel
theorem i175_23 : decode (mCd 175) 23 = .ok (.istore_n 0, 1) ∧ lk (mMsk 175) 23 = none := by decide +kernel
theorem i175_24 : decode (mCd 175) 24 = .ok (.iload_n 0, 1) ∧ lk (mMsk 175) 24 = none := by decide +kernel
theorem i175_25 : decode (mCd 175) 25 = .ok (.iload_n 0, 1) ∧ lk (mMsk 175) 25 = none := by decide +kernel
theorem i175_26 : decode (mCd 175) 26 = .ok (.iconst 4, 1) ∧ lk (mMsk 175) 26 = none := by decide +kernel
theorem i175_27 : decode (mCd 175) 27 = .ok (.iushr, 1) ∧ lk (mMsk 175) 27 = none := by decide +kernel
theorem i175_28 : decode (mCd 175) 28 = .ok (.iadd, 1) ∧ lk (mMsk 175) 28 = none := by decide +kernel
theorem i175_29 : decode (mCd 175) 29 = .ok (.ldc_w 267, 3) ∧ lk (mMsk 175) 29 = none := by decide +kernel
theorem q175_267 : lk (mKt (mOwn 175)) 267 = some (.inl 252645135) := by decide +kernel
theorem i175_32 : decode (mCd 175) 32 = .ok (.iand, 1) ∧ lk (mMsk 175) 32 = none := by decide +kernel
theorem i175_33 : decode (mCd 175) 33 = .ok (.istore_n 0, 1) ∧ lk (mMsk 175) 33 = none := by decide +kernel
theorem i175_34 : decode (mCd 175) 34 = .ok (.iload_n 0, 1) ∧ lk (mMsk 175) 34 = none := by decide +kernel
theorem i175_35 : decode (mCd 175) 35 = .ok (.iload_n 0, 1) ∧ lk (mMsk 175) 35 = none := by decide +kernel
theorem i175_36 : decode (mCd 175) 36 = .ok (.bipush 8, 2) ∧ lk (mMsk 175) 36 = none := by decide +kernel
theorem i175_38 : decode (mCd 175) 38 = .ok (.iushr, 1) ∧ lk (mMsk 175) 38 = none := by decide +kernel
theorem i175_39 : decode (mCd 175) 39 = .ok (.iadd, 1) ∧ lk (mMsk 175) 39 = none := by decide +kernel
theorem i175_40 : decode (mCd 175) 40 = .ok (.istore_n 0, 1) ∧ lk (mMsk 175) 40 = none := by decide +kernel
theorem i175_41 : decode (mCd 175) 41 = .ok (.iload_n 0, 1) ∧ lk (mMsk 175) 41 = none := by decide +kernel
theorem i175_42 : decode (mCd 175) 42 = .ok (.iload_n 0, 1) ∧ lk (mMsk 175) 42 = none := by decide +kernel
theorem i175_43 : decode (mCd 175) 43 = .ok (.bipush 16, 2) ∧ lk (mMsk 175) 43 = none := by decide +kernel
theorem i175_45 : decode (mCd 175) 45 = .ok (.iushr, 1) ∧ lk (mMsk 175) 45 = none := by decide +kernel
theorem i175_46 : decode (mCd 175) 46 = .ok (.iadd, 1) ∧ lk (mMsk 175) 46 = none := by decide +kernel
theorem i175_47 : decode (mCd 175) 47 = .ok (.istore_n 0, 1) ∧ lk (mMsk 175) 47 = none := by decide +kernel
theorem i175_48 : decode (mCd 175) 48 = .ok (.iload_n 0, 1) ∧ lk (mMsk 175) 48 = none := by decide +kernel
theorem i175_49 : decode (mCd 175) 49 = .ok (.bipush 63, 2) ∧ lk (mMsk 175) 49 = none := by decide +kernel
theorem i175_51 : decode (mCd 175) 51 = .ok (.iand, 1) ∧ lk (mMsk 175) 51 = none := by decide +kernel
theorem i175_52 : decode (mCd 175) 52 = .ok (.ireturn, 1) ∧ lk (mMsk 175) 52 = none := by decide +kernel
theorem f_JInt_bitCount_eq {x0 : Int32}  {S : Mem} : f_JInt_bitCount x0 S = some (((((((((x0 - (((x0.toUInt32 >>> ((1 : Int32).toUInt32 &&& Int32.toUInt32 31)).toInt32) &&& 1431655765)) &&& 858993459) + ((((x0 - (((x0.toUInt32 >>> ((1 : Int32).toUInt32 &&& Int32.toUInt32 31)).toInt32) &&& 1431655765)).toUInt32 >>> ((2 : Int32).toUInt32 &&& Int32.toUInt32 31)).toInt32) &&& 858993459)) + (((((x0 - (((x0.toUInt32 >>> ((1 : Int32).toUInt32 &&& Int32.toUInt32 31)).toInt32) &&& 1431655765)) &&& 858993459) + ((((x0 - (((x0.toUInt32 >>> ((1 : Int32).toUInt32 &&& Int32.toUInt32 31)).toInt32) &&& 1431655765)).toUInt32 >>> ((2 : Int32).toUInt32 &&& Int32.toUInt32 31)).toInt32) &&& 858993459)).toUInt32 >>> ((4 : Int32).toUInt32 &&& Int32.toUInt32 31)).toInt32)) &&& 252645135) + (((((((x0 - (((x0.toUInt32 >>> ((1 : Int32).toUInt32 &&& Int32.toUInt32 31)).toInt32) &&& 1431655765)) &&& 858993459) + ((((x0 - (((x0.toUInt32 >>> ((1 : Int32).toUInt32 &&& Int32.toUInt32 31)).toInt32) &&& 1431655765)).toUInt32 >>> ((2 : Int32).toUInt32 &&& Int32.toUInt32 31)).toInt32) &&& 858993459)) + (((((x0 - (((x0.toUInt32 >>> ((1 : Int32).toUInt32 &&& Int32.toUInt32 31)).toInt32) &&& 1431655765)) &&& 858993459) + ((((x0 - (((x0.toUInt32 >>> ((1 : Int32).toUInt32 &&& Int32.toUInt32 31)).toInt32) &&& 1431655765)).toUInt32 >>> ((2 : Int32).toUInt32 &&& Int32.toUInt32 31)).toInt32) &&& 858993459)).toUInt32 >>> ((4 : Int32).toUInt32 &&& Int32.toUInt32 31)).toInt32)) &&& 252645135).toUInt32 >>> ((8 : Int32).toUInt32 &&& Int32.toUInt32 31)).toInt32)) + ((((((((x0 - (((x0.toUInt32 >>> ((1 : Int32).toUInt32 &&& Int32.toUInt32 31)).toInt32) &&& 1431655765)) &&& 858993459) + ((((x0 - (((x0.toUInt32 >>> ((1 : Int32).toUInt32 &&& Int32.toUInt32 31)).toInt32) &&& 1431655765)).toUInt32 >>> ((2 : Int32).toUInt32 &&& Int32.toUInt32 31)).toInt32) &&& 858993459)) + (((((x0 - (((x0.toUInt32 >>> ((1 : Int32).toUInt32 &&& Int32.toUInt32 31)).toInt32) &&& 1431655765)) &&& 858993459) + ((((x0 - (((x0.toUInt32 >>> ((1 : Int32).toUInt32 &&& Int32.toUInt32 31)).toInt32) &&& 1431655765)).toUInt32 >>> ((2 : Int32).toUInt32 &&& Int32.toUInt32 31)).toInt32) &&& 858993459)).toUInt32 >>> ((4 : Int32).toUInt32 &&& Int32.toUInt32 31)).toInt32)) &&& 252645135) + (((((((x0 - (((x0.toUInt32 >>> ((1 : Int32).toUInt32 &&& Int32.toUInt32 31)).toInt32) &&& 1431655765)) &&& 858993459) + ((((x0 - (((x0.toUInt32 >>> ((1 : Int32).toUInt32 &&& Int32.toUInt32 31)).toInt32) &&& 1431655765)).toUInt32 >>> ((2 : Int32).toUInt32 &&& Int32.toUInt32 31)).toInt32) &&& 858993459)) + (((((x0 - (((x0.toUInt32 >>> ((1 : Int32).toUInt32 &&& Int32.toUInt32 31)).toInt32) &&& 1431655765)) &&& 858993459) + ((((x0 - (((x0.toUInt32 >>> ((1 : Int32).toUInt32 &&& Int32.toUInt32 31)).toInt32) &&& 1431655765)).toUInt32 >>> ((2 : Int32).toUInt32 &&& Int32.toUInt32 31)).toInt32) &&& 858993459)).toUInt32 >>> ((4 : Int32).toUInt32 &&& Int32.toUInt32 31)).toInt32)) &&& 252645135).toUInt32 >>> ((8 : Int32).toUInt32 &&& Int32.toUInt32 31)).toInt32)).toUInt32 >>> ((16 : Int32).toUInt32 &&& Int32.toUInt32 31)).toInt32)) &&& 63), S) := by
  show cI (mV oS X0 175 0 [some (.int x0)] [] S) = _
  refine V_iload_n (c := cI) i175_0.1 (mM_n i175_0.2) rfl ?_
  refine V_iload_n (c := cI) i175_1.1 (mM_n i175_1.2) rfl ?_
  refine V_iconst (c := cI) i175_2.1 (mM_n i175_2.2) (v := 1) rfl ?_
  refine V_iushr (c := cI) i175_3.1 (mM_n i175_3.2)  ?_
  refine V_ldc_w (c := cI) i175_4.1 (mM_n i175_4.2) q175_265 ?_
  refine V_iand (c := cI) i175_7.1 (mM_n i175_7.2)  ?_
  refine V_isub (c := cI) i175_8.1 (mM_n i175_8.2)  ?_
  refine V_istore_n (c := cI) i175_9.1 (mM_n i175_9.2) (l1 := [some (.int (x0 - (((x0.toUInt32 >>> ((1 : Int32).toUInt32 &&& Int32.toUInt32 31)).toInt32) &&& 1431655765)))])  (Nat.le_of_ble_eq_true rfl) rfl ?_
  refine V_iload_n (c := cI) i175_10.1 (mM_n i175_10.2) rfl ?_
  refine V_ldc_w (c := cI) i175_11.1 (mM_n i175_11.2) q175_266 ?_
  refine V_iand (c := cI) i175_14.1 (mM_n i175_14.2)  ?_
  refine V_iload_n (c := cI) i175_15.1 (mM_n i175_15.2) rfl ?_
  refine V_iconst (c := cI) i175_16.1 (mM_n i175_16.2) (v := 2) rfl ?_
  refine V_iushr (c := cI) i175_17.1 (mM_n i175_17.2)  ?_
  refine V_ldc_w (c := cI) i175_18.1 (mM_n i175_18.2) q175_266 ?_
  refine V_iand (c := cI) i175_21.1 (mM_n i175_21.2)  ?_
  refine V_iadd (c := cI) i175_22.1 (mM_n i175_22.2)  ?_
  refine V_istore_n (c := cI) i175_23.1 (mM_n i175_23.2) (l1 := [some (.int (((x0 - (((x0.toUInt32 >>> ((1 : Int32).toUInt32 &&& Int32.toUInt32 31)).toInt32) &&& 1431655765)) &&& 858993459) + ((((x0 - (((x0.toUInt32 >>> ((1 : Int32).toUInt32 &&& Int32.toUInt32 31)).toInt32) &&& 1431655765)).toUInt32 >>> ((2 : Int32).toUInt32 &&& Int32.toUInt32 31)).toInt32) &&& 858993459)))])  (Nat.le_of_ble_eq_true rfl) rfl ?_
  refine V_iload_n (c := cI) i175_24.1 (mM_n i175_24.2) rfl ?_
  refine V_iload_n (c := cI) i175_25.1 (mM_n i175_25.2) rfl ?_
  refine V_iconst (c := cI) i175_26.1 (mM_n i175_26.2) (v := 4) rfl ?_
  refine V_iushr (c := cI) i175_27.1 (mM_n i175_27.2)  ?_
  refine V_iadd (c := cI) i175_28.1 (mM_n i175_28.2)  ?_
  refine V_ldc_w (c := cI) i175_29.1 (mM_n i175_29.2) q175_267 ?_
  refine V_iand (c := cI) i175_32.1 (mM_n i175_32.2)  ?_
  refine V_istore_n (c := cI) i175_33.1 (mM_n i175_33.2) (l1 := [some (.int (((((x0 - (((x0.toUInt32 >>> ((1 : Int32).toUInt32 &&& Int32.toUInt32 31)).toInt32) &&& 1431655765)) &&& 858993459) + ((((x0 - (((x0.toUInt32 >>> ((1 : Int32).toUInt32 &&& Int32.toUInt32 31)).toInt32) &&& 1431655765)).toUInt32 >>> ((2 : Int32).toUInt32 &&& Int32.toUInt32 31)).toInt32) &&& 858993459)) + (((((x0 - (((x0.toUInt32 >>> ((1 : Int32).toUInt32 &&& Int32.toUInt32 31)).toInt32) &&& 1431655765)) &&& 858993459) + ((((x0 - (((x0.toUInt32 >>> ((1 : Int32).toUInt32 &&& Int32.toUInt32 31)).toInt32) &&& 1431655765)).toUInt32 >>> ((2 : Int32).toUInt32 &&& Int32.toUInt32 31)).toInt32) &&& 858993459)).toUInt32 >>> ((4 : Int32).toUInt32 &&& Int32.toUInt32 31)).toInt32)) &&& 252645135))])  (Nat.le_of_ble_eq_true rfl) rfl ?_
  refine V_iload_n (c := cI) i175_34.1 (mM_n i175_34.2) rfl ?_
  refine V_iload_n (c := cI) i175_35.1 (mM_n i175_35.2) rfl ?_
  refine V_bipush (c := cI) i175_36.1 (mM_n i175_36.2) (v := 8) rfl ?_
  refine V_iushr (c := cI) i175_38.1 (mM_n i175_38.2)  ?_
  refine V_iadd (c := cI) i175_39.1 (mM_n i175_39.2)  ?_
  refine V_istore_n (c := cI) i175_40.1 (mM_n i175_40.2) (l1 := [some (.int ((((((x0 - (((x0.toUInt32 >>> ((1 : Int32).toUInt32 &&& Int32.toUInt32 31)).toInt32) &&& 1431655765)) &&& 858993459) + ((((x0 - (((x0.toUInt32 >>> ((1 : Int32).toUInt32 &&& Int32.toUInt32 31)).toInt32) &&& 1431655765)).toUInt32 >>> ((2 : Int32).toUInt32 &&& Int32.toUInt32 31)).toInt32) &&& 858993459)) + (((((x0 - (((x0.toUInt32 >>> ((1 : Int32).toUInt32 &&& Int32.toUInt32 31)).toInt32) &&& 1431655765)) &&& 858993459) + ((((x0 - (((x0.toUInt32 >>> ((1 : Int32).toUInt32 &&& Int32.toUInt32 31)).toInt32) &&& 1431655765)).toUInt32 >>> ((2 : Int32).toUInt32 &&& Int32.toUInt32 31)).toInt32) &&& 858993459)).toUInt32 >>> ((4 : Int32).toUInt32 &&& Int32.toUInt32 31)).toInt32)) &&& 252645135) + (((((((x0 - (((x0.toUInt32 >>> ((1 : Int32).toUInt32 &&& Int32.toUInt32 31)).toInt32) &&& 1431655765)) &&& 858993459) + ((((x0 - (((x0.toUInt32 >>> ((1 : Int32).toUInt32 &&& Int32.toUInt32 31)).toInt32) &&& 1431655765)).toUInt32 >>> ((2 : Int32).toUInt32 &&& Int32.toUInt32 31)).toInt32) &&& 858993459)) + (((((x0 - (((x0.toUInt32 >>> ((1 : Int32).toUInt32 &&& Int32.toUInt32 31)).toInt32) &&& 1431655765)) &&& 858993459) + ((((x0 - (((x0.toUInt32 >>> ((1 : Int32).toUInt32 &&& Int32.toUInt32 31)).toInt32) &&& 1431655765)).toUInt32 >>> ((2 : Int32).toUInt32 &&& Int32.toUInt32 31)).toInt32) &&& 858993459)).toUInt32 >>> ((4 : Int32).toUInt32 &&& Int32.toUInt32 31)).toInt32)) &&& 252645135).toUInt32 >>> ((8 : Int32).toUInt32 &&& Int32.toUInt32 31)).toInt32)))])  (Nat.le_of_ble_eq_true rfl) rfl ?_
  refine V_iload_n (c := cI) i175_41.1 (mM_n i175_41.2) rfl ?_
  refine V_iload_n (c := cI) i175_42.1 (mM_n i175_42.2) rfl ?_
  refine V_bipush (c := cI) i175_43.1 (mM_n i175_43.2) (v := 16) rfl ?_
  refine V_iushr (c := cI) i175_45.1 (mM_n i175_45.2)  ?_
  refine V_iadd (c := cI) i175_46.1 (mM_n i175_46.2)  ?_
  refine V_istore_n (c := cI) i175_47.1 (mM_n i175_47.2) (l1 := [some (.int (((((((x0 - (((x0.toUInt32 >>> ((1 : Int32).toUInt32 &&& Int32.toUInt32 31)).toInt32) &&& 1431655765)) &&& 858993459) + ((((x0 - (((x0.toUInt32 >>> ((1 : Int32).toUInt32 &&& Int32.toUInt32 31)).toInt32) &&& 1431655765)).toUInt32 >>> ((2 : Int32).toUInt32 &&& Int32.toUInt32 31)).toInt32) &&& 858993459)) + (((((x0 - (((x0.toUInt32 >>> ((1 : Int32).toUInt32 &&& Int32.toUInt32 31)).toInt32) &&& 1431655765)) &&& 858993459) + ((((x0 - (((x0.toUInt32 >>> ((1 : Int32).toUInt32 &&& Int32.toUInt32 31)).toInt32) &&& 1431655765)).toUInt32 >>> ((2 : Int32).toUInt32 &&& Int32.toUInt32 31)).toInt32) &&& 858993459)).toUInt32 >>> ((4 : Int32).toUInt32 &&& Int32.toUInt32 31)).toInt32)) &&& 252645135) + (((((((x0 - (((x0.toUInt32 >>> ((1 : Int32).toUInt32 &&& Int32.toUInt32 31)).toInt32) &&& 1431655765)) &&& 858993459) + ((((x0 - (((x0.toUInt32 >>> ((1 : Int32).toUInt32 &&& Int32.toUInt32 31)).toInt32) &&& 1431655765)).toUInt32 >>> ((2 : Int32).toUInt32 &&& Int32.toUInt32 31)).toInt32) &&& 858993459)) + (((((x0 - (((x0.toUInt32 >>> ((1 : Int32).toUInt32 &&& Int32.toUInt32 31)).toInt32) &&& 1431655765)) &&& 858993459) + ((((x0 - (((x0.toUInt32 >>> ((1 : Int32).toUInt32 &&& Int32.toUInt32 31)).toInt32) &&& 1431655765)).toUInt32 >>> ((2 : Int32).toUInt32 &&& Int32.toUInt32 31)).toInt32) &&& 858993459)).toUInt32 >>> ((4 : Int32).toUInt32 &&& Int32.toUInt32 31)).toInt32)) &&& 252645135).toUInt32 >>> ((8 : Int32).toUInt32 &&& Int32.toUInt32 31)).toInt32)) + ((((((((x0 - (((x0.toUInt32 >>> ((1 : Int32).toUInt32 &&& Int32.toUInt32 31)).toInt32) &&& 1431655765)) &&& 858993459) + ((((x0 - (((x0.toUInt32 >>> ((1 : Int32).toUInt32 &&& Int32.toUInt32 31)).toInt32) &&& 1431655765)).toUInt32 >>> ((2 : Int32).toUInt32 &&& Int32.toUInt32 31)).toInt32) &&& 858993459)) + (((((x0 - (((x0.toUInt32 >>> ((1 : Int32).toUInt32 &&& Int32.toUInt32 31)).toInt32) &&& 1431655765)) &&& 858993459) + ((((x0 - (((x0.toUInt32 >>> ((1 : Int32).toUInt32 &&& Int32.toUInt32 31)).toInt32) &&& 1431655765)).toUInt32 >>> ((2 : Int32).toUInt32 &&& Int32.toUInt32 31)).toInt32) &&& 858993459)).toUInt32 >>> ((4 : Int32).toUInt32 &&& Int32.toUInt32 31)).toInt32)) &&& 252645135) + (((((((x0 - (((x0.toUInt32 >>> ((1 : Int32).toUInt32 &&& Int32.toUInt32 31)).toInt32) &&& 1431655765)) &&& 858993459) + ((((x0 - (((x0.toUInt32 >>> ((1 : Int32).toUInt32 &&& Int32.toUInt32 31)).toInt32) &&& 1431655765)).toUInt32 >>> ((2 : Int32).toUInt32 &&& Int32.toUInt32 31)).toInt32) &&& 858993459)) + (((((x0 - (((x0.toUInt32 >>> ((1 : Int32).toUInt32 &&& Int32.toUInt32 31)).toInt32) &&& 1431655765)) &&& 858993459) + ((((x0 - (((x0.toUInt32 >>> ((1 : Int32).toUInt32 &&& Int32.toUInt32 31)).toInt32) &&& 1431655765)).toUInt32 >>> ((2 : Int32).toUInt32 &&& Int32.toUInt32 31)).toInt32) &&& 858993459)).toUInt32 >>> ((4 : Int32).toUInt32 &&& Int32.toUInt32 31)).toInt32)) &&& 252645135).toUInt32 >>> ((8 : Int32).toUInt32 &&& Int32.toUInt32 31)).toInt32)).toUInt32 >>> ((16 : Int32).toUInt32 &&& Int32.toUInt32 31)).toInt32)))])  (Nat.le_of_ble_eq_true rfl) rfl ?_
  refine V_iload_n (c := cI) i175_48.1 (mM_n i175_48.2) rfl ?_
  refine V_bipush (c := cI) i175_49.1 (mM_n i175_49.2) (v := 63) rfl ?_
  refine V_iand (c := cI) i175_51.1 (mM_n i175_51.2)  ?_
  exact V_iret i175_52.1 (mM_n i175_52.2) rfl
