/-! blocks of Page: printed by a program -/
theorem i42_0 : decode (mCd 42) 0 = .ok (.iconst 0, 1) ∧ lk (mMsk 42) 0 = none := by decide +kernel
theorem i42_1 : decode (mCd 42) 1 = .ok (.istore_n 2, 1) ∧ lk (mMsk 42) 1 = none := by decide +kernel
theorem i42_2 : decode (mCd 42) 2 = .ok (.iconst 0, 1) ∧ lk (mMsk 42) 2 = none := by decide +kernel
theorem i42_3 : decode (mCd 42) 3 = .ok (.istore_n 3, 1) ∧ lk (mMsk 42) 3 = none := by decide +kernel
theorem i42_4 : decode (mCd 42) 4 = .ok (.iconst 0, 1) ∧ lk (mMsk 42) 4 = none := by decide +kernel
theorem i42_5 : decode (mCd 42) 5 = .ok (.istore 4, 2) ∧ lk (mMsk 42) 5 = none := by decide +kernel
theorem i42_7 : decode (mCd 42) 7 = .ok (.iload 4, 2) ∧ lk (mMsk 42) 7 = some [true, false, true, true, true, false] := by decide +kernel
theorem i42_9 : decode (mCd 42) 9 = .ok (.bipush 8, 2) ∧ lk (mMsk 42) 9 = none := by decide +kernel
theorem i42_11 : decode (mCd 42) 11 = .ok (.if_icmp .ge 54, 3) ∧ lk (mMsk 42) 11 = none := by decide +kernel
theorem i42_65 : decode (mCd 42) 65 = .ok (.iload_n 2, 1) ∧ lk (mMsk 42) 65 = none := by decide +kernel
theorem i42_66 : decode (mCd 42) 66 = .ok (.ireturn, 1) ∧ lk (mMsk 42) 66 = none := by decide +kernel
theorem i42_14 : decode (mCd 42) 14 = .ok (.lload_n 0, 1) ∧ lk (mMsk 42) 14 = none := by decide +kernel
theorem i42_15 : decode (mCd 42) 15 = .ok (.bipush 8, 2) ∧ lk (mMsk 42) 15 = none := by decide +kernel
theorem i42_17 : decode (mCd 42) 17 = .ok (.iload 4, 2) ∧ lk (mMsk 42) 17 = none := by decide +kernel
theorem i42_19 : decode (mCd 42) 19 = .ok (.imul, 1) ∧ lk (mMsk 42) 19 = none := by decide +kernel
theorem i42_20 : decode (mCd 42) 20 = .ok (.lushr, 1) ∧ lk (mMsk 42) 20 = none := by decide +kernel
theorem i42_21 : decode (mCd 42) 21 = .ok (.ldc2_w 19, 3) ∧ lk (mMsk 42) 21 = none := by decide +kernel
theorem q42_19 : lk (mKt (mOwn 42)) 19 = some (.inr 255) := by decide +kernel
theorem i42_24 : decode (mCd 42) 24 = .ok (.land, 1) ∧ lk (mMsk 42) 24 = none := by decide +kernel
theorem i42_25 : decode (mCd 42) 25 = .ok (.l2i, 1) ∧ lk (mMsk 42) 25 = none := by decide +kernel
theorem i42_26 : decode (mCd 42) 26 = .ok (.istore 5, 2) ∧ lk (mMsk 42) 26 = none := by decide +kernel
theorem i42_28 : decode (mCd 42) 28 = .ok (.iload 5, 2) ∧ lk (mMsk 42) 28 = none := by decide +kernel
theorem i42_30 : decode (mCd 42) 30 = .ok (.bipush 126, 2) ∧ lk (mMsk 42) 30 = none := by decide +kernel
theorem i42_32 : decode (mCd 42) 32 = .ok (.if_icmp .gt 12, 3) ∧ lk (mMsk 42) 32 = none := by decide +kernel
theorem i42_44 : decode (mCd 42) 44 = .ok (.iconst (-1), 1) ∧ lk (mMsk 42) 44 = some [false, false, false, false, false, false] := by decide +kernel
theorem i42_35 : decode (mCd 42) 35 = .ok (.iload_n 3, 1) ∧ lk (mMsk 42) 35 = none := by decide +kernel
theorem i42_36 : decode (mCd 42) 36 = .ok (.ifCond .eq 10, 3) ∧ lk (mMsk 42) 36 = none := by decide +kernel
theorem i42_46 : decode (mCd 42) 46 = .ok (.iload 5, 2) ∧ lk (mMsk 42) 46 = some [true, false, true, true, true, true] := by decide +kernel
theorem i42_39 : decode (mCd 42) 39 = .ok (.iload 5, 2) ∧ lk (mMsk 42) 39 = none := by decide +kernel
theorem i42_41 : decode (mCd 42) 41 = .ok (.ifCond .eq 5, 3) ∧ lk (mMsk 42) 41 = none := by decide +kernel
theorem i42_48 : decode (mCd 42) 48 = .ok (.ifCond .ne 8, 3) ∧ lk (mMsk 42) 48 = none := by decide +kernel
theorem i42_51 : decode (mCd 42) 51 = .ok (.iconst 1, 1) ∧ lk (mMsk 42) 51 = none := by decide +kernel
theorem i42_52 : decode (mCd 42) 52 = .ok (.istore_n 3, 1) ∧ lk (mMsk 42) 52 = none := by decide +kernel
theorem i42_53 : decode (mCd 42) 53 = .ok (.goto 6, 3) ∧ lk (mMsk 42) 53 = none := by decide +kernel
theorem i42_59 : decode (mCd 42) 59 = .ok (.iinc 4 1, 3) ∧ lk (mMsk 42) 59 = some [true, false, true, true, true, false] := by decide +kernel
theorem i42_56 : decode (mCd 42) 56 = .ok (.iinc 2 1, 3) ∧ lk (mMsk 42) 56 = none := by decide +kernel
theorem i42_62 : decode (mCd 42) 62 = .ok (.goto (-55), 3) ∧ lk (mMsk 42) 62 = none := by decide +kernel
theorem i42_45 : decode (mCd 42) 45 = .ok (.ireturn, 1) ∧ lk (mMsk 42) 45 = none := by decide +kernel
theorem i43_0 : decode (mCd 43) 0 = .ok (.iconst 0, 1) ∧ lk (mMsk 43) 0 = none := by decide +kernel
theorem i43_1 : decode (mCd 43) 1 = .ok (.istore 4, 2) ∧ lk (mMsk 43) 1 = none := by decide +kernel
theorem i43_3 : decode (mCd 43) 3 = .ok (.iload 4, 2) ∧ lk (mMsk 43) 3 = some [true, true, false, true, true] := by decide +kernel
theorem i43_5 : decode (mCd 43) 5 = .ok (.iload_n 3, 1) ∧ lk (mMsk 43) 5 = none := by decide +kernel
theorem i43_6 : decode (mCd 43) 6 = .ok (.if_icmp .ge 50, 3) ∧ lk (mMsk 43) 6 = none := by decide +kernel
theorem i43_56 : decode (mCd 43) 56 = .ok (.return_, 1) ∧ lk (mMsk 43) 56 = some [false, false, false, false, false] := by decide +kernel
theorem i43_9 : decode (mCd 43) 9 = .ok (.aload_n 0, 1) ∧ lk (mMsk 43) 9 = none := by decide +kernel
theorem i43_10 : decode (mCd 43) 10 = .ok (.getfield 15, 3) ∧ lk (mMsk 43) 10 = none := by decide +kernel
theorem g43_15 : fOk 43 15 4 1 = true := by decide +kernel
theorem i43_13 : decode (mCd 43) 13 = .ok (.bipush 50, 2) ∧ lk (mMsk 43) 13 = none := by decide +kernel
theorem i43_15 : decode (mCd 43) 15 = .ok (.if_icmp .ge 41, 3) ∧ lk (mMsk 43) 15 = none := by decide +kernel
theorem i43_18 : decode (mCd 43) 18 = .ok (.aload_n 0, 1) ∧ lk (mMsk 43) 18 = none := by decide +kernel
theorem i43_19 : decode (mCd 43) 19 = .ok (.getfield 9, 3) ∧ lk (mMsk 43) 19 = none := by decide +kernel
theorem g43_9 : fOk 43 9 4 0 = true := by decide +kernel
theorem i43_22 : decode (mCd 43) 22 = .ok (.aload_n 0, 1) ∧ lk (mMsk 43) 22 = none := by decide +kernel
theorem i43_23 : decode (mCd 43) 23 = .ok (.getfield 15, 3) ∧ lk (mMsk 43) 23 = none := by decide +kernel
theorem i43_26 : decode (mCd 43) 26 = .ok (.lload_n 1, 1) ∧ lk (mMsk 43) 26 = none := by decide +kernel
theorem i43_27 : decode (mCd 43) 27 = .ok (.bipush 8, 2) ∧ lk (mMsk 43) 27 = none := by decide +kernel
theorem i43_29 : decode (mCd 43) 29 = .ok (.iload 4, 2) ∧ lk (mMsk 43) 29 = none := by decide +kernel
theorem i43_31 : decode (mCd 43) 31 = .ok (.imul, 1) ∧ lk (mMsk 43) 31 = none := by decide +kernel
theorem i43_32 : decode (mCd 43) 32 = .ok (.lushr, 1) ∧ lk (mMsk 43) 32 = none := by decide +kernel
theorem i43_33 : decode (mCd 43) 33 = .ok (.ldc2_w 19, 3) ∧ lk (mMsk 43) 33 = none := by decide +kernel
theorem q43_19 : lk (mKt (mOwn 43)) 19 = some (.inr 255) := by decide +kernel
theorem i43_36 : decode (mCd 43) 36 = .ok (.land, 1) ∧ lk (mMsk 43) 36 = none := by decide +kernel
theorem i43_37 : decode (mCd 43) 37 = .ok (.l2i, 1) ∧ lk (mMsk 43) 37 = none := by decide +kernel
theorem i43_38 : decode (mCd 43) 38 = .ok (.i2c, 1) ∧ lk (mMsk 43) 38 = none := by decide +kernel
theorem i43_39 : decode (mCd 43) 39 = .ok (.castore, 1) ∧ lk (mMsk 43) 39 = none := by decide +kernel
theorem i43_40 : decode (mCd 43) 40 = .ok (.aload_n 0, 1) ∧ lk (mMsk 43) 40 = none := by decide +kernel
theorem i43_41 : decode (mCd 43) 41 = .ok (.dup, 1) ∧ lk (mMsk 43) 41 = none := by decide +kernel
theorem i43_42 : decode (mCd 43) 42 = .ok (.getfield 15, 3) ∧ lk (mMsk 43) 42 = none := by decide +kernel
theorem i43_45 : decode (mCd 43) 45 = .ok (.iconst 1, 1) ∧ lk (mMsk 43) 45 = none := by decide +kernel
theorem i43_46 : decode (mCd 43) 46 = .ok (.iadd, 1) ∧ lk (mMsk 43) 46 = none := by decide +kernel
theorem i43_47 : decode (mCd 43) 47 = .ok (.putfield 15, 3) ∧ lk (mMsk 43) 47 = none := by decide +kernel
theorem p43_15 : pOk 43 15 4 1 = true := by decide +kernel
theorem i43_50 : decode (mCd 43) 50 = .ok (.iinc 4 1, 3) ∧ lk (mMsk 43) 50 = none := by decide +kernel
theorem i43_53 : decode (mCd 43) 53 = .ok (.goto (-50), 3) ∧ lk (mMsk 43) 53 = none := by decide +kernel
theorem i44_0 : decode (mCd 44) 0 = .ok (.iload_n 1, 1) ∧ lk (mMsk 44) 0 = none := by decide +kernel
theorem i44_1 : decode (mCd 44) 1 = .ok (.ifCond .lt 20, 3) ∧ lk (mMsk 44) 1 = none := by decide +kernel
theorem i44_21 : decode (mCd 44) 21 = .ok (.iconst 0, 1) ∧ lk (mMsk 44) 21 = some [false, false] := by decide +kernel
theorem i44_4 : decode (mCd 44) 4 = .ok (.iload_n 1, 1) ∧ lk (mMsk 44) 4 = none := by decide +kernel
theorem i44_5 : decode (mCd 44) 5 = .ok (.aload_n 0, 1) ∧ lk (mMsk 44) 5 = none := by decide +kernel
theorem i44_6 : decode (mCd 44) 6 = .ok (.getfield 15, 3) ∧ lk (mMsk 44) 6 = none := by decide +kernel
theorem g44_15 : fOk 44 15 4 1 = true := by decide +kernel
theorem i44_9 : decode (mCd 44) 9 = .ok (.if_icmp .ge 12, 3) ∧ lk (mMsk 44) 9 = none := by decide +kernel
theorem i44_12 : decode (mCd 44) 12 = .ok (.aload_n 0, 1) ∧ lk (mMsk 44) 12 = none := by decide +kernel
theorem i44_13 : decode (mCd 44) 13 = .ok (.getfield 9, 3) ∧ lk (mMsk 44) 13 = none := by decide +kernel
theorem g44_9 : fOk 44 9 4 0 = true := by decide +kernel
theorem i44_16 : decode (mCd 44) 16 = .ok (.iload_n 1, 1) ∧ lk (mMsk 44) 16 = none := by decide +kernel
theorem i44_17 : decode (mCd 44) 17 = .ok (.caload, 1) ∧ lk (mMsk 44) 17 = none := by decide +kernel
theorem i44_18 : decode (mCd 44) 18 = .ok (.goto 4, 3) ∧ lk (mMsk 44) 18 = none := by decide +kernel
theorem i44_22 : decode (mCd 44) 22 = .ok (.ireturn, 1) ∧ lk (mMsk 44) 22 = some [false, false] := by decide +kernel
theorem i45_0 : decode (mCd 45) 0 = .ok (.iconst 0, 1) ∧ lk (mMsk 45) 0 = none := by decide +kernel
theorem i45_1 : decode (mCd 45) 1 = .ok (.istore_n 1, 1) ∧ lk (mMsk 45) 1 = none := by decide +kernel
theorem i45_2 : decode (mCd 45) 2 = .ok (.iload_n 1, 1) ∧ lk (mMsk 45) 2 = some [true, true] := by decide +kernel
theorem i45_3 : decode (mCd 45) 3 = .ok (.aload_n 0, 1) ∧ lk (mMsk 45) 3 = none := by decide +kernel
theorem i45_4 : decode (mCd 45) 4 = .ok (.getfield 15, 3) ∧ lk (mMsk 45) 4 = none := by decide +kernel
theorem g45_15 : fOk 45 15 4 1 = true := by decide +kernel
theorem i45_7 : decode (mCd 45) 7 = .ok (.if_icmp .ge 27, 3) ∧ lk (mMsk 45) 7 = none := by decide +kernel
theorem i45_34 : decode (mCd 45) 34 = .ok (.iload_n 1, 1) ∧ lk (mMsk 45) 34 = some [false, true] := by decide +kernel
theorem i45_10 : decode (mCd 45) 10 = .ok (.iload_n 1, 1) ∧ lk (mMsk 45) 10 = none := by decide +kernel
theorem i45_11 : decode (mCd 45) 11 = .ok (.bipush 20, 2) ∧ lk (mMsk 45) 11 = none := by decide +kernel
theorem i45_13 : decode (mCd 45) 13 = .ok (.if_icmp .ge 21, 3) ∧ lk (mMsk 45) 13 = none := by decide +kernel
theorem i45_16 : decode (mCd 45) 16 = .ok (.aload_n 0, 1) ∧ lk (mMsk 45) 16 = none := by decide +kernel
theorem i45_17 : decode (mCd 45) 17 = .ok (.getfield 9, 3) ∧ lk (mMsk 45) 17 = none := by decide +kernel
theorem g45_9 : fOk 45 9 4 0 = true := by decide +kernel
theorem i45_20 : decode (mCd 45) 20 = .ok (.iload_n 1, 1) ∧ lk (mMsk 45) 20 = none := by decide +kernel
theorem i45_21 : decode (mCd 45) 21 = .ok (.caload, 1) ∧ lk (mMsk 45) 21 = none := by decide +kernel
theorem i45_22 : decode (mCd 45) 22 = .ok (.invokestatic 21, 3) ∧ lk (mMsk 45) 22 = none := by decide +kernel
theorem c45_21 : ciOk 45 21 46 1 0 = true := by decide +kernel
theorem i45_25 : decode (mCd 45) 25 = .ok (.ifCond .eq 9, 3) ∧ lk (mMsk 45) 25 = none := by decide +kernel
theorem i45_28 : decode (mCd 45) 28 = .ok (.iinc 1 1, 3) ∧ lk (mMsk 45) 28 = none := by decide +kernel
theorem i45_31 : decode (mCd 45) 31 = .ok (.goto (-29), 3) ∧ lk (mMsk 45) 31 = none := by decide +kernel
theorem i45_35 : decode (mCd 45) 35 = .ok (.ireturn, 1) ∧ lk (mMsk 45) 35 = none := by decide +kernel
theorem i46_0 : decode (mCd 46) 0 = .ok (.iload_n 0, 1) ∧ lk (mMsk 46) 0 = none := by decide +kernel
theorem i46_1 : decode (mCd 46) 1 = .ok (.bipush 48, 2) ∧ lk (mMsk 46) 1 = none := by decide +kernel
theorem i46_3 : decode (mCd 46) 3 = .ok (.if_icmp .lt 13, 3) ∧ lk (mMsk 46) 3 = none := by decide +kernel
theorem i46_16 : decode (mCd 46) 16 = .ok (.iconst 0, 1) ∧ lk (mMsk 46) 16 = some [false] := by decide +kernel
theorem i46_6 : decode (mCd 46) 6 = .ok (.iload_n 0, 1) ∧ lk (mMsk 46) 6 = none := by decide +kernel
theorem i46_7 : decode (mCd 46) 7 = .ok (.bipush 56, 2) ∧ lk (mMsk 46) 7 = none := by decide +kernel
theorem i46_9 : decode (mCd 46) 9 = .ok (.if_icmp .ge 7, 3) ∧ lk (mMsk 46) 9 = none := by decide +kernel
theorem i46_12 : decode (mCd 46) 12 = .ok (.iconst 1, 1) ∧ lk (mMsk 46) 12 = none := by decide +kernel
theorem i46_13 : decode (mCd 46) 13 = .ok (.goto 4, 3) ∧ lk (mMsk 46) 13 = none := by decide +kernel
theorem i46_17 : decode (mCd 46) 17 = .ok (.ireturn, 1) ∧ lk (mMsk 46) 17 = some [false] := by decide +kernel
theorem f_Page_told_eq {j0 : Int64}  {S : Mem} : f_Page_told j0 S = k_Page_told_7 j0 0 0 0 S := by
  show cI (mV oS X0 42 0 [some (.long j0), none, none, none, none, none] [] S) = _
  refine V_iconst (c := cI) i42_0.1 (mM_n i42_0.2) (v := 0) rfl ?_
  refine V_istore_n (c := cI) i42_1.1 (mM_n i42_1.2) (l1 := [some (.long j0), none, some (.int 0), none, none, none])  (Nat.le_of_ble_eq_true rfl) rfl ?_
  refine V_iconst (c := cI) i42_2.1 (mM_n i42_2.2) (v := 0) rfl ?_
  refine V_istore_n (c := cI) i42_3.1 (mM_n i42_3.2) (l1 := [some (.long j0), none, some (.int 0), some (.int 0), none, none])  (Nat.le_of_ble_eq_true rfl) rfl ?_
  refine V_iconst (c := cI) i42_4.1 (mM_n i42_4.2) (v := 0) rfl ?_
  refine V_istore (c := cI) i42_5.1 (mM_n i42_5.2) (l1 := [some (.long j0), none, some (.int 0), some (.int 0), some (.int 0), none])  (Nat.le_of_ble_eq_true rfl) rfl ?_
  exact V_msk (l1 := [some (.long j0), none, some (.int 0), some (.int 0), some (.int 0), none]) i42_7.2 rfl rfl
theorem k_Page_told_7_eq {j0 : Int64} {x2 : Int32} {x3 : Int32} {x4 : Int32}  {S : Mem} : k_Page_told_7 j0 x2 x3 x4 S = if 8 ≤ x4 then some (x2, S) else if 126 < ((((j0.toUInt64 >>> (((8 : Int32) * x4).toInt64.toUInt64 &&& Int64.toUInt64 63)).toInt64) &&& 255).toInt32) then k_Page_told_44 S else if x3 = 0 then k_Page_told_46 j0 x2 x3 x4 ((((j0.toUInt64 >>> (((8 : Int32) * x4).toInt64.toUInt64 &&& Int64.toUInt64 63)).toInt64) &&& 255).toInt32) S else if ((((j0.toUInt64 >>> (((8 : Int32) * x4).toInt64.toUInt64 &&& Int64.toUInt64 63)).toInt64) &&& 255).toInt32) = 0 then k_Page_told_46 j0 x2 x3 x4 ((((j0.toUInt64 >>> (((8 : Int32) * x4).toInt64.toUInt64 &&& Int64.toUInt64 63)).toInt64) &&& 255).toInt32) S else k_Page_told_44 S := by
  show cI (mV oS X0 42 7 [some (.long j0), none, some (.int x2), some (.int x3), some (.int x4), none] [] S) = _
  refine V_iload (c := cI) i42_7.1 (mM_s i42_7.2 rfl) rfl ?_
  refine V_bipush (c := cI) i42_9.1 (mM_n i42_9.2) (v := 8) rfl ?_
  refine V_icmp_ge (c := cI) i42_11.1 (mM_n i42_11.2) rfl (fun _ => ?_) (fun _ => ?_)
  · refine V_iload_n (c := cI) i42_65.1 (mM_n i42_65.2) rfl ?_
    exact V_iret i42_66.1 (mM_n i42_66.2) rfl
  · refine V_lload_n (c := cI) i42_14.1 (mM_n i42_14.2) rfl ?_
    refine V_bipush (c := cI) i42_15.1 (mM_n i42_15.2) (v := 8) rfl ?_
    refine V_iload (c := cI) i42_17.1 (mM_n i42_17.2) rfl ?_
    refine V_imul (c := cI) i42_19.1 (mM_n i42_19.2)  ?_
    refine V_lushr (c := cI) i42_20.1 (mM_n i42_20.2)  ?_
    refine V_ldc2_w (c := cI) i42_21.1 (mM_n i42_21.2) q42_19 ?_
    refine V_land (c := cI) i42_24.1 (mM_n i42_24.2)  ?_
    refine V_l2i (c := cI) i42_25.1 (mM_n i42_25.2)  ?_
    refine V_istore (c := cI) i42_26.1 (mM_n i42_26.2) (l1 := [some (.long j0), none, some (.int x2), some (.int x3), some (.int x4), some (.int ((((j0.toUInt64 >>> (((8 : Int32) * x4).toInt64.toUInt64 &&& Int64.toUInt64 63)).toInt64) &&& 255).toInt32))])  (Nat.le_of_ble_eq_true rfl) rfl ?_
    refine V_iload (c := cI) i42_28.1 (mM_n i42_28.2) rfl ?_
    refine V_bipush (c := cI) i42_30.1 (mM_n i42_30.2) (v := 126) rfl ?_
    refine V_icmp_gt (c := cI) i42_32.1 (mM_n i42_32.2) rfl (fun _ => ?_) (fun _ => ?_)
    · exact V_msk (l1 := [none, none, none, none, none, none]) i42_44.2 rfl rfl
    · refine V_iload_n (c := cI) i42_35.1 (mM_n i42_35.2) rfl ?_
      refine V_if_eq (c := cI) i42_36.1 (mM_n i42_36.2) rfl (fun _ => ?_) (fun _ => ?_)
      · exact V_msk (l1 := [some (.long j0), none, some (.int x2), some (.int x3), some (.int x4), some (.int ((((j0.toUInt64 >>> (((8 : Int32) * x4).toInt64.toUInt64 &&& Int64.toUInt64 63)).toInt64) &&& 255).toInt32))]) i42_46.2 rfl rfl
      · refine V_iload (c := cI) i42_39.1 (mM_n i42_39.2) rfl ?_
        refine V_if_eq (c := cI) i42_41.1 (mM_n i42_41.2) rfl (fun _ => ?_) (fun _ => ?_)
        · exact V_msk (l1 := [some (.long j0), none, some (.int x2), some (.int x3), some (.int x4), some (.int ((((j0.toUInt64 >>> (((8 : Int32) * x4).toInt64.toUInt64 &&& Int64.toUInt64 63)).toInt64) &&& 255).toInt32))]) i42_46.2 rfl rfl
        · exact V_msk (l1 := [none, none, none, none, none, none]) i42_44.2 rfl rfl
theorem k_Page_told_44_eq   {S : Mem} : k_Page_told_44  S = some ((-1), S) := by
  show cI (mV oS X0 42 44 [none, none, none, none, none, none] [] S) = _
  refine V_iconst (c := cI) i42_44.1 (mM_s i42_44.2 rfl) (v := (-1)) rfl ?_
  exact V_iret i42_45.1 (mM_n i42_45.2) rfl
theorem k_Page_told_46_eq {j0 : Int64} {x2 : Int32} {x3 : Int32} {x4 : Int32} {x5 : Int32}  {S : Mem} : k_Page_told_46 j0 x2 x3 x4 x5 S = if x5 = 0 then k_Page_told_59 j0 x2 1 x4 S else k_Page_told_59 j0 (x2 + 1) x3 x4 S := by
  show cI (mV oS X0 42 46 [some (.long j0), none, some (.int x2), some (.int x3), some (.int x4), some (.int x5)] [] S) = _
  refine V_iload (c := cI) i42_46.1 (mM_s i42_46.2 rfl) rfl ?_
  refine V_if_ne (c := cI) i42_48.1 (mM_n i42_48.2) rfl (fun _ => ?_) (fun _ => ?_)
  · refine V_iconst (c := cI) i42_51.1 (mM_n i42_51.2) (v := 1) rfl ?_
    refine V_istore_n (c := cI) i42_52.1 (mM_n i42_52.2) (l1 := [some (.long j0), none, some (.int x2), some (.int 1), some (.int x4), some (.int x5)])  (Nat.le_of_ble_eq_true rfl) rfl ?_
    refine V_goto (c := cI) i42_53.1 (mM_n i42_53.2) rfl ?_
    exact V_msk (l1 := [some (.long j0), none, some (.int x2), some (.int 1), some (.int x4), none]) i42_59.2 rfl rfl
  · refine V_iinc (c := cI) i42_56.1 (mM_n i42_56.2) (l1 := [some (.long j0), none, some (.int (x2 + 1)), some (.int x3), some (.int x4), some (.int x5)]) rfl rfl rfl ?_
    exact V_msk (l1 := [some (.long j0), none, some (.int (x2 + 1)), some (.int x3), some (.int x4), none]) i42_59.2 rfl rfl
theorem k_Page_told_59_eq {j0 : Int64} {x2 : Int32} {x3 : Int32} {x4 : Int32}  {S : Mem} : k_Page_told_59 j0 x2 x3 x4 S = k_Page_told_7 j0 x2 x3 (x4 + 1) S := by
  show cI (mV oS X0 42 59 [some (.long j0), none, some (.int x2), some (.int x3), some (.int x4), none] [] S) = _
  refine V_iinc (c := cI) i42_59.1 (mM_s i42_59.2 rfl) (l1 := [some (.long j0), none, some (.int x2), some (.int x3), some (.int (x4 + 1)), none]) rfl rfl rfl ?_
  refine V_goto (c := cI) i42_62.1 (mM_n i42_62.2) rfl ?_
  exact V_msk (l1 := [some (.long j0), none, some (.int x2), some (.int x3), some (.int (x4 + 1)), none]) i42_7.2 rfl rfl
theorem f_Page_append_eq {j1 : Int64} {x3 : Int32}  {S : Mem} : f_Page_append j1 x3 S = k_Page_append_3 j1 x3 0 S := by
  show cU (mV oS X0 43 0 [some (.ref 1), some (.long j1), none, some (.int x3), none] [] S) = _
  refine V_iconst (c := cU) i43_0.1 (mM_n i43_0.2) (v := 0) rfl ?_
  refine V_istore (c := cU) i43_1.1 (mM_n i43_1.2) (l1 := [some (.ref 1), some (.long j1), none, some (.int x3), some (.int 0)])  (Nat.le_of_ble_eq_true rfl) rfl ?_
  exact V_msk (l1 := [some (.ref 1), some (.long j1), none, some (.int x3), some (.int 0)]) i43_3.2 rfl rfl
theorem k_Page_append_3_eq {j1 : Int64} {x3 : Int32} {x4 : Int32}  {S : Mem} : k_Page_append_3 j1 x3 x4 S = if x3 ≤ x4 then k_Page_append_56 S else if 50 ≤ (S.1 1 1) then k_Page_append_56 S else if inb (S.1 1 1) 50 = true then k_Page_append_3 j1 x3 (x4 + 1) (u1 (u1 S 2 ((S.1 1 1).toNatClampNeg) (vp_nar .char ((((((j1.toUInt64 >>> (((8 : Int32) * x4).toInt64.toUInt64 &&& Int64.toUInt64 63)).toInt64) &&& 255).toInt32).toUInt32 % 65536).toInt32))) 1 1 ((S.1 1 1) + 1)) else none := by
  show cU (mV oS X0 43 3 [some (.ref 1), some (.long j1), none, some (.int x3), some (.int x4)] [] S) = _
  refine V_iload (c := cU) i43_3.1 (mM_s i43_3.2 rfl) rfl ?_
  refine V_iload_n (c := cU) i43_5.1 (mM_n i43_5.2) rfl ?_
  refine V_icmp_ge (c := cU) i43_6.1 (mM_n i43_6.2) rfl (fun _ => ?_) (fun _ => ?_)
  · exact V_msk (l1 := [none, none, none, none, none]) i43_56.2 rfl rfl
  · refine V_aload_n (c := cU) i43_9.1 (mM_n i43_9.2) rfl rfl ?_
    refine V_gf (c := cU) i43_10.1 (mM_n i43_10.2) (v := .int (S.1 1 1)) g43_15 rfl ?_
    refine V_bipush (c := cU) i43_13.1 (mM_n i43_13.2) (v := 50) rfl ?_
    refine V_icmp_ge (c := cU) i43_15.1 (mM_n i43_15.2) rfl (fun _ => ?_) (fun _ => ?_)
    · exact V_msk (l1 := [none, none, none, none, none]) i43_56.2 rfl rfl
    · refine V_aload_n (c := cU) i43_18.1 (mM_n i43_18.2) rfl rfl ?_
      refine V_gf (c := cU) i43_19.1 (mM_n i43_19.2) (v := .ref 2) g43_9 rfl ?_
      refine V_aload_n (c := cU) i43_22.1 (mM_n i43_22.2) rfl rfl ?_
      refine V_gf (c := cU) i43_23.1 (mM_n i43_23.2) (v := .int (S.1 1 1)) g43_15 rfl ?_
      refine V_lload_n (c := cU) i43_26.1 (mM_n i43_26.2) rfl ?_
      refine V_bipush (c := cU) i43_27.1 (mM_n i43_27.2) (v := 8) rfl ?_
      refine V_iload (c := cU) i43_29.1 (mM_n i43_29.2) rfl ?_
      refine V_imul (c := cU) i43_31.1 (mM_n i43_31.2)  ?_
      refine V_lushr (c := cU) i43_32.1 (mM_n i43_32.2)  ?_
      refine V_ldc2_w (c := cU) i43_33.1 (mM_n i43_33.2) q43_19 ?_
      refine V_land (c := cU) i43_36.1 (mM_n i43_36.2)  ?_
      refine V_l2i (c := cU) i43_37.1 (mM_n i43_37.2)  ?_
      refine V_i2c (c := cU) i43_38.1 (mM_n i43_38.2)  ?_
      refine V_castore (c := cU) (x1 := vp_nar .char ((((((j1.toUInt64 >>> (((8 : Int32) * x4).toInt64.toUInt64 &&& Int64.toUInt64 63)).toInt64) &&& 255).toInt32).toUInt32 % 65536).toInt32)) i43_39.1 (mM_n i43_39.2) rfl rfl rfl rfl (fun _ => ?_)
      refine V_aload_n (c := cU) i43_40.1 (mM_n i43_40.2) rfl rfl ?_
      refine V_dup (c := cU) i43_41.1 (mM_n i43_41.2) rfl ?_
      refine V_gf (c := cU) i43_42.1 (mM_n i43_42.2) (v := .int (S.1 1 1)) g43_15 rfl ?_
      refine V_iconst (c := cU) i43_45.1 (mM_n i43_45.2) (v := 1) rfl ?_
      refine V_iadd (c := cU) i43_46.1 (mM_n i43_46.2)  ?_
      refine V_pf (c := cU) i43_47.1 (mM_n i43_47.2) p43_15 (pf_i rfl rfl rfl) ?_
      refine V_iinc (c := cU) i43_50.1 (mM_n i43_50.2) (l1 := [some (.ref 1), some (.long j1), none, some (.int x3), some (.int (x4 + 1))]) rfl rfl rfl ?_
      refine V_goto (c := cU) i43_53.1 (mM_n i43_53.2) rfl ?_
      exact V_msk (l1 := [some (.ref 1), some (.long j1), none, some (.int x3), some (.int (x4 + 1))]) i43_3.2 rfl rfl
theorem k_Page_append_56_eq   {S : Mem} : k_Page_append_56  S = some S := by
  show cU (mV oS X0 43 56 [none, none, none, none, none] [] S) = _
  exact V_vret i43_56.1 (mM_s i43_56.2 rfl) rfl
theorem f_Page_at_eq {x1 : Int32}  {S : Mem} : f_Page_at x1 S = if x1 < 0 then k_Page_at_21 S else if (S.1 1 1) ≤ x1 then k_Page_at_21 S else if inb x1 50 = true then k_Page_at_22 (S.1 2 (x1.toNatClampNeg)) S else none := by
  show cI (mV oS X0 44 0 [some (.ref 1), some (.int x1)] [] S) = _
  refine V_iload_n (c := cI) i44_0.1 (mM_n i44_0.2) rfl ?_
  refine V_if_lt (c := cI) i44_1.1 (mM_n i44_1.2) rfl (fun _ => ?_) (fun _ => ?_)
  · exact V_msk (l1 := [none, none]) i44_21.2 rfl rfl
  · refine V_iload_n (c := cI) i44_4.1 (mM_n i44_4.2) rfl ?_
    refine V_aload_n (c := cI) i44_5.1 (mM_n i44_5.2) rfl rfl ?_
    refine V_gf (c := cI) i44_6.1 (mM_n i44_6.2) (v := .int (S.1 1 1)) g44_15 rfl ?_
    refine V_icmp_ge (c := cI) i44_9.1 (mM_n i44_9.2) rfl (fun _ => ?_) (fun _ => ?_)
    · exact V_msk (l1 := [none, none]) i44_21.2 rfl rfl
    · refine V_aload_n (c := cI) i44_12.1 (mM_n i44_12.2) rfl rfl ?_
      refine V_gf (c := cI) i44_13.1 (mM_n i44_13.2) (v := .ref 2) g44_9 rfl ?_
      refine V_iload_n (c := cI) i44_16.1 (mM_n i44_16.2) rfl ?_
      refine V_caload (c := cI) i44_17.1 (mM_n i44_17.2) rfl rfl (fun _ => ?_)
      refine V_goto (c := cI) i44_18.1 (mM_n i44_18.2) rfl ?_
      exact V_msk (l1 := [none, none]) i44_22.2 rfl rfl
theorem k_Page_at_21_eq   {S : Mem} : k_Page_at_21  S = k_Page_at_22 0 S := by
  show cI (mV oS X0 44 21 [none, none] [] S) = _
  refine V_iconst (c := cI) i44_21.1 (mM_s i44_21.2 rfl) (v := 0) rfl ?_
  exact V_msk (l1 := [none, none]) i44_22.2 rfl rfl
theorem k_Page_at_22_eq {xs0 : Int32}  {S : Mem} : k_Page_at_22 xs0 S = if inb xs0 65536 = true then some (xs0, S) else none := by
  show cI (mV oS X0 44 22 [none, none] [.int xs0] S) = _
  exact V_iretC i44_22.1 (mM_s i44_22.2 rfl) rfl
theorem f_Page_digitsOfWay_eq   {S : Mem} : f_Page_digitsOfWay  S = k_Page_digitsOfWay_2 0 S := by
  show cI (mV oS X0 45 0 [some (.ref 1), none] [] S) = _
  refine V_iconst (c := cI) i45_0.1 (mM_n i45_0.2) (v := 0) rfl ?_
  refine V_istore_n (c := cI) i45_1.1 (mM_n i45_1.2) (l1 := [some (.ref 1), some (.int 0)])  (Nat.le_of_ble_eq_true rfl) rfl ?_
  exact V_msk (l1 := [some (.ref 1), some (.int 0)]) i45_2.2 rfl rfl
theorem k_Page_digitsOfWay_2_eq {x1 : Int32}  {S : Mem} : k_Page_digitsOfWay_2 x1 S = if (S.1 1 1) ≤ x1 then k_Page_digitsOfWay_34 x1 S else if 20 ≤ x1 then k_Page_digitsOfWay_34 x1 S else if inb x1 50 = true then bI (f_Page_isDigit (S.1 2 (x1.toNatClampNeg)) S) (fun r4 S3 => if r4 = 0 then k_Page_digitsOfWay_34 x1 S3 else k_Page_digitsOfWay_2 (x1 + 1) S3) else none := by
  show cI (mV oS X0 45 2 [some (.ref 1), some (.int x1)] [] S) = _
  refine V_iload_n (c := cI) i45_2.1 (mM_s i45_2.2 rfl) rfl ?_
  refine V_aload_n (c := cI) i45_3.1 (mM_n i45_3.2) rfl rfl ?_
  refine V_gf (c := cI) i45_4.1 (mM_n i45_4.2) (v := .int (S.1 1 1)) g45_15 rfl ?_
  refine V_icmp_ge (c := cI) i45_7.1 (mM_n i45_7.2) rfl (fun _ => ?_) (fun _ => ?_)
  · exact V_msk (l1 := [none, some (.int x1)]) i45_34.2 rfl rfl
  · refine V_iload_n (c := cI) i45_10.1 (mM_n i45_10.2) rfl ?_
    refine V_bipush (c := cI) i45_11.1 (mM_n i45_11.2) (v := 20) rfl ?_
    refine V_icmp_ge (c := cI) i45_13.1 (mM_n i45_13.2) rfl (fun _ => ?_) (fun _ => ?_)
    · exact V_msk (l1 := [none, some (.int x1)]) i45_34.2 rfl rfl
    · refine V_aload_n (c := cI) i45_16.1 (mM_n i45_16.2) rfl rfl ?_
      refine V_gf (c := cI) i45_17.1 (mM_n i45_17.2) (v := .ref 2) g45_9 rfl ?_
      refine V_iload_n (c := cI) i45_20.1 (mM_n i45_20.2) rfl ?_
      refine V_caload (c := cI) i45_21.1 (mM_n i45_21.2) rfl rfl (fun _ => ?_)
      refine V_ciI (c := cI) (As := [.int (S.1 2 (x1.toNatClampNeg))]) (rest := []) i45_22.1 (mM_n i45_22.2) c45_21 rfl rfl rfl (Nat.le_of_ble_eq_true rfl) rfl (fun r4 S3 => ?_)
      refine V_if_eq (c := cI) i45_25.1 (mM_n i45_25.2) rfl (fun _ => ?_) (fun _ => ?_)
      · exact V_msk (l1 := [none, some (.int x1)]) i45_34.2 rfl rfl
      · refine V_iinc (c := cI) i45_28.1 (mM_n i45_28.2) (l1 := [some (.ref 1), some (.int (x1 + 1))]) rfl rfl rfl ?_
        refine V_goto (c := cI) i45_31.1 (mM_n i45_31.2) rfl ?_
        exact V_msk (l1 := [some (.ref 1), some (.int (x1 + 1))]) i45_2.2 rfl rfl
theorem k_Page_digitsOfWay_34_eq {x1 : Int32}  {S : Mem} : k_Page_digitsOfWay_34 x1 S = some (x1, S) := by
  show cI (mV oS X0 45 34 [none, some (.int x1)] [] S) = _
  refine V_iload_n (c := cI) i45_34.1 (mM_s i45_34.2 rfl) rfl ?_
  exact V_iret i45_35.1 (mM_n i45_35.2) rfl
theorem f_Page_isDigit_eq {x0 : Int32}  {S : Mem} : f_Page_isDigit x0 S = if x0 < 48 then k_Page_isDigit_16 S else if 56 ≤ x0 then k_Page_isDigit_16 S else k_Page_isDigit_17 1 S := by
  show cI (mV oS X0 46 0 [some (.int x0)] [] S) = _
  refine V_iload_n (c := cI) i46_0.1 (mM_n i46_0.2) rfl ?_
  refine V_bipush (c := cI) i46_1.1 (mM_n i46_1.2) (v := 48) rfl ?_
  refine V_icmp_lt (c := cI) i46_3.1 (mM_n i46_3.2) rfl (fun _ => ?_) (fun _ => ?_)
  · exact V_msk (l1 := [none]) i46_16.2 rfl rfl
  · refine V_iload_n (c := cI) i46_6.1 (mM_n i46_6.2) rfl ?_
    refine V_bipush (c := cI) i46_7.1 (mM_n i46_7.2) (v := 56) rfl ?_
    refine V_icmp_ge (c := cI) i46_9.1 (mM_n i46_9.2) rfl (fun _ => ?_) (fun _ => ?_)
    · exact V_msk (l1 := [none]) i46_16.2 rfl rfl
    · refine V_iconst (c := cI) i46_12.1 (mM_n i46_12.2) (v := 1) rfl ?_
      refine V_goto (c := cI) i46_13.1 (mM_n i46_13.2) rfl ?_
      exact V_msk (l1 := [none]) i46_17.2 rfl rfl
theorem k_Page_isDigit_16_eq   {S : Mem} : k_Page_isDigit_16  S = k_Page_isDigit_17 0 S := by
  show cI (mV oS X0 46 16 [none] [] S) = _
  refine V_iconst (c := cI) i46_16.1 (mM_s i46_16.2 rfl) (v := 0) rfl ?_
  exact V_msk (l1 := [none]) i46_17.2 rfl rfl
theorem k_Page_isDigit_17_eq {xs0 : Int32}  {S : Mem} : k_Page_isDigit_17 xs0 S = if zb xs0 = true then some (xs0, S) else none := by
  show cI (mV oS X0 46 17 [none] [.int xs0] S) = _
  exact V_iretZ i46_17.1 (mM_s i46_17.2 rfl) rfl
