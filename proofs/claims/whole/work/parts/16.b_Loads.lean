/-! blocks of Loads: printed by a program -/
theorem i1_0 : decode (mCd 1) 0 = .ok (.aload_n 0, 1) ∧ lk (mMsk 1) 0 = none := by decide +kernel
theorem i1_1 : decode (mCd 1) 1 = .ok (.iconst 1, 1) ∧ lk (mMsk 1) 1 = none := by decide +kernel
theorem i1_2 : decode (mCd 1) 2 = .ok (.iload_n 1, 1) ∧ lk (mMsk 1) 2 = none := by decide +kernel
theorem i1_3 : decode (mCd 1) 3 = .ok (.ishl, 1) ∧ lk (mMsk 1) 3 = none := by decide +kernel
theorem i1_4 : decode (mCd 1) 4 = .ok (.invokevirtual 46, 3) ∧ lk (mMsk 1) 4 = none := by decide +kernel
theorem c1_46 : cvOk 1 46 5 1 3 = true := by decide +kernel
theorem i1_7 : decode (mCd 1) 7 = .ok (.aload_n 0, 1) ∧ lk (mMsk 1) 7 = none := by decide +kernel
theorem i1_8 : decode (mCd 1) 8 = .ok (.getfield 42, 3) ∧ lk (mMsk 1) 8 = none := by decide +kernel
theorem g1_42 : fOk 1 42 0 2 = true := by decide +kernel
theorem i1_11 : decode (mCd 1) 11 = .ok (.aload_n 0, 1) ∧ lk (mMsk 1) 11 = none := by decide +kernel
theorem i1_12 : decode (mCd 1) 12 = .ok (.getfield 22, 3) ∧ lk (mMsk 1) 12 = none := by decide +kernel
theorem g1_22 : fOk 1 22 0 6 = true := by decide +kernel
theorem i1_15 : decode (mCd 1) 15 = .ok (.invokevirtual 50, 3) ∧ lk (mMsk 1) 15 = none := by decide +kernel
theorem c1_50 : cvOk 1 50 10 1 3 = true := by decide +kernel
theorem i1_18 : decode (mCd 1) 18 = .ok (.aload_n 0, 1) ∧ lk (mMsk 1) 18 = none := by decide +kernel
theorem i1_19 : decode (mCd 1) 19 = .ok (.getfield 42, 3) ∧ lk (mMsk 1) 19 = none := by decide +kernel
theorem i1_22 : decode (mCd 1) 22 = .ok (.invokevirtual 55, 3) ∧ lk (mMsk 1) 22 = none := by decide +kernel
theorem c1_55 : cvOk 1 55 12 0 0 = true := by decide +kernel
theorem i1_25 : decode (mCd 1) 25 = .ok (.pop, 1) ∧ lk (mMsk 1) 25 = none := by decide +kernel
theorem i1_26 : decode (mCd 1) 26 = .ok (.iconst 0, 1) ∧ lk (mMsk 1) 26 = none := by decide +kernel
theorem i1_27 : decode (mCd 1) 27 = .ok (.istore_n 2, 1) ∧ lk (mMsk 1) 27 = none := by decide +kernel
theorem i1_28 : decode (mCd 1) 28 = .ok (.iload_n 2, 1) ∧ lk (mMsk 1) 28 = some [true, false, true] := by decide +kernel
theorem i1_29 : decode (mCd 1) 29 = .ok (.bipush 20, 2) ∧ lk (mMsk 1) 29 = none := by decide +kernel
theorem i1_31 : decode (mCd 1) 31 = .ok (.if_icmp .gt 20, 3) ∧ lk (mMsk 1) 31 = none := by decide +kernel
theorem i1_51 : decode (mCd 1) 51 = .ok (.iconst (-1), 1) ∧ lk (mMsk 1) 51 = none := by decide +kernel
theorem i1_52 : decode (mCd 1) 52 = .ok (.ireturn, 1) ∧ lk (mMsk 1) 52 = none := by decide +kernel
theorem i1_34 : decode (mCd 1) 34 = .ok (.aload_n 0, 1) ∧ lk (mMsk 1) 34 = none := by decide +kernel
theorem i1_35 : decode (mCd 1) 35 = .ok (.iconst 0, 1) ∧ lk (mMsk 1) 35 = none := by decide +kernel
theorem i1_36 : decode (mCd 1) 36 = .ok (.iload_n 2, 1) ∧ lk (mMsk 1) 36 = none := by decide +kernel
theorem i1_37 : decode (mCd 1) 37 = .ok (.invokevirtual 59, 3) ∧ lk (mMsk 1) 37 = none := by decide +kernel
theorem c1_59 : cvOk 1 59 7 2 0 = true := by decide +kernel
theorem i1_40 : decode (mCd 1) 40 = .ok (.ifCond .eq 5, 3) ∧ lk (mMsk 1) 40 = none := by decide +kernel
theorem i1_45 : decode (mCd 1) 45 = .ok (.iinc 2 1, 3) ∧ lk (mMsk 1) 45 = none := by decide +kernel
theorem i1_48 : decode (mCd 1) 48 = .ok (.goto (-20), 3) ∧ lk (mMsk 1) 48 = none := by decide +kernel
theorem i1_43 : decode (mCd 1) 43 = .ok (.iload_n 2, 1) ∧ lk (mMsk 1) 43 = none := by decide +kernel
theorem i1_44 : decode (mCd 1) 44 = .ok (.ireturn, 1) ∧ lk (mMsk 1) 44 = none := by decide +kernel
theorem i2_0 : decode (mCd 2) 0 = .ok (.aload_n 0, 1) ∧ lk (mMsk 2) 0 = none := by decide +kernel
theorem i2_1 : decode (mCd 2) 1 = .ok (.iload_n 1, 1) ∧ lk (mMsk 2) 1 = none := by decide +kernel
theorem i2_2 : decode (mCd 2) 2 = .ok (.invokevirtual 46, 3) ∧ lk (mMsk 2) 2 = none := by decide +kernel
theorem c2_46 : cvOk 2 46 5 1 3 = true := by decide +kernel
theorem i2_5 : decode (mCd 2) 5 = .ok (.aload_n 0, 1) ∧ lk (mMsk 2) 5 = none := by decide +kernel
theorem i2_6 : decode (mCd 2) 6 = .ok (.getfield 42, 3) ∧ lk (mMsk 2) 6 = none := by decide +kernel
theorem g2_42 : fOk 2 42 0 2 = true := by decide +kernel
theorem i2_9 : decode (mCd 2) 9 = .ok (.aload_n 0, 1) ∧ lk (mMsk 2) 9 = none := by decide +kernel
theorem i2_10 : decode (mCd 2) 10 = .ok (.getfield 22, 3) ∧ lk (mMsk 2) 10 = none := by decide +kernel
theorem g2_22 : fOk 2 22 0 6 = true := by decide +kernel
theorem i2_13 : decode (mCd 2) 13 = .ok (.invokevirtual 50, 3) ∧ lk (mMsk 2) 13 = none := by decide +kernel
theorem c2_50 : cvOk 2 50 10 1 3 = true := by decide +kernel
theorem i2_16 : decode (mCd 2) 16 = .ok (.aload_n 0, 1) ∧ lk (mMsk 2) 16 = none := by decide +kernel
theorem i2_17 : decode (mCd 2) 17 = .ok (.getfield 42, 3) ∧ lk (mMsk 2) 17 = none := by decide +kernel
theorem i2_20 : decode (mCd 2) 20 = .ok (.invokevirtual 55, 3) ∧ lk (mMsk 2) 20 = none := by decide +kernel
theorem c2_55 : cvOk 2 55 12 0 0 = true := by decide +kernel
theorem i2_23 : decode (mCd 2) 23 = .ok (.ifCond .le 5, 3) ∧ lk (mMsk 2) 23 = none := by decide +kernel
theorem i2_28 : decode (mCd 2) 28 = .ok (.iconst 0, 1) ∧ lk (mMsk 2) 28 = none := by decide +kernel
theorem i2_29 : decode (mCd 2) 29 = .ok (.istore_n 2, 1) ∧ lk (mMsk 2) 29 = none := by decide +kernel
theorem i2_30 : decode (mCd 2) 30 = .ok (.iload_n 2, 1) ∧ lk (mMsk 2) 30 = some [true, false, true] := by decide +kernel
theorem i2_26 : decode (mCd 2) 26 = .ok (.iconst 0, 1) ∧ lk (mMsk 2) 26 = none := by decide +kernel
theorem i2_27 : decode (mCd 2) 27 = .ok (.ireturn, 1) ∧ lk (mMsk 2) 27 = none := by decide +kernel
theorem i2_31 : decode (mCd 2) 31 = .ok (.aload_n 0, 1) ∧ lk (mMsk 2) 31 = none := by decide +kernel
theorem i2_32 : decode (mCd 2) 32 = .ok (.iconst 0, 1) ∧ lk (mMsk 2) 32 = none := by decide +kernel
theorem i2_33 : decode (mCd 2) 33 = .ok (.invokevirtual 63, 3) ∧ lk (mMsk 2) 33 = none := by decide +kernel
theorem c2_63 : cvOk 2 63 6 1 0 = true := by decide +kernel
theorem i2_36 : decode (mCd 2) 36 = .ok (.if_icmp .ge 22, 3) ∧ lk (mMsk 2) 36 = none := by decide +kernel
theorem i2_58 : decode (mCd 2) 58 = .ok (.aload_n 0, 1) ∧ lk (mMsk 2) 58 = none := by decide +kernel
theorem i2_59 : decode (mCd 2) 59 = .ok (.getfield 25, 3) ∧ lk (mMsk 2) 59 = none := by decide +kernel
theorem g2_25 : fOk 2 25 0 7 = true := by decide +kernel
theorem i2_62 : decode (mCd 2) 62 = .ok (.ireturn, 1) ∧ lk (mMsk 2) 62 = none := by decide +kernel
theorem i2_39 : decode (mCd 2) 39 = .ok (.aload_n 0, 1) ∧ lk (mMsk 2) 39 = none := by decide +kernel
theorem i2_40 : decode (mCd 2) 40 = .ok (.iconst 0, 1) ∧ lk (mMsk 2) 40 = none := by decide +kernel
theorem i2_41 : decode (mCd 2) 41 = .ok (.iload_n 2, 1) ∧ lk (mMsk 2) 41 = none := by decide +kernel
theorem i2_42 : decode (mCd 2) 42 = .ok (.invokevirtual 59, 3) ∧ lk (mMsk 2) 42 = none := by decide +kernel
theorem c2_59 : cvOk 2 59 7 2 0 = true := by decide +kernel
theorem i2_45 : decode (mCd 2) 45 = .ok (.ifCond .eq 7, 3) ∧ lk (mMsk 2) 45 = none := by decide +kernel
theorem i2_52 : decode (mCd 2) 52 = .ok (.iinc 2 1, 3) ∧ lk (mMsk 2) 52 = some [true, false, true] := by decide +kernel
theorem i2_48 : decode (mCd 2) 48 = .ok (.aload_n 0, 1) ∧ lk (mMsk 2) 48 = none := by decide +kernel
theorem i2_49 : decode (mCd 2) 49 = .ok (.invokevirtual 67, 3) ∧ lk (mMsk 2) 49 = none := by decide +kernel
theorem c2_67 : cvOk 2 67 3 0 3 = true := by decide +kernel
theorem i2_55 : decode (mCd 2) 55 = .ok (.goto (-25), 3) ∧ lk (mMsk 2) 55 = none := by decide +kernel
theorem i3_0 : decode (mCd 3) 0 = .ok (.iconst 0, 1) ∧ lk (mMsk 3) 0 = none := by decide +kernel
theorem i3_1 : decode (mCd 3) 1 = .ok (.istore_n 1, 1) ∧ lk (mMsk 3) 1 = none := by decide +kernel
theorem i3_2 : decode (mCd 3) 2 = .ok (.iload_n 1, 1) ∧ lk (mMsk 3) 2 = some [true, true, false] := by decide +kernel
theorem i3_3 : decode (mCd 3) 3 = .ok (.aload_n 0, 1) ∧ lk (mMsk 3) 3 = none := by decide +kernel
theorem i3_4 : decode (mCd 3) 4 = .ok (.iconst 1, 1) ∧ lk (mMsk 3) 4 = none := by decide +kernel
theorem i3_5 : decode (mCd 3) 5 = .ok (.invokevirtual 63, 3) ∧ lk (mMsk 3) 5 = none := by decide +kernel
theorem c3_63 : cvOk 3 63 6 1 0 = true := by decide +kernel
theorem i3_8 : decode (mCd 3) 8 = .ok (.if_icmp .ge 51, 3) ∧ lk (mMsk 3) 8 = none := by decide +kernel
theorem i3_59 : decode (mCd 3) 59 = .ok (.return_, 1) ∧ lk (mMsk 3) 59 = none := by decide +kernel
theorem i3_11 : decode (mCd 3) 11 = .ok (.aload_n 0, 1) ∧ lk (mMsk 3) 11 = none := by decide +kernel
theorem i3_12 : decode (mCd 3) 12 = .ok (.iconst 1, 1) ∧ lk (mMsk 3) 12 = none := by decide +kernel
theorem i3_13 : decode (mCd 3) 13 = .ok (.iload_n 1, 1) ∧ lk (mMsk 3) 13 = none := by decide +kernel
theorem i3_14 : decode (mCd 3) 14 = .ok (.invokevirtual 59, 3) ∧ lk (mMsk 3) 14 = none := by decide +kernel
theorem c3_59 : cvOk 3 59 7 2 0 = true := by decide +kernel
theorem i3_17 : decode (mCd 3) 17 = .ok (.ifCond .ne 6, 3) ∧ lk (mMsk 3) 17 = none := by decide +kernel
theorem i3_20 : decode (mCd 3) 20 = .ok (.goto 33, 3) ∧ lk (mMsk 3) 20 = none := by decide +kernel
theorem i3_53 : decode (mCd 3) 53 = .ok (.iinc 1 1, 3) ∧ lk (mMsk 3) 53 = some [true, true, false] := by decide +kernel
theorem i3_23 : decode (mCd 3) 23 = .ok (.iconst 0, 1) ∧ lk (mMsk 3) 23 = none := by decide +kernel
theorem i3_24 : decode (mCd 3) 24 = .ok (.istore_n 2, 1) ∧ lk (mMsk 3) 24 = none := by decide +kernel
theorem i3_25 : decode (mCd 3) 25 = .ok (.iload_n 2, 1) ∧ lk (mMsk 3) 25 = some [true, true, true] := by decide +kernel
theorem i3_26 : decode (mCd 3) 26 = .ok (.aload_n 0, 1) ∧ lk (mMsk 3) 26 = none := by decide +kernel
theorem i3_27 : decode (mCd 3) 27 = .ok (.iconst 2, 1) ∧ lk (mMsk 3) 27 = none := by decide +kernel
theorem i3_28 : decode (mCd 3) 28 = .ok (.invokevirtual 63, 3) ∧ lk (mMsk 3) 28 = none := by decide +kernel
theorem i3_31 : decode (mCd 3) 31 = .ok (.if_icmp .ge 22, 3) ∧ lk (mMsk 3) 31 = none := by decide +kernel
theorem i3_34 : decode (mCd 3) 34 = .ok (.aload_n 0, 1) ∧ lk (mMsk 3) 34 = none := by decide +kernel
theorem i3_35 : decode (mCd 3) 35 = .ok (.iconst 2, 1) ∧ lk (mMsk 3) 35 = none := by decide +kernel
theorem i3_36 : decode (mCd 3) 36 = .ok (.iload_n 2, 1) ∧ lk (mMsk 3) 36 = none := by decide +kernel
theorem i3_37 : decode (mCd 3) 37 = .ok (.invokevirtual 59, 3) ∧ lk (mMsk 3) 37 = none := by decide +kernel
theorem i3_40 : decode (mCd 3) 40 = .ok (.ifCond .eq 7, 3) ∧ lk (mMsk 3) 40 = none := by decide +kernel
theorem i3_47 : decode (mCd 3) 47 = .ok (.iinc 2 1, 3) ∧ lk (mMsk 3) 47 = some [true, true, true] := by decide +kernel
theorem i3_43 : decode (mCd 3) 43 = .ok (.aload_n 0, 1) ∧ lk (mMsk 3) 43 = none := by decide +kernel
theorem i3_44 : decode (mCd 3) 44 = .ok (.invokevirtual 70, 3) ∧ lk (mMsk 3) 44 = none := by decide +kernel
theorem c3_70 : cvOk 3 70 8 0 3 = true := by decide +kernel
theorem i3_50 : decode (mCd 3) 50 = .ok (.goto (-25), 3) ∧ lk (mMsk 3) 50 = none := by decide +kernel
theorem i3_56 : decode (mCd 3) 56 = .ok (.goto (-54), 3) ∧ lk (mMsk 3) 56 = none := by decide +kernel
theorem i4_0 : decode (mCd 4) 0 = .ok (.aload_n 0, 1) ∧ lk (mMsk 4) 0 = none := by decide +kernel
theorem i4_1 : decode (mCd 4) 1 = .ok (.getfield 25, 3) ∧ lk (mMsk 4) 1 = none := by decide +kernel
theorem g4_25 : fOk 4 25 0 7 = true := by decide +kernel
theorem i4_4 : decode (mCd 4) 4 = .ok (.ifCond .le 36, 3) ∧ lk (mMsk 4) 4 = none := by decide +kernel
theorem i4_40 : decode (mCd 4) 40 = .ok (.iconst (-1), 1) ∧ lk (mMsk 4) 40 = some [false, false] := by decide +kernel
theorem i4_7 : decode (mCd 4) 7 = .ok (.iload_n 1, 1) ∧ lk (mMsk 4) 7 = none := by decide +kernel
theorem i4_8 : decode (mCd 4) 8 = .ok (.ifCond .lt 32, 3) ∧ lk (mMsk 4) 8 = none := by decide +kernel
theorem i4_11 : decode (mCd 4) 11 = .ok (.iload_n 1, 1) ∧ lk (mMsk 4) 11 = none := by decide +kernel
theorem i4_12 : decode (mCd 4) 12 = .ok (.iconst 5, 1) ∧ lk (mMsk 4) 12 = none := by decide +kernel
theorem i4_13 : decode (mCd 4) 13 = .ok (.if_icmp .ge 27, 3) ∧ lk (mMsk 4) 13 = none := by decide +kernel
theorem i4_16 : decode (mCd 4) 16 = .ok (.aload_n 0, 1) ∧ lk (mMsk 4) 16 = none := by decide +kernel
theorem i4_17 : decode (mCd 4) 17 = .ok (.getfield 28, 3) ∧ lk (mMsk 4) 17 = none := by decide +kernel
theorem g4_28 : fOk 4 28 0 8 = true := by decide +kernel
theorem i4_20 : decode (mCd 4) 20 = .ok (.iload_n 1, 1) ∧ lk (mMsk 4) 20 = none := by decide +kernel
theorem i4_21 : decode (mCd 4) 21 = .ok (.iaload, 1) ∧ lk (mMsk 4) 21 = none := by decide +kernel
theorem i4_22 : decode (mCd 4) 22 = .ok (.aload_n 0, 1) ∧ lk (mMsk 4) 22 = none := by decide +kernel
theorem i4_23 : decode (mCd 4) 23 = .ok (.getfield 31, 3) ∧ lk (mMsk 4) 23 = none := by decide +kernel
theorem g4_31 : fOk 4 31 0 9 = true := by decide +kernel
theorem i4_26 : decode (mCd 4) 26 = .ok (.iload_n 1, 1) ∧ lk (mMsk 4) 26 = none := by decide +kernel
theorem i4_27 : decode (mCd 4) 27 = .ok (.iaload, 1) ∧ lk (mMsk 4) 27 = none := by decide +kernel
theorem i4_28 : decode (mCd 4) 28 = .ok (.if_icmp .ne 12, 3) ∧ lk (mMsk 4) 28 = none := by decide +kernel
theorem i4_31 : decode (mCd 4) 31 = .ok (.aload_n 0, 1) ∧ lk (mMsk 4) 31 = none := by decide +kernel
theorem i4_32 : decode (mCd 4) 32 = .ok (.getfield 28, 3) ∧ lk (mMsk 4) 32 = none := by decide +kernel
theorem i4_35 : decode (mCd 4) 35 = .ok (.iload_n 1, 1) ∧ lk (mMsk 4) 35 = none := by decide +kernel
theorem i4_36 : decode (mCd 4) 36 = .ok (.iaload, 1) ∧ lk (mMsk 4) 36 = none := by decide +kernel
theorem i4_37 : decode (mCd 4) 37 = .ok (.goto 4, 3) ∧ lk (mMsk 4) 37 = none := by decide +kernel
theorem i4_41 : decode (mCd 4) 41 = .ok (.ireturn, 1) ∧ lk (mMsk 4) 41 = some [false, false] := by decide +kernel
theorem i5_0 : decode (mCd 5) 0 = .ok (.aload_n 0, 1) ∧ lk (mMsk 5) 0 = none := by decide +kernel
theorem i5_1 : decode (mCd 5) 1 = .ok (.iload_n 1, 1) ∧ lk (mMsk 5) 1 = none := by decide +kernel
theorem i5_2 : decode (mCd 5) 2 = .ok (.putfield 22, 3) ∧ lk (mMsk 5) 2 = none := by decide +kernel
theorem p5_22 : pOk 5 22 0 6 = true := by decide +kernel
theorem i5_5 : decode (mCd 5) 5 = .ok (.aload_n 0, 1) ∧ lk (mMsk 5) 5 = none := by decide +kernel
theorem i5_6 : decode (mCd 5) 6 = .ok (.iconst 0, 1) ∧ lk (mMsk 5) 6 = none := by decide +kernel
theorem i5_7 : decode (mCd 5) 7 = .ok (.putfield 18, 3) ∧ lk (mMsk 5) 7 = none := by decide +kernel
theorem p5_18 : pOk 5 18 0 5 = true := by decide +kernel
theorem i5_10 : decode (mCd 5) 10 = .ok (.aload_n 0, 1) ∧ lk (mMsk 5) 10 = none := by decide +kernel
theorem i5_11 : decode (mCd 5) 11 = .ok (.iconst 0, 1) ∧ lk (mMsk 5) 11 = none := by decide +kernel
theorem i5_12 : decode (mCd 5) 12 = .ok (.putfield 25, 3) ∧ lk (mMsk 5) 12 = none := by decide +kernel
theorem p5_25 : pOk 5 25 0 7 = true := by decide +kernel
theorem i5_15 : decode (mCd 5) 15 = .ok (.iconst 0, 1) ∧ lk (mMsk 5) 15 = none := by decide +kernel
theorem i5_16 : decode (mCd 5) 16 = .ok (.istore_n 2, 1) ∧ lk (mMsk 5) 16 = none := by decide +kernel
theorem i5_17 : decode (mCd 5) 17 = .ok (.iload_n 2, 1) ∧ lk (mMsk 5) 17 = some [true, false, true, false] := by decide +kernel
theorem i5_18 : decode (mCd 5) 18 = .ok (.iconst 5, 1) ∧ lk (mMsk 5) 18 = none := by decide +kernel
theorem i5_19 : decode (mCd 5) 19 = .ok (.if_icmp .ge 91, 3) ∧ lk (mMsk 5) 19 = none := by decide +kernel
theorem i5_110 : decode (mCd 5) 110 = .ok (.return_, 1) ∧ lk (mMsk 5) 110 = none := by decide +kernel
theorem i5_22 : decode (mCd 5) 22 = .ok (.aload_n 0, 1) ∧ lk (mMsk 5) 22 = none := by decide +kernel
theorem i5_23 : decode (mCd 5) 23 = .ok (.getfield 38, 3) ∧ lk (mMsk 5) 23 = none := by decide +kernel
theorem g5_38 : fOk 5 38 0 1 = true := by decide +kernel
theorem i5_26 : decode (mCd 5) 26 = .ok (.iload_n 2, 1) ∧ lk (mMsk 5) 26 = none := by decide +kernel
theorem i5_27 : decode (mCd 5) 27 = .ok (.invokevirtual 73, 3) ∧ lk (mMsk 5) 27 = none := by decide +kernel
theorem c5_73 : cvOk 5 73 59 1 2 = true := by decide +kernel
theorem i5_30 : decode (mCd 5) 30 = .ok (.astore_n 3, 1) ∧ lk (mMsk 5) 30 = none := by decide +kernel
theorem i5_31 : decode (mCd 5) 31 = .ok (.aload_n 0, 1) ∧ lk (mMsk 5) 31 = none := by decide +kernel
theorem i5_32 : decode (mCd 5) 32 = .ok (.getfield 9, 3) ∧ lk (mMsk 5) 32 = none := by decide +kernel
theorem g5_9 : fOk 5 9 0 3 = true := by decide +kernel
theorem i5_35 : decode (mCd 5) 35 = .ok (.iload_n 2, 1) ∧ lk (mMsk 5) 35 = none := by decide +kernel
theorem i5_36 : decode (mCd 5) 36 = .ok (.aload_n 3, 1) ∧ lk (mMsk 5) 36 = none := by decide +kernel
theorem i5_37 : decode (mCd 5) 37 = .ok (.ifnonnull 7, 3) ∧ lk (mMsk 5) 37 = none := by decide +kernel
theorem i5_40 : decode (mCd 5) 40 = .ok (.iconst 0, 1) ∧ lk (mMsk 5) 40 = some [true, false, true, false] := by decide +kernel
theorem i5_44 : decode (mCd 5) 44 = .ok (.aload_n 3, 1) ∧ lk (mMsk 5) 44 = some [true, false, true, true] := by decide +kernel
theorem i5_45 : decode (mCd 5) 45 = .ok (.getfield 79, 3) ∧ lk (mMsk 5) 45 = none := by decide +kernel
theorem g5_79 : fOk 5 79 7 3 = true := by decide +kernel
theorem i5_48 : decode (mCd 5) 48 = .ok (.iastore, 1) ∧ lk (mMsk 5) 48 = some [true, false, true, false] := by decide +kernel
theorem i5_49 : decode (mCd 5) 49 = .ok (.aload_n 0, 1) ∧ lk (mMsk 5) 49 = none := by decide +kernel
theorem i5_50 : decode (mCd 5) 50 = .ok (.getfield 28, 3) ∧ lk (mMsk 5) 50 = none := by decide +kernel
theorem g5_28 : fOk 5 28 0 8 = true := by decide +kernel
theorem i5_53 : decode (mCd 5) 53 = .ok (.iload_n 2, 1) ∧ lk (mMsk 5) 53 = none := by decide +kernel
theorem i5_54 : decode (mCd 5) 54 = .ok (.bipush 20, 2) ∧ lk (mMsk 5) 54 = none := by decide +kernel
theorem i5_56 : decode (mCd 5) 56 = .ok (.iastore, 1) ∧ lk (mMsk 5) 56 = none := by decide +kernel
theorem i5_57 : decode (mCd 5) 57 = .ok (.aload_n 0, 1) ∧ lk (mMsk 5) 57 = none := by decide +kernel
theorem i5_58 : decode (mCd 5) 58 = .ok (.getfield 31, 3) ∧ lk (mMsk 5) 58 = none := by decide +kernel
theorem g5_31 : fOk 5 31 0 9 = true := by decide +kernel
theorem i5_61 : decode (mCd 5) 61 = .ok (.iload_n 2, 1) ∧ lk (mMsk 5) 61 = none := by decide +kernel
theorem i5_62 : decode (mCd 5) 62 = .ok (.iconst 0, 1) ∧ lk (mMsk 5) 62 = none := by decide +kernel
theorem i5_63 : decode (mCd 5) 63 = .ok (.iastore, 1) ∧ lk (mMsk 5) 63 = none := by decide +kernel
theorem i5_64 : decode (mCd 5) 64 = .ok (.aload_n 0, 1) ∧ lk (mMsk 5) 64 = none := by decide +kernel
theorem i5_65 : decode (mCd 5) 65 = .ok (.getfield 22, 3) ∧ lk (mMsk 5) 65 = none := by decide +kernel
theorem g5_22 : fOk 5 22 0 6 = true := by decide +kernel
theorem i5_68 : decode (mCd 5) 68 = .ok (.iload_n 2, 1) ∧ lk (mMsk 5) 68 = none := by decide +kernel
theorem i5_69 : decode (mCd 5) 69 = .ok (.ishr, 1) ∧ lk (mMsk 5) 69 = none := by decide +kernel
theorem i5_70 : decode (mCd 5) 70 = .ok (.iconst 1, 1) ∧ lk (mMsk 5) 70 = none := by decide +kernel
theorem i5_71 : decode (mCd 5) 71 = .ok (.iand, 1) ∧ lk (mMsk 5) 71 = none := by decide +kernel
theorem i5_72 : decode (mCd 5) 72 = .ok (.iconst 1, 1) ∧ lk (mMsk 5) 72 = none := by decide +kernel
theorem i5_73 : decode (mCd 5) 73 = .ok (.if_icmp .ne 31, 3) ∧ lk (mMsk 5) 73 = none := by decide +kernel
theorem i5_76 : decode (mCd 5) 76 = .ok (.aload_n 0, 1) ∧ lk (mMsk 5) 76 = none := by decide +kernel
theorem i5_77 : decode (mCd 5) 77 = .ok (.getfield 18, 3) ∧ lk (mMsk 5) 77 = none := by decide +kernel
theorem g5_18 : fOk 5 18 0 5 = true := by decide +kernel
theorem i5_80 : decode (mCd 5) 80 = .ok (.iconst 3, 1) ∧ lk (mMsk 5) 80 = none := by decide +kernel
theorem i5_81 : decode (mCd 5) 81 = .ok (.if_icmp .ge 23, 3) ∧ lk (mMsk 5) 81 = none := by decide +kernel
theorem i5_104 : decode (mCd 5) 104 = .ok (.iinc 2 1, 3) ∧ lk (mMsk 5) 104 = some [true, false, true, false] := by decide +kernel
theorem i5_84 : decode (mCd 5) 84 = .ok (.aload_n 0, 1) ∧ lk (mMsk 5) 84 = none := by decide +kernel
theorem i5_85 : decode (mCd 5) 85 = .ok (.getfield 15, 3) ∧ lk (mMsk 5) 85 = none := by decide +kernel
theorem g5_15 : fOk 5 15 0 4 = true := by decide +kernel
theorem i5_88 : decode (mCd 5) 88 = .ok (.aload_n 0, 1) ∧ lk (mMsk 5) 88 = none := by decide +kernel
theorem i5_89 : decode (mCd 5) 89 = .ok (.getfield 18, 3) ∧ lk (mMsk 5) 89 = none := by decide +kernel
theorem i5_92 : decode (mCd 5) 92 = .ok (.iload_n 2, 1) ∧ lk (mMsk 5) 92 = none := by decide +kernel
theorem i5_93 : decode (mCd 5) 93 = .ok (.iastore, 1) ∧ lk (mMsk 5) 93 = none := by decide +kernel
theorem i5_94 : decode (mCd 5) 94 = .ok (.aload_n 0, 1) ∧ lk (mMsk 5) 94 = none := by decide +kernel
theorem i5_95 : decode (mCd 5) 95 = .ok (.dup, 1) ∧ lk (mMsk 5) 95 = none := by decide +kernel
theorem i5_96 : decode (mCd 5) 96 = .ok (.getfield 18, 3) ∧ lk (mMsk 5) 96 = none := by decide +kernel
theorem i5_99 : decode (mCd 5) 99 = .ok (.iconst 1, 1) ∧ lk (mMsk 5) 99 = none := by decide +kernel
theorem i5_100 : decode (mCd 5) 100 = .ok (.iadd, 1) ∧ lk (mMsk 5) 100 = none := by decide +kernel
theorem i5_101 : decode (mCd 5) 101 = .ok (.putfield 18, 3) ∧ lk (mMsk 5) 101 = none := by decide +kernel
theorem i5_107 : decode (mCd 5) 107 = .ok (.goto (-90), 3) ∧ lk (mMsk 5) 107 = none := by decide +kernel
theorem i5_41 : decode (mCd 5) 41 = .ok (.goto 7, 3) ∧ lk (mMsk 5) 41 = none := by decide +kernel
theorem i6_0 : decode (mCd 6) 0 = .ok (.iload_n 1, 1) ∧ lk (mMsk 6) 0 = none := by decide +kernel
theorem i6_1 : decode (mCd 6) 1 = .ok (.aload_n 0, 1) ∧ lk (mMsk 6) 1 = none := by decide +kernel
theorem i6_2 : decode (mCd 6) 2 = .ok (.getfield 18, 3) ∧ lk (mMsk 6) 2 = none := by decide +kernel
theorem g6_18 : fOk 6 18 0 5 = true := by decide +kernel
theorem i6_5 : decode (mCd 6) 5 = .ok (.if_icmp .ge 8, 3) ∧ lk (mMsk 6) 5 = none := by decide +kernel
theorem i6_13 : decode (mCd 6) 13 = .ok (.iconst 1, 1) ∧ lk (mMsk 6) 13 = none := by decide +kernel
theorem i6_14 : decode (mCd 6) 14 = .ok (.ireturn, 1) ∧ lk (mMsk 6) 14 = some [false, false] := by decide +kernel
theorem i6_8 : decode (mCd 6) 8 = .ok (.bipush 10, 2) ∧ lk (mMsk 6) 8 = none := by decide +kernel
theorem i6_10 : decode (mCd 6) 10 = .ok (.goto 4, 3) ∧ lk (mMsk 6) 10 = none := by decide +kernel
theorem i7_0 : decode (mCd 7) 0 = .ok (.iload_n 1, 1) ∧ lk (mMsk 7) 0 = none := by decide +kernel
theorem i7_1 : decode (mCd 7) 1 = .ok (.ifCond .lt 16, 3) ∧ lk (mMsk 7) 1 = none := by decide +kernel
theorem i7_17 : decode (mCd 7) 17 = .ok (.iconst 1, 1) ∧ lk (mMsk 7) 17 = some [false, false, false, false, false, false, false, false, false] := by decide +kernel
theorem i7_4 : decode (mCd 7) 4 = .ok (.iload_n 1, 1) ∧ lk (mMsk 7) 4 = none := by decide +kernel
theorem i7_5 : decode (mCd 7) 5 = .ok (.aload_n 0, 1) ∧ lk (mMsk 7) 5 = none := by decide +kernel
theorem i7_6 : decode (mCd 7) 6 = .ok (.getfield 18, 3) ∧ lk (mMsk 7) 6 = none := by decide +kernel
theorem g7_18 : fOk 7 18 0 5 = true := by decide +kernel
theorem i7_9 : decode (mCd 7) 9 = .ok (.if_icmp .ge 8, 3) ∧ lk (mMsk 7) 9 = none := by decide +kernel
theorem i7_12 : decode (mCd 7) 12 = .ok (.iload_n 1, 1) ∧ lk (mMsk 7) 12 = none := by decide +kernel
theorem i7_13 : decode (mCd 7) 13 = .ok (.iconst 3, 1) ∧ lk (mMsk 7) 13 = none := by decide +kernel
theorem i7_14 : decode (mCd 7) 14 = .ok (.if_icmp .lt 5, 3) ∧ lk (mMsk 7) 14 = none := by decide +kernel
theorem i7_19 : decode (mCd 7) 19 = .ok (.aload_n 0, 1) ∧ lk (mMsk 7) 19 = none := by decide +kernel
theorem i7_20 : decode (mCd 7) 20 = .ok (.getfield 15, 3) ∧ lk (mMsk 7) 20 = none := by decide +kernel
theorem g7_15 : fOk 7 15 0 4 = true := by decide +kernel
theorem i7_23 : decode (mCd 7) 23 = .ok (.iload_n 1, 1) ∧ lk (mMsk 7) 23 = none := by decide +kernel
theorem i7_24 : decode (mCd 7) 24 = .ok (.iaload, 1) ∧ lk (mMsk 7) 24 = none := by decide +kernel
theorem i7_25 : decode (mCd 7) 25 = .ok (.istore_n 3, 1) ∧ lk (mMsk 7) 25 = none := by decide +kernel
theorem i7_26 : decode (mCd 7) 26 = .ok (.aload_n 0, 1) ∧ lk (mMsk 7) 26 = none := by decide +kernel
theorem i7_27 : decode (mCd 7) 27 = .ok (.getfield 38, 3) ∧ lk (mMsk 7) 27 = none := by decide +kernel
theorem g7_38 : fOk 7 38 0 1 = true := by decide +kernel
theorem i7_30 : decode (mCd 7) 30 = .ok (.iload_n 3, 1) ∧ lk (mMsk 7) 30 = none := by decide +kernel
theorem i7_31 : decode (mCd 7) 31 = .ok (.invokevirtual 73, 3) ∧ lk (mMsk 7) 31 = none := by decide +kernel
theorem c7_73 : cvOk 7 73 59 1 2 = true := by decide +kernel
theorem i7_34 : decode (mCd 7) 34 = .ok (.astore 4, 2) ∧ lk (mMsk 7) 34 = none := by decide +kernel
theorem i7_36 : decode (mCd 7) 36 = .ok (.aload 4, 2) ∧ lk (mMsk 7) 36 = none := by decide +kernel
theorem i7_38 : decode (mCd 7) 38 = .ok (.ifnonnull 5, 3) ∧ lk (mMsk 7) 38 = none := by decide +kernel
theorem i7_41 : decode (mCd 7) 41 = .ok (.iconst 1, 1) ∧ lk (mMsk 7) 41 = some [false, false, false, false, false, false, false, false, false] := by decide +kernel
theorem i7_43 : decode (mCd 7) 43 = .ok (.aload_n 0, 1) ∧ lk (mMsk 7) 43 = some [true, false, true, true, true, false, false, false, false] := by decide +kernel
theorem i7_44 : decode (mCd 7) 44 = .ok (.getfield 9, 3) ∧ lk (mMsk 7) 44 = none := by decide +kernel
theorem g7_9 : fOk 7 9 0 3 = true := by decide +kernel
theorem i7_47 : decode (mCd 7) 47 = .ok (.iload_n 3, 1) ∧ lk (mMsk 7) 47 = none := by decide +kernel
theorem i7_48 : decode (mCd 7) 48 = .ok (.iload_n 2, 1) ∧ lk (mMsk 7) 48 = none := by decide +kernel
theorem i7_49 : decode (mCd 7) 49 = .ok (.iastore, 1) ∧ lk (mMsk 7) 49 = none := by decide +kernel
theorem i7_50 : decode (mCd 7) 50 = .ok (.aload_n 0, 1) ∧ lk (mMsk 7) 50 = none := by decide +kernel
theorem i7_51 : decode (mCd 7) 51 = .ok (.getfield 22, 3) ∧ lk (mMsk 7) 51 = none := by decide +kernel
theorem g7_22 : fOk 7 22 0 6 = true := by decide +kernel
theorem i7_54 : decode (mCd 7) 54 = .ok (.bipush (-2), 2) ∧ lk (mMsk 7) 54 = none := by decide +kernel
theorem i7_56 : decode (mCd 7) 56 = .ok (.iload_n 3, 1) ∧ lk (mMsk 7) 56 = none := by decide +kernel
theorem i7_57 : decode (mCd 7) 57 = .ok (.ishl, 1) ∧ lk (mMsk 7) 57 = none := by decide +kernel
theorem i7_58 : decode (mCd 7) 58 = .ok (.iand, 1) ∧ lk (mMsk 7) 58 = none := by decide +kernel
theorem i7_59 : decode (mCd 7) 59 = .ok (.istore 5, 2) ∧ lk (mMsk 7) 59 = none := by decide +kernel
theorem i7_61 : decode (mCd 7) 61 = .ok (.iconst 0, 1) ∧ lk (mMsk 7) 61 = none := by decide +kernel
theorem i7_62 : decode (mCd 7) 62 = .ok (.istore 6, 2) ∧ lk (mMsk 7) 62 = none := by decide +kernel
theorem i7_64 : decode (mCd 7) 64 = .ok (.iload 6, 2) ∧ lk (mMsk 7) 64 = some [true, false, true, true, true, true, true, false, false] := by decide +kernel
theorem i7_66 : decode (mCd 7) 66 = .ok (.iconst 5, 1) ∧ lk (mMsk 7) 66 = none := by decide +kernel
theorem i7_67 : decode (mCd 7) 67 = .ok (.if_icmp .ge 83, 3) ∧ lk (mMsk 7) 67 = none := by decide +kernel
theorem i7_150 : decode (mCd 7) 150 = .ok (.iconst 1, 1) ∧ lk (mMsk 7) 150 = none := by decide +kernel
theorem i7_151 : decode (mCd 7) 151 = .ok (.ireturn, 1) ∧ lk (mMsk 7) 151 = none := by decide +kernel
theorem i7_70 : decode (mCd 7) 70 = .ok (.aload_n 0, 1) ∧ lk (mMsk 7) 70 = none := by decide +kernel
theorem i7_71 : decode (mCd 7) 71 = .ok (.getfield 38, 3) ∧ lk (mMsk 7) 71 = none := by decide +kernel
theorem i7_74 : decode (mCd 7) 74 = .ok (.iload 6, 2) ∧ lk (mMsk 7) 74 = none := by decide +kernel
theorem i7_76 : decode (mCd 7) 76 = .ok (.invokevirtual 73, 3) ∧ lk (mMsk 7) 76 = none := by decide +kernel
theorem i7_79 : decode (mCd 7) 79 = .ok (.astore 7, 2) ∧ lk (mMsk 7) 79 = none := by decide +kernel
theorem i7_81 : decode (mCd 7) 81 = .ok (.aload_n 0, 1) ∧ lk (mMsk 7) 81 = none := by decide +kernel
theorem i7_82 : decode (mCd 7) 82 = .ok (.getfield 42, 3) ∧ lk (mMsk 7) 82 = none := by decide +kernel
theorem g7_42 : fOk 7 42 0 2 = true := by decide +kernel
theorem i7_85 : decode (mCd 7) 85 = .ok (.getfield 84, 3) ∧ lk (mMsk 7) 85 = none := by decide +kernel
theorem g7_84 : fOk 7 84 1 7 = true := by decide +kernel
theorem i7_88 : decode (mCd 7) 88 = .ok (.iload_n 3, 1) ∧ lk (mMsk 7) 88 = none := by decide +kernel
theorem i7_89 : decode (mCd 7) 89 = .ok (.iaload, 1) ∧ lk (mMsk 7) 89 = none := by decide +kernel
theorem i7_90 : decode (mCd 7) 90 = .ok (.iload 5, 2) ∧ lk (mMsk 7) 90 = none := by decide +kernel
theorem i7_92 : decode (mCd 7) 92 = .ok (.iconst (-1), 1) ∧ lk (mMsk 7) 92 = none := by decide +kernel
theorem i7_93 : decode (mCd 7) 93 = .ok (.ixor, 1) ∧ lk (mMsk 7) 93 = none := by decide +kernel
theorem i7_94 : decode (mCd 7) 94 = .ok (.iand, 1) ∧ lk (mMsk 7) 94 = none := by decide +kernel
theorem i7_95 : decode (mCd 7) 95 = .ok (.iconst 1, 1) ∧ lk (mMsk 7) 95 = none := by decide +kernel
theorem i7_96 : decode (mCd 7) 96 = .ok (.iload 6, 2) ∧ lk (mMsk 7) 96 = none := by decide +kernel
theorem i7_98 : decode (mCd 7) 98 = .ok (.ishl, 1) ∧ lk (mMsk 7) 98 = none := by decide +kernel
theorem i7_99 : decode (mCd 7) 99 = .ok (.iand, 1) ∧ lk (mMsk 7) 99 = none := by decide +kernel
theorem i7_100 : decode (mCd 7) 100 = .ok (.ifCond .eq 7, 3) ∧ lk (mMsk 7) 100 = none := by decide +kernel
theorem i7_107 : decode (mCd 7) 107 = .ok (.iconst 0, 1) ∧ lk (mMsk 7) 107 = none := by decide +kernel
theorem i7_108 : decode (mCd 7) 108 = .ok (.istore 8, 2) ∧ lk (mMsk 7) 108 = some [true, false, true, true, true, true, true, true, false] := by decide +kernel
theorem i7_103 : decode (mCd 7) 103 = .ok (.iconst 1, 1) ∧ lk (mMsk 7) 103 = none := by decide +kernel
theorem i7_104 : decode (mCd 7) 104 = .ok (.goto 4, 3) ∧ lk (mMsk 7) 104 = none := by decide +kernel
theorem i7_110 : decode (mCd 7) 110 = .ok (.iload 8, 2) ∧ lk (mMsk 7) 110 = none := by decide +kernel
theorem i7_112 : decode (mCd 7) 112 = .ok (.ifCond .eq 32, 3) ∧ lk (mMsk 7) 112 = none := by decide +kernel
theorem i7_144 : decode (mCd 7) 144 = .ok (.iinc 6 1, 3) ∧ lk (mMsk 7) 144 = some [true, false, true, true, true, true, true, false, false] := by decide +kernel
theorem i7_115 : decode (mCd 7) 115 = .ok (.aload 7, 2) ∧ lk (mMsk 7) 115 = none := by decide +kernel
theorem i7_117 : decode (mCd 7) 117 = .ok (.ifnull 27, 3) ∧ lk (mMsk 7) 117 = none := by decide +kernel
theorem i7_120 : decode (mCd 7) 120 = .ok (.aload_n 0, 1) ∧ lk (mMsk 7) 120 = some [true, false, true, true, true, true, true, true, false] := by decide +kernel
theorem i7_121 : decode (mCd 7) 121 = .ok (.getfield 34, 3) ∧ lk (mMsk 7) 121 = none := by decide +kernel
theorem g7_34 : fOk 7 34 0 0 = true := by decide +kernel
theorem i7_124 : decode (mCd 7) 124 = .ok (.aload 4, 2) ∧ lk (mMsk 7) 124 = none := by decide +kernel
theorem i7_126 : decode (mCd 7) 126 = .ok (.iload_n 2, 1) ∧ lk (mMsk 7) 126 = none := by decide +kernel
theorem i7_127 : decode (mCd 7) 127 = .ok (.aload 7, 2) ∧ lk (mMsk 7) 127 = none := by decide +kernel
theorem i7_129 : decode (mCd 7) 129 = .ok (.aload_n 0, 1) ∧ lk (mMsk 7) 129 = none := by decide +kernel
theorem i7_130 : decode (mCd 7) 130 = .ok (.getfield 9, 3) ∧ lk (mMsk 7) 130 = none := by decide +kernel
theorem i7_133 : decode (mCd 7) 133 = .ok (.iload 6, 2) ∧ lk (mMsk 7) 133 = none := by decide +kernel
theorem i7_135 : decode (mCd 7) 135 = .ok (.iaload, 1) ∧ lk (mMsk 7) 135 = none := by decide +kernel
theorem i7_136 : decode (mCd 7) 136 = .ok (.invokevirtual 87, 3) ∧ lk (mMsk 7) 136 = none := by decide +kernel
theorem c7_87 : cvOk 7 87 30 4 0 = true := by decide +kernel
theorem i7_139 : decode (mCd 7) 139 = .ok (.ifCond .ne 5, 3) ∧ lk (mMsk 7) 139 = none := by decide +kernel
theorem i7_142 : decode (mCd 7) 142 = .ok (.iconst 0, 1) ∧ lk (mMsk 7) 142 = none := by decide +kernel
theorem i7_143 : decode (mCd 7) 143 = .ok (.ireturn, 1) ∧ lk (mMsk 7) 143 = none := by decide +kernel
theorem i7_147 : decode (mCd 7) 147 = .ok (.goto (-83), 3) ∧ lk (mMsk 7) 147 = none := by decide +kernel
theorem i7_42 : decode (mCd 7) 42 = .ok (.ireturn, 1) ∧ lk (mMsk 7) 42 = none := by decide +kernel
theorem i7_18 : decode (mCd 7) 18 = .ok (.ireturn, 1) ∧ lk (mMsk 7) 18 = none := by decide +kernel
theorem i8_0 : decode (mCd 8) 0 = .ok (.aload_n 0, 1) ∧ lk (mMsk 8) 0 = none := by decide +kernel
theorem i8_1 : decode (mCd 8) 1 = .ok (.dup, 1) ∧ lk (mMsk 8) 1 = none := by decide +kernel
theorem i8_2 : decode (mCd 8) 2 = .ok (.getfield 25, 3) ∧ lk (mMsk 8) 2 = none := by decide +kernel
theorem g8_25 : fOk 8 25 0 7 = true := by decide +kernel
theorem i8_5 : decode (mCd 8) 5 = .ok (.iconst 1, 1) ∧ lk (mMsk 8) 5 = none := by decide +kernel
theorem i8_6 : decode (mCd 8) 6 = .ok (.iadd, 1) ∧ lk (mMsk 8) 6 = none := by decide +kernel
theorem i8_7 : decode (mCd 8) 7 = .ok (.putfield 25, 3) ∧ lk (mMsk 8) 7 = none := by decide +kernel
theorem p8_25 : pOk 8 25 0 7 = true := by decide +kernel
theorem i8_10 : decode (mCd 8) 10 = .ok (.iconst 0, 1) ∧ lk (mMsk 8) 10 = none := by decide +kernel
theorem i8_11 : decode (mCd 8) 11 = .ok (.istore_n 1, 1) ∧ lk (mMsk 8) 11 = none := by decide +kernel
theorem i8_12 : decode (mCd 8) 12 = .ok (.iload_n 1, 1) ∧ lk (mMsk 8) 12 = some [true, true, false] := by decide +kernel
theorem i8_13 : decode (mCd 8) 13 = .ok (.aload_n 0, 1) ∧ lk (mMsk 8) 13 = none := by decide +kernel
theorem i8_14 : decode (mCd 8) 14 = .ok (.getfield 18, 3) ∧ lk (mMsk 8) 14 = none := by decide +kernel
theorem g8_18 : fOk 8 18 0 5 = true := by decide +kernel
theorem i8_17 : decode (mCd 8) 17 = .ok (.if_icmp .ge 63, 3) ∧ lk (mMsk 8) 17 = none := by decide +kernel
theorem i8_80 : decode (mCd 8) 80 = .ok (.return_, 1) ∧ lk (mMsk 8) 80 = some [false, false, false] := by decide +kernel
theorem i8_20 : decode (mCd 8) 20 = .ok (.iload_n 1, 1) ∧ lk (mMsk 8) 20 = none := by decide +kernel
theorem i8_21 : decode (mCd 8) 21 = .ok (.iconst 3, 1) ∧ lk (mMsk 8) 21 = none := by decide +kernel
theorem i8_22 : decode (mCd 8) 22 = .ok (.if_icmp .ge 58, 3) ∧ lk (mMsk 8) 22 = none := by decide +kernel
theorem i8_25 : decode (mCd 8) 25 = .ok (.aload_n 0, 1) ∧ lk (mMsk 8) 25 = none := by decide +kernel
theorem i8_26 : decode (mCd 8) 26 = .ok (.getfield 15, 3) ∧ lk (mMsk 8) 26 = none := by decide +kernel
theorem g8_15 : fOk 8 15 0 4 = true := by decide +kernel
theorem i8_29 : decode (mCd 8) 29 = .ok (.iload_n 1, 1) ∧ lk (mMsk 8) 29 = none := by decide +kernel
theorem i8_30 : decode (mCd 8) 30 = .ok (.iaload, 1) ∧ lk (mMsk 8) 30 = none := by decide +kernel
theorem i8_31 : decode (mCd 8) 31 = .ok (.istore_n 2, 1) ∧ lk (mMsk 8) 31 = none := by decide +kernel
theorem i8_32 : decode (mCd 8) 32 = .ok (.aload_n 0, 1) ∧ lk (mMsk 8) 32 = none := by decide +kernel
theorem i8_33 : decode (mCd 8) 33 = .ok (.getfield 28, 3) ∧ lk (mMsk 8) 33 = none := by decide +kernel
theorem g8_28 : fOk 8 28 0 8 = true := by decide +kernel
theorem i8_36 : decode (mCd 8) 36 = .ok (.iload_n 2, 1) ∧ lk (mMsk 8) 36 = none := by decide +kernel
theorem i8_37 : decode (mCd 8) 37 = .ok (.aload_n 0, 1) ∧ lk (mMsk 8) 37 = none := by decide +kernel
theorem i8_38 : decode (mCd 8) 38 = .ok (.getfield 28, 3) ∧ lk (mMsk 8) 38 = none := by decide +kernel
theorem i8_41 : decode (mCd 8) 41 = .ok (.iload_n 2, 1) ∧ lk (mMsk 8) 41 = none := by decide +kernel
theorem i8_42 : decode (mCd 8) 42 = .ok (.iaload, 1) ∧ lk (mMsk 8) 42 = none := by decide +kernel
theorem i8_43 : decode (mCd 8) 43 = .ok (.aload_n 0, 1) ∧ lk (mMsk 8) 43 = none := by decide +kernel
theorem i8_44 : decode (mCd 8) 44 = .ok (.getfield 9, 3) ∧ lk (mMsk 8) 44 = none := by decide +kernel
theorem g8_9 : fOk 8 9 0 3 = true := by decide +kernel
theorem i8_47 : decode (mCd 8) 47 = .ok (.iload_n 2, 1) ∧ lk (mMsk 8) 47 = none := by decide +kernel
theorem i8_48 : decode (mCd 8) 48 = .ok (.iaload, 1) ∧ lk (mMsk 8) 48 = none := by decide +kernel
theorem i8_49 : decode (mCd 8) 49 = .ok (.invokestatic 93, 3) ∧ lk (mMsk 8) 49 = none := by decide +kernel
theorem n8_93 : lk (mMt (mOwn 8)) 93 = none := by decide +kernel
theorem x8_93 : lk (mXq (mOwn 8)) 93 = some (710, false) := by decide +kernel
theorem r8_x : mRx 8 = true := by decide +kernel
theorem i8_52 : decode (mCd 8) 52 = .ok (.iastore, 1) ∧ lk (mMsk 8) 52 = none := by decide +kernel
theorem i8_53 : decode (mCd 8) 53 = .ok (.aload_n 0, 1) ∧ lk (mMsk 8) 53 = none := by decide +kernel
theorem i8_54 : decode (mCd 8) 54 = .ok (.getfield 31, 3) ∧ lk (mMsk 8) 54 = none := by decide +kernel
theorem g8_31 : fOk 8 31 0 9 = true := by decide +kernel
theorem i8_57 : decode (mCd 8) 57 = .ok (.iload_n 2, 1) ∧ lk (mMsk 8) 57 = none := by decide +kernel
theorem i8_58 : decode (mCd 8) 58 = .ok (.aload_n 0, 1) ∧ lk (mMsk 8) 58 = none := by decide +kernel
theorem i8_59 : decode (mCd 8) 59 = .ok (.getfield 31, 3) ∧ lk (mMsk 8) 59 = none := by decide +kernel
theorem i8_62 : decode (mCd 8) 62 = .ok (.iload_n 2, 1) ∧ lk (mMsk 8) 62 = none := by decide +kernel
theorem i8_63 : decode (mCd 8) 63 = .ok (.iaload, 1) ∧ lk (mMsk 8) 63 = none := by decide +kernel
theorem i8_64 : decode (mCd 8) 64 = .ok (.aload_n 0, 1) ∧ lk (mMsk 8) 64 = none := by decide +kernel
theorem i8_65 : decode (mCd 8) 65 = .ok (.getfield 9, 3) ∧ lk (mMsk 8) 65 = none := by decide +kernel
theorem i8_68 : decode (mCd 8) 68 = .ok (.iload_n 2, 1) ∧ lk (mMsk 8) 68 = none := by decide +kernel
theorem i8_69 : decode (mCd 8) 69 = .ok (.iaload, 1) ∧ lk (mMsk 8) 69 = none := by decide +kernel
theorem i8_70 : decode (mCd 8) 70 = .ok (.invokestatic 99, 3) ∧ lk (mMsk 8) 70 = none := by decide +kernel
theorem n8_99 : lk (mMt (mOwn 8)) 99 = none := by decide +kernel
theorem x8_99 : lk (mXq (mOwn 8)) 99 = some (711, true) := by decide +kernel
theorem i8_73 : decode (mCd 8) 73 = .ok (.iastore, 1) ∧ lk (mMsk 8) 73 = none := by decide +kernel
theorem i8_74 : decode (mCd 8) 74 = .ok (.iinc 1 1, 3) ∧ lk (mMsk 8) 74 = none := by decide +kernel
theorem i8_77 : decode (mCd 8) 77 = .ok (.goto (-65), 3) ∧ lk (mMsk 8) 77 = none := by decide +kernel
theorem f_Loads_leastFor_eq {x1 : Int32}  {S : Mem} : f_Loads_leastFor x1 S = bU (f_Loads_gather ((1 : Int32) <<< (x1 &&& 31)) S) (fun S7 => bU (f_Morning_begin (S7.1 47 6) S7) (fun S8 => bI (f_Morning_goAll S8) (fun r10 S9 => k_Loads_leastFor_28 0 S9))) := by
  show cI (mV oS X0 1 0 [some (.ref 47), some (.int x1), none] [] S) = _
  refine V_aload_n (c := cI) i1_0.1 (mM_n i1_0.2) rfl rfl ?_
  refine V_iconst (c := cI) i1_1.1 (mM_n i1_1.2) (v := 1) rfl ?_
  refine V_iload_n (c := cI) i1_2.1 (mM_n i1_2.2) rfl ?_
  refine V_ishl (c := cI) i1_3.1 (mM_n i1_3.2)  ?_
  refine V_cvU (c := cI) (As := [.int ((1 : Int32) <<< (x1 &&& 31))]) (rest := []) i1_4.1 (mM_n i1_4.2) c1_46 rfl rfl rfl rfl (Nat.le_of_ble_eq_true rfl) rfl (fun S7 => ?_)
  refine V_aload_n (c := cI) i1_7.1 (mM_n i1_7.2) rfl rfl ?_
  refine V_gf (c := cI) i1_8.1 (mM_n i1_8.2) (v := .ref 40) g1_42 rfl ?_
  refine V_aload_n (c := cI) i1_11.1 (mM_n i1_11.2) rfl rfl ?_
  refine V_gf (c := cI) i1_12.1 (mM_n i1_12.2) (v := .int (S7.1 47 6)) g1_22 rfl ?_
  refine V_cvU (c := cI) (As := [.int (S7.1 47 6)]) (rest := []) i1_15.1 (mM_n i1_15.2) c1_50 rfl rfl rfl rfl (Nat.le_of_ble_eq_true rfl) rfl (fun S8 => ?_)
  refine V_aload_n (c := cI) i1_18.1 (mM_n i1_18.2) rfl rfl ?_
  refine V_gf (c := cI) i1_19.1 (mM_n i1_19.2) (v := .ref 40) g1_42 rfl ?_
  refine V_cvI (c := cI) (As := []) (rest := []) i1_22.1 (mM_n i1_22.2) c1_55 rfl rfl rfl rfl (Nat.le_of_ble_eq_true rfl) rfl (fun r10 S9 => ?_)
  refine V_pop (c := cI) i1_25.1 (mM_n i1_25.2) rfl ?_
  refine V_iconst (c := cI) i1_26.1 (mM_n i1_26.2) (v := 0) rfl ?_
  refine V_istore_n (c := cI) i1_27.1 (mM_n i1_27.2) (l1 := [some (.ref 47), some (.int x1), some (.int 0)])  (Nat.le_of_ble_eq_true rfl) rfl ?_
  exact V_msk (l1 := [some (.ref 47), none, some (.int 0)]) i1_28.2 rfl rfl
theorem k_Loads_leastFor_28_eq {x2 : Int32}  {S : Mem} : k_Loads_leastFor_28 x2 S = if 20 < x2 then some ((-1), S) else bI (f_Loads_suits 0 x2 S) (fun r12 S11 => if r12 = 0 then k_Loads_leastFor_28 (x2 + 1) S11 else some (x2, S11)) := by
  show cI (mV oS X0 1 28 [some (.ref 47), none, some (.int x2)] [] S) = _
  refine V_iload_n (c := cI) i1_28.1 (mM_s i1_28.2 rfl) rfl ?_
  refine V_bipush (c := cI) i1_29.1 (mM_n i1_29.2) (v := 20) rfl ?_
  refine V_icmp_gt (c := cI) i1_31.1 (mM_n i1_31.2) rfl (fun _ => ?_) (fun _ => ?_)
  · refine V_iconst (c := cI) i1_51.1 (mM_n i1_51.2) (v := (-1)) rfl ?_
    exact V_iret i1_52.1 (mM_n i1_52.2) rfl
  · refine V_aload_n (c := cI) i1_34.1 (mM_n i1_34.2) rfl rfl ?_
    refine V_iconst (c := cI) i1_35.1 (mM_n i1_35.2) (v := 0) rfl ?_
    refine V_iload_n (c := cI) i1_36.1 (mM_n i1_36.2) rfl ?_
    refine V_cvI (c := cI) (As := [.int 0, .int x2]) (rest := []) i1_37.1 (mM_n i1_37.2) c1_59 rfl rfl rfl rfl (Nat.le_of_ble_eq_true rfl) rfl (fun r12 S11 => ?_)
    refine V_if_eq (c := cI) i1_40.1 (mM_n i1_40.2) rfl (fun _ => ?_) (fun _ => ?_)
    · refine V_iinc (c := cI) i1_45.1 (mM_n i1_45.2) (l1 := [some (.ref 47), none, some (.int (x2 + 1))]) rfl rfl rfl ?_
      refine V_goto (c := cI) i1_48.1 (mM_n i1_48.2) rfl ?_
      exact V_msk (l1 := [some (.ref 47), none, some (.int (x2 + 1))]) i1_28.2 rfl rfl
    · refine V_iload_n (c := cI) i1_43.1 (mM_n i1_43.2) rfl ?_
      exact V_iret i1_44.1 (mM_n i1_44.2) rfl
theorem f_Loads_waysFor_eq {x1 : Int32}  {S : Mem} : f_Loads_waysFor x1 S = bU (f_Loads_gather x1 S) (fun S10 => bU (f_Morning_begin (S10.1 47 6) S10) (fun S11 => bI (f_Morning_goAll S11) (fun r13 S12 => if r13 ≤ 0 then k_Loads_waysFor_30 0 S12 else some (0, S12)))) := by
  show cI (mV oS X0 2 0 [some (.ref 47), some (.int x1), none] [] S) = _
  refine V_aload_n (c := cI) i2_0.1 (mM_n i2_0.2) rfl rfl ?_
  refine V_iload_n (c := cI) i2_1.1 (mM_n i2_1.2) rfl ?_
  refine V_cvU (c := cI) (As := [.int x1]) (rest := []) i2_2.1 (mM_n i2_2.2) c2_46 rfl rfl rfl rfl (Nat.le_of_ble_eq_true rfl) rfl (fun S10 => ?_)
  refine V_aload_n (c := cI) i2_5.1 (mM_n i2_5.2) rfl rfl ?_
  refine V_gf (c := cI) i2_6.1 (mM_n i2_6.2) (v := .ref 40) g2_42 rfl ?_
  refine V_aload_n (c := cI) i2_9.1 (mM_n i2_9.2) rfl rfl ?_
  refine V_gf (c := cI) i2_10.1 (mM_n i2_10.2) (v := .int (S10.1 47 6)) g2_22 rfl ?_
  refine V_cvU (c := cI) (As := [.int (S10.1 47 6)]) (rest := []) i2_13.1 (mM_n i2_13.2) c2_50 rfl rfl rfl rfl (Nat.le_of_ble_eq_true rfl) rfl (fun S11 => ?_)
  refine V_aload_n (c := cI) i2_16.1 (mM_n i2_16.2) rfl rfl ?_
  refine V_gf (c := cI) i2_17.1 (mM_n i2_17.2) (v := .ref 40) g2_42 rfl ?_
  refine V_cvI (c := cI) (As := []) (rest := []) i2_20.1 (mM_n i2_20.2) c2_55 rfl rfl rfl rfl (Nat.le_of_ble_eq_true rfl) rfl (fun r13 S12 => ?_)
  refine V_if_le (c := cI) i2_23.1 (mM_n i2_23.2) rfl (fun _ => ?_) (fun _ => ?_)
  · refine V_iconst (c := cI) i2_28.1 (mM_n i2_28.2) (v := 0) rfl ?_
    refine V_istore_n (c := cI) i2_29.1 (mM_n i2_29.2) (l1 := [some (.ref 47), some (.int x1), some (.int 0)])  (Nat.le_of_ble_eq_true rfl) rfl ?_
    exact V_msk (l1 := [some (.ref 47), none, some (.int 0)]) i2_30.2 rfl rfl
  · refine V_iconst (c := cI) i2_26.1 (mM_n i2_26.2) (v := 0) rfl ?_
    exact V_iret i2_27.1 (mM_n i2_27.2) rfl
theorem k_Loads_waysFor_30_eq {x2 : Int32}  {S : Mem} : k_Loads_waysFor_30 x2 S = bI (f_Loads_choices 0 S) (fun r15 S14 => if r15 ≤ x2 then some ((S14.1 47 7), S14) else bI (f_Loads_suits 0 x2 S14) (fun r17 S16 => if r17 = 0 then k_Loads_waysFor_52 x2 S16 else bU (f_Loads_tryOthers S16) (fun S18 => k_Loads_waysFor_52 x2 S18))) := by
  show cI (mV oS X0 2 30 [some (.ref 47), none, some (.int x2)] [] S) = _
  refine V_iload_n (c := cI) i2_30.1 (mM_s i2_30.2 rfl) rfl ?_
  refine V_aload_n (c := cI) i2_31.1 (mM_n i2_31.2) rfl rfl ?_
  refine V_iconst (c := cI) i2_32.1 (mM_n i2_32.2) (v := 0) rfl ?_
  refine V_cvI (c := cI) (As := [.int 0]) (rest := [.int x2]) i2_33.1 (mM_n i2_33.2) c2_63 rfl rfl rfl rfl (Nat.le_of_ble_eq_true rfl) rfl (fun r15 S14 => ?_)
  refine V_icmp_ge (c := cI) i2_36.1 (mM_n i2_36.2) rfl (fun _ => ?_) (fun _ => ?_)
  · refine V_aload_n (c := cI) i2_58.1 (mM_n i2_58.2) rfl rfl ?_
    refine V_gf (c := cI) i2_59.1 (mM_n i2_59.2) (v := .int (S14.1 47 7)) g2_25 rfl ?_
    exact V_iret i2_62.1 (mM_n i2_62.2) rfl
  · refine V_aload_n (c := cI) i2_39.1 (mM_n i2_39.2) rfl rfl ?_
    refine V_iconst (c := cI) i2_40.1 (mM_n i2_40.2) (v := 0) rfl ?_
    refine V_iload_n (c := cI) i2_41.1 (mM_n i2_41.2) rfl ?_
    refine V_cvI (c := cI) (As := [.int 0, .int x2]) (rest := []) i2_42.1 (mM_n i2_42.2) c2_59 rfl rfl rfl rfl (Nat.le_of_ble_eq_true rfl) rfl (fun r17 S16 => ?_)
    refine V_if_eq (c := cI) i2_45.1 (mM_n i2_45.2) rfl (fun _ => ?_) (fun _ => ?_)
    · exact V_msk (l1 := [some (.ref 47), none, some (.int x2)]) i2_52.2 rfl rfl
    · refine V_aload_n (c := cI) i2_48.1 (mM_n i2_48.2) rfl rfl ?_
      refine V_cvU (c := cI) (As := []) (rest := []) i2_49.1 (mM_n i2_49.2) c2_67 rfl rfl rfl rfl (Nat.le_of_ble_eq_true rfl) rfl (fun S18 => ?_)
      exact V_msk (l1 := [some (.ref 47), none, some (.int x2)]) i2_52.2 rfl rfl
theorem k_Loads_waysFor_52_eq {x2 : Int32}  {S : Mem} : k_Loads_waysFor_52 x2 S = k_Loads_waysFor_30 (x2 + 1) S := by
  show cI (mV oS X0 2 52 [some (.ref 47), none, some (.int x2)] [] S) = _
  refine V_iinc (c := cI) i2_52.1 (mM_s i2_52.2 rfl) (l1 := [some (.ref 47), none, some (.int (x2 + 1))]) rfl rfl rfl ?_
  refine V_goto (c := cI) i2_55.1 (mM_n i2_55.2) rfl ?_
  exact V_msk (l1 := [some (.ref 47), none, some (.int (x2 + 1))]) i2_30.2 rfl rfl
theorem f_Loads_tryOthers_eq   {S : Mem} : f_Loads_tryOthers  S = k_Loads_tryOthers_2 0 S := by
  show cU (mV oS X0 3 0 [some (.ref 47), none, none] [] S) = _
  refine V_iconst (c := cU) i3_0.1 (mM_n i3_0.2) (v := 0) rfl ?_
  refine V_istore_n (c := cU) i3_1.1 (mM_n i3_1.2) (l1 := [some (.ref 47), some (.int 0), none])  (Nat.le_of_ble_eq_true rfl) rfl ?_
  exact V_msk (l1 := [some (.ref 47), some (.int 0), none]) i3_2.2 rfl rfl
theorem k_Loads_tryOthers_2_eq {x1 : Int32}  {S : Mem} : k_Loads_tryOthers_2 x1 S = bI (f_Loads_choices 1 S) (fun r11 S10 => if r11 ≤ x1 then some S10 else bI (f_Loads_suits 1 x1 S10) (fun r13 S12 => if r13 = 0 then k_Loads_tryOthers_53 x1 S12 else k_Loads_tryOthers_25 x1 0 S12)) := by
  show cU (mV oS X0 3 2 [some (.ref 47), some (.int x1), none] [] S) = _
  refine V_iload_n (c := cU) i3_2.1 (mM_s i3_2.2 rfl) rfl ?_
  refine V_aload_n (c := cU) i3_3.1 (mM_n i3_3.2) rfl rfl ?_
  refine V_iconst (c := cU) i3_4.1 (mM_n i3_4.2) (v := 1) rfl ?_
  refine V_cvI (c := cU) (As := [.int 1]) (rest := [.int x1]) i3_5.1 (mM_n i3_5.2) c3_63 rfl rfl rfl rfl (Nat.le_of_ble_eq_true rfl) rfl (fun r11 S10 => ?_)
  refine V_icmp_ge (c := cU) i3_8.1 (mM_n i3_8.2) rfl (fun _ => ?_) (fun _ => ?_)
  · exact V_vret i3_59.1 (mM_n i3_59.2) rfl
  · refine V_aload_n (c := cU) i3_11.1 (mM_n i3_11.2) rfl rfl ?_
    refine V_iconst (c := cU) i3_12.1 (mM_n i3_12.2) (v := 1) rfl ?_
    refine V_iload_n (c := cU) i3_13.1 (mM_n i3_13.2) rfl ?_
    refine V_cvI (c := cU) (As := [.int 1, .int x1]) (rest := []) i3_14.1 (mM_n i3_14.2) c3_59 rfl rfl rfl rfl (Nat.le_of_ble_eq_true rfl) rfl (fun r13 S12 => ?_)
    refine V_if_ne (c := cU) i3_17.1 (mM_n i3_17.2) rfl (fun _ => ?_) (fun _ => ?_)
    · refine V_goto (c := cU) i3_20.1 (mM_n i3_20.2) rfl ?_
      exact V_msk (l1 := [some (.ref 47), some (.int x1), none]) i3_53.2 rfl rfl
    · refine V_iconst (c := cU) i3_23.1 (mM_n i3_23.2) (v := 0) rfl ?_
      refine V_istore_n (c := cU) i3_24.1 (mM_n i3_24.2) (l1 := [some (.ref 47), some (.int x1), some (.int 0)])  (Nat.le_of_ble_eq_true rfl) rfl ?_
      exact V_msk (l1 := [some (.ref 47), some (.int x1), some (.int 0)]) i3_25.2 rfl rfl
theorem k_Loads_tryOthers_25_eq {x1 : Int32} {x2 : Int32}  {S : Mem} : k_Loads_tryOthers_25 x1 x2 S = bI (f_Loads_choices 2 S) (fun r15 S14 => if r15 ≤ x2 then k_Loads_tryOthers_53 x1 S14 else bI (f_Loads_suits 2 x2 S14) (fun r17 S16 => if r17 = 0 then k_Loads_tryOthers_47 x1 x2 S16 else bU (f_Loads_note S16) (fun S18 => k_Loads_tryOthers_47 x1 x2 S18))) := by
  show cU (mV oS X0 3 25 [some (.ref 47), some (.int x1), some (.int x2)] [] S) = _
  refine V_iload_n (c := cU) i3_25.1 (mM_s i3_25.2 rfl) rfl ?_
  refine V_aload_n (c := cU) i3_26.1 (mM_n i3_26.2) rfl rfl ?_
  refine V_iconst (c := cU) i3_27.1 (mM_n i3_27.2) (v := 2) rfl ?_
  refine V_cvI (c := cU) (As := [.int 2]) (rest := [.int x2]) i3_28.1 (mM_n i3_28.2) c3_63 rfl rfl rfl rfl (Nat.le_of_ble_eq_true rfl) rfl (fun r15 S14 => ?_)
  refine V_icmp_ge (c := cU) i3_31.1 (mM_n i3_31.2) rfl (fun _ => ?_) (fun _ => ?_)
  · exact V_msk (l1 := [some (.ref 47), some (.int x1), none]) i3_53.2 rfl rfl
  · refine V_aload_n (c := cU) i3_34.1 (mM_n i3_34.2) rfl rfl ?_
    refine V_iconst (c := cU) i3_35.1 (mM_n i3_35.2) (v := 2) rfl ?_
    refine V_iload_n (c := cU) i3_36.1 (mM_n i3_36.2) rfl ?_
    refine V_cvI (c := cU) (As := [.int 2, .int x2]) (rest := []) i3_37.1 (mM_n i3_37.2) c3_59 rfl rfl rfl rfl (Nat.le_of_ble_eq_true rfl) rfl (fun r17 S16 => ?_)
    refine V_if_eq (c := cU) i3_40.1 (mM_n i3_40.2) rfl (fun _ => ?_) (fun _ => ?_)
    · exact V_msk (l1 := [some (.ref 47), some (.int x1), some (.int x2)]) i3_47.2 rfl rfl
    · refine V_aload_n (c := cU) i3_43.1 (mM_n i3_43.2) rfl rfl ?_
      refine V_cvU (c := cU) (As := []) (rest := []) i3_44.1 (mM_n i3_44.2) c3_70 rfl rfl rfl rfl (Nat.le_of_ble_eq_true rfl) rfl (fun S18 => ?_)
      exact V_msk (l1 := [some (.ref 47), some (.int x1), some (.int x2)]) i3_47.2 rfl rfl
theorem k_Loads_tryOthers_47_eq {x1 : Int32} {x2 : Int32}  {S : Mem} : k_Loads_tryOthers_47 x1 x2 S = k_Loads_tryOthers_25 x1 (x2 + 1) S := by
  show cU (mV oS X0 3 47 [some (.ref 47), some (.int x1), some (.int x2)] [] S) = _
  refine V_iinc (c := cU) i3_47.1 (mM_s i3_47.2 rfl) (l1 := [some (.ref 47), some (.int x1), some (.int (x2 + 1))]) rfl rfl rfl ?_
  refine V_goto (c := cU) i3_50.1 (mM_n i3_50.2) rfl ?_
  exact V_msk (l1 := [some (.ref 47), some (.int x1), some (.int (x2 + 1))]) i3_25.2 rfl rfl
theorem k_Loads_tryOthers_53_eq {x1 : Int32}  {S : Mem} : k_Loads_tryOthers_53 x1 S = k_Loads_tryOthers_2 (x1 + 1) S := by
  show cU (mV oS X0 3 53 [some (.ref 47), some (.int x1), none] [] S) = _
  refine V_iinc (c := cU) i3_53.1 (mM_s i3_53.2 rfl) (l1 := [some (.ref 47), some (.int (x1 + 1)), none]) rfl rfl rfl ?_
  refine V_goto (c := cU) i3_56.1 (mM_n i3_56.2) rfl ?_
  exact V_msk (l1 := [some (.ref 47), some (.int (x1 + 1)), none]) i3_2.2 rfl rfl
theorem f_Loads_onlyOne_eq {x1 : Int32}  {S : Mem} : f_Loads_onlyOne x1 S = if (S.1 47 7) ≤ 0 then k_Loads_onlyOne_40 S else if x1 < 0 then k_Loads_onlyOne_40 S else if 5 ≤ x1 then k_Loads_onlyOne_40 S else if inb x1 5 = true then if inb x1 5 = true then if (S.1 50 (x1.toNatClampNeg)) = (S.1 51 (x1.toNatClampNeg)) then if inb x1 5 = true then k_Loads_onlyOne_41 (S.1 50 (x1.toNatClampNeg)) S else none else k_Loads_onlyOne_40 S else none else none := by
  show cI (mV oS X0 4 0 [some (.ref 47), some (.int x1)] [] S) = _
  refine V_aload_n (c := cI) i4_0.1 (mM_n i4_0.2) rfl rfl ?_
  refine V_gf (c := cI) i4_1.1 (mM_n i4_1.2) (v := .int (S.1 47 7)) g4_25 rfl ?_
  refine V_if_le (c := cI) i4_4.1 (mM_n i4_4.2) rfl (fun _ => ?_) (fun _ => ?_)
  · exact V_msk (l1 := [none, none]) i4_40.2 rfl rfl
  · refine V_iload_n (c := cI) i4_7.1 (mM_n i4_7.2) rfl ?_
    refine V_if_lt (c := cI) i4_8.1 (mM_n i4_8.2) rfl (fun _ => ?_) (fun _ => ?_)
    · exact V_msk (l1 := [none, none]) i4_40.2 rfl rfl
    · refine V_iload_n (c := cI) i4_11.1 (mM_n i4_11.2) rfl ?_
      refine V_iconst (c := cI) i4_12.1 (mM_n i4_12.2) (v := 5) rfl ?_
      refine V_icmp_ge (c := cI) i4_13.1 (mM_n i4_13.2) rfl (fun _ => ?_) (fun _ => ?_)
      · exact V_msk (l1 := [none, none]) i4_40.2 rfl rfl
      · refine V_aload_n (c := cI) i4_16.1 (mM_n i4_16.2) rfl rfl ?_
        refine V_gf (c := cI) i4_17.1 (mM_n i4_17.2) (v := .ref 50) g4_28 rfl ?_
        refine V_iload_n (c := cI) i4_20.1 (mM_n i4_20.2) rfl ?_
        refine V_iaload (c := cI) i4_21.1 (mM_n i4_21.2) rfl rfl (fun _ => ?_)
        refine V_aload_n (c := cI) i4_22.1 (mM_n i4_22.2) rfl rfl ?_
        refine V_gf (c := cI) i4_23.1 (mM_n i4_23.2) (v := .ref 51) g4_31 rfl ?_
        refine V_iload_n (c := cI) i4_26.1 (mM_n i4_26.2) rfl ?_
        refine V_iaload (c := cI) i4_27.1 (mM_n i4_27.2) rfl rfl (fun _ => ?_)
        refine V_icmp_ne (c := cI) i4_28.1 (mM_n i4_28.2) rfl (fun _ => ?_) (fun _ => ?_)
        · refine V_aload_n (c := cI) i4_31.1 (mM_n i4_31.2) rfl rfl ?_
          refine V_gf (c := cI) i4_32.1 (mM_n i4_32.2) (v := .ref 50) g4_28 rfl ?_
          refine V_iload_n (c := cI) i4_35.1 (mM_n i4_35.2) rfl ?_
          refine V_iaload (c := cI) i4_36.1 (mM_n i4_36.2) rfl rfl (fun _ => ?_)
          refine V_goto (c := cI) i4_37.1 (mM_n i4_37.2) rfl ?_
          exact V_msk (l1 := [none, none]) i4_41.2 rfl rfl
        · exact V_msk (l1 := [none, none]) i4_40.2 rfl rfl
theorem k_Loads_onlyOne_40_eq   {S : Mem} : k_Loads_onlyOne_40  S = k_Loads_onlyOne_41 (-1) S := by
  show cI (mV oS X0 4 40 [none, none] [] S) = _
  refine V_iconst (c := cI) i4_40.1 (mM_s i4_40.2 rfl) (v := (-1)) rfl ?_
  exact V_msk (l1 := [none, none]) i4_41.2 rfl rfl
theorem k_Loads_onlyOne_41_eq {xs0 : Int32}  {S : Mem} : k_Loads_onlyOne_41 xs0 S = some (xs0, S) := by
  show cI (mV oS X0 4 41 [none, none] [.int xs0] S) = _
  exact V_iret i4_41.1 (mM_s i4_41.2 rfl) rfl
theorem f_Loads_gather_eq {x1 : Int32}  {S : Mem} : f_Loads_gather x1 S = k_Loads_gather_17 0 (u1 (u1 (u1 S 47 6 x1) 47 5 0) 47 7 0) := by
  show cU (mV oS X0 5 0 [some (.ref 47), some (.int x1), none, none] [] S) = _
  refine V_aload_n (c := cU) i5_0.1 (mM_n i5_0.2) rfl rfl ?_
  refine V_iload_n (c := cU) i5_1.1 (mM_n i5_1.2) rfl ?_
  refine V_pf (c := cU) i5_2.1 (mM_n i5_2.2) p5_22 (pf_i rfl rfl rfl) ?_
  refine V_aload_n (c := cU) i5_5.1 (mM_n i5_5.2) rfl rfl ?_
  refine V_iconst (c := cU) i5_6.1 (mM_n i5_6.2) (v := 0) rfl ?_
  refine V_pf (c := cU) i5_7.1 (mM_n i5_7.2) p5_18 (pf_i rfl rfl rfl) ?_
  refine V_aload_n (c := cU) i5_10.1 (mM_n i5_10.2) rfl rfl ?_
  refine V_iconst (c := cU) i5_11.1 (mM_n i5_11.2) (v := 0) rfl ?_
  refine V_pf (c := cU) i5_12.1 (mM_n i5_12.2) p5_25 (pf_i rfl rfl rfl) ?_
  refine V_iconst (c := cU) i5_15.1 (mM_n i5_15.2) (v := 0) rfl ?_
  refine V_istore_n (c := cU) i5_16.1 (mM_n i5_16.2) (l1 := [some (.ref 47), some (.int x1), some (.int 0), none])  (Nat.le_of_ble_eq_true rfl) rfl ?_
  exact V_msk (l1 := [some (.ref 47), none, some (.int 0), none]) i5_17.2 rfl rfl
theorem k_Loads_gather_17_eq {x2 : Int32}  {S : Mem} : k_Loads_gather_17 x2 S = if 5 ≤ x2 then some S else bA (f_Town_at 14 x2 S) (fun r5 S4 => oc r5 (k_Loads_gather_40 x2 x2 S4) (fun w6 => k_Loads_gather_44 x2 w6 x2 S4)) := by
  show cU (mV oS X0 5 17 [some (.ref 47), none, some (.int x2), none] [] S) = _
  refine V_iload_n (c := cU) i5_17.1 (mM_s i5_17.2 rfl) rfl ?_
  refine V_iconst (c := cU) i5_18.1 (mM_n i5_18.2) (v := 5) rfl ?_
  refine V_icmp_ge (c := cU) i5_19.1 (mM_n i5_19.2) rfl (fun _ => ?_) (fun _ => ?_)
  · exact V_vret i5_110.1 (mM_n i5_110.2) rfl
  · refine V_aload_n (c := cU) i5_22.1 (mM_n i5_22.2) rfl rfl ?_
    refine V_gf (c := cU) i5_23.1 (mM_n i5_23.2) (v := .ref 14) g5_38 rfl ?_
    refine V_iload_n (c := cU) i5_26.1 (mM_n i5_26.2) rfl ?_
    refine V_cvA (c := cU) (As := [.int x2]) (rest := []) i5_27.1 (mM_n i5_27.2) c5_73 rfl (cl_sh (isT_o isT_14)) rfl rfl (Nat.le_of_ble_eq_true rfl) rfl (fun r5 S4 => ?_)
    refine V_astore_n (c := cU) i5_30.1 (mM_n i5_30.2) (l1 := [some (.ref 47), none, some (.int x2), some (va_rf r5)])  (isA_rf _) (Nat.le_of_ble_eq_true rfl) rfl ?_
    refine V_aload_n (c := cU) i5_31.1 (mM_n i5_31.2) rfl rfl ?_
    refine V_gf (c := cU) i5_32.1 (mM_n i5_32.2) (v := .ref 48) g5_9 rfl ?_
    refine V_iload_n (c := cU) i5_35.1 (mM_n i5_35.2) rfl ?_
    refine V_aload_n (c := cU) i5_36.1 (mM_n i5_36.2) rfl (isA_rf _) ?_
    cases r5 with
    | none =>
      refine V_ifnonnullN (c := cU) i5_37.1 (mM_n i5_37.2) rfl ?_
      exact V_msk (l1 := [some (.ref 47), none, some (.int x2), none]) i5_40.2 rfl rfl
    | some w6 =>
      refine V_ifnonnullR (c := cU) i5_37.1 (mM_n i5_37.2) rfl ?_
      exact V_msk (l1 := [some (.ref 47), none, some (.int x2), some (.ref w6)]) i5_44.2 rfl rfl
theorem k_Loads_gather_40_eq {x2 : Int32} {xs0 : Int32}  {S : Mem} : k_Loads_gather_40 x2 xs0 S = k_Loads_gather_48 x2 0 xs0 S := by
  show cU (mV oS X0 5 40 [some (.ref 47), none, some (.int x2), none] [.int xs0, .ref 48] S) = _
  refine V_iconst (c := cU) i5_40.1 (mM_s i5_40.2 rfl) (v := 0) rfl ?_
  refine V_goto (c := cU) i5_41.1 (mM_n i5_41.2) rfl ?_
  exact V_msk (l1 := [some (.ref 47), none, some (.int x2), none]) i5_48.2 rfl rfl
theorem k_Loads_gather_44_eq {x2 : Int32} {w3 : Nat} {xs0 : Int32} (h_w3 : isW w3) {S : Mem} : k_Loads_gather_44 x2 w3 xs0 S = k_Loads_gather_48 x2 (S.1 w3 3) xs0 S := by
  show cU (mV oS X0 5 44 [some (.ref 47), none, some (.int x2), some (.ref w3)] [.int xs0, .ref 48] S) = _
  refine V_aload_n (c := cU) i5_44.1 (mM_s i5_44.2 rfl) rfl rfl ?_
  refine V_gf (c := cU) i5_45.1 (mM_n i5_45.2) (v := .int (S.1 w3 3)) g5_79 (gf_i (isW_o h_w3) rfl) ?_
  exact V_msk (l1 := [some (.ref 47), none, some (.int x2), none]) i5_48.2 rfl rfl
theorem k_Loads_gather_48_eq {x2 : Int32} {xs0 : Int32} {xs1 : Int32}  {S : Mem} : k_Loads_gather_48 x2 xs0 xs1 S = if inb xs1 5 = true then if inb x2 5 = true then if inb x2 5 = true then if (((S.1 47 6) >>> (x2 &&& 31)) &&& 1) = 1 then if 3 ≤ (S.1 47 5) then k_Loads_gather_104 x2 (u1 (u1 (u1 S 48 xs1.toNatClampNeg xs0) 50 x2.toNatClampNeg 20) 51 x2.toNatClampNeg 0) else if inb (S.1 47 5) 3 = true then k_Loads_gather_104 x2 (u1 (u1 (u1 (u1 (u1 S 48 xs1.toNatClampNeg xs0) 50 x2.toNatClampNeg 20) 51 x2.toNatClampNeg 0) 49 ((S.1 47 5).toNatClampNeg) x2) 47 5 ((S.1 47 5) + 1)) else none else k_Loads_gather_104 x2 (u1 (u1 (u1 S 48 xs1.toNatClampNeg xs0) 50 x2.toNatClampNeg 20) 51 x2.toNatClampNeg 0) else none else none else none := by
  show cU (mV oS X0 5 48 [some (.ref 47), none, some (.int x2), none] [.int xs0, .int xs1, .ref 48] S) = _
  refine V_iastore (c := cU) (x1 := xs0) i5_48.1 (mM_s i5_48.2 rfl) rfl rfl rfl rfl (fun _ => ?_)
  refine V_aload_n (c := cU) i5_49.1 (mM_n i5_49.2) rfl rfl ?_
  refine V_gf (c := cU) i5_50.1 (mM_n i5_50.2) (v := .ref 50) g5_28 rfl ?_
  refine V_iload_n (c := cU) i5_53.1 (mM_n i5_53.2) rfl ?_
  refine V_bipush (c := cU) i5_54.1 (mM_n i5_54.2) (v := 20) rfl ?_
  refine V_iastore (c := cU) (x1 := 20) i5_56.1 (mM_n i5_56.2) rfl rfl rfl rfl (fun _ => ?_)
  refine V_aload_n (c := cU) i5_57.1 (mM_n i5_57.2) rfl rfl ?_
  refine V_gf (c := cU) i5_58.1 (mM_n i5_58.2) (v := .ref 51) g5_31 rfl ?_
  refine V_iload_n (c := cU) i5_61.1 (mM_n i5_61.2) rfl ?_
  refine V_iconst (c := cU) i5_62.1 (mM_n i5_62.2) (v := 0) rfl ?_
  refine V_iastore (c := cU) (x1 := 0) i5_63.1 (mM_n i5_63.2) rfl rfl rfl rfl (fun _ => ?_)
  refine V_aload_n (c := cU) i5_64.1 (mM_n i5_64.2) rfl rfl ?_
  refine V_gf (c := cU) i5_65.1 (mM_n i5_65.2) (v := .int (S.1 47 6)) g5_22 rfl ?_
  refine V_iload_n (c := cU) i5_68.1 (mM_n i5_68.2) rfl ?_
  refine V_ishr (c := cU) i5_69.1 (mM_n i5_69.2)  ?_
  refine V_iconst (c := cU) i5_70.1 (mM_n i5_70.2) (v := 1) rfl ?_
  refine V_iand (c := cU) i5_71.1 (mM_n i5_71.2)  ?_
  refine V_iconst (c := cU) i5_72.1 (mM_n i5_72.2) (v := 1) rfl ?_
  refine V_icmp_ne (c := cU) i5_73.1 (mM_n i5_73.2) rfl (fun _ => ?_) (fun _ => ?_)
  · refine V_aload_n (c := cU) i5_76.1 (mM_n i5_76.2) rfl rfl ?_
    refine V_gf (c := cU) i5_77.1 (mM_n i5_77.2) (v := .int (S.1 47 5)) g5_18 rfl ?_
    refine V_iconst (c := cU) i5_80.1 (mM_n i5_80.2) (v := 3) rfl ?_
    refine V_icmp_ge (c := cU) i5_81.1 (mM_n i5_81.2) rfl (fun _ => ?_) (fun _ => ?_)
    · exact V_msk (l1 := [some (.ref 47), none, some (.int x2), none]) i5_104.2 rfl rfl
    · refine V_aload_n (c := cU) i5_84.1 (mM_n i5_84.2) rfl rfl ?_
      refine V_gf (c := cU) i5_85.1 (mM_n i5_85.2) (v := .ref 49) g5_15 rfl ?_
      refine V_aload_n (c := cU) i5_88.1 (mM_n i5_88.2) rfl rfl ?_
      refine V_gf (c := cU) i5_89.1 (mM_n i5_89.2) (v := .int (S.1 47 5)) g5_18 rfl ?_
      refine V_iload_n (c := cU) i5_92.1 (mM_n i5_92.2) rfl ?_
      refine V_iastore (c := cU) (x1 := x2) i5_93.1 (mM_n i5_93.2) rfl rfl rfl rfl (fun _ => ?_)
      refine V_aload_n (c := cU) i5_94.1 (mM_n i5_94.2) rfl rfl ?_
      refine V_dup (c := cU) i5_95.1 (mM_n i5_95.2) rfl ?_
      refine V_gf (c := cU) i5_96.1 (mM_n i5_96.2) (v := .int (S.1 47 5)) g5_18 rfl ?_
      refine V_iconst (c := cU) i5_99.1 (mM_n i5_99.2) (v := 1) rfl ?_
      refine V_iadd (c := cU) i5_100.1 (mM_n i5_100.2)  ?_
      refine V_pf (c := cU) i5_101.1 (mM_n i5_101.2) p5_18 (pf_i rfl rfl rfl) ?_
      exact V_msk (l1 := [some (.ref 47), none, some (.int x2), none]) i5_104.2 rfl rfl
  · exact V_msk (l1 := [some (.ref 47), none, some (.int x2), none]) i5_104.2 rfl rfl
theorem k_Loads_gather_104_eq {x2 : Int32}  {S : Mem} : k_Loads_gather_104 x2 S = k_Loads_gather_17 (x2 + 1) S := by
  show cU (mV oS X0 5 104 [some (.ref 47), none, some (.int x2), none] [] S) = _
  refine V_iinc (c := cU) i5_104.1 (mM_s i5_104.2 rfl) (l1 := [some (.ref 47), none, some (.int (x2 + 1)), none]) rfl rfl rfl ?_
  refine V_goto (c := cU) i5_107.1 (mM_n i5_107.2) rfl ?_
  exact V_msk (l1 := [some (.ref 47), none, some (.int (x2 + 1)), none]) i5_17.2 rfl rfl
theorem f_Loads_choices_eq {x1 : Int32}  {S : Mem} : f_Loads_choices x1 S = if (S.1 47 5) ≤ x1 then k_Loads_choices_14 1 S else k_Loads_choices_14 10 S := by
  show cI (mV oS X0 6 0 [some (.ref 47), some (.int x1)] [] S) = _
  refine V_iload_n (c := cI) i6_0.1 (mM_n i6_0.2) rfl ?_
  refine V_aload_n (c := cI) i6_1.1 (mM_n i6_1.2) rfl rfl ?_
  refine V_gf (c := cI) i6_2.1 (mM_n i6_2.2) (v := .int (S.1 47 5)) g6_18 rfl ?_
  refine V_icmp_ge (c := cI) i6_5.1 (mM_n i6_5.2) rfl (fun _ => ?_) (fun _ => ?_)
  · refine V_iconst (c := cI) i6_13.1 (mM_n i6_13.2) (v := 1) rfl ?_
    exact V_msk (l1 := [none, none]) i6_14.2 rfl rfl
  · refine V_bipush (c := cI) i6_8.1 (mM_n i6_8.2) (v := 10) rfl ?_
    refine V_goto (c := cI) i6_10.1 (mM_n i6_10.2) rfl ?_
    exact V_msk (l1 := [none, none]) i6_14.2 rfl rfl
theorem k_Loads_choices_14_eq {xs0 : Int32}  {S : Mem} : k_Loads_choices_14 xs0 S = some (xs0, S) := by
  show cI (mV oS X0 6 14 [none, none] [.int xs0] S) = _
  exact V_iret i6_14.1 (mM_s i6_14.2 rfl) rfl
theorem f_Loads_suits_eq {x1 : Int32} {x2 : Int32}  {S : Mem} : f_Loads_suits x1 x2 S = if x1 < 0 then k_Loads_suits_17 S else if (S.1 47 5) ≤ x1 then k_Loads_suits_17 S else if x1 < 3 then if inb x1 3 = true then bA (f_Town_at 14 (S.1 49 (x1.toNatClampNeg)) S) (fun r10 S9 => oc r10 (k_Loads_suits_41 S9) (fun w11 => k_Loads_suits_43 x2 (S.1 49 (x1.toNatClampNeg)) w11 S9)) else none else k_Loads_suits_17 S := by
  show cI (mV oS X0 7 0 [some (.ref 47), some (.int x1), some (.int x2), none, none, none, none, none, none] [] S) = _
  refine V_iload_n (c := cI) i7_0.1 (mM_n i7_0.2) rfl ?_
  refine V_if_lt (c := cI) i7_1.1 (mM_n i7_1.2) rfl (fun _ => ?_) (fun _ => ?_)
  · exact V_msk (l1 := [none, none, none, none, none, none, none, none, none]) i7_17.2 rfl rfl
  · refine V_iload_n (c := cI) i7_4.1 (mM_n i7_4.2) rfl ?_
    refine V_aload_n (c := cI) i7_5.1 (mM_n i7_5.2) rfl rfl ?_
    refine V_gf (c := cI) i7_6.1 (mM_n i7_6.2) (v := .int (S.1 47 5)) g7_18 rfl ?_
    refine V_icmp_ge (c := cI) i7_9.1 (mM_n i7_9.2) rfl (fun _ => ?_) (fun _ => ?_)
    · exact V_msk (l1 := [none, none, none, none, none, none, none, none, none]) i7_17.2 rfl rfl
    · refine V_iload_n (c := cI) i7_12.1 (mM_n i7_12.2) rfl ?_
      refine V_iconst (c := cI) i7_13.1 (mM_n i7_13.2) (v := 3) rfl ?_
      refine V_icmp_lt (c := cI) i7_14.1 (mM_n i7_14.2) rfl (fun _ => ?_) (fun _ => ?_)
      · refine V_aload_n (c := cI) i7_19.1 (mM_n i7_19.2) rfl rfl ?_
        refine V_gf (c := cI) i7_20.1 (mM_n i7_20.2) (v := .ref 49) g7_15 rfl ?_
        refine V_iload_n (c := cI) i7_23.1 (mM_n i7_23.2) rfl ?_
        refine V_iaload (c := cI) i7_24.1 (mM_n i7_24.2) rfl rfl (fun _ => ?_)
        refine V_istore_n (c := cI) i7_25.1 (mM_n i7_25.2) (l1 := [some (.ref 47), some (.int x1), some (.int x2), some (.int (S.1 49 (x1.toNatClampNeg))), none, none, none, none, none])  (Nat.le_of_ble_eq_true rfl) rfl ?_
        refine V_aload_n (c := cI) i7_26.1 (mM_n i7_26.2) rfl rfl ?_
        refine V_gf (c := cI) i7_27.1 (mM_n i7_27.2) (v := .ref 14) g7_38 rfl ?_
        refine V_iload_n (c := cI) i7_30.1 (mM_n i7_30.2) rfl ?_
        refine V_cvA (c := cI) (As := [.int (S.1 49 (x1.toNatClampNeg))]) (rest := []) i7_31.1 (mM_n i7_31.2) c7_73 rfl (cl_sh (isT_o isT_14)) rfl rfl (Nat.le_of_ble_eq_true rfl) rfl (fun r10 S9 => ?_)
        refine V_astore (c := cI) i7_34.1 (mM_n i7_34.2) (l1 := [some (.ref 47), some (.int x1), some (.int x2), some (.int (S.1 49 (x1.toNatClampNeg))), some (va_rf r10), none, none, none, none])  (isA_rf _) (Nat.le_of_ble_eq_true rfl) rfl ?_
        refine V_aload (c := cI) i7_36.1 (mM_n i7_36.2) rfl (isA_rf _) ?_
        cases r10 with
        | none =>
          refine V_ifnonnullN (c := cI) i7_38.1 (mM_n i7_38.2) rfl ?_
          exact V_msk (l1 := [none, none, none, none, none, none, none, none, none]) i7_41.2 rfl rfl
        | some w11 =>
          refine V_ifnonnullR (c := cI) i7_38.1 (mM_n i7_38.2) rfl ?_
          exact V_msk (l1 := [some (.ref 47), none, some (.int x2), some (.int (S.1 49 (x1.toNatClampNeg))), some (.ref w11), none, none, none, none]) i7_43.2 rfl rfl
      · exact V_msk (l1 := [none, none, none, none, none, none, none, none, none]) i7_17.2 rfl rfl
theorem k_Loads_suits_17_eq   {S : Mem} : k_Loads_suits_17  S = some (1, S) := by
  show cI (mV oS X0 7 17 [none, none, none, none, none, none, none, none, none] [] S) = _
  refine V_iconst (c := cI) i7_17.1 (mM_s i7_17.2 rfl) (v := 1) rfl ?_
  exact V_iret i7_18.1 (mM_n i7_18.2) rfl
theorem k_Loads_suits_41_eq   {S : Mem} : k_Loads_suits_41  S = some (1, S) := by
  show cI (mV oS X0 7 41 [none, none, none, none, none, none, none, none, none] [] S) = _
  refine V_iconst (c := cI) i7_41.1 (mM_s i7_41.2 rfl) (v := 1) rfl ?_
  exact V_iret i7_42.1 (mM_n i7_42.2) rfl
theorem k_Loads_suits_43_eq {x2 : Int32} {x3 : Int32} {w4 : Nat} (h_w4 : isW w4) {S : Mem} : k_Loads_suits_43 x2 x3 w4 S = if inb x3 5 = true then k_Loads_suits_64 x2 x3 w4 ((S.1 47 6) &&& ((-2 : Int32) <<< (x3 &&& 31))) 0 (u1 S 48 x3.toNatClampNeg x2) else none := by
  show cI (mV oS X0 7 43 [some (.ref 47), none, some (.int x2), some (.int x3), some (.ref w4), none, none, none, none] [] S) = _
  refine V_aload_n (c := cI) i7_43.1 (mM_s i7_43.2 rfl) rfl rfl ?_
  refine V_gf (c := cI) i7_44.1 (mM_n i7_44.2) (v := .ref 48) g7_9 rfl ?_
  refine V_iload_n (c := cI) i7_47.1 (mM_n i7_47.2) rfl ?_
  refine V_iload_n (c := cI) i7_48.1 (mM_n i7_48.2) rfl ?_
  refine V_iastore (c := cI) (x1 := x2) i7_49.1 (mM_n i7_49.2) rfl rfl rfl rfl (fun _ => ?_)
  refine V_aload_n (c := cI) i7_50.1 (mM_n i7_50.2) rfl rfl ?_
  refine V_gf (c := cI) i7_51.1 (mM_n i7_51.2) (v := .int (S.1 47 6)) g7_22 rfl ?_
  refine V_bipush (c := cI) i7_54.1 (mM_n i7_54.2) (v := (-2)) rfl ?_
  refine V_iload_n (c := cI) i7_56.1 (mM_n i7_56.2) rfl ?_
  refine V_ishl (c := cI) i7_57.1 (mM_n i7_57.2)  ?_
  refine V_iand (c := cI) i7_58.1 (mM_n i7_58.2)  ?_
  refine V_istore (c := cI) i7_59.1 (mM_n i7_59.2) (l1 := [some (.ref 47), none, some (.int x2), some (.int x3), some (.ref w4), some (.int ((S.1 47 6) &&& ((-2 : Int32) <<< (x3 &&& 31)))), none, none, none])  (Nat.le_of_ble_eq_true rfl) rfl ?_
  refine V_iconst (c := cI) i7_61.1 (mM_n i7_61.2) (v := 0) rfl ?_
  refine V_istore (c := cI) i7_62.1 (mM_n i7_62.2) (l1 := [some (.ref 47), none, some (.int x2), some (.int x3), some (.ref w4), some (.int ((S.1 47 6) &&& ((-2 : Int32) <<< (x3 &&& 31)))), some (.int 0), none, none])  (Nat.le_of_ble_eq_true rfl) rfl ?_
  exact V_msk (l1 := [some (.ref 47), none, some (.int x2), some (.int x3), some (.ref w4), some (.int ((S.1 47 6) &&& ((-2 : Int32) <<< (x3 &&& 31)))), some (.int 0), none, none]) i7_64.2 rfl rfl
theorem k_Loads_suits_64_eq {x2 : Int32} {x3 : Int32} {w4 : Nat} {x5 : Int32} {x6 : Int32} (h_w4 : isW w4) {S : Mem} : k_Loads_suits_64 x2 x3 w4 x5 x6 S = if 5 ≤ x6 then some (1, S) else bA (f_Town_at 14 x6 S) (fun r13 S12 => if inb x3 5 = true then if (((S12.1 46 (x3.toNatClampNeg)) &&& (x5 ^^^ (-1))) &&& ((1 : Int32) <<< (x6 &&& 31))) = 0 then k_Loads_suits_108 x2 x3 w4 x5 x6 r13 0 S12 else k_Loads_suits_108 x2 x3 w4 x5 x6 r13 1 S12 else none) := by
  show cI (mV oS X0 7 64 [some (.ref 47), none, some (.int x2), some (.int x3), some (.ref w4), some (.int x5), some (.int x6), none, none] [] S) = _
  refine V_iload (c := cI) i7_64.1 (mM_s i7_64.2 rfl) rfl ?_
  refine V_iconst (c := cI) i7_66.1 (mM_n i7_66.2) (v := 5) rfl ?_
  refine V_icmp_ge (c := cI) i7_67.1 (mM_n i7_67.2) rfl (fun _ => ?_) (fun _ => ?_)
  · refine V_iconst (c := cI) i7_150.1 (mM_n i7_150.2) (v := 1) rfl ?_
    exact V_iret i7_151.1 (mM_n i7_151.2) rfl
  · refine V_aload_n (c := cI) i7_70.1 (mM_n i7_70.2) rfl rfl ?_
    refine V_gf (c := cI) i7_71.1 (mM_n i7_71.2) (v := .ref 14) g7_38 rfl ?_
    refine V_iload (c := cI) i7_74.1 (mM_n i7_74.2) rfl ?_
    refine V_cvA (c := cI) (As := [.int x6]) (rest := []) i7_76.1 (mM_n i7_76.2) c7_73 rfl (cl_sh (isT_o isT_14)) rfl rfl (Nat.le_of_ble_eq_true rfl) rfl (fun r13 S12 => ?_)
    refine V_astore (c := cI) i7_79.1 (mM_n i7_79.2) (l1 := [some (.ref 47), none, some (.int x2), some (.int x3), some (.ref w4), some (.int x5), some (.int x6), some (va_rf r13), none])  (isA_rf _) (Nat.le_of_ble_eq_true rfl) rfl ?_
    refine V_aload_n (c := cI) i7_81.1 (mM_n i7_81.2) rfl rfl ?_
    refine V_gf (c := cI) i7_82.1 (mM_n i7_82.2) (v := .ref 40) g7_42 rfl ?_
    refine V_gf (c := cI) i7_85.1 (mM_n i7_85.2) (v := .ref 46) g7_84 rfl ?_
    refine V_iload_n (c := cI) i7_88.1 (mM_n i7_88.2) rfl ?_
    refine V_iaload (c := cI) i7_89.1 (mM_n i7_89.2) rfl rfl (fun _ => ?_)
    refine V_iload (c := cI) i7_90.1 (mM_n i7_90.2) rfl ?_
    refine V_iconst (c := cI) i7_92.1 (mM_n i7_92.2) (v := (-1)) rfl ?_
    refine V_ixor (c := cI) i7_93.1 (mM_n i7_93.2)  ?_
    refine V_iand (c := cI) i7_94.1 (mM_n i7_94.2)  ?_
    refine V_iconst (c := cI) i7_95.1 (mM_n i7_95.2) (v := 1) rfl ?_
    refine V_iload (c := cI) i7_96.1 (mM_n i7_96.2) rfl ?_
    refine V_ishl (c := cI) i7_98.1 (mM_n i7_98.2)  ?_
    refine V_iand (c := cI) i7_99.1 (mM_n i7_99.2)  ?_
    refine V_if_eq (c := cI) i7_100.1 (mM_n i7_100.2) rfl (fun _ => ?_) (fun _ => ?_)
    · refine V_iconst (c := cI) i7_107.1 (mM_n i7_107.2) (v := 0) rfl ?_
      exact V_msk (l1 := [some (.ref 47), none, some (.int x2), some (.int x3), some (.ref w4), some (.int x5), some (.int x6), some (va_rf r13), none]) i7_108.2 rfl rfl
    · refine V_iconst (c := cI) i7_103.1 (mM_n i7_103.2) (v := 1) rfl ?_
      refine V_goto (c := cI) i7_104.1 (mM_n i7_104.2) rfl ?_
      exact V_msk (l1 := [some (.ref 47), none, some (.int x2), some (.int x3), some (.ref w4), some (.int x5), some (.int x6), some (va_rf r13), none]) i7_108.2 rfl rfl
theorem k_Loads_suits_108_eq {x2 : Int32} {x3 : Int32} {w4 : Nat} {x5 : Int32} {x6 : Int32} {o7 : Option Nat} {xs0 : Int32} (h_w4 : isW w4) {S : Mem} : k_Loads_suits_108 x2 x3 w4 x5 x6 o7 xs0 S = if xs0 = 0 then k_Loads_suits_144 x2 x3 w4 x5 x6 S else oc o7 (k_Loads_suits_144 x2 x3 w4 x5 x6 S) (fun w14 => k_Loads_suits_120 x2 x3 w4 x5 x6 w14 S) := by
  show cI (mV oS X0 7 108 [some (.ref 47), none, some (.int x2), some (.int x3), some (.ref w4), some (.int x5), some (.int x6), some (va_rf o7), none] [.int xs0] S) = _
  refine V_istore (c := cI) i7_108.1 (mM_s i7_108.2 rfl) (l1 := [some (.ref 47), none, some (.int x2), some (.int x3), some (.ref w4), some (.int x5), some (.int x6), some (va_rf o7), some (.int xs0)])  (Nat.le_of_ble_eq_true rfl) (mSt1_rf (j := 7) rfl rfl) ?_
  refine V_iload (c := cI) i7_110.1 (mM_n i7_110.2) rfl ?_
  refine V_if_eq (c := cI) i7_112.1 (mM_n i7_112.2) rfl (fun _ => ?_) (fun _ => ?_)
  · exact V_msk (l1 := [some (.ref 47), none, some (.int x2), some (.int x3), some (.ref w4), some (.int x5), some (.int x6), none, none]) i7_144.2 rfl rfl
  · refine V_aload (c := cI) i7_115.1 (mM_n i7_115.2) rfl (isA_rf _) ?_
    cases o7 with
    | none =>
      refine V_ifnullN (c := cI) i7_117.1 (mM_n i7_117.2) rfl ?_
      exact V_msk (l1 := [some (.ref 47), none, some (.int x2), some (.int x3), some (.ref w4), some (.int x5), some (.int x6), none, none]) i7_144.2 rfl rfl
    | some w14 =>
      refine V_ifnullR (c := cI) i7_117.1 (mM_n i7_117.2) rfl ?_
      exact V_msk (l1 := [some (.ref 47), none, some (.int x2), some (.int x3), some (.ref w4), some (.int x5), some (.int x6), some (.ref w14), none]) i7_120.2 rfl rfl
theorem k_Loads_suits_120_eq {x2 : Int32} {x3 : Int32} {w4 : Nat} {x5 : Int32} {x6 : Int32} {w7 : Nat} (h_w4 : isW w4) (h_w7 : isW w7) {S : Mem} : k_Loads_suits_120 x2 x3 w4 x5 x6 w7 S = if inb x6 5 = true then bI (f_Net_letsPass w4 x2 w7 (S.1 48 (x6.toNatClampNeg)) S) (fun r16 S15 => if r16 = 0 then some (0, S15) else k_Loads_suits_144 x2 x3 w4 x5 x6 S15) else none := by
  show cI (mV oS X0 7 120 [some (.ref 47), none, some (.int x2), some (.int x3), some (.ref w4), some (.int x5), some (.int x6), some (.ref w7), none] [] S) = _
  refine V_aload_n (c := cI) i7_120.1 (mM_s i7_120.2 rfl) rfl rfl ?_
  refine V_gf (c := cI) i7_121.1 (mM_n i7_121.2) (v := .ref 7) g7_34 rfl ?_
  refine V_aload (c := cI) i7_124.1 (mM_n i7_124.2) rfl rfl ?_
  refine V_iload_n (c := cI) i7_126.1 (mM_n i7_126.2) rfl ?_
  refine V_aload (c := cI) i7_127.1 (mM_n i7_127.2) rfl rfl ?_
  refine V_aload_n (c := cI) i7_129.1 (mM_n i7_129.2) rfl rfl ?_
  refine V_gf (c := cI) i7_130.1 (mM_n i7_130.2) (v := .ref 48) g7_9 rfl ?_
  refine V_iload (c := cI) i7_133.1 (mM_n i7_133.2) rfl ?_
  refine V_iaload (c := cI) i7_135.1 (mM_n i7_135.2) rfl rfl (fun _ => ?_)
  refine V_cvI (c := cI) (As := [.ref w4, .int x2, .ref w7, .int (S.1 48 (x6.toNatClampNeg))]) (rest := []) i7_136.1 (mM_n i7_136.2) c7_87 rfl rfl rfl rfl (Nat.le_of_ble_eq_true rfl) rfl (fun r16 S15 => ?_)
  refine V_if_ne (c := cI) i7_139.1 (mM_n i7_139.2) rfl (fun _ => ?_) (fun _ => ?_)
  · refine V_iconst (c := cI) i7_142.1 (mM_n i7_142.2) (v := 0) rfl ?_
    exact V_iret i7_143.1 (mM_n i7_143.2) rfl
  · exact V_msk (l1 := [some (.ref 47), none, some (.int x2), some (.int x3), some (.ref w4), some (.int x5), some (.int x6), none, none]) i7_144.2 rfl rfl
theorem k_Loads_suits_144_eq {x2 : Int32} {x3 : Int32} {w4 : Nat} {x5 : Int32} {x6 : Int32} (h_w4 : isW w4) {S : Mem} : k_Loads_suits_144 x2 x3 w4 x5 x6 S = k_Loads_suits_64 x2 x3 w4 x5 (x6 + 1) S := by
  show cI (mV oS X0 7 144 [some (.ref 47), none, some (.int x2), some (.int x3), some (.ref w4), some (.int x5), some (.int x6), none, none] [] S) = _
  refine V_iinc (c := cI) i7_144.1 (mM_s i7_144.2 rfl) (l1 := [some (.ref 47), none, some (.int x2), some (.int x3), some (.ref w4), some (.int x5), some (.int (x6 + 1)), none, none]) rfl rfl rfl ?_
  refine V_goto (c := cI) i7_147.1 (mM_n i7_147.2) rfl ?_
  exact V_msk (l1 := [some (.ref 47), none, some (.int x2), some (.int x3), some (.ref w4), some (.int x5), some (.int (x6 + 1)), none, none]) i7_64.2 rfl rfl
theorem f_Loads_note_eq   {S : Mem} : f_Loads_note  S = k_Loads_note_12 0 (u1 S 47 7 ((S.1 47 7) + 1)) := by
  show cU (mV oS X0 8 0 [some (.ref 47), none, none] [] S) = _
  refine V_aload_n (c := cU) i8_0.1 (mM_n i8_0.2) rfl rfl ?_
  refine V_dup (c := cU) i8_1.1 (mM_n i8_1.2) rfl ?_
  refine V_gf (c := cU) i8_2.1 (mM_n i8_2.2) (v := .int (S.1 47 7)) g8_25 rfl ?_
  refine V_iconst (c := cU) i8_5.1 (mM_n i8_5.2) (v := 1) rfl ?_
  refine V_iadd (c := cU) i8_6.1 (mM_n i8_6.2)  ?_
  refine V_pf (c := cU) i8_7.1 (mM_n i8_7.2) p8_25 (pf_i rfl rfl rfl) ?_
  refine V_iconst (c := cU) i8_10.1 (mM_n i8_10.2) (v := 0) rfl ?_
  refine V_istore_n (c := cU) i8_11.1 (mM_n i8_11.2) (l1 := [some (.ref 47), some (.int 0), none])  (Nat.le_of_ble_eq_true rfl) rfl ?_
  exact V_msk (l1 := [some (.ref 47), some (.int 0), none]) i8_12.2 rfl rfl
theorem k_Loads_note_12_eq {x1 : Int32}  {S : Mem} : k_Loads_note_12 x1 S = if (S.1 47 5) ≤ x1 then k_Loads_note_80 S else if 3 ≤ x1 then k_Loads_note_80 S else if inb x1 3 = true then if inb (S.1 49 (x1.toNatClampNeg)) 5 = true then if inb (S.1 49 (x1.toNatClampNeg)) 5 = true then if inb (S.1 49 (x1.toNatClampNeg)) 5 = true then if inb (S.1 49 (x1.toNatClampNeg)) 5 = true then if inb (S.1 49 (x1.toNatClampNeg)) 5 = true then if inb (S.1 49 (x1.toNatClampNeg)) 5 = true then k_Loads_note_12 (x1 + 1) (u1 (u1 S 50 ((S.1 49 (x1.toNatClampNeg)).toNatClampNeg) (if (S.1 48 ((S.1 49 (x1.toNatClampNeg)).toNatClampNeg)) < (S.1 50 ((S.1 49 (x1.toNatClampNeg)).toNatClampNeg)) then (S.1 48 ((S.1 49 (x1.toNatClampNeg)).toNatClampNeg)) else (S.1 50 ((S.1 49 (x1.toNatClampNeg)).toNatClampNeg)))) 51 ((S.1 49 (x1.toNatClampNeg)).toNatClampNeg) (if (S.1 51 ((S.1 49 (x1.toNatClampNeg)).toNatClampNeg)) < (S.1 48 ((S.1 49 (x1.toNatClampNeg)).toNatClampNeg)) then (S.1 48 ((S.1 49 (x1.toNatClampNeg)).toNatClampNeg)) else (S.1 51 ((S.1 49 (x1.toNatClampNeg)).toNatClampNeg)))) else none else none else none else none else none else none else none := by
  show cU (mV oS X0 8 12 [some (.ref 47), some (.int x1), none] [] S) = _
  refine V_iload_n (c := cU) i8_12.1 (mM_s i8_12.2 rfl) rfl ?_
  refine V_aload_n (c := cU) i8_13.1 (mM_n i8_13.2) rfl rfl ?_
  refine V_gf (c := cU) i8_14.1 (mM_n i8_14.2) (v := .int (S.1 47 5)) g8_18 rfl ?_
  refine V_icmp_ge (c := cU) i8_17.1 (mM_n i8_17.2) rfl (fun _ => ?_) (fun _ => ?_)
  · exact V_msk (l1 := [none, none, none]) i8_80.2 rfl rfl
  · refine V_iload_n (c := cU) i8_20.1 (mM_n i8_20.2) rfl ?_
    refine V_iconst (c := cU) i8_21.1 (mM_n i8_21.2) (v := 3) rfl ?_
    refine V_icmp_ge (c := cU) i8_22.1 (mM_n i8_22.2) rfl (fun _ => ?_) (fun _ => ?_)
    · exact V_msk (l1 := [none, none, none]) i8_80.2 rfl rfl
    · refine V_aload_n (c := cU) i8_25.1 (mM_n i8_25.2) rfl rfl ?_
      refine V_gf (c := cU) i8_26.1 (mM_n i8_26.2) (v := .ref 49) g8_15 rfl ?_
      refine V_iload_n (c := cU) i8_29.1 (mM_n i8_29.2) rfl ?_
      refine V_iaload (c := cU) i8_30.1 (mM_n i8_30.2) rfl rfl (fun _ => ?_)
      refine V_istore_n (c := cU) i8_31.1 (mM_n i8_31.2) (l1 := [some (.ref 47), some (.int x1), some (.int (S.1 49 (x1.toNatClampNeg)))])  (Nat.le_of_ble_eq_true rfl) rfl ?_
      refine V_aload_n (c := cU) i8_32.1 (mM_n i8_32.2) rfl rfl ?_
      refine V_gf (c := cU) i8_33.1 (mM_n i8_33.2) (v := .ref 50) g8_28 rfl ?_
      refine V_iload_n (c := cU) i8_36.1 (mM_n i8_36.2) rfl ?_
      refine V_aload_n (c := cU) i8_37.1 (mM_n i8_37.2) rfl rfl ?_
      refine V_gf (c := cU) i8_38.1 (mM_n i8_38.2) (v := .ref 50) g8_28 rfl ?_
      refine V_iload_n (c := cU) i8_41.1 (mM_n i8_41.2) rfl ?_
      refine V_iaload (c := cU) i8_42.1 (mM_n i8_42.2) rfl rfl (fun _ => ?_)
      refine V_aload_n (c := cU) i8_43.1 (mM_n i8_43.2) rfl rfl ?_
      refine V_gf (c := cU) i8_44.1 (mM_n i8_44.2) (v := .ref 48) g8_9 rfl ?_
      refine V_iload_n (c := cU) i8_47.1 (mM_n i8_47.2) rfl ?_
      refine V_iaload (c := cU) i8_48.1 (mM_n i8_48.2) rfl rfl (fun _ => ?_)
      refine V_min (c := cU) i8_49.1 (mM_n i8_49.2) n8_93 x8_93 r8_x rfl ?_
      refine V_iastore (c := cU) (x1 := (if (S.1 48 ((S.1 49 (x1.toNatClampNeg)).toNatClampNeg)) < (S.1 50 ((S.1 49 (x1.toNatClampNeg)).toNatClampNeg)) then (S.1 48 ((S.1 49 (x1.toNatClampNeg)).toNatClampNeg)) else (S.1 50 ((S.1 49 (x1.toNatClampNeg)).toNatClampNeg)))) i8_52.1 (mM_n i8_52.2) rfl rfl rfl rfl (fun _ => ?_)
      refine V_aload_n (c := cU) i8_53.1 (mM_n i8_53.2) rfl rfl ?_
      refine V_gf (c := cU) i8_54.1 (mM_n i8_54.2) (v := .ref 51) g8_31 rfl ?_
      refine V_iload_n (c := cU) i8_57.1 (mM_n i8_57.2) rfl ?_
      refine V_aload_n (c := cU) i8_58.1 (mM_n i8_58.2) rfl rfl ?_
      refine V_gf (c := cU) i8_59.1 (mM_n i8_59.2) (v := .ref 51) g8_31 rfl ?_
      refine V_iload_n (c := cU) i8_62.1 (mM_n i8_62.2) rfl ?_
      refine V_iaload (c := cU) i8_63.1 (mM_n i8_63.2) rfl rfl (fun _ => ?_)
      refine V_aload_n (c := cU) i8_64.1 (mM_n i8_64.2) rfl rfl ?_
      refine V_gf (c := cU) i8_65.1 (mM_n i8_65.2) (v := .ref 48) g8_9 rfl ?_
      refine V_iload_n (c := cU) i8_68.1 (mM_n i8_68.2) rfl ?_
      refine V_iaload (c := cU) i8_69.1 (mM_n i8_69.2) rfl rfl (fun _ => ?_)
      refine V_max (c := cU) i8_70.1 (mM_n i8_70.2) n8_99 x8_99 r8_x rfl ?_
      refine V_iastore (c := cU) (x1 := (if (S.1 51 ((S.1 49 (x1.toNatClampNeg)).toNatClampNeg)) < (S.1 48 ((S.1 49 (x1.toNatClampNeg)).toNatClampNeg)) then (S.1 48 ((S.1 49 (x1.toNatClampNeg)).toNatClampNeg)) else (S.1 51 ((S.1 49 (x1.toNatClampNeg)).toNatClampNeg)))) i8_73.1 (mM_n i8_73.2) rfl rfl rfl rfl (fun _ => ?_)
      refine V_iinc (c := cU) i8_74.1 (mM_n i8_74.2) (l1 := [some (.ref 47), some (.int (x1 + 1)), some (.int (S.1 49 (x1.toNatClampNeg)))]) rfl rfl rfl ?_
      refine V_goto (c := cU) i8_77.1 (mM_n i8_77.2) rfl ?_
      exact V_msk (l1 := [some (.ref 47), some (.int (x1 + 1)), none]) i8_12.2 rfl rfl
theorem k_Loads_note_80_eq   {S : Mem} : k_Loads_note_80  S = some S := by
  show cU (mV oS X0 8 80 [none, none, none] [] S) = _
  exact V_vret i8_80.1 (mM_s i8_80.2 rfl) rfl
