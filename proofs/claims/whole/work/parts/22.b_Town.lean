/-! blocks of Town: printed by a program -/
theorem i59_0 : decode (mCd 59) 0 = .ok (.iload_n 1, 1) ∧ lk (mMsk 59) 0 = none := by decide +kernel
theorem i59_1 : decode (mCd 59) 1 = .ok (.ifCond .lt 25, 3) ∧ lk (mMsk 59) 1 = none := by decide +kernel
theorem i59_26 : decode (mCd 59) 26 = .ok (.aconst_null, 1) ∧ lk (mMsk 59) 26 = some [false, false] := by decide +kernel
theorem i59_4 : decode (mCd 59) 4 = .ok (.iload_n 1, 1) ∧ lk (mMsk 59) 4 = none := by decide +kernel
theorem i59_5 : decode (mCd 59) 5 = .ok (.aload_n 0, 1) ∧ lk (mMsk 59) 5 = none := by decide +kernel
theorem i59_6 : decode (mCd 59) 6 = .ok (.getfield 17, 3) ∧ lk (mMsk 59) 6 = none := by decide +kernel
theorem g59_17 : fOk 59 17 6 1 = true := by decide +kernel
theorem i59_9 : decode (mCd 59) 9 = .ok (.if_icmp .ge 17, 3) ∧ lk (mMsk 59) 9 = none := by decide +kernel
theorem i59_12 : decode (mCd 59) 12 = .ok (.iload_n 1, 1) ∧ lk (mMsk 59) 12 = none := by decide +kernel
theorem i59_13 : decode (mCd 59) 13 = .ok (.iconst 5, 1) ∧ lk (mMsk 59) 13 = none := by decide +kernel
theorem i59_14 : decode (mCd 59) 14 = .ok (.if_icmp .ge 12, 3) ∧ lk (mMsk 59) 14 = none := by decide +kernel
theorem i59_17 : decode (mCd 59) 17 = .ok (.aload_n 0, 1) ∧ lk (mMsk 59) 17 = none := by decide +kernel
theorem i59_18 : decode (mCd 59) 18 = .ok (.getfield 11, 3) ∧ lk (mMsk 59) 18 = none := by decide +kernel
theorem g59_11 : fOk 59 11 6 0 = true := by decide +kernel
theorem i59_21 : decode (mCd 59) 21 = .ok (.iload_n 1, 1) ∧ lk (mMsk 59) 21 = none := by decide +kernel
theorem i59_22 : decode (mCd 59) 22 = .ok (.aaload, 1) ∧ lk (mMsk 59) 22 = none := by decide +kernel
theorem i59_23 : decode (mCd 59) 23 = .ok (.goto 4, 3) ∧ lk (mMsk 59) 23 = none := by decide +kernel
theorem i59_27 : decode (mCd 59) 27 = .ok (.areturn, 1) ∧ lk (mMsk 59) 27 = some [false, false] := by decide +kernel
theorem i60_0 : decode (mCd 60) 0 = .ok (.aload_n 0, 1) ∧ lk (mMsk 60) 0 = none := by decide +kernel
theorem i60_1 : decode (mCd 60) 1 = .ok (.iload_n 2, 1) ∧ lk (mMsk 60) 1 = none := by decide +kernel
theorem i60_2 : decode (mCd 60) 2 = .ok (.invokevirtual 29, 3) ∧ lk (mMsk 60) 2 = none := by decide +kernel
theorem c60_29 : cvOk 60 29 59 1 2 = true := by decide +kernel
theorem i60_5 : decode (mCd 60) 5 = .ok (.astore 4, 2) ∧ lk (mMsk 60) 5 = none := by decide +kernel
theorem i60_7 : decode (mCd 60) 7 = .ok (.aload_n 0, 1) ∧ lk (mMsk 60) 7 = none := by decide +kernel
theorem i60_8 : decode (mCd 60) 8 = .ok (.iload_n 3, 1) ∧ lk (mMsk 60) 8 = none := by decide +kernel
theorem i60_9 : decode (mCd 60) 9 = .ok (.invokevirtual 29, 3) ∧ lk (mMsk 60) 9 = none := by decide +kernel
theorem i60_12 : decode (mCd 60) 12 = .ok (.astore 5, 2) ∧ lk (mMsk 60) 12 = none := by decide +kernel
theorem i60_14 : decode (mCd 60) 14 = .ok (.aload 4, 2) ∧ lk (mMsk 60) 14 = none := by decide +kernel
theorem i60_16 : decode (mCd 60) 16 = .ok (.ifnull 29, 3) ∧ lk (mMsk 60) 16 = none := by decide +kernel
theorem i60_45 : decode (mCd 60) 45 = .ok (.iconst 1, 1) ∧ lk (mMsk 60) 45 = some [false, false, false, false, false, false] := by decide +kernel
theorem i60_19 : decode (mCd 60) 19 = .ok (.aload 5, 2) ∧ lk (mMsk 60) 19 = some [false, true, false, false, true, true] := by decide +kernel
theorem i60_21 : decode (mCd 60) 21 = .ok (.ifnull 24, 3) ∧ lk (mMsk 60) 21 = none := by decide +kernel
theorem i60_24 : decode (mCd 60) 24 = .ok (.aload_n 1, 1) ∧ lk (mMsk 60) 24 = some [false, true, false, false, true, true] := by decide +kernel
theorem i60_25 : decode (mCd 60) 25 = .ok (.aload 4, 2) ∧ lk (mMsk 60) 25 = none := by decide +kernel
theorem i60_27 : decode (mCd 60) 27 = .ok (.aload 4, 2) ∧ lk (mMsk 60) 27 = none := by decide +kernel
theorem i60_29 : decode (mCd 60) 29 = .ok (.getfield 33, 3) ∧ lk (mMsk 60) 29 = none := by decide +kernel
theorem g60_33 : fOk 60 33 7 3 = true := by decide +kernel
theorem i60_32 : decode (mCd 60) 32 = .ok (.aload 5, 2) ∧ lk (mMsk 60) 32 = none := by decide +kernel
theorem i60_34 : decode (mCd 60) 34 = .ok (.aload 5, 2) ∧ lk (mMsk 60) 34 = none := by decide +kernel
theorem i60_36 : decode (mCd 60) 36 = .ok (.getfield 33, 3) ∧ lk (mMsk 60) 36 = none := by decide +kernel
theorem i60_39 : decode (mCd 60) 39 = .ok (.invokevirtual 36, 3) ∧ lk (mMsk 60) 39 = none := by decide +kernel
theorem c60_36 : cvOk 60 36 30 4 0 = true := by decide +kernel
theorem i60_42 : decode (mCd 60) 42 = .ok (.ifCond .eq 7, 3) ∧ lk (mMsk 60) 42 = none := by decide +kernel
theorem i60_49 : decode (mCd 60) 49 = .ok (.iconst 0, 1) ∧ lk (mMsk 60) 49 = none := by decide +kernel
theorem i60_50 : decode (mCd 60) 50 = .ok (.ireturn, 1) ∧ lk (mMsk 60) 50 = some [false, false, false, false, false, false] := by decide +kernel
theorem i60_46 : decode (mCd 60) 46 = .ok (.goto 4, 3) ∧ lk (mMsk 60) 46 = none := by decide +kernel
theorem i61_0 : decode (mCd 61) 0 = .ok (.aload_n 0, 1) ∧ lk (mMsk 61) 0 = none := by decide +kernel
theorem i61_1 : decode (mCd 61) 1 = .ok (.getfield 17, 3) ∧ lk (mMsk 61) 1 = none := by decide +kernel
theorem g61_17 : fOk 61 17 6 1 = true := by decide +kernel
theorem i61_4 : decode (mCd 61) 4 = .ok (.iconst 5, 1) ∧ lk (mMsk 61) 4 = none := by decide +kernel
theorem i61_5 : decode (mCd 61) 5 = .ok (.if_icmp .lt 5, 3) ∧ lk (mMsk 61) 5 = none := by decide +kernel
theorem i61_10 : decode (mCd 61) 10 = .ok (.aload_n 0, 1) ∧ lk (mMsk 61) 10 = none := by decide +kernel
theorem i61_11 : decode (mCd 61) 11 = .ok (.getfield 11, 3) ∧ lk (mMsk 61) 11 = none := by decide +kernel
theorem g61_11 : fOk 61 11 6 0 = true := by decide +kernel
theorem i61_14 : decode (mCd 61) 14 = .ok (.aload_n 0, 1) ∧ lk (mMsk 61) 14 = none := by decide +kernel
theorem i61_15 : decode (mCd 61) 15 = .ok (.getfield 17, 3) ∧ lk (mMsk 61) 15 = none := by decide +kernel
theorem i61_18 : decode (mCd 61) 18 = .ok (.aaload, 1) ∧ lk (mMsk 61) 18 = none := by decide +kernel
theorem i61_19 : decode (mCd 61) 19 = .ok (.astore 5, 2) ∧ lk (mMsk 61) 19 = none := by decide +kernel
theorem i61_21 : decode (mCd 61) 21 = .ok (.aload 5, 2) ∧ lk (mMsk 61) 21 = none := by decide +kernel
theorem i61_23 : decode (mCd 61) 23 = .ok (.iload_n 1, 1) ∧ lk (mMsk 61) 23 = none := by decide +kernel
theorem i61_24 : decode (mCd 61) 24 = .ok (.putfield 42, 3) ∧ lk (mMsk 61) 24 = none := by decide +kernel
theorem p61_42 : pOk 61 42 7 0 = true := by decide +kernel
theorem i61_27 : decode (mCd 61) 27 = .ok (.aload 5, 2) ∧ lk (mMsk 61) 27 = none := by decide +kernel
theorem i61_29 : decode (mCd 61) 29 = .ok (.iload_n 2, 1) ∧ lk (mMsk 61) 29 = none := by decide +kernel
theorem i61_30 : decode (mCd 61) 30 = .ok (.putfield 45, 3) ∧ lk (mMsk 61) 30 = none := by decide +kernel
theorem p61_45 : pOk 61 45 7 1 = true := by decide +kernel
theorem i61_33 : decode (mCd 61) 33 = .ok (.aload 5, 2) ∧ lk (mMsk 61) 33 = none := by decide +kernel
theorem i61_35 : decode (mCd 61) 35 = .ok (.iload_n 3, 1) ∧ lk (mMsk 61) 35 = none := by decide +kernel
theorem i61_36 : decode (mCd 61) 36 = .ok (.putfield 48, 3) ∧ lk (mMsk 61) 36 = none := by decide +kernel
theorem p61_48 : pOk 61 48 7 2 = true := by decide +kernel
theorem i61_39 : decode (mCd 61) 39 = .ok (.aload 5, 2) ∧ lk (mMsk 61) 39 = none := by decide +kernel
theorem i61_41 : decode (mCd 61) 41 = .ok (.iload 4, 2) ∧ lk (mMsk 61) 41 = none := by decide +kernel
theorem i61_43 : decode (mCd 61) 43 = .ok (.putfield 33, 3) ∧ lk (mMsk 61) 43 = none := by decide +kernel
theorem p61_33 : pOk 61 33 7 3 = true := by decide +kernel
theorem i61_46 : decode (mCd 61) 46 = .ok (.aload 5, 2) ∧ lk (mMsk 61) 46 = none := by decide +kernel
theorem i61_48 : decode (mCd 61) 48 = .ok (.iconst 0, 1) ∧ lk (mMsk 61) 48 = none := by decide +kernel
theorem i61_49 : decode (mCd 61) 49 = .ok (.putfield 51, 3) ∧ lk (mMsk 61) 49 = none := by decide +kernel
theorem p61_51 : pOk 61 51 7 5 = true := by decide +kernel
theorem i61_52 : decode (mCd 61) 52 = .ok (.aload 5, 2) ∧ lk (mMsk 61) 52 = none := by decide +kernel
theorem i61_54 : decode (mCd 61) 54 = .ok (.iconst 0, 1) ∧ lk (mMsk 61) 54 = none := by decide +kernel
theorem i61_55 : decode (mCd 61) 55 = .ok (.putfield 54, 3) ∧ lk (mMsk 61) 55 = none := by decide +kernel
theorem p61_54 : pOk 61 54 7 6 = true := by decide +kernel
theorem i61_58 : decode (mCd 61) 58 = .ok (.aload_n 0, 1) ∧ lk (mMsk 61) 58 = none := by decide +kernel
theorem i61_59 : decode (mCd 61) 59 = .ok (.dup, 1) ∧ lk (mMsk 61) 59 = none := by decide +kernel
theorem i61_60 : decode (mCd 61) 60 = .ok (.getfield 17, 3) ∧ lk (mMsk 61) 60 = none := by decide +kernel
theorem i61_63 : decode (mCd 61) 63 = .ok (.iconst 1, 1) ∧ lk (mMsk 61) 63 = none := by decide +kernel
theorem i61_64 : decode (mCd 61) 64 = .ok (.iadd, 1) ∧ lk (mMsk 61) 64 = none := by decide +kernel
theorem i61_65 : decode (mCd 61) 65 = .ok (.putfield 17, 3) ∧ lk (mMsk 61) 65 = none := by decide +kernel
theorem p61_17 : pOk 61 17 6 1 = true := by decide +kernel
theorem i61_68 : decode (mCd 61) 68 = .ok (.iconst 1, 1) ∧ lk (mMsk 61) 68 = none := by decide +kernel
theorem i61_69 : decode (mCd 61) 69 = .ok (.ireturn, 1) ∧ lk (mMsk 61) 69 = none := by decide +kernel
theorem i61_8 : decode (mCd 61) 8 = .ok (.iconst 0, 1) ∧ lk (mMsk 61) 8 = none := by decide +kernel
theorem i61_9 : decode (mCd 61) 9 = .ok (.ireturn, 1) ∧ lk (mMsk 61) 9 = none := by decide +kernel
theorem i62_0 : decode (mCd 62) 0 = .ok (.aload_n 0, 1) ∧ lk (mMsk 62) 0 = none := by decide +kernel
theorem i62_1 : decode (mCd 62) 1 = .ok (.iconst 0, 1) ∧ lk (mMsk 62) 1 = none := by decide +kernel
theorem i62_2 : decode (mCd 62) 2 = .ok (.putfield 17, 3) ∧ lk (mMsk 62) 2 = none := by decide +kernel
theorem p62_17 : pOk 62 17 6 1 = true := by decide +kernel
theorem i62_5 : decode (mCd 62) 5 = .ok (.aload_n 0, 1) ∧ lk (mMsk 62) 5 = none := by decide +kernel
theorem i62_6 : decode (mCd 62) 6 = .ok (.iconst 0, 1) ∧ lk (mMsk 62) 6 = none := by decide +kernel
theorem i62_7 : decode (mCd 62) 7 = .ok (.putfield 25, 3) ∧ lk (mMsk 62) 7 = none := by decide +kernel
theorem p62_25 : pOk 62 25 6 3 = true := by decide +kernel
theorem i62_10 : decode (mCd 62) 10 = .ok (.aload_n 0, 1) ∧ lk (mMsk 62) 10 = none := by decide +kernel
theorem i62_11 : decode (mCd 62) 11 = .ok (.getfield 21, 3) ∧ lk (mMsk 62) 11 = none := by decide +kernel
theorem g62_21 : fOk 62 21 6 2 = true := by decide +kernel
theorem i62_14 : decode (mCd 62) 14 = .ok (.iconst 0, 1) ∧ lk (mMsk 62) 14 = none := by decide +kernel
theorem i62_15 : decode (mCd 62) 15 = .ok (.invokestatic 57, 3) ∧ lk (mMsk 62) 15 = none := by decide +kernel
theorem c62_57 : ciOk 62 57 176 2 3 = true := by decide +kernel
theorem i62_18 : decode (mCd 62) 18 = .ok (.return_, 1) ∧ lk (mMsk 62) 18 = none := by decide +kernel
theorem i63_0 : decode (mCd 63) 0 = .ok (.aload_n 0, 1) ∧ lk (mMsk 63) 0 = none := by decide +kernel
theorem i63_1 : decode (mCd 63) 1 = .ok (.aload_n 1, 1) ∧ lk (mMsk 63) 1 = none := by decide +kernel
theorem i63_2 : decode (mCd 63) 2 = .ok (.getfield 17, 3) ∧ lk (mMsk 63) 2 = none := by decide +kernel
theorem g63_17 : fOk 63 17 6 1 = true := by decide +kernel
theorem i63_5 : decode (mCd 63) 5 = .ok (.putfield 17, 3) ∧ lk (mMsk 63) 5 = none := by decide +kernel
theorem p63_17 : pOk 63 17 6 1 = true := by decide +kernel
theorem i63_8 : decode (mCd 63) 8 = .ok (.aload_n 0, 1) ∧ lk (mMsk 63) 8 = none := by decide +kernel
theorem i63_9 : decode (mCd 63) 9 = .ok (.aload_n 1, 1) ∧ lk (mMsk 63) 9 = none := by decide +kernel
theorem i63_10 : decode (mCd 63) 10 = .ok (.getfield 25, 3) ∧ lk (mMsk 63) 10 = none := by decide +kernel
theorem g63_25 : fOk 63 25 6 3 = true := by decide +kernel
theorem i63_13 : decode (mCd 63) 13 = .ok (.putfield 25, 3) ∧ lk (mMsk 63) 13 = none := by decide +kernel
theorem p63_25 : pOk 63 25 6 3 = true := by decide +kernel
theorem i63_16 : decode (mCd 63) 16 = .ok (.aload_n 1, 1) ∧ lk (mMsk 63) 16 = none := by decide +kernel
theorem i63_17 : decode (mCd 63) 17 = .ok (.getfield 21, 3) ∧ lk (mMsk 63) 17 = none := by decide +kernel
theorem g63_21 : fOk 63 21 6 2 = true := by decide +kernel
theorem i63_20 : decode (mCd 63) 20 = .ok (.iconst 0, 1) ∧ lk (mMsk 63) 20 = none := by decide +kernel
theorem i63_21 : decode (mCd 63) 21 = .ok (.aload_n 0, 1) ∧ lk (mMsk 63) 21 = none := by decide +kernel
theorem i63_22 : decode (mCd 63) 22 = .ok (.getfield 21, 3) ∧ lk (mMsk 63) 22 = none := by decide +kernel
theorem i63_25 : decode (mCd 63) 25 = .ok (.iconst 0, 1) ∧ lk (mMsk 63) 25 = none := by decide +kernel
theorem i63_26 : decode (mCd 63) 26 = .ok (.bipush 8, 2) ∧ lk (mMsk 63) 26 = none := by decide +kernel
theorem i63_28 : decode (mCd 63) 28 = .ok (.invokestatic 63, 3) ∧ lk (mMsk 63) 28 = none := by decide +kernel
theorem n63_63 : lk (mMt (mOwn 63)) 63 = none := by decide +kernel
theorem x63_63 : lk (mXq (mOwn 63)) 63 = none := by decide +kernel
theorem t63_63 : (mNt (mOwn 63) 63 && mRn 63) = true := by decide +kernel
theorem i63_31 : decode (mCd 63) 31 = .ok (.iconst 0, 1) ∧ lk (mMsk 63) 31 = none := by decide +kernel
theorem i63_32 : decode (mCd 63) 32 = .ok (.istore_n 2, 1) ∧ lk (mMsk 63) 32 = none := by decide +kernel
theorem i63_33 : decode (mCd 63) 33 = .ok (.iload_n 2, 1) ∧ lk (mMsk 63) 33 = some [true, true, true] := by decide +kernel
theorem i63_34 : decode (mCd 63) 34 = .ok (.aload_n 0, 1) ∧ lk (mMsk 63) 34 = none := by decide +kernel
theorem i63_35 : decode (mCd 63) 35 = .ok (.getfield 17, 3) ∧ lk (mMsk 63) 35 = none := by decide +kernel
theorem i63_38 : decode (mCd 63) 38 = .ok (.if_icmp .ge 29, 3) ∧ lk (mMsk 63) 38 = none := by decide +kernel
theorem i63_67 : decode (mCd 63) 67 = .ok (.return_, 1) ∧ lk (mMsk 63) 67 = some [false, false, false] := by decide +kernel
theorem i63_41 : decode (mCd 63) 41 = .ok (.iload_n 2, 1) ∧ lk (mMsk 63) 41 = none := by decide +kernel
theorem i63_42 : decode (mCd 63) 42 = .ok (.iconst 5, 1) ∧ lk (mMsk 63) 42 = none := by decide +kernel
theorem i63_43 : decode (mCd 63) 43 = .ok (.if_icmp .ge 24, 3) ∧ lk (mMsk 63) 43 = none := by decide +kernel
theorem i63_46 : decode (mCd 63) 46 = .ok (.aload_n 0, 1) ∧ lk (mMsk 63) 46 = none := by decide +kernel
theorem i63_47 : decode (mCd 63) 47 = .ok (.getfield 11, 3) ∧ lk (mMsk 63) 47 = none := by decide +kernel
theorem g63_11 : fOk 63 11 6 0 = true := by decide +kernel
theorem i63_50 : decode (mCd 63) 50 = .ok (.iload_n 2, 1) ∧ lk (mMsk 63) 50 = none := by decide +kernel
theorem i63_51 : decode (mCd 63) 51 = .ok (.aaload, 1) ∧ lk (mMsk 63) 51 = none := by decide +kernel
theorem i63_52 : decode (mCd 63) 52 = .ok (.aload_n 1, 1) ∧ lk (mMsk 63) 52 = none := by decide +kernel
theorem i63_53 : decode (mCd 63) 53 = .ok (.getfield 11, 3) ∧ lk (mMsk 63) 53 = none := by decide +kernel
theorem i63_56 : decode (mCd 63) 56 = .ok (.iload_n 2, 1) ∧ lk (mMsk 63) 56 = none := by decide +kernel
theorem i63_57 : decode (mCd 63) 57 = .ok (.aaload, 1) ∧ lk (mMsk 63) 57 = none := by decide +kernel
theorem i63_58 : decode (mCd 63) 58 = .ok (.invokevirtual 69, 3) ∧ lk (mMsk 63) 58 = none := by decide +kernel
theorem c63_69 : cvOk 63 69 70 1 3 = true := by decide +kernel
theorem i63_61 : decode (mCd 63) 61 = .ok (.iinc 2 1, 3) ∧ lk (mMsk 63) 61 = none := by decide +kernel
theorem i63_64 : decode (mCd 63) 64 = .ok (.goto (-31), 3) ∧ lk (mMsk 63) 64 = none := by decide +kernel
theorem i64_0 : decode (mCd 64) 0 = .ok (.iconst 0, 1) ∧ lk (mMsk 64) 0 = none := by decide +kernel
theorem i64_1 : decode (mCd 64) 1 = .ok (.istore_n 1, 1) ∧ lk (mMsk 64) 1 = none := by decide +kernel
theorem i64_2 : decode (mCd 64) 2 = .ok (.iconst 0, 1) ∧ lk (mMsk 64) 2 = none := by decide +kernel
theorem i64_3 : decode (mCd 64) 3 = .ok (.istore_n 2, 1) ∧ lk (mMsk 64) 3 = none := by decide +kernel
theorem i64_4 : decode (mCd 64) 4 = .ok (.iload_n 2, 1) ∧ lk (mMsk 64) 4 = some [true, true, true] := by decide +kernel
theorem i64_5 : decode (mCd 64) 5 = .ok (.aload_n 0, 1) ∧ lk (mMsk 64) 5 = none := by decide +kernel
theorem i64_6 : decode (mCd 64) 6 = .ok (.getfield 17, 3) ∧ lk (mMsk 64) 6 = none := by decide +kernel
theorem g64_17 : fOk 64 17 6 1 = true := by decide +kernel
theorem i64_9 : decode (mCd 64) 9 = .ok (.if_icmp .ge 43, 3) ∧ lk (mMsk 64) 9 = none := by decide +kernel
theorem i64_52 : decode (mCd 64) 52 = .ok (.iload_n 1, 1) ∧ lk (mMsk 64) 52 = some [false, true, false] := by decide +kernel
theorem i64_12 : decode (mCd 64) 12 = .ok (.iload_n 2, 1) ∧ lk (mMsk 64) 12 = none := by decide +kernel
theorem i64_13 : decode (mCd 64) 13 = .ok (.iconst 5, 1) ∧ lk (mMsk 64) 13 = none := by decide +kernel
theorem i64_14 : decode (mCd 64) 14 = .ok (.if_icmp .ge 38, 3) ∧ lk (mMsk 64) 14 = none := by decide +kernel
theorem i64_17 : decode (mCd 64) 17 = .ok (.iload_n 1, 1) ∧ lk (mMsk 64) 17 = none := by decide +kernel
theorem i64_18 : decode (mCd 64) 18 = .ok (.aload_n 0, 1) ∧ lk (mMsk 64) 18 = none := by decide +kernel
theorem i64_19 : decode (mCd 64) 19 = .ok (.getfield 11, 3) ∧ lk (mMsk 64) 19 = none := by decide +kernel
theorem g64_11 : fOk 64 11 6 0 = true := by decide +kernel
theorem i64_22 : decode (mCd 64) 22 = .ok (.iload_n 2, 1) ∧ lk (mMsk 64) 22 = none := by decide +kernel
theorem i64_23 : decode (mCd 64) 23 = .ok (.aaload, 1) ∧ lk (mMsk 64) 23 = none := by decide +kernel
theorem i64_24 : decode (mCd 64) 24 = .ok (.getfield 45, 3) ∧ lk (mMsk 64) 24 = none := by decide +kernel
theorem g64_45 : fOk 64 45 7 1 = true := by decide +kernel
theorem i64_27 : decode (mCd 64) 27 = .ok (.aload_n 0, 1) ∧ lk (mMsk 64) 27 = none := by decide +kernel
theorem i64_28 : decode (mCd 64) 28 = .ok (.getfield 11, 3) ∧ lk (mMsk 64) 28 = none := by decide +kernel
theorem i64_31 : decode (mCd 64) 31 = .ok (.iload_n 2, 1) ∧ lk (mMsk 64) 31 = none := by decide +kernel
theorem i64_32 : decode (mCd 64) 32 = .ok (.aaload, 1) ∧ lk (mMsk 64) 32 = none := by decide +kernel
theorem i64_33 : decode (mCd 64) 33 = .ok (.getfield 48, 3) ∧ lk (mMsk 64) 33 = none := by decide +kernel
theorem g64_48 : fOk 64 48 7 2 = true := by decide +kernel
theorem i64_36 : decode (mCd 64) 36 = .ok (.if_icmp .ne 7, 3) ∧ lk (mMsk 64) 36 = none := by decide +kernel
theorem i64_39 : decode (mCd 64) 39 = .ok (.iconst 1, 1) ∧ lk (mMsk 64) 39 = none := by decide +kernel
theorem i64_40 : decode (mCd 64) 40 = .ok (.goto 4, 3) ∧ lk (mMsk 64) 40 = none := by decide +kernel
theorem i64_44 : decode (mCd 64) 44 = .ok (.iadd, 1) ∧ lk (mMsk 64) 44 = some [true, false, true] := by decide +kernel
theorem i64_43 : decode (mCd 64) 43 = .ok (.iconst 0, 1) ∧ lk (mMsk 64) 43 = none := by decide +kernel
theorem i64_45 : decode (mCd 64) 45 = .ok (.istore_n 1, 1) ∧ lk (mMsk 64) 45 = none := by decide +kernel
theorem i64_46 : decode (mCd 64) 46 = .ok (.iinc 2 1, 3) ∧ lk (mMsk 64) 46 = none := by decide +kernel
theorem i64_49 : decode (mCd 64) 49 = .ok (.goto (-45), 3) ∧ lk (mMsk 64) 49 = none := by decide +kernel
theorem i64_53 : decode (mCd 64) 53 = .ok (.ireturn, 1) ∧ lk (mMsk 64) 53 = none := by decide +kernel
theorem f_Town_at_eq {t0 : Nat} {x1 : Int32} (h_t0 : isT t0) {S : Mem} : f_Town_at t0 x1 S = if x1 < 0 then k_Town_at_26 S else if (S.1 t0 1) ≤ x1 then k_Town_at_26 S else if 5 ≤ x1 then k_Town_at_26 S else if inb x1 5 = true then k_Town_at_27 (some (t0 + 3 + 2 * x1.toNatClampNeg)) S else none := by
  show cA (mV oS X0 59 0 [some (.ref t0), some (.int x1)] [] S) = _
  refine V_iload_n (c := cA) i59_0.1 (mM_n i59_0.2) rfl ?_
  refine V_if_lt (c := cA) i59_1.1 (mM_n i59_1.2) rfl (fun _ => ?_) (fun _ => ?_)
  · exact V_msk (l1 := [none, none]) i59_26.2 rfl rfl
  · refine V_iload_n (c := cA) i59_4.1 (mM_n i59_4.2) rfl ?_
    refine V_aload_n (c := cA) i59_5.1 (mM_n i59_5.2) rfl rfl ?_
    refine V_gf (c := cA) i59_6.1 (mM_n i59_6.2) (v := .int (S.1 t0 1)) g59_17 (gf_i (isT_o h_t0) rfl) ?_
    refine V_icmp_ge (c := cA) i59_9.1 (mM_n i59_9.2) rfl (fun _ => ?_) (fun _ => ?_)
    · exact V_msk (l1 := [none, none]) i59_26.2 rfl rfl
    · refine V_iload_n (c := cA) i59_12.1 (mM_n i59_12.2) rfl ?_
      refine V_iconst (c := cA) i59_13.1 (mM_n i59_13.2) (v := 5) rfl ?_
      refine V_icmp_ge (c := cA) i59_14.1 (mM_n i59_14.2) rfl (fun _ => ?_) (fun _ => ?_)
      · exact V_msk (l1 := [none, none]) i59_26.2 rfl rfl
      · refine V_aload_n (c := cA) i59_17.1 (mM_n i59_17.2) rfl rfl ?_
        refine V_gf (c := cA) i59_18.1 (mM_n i59_18.2) (v := .ref (t0 + 1)) g59_11 (gf_r (isT_o h_t0) rfl) ?_
        refine V_iload_n (c := cA) i59_21.1 (mM_n i59_21.2) rfl ?_
        refine V_aaload (c := cA) i59_22.1 (mM_n i59_22.2) (isT_a h_t0) (wal_at) rfl (fun hi2 => ?_)
        refine V_goto (c := cA) i59_23.1 (mM_n i59_23.2) rfl ?_
        exact V_msk (l1 := [none, none]) i59_27.2 rfl rfl
theorem k_Town_at_26_eq   {S : Mem} : k_Town_at_26  S = k_Town_at_27 none S := by
  show cA (mV oS X0 59 26 [none, none] [] S) = _
  refine V_null (c := cA) i59_26.1 (mM_s i59_26.2 rfl)  ?_
  exact V_msk (l1 := [none, none]) i59_27.2 rfl rfl
theorem k_Town_at_27_eq {os0 : Option Nat}  {S : Mem} : k_Town_at_27 os0 S = some (os0, S) := by
  show cA (mV oS X0 59 27 [none, none] [va_rf os0] S) = _
  exact V_aret (o := os0) i59_27.1 (mM_s i59_27.2 rfl) rfl
theorem f_Town_mayPass_eq {t0 : Nat} {x2 : Int32} {x3 : Int32} (h_t0 : isT t0) {S : Mem} : f_Town_mayPass t0 x2 x3 S = bA (f_Town_at t0 x2 S) (fun r10 S9 => bA (f_Town_at t0 x3 S9) (fun r12 S11 => oc r10 (k_Town_mayPass_45 S11) (fun w13 => k_Town_mayPass_19 w13 r12 S11))) := by
  show cI (mV oS X0 60 0 [some (.ref t0), some (.ref 7), some (.int x2), some (.int x3), none, none] [] S) = _
  refine V_aload_n (c := cI) i60_0.1 (mM_n i60_0.2) rfl rfl ?_
  refine V_iload_n (c := cI) i60_1.1 (mM_n i60_1.2) rfl ?_
  refine V_cvA (c := cI) (As := [.int x2]) (rest := []) i60_2.1 (mM_n i60_2.2) c60_29 rfl (cl_sh (isT_o h_t0)) rfl rfl (Nat.le_of_ble_eq_true rfl) rfl (fun r10 S9 => ?_)
  refine V_astore (c := cI) i60_5.1 (mM_n i60_5.2) (l1 := [some (.ref t0), some (.ref 7), some (.int x2), some (.int x3), some (va_rf r10), none])  (isA_rf _) (Nat.le_of_ble_eq_true rfl) rfl ?_
  refine V_aload_n (c := cI) i60_7.1 (mM_n i60_7.2) rfl rfl ?_
  refine V_iload_n (c := cI) i60_8.1 (mM_n i60_8.2) rfl ?_
  refine V_cvA (c := cI) (As := [.int x3]) (rest := []) i60_9.1 (mM_n i60_9.2) c60_29 rfl (cl_sh (isT_o h_t0)) rfl rfl (Nat.le_of_ble_eq_true rfl) rfl (fun r12 S11 => ?_)
  refine V_astore (c := cI) i60_12.1 (mM_n i60_12.2) (l1 := [some (.ref t0), some (.ref 7), some (.int x2), some (.int x3), some (va_rf r10), some (va_rf r12)])  (isA_rf _) (Nat.le_of_ble_eq_true rfl) (mSt1_rf (j := 4) rfl rfl) ?_
  refine V_aload (c := cI) i60_14.1 (mM_n i60_14.2) rfl (isA_rf _) ?_
  cases r10 with
  | none =>
    refine V_ifnullN (c := cI) i60_16.1 (mM_n i60_16.2) rfl ?_
    exact V_msk (l1 := [none, none, none, none, none, none]) i60_45.2 rfl rfl
  | some w13 =>
    refine V_ifnullR (c := cI) i60_16.1 (mM_n i60_16.2) rfl ?_
    exact V_msk (l1 := [none, some (.ref 7), none, none, some (.ref w13), some (va_rf r12)]) i60_19.2 rfl rfl
theorem k_Town_mayPass_19_eq {w4 : Nat} {o5 : Option Nat} (h_w4 : isW w4) {S : Mem} : k_Town_mayPass_19 w4 o5 S = oc o5 (k_Town_mayPass_45 S) (fun w14 => k_Town_mayPass_24 w4 w14 S) := by
  show cI (mV oS X0 60 19 [none, some (.ref 7), none, none, some (.ref w4), some (va_rf o5)] [] S) = _
  refine V_aload (c := cI) i60_19.1 (mM_s i60_19.2 rfl) rfl (isA_rf _) ?_
  cases o5 with
  | none =>
    refine V_ifnullN (c := cI) i60_21.1 (mM_n i60_21.2) rfl ?_
    exact V_msk (l1 := [none, none, none, none, none, none]) i60_45.2 rfl rfl
  | some w14 =>
    refine V_ifnullR (c := cI) i60_21.1 (mM_n i60_21.2) rfl ?_
    exact V_msk (l1 := [none, some (.ref 7), none, none, some (.ref w4), some (.ref w14)]) i60_24.2 rfl rfl
theorem k_Town_mayPass_24_eq {w4 : Nat} {w5 : Nat} (h_w4 : isW w4) (h_w5 : isW w5) {S : Mem} : k_Town_mayPass_24 w4 w5 S = bI (f_Net_letsPass w4 (S.1 w4 3) w5 (S.1 w5 3) S) (fun r16 S15 => if r16 = 0 then k_Town_mayPass_50 0 S15 else k_Town_mayPass_45 S15) := by
  show cI (mV oS X0 60 24 [none, some (.ref 7), none, none, some (.ref w4), some (.ref w5)] [] S) = _
  refine V_aload_n (c := cI) i60_24.1 (mM_s i60_24.2 rfl) rfl rfl ?_
  refine V_aload (c := cI) i60_25.1 (mM_n i60_25.2) rfl rfl ?_
  refine V_aload (c := cI) i60_27.1 (mM_n i60_27.2) rfl rfl ?_
  refine V_gf (c := cI) i60_29.1 (mM_n i60_29.2) (v := .int (S.1 w4 3)) g60_33 (gf_i (isW_o h_w4) rfl) ?_
  refine V_aload (c := cI) i60_32.1 (mM_n i60_32.2) rfl rfl ?_
  refine V_aload (c := cI) i60_34.1 (mM_n i60_34.2) rfl rfl ?_
  refine V_gf (c := cI) i60_36.1 (mM_n i60_36.2) (v := .int (S.1 w5 3)) g60_33 (gf_i (isW_o h_w5) rfl) ?_
  refine V_cvI (c := cI) (As := [.ref w4, .int (S.1 w4 3), .ref w5, .int (S.1 w5 3)]) (rest := []) i60_39.1 (mM_n i60_39.2) c60_36 rfl rfl rfl rfl (Nat.le_of_ble_eq_true rfl) rfl (fun r16 S15 => ?_)
  refine V_if_eq (c := cI) i60_42.1 (mM_n i60_42.2) rfl (fun _ => ?_) (fun _ => ?_)
  · refine V_iconst (c := cI) i60_49.1 (mM_n i60_49.2) (v := 0) rfl ?_
    exact V_msk (l1 := [none, none, none, none, none, none]) i60_50.2 rfl rfl
  · exact V_msk (l1 := [none, none, none, none, none, none]) i60_45.2 rfl rfl
theorem k_Town_mayPass_45_eq   {S : Mem} : k_Town_mayPass_45  S = k_Town_mayPass_50 1 S := by
  show cI (mV oS X0 60 45 [none, none, none, none, none, none] [] S) = _
  refine V_iconst (c := cI) i60_45.1 (mM_s i60_45.2 rfl) (v := 1) rfl ?_
  refine V_goto (c := cI) i60_46.1 (mM_n i60_46.2) rfl ?_
  exact V_msk (l1 := [none, none, none, none, none, none]) i60_50.2 rfl rfl
theorem k_Town_mayPass_50_eq {xs0 : Int32}  {S : Mem} : k_Town_mayPass_50 xs0 S = if zb xs0 = true then some (xs0, S) else none := by
  show cI (mV oS X0 60 50 [none, none, none, none, none, none] [.int xs0] S) = _
  exact V_iretZ i60_50.1 (mM_s i60_50.2 rfl) rfl
theorem f_Town_add_eq {t0 : Nat} {x1 : Int32} {x2 : Int32} {x3 : Int32} {x4 : Int32} (h_t0 : isT t0) {S : Mem} : f_Town_add t0 x1 x2 x3 x4 S = if (S.1 t0 1) < 5 then if inb (S.1 t0 1) 5 = true then some (1, u1 (u1 (u1 (u1 (u1 (u1 (u1 S (t0 + 3 + 2 * (S.1 t0 1).toNatClampNeg) 0 x1) (t0 + 3 + 2 * (S.1 t0 1).toNatClampNeg) 1 x2) (t0 + 3 + 2 * (S.1 t0 1).toNatClampNeg) 2 x3) (t0 + 3 + 2 * (S.1 t0 1).toNatClampNeg) 3 x4) (t0 + 3 + 2 * (S.1 t0 1).toNatClampNeg) 5 0) (t0 + 3 + 2 * (S.1 t0 1).toNatClampNeg) 6 0) t0 1 (((u1 (u1 (u1 (u1 (u1 (u1 S (t0 + 3 + 2 * (S.1 t0 1).toNatClampNeg) 0 x1) (t0 + 3 + 2 * (S.1 t0 1).toNatClampNeg) 1 x2) (t0 + 3 + 2 * (S.1 t0 1).toNatClampNeg) 2 x3) (t0 + 3 + 2 * (S.1 t0 1).toNatClampNeg) 3 x4) (t0 + 3 + 2 * (S.1 t0 1).toNatClampNeg) 5 0) (t0 + 3 + 2 * (S.1 t0 1).toNatClampNeg) 6 0).1 t0 1) + 1)) else none else some (0, S) := by
  show cI (mV oS X0 61 0 [some (.ref t0), some (.int x1), some (.int x2), some (.int x3), some (.int x4), none] [] S) = _
  refine V_aload_n (c := cI) i61_0.1 (mM_n i61_0.2) rfl rfl ?_
  refine V_gf (c := cI) i61_1.1 (mM_n i61_1.2) (v := .int (S.1 t0 1)) g61_17 (gf_i (isT_o h_t0) rfl) ?_
  refine V_iconst (c := cI) i61_4.1 (mM_n i61_4.2) (v := 5) rfl ?_
  refine V_icmp_lt (c := cI) i61_5.1 (mM_n i61_5.2) rfl (fun _ => ?_) (fun _ => ?_)
  · refine V_aload_n (c := cI) i61_10.1 (mM_n i61_10.2) rfl rfl ?_
    refine V_gf (c := cI) i61_11.1 (mM_n i61_11.2) (v := .ref (t0 + 1)) g61_11 (gf_r (isT_o h_t0) rfl) ?_
    refine V_aload_n (c := cI) i61_14.1 (mM_n i61_14.2) rfl rfl ?_
    refine V_gf (c := cI) i61_15.1 (mM_n i61_15.2) (v := .int (S.1 t0 1)) g61_17 (gf_i (isT_o h_t0) rfl) ?_
    refine V_aaload (c := cI) i61_18.1 (mM_n i61_18.2) (isT_a h_t0) (wal_at) rfl (fun hi2 => ?_)
    refine V_astore (c := cI) i61_19.1 (mM_n i61_19.2) (l1 := [some (.ref t0), some (.int x1), some (.int x2), some (.int x3), some (.int x4), some (.ref (t0 + 3 + 2 * (S.1 t0 1).toNatClampNeg))])  rfl (Nat.le_of_ble_eq_true rfl) rfl ?_
    refine V_aload (c := cI) i61_21.1 (mM_n i61_21.2) rfl rfl ?_
    refine V_iload_n (c := cI) i61_23.1 (mM_n i61_23.2) rfl ?_
    refine V_pf (c := cI) i61_24.1 (mM_n i61_24.2) p61_42 (pf_i (isW_o (wal_w h_t0 hi2)) rfl rfl) ?_
    refine V_aload (c := cI) i61_27.1 (mM_n i61_27.2) rfl rfl ?_
    refine V_iload_n (c := cI) i61_29.1 (mM_n i61_29.2) rfl ?_
    refine V_pf (c := cI) i61_30.1 (mM_n i61_30.2) p61_45 (pf_i (isW_o (wal_w h_t0 hi2)) rfl rfl) ?_
    refine V_aload (c := cI) i61_33.1 (mM_n i61_33.2) rfl rfl ?_
    refine V_iload_n (c := cI) i61_35.1 (mM_n i61_35.2) rfl ?_
    refine V_pf (c := cI) i61_36.1 (mM_n i61_36.2) p61_48 (pf_i (isW_o (wal_w h_t0 hi2)) rfl rfl) ?_
    refine V_aload (c := cI) i61_39.1 (mM_n i61_39.2) rfl rfl ?_
    refine V_iload (c := cI) i61_41.1 (mM_n i61_41.2) rfl ?_
    refine V_pf (c := cI) i61_43.1 (mM_n i61_43.2) p61_33 (pf_i (isW_o (wal_w h_t0 hi2)) rfl rfl) ?_
    refine V_aload (c := cI) i61_46.1 (mM_n i61_46.2) rfl rfl ?_
    refine V_iconst (c := cI) i61_48.1 (mM_n i61_48.2) (v := 0) rfl ?_
    refine V_pf (c := cI) i61_49.1 (mM_n i61_49.2) p61_51 (pf_i (isW_o (wal_w h_t0 hi2)) rfl rfl) ?_
    refine V_aload (c := cI) i61_52.1 (mM_n i61_52.2) rfl rfl ?_
    refine V_iconst (c := cI) i61_54.1 (mM_n i61_54.2) (v := 0) rfl ?_
    refine V_pf (c := cI) i61_55.1 (mM_n i61_55.2) p61_54 (pf_i (isW_o (wal_w h_t0 hi2)) rfl rfl) ?_
    refine V_aload_n (c := cI) i61_58.1 (mM_n i61_58.2) rfl rfl ?_
    refine V_dup (c := cI) i61_59.1 (mM_n i61_59.2) rfl ?_
    refine V_gf (c := cI) i61_60.1 (mM_n i61_60.2) (v := .int ((u1 (u1 (u1 (u1 (u1 (u1 S (t0 + 3 + 2 * (S.1 t0 1).toNatClampNeg) 0 x1) (t0 + 3 + 2 * (S.1 t0 1).toNatClampNeg) 1 x2) (t0 + 3 + 2 * (S.1 t0 1).toNatClampNeg) 2 x3) (t0 + 3 + 2 * (S.1 t0 1).toNatClampNeg) 3 x4) (t0 + 3 + 2 * (S.1 t0 1).toNatClampNeg) 5 0) (t0 + 3 + 2 * (S.1 t0 1).toNatClampNeg) 6 0).1 t0 1)) g61_17 (gf_i (isT_o h_t0) rfl) ?_
    refine V_iconst (c := cI) i61_63.1 (mM_n i61_63.2) (v := 1) rfl ?_
    refine V_iadd (c := cI) i61_64.1 (mM_n i61_64.2)  ?_
    refine V_pf (c := cI) i61_65.1 (mM_n i61_65.2) p61_17 (pf_i (isT_o h_t0) rfl rfl) ?_
    refine V_iconst (c := cI) i61_68.1 (mM_n i61_68.2) (v := 1) rfl ?_
    exact V_iret i61_69.1 (mM_n i61_69.2) rfl
  · refine V_iconst (c := cI) i61_8.1 (mM_n i61_8.2) (v := 0) rfl ?_
    exact V_iret i61_9.1 (mM_n i61_9.2) rfl
theorem f_Town_empty_eq {t0 : Nat} (h_t0 : isT t0) {S : Mem} : f_Town_empty t0 S = bU (f_JArr_fill (t0 + 2) 0 (u1 (u1 S t0 1 0) t0 3 0)) (fun S2 => some S2) := by
  show cU (mV oS X0 62 0 [some (.ref t0)] [] S) = _
  refine V_aload_n (c := cU) i62_0.1 (mM_n i62_0.2) rfl rfl ?_
  refine V_iconst (c := cU) i62_1.1 (mM_n i62_1.2) (v := 0) rfl ?_
  refine V_pf (c := cU) i62_2.1 (mM_n i62_2.2) p62_17 (pf_i (isT_o h_t0) rfl rfl) ?_
  refine V_aload_n (c := cU) i62_5.1 (mM_n i62_5.2) rfl rfl ?_
  refine V_iconst (c := cU) i62_6.1 (mM_n i62_6.2) (v := 0) rfl ?_
  refine V_pf (c := cU) i62_7.1 (mM_n i62_7.2) p62_25 (pf_i (isT_o h_t0) rfl rfl) ?_
  refine V_aload_n (c := cU) i62_10.1 (mM_n i62_10.2) rfl rfl ?_
  refine V_gf (c := cU) i62_11.1 (mM_n i62_11.2) (v := .ref (t0 + 2)) g62_21 (gf_r (isT_o h_t0) rfl) ?_
  refine V_iconst (c := cU) i62_14.1 (mM_n i62_14.2) (v := 0) rfl ?_
  refine V_ciU (c := cU) (As := [.ref (t0 + 2), .int 0]) (rest := []) i62_15.1 (mM_n i62_15.2) c62_57 rfl rfl rfl (Nat.le_of_ble_eq_true rfl) rfl (fun S2 => ?_)
  exact V_vret i62_18.1 (mM_n i62_18.2) rfl
theorem f_Town_become_eq {t0 : Nat} {t1 : Nat} (h_t0 : isT t0) (h_t1 : isT t1) {S : Mem} : f_Town_become t0 t1 S = k_Town_become_33 t0 t1 0 (u3 (u1 (u1 S t0 1 (S.1 t1 1)) t0 3 ((u1 S t0 1 (S.1 t1 1)).1 t1 3)) (t0 + 2) (va_cpy ((u1 (u1 S t0 1 (S.1 t1 1)) t0 3 ((u1 S t0 1 (S.1 t1 1)).1 t1 3)).1 (t1 + 2)) ((u1 (u1 S t0 1 (S.1 t1 1)) t0 3 ((u1 S t0 1 (S.1 t1 1)).1 t1 3)).1 (t0 + 2)) 0 0 8)) := by
  show cU (mV oS X0 63 0 [some (.ref t0), some (.ref t1), none] [] S) = _
  refine V_aload_n (c := cU) i63_0.1 (mM_n i63_0.2) rfl rfl ?_
  refine V_aload_n (c := cU) i63_1.1 (mM_n i63_1.2) rfl rfl ?_
  refine V_gf (c := cU) i63_2.1 (mM_n i63_2.2) (v := .int (S.1 t1 1)) g63_17 (gf_i (isT_o h_t1) rfl) ?_
  refine V_pf (c := cU) i63_5.1 (mM_n i63_5.2) p63_17 (pf_i (isT_o h_t0) rfl rfl) ?_
  refine V_aload_n (c := cU) i63_8.1 (mM_n i63_8.2) rfl rfl ?_
  refine V_aload_n (c := cU) i63_9.1 (mM_n i63_9.2) rfl rfl ?_
  refine V_gf (c := cU) i63_10.1 (mM_n i63_10.2) (v := .int ((u1 S t0 1 (S.1 t1 1)).1 t1 3)) g63_25 (gf_i (isT_o h_t1) rfl) ?_
  refine V_pf (c := cU) i63_13.1 (mM_n i63_13.2) p63_25 (pf_i (isT_o h_t0) rfl rfl) ?_
  refine V_aload_n (c := cU) i63_16.1 (mM_n i63_16.2) rfl rfl ?_
  refine V_gf (c := cU) i63_17.1 (mM_n i63_17.2) (v := .ref (t1 + 2)) g63_21 (gf_r (isT_o h_t1) rfl) ?_
  refine V_iconst (c := cU) i63_20.1 (mM_n i63_20.2) (v := 0) rfl ?_
  refine V_aload_n (c := cU) i63_21.1 (mM_n i63_21.2) rfl rfl ?_
  refine V_gf (c := cU) i63_22.1 (mM_n i63_22.2) (v := .ref (t0 + 2)) g63_21 (gf_r (isT_o h_t0) rfl) ?_
  refine V_iconst (c := cU) i63_25.1 (mM_n i63_25.2) (v := 0) rfl ?_
  refine V_bipush (c := cU) i63_26.1 (mM_n i63_26.2) (v := 8) rfl ?_
  refine V_copy (c := cU) i63_28.1 (mM_n i63_28.2) n63_63 x63_63 t63_63 rfl (cp_sh (isT_h h_t1) (isT_h h_t0) (by decide) rfl rfl rfl) ?_
  refine V_iconst (c := cU) i63_31.1 (mM_n i63_31.2) (v := 0) rfl ?_
  refine V_istore_n (c := cU) i63_32.1 (mM_n i63_32.2) (l1 := [some (.ref t0), some (.ref t1), some (.int 0)])  (Nat.le_of_ble_eq_true rfl) rfl ?_
  exact V_msk (l1 := [some (.ref t0), some (.ref t1), some (.int 0)]) i63_33.2 rfl rfl
theorem k_Town_become_33_eq {t0 : Nat} {t1 : Nat} {x2 : Int32} (h_t0 : isT t0) (h_t1 : isT t1) {S : Mem} : k_Town_become_33 t0 t1 x2 S = if (S.1 t0 1) ≤ x2 then k_Town_become_67 S else if 5 ≤ x2 then k_Town_become_67 S else if inb x2 5 = true then if inb x2 5 = true then bU (f_Walker_become (t0 + 3 + 2 * x2.toNatClampNeg) (t1 + 3 + 2 * x2.toNatClampNeg) S) (fun S6 => k_Town_become_33 t0 t1 (x2 + 1) S6) else none else none := by
  show cU (mV oS X0 63 33 [some (.ref t0), some (.ref t1), some (.int x2)] [] S) = _
  refine V_iload_n (c := cU) i63_33.1 (mM_s i63_33.2 rfl) rfl ?_
  refine V_aload_n (c := cU) i63_34.1 (mM_n i63_34.2) rfl rfl ?_
  refine V_gf (c := cU) i63_35.1 (mM_n i63_35.2) (v := .int (S.1 t0 1)) g63_17 (gf_i (isT_o h_t0) rfl) ?_
  refine V_icmp_ge (c := cU) i63_38.1 (mM_n i63_38.2) rfl (fun _ => ?_) (fun _ => ?_)
  · exact V_msk (l1 := [none, none, none]) i63_67.2 rfl rfl
  · refine V_iload_n (c := cU) i63_41.1 (mM_n i63_41.2) rfl ?_
    refine V_iconst (c := cU) i63_42.1 (mM_n i63_42.2) (v := 5) rfl ?_
    refine V_icmp_ge (c := cU) i63_43.1 (mM_n i63_43.2) rfl (fun _ => ?_) (fun _ => ?_)
    · exact V_msk (l1 := [none, none, none]) i63_67.2 rfl rfl
    · refine V_aload_n (c := cU) i63_46.1 (mM_n i63_46.2) rfl rfl ?_
      refine V_gf (c := cU) i63_47.1 (mM_n i63_47.2) (v := .ref (t0 + 1)) g63_11 (gf_r (isT_o h_t0) rfl) ?_
      refine V_iload_n (c := cU) i63_50.1 (mM_n i63_50.2) rfl ?_
      refine V_aaload (c := cU) i63_51.1 (mM_n i63_51.2) (isT_a h_t0) (wal_at) rfl (fun hi4 => ?_)
      refine V_aload_n (c := cU) i63_52.1 (mM_n i63_52.2) rfl rfl ?_
      refine V_gf (c := cU) i63_53.1 (mM_n i63_53.2) (v := .ref (t1 + 1)) g63_11 (gf_r (isT_o h_t1) rfl) ?_
      refine V_iload_n (c := cU) i63_56.1 (mM_n i63_56.2) rfl ?_
      refine V_aaload (c := cU) i63_57.1 (mM_n i63_57.2) (isT_a h_t1) (wal_at) rfl (fun hi5 => ?_)
      refine V_cvU (c := cU) (As := [.ref (t1 + 3 + 2 * x2.toNatClampNeg)]) (rest := []) i63_58.1 (mM_n i63_58.2) c63_69 rfl (cl_sh (isW_o (wal_w h_t0 hi4))) rfl rfl (Nat.le_of_ble_eq_true rfl) rfl (fun S6 => ?_)
      refine V_iinc (c := cU) i63_61.1 (mM_n i63_61.2) (l1 := [some (.ref t0), some (.ref t1), some (.int (x2 + 1))]) rfl rfl rfl ?_
      refine V_goto (c := cU) i63_64.1 (mM_n i63_64.2) rfl ?_
      exact V_msk (l1 := [some (.ref t0), some (.ref t1), some (.int (x2 + 1))]) i63_33.2 rfl rfl
theorem k_Town_become_67_eq   {S : Mem} : k_Town_become_67  S = some S := by
  show cU (mV oS X0 63 67 [none, none, none] [] S) = _
  exact V_vret i63_67.1 (mM_s i63_67.2 rfl) rfl
theorem f_Town_atGoals_eq {t0 : Nat} (h_t0 : isT t0) {S : Mem} : f_Town_atGoals t0 S = k_Town_atGoals_4 t0 0 0 S := by
  show cI (mV oS X0 64 0 [some (.ref t0), none, none] [] S) = _
  refine V_iconst (c := cI) i64_0.1 (mM_n i64_0.2) (v := 0) rfl ?_
  refine V_istore_n (c := cI) i64_1.1 (mM_n i64_1.2) (l1 := [some (.ref t0), some (.int 0), none])  (Nat.le_of_ble_eq_true rfl) rfl ?_
  refine V_iconst (c := cI) i64_2.1 (mM_n i64_2.2) (v := 0) rfl ?_
  refine V_istore_n (c := cI) i64_3.1 (mM_n i64_3.2) (l1 := [some (.ref t0), some (.int 0), some (.int 0)])  (Nat.le_of_ble_eq_true rfl) rfl ?_
  exact V_msk (l1 := [some (.ref t0), some (.int 0), some (.int 0)]) i64_4.2 rfl rfl
theorem k_Town_atGoals_4_eq {t0 : Nat} {x1 : Int32} {x2 : Int32} (h_t0 : isT t0) {S : Mem} : k_Town_atGoals_4 t0 x1 x2 S = if (S.1 t0 1) ≤ x2 then k_Town_atGoals_52 x1 S else if 5 ≤ x2 then k_Town_atGoals_52 x1 S else if inb x2 5 = true then if inb x2 5 = true then if (S.1 (t0 + 3 + 2 * x2.toNatClampNeg) 1) = (S.1 (t0 + 3 + 2 * x2.toNatClampNeg) 2) then k_Town_atGoals_44 t0 x2 1 x1 S else k_Town_atGoals_44 t0 x2 0 x1 S else none else none := by
  show cI (mV oS X0 64 4 [some (.ref t0), some (.int x1), some (.int x2)] [] S) = _
  refine V_iload_n (c := cI) i64_4.1 (mM_s i64_4.2 rfl) rfl ?_
  refine V_aload_n (c := cI) i64_5.1 (mM_n i64_5.2) rfl rfl ?_
  refine V_gf (c := cI) i64_6.1 (mM_n i64_6.2) (v := .int (S.1 t0 1)) g64_17 (gf_i (isT_o h_t0) rfl) ?_
  refine V_icmp_ge (c := cI) i64_9.1 (mM_n i64_9.2) rfl (fun _ => ?_) (fun _ => ?_)
  · exact V_msk (l1 := [none, some (.int x1), none]) i64_52.2 rfl rfl
  · refine V_iload_n (c := cI) i64_12.1 (mM_n i64_12.2) rfl ?_
    refine V_iconst (c := cI) i64_13.1 (mM_n i64_13.2) (v := 5) rfl ?_
    refine V_icmp_ge (c := cI) i64_14.1 (mM_n i64_14.2) rfl (fun _ => ?_) (fun _ => ?_)
    · exact V_msk (l1 := [none, some (.int x1), none]) i64_52.2 rfl rfl
    · refine V_iload_n (c := cI) i64_17.1 (mM_n i64_17.2) rfl ?_
      refine V_aload_n (c := cI) i64_18.1 (mM_n i64_18.2) rfl rfl ?_
      refine V_gf (c := cI) i64_19.1 (mM_n i64_19.2) (v := .ref (t0 + 1)) g64_11 (gf_r (isT_o h_t0) rfl) ?_
      refine V_iload_n (c := cI) i64_22.1 (mM_n i64_22.2) rfl ?_
      refine V_aaload (c := cI) i64_23.1 (mM_n i64_23.2) (isT_a h_t0) (wal_at) rfl (fun hi3 => ?_)
      refine V_gf (c := cI) i64_24.1 (mM_n i64_24.2) (v := .int (S.1 (t0 + 3 + 2 * x2.toNatClampNeg) 1)) g64_45 (gf_i (isW_o (wal_w h_t0 hi3)) rfl) ?_
      refine V_aload_n (c := cI) i64_27.1 (mM_n i64_27.2) rfl rfl ?_
      refine V_gf (c := cI) i64_28.1 (mM_n i64_28.2) (v := .ref (t0 + 1)) g64_11 (gf_r (isT_o h_t0) rfl) ?_
      refine V_iload_n (c := cI) i64_31.1 (mM_n i64_31.2) rfl ?_
      refine V_aaload (c := cI) i64_32.1 (mM_n i64_32.2) (isT_a h_t0) (wal_at) rfl (fun hi4 => ?_)
      refine V_gf (c := cI) i64_33.1 (mM_n i64_33.2) (v := .int (S.1 (t0 + 3 + 2 * x2.toNatClampNeg) 2)) g64_48 (gf_i (isW_o (wal_w h_t0 hi4)) rfl) ?_
      refine V_icmp_ne (c := cI) i64_36.1 (mM_n i64_36.2) rfl (fun _ => ?_) (fun _ => ?_)
      · refine V_iconst (c := cI) i64_39.1 (mM_n i64_39.2) (v := 1) rfl ?_
        refine V_goto (c := cI) i64_40.1 (mM_n i64_40.2) rfl ?_
        exact V_msk (l1 := [some (.ref t0), none, some (.int x2)]) i64_44.2 rfl rfl
      · refine V_iconst (c := cI) i64_43.1 (mM_n i64_43.2) (v := 0) rfl ?_
        exact V_msk (l1 := [some (.ref t0), none, some (.int x2)]) i64_44.2 rfl rfl
theorem k_Town_atGoals_44_eq {t0 : Nat} {x2 : Int32} {xs0 : Int32} {xs1 : Int32} (h_t0 : isT t0) {S : Mem} : k_Town_atGoals_44 t0 x2 xs0 xs1 S = k_Town_atGoals_4 t0 (xs1 + xs0) (x2 + 1) S := by
  show cI (mV oS X0 64 44 [some (.ref t0), none, some (.int x2)] [.int xs0, .int xs1] S) = _
  refine V_iadd (c := cI) i64_44.1 (mM_s i64_44.2 rfl)  ?_
  refine V_istore_n (c := cI) i64_45.1 (mM_n i64_45.2) (l1 := [some (.ref t0), some (.int (xs1 + xs0)), some (.int x2)])  (Nat.le_of_ble_eq_true rfl) rfl ?_
  refine V_iinc (c := cI) i64_46.1 (mM_n i64_46.2) (l1 := [some (.ref t0), some (.int (xs1 + xs0)), some (.int (x2 + 1))]) rfl rfl rfl ?_
  refine V_goto (c := cI) i64_49.1 (mM_n i64_49.2) rfl ?_
  exact V_msk (l1 := [some (.ref t0), some (.int (xs1 + xs0)), some (.int (x2 + 1))]) i64_4.2 rfl rfl
theorem k_Town_atGoals_52_eq {x1 : Int32}  {S : Mem} : k_Town_atGoals_52 x1 S = some (x1, S) := by
  show cI (mV oS X0 64 52 [none, some (.int x1), none] [] S) = _
  refine V_iload_n (c := cI) i64_52.1 (mM_s i64_52.2 rfl) rfl ?_
  exact V_iret i64_53.1 (mM_n i64_53.2) rfl
