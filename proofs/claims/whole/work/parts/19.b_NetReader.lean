/-! blocks of NetReader: printed by a program -/
theorem i32_0 : decode (mCd 32) 0 = .ok (.aload_n 0, 1) ∧ lk (mMsk 32) 0 = none := by decide +kernel
theorem i32_1 : decode (mCd 32) 1 = .ok (.iconst 0, 1) ∧ lk (mMsk 32) 1 = none := by decide +kernel
theorem i32_2 : decode (mCd 32) 2 = .ok (.putfield 22, 3) ∧ lk (mMsk 32) 2 = none := by decide +kernel
theorem p32_22 : pOk 32 22 3 3 = true := by decide +kernel
theorem i32_5 : decode (mCd 32) 5 = .ok (.aload_n 0, 1) ∧ lk (mMsk 32) 5 = none := by decide +kernel
theorem i32_6 : decode (mCd 32) 6 = .ok (.iconst 0, 1) ∧ lk (mMsk 32) 6 = none := by decide +kernel
theorem i32_7 : decode (mCd 32) 7 = .ok (.putfield 26, 3) ∧ lk (mMsk 32) 7 = none := by decide +kernel
theorem p32_26 : pOk 32 26 3 4 = true := by decide +kernel
theorem i32_10 : decode (mCd 32) 10 = .ok (.aload_n 0, 1) ∧ lk (mMsk 32) 10 = none := by decide +kernel
theorem i32_11 : decode (mCd 32) 11 = .ok (.iconst 0, 1) ∧ lk (mMsk 32) 11 = none := by decide +kernel
theorem i32_12 : decode (mCd 32) 12 = .ok (.putfield 30, 3) ∧ lk (mMsk 32) 12 = none := by decide +kernel
theorem p32_30 : pOk 32 30 3 5 = true := by decide +kernel
theorem i32_15 : decode (mCd 32) 15 = .ok (.aload_n 0, 1) ∧ lk (mMsk 32) 15 = none := by decide +kernel
theorem i32_16 : decode (mCd 32) 16 = .ok (.iconst 0, 1) ∧ lk (mMsk 32) 16 = none := by decide +kernel
theorem i32_17 : decode (mCd 32) 17 = .ok (.putfield 33, 3) ∧ lk (mMsk 32) 17 = none := by decide +kernel
theorem p32_33 : pOk 32 33 3 6 = true := by decide +kernel
theorem i32_20 : decode (mCd 32) 20 = .ok (.aload_n 0, 1) ∧ lk (mMsk 32) 20 = none := by decide +kernel
theorem i32_21 : decode (mCd 32) 21 = .ok (.lconst 0, 1) ∧ lk (mMsk 32) 21 = none := by decide +kernel
theorem i32_22 : decode (mCd 32) 22 = .ok (.putfield 36, 3) ∧ lk (mMsk 32) 22 = none := by decide +kernel
theorem p32_36 : pOk 32 36 3 7 = true := by decide +kernel
theorem i32_25 : decode (mCd 32) 25 = .ok (.iconst 0, 1) ∧ lk (mMsk 32) 25 = none := by decide +kernel
theorem i32_26 : decode (mCd 32) 26 = .ok (.istore_n 2, 1) ∧ lk (mMsk 32) 26 = none := by decide +kernel
theorem i32_27 : decode (mCd 32) 27 = .ok (.iload_n 2, 1) ∧ lk (mMsk 32) 27 = some [true, true, true] := by decide +kernel
theorem i32_28 : decode (mCd 32) 28 = .ok (.aload_n 1, 1) ∧ lk (mMsk 32) 28 = none := by decide +kernel
theorem i32_29 : decode (mCd 32) 29 = .ok (.getfield 40, 3) ∧ lk (mMsk 32) 29 = none := by decide +kernel
theorem g32_40 : fOk 32 40 4 1 = true := by decide +kernel
theorem i32_32 : decode (mCd 32) 32 = .ok (.if_icmp .ge 21, 3) ∧ lk (mMsk 32) 32 = none := by decide +kernel
theorem i32_53 : decode (mCd 32) 53 = .ok (.iload_n 2, 1) ∧ lk (mMsk 32) 53 = some [false, false, true] := by decide +kernel
theorem i32_35 : decode (mCd 32) 35 = .ok (.aload_n 0, 1) ∧ lk (mMsk 32) 35 = none := by decide +kernel
theorem i32_36 : decode (mCd 32) 36 = .ok (.aload_n 1, 1) ∧ lk (mMsk 32) 36 = none := by decide +kernel
theorem i32_37 : decode (mCd 32) 37 = .ok (.iload_n 2, 1) ∧ lk (mMsk 32) 37 = none := by decide +kernel
theorem i32_38 : decode (mCd 32) 38 = .ok (.invokevirtual 45, 3) ∧ lk (mMsk 32) 38 = none := by decide +kernel
theorem c32_45 : cvOk 32 45 44 1 0 = true := by decide +kernel
theorem i32_41 : decode (mCd 32) 41 = .ok (.invokevirtual 49, 3) ∧ lk (mMsk 32) 41 = none := by decide +kernel
theorem c32_49 : cvOk 32 49 34 1 0 = true := by decide +kernel
theorem i32_44 : decode (mCd 32) 44 = .ok (.ifCond .eq 9, 3) ∧ lk (mMsk 32) 44 = none := by decide +kernel
theorem i32_47 : decode (mCd 32) 47 = .ok (.iinc 2 1, 3) ∧ lk (mMsk 32) 47 = none := by decide +kernel
theorem i32_50 : decode (mCd 32) 50 = .ok (.goto (-23), 3) ∧ lk (mMsk 32) 50 = none := by decide +kernel
theorem i32_54 : decode (mCd 32) 54 = .ok (.ireturn, 1) ∧ lk (mMsk 32) 54 = none := by decide +kernel
theorem i33_0 : decode (mCd 33) 0 = .ok (.aload_n 0, 1) ∧ lk (mMsk 33) 0 = none := by decide +kernel
theorem i33_1 : decode (mCd 33) 1 = .ok (.getfield 33, 3) ∧ lk (mMsk 33) 1 = none := by decide +kernel
theorem g33_33 : fOk 33 33 3 6 = true := by decide +kernel
theorem i33_4 : decode (mCd 33) 4 = .ok (.iconst 2, 1) ∧ lk (mMsk 33) 4 = none := by decide +kernel
theorem i33_5 : decode (mCd 33) 5 = .ok (.if_icmp .eq 28, 3) ∧ lk (mMsk 33) 5 = none := by decide +kernel
theorem i33_33 : decode (mCd 33) 33 = .ok (.iconst 1, 1) ∧ lk (mMsk 33) 33 = some [false] := by decide +kernel
theorem i33_8 : decode (mCd 33) 8 = .ok (.aload_n 0, 1) ∧ lk (mMsk 33) 8 = none := by decide +kernel
theorem i33_9 : decode (mCd 33) 9 = .ok (.getfield 33, 3) ∧ lk (mMsk 33) 9 = none := by decide +kernel
theorem i33_12 : decode (mCd 33) 12 = .ok (.iconst 3, 1) ∧ lk (mMsk 33) 12 = none := by decide +kernel
theorem i33_13 : decode (mCd 33) 13 = .ok (.if_icmp .eq 20, 3) ∧ lk (mMsk 33) 13 = none := by decide +kernel
theorem i33_16 : decode (mCd 33) 16 = .ok (.aload_n 0, 1) ∧ lk (mMsk 33) 16 = none := by decide +kernel
theorem i33_17 : decode (mCd 33) 17 = .ok (.getfield 33, 3) ∧ lk (mMsk 33) 17 = none := by decide +kernel
theorem i33_20 : decode (mCd 33) 20 = .ok (.iconst 5, 1) ∧ lk (mMsk 33) 20 = none := by decide +kernel
theorem i33_21 : decode (mCd 33) 21 = .ok (.if_icmp .eq 12, 3) ∧ lk (mMsk 33) 21 = none := by decide +kernel
theorem i33_24 : decode (mCd 33) 24 = .ok (.aload_n 0, 1) ∧ lk (mMsk 33) 24 = none := by decide +kernel
theorem i33_25 : decode (mCd 33) 25 = .ok (.getfield 33, 3) ∧ lk (mMsk 33) 25 = none := by decide +kernel
theorem i33_28 : decode (mCd 33) 28 = .ok (.bipush 6, 2) ∧ lk (mMsk 33) 28 = none := by decide +kernel
theorem i33_30 : decode (mCd 33) 30 = .ok (.if_icmp .ne 7, 3) ∧ lk (mMsk 33) 30 = none := by decide +kernel
theorem i33_37 : decode (mCd 33) 37 = .ok (.iconst 0, 1) ∧ lk (mMsk 33) 37 = none := by decide +kernel
theorem i33_38 : decode (mCd 33) 38 = .ok (.ireturn, 1) ∧ lk (mMsk 33) 38 = some [false] := by decide +kernel
theorem i33_34 : decode (mCd 33) 34 = .ok (.goto 4, 3) ∧ lk (mMsk 33) 34 = none := by decide +kernel
theorem i34_0 : decode (mCd 34) 0 = .ok (.aload_n 0, 1) ∧ lk (mMsk 34) 0 = none := by decide +kernel
theorem i34_1 : decode (mCd 34) 1 = .ok (.getfield 33, 3) ∧ lk (mMsk 34) 1 = none := by decide +kernel
theorem g34_33 : fOk 34 33 3 6 = true := by decide +kernel
theorem i34_4 : decode (mCd 34) 4 = .ok (.tableswitch 128 0 5 #[40, 46, 52, 71, 77, 109], 40) ∧ lk (mMsk 34) 4 = none := by decide +kernel
theorem i34_44 : decode (mCd 34) 44 = .ok (.aload_n 0, 1) ∧ lk (mMsk 34) 44 = none := by decide +kernel
theorem i34_45 : decode (mCd 34) 45 = .ok (.iload_n 1, 1) ∧ lk (mMsk 34) 45 = none := by decide +kernel
theorem i34_46 : decode (mCd 34) 46 = .ok (.invokevirtual 53, 3) ∧ lk (mMsk 34) 46 = none := by decide +kernel
theorem c34_53 : cvOk 34 53 35 1 0 = true := by decide +kernel
theorem i34_49 : decode (mCd 34) 49 = .ok (.ireturn, 1) ∧ lk (mMsk 34) 49 = none := by decide +kernel
theorem i34_50 : decode (mCd 34) 50 = .ok (.aload_n 0, 1) ∧ lk (mMsk 34) 50 = none := by decide +kernel
theorem i34_51 : decode (mCd 34) 51 = .ok (.iload_n 1, 1) ∧ lk (mMsk 34) 51 = none := by decide +kernel
theorem i34_52 : decode (mCd 34) 52 = .ok (.invokevirtual 56, 3) ∧ lk (mMsk 34) 52 = none := by decide +kernel
theorem c34_56 : cvOk 34 56 36 1 0 = true := by decide +kernel
theorem i34_55 : decode (mCd 34) 55 = .ok (.ireturn, 1) ∧ lk (mMsk 34) 55 = none := by decide +kernel
theorem i34_56 : decode (mCd 34) 56 = .ok (.iload_n 1, 1) ∧ lk (mMsk 34) 56 = none := by decide +kernel
theorem i34_57 : decode (mCd 34) 57 = .ok (.bipush 61, 2) ∧ lk (mMsk 34) 57 = none := by decide +kernel
theorem i34_59 : decode (mCd 34) 59 = .ok (.if_icmp .ne 10, 3) ∧ lk (mMsk 34) 59 = none := by decide +kernel
theorem i34_62 : decode (mCd 34) 62 = .ok (.aload_n 0, 1) ∧ lk (mMsk 34) 62 = none := by decide +kernel
theorem i34_63 : decode (mCd 34) 63 = .ok (.invokevirtual 59, 3) ∧ lk (mMsk 34) 63 = none := by decide +kernel
theorem c34_59 : cvOk 34 59 37 0 0 = true := by decide +kernel
theorem i34_66 : decode (mCd 34) 66 = .ok (.goto 8, 3) ∧ lk (mMsk 34) 66 = none := by decide +kernel
theorem i34_74 : decode (mCd 34) 74 = .ok (.ireturn, 1) ∧ lk (mMsk 34) 74 = some [false, false] := by decide +kernel
theorem i34_69 : decode (mCd 34) 69 = .ok (.aload_n 0, 1) ∧ lk (mMsk 34) 69 = none := by decide +kernel
theorem i34_70 : decode (mCd 34) 70 = .ok (.iload_n 1, 1) ∧ lk (mMsk 34) 70 = none := by decide +kernel
theorem i34_71 : decode (mCd 34) 71 = .ok (.invokevirtual 63, 3) ∧ lk (mMsk 34) 71 = none := by decide +kernel
theorem c34_63 : cvOk 34 63 38 1 0 = true := by decide +kernel
theorem i34_75 : decode (mCd 34) 75 = .ok (.aload_n 0, 1) ∧ lk (mMsk 34) 75 = none := by decide +kernel
theorem i34_76 : decode (mCd 34) 76 = .ok (.iload_n 1, 1) ∧ lk (mMsk 34) 76 = none := by decide +kernel
theorem i34_77 : decode (mCd 34) 77 = .ok (.invokevirtual 63, 3) ∧ lk (mMsk 34) 77 = none := by decide +kernel
theorem i34_80 : decode (mCd 34) 80 = .ok (.ireturn, 1) ∧ lk (mMsk 34) 80 = none := by decide +kernel
theorem i34_81 : decode (mCd 34) 81 = .ok (.iload_n 1, 1) ∧ lk (mMsk 34) 81 = none := by decide +kernel
theorem i34_82 : decode (mCd 34) 82 = .ok (.bipush 100, 2) ∧ lk (mMsk 34) 82 = none := by decide +kernel
theorem i34_84 : decode (mCd 34) 84 = .ok (.if_icmp .ne 10, 3) ∧ lk (mMsk 34) 84 = none := by decide +kernel
theorem i34_87 : decode (mCd 34) 87 = .ok (.aload_n 0, 1) ∧ lk (mMsk 34) 87 = none := by decide +kernel
theorem i34_88 : decode (mCd 34) 88 = .ok (.invokevirtual 66, 3) ∧ lk (mMsk 34) 88 = none := by decide +kernel
theorem c34_66 : cvOk 34 66 39 0 0 = true := by decide +kernel
theorem i34_91 : decode (mCd 34) 91 = .ok (.goto 21, 3) ∧ lk (mMsk 34) 91 = none := by decide +kernel
theorem i34_112 : decode (mCd 34) 112 = .ok (.ireturn, 1) ∧ lk (mMsk 34) 112 = some [false, false] := by decide +kernel
theorem i34_94 : decode (mCd 34) 94 = .ok (.iload_n 1, 1) ∧ lk (mMsk 34) 94 = none := by decide +kernel
theorem i34_95 : decode (mCd 34) 95 = .ok (.bipush 119, 2) ∧ lk (mMsk 34) 95 = none := by decide +kernel
theorem i34_97 : decode (mCd 34) 97 = .ok (.if_icmp .ne 14, 3) ∧ lk (mMsk 34) 97 = none := by decide +kernel
theorem i34_100 : decode (mCd 34) 100 = .ok (.aload_n 0, 1) ∧ lk (mMsk 34) 100 = none := by decide +kernel
theorem i34_101 : decode (mCd 34) 101 = .ok (.invokevirtual 69, 3) ∧ lk (mMsk 34) 101 = none := by decide +kernel
theorem c34_69 : cvOk 34 69 40 0 0 = true := by decide +kernel
theorem i34_104 : decode (mCd 34) 104 = .ok (.ifCond .eq 7, 3) ∧ lk (mMsk 34) 104 = none := by decide +kernel
theorem i34_111 : decode (mCd 34) 111 = .ok (.iconst 0, 1) ∧ lk (mMsk 34) 111 = some [false, false] := by decide +kernel
theorem i34_107 : decode (mCd 34) 107 = .ok (.iconst 1, 1) ∧ lk (mMsk 34) 107 = none := by decide +kernel
theorem i34_108 : decode (mCd 34) 108 = .ok (.goto 4, 3) ∧ lk (mMsk 34) 108 = none := by decide +kernel
theorem i34_113 : decode (mCd 34) 113 = .ok (.iload_n 1, 1) ∧ lk (mMsk 34) 113 = none := by decide +kernel
theorem i34_114 : decode (mCd 34) 114 = .ok (.bipush 119, 2) ∧ lk (mMsk 34) 114 = none := by decide +kernel
theorem i34_116 : decode (mCd 34) 116 = .ok (.if_icmp .ne 14, 3) ∧ lk (mMsk 34) 116 = none := by decide +kernel
theorem i34_119 : decode (mCd 34) 119 = .ok (.aload_n 0, 1) ∧ lk (mMsk 34) 119 = none := by decide +kernel
theorem i34_120 : decode (mCd 34) 120 = .ok (.invokevirtual 69, 3) ∧ lk (mMsk 34) 120 = none := by decide +kernel
theorem i34_123 : decode (mCd 34) 123 = .ok (.ifCond .eq 7, 3) ∧ lk (mMsk 34) 123 = none := by decide +kernel
theorem i34_130 : decode (mCd 34) 130 = .ok (.iconst 0, 1) ∧ lk (mMsk 34) 130 = some [false, false] := by decide +kernel
theorem i34_126 : decode (mCd 34) 126 = .ok (.iconst 1, 1) ∧ lk (mMsk 34) 126 = none := by decide +kernel
theorem i34_127 : decode (mCd 34) 127 = .ok (.goto 4, 3) ∧ lk (mMsk 34) 127 = none := by decide +kernel
theorem i34_131 : decode (mCd 34) 131 = .ok (.ireturn, 1) ∧ lk (mMsk 34) 131 = some [false, false] := by decide +kernel
theorem i34_132 : decode (mCd 34) 132 = .ok (.iconst 0, 1) ∧ lk (mMsk 34) 132 = none := by decide +kernel
theorem i34_133 : decode (mCd 34) 133 = .ok (.ireturn, 1) ∧ lk (mMsk 34) 133 = none := by decide +kernel
theorem i35_0 : decode (mCd 35) 0 = .ok (.iload_n 1, 1) ∧ lk (mMsk 35) 0 = none := by decide +kernel
theorem i35_1 : decode (mCd 35) 1 = .ok (.invokestatic 72, 3) ∧ lk (mMsk 35) 1 = none := by decide +kernel
theorem c35_72 : ciOk 35 72 46 1 0 = true := by decide +kernel
theorem i35_4 : decode (mCd 35) 4 = .ok (.ifCond .eq 12, 3) ∧ lk (mMsk 35) 4 = none := by decide +kernel
theorem i35_16 : decode (mCd 35) 16 = .ok (.iconst 0, 1) ∧ lk (mMsk 35) 16 = some [false, false] := by decide +kernel
theorem i35_7 : decode (mCd 35) 7 = .ok (.aload_n 0, 1) ∧ lk (mMsk 35) 7 = none := by decide +kernel
theorem i35_8 : decode (mCd 35) 8 = .ok (.getfield 22, 3) ∧ lk (mMsk 35) 8 = none := by decide +kernel
theorem g35_22 : fOk 35 22 3 3 = true := by decide +kernel
theorem i35_11 : decode (mCd 35) 11 = .ok (.bipush 12, 2) ∧ lk (mMsk 35) 11 = none := by decide +kernel
theorem i35_13 : decode (mCd 35) 13 = .ok (.if_icmp .lt 5, 3) ∧ lk (mMsk 35) 13 = none := by decide +kernel
theorem i35_18 : decode (mCd 35) 18 = .ok (.aload_n 0, 1) ∧ lk (mMsk 35) 18 = none := by decide +kernel
theorem i35_19 : decode (mCd 35) 19 = .ok (.getfield 9, 3) ∧ lk (mMsk 35) 19 = none := by decide +kernel
theorem g35_9 : fOk 35 9 3 0 = true := by decide +kernel
theorem i35_22 : decode (mCd 35) 22 = .ok (.aload_n 0, 1) ∧ lk (mMsk 35) 22 = none := by decide +kernel
theorem i35_23 : decode (mCd 35) 23 = .ok (.getfield 22, 3) ∧ lk (mMsk 35) 23 = none := by decide +kernel
theorem i35_26 : decode (mCd 35) 26 = .ok (.iload_n 1, 1) ∧ lk (mMsk 35) 26 = none := by decide +kernel
theorem i35_27 : decode (mCd 35) 27 = .ok (.bipush 48, 2) ∧ lk (mMsk 35) 27 = none := by decide +kernel
theorem i35_29 : decode (mCd 35) 29 = .ok (.isub, 1) ∧ lk (mMsk 35) 29 = none := by decide +kernel
theorem i35_30 : decode (mCd 35) 30 = .ok (.iastore, 1) ∧ lk (mMsk 35) 30 = none := by decide +kernel
theorem i35_31 : decode (mCd 35) 31 = .ok (.aload_n 0, 1) ∧ lk (mMsk 35) 31 = none := by decide +kernel
theorem i35_32 : decode (mCd 35) 32 = .ok (.iconst 1, 1) ∧ lk (mMsk 35) 32 = none := by decide +kernel
theorem i35_33 : decode (mCd 35) 33 = .ok (.putfield 33, 3) ∧ lk (mMsk 35) 33 = none := by decide +kernel
theorem p35_33 : pOk 35 33 3 6 = true := by decide +kernel
theorem i35_36 : decode (mCd 35) 36 = .ok (.iconst 1, 1) ∧ lk (mMsk 35) 36 = none := by decide +kernel
theorem i35_37 : decode (mCd 35) 37 = .ok (.ireturn, 1) ∧ lk (mMsk 35) 37 = none := by decide +kernel
theorem i35_17 : decode (mCd 35) 17 = .ok (.ireturn, 1) ∧ lk (mMsk 35) 17 = none := by decide +kernel
theorem i36_0 : decode (mCd 36) 0 = .ok (.iload_n 1, 1) ∧ lk (mMsk 36) 0 = none := by decide +kernel
theorem i36_1 : decode (mCd 36) 1 = .ok (.invokestatic 72, 3) ∧ lk (mMsk 36) 1 = none := by decide +kernel
theorem c36_72 : ciOk 36 72 46 1 0 = true := by decide +kernel
theorem i36_4 : decode (mCd 36) 4 = .ok (.ifCond .eq 12, 3) ∧ lk (mMsk 36) 4 = none := by decide +kernel
theorem i36_16 : decode (mCd 36) 16 = .ok (.iconst 0, 1) ∧ lk (mMsk 36) 16 = some [false, false, false, false] := by decide +kernel
theorem i36_7 : decode (mCd 36) 7 = .ok (.aload_n 0, 1) ∧ lk (mMsk 36) 7 = none := by decide +kernel
theorem i36_8 : decode (mCd 36) 8 = .ok (.getfield 22, 3) ∧ lk (mMsk 36) 8 = none := by decide +kernel
theorem g36_22 : fOk 36 22 3 3 = true := by decide +kernel
theorem i36_11 : decode (mCd 36) 11 = .ok (.bipush 12, 2) ∧ lk (mMsk 36) 11 = none := by decide +kernel
theorem i36_13 : decode (mCd 36) 13 = .ok (.if_icmp .lt 5, 3) ∧ lk (mMsk 36) 13 = none := by decide +kernel
theorem i36_18 : decode (mCd 36) 18 = .ok (.aload_n 0, 1) ∧ lk (mMsk 36) 18 = none := by decide +kernel
theorem i36_19 : decode (mCd 36) 19 = .ok (.getfield 9, 3) ∧ lk (mMsk 36) 19 = none := by decide +kernel
theorem g36_9 : fOk 36 9 3 0 = true := by decide +kernel
theorem i36_22 : decode (mCd 36) 22 = .ok (.aload_n 0, 1) ∧ lk (mMsk 36) 22 = none := by decide +kernel
theorem i36_23 : decode (mCd 36) 23 = .ok (.getfield 22, 3) ∧ lk (mMsk 36) 23 = none := by decide +kernel
theorem i36_26 : decode (mCd 36) 26 = .ok (.iaload, 1) ∧ lk (mMsk 36) 26 = none := by decide +kernel
theorem i36_27 : decode (mCd 36) 27 = .ok (.istore_n 2, 1) ∧ lk (mMsk 36) 27 = none := by decide +kernel
theorem i36_28 : decode (mCd 36) 28 = .ok (.iload_n 1, 1) ∧ lk (mMsk 36) 28 = none := by decide +kernel
theorem i36_29 : decode (mCd 36) 29 = .ok (.bipush 48, 2) ∧ lk (mMsk 36) 29 = none := by decide +kernel
theorem i36_31 : decode (mCd 36) 31 = .ok (.isub, 1) ∧ lk (mMsk 36) 31 = none := by decide +kernel
theorem i36_32 : decode (mCd 36) 32 = .ok (.istore_n 3, 1) ∧ lk (mMsk 36) 32 = none := by decide +kernel
theorem i36_33 : decode (mCd 36) 33 = .ok (.iload_n 2, 1) ∧ lk (mMsk 36) 33 = none := by decide +kernel
theorem i36_34 : decode (mCd 36) 34 = .ok (.iload_n 3, 1) ∧ lk (mMsk 36) 34 = none := by decide +kernel
theorem i36_35 : decode (mCd 36) 35 = .ok (.if_icmp .eq 21, 3) ∧ lk (mMsk 36) 35 = none := by decide +kernel
theorem i36_56 : decode (mCd 36) 56 = .ok (.iconst 0, 1) ∧ lk (mMsk 36) 56 = some [false, false, false, false] := by decide +kernel
theorem i36_38 : decode (mCd 36) 38 = .ok (.aload_n 0, 1) ∧ lk (mMsk 36) 38 = none := by decide +kernel
theorem i36_39 : decode (mCd 36) 39 = .ok (.getfield 36, 3) ∧ lk (mMsk 36) 39 = none := by decide +kernel
theorem g36_36 : fOk 36 36 3 7 = true := by decide +kernel
theorem i36_42 : decode (mCd 36) 42 = .ok (.bipush 8, 2) ∧ lk (mMsk 36) 42 = none := by decide +kernel
theorem i36_44 : decode (mCd 36) 44 = .ok (.iload_n 2, 1) ∧ lk (mMsk 36) 44 = none := by decide +kernel
theorem i36_45 : decode (mCd 36) 45 = .ok (.imul, 1) ∧ lk (mMsk 36) 45 = none := by decide +kernel
theorem i36_46 : decode (mCd 36) 46 = .ok (.iload_n 3, 1) ∧ lk (mMsk 36) 46 = none := by decide +kernel
theorem i36_47 : decode (mCd 36) 47 = .ok (.iadd, 1) ∧ lk (mMsk 36) 47 = none := by decide +kernel
theorem i36_48 : decode (mCd 36) 48 = .ok (.lushr, 1) ∧ lk (mMsk 36) 48 = none := by decide +kernel
theorem i36_49 : decode (mCd 36) 49 = .ok (.lconst 1, 1) ∧ lk (mMsk 36) 49 = none := by decide +kernel
theorem i36_50 : decode (mCd 36) 50 = .ok (.land, 1) ∧ lk (mMsk 36) 50 = none := by decide +kernel
theorem i36_51 : decode (mCd 36) 51 = .ok (.lconst 1, 1) ∧ lk (mMsk 36) 51 = none := by decide +kernel
theorem i36_52 : decode (mCd 36) 52 = .ok (.lcmp, 1) ∧ lk (mMsk 36) 52 = none := by decide +kernel
theorem i36_53 : decode (mCd 36) 53 = .ok (.ifCond .ne 5, 3) ∧ lk (mMsk 36) 53 = none := by decide +kernel
theorem i36_58 : decode (mCd 36) 58 = .ok (.aload_n 0, 1) ∧ lk (mMsk 36) 58 = none := by decide +kernel
theorem i36_59 : decode (mCd 36) 59 = .ok (.dup, 1) ∧ lk (mMsk 36) 59 = none := by decide +kernel
theorem i36_60 : decode (mCd 36) 60 = .ok (.getfield 36, 3) ∧ lk (mMsk 36) 60 = none := by decide +kernel
theorem i36_63 : decode (mCd 36) 63 = .ok (.lconst 1, 1) ∧ lk (mMsk 36) 63 = none := by decide +kernel
theorem i36_64 : decode (mCd 36) 64 = .ok (.bipush 8, 2) ∧ lk (mMsk 36) 64 = none := by decide +kernel
theorem i36_66 : decode (mCd 36) 66 = .ok (.iload_n 2, 1) ∧ lk (mMsk 36) 66 = none := by decide +kernel
theorem i36_67 : decode (mCd 36) 67 = .ok (.imul, 1) ∧ lk (mMsk 36) 67 = none := by decide +kernel
theorem i36_68 : decode (mCd 36) 68 = .ok (.iload_n 3, 1) ∧ lk (mMsk 36) 68 = none := by decide +kernel
theorem i36_69 : decode (mCd 36) 69 = .ok (.iadd, 1) ∧ lk (mMsk 36) 69 = none := by decide +kernel
theorem i36_70 : decode (mCd 36) 70 = .ok (.lshl, 1) ∧ lk (mMsk 36) 70 = none := by decide +kernel
theorem i36_71 : decode (mCd 36) 71 = .ok (.lconst 1, 1) ∧ lk (mMsk 36) 71 = none := by decide +kernel
theorem i36_72 : decode (mCd 36) 72 = .ok (.bipush 8, 2) ∧ lk (mMsk 36) 72 = none := by decide +kernel
theorem i36_74 : decode (mCd 36) 74 = .ok (.iload_n 3, 1) ∧ lk (mMsk 36) 74 = none := by decide +kernel
theorem i36_75 : decode (mCd 36) 75 = .ok (.imul, 1) ∧ lk (mMsk 36) 75 = none := by decide +kernel
theorem i36_76 : decode (mCd 36) 76 = .ok (.iload_n 2, 1) ∧ lk (mMsk 36) 76 = none := by decide +kernel
theorem i36_77 : decode (mCd 36) 77 = .ok (.iadd, 1) ∧ lk (mMsk 36) 77 = none := by decide +kernel
theorem i36_78 : decode (mCd 36) 78 = .ok (.lshl, 1) ∧ lk (mMsk 36) 78 = none := by decide +kernel
theorem i36_79 : decode (mCd 36) 79 = .ok (.lor, 1) ∧ lk (mMsk 36) 79 = none := by decide +kernel
theorem i36_80 : decode (mCd 36) 80 = .ok (.lor, 1) ∧ lk (mMsk 36) 80 = none := by decide +kernel
theorem i36_81 : decode (mCd 36) 81 = .ok (.putfield 36, 3) ∧ lk (mMsk 36) 81 = none := by decide +kernel
theorem p36_36 : pOk 36 36 3 7 = true := by decide +kernel
theorem i36_84 : decode (mCd 36) 84 = .ok (.aload_n 0, 1) ∧ lk (mMsk 36) 84 = none := by decide +kernel
theorem i36_85 : decode (mCd 36) 85 = .ok (.getfield 15, 3) ∧ lk (mMsk 36) 85 = none := by decide +kernel
theorem g36_15 : fOk 36 15 3 1 = true := by decide +kernel
theorem i36_88 : decode (mCd 36) 88 = .ok (.aload_n 0, 1) ∧ lk (mMsk 36) 88 = none := by decide +kernel
theorem i36_89 : decode (mCd 36) 89 = .ok (.getfield 22, 3) ∧ lk (mMsk 36) 89 = none := by decide +kernel
theorem i36_92 : decode (mCd 36) 92 = .ok (.iload_n 3, 1) ∧ lk (mMsk 36) 92 = none := by decide +kernel
theorem i36_93 : decode (mCd 36) 93 = .ok (.iastore, 1) ∧ lk (mMsk 36) 93 = none := by decide +kernel
theorem i36_94 : decode (mCd 36) 94 = .ok (.aload_n 0, 1) ∧ lk (mMsk 36) 94 = none := by decide +kernel
theorem i36_95 : decode (mCd 36) 95 = .ok (.getfield 18, 3) ∧ lk (mMsk 36) 95 = none := by decide +kernel
theorem g36_18 : fOk 36 18 3 2 = true := by decide +kernel
theorem i36_98 : decode (mCd 36) 98 = .ok (.aload_n 0, 1) ∧ lk (mMsk 36) 98 = none := by decide +kernel
theorem i36_99 : decode (mCd 36) 99 = .ok (.getfield 22, 3) ∧ lk (mMsk 36) 99 = none := by decide +kernel
theorem i36_102 : decode (mCd 36) 102 = .ok (.iconst 0, 1) ∧ lk (mMsk 36) 102 = none := by decide +kernel
theorem i36_103 : decode (mCd 36) 103 = .ok (.bastore, 1) ∧ lk (mMsk 36) 103 = none := by decide +kernel
theorem i36_104 : decode (mCd 36) 104 = .ok (.aload_n 0, 1) ∧ lk (mMsk 36) 104 = none := by decide +kernel
theorem i36_105 : decode (mCd 36) 105 = .ok (.dup, 1) ∧ lk (mMsk 36) 105 = none := by decide +kernel
theorem i36_106 : decode (mCd 36) 106 = .ok (.getfield 22, 3) ∧ lk (mMsk 36) 106 = none := by decide +kernel
theorem i36_109 : decode (mCd 36) 109 = .ok (.iconst 1, 1) ∧ lk (mMsk 36) 109 = none := by decide +kernel
theorem i36_110 : decode (mCd 36) 110 = .ok (.iadd, 1) ∧ lk (mMsk 36) 110 = none := by decide +kernel
theorem i36_111 : decode (mCd 36) 111 = .ok (.putfield 22, 3) ∧ lk (mMsk 36) 111 = none := by decide +kernel
theorem p36_22 : pOk 36 22 3 3 = true := by decide +kernel
theorem i36_114 : decode (mCd 36) 114 = .ok (.aload_n 0, 1) ∧ lk (mMsk 36) 114 = none := by decide +kernel
theorem i36_115 : decode (mCd 36) 115 = .ok (.iconst 2, 1) ∧ lk (mMsk 36) 115 = none := by decide +kernel
theorem i36_116 : decode (mCd 36) 116 = .ok (.putfield 33, 3) ∧ lk (mMsk 36) 116 = none := by decide +kernel
theorem p36_33 : pOk 36 33 3 6 = true := by decide +kernel
theorem i36_119 : decode (mCd 36) 119 = .ok (.iconst 1, 1) ∧ lk (mMsk 36) 119 = none := by decide +kernel
theorem i36_120 : decode (mCd 36) 120 = .ok (.ireturn, 1) ∧ lk (mMsk 36) 120 = none := by decide +kernel
theorem i36_57 : decode (mCd 36) 57 = .ok (.ireturn, 1) ∧ lk (mMsk 36) 57 = none := by decide +kernel
theorem i36_17 : decode (mCd 36) 17 = .ok (.ireturn, 1) ∧ lk (mMsk 36) 17 = none := by decide +kernel
theorem i37_0 : decode (mCd 37) 0 = .ok (.aload_n 0, 1) ∧ lk (mMsk 37) 0 = none := by decide +kernel
theorem i37_1 : decode (mCd 37) 1 = .ok (.getfield 22, 3) ∧ lk (mMsk 37) 1 = none := by decide +kernel
theorem g37_22 : fOk 37 22 3 3 = true := by decide +kernel
theorem i37_4 : decode (mCd 37) 4 = .ok (.iconst 1, 1) ∧ lk (mMsk 37) 4 = none := by decide +kernel
theorem i37_5 : decode (mCd 37) 5 = .ok (.if_icmp .ge 5, 3) ∧ lk (mMsk 37) 5 = none := by decide +kernel
theorem i37_10 : decode (mCd 37) 10 = .ok (.aload_n 0, 1) ∧ lk (mMsk 37) 10 = none := by decide +kernel
theorem i37_11 : decode (mCd 37) 11 = .ok (.getfield 18, 3) ∧ lk (mMsk 37) 11 = none := by decide +kernel
theorem g37_18 : fOk 37 18 3 2 = true := by decide +kernel
theorem i37_14 : decode (mCd 37) 14 = .ok (.aload_n 0, 1) ∧ lk (mMsk 37) 14 = none := by decide +kernel
theorem i37_15 : decode (mCd 37) 15 = .ok (.getfield 22, 3) ∧ lk (mMsk 37) 15 = none := by decide +kernel
theorem i37_18 : decode (mCd 37) 18 = .ok (.iconst 1, 1) ∧ lk (mMsk 37) 18 = none := by decide +kernel
theorem i37_19 : decode (mCd 37) 19 = .ok (.isub, 1) ∧ lk (mMsk 37) 19 = none := by decide +kernel
theorem i37_20 : decode (mCd 37) 20 = .ok (.iconst 1, 1) ∧ lk (mMsk 37) 20 = none := by decide +kernel
theorem i37_21 : decode (mCd 37) 21 = .ok (.bastore, 1) ∧ lk (mMsk 37) 21 = none := by decide +kernel
theorem i37_22 : decode (mCd 37) 22 = .ok (.aload_n 0, 1) ∧ lk (mMsk 37) 22 = none := by decide +kernel
theorem i37_23 : decode (mCd 37) 23 = .ok (.iconst 3, 1) ∧ lk (mMsk 37) 23 = none := by decide +kernel
theorem i37_24 : decode (mCd 37) 24 = .ok (.putfield 33, 3) ∧ lk (mMsk 37) 24 = none := by decide +kernel
theorem p37_33 : pOk 37 33 3 6 = true := by decide +kernel
theorem i37_27 : decode (mCd 37) 27 = .ok (.iconst 1, 1) ∧ lk (mMsk 37) 27 = none := by decide +kernel
theorem i37_28 : decode (mCd 37) 28 = .ok (.ireturn, 1) ∧ lk (mMsk 37) 28 = none := by decide +kernel
theorem i37_8 : decode (mCd 37) 8 = .ok (.iconst 0, 1) ∧ lk (mMsk 37) 8 = none := by decide +kernel
theorem i37_9 : decode (mCd 37) 9 = .ok (.ireturn, 1) ∧ lk (mMsk 37) 9 = none := by decide +kernel
theorem i38_0 : decode (mCd 38) 0 = .ok (.iload_n 1, 1) ∧ lk (mMsk 38) 0 = none := by decide +kernel
theorem i38_1 : decode (mCd 38) 1 = .ok (.bipush 44, 2) ∧ lk (mMsk 38) 1 = none := by decide +kernel
theorem i38_3 : decode (mCd 38) 3 = .ok (.if_icmp .ne 19, 3) ∧ lk (mMsk 38) 3 = none := by decide +kernel
theorem i38_6 : decode (mCd 38) 6 = .ok (.aload_n 0, 1) ∧ lk (mMsk 38) 6 = none := by decide +kernel
theorem i38_7 : decode (mCd 38) 7 = .ok (.getfield 22, 3) ∧ lk (mMsk 38) 7 = none := by decide +kernel
theorem g38_22 : fOk 38 22 3 3 = true := by decide +kernel
theorem i38_10 : decode (mCd 38) 10 = .ok (.bipush 12, 2) ∧ lk (mMsk 38) 10 = none := by decide +kernel
theorem i38_12 : decode (mCd 38) 12 = .ok (.if_icmp .ge 10, 3) ∧ lk (mMsk 38) 12 = none := by decide +kernel
theorem i38_22 : decode (mCd 38) 22 = .ok (.iload_n 1, 1) ∧ lk (mMsk 38) 22 = some [true, true] := by decide +kernel
theorem i38_15 : decode (mCd 38) 15 = .ok (.aload_n 0, 1) ∧ lk (mMsk 38) 15 = none := by decide +kernel
theorem i38_16 : decode (mCd 38) 16 = .ok (.iconst 0, 1) ∧ lk (mMsk 38) 16 = none := by decide +kernel
theorem i38_17 : decode (mCd 38) 17 = .ok (.putfield 33, 3) ∧ lk (mMsk 38) 17 = none := by decide +kernel
theorem p38_33 : pOk 38 33 3 6 = true := by decide +kernel
theorem i38_20 : decode (mCd 38) 20 = .ok (.iconst 1, 1) ∧ lk (mMsk 38) 20 = none := by decide +kernel
theorem i38_21 : decode (mCd 38) 21 = .ok (.ireturn, 1) ∧ lk (mMsk 38) 21 = none := by decide +kernel
theorem i38_23 : decode (mCd 38) 23 = .ok (.bipush 59, 2) ∧ lk (mMsk 38) 23 = none := by decide +kernel
theorem i38_25 : decode (mCd 38) 25 = .ok (.if_icmp .ne 10, 3) ∧ lk (mMsk 38) 25 = none := by decide +kernel
theorem i38_28 : decode (mCd 38) 28 = .ok (.aload_n 0, 1) ∧ lk (mMsk 38) 28 = none := by decide +kernel
theorem i38_29 : decode (mCd 38) 29 = .ok (.iconst 4, 1) ∧ lk (mMsk 38) 29 = none := by decide +kernel
theorem i38_30 : decode (mCd 38) 30 = .ok (.putfield 33, 3) ∧ lk (mMsk 38) 30 = none := by decide +kernel
theorem i38_33 : decode (mCd 38) 33 = .ok (.iconst 1, 1) ∧ lk (mMsk 38) 33 = none := by decide +kernel
theorem i38_34 : decode (mCd 38) 34 = .ok (.ireturn, 1) ∧ lk (mMsk 38) 34 = none := by decide +kernel
theorem i38_35 : decode (mCd 38) 35 = .ok (.iconst 0, 1) ∧ lk (mMsk 38) 35 = none := by decide +kernel
theorem i38_36 : decode (mCd 38) 36 = .ok (.ireturn, 1) ∧ lk (mMsk 38) 36 = none := by decide +kernel
theorem i39_0 : decode (mCd 39) 0 = .ok (.aload_n 0, 1) ∧ lk (mMsk 39) 0 = none := by decide +kernel
theorem i39_1 : decode (mCd 39) 1 = .ok (.iconst 1, 1) ∧ lk (mMsk 39) 1 = none := by decide +kernel
theorem i39_2 : decode (mCd 39) 2 = .ok (.putfield 26, 3) ∧ lk (mMsk 39) 2 = none := by decide +kernel
theorem p39_26 : pOk 39 26 3 4 = true := by decide +kernel
theorem i39_5 : decode (mCd 39) 5 = .ok (.aload_n 0, 1) ∧ lk (mMsk 39) 5 = none := by decide +kernel
theorem i39_6 : decode (mCd 39) 6 = .ok (.iconst 5, 1) ∧ lk (mMsk 39) 6 = none := by decide +kernel
theorem i39_7 : decode (mCd 39) 7 = .ok (.putfield 33, 3) ∧ lk (mMsk 39) 7 = none := by decide +kernel
theorem p39_33 : pOk 39 33 3 6 = true := by decide +kernel
theorem i39_10 : decode (mCd 39) 10 = .ok (.iconst 1, 1) ∧ lk (mMsk 39) 10 = none := by decide +kernel
theorem i39_11 : decode (mCd 39) 11 = .ok (.ireturn, 1) ∧ lk (mMsk 39) 11 = none := by decide +kernel
theorem i40_0 : decode (mCd 40) 0 = .ok (.aload_n 0, 1) ∧ lk (mMsk 40) 0 = none := by decide +kernel
theorem i40_1 : decode (mCd 40) 1 = .ok (.iconst 1, 1) ∧ lk (mMsk 40) 1 = none := by decide +kernel
theorem i40_2 : decode (mCd 40) 2 = .ok (.putfield 30, 3) ∧ lk (mMsk 40) 2 = none := by decide +kernel
theorem p40_30 : pOk 40 30 3 5 = true := by decide +kernel
theorem i40_5 : decode (mCd 40) 5 = .ok (.aload_n 0, 1) ∧ lk (mMsk 40) 5 = none := by decide +kernel
theorem i40_6 : decode (mCd 40) 6 = .ok (.bipush 6, 2) ∧ lk (mMsk 40) 6 = none := by decide +kernel
theorem i40_8 : decode (mCd 40) 8 = .ok (.putfield 33, 3) ∧ lk (mMsk 40) 8 = none := by decide +kernel
theorem p40_33 : pOk 40 33 3 6 = true := by decide +kernel
theorem i40_11 : decode (mCd 40) 11 = .ok (.iconst 1, 1) ∧ lk (mMsk 40) 11 = none := by decide +kernel
theorem i40_12 : decode (mCd 40) 12 = .ok (.ireturn, 1) ∧ lk (mMsk 40) 12 = none := by decide +kernel
theorem f_NetReader_readFrom_eq   {S : Mem} : f_NetReader_readFrom  S = k_NetReader_readFrom_27 0 (u2 (u1 (u1 (u1 (u1 S 3 3 0) 3 4 0) 3 5 0) 3 6 0) 3 7 0) := by
  show cI (mV oS X0 32 0 [some (.ref 3), some (.ref 1), none] [] S) = _
  refine V_aload_n (c := cI) i32_0.1 (mM_n i32_0.2) rfl rfl ?_
  refine V_iconst (c := cI) i32_1.1 (mM_n i32_1.2) (v := 0) rfl ?_
  refine V_pf (c := cI) i32_2.1 (mM_n i32_2.2) p32_22 (pf_i rfl rfl rfl) ?_
  refine V_aload_n (c := cI) i32_5.1 (mM_n i32_5.2) rfl rfl ?_
  refine V_iconst (c := cI) i32_6.1 (mM_n i32_6.2) (v := 0) rfl ?_
  refine V_pf (c := cI) i32_7.1 (mM_n i32_7.2) p32_26 (pf_z rfl rfl rfl (by decide)) ?_
  refine V_aload_n (c := cI) i32_10.1 (mM_n i32_10.2) rfl rfl ?_
  refine V_iconst (c := cI) i32_11.1 (mM_n i32_11.2) (v := 0) rfl ?_
  refine V_pf (c := cI) i32_12.1 (mM_n i32_12.2) p32_30 (pf_z rfl rfl rfl (by decide)) ?_
  refine V_aload_n (c := cI) i32_15.1 (mM_n i32_15.2) rfl rfl ?_
  refine V_iconst (c := cI) i32_16.1 (mM_n i32_16.2) (v := 0) rfl ?_
  refine V_pf (c := cI) i32_17.1 (mM_n i32_17.2) p32_33 (pf_i rfl rfl rfl) ?_
  refine V_aload_n (c := cI) i32_20.1 (mM_n i32_20.2) rfl rfl ?_
  refine V_lconst (c := cI) i32_21.1 (mM_n i32_21.2) (v := 0) rfl ?_
  refine V_pf (c := cI) i32_22.1 (mM_n i32_22.2) p32_36 (pf_j rfl rfl rfl) ?_
  refine V_iconst (c := cI) i32_25.1 (mM_n i32_25.2) (v := 0) rfl ?_
  refine V_istore_n (c := cI) i32_26.1 (mM_n i32_26.2) (l1 := [some (.ref 3), some (.ref 1), some (.int 0)])  (Nat.le_of_ble_eq_true rfl) rfl ?_
  exact V_msk (l1 := [some (.ref 3), some (.ref 1), some (.int 0)]) i32_27.2 rfl rfl
theorem k_NetReader_readFrom_27_eq {x2 : Int32}  {S : Mem} : k_NetReader_readFrom_27 x2 S = if (S.1 1 1) ≤ x2 then k_NetReader_readFrom_53 x2 S else bI (f_Page_at x2 S) (fun r6 S5 => bI (f_NetReader_accepts r6 S5) (fun r8 S7 => if r8 = 0 then k_NetReader_readFrom_53 x2 S7 else k_NetReader_readFrom_27 (x2 + 1) S7)) := by
  show cI (mV oS X0 32 27 [some (.ref 3), some (.ref 1), some (.int x2)] [] S) = _
  refine V_iload_n (c := cI) i32_27.1 (mM_s i32_27.2 rfl) rfl ?_
  refine V_aload_n (c := cI) i32_28.1 (mM_n i32_28.2) rfl rfl ?_
  refine V_gf (c := cI) i32_29.1 (mM_n i32_29.2) (v := .int (S.1 1 1)) g32_40 rfl ?_
  refine V_icmp_ge (c := cI) i32_32.1 (mM_n i32_32.2) rfl (fun _ => ?_) (fun _ => ?_)
  · exact V_msk (l1 := [none, none, some (.int x2)]) i32_53.2 rfl rfl
  · refine V_aload_n (c := cI) i32_35.1 (mM_n i32_35.2) rfl rfl ?_
    refine V_aload_n (c := cI) i32_36.1 (mM_n i32_36.2) rfl rfl ?_
    refine V_iload_n (c := cI) i32_37.1 (mM_n i32_37.2) rfl ?_
    refine V_cvI (c := cI) (As := [.int x2]) (rest := [.ref 3]) i32_38.1 (mM_n i32_38.2) c32_45 rfl rfl rfl rfl (Nat.le_of_ble_eq_true rfl) rfl (fun r6 S5 => ?_)
    refine V_cvI (c := cI) (As := [.int r6]) (rest := []) i32_41.1 (mM_n i32_41.2) c32_49 rfl rfl rfl rfl (Nat.le_of_ble_eq_true rfl) rfl (fun r8 S7 => ?_)
    refine V_if_eq (c := cI) i32_44.1 (mM_n i32_44.2) rfl (fun _ => ?_) (fun _ => ?_)
    · exact V_msk (l1 := [none, none, some (.int x2)]) i32_53.2 rfl rfl
    · refine V_iinc (c := cI) i32_47.1 (mM_n i32_47.2) (l1 := [some (.ref 3), some (.ref 1), some (.int (x2 + 1))]) rfl rfl rfl ?_
      refine V_goto (c := cI) i32_50.1 (mM_n i32_50.2) rfl ?_
      exact V_msk (l1 := [some (.ref 3), some (.ref 1), some (.int (x2 + 1))]) i32_27.2 rfl rfl
theorem k_NetReader_readFrom_53_eq {x2 : Int32}  {S : Mem} : k_NetReader_readFrom_53 x2 S = some (x2, S) := by
  show cI (mV oS X0 32 53 [none, none, some (.int x2)] [] S) = _
  refine V_iload_n (c := cI) i32_53.1 (mM_s i32_53.2 rfl) rfl ?_
  exact V_iret i32_54.1 (mM_n i32_54.2) rfl
theorem f_NetReader_isWhole_eq   {S : Mem} : f_NetReader_isWhole  S = if (S.1 3 6) = 2 then k_NetReader_isWhole_33 S else if (S.1 3 6) = 3 then k_NetReader_isWhole_33 S else if (S.1 3 6) = 5 then k_NetReader_isWhole_33 S else if (S.1 3 6) = 6 then k_NetReader_isWhole_33 S else k_NetReader_isWhole_38 0 S := by
  show cI (mV oS X0 33 0 [some (.ref 3)] [] S) = _
  refine V_aload_n (c := cI) i33_0.1 (mM_n i33_0.2) rfl rfl ?_
  refine V_gf (c := cI) i33_1.1 (mM_n i33_1.2) (v := .int (S.1 3 6)) g33_33 rfl ?_
  refine V_iconst (c := cI) i33_4.1 (mM_n i33_4.2) (v := 2) rfl ?_
  refine V_icmp_eq (c := cI) i33_5.1 (mM_n i33_5.2) rfl (fun _ => ?_) (fun _ => ?_)
  · exact V_msk (l1 := [none]) i33_33.2 rfl rfl
  · refine V_aload_n (c := cI) i33_8.1 (mM_n i33_8.2) rfl rfl ?_
    refine V_gf (c := cI) i33_9.1 (mM_n i33_9.2) (v := .int (S.1 3 6)) g33_33 rfl ?_
    refine V_iconst (c := cI) i33_12.1 (mM_n i33_12.2) (v := 3) rfl ?_
    refine V_icmp_eq (c := cI) i33_13.1 (mM_n i33_13.2) rfl (fun _ => ?_) (fun _ => ?_)
    · exact V_msk (l1 := [none]) i33_33.2 rfl rfl
    · refine V_aload_n (c := cI) i33_16.1 (mM_n i33_16.2) rfl rfl ?_
      refine V_gf (c := cI) i33_17.1 (mM_n i33_17.2) (v := .int (S.1 3 6)) g33_33 rfl ?_
      refine V_iconst (c := cI) i33_20.1 (mM_n i33_20.2) (v := 5) rfl ?_
      refine V_icmp_eq (c := cI) i33_21.1 (mM_n i33_21.2) rfl (fun _ => ?_) (fun _ => ?_)
      · exact V_msk (l1 := [none]) i33_33.2 rfl rfl
      · refine V_aload_n (c := cI) i33_24.1 (mM_n i33_24.2) rfl rfl ?_
        refine V_gf (c := cI) i33_25.1 (mM_n i33_25.2) (v := .int (S.1 3 6)) g33_33 rfl ?_
        refine V_bipush (c := cI) i33_28.1 (mM_n i33_28.2) (v := 6) rfl ?_
        refine V_icmp_ne (c := cI) i33_30.1 (mM_n i33_30.2) rfl (fun _ => ?_) (fun _ => ?_)
        · exact V_msk (l1 := [none]) i33_33.2 rfl rfl
        · refine V_iconst (c := cI) i33_37.1 (mM_n i33_37.2) (v := 0) rfl ?_
          exact V_msk (l1 := [none]) i33_38.2 rfl rfl
theorem k_NetReader_isWhole_33_eq   {S : Mem} : k_NetReader_isWhole_33  S = k_NetReader_isWhole_38 1 S := by
  show cI (mV oS X0 33 33 [none] [] S) = _
  refine V_iconst (c := cI) i33_33.1 (mM_s i33_33.2 rfl) (v := 1) rfl ?_
  refine V_goto (c := cI) i33_34.1 (mM_n i33_34.2) rfl ?_
  exact V_msk (l1 := [none]) i33_38.2 rfl rfl
theorem k_NetReader_isWhole_38_eq {xs0 : Int32}  {S : Mem} : k_NetReader_isWhole_38 xs0 S = if zb xs0 = true then some (xs0, S) else none := by
  show cI (mV oS X0 33 38 [none] [.int xs0] S) = _
  exact V_iretZ i33_38.1 (mM_s i33_38.2 rfl) rfl
theorem f_NetReader_accepts_eq {x1 : Int32}  {S : Mem} : f_NetReader_accepts x1 S = if (S.1 3 6) = 0 then bI (f_NetReader_acceptsFirst x1 S) (fun r18 S17 => if zb r18 = true then some (r18, S17) else none) else if (S.1 3 6) = 1 then bI (f_NetReader_acceptsSecond x1 S) (fun r20 S19 => if zb r20 = true then some (r20, S19) else none) else if (S.1 3 6) = 2 then if x1 = 61 then bI (f_NetReader_acceptsWide S) (fun r22 S21 => k_NetReader_accepts_74 r22 S21) else bI (f_NetReader_acceptsMark x1 S) (fun r24 S23 => k_NetReader_accepts_74 r24 S23) else if (S.1 3 6) = 3 then bI (f_NetReader_acceptsMark x1 S) (fun r26 S25 => if zb r26 = true then some (r26, S25) else none) else if (S.1 3 6) = 4 then if x1 = 100 then bI (f_NetReader_acceptsDoubles S) (fun r28 S27 => k_NetReader_accepts_112 r28 S27) else if x1 = 119 then bI (f_NetReader_acceptsEmpties S) (fun r30 S29 => if r30 = 0 then k_NetReader_accepts_111 S29 else k_NetReader_accepts_112 1 S29) else k_NetReader_accepts_111 S else if (S.1 3 6) = 5 then if x1 = 119 then bI (f_NetReader_acceptsEmpties S) (fun r32 S31 => if r32 = 0 then k_NetReader_accepts_130 S31 else k_NetReader_accepts_131 1 S31) else k_NetReader_accepts_130 S else some (0, S) := by
  show cI (mV oS X0 34 0 [some (.ref 3), some (.int x1)] [] S) = _
  refine V_aload_n (c := cI) i34_0.1 (mM_n i34_0.2) rfl rfl ?_
  refine V_gf (c := cI) i34_1.1 (mM_n i34_1.2) (v := .int (S.1 3 6)) g34_33 rfl ?_
  refine V_ite (fun hc0 => ?_) (fun hc0 => ?_)
  · refine V_sw (c := cI) i34_4.1 (mM_n i34_4.2) (o := 40) (by rw [hc0]; rfl) rfl ?_
    refine V_aload_n (c := cI) i34_44.1 (mM_n i34_44.2) rfl rfl ?_
    refine V_iload_n (c := cI) i34_45.1 (mM_n i34_45.2) rfl ?_
    refine V_cvI (c := cI) (As := [.int x1]) (rest := []) i34_46.1 (mM_n i34_46.2) c34_53 rfl rfl rfl rfl (Nat.le_of_ble_eq_true rfl) rfl (fun r18 S17 => ?_)
    exact V_iretZ i34_49.1 (mM_n i34_49.2) rfl
  ·
    refine V_ite (fun hc1 => ?_) (fun hc1 => ?_)
    · refine V_sw (c := cI) i34_4.1 (mM_n i34_4.2) (o := 46) (by rw [hc1]; rfl) rfl ?_
      refine V_aload_n (c := cI) i34_50.1 (mM_n i34_50.2) rfl rfl ?_
      refine V_iload_n (c := cI) i34_51.1 (mM_n i34_51.2) rfl ?_
      refine V_cvI (c := cI) (As := [.int x1]) (rest := []) i34_52.1 (mM_n i34_52.2) c34_56 rfl rfl rfl rfl (Nat.le_of_ble_eq_true rfl) rfl (fun r20 S19 => ?_)
      exact V_iretZ i34_55.1 (mM_n i34_55.2) rfl
    ·
      refine V_ite (fun hc2 => ?_) (fun hc2 => ?_)
      · refine V_sw (c := cI) i34_4.1 (mM_n i34_4.2) (o := 52) (by rw [hc2]; rfl) rfl ?_
        refine V_iload_n (c := cI) i34_56.1 (mM_n i34_56.2) rfl ?_
        refine V_bipush (c := cI) i34_57.1 (mM_n i34_57.2) (v := 61) rfl ?_
        refine V_icmp_ne (c := cI) i34_59.1 (mM_n i34_59.2) rfl (fun _ => ?_) (fun _ => ?_)
        · refine V_aload_n (c := cI) i34_62.1 (mM_n i34_62.2) rfl rfl ?_
          refine V_cvI (c := cI) (As := []) (rest := []) i34_63.1 (mM_n i34_63.2) c34_59 rfl rfl rfl rfl (Nat.le_of_ble_eq_true rfl) rfl (fun r22 S21 => ?_)
          refine V_goto (c := cI) i34_66.1 (mM_n i34_66.2) rfl ?_
          exact V_msk (l1 := [none, none]) i34_74.2 rfl rfl
        · refine V_aload_n (c := cI) i34_69.1 (mM_n i34_69.2) rfl rfl ?_
          refine V_iload_n (c := cI) i34_70.1 (mM_n i34_70.2) rfl ?_
          refine V_cvI (c := cI) (As := [.int x1]) (rest := []) i34_71.1 (mM_n i34_71.2) c34_63 rfl rfl rfl rfl (Nat.le_of_ble_eq_true rfl) rfl (fun r24 S23 => ?_)
          exact V_msk (l1 := [none, none]) i34_74.2 rfl rfl
      ·
        refine V_ite (fun hc3 => ?_) (fun hc3 => ?_)
        · refine V_sw (c := cI) i34_4.1 (mM_n i34_4.2) (o := 71) (by rw [hc3]; rfl) rfl ?_
          refine V_aload_n (c := cI) i34_75.1 (mM_n i34_75.2) rfl rfl ?_
          refine V_iload_n (c := cI) i34_76.1 (mM_n i34_76.2) rfl ?_
          refine V_cvI (c := cI) (As := [.int x1]) (rest := []) i34_77.1 (mM_n i34_77.2) c34_63 rfl rfl rfl rfl (Nat.le_of_ble_eq_true rfl) rfl (fun r26 S25 => ?_)
          exact V_iretZ i34_80.1 (mM_n i34_80.2) rfl
        ·
          refine V_ite (fun hc4 => ?_) (fun hc4 => ?_)
          · refine V_sw (c := cI) i34_4.1 (mM_n i34_4.2) (o := 77) (by rw [hc4]; rfl) rfl ?_
            refine V_iload_n (c := cI) i34_81.1 (mM_n i34_81.2) rfl ?_
            refine V_bipush (c := cI) i34_82.1 (mM_n i34_82.2) (v := 100) rfl ?_
            refine V_icmp_ne (c := cI) i34_84.1 (mM_n i34_84.2) rfl (fun _ => ?_) (fun _ => ?_)
            · refine V_aload_n (c := cI) i34_87.1 (mM_n i34_87.2) rfl rfl ?_
              refine V_cvI (c := cI) (As := []) (rest := []) i34_88.1 (mM_n i34_88.2) c34_66 rfl rfl rfl rfl (Nat.le_of_ble_eq_true rfl) rfl (fun r28 S27 => ?_)
              refine V_goto (c := cI) i34_91.1 (mM_n i34_91.2) rfl ?_
              exact V_msk (l1 := [none, none]) i34_112.2 rfl rfl
            · refine V_iload_n (c := cI) i34_94.1 (mM_n i34_94.2) rfl ?_
              refine V_bipush (c := cI) i34_95.1 (mM_n i34_95.2) (v := 119) rfl ?_
              refine V_icmp_ne (c := cI) i34_97.1 (mM_n i34_97.2) rfl (fun _ => ?_) (fun _ => ?_)
              · refine V_aload_n (c := cI) i34_100.1 (mM_n i34_100.2) rfl rfl ?_
                refine V_cvI (c := cI) (As := []) (rest := []) i34_101.1 (mM_n i34_101.2) c34_69 rfl rfl rfl rfl (Nat.le_of_ble_eq_true rfl) rfl (fun r30 S29 => ?_)
                refine V_if_eq (c := cI) i34_104.1 (mM_n i34_104.2) rfl (fun _ => ?_) (fun _ => ?_)
                · exact V_msk (l1 := [none, none]) i34_111.2 rfl rfl
                · refine V_iconst (c := cI) i34_107.1 (mM_n i34_107.2) (v := 1) rfl ?_
                  refine V_goto (c := cI) i34_108.1 (mM_n i34_108.2) rfl ?_
                  exact V_msk (l1 := [none, none]) i34_112.2 rfl rfl
              · exact V_msk (l1 := [none, none]) i34_111.2 rfl rfl
          ·
            refine V_ite (fun hc5 => ?_) (fun hc5 => ?_)
            · refine V_sw (c := cI) i34_4.1 (mM_n i34_4.2) (o := 109) (by rw [hc5]; rfl) rfl ?_
              refine V_iload_n (c := cI) i34_113.1 (mM_n i34_113.2) rfl ?_
              refine V_bipush (c := cI) i34_114.1 (mM_n i34_114.2) (v := 119) rfl ?_
              refine V_icmp_ne (c := cI) i34_116.1 (mM_n i34_116.2) rfl (fun _ => ?_) (fun _ => ?_)
              · refine V_aload_n (c := cI) i34_119.1 (mM_n i34_119.2) rfl rfl ?_
                refine V_cvI (c := cI) (As := []) (rest := []) i34_120.1 (mM_n i34_120.2) c34_69 rfl rfl rfl rfl (Nat.le_of_ble_eq_true rfl) rfl (fun r32 S31 => ?_)
                refine V_if_eq (c := cI) i34_123.1 (mM_n i34_123.2) rfl (fun _ => ?_) (fun _ => ?_)
                · exact V_msk (l1 := [none, none]) i34_130.2 rfl rfl
                · refine V_iconst (c := cI) i34_126.1 (mM_n i34_126.2) (v := 1) rfl ?_
                  refine V_goto (c := cI) i34_127.1 (mM_n i34_127.2) rfl ?_
                  exact V_msk (l1 := [none, none]) i34_131.2 rfl rfl
              · exact V_msk (l1 := [none, none]) i34_130.2 rfl rfl
            ·
              refine V_sw (c := cI) i34_4.1 (mM_n i34_4.2) (sw_o (n := 6) (by decide) (lt_s (lt_s (lt_s (lt_s (lt_s (lt_s lt_0 hc0) hc1) hc2) hc3) hc4) hc5)) rfl ?_
              refine V_iconst (c := cI) i34_132.1 (mM_n i34_132.2) (v := 0) rfl ?_
              exact V_iret i34_133.1 (mM_n i34_133.2) rfl
theorem k_NetReader_accepts_74_eq {xs0 : Int32}  {S : Mem} : k_NetReader_accepts_74 xs0 S = if zb xs0 = true then some (xs0, S) else none := by
  show cI (mV oS X0 34 74 [none, none] [.int xs0] S) = _
  exact V_iretZ i34_74.1 (mM_s i34_74.2 rfl) rfl
theorem k_NetReader_accepts_111_eq   {S : Mem} : k_NetReader_accepts_111  S = k_NetReader_accepts_112 0 S := by
  show cI (mV oS X0 34 111 [none, none] [] S) = _
  refine V_iconst (c := cI) i34_111.1 (mM_s i34_111.2 rfl) (v := 0) rfl ?_
  exact V_msk (l1 := [none, none]) i34_112.2 rfl rfl
theorem k_NetReader_accepts_112_eq {xs0 : Int32}  {S : Mem} : k_NetReader_accepts_112 xs0 S = if zb xs0 = true then some (xs0, S) else none := by
  show cI (mV oS X0 34 112 [none, none] [.int xs0] S) = _
  exact V_iretZ i34_112.1 (mM_s i34_112.2 rfl) rfl
theorem k_NetReader_accepts_130_eq   {S : Mem} : k_NetReader_accepts_130  S = k_NetReader_accepts_131 0 S := by
  show cI (mV oS X0 34 130 [none, none] [] S) = _
  refine V_iconst (c := cI) i34_130.1 (mM_s i34_130.2 rfl) (v := 0) rfl ?_
  exact V_msk (l1 := [none, none]) i34_131.2 rfl rfl
theorem k_NetReader_accepts_131_eq {xs0 : Int32}  {S : Mem} : k_NetReader_accepts_131 xs0 S = if zb xs0 = true then some (xs0, S) else none := by
  show cI (mV oS X0 34 131 [none, none] [.int xs0] S) = _
  exact V_iretZ i34_131.1 (mM_s i34_131.2 rfl) rfl
theorem f_NetReader_acceptsFirst_eq {x1 : Int32}  {S : Mem} : f_NetReader_acceptsFirst x1 S = bI (f_Page_isDigit x1 S) (fun r4 S3 => if r4 = 0 then k_NetReader_acceptsFirst_16 S3 else if (S3.1 3 3) < 12 then if inb (S3.1 3 3) 12 = true then some (1, u1 (u1 S3 4 ((S3.1 3 3).toNatClampNeg) (x1 - 48)) 3 6 1) else none else k_NetReader_acceptsFirst_16 S3) := by
  show cI (mV oS X0 35 0 [some (.ref 3), some (.int x1)] [] S) = _
  refine V_iload_n (c := cI) i35_0.1 (mM_n i35_0.2) rfl ?_
  refine V_ciI (c := cI) (As := [.int x1]) (rest := []) i35_1.1 (mM_n i35_1.2) c35_72 rfl rfl rfl (Nat.le_of_ble_eq_true rfl) rfl (fun r4 S3 => ?_)
  refine V_if_eq (c := cI) i35_4.1 (mM_n i35_4.2) rfl (fun _ => ?_) (fun _ => ?_)
  · exact V_msk (l1 := [none, none]) i35_16.2 rfl rfl
  · refine V_aload_n (c := cI) i35_7.1 (mM_n i35_7.2) rfl rfl ?_
    refine V_gf (c := cI) i35_8.1 (mM_n i35_8.2) (v := .int (S3.1 3 3)) g35_22 rfl ?_
    refine V_bipush (c := cI) i35_11.1 (mM_n i35_11.2) (v := 12) rfl ?_
    refine V_icmp_lt (c := cI) i35_13.1 (mM_n i35_13.2) rfl (fun _ => ?_) (fun _ => ?_)
    · refine V_aload_n (c := cI) i35_18.1 (mM_n i35_18.2) rfl rfl ?_
      refine V_gf (c := cI) i35_19.1 (mM_n i35_19.2) (v := .ref 4) g35_9 rfl ?_
      refine V_aload_n (c := cI) i35_22.1 (mM_n i35_22.2) rfl rfl ?_
      refine V_gf (c := cI) i35_23.1 (mM_n i35_23.2) (v := .int (S3.1 3 3)) g35_22 rfl ?_
      refine V_iload_n (c := cI) i35_26.1 (mM_n i35_26.2) rfl ?_
      refine V_bipush (c := cI) i35_27.1 (mM_n i35_27.2) (v := 48) rfl ?_
      refine V_isub (c := cI) i35_29.1 (mM_n i35_29.2)  ?_
      refine V_iastore (c := cI) (x1 := (x1 - 48)) i35_30.1 (mM_n i35_30.2) rfl rfl rfl rfl (fun _ => ?_)
      refine V_aload_n (c := cI) i35_31.1 (mM_n i35_31.2) rfl rfl ?_
      refine V_iconst (c := cI) i35_32.1 (mM_n i35_32.2) (v := 1) rfl ?_
      refine V_pf (c := cI) i35_33.1 (mM_n i35_33.2) p35_33 (pf_i rfl rfl rfl) ?_
      refine V_iconst (c := cI) i35_36.1 (mM_n i35_36.2) (v := 1) rfl ?_
      exact V_iret i35_37.1 (mM_n i35_37.2) rfl
    · exact V_msk (l1 := [none, none]) i35_16.2 rfl rfl
theorem k_NetReader_acceptsFirst_16_eq   {S : Mem} : k_NetReader_acceptsFirst_16  S = some (0, S) := by
  show cI (mV oS X0 35 16 [none, none] [] S) = _
  refine V_iconst (c := cI) i35_16.1 (mM_s i35_16.2 rfl) (v := 0) rfl ?_
  exact V_iret i35_17.1 (mM_n i35_17.2) rfl
theorem f_NetReader_acceptsSecond_eq {x1 : Int32}  {S : Mem} : f_NetReader_acceptsSecond x1 S = bI (f_Page_isDigit x1 S) (fun r4 S3 => if r4 = 0 then k_NetReader_acceptsSecond_16 S3 else if (S3.1 3 3) < 12 then if inb (S3.1 3 3) 12 = true then if (S3.1 4 ((S3.1 3 3).toNatClampNeg)) = (x1 - 48) then k_NetReader_acceptsSecond_56 S3 else if (lg_cmp ((((S3.2 3 7).toUInt64 >>> ((((8 : Int32) * (S3.1 4 ((S3.1 3 3).toNatClampNeg))) + (x1 - 48)).toInt64.toUInt64 &&& Int64.toUInt64 63)).toInt64) &&& 1) 1) = 0 then k_NetReader_acceptsSecond_56 S3 else if inb (S3.1 3 3) 12 = true then if inb (S3.1 3 3) 12 = true then some (1, u1 (u1 (u1 (u1 (u2 S3 3 7 ((S3.2 3 7) ||| ((1 <<< ((((8 : Int32) * (S3.1 4 ((S3.1 3 3).toNatClampNeg))) + (x1 - 48)).toInt64 &&& 63)) ||| (1 <<< ((((8 : Int32) * (x1 - 48)) + (S3.1 4 ((S3.1 3 3).toNatClampNeg))).toInt64 &&& 63))))) 5 ((S3.1 3 3).toNatClampNeg) (x1 - 48)) 6 ((S3.1 3 3).toNatClampNeg) 0) 3 3 ((S3.1 3 3) + 1)) 3 6 2) else none else none else none else k_NetReader_acceptsSecond_16 S3) := by
  show cI (mV oS X0 36 0 [some (.ref 3), some (.int x1), none, none] [] S) = _
  refine V_iload_n (c := cI) i36_0.1 (mM_n i36_0.2) rfl ?_
  refine V_ciI (c := cI) (As := [.int x1]) (rest := []) i36_1.1 (mM_n i36_1.2) c36_72 rfl rfl rfl (Nat.le_of_ble_eq_true rfl) rfl (fun r4 S3 => ?_)
  refine V_if_eq (c := cI) i36_4.1 (mM_n i36_4.2) rfl (fun _ => ?_) (fun _ => ?_)
  · exact V_msk (l1 := [none, none, none, none]) i36_16.2 rfl rfl
  · refine V_aload_n (c := cI) i36_7.1 (mM_n i36_7.2) rfl rfl ?_
    refine V_gf (c := cI) i36_8.1 (mM_n i36_8.2) (v := .int (S3.1 3 3)) g36_22 rfl ?_
    refine V_bipush (c := cI) i36_11.1 (mM_n i36_11.2) (v := 12) rfl ?_
    refine V_icmp_lt (c := cI) i36_13.1 (mM_n i36_13.2) rfl (fun _ => ?_) (fun _ => ?_)
    · refine V_aload_n (c := cI) i36_18.1 (mM_n i36_18.2) rfl rfl ?_
      refine V_gf (c := cI) i36_19.1 (mM_n i36_19.2) (v := .ref 4) g36_9 rfl ?_
      refine V_aload_n (c := cI) i36_22.1 (mM_n i36_22.2) rfl rfl ?_
      refine V_gf (c := cI) i36_23.1 (mM_n i36_23.2) (v := .int (S3.1 3 3)) g36_22 rfl ?_
      refine V_iaload (c := cI) i36_26.1 (mM_n i36_26.2) rfl rfl (fun _ => ?_)
      refine V_istore_n (c := cI) i36_27.1 (mM_n i36_27.2) (l1 := [some (.ref 3), some (.int x1), some (.int (S3.1 4 ((S3.1 3 3).toNatClampNeg))), none])  (Nat.le_of_ble_eq_true rfl) rfl ?_
      refine V_iload_n (c := cI) i36_28.1 (mM_n i36_28.2) rfl ?_
      refine V_bipush (c := cI) i36_29.1 (mM_n i36_29.2) (v := 48) rfl ?_
      refine V_isub (c := cI) i36_31.1 (mM_n i36_31.2)  ?_
      refine V_istore_n (c := cI) i36_32.1 (mM_n i36_32.2) (l1 := [some (.ref 3), some (.int x1), some (.int (S3.1 4 ((S3.1 3 3).toNatClampNeg))), some (.int (x1 - 48))])  (Nat.le_of_ble_eq_true rfl) rfl ?_
      refine V_iload_n (c := cI) i36_33.1 (mM_n i36_33.2) rfl ?_
      refine V_iload_n (c := cI) i36_34.1 (mM_n i36_34.2) rfl ?_
      refine V_icmp_eq (c := cI) i36_35.1 (mM_n i36_35.2) rfl (fun _ => ?_) (fun _ => ?_)
      · exact V_msk (l1 := [none, none, none, none]) i36_56.2 rfl rfl
      · refine V_aload_n (c := cI) i36_38.1 (mM_n i36_38.2) rfl rfl ?_
        refine V_gf (c := cI) i36_39.1 (mM_n i36_39.2) (v := .long (S3.2 3 7)) g36_36 rfl ?_
        refine V_bipush (c := cI) i36_42.1 (mM_n i36_42.2) (v := 8) rfl ?_
        refine V_iload_n (c := cI) i36_44.1 (mM_n i36_44.2) rfl ?_
        refine V_imul (c := cI) i36_45.1 (mM_n i36_45.2)  ?_
        refine V_iload_n (c := cI) i36_46.1 (mM_n i36_46.2) rfl ?_
        refine V_iadd (c := cI) i36_47.1 (mM_n i36_47.2)  ?_
        refine V_lushr (c := cI) i36_48.1 (mM_n i36_48.2)  ?_
        refine V_lconst (c := cI) i36_49.1 (mM_n i36_49.2) (v := 1) rfl ?_
        refine V_land (c := cI) i36_50.1 (mM_n i36_50.2)  ?_
        refine V_lconst (c := cI) i36_51.1 (mM_n i36_51.2) (v := 1) rfl ?_
        refine V_lcmp (c := cI) i36_52.1 (mM_n i36_52.2)  ?_
        refine V_if_ne (c := cI) i36_53.1 (mM_n i36_53.2) rfl (fun _ => ?_) (fun _ => ?_)
        · exact V_msk (l1 := [none, none, none, none]) i36_56.2 rfl rfl
        · refine V_aload_n (c := cI) i36_58.1 (mM_n i36_58.2) rfl rfl ?_
          refine V_dup (c := cI) i36_59.1 (mM_n i36_59.2) rfl ?_
          refine V_gf (c := cI) i36_60.1 (mM_n i36_60.2) (v := .long (S3.2 3 7)) g36_36 rfl ?_
          refine V_lconst (c := cI) i36_63.1 (mM_n i36_63.2) (v := 1) rfl ?_
          refine V_bipush (c := cI) i36_64.1 (mM_n i36_64.2) (v := 8) rfl ?_
          refine V_iload_n (c := cI) i36_66.1 (mM_n i36_66.2) rfl ?_
          refine V_imul (c := cI) i36_67.1 (mM_n i36_67.2)  ?_
          refine V_iload_n (c := cI) i36_68.1 (mM_n i36_68.2) rfl ?_
          refine V_iadd (c := cI) i36_69.1 (mM_n i36_69.2)  ?_
          refine V_lshl (c := cI) i36_70.1 (mM_n i36_70.2)  ?_
          refine V_lconst (c := cI) i36_71.1 (mM_n i36_71.2) (v := 1) rfl ?_
          refine V_bipush (c := cI) i36_72.1 (mM_n i36_72.2) (v := 8) rfl ?_
          refine V_iload_n (c := cI) i36_74.1 (mM_n i36_74.2) rfl ?_
          refine V_imul (c := cI) i36_75.1 (mM_n i36_75.2)  ?_
          refine V_iload_n (c := cI) i36_76.1 (mM_n i36_76.2) rfl ?_
          refine V_iadd (c := cI) i36_77.1 (mM_n i36_77.2)  ?_
          refine V_lshl (c := cI) i36_78.1 (mM_n i36_78.2)  ?_
          refine V_lor (c := cI) i36_79.1 (mM_n i36_79.2)  ?_
          refine V_lor (c := cI) i36_80.1 (mM_n i36_80.2)  ?_
          refine V_pf (c := cI) i36_81.1 (mM_n i36_81.2) p36_36 (pf_j rfl rfl rfl) ?_
          refine V_aload_n (c := cI) i36_84.1 (mM_n i36_84.2) rfl rfl ?_
          refine V_gf (c := cI) i36_85.1 (mM_n i36_85.2) (v := .ref 5) g36_15 rfl ?_
          refine V_aload_n (c := cI) i36_88.1 (mM_n i36_88.2) rfl rfl ?_
          refine V_gf (c := cI) i36_89.1 (mM_n i36_89.2) (v := .int (S3.1 3 3)) g36_22 rfl ?_
          refine V_iload_n (c := cI) i36_92.1 (mM_n i36_92.2) rfl ?_
          refine V_iastore (c := cI) (x1 := (x1 - 48)) i36_93.1 (mM_n i36_93.2) rfl rfl rfl rfl (fun _ => ?_)
          refine V_aload_n (c := cI) i36_94.1 (mM_n i36_94.2) rfl rfl ?_
          refine V_gf (c := cI) i36_95.1 (mM_n i36_95.2) (v := .ref 6) g36_18 rfl ?_
          refine V_aload_n (c := cI) i36_98.1 (mM_n i36_98.2) rfl rfl ?_
          refine V_gf (c := cI) i36_99.1 (mM_n i36_99.2) (v := .int (S3.1 3 3)) g36_22 rfl ?_
          refine V_iconst (c := cI) i36_102.1 (mM_n i36_102.2) (v := 0) rfl ?_
          refine V_bastore (c := cI) (x1 := 0) i36_103.1 (mM_n i36_103.2) rfl rfl (by decide) rfl (fun _ => ?_)
          refine V_aload_n (c := cI) i36_104.1 (mM_n i36_104.2) rfl rfl ?_
          refine V_dup (c := cI) i36_105.1 (mM_n i36_105.2) rfl ?_
          refine V_gf (c := cI) i36_106.1 (mM_n i36_106.2) (v := .int (S3.1 3 3)) g36_22 rfl ?_
          refine V_iconst (c := cI) i36_109.1 (mM_n i36_109.2) (v := 1) rfl ?_
          refine V_iadd (c := cI) i36_110.1 (mM_n i36_110.2)  ?_
          refine V_pf (c := cI) i36_111.1 (mM_n i36_111.2) p36_22 (pf_i rfl rfl rfl) ?_
          refine V_aload_n (c := cI) i36_114.1 (mM_n i36_114.2) rfl rfl ?_
          refine V_iconst (c := cI) i36_115.1 (mM_n i36_115.2) (v := 2) rfl ?_
          refine V_pf (c := cI) i36_116.1 (mM_n i36_116.2) p36_33 (pf_i rfl rfl rfl) ?_
          refine V_iconst (c := cI) i36_119.1 (mM_n i36_119.2) (v := 1) rfl ?_
          exact V_iret i36_120.1 (mM_n i36_120.2) rfl
    · exact V_msk (l1 := [none, none, none, none]) i36_16.2 rfl rfl
theorem k_NetReader_acceptsSecond_16_eq   {S : Mem} : k_NetReader_acceptsSecond_16  S = some (0, S) := by
  show cI (mV oS X0 36 16 [none, none, none, none] [] S) = _
  refine V_iconst (c := cI) i36_16.1 (mM_s i36_16.2 rfl) (v := 0) rfl ?_
  exact V_iret i36_17.1 (mM_n i36_17.2) rfl
theorem k_NetReader_acceptsSecond_56_eq   {S : Mem} : k_NetReader_acceptsSecond_56  S = some (0, S) := by
  show cI (mV oS X0 36 56 [none, none, none, none] [] S) = _
  refine V_iconst (c := cI) i36_56.1 (mM_s i36_56.2 rfl) (v := 0) rfl ?_
  exact V_iret i36_57.1 (mM_n i36_57.2) rfl
theorem f_NetReader_acceptsWide_eq   {S : Mem} : f_NetReader_acceptsWide  S = if 1 ≤ (S.1 3 3) then if inb ((S.1 3 3) - 1) 12 = true then some (1, u1 (u1 S 6 (((S.1 3 3) - 1).toNatClampNeg) 1) 3 6 3) else none else some (0, S) := by
  show cI (mV oS X0 37 0 [some (.ref 3)] [] S) = _
  refine V_aload_n (c := cI) i37_0.1 (mM_n i37_0.2) rfl rfl ?_
  refine V_gf (c := cI) i37_1.1 (mM_n i37_1.2) (v := .int (S.1 3 3)) g37_22 rfl ?_
  refine V_iconst (c := cI) i37_4.1 (mM_n i37_4.2) (v := 1) rfl ?_
  refine V_icmp_ge (c := cI) i37_5.1 (mM_n i37_5.2) rfl (fun _ => ?_) (fun _ => ?_)
  · refine V_aload_n (c := cI) i37_10.1 (mM_n i37_10.2) rfl rfl ?_
    refine V_gf (c := cI) i37_11.1 (mM_n i37_11.2) (v := .ref 6) g37_18 rfl ?_
    refine V_aload_n (c := cI) i37_14.1 (mM_n i37_14.2) rfl rfl ?_
    refine V_gf (c := cI) i37_15.1 (mM_n i37_15.2) (v := .int (S.1 3 3)) g37_22 rfl ?_
    refine V_iconst (c := cI) i37_18.1 (mM_n i37_18.2) (v := 1) rfl ?_
    refine V_isub (c := cI) i37_19.1 (mM_n i37_19.2)  ?_
    refine V_iconst (c := cI) i37_20.1 (mM_n i37_20.2) (v := 1) rfl ?_
    refine V_bastore (c := cI) (x1 := 1) i37_21.1 (mM_n i37_21.2) rfl rfl (by decide) rfl (fun _ => ?_)
    refine V_aload_n (c := cI) i37_22.1 (mM_n i37_22.2) rfl rfl ?_
    refine V_iconst (c := cI) i37_23.1 (mM_n i37_23.2) (v := 3) rfl ?_
    refine V_pf (c := cI) i37_24.1 (mM_n i37_24.2) p37_33 (pf_i rfl rfl rfl) ?_
    refine V_iconst (c := cI) i37_27.1 (mM_n i37_27.2) (v := 1) rfl ?_
    exact V_iret i37_28.1 (mM_n i37_28.2) rfl
  · refine V_iconst (c := cI) i37_8.1 (mM_n i37_8.2) (v := 0) rfl ?_
    exact V_iret i37_9.1 (mM_n i37_9.2) rfl
theorem f_NetReader_acceptsMark_eq {x1 : Int32}  {S : Mem} : f_NetReader_acceptsMark x1 S = if x1 = 44 then if 12 ≤ (S.1 3 3) then k_NetReader_acceptsMark_22 x1 S else some (1, u1 S 3 6 0) else k_NetReader_acceptsMark_22 x1 S := by
  show cI (mV oS X0 38 0 [some (.ref 3), some (.int x1)] [] S) = _
  refine V_iload_n (c := cI) i38_0.1 (mM_n i38_0.2) rfl ?_
  refine V_bipush (c := cI) i38_1.1 (mM_n i38_1.2) (v := 44) rfl ?_
  refine V_icmp_ne (c := cI) i38_3.1 (mM_n i38_3.2) rfl (fun _ => ?_) (fun _ => ?_)
  · refine V_aload_n (c := cI) i38_6.1 (mM_n i38_6.2) rfl rfl ?_
    refine V_gf (c := cI) i38_7.1 (mM_n i38_7.2) (v := .int (S.1 3 3)) g38_22 rfl ?_
    refine V_bipush (c := cI) i38_10.1 (mM_n i38_10.2) (v := 12) rfl ?_
    refine V_icmp_ge (c := cI) i38_12.1 (mM_n i38_12.2) rfl (fun _ => ?_) (fun _ => ?_)
    · exact V_msk (l1 := [some (.ref 3), some (.int x1)]) i38_22.2 rfl rfl
    · refine V_aload_n (c := cI) i38_15.1 (mM_n i38_15.2) rfl rfl ?_
      refine V_iconst (c := cI) i38_16.1 (mM_n i38_16.2) (v := 0) rfl ?_
      refine V_pf (c := cI) i38_17.1 (mM_n i38_17.2) p38_33 (pf_i rfl rfl rfl) ?_
      refine V_iconst (c := cI) i38_20.1 (mM_n i38_20.2) (v := 1) rfl ?_
      exact V_iret i38_21.1 (mM_n i38_21.2) rfl
  · exact V_msk (l1 := [some (.ref 3), some (.int x1)]) i38_22.2 rfl rfl
theorem k_NetReader_acceptsMark_22_eq {x1 : Int32}  {S : Mem} : k_NetReader_acceptsMark_22 x1 S = if x1 = 59 then some (1, u1 S 3 6 4) else some (0, S) := by
  show cI (mV oS X0 38 22 [some (.ref 3), some (.int x1)] [] S) = _
  refine V_iload_n (c := cI) i38_22.1 (mM_s i38_22.2 rfl) rfl ?_
  refine V_bipush (c := cI) i38_23.1 (mM_n i38_23.2) (v := 59) rfl ?_
  refine V_icmp_ne (c := cI) i38_25.1 (mM_n i38_25.2) rfl (fun _ => ?_) (fun _ => ?_)
  · refine V_aload_n (c := cI) i38_28.1 (mM_n i38_28.2) rfl rfl ?_
    refine V_iconst (c := cI) i38_29.1 (mM_n i38_29.2) (v := 4) rfl ?_
    refine V_pf (c := cI) i38_30.1 (mM_n i38_30.2) p38_33 (pf_i rfl rfl rfl) ?_
    refine V_iconst (c := cI) i38_33.1 (mM_n i38_33.2) (v := 1) rfl ?_
    exact V_iret i38_34.1 (mM_n i38_34.2) rfl
  · refine V_iconst (c := cI) i38_35.1 (mM_n i38_35.2) (v := 0) rfl ?_
    exact V_iret i38_36.1 (mM_n i38_36.2) rfl
theorem f_NetReader_acceptsDoubles_eq   {S : Mem} : f_NetReader_acceptsDoubles  S = some (1, u1 (u1 S 3 4 1) 3 6 5) := by
  show cI (mV oS X0 39 0 [some (.ref 3)] [] S) = _
  refine V_aload_n (c := cI) i39_0.1 (mM_n i39_0.2) rfl rfl ?_
  refine V_iconst (c := cI) i39_1.1 (mM_n i39_1.2) (v := 1) rfl ?_
  refine V_pf (c := cI) i39_2.1 (mM_n i39_2.2) p39_26 (pf_z rfl rfl rfl (by decide)) ?_
  refine V_aload_n (c := cI) i39_5.1 (mM_n i39_5.2) rfl rfl ?_
  refine V_iconst (c := cI) i39_6.1 (mM_n i39_6.2) (v := 5) rfl ?_
  refine V_pf (c := cI) i39_7.1 (mM_n i39_7.2) p39_33 (pf_i rfl rfl rfl) ?_
  refine V_iconst (c := cI) i39_10.1 (mM_n i39_10.2) (v := 1) rfl ?_
  exact V_iret i39_11.1 (mM_n i39_11.2) rfl
theorem f_NetReader_acceptsEmpties_eq   {S : Mem} : f_NetReader_acceptsEmpties  S = some (1, u1 (u1 S 3 5 1) 3 6 6) := by
  show cI (mV oS X0 40 0 [some (.ref 3)] [] S) = _
  refine V_aload_n (c := cI) i40_0.1 (mM_n i40_0.2) rfl rfl ?_
  refine V_iconst (c := cI) i40_1.1 (mM_n i40_1.2) (v := 1) rfl ?_
  refine V_pf (c := cI) i40_2.1 (mM_n i40_2.2) p40_30 (pf_z rfl rfl rfl (by decide)) ?_
  refine V_aload_n (c := cI) i40_5.1 (mM_n i40_5.2) rfl rfl ?_
  refine V_bipush (c := cI) i40_6.1 (mM_n i40_6.2) (v := 6) rfl ?_
  refine V_pf (c := cI) i40_8.1 (mM_n i40_8.2) p40_33 (pf_i rfl rfl rfl) ?_
  refine V_iconst (c := cI) i40_11.1 (mM_n i40_11.2) (v := 1) rfl ?_
  exact V_iret i40_12.1 (mM_n i40_12.2) rfl
