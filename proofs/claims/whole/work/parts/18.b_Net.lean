/-! blocks of Net: printed by a program -/
theorem i22_0 : decode (mCd 22) 0 = .ok (.aload_n 0, 1) ∧ lk (mMsk 22) 0 = none := by decide +kernel
theorem i22_1 : decode (mCd 22) 1 = .ok (.aload_n 1, 1) ∧ lk (mMsk 22) 1 = none := by decide +kernel
theorem i22_2 : decode (mCd 22) 2 = .ok (.getfield 48, 3) ∧ lk (mMsk 22) 2 = none := by decide +kernel
theorem g22_48 : fOk 22 48 3 3 = true := by decide +kernel
theorem i22_5 : decode (mCd 22) 5 = .ok (.putfield 22, 3) ∧ lk (mMsk 22) 5 = none := by decide +kernel
theorem p22_22 : pOk 22 22 2 3 = true := by decide +kernel
theorem i22_8 : decode (mCd 22) 8 = .ok (.aload_n 0, 1) ∧ lk (mMsk 22) 8 = none := by decide +kernel
theorem i22_9 : decode (mCd 22) 9 = .ok (.aload_n 1, 1) ∧ lk (mMsk 22) 9 = none := by decide +kernel
theorem i22_10 : decode (mCd 22) 10 = .ok (.getfield 51, 3) ∧ lk (mMsk 22) 10 = none := by decide +kernel
theorem g22_51 : fOk 22 51 3 4 = true := by decide +kernel
theorem i22_13 : decode (mCd 22) 13 = .ok (.putfield 26, 3) ∧ lk (mMsk 22) 13 = none := by decide +kernel
theorem p22_26 : pOk 22 26 2 4 = true := by decide +kernel
theorem i22_16 : decode (mCd 22) 16 = .ok (.aload_n 0, 1) ∧ lk (mMsk 22) 16 = none := by decide +kernel
theorem i22_17 : decode (mCd 22) 17 = .ok (.aload_n 1, 1) ∧ lk (mMsk 22) 17 = none := by decide +kernel
theorem i22_18 : decode (mCd 22) 18 = .ok (.getfield 52, 3) ∧ lk (mMsk 22) 18 = none := by decide +kernel
theorem g22_52 : fOk 22 52 3 5 = true := by decide +kernel
theorem i22_21 : decode (mCd 22) 21 = .ok (.putfield 30, 3) ∧ lk (mMsk 22) 21 = none := by decide +kernel
theorem p22_30 : pOk 22 30 2 5 = true := by decide +kernel
theorem i22_24 : decode (mCd 22) 24 = .ok (.aload_n 0, 1) ∧ lk (mMsk 22) 24 = none := by decide +kernel
theorem i22_25 : decode (mCd 22) 25 = .ok (.getfield 33, 3) ∧ lk (mMsk 22) 25 = none := by decide +kernel
theorem g22_33 : fOk 22 33 2 6 = true := by decide +kernel
theorem i22_28 : decode (mCd 22) 28 = .ok (.iconst (-1), 1) ∧ lk (mMsk 22) 28 = none := by decide +kernel
theorem i22_29 : decode (mCd 22) 29 = .ok (.invokestatic 42, 3) ∧ lk (mMsk 22) 29 = none := by decide +kernel
theorem c22_42 : ciOk 22 42 176 2 3 = true := by decide +kernel
theorem i22_32 : decode (mCd 22) 32 = .ok (.iconst 0, 1) ∧ lk (mMsk 22) 32 = none := by decide +kernel
theorem i22_33 : decode (mCd 22) 33 = .ok (.istore_n 2, 1) ∧ lk (mMsk 22) 33 = none := by decide +kernel
theorem i22_34 : decode (mCd 22) 34 = .ok (.iload_n 2, 1) ∧ lk (mMsk 22) 34 = some [true, true, true] := by decide +kernel
theorem i22_35 : decode (mCd 22) 35 = .ok (.aload_n 0, 1) ∧ lk (mMsk 22) 35 = none := by decide +kernel
theorem i22_36 : decode (mCd 22) 36 = .ok (.getfield 22, 3) ∧ lk (mMsk 22) 36 = none := by decide +kernel
theorem g22_22 : fOk 22 22 2 3 = true := by decide +kernel
theorem i22_39 : decode (mCd 22) 39 = .ok (.if_icmp .ge 95, 3) ∧ lk (mMsk 22) 39 = none := by decide +kernel
theorem i22_134 : decode (mCd 22) 134 = .ok (.aload_n 0, 1) ∧ lk (mMsk 22) 134 = some [true, false, false] := by decide +kernel
theorem i22_42 : decode (mCd 22) 42 = .ok (.iload_n 2, 1) ∧ lk (mMsk 22) 42 = none := by decide +kernel
theorem i22_43 : decode (mCd 22) 43 = .ok (.bipush 12, 2) ∧ lk (mMsk 22) 43 = none := by decide +kernel
theorem i22_45 : decode (mCd 22) 45 = .ok (.if_icmp .ge 89, 3) ∧ lk (mMsk 22) 45 = none := by decide +kernel
theorem i22_48 : decode (mCd 22) 48 = .ok (.aload_n 0, 1) ∧ lk (mMsk 22) 48 = none := by decide +kernel
theorem i22_49 : decode (mCd 22) 49 = .ok (.getfield 9, 3) ∧ lk (mMsk 22) 49 = none := by decide +kernel
theorem g22_9 : fOk 22 9 2 0 = true := by decide +kernel
theorem i22_52 : decode (mCd 22) 52 = .ok (.iload_n 2, 1) ∧ lk (mMsk 22) 52 = none := by decide +kernel
theorem i22_53 : decode (mCd 22) 53 = .ok (.aload_n 1, 1) ∧ lk (mMsk 22) 53 = none := by decide +kernel
theorem i22_54 : decode (mCd 22) 54 = .ok (.getfield 53, 3) ∧ lk (mMsk 22) 54 = none := by decide +kernel
theorem g22_53 : fOk 22 53 3 0 = true := by decide +kernel
theorem i22_57 : decode (mCd 22) 57 = .ok (.iload_n 2, 1) ∧ lk (mMsk 22) 57 = none := by decide +kernel
theorem i22_58 : decode (mCd 22) 58 = .ok (.iaload, 1) ∧ lk (mMsk 22) 58 = none := by decide +kernel
theorem i22_59 : decode (mCd 22) 59 = .ok (.iastore, 1) ∧ lk (mMsk 22) 59 = none := by decide +kernel
theorem i22_60 : decode (mCd 22) 60 = .ok (.aload_n 0, 1) ∧ lk (mMsk 22) 60 = none := by decide +kernel
theorem i22_61 : decode (mCd 22) 61 = .ok (.getfield 15, 3) ∧ lk (mMsk 22) 61 = none := by decide +kernel
theorem g22_15 : fOk 22 15 2 1 = true := by decide +kernel
theorem i22_64 : decode (mCd 22) 64 = .ok (.iload_n 2, 1) ∧ lk (mMsk 22) 64 = none := by decide +kernel
theorem i22_65 : decode (mCd 22) 65 = .ok (.aload_n 1, 1) ∧ lk (mMsk 22) 65 = none := by decide +kernel
theorem i22_66 : decode (mCd 22) 66 = .ok (.getfield 54, 3) ∧ lk (mMsk 22) 66 = none := by decide +kernel
theorem g22_54 : fOk 22 54 3 1 = true := by decide +kernel
theorem i22_69 : decode (mCd 22) 69 = .ok (.iload_n 2, 1) ∧ lk (mMsk 22) 69 = none := by decide +kernel
theorem i22_70 : decode (mCd 22) 70 = .ok (.iaload, 1) ∧ lk (mMsk 22) 70 = none := by decide +kernel
theorem i22_71 : decode (mCd 22) 71 = .ok (.iastore, 1) ∧ lk (mMsk 22) 71 = none := by decide +kernel
theorem i22_72 : decode (mCd 22) 72 = .ok (.aload_n 0, 1) ∧ lk (mMsk 22) 72 = none := by decide +kernel
theorem i22_73 : decode (mCd 22) 73 = .ok (.getfield 18, 3) ∧ lk (mMsk 22) 73 = none := by decide +kernel
theorem g22_18 : fOk 22 18 2 2 = true := by decide +kernel
theorem i22_76 : decode (mCd 22) 76 = .ok (.iload_n 2, 1) ∧ lk (mMsk 22) 76 = none := by decide +kernel
theorem i22_77 : decode (mCd 22) 77 = .ok (.aload_n 1, 1) ∧ lk (mMsk 22) 77 = none := by decide +kernel
theorem i22_78 : decode (mCd 22) 78 = .ok (.getfield 55, 3) ∧ lk (mMsk 22) 78 = none := by decide +kernel
theorem g22_55 : fOk 22 55 3 2 = true := by decide +kernel
theorem i22_81 : decode (mCd 22) 81 = .ok (.iload_n 2, 1) ∧ lk (mMsk 22) 81 = none := by decide +kernel
theorem i22_82 : decode (mCd 22) 82 = .ok (.baload, 1) ∧ lk (mMsk 22) 82 = none := by decide +kernel
theorem i22_83 : decode (mCd 22) 83 = .ok (.bastore, 1) ∧ lk (mMsk 22) 83 = none := by decide +kernel
theorem i22_84 : decode (mCd 22) 84 = .ok (.aload_n 0, 1) ∧ lk (mMsk 22) 84 = none := by decide +kernel
theorem i22_85 : decode (mCd 22) 85 = .ok (.getfield 33, 3) ∧ lk (mMsk 22) 85 = none := by decide +kernel
theorem i22_88 : decode (mCd 22) 88 = .ok (.bipush 8, 2) ∧ lk (mMsk 22) 88 = none := by decide +kernel
theorem i22_90 : decode (mCd 22) 90 = .ok (.aload_n 0, 1) ∧ lk (mMsk 22) 90 = none := by decide +kernel
theorem i22_91 : decode (mCd 22) 91 = .ok (.getfield 9, 3) ∧ lk (mMsk 22) 91 = none := by decide +kernel
theorem i22_94 : decode (mCd 22) 94 = .ok (.iload_n 2, 1) ∧ lk (mMsk 22) 94 = none := by decide +kernel
theorem i22_95 : decode (mCd 22) 95 = .ok (.iaload, 1) ∧ lk (mMsk 22) 95 = none := by decide +kernel
theorem i22_96 : decode (mCd 22) 96 = .ok (.imul, 1) ∧ lk (mMsk 22) 96 = none := by decide +kernel
theorem i22_97 : decode (mCd 22) 97 = .ok (.aload_n 0, 1) ∧ lk (mMsk 22) 97 = none := by decide +kernel
theorem i22_98 : decode (mCd 22) 98 = .ok (.getfield 15, 3) ∧ lk (mMsk 22) 98 = none := by decide +kernel
theorem i22_101 : decode (mCd 22) 101 = .ok (.iload_n 2, 1) ∧ lk (mMsk 22) 101 = none := by decide +kernel
theorem i22_102 : decode (mCd 22) 102 = .ok (.iaload, 1) ∧ lk (mMsk 22) 102 = none := by decide +kernel
theorem i22_103 : decode (mCd 22) 103 = .ok (.iadd, 1) ∧ lk (mMsk 22) 103 = none := by decide +kernel
theorem i22_104 : decode (mCd 22) 104 = .ok (.iload_n 2, 1) ∧ lk (mMsk 22) 104 = none := by decide +kernel
theorem i22_105 : decode (mCd 22) 105 = .ok (.iastore, 1) ∧ lk (mMsk 22) 105 = none := by decide +kernel
theorem i22_106 : decode (mCd 22) 106 = .ok (.aload_n 0, 1) ∧ lk (mMsk 22) 106 = none := by decide +kernel
theorem i22_107 : decode (mCd 22) 107 = .ok (.getfield 33, 3) ∧ lk (mMsk 22) 107 = none := by decide +kernel
theorem i22_110 : decode (mCd 22) 110 = .ok (.bipush 8, 2) ∧ lk (mMsk 22) 110 = none := by decide +kernel
theorem i22_112 : decode (mCd 22) 112 = .ok (.aload_n 0, 1) ∧ lk (mMsk 22) 112 = none := by decide +kernel
theorem i22_113 : decode (mCd 22) 113 = .ok (.getfield 15, 3) ∧ lk (mMsk 22) 113 = none := by decide +kernel
theorem i22_116 : decode (mCd 22) 116 = .ok (.iload_n 2, 1) ∧ lk (mMsk 22) 116 = none := by decide +kernel
theorem i22_117 : decode (mCd 22) 117 = .ok (.iaload, 1) ∧ lk (mMsk 22) 117 = none := by decide +kernel
theorem i22_118 : decode (mCd 22) 118 = .ok (.imul, 1) ∧ lk (mMsk 22) 118 = none := by decide +kernel
theorem i22_119 : decode (mCd 22) 119 = .ok (.aload_n 0, 1) ∧ lk (mMsk 22) 119 = none := by decide +kernel
theorem i22_120 : decode (mCd 22) 120 = .ok (.getfield 9, 3) ∧ lk (mMsk 22) 120 = none := by decide +kernel
theorem i22_123 : decode (mCd 22) 123 = .ok (.iload_n 2, 1) ∧ lk (mMsk 22) 123 = none := by decide +kernel
theorem i22_124 : decode (mCd 22) 124 = .ok (.iaload, 1) ∧ lk (mMsk 22) 124 = none := by decide +kernel
theorem i22_125 : decode (mCd 22) 125 = .ok (.iadd, 1) ∧ lk (mMsk 22) 125 = none := by decide +kernel
theorem i22_126 : decode (mCd 22) 126 = .ok (.iload_n 2, 1) ∧ lk (mMsk 22) 126 = none := by decide +kernel
theorem i22_127 : decode (mCd 22) 127 = .ok (.iastore, 1) ∧ lk (mMsk 22) 127 = none := by decide +kernel
theorem i22_128 : decode (mCd 22) 128 = .ok (.iinc 2 1, 3) ∧ lk (mMsk 22) 128 = none := by decide +kernel
theorem i22_131 : decode (mCd 22) 131 = .ok (.goto (-97), 3) ∧ lk (mMsk 22) 131 = none := by decide +kernel
theorem i22_135 : decode (mCd 22) 135 = .ok (.invokevirtual 56, 3) ∧ lk (mMsk 22) 135 = none := by decide +kernel
theorem c22_56 : cvOk 22 56 23 0 3 = true := by decide +kernel
theorem i22_138 : decode (mCd 22) 138 = .ok (.return_, 1) ∧ lk (mMsk 22) 138 = none := by decide +kernel
theorem i23_0 : decode (mCd 23) 0 = .ok (.iconst 0, 1) ∧ lk (mMsk 23) 0 = none := by decide +kernel
theorem i23_1 : decode (mCd 23) 1 = .ok (.istore_n 1, 1) ∧ lk (mMsk 23) 1 = none := by decide +kernel
theorem i23_2 : decode (mCd 23) 2 = .ok (.iload_n 1, 1) ∧ lk (mMsk 23) 2 = some [true, true, false] := by decide +kernel
theorem i23_3 : decode (mCd 23) 3 = .ok (.bipush 8, 2) ∧ lk (mMsk 23) 3 = none := by decide +kernel
theorem i23_5 : decode (mCd 23) 5 = .ok (.if_icmp .ge 71, 3) ∧ lk (mMsk 23) 5 = none := by decide +kernel
theorem i23_76 : decode (mCd 23) 76 = .ok (.return_, 1) ∧ lk (mMsk 23) 76 = none := by decide +kernel
theorem i23_8 : decode (mCd 23) 8 = .ok (.aload_n 0, 1) ∧ lk (mMsk 23) 8 = none := by decide +kernel
theorem i23_9 : decode (mCd 23) 9 = .ok (.getfield 39, 3) ∧ lk (mMsk 23) 9 = none := by decide +kernel
theorem g23_39 : fOk 23 39 2 8 = true := by decide +kernel
theorem i23_12 : decode (mCd 23) 12 = .ok (.iload_n 1, 1) ∧ lk (mMsk 23) 12 = none := by decide +kernel
theorem i23_13 : decode (mCd 23) 13 = .ok (.iconst 0, 1) ∧ lk (mMsk 23) 13 = none := by decide +kernel
theorem i23_14 : decode (mCd 23) 14 = .ok (.iastore, 1) ∧ lk (mMsk 23) 14 = none := by decide +kernel
theorem i23_15 : decode (mCd 23) 15 = .ok (.iconst 0, 1) ∧ lk (mMsk 23) 15 = none := by decide +kernel
theorem i23_16 : decode (mCd 23) 16 = .ok (.istore_n 2, 1) ∧ lk (mMsk 23) 16 = none := by decide +kernel
theorem i23_17 : decode (mCd 23) 17 = .ok (.iload_n 2, 1) ∧ lk (mMsk 23) 17 = some [true, true, true] := by decide +kernel
theorem i23_18 : decode (mCd 23) 18 = .ok (.bipush 8, 2) ∧ lk (mMsk 23) 18 = none := by decide +kernel
theorem i23_20 : decode (mCd 23) 20 = .ok (.if_icmp .ge 50, 3) ∧ lk (mMsk 23) 20 = none := by decide +kernel
theorem i23_70 : decode (mCd 23) 70 = .ok (.iinc 1 1, 3) ∧ lk (mMsk 23) 70 = none := by decide +kernel
theorem i23_73 : decode (mCd 23) 73 = .ok (.goto (-71), 3) ∧ lk (mMsk 23) 73 = none := by decide +kernel
theorem i23_23 : decode (mCd 23) 23 = .ok (.iload_n 1, 1) ∧ lk (mMsk 23) 23 = none := by decide +kernel
theorem i23_24 : decode (mCd 23) 24 = .ok (.iload_n 2, 1) ∧ lk (mMsk 23) 24 = none := by decide +kernel
theorem i23_25 : decode (mCd 23) 25 = .ok (.if_icmp .eq 12, 3) ∧ lk (mMsk 23) 25 = none := by decide +kernel
theorem i23_37 : decode (mCd 23) 37 = .ok (.aload_n 0, 1) ∧ lk (mMsk 23) 37 = some [true, true, true] := by decide +kernel
theorem i23_28 : decode (mCd 23) 28 = .ok (.aload_n 0, 1) ∧ lk (mMsk 23) 28 = none := by decide +kernel
theorem i23_29 : decode (mCd 23) 29 = .ok (.iload_n 1, 1) ∧ lk (mMsk 23) 29 = none := by decide +kernel
theorem i23_30 : decode (mCd 23) 30 = .ok (.iload_n 2, 1) ∧ lk (mMsk 23) 30 = none := by decide +kernel
theorem i23_31 : decode (mCd 23) 31 = .ok (.invokevirtual 59, 3) ∧ lk (mMsk 23) 31 = none := by decide +kernel
theorem c23_59 : cvOk 23 59 24 2 0 = true := by decide +kernel
theorem i23_34 : decode (mCd 23) 34 = .ok (.ifCond .eq 30, 3) ∧ lk (mMsk 23) 34 = none := by decide +kernel
theorem i23_64 : decode (mCd 23) 64 = .ok (.iinc 2 1, 3) ∧ lk (mMsk 23) 64 = some [true, true, true] := by decide +kernel
theorem i23_67 : decode (mCd 23) 67 = .ok (.goto (-50), 3) ∧ lk (mMsk 23) 67 = none := by decide +kernel
theorem i23_38 : decode (mCd 23) 38 = .ok (.getfield 36, 3) ∧ lk (mMsk 23) 38 = none := by decide +kernel
theorem g23_36 : fOk 23 36 2 7 = true := by decide +kernel
theorem i23_41 : decode (mCd 23) 41 = .ok (.bipush 8, 2) ∧ lk (mMsk 23) 41 = none := by decide +kernel
theorem i23_43 : decode (mCd 23) 43 = .ok (.iload_n 1, 1) ∧ lk (mMsk 23) 43 = none := by decide +kernel
theorem i23_44 : decode (mCd 23) 44 = .ok (.imul, 1) ∧ lk (mMsk 23) 44 = none := by decide +kernel
theorem i23_45 : decode (mCd 23) 45 = .ok (.aload_n 0, 1) ∧ lk (mMsk 23) 45 = none := by decide +kernel
theorem i23_46 : decode (mCd 23) 46 = .ok (.getfield 39, 3) ∧ lk (mMsk 23) 46 = none := by decide +kernel
theorem i23_49 : decode (mCd 23) 49 = .ok (.iload_n 1, 1) ∧ lk (mMsk 23) 49 = none := by decide +kernel
theorem i23_50 : decode (mCd 23) 50 = .ok (.iaload, 1) ∧ lk (mMsk 23) 50 = none := by decide +kernel
theorem i23_51 : decode (mCd 23) 51 = .ok (.iadd, 1) ∧ lk (mMsk 23) 51 = none := by decide +kernel
theorem i23_52 : decode (mCd 23) 52 = .ok (.iload_n 2, 1) ∧ lk (mMsk 23) 52 = none := by decide +kernel
theorem i23_53 : decode (mCd 23) 53 = .ok (.iastore, 1) ∧ lk (mMsk 23) 53 = none := by decide +kernel
theorem i23_54 : decode (mCd 23) 54 = .ok (.aload_n 0, 1) ∧ lk (mMsk 23) 54 = none := by decide +kernel
theorem i23_55 : decode (mCd 23) 55 = .ok (.getfield 39, 3) ∧ lk (mMsk 23) 55 = none := by decide +kernel
theorem i23_58 : decode (mCd 23) 58 = .ok (.iload_n 1, 1) ∧ lk (mMsk 23) 58 = none := by decide +kernel
theorem i23_59 : decode (mCd 23) 59 = .ok (.dup2, 1) ∧ lk (mMsk 23) 59 = none := by decide +kernel
theorem i23_60 : decode (mCd 23) 60 = .ok (.iaload, 1) ∧ lk (mMsk 23) 60 = none := by decide +kernel
theorem i23_61 : decode (mCd 23) 61 = .ok (.iconst 1, 1) ∧ lk (mMsk 23) 61 = none := by decide +kernel
theorem i23_62 : decode (mCd 23) 62 = .ok (.iadd, 1) ∧ lk (mMsk 23) 62 = none := by decide +kernel
theorem i23_63 : decode (mCd 23) 63 = .ok (.iastore, 1) ∧ lk (mMsk 23) 63 = none := by decide +kernel
theorem i24_0 : decode (mCd 24) 0 = .ok (.iload_n 1, 1) ∧ lk (mMsk 24) 0 = none := by decide +kernel
theorem i24_1 : decode (mCd 24) 1 = .ok (.invokestatic 63, 3) ∧ lk (mMsk 24) 1 = none := by decide +kernel
theorem c24_63 : ciOk 24 63 101 1 0 = true := by decide +kernel
theorem i24_4 : decode (mCd 24) 4 = .ok (.ifCond .eq 29, 3) ∧ lk (mMsk 24) 4 = none := by decide +kernel
theorem i24_33 : decode (mCd 24) 33 = .ok (.iconst 0, 1) ∧ lk (mMsk 24) 33 = some [false, false, false] := by decide +kernel
theorem i24_7 : decode (mCd 24) 7 = .ok (.iload_n 2, 1) ∧ lk (mMsk 24) 7 = none := by decide +kernel
theorem i24_8 : decode (mCd 24) 8 = .ok (.invokestatic 63, 3) ∧ lk (mMsk 24) 8 = none := by decide +kernel
theorem i24_11 : decode (mCd 24) 11 = .ok (.ifCond .eq 22, 3) ∧ lk (mMsk 24) 11 = none := by decide +kernel
theorem i24_14 : decode (mCd 24) 14 = .ok (.aload_n 0, 1) ∧ lk (mMsk 24) 14 = none := by decide +kernel
theorem i24_15 : decode (mCd 24) 15 = .ok (.getfield 33, 3) ∧ lk (mMsk 24) 15 = none := by decide +kernel
theorem g24_33 : fOk 24 33 2 6 = true := by decide +kernel
theorem i24_18 : decode (mCd 24) 18 = .ok (.bipush 8, 2) ∧ lk (mMsk 24) 18 = none := by decide +kernel
theorem i24_20 : decode (mCd 24) 20 = .ok (.iload_n 1, 1) ∧ lk (mMsk 24) 20 = none := by decide +kernel
theorem i24_21 : decode (mCd 24) 21 = .ok (.imul, 1) ∧ lk (mMsk 24) 21 = none := by decide +kernel
theorem i24_22 : decode (mCd 24) 22 = .ok (.iload_n 2, 1) ∧ lk (mMsk 24) 22 = none := by decide +kernel
theorem i24_23 : decode (mCd 24) 23 = .ok (.iadd, 1) ∧ lk (mMsk 24) 23 = none := by decide +kernel
theorem i24_24 : decode (mCd 24) 24 = .ok (.iaload, 1) ∧ lk (mMsk 24) 24 = none := by decide +kernel
theorem i24_25 : decode (mCd 24) 25 = .ok (.iconst (-1), 1) ∧ lk (mMsk 24) 25 = none := by decide +kernel
theorem i24_26 : decode (mCd 24) 26 = .ok (.if_icmp .eq 7, 3) ∧ lk (mMsk 24) 26 = none := by decide +kernel
theorem i24_29 : decode (mCd 24) 29 = .ok (.iconst 1, 1) ∧ lk (mMsk 24) 29 = none := by decide +kernel
theorem i24_30 : decode (mCd 24) 30 = .ok (.goto 4, 3) ∧ lk (mMsk 24) 30 = none := by decide +kernel
theorem i24_34 : decode (mCd 24) 34 = .ok (.ireturn, 1) ∧ lk (mMsk 24) 34 = some [false, false, false] := by decide +kernel
theorem i25_0 : decode (mCd 25) 0 = .ok (.iload_n 1, 1) ∧ lk (mMsk 25) 0 = none := by decide +kernel
theorem i25_1 : decode (mCd 25) 1 = .ok (.ifCond .lt 25, 3) ∧ lk (mMsk 25) 1 = none := by decide +kernel
theorem i25_26 : decode (mCd 25) 26 = .ok (.iconst 0, 1) ∧ lk (mMsk 25) 26 = some [false, false, false, false, false] := by decide +kernel
theorem i25_4 : decode (mCd 25) 4 = .ok (.iload_n 1, 1) ∧ lk (mMsk 25) 4 = none := by decide +kernel
theorem i25_5 : decode (mCd 25) 5 = .ok (.bipush 8, 2) ∧ lk (mMsk 25) 5 = none := by decide +kernel
theorem i25_7 : decode (mCd 25) 7 = .ok (.if_icmp .ge 19, 3) ∧ lk (mMsk 25) 7 = none := by decide +kernel
theorem i25_10 : decode (mCd 25) 10 = .ok (.iload_n 2, 1) ∧ lk (mMsk 25) 10 = none := by decide +kernel
theorem i25_11 : decode (mCd 25) 11 = .ok (.ifCond .lt 15, 3) ∧ lk (mMsk 25) 11 = none := by decide +kernel
theorem i25_14 : decode (mCd 25) 14 = .ok (.iload_n 2, 1) ∧ lk (mMsk 25) 14 = none := by decide +kernel
theorem i25_15 : decode (mCd 25) 15 = .ok (.bipush 8, 2) ∧ lk (mMsk 25) 15 = none := by decide +kernel
theorem i25_17 : decode (mCd 25) 17 = .ok (.if_icmp .ge 9, 3) ∧ lk (mMsk 25) 17 = none := by decide +kernel
theorem i25_20 : decode (mCd 25) 20 = .ok (.iload_n 3, 1) ∧ lk (mMsk 25) 20 = none := by decide +kernel
theorem i25_21 : decode (mCd 25) 21 = .ok (.bipush 12, 2) ∧ lk (mMsk 25) 21 = none := by decide +kernel
theorem i25_23 : decode (mCd 25) 23 = .ok (.if_icmp .ne 5, 3) ∧ lk (mMsk 25) 23 = none := by decide +kernel
theorem i25_28 : decode (mCd 25) 28 = .ok (.aload_n 0, 1) ∧ lk (mMsk 25) 28 = none := by decide +kernel
theorem i25_29 : decode (mCd 25) 29 = .ok (.getfield 33, 3) ∧ lk (mMsk 25) 29 = none := by decide +kernel
theorem g25_33 : fOk 25 33 2 6 = true := by decide +kernel
theorem i25_32 : decode (mCd 25) 32 = .ok (.bipush 8, 2) ∧ lk (mMsk 25) 32 = none := by decide +kernel
theorem i25_34 : decode (mCd 25) 34 = .ok (.iload_n 1, 1) ∧ lk (mMsk 25) 34 = none := by decide +kernel
theorem i25_35 : decode (mCd 25) 35 = .ok (.imul, 1) ∧ lk (mMsk 25) 35 = none := by decide +kernel
theorem i25_36 : decode (mCd 25) 36 = .ok (.iload_n 2, 1) ∧ lk (mMsk 25) 36 = none := by decide +kernel
theorem i25_37 : decode (mCd 25) 37 = .ok (.iadd, 1) ∧ lk (mMsk 25) 37 = none := by decide +kernel
theorem i25_38 : decode (mCd 25) 38 = .ok (.iaload, 1) ∧ lk (mMsk 25) 38 = none := by decide +kernel
theorem i25_39 : decode (mCd 25) 39 = .ok (.istore 4, 2) ∧ lk (mMsk 25) 39 = none := by decide +kernel
theorem i25_41 : decode (mCd 25) 41 = .ok (.iload 4, 2) ∧ lk (mMsk 25) 41 = none := by decide +kernel
theorem i25_43 : decode (mCd 25) 43 = .ok (.ifCond .lt 30, 3) ∧ lk (mMsk 25) 43 = none := by decide +kernel
theorem i25_73 : decode (mCd 25) 73 = .ok (.iconst 0, 1) ∧ lk (mMsk 25) 73 = some [false, false, false, false, false] := by decide +kernel
theorem i25_46 : decode (mCd 25) 46 = .ok (.iload 4, 2) ∧ lk (mMsk 25) 46 = none := by decide +kernel
theorem i25_48 : decode (mCd 25) 48 = .ok (.bipush 12, 2) ∧ lk (mMsk 25) 48 = none := by decide +kernel
theorem i25_50 : decode (mCd 25) 50 = .ok (.if_icmp .ge 23, 3) ∧ lk (mMsk 25) 50 = none := by decide +kernel
theorem i25_53 : decode (mCd 25) 53 = .ok (.aload_n 0, 1) ∧ lk (mMsk 25) 53 = none := by decide +kernel
theorem i25_54 : decode (mCd 25) 54 = .ok (.getfield 18, 3) ∧ lk (mMsk 25) 54 = none := by decide +kernel
theorem g25_18 : fOk 25 18 2 2 = true := by decide +kernel
theorem i25_57 : decode (mCd 25) 57 = .ok (.iload 4, 2) ∧ lk (mMsk 25) 57 = none := by decide +kernel
theorem i25_59 : decode (mCd 25) 59 = .ok (.baload, 1) ∧ lk (mMsk 25) 59 = none := by decide +kernel
theorem i25_60 : decode (mCd 25) 60 = .ok (.ifCond .ne 13, 3) ∧ lk (mMsk 25) 60 = none := by decide +kernel
theorem i25_63 : decode (mCd 25) 63 = .ok (.iload 4, 2) ∧ lk (mMsk 25) 63 = none := by decide +kernel
theorem i25_65 : decode (mCd 25) 65 = .ok (.iload_n 3, 1) ∧ lk (mMsk 25) 65 = none := by decide +kernel
theorem i25_66 : decode (mCd 25) 66 = .ok (.if_icmp .eq 7, 3) ∧ lk (mMsk 25) 66 = none := by decide +kernel
theorem i25_69 : decode (mCd 25) 69 = .ok (.iconst 1, 1) ∧ lk (mMsk 25) 69 = none := by decide +kernel
theorem i25_70 : decode (mCd 25) 70 = .ok (.goto 4, 3) ∧ lk (mMsk 25) 70 = none := by decide +kernel
theorem i25_74 : decode (mCd 25) 74 = .ok (.ireturn, 1) ∧ lk (mMsk 25) 74 = some [false, false, false, false, false] := by decide +kernel
theorem i25_27 : decode (mCd 25) 27 = .ok (.ireturn, 1) ∧ lk (mMsk 25) 27 = none := by decide +kernel
theorem i26_0 : decode (mCd 26) 0 = .ok (.iload_n 1, 1) ∧ lk (mMsk 26) 0 = none := by decide +kernel
theorem i26_1 : decode (mCd 26) 1 = .ok (.invokestatic 63, 3) ∧ lk (mMsk 26) 1 = none := by decide +kernel
theorem c26_63 : ciOk 26 63 101 1 0 = true := by decide +kernel
theorem i26_4 : decode (mCd 26) 4 = .ok (.ifCond .eq 12, 3) ∧ lk (mMsk 26) 4 = none := by decide +kernel
theorem i26_16 : decode (mCd 26) 16 = .ok (.iconst 0, 1) ∧ lk (mMsk 26) 16 = none := by decide +kernel
theorem i26_17 : decode (mCd 26) 17 = .ok (.ireturn, 1) ∧ lk (mMsk 26) 17 = some [false, false] := by decide +kernel
theorem i26_7 : decode (mCd 26) 7 = .ok (.aload_n 0, 1) ∧ lk (mMsk 26) 7 = none := by decide +kernel
theorem i26_8 : decode (mCd 26) 8 = .ok (.getfield 39, 3) ∧ lk (mMsk 26) 8 = none := by decide +kernel
theorem g26_39 : fOk 26 39 2 8 = true := by decide +kernel
theorem i26_11 : decode (mCd 26) 11 = .ok (.iload_n 1, 1) ∧ lk (mMsk 26) 11 = none := by decide +kernel
theorem i26_12 : decode (mCd 26) 12 = .ok (.iaload, 1) ∧ lk (mMsk 26) 12 = none := by decide +kernel
theorem i26_13 : decode (mCd 26) 13 = .ok (.goto 4, 3) ∧ lk (mMsk 26) 13 = none := by decide +kernel
theorem i27_0 : decode (mCd 27) 0 = .ok (.iload_n 1, 1) ∧ lk (mMsk 27) 0 = none := by decide +kernel
theorem i27_1 : decode (mCd 27) 1 = .ok (.invokestatic 63, 3) ∧ lk (mMsk 27) 1 = none := by decide +kernel
theorem c27_63 : ciOk 27 63 101 1 0 = true := by decide +kernel
theorem i27_4 : decode (mCd 27) 4 = .ok (.ifCond .eq 31, 3) ∧ lk (mMsk 27) 4 = none := by decide +kernel
theorem i27_35 : decode (mCd 27) 35 = .ok (.iload_n 1, 1) ∧ lk (mMsk 27) 35 = some [false, true, false] := by decide +kernel
theorem i27_7 : decode (mCd 27) 7 = .ok (.iload_n 2, 1) ∧ lk (mMsk 27) 7 = none := by decide +kernel
theorem i27_8 : decode (mCd 27) 8 = .ok (.ifCond .lt 27, 3) ∧ lk (mMsk 27) 8 = none := by decide +kernel
theorem i27_11 : decode (mCd 27) 11 = .ok (.iload_n 2, 1) ∧ lk (mMsk 27) 11 = none := by decide +kernel
theorem i27_12 : decode (mCd 27) 12 = .ok (.aload_n 0, 1) ∧ lk (mMsk 27) 12 = none := by decide +kernel
theorem i27_13 : decode (mCd 27) 13 = .ok (.getfield 39, 3) ∧ lk (mMsk 27) 13 = none := by decide +kernel
theorem g27_39 : fOk 27 39 2 8 = true := by decide +kernel
theorem i27_16 : decode (mCd 27) 16 = .ok (.iload_n 1, 1) ∧ lk (mMsk 27) 16 = none := by decide +kernel
theorem i27_17 : decode (mCd 27) 17 = .ok (.iaload, 1) ∧ lk (mMsk 27) 17 = none := by decide +kernel
theorem i27_18 : decode (mCd 27) 18 = .ok (.if_icmp .ge 17, 3) ∧ lk (mMsk 27) 18 = none := by decide +kernel
theorem i27_21 : decode (mCd 27) 21 = .ok (.aload_n 0, 1) ∧ lk (mMsk 27) 21 = none := by decide +kernel
theorem i27_22 : decode (mCd 27) 22 = .ok (.getfield 36, 3) ∧ lk (mMsk 27) 22 = none := by decide +kernel
theorem g27_36 : fOk 27 36 2 7 = true := by decide +kernel
theorem i27_25 : decode (mCd 27) 25 = .ok (.bipush 8, 2) ∧ lk (mMsk 27) 25 = none := by decide +kernel
theorem i27_27 : decode (mCd 27) 27 = .ok (.iload_n 1, 1) ∧ lk (mMsk 27) 27 = none := by decide +kernel
theorem i27_28 : decode (mCd 27) 28 = .ok (.imul, 1) ∧ lk (mMsk 27) 28 = none := by decide +kernel
theorem i27_29 : decode (mCd 27) 29 = .ok (.iload_n 2, 1) ∧ lk (mMsk 27) 29 = none := by decide +kernel
theorem i27_30 : decode (mCd 27) 30 = .ok (.iadd, 1) ∧ lk (mMsk 27) 30 = none := by decide +kernel
theorem i27_31 : decode (mCd 27) 31 = .ok (.iaload, 1) ∧ lk (mMsk 27) 31 = none := by decide +kernel
theorem i27_32 : decode (mCd 27) 32 = .ok (.goto 4, 3) ∧ lk (mMsk 27) 32 = none := by decide +kernel
theorem i27_36 : decode (mCd 27) 36 = .ok (.ireturn, 1) ∧ lk (mMsk 27) 36 = some [false, false, false] := by decide +kernel
theorem i28_0 : decode (mCd 28) 0 = .ok (.iload_n 2, 1) ∧ lk (mMsk 28) 0 = none := by decide +kernel
theorem i28_1 : decode (mCd 28) 1 = .ok (.ifCond .gt 5, 3) ∧ lk (mMsk 28) 1 = none := by decide +kernel
theorem i28_6 : decode (mCd 28) 6 = .ok (.aload_n 0, 1) ∧ lk (mMsk 28) 6 = none := by decide +kernel
theorem i28_7 : decode (mCd 28) 7 = .ok (.iload_n 1, 1) ∧ lk (mMsk 28) 7 = none := by decide +kernel
theorem i28_8 : decode (mCd 28) 8 = .ok (.iload_n 2, 1) ∧ lk (mMsk 28) 8 = none := by decide +kernel
theorem i28_9 : decode (mCd 28) 9 = .ok (.iconst 1, 1) ∧ lk (mMsk 28) 9 = none := by decide +kernel
theorem i28_10 : decode (mCd 28) 10 = .ok (.isub, 1) ∧ lk (mMsk 28) 10 = none := by decide +kernel
theorem i28_11 : decode (mCd 28) 11 = .ok (.invokevirtual 67, 3) ∧ lk (mMsk 28) 11 = none := by decide +kernel
theorem c28_67 : cvOk 28 67 27 2 0 = true := by decide +kernel
theorem i28_14 : decode (mCd 28) 14 = .ok (.istore_n 3, 1) ∧ lk (mMsk 28) 14 = none := by decide +kernel
theorem i28_15 : decode (mCd 28) 15 = .ok (.iload_n 3, 1) ∧ lk (mMsk 28) 15 = none := by decide +kernel
theorem i28_16 : decode (mCd 28) 16 = .ok (.iload_n 1, 1) ∧ lk (mMsk 28) 16 = none := by decide +kernel
theorem i28_17 : decode (mCd 28) 17 = .ok (.if_icmp .ge 7, 3) ∧ lk (mMsk 28) 17 = none := by decide +kernel
theorem i28_24 : decode (mCd 28) 24 = .ok (.aload_n 0, 1) ∧ lk (mMsk 28) 24 = none := by decide +kernel
theorem i28_25 : decode (mCd 28) 25 = .ok (.iload_n 1, 1) ∧ lk (mMsk 28) 25 = none := by decide +kernel
theorem i28_26 : decode (mCd 28) 26 = .ok (.iload_n 2, 1) ∧ lk (mMsk 28) 26 = none := by decide +kernel
theorem i28_27 : decode (mCd 28) 27 = .ok (.invokevirtual 67, 3) ∧ lk (mMsk 28) 27 = none := by decide +kernel
theorem i28_30 : decode (mCd 28) 30 = .ok (.ireturn, 1) ∧ lk (mMsk 28) 30 = some [false, false, false, false] := by decide +kernel
theorem i28_20 : decode (mCd 28) 20 = .ok (.iload_n 3, 1) ∧ lk (mMsk 28) 20 = none := by decide +kernel
theorem i28_21 : decode (mCd 28) 21 = .ok (.goto 9, 3) ∧ lk (mMsk 28) 21 = none := by decide +kernel
theorem i28_4 : decode (mCd 28) 4 = .ok (.iload_n 1, 1) ∧ lk (mMsk 28) 4 = none := by decide +kernel
theorem i28_5 : decode (mCd 28) 5 = .ok (.ireturn, 1) ∧ lk (mMsk 28) 5 = none := by decide +kernel
theorem i29_0 : decode (mCd 29) 0 = .ok (.iconst 0, 1) ∧ lk (mMsk 29) 0 = none := by decide +kernel
theorem i29_1 : decode (mCd 29) 1 = .ok (.istore_n 1, 1) ∧ lk (mMsk 29) 1 = none := by decide +kernel
theorem i29_2 : decode (mCd 29) 2 = .ok (.iconst 0, 1) ∧ lk (mMsk 29) 2 = none := by decide +kernel
theorem i29_3 : decode (mCd 29) 3 = .ok (.istore_n 2, 1) ∧ lk (mMsk 29) 3 = none := by decide +kernel
theorem i29_4 : decode (mCd 29) 4 = .ok (.iload_n 2, 1) ∧ lk (mMsk 29) 4 = some [true, true, true] := by decide +kernel
theorem i29_5 : decode (mCd 29) 5 = .ok (.aload_n 0, 1) ∧ lk (mMsk 29) 5 = none := by decide +kernel
theorem i29_6 : decode (mCd 29) 6 = .ok (.getfield 22, 3) ∧ lk (mMsk 29) 6 = none := by decide +kernel
theorem g29_22 : fOk 29 22 2 3 = true := by decide +kernel
theorem i29_9 : decode (mCd 29) 9 = .ok (.if_icmp .ge 32, 3) ∧ lk (mMsk 29) 9 = none := by decide +kernel
theorem i29_41 : decode (mCd 29) 41 = .ok (.iload_n 1, 1) ∧ lk (mMsk 29) 41 = some [false, true, false] := by decide +kernel
theorem i29_12 : decode (mCd 29) 12 = .ok (.iload_n 2, 1) ∧ lk (mMsk 29) 12 = none := by decide +kernel
theorem i29_13 : decode (mCd 29) 13 = .ok (.bipush 12, 2) ∧ lk (mMsk 29) 13 = none := by decide +kernel
theorem i29_15 : decode (mCd 29) 15 = .ok (.if_icmp .ge 26, 3) ∧ lk (mMsk 29) 15 = none := by decide +kernel
theorem i29_18 : decode (mCd 29) 18 = .ok (.iload_n 1, 1) ∧ lk (mMsk 29) 18 = none := by decide +kernel
theorem i29_19 : decode (mCd 29) 19 = .ok (.aload_n 0, 1) ∧ lk (mMsk 29) 19 = none := by decide +kernel
theorem i29_20 : decode (mCd 29) 20 = .ok (.getfield 18, 3) ∧ lk (mMsk 29) 20 = none := by decide +kernel
theorem g29_18 : fOk 29 18 2 2 = true := by decide +kernel
theorem i29_23 : decode (mCd 29) 23 = .ok (.iload_n 2, 1) ∧ lk (mMsk 29) 23 = none := by decide +kernel
theorem i29_24 : decode (mCd 29) 24 = .ok (.baload, 1) ∧ lk (mMsk 29) 24 = none := by decide +kernel
theorem i29_25 : decode (mCd 29) 25 = .ok (.ifCond .eq 7, 3) ∧ lk (mMsk 29) 25 = none := by decide +kernel
theorem i29_32 : decode (mCd 29) 32 = .ok (.iconst 0, 1) ∧ lk (mMsk 29) 32 = none := by decide +kernel
theorem i29_33 : decode (mCd 29) 33 = .ok (.iadd, 1) ∧ lk (mMsk 29) 33 = some [true, false, true] := by decide +kernel
theorem i29_28 : decode (mCd 29) 28 = .ok (.iconst 1, 1) ∧ lk (mMsk 29) 28 = none := by decide +kernel
theorem i29_29 : decode (mCd 29) 29 = .ok (.goto 4, 3) ∧ lk (mMsk 29) 29 = none := by decide +kernel
theorem i29_34 : decode (mCd 29) 34 = .ok (.istore_n 1, 1) ∧ lk (mMsk 29) 34 = none := by decide +kernel
theorem i29_35 : decode (mCd 29) 35 = .ok (.iinc 2 1, 3) ∧ lk (mMsk 29) 35 = none := by decide +kernel
theorem i29_38 : decode (mCd 29) 38 = .ok (.goto (-34), 3) ∧ lk (mMsk 29) 38 = none := by decide +kernel
theorem i29_42 : decode (mCd 29) 42 = .ok (.ireturn, 1) ∧ lk (mMsk 29) 42 = none := by decide +kernel
theorem i30_0 : decode (mCd 30) 0 = .ok (.aload_n 1, 1) ∧ lk (mMsk 30) 0 = none := by decide +kernel
theorem i30_1 : decode (mCd 30) 1 = .ok (.iload_n 2, 1) ∧ lk (mMsk 30) 1 = none := by decide +kernel
theorem i30_2 : decode (mCd 30) 2 = .ok (.invokevirtual 71, 3) ∧ lk (mMsk 30) 2 = none := by decide +kernel
theorem c30_71 : cvOk 30 71 67 1 0 = true := by decide +kernel
theorem i30_5 : decode (mCd 30) 5 = .ok (.istore 5, 2) ∧ lk (mMsk 30) 5 = none := by decide +kernel
theorem i30_7 : decode (mCd 30) 7 = .ok (.aload_n 3, 1) ∧ lk (mMsk 30) 7 = none := by decide +kernel
theorem i30_8 : decode (mCd 30) 8 = .ok (.iload 4, 2) ∧ lk (mMsk 30) 8 = none := by decide +kernel
theorem i30_10 : decode (mCd 30) 10 = .ok (.invokevirtual 71, 3) ∧ lk (mMsk 30) 10 = none := by decide +kernel
theorem i30_13 : decode (mCd 30) 13 = .ok (.istore 6, 2) ∧ lk (mMsk 30) 13 = none := by decide +kernel
theorem i30_15 : decode (mCd 30) 15 = .ok (.iload 5, 2) ∧ lk (mMsk 30) 15 = none := by decide +kernel
theorem i30_17 : decode (mCd 30) 17 = .ok (.iload 6, 2) ∧ lk (mMsk 30) 17 = none := by decide +kernel
theorem i30_19 : decode (mCd 30) 19 = .ok (.if_icmp .ne 5, 3) ∧ lk (mMsk 30) 19 = none := by decide +kernel
theorem i30_22 : decode (mCd 30) 22 = .ok (.iconst 1, 1) ∧ lk (mMsk 30) 22 = none := by decide +kernel
theorem i30_23 : decode (mCd 30) 23 = .ok (.ireturn, 1) ∧ lk (mMsk 30) 23 = none := by decide +kernel
theorem i30_24 : decode (mCd 30) 24 = .ok (.aload_n 0, 1) ∧ lk (mMsk 30) 24 = none := by decide +kernel
theorem i30_25 : decode (mCd 30) 25 = .ok (.getfield 26, 3) ∧ lk (mMsk 30) 25 = none := by decide +kernel
theorem g30_26 : fOk 30 26 2 4 = true := by decide +kernel
theorem i30_28 : decode (mCd 30) 28 = .ok (.ifCond .eq 23, 3) ∧ lk (mMsk 30) 28 = none := by decide +kernel
theorem i30_51 : decode (mCd 30) 51 = .ok (.aload_n 0, 1) ∧ lk (mMsk 30) 51 = some [true, true, false, true, false, true, true] := by decide +kernel
theorem i30_31 : decode (mCd 30) 31 = .ok (.iload 5, 2) ∧ lk (mMsk 30) 31 = none := by decide +kernel
theorem i30_33 : decode (mCd 30) 33 = .ok (.iconst 2, 1) ∧ lk (mMsk 30) 33 = none := by decide +kernel
theorem i30_34 : decode (mCd 30) 34 = .ok (.iload 6, 2) ∧ lk (mMsk 30) 34 = none := by decide +kernel
theorem i30_36 : decode (mCd 30) 36 = .ok (.imul, 1) ∧ lk (mMsk 30) 36 = none := by decide +kernel
theorem i30_37 : decode (mCd 30) 37 = .ok (.if_icmp .eq 12, 3) ∧ lk (mMsk 30) 37 = none := by decide +kernel
theorem i30_49 : decode (mCd 30) 49 = .ok (.iconst 1, 1) ∧ lk (mMsk 30) 49 = some [false, false, false, false, false, false, false] := by decide +kernel
theorem i30_40 : decode (mCd 30) 40 = .ok (.iload 6, 2) ∧ lk (mMsk 30) 40 = none := by decide +kernel
theorem i30_42 : decode (mCd 30) 42 = .ok (.iconst 2, 1) ∧ lk (mMsk 30) 42 = none := by decide +kernel
theorem i30_43 : decode (mCd 30) 43 = .ok (.iload 5, 2) ∧ lk (mMsk 30) 43 = none := by decide +kernel
theorem i30_45 : decode (mCd 30) 45 = .ok (.imul, 1) ∧ lk (mMsk 30) 45 = none := by decide +kernel
theorem i30_46 : decode (mCd 30) 46 = .ok (.if_icmp .ne 5, 3) ∧ lk (mMsk 30) 46 = none := by decide +kernel
theorem i30_50 : decode (mCd 30) 50 = .ok (.ireturn, 1) ∧ lk (mMsk 30) 50 = none := by decide +kernel
theorem i30_52 : decode (mCd 30) 52 = .ok (.getfield 30, 3) ∧ lk (mMsk 30) 52 = none := by decide +kernel
theorem g30_30 : fOk 30 30 2 5 = true := by decide +kernel
theorem i30_55 : decode (mCd 30) 55 = .ok (.ifCond .eq 15, 3) ∧ lk (mMsk 30) 55 = none := by decide +kernel
theorem i30_70 : decode (mCd 30) 70 = .ok (.aload_n 1, 1) ∧ lk (mMsk 30) 70 = some [false, true, false, true, false, true, true] := by decide +kernel
theorem i30_58 : decode (mCd 30) 58 = .ok (.iload 5, 2) ∧ lk (mMsk 30) 58 = none := by decide +kernel
theorem i30_60 : decode (mCd 30) 60 = .ok (.ifCond .eq 8, 3) ∧ lk (mMsk 30) 60 = none := by decide +kernel
theorem i30_68 : decode (mCd 30) 68 = .ok (.iconst 1, 1) ∧ lk (mMsk 30) 68 = some [false, false, false, false, false, false, false] := by decide +kernel
theorem i30_63 : decode (mCd 30) 63 = .ok (.iload 6, 2) ∧ lk (mMsk 30) 63 = none := by decide +kernel
theorem i30_65 : decode (mCd 30) 65 = .ok (.ifCond .ne 5, 3) ∧ lk (mMsk 30) 65 = none := by decide +kernel
theorem i30_69 : decode (mCd 30) 69 = .ok (.ireturn, 1) ∧ lk (mMsk 30) 69 = none := by decide +kernel
theorem i30_71 : decode (mCd 30) 71 = .ok (.iconst 3, 1) ∧ lk (mMsk 30) 71 = none := by decide +kernel
theorem i30_72 : decode (mCd 30) 72 = .ok (.invokevirtual 77, 3) ∧ lk (mMsk 30) 72 = none := by decide +kernel
theorem c30_77 : cvOk 30 77 66 1 0 = true := by decide +kernel
theorem i30_75 : decode (mCd 30) 75 = .ok (.ifCond .eq 8, 3) ∧ lk (mMsk 30) 75 = none := by decide +kernel
theorem i30_83 : decode (mCd 30) 83 = .ok (.aload_n 3, 1) ∧ lk (mMsk 30) 83 = some [false, false, false, true, false, true, false] := by decide +kernel
theorem i30_78 : decode (mCd 30) 78 = .ok (.iload 6, 2) ∧ lk (mMsk 30) 78 = none := by decide +kernel
theorem i30_80 : decode (mCd 30) 80 = .ok (.ifCond .eq 16, 3) ∧ lk (mMsk 30) 80 = none := by decide +kernel
theorem i30_96 : decode (mCd 30) 96 = .ok (.iconst 1, 1) ∧ lk (mMsk 30) 96 = some [false, false, false, false, false, false, false] := by decide +kernel
theorem i30_97 : decode (mCd 30) 97 = .ok (.goto 4, 3) ∧ lk (mMsk 30) 97 = none := by decide +kernel
theorem i30_101 : decode (mCd 30) 101 = .ok (.ireturn, 1) ∧ lk (mMsk 30) 101 = some [false, false, false, false, false, false, false] := by decide +kernel
theorem i30_84 : decode (mCd 30) 84 = .ok (.iconst 3, 1) ∧ lk (mMsk 30) 84 = none := by decide +kernel
theorem i30_85 : decode (mCd 30) 85 = .ok (.invokevirtual 77, 3) ∧ lk (mMsk 30) 85 = none := by decide +kernel
theorem i30_88 : decode (mCd 30) 88 = .ok (.ifCond .eq 12, 3) ∧ lk (mMsk 30) 88 = none := by decide +kernel
theorem i30_100 : decode (mCd 30) 100 = .ok (.iconst 0, 1) ∧ lk (mMsk 30) 100 = some [false, false, false, false, false, false, false] := by decide +kernel
theorem i30_91 : decode (mCd 30) 91 = .ok (.iload 5, 2) ∧ lk (mMsk 30) 91 = none := by decide +kernel
theorem i30_93 : decode (mCd 30) 93 = .ok (.ifCond .ne 7, 3) ∧ lk (mMsk 30) 93 = none := by decide +kernel
theorem f_Net_become_eq   {S : Mem} : f_Net_become  S = if zb (S.1 3 4) = true then if zb (S.1 3 5) = true then bU (f_JArr_fill 11 (-1) (u1 (u1 (u1 S 7 3 (S.1 3 3)) 7 4 (S.1 3 4)) 7 5 (S.1 3 5))) (fun S3 => k_Net_become_34 0 S3) else none else none := by
  show cU (mV oS X0 22 0 [some (.ref 7), some (.ref 3), none] [] S) = _
  refine V_aload_n (c := cU) i22_0.1 (mM_n i22_0.2) rfl rfl ?_
  refine V_aload_n (c := cU) i22_1.1 (mM_n i22_1.2) rfl rfl ?_
  refine V_gf (c := cU) i22_2.1 (mM_n i22_2.2) (v := .int (S.1 3 3)) g22_48 rfl ?_
  refine V_pf (c := cU) i22_5.1 (mM_n i22_5.2) p22_22 (pf_i rfl rfl rfl) ?_
  refine V_aload_n (c := cU) i22_8.1 (mM_n i22_8.2) rfl rfl ?_
  refine V_aload_n (c := cU) i22_9.1 (mM_n i22_9.2) rfl rfl ?_
  refine V_gf (c := cU) i22_10.1 (mM_n i22_10.2) (v := .int (S.1 3 4)) g22_51 rfl ?_
  refine V_pfZ (c := cU) i22_13.1 (mM_n i22_13.2) p22_26 rfl rfl rfl rfl (fun _ => ?_)
  refine V_aload_n (c := cU) i22_16.1 (mM_n i22_16.2) rfl rfl ?_
  refine V_aload_n (c := cU) i22_17.1 (mM_n i22_17.2) rfl rfl ?_
  refine V_gf (c := cU) i22_18.1 (mM_n i22_18.2) (v := .int (S.1 3 5)) g22_52 rfl ?_
  refine V_pfZ (c := cU) i22_21.1 (mM_n i22_21.2) p22_30 rfl rfl rfl rfl (fun _ => ?_)
  refine V_aload_n (c := cU) i22_24.1 (mM_n i22_24.2) rfl rfl ?_
  refine V_gf (c := cU) i22_25.1 (mM_n i22_25.2) (v := .ref 11) g22_33 rfl ?_
  refine V_iconst (c := cU) i22_28.1 (mM_n i22_28.2) (v := (-1)) rfl ?_
  refine V_ciU (c := cU) (As := [.ref 11, .int (-1)]) (rest := []) i22_29.1 (mM_n i22_29.2) c22_42 rfl rfl rfl (Nat.le_of_ble_eq_true rfl) rfl (fun S3 => ?_)
  refine V_iconst (c := cU) i22_32.1 (mM_n i22_32.2) (v := 0) rfl ?_
  refine V_istore_n (c := cU) i22_33.1 (mM_n i22_33.2) (l1 := [some (.ref 7), some (.ref 3), some (.int 0)])  (Nat.le_of_ble_eq_true rfl) rfl ?_
  exact V_msk (l1 := [some (.ref 7), some (.ref 3), some (.int 0)]) i22_34.2 rfl rfl
theorem k_Net_become_34_eq {x2 : Int32}  {S : Mem} : k_Net_become_34 x2 S = if (S.1 7 3) ≤ x2 then k_Net_become_134 S else if 12 ≤ x2 then k_Net_become_134 S else if inb x2 12 = true then if inb x2 12 = true then if inb x2 12 = true then if inb x2 12 = true then if inb x2 12 = true then if inb x2 12 = true then if inb x2 12 = true then if inb x2 12 = true then if inb (((8 : Int32) * ((u1 S 8 x2.toNatClampNeg (S.1 4 (x2.toNatClampNeg))).1 8 (x2.toNatClampNeg))) + ((u1 (u1 S 8 x2.toNatClampNeg (S.1 4 (x2.toNatClampNeg))) 9 x2.toNatClampNeg (S.1 5 (x2.toNatClampNeg))).1 9 (x2.toNatClampNeg))) 64 = true then if inb x2 12 = true then if inb x2 12 = true then if inb (((8 : Int32) * ((u1 (u1 S 8 x2.toNatClampNeg (S.1 4 (x2.toNatClampNeg))) 9 x2.toNatClampNeg (S.1 5 (x2.toNatClampNeg))).1 9 (x2.toNatClampNeg))) + ((u1 S 8 x2.toNatClampNeg (S.1 4 (x2.toNatClampNeg))).1 8 (x2.toNatClampNeg))) 64 = true then k_Net_become_34 (x2 + 1) (u1 (u1 (u1 (u1 (u1 S 8 x2.toNatClampNeg (S.1 4 (x2.toNatClampNeg))) 9 x2.toNatClampNeg (S.1 5 (x2.toNatClampNeg))) 10 x2.toNatClampNeg (vp_nar .boolean (S.1 6 (x2.toNatClampNeg)))) 11 ((((8 : Int32) * ((u1 S 8 x2.toNatClampNeg (S.1 4 (x2.toNatClampNeg))).1 8 (x2.toNatClampNeg))) + ((u1 (u1 S 8 x2.toNatClampNeg (S.1 4 (x2.toNatClampNeg))) 9 x2.toNatClampNeg (S.1 5 (x2.toNatClampNeg))).1 9 (x2.toNatClampNeg))).toNatClampNeg) x2) 11 ((((8 : Int32) * ((u1 (u1 S 8 x2.toNatClampNeg (S.1 4 (x2.toNatClampNeg))) 9 x2.toNatClampNeg (S.1 5 (x2.toNatClampNeg))).1 9 (x2.toNatClampNeg))) + ((u1 S 8 x2.toNatClampNeg (S.1 4 (x2.toNatClampNeg))).1 8 (x2.toNatClampNeg))).toNatClampNeg) x2) else none else none else none else none else none else none else none else none else none else none else none else none := by
  show cU (mV oS X0 22 34 [some (.ref 7), some (.ref 3), some (.int x2)] [] S) = _
  refine V_iload_n (c := cU) i22_34.1 (mM_s i22_34.2 rfl) rfl ?_
  refine V_aload_n (c := cU) i22_35.1 (mM_n i22_35.2) rfl rfl ?_
  refine V_gf (c := cU) i22_36.1 (mM_n i22_36.2) (v := .int (S.1 7 3)) g22_22 rfl ?_
  refine V_icmp_ge (c := cU) i22_39.1 (mM_n i22_39.2) rfl (fun _ => ?_) (fun _ => ?_)
  · exact V_msk (l1 := [some (.ref 7), none, none]) i22_134.2 rfl rfl
  · refine V_iload_n (c := cU) i22_42.1 (mM_n i22_42.2) rfl ?_
    refine V_bipush (c := cU) i22_43.1 (mM_n i22_43.2) (v := 12) rfl ?_
    refine V_icmp_ge (c := cU) i22_45.1 (mM_n i22_45.2) rfl (fun _ => ?_) (fun _ => ?_)
    · exact V_msk (l1 := [some (.ref 7), none, none]) i22_134.2 rfl rfl
    · refine V_aload_n (c := cU) i22_48.1 (mM_n i22_48.2) rfl rfl ?_
      refine V_gf (c := cU) i22_49.1 (mM_n i22_49.2) (v := .ref 8) g22_9 rfl ?_
      refine V_iload_n (c := cU) i22_52.1 (mM_n i22_52.2) rfl ?_
      refine V_aload_n (c := cU) i22_53.1 (mM_n i22_53.2) rfl rfl ?_
      refine V_gf (c := cU) i22_54.1 (mM_n i22_54.2) (v := .ref 4) g22_53 rfl ?_
      refine V_iload_n (c := cU) i22_57.1 (mM_n i22_57.2) rfl ?_
      refine V_iaload (c := cU) i22_58.1 (mM_n i22_58.2) rfl rfl (fun _ => ?_)
      refine V_iastore (c := cU) (x1 := (S.1 4 (x2.toNatClampNeg))) i22_59.1 (mM_n i22_59.2) rfl rfl rfl rfl (fun _ => ?_)
      refine V_aload_n (c := cU) i22_60.1 (mM_n i22_60.2) rfl rfl ?_
      refine V_gf (c := cU) i22_61.1 (mM_n i22_61.2) (v := .ref 9) g22_15 rfl ?_
      refine V_iload_n (c := cU) i22_64.1 (mM_n i22_64.2) rfl ?_
      refine V_aload_n (c := cU) i22_65.1 (mM_n i22_65.2) rfl rfl ?_
      refine V_gf (c := cU) i22_66.1 (mM_n i22_66.2) (v := .ref 5) g22_54 rfl ?_
      refine V_iload_n (c := cU) i22_69.1 (mM_n i22_69.2) rfl ?_
      refine V_iaload (c := cU) i22_70.1 (mM_n i22_70.2) rfl rfl (fun _ => ?_)
      refine V_iastore (c := cU) (x1 := (S.1 5 (x2.toNatClampNeg))) i22_71.1 (mM_n i22_71.2) rfl rfl rfl rfl (fun _ => ?_)
      refine V_aload_n (c := cU) i22_72.1 (mM_n i22_72.2) rfl rfl ?_
      refine V_gf (c := cU) i22_73.1 (mM_n i22_73.2) (v := .ref 10) g22_18 rfl ?_
      refine V_iload_n (c := cU) i22_76.1 (mM_n i22_76.2) rfl ?_
      refine V_aload_n (c := cU) i22_77.1 (mM_n i22_77.2) rfl rfl ?_
      refine V_gf (c := cU) i22_78.1 (mM_n i22_78.2) (v := .ref 6) g22_55 rfl ?_
      refine V_iload_n (c := cU) i22_81.1 (mM_n i22_81.2) rfl ?_
      refine V_baload (c := cU) i22_82.1 (mM_n i22_82.2) rfl rfl rfl (fun _ => ?_)
      refine V_bastore (c := cU) (x1 := vp_nar .boolean (S.1 6 (x2.toNatClampNeg))) i22_83.1 (mM_n i22_83.2) rfl rfl rfl rfl (fun _ => ?_)
      refine V_aload_n (c := cU) i22_84.1 (mM_n i22_84.2) rfl rfl ?_
      refine V_gf (c := cU) i22_85.1 (mM_n i22_85.2) (v := .ref 11) g22_33 rfl ?_
      refine V_bipush (c := cU) i22_88.1 (mM_n i22_88.2) (v := 8) rfl ?_
      refine V_aload_n (c := cU) i22_90.1 (mM_n i22_90.2) rfl rfl ?_
      refine V_gf (c := cU) i22_91.1 (mM_n i22_91.2) (v := .ref 8) g22_9 rfl ?_
      refine V_iload_n (c := cU) i22_94.1 (mM_n i22_94.2) rfl ?_
      refine V_iaload (c := cU) i22_95.1 (mM_n i22_95.2) rfl rfl (fun _ => ?_)
      refine V_imul (c := cU) i22_96.1 (mM_n i22_96.2)  ?_
      refine V_aload_n (c := cU) i22_97.1 (mM_n i22_97.2) rfl rfl ?_
      refine V_gf (c := cU) i22_98.1 (mM_n i22_98.2) (v := .ref 9) g22_15 rfl ?_
      refine V_iload_n (c := cU) i22_101.1 (mM_n i22_101.2) rfl ?_
      refine V_iaload (c := cU) i22_102.1 (mM_n i22_102.2) rfl rfl (fun _ => ?_)
      refine V_iadd (c := cU) i22_103.1 (mM_n i22_103.2)  ?_
      refine V_iload_n (c := cU) i22_104.1 (mM_n i22_104.2) rfl ?_
      refine V_iastore (c := cU) (x1 := x2) i22_105.1 (mM_n i22_105.2) rfl rfl rfl rfl (fun _ => ?_)
      refine V_aload_n (c := cU) i22_106.1 (mM_n i22_106.2) rfl rfl ?_
      refine V_gf (c := cU) i22_107.1 (mM_n i22_107.2) (v := .ref 11) g22_33 rfl ?_
      refine V_bipush (c := cU) i22_110.1 (mM_n i22_110.2) (v := 8) rfl ?_
      refine V_aload_n (c := cU) i22_112.1 (mM_n i22_112.2) rfl rfl ?_
      refine V_gf (c := cU) i22_113.1 (mM_n i22_113.2) (v := .ref 9) g22_15 rfl ?_
      refine V_iload_n (c := cU) i22_116.1 (mM_n i22_116.2) rfl ?_
      refine V_iaload (c := cU) i22_117.1 (mM_n i22_117.2) rfl rfl (fun _ => ?_)
      refine V_imul (c := cU) i22_118.1 (mM_n i22_118.2)  ?_
      refine V_aload_n (c := cU) i22_119.1 (mM_n i22_119.2) rfl rfl ?_
      refine V_gf (c := cU) i22_120.1 (mM_n i22_120.2) (v := .ref 8) g22_9 rfl ?_
      refine V_iload_n (c := cU) i22_123.1 (mM_n i22_123.2) rfl ?_
      refine V_iaload (c := cU) i22_124.1 (mM_n i22_124.2) rfl rfl (fun _ => ?_)
      refine V_iadd (c := cU) i22_125.1 (mM_n i22_125.2)  ?_
      refine V_iload_n (c := cU) i22_126.1 (mM_n i22_126.2) rfl ?_
      refine V_iastore (c := cU) (x1 := x2) i22_127.1 (mM_n i22_127.2) rfl rfl rfl rfl (fun _ => ?_)
      refine V_iinc (c := cU) i22_128.1 (mM_n i22_128.2) (l1 := [some (.ref 7), some (.ref 3), some (.int (x2 + 1))]) rfl rfl rfl ?_
      refine V_goto (c := cU) i22_131.1 (mM_n i22_131.2) rfl ?_
      exact V_msk (l1 := [some (.ref 7), some (.ref 3), some (.int (x2 + 1))]) i22_34.2 rfl rfl
theorem k_Net_become_134_eq   {S : Mem} : k_Net_become_134  S = bU (f_Net_listSteps S) (fun S4 => some S4) := by
  show cU (mV oS X0 22 134 [some (.ref 7), none, none] [] S) = _
  refine V_aload_n (c := cU) i22_134.1 (mM_s i22_134.2 rfl) rfl rfl ?_
  refine V_cvU (c := cU) (As := []) (rest := []) i22_135.1 (mM_n i22_135.2) c22_56 rfl rfl rfl rfl (Nat.le_of_ble_eq_true rfl) rfl (fun S4 => ?_)
  exact V_vret i22_138.1 (mM_n i22_138.2) rfl
theorem f_Net_listSteps_eq   {S : Mem} : f_Net_listSteps  S = k_Net_listSteps_2 0 S := by
  show cU (mV oS X0 23 0 [some (.ref 7), none, none] [] S) = _
  refine V_iconst (c := cU) i23_0.1 (mM_n i23_0.2) (v := 0) rfl ?_
  refine V_istore_n (c := cU) i23_1.1 (mM_n i23_1.2) (l1 := [some (.ref 7), some (.int 0), none])  (Nat.le_of_ble_eq_true rfl) rfl ?_
  exact V_msk (l1 := [some (.ref 7), some (.int 0), none]) i23_2.2 rfl rfl
theorem k_Net_listSteps_2_eq {x1 : Int32}  {S : Mem} : k_Net_listSteps_2 x1 S = if 8 ≤ x1 then some S else if inb x1 8 = true then k_Net_listSteps_17 x1 0 (u1 S 13 x1.toNatClampNeg 0) else none := by
  show cU (mV oS X0 23 2 [some (.ref 7), some (.int x1), none] [] S) = _
  refine V_iload_n (c := cU) i23_2.1 (mM_s i23_2.2 rfl) rfl ?_
  refine V_bipush (c := cU) i23_3.1 (mM_n i23_3.2) (v := 8) rfl ?_
  refine V_icmp_ge (c := cU) i23_5.1 (mM_n i23_5.2) rfl (fun _ => ?_) (fun _ => ?_)
  · exact V_vret i23_76.1 (mM_n i23_76.2) rfl
  · refine V_aload_n (c := cU) i23_8.1 (mM_n i23_8.2) rfl rfl ?_
    refine V_gf (c := cU) i23_9.1 (mM_n i23_9.2) (v := .ref 13) g23_39 rfl ?_
    refine V_iload_n (c := cU) i23_12.1 (mM_n i23_12.2) rfl ?_
    refine V_iconst (c := cU) i23_13.1 (mM_n i23_13.2) (v := 0) rfl ?_
    refine V_iastore (c := cU) (x1 := 0) i23_14.1 (mM_n i23_14.2) rfl rfl rfl rfl (fun _ => ?_)
    refine V_iconst (c := cU) i23_15.1 (mM_n i23_15.2) (v := 0) rfl ?_
    refine V_istore_n (c := cU) i23_16.1 (mM_n i23_16.2) (l1 := [some (.ref 7), some (.int x1), some (.int 0)])  (Nat.le_of_ble_eq_true rfl) rfl ?_
    exact V_msk (l1 := [some (.ref 7), some (.int x1), some (.int 0)]) i23_17.2 rfl rfl
theorem k_Net_listSteps_17_eq {x1 : Int32} {x2 : Int32}  {S : Mem} : k_Net_listSteps_17 x1 x2 S = if 8 ≤ x2 then k_Net_listSteps_2 (x1 + 1) S else if x1 = x2 then k_Net_listSteps_37 x1 x2 S else bI (f_Net_joins x1 x2 S) (fun r4 S3 => if r4 = 0 then k_Net_listSteps_64 x1 x2 S3 else k_Net_listSteps_37 x1 x2 S3) := by
  show cU (mV oS X0 23 17 [some (.ref 7), some (.int x1), some (.int x2)] [] S) = _
  refine V_iload_n (c := cU) i23_17.1 (mM_s i23_17.2 rfl) rfl ?_
  refine V_bipush (c := cU) i23_18.1 (mM_n i23_18.2) (v := 8) rfl ?_
  refine V_icmp_ge (c := cU) i23_20.1 (mM_n i23_20.2) rfl (fun _ => ?_) (fun _ => ?_)
  · refine V_iinc (c := cU) i23_70.1 (mM_n i23_70.2) (l1 := [some (.ref 7), some (.int (x1 + 1)), some (.int x2)]) rfl rfl rfl ?_
    refine V_goto (c := cU) i23_73.1 (mM_n i23_73.2) rfl ?_
    exact V_msk (l1 := [some (.ref 7), some (.int (x1 + 1)), none]) i23_2.2 rfl rfl
  · refine V_iload_n (c := cU) i23_23.1 (mM_n i23_23.2) rfl ?_
    refine V_iload_n (c := cU) i23_24.1 (mM_n i23_24.2) rfl ?_
    refine V_icmp_eq (c := cU) i23_25.1 (mM_n i23_25.2) rfl (fun _ => ?_) (fun _ => ?_)
    · exact V_msk (l1 := [some (.ref 7), some (.int x1), some (.int x2)]) i23_37.2 rfl rfl
    · refine V_aload_n (c := cU) i23_28.1 (mM_n i23_28.2) rfl rfl ?_
      refine V_iload_n (c := cU) i23_29.1 (mM_n i23_29.2) rfl ?_
      refine V_iload_n (c := cU) i23_30.1 (mM_n i23_30.2) rfl ?_
      refine V_cvI (c := cU) (As := [.int x1, .int x2]) (rest := []) i23_31.1 (mM_n i23_31.2) c23_59 rfl rfl rfl rfl (Nat.le_of_ble_eq_true rfl) rfl (fun r4 S3 => ?_)
      refine V_if_eq (c := cU) i23_34.1 (mM_n i23_34.2) rfl (fun _ => ?_) (fun _ => ?_)
      · exact V_msk (l1 := [some (.ref 7), some (.int x1), some (.int x2)]) i23_64.2 rfl rfl
      · exact V_msk (l1 := [some (.ref 7), some (.int x1), some (.int x2)]) i23_37.2 rfl rfl
theorem k_Net_listSteps_37_eq {x1 : Int32} {x2 : Int32}  {S : Mem} : k_Net_listSteps_37 x1 x2 S = if inb x1 8 = true then if inb (((8 : Int32) * x1) + (S.1 13 (x1.toNatClampNeg))) 64 = true then if inb x1 8 = true then if inb x1 8 = true then k_Net_listSteps_64 x1 x2 (u1 (u1 S 12 ((((8 : Int32) * x1) + (S.1 13 (x1.toNatClampNeg))).toNatClampNeg) x2) 13 x1.toNatClampNeg ((S.1 13 (x1.toNatClampNeg)) + 1)) else none else none else none else none := by
  show cU (mV oS X0 23 37 [some (.ref 7), some (.int x1), some (.int x2)] [] S) = _
  refine V_aload_n (c := cU) i23_37.1 (mM_s i23_37.2 rfl) rfl rfl ?_
  refine V_gf (c := cU) i23_38.1 (mM_n i23_38.2) (v := .ref 12) g23_36 rfl ?_
  refine V_bipush (c := cU) i23_41.1 (mM_n i23_41.2) (v := 8) rfl ?_
  refine V_iload_n (c := cU) i23_43.1 (mM_n i23_43.2) rfl ?_
  refine V_imul (c := cU) i23_44.1 (mM_n i23_44.2)  ?_
  refine V_aload_n (c := cU) i23_45.1 (mM_n i23_45.2) rfl rfl ?_
  refine V_gf (c := cU) i23_46.1 (mM_n i23_46.2) (v := .ref 13) g23_39 rfl ?_
  refine V_iload_n (c := cU) i23_49.1 (mM_n i23_49.2) rfl ?_
  refine V_iaload (c := cU) i23_50.1 (mM_n i23_50.2) rfl rfl (fun _ => ?_)
  refine V_iadd (c := cU) i23_51.1 (mM_n i23_51.2)  ?_
  refine V_iload_n (c := cU) i23_52.1 (mM_n i23_52.2) rfl ?_
  refine V_iastore (c := cU) (x1 := x2) i23_53.1 (mM_n i23_53.2) rfl rfl rfl rfl (fun _ => ?_)
  refine V_aload_n (c := cU) i23_54.1 (mM_n i23_54.2) rfl rfl ?_
  refine V_gf (c := cU) i23_55.1 (mM_n i23_55.2) (v := .ref 13) g23_39 rfl ?_
  refine V_iload_n (c := cU) i23_58.1 (mM_n i23_58.2) rfl ?_
  refine V_dup2 (c := cU) i23_59.1 (mM_n i23_59.2) rfl rfl ?_
  refine V_iaload (c := cU) i23_60.1 (mM_n i23_60.2) rfl rfl (fun _ => ?_)
  refine V_iconst (c := cU) i23_61.1 (mM_n i23_61.2) (v := 1) rfl ?_
  refine V_iadd (c := cU) i23_62.1 (mM_n i23_62.2)  ?_
  refine V_iastore (c := cU) (x1 := ((S.1 13 (x1.toNatClampNeg)) + 1)) i23_63.1 (mM_n i23_63.2) rfl rfl rfl rfl (fun _ => ?_)
  exact V_msk (l1 := [some (.ref 7), some (.int x1), some (.int x2)]) i23_64.2 rfl rfl
theorem k_Net_listSteps_64_eq {x1 : Int32} {x2 : Int32}  {S : Mem} : k_Net_listSteps_64 x1 x2 S = k_Net_listSteps_17 x1 (x2 + 1) S := by
  show cU (mV oS X0 23 64 [some (.ref 7), some (.int x1), some (.int x2)] [] S) = _
  refine V_iinc (c := cU) i23_64.1 (mM_s i23_64.2 rfl) (l1 := [some (.ref 7), some (.int x1), some (.int (x2 + 1))]) rfl rfl rfl ?_
  refine V_goto (c := cU) i23_67.1 (mM_n i23_67.2) rfl ?_
  exact V_msk (l1 := [some (.ref 7), some (.int x1), some (.int (x2 + 1))]) i23_17.2 rfl rfl
theorem f_Net_joins_eq {x1 : Int32} {x2 : Int32}  {S : Mem} : f_Net_joins x1 x2 S = bI (f_Top_isCorner x1 S) (fun r6 S5 => if r6 = 0 then k_Net_joins_33 S5 else bI (f_Top_isCorner x2 S5) (fun r8 S7 => if r8 = 0 then k_Net_joins_33 S7 else if inb (((8 : Int32) * x1) + x2) 64 = true then if (S7.1 11 ((((8 : Int32) * x1) + x2).toNatClampNeg)) = (-1) then k_Net_joins_33 S7 else k_Net_joins_34 1 S7 else none)) := by
  show cI (mV oS X0 24 0 [some (.ref 7), some (.int x1), some (.int x2)] [] S) = _
  refine V_iload_n (c := cI) i24_0.1 (mM_n i24_0.2) rfl ?_
  refine V_ciI (c := cI) (As := [.int x1]) (rest := []) i24_1.1 (mM_n i24_1.2) c24_63 rfl rfl rfl (Nat.le_of_ble_eq_true rfl) rfl (fun r6 S5 => ?_)
  refine V_if_eq (c := cI) i24_4.1 (mM_n i24_4.2) rfl (fun _ => ?_) (fun _ => ?_)
  · exact V_msk (l1 := [none, none, none]) i24_33.2 rfl rfl
  · refine V_iload_n (c := cI) i24_7.1 (mM_n i24_7.2) rfl ?_
    refine V_ciI (c := cI) (As := [.int x2]) (rest := []) i24_8.1 (mM_n i24_8.2) c24_63 rfl rfl rfl (Nat.le_of_ble_eq_true rfl) rfl (fun r8 S7 => ?_)
    refine V_if_eq (c := cI) i24_11.1 (mM_n i24_11.2) rfl (fun _ => ?_) (fun _ => ?_)
    · exact V_msk (l1 := [none, none, none]) i24_33.2 rfl rfl
    · refine V_aload_n (c := cI) i24_14.1 (mM_n i24_14.2) rfl rfl ?_
      refine V_gf (c := cI) i24_15.1 (mM_n i24_15.2) (v := .ref 11) g24_33 rfl ?_
      refine V_bipush (c := cI) i24_18.1 (mM_n i24_18.2) (v := 8) rfl ?_
      refine V_iload_n (c := cI) i24_20.1 (mM_n i24_20.2) rfl ?_
      refine V_imul (c := cI) i24_21.1 (mM_n i24_21.2)  ?_
      refine V_iload_n (c := cI) i24_22.1 (mM_n i24_22.2) rfl ?_
      refine V_iadd (c := cI) i24_23.1 (mM_n i24_23.2)  ?_
      refine V_iaload (c := cI) i24_24.1 (mM_n i24_24.2) rfl rfl (fun _ => ?_)
      refine V_iconst (c := cI) i24_25.1 (mM_n i24_25.2) (v := (-1)) rfl ?_
      refine V_icmp_eq (c := cI) i24_26.1 (mM_n i24_26.2) rfl (fun _ => ?_) (fun _ => ?_)
      · exact V_msk (l1 := [none, none, none]) i24_33.2 rfl rfl
      · refine V_iconst (c := cI) i24_29.1 (mM_n i24_29.2) (v := 1) rfl ?_
        refine V_goto (c := cI) i24_30.1 (mM_n i24_30.2) rfl ?_
        exact V_msk (l1 := [none, none, none]) i24_34.2 rfl rfl
theorem k_Net_joins_33_eq   {S : Mem} : k_Net_joins_33  S = k_Net_joins_34 0 S := by
  show cI (mV oS X0 24 33 [none, none, none] [] S) = _
  refine V_iconst (c := cI) i24_33.1 (mM_s i24_33.2 rfl) (v := 0) rfl ?_
  exact V_msk (l1 := [none, none, none]) i24_34.2 rfl rfl
theorem k_Net_joins_34_eq {xs0 : Int32}  {S : Mem} : k_Net_joins_34 xs0 S = if zb xs0 = true then some (xs0, S) else none := by
  show cI (mV oS X0 24 34 [none, none, none] [.int xs0] S) = _
  exact V_iretZ i24_34.1 (mM_s i24_34.2 rfl) rfl
theorem f_Net_isNarrow_eq {x1 : Int32} {x2 : Int32} {x3 : Int32}  {S : Mem} : f_Net_isNarrow x1 x2 x3 S = if x1 < 0 then k_Net_isNarrow_26 S else if 8 ≤ x1 then k_Net_isNarrow_26 S else if x2 < 0 then k_Net_isNarrow_26 S else if 8 ≤ x2 then k_Net_isNarrow_26 S else if x3 = 12 then k_Net_isNarrow_26 S else if inb (((8 : Int32) * x1) + x2) 64 = true then if (S.1 11 ((((8 : Int32) * x1) + x2).toNatClampNeg)) < 0 then k_Net_isNarrow_73 S else if 12 ≤ (S.1 11 ((((8 : Int32) * x1) + x2).toNatClampNeg)) then k_Net_isNarrow_73 S else if inb (S.1 11 ((((8 : Int32) * x1) + x2).toNatClampNeg)) 12 = true then if (S.1 10 ((S.1 11 ((((8 : Int32) * x1) + x2).toNatClampNeg)).toNatClampNeg)) = 0 then if (S.1 11 ((((8 : Int32) * x1) + x2).toNatClampNeg)) = x3 then k_Net_isNarrow_73 S else k_Net_isNarrow_74 1 S else k_Net_isNarrow_73 S else none else none := by
  show cI (mV oS X0 25 0 [some (.ref 7), some (.int x1), some (.int x2), some (.int x3), none] [] S) = _
  refine V_iload_n (c := cI) i25_0.1 (mM_n i25_0.2) rfl ?_
  refine V_if_lt (c := cI) i25_1.1 (mM_n i25_1.2) rfl (fun _ => ?_) (fun _ => ?_)
  · exact V_msk (l1 := [none, none, none, none, none]) i25_26.2 rfl rfl
  · refine V_iload_n (c := cI) i25_4.1 (mM_n i25_4.2) rfl ?_
    refine V_bipush (c := cI) i25_5.1 (mM_n i25_5.2) (v := 8) rfl ?_
    refine V_icmp_ge (c := cI) i25_7.1 (mM_n i25_7.2) rfl (fun _ => ?_) (fun _ => ?_)
    · exact V_msk (l1 := [none, none, none, none, none]) i25_26.2 rfl rfl
    · refine V_iload_n (c := cI) i25_10.1 (mM_n i25_10.2) rfl ?_
      refine V_if_lt (c := cI) i25_11.1 (mM_n i25_11.2) rfl (fun _ => ?_) (fun _ => ?_)
      · exact V_msk (l1 := [none, none, none, none, none]) i25_26.2 rfl rfl
      · refine V_iload_n (c := cI) i25_14.1 (mM_n i25_14.2) rfl ?_
        refine V_bipush (c := cI) i25_15.1 (mM_n i25_15.2) (v := 8) rfl ?_
        refine V_icmp_ge (c := cI) i25_17.1 (mM_n i25_17.2) rfl (fun _ => ?_) (fun _ => ?_)
        · exact V_msk (l1 := [none, none, none, none, none]) i25_26.2 rfl rfl
        · refine V_iload_n (c := cI) i25_20.1 (mM_n i25_20.2) rfl ?_
          refine V_bipush (c := cI) i25_21.1 (mM_n i25_21.2) (v := 12) rfl ?_
          refine V_icmp_ne (c := cI) i25_23.1 (mM_n i25_23.2) rfl (fun _ => ?_) (fun _ => ?_)
          · exact V_msk (l1 := [none, none, none, none, none]) i25_26.2 rfl rfl
          · refine V_aload_n (c := cI) i25_28.1 (mM_n i25_28.2) rfl rfl ?_
            refine V_gf (c := cI) i25_29.1 (mM_n i25_29.2) (v := .ref 11) g25_33 rfl ?_
            refine V_bipush (c := cI) i25_32.1 (mM_n i25_32.2) (v := 8) rfl ?_
            refine V_iload_n (c := cI) i25_34.1 (mM_n i25_34.2) rfl ?_
            refine V_imul (c := cI) i25_35.1 (mM_n i25_35.2)  ?_
            refine V_iload_n (c := cI) i25_36.1 (mM_n i25_36.2) rfl ?_
            refine V_iadd (c := cI) i25_37.1 (mM_n i25_37.2)  ?_
            refine V_iaload (c := cI) i25_38.1 (mM_n i25_38.2) rfl rfl (fun _ => ?_)
            refine V_istore (c := cI) i25_39.1 (mM_n i25_39.2) (l1 := [some (.ref 7), some (.int x1), some (.int x2), some (.int x3), some (.int (S.1 11 ((((8 : Int32) * x1) + x2).toNatClampNeg)))])  (Nat.le_of_ble_eq_true rfl) rfl ?_
            refine V_iload (c := cI) i25_41.1 (mM_n i25_41.2) rfl ?_
            refine V_if_lt (c := cI) i25_43.1 (mM_n i25_43.2) rfl (fun _ => ?_) (fun _ => ?_)
            · exact V_msk (l1 := [none, none, none, none, none]) i25_73.2 rfl rfl
            · refine V_iload (c := cI) i25_46.1 (mM_n i25_46.2) rfl ?_
              refine V_bipush (c := cI) i25_48.1 (mM_n i25_48.2) (v := 12) rfl ?_
              refine V_icmp_ge (c := cI) i25_50.1 (mM_n i25_50.2) rfl (fun _ => ?_) (fun _ => ?_)
              · exact V_msk (l1 := [none, none, none, none, none]) i25_73.2 rfl rfl
              · refine V_aload_n (c := cI) i25_53.1 (mM_n i25_53.2) rfl rfl ?_
                refine V_gf (c := cI) i25_54.1 (mM_n i25_54.2) (v := .ref 10) g25_18 rfl ?_
                refine V_iload (c := cI) i25_57.1 (mM_n i25_57.2) rfl ?_
                refine V_baload (c := cI) i25_59.1 (mM_n i25_59.2) rfl rfl rfl (fun _ => ?_)
                refine V_if_ne (c := cI) i25_60.1 (mM_n i25_60.2) rfl (fun _ => ?_) (fun _ => ?_)
                · refine V_iload (c := cI) i25_63.1 (mM_n i25_63.2) rfl ?_
                  refine V_iload_n (c := cI) i25_65.1 (mM_n i25_65.2) rfl ?_
                  refine V_icmp_eq (c := cI) i25_66.1 (mM_n i25_66.2) rfl (fun _ => ?_) (fun _ => ?_)
                  · exact V_msk (l1 := [none, none, none, none, none]) i25_73.2 rfl rfl
                  · refine V_iconst (c := cI) i25_69.1 (mM_n i25_69.2) (v := 1) rfl ?_
                    refine V_goto (c := cI) i25_70.1 (mM_n i25_70.2) rfl ?_
                    exact V_msk (l1 := [none, none, none, none, none]) i25_74.2 rfl rfl
                · exact V_msk (l1 := [none, none, none, none, none]) i25_73.2 rfl rfl
theorem k_Net_isNarrow_26_eq   {S : Mem} : k_Net_isNarrow_26  S = some (0, S) := by
  show cI (mV oS X0 25 26 [none, none, none, none, none] [] S) = _
  refine V_iconst (c := cI) i25_26.1 (mM_s i25_26.2 rfl) (v := 0) rfl ?_
  exact V_iret i25_27.1 (mM_n i25_27.2) rfl
theorem k_Net_isNarrow_73_eq   {S : Mem} : k_Net_isNarrow_73  S = k_Net_isNarrow_74 0 S := by
  show cI (mV oS X0 25 73 [none, none, none, none, none] [] S) = _
  refine V_iconst (c := cI) i25_73.1 (mM_s i25_73.2 rfl) (v := 0) rfl ?_
  exact V_msk (l1 := [none, none, none, none, none]) i25_74.2 rfl rfl
theorem k_Net_isNarrow_74_eq {xs0 : Int32}  {S : Mem} : k_Net_isNarrow_74 xs0 S = if zb xs0 = true then some (xs0, S) else none := by
  show cI (mV oS X0 25 74 [none, none, none, none, none] [.int xs0] S) = _
  exact V_iretZ i25_74.1 (mM_s i25_74.2 rfl) rfl
theorem f_Net_stepsFrom_eq {x1 : Int32}  {S : Mem} : f_Net_stepsFrom x1 S = bI (f_Top_isCorner x1 S) (fun r4 S3 => if r4 = 0 then k_Net_stepsFrom_17 0 S3 else if inb x1 8 = true then k_Net_stepsFrom_17 (S3.1 13 (x1.toNatClampNeg)) S3 else none) := by
  show cI (mV oS X0 26 0 [some (.ref 7), some (.int x1)] [] S) = _
  refine V_iload_n (c := cI) i26_0.1 (mM_n i26_0.2) rfl ?_
  refine V_ciI (c := cI) (As := [.int x1]) (rest := []) i26_1.1 (mM_n i26_1.2) c26_63 rfl rfl rfl (Nat.le_of_ble_eq_true rfl) rfl (fun r4 S3 => ?_)
  refine V_if_eq (c := cI) i26_4.1 (mM_n i26_4.2) rfl (fun _ => ?_) (fun _ => ?_)
  · refine V_iconst (c := cI) i26_16.1 (mM_n i26_16.2) (v := 0) rfl ?_
    exact V_msk (l1 := [none, none]) i26_17.2 rfl rfl
  · refine V_aload_n (c := cI) i26_7.1 (mM_n i26_7.2) rfl rfl ?_
    refine V_gf (c := cI) i26_8.1 (mM_n i26_8.2) (v := .ref 13) g26_39 rfl ?_
    refine V_iload_n (c := cI) i26_11.1 (mM_n i26_11.2) rfl ?_
    refine V_iaload (c := cI) i26_12.1 (mM_n i26_12.2) rfl rfl (fun _ => ?_)
    refine V_goto (c := cI) i26_13.1 (mM_n i26_13.2) rfl ?_
    exact V_msk (l1 := [none, none]) i26_17.2 rfl rfl
theorem k_Net_stepsFrom_17_eq {xs0 : Int32}  {S : Mem} : k_Net_stepsFrom_17 xs0 S = some (xs0, S) := by
  show cI (mV oS X0 26 17 [none, none] [.int xs0] S) = _
  exact V_iret i26_17.1 (mM_s i26_17.2 rfl) rfl
theorem f_Net_step_eq {x1 : Int32} {x2 : Int32}  {S : Mem} : f_Net_step x1 x2 S = bI (f_Top_isCorner x1 S) (fun r4 S3 => if r4 = 0 then k_Net_step_35 x1 S3 else if x2 < 0 then k_Net_step_35 x1 S3 else if inb x1 8 = true then if (S3.1 13 (x1.toNatClampNeg)) ≤ x2 then k_Net_step_35 x1 S3 else if inb (((8 : Int32) * x1) + x2) 64 = true then k_Net_step_36 (S3.1 12 ((((8 : Int32) * x1) + x2).toNatClampNeg)) S3 else none else none) := by
  show cI (mV oS X0 27 0 [some (.ref 7), some (.int x1), some (.int x2)] [] S) = _
  refine V_iload_n (c := cI) i27_0.1 (mM_n i27_0.2) rfl ?_
  refine V_ciI (c := cI) (As := [.int x1]) (rest := []) i27_1.1 (mM_n i27_1.2) c27_63 rfl rfl rfl (Nat.le_of_ble_eq_true rfl) rfl (fun r4 S3 => ?_)
  refine V_if_eq (c := cI) i27_4.1 (mM_n i27_4.2) rfl (fun _ => ?_) (fun _ => ?_)
  · exact V_msk (l1 := [none, some (.int x1), none]) i27_35.2 rfl rfl
  · refine V_iload_n (c := cI) i27_7.1 (mM_n i27_7.2) rfl ?_
    refine V_if_lt (c := cI) i27_8.1 (mM_n i27_8.2) rfl (fun _ => ?_) (fun _ => ?_)
    · exact V_msk (l1 := [none, some (.int x1), none]) i27_35.2 rfl rfl
    · refine V_iload_n (c := cI) i27_11.1 (mM_n i27_11.2) rfl ?_
      refine V_aload_n (c := cI) i27_12.1 (mM_n i27_12.2) rfl rfl ?_
      refine V_gf (c := cI) i27_13.1 (mM_n i27_13.2) (v := .ref 13) g27_39 rfl ?_
      refine V_iload_n (c := cI) i27_16.1 (mM_n i27_16.2) rfl ?_
      refine V_iaload (c := cI) i27_17.1 (mM_n i27_17.2) rfl rfl (fun _ => ?_)
      refine V_icmp_ge (c := cI) i27_18.1 (mM_n i27_18.2) rfl (fun _ => ?_) (fun _ => ?_)
      · exact V_msk (l1 := [none, some (.int x1), none]) i27_35.2 rfl rfl
      · refine V_aload_n (c := cI) i27_21.1 (mM_n i27_21.2) rfl rfl ?_
        refine V_gf (c := cI) i27_22.1 (mM_n i27_22.2) (v := .ref 12) g27_36 rfl ?_
        refine V_bipush (c := cI) i27_25.1 (mM_n i27_25.2) (v := 8) rfl ?_
        refine V_iload_n (c := cI) i27_27.1 (mM_n i27_27.2) rfl ?_
        refine V_imul (c := cI) i27_28.1 (mM_n i27_28.2)  ?_
        refine V_iload_n (c := cI) i27_29.1 (mM_n i27_29.2) rfl ?_
        refine V_iadd (c := cI) i27_30.1 (mM_n i27_30.2)  ?_
        refine V_iaload (c := cI) i27_31.1 (mM_n i27_31.2) rfl rfl (fun _ => ?_)
        refine V_goto (c := cI) i27_32.1 (mM_n i27_32.2) rfl ?_
        exact V_msk (l1 := [none, none, none]) i27_36.2 rfl rfl
theorem k_Net_step_35_eq {x1 : Int32}  {S : Mem} : k_Net_step_35 x1 S = k_Net_step_36 x1 S := by
  show cI (mV oS X0 27 35 [none, some (.int x1), none] [] S) = _
  refine V_iload_n (c := cI) i27_35.1 (mM_s i27_35.2 rfl) rfl ?_
  exact V_msk (l1 := [none, none, none]) i27_36.2 rfl rfl
theorem k_Net_step_36_eq {xs0 : Int32}  {S : Mem} : k_Net_step_36 xs0 S = some (xs0, S) := by
  show cI (mV oS X0 27 36 [none, none, none] [.int xs0] S) = _
  exact V_iret i27_36.1 (mM_s i27_36.2 rfl) rfl
theorem f_Net_drawn_eq {x1 : Int32} {x2 : Int32}  {S : Mem} : f_Net_drawn x1 x2 S = if 0 < x2 then bI (f_Net_step x1 (x2 - 1) S) (fun r6 S5 => if x1 ≤ r6 then bI (f_Net_step x1 x2 S5) (fun r8 S7 => k_Net_drawn_30 r8 S7) else k_Net_drawn_30 r6 S5) else some (x1, S) := by
  show cI (mV oS X0 28 0 [some (.ref 7), some (.int x1), some (.int x2), none] [] S) = _
  refine V_iload_n (c := cI) i28_0.1 (mM_n i28_0.2) rfl ?_
  refine V_if_gt (c := cI) i28_1.1 (mM_n i28_1.2) rfl (fun _ => ?_) (fun _ => ?_)
  · refine V_aload_n (c := cI) i28_6.1 (mM_n i28_6.2) rfl rfl ?_
    refine V_iload_n (c := cI) i28_7.1 (mM_n i28_7.2) rfl ?_
    refine V_iload_n (c := cI) i28_8.1 (mM_n i28_8.2) rfl ?_
    refine V_iconst (c := cI) i28_9.1 (mM_n i28_9.2) (v := 1) rfl ?_
    refine V_isub (c := cI) i28_10.1 (mM_n i28_10.2)  ?_
    refine V_cvI (c := cI) (As := [.int x1, .int (x2 - 1)]) (rest := []) i28_11.1 (mM_n i28_11.2) c28_67 rfl rfl rfl rfl (Nat.le_of_ble_eq_true rfl) rfl (fun r6 S5 => ?_)
    refine V_istore_n (c := cI) i28_14.1 (mM_n i28_14.2) (l1 := [some (.ref 7), some (.int x1), some (.int x2), some (.int r6)])  (Nat.le_of_ble_eq_true rfl) rfl ?_
    refine V_iload_n (c := cI) i28_15.1 (mM_n i28_15.2) rfl ?_
    refine V_iload_n (c := cI) i28_16.1 (mM_n i28_16.2) rfl ?_
    refine V_icmp_ge (c := cI) i28_17.1 (mM_n i28_17.2) rfl (fun _ => ?_) (fun _ => ?_)
    · refine V_aload_n (c := cI) i28_24.1 (mM_n i28_24.2) rfl rfl ?_
      refine V_iload_n (c := cI) i28_25.1 (mM_n i28_25.2) rfl ?_
      refine V_iload_n (c := cI) i28_26.1 (mM_n i28_26.2) rfl ?_
      refine V_cvI (c := cI) (As := [.int x1, .int x2]) (rest := []) i28_27.1 (mM_n i28_27.2) c28_67 rfl rfl rfl rfl (Nat.le_of_ble_eq_true rfl) rfl (fun r8 S7 => ?_)
      exact V_msk (l1 := [none, none, none, none]) i28_30.2 rfl rfl
    · refine V_iload_n (c := cI) i28_20.1 (mM_n i28_20.2) rfl ?_
      refine V_goto (c := cI) i28_21.1 (mM_n i28_21.2) rfl ?_
      exact V_msk (l1 := [none, none, none, none]) i28_30.2 rfl rfl
  · refine V_iload_n (c := cI) i28_4.1 (mM_n i28_4.2) rfl ?_
    exact V_iret i28_5.1 (mM_n i28_5.2) rfl
theorem k_Net_drawn_30_eq {xs0 : Int32}  {S : Mem} : k_Net_drawn_30 xs0 S = some (xs0, S) := by
  show cI (mV oS X0 28 30 [none, none, none, none] [.int xs0] S) = _
  exact V_iret i28_30.1 (mM_s i28_30.2 rfl) rfl
theorem f_Net_wideOnes_eq   {S : Mem} : f_Net_wideOnes  S = k_Net_wideOnes_4 0 0 S := by
  show cI (mV oS X0 29 0 [some (.ref 7), none, none] [] S) = _
  refine V_iconst (c := cI) i29_0.1 (mM_n i29_0.2) (v := 0) rfl ?_
  refine V_istore_n (c := cI) i29_1.1 (mM_n i29_1.2) (l1 := [some (.ref 7), some (.int 0), none])  (Nat.le_of_ble_eq_true rfl) rfl ?_
  refine V_iconst (c := cI) i29_2.1 (mM_n i29_2.2) (v := 0) rfl ?_
  refine V_istore_n (c := cI) i29_3.1 (mM_n i29_3.2) (l1 := [some (.ref 7), some (.int 0), some (.int 0)])  (Nat.le_of_ble_eq_true rfl) rfl ?_
  exact V_msk (l1 := [some (.ref 7), some (.int 0), some (.int 0)]) i29_4.2 rfl rfl
theorem k_Net_wideOnes_4_eq {x1 : Int32} {x2 : Int32}  {S : Mem} : k_Net_wideOnes_4 x1 x2 S = if (S.1 7 3) ≤ x2 then k_Net_wideOnes_41 x1 S else if 12 ≤ x2 then k_Net_wideOnes_41 x1 S else if inb x2 12 = true then if (S.1 10 (x2.toNatClampNeg)) = 0 then k_Net_wideOnes_33 x2 0 x1 S else k_Net_wideOnes_33 x2 1 x1 S else none := by
  show cI (mV oS X0 29 4 [some (.ref 7), some (.int x1), some (.int x2)] [] S) = _
  refine V_iload_n (c := cI) i29_4.1 (mM_s i29_4.2 rfl) rfl ?_
  refine V_aload_n (c := cI) i29_5.1 (mM_n i29_5.2) rfl rfl ?_
  refine V_gf (c := cI) i29_6.1 (mM_n i29_6.2) (v := .int (S.1 7 3)) g29_22 rfl ?_
  refine V_icmp_ge (c := cI) i29_9.1 (mM_n i29_9.2) rfl (fun _ => ?_) (fun _ => ?_)
  · exact V_msk (l1 := [none, some (.int x1), none]) i29_41.2 rfl rfl
  · refine V_iload_n (c := cI) i29_12.1 (mM_n i29_12.2) rfl ?_
    refine V_bipush (c := cI) i29_13.1 (mM_n i29_13.2) (v := 12) rfl ?_
    refine V_icmp_ge (c := cI) i29_15.1 (mM_n i29_15.2) rfl (fun _ => ?_) (fun _ => ?_)
    · exact V_msk (l1 := [none, some (.int x1), none]) i29_41.2 rfl rfl
    · refine V_iload_n (c := cI) i29_18.1 (mM_n i29_18.2) rfl ?_
      refine V_aload_n (c := cI) i29_19.1 (mM_n i29_19.2) rfl rfl ?_
      refine V_gf (c := cI) i29_20.1 (mM_n i29_20.2) (v := .ref 10) g29_18 rfl ?_
      refine V_iload_n (c := cI) i29_23.1 (mM_n i29_23.2) rfl ?_
      refine V_baload (c := cI) i29_24.1 (mM_n i29_24.2) rfl rfl rfl (fun _ => ?_)
      refine V_if_eq (c := cI) i29_25.1 (mM_n i29_25.2) rfl (fun _ => ?_) (fun _ => ?_)
      · refine V_iconst (c := cI) i29_32.1 (mM_n i29_32.2) (v := 0) rfl ?_
        exact V_msk (l1 := [some (.ref 7), none, some (.int x2)]) i29_33.2 rfl rfl
      · refine V_iconst (c := cI) i29_28.1 (mM_n i29_28.2) (v := 1) rfl ?_
        refine V_goto (c := cI) i29_29.1 (mM_n i29_29.2) rfl ?_
        exact V_msk (l1 := [some (.ref 7), none, some (.int x2)]) i29_33.2 rfl rfl
theorem k_Net_wideOnes_33_eq {x2 : Int32} {xs0 : Int32} {xs1 : Int32}  {S : Mem} : k_Net_wideOnes_33 x2 xs0 xs1 S = k_Net_wideOnes_4 (xs1 + xs0) (x2 + 1) S := by
  show cI (mV oS X0 29 33 [some (.ref 7), none, some (.int x2)] [.int xs0, .int xs1] S) = _
  refine V_iadd (c := cI) i29_33.1 (mM_s i29_33.2 rfl)  ?_
  refine V_istore_n (c := cI) i29_34.1 (mM_n i29_34.2) (l1 := [some (.ref 7), some (.int (xs1 + xs0)), some (.int x2)])  (Nat.le_of_ble_eq_true rfl) rfl ?_
  refine V_iinc (c := cI) i29_35.1 (mM_n i29_35.2) (l1 := [some (.ref 7), some (.int (xs1 + xs0)), some (.int (x2 + 1))]) rfl rfl rfl ?_
  refine V_goto (c := cI) i29_38.1 (mM_n i29_38.2) rfl ?_
  exact V_msk (l1 := [some (.ref 7), some (.int (xs1 + xs0)), some (.int (x2 + 1))]) i29_4.2 rfl rfl
theorem k_Net_wideOnes_41_eq {x1 : Int32}  {S : Mem} : k_Net_wideOnes_41 x1 S = some (x1, S) := by
  show cI (mV oS X0 29 41 [none, some (.int x1), none] [] S) = _
  refine V_iload_n (c := cI) i29_41.1 (mM_s i29_41.2 rfl) rfl ?_
  exact V_iret i29_42.1 (mM_n i29_42.2) rfl
theorem f_Net_letsPass_eq {w1 : Nat} {x2 : Int32} {w3 : Nat} {x4 : Int32} (h_w1 : isW w1) (h_w3 : isW w3) {S : Mem} : f_Net_letsPass w1 x2 w3 x4 S = bI (f_Walker_carriesWith w1 x2 S) (fun r10 S9 => bI (f_Walker_carriesWith w3 x4 S9) (fun r12 S11 => if r10 = r12 then some (1, S11) else if (S11.1 7 4) = 0 then k_Net_letsPass_51 w1 w3 r10 r12 S11 else if r10 = ((2 : Int32) * r12) then k_Net_letsPass_49 S11 else if r12 = ((2 : Int32) * r10) then k_Net_letsPass_49 S11 else k_Net_letsPass_51 w1 w3 r10 r12 S11)) := by
  show cI (mV oS X0 30 0 [some (.ref 7), some (.ref w1), some (.int x2), some (.ref w3), some (.int x4), none, none] [] S) = _
  refine V_aload_n (c := cI) i30_0.1 (mM_n i30_0.2) rfl rfl ?_
  refine V_iload_n (c := cI) i30_1.1 (mM_n i30_1.2) rfl ?_
  refine V_cvI (c := cI) (As := [.int x2]) (rest := []) i30_2.1 (mM_n i30_2.2) c30_71 rfl (cl_sh (isW_o h_w1)) rfl rfl (Nat.le_of_ble_eq_true rfl) rfl (fun r10 S9 => ?_)
  refine V_istore (c := cI) i30_5.1 (mM_n i30_5.2) (l1 := [some (.ref 7), some (.ref w1), some (.int x2), some (.ref w3), some (.int x4), some (.int r10), none])  (Nat.le_of_ble_eq_true rfl) rfl ?_
  refine V_aload_n (c := cI) i30_7.1 (mM_n i30_7.2) rfl rfl ?_
  refine V_iload (c := cI) i30_8.1 (mM_n i30_8.2) rfl ?_
  refine V_cvI (c := cI) (As := [.int x4]) (rest := []) i30_10.1 (mM_n i30_10.2) c30_71 rfl (cl_sh (isW_o h_w3)) rfl rfl (Nat.le_of_ble_eq_true rfl) rfl (fun r12 S11 => ?_)
  refine V_istore (c := cI) i30_13.1 (mM_n i30_13.2) (l1 := [some (.ref 7), some (.ref w1), some (.int x2), some (.ref w3), some (.int x4), some (.int r10), some (.int r12)])  (Nat.le_of_ble_eq_true rfl) rfl ?_
  refine V_iload (c := cI) i30_15.1 (mM_n i30_15.2) rfl ?_
  refine V_iload (c := cI) i30_17.1 (mM_n i30_17.2) rfl ?_
  refine V_icmp_ne (c := cI) i30_19.1 (mM_n i30_19.2) rfl (fun _ => ?_) (fun _ => ?_)
  · refine V_iconst (c := cI) i30_22.1 (mM_n i30_22.2) (v := 1) rfl ?_
    exact V_iret i30_23.1 (mM_n i30_23.2) rfl
  · refine V_aload_n (c := cI) i30_24.1 (mM_n i30_24.2) rfl rfl ?_
    refine V_gf (c := cI) i30_25.1 (mM_n i30_25.2) (v := .int (S11.1 7 4)) g30_26 rfl ?_
    refine V_if_eq (c := cI) i30_28.1 (mM_n i30_28.2) rfl (fun _ => ?_) (fun _ => ?_)
    · exact V_msk (l1 := [some (.ref 7), some (.ref w1), none, some (.ref w3), none, some (.int r10), some (.int r12)]) i30_51.2 rfl rfl
    · refine V_iload (c := cI) i30_31.1 (mM_n i30_31.2) rfl ?_
      refine V_iconst (c := cI) i30_33.1 (mM_n i30_33.2) (v := 2) rfl ?_
      refine V_iload (c := cI) i30_34.1 (mM_n i30_34.2) rfl ?_
      refine V_imul (c := cI) i30_36.1 (mM_n i30_36.2)  ?_
      refine V_icmp_eq (c := cI) i30_37.1 (mM_n i30_37.2) rfl (fun _ => ?_) (fun _ => ?_)
      · exact V_msk (l1 := [none, none, none, none, none, none, none]) i30_49.2 rfl rfl
      · refine V_iload (c := cI) i30_40.1 (mM_n i30_40.2) rfl ?_
        refine V_iconst (c := cI) i30_42.1 (mM_n i30_42.2) (v := 2) rfl ?_
        refine V_iload (c := cI) i30_43.1 (mM_n i30_43.2) rfl ?_
        refine V_imul (c := cI) i30_45.1 (mM_n i30_45.2)  ?_
        refine V_icmp_ne (c := cI) i30_46.1 (mM_n i30_46.2) rfl (fun _ => ?_) (fun _ => ?_)
        · exact V_msk (l1 := [none, none, none, none, none, none, none]) i30_49.2 rfl rfl
        · exact V_msk (l1 := [some (.ref 7), some (.ref w1), none, some (.ref w3), none, some (.int r10), some (.int r12)]) i30_51.2 rfl rfl
theorem k_Net_letsPass_49_eq   {S : Mem} : k_Net_letsPass_49  S = some (1, S) := by
  show cI (mV oS X0 30 49 [none, none, none, none, none, none, none] [] S) = _
  refine V_iconst (c := cI) i30_49.1 (mM_s i30_49.2 rfl) (v := 1) rfl ?_
  exact V_iret i30_50.1 (mM_n i30_50.2) rfl
theorem k_Net_letsPass_51_eq {w1 : Nat} {w3 : Nat} {x5 : Int32} {x6 : Int32} (h_w1 : isW w1) (h_w3 : isW w3) {S : Mem} : k_Net_letsPass_51 w1 w3 x5 x6 S = if (S.1 7 5) = 0 then k_Net_letsPass_70 w1 w3 x5 x6 S else if x5 = 0 then k_Net_letsPass_68 S else if x6 = 0 then k_Net_letsPass_68 S else k_Net_letsPass_70 w1 w3 x5 x6 S := by
  show cI (mV oS X0 30 51 [some (.ref 7), some (.ref w1), none, some (.ref w3), none, some (.int x5), some (.int x6)] [] S) = _
  refine V_aload_n (c := cI) i30_51.1 (mM_s i30_51.2 rfl) rfl rfl ?_
  refine V_gf (c := cI) i30_52.1 (mM_n i30_52.2) (v := .int (S.1 7 5)) g30_30 rfl ?_
  refine V_if_eq (c := cI) i30_55.1 (mM_n i30_55.2) rfl (fun _ => ?_) (fun _ => ?_)
  · exact V_msk (l1 := [none, some (.ref w1), none, some (.ref w3), none, some (.int x5), some (.int x6)]) i30_70.2 rfl rfl
  · refine V_iload (c := cI) i30_58.1 (mM_n i30_58.2) rfl ?_
    refine V_if_eq (c := cI) i30_60.1 (mM_n i30_60.2) rfl (fun _ => ?_) (fun _ => ?_)
    · exact V_msk (l1 := [none, none, none, none, none, none, none]) i30_68.2 rfl rfl
    · refine V_iload (c := cI) i30_63.1 (mM_n i30_63.2) rfl ?_
      refine V_if_ne (c := cI) i30_65.1 (mM_n i30_65.2) rfl (fun _ => ?_) (fun _ => ?_)
      · exact V_msk (l1 := [none, none, none, none, none, none, none]) i30_68.2 rfl rfl
      · exact V_msk (l1 := [none, some (.ref w1), none, some (.ref w3), none, some (.int x5), some (.int x6)]) i30_70.2 rfl rfl
theorem k_Net_letsPass_68_eq   {S : Mem} : k_Net_letsPass_68  S = some (1, S) := by
  show cI (mV oS X0 30 68 [none, none, none, none, none, none, none] [] S) = _
  refine V_iconst (c := cI) i30_68.1 (mM_s i30_68.2 rfl) (v := 1) rfl ?_
  exact V_iret i30_69.1 (mM_n i30_69.2) rfl
theorem k_Net_letsPass_70_eq {w1 : Nat} {w3 : Nat} {x5 : Int32} {x6 : Int32} (h_w1 : isW w1) (h_w3 : isW w3) {S : Mem} : k_Net_letsPass_70 w1 w3 x5 x6 S = bI (f_Walker_isA w1 3 S) (fun r14 S13 => if r14 = 0 then k_Net_letsPass_83 w3 x5 S13 else if x6 = 0 then k_Net_letsPass_96 S13 else k_Net_letsPass_83 w3 x5 S13) := by
  show cI (mV oS X0 30 70 [none, some (.ref w1), none, some (.ref w3), none, some (.int x5), some (.int x6)] [] S) = _
  refine V_aload_n (c := cI) i30_70.1 (mM_s i30_70.2 rfl) rfl rfl ?_
  refine V_iconst (c := cI) i30_71.1 (mM_n i30_71.2) (v := 3) rfl ?_
  refine V_cvI (c := cI) (As := [.int 3]) (rest := []) i30_72.1 (mM_n i30_72.2) c30_77 rfl (cl_sh (isW_o h_w1)) rfl rfl (Nat.le_of_ble_eq_true rfl) rfl (fun r14 S13 => ?_)
  refine V_if_eq (c := cI) i30_75.1 (mM_n i30_75.2) rfl (fun _ => ?_) (fun _ => ?_)
  · exact V_msk (l1 := [none, none, none, some (.ref w3), none, some (.int x5), none]) i30_83.2 rfl rfl
  · refine V_iload (c := cI) i30_78.1 (mM_n i30_78.2) rfl ?_
    refine V_if_eq (c := cI) i30_80.1 (mM_n i30_80.2) rfl (fun _ => ?_) (fun _ => ?_)
    · exact V_msk (l1 := [none, none, none, none, none, none, none]) i30_96.2 rfl rfl
    · exact V_msk (l1 := [none, none, none, some (.ref w3), none, some (.int x5), none]) i30_83.2 rfl rfl
theorem k_Net_letsPass_83_eq {w3 : Nat} {x5 : Int32} (h_w3 : isW w3) {S : Mem} : k_Net_letsPass_83 w3 x5 S = bI (f_Walker_isA w3 3 S) (fun r16 S15 => if r16 = 0 then k_Net_letsPass_100 S15 else if x5 = 0 then k_Net_letsPass_96 S15 else k_Net_letsPass_100 S15) := by
  show cI (mV oS X0 30 83 [none, none, none, some (.ref w3), none, some (.int x5), none] [] S) = _
  refine V_aload_n (c := cI) i30_83.1 (mM_s i30_83.2 rfl) rfl rfl ?_
  refine V_iconst (c := cI) i30_84.1 (mM_n i30_84.2) (v := 3) rfl ?_
  refine V_cvI (c := cI) (As := [.int 3]) (rest := []) i30_85.1 (mM_n i30_85.2) c30_77 rfl (cl_sh (isW_o h_w3)) rfl rfl (Nat.le_of_ble_eq_true rfl) rfl (fun r16 S15 => ?_)
  refine V_if_eq (c := cI) i30_88.1 (mM_n i30_88.2) rfl (fun _ => ?_) (fun _ => ?_)
  · exact V_msk (l1 := [none, none, none, none, none, none, none]) i30_100.2 rfl rfl
  · refine V_iload (c := cI) i30_91.1 (mM_n i30_91.2) rfl ?_
    refine V_if_ne (c := cI) i30_93.1 (mM_n i30_93.2) rfl (fun _ => ?_) (fun _ => ?_)
    · exact V_msk (l1 := [none, none, none, none, none, none, none]) i30_96.2 rfl rfl
    · exact V_msk (l1 := [none, none, none, none, none, none, none]) i30_100.2 rfl rfl
theorem k_Net_letsPass_96_eq   {S : Mem} : k_Net_letsPass_96  S = k_Net_letsPass_101 1 S := by
  show cI (mV oS X0 30 96 [none, none, none, none, none, none, none] [] S) = _
  refine V_iconst (c := cI) i30_96.1 (mM_s i30_96.2 rfl) (v := 1) rfl ?_
  refine V_goto (c := cI) i30_97.1 (mM_n i30_97.2) rfl ?_
  exact V_msk (l1 := [none, none, none, none, none, none, none]) i30_101.2 rfl rfl
theorem k_Net_letsPass_100_eq   {S : Mem} : k_Net_letsPass_100  S = k_Net_letsPass_101 0 S := by
  show cI (mV oS X0 30 100 [none, none, none, none, none, none, none] [] S) = _
  refine V_iconst (c := cI) i30_100.1 (mM_s i30_100.2 rfl) (v := 0) rfl ?_
  exact V_msk (l1 := [none, none, none, none, none, none, none]) i30_101.2 rfl rfl
theorem k_Net_letsPass_101_eq {xs0 : Int32}  {S : Mem} : k_Net_letsPass_101 xs0 S = if zb xs0 = true then some (xs0, S) else none := by
  show cI (mV oS X0 30 101 [none, none, none, none, none, none, none] [.int xs0] S) = _
  exact V_iretZ i30_101.1 (mM_s i30_101.2 rfl) rfl
