/-! blocks of Planner: printed by a program -/
theorem i48_0 : decode (mCd 48) 0 = .ok (.aload_n 0, 1) ∧ lk (mMsk 48) 0 = none := by decide +kernel
theorem i48_1 : decode (mCd 48) 1 = .ok (.iconst 0, 1) ∧ lk (mMsk 48) 1 = none := by decide +kernel
theorem i48_2 : decode (mCd 48) 2 = .ok (.putfield 22, 3) ∧ lk (mMsk 48) 2 = none := by decide +kernel
theorem p48_22 : pOk 48 22 5 5 = true := by decide +kernel
theorem i48_5 : decode (mCd 48) 5 = .ok (.aload_n 0, 1) ∧ lk (mMsk 48) 5 = none := by decide +kernel
theorem i48_6 : decode (mCd 48) 6 = .ok (.iconst 0, 1) ∧ lk (mMsk 48) 6 = none := by decide +kernel
theorem i48_7 : decode (mCd 48) 7 = .ok (.putfield 25, 3) ∧ lk (mMsk 48) 7 = none := by decide +kernel
theorem p48_25 : pOk 48 25 5 6 = true := by decide +kernel
theorem i48_10 : decode (mCd 48) 10 = .ok (.iconst 0, 1) ∧ lk (mMsk 48) 10 = none := by decide +kernel
theorem i48_11 : decode (mCd 48) 11 = .ok (.istore_n 1, 1) ∧ lk (mMsk 48) 11 = none := by decide +kernel
theorem i48_12 : decode (mCd 48) 12 = .ok (.iload_n 1, 1) ∧ lk (mMsk 48) 12 = some [true, true, false] := by decide +kernel
theorem i48_13 : decode (mCd 48) 13 = .ok (.iconst 3, 1) ∧ lk (mMsk 48) 13 = none := by decide +kernel
theorem i48_14 : decode (mCd 48) 14 = .ok (.if_icmp .ge 66, 3) ∧ lk (mMsk 48) 14 = none := by decide +kernel
theorem i48_80 : decode (mCd 48) 80 = .ok (.aload_n 0, 1) ∧ lk (mMsk 48) 80 = none := by decide +kernel
theorem i48_81 : decode (mCd 48) 81 = .ok (.aload_n 0, 1) ∧ lk (mMsk 48) 81 = none := by decide +kernel
theorem i48_82 : decode (mCd 48) 82 = .ok (.getfield 51, 3) ∧ lk (mMsk 48) 82 = none := by decide +kernel
theorem g48_51 : fOk 48 51 5 1 = true := by decide +kernel
theorem i48_85 : decode (mCd 48) 85 = .ok (.aload_n 0, 1) ∧ lk (mMsk 48) 85 = none := by decide +kernel
theorem i48_86 : decode (mCd 48) 86 = .ok (.getfield 47, 3) ∧ lk (mMsk 48) 86 = none := by decide +kernel
theorem g48_47 : fOk 48 47 5 0 = true := by decide +kernel
theorem i48_89 : decode (mCd 48) 89 = .ok (.iconst 0, 1) ∧ lk (mMsk 48) 89 = none := by decide +kernel
theorem i48_90 : decode (mCd 48) 90 = .ok (.iconst 1, 1) ∧ lk (mMsk 48) 90 = none := by decide +kernel
theorem i48_91 : decode (mCd 48) 91 = .ok (.invokevirtual 69, 3) ∧ lk (mMsk 48) 91 = none := by decide +kernel
theorem c48_69 : cvOk 48 69 60 3 0 = true := by decide +kernel
theorem i48_94 : decode (mCd 48) 94 = .ok (.putfield 28, 3) ∧ lk (mMsk 48) 94 = none := by decide +kernel
theorem p48_28 : pOk 48 28 5 7 = true := by decide +kernel
theorem i48_97 : decode (mCd 48) 97 = .ok (.aload_n 0, 1) ∧ lk (mMsk 48) 97 = none := by decide +kernel
theorem i48_98 : decode (mCd 48) 98 = .ok (.aload_n 0, 1) ∧ lk (mMsk 48) 98 = none := by decide +kernel
theorem i48_99 : decode (mCd 48) 99 = .ok (.getfield 51, 3) ∧ lk (mMsk 48) 99 = none := by decide +kernel
theorem i48_102 : decode (mCd 48) 102 = .ok (.aload_n 0, 1) ∧ lk (mMsk 48) 102 = none := by decide +kernel
theorem i48_103 : decode (mCd 48) 103 = .ok (.getfield 47, 3) ∧ lk (mMsk 48) 103 = none := by decide +kernel
theorem i48_106 : decode (mCd 48) 106 = .ok (.iconst 0, 1) ∧ lk (mMsk 48) 106 = none := by decide +kernel
theorem i48_107 : decode (mCd 48) 107 = .ok (.iconst 2, 1) ∧ lk (mMsk 48) 107 = none := by decide +kernel
theorem i48_108 : decode (mCd 48) 108 = .ok (.invokevirtual 69, 3) ∧ lk (mMsk 48) 108 = none := by decide +kernel
theorem i48_111 : decode (mCd 48) 111 = .ok (.putfield 32, 3) ∧ lk (mMsk 48) 111 = none := by decide +kernel
theorem p48_32 : pOk 48 32 5 8 = true := by decide +kernel
theorem i48_114 : decode (mCd 48) 114 = .ok (.aload_n 0, 1) ∧ lk (mMsk 48) 114 = none := by decide +kernel
theorem i48_115 : decode (mCd 48) 115 = .ok (.aload_n 0, 1) ∧ lk (mMsk 48) 115 = none := by decide +kernel
theorem i48_116 : decode (mCd 48) 116 = .ok (.getfield 51, 3) ∧ lk (mMsk 48) 116 = none := by decide +kernel
theorem i48_119 : decode (mCd 48) 119 = .ok (.aload_n 0, 1) ∧ lk (mMsk 48) 119 = none := by decide +kernel
theorem i48_120 : decode (mCd 48) 120 = .ok (.getfield 47, 3) ∧ lk (mMsk 48) 120 = none := by decide +kernel
theorem i48_123 : decode (mCd 48) 123 = .ok (.iconst 1, 1) ∧ lk (mMsk 48) 123 = none := by decide +kernel
theorem i48_124 : decode (mCd 48) 124 = .ok (.iconst 2, 1) ∧ lk (mMsk 48) 124 = none := by decide +kernel
theorem i48_125 : decode (mCd 48) 125 = .ok (.invokevirtual 69, 3) ∧ lk (mMsk 48) 125 = none := by decide +kernel
theorem i48_128 : decode (mCd 48) 128 = .ok (.putfield 35, 3) ∧ lk (mMsk 48) 128 = none := by decide +kernel
theorem p48_35 : pOk 48 35 5 9 = true := by decide +kernel
theorem i48_131 : decode (mCd 48) 131 = .ok (.return_, 1) ∧ lk (mMsk 48) 131 = none := by decide +kernel
theorem i48_17 : decode (mCd 48) 17 = .ok (.aload_n 0, 1) ∧ lk (mMsk 48) 17 = none := by decide +kernel
theorem i48_18 : decode (mCd 48) 18 = .ok (.getfield 51, 3) ∧ lk (mMsk 48) 18 = none := by decide +kernel
theorem i48_21 : decode (mCd 48) 21 = .ok (.iload_n 1, 1) ∧ lk (mMsk 48) 21 = none := by decide +kernel
theorem i48_22 : decode (mCd 48) 22 = .ok (.invokevirtual 55, 3) ∧ lk (mMsk 48) 22 = none := by decide +kernel
theorem c48_55 : cvOk 48 55 59 1 2 = true := by decide +kernel
theorem i48_25 : decode (mCd 48) 25 = .ok (.astore_n 2, 1) ∧ lk (mMsk 48) 25 = none := by decide +kernel
theorem i48_26 : decode (mCd 48) 26 = .ok (.aload_n 0, 1) ∧ lk (mMsk 48) 26 = none := by decide +kernel
theorem i48_27 : decode (mCd 48) 27 = .ok (.bipush 8, 2) ∧ lk (mMsk 48) 27 = none := by decide +kernel
theorem i48_29 : decode (mCd 48) 29 = .ok (.aload_n 0, 1) ∧ lk (mMsk 48) 29 = none := by decide +kernel
theorem i48_30 : decode (mCd 48) 30 = .ok (.getfield 22, 3) ∧ lk (mMsk 48) 30 = none := by decide +kernel
theorem g48_22 : fOk 48 22 5 5 = true := by decide +kernel
theorem i48_33 : decode (mCd 48) 33 = .ok (.imul, 1) ∧ lk (mMsk 48) 33 = none := by decide +kernel
theorem i48_34 : decode (mCd 48) 34 = .ok (.aload_n 2, 1) ∧ lk (mMsk 48) 34 = none := by decide +kernel
theorem i48_35 : decode (mCd 48) 35 = .ok (.ifnonnull 7, 3) ∧ lk (mMsk 48) 35 = none := by decide +kernel
theorem i48_38 : decode (mCd 48) 38 = .ok (.iconst 0, 1) ∧ lk (mMsk 48) 38 = some [true, true, true] := by decide +kernel
theorem i48_42 : decode (mCd 48) 42 = .ok (.aload_n 2, 1) ∧ lk (mMsk 48) 42 = some [true, true, true] := by decide +kernel
theorem i48_43 : decode (mCd 48) 43 = .ok (.getfield 61, 3) ∧ lk (mMsk 48) 43 = none := by decide +kernel
theorem g48_61 : fOk 48 61 7 1 = true := by decide +kernel
theorem i48_46 : decode (mCd 48) 46 = .ok (.iadd, 1) ∧ lk (mMsk 48) 46 = some [true, true, true] := by decide +kernel
theorem i48_47 : decode (mCd 48) 47 = .ok (.putfield 22, 3) ∧ lk (mMsk 48) 47 = none := by decide +kernel
theorem i48_50 : decode (mCd 48) 50 = .ok (.aload_n 0, 1) ∧ lk (mMsk 48) 50 = none := by decide +kernel
theorem i48_51 : decode (mCd 48) 51 = .ok (.bipush 8, 2) ∧ lk (mMsk 48) 51 = none := by decide +kernel
theorem i48_53 : decode (mCd 48) 53 = .ok (.aload_n 0, 1) ∧ lk (mMsk 48) 53 = none := by decide +kernel
theorem i48_54 : decode (mCd 48) 54 = .ok (.getfield 25, 3) ∧ lk (mMsk 48) 54 = none := by decide +kernel
theorem g48_25 : fOk 48 25 5 6 = true := by decide +kernel
theorem i48_57 : decode (mCd 48) 57 = .ok (.imul, 1) ∧ lk (mMsk 48) 57 = none := by decide +kernel
theorem i48_58 : decode (mCd 48) 58 = .ok (.aload_n 2, 1) ∧ lk (mMsk 48) 58 = none := by decide +kernel
theorem i48_59 : decode (mCd 48) 59 = .ok (.ifnonnull 7, 3) ∧ lk (mMsk 48) 59 = none := by decide +kernel
theorem i48_66 : decode (mCd 48) 66 = .ok (.aload_n 2, 1) ∧ lk (mMsk 48) 66 = some [true, true, true] := by decide +kernel
theorem i48_67 : decode (mCd 48) 67 = .ok (.getfield 66, 3) ∧ lk (mMsk 48) 67 = none := by decide +kernel
theorem g48_66 : fOk 48 66 7 2 = true := by decide +kernel
theorem i48_70 : decode (mCd 48) 70 = .ok (.iadd, 1) ∧ lk (mMsk 48) 70 = some [true, true, false] := by decide +kernel
theorem i48_71 : decode (mCd 48) 71 = .ok (.putfield 25, 3) ∧ lk (mMsk 48) 71 = none := by decide +kernel
theorem i48_74 : decode (mCd 48) 74 = .ok (.iinc 1 1, 3) ∧ lk (mMsk 48) 74 = none := by decide +kernel
theorem i48_77 : decode (mCd 48) 77 = .ok (.goto (-65), 3) ∧ lk (mMsk 48) 77 = none := by decide +kernel
theorem i48_39 : decode (mCd 48) 39 = .ok (.goto 7, 3) ∧ lk (mMsk 48) 39 = none := by decide +kernel
theorem i48_62 : decode (mCd 48) 62 = .ok (.iconst 0, 1) ∧ lk (mMsk 48) 62 = some [true, true, false] := by decide +kernel
theorem i48_63 : decode (mCd 48) 63 = .ok (.goto 7, 3) ∧ lk (mMsk 48) 63 = none := by decide +kernel
theorem i49_0 : decode (mCd 49) 0 = .ok (.aload_n 0, 1) ∧ lk (mMsk 49) 0 = none := by decide +kernel
theorem i49_1 : decode (mCd 49) 1 = .ok (.iload_n 1, 1) ∧ lk (mMsk 49) 1 = none := by decide +kernel
theorem i49_2 : decode (mCd 49) 2 = .ok (.putfield 38, 3) ∧ lk (mMsk 49) 2 = none := by decide +kernel
theorem p49_38 : pOk 49 38 5 10 = true := by decide +kernel
theorem i49_5 : decode (mCd 49) 5 = .ok (.aload_n 0, 1) ∧ lk (mMsk 49) 5 = none := by decide +kernel
theorem i49_6 : decode (mCd 49) 6 = .ok (.getfield 11, 3) ∧ lk (mMsk 49) 6 = none := by decide +kernel
theorem g49_11 : fOk 49 11 5 2 = true := by decide +kernel
theorem i49_9 : decode (mCd 49) 9 = .ok (.iconst (-1), 1) ∧ lk (mMsk 49) 9 = none := by decide +kernel
theorem i49_10 : decode (mCd 49) 10 = .ok (.invokestatic 73, 3) ∧ lk (mMsk 49) 10 = none := by decide +kernel
theorem c49_73 : ciOk 49 73 176 2 3 = true := by decide +kernel
theorem i49_13 : decode (mCd 49) 13 = .ok (.aload_n 0, 1) ∧ lk (mMsk 49) 13 = none := by decide +kernel
theorem i49_14 : decode (mCd 49) 14 = .ok (.getfield 11, 3) ∧ lk (mMsk 49) 14 = none := by decide +kernel
theorem i49_17 : decode (mCd 49) 17 = .ok (.aload_n 0, 1) ∧ lk (mMsk 49) 17 = none := by decide +kernel
theorem i49_18 : decode (mCd 49) 18 = .ok (.getfield 25, 3) ∧ lk (mMsk 49) 18 = none := by decide +kernel
theorem g49_25 : fOk 49 25 5 6 = true := by decide +kernel
theorem i49_21 : decode (mCd 49) 21 = .ok (.iconst 0, 1) ∧ lk (mMsk 49) 21 = none := by decide +kernel
theorem i49_22 : decode (mCd 49) 22 = .ok (.iastore, 1) ∧ lk (mMsk 49) 22 = none := by decide +kernel
theorem i49_23 : decode (mCd 49) 23 = .ok (.aload_n 0, 1) ∧ lk (mMsk 49) 23 = none := by decide +kernel
theorem i49_24 : decode (mCd 49) 24 = .ok (.getfield 15, 3) ∧ lk (mMsk 49) 24 = none := by decide +kernel
theorem g49_15 : fOk 49 15 5 3 = true := by decide +kernel
theorem i49_27 : decode (mCd 49) 27 = .ok (.iconst 0, 1) ∧ lk (mMsk 49) 27 = none := by decide +kernel
theorem i49_28 : decode (mCd 49) 28 = .ok (.aload_n 0, 1) ∧ lk (mMsk 49) 28 = none := by decide +kernel
theorem i49_29 : decode (mCd 49) 29 = .ok (.getfield 25, 3) ∧ lk (mMsk 49) 29 = none := by decide +kernel
theorem i49_32 : decode (mCd 49) 32 = .ok (.iastore, 1) ∧ lk (mMsk 49) 32 = none := by decide +kernel
theorem i49_33 : decode (mCd 49) 33 = .ok (.aload_n 0, 1) ∧ lk (mMsk 49) 33 = none := by decide +kernel
theorem i49_34 : decode (mCd 49) 34 = .ok (.iconst 1, 1) ∧ lk (mMsk 49) 34 = none := by decide +kernel
theorem i49_35 : decode (mCd 49) 35 = .ok (.putfield 18, 3) ∧ lk (mMsk 49) 35 = none := by decide +kernel
theorem p49_18 : pOk 49 18 5 4 = true := by decide +kernel
theorem i49_38 : decode (mCd 49) 38 = .ok (.iconst 0, 1) ∧ lk (mMsk 49) 38 = none := by decide +kernel
theorem i49_39 : decode (mCd 49) 39 = .ok (.istore_n 3, 1) ∧ lk (mMsk 49) 39 = none := by decide +kernel
theorem i49_40 : decode (mCd 49) 40 = .ok (.iload_n 3, 1) ∧ lk (mMsk 49) 40 = some [true, false, true, true] := by decide +kernel
theorem i49_41 : decode (mCd 49) 41 = .ok (.sipush 512, 3) ∧ lk (mMsk 49) 41 = none := by decide +kernel
theorem i49_44 : decode (mCd 49) 44 = .ok (.if_icmp .ge 55, 3) ∧ lk (mMsk 49) 44 = none := by decide +kernel
theorem i49_99 : decode (mCd 49) 99 = .ok (.aload_n 0, 1) ∧ lk (mMsk 49) 99 = some [true, false, false, false] := by decide +kernel
theorem i49_47 : decode (mCd 49) 47 = .ok (.iload_n 3, 1) ∧ lk (mMsk 49) 47 = none := by decide +kernel
theorem i49_48 : decode (mCd 49) 48 = .ok (.aload_n 0, 1) ∧ lk (mMsk 49) 48 = none := by decide +kernel
theorem i49_49 : decode (mCd 49) 49 = .ok (.getfield 18, 3) ∧ lk (mMsk 49) 49 = none := by decide +kernel
theorem g49_18 : fOk 49 18 5 4 = true := by decide +kernel
theorem i49_52 : decode (mCd 49) 52 = .ok (.if_icmp .ge 47, 3) ∧ lk (mMsk 49) 52 = none := by decide +kernel
theorem i49_55 : decode (mCd 49) 55 = .ok (.aload_n 0, 1) ∧ lk (mMsk 49) 55 = none := by decide +kernel
theorem i49_56 : decode (mCd 49) 56 = .ok (.getfield 11, 3) ∧ lk (mMsk 49) 56 = none := by decide +kernel
theorem i49_59 : decode (mCd 49) 59 = .ok (.aload_n 0, 1) ∧ lk (mMsk 49) 59 = none := by decide +kernel
theorem i49_60 : decode (mCd 49) 60 = .ok (.getfield 22, 3) ∧ lk (mMsk 49) 60 = none := by decide +kernel
theorem g49_22 : fOk 49 22 5 5 = true := by decide +kernel
theorem i49_63 : decode (mCd 49) 63 = .ok (.iaload, 1) ∧ lk (mMsk 49) 63 = none := by decide +kernel
theorem i49_64 : decode (mCd 49) 64 = .ok (.iconst (-1), 1) ∧ lk (mMsk 49) 64 = none := by decide +kernel
theorem i49_65 : decode (mCd 49) 65 = .ok (.if_icmp .ne 34, 3) ∧ lk (mMsk 49) 65 = none := by decide +kernel
theorem i49_68 : decode (mCd 49) 68 = .ok (.aload_n 0, 1) ∧ lk (mMsk 49) 68 = none := by decide +kernel
theorem i49_69 : decode (mCd 49) 69 = .ok (.getfield 11, 3) ∧ lk (mMsk 49) 69 = none := by decide +kernel
theorem i49_72 : decode (mCd 49) 72 = .ok (.aload_n 0, 1) ∧ lk (mMsk 49) 72 = none := by decide +kernel
theorem i49_73 : decode (mCd 49) 73 = .ok (.getfield 15, 3) ∧ lk (mMsk 49) 73 = none := by decide +kernel
theorem i49_76 : decode (mCd 49) 76 = .ok (.iload_n 3, 1) ∧ lk (mMsk 49) 76 = none := by decide +kernel
theorem i49_77 : decode (mCd 49) 77 = .ok (.iaload, 1) ∧ lk (mMsk 49) 77 = none := by decide +kernel
theorem i49_78 : decode (mCd 49) 78 = .ok (.iaload, 1) ∧ lk (mMsk 49) 78 = none := by decide +kernel
theorem i49_79 : decode (mCd 49) 79 = .ok (.iload_n 2, 1) ∧ lk (mMsk 49) 79 = none := by decide +kernel
theorem i49_80 : decode (mCd 49) 80 = .ok (.if_icmp .ge 19, 3) ∧ lk (mMsk 49) 80 = none := by decide +kernel
theorem i49_83 : decode (mCd 49) 83 = .ok (.aload_n 0, 1) ∧ lk (mMsk 49) 83 = none := by decide +kernel
theorem i49_84 : decode (mCd 49) 84 = .ok (.aload_n 0, 1) ∧ lk (mMsk 49) 84 = none := by decide +kernel
theorem i49_85 : decode (mCd 49) 85 = .ok (.getfield 15, 3) ∧ lk (mMsk 49) 85 = none := by decide +kernel
theorem i49_88 : decode (mCd 49) 88 = .ok (.iload_n 3, 1) ∧ lk (mMsk 49) 88 = none := by decide +kernel
theorem i49_89 : decode (mCd 49) 89 = .ok (.iaload, 1) ∧ lk (mMsk 49) 89 = none := by decide +kernel
theorem i49_90 : decode (mCd 49) 90 = .ok (.invokevirtual 79, 3) ∧ lk (mMsk 49) 90 = none := by decide +kernel
theorem c49_79 : cvOk 49 79 50 1 3 = true := by decide +kernel
theorem i49_93 : decode (mCd 49) 93 = .ok (.iinc 3 1, 3) ∧ lk (mMsk 49) 93 = none := by decide +kernel
theorem i49_96 : decode (mCd 49) 96 = .ok (.goto (-56), 3) ∧ lk (mMsk 49) 96 = none := by decide +kernel
theorem i49_100 : decode (mCd 49) 100 = .ok (.getfield 11, 3) ∧ lk (mMsk 49) 100 = none := by decide +kernel
theorem i49_103 : decode (mCd 49) 103 = .ok (.aload_n 0, 1) ∧ lk (mMsk 49) 103 = none := by decide +kernel
theorem i49_104 : decode (mCd 49) 104 = .ok (.getfield 22, 3) ∧ lk (mMsk 49) 104 = none := by decide +kernel
theorem i49_107 : decode (mCd 49) 107 = .ok (.iaload, 1) ∧ lk (mMsk 49) 107 = none := by decide +kernel
theorem i49_108 : decode (mCd 49) 108 = .ok (.ireturn, 1) ∧ lk (mMsk 49) 108 = none := by decide +kernel
theorem i50_0 : decode (mCd 50) 0 = .ok (.iload_n 1, 1) ∧ lk (mMsk 50) 0 = none := by decide +kernel
theorem i50_1 : decode (mCd 50) 1 = .ok (.iconst 0, 1) ∧ lk (mMsk 50) 1 = none := by decide +kernel
theorem i50_2 : decode (mCd 50) 2 = .ok (.invokestatic 83, 3) ∧ lk (mMsk 50) 2 = none := by decide +kernel
theorem c50_83 : ciOk 50 83 54 2 0 = true := by decide +kernel
theorem i50_5 : decode (mCd 50) 5 = .ok (.istore_n 2, 1) ∧ lk (mMsk 50) 5 = none := by decide +kernel
theorem i50_6 : decode (mCd 50) 6 = .ok (.iload_n 1, 1) ∧ lk (mMsk 50) 6 = none := by decide +kernel
theorem i50_7 : decode (mCd 50) 7 = .ok (.iconst 1, 1) ∧ lk (mMsk 50) 7 = none := by decide +kernel
theorem i50_8 : decode (mCd 50) 8 = .ok (.invokestatic 83, 3) ∧ lk (mMsk 50) 8 = none := by decide +kernel
theorem i50_11 : decode (mCd 50) 11 = .ok (.istore_n 3, 1) ∧ lk (mMsk 50) 11 = none := by decide +kernel
theorem i50_12 : decode (mCd 50) 12 = .ok (.iload_n 1, 1) ∧ lk (mMsk 50) 12 = none := by decide +kernel
theorem i50_13 : decode (mCd 50) 13 = .ok (.iconst 2, 1) ∧ lk (mMsk 50) 13 = none := by decide +kernel
theorem i50_14 : decode (mCd 50) 14 = .ok (.invokestatic 83, 3) ∧ lk (mMsk 50) 14 = none := by decide +kernel
theorem i50_17 : decode (mCd 50) 17 = .ok (.istore 4, 2) ∧ lk (mMsk 50) 17 = none := by decide +kernel
theorem i50_19 : decode (mCd 50) 19 = .ok (.aload_n 0, 1) ∧ lk (mMsk 50) 19 = none := by decide +kernel
theorem i50_20 : decode (mCd 50) 20 = .ok (.iconst 2, 1) ∧ lk (mMsk 50) 20 = none := by decide +kernel
theorem i50_21 : decode (mCd 50) 21 = .ok (.iload 4, 2) ∧ lk (mMsk 50) 21 = none := by decide +kernel
theorem i50_23 : decode (mCd 50) 23 = .ok (.invokevirtual 87, 3) ∧ lk (mMsk 50) 23 = none := by decide +kernel
theorem c50_87 : cvOk 50 87 52 2 0 = true := by decide +kernel
theorem i50_26 : decode (mCd 50) 26 = .ok (.istore 5, 2) ∧ lk (mMsk 50) 26 = none := by decide +kernel
theorem i50_28 : decode (mCd 50) 28 = .ok (.aload_n 0, 1) ∧ lk (mMsk 50) 28 = none := by decide +kernel
theorem i50_29 : decode (mCd 50) 29 = .ok (.iconst 0, 1) ∧ lk (mMsk 50) 29 = none := by decide +kernel
theorem i50_30 : decode (mCd 50) 30 = .ok (.iload_n 2, 1) ∧ lk (mMsk 50) 30 = none := by decide +kernel
theorem i50_31 : decode (mCd 50) 31 = .ok (.invokevirtual 87, 3) ∧ lk (mMsk 50) 31 = none := by decide +kernel
theorem i50_34 : decode (mCd 50) 34 = .ok (.iconst 1, 1) ∧ lk (mMsk 50) 34 = none := by decide +kernel
theorem i50_35 : decode (mCd 50) 35 = .ok (.isub, 1) ∧ lk (mMsk 50) 35 = none := by decide +kernel
theorem i50_36 : decode (mCd 50) 36 = .ok (.istore 6, 2) ∧ lk (mMsk 50) 36 = none := by decide +kernel
theorem i50_38 : decode (mCd 50) 38 = .ok (.iload 6, 2) ∧ lk (mMsk 50) 38 = some [true, true, true, true, true, true, true, false, false, false, false, false, false] := by decide +kernel
theorem i50_40 : decode (mCd 50) 40 = .ok (.ifCond .lt 189, 3) ∧ lk (mMsk 50) 40 = none := by decide +kernel
theorem i50_229 : decode (mCd 50) 229 = .ok (.return_, 1) ∧ lk (mMsk 50) 229 = none := by decide +kernel
theorem i50_43 : decode (mCd 50) 43 = .ok (.aload_n 0, 1) ∧ lk (mMsk 50) 43 = none := by decide +kernel
theorem i50_44 : decode (mCd 50) 44 = .ok (.getfield 47, 3) ∧ lk (mMsk 50) 44 = none := by decide +kernel
theorem g50_47 : fOk 50 47 5 0 = true := by decide +kernel
theorem i50_47 : decode (mCd 50) 47 = .ok (.iload_n 2, 1) ∧ lk (mMsk 50) 47 = none := by decide +kernel
theorem i50_48 : decode (mCd 50) 48 = .ok (.iload 6, 2) ∧ lk (mMsk 50) 48 = none := by decide +kernel
theorem i50_50 : decode (mCd 50) 50 = .ok (.invokevirtual 90, 3) ∧ lk (mMsk 50) 50 = none := by decide +kernel
theorem c50_90 : cvOk 50 90 27 2 0 = true := by decide +kernel
theorem i50_53 : decode (mCd 50) 53 = .ok (.istore 7, 2) ∧ lk (mMsk 50) 53 = none := by decide +kernel
theorem i50_55 : decode (mCd 50) 55 = .ok (.aload_n 0, 1) ∧ lk (mMsk 50) 55 = none := by decide +kernel
theorem i50_56 : decode (mCd 50) 56 = .ok (.iconst 1, 1) ∧ lk (mMsk 50) 56 = none := by decide +kernel
theorem i50_57 : decode (mCd 50) 57 = .ok (.iload_n 3, 1) ∧ lk (mMsk 50) 57 = none := by decide +kernel
theorem i50_58 : decode (mCd 50) 58 = .ok (.invokevirtual 87, 3) ∧ lk (mMsk 50) 58 = none := by decide +kernel
theorem i50_61 : decode (mCd 50) 61 = .ok (.iconst 1, 1) ∧ lk (mMsk 50) 61 = none := by decide +kernel
theorem i50_62 : decode (mCd 50) 62 = .ok (.isub, 1) ∧ lk (mMsk 50) 62 = none := by decide +kernel
theorem i50_63 : decode (mCd 50) 63 = .ok (.istore 8, 2) ∧ lk (mMsk 50) 63 = none := by decide +kernel
theorem i50_65 : decode (mCd 50) 65 = .ok (.iload 8, 2) ∧ lk (mMsk 50) 65 = some [true, true, true, true, true, true, true, true, true, false, false, false, false] := by decide +kernel
theorem i50_67 : decode (mCd 50) 67 = .ok (.ifCond .lt 156, 3) ∧ lk (mMsk 50) 67 = none := by decide +kernel
theorem i50_223 : decode (mCd 50) 223 = .ok (.iinc 6 (-1), 3) ∧ lk (mMsk 50) 223 = none := by decide +kernel
theorem i50_226 : decode (mCd 50) 226 = .ok (.goto (-188), 3) ∧ lk (mMsk 50) 226 = none := by decide +kernel
theorem i50_70 : decode (mCd 50) 70 = .ok (.aload_n 0, 1) ∧ lk (mMsk 50) 70 = none := by decide +kernel
theorem i50_71 : decode (mCd 50) 71 = .ok (.getfield 47, 3) ∧ lk (mMsk 50) 71 = none := by decide +kernel
theorem i50_74 : decode (mCd 50) 74 = .ok (.iload_n 3, 1) ∧ lk (mMsk 50) 74 = none := by decide +kernel
theorem i50_75 : decode (mCd 50) 75 = .ok (.iload 8, 2) ∧ lk (mMsk 50) 75 = none := by decide +kernel
theorem i50_77 : decode (mCd 50) 77 = .ok (.invokevirtual 90, 3) ∧ lk (mMsk 50) 77 = none := by decide +kernel
theorem i50_80 : decode (mCd 50) 80 = .ok (.istore 9, 2) ∧ lk (mMsk 50) 80 = none := by decide +kernel
theorem i50_82 : decode (mCd 50) 82 = .ok (.aload_n 0, 1) ∧ lk (mMsk 50) 82 = none := by decide +kernel
theorem i50_83 : decode (mCd 50) 83 = .ok (.getfield 28, 3) ∧ lk (mMsk 50) 83 = none := by decide +kernel
theorem g50_28 : fOk 50 28 5 7 = true := by decide +kernel
theorem i50_86 : decode (mCd 50) 86 = .ok (.ifCond .ne 19, 3) ∧ lk (mMsk 50) 86 = none := by decide +kernel
theorem i50_89 : decode (mCd 50) 89 = .ok (.aload_n 0, 1) ∧ lk (mMsk 50) 89 = none := by decide +kernel
theorem i50_90 : decode (mCd 50) 90 = .ok (.iload_n 2, 1) ∧ lk (mMsk 50) 90 = none := by decide +kernel
theorem i50_91 : decode (mCd 50) 91 = .ok (.iload 7, 2) ∧ lk (mMsk 50) 91 = none := by decide +kernel
theorem i50_93 : decode (mCd 50) 93 = .ok (.iload_n 3, 1) ∧ lk (mMsk 50) 93 = none := by decide +kernel
theorem i50_94 : decode (mCd 50) 94 = .ok (.iload 9, 2) ∧ lk (mMsk 50) 94 = none := by decide +kernel
theorem i50_96 : decode (mCd 50) 96 = .ok (.invokevirtual 95, 3) ∧ lk (mMsk 50) 96 = none := by decide +kernel
theorem c50_95 : cvOk 50 95 53 4 0 = true := by decide +kernel
theorem i50_99 : decode (mCd 50) 99 = .ok (.ifCond .eq 6, 3) ∧ lk (mMsk 50) 99 = none := by decide +kernel
theorem i50_105 : decode (mCd 50) 105 = .ok (.iconst 0, 1) ∧ lk (mMsk 50) 105 = some [true, true, true, true, true, true, true, true, true, true, false, false, false] := by decide +kernel
theorem i50_102 : decode (mCd 50) 102 = .ok (.goto 115, 3) ∧ lk (mMsk 50) 102 = none := by decide +kernel
theorem i50_217 : decode (mCd 50) 217 = .ok (.iinc 8 (-1), 3) ∧ lk (mMsk 50) 217 = some [true, true, true, true, true, true, true, true, true, false, false, false, false] := by decide +kernel
theorem i50_220 : decode (mCd 50) 220 = .ok (.goto (-155), 3) ∧ lk (mMsk 50) 220 = none := by decide +kernel
theorem i50_106 : decode (mCd 50) 106 = .ok (.istore 10, 2) ∧ lk (mMsk 50) 106 = none := by decide +kernel
theorem i50_108 : decode (mCd 50) 108 = .ok (.iload 10, 2) ∧ lk (mMsk 50) 108 = some [true, true, true, true, true, true, true, true, true, true, true, false, false] := by decide +kernel
theorem i50_110 : decode (mCd 50) 110 = .ok (.iload 5, 2) ∧ lk (mMsk 50) 110 = none := by decide +kernel
theorem i50_112 : decode (mCd 50) 112 = .ok (.if_icmp .ge 105, 3) ∧ lk (mMsk 50) 112 = none := by decide +kernel
theorem i50_115 : decode (mCd 50) 115 = .ok (.aload_n 0, 1) ∧ lk (mMsk 50) 115 = none := by decide +kernel
theorem i50_116 : decode (mCd 50) 116 = .ok (.getfield 47, 3) ∧ lk (mMsk 50) 116 = none := by decide +kernel
theorem i50_119 : decode (mCd 50) 119 = .ok (.iload 4, 2) ∧ lk (mMsk 50) 119 = none := by decide +kernel
theorem i50_121 : decode (mCd 50) 121 = .ok (.iload 10, 2) ∧ lk (mMsk 50) 121 = none := by decide +kernel
theorem i50_123 : decode (mCd 50) 123 = .ok (.invokevirtual 90, 3) ∧ lk (mMsk 50) 123 = none := by decide +kernel
theorem i50_126 : decode (mCd 50) 126 = .ok (.istore 11, 2) ∧ lk (mMsk 50) 126 = none := by decide +kernel
theorem i50_128 : decode (mCd 50) 128 = .ok (.iload 7, 2) ∧ lk (mMsk 50) 128 = none := by decide +kernel
theorem i50_130 : decode (mCd 50) 130 = .ok (.bipush 8, 2) ∧ lk (mMsk 50) 130 = none := by decide +kernel
theorem i50_132 : decode (mCd 50) 132 = .ok (.imul, 1) ∧ lk (mMsk 50) 132 = none := by decide +kernel
theorem i50_133 : decode (mCd 50) 133 = .ok (.iload 9, 2) ∧ lk (mMsk 50) 133 = none := by decide +kernel
theorem i50_135 : decode (mCd 50) 135 = .ok (.iadd, 1) ∧ lk (mMsk 50) 135 = none := by decide +kernel
theorem i50_136 : decode (mCd 50) 136 = .ok (.bipush 8, 2) ∧ lk (mMsk 50) 136 = none := by decide +kernel
theorem i50_138 : decode (mCd 50) 138 = .ok (.imul, 1) ∧ lk (mMsk 50) 138 = none := by decide +kernel
theorem i50_139 : decode (mCd 50) 139 = .ok (.iload 11, 2) ∧ lk (mMsk 50) 139 = none := by decide +kernel
theorem i50_141 : decode (mCd 50) 141 = .ok (.iadd, 1) ∧ lk (mMsk 50) 141 = none := by decide +kernel
theorem i50_142 : decode (mCd 50) 142 = .ok (.istore 12, 2) ∧ lk (mMsk 50) 142 = none := by decide +kernel
theorem i50_144 : decode (mCd 50) 144 = .ok (.aload_n 0, 1) ∧ lk (mMsk 50) 144 = none := by decide +kernel
theorem i50_145 : decode (mCd 50) 145 = .ok (.getfield 11, 3) ∧ lk (mMsk 50) 145 = none := by decide +kernel
theorem g50_11 : fOk 50 11 5 2 = true := by decide +kernel
theorem i50_148 : decode (mCd 50) 148 = .ok (.iload 12, 2) ∧ lk (mMsk 50) 148 = none := by decide +kernel
theorem i50_150 : decode (mCd 50) 150 = .ok (.iaload, 1) ∧ lk (mMsk 50) 150 = none := by decide +kernel
theorem i50_151 : decode (mCd 50) 151 = .ok (.iconst (-1), 1) ∧ lk (mMsk 50) 151 = none := by decide +kernel
theorem i50_152 : decode (mCd 50) 152 = .ok (.if_icmp .ne 59, 3) ∧ lk (mMsk 50) 152 = none := by decide +kernel
theorem i50_155 : decode (mCd 50) 155 = .ok (.aload_n 0, 1) ∧ lk (mMsk 50) 155 = none := by decide +kernel
theorem i50_156 : decode (mCd 50) 156 = .ok (.getfield 32, 3) ∧ lk (mMsk 50) 156 = none := by decide +kernel
theorem g50_32 : fOk 50 32 5 8 = true := by decide +kernel
theorem i50_159 : decode (mCd 50) 159 = .ok (.ifCond .ne 17, 3) ∧ lk (mMsk 50) 159 = none := by decide +kernel
theorem i50_162 : decode (mCd 50) 162 = .ok (.aload_n 0, 1) ∧ lk (mMsk 50) 162 = none := by decide +kernel
theorem i50_163 : decode (mCd 50) 163 = .ok (.iload_n 2, 1) ∧ lk (mMsk 50) 163 = none := by decide +kernel
theorem i50_164 : decode (mCd 50) 164 = .ok (.iload 7, 2) ∧ lk (mMsk 50) 164 = none := by decide +kernel
theorem i50_166 : decode (mCd 50) 166 = .ok (.iload 4, 2) ∧ lk (mMsk 50) 166 = none := by decide +kernel
theorem i50_168 : decode (mCd 50) 168 = .ok (.iload 11, 2) ∧ lk (mMsk 50) 168 = none := by decide +kernel
theorem i50_170 : decode (mCd 50) 170 = .ok (.invokevirtual 95, 3) ∧ lk (mMsk 50) 170 = none := by decide +kernel
theorem i50_173 : decode (mCd 50) 173 = .ok (.ifCond .ne 38, 3) ∧ lk (mMsk 50) 173 = none := by decide +kernel
theorem i50_176 : decode (mCd 50) 176 = .ok (.aload_n 0, 1) ∧ lk (mMsk 50) 176 = some [true, true, true, true, true, true, true, true, true, true, true, true, true] := by decide +kernel
theorem i50_211 : decode (mCd 50) 211 = .ok (.iinc 10 1, 3) ∧ lk (mMsk 50) 211 = some [true, true, true, true, true, true, true, true, true, true, true, false, false] := by decide +kernel
theorem i50_214 : decode (mCd 50) 214 = .ok (.goto (-106), 3) ∧ lk (mMsk 50) 214 = none := by decide +kernel
theorem i50_177 : decode (mCd 50) 177 = .ok (.getfield 35, 3) ∧ lk (mMsk 50) 177 = none := by decide +kernel
theorem g50_35 : fOk 50 35 5 9 = true := by decide +kernel
theorem i50_180 : decode (mCd 50) 180 = .ok (.ifCond .ne 17, 3) ∧ lk (mMsk 50) 180 = none := by decide +kernel
theorem i50_183 : decode (mCd 50) 183 = .ok (.aload_n 0, 1) ∧ lk (mMsk 50) 183 = none := by decide +kernel
theorem i50_184 : decode (mCd 50) 184 = .ok (.iload_n 3, 1) ∧ lk (mMsk 50) 184 = none := by decide +kernel
theorem i50_185 : decode (mCd 50) 185 = .ok (.iload 9, 2) ∧ lk (mMsk 50) 185 = none := by decide +kernel
theorem i50_187 : decode (mCd 50) 187 = .ok (.iload 4, 2) ∧ lk (mMsk 50) 187 = none := by decide +kernel
theorem i50_189 : decode (mCd 50) 189 = .ok (.iload 11, 2) ∧ lk (mMsk 50) 189 = none := by decide +kernel
theorem i50_191 : decode (mCd 50) 191 = .ok (.invokevirtual 95, 3) ∧ lk (mMsk 50) 191 = none := by decide +kernel
theorem i50_194 : decode (mCd 50) 194 = .ok (.ifCond .ne 17, 3) ∧ lk (mMsk 50) 194 = none := by decide +kernel
theorem i50_197 : decode (mCd 50) 197 = .ok (.aload_n 0, 1) ∧ lk (mMsk 50) 197 = some [true, true, true, true, true, true, true, true, true, true, true, false, true] := by decide +kernel
theorem i50_198 : decode (mCd 50) 198 = .ok (.iload 12, 2) ∧ lk (mMsk 50) 198 = none := by decide +kernel
theorem i50_200 : decode (mCd 50) 200 = .ok (.aload_n 0, 1) ∧ lk (mMsk 50) 200 = none := by decide +kernel
theorem i50_201 : decode (mCd 50) 201 = .ok (.getfield 11, 3) ∧ lk (mMsk 50) 201 = none := by decide +kernel
theorem i50_204 : decode (mCd 50) 204 = .ok (.iload_n 1, 1) ∧ lk (mMsk 50) 204 = none := by decide +kernel
theorem i50_205 : decode (mCd 50) 205 = .ok (.iaload, 1) ∧ lk (mMsk 50) 205 = none := by decide +kernel
theorem i50_206 : decode (mCd 50) 206 = .ok (.iconst 1, 1) ∧ lk (mMsk 50) 206 = none := by decide +kernel
theorem i50_207 : decode (mCd 50) 207 = .ok (.iadd, 1) ∧ lk (mMsk 50) 207 = none := by decide +kernel
theorem i50_208 : decode (mCd 50) 208 = .ok (.invokevirtual 99, 3) ∧ lk (mMsk 50) 208 = none := by decide +kernel
theorem c50_99 : cvOk 50 99 51 2 3 = true := by decide +kernel
theorem i51_0 : decode (mCd 51) 0 = .ok (.aload_n 0, 1) ∧ lk (mMsk 51) 0 = none := by decide +kernel
theorem i51_1 : decode (mCd 51) 1 = .ok (.getfield 11, 3) ∧ lk (mMsk 51) 1 = none := by decide +kernel
theorem g51_11 : fOk 51 11 5 2 = true := by decide +kernel
theorem i51_4 : decode (mCd 51) 4 = .ok (.iload_n 1, 1) ∧ lk (mMsk 51) 4 = none := by decide +kernel
theorem i51_5 : decode (mCd 51) 5 = .ok (.iload_n 2, 1) ∧ lk (mMsk 51) 5 = none := by decide +kernel
theorem i51_6 : decode (mCd 51) 6 = .ok (.iastore, 1) ∧ lk (mMsk 51) 6 = none := by decide +kernel
theorem i51_7 : decode (mCd 51) 7 = .ok (.aload_n 0, 1) ∧ lk (mMsk 51) 7 = none := by decide +kernel
theorem i51_8 : decode (mCd 51) 8 = .ok (.getfield 18, 3) ∧ lk (mMsk 51) 8 = none := by decide +kernel
theorem g51_18 : fOk 51 18 5 4 = true := by decide +kernel
theorem i51_11 : decode (mCd 51) 11 = .ok (.sipush 512, 3) ∧ lk (mMsk 51) 11 = none := by decide +kernel
theorem i51_14 : decode (mCd 51) 14 = .ok (.if_icmp .ge 23, 3) ∧ lk (mMsk 51) 14 = none := by decide +kernel
theorem i51_37 : decode (mCd 51) 37 = .ok (.return_, 1) ∧ lk (mMsk 51) 37 = some [false, false, false] := by decide +kernel
theorem i51_17 : decode (mCd 51) 17 = .ok (.aload_n 0, 1) ∧ lk (mMsk 51) 17 = none := by decide +kernel
theorem i51_18 : decode (mCd 51) 18 = .ok (.getfield 15, 3) ∧ lk (mMsk 51) 18 = none := by decide +kernel
theorem g51_15 : fOk 51 15 5 3 = true := by decide +kernel
theorem i51_21 : decode (mCd 51) 21 = .ok (.aload_n 0, 1) ∧ lk (mMsk 51) 21 = none := by decide +kernel
theorem i51_22 : decode (mCd 51) 22 = .ok (.getfield 18, 3) ∧ lk (mMsk 51) 22 = none := by decide +kernel
theorem i51_25 : decode (mCd 51) 25 = .ok (.iload_n 1, 1) ∧ lk (mMsk 51) 25 = none := by decide +kernel
theorem i51_26 : decode (mCd 51) 26 = .ok (.iastore, 1) ∧ lk (mMsk 51) 26 = none := by decide +kernel
theorem i51_27 : decode (mCd 51) 27 = .ok (.aload_n 0, 1) ∧ lk (mMsk 51) 27 = none := by decide +kernel
theorem i51_28 : decode (mCd 51) 28 = .ok (.dup, 1) ∧ lk (mMsk 51) 28 = none := by decide +kernel
theorem i51_29 : decode (mCd 51) 29 = .ok (.getfield 18, 3) ∧ lk (mMsk 51) 29 = none := by decide +kernel
theorem i51_32 : decode (mCd 51) 32 = .ok (.iconst 1, 1) ∧ lk (mMsk 51) 32 = none := by decide +kernel
theorem i51_33 : decode (mCd 51) 33 = .ok (.iadd, 1) ∧ lk (mMsk 51) 33 = none := by decide +kernel
theorem i51_34 : decode (mCd 51) 34 = .ok (.putfield 18, 3) ∧ lk (mMsk 51) 34 = none := by decide +kernel
theorem p51_18 : pOk 51 18 5 4 = true := by decide +kernel
theorem i52_0 : decode (mCd 52) 0 = .ok (.iload_n 1, 1) ∧ lk (mMsk 52) 0 = none := by decide +kernel
theorem i52_1 : decode (mCd 52) 1 = .ok (.aload_n 0, 1) ∧ lk (mMsk 52) 1 = none := by decide +kernel
theorem i52_2 : decode (mCd 52) 2 = .ok (.getfield 51, 3) ∧ lk (mMsk 52) 2 = none := by decide +kernel
theorem g52_51 : fOk 52 51 5 1 = true := by decide +kernel
theorem i52_5 : decode (mCd 52) 5 = .ok (.getfield 103, 3) ∧ lk (mMsk 52) 5 = none := by decide +kernel
theorem g52_103 : fOk 52 103 6 1 = true := by decide +kernel
theorem i52_8 : decode (mCd 52) 8 = .ok (.if_icmp .ge 14, 3) ∧ lk (mMsk 52) 8 = none := by decide +kernel
theorem i52_22 : decode (mCd 52) 22 = .ok (.iconst 1, 1) ∧ lk (mMsk 52) 22 = none := by decide +kernel
theorem i52_23 : decode (mCd 52) 23 = .ok (.ireturn, 1) ∧ lk (mMsk 52) 23 = some [false, false, false] := by decide +kernel
theorem i52_11 : decode (mCd 52) 11 = .ok (.aload_n 0, 1) ∧ lk (mMsk 52) 11 = none := by decide +kernel
theorem i52_12 : decode (mCd 52) 12 = .ok (.getfield 47, 3) ∧ lk (mMsk 52) 12 = none := by decide +kernel
theorem g52_47 : fOk 52 47 5 0 = true := by decide +kernel
theorem i52_15 : decode (mCd 52) 15 = .ok (.iload_n 2, 1) ∧ lk (mMsk 52) 15 = none := by decide +kernel
theorem i52_16 : decode (mCd 52) 16 = .ok (.invokevirtual 106, 3) ∧ lk (mMsk 52) 16 = none := by decide +kernel
theorem c52_106 : cvOk 52 106 26 1 0 = true := by decide +kernel
theorem i52_19 : decode (mCd 52) 19 = .ok (.goto 4, 3) ∧ lk (mMsk 52) 19 = none := by decide +kernel
theorem i53_0 : decode (mCd 53) 0 = .ok (.iload_n 2, 1) ∧ lk (mMsk 53) 0 = none := by decide +kernel
theorem i53_1 : decode (mCd 53) 1 = .ok (.iload_n 3, 1) ∧ lk (mMsk 53) 1 = none := by decide +kernel
theorem i53_2 : decode (mCd 53) 2 = .ok (.if_icmp .ne 29, 3) ∧ lk (mMsk 53) 2 = none := by decide +kernel
theorem i53_5 : decode (mCd 53) 5 = .ok (.iload 4, 2) ∧ lk (mMsk 53) 5 = none := by decide +kernel
theorem i53_7 : decode (mCd 53) 7 = .ok (.iload_n 1, 1) ∧ lk (mMsk 53) 7 = none := by decide +kernel
theorem i53_8 : decode (mCd 53) 8 = .ok (.if_icmp .ne 23, 3) ∧ lk (mMsk 53) 8 = none := by decide +kernel
theorem i53_11 : decode (mCd 53) 11 = .ok (.aload_n 0, 1) ∧ lk (mMsk 53) 11 = none := by decide +kernel
theorem i53_12 : decode (mCd 53) 12 = .ok (.getfield 47, 3) ∧ lk (mMsk 53) 12 = none := by decide +kernel
theorem g53_47 : fOk 53 47 5 0 = true := by decide +kernel
theorem i53_15 : decode (mCd 53) 15 = .ok (.iload_n 1, 1) ∧ lk (mMsk 53) 15 = none := by decide +kernel
theorem i53_16 : decode (mCd 53) 16 = .ok (.iload_n 3, 1) ∧ lk (mMsk 53) 16 = none := by decide +kernel
theorem i53_17 : decode (mCd 53) 17 = .ok (.aload_n 0, 1) ∧ lk (mMsk 53) 17 = none := by decide +kernel
theorem i53_18 : decode (mCd 53) 18 = .ok (.getfield 38, 3) ∧ lk (mMsk 53) 18 = none := by decide +kernel
theorem g53_38 : fOk 53 38 5 10 = true := by decide +kernel
theorem i53_21 : decode (mCd 53) 21 = .ok (.invokevirtual 110, 3) ∧ lk (mMsk 53) 21 = none := by decide +kernel
theorem c53_110 : cvOk 53 110 25 3 0 = true := by decide +kernel
theorem i53_24 : decode (mCd 53) 24 = .ok (.ifCond .eq 7, 3) ∧ lk (mMsk 53) 24 = none := by decide +kernel
theorem i53_31 : decode (mCd 53) 31 = .ok (.iconst 0, 1) ∧ lk (mMsk 53) 31 = some [false, false, false, false, false] := by decide +kernel
theorem i53_27 : decode (mCd 53) 27 = .ok (.iconst 1, 1) ∧ lk (mMsk 53) 27 = none := by decide +kernel
theorem i53_28 : decode (mCd 53) 28 = .ok (.goto 4, 3) ∧ lk (mMsk 53) 28 = none := by decide +kernel
theorem i53_32 : decode (mCd 53) 32 = .ok (.ireturn, 1) ∧ lk (mMsk 53) 32 = some [false, false, false, false, false] := by decide +kernel
theorem i54_0 : decode (mCd 54) 0 = .ok (.iload_n 0, 1) ∧ lk (mMsk 54) 0 = none := by decide +kernel
theorem i54_1 : decode (mCd 54) 1 = .ok (.iconst 3, 1) ∧ lk (mMsk 54) 1 = none := by decide +kernel
theorem i54_2 : decode (mCd 54) 2 = .ok (.iconst 2, 1) ∧ lk (mMsk 54) 2 = none := by decide +kernel
theorem i54_3 : decode (mCd 54) 3 = .ok (.iload_n 1, 1) ∧ lk (mMsk 54) 3 = none := by decide +kernel
theorem i54_4 : decode (mCd 54) 4 = .ok (.isub, 1) ∧ lk (mMsk 54) 4 = none := by decide +kernel
theorem i54_5 : decode (mCd 54) 5 = .ok (.imul, 1) ∧ lk (mMsk 54) 5 = none := by decide +kernel
theorem i54_6 : decode (mCd 54) 6 = .ok (.ishr, 1) ∧ lk (mMsk 54) 6 = none := by decide +kernel
theorem i54_7 : decode (mCd 54) 7 = .ok (.bipush 7, 2) ∧ lk (mMsk 54) 7 = none := by decide +kernel
theorem i54_9 : decode (mCd 54) 9 = .ok (.iand, 1) ∧ lk (mMsk 54) 9 = none := by decide +kernel
theorem i54_10 : decode (mCd 54) 10 = .ok (.ireturn, 1) ∧ lk (mMsk 54) 10 = none := by decide +kernel
theorem i55_0 : decode (mCd 55) 0 = .ok (.iconst 0, 1) ∧ lk (mMsk 55) 0 = none := by decide +kernel
theorem i55_1 : decode (mCd 55) 1 = .ok (.istore_n 3, 1) ∧ lk (mMsk 55) 1 = none := by decide +kernel
theorem i55_2 : decode (mCd 55) 2 = .ok (.iload_n 3, 1) ∧ lk (mMsk 55) 2 = some [true, true, true, true] := by decide +kernel
theorem i55_3 : decode (mCd 55) 3 = .ok (.sipush 512, 3) ∧ lk (mMsk 55) 3 = none := by decide +kernel
theorem i55_6 : decode (mCd 55) 6 = .ok (.if_icmp .ge 39, 3) ∧ lk (mMsk 55) 6 = none := by decide +kernel
theorem i55_45 : decode (mCd 55) 45 = .ok (.iconst (-1), 1) ∧ lk (mMsk 55) 45 = none := by decide +kernel
theorem i55_46 : decode (mCd 55) 46 = .ok (.ireturn, 1) ∧ lk (mMsk 55) 46 = none := by decide +kernel
theorem i55_9 : decode (mCd 55) 9 = .ok (.aload_n 0, 1) ∧ lk (mMsk 55) 9 = none := by decide +kernel
theorem i55_10 : decode (mCd 55) 10 = .ok (.getfield 11, 3) ∧ lk (mMsk 55) 10 = none := by decide +kernel
theorem g55_11 : fOk 55 11 5 2 = true := by decide +kernel
theorem i55_13 : decode (mCd 55) 13 = .ok (.iload_n 3, 1) ∧ lk (mMsk 55) 13 = none := by decide +kernel
theorem i55_14 : decode (mCd 55) 14 = .ok (.iaload, 1) ∧ lk (mMsk 55) 14 = none := by decide +kernel
theorem i55_15 : decode (mCd 55) 15 = .ok (.iload_n 1, 1) ∧ lk (mMsk 55) 15 = none := by decide +kernel
theorem i55_16 : decode (mCd 55) 16 = .ok (.iconst 1, 1) ∧ lk (mMsk 55) 16 = none := by decide +kernel
theorem i55_17 : decode (mCd 55) 17 = .ok (.isub, 1) ∧ lk (mMsk 55) 17 = none := by decide +kernel
theorem i55_18 : decode (mCd 55) 18 = .ok (.if_icmp .ne 21, 3) ∧ lk (mMsk 55) 18 = none := by decide +kernel
theorem i55_21 : decode (mCd 55) 21 = .ok (.aload_n 0, 1) ∧ lk (mMsk 55) 21 = none := by decide +kernel
theorem i55_22 : decode (mCd 55) 22 = .ok (.aload_n 0, 1) ∧ lk (mMsk 55) 22 = none := by decide +kernel
theorem i55_23 : decode (mCd 55) 23 = .ok (.getfield 22, 3) ∧ lk (mMsk 55) 23 = none := by decide +kernel
theorem g55_22 : fOk 55 22 5 5 = true := by decide +kernel
theorem i55_26 : decode (mCd 55) 26 = .ok (.iload_n 3, 1) ∧ lk (mMsk 55) 26 = none := by decide +kernel
theorem i55_27 : decode (mCd 55) 27 = .ok (.invokevirtual 114, 3) ∧ lk (mMsk 55) 27 = none := by decide +kernel
theorem c55_114 : cvOk 55 114 56 2 0 = true := by decide +kernel
theorem i55_30 : decode (mCd 55) 30 = .ok (.ifCond .eq 9, 3) ∧ lk (mMsk 55) 30 = none := by decide +kernel
theorem i55_39 : decode (mCd 55) 39 = .ok (.iinc 3 1, 3) ∧ lk (mMsk 55) 39 = some [true, true, true, true] := by decide +kernel
theorem i55_33 : decode (mCd 55) 33 = .ok (.iload_n 3, 1) ∧ lk (mMsk 55) 33 = none := by decide +kernel
theorem i55_34 : decode (mCd 55) 34 = .ok (.iload_n 2, 1) ∧ lk (mMsk 55) 34 = none := by decide +kernel
theorem i55_35 : decode (mCd 55) 35 = .ok (.invokestatic 83, 3) ∧ lk (mMsk 55) 35 = none := by decide +kernel
theorem c55_83 : ciOk 55 83 54 2 0 = true := by decide +kernel
theorem i55_38 : decode (mCd 55) 38 = .ok (.ireturn, 1) ∧ lk (mMsk 55) 38 = none := by decide +kernel
theorem i55_42 : decode (mCd 55) 42 = .ok (.goto (-40), 3) ∧ lk (mMsk 55) 42 = none := by decide +kernel
theorem i56_0 : decode (mCd 56) 0 = .ok (.iconst 0, 1) ∧ lk (mMsk 56) 0 = none := by decide +kernel
theorem i56_1 : decode (mCd 56) 1 = .ok (.istore_n 3, 1) ∧ lk (mMsk 56) 1 = none := by decide +kernel
theorem i56_2 : decode (mCd 56) 2 = .ok (.iload_n 3, 1) ∧ lk (mMsk 56) 2 = some [true, true, true, true, false, false, false, false, false] := by decide +kernel
theorem i56_3 : decode (mCd 56) 3 = .ok (.iconst 3, 1) ∧ lk (mMsk 56) 3 = none := by decide +kernel
theorem i56_4 : decode (mCd 56) 4 = .ok (.if_icmp .ge 46, 3) ∧ lk (mMsk 56) 4 = none := by decide +kernel
theorem i56_50 : decode (mCd 56) 50 = .ok (.iload_n 1, 1) ∧ lk (mMsk 56) 50 = none := by decide +kernel
theorem i56_51 : decode (mCd 56) 51 = .ok (.iconst 0, 1) ∧ lk (mMsk 56) 51 = none := by decide +kernel
theorem i56_52 : decode (mCd 56) 52 = .ok (.invokestatic 83, 3) ∧ lk (mMsk 56) 52 = none := by decide +kernel
theorem c56_83 : ciOk 56 83 54 2 0 = true := by decide +kernel
theorem i56_55 : decode (mCd 56) 55 = .ok (.istore_n 3, 1) ∧ lk (mMsk 56) 55 = none := by decide +kernel
theorem i56_56 : decode (mCd 56) 56 = .ok (.iload_n 2, 1) ∧ lk (mMsk 56) 56 = none := by decide +kernel
theorem i56_57 : decode (mCd 56) 57 = .ok (.iconst 0, 1) ∧ lk (mMsk 56) 57 = none := by decide +kernel
theorem i56_58 : decode (mCd 56) 58 = .ok (.invokestatic 83, 3) ∧ lk (mMsk 56) 58 = none := by decide +kernel
theorem i56_61 : decode (mCd 56) 61 = .ok (.istore 4, 2) ∧ lk (mMsk 56) 61 = none := by decide +kernel
theorem i56_63 : decode (mCd 56) 63 = .ok (.iload_n 1, 1) ∧ lk (mMsk 56) 63 = none := by decide +kernel
theorem i56_64 : decode (mCd 56) 64 = .ok (.iconst 1, 1) ∧ lk (mMsk 56) 64 = none := by decide +kernel
theorem i56_65 : decode (mCd 56) 65 = .ok (.invokestatic 83, 3) ∧ lk (mMsk 56) 65 = none := by decide +kernel
theorem i56_68 : decode (mCd 56) 68 = .ok (.istore 5, 2) ∧ lk (mMsk 56) 68 = none := by decide +kernel
theorem i56_70 : decode (mCd 56) 70 = .ok (.iload_n 2, 1) ∧ lk (mMsk 56) 70 = none := by decide +kernel
theorem i56_71 : decode (mCd 56) 71 = .ok (.iconst 1, 1) ∧ lk (mMsk 56) 71 = none := by decide +kernel
theorem i56_72 : decode (mCd 56) 72 = .ok (.invokestatic 83, 3) ∧ lk (mMsk 56) 72 = none := by decide +kernel
theorem i56_75 : decode (mCd 56) 75 = .ok (.istore 6, 2) ∧ lk (mMsk 56) 75 = none := by decide +kernel
theorem i56_77 : decode (mCd 56) 77 = .ok (.iload_n 1, 1) ∧ lk (mMsk 56) 77 = none := by decide +kernel
theorem i56_78 : decode (mCd 56) 78 = .ok (.iconst 2, 1) ∧ lk (mMsk 56) 78 = none := by decide +kernel
theorem i56_79 : decode (mCd 56) 79 = .ok (.invokestatic 83, 3) ∧ lk (mMsk 56) 79 = none := by decide +kernel
theorem i56_82 : decode (mCd 56) 82 = .ok (.istore 7, 2) ∧ lk (mMsk 56) 82 = none := by decide +kernel
theorem i56_84 : decode (mCd 56) 84 = .ok (.iload_n 2, 1) ∧ lk (mMsk 56) 84 = none := by decide +kernel
theorem i56_85 : decode (mCd 56) 85 = .ok (.iconst 2, 1) ∧ lk (mMsk 56) 85 = none := by decide +kernel
theorem i56_86 : decode (mCd 56) 86 = .ok (.invokestatic 83, 3) ∧ lk (mMsk 56) 86 = none := by decide +kernel
theorem i56_89 : decode (mCd 56) 89 = .ok (.istore 8, 2) ∧ lk (mMsk 56) 89 = none := by decide +kernel
theorem i56_91 : decode (mCd 56) 91 = .ok (.aload_n 0, 1) ∧ lk (mMsk 56) 91 = none := by decide +kernel
theorem i56_92 : decode (mCd 56) 92 = .ok (.getfield 28, 3) ∧ lk (mMsk 56) 92 = none := by decide +kernel
theorem g56_28 : fOk 56 28 5 7 = true := by decide +kernel
theorem i56_95 : decode (mCd 56) 95 = .ok (.ifCond .ne 17, 3) ∧ lk (mMsk 56) 95 = none := by decide +kernel
theorem i56_98 : decode (mCd 56) 98 = .ok (.aload_n 0, 1) ∧ lk (mMsk 56) 98 = none := by decide +kernel
theorem i56_99 : decode (mCd 56) 99 = .ok (.iload_n 3, 1) ∧ lk (mMsk 56) 99 = none := by decide +kernel
theorem i56_100 : decode (mCd 56) 100 = .ok (.iload 4, 2) ∧ lk (mMsk 56) 100 = none := by decide +kernel
theorem i56_102 : decode (mCd 56) 102 = .ok (.iload 5, 2) ∧ lk (mMsk 56) 102 = none := by decide +kernel
theorem i56_104 : decode (mCd 56) 104 = .ok (.iload 6, 2) ∧ lk (mMsk 56) 104 = none := by decide +kernel
theorem i56_106 : decode (mCd 56) 106 = .ok (.invokevirtual 95, 3) ∧ lk (mMsk 56) 106 = none := by decide +kernel
theorem c56_95 : cvOk 56 95 53 4 0 = true := by decide +kernel
theorem i56_109 : decode (mCd 56) 109 = .ok (.ifCond .ne 50, 3) ∧ lk (mMsk 56) 109 = none := by decide +kernel
theorem i56_112 : decode (mCd 56) 112 = .ok (.aload_n 0, 1) ∧ lk (mMsk 56) 112 = some [true, false, false, true, true, true, true, true, true] := by decide +kernel
theorem i56_159 : decode (mCd 56) 159 = .ok (.iconst 0, 1) ∧ lk (mMsk 56) 159 = some [false, false, false, false, false, false, false, false, false] := by decide +kernel
theorem i56_7 : decode (mCd 56) 7 = .ok (.iload_n 1, 1) ∧ lk (mMsk 56) 7 = none := by decide +kernel
theorem i56_8 : decode (mCd 56) 8 = .ok (.iload_n 3, 1) ∧ lk (mMsk 56) 8 = none := by decide +kernel
theorem i56_9 : decode (mCd 56) 9 = .ok (.invokestatic 83, 3) ∧ lk (mMsk 56) 9 = none := by decide +kernel
theorem i56_12 : decode (mCd 56) 12 = .ok (.istore 4, 2) ∧ lk (mMsk 56) 12 = none := by decide +kernel
theorem i56_14 : decode (mCd 56) 14 = .ok (.iload_n 2, 1) ∧ lk (mMsk 56) 14 = none := by decide +kernel
theorem i56_15 : decode (mCd 56) 15 = .ok (.iload_n 3, 1) ∧ lk (mMsk 56) 15 = none := by decide +kernel
theorem i56_16 : decode (mCd 56) 16 = .ok (.invokestatic 83, 3) ∧ lk (mMsk 56) 16 = none := by decide +kernel
theorem i56_19 : decode (mCd 56) 19 = .ok (.istore 5, 2) ∧ lk (mMsk 56) 19 = none := by decide +kernel
theorem i56_21 : decode (mCd 56) 21 = .ok (.iload 4, 2) ∧ lk (mMsk 56) 21 = none := by decide +kernel
theorem i56_23 : decode (mCd 56) 23 = .ok (.iload 5, 2) ∧ lk (mMsk 56) 23 = none := by decide +kernel
theorem i56_25 : decode (mCd 56) 25 = .ok (.if_icmp .eq 19, 3) ∧ lk (mMsk 56) 25 = none := by decide +kernel
theorem i56_44 : decode (mCd 56) 44 = .ok (.iinc 3 1, 3) ∧ lk (mMsk 56) 44 = some [true, true, true, true, false, false, false, false, false] := by decide +kernel
theorem i56_28 : decode (mCd 56) 28 = .ok (.aload_n 0, 1) ∧ lk (mMsk 56) 28 = none := by decide +kernel
theorem i56_29 : decode (mCd 56) 29 = .ok (.getfield 47, 3) ∧ lk (mMsk 56) 29 = none := by decide +kernel
theorem g56_47 : fOk 56 47 5 0 = true := by decide +kernel
theorem i56_32 : decode (mCd 56) 32 = .ok (.iload 4, 2) ∧ lk (mMsk 56) 32 = none := by decide +kernel
theorem i56_34 : decode (mCd 56) 34 = .ok (.iload 5, 2) ∧ lk (mMsk 56) 34 = none := by decide +kernel
theorem i56_36 : decode (mCd 56) 36 = .ok (.invokevirtual 118, 3) ∧ lk (mMsk 56) 36 = none := by decide +kernel
theorem c56_118 : cvOk 56 118 24 2 0 = true := by decide +kernel
theorem i56_39 : decode (mCd 56) 39 = .ok (.ifCond .ne 5, 3) ∧ lk (mMsk 56) 39 = none := by decide +kernel
theorem i56_42 : decode (mCd 56) 42 = .ok (.iconst 0, 1) ∧ lk (mMsk 56) 42 = none := by decide +kernel
theorem i56_43 : decode (mCd 56) 43 = .ok (.ireturn, 1) ∧ lk (mMsk 56) 43 = none := by decide +kernel
theorem i56_47 : decode (mCd 56) 47 = .ok (.goto (-45), 3) ∧ lk (mMsk 56) 47 = none := by decide +kernel
theorem i56_160 : decode (mCd 56) 160 = .ok (.ireturn, 1) ∧ lk (mMsk 56) 160 = some [false, false, false, false, false, false, false, false, false] := by decide +kernel
theorem i56_113 : decode (mCd 56) 113 = .ok (.getfield 32, 3) ∧ lk (mMsk 56) 113 = none := by decide +kernel
theorem g56_32 : fOk 56 32 5 8 = true := by decide +kernel
theorem i56_116 : decode (mCd 56) 116 = .ok (.ifCond .ne 17, 3) ∧ lk (mMsk 56) 116 = none := by decide +kernel
theorem i56_119 : decode (mCd 56) 119 = .ok (.aload_n 0, 1) ∧ lk (mMsk 56) 119 = none := by decide +kernel
theorem i56_120 : decode (mCd 56) 120 = .ok (.iload_n 3, 1) ∧ lk (mMsk 56) 120 = none := by decide +kernel
theorem i56_121 : decode (mCd 56) 121 = .ok (.iload 4, 2) ∧ lk (mMsk 56) 121 = none := by decide +kernel
theorem i56_123 : decode (mCd 56) 123 = .ok (.iload 7, 2) ∧ lk (mMsk 56) 123 = none := by decide +kernel
theorem i56_125 : decode (mCd 56) 125 = .ok (.iload 8, 2) ∧ lk (mMsk 56) 125 = none := by decide +kernel
theorem i56_127 : decode (mCd 56) 127 = .ok (.invokevirtual 95, 3) ∧ lk (mMsk 56) 127 = none := by decide +kernel
theorem i56_130 : decode (mCd 56) 130 = .ok (.ifCond .ne 29, 3) ∧ lk (mMsk 56) 130 = none := by decide +kernel
theorem i56_133 : decode (mCd 56) 133 = .ok (.aload_n 0, 1) ∧ lk (mMsk 56) 133 = some [true, false, false, false, false, true, true, true, true] := by decide +kernel
theorem i56_134 : decode (mCd 56) 134 = .ok (.getfield 35, 3) ∧ lk (mMsk 56) 134 = none := by decide +kernel
theorem g56_35 : fOk 56 35 5 9 = true := by decide +kernel
theorem i56_137 : decode (mCd 56) 137 = .ok (.ifCond .ne 18, 3) ∧ lk (mMsk 56) 137 = none := by decide +kernel
theorem i56_140 : decode (mCd 56) 140 = .ok (.aload_n 0, 1) ∧ lk (mMsk 56) 140 = none := by decide +kernel
theorem i56_141 : decode (mCd 56) 141 = .ok (.iload 5, 2) ∧ lk (mMsk 56) 141 = none := by decide +kernel
theorem i56_143 : decode (mCd 56) 143 = .ok (.iload 6, 2) ∧ lk (mMsk 56) 143 = none := by decide +kernel
theorem i56_145 : decode (mCd 56) 145 = .ok (.iload 7, 2) ∧ lk (mMsk 56) 145 = none := by decide +kernel
theorem i56_147 : decode (mCd 56) 147 = .ok (.iload 8, 2) ∧ lk (mMsk 56) 147 = none := by decide +kernel
theorem i56_149 : decode (mCd 56) 149 = .ok (.invokevirtual 95, 3) ∧ lk (mMsk 56) 149 = none := by decide +kernel
theorem i56_152 : decode (mCd 56) 152 = .ok (.ifCond .ne 7, 3) ∧ lk (mMsk 56) 152 = none := by decide +kernel
theorem i56_155 : decode (mCd 56) 155 = .ok (.iconst 1, 1) ∧ lk (mMsk 56) 155 = some [false, false, false, false, false, false, false, false, false] := by decide +kernel
theorem i56_156 : decode (mCd 56) 156 = .ok (.goto 4, 3) ∧ lk (mMsk 56) 156 = none := by decide +kernel
theorem i57_0 : decode (mCd 57) 0 = .ok (.aload_n 0, 1) ∧ lk (mMsk 57) 0 = none := by decide +kernel
theorem i57_1 : decode (mCd 57) 1 = .ok (.iconst (-1), 1) ∧ lk (mMsk 57) 1 = none := by decide +kernel
theorem i57_2 : decode (mCd 57) 2 = .ok (.putfield 41, 3) ∧ lk (mMsk 57) 2 = none := by decide +kernel
theorem p57_41 : pOk 57 41 5 11 = true := by decide +kernel
theorem i57_5 : decode (mCd 57) 5 = .ok (.aload_n 0, 1) ∧ lk (mMsk 57) 5 = none := by decide +kernel
theorem i57_6 : decode (mCd 57) 6 = .ok (.iconst (-1), 1) ∧ lk (mMsk 57) 6 = none := by decide +kernel
theorem i57_7 : decode (mCd 57) 7 = .ok (.putfield 44, 3) ∧ lk (mMsk 57) 7 = none := by decide +kernel
theorem p57_44 : pOk 57 44 5 12 = true := by decide +kernel
theorem i57_10 : decode (mCd 57) 10 = .ok (.aload_n 0, 1) ∧ lk (mMsk 57) 10 = none := by decide +kernel
theorem i57_11 : decode (mCd 57) 11 = .ok (.iconst (-1), 1) ∧ lk (mMsk 57) 11 = none := by decide +kernel
theorem i57_12 : decode (mCd 57) 12 = .ok (.bipush 30, 2) ∧ lk (mMsk 57) 12 = none := by decide +kernel
theorem i57_14 : decode (mCd 57) 14 = .ok (.invokevirtual 121, 3) ∧ lk (mMsk 57) 14 = none := by decide +kernel
theorem c57_121 : cvOk 57 121 49 2 0 = true := by decide +kernel
theorem i57_17 : decode (mCd 57) 17 = .ok (.istore_n 1, 1) ∧ lk (mMsk 57) 17 = none := by decide +kernel
theorem i57_18 : decode (mCd 57) 18 = .ok (.aload_n 0, 1) ∧ lk (mMsk 57) 18 = none := by decide +kernel
theorem i57_19 : decode (mCd 57) 19 = .ok (.bipush 12, 2) ∧ lk (mMsk 57) 19 = none := by decide +kernel
theorem i57_21 : decode (mCd 57) 21 = .ok (.bipush 30, 2) ∧ lk (mMsk 57) 21 = none := by decide +kernel
theorem i57_23 : decode (mCd 57) 23 = .ok (.invokevirtual 121, 3) ∧ lk (mMsk 57) 23 = none := by decide +kernel
theorem i57_26 : decode (mCd 57) 26 = .ok (.istore_n 2, 1) ∧ lk (mMsk 57) 26 = none := by decide +kernel
theorem i57_27 : decode (mCd 57) 27 = .ok (.iload_n 2, 1) ∧ lk (mMsk 57) 27 = none := by decide +kernel
theorem i57_28 : decode (mCd 57) 28 = .ok (.iconst (-1), 1) ∧ lk (mMsk 57) 28 = none := by decide +kernel
theorem i57_29 : decode (mCd 57) 29 = .ok (.if_icmp .ne 4, 3) ∧ lk (mMsk 57) 29 = none := by decide +kernel
theorem i57_32 : decode (mCd 57) 32 = .ok (.return_, 1) ∧ lk (mMsk 57) 32 = none := by decide +kernel
theorem i57_33 : decode (mCd 57) 33 = .ok (.iload_n 1, 1) ∧ lk (mMsk 57) 33 = none := by decide +kernel
theorem i57_34 : decode (mCd 57) 34 = .ok (.iconst (-1), 1) ∧ lk (mMsk 57) 34 = none := by decide +kernel
theorem i57_35 : decode (mCd 57) 35 = .ok (.if_icmp .ne 8, 3) ∧ lk (mMsk 57) 35 = none := by decide +kernel
theorem i57_38 : decode (mCd 57) 38 = .ok (.bipush 31, 2) ∧ lk (mMsk 57) 38 = none := by decide +kernel
theorem i57_40 : decode (mCd 57) 40 = .ok (.goto 4, 3) ∧ lk (mMsk 57) 40 = none := by decide +kernel
theorem i57_44 : decode (mCd 57) 44 = .ok (.istore_n 3, 1) ∧ lk (mMsk 57) 44 = some [true, false, true, false, false, false] := by decide +kernel
theorem i57_43 : decode (mCd 57) 43 = .ok (.iload_n 1, 1) ∧ lk (mMsk 57) 43 = none := by decide +kernel
theorem i57_45 : decode (mCd 57) 45 = .ok (.iconst 0, 1) ∧ lk (mMsk 57) 45 = none := by decide +kernel
theorem i57_46 : decode (mCd 57) 46 = .ok (.istore 4, 2) ∧ lk (mMsk 57) 46 = none := by decide +kernel
theorem i57_48 : decode (mCd 57) 48 = .ok (.iload 4, 2) ∧ lk (mMsk 57) 48 = some [true, false, true, true, true, false] := by decide +kernel
theorem i57_50 : decode (mCd 57) 50 = .ok (.aload_n 0, 1) ∧ lk (mMsk 57) 50 = none := by decide +kernel
theorem i57_51 : decode (mCd 57) 51 = .ok (.getfield 47, 3) ∧ lk (mMsk 57) 51 = none := by decide +kernel
theorem g57_47 : fOk 57 47 5 0 = true := by decide +kernel
theorem i57_54 : decode (mCd 57) 54 = .ok (.getfield 124, 3) ∧ lk (mMsk 57) 54 = none := by decide +kernel
theorem g57_124 : fOk 57 124 2 3 = true := by decide +kernel
theorem i57_57 : decode (mCd 57) 57 = .ok (.if_icmp .ge 63, 3) ∧ lk (mMsk 57) 57 = none := by decide +kernel
theorem i57_120 : decode (mCd 57) 120 = .ok (.return_, 1) ∧ lk (mMsk 57) 120 = some [false, false, false, false, false, false] := by decide +kernel
theorem i57_60 : decode (mCd 57) 60 = .ok (.iload_n 3, 1) ∧ lk (mMsk 57) 60 = none := by decide +kernel
theorem i57_61 : decode (mCd 57) 61 = .ok (.iload_n 2, 1) ∧ lk (mMsk 57) 61 = none := by decide +kernel
theorem i57_62 : decode (mCd 57) 62 = .ok (.if_icmp .le 58, 3) ∧ lk (mMsk 57) 62 = none := by decide +kernel
theorem i57_65 : decode (mCd 57) 65 = .ok (.aload_n 0, 1) ∧ lk (mMsk 57) 65 = none := by decide +kernel
theorem i57_66 : decode (mCd 57) 66 = .ok (.getfield 47, 3) ∧ lk (mMsk 57) 66 = none := by decide +kernel
theorem i57_69 : decode (mCd 57) 69 = .ok (.getfield 127, 3) ∧ lk (mMsk 57) 69 = none := by decide +kernel
theorem g57_127 : fOk 57 127 2 2 = true := by decide +kernel
theorem i57_72 : decode (mCd 57) 72 = .ok (.iload 4, 2) ∧ lk (mMsk 57) 72 = none := by decide +kernel
theorem i57_74 : decode (mCd 57) 74 = .ok (.baload, 1) ∧ lk (mMsk 57) 74 = none := by decide +kernel
theorem i57_75 : decode (mCd 57) 75 = .ok (.ifCond .eq 7, 3) ∧ lk (mMsk 57) 75 = none := by decide +kernel
theorem i57_82 : decode (mCd 57) 82 = .ok (.aload_n 0, 1) ∧ lk (mMsk 57) 82 = none := by decide +kernel
theorem i57_83 : decode (mCd 57) 83 = .ok (.iload 4, 2) ∧ lk (mMsk 57) 83 = none := by decide +kernel
theorem i57_85 : decode (mCd 57) 85 = .ok (.iload_n 3, 1) ∧ lk (mMsk 57) 85 = none := by decide +kernel
theorem i57_86 : decode (mCd 57) 86 = .ok (.iconst 1, 1) ∧ lk (mMsk 57) 86 = none := by decide +kernel
theorem i57_87 : decode (mCd 57) 87 = .ok (.isub, 1) ∧ lk (mMsk 57) 87 = none := by decide +kernel
theorem i57_88 : decode (mCd 57) 88 = .ok (.invokevirtual 121, 3) ∧ lk (mMsk 57) 88 = none := by decide +kernel
theorem i57_91 : decode (mCd 57) 91 = .ok (.istore 5, 2) ∧ lk (mMsk 57) 91 = some [true, false, true, true, true, false] := by decide +kernel
theorem i57_78 : decode (mCd 57) 78 = .ok (.iconst (-1), 1) ∧ lk (mMsk 57) 78 = none := by decide +kernel
theorem i57_79 : decode (mCd 57) 79 = .ok (.goto 12, 3) ∧ lk (mMsk 57) 79 = none := by decide +kernel
theorem i57_93 : decode (mCd 57) 93 = .ok (.iload 5, 2) ∧ lk (mMsk 57) 93 = none := by decide +kernel
theorem i57_95 : decode (mCd 57) 95 = .ok (.iconst (-1), 1) ∧ lk (mMsk 57) 95 = none := by decide +kernel
theorem i57_96 : decode (mCd 57) 96 = .ok (.if_icmp .eq 18, 3) ∧ lk (mMsk 57) 96 = none := by decide +kernel
theorem i57_114 : decode (mCd 57) 114 = .ok (.iinc 4 1, 3) ∧ lk (mMsk 57) 114 = some [true, false, true, true, true, false] := by decide +kernel
theorem i57_99 : decode (mCd 57) 99 = .ok (.iload 5, 2) ∧ lk (mMsk 57) 99 = none := by decide +kernel
theorem i57_101 : decode (mCd 57) 101 = .ok (.istore_n 3, 1) ∧ lk (mMsk 57) 101 = none := by decide +kernel
theorem i57_102 : decode (mCd 57) 102 = .ok (.aload_n 0, 1) ∧ lk (mMsk 57) 102 = none := by decide +kernel
theorem i57_103 : decode (mCd 57) 103 = .ok (.iload 4, 2) ∧ lk (mMsk 57) 103 = none := by decide +kernel
theorem i57_105 : decode (mCd 57) 105 = .ok (.putfield 41, 3) ∧ lk (mMsk 57) 105 = none := by decide +kernel
theorem i57_108 : decode (mCd 57) 108 = .ok (.aload_n 0, 1) ∧ lk (mMsk 57) 108 = none := by decide +kernel
theorem i57_109 : decode (mCd 57) 109 = .ok (.iload 5, 2) ∧ lk (mMsk 57) 109 = none := by decide +kernel
theorem i57_111 : decode (mCd 57) 111 = .ok (.putfield 44, 3) ∧ lk (mMsk 57) 111 = none := by decide +kernel
theorem i57_117 : decode (mCd 57) 117 = .ok (.goto (-69), 3) ∧ lk (mMsk 57) 117 = none := by decide +kernel
theorem f_Planner_begin_eq   {S : Mem} : f_Planner_begin  S = k_Planner_begin_12 0 (u1 (u1 S 52 5 0) 52 6 0) := by
  show cU (mV oS X0 48 0 [some (.ref 52), none, none] [] S) = _
  refine V_aload_n (c := cU) i48_0.1 (mM_n i48_0.2) rfl rfl ?_
  refine V_iconst (c := cU) i48_1.1 (mM_n i48_1.2) (v := 0) rfl ?_
  refine V_pf (c := cU) i48_2.1 (mM_n i48_2.2) p48_22 (pf_i rfl rfl rfl) ?_
  refine V_aload_n (c := cU) i48_5.1 (mM_n i48_5.2) rfl rfl ?_
  refine V_iconst (c := cU) i48_6.1 (mM_n i48_6.2) (v := 0) rfl ?_
  refine V_pf (c := cU) i48_7.1 (mM_n i48_7.2) p48_25 (pf_i rfl rfl rfl) ?_
  refine V_iconst (c := cU) i48_10.1 (mM_n i48_10.2) (v := 0) rfl ?_
  refine V_istore_n (c := cU) i48_11.1 (mM_n i48_11.2) (l1 := [some (.ref 52), some (.int 0), none])  (Nat.le_of_ble_eq_true rfl) rfl ?_
  exact V_msk (l1 := [some (.ref 52), some (.int 0), none]) i48_12.2 rfl rfl
theorem k_Planner_begin_12_eq {x1 : Int32}  {S : Mem} : k_Planner_begin_12 x1 S = if 3 ≤ x1 then bI (f_Town_mayPass 14 0 1 S) (fun r12 S11 => if zb r12 = true then bI (f_Town_mayPass 14 0 2 (u1 S11 52 7 r12)) (fun r14 S13 => if zb r14 = true then bI (f_Town_mayPass 14 1 2 (u1 S13 52 8 r14)) (fun r16 S15 => if zb r16 = true then some (u1 S15 52 9 r16) else none) else none) else none) else bA (f_Town_at 14 x1 S) (fun r18 S17 => oc r18 (k_Planner_begin_38 x1 ((8 : Int32) * (S17.1 52 5)) S17) (fun w19 => k_Planner_begin_42 x1 w19 ((8 : Int32) * (S17.1 52 5)) S17)) := by
  show cU (mV oS X0 48 12 [some (.ref 52), some (.int x1), none] [] S) = _
  refine V_iload_n (c := cU) i48_12.1 (mM_s i48_12.2 rfl) rfl ?_
  refine V_iconst (c := cU) i48_13.1 (mM_n i48_13.2) (v := 3) rfl ?_
  refine V_icmp_ge (c := cU) i48_14.1 (mM_n i48_14.2) rfl (fun _ => ?_) (fun _ => ?_)
  · refine V_aload_n (c := cU) i48_80.1 (mM_n i48_80.2) rfl rfl ?_
    refine V_aload_n (c := cU) i48_81.1 (mM_n i48_81.2) rfl rfl ?_
    refine V_gf (c := cU) i48_82.1 (mM_n i48_82.2) (v := .ref 14) g48_51 rfl ?_
    refine V_aload_n (c := cU) i48_85.1 (mM_n i48_85.2) rfl rfl ?_
    refine V_gf (c := cU) i48_86.1 (mM_n i48_86.2) (v := .ref 7) g48_47 rfl ?_
    refine V_iconst (c := cU) i48_89.1 (mM_n i48_89.2) (v := 0) rfl ?_
    refine V_iconst (c := cU) i48_90.1 (mM_n i48_90.2) (v := 1) rfl ?_
    refine V_cvI (c := cU) (As := [.ref 7, .int 0, .int 1]) (rest := [.ref 52]) i48_91.1 (mM_n i48_91.2) c48_69 rfl (cl_sh (isT_o isT_14)) rfl rfl (Nat.le_of_ble_eq_true rfl) rfl (fun r12 S11 => ?_)
    refine V_pfZ (c := cU) i48_94.1 (mM_n i48_94.2) p48_28 rfl rfl rfl rfl (fun _ => ?_)
    refine V_aload_n (c := cU) i48_97.1 (mM_n i48_97.2) rfl rfl ?_
    refine V_aload_n (c := cU) i48_98.1 (mM_n i48_98.2) rfl rfl ?_
    refine V_gf (c := cU) i48_99.1 (mM_n i48_99.2) (v := .ref 14) g48_51 rfl ?_
    refine V_aload_n (c := cU) i48_102.1 (mM_n i48_102.2) rfl rfl ?_
    refine V_gf (c := cU) i48_103.1 (mM_n i48_103.2) (v := .ref 7) g48_47 rfl ?_
    refine V_iconst (c := cU) i48_106.1 (mM_n i48_106.2) (v := 0) rfl ?_
    refine V_iconst (c := cU) i48_107.1 (mM_n i48_107.2) (v := 2) rfl ?_
    refine V_cvI (c := cU) (As := [.ref 7, .int 0, .int 2]) (rest := [.ref 52]) i48_108.1 (mM_n i48_108.2) c48_69 rfl (cl_sh (isT_o isT_14)) rfl rfl (Nat.le_of_ble_eq_true rfl) rfl (fun r14 S13 => ?_)
    refine V_pfZ (c := cU) i48_111.1 (mM_n i48_111.2) p48_32 rfl rfl rfl rfl (fun _ => ?_)
    refine V_aload_n (c := cU) i48_114.1 (mM_n i48_114.2) rfl rfl ?_
    refine V_aload_n (c := cU) i48_115.1 (mM_n i48_115.2) rfl rfl ?_
    refine V_gf (c := cU) i48_116.1 (mM_n i48_116.2) (v := .ref 14) g48_51 rfl ?_
    refine V_aload_n (c := cU) i48_119.1 (mM_n i48_119.2) rfl rfl ?_
    refine V_gf (c := cU) i48_120.1 (mM_n i48_120.2) (v := .ref 7) g48_47 rfl ?_
    refine V_iconst (c := cU) i48_123.1 (mM_n i48_123.2) (v := 1) rfl ?_
    refine V_iconst (c := cU) i48_124.1 (mM_n i48_124.2) (v := 2) rfl ?_
    refine V_cvI (c := cU) (As := [.ref 7, .int 1, .int 2]) (rest := [.ref 52]) i48_125.1 (mM_n i48_125.2) c48_69 rfl (cl_sh (isT_o isT_14)) rfl rfl (Nat.le_of_ble_eq_true rfl) rfl (fun r16 S15 => ?_)
    refine V_pfZ (c := cU) i48_128.1 (mM_n i48_128.2) p48_35 rfl rfl rfl rfl (fun _ => ?_)
    exact V_vret i48_131.1 (mM_n i48_131.2) rfl
  · refine V_aload_n (c := cU) i48_17.1 (mM_n i48_17.2) rfl rfl ?_
    refine V_gf (c := cU) i48_18.1 (mM_n i48_18.2) (v := .ref 14) g48_51 rfl ?_
    refine V_iload_n (c := cU) i48_21.1 (mM_n i48_21.2) rfl ?_
    refine V_cvA (c := cU) (As := [.int x1]) (rest := []) i48_22.1 (mM_n i48_22.2) c48_55 rfl (cl_sh (isT_o isT_14)) rfl rfl (Nat.le_of_ble_eq_true rfl) rfl (fun r18 S17 => ?_)
    refine V_astore_n (c := cU) i48_25.1 (mM_n i48_25.2) (l1 := [some (.ref 52), some (.int x1), some (va_rf r18)])  (isA_rf _) (Nat.le_of_ble_eq_true rfl) rfl ?_
    refine V_aload_n (c := cU) i48_26.1 (mM_n i48_26.2) rfl rfl ?_
    refine V_bipush (c := cU) i48_27.1 (mM_n i48_27.2) (v := 8) rfl ?_
    refine V_aload_n (c := cU) i48_29.1 (mM_n i48_29.2) rfl rfl ?_
    refine V_gf (c := cU) i48_30.1 (mM_n i48_30.2) (v := .int (S17.1 52 5)) g48_22 rfl ?_
    refine V_imul (c := cU) i48_33.1 (mM_n i48_33.2)  ?_
    refine V_aload_n (c := cU) i48_34.1 (mM_n i48_34.2) rfl (isA_rf _) ?_
    cases r18 with
    | none =>
      refine V_ifnonnullN (c := cU) i48_35.1 (mM_n i48_35.2) rfl ?_
      exact V_msk (l1 := [some (.ref 52), some (.int x1), some (.null)]) i48_38.2 rfl rfl
    | some w19 =>
      refine V_ifnonnullR (c := cU) i48_35.1 (mM_n i48_35.2) rfl ?_
      exact V_msk (l1 := [some (.ref 52), some (.int x1), some (.ref w19)]) i48_42.2 rfl rfl
theorem k_Planner_begin_38_eq {x1 : Int32} {xs0 : Int32}  {S : Mem} : k_Planner_begin_38 x1 xs0 S = k_Planner_begin_46 x1 none 0 xs0 S := by
  show cU (mV oS X0 48 38 [some (.ref 52), some (.int x1), some (.null)] [.int xs0, .ref 52] S) = _
  refine V_iconst (c := cU) i48_38.1 (mM_s i48_38.2 rfl) (v := 0) rfl ?_
  refine V_goto (c := cU) i48_39.1 (mM_n i48_39.2) rfl ?_
  exact V_msk (l1 := [some (.ref 52), some (.int x1), some (.null)]) i48_46.2 rfl rfl
theorem k_Planner_begin_42_eq {x1 : Int32} {w2 : Nat} {xs0 : Int32} (h_w2 : isW w2) {S : Mem} : k_Planner_begin_42 x1 w2 xs0 S = k_Planner_begin_46 x1 (some w2) (S.1 w2 1) xs0 S := by
  show cU (mV oS X0 48 42 [some (.ref 52), some (.int x1), some (.ref w2)] [.int xs0, .ref 52] S) = _
  refine V_aload_n (c := cU) i48_42.1 (mM_s i48_42.2 rfl) rfl rfl ?_
  refine V_gf (c := cU) i48_43.1 (mM_n i48_43.2) (v := .int (S.1 w2 1)) g48_61 (gf_i (isW_o h_w2) rfl) ?_
  exact V_msk (l1 := [some (.ref 52), some (.int x1), some (.ref w2)]) i48_46.2 rfl rfl
theorem k_Planner_begin_46_eq {x1 : Int32} {o2 : Option Nat} {xs0 : Int32} {xs1 : Int32}  {S : Mem} : k_Planner_begin_46 x1 o2 xs0 xs1 S = oc o2 (k_Planner_begin_62 x1 ((8 : Int32) * (S.1 52 6)) (u1 S 52 5 (xs1 + xs0))) (fun w20 => k_Planner_begin_66 x1 w20 ((8 : Int32) * (S.1 52 6)) (u1 S 52 5 (xs1 + xs0))) := by
  show cU (mV oS X0 48 46 [some (.ref 52), some (.int x1), some (va_rf o2)] [.int xs0, .int xs1, .ref 52] S) = _
  refine V_iadd (c := cU) i48_46.1 (mM_s i48_46.2 rfl)  ?_
  refine V_pf (c := cU) i48_47.1 (mM_n i48_47.2) p48_22 (pf_i rfl rfl rfl) ?_
  refine V_aload_n (c := cU) i48_50.1 (mM_n i48_50.2) rfl rfl ?_
  refine V_bipush (c := cU) i48_51.1 (mM_n i48_51.2) (v := 8) rfl ?_
  refine V_aload_n (c := cU) i48_53.1 (mM_n i48_53.2) rfl rfl ?_
  refine V_gf (c := cU) i48_54.1 (mM_n i48_54.2) (v := .int (S.1 52 6)) g48_25 rfl ?_
  refine V_imul (c := cU) i48_57.1 (mM_n i48_57.2)  ?_
  refine V_aload_n (c := cU) i48_58.1 (mM_n i48_58.2) rfl (isA_rf _) ?_
  cases o2 with
  | none =>
    refine V_ifnonnullN (c := cU) i48_59.1 (mM_n i48_59.2) rfl ?_
    exact V_msk (l1 := [some (.ref 52), some (.int x1), none]) i48_62.2 rfl rfl
  | some w20 =>
    refine V_ifnonnullR (c := cU) i48_59.1 (mM_n i48_59.2) rfl ?_
    exact V_msk (l1 := [some (.ref 52), some (.int x1), some (.ref w20)]) i48_66.2 rfl rfl
theorem k_Planner_begin_62_eq {x1 : Int32} {xs0 : Int32}  {S : Mem} : k_Planner_begin_62 x1 xs0 S = k_Planner_begin_70 x1 0 xs0 S := by
  show cU (mV oS X0 48 62 [some (.ref 52), some (.int x1), none] [.int xs0, .ref 52] S) = _
  refine V_iconst (c := cU) i48_62.1 (mM_s i48_62.2 rfl) (v := 0) rfl ?_
  refine V_goto (c := cU) i48_63.1 (mM_n i48_63.2) rfl ?_
  exact V_msk (l1 := [some (.ref 52), some (.int x1), none]) i48_70.2 rfl rfl
theorem k_Planner_begin_66_eq {x1 : Int32} {w2 : Nat} {xs0 : Int32} (h_w2 : isW w2) {S : Mem} : k_Planner_begin_66 x1 w2 xs0 S = k_Planner_begin_70 x1 (S.1 w2 2) xs0 S := by
  show cU (mV oS X0 48 66 [some (.ref 52), some (.int x1), some (.ref w2)] [.int xs0, .ref 52] S) = _
  refine V_aload_n (c := cU) i48_66.1 (mM_s i48_66.2 rfl) rfl rfl ?_
  refine V_gf (c := cU) i48_67.1 (mM_n i48_67.2) (v := .int (S.1 w2 2)) g48_66 (gf_i (isW_o h_w2) rfl) ?_
  exact V_msk (l1 := [some (.ref 52), some (.int x1), none]) i48_70.2 rfl rfl
theorem k_Planner_begin_70_eq {x1 : Int32} {xs0 : Int32} {xs1 : Int32}  {S : Mem} : k_Planner_begin_70 x1 xs0 xs1 S = k_Planner_begin_12 (x1 + 1) (u1 S 52 6 (xs1 + xs0)) := by
  show cU (mV oS X0 48 70 [some (.ref 52), some (.int x1), none] [.int xs0, .int xs1, .ref 52] S) = _
  refine V_iadd (c := cU) i48_70.1 (mM_s i48_70.2 rfl)  ?_
  refine V_pf (c := cU) i48_71.1 (mM_n i48_71.2) p48_25 (pf_i rfl rfl rfl) ?_
  refine V_iinc (c := cU) i48_74.1 (mM_n i48_74.2) (l1 := [some (.ref 52), some (.int (x1 + 1)), none]) rfl rfl rfl ?_
  refine V_goto (c := cU) i48_77.1 (mM_n i48_77.2) rfl ?_
  exact V_msk (l1 := [some (.ref 52), some (.int (x1 + 1)), none]) i48_12.2 rfl rfl
theorem f_Planner_fewest_eq {x1 : Int32} {x2 : Int32}  {S : Mem} : f_Planner_fewest x1 x2 S = bU (f_JArr_fill 53 (-1) (u1 S 52 10 x1)) (fun S3 => if inb (S3.1 52 6) 512 = true then k_Planner_fewest_40 x2 0 (u1 (u1 (u1 S3 53 ((S3.1 52 6).toNatClampNeg) 0) 54 0 (S3.1 52 6)) 52 4 1) else none) := by
  show cI (mV oS X0 49 0 [some (.ref 52), some (.int x1), some (.int x2), none] [] S) = _
  refine V_aload_n (c := cI) i49_0.1 (mM_n i49_0.2) rfl rfl ?_
  refine V_iload_n (c := cI) i49_1.1 (mM_n i49_1.2) rfl ?_
  refine V_pf (c := cI) i49_2.1 (mM_n i49_2.2) p49_38 (pf_i rfl rfl rfl) ?_
  refine V_aload_n (c := cI) i49_5.1 (mM_n i49_5.2) rfl rfl ?_
  refine V_gf (c := cI) i49_6.1 (mM_n i49_6.2) (v := .ref 53) g49_11 rfl ?_
  refine V_iconst (c := cI) i49_9.1 (mM_n i49_9.2) (v := (-1)) rfl ?_
  refine V_ciU (c := cI) (As := [.ref 53, .int (-1)]) (rest := []) i49_10.1 (mM_n i49_10.2) c49_73 rfl rfl rfl (Nat.le_of_ble_eq_true rfl) rfl (fun S3 => ?_)
  refine V_aload_n (c := cI) i49_13.1 (mM_n i49_13.2) rfl rfl ?_
  refine V_gf (c := cI) i49_14.1 (mM_n i49_14.2) (v := .ref 53) g49_11 rfl ?_
  refine V_aload_n (c := cI) i49_17.1 (mM_n i49_17.2) rfl rfl ?_
  refine V_gf (c := cI) i49_18.1 (mM_n i49_18.2) (v := .int (S3.1 52 6)) g49_25 rfl ?_
  refine V_iconst (c := cI) i49_21.1 (mM_n i49_21.2) (v := 0) rfl ?_
  refine V_iastore (c := cI) (x1 := 0) i49_22.1 (mM_n i49_22.2) rfl rfl rfl rfl (fun _ => ?_)
  refine V_aload_n (c := cI) i49_23.1 (mM_n i49_23.2) rfl rfl ?_
  refine V_gf (c := cI) i49_24.1 (mM_n i49_24.2) (v := .ref 54) g49_15 rfl ?_
  refine V_iconst (c := cI) i49_27.1 (mM_n i49_27.2) (v := 0) rfl ?_
  refine V_aload_n (c := cI) i49_28.1 (mM_n i49_28.2) rfl rfl ?_
  refine V_gf (c := cI) i49_29.1 (mM_n i49_29.2) (v := .int (S3.1 52 6)) g49_25 rfl ?_
  refine V_iastoreL (c := cI) i49_32.1 (mM_n i49_32.2) (x1 := (S3.1 52 6)) rfl rfl rfl rfl (by decide) rfl ?_
  refine V_aload_n (c := cI) i49_33.1 (mM_n i49_33.2) rfl rfl ?_
  refine V_iconst (c := cI) i49_34.1 (mM_n i49_34.2) (v := 1) rfl ?_
  refine V_pf (c := cI) i49_35.1 (mM_n i49_35.2) p49_18 (pf_i rfl rfl rfl) ?_
  refine V_iconst (c := cI) i49_38.1 (mM_n i49_38.2) (v := 0) rfl ?_
  refine V_istore_n (c := cI) i49_39.1 (mM_n i49_39.2) (l1 := [some (.ref 52), some (.int x1), some (.int x2), some (.int 0)])  (Nat.le_of_ble_eq_true rfl) rfl ?_
  exact V_msk (l1 := [some (.ref 52), none, some (.int x2), some (.int 0)]) i49_40.2 rfl rfl
theorem k_Planner_fewest_40_eq {x2 : Int32} {x3 : Int32}  {S : Mem} : k_Planner_fewest_40 x2 x3 S = if 512 ≤ x3 then k_Planner_fewest_99 S else if (S.1 52 4) ≤ x3 then k_Planner_fewest_99 S else if inb (S.1 52 5) 512 = true then if (S.1 53 ((S.1 52 5).toNatClampNeg)) = (-1) then if inb x3 512 = true then if inb (S.1 54 (x3.toNatClampNeg)) 512 = true then if x2 ≤ (S.1 53 ((S.1 54 (x3.toNatClampNeg)).toNatClampNeg)) then k_Planner_fewest_99 S else if inb x3 512 = true then bU (f_Planner_spread (S.1 54 (x3.toNatClampNeg)) S) (fun S4 => k_Planner_fewest_40 x2 (x3 + 1) S4) else none else none else none else k_Planner_fewest_99 S else none := by
  show cI (mV oS X0 49 40 [some (.ref 52), none, some (.int x2), some (.int x3)] [] S) = _
  refine V_iload_n (c := cI) i49_40.1 (mM_s i49_40.2 rfl) rfl ?_
  refine V_sipush (c := cI) i49_41.1 (mM_n i49_41.2) (v := 512) rfl ?_
  refine V_icmp_ge (c := cI) i49_44.1 (mM_n i49_44.2) rfl (fun _ => ?_) (fun _ => ?_)
  · exact V_msk (l1 := [some (.ref 52), none, none, none]) i49_99.2 rfl rfl
  · refine V_iload_n (c := cI) i49_47.1 (mM_n i49_47.2) rfl ?_
    refine V_aload_n (c := cI) i49_48.1 (mM_n i49_48.2) rfl rfl ?_
    refine V_gf (c := cI) i49_49.1 (mM_n i49_49.2) (v := .int (S.1 52 4)) g49_18 rfl ?_
    refine V_icmp_ge (c := cI) i49_52.1 (mM_n i49_52.2) rfl (fun _ => ?_) (fun _ => ?_)
    · exact V_msk (l1 := [some (.ref 52), none, none, none]) i49_99.2 rfl rfl
    · refine V_aload_n (c := cI) i49_55.1 (mM_n i49_55.2) rfl rfl ?_
      refine V_gf (c := cI) i49_56.1 (mM_n i49_56.2) (v := .ref 53) g49_11 rfl ?_
      refine V_aload_n (c := cI) i49_59.1 (mM_n i49_59.2) rfl rfl ?_
      refine V_gf (c := cI) i49_60.1 (mM_n i49_60.2) (v := .int (S.1 52 5)) g49_22 rfl ?_
      refine V_iaload (c := cI) i49_63.1 (mM_n i49_63.2) rfl rfl (fun _ => ?_)
      refine V_iconst (c := cI) i49_64.1 (mM_n i49_64.2) (v := (-1)) rfl ?_
      refine V_icmp_ne (c := cI) i49_65.1 (mM_n i49_65.2) rfl (fun _ => ?_) (fun _ => ?_)
      · refine V_aload_n (c := cI) i49_68.1 (mM_n i49_68.2) rfl rfl ?_
        refine V_gf (c := cI) i49_69.1 (mM_n i49_69.2) (v := .ref 53) g49_11 rfl ?_
        refine V_aload_n (c := cI) i49_72.1 (mM_n i49_72.2) rfl rfl ?_
        refine V_gf (c := cI) i49_73.1 (mM_n i49_73.2) (v := .ref 54) g49_15 rfl ?_
        refine V_iload_n (c := cI) i49_76.1 (mM_n i49_76.2) rfl ?_
        refine V_iaload (c := cI) i49_77.1 (mM_n i49_77.2) rfl rfl (fun _ => ?_)
        refine V_iaload (c := cI) i49_78.1 (mM_n i49_78.2) rfl rfl (fun _ => ?_)
        refine V_iload_n (c := cI) i49_79.1 (mM_n i49_79.2) rfl ?_
        refine V_icmp_ge (c := cI) i49_80.1 (mM_n i49_80.2) rfl (fun _ => ?_) (fun _ => ?_)
        · exact V_msk (l1 := [some (.ref 52), none, none, none]) i49_99.2 rfl rfl
        · refine V_aload_n (c := cI) i49_83.1 (mM_n i49_83.2) rfl rfl ?_
          refine V_aload_n (c := cI) i49_84.1 (mM_n i49_84.2) rfl rfl ?_
          refine V_gf (c := cI) i49_85.1 (mM_n i49_85.2) (v := .ref 54) g49_15 rfl ?_
          refine V_iload_n (c := cI) i49_88.1 (mM_n i49_88.2) rfl ?_
          refine V_iaload (c := cI) i49_89.1 (mM_n i49_89.2) rfl rfl (fun _ => ?_)
          refine V_cvU (c := cI) (As := [.int (S.1 54 (x3.toNatClampNeg))]) (rest := []) i49_90.1 (mM_n i49_90.2) c49_79 rfl rfl rfl rfl (Nat.le_of_ble_eq_true rfl) rfl (fun S4 => ?_)
          refine V_iinc (c := cI) i49_93.1 (mM_n i49_93.2) (l1 := [some (.ref 52), none, some (.int x2), some (.int (x3 + 1))]) rfl rfl rfl ?_
          refine V_goto (c := cI) i49_96.1 (mM_n i49_96.2) rfl ?_
          exact V_msk (l1 := [some (.ref 52), none, some (.int x2), some (.int (x3 + 1))]) i49_40.2 rfl rfl
      · exact V_msk (l1 := [some (.ref 52), none, none, none]) i49_99.2 rfl rfl
theorem k_Planner_fewest_99_eq   {S : Mem} : k_Planner_fewest_99  S = if inb (S.1 52 5) 512 = true then some ((S.1 53 ((S.1 52 5).toNatClampNeg)), S) else none := by
  show cI (mV oS X0 49 99 [some (.ref 52), none, none, none] [] S) = _
  refine V_aload_n (c := cI) i49_99.1 (mM_s i49_99.2 rfl) rfl rfl ?_
  refine V_gf (c := cI) i49_100.1 (mM_n i49_100.2) (v := .ref 53) g49_11 rfl ?_
  refine V_aload_n (c := cI) i49_103.1 (mM_n i49_103.2) rfl rfl ?_
  refine V_gf (c := cI) i49_104.1 (mM_n i49_104.2) (v := .int (S.1 52 5)) g49_22 rfl ?_
  refine V_iaload (c := cI) i49_107.1 (mM_n i49_107.2) rfl rfl (fun _ => ?_)
  exact V_iret i49_108.1 (mM_n i49_108.2) rfl
theorem f_Planner_spread_eq {x1 : Int32}  {S : Mem} : f_Planner_spread x1 S = bI (f_Planner_cornerIn x1 0 S) (fun r27 S26 => bI (f_Planner_cornerIn x1 1 S26) (fun r29 S28 => bI (f_Planner_cornerIn x1 2 S28) (fun r31 S30 => bI (f_Planner_stepsOf 2 r31 S30) (fun r33 S32 => bI (f_Planner_stepsOf 0 r27 S32) (fun r35 S34 => k_Planner_spread_38 x1 r27 r29 r31 r33 (r35 - 1) S34))))) := by
  show cU (mV oS X0 50 0 [some (.ref 52), some (.int x1), none, none, none, none, none, none, none, none, none, none, none] [] S) = _
  refine V_iload_n (c := cU) i50_0.1 (mM_n i50_0.2) rfl ?_
  refine V_iconst (c := cU) i50_1.1 (mM_n i50_1.2) (v := 0) rfl ?_
  refine V_ciI (c := cU) (As := [.int x1, .int 0]) (rest := []) i50_2.1 (mM_n i50_2.2) c50_83 rfl rfl rfl (Nat.le_of_ble_eq_true rfl) rfl (fun r27 S26 => ?_)
  refine V_istore_n (c := cU) i50_5.1 (mM_n i50_5.2) (l1 := [some (.ref 52), some (.int x1), some (.int r27), none, none, none, none, none, none, none, none, none, none])  (Nat.le_of_ble_eq_true rfl) rfl ?_
  refine V_iload_n (c := cU) i50_6.1 (mM_n i50_6.2) rfl ?_
  refine V_iconst (c := cU) i50_7.1 (mM_n i50_7.2) (v := 1) rfl ?_
  refine V_ciI (c := cU) (As := [.int x1, .int 1]) (rest := []) i50_8.1 (mM_n i50_8.2) c50_83 rfl rfl rfl (Nat.le_of_ble_eq_true rfl) rfl (fun r29 S28 => ?_)
  refine V_istore_n (c := cU) i50_11.1 (mM_n i50_11.2) (l1 := [some (.ref 52), some (.int x1), some (.int r27), some (.int r29), none, none, none, none, none, none, none, none, none])  (Nat.le_of_ble_eq_true rfl) rfl ?_
  refine V_iload_n (c := cU) i50_12.1 (mM_n i50_12.2) rfl ?_
  refine V_iconst (c := cU) i50_13.1 (mM_n i50_13.2) (v := 2) rfl ?_
  refine V_ciI (c := cU) (As := [.int x1, .int 2]) (rest := []) i50_14.1 (mM_n i50_14.2) c50_83 rfl rfl rfl (Nat.le_of_ble_eq_true rfl) rfl (fun r31 S30 => ?_)
  refine V_istore (c := cU) i50_17.1 (mM_n i50_17.2) (l1 := [some (.ref 52), some (.int x1), some (.int r27), some (.int r29), some (.int r31), none, none, none, none, none, none, none, none])  (Nat.le_of_ble_eq_true rfl) rfl ?_
  refine V_aload_n (c := cU) i50_19.1 (mM_n i50_19.2) rfl rfl ?_
  refine V_iconst (c := cU) i50_20.1 (mM_n i50_20.2) (v := 2) rfl ?_
  refine V_iload (c := cU) i50_21.1 (mM_n i50_21.2) rfl ?_
  refine V_cvI (c := cU) (As := [.int 2, .int r31]) (rest := []) i50_23.1 (mM_n i50_23.2) c50_87 rfl rfl rfl rfl (Nat.le_of_ble_eq_true rfl) rfl (fun r33 S32 => ?_)
  refine V_istore (c := cU) i50_26.1 (mM_n i50_26.2) (l1 := [some (.ref 52), some (.int x1), some (.int r27), some (.int r29), some (.int r31), some (.int r33), none, none, none, none, none, none, none])  (Nat.le_of_ble_eq_true rfl) rfl ?_
  refine V_aload_n (c := cU) i50_28.1 (mM_n i50_28.2) rfl rfl ?_
  refine V_iconst (c := cU) i50_29.1 (mM_n i50_29.2) (v := 0) rfl ?_
  refine V_iload_n (c := cU) i50_30.1 (mM_n i50_30.2) rfl ?_
  refine V_cvI (c := cU) (As := [.int 0, .int r27]) (rest := []) i50_31.1 (mM_n i50_31.2) c50_87 rfl rfl rfl rfl (Nat.le_of_ble_eq_true rfl) rfl (fun r35 S34 => ?_)
  refine V_iconst (c := cU) i50_34.1 (mM_n i50_34.2) (v := 1) rfl ?_
  refine V_isub (c := cU) i50_35.1 (mM_n i50_35.2)  ?_
  refine V_istore (c := cU) i50_36.1 (mM_n i50_36.2) (l1 := [some (.ref 52), some (.int x1), some (.int r27), some (.int r29), some (.int r31), some (.int r33), some (.int (r35 - 1)), none, none, none, none, none, none])  (Nat.le_of_ble_eq_true rfl) rfl ?_
  exact V_msk (l1 := [some (.ref 52), some (.int x1), some (.int r27), some (.int r29), some (.int r31), some (.int r33), some (.int (r35 - 1)), none, none, none, none, none, none]) i50_38.2 rfl rfl
theorem k_Planner_spread_38_eq {x1 : Int32} {x2 : Int32} {x3 : Int32} {x4 : Int32} {x5 : Int32} {x6 : Int32}  {S : Mem} : k_Planner_spread_38 x1 x2 x3 x4 x5 x6 S = if x6 < 0 then some S else bI (f_Net_step x2 x6 S) (fun r37 S36 => bI (f_Planner_stepsOf 1 x3 S36) (fun r39 S38 => k_Planner_spread_65 x1 x2 x3 x4 x5 x6 r37 (r39 - 1) S38)) := by
  show cU (mV oS X0 50 38 [some (.ref 52), some (.int x1), some (.int x2), some (.int x3), some (.int x4), some (.int x5), some (.int x6), none, none, none, none, none, none] [] S) = _
  refine V_iload (c := cU) i50_38.1 (mM_s i50_38.2 rfl) rfl ?_
  refine V_if_lt (c := cU) i50_40.1 (mM_n i50_40.2) rfl (fun _ => ?_) (fun _ => ?_)
  · exact V_vret i50_229.1 (mM_n i50_229.2) rfl
  · refine V_aload_n (c := cU) i50_43.1 (mM_n i50_43.2) rfl rfl ?_
    refine V_gf (c := cU) i50_44.1 (mM_n i50_44.2) (v := .ref 7) g50_47 rfl ?_
    refine V_iload_n (c := cU) i50_47.1 (mM_n i50_47.2) rfl ?_
    refine V_iload (c := cU) i50_48.1 (mM_n i50_48.2) rfl ?_
    refine V_cvI (c := cU) (As := [.int x2, .int x6]) (rest := []) i50_50.1 (mM_n i50_50.2) c50_90 rfl rfl rfl rfl (Nat.le_of_ble_eq_true rfl) rfl (fun r37 S36 => ?_)
    refine V_istore (c := cU) i50_53.1 (mM_n i50_53.2) (l1 := [some (.ref 52), some (.int x1), some (.int x2), some (.int x3), some (.int x4), some (.int x5), some (.int x6), some (.int r37), none, none, none, none, none])  (Nat.le_of_ble_eq_true rfl) rfl ?_
    refine V_aload_n (c := cU) i50_55.1 (mM_n i50_55.2) rfl rfl ?_
    refine V_iconst (c := cU) i50_56.1 (mM_n i50_56.2) (v := 1) rfl ?_
    refine V_iload_n (c := cU) i50_57.1 (mM_n i50_57.2) rfl ?_
    refine V_cvI (c := cU) (As := [.int 1, .int x3]) (rest := []) i50_58.1 (mM_n i50_58.2) c50_87 rfl rfl rfl rfl (Nat.le_of_ble_eq_true rfl) rfl (fun r39 S38 => ?_)
    refine V_iconst (c := cU) i50_61.1 (mM_n i50_61.2) (v := 1) rfl ?_
    refine V_isub (c := cU) i50_62.1 (mM_n i50_62.2)  ?_
    refine V_istore (c := cU) i50_63.1 (mM_n i50_63.2) (l1 := [some (.ref 52), some (.int x1), some (.int x2), some (.int x3), some (.int x4), some (.int x5), some (.int x6), some (.int r37), some (.int (r39 - 1)), none, none, none, none])  (Nat.le_of_ble_eq_true rfl) rfl ?_
    exact V_msk (l1 := [some (.ref 52), some (.int x1), some (.int x2), some (.int x3), some (.int x4), some (.int x5), some (.int x6), some (.int r37), some (.int (r39 - 1)), none, none, none, none]) i50_65.2 rfl rfl
theorem k_Planner_spread_65_eq {x1 : Int32} {x2 : Int32} {x3 : Int32} {x4 : Int32} {x5 : Int32} {x6 : Int32} {x7 : Int32} {x8 : Int32}  {S : Mem} : k_Planner_spread_65 x1 x2 x3 x4 x5 x6 x7 x8 S = if x8 < 0 then k_Planner_spread_38 x1 x2 x3 x4 x5 (x6 + (-1)) S else bI (f_Net_step x3 x8 S) (fun r41 S40 => if (S40.1 52 7) = 0 then bI (f_Planner_clash x2 x7 x3 r41 S40) (fun r43 S42 => if r43 = 0 then k_Planner_spread_105 x1 x2 x3 x4 x5 x6 x7 x8 r41 S42 else k_Planner_spread_217 x1 x2 x3 x4 x5 x6 x7 x8 S42) else k_Planner_spread_105 x1 x2 x3 x4 x5 x6 x7 x8 r41 S40) := by
  show cU (mV oS X0 50 65 [some (.ref 52), some (.int x1), some (.int x2), some (.int x3), some (.int x4), some (.int x5), some (.int x6), some (.int x7), some (.int x8), none, none, none, none] [] S) = _
  refine V_iload (c := cU) i50_65.1 (mM_s i50_65.2 rfl) rfl ?_
  refine V_if_lt (c := cU) i50_67.1 (mM_n i50_67.2) rfl (fun _ => ?_) (fun _ => ?_)
  · refine V_iinc (c := cU) i50_223.1 (mM_n i50_223.2) (l1 := [some (.ref 52), some (.int x1), some (.int x2), some (.int x3), some (.int x4), some (.int x5), some (.int (x6 + (-1))), some (.int x7), some (.int x8), none, none, none, none]) rfl rfl rfl ?_
    refine V_goto (c := cU) i50_226.1 (mM_n i50_226.2) rfl ?_
    exact V_msk (l1 := [some (.ref 52), some (.int x1), some (.int x2), some (.int x3), some (.int x4), some (.int x5), some (.int (x6 + (-1))), none, none, none, none, none, none]) i50_38.2 rfl rfl
  · refine V_aload_n (c := cU) i50_70.1 (mM_n i50_70.2) rfl rfl ?_
    refine V_gf (c := cU) i50_71.1 (mM_n i50_71.2) (v := .ref 7) g50_47 rfl ?_
    refine V_iload_n (c := cU) i50_74.1 (mM_n i50_74.2) rfl ?_
    refine V_iload (c := cU) i50_75.1 (mM_n i50_75.2) rfl ?_
    refine V_cvI (c := cU) (As := [.int x3, .int x8]) (rest := []) i50_77.1 (mM_n i50_77.2) c50_90 rfl rfl rfl rfl (Nat.le_of_ble_eq_true rfl) rfl (fun r41 S40 => ?_)
    refine V_istore (c := cU) i50_80.1 (mM_n i50_80.2) (l1 := [some (.ref 52), some (.int x1), some (.int x2), some (.int x3), some (.int x4), some (.int x5), some (.int x6), some (.int x7), some (.int x8), some (.int r41), none, none, none])  (Nat.le_of_ble_eq_true rfl) rfl ?_
    refine V_aload_n (c := cU) i50_82.1 (mM_n i50_82.2) rfl rfl ?_
    refine V_gf (c := cU) i50_83.1 (mM_n i50_83.2) (v := .int (S40.1 52 7)) g50_28 rfl ?_
    refine V_if_ne (c := cU) i50_86.1 (mM_n i50_86.2) rfl (fun _ => ?_) (fun _ => ?_)
    · refine V_aload_n (c := cU) i50_89.1 (mM_n i50_89.2) rfl rfl ?_
      refine V_iload_n (c := cU) i50_90.1 (mM_n i50_90.2) rfl ?_
      refine V_iload (c := cU) i50_91.1 (mM_n i50_91.2) rfl ?_
      refine V_iload_n (c := cU) i50_93.1 (mM_n i50_93.2) rfl ?_
      refine V_iload (c := cU) i50_94.1 (mM_n i50_94.2) rfl ?_
      refine V_cvI (c := cU) (As := [.int x2, .int x7, .int x3, .int r41]) (rest := []) i50_96.1 (mM_n i50_96.2) c50_95 rfl rfl rfl rfl (Nat.le_of_ble_eq_true rfl) rfl (fun r43 S42 => ?_)
      refine V_if_eq (c := cU) i50_99.1 (mM_n i50_99.2) rfl (fun _ => ?_) (fun _ => ?_)
      · exact V_msk (l1 := [some (.ref 52), some (.int x1), some (.int x2), some (.int x3), some (.int x4), some (.int x5), some (.int x6), some (.int x7), some (.int x8), some (.int r41), none, none, none]) i50_105.2 rfl rfl
      · refine V_goto (c := cU) i50_102.1 (mM_n i50_102.2) rfl ?_
        exact V_msk (l1 := [some (.ref 52), some (.int x1), some (.int x2), some (.int x3), some (.int x4), some (.int x5), some (.int x6), some (.int x7), some (.int x8), none, none, none, none]) i50_217.2 rfl rfl
    · exact V_msk (l1 := [some (.ref 52), some (.int x1), some (.int x2), some (.int x3), some (.int x4), some (.int x5), some (.int x6), some (.int x7), some (.int x8), some (.int r41), none, none, none]) i50_105.2 rfl rfl
theorem k_Planner_spread_105_eq {x1 : Int32} {x2 : Int32} {x3 : Int32} {x4 : Int32} {x5 : Int32} {x6 : Int32} {x7 : Int32} {x8 : Int32} {x9 : Int32}  {S : Mem} : k_Planner_spread_105 x1 x2 x3 x4 x5 x6 x7 x8 x9 S = k_Planner_spread_108 x1 x2 x3 x4 x5 x6 x7 x8 x9 0 S := by
  show cU (mV oS X0 50 105 [some (.ref 52), some (.int x1), some (.int x2), some (.int x3), some (.int x4), some (.int x5), some (.int x6), some (.int x7), some (.int x8), some (.int x9), none, none, none] [] S) = _
  refine V_iconst (c := cU) i50_105.1 (mM_s i50_105.2 rfl) (v := 0) rfl ?_
  refine V_istore (c := cU) i50_106.1 (mM_n i50_106.2) (l1 := [some (.ref 52), some (.int x1), some (.int x2), some (.int x3), some (.int x4), some (.int x5), some (.int x6), some (.int x7), some (.int x8), some (.int x9), some (.int 0), none, none])  (Nat.le_of_ble_eq_true rfl) rfl ?_
  exact V_msk (l1 := [some (.ref 52), some (.int x1), some (.int x2), some (.int x3), some (.int x4), some (.int x5), some (.int x6), some (.int x7), some (.int x8), some (.int x9), some (.int 0), none, none]) i50_108.2 rfl rfl
theorem k_Planner_spread_108_eq {x1 : Int32} {x2 : Int32} {x3 : Int32} {x4 : Int32} {x5 : Int32} {x6 : Int32} {x7 : Int32} {x8 : Int32} {x9 : Int32} {x10 : Int32}  {S : Mem} : k_Planner_spread_108 x1 x2 x3 x4 x5 x6 x7 x8 x9 x10 S = if x5 ≤ x10 then k_Planner_spread_217 x1 x2 x3 x4 x5 x6 x7 x8 S else bI (f_Net_step x4 x10 S) (fun r45 S44 => if inb ((((x7 * 8) + x9) * 8) + r45) 512 = true then if (S44.1 53 (((((x7 * 8) + x9) * 8) + r45).toNatClampNeg)) = (-1) then if (S44.1 52 8) = 0 then bI (f_Planner_clash x2 x7 x4 r45 S44) (fun r47 S46 => if r47 = 0 then k_Planner_spread_176 x1 x2 x3 x4 x5 x6 x7 x8 x9 x10 r45 ((((x7 * 8) + x9) * 8) + r45) S46 else k_Planner_spread_211 x1 x2 x3 x4 x5 x6 x7 x8 x9 x10 S46) else k_Planner_spread_176 x1 x2 x3 x4 x5 x6 x7 x8 x9 x10 r45 ((((x7 * 8) + x9) * 8) + r45) S44 else k_Planner_spread_211 x1 x2 x3 x4 x5 x6 x7 x8 x9 x10 S44 else none) := by
  show cU (mV oS X0 50 108 [some (.ref 52), some (.int x1), some (.int x2), some (.int x3), some (.int x4), some (.int x5), some (.int x6), some (.int x7), some (.int x8), some (.int x9), some (.int x10), none, none] [] S) = _
  refine V_iload (c := cU) i50_108.1 (mM_s i50_108.2 rfl) rfl ?_
  refine V_iload (c := cU) i50_110.1 (mM_n i50_110.2) rfl ?_
  refine V_icmp_ge (c := cU) i50_112.1 (mM_n i50_112.2) rfl (fun _ => ?_) (fun _ => ?_)
  · exact V_msk (l1 := [some (.ref 52), some (.int x1), some (.int x2), some (.int x3), some (.int x4), some (.int x5), some (.int x6), some (.int x7), some (.int x8), none, none, none, none]) i50_217.2 rfl rfl
  · refine V_aload_n (c := cU) i50_115.1 (mM_n i50_115.2) rfl rfl ?_
    refine V_gf (c := cU) i50_116.1 (mM_n i50_116.2) (v := .ref 7) g50_47 rfl ?_
    refine V_iload (c := cU) i50_119.1 (mM_n i50_119.2) rfl ?_
    refine V_iload (c := cU) i50_121.1 (mM_n i50_121.2) rfl ?_
    refine V_cvI (c := cU) (As := [.int x4, .int x10]) (rest := []) i50_123.1 (mM_n i50_123.2) c50_90 rfl rfl rfl rfl (Nat.le_of_ble_eq_true rfl) rfl (fun r45 S44 => ?_)
    refine V_istore (c := cU) i50_126.1 (mM_n i50_126.2) (l1 := [some (.ref 52), some (.int x1), some (.int x2), some (.int x3), some (.int x4), some (.int x5), some (.int x6), some (.int x7), some (.int x8), some (.int x9), some (.int x10), some (.int r45), none])  (Nat.le_of_ble_eq_true rfl) rfl ?_
    refine V_iload (c := cU) i50_128.1 (mM_n i50_128.2) rfl ?_
    refine V_bipush (c := cU) i50_130.1 (mM_n i50_130.2) (v := 8) rfl ?_
    refine V_imul (c := cU) i50_132.1 (mM_n i50_132.2)  ?_
    refine V_iload (c := cU) i50_133.1 (mM_n i50_133.2) rfl ?_
    refine V_iadd (c := cU) i50_135.1 (mM_n i50_135.2)  ?_
    refine V_bipush (c := cU) i50_136.1 (mM_n i50_136.2) (v := 8) rfl ?_
    refine V_imul (c := cU) i50_138.1 (mM_n i50_138.2)  ?_
    refine V_iload (c := cU) i50_139.1 (mM_n i50_139.2) rfl ?_
    refine V_iadd (c := cU) i50_141.1 (mM_n i50_141.2)  ?_
    refine V_istore (c := cU) i50_142.1 (mM_n i50_142.2) (l1 := [some (.ref 52), some (.int x1), some (.int x2), some (.int x3), some (.int x4), some (.int x5), some (.int x6), some (.int x7), some (.int x8), some (.int x9), some (.int x10), some (.int r45), some (.int ((((x7 * 8) + x9) * 8) + r45))])  (Nat.le_of_ble_eq_true rfl) rfl ?_
    refine V_aload_n (c := cU) i50_144.1 (mM_n i50_144.2) rfl rfl ?_
    refine V_gf (c := cU) i50_145.1 (mM_n i50_145.2) (v := .ref 53) g50_11 rfl ?_
    refine V_iload (c := cU) i50_148.1 (mM_n i50_148.2) rfl ?_
    refine V_iaload (c := cU) i50_150.1 (mM_n i50_150.2) rfl rfl (fun _ => ?_)
    refine V_iconst (c := cU) i50_151.1 (mM_n i50_151.2) (v := (-1)) rfl ?_
    refine V_icmp_ne (c := cU) i50_152.1 (mM_n i50_152.2) rfl (fun _ => ?_) (fun _ => ?_)
    · refine V_aload_n (c := cU) i50_155.1 (mM_n i50_155.2) rfl rfl ?_
      refine V_gf (c := cU) i50_156.1 (mM_n i50_156.2) (v := .int (S44.1 52 8)) g50_32 rfl ?_
      refine V_if_ne (c := cU) i50_159.1 (mM_n i50_159.2) rfl (fun _ => ?_) (fun _ => ?_)
      · refine V_aload_n (c := cU) i50_162.1 (mM_n i50_162.2) rfl rfl ?_
        refine V_iload_n (c := cU) i50_163.1 (mM_n i50_163.2) rfl ?_
        refine V_iload (c := cU) i50_164.1 (mM_n i50_164.2) rfl ?_
        refine V_iload (c := cU) i50_166.1 (mM_n i50_166.2) rfl ?_
        refine V_iload (c := cU) i50_168.1 (mM_n i50_168.2) rfl ?_
        refine V_cvI (c := cU) (As := [.int x2, .int x7, .int x4, .int r45]) (rest := []) i50_170.1 (mM_n i50_170.2) c50_95 rfl rfl rfl rfl (Nat.le_of_ble_eq_true rfl) rfl (fun r47 S46 => ?_)
        refine V_if_ne (c := cU) i50_173.1 (mM_n i50_173.2) rfl (fun _ => ?_) (fun _ => ?_)
        · exact V_msk (l1 := [some (.ref 52), some (.int x1), some (.int x2), some (.int x3), some (.int x4), some (.int x5), some (.int x6), some (.int x7), some (.int x8), some (.int x9), some (.int x10), some (.int r45), some (.int ((((x7 * 8) + x9) * 8) + r45))]) i50_176.2 rfl rfl
        · exact V_msk (l1 := [some (.ref 52), some (.int x1), some (.int x2), some (.int x3), some (.int x4), some (.int x5), some (.int x6), some (.int x7), some (.int x8), some (.int x9), some (.int x10), none, none]) i50_211.2 rfl rfl
      · exact V_msk (l1 := [some (.ref 52), some (.int x1), some (.int x2), some (.int x3), some (.int x4), some (.int x5), some (.int x6), some (.int x7), some (.int x8), some (.int x9), some (.int x10), some (.int r45), some (.int ((((x7 * 8) + x9) * 8) + r45))]) i50_176.2 rfl rfl
    · exact V_msk (l1 := [some (.ref 52), some (.int x1), some (.int x2), some (.int x3), some (.int x4), some (.int x5), some (.int x6), some (.int x7), some (.int x8), some (.int x9), some (.int x10), none, none]) i50_211.2 rfl rfl
theorem k_Planner_spread_176_eq {x1 : Int32} {x2 : Int32} {x3 : Int32} {x4 : Int32} {x5 : Int32} {x6 : Int32} {x7 : Int32} {x8 : Int32} {x9 : Int32} {x10 : Int32} {x11 : Int32} {x12 : Int32}  {S : Mem} : k_Planner_spread_176 x1 x2 x3 x4 x5 x6 x7 x8 x9 x10 x11 x12 S = if (S.1 52 9) = 0 then bI (f_Planner_clash x3 x9 x4 x11 S) (fun r49 S48 => if r49 = 0 then k_Planner_spread_197 x1 x2 x3 x4 x5 x6 x7 x8 x9 x10 x12 S48 else k_Planner_spread_211 x1 x2 x3 x4 x5 x6 x7 x8 x9 x10 S48) else k_Planner_spread_197 x1 x2 x3 x4 x5 x6 x7 x8 x9 x10 x12 S := by
  show cU (mV oS X0 50 176 [some (.ref 52), some (.int x1), some (.int x2), some (.int x3), some (.int x4), some (.int x5), some (.int x6), some (.int x7), some (.int x8), some (.int x9), some (.int x10), some (.int x11), some (.int x12)] [] S) = _
  refine V_aload_n (c := cU) i50_176.1 (mM_s i50_176.2 rfl) rfl rfl ?_
  refine V_gf (c := cU) i50_177.1 (mM_n i50_177.2) (v := .int (S.1 52 9)) g50_35 rfl ?_
  refine V_if_ne (c := cU) i50_180.1 (mM_n i50_180.2) rfl (fun _ => ?_) (fun _ => ?_)
  · refine V_aload_n (c := cU) i50_183.1 (mM_n i50_183.2) rfl rfl ?_
    refine V_iload_n (c := cU) i50_184.1 (mM_n i50_184.2) rfl ?_
    refine V_iload (c := cU) i50_185.1 (mM_n i50_185.2) rfl ?_
    refine V_iload (c := cU) i50_187.1 (mM_n i50_187.2) rfl ?_
    refine V_iload (c := cU) i50_189.1 (mM_n i50_189.2) rfl ?_
    refine V_cvI (c := cU) (As := [.int x3, .int x9, .int x4, .int x11]) (rest := []) i50_191.1 (mM_n i50_191.2) c50_95 rfl rfl rfl rfl (Nat.le_of_ble_eq_true rfl) rfl (fun r49 S48 => ?_)
    refine V_if_ne (c := cU) i50_194.1 (mM_n i50_194.2) rfl (fun _ => ?_) (fun _ => ?_)
    · exact V_msk (l1 := [some (.ref 52), some (.int x1), some (.int x2), some (.int x3), some (.int x4), some (.int x5), some (.int x6), some (.int x7), some (.int x8), some (.int x9), some (.int x10), none, some (.int x12)]) i50_197.2 rfl rfl
    · exact V_msk (l1 := [some (.ref 52), some (.int x1), some (.int x2), some (.int x3), some (.int x4), some (.int x5), some (.int x6), some (.int x7), some (.int x8), some (.int x9), some (.int x10), none, none]) i50_211.2 rfl rfl
  · exact V_msk (l1 := [some (.ref 52), some (.int x1), some (.int x2), some (.int x3), some (.int x4), some (.int x5), some (.int x6), some (.int x7), some (.int x8), some (.int x9), some (.int x10), none, some (.int x12)]) i50_197.2 rfl rfl
theorem k_Planner_spread_197_eq {x1 : Int32} {x2 : Int32} {x3 : Int32} {x4 : Int32} {x5 : Int32} {x6 : Int32} {x7 : Int32} {x8 : Int32} {x9 : Int32} {x10 : Int32} {x12 : Int32}  {S : Mem} : k_Planner_spread_197 x1 x2 x3 x4 x5 x6 x7 x8 x9 x10 x12 S = if inb x1 512 = true then bU (f_Planner_reach x12 ((S.1 53 (x1.toNatClampNeg)) + 1) S) (fun S50 => k_Planner_spread_211 x1 x2 x3 x4 x5 x6 x7 x8 x9 x10 S50) else none := by
  show cU (mV oS X0 50 197 [some (.ref 52), some (.int x1), some (.int x2), some (.int x3), some (.int x4), some (.int x5), some (.int x6), some (.int x7), some (.int x8), some (.int x9), some (.int x10), none, some (.int x12)] [] S) = _
  refine V_aload_n (c := cU) i50_197.1 (mM_s i50_197.2 rfl) rfl rfl ?_
  refine V_iload (c := cU) i50_198.1 (mM_n i50_198.2) rfl ?_
  refine V_aload_n (c := cU) i50_200.1 (mM_n i50_200.2) rfl rfl ?_
  refine V_gf (c := cU) i50_201.1 (mM_n i50_201.2) (v := .ref 53) g50_11 rfl ?_
  refine V_iload_n (c := cU) i50_204.1 (mM_n i50_204.2) rfl ?_
  refine V_iaload (c := cU) i50_205.1 (mM_n i50_205.2) rfl rfl (fun _ => ?_)
  refine V_iconst (c := cU) i50_206.1 (mM_n i50_206.2) (v := 1) rfl ?_
  refine V_iadd (c := cU) i50_207.1 (mM_n i50_207.2)  ?_
  refine V_cvU (c := cU) (As := [.int x12, .int ((S.1 53 (x1.toNatClampNeg)) + 1)]) (rest := []) i50_208.1 (mM_n i50_208.2) c50_99 rfl rfl rfl rfl (Nat.le_of_ble_eq_true rfl) rfl (fun S50 => ?_)
  exact V_msk (l1 := [some (.ref 52), some (.int x1), some (.int x2), some (.int x3), some (.int x4), some (.int x5), some (.int x6), some (.int x7), some (.int x8), some (.int x9), some (.int x10), none, none]) i50_211.2 rfl rfl
theorem k_Planner_spread_211_eq {x1 : Int32} {x2 : Int32} {x3 : Int32} {x4 : Int32} {x5 : Int32} {x6 : Int32} {x7 : Int32} {x8 : Int32} {x9 : Int32} {x10 : Int32}  {S : Mem} : k_Planner_spread_211 x1 x2 x3 x4 x5 x6 x7 x8 x9 x10 S = k_Planner_spread_108 x1 x2 x3 x4 x5 x6 x7 x8 x9 (x10 + 1) S := by
  show cU (mV oS X0 50 211 [some (.ref 52), some (.int x1), some (.int x2), some (.int x3), some (.int x4), some (.int x5), some (.int x6), some (.int x7), some (.int x8), some (.int x9), some (.int x10), none, none] [] S) = _
  refine V_iinc (c := cU) i50_211.1 (mM_s i50_211.2 rfl) (l1 := [some (.ref 52), some (.int x1), some (.int x2), some (.int x3), some (.int x4), some (.int x5), some (.int x6), some (.int x7), some (.int x8), some (.int x9), some (.int (x10 + 1)), none, none]) rfl rfl rfl ?_
  refine V_goto (c := cU) i50_214.1 (mM_n i50_214.2) rfl ?_
  exact V_msk (l1 := [some (.ref 52), some (.int x1), some (.int x2), some (.int x3), some (.int x4), some (.int x5), some (.int x6), some (.int x7), some (.int x8), some (.int x9), some (.int (x10 + 1)), none, none]) i50_108.2 rfl rfl
theorem k_Planner_spread_217_eq {x1 : Int32} {x2 : Int32} {x3 : Int32} {x4 : Int32} {x5 : Int32} {x6 : Int32} {x7 : Int32} {x8 : Int32}  {S : Mem} : k_Planner_spread_217 x1 x2 x3 x4 x5 x6 x7 x8 S = k_Planner_spread_65 x1 x2 x3 x4 x5 x6 x7 (x8 + (-1)) S := by
  show cU (mV oS X0 50 217 [some (.ref 52), some (.int x1), some (.int x2), some (.int x3), some (.int x4), some (.int x5), some (.int x6), some (.int x7), some (.int x8), none, none, none, none] [] S) = _
  refine V_iinc (c := cU) i50_217.1 (mM_s i50_217.2 rfl) (l1 := [some (.ref 52), some (.int x1), some (.int x2), some (.int x3), some (.int x4), some (.int x5), some (.int x6), some (.int x7), some (.int (x8 + (-1))), none, none, none, none]) rfl rfl rfl ?_
  refine V_goto (c := cU) i50_220.1 (mM_n i50_220.2) rfl ?_
  exact V_msk (l1 := [some (.ref 52), some (.int x1), some (.int x2), some (.int x3), some (.int x4), some (.int x5), some (.int x6), some (.int x7), some (.int (x8 + (-1))), none, none, none, none]) i50_65.2 rfl rfl
theorem f_Planner_reach_eq {x1 : Int32} {x2 : Int32}  {S : Mem} : f_Planner_reach x1 x2 S = if inb x1 512 = true then if 512 ≤ (S.1 52 4) then k_Planner_reach_37 (u1 S 53 x1.toNatClampNeg x2) else if inb (S.1 52 4) 512 = true then k_Planner_reach_37 (u1 (u1 (u1 S 53 x1.toNatClampNeg x2) 54 ((S.1 52 4).toNatClampNeg) x1) 52 4 ((S.1 52 4) + 1)) else none else none := by
  show cU (mV oS X0 51 0 [some (.ref 52), some (.int x1), some (.int x2)] [] S) = _
  refine V_aload_n (c := cU) i51_0.1 (mM_n i51_0.2) rfl rfl ?_
  refine V_gf (c := cU) i51_1.1 (mM_n i51_1.2) (v := .ref 53) g51_11 rfl ?_
  refine V_iload_n (c := cU) i51_4.1 (mM_n i51_4.2) rfl ?_
  refine V_iload_n (c := cU) i51_5.1 (mM_n i51_5.2) rfl ?_
  refine V_iastore (c := cU) (x1 := x2) i51_6.1 (mM_n i51_6.2) rfl rfl rfl rfl (fun _ => ?_)
  refine V_aload_n (c := cU) i51_7.1 (mM_n i51_7.2) rfl rfl ?_
  refine V_gf (c := cU) i51_8.1 (mM_n i51_8.2) (v := .int (S.1 52 4)) g51_18 rfl ?_
  refine V_sipush (c := cU) i51_11.1 (mM_n i51_11.2) (v := 512) rfl ?_
  refine V_icmp_ge (c := cU) i51_14.1 (mM_n i51_14.2) rfl (fun _ => ?_) (fun _ => ?_)
  · exact V_msk (l1 := [none, none, none]) i51_37.2 rfl rfl
  · refine V_aload_n (c := cU) i51_17.1 (mM_n i51_17.2) rfl rfl ?_
    refine V_gf (c := cU) i51_18.1 (mM_n i51_18.2) (v := .ref 54) g51_15 rfl ?_
    refine V_aload_n (c := cU) i51_21.1 (mM_n i51_21.2) rfl rfl ?_
    refine V_gf (c := cU) i51_22.1 (mM_n i51_22.2) (v := .int (S.1 52 4)) g51_18 rfl ?_
    refine V_iload_n (c := cU) i51_25.1 (mM_n i51_25.2) rfl ?_
    refine V_iastore (c := cU) (x1 := x1) i51_26.1 (mM_n i51_26.2) rfl rfl rfl rfl (fun _ => ?_)
    refine V_aload_n (c := cU) i51_27.1 (mM_n i51_27.2) rfl rfl ?_
    refine V_dup (c := cU) i51_28.1 (mM_n i51_28.2) rfl ?_
    refine V_gf (c := cU) i51_29.1 (mM_n i51_29.2) (v := .int (S.1 52 4)) g51_18 rfl ?_
    refine V_iconst (c := cU) i51_32.1 (mM_n i51_32.2) (v := 1) rfl ?_
    refine V_iadd (c := cU) i51_33.1 (mM_n i51_33.2)  ?_
    refine V_pf (c := cU) i51_34.1 (mM_n i51_34.2) p51_18 (pf_i rfl rfl rfl) ?_
    exact V_msk (l1 := [none, none, none]) i51_37.2 rfl rfl
theorem k_Planner_reach_37_eq   {S : Mem} : k_Planner_reach_37  S = some S := by
  show cU (mV oS X0 51 37 [none, none, none] [] S) = _
  exact V_vret i51_37.1 (mM_s i51_37.2 rfl) rfl
theorem f_Planner_stepsOf_eq {x1 : Int32} {x2 : Int32}  {S : Mem} : f_Planner_stepsOf x1 x2 S = if (S.1 14 1) ≤ x1 then k_Planner_stepsOf_23 1 S else bI (f_Net_stepsFrom x2 S) (fun r4 S3 => k_Planner_stepsOf_23 r4 S3) := by
  show cI (mV oS X0 52 0 [some (.ref 52), some (.int x1), some (.int x2)] [] S) = _
  refine V_iload_n (c := cI) i52_0.1 (mM_n i52_0.2) rfl ?_
  refine V_aload_n (c := cI) i52_1.1 (mM_n i52_1.2) rfl rfl ?_
  refine V_gf (c := cI) i52_2.1 (mM_n i52_2.2) (v := .ref 14) g52_51 rfl ?_
  refine V_gf (c := cI) i52_5.1 (mM_n i52_5.2) (v := .int (S.1 14 1)) g52_103 (gf_i (isT_o isT_14) rfl) ?_
  refine V_icmp_ge (c := cI) i52_8.1 (mM_n i52_8.2) rfl (fun _ => ?_) (fun _ => ?_)
  · refine V_iconst (c := cI) i52_22.1 (mM_n i52_22.2) (v := 1) rfl ?_
    exact V_msk (l1 := [none, none, none]) i52_23.2 rfl rfl
  · refine V_aload_n (c := cI) i52_11.1 (mM_n i52_11.2) rfl rfl ?_
    refine V_gf (c := cI) i52_12.1 (mM_n i52_12.2) (v := .ref 7) g52_47 rfl ?_
    refine V_iload_n (c := cI) i52_15.1 (mM_n i52_15.2) rfl ?_
    refine V_cvI (c := cI) (As := [.int x2]) (rest := []) i52_16.1 (mM_n i52_16.2) c52_106 rfl rfl rfl rfl (Nat.le_of_ble_eq_true rfl) rfl (fun r4 S3 => ?_)
    refine V_goto (c := cI) i52_19.1 (mM_n i52_19.2) rfl ?_
    exact V_msk (l1 := [none, none, none]) i52_23.2 rfl rfl
theorem k_Planner_stepsOf_23_eq {xs0 : Int32}  {S : Mem} : k_Planner_stepsOf_23 xs0 S = some (xs0, S) := by
  show cI (mV oS X0 52 23 [none, none, none] [.int xs0] S) = _
  exact V_iret i52_23.1 (mM_s i52_23.2 rfl) rfl
theorem f_Planner_clash_eq {x1 : Int32} {x2 : Int32} {x3 : Int32} {x4 : Int32}  {S : Mem} : f_Planner_clash x1 x2 x3 x4 S = if x2 = x3 then if x4 = x1 then bI (f_Net_isNarrow x1 x3 (S.1 52 10) S) (fun r4 S3 => if r4 = 0 then k_Planner_clash_31 S3 else k_Planner_clash_32 1 S3) else k_Planner_clash_31 S else k_Planner_clash_31 S := by
  show cI (mV oS X0 53 0 [some (.ref 52), some (.int x1), some (.int x2), some (.int x3), some (.int x4)] [] S) = _
  refine V_iload_n (c := cI) i53_0.1 (mM_n i53_0.2) rfl ?_
  refine V_iload_n (c := cI) i53_1.1 (mM_n i53_1.2) rfl ?_
  refine V_icmp_ne (c := cI) i53_2.1 (mM_n i53_2.2) rfl (fun _ => ?_) (fun _ => ?_)
  · refine V_iload (c := cI) i53_5.1 (mM_n i53_5.2) rfl ?_
    refine V_iload_n (c := cI) i53_7.1 (mM_n i53_7.2) rfl ?_
    refine V_icmp_ne (c := cI) i53_8.1 (mM_n i53_8.2) rfl (fun _ => ?_) (fun _ => ?_)
    · refine V_aload_n (c := cI) i53_11.1 (mM_n i53_11.2) rfl rfl ?_
      refine V_gf (c := cI) i53_12.1 (mM_n i53_12.2) (v := .ref 7) g53_47 rfl ?_
      refine V_iload_n (c := cI) i53_15.1 (mM_n i53_15.2) rfl ?_
      refine V_iload_n (c := cI) i53_16.1 (mM_n i53_16.2) rfl ?_
      refine V_aload_n (c := cI) i53_17.1 (mM_n i53_17.2) rfl rfl ?_
      refine V_gf (c := cI) i53_18.1 (mM_n i53_18.2) (v := .int (S.1 52 10)) g53_38 rfl ?_
      refine V_cvI (c := cI) (As := [.int x1, .int x3, .int (S.1 52 10)]) (rest := []) i53_21.1 (mM_n i53_21.2) c53_110 rfl rfl rfl rfl (Nat.le_of_ble_eq_true rfl) rfl (fun r4 S3 => ?_)
      refine V_if_eq (c := cI) i53_24.1 (mM_n i53_24.2) rfl (fun _ => ?_) (fun _ => ?_)
      · exact V_msk (l1 := [none, none, none, none, none]) i53_31.2 rfl rfl
      · refine V_iconst (c := cI) i53_27.1 (mM_n i53_27.2) (v := 1) rfl ?_
        refine V_goto (c := cI) i53_28.1 (mM_n i53_28.2) rfl ?_
        exact V_msk (l1 := [none, none, none, none, none]) i53_32.2 rfl rfl
    · exact V_msk (l1 := [none, none, none, none, none]) i53_31.2 rfl rfl
  · exact V_msk (l1 := [none, none, none, none, none]) i53_31.2 rfl rfl
theorem k_Planner_clash_31_eq   {S : Mem} : k_Planner_clash_31  S = k_Planner_clash_32 0 S := by
  show cI (mV oS X0 53 31 [none, none, none, none, none] [] S) = _
  refine V_iconst (c := cI) i53_31.1 (mM_s i53_31.2 rfl) (v := 0) rfl ?_
  exact V_msk (l1 := [none, none, none, none, none]) i53_32.2 rfl rfl
theorem k_Planner_clash_32_eq {xs0 : Int32}  {S : Mem} : k_Planner_clash_32 xs0 S = if zb xs0 = true then some (xs0, S) else none := by
  show cI (mV oS X0 53 32 [none, none, none, none, none] [.int xs0] S) = _
  exact V_iretZ i53_32.1 (mM_s i53_32.2 rfl) rfl
theorem f_Planner_cornerIn_eq {x0 : Int32} {x1 : Int32}  {S : Mem} : f_Planner_cornerIn x0 x1 S = some (((x0 >>> (((3 : Int32) * ((2 : Int32) - x1)) &&& 31)) &&& 7), S) := by
  show cI (mV oS X0 54 0 [some (.int x0), some (.int x1)] [] S) = _
  refine V_iload_n (c := cI) i54_0.1 (mM_n i54_0.2) rfl ?_
  refine V_iconst (c := cI) i54_1.1 (mM_n i54_1.2) (v := 3) rfl ?_
  refine V_iconst (c := cI) i54_2.1 (mM_n i54_2.2) (v := 2) rfl ?_
  refine V_iload_n (c := cI) i54_3.1 (mM_n i54_3.2) rfl ?_
  refine V_isub (c := cI) i54_4.1 (mM_n i54_4.2)  ?_
  refine V_imul (c := cI) i54_5.1 (mM_n i54_5.2)  ?_
  refine V_ishr (c := cI) i54_6.1 (mM_n i54_6.2)  ?_
  refine V_bipush (c := cI) i54_7.1 (mM_n i54_7.2) (v := 7) rfl ?_
  refine V_iand (c := cI) i54_9.1 (mM_n i54_9.2)  ?_
  exact V_iret i54_10.1 (mM_n i54_10.2) rfl
theorem f_Planner_firstStep_eq {x1 : Int32} {x2 : Int32}  {S : Mem} : f_Planner_firstStep x1 x2 S = k_Planner_firstStep_2 x1 x2 0 S := by
  show cI (mV oS X0 55 0 [some (.ref 52), some (.int x1), some (.int x2), none] [] S) = _
  refine V_iconst (c := cI) i55_0.1 (mM_n i55_0.2) (v := 0) rfl ?_
  refine V_istore_n (c := cI) i55_1.1 (mM_n i55_1.2) (l1 := [some (.ref 52), some (.int x1), some (.int x2), some (.int 0)])  (Nat.le_of_ble_eq_true rfl) rfl ?_
  exact V_msk (l1 := [some (.ref 52), some (.int x1), some (.int x2), some (.int 0)]) i55_2.2 rfl rfl
theorem k_Planner_firstStep_2_eq {x1 : Int32} {x2 : Int32} {x3 : Int32}  {S : Mem} : k_Planner_firstStep_2 x1 x2 x3 S = if 512 ≤ x3 then some ((-1), S) else if inb x3 512 = true then if (S.1 53 (x3.toNatClampNeg)) = (x1 - 1) then bI (f_Planner_canGo (S.1 52 5) x3 S) (fun r6 S5 => if r6 = 0 then k_Planner_firstStep_39 x1 x2 x3 S5 else bI (f_Planner_cornerIn x3 x2 S5) (fun r8 S7 => some (r8, S7))) else k_Planner_firstStep_39 x1 x2 x3 S else none := by
  show cI (mV oS X0 55 2 [some (.ref 52), some (.int x1), some (.int x2), some (.int x3)] [] S) = _
  refine V_iload_n (c := cI) i55_2.1 (mM_s i55_2.2 rfl) rfl ?_
  refine V_sipush (c := cI) i55_3.1 (mM_n i55_3.2) (v := 512) rfl ?_
  refine V_icmp_ge (c := cI) i55_6.1 (mM_n i55_6.2) rfl (fun _ => ?_) (fun _ => ?_)
  · refine V_iconst (c := cI) i55_45.1 (mM_n i55_45.2) (v := (-1)) rfl ?_
    exact V_iret i55_46.1 (mM_n i55_46.2) rfl
  · refine V_aload_n (c := cI) i55_9.1 (mM_n i55_9.2) rfl rfl ?_
    refine V_gf (c := cI) i55_10.1 (mM_n i55_10.2) (v := .ref 53) g55_11 rfl ?_
    refine V_iload_n (c := cI) i55_13.1 (mM_n i55_13.2) rfl ?_
    refine V_iaload (c := cI) i55_14.1 (mM_n i55_14.2) rfl rfl (fun _ => ?_)
    refine V_iload_n (c := cI) i55_15.1 (mM_n i55_15.2) rfl ?_
    refine V_iconst (c := cI) i55_16.1 (mM_n i55_16.2) (v := 1) rfl ?_
    refine V_isub (c := cI) i55_17.1 (mM_n i55_17.2)  ?_
    refine V_icmp_ne (c := cI) i55_18.1 (mM_n i55_18.2) rfl (fun _ => ?_) (fun _ => ?_)
    · refine V_aload_n (c := cI) i55_21.1 (mM_n i55_21.2) rfl rfl ?_
      refine V_aload_n (c := cI) i55_22.1 (mM_n i55_22.2) rfl rfl ?_
      refine V_gf (c := cI) i55_23.1 (mM_n i55_23.2) (v := .int (S.1 52 5)) g55_22 rfl ?_
      refine V_iload_n (c := cI) i55_26.1 (mM_n i55_26.2) rfl ?_
      refine V_cvI (c := cI) (As := [.int (S.1 52 5), .int x3]) (rest := []) i55_27.1 (mM_n i55_27.2) c55_114 rfl rfl rfl rfl (Nat.le_of_ble_eq_true rfl) rfl (fun r6 S5 => ?_)
      refine V_if_eq (c := cI) i55_30.1 (mM_n i55_30.2) rfl (fun _ => ?_) (fun _ => ?_)
      · exact V_msk (l1 := [some (.ref 52), some (.int x1), some (.int x2), some (.int x3)]) i55_39.2 rfl rfl
      · refine V_iload_n (c := cI) i55_33.1 (mM_n i55_33.2) rfl ?_
        refine V_iload_n (c := cI) i55_34.1 (mM_n i55_34.2) rfl ?_
        refine V_ciI (c := cI) (As := [.int x3, .int x2]) (rest := []) i55_35.1 (mM_n i55_35.2) c55_83 rfl rfl rfl (Nat.le_of_ble_eq_true rfl) rfl (fun r8 S7 => ?_)
        exact V_iret i55_38.1 (mM_n i55_38.2) rfl
    · exact V_msk (l1 := [some (.ref 52), some (.int x1), some (.int x2), some (.int x3)]) i55_39.2 rfl rfl
theorem k_Planner_firstStep_39_eq {x1 : Int32} {x2 : Int32} {x3 : Int32}  {S : Mem} : k_Planner_firstStep_39 x1 x2 x3 S = k_Planner_firstStep_2 x1 x2 (x3 + 1) S := by
  show cI (mV oS X0 55 39 [some (.ref 52), some (.int x1), some (.int x2), some (.int x3)] [] S) = _
  refine V_iinc (c := cI) i55_39.1 (mM_s i55_39.2 rfl) (l1 := [some (.ref 52), some (.int x1), some (.int x2), some (.int (x3 + 1))]) rfl rfl rfl ?_
  refine V_goto (c := cI) i55_42.1 (mM_n i55_42.2) rfl ?_
  exact V_msk (l1 := [some (.ref 52), some (.int x1), some (.int x2), some (.int (x3 + 1))]) i55_2.2 rfl rfl
theorem f_Planner_canGo_eq {x1 : Int32} {x2 : Int32}  {S : Mem} : f_Planner_canGo x1 x2 S = k_Planner_canGo_2 x1 x2 0 S := by
  show cI (mV oS X0 56 0 [some (.ref 52), some (.int x1), some (.int x2), none, none, none, none, none, none] [] S) = _
  refine V_iconst (c := cI) i56_0.1 (mM_n i56_0.2) (v := 0) rfl ?_
  refine V_istore_n (c := cI) i56_1.1 (mM_n i56_1.2) (l1 := [some (.ref 52), some (.int x1), some (.int x2), some (.int 0), none, none, none, none, none])  (Nat.le_of_ble_eq_true rfl) rfl ?_
  exact V_msk (l1 := [some (.ref 52), some (.int x1), some (.int x2), some (.int 0), none, none, none, none, none]) i56_2.2 rfl rfl
theorem k_Planner_canGo_2_eq {x1 : Int32} {x2 : Int32} {x3 : Int32}  {S : Mem} : k_Planner_canGo_2 x1 x2 x3 S = if 3 ≤ x3 then bI (f_Planner_cornerIn x1 0 S) (fun r26 S25 => bI (f_Planner_cornerIn x2 0 S25) (fun r28 S27 => bI (f_Planner_cornerIn x1 1 S27) (fun r30 S29 => bI (f_Planner_cornerIn x2 1 S29) (fun r32 S31 => bI (f_Planner_cornerIn x1 2 S31) (fun r34 S33 => bI (f_Planner_cornerIn x2 2 S33) (fun r36 S35 => if (S35.1 52 7) = 0 then bI (f_Planner_clash r26 r28 r30 r32 S35) (fun r38 S37 => if r38 = 0 then k_Planner_canGo_112 r26 r28 r30 r32 r34 r36 S37 else k_Planner_canGo_159 S37) else k_Planner_canGo_112 r26 r28 r30 r32 r34 r36 S35)))))) else bI (f_Planner_cornerIn x1 x3 S) (fun r40 S39 => bI (f_Planner_cornerIn x2 x3 S39) (fun r42 S41 => if r40 = r42 then k_Planner_canGo_44 x1 x2 x3 S41 else bI (f_Net_joins r40 r42 S41) (fun r44 S43 => if r44 = 0 then some (0, S43) else k_Planner_canGo_44 x1 x2 x3 S43))) := by
  show cI (mV oS X0 56 2 [some (.ref 52), some (.int x1), some (.int x2), some (.int x3), none, none, none, none, none] [] S) = _
  refine V_iload_n (c := cI) i56_2.1 (mM_s i56_2.2 rfl) rfl ?_
  refine V_iconst (c := cI) i56_3.1 (mM_n i56_3.2) (v := 3) rfl ?_
  refine V_icmp_ge (c := cI) i56_4.1 (mM_n i56_4.2) rfl (fun _ => ?_) (fun _ => ?_)
  · refine V_iload_n (c := cI) i56_50.1 (mM_n i56_50.2) rfl ?_
    refine V_iconst (c := cI) i56_51.1 (mM_n i56_51.2) (v := 0) rfl ?_
    refine V_ciI (c := cI) (As := [.int x1, .int 0]) (rest := []) i56_52.1 (mM_n i56_52.2) c56_83 rfl rfl rfl (Nat.le_of_ble_eq_true rfl) rfl (fun r26 S25 => ?_)
    refine V_istore_n (c := cI) i56_55.1 (mM_n i56_55.2) (l1 := [some (.ref 52), some (.int x1), some (.int x2), some (.int r26), none, none, none, none, none])  (Nat.le_of_ble_eq_true rfl) rfl ?_
    refine V_iload_n (c := cI) i56_56.1 (mM_n i56_56.2) rfl ?_
    refine V_iconst (c := cI) i56_57.1 (mM_n i56_57.2) (v := 0) rfl ?_
    refine V_ciI (c := cI) (As := [.int x2, .int 0]) (rest := []) i56_58.1 (mM_n i56_58.2) c56_83 rfl rfl rfl (Nat.le_of_ble_eq_true rfl) rfl (fun r28 S27 => ?_)
    refine V_istore (c := cI) i56_61.1 (mM_n i56_61.2) (l1 := [some (.ref 52), some (.int x1), some (.int x2), some (.int r26), some (.int r28), none, none, none, none])  (Nat.le_of_ble_eq_true rfl) rfl ?_
    refine V_iload_n (c := cI) i56_63.1 (mM_n i56_63.2) rfl ?_
    refine V_iconst (c := cI) i56_64.1 (mM_n i56_64.2) (v := 1) rfl ?_
    refine V_ciI (c := cI) (As := [.int x1, .int 1]) (rest := []) i56_65.1 (mM_n i56_65.2) c56_83 rfl rfl rfl (Nat.le_of_ble_eq_true rfl) rfl (fun r30 S29 => ?_)
    refine V_istore (c := cI) i56_68.1 (mM_n i56_68.2) (l1 := [some (.ref 52), some (.int x1), some (.int x2), some (.int r26), some (.int r28), some (.int r30), none, none, none])  (Nat.le_of_ble_eq_true rfl) rfl ?_
    refine V_iload_n (c := cI) i56_70.1 (mM_n i56_70.2) rfl ?_
    refine V_iconst (c := cI) i56_71.1 (mM_n i56_71.2) (v := 1) rfl ?_
    refine V_ciI (c := cI) (As := [.int x2, .int 1]) (rest := []) i56_72.1 (mM_n i56_72.2) c56_83 rfl rfl rfl (Nat.le_of_ble_eq_true rfl) rfl (fun r32 S31 => ?_)
    refine V_istore (c := cI) i56_75.1 (mM_n i56_75.2) (l1 := [some (.ref 52), some (.int x1), some (.int x2), some (.int r26), some (.int r28), some (.int r30), some (.int r32), none, none])  (Nat.le_of_ble_eq_true rfl) rfl ?_
    refine V_iload_n (c := cI) i56_77.1 (mM_n i56_77.2) rfl ?_
    refine V_iconst (c := cI) i56_78.1 (mM_n i56_78.2) (v := 2) rfl ?_
    refine V_ciI (c := cI) (As := [.int x1, .int 2]) (rest := []) i56_79.1 (mM_n i56_79.2) c56_83 rfl rfl rfl (Nat.le_of_ble_eq_true rfl) rfl (fun r34 S33 => ?_)
    refine V_istore (c := cI) i56_82.1 (mM_n i56_82.2) (l1 := [some (.ref 52), some (.int x1), some (.int x2), some (.int r26), some (.int r28), some (.int r30), some (.int r32), some (.int r34), none])  (Nat.le_of_ble_eq_true rfl) rfl ?_
    refine V_iload_n (c := cI) i56_84.1 (mM_n i56_84.2) rfl ?_
    refine V_iconst (c := cI) i56_85.1 (mM_n i56_85.2) (v := 2) rfl ?_
    refine V_ciI (c := cI) (As := [.int x2, .int 2]) (rest := []) i56_86.1 (mM_n i56_86.2) c56_83 rfl rfl rfl (Nat.le_of_ble_eq_true rfl) rfl (fun r36 S35 => ?_)
    refine V_istore (c := cI) i56_89.1 (mM_n i56_89.2) (l1 := [some (.ref 52), some (.int x1), some (.int x2), some (.int r26), some (.int r28), some (.int r30), some (.int r32), some (.int r34), some (.int r36)])  (Nat.le_of_ble_eq_true rfl) rfl ?_
    refine V_aload_n (c := cI) i56_91.1 (mM_n i56_91.2) rfl rfl ?_
    refine V_gf (c := cI) i56_92.1 (mM_n i56_92.2) (v := .int (S35.1 52 7)) g56_28 rfl ?_
    refine V_if_ne (c := cI) i56_95.1 (mM_n i56_95.2) rfl (fun _ => ?_) (fun _ => ?_)
    · refine V_aload_n (c := cI) i56_98.1 (mM_n i56_98.2) rfl rfl ?_
      refine V_iload_n (c := cI) i56_99.1 (mM_n i56_99.2) rfl ?_
      refine V_iload (c := cI) i56_100.1 (mM_n i56_100.2) rfl ?_
      refine V_iload (c := cI) i56_102.1 (mM_n i56_102.2) rfl ?_
      refine V_iload (c := cI) i56_104.1 (mM_n i56_104.2) rfl ?_
      refine V_cvI (c := cI) (As := [.int r26, .int r28, .int r30, .int r32]) (rest := []) i56_106.1 (mM_n i56_106.2) c56_95 rfl rfl rfl rfl (Nat.le_of_ble_eq_true rfl) rfl (fun r38 S37 => ?_)
      refine V_if_ne (c := cI) i56_109.1 (mM_n i56_109.2) rfl (fun _ => ?_) (fun _ => ?_)
      · exact V_msk (l1 := [some (.ref 52), none, none, some (.int r26), some (.int r28), some (.int r30), some (.int r32), some (.int r34), some (.int r36)]) i56_112.2 rfl rfl
      · exact V_msk (l1 := [none, none, none, none, none, none, none, none, none]) i56_159.2 rfl rfl
    · exact V_msk (l1 := [some (.ref 52), none, none, some (.int r26), some (.int r28), some (.int r30), some (.int r32), some (.int r34), some (.int r36)]) i56_112.2 rfl rfl
  · refine V_iload_n (c := cI) i56_7.1 (mM_n i56_7.2) rfl ?_
    refine V_iload_n (c := cI) i56_8.1 (mM_n i56_8.2) rfl ?_
    refine V_ciI (c := cI) (As := [.int x1, .int x3]) (rest := []) i56_9.1 (mM_n i56_9.2) c56_83 rfl rfl rfl (Nat.le_of_ble_eq_true rfl) rfl (fun r40 S39 => ?_)
    refine V_istore (c := cI) i56_12.1 (mM_n i56_12.2) (l1 := [some (.ref 52), some (.int x1), some (.int x2), some (.int x3), some (.int r40), none, none, none, none])  (Nat.le_of_ble_eq_true rfl) rfl ?_
    refine V_iload_n (c := cI) i56_14.1 (mM_n i56_14.2) rfl ?_
    refine V_iload_n (c := cI) i56_15.1 (mM_n i56_15.2) rfl ?_
    refine V_ciI (c := cI) (As := [.int x2, .int x3]) (rest := []) i56_16.1 (mM_n i56_16.2) c56_83 rfl rfl rfl (Nat.le_of_ble_eq_true rfl) rfl (fun r42 S41 => ?_)
    refine V_istore (c := cI) i56_19.1 (mM_n i56_19.2) (l1 := [some (.ref 52), some (.int x1), some (.int x2), some (.int x3), some (.int r40), some (.int r42), none, none, none])  (Nat.le_of_ble_eq_true rfl) rfl ?_
    refine V_iload (c := cI) i56_21.1 (mM_n i56_21.2) rfl ?_
    refine V_iload (c := cI) i56_23.1 (mM_n i56_23.2) rfl ?_
    refine V_icmp_eq (c := cI) i56_25.1 (mM_n i56_25.2) rfl (fun _ => ?_) (fun _ => ?_)
    · exact V_msk (l1 := [some (.ref 52), some (.int x1), some (.int x2), some (.int x3), none, none, none, none, none]) i56_44.2 rfl rfl
    · refine V_aload_n (c := cI) i56_28.1 (mM_n i56_28.2) rfl rfl ?_
      refine V_gf (c := cI) i56_29.1 (mM_n i56_29.2) (v := .ref 7) g56_47 rfl ?_
      refine V_iload (c := cI) i56_32.1 (mM_n i56_32.2) rfl ?_
      refine V_iload (c := cI) i56_34.1 (mM_n i56_34.2) rfl ?_
      refine V_cvI (c := cI) (As := [.int r40, .int r42]) (rest := []) i56_36.1 (mM_n i56_36.2) c56_118 rfl rfl rfl rfl (Nat.le_of_ble_eq_true rfl) rfl (fun r44 S43 => ?_)
      refine V_if_ne (c := cI) i56_39.1 (mM_n i56_39.2) rfl (fun _ => ?_) (fun _ => ?_)
      · refine V_iconst (c := cI) i56_42.1 (mM_n i56_42.2) (v := 0) rfl ?_
        exact V_iret i56_43.1 (mM_n i56_43.2) rfl
      · exact V_msk (l1 := [some (.ref 52), some (.int x1), some (.int x2), some (.int x3), none, none, none, none, none]) i56_44.2 rfl rfl
theorem k_Planner_canGo_44_eq {x1 : Int32} {x2 : Int32} {x3 : Int32}  {S : Mem} : k_Planner_canGo_44 x1 x2 x3 S = k_Planner_canGo_2 x1 x2 (x3 + 1) S := by
  show cI (mV oS X0 56 44 [some (.ref 52), some (.int x1), some (.int x2), some (.int x3), none, none, none, none, none] [] S) = _
  refine V_iinc (c := cI) i56_44.1 (mM_s i56_44.2 rfl) (l1 := [some (.ref 52), some (.int x1), some (.int x2), some (.int (x3 + 1)), none, none, none, none, none]) rfl rfl rfl ?_
  refine V_goto (c := cI) i56_47.1 (mM_n i56_47.2) rfl ?_
  exact V_msk (l1 := [some (.ref 52), some (.int x1), some (.int x2), some (.int (x3 + 1)), none, none, none, none, none]) i56_2.2 rfl rfl
theorem k_Planner_canGo_112_eq {x3 : Int32} {x4 : Int32} {x5 : Int32} {x6 : Int32} {x7 : Int32} {x8 : Int32}  {S : Mem} : k_Planner_canGo_112 x3 x4 x5 x6 x7 x8 S = if (S.1 52 8) = 0 then bI (f_Planner_clash x3 x4 x7 x8 S) (fun r46 S45 => if r46 = 0 then k_Planner_canGo_133 x5 x6 x7 x8 S45 else k_Planner_canGo_159 S45) else k_Planner_canGo_133 x5 x6 x7 x8 S := by
  show cI (mV oS X0 56 112 [some (.ref 52), none, none, some (.int x3), some (.int x4), some (.int x5), some (.int x6), some (.int x7), some (.int x8)] [] S) = _
  refine V_aload_n (c := cI) i56_112.1 (mM_s i56_112.2 rfl) rfl rfl ?_
  refine V_gf (c := cI) i56_113.1 (mM_n i56_113.2) (v := .int (S.1 52 8)) g56_32 rfl ?_
  refine V_if_ne (c := cI) i56_116.1 (mM_n i56_116.2) rfl (fun _ => ?_) (fun _ => ?_)
  · refine V_aload_n (c := cI) i56_119.1 (mM_n i56_119.2) rfl rfl ?_
    refine V_iload_n (c := cI) i56_120.1 (mM_n i56_120.2) rfl ?_
    refine V_iload (c := cI) i56_121.1 (mM_n i56_121.2) rfl ?_
    refine V_iload (c := cI) i56_123.1 (mM_n i56_123.2) rfl ?_
    refine V_iload (c := cI) i56_125.1 (mM_n i56_125.2) rfl ?_
    refine V_cvI (c := cI) (As := [.int x3, .int x4, .int x7, .int x8]) (rest := []) i56_127.1 (mM_n i56_127.2) c56_95 rfl rfl rfl rfl (Nat.le_of_ble_eq_true rfl) rfl (fun r46 S45 => ?_)
    refine V_if_ne (c := cI) i56_130.1 (mM_n i56_130.2) rfl (fun _ => ?_) (fun _ => ?_)
    · exact V_msk (l1 := [some (.ref 52), none, none, none, none, some (.int x5), some (.int x6), some (.int x7), some (.int x8)]) i56_133.2 rfl rfl
    · exact V_msk (l1 := [none, none, none, none, none, none, none, none, none]) i56_159.2 rfl rfl
  · exact V_msk (l1 := [some (.ref 52), none, none, none, none, some (.int x5), some (.int x6), some (.int x7), some (.int x8)]) i56_133.2 rfl rfl
theorem k_Planner_canGo_133_eq {x5 : Int32} {x6 : Int32} {x7 : Int32} {x8 : Int32}  {S : Mem} : k_Planner_canGo_133 x5 x6 x7 x8 S = if (S.1 52 9) = 0 then bI (f_Planner_clash x5 x6 x7 x8 S) (fun r48 S47 => if r48 = 0 then k_Planner_canGo_155 S47 else k_Planner_canGo_159 S47) else k_Planner_canGo_155 S := by
  show cI (mV oS X0 56 133 [some (.ref 52), none, none, none, none, some (.int x5), some (.int x6), some (.int x7), some (.int x8)] [] S) = _
  refine V_aload_n (c := cI) i56_133.1 (mM_s i56_133.2 rfl) rfl rfl ?_
  refine V_gf (c := cI) i56_134.1 (mM_n i56_134.2) (v := .int (S.1 52 9)) g56_35 rfl ?_
  refine V_if_ne (c := cI) i56_137.1 (mM_n i56_137.2) rfl (fun _ => ?_) (fun _ => ?_)
  · refine V_aload_n (c := cI) i56_140.1 (mM_n i56_140.2) rfl rfl ?_
    refine V_iload (c := cI) i56_141.1 (mM_n i56_141.2) rfl ?_
    refine V_iload (c := cI) i56_143.1 (mM_n i56_143.2) rfl ?_
    refine V_iload (c := cI) i56_145.1 (mM_n i56_145.2) rfl ?_
    refine V_iload (c := cI) i56_147.1 (mM_n i56_147.2) rfl ?_
    refine V_cvI (c := cI) (As := [.int x5, .int x6, .int x7, .int x8]) (rest := []) i56_149.1 (mM_n i56_149.2) c56_95 rfl rfl rfl rfl (Nat.le_of_ble_eq_true rfl) rfl (fun r48 S47 => ?_)
    refine V_if_ne (c := cI) i56_152.1 (mM_n i56_152.2) rfl (fun _ => ?_) (fun _ => ?_)
    · exact V_msk (l1 := [none, none, none, none, none, none, none, none, none]) i56_155.2 rfl rfl
    · exact V_msk (l1 := [none, none, none, none, none, none, none, none, none]) i56_159.2 rfl rfl
  · exact V_msk (l1 := [none, none, none, none, none, none, none, none, none]) i56_155.2 rfl rfl
theorem k_Planner_canGo_155_eq   {S : Mem} : k_Planner_canGo_155  S = k_Planner_canGo_160 1 S := by
  show cI (mV oS X0 56 155 [none, none, none, none, none, none, none, none, none] [] S) = _
  refine V_iconst (c := cI) i56_155.1 (mM_s i56_155.2 rfl) (v := 1) rfl ?_
  refine V_goto (c := cI) i56_156.1 (mM_n i56_156.2) rfl ?_
  exact V_msk (l1 := [none, none, none, none, none, none, none, none, none]) i56_160.2 rfl rfl
theorem k_Planner_canGo_159_eq   {S : Mem} : k_Planner_canGo_159  S = k_Planner_canGo_160 0 S := by
  show cI (mV oS X0 56 159 [none, none, none, none, none, none, none, none, none] [] S) = _
  refine V_iconst (c := cI) i56_159.1 (mM_s i56_159.2 rfl) (v := 0) rfl ?_
  exact V_msk (l1 := [none, none, none, none, none, none, none, none, none]) i56_160.2 rfl rfl
theorem k_Planner_canGo_160_eq {xs0 : Int32}  {S : Mem} : k_Planner_canGo_160 xs0 S = if zb xs0 = true then some (xs0, S) else none := by
  show cI (mV oS X0 56 160 [none, none, none, none, none, none, none, none, none] [.int xs0] S) = _
  exact V_iretZ i56_160.1 (mM_s i56_160.2 rfl) rfl
theorem f_Planner_widen_eq   {S : Mem} : f_Planner_widen  S = bI (f_Planner_fewest (-1) 30 (u1 (u1 S 52 11 (-1)) 52 12 (-1))) (fun r8 S7 => bI (f_Planner_fewest 12 30 S7) (fun r10 S9 => if r10 = (-1) then some S9 else if r8 = (-1) then k_Planner_widen_44 r10 31 S9 else k_Planner_widen_44 r10 r8 S9)) := by
  show cU (mV oS X0 57 0 [some (.ref 52), none, none, none, none, none] [] S) = _
  refine V_aload_n (c := cU) i57_0.1 (mM_n i57_0.2) rfl rfl ?_
  refine V_iconst (c := cU) i57_1.1 (mM_n i57_1.2) (v := (-1)) rfl ?_
  refine V_pf (c := cU) i57_2.1 (mM_n i57_2.2) p57_41 (pf_i rfl rfl rfl) ?_
  refine V_aload_n (c := cU) i57_5.1 (mM_n i57_5.2) rfl rfl ?_
  refine V_iconst (c := cU) i57_6.1 (mM_n i57_6.2) (v := (-1)) rfl ?_
  refine V_pf (c := cU) i57_7.1 (mM_n i57_7.2) p57_44 (pf_i rfl rfl rfl) ?_
  refine V_aload_n (c := cU) i57_10.1 (mM_n i57_10.2) rfl rfl ?_
  refine V_iconst (c := cU) i57_11.1 (mM_n i57_11.2) (v := (-1)) rfl ?_
  refine V_bipush (c := cU) i57_12.1 (mM_n i57_12.2) (v := 30) rfl ?_
  refine V_cvI (c := cU) (As := [.int (-1), .int 30]) (rest := []) i57_14.1 (mM_n i57_14.2) c57_121 rfl rfl rfl rfl (Nat.le_of_ble_eq_true rfl) rfl (fun r8 S7 => ?_)
  refine V_istore_n (c := cU) i57_17.1 (mM_n i57_17.2) (l1 := [some (.ref 52), some (.int r8), none, none, none, none])  (Nat.le_of_ble_eq_true rfl) rfl ?_
  refine V_aload_n (c := cU) i57_18.1 (mM_n i57_18.2) rfl rfl ?_
  refine V_bipush (c := cU) i57_19.1 (mM_n i57_19.2) (v := 12) rfl ?_
  refine V_bipush (c := cU) i57_21.1 (mM_n i57_21.2) (v := 30) rfl ?_
  refine V_cvI (c := cU) (As := [.int 12, .int 30]) (rest := []) i57_23.1 (mM_n i57_23.2) c57_121 rfl rfl rfl rfl (Nat.le_of_ble_eq_true rfl) rfl (fun r10 S9 => ?_)
  refine V_istore_n (c := cU) i57_26.1 (mM_n i57_26.2) (l1 := [some (.ref 52), some (.int r8), some (.int r10), none, none, none])  (Nat.le_of_ble_eq_true rfl) rfl ?_
  refine V_iload_n (c := cU) i57_27.1 (mM_n i57_27.2) rfl ?_
  refine V_iconst (c := cU) i57_28.1 (mM_n i57_28.2) (v := (-1)) rfl ?_
  refine V_icmp_ne (c := cU) i57_29.1 (mM_n i57_29.2) rfl (fun _ => ?_) (fun _ => ?_)
  · exact V_vret i57_32.1 (mM_n i57_32.2) rfl
  · refine V_iload_n (c := cU) i57_33.1 (mM_n i57_33.2) rfl ?_
    refine V_iconst (c := cU) i57_34.1 (mM_n i57_34.2) (v := (-1)) rfl ?_
    refine V_icmp_ne (c := cU) i57_35.1 (mM_n i57_35.2) rfl (fun _ => ?_) (fun _ => ?_)
    · refine V_bipush (c := cU) i57_38.1 (mM_n i57_38.2) (v := 31) rfl ?_
      refine V_goto (c := cU) i57_40.1 (mM_n i57_40.2) rfl ?_
      exact V_msk (l1 := [some (.ref 52), none, some (.int r10), none, none, none]) i57_44.2 rfl rfl
    · refine V_iload_n (c := cU) i57_43.1 (mM_n i57_43.2) rfl ?_
      exact V_msk (l1 := [some (.ref 52), none, some (.int r10), none, none, none]) i57_44.2 rfl rfl
theorem k_Planner_widen_44_eq {x2 : Int32} {xs0 : Int32}  {S : Mem} : k_Planner_widen_44 x2 xs0 S = k_Planner_widen_48 x2 xs0 0 S := by
  show cU (mV oS X0 57 44 [some (.ref 52), none, some (.int x2), none, none, none] [.int xs0] S) = _
  refine V_istore_n (c := cU) i57_44.1 (mM_s i57_44.2 rfl) (l1 := [some (.ref 52), none, some (.int x2), some (.int xs0), none, none])  (Nat.le_of_ble_eq_true rfl) rfl ?_
  refine V_iconst (c := cU) i57_45.1 (mM_n i57_45.2) (v := 0) rfl ?_
  refine V_istore (c := cU) i57_46.1 (mM_n i57_46.2) (l1 := [some (.ref 52), none, some (.int x2), some (.int xs0), some (.int 0), none])  (Nat.le_of_ble_eq_true rfl) rfl ?_
  exact V_msk (l1 := [some (.ref 52), none, some (.int x2), some (.int xs0), some (.int 0), none]) i57_48.2 rfl rfl
theorem k_Planner_widen_48_eq {x2 : Int32} {x3 : Int32} {x4 : Int32}  {S : Mem} : k_Planner_widen_48 x2 x3 x4 S = if (S.1 7 3) ≤ x4 then k_Planner_widen_120 S else if x3 ≤ x2 then k_Planner_widen_120 S else if inb x4 12 = true then if (S.1 10 (x4.toNatClampNeg)) = 0 then bI (f_Planner_fewest x4 (x3 - 1) S) (fun r12 S11 => k_Planner_widen_91 x2 x3 x4 r12 S11) else k_Planner_widen_91 x2 x3 x4 (-1) S else none := by
  show cU (mV oS X0 57 48 [some (.ref 52), none, some (.int x2), some (.int x3), some (.int x4), none] [] S) = _
  refine V_iload (c := cU) i57_48.1 (mM_s i57_48.2 rfl) rfl ?_
  refine V_aload_n (c := cU) i57_50.1 (mM_n i57_50.2) rfl rfl ?_
  refine V_gf (c := cU) i57_51.1 (mM_n i57_51.2) (v := .ref 7) g57_47 rfl ?_
  refine V_gf (c := cU) i57_54.1 (mM_n i57_54.2) (v := .int (S.1 7 3)) g57_124 rfl ?_
  refine V_icmp_ge (c := cU) i57_57.1 (mM_n i57_57.2) rfl (fun _ => ?_) (fun _ => ?_)
  · exact V_msk (l1 := [none, none, none, none, none, none]) i57_120.2 rfl rfl
  · refine V_iload_n (c := cU) i57_60.1 (mM_n i57_60.2) rfl ?_
    refine V_iload_n (c := cU) i57_61.1 (mM_n i57_61.2) rfl ?_
    refine V_icmp_le (c := cU) i57_62.1 (mM_n i57_62.2) rfl (fun _ => ?_) (fun _ => ?_)
    · exact V_msk (l1 := [none, none, none, none, none, none]) i57_120.2 rfl rfl
    · refine V_aload_n (c := cU) i57_65.1 (mM_n i57_65.2) rfl rfl ?_
      refine V_gf (c := cU) i57_66.1 (mM_n i57_66.2) (v := .ref 7) g57_47 rfl ?_
      refine V_gf (c := cU) i57_69.1 (mM_n i57_69.2) (v := .ref 10) g57_127 rfl ?_
      refine V_iload (c := cU) i57_72.1 (mM_n i57_72.2) rfl ?_
      refine V_baload (c := cU) i57_74.1 (mM_n i57_74.2) rfl rfl rfl (fun _ => ?_)
      refine V_if_eq (c := cU) i57_75.1 (mM_n i57_75.2) rfl (fun _ => ?_) (fun _ => ?_)
      · refine V_aload_n (c := cU) i57_82.1 (mM_n i57_82.2) rfl rfl ?_
        refine V_iload (c := cU) i57_83.1 (mM_n i57_83.2) rfl ?_
        refine V_iload_n (c := cU) i57_85.1 (mM_n i57_85.2) rfl ?_
        refine V_iconst (c := cU) i57_86.1 (mM_n i57_86.2) (v := 1) rfl ?_
        refine V_isub (c := cU) i57_87.1 (mM_n i57_87.2)  ?_
        refine V_cvI (c := cU) (As := [.int x4, .int (x3 - 1)]) (rest := []) i57_88.1 (mM_n i57_88.2) c57_121 rfl rfl rfl rfl (Nat.le_of_ble_eq_true rfl) rfl (fun r12 S11 => ?_)
        exact V_msk (l1 := [some (.ref 52), none, some (.int x2), some (.int x3), some (.int x4), none]) i57_91.2 rfl rfl
      · refine V_iconst (c := cU) i57_78.1 (mM_n i57_78.2) (v := (-1)) rfl ?_
        refine V_goto (c := cU) i57_79.1 (mM_n i57_79.2) rfl ?_
        exact V_msk (l1 := [some (.ref 52), none, some (.int x2), some (.int x3), some (.int x4), none]) i57_91.2 rfl rfl
theorem k_Planner_widen_91_eq {x2 : Int32} {x3 : Int32} {x4 : Int32} {xs0 : Int32}  {S : Mem} : k_Planner_widen_91 x2 x3 x4 xs0 S = if xs0 = (-1) then k_Planner_widen_114 x2 x3 x4 S else k_Planner_widen_114 x2 xs0 x4 (u1 (u1 S 52 11 x4) 52 12 xs0) := by
  show cU (mV oS X0 57 91 [some (.ref 52), none, some (.int x2), some (.int x3), some (.int x4), none] [.int xs0] S) = _
  refine V_istore (c := cU) i57_91.1 (mM_s i57_91.2 rfl) (l1 := [some (.ref 52), none, some (.int x2), some (.int x3), some (.int x4), some (.int xs0)])  (Nat.le_of_ble_eq_true rfl) rfl ?_
  refine V_iload (c := cU) i57_93.1 (mM_n i57_93.2) rfl ?_
  refine V_iconst (c := cU) i57_95.1 (mM_n i57_95.2) (v := (-1)) rfl ?_
  refine V_icmp_eq (c := cU) i57_96.1 (mM_n i57_96.2) rfl (fun _ => ?_) (fun _ => ?_)
  · exact V_msk (l1 := [some (.ref 52), none, some (.int x2), some (.int x3), some (.int x4), none]) i57_114.2 rfl rfl
  · refine V_iload (c := cU) i57_99.1 (mM_n i57_99.2) rfl ?_
    refine V_istore_n (c := cU) i57_101.1 (mM_n i57_101.2) (l1 := [some (.ref 52), none, some (.int x2), some (.int xs0), some (.int x4), some (.int xs0)])  (Nat.le_of_ble_eq_true rfl) rfl ?_
    refine V_aload_n (c := cU) i57_102.1 (mM_n i57_102.2) rfl rfl ?_
    refine V_iload (c := cU) i57_103.1 (mM_n i57_103.2) rfl ?_
    refine V_pf (c := cU) i57_105.1 (mM_n i57_105.2) p57_41 (pf_i rfl rfl rfl) ?_
    refine V_aload_n (c := cU) i57_108.1 (mM_n i57_108.2) rfl rfl ?_
    refine V_iload (c := cU) i57_109.1 (mM_n i57_109.2) rfl ?_
    refine V_pf (c := cU) i57_111.1 (mM_n i57_111.2) p57_44 (pf_i rfl rfl rfl) ?_
    exact V_msk (l1 := [some (.ref 52), none, some (.int x2), some (.int xs0), some (.int x4), none]) i57_114.2 rfl rfl
theorem k_Planner_widen_114_eq {x2 : Int32} {x3 : Int32} {x4 : Int32}  {S : Mem} : k_Planner_widen_114 x2 x3 x4 S = k_Planner_widen_48 x2 x3 (x4 + 1) S := by
  show cU (mV oS X0 57 114 [some (.ref 52), none, some (.int x2), some (.int x3), some (.int x4), none] [] S) = _
  refine V_iinc (c := cU) i57_114.1 (mM_s i57_114.2 rfl) (l1 := [some (.ref 52), none, some (.int x2), some (.int x3), some (.int (x4 + 1)), none]) rfl rfl rfl ?_
  refine V_goto (c := cU) i57_117.1 (mM_n i57_117.2) rfl ?_
  exact V_msk (l1 := [some (.ref 52), none, some (.int x2), some (.int x3), some (.int (x4 + 1)), none]) i57_48.2 rfl rfl
theorem k_Planner_widen_120_eq   {S : Mem} : k_Planner_widen_120  S = some S := by
  show cU (mV oS X0 57 120 [none, none, none, none, none, none] [] S) = _
  exact V_vret i57_120.1 (mM_s i57_120.2 rfl) rfl
