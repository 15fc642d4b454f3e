/-! blocks of Morning: printed by a program -/
theorem i10_0 : decode (mCd 10) 0 = .ok (.iconst 0, 1) ∧ lk (mMsk 10) 0 = none := by decide +kernel
theorem i10_1 : decode (mCd 10) 1 = .ok (.istore_n 2, 1) ∧ lk (mMsk 10) 1 = none := by decide +kernel
theorem i10_2 : decode (mCd 10) 2 = .ok (.iload_n 2, 1) ∧ lk (mMsk 10) 2 = some [true, true, true, false, false] := by decide +kernel
theorem i10_3 : decode (mCd 10) 3 = .ok (.iconst 5, 1) ∧ lk (mMsk 10) 3 = none := by decide +kernel
theorem i10_4 : decode (mCd 10) 4 = .ok (.if_icmp .ge 126, 3) ∧ lk (mMsk 10) 4 = none := by decide +kernel
theorem i10_130 : decode (mCd 10) 130 = .ok (.return_, 1) ∧ lk (mMsk 10) 130 = none := by decide +kernel
theorem i10_7 : decode (mCd 10) 7 = .ok (.aload_n 0, 1) ∧ lk (mMsk 10) 7 = none := by decide +kernel
theorem i10_8 : decode (mCd 10) 8 = .ok (.getfield 46, 3) ∧ lk (mMsk 10) 8 = none := by decide +kernel
theorem g10_46 : fOk 10 46 1 1 = true := by decide +kernel
theorem i10_11 : decode (mCd 10) 11 = .ok (.iload_n 2, 1) ∧ lk (mMsk 10) 11 = none := by decide +kernel
theorem i10_12 : decode (mCd 10) 12 = .ok (.invokevirtual 50, 3) ∧ lk (mMsk 10) 12 = none := by decide +kernel
theorem c10_50 : cvOk 10 50 59 1 2 = true := by decide +kernel
theorem i10_15 : decode (mCd 10) 15 = .ok (.astore_n 3, 1) ∧ lk (mMsk 10) 15 = none := by decide +kernel
theorem i10_16 : decode (mCd 10) 16 = .ok (.aload_n 0, 1) ∧ lk (mMsk 10) 16 = none := by decide +kernel
theorem i10_17 : decode (mCd 10) 17 = .ok (.getfield 9, 3) ∧ lk (mMsk 10) 17 = none := by decide +kernel
theorem g10_9 : fOk 10 9 1 2 = true := by decide +kernel
theorem i10_20 : decode (mCd 10) 20 = .ok (.iload_n 2, 1) ∧ lk (mMsk 10) 20 = none := by decide +kernel
theorem i10_21 : decode (mCd 10) 21 = .ok (.aload_n 3, 1) ∧ lk (mMsk 10) 21 = none := by decide +kernel
theorem i10_22 : decode (mCd 10) 22 = .ok (.ifnonnull 7, 3) ∧ lk (mMsk 10) 22 = none := by decide +kernel
theorem i10_25 : decode (mCd 10) 25 = .ok (.iconst 0, 1) ∧ lk (mMsk 10) 25 = some [true, true, true, true, false] := by decide +kernel
theorem i10_29 : decode (mCd 10) 29 = .ok (.aload_n 3, 1) ∧ lk (mMsk 10) 29 = some [true, true, true, true, false] := by decide +kernel
theorem i10_30 : decode (mCd 10) 30 = .ok (.getfield 56, 3) ∧ lk (mMsk 10) 30 = none := by decide +kernel
theorem g10_56 : fOk 10 56 7 1 = true := by decide +kernel
theorem i10_33 : decode (mCd 10) 33 = .ok (.iastore, 1) ∧ lk (mMsk 10) 33 = some [true, true, true, true, false] := by decide +kernel
theorem i10_34 : decode (mCd 10) 34 = .ok (.aload_n 0, 1) ∧ lk (mMsk 10) 34 = none := by decide +kernel
theorem i10_35 : decode (mCd 10) 35 = .ok (.getfield 15, 3) ∧ lk (mMsk 10) 35 = none := by decide +kernel
theorem g10_15 : fOk 10 15 1 3 = true := by decide +kernel
theorem i10_38 : decode (mCd 10) 38 = .ok (.iload_n 2, 1) ∧ lk (mMsk 10) 38 = none := by decide +kernel
theorem i10_39 : decode (mCd 10) 39 = .ok (.aload_n 3, 1) ∧ lk (mMsk 10) 39 = none := by decide +kernel
theorem i10_40 : decode (mCd 10) 40 = .ok (.ifnonnull 7, 3) ∧ lk (mMsk 10) 40 = none := by decide +kernel
theorem i10_47 : decode (mCd 10) 47 = .ok (.aload_n 3, 1) ∧ lk (mMsk 10) 47 = some [true, true, true, true, false] := by decide +kernel
theorem i10_48 : decode (mCd 10) 48 = .ok (.getfield 60, 3) ∧ lk (mMsk 10) 48 = none := by decide +kernel
theorem g10_60 : fOk 10 60 7 6 = true := by decide +kernel
theorem i10_51 : decode (mCd 10) 51 = .ok (.iastore, 1) ∧ lk (mMsk 10) 51 = some [true, true, true, false, false] := by decide +kernel
theorem i10_52 : decode (mCd 10) 52 = .ok (.aload_n 0, 1) ∧ lk (mMsk 10) 52 = none := by decide +kernel
theorem i10_53 : decode (mCd 10) 53 = .ok (.getfield 25, 3) ∧ lk (mMsk 10) 53 = none := by decide +kernel
theorem g10_25 : fOk 10 25 1 6 = true := by decide +kernel
theorem i10_56 : decode (mCd 10) 56 = .ok (.iload_n 2, 1) ∧ lk (mMsk 10) 56 = none := by decide +kernel
theorem i10_57 : decode (mCd 10) 57 = .ok (.iload_n 1, 1) ∧ lk (mMsk 10) 57 = none := by decide +kernel
theorem i10_58 : decode (mCd 10) 58 = .ok (.iload_n 2, 1) ∧ lk (mMsk 10) 58 = none := by decide +kernel
theorem i10_59 : decode (mCd 10) 59 = .ok (.ishr, 1) ∧ lk (mMsk 10) 59 = none := by decide +kernel
theorem i10_60 : decode (mCd 10) 60 = .ok (.iconst 1, 1) ∧ lk (mMsk 10) 60 = none := by decide +kernel
theorem i10_61 : decode (mCd 10) 61 = .ok (.iand, 1) ∧ lk (mMsk 10) 61 = none := by decide +kernel
theorem i10_62 : decode (mCd 10) 62 = .ok (.iconst 1, 1) ∧ lk (mMsk 10) 62 = none := by decide +kernel
theorem i10_63 : decode (mCd 10) 63 = .ok (.if_icmp .ne 7, 3) ∧ lk (mMsk 10) 63 = none := by decide +kernel
theorem i10_66 : decode (mCd 10) 66 = .ok (.iconst (-1), 1) ∧ lk (mMsk 10) 66 = none := by decide +kernel
theorem i10_67 : decode (mCd 10) 67 = .ok (.goto 4, 3) ∧ lk (mMsk 10) 67 = none := by decide +kernel
theorem i10_71 : decode (mCd 10) 71 = .ok (.iastore, 1) ∧ lk (mMsk 10) 71 = some [true, true, true, false, false] := by decide +kernel
theorem i10_70 : decode (mCd 10) 70 = .ok (.iload_n 1, 1) ∧ lk (mMsk 10) 70 = none := by decide +kernel
theorem i10_72 : decode (mCd 10) 72 = .ok (.aload_n 0, 1) ∧ lk (mMsk 10) 72 = none := by decide +kernel
theorem i10_73 : decode (mCd 10) 73 = .ok (.getfield 28, 3) ∧ lk (mMsk 10) 73 = none := by decide +kernel
theorem g10_28 : fOk 10 28 1 7 = true := by decide +kernel
theorem i10_76 : decode (mCd 10) 76 = .ok (.iload_n 2, 1) ∧ lk (mMsk 10) 76 = none := by decide +kernel
theorem i10_77 : decode (mCd 10) 77 = .ok (.iconst 0, 1) ∧ lk (mMsk 10) 77 = none := by decide +kernel
theorem i10_78 : decode (mCd 10) 78 = .ok (.iastore, 1) ∧ lk (mMsk 10) 78 = none := by decide +kernel
theorem i10_79 : decode (mCd 10) 79 = .ok (.iconst 0, 1) ∧ lk (mMsk 10) 79 = none := by decide +kernel
theorem i10_80 : decode (mCd 10) 80 = .ok (.istore 4, 2) ∧ lk (mMsk 10) 80 = none := by decide +kernel
theorem i10_82 : decode (mCd 10) 82 = .ok (.iload 4, 2) ∧ lk (mMsk 10) 82 = some [true, true, true, false, true] := by decide +kernel
theorem i10_84 : decode (mCd 10) 84 = .ok (.iconst 5, 1) ∧ lk (mMsk 10) 84 = none := by decide +kernel
theorem i10_85 : decode (mCd 10) 85 = .ok (.if_icmp .ge 39, 3) ∧ lk (mMsk 10) 85 = none := by decide +kernel
theorem i10_124 : decode (mCd 10) 124 = .ok (.iinc 2 1, 3) ∧ lk (mMsk 10) 124 = none := by decide +kernel
theorem i10_127 : decode (mCd 10) 127 = .ok (.goto (-125), 3) ∧ lk (mMsk 10) 127 = none := by decide +kernel
theorem i10_88 : decode (mCd 10) 88 = .ok (.aload_n 0, 1) ∧ lk (mMsk 10) 88 = none := by decide +kernel
theorem i10_89 : decode (mCd 10) 89 = .ok (.getfield 46, 3) ∧ lk (mMsk 10) 89 = none := by decide +kernel
theorem i10_92 : decode (mCd 10) 92 = .ok (.aload_n 0, 1) ∧ lk (mMsk 10) 92 = none := by decide +kernel
theorem i10_93 : decode (mCd 10) 93 = .ok (.getfield 42, 3) ∧ lk (mMsk 10) 93 = none := by decide +kernel
theorem g10_42 : fOk 10 42 1 0 = true := by decide +kernel
theorem i10_96 : decode (mCd 10) 96 = .ok (.iload_n 2, 1) ∧ lk (mMsk 10) 96 = none := by decide +kernel
theorem i10_97 : decode (mCd 10) 97 = .ok (.iload 4, 2) ∧ lk (mMsk 10) 97 = none := by decide +kernel
theorem i10_99 : decode (mCd 10) 99 = .ok (.invokevirtual 63, 3) ∧ lk (mMsk 10) 99 = none := by decide +kernel
theorem c10_63 : cvOk 10 63 60 3 0 = true := by decide +kernel
theorem i10_102 : decode (mCd 10) 102 = .ok (.ifCond .eq 16, 3) ∧ lk (mMsk 10) 102 = none := by decide +kernel
theorem i10_118 : decode (mCd 10) 118 = .ok (.iinc 4 1, 3) ∧ lk (mMsk 10) 118 = some [true, true, true, false, true] := by decide +kernel
theorem i10_105 : decode (mCd 10) 105 = .ok (.aload_n 0, 1) ∧ lk (mMsk 10) 105 = none := by decide +kernel
theorem i10_106 : decode (mCd 10) 106 = .ok (.getfield 25, 3) ∧ lk (mMsk 10) 106 = none := by decide +kernel
theorem i10_109 : decode (mCd 10) 109 = .ok (.iload_n 2, 1) ∧ lk (mMsk 10) 109 = none := by decide +kernel
theorem i10_110 : decode (mCd 10) 110 = .ok (.dup2, 1) ∧ lk (mMsk 10) 110 = none := by decide +kernel
theorem i10_111 : decode (mCd 10) 111 = .ok (.iaload, 1) ∧ lk (mMsk 10) 111 = none := by decide +kernel
theorem i10_112 : decode (mCd 10) 112 = .ok (.iconst 1, 1) ∧ lk (mMsk 10) 112 = none := by decide +kernel
theorem i10_113 : decode (mCd 10) 113 = .ok (.iload 4, 2) ∧ lk (mMsk 10) 113 = none := by decide +kernel
theorem i10_115 : decode (mCd 10) 115 = .ok (.ishl, 1) ∧ lk (mMsk 10) 115 = none := by decide +kernel
theorem i10_116 : decode (mCd 10) 116 = .ok (.ior, 1) ∧ lk (mMsk 10) 116 = none := by decide +kernel
theorem i10_117 : decode (mCd 10) 117 = .ok (.iastore, 1) ∧ lk (mMsk 10) 117 = none := by decide +kernel
theorem i10_121 : decode (mCd 10) 121 = .ok (.goto (-39), 3) ∧ lk (mMsk 10) 121 = none := by decide +kernel
theorem i10_26 : decode (mCd 10) 26 = .ok (.goto 7, 3) ∧ lk (mMsk 10) 26 = none := by decide +kernel
theorem i10_43 : decode (mCd 10) 43 = .ok (.iconst 0, 1) ∧ lk (mMsk 10) 43 = some [true, true, true, false, false] := by decide +kernel
theorem i10_44 : decode (mCd 10) 44 = .ok (.goto 7, 3) ∧ lk (mMsk 10) 44 = none := by decide +kernel
theorem i11_0 : decode (mCd 11) 0 = .ok (.iconst 0, 1) ∧ lk (mMsk 11) 0 = none := by decide +kernel
theorem i11_1 : decode (mCd 11) 1 = .ok (.istore_n 1, 1) ∧ lk (mMsk 11) 1 = none := by decide +kernel
theorem i11_2 : decode (mCd 11) 2 = .ok (.iload_n 1, 1) ∧ lk (mMsk 11) 2 = some [true, true, false] := by decide +kernel
theorem i11_3 : decode (mCd 11) 3 = .ok (.iconst 5, 1) ∧ lk (mMsk 11) 3 = none := by decide +kernel
theorem i11_4 : decode (mCd 11) 4 = .ok (.if_icmp .ge 37, 3) ∧ lk (mMsk 11) 4 = none := by decide +kernel
theorem i11_41 : decode (mCd 11) 41 = .ok (.iconst 1, 1) ∧ lk (mMsk 11) 41 = none := by decide +kernel
theorem i11_42 : decode (mCd 11) 42 = .ok (.ireturn, 1) ∧ lk (mMsk 11) 42 = none := by decide +kernel
theorem i11_7 : decode (mCd 11) 7 = .ok (.aload_n 0, 1) ∧ lk (mMsk 11) 7 = none := by decide +kernel
theorem i11_8 : decode (mCd 11) 8 = .ok (.getfield 46, 3) ∧ lk (mMsk 11) 8 = none := by decide +kernel
theorem g11_46 : fOk 11 46 1 1 = true := by decide +kernel
theorem i11_11 : decode (mCd 11) 11 = .ok (.iload_n 1, 1) ∧ lk (mMsk 11) 11 = none := by decide +kernel
theorem i11_12 : decode (mCd 11) 12 = .ok (.invokevirtual 50, 3) ∧ lk (mMsk 11) 12 = none := by decide +kernel
theorem c11_50 : cvOk 11 50 59 1 2 = true := by decide +kernel
theorem i11_15 : decode (mCd 11) 15 = .ok (.astore_n 2, 1) ∧ lk (mMsk 11) 15 = none := by decide +kernel
theorem i11_16 : decode (mCd 11) 16 = .ok (.aload_n 2, 1) ∧ lk (mMsk 11) 16 = none := by decide +kernel
theorem i11_17 : decode (mCd 11) 17 = .ok (.ifnull 18, 3) ∧ lk (mMsk 11) 17 = none := by decide +kernel
theorem i11_35 : decode (mCd 11) 35 = .ok (.iinc 1 1, 3) ∧ lk (mMsk 11) 35 = some [true, true, false] := by decide +kernel
theorem i11_20 : decode (mCd 11) 20 = .ok (.aload_n 0, 1) ∧ lk (mMsk 11) 20 = some [true, true, true] := by decide +kernel
theorem i11_21 : decode (mCd 11) 21 = .ok (.getfield 15, 3) ∧ lk (mMsk 11) 21 = none := by decide +kernel
theorem g11_15 : fOk 11 15 1 3 = true := by decide +kernel
theorem i11_24 : decode (mCd 11) 24 = .ok (.iload_n 1, 1) ∧ lk (mMsk 11) 24 = none := by decide +kernel
theorem i11_25 : decode (mCd 11) 25 = .ok (.iaload, 1) ∧ lk (mMsk 11) 25 = none := by decide +kernel
theorem i11_26 : decode (mCd 11) 26 = .ok (.aload_n 2, 1) ∧ lk (mMsk 11) 26 = none := by decide +kernel
theorem i11_27 : decode (mCd 11) 27 = .ok (.getfield 67, 3) ∧ lk (mMsk 11) 27 = none := by decide +kernel
theorem g11_67 : fOk 11 67 7 5 = true := by decide +kernel
theorem i11_30 : decode (mCd 11) 30 = .ok (.if_icmp .ge 5, 3) ∧ lk (mMsk 11) 30 = none := by decide +kernel
theorem i11_33 : decode (mCd 11) 33 = .ok (.iconst 0, 1) ∧ lk (mMsk 11) 33 = none := by decide +kernel
theorem i11_34 : decode (mCd 11) 34 = .ok (.ireturn, 1) ∧ lk (mMsk 11) 34 = none := by decide +kernel
theorem i11_38 : decode (mCd 11) 38 = .ok (.goto (-36), 3) ∧ lk (mMsk 11) 38 = none := by decide +kernel
theorem i12_0 : decode (mCd 12) 0 = .ok (.iconst 0, 1) ∧ lk (mMsk 12) 0 = none := by decide +kernel
theorem i12_1 : decode (mCd 12) 1 = .ok (.istore_n 1, 1) ∧ lk (mMsk 12) 1 = none := by decide +kernel
theorem i12_2 : decode (mCd 12) 2 = .ok (.iconst 0, 1) ∧ lk (mMsk 12) 2 = none := by decide +kernel
theorem i12_3 : decode (mCd 12) 3 = .ok (.istore_n 2, 1) ∧ lk (mMsk 12) 3 = none := by decide +kernel
theorem i12_4 : decode (mCd 12) 4 = .ok (.iload_n 2, 1) ∧ lk (mMsk 12) 4 = some [true, true, true] := by decide +kernel
theorem i12_5 : decode (mCd 12) 5 = .ok (.bipush 60, 2) ∧ lk (mMsk 12) 5 = none := by decide +kernel
theorem i12_7 : decode (mCd 12) 7 = .ok (.if_icmp .ge 23, 3) ∧ lk (mMsk 12) 7 = none := by decide +kernel
theorem i12_30 : decode (mCd 12) 30 = .ok (.iload_n 1, 1) ∧ lk (mMsk 12) 30 = some [false, true, false] := by decide +kernel
theorem i12_10 : decode (mCd 12) 10 = .ok (.aload_n 0, 1) ∧ lk (mMsk 12) 10 = none := by decide +kernel
theorem i12_11 : decode (mCd 12) 11 = .ok (.invokevirtual 70, 3) ∧ lk (mMsk 12) 11 = none := by decide +kernel
theorem c12_70 : cvOk 12 70 11 0 0 = true := by decide +kernel
theorem i12_14 : decode (mCd 12) 14 = .ok (.ifCond .ne 16, 3) ∧ lk (mMsk 12) 14 = none := by decide +kernel
theorem i12_17 : decode (mCd 12) 17 = .ok (.iload_n 1, 1) ∧ lk (mMsk 12) 17 = none := by decide +kernel
theorem i12_18 : decode (mCd 12) 18 = .ok (.aload_n 0, 1) ∧ lk (mMsk 12) 18 = none := by decide +kernel
theorem i12_19 : decode (mCd 12) 19 = .ok (.invokevirtual 74, 3) ∧ lk (mMsk 12) 19 = none := by decide +kernel
theorem c12_74 : cvOk 12 74 13 0 0 = true := by decide +kernel
theorem i12_22 : decode (mCd 12) 22 = .ok (.iadd, 1) ∧ lk (mMsk 12) 22 = none := by decide +kernel
theorem i12_23 : decode (mCd 12) 23 = .ok (.istore_n 1, 1) ∧ lk (mMsk 12) 23 = none := by decide +kernel
theorem i12_24 : decode (mCd 12) 24 = .ok (.iinc 2 1, 3) ∧ lk (mMsk 12) 24 = none := by decide +kernel
theorem i12_27 : decode (mCd 12) 27 = .ok (.goto (-23), 3) ∧ lk (mMsk 12) 27 = none := by decide +kernel
theorem i12_31 : decode (mCd 12) 31 = .ok (.ireturn, 1) ∧ lk (mMsk 12) 31 = none := by decide +kernel
theorem i13_0 : decode (mCd 13) 0 = .ok (.iconst 0, 1) ∧ lk (mMsk 13) 0 = none := by decide +kernel
theorem i13_1 : decode (mCd 13) 1 = .ok (.istore_n 1, 1) ∧ lk (mMsk 13) 1 = none := by decide +kernel
theorem i13_2 : decode (mCd 13) 2 = .ok (.iload_n 1, 1) ∧ lk (mMsk 13) 2 = some [true, true, false, false] := by decide +kernel
theorem i13_3 : decode (mCd 13) 3 = .ok (.iconst 5, 1) ∧ lk (mMsk 13) 3 = none := by decide +kernel
theorem i13_4 : decode (mCd 13) 4 = .ok (.if_icmp .ge 58, 3) ∧ lk (mMsk 13) 4 = none := by decide +kernel
theorem i13_62 : decode (mCd 13) 62 = .ok (.aload_n 0, 1) ∧ lk (mMsk 13) 62 = none := by decide +kernel
theorem i13_63 : decode (mCd 13) 63 = .ok (.invokevirtual 82, 3) ∧ lk (mMsk 13) 63 = none := by decide +kernel
theorem c13_82 : cvOk 13 82 16 0 0 = true := by decide +kernel
theorem i13_66 : decode (mCd 13) 66 = .ok (.istore_n 1, 1) ∧ lk (mMsk 13) 66 = none := by decide +kernel
theorem i13_67 : decode (mCd 13) 67 = .ok (.iconst 0, 1) ∧ lk (mMsk 13) 67 = none := by decide +kernel
theorem i13_68 : decode (mCd 13) 68 = .ok (.istore_n 2, 1) ∧ lk (mMsk 13) 68 = none := by decide +kernel
theorem i13_69 : decode (mCd 13) 69 = .ok (.iload_n 2, 1) ∧ lk (mMsk 13) 69 = some [true, true, true, false] := by decide +kernel
theorem i13_7 : decode (mCd 13) 7 = .ok (.aload_n 0, 1) ∧ lk (mMsk 13) 7 = none := by decide +kernel
theorem i13_8 : decode (mCd 13) 8 = .ok (.getfield 46, 3) ∧ lk (mMsk 13) 8 = none := by decide +kernel
theorem g13_46 : fOk 13 46 1 1 = true := by decide +kernel
theorem i13_11 : decode (mCd 13) 11 = .ok (.iload_n 1, 1) ∧ lk (mMsk 13) 11 = none := by decide +kernel
theorem i13_12 : decode (mCd 13) 12 = .ok (.invokevirtual 50, 3) ∧ lk (mMsk 13) 12 = none := by decide +kernel
theorem c13_50 : cvOk 13 50 59 1 2 = true := by decide +kernel
theorem i13_15 : decode (mCd 13) 15 = .ok (.astore_n 2, 1) ∧ lk (mMsk 13) 15 = none := by decide +kernel
theorem i13_16 : decode (mCd 13) 16 = .ok (.aload_n 2, 1) ∧ lk (mMsk 13) 16 = none := by decide +kernel
theorem i13_17 : decode (mCd 13) 17 = .ok (.ifnonnull 7, 3) ∧ lk (mMsk 13) 17 = none := by decide +kernel
theorem i13_20 : decode (mCd 13) 20 = .ok (.iconst (-1), 1) ∧ lk (mMsk 13) 20 = some [true, true, false, false] := by decide +kernel
theorem i13_24 : decode (mCd 13) 24 = .ok (.aload_n 2, 1) ∧ lk (mMsk 13) 24 = some [true, true, true, false] := by decide +kernel
theorem i13_25 : decode (mCd 13) 25 = .ok (.aload_n 0, 1) ∧ lk (mMsk 13) 25 = none := by decide +kernel
theorem i13_26 : decode (mCd 13) 26 = .ok (.getfield 15, 3) ∧ lk (mMsk 13) 26 = none := by decide +kernel
theorem g13_15 : fOk 13 15 1 3 = true := by decide +kernel
theorem i13_29 : decode (mCd 13) 29 = .ok (.iload_n 1, 1) ∧ lk (mMsk 13) 29 = none := by decide +kernel
theorem i13_30 : decode (mCd 13) 30 = .ok (.iaload, 1) ∧ lk (mMsk 13) 30 = none := by decide +kernel
theorem i13_31 : decode (mCd 13) 31 = .ok (.invokevirtual 78, 3) ∧ lk (mMsk 13) 31 = none := by decide +kernel
theorem c13_78 : cvOk 13 78 68 1 0 = true := by decide +kernel
theorem i13_34 : decode (mCd 13) 34 = .ok (.istore_n 3, 1) ∧ lk (mMsk 13) 34 = some [true, true, false, false] := by decide +kernel
theorem i13_35 : decode (mCd 13) 35 = .ok (.aload_n 0, 1) ∧ lk (mMsk 13) 35 = none := by decide +kernel
theorem i13_36 : decode (mCd 13) 36 = .ok (.getfield 18, 3) ∧ lk (mMsk 13) 36 = none := by decide +kernel
theorem g13_18 : fOk 13 18 1 4 = true := by decide +kernel
theorem i13_39 : decode (mCd 13) 39 = .ok (.iload_n 1, 1) ∧ lk (mMsk 13) 39 = none := by decide +kernel
theorem i13_40 : decode (mCd 13) 40 = .ok (.iload_n 3, 1) ∧ lk (mMsk 13) 40 = none := by decide +kernel
theorem i13_41 : decode (mCd 13) 41 = .ok (.iconst (-1), 1) ∧ lk (mMsk 13) 41 = none := by decide +kernel
theorem i13_42 : decode (mCd 13) 42 = .ok (.if_icmp .ne 12, 3) ∧ lk (mMsk 13) 42 = none := by decide +kernel
theorem i13_45 : decode (mCd 13) 45 = .ok (.aload_n 0, 1) ∧ lk (mMsk 13) 45 = none := by decide +kernel
theorem i13_46 : decode (mCd 13) 46 = .ok (.getfield 9, 3) ∧ lk (mMsk 13) 46 = none := by decide +kernel
theorem g13_9 : fOk 13 9 1 2 = true := by decide +kernel
theorem i13_49 : decode (mCd 13) 49 = .ok (.iload_n 1, 1) ∧ lk (mMsk 13) 49 = none := by decide +kernel
theorem i13_50 : decode (mCd 13) 50 = .ok (.iaload, 1) ∧ lk (mMsk 13) 50 = none := by decide +kernel
theorem i13_51 : decode (mCd 13) 51 = .ok (.goto 4, 3) ∧ lk (mMsk 13) 51 = none := by decide +kernel
theorem i13_55 : decode (mCd 13) 55 = .ok (.iastore, 1) ∧ lk (mMsk 13) 55 = some [true, true, false, false] := by decide +kernel
theorem i13_54 : decode (mCd 13) 54 = .ok (.iload_n 3, 1) ∧ lk (mMsk 13) 54 = none := by decide +kernel
theorem i13_56 : decode (mCd 13) 56 = .ok (.iinc 1 1, 3) ∧ lk (mMsk 13) 56 = none := by decide +kernel
theorem i13_59 : decode (mCd 13) 59 = .ok (.goto (-57), 3) ∧ lk (mMsk 13) 59 = none := by decide +kernel
theorem i13_21 : decode (mCd 13) 21 = .ok (.goto 13, 3) ∧ lk (mMsk 13) 21 = none := by decide +kernel
theorem i13_70 : decode (mCd 13) 70 = .ok (.iconst 5, 1) ∧ lk (mMsk 13) 70 = none := by decide +kernel
theorem i13_71 : decode (mCd 13) 71 = .ok (.if_icmp .ge 54, 3) ∧ lk (mMsk 13) 71 = none := by decide +kernel
theorem i13_125 : decode (mCd 13) 125 = .ok (.aload_n 0, 1) ∧ lk (mMsk 13) 125 = none := by decide +kernel
theorem i13_126 : decode (mCd 13) 126 = .ok (.invokevirtual 85, 3) ∧ lk (mMsk 13) 126 = none := by decide +kernel
theorem c13_85 : cvOk 13 85 18 0 3 = true := by decide +kernel
theorem i13_129 : decode (mCd 13) 129 = .ok (.iload_n 1, 1) ∧ lk (mMsk 13) 129 = none := by decide +kernel
theorem i13_130 : decode (mCd 13) 130 = .ok (.ireturn, 1) ∧ lk (mMsk 13) 130 = none := by decide +kernel
theorem i13_74 : decode (mCd 13) 74 = .ok (.aload_n 0, 1) ∧ lk (mMsk 13) 74 = none := by decide +kernel
theorem i13_75 : decode (mCd 13) 75 = .ok (.getfield 46, 3) ∧ lk (mMsk 13) 75 = none := by decide +kernel
theorem i13_78 : decode (mCd 13) 78 = .ok (.iload_n 2, 1) ∧ lk (mMsk 13) 78 = none := by decide +kernel
theorem i13_79 : decode (mCd 13) 79 = .ok (.invokevirtual 50, 3) ∧ lk (mMsk 13) 79 = none := by decide +kernel
theorem i13_82 : decode (mCd 13) 82 = .ok (.astore_n 3, 1) ∧ lk (mMsk 13) 82 = none := by decide +kernel
theorem i13_83 : decode (mCd 13) 83 = .ok (.aload_n 3, 1) ∧ lk (mMsk 13) 83 = none := by decide +kernel
theorem i13_84 : decode (mCd 13) 84 = .ok (.ifnull 35, 3) ∧ lk (mMsk 13) 84 = none := by decide +kernel
theorem i13_119 : decode (mCd 13) 119 = .ok (.iinc 2 1, 3) ∧ lk (mMsk 13) 119 = some [true, true, true, false] := by decide +kernel
theorem i13_87 : decode (mCd 13) 87 = .ok (.aload_n 0, 1) ∧ lk (mMsk 13) 87 = some [true, true, true, true] := by decide +kernel
theorem i13_88 : decode (mCd 13) 88 = .ok (.getfield 21, 3) ∧ lk (mMsk 13) 88 = none := by decide +kernel
theorem g13_21 : fOk 13 21 1 5 = true := by decide +kernel
theorem i13_91 : decode (mCd 13) 91 = .ok (.iload_n 2, 1) ∧ lk (mMsk 13) 91 = none := by decide +kernel
theorem i13_92 : decode (mCd 13) 92 = .ok (.baload, 1) ∧ lk (mMsk 13) 92 = none := by decide +kernel
theorem i13_93 : decode (mCd 13) 93 = .ok (.ifCond .ne 26, 3) ∧ lk (mMsk 13) 93 = none := by decide +kernel
theorem i13_96 : decode (mCd 13) 96 = .ok (.aload_n 0, 1) ∧ lk (mMsk 13) 96 = none := by decide +kernel
theorem i13_97 : decode (mCd 13) 97 = .ok (.getfield 15, 3) ∧ lk (mMsk 13) 97 = none := by decide +kernel
theorem i13_100 : decode (mCd 13) 100 = .ok (.iload_n 2, 1) ∧ lk (mMsk 13) 100 = none := by decide +kernel
theorem i13_101 : decode (mCd 13) 101 = .ok (.iaload, 1) ∧ lk (mMsk 13) 101 = none := by decide +kernel
theorem i13_102 : decode (mCd 13) 102 = .ok (.aload_n 3, 1) ∧ lk (mMsk 13) 102 = none := by decide +kernel
theorem i13_103 : decode (mCd 13) 103 = .ok (.getfield 67, 3) ∧ lk (mMsk 13) 103 = none := by decide +kernel
theorem g13_67 : fOk 13 67 7 5 = true := by decide +kernel
theorem i13_106 : decode (mCd 13) 106 = .ok (.if_icmp .ge 13, 3) ∧ lk (mMsk 13) 106 = none := by decide +kernel
theorem i13_109 : decode (mCd 13) 109 = .ok (.aload_n 0, 1) ∧ lk (mMsk 13) 109 = none := by decide +kernel
theorem i13_110 : decode (mCd 13) 110 = .ok (.getfield 15, 3) ∧ lk (mMsk 13) 110 = none := by decide +kernel
theorem i13_113 : decode (mCd 13) 113 = .ok (.iload_n 2, 1) ∧ lk (mMsk 13) 113 = none := by decide +kernel
theorem i13_114 : decode (mCd 13) 114 = .ok (.dup2, 1) ∧ lk (mMsk 13) 114 = none := by decide +kernel
theorem i13_115 : decode (mCd 13) 115 = .ok (.iaload, 1) ∧ lk (mMsk 13) 115 = none := by decide +kernel
theorem i13_116 : decode (mCd 13) 116 = .ok (.iconst 1, 1) ∧ lk (mMsk 13) 116 = none := by decide +kernel
theorem i13_117 : decode (mCd 13) 117 = .ok (.iadd, 1) ∧ lk (mMsk 13) 117 = none := by decide +kernel
theorem i13_118 : decode (mCd 13) 118 = .ok (.iastore, 1) ∧ lk (mMsk 13) 118 = none := by decide +kernel
theorem i13_122 : decode (mCd 13) 122 = .ok (.goto (-53), 3) ∧ lk (mMsk 13) 122 = none := by decide +kernel
theorem i14_0 : decode (mCd 14) 0 = .ok (.iconst 0, 1) ∧ lk (mMsk 14) 0 = none := by decide +kernel
theorem i14_1 : decode (mCd 14) 1 = .ok (.istore_n 1, 1) ∧ lk (mMsk 14) 1 = none := by decide +kernel
theorem i14_2 : decode (mCd 14) 2 = .ok (.iload_n 1, 1) ∧ lk (mMsk 14) 2 = some [true, true] := by decide +kernel
theorem i14_3 : decode (mCd 14) 3 = .ok (.iconst 5, 1) ∧ lk (mMsk 14) 3 = none := by decide +kernel
theorem i14_4 : decode (mCd 14) 4 = .ok (.if_icmp .ge 68, 3) ∧ lk (mMsk 14) 4 = none := by decide +kernel
theorem i14_72 : decode (mCd 14) 72 = .ok (.aload_n 0, 1) ∧ lk (mMsk 14) 72 = none := by decide +kernel
theorem i14_73 : decode (mCd 14) 73 = .ok (.invokevirtual 82, 3) ∧ lk (mMsk 14) 73 = none := by decide +kernel
theorem c14_82 : cvOk 14 82 16 0 0 = true := by decide +kernel
theorem i14_76 : decode (mCd 14) 76 = .ok (.istore_n 1, 1) ∧ lk (mMsk 14) 76 = none := by decide +kernel
theorem i14_77 : decode (mCd 14) 77 = .ok (.aload_n 0, 1) ∧ lk (mMsk 14) 77 = none := by decide +kernel
theorem i14_78 : decode (mCd 14) 78 = .ok (.invokevirtual 85, 3) ∧ lk (mMsk 14) 78 = none := by decide +kernel
theorem c14_85 : cvOk 14 85 18 0 3 = true := by decide +kernel
theorem i14_81 : decode (mCd 14) 81 = .ok (.iload_n 1, 1) ∧ lk (mMsk 14) 81 = none := by decide +kernel
theorem i14_82 : decode (mCd 14) 82 = .ok (.ireturn, 1) ∧ lk (mMsk 14) 82 = none := by decide +kernel
theorem i14_7 : decode (mCd 14) 7 = .ok (.aload_n 0, 1) ∧ lk (mMsk 14) 7 = none := by decide +kernel
theorem i14_8 : decode (mCd 14) 8 = .ok (.getfield 18, 3) ∧ lk (mMsk 14) 8 = none := by decide +kernel
theorem g14_18 : fOk 14 18 1 4 = true := by decide +kernel
theorem i14_11 : decode (mCd 14) 11 = .ok (.iload_n 1, 1) ∧ lk (mMsk 14) 11 = none := by decide +kernel
theorem i14_12 : decode (mCd 14) 12 = .ok (.aload_n 0, 1) ∧ lk (mMsk 14) 12 = none := by decide +kernel
theorem i14_13 : decode (mCd 14) 13 = .ok (.getfield 9, 3) ∧ lk (mMsk 14) 13 = none := by decide +kernel
theorem g14_9 : fOk 14 9 1 2 = true := by decide +kernel
theorem i14_16 : decode (mCd 14) 16 = .ok (.iload_n 1, 1) ∧ lk (mMsk 14) 16 = none := by decide +kernel
theorem i14_17 : decode (mCd 14) 17 = .ok (.iaload, 1) ∧ lk (mMsk 14) 17 = none := by decide +kernel
theorem i14_18 : decode (mCd 14) 18 = .ok (.iastore, 1) ∧ lk (mMsk 14) 18 = none := by decide +kernel
theorem i14_19 : decode (mCd 14) 19 = .ok (.aload_n 0, 1) ∧ lk (mMsk 14) 19 = none := by decide +kernel
theorem i14_20 : decode (mCd 14) 20 = .ok (.getfield 46, 3) ∧ lk (mMsk 14) 20 = none := by decide +kernel
theorem g14_46 : fOk 14 46 1 1 = true := by decide +kernel
theorem i14_23 : decode (mCd 14) 23 = .ok (.iload_n 1, 1) ∧ lk (mMsk 14) 23 = none := by decide +kernel
theorem i14_24 : decode (mCd 14) 24 = .ok (.invokevirtual 50, 3) ∧ lk (mMsk 14) 24 = none := by decide +kernel
theorem c14_50 : cvOk 14 50 59 1 2 = true := by decide +kernel
theorem i14_27 : decode (mCd 14) 27 = .ok (.ifnull 39, 3) ∧ lk (mMsk 14) 27 = none := by decide +kernel
theorem i14_66 : decode (mCd 14) 66 = .ok (.iinc 1 1, 3) ∧ lk (mMsk 14) 66 = some [true, true] := by decide +kernel
theorem i14_30 : decode (mCd 14) 30 = .ok (.aload_n 0, 1) ∧ lk (mMsk 14) 30 = some [true, true] := by decide +kernel
theorem i14_31 : decode (mCd 14) 31 = .ok (.getfield 18, 3) ∧ lk (mMsk 14) 31 = none := by decide +kernel
theorem i14_34 : decode (mCd 14) 34 = .ok (.iload_n 1, 1) ∧ lk (mMsk 14) 34 = none := by decide +kernel
theorem i14_35 : decode (mCd 14) 35 = .ok (.aload_n 0, 1) ∧ lk (mMsk 14) 35 = none := by decide +kernel
theorem i14_36 : decode (mCd 14) 36 = .ok (.getfield 42, 3) ∧ lk (mMsk 14) 36 = none := by decide +kernel
theorem g14_42 : fOk 14 42 1 0 = true := by decide +kernel
theorem i14_39 : decode (mCd 14) 39 = .ok (.aload_n 0, 1) ∧ lk (mMsk 14) 39 = none := by decide +kernel
theorem i14_40 : decode (mCd 14) 40 = .ok (.getfield 9, 3) ∧ lk (mMsk 14) 40 = none := by decide +kernel
theorem i14_43 : decode (mCd 14) 43 = .ok (.iload_n 1, 1) ∧ lk (mMsk 14) 43 = none := by decide +kernel
theorem i14_44 : decode (mCd 14) 44 = .ok (.iaload, 1) ∧ lk (mMsk 14) 44 = none := by decide +kernel
theorem i14_45 : decode (mCd 14) 45 = .ok (.aload_n 0, 1) ∧ lk (mMsk 14) 45 = none := by decide +kernel
theorem i14_46 : decode (mCd 14) 46 = .ok (.aload_n 0, 1) ∧ lk (mMsk 14) 46 = none := by decide +kernel
theorem i14_47 : decode (mCd 14) 47 = .ok (.getfield 42, 3) ∧ lk (mMsk 14) 47 = none := by decide +kernel
theorem i14_50 : decode (mCd 14) 50 = .ok (.aload_n 0, 1) ∧ lk (mMsk 14) 50 = none := by decide +kernel
theorem i14_51 : decode (mCd 14) 51 = .ok (.getfield 9, 3) ∧ lk (mMsk 14) 51 = none := by decide +kernel
theorem i14_54 : decode (mCd 14) 54 = .ok (.iload_n 1, 1) ∧ lk (mMsk 14) 54 = none := by decide +kernel
theorem i14_55 : decode (mCd 14) 55 = .ok (.iaload, 1) ∧ lk (mMsk 14) 55 = none := by decide +kernel
theorem i14_56 : decode (mCd 14) 56 = .ok (.invokevirtual 88, 3) ∧ lk (mMsk 14) 56 = none := by decide +kernel
theorem c14_88 : cvOk 14 88 26 1 0 = true := by decide +kernel
theorem i14_59 : decode (mCd 14) 59 = .ok (.invokevirtual 93, 3) ∧ lk (mMsk 14) 59 = none := by decide +kernel
theorem c14_93 : cvOk 14 93 15 1 0 = true := by decide +kernel
theorem i14_62 : decode (mCd 14) 62 = .ok (.invokevirtual 96, 3) ∧ lk (mMsk 14) 62 = none := by decide +kernel
theorem c14_96 : cvOk 14 96 28 2 0 = true := by decide +kernel
theorem i14_65 : decode (mCd 14) 65 = .ok (.iastore, 1) ∧ lk (mMsk 14) 65 = none := by decide +kernel
theorem i14_69 : decode (mCd 14) 69 = .ok (.goto (-67), 3) ∧ lk (mMsk 14) 69 = none := by decide +kernel
theorem i15_0 : decode (mCd 15) 0 = .ok (.aload_n 0, 1) ∧ lk (mMsk 15) 0 = none := by decide +kernel
theorem i15_1 : decode (mCd 15) 1 = .ok (.ldc2_w 100, 3) ∧ lk (mMsk 15) 1 = none := by decide +kernel
theorem q15_100 : lk (mKt (mOwn 15)) 100 = some (.inr 1103515245) := by decide +kernel
theorem i15_4 : decode (mCd 15) 4 = .ok (.aload_n 0, 1) ∧ lk (mMsk 15) 4 = none := by decide +kernel
theorem i15_5 : decode (mCd 15) 5 = .ok (.getfield 38, 3) ∧ lk (mMsk 15) 5 = none := by decide +kernel
theorem g15_38 : fOk 15 38 1 10 = true := by decide +kernel
theorem i15_8 : decode (mCd 15) 8 = .ok (.lmul, 1) ∧ lk (mMsk 15) 8 = none := by decide +kernel
theorem i15_9 : decode (mCd 15) 9 = .ok (.ldc2_w 102, 3) ∧ lk (mMsk 15) 9 = none := by decide +kernel
theorem q15_102 : lk (mKt (mOwn 15)) 102 = some (.inr 12345) := by decide +kernel
theorem i15_12 : decode (mCd 15) 12 = .ok (.ladd, 1) ∧ lk (mMsk 15) 12 = none := by decide +kernel
theorem i15_13 : decode (mCd 15) 13 = .ok (.ldc2_w 104, 3) ∧ lk (mMsk 15) 13 = none := by decide +kernel
theorem q15_104 : lk (mKt (mOwn 15)) 104 = some (.inr 2147483647) := by decide +kernel
theorem i15_16 : decode (mCd 15) 16 = .ok (.land, 1) ∧ lk (mMsk 15) 16 = none := by decide +kernel
theorem i15_17 : decode (mCd 15) 17 = .ok (.putfield 38, 3) ∧ lk (mMsk 15) 17 = none := by decide +kernel
theorem p15_38 : pOk 15 38 1 10 = true := by decide +kernel
theorem i15_20 : decode (mCd 15) 20 = .ok (.iload_n 1, 1) ∧ lk (mMsk 15) 20 = none := by decide +kernel
theorem i15_21 : decode (mCd 15) 21 = .ok (.iconst 1, 1) ∧ lk (mMsk 15) 21 = none := by decide +kernel
theorem i15_22 : decode (mCd 15) 22 = .ok (.if_icmp .ge 7, 3) ∧ lk (mMsk 15) 22 = none := by decide +kernel
theorem i15_29 : decode (mCd 15) 29 = .ok (.aload_n 0, 1) ∧ lk (mMsk 15) 29 = none := by decide +kernel
theorem i15_30 : decode (mCd 15) 30 = .ok (.getfield 38, 3) ∧ lk (mMsk 15) 30 = none := by decide +kernel
theorem i15_33 : decode (mCd 15) 33 = .ok (.ldc2_w 106, 3) ∧ lk (mMsk 15) 33 = none := by decide +kernel
theorem q15_106 : lk (mKt (mOwn 15)) 106 = some (.inr 65536) := by decide +kernel
theorem i15_36 : decode (mCd 15) 36 = .ok (.ldiv, 1) ∧ lk (mMsk 15) 36 = none := by decide +kernel
theorem i15_37 : decode (mCd 15) 37 = .ok (.iload_n 1, 1) ∧ lk (mMsk 15) 37 = none := by decide +kernel
theorem i15_38 : decode (mCd 15) 38 = .ok (.i2l, 1) ∧ lk (mMsk 15) 38 = none := by decide +kernel
theorem i15_39 : decode (mCd 15) 39 = .ok (.lrem, 1) ∧ lk (mMsk 15) 39 = none := by decide +kernel
theorem i15_40 : decode (mCd 15) 40 = .ok (.l2i, 1) ∧ lk (mMsk 15) 40 = none := by decide +kernel
theorem i15_41 : decode (mCd 15) 41 = .ok (.ireturn, 1) ∧ lk (mMsk 15) 41 = some [false, false] := by decide +kernel
theorem i15_25 : decode (mCd 15) 25 = .ok (.iconst 0, 1) ∧ lk (mMsk 15) 25 = none := by decide +kernel
theorem i15_26 : decode (mCd 15) 26 = .ok (.goto 15, 3) ∧ lk (mMsk 15) 26 = none := by decide +kernel
theorem i16_0 : decode (mCd 16) 0 = .ok (.iconst 0, 1) ∧ lk (mMsk 16) 0 = none := by decide +kernel
theorem i16_1 : decode (mCd 16) 1 = .ok (.istore_n 1, 1) ∧ lk (mMsk 16) 1 = none := by decide +kernel
theorem i16_2 : decode (mCd 16) 2 = .ok (.aload_n 0, 1) ∧ lk (mMsk 16) 2 = none := by decide +kernel
theorem i16_3 : decode (mCd 16) 3 = .ok (.iconst (-1), 1) ∧ lk (mMsk 16) 3 = none := by decide +kernel
theorem i16_4 : decode (mCd 16) 4 = .ok (.putfield 31, 3) ∧ lk (mMsk 16) 4 = none := by decide +kernel
theorem p16_31 : pOk 16 31 1 8 = true := by decide +kernel
theorem i16_7 : decode (mCd 16) 7 = .ok (.aload_n 0, 1) ∧ lk (mMsk 16) 7 = none := by decide +kernel
theorem i16_8 : decode (mCd 16) 8 = .ok (.iconst (-1), 1) ∧ lk (mMsk 16) 8 = none := by decide +kernel
theorem i16_9 : decode (mCd 16) 9 = .ok (.putfield 35, 3) ∧ lk (mMsk 16) 9 = none := by decide +kernel
theorem p16_35 : pOk 16 35 1 9 = true := by decide +kernel
theorem i16_12 : decode (mCd 16) 12 = .ok (.iconst 0, 1) ∧ lk (mMsk 16) 12 = none := by decide +kernel
theorem i16_13 : decode (mCd 16) 13 = .ok (.istore_n 2, 1) ∧ lk (mMsk 16) 13 = none := by decide +kernel
theorem i16_14 : decode (mCd 16) 14 = .ok (.iload_n 2, 1) ∧ lk (mMsk 16) 14 = some [true, true, true, false, false] := by decide +kernel
theorem i16_15 : decode (mCd 16) 15 = .ok (.iconst 5, 1) ∧ lk (mMsk 16) 15 = none := by decide +kernel
theorem i16_16 : decode (mCd 16) 16 = .ok (.if_icmp .ge 16, 3) ∧ lk (mMsk 16) 16 = none := by decide +kernel
theorem i16_32 : decode (mCd 16) 32 = .ok (.iconst 0, 1) ∧ lk (mMsk 16) 32 = none := by decide +kernel
theorem i16_33 : decode (mCd 16) 33 = .ok (.istore_n 2, 1) ∧ lk (mMsk 16) 33 = none := by decide +kernel
theorem i16_34 : decode (mCd 16) 34 = .ok (.iload_n 2, 1) ∧ lk (mMsk 16) 34 = some [true, true, true, false, false] := by decide +kernel
theorem i16_19 : decode (mCd 16) 19 = .ok (.aload_n 0, 1) ∧ lk (mMsk 16) 19 = none := by decide +kernel
theorem i16_20 : decode (mCd 16) 20 = .ok (.getfield 21, 3) ∧ lk (mMsk 16) 20 = none := by decide +kernel
theorem g16_21 : fOk 16 21 1 5 = true := by decide +kernel
theorem i16_23 : decode (mCd 16) 23 = .ok (.iload_n 2, 1) ∧ lk (mMsk 16) 23 = none := by decide +kernel
theorem i16_24 : decode (mCd 16) 24 = .ok (.iconst 0, 1) ∧ lk (mMsk 16) 24 = none := by decide +kernel
theorem i16_25 : decode (mCd 16) 25 = .ok (.bastore, 1) ∧ lk (mMsk 16) 25 = none := by decide +kernel
theorem i16_26 : decode (mCd 16) 26 = .ok (.iinc 2 1, 3) ∧ lk (mMsk 16) 26 = none := by decide +kernel
theorem i16_29 : decode (mCd 16) 29 = .ok (.goto (-15), 3) ∧ lk (mMsk 16) 29 = none := by decide +kernel
theorem i16_35 : decode (mCd 16) 35 = .ok (.iconst 5, 1) ∧ lk (mMsk 16) 35 = none := by decide +kernel
theorem i16_36 : decode (mCd 16) 36 = .ok (.if_icmp .ge 101, 3) ∧ lk (mMsk 16) 36 = none := by decide +kernel
theorem i16_137 : decode (mCd 16) 137 = .ok (.iload_n 1, 1) ∧ lk (mMsk 16) 137 = none := by decide +kernel
theorem i16_138 : decode (mCd 16) 138 = .ok (.ireturn, 1) ∧ lk (mMsk 16) 138 = none := by decide +kernel
theorem i16_39 : decode (mCd 16) 39 = .ok (.iload_n 2, 1) ∧ lk (mMsk 16) 39 = none := by decide +kernel
theorem i16_40 : decode (mCd 16) 40 = .ok (.iconst 1, 1) ∧ lk (mMsk 16) 40 = none := by decide +kernel
theorem i16_41 : decode (mCd 16) 41 = .ok (.iadd, 1) ∧ lk (mMsk 16) 41 = none := by decide +kernel
theorem i16_42 : decode (mCd 16) 42 = .ok (.istore_n 3, 1) ∧ lk (mMsk 16) 42 = none := by decide +kernel
theorem i16_43 : decode (mCd 16) 43 = .ok (.iload_n 3, 1) ∧ lk (mMsk 16) 43 = some [true, true, true, true, false] := by decide +kernel
theorem i16_44 : decode (mCd 16) 44 = .ok (.iconst 5, 1) ∧ lk (mMsk 16) 44 = none := by decide +kernel
theorem i16_45 : decode (mCd 16) 45 = .ok (.if_icmp .ge 86, 3) ∧ lk (mMsk 16) 45 = none := by decide +kernel
theorem i16_131 : decode (mCd 16) 131 = .ok (.iinc 2 1, 3) ∧ lk (mMsk 16) 131 = none := by decide +kernel
theorem i16_134 : decode (mCd 16) 134 = .ok (.goto (-100), 3) ∧ lk (mMsk 16) 134 = none := by decide +kernel
theorem i16_48 : decode (mCd 16) 48 = .ok (.aload_n 0, 1) ∧ lk (mMsk 16) 48 = none := by decide +kernel
theorem i16_49 : decode (mCd 16) 49 = .ok (.getfield 18, 3) ∧ lk (mMsk 16) 49 = none := by decide +kernel
theorem g16_18 : fOk 16 18 1 4 = true := by decide +kernel
theorem i16_52 : decode (mCd 16) 52 = .ok (.iload_n 2, 1) ∧ lk (mMsk 16) 52 = none := by decide +kernel
theorem i16_53 : decode (mCd 16) 53 = .ok (.iaload, 1) ∧ lk (mMsk 16) 53 = none := by decide +kernel
theorem i16_54 : decode (mCd 16) 54 = .ok (.aload_n 0, 1) ∧ lk (mMsk 16) 54 = none := by decide +kernel
theorem i16_55 : decode (mCd 16) 55 = .ok (.getfield 9, 3) ∧ lk (mMsk 16) 55 = none := by decide +kernel
theorem g16_9 : fOk 16 9 1 2 = true := by decide +kernel
theorem i16_58 : decode (mCd 16) 58 = .ok (.iload_n 3, 1) ∧ lk (mMsk 16) 58 = none := by decide +kernel
theorem i16_59 : decode (mCd 16) 59 = .ok (.iaload, 1) ∧ lk (mMsk 16) 59 = none := by decide +kernel
theorem i16_60 : decode (mCd 16) 60 = .ok (.if_icmp .ne 22, 3) ∧ lk (mMsk 16) 60 = none := by decide +kernel
theorem i16_63 : decode (mCd 16) 63 = .ok (.aload_n 0, 1) ∧ lk (mMsk 16) 63 = none := by decide +kernel
theorem i16_64 : decode (mCd 16) 64 = .ok (.getfield 18, 3) ∧ lk (mMsk 16) 64 = none := by decide +kernel
theorem i16_67 : decode (mCd 16) 67 = .ok (.iload_n 3, 1) ∧ lk (mMsk 16) 67 = none := by decide +kernel
theorem i16_68 : decode (mCd 16) 68 = .ok (.iaload, 1) ∧ lk (mMsk 16) 68 = none := by decide +kernel
theorem i16_69 : decode (mCd 16) 69 = .ok (.aload_n 0, 1) ∧ lk (mMsk 16) 69 = none := by decide +kernel
theorem i16_70 : decode (mCd 16) 70 = .ok (.getfield 9, 3) ∧ lk (mMsk 16) 70 = none := by decide +kernel
theorem i16_73 : decode (mCd 16) 73 = .ok (.iload_n 2, 1) ∧ lk (mMsk 16) 73 = none := by decide +kernel
theorem i16_74 : decode (mCd 16) 74 = .ok (.iaload, 1) ∧ lk (mMsk 16) 74 = none := by decide +kernel
theorem i16_75 : decode (mCd 16) 75 = .ok (.if_icmp .ne 7, 3) ∧ lk (mMsk 16) 75 = none := by decide +kernel
theorem i16_78 : decode (mCd 16) 78 = .ok (.iconst 1, 1) ∧ lk (mMsk 16) 78 = none := by decide +kernel
theorem i16_79 : decode (mCd 16) 79 = .ok (.goto 4, 3) ∧ lk (mMsk 16) 79 = none := by decide +kernel
theorem i16_83 : decode (mCd 16) 83 = .ok (.istore 4, 2) ∧ lk (mMsk 16) 83 = some [true, true, true, true, false] := by decide +kernel
theorem i16_82 : decode (mCd 16) 82 = .ok (.iconst 0, 1) ∧ lk (mMsk 16) 82 = some [true, true, true, true, false] := by decide +kernel
theorem i16_85 : decode (mCd 16) 85 = .ok (.iload 4, 2) ∧ lk (mMsk 16) 85 = none := by decide +kernel
theorem i16_87 : decode (mCd 16) 87 = .ok (.ifCond .eq 38, 3) ∧ lk (mMsk 16) 87 = none := by decide +kernel
theorem i16_125 : decode (mCd 16) 125 = .ok (.iinc 3 1, 3) ∧ lk (mMsk 16) 125 = some [true, true, true, true, false] := by decide +kernel
theorem i16_90 : decode (mCd 16) 90 = .ok (.aload_n 0, 1) ∧ lk (mMsk 16) 90 = none := by decide +kernel
theorem i16_91 : decode (mCd 16) 91 = .ok (.getfield 42, 3) ∧ lk (mMsk 16) 91 = none := by decide +kernel
theorem g16_42 : fOk 16 42 1 0 = true := by decide +kernel
theorem i16_94 : decode (mCd 16) 94 = .ok (.aload_n 0, 1) ∧ lk (mMsk 16) 94 = none := by decide +kernel
theorem i16_95 : decode (mCd 16) 95 = .ok (.getfield 9, 3) ∧ lk (mMsk 16) 95 = none := by decide +kernel
theorem i16_98 : decode (mCd 16) 98 = .ok (.iload_n 2, 1) ∧ lk (mMsk 16) 98 = none := by decide +kernel
theorem i16_99 : decode (mCd 16) 99 = .ok (.iaload, 1) ∧ lk (mMsk 16) 99 = none := by decide +kernel
theorem i16_100 : decode (mCd 16) 100 = .ok (.aload_n 0, 1) ∧ lk (mMsk 16) 100 = none := by decide +kernel
theorem i16_101 : decode (mCd 16) 101 = .ok (.getfield 9, 3) ∧ lk (mMsk 16) 101 = none := by decide +kernel
theorem i16_104 : decode (mCd 16) 104 = .ok (.iload_n 3, 1) ∧ lk (mMsk 16) 104 = none := by decide +kernel
theorem i16_105 : decode (mCd 16) 105 = .ok (.iaload, 1) ∧ lk (mMsk 16) 105 = none := by decide +kernel
theorem i16_106 : decode (mCd 16) 106 = .ok (.iconst (-1), 1) ∧ lk (mMsk 16) 106 = none := by decide +kernel
theorem i16_107 : decode (mCd 16) 107 = .ok (.invokevirtual 108, 3) ∧ lk (mMsk 16) 107 = none := by decide +kernel
theorem c16_108 : cvOk 16 108 25 3 0 = true := by decide +kernel
theorem i16_110 : decode (mCd 16) 110 = .ok (.ifCond .eq 15, 3) ∧ lk (mMsk 16) 110 = none := by decide +kernel
theorem i16_113 : decode (mCd 16) 113 = .ok (.aload_n 0, 1) ∧ lk (mMsk 16) 113 = none := by decide +kernel
theorem i16_114 : decode (mCd 16) 114 = .ok (.iload_n 2, 1) ∧ lk (mMsk 16) 114 = none := by decide +kernel
theorem i16_115 : decode (mCd 16) 115 = .ok (.iload_n 3, 1) ∧ lk (mMsk 16) 115 = none := by decide +kernel
theorem i16_116 : decode (mCd 16) 116 = .ok (.invokevirtual 112, 3) ∧ lk (mMsk 16) 116 = none := by decide +kernel
theorem c16_112 : cvOk 16 112 17 2 0 = true := by decide +kernel
theorem i16_119 : decode (mCd 16) 119 = .ok (.ifCond .eq 6, 3) ∧ lk (mMsk 16) 119 = none := by decide +kernel
theorem i16_122 : decode (mCd 16) 122 = .ok (.iinc 1 1, 3) ∧ lk (mMsk 16) 122 = none := by decide +kernel
theorem i16_128 : decode (mCd 16) 128 = .ok (.goto (-85), 3) ∧ lk (mMsk 16) 128 = none := by decide +kernel
theorem i17_0 : decode (mCd 17) 0 = .ok (.aload_n 0, 1) ∧ lk (mMsk 17) 0 = none := by decide +kernel
theorem i17_1 : decode (mCd 17) 1 = .ok (.getfield 28, 3) ∧ lk (mMsk 17) 1 = none := by decide +kernel
theorem g17_28 : fOk 17 28 1 7 = true := by decide +kernel
theorem i17_4 : decode (mCd 17) 4 = .ok (.iload_n 1, 1) ∧ lk (mMsk 17) 4 = none := by decide +kernel
theorem i17_5 : decode (mCd 17) 5 = .ok (.dup2, 1) ∧ lk (mMsk 17) 5 = none := by decide +kernel
theorem i17_6 : decode (mCd 17) 6 = .ok (.iaload, 1) ∧ lk (mMsk 17) 6 = none := by decide +kernel
theorem i17_7 : decode (mCd 17) 7 = .ok (.iconst 1, 1) ∧ lk (mMsk 17) 7 = none := by decide +kernel
theorem i17_8 : decode (mCd 17) 8 = .ok (.iload_n 2, 1) ∧ lk (mMsk 17) 8 = none := by decide +kernel
theorem i17_9 : decode (mCd 17) 9 = .ok (.ishl, 1) ∧ lk (mMsk 17) 9 = none := by decide +kernel
theorem i17_10 : decode (mCd 17) 10 = .ok (.ior, 1) ∧ lk (mMsk 17) 10 = none := by decide +kernel
theorem i17_11 : decode (mCd 17) 11 = .ok (.iastore, 1) ∧ lk (mMsk 17) 11 = none := by decide +kernel
theorem i17_12 : decode (mCd 17) 12 = .ok (.aload_n 0, 1) ∧ lk (mMsk 17) 12 = none := by decide +kernel
theorem i17_13 : decode (mCd 17) 13 = .ok (.getfield 28, 3) ∧ lk (mMsk 17) 13 = none := by decide +kernel
theorem i17_16 : decode (mCd 17) 16 = .ok (.iload_n 2, 1) ∧ lk (mMsk 17) 16 = none := by decide +kernel
theorem i17_17 : decode (mCd 17) 17 = .ok (.dup2, 1) ∧ lk (mMsk 17) 17 = none := by decide +kernel
theorem i17_18 : decode (mCd 17) 18 = .ok (.iaload, 1) ∧ lk (mMsk 17) 18 = none := by decide +kernel
theorem i17_19 : decode (mCd 17) 19 = .ok (.iconst 1, 1) ∧ lk (mMsk 17) 19 = none := by decide +kernel
theorem i17_20 : decode (mCd 17) 20 = .ok (.iload_n 1, 1) ∧ lk (mMsk 17) 20 = none := by decide +kernel
theorem i17_21 : decode (mCd 17) 21 = .ok (.ishl, 1) ∧ lk (mMsk 17) 21 = none := by decide +kernel
theorem i17_22 : decode (mCd 17) 22 = .ok (.ior, 1) ∧ lk (mMsk 17) 22 = none := by decide +kernel
theorem i17_23 : decode (mCd 17) 23 = .ok (.iastore, 1) ∧ lk (mMsk 17) 23 = none := by decide +kernel
theorem i17_24 : decode (mCd 17) 24 = .ok (.aload_n 0, 1) ∧ lk (mMsk 17) 24 = none := by decide +kernel
theorem i17_25 : decode (mCd 17) 25 = .ok (.getfield 25, 3) ∧ lk (mMsk 17) 25 = none := by decide +kernel
theorem g17_25 : fOk 17 25 1 6 = true := by decide +kernel
theorem i17_28 : decode (mCd 17) 28 = .ok (.iload_n 1, 1) ∧ lk (mMsk 17) 28 = none := by decide +kernel
theorem i17_29 : decode (mCd 17) 29 = .ok (.iaload, 1) ∧ lk (mMsk 17) 29 = none := by decide +kernel
theorem i17_30 : decode (mCd 17) 30 = .ok (.iload_n 2, 1) ∧ lk (mMsk 17) 30 = none := by decide +kernel
theorem i17_31 : decode (mCd 17) 31 = .ok (.ishr, 1) ∧ lk (mMsk 17) 31 = none := by decide +kernel
theorem i17_32 : decode (mCd 17) 32 = .ok (.iconst 1, 1) ∧ lk (mMsk 17) 32 = none := by decide +kernel
theorem i17_33 : decode (mCd 17) 33 = .ok (.iand, 1) ∧ lk (mMsk 17) 33 = none := by decide +kernel
theorem i17_34 : decode (mCd 17) 34 = .ok (.iconst 1, 1) ∧ lk (mMsk 17) 34 = none := by decide +kernel
theorem i17_35 : decode (mCd 17) 35 = .ok (.if_icmp .ne 5, 3) ∧ lk (mMsk 17) 35 = none := by decide +kernel
theorem i17_38 : decode (mCd 17) 38 = .ok (.iconst 0, 1) ∧ lk (mMsk 17) 38 = none := by decide +kernel
theorem i17_39 : decode (mCd 17) 39 = .ok (.ireturn, 1) ∧ lk (mMsk 17) 39 = none := by decide +kernel
theorem i17_40 : decode (mCd 17) 40 = .ok (.aload_n 0, 1) ∧ lk (mMsk 17) 40 = none := by decide +kernel
theorem i17_41 : decode (mCd 17) 41 = .ok (.getfield 21, 3) ∧ lk (mMsk 17) 41 = none := by decide +kernel
theorem g17_21 : fOk 17 21 1 5 = true := by decide +kernel
theorem i17_44 : decode (mCd 17) 44 = .ok (.iload_n 1, 1) ∧ lk (mMsk 17) 44 = none := by decide +kernel
theorem i17_45 : decode (mCd 17) 45 = .ok (.iconst 1, 1) ∧ lk (mMsk 17) 45 = none := by decide +kernel
theorem i17_46 : decode (mCd 17) 46 = .ok (.bastore, 1) ∧ lk (mMsk 17) 46 = none := by decide +kernel
theorem i17_47 : decode (mCd 17) 47 = .ok (.aload_n 0, 1) ∧ lk (mMsk 17) 47 = none := by decide +kernel
theorem i17_48 : decode (mCd 17) 48 = .ok (.getfield 21, 3) ∧ lk (mMsk 17) 48 = none := by decide +kernel
theorem i17_51 : decode (mCd 17) 51 = .ok (.iload_n 2, 1) ∧ lk (mMsk 17) 51 = none := by decide +kernel
theorem i17_52 : decode (mCd 17) 52 = .ok (.iconst 1, 1) ∧ lk (mMsk 17) 52 = none := by decide +kernel
theorem i17_53 : decode (mCd 17) 53 = .ok (.bastore, 1) ∧ lk (mMsk 17) 53 = none := by decide +kernel
theorem i17_54 : decode (mCd 17) 54 = .ok (.aload_n 0, 1) ∧ lk (mMsk 17) 54 = none := by decide +kernel
theorem i17_55 : decode (mCd 17) 55 = .ok (.getfield 31, 3) ∧ lk (mMsk 17) 55 = none := by decide +kernel
theorem g17_31 : fOk 17 31 1 8 = true := by decide +kernel
theorem i17_58 : decode (mCd 17) 58 = .ok (.iconst (-1), 1) ∧ lk (mMsk 17) 58 = none := by decide +kernel
theorem i17_59 : decode (mCd 17) 59 = .ok (.if_icmp .ne 13, 3) ∧ lk (mMsk 17) 59 = none := by decide +kernel
theorem i17_62 : decode (mCd 17) 62 = .ok (.aload_n 0, 1) ∧ lk (mMsk 17) 62 = none := by decide +kernel
theorem i17_63 : decode (mCd 17) 63 = .ok (.iload_n 1, 1) ∧ lk (mMsk 17) 63 = none := by decide +kernel
theorem i17_64 : decode (mCd 17) 64 = .ok (.putfield 31, 3) ∧ lk (mMsk 17) 64 = none := by decide +kernel
theorem p17_31 : pOk 17 31 1 8 = true := by decide +kernel
theorem i17_67 : decode (mCd 17) 67 = .ok (.aload_n 0, 1) ∧ lk (mMsk 17) 67 = none := by decide +kernel
theorem i17_68 : decode (mCd 17) 68 = .ok (.iload_n 2, 1) ∧ lk (mMsk 17) 68 = none := by decide +kernel
theorem i17_69 : decode (mCd 17) 69 = .ok (.putfield 35, 3) ∧ lk (mMsk 17) 69 = none := by decide +kernel
theorem p17_35 : pOk 17 35 1 9 = true := by decide +kernel
theorem i17_72 : decode (mCd 17) 72 = .ok (.iconst 1, 1) ∧ lk (mMsk 17) 72 = some [false, false, false] := by decide +kernel
theorem i17_73 : decode (mCd 17) 73 = .ok (.ireturn, 1) ∧ lk (mMsk 17) 73 = none := by decide +kernel
theorem i18_0 : decode (mCd 18) 0 = .ok (.iconst 0, 1) ∧ lk (mMsk 18) 0 = none := by decide +kernel
theorem i18_1 : decode (mCd 18) 1 = .ok (.istore_n 1, 1) ∧ lk (mMsk 18) 1 = none := by decide +kernel
theorem i18_2 : decode (mCd 18) 2 = .ok (.iload_n 1, 1) ∧ lk (mMsk 18) 2 = some [true, true] := by decide +kernel
theorem i18_3 : decode (mCd 18) 3 = .ok (.iconst 5, 1) ∧ lk (mMsk 18) 3 = none := by decide +kernel
theorem i18_4 : decode (mCd 18) 4 = .ok (.if_icmp .ge 30, 3) ∧ lk (mMsk 18) 4 = none := by decide +kernel
theorem i18_34 : decode (mCd 18) 34 = .ok (.return_, 1) ∧ lk (mMsk 18) 34 = none := by decide +kernel
theorem i18_7 : decode (mCd 18) 7 = .ok (.aload_n 0, 1) ∧ lk (mMsk 18) 7 = none := by decide +kernel
theorem i18_8 : decode (mCd 18) 8 = .ok (.getfield 21, 3) ∧ lk (mMsk 18) 8 = none := by decide +kernel
theorem g18_21 : fOk 18 21 1 5 = true := by decide +kernel
theorem i18_11 : decode (mCd 18) 11 = .ok (.iload_n 1, 1) ∧ lk (mMsk 18) 11 = none := by decide +kernel
theorem i18_12 : decode (mCd 18) 12 = .ok (.baload, 1) ∧ lk (mMsk 18) 12 = none := by decide +kernel
theorem i18_13 : decode (mCd 18) 13 = .ok (.ifCond .ne 15, 3) ∧ lk (mMsk 18) 13 = none := by decide +kernel
theorem i18_16 : decode (mCd 18) 16 = .ok (.aload_n 0, 1) ∧ lk (mMsk 18) 16 = none := by decide +kernel
theorem i18_17 : decode (mCd 18) 17 = .ok (.getfield 9, 3) ∧ lk (mMsk 18) 17 = none := by decide +kernel
theorem g18_9 : fOk 18 9 1 2 = true := by decide +kernel
theorem i18_20 : decode (mCd 18) 20 = .ok (.iload_n 1, 1) ∧ lk (mMsk 18) 20 = none := by decide +kernel
theorem i18_21 : decode (mCd 18) 21 = .ok (.aload_n 0, 1) ∧ lk (mMsk 18) 21 = none := by decide +kernel
theorem i18_22 : decode (mCd 18) 22 = .ok (.getfield 18, 3) ∧ lk (mMsk 18) 22 = none := by decide +kernel
theorem g18_18 : fOk 18 18 1 4 = true := by decide +kernel
theorem i18_25 : decode (mCd 18) 25 = .ok (.iload_n 1, 1) ∧ lk (mMsk 18) 25 = none := by decide +kernel
theorem i18_26 : decode (mCd 18) 26 = .ok (.iaload, 1) ∧ lk (mMsk 18) 26 = none := by decide +kernel
theorem i18_27 : decode (mCd 18) 27 = .ok (.iastore, 1) ∧ lk (mMsk 18) 27 = none := by decide +kernel
theorem i18_28 : decode (mCd 18) 28 = .ok (.iinc 1 1, 3) ∧ lk (mMsk 18) 28 = some [true, true] := by decide +kernel
theorem i18_31 : decode (mCd 18) 31 = .ok (.goto (-29), 3) ∧ lk (mMsk 18) 31 = none := by decide +kernel
theorem i19_0 : decode (mCd 19) 0 = .ok (.iconst 0, 1) ∧ lk (mMsk 19) 0 = none := by decide +kernel
theorem i19_1 : decode (mCd 19) 1 = .ok (.istore_n 1, 1) ∧ lk (mMsk 19) 1 = none := by decide +kernel
theorem i19_2 : decode (mCd 19) 2 = .ok (.iload_n 1, 1) ∧ lk (mMsk 19) 2 = some [true, true, false] := by decide +kernel
theorem i19_3 : decode (mCd 19) 3 = .ok (.iconst 5, 1) ∧ lk (mMsk 19) 3 = none := by decide +kernel
theorem i19_4 : decode (mCd 19) 4 = .ok (.if_icmp .ge 42, 3) ∧ lk (mMsk 19) 4 = none := by decide +kernel
theorem i19_46 : decode (mCd 19) 46 = .ok (.return_, 1) ∧ lk (mMsk 19) 46 = none := by decide +kernel
theorem i19_7 : decode (mCd 19) 7 = .ok (.aload_n 0, 1) ∧ lk (mMsk 19) 7 = none := by decide +kernel
theorem i19_8 : decode (mCd 19) 8 = .ok (.getfield 46, 3) ∧ lk (mMsk 19) 8 = none := by decide +kernel
theorem g19_46 : fOk 19 46 1 1 = true := by decide +kernel
theorem i19_11 : decode (mCd 19) 11 = .ok (.iload_n 1, 1) ∧ lk (mMsk 19) 11 = none := by decide +kernel
theorem i19_12 : decode (mCd 19) 12 = .ok (.invokevirtual 50, 3) ∧ lk (mMsk 19) 12 = none := by decide +kernel
theorem c19_50 : cvOk 19 50 59 1 2 = true := by decide +kernel
theorem i19_15 : decode (mCd 19) 15 = .ok (.astore_n 2, 1) ∧ lk (mMsk 19) 15 = none := by decide +kernel
theorem i19_16 : decode (mCd 19) 16 = .ok (.aload_n 2, 1) ∧ lk (mMsk 19) 16 = none := by decide +kernel
theorem i19_17 : decode (mCd 19) 17 = .ok (.ifnull 23, 3) ∧ lk (mMsk 19) 17 = none := by decide +kernel
theorem i19_40 : decode (mCd 19) 40 = .ok (.iinc 1 1, 3) ∧ lk (mMsk 19) 40 = some [true, true, false] := by decide +kernel
theorem i19_20 : decode (mCd 19) 20 = .ok (.aload_n 2, 1) ∧ lk (mMsk 19) 20 = some [true, true, true] := by decide +kernel
theorem i19_21 : decode (mCd 19) 21 = .ok (.aload_n 0, 1) ∧ lk (mMsk 19) 21 = none := by decide +kernel
theorem i19_22 : decode (mCd 19) 22 = .ok (.getfield 9, 3) ∧ lk (mMsk 19) 22 = none := by decide +kernel
theorem g19_9 : fOk 19 9 1 2 = true := by decide +kernel
theorem i19_25 : decode (mCd 19) 25 = .ok (.iload_n 1, 1) ∧ lk (mMsk 19) 25 = none := by decide +kernel
theorem i19_26 : decode (mCd 19) 26 = .ok (.iaload, 1) ∧ lk (mMsk 19) 26 = none := by decide +kernel
theorem i19_27 : decode (mCd 19) 27 = .ok (.putfield 56, 3) ∧ lk (mMsk 19) 27 = none := by decide +kernel
theorem p19_56 : pOk 19 56 7 1 = true := by decide +kernel
theorem i19_30 : decode (mCd 19) 30 = .ok (.aload_n 2, 1) ∧ lk (mMsk 19) 30 = none := by decide +kernel
theorem i19_31 : decode (mCd 19) 31 = .ok (.aload_n 0, 1) ∧ lk (mMsk 19) 31 = none := by decide +kernel
theorem i19_32 : decode (mCd 19) 32 = .ok (.getfield 15, 3) ∧ lk (mMsk 19) 32 = none := by decide +kernel
theorem g19_15 : fOk 19 15 1 3 = true := by decide +kernel
theorem i19_35 : decode (mCd 19) 35 = .ok (.iload_n 1, 1) ∧ lk (mMsk 19) 35 = none := by decide +kernel
theorem i19_36 : decode (mCd 19) 36 = .ok (.iaload, 1) ∧ lk (mMsk 19) 36 = none := by decide +kernel
theorem i19_37 : decode (mCd 19) 37 = .ok (.putfield 60, 3) ∧ lk (mMsk 19) 37 = none := by decide +kernel
theorem p19_60 : pOk 19 60 7 6 = true := by decide +kernel
theorem i19_43 : decode (mCd 19) 43 = .ok (.goto (-41), 3) ∧ lk (mMsk 19) 43 = none := by decide +kernel
theorem i20_0 : decode (mCd 20) 0 = .ok (.iconst 0, 1) ∧ lk (mMsk 20) 0 = none := by decide +kernel
theorem i20_1 : decode (mCd 20) 1 = .ok (.istore_n 1, 1) ∧ lk (mMsk 20) 1 = none := by decide +kernel
theorem i20_2 : decode (mCd 20) 2 = .ok (.iconst 0, 1) ∧ lk (mMsk 20) 2 = none := by decide +kernel
theorem i20_3 : decode (mCd 20) 3 = .ok (.istore_n 2, 1) ∧ lk (mMsk 20) 3 = none := by decide +kernel
theorem i20_4 : decode (mCd 20) 4 = .ok (.iload_n 2, 1) ∧ lk (mMsk 20) 4 = some [true, true, true, false] := by decide +kernel
theorem i20_5 : decode (mCd 20) 5 = .ok (.iconst 5, 1) ∧ lk (mMsk 20) 5 = none := by decide +kernel
theorem i20_6 : decode (mCd 20) 6 = .ok (.if_icmp .ge 41, 3) ∧ lk (mMsk 20) 6 = none := by decide +kernel
theorem i20_47 : decode (mCd 20) 47 = .ok (.iload_n 1, 1) ∧ lk (mMsk 20) 47 = none := by decide +kernel
theorem i20_48 : decode (mCd 20) 48 = .ok (.ireturn, 1) ∧ lk (mMsk 20) 48 = none := by decide +kernel
theorem i20_9 : decode (mCd 20) 9 = .ok (.aload_n 0, 1) ∧ lk (mMsk 20) 9 = none := by decide +kernel
theorem i20_10 : decode (mCd 20) 10 = .ok (.getfield 46, 3) ∧ lk (mMsk 20) 10 = none := by decide +kernel
theorem g20_46 : fOk 20 46 1 1 = true := by decide +kernel
theorem i20_13 : decode (mCd 20) 13 = .ok (.iload_n 2, 1) ∧ lk (mMsk 20) 13 = none := by decide +kernel
theorem i20_14 : decode (mCd 20) 14 = .ok (.invokevirtual 50, 3) ∧ lk (mMsk 20) 14 = none := by decide +kernel
theorem c20_50 : cvOk 20 50 59 1 2 = true := by decide +kernel
theorem i20_17 : decode (mCd 20) 17 = .ok (.astore_n 3, 1) ∧ lk (mMsk 20) 17 = none := by decide +kernel
theorem i20_18 : decode (mCd 20) 18 = .ok (.aload_n 3, 1) ∧ lk (mMsk 20) 18 = none := by decide +kernel
theorem i20_19 : decode (mCd 20) 19 = .ok (.ifnull 22, 3) ∧ lk (mMsk 20) 19 = none := by decide +kernel
theorem i20_41 : decode (mCd 20) 41 = .ok (.iinc 2 1, 3) ∧ lk (mMsk 20) 41 = some [true, true, true, false] := by decide +kernel
theorem i20_22 : decode (mCd 20) 22 = .ok (.aload_n 3, 1) ∧ lk (mMsk 20) 22 = some [true, true, true, true] := by decide +kernel
theorem i20_23 : decode (mCd 20) 23 = .ok (.getfield 116, 3) ∧ lk (mMsk 20) 23 = none := by decide +kernel
theorem g20_116 : fOk 20 116 7 2 = true := by decide +kernel
theorem i20_26 : decode (mCd 20) 26 = .ok (.aload_n 0, 1) ∧ lk (mMsk 20) 26 = none := by decide +kernel
theorem i20_27 : decode (mCd 20) 27 = .ok (.getfield 9, 3) ∧ lk (mMsk 20) 27 = none := by decide +kernel
theorem g20_9 : fOk 20 9 1 2 = true := by decide +kernel
theorem i20_30 : decode (mCd 20) 30 = .ok (.iload_n 2, 1) ∧ lk (mMsk 20) 30 = none := by decide +kernel
theorem i20_31 : decode (mCd 20) 31 = .ok (.iaload, 1) ∧ lk (mMsk 20) 31 = none := by decide +kernel
theorem i20_32 : decode (mCd 20) 32 = .ok (.if_icmp .ne 9, 3) ∧ lk (mMsk 20) 32 = none := by decide +kernel
theorem i20_35 : decode (mCd 20) 35 = .ok (.iload_n 1, 1) ∧ lk (mMsk 20) 35 = none := by decide +kernel
theorem i20_36 : decode (mCd 20) 36 = .ok (.iconst 1, 1) ∧ lk (mMsk 20) 36 = none := by decide +kernel
theorem i20_37 : decode (mCd 20) 37 = .ok (.iload_n 2, 1) ∧ lk (mMsk 20) 37 = none := by decide +kernel
theorem i20_38 : decode (mCd 20) 38 = .ok (.ishl, 1) ∧ lk (mMsk 20) 38 = none := by decide +kernel
theorem i20_39 : decode (mCd 20) 39 = .ok (.ior, 1) ∧ lk (mMsk 20) 39 = none := by decide +kernel
theorem i20_40 : decode (mCd 20) 40 = .ok (.istore_n 1, 1) ∧ lk (mMsk 20) 40 = none := by decide +kernel
theorem i20_44 : decode (mCd 20) 44 = .ok (.goto (-40), 3) ∧ lk (mMsk 20) 44 = none := by decide +kernel
theorem f_Morning_begin_eq {x1 : Int32}  {S : Mem} : f_Morning_begin x1 S = k_Morning_begin_2 x1 0 S := by
  show cU (mV oS X0 10 0 [some (.ref 40), some (.int x1), none, none, none] [] S) = _
  refine V_iconst (c := cU) i10_0.1 (mM_n i10_0.2) (v := 0) rfl ?_
  refine V_istore_n (c := cU) i10_1.1 (mM_n i10_1.2) (l1 := [some (.ref 40), some (.int x1), some (.int 0), none, none])  (Nat.le_of_ble_eq_true rfl) rfl ?_
  exact V_msk (l1 := [some (.ref 40), some (.int x1), some (.int 0), none, none]) i10_2.2 rfl rfl
theorem k_Morning_begin_2_eq {x1 : Int32} {x2 : Int32}  {S : Mem} : k_Morning_begin_2 x1 x2 S = if 5 ≤ x2 then some S else bA (f_Town_at 14 x2 S) (fun r8 S7 => oc r8 (k_Morning_begin_25 x1 x2 x2 S7) (fun w9 => k_Morning_begin_29 x1 x2 w9 x2 S7)) := by
  show cU (mV oS X0 10 2 [some (.ref 40), some (.int x1), some (.int x2), none, none] [] S) = _
  refine V_iload_n (c := cU) i10_2.1 (mM_s i10_2.2 rfl) rfl ?_
  refine V_iconst (c := cU) i10_3.1 (mM_n i10_3.2) (v := 5) rfl ?_
  refine V_icmp_ge (c := cU) i10_4.1 (mM_n i10_4.2) rfl (fun _ => ?_) (fun _ => ?_)
  · exact V_vret i10_130.1 (mM_n i10_130.2) rfl
  · refine V_aload_n (c := cU) i10_7.1 (mM_n i10_7.2) rfl rfl ?_
    refine V_gf (c := cU) i10_8.1 (mM_n i10_8.2) (v := .ref 14) g10_46 rfl ?_
    refine V_iload_n (c := cU) i10_11.1 (mM_n i10_11.2) rfl ?_
    refine V_cvA (c := cU) (As := [.int x2]) (rest := []) i10_12.1 (mM_n i10_12.2) c10_50 rfl (cl_sh (isT_o isT_14)) rfl rfl (Nat.le_of_ble_eq_true rfl) rfl (fun r8 S7 => ?_)
    refine V_astore_n (c := cU) i10_15.1 (mM_n i10_15.2) (l1 := [some (.ref 40), some (.int x1), some (.int x2), some (va_rf r8), none])  (isA_rf _) (Nat.le_of_ble_eq_true rfl) rfl ?_
    refine V_aload_n (c := cU) i10_16.1 (mM_n i10_16.2) rfl rfl ?_
    refine V_gf (c := cU) i10_17.1 (mM_n i10_17.2) (v := .ref 41) g10_9 rfl ?_
    refine V_iload_n (c := cU) i10_20.1 (mM_n i10_20.2) rfl ?_
    refine V_aload_n (c := cU) i10_21.1 (mM_n i10_21.2) rfl (isA_rf _) ?_
    cases r8 with
    | none =>
      refine V_ifnonnullN (c := cU) i10_22.1 (mM_n i10_22.2) rfl ?_
      exact V_msk (l1 := [some (.ref 40), some (.int x1), some (.int x2), some (.null), none]) i10_25.2 rfl rfl
    | some w9 =>
      refine V_ifnonnullR (c := cU) i10_22.1 (mM_n i10_22.2) rfl ?_
      exact V_msk (l1 := [some (.ref 40), some (.int x1), some (.int x2), some (.ref w9), none]) i10_29.2 rfl rfl
theorem k_Morning_begin_25_eq {x1 : Int32} {x2 : Int32} {xs0 : Int32}  {S : Mem} : k_Morning_begin_25 x1 x2 xs0 S = k_Morning_begin_33 x1 x2 none 0 xs0 S := by
  show cU (mV oS X0 10 25 [some (.ref 40), some (.int x1), some (.int x2), some (.null), none] [.int xs0, .ref 41] S) = _
  refine V_iconst (c := cU) i10_25.1 (mM_s i10_25.2 rfl) (v := 0) rfl ?_
  refine V_goto (c := cU) i10_26.1 (mM_n i10_26.2) rfl ?_
  exact V_msk (l1 := [some (.ref 40), some (.int x1), some (.int x2), some (.null), none]) i10_33.2 rfl rfl
theorem k_Morning_begin_29_eq {x1 : Int32} {x2 : Int32} {w3 : Nat} {xs0 : Int32} (h_w3 : isW w3) {S : Mem} : k_Morning_begin_29 x1 x2 w3 xs0 S = k_Morning_begin_33 x1 x2 (some w3) (S.1 w3 1) xs0 S := by
  show cU (mV oS X0 10 29 [some (.ref 40), some (.int x1), some (.int x2), some (.ref w3), none] [.int xs0, .ref 41] S) = _
  refine V_aload_n (c := cU) i10_29.1 (mM_s i10_29.2 rfl) rfl rfl ?_
  refine V_gf (c := cU) i10_30.1 (mM_n i10_30.2) (v := .int (S.1 w3 1)) g10_56 (gf_i (isW_o h_w3) rfl) ?_
  exact V_msk (l1 := [some (.ref 40), some (.int x1), some (.int x2), some (.ref w3), none]) i10_33.2 rfl rfl
theorem k_Morning_begin_33_eq {x1 : Int32} {x2 : Int32} {o3 : Option Nat} {xs0 : Int32} {xs1 : Int32}  {S : Mem} : k_Morning_begin_33 x1 x2 o3 xs0 xs1 S = if inb xs1 5 = true then oc o3 (k_Morning_begin_43 x1 x2 x2 (u1 S 41 xs1.toNatClampNeg xs0)) (fun w10 => k_Morning_begin_47 x1 x2 w10 x2 (u1 S 41 xs1.toNatClampNeg xs0)) else none := by
  show cU (mV oS X0 10 33 [some (.ref 40), some (.int x1), some (.int x2), some (va_rf o3), none] [.int xs0, .int xs1, .ref 41] S) = _
  refine V_iastore (c := cU) (x1 := xs0) i10_33.1 (mM_s i10_33.2 rfl) rfl rfl rfl rfl (fun _ => ?_)
  refine V_aload_n (c := cU) i10_34.1 (mM_n i10_34.2) rfl rfl ?_
  refine V_gf (c := cU) i10_35.1 (mM_n i10_35.2) (v := .ref 42) g10_15 rfl ?_
  refine V_iload_n (c := cU) i10_38.1 (mM_n i10_38.2) rfl ?_
  refine V_aload_n (c := cU) i10_39.1 (mM_n i10_39.2) rfl (isA_rf _) ?_
  cases o3 with
  | none =>
    refine V_ifnonnullN (c := cU) i10_40.1 (mM_n i10_40.2) rfl ?_
    exact V_msk (l1 := [some (.ref 40), some (.int x1), some (.int x2), none, none]) i10_43.2 rfl rfl
  | some w10 =>
    refine V_ifnonnullR (c := cU) i10_40.1 (mM_n i10_40.2) rfl ?_
    exact V_msk (l1 := [some (.ref 40), some (.int x1), some (.int x2), some (.ref w10), none]) i10_47.2 rfl rfl
theorem k_Morning_begin_43_eq {x1 : Int32} {x2 : Int32} {xs0 : Int32}  {S : Mem} : k_Morning_begin_43 x1 x2 xs0 S = k_Morning_begin_51 x1 x2 0 xs0 S := by
  show cU (mV oS X0 10 43 [some (.ref 40), some (.int x1), some (.int x2), none, none] [.int xs0, .ref 42] S) = _
  refine V_iconst (c := cU) i10_43.1 (mM_s i10_43.2 rfl) (v := 0) rfl ?_
  refine V_goto (c := cU) i10_44.1 (mM_n i10_44.2) rfl ?_
  exact V_msk (l1 := [some (.ref 40), some (.int x1), some (.int x2), none, none]) i10_51.2 rfl rfl
theorem k_Morning_begin_47_eq {x1 : Int32} {x2 : Int32} {w3 : Nat} {xs0 : Int32} (h_w3 : isW w3) {S : Mem} : k_Morning_begin_47 x1 x2 w3 xs0 S = k_Morning_begin_51 x1 x2 (S.1 w3 6) xs0 S := by
  show cU (mV oS X0 10 47 [some (.ref 40), some (.int x1), some (.int x2), some (.ref w3), none] [.int xs0, .ref 42] S) = _
  refine V_aload_n (c := cU) i10_47.1 (mM_s i10_47.2 rfl) rfl rfl ?_
  refine V_gf (c := cU) i10_48.1 (mM_n i10_48.2) (v := .int (S.1 w3 6)) g10_60 (gf_i (isW_o h_w3) rfl) ?_
  exact V_msk (l1 := [some (.ref 40), some (.int x1), some (.int x2), none, none]) i10_51.2 rfl rfl
theorem k_Morning_begin_51_eq {x1 : Int32} {x2 : Int32} {xs0 : Int32} {xs1 : Int32}  {S : Mem} : k_Morning_begin_51 x1 x2 xs0 xs1 S = if inb xs1 5 = true then if ((x1 >>> (x2 &&& 31)) &&& 1) = 1 then k_Morning_begin_71 x1 x2 (-1) x2 (u1 S 42 xs1.toNatClampNeg xs0) else k_Morning_begin_71 x1 x2 x1 x2 (u1 S 42 xs1.toNatClampNeg xs0) else none := by
  show cU (mV oS X0 10 51 [some (.ref 40), some (.int x1), some (.int x2), none, none] [.int xs0, .int xs1, .ref 42] S) = _
  refine V_iastore (c := cU) (x1 := xs0) i10_51.1 (mM_s i10_51.2 rfl) rfl rfl rfl rfl (fun _ => ?_)
  refine V_aload_n (c := cU) i10_52.1 (mM_n i10_52.2) rfl rfl ?_
  refine V_gf (c := cU) i10_53.1 (mM_n i10_53.2) (v := .ref 45) g10_25 rfl ?_
  refine V_iload_n (c := cU) i10_56.1 (mM_n i10_56.2) rfl ?_
  refine V_iload_n (c := cU) i10_57.1 (mM_n i10_57.2) rfl ?_
  refine V_iload_n (c := cU) i10_58.1 (mM_n i10_58.2) rfl ?_
  refine V_ishr (c := cU) i10_59.1 (mM_n i10_59.2)  ?_
  refine V_iconst (c := cU) i10_60.1 (mM_n i10_60.2) (v := 1) rfl ?_
  refine V_iand (c := cU) i10_61.1 (mM_n i10_61.2)  ?_
  refine V_iconst (c := cU) i10_62.1 (mM_n i10_62.2) (v := 1) rfl ?_
  refine V_icmp_ne (c := cU) i10_63.1 (mM_n i10_63.2) rfl (fun _ => ?_) (fun _ => ?_)
  · refine V_iconst (c := cU) i10_66.1 (mM_n i10_66.2) (v := (-1)) rfl ?_
    refine V_goto (c := cU) i10_67.1 (mM_n i10_67.2) rfl ?_
    exact V_msk (l1 := [some (.ref 40), some (.int x1), some (.int x2), none, none]) i10_71.2 rfl rfl
  · refine V_iload_n (c := cU) i10_70.1 (mM_n i10_70.2) rfl ?_
    exact V_msk (l1 := [some (.ref 40), some (.int x1), some (.int x2), none, none]) i10_71.2 rfl rfl
theorem k_Morning_begin_71_eq {x1 : Int32} {x2 : Int32} {xs0 : Int32} {xs1 : Int32}  {S : Mem} : k_Morning_begin_71 x1 x2 xs0 xs1 S = if inb xs1 5 = true then if inb x2 5 = true then k_Morning_begin_82 x1 x2 0 (u1 (u1 S 45 xs1.toNatClampNeg xs0) 46 x2.toNatClampNeg 0) else none else none := by
  show cU (mV oS X0 10 71 [some (.ref 40), some (.int x1), some (.int x2), none, none] [.int xs0, .int xs1, .ref 45] S) = _
  refine V_iastore (c := cU) (x1 := xs0) i10_71.1 (mM_s i10_71.2 rfl) rfl rfl rfl rfl (fun _ => ?_)
  refine V_aload_n (c := cU) i10_72.1 (mM_n i10_72.2) rfl rfl ?_
  refine V_gf (c := cU) i10_73.1 (mM_n i10_73.2) (v := .ref 46) g10_28 rfl ?_
  refine V_iload_n (c := cU) i10_76.1 (mM_n i10_76.2) rfl ?_
  refine V_iconst (c := cU) i10_77.1 (mM_n i10_77.2) (v := 0) rfl ?_
  refine V_iastore (c := cU) (x1 := 0) i10_78.1 (mM_n i10_78.2) rfl rfl rfl rfl (fun _ => ?_)
  refine V_iconst (c := cU) i10_79.1 (mM_n i10_79.2) (v := 0) rfl ?_
  refine V_istore (c := cU) i10_80.1 (mM_n i10_80.2) (l1 := [some (.ref 40), some (.int x1), some (.int x2), none, some (.int 0)])  (Nat.le_of_ble_eq_true rfl) rfl ?_
  exact V_msk (l1 := [some (.ref 40), some (.int x1), some (.int x2), none, some (.int 0)]) i10_82.2 rfl rfl
theorem k_Morning_begin_82_eq {x1 : Int32} {x2 : Int32} {x4 : Int32}  {S : Mem} : k_Morning_begin_82 x1 x2 x4 S = if 5 ≤ x4 then k_Morning_begin_2 x1 (x2 + 1) S else bI (f_Town_mayPass 14 x2 x4 S) (fun r12 S11 => if r12 = 0 then k_Morning_begin_118 x1 x2 x4 S11 else if inb x2 5 = true then if inb x2 5 = true then k_Morning_begin_118 x1 x2 x4 (u1 S11 45 x2.toNatClampNeg ((S11.1 45 (x2.toNatClampNeg)) ||| ((1 : Int32) <<< (x4 &&& 31)))) else none else none) := by
  show cU (mV oS X0 10 82 [some (.ref 40), some (.int x1), some (.int x2), none, some (.int x4)] [] S) = _
  refine V_iload (c := cU) i10_82.1 (mM_s i10_82.2 rfl) rfl ?_
  refine V_iconst (c := cU) i10_84.1 (mM_n i10_84.2) (v := 5) rfl ?_
  refine V_icmp_ge (c := cU) i10_85.1 (mM_n i10_85.2) rfl (fun _ => ?_) (fun _ => ?_)
  · refine V_iinc (c := cU) i10_124.1 (mM_n i10_124.2) (l1 := [some (.ref 40), some (.int x1), some (.int (x2 + 1)), none, some (.int x4)]) rfl rfl rfl ?_
    refine V_goto (c := cU) i10_127.1 (mM_n i10_127.2) rfl ?_
    exact V_msk (l1 := [some (.ref 40), some (.int x1), some (.int (x2 + 1)), none, none]) i10_2.2 rfl rfl
  · refine V_aload_n (c := cU) i10_88.1 (mM_n i10_88.2) rfl rfl ?_
    refine V_gf (c := cU) i10_89.1 (mM_n i10_89.2) (v := .ref 14) g10_46 rfl ?_
    refine V_aload_n (c := cU) i10_92.1 (mM_n i10_92.2) rfl rfl ?_
    refine V_gf (c := cU) i10_93.1 (mM_n i10_93.2) (v := .ref 7) g10_42 rfl ?_
    refine V_iload_n (c := cU) i10_96.1 (mM_n i10_96.2) rfl ?_
    refine V_iload (c := cU) i10_97.1 (mM_n i10_97.2) rfl ?_
    refine V_cvI (c := cU) (As := [.ref 7, .int x2, .int x4]) (rest := []) i10_99.1 (mM_n i10_99.2) c10_63 rfl (cl_sh (isT_o isT_14)) rfl rfl (Nat.le_of_ble_eq_true rfl) rfl (fun r12 S11 => ?_)
    refine V_if_eq (c := cU) i10_102.1 (mM_n i10_102.2) rfl (fun _ => ?_) (fun _ => ?_)
    · exact V_msk (l1 := [some (.ref 40), some (.int x1), some (.int x2), none, some (.int x4)]) i10_118.2 rfl rfl
    · refine V_aload_n (c := cU) i10_105.1 (mM_n i10_105.2) rfl rfl ?_
      refine V_gf (c := cU) i10_106.1 (mM_n i10_106.2) (v := .ref 45) g10_25 rfl ?_
      refine V_iload_n (c := cU) i10_109.1 (mM_n i10_109.2) rfl ?_
      refine V_dup2 (c := cU) i10_110.1 (mM_n i10_110.2) rfl rfl ?_
      refine V_iaload (c := cU) i10_111.1 (mM_n i10_111.2) rfl rfl (fun _ => ?_)
      refine V_iconst (c := cU) i10_112.1 (mM_n i10_112.2) (v := 1) rfl ?_
      refine V_iload (c := cU) i10_113.1 (mM_n i10_113.2) rfl ?_
      refine V_ishl (c := cU) i10_115.1 (mM_n i10_115.2)  ?_
      refine V_ior (c := cU) i10_116.1 (mM_n i10_116.2)  ?_
      refine V_iastore (c := cU) (x1 := ((S11.1 45 (x2.toNatClampNeg)) ||| ((1 : Int32) <<< (x4 &&& 31)))) i10_117.1 (mM_n i10_117.2) rfl rfl rfl rfl (fun _ => ?_)
      exact V_msk (l1 := [some (.ref 40), some (.int x1), some (.int x2), none, some (.int x4)]) i10_118.2 rfl rfl
theorem k_Morning_begin_118_eq {x1 : Int32} {x2 : Int32} {x4 : Int32}  {S : Mem} : k_Morning_begin_118 x1 x2 x4 S = k_Morning_begin_82 x1 x2 (x4 + 1) S := by
  show cU (mV oS X0 10 118 [some (.ref 40), some (.int x1), some (.int x2), none, some (.int x4)] [] S) = _
  refine V_iinc (c := cU) i10_118.1 (mM_s i10_118.2 rfl) (l1 := [some (.ref 40), some (.int x1), some (.int x2), none, some (.int (x4 + 1))]) rfl rfl rfl ?_
  refine V_goto (c := cU) i10_121.1 (mM_n i10_121.2) rfl ?_
  exact V_msk (l1 := [some (.ref 40), some (.int x1), some (.int x2), none, some (.int (x4 + 1))]) i10_82.2 rfl rfl
theorem f_Morning_isOver_eq   {S : Mem} : f_Morning_isOver  S = k_Morning_isOver_2 0 S := by
  show cI (mV oS X0 11 0 [some (.ref 40), none, none] [] S) = _
  refine V_iconst (c := cI) i11_0.1 (mM_n i11_0.2) (v := 0) rfl ?_
  refine V_istore_n (c := cI) i11_1.1 (mM_n i11_1.2) (l1 := [some (.ref 40), some (.int 0), none])  (Nat.le_of_ble_eq_true rfl) rfl ?_
  exact V_msk (l1 := [some (.ref 40), some (.int 0), none]) i11_2.2 rfl rfl
theorem k_Morning_isOver_2_eq {x1 : Int32}  {S : Mem} : k_Morning_isOver_2 x1 S = if 5 ≤ x1 then some (1, S) else bA (f_Town_at 14 x1 S) (fun r5 S4 => oc r5 (k_Morning_isOver_35 x1 S4) (fun w6 => k_Morning_isOver_20 x1 w6 S4)) := by
  show cI (mV oS X0 11 2 [some (.ref 40), some (.int x1), none] [] S) = _
  refine V_iload_n (c := cI) i11_2.1 (mM_s i11_2.2 rfl) rfl ?_
  refine V_iconst (c := cI) i11_3.1 (mM_n i11_3.2) (v := 5) rfl ?_
  refine V_icmp_ge (c := cI) i11_4.1 (mM_n i11_4.2) rfl (fun _ => ?_) (fun _ => ?_)
  · refine V_iconst (c := cI) i11_41.1 (mM_n i11_41.2) (v := 1) rfl ?_
    exact V_iret i11_42.1 (mM_n i11_42.2) rfl
  · refine V_aload_n (c := cI) i11_7.1 (mM_n i11_7.2) rfl rfl ?_
    refine V_gf (c := cI) i11_8.1 (mM_n i11_8.2) (v := .ref 14) g11_46 rfl ?_
    refine V_iload_n (c := cI) i11_11.1 (mM_n i11_11.2) rfl ?_
    refine V_cvA (c := cI) (As := [.int x1]) (rest := []) i11_12.1 (mM_n i11_12.2) c11_50 rfl (cl_sh (isT_o isT_14)) rfl rfl (Nat.le_of_ble_eq_true rfl) rfl (fun r5 S4 => ?_)
    refine V_astore_n (c := cI) i11_15.1 (mM_n i11_15.2) (l1 := [some (.ref 40), some (.int x1), some (va_rf r5)])  (isA_rf _) (Nat.le_of_ble_eq_true rfl) rfl ?_
    refine V_aload_n (c := cI) i11_16.1 (mM_n i11_16.2) rfl (isA_rf _) ?_
    cases r5 with
    | none =>
      refine V_ifnullN (c := cI) i11_17.1 (mM_n i11_17.2) rfl ?_
      exact V_msk (l1 := [some (.ref 40), some (.int x1), none]) i11_35.2 rfl rfl
    | some w6 =>
      refine V_ifnullR (c := cI) i11_17.1 (mM_n i11_17.2) rfl ?_
      exact V_msk (l1 := [some (.ref 40), some (.int x1), some (.ref w6)]) i11_20.2 rfl rfl
theorem k_Morning_isOver_20_eq {x1 : Int32} {w2 : Nat} (h_w2 : isW w2) {S : Mem} : k_Morning_isOver_20 x1 w2 S = if inb x1 5 = true then if (S.1 w2 5) ≤ (S.1 42 (x1.toNatClampNeg)) then k_Morning_isOver_35 x1 S else some (0, S) else none := by
  show cI (mV oS X0 11 20 [some (.ref 40), some (.int x1), some (.ref w2)] [] S) = _
  refine V_aload_n (c := cI) i11_20.1 (mM_s i11_20.2 rfl) rfl rfl ?_
  refine V_gf (c := cI) i11_21.1 (mM_n i11_21.2) (v := .ref 42) g11_15 rfl ?_
  refine V_iload_n (c := cI) i11_24.1 (mM_n i11_24.2) rfl ?_
  refine V_iaload (c := cI) i11_25.1 (mM_n i11_25.2) rfl rfl (fun _ => ?_)
  refine V_aload_n (c := cI) i11_26.1 (mM_n i11_26.2) rfl rfl ?_
  refine V_gf (c := cI) i11_27.1 (mM_n i11_27.2) (v := .int (S.1 w2 5)) g11_67 (gf_i (isW_o h_w2) rfl) ?_
  refine V_icmp_ge (c := cI) i11_30.1 (mM_n i11_30.2) rfl (fun _ => ?_) (fun _ => ?_)
  · exact V_msk (l1 := [some (.ref 40), some (.int x1), none]) i11_35.2 rfl rfl
  · refine V_iconst (c := cI) i11_33.1 (mM_n i11_33.2) (v := 0) rfl ?_
    exact V_iret i11_34.1 (mM_n i11_34.2) rfl
theorem k_Morning_isOver_35_eq {x1 : Int32}  {S : Mem} : k_Morning_isOver_35 x1 S = k_Morning_isOver_2 (x1 + 1) S := by
  show cI (mV oS X0 11 35 [some (.ref 40), some (.int x1), none] [] S) = _
  refine V_iinc (c := cI) i11_35.1 (mM_s i11_35.2 rfl) (l1 := [some (.ref 40), some (.int (x1 + 1)), none]) rfl rfl rfl ?_
  refine V_goto (c := cI) i11_38.1 (mM_n i11_38.2) rfl ?_
  exact V_msk (l1 := [some (.ref 40), some (.int (x1 + 1)), none]) i11_2.2 rfl rfl
theorem f_Morning_goAll_eq   {S : Mem} : f_Morning_goAll  S = k_Morning_goAll_4 0 0 S := by
  show cI (mV oS X0 12 0 [some (.ref 40), none, none] [] S) = _
  refine V_iconst (c := cI) i12_0.1 (mM_n i12_0.2) (v := 0) rfl ?_
  refine V_istore_n (c := cI) i12_1.1 (mM_n i12_1.2) (l1 := [some (.ref 40), some (.int 0), none])  (Nat.le_of_ble_eq_true rfl) rfl ?_
  refine V_iconst (c := cI) i12_2.1 (mM_n i12_2.2) (v := 0) rfl ?_
  refine V_istore_n (c := cI) i12_3.1 (mM_n i12_3.2) (l1 := [some (.ref 40), some (.int 0), some (.int 0)])  (Nat.le_of_ble_eq_true rfl) rfl ?_
  exact V_msk (l1 := [some (.ref 40), some (.int 0), some (.int 0)]) i12_4.2 rfl rfl
theorem k_Morning_goAll_4_eq {x1 : Int32} {x2 : Int32}  {S : Mem} : k_Morning_goAll_4 x1 x2 S = if 60 ≤ x2 then k_Morning_goAll_30 x1 S else bI (f_Morning_isOver S) (fun r6 S5 => if r6 = 0 then bI (f_Morning_goOn S5) (fun r8 S7 => k_Morning_goAll_4 (x1 + r8) (x2 + 1) S7) else k_Morning_goAll_30 x1 S5) := by
  show cI (mV oS X0 12 4 [some (.ref 40), some (.int x1), some (.int x2)] [] S) = _
  refine V_iload_n (c := cI) i12_4.1 (mM_s i12_4.2 rfl) rfl ?_
  refine V_bipush (c := cI) i12_5.1 (mM_n i12_5.2) (v := 60) rfl ?_
  refine V_icmp_ge (c := cI) i12_7.1 (mM_n i12_7.2) rfl (fun _ => ?_) (fun _ => ?_)
  · exact V_msk (l1 := [none, some (.int x1), none]) i12_30.2 rfl rfl
  · refine V_aload_n (c := cI) i12_10.1 (mM_n i12_10.2) rfl rfl ?_
    refine V_cvI (c := cI) (As := []) (rest := []) i12_11.1 (mM_n i12_11.2) c12_70 rfl rfl rfl rfl (Nat.le_of_ble_eq_true rfl) rfl (fun r6 S5 => ?_)
    refine V_if_ne (c := cI) i12_14.1 (mM_n i12_14.2) rfl (fun _ => ?_) (fun _ => ?_)
    · refine V_iload_n (c := cI) i12_17.1 (mM_n i12_17.2) rfl ?_
      refine V_aload_n (c := cI) i12_18.1 (mM_n i12_18.2) rfl rfl ?_
      refine V_cvI (c := cI) (As := []) (rest := [.int x1]) i12_19.1 (mM_n i12_19.2) c12_74 rfl rfl rfl rfl (Nat.le_of_ble_eq_true rfl) rfl (fun r8 S7 => ?_)
      refine V_iadd (c := cI) i12_22.1 (mM_n i12_22.2)  ?_
      refine V_istore_n (c := cI) i12_23.1 (mM_n i12_23.2) (l1 := [some (.ref 40), some (.int (x1 + r8)), some (.int x2)])  (Nat.le_of_ble_eq_true rfl) rfl ?_
      refine V_iinc (c := cI) i12_24.1 (mM_n i12_24.2) (l1 := [some (.ref 40), some (.int (x1 + r8)), some (.int (x2 + 1))]) rfl rfl rfl ?_
      refine V_goto (c := cI) i12_27.1 (mM_n i12_27.2) rfl ?_
      exact V_msk (l1 := [some (.ref 40), some (.int (x1 + r8)), some (.int (x2 + 1))]) i12_4.2 rfl rfl
    · exact V_msk (l1 := [none, some (.int x1), none]) i12_30.2 rfl rfl
theorem k_Morning_goAll_30_eq {x1 : Int32}  {S : Mem} : k_Morning_goAll_30 x1 S = some (x1, S) := by
  show cI (mV oS X0 12 30 [none, some (.int x1), none] [] S) = _
  refine V_iload_n (c := cI) i12_30.1 (mM_s i12_30.2 rfl) rfl ?_
  exact V_iret i12_31.1 (mM_n i12_31.2) rfl
theorem f_Morning_goOn_eq   {S : Mem} : f_Morning_goOn  S = k_Morning_goOn_2 0 S := by
  show cI (mV oS X0 13 0 [some (.ref 40), none, none, none] [] S) = _
  refine V_iconst (c := cI) i13_0.1 (mM_n i13_0.2) (v := 0) rfl ?_
  refine V_istore_n (c := cI) i13_1.1 (mM_n i13_1.2) (l1 := [some (.ref 40), some (.int 0), none, none])  (Nat.le_of_ble_eq_true rfl) rfl ?_
  exact V_msk (l1 := [some (.ref 40), some (.int 0), none, none]) i13_2.2 rfl rfl
theorem k_Morning_goOn_2_eq {x1 : Int32}  {S : Mem} : k_Morning_goOn_2 x1 S = if 5 ≤ x1 then bI (f_Morning_meet S) (fun r13 S12 => k_Morning_goOn_69 r13 0 S12) else bA (f_Town_at 14 x1 S) (fun r15 S14 => oc r15 (k_Morning_goOn_20 x1 S14) (fun w16 => k_Morning_goOn_24 x1 w16 S14)) := by
  show cI (mV oS X0 13 2 [some (.ref 40), some (.int x1), none, none] [] S) = _
  refine V_iload_n (c := cI) i13_2.1 (mM_s i13_2.2 rfl) rfl ?_
  refine V_iconst (c := cI) i13_3.1 (mM_n i13_3.2) (v := 5) rfl ?_
  refine V_icmp_ge (c := cI) i13_4.1 (mM_n i13_4.2) rfl (fun _ => ?_) (fun _ => ?_)
  · refine V_aload_n (c := cI) i13_62.1 (mM_n i13_62.2) rfl rfl ?_
    refine V_cvI (c := cI) (As := []) (rest := []) i13_63.1 (mM_n i13_63.2) c13_82 rfl rfl rfl rfl (Nat.le_of_ble_eq_true rfl) rfl (fun r13 S12 => ?_)
    refine V_istore_n (c := cI) i13_66.1 (mM_n i13_66.2) (l1 := [some (.ref 40), some (.int r13), none, none])  (Nat.le_of_ble_eq_true rfl) rfl ?_
    refine V_iconst (c := cI) i13_67.1 (mM_n i13_67.2) (v := 0) rfl ?_
    refine V_istore_n (c := cI) i13_68.1 (mM_n i13_68.2) (l1 := [some (.ref 40), some (.int r13), some (.int 0), none])  (Nat.le_of_ble_eq_true rfl) rfl ?_
    exact V_msk (l1 := [some (.ref 40), some (.int r13), some (.int 0), none]) i13_69.2 rfl rfl
  · refine V_aload_n (c := cI) i13_7.1 (mM_n i13_7.2) rfl rfl ?_
    refine V_gf (c := cI) i13_8.1 (mM_n i13_8.2) (v := .ref 14) g13_46 rfl ?_
    refine V_iload_n (c := cI) i13_11.1 (mM_n i13_11.2) rfl ?_
    refine V_cvA (c := cI) (As := [.int x1]) (rest := []) i13_12.1 (mM_n i13_12.2) c13_50 rfl (cl_sh (isT_o isT_14)) rfl rfl (Nat.le_of_ble_eq_true rfl) rfl (fun r15 S14 => ?_)
    refine V_astore_n (c := cI) i13_15.1 (mM_n i13_15.2) (l1 := [some (.ref 40), some (.int x1), some (va_rf r15), none])  (isA_rf _) (Nat.le_of_ble_eq_true rfl) rfl ?_
    refine V_aload_n (c := cI) i13_16.1 (mM_n i13_16.2) rfl (isA_rf _) ?_
    cases r15 with
    | none =>
      refine V_ifnonnullN (c := cI) i13_17.1 (mM_n i13_17.2) rfl ?_
      exact V_msk (l1 := [some (.ref 40), some (.int x1), none, none]) i13_20.2 rfl rfl
    | some w16 =>
      refine V_ifnonnullR (c := cI) i13_17.1 (mM_n i13_17.2) rfl ?_
      exact V_msk (l1 := [some (.ref 40), some (.int x1), some (.ref w16), none]) i13_24.2 rfl rfl
theorem k_Morning_goOn_20_eq {x1 : Int32}  {S : Mem} : k_Morning_goOn_20 x1 S = k_Morning_goOn_34 x1 (-1) S := by
  show cI (mV oS X0 13 20 [some (.ref 40), some (.int x1), none, none] [] S) = _
  refine V_iconst (c := cI) i13_20.1 (mM_s i13_20.2 rfl) (v := (-1)) rfl ?_
  refine V_goto (c := cI) i13_21.1 (mM_n i13_21.2) rfl ?_
  exact V_msk (l1 := [some (.ref 40), some (.int x1), none, none]) i13_34.2 rfl rfl
theorem k_Morning_goOn_24_eq {x1 : Int32} {w2 : Nat} (h_w2 : isW w2) {S : Mem} : k_Morning_goOn_24 x1 w2 S = if inb x1 5 = true then bI (f_Walker_cornerBehind w2 (S.1 42 (x1.toNatClampNeg)) S) (fun r18 S17 => k_Morning_goOn_34 x1 r18 S17) else none := by
  show cI (mV oS X0 13 24 [some (.ref 40), some (.int x1), some (.ref w2), none] [] S) = _
  refine V_aload_n (c := cI) i13_24.1 (mM_s i13_24.2 rfl) rfl rfl ?_
  refine V_aload_n (c := cI) i13_25.1 (mM_n i13_25.2) rfl rfl ?_
  refine V_gf (c := cI) i13_26.1 (mM_n i13_26.2) (v := .ref 42) g13_15 rfl ?_
  refine V_iload_n (c := cI) i13_29.1 (mM_n i13_29.2) rfl ?_
  refine V_iaload (c := cI) i13_30.1 (mM_n i13_30.2) rfl rfl (fun _ => ?_)
  refine V_cvI (c := cI) (As := [.int (S.1 42 (x1.toNatClampNeg))]) (rest := []) i13_31.1 (mM_n i13_31.2) c13_78 rfl (cl_sh (isW_o h_w2)) rfl rfl (Nat.le_of_ble_eq_true rfl) rfl (fun r18 S17 => ?_)
  exact V_msk (l1 := [some (.ref 40), some (.int x1), none, none]) i13_34.2 rfl rfl
theorem k_Morning_goOn_34_eq {x1 : Int32} {xs0 : Int32}  {S : Mem} : k_Morning_goOn_34 x1 xs0 S = if xs0 = (-1) then if inb x1 5 = true then k_Morning_goOn_55 x1 (S.1 41 (x1.toNatClampNeg)) x1 S else none else k_Morning_goOn_55 x1 xs0 x1 S := by
  show cI (mV oS X0 13 34 [some (.ref 40), some (.int x1), none, none] [.int xs0] S) = _
  refine V_istore_n (c := cI) i13_34.1 (mM_s i13_34.2 rfl) (l1 := [some (.ref 40), some (.int x1), none, some (.int xs0)])  (Nat.le_of_ble_eq_true rfl) rfl ?_
  refine V_aload_n (c := cI) i13_35.1 (mM_n i13_35.2) rfl rfl ?_
  refine V_gf (c := cI) i13_36.1 (mM_n i13_36.2) (v := .ref 43) g13_18 rfl ?_
  refine V_iload_n (c := cI) i13_39.1 (mM_n i13_39.2) rfl ?_
  refine V_iload_n (c := cI) i13_40.1 (mM_n i13_40.2) rfl ?_
  refine V_iconst (c := cI) i13_41.1 (mM_n i13_41.2) (v := (-1)) rfl ?_
  refine V_icmp_ne (c := cI) i13_42.1 (mM_n i13_42.2) rfl (fun _ => ?_) (fun _ => ?_)
  · refine V_aload_n (c := cI) i13_45.1 (mM_n i13_45.2) rfl rfl ?_
    refine V_gf (c := cI) i13_46.1 (mM_n i13_46.2) (v := .ref 41) g13_9 rfl ?_
    refine V_iload_n (c := cI) i13_49.1 (mM_n i13_49.2) rfl ?_
    refine V_iaload (c := cI) i13_50.1 (mM_n i13_50.2) rfl rfl (fun _ => ?_)
    refine V_goto (c := cI) i13_51.1 (mM_n i13_51.2) rfl ?_
    exact V_msk (l1 := [some (.ref 40), some (.int x1), none, none]) i13_55.2 rfl rfl
  · refine V_iload_n (c := cI) i13_54.1 (mM_n i13_54.2) rfl ?_
    exact V_msk (l1 := [some (.ref 40), some (.int x1), none, none]) i13_55.2 rfl rfl
theorem k_Morning_goOn_55_eq {x1 : Int32} {xs0 : Int32} {xs1 : Int32}  {S : Mem} : k_Morning_goOn_55 x1 xs0 xs1 S = if inb xs1 5 = true then k_Morning_goOn_2 (x1 + 1) (u1 S 43 xs1.toNatClampNeg xs0) else none := by
  show cI (mV oS X0 13 55 [some (.ref 40), some (.int x1), none, none] [.int xs0, .int xs1, .ref 43] S) = _
  refine V_iastore (c := cI) (x1 := xs0) i13_55.1 (mM_s i13_55.2 rfl) rfl rfl rfl rfl (fun _ => ?_)
  refine V_iinc (c := cI) i13_56.1 (mM_n i13_56.2) (l1 := [some (.ref 40), some (.int (x1 + 1)), none, none]) rfl rfl rfl ?_
  refine V_goto (c := cI) i13_59.1 (mM_n i13_59.2) rfl ?_
  exact V_msk (l1 := [some (.ref 40), some (.int (x1 + 1)), none, none]) i13_2.2 rfl rfl
theorem k_Morning_goOn_69_eq {x1 : Int32} {x2 : Int32}  {S : Mem} : k_Morning_goOn_69 x1 x2 S = if 5 ≤ x2 then bU (f_Morning_settle S) (fun S19 => some (x1, S19)) else bA (f_Town_at 14 x2 S) (fun r21 S20 => oc r21 (k_Morning_goOn_119 x1 x2 S20) (fun w22 => k_Morning_goOn_87 x1 x2 w22 S20)) := by
  show cI (mV oS X0 13 69 [some (.ref 40), some (.int x1), some (.int x2), none] [] S) = _
  refine V_iload_n (c := cI) i13_69.1 (mM_s i13_69.2 rfl) rfl ?_
  refine V_iconst (c := cI) i13_70.1 (mM_n i13_70.2) (v := 5) rfl ?_
  refine V_icmp_ge (c := cI) i13_71.1 (mM_n i13_71.2) rfl (fun _ => ?_) (fun _ => ?_)
  · refine V_aload_n (c := cI) i13_125.1 (mM_n i13_125.2) rfl rfl ?_
    refine V_cvU (c := cI) (As := []) (rest := []) i13_126.1 (mM_n i13_126.2) c13_85 rfl rfl rfl rfl (Nat.le_of_ble_eq_true rfl) rfl (fun S19 => ?_)
    refine V_iload_n (c := cI) i13_129.1 (mM_n i13_129.2) rfl ?_
    exact V_iret i13_130.1 (mM_n i13_130.2) rfl
  · refine V_aload_n (c := cI) i13_74.1 (mM_n i13_74.2) rfl rfl ?_
    refine V_gf (c := cI) i13_75.1 (mM_n i13_75.2) (v := .ref 14) g13_46 rfl ?_
    refine V_iload_n (c := cI) i13_78.1 (mM_n i13_78.2) rfl ?_
    refine V_cvA (c := cI) (As := [.int x2]) (rest := []) i13_79.1 (mM_n i13_79.2) c13_50 rfl (cl_sh (isT_o isT_14)) rfl rfl (Nat.le_of_ble_eq_true rfl) rfl (fun r21 S20 => ?_)
    refine V_astore_n (c := cI) i13_82.1 (mM_n i13_82.2) (l1 := [some (.ref 40), some (.int x1), some (.int x2), some (va_rf r21)])  (isA_rf _) (Nat.le_of_ble_eq_true rfl) rfl ?_
    refine V_aload_n (c := cI) i13_83.1 (mM_n i13_83.2) rfl (isA_rf _) ?_
    cases r21 with
    | none =>
      refine V_ifnullN (c := cI) i13_84.1 (mM_n i13_84.2) rfl ?_
      exact V_msk (l1 := [some (.ref 40), some (.int x1), some (.int x2), none]) i13_119.2 rfl rfl
    | some w22 =>
      refine V_ifnullR (c := cI) i13_84.1 (mM_n i13_84.2) rfl ?_
      exact V_msk (l1 := [some (.ref 40), some (.int x1), some (.int x2), some (.ref w22)]) i13_87.2 rfl rfl
theorem k_Morning_goOn_87_eq {x1 : Int32} {x2 : Int32} {w3 : Nat} (h_w3 : isW w3) {S : Mem} : k_Morning_goOn_87 x1 x2 w3 S = if inb x2 5 = true then if (S.1 44 (x2.toNatClampNeg)) = 0 then if inb x2 5 = true then if (S.1 w3 5) ≤ (S.1 42 (x2.toNatClampNeg)) then k_Morning_goOn_119 x1 x2 S else if inb x2 5 = true then if inb x2 5 = true then k_Morning_goOn_119 x1 x2 (u1 S 42 x2.toNatClampNeg ((S.1 42 (x2.toNatClampNeg)) + 1)) else none else none else none else k_Morning_goOn_119 x1 x2 S else none := by
  show cI (mV oS X0 13 87 [some (.ref 40), some (.int x1), some (.int x2), some (.ref w3)] [] S) = _
  refine V_aload_n (c := cI) i13_87.1 (mM_s i13_87.2 rfl) rfl rfl ?_
  refine V_gf (c := cI) i13_88.1 (mM_n i13_88.2) (v := .ref 44) g13_21 rfl ?_
  refine V_iload_n (c := cI) i13_91.1 (mM_n i13_91.2) rfl ?_
  refine V_baload (c := cI) i13_92.1 (mM_n i13_92.2) rfl rfl rfl (fun _ => ?_)
  refine V_if_ne (c := cI) i13_93.1 (mM_n i13_93.2) rfl (fun _ => ?_) (fun _ => ?_)
  · refine V_aload_n (c := cI) i13_96.1 (mM_n i13_96.2) rfl rfl ?_
    refine V_gf (c := cI) i13_97.1 (mM_n i13_97.2) (v := .ref 42) g13_15 rfl ?_
    refine V_iload_n (c := cI) i13_100.1 (mM_n i13_100.2) rfl ?_
    refine V_iaload (c := cI) i13_101.1 (mM_n i13_101.2) rfl rfl (fun _ => ?_)
    refine V_aload_n (c := cI) i13_102.1 (mM_n i13_102.2) rfl rfl ?_
    refine V_gf (c := cI) i13_103.1 (mM_n i13_103.2) (v := .int (S.1 w3 5)) g13_67 (gf_i (isW_o h_w3) rfl) ?_
    refine V_icmp_ge (c := cI) i13_106.1 (mM_n i13_106.2) rfl (fun _ => ?_) (fun _ => ?_)
    · exact V_msk (l1 := [some (.ref 40), some (.int x1), some (.int x2), none]) i13_119.2 rfl rfl
    · refine V_aload_n (c := cI) i13_109.1 (mM_n i13_109.2) rfl rfl ?_
      refine V_gf (c := cI) i13_110.1 (mM_n i13_110.2) (v := .ref 42) g13_15 rfl ?_
      refine V_iload_n (c := cI) i13_113.1 (mM_n i13_113.2) rfl ?_
      refine V_dup2 (c := cI) i13_114.1 (mM_n i13_114.2) rfl rfl ?_
      refine V_iaload (c := cI) i13_115.1 (mM_n i13_115.2) rfl rfl (fun _ => ?_)
      refine V_iconst (c := cI) i13_116.1 (mM_n i13_116.2) (v := 1) rfl ?_
      refine V_iadd (c := cI) i13_117.1 (mM_n i13_117.2)  ?_
      refine V_iastore (c := cI) (x1 := ((S.1 42 (x2.toNatClampNeg)) + 1)) i13_118.1 (mM_n i13_118.2) rfl rfl rfl rfl (fun _ => ?_)
      exact V_msk (l1 := [some (.ref 40), some (.int x1), some (.int x2), none]) i13_119.2 rfl rfl
  · exact V_msk (l1 := [some (.ref 40), some (.int x1), some (.int x2), none]) i13_119.2 rfl rfl
theorem k_Morning_goOn_119_eq {x1 : Int32} {x2 : Int32}  {S : Mem} : k_Morning_goOn_119 x1 x2 S = k_Morning_goOn_69 x1 (x2 + 1) S := by
  show cI (mV oS X0 13 119 [some (.ref 40), some (.int x1), some (.int x2), none] [] S) = _
  refine V_iinc (c := cI) i13_119.1 (mM_s i13_119.2 rfl) (l1 := [some (.ref 40), some (.int x1), some (.int (x2 + 1)), none]) rfl rfl rfl ?_
  refine V_goto (c := cI) i13_122.1 (mM_n i13_122.2) rfl ?_
  exact V_msk (l1 := [some (.ref 40), some (.int x1), some (.int (x2 + 1)), none]) i13_69.2 rfl rfl
theorem f_Morning_wander_eq   {S : Mem} : f_Morning_wander  S = k_Morning_wander_2 0 S := by
  show cI (mV oS X0 14 0 [some (.ref 40), none] [] S) = _
  refine V_iconst (c := cI) i14_0.1 (mM_n i14_0.2) (v := 0) rfl ?_
  refine V_istore_n (c := cI) i14_1.1 (mM_n i14_1.2) (l1 := [some (.ref 40), some (.int 0)])  (Nat.le_of_ble_eq_true rfl) rfl ?_
  exact V_msk (l1 := [some (.ref 40), some (.int 0)]) i14_2.2 rfl rfl
theorem k_Morning_wander_2_eq {x1 : Int32}  {S : Mem} : k_Morning_wander_2 x1 S = if 5 ≤ x1 then bI (f_Morning_meet S) (fun r14 S13 => bU (f_Morning_settle S13) (fun S15 => some (r14, S15))) else if inb x1 5 = true then if inb x1 5 = true then bA (f_Town_at 14 x1 (u1 S 43 x1.toNatClampNeg (S.1 41 (x1.toNatClampNeg)))) (fun r17 S16 => oc r17 (k_Morning_wander_66 x1 S16) (fun w18 => k_Morning_wander_30 x1 S16)) else none else none := by
  show cI (mV oS X0 14 2 [some (.ref 40), some (.int x1)] [] S) = _
  refine V_iload_n (c := cI) i14_2.1 (mM_s i14_2.2 rfl) rfl ?_
  refine V_iconst (c := cI) i14_3.1 (mM_n i14_3.2) (v := 5) rfl ?_
  refine V_icmp_ge (c := cI) i14_4.1 (mM_n i14_4.2) rfl (fun _ => ?_) (fun _ => ?_)
  · refine V_aload_n (c := cI) i14_72.1 (mM_n i14_72.2) rfl rfl ?_
    refine V_cvI (c := cI) (As := []) (rest := []) i14_73.1 (mM_n i14_73.2) c14_82 rfl rfl rfl rfl (Nat.le_of_ble_eq_true rfl) rfl (fun r14 S13 => ?_)
    refine V_istore_n (c := cI) i14_76.1 (mM_n i14_76.2) (l1 := [some (.ref 40), some (.int r14)])  (Nat.le_of_ble_eq_true rfl) rfl ?_
    refine V_aload_n (c := cI) i14_77.1 (mM_n i14_77.2) rfl rfl ?_
    refine V_cvU (c := cI) (As := []) (rest := []) i14_78.1 (mM_n i14_78.2) c14_85 rfl rfl rfl rfl (Nat.le_of_ble_eq_true rfl) rfl (fun S15 => ?_)
    refine V_iload_n (c := cI) i14_81.1 (mM_n i14_81.2) rfl ?_
    exact V_iret i14_82.1 (mM_n i14_82.2) rfl
  · refine V_aload_n (c := cI) i14_7.1 (mM_n i14_7.2) rfl rfl ?_
    refine V_gf (c := cI) i14_8.1 (mM_n i14_8.2) (v := .ref 43) g14_18 rfl ?_
    refine V_iload_n (c := cI) i14_11.1 (mM_n i14_11.2) rfl ?_
    refine V_aload_n (c := cI) i14_12.1 (mM_n i14_12.2) rfl rfl ?_
    refine V_gf (c := cI) i14_13.1 (mM_n i14_13.2) (v := .ref 41) g14_9 rfl ?_
    refine V_iload_n (c := cI) i14_16.1 (mM_n i14_16.2) rfl ?_
    refine V_iaload (c := cI) i14_17.1 (mM_n i14_17.2) rfl rfl (fun _ => ?_)
    refine V_iastore (c := cI) (x1 := (S.1 41 (x1.toNatClampNeg))) i14_18.1 (mM_n i14_18.2) rfl rfl rfl rfl (fun _ => ?_)
    refine V_aload_n (c := cI) i14_19.1 (mM_n i14_19.2) rfl rfl ?_
    refine V_gf (c := cI) i14_20.1 (mM_n i14_20.2) (v := .ref 14) g14_46 rfl ?_
    refine V_iload_n (c := cI) i14_23.1 (mM_n i14_23.2) rfl ?_
    refine V_cvA (c := cI) (As := [.int x1]) (rest := []) i14_24.1 (mM_n i14_24.2) c14_50 rfl (cl_sh (isT_o isT_14)) rfl rfl (Nat.le_of_ble_eq_true rfl) rfl (fun r17 S16 => ?_)
    cases r17 with
    | none =>
      refine V_ifnullN (c := cI) i14_27.1 (mM_n i14_27.2) rfl ?_
      exact V_msk (l1 := [some (.ref 40), some (.int x1)]) i14_66.2 rfl rfl
    | some w18 =>
      refine V_ifnullR (c := cI) i14_27.1 (mM_n i14_27.2) rfl ?_
      exact V_msk (l1 := [some (.ref 40), some (.int x1)]) i14_30.2 rfl rfl
theorem k_Morning_wander_30_eq {x1 : Int32}  {S : Mem} : k_Morning_wander_30 x1 S = if inb x1 5 = true then if inb x1 5 = true then bI (f_Net_stepsFrom (S.1 41 (x1.toNatClampNeg)) S) (fun r20 S19 => bI (f_Morning_draw r20 S19) (fun r22 S21 => bI (f_Net_drawn (S.1 41 (x1.toNatClampNeg)) r22 S21) (fun r24 S23 => if inb x1 5 = true then k_Morning_wander_66 x1 (u1 S23 43 x1.toNatClampNeg r24) else none))) else none else none := by
  show cI (mV oS X0 14 30 [some (.ref 40), some (.int x1)] [] S) = _
  refine V_aload_n (c := cI) i14_30.1 (mM_s i14_30.2 rfl) rfl rfl ?_
  refine V_gf (c := cI) i14_31.1 (mM_n i14_31.2) (v := .ref 43) g14_18 rfl ?_
  refine V_iload_n (c := cI) i14_34.1 (mM_n i14_34.2) rfl ?_
  refine V_aload_n (c := cI) i14_35.1 (mM_n i14_35.2) rfl rfl ?_
  refine V_gf (c := cI) i14_36.1 (mM_n i14_36.2) (v := .ref 7) g14_42 rfl ?_
  refine V_aload_n (c := cI) i14_39.1 (mM_n i14_39.2) rfl rfl ?_
  refine V_gf (c := cI) i14_40.1 (mM_n i14_40.2) (v := .ref 41) g14_9 rfl ?_
  refine V_iload_n (c := cI) i14_43.1 (mM_n i14_43.2) rfl ?_
  refine V_iaload (c := cI) i14_44.1 (mM_n i14_44.2) rfl rfl (fun _ => ?_)
  refine V_aload_n (c := cI) i14_45.1 (mM_n i14_45.2) rfl rfl ?_
  refine V_aload_n (c := cI) i14_46.1 (mM_n i14_46.2) rfl rfl ?_
  refine V_gf (c := cI) i14_47.1 (mM_n i14_47.2) (v := .ref 7) g14_42 rfl ?_
  refine V_aload_n (c := cI) i14_50.1 (mM_n i14_50.2) rfl rfl ?_
  refine V_gf (c := cI) i14_51.1 (mM_n i14_51.2) (v := .ref 41) g14_9 rfl ?_
  refine V_iload_n (c := cI) i14_54.1 (mM_n i14_54.2) rfl ?_
  refine V_iaload (c := cI) i14_55.1 (mM_n i14_55.2) rfl rfl (fun _ => ?_)
  refine V_cvI (c := cI) (As := [.int (S.1 41 (x1.toNatClampNeg))]) (rest := [.ref 40, .int (S.1 41 (x1.toNatClampNeg)), .ref 7, .int x1, .ref 43]) i14_56.1 (mM_n i14_56.2) c14_88 rfl rfl rfl rfl (Nat.le_of_ble_eq_true rfl) rfl (fun r20 S19 => ?_)
  refine V_cvI (c := cI) (As := [.int r20]) (rest := [.int (S.1 41 (x1.toNatClampNeg)), .ref 7, .int x1, .ref 43]) i14_59.1 (mM_n i14_59.2) c14_93 rfl rfl rfl rfl (Nat.le_of_ble_eq_true rfl) rfl (fun r22 S21 => ?_)
  refine V_cvI (c := cI) (As := [.int (S.1 41 (x1.toNatClampNeg)), .int r22]) (rest := [.int x1, .ref 43]) i14_62.1 (mM_n i14_62.2) c14_96 rfl rfl rfl rfl (Nat.le_of_ble_eq_true rfl) rfl (fun r24 S23 => ?_)
  refine V_iastore (c := cI) (x1 := r24) i14_65.1 (mM_n i14_65.2) rfl rfl rfl rfl (fun _ => ?_)
  exact V_msk (l1 := [some (.ref 40), some (.int x1)]) i14_66.2 rfl rfl
theorem k_Morning_wander_66_eq {x1 : Int32}  {S : Mem} : k_Morning_wander_66 x1 S = k_Morning_wander_2 (x1 + 1) S := by
  show cI (mV oS X0 14 66 [some (.ref 40), some (.int x1)] [] S) = _
  refine V_iinc (c := cI) i14_66.1 (mM_s i14_66.2 rfl) (l1 := [some (.ref 40), some (.int (x1 + 1))]) rfl rfl rfl ?_
  refine V_goto (c := cI) i14_69.1 (mM_n i14_69.2) rfl ?_
  exact V_msk (l1 := [some (.ref 40), some (.int (x1 + 1))]) i14_2.2 rfl rfl
theorem f_Morning_draw_eq {x1 : Int32}  {S : Mem} : f_Morning_draw x1 S = if 1 ≤ x1 then if x1.toInt64 = 0 then none else k_Morning_draw_41 ((((((1103515245 * (S.2 40 10)) + 12345) &&& 2147483647) / 65536) - ((((1103515245 * (S.2 40 10)) + 12345) &&& 2147483647) / 65536) / x1.toInt64 * x1.toInt64).toInt32) (u2 S 40 10 (((1103515245 * (S.2 40 10)) + 12345) &&& 2147483647)) else k_Morning_draw_41 0 (u2 S 40 10 (((1103515245 * (S.2 40 10)) + 12345) &&& 2147483647)) := by
  show cI (mV oS X0 15 0 [some (.ref 40), some (.int x1)] [] S) = _
  refine V_aload_n (c := cI) i15_0.1 (mM_n i15_0.2) rfl rfl ?_
  refine V_ldc2_w (c := cI) i15_1.1 (mM_n i15_1.2) q15_100 ?_
  refine V_aload_n (c := cI) i15_4.1 (mM_n i15_4.2) rfl rfl ?_
  refine V_gf (c := cI) i15_5.1 (mM_n i15_5.2) (v := .long (S.2 40 10)) g15_38 rfl ?_
  refine V_lmul (c := cI) i15_8.1 (mM_n i15_8.2)  ?_
  refine V_ldc2_w (c := cI) i15_9.1 (mM_n i15_9.2) q15_102 ?_
  refine V_ladd (c := cI) i15_12.1 (mM_n i15_12.2)  ?_
  refine V_ldc2_w (c := cI) i15_13.1 (mM_n i15_13.2) q15_104 ?_
  refine V_land (c := cI) i15_16.1 (mM_n i15_16.2)  ?_
  refine V_pf (c := cI) i15_17.1 (mM_n i15_17.2) p15_38 (pf_j rfl rfl rfl) ?_
  refine V_iload_n (c := cI) i15_20.1 (mM_n i15_20.2) rfl ?_
  refine V_iconst (c := cI) i15_21.1 (mM_n i15_21.2) (v := 1) rfl ?_
  refine V_icmp_ge (c := cI) i15_22.1 (mM_n i15_22.2) rfl (fun _ => ?_) (fun _ => ?_)
  · refine V_aload_n (c := cI) i15_29.1 (mM_n i15_29.2) rfl rfl ?_
    refine V_gf (c := cI) i15_30.1 (mM_n i15_30.2) (v := .long (((1103515245 * (S.2 40 10)) + 12345) &&& 2147483647)) g15_38 rfl ?_
    refine V_ldc2_w (c := cI) i15_33.1 (mM_n i15_33.2) q15_106 ?_
    refine V_ldivL (c := cI) i15_36.1 (mM_n i15_36.2) (by decide) ?_
    refine V_iload_n (c := cI) i15_37.1 (mM_n i15_37.2) rfl ?_
    refine V_i2l (c := cI) i15_38.1 (mM_n i15_38.2)  ?_
    refine V_lrem (c := cI) i15_39.1 (mM_n i15_39.2) rfl (fun _ => ?_)
    refine V_l2i (c := cI) i15_40.1 (mM_n i15_40.2)  ?_
    exact V_msk (l1 := [none, none]) i15_41.2 rfl rfl
  · refine V_iconst (c := cI) i15_25.1 (mM_n i15_25.2) (v := 0) rfl ?_
    refine V_goto (c := cI) i15_26.1 (mM_n i15_26.2) rfl ?_
    exact V_msk (l1 := [none, none]) i15_41.2 rfl rfl
theorem k_Morning_draw_41_eq {xs0 : Int32}  {S : Mem} : k_Morning_draw_41 xs0 S = some (xs0, S) := by
  show cI (mV oS X0 15 41 [none, none] [.int xs0] S) = _
  exact V_iret i15_41.1 (mM_s i15_41.2 rfl) rfl
theorem f_Morning_meet_eq   {S : Mem} : f_Morning_meet  S = k_Morning_meet_14 0 0 (u1 (u1 S 40 8 (-1)) 40 9 (-1)) := by
  show cI (mV oS X0 16 0 [some (.ref 40), none, none, none, none] [] S) = _
  refine V_iconst (c := cI) i16_0.1 (mM_n i16_0.2) (v := 0) rfl ?_
  refine V_istore_n (c := cI) i16_1.1 (mM_n i16_1.2) (l1 := [some (.ref 40), some (.int 0), none, none, none])  (Nat.le_of_ble_eq_true rfl) rfl ?_
  refine V_aload_n (c := cI) i16_2.1 (mM_n i16_2.2) rfl rfl ?_
  refine V_iconst (c := cI) i16_3.1 (mM_n i16_3.2) (v := (-1)) rfl ?_
  refine V_pf (c := cI) i16_4.1 (mM_n i16_4.2) p16_31 (pf_i rfl rfl rfl) ?_
  refine V_aload_n (c := cI) i16_7.1 (mM_n i16_7.2) rfl rfl ?_
  refine V_iconst (c := cI) i16_8.1 (mM_n i16_8.2) (v := (-1)) rfl ?_
  refine V_pf (c := cI) i16_9.1 (mM_n i16_9.2) p16_35 (pf_i rfl rfl rfl) ?_
  refine V_iconst (c := cI) i16_12.1 (mM_n i16_12.2) (v := 0) rfl ?_
  refine V_istore_n (c := cI) i16_13.1 (mM_n i16_13.2) (l1 := [some (.ref 40), some (.int 0), some (.int 0), none, none])  (Nat.le_of_ble_eq_true rfl) rfl ?_
  exact V_msk (l1 := [some (.ref 40), some (.int 0), some (.int 0), none, none]) i16_14.2 rfl rfl
theorem k_Morning_meet_14_eq {x1 : Int32} {x2 : Int32}  {S : Mem} : k_Morning_meet_14 x1 x2 S = if 5 ≤ x2 then k_Morning_meet_34 x1 0 S else if inb x2 5 = true then k_Morning_meet_14 x1 (x2 + 1) (u1 S 44 x2.toNatClampNeg 0) else none := by
  show cI (mV oS X0 16 14 [some (.ref 40), some (.int x1), some (.int x2), none, none] [] S) = _
  refine V_iload_n (c := cI) i16_14.1 (mM_s i16_14.2 rfl) rfl ?_
  refine V_iconst (c := cI) i16_15.1 (mM_n i16_15.2) (v := 5) rfl ?_
  refine V_icmp_ge (c := cI) i16_16.1 (mM_n i16_16.2) rfl (fun _ => ?_) (fun _ => ?_)
  · refine V_iconst (c := cI) i16_32.1 (mM_n i16_32.2) (v := 0) rfl ?_
    refine V_istore_n (c := cI) i16_33.1 (mM_n i16_33.2) (l1 := [some (.ref 40), some (.int x1), some (.int 0), none, none])  (Nat.le_of_ble_eq_true rfl) rfl ?_
    exact V_msk (l1 := [some (.ref 40), some (.int x1), some (.int 0), none, none]) i16_34.2 rfl rfl
  · refine V_aload_n (c := cI) i16_19.1 (mM_n i16_19.2) rfl rfl ?_
    refine V_gf (c := cI) i16_20.1 (mM_n i16_20.2) (v := .ref 44) g16_21 rfl ?_
    refine V_iload_n (c := cI) i16_23.1 (mM_n i16_23.2) rfl ?_
    refine V_iconst (c := cI) i16_24.1 (mM_n i16_24.2) (v := 0) rfl ?_
    refine V_bastore (c := cI) (x1 := 0) i16_25.1 (mM_n i16_25.2) rfl rfl (by decide) rfl (fun _ => ?_)
    refine V_iinc (c := cI) i16_26.1 (mM_n i16_26.2) (l1 := [some (.ref 40), some (.int x1), some (.int (x2 + 1)), none, none]) rfl rfl rfl ?_
    refine V_goto (c := cI) i16_29.1 (mM_n i16_29.2) rfl ?_
    exact V_msk (l1 := [some (.ref 40), some (.int x1), some (.int (x2 + 1)), none, none]) i16_14.2 rfl rfl
theorem k_Morning_meet_34_eq {x1 : Int32} {x2 : Int32}  {S : Mem} : k_Morning_meet_34 x1 x2 S = if 5 ≤ x2 then some (x1, S) else k_Morning_meet_43 x1 x2 (x2 + 1) S := by
  show cI (mV oS X0 16 34 [some (.ref 40), some (.int x1), some (.int x2), none, none] [] S) = _
  refine V_iload_n (c := cI) i16_34.1 (mM_s i16_34.2 rfl) rfl ?_
  refine V_iconst (c := cI) i16_35.1 (mM_n i16_35.2) (v := 5) rfl ?_
  refine V_icmp_ge (c := cI) i16_36.1 (mM_n i16_36.2) rfl (fun _ => ?_) (fun _ => ?_)
  · refine V_iload_n (c := cI) i16_137.1 (mM_n i16_137.2) rfl ?_
    exact V_iret i16_138.1 (mM_n i16_138.2) rfl
  · refine V_iload_n (c := cI) i16_39.1 (mM_n i16_39.2) rfl ?_
    refine V_iconst (c := cI) i16_40.1 (mM_n i16_40.2) (v := 1) rfl ?_
    refine V_iadd (c := cI) i16_41.1 (mM_n i16_41.2)  ?_
    refine V_istore_n (c := cI) i16_42.1 (mM_n i16_42.2) (l1 := [some (.ref 40), some (.int x1), some (.int x2), some (.int (x2 + 1)), none])  (Nat.le_of_ble_eq_true rfl) rfl ?_
    exact V_msk (l1 := [some (.ref 40), some (.int x1), some (.int x2), some (.int (x2 + 1)), none]) i16_43.2 rfl rfl
theorem k_Morning_meet_43_eq {x1 : Int32} {x2 : Int32} {x3 : Int32}  {S : Mem} : k_Morning_meet_43 x1 x2 x3 S = if 5 ≤ x3 then k_Morning_meet_34 x1 (x2 + 1) S else if inb x2 5 = true then if inb x3 5 = true then if (S.1 43 (x2.toNatClampNeg)) = (S.1 41 (x3.toNatClampNeg)) then if inb x3 5 = true then if inb x2 5 = true then if (S.1 43 (x3.toNatClampNeg)) = (S.1 41 (x2.toNatClampNeg)) then k_Morning_meet_83 x1 x2 x3 1 S else k_Morning_meet_82 x1 x2 x3 S else none else none else k_Morning_meet_82 x1 x2 x3 S else none else none := by
  show cI (mV oS X0 16 43 [some (.ref 40), some (.int x1), some (.int x2), some (.int x3), none] [] S) = _
  refine V_iload_n (c := cI) i16_43.1 (mM_s i16_43.2 rfl) rfl ?_
  refine V_iconst (c := cI) i16_44.1 (mM_n i16_44.2) (v := 5) rfl ?_
  refine V_icmp_ge (c := cI) i16_45.1 (mM_n i16_45.2) rfl (fun _ => ?_) (fun _ => ?_)
  · refine V_iinc (c := cI) i16_131.1 (mM_n i16_131.2) (l1 := [some (.ref 40), some (.int x1), some (.int (x2 + 1)), some (.int x3), none]) rfl rfl rfl ?_
    refine V_goto (c := cI) i16_134.1 (mM_n i16_134.2) rfl ?_
    exact V_msk (l1 := [some (.ref 40), some (.int x1), some (.int (x2 + 1)), none, none]) i16_34.2 rfl rfl
  · refine V_aload_n (c := cI) i16_48.1 (mM_n i16_48.2) rfl rfl ?_
    refine V_gf (c := cI) i16_49.1 (mM_n i16_49.2) (v := .ref 43) g16_18 rfl ?_
    refine V_iload_n (c := cI) i16_52.1 (mM_n i16_52.2) rfl ?_
    refine V_iaload (c := cI) i16_53.1 (mM_n i16_53.2) rfl rfl (fun _ => ?_)
    refine V_aload_n (c := cI) i16_54.1 (mM_n i16_54.2) rfl rfl ?_
    refine V_gf (c := cI) i16_55.1 (mM_n i16_55.2) (v := .ref 41) g16_9 rfl ?_
    refine V_iload_n (c := cI) i16_58.1 (mM_n i16_58.2) rfl ?_
    refine V_iaload (c := cI) i16_59.1 (mM_n i16_59.2) rfl rfl (fun _ => ?_)
    refine V_icmp_ne (c := cI) i16_60.1 (mM_n i16_60.2) rfl (fun _ => ?_) (fun _ => ?_)
    · refine V_aload_n (c := cI) i16_63.1 (mM_n i16_63.2) rfl rfl ?_
      refine V_gf (c := cI) i16_64.1 (mM_n i16_64.2) (v := .ref 43) g16_18 rfl ?_
      refine V_iload_n (c := cI) i16_67.1 (mM_n i16_67.2) rfl ?_
      refine V_iaload (c := cI) i16_68.1 (mM_n i16_68.2) rfl rfl (fun _ => ?_)
      refine V_aload_n (c := cI) i16_69.1 (mM_n i16_69.2) rfl rfl ?_
      refine V_gf (c := cI) i16_70.1 (mM_n i16_70.2) (v := .ref 41) g16_9 rfl ?_
      refine V_iload_n (c := cI) i16_73.1 (mM_n i16_73.2) rfl ?_
      refine V_iaload (c := cI) i16_74.1 (mM_n i16_74.2) rfl rfl (fun _ => ?_)
      refine V_icmp_ne (c := cI) i16_75.1 (mM_n i16_75.2) rfl (fun _ => ?_) (fun _ => ?_)
      · refine V_iconst (c := cI) i16_78.1 (mM_n i16_78.2) (v := 1) rfl ?_
        refine V_goto (c := cI) i16_79.1 (mM_n i16_79.2) rfl ?_
        exact V_msk (l1 := [some (.ref 40), some (.int x1), some (.int x2), some (.int x3), none]) i16_83.2 rfl rfl
      · exact V_msk (l1 := [some (.ref 40), some (.int x1), some (.int x2), some (.int x3), none]) i16_82.2 rfl rfl
    · exact V_msk (l1 := [some (.ref 40), some (.int x1), some (.int x2), some (.int x3), none]) i16_82.2 rfl rfl
theorem k_Morning_meet_82_eq {x1 : Int32} {x2 : Int32} {x3 : Int32}  {S : Mem} : k_Morning_meet_82 x1 x2 x3 S = k_Morning_meet_83 x1 x2 x3 0 S := by
  show cI (mV oS X0 16 82 [some (.ref 40), some (.int x1), some (.int x2), some (.int x3), none] [] S) = _
  refine V_iconst (c := cI) i16_82.1 (mM_s i16_82.2 rfl) (v := 0) rfl ?_
  exact V_msk (l1 := [some (.ref 40), some (.int x1), some (.int x2), some (.int x3), none]) i16_83.2 rfl rfl
theorem k_Morning_meet_83_eq {x1 : Int32} {x2 : Int32} {x3 : Int32} {xs0 : Int32}  {S : Mem} : k_Morning_meet_83 x1 x2 x3 xs0 S = if xs0 = 0 then k_Morning_meet_125 x1 x2 x3 S else if inb x2 5 = true then if inb x3 5 = true then bI (f_Net_isNarrow (S.1 41 (x2.toNatClampNeg)) (S.1 41 (x3.toNatClampNeg)) (-1) S) (fun r6 S5 => if r6 = 0 then k_Morning_meet_125 x1 x2 x3 S5 else bI (f_Morning_goBack x2 x3 S5) (fun r8 S7 => if r8 = 0 then k_Morning_meet_125 x1 x2 x3 S7 else k_Morning_meet_125 (x1 + 1) x2 x3 S7)) else none else none := by
  show cI (mV oS X0 16 83 [some (.ref 40), some (.int x1), some (.int x2), some (.int x3), none] [.int xs0] S) = _
  refine V_istore (c := cI) i16_83.1 (mM_s i16_83.2 rfl) (l1 := [some (.ref 40), some (.int x1), some (.int x2), some (.int x3), some (.int xs0)])  (Nat.le_of_ble_eq_true rfl) rfl ?_
  refine V_iload (c := cI) i16_85.1 (mM_n i16_85.2) rfl ?_
  refine V_if_eq (c := cI) i16_87.1 (mM_n i16_87.2) rfl (fun _ => ?_) (fun _ => ?_)
  · exact V_msk (l1 := [some (.ref 40), some (.int x1), some (.int x2), some (.int x3), none]) i16_125.2 rfl rfl
  · refine V_aload_n (c := cI) i16_90.1 (mM_n i16_90.2) rfl rfl ?_
    refine V_gf (c := cI) i16_91.1 (mM_n i16_91.2) (v := .ref 7) g16_42 rfl ?_
    refine V_aload_n (c := cI) i16_94.1 (mM_n i16_94.2) rfl rfl ?_
    refine V_gf (c := cI) i16_95.1 (mM_n i16_95.2) (v := .ref 41) g16_9 rfl ?_
    refine V_iload_n (c := cI) i16_98.1 (mM_n i16_98.2) rfl ?_
    refine V_iaload (c := cI) i16_99.1 (mM_n i16_99.2) rfl rfl (fun _ => ?_)
    refine V_aload_n (c := cI) i16_100.1 (mM_n i16_100.2) rfl rfl ?_
    refine V_gf (c := cI) i16_101.1 (mM_n i16_101.2) (v := .ref 41) g16_9 rfl ?_
    refine V_iload_n (c := cI) i16_104.1 (mM_n i16_104.2) rfl ?_
    refine V_iaload (c := cI) i16_105.1 (mM_n i16_105.2) rfl rfl (fun _ => ?_)
    refine V_iconst (c := cI) i16_106.1 (mM_n i16_106.2) (v := (-1)) rfl ?_
    refine V_cvI (c := cI) (As := [.int (S.1 41 (x2.toNatClampNeg)), .int (S.1 41 (x3.toNatClampNeg)), .int (-1)]) (rest := []) i16_107.1 (mM_n i16_107.2) c16_108 rfl rfl rfl rfl (Nat.le_of_ble_eq_true rfl) rfl (fun r6 S5 => ?_)
    refine V_if_eq (c := cI) i16_110.1 (mM_n i16_110.2) rfl (fun _ => ?_) (fun _ => ?_)
    · exact V_msk (l1 := [some (.ref 40), some (.int x1), some (.int x2), some (.int x3), none]) i16_125.2 rfl rfl
    · refine V_aload_n (c := cI) i16_113.1 (mM_n i16_113.2) rfl rfl ?_
      refine V_iload_n (c := cI) i16_114.1 (mM_n i16_114.2) rfl ?_
      refine V_iload_n (c := cI) i16_115.1 (mM_n i16_115.2) rfl ?_
      refine V_cvI (c := cI) (As := [.int x2, .int x3]) (rest := []) i16_116.1 (mM_n i16_116.2) c16_112 rfl rfl rfl rfl (Nat.le_of_ble_eq_true rfl) rfl (fun r8 S7 => ?_)
      refine V_if_eq (c := cI) i16_119.1 (mM_n i16_119.2) rfl (fun _ => ?_) (fun _ => ?_)
      · exact V_msk (l1 := [some (.ref 40), some (.int x1), some (.int x2), some (.int x3), none]) i16_125.2 rfl rfl
      · refine V_iinc (c := cI) i16_122.1 (mM_n i16_122.2) (l1 := [some (.ref 40), some (.int (x1 + 1)), some (.int x2), some (.int x3), some (.int xs0)]) rfl rfl rfl ?_
        exact V_msk (l1 := [some (.ref 40), some (.int (x1 + 1)), some (.int x2), some (.int x3), none]) i16_125.2 rfl rfl
theorem k_Morning_meet_125_eq {x1 : Int32} {x2 : Int32} {x3 : Int32}  {S : Mem} : k_Morning_meet_125 x1 x2 x3 S = k_Morning_meet_43 x1 x2 (x3 + 1) S := by
  show cI (mV oS X0 16 125 [some (.ref 40), some (.int x1), some (.int x2), some (.int x3), none] [] S) = _
  refine V_iinc (c := cI) i16_125.1 (mM_s i16_125.2 rfl) (l1 := [some (.ref 40), some (.int x1), some (.int x2), some (.int (x3 + 1)), none]) rfl rfl rfl ?_
  refine V_goto (c := cI) i16_128.1 (mM_n i16_128.2) rfl ?_
  exact V_msk (l1 := [some (.ref 40), some (.int x1), some (.int x2), some (.int (x3 + 1)), none]) i16_43.2 rfl rfl
theorem f_Morning_goBack_eq {x1 : Int32} {x2 : Int32}  {S : Mem} : f_Morning_goBack x1 x2 S = if inb x1 5 = true then if inb x1 5 = true then if inb x2 5 = true then if inb x2 5 = true then if inb x1 5 = true then if (((S.1 45 (x1.toNatClampNeg)) >>> (x2 &&& 31)) &&& 1) = 1 then some (0, u1 (u1 S 46 x1.toNatClampNeg ((S.1 46 (x1.toNatClampNeg)) ||| ((1 : Int32) <<< (x2 &&& 31)))) 46 x2.toNatClampNeg (((u1 S 46 x1.toNatClampNeg ((S.1 46 (x1.toNatClampNeg)) ||| ((1 : Int32) <<< (x2 &&& 31)))).1 46 (x2.toNatClampNeg)) ||| ((1 : Int32) <<< (x1 &&& 31)))) else if inb x1 5 = true then if inb x2 5 = true then if (S.1 40 8) = (-1) then k_Morning_goBack_72 (u1 (u1 (u1 (u1 (u1 (u1 S 46 x1.toNatClampNeg ((S.1 46 (x1.toNatClampNeg)) ||| ((1 : Int32) <<< (x2 &&& 31)))) 46 x2.toNatClampNeg (((u1 S 46 x1.toNatClampNeg ((S.1 46 (x1.toNatClampNeg)) ||| ((1 : Int32) <<< (x2 &&& 31)))).1 46 (x2.toNatClampNeg)) ||| ((1 : Int32) <<< (x1 &&& 31)))) 44 x1.toNatClampNeg 1) 44 x2.toNatClampNeg 1) 40 8 x1) 40 9 x2) else k_Morning_goBack_72 (u1 (u1 (u1 (u1 S 46 x1.toNatClampNeg ((S.1 46 (x1.toNatClampNeg)) ||| ((1 : Int32) <<< (x2 &&& 31)))) 46 x2.toNatClampNeg (((u1 S 46 x1.toNatClampNeg ((S.1 46 (x1.toNatClampNeg)) ||| ((1 : Int32) <<< (x2 &&& 31)))).1 46 (x2.toNatClampNeg)) ||| ((1 : Int32) <<< (x1 &&& 31)))) 44 x1.toNatClampNeg 1) 44 x2.toNatClampNeg 1) else none else none else none else none else none else none else none := by
  show cI (mV oS X0 17 0 [some (.ref 40), some (.int x1), some (.int x2)] [] S) = _
  refine V_aload_n (c := cI) i17_0.1 (mM_n i17_0.2) rfl rfl ?_
  refine V_gf (c := cI) i17_1.1 (mM_n i17_1.2) (v := .ref 46) g17_28 rfl ?_
  refine V_iload_n (c := cI) i17_4.1 (mM_n i17_4.2) rfl ?_
  refine V_dup2 (c := cI) i17_5.1 (mM_n i17_5.2) rfl rfl ?_
  refine V_iaload (c := cI) i17_6.1 (mM_n i17_6.2) rfl rfl (fun _ => ?_)
  refine V_iconst (c := cI) i17_7.1 (mM_n i17_7.2) (v := 1) rfl ?_
  refine V_iload_n (c := cI) i17_8.1 (mM_n i17_8.2) rfl ?_
  refine V_ishl (c := cI) i17_9.1 (mM_n i17_9.2)  ?_
  refine V_ior (c := cI) i17_10.1 (mM_n i17_10.2)  ?_
  refine V_iastore (c := cI) (x1 := ((S.1 46 (x1.toNatClampNeg)) ||| ((1 : Int32) <<< (x2 &&& 31)))) i17_11.1 (mM_n i17_11.2) rfl rfl rfl rfl (fun _ => ?_)
  refine V_aload_n (c := cI) i17_12.1 (mM_n i17_12.2) rfl rfl ?_
  refine V_gf (c := cI) i17_13.1 (mM_n i17_13.2) (v := .ref 46) g17_28 rfl ?_
  refine V_iload_n (c := cI) i17_16.1 (mM_n i17_16.2) rfl ?_
  refine V_dup2 (c := cI) i17_17.1 (mM_n i17_17.2) rfl rfl ?_
  refine V_iaload (c := cI) i17_18.1 (mM_n i17_18.2) rfl rfl (fun _ => ?_)
  refine V_iconst (c := cI) i17_19.1 (mM_n i17_19.2) (v := 1) rfl ?_
  refine V_iload_n (c := cI) i17_20.1 (mM_n i17_20.2) rfl ?_
  refine V_ishl (c := cI) i17_21.1 (mM_n i17_21.2)  ?_
  refine V_ior (c := cI) i17_22.1 (mM_n i17_22.2)  ?_
  refine V_iastore (c := cI) (x1 := (((u1 S 46 x1.toNatClampNeg ((S.1 46 (x1.toNatClampNeg)) ||| ((1 : Int32) <<< (x2 &&& 31)))).1 46 (x2.toNatClampNeg)) ||| ((1 : Int32) <<< (x1 &&& 31)))) i17_23.1 (mM_n i17_23.2) rfl rfl rfl rfl (fun _ => ?_)
  refine V_aload_n (c := cI) i17_24.1 (mM_n i17_24.2) rfl rfl ?_
  refine V_gf (c := cI) i17_25.1 (mM_n i17_25.2) (v := .ref 45) g17_25 rfl ?_
  refine V_iload_n (c := cI) i17_28.1 (mM_n i17_28.2) rfl ?_
  refine V_iaload (c := cI) i17_29.1 (mM_n i17_29.2) rfl rfl (fun _ => ?_)
  refine V_iload_n (c := cI) i17_30.1 (mM_n i17_30.2) rfl ?_
  refine V_ishr (c := cI) i17_31.1 (mM_n i17_31.2)  ?_
  refine V_iconst (c := cI) i17_32.1 (mM_n i17_32.2) (v := 1) rfl ?_
  refine V_iand (c := cI) i17_33.1 (mM_n i17_33.2)  ?_
  refine V_iconst (c := cI) i17_34.1 (mM_n i17_34.2) (v := 1) rfl ?_
  refine V_icmp_ne (c := cI) i17_35.1 (mM_n i17_35.2) rfl (fun _ => ?_) (fun _ => ?_)
  · refine V_iconst (c := cI) i17_38.1 (mM_n i17_38.2) (v := 0) rfl ?_
    exact V_iret i17_39.1 (mM_n i17_39.2) rfl
  · refine V_aload_n (c := cI) i17_40.1 (mM_n i17_40.2) rfl rfl ?_
    refine V_gf (c := cI) i17_41.1 (mM_n i17_41.2) (v := .ref 44) g17_21 rfl ?_
    refine V_iload_n (c := cI) i17_44.1 (mM_n i17_44.2) rfl ?_
    refine V_iconst (c := cI) i17_45.1 (mM_n i17_45.2) (v := 1) rfl ?_
    refine V_bastore (c := cI) (x1 := 1) i17_46.1 (mM_n i17_46.2) rfl rfl (by decide) rfl (fun _ => ?_)
    refine V_aload_n (c := cI) i17_47.1 (mM_n i17_47.2) rfl rfl ?_
    refine V_gf (c := cI) i17_48.1 (mM_n i17_48.2) (v := .ref 44) g17_21 rfl ?_
    refine V_iload_n (c := cI) i17_51.1 (mM_n i17_51.2) rfl ?_
    refine V_iconst (c := cI) i17_52.1 (mM_n i17_52.2) (v := 1) rfl ?_
    refine V_bastore (c := cI) (x1 := 1) i17_53.1 (mM_n i17_53.2) rfl rfl (by decide) rfl (fun _ => ?_)
    refine V_aload_n (c := cI) i17_54.1 (mM_n i17_54.2) rfl rfl ?_
    refine V_gf (c := cI) i17_55.1 (mM_n i17_55.2) (v := .int (S.1 40 8)) g17_31 rfl ?_
    refine V_iconst (c := cI) i17_58.1 (mM_n i17_58.2) (v := (-1)) rfl ?_
    refine V_icmp_ne (c := cI) i17_59.1 (mM_n i17_59.2) rfl (fun _ => ?_) (fun _ => ?_)
    · refine V_aload_n (c := cI) i17_62.1 (mM_n i17_62.2) rfl rfl ?_
      refine V_iload_n (c := cI) i17_63.1 (mM_n i17_63.2) rfl ?_
      refine V_pf (c := cI) i17_64.1 (mM_n i17_64.2) p17_31 (pf_i rfl rfl rfl) ?_
      refine V_aload_n (c := cI) i17_67.1 (mM_n i17_67.2) rfl rfl ?_
      refine V_iload_n (c := cI) i17_68.1 (mM_n i17_68.2) rfl ?_
      refine V_pf (c := cI) i17_69.1 (mM_n i17_69.2) p17_35 (pf_i rfl rfl rfl) ?_
      exact V_msk (l1 := [none, none, none]) i17_72.2 rfl rfl
    · exact V_msk (l1 := [none, none, none]) i17_72.2 rfl rfl
theorem k_Morning_goBack_72_eq   {S : Mem} : k_Morning_goBack_72  S = some (1, S) := by
  show cI (mV oS X0 17 72 [none, none, none] [] S) = _
  refine V_iconst (c := cI) i17_72.1 (mM_s i17_72.2 rfl) (v := 1) rfl ?_
  exact V_iret i17_73.1 (mM_n i17_73.2) rfl
theorem f_Morning_settle_eq   {S : Mem} : f_Morning_settle  S = k_Morning_settle_2 0 S := by
  show cU (mV oS X0 18 0 [some (.ref 40), none] [] S) = _
  refine V_iconst (c := cU) i18_0.1 (mM_n i18_0.2) (v := 0) rfl ?_
  refine V_istore_n (c := cU) i18_1.1 (mM_n i18_1.2) (l1 := [some (.ref 40), some (.int 0)])  (Nat.le_of_ble_eq_true rfl) rfl ?_
  exact V_msk (l1 := [some (.ref 40), some (.int 0)]) i18_2.2 rfl rfl
theorem k_Morning_settle_2_eq {x1 : Int32}  {S : Mem} : k_Morning_settle_2 x1 S = if 5 ≤ x1 then some S else if inb x1 5 = true then if (S.1 44 (x1.toNatClampNeg)) = 0 then if inb x1 5 = true then if inb x1 5 = true then k_Morning_settle_28 x1 (u1 S 41 x1.toNatClampNeg (S.1 43 (x1.toNatClampNeg))) else none else none else k_Morning_settle_28 x1 S else none := by
  show cU (mV oS X0 18 2 [some (.ref 40), some (.int x1)] [] S) = _
  refine V_iload_n (c := cU) i18_2.1 (mM_s i18_2.2 rfl) rfl ?_
  refine V_iconst (c := cU) i18_3.1 (mM_n i18_3.2) (v := 5) rfl ?_
  refine V_icmp_ge (c := cU) i18_4.1 (mM_n i18_4.2) rfl (fun _ => ?_) (fun _ => ?_)
  · exact V_vret i18_34.1 (mM_n i18_34.2) rfl
  · refine V_aload_n (c := cU) i18_7.1 (mM_n i18_7.2) rfl rfl ?_
    refine V_gf (c := cU) i18_8.1 (mM_n i18_8.2) (v := .ref 44) g18_21 rfl ?_
    refine V_iload_n (c := cU) i18_11.1 (mM_n i18_11.2) rfl ?_
    refine V_baload (c := cU) i18_12.1 (mM_n i18_12.2) rfl rfl rfl (fun _ => ?_)
    refine V_if_ne (c := cU) i18_13.1 (mM_n i18_13.2) rfl (fun _ => ?_) (fun _ => ?_)
    · refine V_aload_n (c := cU) i18_16.1 (mM_n i18_16.2) rfl rfl ?_
      refine V_gf (c := cU) i18_17.1 (mM_n i18_17.2) (v := .ref 41) g18_9 rfl ?_
      refine V_iload_n (c := cU) i18_20.1 (mM_n i18_20.2) rfl ?_
      refine V_aload_n (c := cU) i18_21.1 (mM_n i18_21.2) rfl rfl ?_
      refine V_gf (c := cU) i18_22.1 (mM_n i18_22.2) (v := .ref 43) g18_18 rfl ?_
      refine V_iload_n (c := cU) i18_25.1 (mM_n i18_25.2) rfl ?_
      refine V_iaload (c := cU) i18_26.1 (mM_n i18_26.2) rfl rfl (fun _ => ?_)
      refine V_iastore (c := cU) (x1 := (S.1 43 (x1.toNatClampNeg))) i18_27.1 (mM_n i18_27.2) rfl rfl rfl rfl (fun _ => ?_)
      exact V_msk (l1 := [some (.ref 40), some (.int x1)]) i18_28.2 rfl rfl
    · exact V_msk (l1 := [some (.ref 40), some (.int x1)]) i18_28.2 rfl rfl
theorem k_Morning_settle_28_eq {x1 : Int32}  {S : Mem} : k_Morning_settle_28 x1 S = k_Morning_settle_2 (x1 + 1) S := by
  show cU (mV oS X0 18 28 [some (.ref 40), some (.int x1)] [] S) = _
  refine V_iinc (c := cU) i18_28.1 (mM_s i18_28.2 rfl) (l1 := [some (.ref 40), some (.int (x1 + 1))]) rfl rfl rfl ?_
  refine V_goto (c := cU) i18_31.1 (mM_n i18_31.2) rfl ?_
  exact V_msk (l1 := [some (.ref 40), some (.int (x1 + 1))]) i18_2.2 rfl rfl
theorem f_Morning_keep_eq   {S : Mem} : f_Morning_keep  S = k_Morning_keep_2 0 S := by
  show cU (mV oS X0 19 0 [some (.ref 40), none, none] [] S) = _
  refine V_iconst (c := cU) i19_0.1 (mM_n i19_0.2) (v := 0) rfl ?_
  refine V_istore_n (c := cU) i19_1.1 (mM_n i19_1.2) (l1 := [some (.ref 40), some (.int 0), none])  (Nat.le_of_ble_eq_true rfl) rfl ?_
  exact V_msk (l1 := [some (.ref 40), some (.int 0), none]) i19_2.2 rfl rfl
theorem k_Morning_keep_2_eq {x1 : Int32}  {S : Mem} : k_Morning_keep_2 x1 S = if 5 ≤ x1 then some S else bA (f_Town_at 14 x1 S) (fun r5 S4 => oc r5 (k_Morning_keep_40 x1 S4) (fun w6 => k_Morning_keep_20 x1 w6 S4)) := by
  show cU (mV oS X0 19 2 [some (.ref 40), some (.int x1), none] [] S) = _
  refine V_iload_n (c := cU) i19_2.1 (mM_s i19_2.2 rfl) rfl ?_
  refine V_iconst (c := cU) i19_3.1 (mM_n i19_3.2) (v := 5) rfl ?_
  refine V_icmp_ge (c := cU) i19_4.1 (mM_n i19_4.2) rfl (fun _ => ?_) (fun _ => ?_)
  · exact V_vret i19_46.1 (mM_n i19_46.2) rfl
  · refine V_aload_n (c := cU) i19_7.1 (mM_n i19_7.2) rfl rfl ?_
    refine V_gf (c := cU) i19_8.1 (mM_n i19_8.2) (v := .ref 14) g19_46 rfl ?_
    refine V_iload_n (c := cU) i19_11.1 (mM_n i19_11.2) rfl ?_
    refine V_cvA (c := cU) (As := [.int x1]) (rest := []) i19_12.1 (mM_n i19_12.2) c19_50 rfl (cl_sh (isT_o isT_14)) rfl rfl (Nat.le_of_ble_eq_true rfl) rfl (fun r5 S4 => ?_)
    refine V_astore_n (c := cU) i19_15.1 (mM_n i19_15.2) (l1 := [some (.ref 40), some (.int x1), some (va_rf r5)])  (isA_rf _) (Nat.le_of_ble_eq_true rfl) rfl ?_
    refine V_aload_n (c := cU) i19_16.1 (mM_n i19_16.2) rfl (isA_rf _) ?_
    cases r5 with
    | none =>
      refine V_ifnullN (c := cU) i19_17.1 (mM_n i19_17.2) rfl ?_
      exact V_msk (l1 := [some (.ref 40), some (.int x1), none]) i19_40.2 rfl rfl
    | some w6 =>
      refine V_ifnullR (c := cU) i19_17.1 (mM_n i19_17.2) rfl ?_
      exact V_msk (l1 := [some (.ref 40), some (.int x1), some (.ref w6)]) i19_20.2 rfl rfl
theorem k_Morning_keep_20_eq {x1 : Int32} {w2 : Nat} (h_w2 : isW w2) {S : Mem} : k_Morning_keep_20 x1 w2 S = if inb x1 5 = true then if inb x1 5 = true then k_Morning_keep_40 x1 (u1 (u1 S w2 1 (S.1 41 (x1.toNatClampNeg))) w2 6 ((u1 S w2 1 (S.1 41 (x1.toNatClampNeg))).1 42 (x1.toNatClampNeg))) else none else none := by
  show cU (mV oS X0 19 20 [some (.ref 40), some (.int x1), some (.ref w2)] [] S) = _
  refine V_aload_n (c := cU) i19_20.1 (mM_s i19_20.2 rfl) rfl rfl ?_
  refine V_aload_n (c := cU) i19_21.1 (mM_n i19_21.2) rfl rfl ?_
  refine V_gf (c := cU) i19_22.1 (mM_n i19_22.2) (v := .ref 41) g19_9 rfl ?_
  refine V_iload_n (c := cU) i19_25.1 (mM_n i19_25.2) rfl ?_
  refine V_iaload (c := cU) i19_26.1 (mM_n i19_26.2) rfl rfl (fun _ => ?_)
  refine V_pf (c := cU) i19_27.1 (mM_n i19_27.2) p19_56 (pf_i (isW_o h_w2) rfl rfl) ?_
  refine V_aload_n (c := cU) i19_30.1 (mM_n i19_30.2) rfl rfl ?_
  refine V_aload_n (c := cU) i19_31.1 (mM_n i19_31.2) rfl rfl ?_
  refine V_gf (c := cU) i19_32.1 (mM_n i19_32.2) (v := .ref 42) g19_15 rfl ?_
  refine V_iload_n (c := cU) i19_35.1 (mM_n i19_35.2) rfl ?_
  refine V_iaload (c := cU) i19_36.1 (mM_n i19_36.2) rfl rfl (fun _ => ?_)
  refine V_pf (c := cU) i19_37.1 (mM_n i19_37.2) p19_60 (pf_i (isW_o h_w2) rfl rfl) ?_
  exact V_msk (l1 := [some (.ref 40), some (.int x1), none]) i19_40.2 rfl rfl
theorem k_Morning_keep_40_eq {x1 : Int32}  {S : Mem} : k_Morning_keep_40 x1 S = k_Morning_keep_2 (x1 + 1) S := by
  show cU (mV oS X0 19 40 [some (.ref 40), some (.int x1), none] [] S) = _
  refine V_iinc (c := cU) i19_40.1 (mM_s i19_40.2 rfl) (l1 := [some (.ref 40), some (.int (x1 + 1)), none]) rfl rfl rfl ?_
  refine V_goto (c := cU) i19_43.1 (mM_n i19_43.2) rfl ?_
  exact V_msk (l1 := [some (.ref 40), some (.int (x1 + 1)), none]) i19_2.2 rfl rfl
theorem f_Morning_atGoals_eq   {S : Mem} : f_Morning_atGoals  S = k_Morning_atGoals_4 0 0 S := by
  show cI (mV oS X0 20 0 [some (.ref 40), none, none, none] [] S) = _
  refine V_iconst (c := cI) i20_0.1 (mM_n i20_0.2) (v := 0) rfl ?_
  refine V_istore_n (c := cI) i20_1.1 (mM_n i20_1.2) (l1 := [some (.ref 40), some (.int 0), none, none])  (Nat.le_of_ble_eq_true rfl) rfl ?_
  refine V_iconst (c := cI) i20_2.1 (mM_n i20_2.2) (v := 0) rfl ?_
  refine V_istore_n (c := cI) i20_3.1 (mM_n i20_3.2) (l1 := [some (.ref 40), some (.int 0), some (.int 0), none])  (Nat.le_of_ble_eq_true rfl) rfl ?_
  exact V_msk (l1 := [some (.ref 40), some (.int 0), some (.int 0), none]) i20_4.2 rfl rfl
theorem k_Morning_atGoals_4_eq {x1 : Int32} {x2 : Int32}  {S : Mem} : k_Morning_atGoals_4 x1 x2 S = if 5 ≤ x2 then some (x1, S) else bA (f_Town_at 14 x2 S) (fun r5 S4 => oc r5 (k_Morning_atGoals_41 x1 x2 S4) (fun w6 => k_Morning_atGoals_22 x1 x2 w6 S4)) := by
  show cI (mV oS X0 20 4 [some (.ref 40), some (.int x1), some (.int x2), none] [] S) = _
  refine V_iload_n (c := cI) i20_4.1 (mM_s i20_4.2 rfl) rfl ?_
  refine V_iconst (c := cI) i20_5.1 (mM_n i20_5.2) (v := 5) rfl ?_
  refine V_icmp_ge (c := cI) i20_6.1 (mM_n i20_6.2) rfl (fun _ => ?_) (fun _ => ?_)
  · refine V_iload_n (c := cI) i20_47.1 (mM_n i20_47.2) rfl ?_
    exact V_iret i20_48.1 (mM_n i20_48.2) rfl
  · refine V_aload_n (c := cI) i20_9.1 (mM_n i20_9.2) rfl rfl ?_
    refine V_gf (c := cI) i20_10.1 (mM_n i20_10.2) (v := .ref 14) g20_46 rfl ?_
    refine V_iload_n (c := cI) i20_13.1 (mM_n i20_13.2) rfl ?_
    refine V_cvA (c := cI) (As := [.int x2]) (rest := []) i20_14.1 (mM_n i20_14.2) c20_50 rfl (cl_sh (isT_o isT_14)) rfl rfl (Nat.le_of_ble_eq_true rfl) rfl (fun r5 S4 => ?_)
    refine V_astore_n (c := cI) i20_17.1 (mM_n i20_17.2) (l1 := [some (.ref 40), some (.int x1), some (.int x2), some (va_rf r5)])  (isA_rf _) (Nat.le_of_ble_eq_true rfl) rfl ?_
    refine V_aload_n (c := cI) i20_18.1 (mM_n i20_18.2) rfl (isA_rf _) ?_
    cases r5 with
    | none =>
      refine V_ifnullN (c := cI) i20_19.1 (mM_n i20_19.2) rfl ?_
      exact V_msk (l1 := [some (.ref 40), some (.int x1), some (.int x2), none]) i20_41.2 rfl rfl
    | some w6 =>
      refine V_ifnullR (c := cI) i20_19.1 (mM_n i20_19.2) rfl ?_
      exact V_msk (l1 := [some (.ref 40), some (.int x1), some (.int x2), some (.ref w6)]) i20_22.2 rfl rfl
theorem k_Morning_atGoals_22_eq {x1 : Int32} {x2 : Int32} {w3 : Nat} (h_w3 : isW w3) {S : Mem} : k_Morning_atGoals_22 x1 x2 w3 S = if inb x2 5 = true then if (S.1 w3 2) = (S.1 41 (x2.toNatClampNeg)) then k_Morning_atGoals_41 (x1 ||| ((1 : Int32) <<< (x2 &&& 31))) x2 S else k_Morning_atGoals_41 x1 x2 S else none := by
  show cI (mV oS X0 20 22 [some (.ref 40), some (.int x1), some (.int x2), some (.ref w3)] [] S) = _
  refine V_aload_n (c := cI) i20_22.1 (mM_s i20_22.2 rfl) rfl rfl ?_
  refine V_gf (c := cI) i20_23.1 (mM_n i20_23.2) (v := .int (S.1 w3 2)) g20_116 (gf_i (isW_o h_w3) rfl) ?_
  refine V_aload_n (c := cI) i20_26.1 (mM_n i20_26.2) rfl rfl ?_
  refine V_gf (c := cI) i20_27.1 (mM_n i20_27.2) (v := .ref 41) g20_9 rfl ?_
  refine V_iload_n (c := cI) i20_30.1 (mM_n i20_30.2) rfl ?_
  refine V_iaload (c := cI) i20_31.1 (mM_n i20_31.2) rfl rfl (fun _ => ?_)
  refine V_icmp_ne (c := cI) i20_32.1 (mM_n i20_32.2) rfl (fun _ => ?_) (fun _ => ?_)
  · refine V_iload_n (c := cI) i20_35.1 (mM_n i20_35.2) rfl ?_
    refine V_iconst (c := cI) i20_36.1 (mM_n i20_36.2) (v := 1) rfl ?_
    refine V_iload_n (c := cI) i20_37.1 (mM_n i20_37.2) rfl ?_
    refine V_ishl (c := cI) i20_38.1 (mM_n i20_38.2)  ?_
    refine V_ior (c := cI) i20_39.1 (mM_n i20_39.2)  ?_
    refine V_istore_n (c := cI) i20_40.1 (mM_n i20_40.2) (l1 := [some (.ref 40), some (.int (x1 ||| ((1 : Int32) <<< (x2 &&& 31)))), some (.int x2), some (.ref w3)])  (Nat.le_of_ble_eq_true rfl) rfl ?_
    exact V_msk (l1 := [some (.ref 40), some (.int (x1 ||| ((1 : Int32) <<< (x2 &&& 31)))), some (.int x2), none]) i20_41.2 rfl rfl
  · exact V_msk (l1 := [some (.ref 40), some (.int x1), some (.int x2), none]) i20_41.2 rfl rfl
theorem k_Morning_atGoals_41_eq {x1 : Int32} {x2 : Int32}  {S : Mem} : k_Morning_atGoals_41 x1 x2 S = k_Morning_atGoals_4 x1 (x2 + 1) S := by
  show cI (mV oS X0 20 41 [some (.ref 40), some (.int x1), some (.int x2), none] [] S) = _
  refine V_iinc (c := cI) i20_41.1 (mM_s i20_41.2 rfl) (l1 := [some (.ref 40), some (.int x1), some (.int (x2 + 1)), none]) rfl rfl rfl ?_
  refine V_goto (c := cI) i20_44.1 (mM_n i20_44.2) rfl ?_
  exact V_msk (l1 := [some (.ref 40), some (.int x1), some (.int (x2 + 1)), none]) i20_4.2 rfl rfl
