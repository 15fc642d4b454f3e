/-! blocks of Mod: printed by a program -/
theorem i107_0 : decode (mCd 107) 0 = .ok (.iload_n 0, 1) ∧ lk (mMsk 107) 0 = none := by decide +kernel
theorem i107_1 : decode (mCd 107) 1 = .ok (.iload_n 1, 1) ∧ lk (mMsk 107) 1 = none := by decide +kernel
theorem i107_2 : decode (mCd 107) 2 = .ok (.if_icmp .lt 12, 3) ∧ lk (mMsk 107) 2 = none := by decide +kernel
theorem i107_14 : decode (mCd 107) 14 = .ok (.iconst 0, 1) ∧ lk (mMsk 107) 14 = some [false, false, false] := by decide +kernel
theorem i107_5 : decode (mCd 107) 5 = .ok (.iload_n 0, 1) ∧ lk (mMsk 107) 5 = none := by decide +kernel
theorem i107_6 : decode (mCd 107) 6 = .ok (.iload_n 2, 1) ∧ lk (mMsk 107) 6 = none := by decide +kernel
theorem i107_7 : decode (mCd 107) 7 = .ok (.if_icmp .gt 7, 3) ∧ lk (mMsk 107) 7 = none := by decide +kernel
theorem i107_10 : decode (mCd 107) 10 = .ok (.iconst 1, 1) ∧ lk (mMsk 107) 10 = none := by decide +kernel
theorem i107_11 : decode (mCd 107) 11 = .ok (.goto 4, 3) ∧ lk (mMsk 107) 11 = none := by decide +kernel
theorem i107_15 : decode (mCd 107) 15 = .ok (.ireturn, 1) ∧ lk (mMsk 107) 15 = some [false, false, false] := by decide +kernel
theorem i108_0 : decode (mCd 108) 0 = .ok (.iload_n 0, 1) ∧ lk (mMsk 108) 0 = none := by decide +kernel
theorem i108_1 : decode (mCd 108) 1 = .ok (.iload_n 1, 1) ∧ lk (mMsk 108) 1 = none := by decide +kernel
theorem i108_2 : decode (mCd 108) 2 = .ok (.ishr, 1) ∧ lk (mMsk 108) 2 = none := by decide +kernel
theorem i108_3 : decode (mCd 108) 3 = .ok (.iconst 1, 1) ∧ lk (mMsk 108) 3 = none := by decide +kernel
theorem i108_4 : decode (mCd 108) 4 = .ok (.iand, 1) ∧ lk (mMsk 108) 4 = none := by decide +kernel
theorem i108_5 : decode (mCd 108) 5 = .ok (.iconst 1, 1) ∧ lk (mMsk 108) 5 = none := by decide +kernel
theorem i108_6 : decode (mCd 108) 6 = .ok (.if_icmp .ne 7, 3) ∧ lk (mMsk 108) 6 = none := by decide +kernel
theorem i108_9 : decode (mCd 108) 9 = .ok (.iconst 1, 1) ∧ lk (mMsk 108) 9 = none := by decide +kernel
theorem i108_10 : decode (mCd 108) 10 = .ok (.goto 4, 3) ∧ lk (mMsk 108) 10 = none := by decide +kernel
theorem i108_14 : decode (mCd 108) 14 = .ok (.ireturn, 1) ∧ lk (mMsk 108) 14 = some [false, false] := by decide +kernel
theorem i108_13 : decode (mCd 108) 13 = .ok (.iconst 0, 1) ∧ lk (mMsk 108) 13 = none := by decide +kernel
theorem i109_0 : decode (mCd 109) 0 = .ok (.iconst 0, 1) ∧ lk (mMsk 109) 0 = none := by decide +kernel
theorem i109_1 : decode (mCd 109) 1 = .ok (.istore_n 3, 1) ∧ lk (mMsk 109) 1 = none := by decide +kernel
theorem i109_2 : decode (mCd 109) 2 = .ok (.iconst 0, 1) ∧ lk (mMsk 109) 2 = none := by decide +kernel
theorem i109_3 : decode (mCd 109) 3 = .ok (.istore 4, 2) ∧ lk (mMsk 109) 3 = none := by decide +kernel
theorem i109_5 : decode (mCd 109) 5 = .ok (.iconst 0, 1) ∧ lk (mMsk 109) 5 = none := by decide +kernel
theorem i109_6 : decode (mCd 109) 6 = .ok (.istore 5, 2) ∧ lk (mMsk 109) 6 = none := by decide +kernel
theorem i109_8 : decode (mCd 109) 8 = .ok (.iload 5, 2) ∧ lk (mMsk 109) 8 = some [true, true, false, true, true, true, false] := by decide +kernel
theorem i109_10 : decode (mCd 109) 10 = .ok (.bipush 8, 2) ∧ lk (mMsk 109) 10 = none := by decide +kernel
theorem i109_12 : decode (mCd 109) 12 = .ok (.if_icmp .ge 73, 3) ∧ lk (mMsk 109) 12 = none := by decide +kernel
theorem i109_85 : decode (mCd 109) 85 = .ok (.aload_n 0, 1) ∧ lk (mMsk 109) 85 = none := by decide +kernel
theorem i109_86 : decode (mCd 109) 86 = .ok (.getfield 98, 3) ∧ lk (mMsk 109) 86 = none := by decide +kernel
theorem g109_98 : fOk 109 98 9 18 = true := by decide +kernel
theorem i109_89 : decode (mCd 109) 89 = .ok (.iload_n 3, 1) ∧ lk (mMsk 109) 89 = none := by decide +kernel
theorem i109_90 : decode (mCd 109) 90 = .ok (.iadd, 1) ∧ lk (mMsk 109) 90 = none := by decide +kernel
theorem i109_91 : decode (mCd 109) 91 = .ok (.bipush 50, 2) ∧ lk (mMsk 109) 91 = none := by decide +kernel
theorem i109_93 : decode (mCd 109) 93 = .ok (.if_icmp .le 6, 3) ∧ lk (mMsk 109) 93 = none := by decide +kernel
theorem i109_99 : decode (mCd 109) 99 = .ok (.iconst 0, 1) ∧ lk (mMsk 109) 99 = none := by decide +kernel
theorem i109_100 : decode (mCd 109) 100 = .ok (.istore 5, 2) ∧ lk (mMsk 109) 100 = none := by decide +kernel
theorem i109_102 : decode (mCd 109) 102 = .ok (.iload 5, 2) ∧ lk (mMsk 109) 102 = some [true, true, false, true, false, true, false] := by decide +kernel
theorem i109_96 : decode (mCd 109) 96 = .ok (.bipush (-104), 2) ∧ lk (mMsk 109) 96 = none := by decide +kernel
theorem i109_98 : decode (mCd 109) 98 = .ok (.ireturn, 1) ∧ lk (mMsk 109) 98 = none := by decide +kernel
theorem i109_15 : decode (mCd 109) 15 = .ok (.lload_n 1, 1) ∧ lk (mMsk 109) 15 = none := by decide +kernel
theorem i109_16 : decode (mCd 109) 16 = .ok (.bipush 8, 2) ∧ lk (mMsk 109) 16 = none := by decide +kernel
theorem i109_18 : decode (mCd 109) 18 = .ok (.iload 5, 2) ∧ lk (mMsk 109) 18 = none := by decide +kernel
theorem i109_20 : decode (mCd 109) 20 = .ok (.imul, 1) ∧ lk (mMsk 109) 20 = none := by decide +kernel
theorem i109_21 : decode (mCd 109) 21 = .ok (.lshr, 1) ∧ lk (mMsk 109) 21 = none := by decide +kernel
theorem i109_22 : decode (mCd 109) 22 = .ok (.ldc2_w 96, 3) ∧ lk (mMsk 109) 22 = none := by decide +kernel
theorem q109_96 : lk (mKt (mOwn 109)) 96 = some (.inr 255) := by decide +kernel
theorem i109_25 : decode (mCd 109) 25 = .ok (.land, 1) ∧ lk (mMsk 109) 25 = none := by decide +kernel
theorem i109_26 : decode (mCd 109) 26 = .ok (.l2i, 1) ∧ lk (mMsk 109) 26 = none := by decide +kernel
theorem i109_27 : decode (mCd 109) 27 = .ok (.istore 6, 2) ∧ lk (mMsk 109) 27 = none := by decide +kernel
theorem i109_29 : decode (mCd 109) 29 = .ok (.iload 6, 2) ∧ lk (mMsk 109) 29 = none := by decide +kernel
theorem i109_31 : decode (mCd 109) 31 = .ok (.bipush 126, 2) ∧ lk (mMsk 109) 31 = none := by decide +kernel
theorem i109_33 : decode (mCd 109) 33 = .ok (.if_icmp .gt 13, 3) ∧ lk (mMsk 109) 33 = none := by decide +kernel
theorem i109_46 : decode (mCd 109) 46 = .ok (.bipush (-102), 2) ∧ lk (mMsk 109) 46 = some [false, false, false, false, false, false, false] := by decide +kernel
theorem i109_36 : decode (mCd 109) 36 = .ok (.iload 4, 2) ∧ lk (mMsk 109) 36 = none := by decide +kernel
theorem i109_38 : decode (mCd 109) 38 = .ok (.ifCond .eq 11, 3) ∧ lk (mMsk 109) 38 = none := by decide +kernel
theorem i109_49 : decode (mCd 109) 49 = .ok (.iload 4, 2) ∧ lk (mMsk 109) 49 = some [true, true, false, true, true, true, true] := by decide +kernel
theorem i109_41 : decode (mCd 109) 41 = .ok (.iload 6, 2) ∧ lk (mMsk 109) 41 = none := by decide +kernel
theorem i109_43 : decode (mCd 109) 43 = .ok (.ifCond .eq 6, 3) ∧ lk (mMsk 109) 43 = none := by decide +kernel
theorem i109_51 : decode (mCd 109) 51 = .ok (.ifCond .ne 8, 3) ∧ lk (mMsk 109) 51 = none := by decide +kernel
theorem i109_54 : decode (mCd 109) 54 = .ok (.iload 6, 2) ∧ lk (mMsk 109) 54 = none := by decide +kernel
theorem i109_56 : decode (mCd 109) 56 = .ok (.ifCond .ne 7, 3) ∧ lk (mMsk 109) 56 = none := by decide +kernel
theorem i109_59 : decode (mCd 109) 59 = .ok (.iconst 1, 1) ∧ lk (mMsk 109) 59 = some [true, true, false, true, false, true, true] := by decide +kernel
theorem i109_63 : decode (mCd 109) 63 = .ok (.iconst 0, 1) ∧ lk (mMsk 109) 63 = none := by decide +kernel
theorem i109_64 : decode (mCd 109) 64 = .ok (.istore 4, 2) ∧ lk (mMsk 109) 64 = some [true, true, false, true, false, true, true] := by decide +kernel
theorem i109_66 : decode (mCd 109) 66 = .ok (.iload_n 3, 1) ∧ lk (mMsk 109) 66 = none := by decide +kernel
theorem i109_67 : decode (mCd 109) 67 = .ok (.iload 6, 2) ∧ lk (mMsk 109) 67 = none := by decide +kernel
theorem i109_69 : decode (mCd 109) 69 = .ok (.ifCond .ne 7, 3) ∧ lk (mMsk 109) 69 = none := by decide +kernel
theorem i109_72 : decode (mCd 109) 72 = .ok (.iconst 0, 1) ∧ lk (mMsk 109) 72 = none := by decide +kernel
theorem i109_73 : decode (mCd 109) 73 = .ok (.goto 4, 3) ∧ lk (mMsk 109) 73 = none := by decide +kernel
theorem i109_77 : decode (mCd 109) 77 = .ok (.iadd, 1) ∧ lk (mMsk 109) 77 = some [true, true, false, false, true, true, false] := by decide +kernel
theorem i109_76 : decode (mCd 109) 76 = .ok (.iconst 1, 1) ∧ lk (mMsk 109) 76 = none := by decide +kernel
theorem i109_78 : decode (mCd 109) 78 = .ok (.istore_n 3, 1) ∧ lk (mMsk 109) 78 = none := by decide +kernel
theorem i109_79 : decode (mCd 109) 79 = .ok (.iinc 5 1, 3) ∧ lk (mMsk 109) 79 = none := by decide +kernel
theorem i109_82 : decode (mCd 109) 82 = .ok (.goto (-74), 3) ∧ lk (mMsk 109) 82 = none := by decide +kernel
theorem i109_60 : decode (mCd 109) 60 = .ok (.goto 4, 3) ∧ lk (mMsk 109) 60 = none := by decide +kernel
theorem i109_48 : decode (mCd 109) 48 = .ok (.ireturn, 1) ∧ lk (mMsk 109) 48 = none := by decide +kernel
theorem i109_104 : decode (mCd 109) 104 = .ok (.iload_n 3, 1) ∧ lk (mMsk 109) 104 = none := by decide +kernel
theorem i109_105 : decode (mCd 109) 105 = .ok (.if_icmp .ge 30, 3) ∧ lk (mMsk 109) 105 = none := by decide +kernel
theorem i109_135 : decode (mCd 109) 135 = .ok (.aload_n 0, 1) ∧ lk (mMsk 109) 135 = none := by decide +kernel
theorem i109_136 : decode (mCd 109) 136 = .ok (.dup, 1) ∧ lk (mMsk 109) 136 = none := by decide +kernel
theorem i109_137 : decode (mCd 109) 137 = .ok (.getfield 98, 3) ∧ lk (mMsk 109) 137 = none := by decide +kernel
theorem i109_140 : decode (mCd 109) 140 = .ok (.iload_n 3, 1) ∧ lk (mMsk 109) 140 = none := by decide +kernel
theorem i109_141 : decode (mCd 109) 141 = .ok (.iadd, 1) ∧ lk (mMsk 109) 141 = none := by decide +kernel
theorem i109_142 : decode (mCd 109) 142 = .ok (.putfield 98, 3) ∧ lk (mMsk 109) 142 = none := by decide +kernel
theorem p109_98 : pOk 109 98 9 18 = true := by decide +kernel
theorem i109_145 : decode (mCd 109) 145 = .ok (.aload_n 0, 1) ∧ lk (mMsk 109) 145 = none := by decide +kernel
theorem i109_146 : decode (mCd 109) 146 = .ok (.getfield 98, 3) ∧ lk (mMsk 109) 146 = none := by decide +kernel
theorem i109_149 : decode (mCd 109) 149 = .ok (.ireturn, 1) ∧ lk (mMsk 109) 149 = none := by decide +kernel
theorem i109_108 : decode (mCd 109) 108 = .ok (.aload_n 0, 1) ∧ lk (mMsk 109) 108 = none := by decide +kernel
theorem i109_109 : decode (mCd 109) 109 = .ok (.getfield 44, 3) ∧ lk (mMsk 109) 109 = none := by decide +kernel
theorem g109_44 : fOk 109 44 9 19 = true := by decide +kernel
theorem i109_112 : decode (mCd 109) 112 = .ok (.aload_n 0, 1) ∧ lk (mMsk 109) 112 = none := by decide +kernel
theorem i109_113 : decode (mCd 109) 113 = .ok (.getfield 98, 3) ∧ lk (mMsk 109) 113 = none := by decide +kernel
theorem i109_116 : decode (mCd 109) 116 = .ok (.iload 5, 2) ∧ lk (mMsk 109) 116 = none := by decide +kernel
theorem i109_118 : decode (mCd 109) 118 = .ok (.iadd, 1) ∧ lk (mMsk 109) 118 = none := by decide +kernel
theorem i109_119 : decode (mCd 109) 119 = .ok (.lload_n 1, 1) ∧ lk (mMsk 109) 119 = none := by decide +kernel
theorem i109_120 : decode (mCd 109) 120 = .ok (.bipush 8, 2) ∧ lk (mMsk 109) 120 = none := by decide +kernel
theorem i109_122 : decode (mCd 109) 122 = .ok (.iload 5, 2) ∧ lk (mMsk 109) 122 = none := by decide +kernel
theorem i109_124 : decode (mCd 109) 124 = .ok (.imul, 1) ∧ lk (mMsk 109) 124 = none := by decide +kernel
theorem i109_125 : decode (mCd 109) 125 = .ok (.lshr, 1) ∧ lk (mMsk 109) 125 = none := by decide +kernel
theorem i109_126 : decode (mCd 109) 126 = .ok (.l2i, 1) ∧ lk (mMsk 109) 126 = none := by decide +kernel
theorem i109_127 : decode (mCd 109) 127 = .ok (.i2b, 1) ∧ lk (mMsk 109) 127 = none := by decide +kernel
theorem i109_128 : decode (mCd 109) 128 = .ok (.bastore, 1) ∧ lk (mMsk 109) 128 = none := by decide +kernel
theorem i109_129 : decode (mCd 109) 129 = .ok (.iinc 5 1, 3) ∧ lk (mMsk 109) 129 = none := by decide +kernel
theorem i109_132 : decode (mCd 109) 132 = .ok (.goto (-30), 3) ∧ lk (mMsk 109) 132 = none := by decide +kernel
theorem i110_0 : decode (mCd 110) 0 = .ok (.aload_n 0, 1) ∧ lk (mMsk 110) 0 = none := by decide +kernel
theorem i110_1 : decode (mCd 110) 1 = .ok (.getfield 98, 3) ∧ lk (mMsk 110) 1 = none := by decide +kernel
theorem g110_98 : fOk 110 98 9 18 = true := by decide +kernel
theorem i110_4 : decode (mCd 110) 4 = .ok (.istore_n 1, 1) ∧ lk (mMsk 110) 4 = none := by decide +kernel
theorem i110_5 : decode (mCd 110) 5 = .ok (.aload_n 0, 1) ∧ lk (mMsk 110) 5 = none := by decide +kernel
theorem i110_6 : decode (mCd 110) 6 = .ok (.iconst 0, 1) ∧ lk (mMsk 110) 6 = none := by decide +kernel
theorem i110_7 : decode (mCd 110) 7 = .ok (.putfield 98, 3) ∧ lk (mMsk 110) 7 = none := by decide +kernel
theorem p110_98 : pOk 110 98 9 18 = true := by decide +kernel
theorem i110_10 : decode (mCd 110) 10 = .ok (.iload_n 1, 1) ∧ lk (mMsk 110) 10 = none := by decide +kernel
theorem i110_11 : decode (mCd 110) 11 = .ok (.ireturn, 1) ∧ lk (mMsk 110) 11 = none := by decide +kernel
theorem i111_0 : decode (mCd 111) 0 = .ok (.iconst 0, 1) ∧ lk (mMsk 111) 0 = none := by decide +kernel
theorem i111_1 : decode (mCd 111) 1 = .ok (.istore_n 3, 1) ∧ lk (mMsk 111) 1 = none := by decide +kernel
theorem i111_2 : decode (mCd 111) 2 = .ok (.iconst 0, 1) ∧ lk (mMsk 111) 2 = none := by decide +kernel
theorem i111_3 : decode (mCd 111) 3 = .ok (.istore 4, 2) ∧ lk (mMsk 111) 3 = none := by decide +kernel
theorem i111_5 : decode (mCd 111) 5 = .ok (.iload 4, 2) ∧ lk (mMsk 111) 5 = some [true, true, true, true, true] := by decide +kernel
theorem i111_7 : decode (mCd 111) 7 = .ok (.aload_n 0, 1) ∧ lk (mMsk 111) 7 = none := by decide +kernel
theorem i111_8 : decode (mCd 111) 8 = .ok (.getfield 102, 3) ∧ lk (mMsk 111) 8 = none := by decide +kernel
theorem g111_102 : fOk 111 102 9 22 = true := by decide +kernel
theorem i111_11 : decode (mCd 111) 11 = .ok (.if_icmp .ge 63, 3) ∧ lk (mMsk 111) 11 = none := by decide +kernel
theorem i111_74 : decode (mCd 111) 74 = .ok (.iload_n 3, 1) ∧ lk (mMsk 111) 74 = none := by decide +kernel
theorem i111_75 : decode (mCd 111) 75 = .ok (.ireturn, 1) ∧ lk (mMsk 111) 75 = none := by decide +kernel
theorem i111_14 : decode (mCd 111) 14 = .ok (.iload_n 3, 1) ∧ lk (mMsk 111) 14 = none := by decide +kernel
theorem i111_15 : decode (mCd 111) 15 = .ok (.ifCond .ne 47, 3) ∧ lk (mMsk 111) 15 = none := by decide +kernel
theorem i111_18 : decode (mCd 111) 18 = .ok (.aload_n 0, 1) ∧ lk (mMsk 111) 18 = none := by decide +kernel
theorem i111_19 : decode (mCd 111) 19 = .ok (.getfield 48, 3) ∧ lk (mMsk 111) 19 = none := by decide +kernel
theorem g111_48 : fOk 111 48 9 23 = true := by decide +kernel
theorem i111_22 : decode (mCd 111) 22 = .ok (.iload 4, 2) ∧ lk (mMsk 111) 22 = none := by decide +kernel
theorem i111_24 : decode (mCd 111) 24 = .ok (.iaload, 1) ∧ lk (mMsk 111) 24 = none := by decide +kernel
theorem i111_25 : decode (mCd 111) 25 = .ok (.iload_n 1, 1) ∧ lk (mMsk 111) 25 = none := by decide +kernel
theorem i111_26 : decode (mCd 111) 26 = .ok (.if_icmp .ne 14, 3) ∧ lk (mMsk 111) 26 = none := by decide +kernel
theorem i111_29 : decode (mCd 111) 29 = .ok (.aload_n 0, 1) ∧ lk (mMsk 111) 29 = none := by decide +kernel
theorem i111_30 : decode (mCd 111) 30 = .ok (.getfield 51, 3) ∧ lk (mMsk 111) 30 = none := by decide +kernel
theorem g111_51 : fOk 111 51 9 24 = true := by decide +kernel
theorem i111_33 : decode (mCd 111) 33 = .ok (.iload 4, 2) ∧ lk (mMsk 111) 33 = none := by decide +kernel
theorem i111_35 : decode (mCd 111) 35 = .ok (.iaload, 1) ∧ lk (mMsk 111) 35 = none := by decide +kernel
theorem i111_36 : decode (mCd 111) 36 = .ok (.iload_n 2, 1) ∧ lk (mMsk 111) 36 = none := by decide +kernel
theorem i111_37 : decode (mCd 111) 37 = .ok (.if_icmp .eq 25, 3) ∧ lk (mMsk 111) 37 = none := by decide +kernel
theorem i111_62 : decode (mCd 111) 62 = .ok (.iconst 1, 1) ∧ lk (mMsk 111) 62 = some [true, true, true, false, true] := by decide +kernel
theorem i111_40 : decode (mCd 111) 40 = .ok (.aload_n 0, 1) ∧ lk (mMsk 111) 40 = some [true, true, true, false, true] := by decide +kernel
theorem i111_41 : decode (mCd 111) 41 = .ok (.getfield 48, 3) ∧ lk (mMsk 111) 41 = none := by decide +kernel
theorem i111_44 : decode (mCd 111) 44 = .ok (.iload 4, 2) ∧ lk (mMsk 111) 44 = none := by decide +kernel
theorem i111_46 : decode (mCd 111) 46 = .ok (.iaload, 1) ∧ lk (mMsk 111) 46 = none := by decide +kernel
theorem i111_47 : decode (mCd 111) 47 = .ok (.iload_n 2, 1) ∧ lk (mMsk 111) 47 = none := by decide +kernel
theorem i111_48 : decode (mCd 111) 48 = .ok (.if_icmp .ne 18, 3) ∧ lk (mMsk 111) 48 = none := by decide +kernel
theorem i111_51 : decode (mCd 111) 51 = .ok (.aload_n 0, 1) ∧ lk (mMsk 111) 51 = none := by decide +kernel
theorem i111_52 : decode (mCd 111) 52 = .ok (.getfield 51, 3) ∧ lk (mMsk 111) 52 = none := by decide +kernel
theorem i111_55 : decode (mCd 111) 55 = .ok (.iload 4, 2) ∧ lk (mMsk 111) 55 = none := by decide +kernel
theorem i111_57 : decode (mCd 111) 57 = .ok (.iaload, 1) ∧ lk (mMsk 111) 57 = none := by decide +kernel
theorem i111_58 : decode (mCd 111) 58 = .ok (.iload_n 1, 1) ∧ lk (mMsk 111) 58 = none := by decide +kernel
theorem i111_59 : decode (mCd 111) 59 = .ok (.if_icmp .ne 7, 3) ∧ lk (mMsk 111) 59 = none := by decide +kernel
theorem i111_66 : decode (mCd 111) 66 = .ok (.iconst 0, 1) ∧ lk (mMsk 111) 66 = some [true, true, true, false, true] := by decide +kernel
theorem i111_67 : decode (mCd 111) 67 = .ok (.istore_n 3, 1) ∧ lk (mMsk 111) 67 = some [true, true, true, false, true] := by decide +kernel
theorem i111_68 : decode (mCd 111) 68 = .ok (.iinc 4 1, 3) ∧ lk (mMsk 111) 68 = none := by decide +kernel
theorem i111_71 : decode (mCd 111) 71 = .ok (.goto (-66), 3) ∧ lk (mMsk 111) 71 = none := by decide +kernel
theorem i111_63 : decode (mCd 111) 63 = .ok (.goto 4, 3) ∧ lk (mMsk 111) 63 = none := by decide +kernel
theorem i112_0 : decode (mCd 112) 0 = .ok (.iload_n 0, 1) ∧ lk (mMsk 112) 0 = none := by decide +kernel
theorem i112_1 : decode (mCd 112) 1 = .ok (.iconst 0, 1) ∧ lk (mMsk 112) 1 = none := by decide +kernel
theorem i112_2 : decode (mCd 112) 2 = .ok (.bipush 7, 2) ∧ lk (mMsk 112) 2 = none := by decide +kernel
theorem i112_4 : decode (mCd 112) 4 = .ok (.invokestatic 105, 3) ∧ lk (mMsk 112) 4 = none := by decide +kernel
theorem c112_105 : ciOk 112 105 107 3 0 = true := by decide +kernel
theorem i112_7 : decode (mCd 112) 7 = .ok (.ireturn, 1) ∧ lk (mMsk 112) 7 = none := by decide +kernel
theorem i113_0 : decode (mCd 113) 0 = .ok (.iload_n 2, 1) ∧ lk (mMsk 113) 0 = none := by decide +kernel
theorem i113_1 : decode (mCd 113) 1 = .ok (.bipush 48, 2) ∧ lk (mMsk 113) 1 = none := by decide +kernel
theorem i113_3 : decode (mCd 113) 3 = .ok (.isub, 1) ∧ lk (mMsk 113) 3 = none := by decide +kernel
theorem i113_4 : decode (mCd 113) 4 = .ok (.istore_n 3, 1) ∧ lk (mMsk 113) 4 = none := by decide +kernel
theorem i113_5 : decode (mCd 113) 5 = .ok (.iload_n 1, 1) ∧ lk (mMsk 113) 5 = none := by decide +kernel
theorem i113_6 : decode (mCd 113) 6 = .ok (.ifCond .ne 26, 3) ∧ lk (mMsk 113) 6 = none := by decide +kernel
theorem i113_9 : decode (mCd 113) 9 = .ok (.aload_n 0, 1) ∧ lk (mMsk 113) 9 = none := by decide +kernel
theorem i113_10 : decode (mCd 113) 10 = .ok (.getfield 48, 3) ∧ lk (mMsk 113) 10 = none := by decide +kernel
theorem g113_48 : fOk 113 48 9 23 = true := by decide +kernel
theorem i113_13 : decode (mCd 113) 13 = .ok (.aload_n 0, 1) ∧ lk (mMsk 113) 13 = none := by decide +kernel
theorem i113_14 : decode (mCd 113) 14 = .ok (.getfield 102, 3) ∧ lk (mMsk 113) 14 = none := by decide +kernel
theorem g113_102 : fOk 113 102 9 22 = true := by decide +kernel
theorem i113_17 : decode (mCd 113) 17 = .ok (.iload_n 3, 1) ∧ lk (mMsk 113) 17 = none := by decide +kernel
theorem i113_18 : decode (mCd 113) 18 = .ok (.iastore, 1) ∧ lk (mMsk 113) 18 = none := by decide +kernel
theorem i113_19 : decode (mCd 113) 19 = .ok (.iload_n 3, 1) ∧ lk (mMsk 113) 19 = none := by decide +kernel
theorem i113_20 : decode (mCd 113) 20 = .ok (.invokestatic 109, 3) ∧ lk (mMsk 113) 20 = none := by decide +kernel
theorem c113_109 : ciOk 113 109 112 1 0 = true := by decide +kernel
theorem i113_23 : decode (mCd 113) 23 = .ok (.ifCond .eq 7, 3) ∧ lk (mMsk 113) 23 = none := by decide +kernel
theorem i113_30 : decode (mCd 113) 30 = .ok (.iconst (-1), 1) ∧ lk (mMsk 113) 30 = none := by decide +kernel
theorem i113_31 : decode (mCd 113) 31 = .ok (.ireturn, 1) ∧ lk (mMsk 113) 31 = some [false, false, false, false] := by decide +kernel
theorem i113_26 : decode (mCd 113) 26 = .ok (.iconst 1, 1) ∧ lk (mMsk 113) 26 = none := by decide +kernel
theorem i113_27 : decode (mCd 113) 27 = .ok (.goto 4, 3) ∧ lk (mMsk 113) 27 = none := by decide +kernel
theorem i113_32 : decode (mCd 113) 32 = .ok (.iload_n 1, 1) ∧ lk (mMsk 113) 32 = none := by decide +kernel
theorem i113_33 : decode (mCd 113) 33 = .ok (.iconst 1, 1) ∧ lk (mMsk 113) 33 = none := by decide +kernel
theorem i113_34 : decode (mCd 113) 34 = .ok (.if_icmp .ne 74, 3) ∧ lk (mMsk 113) 34 = none := by decide +kernel
theorem i113_37 : decode (mCd 113) 37 = .ok (.iload_n 3, 1) ∧ lk (mMsk 113) 37 = none := by decide +kernel
theorem i113_38 : decode (mCd 113) 38 = .ok (.invokestatic 109, 3) ∧ lk (mMsk 113) 38 = none := by decide +kernel
theorem i113_41 : decode (mCd 113) 41 = .ok (.ifCond .eq 33, 3) ∧ lk (mMsk 113) 41 = none := by decide +kernel
theorem i113_74 : decode (mCd 113) 74 = .ok (.iconst (-1), 1) ∧ lk (mMsk 113) 74 = some [false, false, false, false] := by decide +kernel
theorem i113_44 : decode (mCd 113) 44 = .ok (.iload_n 3, 1) ∧ lk (mMsk 113) 44 = none := by decide +kernel
theorem i113_45 : decode (mCd 113) 45 = .ok (.aload_n 0, 1) ∧ lk (mMsk 113) 45 = none := by decide +kernel
theorem i113_46 : decode (mCd 113) 46 = .ok (.getfield 48, 3) ∧ lk (mMsk 113) 46 = none := by decide +kernel
theorem i113_49 : decode (mCd 113) 49 = .ok (.aload_n 0, 1) ∧ lk (mMsk 113) 49 = none := by decide +kernel
theorem i113_50 : decode (mCd 113) 50 = .ok (.getfield 102, 3) ∧ lk (mMsk 113) 50 = none := by decide +kernel
theorem i113_53 : decode (mCd 113) 53 = .ok (.iaload, 1) ∧ lk (mMsk 113) 53 = none := by decide +kernel
theorem i113_54 : decode (mCd 113) 54 = .ok (.if_icmp .eq 20, 3) ∧ lk (mMsk 113) 54 = none := by decide +kernel
theorem i113_57 : decode (mCd 113) 57 = .ok (.aload_n 0, 1) ∧ lk (mMsk 113) 57 = none := by decide +kernel
theorem i113_58 : decode (mCd 113) 58 = .ok (.aload_n 0, 1) ∧ lk (mMsk 113) 58 = none := by decide +kernel
theorem i113_59 : decode (mCd 113) 59 = .ok (.getfield 48, 3) ∧ lk (mMsk 113) 59 = none := by decide +kernel
theorem i113_62 : decode (mCd 113) 62 = .ok (.aload_n 0, 1) ∧ lk (mMsk 113) 62 = none := by decide +kernel
theorem i113_63 : decode (mCd 113) 63 = .ok (.getfield 102, 3) ∧ lk (mMsk 113) 63 = none := by decide +kernel
theorem i113_66 : decode (mCd 113) 66 = .ok (.iaload, 1) ∧ lk (mMsk 113) 66 = none := by decide +kernel
theorem i113_67 : decode (mCd 113) 67 = .ok (.iload_n 3, 1) ∧ lk (mMsk 113) 67 = none := by decide +kernel
theorem i113_68 : decode (mCd 113) 68 = .ok (.invokevirtual 113, 3) ∧ lk (mMsk 113) 68 = none := by decide +kernel
theorem c113_113 : cvOk 113 113 111 2 0 = true := by decide +kernel
theorem i113_71 : decode (mCd 113) 71 = .ok (.ifCond .eq 5, 3) ∧ lk (mMsk 113) 71 = none := by decide +kernel
theorem i113_76 : decode (mCd 113) 76 = .ok (.aload_n 0, 1) ∧ lk (mMsk 113) 76 = none := by decide +kernel
theorem i113_77 : decode (mCd 113) 77 = .ok (.getfield 51, 3) ∧ lk (mMsk 113) 77 = none := by decide +kernel
theorem g113_51 : fOk 113 51 9 24 = true := by decide +kernel
theorem i113_80 : decode (mCd 113) 80 = .ok (.aload_n 0, 1) ∧ lk (mMsk 113) 80 = none := by decide +kernel
theorem i113_81 : decode (mCd 113) 81 = .ok (.getfield 102, 3) ∧ lk (mMsk 113) 81 = none := by decide +kernel
theorem i113_84 : decode (mCd 113) 84 = .ok (.iload_n 3, 1) ∧ lk (mMsk 113) 84 = none := by decide +kernel
theorem i113_85 : decode (mCd 113) 85 = .ok (.iastore, 1) ∧ lk (mMsk 113) 85 = none := by decide +kernel
theorem i113_86 : decode (mCd 113) 86 = .ok (.aload_n 0, 1) ∧ lk (mMsk 113) 86 = none := by decide +kernel
theorem i113_87 : decode (mCd 113) 87 = .ok (.getfield 54, 3) ∧ lk (mMsk 113) 87 = none := by decide +kernel
theorem g113_54 : fOk 113 54 9 25 = true := by decide +kernel
theorem i113_90 : decode (mCd 113) 90 = .ok (.aload_n 0, 1) ∧ lk (mMsk 113) 90 = none := by decide +kernel
theorem i113_91 : decode (mCd 113) 91 = .ok (.getfield 102, 3) ∧ lk (mMsk 113) 91 = none := by decide +kernel
theorem i113_94 : decode (mCd 113) 94 = .ok (.iconst 0, 1) ∧ lk (mMsk 113) 94 = none := by decide +kernel
theorem i113_95 : decode (mCd 113) 95 = .ok (.bastore, 1) ∧ lk (mMsk 113) 95 = none := by decide +kernel
theorem i113_96 : decode (mCd 113) 96 = .ok (.aload_n 0, 1) ∧ lk (mMsk 113) 96 = none := by decide +kernel
theorem i113_97 : decode (mCd 113) 97 = .ok (.dup, 1) ∧ lk (mMsk 113) 97 = none := by decide +kernel
theorem i113_98 : decode (mCd 113) 98 = .ok (.getfield 102, 3) ∧ lk (mMsk 113) 98 = none := by decide +kernel
theorem i113_101 : decode (mCd 113) 101 = .ok (.iconst 1, 1) ∧ lk (mMsk 113) 101 = none := by decide +kernel
theorem i113_102 : decode (mCd 113) 102 = .ok (.iadd, 1) ∧ lk (mMsk 113) 102 = none := by decide +kernel
theorem i113_103 : decode (mCd 113) 103 = .ok (.putfield 102, 3) ∧ lk (mMsk 113) 103 = none := by decide +kernel
theorem p113_102 : pOk 113 102 9 22 = true := by decide +kernel
theorem i113_106 : decode (mCd 113) 106 = .ok (.iconst 2, 1) ∧ lk (mMsk 113) 106 = none := by decide +kernel
theorem i113_107 : decode (mCd 113) 107 = .ok (.ireturn, 1) ∧ lk (mMsk 113) 107 = none := by decide +kernel
theorem i113_108 : decode (mCd 113) 108 = .ok (.iload_n 1, 1) ∧ lk (mMsk 113) 108 = none := by decide +kernel
theorem i113_109 : decode (mCd 113) 109 = .ok (.iconst 2, 1) ∧ lk (mMsk 113) 109 = none := by decide +kernel
theorem i113_110 : decode (mCd 113) 110 = .ok (.if_icmp .ne 23, 3) ∧ lk (mMsk 113) 110 = none := by decide +kernel
theorem i113_113 : decode (mCd 113) 113 = .ok (.iload_n 2, 1) ∧ lk (mMsk 113) 113 = none := by decide +kernel
theorem i113_114 : decode (mCd 113) 114 = .ok (.bipush 61, 2) ∧ lk (mMsk 113) 114 = none := by decide +kernel
theorem i113_116 : decode (mCd 113) 116 = .ok (.if_icmp .ne 17, 3) ∧ lk (mMsk 113) 116 = none := by decide +kernel
theorem i113_119 : decode (mCd 113) 119 = .ok (.aload_n 0, 1) ∧ lk (mMsk 113) 119 = none := by decide +kernel
theorem i113_120 : decode (mCd 113) 120 = .ok (.getfield 54, 3) ∧ lk (mMsk 113) 120 = none := by decide +kernel
theorem i113_123 : decode (mCd 113) 123 = .ok (.aload_n 0, 1) ∧ lk (mMsk 113) 123 = none := by decide +kernel
theorem i113_124 : decode (mCd 113) 124 = .ok (.getfield 102, 3) ∧ lk (mMsk 113) 124 = none := by decide +kernel
theorem i113_127 : decode (mCd 113) 127 = .ok (.iconst 1, 1) ∧ lk (mMsk 113) 127 = none := by decide +kernel
theorem i113_128 : decode (mCd 113) 128 = .ok (.isub, 1) ∧ lk (mMsk 113) 128 = none := by decide +kernel
theorem i113_129 : decode (mCd 113) 129 = .ok (.iconst 1, 1) ∧ lk (mMsk 113) 129 = none := by decide +kernel
theorem i113_130 : decode (mCd 113) 130 = .ok (.bastore, 1) ∧ lk (mMsk 113) 130 = none := by decide +kernel
theorem i113_131 : decode (mCd 113) 131 = .ok (.iconst 3, 1) ∧ lk (mMsk 113) 131 = none := by decide +kernel
theorem i113_132 : decode (mCd 113) 132 = .ok (.ireturn, 1) ∧ lk (mMsk 113) 132 = none := by decide +kernel
theorem i113_133 : decode (mCd 113) 133 = .ok (.iload_n 1, 1) ∧ lk (mMsk 113) 133 = some [true, true, true, false] := by decide +kernel
theorem i113_134 : decode (mCd 113) 134 = .ok (.iconst 2, 1) ∧ lk (mMsk 113) 134 = none := by decide +kernel
theorem i113_135 : decode (mCd 113) 135 = .ok (.if_icmp .eq 8, 3) ∧ lk (mMsk 113) 135 = none := by decide +kernel
theorem i113_143 : decode (mCd 113) 143 = .ok (.iload_n 2, 1) ∧ lk (mMsk 113) 143 = some [true, false, true, false] := by decide +kernel
theorem i113_138 : decode (mCd 113) 138 = .ok (.iload_n 1, 1) ∧ lk (mMsk 113) 138 = none := by decide +kernel
theorem i113_139 : decode (mCd 113) 139 = .ok (.iconst 3, 1) ∧ lk (mMsk 113) 139 = none := by decide +kernel
theorem i113_140 : decode (mCd 113) 140 = .ok (.if_icmp .ne 34, 3) ∧ lk (mMsk 113) 140 = none := by decide +kernel
theorem i113_174 : decode (mCd 113) 174 = .ok (.iload_n 1, 1) ∧ lk (mMsk 113) 174 = none := by decide +kernel
theorem i113_175 : decode (mCd 113) 175 = .ok (.iconst 4, 1) ∧ lk (mMsk 113) 175 = none := by decide +kernel
theorem i113_176 : decode (mCd 113) 176 = .ok (.if_icmp .ne 16, 3) ∧ lk (mMsk 113) 176 = none := by decide +kernel
theorem i113_179 : decode (mCd 113) 179 = .ok (.iload_n 2, 1) ∧ lk (mMsk 113) 179 = none := by decide +kernel
theorem i113_180 : decode (mCd 113) 180 = .ok (.bipush 100, 2) ∧ lk (mMsk 113) 180 = none := by decide +kernel
theorem i113_182 : decode (mCd 113) 182 = .ok (.if_icmp .ne 10, 3) ∧ lk (mMsk 113) 182 = none := by decide +kernel
theorem i113_185 : decode (mCd 113) 185 = .ok (.aload_n 0, 1) ∧ lk (mMsk 113) 185 = none := by decide +kernel
theorem i113_186 : decode (mCd 113) 186 = .ok (.iconst 1, 1) ∧ lk (mMsk 113) 186 = none := by decide +kernel
theorem i113_187 : decode (mCd 113) 187 = .ok (.putfield 117, 3) ∧ lk (mMsk 113) 187 = none := by decide +kernel
theorem p113_117 : pOk 113 117 9 26 = true := by decide +kernel
theorem i113_190 : decode (mCd 113) 190 = .ok (.iconst 5, 1) ∧ lk (mMsk 113) 190 = none := by decide +kernel
theorem i113_191 : decode (mCd 113) 191 = .ok (.ireturn, 1) ∧ lk (mMsk 113) 191 = none := by decide +kernel
theorem i113_192 : decode (mCd 113) 192 = .ok (.iload_n 1, 1) ∧ lk (mMsk 113) 192 = some [true, true, true, false] := by decide +kernel
theorem i113_193 : decode (mCd 113) 193 = .ok (.bipush 6, 2) ∧ lk (mMsk 113) 193 = none := by decide +kernel
theorem i113_195 : decode (mCd 113) 195 = .ok (.if_icmp .ge 17, 3) ∧ lk (mMsk 113) 195 = none := by decide +kernel
theorem i113_212 : decode (mCd 113) 212 = .ok (.iconst (-1), 1) ∧ lk (mMsk 113) 212 = some [false, false, false, false] := by decide +kernel
theorem i113_198 : decode (mCd 113) 198 = .ok (.iload_n 2, 1) ∧ lk (mMsk 113) 198 = none := by decide +kernel
theorem i113_199 : decode (mCd 113) 199 = .ok (.bipush 119, 2) ∧ lk (mMsk 113) 199 = none := by decide +kernel
theorem i113_201 : decode (mCd 113) 201 = .ok (.if_icmp .ne 11, 3) ∧ lk (mMsk 113) 201 = none := by decide +kernel
theorem i113_204 : decode (mCd 113) 204 = .ok (.aload_n 0, 1) ∧ lk (mMsk 113) 204 = none := by decide +kernel
theorem i113_205 : decode (mCd 113) 205 = .ok (.iconst 1, 1) ∧ lk (mMsk 113) 205 = none := by decide +kernel
theorem i113_206 : decode (mCd 113) 206 = .ok (.putfield 121, 3) ∧ lk (mMsk 113) 206 = none := by decide +kernel
theorem p113_121 : pOk 113 121 9 27 = true := by decide +kernel
theorem i113_209 : decode (mCd 113) 209 = .ok (.bipush 6, 2) ∧ lk (mMsk 113) 209 = none := by decide +kernel
theorem i113_211 : decode (mCd 113) 211 = .ok (.ireturn, 1) ∧ lk (mMsk 113) 211 = none := by decide +kernel
theorem i113_213 : decode (mCd 113) 213 = .ok (.ireturn, 1) ∧ lk (mMsk 113) 213 = none := by decide +kernel
theorem i113_144 : decode (mCd 113) 144 = .ok (.bipush 44, 2) ∧ lk (mMsk 113) 144 = none := by decide +kernel
theorem i113_146 : decode (mCd 113) 146 = .ok (.if_icmp .ne 16, 3) ∧ lk (mMsk 113) 146 = none := by decide +kernel
theorem i113_149 : decode (mCd 113) 149 = .ok (.aload_n 0, 1) ∧ lk (mMsk 113) 149 = none := by decide +kernel
theorem i113_150 : decode (mCd 113) 150 = .ok (.getfield 102, 3) ∧ lk (mMsk 113) 150 = none := by decide +kernel
theorem i113_153 : decode (mCd 113) 153 = .ok (.bipush 12, 2) ∧ lk (mMsk 113) 153 = none := by decide +kernel
theorem i113_155 : decode (mCd 113) 155 = .ok (.if_icmp .ge 7, 3) ∧ lk (mMsk 113) 155 = none := by decide +kernel
theorem i113_162 : decode (mCd 113) 162 = .ok (.iload_n 2, 1) ∧ lk (mMsk 113) 162 = some [false, false, true, false] := by decide +kernel
theorem i113_158 : decode (mCd 113) 158 = .ok (.iconst 0, 1) ∧ lk (mMsk 113) 158 = none := by decide +kernel
theorem i113_159 : decode (mCd 113) 159 = .ok (.goto 14, 3) ∧ lk (mMsk 113) 159 = none := by decide +kernel
theorem i113_173 : decode (mCd 113) 173 = .ok (.ireturn, 1) ∧ lk (mMsk 113) 173 = some [false, false, false, false] := by decide +kernel
theorem i113_163 : decode (mCd 113) 163 = .ok (.bipush 59, 2) ∧ lk (mMsk 113) 163 = none := by decide +kernel
theorem i113_165 : decode (mCd 113) 165 = .ok (.if_icmp .ne 7, 3) ∧ lk (mMsk 113) 165 = none := by decide +kernel
theorem i113_168 : decode (mCd 113) 168 = .ok (.iconst 4, 1) ∧ lk (mMsk 113) 168 = none := by decide +kernel
theorem i113_169 : decode (mCd 113) 169 = .ok (.goto 4, 3) ∧ lk (mMsk 113) 169 = none := by decide +kernel
theorem i113_172 : decode (mCd 113) 172 = .ok (.iconst (-1), 1) ∧ lk (mMsk 113) 172 = none := by decide +kernel
theorem i113_75 : decode (mCd 113) 75 = .ok (.ireturn, 1) ∧ lk (mMsk 113) 75 = none := by decide +kernel
theorem i114_0 : decode (mCd 114) 0 = .ok (.aload_n 0, 1) ∧ lk (mMsk 114) 0 = none := by decide +kernel
theorem i114_1 : decode (mCd 114) 1 = .ok (.iconst 0, 1) ∧ lk (mMsk 114) 1 = none := by decide +kernel
theorem i114_2 : decode (mCd 114) 2 = .ok (.putfield 102, 3) ∧ lk (mMsk 114) 2 = none := by decide +kernel
theorem p114_102 : pOk 114 102 9 22 = true := by decide +kernel
theorem i114_5 : decode (mCd 114) 5 = .ok (.aload_n 0, 1) ∧ lk (mMsk 114) 5 = none := by decide +kernel
theorem i114_6 : decode (mCd 114) 6 = .ok (.iconst 0, 1) ∧ lk (mMsk 114) 6 = none := by decide +kernel
theorem i114_7 : decode (mCd 114) 7 = .ok (.putfield 117, 3) ∧ lk (mMsk 114) 7 = none := by decide +kernel
theorem p114_117 : pOk 114 117 9 26 = true := by decide +kernel
theorem i114_10 : decode (mCd 114) 10 = .ok (.aload_n 0, 1) ∧ lk (mMsk 114) 10 = none := by decide +kernel
theorem i114_11 : decode (mCd 114) 11 = .ok (.iconst 0, 1) ∧ lk (mMsk 114) 11 = none := by decide +kernel
theorem i114_12 : decode (mCd 114) 12 = .ok (.putfield 121, 3) ∧ lk (mMsk 114) 12 = none := by decide +kernel
theorem p114_121 : pOk 114 121 9 27 = true := by decide +kernel
theorem i114_15 : decode (mCd 114) 15 = .ok (.iconst 0, 1) ∧ lk (mMsk 114) 15 = none := by decide +kernel
theorem i114_16 : decode (mCd 114) 16 = .ok (.istore_n 1, 1) ∧ lk (mMsk 114) 16 = none := by decide +kernel
theorem i114_17 : decode (mCd 114) 17 = .ok (.iconst 0, 1) ∧ lk (mMsk 114) 17 = none := by decide +kernel
theorem i114_18 : decode (mCd 114) 18 = .ok (.istore_n 2, 1) ∧ lk (mMsk 114) 18 = none := by decide +kernel
theorem i114_19 : decode (mCd 114) 19 = .ok (.iconst 1, 1) ∧ lk (mMsk 114) 19 = none := by decide +kernel
theorem i114_20 : decode (mCd 114) 20 = .ok (.istore_n 3, 1) ∧ lk (mMsk 114) 20 = none := by decide +kernel
theorem i114_21 : decode (mCd 114) 21 = .ok (.iload_n 2, 1) ∧ lk (mMsk 114) 21 = some [true, true, true, true, false] := by decide +kernel
theorem i114_22 : decode (mCd 114) 22 = .ok (.aload_n 0, 1) ∧ lk (mMsk 114) 22 = none := by decide +kernel
theorem i114_23 : decode (mCd 114) 23 = .ok (.getfield 98, 3) ∧ lk (mMsk 114) 23 = none := by decide +kernel
theorem g114_98 : fOk 114 98 9 18 = true := by decide +kernel
theorem i114_26 : decode (mCd 114) 26 = .ok (.if_icmp .ge 58, 3) ∧ lk (mMsk 114) 26 = none := by decide +kernel
theorem i114_84 : decode (mCd 114) 84 = .ok (.aload_n 0, 1) ∧ lk (mMsk 114) 84 = some [true, true, true, false, false] := by decide +kernel
theorem i114_29 : decode (mCd 114) 29 = .ok (.iload_n 3, 1) ∧ lk (mMsk 114) 29 = none := by decide +kernel
theorem i114_30 : decode (mCd 114) 30 = .ok (.ifCond .eq 54, 3) ∧ lk (mMsk 114) 30 = none := by decide +kernel
theorem i114_33 : decode (mCd 114) 33 = .ok (.aload_n 0, 1) ∧ lk (mMsk 114) 33 = none := by decide +kernel
theorem i114_34 : decode (mCd 114) 34 = .ok (.iload_n 1, 1) ∧ lk (mMsk 114) 34 = none := by decide +kernel
theorem i114_35 : decode (mCd 114) 35 = .ok (.aload_n 0, 1) ∧ lk (mMsk 114) 35 = none := by decide +kernel
theorem i114_36 : decode (mCd 114) 36 = .ok (.getfield 44, 3) ∧ lk (mMsk 114) 36 = none := by decide +kernel
theorem g114_44 : fOk 114 44 9 19 = true := by decide +kernel
theorem i114_39 : decode (mCd 114) 39 = .ok (.iload_n 2, 1) ∧ lk (mMsk 114) 39 = none := by decide +kernel
theorem i114_40 : decode (mCd 114) 40 = .ok (.baload, 1) ∧ lk (mMsk 114) 40 = none := by decide +kernel
theorem i114_41 : decode (mCd 114) 41 = .ok (.invokevirtual 124, 3) ∧ lk (mMsk 114) 41 = none := by decide +kernel
theorem c114_124 : cvOk 114 124 113 2 0 = true := by decide +kernel
theorem i114_44 : decode (mCd 114) 44 = .ok (.istore 4, 2) ∧ lk (mMsk 114) 44 = none := by decide +kernel
theorem i114_46 : decode (mCd 114) 46 = .ok (.iload 4, 2) ∧ lk (mMsk 114) 46 = none := by decide +kernel
theorem i114_48 : decode (mCd 114) 48 = .ok (.iconst (-1), 1) ∧ lk (mMsk 114) 48 = none := by decide +kernel
theorem i114_49 : decode (mCd 114) 49 = .ok (.if_icmp .eq 7, 3) ∧ lk (mMsk 114) 49 = none := by decide +kernel
theorem i114_56 : decode (mCd 114) 56 = .ok (.iconst 0, 1) ∧ lk (mMsk 114) 56 = none := by decide +kernel
theorem i114_57 : decode (mCd 114) 57 = .ok (.istore_n 3, 1) ∧ lk (mMsk 114) 57 = some [true, true, true, false, true] := by decide +kernel
theorem i114_52 : decode (mCd 114) 52 = .ok (.iconst 1, 1) ∧ lk (mMsk 114) 52 = none := by decide +kernel
theorem i114_53 : decode (mCd 114) 53 = .ok (.goto 4, 3) ∧ lk (mMsk 114) 53 = none := by decide +kernel
theorem i114_58 : decode (mCd 114) 58 = .ok (.iload_n 3, 1) ∧ lk (mMsk 114) 58 = none := by decide +kernel
theorem i114_59 : decode (mCd 114) 59 = .ok (.ifCond .eq 8, 3) ∧ lk (mMsk 114) 59 = none := by decide +kernel
theorem i114_67 : decode (mCd 114) 67 = .ok (.iload_n 1, 1) ∧ lk (mMsk 114) 67 = none := by decide +kernel
theorem i114_68 : decode (mCd 114) 68 = .ok (.istore_n 1, 1) ∧ lk (mMsk 114) 68 = some [true, false, true, true, false] := by decide +kernel
theorem i114_62 : decode (mCd 114) 62 = .ok (.iload 4, 2) ∧ lk (mMsk 114) 62 = none := by decide +kernel
theorem i114_64 : decode (mCd 114) 64 = .ok (.goto 4, 3) ∧ lk (mMsk 114) 64 = none := by decide +kernel
theorem i114_69 : decode (mCd 114) 69 = .ok (.iload_n 2, 1) ∧ lk (mMsk 114) 69 = none := by decide +kernel
theorem i114_70 : decode (mCd 114) 70 = .ok (.iload_n 3, 1) ∧ lk (mMsk 114) 70 = none := by decide +kernel
theorem i114_71 : decode (mCd 114) 71 = .ok (.ifCond .eq 7, 3) ∧ lk (mMsk 114) 71 = none := by decide +kernel
theorem i114_78 : decode (mCd 114) 78 = .ok (.iconst 0, 1) ∧ lk (mMsk 114) 78 = none := by decide +kernel
theorem i114_79 : decode (mCd 114) 79 = .ok (.iadd, 1) ∧ lk (mMsk 114) 79 = some [true, true, false, true, false] := by decide +kernel
theorem i114_74 : decode (mCd 114) 74 = .ok (.iconst 1, 1) ∧ lk (mMsk 114) 74 = none := by decide +kernel
theorem i114_75 : decode (mCd 114) 75 = .ok (.goto 4, 3) ∧ lk (mMsk 114) 75 = none := by decide +kernel
theorem i114_80 : decode (mCd 114) 80 = .ok (.istore_n 2, 1) ∧ lk (mMsk 114) 80 = none := by decide +kernel
theorem i114_81 : decode (mCd 114) 81 = .ok (.goto (-60), 3) ∧ lk (mMsk 114) 81 = none := by decide +kernel
theorem i114_85 : decode (mCd 114) 85 = .ok (.iload_n 2, 1) ∧ lk (mMsk 114) 85 = none := by decide +kernel
theorem i114_86 : decode (mCd 114) 86 = .ok (.putfield 128, 3) ∧ lk (mMsk 114) 86 = none := by decide +kernel
theorem p114_128 : pOk 114 128 9 20 = true := by decide +kernel
theorem i114_89 : decode (mCd 114) 89 = .ok (.aload_n 0, 1) ∧ lk (mMsk 114) 89 = none := by decide +kernel
theorem i114_90 : decode (mCd 114) 90 = .ok (.iload_n 2, 1) ∧ lk (mMsk 114) 90 = none := by decide +kernel
theorem i114_91 : decode (mCd 114) 91 = .ok (.aload_n 0, 1) ∧ lk (mMsk 114) 91 = none := by decide +kernel
theorem i114_92 : decode (mCd 114) 92 = .ok (.getfield 98, 3) ∧ lk (mMsk 114) 92 = none := by decide +kernel
theorem i114_95 : decode (mCd 114) 95 = .ok (.if_icmp .ne 17, 3) ∧ lk (mMsk 114) 95 = none := by decide +kernel
theorem i114_98 : decode (mCd 114) 98 = .ok (.iload_n 1, 1) ∧ lk (mMsk 114) 98 = none := by decide +kernel
theorem i114_99 : decode (mCd 114) 99 = .ok (.iconst 1, 1) ∧ lk (mMsk 114) 99 = none := by decide +kernel
theorem i114_100 : decode (mCd 114) 100 = .ok (.if_icmp .le 12, 3) ∧ lk (mMsk 114) 100 = none := by decide +kernel
theorem i114_112 : decode (mCd 114) 112 = .ok (.iconst 0, 1) ∧ lk (mMsk 114) 112 = some [false, false, false, false, false] := by decide +kernel
theorem i114_103 : decode (mCd 114) 103 = .ok (.iload_n 1, 1) ∧ lk (mMsk 114) 103 = none := by decide +kernel
theorem i114_104 : decode (mCd 114) 104 = .ok (.iconst 4, 1) ∧ lk (mMsk 114) 104 = none := by decide +kernel
theorem i114_105 : decode (mCd 114) 105 = .ok (.if_icmp .eq 7, 3) ∧ lk (mMsk 114) 105 = none := by decide +kernel
theorem i114_108 : decode (mCd 114) 108 = .ok (.iconst 1, 1) ∧ lk (mMsk 114) 108 = none := by decide +kernel
theorem i114_109 : decode (mCd 114) 109 = .ok (.goto 4, 3) ∧ lk (mMsk 114) 109 = none := by decide +kernel
theorem i114_113 : decode (mCd 114) 113 = .ok (.putfield 131, 3) ∧ lk (mMsk 114) 113 = some [false, false, false, false, false] := by decide +kernel
theorem p114_131 : pOk 114 131 9 21 = true := by decide +kernel
theorem i114_116 : decode (mCd 114) 116 = .ok (.return_, 1) ∧ lk (mMsk 114) 116 = none := by decide +kernel
theorem i115_0 : decode (mCd 115) 0 = .ok (.iconst 0, 1) ∧ lk (mMsk 115) 0 = none := by decide +kernel
theorem i115_1 : decode (mCd 115) 1 = .ok (.istore_n 1, 1) ∧ lk (mMsk 115) 1 = none := by decide +kernel
theorem i115_2 : decode (mCd 115) 2 = .ok (.iload_n 1, 1) ∧ lk (mMsk 115) 2 = some [true, true] := by decide +kernel
theorem i115_3 : decode (mCd 115) 3 = .ok (.aload_n 0, 1) ∧ lk (mMsk 115) 3 = none := by decide +kernel
theorem i115_4 : decode (mCd 115) 4 = .ok (.getfield 98, 3) ∧ lk (mMsk 115) 4 = none := by decide +kernel
theorem g115_98 : fOk 115 98 9 18 = true := by decide +kernel
theorem i115_7 : decode (mCd 115) 7 = .ok (.if_icmp .ge 30, 3) ∧ lk (mMsk 115) 7 = none := by decide +kernel
theorem i115_37 : decode (mCd 115) 37 = .ok (.aload_n 0, 1) ∧ lk (mMsk 115) 37 = some [true, true] := by decide +kernel
theorem i115_10 : decode (mCd 115) 10 = .ok (.iload_n 1, 1) ∧ lk (mMsk 115) 10 = none := by decide +kernel
theorem i115_11 : decode (mCd 115) 11 = .ok (.bipush 20, 2) ∧ lk (mMsk 115) 11 = none := by decide +kernel
theorem i115_13 : decode (mCd 115) 13 = .ok (.if_icmp .ge 24, 3) ∧ lk (mMsk 115) 13 = none := by decide +kernel
theorem i115_16 : decode (mCd 115) 16 = .ok (.aload_n 0, 1) ∧ lk (mMsk 115) 16 = none := by decide +kernel
theorem i115_17 : decode (mCd 115) 17 = .ok (.getfield 44, 3) ∧ lk (mMsk 115) 17 = none := by decide +kernel
theorem g115_44 : fOk 115 44 9 19 = true := by decide +kernel
theorem i115_20 : decode (mCd 115) 20 = .ok (.iload_n 1, 1) ∧ lk (mMsk 115) 20 = none := by decide +kernel
theorem i115_21 : decode (mCd 115) 21 = .ok (.baload, 1) ∧ lk (mMsk 115) 21 = none := by decide +kernel
theorem i115_22 : decode (mCd 115) 22 = .ok (.bipush 48, 2) ∧ lk (mMsk 115) 22 = none := by decide +kernel
theorem i115_24 : decode (mCd 115) 24 = .ok (.isub, 1) ∧ lk (mMsk 115) 24 = none := by decide +kernel
theorem i115_25 : decode (mCd 115) 25 = .ok (.invokestatic 109, 3) ∧ lk (mMsk 115) 25 = none := by decide +kernel
theorem c115_109 : ciOk 115 109 112 1 0 = true := by decide +kernel
theorem i115_28 : decode (mCd 115) 28 = .ok (.ifCond .eq 9, 3) ∧ lk (mMsk 115) 28 = none := by decide +kernel
theorem i115_31 : decode (mCd 115) 31 = .ok (.iinc 1 1, 3) ∧ lk (mMsk 115) 31 = none := by decide +kernel
theorem i115_34 : decode (mCd 115) 34 = .ok (.goto (-32), 3) ∧ lk (mMsk 115) 34 = none := by decide +kernel
theorem i115_38 : decode (mCd 115) 38 = .ok (.iload_n 1, 1) ∧ lk (mMsk 115) 38 = none := by decide +kernel
theorem i115_39 : decode (mCd 115) 39 = .ok (.putfield 128, 3) ∧ lk (mMsk 115) 39 = none := by decide +kernel
theorem p115_128 : pOk 115 128 9 20 = true := by decide +kernel
theorem i115_42 : decode (mCd 115) 42 = .ok (.aload_n 0, 1) ∧ lk (mMsk 115) 42 = none := by decide +kernel
theorem i115_43 : decode (mCd 115) 43 = .ok (.iload_n 1, 1) ∧ lk (mMsk 115) 43 = none := by decide +kernel
theorem i115_44 : decode (mCd 115) 44 = .ok (.aload_n 0, 1) ∧ lk (mMsk 115) 44 = none := by decide +kernel
theorem i115_45 : decode (mCd 115) 45 = .ok (.getfield 98, 3) ∧ lk (mMsk 115) 45 = none := by decide +kernel
theorem i115_48 : decode (mCd 115) 48 = .ok (.if_icmp .ne 11, 3) ∧ lk (mMsk 115) 48 = none := by decide +kernel
theorem i115_51 : decode (mCd 115) 51 = .ok (.iload_n 1, 1) ∧ lk (mMsk 115) 51 = none := by decide +kernel
theorem i115_52 : decode (mCd 115) 52 = .ok (.ifCond .le 7, 3) ∧ lk (mMsk 115) 52 = none := by decide +kernel
theorem i115_59 : decode (mCd 115) 59 = .ok (.iconst 0, 1) ∧ lk (mMsk 115) 59 = some [false, false] := by decide +kernel
theorem i115_55 : decode (mCd 115) 55 = .ok (.iconst 1, 1) ∧ lk (mMsk 115) 55 = none := by decide +kernel
theorem i115_56 : decode (mCd 115) 56 = .ok (.goto 4, 3) ∧ lk (mMsk 115) 56 = none := by decide +kernel
theorem i115_60 : decode (mCd 115) 60 = .ok (.putfield 131, 3) ∧ lk (mMsk 115) 60 = some [false, false] := by decide +kernel
theorem p115_131 : pOk 115 131 9 21 = true := by decide +kernel
theorem i115_63 : decode (mCd 115) 63 = .ok (.return_, 1) ∧ lk (mMsk 115) 63 = none := by decide +kernel
theorem i116_0 : decode (mCd 116) 0 = .ok (.iload_n 1, 1) ∧ lk (mMsk 116) 0 = none := by decide +kernel
theorem i116_1 : decode (mCd 116) 1 = .ok (.iconst 0, 1) ∧ lk (mMsk 116) 1 = none := by decide +kernel
theorem i116_2 : decode (mCd 116) 2 = .ok (.iconst 1, 1) ∧ lk (mMsk 116) 2 = none := by decide +kernel
theorem i116_3 : decode (mCd 116) 3 = .ok (.invokestatic 105, 3) ∧ lk (mMsk 116) 3 = none := by decide +kernel
theorem c116_105 : ciOk 116 105 107 3 0 = true := by decide +kernel
theorem i116_6 : decode (mCd 116) 6 = .ok (.ifCond .ne 6, 3) ∧ lk (mMsk 116) 6 = none := by decide +kernel
theorem i116_9 : decode (mCd 116) 9 = .ok (.bipush (-102), 2) ∧ lk (mMsk 116) 9 = none := by decide +kernel
theorem i116_11 : decode (mCd 116) 11 = .ok (.ireturn, 1) ∧ lk (mMsk 116) 11 = none := by decide +kernel
theorem i116_12 : decode (mCd 116) 12 = .ok (.iload_n 1, 1) ∧ lk (mMsk 116) 12 = none := by decide +kernel
theorem i116_13 : decode (mCd 116) 13 = .ok (.ifCond .ne 10, 3) ∧ lk (mMsk 116) 13 = none := by decide +kernel
theorem i116_16 : decode (mCd 116) 16 = .ok (.aload_n 0, 1) ∧ lk (mMsk 116) 16 = none := by decide +kernel
theorem i116_17 : decode (mCd 116) 17 = .ok (.invokevirtual 134, 3) ∧ lk (mMsk 116) 17 = none := by decide +kernel
theorem c116_134 : cvOk 116 134 114 0 3 = true := by decide +kernel
theorem i116_20 : decode (mCd 116) 20 = .ok (.goto 7, 3) ∧ lk (mMsk 116) 20 = none := by decide +kernel
theorem i116_27 : decode (mCd 116) 27 = .ok (.aload_n 0, 1) ∧ lk (mMsk 116) 27 = some [true, false] := by decide +kernel
theorem i116_23 : decode (mCd 116) 23 = .ok (.aload_n 0, 1) ∧ lk (mMsk 116) 23 = none := by decide +kernel
theorem i116_24 : decode (mCd 116) 24 = .ok (.invokevirtual 137, 3) ∧ lk (mMsk 116) 24 = none := by decide +kernel
theorem c116_137 : cvOk 116 137 115 0 3 = true := by decide +kernel
theorem i116_28 : decode (mCd 116) 28 = .ok (.getfield 128, 3) ∧ lk (mMsk 116) 28 = none := by decide +kernel
theorem g116_128 : fOk 116 128 9 20 = true := by decide +kernel
theorem i116_31 : decode (mCd 116) 31 = .ok (.ireturn, 1) ∧ lk (mMsk 116) 31 = none := by decide +kernel
theorem i117_0 : decode (mCd 117) 0 = .ok (.aload_n 0, 1) ∧ lk (mMsk 117) 0 = none := by decide +kernel
theorem i117_1 : decode (mCd 117) 1 = .ok (.invokevirtual 134, 3) ∧ lk (mMsk 117) 1 = none := by decide +kernel
theorem c117_134 : cvOk 117 134 114 0 3 = true := by decide +kernel
theorem i117_4 : decode (mCd 117) 4 = .ok (.aload_n 0, 1) ∧ lk (mMsk 117) 4 = none := by decide +kernel
theorem i117_5 : decode (mCd 117) 5 = .ok (.getfield 131, 3) ∧ lk (mMsk 117) 5 = none := by decide +kernel
theorem g117_131 : fOk 117 131 9 21 = true := by decide +kernel
theorem i117_8 : decode (mCd 117) 8 = .ok (.ifCond .ne 6, 3) ∧ lk (mMsk 117) 8 = none := by decide +kernel
theorem i117_11 : decode (mCd 117) 11 = .ok (.bipush (-103), 2) ∧ lk (mMsk 117) 11 = none := by decide +kernel
theorem i117_13 : decode (mCd 117) 13 = .ok (.ireturn, 1) ∧ lk (mMsk 117) 13 = none := by decide +kernel
theorem i117_14 : decode (mCd 117) 14 = .ok (.aload_n 0, 1) ∧ lk (mMsk 117) 14 = none := by decide +kernel
theorem i117_15 : decode (mCd 117) 15 = .ok (.aload_n 0, 1) ∧ lk (mMsk 117) 15 = none := by decide +kernel
theorem i117_16 : decode (mCd 117) 16 = .ok (.getfield 102, 3) ∧ lk (mMsk 117) 16 = none := by decide +kernel
theorem g117_102 : fOk 117 102 9 22 = true := by decide +kernel
theorem i117_19 : decode (mCd 117) 19 = .ok (.putfield 140, 3) ∧ lk (mMsk 117) 19 = none := by decide +kernel
theorem p117_140 : pOk 117 140 9 0 = true := by decide +kernel
theorem i117_22 : decode (mCd 117) 22 = .ok (.iconst 0, 1) ∧ lk (mMsk 117) 22 = none := by decide +kernel
theorem i117_23 : decode (mCd 117) 23 = .ok (.istore_n 1, 1) ∧ lk (mMsk 117) 23 = none := by decide +kernel
theorem i117_24 : decode (mCd 117) 24 = .ok (.iload_n 1, 1) ∧ lk (mMsk 117) 24 = some [true, true] := by decide +kernel
theorem i117_25 : decode (mCd 117) 25 = .ok (.aload_n 0, 1) ∧ lk (mMsk 117) 25 = none := by decide +kernel
theorem i117_26 : decode (mCd 117) 26 = .ok (.getfield 140, 3) ∧ lk (mMsk 117) 26 = none := by decide +kernel
theorem g117_140 : fOk 117 140 9 0 = true := by decide +kernel
theorem i117_29 : decode (mCd 117) 29 = .ok (.if_icmp .ge 45, 3) ∧ lk (mMsk 117) 29 = none := by decide +kernel
theorem i117_74 : decode (mCd 117) 74 = .ok (.aload_n 0, 1) ∧ lk (mMsk 117) 74 = none := by decide +kernel
theorem i117_75 : decode (mCd 117) 75 = .ok (.aload_n 0, 1) ∧ lk (mMsk 117) 75 = none := by decide +kernel
theorem i117_76 : decode (mCd 117) 76 = .ok (.getfield 117, 3) ∧ lk (mMsk 117) 76 = none := by decide +kernel
theorem g117_117 : fOk 117 117 9 26 = true := by decide +kernel
theorem i117_79 : decode (mCd 117) 79 = .ok (.putfield 143, 3) ∧ lk (mMsk 117) 79 = none := by decide +kernel
theorem p117_143 : pOk 117 143 9 4 = true := by decide +kernel
theorem i117_82 : decode (mCd 117) 82 = .ok (.aload_n 0, 1) ∧ lk (mMsk 117) 82 = none := by decide +kernel
theorem i117_83 : decode (mCd 117) 83 = .ok (.aload_n 0, 1) ∧ lk (mMsk 117) 83 = none := by decide +kernel
theorem i117_84 : decode (mCd 117) 84 = .ok (.getfield 121, 3) ∧ lk (mMsk 117) 84 = none := by decide +kernel
theorem g117_121 : fOk 117 121 9 27 = true := by decide +kernel
theorem i117_87 : decode (mCd 117) 87 = .ok (.putfield 146, 3) ∧ lk (mMsk 117) 87 = none := by decide +kernel
theorem p117_146 : pOk 117 146 9 5 = true := by decide +kernel
theorem i117_90 : decode (mCd 117) 90 = .ok (.aload_n 0, 1) ∧ lk (mMsk 117) 90 = none := by decide +kernel
theorem i117_91 : decode (mCd 117) 91 = .ok (.dup, 1) ∧ lk (mMsk 117) 91 = none := by decide +kernel
theorem i117_92 : decode (mCd 117) 92 = .ok (.getfield 149, 3) ∧ lk (mMsk 117) 92 = none := by decide +kernel
theorem g117_149 : fOk 117 149 9 6 = true := by decide +kernel
theorem i117_95 : decode (mCd 117) 95 = .ok (.iconst 1, 1) ∧ lk (mMsk 117) 95 = none := by decide +kernel
theorem i117_96 : decode (mCd 117) 96 = .ok (.iadd, 1) ∧ lk (mMsk 117) 96 = none := by decide +kernel
theorem i117_97 : decode (mCd 117) 97 = .ok (.putfield 149, 3) ∧ lk (mMsk 117) 97 = none := by decide +kernel
theorem p117_149 : pOk 117 149 9 6 = true := by decide +kernel
theorem i117_100 : decode (mCd 117) 100 = .ok (.aload_n 0, 1) ∧ lk (mMsk 117) 100 = none := by decide +kernel
theorem i117_101 : decode (mCd 117) 101 = .ok (.iconst 0, 1) ∧ lk (mMsk 117) 101 = none := by decide +kernel
theorem i117_102 : decode (mCd 117) 102 = .ok (.putfield 152, 3) ∧ lk (mMsk 117) 102 = none := by decide +kernel
theorem p117_152 : pOk 117 152 9 7 = true := by decide +kernel
theorem i117_105 : decode (mCd 117) 105 = .ok (.aload_n 0, 1) ∧ lk (mMsk 117) 105 = none := by decide +kernel
theorem i117_106 : decode (mCd 117) 106 = .ok (.iconst 0, 1) ∧ lk (mMsk 117) 106 = none := by decide +kernel
theorem i117_107 : decode (mCd 117) 107 = .ok (.putfield 155, 3) ∧ lk (mMsk 117) 107 = none := by decide +kernel
theorem p117_155 : pOk 117 155 9 16 = true := by decide +kernel
theorem i117_110 : decode (mCd 117) 110 = .ok (.iconst 0, 1) ∧ lk (mMsk 117) 110 = none := by decide +kernel
theorem i117_111 : decode (mCd 117) 111 = .ok (.istore_n 1, 1) ∧ lk (mMsk 117) 111 = none := by decide +kernel
theorem i117_112 : decode (mCd 117) 112 = .ok (.iload_n 1, 1) ∧ lk (mMsk 117) 112 = some [true, true] := by decide +kernel
theorem i117_32 : decode (mCd 117) 32 = .ok (.aload_n 0, 1) ∧ lk (mMsk 117) 32 = none := by decide +kernel
theorem i117_33 : decode (mCd 117) 33 = .ok (.getfield 7, 3) ∧ lk (mMsk 117) 33 = none := by decide +kernel
theorem g117_7 : fOk 117 7 9 1 = true := by decide +kernel
theorem i117_36 : decode (mCd 117) 36 = .ok (.iload_n 1, 1) ∧ lk (mMsk 117) 36 = none := by decide +kernel
theorem i117_37 : decode (mCd 117) 37 = .ok (.aload_n 0, 1) ∧ lk (mMsk 117) 37 = none := by decide +kernel
theorem i117_38 : decode (mCd 117) 38 = .ok (.getfield 48, 3) ∧ lk (mMsk 117) 38 = none := by decide +kernel
theorem g117_48 : fOk 117 48 9 23 = true := by decide +kernel
theorem i117_41 : decode (mCd 117) 41 = .ok (.iload_n 1, 1) ∧ lk (mMsk 117) 41 = none := by decide +kernel
theorem i117_42 : decode (mCd 117) 42 = .ok (.iaload, 1) ∧ lk (mMsk 117) 42 = none := by decide +kernel
theorem i117_43 : decode (mCd 117) 43 = .ok (.iastore, 1) ∧ lk (mMsk 117) 43 = none := by decide +kernel
theorem i117_44 : decode (mCd 117) 44 = .ok (.aload_n 0, 1) ∧ lk (mMsk 117) 44 = none := by decide +kernel
theorem i117_45 : decode (mCd 117) 45 = .ok (.getfield 13, 3) ∧ lk (mMsk 117) 45 = none := by decide +kernel
theorem g117_13 : fOk 117 13 9 2 = true := by decide +kernel
theorem i117_48 : decode (mCd 117) 48 = .ok (.iload_n 1, 1) ∧ lk (mMsk 117) 48 = none := by decide +kernel
theorem i117_49 : decode (mCd 117) 49 = .ok (.aload_n 0, 1) ∧ lk (mMsk 117) 49 = none := by decide +kernel
theorem i117_50 : decode (mCd 117) 50 = .ok (.getfield 51, 3) ∧ lk (mMsk 117) 50 = none := by decide +kernel
theorem g117_51 : fOk 117 51 9 24 = true := by decide +kernel
theorem i117_53 : decode (mCd 117) 53 = .ok (.iload_n 1, 1) ∧ lk (mMsk 117) 53 = none := by decide +kernel
theorem i117_54 : decode (mCd 117) 54 = .ok (.iaload, 1) ∧ lk (mMsk 117) 54 = none := by decide +kernel
theorem i117_55 : decode (mCd 117) 55 = .ok (.iastore, 1) ∧ lk (mMsk 117) 55 = none := by decide +kernel
theorem i117_56 : decode (mCd 117) 56 = .ok (.aload_n 0, 1) ∧ lk (mMsk 117) 56 = none := by decide +kernel
theorem i117_57 : decode (mCd 117) 57 = .ok (.getfield 16, 3) ∧ lk (mMsk 117) 57 = none := by decide +kernel
theorem g117_16 : fOk 117 16 9 3 = true := by decide +kernel
theorem i117_60 : decode (mCd 117) 60 = .ok (.iload_n 1, 1) ∧ lk (mMsk 117) 60 = none := by decide +kernel
theorem i117_61 : decode (mCd 117) 61 = .ok (.aload_n 0, 1) ∧ lk (mMsk 117) 61 = none := by decide +kernel
theorem i117_62 : decode (mCd 117) 62 = .ok (.getfield 54, 3) ∧ lk (mMsk 117) 62 = none := by decide +kernel
theorem g117_54 : fOk 117 54 9 25 = true := by decide +kernel
theorem i117_65 : decode (mCd 117) 65 = .ok (.iload_n 1, 1) ∧ lk (mMsk 117) 65 = none := by decide +kernel
theorem i117_66 : decode (mCd 117) 66 = .ok (.baload, 1) ∧ lk (mMsk 117) 66 = none := by decide +kernel
theorem i117_67 : decode (mCd 117) 67 = .ok (.bastore, 1) ∧ lk (mMsk 117) 67 = none := by decide +kernel
theorem i117_68 : decode (mCd 117) 68 = .ok (.iinc 1 1, 3) ∧ lk (mMsk 117) 68 = none := by decide +kernel
theorem i117_71 : decode (mCd 117) 71 = .ok (.goto (-47), 3) ∧ lk (mMsk 117) 71 = none := by decide +kernel
theorem i117_113 : decode (mCd 117) 113 = .ok (.bipush 8, 2) ∧ lk (mMsk 117) 113 = none := by decide +kernel
theorem i117_115 : decode (mCd 117) 115 = .ok (.if_icmp .ge 16, 3) ∧ lk (mMsk 117) 115 = none := by decide +kernel
theorem i117_131 : decode (mCd 117) 131 = .ok (.aload_n 0, 1) ∧ lk (mMsk 117) 131 = none := by decide +kernel
theorem i117_132 : decode (mCd 117) 132 = .ok (.iconst 0, 1) ∧ lk (mMsk 117) 132 = none := by decide +kernel
theorem i117_133 : decode (mCd 117) 133 = .ok (.putfield 98, 3) ∧ lk (mMsk 117) 133 = none := by decide +kernel
theorem p117_98 : pOk 117 98 9 18 = true := by decide +kernel
theorem i117_136 : decode (mCd 117) 136 = .ok (.aload_n 0, 1) ∧ lk (mMsk 117) 136 = none := by decide +kernel
theorem i117_137 : decode (mCd 117) 137 = .ok (.getfield 140, 3) ∧ lk (mMsk 117) 137 = none := by decide +kernel
theorem i117_140 : decode (mCd 117) 140 = .ok (.ireturn, 1) ∧ lk (mMsk 117) 140 = none := by decide +kernel
theorem i117_118 : decode (mCd 117) 118 = .ok (.aload_n 0, 1) ∧ lk (mMsk 117) 118 = none := by decide +kernel
theorem i117_119 : decode (mCd 117) 119 = .ok (.getfield 41, 3) ∧ lk (mMsk 117) 119 = none := by decide +kernel
theorem g117_41 : fOk 117 41 9 15 = true := by decide +kernel
theorem i117_122 : decode (mCd 117) 122 = .ok (.iload_n 1, 1) ∧ lk (mMsk 117) 122 = none := by decide +kernel
theorem i117_123 : decode (mCd 117) 123 = .ok (.iconst 0, 1) ∧ lk (mMsk 117) 123 = none := by decide +kernel
theorem i117_124 : decode (mCd 117) 124 = .ok (.iastore, 1) ∧ lk (mMsk 117) 124 = none := by decide +kernel
theorem i117_125 : decode (mCd 117) 125 = .ok (.iinc 1 1, 3) ∧ lk (mMsk 117) 125 = none := by decide +kernel
theorem i117_128 : decode (mCd 117) 128 = .ok (.goto (-16), 3) ∧ lk (mMsk 117) 128 = none := by decide +kernel
theorem i118_0 : decode (mCd 118) 0 = .ok (.iload_n 2, 1) ∧ lk (mMsk 118) 0 = none := by decide +kernel
theorem i118_1 : decode (mCd 118) 1 = .ok (.ifCond .ne 12, 3) ∧ lk (mMsk 118) 1 = none := by decide +kernel
theorem i118_4 : decode (mCd 118) 4 = .ok (.aload_n 0, 1) ∧ lk (mMsk 118) 4 = none := by decide +kernel
theorem i118_5 : decode (mCd 118) 5 = .ok (.getfield 7, 3) ∧ lk (mMsk 118) 5 = none := by decide +kernel
theorem g118_7 : fOk 118 7 9 1 = true := by decide +kernel
theorem i118_8 : decode (mCd 118) 8 = .ok (.iload_n 1, 1) ∧ lk (mMsk 118) 8 = none := by decide +kernel
theorem i118_9 : decode (mCd 118) 9 = .ok (.iaload, 1) ∧ lk (mMsk 118) 9 = none := by decide +kernel
theorem i118_10 : decode (mCd 118) 10 = .ok (.goto 31, 3) ∧ lk (mMsk 118) 10 = none := by decide +kernel
theorem i118_41 : decode (mCd 118) 41 = .ok (.ireturn, 1) ∧ lk (mMsk 118) 41 = some [false, false, false] := by decide +kernel
theorem i118_13 : decode (mCd 118) 13 = .ok (.iload_n 2, 1) ∧ lk (mMsk 118) 13 = none := by decide +kernel
theorem i118_14 : decode (mCd 118) 14 = .ok (.iconst 1, 1) ∧ lk (mMsk 118) 14 = none := by decide +kernel
theorem i118_15 : decode (mCd 118) 15 = .ok (.if_icmp .ne 12, 3) ∧ lk (mMsk 118) 15 = none := by decide +kernel
theorem i118_18 : decode (mCd 118) 18 = .ok (.aload_n 0, 1) ∧ lk (mMsk 118) 18 = none := by decide +kernel
theorem i118_19 : decode (mCd 118) 19 = .ok (.getfield 13, 3) ∧ lk (mMsk 118) 19 = none := by decide +kernel
theorem g118_13 : fOk 118 13 9 2 = true := by decide +kernel
theorem i118_22 : decode (mCd 118) 22 = .ok (.iload_n 1, 1) ∧ lk (mMsk 118) 22 = none := by decide +kernel
theorem i118_23 : decode (mCd 118) 23 = .ok (.iaload, 1) ∧ lk (mMsk 118) 23 = none := by decide +kernel
theorem i118_24 : decode (mCd 118) 24 = .ok (.goto 17, 3) ∧ lk (mMsk 118) 24 = none := by decide +kernel
theorem i118_27 : decode (mCd 118) 27 = .ok (.aload_n 0, 1) ∧ lk (mMsk 118) 27 = none := by decide +kernel
theorem i118_28 : decode (mCd 118) 28 = .ok (.getfield 16, 3) ∧ lk (mMsk 118) 28 = none := by decide +kernel
theorem g118_16 : fOk 118 16 9 3 = true := by decide +kernel
theorem i118_31 : decode (mCd 118) 31 = .ok (.iload_n 1, 1) ∧ lk (mMsk 118) 31 = none := by decide +kernel
theorem i118_32 : decode (mCd 118) 32 = .ok (.baload, 1) ∧ lk (mMsk 118) 32 = none := by decide +kernel
theorem i118_33 : decode (mCd 118) 33 = .ok (.ifCond .eq 7, 3) ∧ lk (mMsk 118) 33 = none := by decide +kernel
theorem i118_40 : decode (mCd 118) 40 = .ok (.iconst 0, 1) ∧ lk (mMsk 118) 40 = none := by decide +kernel
theorem i118_36 : decode (mCd 118) 36 = .ok (.iconst 1, 1) ∧ lk (mMsk 118) 36 = none := by decide +kernel
theorem i118_37 : decode (mCd 118) 37 = .ok (.goto 4, 3) ∧ lk (mMsk 118) 37 = none := by decide +kernel
theorem i119_0 : decode (mCd 119) 0 = .ok (.iload_n 1, 1) ∧ lk (mMsk 119) 0 = none := by decide +kernel
theorem i119_1 : decode (mCd 119) 1 = .ok (.iconst 0, 1) ∧ lk (mMsk 119) 1 = none := by decide +kernel
theorem i119_2 : decode (mCd 119) 2 = .ok (.aload_n 0, 1) ∧ lk (mMsk 119) 2 = none := by decide +kernel
theorem i119_3 : decode (mCd 119) 3 = .ok (.getfield 140, 3) ∧ lk (mMsk 119) 3 = none := by decide +kernel
theorem g119_140 : fOk 119 140 9 0 = true := by decide +kernel
theorem i119_6 : decode (mCd 119) 6 = .ok (.iconst 1, 1) ∧ lk (mMsk 119) 6 = none := by decide +kernel
theorem i119_7 : decode (mCd 119) 7 = .ok (.isub, 1) ∧ lk (mMsk 119) 7 = none := by decide +kernel
theorem i119_8 : decode (mCd 119) 8 = .ok (.invokestatic 105, 3) ∧ lk (mMsk 119) 8 = none := by decide +kernel
theorem c119_105 : ciOk 119 105 107 3 0 = true := by decide +kernel
theorem i119_11 : decode (mCd 119) 11 = .ok (.ifCond .ne 6, 3) ∧ lk (mMsk 119) 11 = none := by decide +kernel
theorem i119_14 : decode (mCd 119) 14 = .ok (.bipush (-101), 2) ∧ lk (mMsk 119) 14 = none := by decide +kernel
theorem i119_16 : decode (mCd 119) 16 = .ok (.ireturn, 1) ∧ lk (mMsk 119) 16 = none := by decide +kernel
theorem i119_17 : decode (mCd 119) 17 = .ok (.iload_n 2, 1) ∧ lk (mMsk 119) 17 = none := by decide +kernel
theorem i119_18 : decode (mCd 119) 18 = .ok (.iconst 0, 1) ∧ lk (mMsk 119) 18 = none := by decide +kernel
theorem i119_19 : decode (mCd 119) 19 = .ok (.iconst 2, 1) ∧ lk (mMsk 119) 19 = none := by decide +kernel
theorem i119_20 : decode (mCd 119) 20 = .ok (.invokestatic 105, 3) ∧ lk (mMsk 119) 20 = none := by decide +kernel
theorem i119_23 : decode (mCd 119) 23 = .ok (.ifCond .eq 12, 3) ∧ lk (mMsk 119) 23 = none := by decide +kernel
theorem i119_35 : decode (mCd 119) 35 = .ok (.bipush (-102), 2) ∧ lk (mMsk 119) 35 = none := by decide +kernel
theorem i119_37 : decode (mCd 119) 37 = .ok (.ireturn, 1) ∧ lk (mMsk 119) 37 = some [false, false, false] := by decide +kernel
theorem i119_26 : decode (mCd 119) 26 = .ok (.aload_n 0, 1) ∧ lk (mMsk 119) 26 = none := by decide +kernel
theorem i119_27 : decode (mCd 119) 27 = .ok (.iload_n 1, 1) ∧ lk (mMsk 119) 27 = none := by decide +kernel
theorem i119_28 : decode (mCd 119) 28 = .ok (.iload_n 2, 1) ∧ lk (mMsk 119) 28 = none := by decide +kernel
theorem i119_29 : decode (mCd 119) 29 = .ok (.invokevirtual 158, 3) ∧ lk (mMsk 119) 29 = none := by decide +kernel
theorem c119_158 : cvOk 119 158 118 2 0 = true := by decide +kernel
theorem i119_32 : decode (mCd 119) 32 = .ok (.goto 5, 3) ∧ lk (mMsk 119) 32 = none := by decide +kernel
theorem i120_0 : decode (mCd 120) 0 = .ok (.iconst 0, 1) ∧ lk (mMsk 120) 0 = none := by decide +kernel
theorem i120_1 : decode (mCd 120) 1 = .ok (.istore_n 3, 1) ∧ lk (mMsk 120) 1 = none := by decide +kernel
theorem i120_2 : decode (mCd 120) 2 = .ok (.iload_n 3, 1) ∧ lk (mMsk 120) 2 = some [true, true, true, true] := by decide +kernel
theorem i120_3 : decode (mCd 120) 3 = .ok (.aload_n 0, 1) ∧ lk (mMsk 120) 3 = none := by decide +kernel
theorem i120_4 : decode (mCd 120) 4 = .ok (.getfield 140, 3) ∧ lk (mMsk 120) 4 = none := by decide +kernel
theorem g120_140 : fOk 120 140 9 0 = true := by decide +kernel
theorem i120_7 : decode (mCd 120) 7 = .ok (.if_icmp .ge 51, 3) ∧ lk (mMsk 120) 7 = none := by decide +kernel
theorem i120_58 : decode (mCd 120) 58 = .ok (.iconst (-1), 1) ∧ lk (mMsk 120) 58 = none := by decide +kernel
theorem i120_59 : decode (mCd 120) 59 = .ok (.ireturn, 1) ∧ lk (mMsk 120) 59 = none := by decide +kernel
theorem i120_10 : decode (mCd 120) 10 = .ok (.aload_n 0, 1) ∧ lk (mMsk 120) 10 = none := by decide +kernel
theorem i120_11 : decode (mCd 120) 11 = .ok (.getfield 7, 3) ∧ lk (mMsk 120) 11 = none := by decide +kernel
theorem g120_7 : fOk 120 7 9 1 = true := by decide +kernel
theorem i120_14 : decode (mCd 120) 14 = .ok (.iload_n 3, 1) ∧ lk (mMsk 120) 14 = none := by decide +kernel
theorem i120_15 : decode (mCd 120) 15 = .ok (.iaload, 1) ∧ lk (mMsk 120) 15 = none := by decide +kernel
theorem i120_16 : decode (mCd 120) 16 = .ok (.iload_n 1, 1) ∧ lk (mMsk 120) 16 = none := by decide +kernel
theorem i120_17 : decode (mCd 120) 17 = .ok (.if_icmp .ne 13, 3) ∧ lk (mMsk 120) 17 = none := by decide +kernel
theorem i120_20 : decode (mCd 120) 20 = .ok (.aload_n 0, 1) ∧ lk (mMsk 120) 20 = none := by decide +kernel
theorem i120_21 : decode (mCd 120) 21 = .ok (.getfield 13, 3) ∧ lk (mMsk 120) 21 = none := by decide +kernel
theorem g120_13 : fOk 120 13 9 2 = true := by decide +kernel
theorem i120_24 : decode (mCd 120) 24 = .ok (.iload_n 3, 1) ∧ lk (mMsk 120) 24 = none := by decide +kernel
theorem i120_25 : decode (mCd 120) 25 = .ok (.iaload, 1) ∧ lk (mMsk 120) 25 = none := by decide +kernel
theorem i120_26 : decode (mCd 120) 26 = .ok (.iload_n 2, 1) ∧ lk (mMsk 120) 26 = none := by decide +kernel
theorem i120_27 : decode (mCd 120) 27 = .ok (.if_icmp .eq 23, 3) ∧ lk (mMsk 120) 27 = none := by decide +kernel
theorem i120_50 : decode (mCd 120) 50 = .ok (.iload_n 3, 1) ∧ lk (mMsk 120) 50 = some [false, false, false, true] := by decide +kernel
theorem i120_30 : decode (mCd 120) 30 = .ok (.aload_n 0, 1) ∧ lk (mMsk 120) 30 = some [true, true, true, true] := by decide +kernel
theorem i120_31 : decode (mCd 120) 31 = .ok (.getfield 7, 3) ∧ lk (mMsk 120) 31 = none := by decide +kernel
theorem i120_34 : decode (mCd 120) 34 = .ok (.iload_n 3, 1) ∧ lk (mMsk 120) 34 = none := by decide +kernel
theorem i120_35 : decode (mCd 120) 35 = .ok (.iaload, 1) ∧ lk (mMsk 120) 35 = none := by decide +kernel
theorem i120_36 : decode (mCd 120) 36 = .ok (.iload_n 2, 1) ∧ lk (mMsk 120) 36 = none := by decide +kernel
theorem i120_37 : decode (mCd 120) 37 = .ok (.if_icmp .ne 15, 3) ∧ lk (mMsk 120) 37 = none := by decide +kernel
theorem i120_40 : decode (mCd 120) 40 = .ok (.aload_n 0, 1) ∧ lk (mMsk 120) 40 = none := by decide +kernel
theorem i120_41 : decode (mCd 120) 41 = .ok (.getfield 13, 3) ∧ lk (mMsk 120) 41 = none := by decide +kernel
theorem i120_44 : decode (mCd 120) 44 = .ok (.iload_n 3, 1) ∧ lk (mMsk 120) 44 = none := by decide +kernel
theorem i120_45 : decode (mCd 120) 45 = .ok (.iaload, 1) ∧ lk (mMsk 120) 45 = none := by decide +kernel
theorem i120_46 : decode (mCd 120) 46 = .ok (.iload_n 1, 1) ∧ lk (mMsk 120) 46 = none := by decide +kernel
theorem i120_47 : decode (mCd 120) 47 = .ok (.if_icmp .ne 5, 3) ∧ lk (mMsk 120) 47 = none := by decide +kernel
theorem i120_52 : decode (mCd 120) 52 = .ok (.iinc 3 1, 3) ∧ lk (mMsk 120) 52 = some [true, true, true, true] := by decide +kernel
theorem i120_55 : decode (mCd 120) 55 = .ok (.goto (-53), 3) ∧ lk (mMsk 120) 55 = none := by decide +kernel
theorem i120_51 : decode (mCd 120) 51 = .ok (.ireturn, 1) ∧ lk (mMsk 120) 51 = none := by decide +kernel
theorem i121_0 : decode (mCd 121) 0 = .ok (.iload_n 1, 1) ∧ lk (mMsk 121) 0 = none := by decide +kernel
theorem i121_1 : decode (mCd 121) 1 = .ok (.iconst 0, 1) ∧ lk (mMsk 121) 1 = none := by decide +kernel
theorem i121_2 : decode (mCd 121) 2 = .ok (.aload_n 0, 1) ∧ lk (mMsk 121) 2 = none := by decide +kernel
theorem i121_3 : decode (mCd 121) 3 = .ok (.getfield 152, 3) ∧ lk (mMsk 121) 3 = none := by decide +kernel
theorem g121_152 : fOk 121 152 9 7 = true := by decide +kernel
theorem i121_6 : decode (mCd 121) 6 = .ok (.iconst 1, 1) ∧ lk (mMsk 121) 6 = none := by decide +kernel
theorem i121_7 : decode (mCd 121) 7 = .ok (.isub, 1) ∧ lk (mMsk 121) 7 = none := by decide +kernel
theorem i121_8 : decode (mCd 121) 8 = .ok (.invokestatic 105, 3) ∧ lk (mMsk 121) 8 = none := by decide +kernel
theorem c121_105 : ciOk 121 105 107 3 0 = true := by decide +kernel
theorem i121_11 : decode (mCd 121) 11 = .ok (.ireturn, 1) ∧ lk (mMsk 121) 11 = none := by decide +kernel
theorem i122_0 : decode (mCd 122) 0 = .ok (.iload_n 2, 1) ∧ lk (mMsk 122) 0 = none := by decide +kernel
theorem i122_1 : decode (mCd 122) 1 = .ok (.invokestatic 109, 3) ∧ lk (mMsk 122) 1 = none := by decide +kernel
theorem c122_109 : ciOk 122 109 112 1 0 = true := by decide +kernel
theorem i122_4 : decode (mCd 122) 4 = .ok (.ifCond .eq 10, 3) ∧ lk (mMsk 122) 4 = none := by decide +kernel
theorem i122_14 : decode (mCd 122) 14 = .ok (.bipush (-101), 2) ∧ lk (mMsk 122) 14 = some [false, false, false, false, false] := by decide +kernel
theorem i122_7 : decode (mCd 122) 7 = .ok (.iload_n 3, 1) ∧ lk (mMsk 122) 7 = none := by decide +kernel
theorem i122_8 : decode (mCd 122) 8 = .ok (.invokestatic 109, 3) ∧ lk (mMsk 122) 8 = none := by decide +kernel
theorem i122_11 : decode (mCd 122) 11 = .ok (.ifCond .ne 6, 3) ∧ lk (mMsk 122) 11 = none := by decide +kernel
theorem i122_17 : decode (mCd 122) 17 = .ok (.iload_n 1, 1) ∧ lk (mMsk 122) 17 = none := by decide +kernel
theorem i122_18 : decode (mCd 122) 18 = .ok (.iconst 0, 1) ∧ lk (mMsk 122) 18 = none := by decide +kernel
theorem i122_19 : decode (mCd 122) 19 = .ok (.iconst 3, 1) ∧ lk (mMsk 122) 19 = none := by decide +kernel
theorem i122_20 : decode (mCd 122) 20 = .ok (.invokestatic 105, 3) ∧ lk (mMsk 122) 20 = none := by decide +kernel
theorem c122_105 : ciOk 122 105 107 3 0 = true := by decide +kernel
theorem i122_23 : decode (mCd 122) 23 = .ok (.ifCond .eq 14, 3) ∧ lk (mMsk 122) 23 = none := by decide +kernel
theorem i122_37 : decode (mCd 122) 37 = .ok (.bipush (-102), 2) ∧ lk (mMsk 122) 37 = some [false, false, false, false, false] := by decide +kernel
theorem i122_26 : decode (mCd 122) 26 = .ok (.iload 4, 2) ∧ lk (mMsk 122) 26 = none := by decide +kernel
theorem i122_28 : decode (mCd 122) 28 = .ok (.iconst 0, 1) ∧ lk (mMsk 122) 28 = none := by decide +kernel
theorem i122_29 : decode (mCd 122) 29 = .ok (.bipush 20, 2) ∧ lk (mMsk 122) 29 = none := by decide +kernel
theorem i122_31 : decode (mCd 122) 31 = .ok (.invokestatic 105, 3) ∧ lk (mMsk 122) 31 = none := by decide +kernel
theorem i122_34 : decode (mCd 122) 34 = .ok (.ifCond .ne 6, 3) ∧ lk (mMsk 122) 34 = none := by decide +kernel
theorem i122_40 : decode (mCd 122) 40 = .ok (.aload_n 0, 1) ∧ lk (mMsk 122) 40 = none := by decide +kernel
theorem i122_41 : decode (mCd 122) 41 = .ok (.getfield 149, 3) ∧ lk (mMsk 122) 41 = none := by decide +kernel
theorem g122_149 : fOk 122 149 9 6 = true := by decide +kernel
theorem i122_44 : decode (mCd 122) 44 = .ok (.ifCond .ne 6, 3) ∧ lk (mMsk 122) 44 = none := by decide +kernel
theorem i122_47 : decode (mCd 122) 47 = .ok (.bipush (-103), 2) ∧ lk (mMsk 122) 47 = none := by decide +kernel
theorem i122_49 : decode (mCd 122) 49 = .ok (.ireturn, 1) ∧ lk (mMsk 122) 49 = none := by decide +kernel
theorem i122_50 : decode (mCd 122) 50 = .ok (.aload_n 0, 1) ∧ lk (mMsk 122) 50 = none := by decide +kernel
theorem i122_51 : decode (mCd 122) 51 = .ok (.getfield 152, 3) ∧ lk (mMsk 122) 51 = none := by decide +kernel
theorem g122_152 : fOk 122 152 9 7 = true := by decide +kernel
theorem i122_54 : decode (mCd 122) 54 = .ok (.iconst 5, 1) ∧ lk (mMsk 122) 54 = none := by decide +kernel
theorem i122_55 : decode (mCd 122) 55 = .ok (.if_icmp .ne 6, 3) ∧ lk (mMsk 122) 55 = none := by decide +kernel
theorem i122_58 : decode (mCd 122) 58 = .ok (.bipush (-104), 2) ∧ lk (mMsk 122) 58 = none := by decide +kernel
theorem i122_60 : decode (mCd 122) 60 = .ok (.ireturn, 1) ∧ lk (mMsk 122) 60 = none := by decide +kernel
theorem i122_61 : decode (mCd 122) 61 = .ok (.aload_n 0, 1) ∧ lk (mMsk 122) 61 = none := by decide +kernel
theorem i122_62 : decode (mCd 122) 62 = .ok (.getfield 20, 3) ∧ lk (mMsk 122) 62 = none := by decide +kernel
theorem g122_20 : fOk 122 20 9 8 = true := by decide +kernel
theorem i122_65 : decode (mCd 122) 65 = .ok (.aload_n 0, 1) ∧ lk (mMsk 122) 65 = none := by decide +kernel
theorem i122_66 : decode (mCd 122) 66 = .ok (.getfield 152, 3) ∧ lk (mMsk 122) 66 = none := by decide +kernel
theorem i122_69 : decode (mCd 122) 69 = .ok (.iload_n 1, 1) ∧ lk (mMsk 122) 69 = none := by decide +kernel
theorem i122_70 : decode (mCd 122) 70 = .ok (.iastore, 1) ∧ lk (mMsk 122) 70 = none := by decide +kernel
theorem i122_71 : decode (mCd 122) 71 = .ok (.aload_n 0, 1) ∧ lk (mMsk 122) 71 = none := by decide +kernel
theorem i122_72 : decode (mCd 122) 72 = .ok (.getfield 23, 3) ∧ lk (mMsk 122) 72 = none := by decide +kernel
theorem g122_23 : fOk 122 23 9 9 = true := by decide +kernel
theorem i122_75 : decode (mCd 122) 75 = .ok (.aload_n 0, 1) ∧ lk (mMsk 122) 75 = none := by decide +kernel
theorem i122_76 : decode (mCd 122) 76 = .ok (.getfield 152, 3) ∧ lk (mMsk 122) 76 = none := by decide +kernel
theorem i122_79 : decode (mCd 122) 79 = .ok (.iload_n 2, 1) ∧ lk (mMsk 122) 79 = none := by decide +kernel
theorem i122_80 : decode (mCd 122) 80 = .ok (.iastore, 1) ∧ lk (mMsk 122) 80 = none := by decide +kernel
theorem i122_81 : decode (mCd 122) 81 = .ok (.aload_n 0, 1) ∧ lk (mMsk 122) 81 = none := by decide +kernel
theorem i122_82 : decode (mCd 122) 82 = .ok (.getfield 26, 3) ∧ lk (mMsk 122) 82 = none := by decide +kernel
theorem g122_26 : fOk 122 26 9 10 = true := by decide +kernel
theorem i122_85 : decode (mCd 122) 85 = .ok (.aload_n 0, 1) ∧ lk (mMsk 122) 85 = none := by decide +kernel
theorem i122_86 : decode (mCd 122) 86 = .ok (.getfield 152, 3) ∧ lk (mMsk 122) 86 = none := by decide +kernel
theorem i122_89 : decode (mCd 122) 89 = .ok (.iload_n 3, 1) ∧ lk (mMsk 122) 89 = none := by decide +kernel
theorem i122_90 : decode (mCd 122) 90 = .ok (.iastore, 1) ∧ lk (mMsk 122) 90 = none := by decide +kernel
theorem i122_91 : decode (mCd 122) 91 = .ok (.aload_n 0, 1) ∧ lk (mMsk 122) 91 = none := by decide +kernel
theorem i122_92 : decode (mCd 122) 92 = .ok (.getfield 29, 3) ∧ lk (mMsk 122) 92 = none := by decide +kernel
theorem g122_29 : fOk 122 29 9 11 = true := by decide +kernel
theorem i122_95 : decode (mCd 122) 95 = .ok (.aload_n 0, 1) ∧ lk (mMsk 122) 95 = none := by decide +kernel
theorem i122_96 : decode (mCd 122) 96 = .ok (.getfield 152, 3) ∧ lk (mMsk 122) 96 = none := by decide +kernel
theorem i122_99 : decode (mCd 122) 99 = .ok (.iload 4, 2) ∧ lk (mMsk 122) 99 = none := by decide +kernel
theorem i122_101 : decode (mCd 122) 101 = .ok (.iastore, 1) ∧ lk (mMsk 122) 101 = none := by decide +kernel
theorem i122_102 : decode (mCd 122) 102 = .ok (.aload_n 0, 1) ∧ lk (mMsk 122) 102 = none := by decide +kernel
theorem i122_103 : decode (mCd 122) 103 = .ok (.getfield 35, 3) ∧ lk (mMsk 122) 103 = none := by decide +kernel
theorem g122_35 : fOk 122 35 9 13 = true := by decide +kernel
theorem i122_106 : decode (mCd 122) 106 = .ok (.aload_n 0, 1) ∧ lk (mMsk 122) 106 = none := by decide +kernel
theorem i122_107 : decode (mCd 122) 107 = .ok (.getfield 152, 3) ∧ lk (mMsk 122) 107 = none := by decide +kernel
theorem i122_110 : decode (mCd 122) 110 = .ok (.iconst 0, 1) ∧ lk (mMsk 122) 110 = none := by decide +kernel
theorem i122_111 : decode (mCd 122) 111 = .ok (.iastore, 1) ∧ lk (mMsk 122) 111 = none := by decide +kernel
theorem i122_112 : decode (mCd 122) 112 = .ok (.aload_n 0, 1) ∧ lk (mMsk 122) 112 = none := by decide +kernel
theorem i122_113 : decode (mCd 122) 113 = .ok (.getfield 38, 3) ∧ lk (mMsk 122) 113 = none := by decide +kernel
theorem g122_38 : fOk 122 38 9 14 = true := by decide +kernel
theorem i122_116 : decode (mCd 122) 116 = .ok (.aload_n 0, 1) ∧ lk (mMsk 122) 116 = none := by decide +kernel
theorem i122_117 : decode (mCd 122) 117 = .ok (.getfield 152, 3) ∧ lk (mMsk 122) 117 = none := by decide +kernel
theorem i122_120 : decode (mCd 122) 120 = .ok (.iconst 0, 1) ∧ lk (mMsk 122) 120 = none := by decide +kernel
theorem i122_121 : decode (mCd 122) 121 = .ok (.iastore, 1) ∧ lk (mMsk 122) 121 = none := by decide +kernel
theorem i122_122 : decode (mCd 122) 122 = .ok (.aload_n 0, 1) ∧ lk (mMsk 122) 122 = none := by decide +kernel
theorem i122_123 : decode (mCd 122) 123 = .ok (.dup, 1) ∧ lk (mMsk 122) 123 = none := by decide +kernel
theorem i122_124 : decode (mCd 122) 124 = .ok (.getfield 152, 3) ∧ lk (mMsk 122) 124 = none := by decide +kernel
theorem i122_127 : decode (mCd 122) 127 = .ok (.iconst 1, 1) ∧ lk (mMsk 122) 127 = none := by decide +kernel
theorem i122_128 : decode (mCd 122) 128 = .ok (.iadd, 1) ∧ lk (mMsk 122) 128 = none := by decide +kernel
theorem i122_129 : decode (mCd 122) 129 = .ok (.putfield 152, 3) ∧ lk (mMsk 122) 129 = none := by decide +kernel
theorem p122_152 : pOk 122 152 9 7 = true := by decide +kernel
theorem i122_132 : decode (mCd 122) 132 = .ok (.aload_n 0, 1) ∧ lk (mMsk 122) 132 = none := by decide +kernel
theorem i122_133 : decode (mCd 122) 133 = .ok (.getfield 152, 3) ∧ lk (mMsk 122) 133 = none := by decide +kernel
theorem i122_136 : decode (mCd 122) 136 = .ok (.iconst 1, 1) ∧ lk (mMsk 122) 136 = none := by decide +kernel
theorem i122_137 : decode (mCd 122) 137 = .ok (.isub, 1) ∧ lk (mMsk 122) 137 = none := by decide +kernel
theorem i122_138 : decode (mCd 122) 138 = .ok (.ireturn, 1) ∧ lk (mMsk 122) 138 = none := by decide +kernel
theorem i122_39 : decode (mCd 122) 39 = .ok (.ireturn, 1) ∧ lk (mMsk 122) 39 = none := by decide +kernel
theorem i122_16 : decode (mCd 122) 16 = .ok (.ireturn, 1) ∧ lk (mMsk 122) 16 = none := by decide +kernel
theorem i123_0 : decode (mCd 123) 0 = .ok (.aload_n 0, 1) ∧ lk (mMsk 123) 0 = none := by decide +kernel
theorem i123_1 : decode (mCd 123) 1 = .ok (.getfield 20, 3) ∧ lk (mMsk 123) 1 = none := by decide +kernel
theorem g123_20 : fOk 123 20 9 8 = true := by decide +kernel
theorem i123_4 : decode (mCd 123) 4 = .ok (.iload_n 1, 1) ∧ lk (mMsk 123) 4 = none := by decide +kernel
theorem i123_5 : decode (mCd 123) 5 = .ok (.iaload, 1) ∧ lk (mMsk 123) 5 = none := by decide +kernel
theorem i123_6 : decode (mCd 123) 6 = .ok (.iconst 2, 1) ∧ lk (mMsk 123) 6 = none := by decide +kernel
theorem i123_7 : decode (mCd 123) 7 = .ok (.if_icmp .ne 15, 3) ∧ lk (mMsk 123) 7 = none := by decide +kernel
theorem i123_10 : decode (mCd 123) 10 = .ok (.aload_n 0, 1) ∧ lk (mMsk 123) 10 = none := by decide +kernel
theorem i123_11 : decode (mCd 123) 11 = .ok (.getfield 29, 3) ∧ lk (mMsk 123) 11 = none := by decide +kernel
theorem g123_29 : fOk 123 29 9 11 = true := by decide +kernel
theorem i123_14 : decode (mCd 123) 14 = .ok (.iload_n 1, 1) ∧ lk (mMsk 123) 14 = none := by decide +kernel
theorem i123_15 : decode (mCd 123) 15 = .ok (.iaload, 1) ∧ lk (mMsk 123) 15 = none := by decide +kernel
theorem i123_16 : decode (mCd 123) 16 = .ok (.bipush 7, 2) ∧ lk (mMsk 123) 16 = none := by decide +kernel
theorem i123_18 : decode (mCd 123) 18 = .ok (.iadd, 1) ∧ lk (mMsk 123) 18 = none := by decide +kernel
theorem i123_19 : decode (mCd 123) 19 = .ok (.goto 9, 3) ∧ lk (mMsk 123) 19 = none := by decide +kernel
theorem i123_28 : decode (mCd 123) 28 = .ok (.ireturn, 1) ∧ lk (mMsk 123) 28 = some [false, false] := by decide +kernel
theorem i123_22 : decode (mCd 123) 22 = .ok (.aload_n 0, 1) ∧ lk (mMsk 123) 22 = none := by decide +kernel
theorem i123_23 : decode (mCd 123) 23 = .ok (.getfield 29, 3) ∧ lk (mMsk 123) 23 = none := by decide +kernel
theorem i123_26 : decode (mCd 123) 26 = .ok (.iload_n 1, 1) ∧ lk (mMsk 123) 26 = none := by decide +kernel
theorem i123_27 : decode (mCd 123) 27 = .ok (.iaload, 1) ∧ lk (mMsk 123) 27 = none := by decide +kernel
theorem i124_0 : decode (mCd 124) 0 = .ok (.aload_n 0, 1) ∧ lk (mMsk 124) 0 = none := by decide +kernel
theorem i124_1 : decode (mCd 124) 1 = .ok (.getfield 38, 3) ∧ lk (mMsk 124) 1 = none := by decide +kernel
theorem g124_38 : fOk 124 38 9 14 = true := by decide +kernel
theorem i124_4 : decode (mCd 124) 4 = .ok (.iload_n 1, 1) ∧ lk (mMsk 124) 4 = none := by decide +kernel
theorem i124_5 : decode (mCd 124) 5 = .ok (.iaload, 1) ∧ lk (mMsk 124) 5 = none := by decide +kernel
theorem i124_6 : decode (mCd 124) 6 = .ok (.aload_n 0, 1) ∧ lk (mMsk 124) 6 = none := by decide +kernel
theorem i124_7 : decode (mCd 124) 7 = .ok (.getfield 35, 3) ∧ lk (mMsk 124) 7 = none := by decide +kernel
theorem g124_35 : fOk 124 35 9 13 = true := by decide +kernel
theorem i124_10 : decode (mCd 124) 10 = .ok (.iload_n 1, 1) ∧ lk (mMsk 124) 10 = none := by decide +kernel
theorem i124_11 : decode (mCd 124) 11 = .ok (.iaload, 1) ∧ lk (mMsk 124) 11 = none := by decide +kernel
theorem i124_12 : decode (mCd 124) 12 = .ok (.if_icmp .ge 22, 3) ∧ lk (mMsk 124) 12 = none := by decide +kernel
theorem i124_34 : decode (mCd 124) 34 = .ok (.iconst (-1), 1) ∧ lk (mMsk 124) 34 = none := by decide +kernel
theorem i124_35 : decode (mCd 124) 35 = .ok (.ireturn, 1) ∧ lk (mMsk 124) 35 = some [false, false] := by decide +kernel
theorem i124_15 : decode (mCd 124) 15 = .ok (.aload_n 0, 1) ∧ lk (mMsk 124) 15 = none := by decide +kernel
theorem i124_16 : decode (mCd 124) 16 = .ok (.getfield 32, 3) ∧ lk (mMsk 124) 16 = none := by decide +kernel
theorem g124_32 : fOk 124 32 9 12 = true := by decide +kernel
theorem i124_19 : decode (mCd 124) 19 = .ok (.bipush 20, 2) ∧ lk (mMsk 124) 19 = none := by decide +kernel
theorem i124_21 : decode (mCd 124) 21 = .ok (.iload_n 1, 1) ∧ lk (mMsk 124) 21 = none := by decide +kernel
theorem i124_22 : decode (mCd 124) 22 = .ok (.imul, 1) ∧ lk (mMsk 124) 22 = none := by decide +kernel
theorem i124_23 : decode (mCd 124) 23 = .ok (.aload_n 0, 1) ∧ lk (mMsk 124) 23 = none := by decide +kernel
theorem i124_24 : decode (mCd 124) 24 = .ok (.getfield 38, 3) ∧ lk (mMsk 124) 24 = none := by decide +kernel
theorem i124_27 : decode (mCd 124) 27 = .ok (.iload_n 1, 1) ∧ lk (mMsk 124) 27 = none := by decide +kernel
theorem i124_28 : decode (mCd 124) 28 = .ok (.iaload, 1) ∧ lk (mMsk 124) 28 = none := by decide +kernel
theorem i124_29 : decode (mCd 124) 29 = .ok (.iadd, 1) ∧ lk (mMsk 124) 29 = none := by decide +kernel
theorem i124_30 : decode (mCd 124) 30 = .ok (.iaload, 1) ∧ lk (mMsk 124) 30 = none := by decide +kernel
theorem i124_31 : decode (mCd 124) 31 = .ok (.goto 4, 3) ∧ lk (mMsk 124) 31 = none := by decide +kernel
theorem i125_0 : decode (mCd 125) 0 = .ok (.iload_n 2, 1) ∧ lk (mMsk 125) 0 = none := by decide +kernel
theorem i125_1 : decode (mCd 125) 1 = .ok (.tableswitch 87 0 5 #[39, 46, 53, 60, 67, 73], 39) ∧ lk (mMsk 125) 1 = none := by decide +kernel
theorem i125_40 : decode (mCd 125) 40 = .ok (.aload_n 0, 1) ∧ lk (mMsk 125) 40 = none := by decide +kernel
theorem i125_41 : decode (mCd 125) 41 = .ok (.getfield 20, 3) ∧ lk (mMsk 125) 41 = none := by decide +kernel
theorem g125_20 : fOk 125 20 9 8 = true := by decide +kernel
theorem i125_44 : decode (mCd 125) 44 = .ok (.iload_n 1, 1) ∧ lk (mMsk 125) 44 = none := by decide +kernel
theorem i125_45 : decode (mCd 125) 45 = .ok (.iaload, 1) ∧ lk (mMsk 125) 45 = none := by decide +kernel
theorem i125_46 : decode (mCd 125) 46 = .ok (.ireturn, 1) ∧ lk (mMsk 125) 46 = none := by decide +kernel
theorem i125_47 : decode (mCd 125) 47 = .ok (.aload_n 0, 1) ∧ lk (mMsk 125) 47 = none := by decide +kernel
theorem i125_48 : decode (mCd 125) 48 = .ok (.getfield 23, 3) ∧ lk (mMsk 125) 48 = none := by decide +kernel
theorem g125_23 : fOk 125 23 9 9 = true := by decide +kernel
theorem i125_51 : decode (mCd 125) 51 = .ok (.iload_n 1, 1) ∧ lk (mMsk 125) 51 = none := by decide +kernel
theorem i125_52 : decode (mCd 125) 52 = .ok (.iaload, 1) ∧ lk (mMsk 125) 52 = none := by decide +kernel
theorem i125_53 : decode (mCd 125) 53 = .ok (.ireturn, 1) ∧ lk (mMsk 125) 53 = none := by decide +kernel
theorem i125_54 : decode (mCd 125) 54 = .ok (.aload_n 0, 1) ∧ lk (mMsk 125) 54 = none := by decide +kernel
theorem i125_55 : decode (mCd 125) 55 = .ok (.getfield 26, 3) ∧ lk (mMsk 125) 55 = none := by decide +kernel
theorem g125_26 : fOk 125 26 9 10 = true := by decide +kernel
theorem i125_58 : decode (mCd 125) 58 = .ok (.iload_n 1, 1) ∧ lk (mMsk 125) 58 = none := by decide +kernel
theorem i125_59 : decode (mCd 125) 59 = .ok (.iaload, 1) ∧ lk (mMsk 125) 59 = none := by decide +kernel
theorem i125_60 : decode (mCd 125) 60 = .ok (.ireturn, 1) ∧ lk (mMsk 125) 60 = none := by decide +kernel
theorem i125_61 : decode (mCd 125) 61 = .ok (.aload_n 0, 1) ∧ lk (mMsk 125) 61 = none := by decide +kernel
theorem i125_62 : decode (mCd 125) 62 = .ok (.getfield 29, 3) ∧ lk (mMsk 125) 62 = none := by decide +kernel
theorem g125_29 : fOk 125 29 9 11 = true := by decide +kernel
theorem i125_65 : decode (mCd 125) 65 = .ok (.iload_n 1, 1) ∧ lk (mMsk 125) 65 = none := by decide +kernel
theorem i125_66 : decode (mCd 125) 66 = .ok (.iaload, 1) ∧ lk (mMsk 125) 66 = none := by decide +kernel
theorem i125_67 : decode (mCd 125) 67 = .ok (.ireturn, 1) ∧ lk (mMsk 125) 67 = none := by decide +kernel
theorem i125_68 : decode (mCd 125) 68 = .ok (.aload_n 0, 1) ∧ lk (mMsk 125) 68 = none := by decide +kernel
theorem i125_69 : decode (mCd 125) 69 = .ok (.iload_n 1, 1) ∧ lk (mMsk 125) 69 = none := by decide +kernel
theorem i125_70 : decode (mCd 125) 70 = .ok (.invokevirtual 161, 3) ∧ lk (mMsk 125) 70 = none := by decide +kernel
theorem c125_161 : cvOk 125 161 123 1 0 = true := by decide +kernel
theorem i125_73 : decode (mCd 125) 73 = .ok (.ireturn, 1) ∧ lk (mMsk 125) 73 = none := by decide +kernel
theorem i125_74 : decode (mCd 125) 74 = .ok (.aload_n 0, 1) ∧ lk (mMsk 125) 74 = none := by decide +kernel
theorem i125_75 : decode (mCd 125) 75 = .ok (.getfield 35, 3) ∧ lk (mMsk 125) 75 = none := by decide +kernel
theorem g125_35 : fOk 125 35 9 13 = true := by decide +kernel
theorem i125_78 : decode (mCd 125) 78 = .ok (.iload_n 1, 1) ∧ lk (mMsk 125) 78 = none := by decide +kernel
theorem i125_79 : decode (mCd 125) 79 = .ok (.iaload, 1) ∧ lk (mMsk 125) 79 = none := by decide +kernel
theorem i125_80 : decode (mCd 125) 80 = .ok (.aload_n 0, 1) ∧ lk (mMsk 125) 80 = none := by decide +kernel
theorem i125_81 : decode (mCd 125) 81 = .ok (.getfield 38, 3) ∧ lk (mMsk 125) 81 = none := by decide +kernel
theorem g125_38 : fOk 125 38 9 14 = true := by decide +kernel
theorem i125_84 : decode (mCd 125) 84 = .ok (.iload_n 1, 1) ∧ lk (mMsk 125) 84 = none := by decide +kernel
theorem i125_85 : decode (mCd 125) 85 = .ok (.iaload, 1) ∧ lk (mMsk 125) 85 = none := by decide +kernel
theorem i125_86 : decode (mCd 125) 86 = .ok (.isub, 1) ∧ lk (mMsk 125) 86 = none := by decide +kernel
theorem i125_87 : decode (mCd 125) 87 = .ok (.ireturn, 1) ∧ lk (mMsk 125) 87 = none := by decide +kernel
theorem i125_88 : decode (mCd 125) 88 = .ok (.aload_n 0, 1) ∧ lk (mMsk 125) 88 = none := by decide +kernel
theorem i125_89 : decode (mCd 125) 89 = .ok (.iload_n 1, 1) ∧ lk (mMsk 125) 89 = none := by decide +kernel
theorem i125_90 : decode (mCd 125) 90 = .ok (.invokevirtual 165, 3) ∧ lk (mMsk 125) 90 = none := by decide +kernel
theorem c125_165 : cvOk 125 165 124 1 0 = true := by decide +kernel
theorem i125_93 : decode (mCd 125) 93 = .ok (.ireturn, 1) ∧ lk (mMsk 125) 93 = none := by decide +kernel
theorem i126_0 : decode (mCd 126) 0 = .ok (.aload_n 0, 1) ∧ lk (mMsk 126) 0 = none := by decide +kernel
theorem i126_1 : decode (mCd 126) 1 = .ok (.iload_n 1, 1) ∧ lk (mMsk 126) 1 = none := by decide +kernel
theorem i126_2 : decode (mCd 126) 2 = .ok (.invokevirtual 168, 3) ∧ lk (mMsk 126) 2 = none := by decide +kernel
theorem c126_168 : cvOk 126 168 121 1 0 = true := by decide +kernel
theorem i126_5 : decode (mCd 126) 5 = .ok (.ifCond .ne 8, 3) ∧ lk (mMsk 126) 5 = none := by decide +kernel
theorem i126_8 : decode (mCd 126) 8 = .ok (.bipush (-101), 2) ∧ lk (mMsk 126) 8 = none := by decide +kernel
theorem i126_10 : decode (mCd 126) 10 = .ok (.goto 24, 3) ∧ lk (mMsk 126) 10 = none := by decide +kernel
theorem i126_34 : decode (mCd 126) 34 = .ok (.ireturn, 1) ∧ lk (mMsk 126) 34 = some [false, false, false] := by decide +kernel
theorem i126_13 : decode (mCd 126) 13 = .ok (.iload_n 2, 1) ∧ lk (mMsk 126) 13 = none := by decide +kernel
theorem i126_14 : decode (mCd 126) 14 = .ok (.iconst 0, 1) ∧ lk (mMsk 126) 14 = none := by decide +kernel
theorem i126_15 : decode (mCd 126) 15 = .ok (.bipush 6, 2) ∧ lk (mMsk 126) 15 = none := by decide +kernel
theorem i126_17 : decode (mCd 126) 17 = .ok (.invokestatic 105, 3) ∧ lk (mMsk 126) 17 = none := by decide +kernel
theorem c126_105 : ciOk 126 105 107 3 0 = true := by decide +kernel
theorem i126_20 : decode (mCd 126) 20 = .ok (.ifCond .eq 12, 3) ∧ lk (mMsk 126) 20 = none := by decide +kernel
theorem i126_32 : decode (mCd 126) 32 = .ok (.bipush (-102), 2) ∧ lk (mMsk 126) 32 = none := by decide +kernel
theorem i126_23 : decode (mCd 126) 23 = .ok (.aload_n 0, 1) ∧ lk (mMsk 126) 23 = none := by decide +kernel
theorem i126_24 : decode (mCd 126) 24 = .ok (.iload_n 1, 1) ∧ lk (mMsk 126) 24 = none := by decide +kernel
theorem i126_25 : decode (mCd 126) 25 = .ok (.iload_n 2, 1) ∧ lk (mMsk 126) 25 = none := by decide +kernel
theorem i126_26 : decode (mCd 126) 26 = .ok (.invokevirtual 171, 3) ∧ lk (mMsk 126) 26 = none := by decide +kernel
theorem c126_171 : cvOk 126 171 125 2 0 = true := by decide +kernel
theorem i126_29 : decode (mCd 126) 29 = .ok (.goto 5, 3) ∧ lk (mMsk 126) 29 = none := by decide +kernel
theorem i127_0 : decode (mCd 127) 0 = .ok (.aload_n 0, 1) ∧ lk (mMsk 127) 0 = none := by decide +kernel
theorem i127_1 : decode (mCd 127) 1 = .ok (.iload_n 1, 1) ∧ lk (mMsk 127) 1 = none := by decide +kernel
theorem i127_2 : decode (mCd 127) 2 = .ok (.invokevirtual 168, 3) ∧ lk (mMsk 127) 2 = none := by decide +kernel
theorem c127_168 : cvOk 127 168 121 1 0 = true := by decide +kernel
theorem i127_5 : decode (mCd 127) 5 = .ok (.ifCond .ne 6, 3) ∧ lk (mMsk 127) 5 = none := by decide +kernel
theorem i127_8 : decode (mCd 127) 8 = .ok (.bipush (-101), 2) ∧ lk (mMsk 127) 8 = none := by decide +kernel
theorem i127_10 : decode (mCd 127) 10 = .ok (.ireturn, 1) ∧ lk (mMsk 127) 10 = none := by decide +kernel
theorem i127_11 : decode (mCd 127) 11 = .ok (.iload_n 2, 1) ∧ lk (mMsk 127) 11 = none := by decide +kernel
theorem i127_12 : decode (mCd 127) 12 = .ok (.iconst 0, 1) ∧ lk (mMsk 127) 12 = none := by decide +kernel
theorem i127_13 : decode (mCd 127) 13 = .ok (.iconst 3, 1) ∧ lk (mMsk 127) 13 = none := by decide +kernel
theorem i127_14 : decode (mCd 127) 14 = .ok (.invokestatic 105, 3) ∧ lk (mMsk 127) 14 = none := by decide +kernel
theorem c127_105 : ciOk 127 105 107 3 0 = true := by decide +kernel
theorem i127_17 : decode (mCd 127) 17 = .ok (.ifCond .ne 6, 3) ∧ lk (mMsk 127) 17 = none := by decide +kernel
theorem i127_20 : decode (mCd 127) 20 = .ok (.bipush (-102), 2) ∧ lk (mMsk 127) 20 = none := by decide +kernel
theorem i127_22 : decode (mCd 127) 22 = .ok (.ireturn, 1) ∧ lk (mMsk 127) 22 = none := by decide +kernel
theorem i127_23 : decode (mCd 127) 23 = .ok (.aload_n 0, 1) ∧ lk (mMsk 127) 23 = none := by decide +kernel
theorem i127_24 : decode (mCd 127) 24 = .ok (.getfield 20, 3) ∧ lk (mMsk 127) 24 = none := by decide +kernel
theorem g127_20 : fOk 127 20 9 8 = true := by decide +kernel
theorem i127_27 : decode (mCd 127) 27 = .ok (.iload_n 1, 1) ∧ lk (mMsk 127) 27 = none := by decide +kernel
theorem i127_28 : decode (mCd 127) 28 = .ok (.iaload, 1) ∧ lk (mMsk 127) 28 = none := by decide +kernel
theorem i127_29 : decode (mCd 127) 29 = .ok (.istore_n 3, 1) ∧ lk (mMsk 127) 29 = none := by decide +kernel
theorem i127_30 : decode (mCd 127) 30 = .ok (.iload_n 2, 1) ∧ lk (mMsk 127) 30 = none := by decide +kernel
theorem i127_31 : decode (mCd 127) 31 = .ok (.ifCond .eq 18, 3) ∧ lk (mMsk 127) 31 = none := by decide +kernel
theorem i127_49 : decode (mCd 127) 49 = .ok (.iload_n 1, 1) ∧ lk (mMsk 127) 49 = some [false, true, false, false] := by decide +kernel
theorem i127_34 : decode (mCd 127) 34 = .ok (.iload_n 3, 1) ∧ lk (mMsk 127) 34 = none := by decide +kernel
theorem i127_35 : decode (mCd 127) 35 = .ok (.iload_n 2, 1) ∧ lk (mMsk 127) 35 = none := by decide +kernel
theorem i127_36 : decode (mCd 127) 36 = .ok (.if_icmp .eq 13, 3) ∧ lk (mMsk 127) 36 = none := by decide +kernel
theorem i127_39 : decode (mCd 127) 39 = .ok (.iload_n 2, 1) ∧ lk (mMsk 127) 39 = none := by decide +kernel
theorem i127_40 : decode (mCd 127) 40 = .ok (.iconst 1, 1) ∧ lk (mMsk 127) 40 = none := by decide +kernel
theorem i127_41 : decode (mCd 127) 41 = .ok (.if_icmp .ne 12, 3) ∧ lk (mMsk 127) 41 = none := by decide +kernel
theorem i127_44 : decode (mCd 127) 44 = .ok (.iload_n 3, 1) ∧ lk (mMsk 127) 44 = none := by decide +kernel
theorem i127_45 : decode (mCd 127) 45 = .ok (.iconst 3, 1) ∧ lk (mMsk 127) 45 = none := by decide +kernel
theorem i127_46 : decode (mCd 127) 46 = .ok (.if_icmp .ne 7, 3) ∧ lk (mMsk 127) 46 = none := by decide +kernel
theorem i127_53 : decode (mCd 127) 53 = .ok (.iconst (-1), 1) ∧ lk (mMsk 127) 53 = some [false, false, false, false] := by decide +kernel
theorem i127_54 : decode (mCd 127) 54 = .ok (.ireturn, 1) ∧ lk (mMsk 127) 54 = some [false, false, false, false] := by decide +kernel
theorem i127_50 : decode (mCd 127) 50 = .ok (.goto 4, 3) ∧ lk (mMsk 127) 50 = none := by decide +kernel
theorem i128_0 : decode (mCd 128) 0 = .ok (.aload_n 0, 1) ∧ lk (mMsk 128) 0 = none := by decide +kernel
theorem i128_1 : decode (mCd 128) 1 = .ok (.iload_n 1, 1) ∧ lk (mMsk 128) 1 = none := by decide +kernel
theorem i128_2 : decode (mCd 128) 2 = .ok (.invokevirtual 168, 3) ∧ lk (mMsk 128) 2 = none := by decide +kernel
theorem c128_168 : cvOk 128 168 121 1 0 = true := by decide +kernel
theorem i128_5 : decode (mCd 128) 5 = .ok (.ifCond .ne 6, 3) ∧ lk (mMsk 128) 5 = none := by decide +kernel
theorem i128_8 : decode (mCd 128) 8 = .ok (.bipush (-101), 2) ∧ lk (mMsk 128) 8 = none := by decide +kernel
theorem i128_10 : decode (mCd 128) 10 = .ok (.ireturn, 1) ∧ lk (mMsk 128) 10 = none := by decide +kernel
theorem i128_11 : decode (mCd 128) 11 = .ok (.aload_n 0, 1) ∧ lk (mMsk 128) 11 = none := by decide +kernel
theorem i128_12 : decode (mCd 128) 12 = .ok (.invokevirtual 137, 3) ∧ lk (mMsk 128) 12 = none := by decide +kernel
theorem c128_137 : cvOk 128 137 115 0 3 = true := by decide +kernel
theorem i128_15 : decode (mCd 128) 15 = .ok (.aload_n 0, 1) ∧ lk (mMsk 128) 15 = none := by decide +kernel
theorem i128_16 : decode (mCd 128) 16 = .ok (.getfield 131, 3) ∧ lk (mMsk 128) 16 = none := by decide +kernel
theorem g128_131 : fOk 128 131 9 21 = true := by decide +kernel
theorem i128_19 : decode (mCd 128) 19 = .ok (.istore_n 2, 1) ∧ lk (mMsk 128) 19 = none := by decide +kernel
theorem i128_20 : decode (mCd 128) 20 = .ok (.aload_n 0, 1) ∧ lk (mMsk 128) 20 = none := by decide +kernel
theorem i128_21 : decode (mCd 128) 21 = .ok (.getfield 23, 3) ∧ lk (mMsk 128) 21 = none := by decide +kernel
theorem g128_23 : fOk 128 23 9 9 = true := by decide +kernel
theorem i128_24 : decode (mCd 128) 24 = .ok (.iload_n 1, 1) ∧ lk (mMsk 128) 24 = none := by decide +kernel
theorem i128_25 : decode (mCd 128) 25 = .ok (.iaload, 1) ∧ lk (mMsk 128) 25 = none := by decide +kernel
theorem i128_26 : decode (mCd 128) 26 = .ok (.istore_n 3, 1) ∧ lk (mMsk 128) 26 = none := by decide +kernel
theorem i128_27 : decode (mCd 128) 27 = .ok (.iconst 0, 1) ∧ lk (mMsk 128) 27 = none := by decide +kernel
theorem i128_28 : decode (mCd 128) 28 = .ok (.istore 4, 2) ∧ lk (mMsk 128) 28 = none := by decide +kernel
theorem i128_30 : decode (mCd 128) 30 = .ok (.iload 4, 2) ∧ lk (mMsk 128) 30 = some [true, true, true, true, true, false] := by decide +kernel
theorem i128_32 : decode (mCd 128) 32 = .ok (.aload_n 0, 1) ∧ lk (mMsk 128) 32 = none := by decide +kernel
theorem i128_33 : decode (mCd 128) 33 = .ok (.getfield 98, 3) ∧ lk (mMsk 128) 33 = none := by decide +kernel
theorem g128_98 : fOk 128 98 9 18 = true := by decide +kernel
theorem i128_36 : decode (mCd 128) 36 = .ok (.if_icmp .ge 51, 3) ∧ lk (mMsk 128) 36 = none := by decide +kernel
theorem i128_87 : decode (mCd 128) 87 = .ok (.iload_n 2, 1) ∧ lk (mMsk 128) 87 = some [true, true, true, false, false, false] := by decide +kernel
theorem i128_39 : decode (mCd 128) 39 = .ok (.iload_n 2, 1) ∧ lk (mMsk 128) 39 = none := by decide +kernel
theorem i128_40 : decode (mCd 128) 40 = .ok (.ifCond .eq 47, 3) ∧ lk (mMsk 128) 40 = none := by decide +kernel
theorem i128_43 : decode (mCd 128) 43 = .ok (.aload_n 0, 1) ∧ lk (mMsk 128) 43 = none := by decide +kernel
theorem i128_44 : decode (mCd 128) 44 = .ok (.getfield 44, 3) ∧ lk (mMsk 128) 44 = none := by decide +kernel
theorem g128_44 : fOk 128 44 9 19 = true := by decide +kernel
theorem i128_47 : decode (mCd 128) 47 = .ok (.iload 4, 2) ∧ lk (mMsk 128) 47 = none := by decide +kernel
theorem i128_49 : decode (mCd 128) 49 = .ok (.baload, 1) ∧ lk (mMsk 128) 49 = none := by decide +kernel
theorem i128_50 : decode (mCd 128) 50 = .ok (.bipush 48, 2) ∧ lk (mMsk 128) 50 = none := by decide +kernel
theorem i128_52 : decode (mCd 128) 52 = .ok (.isub, 1) ∧ lk (mMsk 128) 52 = none := by decide +kernel
theorem i128_53 : decode (mCd 128) 53 = .ok (.istore 5, 2) ∧ lk (mMsk 128) 53 = none := by decide +kernel
theorem i128_55 : decode (mCd 128) 55 = .ok (.iload 5, 2) ∧ lk (mMsk 128) 55 = none := by decide +kernel
theorem i128_57 : decode (mCd 128) 57 = .ok (.iload_n 3, 1) ∧ lk (mMsk 128) 57 = none := by decide +kernel
theorem i128_58 : decode (mCd 128) 58 = .ok (.if_icmp .eq 14, 3) ∧ lk (mMsk 128) 58 = none := by decide +kernel
theorem i128_72 : decode (mCd 128) 72 = .ok (.iconst 1, 1) ∧ lk (mMsk 128) 72 = some [true, true, false, false, true, true] := by decide +kernel
theorem i128_61 : decode (mCd 128) 61 = .ok (.aload_n 0, 1) ∧ lk (mMsk 128) 61 = none := by decide +kernel
theorem i128_62 : decode (mCd 128) 62 = .ok (.iload_n 3, 1) ∧ lk (mMsk 128) 62 = none := by decide +kernel
theorem i128_63 : decode (mCd 128) 63 = .ok (.iload 5, 2) ∧ lk (mMsk 128) 63 = none := by decide +kernel
theorem i128_65 : decode (mCd 128) 65 = .ok (.invokevirtual 174, 3) ∧ lk (mMsk 128) 65 = none := by decide +kernel
theorem c128_174 : cvOk 128 174 120 2 0 = true := by decide +kernel
theorem i128_68 : decode (mCd 128) 68 = .ok (.iconst (-1), 1) ∧ lk (mMsk 128) 68 = none := by decide +kernel
theorem i128_69 : decode (mCd 128) 69 = .ok (.if_icmp .eq 7, 3) ∧ lk (mMsk 128) 69 = none := by decide +kernel
theorem i128_76 : decode (mCd 128) 76 = .ok (.iconst 0, 1) ∧ lk (mMsk 128) 76 = none := by decide +kernel
theorem i128_77 : decode (mCd 128) 77 = .ok (.istore_n 2, 1) ∧ lk (mMsk 128) 77 = some [true, true, false, false, true, true] := by decide +kernel
theorem i128_78 : decode (mCd 128) 78 = .ok (.iload 5, 2) ∧ lk (mMsk 128) 78 = none := by decide +kernel
theorem i128_80 : decode (mCd 128) 80 = .ok (.istore_n 3, 1) ∧ lk (mMsk 128) 80 = none := by decide +kernel
theorem i128_81 : decode (mCd 128) 81 = .ok (.iinc 4 1, 3) ∧ lk (mMsk 128) 81 = none := by decide +kernel
theorem i128_84 : decode (mCd 128) 84 = .ok (.goto (-54), 3) ∧ lk (mMsk 128) 84 = none := by decide +kernel
theorem i128_73 : decode (mCd 128) 73 = .ok (.goto 4, 3) ∧ lk (mMsk 128) 73 = none := by decide +kernel
theorem i128_88 : decode (mCd 128) 88 = .ok (.ifCond .ne 6, 3) ∧ lk (mMsk 128) 88 = none := by decide +kernel
theorem i128_91 : decode (mCd 128) 91 = .ok (.bipush (-103), 2) ∧ lk (mMsk 128) 91 = none := by decide +kernel
theorem i128_93 : decode (mCd 128) 93 = .ok (.ireturn, 1) ∧ lk (mMsk 128) 93 = none := by decide +kernel
theorem i128_94 : decode (mCd 128) 94 = .ok (.iconst 0, 1) ∧ lk (mMsk 128) 94 = none := by decide +kernel
theorem i128_95 : decode (mCd 128) 95 = .ok (.istore 4, 2) ∧ lk (mMsk 128) 95 = none := by decide +kernel
theorem i128_97 : decode (mCd 128) 97 = .ok (.iload 4, 2) ∧ lk (mMsk 128) 97 = some [true, true, false, false, true, false] := by decide +kernel
theorem i128_99 : decode (mCd 128) 99 = .ok (.aload_n 0, 1) ∧ lk (mMsk 128) 99 = none := by decide +kernel
theorem i128_100 : decode (mCd 128) 100 = .ok (.getfield 98, 3) ∧ lk (mMsk 128) 100 = none := by decide +kernel
theorem i128_103 : decode (mCd 128) 103 = .ok (.if_icmp .ge 31, 3) ∧ lk (mMsk 128) 103 = none := by decide +kernel
theorem i128_134 : decode (mCd 128) 134 = .ok (.aload_n 0, 1) ∧ lk (mMsk 128) 134 = none := by decide +kernel
theorem i128_135 : decode (mCd 128) 135 = .ok (.getfield 35, 3) ∧ lk (mMsk 128) 135 = none := by decide +kernel
theorem g128_35 : fOk 128 35 9 13 = true := by decide +kernel
theorem i128_138 : decode (mCd 128) 138 = .ok (.iload_n 1, 1) ∧ lk (mMsk 128) 138 = none := by decide +kernel
theorem i128_139 : decode (mCd 128) 139 = .ok (.aload_n 0, 1) ∧ lk (mMsk 128) 139 = none := by decide +kernel
theorem i128_140 : decode (mCd 128) 140 = .ok (.getfield 98, 3) ∧ lk (mMsk 128) 140 = none := by decide +kernel
theorem i128_143 : decode (mCd 128) 143 = .ok (.iastore, 1) ∧ lk (mMsk 128) 143 = none := by decide +kernel
theorem i128_144 : decode (mCd 128) 144 = .ok (.aload_n 0, 1) ∧ lk (mMsk 128) 144 = none := by decide +kernel
theorem i128_145 : decode (mCd 128) 145 = .ok (.getfield 38, 3) ∧ lk (mMsk 128) 145 = none := by decide +kernel
theorem g128_38 : fOk 128 38 9 14 = true := by decide +kernel
theorem i128_148 : decode (mCd 128) 148 = .ok (.iload_n 1, 1) ∧ lk (mMsk 128) 148 = none := by decide +kernel
theorem i128_149 : decode (mCd 128) 149 = .ok (.iconst 0, 1) ∧ lk (mMsk 128) 149 = none := by decide +kernel
theorem i128_150 : decode (mCd 128) 150 = .ok (.iastore, 1) ∧ lk (mMsk 128) 150 = none := by decide +kernel
theorem i128_151 : decode (mCd 128) 151 = .ok (.aload_n 0, 1) ∧ lk (mMsk 128) 151 = none := by decide +kernel
theorem i128_152 : decode (mCd 128) 152 = .ok (.iconst 0, 1) ∧ lk (mMsk 128) 152 = none := by decide +kernel
theorem i128_153 : decode (mCd 128) 153 = .ok (.putfield 98, 3) ∧ lk (mMsk 128) 153 = none := by decide +kernel
theorem p128_98 : pOk 128 98 9 18 = true := by decide +kernel
theorem i128_156 : decode (mCd 128) 156 = .ok (.aload_n 0, 1) ∧ lk (mMsk 128) 156 = none := by decide +kernel
theorem i128_157 : decode (mCd 128) 157 = .ok (.getfield 35, 3) ∧ lk (mMsk 128) 157 = none := by decide +kernel
theorem i128_160 : decode (mCd 128) 160 = .ok (.iload_n 1, 1) ∧ lk (mMsk 128) 160 = none := by decide +kernel
theorem i128_161 : decode (mCd 128) 161 = .ok (.iaload, 1) ∧ lk (mMsk 128) 161 = none := by decide +kernel
theorem i128_162 : decode (mCd 128) 162 = .ok (.ireturn, 1) ∧ lk (mMsk 128) 162 = none := by decide +kernel
theorem i128_106 : decode (mCd 128) 106 = .ok (.aload_n 0, 1) ∧ lk (mMsk 128) 106 = none := by decide +kernel
theorem i128_107 : decode (mCd 128) 107 = .ok (.getfield 32, 3) ∧ lk (mMsk 128) 107 = none := by decide +kernel
theorem g128_32 : fOk 128 32 9 12 = true := by decide +kernel
theorem i128_110 : decode (mCd 128) 110 = .ok (.bipush 20, 2) ∧ lk (mMsk 128) 110 = none := by decide +kernel
theorem i128_112 : decode (mCd 128) 112 = .ok (.iload_n 1, 1) ∧ lk (mMsk 128) 112 = none := by decide +kernel
theorem i128_113 : decode (mCd 128) 113 = .ok (.imul, 1) ∧ lk (mMsk 128) 113 = none := by decide +kernel
theorem i128_114 : decode (mCd 128) 114 = .ok (.iload 4, 2) ∧ lk (mMsk 128) 114 = none := by decide +kernel
theorem i128_116 : decode (mCd 128) 116 = .ok (.iadd, 1) ∧ lk (mMsk 128) 116 = none := by decide +kernel
theorem i128_117 : decode (mCd 128) 117 = .ok (.aload_n 0, 1) ∧ lk (mMsk 128) 117 = none := by decide +kernel
theorem i128_118 : decode (mCd 128) 118 = .ok (.getfield 44, 3) ∧ lk (mMsk 128) 118 = none := by decide +kernel
theorem i128_121 : decode (mCd 128) 121 = .ok (.iload 4, 2) ∧ lk (mMsk 128) 121 = none := by decide +kernel
theorem i128_123 : decode (mCd 128) 123 = .ok (.baload, 1) ∧ lk (mMsk 128) 123 = none := by decide +kernel
theorem i128_124 : decode (mCd 128) 124 = .ok (.bipush 48, 2) ∧ lk (mMsk 128) 124 = none := by decide +kernel
theorem i128_126 : decode (mCd 128) 126 = .ok (.isub, 1) ∧ lk (mMsk 128) 126 = none := by decide +kernel
theorem i128_127 : decode (mCd 128) 127 = .ok (.iastore, 1) ∧ lk (mMsk 128) 127 = none := by decide +kernel
theorem i128_128 : decode (mCd 128) 128 = .ok (.iinc 4 1, 3) ∧ lk (mMsk 128) 128 = none := by decide +kernel
theorem i128_131 : decode (mCd 128) 131 = .ok (.goto (-34), 3) ∧ lk (mMsk 128) 131 = none := by decide +kernel
theorem i129_0 : decode (mCd 129) 0 = .ok (.aload_n 0, 1) ∧ lk (mMsk 129) 0 = none := by decide +kernel
theorem i129_1 : decode (mCd 129) 1 = .ok (.iload_n 1, 1) ∧ lk (mMsk 129) 1 = none := by decide +kernel
theorem i129_2 : decode (mCd 129) 2 = .ok (.invokevirtual 168, 3) ∧ lk (mMsk 129) 2 = none := by decide +kernel
theorem c129_168 : cvOk 129 168 121 1 0 = true := by decide +kernel
theorem i129_5 : decode (mCd 129) 5 = .ok (.ifCond .ne 6, 3) ∧ lk (mMsk 129) 5 = none := by decide +kernel
theorem i129_8 : decode (mCd 129) 8 = .ok (.bipush (-101), 2) ∧ lk (mMsk 129) 8 = none := by decide +kernel
theorem i129_10 : decode (mCd 129) 10 = .ok (.ireturn, 1) ∧ lk (mMsk 129) 10 = none := by decide +kernel
theorem i129_11 : decode (mCd 129) 11 = .ok (.iload_n 2, 1) ∧ lk (mMsk 129) 11 = none := by decide +kernel
theorem i129_12 : decode (mCd 129) 12 = .ok (.iconst 0, 1) ∧ lk (mMsk 129) 12 = none := by decide +kernel
theorem i129_13 : decode (mCd 129) 13 = .ok (.bipush 20, 2) ∧ lk (mMsk 129) 13 = none := by decide +kernel
theorem i129_15 : decode (mCd 129) 15 = .ok (.invokestatic 105, 3) ∧ lk (mMsk 129) 15 = none := by decide +kernel
theorem c129_105 : ciOk 129 105 107 3 0 = true := by decide +kernel
theorem i129_18 : decode (mCd 129) 18 = .ok (.ifCond .ne 6, 3) ∧ lk (mMsk 129) 18 = none := by decide +kernel
theorem i129_21 : decode (mCd 129) 21 = .ok (.bipush (-102), 2) ∧ lk (mMsk 129) 21 = none := by decide +kernel
theorem i129_23 : decode (mCd 129) 23 = .ok (.ireturn, 1) ∧ lk (mMsk 129) 23 = none := by decide +kernel
theorem i129_24 : decode (mCd 129) 24 = .ok (.aload_n 0, 1) ∧ lk (mMsk 129) 24 = none := by decide +kernel
theorem i129_25 : decode (mCd 129) 25 = .ok (.getfield 29, 3) ∧ lk (mMsk 129) 25 = none := by decide +kernel
theorem g129_29 : fOk 129 29 9 11 = true := by decide +kernel
theorem i129_28 : decode (mCd 129) 28 = .ok (.iload_n 1, 1) ∧ lk (mMsk 129) 28 = none := by decide +kernel
theorem i129_29 : decode (mCd 129) 29 = .ok (.iaload, 1) ∧ lk (mMsk 129) 29 = none := by decide +kernel
theorem i129_30 : decode (mCd 129) 30 = .ok (.istore_n 3, 1) ∧ lk (mMsk 129) 30 = none := by decide +kernel
theorem i129_31 : decode (mCd 129) 31 = .ok (.aload_n 0, 1) ∧ lk (mMsk 129) 31 = none := by decide +kernel
theorem i129_32 : decode (mCd 129) 32 = .ok (.getfield 29, 3) ∧ lk (mMsk 129) 32 = none := by decide +kernel
theorem i129_35 : decode (mCd 129) 35 = .ok (.iload_n 1, 1) ∧ lk (mMsk 129) 35 = none := by decide +kernel
theorem i129_36 : decode (mCd 129) 36 = .ok (.iload_n 2, 1) ∧ lk (mMsk 129) 36 = none := by decide +kernel
theorem i129_37 : decode (mCd 129) 37 = .ok (.iastore, 1) ∧ lk (mMsk 129) 37 = none := by decide +kernel
theorem i129_38 : decode (mCd 129) 38 = .ok (.iload_n 3, 1) ∧ lk (mMsk 129) 38 = none := by decide +kernel
theorem i129_39 : decode (mCd 129) 39 = .ok (.ireturn, 1) ∧ lk (mMsk 129) 39 = none := by decide +kernel
theorem i130_0 : decode (mCd 130) 0 = .ok (.aload_n 0, 1) ∧ lk (mMsk 130) 0 = none := by decide +kernel
theorem i130_1 : decode (mCd 130) 1 = .ok (.iload_n 1, 1) ∧ lk (mMsk 130) 1 = none := by decide +kernel
theorem i130_2 : decode (mCd 130) 2 = .ok (.invokevirtual 161, 3) ∧ lk (mMsk 130) 2 = none := by decide +kernel
theorem c130_161 : cvOk 130 161 123 1 0 = true := by decide +kernel
theorem i130_5 : decode (mCd 130) 5 = .ok (.istore_n 3, 1) ∧ lk (mMsk 130) 5 = none := by decide +kernel
theorem i130_6 : decode (mCd 130) 6 = .ok (.aload_n 0, 1) ∧ lk (mMsk 130) 6 = none := by decide +kernel
theorem i130_7 : decode (mCd 130) 7 = .ok (.iload_n 2, 1) ∧ lk (mMsk 130) 7 = none := by decide +kernel
theorem i130_8 : decode (mCd 130) 8 = .ok (.invokevirtual 161, 3) ∧ lk (mMsk 130) 8 = none := by decide +kernel
theorem i130_11 : decode (mCd 130) 11 = .ok (.istore 4, 2) ∧ lk (mMsk 130) 11 = none := by decide +kernel
theorem i130_13 : decode (mCd 130) 13 = .ok (.aload_n 0, 1) ∧ lk (mMsk 130) 13 = none := by decide +kernel
theorem i130_14 : decode (mCd 130) 14 = .ok (.getfield 143, 3) ∧ lk (mMsk 130) 14 = none := by decide +kernel
theorem g130_143 : fOk 130 143 9 4 = true := by decide +kernel
theorem i130_17 : decode (mCd 130) 17 = .ok (.ifCond .eq 23, 3) ∧ lk (mMsk 130) 17 = none := by decide +kernel
theorem i130_40 : decode (mCd 130) 40 = .ok (.iconst 0, 1) ∧ lk (mMsk 130) 40 = some [true, true, true, true, true, false, false, false] := by decide +kernel
theorem i130_20 : decode (mCd 130) 20 = .ok (.iload_n 3, 1) ∧ lk (mMsk 130) 20 = none := by decide +kernel
theorem i130_21 : decode (mCd 130) 21 = .ok (.iconst 2, 1) ∧ lk (mMsk 130) 21 = none := by decide +kernel
theorem i130_22 : decode (mCd 130) 22 = .ok (.iload 4, 2) ∧ lk (mMsk 130) 22 = none := by decide +kernel
theorem i130_24 : decode (mCd 130) 24 = .ok (.imul, 1) ∧ lk (mMsk 130) 24 = none := by decide +kernel
theorem i130_25 : decode (mCd 130) 25 = .ok (.if_icmp .eq 11, 3) ∧ lk (mMsk 130) 25 = none := by decide +kernel
theorem i130_36 : decode (mCd 130) 36 = .ok (.iconst 1, 1) ∧ lk (mMsk 130) 36 = some [true, true, true, true, true, false, false, false] := by decide +kernel
theorem i130_28 : decode (mCd 130) 28 = .ok (.iload 4, 2) ∧ lk (mMsk 130) 28 = none := by decide +kernel
theorem i130_30 : decode (mCd 130) 30 = .ok (.iconst 2, 1) ∧ lk (mMsk 130) 30 = none := by decide +kernel
theorem i130_31 : decode (mCd 130) 31 = .ok (.iload_n 3, 1) ∧ lk (mMsk 130) 31 = none := by decide +kernel
theorem i130_32 : decode (mCd 130) 32 = .ok (.imul, 1) ∧ lk (mMsk 130) 32 = none := by decide +kernel
theorem i130_33 : decode (mCd 130) 33 = .ok (.if_icmp .ne 7, 3) ∧ lk (mMsk 130) 33 = none := by decide +kernel
theorem i130_37 : decode (mCd 130) 37 = .ok (.goto 4, 3) ∧ lk (mMsk 130) 37 = none := by decide +kernel
theorem i130_41 : decode (mCd 130) 41 = .ok (.istore 5, 2) ∧ lk (mMsk 130) 41 = some [true, true, true, true, true, false, false, false] := by decide +kernel
theorem i130_43 : decode (mCd 130) 43 = .ok (.aload_n 0, 1) ∧ lk (mMsk 130) 43 = none := by decide +kernel
theorem i130_44 : decode (mCd 130) 44 = .ok (.getfield 146, 3) ∧ lk (mMsk 130) 44 = none := by decide +kernel
theorem g130_146 : fOk 130 146 9 5 = true := by decide +kernel
theorem i130_47 : decode (mCd 130) 47 = .ok (.ifCond .eq 16, 3) ∧ lk (mMsk 130) 47 = none := by decide +kernel
theorem i130_63 : decode (mCd 130) 63 = .ok (.iconst 0, 1) ∧ lk (mMsk 130) 63 = some [true, true, true, true, true, true, false, false] := by decide +kernel
theorem i130_50 : decode (mCd 130) 50 = .ok (.iload_n 3, 1) ∧ lk (mMsk 130) 50 = none := by decide +kernel
theorem i130_51 : decode (mCd 130) 51 = .ok (.ifCond .eq 8, 3) ∧ lk (mMsk 130) 51 = none := by decide +kernel
theorem i130_59 : decode (mCd 130) 59 = .ok (.iconst 1, 1) ∧ lk (mMsk 130) 59 = some [true, true, true, true, true, true, false, false] := by decide +kernel
theorem i130_54 : decode (mCd 130) 54 = .ok (.iload 4, 2) ∧ lk (mMsk 130) 54 = none := by decide +kernel
theorem i130_56 : decode (mCd 130) 56 = .ok (.ifCond .ne 7, 3) ∧ lk (mMsk 130) 56 = none := by decide +kernel
theorem i130_60 : decode (mCd 130) 60 = .ok (.goto 4, 3) ∧ lk (mMsk 130) 60 = none := by decide +kernel
theorem i130_64 : decode (mCd 130) 64 = .ok (.istore 6, 2) ∧ lk (mMsk 130) 64 = some [true, true, true, true, true, true, false, false] := by decide +kernel
theorem i130_66 : decode (mCd 130) 66 = .ok (.aload_n 0, 1) ∧ lk (mMsk 130) 66 = none := by decide +kernel
theorem i130_67 : decode (mCd 130) 67 = .ok (.getfield 20, 3) ∧ lk (mMsk 130) 67 = none := by decide +kernel
theorem g130_20 : fOk 130 20 9 8 = true := by decide +kernel
theorem i130_70 : decode (mCd 130) 70 = .ok (.iload_n 1, 1) ∧ lk (mMsk 130) 70 = none := by decide +kernel
theorem i130_71 : decode (mCd 130) 71 = .ok (.iaload, 1) ∧ lk (mMsk 130) 71 = none := by decide +kernel
theorem i130_72 : decode (mCd 130) 72 = .ok (.iconst 3, 1) ∧ lk (mMsk 130) 72 = none := by decide +kernel
theorem i130_73 : decode (mCd 130) 73 = .ok (.if_icmp .ne 8, 3) ∧ lk (mMsk 130) 73 = none := by decide +kernel
theorem i130_76 : decode (mCd 130) 76 = .ok (.iload 4, 2) ∧ lk (mMsk 130) 76 = none := by decide +kernel
theorem i130_78 : decode (mCd 130) 78 = .ok (.ifCond .eq 17, 3) ∧ lk (mMsk 130) 78 = none := by decide +kernel
theorem i130_95 : decode (mCd 130) 95 = .ok (.iconst 1, 1) ∧ lk (mMsk 130) 95 = some [false, false, false, true, true, true, true, false] := by decide +kernel
theorem i130_81 : decode (mCd 130) 81 = .ok (.aload_n 0, 1) ∧ lk (mMsk 130) 81 = some [true, false, true, true, true, true, true, false] := by decide +kernel
theorem i130_82 : decode (mCd 130) 82 = .ok (.getfield 20, 3) ∧ lk (mMsk 130) 82 = none := by decide +kernel
theorem i130_85 : decode (mCd 130) 85 = .ok (.iload_n 2, 1) ∧ lk (mMsk 130) 85 = none := by decide +kernel
theorem i130_86 : decode (mCd 130) 86 = .ok (.iaload, 1) ∧ lk (mMsk 130) 86 = none := by decide +kernel
theorem i130_87 : decode (mCd 130) 87 = .ok (.iconst 3, 1) ∧ lk (mMsk 130) 87 = none := by decide +kernel
theorem i130_88 : decode (mCd 130) 88 = .ok (.if_icmp .ne 11, 3) ∧ lk (mMsk 130) 88 = none := by decide +kernel
theorem i130_91 : decode (mCd 130) 91 = .ok (.iload_n 3, 1) ∧ lk (mMsk 130) 91 = none := by decide +kernel
theorem i130_92 : decode (mCd 130) 92 = .ok (.ifCond .ne 7, 3) ∧ lk (mMsk 130) 92 = none := by decide +kernel
theorem i130_99 : decode (mCd 130) 99 = .ok (.iconst 0, 1) ∧ lk (mMsk 130) 99 = some [false, false, false, true, true, true, true, false] := by decide +kernel
theorem i130_100 : decode (mCd 130) 100 = .ok (.istore 7, 2) ∧ lk (mMsk 130) 100 = some [false, false, false, true, true, true, true, false] := by decide +kernel
theorem i130_102 : decode (mCd 130) 102 = .ok (.iload_n 3, 1) ∧ lk (mMsk 130) 102 = none := by decide +kernel
theorem i130_103 : decode (mCd 130) 103 = .ok (.iload 4, 2) ∧ lk (mMsk 130) 103 = none := by decide +kernel
theorem i130_105 : decode (mCd 130) 105 = .ok (.if_icmp .eq 18, 3) ∧ lk (mMsk 130) 105 = none := by decide +kernel
theorem i130_123 : decode (mCd 130) 123 = .ok (.iconst 1, 1) ∧ lk (mMsk 130) 123 = some [false, false, false, false, false, false, false, false] := by decide +kernel
theorem i130_108 : decode (mCd 130) 108 = .ok (.iload 5, 2) ∧ lk (mMsk 130) 108 = none := by decide +kernel
theorem i130_110 : decode (mCd 130) 110 = .ok (.ifCond .ne 13, 3) ∧ lk (mMsk 130) 110 = none := by decide +kernel
theorem i130_113 : decode (mCd 130) 113 = .ok (.iload 6, 2) ∧ lk (mMsk 130) 113 = none := by decide +kernel
theorem i130_115 : decode (mCd 130) 115 = .ok (.ifCond .ne 8, 3) ∧ lk (mMsk 130) 115 = none := by decide +kernel
theorem i130_118 : decode (mCd 130) 118 = .ok (.iload 7, 2) ∧ lk (mMsk 130) 118 = none := by decide +kernel
theorem i130_120 : decode (mCd 130) 120 = .ok (.ifCond .eq 7, 3) ∧ lk (mMsk 130) 120 = none := by decide +kernel
theorem i130_127 : decode (mCd 130) 127 = .ok (.iconst 0, 1) ∧ lk (mMsk 130) 127 = none := by decide +kernel
theorem i130_128 : decode (mCd 130) 128 = .ok (.ireturn, 1) ∧ lk (mMsk 130) 128 = some [false, false, false, false, false, false, false, false] := by decide +kernel
theorem i130_124 : decode (mCd 130) 124 = .ok (.goto 4, 3) ∧ lk (mMsk 130) 124 = none := by decide +kernel
theorem i130_96 : decode (mCd 130) 96 = .ok (.goto 4, 3) ∧ lk (mMsk 130) 96 = none := by decide +kernel
theorem i131_0 : decode (mCd 131) 0 = .ok (.aload_n 0, 1) ∧ lk (mMsk 131) 0 = none := by decide +kernel
theorem i131_1 : decode (mCd 131) 1 = .ok (.iload_n 1, 1) ∧ lk (mMsk 131) 1 = none := by decide +kernel
theorem i131_2 : decode (mCd 131) 2 = .ok (.invokevirtual 168, 3) ∧ lk (mMsk 131) 2 = none := by decide +kernel
theorem c131_168 : cvOk 131 168 121 1 0 = true := by decide +kernel
theorem i131_5 : decode (mCd 131) 5 = .ok (.ifCond .eq 16, 3) ∧ lk (mMsk 131) 5 = none := by decide +kernel
theorem i131_21 : decode (mCd 131) 21 = .ok (.bipush (-101), 2) ∧ lk (mMsk 131) 21 = some [false, false, false] := by decide +kernel
theorem i131_8 : decode (mCd 131) 8 = .ok (.aload_n 0, 1) ∧ lk (mMsk 131) 8 = none := by decide +kernel
theorem i131_9 : decode (mCd 131) 9 = .ok (.iload_n 2, 1) ∧ lk (mMsk 131) 9 = none := by decide +kernel
theorem i131_10 : decode (mCd 131) 10 = .ok (.invokevirtual 168, 3) ∧ lk (mMsk 131) 10 = none := by decide +kernel
theorem i131_13 : decode (mCd 131) 13 = .ok (.ifCond .eq 8, 3) ∧ lk (mMsk 131) 13 = none := by decide +kernel
theorem i131_16 : decode (mCd 131) 16 = .ok (.iload_n 1, 1) ∧ lk (mMsk 131) 16 = none := by decide +kernel
theorem i131_17 : decode (mCd 131) 17 = .ok (.iload_n 2, 1) ∧ lk (mMsk 131) 17 = none := by decide +kernel
theorem i131_18 : decode (mCd 131) 18 = .ok (.if_icmp .ne 6, 3) ∧ lk (mMsk 131) 18 = none := by decide +kernel
theorem i131_24 : decode (mCd 131) 24 = .ok (.aload_n 0, 1) ∧ lk (mMsk 131) 24 = none := by decide +kernel
theorem i131_25 : decode (mCd 131) 25 = .ok (.iload_n 1, 1) ∧ lk (mMsk 131) 25 = none := by decide +kernel
theorem i131_26 : decode (mCd 131) 26 = .ok (.iload_n 2, 1) ∧ lk (mMsk 131) 26 = none := by decide +kernel
theorem i131_27 : decode (mCd 131) 27 = .ok (.invokevirtual 177, 3) ∧ lk (mMsk 131) 27 = none := by decide +kernel
theorem c131_177 : cvOk 131 177 130 2 0 = true := by decide +kernel
theorem i131_30 : decode (mCd 131) 30 = .ok (.ifCond .eq 7, 3) ∧ lk (mMsk 131) 30 = none := by decide +kernel
theorem i131_37 : decode (mCd 131) 37 = .ok (.iconst 0, 1) ∧ lk (mMsk 131) 37 = none := by decide +kernel
theorem i131_38 : decode (mCd 131) 38 = .ok (.ireturn, 1) ∧ lk (mMsk 131) 38 = some [false, false, false] := by decide +kernel
theorem i131_33 : decode (mCd 131) 33 = .ok (.iconst 1, 1) ∧ lk (mMsk 131) 33 = none := by decide +kernel
theorem i131_34 : decode (mCd 131) 34 = .ok (.goto 4, 3) ∧ lk (mMsk 131) 34 = none := by decide +kernel
theorem i131_23 : decode (mCd 131) 23 = .ok (.ireturn, 1) ∧ lk (mMsk 131) 23 = none := by decide +kernel
theorem i132_0 : decode (mCd 132) 0 = .ok (.iload_n 1, 1) ∧ lk (mMsk 132) 0 = none := by decide +kernel
theorem i132_1 : decode (mCd 132) 1 = .ok (.invokestatic 109, 3) ∧ lk (mMsk 132) 1 = none := by decide +kernel
theorem c132_109 : ciOk 132 109 112 1 0 = true := by decide +kernel
theorem i132_4 : decode (mCd 132) 4 = .ok (.ifCond .ne 6, 3) ∧ lk (mMsk 132) 4 = none := by decide +kernel
theorem i132_7 : decode (mCd 132) 7 = .ok (.bipush (-101), 2) ∧ lk (mMsk 132) 7 = none := by decide +kernel
theorem i132_9 : decode (mCd 132) 9 = .ok (.ireturn, 1) ∧ lk (mMsk 132) 9 = none := by decide +kernel
theorem i132_10 : decode (mCd 132) 10 = .ok (.iload_n 2, 1) ∧ lk (mMsk 132) 10 = none := by decide +kernel
theorem i132_11 : decode (mCd 132) 11 = .ok (.iconst 0, 1) ∧ lk (mMsk 132) 11 = none := by decide +kernel
theorem i132_12 : decode (mCd 132) 12 = .ok (.bipush 99, 2) ∧ lk (mMsk 132) 12 = none := by decide +kernel
theorem i132_14 : decode (mCd 132) 14 = .ok (.invokestatic 105, 3) ∧ lk (mMsk 132) 14 = none := by decide +kernel
theorem c132_105 : ciOk 132 105 107 3 0 = true := by decide +kernel
theorem i132_17 : decode (mCd 132) 17 = .ok (.ifCond .ne 6, 3) ∧ lk (mMsk 132) 17 = none := by decide +kernel
theorem i132_20 : decode (mCd 132) 20 = .ok (.bipush (-102), 2) ∧ lk (mMsk 132) 20 = none := by decide +kernel
theorem i132_22 : decode (mCd 132) 22 = .ok (.ireturn, 1) ∧ lk (mMsk 132) 22 = none := by decide +kernel
theorem i132_23 : decode (mCd 132) 23 = .ok (.aload_n 0, 1) ∧ lk (mMsk 132) 23 = none := by decide +kernel
theorem i132_24 : decode (mCd 132) 24 = .ok (.getfield 149, 3) ∧ lk (mMsk 132) 24 = none := by decide +kernel
theorem g132_149 : fOk 132 149 9 6 = true := by decide +kernel
theorem i132_27 : decode (mCd 132) 27 = .ok (.ifCond .ne 6, 3) ∧ lk (mMsk 132) 27 = none := by decide +kernel
theorem i132_30 : decode (mCd 132) 30 = .ok (.bipush (-103), 2) ∧ lk (mMsk 132) 30 = none := by decide +kernel
theorem i132_32 : decode (mCd 132) 32 = .ok (.ireturn, 1) ∧ lk (mMsk 132) 32 = none := by decide +kernel
theorem i132_33 : decode (mCd 132) 33 = .ok (.aload_n 0, 1) ∧ lk (mMsk 132) 33 = none := by decide +kernel
theorem i132_34 : decode (mCd 132) 34 = .ok (.getfield 41, 3) ∧ lk (mMsk 132) 34 = none := by decide +kernel
theorem g132_41 : fOk 132 41 9 15 = true := by decide +kernel
theorem i132_37 : decode (mCd 132) 37 = .ok (.iload_n 1, 1) ∧ lk (mMsk 132) 37 = none := by decide +kernel
theorem i132_38 : decode (mCd 132) 38 = .ok (.iaload, 1) ∧ lk (mMsk 132) 38 = none := by decide +kernel
theorem i132_39 : decode (mCd 132) 39 = .ok (.istore_n 3, 1) ∧ lk (mMsk 132) 39 = none := by decide +kernel
theorem i132_40 : decode (mCd 132) 40 = .ok (.aload_n 0, 1) ∧ lk (mMsk 132) 40 = none := by decide +kernel
theorem i132_41 : decode (mCd 132) 41 = .ok (.getfield 41, 3) ∧ lk (mMsk 132) 41 = none := by decide +kernel
theorem i132_44 : decode (mCd 132) 44 = .ok (.iload_n 1, 1) ∧ lk (mMsk 132) 44 = none := by decide +kernel
theorem i132_45 : decode (mCd 132) 45 = .ok (.iload_n 2, 1) ∧ lk (mMsk 132) 45 = none := by decide +kernel
theorem i132_46 : decode (mCd 132) 46 = .ok (.iastore, 1) ∧ lk (mMsk 132) 46 = none := by decide +kernel
theorem i132_47 : decode (mCd 132) 47 = .ok (.iload_n 3, 1) ∧ lk (mMsk 132) 47 = none := by decide +kernel
theorem i132_48 : decode (mCd 132) 48 = .ok (.ireturn, 1) ∧ lk (mMsk 132) 48 = none := by decide +kernel
theorem i133_0 : decode (mCd 133) 0 = .ok (.aload_n 0, 1) ∧ lk (mMsk 133) 0 = none := by decide +kernel
theorem i133_1 : decode (mCd 133) 1 = .ok (.iload_n 1, 1) ∧ lk (mMsk 133) 1 = none := by decide +kernel
theorem i133_2 : decode (mCd 133) 2 = .ok (.invokevirtual 168, 3) ∧ lk (mMsk 133) 2 = none := by decide +kernel
theorem c133_168 : cvOk 133 168 121 1 0 = true := by decide +kernel
theorem i133_5 : decode (mCd 133) 5 = .ok (.ifCond .ne 6, 3) ∧ lk (mMsk 133) 5 = none := by decide +kernel
theorem i133_8 : decode (mCd 133) 8 = .ok (.bipush (-101), 2) ∧ lk (mMsk 133) 8 = none := by decide +kernel
theorem i133_10 : decode (mCd 133) 10 = .ok (.ireturn, 1) ∧ lk (mMsk 133) 10 = none := by decide +kernel
theorem i133_11 : decode (mCd 133) 11 = .ok (.iload_n 2, 1) ∧ lk (mMsk 133) 11 = none := by decide +kernel
theorem i133_12 : decode (mCd 133) 12 = .ok (.bipush (-20), 2) ∧ lk (mMsk 133) 12 = none := by decide +kernel
theorem i133_14 : decode (mCd 133) 14 = .ok (.bipush 20, 2) ∧ lk (mMsk 133) 14 = none := by decide +kernel
theorem i133_16 : decode (mCd 133) 16 = .ok (.invokestatic 105, 3) ∧ lk (mMsk 133) 16 = none := by decide +kernel
theorem c133_105 : ciOk 133 105 107 3 0 = true := by decide +kernel
theorem i133_19 : decode (mCd 133) 19 = .ok (.ifCond .ne 6, 3) ∧ lk (mMsk 133) 19 = none := by decide +kernel
theorem i133_22 : decode (mCd 133) 22 = .ok (.bipush (-102), 2) ∧ lk (mMsk 133) 22 = none := by decide +kernel
theorem i133_24 : decode (mCd 133) 24 = .ok (.ireturn, 1) ∧ lk (mMsk 133) 24 = none := by decide +kernel
theorem i133_25 : decode (mCd 133) 25 = .ok (.aload_n 0, 1) ∧ lk (mMsk 133) 25 = none := by decide +kernel
theorem i133_26 : decode (mCd 133) 26 = .ok (.getfield 20, 3) ∧ lk (mMsk 133) 26 = none := by decide +kernel
theorem g133_20 : fOk 133 20 9 8 = true := by decide +kernel
theorem i133_29 : decode (mCd 133) 29 = .ok (.iload_n 1, 1) ∧ lk (mMsk 133) 29 = none := by decide +kernel
theorem i133_30 : decode (mCd 133) 30 = .ok (.iaload, 1) ∧ lk (mMsk 133) 30 = none := by decide +kernel
theorem i133_31 : decode (mCd 133) 31 = .ok (.iconst 1, 1) ∧ lk (mMsk 133) 31 = none := by decide +kernel
theorem i133_32 : decode (mCd 133) 32 = .ok (.if_icmp .eq 13, 3) ∧ lk (mMsk 133) 32 = none := by decide +kernel
theorem i133_45 : decode (mCd 133) 45 = .ok (.iconst 1, 1) ∧ lk (mMsk 133) 45 = some [true, true, true, false, false] := by decide +kernel
theorem i133_35 : decode (mCd 133) 35 = .ok (.aload_n 0, 1) ∧ lk (mMsk 133) 35 = none := by decide +kernel
theorem i133_36 : decode (mCd 133) 36 = .ok (.getfield 20, 3) ∧ lk (mMsk 133) 36 = none := by decide +kernel
theorem i133_39 : decode (mCd 133) 39 = .ok (.iload_n 1, 1) ∧ lk (mMsk 133) 39 = none := by decide +kernel
theorem i133_40 : decode (mCd 133) 40 = .ok (.iaload, 1) ∧ lk (mMsk 133) 40 = none := by decide +kernel
theorem i133_41 : decode (mCd 133) 41 = .ok (.iconst 3, 1) ∧ lk (mMsk 133) 41 = none := by decide +kernel
theorem i133_42 : decode (mCd 133) 42 = .ok (.if_icmp .ne 7, 3) ∧ lk (mMsk 133) 42 = none := by decide +kernel
theorem i133_49 : decode (mCd 133) 49 = .ok (.iconst 0, 1) ∧ lk (mMsk 133) 49 = none := by decide +kernel
theorem i133_50 : decode (mCd 133) 50 = .ok (.istore_n 3, 1) ∧ lk (mMsk 133) 50 = some [true, true, true, false, false] := by decide +kernel
theorem i133_51 : decode (mCd 133) 51 = .ok (.aload_n 0, 1) ∧ lk (mMsk 133) 51 = none := by decide +kernel
theorem i133_52 : decode (mCd 133) 52 = .ok (.getfield 41, 3) ∧ lk (mMsk 133) 52 = none := by decide +kernel
theorem g133_41 : fOk 133 41 9 15 = true := by decide +kernel
theorem i133_55 : decode (mCd 133) 55 = .ok (.aload_n 0, 1) ∧ lk (mMsk 133) 55 = none := by decide +kernel
theorem i133_56 : decode (mCd 133) 56 = .ok (.getfield 23, 3) ∧ lk (mMsk 133) 56 = none := by decide +kernel
theorem g133_23 : fOk 133 23 9 9 = true := by decide +kernel
theorem i133_59 : decode (mCd 133) 59 = .ok (.iload_n 1, 1) ∧ lk (mMsk 133) 59 = none := by decide +kernel
theorem i133_60 : decode (mCd 133) 60 = .ok (.iaload, 1) ∧ lk (mMsk 133) 60 = none := by decide +kernel
theorem i133_61 : decode (mCd 133) 61 = .ok (.iaload, 1) ∧ lk (mMsk 133) 61 = none := by decide +kernel
theorem i133_62 : decode (mCd 133) 62 = .ok (.iload_n 2, 1) ∧ lk (mMsk 133) 62 = none := by decide +kernel
theorem i133_63 : decode (mCd 133) 63 = .ok (.isub, 1) ∧ lk (mMsk 133) 63 = none := by decide +kernel
theorem i133_64 : decode (mCd 133) 64 = .ok (.istore 4, 2) ∧ lk (mMsk 133) 64 = none := by decide +kernel
theorem i133_66 : decode (mCd 133) 66 = .ok (.iload_n 3, 1) ∧ lk (mMsk 133) 66 = none := by decide +kernel
theorem i133_67 : decode (mCd 133) 67 = .ok (.ifCond .eq 31, 3) ∧ lk (mMsk 133) 67 = none := by decide +kernel
theorem i133_98 : decode (mCd 133) 98 = .ok (.bipush (-103), 2) ∧ lk (mMsk 133) 98 = some [false, false, false, false, false] := by decide +kernel
theorem i133_70 : decode (mCd 133) 70 = .ok (.aload_n 0, 1) ∧ lk (mMsk 133) 70 = none := by decide +kernel
theorem i133_71 : decode (mCd 133) 71 = .ok (.getfield 29, 3) ∧ lk (mMsk 133) 71 = none := by decide +kernel
theorem g133_29 : fOk 133 29 9 11 = true := by decide +kernel
theorem i133_74 : decode (mCd 133) 74 = .ok (.iload_n 1, 1) ∧ lk (mMsk 133) 74 = none := by decide +kernel
theorem i133_75 : decode (mCd 133) 75 = .ok (.iaload, 1) ∧ lk (mMsk 133) 75 = none := by decide +kernel
theorem i133_76 : decode (mCd 133) 76 = .ok (.iload_n 2, 1) ∧ lk (mMsk 133) 76 = none := by decide +kernel
theorem i133_77 : decode (mCd 133) 77 = .ok (.iadd, 1) ∧ lk (mMsk 133) 77 = none := by decide +kernel
theorem i133_78 : decode (mCd 133) 78 = .ok (.iconst 0, 1) ∧ lk (mMsk 133) 78 = none := by decide +kernel
theorem i133_79 : decode (mCd 133) 79 = .ok (.bipush 20, 2) ∧ lk (mMsk 133) 79 = none := by decide +kernel
theorem i133_81 : decode (mCd 133) 81 = .ok (.invokestatic 105, 3) ∧ lk (mMsk 133) 81 = none := by decide +kernel
theorem i133_84 : decode (mCd 133) 84 = .ok (.ifCond .eq 14, 3) ∧ lk (mMsk 133) 84 = none := by decide +kernel
theorem i133_87 : decode (mCd 133) 87 = .ok (.iload 4, 2) ∧ lk (mMsk 133) 87 = none := by decide +kernel
theorem i133_89 : decode (mCd 133) 89 = .ok (.iconst 0, 1) ∧ lk (mMsk 133) 89 = none := by decide +kernel
theorem i133_90 : decode (mCd 133) 90 = .ok (.bipush 99, 2) ∧ lk (mMsk 133) 90 = none := by decide +kernel
theorem i133_92 : decode (mCd 133) 92 = .ok (.invokestatic 105, 3) ∧ lk (mMsk 133) 92 = none := by decide +kernel
theorem i133_95 : decode (mCd 133) 95 = .ok (.ifCond .ne 6, 3) ∧ lk (mMsk 133) 95 = none := by decide +kernel
theorem i133_101 : decode (mCd 133) 101 = .ok (.aload_n 0, 1) ∧ lk (mMsk 133) 101 = none := by decide +kernel
theorem i133_102 : decode (mCd 133) 102 = .ok (.getfield 41, 3) ∧ lk (mMsk 133) 102 = none := by decide +kernel
theorem i133_105 : decode (mCd 133) 105 = .ok (.aload_n 0, 1) ∧ lk (mMsk 133) 105 = none := by decide +kernel
theorem i133_106 : decode (mCd 133) 106 = .ok (.getfield 23, 3) ∧ lk (mMsk 133) 106 = none := by decide +kernel
theorem i133_109 : decode (mCd 133) 109 = .ok (.iload_n 1, 1) ∧ lk (mMsk 133) 109 = none := by decide +kernel
theorem i133_110 : decode (mCd 133) 110 = .ok (.iaload, 1) ∧ lk (mMsk 133) 110 = none := by decide +kernel
theorem i133_111 : decode (mCd 133) 111 = .ok (.iload 4, 2) ∧ lk (mMsk 133) 111 = none := by decide +kernel
theorem i133_113 : decode (mCd 133) 113 = .ok (.iastore, 1) ∧ lk (mMsk 133) 113 = none := by decide +kernel
theorem i133_114 : decode (mCd 133) 114 = .ok (.aload_n 0, 1) ∧ lk (mMsk 133) 114 = none := by decide +kernel
theorem i133_115 : decode (mCd 133) 115 = .ok (.getfield 29, 3) ∧ lk (mMsk 133) 115 = none := by decide +kernel
theorem i133_118 : decode (mCd 133) 118 = .ok (.iload_n 1, 1) ∧ lk (mMsk 133) 118 = none := by decide +kernel
theorem i133_119 : decode (mCd 133) 119 = .ok (.dup2, 1) ∧ lk (mMsk 133) 119 = none := by decide +kernel
theorem i133_120 : decode (mCd 133) 120 = .ok (.iaload, 1) ∧ lk (mMsk 133) 120 = none := by decide +kernel
theorem i133_121 : decode (mCd 133) 121 = .ok (.iload_n 2, 1) ∧ lk (mMsk 133) 121 = none := by decide +kernel
theorem i133_122 : decode (mCd 133) 122 = .ok (.iadd, 1) ∧ lk (mMsk 133) 122 = none := by decide +kernel
theorem i133_123 : decode (mCd 133) 123 = .ok (.iastore, 1) ∧ lk (mMsk 133) 123 = none := by decide +kernel
theorem i133_124 : decode (mCd 133) 124 = .ok (.aload_n 0, 1) ∧ lk (mMsk 133) 124 = none := by decide +kernel
theorem i133_125 : decode (mCd 133) 125 = .ok (.getfield 29, 3) ∧ lk (mMsk 133) 125 = none := by decide +kernel
theorem i133_128 : decode (mCd 133) 128 = .ok (.iload_n 1, 1) ∧ lk (mMsk 133) 128 = none := by decide +kernel
theorem i133_129 : decode (mCd 133) 129 = .ok (.iaload, 1) ∧ lk (mMsk 133) 129 = none := by decide +kernel
theorem i133_130 : decode (mCd 133) 130 = .ok (.ireturn, 1) ∧ lk (mMsk 133) 130 = none := by decide +kernel
theorem i133_100 : decode (mCd 133) 100 = .ok (.ireturn, 1) ∧ lk (mMsk 133) 100 = none := by decide +kernel
theorem i133_46 : decode (mCd 133) 46 = .ok (.goto 4, 3) ∧ lk (mMsk 133) 46 = none := by decide +kernel
theorem i134_0 : decode (mCd 134) 0 = .ok (.aload_n 0, 1) ∧ lk (mMsk 134) 0 = none := by decide +kernel
theorem i134_1 : decode (mCd 134) 1 = .ok (.getfield 57, 3) ∧ lk (mMsk 134) 1 = none := by decide +kernel
theorem g134_57 : fOk 134 57 9 28 = true := by decide +kernel
theorem i134_4 : decode (mCd 134) 4 = .ok (.iload_n 1, 1) ∧ lk (mMsk 134) 4 = none := by decide +kernel
theorem i134_5 : decode (mCd 134) 5 = .ok (.iaload, 1) ∧ lk (mMsk 134) 5 = none := by decide +kernel
theorem i134_6 : decode (mCd 134) 6 = .ok (.aload_n 0, 1) ∧ lk (mMsk 134) 6 = none := by decide +kernel
theorem i134_7 : decode (mCd 134) 7 = .ok (.getfield 23, 3) ∧ lk (mMsk 134) 7 = none := by decide +kernel
theorem g134_23 : fOk 134 23 9 9 = true := by decide +kernel
theorem i134_10 : decode (mCd 134) 10 = .ok (.iload_n 2, 1) ∧ lk (mMsk 134) 10 = none := by decide +kernel
theorem i134_11 : decode (mCd 134) 11 = .ok (.iaload, 1) ∧ lk (mMsk 134) 11 = none := by decide +kernel
theorem i134_12 : decode (mCd 134) 12 = .ok (.if_icmp .ne 37, 3) ∧ lk (mMsk 134) 12 = none := by decide +kernel
theorem i134_15 : decode (mCd 134) 15 = .ok (.aload_n 0, 1) ∧ lk (mMsk 134) 15 = none := by decide +kernel
theorem i134_16 : decode (mCd 134) 16 = .ok (.getfield 57, 3) ∧ lk (mMsk 134) 16 = none := by decide +kernel
theorem i134_19 : decode (mCd 134) 19 = .ok (.iload_n 2, 1) ∧ lk (mMsk 134) 19 = none := by decide +kernel
theorem i134_20 : decode (mCd 134) 20 = .ok (.iaload, 1) ∧ lk (mMsk 134) 20 = none := by decide +kernel
theorem i134_21 : decode (mCd 134) 21 = .ok (.aload_n 0, 1) ∧ lk (mMsk 134) 21 = none := by decide +kernel
theorem i134_22 : decode (mCd 134) 22 = .ok (.getfield 23, 3) ∧ lk (mMsk 134) 22 = none := by decide +kernel
theorem i134_25 : decode (mCd 134) 25 = .ok (.iload_n 1, 1) ∧ lk (mMsk 134) 25 = none := by decide +kernel
theorem i134_26 : decode (mCd 134) 26 = .ok (.iaload, 1) ∧ lk (mMsk 134) 26 = none := by decide +kernel
theorem i134_27 : decode (mCd 134) 27 = .ok (.if_icmp .ne 22, 3) ∧ lk (mMsk 134) 27 = none := by decide +kernel
theorem i134_30 : decode (mCd 134) 30 = .ok (.aload_n 0, 1) ∧ lk (mMsk 134) 30 = none := by decide +kernel
theorem i134_31 : decode (mCd 134) 31 = .ok (.getfield 57, 3) ∧ lk (mMsk 134) 31 = none := by decide +kernel
theorem i134_34 : decode (mCd 134) 34 = .ok (.iload_n 1, 1) ∧ lk (mMsk 134) 34 = none := by decide +kernel
theorem i134_35 : decode (mCd 134) 35 = .ok (.iaload, 1) ∧ lk (mMsk 134) 35 = none := by decide +kernel
theorem i134_36 : decode (mCd 134) 36 = .ok (.aload_n 0, 1) ∧ lk (mMsk 134) 36 = none := by decide +kernel
theorem i134_37 : decode (mCd 134) 37 = .ok (.getfield 23, 3) ∧ lk (mMsk 134) 37 = none := by decide +kernel
theorem i134_40 : decode (mCd 134) 40 = .ok (.iload_n 1, 1) ∧ lk (mMsk 134) 40 = none := by decide +kernel
theorem i134_41 : decode (mCd 134) 41 = .ok (.iaload, 1) ∧ lk (mMsk 134) 41 = none := by decide +kernel
theorem i134_42 : decode (mCd 134) 42 = .ok (.if_icmp .eq 7, 3) ∧ lk (mMsk 134) 42 = none := by decide +kernel
theorem i134_49 : decode (mCd 134) 49 = .ok (.iconst 0, 1) ∧ lk (mMsk 134) 49 = some [true, true, true, false] := by decide +kernel
theorem i134_45 : decode (mCd 134) 45 = .ok (.iconst 1, 1) ∧ lk (mMsk 134) 45 = none := by decide +kernel
theorem i134_46 : decode (mCd 134) 46 = .ok (.goto 4, 3) ∧ lk (mMsk 134) 46 = none := by decide +kernel
theorem i134_50 : decode (mCd 134) 50 = .ok (.istore_n 3, 1) ∧ lk (mMsk 134) 50 = some [true, true, true, false] := by decide +kernel
theorem i134_51 : decode (mCd 134) 51 = .ok (.iload_n 3, 1) ∧ lk (mMsk 134) 51 = none := by decide +kernel
theorem i134_52 : decode (mCd 134) 52 = .ok (.ifCond .eq 40, 3) ∧ lk (mMsk 134) 52 = none := by decide +kernel
theorem i134_92 : decode (mCd 134) 92 = .ok (.iconst 0, 1) ∧ lk (mMsk 134) 92 = some [false, false, false, false] := by decide +kernel
theorem i134_55 : decode (mCd 134) 55 = .ok (.aload_n 0, 1) ∧ lk (mMsk 134) 55 = none := by decide +kernel
theorem i134_56 : decode (mCd 134) 56 = .ok (.getfield 16, 3) ∧ lk (mMsk 134) 56 = none := by decide +kernel
theorem g134_16 : fOk 134 16 9 3 = true := by decide +kernel
theorem i134_59 : decode (mCd 134) 59 = .ok (.aload_n 0, 1) ∧ lk (mMsk 134) 59 = none := by decide +kernel
theorem i134_60 : decode (mCd 134) 60 = .ok (.aload_n 0, 1) ∧ lk (mMsk 134) 60 = none := by decide +kernel
theorem i134_61 : decode (mCd 134) 61 = .ok (.getfield 23, 3) ∧ lk (mMsk 134) 61 = none := by decide +kernel
theorem i134_64 : decode (mCd 134) 64 = .ok (.iload_n 1, 1) ∧ lk (mMsk 134) 64 = none := by decide +kernel
theorem i134_65 : decode (mCd 134) 65 = .ok (.iaload, 1) ∧ lk (mMsk 134) 65 = none := by decide +kernel
theorem i134_66 : decode (mCd 134) 66 = .ok (.aload_n 0, 1) ∧ lk (mMsk 134) 66 = none := by decide +kernel
theorem i134_67 : decode (mCd 134) 67 = .ok (.getfield 23, 3) ∧ lk (mMsk 134) 67 = none := by decide +kernel
theorem i134_70 : decode (mCd 134) 70 = .ok (.iload_n 2, 1) ∧ lk (mMsk 134) 70 = none := by decide +kernel
theorem i134_71 : decode (mCd 134) 71 = .ok (.iaload, 1) ∧ lk (mMsk 134) 71 = none := by decide +kernel
theorem i134_72 : decode (mCd 134) 72 = .ok (.invokevirtual 174, 3) ∧ lk (mMsk 134) 72 = none := by decide +kernel
theorem c134_174 : cvOk 134 174 120 2 0 = true := by decide +kernel
theorem i134_75 : decode (mCd 134) 75 = .ok (.baload, 1) ∧ lk (mMsk 134) 75 = none := by decide +kernel
theorem i134_76 : decode (mCd 134) 76 = .ok (.ifCond .ne 16, 3) ∧ lk (mMsk 134) 76 = none := by decide +kernel
theorem i134_79 : decode (mCd 134) 79 = .ok (.aload_n 0, 1) ∧ lk (mMsk 134) 79 = none := by decide +kernel
theorem i134_80 : decode (mCd 134) 80 = .ok (.iload_n 1, 1) ∧ lk (mMsk 134) 80 = none := by decide +kernel
theorem i134_81 : decode (mCd 134) 81 = .ok (.iload_n 2, 1) ∧ lk (mMsk 134) 81 = none := by decide +kernel
theorem i134_82 : decode (mCd 134) 82 = .ok (.invokevirtual 177, 3) ∧ lk (mMsk 134) 82 = none := by decide +kernel
theorem c134_177 : cvOk 134 177 130 2 0 = true := by decide +kernel
theorem i134_85 : decode (mCd 134) 85 = .ok (.ifCond .ne 7, 3) ∧ lk (mMsk 134) 85 = none := by decide +kernel
theorem i134_88 : decode (mCd 134) 88 = .ok (.iconst 1, 1) ∧ lk (mMsk 134) 88 = none := by decide +kernel
theorem i134_89 : decode (mCd 134) 89 = .ok (.goto 4, 3) ∧ lk (mMsk 134) 89 = none := by decide +kernel
theorem i134_93 : decode (mCd 134) 93 = .ok (.ireturn, 1) ∧ lk (mMsk 134) 93 = some [false, false, false, false] := by decide +kernel
theorem i135_0 : decode (mCd 135) 0 = .ok (.iconst 0, 1) ∧ lk (mMsk 135) 0 = none := by decide +kernel
theorem i135_1 : decode (mCd 135) 1 = .ok (.istore_n 1, 1) ∧ lk (mMsk 135) 1 = none := by decide +kernel
theorem i135_2 : decode (mCd 135) 2 = .ok (.aload_n 0, 1) ∧ lk (mMsk 135) 2 = none := by decide +kernel
theorem i135_3 : decode (mCd 135) 3 = .ok (.iconst 0, 1) ∧ lk (mMsk 135) 3 = none := by decide +kernel
theorem i135_4 : decode (mCd 135) 4 = .ok (.putfield 180, 3) ∧ lk (mMsk 135) 4 = none := by decide +kernel
theorem p135_180 : pOk 135 180 9 29 = true := by decide +kernel
theorem i135_7 : decode (mCd 135) 7 = .ok (.iconst 0, 1) ∧ lk (mMsk 135) 7 = none := by decide +kernel
theorem i135_8 : decode (mCd 135) 8 = .ok (.istore_n 2, 1) ∧ lk (mMsk 135) 8 = none := by decide +kernel
theorem i135_9 : decode (mCd 135) 9 = .ok (.iload_n 2, 1) ∧ lk (mMsk 135) 9 = some [true, true, true, false] := by decide +kernel
theorem i135_10 : decode (mCd 135) 10 = .ok (.aload_n 0, 1) ∧ lk (mMsk 135) 10 = none := by decide +kernel
theorem i135_11 : decode (mCd 135) 11 = .ok (.getfield 152, 3) ∧ lk (mMsk 135) 11 = none := by decide +kernel
theorem g135_152 : fOk 135 152 9 7 = true := by decide +kernel
theorem i135_14 : decode (mCd 135) 14 = .ok (.if_icmp .ge 87, 3) ∧ lk (mMsk 135) 14 = none := by decide +kernel
theorem i135_101 : decode (mCd 135) 101 = .ok (.iload_n 1, 1) ∧ lk (mMsk 135) 101 = none := by decide +kernel
theorem i135_102 : decode (mCd 135) 102 = .ok (.ireturn, 1) ∧ lk (mMsk 135) 102 = none := by decide +kernel
theorem i135_17 : decode (mCd 135) 17 = .ok (.iload_n 2, 1) ∧ lk (mMsk 135) 17 = none := by decide +kernel
theorem i135_18 : decode (mCd 135) 18 = .ok (.iconst 1, 1) ∧ lk (mMsk 135) 18 = none := by decide +kernel
theorem i135_19 : decode (mCd 135) 19 = .ok (.iadd, 1) ∧ lk (mMsk 135) 19 = none := by decide +kernel
theorem i135_20 : decode (mCd 135) 20 = .ok (.istore_n 3, 1) ∧ lk (mMsk 135) 20 = none := by decide +kernel
theorem i135_21 : decode (mCd 135) 21 = .ok (.iload_n 3, 1) ∧ lk (mMsk 135) 21 = some [true, true, true, true] := by decide +kernel
theorem i135_22 : decode (mCd 135) 22 = .ok (.aload_n 0, 1) ∧ lk (mMsk 135) 22 = none := by decide +kernel
theorem i135_23 : decode (mCd 135) 23 = .ok (.getfield 152, 3) ∧ lk (mMsk 135) 23 = none := by decide +kernel
theorem i135_26 : decode (mCd 135) 26 = .ok (.if_icmp .ge 69, 3) ∧ lk (mMsk 135) 26 = none := by decide +kernel
theorem i135_95 : decode (mCd 135) 95 = .ok (.iinc 2 1, 3) ∧ lk (mMsk 135) 95 = none := by decide +kernel
theorem i135_98 : decode (mCd 135) 98 = .ok (.goto (-89), 3) ∧ lk (mMsk 135) 98 = none := by decide +kernel
theorem i135_29 : decode (mCd 135) 29 = .ok (.aload_n 0, 1) ∧ lk (mMsk 135) 29 = none := by decide +kernel
theorem i135_30 : decode (mCd 135) 30 = .ok (.iload_n 2, 1) ∧ lk (mMsk 135) 30 = none := by decide +kernel
theorem i135_31 : decode (mCd 135) 31 = .ok (.iload_n 3, 1) ∧ lk (mMsk 135) 31 = none := by decide +kernel
theorem i135_32 : decode (mCd 135) 32 = .ok (.invokevirtual 183, 3) ∧ lk (mMsk 135) 32 = none := by decide +kernel
theorem c135_183 : cvOk 135 183 134 2 0 = true := by decide +kernel
theorem i135_35 : decode (mCd 135) 35 = .ok (.ifCond .eq 54, 3) ∧ lk (mMsk 135) 35 = none := by decide +kernel
theorem i135_89 : decode (mCd 135) 89 = .ok (.iinc 3 1, 3) ∧ lk (mMsk 135) 89 = some [true, true, true, true] := by decide +kernel
theorem i135_38 : decode (mCd 135) 38 = .ok (.aload_n 0, 1) ∧ lk (mMsk 135) 38 = none := by decide +kernel
theorem i135_39 : decode (mCd 135) 39 = .ok (.iload_n 1, 1) ∧ lk (mMsk 135) 39 = none := by decide +kernel
theorem i135_40 : decode (mCd 135) 40 = .ok (.ifCond .ne 7, 3) ∧ lk (mMsk 135) 40 = none := by decide +kernel
theorem i135_43 : decode (mCd 135) 43 = .ok (.iload_n 2, 1) ∧ lk (mMsk 135) 43 = none := by decide +kernel
theorem i135_44 : decode (mCd 135) 44 = .ok (.goto 7, 3) ∧ lk (mMsk 135) 44 = none := by decide +kernel
theorem i135_51 : decode (mCd 135) 51 = .ok (.putfield 186, 3) ∧ lk (mMsk 135) 51 = some [true, true, true, true] := by decide +kernel
theorem i135_47 : decode (mCd 135) 47 = .ok (.aload_n 0, 1) ∧ lk (mMsk 135) 47 = none := by decide +kernel
theorem i135_48 : decode (mCd 135) 48 = .ok (.getfield 186, 3) ∧ lk (mMsk 135) 48 = none := by decide +kernel
theorem g135_186 : fOk 135 186 9 30 = true := by decide +kernel
theorem p135_186 : pOk 135 186 9 30 = true := by decide +kernel
theorem i135_54 : decode (mCd 135) 54 = .ok (.aload_n 0, 1) ∧ lk (mMsk 135) 54 = none := by decide +kernel
theorem i135_55 : decode (mCd 135) 55 = .ok (.iload_n 1, 1) ∧ lk (mMsk 135) 55 = none := by decide +kernel
theorem i135_56 : decode (mCd 135) 56 = .ok (.ifCond .ne 7, 3) ∧ lk (mMsk 135) 56 = none := by decide +kernel
theorem i135_59 : decode (mCd 135) 59 = .ok (.iload_n 3, 1) ∧ lk (mMsk 135) 59 = none := by decide +kernel
theorem i135_60 : decode (mCd 135) 60 = .ok (.goto 7, 3) ∧ lk (mMsk 135) 60 = none := by decide +kernel
theorem i135_67 : decode (mCd 135) 67 = .ok (.putfield 189, 3) ∧ lk (mMsk 135) 67 = some [true, true, true, true] := by decide +kernel
theorem i135_63 : decode (mCd 135) 63 = .ok (.aload_n 0, 1) ∧ lk (mMsk 135) 63 = none := by decide +kernel
theorem i135_64 : decode (mCd 135) 64 = .ok (.getfield 189, 3) ∧ lk (mMsk 135) 64 = none := by decide +kernel
theorem g135_189 : fOk 135 189 9 31 = true := by decide +kernel
theorem p135_189 : pOk 135 189 9 31 = true := by decide +kernel
theorem i135_70 : decode (mCd 135) 70 = .ok (.iinc 1 1, 3) ∧ lk (mMsk 135) 70 = none := by decide +kernel
theorem i135_73 : decode (mCd 135) 73 = .ok (.aload_n 0, 1) ∧ lk (mMsk 135) 73 = none := by decide +kernel
theorem i135_74 : decode (mCd 135) 74 = .ok (.dup, 1) ∧ lk (mMsk 135) 74 = none := by decide +kernel
theorem i135_75 : decode (mCd 135) 75 = .ok (.getfield 180, 3) ∧ lk (mMsk 135) 75 = none := by decide +kernel
theorem g135_180 : fOk 135 180 9 29 = true := by decide +kernel
theorem i135_78 : decode (mCd 135) 78 = .ok (.iconst 1, 1) ∧ lk (mMsk 135) 78 = none := by decide +kernel
theorem i135_79 : decode (mCd 135) 79 = .ok (.iload_n 2, 1) ∧ lk (mMsk 135) 79 = none := by decide +kernel
theorem i135_80 : decode (mCd 135) 80 = .ok (.ishl, 1) ∧ lk (mMsk 135) 80 = none := by decide +kernel
theorem i135_81 : decode (mCd 135) 81 = .ok (.iconst 1, 1) ∧ lk (mMsk 135) 81 = none := by decide +kernel
theorem i135_82 : decode (mCd 135) 82 = .ok (.iload_n 3, 1) ∧ lk (mMsk 135) 82 = none := by decide +kernel
theorem i135_83 : decode (mCd 135) 83 = .ok (.ishl, 1) ∧ lk (mMsk 135) 83 = none := by decide +kernel
theorem i135_84 : decode (mCd 135) 84 = .ok (.ior, 1) ∧ lk (mMsk 135) 84 = none := by decide +kernel
theorem i135_85 : decode (mCd 135) 85 = .ok (.ior, 1) ∧ lk (mMsk 135) 85 = none := by decide +kernel
theorem i135_86 : decode (mCd 135) 86 = .ok (.putfield 180, 3) ∧ lk (mMsk 135) 86 = none := by decide +kernel
theorem i135_92 : decode (mCd 135) 92 = .ok (.goto (-71), 3) ∧ lk (mMsk 135) 92 = none := by decide +kernel
theorem i136_0 : decode (mCd 136) 0 = .ok (.iconst 0, 1) ∧ lk (mMsk 136) 0 = none := by decide +kernel
theorem i136_1 : decode (mCd 136) 1 = .ok (.istore_n 1, 1) ∧ lk (mMsk 136) 1 = none := by decide +kernel
theorem i136_2 : decode (mCd 136) 2 = .ok (.iload_n 1, 1) ∧ lk (mMsk 136) 2 = some [true, true, false] := by decide +kernel
theorem i136_3 : decode (mCd 136) 3 = .ok (.aload_n 0, 1) ∧ lk (mMsk 136) 3 = none := by decide +kernel
theorem i136_4 : decode (mCd 136) 4 = .ok (.getfield 152, 3) ∧ lk (mMsk 136) 4 = none := by decide +kernel
theorem g136_152 : fOk 136 152 9 7 = true := by decide +kernel
theorem i136_7 : decode (mCd 136) 7 = .ok (.if_icmp .ge 38, 3) ∧ lk (mMsk 136) 7 = none := by decide +kernel
theorem i136_45 : decode (mCd 136) 45 = .ok (.aload_n 0, 1) ∧ lk (mMsk 136) 45 = none := by decide +kernel
theorem i136_46 : decode (mCd 136) 46 = .ok (.invokevirtual 192, 3) ∧ lk (mMsk 136) 46 = none := by decide +kernel
theorem c136_192 : cvOk 136 192 135 0 0 = true := by decide +kernel
theorem i136_49 : decode (mCd 136) 49 = .ok (.istore_n 1, 1) ∧ lk (mMsk 136) 49 = none := by decide +kernel
theorem i136_50 : decode (mCd 136) 50 = .ok (.iconst 0, 1) ∧ lk (mMsk 136) 50 = none := by decide +kernel
theorem i136_51 : decode (mCd 136) 51 = .ok (.istore_n 2, 1) ∧ lk (mMsk 136) 51 = none := by decide +kernel
theorem i136_52 : decode (mCd 136) 52 = .ok (.iload_n 2, 1) ∧ lk (mMsk 136) 52 = some [true, true, true] := by decide +kernel
theorem i136_10 : decode (mCd 136) 10 = .ok (.aload_n 0, 1) ∧ lk (mMsk 136) 10 = none := by decide +kernel
theorem i136_11 : decode (mCd 136) 11 = .ok (.getfield 57, 3) ∧ lk (mMsk 136) 11 = none := by decide +kernel
theorem g136_57 : fOk 136 57 9 28 = true := by decide +kernel
theorem i136_14 : decode (mCd 136) 14 = .ok (.iload_n 1, 1) ∧ lk (mMsk 136) 14 = none := by decide +kernel
theorem i136_15 : decode (mCd 136) 15 = .ok (.aload_n 0, 1) ∧ lk (mMsk 136) 15 = none := by decide +kernel
theorem i136_16 : decode (mCd 136) 16 = .ok (.iload_n 1, 1) ∧ lk (mMsk 136) 16 = none := by decide +kernel
theorem i136_17 : decode (mCd 136) 17 = .ok (.invokevirtual 165, 3) ∧ lk (mMsk 136) 17 = none := by decide +kernel
theorem c136_165 : cvOk 136 165 124 1 0 = true := by decide +kernel
theorem i136_20 : decode (mCd 136) 20 = .ok (.iconst (-1), 1) ∧ lk (mMsk 136) 20 = none := by decide +kernel
theorem i136_21 : decode (mCd 136) 21 = .ok (.if_icmp .ne 12, 3) ∧ lk (mMsk 136) 21 = none := by decide +kernel
theorem i136_24 : decode (mCd 136) 24 = .ok (.aload_n 0, 1) ∧ lk (mMsk 136) 24 = none := by decide +kernel
theorem i136_25 : decode (mCd 136) 25 = .ok (.getfield 23, 3) ∧ lk (mMsk 136) 25 = none := by decide +kernel
theorem g136_23 : fOk 136 23 9 9 = true := by decide +kernel
theorem i136_28 : decode (mCd 136) 28 = .ok (.iload_n 1, 1) ∧ lk (mMsk 136) 28 = none := by decide +kernel
theorem i136_29 : decode (mCd 136) 29 = .ok (.iaload, 1) ∧ lk (mMsk 136) 29 = none := by decide +kernel
theorem i136_30 : decode (mCd 136) 30 = .ok (.goto 8, 3) ∧ lk (mMsk 136) 30 = none := by decide +kernel
theorem i136_38 : decode (mCd 136) 38 = .ok (.iastore, 1) ∧ lk (mMsk 136) 38 = some [true, true, false] := by decide +kernel
theorem i136_33 : decode (mCd 136) 33 = .ok (.aload_n 0, 1) ∧ lk (mMsk 136) 33 = none := by decide +kernel
theorem i136_34 : decode (mCd 136) 34 = .ok (.iload_n 1, 1) ∧ lk (mMsk 136) 34 = none := by decide +kernel
theorem i136_35 : decode (mCd 136) 35 = .ok (.invokevirtual 165, 3) ∧ lk (mMsk 136) 35 = none := by decide +kernel
theorem i136_39 : decode (mCd 136) 39 = .ok (.iinc 1 1, 3) ∧ lk (mMsk 136) 39 = none := by decide +kernel
theorem i136_42 : decode (mCd 136) 42 = .ok (.goto (-40), 3) ∧ lk (mMsk 136) 42 = none := by decide +kernel
theorem i136_53 : decode (mCd 136) 53 = .ok (.aload_n 0, 1) ∧ lk (mMsk 136) 53 = none := by decide +kernel
theorem i136_54 : decode (mCd 136) 54 = .ok (.getfield 152, 3) ∧ lk (mMsk 136) 54 = none := by decide +kernel
theorem i136_57 : decode (mCd 136) 57 = .ok (.if_icmp .ge 55, 3) ∧ lk (mMsk 136) 57 = none := by decide +kernel
theorem i136_112 : decode (mCd 136) 112 = .ok (.iload_n 1, 1) ∧ lk (mMsk 136) 112 = none := by decide +kernel
theorem i136_113 : decode (mCd 136) 113 = .ok (.ireturn, 1) ∧ lk (mMsk 136) 113 = none := by decide +kernel
theorem i136_60 : decode (mCd 136) 60 = .ok (.aload_n 0, 1) ∧ lk (mMsk 136) 60 = none := by decide +kernel
theorem i136_61 : decode (mCd 136) 61 = .ok (.getfield 180, 3) ∧ lk (mMsk 136) 61 = none := by decide +kernel
theorem g136_180 : fOk 136 180 9 29 = true := by decide +kernel
theorem i136_64 : decode (mCd 136) 64 = .ok (.iload_n 2, 1) ∧ lk (mMsk 136) 64 = none := by decide +kernel
theorem i136_65 : decode (mCd 136) 65 = .ok (.invokestatic 196, 3) ∧ lk (mMsk 136) 65 = none := by decide +kernel
theorem c136_196 : ciOk 136 196 108 2 0 = true := by decide +kernel
theorem i136_68 : decode (mCd 136) 68 = .ok (.ifCond .ne 38, 3) ∧ lk (mMsk 136) 68 = none := by decide +kernel
theorem i136_71 : decode (mCd 136) 71 = .ok (.aload_n 0, 1) ∧ lk (mMsk 136) 71 = none := by decide +kernel
theorem i136_72 : decode (mCd 136) 72 = .ok (.getfield 38, 3) ∧ lk (mMsk 136) 72 = none := by decide +kernel
theorem g136_38 : fOk 136 38 9 14 = true := by decide +kernel
theorem i136_75 : decode (mCd 136) 75 = .ok (.iload_n 2, 1) ∧ lk (mMsk 136) 75 = none := by decide +kernel
theorem i136_76 : decode (mCd 136) 76 = .ok (.dup2, 1) ∧ lk (mMsk 136) 76 = none := by decide +kernel
theorem i136_77 : decode (mCd 136) 77 = .ok (.iaload, 1) ∧ lk (mMsk 136) 77 = none := by decide +kernel
theorem i136_78 : decode (mCd 136) 78 = .ok (.aload_n 0, 1) ∧ lk (mMsk 136) 78 = none := by decide +kernel
theorem i136_79 : decode (mCd 136) 79 = .ok (.iload_n 2, 1) ∧ lk (mMsk 136) 79 = none := by decide +kernel
theorem i136_80 : decode (mCd 136) 80 = .ok (.invokevirtual 165, 3) ∧ lk (mMsk 136) 80 = none := by decide +kernel
theorem i136_83 : decode (mCd 136) 83 = .ok (.iconst (-1), 1) ∧ lk (mMsk 136) 83 = none := by decide +kernel
theorem i136_84 : decode (mCd 136) 84 = .ok (.if_icmp .ne 7, 3) ∧ lk (mMsk 136) 84 = none := by decide +kernel
theorem i136_87 : decode (mCd 136) 87 = .ok (.iconst 0, 1) ∧ lk (mMsk 136) 87 = none := by decide +kernel
theorem i136_88 : decode (mCd 136) 88 = .ok (.goto 4, 3) ∧ lk (mMsk 136) 88 = none := by decide +kernel
theorem i136_92 : decode (mCd 136) 92 = .ok (.iadd, 1) ∧ lk (mMsk 136) 92 = some [true, true, true] := by decide +kernel
theorem i136_91 : decode (mCd 136) 91 = .ok (.iconst 1, 1) ∧ lk (mMsk 136) 91 = none := by decide +kernel
theorem i136_106 : decode (mCd 136) 106 = .ok (.iinc 2 1, 3) ∧ lk (mMsk 136) 106 = some [true, true, true] := by decide +kernel
theorem i136_109 : decode (mCd 136) 109 = .ok (.goto (-57), 3) ∧ lk (mMsk 136) 109 = none := by decide +kernel
theorem i136_93 : decode (mCd 136) 93 = .ok (.iastore, 1) ∧ lk (mMsk 136) 93 = none := by decide +kernel
theorem i136_94 : decode (mCd 136) 94 = .ok (.aload_n 0, 1) ∧ lk (mMsk 136) 94 = none := by decide +kernel
theorem i136_95 : decode (mCd 136) 95 = .ok (.getfield 23, 3) ∧ lk (mMsk 136) 95 = none := by decide +kernel
theorem i136_98 : decode (mCd 136) 98 = .ok (.iload_n 2, 1) ∧ lk (mMsk 136) 98 = none := by decide +kernel
theorem i136_99 : decode (mCd 136) 99 = .ok (.aload_n 0, 1) ∧ lk (mMsk 136) 99 = none := by decide +kernel
theorem i136_100 : decode (mCd 136) 100 = .ok (.getfield 57, 3) ∧ lk (mMsk 136) 100 = none := by decide +kernel
theorem i136_103 : decode (mCd 136) 103 = .ok (.iload_n 2, 1) ∧ lk (mMsk 136) 103 = none := by decide +kernel
theorem i136_104 : decode (mCd 136) 104 = .ok (.iaload, 1) ∧ lk (mMsk 136) 104 = none := by decide +kernel
theorem i136_105 : decode (mCd 136) 105 = .ok (.iastore, 1) ∧ lk (mMsk 136) 105 = none := by decide +kernel
theorem i137_0 : decode (mCd 137) 0 = .ok (.iload_n 1, 1) ∧ lk (mMsk 137) 0 = none := by decide +kernel
theorem i137_1 : decode (mCd 137) 1 = .ok (.iconst 1, 1) ∧ lk (mMsk 137) 1 = none := by decide +kernel
theorem i137_2 : decode (mCd 137) 2 = .ok (.bipush 60, 2) ∧ lk (mMsk 137) 2 = none := by decide +kernel
theorem i137_4 : decode (mCd 137) 4 = .ok (.invokestatic 105, 3) ∧ lk (mMsk 137) 4 = none := by decide +kernel
theorem c137_105 : ciOk 137 105 107 3 0 = true := by decide +kernel
theorem i137_7 : decode (mCd 137) 7 = .ok (.ifCond .ne 6, 3) ∧ lk (mMsk 137) 7 = none := by decide +kernel
theorem i137_10 : decode (mCd 137) 10 = .ok (.bipush (-102), 2) ∧ lk (mMsk 137) 10 = none := by decide +kernel
theorem i137_12 : decode (mCd 137) 12 = .ok (.ireturn, 1) ∧ lk (mMsk 137) 12 = none := by decide +kernel
theorem i137_13 : decode (mCd 137) 13 = .ok (.aload_n 0, 1) ∧ lk (mMsk 137) 13 = none := by decide +kernel
theorem i137_14 : decode (mCd 137) 14 = .ok (.getfield 149, 3) ∧ lk (mMsk 137) 14 = none := by decide +kernel
theorem g137_149 : fOk 137 149 9 6 = true := by decide +kernel
theorem i137_17 : decode (mCd 137) 17 = .ok (.ifCond .ne 6, 3) ∧ lk (mMsk 137) 17 = none := by decide +kernel
theorem i137_20 : decode (mCd 137) 20 = .ok (.bipush (-103), 2) ∧ lk (mMsk 137) 20 = none := by decide +kernel
theorem i137_22 : decode (mCd 137) 22 = .ok (.ireturn, 1) ∧ lk (mMsk 137) 22 = none := by decide +kernel
theorem i137_23 : decode (mCd 137) 23 = .ok (.iconst 0, 1) ∧ lk (mMsk 137) 23 = none := by decide +kernel
theorem i137_24 : decode (mCd 137) 24 = .ok (.istore_n 2, 1) ∧ lk (mMsk 137) 24 = none := by decide +kernel
theorem i137_25 : decode (mCd 137) 25 = .ok (.iconst 0, 1) ∧ lk (mMsk 137) 25 = none := by decide +kernel
theorem i137_26 : decode (mCd 137) 26 = .ok (.istore_n 3, 1) ∧ lk (mMsk 137) 26 = none := by decide +kernel
theorem i137_27 : decode (mCd 137) 27 = .ok (.iload_n 3, 1) ∧ lk (mMsk 137) 27 = some [true, true, true, true] := by decide +kernel
theorem i137_28 : decode (mCd 137) 28 = .ok (.iload_n 1, 1) ∧ lk (mMsk 137) 28 = none := by decide +kernel
theorem i137_29 : decode (mCd 137) 29 = .ok (.if_icmp .ge 16, 3) ∧ lk (mMsk 137) 29 = none := by decide +kernel
theorem i137_45 : decode (mCd 137) 45 = .ok (.aload_n 0, 1) ∧ lk (mMsk 137) 45 = none := by decide +kernel
theorem i137_46 : decode (mCd 137) 46 = .ok (.dup, 1) ∧ lk (mMsk 137) 46 = none := by decide +kernel
theorem i137_47 : decode (mCd 137) 47 = .ok (.getfield 155, 3) ∧ lk (mMsk 137) 47 = none := by decide +kernel
theorem g137_155 : fOk 137 155 9 16 = true := by decide +kernel
theorem i137_50 : decode (mCd 137) 50 = .ok (.iload_n 1, 1) ∧ lk (mMsk 137) 50 = none := by decide +kernel
theorem i137_51 : decode (mCd 137) 51 = .ok (.iadd, 1) ∧ lk (mMsk 137) 51 = none := by decide +kernel
theorem i137_52 : decode (mCd 137) 52 = .ok (.putfield 155, 3) ∧ lk (mMsk 137) 52 = none := by decide +kernel
theorem p137_155 : pOk 137 155 9 16 = true := by decide +kernel
theorem i137_55 : decode (mCd 137) 55 = .ok (.iload_n 2, 1) ∧ lk (mMsk 137) 55 = none := by decide +kernel
theorem i137_56 : decode (mCd 137) 56 = .ok (.ireturn, 1) ∧ lk (mMsk 137) 56 = none := by decide +kernel
theorem i137_32 : decode (mCd 137) 32 = .ok (.iload_n 2, 1) ∧ lk (mMsk 137) 32 = none := by decide +kernel
theorem i137_33 : decode (mCd 137) 33 = .ok (.aload_n 0, 1) ∧ lk (mMsk 137) 33 = none := by decide +kernel
theorem i137_34 : decode (mCd 137) 34 = .ok (.invokevirtual 199, 3) ∧ lk (mMsk 137) 34 = none := by decide +kernel
theorem c137_199 : cvOk 137 199 136 0 0 = true := by decide +kernel
theorem i137_37 : decode (mCd 137) 37 = .ok (.iadd, 1) ∧ lk (mMsk 137) 37 = none := by decide +kernel
theorem i137_38 : decode (mCd 137) 38 = .ok (.istore_n 2, 1) ∧ lk (mMsk 137) 38 = none := by decide +kernel
theorem i137_39 : decode (mCd 137) 39 = .ok (.iinc 3 1, 3) ∧ lk (mMsk 137) 39 = none := by decide +kernel
theorem i137_42 : decode (mCd 137) 42 = .ok (.goto (-15), 3) ∧ lk (mMsk 137) 42 = none := by decide +kernel
theorem i138_0 : decode (mCd 138) 0 = .ok (.iconst 0, 1) ∧ lk (mMsk 138) 0 = none := by decide +kernel
theorem i138_1 : decode (mCd 138) 1 = .ok (.istore_n 1, 1) ∧ lk (mMsk 138) 1 = none := by decide +kernel
theorem i138_2 : decode (mCd 138) 2 = .ok (.iload_n 1, 1) ∧ lk (mMsk 138) 2 = some [true, true] := by decide +kernel
theorem i138_3 : decode (mCd 138) 3 = .ok (.iconst 5, 1) ∧ lk (mMsk 138) 3 = none := by decide +kernel
theorem i138_4 : decode (mCd 138) 4 = .ok (.if_icmp .ge 33, 3) ∧ lk (mMsk 138) 4 = none := by decide +kernel
theorem i138_37 : decode (mCd 138) 37 = .ok (.return_, 1) ∧ lk (mMsk 138) 37 = none := by decide +kernel
theorem i138_7 : decode (mCd 138) 7 = .ok (.aload_n 0, 1) ∧ lk (mMsk 138) 7 = none := by decide +kernel
theorem i138_8 : decode (mCd 138) 8 = .ok (.getfield 60, 3) ∧ lk (mMsk 138) 8 = none := by decide +kernel
theorem g138_60 : fOk 138 60 9 32 = true := by decide +kernel
theorem i138_11 : decode (mCd 138) 11 = .ok (.iload_n 1, 1) ∧ lk (mMsk 138) 11 = none := by decide +kernel
theorem i138_12 : decode (mCd 138) 12 = .ok (.aload_n 0, 1) ∧ lk (mMsk 138) 12 = none := by decide +kernel
theorem i138_13 : decode (mCd 138) 13 = .ok (.getfield 23, 3) ∧ lk (mMsk 138) 13 = none := by decide +kernel
theorem g138_23 : fOk 138 23 9 9 = true := by decide +kernel
theorem i138_16 : decode (mCd 138) 16 = .ok (.iload_n 1, 1) ∧ lk (mMsk 138) 16 = none := by decide +kernel
theorem i138_17 : decode (mCd 138) 17 = .ok (.iaload, 1) ∧ lk (mMsk 138) 17 = none := by decide +kernel
theorem i138_18 : decode (mCd 138) 18 = .ok (.iastore, 1) ∧ lk (mMsk 138) 18 = none := by decide +kernel
theorem i138_19 : decode (mCd 138) 19 = .ok (.aload_n 0, 1) ∧ lk (mMsk 138) 19 = none := by decide +kernel
theorem i138_20 : decode (mCd 138) 20 = .ok (.getfield 63, 3) ∧ lk (mMsk 138) 20 = none := by decide +kernel
theorem g138_63 : fOk 138 63 9 33 = true := by decide +kernel
theorem i138_23 : decode (mCd 138) 23 = .ok (.iload_n 1, 1) ∧ lk (mMsk 138) 23 = none := by decide +kernel
theorem i138_24 : decode (mCd 138) 24 = .ok (.aload_n 0, 1) ∧ lk (mMsk 138) 24 = none := by decide +kernel
theorem i138_25 : decode (mCd 138) 25 = .ok (.getfield 38, 3) ∧ lk (mMsk 138) 25 = none := by decide +kernel
theorem g138_38 : fOk 138 38 9 14 = true := by decide +kernel
theorem i138_28 : decode (mCd 138) 28 = .ok (.iload_n 1, 1) ∧ lk (mMsk 138) 28 = none := by decide +kernel
theorem i138_29 : decode (mCd 138) 29 = .ok (.iaload, 1) ∧ lk (mMsk 138) 29 = none := by decide +kernel
theorem i138_30 : decode (mCd 138) 30 = .ok (.iastore, 1) ∧ lk (mMsk 138) 30 = none := by decide +kernel
theorem i138_31 : decode (mCd 138) 31 = .ok (.iinc 1 1, 3) ∧ lk (mMsk 138) 31 = none := by decide +kernel
theorem i138_34 : decode (mCd 138) 34 = .ok (.goto (-32), 3) ∧ lk (mMsk 138) 34 = none := by decide +kernel
theorem i139_0 : decode (mCd 139) 0 = .ok (.iconst 0, 1) ∧ lk (mMsk 139) 0 = none := by decide +kernel
theorem i139_1 : decode (mCd 139) 1 = .ok (.istore_n 1, 1) ∧ lk (mMsk 139) 1 = none := by decide +kernel
theorem i139_2 : decode (mCd 139) 2 = .ok (.iload_n 1, 1) ∧ lk (mMsk 139) 2 = some [true, true] := by decide +kernel
theorem i139_3 : decode (mCd 139) 3 = .ok (.iconst 5, 1) ∧ lk (mMsk 139) 3 = none := by decide +kernel
theorem i139_4 : decode (mCd 139) 4 = .ok (.if_icmp .ge 33, 3) ∧ lk (mMsk 139) 4 = none := by decide +kernel
theorem i139_37 : decode (mCd 139) 37 = .ok (.return_, 1) ∧ lk (mMsk 139) 37 = none := by decide +kernel
theorem i139_7 : decode (mCd 139) 7 = .ok (.aload_n 0, 1) ∧ lk (mMsk 139) 7 = none := by decide +kernel
theorem i139_8 : decode (mCd 139) 8 = .ok (.getfield 23, 3) ∧ lk (mMsk 139) 8 = none := by decide +kernel
theorem g139_23 : fOk 139 23 9 9 = true := by decide +kernel
theorem i139_11 : decode (mCd 139) 11 = .ok (.iload_n 1, 1) ∧ lk (mMsk 139) 11 = none := by decide +kernel
theorem i139_12 : decode (mCd 139) 12 = .ok (.aload_n 0, 1) ∧ lk (mMsk 139) 12 = none := by decide +kernel
theorem i139_13 : decode (mCd 139) 13 = .ok (.getfield 60, 3) ∧ lk (mMsk 139) 13 = none := by decide +kernel
theorem g139_60 : fOk 139 60 9 32 = true := by decide +kernel
theorem i139_16 : decode (mCd 139) 16 = .ok (.iload_n 1, 1) ∧ lk (mMsk 139) 16 = none := by decide +kernel
theorem i139_17 : decode (mCd 139) 17 = .ok (.iaload, 1) ∧ lk (mMsk 139) 17 = none := by decide +kernel
theorem i139_18 : decode (mCd 139) 18 = .ok (.iastore, 1) ∧ lk (mMsk 139) 18 = none := by decide +kernel
theorem i139_19 : decode (mCd 139) 19 = .ok (.aload_n 0, 1) ∧ lk (mMsk 139) 19 = none := by decide +kernel
theorem i139_20 : decode (mCd 139) 20 = .ok (.getfield 38, 3) ∧ lk (mMsk 139) 20 = none := by decide +kernel
theorem g139_38 : fOk 139 38 9 14 = true := by decide +kernel
theorem i139_23 : decode (mCd 139) 23 = .ok (.iload_n 1, 1) ∧ lk (mMsk 139) 23 = none := by decide +kernel
theorem i139_24 : decode (mCd 139) 24 = .ok (.aload_n 0, 1) ∧ lk (mMsk 139) 24 = none := by decide +kernel
theorem i139_25 : decode (mCd 139) 25 = .ok (.getfield 63, 3) ∧ lk (mMsk 139) 25 = none := by decide +kernel
theorem g139_63 : fOk 139 63 9 33 = true := by decide +kernel
theorem i139_28 : decode (mCd 139) 28 = .ok (.iload_n 1, 1) ∧ lk (mMsk 139) 28 = none := by decide +kernel
theorem i139_29 : decode (mCd 139) 29 = .ok (.iaload, 1) ∧ lk (mMsk 139) 29 = none := by decide +kernel
theorem i139_30 : decode (mCd 139) 30 = .ok (.iastore, 1) ∧ lk (mMsk 139) 30 = none := by decide +kernel
theorem i139_31 : decode (mCd 139) 31 = .ok (.iinc 1 1, 3) ∧ lk (mMsk 139) 31 = none := by decide +kernel
theorem i139_34 : decode (mCd 139) 34 = .ok (.goto (-32), 3) ∧ lk (mMsk 139) 34 = none := by decide +kernel
theorem i140_0 : decode (mCd 140) 0 = .ok (.iconst 0, 1) ∧ lk (mMsk 140) 0 = none := by decide +kernel
theorem i140_1 : decode (mCd 140) 1 = .ok (.istore_n 1, 1) ∧ lk (mMsk 140) 1 = none := by decide +kernel
theorem i140_2 : decode (mCd 140) 2 = .ok (.iconst 0, 1) ∧ lk (mMsk 140) 2 = none := by decide +kernel
theorem i140_3 : decode (mCd 140) 3 = .ok (.istore_n 2, 1) ∧ lk (mMsk 140) 3 = none := by decide +kernel
theorem i140_4 : decode (mCd 140) 4 = .ok (.iload_n 2, 1) ∧ lk (mMsk 140) 4 = some [true, true, true] := by decide +kernel
theorem i140_5 : decode (mCd 140) 5 = .ok (.aload_n 0, 1) ∧ lk (mMsk 140) 5 = none := by decide +kernel
theorem i140_6 : decode (mCd 140) 6 = .ok (.getfield 152, 3) ∧ lk (mMsk 140) 6 = none := by decide +kernel
theorem g140_152 : fOk 140 152 9 7 = true := by decide +kernel
theorem i140_9 : decode (mCd 140) 9 = .ok (.if_icmp .ge 28, 3) ∧ lk (mMsk 140) 9 = none := by decide +kernel
theorem i140_37 : decode (mCd 140) 37 = .ok (.iload_n 1, 1) ∧ lk (mMsk 140) 37 = none := by decide +kernel
theorem i140_38 : decode (mCd 140) 38 = .ok (.ireturn, 1) ∧ lk (mMsk 140) 38 = none := by decide +kernel
theorem i140_12 : decode (mCd 140) 12 = .ok (.iload_n 1, 1) ∧ lk (mMsk 140) 12 = none := by decide +kernel
theorem i140_13 : decode (mCd 140) 13 = .ok (.ifCond .ne 12, 3) ∧ lk (mMsk 140) 13 = none := by decide +kernel
theorem i140_16 : decode (mCd 140) 16 = .ok (.aload_n 0, 1) ∧ lk (mMsk 140) 16 = none := by decide +kernel
theorem i140_17 : decode (mCd 140) 17 = .ok (.iload_n 2, 1) ∧ lk (mMsk 140) 17 = none := by decide +kernel
theorem i140_18 : decode (mCd 140) 18 = .ok (.invokevirtual 165, 3) ∧ lk (mMsk 140) 18 = none := by decide +kernel
theorem c140_165 : cvOk 140 165 124 1 0 = true := by decide +kernel
theorem i140_21 : decode (mCd 140) 21 = .ok (.iconst (-1), 1) ∧ lk (mMsk 140) 21 = none := by decide +kernel
theorem i140_22 : decode (mCd 140) 22 = .ok (.if_icmp .eq 7, 3) ∧ lk (mMsk 140) 22 = none := by decide +kernel
theorem i140_29 : decode (mCd 140) 29 = .ok (.iconst 0, 1) ∧ lk (mMsk 140) 29 = none := by decide +kernel
theorem i140_30 : decode (mCd 140) 30 = .ok (.istore_n 1, 1) ∧ lk (mMsk 140) 30 = some [true, false, true] := by decide +kernel
theorem i140_25 : decode (mCd 140) 25 = .ok (.iconst 1, 1) ∧ lk (mMsk 140) 25 = some [true, false, true] := by decide +kernel
theorem i140_26 : decode (mCd 140) 26 = .ok (.goto 4, 3) ∧ lk (mMsk 140) 26 = none := by decide +kernel
theorem i140_31 : decode (mCd 140) 31 = .ok (.iinc 2 1, 3) ∧ lk (mMsk 140) 31 = none := by decide +kernel
theorem i140_34 : decode (mCd 140) 34 = .ok (.goto (-30), 3) ∧ lk (mMsk 140) 34 = none := by decide +kernel
theorem i141_0 : decode (mCd 141) 0 = .ok (.aload_n 0, 1) ∧ lk (mMsk 141) 0 = none := by decide +kernel
theorem i141_1 : decode (mCd 141) 1 = .ok (.invokevirtual 202, 3) ∧ lk (mMsk 141) 1 = none := by decide +kernel
theorem c141_202 : cvOk 141 202 138 0 3 = true := by decide +kernel
theorem i141_4 : decode (mCd 141) 4 = .ok (.iconst (-1), 1) ∧ lk (mMsk 141) 4 = none := by decide +kernel
theorem i141_5 : decode (mCd 141) 5 = .ok (.istore_n 2, 1) ∧ lk (mMsk 141) 5 = none := by decide +kernel
theorem i141_6 : decode (mCd 141) 6 = .ok (.iconst 1, 1) ∧ lk (mMsk 141) 6 = none := by decide +kernel
theorem i141_7 : decode (mCd 141) 7 = .ok (.istore_n 3, 1) ∧ lk (mMsk 141) 7 = none := by decide +kernel
theorem i141_8 : decode (mCd 141) 8 = .ok (.iload_n 3, 1) ∧ lk (mMsk 141) 8 = some [true, true, true, true] := by decide +kernel
theorem i141_9 : decode (mCd 141) 9 = .ok (.bipush 60, 2) ∧ lk (mMsk 141) 9 = none := by decide +kernel
theorem i141_11 : decode (mCd 141) 11 = .ok (.if_icmp .gt 41, 3) ∧ lk (mMsk 141) 11 = none := by decide +kernel
theorem i141_52 : decode (mCd 141) 52 = .ok (.aload_n 0, 1) ∧ lk (mMsk 141) 52 = some [true, false, true, false] := by decide +kernel
theorem i141_14 : decode (mCd 141) 14 = .ok (.iload_n 2, 1) ∧ lk (mMsk 141) 14 = none := by decide +kernel
theorem i141_15 : decode (mCd 141) 15 = .ok (.iconst (-1), 1) ∧ lk (mMsk 141) 15 = none := by decide +kernel
theorem i141_16 : decode (mCd 141) 16 = .ok (.if_icmp .ne 36, 3) ∧ lk (mMsk 141) 16 = none := by decide +kernel
theorem i141_19 : decode (mCd 141) 19 = .ok (.aload_n 0, 1) ∧ lk (mMsk 141) 19 = none := by decide +kernel
theorem i141_20 : decode (mCd 141) 20 = .ok (.invokevirtual 205, 3) ∧ lk (mMsk 141) 20 = none := by decide +kernel
theorem c141_205 : cvOk 141 205 140 0 0 = true := by decide +kernel
theorem i141_23 : decode (mCd 141) 23 = .ok (.ifCond .eq 29, 3) ∧ lk (mMsk 141) 23 = none := by decide +kernel
theorem i141_26 : decode (mCd 141) 26 = .ok (.aload_n 0, 1) ∧ lk (mMsk 141) 26 = none := by decide +kernel
theorem i141_27 : decode (mCd 141) 27 = .ok (.invokevirtual 199, 3) ∧ lk (mMsk 141) 27 = none := by decide +kernel
theorem c141_199 : cvOk 141 199 136 0 0 = true := by decide +kernel
theorem i141_30 : decode (mCd 141) 30 = .ok (.pop, 1) ∧ lk (mMsk 141) 30 = none := by decide +kernel
theorem i141_31 : decode (mCd 141) 31 = .ok (.aload_n 0, 1) ∧ lk (mMsk 141) 31 = none := by decide +kernel
theorem i141_32 : decode (mCd 141) 32 = .ok (.getfield 180, 3) ∧ lk (mMsk 141) 32 = none := by decide +kernel
theorem g141_180 : fOk 141 180 9 29 = true := by decide +kernel
theorem i141_35 : decode (mCd 141) 35 = .ok (.iload_n 1, 1) ∧ lk (mMsk 141) 35 = none := by decide +kernel
theorem i141_36 : decode (mCd 141) 36 = .ok (.iand, 1) ∧ lk (mMsk 141) 36 = none := by decide +kernel
theorem i141_37 : decode (mCd 141) 37 = .ok (.ifCond .ne 7, 3) ∧ lk (mMsk 141) 37 = none := by decide +kernel
theorem i141_40 : decode (mCd 141) 40 = .ok (.iconst (-1), 1) ∧ lk (mMsk 141) 40 = none := by decide +kernel
theorem i141_41 : decode (mCd 141) 41 = .ok (.goto 4, 3) ∧ lk (mMsk 141) 41 = none := by decide +kernel
theorem i141_45 : decode (mCd 141) 45 = .ok (.istore_n 2, 1) ∧ lk (mMsk 141) 45 = some [true, true, false, true] := by decide +kernel
theorem i141_44 : decode (mCd 141) 44 = .ok (.iload_n 3, 1) ∧ lk (mMsk 141) 44 = none := by decide +kernel
theorem i141_46 : decode (mCd 141) 46 = .ok (.iinc 3 1, 3) ∧ lk (mMsk 141) 46 = none := by decide +kernel
theorem i141_49 : decode (mCd 141) 49 = .ok (.goto (-41), 3) ∧ lk (mMsk 141) 49 = none := by decide +kernel
theorem i141_53 : decode (mCd 141) 53 = .ok (.aload_n 0, 1) ∧ lk (mMsk 141) 53 = none := by decide +kernel
theorem i141_54 : decode (mCd 141) 54 = .ok (.getfield 186, 3) ∧ lk (mMsk 141) 54 = none := by decide +kernel
theorem g141_186 : fOk 141 186 9 30 = true := by decide +kernel
theorem i141_57 : decode (mCd 141) 57 = .ok (.putfield 209, 3) ∧ lk (mMsk 141) 57 = none := by decide +kernel
theorem p141_209 : pOk 141 209 9 35 = true := by decide +kernel
theorem i141_60 : decode (mCd 141) 60 = .ok (.aload_n 0, 1) ∧ lk (mMsk 141) 60 = none := by decide +kernel
theorem i141_61 : decode (mCd 141) 61 = .ok (.aload_n 0, 1) ∧ lk (mMsk 141) 61 = none := by decide +kernel
theorem i141_62 : decode (mCd 141) 62 = .ok (.getfield 189, 3) ∧ lk (mMsk 141) 62 = none := by decide +kernel
theorem g141_189 : fOk 141 189 9 31 = true := by decide +kernel
theorem i141_65 : decode (mCd 141) 65 = .ok (.putfield 212, 3) ∧ lk (mMsk 141) 65 = none := by decide +kernel
theorem p141_212 : pOk 141 212 9 36 = true := by decide +kernel
theorem i141_68 : decode (mCd 141) 68 = .ok (.aload_n 0, 1) ∧ lk (mMsk 141) 68 = none := by decide +kernel
theorem i141_69 : decode (mCd 141) 69 = .ok (.invokevirtual 215, 3) ∧ lk (mMsk 141) 69 = none := by decide +kernel
theorem c141_215 : cvOk 141 215 139 0 3 = true := by decide +kernel
theorem i141_72 : decode (mCd 141) 72 = .ok (.iload_n 2, 1) ∧ lk (mMsk 141) 72 = none := by decide +kernel
theorem i141_73 : decode (mCd 141) 73 = .ok (.ireturn, 1) ∧ lk (mMsk 141) 73 = none := by decide +kernel
theorem i142_0 : decode (mCd 142) 0 = .ok (.aload_n 0, 1) ∧ lk (mMsk 142) 0 = none := by decide +kernel
theorem i142_1 : decode (mCd 142) 1 = .ok (.bipush 31, 2) ∧ lk (mMsk 142) 1 = none := by decide +kernel
theorem i142_3 : decode (mCd 142) 3 = .ok (.invokevirtual 218, 3) ∧ lk (mMsk 142) 3 = none := by decide +kernel
theorem c142_218 : cvOk 142 218 141 1 0 = true := by decide +kernel
theorem i142_6 : decode (mCd 142) 6 = .ok (.istore_n 2, 1) ∧ lk (mMsk 142) 6 = none := by decide +kernel
theorem i142_7 : decode (mCd 142) 7 = .ok (.iload_n 2, 1) ∧ lk (mMsk 142) 7 = none := by decide +kernel
theorem i142_8 : decode (mCd 142) 8 = .ok (.iconst (-1), 1) ∧ lk (mMsk 142) 8 = none := by decide +kernel
theorem i142_9 : decode (mCd 142) 9 = .ok (.if_icmp .eq 7, 3) ∧ lk (mMsk 142) 9 = none := by decide +kernel
theorem i142_16 : decode (mCd 142) 16 = .ok (.iload_n 2, 1) ∧ lk (mMsk 142) 16 = some [false, false, true] := by decide +kernel
theorem i142_12 : decode (mCd 142) 12 = .ok (.iload_n 1, 1) ∧ lk (mMsk 142) 12 = none := by decide +kernel
theorem i142_13 : decode (mCd 142) 13 = .ok (.ifCond .ne 7, 3) ∧ lk (mMsk 142) 13 = none := by decide +kernel
theorem i142_20 : decode (mCd 142) 20 = .ok (.iload_n 1, 1) ∧ lk (mMsk 142) 20 = none := by decide +kernel
theorem i142_21 : decode (mCd 142) 21 = .ok (.iconst 1, 1) ∧ lk (mMsk 142) 21 = none := by decide +kernel
theorem i142_22 : decode (mCd 142) 22 = .ok (.if_icmp .ne 10, 3) ∧ lk (mMsk 142) 22 = none := by decide +kernel
theorem i142_25 : decode (mCd 142) 25 = .ok (.aload_n 0, 1) ∧ lk (mMsk 142) 25 = none := by decide +kernel
theorem i142_26 : decode (mCd 142) 26 = .ok (.getfield 209, 3) ∧ lk (mMsk 142) 26 = none := by decide +kernel
theorem g142_209 : fOk 142 209 9 35 = true := by decide +kernel
theorem i142_29 : decode (mCd 142) 29 = .ok (.goto 7, 3) ∧ lk (mMsk 142) 29 = none := by decide +kernel
theorem i142_36 : decode (mCd 142) 36 = .ok (.ireturn, 1) ∧ lk (mMsk 142) 36 = some [false, false, false] := by decide +kernel
theorem i142_32 : decode (mCd 142) 32 = .ok (.aload_n 0, 1) ∧ lk (mMsk 142) 32 = none := by decide +kernel
theorem i142_33 : decode (mCd 142) 33 = .ok (.getfield 212, 3) ∧ lk (mMsk 142) 33 = none := by decide +kernel
theorem g142_212 : fOk 142 212 9 36 = true := by decide +kernel
theorem i142_17 : decode (mCd 142) 17 = .ok (.goto 19, 3) ∧ lk (mMsk 142) 17 = none := by decide +kernel
theorem i143_0 : decode (mCd 143) 0 = .ok (.iload_n 1, 1) ∧ lk (mMsk 143) 0 = none := by decide +kernel
theorem i143_1 : decode (mCd 143) 1 = .ok (.iconst 0, 1) ∧ lk (mMsk 143) 1 = none := by decide +kernel
theorem i143_2 : decode (mCd 143) 2 = .ok (.iconst 2, 1) ∧ lk (mMsk 143) 2 = none := by decide +kernel
theorem i143_3 : decode (mCd 143) 3 = .ok (.invokestatic 105, 3) ∧ lk (mMsk 143) 3 = none := by decide +kernel
theorem c143_105 : ciOk 143 105 107 3 0 = true := by decide +kernel
theorem i143_6 : decode (mCd 143) 6 = .ok (.ifCond .eq 11, 3) ∧ lk (mMsk 143) 6 = none := by decide +kernel
theorem i143_17 : decode (mCd 143) 17 = .ok (.bipush (-102), 2) ∧ lk (mMsk 143) 17 = none := by decide +kernel
theorem i143_19 : decode (mCd 143) 19 = .ok (.ireturn, 1) ∧ lk (mMsk 143) 19 = some [false, false] := by decide +kernel
theorem i143_9 : decode (mCd 143) 9 = .ok (.aload_n 0, 1) ∧ lk (mMsk 143) 9 = none := by decide +kernel
theorem i143_10 : decode (mCd 143) 10 = .ok (.iload_n 1, 1) ∧ lk (mMsk 143) 10 = none := by decide +kernel
theorem i143_11 : decode (mCd 143) 11 = .ok (.invokevirtual 221, 3) ∧ lk (mMsk 143) 11 = none := by decide +kernel
theorem c143_221 : cvOk 143 221 142 1 0 = true := by decide +kernel
theorem i143_14 : decode (mCd 143) 14 = .ok (.goto 5, 3) ∧ lk (mMsk 143) 14 = none := by decide +kernel
theorem i144_0 : decode (mCd 144) 0 = .ok (.iconst 0, 1) ∧ lk (mMsk 144) 0 = none := by decide +kernel
theorem i144_1 : decode (mCd 144) 1 = .ok (.istore_n 1, 1) ∧ lk (mMsk 144) 1 = none := by decide +kernel
theorem i144_2 : decode (mCd 144) 2 = .ok (.iload_n 1, 1) ∧ lk (mMsk 144) 2 = some [true, true] := by decide +kernel
theorem i144_3 : decode (mCd 144) 3 = .ok (.bipush 8, 2) ∧ lk (mMsk 144) 3 = none := by decide +kernel
theorem i144_5 : decode (mCd 144) 5 = .ok (.if_icmp .ge 18, 3) ∧ lk (mMsk 144) 5 = none := by decide +kernel
theorem i144_23 : decode (mCd 144) 23 = .ok (.iconst 0, 1) ∧ lk (mMsk 144) 23 = none := by decide +kernel
theorem i144_24 : decode (mCd 144) 24 = .ok (.istore_n 1, 1) ∧ lk (mMsk 144) 24 = none := by decide +kernel
theorem i144_25 : decode (mCd 144) 25 = .ok (.iload_n 1, 1) ∧ lk (mMsk 144) 25 = some [true, true] := by decide +kernel
theorem i144_8 : decode (mCd 144) 8 = .ok (.aload_n 0, 1) ∧ lk (mMsk 144) 8 = none := by decide +kernel
theorem i144_9 : decode (mCd 144) 9 = .ok (.getfield 75, 3) ∧ lk (mMsk 144) 9 = none := by decide +kernel
theorem g144_75 : fOk 144 75 9 39 = true := by decide +kernel
theorem i144_12 : decode (mCd 144) 12 = .ok (.iload_n 1, 1) ∧ lk (mMsk 144) 12 = none := by decide +kernel
theorem i144_13 : decode (mCd 144) 13 = .ok (.iconst 1, 1) ∧ lk (mMsk 144) 13 = none := by decide +kernel
theorem i144_14 : decode (mCd 144) 14 = .ok (.iload_n 1, 1) ∧ lk (mMsk 144) 14 = none := by decide +kernel
theorem i144_15 : decode (mCd 144) 15 = .ok (.ishl, 1) ∧ lk (mMsk 144) 15 = none := by decide +kernel
theorem i144_16 : decode (mCd 144) 16 = .ok (.iastore, 1) ∧ lk (mMsk 144) 16 = none := by decide +kernel
theorem i144_17 : decode (mCd 144) 17 = .ok (.iinc 1 1, 3) ∧ lk (mMsk 144) 17 = none := by decide +kernel
theorem i144_20 : decode (mCd 144) 20 = .ok (.goto (-18), 3) ∧ lk (mMsk 144) 20 = none := by decide +kernel
theorem i144_26 : decode (mCd 144) 26 = .ok (.aload_n 0, 1) ∧ lk (mMsk 144) 26 = none := by decide +kernel
theorem i144_27 : decode (mCd 144) 27 = .ok (.getfield 140, 3) ∧ lk (mMsk 144) 27 = none := by decide +kernel
theorem g144_140 : fOk 144 140 9 0 = true := by decide +kernel
theorem i144_30 : decode (mCd 144) 30 = .ok (.if_icmp .ge 53, 3) ∧ lk (mMsk 144) 30 = none := by decide +kernel
theorem i144_83 : decode (mCd 144) 83 = .ok (.return_, 1) ∧ lk (mMsk 144) 83 = none := by decide +kernel
theorem i144_33 : decode (mCd 144) 33 = .ok (.aload_n 0, 1) ∧ lk (mMsk 144) 33 = none := by decide +kernel
theorem i144_34 : decode (mCd 144) 34 = .ok (.getfield 75, 3) ∧ lk (mMsk 144) 34 = none := by decide +kernel
theorem i144_37 : decode (mCd 144) 37 = .ok (.aload_n 0, 1) ∧ lk (mMsk 144) 37 = none := by decide +kernel
theorem i144_38 : decode (mCd 144) 38 = .ok (.getfield 7, 3) ∧ lk (mMsk 144) 38 = none := by decide +kernel
theorem g144_7 : fOk 144 7 9 1 = true := by decide +kernel
theorem i144_41 : decode (mCd 144) 41 = .ok (.iload_n 1, 1) ∧ lk (mMsk 144) 41 = none := by decide +kernel
theorem i144_42 : decode (mCd 144) 42 = .ok (.iaload, 1) ∧ lk (mMsk 144) 42 = none := by decide +kernel
theorem i144_43 : decode (mCd 144) 43 = .ok (.dup2, 1) ∧ lk (mMsk 144) 43 = none := by decide +kernel
theorem i144_44 : decode (mCd 144) 44 = .ok (.iaload, 1) ∧ lk (mMsk 144) 44 = none := by decide +kernel
theorem i144_45 : decode (mCd 144) 45 = .ok (.iconst 1, 1) ∧ lk (mMsk 144) 45 = none := by decide +kernel
theorem i144_46 : decode (mCd 144) 46 = .ok (.aload_n 0, 1) ∧ lk (mMsk 144) 46 = none := by decide +kernel
theorem i144_47 : decode (mCd 144) 47 = .ok (.getfield 13, 3) ∧ lk (mMsk 144) 47 = none := by decide +kernel
theorem g144_13 : fOk 144 13 9 2 = true := by decide +kernel
theorem i144_50 : decode (mCd 144) 50 = .ok (.iload_n 1, 1) ∧ lk (mMsk 144) 50 = none := by decide +kernel
theorem i144_51 : decode (mCd 144) 51 = .ok (.iaload, 1) ∧ lk (mMsk 144) 51 = none := by decide +kernel
theorem i144_52 : decode (mCd 144) 52 = .ok (.ishl, 1) ∧ lk (mMsk 144) 52 = none := by decide +kernel
theorem i144_53 : decode (mCd 144) 53 = .ok (.ior, 1) ∧ lk (mMsk 144) 53 = none := by decide +kernel
theorem i144_54 : decode (mCd 144) 54 = .ok (.iastore, 1) ∧ lk (mMsk 144) 54 = none := by decide +kernel
theorem i144_55 : decode (mCd 144) 55 = .ok (.aload_n 0, 1) ∧ lk (mMsk 144) 55 = none := by decide +kernel
theorem i144_56 : decode (mCd 144) 56 = .ok (.getfield 75, 3) ∧ lk (mMsk 144) 56 = none := by decide +kernel
theorem i144_59 : decode (mCd 144) 59 = .ok (.aload_n 0, 1) ∧ lk (mMsk 144) 59 = none := by decide +kernel
theorem i144_60 : decode (mCd 144) 60 = .ok (.getfield 13, 3) ∧ lk (mMsk 144) 60 = none := by decide +kernel
theorem i144_63 : decode (mCd 144) 63 = .ok (.iload_n 1, 1) ∧ lk (mMsk 144) 63 = none := by decide +kernel
theorem i144_64 : decode (mCd 144) 64 = .ok (.iaload, 1) ∧ lk (mMsk 144) 64 = none := by decide +kernel
theorem i144_65 : decode (mCd 144) 65 = .ok (.dup2, 1) ∧ lk (mMsk 144) 65 = none := by decide +kernel
theorem i144_66 : decode (mCd 144) 66 = .ok (.iaload, 1) ∧ lk (mMsk 144) 66 = none := by decide +kernel
theorem i144_67 : decode (mCd 144) 67 = .ok (.iconst 1, 1) ∧ lk (mMsk 144) 67 = none := by decide +kernel
theorem i144_68 : decode (mCd 144) 68 = .ok (.aload_n 0, 1) ∧ lk (mMsk 144) 68 = none := by decide +kernel
theorem i144_69 : decode (mCd 144) 69 = .ok (.getfield 7, 3) ∧ lk (mMsk 144) 69 = none := by decide +kernel
theorem i144_72 : decode (mCd 144) 72 = .ok (.iload_n 1, 1) ∧ lk (mMsk 144) 72 = none := by decide +kernel
theorem i144_73 : decode (mCd 144) 73 = .ok (.iaload, 1) ∧ lk (mMsk 144) 73 = none := by decide +kernel
theorem i144_74 : decode (mCd 144) 74 = .ok (.ishl, 1) ∧ lk (mMsk 144) 74 = none := by decide +kernel
theorem i144_75 : decode (mCd 144) 75 = .ok (.ior, 1) ∧ lk (mMsk 144) 75 = none := by decide +kernel
theorem i144_76 : decode (mCd 144) 76 = .ok (.iastore, 1) ∧ lk (mMsk 144) 76 = none := by decide +kernel
theorem i144_77 : decode (mCd 144) 77 = .ok (.iinc 1 1, 3) ∧ lk (mMsk 144) 77 = none := by decide +kernel
theorem i144_80 : decode (mCd 144) 80 = .ok (.goto (-55), 3) ∧ lk (mMsk 144) 80 = none := by decide +kernel
theorem i145_0 : decode (mCd 145) 0 = .ok (.iconst 0, 1) ∧ lk (mMsk 145) 0 = none := by decide +kernel
theorem i145_1 : decode (mCd 145) 1 = .ok (.istore_n 3, 1) ∧ lk (mMsk 145) 1 = none := by decide +kernel
theorem i145_2 : decode (mCd 145) 2 = .ok (.iload_n 3, 1) ∧ lk (mMsk 145) 2 = some [true, true, true, true] := by decide +kernel
theorem i145_3 : decode (mCd 145) 3 = .ok (.aload_n 0, 1) ∧ lk (mMsk 145) 3 = none := by decide +kernel
theorem i145_4 : decode (mCd 145) 4 = .ok (.getfield 152, 3) ∧ lk (mMsk 145) 4 = none := by decide +kernel
theorem g145_152 : fOk 145 152 9 7 = true := by decide +kernel
theorem i145_7 : decode (mCd 145) 7 = .ok (.if_icmp .ge 38, 3) ∧ lk (mMsk 145) 7 = none := by decide +kernel
theorem i145_45 : decode (mCd 145) 45 = .ok (.iconst 0, 1) ∧ lk (mMsk 145) 45 = none := by decide +kernel
theorem i145_46 : decode (mCd 145) 46 = .ok (.istore_n 3, 1) ∧ lk (mMsk 145) 46 = none := by decide +kernel
theorem i145_47 : decode (mCd 145) 47 = .ok (.iload_n 3, 1) ∧ lk (mMsk 145) 47 = some [true, true, true, true] := by decide +kernel
theorem i145_10 : decode (mCd 145) 10 = .ok (.aload_n 0, 1) ∧ lk (mMsk 145) 10 = none := by decide +kernel
theorem i145_11 : decode (mCd 145) 11 = .ok (.getfield 75, 3) ∧ lk (mMsk 145) 11 = none := by decide +kernel
theorem g145_75 : fOk 145 75 9 39 = true := by decide +kernel
theorem i145_14 : decode (mCd 145) 14 = .ok (.iload_n 1, 1) ∧ lk (mMsk 145) 14 = none := by decide +kernel
theorem i145_15 : decode (mCd 145) 15 = .ok (.iconst 3, 1) ∧ lk (mMsk 145) 15 = none := by decide +kernel
theorem i145_16 : decode (mCd 145) 16 = .ok (.iload_n 3, 1) ∧ lk (mMsk 145) 16 = none := by decide +kernel
theorem i145_17 : decode (mCd 145) 17 = .ok (.imul, 1) ∧ lk (mMsk 145) 17 = none := by decide +kernel
theorem i145_18 : decode (mCd 145) 18 = .ok (.ishr, 1) ∧ lk (mMsk 145) 18 = none := by decide +kernel
theorem i145_19 : decode (mCd 145) 19 = .ok (.bipush 7, 2) ∧ lk (mMsk 145) 19 = none := by decide +kernel
theorem i145_21 : decode (mCd 145) 21 = .ok (.iand, 1) ∧ lk (mMsk 145) 21 = none := by decide +kernel
theorem i145_22 : decode (mCd 145) 22 = .ok (.iaload, 1) ∧ lk (mMsk 145) 22 = none := by decide +kernel
theorem i145_23 : decode (mCd 145) 23 = .ok (.iload_n 2, 1) ∧ lk (mMsk 145) 23 = none := by decide +kernel
theorem i145_24 : decode (mCd 145) 24 = .ok (.iconst 3, 1) ∧ lk (mMsk 145) 24 = none := by decide +kernel
theorem i145_25 : decode (mCd 145) 25 = .ok (.iload_n 3, 1) ∧ lk (mMsk 145) 25 = none := by decide +kernel
theorem i145_26 : decode (mCd 145) 26 = .ok (.imul, 1) ∧ lk (mMsk 145) 26 = none := by decide +kernel
theorem i145_27 : decode (mCd 145) 27 = .ok (.ishr, 1) ∧ lk (mMsk 145) 27 = none := by decide +kernel
theorem i145_28 : decode (mCd 145) 28 = .ok (.bipush 7, 2) ∧ lk (mMsk 145) 28 = none := by decide +kernel
theorem i145_30 : decode (mCd 145) 30 = .ok (.iand, 1) ∧ lk (mMsk 145) 30 = none := by decide +kernel
theorem i145_31 : decode (mCd 145) 31 = .ok (.invokestatic 196, 3) ∧ lk (mMsk 145) 31 = none := by decide +kernel
theorem c145_196 : ciOk 145 196 108 2 0 = true := by decide +kernel
theorem i145_34 : decode (mCd 145) 34 = .ok (.ifCond .ne 5, 3) ∧ lk (mMsk 145) 34 = none := by decide +kernel
theorem i145_37 : decode (mCd 145) 37 = .ok (.iconst 0, 1) ∧ lk (mMsk 145) 37 = none := by decide +kernel
theorem i145_38 : decode (mCd 145) 38 = .ok (.ireturn, 1) ∧ lk (mMsk 145) 38 = none := by decide +kernel
theorem i145_39 : decode (mCd 145) 39 = .ok (.iinc 3 1, 3) ∧ lk (mMsk 145) 39 = none := by decide +kernel
theorem i145_42 : decode (mCd 145) 42 = .ok (.goto (-40), 3) ∧ lk (mMsk 145) 42 = none := by decide +kernel
theorem i145_48 : decode (mCd 145) 48 = .ok (.aload_n 0, 1) ∧ lk (mMsk 145) 48 = none := by decide +kernel
theorem i145_49 : decode (mCd 145) 49 = .ok (.getfield 152, 3) ∧ lk (mMsk 145) 49 = none := by decide +kernel
theorem i145_52 : decode (mCd 145) 52 = .ok (.if_icmp .ge 37, 3) ∧ lk (mMsk 145) 52 = none := by decide +kernel
theorem i145_89 : decode (mCd 145) 89 = .ok (.aload_n 0, 1) ∧ lk (mMsk 145) 89 = none := by decide +kernel
theorem i145_90 : decode (mCd 145) 90 = .ok (.invokevirtual 192, 3) ∧ lk (mMsk 145) 90 = none := by decide +kernel
theorem c145_192 : cvOk 145 192 135 0 0 = true := by decide +kernel
theorem i145_93 : decode (mCd 145) 93 = .ok (.ifCond .ne 7, 3) ∧ lk (mMsk 145) 93 = none := by decide +kernel
theorem i145_96 : decode (mCd 145) 96 = .ok (.iconst 1, 1) ∧ lk (mMsk 145) 96 = none := by decide +kernel
theorem i145_97 : decode (mCd 145) 97 = .ok (.goto 4, 3) ∧ lk (mMsk 145) 97 = none := by decide +kernel
theorem i145_101 : decode (mCd 145) 101 = .ok (.ireturn, 1) ∧ lk (mMsk 145) 101 = some [false, false, false, false] := by decide +kernel
theorem i145_100 : decode (mCd 145) 100 = .ok (.iconst 0, 1) ∧ lk (mMsk 145) 100 = none := by decide +kernel
theorem i145_55 : decode (mCd 145) 55 = .ok (.aload_n 0, 1) ∧ lk (mMsk 145) 55 = none := by decide +kernel
theorem i145_56 : decode (mCd 145) 56 = .ok (.getfield 23, 3) ∧ lk (mMsk 145) 56 = none := by decide +kernel
theorem g145_23 : fOk 145 23 9 9 = true := by decide +kernel
theorem i145_59 : decode (mCd 145) 59 = .ok (.iload_n 3, 1) ∧ lk (mMsk 145) 59 = none := by decide +kernel
theorem i145_60 : decode (mCd 145) 60 = .ok (.iload_n 1, 1) ∧ lk (mMsk 145) 60 = none := by decide +kernel
theorem i145_61 : decode (mCd 145) 61 = .ok (.iconst 3, 1) ∧ lk (mMsk 145) 61 = none := by decide +kernel
theorem i145_62 : decode (mCd 145) 62 = .ok (.iload_n 3, 1) ∧ lk (mMsk 145) 62 = none := by decide +kernel
theorem i145_63 : decode (mCd 145) 63 = .ok (.imul, 1) ∧ lk (mMsk 145) 63 = none := by decide +kernel
theorem i145_64 : decode (mCd 145) 64 = .ok (.ishr, 1) ∧ lk (mMsk 145) 64 = none := by decide +kernel
theorem i145_65 : decode (mCd 145) 65 = .ok (.bipush 7, 2) ∧ lk (mMsk 145) 65 = none := by decide +kernel
theorem i145_67 : decode (mCd 145) 67 = .ok (.iand, 1) ∧ lk (mMsk 145) 67 = none := by decide +kernel
theorem i145_68 : decode (mCd 145) 68 = .ok (.iastore, 1) ∧ lk (mMsk 145) 68 = none := by decide +kernel
theorem i145_69 : decode (mCd 145) 69 = .ok (.aload_n 0, 1) ∧ lk (mMsk 145) 69 = none := by decide +kernel
theorem i145_70 : decode (mCd 145) 70 = .ok (.getfield 57, 3) ∧ lk (mMsk 145) 70 = none := by decide +kernel
theorem g145_57 : fOk 145 57 9 28 = true := by decide +kernel
theorem i145_73 : decode (mCd 145) 73 = .ok (.iload_n 3, 1) ∧ lk (mMsk 145) 73 = none := by decide +kernel
theorem i145_74 : decode (mCd 145) 74 = .ok (.iload_n 2, 1) ∧ lk (mMsk 145) 74 = none := by decide +kernel
theorem i145_75 : decode (mCd 145) 75 = .ok (.iconst 3, 1) ∧ lk (mMsk 145) 75 = none := by decide +kernel
theorem i145_76 : decode (mCd 145) 76 = .ok (.iload_n 3, 1) ∧ lk (mMsk 145) 76 = none := by decide +kernel
theorem i145_77 : decode (mCd 145) 77 = .ok (.imul, 1) ∧ lk (mMsk 145) 77 = none := by decide +kernel
theorem i145_78 : decode (mCd 145) 78 = .ok (.ishr, 1) ∧ lk (mMsk 145) 78 = none := by decide +kernel
theorem i145_79 : decode (mCd 145) 79 = .ok (.bipush 7, 2) ∧ lk (mMsk 145) 79 = none := by decide +kernel
theorem i145_81 : decode (mCd 145) 81 = .ok (.iand, 1) ∧ lk (mMsk 145) 81 = none := by decide +kernel
theorem i145_82 : decode (mCd 145) 82 = .ok (.iastore, 1) ∧ lk (mMsk 145) 82 = none := by decide +kernel
theorem i145_83 : decode (mCd 145) 83 = .ok (.iinc 3 1, 3) ∧ lk (mMsk 145) 83 = none := by decide +kernel
theorem i145_86 : decode (mCd 145) 86 = .ok (.goto (-39), 3) ∧ lk (mMsk 145) 86 = none := by decide +kernel
theorem i146_0 : decode (mCd 146) 0 = .ok (.iconst 0, 1) ∧ lk (mMsk 146) 0 = none := by decide +kernel
theorem i146_1 : decode (mCd 146) 1 = .ok (.istore_n 2, 1) ∧ lk (mMsk 146) 1 = none := by decide +kernel
theorem i146_2 : decode (mCd 146) 2 = .ok (.aload_n 0, 1) ∧ lk (mMsk 146) 2 = none := by decide +kernel
theorem i146_3 : decode (mCd 146) 3 = .ok (.getfield 152, 3) ∧ lk (mMsk 146) 3 = none := by decide +kernel
theorem g146_152 : fOk 146 152 9 7 = true := by decide +kernel
theorem i146_6 : decode (mCd 146) 6 = .ok (.iconst 1, 1) ∧ lk (mMsk 146) 6 = none := by decide +kernel
theorem i146_7 : decode (mCd 146) 7 = .ok (.isub, 1) ∧ lk (mMsk 146) 7 = none := by decide +kernel
theorem i146_8 : decode (mCd 146) 8 = .ok (.istore_n 3, 1) ∧ lk (mMsk 146) 8 = none := by decide +kernel
theorem i146_9 : decode (mCd 146) 9 = .ok (.iload_n 3, 1) ∧ lk (mMsk 146) 9 = some [true, true, true, true] := by decide +kernel
theorem i146_10 : decode (mCd 146) 10 = .ok (.ifCond .lt 34, 3) ∧ lk (mMsk 146) 10 = none := by decide +kernel
theorem i146_44 : decode (mCd 146) 44 = .ok (.iload_n 2, 1) ∧ lk (mMsk 146) 44 = none := by decide +kernel
theorem i146_45 : decode (mCd 146) 45 = .ok (.ireturn, 1) ∧ lk (mMsk 146) 45 = none := by decide +kernel
theorem i146_13 : decode (mCd 146) 13 = .ok (.bipush 8, 2) ∧ lk (mMsk 146) 13 = none := by decide +kernel
theorem i146_15 : decode (mCd 146) 15 = .ok (.iload_n 2, 1) ∧ lk (mMsk 146) 15 = none := by decide +kernel
theorem i146_16 : decode (mCd 146) 16 = .ok (.imul, 1) ∧ lk (mMsk 146) 16 = none := by decide +kernel
theorem i146_17 : decode (mCd 146) 17 = .ok (.iload_n 1, 1) ∧ lk (mMsk 146) 17 = none := by decide +kernel
theorem i146_18 : decode (mCd 146) 18 = .ok (.ifCond .eq 12, 3) ∧ lk (mMsk 146) 18 = none := by decide +kernel
theorem i146_30 : decode (mCd 146) 30 = .ok (.aload_n 0, 1) ∧ lk (mMsk 146) 30 = none := by decide +kernel
theorem i146_31 : decode (mCd 146) 31 = .ok (.getfield 23, 3) ∧ lk (mMsk 146) 31 = none := by decide +kernel
theorem g146_23 : fOk 146 23 9 9 = true := by decide +kernel
theorem i146_34 : decode (mCd 146) 34 = .ok (.iload_n 3, 1) ∧ lk (mMsk 146) 34 = none := by decide +kernel
theorem i146_35 : decode (mCd 146) 35 = .ok (.iaload, 1) ∧ lk (mMsk 146) 35 = none := by decide +kernel
theorem i146_36 : decode (mCd 146) 36 = .ok (.iadd, 1) ∧ lk (mMsk 146) 36 = some [true, true, false, true] := by decide +kernel
theorem i146_21 : decode (mCd 146) 21 = .ok (.aload_n 0, 1) ∧ lk (mMsk 146) 21 = none := by decide +kernel
theorem i146_22 : decode (mCd 146) 22 = .ok (.getfield 26, 3) ∧ lk (mMsk 146) 22 = none := by decide +kernel
theorem g146_26 : fOk 146 26 9 10 = true := by decide +kernel
theorem i146_25 : decode (mCd 146) 25 = .ok (.iload_n 3, 1) ∧ lk (mMsk 146) 25 = none := by decide +kernel
theorem i146_26 : decode (mCd 146) 26 = .ok (.iaload, 1) ∧ lk (mMsk 146) 26 = none := by decide +kernel
theorem i146_27 : decode (mCd 146) 27 = .ok (.goto 9, 3) ∧ lk (mMsk 146) 27 = none := by decide +kernel
theorem i146_37 : decode (mCd 146) 37 = .ok (.istore_n 2, 1) ∧ lk (mMsk 146) 37 = none := by decide +kernel
theorem i146_38 : decode (mCd 146) 38 = .ok (.iinc 3 (-1), 3) ∧ lk (mMsk 146) 38 = none := by decide +kernel
theorem i146_41 : decode (mCd 146) 41 = .ok (.goto (-32), 3) ∧ lk (mMsk 146) 41 = none := by decide +kernel
theorem i147_0 : decode (mCd 147) 0 = .ok (.aload_n 0, 1) ∧ lk (mMsk 147) 0 = none := by decide +kernel
theorem i147_1 : decode (mCd 147) 1 = .ok (.iconst 0, 1) ∧ lk (mMsk 147) 1 = none := by decide +kernel
theorem i147_2 : decode (mCd 147) 2 = .ok (.invokevirtual 224, 3) ∧ lk (mMsk 147) 2 = none := by decide +kernel
theorem c147_224 : cvOk 147 224 146 1 0 = true := by decide +kernel
theorem i147_5 : decode (mCd 147) 5 = .ok (.istore_n 1, 1) ∧ lk (mMsk 147) 5 = none := by decide +kernel
theorem i147_6 : decode (mCd 147) 6 = .ok (.aload_n 0, 1) ∧ lk (mMsk 147) 6 = none := by decide +kernel
theorem i147_7 : decode (mCd 147) 7 = .ok (.iconst 1, 1) ∧ lk (mMsk 147) 7 = none := by decide +kernel
theorem i147_8 : decode (mCd 147) 8 = .ok (.invokevirtual 224, 3) ∧ lk (mMsk 147) 8 = none := by decide +kernel
theorem i147_11 : decode (mCd 147) 11 = .ok (.istore_n 2, 1) ∧ lk (mMsk 147) 11 = none := by decide +kernel
theorem i147_12 : decode (mCd 147) 12 = .ok (.iconst 1, 1) ∧ lk (mMsk 147) 12 = none := by decide +kernel
theorem i147_13 : decode (mCd 147) 13 = .ok (.iconst 3, 1) ∧ lk (mMsk 147) 13 = none := by decide +kernel
theorem i147_14 : decode (mCd 147) 14 = .ok (.aload_n 0, 1) ∧ lk (mMsk 147) 14 = none := by decide +kernel
theorem i147_15 : decode (mCd 147) 15 = .ok (.getfield 152, 3) ∧ lk (mMsk 147) 15 = none := by decide +kernel
theorem g147_152 : fOk 147 152 9 7 = true := by decide +kernel
theorem i147_18 : decode (mCd 147) 18 = .ok (.imul, 1) ∧ lk (mMsk 147) 18 = none := by decide +kernel
theorem i147_19 : decode (mCd 147) 19 = .ok (.ishl, 1) ∧ lk (mMsk 147) 19 = none := by decide +kernel
theorem i147_20 : decode (mCd 147) 20 = .ok (.istore_n 3, 1) ∧ lk (mMsk 147) 20 = none := by decide +kernel
theorem i147_21 : decode (mCd 147) 21 = .ok (.aload_n 0, 1) ∧ lk (mMsk 147) 21 = none := by decide +kernel
theorem i147_22 : decode (mCd 147) 22 = .ok (.invokevirtual 202, 3) ∧ lk (mMsk 147) 22 = none := by decide +kernel
theorem c147_202 : cvOk 147 202 138 0 3 = true := by decide +kernel
theorem i147_25 : decode (mCd 147) 25 = .ok (.aload_n 0, 1) ∧ lk (mMsk 147) 25 = none := by decide +kernel
theorem i147_26 : decode (mCd 147) 26 = .ok (.invokevirtual 228, 3) ∧ lk (mMsk 147) 26 = none := by decide +kernel
theorem c147_228 : cvOk 147 228 144 0 3 = true := by decide +kernel
theorem i147_29 : decode (mCd 147) 29 = .ok (.iconst 0, 1) ∧ lk (mMsk 147) 29 = none := by decide +kernel
theorem i147_30 : decode (mCd 147) 30 = .ok (.istore 4, 2) ∧ lk (mMsk 147) 30 = none := by decide +kernel
theorem i147_32 : decode (mCd 147) 32 = .ok (.iload 4, 2) ∧ lk (mMsk 147) 32 = some [true, true, true, true, true, false, false] := by decide +kernel
theorem i147_34 : decode (mCd 147) 34 = .ok (.iload_n 3, 1) ∧ lk (mMsk 147) 34 = none := by decide +kernel
theorem i147_35 : decode (mCd 147) 35 = .ok (.if_icmp .ge 17, 3) ∧ lk (mMsk 147) 35 = none := by decide +kernel
theorem i147_52 : decode (mCd 147) 52 = .ok (.aload_n 0, 1) ∧ lk (mMsk 147) 52 = none := by decide +kernel
theorem i147_53 : decode (mCd 147) 53 = .ok (.getfield 69, 3) ∧ lk (mMsk 147) 53 = none := by decide +kernel
theorem g147_69 : fOk 147 69 9 37 = true := by decide +kernel
theorem i147_56 : decode (mCd 147) 56 = .ok (.iload_n 2, 1) ∧ lk (mMsk 147) 56 = none := by decide +kernel
theorem i147_57 : decode (mCd 147) 57 = .ok (.iconst 0, 1) ∧ lk (mMsk 147) 57 = none := by decide +kernel
theorem i147_58 : decode (mCd 147) 58 = .ok (.iastore, 1) ∧ lk (mMsk 147) 58 = none := by decide +kernel
theorem i147_59 : decode (mCd 147) 59 = .ok (.aload_n 0, 1) ∧ lk (mMsk 147) 59 = none := by decide +kernel
theorem i147_60 : decode (mCd 147) 60 = .ok (.getfield 72, 3) ∧ lk (mMsk 147) 60 = none := by decide +kernel
theorem g147_72 : fOk 147 72 9 38 = true := by decide +kernel
theorem i147_63 : decode (mCd 147) 63 = .ok (.iconst 0, 1) ∧ lk (mMsk 147) 63 = none := by decide +kernel
theorem i147_64 : decode (mCd 147) 64 = .ok (.iload_n 2, 1) ∧ lk (mMsk 147) 64 = none := by decide +kernel
theorem i147_65 : decode (mCd 147) 65 = .ok (.iastore, 1) ∧ lk (mMsk 147) 65 = none := by decide +kernel
theorem i147_66 : decode (mCd 147) 66 = .ok (.iconst 1, 1) ∧ lk (mMsk 147) 66 = none := by decide +kernel
theorem i147_67 : decode (mCd 147) 67 = .ok (.istore 4, 2) ∧ lk (mMsk 147) 67 = none := by decide +kernel
theorem i147_69 : decode (mCd 147) 69 = .ok (.iconst 0, 1) ∧ lk (mMsk 147) 69 = none := by decide +kernel
theorem i147_70 : decode (mCd 147) 70 = .ok (.istore 5, 2) ∧ lk (mMsk 147) 70 = none := by decide +kernel
theorem i147_72 : decode (mCd 147) 72 = .ok (.iload 5, 2) ∧ lk (mMsk 147) 72 = some [true, true, false, true, true, true, false] := by decide +kernel
theorem i147_38 : decode (mCd 147) 38 = .ok (.aload_n 0, 1) ∧ lk (mMsk 147) 38 = none := by decide +kernel
theorem i147_39 : decode (mCd 147) 39 = .ok (.getfield 69, 3) ∧ lk (mMsk 147) 39 = none := by decide +kernel
theorem i147_42 : decode (mCd 147) 42 = .ok (.iload 4, 2) ∧ lk (mMsk 147) 42 = none := by decide +kernel
theorem i147_44 : decode (mCd 147) 44 = .ok (.iconst (-1), 1) ∧ lk (mMsk 147) 44 = none := by decide +kernel
theorem i147_45 : decode (mCd 147) 45 = .ok (.iastore, 1) ∧ lk (mMsk 147) 45 = none := by decide +kernel
theorem i147_46 : decode (mCd 147) 46 = .ok (.iinc 4 1, 3) ∧ lk (mMsk 147) 46 = none := by decide +kernel
theorem i147_49 : decode (mCd 147) 49 = .ok (.goto (-17), 3) ∧ lk (mMsk 147) 49 = none := by decide +kernel
theorem i147_74 : decode (mCd 147) 74 = .ok (.iload 4, 2) ∧ lk (mMsk 147) 74 = none := by decide +kernel
theorem i147_76 : decode (mCd 147) 76 = .ok (.if_icmp .ge 111, 3) ∧ lk (mMsk 147) 76 = none := by decide +kernel
theorem i147_187 : decode (mCd 147) 187 = .ok (.aload_n 0, 1) ∧ lk (mMsk 147) 187 = some [true, true, false, false, false, false, false] := by decide +kernel
theorem i147_79 : decode (mCd 147) 79 = .ok (.aload_n 0, 1) ∧ lk (mMsk 147) 79 = none := by decide +kernel
theorem i147_80 : decode (mCd 147) 80 = .ok (.getfield 69, 3) ∧ lk (mMsk 147) 80 = none := by decide +kernel
theorem i147_83 : decode (mCd 147) 83 = .ok (.iload_n 1, 1) ∧ lk (mMsk 147) 83 = none := by decide +kernel
theorem i147_84 : decode (mCd 147) 84 = .ok (.iaload, 1) ∧ lk (mMsk 147) 84 = none := by decide +kernel
theorem i147_85 : decode (mCd 147) 85 = .ok (.iconst (-1), 1) ∧ lk (mMsk 147) 85 = none := by decide +kernel
theorem i147_86 : decode (mCd 147) 86 = .ok (.if_icmp .ne 101, 3) ∧ lk (mMsk 147) 86 = none := by decide +kernel
theorem i147_89 : decode (mCd 147) 89 = .ok (.aload_n 0, 1) ∧ lk (mMsk 147) 89 = none := by decide +kernel
theorem i147_90 : decode (mCd 147) 90 = .ok (.getfield 69, 3) ∧ lk (mMsk 147) 90 = none := by decide +kernel
theorem i147_93 : decode (mCd 147) 93 = .ok (.aload_n 0, 1) ∧ lk (mMsk 147) 93 = none := by decide +kernel
theorem i147_94 : decode (mCd 147) 94 = .ok (.getfield 72, 3) ∧ lk (mMsk 147) 94 = none := by decide +kernel
theorem i147_97 : decode (mCd 147) 97 = .ok (.iload 5, 2) ∧ lk (mMsk 147) 97 = none := by decide +kernel
theorem i147_99 : decode (mCd 147) 99 = .ok (.iaload, 1) ∧ lk (mMsk 147) 99 = none := by decide +kernel
theorem i147_100 : decode (mCd 147) 100 = .ok (.iaload, 1) ∧ lk (mMsk 147) 100 = none := by decide +kernel
theorem i147_101 : decode (mCd 147) 101 = .ok (.bipush 30, 2) ∧ lk (mMsk 147) 101 = none := by decide +kernel
theorem i147_103 : decode (mCd 147) 103 = .ok (.if_icmp .ge 84, 3) ∧ lk (mMsk 147) 103 = none := by decide +kernel
theorem i147_106 : decode (mCd 147) 106 = .ok (.iconst 0, 1) ∧ lk (mMsk 147) 106 = none := by decide +kernel
theorem i147_107 : decode (mCd 147) 107 = .ok (.istore 6, 2) ∧ lk (mMsk 147) 107 = none := by decide +kernel
theorem i147_109 : decode (mCd 147) 109 = .ok (.iload 6, 2) ∧ lk (mMsk 147) 109 = some [true, true, false, true, true, true, true] := by decide +kernel
theorem i147_111 : decode (mCd 147) 111 = .ok (.iload_n 3, 1) ∧ lk (mMsk 147) 111 = none := by decide +kernel
theorem i147_112 : decode (mCd 147) 112 = .ok (.if_icmp .ge 69, 3) ∧ lk (mMsk 147) 112 = none := by decide +kernel
theorem i147_181 : decode (mCd 147) 181 = .ok (.iinc 5 1, 3) ∧ lk (mMsk 147) 181 = none := by decide +kernel
theorem i147_184 : decode (mCd 147) 184 = .ok (.goto (-112), 3) ∧ lk (mMsk 147) 184 = none := by decide +kernel
theorem i147_115 : decode (mCd 147) 115 = .ok (.aload_n 0, 1) ∧ lk (mMsk 147) 115 = none := by decide +kernel
theorem i147_116 : decode (mCd 147) 116 = .ok (.getfield 69, 3) ∧ lk (mMsk 147) 116 = none := by decide +kernel
theorem i147_119 : decode (mCd 147) 119 = .ok (.iload 6, 2) ∧ lk (mMsk 147) 119 = none := by decide +kernel
theorem i147_121 : decode (mCd 147) 121 = .ok (.iaload, 1) ∧ lk (mMsk 147) 121 = none := by decide +kernel
theorem i147_122 : decode (mCd 147) 122 = .ok (.iconst (-1), 1) ∧ lk (mMsk 147) 122 = none := by decide +kernel
theorem i147_123 : decode (mCd 147) 123 = .ok (.if_icmp .ne 52, 3) ∧ lk (mMsk 147) 123 = none := by decide +kernel
theorem i147_126 : decode (mCd 147) 126 = .ok (.aload_n 0, 1) ∧ lk (mMsk 147) 126 = none := by decide +kernel
theorem i147_127 : decode (mCd 147) 127 = .ok (.iload 6, 2) ∧ lk (mMsk 147) 127 = none := by decide +kernel
theorem i147_129 : decode (mCd 147) 129 = .ok (.aload_n 0, 1) ∧ lk (mMsk 147) 129 = none := by decide +kernel
theorem i147_130 : decode (mCd 147) 130 = .ok (.getfield 72, 3) ∧ lk (mMsk 147) 130 = none := by decide +kernel
theorem i147_133 : decode (mCd 147) 133 = .ok (.iload 5, 2) ∧ lk (mMsk 147) 133 = none := by decide +kernel
theorem i147_135 : decode (mCd 147) 135 = .ok (.iaload, 1) ∧ lk (mMsk 147) 135 = none := by decide +kernel
theorem i147_136 : decode (mCd 147) 136 = .ok (.invokevirtual 231, 3) ∧ lk (mMsk 147) 136 = none := by decide +kernel
theorem c147_231 : cvOk 147 231 145 2 0 = true := by decide +kernel
theorem i147_139 : decode (mCd 147) 139 = .ok (.ifCond .eq 36, 3) ∧ lk (mMsk 147) 139 = none := by decide +kernel
theorem i147_175 : decode (mCd 147) 175 = .ok (.iinc 6 1, 3) ∧ lk (mMsk 147) 175 = some [true, true, false, true, true, true, true] := by decide +kernel
theorem i147_142 : decode (mCd 147) 142 = .ok (.aload_n 0, 1) ∧ lk (mMsk 147) 142 = none := by decide +kernel
theorem i147_143 : decode (mCd 147) 143 = .ok (.getfield 69, 3) ∧ lk (mMsk 147) 143 = none := by decide +kernel
theorem i147_146 : decode (mCd 147) 146 = .ok (.iload 6, 2) ∧ lk (mMsk 147) 146 = none := by decide +kernel
theorem i147_148 : decode (mCd 147) 148 = .ok (.aload_n 0, 1) ∧ lk (mMsk 147) 148 = none := by decide +kernel
theorem i147_149 : decode (mCd 147) 149 = .ok (.getfield 69, 3) ∧ lk (mMsk 147) 149 = none := by decide +kernel
theorem i147_152 : decode (mCd 147) 152 = .ok (.aload_n 0, 1) ∧ lk (mMsk 147) 152 = none := by decide +kernel
theorem i147_153 : decode (mCd 147) 153 = .ok (.getfield 72, 3) ∧ lk (mMsk 147) 153 = none := by decide +kernel
theorem i147_156 : decode (mCd 147) 156 = .ok (.iload 5, 2) ∧ lk (mMsk 147) 156 = none := by decide +kernel
theorem i147_158 : decode (mCd 147) 158 = .ok (.iaload, 1) ∧ lk (mMsk 147) 158 = none := by decide +kernel
theorem i147_159 : decode (mCd 147) 159 = .ok (.iaload, 1) ∧ lk (mMsk 147) 159 = none := by decide +kernel
theorem i147_160 : decode (mCd 147) 160 = .ok (.iconst 1, 1) ∧ lk (mMsk 147) 160 = none := by decide +kernel
theorem i147_161 : decode (mCd 147) 161 = .ok (.iadd, 1) ∧ lk (mMsk 147) 161 = none := by decide +kernel
theorem i147_162 : decode (mCd 147) 162 = .ok (.iastore, 1) ∧ lk (mMsk 147) 162 = none := by decide +kernel
theorem i147_163 : decode (mCd 147) 163 = .ok (.aload_n 0, 1) ∧ lk (mMsk 147) 163 = none := by decide +kernel
theorem i147_164 : decode (mCd 147) 164 = .ok (.getfield 72, 3) ∧ lk (mMsk 147) 164 = none := by decide +kernel
theorem i147_167 : decode (mCd 147) 167 = .ok (.iload 4, 2) ∧ lk (mMsk 147) 167 = none := by decide +kernel
theorem i147_169 : decode (mCd 147) 169 = .ok (.iload 6, 2) ∧ lk (mMsk 147) 169 = none := by decide +kernel
theorem i147_171 : decode (mCd 147) 171 = .ok (.iastore, 1) ∧ lk (mMsk 147) 171 = none := by decide +kernel
theorem i147_172 : decode (mCd 147) 172 = .ok (.iinc 4 1, 3) ∧ lk (mMsk 147) 172 = none := by decide +kernel
theorem i147_178 : decode (mCd 147) 178 = .ok (.goto (-69), 3) ∧ lk (mMsk 147) 178 = none := by decide +kernel
theorem i147_188 : decode (mCd 147) 188 = .ok (.invokevirtual 215, 3) ∧ lk (mMsk 147) 188 = none := by decide +kernel
theorem c147_215 : cvOk 147 215 139 0 3 = true := by decide +kernel
theorem i147_191 : decode (mCd 147) 191 = .ok (.aload_n 0, 1) ∧ lk (mMsk 147) 191 = none := by decide +kernel
theorem i147_192 : decode (mCd 147) 192 = .ok (.getfield 69, 3) ∧ lk (mMsk 147) 192 = none := by decide +kernel
theorem i147_195 : decode (mCd 147) 195 = .ok (.iload_n 1, 1) ∧ lk (mMsk 147) 195 = none := by decide +kernel
theorem i147_196 : decode (mCd 147) 196 = .ok (.iaload, 1) ∧ lk (mMsk 147) 196 = none := by decide +kernel
theorem i147_197 : decode (mCd 147) 197 = .ok (.ireturn, 1) ∧ lk (mMsk 147) 197 = none := by decide +kernel
theorem i148_0 : decode (mCd 148) 0 = .ok (.aload_n 0, 1) ∧ lk (mMsk 148) 0 = none := by decide +kernel
theorem i148_1 : decode (mCd 148) 1 = .ok (.iconst 0, 1) ∧ lk (mMsk 148) 1 = none := by decide +kernel
theorem i148_2 : decode (mCd 148) 2 = .ok (.invokevirtual 224, 3) ∧ lk (mMsk 148) 2 = none := by decide +kernel
theorem c148_224 : cvOk 148 224 146 1 0 = true := by decide +kernel
theorem i148_5 : decode (mCd 148) 5 = .ok (.istore_n 2, 1) ∧ lk (mMsk 148) 5 = none := by decide +kernel
theorem i148_6 : decode (mCd 148) 6 = .ok (.iconst 1, 1) ∧ lk (mMsk 148) 6 = none := by decide +kernel
theorem i148_7 : decode (mCd 148) 7 = .ok (.iconst 3, 1) ∧ lk (mMsk 148) 7 = none := by decide +kernel
theorem i148_8 : decode (mCd 148) 8 = .ok (.aload_n 0, 1) ∧ lk (mMsk 148) 8 = none := by decide +kernel
theorem i148_9 : decode (mCd 148) 9 = .ok (.getfield 152, 3) ∧ lk (mMsk 148) 9 = none := by decide +kernel
theorem g148_152 : fOk 148 152 9 7 = true := by decide +kernel
theorem i148_12 : decode (mCd 148) 12 = .ok (.imul, 1) ∧ lk (mMsk 148) 12 = none := by decide +kernel
theorem i148_13 : decode (mCd 148) 13 = .ok (.ishl, 1) ∧ lk (mMsk 148) 13 = none := by decide +kernel
theorem i148_14 : decode (mCd 148) 14 = .ok (.istore_n 3, 1) ∧ lk (mMsk 148) 14 = none := by decide +kernel
theorem i148_15 : decode (mCd 148) 15 = .ok (.iconst (-1), 1) ∧ lk (mMsk 148) 15 = none := by decide +kernel
theorem i148_16 : decode (mCd 148) 16 = .ok (.istore 4, 2) ∧ lk (mMsk 148) 16 = none := by decide +kernel
theorem i148_18 : decode (mCd 148) 18 = .ok (.ldc 234, 2) ∧ lk (mMsk 148) 18 = none := by decide +kernel
theorem q148_234 : lk (mKt (mOwn 148)) 234 = some (.inl 1048576) := by decide +kernel
theorem i148_20 : decode (mCd 148) 20 = .ok (.istore 5, 2) ∧ lk (mMsk 148) 20 = none := by decide +kernel
theorem i148_22 : decode (mCd 148) 22 = .ok (.aload_n 0, 1) ∧ lk (mMsk 148) 22 = none := by decide +kernel
theorem i148_23 : decode (mCd 148) 23 = .ok (.invokevirtual 202, 3) ∧ lk (mMsk 148) 23 = none := by decide +kernel
theorem c148_202 : cvOk 148 202 138 0 3 = true := by decide +kernel
theorem i148_26 : decode (mCd 148) 26 = .ok (.iconst 0, 1) ∧ lk (mMsk 148) 26 = none := by decide +kernel
theorem i148_27 : decode (mCd 148) 27 = .ok (.istore 6, 2) ∧ lk (mMsk 148) 27 = none := by decide +kernel
theorem i148_29 : decode (mCd 148) 29 = .ok (.iload 6, 2) ∧ lk (mMsk 148) 29 = some [true, true, true, true, true, true, true, false] := by decide +kernel
theorem i148_31 : decode (mCd 148) 31 = .ok (.iload_n 3, 1) ∧ lk (mMsk 148) 31 = none := by decide +kernel
theorem i148_32 : decode (mCd 148) 32 = .ok (.if_icmp .ge 77, 3) ∧ lk (mMsk 148) 32 = none := by decide +kernel
theorem i148_109 : decode (mCd 148) 109 = .ok (.aload_n 0, 1) ∧ lk (mMsk 148) 109 = none := by decide +kernel
theorem i148_110 : decode (mCd 148) 110 = .ok (.invokevirtual 215, 3) ∧ lk (mMsk 148) 110 = none := by decide +kernel
theorem c148_215 : cvOk 148 215 139 0 3 = true := by decide +kernel
theorem i148_113 : decode (mCd 148) 113 = .ok (.iload 4, 2) ∧ lk (mMsk 148) 113 = none := by decide +kernel
theorem i148_115 : decode (mCd 148) 115 = .ok (.ireturn, 1) ∧ lk (mMsk 148) 115 = none := by decide +kernel
theorem i148_35 : decode (mCd 148) 35 = .ok (.iload 6, 2) ∧ lk (mMsk 148) 35 = none := by decide +kernel
theorem i148_37 : decode (mCd 148) 37 = .ok (.bipush 7, 2) ∧ lk (mMsk 148) 37 = none := by decide +kernel
theorem i148_39 : decode (mCd 148) 39 = .ok (.iand, 1) ∧ lk (mMsk 148) 39 = none := by decide +kernel
theorem i148_40 : decode (mCd 148) 40 = .ok (.bipush 64, 2) ∧ lk (mMsk 148) 40 = none := by decide +kernel
theorem i148_42 : decode (mCd 148) 42 = .ok (.imul, 1) ∧ lk (mMsk 148) 42 = none := by decide +kernel
theorem i148_43 : decode (mCd 148) 43 = .ok (.iload 6, 2) ∧ lk (mMsk 148) 43 = none := by decide +kernel
theorem i148_45 : decode (mCd 148) 45 = .ok (.iconst 3, 1) ∧ lk (mMsk 148) 45 = none := by decide +kernel
theorem i148_46 : decode (mCd 148) 46 = .ok (.ishr, 1) ∧ lk (mMsk 148) 46 = none := by decide +kernel
theorem i148_47 : decode (mCd 148) 47 = .ok (.bipush 7, 2) ∧ lk (mMsk 148) 47 = none := by decide +kernel
theorem i148_49 : decode (mCd 148) 49 = .ok (.iand, 1) ∧ lk (mMsk 148) 49 = none := by decide +kernel
theorem i148_50 : decode (mCd 148) 50 = .ok (.bipush 8, 2) ∧ lk (mMsk 148) 50 = none := by decide +kernel
theorem i148_52 : decode (mCd 148) 52 = .ok (.imul, 1) ∧ lk (mMsk 148) 52 = none := by decide +kernel
theorem i148_53 : decode (mCd 148) 53 = .ok (.iadd, 1) ∧ lk (mMsk 148) 53 = none := by decide +kernel
theorem i148_54 : decode (mCd 148) 54 = .ok (.iload 6, 2) ∧ lk (mMsk 148) 54 = none := by decide +kernel
theorem i148_56 : decode (mCd 148) 56 = .ok (.bipush 6, 2) ∧ lk (mMsk 148) 56 = none := by decide +kernel
theorem i148_58 : decode (mCd 148) 58 = .ok (.ishr, 1) ∧ lk (mMsk 148) 58 = none := by decide +kernel
theorem i148_59 : decode (mCd 148) 59 = .ok (.bipush 7, 2) ∧ lk (mMsk 148) 59 = none := by decide +kernel
theorem i148_61 : decode (mCd 148) 61 = .ok (.iand, 1) ∧ lk (mMsk 148) 61 = none := by decide +kernel
theorem i148_62 : decode (mCd 148) 62 = .ok (.iadd, 1) ∧ lk (mMsk 148) 62 = none := by decide +kernel
theorem i148_63 : decode (mCd 148) 63 = .ok (.istore 7, 2) ∧ lk (mMsk 148) 63 = none := by decide +kernel
theorem i148_65 : decode (mCd 148) 65 = .ok (.aload_n 0, 1) ∧ lk (mMsk 148) 65 = none := by decide +kernel
theorem i148_66 : decode (mCd 148) 66 = .ok (.getfield 69, 3) ∧ lk (mMsk 148) 66 = none := by decide +kernel
theorem g148_69 : fOk 148 69 9 37 = true := by decide +kernel
theorem i148_69 : decode (mCd 148) 69 = .ok (.iload 6, 2) ∧ lk (mMsk 148) 69 = none := by decide +kernel
theorem i148_71 : decode (mCd 148) 71 = .ok (.iaload, 1) ∧ lk (mMsk 148) 71 = none := by decide +kernel
theorem i148_72 : decode (mCd 148) 72 = .ok (.iload_n 1, 1) ∧ lk (mMsk 148) 72 = none := by decide +kernel
theorem i148_73 : decode (mCd 148) 73 = .ok (.iconst 1, 1) ∧ lk (mMsk 148) 73 = none := by decide +kernel
theorem i148_74 : decode (mCd 148) 74 = .ok (.isub, 1) ∧ lk (mMsk 148) 74 = none := by decide +kernel
theorem i148_75 : decode (mCd 148) 75 = .ok (.if_icmp .ne 28, 3) ∧ lk (mMsk 148) 75 = none := by decide +kernel
theorem i148_78 : decode (mCd 148) 78 = .ok (.iload 7, 2) ∧ lk (mMsk 148) 78 = none := by decide +kernel
theorem i148_80 : decode (mCd 148) 80 = .ok (.iload 5, 2) ∧ lk (mMsk 148) 80 = none := by decide +kernel
theorem i148_82 : decode (mCd 148) 82 = .ok (.if_icmp .ge 21, 3) ∧ lk (mMsk 148) 82 = none := by decide +kernel
theorem i148_103 : decode (mCd 148) 103 = .ok (.iinc 6 1, 3) ∧ lk (mMsk 148) 103 = some [true, true, true, true, true, true, true, false] := by decide +kernel
theorem i148_85 : decode (mCd 148) 85 = .ok (.aload_n 0, 1) ∧ lk (mMsk 148) 85 = none := by decide +kernel
theorem i148_86 : decode (mCd 148) 86 = .ok (.iload_n 2, 1) ∧ lk (mMsk 148) 86 = none := by decide +kernel
theorem i148_87 : decode (mCd 148) 87 = .ok (.iload 6, 2) ∧ lk (mMsk 148) 87 = none := by decide +kernel
theorem i148_89 : decode (mCd 148) 89 = .ok (.invokevirtual 231, 3) ∧ lk (mMsk 148) 89 = none := by decide +kernel
theorem c148_231 : cvOk 148 231 145 2 0 = true := by decide +kernel
theorem i148_92 : decode (mCd 148) 92 = .ok (.ifCond .eq 11, 3) ∧ lk (mMsk 148) 92 = none := by decide +kernel
theorem i148_95 : decode (mCd 148) 95 = .ok (.iload 6, 2) ∧ lk (mMsk 148) 95 = none := by decide +kernel
theorem i148_97 : decode (mCd 148) 97 = .ok (.istore 4, 2) ∧ lk (mMsk 148) 97 = none := by decide +kernel
theorem i148_99 : decode (mCd 148) 99 = .ok (.iload 7, 2) ∧ lk (mMsk 148) 99 = none := by decide +kernel
theorem i148_101 : decode (mCd 148) 101 = .ok (.istore 5, 2) ∧ lk (mMsk 148) 101 = none := by decide +kernel
theorem i148_106 : decode (mCd 148) 106 = .ok (.goto (-77), 3) ∧ lk (mMsk 148) 106 = none := by decide +kernel
theorem i149_0 : decode (mCd 149) 0 = .ok (.aload_n 0, 1) ∧ lk (mMsk 149) 0 = none := by decide +kernel
theorem i149_1 : decode (mCd 149) 1 = .ok (.invokevirtual 235, 3) ∧ lk (mMsk 149) 1 = none := by decide +kernel
theorem c149_235 : cvOk 149 235 147 0 0 = true := by decide +kernel
theorem i149_4 : decode (mCd 149) 4 = .ok (.istore_n 2, 1) ∧ lk (mMsk 149) 4 = none := by decide +kernel
theorem i149_5 : decode (mCd 149) 5 = .ok (.iload_n 2, 1) ∧ lk (mMsk 149) 5 = none := by decide +kernel
theorem i149_6 : decode (mCd 149) 6 = .ok (.iconst (-1), 1) ∧ lk (mMsk 149) 6 = none := by decide +kernel
theorem i149_7 : decode (mCd 149) 7 = .ok (.if_icmp .eq 7, 3) ∧ lk (mMsk 149) 7 = none := by decide +kernel
theorem i149_14 : decode (mCd 149) 14 = .ok (.iload_n 2, 1) ∧ lk (mMsk 149) 14 = some [false, false, true] := by decide +kernel
theorem i149_10 : decode (mCd 149) 10 = .ok (.iload_n 1, 1) ∧ lk (mMsk 149) 10 = none := by decide +kernel
theorem i149_11 : decode (mCd 149) 11 = .ok (.ifCond .ne 5, 3) ∧ lk (mMsk 149) 11 = none := by decide +kernel
theorem i149_16 : decode (mCd 149) 16 = .ok (.iload_n 2, 1) ∧ lk (mMsk 149) 16 = none := by decide +kernel
theorem i149_17 : decode (mCd 149) 17 = .ok (.ifCond .eq 11, 3) ∧ lk (mMsk 149) 17 = none := by decide +kernel
theorem i149_28 : decode (mCd 149) 28 = .ok (.iconst (-1), 1) ∧ lk (mMsk 149) 28 = some [false, false, false] := by decide +kernel
theorem i149_20 : decode (mCd 149) 20 = .ok (.iload_n 1, 1) ∧ lk (mMsk 149) 20 = none := by decide +kernel
theorem i149_21 : decode (mCd 149) 21 = .ok (.aload_n 0, 1) ∧ lk (mMsk 149) 21 = none := by decide +kernel
theorem i149_22 : decode (mCd 149) 22 = .ok (.getfield 152, 3) ∧ lk (mMsk 149) 22 = none := by decide +kernel
theorem g149_152 : fOk 149 152 9 7 = true := by decide +kernel
theorem i149_25 : decode (mCd 149) 25 = .ok (.if_icmp .le 5, 3) ∧ lk (mMsk 149) 25 = none := by decide +kernel
theorem i149_30 : decode (mCd 149) 30 = .ok (.aload_n 0, 1) ∧ lk (mMsk 149) 30 = none := by decide +kernel
theorem i149_31 : decode (mCd 149) 31 = .ok (.iload_n 2, 1) ∧ lk (mMsk 149) 31 = none := by decide +kernel
theorem i149_32 : decode (mCd 149) 32 = .ok (.invokevirtual 238, 3) ∧ lk (mMsk 149) 32 = none := by decide +kernel
theorem c149_238 : cvOk 149 238 148 1 0 = true := by decide +kernel
theorem i149_35 : decode (mCd 149) 35 = .ok (.iconst 3, 1) ∧ lk (mMsk 149) 35 = none := by decide +kernel
theorem i149_36 : decode (mCd 149) 36 = .ok (.iload_n 1, 1) ∧ lk (mMsk 149) 36 = none := by decide +kernel
theorem i149_37 : decode (mCd 149) 37 = .ok (.iconst 1, 1) ∧ lk (mMsk 149) 37 = none := by decide +kernel
theorem i149_38 : decode (mCd 149) 38 = .ok (.isub, 1) ∧ lk (mMsk 149) 38 = none := by decide +kernel
theorem i149_39 : decode (mCd 149) 39 = .ok (.imul, 1) ∧ lk (mMsk 149) 39 = none := by decide +kernel
theorem i149_40 : decode (mCd 149) 40 = .ok (.ishr, 1) ∧ lk (mMsk 149) 40 = none := by decide +kernel
theorem i149_41 : decode (mCd 149) 41 = .ok (.bipush 7, 2) ∧ lk (mMsk 149) 41 = none := by decide +kernel
theorem i149_43 : decode (mCd 149) 43 = .ok (.iand, 1) ∧ lk (mMsk 149) 43 = none := by decide +kernel
theorem i149_44 : decode (mCd 149) 44 = .ok (.ireturn, 1) ∧ lk (mMsk 149) 44 = none := by decide +kernel
theorem i149_29 : decode (mCd 149) 29 = .ok (.ireturn, 1) ∧ lk (mMsk 149) 29 = none := by decide +kernel
theorem i149_15 : decode (mCd 149) 15 = .ok (.ireturn, 1) ∧ lk (mMsk 149) 15 = none := by decide +kernel
theorem i150_0 : decode (mCd 150) 0 = .ok (.iload_n 1, 1) ∧ lk (mMsk 150) 0 = none := by decide +kernel
theorem i150_1 : decode (mCd 150) 1 = .ok (.iconst 0, 1) ∧ lk (mMsk 150) 1 = none := by decide +kernel
theorem i150_2 : decode (mCd 150) 2 = .ok (.iconst 3, 1) ∧ lk (mMsk 150) 2 = none := by decide +kernel
theorem i150_3 : decode (mCd 150) 3 = .ok (.invokestatic 105, 3) ∧ lk (mMsk 150) 3 = none := by decide +kernel
theorem c150_105 : ciOk 150 105 107 3 0 = true := by decide +kernel
theorem i150_6 : decode (mCd 150) 6 = .ok (.ifCond .ne 6, 3) ∧ lk (mMsk 150) 6 = none := by decide +kernel
theorem i150_9 : decode (mCd 150) 9 = .ok (.bipush (-102), 2) ∧ lk (mMsk 150) 9 = none := by decide +kernel
theorem i150_11 : decode (mCd 150) 11 = .ok (.ireturn, 1) ∧ lk (mMsk 150) 11 = none := by decide +kernel
theorem i150_12 : decode (mCd 150) 12 = .ok (.aload_n 0, 1) ∧ lk (mMsk 150) 12 = none := by decide +kernel
theorem i150_13 : decode (mCd 150) 13 = .ok (.getfield 152, 3) ∧ lk (mMsk 150) 13 = none := by decide +kernel
theorem g150_152 : fOk 150 152 9 7 = true := by decide +kernel
theorem i150_16 : decode (mCd 150) 16 = .ok (.iconst 1, 1) ∧ lk (mMsk 150) 16 = none := by decide +kernel
theorem i150_17 : decode (mCd 150) 17 = .ok (.iconst 3, 1) ∧ lk (mMsk 150) 17 = none := by decide +kernel
theorem i150_18 : decode (mCd 150) 18 = .ok (.invokestatic 105, 3) ∧ lk (mMsk 150) 18 = none := by decide +kernel
theorem i150_21 : decode (mCd 150) 21 = .ok (.ifCond .eq 12, 3) ∧ lk (mMsk 150) 21 = none := by decide +kernel
theorem i150_33 : decode (mCd 150) 33 = .ok (.bipush (-103), 2) ∧ lk (mMsk 150) 33 = some [false, false] := by decide +kernel
theorem i150_24 : decode (mCd 150) 24 = .ok (.aload_n 0, 1) ∧ lk (mMsk 150) 24 = none := by decide +kernel
theorem i150_25 : decode (mCd 150) 25 = .ok (.getfield 241, 3) ∧ lk (mMsk 150) 25 = none := by decide +kernel
theorem g150_241 : fOk 150 241 9 17 = true := by decide +kernel
theorem i150_28 : decode (mCd 150) 28 = .ok (.bipush 40, 2) ∧ lk (mMsk 150) 28 = none := by decide +kernel
theorem i150_30 : decode (mCd 150) 30 = .ok (.if_icmp .ne 6, 3) ∧ lk (mMsk 150) 30 = none := by decide +kernel
theorem i150_36 : decode (mCd 150) 36 = .ok (.aload_n 0, 1) ∧ lk (mMsk 150) 36 = none := by decide +kernel
theorem i150_37 : decode (mCd 150) 37 = .ok (.dup, 1) ∧ lk (mMsk 150) 37 = none := by decide +kernel
theorem i150_38 : decode (mCd 150) 38 = .ok (.getfield 241, 3) ∧ lk (mMsk 150) 38 = none := by decide +kernel
theorem i150_41 : decode (mCd 150) 41 = .ok (.iconst 1, 1) ∧ lk (mMsk 150) 41 = none := by decide +kernel
theorem i150_42 : decode (mCd 150) 42 = .ok (.iadd, 1) ∧ lk (mMsk 150) 42 = none := by decide +kernel
theorem i150_43 : decode (mCd 150) 43 = .ok (.putfield 241, 3) ∧ lk (mMsk 150) 43 = none := by decide +kernel
theorem p150_241 : pOk 150 241 9 17 = true := by decide +kernel
theorem i150_46 : decode (mCd 150) 46 = .ok (.aload_n 0, 1) ∧ lk (mMsk 150) 46 = none := by decide +kernel
theorem i150_47 : decode (mCd 150) 47 = .ok (.iload_n 1, 1) ∧ lk (mMsk 150) 47 = none := by decide +kernel
theorem i150_48 : decode (mCd 150) 48 = .ok (.invokevirtual 244, 3) ∧ lk (mMsk 150) 48 = none := by decide +kernel
theorem c150_244 : cvOk 150 244 149 1 0 = true := by decide +kernel
theorem i150_51 : decode (mCd 150) 51 = .ok (.ireturn, 1) ∧ lk (mMsk 150) 51 = none := by decide +kernel
theorem i150_35 : decode (mCd 150) 35 = .ok (.ireturn, 1) ∧ lk (mMsk 150) 35 = none := by decide +kernel
theorem i151_0 : decode (mCd 151) 0 = .ok (.aload_n 0, 1) ∧ lk (mMsk 151) 0 = none := by decide +kernel
theorem i151_1 : decode (mCd 151) 1 = .ok (.invokevirtual 235, 3) ∧ lk (mMsk 151) 1 = none := by decide +kernel
theorem c151_235 : cvOk 151 235 147 0 0 = true := by decide +kernel
theorem i151_4 : decode (mCd 151) 4 = .ok (.istore_n 2, 1) ∧ lk (mMsk 151) 4 = none := by decide +kernel
theorem i151_5 : decode (mCd 151) 5 = .ok (.iload_n 2, 1) ∧ lk (mMsk 151) 5 = none := by decide +kernel
theorem i151_6 : decode (mCd 151) 6 = .ok (.iconst (-1), 1) ∧ lk (mMsk 151) 6 = none := by decide +kernel
theorem i151_7 : decode (mCd 151) 7 = .ok (.if_icmp .ne 8, 3) ∧ lk (mMsk 151) 7 = none := by decide +kernel
theorem i151_10 : decode (mCd 151) 10 = .ok (.ldc 234, 2) ∧ lk (mMsk 151) 10 = none := by decide +kernel
theorem q151_234 : lk (mKt (mOwn 151)) 234 = some (.inl 1048576) := by decide +kernel
theorem i151_12 : decode (mCd 151) 12 = .ok (.goto 4, 3) ∧ lk (mMsk 151) 12 = none := by decide +kernel
theorem i151_16 : decode (mCd 151) 16 = .ok (.istore_n 3, 1) ∧ lk (mMsk 151) 16 = some [true, true, false, false, false, false, false] := by decide +kernel
theorem i151_15 : decode (mCd 151) 15 = .ok (.iload_n 2, 1) ∧ lk (mMsk 151) 15 = none := by decide +kernel
theorem i151_17 : decode (mCd 151) 17 = .ok (.iconst (-1), 1) ∧ lk (mMsk 151) 17 = none := by decide +kernel
theorem i151_18 : decode (mCd 151) 18 = .ok (.istore 4, 2) ∧ lk (mMsk 151) 18 = none := by decide +kernel
theorem i151_20 : decode (mCd 151) 20 = .ok (.iconst 0, 1) ∧ lk (mMsk 151) 20 = none := by decide +kernel
theorem i151_21 : decode (mCd 151) 21 = .ok (.istore 5, 2) ∧ lk (mMsk 151) 21 = none := by decide +kernel
theorem i151_23 : decode (mCd 151) 23 = .ok (.iload 5, 2) ∧ lk (mMsk 151) 23 = some [true, true, false, true, true, true, false] := by decide +kernel
theorem i151_25 : decode (mCd 151) 25 = .ok (.aload_n 0, 1) ∧ lk (mMsk 151) 25 = none := by decide +kernel
theorem i151_26 : decode (mCd 151) 26 = .ok (.getfield 140, 3) ∧ lk (mMsk 151) 26 = none := by decide +kernel
theorem g151_140 : fOk 151 140 9 0 = true := by decide +kernel
theorem i151_29 : decode (mCd 151) 29 = .ok (.if_icmp .ge 81, 3) ∧ lk (mMsk 151) 29 = none := by decide +kernel
theorem i151_110 : decode (mCd 151) 110 = .ok (.iload 4, 2) ∧ lk (mMsk 151) 110 = none := by decide +kernel
theorem i151_112 : decode (mCd 151) 112 = .ok (.iconst (-1), 1) ∧ lk (mMsk 151) 112 = none := by decide +kernel
theorem i151_113 : decode (mCd 151) 113 = .ok (.if_icmp .eq 7, 3) ∧ lk (mMsk 151) 113 = none := by decide +kernel
theorem i151_120 : decode (mCd 151) 120 = .ok (.iload 4, 2) ∧ lk (mMsk 151) 120 = some [false, false, false, false, true, false, false] := by decide +kernel
theorem i151_116 : decode (mCd 151) 116 = .ok (.iload_n 1, 1) ∧ lk (mMsk 151) 116 = none := by decide +kernel
theorem i151_117 : decode (mCd 151) 117 = .ok (.ifCond .ne 8, 3) ∧ lk (mMsk 151) 117 = none := by decide +kernel
theorem i151_125 : decode (mCd 151) 125 = .ok (.iload_n 3, 1) ∧ lk (mMsk 151) 125 = none := by decide +kernel
theorem i151_126 : decode (mCd 151) 126 = .ok (.ireturn, 1) ∧ lk (mMsk 151) 126 = some [false, false, false, false, false, false, false] := by decide +kernel
theorem i151_32 : decode (mCd 151) 32 = .ok (.aload_n 0, 1) ∧ lk (mMsk 151) 32 = none := by decide +kernel
theorem i151_33 : decode (mCd 151) 33 = .ok (.getfield 16, 3) ∧ lk (mMsk 151) 33 = none := by decide +kernel
theorem g151_16 : fOk 151 16 9 3 = true := by decide +kernel
theorem i151_36 : decode (mCd 151) 36 = .ok (.iload 5, 2) ∧ lk (mMsk 151) 36 = none := by decide +kernel
theorem i151_38 : decode (mCd 151) 38 = .ok (.baload, 1) ∧ lk (mMsk 151) 38 = none := by decide +kernel
theorem i151_39 : decode (mCd 151) 39 = .ok (.ifCond .ne 65, 3) ∧ lk (mMsk 151) 39 = none := by decide +kernel
theorem i151_42 : decode (mCd 151) 42 = .ok (.aload_n 0, 1) ∧ lk (mMsk 151) 42 = none := by decide +kernel
theorem i151_43 : decode (mCd 151) 43 = .ok (.getfield 16, 3) ∧ lk (mMsk 151) 43 = none := by decide +kernel
theorem i151_46 : decode (mCd 151) 46 = .ok (.iload 5, 2) ∧ lk (mMsk 151) 46 = none := by decide +kernel
theorem i151_48 : decode (mCd 151) 48 = .ok (.iconst 1, 1) ∧ lk (mMsk 151) 48 = none := by decide +kernel
theorem i151_49 : decode (mCd 151) 49 = .ok (.bastore, 1) ∧ lk (mMsk 151) 49 = none := by decide +kernel
theorem i151_50 : decode (mCd 151) 50 = .ok (.aload_n 0, 1) ∧ lk (mMsk 151) 50 = none := by decide +kernel
theorem i151_51 : decode (mCd 151) 51 = .ok (.invokevirtual 235, 3) ∧ lk (mMsk 151) 51 = none := by decide +kernel
theorem i151_54 : decode (mCd 151) 54 = .ok (.istore 6, 2) ∧ lk (mMsk 151) 54 = none := by decide +kernel
theorem i151_56 : decode (mCd 151) 56 = .ok (.aload_n 0, 1) ∧ lk (mMsk 151) 56 = none := by decide +kernel
theorem i151_57 : decode (mCd 151) 57 = .ok (.getfield 16, 3) ∧ lk (mMsk 151) 57 = none := by decide +kernel
theorem i151_60 : decode (mCd 151) 60 = .ok (.iload 5, 2) ∧ lk (mMsk 151) 60 = none := by decide +kernel
theorem i151_62 : decode (mCd 151) 62 = .ok (.iconst 0, 1) ∧ lk (mMsk 151) 62 = none := by decide +kernel
theorem i151_63 : decode (mCd 151) 63 = .ok (.bastore, 1) ∧ lk (mMsk 151) 63 = none := by decide +kernel
theorem i151_64 : decode (mCd 151) 64 = .ok (.iload 6, 2) ∧ lk (mMsk 151) 64 = none := by decide +kernel
theorem i151_66 : decode (mCd 151) 66 = .ok (.iconst (-1), 1) ∧ lk (mMsk 151) 66 = none := by decide +kernel
theorem i151_67 : decode (mCd 151) 67 = .ok (.if_icmp .eq 14, 3) ∧ lk (mMsk 151) 67 = none := by decide +kernel
theorem i151_81 : decode (mCd 151) 81 = .ok (.iload 4, 2) ∧ lk (mMsk 151) 81 = some [true, true, false, true, true, true, true] := by decide +kernel
theorem i151_70 : decode (mCd 151) 70 = .ok (.iload 6, 2) ∧ lk (mMsk 151) 70 = none := by decide +kernel
theorem i151_72 : decode (mCd 151) 72 = .ok (.iload_n 3, 1) ∧ lk (mMsk 151) 72 = none := by decide +kernel
theorem i151_73 : decode (mCd 151) 73 = .ok (.if_icmp .ge 8, 3) ∧ lk (mMsk 151) 73 = none := by decide +kernel
theorem i151_76 : decode (mCd 151) 76 = .ok (.iload 5, 2) ∧ lk (mMsk 151) 76 = none := by decide +kernel
theorem i151_78 : decode (mCd 151) 78 = .ok (.goto 5, 3) ∧ lk (mMsk 151) 78 = none := by decide +kernel
theorem i151_83 : decode (mCd 151) 83 = .ok (.istore 4, 2) ∧ lk (mMsk 151) 83 = some [true, true, false, true, false, true, true] := by decide +kernel
theorem i151_104 : decode (mCd 151) 104 = .ok (.iinc 5 1, 3) ∧ lk (mMsk 151) 104 = some [true, true, false, true, true, true, false] := by decide +kernel
theorem i151_107 : decode (mCd 151) 107 = .ok (.goto (-84), 3) ∧ lk (mMsk 151) 107 = none := by decide +kernel
theorem i151_85 : decode (mCd 151) 85 = .ok (.iload 6, 2) ∧ lk (mMsk 151) 85 = none := by decide +kernel
theorem i151_87 : decode (mCd 151) 87 = .ok (.iconst (-1), 1) ∧ lk (mMsk 151) 87 = none := by decide +kernel
theorem i151_88 : decode (mCd 151) 88 = .ok (.if_icmp .eq 14, 3) ∧ lk (mMsk 151) 88 = none := by decide +kernel
theorem i151_102 : decode (mCd 151) 102 = .ok (.iload_n 3, 1) ∧ lk (mMsk 151) 102 = some [true, true, false, true, true, true, false] := by decide +kernel
theorem i151_91 : decode (mCd 151) 91 = .ok (.iload 6, 2) ∧ lk (mMsk 151) 91 = none := by decide +kernel
theorem i151_93 : decode (mCd 151) 93 = .ok (.iload_n 3, 1) ∧ lk (mMsk 151) 93 = none := by decide +kernel
theorem i151_94 : decode (mCd 151) 94 = .ok (.if_icmp .ge 8, 3) ∧ lk (mMsk 151) 94 = none := by decide +kernel
theorem i151_97 : decode (mCd 151) 97 = .ok (.iload 6, 2) ∧ lk (mMsk 151) 97 = none := by decide +kernel
theorem i151_99 : decode (mCd 151) 99 = .ok (.goto 4, 3) ∧ lk (mMsk 151) 99 = none := by decide +kernel
theorem i151_103 : decode (mCd 151) 103 = .ok (.istore_n 3, 1) ∧ lk (mMsk 151) 103 = some [true, true, false, false, true, true, false] := by decide +kernel
theorem i151_122 : decode (mCd 151) 122 = .ok (.goto 4, 3) ∧ lk (mMsk 151) 122 = none := by decide +kernel
theorem i152_0 : decode (mCd 152) 0 = .ok (.iload_n 1, 1) ∧ lk (mMsk 152) 0 = none := by decide +kernel
theorem i152_1 : decode (mCd 152) 1 = .ok (.iconst 0, 1) ∧ lk (mMsk 152) 1 = none := by decide +kernel
theorem i152_2 : decode (mCd 152) 2 = .ok (.iconst 1, 1) ∧ lk (mMsk 152) 2 = none := by decide +kernel
theorem i152_3 : decode (mCd 152) 3 = .ok (.invokestatic 105, 3) ∧ lk (mMsk 152) 3 = none := by decide +kernel
theorem c152_105 : ciOk 152 105 107 3 0 = true := by decide +kernel
theorem i152_6 : decode (mCd 152) 6 = .ok (.ifCond .ne 6, 3) ∧ lk (mMsk 152) 6 = none := by decide +kernel
theorem i152_9 : decode (mCd 152) 9 = .ok (.bipush (-102), 2) ∧ lk (mMsk 152) 9 = none := by decide +kernel
theorem i152_11 : decode (mCd 152) 11 = .ok (.ireturn, 1) ∧ lk (mMsk 152) 11 = none := by decide +kernel
theorem i152_12 : decode (mCd 152) 12 = .ok (.aload_n 0, 1) ∧ lk (mMsk 152) 12 = none := by decide +kernel
theorem i152_13 : decode (mCd 152) 13 = .ok (.getfield 152, 3) ∧ lk (mMsk 152) 13 = none := by decide +kernel
theorem g152_152 : fOk 152 152 9 7 = true := by decide +kernel
theorem i152_16 : decode (mCd 152) 16 = .ok (.iconst 1, 1) ∧ lk (mMsk 152) 16 = none := by decide +kernel
theorem i152_17 : decode (mCd 152) 17 = .ok (.iconst 3, 1) ∧ lk (mMsk 152) 17 = none := by decide +kernel
theorem i152_18 : decode (mCd 152) 18 = .ok (.invokestatic 105, 3) ∧ lk (mMsk 152) 18 = none := by decide +kernel
theorem i152_21 : decode (mCd 152) 21 = .ok (.ifCond .eq 12, 3) ∧ lk (mMsk 152) 21 = none := by decide +kernel
theorem i152_33 : decode (mCd 152) 33 = .ok (.bipush (-103), 2) ∧ lk (mMsk 152) 33 = some [false, false] := by decide +kernel
theorem i152_24 : decode (mCd 152) 24 = .ok (.aload_n 0, 1) ∧ lk (mMsk 152) 24 = none := by decide +kernel
theorem i152_25 : decode (mCd 152) 25 = .ok (.getfield 241, 3) ∧ lk (mMsk 152) 25 = none := by decide +kernel
theorem g152_241 : fOk 152 241 9 17 = true := by decide +kernel
theorem i152_28 : decode (mCd 152) 28 = .ok (.bipush 40, 2) ∧ lk (mMsk 152) 28 = none := by decide +kernel
theorem i152_30 : decode (mCd 152) 30 = .ok (.if_icmp .ne 6, 3) ∧ lk (mMsk 152) 30 = none := by decide +kernel
theorem i152_36 : decode (mCd 152) 36 = .ok (.aload_n 0, 1) ∧ lk (mMsk 152) 36 = none := by decide +kernel
theorem i152_37 : decode (mCd 152) 37 = .ok (.dup, 1) ∧ lk (mMsk 152) 37 = none := by decide +kernel
theorem i152_38 : decode (mCd 152) 38 = .ok (.getfield 241, 3) ∧ lk (mMsk 152) 38 = none := by decide +kernel
theorem i152_41 : decode (mCd 152) 41 = .ok (.iconst 1, 1) ∧ lk (mMsk 152) 41 = none := by decide +kernel
theorem i152_42 : decode (mCd 152) 42 = .ok (.iadd, 1) ∧ lk (mMsk 152) 42 = none := by decide +kernel
theorem i152_43 : decode (mCd 152) 43 = .ok (.putfield 241, 3) ∧ lk (mMsk 152) 43 = none := by decide +kernel
theorem p152_241 : pOk 152 241 9 17 = true := by decide +kernel
theorem i152_46 : decode (mCd 152) 46 = .ok (.aload_n 0, 1) ∧ lk (mMsk 152) 46 = none := by decide +kernel
theorem i152_47 : decode (mCd 152) 47 = .ok (.iload_n 1, 1) ∧ lk (mMsk 152) 47 = none := by decide +kernel
theorem i152_48 : decode (mCd 152) 48 = .ok (.invokevirtual 247, 3) ∧ lk (mMsk 152) 48 = none := by decide +kernel
theorem c152_247 : cvOk 152 247 151 1 0 = true := by decide +kernel
theorem i152_51 : decode (mCd 152) 51 = .ok (.ireturn, 1) ∧ lk (mMsk 152) 51 = none := by decide +kernel
theorem i152_35 : decode (mCd 152) 35 = .ok (.ireturn, 1) ∧ lk (mMsk 152) 35 = none := by decide +kernel
theorem i153_0 : decode (mCd 153) 0 = .ok (.aload_n 0, 1) ∧ lk (mMsk 153) 0 = none := by decide +kernel
theorem i153_1 : decode (mCd 153) 1 = .ok (.getfield 29, 3) ∧ lk (mMsk 153) 1 = none := by decide +kernel
theorem g153_29 : fOk 153 29 9 11 = true := by decide +kernel
theorem i153_4 : decode (mCd 153) 4 = .ok (.iload_n 1, 1) ∧ lk (mMsk 153) 4 = none := by decide +kernel
theorem i153_5 : decode (mCd 153) 5 = .ok (.iaload, 1) ∧ lk (mMsk 153) 5 = none := by decide +kernel
theorem i153_6 : decode (mCd 153) 6 = .ok (.istore_n 2, 1) ∧ lk (mMsk 153) 6 = none := by decide +kernel
theorem i153_7 : decode (mCd 153) 7 = .ok (.iconst (-1), 1) ∧ lk (mMsk 153) 7 = none := by decide +kernel
theorem i153_8 : decode (mCd 153) 8 = .ok (.istore_n 3, 1) ∧ lk (mMsk 153) 8 = none := by decide +kernel
theorem i153_9 : decode (mCd 153) 9 = .ok (.iconst 0, 1) ∧ lk (mMsk 153) 9 = none := by decide +kernel
theorem i153_10 : decode (mCd 153) 10 = .ok (.istore 4, 2) ∧ lk (mMsk 153) 10 = none := by decide +kernel
theorem i153_12 : decode (mCd 153) 12 = .ok (.iload 4, 2) ∧ lk (mMsk 153) 12 = some [true, true, true, true, true] := by decide +kernel
theorem i153_14 : decode (mCd 153) 14 = .ok (.bipush 20, 2) ∧ lk (mMsk 153) 14 = none := by decide +kernel
theorem i153_16 : decode (mCd 153) 16 = .ok (.if_icmp .gt 40, 3) ∧ lk (mMsk 153) 16 = none := by decide +kernel
theorem i153_56 : decode (mCd 153) 56 = .ok (.aload_n 0, 1) ∧ lk (mMsk 153) 56 = some [true, true, true, true, false] := by decide +kernel
theorem i153_19 : decode (mCd 153) 19 = .ok (.iload_n 3, 1) ∧ lk (mMsk 153) 19 = none := by decide +kernel
theorem i153_20 : decode (mCd 153) 20 = .ok (.iconst (-1), 1) ∧ lk (mMsk 153) 20 = none := by decide +kernel
theorem i153_21 : decode (mCd 153) 21 = .ok (.if_icmp .ne 35, 3) ∧ lk (mMsk 153) 21 = none := by decide +kernel
theorem i153_24 : decode (mCd 153) 24 = .ok (.aload_n 0, 1) ∧ lk (mMsk 153) 24 = none := by decide +kernel
theorem i153_25 : decode (mCd 153) 25 = .ok (.getfield 29, 3) ∧ lk (mMsk 153) 25 = none := by decide +kernel
theorem i153_28 : decode (mCd 153) 28 = .ok (.iload_n 1, 1) ∧ lk (mMsk 153) 28 = none := by decide +kernel
theorem i153_29 : decode (mCd 153) 29 = .ok (.iload 4, 2) ∧ lk (mMsk 153) 29 = none := by decide +kernel
theorem i153_31 : decode (mCd 153) 31 = .ok (.iastore, 1) ∧ lk (mMsk 153) 31 = none := by decide +kernel
theorem i153_32 : decode (mCd 153) 32 = .ok (.aload_n 0, 1) ∧ lk (mMsk 153) 32 = none := by decide +kernel
theorem i153_33 : decode (mCd 153) 33 = .ok (.iconst 1, 1) ∧ lk (mMsk 153) 33 = none := by decide +kernel
theorem i153_34 : decode (mCd 153) 34 = .ok (.iload_n 1, 1) ∧ lk (mMsk 153) 34 = none := by decide +kernel
theorem i153_35 : decode (mCd 153) 35 = .ok (.ishl, 1) ∧ lk (mMsk 153) 35 = none := by decide +kernel
theorem i153_36 : decode (mCd 153) 36 = .ok (.invokevirtual 218, 3) ∧ lk (mMsk 153) 36 = none := by decide +kernel
theorem c153_218 : cvOk 153 218 141 1 0 = true := by decide +kernel
theorem i153_39 : decode (mCd 153) 39 = .ok (.iconst (-1), 1) ∧ lk (mMsk 153) 39 = none := by decide +kernel
theorem i153_40 : decode (mCd 153) 40 = .ok (.if_icmp .ne 8, 3) ∧ lk (mMsk 153) 40 = none := by decide +kernel
theorem i153_43 : decode (mCd 153) 43 = .ok (.iload 4, 2) ∧ lk (mMsk 153) 43 = none := by decide +kernel
theorem i153_45 : decode (mCd 153) 45 = .ok (.goto 4, 3) ∧ lk (mMsk 153) 45 = none := by decide +kernel
theorem i153_49 : decode (mCd 153) 49 = .ok (.istore_n 3, 1) ∧ lk (mMsk 153) 49 = some [true, true, true, false, true] := by decide +kernel
theorem i153_48 : decode (mCd 153) 48 = .ok (.iconst (-1), 1) ∧ lk (mMsk 153) 48 = none := by decide +kernel
theorem i153_50 : decode (mCd 153) 50 = .ok (.iinc 4 1, 3) ∧ lk (mMsk 153) 50 = none := by decide +kernel
theorem i153_53 : decode (mCd 153) 53 = .ok (.goto (-41), 3) ∧ lk (mMsk 153) 53 = none := by decide +kernel
theorem i153_57 : decode (mCd 153) 57 = .ok (.getfield 29, 3) ∧ lk (mMsk 153) 57 = none := by decide +kernel
theorem i153_60 : decode (mCd 153) 60 = .ok (.iload_n 1, 1) ∧ lk (mMsk 153) 60 = none := by decide +kernel
theorem i153_61 : decode (mCd 153) 61 = .ok (.iload_n 2, 1) ∧ lk (mMsk 153) 61 = none := by decide +kernel
theorem i153_62 : decode (mCd 153) 62 = .ok (.iastore, 1) ∧ lk (mMsk 153) 62 = none := by decide +kernel
theorem i153_63 : decode (mCd 153) 63 = .ok (.iload_n 3, 1) ∧ lk (mMsk 153) 63 = none := by decide +kernel
theorem i153_64 : decode (mCd 153) 64 = .ok (.ireturn, 1) ∧ lk (mMsk 153) 64 = none := by decide +kernel
theorem i154_0 : decode (mCd 154) 0 = .ok (.aload_n 0, 1) ∧ lk (mMsk 154) 0 = none := by decide +kernel
theorem i154_1 : decode (mCd 154) 1 = .ok (.iload_n 1, 1) ∧ lk (mMsk 154) 1 = none := by decide +kernel
theorem i154_2 : decode (mCd 154) 2 = .ok (.invokevirtual 168, 3) ∧ lk (mMsk 154) 2 = none := by decide +kernel
theorem c154_168 : cvOk 154 168 121 1 0 = true := by decide +kernel
theorem i154_5 : decode (mCd 154) 5 = .ok (.ifCond .eq 11, 3) ∧ lk (mMsk 154) 5 = none := by decide +kernel
theorem i154_16 : decode (mCd 154) 16 = .ok (.bipush (-101), 2) ∧ lk (mMsk 154) 16 = none := by decide +kernel
theorem i154_18 : decode (mCd 154) 18 = .ok (.ireturn, 1) ∧ lk (mMsk 154) 18 = some [false, false] := by decide +kernel
theorem i154_8 : decode (mCd 154) 8 = .ok (.aload_n 0, 1) ∧ lk (mMsk 154) 8 = none := by decide +kernel
theorem i154_9 : decode (mCd 154) 9 = .ok (.iload_n 1, 1) ∧ lk (mMsk 154) 9 = none := by decide +kernel
theorem i154_10 : decode (mCd 154) 10 = .ok (.invokevirtual 250, 3) ∧ lk (mMsk 154) 10 = none := by decide +kernel
theorem c154_250 : cvOk 154 250 153 1 0 = true := by decide +kernel
theorem i154_13 : decode (mCd 154) 13 = .ok (.goto 5, 3) ∧ lk (mMsk 154) 13 = none := by decide +kernel
theorem i155_0 : decode (mCd 155) 0 = .ok (.iconst 0, 1) ∧ lk (mMsk 155) 0 = none := by decide +kernel
theorem i155_1 : decode (mCd 155) 1 = .ok (.istore_n 1, 1) ∧ lk (mMsk 155) 1 = none := by decide +kernel
theorem i155_2 : decode (mCd 155) 2 = .ok (.iconst 0, 1) ∧ lk (mMsk 155) 2 = none := by decide +kernel
theorem i155_3 : decode (mCd 155) 3 = .ok (.istore_n 2, 1) ∧ lk (mMsk 155) 3 = none := by decide +kernel
theorem i155_4 : decode (mCd 155) 4 = .ok (.iload_n 2, 1) ∧ lk (mMsk 155) 4 = some [true, true, true] := by decide +kernel
theorem i155_5 : decode (mCd 155) 5 = .ok (.iconst 5, 1) ∧ lk (mMsk 155) 5 = none := by decide +kernel
theorem i155_6 : decode (mCd 155) 6 = .ok (.if_icmp .ge 17, 3) ∧ lk (mMsk 155) 6 = none := by decide +kernel
theorem i155_23 : decode (mCd 155) 23 = .ok (.iload_n 1, 1) ∧ lk (mMsk 155) 23 = none := by decide +kernel
theorem i155_24 : decode (mCd 155) 24 = .ok (.ireturn, 1) ∧ lk (mMsk 155) 24 = none := by decide +kernel
theorem i155_9 : decode (mCd 155) 9 = .ok (.iload_n 1, 1) ∧ lk (mMsk 155) 9 = none := by decide +kernel
theorem i155_10 : decode (mCd 155) 10 = .ok (.iload_n 0, 1) ∧ lk (mMsk 155) 10 = none := by decide +kernel
theorem i155_11 : decode (mCd 155) 11 = .ok (.iload_n 2, 1) ∧ lk (mMsk 155) 11 = none := by decide +kernel
theorem i155_12 : decode (mCd 155) 12 = .ok (.ishr, 1) ∧ lk (mMsk 155) 12 = none := by decide +kernel
theorem i155_13 : decode (mCd 155) 13 = .ok (.iconst 1, 1) ∧ lk (mMsk 155) 13 = none := by decide +kernel
theorem i155_14 : decode (mCd 155) 14 = .ok (.iand, 1) ∧ lk (mMsk 155) 14 = none := by decide +kernel
theorem i155_15 : decode (mCd 155) 15 = .ok (.iadd, 1) ∧ lk (mMsk 155) 15 = none := by decide +kernel
theorem i155_16 : decode (mCd 155) 16 = .ok (.istore_n 1, 1) ∧ lk (mMsk 155) 16 = none := by decide +kernel
theorem i155_17 : decode (mCd 155) 17 = .ok (.iinc 2 1, 3) ∧ lk (mMsk 155) 17 = none := by decide +kernel
theorem i155_20 : decode (mCd 155) 20 = .ok (.goto (-16), 3) ∧ lk (mMsk 155) 20 = none := by decide +kernel
theorem i156_0 : decode (mCd 156) 0 = .ok (.iconst 1, 1) ∧ lk (mMsk 156) 0 = none := by decide +kernel
theorem i156_1 : decode (mCd 156) 1 = .ok (.istore_n 3, 1) ∧ lk (mMsk 156) 1 = none := by decide +kernel
theorem i156_2 : decode (mCd 156) 2 = .ok (.iconst 0, 1) ∧ lk (mMsk 156) 2 = none := by decide +kernel
theorem i156_3 : decode (mCd 156) 3 = .ok (.istore 4, 2) ∧ lk (mMsk 156) 3 = none := by decide +kernel
theorem i156_5 : decode (mCd 156) 5 = .ok (.iload 4, 2) ∧ lk (mMsk 156) 5 = some [true, true, true, true, true, false, false, false] := by decide +kernel
theorem i156_7 : decode (mCd 156) 7 = .ok (.iconst 5, 1) ∧ lk (mMsk 156) 7 = none := by decide +kernel
theorem i156_8 : decode (mCd 156) 8 = .ok (.if_icmp .ge 41, 3) ∧ lk (mMsk 156) 8 = none := by decide +kernel
theorem i156_49 : decode (mCd 156) 49 = .ok (.iconst 0, 1) ∧ lk (mMsk 156) 49 = none := by decide +kernel
theorem i156_50 : decode (mCd 156) 50 = .ok (.istore 4, 2) ∧ lk (mMsk 156) 50 = none := by decide +kernel
theorem i156_52 : decode (mCd 156) 52 = .ok (.aload_n 0, 1) ∧ lk (mMsk 156) 52 = none := by decide +kernel
theorem i156_53 : decode (mCd 156) 53 = .ok (.iconst 0, 1) ∧ lk (mMsk 156) 53 = none := by decide +kernel
theorem i156_54 : decode (mCd 156) 54 = .ok (.putfield 253, 3) ∧ lk (mMsk 156) 54 = none := by decide +kernel
theorem p156_253 : pOk 156 253 9 40 = true := by decide +kernel
theorem i156_57 : decode (mCd 156) 57 = .ok (.iconst 0, 1) ∧ lk (mMsk 156) 57 = none := by decide +kernel
theorem i156_58 : decode (mCd 156) 58 = .ok (.istore 5, 2) ∧ lk (mMsk 156) 58 = none := by decide +kernel
theorem i156_60 : decode (mCd 156) 60 = .ok (.iload 5, 2) ∧ lk (mMsk 156) 60 = some [true, true, true, true, true, true, false, false] := by decide +kernel
theorem i156_11 : decode (mCd 156) 11 = .ok (.aload_n 0, 1) ∧ lk (mMsk 156) 11 = none := by decide +kernel
theorem i156_12 : decode (mCd 156) 12 = .ok (.getfield 66, 3) ∧ lk (mMsk 156) 12 = none := by decide +kernel
theorem g156_66 : fOk 156 66 9 34 = true := by decide +kernel
theorem i156_15 : decode (mCd 156) 15 = .ok (.iload 4, 2) ∧ lk (mMsk 156) 15 = none := by decide +kernel
theorem i156_17 : decode (mCd 156) 17 = .ok (.aload_n 0, 1) ∧ lk (mMsk 156) 17 = none := by decide +kernel
theorem i156_18 : decode (mCd 156) 18 = .ok (.getfield 29, 3) ∧ lk (mMsk 156) 18 = none := by decide +kernel
theorem g156_29 : fOk 156 29 9 11 = true := by decide +kernel
theorem i156_21 : decode (mCd 156) 21 = .ok (.iload 4, 2) ∧ lk (mMsk 156) 21 = none := by decide +kernel
theorem i156_23 : decode (mCd 156) 23 = .ok (.iaload, 1) ∧ lk (mMsk 156) 23 = none := by decide +kernel
theorem i156_24 : decode (mCd 156) 24 = .ok (.iastore, 1) ∧ lk (mMsk 156) 24 = none := by decide +kernel
theorem i156_25 : decode (mCd 156) 25 = .ok (.iload_n 3, 1) ∧ lk (mMsk 156) 25 = none := by decide +kernel
theorem i156_26 : decode (mCd 156) 26 = .ok (.iload_n 1, 1) ∧ lk (mMsk 156) 26 = none := by decide +kernel
theorem i156_27 : decode (mCd 156) 27 = .ok (.iload 4, 2) ∧ lk (mMsk 156) 27 = none := by decide +kernel
theorem i156_29 : decode (mCd 156) 29 = .ok (.invokestatic 196, 3) ∧ lk (mMsk 156) 29 = none := by decide +kernel
theorem c156_196 : ciOk 156 196 108 2 0 = true := by decide +kernel
theorem i156_32 : decode (mCd 156) 32 = .ok (.ifCond .eq 8, 3) ∧ lk (mMsk 156) 32 = none := by decide +kernel
theorem i156_40 : decode (mCd 156) 40 = .ok (.iconst 1, 1) ∧ lk (mMsk 156) 40 = none := by decide +kernel
theorem i156_41 : decode (mCd 156) 41 = .ok (.imul, 1) ∧ lk (mMsk 156) 41 = some [true, true, true, false, true, false, false, false] := by decide +kernel
theorem i156_35 : decode (mCd 156) 35 = .ok (.bipush 10, 2) ∧ lk (mMsk 156) 35 = none := by decide +kernel
theorem i156_37 : decode (mCd 156) 37 = .ok (.goto 4, 3) ∧ lk (mMsk 156) 37 = none := by decide +kernel
theorem i156_42 : decode (mCd 156) 42 = .ok (.istore_n 3, 1) ∧ lk (mMsk 156) 42 = none := by decide +kernel
theorem i156_43 : decode (mCd 156) 43 = .ok (.iinc 4 1, 3) ∧ lk (mMsk 156) 43 = none := by decide +kernel
theorem i156_46 : decode (mCd 156) 46 = .ok (.goto (-41), 3) ∧ lk (mMsk 156) 46 = none := by decide +kernel
theorem i156_62 : decode (mCd 156) 62 = .ok (.iload_n 3, 1) ∧ lk (mMsk 156) 62 = none := by decide +kernel
theorem i156_63 : decode (mCd 156) 63 = .ok (.if_icmp .ge 113, 3) ∧ lk (mMsk 156) 63 = none := by decide +kernel
theorem i156_176 : decode (mCd 156) 176 = .ok (.iconst 0, 1) ∧ lk (mMsk 156) 176 = none := by decide +kernel
theorem i156_177 : decode (mCd 156) 177 = .ok (.istore 5, 2) ∧ lk (mMsk 156) 177 = none := by decide +kernel
theorem i156_179 : decode (mCd 156) 179 = .ok (.iload 5, 2) ∧ lk (mMsk 156) 179 = some [true, false, false, false, true, true, false, false] := by decide +kernel
theorem i156_66 : decode (mCd 156) 66 = .ok (.iload 5, 2) ∧ lk (mMsk 156) 66 = none := by decide +kernel
theorem i156_68 : decode (mCd 156) 68 = .ok (.istore 6, 2) ∧ lk (mMsk 156) 68 = none := by decide +kernel
theorem i156_70 : decode (mCd 156) 70 = .ok (.iconst 0, 1) ∧ lk (mMsk 156) 70 = none := by decide +kernel
theorem i156_71 : decode (mCd 156) 71 = .ok (.istore 7, 2) ∧ lk (mMsk 156) 71 = none := by decide +kernel
theorem i156_73 : decode (mCd 156) 73 = .ok (.iload 7, 2) ∧ lk (mMsk 156) 73 = some [true, true, true, true, true, true, true, true] := by decide +kernel
theorem i156_75 : decode (mCd 156) 75 = .ok (.aload_n 0, 1) ∧ lk (mMsk 156) 75 = none := by decide +kernel
theorem i156_76 : decode (mCd 156) 76 = .ok (.getfield 152, 3) ∧ lk (mMsk 156) 76 = none := by decide +kernel
theorem g156_152 : fOk 156 152 9 7 = true := by decide +kernel
theorem i156_79 : decode (mCd 156) 79 = .ok (.if_icmp .ge 61, 3) ∧ lk (mMsk 156) 79 = none := by decide +kernel
theorem i156_140 : decode (mCd 156) 140 = .ok (.aload_n 0, 1) ∧ lk (mMsk 156) 140 = none := by decide +kernel
theorem i156_141 : decode (mCd 156) 141 = .ok (.bipush 31, 2) ∧ lk (mMsk 156) 141 = none := by decide +kernel
theorem i156_143 : decode (mCd 156) 143 = .ok (.invokevirtual 218, 3) ∧ lk (mMsk 156) 143 = none := by decide +kernel
theorem c156_218 : cvOk 156 218 141 1 0 = true := by decide +kernel
theorem i156_146 : decode (mCd 156) 146 = .ok (.iconst (-1), 1) ∧ lk (mMsk 156) 146 = none := by decide +kernel
theorem i156_147 : decode (mCd 156) 147 = .ok (.if_icmp .ne 23, 3) ∧ lk (mMsk 156) 147 = none := by decide +kernel
theorem i156_150 : decode (mCd 156) 150 = .ok (.iinc 4 1, 3) ∧ lk (mMsk 156) 150 = none := by decide +kernel
theorem i156_153 : decode (mCd 156) 153 = .ok (.aload_n 0, 1) ∧ lk (mMsk 156) 153 = none := by decide +kernel
theorem i156_154 : decode (mCd 156) 154 = .ok (.dup, 1) ∧ lk (mMsk 156) 154 = none := by decide +kernel
theorem i156_155 : decode (mCd 156) 155 = .ok (.getfield 253, 3) ∧ lk (mMsk 156) 155 = none := by decide +kernel
theorem g156_253 : fOk 156 253 9 40 = true := by decide +kernel
theorem i156_158 : decode (mCd 156) 158 = .ok (.iconst 1, 1) ∧ lk (mMsk 156) 158 = none := by decide +kernel
theorem i156_159 : decode (mCd 156) 159 = .ok (.aload_n 0, 1) ∧ lk (mMsk 156) 159 = none := by decide +kernel
theorem i156_160 : decode (mCd 156) 160 = .ok (.getfield 29, 3) ∧ lk (mMsk 156) 160 = none := by decide +kernel
theorem i156_163 : decode (mCd 156) 163 = .ok (.iload_n 2, 1) ∧ lk (mMsk 156) 163 = none := by decide +kernel
theorem i156_164 : decode (mCd 156) 164 = .ok (.iaload, 1) ∧ lk (mMsk 156) 164 = none := by decide +kernel
theorem i156_165 : decode (mCd 156) 165 = .ok (.ishl, 1) ∧ lk (mMsk 156) 165 = none := by decide +kernel
theorem i156_166 : decode (mCd 156) 166 = .ok (.ior, 1) ∧ lk (mMsk 156) 166 = none := by decide +kernel
theorem i156_167 : decode (mCd 156) 167 = .ok (.putfield 253, 3) ∧ lk (mMsk 156) 167 = none := by decide +kernel
theorem i156_170 : decode (mCd 156) 170 = .ok (.iinc 5 1, 3) ∧ lk (mMsk 156) 170 = some [true, true, true, true, true, true, false, false] := by decide +kernel
theorem i156_82 : decode (mCd 156) 82 = .ok (.aload_n 0, 1) ∧ lk (mMsk 156) 82 = none := by decide +kernel
theorem i156_83 : decode (mCd 156) 83 = .ok (.getfield 29, 3) ∧ lk (mMsk 156) 83 = none := by decide +kernel
theorem i156_86 : decode (mCd 156) 86 = .ok (.iload 7, 2) ∧ lk (mMsk 156) 86 = none := by decide +kernel
theorem i156_88 : decode (mCd 156) 88 = .ok (.iload_n 1, 1) ∧ lk (mMsk 156) 88 = none := by decide +kernel
theorem i156_89 : decode (mCd 156) 89 = .ok (.iload 7, 2) ∧ lk (mMsk 156) 89 = none := by decide +kernel
theorem i156_91 : decode (mCd 156) 91 = .ok (.invokestatic 196, 3) ∧ lk (mMsk 156) 91 = none := by decide +kernel
theorem i156_94 : decode (mCd 156) 94 = .ok (.ifCond .eq 11, 3) ∧ lk (mMsk 156) 94 = none := by decide +kernel
theorem i156_105 : decode (mCd 156) 105 = .ok (.aload_n 0, 1) ∧ lk (mMsk 156) 105 = none := by decide +kernel
theorem i156_106 : decode (mCd 156) 106 = .ok (.getfield 29, 3) ∧ lk (mMsk 156) 106 = none := by decide +kernel
theorem i156_109 : decode (mCd 156) 109 = .ok (.iload 7, 2) ∧ lk (mMsk 156) 109 = none := by decide +kernel
theorem i156_111 : decode (mCd 156) 111 = .ok (.iaload, 1) ∧ lk (mMsk 156) 111 = none := by decide +kernel
theorem i156_112 : decode (mCd 156) 112 = .ok (.iastore, 1) ∧ lk (mMsk 156) 112 = some [true, true, true, true, true, true, true, true] := by decide +kernel
theorem i156_97 : decode (mCd 156) 97 = .ok (.iload 6, 2) ∧ lk (mMsk 156) 97 = none := by decide +kernel
theorem i156_99 : decode (mCd 156) 99 = .ok (.bipush 10, 2) ∧ lk (mMsk 156) 99 = none := by decide +kernel
theorem i156_101 : decode (mCd 156) 101 = .ok (.irem, 1) ∧ lk (mMsk 156) 101 = none := by decide +kernel
theorem i156_102 : decode (mCd 156) 102 = .ok (.goto 10, 3) ∧ lk (mMsk 156) 102 = none := by decide +kernel
theorem i156_113 : decode (mCd 156) 113 = .ok (.iload_n 1, 1) ∧ lk (mMsk 156) 113 = none := by decide +kernel
theorem i156_114 : decode (mCd 156) 114 = .ok (.iload 7, 2) ∧ lk (mMsk 156) 114 = none := by decide +kernel
theorem i156_116 : decode (mCd 156) 116 = .ok (.invokestatic 196, 3) ∧ lk (mMsk 156) 116 = none := by decide +kernel
theorem i156_119 : decode (mCd 156) 119 = .ok (.ifCond .eq 11, 3) ∧ lk (mMsk 156) 119 = none := by decide +kernel
theorem i156_130 : decode (mCd 156) 130 = .ok (.iload 6, 2) ∧ lk (mMsk 156) 130 = none := by decide +kernel
theorem i156_132 : decode (mCd 156) 132 = .ok (.istore 6, 2) ∧ lk (mMsk 156) 132 = some [true, true, true, true, true, true, false, true] := by decide +kernel
theorem i156_122 : decode (mCd 156) 122 = .ok (.iload 6, 2) ∧ lk (mMsk 156) 122 = none := by decide +kernel
theorem i156_124 : decode (mCd 156) 124 = .ok (.bipush 10, 2) ∧ lk (mMsk 156) 124 = none := by decide +kernel
theorem i156_126 : decode (mCd 156) 126 = .ok (.idiv, 1) ∧ lk (mMsk 156) 126 = none := by decide +kernel
theorem i156_127 : decode (mCd 156) 127 = .ok (.goto 5, 3) ∧ lk (mMsk 156) 127 = none := by decide +kernel
theorem i156_134 : decode (mCd 156) 134 = .ok (.iinc 7 1, 3) ∧ lk (mMsk 156) 134 = none := by decide +kernel
theorem i156_137 : decode (mCd 156) 137 = .ok (.goto (-64), 3) ∧ lk (mMsk 156) 137 = none := by decide +kernel
theorem i156_173 : decode (mCd 156) 173 = .ok (.goto (-113), 3) ∧ lk (mMsk 156) 173 = none := by decide +kernel
theorem i156_181 : decode (mCd 156) 181 = .ok (.iconst 5, 1) ∧ lk (mMsk 156) 181 = none := by decide +kernel
theorem i156_182 : decode (mCd 156) 182 = .ok (.if_icmp .ge 23, 3) ∧ lk (mMsk 156) 182 = none := by decide +kernel
theorem i156_205 : decode (mCd 156) 205 = .ok (.iload 4, 2) ∧ lk (mMsk 156) 205 = none := by decide +kernel
theorem i156_207 : decode (mCd 156) 207 = .ok (.ireturn, 1) ∧ lk (mMsk 156) 207 = none := by decide +kernel
theorem i156_185 : decode (mCd 156) 185 = .ok (.aload_n 0, 1) ∧ lk (mMsk 156) 185 = none := by decide +kernel
theorem i156_186 : decode (mCd 156) 186 = .ok (.getfield 29, 3) ∧ lk (mMsk 156) 186 = none := by decide +kernel
theorem i156_189 : decode (mCd 156) 189 = .ok (.iload 5, 2) ∧ lk (mMsk 156) 189 = none := by decide +kernel
theorem i156_191 : decode (mCd 156) 191 = .ok (.aload_n 0, 1) ∧ lk (mMsk 156) 191 = none := by decide +kernel
theorem i156_192 : decode (mCd 156) 192 = .ok (.getfield 66, 3) ∧ lk (mMsk 156) 192 = none := by decide +kernel
theorem i156_195 : decode (mCd 156) 195 = .ok (.iload 5, 2) ∧ lk (mMsk 156) 195 = none := by decide +kernel
theorem i156_197 : decode (mCd 156) 197 = .ok (.iaload, 1) ∧ lk (mMsk 156) 197 = none := by decide +kernel
theorem i156_198 : decode (mCd 156) 198 = .ok (.iastore, 1) ∧ lk (mMsk 156) 198 = none := by decide +kernel
theorem i156_199 : decode (mCd 156) 199 = .ok (.iinc 5 1, 3) ∧ lk (mMsk 156) 199 = none := by decide +kernel
theorem i156_202 : decode (mCd 156) 202 = .ok (.goto (-23), 3) ∧ lk (mMsk 156) 202 = none := by decide +kernel
theorem i157_0 : decode (mCd 157) 0 = .ok (.iload_n 1, 1) ∧ lk (mMsk 157) 0 = none := by decide +kernel
theorem i157_1 : decode (mCd 157) 1 = .ok (.iconst 0, 1) ∧ lk (mMsk 157) 1 = none := by decide +kernel
theorem i157_2 : decode (mCd 157) 2 = .ok (.iconst 1, 1) ∧ lk (mMsk 157) 2 = none := by decide +kernel
theorem i157_3 : decode (mCd 157) 3 = .ok (.aload_n 0, 1) ∧ lk (mMsk 157) 3 = none := by decide +kernel
theorem i157_4 : decode (mCd 157) 4 = .ok (.getfield 152, 3) ∧ lk (mMsk 157) 4 = none := by decide +kernel
theorem g157_152 : fOk 157 152 9 7 = true := by decide +kernel
theorem i157_7 : decode (mCd 157) 7 = .ok (.ishl, 1) ∧ lk (mMsk 157) 7 = none := by decide +kernel
theorem i157_8 : decode (mCd 157) 8 = .ok (.iconst 1, 1) ∧ lk (mMsk 157) 8 = none := by decide +kernel
theorem i157_9 : decode (mCd 157) 9 = .ok (.isub, 1) ∧ lk (mMsk 157) 9 = none := by decide +kernel
theorem i157_10 : decode (mCd 157) 10 = .ok (.invokestatic 105, 3) ∧ lk (mMsk 157) 10 = none := by decide +kernel
theorem c157_105 : ciOk 157 105 107 3 0 = true := by decide +kernel
theorem i157_13 : decode (mCd 157) 13 = .ok (.ifCond .eq 15, 3) ∧ lk (mMsk 157) 13 = none := by decide +kernel
theorem i157_28 : decode (mCd 157) 28 = .ok (.iconst 0, 1) ∧ lk (mMsk 157) 28 = some [false, false] := by decide +kernel
theorem i157_16 : decode (mCd 157) 16 = .ok (.iload_n 1, 1) ∧ lk (mMsk 157) 16 = none := by decide +kernel
theorem i157_17 : decode (mCd 157) 17 = .ok (.invokestatic 256, 3) ∧ lk (mMsk 157) 17 = none := by decide +kernel
theorem c157_256 : ciOk 157 256 155 1 0 = true := by decide +kernel
theorem i157_20 : decode (mCd 157) 20 = .ok (.iconst 4, 1) ∧ lk (mMsk 157) 20 = none := by decide +kernel
theorem i157_21 : decode (mCd 157) 21 = .ok (.if_icmp .ge 7, 3) ∧ lk (mMsk 157) 21 = none := by decide +kernel
theorem i157_24 : decode (mCd 157) 24 = .ok (.iconst 1, 1) ∧ lk (mMsk 157) 24 = none := by decide +kernel
theorem i157_25 : decode (mCd 157) 25 = .ok (.goto 4, 3) ∧ lk (mMsk 157) 25 = none := by decide +kernel
theorem i157_29 : decode (mCd 157) 29 = .ok (.ireturn, 1) ∧ lk (mMsk 157) 29 = some [false, false] := by decide +kernel
theorem i158_0 : decode (mCd 158) 0 = .ok (.aload_n 0, 1) ∧ lk (mMsk 158) 0 = none := by decide +kernel
theorem i158_1 : decode (mCd 158) 1 = .ok (.iload_n 1, 1) ∧ lk (mMsk 158) 1 = none := by decide +kernel
theorem i158_2 : decode (mCd 158) 2 = .ok (.invokevirtual 259, 3) ∧ lk (mMsk 158) 2 = none := by decide +kernel
theorem c158_259 : cvOk 158 259 157 1 0 = true := by decide +kernel
theorem i158_5 : decode (mCd 158) 5 = .ok (.ifCond .eq 12, 3) ∧ lk (mMsk 158) 5 = none := by decide +kernel
theorem i158_17 : decode (mCd 158) 17 = .ok (.bipush (-102), 2) ∧ lk (mMsk 158) 17 = none := by decide +kernel
theorem i158_19 : decode (mCd 158) 19 = .ok (.ireturn, 1) ∧ lk (mMsk 158) 19 = some [false, false] := by decide +kernel
theorem i158_8 : decode (mCd 158) 8 = .ok (.aload_n 0, 1) ∧ lk (mMsk 158) 8 = none := by decide +kernel
theorem i158_9 : decode (mCd 158) 9 = .ok (.iload_n 1, 1) ∧ lk (mMsk 158) 9 = none := by decide +kernel
theorem i158_10 : decode (mCd 158) 10 = .ok (.iconst 0, 1) ∧ lk (mMsk 158) 10 = none := by decide +kernel
theorem i158_11 : decode (mCd 158) 11 = .ok (.invokevirtual 262, 3) ∧ lk (mMsk 158) 11 = none := by decide +kernel
theorem c158_262 : cvOk 158 262 156 2 0 = true := by decide +kernel
theorem i158_14 : decode (mCd 158) 14 = .ok (.goto 5, 3) ∧ lk (mMsk 158) 14 = none := by decide +kernel
theorem i159_0 : decode (mCd 159) 0 = .ok (.aload_n 0, 1) ∧ lk (mMsk 159) 0 = none := by decide +kernel
theorem i159_1 : decode (mCd 159) 1 = .ok (.iload_n 2, 1) ∧ lk (mMsk 159) 1 = none := by decide +kernel
theorem i159_2 : decode (mCd 159) 2 = .ok (.iload_n 1, 1) ∧ lk (mMsk 159) 2 = none := by decide +kernel
theorem i159_3 : decode (mCd 159) 3 = .ok (.invokevirtual 262, 3) ∧ lk (mMsk 159) 3 = none := by decide +kernel
theorem c159_262 : cvOk 159 262 156 2 0 = true := by decide +kernel
theorem i159_6 : decode (mCd 159) 6 = .ok (.pop, 1) ∧ lk (mMsk 159) 6 = none := by decide +kernel
theorem i159_7 : decode (mCd 159) 7 = .ok (.iconst 0, 1) ∧ lk (mMsk 159) 7 = none := by decide +kernel
theorem i159_8 : decode (mCd 159) 8 = .ok (.istore_n 3, 1) ∧ lk (mMsk 159) 8 = none := by decide +kernel
theorem i159_9 : decode (mCd 159) 9 = .ok (.iload_n 3, 1) ∧ lk (mMsk 159) 9 = some [true, true, true, true] := by decide +kernel
theorem i159_10 : decode (mCd 159) 10 = .ok (.bipush 10, 2) ∧ lk (mMsk 159) 10 = none := by decide +kernel
theorem i159_12 : decode (mCd 159) 12 = .ok (.if_icmp .ge 29, 3) ∧ lk (mMsk 159) 12 = none := by decide +kernel
theorem i159_41 : decode (mCd 159) 41 = .ok (.iconst (-1), 1) ∧ lk (mMsk 159) 41 = none := by decide +kernel
theorem i159_42 : decode (mCd 159) 42 = .ok (.ireturn, 1) ∧ lk (mMsk 159) 42 = none := by decide +kernel
theorem i159_15 : decode (mCd 159) 15 = .ok (.aload_n 0, 1) ∧ lk (mMsk 159) 15 = none := by decide +kernel
theorem i159_16 : decode (mCd 159) 16 = .ok (.getfield 253, 3) ∧ lk (mMsk 159) 16 = none := by decide +kernel
theorem g159_253 : fOk 159 253 9 40 = true := by decide +kernel
theorem i159_19 : decode (mCd 159) 19 = .ok (.iconst 1, 1) ∧ lk (mMsk 159) 19 = none := by decide +kernel
theorem i159_20 : decode (mCd 159) 20 = .ok (.iload_n 3, 1) ∧ lk (mMsk 159) 20 = none := by decide +kernel
theorem i159_21 : decode (mCd 159) 21 = .ok (.ishl, 1) ∧ lk (mMsk 159) 21 = none := by decide +kernel
theorem i159_22 : decode (mCd 159) 22 = .ok (.if_icmp .ne 13, 3) ∧ lk (mMsk 159) 22 = none := by decide +kernel
theorem i159_25 : decode (mCd 159) 25 = .ok (.iload_n 2, 1) ∧ lk (mMsk 159) 25 = none := by decide +kernel
theorem i159_26 : decode (mCd 159) 26 = .ok (.iload_n 1, 1) ∧ lk (mMsk 159) 26 = none := by decide +kernel
theorem i159_27 : decode (mCd 159) 27 = .ok (.invokestatic 196, 3) ∧ lk (mMsk 159) 27 = none := by decide +kernel
theorem c159_196 : ciOk 159 196 108 2 0 = true := by decide +kernel
theorem i159_30 : decode (mCd 159) 30 = .ok (.ifCond .eq 5, 3) ∧ lk (mMsk 159) 30 = none := by decide +kernel
theorem i159_35 : decode (mCd 159) 35 = .ok (.iinc 3 1, 3) ∧ lk (mMsk 159) 35 = some [true, true, true, true] := by decide +kernel
theorem i159_33 : decode (mCd 159) 33 = .ok (.iload_n 3, 1) ∧ lk (mMsk 159) 33 = none := by decide +kernel
theorem i159_34 : decode (mCd 159) 34 = .ok (.ireturn, 1) ∧ lk (mMsk 159) 34 = none := by decide +kernel
theorem i159_38 : decode (mCd 159) 38 = .ok (.goto (-29), 3) ∧ lk (mMsk 159) 38 = none := by decide +kernel
theorem i160_0 : decode (mCd 160) 0 = .ok (.aload_n 0, 1) ∧ lk (mMsk 160) 0 = none := by decide +kernel
theorem i160_1 : decode (mCd 160) 1 = .ok (.iload_n 1, 1) ∧ lk (mMsk 160) 1 = none := by decide +kernel
theorem i160_2 : decode (mCd 160) 2 = .ok (.invokevirtual 168, 3) ∧ lk (mMsk 160) 2 = none := by decide +kernel
theorem c160_168 : cvOk 160 168 121 1 0 = true := by decide +kernel
theorem i160_5 : decode (mCd 160) 5 = .ok (.ifCond .ne 6, 3) ∧ lk (mMsk 160) 5 = none := by decide +kernel
theorem i160_8 : decode (mCd 160) 8 = .ok (.bipush (-101), 2) ∧ lk (mMsk 160) 8 = none := by decide +kernel
theorem i160_10 : decode (mCd 160) 10 = .ok (.ireturn, 1) ∧ lk (mMsk 160) 10 = none := by decide +kernel
theorem i160_11 : decode (mCd 160) 11 = .ok (.aload_n 0, 1) ∧ lk (mMsk 160) 11 = none := by decide +kernel
theorem i160_12 : decode (mCd 160) 12 = .ok (.iload_n 2, 1) ∧ lk (mMsk 160) 12 = none := by decide +kernel
theorem i160_13 : decode (mCd 160) 13 = .ok (.invokevirtual 259, 3) ∧ lk (mMsk 160) 13 = none := by decide +kernel
theorem c160_259 : cvOk 160 259 157 1 0 = true := by decide +kernel
theorem i160_16 : decode (mCd 160) 16 = .ok (.ifCond .eq 12, 3) ∧ lk (mMsk 160) 16 = none := by decide +kernel
theorem i160_28 : decode (mCd 160) 28 = .ok (.bipush (-102), 2) ∧ lk (mMsk 160) 28 = none := by decide +kernel
theorem i160_30 : decode (mCd 160) 30 = .ok (.ireturn, 1) ∧ lk (mMsk 160) 30 = some [false, false, false] := by decide +kernel
theorem i160_19 : decode (mCd 160) 19 = .ok (.aload_n 0, 1) ∧ lk (mMsk 160) 19 = none := by decide +kernel
theorem i160_20 : decode (mCd 160) 20 = .ok (.iload_n 1, 1) ∧ lk (mMsk 160) 20 = none := by decide +kernel
theorem i160_21 : decode (mCd 160) 21 = .ok (.iload_n 2, 1) ∧ lk (mMsk 160) 21 = none := by decide +kernel
theorem i160_22 : decode (mCd 160) 22 = .ok (.invokevirtual 265, 3) ∧ lk (mMsk 160) 22 = none := by decide +kernel
theorem c160_265 : cvOk 160 265 159 2 0 = true := by decide +kernel
theorem i160_25 : decode (mCd 160) 25 = .ok (.goto 5, 3) ∧ lk (mMsk 160) 25 = none := by decide +kernel
theorem i161_0 : decode (mCd 161) 0 = .ok (.aload_n 0, 1) ∧ lk (mMsk 161) 0 = none := by decide +kernel
theorem i161_1 : decode (mCd 161) 1 = .ok (.ldc2_w 268, 3) ∧ lk (mMsk 161) 1 = none := by decide +kernel
theorem q161_268 : lk (mKt (mOwn 161)) 268 = some (.inr 1103515245) := by decide +kernel
theorem i161_4 : decode (mCd 161) 4 = .ok (.aload_n 0, 1) ∧ lk (mMsk 161) 4 = none := by decide +kernel
theorem i161_5 : decode (mCd 161) 5 = .ok (.getfield 270, 3) ∧ lk (mMsk 161) 5 = none := by decide +kernel
theorem g161_270 : fOk 161 270 9 41 = true := by decide +kernel
theorem i161_8 : decode (mCd 161) 8 = .ok (.lmul, 1) ∧ lk (mMsk 161) 8 = none := by decide +kernel
theorem i161_9 : decode (mCd 161) 9 = .ok (.ldc2_w 274, 3) ∧ lk (mMsk 161) 9 = none := by decide +kernel
theorem q161_274 : lk (mKt (mOwn 161)) 274 = some (.inr 12345) := by decide +kernel
theorem i161_12 : decode (mCd 161) 12 = .ok (.ladd, 1) ∧ lk (mMsk 161) 12 = none := by decide +kernel
theorem i161_13 : decode (mCd 161) 13 = .ok (.ldc2_w 276, 3) ∧ lk (mMsk 161) 13 = none := by decide +kernel
theorem q161_276 : lk (mKt (mOwn 161)) 276 = some (.inr 2147483647) := by decide +kernel
theorem i161_16 : decode (mCd 161) 16 = .ok (.land, 1) ∧ lk (mMsk 161) 16 = none := by decide +kernel
theorem i161_17 : decode (mCd 161) 17 = .ok (.putfield 270, 3) ∧ lk (mMsk 161) 17 = none := by decide +kernel
theorem p161_270 : pOk 161 270 9 41 = true := by decide +kernel
theorem i161_20 : decode (mCd 161) 20 = .ok (.aload_n 0, 1) ∧ lk (mMsk 161) 20 = none := by decide +kernel
theorem i161_21 : decode (mCd 161) 21 = .ok (.getfield 270, 3) ∧ lk (mMsk 161) 21 = none := by decide +kernel
theorem i161_24 : decode (mCd 161) 24 = .ok (.ldc2_w 278, 3) ∧ lk (mMsk 161) 24 = none := by decide +kernel
theorem q161_278 : lk (mKt (mOwn 161)) 278 = some (.inr 65536) := by decide +kernel
theorem i161_27 : decode (mCd 161) 27 = .ok (.ldiv, 1) ∧ lk (mMsk 161) 27 = none := by decide +kernel
theorem i161_28 : decode (mCd 161) 28 = .ok (.iload_n 1, 1) ∧ lk (mMsk 161) 28 = none := by decide +kernel
theorem i161_29 : decode (mCd 161) 29 = .ok (.i2l, 1) ∧ lk (mMsk 161) 29 = none := by decide +kernel
theorem i161_30 : decode (mCd 161) 30 = .ok (.lrem, 1) ∧ lk (mMsk 161) 30 = none := by decide +kernel
theorem i161_31 : decode (mCd 161) 31 = .ok (.l2i, 1) ∧ lk (mMsk 161) 31 = none := by decide +kernel
theorem i161_32 : decode (mCd 161) 32 = .ok (.ireturn, 1) ∧ lk (mMsk 161) 32 = none := by decide +kernel
theorem i162_0 : decode (mCd 162) 0 = .ok (.iload_n 2, 1) ∧ lk (mMsk 162) 0 = none := by decide +kernel
theorem i162_1 : decode (mCd 162) 1 = .ok (.istore_n 3, 1) ∧ lk (mMsk 162) 1 = none := by decide +kernel
theorem i162_2 : decode (mCd 162) 2 = .ok (.iconst 0, 1) ∧ lk (mMsk 162) 2 = none := by decide +kernel
theorem i162_3 : decode (mCd 162) 3 = .ok (.istore 4, 2) ∧ lk (mMsk 162) 3 = none := by decide +kernel
theorem i162_5 : decode (mCd 162) 5 = .ok (.iload_n 1, 1) ∧ lk (mMsk 162) 5 = none := by decide +kernel
theorem i162_6 : decode (mCd 162) 6 = .ok (.istore 5, 2) ∧ lk (mMsk 162) 6 = none := by decide +kernel
theorem i162_8 : decode (mCd 162) 8 = .ok (.iload 4, 2) ∧ lk (mMsk 162) 8 = some [true, true, false, true, true, true] := by decide +kernel
theorem i162_10 : decode (mCd 162) 10 = .ok (.bipush 8, 2) ∧ lk (mMsk 162) 10 = none := by decide +kernel
theorem i162_12 : decode (mCd 162) 12 = .ok (.if_icmp .ge 45, 3) ∧ lk (mMsk 162) 12 = none := by decide +kernel
theorem i162_57 : decode (mCd 162) 57 = .ok (.iload 5, 2) ∧ lk (mMsk 162) 57 = some [false, false, false, false, false, true] := by decide +kernel
theorem i162_15 : decode (mCd 162) 15 = .ok (.iload_n 3, 1) ∧ lk (mMsk 162) 15 = none := by decide +kernel
theorem i162_16 : decode (mCd 162) 16 = .ok (.ifCond .le 41, 3) ∧ lk (mMsk 162) 16 = none := by decide +kernel
theorem i162_19 : decode (mCd 162) 19 = .ok (.iload_n 3, 1) ∧ lk (mMsk 162) 19 = none := by decide +kernel
theorem i162_20 : decode (mCd 162) 20 = .ok (.aload_n 0, 1) ∧ lk (mMsk 162) 20 = none := by decide +kernel
theorem i162_21 : decode (mCd 162) 21 = .ok (.iload_n 1, 1) ∧ lk (mMsk 162) 21 = none := by decide +kernel
theorem i162_22 : decode (mCd 162) 22 = .ok (.iload 4, 2) ∧ lk (mMsk 162) 22 = none := by decide +kernel
theorem i162_24 : decode (mCd 162) 24 = .ok (.invokevirtual 174, 3) ∧ lk (mMsk 162) 24 = none := by decide +kernel
theorem c162_174 : cvOk 162 174 120 2 0 = true := by decide +kernel
theorem i162_27 : decode (mCd 162) 27 = .ok (.iconst (-1), 1) ∧ lk (mMsk 162) 27 = none := by decide +kernel
theorem i162_28 : decode (mCd 162) 28 = .ok (.if_icmp .ne 7, 3) ∧ lk (mMsk 162) 28 = none := by decide +kernel
theorem i162_31 : decode (mCd 162) 31 = .ok (.iconst 0, 1) ∧ lk (mMsk 162) 31 = none := by decide +kernel
theorem i162_32 : decode (mCd 162) 32 = .ok (.goto 4, 3) ∧ lk (mMsk 162) 32 = none := by decide +kernel
theorem i162_36 : decode (mCd 162) 36 = .ok (.isub, 1) ∧ lk (mMsk 162) 36 = some [true, true, false, false, true, true] := by decide +kernel
theorem i162_35 : decode (mCd 162) 35 = .ok (.iconst 1, 1) ∧ lk (mMsk 162) 35 = none := by decide +kernel
theorem i162_37 : decode (mCd 162) 37 = .ok (.istore_n 3, 1) ∧ lk (mMsk 162) 37 = none := by decide +kernel
theorem i162_38 : decode (mCd 162) 38 = .ok (.iload_n 3, 1) ∧ lk (mMsk 162) 38 = none := by decide +kernel
theorem i162_39 : decode (mCd 162) 39 = .ok (.ifCond .ne 8, 3) ∧ lk (mMsk 162) 39 = none := by decide +kernel
theorem i162_42 : decode (mCd 162) 42 = .ok (.iload 4, 2) ∧ lk (mMsk 162) 42 = none := by decide +kernel
theorem i162_44 : decode (mCd 162) 44 = .ok (.goto 5, 3) ∧ lk (mMsk 162) 44 = none := by decide +kernel
theorem i162_49 : decode (mCd 162) 49 = .ok (.istore 5, 2) ∧ lk (mMsk 162) 49 = some [true, true, false, true, true, false] := by decide +kernel
theorem i162_47 : decode (mCd 162) 47 = .ok (.iload 5, 2) ∧ lk (mMsk 162) 47 = none := by decide +kernel
theorem i162_51 : decode (mCd 162) 51 = .ok (.iinc 4 1, 3) ∧ lk (mMsk 162) 51 = none := by decide +kernel
theorem i162_54 : decode (mCd 162) 54 = .ok (.goto (-46), 3) ∧ lk (mMsk 162) 54 = none := by decide +kernel
theorem i162_59 : decode (mCd 162) 59 = .ok (.ireturn, 1) ∧ lk (mMsk 162) 59 = none := by decide +kernel
theorem i163_0 : decode (mCd 163) 0 = .ok (.iconst 0, 1) ∧ lk (mMsk 163) 0 = none := by decide +kernel
theorem i163_1 : decode (mCd 163) 1 = .ok (.istore_n 2, 1) ∧ lk (mMsk 163) 1 = none := by decide +kernel
theorem i163_2 : decode (mCd 163) 2 = .ok (.iconst 0, 1) ∧ lk (mMsk 163) 2 = none := by decide +kernel
theorem i163_3 : decode (mCd 163) 3 = .ok (.istore_n 3, 1) ∧ lk (mMsk 163) 3 = none := by decide +kernel
theorem i163_4 : decode (mCd 163) 4 = .ok (.iload_n 3, 1) ∧ lk (mMsk 163) 4 = some [true, true, true, true] := by decide +kernel
theorem i163_5 : decode (mCd 163) 5 = .ok (.bipush 8, 2) ∧ lk (mMsk 163) 5 = none := by decide +kernel
theorem i163_7 : decode (mCd 163) 7 = .ok (.if_icmp .ge 27, 3) ∧ lk (mMsk 163) 7 = none := by decide +kernel
theorem i163_34 : decode (mCd 163) 34 = .ok (.iload_n 2, 1) ∧ lk (mMsk 163) 34 = none := by decide +kernel
theorem i163_35 : decode (mCd 163) 35 = .ok (.ireturn, 1) ∧ lk (mMsk 163) 35 = none := by decide +kernel
theorem i163_10 : decode (mCd 163) 10 = .ok (.iload_n 2, 1) ∧ lk (mMsk 163) 10 = none := by decide +kernel
theorem i163_11 : decode (mCd 163) 11 = .ok (.aload_n 0, 1) ∧ lk (mMsk 163) 11 = none := by decide +kernel
theorem i163_12 : decode (mCd 163) 12 = .ok (.iload_n 1, 1) ∧ lk (mMsk 163) 12 = none := by decide +kernel
theorem i163_13 : decode (mCd 163) 13 = .ok (.iload_n 3, 1) ∧ lk (mMsk 163) 13 = none := by decide +kernel
theorem i163_14 : decode (mCd 163) 14 = .ok (.invokevirtual 174, 3) ∧ lk (mMsk 163) 14 = none := by decide +kernel
theorem c163_174 : cvOk 163 174 120 2 0 = true := by decide +kernel
theorem i163_17 : decode (mCd 163) 17 = .ok (.iconst (-1), 1) ∧ lk (mMsk 163) 17 = none := by decide +kernel
theorem i163_18 : decode (mCd 163) 18 = .ok (.if_icmp .ne 7, 3) ∧ lk (mMsk 163) 18 = none := by decide +kernel
theorem i163_21 : decode (mCd 163) 21 = .ok (.iconst 0, 1) ∧ lk (mMsk 163) 21 = none := by decide +kernel
theorem i163_22 : decode (mCd 163) 22 = .ok (.goto 4, 3) ∧ lk (mMsk 163) 22 = none := by decide +kernel
theorem i163_26 : decode (mCd 163) 26 = .ok (.iadd, 1) ∧ lk (mMsk 163) 26 = some [true, true, false, true] := by decide +kernel
theorem i163_25 : decode (mCd 163) 25 = .ok (.iconst 1, 1) ∧ lk (mMsk 163) 25 = none := by decide +kernel
theorem i163_27 : decode (mCd 163) 27 = .ok (.istore_n 2, 1) ∧ lk (mMsk 163) 27 = none := by decide +kernel
theorem i163_28 : decode (mCd 163) 28 = .ok (.iinc 3 1, 3) ∧ lk (mMsk 163) 28 = none := by decide +kernel
theorem i163_31 : decode (mCd 163) 31 = .ok (.goto (-27), 3) ∧ lk (mMsk 163) 31 = none := by decide +kernel
theorem i164_0 : decode (mCd 164) 0 = .ok (.iconst 0, 1) ∧ lk (mMsk 164) 0 = none := by decide +kernel
theorem i164_1 : decode (mCd 164) 1 = .ok (.istore_n 1, 1) ∧ lk (mMsk 164) 1 = none := by decide +kernel
theorem i164_2 : decode (mCd 164) 2 = .ok (.iconst 0, 1) ∧ lk (mMsk 164) 2 = none := by decide +kernel
theorem i164_3 : decode (mCd 164) 3 = .ok (.istore_n 2, 1) ∧ lk (mMsk 164) 3 = none := by decide +kernel
theorem i164_4 : decode (mCd 164) 4 = .ok (.iload_n 2, 1) ∧ lk (mMsk 164) 4 = some [true, true, true] := by decide +kernel
theorem i164_5 : decode (mCd 164) 5 = .ok (.aload_n 0, 1) ∧ lk (mMsk 164) 5 = none := by decide +kernel
theorem i164_6 : decode (mCd 164) 6 = .ok (.getfield 152, 3) ∧ lk (mMsk 164) 6 = none := by decide +kernel
theorem g164_152 : fOk 164 152 9 7 = true := by decide +kernel
theorem i164_9 : decode (mCd 164) 9 = .ok (.if_icmp .ge 34, 3) ∧ lk (mMsk 164) 9 = none := by decide +kernel
theorem i164_43 : decode (mCd 164) 43 = .ok (.iload_n 1, 1) ∧ lk (mMsk 164) 43 = none := by decide +kernel
theorem i164_44 : decode (mCd 164) 44 = .ok (.ireturn, 1) ∧ lk (mMsk 164) 44 = none := by decide +kernel
theorem i164_12 : decode (mCd 164) 12 = .ok (.iload_n 1, 1) ∧ lk (mMsk 164) 12 = none := by decide +kernel
theorem i164_13 : decode (mCd 164) 13 = .ok (.aload_n 0, 1) ∧ lk (mMsk 164) 13 = none := by decide +kernel
theorem i164_14 : decode (mCd 164) 14 = .ok (.getfield 23, 3) ∧ lk (mMsk 164) 14 = none := by decide +kernel
theorem g164_23 : fOk 164 23 9 9 = true := by decide +kernel
theorem i164_17 : decode (mCd 164) 17 = .ok (.iload_n 2, 1) ∧ lk (mMsk 164) 17 = none := by decide +kernel
theorem i164_18 : decode (mCd 164) 18 = .ok (.iaload, 1) ∧ lk (mMsk 164) 18 = none := by decide +kernel
theorem i164_19 : decode (mCd 164) 19 = .ok (.aload_n 0, 1) ∧ lk (mMsk 164) 19 = none := by decide +kernel
theorem i164_20 : decode (mCd 164) 20 = .ok (.getfield 26, 3) ∧ lk (mMsk 164) 20 = none := by decide +kernel
theorem g164_26 : fOk 164 26 9 10 = true := by decide +kernel
theorem i164_23 : decode (mCd 164) 23 = .ok (.iload_n 2, 1) ∧ lk (mMsk 164) 23 = none := by decide +kernel
theorem i164_24 : decode (mCd 164) 24 = .ok (.iaload, 1) ∧ lk (mMsk 164) 24 = none := by decide +kernel
theorem i164_25 : decode (mCd 164) 25 = .ok (.if_icmp .ne 9, 3) ∧ lk (mMsk 164) 25 = none := by decide +kernel
theorem i164_28 : decode (mCd 164) 28 = .ok (.iconst 1, 1) ∧ lk (mMsk 164) 28 = none := by decide +kernel
theorem i164_29 : decode (mCd 164) 29 = .ok (.iload_n 2, 1) ∧ lk (mMsk 164) 29 = none := by decide +kernel
theorem i164_30 : decode (mCd 164) 30 = .ok (.ishl, 1) ∧ lk (mMsk 164) 30 = none := by decide +kernel
theorem i164_31 : decode (mCd 164) 31 = .ok (.goto 4, 3) ∧ lk (mMsk 164) 31 = none := by decide +kernel
theorem i164_35 : decode (mCd 164) 35 = .ok (.ior, 1) ∧ lk (mMsk 164) 35 = some [true, false, true] := by decide +kernel
theorem i164_34 : decode (mCd 164) 34 = .ok (.iconst 0, 1) ∧ lk (mMsk 164) 34 = none := by decide +kernel
theorem i164_36 : decode (mCd 164) 36 = .ok (.istore_n 1, 1) ∧ lk (mMsk 164) 36 = none := by decide +kernel
theorem i164_37 : decode (mCd 164) 37 = .ok (.iinc 2 1, 3) ∧ lk (mMsk 164) 37 = none := by decide +kernel
theorem i164_40 : decode (mCd 164) 40 = .ok (.goto (-36), 3) ∧ lk (mMsk 164) 40 = none := by decide +kernel
theorem i165_0 : decode (mCd 165) 0 = .ok (.aload_n 0, 1) ∧ lk (mMsk 165) 0 = none := by decide +kernel
theorem i165_1 : decode (mCd 165) 1 = .ok (.invokevirtual 202, 3) ∧ lk (mMsk 165) 1 = none := by decide +kernel
theorem c165_202 : cvOk 165 202 138 0 3 = true := by decide +kernel
theorem i165_4 : decode (mCd 165) 4 = .ok (.aload_n 0, 1) ∧ lk (mMsk 165) 4 = none := by decide +kernel
theorem i165_5 : decode (mCd 165) 5 = .ok (.iload_n 2, 1) ∧ lk (mMsk 165) 5 = none := by decide +kernel
theorem i165_6 : decode (mCd 165) 6 = .ok (.i2l, 1) ∧ lk (mMsk 165) 6 = none := by decide +kernel
theorem i165_7 : decode (mCd 165) 7 = .ok (.putfield 270, 3) ∧ lk (mMsk 165) 7 = none := by decide +kernel
theorem p165_270 : pOk 165 270 9 41 = true := by decide +kernel
theorem i165_10 : decode (mCd 165) 10 = .ok (.iconst 0, 1) ∧ lk (mMsk 165) 10 = none := by decide +kernel
theorem i165_11 : decode (mCd 165) 11 = .ok (.istore 4, 2) ∧ lk (mMsk 165) 11 = none := by decide +kernel
theorem i165_13 : decode (mCd 165) 13 = .ok (.iconst 0, 1) ∧ lk (mMsk 165) 13 = none := by decide +kernel
theorem i165_14 : decode (mCd 165) 14 = .ok (.istore 5, 2) ∧ lk (mMsk 165) 14 = none := by decide +kernel
theorem i165_16 : decode (mCd 165) 16 = .ok (.iload 5, 2) ∧ lk (mMsk 165) 16 = some [true, true, false, true, true, true, false] := by decide +kernel
theorem i165_18 : decode (mCd 165) 18 = .ok (.iload_n 1, 1) ∧ lk (mMsk 165) 18 = none := by decide +kernel
theorem i165_19 : decode (mCd 165) 19 = .ok (.if_icmp .ge 125, 3) ∧ lk (mMsk 165) 19 = none := by decide +kernel
theorem i165_144 : decode (mCd 165) 144 = .ok (.aload_n 0, 1) ∧ lk (mMsk 165) 144 = none := by decide +kernel
theorem i165_145 : decode (mCd 165) 145 = .ok (.invokevirtual 289, 3) ∧ lk (mMsk 165) 145 = none := by decide +kernel
theorem c165_289 : cvOk 165 289 164 0 0 = true := by decide +kernel
theorem i165_148 : decode (mCd 165) 148 = .ok (.istore 5, 2) ∧ lk (mMsk 165) 148 = none := by decide +kernel
theorem i165_150 : decode (mCd 165) 150 = .ok (.aload_n 0, 1) ∧ lk (mMsk 165) 150 = none := by decide +kernel
theorem i165_151 : decode (mCd 165) 151 = .ok (.invokevirtual 215, 3) ∧ lk (mMsk 165) 151 = none := by decide +kernel
theorem c165_215 : cvOk 165 215 139 0 3 = true := by decide +kernel
theorem i165_154 : decode (mCd 165) 154 = .ok (.iload_n 3, 1) ∧ lk (mMsk 165) 154 = none := by decide +kernel
theorem i165_155 : decode (mCd 165) 155 = .ok (.ifCond .ne 8, 3) ∧ lk (mMsk 165) 155 = none := by decide +kernel
theorem i165_158 : decode (mCd 165) 158 = .ok (.iload 4, 2) ∧ lk (mMsk 165) 158 = none := by decide +kernel
theorem i165_160 : decode (mCd 165) 160 = .ok (.goto 18, 3) ∧ lk (mMsk 165) 160 = none := by decide +kernel
theorem i165_178 : decode (mCd 165) 178 = .ok (.ireturn, 1) ∧ lk (mMsk 165) 178 = some [false, false, false, false, false, false, false] := by decide +kernel
theorem i165_163 : decode (mCd 165) 163 = .ok (.iload_n 3, 1) ∧ lk (mMsk 165) 163 = none := by decide +kernel
theorem i165_164 : decode (mCd 165) 164 = .ok (.iconst 1, 1) ∧ lk (mMsk 165) 164 = none := by decide +kernel
theorem i165_165 : decode (mCd 165) 165 = .ok (.if_icmp .ne 8, 3) ∧ lk (mMsk 165) 165 = none := by decide +kernel
theorem i165_168 : decode (mCd 165) 168 = .ok (.iload 5, 2) ∧ lk (mMsk 165) 168 = none := by decide +kernel
theorem i165_170 : decode (mCd 165) 170 = .ok (.goto 8, 3) ∧ lk (mMsk 165) 170 = none := by decide +kernel
theorem i165_173 : decode (mCd 165) 173 = .ok (.aload_n 0, 1) ∧ lk (mMsk 165) 173 = none := by decide +kernel
theorem i165_174 : decode (mCd 165) 174 = .ok (.getfield 270, 3) ∧ lk (mMsk 165) 174 = none := by decide +kernel
theorem g165_270 : fOk 165 270 9 41 = true := by decide +kernel
theorem i165_177 : decode (mCd 165) 177 = .ok (.l2i, 1) ∧ lk (mMsk 165) 177 = none := by decide +kernel
theorem i165_22 : decode (mCd 165) 22 = .ok (.iconst 0, 1) ∧ lk (mMsk 165) 22 = none := by decide +kernel
theorem i165_23 : decode (mCd 165) 23 = .ok (.istore 6, 2) ∧ lk (mMsk 165) 23 = none := by decide +kernel
theorem i165_25 : decode (mCd 165) 25 = .ok (.iload 6, 2) ∧ lk (mMsk 165) 25 = some [true, true, false, true, true, true, true] := by decide +kernel
theorem i165_27 : decode (mCd 165) 27 = .ok (.aload_n 0, 1) ∧ lk (mMsk 165) 27 = none := by decide +kernel
theorem i165_28 : decode (mCd 165) 28 = .ok (.getfield 152, 3) ∧ lk (mMsk 165) 28 = none := by decide +kernel
theorem g165_152 : fOk 165 152 9 7 = true := by decide +kernel
theorem i165_31 : decode (mCd 165) 31 = .ok (.if_icmp .ge 44, 3) ∧ lk (mMsk 165) 31 = none := by decide +kernel
theorem i165_75 : decode (mCd 165) 75 = .ok (.iload 4, 2) ∧ lk (mMsk 165) 75 = none := by decide +kernel
theorem i165_77 : decode (mCd 165) 77 = .ok (.aload_n 0, 1) ∧ lk (mMsk 165) 77 = none := by decide +kernel
theorem i165_78 : decode (mCd 165) 78 = .ok (.invokevirtual 192, 3) ∧ lk (mMsk 165) 78 = none := by decide +kernel
theorem c165_192 : cvOk 165 192 135 0 0 = true := by decide +kernel
theorem i165_81 : decode (mCd 165) 81 = .ok (.iadd, 1) ∧ lk (mMsk 165) 81 = none := by decide +kernel
theorem i165_82 : decode (mCd 165) 82 = .ok (.istore 4, 2) ∧ lk (mMsk 165) 82 = none := by decide +kernel
theorem i165_84 : decode (mCd 165) 84 = .ok (.iconst 0, 1) ∧ lk (mMsk 165) 84 = none := by decide +kernel
theorem i165_85 : decode (mCd 165) 85 = .ok (.istore 6, 2) ∧ lk (mMsk 165) 85 = none := by decide +kernel
theorem i165_87 : decode (mCd 165) 87 = .ok (.iload 6, 2) ∧ lk (mMsk 165) 87 = some [true, true, false, true, true, true, true] := by decide +kernel
theorem i165_34 : decode (mCd 165) 34 = .ok (.aload_n 0, 1) ∧ lk (mMsk 165) 34 = none := by decide +kernel
theorem i165_35 : decode (mCd 165) 35 = .ok (.getfield 57, 3) ∧ lk (mMsk 165) 35 = none := by decide +kernel
theorem g165_57 : fOk 165 57 9 28 = true := by decide +kernel
theorem i165_38 : decode (mCd 165) 38 = .ok (.iload 6, 2) ∧ lk (mMsk 165) 38 = none := by decide +kernel
theorem i165_40 : decode (mCd 165) 40 = .ok (.aload_n 0, 1) ∧ lk (mMsk 165) 40 = none := by decide +kernel
theorem i165_41 : decode (mCd 165) 41 = .ok (.aload_n 0, 1) ∧ lk (mMsk 165) 41 = none := by decide +kernel
theorem i165_42 : decode (mCd 165) 42 = .ok (.getfield 23, 3) ∧ lk (mMsk 165) 42 = none := by decide +kernel
theorem g165_23 : fOk 165 23 9 9 = true := by decide +kernel
theorem i165_45 : decode (mCd 165) 45 = .ok (.iload 6, 2) ∧ lk (mMsk 165) 45 = none := by decide +kernel
theorem i165_47 : decode (mCd 165) 47 = .ok (.iaload, 1) ∧ lk (mMsk 165) 47 = none := by decide +kernel
theorem i165_48 : decode (mCd 165) 48 = .ok (.aload_n 0, 1) ∧ lk (mMsk 165) 48 = none := by decide +kernel
theorem i165_49 : decode (mCd 165) 49 = .ok (.aload_n 0, 1) ∧ lk (mMsk 165) 49 = none := by decide +kernel
theorem i165_50 : decode (mCd 165) 50 = .ok (.aload_n 0, 1) ∧ lk (mMsk 165) 50 = none := by decide +kernel
theorem i165_51 : decode (mCd 165) 51 = .ok (.getfield 23, 3) ∧ lk (mMsk 165) 51 = none := by decide +kernel
theorem i165_54 : decode (mCd 165) 54 = .ok (.iload 6, 2) ∧ lk (mMsk 165) 54 = none := by decide +kernel
theorem i165_56 : decode (mCd 165) 56 = .ok (.iaload, 1) ∧ lk (mMsk 165) 56 = none := by decide +kernel
theorem i165_57 : decode (mCd 165) 57 = .ok (.invokevirtual 280, 3) ∧ lk (mMsk 165) 57 = none := by decide +kernel
theorem c165_280 : cvOk 165 280 163 1 0 = true := by decide +kernel
theorem i165_60 : decode (mCd 165) 60 = .ok (.iconst 1, 1) ∧ lk (mMsk 165) 60 = none := by decide +kernel
theorem i165_61 : decode (mCd 165) 61 = .ok (.iadd, 1) ∧ lk (mMsk 165) 61 = none := by decide +kernel
theorem i165_62 : decode (mCd 165) 62 = .ok (.invokevirtual 283, 3) ∧ lk (mMsk 165) 62 = none := by decide +kernel
theorem c165_283 : cvOk 165 283 161 1 0 = true := by decide +kernel
theorem i165_65 : decode (mCd 165) 65 = .ok (.invokevirtual 286, 3) ∧ lk (mMsk 165) 65 = none := by decide +kernel
theorem c165_286 : cvOk 165 286 162 2 0 = true := by decide +kernel
theorem i165_68 : decode (mCd 165) 68 = .ok (.iastore, 1) ∧ lk (mMsk 165) 68 = none := by decide +kernel
theorem i165_69 : decode (mCd 165) 69 = .ok (.iinc 6 1, 3) ∧ lk (mMsk 165) 69 = none := by decide +kernel
theorem i165_72 : decode (mCd 165) 72 = .ok (.goto (-47), 3) ∧ lk (mMsk 165) 72 = none := by decide +kernel
theorem i165_89 : decode (mCd 165) 89 = .ok (.aload_n 0, 1) ∧ lk (mMsk 165) 89 = none := by decide +kernel
theorem i165_90 : decode (mCd 165) 90 = .ok (.getfield 152, 3) ∧ lk (mMsk 165) 90 = none := by decide +kernel
theorem i165_93 : decode (mCd 165) 93 = .ok (.if_icmp .ge 45, 3) ∧ lk (mMsk 165) 93 = none := by decide +kernel
theorem i165_138 : decode (mCd 165) 138 = .ok (.iinc 5 1, 3) ∧ lk (mMsk 165) 138 = none := by decide +kernel
theorem i165_141 : decode (mCd 165) 141 = .ok (.goto (-125), 3) ∧ lk (mMsk 165) 141 = none := by decide +kernel
theorem i165_96 : decode (mCd 165) 96 = .ok (.aload_n 0, 1) ∧ lk (mMsk 165) 96 = none := by decide +kernel
theorem i165_97 : decode (mCd 165) 97 = .ok (.getfield 23, 3) ∧ lk (mMsk 165) 97 = none := by decide +kernel
theorem i165_100 : decode (mCd 165) 100 = .ok (.iload 6, 2) ∧ lk (mMsk 165) 100 = none := by decide +kernel
theorem i165_102 : decode (mCd 165) 102 = .ok (.aload_n 0, 1) ∧ lk (mMsk 165) 102 = none := by decide +kernel
theorem i165_103 : decode (mCd 165) 103 = .ok (.getfield 180, 3) ∧ lk (mMsk 165) 103 = none := by decide +kernel
theorem g165_180 : fOk 165 180 9 29 = true := by decide +kernel
theorem i165_106 : decode (mCd 165) 106 = .ok (.iload 6, 2) ∧ lk (mMsk 165) 106 = none := by decide +kernel
theorem i165_108 : decode (mCd 165) 108 = .ok (.invokestatic 196, 3) ∧ lk (mMsk 165) 108 = none := by decide +kernel
theorem c165_196 : ciOk 165 196 108 2 0 = true := by decide +kernel
theorem i165_111 : decode (mCd 165) 111 = .ok (.ifCond .eq 13, 3) ∧ lk (mMsk 165) 111 = none := by decide +kernel
theorem i165_124 : decode (mCd 165) 124 = .ok (.aload_n 0, 1) ∧ lk (mMsk 165) 124 = none := by decide +kernel
theorem i165_125 : decode (mCd 165) 125 = .ok (.getfield 57, 3) ∧ lk (mMsk 165) 125 = none := by decide +kernel
theorem i165_128 : decode (mCd 165) 128 = .ok (.iload 6, 2) ∧ lk (mMsk 165) 128 = none := by decide +kernel
theorem i165_130 : decode (mCd 165) 130 = .ok (.iaload, 1) ∧ lk (mMsk 165) 130 = none := by decide +kernel
theorem i165_131 : decode (mCd 165) 131 = .ok (.iastore, 1) ∧ lk (mMsk 165) 131 = some [true, true, false, true, true, true, true] := by decide +kernel
theorem i165_114 : decode (mCd 165) 114 = .ok (.aload_n 0, 1) ∧ lk (mMsk 165) 114 = none := by decide +kernel
theorem i165_115 : decode (mCd 165) 115 = .ok (.getfield 23, 3) ∧ lk (mMsk 165) 115 = none := by decide +kernel
theorem i165_118 : decode (mCd 165) 118 = .ok (.iload 6, 2) ∧ lk (mMsk 165) 118 = none := by decide +kernel
theorem i165_120 : decode (mCd 165) 120 = .ok (.iaload, 1) ∧ lk (mMsk 165) 120 = none := by decide +kernel
theorem i165_121 : decode (mCd 165) 121 = .ok (.goto 10, 3) ∧ lk (mMsk 165) 121 = none := by decide +kernel
theorem i165_132 : decode (mCd 165) 132 = .ok (.iinc 6 1, 3) ∧ lk (mMsk 165) 132 = none := by decide +kernel
theorem i165_135 : decode (mCd 165) 135 = .ok (.goto (-48), 3) ∧ lk (mMsk 165) 135 = none := by decide +kernel
theorem i166_0 : decode (mCd 166) 0 = .ok (.iload_n 1, 1) ∧ lk (mMsk 166) 0 = none := by decide +kernel
theorem i166_1 : decode (mCd 166) 1 = .ok (.iconst 1, 1) ∧ lk (mMsk 166) 1 = none := by decide +kernel
theorem i166_2 : decode (mCd 166) 2 = .ok (.bipush 60, 2) ∧ lk (mMsk 166) 2 = none := by decide +kernel
theorem i166_4 : decode (mCd 166) 4 = .ok (.invokestatic 105, 3) ∧ lk (mMsk 166) 4 = none := by decide +kernel
theorem c166_105 : ciOk 166 105 107 3 0 = true := by decide +kernel
theorem i166_7 : decode (mCd 166) 7 = .ok (.ifCond .eq 16, 3) ∧ lk (mMsk 166) 7 = none := by decide +kernel
theorem i166_23 : decode (mCd 166) 23 = .ok (.bipush (-102), 2) ∧ lk (mMsk 166) 23 = some [false, false, false, false] := by decide +kernel
theorem i166_10 : decode (mCd 166) 10 = .ok (.iload_n 2, 1) ∧ lk (mMsk 166) 10 = none := by decide +kernel
theorem i166_11 : decode (mCd 166) 11 = .ok (.ifCond .lt 12, 3) ∧ lk (mMsk 166) 11 = none := by decide +kernel
theorem i166_14 : decode (mCd 166) 14 = .ok (.iload_n 3, 1) ∧ lk (mMsk 166) 14 = none := by decide +kernel
theorem i166_15 : decode (mCd 166) 15 = .ok (.iconst 0, 1) ∧ lk (mMsk 166) 15 = none := by decide +kernel
theorem i166_16 : decode (mCd 166) 16 = .ok (.iconst 2, 1) ∧ lk (mMsk 166) 16 = none := by decide +kernel
theorem i166_17 : decode (mCd 166) 17 = .ok (.invokestatic 105, 3) ∧ lk (mMsk 166) 17 = none := by decide +kernel
theorem i166_20 : decode (mCd 166) 20 = .ok (.ifCond .ne 6, 3) ∧ lk (mMsk 166) 20 = none := by decide +kernel
theorem i166_26 : decode (mCd 166) 26 = .ok (.aload_n 0, 1) ∧ lk (mMsk 166) 26 = none := by decide +kernel
theorem i166_27 : decode (mCd 166) 27 = .ok (.getfield 149, 3) ∧ lk (mMsk 166) 27 = none := by decide +kernel
theorem g166_149 : fOk 166 149 9 6 = true := by decide +kernel
theorem i166_30 : decode (mCd 166) 30 = .ok (.ifCond .ne 8, 3) ∧ lk (mMsk 166) 30 = none := by decide +kernel
theorem i166_33 : decode (mCd 166) 33 = .ok (.bipush (-103), 2) ∧ lk (mMsk 166) 33 = none := by decide +kernel
theorem i166_35 : decode (mCd 166) 35 = .ok (.goto 10, 3) ∧ lk (mMsk 166) 35 = none := by decide +kernel
theorem i166_45 : decode (mCd 166) 45 = .ok (.ireturn, 1) ∧ lk (mMsk 166) 45 = some [false, false, false, false] := by decide +kernel
theorem i166_38 : decode (mCd 166) 38 = .ok (.aload_n 0, 1) ∧ lk (mMsk 166) 38 = none := by decide +kernel
theorem i166_39 : decode (mCd 166) 39 = .ok (.iload_n 1, 1) ∧ lk (mMsk 166) 39 = none := by decide +kernel
theorem i166_40 : decode (mCd 166) 40 = .ok (.iload_n 2, 1) ∧ lk (mMsk 166) 40 = none := by decide +kernel
theorem i166_41 : decode (mCd 166) 41 = .ok (.iload_n 3, 1) ∧ lk (mMsk 166) 41 = none := by decide +kernel
theorem i166_42 : decode (mCd 166) 42 = .ok (.invokevirtual 292, 3) ∧ lk (mMsk 166) 42 = none := by decide +kernel
theorem c166_292 : cvOk 166 292 165 3 0 = true := by decide +kernel
theorem i166_25 : decode (mCd 166) 25 = .ok (.ireturn, 1) ∧ lk (mMsk 166) 25 = none := by decide +kernel
theorem i167_0 : decode (mCd 167) 0 = .ok (.aload_n 0, 1) ∧ lk (mMsk 167) 0 = none := by decide +kernel
theorem i167_1 : decode (mCd 167) 1 = .ok (.getfield 149, 3) ∧ lk (mMsk 167) 1 = none := by decide +kernel
theorem g167_149 : fOk 167 149 9 6 = true := by decide +kernel
theorem i167_4 : decode (mCd 167) 4 = .ok (.ifCond .ne 6, 3) ∧ lk (mMsk 167) 4 = none := by decide +kernel
theorem i167_7 : decode (mCd 167) 7 = .ok (.bipush (-103), 2) ∧ lk (mMsk 167) 7 = none := by decide +kernel
theorem i167_9 : decode (mCd 167) 9 = .ok (.ireturn, 1) ∧ lk (mMsk 167) 9 = none := by decide +kernel
theorem i167_10 : decode (mCd 167) 10 = .ok (.aload_n 0, 1) ∧ lk (mMsk 167) 10 = none := by decide +kernel
theorem i167_11 : decode (mCd 167) 11 = .ok (.iconst 1, 1) ∧ lk (mMsk 167) 11 = none := by decide +kernel
theorem i167_12 : decode (mCd 167) 12 = .ok (.putfield 296, 3) ∧ lk (mMsk 167) 12 = none := by decide +kernel
theorem p167_296 : pOk 167 296 9 42 = true := by decide +kernel
theorem i167_15 : decode (mCd 167) 15 = .ok (.aload_n 0, 1) ∧ lk (mMsk 167) 15 = none := by decide +kernel
theorem i167_16 : decode (mCd 167) 16 = .ok (.aload_n 0, 1) ∧ lk (mMsk 167) 16 = none := by decide +kernel
theorem i167_17 : decode (mCd 167) 17 = .ok (.getfield 149, 3) ∧ lk (mMsk 167) 17 = none := by decide +kernel
theorem i167_20 : decode (mCd 167) 20 = .ok (.putfield 299, 3) ∧ lk (mMsk 167) 20 = none := by decide +kernel
theorem p167_299 : pOk 167 299 9 43 = true := by decide +kernel
theorem i167_23 : decode (mCd 167) 23 = .ok (.aload_n 0, 1) ∧ lk (mMsk 167) 23 = none := by decide +kernel
theorem i167_24 : decode (mCd 167) 24 = .ok (.aload_n 0, 1) ∧ lk (mMsk 167) 24 = none := by decide +kernel
theorem i167_25 : decode (mCd 167) 25 = .ok (.getfield 152, 3) ∧ lk (mMsk 167) 25 = none := by decide +kernel
theorem g167_152 : fOk 167 152 9 7 = true := by decide +kernel
theorem i167_28 : decode (mCd 167) 28 = .ok (.putfield 302, 3) ∧ lk (mMsk 167) 28 = none := by decide +kernel
theorem p167_302 : pOk 167 302 9 44 = true := by decide +kernel
theorem i167_31 : decode (mCd 167) 31 = .ok (.aload_n 0, 1) ∧ lk (mMsk 167) 31 = none := by decide +kernel
theorem i167_32 : decode (mCd 167) 32 = .ok (.aload_n 0, 1) ∧ lk (mMsk 167) 32 = none := by decide +kernel
theorem i167_33 : decode (mCd 167) 33 = .ok (.getfield 155, 3) ∧ lk (mMsk 167) 33 = none := by decide +kernel
theorem g167_155 : fOk 167 155 9 16 = true := by decide +kernel
theorem i167_36 : decode (mCd 167) 36 = .ok (.putfield 305, 3) ∧ lk (mMsk 167) 36 = none := by decide +kernel
theorem p167_305 : pOk 167 305 9 45 = true := by decide +kernel
theorem i167_39 : decode (mCd 167) 39 = .ok (.iconst 0, 1) ∧ lk (mMsk 167) 39 = none := by decide +kernel
theorem i167_40 : decode (mCd 167) 40 = .ok (.istore_n 1, 1) ∧ lk (mMsk 167) 40 = none := by decide +kernel
theorem i167_41 : decode (mCd 167) 41 = .ok (.iload_n 1, 1) ∧ lk (mMsk 167) 41 = some [true, true] := by decide +kernel
theorem i167_42 : decode (mCd 167) 42 = .ok (.iconst 5, 1) ∧ lk (mMsk 167) 42 = none := by decide +kernel
theorem i167_43 : decode (mCd 167) 43 = .ok (.if_icmp .ge 57, 3) ∧ lk (mMsk 167) 43 = none := by decide +kernel
theorem i167_100 : decode (mCd 167) 100 = .ok (.iconst 0, 1) ∧ lk (mMsk 167) 100 = none := by decide +kernel
theorem i167_101 : decode (mCd 167) 101 = .ok (.istore_n 1, 1) ∧ lk (mMsk 167) 101 = none := by decide +kernel
theorem i167_102 : decode (mCd 167) 102 = .ok (.iload_n 1, 1) ∧ lk (mMsk 167) 102 = some [true, true] := by decide +kernel
theorem i167_46 : decode (mCd 167) 46 = .ok (.aload_n 0, 1) ∧ lk (mMsk 167) 46 = none := by decide +kernel
theorem i167_47 : decode (mCd 167) 47 = .ok (.getfield 78, 3) ∧ lk (mMsk 167) 47 = none := by decide +kernel
theorem g167_78 : fOk 167 78 9 46 = true := by decide +kernel
theorem i167_50 : decode (mCd 167) 50 = .ok (.iload_n 1, 1) ∧ lk (mMsk 167) 50 = none := by decide +kernel
theorem i167_51 : decode (mCd 167) 51 = .ok (.aload_n 0, 1) ∧ lk (mMsk 167) 51 = none := by decide +kernel
theorem i167_52 : decode (mCd 167) 52 = .ok (.getfield 23, 3) ∧ lk (mMsk 167) 52 = none := by decide +kernel
theorem g167_23 : fOk 167 23 9 9 = true := by decide +kernel
theorem i167_55 : decode (mCd 167) 55 = .ok (.iload_n 1, 1) ∧ lk (mMsk 167) 55 = none := by decide +kernel
theorem i167_56 : decode (mCd 167) 56 = .ok (.iaload, 1) ∧ lk (mMsk 167) 56 = none := by decide +kernel
theorem i167_57 : decode (mCd 167) 57 = .ok (.iastore, 1) ∧ lk (mMsk 167) 57 = none := by decide +kernel
theorem i167_58 : decode (mCd 167) 58 = .ok (.aload_n 0, 1) ∧ lk (mMsk 167) 58 = none := by decide +kernel
theorem i167_59 : decode (mCd 167) 59 = .ok (.getfield 81, 3) ∧ lk (mMsk 167) 59 = none := by decide +kernel
theorem g167_81 : fOk 167 81 9 47 = true := by decide +kernel
theorem i167_62 : decode (mCd 167) 62 = .ok (.iload_n 1, 1) ∧ lk (mMsk 167) 62 = none := by decide +kernel
theorem i167_63 : decode (mCd 167) 63 = .ok (.aload_n 0, 1) ∧ lk (mMsk 167) 63 = none := by decide +kernel
theorem i167_64 : decode (mCd 167) 64 = .ok (.getfield 29, 3) ∧ lk (mMsk 167) 64 = none := by decide +kernel
theorem g167_29 : fOk 167 29 9 11 = true := by decide +kernel
theorem i167_67 : decode (mCd 167) 67 = .ok (.iload_n 1, 1) ∧ lk (mMsk 167) 67 = none := by decide +kernel
theorem i167_68 : decode (mCd 167) 68 = .ok (.iaload, 1) ∧ lk (mMsk 167) 68 = none := by decide +kernel
theorem i167_69 : decode (mCd 167) 69 = .ok (.iastore, 1) ∧ lk (mMsk 167) 69 = none := by decide +kernel
theorem i167_70 : decode (mCd 167) 70 = .ok (.aload_n 0, 1) ∧ lk (mMsk 167) 70 = none := by decide +kernel
theorem i167_71 : decode (mCd 167) 71 = .ok (.getfield 84, 3) ∧ lk (mMsk 167) 71 = none := by decide +kernel
theorem g167_84 : fOk 167 84 9 48 = true := by decide +kernel
theorem i167_74 : decode (mCd 167) 74 = .ok (.iload_n 1, 1) ∧ lk (mMsk 167) 74 = none := by decide +kernel
theorem i167_75 : decode (mCd 167) 75 = .ok (.aload_n 0, 1) ∧ lk (mMsk 167) 75 = none := by decide +kernel
theorem i167_76 : decode (mCd 167) 76 = .ok (.getfield 35, 3) ∧ lk (mMsk 167) 76 = none := by decide +kernel
theorem g167_35 : fOk 167 35 9 13 = true := by decide +kernel
theorem i167_79 : decode (mCd 167) 79 = .ok (.iload_n 1, 1) ∧ lk (mMsk 167) 79 = none := by decide +kernel
theorem i167_80 : decode (mCd 167) 80 = .ok (.iaload, 1) ∧ lk (mMsk 167) 80 = none := by decide +kernel
theorem i167_81 : decode (mCd 167) 81 = .ok (.iastore, 1) ∧ lk (mMsk 167) 81 = none := by decide +kernel
theorem i167_82 : decode (mCd 167) 82 = .ok (.aload_n 0, 1) ∧ lk (mMsk 167) 82 = none := by decide +kernel
theorem i167_83 : decode (mCd 167) 83 = .ok (.getfield 87, 3) ∧ lk (mMsk 167) 83 = none := by decide +kernel
theorem g167_87 : fOk 167 87 9 49 = true := by decide +kernel
theorem i167_86 : decode (mCd 167) 86 = .ok (.iload_n 1, 1) ∧ lk (mMsk 167) 86 = none := by decide +kernel
theorem i167_87 : decode (mCd 167) 87 = .ok (.aload_n 0, 1) ∧ lk (mMsk 167) 87 = none := by decide +kernel
theorem i167_88 : decode (mCd 167) 88 = .ok (.getfield 38, 3) ∧ lk (mMsk 167) 88 = none := by decide +kernel
theorem g167_38 : fOk 167 38 9 14 = true := by decide +kernel
theorem i167_91 : decode (mCd 167) 91 = .ok (.iload_n 1, 1) ∧ lk (mMsk 167) 91 = none := by decide +kernel
theorem i167_92 : decode (mCd 167) 92 = .ok (.iaload, 1) ∧ lk (mMsk 167) 92 = none := by decide +kernel
theorem i167_93 : decode (mCd 167) 93 = .ok (.iastore, 1) ∧ lk (mMsk 167) 93 = none := by decide +kernel
theorem i167_94 : decode (mCd 167) 94 = .ok (.iinc 1 1, 3) ∧ lk (mMsk 167) 94 = none := by decide +kernel
theorem i167_97 : decode (mCd 167) 97 = .ok (.goto (-56), 3) ∧ lk (mMsk 167) 97 = none := by decide +kernel
theorem i167_103 : decode (mCd 167) 103 = .ok (.bipush 100, 2) ∧ lk (mMsk 167) 103 = none := by decide +kernel
theorem i167_105 : decode (mCd 167) 105 = .ok (.if_icmp .ge 21, 3) ∧ lk (mMsk 167) 105 = none := by decide +kernel
theorem i167_126 : decode (mCd 167) 126 = .ok (.iconst 0, 1) ∧ lk (mMsk 167) 126 = none := by decide +kernel
theorem i167_127 : decode (mCd 167) 127 = .ok (.istore_n 1, 1) ∧ lk (mMsk 167) 127 = none := by decide +kernel
theorem i167_128 : decode (mCd 167) 128 = .ok (.iload_n 1, 1) ∧ lk (mMsk 167) 128 = some [true, true] := by decide +kernel
theorem i167_108 : decode (mCd 167) 108 = .ok (.aload_n 0, 1) ∧ lk (mMsk 167) 108 = none := by decide +kernel
theorem i167_109 : decode (mCd 167) 109 = .ok (.getfield 90, 3) ∧ lk (mMsk 167) 109 = none := by decide +kernel
theorem g167_90 : fOk 167 90 9 50 = true := by decide +kernel
theorem i167_112 : decode (mCd 167) 112 = .ok (.iload_n 1, 1) ∧ lk (mMsk 167) 112 = none := by decide +kernel
theorem i167_113 : decode (mCd 167) 113 = .ok (.aload_n 0, 1) ∧ lk (mMsk 167) 113 = none := by decide +kernel
theorem i167_114 : decode (mCd 167) 114 = .ok (.getfield 32, 3) ∧ lk (mMsk 167) 114 = none := by decide +kernel
theorem g167_32 : fOk 167 32 9 12 = true := by decide +kernel
theorem i167_117 : decode (mCd 167) 117 = .ok (.iload_n 1, 1) ∧ lk (mMsk 167) 117 = none := by decide +kernel
theorem i167_118 : decode (mCd 167) 118 = .ok (.iaload, 1) ∧ lk (mMsk 167) 118 = none := by decide +kernel
theorem i167_119 : decode (mCd 167) 119 = .ok (.iastore, 1) ∧ lk (mMsk 167) 119 = none := by decide +kernel
theorem i167_120 : decode (mCd 167) 120 = .ok (.iinc 1 1, 3) ∧ lk (mMsk 167) 120 = none := by decide +kernel
theorem i167_123 : decode (mCd 167) 123 = .ok (.goto (-21), 3) ∧ lk (mMsk 167) 123 = none := by decide +kernel
theorem i167_129 : decode (mCd 167) 129 = .ok (.bipush 8, 2) ∧ lk (mMsk 167) 129 = none := by decide +kernel
theorem i167_131 : decode (mCd 167) 131 = .ok (.if_icmp .ge 21, 3) ∧ lk (mMsk 167) 131 = none := by decide +kernel
theorem i167_152 : decode (mCd 167) 152 = .ok (.aload_n 0, 1) ∧ lk (mMsk 167) 152 = none := by decide +kernel
theorem i167_153 : decode (mCd 167) 153 = .ok (.getfield 155, 3) ∧ lk (mMsk 167) 153 = none := by decide +kernel
theorem i167_156 : decode (mCd 167) 156 = .ok (.ireturn, 1) ∧ lk (mMsk 167) 156 = none := by decide +kernel
theorem i167_134 : decode (mCd 167) 134 = .ok (.aload_n 0, 1) ∧ lk (mMsk 167) 134 = none := by decide +kernel
theorem i167_135 : decode (mCd 167) 135 = .ok (.getfield 93, 3) ∧ lk (mMsk 167) 135 = none := by decide +kernel
theorem g167_93 : fOk 167 93 9 51 = true := by decide +kernel
theorem i167_138 : decode (mCd 167) 138 = .ok (.iload_n 1, 1) ∧ lk (mMsk 167) 138 = none := by decide +kernel
theorem i167_139 : decode (mCd 167) 139 = .ok (.aload_n 0, 1) ∧ lk (mMsk 167) 139 = none := by decide +kernel
theorem i167_140 : decode (mCd 167) 140 = .ok (.getfield 41, 3) ∧ lk (mMsk 167) 140 = none := by decide +kernel
theorem g167_41 : fOk 167 41 9 15 = true := by decide +kernel
theorem i167_143 : decode (mCd 167) 143 = .ok (.iload_n 1, 1) ∧ lk (mMsk 167) 143 = none := by decide +kernel
theorem i167_144 : decode (mCd 167) 144 = .ok (.iaload, 1) ∧ lk (mMsk 167) 144 = none := by decide +kernel
theorem i167_145 : decode (mCd 167) 145 = .ok (.iastore, 1) ∧ lk (mMsk 167) 145 = none := by decide +kernel
theorem i167_146 : decode (mCd 167) 146 = .ok (.iinc 1 1, 3) ∧ lk (mMsk 167) 146 = none := by decide +kernel
theorem i167_149 : decode (mCd 167) 149 = .ok (.goto (-21), 3) ∧ lk (mMsk 167) 149 = none := by decide +kernel
theorem i168_0 : decode (mCd 168) 0 = .ok (.aload_n 0, 1) ∧ lk (mMsk 168) 0 = none := by decide +kernel
theorem i168_1 : decode (mCd 168) 1 = .ok (.getfield 296, 3) ∧ lk (mMsk 168) 1 = none := by decide +kernel
theorem g168_296 : fOk 168 296 9 42 = true := by decide +kernel
theorem i168_4 : decode (mCd 168) 4 = .ok (.ifCond .eq 14, 3) ∧ lk (mMsk 168) 4 = none := by decide +kernel
theorem i168_18 : decode (mCd 168) 18 = .ok (.bipush (-103), 2) ∧ lk (mMsk 168) 18 = some [false, false] := by decide +kernel
theorem i168_7 : decode (mCd 168) 7 = .ok (.aload_n 0, 1) ∧ lk (mMsk 168) 7 = none := by decide +kernel
theorem i168_8 : decode (mCd 168) 8 = .ok (.getfield 299, 3) ∧ lk (mMsk 168) 8 = none := by decide +kernel
theorem g168_299 : fOk 168 299 9 43 = true := by decide +kernel
theorem i168_11 : decode (mCd 168) 11 = .ok (.aload_n 0, 1) ∧ lk (mMsk 168) 11 = none := by decide +kernel
theorem i168_12 : decode (mCd 168) 12 = .ok (.getfield 149, 3) ∧ lk (mMsk 168) 12 = none := by decide +kernel
theorem g168_149 : fOk 168 149 9 6 = true := by decide +kernel
theorem i168_15 : decode (mCd 168) 15 = .ok (.if_icmp .eq 6, 3) ∧ lk (mMsk 168) 15 = none := by decide +kernel
theorem i168_21 : decode (mCd 168) 21 = .ok (.aload_n 0, 1) ∧ lk (mMsk 168) 21 = none := by decide +kernel
theorem i168_22 : decode (mCd 168) 22 = .ok (.aload_n 0, 1) ∧ lk (mMsk 168) 22 = none := by decide +kernel
theorem i168_23 : decode (mCd 168) 23 = .ok (.getfield 302, 3) ∧ lk (mMsk 168) 23 = none := by decide +kernel
theorem g168_302 : fOk 168 302 9 44 = true := by decide +kernel
theorem i168_26 : decode (mCd 168) 26 = .ok (.putfield 152, 3) ∧ lk (mMsk 168) 26 = none := by decide +kernel
theorem p168_152 : pOk 168 152 9 7 = true := by decide +kernel
theorem i168_29 : decode (mCd 168) 29 = .ok (.aload_n 0, 1) ∧ lk (mMsk 168) 29 = none := by decide +kernel
theorem i168_30 : decode (mCd 168) 30 = .ok (.aload_n 0, 1) ∧ lk (mMsk 168) 30 = none := by decide +kernel
theorem i168_31 : decode (mCd 168) 31 = .ok (.getfield 305, 3) ∧ lk (mMsk 168) 31 = none := by decide +kernel
theorem g168_305 : fOk 168 305 9 45 = true := by decide +kernel
theorem i168_34 : decode (mCd 168) 34 = .ok (.putfield 155, 3) ∧ lk (mMsk 168) 34 = none := by decide +kernel
theorem p168_155 : pOk 168 155 9 16 = true := by decide +kernel
theorem i168_37 : decode (mCd 168) 37 = .ok (.iconst 0, 1) ∧ lk (mMsk 168) 37 = none := by decide +kernel
theorem i168_38 : decode (mCd 168) 38 = .ok (.istore_n 1, 1) ∧ lk (mMsk 168) 38 = none := by decide +kernel
theorem i168_39 : decode (mCd 168) 39 = .ok (.iload_n 1, 1) ∧ lk (mMsk 168) 39 = some [true, true] := by decide +kernel
theorem i168_40 : decode (mCd 168) 40 = .ok (.iconst 5, 1) ∧ lk (mMsk 168) 40 = none := by decide +kernel
theorem i168_41 : decode (mCd 168) 41 = .ok (.if_icmp .ge 57, 3) ∧ lk (mMsk 168) 41 = none := by decide +kernel
theorem i168_98 : decode (mCd 168) 98 = .ok (.iconst 0, 1) ∧ lk (mMsk 168) 98 = none := by decide +kernel
theorem i168_99 : decode (mCd 168) 99 = .ok (.istore_n 1, 1) ∧ lk (mMsk 168) 99 = none := by decide +kernel
theorem i168_100 : decode (mCd 168) 100 = .ok (.iload_n 1, 1) ∧ lk (mMsk 168) 100 = some [true, true] := by decide +kernel
theorem i168_44 : decode (mCd 168) 44 = .ok (.aload_n 0, 1) ∧ lk (mMsk 168) 44 = none := by decide +kernel
theorem i168_45 : decode (mCd 168) 45 = .ok (.getfield 23, 3) ∧ lk (mMsk 168) 45 = none := by decide +kernel
theorem g168_23 : fOk 168 23 9 9 = true := by decide +kernel
theorem i168_48 : decode (mCd 168) 48 = .ok (.iload_n 1, 1) ∧ lk (mMsk 168) 48 = none := by decide +kernel
theorem i168_49 : decode (mCd 168) 49 = .ok (.aload_n 0, 1) ∧ lk (mMsk 168) 49 = none := by decide +kernel
theorem i168_50 : decode (mCd 168) 50 = .ok (.getfield 78, 3) ∧ lk (mMsk 168) 50 = none := by decide +kernel
theorem g168_78 : fOk 168 78 9 46 = true := by decide +kernel
theorem i168_53 : decode (mCd 168) 53 = .ok (.iload_n 1, 1) ∧ lk (mMsk 168) 53 = none := by decide +kernel
theorem i168_54 : decode (mCd 168) 54 = .ok (.iaload, 1) ∧ lk (mMsk 168) 54 = none := by decide +kernel
theorem i168_55 : decode (mCd 168) 55 = .ok (.iastore, 1) ∧ lk (mMsk 168) 55 = none := by decide +kernel
theorem i168_56 : decode (mCd 168) 56 = .ok (.aload_n 0, 1) ∧ lk (mMsk 168) 56 = none := by decide +kernel
theorem i168_57 : decode (mCd 168) 57 = .ok (.getfield 29, 3) ∧ lk (mMsk 168) 57 = none := by decide +kernel
theorem g168_29 : fOk 168 29 9 11 = true := by decide +kernel
theorem i168_60 : decode (mCd 168) 60 = .ok (.iload_n 1, 1) ∧ lk (mMsk 168) 60 = none := by decide +kernel
theorem i168_61 : decode (mCd 168) 61 = .ok (.aload_n 0, 1) ∧ lk (mMsk 168) 61 = none := by decide +kernel
theorem i168_62 : decode (mCd 168) 62 = .ok (.getfield 81, 3) ∧ lk (mMsk 168) 62 = none := by decide +kernel
theorem g168_81 : fOk 168 81 9 47 = true := by decide +kernel
theorem i168_65 : decode (mCd 168) 65 = .ok (.iload_n 1, 1) ∧ lk (mMsk 168) 65 = none := by decide +kernel
theorem i168_66 : decode (mCd 168) 66 = .ok (.iaload, 1) ∧ lk (mMsk 168) 66 = none := by decide +kernel
theorem i168_67 : decode (mCd 168) 67 = .ok (.iastore, 1) ∧ lk (mMsk 168) 67 = none := by decide +kernel
theorem i168_68 : decode (mCd 168) 68 = .ok (.aload_n 0, 1) ∧ lk (mMsk 168) 68 = none := by decide +kernel
theorem i168_69 : decode (mCd 168) 69 = .ok (.getfield 35, 3) ∧ lk (mMsk 168) 69 = none := by decide +kernel
theorem g168_35 : fOk 168 35 9 13 = true := by decide +kernel
theorem i168_72 : decode (mCd 168) 72 = .ok (.iload_n 1, 1) ∧ lk (mMsk 168) 72 = none := by decide +kernel
theorem i168_73 : decode (mCd 168) 73 = .ok (.aload_n 0, 1) ∧ lk (mMsk 168) 73 = none := by decide +kernel
theorem i168_74 : decode (mCd 168) 74 = .ok (.getfield 84, 3) ∧ lk (mMsk 168) 74 = none := by decide +kernel
theorem g168_84 : fOk 168 84 9 48 = true := by decide +kernel
theorem i168_77 : decode (mCd 168) 77 = .ok (.iload_n 1, 1) ∧ lk (mMsk 168) 77 = none := by decide +kernel
theorem i168_78 : decode (mCd 168) 78 = .ok (.iaload, 1) ∧ lk (mMsk 168) 78 = none := by decide +kernel
theorem i168_79 : decode (mCd 168) 79 = .ok (.iastore, 1) ∧ lk (mMsk 168) 79 = none := by decide +kernel
theorem i168_80 : decode (mCd 168) 80 = .ok (.aload_n 0, 1) ∧ lk (mMsk 168) 80 = none := by decide +kernel
theorem i168_81 : decode (mCd 168) 81 = .ok (.getfield 38, 3) ∧ lk (mMsk 168) 81 = none := by decide +kernel
theorem g168_38 : fOk 168 38 9 14 = true := by decide +kernel
theorem i168_84 : decode (mCd 168) 84 = .ok (.iload_n 1, 1) ∧ lk (mMsk 168) 84 = none := by decide +kernel
theorem i168_85 : decode (mCd 168) 85 = .ok (.aload_n 0, 1) ∧ lk (mMsk 168) 85 = none := by decide +kernel
theorem i168_86 : decode (mCd 168) 86 = .ok (.getfield 87, 3) ∧ lk (mMsk 168) 86 = none := by decide +kernel
theorem g168_87 : fOk 168 87 9 49 = true := by decide +kernel
theorem i168_89 : decode (mCd 168) 89 = .ok (.iload_n 1, 1) ∧ lk (mMsk 168) 89 = none := by decide +kernel
theorem i168_90 : decode (mCd 168) 90 = .ok (.iaload, 1) ∧ lk (mMsk 168) 90 = none := by decide +kernel
theorem i168_91 : decode (mCd 168) 91 = .ok (.iastore, 1) ∧ lk (mMsk 168) 91 = none := by decide +kernel
theorem i168_92 : decode (mCd 168) 92 = .ok (.iinc 1 1, 3) ∧ lk (mMsk 168) 92 = none := by decide +kernel
theorem i168_95 : decode (mCd 168) 95 = .ok (.goto (-56), 3) ∧ lk (mMsk 168) 95 = none := by decide +kernel
theorem i168_101 : decode (mCd 168) 101 = .ok (.bipush 100, 2) ∧ lk (mMsk 168) 101 = none := by decide +kernel
theorem i168_103 : decode (mCd 168) 103 = .ok (.if_icmp .ge 21, 3) ∧ lk (mMsk 168) 103 = none := by decide +kernel
theorem i168_124 : decode (mCd 168) 124 = .ok (.iconst 0, 1) ∧ lk (mMsk 168) 124 = none := by decide +kernel
theorem i168_125 : decode (mCd 168) 125 = .ok (.istore_n 1, 1) ∧ lk (mMsk 168) 125 = none := by decide +kernel
theorem i168_126 : decode (mCd 168) 126 = .ok (.iload_n 1, 1) ∧ lk (mMsk 168) 126 = some [true, true] := by decide +kernel
theorem i168_106 : decode (mCd 168) 106 = .ok (.aload_n 0, 1) ∧ lk (mMsk 168) 106 = none := by decide +kernel
theorem i168_107 : decode (mCd 168) 107 = .ok (.getfield 32, 3) ∧ lk (mMsk 168) 107 = none := by decide +kernel
theorem g168_32 : fOk 168 32 9 12 = true := by decide +kernel
theorem i168_110 : decode (mCd 168) 110 = .ok (.iload_n 1, 1) ∧ lk (mMsk 168) 110 = none := by decide +kernel
theorem i168_111 : decode (mCd 168) 111 = .ok (.aload_n 0, 1) ∧ lk (mMsk 168) 111 = none := by decide +kernel
theorem i168_112 : decode (mCd 168) 112 = .ok (.getfield 90, 3) ∧ lk (mMsk 168) 112 = none := by decide +kernel
theorem g168_90 : fOk 168 90 9 50 = true := by decide +kernel
theorem i168_115 : decode (mCd 168) 115 = .ok (.iload_n 1, 1) ∧ lk (mMsk 168) 115 = none := by decide +kernel
theorem i168_116 : decode (mCd 168) 116 = .ok (.iaload, 1) ∧ lk (mMsk 168) 116 = none := by decide +kernel
theorem i168_117 : decode (mCd 168) 117 = .ok (.iastore, 1) ∧ lk (mMsk 168) 117 = none := by decide +kernel
theorem i168_118 : decode (mCd 168) 118 = .ok (.iinc 1 1, 3) ∧ lk (mMsk 168) 118 = none := by decide +kernel
theorem i168_121 : decode (mCd 168) 121 = .ok (.goto (-21), 3) ∧ lk (mMsk 168) 121 = none := by decide +kernel
theorem i168_127 : decode (mCd 168) 127 = .ok (.bipush 8, 2) ∧ lk (mMsk 168) 127 = none := by decide +kernel
theorem i168_129 : decode (mCd 168) 129 = .ok (.if_icmp .ge 21, 3) ∧ lk (mMsk 168) 129 = none := by decide +kernel
theorem i168_150 : decode (mCd 168) 150 = .ok (.aload_n 0, 1) ∧ lk (mMsk 168) 150 = none := by decide +kernel
theorem i168_151 : decode (mCd 168) 151 = .ok (.getfield 155, 3) ∧ lk (mMsk 168) 151 = none := by decide +kernel
theorem g168_155 : fOk 168 155 9 16 = true := by decide +kernel
theorem i168_154 : decode (mCd 168) 154 = .ok (.ireturn, 1) ∧ lk (mMsk 168) 154 = none := by decide +kernel
theorem i168_132 : decode (mCd 168) 132 = .ok (.aload_n 0, 1) ∧ lk (mMsk 168) 132 = none := by decide +kernel
theorem i168_133 : decode (mCd 168) 133 = .ok (.getfield 41, 3) ∧ lk (mMsk 168) 133 = none := by decide +kernel
theorem g168_41 : fOk 168 41 9 15 = true := by decide +kernel
theorem i168_136 : decode (mCd 168) 136 = .ok (.iload_n 1, 1) ∧ lk (mMsk 168) 136 = none := by decide +kernel
theorem i168_137 : decode (mCd 168) 137 = .ok (.aload_n 0, 1) ∧ lk (mMsk 168) 137 = none := by decide +kernel
theorem i168_138 : decode (mCd 168) 138 = .ok (.getfield 93, 3) ∧ lk (mMsk 168) 138 = none := by decide +kernel
theorem g168_93 : fOk 168 93 9 51 = true := by decide +kernel
theorem i168_141 : decode (mCd 168) 141 = .ok (.iload_n 1, 1) ∧ lk (mMsk 168) 141 = none := by decide +kernel
theorem i168_142 : decode (mCd 168) 142 = .ok (.iaload, 1) ∧ lk (mMsk 168) 142 = none := by decide +kernel
theorem i168_143 : decode (mCd 168) 143 = .ok (.iastore, 1) ∧ lk (mMsk 168) 143 = none := by decide +kernel
theorem i168_144 : decode (mCd 168) 144 = .ok (.iinc 1 1, 3) ∧ lk (mMsk 168) 144 = none := by decide +kernel
theorem i168_147 : decode (mCd 168) 147 = .ok (.goto (-21), 3) ∧ lk (mMsk 168) 147 = none := by decide +kernel
theorem i168_20 : decode (mCd 168) 20 = .ok (.ireturn, 1) ∧ lk (mMsk 168) 20 = none := by decide +kernel
theorem i169_0 : decode (mCd 169) 0 = .ok (.iconst 0, 1) ∧ lk (mMsk 169) 0 = none := by decide +kernel
theorem i169_1 : decode (mCd 169) 1 = .ok (.istore_n 1, 1) ∧ lk (mMsk 169) 1 = none := by decide +kernel
theorem i169_2 : decode (mCd 169) 2 = .ok (.iconst 0, 1) ∧ lk (mMsk 169) 2 = none := by decide +kernel
theorem i169_3 : decode (mCd 169) 3 = .ok (.istore_n 2, 1) ∧ lk (mMsk 169) 3 = none := by decide +kernel
theorem i169_4 : decode (mCd 169) 4 = .ok (.iload_n 2, 1) ∧ lk (mMsk 169) 4 = some [true, true, true] := by decide +kernel
theorem i169_5 : decode (mCd 169) 5 = .ok (.aload_n 0, 1) ∧ lk (mMsk 169) 5 = none := by decide +kernel
theorem i169_6 : decode (mCd 169) 6 = .ok (.getfield 140, 3) ∧ lk (mMsk 169) 6 = none := by decide +kernel
theorem g169_140 : fOk 169 140 9 0 = true := by decide +kernel
theorem i169_9 : decode (mCd 169) 9 = .ok (.if_icmp .ge 26, 3) ∧ lk (mMsk 169) 9 = none := by decide +kernel
theorem i169_35 : decode (mCd 169) 35 = .ok (.iload_n 1, 1) ∧ lk (mMsk 169) 35 = none := by decide +kernel
theorem i169_36 : decode (mCd 169) 36 = .ok (.ireturn, 1) ∧ lk (mMsk 169) 36 = none := by decide +kernel
theorem i169_12 : decode (mCd 169) 12 = .ok (.iload_n 1, 1) ∧ lk (mMsk 169) 12 = none := by decide +kernel
theorem i169_13 : decode (mCd 169) 13 = .ok (.aload_n 0, 1) ∧ lk (mMsk 169) 13 = none := by decide +kernel
theorem i169_14 : decode (mCd 169) 14 = .ok (.getfield 16, 3) ∧ lk (mMsk 169) 14 = none := by decide +kernel
theorem g169_16 : fOk 169 16 9 3 = true := by decide +kernel
theorem i169_17 : decode (mCd 169) 17 = .ok (.iload_n 2, 1) ∧ lk (mMsk 169) 17 = none := by decide +kernel
theorem i169_18 : decode (mCd 169) 18 = .ok (.baload, 1) ∧ lk (mMsk 169) 18 = none := by decide +kernel
theorem i169_19 : decode (mCd 169) 19 = .ok (.ifCond .eq 7, 3) ∧ lk (mMsk 169) 19 = none := by decide +kernel
theorem i169_26 : decode (mCd 169) 26 = .ok (.iconst 0, 1) ∧ lk (mMsk 169) 26 = none := by decide +kernel
theorem i169_27 : decode (mCd 169) 27 = .ok (.iadd, 1) ∧ lk (mMsk 169) 27 = some [true, false, true] := by decide +kernel
theorem i169_22 : decode (mCd 169) 22 = .ok (.iconst 1, 1) ∧ lk (mMsk 169) 22 = none := by decide +kernel
theorem i169_23 : decode (mCd 169) 23 = .ok (.goto 4, 3) ∧ lk (mMsk 169) 23 = none := by decide +kernel
theorem i169_28 : decode (mCd 169) 28 = .ok (.istore_n 1, 1) ∧ lk (mMsk 169) 28 = none := by decide +kernel
theorem i169_29 : decode (mCd 169) 29 = .ok (.iinc 2 1, 3) ∧ lk (mMsk 169) 29 = none := by decide +kernel
theorem i169_32 : decode (mCd 169) 32 = .ok (.goto (-28), 3) ∧ lk (mMsk 169) 32 = none := by decide +kernel
theorem i170_0 : decode (mCd 170) 0 = .ok (.iload_n 1, 1) ∧ lk (mMsk 170) 0 = none := by decide +kernel
theorem i170_1 : decode (mCd 170) 1 = .ok (.tableswitch 124 0 9 #[55, 60, 65, 70, 78, 83, 88, 93, 98, 111], 55) ∧ lk (mMsk 170) 1 = none := by decide +kernel
theorem i170_56 : decode (mCd 170) 56 = .ok (.aload_n 0, 1) ∧ lk (mMsk 170) 56 = none := by decide +kernel
theorem i170_57 : decode (mCd 170) 57 = .ok (.getfield 140, 3) ∧ lk (mMsk 170) 57 = none := by decide +kernel
theorem g170_140 : fOk 170 140 9 0 = true := by decide +kernel
theorem i170_60 : decode (mCd 170) 60 = .ok (.ireturn, 1) ∧ lk (mMsk 170) 60 = none := by decide +kernel
theorem i170_61 : decode (mCd 170) 61 = .ok (.aload_n 0, 1) ∧ lk (mMsk 170) 61 = none := by decide +kernel
theorem i170_62 : decode (mCd 170) 62 = .ok (.invokevirtual 308, 3) ∧ lk (mMsk 170) 62 = none := by decide +kernel
theorem c170_308 : cvOk 170 308 169 0 0 = true := by decide +kernel
theorem i170_65 : decode (mCd 170) 65 = .ok (.ireturn, 1) ∧ lk (mMsk 170) 65 = none := by decide +kernel
theorem i170_66 : decode (mCd 170) 66 = .ok (.aload_n 0, 1) ∧ lk (mMsk 170) 66 = none := by decide +kernel
theorem i170_67 : decode (mCd 170) 67 = .ok (.getfield 152, 3) ∧ lk (mMsk 170) 67 = none := by decide +kernel
theorem g170_152 : fOk 170 152 9 7 = true := by decide +kernel
theorem i170_70 : decode (mCd 170) 70 = .ok (.ireturn, 1) ∧ lk (mMsk 170) 70 = none := by decide +kernel
theorem i170_71 : decode (mCd 170) 71 = .ok (.aload_n 0, 1) ∧ lk (mMsk 170) 71 = none := by decide +kernel
theorem i170_72 : decode (mCd 170) 72 = .ok (.invokevirtual 289, 3) ∧ lk (mMsk 170) 72 = none := by decide +kernel
theorem c170_289 : cvOk 170 289 164 0 0 = true := by decide +kernel
theorem i170_75 : decode (mCd 170) 75 = .ok (.invokestatic 256, 3) ∧ lk (mMsk 170) 75 = none := by decide +kernel
theorem c170_256 : ciOk 170 256 155 1 0 = true := by decide +kernel
theorem i170_78 : decode (mCd 170) 78 = .ok (.ireturn, 1) ∧ lk (mMsk 170) 78 = none := by decide +kernel
theorem i170_79 : decode (mCd 170) 79 = .ok (.aload_n 0, 1) ∧ lk (mMsk 170) 79 = none := by decide +kernel
theorem i170_80 : decode (mCd 170) 80 = .ok (.getfield 155, 3) ∧ lk (mMsk 170) 80 = none := by decide +kernel
theorem g170_155 : fOk 170 155 9 16 = true := by decide +kernel
theorem i170_83 : decode (mCd 170) 83 = .ok (.ireturn, 1) ∧ lk (mMsk 170) 83 = none := by decide +kernel
theorem i170_84 : decode (mCd 170) 84 = .ok (.aload_n 0, 1) ∧ lk (mMsk 170) 84 = none := by decide +kernel
theorem i170_85 : decode (mCd 170) 85 = .ok (.getfield 98, 3) ∧ lk (mMsk 170) 85 = none := by decide +kernel
theorem g170_98 : fOk 170 98 9 18 = true := by decide +kernel
theorem i170_88 : decode (mCd 170) 88 = .ok (.ireturn, 1) ∧ lk (mMsk 170) 88 = none := by decide +kernel
theorem i170_89 : decode (mCd 170) 89 = .ok (.aload_n 0, 1) ∧ lk (mMsk 170) 89 = none := by decide +kernel
theorem i170_90 : decode (mCd 170) 90 = .ok (.getfield 149, 3) ∧ lk (mMsk 170) 90 = none := by decide +kernel
theorem g170_149 : fOk 170 149 9 6 = true := by decide +kernel
theorem i170_93 : decode (mCd 170) 93 = .ok (.ireturn, 1) ∧ lk (mMsk 170) 93 = none := by decide +kernel
theorem i170_94 : decode (mCd 170) 94 = .ok (.aload_n 0, 1) ∧ lk (mMsk 170) 94 = none := by decide +kernel
theorem i170_95 : decode (mCd 170) 95 = .ok (.getfield 241, 3) ∧ lk (mMsk 170) 95 = none := by decide +kernel
theorem g170_241 : fOk 170 241 9 17 = true := by decide +kernel
theorem i170_98 : decode (mCd 170) 98 = .ok (.ireturn, 1) ∧ lk (mMsk 170) 98 = none := by decide +kernel
theorem i170_99 : decode (mCd 170) 99 = .ok (.aload_n 0, 1) ∧ lk (mMsk 170) 99 = none := by decide +kernel
theorem i170_100 : decode (mCd 170) 100 = .ok (.getfield 143, 3) ∧ lk (mMsk 170) 100 = none := by decide +kernel
theorem g170_143 : fOk 170 143 9 4 = true := by decide +kernel
theorem i170_103 : decode (mCd 170) 103 = .ok (.ifCond .eq 7, 3) ∧ lk (mMsk 170) 103 = none := by decide +kernel
theorem i170_110 : decode (mCd 170) 110 = .ok (.iconst 0, 1) ∧ lk (mMsk 170) 110 = none := by decide +kernel
theorem i170_111 : decode (mCd 170) 111 = .ok (.ireturn, 1) ∧ lk (mMsk 170) 111 = some [false, false] := by decide +kernel
theorem i170_106 : decode (mCd 170) 106 = .ok (.iconst 1, 1) ∧ lk (mMsk 170) 106 = none := by decide +kernel
theorem i170_107 : decode (mCd 170) 107 = .ok (.goto 4, 3) ∧ lk (mMsk 170) 107 = none := by decide +kernel
theorem i170_112 : decode (mCd 170) 112 = .ok (.aload_n 0, 1) ∧ lk (mMsk 170) 112 = none := by decide +kernel
theorem i170_113 : decode (mCd 170) 113 = .ok (.getfield 146, 3) ∧ lk (mMsk 170) 113 = none := by decide +kernel
theorem g170_146 : fOk 170 146 9 5 = true := by decide +kernel
theorem i170_116 : decode (mCd 170) 116 = .ok (.ifCond .eq 7, 3) ∧ lk (mMsk 170) 116 = none := by decide +kernel
theorem i170_123 : decode (mCd 170) 123 = .ok (.iconst 0, 1) ∧ lk (mMsk 170) 123 = none := by decide +kernel
theorem i170_124 : decode (mCd 170) 124 = .ok (.ireturn, 1) ∧ lk (mMsk 170) 124 = some [false, false] := by decide +kernel
theorem i170_119 : decode (mCd 170) 119 = .ok (.iconst 1, 1) ∧ lk (mMsk 170) 119 = none := by decide +kernel
theorem i170_120 : decode (mCd 170) 120 = .ok (.goto 4, 3) ∧ lk (mMsk 170) 120 = none := by decide +kernel
theorem i170_125 : decode (mCd 170) 125 = .ok (.bipush (-102), 2) ∧ lk (mMsk 170) 125 = none := by decide +kernel
theorem i170_127 : decode (mCd 170) 127 = .ok (.ireturn, 1) ∧ lk (mMsk 170) 127 = none := by decide +kernel
theorem i171_0 : decode (mCd 171) 0 = .ok (.aload_n 0, 1) ∧ lk (mMsk 171) 0 = none := by decide +kernel
theorem i171_1 : decode (mCd 171) 1 = .ok (.iload_n 1, 1) ∧ lk (mMsk 171) 1 = none := by decide +kernel
theorem i171_2 : decode (mCd 171) 2 = .ok (.invokevirtual 311, 3) ∧ lk (mMsk 171) 2 = none := by decide +kernel
theorem c171_311 : cvOk 171 311 170 1 0 = true := by decide +kernel
theorem i171_5 : decode (mCd 171) 5 = .ok (.ireturn, 1) ∧ lk (mMsk 171) 5 = none := by decide +kernel
theorem i172_0 : decode (mCd 172) 0 = .ok (.aload_n 0, 1) ∧ lk (mMsk 172) 0 = none := by decide +kernel
theorem i172_1 : decode (mCd 172) 1 = .ok (.ldc2_w 314, 3) ∧ lk (mMsk 172) 1 = none := by decide +kernel
theorem q172_314 : lk (mKt (mOwn 172)) 314 = some (.inr 31) := by decide +kernel
theorem i172_4 : decode (mCd 172) 4 = .ok (.aload_n 0, 1) ∧ lk (mMsk 172) 4 = none := by decide +kernel
theorem i172_5 : decode (mCd 172) 5 = .ok (.getfield 316, 3) ∧ lk (mMsk 172) 5 = none := by decide +kernel
theorem g172_316 : fOk 172 316 9 52 = true := by decide +kernel
theorem i172_8 : decode (mCd 172) 8 = .ok (.lmul, 1) ∧ lk (mMsk 172) 8 = none := by decide +kernel
theorem i172_9 : decode (mCd 172) 9 = .ok (.lload_n 1, 1) ∧ lk (mMsk 172) 9 = none := by decide +kernel
theorem i172_10 : decode (mCd 172) 10 = .ok (.ladd, 1) ∧ lk (mMsk 172) 10 = none := by decide +kernel
theorem i172_11 : decode (mCd 172) 11 = .ok (.putfield 316, 3) ∧ lk (mMsk 172) 11 = none := by decide +kernel
theorem p172_316 : pOk 172 316 9 52 = true := by decide +kernel
theorem i172_14 : decode (mCd 172) 14 = .ok (.return_, 1) ∧ lk (mMsk 172) 14 = none := by decide +kernel
theorem i173_0 : decode (mCd 173) 0 = .ok (.iconst 0, 1) ∧ lk (mMsk 173) 0 = none := by decide +kernel
theorem i173_1 : decode (mCd 173) 1 = .ok (.istore_n 2, 1) ∧ lk (mMsk 173) 1 = none := by decide +kernel
theorem i173_2 : decode (mCd 173) 2 = .ok (.iload_n 2, 1) ∧ lk (mMsk 173) 2 = some [true, true, true] := by decide +kernel
theorem i173_3 : decode (mCd 173) 3 = .ok (.bipush 7, 2) ∧ lk (mMsk 173) 3 = none := by decide +kernel
theorem i173_5 : decode (mCd 173) 5 = .ok (.if_icmp .ge 20, 3) ∧ lk (mMsk 173) 5 = none := by decide +kernel
theorem i173_25 : decode (mCd 173) 25 = .ok (.iconst 0, 1) ∧ lk (mMsk 173) 25 = none := by decide +kernel
theorem i173_26 : decode (mCd 173) 26 = .ok (.istore_n 2, 1) ∧ lk (mMsk 173) 26 = none := by decide +kernel
theorem i173_27 : decode (mCd 173) 27 = .ok (.iload_n 2, 1) ∧ lk (mMsk 173) 27 = some [true, true, true] := by decide +kernel
theorem i173_8 : decode (mCd 173) 8 = .ok (.aload_n 0, 1) ∧ lk (mMsk 173) 8 = none := by decide +kernel
theorem i173_9 : decode (mCd 173) 9 = .ok (.aload_n 0, 1) ∧ lk (mMsk 173) 9 = none := by decide +kernel
theorem i173_10 : decode (mCd 173) 10 = .ok (.iload_n 1, 1) ∧ lk (mMsk 173) 10 = none := by decide +kernel
theorem i173_11 : decode (mCd 173) 11 = .ok (.iload_n 2, 1) ∧ lk (mMsk 173) 11 = none := by decide +kernel
theorem i173_12 : decode (mCd 173) 12 = .ok (.invokevirtual 171, 3) ∧ lk (mMsk 173) 12 = none := by decide +kernel
theorem c173_171 : cvOk 173 171 125 2 0 = true := by decide +kernel
theorem i173_15 : decode (mCd 173) 15 = .ok (.i2l, 1) ∧ lk (mMsk 173) 15 = none := by decide +kernel
theorem i173_16 : decode (mCd 173) 16 = .ok (.invokevirtual 319, 3) ∧ lk (mMsk 173) 16 = none := by decide +kernel
theorem c173_319 : cvOk 173 319 172 1 3 = true := by decide +kernel
theorem i173_19 : decode (mCd 173) 19 = .ok (.iinc 2 1, 3) ∧ lk (mMsk 173) 19 = none := by decide +kernel
theorem i173_22 : decode (mCd 173) 22 = .ok (.goto (-20), 3) ∧ lk (mMsk 173) 22 = none := by decide +kernel
theorem i173_28 : decode (mCd 173) 28 = .ok (.aload_n 0, 1) ∧ lk (mMsk 173) 28 = none := by decide +kernel
theorem i173_29 : decode (mCd 173) 29 = .ok (.getfield 152, 3) ∧ lk (mMsk 173) 29 = none := by decide +kernel
theorem g173_152 : fOk 173 152 9 7 = true := by decide +kernel
theorem i173_32 : decode (mCd 173) 32 = .ok (.if_icmp .ge 32, 3) ∧ lk (mMsk 173) 32 = none := by decide +kernel
theorem i173_64 : decode (mCd 173) 64 = .ok (.aload_n 0, 1) ∧ lk (mMsk 173) 64 = none := by decide +kernel
theorem i173_65 : decode (mCd 173) 65 = .ok (.aload_n 0, 1) ∧ lk (mMsk 173) 65 = none := by decide +kernel
theorem i173_66 : decode (mCd 173) 66 = .ok (.iload_n 1, 1) ∧ lk (mMsk 173) 66 = none := by decide +kernel
theorem i173_67 : decode (mCd 173) 67 = .ok (.invokevirtual 250, 3) ∧ lk (mMsk 173) 67 = none := by decide +kernel
theorem c173_250 : cvOk 173 250 153 1 0 = true := by decide +kernel
theorem i173_70 : decode (mCd 173) 70 = .ok (.i2l, 1) ∧ lk (mMsk 173) 70 = none := by decide +kernel
theorem i173_71 : decode (mCd 173) 71 = .ok (.invokevirtual 319, 3) ∧ lk (mMsk 173) 71 = none := by decide +kernel
theorem i173_74 : decode (mCd 173) 74 = .ok (.return_, 1) ∧ lk (mMsk 173) 74 = none := by decide +kernel
theorem i173_35 : decode (mCd 173) 35 = .ok (.iload_n 2, 1) ∧ lk (mMsk 173) 35 = none := by decide +kernel
theorem i173_36 : decode (mCd 173) 36 = .ok (.iload_n 1, 1) ∧ lk (mMsk 173) 36 = none := by decide +kernel
theorem i173_37 : decode (mCd 173) 37 = .ok (.if_icmp .eq 21, 3) ∧ lk (mMsk 173) 37 = none := by decide +kernel
theorem i173_58 : decode (mCd 173) 58 = .ok (.iinc 2 1, 3) ∧ lk (mMsk 173) 58 = some [true, true, true] := by decide +kernel
theorem i173_40 : decode (mCd 173) 40 = .ok (.aload_n 0, 1) ∧ lk (mMsk 173) 40 = none := by decide +kernel
theorem i173_41 : decode (mCd 173) 41 = .ok (.aload_n 0, 1) ∧ lk (mMsk 173) 41 = none := by decide +kernel
theorem i173_42 : decode (mCd 173) 42 = .ok (.iload_n 1, 1) ∧ lk (mMsk 173) 42 = none := by decide +kernel
theorem i173_43 : decode (mCd 173) 43 = .ok (.iload_n 2, 1) ∧ lk (mMsk 173) 43 = none := by decide +kernel
theorem i173_44 : decode (mCd 173) 44 = .ok (.invokevirtual 177, 3) ∧ lk (mMsk 173) 44 = none := by decide +kernel
theorem c173_177 : cvOk 173 177 130 2 0 = true := by decide +kernel
theorem i173_47 : decode (mCd 173) 47 = .ok (.ifCond .eq 7, 3) ∧ lk (mMsk 173) 47 = none := by decide +kernel
theorem i173_54 : decode (mCd 173) 54 = .ok (.lconst 0, 1) ∧ lk (mMsk 173) 54 = none := by decide +kernel
theorem i173_55 : decode (mCd 173) 55 = .ok (.invokevirtual 319, 3) ∧ lk (mMsk 173) 55 = some [true, true, true] := by decide +kernel
theorem i173_50 : decode (mCd 173) 50 = .ok (.lconst 1, 1) ∧ lk (mMsk 173) 50 = none := by decide +kernel
theorem i173_51 : decode (mCd 173) 51 = .ok (.goto 4, 3) ∧ lk (mMsk 173) 51 = none := by decide +kernel
theorem i173_61 : decode (mCd 173) 61 = .ok (.goto (-34), 3) ∧ lk (mMsk 173) 61 = none := by decide +kernel
theorem i174_0 : decode (mCd 174) 0 = .ok (.aload_n 0, 1) ∧ lk (mMsk 174) 0 = none := by decide +kernel
theorem i174_1 : decode (mCd 174) 1 = .ok (.ldc2_w 323, 3) ∧ lk (mMsk 174) 1 = none := by decide +kernel
theorem q174_323 : lk (mKt (mOwn 174)) 323 = some (.inr 617) := by decide +kernel
theorem i174_4 : decode (mCd 174) 4 = .ok (.putfield 316, 3) ∧ lk (mMsk 174) 4 = none := by decide +kernel
theorem p174_316 : pOk 174 316 9 52 = true := by decide +kernel
theorem i174_7 : decode (mCd 174) 7 = .ok (.iconst 0, 1) ∧ lk (mMsk 174) 7 = none := by decide +kernel
theorem i174_8 : decode (mCd 174) 8 = .ok (.istore_n 1, 1) ∧ lk (mMsk 174) 8 = none := by decide +kernel
theorem i174_9 : decode (mCd 174) 9 = .ok (.iload_n 1, 1) ∧ lk (mMsk 174) 9 = some [true, true, false] := by decide +kernel
theorem i174_10 : decode (mCd 174) 10 = .ok (.aload_n 0, 1) ∧ lk (mMsk 174) 10 = none := by decide +kernel
theorem i174_11 : decode (mCd 174) 11 = .ok (.getfield 140, 3) ∧ lk (mMsk 174) 11 = none := by decide +kernel
theorem g174_140 : fOk 174 140 9 0 = true := by decide +kernel
theorem i174_14 : decode (mCd 174) 14 = .ok (.if_icmp .ge 33, 3) ∧ lk (mMsk 174) 14 = none := by decide +kernel
theorem i174_47 : decode (mCd 174) 47 = .ok (.iconst 0, 1) ∧ lk (mMsk 174) 47 = none := by decide +kernel
theorem i174_48 : decode (mCd 174) 48 = .ok (.istore_n 1, 1) ∧ lk (mMsk 174) 48 = none := by decide +kernel
theorem i174_49 : decode (mCd 174) 49 = .ok (.iload_n 1, 1) ∧ lk (mMsk 174) 49 = some [true, true, false] := by decide +kernel
theorem i174_17 : decode (mCd 174) 17 = .ok (.iconst 0, 1) ∧ lk (mMsk 174) 17 = none := by decide +kernel
theorem i174_18 : decode (mCd 174) 18 = .ok (.istore_n 2, 1) ∧ lk (mMsk 174) 18 = none := by decide +kernel
theorem i174_19 : decode (mCd 174) 19 = .ok (.iload_n 2, 1) ∧ lk (mMsk 174) 19 = some [true, true, true] := by decide +kernel
theorem i174_20 : decode (mCd 174) 20 = .ok (.iconst 3, 1) ∧ lk (mMsk 174) 20 = none := by decide +kernel
theorem i174_21 : decode (mCd 174) 21 = .ok (.if_icmp .ge 20, 3) ∧ lk (mMsk 174) 21 = none := by decide +kernel
theorem i174_41 : decode (mCd 174) 41 = .ok (.iinc 1 1, 3) ∧ lk (mMsk 174) 41 = none := by decide +kernel
theorem i174_44 : decode (mCd 174) 44 = .ok (.goto (-35), 3) ∧ lk (mMsk 174) 44 = none := by decide +kernel
theorem i174_24 : decode (mCd 174) 24 = .ok (.aload_n 0, 1) ∧ lk (mMsk 174) 24 = none := by decide +kernel
theorem i174_25 : decode (mCd 174) 25 = .ok (.aload_n 0, 1) ∧ lk (mMsk 174) 25 = none := by decide +kernel
theorem i174_26 : decode (mCd 174) 26 = .ok (.iload_n 1, 1) ∧ lk (mMsk 174) 26 = none := by decide +kernel
theorem i174_27 : decode (mCd 174) 27 = .ok (.iload_n 2, 1) ∧ lk (mMsk 174) 27 = none := by decide +kernel
theorem i174_28 : decode (mCd 174) 28 = .ok (.invokevirtual 158, 3) ∧ lk (mMsk 174) 28 = none := by decide +kernel
theorem c174_158 : cvOk 174 158 118 2 0 = true := by decide +kernel
theorem i174_31 : decode (mCd 174) 31 = .ok (.i2l, 1) ∧ lk (mMsk 174) 31 = none := by decide +kernel
theorem i174_32 : decode (mCd 174) 32 = .ok (.invokevirtual 319, 3) ∧ lk (mMsk 174) 32 = none := by decide +kernel
theorem c174_319 : cvOk 174 319 172 1 3 = true := by decide +kernel
theorem i174_35 : decode (mCd 174) 35 = .ok (.iinc 2 1, 3) ∧ lk (mMsk 174) 35 = none := by decide +kernel
theorem i174_38 : decode (mCd 174) 38 = .ok (.goto (-19), 3) ∧ lk (mMsk 174) 38 = none := by decide +kernel
theorem i174_50 : decode (mCd 174) 50 = .ok (.aload_n 0, 1) ∧ lk (mMsk 174) 50 = none := by decide +kernel
theorem i174_51 : decode (mCd 174) 51 = .ok (.getfield 152, 3) ∧ lk (mMsk 174) 51 = none := by decide +kernel
theorem g174_152 : fOk 174 152 9 7 = true := by decide +kernel
theorem i174_54 : decode (mCd 174) 54 = .ok (.if_icmp .ge 14, 3) ∧ lk (mMsk 174) 54 = none := by decide +kernel
theorem i174_68 : decode (mCd 174) 68 = .ok (.iconst 0, 1) ∧ lk (mMsk 174) 68 = none := by decide +kernel
theorem i174_69 : decode (mCd 174) 69 = .ok (.istore_n 1, 1) ∧ lk (mMsk 174) 69 = none := by decide +kernel
theorem i174_70 : decode (mCd 174) 70 = .ok (.iload_n 1, 1) ∧ lk (mMsk 174) 70 = some [true, true, false] := by decide +kernel
theorem i174_57 : decode (mCd 174) 57 = .ok (.aload_n 0, 1) ∧ lk (mMsk 174) 57 = none := by decide +kernel
theorem i174_58 : decode (mCd 174) 58 = .ok (.iload_n 1, 1) ∧ lk (mMsk 174) 58 = none := by decide +kernel
theorem i174_59 : decode (mCd 174) 59 = .ok (.invokevirtual 325, 3) ∧ lk (mMsk 174) 59 = none := by decide +kernel
theorem c174_325 : cvOk 174 325 173 1 3 = true := by decide +kernel
theorem i174_62 : decode (mCd 174) 62 = .ok (.iinc 1 1, 3) ∧ lk (mMsk 174) 62 = none := by decide +kernel
theorem i174_65 : decode (mCd 174) 65 = .ok (.goto (-16), 3) ∧ lk (mMsk 174) 65 = none := by decide +kernel
theorem i174_71 : decode (mCd 174) 71 = .ok (.bipush 8, 2) ∧ lk (mMsk 174) 71 = none := by decide +kernel
theorem i174_73 : decode (mCd 174) 73 = .ok (.if_icmp .ge 27, 3) ∧ lk (mMsk 174) 73 = none := by decide +kernel
theorem i174_100 : decode (mCd 174) 100 = .ok (.iconst 0, 1) ∧ lk (mMsk 174) 100 = some [true, false, false] := by decide +kernel
theorem i174_76 : decode (mCd 174) 76 = .ok (.aload_n 0, 1) ∧ lk (mMsk 174) 76 = none := by decide +kernel
theorem i174_77 : decode (mCd 174) 77 = .ok (.getfield 149, 3) ∧ lk (mMsk 174) 77 = none := by decide +kernel
theorem g174_149 : fOk 174 149 9 6 = true := by decide +kernel
theorem i174_80 : decode (mCd 174) 80 = .ok (.ifCond .le 20, 3) ∧ lk (mMsk 174) 80 = none := by decide +kernel
theorem i174_83 : decode (mCd 174) 83 = .ok (.aload_n 0, 1) ∧ lk (mMsk 174) 83 = none := by decide +kernel
theorem i174_84 : decode (mCd 174) 84 = .ok (.aload_n 0, 1) ∧ lk (mMsk 174) 84 = none := by decide +kernel
theorem i174_85 : decode (mCd 174) 85 = .ok (.getfield 41, 3) ∧ lk (mMsk 174) 85 = none := by decide +kernel
theorem g174_41 : fOk 174 41 9 15 = true := by decide +kernel
theorem i174_88 : decode (mCd 174) 88 = .ok (.iload_n 1, 1) ∧ lk (mMsk 174) 88 = none := by decide +kernel
theorem i174_89 : decode (mCd 174) 89 = .ok (.iaload, 1) ∧ lk (mMsk 174) 89 = none := by decide +kernel
theorem i174_90 : decode (mCd 174) 90 = .ok (.i2l, 1) ∧ lk (mMsk 174) 90 = none := by decide +kernel
theorem i174_91 : decode (mCd 174) 91 = .ok (.invokevirtual 319, 3) ∧ lk (mMsk 174) 91 = none := by decide +kernel
theorem i174_94 : decode (mCd 174) 94 = .ok (.iinc 1 1, 3) ∧ lk (mMsk 174) 94 = none := by decide +kernel
theorem i174_97 : decode (mCd 174) 97 = .ok (.goto (-27), 3) ∧ lk (mMsk 174) 97 = none := by decide +kernel
theorem i174_101 : decode (mCd 174) 101 = .ok (.istore_n 1, 1) ∧ lk (mMsk 174) 101 = none := by decide +kernel
theorem i174_102 : decode (mCd 174) 102 = .ok (.iload_n 1, 1) ∧ lk (mMsk 174) 102 = some [true, true, false] := by decide +kernel
theorem i174_103 : decode (mCd 174) 103 = .ok (.iconst 3, 1) ∧ lk (mMsk 174) 103 = none := by decide +kernel
theorem i174_104 : decode (mCd 174) 104 = .ok (.if_icmp .ge 19, 3) ∧ lk (mMsk 174) 104 = none := by decide +kernel
theorem i174_123 : decode (mCd 174) 123 = .ok (.aload_n 0, 1) ∧ lk (mMsk 174) 123 = none := by decide +kernel
theorem i174_124 : decode (mCd 174) 124 = .ok (.getfield 152, 3) ∧ lk (mMsk 174) 124 = none := by decide +kernel
theorem i174_127 : decode (mCd 174) 127 = .ok (.iconst 3, 1) ∧ lk (mMsk 174) 127 = none := by decide +kernel
theorem i174_128 : decode (mCd 174) 128 = .ok (.if_icmp .ge 10, 3) ∧ lk (mMsk 174) 128 = none := by decide +kernel
theorem i174_138 : decode (mCd 174) 138 = .ok (.iconst 3, 1) ∧ lk (mMsk 174) 138 = none := by decide +kernel
theorem i174_139 : decode (mCd 174) 139 = .ok (.istore_n 1, 1) ∧ lk (mMsk 174) 139 = some [true, false, false] := by decide +kernel
theorem i174_131 : decode (mCd 174) 131 = .ok (.aload_n 0, 1) ∧ lk (mMsk 174) 131 = none := by decide +kernel
theorem i174_132 : decode (mCd 174) 132 = .ok (.getfield 152, 3) ∧ lk (mMsk 174) 132 = none := by decide +kernel
theorem i174_135 : decode (mCd 174) 135 = .ok (.goto 4, 3) ∧ lk (mMsk 174) 135 = none := by decide +kernel
theorem i174_107 : decode (mCd 174) 107 = .ok (.aload_n 0, 1) ∧ lk (mMsk 174) 107 = none := by decide +kernel
theorem i174_108 : decode (mCd 174) 108 = .ok (.aload_n 0, 1) ∧ lk (mMsk 174) 108 = none := by decide +kernel
theorem i174_109 : decode (mCd 174) 109 = .ok (.iload_n 1, 1) ∧ lk (mMsk 174) 109 = none := by decide +kernel
theorem i174_110 : decode (mCd 174) 110 = .ok (.invokevirtual 221, 3) ∧ lk (mMsk 174) 110 = none := by decide +kernel
theorem c174_221 : cvOk 174 221 142 1 0 = true := by decide +kernel
theorem i174_113 : decode (mCd 174) 113 = .ok (.i2l, 1) ∧ lk (mMsk 174) 113 = none := by decide +kernel
theorem i174_114 : decode (mCd 174) 114 = .ok (.invokevirtual 319, 3) ∧ lk (mMsk 174) 114 = none := by decide +kernel
theorem i174_117 : decode (mCd 174) 117 = .ok (.iinc 1 1, 3) ∧ lk (mMsk 174) 117 = none := by decide +kernel
theorem i174_120 : decode (mCd 174) 120 = .ok (.goto (-18), 3) ∧ lk (mMsk 174) 120 = none := by decide +kernel
theorem i174_140 : decode (mCd 174) 140 = .ok (.aload_n 0, 1) ∧ lk (mMsk 174) 140 = none := by decide +kernel
theorem i174_141 : decode (mCd 174) 141 = .ok (.aload_n 0, 1) ∧ lk (mMsk 174) 141 = none := by decide +kernel
theorem i174_142 : decode (mCd 174) 142 = .ok (.iconst 1, 1) ∧ lk (mMsk 174) 142 = none := by decide +kernel
theorem i174_143 : decode (mCd 174) 143 = .ok (.iload_n 1, 1) ∧ lk (mMsk 174) 143 = none := by decide +kernel
theorem i174_144 : decode (mCd 174) 144 = .ok (.ishl, 1) ∧ lk (mMsk 174) 144 = none := by decide +kernel
theorem i174_145 : decode (mCd 174) 145 = .ok (.iconst 1, 1) ∧ lk (mMsk 174) 145 = none := by decide +kernel
theorem i174_146 : decode (mCd 174) 146 = .ok (.isub, 1) ∧ lk (mMsk 174) 146 = none := by decide +kernel
theorem i174_147 : decode (mCd 174) 147 = .ok (.iconst 0, 1) ∧ lk (mMsk 174) 147 = none := by decide +kernel
theorem i174_148 : decode (mCd 174) 148 = .ok (.invokevirtual 262, 3) ∧ lk (mMsk 174) 148 = none := by decide +kernel
theorem c174_262 : cvOk 174 262 156 2 0 = true := by decide +kernel
theorem i174_151 : decode (mCd 174) 151 = .ok (.i2l, 1) ∧ lk (mMsk 174) 151 = none := by decide +kernel
theorem i174_152 : decode (mCd 174) 152 = .ok (.invokevirtual 319, 3) ∧ lk (mMsk 174) 152 = none := by decide +kernel
theorem i174_155 : decode (mCd 174) 155 = .ok (.iconst 0, 1) ∧ lk (mMsk 174) 155 = none := by decide +kernel
theorem i174_156 : decode (mCd 174) 156 = .ok (.istore_n 2, 1) ∧ lk (mMsk 174) 156 = none := by decide +kernel
theorem i174_157 : decode (mCd 174) 157 = .ok (.iload_n 2, 1) ∧ lk (mMsk 174) 157 = some [true, false, true] := by decide +kernel
theorem i174_158 : decode (mCd 174) 158 = .ok (.aload_n 0, 1) ∧ lk (mMsk 174) 158 = none := by decide +kernel
theorem i174_159 : decode (mCd 174) 159 = .ok (.getfield 98, 3) ∧ lk (mMsk 174) 159 = none := by decide +kernel
theorem g174_98 : fOk 174 98 9 18 = true := by decide +kernel
theorem i174_162 : decode (mCd 174) 162 = .ok (.if_icmp .ge 20, 3) ∧ lk (mMsk 174) 162 = none := by decide +kernel
theorem i174_182 : decode (mCd 174) 182 = .ok (.iconst 0, 1) ∧ lk (mMsk 174) 182 = none := by decide +kernel
theorem i174_183 : decode (mCd 174) 183 = .ok (.istore_n 2, 1) ∧ lk (mMsk 174) 183 = none := by decide +kernel
theorem i174_184 : decode (mCd 174) 184 = .ok (.iload_n 2, 1) ∧ lk (mMsk 174) 184 = some [true, false, true] := by decide +kernel
theorem i174_165 : decode (mCd 174) 165 = .ok (.aload_n 0, 1) ∧ lk (mMsk 174) 165 = none := by decide +kernel
theorem i174_166 : decode (mCd 174) 166 = .ok (.aload_n 0, 1) ∧ lk (mMsk 174) 166 = none := by decide +kernel
theorem i174_167 : decode (mCd 174) 167 = .ok (.getfield 44, 3) ∧ lk (mMsk 174) 167 = none := by decide +kernel
theorem g174_44 : fOk 174 44 9 19 = true := by decide +kernel
theorem i174_170 : decode (mCd 174) 170 = .ok (.iload_n 2, 1) ∧ lk (mMsk 174) 170 = none := by decide +kernel
theorem i174_171 : decode (mCd 174) 171 = .ok (.baload, 1) ∧ lk (mMsk 174) 171 = none := by decide +kernel
theorem i174_172 : decode (mCd 174) 172 = .ok (.i2l, 1) ∧ lk (mMsk 174) 172 = none := by decide +kernel
theorem i174_173 : decode (mCd 174) 173 = .ok (.invokevirtual 319, 3) ∧ lk (mMsk 174) 173 = none := by decide +kernel
theorem i174_176 : decode (mCd 174) 176 = .ok (.iinc 2 1, 3) ∧ lk (mMsk 174) 176 = none := by decide +kernel
theorem i174_179 : decode (mCd 174) 179 = .ok (.goto (-22), 3) ∧ lk (mMsk 174) 179 = none := by decide +kernel
theorem i174_185 : decode (mCd 174) 185 = .ok (.bipush 10, 2) ∧ lk (mMsk 174) 185 = none := by decide +kernel
theorem i174_187 : decode (mCd 174) 187 = .ok (.if_icmp .ge 19, 3) ∧ lk (mMsk 174) 187 = none := by decide +kernel
theorem i174_206 : decode (mCd 174) 206 = .ok (.aload_n 0, 1) ∧ lk (mMsk 174) 206 = none := by decide +kernel
theorem i174_207 : decode (mCd 174) 207 = .ok (.getfield 316, 3) ∧ lk (mMsk 174) 207 = none := by decide +kernel
theorem g174_316 : fOk 174 316 9 52 = true := by decide +kernel
theorem i174_210 : decode (mCd 174) 210 = .ok (.lreturn, 1) ∧ lk (mMsk 174) 210 = none := by decide +kernel
theorem i174_190 : decode (mCd 174) 190 = .ok (.aload_n 0, 1) ∧ lk (mMsk 174) 190 = none := by decide +kernel
theorem i174_191 : decode (mCd 174) 191 = .ok (.aload_n 0, 1) ∧ lk (mMsk 174) 191 = none := by decide +kernel
theorem i174_192 : decode (mCd 174) 192 = .ok (.iload_n 2, 1) ∧ lk (mMsk 174) 192 = none := by decide +kernel
theorem i174_193 : decode (mCd 174) 193 = .ok (.invokevirtual 311, 3) ∧ lk (mMsk 174) 193 = none := by decide +kernel
theorem c174_311 : cvOk 174 311 170 1 0 = true := by decide +kernel
theorem i174_196 : decode (mCd 174) 196 = .ok (.i2l, 1) ∧ lk (mMsk 174) 196 = none := by decide +kernel
theorem i174_197 : decode (mCd 174) 197 = .ok (.invokevirtual 319, 3) ∧ lk (mMsk 174) 197 = none := by decide +kernel
theorem i174_200 : decode (mCd 174) 200 = .ok (.iinc 2 1, 3) ∧ lk (mMsk 174) 200 = none := by decide +kernel
theorem i174_203 : decode (mCd 174) 203 = .ok (.goto (-19), 3) ∧ lk (mMsk 174) 203 = none := by decide +kernel
theorem f_Mod_within_eq {x0 : Int32} {x1 : Int32} {x2 : Int32}  {S : Mem} : f_Mod_within x0 x1 x2 S = if x0 < x1 then k_Mod_within_14 S else if x2 < x0 then k_Mod_within_14 S else k_Mod_within_15 1 S := by
  show cI (mV oS X0 107 0 [some (.int x0), some (.int x1), some (.int x2)] [] S) = _
  refine V_iload_n (c := cI) i107_0.1 (mM_n i107_0.2) rfl ?_
  refine V_iload_n (c := cI) i107_1.1 (mM_n i107_1.2) rfl ?_
  refine V_icmp_lt (c := cI) i107_2.1 (mM_n i107_2.2) rfl (fun _ => ?_) (fun _ => ?_)
  · exact V_msk (l1 := [none, none, none]) i107_14.2 rfl rfl
  · refine V_iload_n (c := cI) i107_5.1 (mM_n i107_5.2) rfl ?_
    refine V_iload_n (c := cI) i107_6.1 (mM_n i107_6.2) rfl ?_
    refine V_icmp_gt (c := cI) i107_7.1 (mM_n i107_7.2) rfl (fun _ => ?_) (fun _ => ?_)
    · exact V_msk (l1 := [none, none, none]) i107_14.2 rfl rfl
    · refine V_iconst (c := cI) i107_10.1 (mM_n i107_10.2) (v := 1) rfl ?_
      refine V_goto (c := cI) i107_11.1 (mM_n i107_11.2) rfl ?_
      exact V_msk (l1 := [none, none, none]) i107_15.2 rfl rfl
theorem k_Mod_within_14_eq   {S : Mem} : k_Mod_within_14  S = k_Mod_within_15 0 S := by
  show cI (mV oS X0 107 14 [none, none, none] [] S) = _
  refine V_iconst (c := cI) i107_14.1 (mM_s i107_14.2 rfl) (v := 0) rfl ?_
  exact V_msk (l1 := [none, none, none]) i107_15.2 rfl rfl
theorem k_Mod_within_15_eq {xs0 : Int32}  {S : Mem} : k_Mod_within_15 xs0 S = if zb xs0 = true then some (xs0, S) else none := by
  show cI (mV oS X0 107 15 [none, none, none] [.int xs0] S) = _
  exact V_iretZ i107_15.1 (mM_s i107_15.2 rfl) rfl
theorem f_Mod_has_eq {x0 : Int32} {x1 : Int32}  {S : Mem} : f_Mod_has x0 x1 S = if ((x0 >>> (x1 &&& 31)) &&& 1) = 1 then k_Mod_has_14 1 S else k_Mod_has_14 0 S := by
  show cI (mV oS X0 108 0 [some (.int x0), some (.int x1)] [] S) = _
  refine V_iload_n (c := cI) i108_0.1 (mM_n i108_0.2) rfl ?_
  refine V_iload_n (c := cI) i108_1.1 (mM_n i108_1.2) rfl ?_
  refine V_ishr (c := cI) i108_2.1 (mM_n i108_2.2)  ?_
  refine V_iconst (c := cI) i108_3.1 (mM_n i108_3.2) (v := 1) rfl ?_
  refine V_iand (c := cI) i108_4.1 (mM_n i108_4.2)  ?_
  refine V_iconst (c := cI) i108_5.1 (mM_n i108_5.2) (v := 1) rfl ?_
  refine V_icmp_ne (c := cI) i108_6.1 (mM_n i108_6.2) rfl (fun _ => ?_) (fun _ => ?_)
  · refine V_iconst (c := cI) i108_9.1 (mM_n i108_9.2) (v := 1) rfl ?_
    refine V_goto (c := cI) i108_10.1 (mM_n i108_10.2) rfl ?_
    exact V_msk (l1 := [none, none]) i108_14.2 rfl rfl
  · refine V_iconst (c := cI) i108_13.1 (mM_n i108_13.2) (v := 0) rfl ?_
    exact V_msk (l1 := [none, none]) i108_14.2 rfl rfl
theorem k_Mod_has_14_eq {xs0 : Int32}  {S : Mem} : k_Mod_has_14 xs0 S = if zb xs0 = true then some (xs0, S) else none := by
  show cI (mV oS X0 108 14 [none, none] [.int xs0] S) = _
  exact V_iretZ i108_14.1 (mM_s i108_14.2 rfl) rfl
theorem f_Mod_letters_eq {j1 : Int64}  {S : Mem} : f_Mod_letters j1 S = k_Mod_letters_8 j1 0 0 0 S := by
  show cI (mV oS X0 109 0 [some (.ref 55), some (.long j1), none, none, none, none, none] [] S) = _
  refine V_iconst (c := cI) i109_0.1 (mM_n i109_0.2) (v := 0) rfl ?_
  refine V_istore_n (c := cI) i109_1.1 (mM_n i109_1.2) (l1 := [some (.ref 55), some (.long j1), none, some (.int 0), none, none, none])  (Nat.le_of_ble_eq_true rfl) rfl ?_
  refine V_iconst (c := cI) i109_2.1 (mM_n i109_2.2) (v := 0) rfl ?_
  refine V_istore (c := cI) i109_3.1 (mM_n i109_3.2) (l1 := [some (.ref 55), some (.long j1), none, some (.int 0), some (.int 0), none, none])  (Nat.le_of_ble_eq_true rfl) rfl ?_
  refine V_iconst (c := cI) i109_5.1 (mM_n i109_5.2) (v := 0) rfl ?_
  refine V_istore (c := cI) i109_6.1 (mM_n i109_6.2) (l1 := [some (.ref 55), some (.long j1), none, some (.int 0), some (.int 0), some (.int 0), none])  (Nat.le_of_ble_eq_true rfl) rfl ?_
  exact V_msk (l1 := [some (.ref 55), some (.long j1), none, some (.int 0), some (.int 0), some (.int 0), none]) i109_8.2 rfl rfl
theorem k_Mod_letters_8_eq {j1 : Int64} {x3 : Int32} {x4 : Int32} {x5 : Int32}  {S : Mem} : k_Mod_letters_8 j1 x3 x4 x5 S = if 8 ≤ x5 then if ((S.1 55 18) + x3) ≤ 50 then k_Mod_letters_102 j1 x3 0 S else some ((-104), S) else if 126 < (((j1 >>> (((8 : Int32) * x5).toInt64 &&& 63)) &&& 255).toInt32) then k_Mod_letters_46 S else if x4 = 0 then k_Mod_letters_49 j1 x3 x4 x5 (((j1 >>> (((8 : Int32) * x5).toInt64 &&& 63)) &&& 255).toInt32) S else if (((j1 >>> (((8 : Int32) * x5).toInt64 &&& 63)) &&& 255).toInt32) = 0 then k_Mod_letters_49 j1 x3 x4 x5 (((j1 >>> (((8 : Int32) * x5).toInt64 &&& 63)) &&& 255).toInt32) S else k_Mod_letters_46 S := by
  show cI (mV oS X0 109 8 [some (.ref 55), some (.long j1), none, some (.int x3), some (.int x4), some (.int x5), none] [] S) = _
  refine V_iload (c := cI) i109_8.1 (mM_s i109_8.2 rfl) rfl ?_
  refine V_bipush (c := cI) i109_10.1 (mM_n i109_10.2) (v := 8) rfl ?_
  refine V_icmp_ge (c := cI) i109_12.1 (mM_n i109_12.2) rfl (fun _ => ?_) (fun _ => ?_)
  · refine V_aload_n (c := cI) i109_85.1 (mM_n i109_85.2) rfl rfl ?_
    refine V_gf (c := cI) i109_86.1 (mM_n i109_86.2) (v := .int (S.1 55 18)) g109_98 rfl ?_
    refine V_iload_n (c := cI) i109_89.1 (mM_n i109_89.2) rfl ?_
    refine V_iadd (c := cI) i109_90.1 (mM_n i109_90.2)  ?_
    refine V_bipush (c := cI) i109_91.1 (mM_n i109_91.2) (v := 50) rfl ?_
    refine V_icmp_le (c := cI) i109_93.1 (mM_n i109_93.2) rfl (fun _ => ?_) (fun _ => ?_)
    · refine V_iconst (c := cI) i109_99.1 (mM_n i109_99.2) (v := 0) rfl ?_
      refine V_istore (c := cI) i109_100.1 (mM_n i109_100.2) (l1 := [some (.ref 55), some (.long j1), none, some (.int x3), some (.int x4), some (.int 0), none])  (Nat.le_of_ble_eq_true rfl) rfl ?_
      exact V_msk (l1 := [some (.ref 55), some (.long j1), none, some (.int x3), none, some (.int 0), none]) i109_102.2 rfl rfl
    · refine V_bipush (c := cI) i109_96.1 (mM_n i109_96.2) (v := (-104)) rfl ?_
      exact V_iret i109_98.1 (mM_n i109_98.2) rfl
  · refine V_lload_n (c := cI) i109_15.1 (mM_n i109_15.2) rfl ?_
    refine V_bipush (c := cI) i109_16.1 (mM_n i109_16.2) (v := 8) rfl ?_
    refine V_iload (c := cI) i109_18.1 (mM_n i109_18.2) rfl ?_
    refine V_imul (c := cI) i109_20.1 (mM_n i109_20.2)  ?_
    refine V_lshr (c := cI) i109_21.1 (mM_n i109_21.2)  ?_
    refine V_ldc2_w (c := cI) i109_22.1 (mM_n i109_22.2) q109_96 ?_
    refine V_land (c := cI) i109_25.1 (mM_n i109_25.2)  ?_
    refine V_l2i (c := cI) i109_26.1 (mM_n i109_26.2)  ?_
    refine V_istore (c := cI) i109_27.1 (mM_n i109_27.2) (l1 := [some (.ref 55), some (.long j1), none, some (.int x3), some (.int x4), some (.int x5), some (.int (((j1 >>> (((8 : Int32) * x5).toInt64 &&& 63)) &&& 255).toInt32))])  (Nat.le_of_ble_eq_true rfl) rfl ?_
    refine V_iload (c := cI) i109_29.1 (mM_n i109_29.2) rfl ?_
    refine V_bipush (c := cI) i109_31.1 (mM_n i109_31.2) (v := 126) rfl ?_
    refine V_icmp_gt (c := cI) i109_33.1 (mM_n i109_33.2) rfl (fun _ => ?_) (fun _ => ?_)
    · exact V_msk (l1 := [none, none, none, none, none, none, none]) i109_46.2 rfl rfl
    · refine V_iload (c := cI) i109_36.1 (mM_n i109_36.2) rfl ?_
      refine V_if_eq (c := cI) i109_38.1 (mM_n i109_38.2) rfl (fun _ => ?_) (fun _ => ?_)
      · exact V_msk (l1 := [some (.ref 55), some (.long j1), none, some (.int x3), some (.int x4), some (.int x5), some (.int (((j1 >>> (((8 : Int32) * x5).toInt64 &&& 63)) &&& 255).toInt32))]) i109_49.2 rfl rfl
      · refine V_iload (c := cI) i109_41.1 (mM_n i109_41.2) rfl ?_
        refine V_if_eq (c := cI) i109_43.1 (mM_n i109_43.2) rfl (fun _ => ?_) (fun _ => ?_)
        · exact V_msk (l1 := [some (.ref 55), some (.long j1), none, some (.int x3), some (.int x4), some (.int x5), some (.int (((j1 >>> (((8 : Int32) * x5).toInt64 &&& 63)) &&& 255).toInt32))]) i109_49.2 rfl rfl
        · exact V_msk (l1 := [none, none, none, none, none, none, none]) i109_46.2 rfl rfl
theorem k_Mod_letters_46_eq   {S : Mem} : k_Mod_letters_46  S = some ((-102), S) := by
  show cI (mV oS X0 109 46 [none, none, none, none, none, none, none] [] S) = _
  refine V_bipush (c := cI) i109_46.1 (mM_s i109_46.2 rfl) (v := (-102)) rfl ?_
  exact V_iret i109_48.1 (mM_n i109_48.2) rfl
theorem k_Mod_letters_49_eq {j1 : Int64} {x3 : Int32} {x4 : Int32} {x5 : Int32} {x6 : Int32}  {S : Mem} : k_Mod_letters_49 j1 x3 x4 x5 x6 S = if x4 = 0 then if x6 = 0 then k_Mod_letters_59 j1 x3 x5 x6 S else k_Mod_letters_64 j1 x3 x5 x6 0 S else k_Mod_letters_59 j1 x3 x5 x6 S := by
  show cI (mV oS X0 109 49 [some (.ref 55), some (.long j1), none, some (.int x3), some (.int x4), some (.int x5), some (.int x6)] [] S) = _
  refine V_iload (c := cI) i109_49.1 (mM_s i109_49.2 rfl) rfl ?_
  refine V_if_ne (c := cI) i109_51.1 (mM_n i109_51.2) rfl (fun _ => ?_) (fun _ => ?_)
  · refine V_iload (c := cI) i109_54.1 (mM_n i109_54.2) rfl ?_
    refine V_if_ne (c := cI) i109_56.1 (mM_n i109_56.2) rfl (fun _ => ?_) (fun _ => ?_)
    · exact V_msk (l1 := [some (.ref 55), some (.long j1), none, some (.int x3), none, some (.int x5), some (.int x6)]) i109_59.2 rfl rfl
    · refine V_iconst (c := cI) i109_63.1 (mM_n i109_63.2) (v := 0) rfl ?_
      exact V_msk (l1 := [some (.ref 55), some (.long j1), none, some (.int x3), none, some (.int x5), some (.int x6)]) i109_64.2 rfl rfl
  · exact V_msk (l1 := [some (.ref 55), some (.long j1), none, some (.int x3), none, some (.int x5), some (.int x6)]) i109_59.2 rfl rfl
theorem k_Mod_letters_59_eq {j1 : Int64} {x3 : Int32} {x5 : Int32} {x6 : Int32}  {S : Mem} : k_Mod_letters_59 j1 x3 x5 x6 S = k_Mod_letters_64 j1 x3 x5 x6 1 S := by
  show cI (mV oS X0 109 59 [some (.ref 55), some (.long j1), none, some (.int x3), none, some (.int x5), some (.int x6)] [] S) = _
  refine V_iconst (c := cI) i109_59.1 (mM_s i109_59.2 rfl) (v := 1) rfl ?_
  refine V_goto (c := cI) i109_60.1 (mM_n i109_60.2) rfl ?_
  exact V_msk (l1 := [some (.ref 55), some (.long j1), none, some (.int x3), none, some (.int x5), some (.int x6)]) i109_64.2 rfl rfl
theorem k_Mod_letters_64_eq {j1 : Int64} {x3 : Int32} {x5 : Int32} {x6 : Int32} {xs0 : Int32}  {S : Mem} : k_Mod_letters_64 j1 x3 x5 x6 xs0 S = if x6 = 0 then k_Mod_letters_77 j1 xs0 x5 0 x3 S else k_Mod_letters_77 j1 xs0 x5 1 x3 S := by
  show cI (mV oS X0 109 64 [some (.ref 55), some (.long j1), none, some (.int x3), none, some (.int x5), some (.int x6)] [.int xs0] S) = _
  refine V_istore (c := cI) i109_64.1 (mM_s i109_64.2 rfl) (l1 := [some (.ref 55), some (.long j1), none, some (.int x3), some (.int xs0), some (.int x5), some (.int x6)])  (Nat.le_of_ble_eq_true rfl) rfl ?_
  refine V_iload_n (c := cI) i109_66.1 (mM_n i109_66.2) rfl ?_
  refine V_iload (c := cI) i109_67.1 (mM_n i109_67.2) rfl ?_
  refine V_if_ne (c := cI) i109_69.1 (mM_n i109_69.2) rfl (fun _ => ?_) (fun _ => ?_)
  · refine V_iconst (c := cI) i109_72.1 (mM_n i109_72.2) (v := 0) rfl ?_
    refine V_goto (c := cI) i109_73.1 (mM_n i109_73.2) rfl ?_
    exact V_msk (l1 := [some (.ref 55), some (.long j1), none, none, some (.int xs0), some (.int x5), none]) i109_77.2 rfl rfl
  · refine V_iconst (c := cI) i109_76.1 (mM_n i109_76.2) (v := 1) rfl ?_
    exact V_msk (l1 := [some (.ref 55), some (.long j1), none, none, some (.int xs0), some (.int x5), none]) i109_77.2 rfl rfl
theorem k_Mod_letters_77_eq {j1 : Int64} {x4 : Int32} {x5 : Int32} {xs0 : Int32} {xs1 : Int32}  {S : Mem} : k_Mod_letters_77 j1 x4 x5 xs0 xs1 S = k_Mod_letters_8 j1 (xs1 + xs0) x4 (x5 + 1) S := by
  show cI (mV oS X0 109 77 [some (.ref 55), some (.long j1), none, none, some (.int x4), some (.int x5), none] [.int xs0, .int xs1] S) = _
  refine V_iadd (c := cI) i109_77.1 (mM_s i109_77.2 rfl)  ?_
  refine V_istore_n (c := cI) i109_78.1 (mM_n i109_78.2) (l1 := [some (.ref 55), some (.long j1), none, some (.int (xs1 + xs0)), some (.int x4), some (.int x5), none])  (Nat.le_of_ble_eq_true rfl) rfl ?_
  refine V_iinc (c := cI) i109_79.1 (mM_n i109_79.2) (l1 := [some (.ref 55), some (.long j1), none, some (.int (xs1 + xs0)), some (.int x4), some (.int (x5 + 1)), none]) rfl rfl rfl ?_
  refine V_goto (c := cI) i109_82.1 (mM_n i109_82.2) rfl ?_
  exact V_msk (l1 := [some (.ref 55), some (.long j1), none, some (.int (xs1 + xs0)), some (.int x4), some (.int (x5 + 1)), none]) i109_8.2 rfl rfl
theorem k_Mod_letters_102_eq {j1 : Int64} {x3 : Int32} {x5 : Int32}  {S : Mem} : k_Mod_letters_102 j1 x3 x5 S = if x3 ≤ x5 then some (((S.1 55 18) + x3), u1 S 55 18 ((S.1 55 18) + x3)) else if inb ((S.1 55 18) + x5) 50 = true then k_Mod_letters_102 j1 x3 (x5 + 1) (u1 S 67 (((S.1 55 18) + x5).toNatClampNeg) (vp_nar .byte (((j1 >>> (((8 : Int32) * x5).toInt64 &&& 63)).toInt32).toInt8.toInt32))) else none := by
  show cI (mV oS X0 109 102 [some (.ref 55), some (.long j1), none, some (.int x3), none, some (.int x5), none] [] S) = _
  refine V_iload (c := cI) i109_102.1 (mM_s i109_102.2 rfl) rfl ?_
  refine V_iload_n (c := cI) i109_104.1 (mM_n i109_104.2) rfl ?_
  refine V_icmp_ge (c := cI) i109_105.1 (mM_n i109_105.2) rfl (fun _ => ?_) (fun _ => ?_)
  · refine V_aload_n (c := cI) i109_135.1 (mM_n i109_135.2) rfl rfl ?_
    refine V_dup (c := cI) i109_136.1 (mM_n i109_136.2) rfl ?_
    refine V_gf (c := cI) i109_137.1 (mM_n i109_137.2) (v := .int (S.1 55 18)) g109_98 rfl ?_
    refine V_iload_n (c := cI) i109_140.1 (mM_n i109_140.2) rfl ?_
    refine V_iadd (c := cI) i109_141.1 (mM_n i109_141.2)  ?_
    refine V_pf (c := cI) i109_142.1 (mM_n i109_142.2) p109_98 (pf_i rfl rfl rfl) ?_
    refine V_aload_n (c := cI) i109_145.1 (mM_n i109_145.2) rfl rfl ?_
    refine V_gf (c := cI) i109_146.1 (mM_n i109_146.2) (v := .int ((S.1 55 18) + x3)) g109_98 rfl ?_
    exact V_iret i109_149.1 (mM_n i109_149.2) rfl
  · refine V_aload_n (c := cI) i109_108.1 (mM_n i109_108.2) rfl rfl ?_
    refine V_gf (c := cI) i109_109.1 (mM_n i109_109.2) (v := .ref 67) g109_44 rfl ?_
    refine V_aload_n (c := cI) i109_112.1 (mM_n i109_112.2) rfl rfl ?_
    refine V_gf (c := cI) i109_113.1 (mM_n i109_113.2) (v := .int (S.1 55 18)) g109_98 rfl ?_
    refine V_iload (c := cI) i109_116.1 (mM_n i109_116.2) rfl ?_
    refine V_iadd (c := cI) i109_118.1 (mM_n i109_118.2)  ?_
    refine V_lload_n (c := cI) i109_119.1 (mM_n i109_119.2) rfl ?_
    refine V_bipush (c := cI) i109_120.1 (mM_n i109_120.2) (v := 8) rfl ?_
    refine V_iload (c := cI) i109_122.1 (mM_n i109_122.2) rfl ?_
    refine V_imul (c := cI) i109_124.1 (mM_n i109_124.2)  ?_
    refine V_lshr (c := cI) i109_125.1 (mM_n i109_125.2)  ?_
    refine V_l2i (c := cI) i109_126.1 (mM_n i109_126.2)  ?_
    refine V_i2b (c := cI) i109_127.1 (mM_n i109_127.2)  ?_
    refine V_bastore (c := cI) (x1 := vp_nar .byte (((j1 >>> (((8 : Int32) * x5).toInt64 &&& 63)).toInt32).toInt8.toInt32)) i109_128.1 (mM_n i109_128.2) rfl rfl rfl rfl (fun _ => ?_)
    refine V_iinc (c := cI) i109_129.1 (mM_n i109_129.2) (l1 := [some (.ref 55), some (.long j1), none, some (.int x3), none, some (.int (x5 + 1)), none]) rfl rfl rfl ?_
    refine V_goto (c := cI) i109_132.1 (mM_n i109_132.2) rfl ?_
    exact V_msk (l1 := [some (.ref 55), some (.long j1), none, some (.int x3), none, some (.int (x5 + 1)), none]) i109_102.2 rfl rfl
theorem f_Mod_blank_eq   {S : Mem} : f_Mod_blank  S = some ((S.1 55 18), u1 S 55 18 0) := by
  show cI (mV oS X0 110 0 [some (.ref 55), none] [] S) = _
  refine V_aload_n (c := cI) i110_0.1 (mM_n i110_0.2) rfl rfl ?_
  refine V_gf (c := cI) i110_1.1 (mM_n i110_1.2) (v := .int (S.1 55 18)) g110_98 rfl ?_
  refine V_istore_n (c := cI) i110_4.1 (mM_n i110_4.2) (l1 := [some (.ref 55), some (.int (S.1 55 18))])  (Nat.le_of_ble_eq_true rfl) rfl ?_
  refine V_aload_n (c := cI) i110_5.1 (mM_n i110_5.2) rfl rfl ?_
  refine V_iconst (c := cI) i110_6.1 (mM_n i110_6.2) (v := 0) rfl ?_
  refine V_pf (c := cI) i110_7.1 (mM_n i110_7.2) p110_98 (pf_i rfl rfl rfl) ?_
  refine V_iload_n (c := cI) i110_10.1 (mM_n i110_10.2) rfl ?_
  exact V_iret i110_11.1 (mM_n i110_11.2) rfl
theorem f_Mod_isThere_eq {x1 : Int32} {x2 : Int32}  {S : Mem} : f_Mod_isThere x1 x2 S = k_Mod_isThere_5 x1 x2 0 0 S := by
  show cI (mV oS X0 111 0 [some (.ref 55), some (.int x1), some (.int x2), none, none] [] S) = _
  refine V_iconst (c := cI) i111_0.1 (mM_n i111_0.2) (v := 0) rfl ?_
  refine V_istore_n (c := cI) i111_1.1 (mM_n i111_1.2) (l1 := [some (.ref 55), some (.int x1), some (.int x2), some (.int 0), none])  (Nat.le_of_ble_eq_true rfl) rfl ?_
  refine V_iconst (c := cI) i111_2.1 (mM_n i111_2.2) (v := 0) rfl ?_
  refine V_istore (c := cI) i111_3.1 (mM_n i111_3.2) (l1 := [some (.ref 55), some (.int x1), some (.int x2), some (.int 0), some (.int 0)])  (Nat.le_of_ble_eq_true rfl) rfl ?_
  exact V_msk (l1 := [some (.ref 55), some (.int x1), some (.int x2), some (.int 0), some (.int 0)]) i111_5.2 rfl rfl
theorem k_Mod_isThere_5_eq {x1 : Int32} {x2 : Int32} {x3 : Int32} {x4 : Int32}  {S : Mem} : k_Mod_isThere_5 x1 x2 x3 x4 S = if (S.1 55 22) ≤ x4 then if zb x3 = true then some (x3, S) else none else if x3 = 0 then if inb x4 12 = true then if (S.1 68 (x4.toNatClampNeg)) = x1 then if inb x4 12 = true then if (S.1 69 (x4.toNatClampNeg)) = x2 then k_Mod_isThere_62 x1 x2 x4 S else k_Mod_isThere_40 x1 x2 x4 S else none else k_Mod_isThere_40 x1 x2 x4 S else none else k_Mod_isThere_62 x1 x2 x4 S := by
  show cI (mV oS X0 111 5 [some (.ref 55), some (.int x1), some (.int x2), some (.int x3), some (.int x4)] [] S) = _
  refine V_iload (c := cI) i111_5.1 (mM_s i111_5.2 rfl) rfl ?_
  refine V_aload_n (c := cI) i111_7.1 (mM_n i111_7.2) rfl rfl ?_
  refine V_gf (c := cI) i111_8.1 (mM_n i111_8.2) (v := .int (S.1 55 22)) g111_102 rfl ?_
  refine V_icmp_ge (c := cI) i111_11.1 (mM_n i111_11.2) rfl (fun _ => ?_) (fun _ => ?_)
  · refine V_iload_n (c := cI) i111_74.1 (mM_n i111_74.2) rfl ?_
    exact V_iretZ i111_75.1 (mM_n i111_75.2) rfl
  · refine V_iload_n (c := cI) i111_14.1 (mM_n i111_14.2) rfl ?_
    refine V_if_ne (c := cI) i111_15.1 (mM_n i111_15.2) rfl (fun _ => ?_) (fun _ => ?_)
    · refine V_aload_n (c := cI) i111_18.1 (mM_n i111_18.2) rfl rfl ?_
      refine V_gf (c := cI) i111_19.1 (mM_n i111_19.2) (v := .ref 68) g111_48 rfl ?_
      refine V_iload (c := cI) i111_22.1 (mM_n i111_22.2) rfl ?_
      refine V_iaload (c := cI) i111_24.1 (mM_n i111_24.2) rfl rfl (fun _ => ?_)
      refine V_iload_n (c := cI) i111_25.1 (mM_n i111_25.2) rfl ?_
      refine V_icmp_ne (c := cI) i111_26.1 (mM_n i111_26.2) rfl (fun _ => ?_) (fun _ => ?_)
      · refine V_aload_n (c := cI) i111_29.1 (mM_n i111_29.2) rfl rfl ?_
        refine V_gf (c := cI) i111_30.1 (mM_n i111_30.2) (v := .ref 69) g111_51 rfl ?_
        refine V_iload (c := cI) i111_33.1 (mM_n i111_33.2) rfl ?_
        refine V_iaload (c := cI) i111_35.1 (mM_n i111_35.2) rfl rfl (fun _ => ?_)
        refine V_iload_n (c := cI) i111_36.1 (mM_n i111_36.2) rfl ?_
        refine V_icmp_eq (c := cI) i111_37.1 (mM_n i111_37.2) rfl (fun _ => ?_) (fun _ => ?_)
        · exact V_msk (l1 := [some (.ref 55), some (.int x1), some (.int x2), none, some (.int x4)]) i111_62.2 rfl rfl
        · exact V_msk (l1 := [some (.ref 55), some (.int x1), some (.int x2), none, some (.int x4)]) i111_40.2 rfl rfl
      · exact V_msk (l1 := [some (.ref 55), some (.int x1), some (.int x2), none, some (.int x4)]) i111_40.2 rfl rfl
    · exact V_msk (l1 := [some (.ref 55), some (.int x1), some (.int x2), none, some (.int x4)]) i111_62.2 rfl rfl
theorem k_Mod_isThere_40_eq {x1 : Int32} {x2 : Int32} {x4 : Int32}  {S : Mem} : k_Mod_isThere_40 x1 x2 x4 S = if inb x4 12 = true then if (S.1 68 (x4.toNatClampNeg)) = x2 then if inb x4 12 = true then if (S.1 69 (x4.toNatClampNeg)) = x1 then k_Mod_isThere_62 x1 x2 x4 S else k_Mod_isThere_66 x1 x2 x4 S else none else k_Mod_isThere_66 x1 x2 x4 S else none := by
  show cI (mV oS X0 111 40 [some (.ref 55), some (.int x1), some (.int x2), none, some (.int x4)] [] S) = _
  refine V_aload_n (c := cI) i111_40.1 (mM_s i111_40.2 rfl) rfl rfl ?_
  refine V_gf (c := cI) i111_41.1 (mM_n i111_41.2) (v := .ref 68) g111_48 rfl ?_
  refine V_iload (c := cI) i111_44.1 (mM_n i111_44.2) rfl ?_
  refine V_iaload (c := cI) i111_46.1 (mM_n i111_46.2) rfl rfl (fun _ => ?_)
  refine V_iload_n (c := cI) i111_47.1 (mM_n i111_47.2) rfl ?_
  refine V_icmp_ne (c := cI) i111_48.1 (mM_n i111_48.2) rfl (fun _ => ?_) (fun _ => ?_)
  · refine V_aload_n (c := cI) i111_51.1 (mM_n i111_51.2) rfl rfl ?_
    refine V_gf (c := cI) i111_52.1 (mM_n i111_52.2) (v := .ref 69) g111_51 rfl ?_
    refine V_iload (c := cI) i111_55.1 (mM_n i111_55.2) rfl ?_
    refine V_iaload (c := cI) i111_57.1 (mM_n i111_57.2) rfl rfl (fun _ => ?_)
    refine V_iload_n (c := cI) i111_58.1 (mM_n i111_58.2) rfl ?_
    refine V_icmp_ne (c := cI) i111_59.1 (mM_n i111_59.2) rfl (fun _ => ?_) (fun _ => ?_)
    · exact V_msk (l1 := [some (.ref 55), some (.int x1), some (.int x2), none, some (.int x4)]) i111_62.2 rfl rfl
    · exact V_msk (l1 := [some (.ref 55), some (.int x1), some (.int x2), none, some (.int x4)]) i111_66.2 rfl rfl
  · exact V_msk (l1 := [some (.ref 55), some (.int x1), some (.int x2), none, some (.int x4)]) i111_66.2 rfl rfl
theorem k_Mod_isThere_62_eq {x1 : Int32} {x2 : Int32} {x4 : Int32}  {S : Mem} : k_Mod_isThere_62 x1 x2 x4 S = k_Mod_isThere_67 x1 x2 x4 1 S := by
  show cI (mV oS X0 111 62 [some (.ref 55), some (.int x1), some (.int x2), none, some (.int x4)] [] S) = _
  refine V_iconst (c := cI) i111_62.1 (mM_s i111_62.2 rfl) (v := 1) rfl ?_
  refine V_goto (c := cI) i111_63.1 (mM_n i111_63.2) rfl ?_
  exact V_msk (l1 := [some (.ref 55), some (.int x1), some (.int x2), none, some (.int x4)]) i111_67.2 rfl rfl
theorem k_Mod_isThere_66_eq {x1 : Int32} {x2 : Int32} {x4 : Int32}  {S : Mem} : k_Mod_isThere_66 x1 x2 x4 S = k_Mod_isThere_67 x1 x2 x4 0 S := by
  show cI (mV oS X0 111 66 [some (.ref 55), some (.int x1), some (.int x2), none, some (.int x4)] [] S) = _
  refine V_iconst (c := cI) i111_66.1 (mM_s i111_66.2 rfl) (v := 0) rfl ?_
  exact V_msk (l1 := [some (.ref 55), some (.int x1), some (.int x2), none, some (.int x4)]) i111_67.2 rfl rfl
theorem k_Mod_isThere_67_eq {x1 : Int32} {x2 : Int32} {x4 : Int32} {xs0 : Int32}  {S : Mem} : k_Mod_isThere_67 x1 x2 x4 xs0 S = k_Mod_isThere_5 x1 x2 xs0 (x4 + 1) S := by
  show cI (mV oS X0 111 67 [some (.ref 55), some (.int x1), some (.int x2), none, some (.int x4)] [.int xs0] S) = _
  refine V_istore_n (c := cI) i111_67.1 (mM_s i111_67.2 rfl) (l1 := [some (.ref 55), some (.int x1), some (.int x2), some (.int xs0), some (.int x4)])  (Nat.le_of_ble_eq_true rfl) rfl ?_
  refine V_iinc (c := cI) i111_68.1 (mM_n i111_68.2) (l1 := [some (.ref 55), some (.int x1), some (.int x2), some (.int xs0), some (.int (x4 + 1))]) rfl rfl rfl ?_
  refine V_goto (c := cI) i111_71.1 (mM_n i111_71.2) rfl ?_
  exact V_msk (l1 := [some (.ref 55), some (.int x1), some (.int x2), some (.int xs0), some (.int (x4 + 1))]) i111_5.2 rfl rfl
theorem f_Mod_isCorner_eq {x0 : Int32}  {S : Mem} : f_Mod_isCorner x0 S = bI (f_Mod_within x0 0 7 S) (fun r4 S3 => if zb r4 = true then some (r4, S3) else none) := by
  show cI (mV oS X0 112 0 [some (.int x0)] [] S) = _
  refine V_iload_n (c := cI) i112_0.1 (mM_n i112_0.2) rfl ?_
  refine V_iconst (c := cI) i112_1.1 (mM_n i112_1.2) (v := 0) rfl ?_
  refine V_bipush (c := cI) i112_2.1 (mM_n i112_2.2) (v := 7) rfl ?_
  refine V_ciI (c := cI) (As := [.int x0, .int 0, .int 7]) (rest := []) i112_4.1 (mM_n i112_4.2) c112_105 rfl rfl rfl (Nat.le_of_ble_eq_true rfl) rfl (fun r4 S3 => ?_)
  exact V_iretZ i112_7.1 (mM_n i112_7.2) rfl
theorem f_Mod_nextState_eq {x1 : Int32} {x2 : Int32}  {S : Mem} : f_Mod_nextState x1 x2 S = if x1 = 0 then if inb (S.1 55 22) 12 = true then bI (f_Mod_isCorner (x2 - 48) (u1 S 68 ((S.1 55 22).toNatClampNeg) (x2 - 48))) (fun r8 S7 => if r8 = 0 then k_Mod_nextState_31 (-1) S7 else k_Mod_nextState_31 1 S7) else none else if x1 = 1 then bI (f_Mod_isCorner (x2 - 48) S) (fun r10 S9 => if r10 = 0 then k_Mod_nextState_74 S9 else if inb (S9.1 55 22) 12 = true then if (x2 - 48) = (S9.1 68 ((S9.1 55 22).toNatClampNeg)) then k_Mod_nextState_74 S9 else if inb (S9.1 55 22) 12 = true then bI (f_Mod_isThere (S9.1 68 ((S9.1 55 22).toNatClampNeg)) (x2 - 48) S9) (fun r12 S11 => if r12 = 0 then if inb (S11.1 55 22) 12 = true then if inb (S11.1 55 22) 12 = true then some (2, u1 (u1 (u1 S11 69 ((S11.1 55 22).toNatClampNeg) (x2 - 48)) 70 ((S11.1 55 22).toNatClampNeg) 0) 55 22 ((S11.1 55 22) + 1)) else none else none else k_Mod_nextState_74 S11) else none else none) else if x1 = 2 then if x2 = 61 then if inb ((S.1 55 22) - 1) 12 = true then some (3, u1 S 70 (((S.1 55 22) - 1).toNatClampNeg) 1) else none else k_Mod_nextState_133 x1 x2 S else k_Mod_nextState_133 x1 x2 S := by
  show cI (mV oS X0 113 0 [some (.ref 55), some (.int x1), some (.int x2), none] [] S) = _
  refine V_iload_n (c := cI) i113_0.1 (mM_n i113_0.2) rfl ?_
  refine V_bipush (c := cI) i113_1.1 (mM_n i113_1.2) (v := 48) rfl ?_
  refine V_isub (c := cI) i113_3.1 (mM_n i113_3.2)  ?_
  refine V_istore_n (c := cI) i113_4.1 (mM_n i113_4.2) (l1 := [some (.ref 55), some (.int x1), some (.int x2), some (.int (x2 - 48))])  (Nat.le_of_ble_eq_true rfl) rfl ?_
  refine V_iload_n (c := cI) i113_5.1 (mM_n i113_5.2) rfl ?_
  refine V_if_ne (c := cI) i113_6.1 (mM_n i113_6.2) rfl (fun _ => ?_) (fun _ => ?_)
  · refine V_aload_n (c := cI) i113_9.1 (mM_n i113_9.2) rfl rfl ?_
    refine V_gf (c := cI) i113_10.1 (mM_n i113_10.2) (v := .ref 68) g113_48 rfl ?_
    refine V_aload_n (c := cI) i113_13.1 (mM_n i113_13.2) rfl rfl ?_
    refine V_gf (c := cI) i113_14.1 (mM_n i113_14.2) (v := .int (S.1 55 22)) g113_102 rfl ?_
    refine V_iload_n (c := cI) i113_17.1 (mM_n i113_17.2) rfl ?_
    refine V_iastore (c := cI) (x1 := (x2 - 48)) i113_18.1 (mM_n i113_18.2) rfl rfl rfl rfl (fun _ => ?_)
    refine V_iload_n (c := cI) i113_19.1 (mM_n i113_19.2) rfl ?_
    refine V_ciI (c := cI) (As := [.int (x2 - 48)]) (rest := []) i113_20.1 (mM_n i113_20.2) c113_109 rfl rfl rfl (Nat.le_of_ble_eq_true rfl) rfl (fun r8 S7 => ?_)
    refine V_if_eq (c := cI) i113_23.1 (mM_n i113_23.2) rfl (fun _ => ?_) (fun _ => ?_)
    · refine V_iconst (c := cI) i113_30.1 (mM_n i113_30.2) (v := (-1)) rfl ?_
      exact V_msk (l1 := [none, none, none, none]) i113_31.2 rfl rfl
    · refine V_iconst (c := cI) i113_26.1 (mM_n i113_26.2) (v := 1) rfl ?_
      refine V_goto (c := cI) i113_27.1 (mM_n i113_27.2) rfl ?_
      exact V_msk (l1 := [none, none, none, none]) i113_31.2 rfl rfl
  · refine V_iload_n (c := cI) i113_32.1 (mM_n i113_32.2) rfl ?_
    refine V_iconst (c := cI) i113_33.1 (mM_n i113_33.2) (v := 1) rfl ?_
    refine V_icmp_ne (c := cI) i113_34.1 (mM_n i113_34.2) rfl (fun _ => ?_) (fun _ => ?_)
    · refine V_iload_n (c := cI) i113_37.1 (mM_n i113_37.2) rfl ?_
      refine V_ciI (c := cI) (As := [.int (x2 - 48)]) (rest := []) i113_38.1 (mM_n i113_38.2) c113_109 rfl rfl rfl (Nat.le_of_ble_eq_true rfl) rfl (fun r10 S9 => ?_)
      refine V_if_eq (c := cI) i113_41.1 (mM_n i113_41.2) rfl (fun _ => ?_) (fun _ => ?_)
      · exact V_msk (l1 := [none, none, none, none]) i113_74.2 rfl rfl
      · refine V_iload_n (c := cI) i113_44.1 (mM_n i113_44.2) rfl ?_
        refine V_aload_n (c := cI) i113_45.1 (mM_n i113_45.2) rfl rfl ?_
        refine V_gf (c := cI) i113_46.1 (mM_n i113_46.2) (v := .ref 68) g113_48 rfl ?_
        refine V_aload_n (c := cI) i113_49.1 (mM_n i113_49.2) rfl rfl ?_
        refine V_gf (c := cI) i113_50.1 (mM_n i113_50.2) (v := .int (S9.1 55 22)) g113_102 rfl ?_
        refine V_iaload (c := cI) i113_53.1 (mM_n i113_53.2) rfl rfl (fun _ => ?_)
        refine V_icmp_eq (c := cI) i113_54.1 (mM_n i113_54.2) rfl (fun _ => ?_) (fun _ => ?_)
        · exact V_msk (l1 := [none, none, none, none]) i113_74.2 rfl rfl
        · refine V_aload_n (c := cI) i113_57.1 (mM_n i113_57.2) rfl rfl ?_
          refine V_aload_n (c := cI) i113_58.1 (mM_n i113_58.2) rfl rfl ?_
          refine V_gf (c := cI) i113_59.1 (mM_n i113_59.2) (v := .ref 68) g113_48 rfl ?_
          refine V_aload_n (c := cI) i113_62.1 (mM_n i113_62.2) rfl rfl ?_
          refine V_gf (c := cI) i113_63.1 (mM_n i113_63.2) (v := .int (S9.1 55 22)) g113_102 rfl ?_
          refine V_iaload (c := cI) i113_66.1 (mM_n i113_66.2) rfl rfl (fun _ => ?_)
          refine V_iload_n (c := cI) i113_67.1 (mM_n i113_67.2) rfl ?_
          refine V_cvI (c := cI) (As := [.int (S9.1 68 ((S9.1 55 22).toNatClampNeg)), .int (x2 - 48)]) (rest := []) i113_68.1 (mM_n i113_68.2) c113_113 rfl rfl rfl rfl (Nat.le_of_ble_eq_true rfl) rfl (fun r12 S11 => ?_)
          refine V_if_eq (c := cI) i113_71.1 (mM_n i113_71.2) rfl (fun _ => ?_) (fun _ => ?_)
          · refine V_aload_n (c := cI) i113_76.1 (mM_n i113_76.2) rfl rfl ?_
            refine V_gf (c := cI) i113_77.1 (mM_n i113_77.2) (v := .ref 69) g113_51 rfl ?_
            refine V_aload_n (c := cI) i113_80.1 (mM_n i113_80.2) rfl rfl ?_
            refine V_gf (c := cI) i113_81.1 (mM_n i113_81.2) (v := .int (S11.1 55 22)) g113_102 rfl ?_
            refine V_iload_n (c := cI) i113_84.1 (mM_n i113_84.2) rfl ?_
            refine V_iastore (c := cI) (x1 := (x2 - 48)) i113_85.1 (mM_n i113_85.2) rfl rfl rfl rfl (fun _ => ?_)
            refine V_aload_n (c := cI) i113_86.1 (mM_n i113_86.2) rfl rfl ?_
            refine V_gf (c := cI) i113_87.1 (mM_n i113_87.2) (v := .ref 70) g113_54 rfl ?_
            refine V_aload_n (c := cI) i113_90.1 (mM_n i113_90.2) rfl rfl ?_
            refine V_gf (c := cI) i113_91.1 (mM_n i113_91.2) (v := .int (S11.1 55 22)) g113_102 rfl ?_
            refine V_iconst (c := cI) i113_94.1 (mM_n i113_94.2) (v := 0) rfl ?_
            refine V_bastore (c := cI) (x1 := 0) i113_95.1 (mM_n i113_95.2) rfl rfl (by decide) rfl (fun _ => ?_)
            refine V_aload_n (c := cI) i113_96.1 (mM_n i113_96.2) rfl rfl ?_
            refine V_dup (c := cI) i113_97.1 (mM_n i113_97.2) rfl ?_
            refine V_gf (c := cI) i113_98.1 (mM_n i113_98.2) (v := .int (S11.1 55 22)) g113_102 rfl ?_
            refine V_iconst (c := cI) i113_101.1 (mM_n i113_101.2) (v := 1) rfl ?_
            refine V_iadd (c := cI) i113_102.1 (mM_n i113_102.2)  ?_
            refine V_pf (c := cI) i113_103.1 (mM_n i113_103.2) p113_102 (pf_i rfl rfl rfl) ?_
            refine V_iconst (c := cI) i113_106.1 (mM_n i113_106.2) (v := 2) rfl ?_
            exact V_iret i113_107.1 (mM_n i113_107.2) rfl
          · exact V_msk (l1 := [none, none, none, none]) i113_74.2 rfl rfl
    · refine V_iload_n (c := cI) i113_108.1 (mM_n i113_108.2) rfl ?_
      refine V_iconst (c := cI) i113_109.1 (mM_n i113_109.2) (v := 2) rfl ?_
      refine V_icmp_ne (c := cI) i113_110.1 (mM_n i113_110.2) rfl (fun _ => ?_) (fun _ => ?_)
      · refine V_iload_n (c := cI) i113_113.1 (mM_n i113_113.2) rfl ?_
        refine V_bipush (c := cI) i113_114.1 (mM_n i113_114.2) (v := 61) rfl ?_
        refine V_icmp_ne (c := cI) i113_116.1 (mM_n i113_116.2) rfl (fun _ => ?_) (fun _ => ?_)
        · refine V_aload_n (c := cI) i113_119.1 (mM_n i113_119.2) rfl rfl ?_
          refine V_gf (c := cI) i113_120.1 (mM_n i113_120.2) (v := .ref 70) g113_54 rfl ?_
          refine V_aload_n (c := cI) i113_123.1 (mM_n i113_123.2) rfl rfl ?_
          refine V_gf (c := cI) i113_124.1 (mM_n i113_124.2) (v := .int (S.1 55 22)) g113_102 rfl ?_
          refine V_iconst (c := cI) i113_127.1 (mM_n i113_127.2) (v := 1) rfl ?_
          refine V_isub (c := cI) i113_128.1 (mM_n i113_128.2)  ?_
          refine V_iconst (c := cI) i113_129.1 (mM_n i113_129.2) (v := 1) rfl ?_
          refine V_bastore (c := cI) (x1 := 1) i113_130.1 (mM_n i113_130.2) rfl rfl (by decide) rfl (fun _ => ?_)
          refine V_iconst (c := cI) i113_131.1 (mM_n i113_131.2) (v := 3) rfl ?_
          exact V_iret i113_132.1 (mM_n i113_132.2) rfl
        · exact V_msk (l1 := [some (.ref 55), some (.int x1), some (.int x2), none]) i113_133.2 rfl rfl
      · exact V_msk (l1 := [some (.ref 55), some (.int x1), some (.int x2), none]) i113_133.2 rfl rfl
theorem k_Mod_nextState_31_eq {xs0 : Int32}  {S : Mem} : k_Mod_nextState_31 xs0 S = some (xs0, S) := by
  show cI (mV oS X0 113 31 [none, none, none, none] [.int xs0] S) = _
  exact V_iret i113_31.1 (mM_s i113_31.2 rfl) rfl
theorem k_Mod_nextState_74_eq   {S : Mem} : k_Mod_nextState_74  S = some ((-1), S) := by
  show cI (mV oS X0 113 74 [none, none, none, none] [] S) = _
  refine V_iconst (c := cI) i113_74.1 (mM_s i113_74.2 rfl) (v := (-1)) rfl ?_
  exact V_iret i113_75.1 (mM_n i113_75.2) rfl
theorem k_Mod_nextState_133_eq {x1 : Int32} {x2 : Int32}  {S : Mem} : k_Mod_nextState_133 x1 x2 S = if x1 = 2 then k_Mod_nextState_143 x2 S else if x1 = 3 then k_Mod_nextState_143 x2 S else if x1 = 4 then if x2 = 100 then some (5, u1 S 55 26 1) else k_Mod_nextState_192 x1 x2 S else k_Mod_nextState_192 x1 x2 S := by
  show cI (mV oS X0 113 133 [some (.ref 55), some (.int x1), some (.int x2), none] [] S) = _
  refine V_iload_n (c := cI) i113_133.1 (mM_s i113_133.2 rfl) rfl ?_
  refine V_iconst (c := cI) i113_134.1 (mM_n i113_134.2) (v := 2) rfl ?_
  refine V_icmp_eq (c := cI) i113_135.1 (mM_n i113_135.2) rfl (fun _ => ?_) (fun _ => ?_)
  · exact V_msk (l1 := [some (.ref 55), none, some (.int x2), none]) i113_143.2 rfl rfl
  · refine V_iload_n (c := cI) i113_138.1 (mM_n i113_138.2) rfl ?_
    refine V_iconst (c := cI) i113_139.1 (mM_n i113_139.2) (v := 3) rfl ?_
    refine V_icmp_ne (c := cI) i113_140.1 (mM_n i113_140.2) rfl (fun _ => ?_) (fun _ => ?_)
    · exact V_msk (l1 := [some (.ref 55), none, some (.int x2), none]) i113_143.2 rfl rfl
    · refine V_iload_n (c := cI) i113_174.1 (mM_n i113_174.2) rfl ?_
      refine V_iconst (c := cI) i113_175.1 (mM_n i113_175.2) (v := 4) rfl ?_
      refine V_icmp_ne (c := cI) i113_176.1 (mM_n i113_176.2) rfl (fun _ => ?_) (fun _ => ?_)
      · refine V_iload_n (c := cI) i113_179.1 (mM_n i113_179.2) rfl ?_
        refine V_bipush (c := cI) i113_180.1 (mM_n i113_180.2) (v := 100) rfl ?_
        refine V_icmp_ne (c := cI) i113_182.1 (mM_n i113_182.2) rfl (fun _ => ?_) (fun _ => ?_)
        · refine V_aload_n (c := cI) i113_185.1 (mM_n i113_185.2) rfl rfl ?_
          refine V_iconst (c := cI) i113_186.1 (mM_n i113_186.2) (v := 1) rfl ?_
          refine V_pf (c := cI) i113_187.1 (mM_n i113_187.2) p113_117 (pf_z rfl rfl rfl (by decide)) ?_
          refine V_iconst (c := cI) i113_190.1 (mM_n i113_190.2) (v := 5) rfl ?_
          exact V_iret i113_191.1 (mM_n i113_191.2) rfl
        · exact V_msk (l1 := [some (.ref 55), some (.int x1), some (.int x2), none]) i113_192.2 rfl rfl
      · exact V_msk (l1 := [some (.ref 55), some (.int x1), some (.int x2), none]) i113_192.2 rfl rfl
theorem k_Mod_nextState_143_eq {x2 : Int32}  {S : Mem} : k_Mod_nextState_143 x2 S = if x2 = 44 then if 12 ≤ (S.1 55 22) then k_Mod_nextState_162 x2 S else k_Mod_nextState_173 0 S else k_Mod_nextState_162 x2 S := by
  show cI (mV oS X0 113 143 [some (.ref 55), none, some (.int x2), none] [] S) = _
  refine V_iload_n (c := cI) i113_143.1 (mM_s i113_143.2 rfl) rfl ?_
  refine V_bipush (c := cI) i113_144.1 (mM_n i113_144.2) (v := 44) rfl ?_
  refine V_icmp_ne (c := cI) i113_146.1 (mM_n i113_146.2) rfl (fun _ => ?_) (fun _ => ?_)
  · refine V_aload_n (c := cI) i113_149.1 (mM_n i113_149.2) rfl rfl ?_
    refine V_gf (c := cI) i113_150.1 (mM_n i113_150.2) (v := .int (S.1 55 22)) g113_102 rfl ?_
    refine V_bipush (c := cI) i113_153.1 (mM_n i113_153.2) (v := 12) rfl ?_
    refine V_icmp_ge (c := cI) i113_155.1 (mM_n i113_155.2) rfl (fun _ => ?_) (fun _ => ?_)
    · exact V_msk (l1 := [none, none, some (.int x2), none]) i113_162.2 rfl rfl
    · refine V_iconst (c := cI) i113_158.1 (mM_n i113_158.2) (v := 0) rfl ?_
      refine V_goto (c := cI) i113_159.1 (mM_n i113_159.2) rfl ?_
      exact V_msk (l1 := [none, none, none, none]) i113_173.2 rfl rfl
  · exact V_msk (l1 := [none, none, some (.int x2), none]) i113_162.2 rfl rfl
theorem k_Mod_nextState_162_eq {x2 : Int32}  {S : Mem} : k_Mod_nextState_162 x2 S = if x2 = 59 then k_Mod_nextState_173 4 S else k_Mod_nextState_173 (-1) S := by
  show cI (mV oS X0 113 162 [none, none, some (.int x2), none] [] S) = _
  refine V_iload_n (c := cI) i113_162.1 (mM_s i113_162.2 rfl) rfl ?_
  refine V_bipush (c := cI) i113_163.1 (mM_n i113_163.2) (v := 59) rfl ?_
  refine V_icmp_ne (c := cI) i113_165.1 (mM_n i113_165.2) rfl (fun _ => ?_) (fun _ => ?_)
  · refine V_iconst (c := cI) i113_168.1 (mM_n i113_168.2) (v := 4) rfl ?_
    refine V_goto (c := cI) i113_169.1 (mM_n i113_169.2) rfl ?_
    exact V_msk (l1 := [none, none, none, none]) i113_173.2 rfl rfl
  · refine V_iconst (c := cI) i113_172.1 (mM_n i113_172.2) (v := (-1)) rfl ?_
    exact V_msk (l1 := [none, none, none, none]) i113_173.2 rfl rfl
theorem k_Mod_nextState_173_eq {xs0 : Int32}  {S : Mem} : k_Mod_nextState_173 xs0 S = some (xs0, S) := by
  show cI (mV oS X0 113 173 [none, none, none, none] [.int xs0] S) = _
  exact V_iret i113_173.1 (mM_s i113_173.2 rfl) rfl
theorem k_Mod_nextState_192_eq {x1 : Int32} {x2 : Int32}  {S : Mem} : k_Mod_nextState_192 x1 x2 S = if 6 ≤ x1 then k_Mod_nextState_212 S else if x2 = 119 then some (6, u1 S 55 27 1) else k_Mod_nextState_212 S := by
  show cI (mV oS X0 113 192 [some (.ref 55), some (.int x1), some (.int x2), none] [] S) = _
  refine V_iload_n (c := cI) i113_192.1 (mM_s i113_192.2 rfl) rfl ?_
  refine V_bipush (c := cI) i113_193.1 (mM_n i113_193.2) (v := 6) rfl ?_
  refine V_icmp_ge (c := cI) i113_195.1 (mM_n i113_195.2) rfl (fun _ => ?_) (fun _ => ?_)
  · exact V_msk (l1 := [none, none, none, none]) i113_212.2 rfl rfl
  · refine V_iload_n (c := cI) i113_198.1 (mM_n i113_198.2) rfl ?_
    refine V_bipush (c := cI) i113_199.1 (mM_n i113_199.2) (v := 119) rfl ?_
    refine V_icmp_ne (c := cI) i113_201.1 (mM_n i113_201.2) rfl (fun _ => ?_) (fun _ => ?_)
    · refine V_aload_n (c := cI) i113_204.1 (mM_n i113_204.2) rfl rfl ?_
      refine V_iconst (c := cI) i113_205.1 (mM_n i113_205.2) (v := 1) rfl ?_
      refine V_pf (c := cI) i113_206.1 (mM_n i113_206.2) p113_121 (pf_z rfl rfl rfl (by decide)) ?_
      refine V_bipush (c := cI) i113_209.1 (mM_n i113_209.2) (v := 6) rfl ?_
      exact V_iret i113_211.1 (mM_n i113_211.2) rfl
    · exact V_msk (l1 := [none, none, none, none]) i113_212.2 rfl rfl
theorem k_Mod_nextState_212_eq   {S : Mem} : k_Mod_nextState_212  S = some ((-1), S) := by
  show cI (mV oS X0 113 212 [none, none, none, none] [] S) = _
  refine V_iconst (c := cI) i113_212.1 (mM_s i113_212.2 rfl) (v := (-1)) rfl ?_
  exact V_iret i113_213.1 (mM_n i113_213.2) rfl
theorem f_Mod_readNet_eq   {S : Mem} : f_Mod_readNet  S = k_Mod_readNet_21 0 0 1 (u1 (u1 (u1 S 55 22 0) 55 26 0) 55 27 0) := by
  show cU (mV oS X0 114 0 [some (.ref 55), none, none, none, none] [] S) = _
  refine V_aload_n (c := cU) i114_0.1 (mM_n i114_0.2) rfl rfl ?_
  refine V_iconst (c := cU) i114_1.1 (mM_n i114_1.2) (v := 0) rfl ?_
  refine V_pf (c := cU) i114_2.1 (mM_n i114_2.2) p114_102 (pf_i rfl rfl rfl) ?_
  refine V_aload_n (c := cU) i114_5.1 (mM_n i114_5.2) rfl rfl ?_
  refine V_iconst (c := cU) i114_6.1 (mM_n i114_6.2) (v := 0) rfl ?_
  refine V_pf (c := cU) i114_7.1 (mM_n i114_7.2) p114_117 (pf_z rfl rfl rfl (by decide)) ?_
  refine V_aload_n (c := cU) i114_10.1 (mM_n i114_10.2) rfl rfl ?_
  refine V_iconst (c := cU) i114_11.1 (mM_n i114_11.2) (v := 0) rfl ?_
  refine V_pf (c := cU) i114_12.1 (mM_n i114_12.2) p114_121 (pf_z rfl rfl rfl (by decide)) ?_
  refine V_iconst (c := cU) i114_15.1 (mM_n i114_15.2) (v := 0) rfl ?_
  refine V_istore_n (c := cU) i114_16.1 (mM_n i114_16.2) (l1 := [some (.ref 55), some (.int 0), none, none, none])  (Nat.le_of_ble_eq_true rfl) rfl ?_
  refine V_iconst (c := cU) i114_17.1 (mM_n i114_17.2) (v := 0) rfl ?_
  refine V_istore_n (c := cU) i114_18.1 (mM_n i114_18.2) (l1 := [some (.ref 55), some (.int 0), some (.int 0), none, none])  (Nat.le_of_ble_eq_true rfl) rfl ?_
  refine V_iconst (c := cU) i114_19.1 (mM_n i114_19.2) (v := 1) rfl ?_
  refine V_istore_n (c := cU) i114_20.1 (mM_n i114_20.2) (l1 := [some (.ref 55), some (.int 0), some (.int 0), some (.int 1), none])  (Nat.le_of_ble_eq_true rfl) rfl ?_
  exact V_msk (l1 := [some (.ref 55), some (.int 0), some (.int 0), some (.int 1), none]) i114_21.2 rfl rfl
theorem k_Mod_readNet_21_eq {x1 : Int32} {x2 : Int32} {x3 : Int32}  {S : Mem} : k_Mod_readNet_21 x1 x2 x3 S = if (S.1 55 18) ≤ x2 then k_Mod_readNet_84 x1 x2 S else if x3 = 0 then k_Mod_readNet_84 x1 x2 S else if inb x2 50 = true then bI (f_Mod_nextState x1 (S.1 67 (x2.toNatClampNeg)) S) (fun r4 S3 => if r4 = (-1) then k_Mod_readNet_57 x1 x2 r4 0 S3 else k_Mod_readNet_57 x1 x2 r4 1 S3) else none := by
  show cU (mV oS X0 114 21 [some (.ref 55), some (.int x1), some (.int x2), some (.int x3), none] [] S) = _
  refine V_iload_n (c := cU) i114_21.1 (mM_s i114_21.2 rfl) rfl ?_
  refine V_aload_n (c := cU) i114_22.1 (mM_n i114_22.2) rfl rfl ?_
  refine V_gf (c := cU) i114_23.1 (mM_n i114_23.2) (v := .int (S.1 55 18)) g114_98 rfl ?_
  refine V_icmp_ge (c := cU) i114_26.1 (mM_n i114_26.2) rfl (fun _ => ?_) (fun _ => ?_)
  · exact V_msk (l1 := [some (.ref 55), some (.int x1), some (.int x2), none, none]) i114_84.2 rfl rfl
  · refine V_iload_n (c := cU) i114_29.1 (mM_n i114_29.2) rfl ?_
    refine V_if_eq (c := cU) i114_30.1 (mM_n i114_30.2) rfl (fun _ => ?_) (fun _ => ?_)
    · exact V_msk (l1 := [some (.ref 55), some (.int x1), some (.int x2), none, none]) i114_84.2 rfl rfl
    · refine V_aload_n (c := cU) i114_33.1 (mM_n i114_33.2) rfl rfl ?_
      refine V_iload_n (c := cU) i114_34.1 (mM_n i114_34.2) rfl ?_
      refine V_aload_n (c := cU) i114_35.1 (mM_n i114_35.2) rfl rfl ?_
      refine V_gf (c := cU) i114_36.1 (mM_n i114_36.2) (v := .ref 67) g114_44 rfl ?_
      refine V_iload_n (c := cU) i114_39.1 (mM_n i114_39.2) rfl ?_
      refine V_baload (c := cU) i114_40.1 (mM_n i114_40.2) rfl rfl rfl (fun _ => ?_)
      refine V_cvI (c := cU) (As := [.int x1, .int (S.1 67 (x2.toNatClampNeg))]) (rest := []) i114_41.1 (mM_n i114_41.2) c114_124 rfl rfl rfl rfl (Nat.le_of_ble_eq_true rfl) rfl (fun r4 S3 => ?_)
      refine V_istore (c := cU) i114_44.1 (mM_n i114_44.2) (l1 := [some (.ref 55), some (.int x1), some (.int x2), some (.int x3), some (.int r4)])  (Nat.le_of_ble_eq_true rfl) rfl ?_
      refine V_iload (c := cU) i114_46.1 (mM_n i114_46.2) rfl ?_
      refine V_iconst (c := cU) i114_48.1 (mM_n i114_48.2) (v := (-1)) rfl ?_
      refine V_icmp_eq (c := cU) i114_49.1 (mM_n i114_49.2) rfl (fun _ => ?_) (fun _ => ?_)
      · refine V_iconst (c := cU) i114_56.1 (mM_n i114_56.2) (v := 0) rfl ?_
        exact V_msk (l1 := [some (.ref 55), some (.int x1), some (.int x2), none, some (.int r4)]) i114_57.2 rfl rfl
      · refine V_iconst (c := cU) i114_52.1 (mM_n i114_52.2) (v := 1) rfl ?_
        refine V_goto (c := cU) i114_53.1 (mM_n i114_53.2) rfl ?_
        exact V_msk (l1 := [some (.ref 55), some (.int x1), some (.int x2), none, some (.int r4)]) i114_57.2 rfl rfl
theorem k_Mod_readNet_57_eq {x1 : Int32} {x2 : Int32} {x4 : Int32} {xs0 : Int32}  {S : Mem} : k_Mod_readNet_57 x1 x2 x4 xs0 S = if xs0 = 0 then k_Mod_readNet_68 x2 xs0 x1 S else k_Mod_readNet_68 x2 xs0 x4 S := by
  show cU (mV oS X0 114 57 [some (.ref 55), some (.int x1), some (.int x2), none, some (.int x4)] [.int xs0] S) = _
  refine V_istore_n (c := cU) i114_57.1 (mM_s i114_57.2 rfl) (l1 := [some (.ref 55), some (.int x1), some (.int x2), some (.int xs0), some (.int x4)])  (Nat.le_of_ble_eq_true rfl) rfl ?_
  refine V_iload_n (c := cU) i114_58.1 (mM_n i114_58.2) rfl ?_
  refine V_if_eq (c := cU) i114_59.1 (mM_n i114_59.2) rfl (fun _ => ?_) (fun _ => ?_)
  · refine V_iload_n (c := cU) i114_67.1 (mM_n i114_67.2) rfl ?_
    exact V_msk (l1 := [some (.ref 55), none, some (.int x2), some (.int xs0), none]) i114_68.2 rfl rfl
  · refine V_iload (c := cU) i114_62.1 (mM_n i114_62.2) rfl ?_
    refine V_goto (c := cU) i114_64.1 (mM_n i114_64.2) rfl ?_
    exact V_msk (l1 := [some (.ref 55), none, some (.int x2), some (.int xs0), none]) i114_68.2 rfl rfl
theorem k_Mod_readNet_68_eq {x2 : Int32} {x3 : Int32} {xs0 : Int32}  {S : Mem} : k_Mod_readNet_68 x2 x3 xs0 S = if x3 = 0 then k_Mod_readNet_79 xs0 x3 0 x2 S else k_Mod_readNet_79 xs0 x3 1 x2 S := by
  show cU (mV oS X0 114 68 [some (.ref 55), none, some (.int x2), some (.int x3), none] [.int xs0] S) = _
  refine V_istore_n (c := cU) i114_68.1 (mM_s i114_68.2 rfl) (l1 := [some (.ref 55), some (.int xs0), some (.int x2), some (.int x3), none])  (Nat.le_of_ble_eq_true rfl) rfl ?_
  refine V_iload_n (c := cU) i114_69.1 (mM_n i114_69.2) rfl ?_
  refine V_iload_n (c := cU) i114_70.1 (mM_n i114_70.2) rfl ?_
  refine V_if_eq (c := cU) i114_71.1 (mM_n i114_71.2) rfl (fun _ => ?_) (fun _ => ?_)
  · refine V_iconst (c := cU) i114_78.1 (mM_n i114_78.2) (v := 0) rfl ?_
    exact V_msk (l1 := [some (.ref 55), some (.int xs0), none, some (.int x3), none]) i114_79.2 rfl rfl
  · refine V_iconst (c := cU) i114_74.1 (mM_n i114_74.2) (v := 1) rfl ?_
    refine V_goto (c := cU) i114_75.1 (mM_n i114_75.2) rfl ?_
    exact V_msk (l1 := [some (.ref 55), some (.int xs0), none, some (.int x3), none]) i114_79.2 rfl rfl
theorem k_Mod_readNet_79_eq {x1 : Int32} {x3 : Int32} {xs0 : Int32} {xs1 : Int32}  {S : Mem} : k_Mod_readNet_79 x1 x3 xs0 xs1 S = k_Mod_readNet_21 x1 (xs1 + xs0) x3 S := by
  show cU (mV oS X0 114 79 [some (.ref 55), some (.int x1), none, some (.int x3), none] [.int xs0, .int xs1] S) = _
  refine V_iadd (c := cU) i114_79.1 (mM_s i114_79.2 rfl)  ?_
  refine V_istore_n (c := cU) i114_80.1 (mM_n i114_80.2) (l1 := [some (.ref 55), some (.int x1), some (.int (xs1 + xs0)), some (.int x3), none])  (Nat.le_of_ble_eq_true rfl) rfl ?_
  refine V_goto (c := cU) i114_81.1 (mM_n i114_81.2) rfl ?_
  exact V_msk (l1 := [some (.ref 55), some (.int x1), some (.int (xs1 + xs0)), some (.int x3), none]) i114_21.2 rfl rfl
theorem k_Mod_readNet_84_eq {x1 : Int32} {x2 : Int32}  {S : Mem} : k_Mod_readNet_84 x1 x2 S = if x2 = (S.1 55 18) then if x1 ≤ 1 then k_Mod_readNet_112 (u1 S 55 20 x2) else if x1 = 4 then k_Mod_readNet_112 (u1 S 55 20 x2) else k_Mod_readNet_113 1 (u1 S 55 20 x2) else k_Mod_readNet_112 (u1 S 55 20 x2) := by
  show cU (mV oS X0 114 84 [some (.ref 55), some (.int x1), some (.int x2), none, none] [] S) = _
  refine V_aload_n (c := cU) i114_84.1 (mM_s i114_84.2 rfl) rfl rfl ?_
  refine V_iload_n (c := cU) i114_85.1 (mM_n i114_85.2) rfl ?_
  refine V_pf (c := cU) i114_86.1 (mM_n i114_86.2) p114_128 (pf_i rfl rfl rfl) ?_
  refine V_aload_n (c := cU) i114_89.1 (mM_n i114_89.2) rfl rfl ?_
  refine V_iload_n (c := cU) i114_90.1 (mM_n i114_90.2) rfl ?_
  refine V_aload_n (c := cU) i114_91.1 (mM_n i114_91.2) rfl rfl ?_
  refine V_gf (c := cU) i114_92.1 (mM_n i114_92.2) (v := .int (S.1 55 18)) g114_98 rfl ?_
  refine V_icmp_ne (c := cU) i114_95.1 (mM_n i114_95.2) rfl (fun _ => ?_) (fun _ => ?_)
  · refine V_iload_n (c := cU) i114_98.1 (mM_n i114_98.2) rfl ?_
    refine V_iconst (c := cU) i114_99.1 (mM_n i114_99.2) (v := 1) rfl ?_
    refine V_icmp_le (c := cU) i114_100.1 (mM_n i114_100.2) rfl (fun _ => ?_) (fun _ => ?_)
    · exact V_msk (l1 := [none, none, none, none, none]) i114_112.2 rfl rfl
    · refine V_iload_n (c := cU) i114_103.1 (mM_n i114_103.2) rfl ?_
      refine V_iconst (c := cU) i114_104.1 (mM_n i114_104.2) (v := 4) rfl ?_
      refine V_icmp_eq (c := cU) i114_105.1 (mM_n i114_105.2) rfl (fun _ => ?_) (fun _ => ?_)
      · exact V_msk (l1 := [none, none, none, none, none]) i114_112.2 rfl rfl
      · refine V_iconst (c := cU) i114_108.1 (mM_n i114_108.2) (v := 1) rfl ?_
        refine V_goto (c := cU) i114_109.1 (mM_n i114_109.2) rfl ?_
        exact V_msk (l1 := [none, none, none, none, none]) i114_113.2 rfl rfl
  · exact V_msk (l1 := [none, none, none, none, none]) i114_112.2 rfl rfl
theorem k_Mod_readNet_112_eq   {S : Mem} : k_Mod_readNet_112  S = k_Mod_readNet_113 0 S := by
  show cU (mV oS X0 114 112 [none, none, none, none, none] [.ref 55] S) = _
  refine V_iconst (c := cU) i114_112.1 (mM_s i114_112.2 rfl) (v := 0) rfl ?_
  exact V_msk (l1 := [none, none, none, none, none]) i114_113.2 rfl rfl
theorem k_Mod_readNet_113_eq {xs0 : Int32}  {S : Mem} : k_Mod_readNet_113 xs0 S = if zb xs0 = true then some (u1 S 55 21 xs0) else none := by
  show cU (mV oS X0 114 113 [none, none, none, none, none] [.int xs0, .ref 55] S) = _
  refine V_pfZ (c := cU) i114_113.1 (mM_s i114_113.2 rfl) p114_131 rfl rfl rfl rfl (fun _ => ?_)
  exact V_vret i114_116.1 (mM_n i114_116.2) rfl
theorem f_Mod_readWay_eq   {S : Mem} : f_Mod_readWay  S = k_Mod_readWay_2 0 S := by
  show cU (mV oS X0 115 0 [some (.ref 55), none] [] S) = _
  refine V_iconst (c := cU) i115_0.1 (mM_n i115_0.2) (v := 0) rfl ?_
  refine V_istore_n (c := cU) i115_1.1 (mM_n i115_1.2) (l1 := [some (.ref 55), some (.int 0)])  (Nat.le_of_ble_eq_true rfl) rfl ?_
  exact V_msk (l1 := [some (.ref 55), some (.int 0)]) i115_2.2 rfl rfl
theorem k_Mod_readWay_2_eq {x1 : Int32}  {S : Mem} : k_Mod_readWay_2 x1 S = if (S.1 55 18) ≤ x1 then k_Mod_readWay_37 x1 S else if 20 ≤ x1 then k_Mod_readWay_37 x1 S else if inb x1 50 = true then bI (f_Mod_isCorner ((S.1 67 (x1.toNatClampNeg)) - 48) S) (fun r4 S3 => if r4 = 0 then k_Mod_readWay_37 x1 S3 else k_Mod_readWay_2 (x1 + 1) S3) else none := by
  show cU (mV oS X0 115 2 [some (.ref 55), some (.int x1)] [] S) = _
  refine V_iload_n (c := cU) i115_2.1 (mM_s i115_2.2 rfl) rfl ?_
  refine V_aload_n (c := cU) i115_3.1 (mM_n i115_3.2) rfl rfl ?_
  refine V_gf (c := cU) i115_4.1 (mM_n i115_4.2) (v := .int (S.1 55 18)) g115_98 rfl ?_
  refine V_icmp_ge (c := cU) i115_7.1 (mM_n i115_7.2) rfl (fun _ => ?_) (fun _ => ?_)
  · exact V_msk (l1 := [some (.ref 55), some (.int x1)]) i115_37.2 rfl rfl
  · refine V_iload_n (c := cU) i115_10.1 (mM_n i115_10.2) rfl ?_
    refine V_bipush (c := cU) i115_11.1 (mM_n i115_11.2) (v := 20) rfl ?_
    refine V_icmp_ge (c := cU) i115_13.1 (mM_n i115_13.2) rfl (fun _ => ?_) (fun _ => ?_)
    · exact V_msk (l1 := [some (.ref 55), some (.int x1)]) i115_37.2 rfl rfl
    · refine V_aload_n (c := cU) i115_16.1 (mM_n i115_16.2) rfl rfl ?_
      refine V_gf (c := cU) i115_17.1 (mM_n i115_17.2) (v := .ref 67) g115_44 rfl ?_
      refine V_iload_n (c := cU) i115_20.1 (mM_n i115_20.2) rfl ?_
      refine V_baload (c := cU) i115_21.1 (mM_n i115_21.2) rfl rfl rfl (fun _ => ?_)
      refine V_bipush (c := cU) i115_22.1 (mM_n i115_22.2) (v := 48) rfl ?_
      refine V_isub (c := cU) i115_24.1 (mM_n i115_24.2)  ?_
      refine V_ciI (c := cU) (As := [.int ((S.1 67 (x1.toNatClampNeg)) - 48)]) (rest := []) i115_25.1 (mM_n i115_25.2) c115_109 rfl rfl rfl (Nat.le_of_ble_eq_true rfl) rfl (fun r4 S3 => ?_)
      refine V_if_eq (c := cU) i115_28.1 (mM_n i115_28.2) rfl (fun _ => ?_) (fun _ => ?_)
      · exact V_msk (l1 := [some (.ref 55), some (.int x1)]) i115_37.2 rfl rfl
      · refine V_iinc (c := cU) i115_31.1 (mM_n i115_31.2) (l1 := [some (.ref 55), some (.int (x1 + 1))]) rfl rfl rfl ?_
        refine V_goto (c := cU) i115_34.1 (mM_n i115_34.2) rfl ?_
        exact V_msk (l1 := [some (.ref 55), some (.int (x1 + 1))]) i115_2.2 rfl rfl
theorem k_Mod_readWay_37_eq {x1 : Int32}  {S : Mem} : k_Mod_readWay_37 x1 S = if x1 = (S.1 55 18) then if x1 ≤ 0 then k_Mod_readWay_59 (u1 S 55 20 x1) else k_Mod_readWay_60 1 (u1 S 55 20 x1) else k_Mod_readWay_59 (u1 S 55 20 x1) := by
  show cU (mV oS X0 115 37 [some (.ref 55), some (.int x1)] [] S) = _
  refine V_aload_n (c := cU) i115_37.1 (mM_s i115_37.2 rfl) rfl rfl ?_
  refine V_iload_n (c := cU) i115_38.1 (mM_n i115_38.2) rfl ?_
  refine V_pf (c := cU) i115_39.1 (mM_n i115_39.2) p115_128 (pf_i rfl rfl rfl) ?_
  refine V_aload_n (c := cU) i115_42.1 (mM_n i115_42.2) rfl rfl ?_
  refine V_iload_n (c := cU) i115_43.1 (mM_n i115_43.2) rfl ?_
  refine V_aload_n (c := cU) i115_44.1 (mM_n i115_44.2) rfl rfl ?_
  refine V_gf (c := cU) i115_45.1 (mM_n i115_45.2) (v := .int (S.1 55 18)) g115_98 rfl ?_
  refine V_icmp_ne (c := cU) i115_48.1 (mM_n i115_48.2) rfl (fun _ => ?_) (fun _ => ?_)
  · refine V_iload_n (c := cU) i115_51.1 (mM_n i115_51.2) rfl ?_
    refine V_if_le (c := cU) i115_52.1 (mM_n i115_52.2) rfl (fun _ => ?_) (fun _ => ?_)
    · exact V_msk (l1 := [none, none]) i115_59.2 rfl rfl
    · refine V_iconst (c := cU) i115_55.1 (mM_n i115_55.2) (v := 1) rfl ?_
      refine V_goto (c := cU) i115_56.1 (mM_n i115_56.2) rfl ?_
      exact V_msk (l1 := [none, none]) i115_60.2 rfl rfl
  · exact V_msk (l1 := [none, none]) i115_59.2 rfl rfl
theorem k_Mod_readWay_59_eq   {S : Mem} : k_Mod_readWay_59  S = k_Mod_readWay_60 0 S := by
  show cU (mV oS X0 115 59 [none, none] [.ref 55] S) = _
  refine V_iconst (c := cU) i115_59.1 (mM_s i115_59.2 rfl) (v := 0) rfl ?_
  exact V_msk (l1 := [none, none]) i115_60.2 rfl rfl
theorem k_Mod_readWay_60_eq {xs0 : Int32}  {S : Mem} : k_Mod_readWay_60 xs0 S = if zb xs0 = true then some (u1 S 55 21 xs0) else none := by
  show cU (mV oS X0 115 60 [none, none] [.int xs0, .ref 55] S) = _
  refine V_pfZ (c := cU) i115_60.1 (mM_s i115_60.2 rfl) p115_131 rfl rfl rfl rfl (fun _ => ?_)
  exact V_vret i115_63.1 (mM_n i115_63.2) rfl
theorem f_Mod_fault_eq {x1 : Int32}  {S : Mem} : f_Mod_fault x1 S = bI (f_Mod_within x1 0 1 S) (fun r6 S5 => if r6 = 0 then some ((-102), S5) else if x1 = 0 then bU (f_Mod_readNet S5) (fun S7 => k_Mod_fault_27 S7) else bU (f_Mod_readWay S5) (fun S8 => k_Mod_fault_27 S8)) := by
  show cI (mV oS X0 116 0 [some (.ref 55), some (.int x1)] [] S) = _
  refine V_iload_n (c := cI) i116_0.1 (mM_n i116_0.2) rfl ?_
  refine V_iconst (c := cI) i116_1.1 (mM_n i116_1.2) (v := 0) rfl ?_
  refine V_iconst (c := cI) i116_2.1 (mM_n i116_2.2) (v := 1) rfl ?_
  refine V_ciI (c := cI) (As := [.int x1, .int 0, .int 1]) (rest := []) i116_3.1 (mM_n i116_3.2) c116_105 rfl rfl rfl (Nat.le_of_ble_eq_true rfl) rfl (fun r6 S5 => ?_)
  refine V_if_ne (c := cI) i116_6.1 (mM_n i116_6.2) rfl (fun _ => ?_) (fun _ => ?_)
  · refine V_bipush (c := cI) i116_9.1 (mM_n i116_9.2) (v := (-102)) rfl ?_
    exact V_iret i116_11.1 (mM_n i116_11.2) rfl
  · refine V_iload_n (c := cI) i116_12.1 (mM_n i116_12.2) rfl ?_
    refine V_if_ne (c := cI) i116_13.1 (mM_n i116_13.2) rfl (fun _ => ?_) (fun _ => ?_)
    · refine V_aload_n (c := cI) i116_16.1 (mM_n i116_16.2) rfl rfl ?_
      refine V_cvU (c := cI) (As := []) (rest := []) i116_17.1 (mM_n i116_17.2) c116_134 rfl rfl rfl rfl (Nat.le_of_ble_eq_true rfl) rfl (fun S7 => ?_)
      refine V_goto (c := cI) i116_20.1 (mM_n i116_20.2) rfl ?_
      exact V_msk (l1 := [some (.ref 55), none]) i116_27.2 rfl rfl
    · refine V_aload_n (c := cI) i116_23.1 (mM_n i116_23.2) rfl rfl ?_
      refine V_cvU (c := cI) (As := []) (rest := []) i116_24.1 (mM_n i116_24.2) c116_137 rfl rfl rfl rfl (Nat.le_of_ble_eq_true rfl) rfl (fun S8 => ?_)
      exact V_msk (l1 := [some (.ref 55), none]) i116_27.2 rfl rfl
theorem k_Mod_fault_27_eq   {S : Mem} : k_Mod_fault_27  S = some ((S.1 55 20), S) := by
  show cI (mV oS X0 116 27 [some (.ref 55), none] [] S) = _
  refine V_aload_n (c := cI) i116_27.1 (mM_s i116_27.2 rfl) rfl rfl ?_
  refine V_gf (c := cI) i116_28.1 (mM_n i116_28.2) (v := .int (S.1 55 20)) g116_128 rfl ?_
  exact V_iret i116_31.1 (mM_n i116_31.2) rfl
theorem f_Mod_net_eq   {S : Mem} : f_Mod_net  S = bU (f_Mod_readNet S) (fun S2 => if (S2.1 55 21) = 0 then some ((-103), S2) else k_Mod_net_24 0 (u1 S2 55 0 (S2.1 55 22))) := by
  show cI (mV oS X0 117 0 [some (.ref 55), none] [] S) = _
  refine V_aload_n (c := cI) i117_0.1 (mM_n i117_0.2) rfl rfl ?_
  refine V_cvU (c := cI) (As := []) (rest := []) i117_1.1 (mM_n i117_1.2) c117_134 rfl rfl rfl rfl (Nat.le_of_ble_eq_true rfl) rfl (fun S2 => ?_)
  refine V_aload_n (c := cI) i117_4.1 (mM_n i117_4.2) rfl rfl ?_
  refine V_gf (c := cI) i117_5.1 (mM_n i117_5.2) (v := .int (S2.1 55 21)) g117_131 rfl ?_
  refine V_if_ne (c := cI) i117_8.1 (mM_n i117_8.2) rfl (fun _ => ?_) (fun _ => ?_)
  · refine V_bipush (c := cI) i117_11.1 (mM_n i117_11.2) (v := (-103)) rfl ?_
    exact V_iret i117_13.1 (mM_n i117_13.2) rfl
  · refine V_aload_n (c := cI) i117_14.1 (mM_n i117_14.2) rfl rfl ?_
    refine V_aload_n (c := cI) i117_15.1 (mM_n i117_15.2) rfl rfl ?_
    refine V_gf (c := cI) i117_16.1 (mM_n i117_16.2) (v := .int (S2.1 55 22)) g117_102 rfl ?_
    refine V_pf (c := cI) i117_19.1 (mM_n i117_19.2) p117_140 (pf_i rfl rfl rfl) ?_
    refine V_iconst (c := cI) i117_22.1 (mM_n i117_22.2) (v := 0) rfl ?_
    refine V_istore_n (c := cI) i117_23.1 (mM_n i117_23.2) (l1 := [some (.ref 55), some (.int 0)])  (Nat.le_of_ble_eq_true rfl) rfl ?_
    exact V_msk (l1 := [some (.ref 55), some (.int 0)]) i117_24.2 rfl rfl
theorem k_Mod_net_24_eq {x1 : Int32}  {S : Mem} : k_Mod_net_24 x1 S = if (S.1 55 0) ≤ x1 then if zb (S.1 55 26) = true then if zb (S.1 55 27) = true then k_Mod_net_112 0 (u1 (u1 (u1 (u1 (u1 S 55 4 (S.1 55 26)) 55 5 (S.1 55 27)) 55 6 ((S.1 55 6) + 1)) 55 7 0) 55 16 0) else none else none else if inb x1 12 = true then if inb x1 12 = true then if inb x1 12 = true then if inb x1 12 = true then if inb x1 12 = true then if inb x1 12 = true then k_Mod_net_24 (x1 + 1) (u1 (u1 (u1 S 56 x1.toNatClampNeg (S.1 68 (x1.toNatClampNeg))) 57 x1.toNatClampNeg (S.1 69 (x1.toNatClampNeg))) 58 x1.toNatClampNeg (vp_nar .boolean (S.1 70 (x1.toNatClampNeg)))) else none else none else none else none else none else none := by
  show cI (mV oS X0 117 24 [some (.ref 55), some (.int x1)] [] S) = _
  refine V_iload_n (c := cI) i117_24.1 (mM_s i117_24.2 rfl) rfl ?_
  refine V_aload_n (c := cI) i117_25.1 (mM_n i117_25.2) rfl rfl ?_
  refine V_gf (c := cI) i117_26.1 (mM_n i117_26.2) (v := .int (S.1 55 0)) g117_140 rfl ?_
  refine V_icmp_ge (c := cI) i117_29.1 (mM_n i117_29.2) rfl (fun _ => ?_) (fun _ => ?_)
  · refine V_aload_n (c := cI) i117_74.1 (mM_n i117_74.2) rfl rfl ?_
    refine V_aload_n (c := cI) i117_75.1 (mM_n i117_75.2) rfl rfl ?_
    refine V_gf (c := cI) i117_76.1 (mM_n i117_76.2) (v := .int (S.1 55 26)) g117_117 rfl ?_
    refine V_pfZ (c := cI) i117_79.1 (mM_n i117_79.2) p117_143 rfl rfl rfl rfl (fun _ => ?_)
    refine V_aload_n (c := cI) i117_82.1 (mM_n i117_82.2) rfl rfl ?_
    refine V_aload_n (c := cI) i117_83.1 (mM_n i117_83.2) rfl rfl ?_
    refine V_gf (c := cI) i117_84.1 (mM_n i117_84.2) (v := .int (S.1 55 27)) g117_121 rfl ?_
    refine V_pfZ (c := cI) i117_87.1 (mM_n i117_87.2) p117_146 rfl rfl rfl rfl (fun _ => ?_)
    refine V_aload_n (c := cI) i117_90.1 (mM_n i117_90.2) rfl rfl ?_
    refine V_dup (c := cI) i117_91.1 (mM_n i117_91.2) rfl ?_
    refine V_gf (c := cI) i117_92.1 (mM_n i117_92.2) (v := .int (S.1 55 6)) g117_149 rfl ?_
    refine V_iconst (c := cI) i117_95.1 (mM_n i117_95.2) (v := 1) rfl ?_
    refine V_iadd (c := cI) i117_96.1 (mM_n i117_96.2)  ?_
    refine V_pf (c := cI) i117_97.1 (mM_n i117_97.2) p117_149 (pf_i rfl rfl rfl) ?_
    refine V_aload_n (c := cI) i117_100.1 (mM_n i117_100.2) rfl rfl ?_
    refine V_iconst (c := cI) i117_101.1 (mM_n i117_101.2) (v := 0) rfl ?_
    refine V_pf (c := cI) i117_102.1 (mM_n i117_102.2) p117_152 (pf_i rfl rfl rfl) ?_
    refine V_aload_n (c := cI) i117_105.1 (mM_n i117_105.2) rfl rfl ?_
    refine V_iconst (c := cI) i117_106.1 (mM_n i117_106.2) (v := 0) rfl ?_
    refine V_pf (c := cI) i117_107.1 (mM_n i117_107.2) p117_155 (pf_i rfl rfl rfl) ?_
    refine V_iconst (c := cI) i117_110.1 (mM_n i117_110.2) (v := 0) rfl ?_
    refine V_istore_n (c := cI) i117_111.1 (mM_n i117_111.2) (l1 := [some (.ref 55), some (.int 0)])  (Nat.le_of_ble_eq_true rfl) rfl ?_
    exact V_msk (l1 := [some (.ref 55), some (.int 0)]) i117_112.2 rfl rfl
  · refine V_aload_n (c := cI) i117_32.1 (mM_n i117_32.2) rfl rfl ?_
    refine V_gf (c := cI) i117_33.1 (mM_n i117_33.2) (v := .ref 56) g117_7 rfl ?_
    refine V_iload_n (c := cI) i117_36.1 (mM_n i117_36.2) rfl ?_
    refine V_aload_n (c := cI) i117_37.1 (mM_n i117_37.2) rfl rfl ?_
    refine V_gf (c := cI) i117_38.1 (mM_n i117_38.2) (v := .ref 68) g117_48 rfl ?_
    refine V_iload_n (c := cI) i117_41.1 (mM_n i117_41.2) rfl ?_
    refine V_iaload (c := cI) i117_42.1 (mM_n i117_42.2) rfl rfl (fun _ => ?_)
    refine V_iastore (c := cI) (x1 := (S.1 68 (x1.toNatClampNeg))) i117_43.1 (mM_n i117_43.2) rfl rfl rfl rfl (fun _ => ?_)
    refine V_aload_n (c := cI) i117_44.1 (mM_n i117_44.2) rfl rfl ?_
    refine V_gf (c := cI) i117_45.1 (mM_n i117_45.2) (v := .ref 57) g117_13 rfl ?_
    refine V_iload_n (c := cI) i117_48.1 (mM_n i117_48.2) rfl ?_
    refine V_aload_n (c := cI) i117_49.1 (mM_n i117_49.2) rfl rfl ?_
    refine V_gf (c := cI) i117_50.1 (mM_n i117_50.2) (v := .ref 69) g117_51 rfl ?_
    refine V_iload_n (c := cI) i117_53.1 (mM_n i117_53.2) rfl ?_
    refine V_iaload (c := cI) i117_54.1 (mM_n i117_54.2) rfl rfl (fun _ => ?_)
    refine V_iastore (c := cI) (x1 := (S.1 69 (x1.toNatClampNeg))) i117_55.1 (mM_n i117_55.2) rfl rfl rfl rfl (fun _ => ?_)
    refine V_aload_n (c := cI) i117_56.1 (mM_n i117_56.2) rfl rfl ?_
    refine V_gf (c := cI) i117_57.1 (mM_n i117_57.2) (v := .ref 58) g117_16 rfl ?_
    refine V_iload_n (c := cI) i117_60.1 (mM_n i117_60.2) rfl ?_
    refine V_aload_n (c := cI) i117_61.1 (mM_n i117_61.2) rfl rfl ?_
    refine V_gf (c := cI) i117_62.1 (mM_n i117_62.2) (v := .ref 70) g117_54 rfl ?_
    refine V_iload_n (c := cI) i117_65.1 (mM_n i117_65.2) rfl ?_
    refine V_baload (c := cI) i117_66.1 (mM_n i117_66.2) rfl rfl rfl (fun _ => ?_)
    refine V_bastore (c := cI) (x1 := vp_nar .boolean (S.1 70 (x1.toNatClampNeg))) i117_67.1 (mM_n i117_67.2) rfl rfl rfl rfl (fun _ => ?_)
    refine V_iinc (c := cI) i117_68.1 (mM_n i117_68.2) (l1 := [some (.ref 55), some (.int (x1 + 1))]) rfl rfl rfl ?_
    refine V_goto (c := cI) i117_71.1 (mM_n i117_71.2) rfl ?_
    exact V_msk (l1 := [some (.ref 55), some (.int (x1 + 1))]) i117_24.2 rfl rfl
theorem k_Mod_net_112_eq {x1 : Int32}  {S : Mem} : k_Mod_net_112 x1 S = if 8 ≤ x1 then some ((S.1 55 0), u1 S 55 18 0) else if inb x1 8 = true then k_Mod_net_112 (x1 + 1) (u1 S 66 x1.toNatClampNeg 0) else none := by
  show cI (mV oS X0 117 112 [some (.ref 55), some (.int x1)] [] S) = _
  refine V_iload_n (c := cI) i117_112.1 (mM_s i117_112.2 rfl) rfl ?_
  refine V_bipush (c := cI) i117_113.1 (mM_n i117_113.2) (v := 8) rfl ?_
  refine V_icmp_ge (c := cI) i117_115.1 (mM_n i117_115.2) rfl (fun _ => ?_) (fun _ => ?_)
  · refine V_aload_n (c := cI) i117_131.1 (mM_n i117_131.2) rfl rfl ?_
    refine V_iconst (c := cI) i117_132.1 (mM_n i117_132.2) (v := 0) rfl ?_
    refine V_pf (c := cI) i117_133.1 (mM_n i117_133.2) p117_98 (pf_i rfl rfl rfl) ?_
    refine V_aload_n (c := cI) i117_136.1 (mM_n i117_136.2) rfl rfl ?_
    refine V_gf (c := cI) i117_137.1 (mM_n i117_137.2) (v := .int (S.1 55 0)) g117_140 rfl ?_
    exact V_iret i117_140.1 (mM_n i117_140.2) rfl
  · refine V_aload_n (c := cI) i117_118.1 (mM_n i117_118.2) rfl rfl ?_
    refine V_gf (c := cI) i117_119.1 (mM_n i117_119.2) (v := .ref 66) g117_41 rfl ?_
    refine V_iload_n (c := cI) i117_122.1 (mM_n i117_122.2) rfl ?_
    refine V_iconst (c := cI) i117_123.1 (mM_n i117_123.2) (v := 0) rfl ?_
    refine V_iastore (c := cI) (x1 := 0) i117_124.1 (mM_n i117_124.2) rfl rfl rfl rfl (fun _ => ?_)
    refine V_iinc (c := cI) i117_125.1 (mM_n i117_125.2) (l1 := [some (.ref 55), some (.int (x1 + 1))]) rfl rfl rfl ?_
    refine V_goto (c := cI) i117_128.1 (mM_n i117_128.2) rfl ?_
    exact V_msk (l1 := [some (.ref 55), some (.int (x1 + 1))]) i117_112.2 rfl rfl
theorem f_Mod_laneNow_eq {x1 : Int32} {x2 : Int32}  {S : Mem} : f_Mod_laneNow x1 x2 S = if x2 = 0 then if inb x1 12 = true then k_Mod_laneNow_41 (S.1 56 (x1.toNatClampNeg)) S else none else if x2 = 1 then if inb x1 12 = true then k_Mod_laneNow_41 (S.1 57 (x1.toNatClampNeg)) S else none else if inb x1 12 = true then if (S.1 58 (x1.toNatClampNeg)) = 0 then k_Mod_laneNow_41 0 S else k_Mod_laneNow_41 1 S else none := by
  show cI (mV oS X0 118 0 [some (.ref 55), some (.int x1), some (.int x2)] [] S) = _
  refine V_iload_n (c := cI) i118_0.1 (mM_n i118_0.2) rfl ?_
  refine V_if_ne (c := cI) i118_1.1 (mM_n i118_1.2) rfl (fun _ => ?_) (fun _ => ?_)
  · refine V_aload_n (c := cI) i118_4.1 (mM_n i118_4.2) rfl rfl ?_
    refine V_gf (c := cI) i118_5.1 (mM_n i118_5.2) (v := .ref 56) g118_7 rfl ?_
    refine V_iload_n (c := cI) i118_8.1 (mM_n i118_8.2) rfl ?_
    refine V_iaload (c := cI) i118_9.1 (mM_n i118_9.2) rfl rfl (fun _ => ?_)
    refine V_goto (c := cI) i118_10.1 (mM_n i118_10.2) rfl ?_
    exact V_msk (l1 := [none, none, none]) i118_41.2 rfl rfl
  · refine V_iload_n (c := cI) i118_13.1 (mM_n i118_13.2) rfl ?_
    refine V_iconst (c := cI) i118_14.1 (mM_n i118_14.2) (v := 1) rfl ?_
    refine V_icmp_ne (c := cI) i118_15.1 (mM_n i118_15.2) rfl (fun _ => ?_) (fun _ => ?_)
    · refine V_aload_n (c := cI) i118_18.1 (mM_n i118_18.2) rfl rfl ?_
      refine V_gf (c := cI) i118_19.1 (mM_n i118_19.2) (v := .ref 57) g118_13 rfl ?_
      refine V_iload_n (c := cI) i118_22.1 (mM_n i118_22.2) rfl ?_
      refine V_iaload (c := cI) i118_23.1 (mM_n i118_23.2) rfl rfl (fun _ => ?_)
      refine V_goto (c := cI) i118_24.1 (mM_n i118_24.2) rfl ?_
      exact V_msk (l1 := [none, none, none]) i118_41.2 rfl rfl
    · refine V_aload_n (c := cI) i118_27.1 (mM_n i118_27.2) rfl rfl ?_
      refine V_gf (c := cI) i118_28.1 (mM_n i118_28.2) (v := .ref 58) g118_16 rfl ?_
      refine V_iload_n (c := cI) i118_31.1 (mM_n i118_31.2) rfl ?_
      refine V_baload (c := cI) i118_32.1 (mM_n i118_32.2) rfl rfl rfl (fun _ => ?_)
      refine V_if_eq (c := cI) i118_33.1 (mM_n i118_33.2) rfl (fun _ => ?_) (fun _ => ?_)
      · refine V_iconst (c := cI) i118_40.1 (mM_n i118_40.2) (v := 0) rfl ?_
        exact V_msk (l1 := [none, none, none]) i118_41.2 rfl rfl
      · refine V_iconst (c := cI) i118_36.1 (mM_n i118_36.2) (v := 1) rfl ?_
        refine V_goto (c := cI) i118_37.1 (mM_n i118_37.2) rfl ?_
        exact V_msk (l1 := [none, none, none]) i118_41.2 rfl rfl
theorem k_Mod_laneNow_41_eq {xs0 : Int32}  {S : Mem} : k_Mod_laneNow_41 xs0 S = some (xs0, S) := by
  show cI (mV oS X0 118 41 [none, none, none] [.int xs0] S) = _
  exact V_iret i118_41.1 (mM_s i118_41.2 rfl) rfl
theorem f_Mod_lane_eq {x1 : Int32} {x2 : Int32}  {S : Mem} : f_Mod_lane x1 x2 S = bI (f_Mod_within x1 0 ((S.1 55 0) - 1) S) (fun r8 S7 => if r8 = 0 then some ((-101), S7) else bI (f_Mod_within x2 0 2 S7) (fun r10 S9 => if r10 = 0 then k_Mod_lane_37 (-102) S9 else bI (f_Mod_laneNow x1 x2 S9) (fun r12 S11 => k_Mod_lane_37 r12 S11))) := by
  show cI (mV oS X0 119 0 [some (.ref 55), some (.int x1), some (.int x2)] [] S) = _
  refine V_iload_n (c := cI) i119_0.1 (mM_n i119_0.2) rfl ?_
  refine V_iconst (c := cI) i119_1.1 (mM_n i119_1.2) (v := 0) rfl ?_
  refine V_aload_n (c := cI) i119_2.1 (mM_n i119_2.2) rfl rfl ?_
  refine V_gf (c := cI) i119_3.1 (mM_n i119_3.2) (v := .int (S.1 55 0)) g119_140 rfl ?_
  refine V_iconst (c := cI) i119_6.1 (mM_n i119_6.2) (v := 1) rfl ?_
  refine V_isub (c := cI) i119_7.1 (mM_n i119_7.2)  ?_
  refine V_ciI (c := cI) (As := [.int x1, .int 0, .int ((S.1 55 0) - 1)]) (rest := []) i119_8.1 (mM_n i119_8.2) c119_105 rfl rfl rfl (Nat.le_of_ble_eq_true rfl) rfl (fun r8 S7 => ?_)
  refine V_if_ne (c := cI) i119_11.1 (mM_n i119_11.2) rfl (fun _ => ?_) (fun _ => ?_)
  · refine V_bipush (c := cI) i119_14.1 (mM_n i119_14.2) (v := (-101)) rfl ?_
    exact V_iret i119_16.1 (mM_n i119_16.2) rfl
  · refine V_iload_n (c := cI) i119_17.1 (mM_n i119_17.2) rfl ?_
    refine V_iconst (c := cI) i119_18.1 (mM_n i119_18.2) (v := 0) rfl ?_
    refine V_iconst (c := cI) i119_19.1 (mM_n i119_19.2) (v := 2) rfl ?_
    refine V_ciI (c := cI) (As := [.int x2, .int 0, .int 2]) (rest := []) i119_20.1 (mM_n i119_20.2) c119_105 rfl rfl rfl (Nat.le_of_ble_eq_true rfl) rfl (fun r10 S9 => ?_)
    refine V_if_eq (c := cI) i119_23.1 (mM_n i119_23.2) rfl (fun _ => ?_) (fun _ => ?_)
    · refine V_bipush (c := cI) i119_35.1 (mM_n i119_35.2) (v := (-102)) rfl ?_
      exact V_msk (l1 := [none, none, none]) i119_37.2 rfl rfl
    · refine V_aload_n (c := cI) i119_26.1 (mM_n i119_26.2) rfl rfl ?_
      refine V_iload_n (c := cI) i119_27.1 (mM_n i119_27.2) rfl ?_
      refine V_iload_n (c := cI) i119_28.1 (mM_n i119_28.2) rfl ?_
      refine V_cvI (c := cI) (As := [.int x1, .int x2]) (rest := []) i119_29.1 (mM_n i119_29.2) c119_158 rfl rfl rfl rfl (Nat.le_of_ble_eq_true rfl) rfl (fun r12 S11 => ?_)
      refine V_goto (c := cI) i119_32.1 (mM_n i119_32.2) rfl ?_
      exact V_msk (l1 := [none, none, none]) i119_37.2 rfl rfl
theorem k_Mod_lane_37_eq {xs0 : Int32}  {S : Mem} : k_Mod_lane_37 xs0 S = some (xs0, S) := by
  show cI (mV oS X0 119 37 [none, none, none] [.int xs0] S) = _
  exact V_iret i119_37.1 (mM_s i119_37.2 rfl) rfl
theorem f_Mod_laneOf_eq {x1 : Int32} {x2 : Int32}  {S : Mem} : f_Mod_laneOf x1 x2 S = k_Mod_laneOf_2 x1 x2 0 S := by
  show cI (mV oS X0 120 0 [some (.ref 55), some (.int x1), some (.int x2), none] [] S) = _
  refine V_iconst (c := cI) i120_0.1 (mM_n i120_0.2) (v := 0) rfl ?_
  refine V_istore_n (c := cI) i120_1.1 (mM_n i120_1.2) (l1 := [some (.ref 55), some (.int x1), some (.int x2), some (.int 0)])  (Nat.le_of_ble_eq_true rfl) rfl ?_
  exact V_msk (l1 := [some (.ref 55), some (.int x1), some (.int x2), some (.int 0)]) i120_2.2 rfl rfl
theorem k_Mod_laneOf_2_eq {x1 : Int32} {x2 : Int32} {x3 : Int32}  {S : Mem} : k_Mod_laneOf_2 x1 x2 x3 S = if (S.1 55 0) ≤ x3 then some ((-1), S) else if inb x3 12 = true then if (S.1 56 (x3.toNatClampNeg)) = x1 then if inb x3 12 = true then if (S.1 57 (x3.toNatClampNeg)) = x2 then k_Mod_laneOf_50 x3 S else k_Mod_laneOf_30 x1 x2 x3 S else none else k_Mod_laneOf_30 x1 x2 x3 S else none := by
  show cI (mV oS X0 120 2 [some (.ref 55), some (.int x1), some (.int x2), some (.int x3)] [] S) = _
  refine V_iload_n (c := cI) i120_2.1 (mM_s i120_2.2 rfl) rfl ?_
  refine V_aload_n (c := cI) i120_3.1 (mM_n i120_3.2) rfl rfl ?_
  refine V_gf (c := cI) i120_4.1 (mM_n i120_4.2) (v := .int (S.1 55 0)) g120_140 rfl ?_
  refine V_icmp_ge (c := cI) i120_7.1 (mM_n i120_7.2) rfl (fun _ => ?_) (fun _ => ?_)
  · refine V_iconst (c := cI) i120_58.1 (mM_n i120_58.2) (v := (-1)) rfl ?_
    exact V_iret i120_59.1 (mM_n i120_59.2) rfl
  · refine V_aload_n (c := cI) i120_10.1 (mM_n i120_10.2) rfl rfl ?_
    refine V_gf (c := cI) i120_11.1 (mM_n i120_11.2) (v := .ref 56) g120_7 rfl ?_
    refine V_iload_n (c := cI) i120_14.1 (mM_n i120_14.2) rfl ?_
    refine V_iaload (c := cI) i120_15.1 (mM_n i120_15.2) rfl rfl (fun _ => ?_)
    refine V_iload_n (c := cI) i120_16.1 (mM_n i120_16.2) rfl ?_
    refine V_icmp_ne (c := cI) i120_17.1 (mM_n i120_17.2) rfl (fun _ => ?_) (fun _ => ?_)
    · refine V_aload_n (c := cI) i120_20.1 (mM_n i120_20.2) rfl rfl ?_
      refine V_gf (c := cI) i120_21.1 (mM_n i120_21.2) (v := .ref 57) g120_13 rfl ?_
      refine V_iload_n (c := cI) i120_24.1 (mM_n i120_24.2) rfl ?_
      refine V_iaload (c := cI) i120_25.1 (mM_n i120_25.2) rfl rfl (fun _ => ?_)
      refine V_iload_n (c := cI) i120_26.1 (mM_n i120_26.2) rfl ?_
      refine V_icmp_eq (c := cI) i120_27.1 (mM_n i120_27.2) rfl (fun _ => ?_) (fun _ => ?_)
      · exact V_msk (l1 := [none, none, none, some (.int x3)]) i120_50.2 rfl rfl
      · exact V_msk (l1 := [some (.ref 55), some (.int x1), some (.int x2), some (.int x3)]) i120_30.2 rfl rfl
    · exact V_msk (l1 := [some (.ref 55), some (.int x1), some (.int x2), some (.int x3)]) i120_30.2 rfl rfl
theorem k_Mod_laneOf_30_eq {x1 : Int32} {x2 : Int32} {x3 : Int32}  {S : Mem} : k_Mod_laneOf_30 x1 x2 x3 S = if inb x3 12 = true then if (S.1 56 (x3.toNatClampNeg)) = x2 then if inb x3 12 = true then if (S.1 57 (x3.toNatClampNeg)) = x1 then k_Mod_laneOf_50 x3 S else k_Mod_laneOf_52 x1 x2 x3 S else none else k_Mod_laneOf_52 x1 x2 x3 S else none := by
  show cI (mV oS X0 120 30 [some (.ref 55), some (.int x1), some (.int x2), some (.int x3)] [] S) = _
  refine V_aload_n (c := cI) i120_30.1 (mM_s i120_30.2 rfl) rfl rfl ?_
  refine V_gf (c := cI) i120_31.1 (mM_n i120_31.2) (v := .ref 56) g120_7 rfl ?_
  refine V_iload_n (c := cI) i120_34.1 (mM_n i120_34.2) rfl ?_
  refine V_iaload (c := cI) i120_35.1 (mM_n i120_35.2) rfl rfl (fun _ => ?_)
  refine V_iload_n (c := cI) i120_36.1 (mM_n i120_36.2) rfl ?_
  refine V_icmp_ne (c := cI) i120_37.1 (mM_n i120_37.2) rfl (fun _ => ?_) (fun _ => ?_)
  · refine V_aload_n (c := cI) i120_40.1 (mM_n i120_40.2) rfl rfl ?_
    refine V_gf (c := cI) i120_41.1 (mM_n i120_41.2) (v := .ref 57) g120_13 rfl ?_
    refine V_iload_n (c := cI) i120_44.1 (mM_n i120_44.2) rfl ?_
    refine V_iaload (c := cI) i120_45.1 (mM_n i120_45.2) rfl rfl (fun _ => ?_)
    refine V_iload_n (c := cI) i120_46.1 (mM_n i120_46.2) rfl ?_
    refine V_icmp_ne (c := cI) i120_47.1 (mM_n i120_47.2) rfl (fun _ => ?_) (fun _ => ?_)
    · exact V_msk (l1 := [none, none, none, some (.int x3)]) i120_50.2 rfl rfl
    · exact V_msk (l1 := [some (.ref 55), some (.int x1), some (.int x2), some (.int x3)]) i120_52.2 rfl rfl
  · exact V_msk (l1 := [some (.ref 55), some (.int x1), some (.int x2), some (.int x3)]) i120_52.2 rfl rfl
theorem k_Mod_laneOf_50_eq {x3 : Int32}  {S : Mem} : k_Mod_laneOf_50 x3 S = some (x3, S) := by
  show cI (mV oS X0 120 50 [none, none, none, some (.int x3)] [] S) = _
  refine V_iload_n (c := cI) i120_50.1 (mM_s i120_50.2 rfl) rfl ?_
  exact V_iret i120_51.1 (mM_n i120_51.2) rfl
theorem k_Mod_laneOf_52_eq {x1 : Int32} {x2 : Int32} {x3 : Int32}  {S : Mem} : k_Mod_laneOf_52 x1 x2 x3 S = k_Mod_laneOf_2 x1 x2 (x3 + 1) S := by
  show cI (mV oS X0 120 52 [some (.ref 55), some (.int x1), some (.int x2), some (.int x3)] [] S) = _
  refine V_iinc (c := cI) i120_52.1 (mM_s i120_52.2 rfl) (l1 := [some (.ref 55), some (.int x1), some (.int x2), some (.int (x3 + 1))]) rfl rfl rfl ?_
  refine V_goto (c := cI) i120_55.1 (mM_n i120_55.2) rfl ?_
  exact V_msk (l1 := [some (.ref 55), some (.int x1), some (.int x2), some (.int (x3 + 1))]) i120_2.2 rfl rfl
theorem f_Mod_isWalker_eq {x1 : Int32}  {S : Mem} : f_Mod_isWalker x1 S = bI (f_Mod_within x1 0 ((S.1 55 7) - 1) S) (fun r4 S3 => if zb r4 = true then some (r4, S3) else none) := by
  show cI (mV oS X0 121 0 [some (.ref 55), some (.int x1)] [] S) = _
  refine V_iload_n (c := cI) i121_0.1 (mM_n i121_0.2) rfl ?_
  refine V_iconst (c := cI) i121_1.1 (mM_n i121_1.2) (v := 0) rfl ?_
  refine V_aload_n (c := cI) i121_2.1 (mM_n i121_2.2) rfl rfl ?_
  refine V_gf (c := cI) i121_3.1 (mM_n i121_3.2) (v := .int (S.1 55 7)) g121_152 rfl ?_
  refine V_iconst (c := cI) i121_6.1 (mM_n i121_6.2) (v := 1) rfl ?_
  refine V_isub (c := cI) i121_7.1 (mM_n i121_7.2)  ?_
  refine V_ciI (c := cI) (As := [.int x1, .int 0, .int ((S.1 55 7) - 1)]) (rest := []) i121_8.1 (mM_n i121_8.2) c121_105 rfl rfl rfl (Nat.le_of_ble_eq_true rfl) rfl (fun r4 S3 => ?_)
  exact V_iretZ i121_11.1 (mM_n i121_11.2) rfl
theorem f_Mod_walker_eq {x1 : Int32} {x2 : Int32} {x3 : Int32} {x4 : Int32}  {S : Mem} : f_Mod_walker x1 x2 x3 x4 S = bI (f_Mod_isCorner x2 S) (fun r10 S9 => if r10 = 0 then k_Mod_walker_14 S9 else bI (f_Mod_isCorner x3 S9) (fun r12 S11 => if r12 = 0 then k_Mod_walker_14 S11 else bI (f_Mod_within x1 0 3 S11) (fun r14 S13 => if r14 = 0 then k_Mod_walker_37 S13 else bI (f_Mod_within x4 0 20 S13) (fun r16 S15 => if r16 = 0 then k_Mod_walker_37 S15 else if (S15.1 55 6) = 0 then some ((-103), S15) else if (S15.1 55 7) = 5 then some ((-104), S15) else if inb (S15.1 55 7) 5 = true then if inb (S15.1 55 7) 5 = true then if inb (S15.1 55 7) 5 = true then if inb (S15.1 55 7) 5 = true then if inb (S15.1 55 7) 5 = true then if inb (S15.1 55 7) 5 = true then some ((((S15.1 55 7) + 1) - 1), u1 (u1 (u1 (u1 (u1 (u1 (u1 S15 59 ((S15.1 55 7).toNatClampNeg) x1) 60 ((S15.1 55 7).toNatClampNeg) x2) 61 ((S15.1 55 7).toNatClampNeg) x3) 62 ((S15.1 55 7).toNatClampNeg) x4) 64 ((S15.1 55 7).toNatClampNeg) 0) 65 ((S15.1 55 7).toNatClampNeg) 0) 55 7 ((S15.1 55 7) + 1)) else none else none else none else none else none else none)))) := by
  show cI (mV oS X0 122 0 [some (.ref 55), some (.int x1), some (.int x2), some (.int x3), some (.int x4)] [] S) = _
  refine V_iload_n (c := cI) i122_0.1 (mM_n i122_0.2) rfl ?_
  refine V_ciI (c := cI) (As := [.int x2]) (rest := []) i122_1.1 (mM_n i122_1.2) c122_109 rfl rfl rfl (Nat.le_of_ble_eq_true rfl) rfl (fun r10 S9 => ?_)
  refine V_if_eq (c := cI) i122_4.1 (mM_n i122_4.2) rfl (fun _ => ?_) (fun _ => ?_)
  · exact V_msk (l1 := [none, none, none, none, none]) i122_14.2 rfl rfl
  · refine V_iload_n (c := cI) i122_7.1 (mM_n i122_7.2) rfl ?_
    refine V_ciI (c := cI) (As := [.int x3]) (rest := []) i122_8.1 (mM_n i122_8.2) c122_109 rfl rfl rfl (Nat.le_of_ble_eq_true rfl) rfl (fun r12 S11 => ?_)
    refine V_if_ne (c := cI) i122_11.1 (mM_n i122_11.2) rfl (fun _ => ?_) (fun _ => ?_)
    · exact V_msk (l1 := [none, none, none, none, none]) i122_14.2 rfl rfl
    · refine V_iload_n (c := cI) i122_17.1 (mM_n i122_17.2) rfl ?_
      refine V_iconst (c := cI) i122_18.1 (mM_n i122_18.2) (v := 0) rfl ?_
      refine V_iconst (c := cI) i122_19.1 (mM_n i122_19.2) (v := 3) rfl ?_
      refine V_ciI (c := cI) (As := [.int x1, .int 0, .int 3]) (rest := []) i122_20.1 (mM_n i122_20.2) c122_105 rfl rfl rfl (Nat.le_of_ble_eq_true rfl) rfl (fun r14 S13 => ?_)
      refine V_if_eq (c := cI) i122_23.1 (mM_n i122_23.2) rfl (fun _ => ?_) (fun _ => ?_)
      · exact V_msk (l1 := [none, none, none, none, none]) i122_37.2 rfl rfl
      · refine V_iload (c := cI) i122_26.1 (mM_n i122_26.2) rfl ?_
        refine V_iconst (c := cI) i122_28.1 (mM_n i122_28.2) (v := 0) rfl ?_
        refine V_bipush (c := cI) i122_29.1 (mM_n i122_29.2) (v := 20) rfl ?_
        refine V_ciI (c := cI) (As := [.int x4, .int 0, .int 20]) (rest := []) i122_31.1 (mM_n i122_31.2) c122_105 rfl rfl rfl (Nat.le_of_ble_eq_true rfl) rfl (fun r16 S15 => ?_)
        refine V_if_ne (c := cI) i122_34.1 (mM_n i122_34.2) rfl (fun _ => ?_) (fun _ => ?_)
        · exact V_msk (l1 := [none, none, none, none, none]) i122_37.2 rfl rfl
        · refine V_aload_n (c := cI) i122_40.1 (mM_n i122_40.2) rfl rfl ?_
          refine V_gf (c := cI) i122_41.1 (mM_n i122_41.2) (v := .int (S15.1 55 6)) g122_149 rfl ?_
          refine V_if_ne (c := cI) i122_44.1 (mM_n i122_44.2) rfl (fun _ => ?_) (fun _ => ?_)
          · refine V_bipush (c := cI) i122_47.1 (mM_n i122_47.2) (v := (-103)) rfl ?_
            exact V_iret i122_49.1 (mM_n i122_49.2) rfl
          · refine V_aload_n (c := cI) i122_50.1 (mM_n i122_50.2) rfl rfl ?_
            refine V_gf (c := cI) i122_51.1 (mM_n i122_51.2) (v := .int (S15.1 55 7)) g122_152 rfl ?_
            refine V_iconst (c := cI) i122_54.1 (mM_n i122_54.2) (v := 5) rfl ?_
            refine V_icmp_ne (c := cI) i122_55.1 (mM_n i122_55.2) rfl (fun _ => ?_) (fun _ => ?_)
            · refine V_bipush (c := cI) i122_58.1 (mM_n i122_58.2) (v := (-104)) rfl ?_
              exact V_iret i122_60.1 (mM_n i122_60.2) rfl
            · refine V_aload_n (c := cI) i122_61.1 (mM_n i122_61.2) rfl rfl ?_
              refine V_gf (c := cI) i122_62.1 (mM_n i122_62.2) (v := .ref 59) g122_20 rfl ?_
              refine V_aload_n (c := cI) i122_65.1 (mM_n i122_65.2) rfl rfl ?_
              refine V_gf (c := cI) i122_66.1 (mM_n i122_66.2) (v := .int (S15.1 55 7)) g122_152 rfl ?_
              refine V_iload_n (c := cI) i122_69.1 (mM_n i122_69.2) rfl ?_
              refine V_iastore (c := cI) (x1 := x1) i122_70.1 (mM_n i122_70.2) rfl rfl rfl rfl (fun _ => ?_)
              refine V_aload_n (c := cI) i122_71.1 (mM_n i122_71.2) rfl rfl ?_
              refine V_gf (c := cI) i122_72.1 (mM_n i122_72.2) (v := .ref 60) g122_23 rfl ?_
              refine V_aload_n (c := cI) i122_75.1 (mM_n i122_75.2) rfl rfl ?_
              refine V_gf (c := cI) i122_76.1 (mM_n i122_76.2) (v := .int (S15.1 55 7)) g122_152 rfl ?_
              refine V_iload_n (c := cI) i122_79.1 (mM_n i122_79.2) rfl ?_
              refine V_iastore (c := cI) (x1 := x2) i122_80.1 (mM_n i122_80.2) rfl rfl rfl rfl (fun _ => ?_)
              refine V_aload_n (c := cI) i122_81.1 (mM_n i122_81.2) rfl rfl ?_
              refine V_gf (c := cI) i122_82.1 (mM_n i122_82.2) (v := .ref 61) g122_26 rfl ?_
              refine V_aload_n (c := cI) i122_85.1 (mM_n i122_85.2) rfl rfl ?_
              refine V_gf (c := cI) i122_86.1 (mM_n i122_86.2) (v := .int (S15.1 55 7)) g122_152 rfl ?_
              refine V_iload_n (c := cI) i122_89.1 (mM_n i122_89.2) rfl ?_
              refine V_iastore (c := cI) (x1 := x3) i122_90.1 (mM_n i122_90.2) rfl rfl rfl rfl (fun _ => ?_)
              refine V_aload_n (c := cI) i122_91.1 (mM_n i122_91.2) rfl rfl ?_
              refine V_gf (c := cI) i122_92.1 (mM_n i122_92.2) (v := .ref 62) g122_29 rfl ?_
              refine V_aload_n (c := cI) i122_95.1 (mM_n i122_95.2) rfl rfl ?_
              refine V_gf (c := cI) i122_96.1 (mM_n i122_96.2) (v := .int (S15.1 55 7)) g122_152 rfl ?_
              refine V_iload (c := cI) i122_99.1 (mM_n i122_99.2) rfl ?_
              refine V_iastore (c := cI) (x1 := x4) i122_101.1 (mM_n i122_101.2) rfl rfl rfl rfl (fun _ => ?_)
              refine V_aload_n (c := cI) i122_102.1 (mM_n i122_102.2) rfl rfl ?_
              refine V_gf (c := cI) i122_103.1 (mM_n i122_103.2) (v := .ref 64) g122_35 rfl ?_
              refine V_aload_n (c := cI) i122_106.1 (mM_n i122_106.2) rfl rfl ?_
              refine V_gf (c := cI) i122_107.1 (mM_n i122_107.2) (v := .int (S15.1 55 7)) g122_152 rfl ?_
              refine V_iconst (c := cI) i122_110.1 (mM_n i122_110.2) (v := 0) rfl ?_
              refine V_iastore (c := cI) (x1 := 0) i122_111.1 (mM_n i122_111.2) rfl rfl rfl rfl (fun _ => ?_)
              refine V_aload_n (c := cI) i122_112.1 (mM_n i122_112.2) rfl rfl ?_
              refine V_gf (c := cI) i122_113.1 (mM_n i122_113.2) (v := .ref 65) g122_38 rfl ?_
              refine V_aload_n (c := cI) i122_116.1 (mM_n i122_116.2) rfl rfl ?_
              refine V_gf (c := cI) i122_117.1 (mM_n i122_117.2) (v := .int (S15.1 55 7)) g122_152 rfl ?_
              refine V_iconst (c := cI) i122_120.1 (mM_n i122_120.2) (v := 0) rfl ?_
              refine V_iastore (c := cI) (x1 := 0) i122_121.1 (mM_n i122_121.2) rfl rfl rfl rfl (fun _ => ?_)
              refine V_aload_n (c := cI) i122_122.1 (mM_n i122_122.2) rfl rfl ?_
              refine V_dup (c := cI) i122_123.1 (mM_n i122_123.2) rfl ?_
              refine V_gf (c := cI) i122_124.1 (mM_n i122_124.2) (v := .int (S15.1 55 7)) g122_152 rfl ?_
              refine V_iconst (c := cI) i122_127.1 (mM_n i122_127.2) (v := 1) rfl ?_
              refine V_iadd (c := cI) i122_128.1 (mM_n i122_128.2)  ?_
              refine V_pf (c := cI) i122_129.1 (mM_n i122_129.2) p122_152 (pf_i rfl rfl rfl) ?_
              refine V_aload_n (c := cI) i122_132.1 (mM_n i122_132.2) rfl rfl ?_
              refine V_gf (c := cI) i122_133.1 (mM_n i122_133.2) (v := .int ((S15.1 55 7) + 1)) g122_152 rfl ?_
              refine V_iconst (c := cI) i122_136.1 (mM_n i122_136.2) (v := 1) rfl ?_
              refine V_isub (c := cI) i122_137.1 (mM_n i122_137.2)  ?_
              exact V_iret i122_138.1 (mM_n i122_138.2) rfl
theorem k_Mod_walker_14_eq   {S : Mem} : k_Mod_walker_14  S = some ((-101), S) := by
  show cI (mV oS X0 122 14 [none, none, none, none, none] [] S) = _
  refine V_bipush (c := cI) i122_14.1 (mM_s i122_14.2 rfl) (v := (-101)) rfl ?_
  exact V_iret i122_16.1 (mM_n i122_16.2) rfl
theorem k_Mod_walker_37_eq   {S : Mem} : k_Mod_walker_37  S = some ((-102), S) := by
  show cI (mV oS X0 122 37 [none, none, none, none, none] [] S) = _
  refine V_bipush (c := cI) i122_37.1 (mM_s i122_37.2 rfl) (v := (-102)) rfl ?_
  exact V_iret i122_39.1 (mM_n i122_39.2) rfl
theorem f_Mod_carries_eq {x1 : Int32}  {S : Mem} : f_Mod_carries x1 S = if inb x1 5 = true then if (S.1 59 (x1.toNatClampNeg)) = 2 then if inb x1 5 = true then k_Mod_carries_28 ((S.1 62 (x1.toNatClampNeg)) + 7) S else none else if inb x1 5 = true then k_Mod_carries_28 (S.1 62 (x1.toNatClampNeg)) S else none else none := by
  show cI (mV oS X0 123 0 [some (.ref 55), some (.int x1)] [] S) = _
  refine V_aload_n (c := cI) i123_0.1 (mM_n i123_0.2) rfl rfl ?_
  refine V_gf (c := cI) i123_1.1 (mM_n i123_1.2) (v := .ref 59) g123_20 rfl ?_
  refine V_iload_n (c := cI) i123_4.1 (mM_n i123_4.2) rfl ?_
  refine V_iaload (c := cI) i123_5.1 (mM_n i123_5.2) rfl rfl (fun _ => ?_)
  refine V_iconst (c := cI) i123_6.1 (mM_n i123_6.2) (v := 2) rfl ?_
  refine V_icmp_ne (c := cI) i123_7.1 (mM_n i123_7.2) rfl (fun _ => ?_) (fun _ => ?_)
  · refine V_aload_n (c := cI) i123_10.1 (mM_n i123_10.2) rfl rfl ?_
    refine V_gf (c := cI) i123_11.1 (mM_n i123_11.2) (v := .ref 62) g123_29 rfl ?_
    refine V_iload_n (c := cI) i123_14.1 (mM_n i123_14.2) rfl ?_
    refine V_iaload (c := cI) i123_15.1 (mM_n i123_15.2) rfl rfl (fun _ => ?_)
    refine V_bipush (c := cI) i123_16.1 (mM_n i123_16.2) (v := 7) rfl ?_
    refine V_iadd (c := cI) i123_18.1 (mM_n i123_18.2)  ?_
    refine V_goto (c := cI) i123_19.1 (mM_n i123_19.2) rfl ?_
    exact V_msk (l1 := [none, none]) i123_28.2 rfl rfl
  · refine V_aload_n (c := cI) i123_22.1 (mM_n i123_22.2) rfl rfl ?_
    refine V_gf (c := cI) i123_23.1 (mM_n i123_23.2) (v := .ref 62) g123_29 rfl ?_
    refine V_iload_n (c := cI) i123_26.1 (mM_n i123_26.2) rfl ?_
    refine V_iaload (c := cI) i123_27.1 (mM_n i123_27.2) rfl rfl (fun _ => ?_)
    exact V_msk (l1 := [none, none]) i123_28.2 rfl rfl
theorem k_Mod_carries_28_eq {xs0 : Int32}  {S : Mem} : k_Mod_carries_28 xs0 S = some (xs0, S) := by
  show cI (mV oS X0 123 28 [none, none] [.int xs0] S) = _
  exact V_iret i123_28.1 (mM_s i123_28.2 rfl) rfl
theorem f_Mod_wanted_eq {x1 : Int32}  {S : Mem} : f_Mod_wanted x1 S = if inb x1 5 = true then if inb x1 5 = true then if (S.1 64 (x1.toNatClampNeg)) ≤ (S.1 65 (x1.toNatClampNeg)) then k_Mod_wanted_35 (-1) S else if inb x1 5 = true then if inb (((20 : Int32) * x1) + (S.1 65 (x1.toNatClampNeg))) 100 = true then k_Mod_wanted_35 (S.1 63 ((((20 : Int32) * x1) + (S.1 65 (x1.toNatClampNeg))).toNatClampNeg)) S else none else none else none else none := by
  show cI (mV oS X0 124 0 [some (.ref 55), some (.int x1)] [] S) = _
  refine V_aload_n (c := cI) i124_0.1 (mM_n i124_0.2) rfl rfl ?_
  refine V_gf (c := cI) i124_1.1 (mM_n i124_1.2) (v := .ref 65) g124_38 rfl ?_
  refine V_iload_n (c := cI) i124_4.1 (mM_n i124_4.2) rfl ?_
  refine V_iaload (c := cI) i124_5.1 (mM_n i124_5.2) rfl rfl (fun _ => ?_)
  refine V_aload_n (c := cI) i124_6.1 (mM_n i124_6.2) rfl rfl ?_
  refine V_gf (c := cI) i124_7.1 (mM_n i124_7.2) (v := .ref 64) g124_35 rfl ?_
  refine V_iload_n (c := cI) i124_10.1 (mM_n i124_10.2) rfl ?_
  refine V_iaload (c := cI) i124_11.1 (mM_n i124_11.2) rfl rfl (fun _ => ?_)
  refine V_icmp_ge (c := cI) i124_12.1 (mM_n i124_12.2) rfl (fun _ => ?_) (fun _ => ?_)
  · refine V_iconst (c := cI) i124_34.1 (mM_n i124_34.2) (v := (-1)) rfl ?_
    exact V_msk (l1 := [none, none]) i124_35.2 rfl rfl
  · refine V_aload_n (c := cI) i124_15.1 (mM_n i124_15.2) rfl rfl ?_
    refine V_gf (c := cI) i124_16.1 (mM_n i124_16.2) (v := .ref 63) g124_32 rfl ?_
    refine V_bipush (c := cI) i124_19.1 (mM_n i124_19.2) (v := 20) rfl ?_
    refine V_iload_n (c := cI) i124_21.1 (mM_n i124_21.2) rfl ?_
    refine V_imul (c := cI) i124_22.1 (mM_n i124_22.2)  ?_
    refine V_aload_n (c := cI) i124_23.1 (mM_n i124_23.2) rfl rfl ?_
    refine V_gf (c := cI) i124_24.1 (mM_n i124_24.2) (v := .ref 65) g124_38 rfl ?_
    refine V_iload_n (c := cI) i124_27.1 (mM_n i124_27.2) rfl ?_
    refine V_iaload (c := cI) i124_28.1 (mM_n i124_28.2) rfl rfl (fun _ => ?_)
    refine V_iadd (c := cI) i124_29.1 (mM_n i124_29.2)  ?_
    refine V_iaload (c := cI) i124_30.1 (mM_n i124_30.2) rfl rfl (fun _ => ?_)
    refine V_goto (c := cI) i124_31.1 (mM_n i124_31.2) rfl ?_
    exact V_msk (l1 := [none, none]) i124_35.2 rfl rfl
theorem k_Mod_wanted_35_eq {xs0 : Int32}  {S : Mem} : k_Mod_wanted_35 xs0 S = some (xs0, S) := by
  show cI (mV oS X0 124 35 [none, none] [.int xs0] S) = _
  exact V_iret i124_35.1 (mM_s i124_35.2 rfl) rfl
theorem f_Mod_walkerNow_eq {x1 : Int32} {x2 : Int32}  {S : Mem} : f_Mod_walkerNow x1 x2 S = if x2 = 0 then if inb x1 5 = true then some ((S.1 59 (x1.toNatClampNeg)), S) else none else if x2 = 1 then if inb x1 5 = true then some ((S.1 60 (x1.toNatClampNeg)), S) else none else if x2 = 2 then if inb x1 5 = true then some ((S.1 61 (x1.toNatClampNeg)), S) else none else if x2 = 3 then if inb x1 5 = true then some ((S.1 62 (x1.toNatClampNeg)), S) else none else if x2 = 4 then bI (f_Mod_carries x1 S) (fun r6 S5 => some (r6, S5)) else if x2 = 5 then if inb x1 5 = true then if inb x1 5 = true then some (((S.1 64 (x1.toNatClampNeg)) - (S.1 65 (x1.toNatClampNeg))), S) else none else none else bI (f_Mod_wanted x1 S) (fun r8 S7 => some (r8, S7)) := by
  show cI (mV oS X0 125 0 [some (.ref 55), some (.int x1), some (.int x2)] [] S) = _
  refine V_iload_n (c := cI) i125_0.1 (mM_n i125_0.2) rfl ?_
  refine V_ite (fun hc0 => ?_) (fun hc0 => ?_)
  · refine V_sw (c := cI) i125_1.1 (mM_n i125_1.2) (o := 39) (by rw [hc0]; rfl) rfl ?_
    refine V_aload_n (c := cI) i125_40.1 (mM_n i125_40.2) rfl rfl ?_
    refine V_gf (c := cI) i125_41.1 (mM_n i125_41.2) (v := .ref 59) g125_20 rfl ?_
    refine V_iload_n (c := cI) i125_44.1 (mM_n i125_44.2) rfl ?_
    refine V_iaload (c := cI) i125_45.1 (mM_n i125_45.2) rfl rfl (fun _ => ?_)
    exact V_iret i125_46.1 (mM_n i125_46.2) rfl
  ·
    refine V_ite (fun hc1 => ?_) (fun hc1 => ?_)
    · refine V_sw (c := cI) i125_1.1 (mM_n i125_1.2) (o := 46) (by rw [hc1]; rfl) rfl ?_
      refine V_aload_n (c := cI) i125_47.1 (mM_n i125_47.2) rfl rfl ?_
      refine V_gf (c := cI) i125_48.1 (mM_n i125_48.2) (v := .ref 60) g125_23 rfl ?_
      refine V_iload_n (c := cI) i125_51.1 (mM_n i125_51.2) rfl ?_
      refine V_iaload (c := cI) i125_52.1 (mM_n i125_52.2) rfl rfl (fun _ => ?_)
      exact V_iret i125_53.1 (mM_n i125_53.2) rfl
    ·
      refine V_ite (fun hc2 => ?_) (fun hc2 => ?_)
      · refine V_sw (c := cI) i125_1.1 (mM_n i125_1.2) (o := 53) (by rw [hc2]; rfl) rfl ?_
        refine V_aload_n (c := cI) i125_54.1 (mM_n i125_54.2) rfl rfl ?_
        refine V_gf (c := cI) i125_55.1 (mM_n i125_55.2) (v := .ref 61) g125_26 rfl ?_
        refine V_iload_n (c := cI) i125_58.1 (mM_n i125_58.2) rfl ?_
        refine V_iaload (c := cI) i125_59.1 (mM_n i125_59.2) rfl rfl (fun _ => ?_)
        exact V_iret i125_60.1 (mM_n i125_60.2) rfl
      ·
        refine V_ite (fun hc3 => ?_) (fun hc3 => ?_)
        · refine V_sw (c := cI) i125_1.1 (mM_n i125_1.2) (o := 60) (by rw [hc3]; rfl) rfl ?_
          refine V_aload_n (c := cI) i125_61.1 (mM_n i125_61.2) rfl rfl ?_
          refine V_gf (c := cI) i125_62.1 (mM_n i125_62.2) (v := .ref 62) g125_29 rfl ?_
          refine V_iload_n (c := cI) i125_65.1 (mM_n i125_65.2) rfl ?_
          refine V_iaload (c := cI) i125_66.1 (mM_n i125_66.2) rfl rfl (fun _ => ?_)
          exact V_iret i125_67.1 (mM_n i125_67.2) rfl
        ·
          refine V_ite (fun hc4 => ?_) (fun hc4 => ?_)
          · refine V_sw (c := cI) i125_1.1 (mM_n i125_1.2) (o := 67) (by rw [hc4]; rfl) rfl ?_
            refine V_aload_n (c := cI) i125_68.1 (mM_n i125_68.2) rfl rfl ?_
            refine V_iload_n (c := cI) i125_69.1 (mM_n i125_69.2) rfl ?_
            refine V_cvI (c := cI) (As := [.int x1]) (rest := []) i125_70.1 (mM_n i125_70.2) c125_161 rfl rfl rfl rfl (Nat.le_of_ble_eq_true rfl) rfl (fun r6 S5 => ?_)
            exact V_iret i125_73.1 (mM_n i125_73.2) rfl
          ·
            refine V_ite (fun hc5 => ?_) (fun hc5 => ?_)
            · refine V_sw (c := cI) i125_1.1 (mM_n i125_1.2) (o := 73) (by rw [hc5]; rfl) rfl ?_
              refine V_aload_n (c := cI) i125_74.1 (mM_n i125_74.2) rfl rfl ?_
              refine V_gf (c := cI) i125_75.1 (mM_n i125_75.2) (v := .ref 64) g125_35 rfl ?_
              refine V_iload_n (c := cI) i125_78.1 (mM_n i125_78.2) rfl ?_
              refine V_iaload (c := cI) i125_79.1 (mM_n i125_79.2) rfl rfl (fun _ => ?_)
              refine V_aload_n (c := cI) i125_80.1 (mM_n i125_80.2) rfl rfl ?_
              refine V_gf (c := cI) i125_81.1 (mM_n i125_81.2) (v := .ref 65) g125_38 rfl ?_
              refine V_iload_n (c := cI) i125_84.1 (mM_n i125_84.2) rfl ?_
              refine V_iaload (c := cI) i125_85.1 (mM_n i125_85.2) rfl rfl (fun _ => ?_)
              refine V_isub (c := cI) i125_86.1 (mM_n i125_86.2)  ?_
              exact V_iret i125_87.1 (mM_n i125_87.2) rfl
            ·
              refine V_sw (c := cI) i125_1.1 (mM_n i125_1.2) (sw_o (n := 6) (by decide) (lt_s (lt_s (lt_s (lt_s (lt_s (lt_s lt_0 hc0) hc1) hc2) hc3) hc4) hc5)) rfl ?_
              refine V_aload_n (c := cI) i125_88.1 (mM_n i125_88.2) rfl rfl ?_
              refine V_iload_n (c := cI) i125_89.1 (mM_n i125_89.2) rfl ?_
              refine V_cvI (c := cI) (As := [.int x1]) (rest := []) i125_90.1 (mM_n i125_90.2) c125_165 rfl rfl rfl rfl (Nat.le_of_ble_eq_true rfl) rfl (fun r8 S7 => ?_)
              exact V_iret i125_93.1 (mM_n i125_93.2) rfl
theorem f_Mod_about_eq {x1 : Int32} {x2 : Int32}  {S : Mem} : f_Mod_about x1 x2 S = bI (f_Mod_isWalker x1 S) (fun r8 S7 => if r8 = 0 then k_Mod_about_34 (-101) S7 else bI (f_Mod_within x2 0 6 S7) (fun r10 S9 => if r10 = 0 then k_Mod_about_34 (-102) S9 else bI (f_Mod_walkerNow x1 x2 S9) (fun r12 S11 => k_Mod_about_34 r12 S11))) := by
  show cI (mV oS X0 126 0 [some (.ref 55), some (.int x1), some (.int x2)] [] S) = _
  refine V_aload_n (c := cI) i126_0.1 (mM_n i126_0.2) rfl rfl ?_
  refine V_iload_n (c := cI) i126_1.1 (mM_n i126_1.2) rfl ?_
  refine V_cvI (c := cI) (As := [.int x1]) (rest := []) i126_2.1 (mM_n i126_2.2) c126_168 rfl rfl rfl rfl (Nat.le_of_ble_eq_true rfl) rfl (fun r8 S7 => ?_)
  refine V_if_ne (c := cI) i126_5.1 (mM_n i126_5.2) rfl (fun _ => ?_) (fun _ => ?_)
  · refine V_bipush (c := cI) i126_8.1 (mM_n i126_8.2) (v := (-101)) rfl ?_
    refine V_goto (c := cI) i126_10.1 (mM_n i126_10.2) rfl ?_
    exact V_msk (l1 := [none, none, none]) i126_34.2 rfl rfl
  · refine V_iload_n (c := cI) i126_13.1 (mM_n i126_13.2) rfl ?_
    refine V_iconst (c := cI) i126_14.1 (mM_n i126_14.2) (v := 0) rfl ?_
    refine V_bipush (c := cI) i126_15.1 (mM_n i126_15.2) (v := 6) rfl ?_
    refine V_ciI (c := cI) (As := [.int x2, .int 0, .int 6]) (rest := []) i126_17.1 (mM_n i126_17.2) c126_105 rfl rfl rfl (Nat.le_of_ble_eq_true rfl) rfl (fun r10 S9 => ?_)
    refine V_if_eq (c := cI) i126_20.1 (mM_n i126_20.2) rfl (fun _ => ?_) (fun _ => ?_)
    · refine V_bipush (c := cI) i126_32.1 (mM_n i126_32.2) (v := (-102)) rfl ?_
      exact V_msk (l1 := [none, none, none]) i126_34.2 rfl rfl
    · refine V_aload_n (c := cI) i126_23.1 (mM_n i126_23.2) rfl rfl ?_
      refine V_iload_n (c := cI) i126_24.1 (mM_n i126_24.2) rfl ?_
      refine V_iload_n (c := cI) i126_25.1 (mM_n i126_25.2) rfl ?_
      refine V_cvI (c := cI) (As := [.int x1, .int x2]) (rest := []) i126_26.1 (mM_n i126_26.2) c126_171 rfl rfl rfl rfl (Nat.le_of_ble_eq_true rfl) rfl (fun r12 S11 => ?_)
      refine V_goto (c := cI) i126_29.1 (mM_n i126_29.2) rfl ?_
      exact V_msk (l1 := [none, none, none]) i126_34.2 rfl rfl
theorem k_Mod_about_34_eq {xs0 : Int32}  {S : Mem} : k_Mod_about_34 xs0 S = some (xs0, S) := by
  show cI (mV oS X0 126 34 [none, none, none] [.int xs0] S) = _
  exact V_iret i126_34.1 (mM_s i126_34.2 rfl) rfl
theorem f_Mod_as_eq {x1 : Int32} {x2 : Int32}  {S : Mem} : f_Mod_as x1 x2 S = bI (f_Mod_isWalker x1 S) (fun r6 S5 => if r6 = 0 then some ((-101), S5) else bI (f_Mod_within x2 0 3 S5) (fun r8 S7 => if r8 = 0 then some ((-102), S7) else if inb x1 5 = true then if x2 = 0 then k_Mod_as_49 x1 S7 else if (S7.1 59 (x1.toNatClampNeg)) = x2 then k_Mod_as_49 x1 S7 else if x2 = 1 then if (S7.1 59 (x1.toNatClampNeg)) = 3 then k_Mod_as_49 x1 S7 else k_Mod_as_53 S7 else k_Mod_as_53 S7 else none)) := by
  show cI (mV oS X0 127 0 [some (.ref 55), some (.int x1), some (.int x2), none] [] S) = _
  refine V_aload_n (c := cI) i127_0.1 (mM_n i127_0.2) rfl rfl ?_
  refine V_iload_n (c := cI) i127_1.1 (mM_n i127_1.2) rfl ?_
  refine V_cvI (c := cI) (As := [.int x1]) (rest := []) i127_2.1 (mM_n i127_2.2) c127_168 rfl rfl rfl rfl (Nat.le_of_ble_eq_true rfl) rfl (fun r6 S5 => ?_)
  refine V_if_ne (c := cI) i127_5.1 (mM_n i127_5.2) rfl (fun _ => ?_) (fun _ => ?_)
  · refine V_bipush (c := cI) i127_8.1 (mM_n i127_8.2) (v := (-101)) rfl ?_
    exact V_iret i127_10.1 (mM_n i127_10.2) rfl
  · refine V_iload_n (c := cI) i127_11.1 (mM_n i127_11.2) rfl ?_
    refine V_iconst (c := cI) i127_12.1 (mM_n i127_12.2) (v := 0) rfl ?_
    refine V_iconst (c := cI) i127_13.1 (mM_n i127_13.2) (v := 3) rfl ?_
    refine V_ciI (c := cI) (As := [.int x2, .int 0, .int 3]) (rest := []) i127_14.1 (mM_n i127_14.2) c127_105 rfl rfl rfl (Nat.le_of_ble_eq_true rfl) rfl (fun r8 S7 => ?_)
    refine V_if_ne (c := cI) i127_17.1 (mM_n i127_17.2) rfl (fun _ => ?_) (fun _ => ?_)
    · refine V_bipush (c := cI) i127_20.1 (mM_n i127_20.2) (v := (-102)) rfl ?_
      exact V_iret i127_22.1 (mM_n i127_22.2) rfl
    · refine V_aload_n (c := cI) i127_23.1 (mM_n i127_23.2) rfl rfl ?_
      refine V_gf (c := cI) i127_24.1 (mM_n i127_24.2) (v := .ref 59) g127_20 rfl ?_
      refine V_iload_n (c := cI) i127_27.1 (mM_n i127_27.2) rfl ?_
      refine V_iaload (c := cI) i127_28.1 (mM_n i127_28.2) rfl rfl (fun _ => ?_)
      refine V_istore_n (c := cI) i127_29.1 (mM_n i127_29.2) (l1 := [some (.ref 55), some (.int x1), some (.int x2), some (.int (S7.1 59 (x1.toNatClampNeg)))])  (Nat.le_of_ble_eq_true rfl) rfl ?_
      refine V_iload_n (c := cI) i127_30.1 (mM_n i127_30.2) rfl ?_
      refine V_if_eq (c := cI) i127_31.1 (mM_n i127_31.2) rfl (fun _ => ?_) (fun _ => ?_)
      · exact V_msk (l1 := [none, some (.int x1), none, none]) i127_49.2 rfl rfl
      · refine V_iload_n (c := cI) i127_34.1 (mM_n i127_34.2) rfl ?_
        refine V_iload_n (c := cI) i127_35.1 (mM_n i127_35.2) rfl ?_
        refine V_icmp_eq (c := cI) i127_36.1 (mM_n i127_36.2) rfl (fun _ => ?_) (fun _ => ?_)
        · exact V_msk (l1 := [none, some (.int x1), none, none]) i127_49.2 rfl rfl
        · refine V_iload_n (c := cI) i127_39.1 (mM_n i127_39.2) rfl ?_
          refine V_iconst (c := cI) i127_40.1 (mM_n i127_40.2) (v := 1) rfl ?_
          refine V_icmp_ne (c := cI) i127_41.1 (mM_n i127_41.2) rfl (fun _ => ?_) (fun _ => ?_)
          · refine V_iload_n (c := cI) i127_44.1 (mM_n i127_44.2) rfl ?_
            refine V_iconst (c := cI) i127_45.1 (mM_n i127_45.2) (v := 3) rfl ?_
            refine V_icmp_ne (c := cI) i127_46.1 (mM_n i127_46.2) rfl (fun _ => ?_) (fun _ => ?_)
            · exact V_msk (l1 := [none, some (.int x1), none, none]) i127_49.2 rfl rfl
            · exact V_msk (l1 := [none, none, none, none]) i127_53.2 rfl rfl
          · exact V_msk (l1 := [none, none, none, none]) i127_53.2 rfl rfl
theorem k_Mod_as_49_eq {x1 : Int32}  {S : Mem} : k_Mod_as_49 x1 S = k_Mod_as_54 x1 S := by
  show cI (mV oS X0 127 49 [none, some (.int x1), none, none] [] S) = _
  refine V_iload_n (c := cI) i127_49.1 (mM_s i127_49.2 rfl) rfl ?_
  refine V_goto (c := cI) i127_50.1 (mM_n i127_50.2) rfl ?_
  exact V_msk (l1 := [none, none, none, none]) i127_54.2 rfl rfl
theorem k_Mod_as_53_eq   {S : Mem} : k_Mod_as_53  S = k_Mod_as_54 (-1) S := by
  show cI (mV oS X0 127 53 [none, none, none, none] [] S) = _
  refine V_iconst (c := cI) i127_53.1 (mM_s i127_53.2 rfl) (v := (-1)) rfl ?_
  exact V_msk (l1 := [none, none, none, none]) i127_54.2 rfl rfl
theorem k_Mod_as_54_eq {xs0 : Int32}  {S : Mem} : k_Mod_as_54 xs0 S = some (xs0, S) := by
  show cI (mV oS X0 127 54 [none, none, none, none] [.int xs0] S) = _
  exact V_iret i127_54.1 (mM_s i127_54.2 rfl) rfl
theorem f_Mod_way_eq {x1 : Int32}  {S : Mem} : f_Mod_way x1 S = bI (f_Mod_isWalker x1 S) (fun r7 S6 => if r7 = 0 then some ((-101), S6) else bU (f_Mod_readWay S6) (fun S8 => if inb x1 5 = true then k_Mod_way_30 x1 (S8.1 55 21) (S8.1 60 (x1.toNatClampNeg)) 0 S8 else none)) := by
  show cI (mV oS X0 128 0 [some (.ref 55), some (.int x1), none, none, none, none] [] S) = _
  refine V_aload_n (c := cI) i128_0.1 (mM_n i128_0.2) rfl rfl ?_
  refine V_iload_n (c := cI) i128_1.1 (mM_n i128_1.2) rfl ?_
  refine V_cvI (c := cI) (As := [.int x1]) (rest := []) i128_2.1 (mM_n i128_2.2) c128_168 rfl rfl rfl rfl (Nat.le_of_ble_eq_true rfl) rfl (fun r7 S6 => ?_)
  refine V_if_ne (c := cI) i128_5.1 (mM_n i128_5.2) rfl (fun _ => ?_) (fun _ => ?_)
  · refine V_bipush (c := cI) i128_8.1 (mM_n i128_8.2) (v := (-101)) rfl ?_
    exact V_iret i128_10.1 (mM_n i128_10.2) rfl
  · refine V_aload_n (c := cI) i128_11.1 (mM_n i128_11.2) rfl rfl ?_
    refine V_cvU (c := cI) (As := []) (rest := []) i128_12.1 (mM_n i128_12.2) c128_137 rfl rfl rfl rfl (Nat.le_of_ble_eq_true rfl) rfl (fun S8 => ?_)
    refine V_aload_n (c := cI) i128_15.1 (mM_n i128_15.2) rfl rfl ?_
    refine V_gf (c := cI) i128_16.1 (mM_n i128_16.2) (v := .int (S8.1 55 21)) g128_131 rfl ?_
    refine V_istore_n (c := cI) i128_19.1 (mM_n i128_19.2) (l1 := [some (.ref 55), some (.int x1), some (.int (S8.1 55 21)), none, none, none])  (Nat.le_of_ble_eq_true rfl) rfl ?_
    refine V_aload_n (c := cI) i128_20.1 (mM_n i128_20.2) rfl rfl ?_
    refine V_gf (c := cI) i128_21.1 (mM_n i128_21.2) (v := .ref 60) g128_23 rfl ?_
    refine V_iload_n (c := cI) i128_24.1 (mM_n i128_24.2) rfl ?_
    refine V_iaload (c := cI) i128_25.1 (mM_n i128_25.2) rfl rfl (fun _ => ?_)
    refine V_istore_n (c := cI) i128_26.1 (mM_n i128_26.2) (l1 := [some (.ref 55), some (.int x1), some (.int (S8.1 55 21)), some (.int (S8.1 60 (x1.toNatClampNeg))), none, none])  (Nat.le_of_ble_eq_true rfl) rfl ?_
    refine V_iconst (c := cI) i128_27.1 (mM_n i128_27.2) (v := 0) rfl ?_
    refine V_istore (c := cI) i128_28.1 (mM_n i128_28.2) (l1 := [some (.ref 55), some (.int x1), some (.int (S8.1 55 21)), some (.int (S8.1 60 (x1.toNatClampNeg))), some (.int 0), none])  (Nat.le_of_ble_eq_true rfl) rfl ?_
    exact V_msk (l1 := [some (.ref 55), some (.int x1), some (.int (S8.1 55 21)), some (.int (S8.1 60 (x1.toNatClampNeg))), some (.int 0), none]) i128_30.2 rfl rfl
theorem k_Mod_way_30_eq {x1 : Int32} {x2 : Int32} {x3 : Int32} {x4 : Int32}  {S : Mem} : k_Mod_way_30 x1 x2 x3 x4 S = if (S.1 55 18) ≤ x4 then k_Mod_way_87 x1 x2 S else if x2 = 0 then k_Mod_way_87 x1 x2 S else if inb x4 50 = true then if ((S.1 67 (x4.toNatClampNeg)) - 48) = x3 then k_Mod_way_72 x1 x4 ((S.1 67 (x4.toNatClampNeg)) - 48) S else bI (f_Mod_laneOf x3 ((S.1 67 (x4.toNatClampNeg)) - 48) S) (fun r10 S9 => if r10 = (-1) then k_Mod_way_77 x1 x4 ((S.1 67 (x4.toNatClampNeg)) - 48) 0 S9 else k_Mod_way_72 x1 x4 ((S.1 67 (x4.toNatClampNeg)) - 48) S9) else none := by
  show cI (mV oS X0 128 30 [some (.ref 55), some (.int x1), some (.int x2), some (.int x3), some (.int x4), none] [] S) = _
  refine V_iload (c := cI) i128_30.1 (mM_s i128_30.2 rfl) rfl ?_
  refine V_aload_n (c := cI) i128_32.1 (mM_n i128_32.2) rfl rfl ?_
  refine V_gf (c := cI) i128_33.1 (mM_n i128_33.2) (v := .int (S.1 55 18)) g128_98 rfl ?_
  refine V_icmp_ge (c := cI) i128_36.1 (mM_n i128_36.2) rfl (fun _ => ?_) (fun _ => ?_)
  · exact V_msk (l1 := [some (.ref 55), some (.int x1), some (.int x2), none, none, none]) i128_87.2 rfl rfl
  · refine V_iload_n (c := cI) i128_39.1 (mM_n i128_39.2) rfl ?_
    refine V_if_eq (c := cI) i128_40.1 (mM_n i128_40.2) rfl (fun _ => ?_) (fun _ => ?_)
    · exact V_msk (l1 := [some (.ref 55), some (.int x1), some (.int x2), none, none, none]) i128_87.2 rfl rfl
    · refine V_aload_n (c := cI) i128_43.1 (mM_n i128_43.2) rfl rfl ?_
      refine V_gf (c := cI) i128_44.1 (mM_n i128_44.2) (v := .ref 67) g128_44 rfl ?_
      refine V_iload (c := cI) i128_47.1 (mM_n i128_47.2) rfl ?_
      refine V_baload (c := cI) i128_49.1 (mM_n i128_49.2) rfl rfl rfl (fun _ => ?_)
      refine V_bipush (c := cI) i128_50.1 (mM_n i128_50.2) (v := 48) rfl ?_
      refine V_isub (c := cI) i128_52.1 (mM_n i128_52.2)  ?_
      refine V_istore (c := cI) i128_53.1 (mM_n i128_53.2) (l1 := [some (.ref 55), some (.int x1), some (.int x2), some (.int x3), some (.int x4), some (.int ((S.1 67 (x4.toNatClampNeg)) - 48))])  (Nat.le_of_ble_eq_true rfl) rfl ?_
      refine V_iload (c := cI) i128_55.1 (mM_n i128_55.2) rfl ?_
      refine V_iload_n (c := cI) i128_57.1 (mM_n i128_57.2) rfl ?_
      refine V_icmp_eq (c := cI) i128_58.1 (mM_n i128_58.2) rfl (fun _ => ?_) (fun _ => ?_)
      · exact V_msk (l1 := [some (.ref 55), some (.int x1), none, none, some (.int x4), some (.int ((S.1 67 (x4.toNatClampNeg)) - 48))]) i128_72.2 rfl rfl
      · refine V_aload_n (c := cI) i128_61.1 (mM_n i128_61.2) rfl rfl ?_
        refine V_iload_n (c := cI) i128_62.1 (mM_n i128_62.2) rfl ?_
        refine V_iload (c := cI) i128_63.1 (mM_n i128_63.2) rfl ?_
        refine V_cvI (c := cI) (As := [.int x3, .int ((S.1 67 (x4.toNatClampNeg)) - 48)]) (rest := []) i128_65.1 (mM_n i128_65.2) c128_174 rfl rfl rfl rfl (Nat.le_of_ble_eq_true rfl) rfl (fun r10 S9 => ?_)
        refine V_iconst (c := cI) i128_68.1 (mM_n i128_68.2) (v := (-1)) rfl ?_
        refine V_icmp_eq (c := cI) i128_69.1 (mM_n i128_69.2) rfl (fun _ => ?_) (fun _ => ?_)
        · refine V_iconst (c := cI) i128_76.1 (mM_n i128_76.2) (v := 0) rfl ?_
          exact V_msk (l1 := [some (.ref 55), some (.int x1), none, none, some (.int x4), some (.int ((S.1 67 (x4.toNatClampNeg)) - 48))]) i128_77.2 rfl rfl
        · exact V_msk (l1 := [some (.ref 55), some (.int x1), none, none, some (.int x4), some (.int ((S.1 67 (x4.toNatClampNeg)) - 48))]) i128_72.2 rfl rfl
theorem k_Mod_way_72_eq {x1 : Int32} {x4 : Int32} {x5 : Int32}  {S : Mem} : k_Mod_way_72 x1 x4 x5 S = k_Mod_way_77 x1 x4 x5 1 S := by
  show cI (mV oS X0 128 72 [some (.ref 55), some (.int x1), none, none, some (.int x4), some (.int x5)] [] S) = _
  refine V_iconst (c := cI) i128_72.1 (mM_s i128_72.2 rfl) (v := 1) rfl ?_
  refine V_goto (c := cI) i128_73.1 (mM_n i128_73.2) rfl ?_
  exact V_msk (l1 := [some (.ref 55), some (.int x1), none, none, some (.int x4), some (.int x5)]) i128_77.2 rfl rfl
theorem k_Mod_way_77_eq {x1 : Int32} {x4 : Int32} {x5 : Int32} {xs0 : Int32}  {S : Mem} : k_Mod_way_77 x1 x4 x5 xs0 S = k_Mod_way_30 x1 xs0 x5 (x4 + 1) S := by
  show cI (mV oS X0 128 77 [some (.ref 55), some (.int x1), none, none, some (.int x4), some (.int x5)] [.int xs0] S) = _
  refine V_istore_n (c := cI) i128_77.1 (mM_s i128_77.2 rfl) (l1 := [some (.ref 55), some (.int x1), some (.int xs0), none, some (.int x4), some (.int x5)])  (Nat.le_of_ble_eq_true rfl) rfl ?_
  refine V_iload (c := cI) i128_78.1 (mM_n i128_78.2) rfl ?_
  refine V_istore_n (c := cI) i128_80.1 (mM_n i128_80.2) (l1 := [some (.ref 55), some (.int x1), some (.int xs0), some (.int x5), some (.int x4), some (.int x5)])  (Nat.le_of_ble_eq_true rfl) rfl ?_
  refine V_iinc (c := cI) i128_81.1 (mM_n i128_81.2) (l1 := [some (.ref 55), some (.int x1), some (.int xs0), some (.int x5), some (.int (x4 + 1)), some (.int x5)]) rfl rfl rfl ?_
  refine V_goto (c := cI) i128_84.1 (mM_n i128_84.2) rfl ?_
  exact V_msk (l1 := [some (.ref 55), some (.int x1), some (.int xs0), some (.int x5), some (.int (x4 + 1)), none]) i128_30.2 rfl rfl
theorem k_Mod_way_87_eq {x1 : Int32} {x2 : Int32}  {S : Mem} : k_Mod_way_87 x1 x2 S = if x2 = 0 then some ((-103), S) else k_Mod_way_97 x1 0 S := by
  show cI (mV oS X0 128 87 [some (.ref 55), some (.int x1), some (.int x2), none, none, none] [] S) = _
  refine V_iload_n (c := cI) i128_87.1 (mM_s i128_87.2 rfl) rfl ?_
  refine V_if_ne (c := cI) i128_88.1 (mM_n i128_88.2) rfl (fun _ => ?_) (fun _ => ?_)
  · refine V_bipush (c := cI) i128_91.1 (mM_n i128_91.2) (v := (-103)) rfl ?_
    exact V_iret i128_93.1 (mM_n i128_93.2) rfl
  · refine V_iconst (c := cI) i128_94.1 (mM_n i128_94.2) (v := 0) rfl ?_
    refine V_istore (c := cI) i128_95.1 (mM_n i128_95.2) (l1 := [some (.ref 55), some (.int x1), some (.int x2), none, some (.int 0), none])  (Nat.le_of_ble_eq_true rfl) rfl ?_
    exact V_msk (l1 := [some (.ref 55), some (.int x1), none, none, some (.int 0), none]) i128_97.2 rfl rfl
theorem k_Mod_way_97_eq {x1 : Int32} {x4 : Int32}  {S : Mem} : k_Mod_way_97 x1 x4 S = if (S.1 55 18) ≤ x4 then if inb x1 5 = true then if inb x1 5 = true then if inb x1 5 = true then some (((u1 S 64 x1.toNatClampNeg (S.1 55 18)).1 64 (x1.toNatClampNeg)), u1 (u1 (u1 S 64 x1.toNatClampNeg (S.1 55 18)) 65 x1.toNatClampNeg 0) 55 18 0) else none else none else none else if inb x4 50 = true then if inb (((20 : Int32) * x1) + x4) 100 = true then k_Mod_way_97 x1 (x4 + 1) (u1 S 63 ((((20 : Int32) * x1) + x4).toNatClampNeg) ((S.1 67 (x4.toNatClampNeg)) - 48)) else none else none := by
  show cI (mV oS X0 128 97 [some (.ref 55), some (.int x1), none, none, some (.int x4), none] [] S) = _
  refine V_iload (c := cI) i128_97.1 (mM_s i128_97.2 rfl) rfl ?_
  refine V_aload_n (c := cI) i128_99.1 (mM_n i128_99.2) rfl rfl ?_
  refine V_gf (c := cI) i128_100.1 (mM_n i128_100.2) (v := .int (S.1 55 18)) g128_98 rfl ?_
  refine V_icmp_ge (c := cI) i128_103.1 (mM_n i128_103.2) rfl (fun _ => ?_) (fun _ => ?_)
  · refine V_aload_n (c := cI) i128_134.1 (mM_n i128_134.2) rfl rfl ?_
    refine V_gf (c := cI) i128_135.1 (mM_n i128_135.2) (v := .ref 64) g128_35 rfl ?_
    refine V_iload_n (c := cI) i128_138.1 (mM_n i128_138.2) rfl ?_
    refine V_aload_n (c := cI) i128_139.1 (mM_n i128_139.2) rfl rfl ?_
    refine V_gf (c := cI) i128_140.1 (mM_n i128_140.2) (v := .int (S.1 55 18)) g128_98 rfl ?_
    refine V_iastore (c := cI) (x1 := (S.1 55 18)) i128_143.1 (mM_n i128_143.2) rfl rfl rfl rfl (fun _ => ?_)
    refine V_aload_n (c := cI) i128_144.1 (mM_n i128_144.2) rfl rfl ?_
    refine V_gf (c := cI) i128_145.1 (mM_n i128_145.2) (v := .ref 65) g128_38 rfl ?_
    refine V_iload_n (c := cI) i128_148.1 (mM_n i128_148.2) rfl ?_
    refine V_iconst (c := cI) i128_149.1 (mM_n i128_149.2) (v := 0) rfl ?_
    refine V_iastore (c := cI) (x1 := 0) i128_150.1 (mM_n i128_150.2) rfl rfl rfl rfl (fun _ => ?_)
    refine V_aload_n (c := cI) i128_151.1 (mM_n i128_151.2) rfl rfl ?_
    refine V_iconst (c := cI) i128_152.1 (mM_n i128_152.2) (v := 0) rfl ?_
    refine V_pf (c := cI) i128_153.1 (mM_n i128_153.2) p128_98 (pf_i rfl rfl rfl) ?_
    refine V_aload_n (c := cI) i128_156.1 (mM_n i128_156.2) rfl rfl ?_
    refine V_gf (c := cI) i128_157.1 (mM_n i128_157.2) (v := .ref 64) g128_35 rfl ?_
    refine V_iload_n (c := cI) i128_160.1 (mM_n i128_160.2) rfl ?_
    refine V_iaload (c := cI) i128_161.1 (mM_n i128_161.2) rfl rfl (fun _ => ?_)
    exact V_iret i128_162.1 (mM_n i128_162.2) rfl
  · refine V_aload_n (c := cI) i128_106.1 (mM_n i128_106.2) rfl rfl ?_
    refine V_gf (c := cI) i128_107.1 (mM_n i128_107.2) (v := .ref 63) g128_32 rfl ?_
    refine V_bipush (c := cI) i128_110.1 (mM_n i128_110.2) (v := 20) rfl ?_
    refine V_iload_n (c := cI) i128_112.1 (mM_n i128_112.2) rfl ?_
    refine V_imul (c := cI) i128_113.1 (mM_n i128_113.2)  ?_
    refine V_iload (c := cI) i128_114.1 (mM_n i128_114.2) rfl ?_
    refine V_iadd (c := cI) i128_116.1 (mM_n i128_116.2)  ?_
    refine V_aload_n (c := cI) i128_117.1 (mM_n i128_117.2) rfl rfl ?_
    refine V_gf (c := cI) i128_118.1 (mM_n i128_118.2) (v := .ref 67) g128_44 rfl ?_
    refine V_iload (c := cI) i128_121.1 (mM_n i128_121.2) rfl ?_
    refine V_baload (c := cI) i128_123.1 (mM_n i128_123.2) rfl rfl rfl (fun _ => ?_)
    refine V_bipush (c := cI) i128_124.1 (mM_n i128_124.2) (v := 48) rfl ?_
    refine V_isub (c := cI) i128_126.1 (mM_n i128_126.2)  ?_
    refine V_iastore (c := cI) (x1 := ((S.1 67 (x4.toNatClampNeg)) - 48)) i128_127.1 (mM_n i128_127.2) rfl rfl rfl rfl (fun _ => ?_)
    refine V_iinc (c := cI) i128_128.1 (mM_n i128_128.2) (l1 := [some (.ref 55), some (.int x1), none, none, some (.int (x4 + 1)), none]) rfl rfl rfl ?_
    refine V_goto (c := cI) i128_131.1 (mM_n i128_131.2) rfl ?_
    exact V_msk (l1 := [some (.ref 55), some (.int x1), none, none, some (.int (x4 + 1)), none]) i128_97.2 rfl rfl
theorem f_Mod_load_eq {x1 : Int32} {x2 : Int32}  {S : Mem} : f_Mod_load x1 x2 S = bI (f_Mod_isWalker x1 S) (fun r6 S5 => if r6 = 0 then some ((-101), S5) else bI (f_Mod_within x2 0 20 S5) (fun r8 S7 => if r8 = 0 then some ((-102), S7) else if inb x1 5 = true then if inb x1 5 = true then some ((S7.1 62 (x1.toNatClampNeg)), u1 S7 62 x1.toNatClampNeg x2) else none else none)) := by
  show cI (mV oS X0 129 0 [some (.ref 55), some (.int x1), some (.int x2), none] [] S) = _
  refine V_aload_n (c := cI) i129_0.1 (mM_n i129_0.2) rfl rfl ?_
  refine V_iload_n (c := cI) i129_1.1 (mM_n i129_1.2) rfl ?_
  refine V_cvI (c := cI) (As := [.int x1]) (rest := []) i129_2.1 (mM_n i129_2.2) c129_168 rfl rfl rfl rfl (Nat.le_of_ble_eq_true rfl) rfl (fun r6 S5 => ?_)
  refine V_if_ne (c := cI) i129_5.1 (mM_n i129_5.2) rfl (fun _ => ?_) (fun _ => ?_)
  · refine V_bipush (c := cI) i129_8.1 (mM_n i129_8.2) (v := (-101)) rfl ?_
    exact V_iret i129_10.1 (mM_n i129_10.2) rfl
  · refine V_iload_n (c := cI) i129_11.1 (mM_n i129_11.2) rfl ?_
    refine V_iconst (c := cI) i129_12.1 (mM_n i129_12.2) (v := 0) rfl ?_
    refine V_bipush (c := cI) i129_13.1 (mM_n i129_13.2) (v := 20) rfl ?_
    refine V_ciI (c := cI) (As := [.int x2, .int 0, .int 20]) (rest := []) i129_15.1 (mM_n i129_15.2) c129_105 rfl rfl rfl (Nat.le_of_ble_eq_true rfl) rfl (fun r8 S7 => ?_)
    refine V_if_ne (c := cI) i129_18.1 (mM_n i129_18.2) rfl (fun _ => ?_) (fun _ => ?_)
    · refine V_bipush (c := cI) i129_21.1 (mM_n i129_21.2) (v := (-102)) rfl ?_
      exact V_iret i129_23.1 (mM_n i129_23.2) rfl
    · refine V_aload_n (c := cI) i129_24.1 (mM_n i129_24.2) rfl rfl ?_
      refine V_gf (c := cI) i129_25.1 (mM_n i129_25.2) (v := .ref 62) g129_29 rfl ?_
      refine V_iload_n (c := cI) i129_28.1 (mM_n i129_28.2) rfl ?_
      refine V_iaload (c := cI) i129_29.1 (mM_n i129_29.2) rfl rfl (fun _ => ?_)
      refine V_istore_n (c := cI) i129_30.1 (mM_n i129_30.2) (l1 := [some (.ref 55), some (.int x1), some (.int x2), some (.int (S7.1 62 (x1.toNatClampNeg)))])  (Nat.le_of_ble_eq_true rfl) rfl ?_
      refine V_aload_n (c := cI) i129_31.1 (mM_n i129_31.2) rfl rfl ?_
      refine V_gf (c := cI) i129_32.1 (mM_n i129_32.2) (v := .ref 62) g129_29 rfl ?_
      refine V_iload_n (c := cI) i129_35.1 (mM_n i129_35.2) rfl ?_
      refine V_iload_n (c := cI) i129_36.1 (mM_n i129_36.2) rfl ?_
      refine V_iastore (c := cI) (x1 := x2) i129_37.1 (mM_n i129_37.2) rfl rfl rfl rfl (fun _ => ?_)
      refine V_iload_n (c := cI) i129_38.1 (mM_n i129_38.2) rfl ?_
      exact V_iret i129_39.1 (mM_n i129_39.2) rfl
theorem f_Mod_mayPass_eq {x1 : Int32} {x2 : Int32}  {S : Mem} : f_Mod_mayPass x1 x2 S = bI (f_Mod_carries x1 S) (fun r6 S5 => bI (f_Mod_carries x2 S5) (fun r8 S7 => if (S7.1 55 4) = 0 then k_Mod_mayPass_40 x1 x2 r6 r8 S7 else if r6 = ((2 : Int32) * r8) then k_Mod_mayPass_36 x1 x2 r6 r8 S7 else if r8 = ((2 : Int32) * r6) then k_Mod_mayPass_36 x1 x2 r6 r8 S7 else k_Mod_mayPass_40 x1 x2 r6 r8 S7)) := by
  show cI (mV oS X0 130 0 [some (.ref 55), some (.int x1), some (.int x2), none, none, none, none, none] [] S) = _
  refine V_aload_n (c := cI) i130_0.1 (mM_n i130_0.2) rfl rfl ?_
  refine V_iload_n (c := cI) i130_1.1 (mM_n i130_1.2) rfl ?_
  refine V_cvI (c := cI) (As := [.int x1]) (rest := []) i130_2.1 (mM_n i130_2.2) c130_161 rfl rfl rfl rfl (Nat.le_of_ble_eq_true rfl) rfl (fun r6 S5 => ?_)
  refine V_istore_n (c := cI) i130_5.1 (mM_n i130_5.2) (l1 := [some (.ref 55), some (.int x1), some (.int x2), some (.int r6), none, none, none, none])  (Nat.le_of_ble_eq_true rfl) rfl ?_
  refine V_aload_n (c := cI) i130_6.1 (mM_n i130_6.2) rfl rfl ?_
  refine V_iload_n (c := cI) i130_7.1 (mM_n i130_7.2) rfl ?_
  refine V_cvI (c := cI) (As := [.int x2]) (rest := []) i130_8.1 (mM_n i130_8.2) c130_161 rfl rfl rfl rfl (Nat.le_of_ble_eq_true rfl) rfl (fun r8 S7 => ?_)
  refine V_istore (c := cI) i130_11.1 (mM_n i130_11.2) (l1 := [some (.ref 55), some (.int x1), some (.int x2), some (.int r6), some (.int r8), none, none, none])  (Nat.le_of_ble_eq_true rfl) rfl ?_
  refine V_aload_n (c := cI) i130_13.1 (mM_n i130_13.2) rfl rfl ?_
  refine V_gf (c := cI) i130_14.1 (mM_n i130_14.2) (v := .int (S7.1 55 4)) g130_143 rfl ?_
  refine V_if_eq (c := cI) i130_17.1 (mM_n i130_17.2) rfl (fun _ => ?_) (fun _ => ?_)
  · exact V_msk (l1 := [some (.ref 55), some (.int x1), some (.int x2), some (.int r6), some (.int r8), none, none, none]) i130_40.2 rfl rfl
  · refine V_iload_n (c := cI) i130_20.1 (mM_n i130_20.2) rfl ?_
    refine V_iconst (c := cI) i130_21.1 (mM_n i130_21.2) (v := 2) rfl ?_
    refine V_iload (c := cI) i130_22.1 (mM_n i130_22.2) rfl ?_
    refine V_imul (c := cI) i130_24.1 (mM_n i130_24.2)  ?_
    refine V_icmp_eq (c := cI) i130_25.1 (mM_n i130_25.2) rfl (fun _ => ?_) (fun _ => ?_)
    · exact V_msk (l1 := [some (.ref 55), some (.int x1), some (.int x2), some (.int r6), some (.int r8), none, none, none]) i130_36.2 rfl rfl
    · refine V_iload (c := cI) i130_28.1 (mM_n i130_28.2) rfl ?_
      refine V_iconst (c := cI) i130_30.1 (mM_n i130_30.2) (v := 2) rfl ?_
      refine V_iload_n (c := cI) i130_31.1 (mM_n i130_31.2) rfl ?_
      refine V_imul (c := cI) i130_32.1 (mM_n i130_32.2)  ?_
      refine V_icmp_ne (c := cI) i130_33.1 (mM_n i130_33.2) rfl (fun _ => ?_) (fun _ => ?_)
      · exact V_msk (l1 := [some (.ref 55), some (.int x1), some (.int x2), some (.int r6), some (.int r8), none, none, none]) i130_36.2 rfl rfl
      · exact V_msk (l1 := [some (.ref 55), some (.int x1), some (.int x2), some (.int r6), some (.int r8), none, none, none]) i130_40.2 rfl rfl
theorem k_Mod_mayPass_36_eq {x1 : Int32} {x2 : Int32} {x3 : Int32} {x4 : Int32}  {S : Mem} : k_Mod_mayPass_36 x1 x2 x3 x4 S = k_Mod_mayPass_41 x1 x2 x3 x4 1 S := by
  show cI (mV oS X0 130 36 [some (.ref 55), some (.int x1), some (.int x2), some (.int x3), some (.int x4), none, none, none] [] S) = _
  refine V_iconst (c := cI) i130_36.1 (mM_s i130_36.2 rfl) (v := 1) rfl ?_
  refine V_goto (c := cI) i130_37.1 (mM_n i130_37.2) rfl ?_
  exact V_msk (l1 := [some (.ref 55), some (.int x1), some (.int x2), some (.int x3), some (.int x4), none, none, none]) i130_41.2 rfl rfl
theorem k_Mod_mayPass_40_eq {x1 : Int32} {x2 : Int32} {x3 : Int32} {x4 : Int32}  {S : Mem} : k_Mod_mayPass_40 x1 x2 x3 x4 S = k_Mod_mayPass_41 x1 x2 x3 x4 0 S := by
  show cI (mV oS X0 130 40 [some (.ref 55), some (.int x1), some (.int x2), some (.int x3), some (.int x4), none, none, none] [] S) = _
  refine V_iconst (c := cI) i130_40.1 (mM_s i130_40.2 rfl) (v := 0) rfl ?_
  exact V_msk (l1 := [some (.ref 55), some (.int x1), some (.int x2), some (.int x3), some (.int x4), none, none, none]) i130_41.2 rfl rfl
theorem k_Mod_mayPass_41_eq {x1 : Int32} {x2 : Int32} {x3 : Int32} {x4 : Int32} {xs0 : Int32}  {S : Mem} : k_Mod_mayPass_41 x1 x2 x3 x4 xs0 S = if (S.1 55 5) = 0 then k_Mod_mayPass_63 x1 x2 x3 x4 xs0 S else if x3 = 0 then k_Mod_mayPass_59 x1 x2 x3 x4 xs0 S else if x4 = 0 then k_Mod_mayPass_59 x1 x2 x3 x4 xs0 S else k_Mod_mayPass_63 x1 x2 x3 x4 xs0 S := by
  show cI (mV oS X0 130 41 [some (.ref 55), some (.int x1), some (.int x2), some (.int x3), some (.int x4), none, none, none] [.int xs0] S) = _
  refine V_istore (c := cI) i130_41.1 (mM_s i130_41.2 rfl) (l1 := [some (.ref 55), some (.int x1), some (.int x2), some (.int x3), some (.int x4), some (.int xs0), none, none])  (Nat.le_of_ble_eq_true rfl) rfl ?_
  refine V_aload_n (c := cI) i130_43.1 (mM_n i130_43.2) rfl rfl ?_
  refine V_gf (c := cI) i130_44.1 (mM_n i130_44.2) (v := .int (S.1 55 5)) g130_146 rfl ?_
  refine V_if_eq (c := cI) i130_47.1 (mM_n i130_47.2) rfl (fun _ => ?_) (fun _ => ?_)
  · exact V_msk (l1 := [some (.ref 55), some (.int x1), some (.int x2), some (.int x3), some (.int x4), some (.int xs0), none, none]) i130_63.2 rfl rfl
  · refine V_iload_n (c := cI) i130_50.1 (mM_n i130_50.2) rfl ?_
    refine V_if_eq (c := cI) i130_51.1 (mM_n i130_51.2) rfl (fun _ => ?_) (fun _ => ?_)
    · exact V_msk (l1 := [some (.ref 55), some (.int x1), some (.int x2), some (.int x3), some (.int x4), some (.int xs0), none, none]) i130_59.2 rfl rfl
    · refine V_iload (c := cI) i130_54.1 (mM_n i130_54.2) rfl ?_
      refine V_if_ne (c := cI) i130_56.1 (mM_n i130_56.2) rfl (fun _ => ?_) (fun _ => ?_)
      · exact V_msk (l1 := [some (.ref 55), some (.int x1), some (.int x2), some (.int x3), some (.int x4), some (.int xs0), none, none]) i130_59.2 rfl rfl
      · exact V_msk (l1 := [some (.ref 55), some (.int x1), some (.int x2), some (.int x3), some (.int x4), some (.int xs0), none, none]) i130_63.2 rfl rfl
theorem k_Mod_mayPass_59_eq {x1 : Int32} {x2 : Int32} {x3 : Int32} {x4 : Int32} {x5 : Int32}  {S : Mem} : k_Mod_mayPass_59 x1 x2 x3 x4 x5 S = k_Mod_mayPass_64 x1 x2 x3 x4 x5 1 S := by
  show cI (mV oS X0 130 59 [some (.ref 55), some (.int x1), some (.int x2), some (.int x3), some (.int x4), some (.int x5), none, none] [] S) = _
  refine V_iconst (c := cI) i130_59.1 (mM_s i130_59.2 rfl) (v := 1) rfl ?_
  refine V_goto (c := cI) i130_60.1 (mM_n i130_60.2) rfl ?_
  exact V_msk (l1 := [some (.ref 55), some (.int x1), some (.int x2), some (.int x3), some (.int x4), some (.int x5), none, none]) i130_64.2 rfl rfl
theorem k_Mod_mayPass_63_eq {x1 : Int32} {x2 : Int32} {x3 : Int32} {x4 : Int32} {x5 : Int32}  {S : Mem} : k_Mod_mayPass_63 x1 x2 x3 x4 x5 S = k_Mod_mayPass_64 x1 x2 x3 x4 x5 0 S := by
  show cI (mV oS X0 130 63 [some (.ref 55), some (.int x1), some (.int x2), some (.int x3), some (.int x4), some (.int x5), none, none] [] S) = _
  refine V_iconst (c := cI) i130_63.1 (mM_s i130_63.2 rfl) (v := 0) rfl ?_
  exact V_msk (l1 := [some (.ref 55), some (.int x1), some (.int x2), some (.int x3), some (.int x4), some (.int x5), none, none]) i130_64.2 rfl rfl
theorem k_Mod_mayPass_64_eq {x1 : Int32} {x2 : Int32} {x3 : Int32} {x4 : Int32} {x5 : Int32} {xs0 : Int32}  {S : Mem} : k_Mod_mayPass_64 x1 x2 x3 x4 x5 xs0 S = if inb x1 5 = true then if (S.1 59 (x1.toNatClampNeg)) = 3 then if x4 = 0 then k_Mod_mayPass_95 x3 x4 x5 xs0 S else k_Mod_mayPass_81 x2 x3 x4 x5 xs0 S else k_Mod_mayPass_81 x2 x3 x4 x5 xs0 S else none := by
  show cI (mV oS X0 130 64 [some (.ref 55), some (.int x1), some (.int x2), some (.int x3), some (.int x4), some (.int x5), none, none] [.int xs0] S) = _
  refine V_istore (c := cI) i130_64.1 (mM_s i130_64.2 rfl) (l1 := [some (.ref 55), some (.int x1), some (.int x2), some (.int x3), some (.int x4), some (.int x5), some (.int xs0), none])  (Nat.le_of_ble_eq_true rfl) rfl ?_
  refine V_aload_n (c := cI) i130_66.1 (mM_n i130_66.2) rfl rfl ?_
  refine V_gf (c := cI) i130_67.1 (mM_n i130_67.2) (v := .ref 59) g130_20 rfl ?_
  refine V_iload_n (c := cI) i130_70.1 (mM_n i130_70.2) rfl ?_
  refine V_iaload (c := cI) i130_71.1 (mM_n i130_71.2) rfl rfl (fun _ => ?_)
  refine V_iconst (c := cI) i130_72.1 (mM_n i130_72.2) (v := 3) rfl ?_
  refine V_icmp_ne (c := cI) i130_73.1 (mM_n i130_73.2) rfl (fun _ => ?_) (fun _ => ?_)
  · refine V_iload (c := cI) i130_76.1 (mM_n i130_76.2) rfl ?_
    refine V_if_eq (c := cI) i130_78.1 (mM_n i130_78.2) rfl (fun _ => ?_) (fun _ => ?_)
    · exact V_msk (l1 := [none, none, none, some (.int x3), some (.int x4), some (.int x5), some (.int xs0), none]) i130_95.2 rfl rfl
    · exact V_msk (l1 := [some (.ref 55), none, some (.int x2), some (.int x3), some (.int x4), some (.int x5), some (.int xs0), none]) i130_81.2 rfl rfl
  · exact V_msk (l1 := [some (.ref 55), none, some (.int x2), some (.int x3), some (.int x4), some (.int x5), some (.int xs0), none]) i130_81.2 rfl rfl
theorem k_Mod_mayPass_81_eq {x2 : Int32} {x3 : Int32} {x4 : Int32} {x5 : Int32} {x6 : Int32}  {S : Mem} : k_Mod_mayPass_81 x2 x3 x4 x5 x6 S = if inb x2 5 = true then if (S.1 59 (x2.toNatClampNeg)) = 3 then if x3 = 0 then k_Mod_mayPass_95 x3 x4 x5 x6 S else k_Mod_mayPass_99 x3 x4 x5 x6 S else k_Mod_mayPass_99 x3 x4 x5 x6 S else none := by
  show cI (mV oS X0 130 81 [some (.ref 55), none, some (.int x2), some (.int x3), some (.int x4), some (.int x5), some (.int x6), none] [] S) = _
  refine V_aload_n (c := cI) i130_81.1 (mM_s i130_81.2 rfl) rfl rfl ?_
  refine V_gf (c := cI) i130_82.1 (mM_n i130_82.2) (v := .ref 59) g130_20 rfl ?_
  refine V_iload_n (c := cI) i130_85.1 (mM_n i130_85.2) rfl ?_
  refine V_iaload (c := cI) i130_86.1 (mM_n i130_86.2) rfl rfl (fun _ => ?_)
  refine V_iconst (c := cI) i130_87.1 (mM_n i130_87.2) (v := 3) rfl ?_
  refine V_icmp_ne (c := cI) i130_88.1 (mM_n i130_88.2) rfl (fun _ => ?_) (fun _ => ?_)
  · refine V_iload_n (c := cI) i130_91.1 (mM_n i130_91.2) rfl ?_
    refine V_if_ne (c := cI) i130_92.1 (mM_n i130_92.2) rfl (fun _ => ?_) (fun _ => ?_)
    · exact V_msk (l1 := [none, none, none, some (.int x3), some (.int x4), some (.int x5), some (.int x6), none]) i130_95.2 rfl rfl
    · exact V_msk (l1 := [none, none, none, some (.int x3), some (.int x4), some (.int x5), some (.int x6), none]) i130_99.2 rfl rfl
  · exact V_msk (l1 := [none, none, none, some (.int x3), some (.int x4), some (.int x5), some (.int x6), none]) i130_99.2 rfl rfl
theorem k_Mod_mayPass_95_eq {x3 : Int32} {x4 : Int32} {x5 : Int32} {x6 : Int32}  {S : Mem} : k_Mod_mayPass_95 x3 x4 x5 x6 S = k_Mod_mayPass_100 x3 x4 x5 x6 1 S := by
  show cI (mV oS X0 130 95 [none, none, none, some (.int x3), some (.int x4), some (.int x5), some (.int x6), none] [] S) = _
  refine V_iconst (c := cI) i130_95.1 (mM_s i130_95.2 rfl) (v := 1) rfl ?_
  refine V_goto (c := cI) i130_96.1 (mM_n i130_96.2) rfl ?_
  exact V_msk (l1 := [none, none, none, some (.int x3), some (.int x4), some (.int x5), some (.int x6), none]) i130_100.2 rfl rfl
theorem k_Mod_mayPass_99_eq {x3 : Int32} {x4 : Int32} {x5 : Int32} {x6 : Int32}  {S : Mem} : k_Mod_mayPass_99 x3 x4 x5 x6 S = k_Mod_mayPass_100 x3 x4 x5 x6 0 S := by
  show cI (mV oS X0 130 99 [none, none, none, some (.int x3), some (.int x4), some (.int x5), some (.int x6), none] [] S) = _
  refine V_iconst (c := cI) i130_99.1 (mM_s i130_99.2 rfl) (v := 0) rfl ?_
  exact V_msk (l1 := [none, none, none, some (.int x3), some (.int x4), some (.int x5), some (.int x6), none]) i130_100.2 rfl rfl
theorem k_Mod_mayPass_100_eq {x3 : Int32} {x4 : Int32} {x5 : Int32} {x6 : Int32} {xs0 : Int32}  {S : Mem} : k_Mod_mayPass_100 x3 x4 x5 x6 xs0 S = if x3 = x4 then k_Mod_mayPass_123 S else if x5 = 0 then if x6 = 0 then if xs0 = 0 then k_Mod_mayPass_128 0 S else k_Mod_mayPass_123 S else k_Mod_mayPass_123 S else k_Mod_mayPass_123 S := by
  show cI (mV oS X0 130 100 [none, none, none, some (.int x3), some (.int x4), some (.int x5), some (.int x6), none] [.int xs0] S) = _
  refine V_istore (c := cI) i130_100.1 (mM_s i130_100.2 rfl) (l1 := [none, none, none, some (.int x3), some (.int x4), some (.int x5), some (.int x6), some (.int xs0)])  (Nat.le_of_ble_eq_true rfl) rfl ?_
  refine V_iload_n (c := cI) i130_102.1 (mM_n i130_102.2) rfl ?_
  refine V_iload (c := cI) i130_103.1 (mM_n i130_103.2) rfl ?_
  refine V_icmp_eq (c := cI) i130_105.1 (mM_n i130_105.2) rfl (fun _ => ?_) (fun _ => ?_)
  · exact V_msk (l1 := [none, none, none, none, none, none, none, none]) i130_123.2 rfl rfl
  · refine V_iload (c := cI) i130_108.1 (mM_n i130_108.2) rfl ?_
    refine V_if_ne (c := cI) i130_110.1 (mM_n i130_110.2) rfl (fun _ => ?_) (fun _ => ?_)
    · refine V_iload (c := cI) i130_113.1 (mM_n i130_113.2) rfl ?_
      refine V_if_ne (c := cI) i130_115.1 (mM_n i130_115.2) rfl (fun _ => ?_) (fun _ => ?_)
      · refine V_iload (c := cI) i130_118.1 (mM_n i130_118.2) rfl ?_
        refine V_if_eq (c := cI) i130_120.1 (mM_n i130_120.2) rfl (fun _ => ?_) (fun _ => ?_)
        · refine V_iconst (c := cI) i130_127.1 (mM_n i130_127.2) (v := 0) rfl ?_
          exact V_msk (l1 := [none, none, none, none, none, none, none, none]) i130_128.2 rfl rfl
        · exact V_msk (l1 := [none, none, none, none, none, none, none, none]) i130_123.2 rfl rfl
      · exact V_msk (l1 := [none, none, none, none, none, none, none, none]) i130_123.2 rfl rfl
    · exact V_msk (l1 := [none, none, none, none, none, none, none, none]) i130_123.2 rfl rfl
theorem k_Mod_mayPass_123_eq   {S : Mem} : k_Mod_mayPass_123  S = k_Mod_mayPass_128 1 S := by
  show cI (mV oS X0 130 123 [none, none, none, none, none, none, none, none] [] S) = _
  refine V_iconst (c := cI) i130_123.1 (mM_s i130_123.2 rfl) (v := 1) rfl ?_
  refine V_goto (c := cI) i130_124.1 (mM_n i130_124.2) rfl ?_
  exact V_msk (l1 := [none, none, none, none, none, none, none, none]) i130_128.2 rfl rfl
theorem k_Mod_mayPass_128_eq {xs0 : Int32}  {S : Mem} : k_Mod_mayPass_128 xs0 S = if zb xs0 = true then some (xs0, S) else none := by
  show cI (mV oS X0 130 128 [none, none, none, none, none, none, none, none] [.int xs0] S) = _
  exact V_iretZ i130_128.1 (mM_s i130_128.2 rfl) rfl
theorem f_Mod_pass_eq {x1 : Int32} {x2 : Int32}  {S : Mem} : f_Mod_pass x1 x2 S = bI (f_Mod_isWalker x1 S) (fun r8 S7 => if r8 = 0 then k_Mod_pass_21 S7 else bI (f_Mod_isWalker x2 S7) (fun r10 S9 => if r10 = 0 then k_Mod_pass_21 S9 else if x1 = x2 then k_Mod_pass_21 S9 else bI (f_Mod_mayPass x1 x2 S9) (fun r12 S11 => if r12 = 0 then k_Mod_pass_38 0 S11 else k_Mod_pass_38 1 S11))) := by
  show cI (mV oS X0 131 0 [some (.ref 55), some (.int x1), some (.int x2)] [] S) = _
  refine V_aload_n (c := cI) i131_0.1 (mM_n i131_0.2) rfl rfl ?_
  refine V_iload_n (c := cI) i131_1.1 (mM_n i131_1.2) rfl ?_
  refine V_cvI (c := cI) (As := [.int x1]) (rest := []) i131_2.1 (mM_n i131_2.2) c131_168 rfl rfl rfl rfl (Nat.le_of_ble_eq_true rfl) rfl (fun r8 S7 => ?_)
  refine V_if_eq (c := cI) i131_5.1 (mM_n i131_5.2) rfl (fun _ => ?_) (fun _ => ?_)
  · exact V_msk (l1 := [none, none, none]) i131_21.2 rfl rfl
  · refine V_aload_n (c := cI) i131_8.1 (mM_n i131_8.2) rfl rfl ?_
    refine V_iload_n (c := cI) i131_9.1 (mM_n i131_9.2) rfl ?_
    refine V_cvI (c := cI) (As := [.int x2]) (rest := []) i131_10.1 (mM_n i131_10.2) c131_168 rfl rfl rfl rfl (Nat.le_of_ble_eq_true rfl) rfl (fun r10 S9 => ?_)
    refine V_if_eq (c := cI) i131_13.1 (mM_n i131_13.2) rfl (fun _ => ?_) (fun _ => ?_)
    · exact V_msk (l1 := [none, none, none]) i131_21.2 rfl rfl
    · refine V_iload_n (c := cI) i131_16.1 (mM_n i131_16.2) rfl ?_
      refine V_iload_n (c := cI) i131_17.1 (mM_n i131_17.2) rfl ?_
      refine V_icmp_ne (c := cI) i131_18.1 (mM_n i131_18.2) rfl (fun _ => ?_) (fun _ => ?_)
      · exact V_msk (l1 := [none, none, none]) i131_21.2 rfl rfl
      · refine V_aload_n (c := cI) i131_24.1 (mM_n i131_24.2) rfl rfl ?_
        refine V_iload_n (c := cI) i131_25.1 (mM_n i131_25.2) rfl ?_
        refine V_iload_n (c := cI) i131_26.1 (mM_n i131_26.2) rfl ?_
        refine V_cvI (c := cI) (As := [.int x1, .int x2]) (rest := []) i131_27.1 (mM_n i131_27.2) c131_177 rfl rfl rfl rfl (Nat.le_of_ble_eq_true rfl) rfl (fun r12 S11 => ?_)
        refine V_if_eq (c := cI) i131_30.1 (mM_n i131_30.2) rfl (fun _ => ?_) (fun _ => ?_)
        · refine V_iconst (c := cI) i131_37.1 (mM_n i131_37.2) (v := 0) rfl ?_
          exact V_msk (l1 := [none, none, none]) i131_38.2 rfl rfl
        · refine V_iconst (c := cI) i131_33.1 (mM_n i131_33.2) (v := 1) rfl ?_
          refine V_goto (c := cI) i131_34.1 (mM_n i131_34.2) rfl ?_
          exact V_msk (l1 := [none, none, none]) i131_38.2 rfl rfl
theorem k_Mod_pass_21_eq   {S : Mem} : k_Mod_pass_21  S = some ((-101), S) := by
  show cI (mV oS X0 131 21 [none, none, none] [] S) = _
  refine V_bipush (c := cI) i131_21.1 (mM_s i131_21.2 rfl) (v := (-101)) rfl ?_
  exact V_iret i131_23.1 (mM_n i131_23.2) rfl
theorem k_Mod_pass_38_eq {xs0 : Int32}  {S : Mem} : k_Mod_pass_38 xs0 S = some (xs0, S) := by
  show cI (mV oS X0 131 38 [none, none, none] [.int xs0] S) = _
  exact V_iret i131_38.1 (mM_s i131_38.2 rfl) rfl
theorem f_Mod_heap_eq {x1 : Int32} {x2 : Int32}  {S : Mem} : f_Mod_heap x1 x2 S = bI (f_Mod_isCorner x1 S) (fun r6 S5 => if r6 = 0 then some ((-101), S5) else bI (f_Mod_within x2 0 99 S5) (fun r8 S7 => if r8 = 0 then some ((-102), S7) else if (S7.1 55 6) = 0 then some ((-103), S7) else if inb x1 8 = true then if inb x1 8 = true then some ((S7.1 66 (x1.toNatClampNeg)), u1 S7 66 x1.toNatClampNeg x2) else none else none)) := by
  show cI (mV oS X0 132 0 [some (.ref 55), some (.int x1), some (.int x2), none] [] S) = _
  refine V_iload_n (c := cI) i132_0.1 (mM_n i132_0.2) rfl ?_
  refine V_ciI (c := cI) (As := [.int x1]) (rest := []) i132_1.1 (mM_n i132_1.2) c132_109 rfl rfl rfl (Nat.le_of_ble_eq_true rfl) rfl (fun r6 S5 => ?_)
  refine V_if_ne (c := cI) i132_4.1 (mM_n i132_4.2) rfl (fun _ => ?_) (fun _ => ?_)
  · refine V_bipush (c := cI) i132_7.1 (mM_n i132_7.2) (v := (-101)) rfl ?_
    exact V_iret i132_9.1 (mM_n i132_9.2) rfl
  · refine V_iload_n (c := cI) i132_10.1 (mM_n i132_10.2) rfl ?_
    refine V_iconst (c := cI) i132_11.1 (mM_n i132_11.2) (v := 0) rfl ?_
    refine V_bipush (c := cI) i132_12.1 (mM_n i132_12.2) (v := 99) rfl ?_
    refine V_ciI (c := cI) (As := [.int x2, .int 0, .int 99]) (rest := []) i132_14.1 (mM_n i132_14.2) c132_105 rfl rfl rfl (Nat.le_of_ble_eq_true rfl) rfl (fun r8 S7 => ?_)
    refine V_if_ne (c := cI) i132_17.1 (mM_n i132_17.2) rfl (fun _ => ?_) (fun _ => ?_)
    · refine V_bipush (c := cI) i132_20.1 (mM_n i132_20.2) (v := (-102)) rfl ?_
      exact V_iret i132_22.1 (mM_n i132_22.2) rfl
    · refine V_aload_n (c := cI) i132_23.1 (mM_n i132_23.2) rfl rfl ?_
      refine V_gf (c := cI) i132_24.1 (mM_n i132_24.2) (v := .int (S7.1 55 6)) g132_149 rfl ?_
      refine V_if_ne (c := cI) i132_27.1 (mM_n i132_27.2) rfl (fun _ => ?_) (fun _ => ?_)
      · refine V_bipush (c := cI) i132_30.1 (mM_n i132_30.2) (v := (-103)) rfl ?_
        exact V_iret i132_32.1 (mM_n i132_32.2) rfl
      · refine V_aload_n (c := cI) i132_33.1 (mM_n i132_33.2) rfl rfl ?_
        refine V_gf (c := cI) i132_34.1 (mM_n i132_34.2) (v := .ref 66) g132_41 rfl ?_
        refine V_iload_n (c := cI) i132_37.1 (mM_n i132_37.2) rfl ?_
        refine V_iaload (c := cI) i132_38.1 (mM_n i132_38.2) rfl rfl (fun _ => ?_)
        refine V_istore_n (c := cI) i132_39.1 (mM_n i132_39.2) (l1 := [some (.ref 55), some (.int x1), some (.int x2), some (.int (S7.1 66 (x1.toNatClampNeg)))])  (Nat.le_of_ble_eq_true rfl) rfl ?_
        refine V_aload_n (c := cI) i132_40.1 (mM_n i132_40.2) rfl rfl ?_
        refine V_gf (c := cI) i132_41.1 (mM_n i132_41.2) (v := .ref 66) g132_41 rfl ?_
        refine V_iload_n (c := cI) i132_44.1 (mM_n i132_44.2) rfl ?_
        refine V_iload_n (c := cI) i132_45.1 (mM_n i132_45.2) rfl ?_
        refine V_iastore (c := cI) (x1 := x2) i132_46.1 (mM_n i132_46.2) rfl rfl rfl rfl (fun _ => ?_)
        refine V_iload_n (c := cI) i132_47.1 (mM_n i132_47.2) rfl ?_
        exact V_iret i132_48.1 (mM_n i132_48.2) rfl
theorem f_Mod_take_eq {x1 : Int32} {x2 : Int32}  {S : Mem} : f_Mod_take x1 x2 S = bI (f_Mod_isWalker x1 S) (fun r10 S9 => if r10 = 0 then some ((-101), S9) else bI (f_Mod_within x2 (-20) 20 S9) (fun r12 S11 => if r12 = 0 then some ((-102), S11) else if inb x1 5 = true then if (S11.1 59 (x1.toNatClampNeg)) = 1 then k_Mod_take_45 x1 x2 S11 else if inb x1 5 = true then if (S11.1 59 (x1.toNatClampNeg)) = 3 then k_Mod_take_45 x1 x2 S11 else k_Mod_take_50 x1 x2 0 S11 else none else none)) := by
  show cI (mV oS X0 133 0 [some (.ref 55), some (.int x1), some (.int x2), none, none] [] S) = _
  refine V_aload_n (c := cI) i133_0.1 (mM_n i133_0.2) rfl rfl ?_
  refine V_iload_n (c := cI) i133_1.1 (mM_n i133_1.2) rfl ?_
  refine V_cvI (c := cI) (As := [.int x1]) (rest := []) i133_2.1 (mM_n i133_2.2) c133_168 rfl rfl rfl rfl (Nat.le_of_ble_eq_true rfl) rfl (fun r10 S9 => ?_)
  refine V_if_ne (c := cI) i133_5.1 (mM_n i133_5.2) rfl (fun _ => ?_) (fun _ => ?_)
  · refine V_bipush (c := cI) i133_8.1 (mM_n i133_8.2) (v := (-101)) rfl ?_
    exact V_iret i133_10.1 (mM_n i133_10.2) rfl
  · refine V_iload_n (c := cI) i133_11.1 (mM_n i133_11.2) rfl ?_
    refine V_bipush (c := cI) i133_12.1 (mM_n i133_12.2) (v := (-20)) rfl ?_
    refine V_bipush (c := cI) i133_14.1 (mM_n i133_14.2) (v := 20) rfl ?_
    refine V_ciI (c := cI) (As := [.int x2, .int (-20), .int 20]) (rest := []) i133_16.1 (mM_n i133_16.2) c133_105 rfl rfl rfl (Nat.le_of_ble_eq_true rfl) rfl (fun r12 S11 => ?_)
    refine V_if_ne (c := cI) i133_19.1 (mM_n i133_19.2) rfl (fun _ => ?_) (fun _ => ?_)
    · refine V_bipush (c := cI) i133_22.1 (mM_n i133_22.2) (v := (-102)) rfl ?_
      exact V_iret i133_24.1 (mM_n i133_24.2) rfl
    · refine V_aload_n (c := cI) i133_25.1 (mM_n i133_25.2) rfl rfl ?_
      refine V_gf (c := cI) i133_26.1 (mM_n i133_26.2) (v := .ref 59) g133_20 rfl ?_
      refine V_iload_n (c := cI) i133_29.1 (mM_n i133_29.2) rfl ?_
      refine V_iaload (c := cI) i133_30.1 (mM_n i133_30.2) rfl rfl (fun _ => ?_)
      refine V_iconst (c := cI) i133_31.1 (mM_n i133_31.2) (v := 1) rfl ?_
      refine V_icmp_eq (c := cI) i133_32.1 (mM_n i133_32.2) rfl (fun _ => ?_) (fun _ => ?_)
      · exact V_msk (l1 := [some (.ref 55), some (.int x1), some (.int x2), none, none]) i133_45.2 rfl rfl
      · refine V_aload_n (c := cI) i133_35.1 (mM_n i133_35.2) rfl rfl ?_
        refine V_gf (c := cI) i133_36.1 (mM_n i133_36.2) (v := .ref 59) g133_20 rfl ?_
        refine V_iload_n (c := cI) i133_39.1 (mM_n i133_39.2) rfl ?_
        refine V_iaload (c := cI) i133_40.1 (mM_n i133_40.2) rfl rfl (fun _ => ?_)
        refine V_iconst (c := cI) i133_41.1 (mM_n i133_41.2) (v := 3) rfl ?_
        refine V_icmp_ne (c := cI) i133_42.1 (mM_n i133_42.2) rfl (fun _ => ?_) (fun _ => ?_)
        · exact V_msk (l1 := [some (.ref 55), some (.int x1), some (.int x2), none, none]) i133_45.2 rfl rfl
        · refine V_iconst (c := cI) i133_49.1 (mM_n i133_49.2) (v := 0) rfl ?_
          exact V_msk (l1 := [some (.ref 55), some (.int x1), some (.int x2), none, none]) i133_50.2 rfl rfl
theorem k_Mod_take_45_eq {x1 : Int32} {x2 : Int32}  {S : Mem} : k_Mod_take_45 x1 x2 S = k_Mod_take_50 x1 x2 1 S := by
  show cI (mV oS X0 133 45 [some (.ref 55), some (.int x1), some (.int x2), none, none] [] S) = _
  refine V_iconst (c := cI) i133_45.1 (mM_s i133_45.2 rfl) (v := 1) rfl ?_
  refine V_goto (c := cI) i133_46.1 (mM_n i133_46.2) rfl ?_
  exact V_msk (l1 := [some (.ref 55), some (.int x1), some (.int x2), none, none]) i133_50.2 rfl rfl
theorem k_Mod_take_50_eq {x1 : Int32} {x2 : Int32} {xs0 : Int32}  {S : Mem} : k_Mod_take_50 x1 x2 xs0 S = if inb x1 5 = true then if inb (S.1 60 (x1.toNatClampNeg)) 8 = true then if xs0 = 0 then k_Mod_take_98 S else if inb x1 5 = true then bI (f_Mod_within ((S.1 62 (x1.toNatClampNeg)) + x2) 0 20 S) (fun r14 S13 => if r14 = 0 then k_Mod_take_98 S13 else bI (f_Mod_within ((S.1 66 ((S.1 60 (x1.toNatClampNeg)).toNatClampNeg)) - x2) 0 99 S13) (fun r16 S15 => if r16 = 0 then k_Mod_take_98 S15 else if inb x1 5 = true then if inb (S15.1 60 (x1.toNatClampNeg)) 8 = true then if inb x1 5 = true then if inb x1 5 = true then if inb x1 5 = true then some (((u1 (u1 S15 66 ((S15.1 60 (x1.toNatClampNeg)).toNatClampNeg) ((S.1 66 ((S.1 60 (x1.toNatClampNeg)).toNatClampNeg)) - x2)) 62 x1.toNatClampNeg ((S15.1 62 (x1.toNatClampNeg)) + x2)).1 62 (x1.toNatClampNeg)), u1 (u1 S15 66 ((S15.1 60 (x1.toNatClampNeg)).toNatClampNeg) ((S.1 66 ((S.1 60 (x1.toNatClampNeg)).toNatClampNeg)) - x2)) 62 x1.toNatClampNeg ((S15.1 62 (x1.toNatClampNeg)) + x2)) else none else none else none else none else none)) else none else none else none := by
  show cI (mV oS X0 133 50 [some (.ref 55), some (.int x1), some (.int x2), none, none] [.int xs0] S) = _
  refine V_istore_n (c := cI) i133_50.1 (mM_s i133_50.2 rfl) (l1 := [some (.ref 55), some (.int x1), some (.int x2), some (.int xs0), none])  (Nat.le_of_ble_eq_true rfl) rfl ?_
  refine V_aload_n (c := cI) i133_51.1 (mM_n i133_51.2) rfl rfl ?_
  refine V_gf (c := cI) i133_52.1 (mM_n i133_52.2) (v := .ref 66) g133_41 rfl ?_
  refine V_aload_n (c := cI) i133_55.1 (mM_n i133_55.2) rfl rfl ?_
  refine V_gf (c := cI) i133_56.1 (mM_n i133_56.2) (v := .ref 60) g133_23 rfl ?_
  refine V_iload_n (c := cI) i133_59.1 (mM_n i133_59.2) rfl ?_
  refine V_iaload (c := cI) i133_60.1 (mM_n i133_60.2) rfl rfl (fun _ => ?_)
  refine V_iaload (c := cI) i133_61.1 (mM_n i133_61.2) rfl rfl (fun _ => ?_)
  refine V_iload_n (c := cI) i133_62.1 (mM_n i133_62.2) rfl ?_
  refine V_isub (c := cI) i133_63.1 (mM_n i133_63.2)  ?_
  refine V_istore (c := cI) i133_64.1 (mM_n i133_64.2) (l1 := [some (.ref 55), some (.int x1), some (.int x2), some (.int xs0), some (.int ((S.1 66 ((S.1 60 (x1.toNatClampNeg)).toNatClampNeg)) - x2))])  (Nat.le_of_ble_eq_true rfl) rfl ?_
  refine V_iload_n (c := cI) i133_66.1 (mM_n i133_66.2) rfl ?_
  refine V_if_eq (c := cI) i133_67.1 (mM_n i133_67.2) rfl (fun _ => ?_) (fun _ => ?_)
  · exact V_msk (l1 := [none, none, none, none, none]) i133_98.2 rfl rfl
  · refine V_aload_n (c := cI) i133_70.1 (mM_n i133_70.2) rfl rfl ?_
    refine V_gf (c := cI) i133_71.1 (mM_n i133_71.2) (v := .ref 62) g133_29 rfl ?_
    refine V_iload_n (c := cI) i133_74.1 (mM_n i133_74.2) rfl ?_
    refine V_iaload (c := cI) i133_75.1 (mM_n i133_75.2) rfl rfl (fun _ => ?_)
    refine V_iload_n (c := cI) i133_76.1 (mM_n i133_76.2) rfl ?_
    refine V_iadd (c := cI) i133_77.1 (mM_n i133_77.2)  ?_
    refine V_iconst (c := cI) i133_78.1 (mM_n i133_78.2) (v := 0) rfl ?_
    refine V_bipush (c := cI) i133_79.1 (mM_n i133_79.2) (v := 20) rfl ?_
    refine V_ciI (c := cI) (As := [.int ((S.1 62 (x1.toNatClampNeg)) + x2), .int 0, .int 20]) (rest := []) i133_81.1 (mM_n i133_81.2) c133_105 rfl rfl rfl (Nat.le_of_ble_eq_true rfl) rfl (fun r14 S13 => ?_)
    refine V_if_eq (c := cI) i133_84.1 (mM_n i133_84.2) rfl (fun _ => ?_) (fun _ => ?_)
    · exact V_msk (l1 := [none, none, none, none, none]) i133_98.2 rfl rfl
    · refine V_iload (c := cI) i133_87.1 (mM_n i133_87.2) rfl ?_
      refine V_iconst (c := cI) i133_89.1 (mM_n i133_89.2) (v := 0) rfl ?_
      refine V_bipush (c := cI) i133_90.1 (mM_n i133_90.2) (v := 99) rfl ?_
      refine V_ciI (c := cI) (As := [.int ((S.1 66 ((S.1 60 (x1.toNatClampNeg)).toNatClampNeg)) - x2), .int 0, .int 99]) (rest := []) i133_92.1 (mM_n i133_92.2) c133_105 rfl rfl rfl (Nat.le_of_ble_eq_true rfl) rfl (fun r16 S15 => ?_)
      refine V_if_ne (c := cI) i133_95.1 (mM_n i133_95.2) rfl (fun _ => ?_) (fun _ => ?_)
      · exact V_msk (l1 := [none, none, none, none, none]) i133_98.2 rfl rfl
      · refine V_aload_n (c := cI) i133_101.1 (mM_n i133_101.2) rfl rfl ?_
        refine V_gf (c := cI) i133_102.1 (mM_n i133_102.2) (v := .ref 66) g133_41 rfl ?_
        refine V_aload_n (c := cI) i133_105.1 (mM_n i133_105.2) rfl rfl ?_
        refine V_gf (c := cI) i133_106.1 (mM_n i133_106.2) (v := .ref 60) g133_23 rfl ?_
        refine V_iload_n (c := cI) i133_109.1 (mM_n i133_109.2) rfl ?_
        refine V_iaload (c := cI) i133_110.1 (mM_n i133_110.2) rfl rfl (fun _ => ?_)
        refine V_iload (c := cI) i133_111.1 (mM_n i133_111.2) rfl ?_
        refine V_iastore (c := cI) (x1 := ((S.1 66 ((S.1 60 (x1.toNatClampNeg)).toNatClampNeg)) - x2)) i133_113.1 (mM_n i133_113.2) rfl rfl rfl rfl (fun _ => ?_)
        refine V_aload_n (c := cI) i133_114.1 (mM_n i133_114.2) rfl rfl ?_
        refine V_gf (c := cI) i133_115.1 (mM_n i133_115.2) (v := .ref 62) g133_29 rfl ?_
        refine V_iload_n (c := cI) i133_118.1 (mM_n i133_118.2) rfl ?_
        refine V_dup2 (c := cI) i133_119.1 (mM_n i133_119.2) rfl rfl ?_
        refine V_iaload (c := cI) i133_120.1 (mM_n i133_120.2) rfl rfl (fun _ => ?_)
        refine V_iload_n (c := cI) i133_121.1 (mM_n i133_121.2) rfl ?_
        refine V_iadd (c := cI) i133_122.1 (mM_n i133_122.2)  ?_
        refine V_iastore (c := cI) (x1 := ((S15.1 62 (x1.toNatClampNeg)) + x2)) i133_123.1 (mM_n i133_123.2) rfl rfl rfl rfl (fun _ => ?_)
        refine V_aload_n (c := cI) i133_124.1 (mM_n i133_124.2) rfl rfl ?_
        refine V_gf (c := cI) i133_125.1 (mM_n i133_125.2) (v := .ref 62) g133_29 rfl ?_
        refine V_iload_n (c := cI) i133_128.1 (mM_n i133_128.2) rfl ?_
        refine V_iaload (c := cI) i133_129.1 (mM_n i133_129.2) rfl rfl (fun _ => ?_)
        exact V_iret i133_130.1 (mM_n i133_130.2) rfl
theorem k_Mod_take_98_eq   {S : Mem} : k_Mod_take_98  S = some ((-103), S) := by
  show cI (mV oS X0 133 98 [none, none, none, none, none] [] S) = _
  refine V_bipush (c := cI) i133_98.1 (mM_s i133_98.2 rfl) (v := (-103)) rfl ?_
  exact V_iret i133_100.1 (mM_n i133_100.2) rfl
theorem f_Mod_cannot_eq {x1 : Int32} {x2 : Int32}  {S : Mem} : f_Mod_cannot x1 x2 S = if inb x1 5 = true then if inb x2 5 = true then if (S.1 71 (x1.toNatClampNeg)) = (S.1 60 (x2.toNatClampNeg)) then if inb x2 5 = true then if inb x1 5 = true then if (S.1 71 (x2.toNatClampNeg)) = (S.1 60 (x1.toNatClampNeg)) then if inb x1 5 = true then if inb x1 5 = true then if (S.1 71 (x1.toNatClampNeg)) = (S.1 60 (x1.toNatClampNeg)) then k_Mod_cannot_49 x1 x2 S else k_Mod_cannot_50 x1 x2 1 S else none else none else k_Mod_cannot_49 x1 x2 S else none else none else k_Mod_cannot_49 x1 x2 S else none else none := by
  show cI (mV oS X0 134 0 [some (.ref 55), some (.int x1), some (.int x2), none] [] S) = _
  refine V_aload_n (c := cI) i134_0.1 (mM_n i134_0.2) rfl rfl ?_
  refine V_gf (c := cI) i134_1.1 (mM_n i134_1.2) (v := .ref 71) g134_57 rfl ?_
  refine V_iload_n (c := cI) i134_4.1 (mM_n i134_4.2) rfl ?_
  refine V_iaload (c := cI) i134_5.1 (mM_n i134_5.2) rfl rfl (fun _ => ?_)
  refine V_aload_n (c := cI) i134_6.1 (mM_n i134_6.2) rfl rfl ?_
  refine V_gf (c := cI) i134_7.1 (mM_n i134_7.2) (v := .ref 60) g134_23 rfl ?_
  refine V_iload_n (c := cI) i134_10.1 (mM_n i134_10.2) rfl ?_
  refine V_iaload (c := cI) i134_11.1 (mM_n i134_11.2) rfl rfl (fun _ => ?_)
  refine V_icmp_ne (c := cI) i134_12.1 (mM_n i134_12.2) rfl (fun _ => ?_) (fun _ => ?_)
  · refine V_aload_n (c := cI) i134_15.1 (mM_n i134_15.2) rfl rfl ?_
    refine V_gf (c := cI) i134_16.1 (mM_n i134_16.2) (v := .ref 71) g134_57 rfl ?_
    refine V_iload_n (c := cI) i134_19.1 (mM_n i134_19.2) rfl ?_
    refine V_iaload (c := cI) i134_20.1 (mM_n i134_20.2) rfl rfl (fun _ => ?_)
    refine V_aload_n (c := cI) i134_21.1 (mM_n i134_21.2) rfl rfl ?_
    refine V_gf (c := cI) i134_22.1 (mM_n i134_22.2) (v := .ref 60) g134_23 rfl ?_
    refine V_iload_n (c := cI) i134_25.1 (mM_n i134_25.2) rfl ?_
    refine V_iaload (c := cI) i134_26.1 (mM_n i134_26.2) rfl rfl (fun _ => ?_)
    refine V_icmp_ne (c := cI) i134_27.1 (mM_n i134_27.2) rfl (fun _ => ?_) (fun _ => ?_)
    · refine V_aload_n (c := cI) i134_30.1 (mM_n i134_30.2) rfl rfl ?_
      refine V_gf (c := cI) i134_31.1 (mM_n i134_31.2) (v := .ref 71) g134_57 rfl ?_
      refine V_iload_n (c := cI) i134_34.1 (mM_n i134_34.2) rfl ?_
      refine V_iaload (c := cI) i134_35.1 (mM_n i134_35.2) rfl rfl (fun _ => ?_)
      refine V_aload_n (c := cI) i134_36.1 (mM_n i134_36.2) rfl rfl ?_
      refine V_gf (c := cI) i134_37.1 (mM_n i134_37.2) (v := .ref 60) g134_23 rfl ?_
      refine V_iload_n (c := cI) i134_40.1 (mM_n i134_40.2) rfl ?_
      refine V_iaload (c := cI) i134_41.1 (mM_n i134_41.2) rfl rfl (fun _ => ?_)
      refine V_icmp_eq (c := cI) i134_42.1 (mM_n i134_42.2) rfl (fun _ => ?_) (fun _ => ?_)
      · exact V_msk (l1 := [some (.ref 55), some (.int x1), some (.int x2), none]) i134_49.2 rfl rfl
      · refine V_iconst (c := cI) i134_45.1 (mM_n i134_45.2) (v := 1) rfl ?_
        refine V_goto (c := cI) i134_46.1 (mM_n i134_46.2) rfl ?_
        exact V_msk (l1 := [some (.ref 55), some (.int x1), some (.int x2), none]) i134_50.2 rfl rfl
    · exact V_msk (l1 := [some (.ref 55), some (.int x1), some (.int x2), none]) i134_49.2 rfl rfl
  · exact V_msk (l1 := [some (.ref 55), some (.int x1), some (.int x2), none]) i134_49.2 rfl rfl
theorem k_Mod_cannot_49_eq {x1 : Int32} {x2 : Int32}  {S : Mem} : k_Mod_cannot_49 x1 x2 S = k_Mod_cannot_50 x1 x2 0 S := by
  show cI (mV oS X0 134 49 [some (.ref 55), some (.int x1), some (.int x2), none] [] S) = _
  refine V_iconst (c := cI) i134_49.1 (mM_s i134_49.2 rfl) (v := 0) rfl ?_
  exact V_msk (l1 := [some (.ref 55), some (.int x1), some (.int x2), none]) i134_50.2 rfl rfl
theorem k_Mod_cannot_50_eq {x1 : Int32} {x2 : Int32} {xs0 : Int32}  {S : Mem} : k_Mod_cannot_50 x1 x2 xs0 S = if xs0 = 0 then k_Mod_cannot_92 S else if inb x1 5 = true then if inb x2 5 = true then bI (f_Mod_laneOf (S.1 60 (x1.toNatClampNeg)) (S.1 60 (x2.toNatClampNeg)) S) (fun r6 S5 => if inb r6 12 = true then if (S5.1 58 (r6.toNatClampNeg)) = 0 then bI (f_Mod_mayPass x1 x2 S5) (fun r8 S7 => if r8 = 0 then k_Mod_cannot_93 1 S7 else k_Mod_cannot_92 S7) else k_Mod_cannot_92 S5 else none) else none else none := by
  show cI (mV oS X0 134 50 [some (.ref 55), some (.int x1), some (.int x2), none] [.int xs0] S) = _
  refine V_istore_n (c := cI) i134_50.1 (mM_s i134_50.2 rfl) (l1 := [some (.ref 55), some (.int x1), some (.int x2), some (.int xs0)])  (Nat.le_of_ble_eq_true rfl) rfl ?_
  refine V_iload_n (c := cI) i134_51.1 (mM_n i134_51.2) rfl ?_
  refine V_if_eq (c := cI) i134_52.1 (mM_n i134_52.2) rfl (fun _ => ?_) (fun _ => ?_)
  · exact V_msk (l1 := [none, none, none, none]) i134_92.2 rfl rfl
  · refine V_aload_n (c := cI) i134_55.1 (mM_n i134_55.2) rfl rfl ?_
    refine V_gf (c := cI) i134_56.1 (mM_n i134_56.2) (v := .ref 58) g134_16 rfl ?_
    refine V_aload_n (c := cI) i134_59.1 (mM_n i134_59.2) rfl rfl ?_
    refine V_aload_n (c := cI) i134_60.1 (mM_n i134_60.2) rfl rfl ?_
    refine V_gf (c := cI) i134_61.1 (mM_n i134_61.2) (v := .ref 60) g134_23 rfl ?_
    refine V_iload_n (c := cI) i134_64.1 (mM_n i134_64.2) rfl ?_
    refine V_iaload (c := cI) i134_65.1 (mM_n i134_65.2) rfl rfl (fun _ => ?_)
    refine V_aload_n (c := cI) i134_66.1 (mM_n i134_66.2) rfl rfl ?_
    refine V_gf (c := cI) i134_67.1 (mM_n i134_67.2) (v := .ref 60) g134_23 rfl ?_
    refine V_iload_n (c := cI) i134_70.1 (mM_n i134_70.2) rfl ?_
    refine V_iaload (c := cI) i134_71.1 (mM_n i134_71.2) rfl rfl (fun _ => ?_)
    refine V_cvI (c := cI) (As := [.int (S.1 60 (x1.toNatClampNeg)), .int (S.1 60 (x2.toNatClampNeg))]) (rest := [.ref 58]) i134_72.1 (mM_n i134_72.2) c134_174 rfl rfl rfl rfl (Nat.le_of_ble_eq_true rfl) rfl (fun r6 S5 => ?_)
    refine V_baload (c := cI) i134_75.1 (mM_n i134_75.2) rfl rfl rfl (fun _ => ?_)
    refine V_if_ne (c := cI) i134_76.1 (mM_n i134_76.2) rfl (fun _ => ?_) (fun _ => ?_)
    · refine V_aload_n (c := cI) i134_79.1 (mM_n i134_79.2) rfl rfl ?_
      refine V_iload_n (c := cI) i134_80.1 (mM_n i134_80.2) rfl ?_
      refine V_iload_n (c := cI) i134_81.1 (mM_n i134_81.2) rfl ?_
      refine V_cvI (c := cI) (As := [.int x1, .int x2]) (rest := []) i134_82.1 (mM_n i134_82.2) c134_177 rfl rfl rfl rfl (Nat.le_of_ble_eq_true rfl) rfl (fun r8 S7 => ?_)
      refine V_if_ne (c := cI) i134_85.1 (mM_n i134_85.2) rfl (fun _ => ?_) (fun _ => ?_)
      · refine V_iconst (c := cI) i134_88.1 (mM_n i134_88.2) (v := 1) rfl ?_
        refine V_goto (c := cI) i134_89.1 (mM_n i134_89.2) rfl ?_
        exact V_msk (l1 := [none, none, none, none]) i134_93.2 rfl rfl
      · exact V_msk (l1 := [none, none, none, none]) i134_92.2 rfl rfl
    · exact V_msk (l1 := [none, none, none, none]) i134_92.2 rfl rfl
theorem k_Mod_cannot_92_eq   {S : Mem} : k_Mod_cannot_92  S = k_Mod_cannot_93 0 S := by
  show cI (mV oS X0 134 92 [none, none, none, none] [] S) = _
  refine V_iconst (c := cI) i134_92.1 (mM_s i134_92.2 rfl) (v := 0) rfl ?_
  exact V_msk (l1 := [none, none, none, none]) i134_93.2 rfl rfl
theorem k_Mod_cannot_93_eq {xs0 : Int32}  {S : Mem} : k_Mod_cannot_93 xs0 S = if zb xs0 = true then some (xs0, S) else none := by
  show cI (mV oS X0 134 93 [none, none, none, none] [.int xs0] S) = _
  exact V_iretZ i134_93.1 (mM_s i134_93.2 rfl) rfl
theorem f_Mod_layBack_eq   {S : Mem} : f_Mod_layBack  S = k_Mod_layBack_9 0 0 (u1 S 55 29 0) := by
  show cI (mV oS X0 135 0 [some (.ref 55), none, none, none] [] S) = _
  refine V_iconst (c := cI) i135_0.1 (mM_n i135_0.2) (v := 0) rfl ?_
  refine V_istore_n (c := cI) i135_1.1 (mM_n i135_1.2) (l1 := [some (.ref 55), some (.int 0), none, none])  (Nat.le_of_ble_eq_true rfl) rfl ?_
  refine V_aload_n (c := cI) i135_2.1 (mM_n i135_2.2) rfl rfl ?_
  refine V_iconst (c := cI) i135_3.1 (mM_n i135_3.2) (v := 0) rfl ?_
  refine V_pf (c := cI) i135_4.1 (mM_n i135_4.2) p135_180 (pf_i rfl rfl rfl) ?_
  refine V_iconst (c := cI) i135_7.1 (mM_n i135_7.2) (v := 0) rfl ?_
  refine V_istore_n (c := cI) i135_8.1 (mM_n i135_8.2) (l1 := [some (.ref 55), some (.int 0), some (.int 0), none])  (Nat.le_of_ble_eq_true rfl) rfl ?_
  exact V_msk (l1 := [some (.ref 55), some (.int 0), some (.int 0), none]) i135_9.2 rfl rfl
theorem k_Mod_layBack_9_eq {x1 : Int32} {x2 : Int32}  {S : Mem} : k_Mod_layBack_9 x1 x2 S = if (S.1 55 7) ≤ x2 then some (x1, S) else k_Mod_layBack_21 x1 x2 (x2 + 1) S := by
  show cI (mV oS X0 135 9 [some (.ref 55), some (.int x1), some (.int x2), none] [] S) = _
  refine V_iload_n (c := cI) i135_9.1 (mM_s i135_9.2 rfl) rfl ?_
  refine V_aload_n (c := cI) i135_10.1 (mM_n i135_10.2) rfl rfl ?_
  refine V_gf (c := cI) i135_11.1 (mM_n i135_11.2) (v := .int (S.1 55 7)) g135_152 rfl ?_
  refine V_icmp_ge (c := cI) i135_14.1 (mM_n i135_14.2) rfl (fun _ => ?_) (fun _ => ?_)
  · refine V_iload_n (c := cI) i135_101.1 (mM_n i135_101.2) rfl ?_
    exact V_iret i135_102.1 (mM_n i135_102.2) rfl
  · refine V_iload_n (c := cI) i135_17.1 (mM_n i135_17.2) rfl ?_
    refine V_iconst (c := cI) i135_18.1 (mM_n i135_18.2) (v := 1) rfl ?_
    refine V_iadd (c := cI) i135_19.1 (mM_n i135_19.2)  ?_
    refine V_istore_n (c := cI) i135_20.1 (mM_n i135_20.2) (l1 := [some (.ref 55), some (.int x1), some (.int x2), some (.int (x2 + 1))])  (Nat.le_of_ble_eq_true rfl) rfl ?_
    exact V_msk (l1 := [some (.ref 55), some (.int x1), some (.int x2), some (.int (x2 + 1))]) i135_21.2 rfl rfl
theorem k_Mod_layBack_21_eq {x1 : Int32} {x2 : Int32} {x3 : Int32}  {S : Mem} : k_Mod_layBack_21 x1 x2 x3 S = if (S.1 55 7) ≤ x3 then k_Mod_layBack_9 x1 (x2 + 1) S else bI (f_Mod_cannot x2 x3 S) (fun r4 S3 => if r4 = 0 then k_Mod_layBack_89 x1 x2 x3 S3 else if x1 = 0 then k_Mod_layBack_51 x1 x2 x3 x2 S3 else k_Mod_layBack_51 x1 x2 x3 (S3.1 55 30) S3) := by
  show cI (mV oS X0 135 21 [some (.ref 55), some (.int x1), some (.int x2), some (.int x3)] [] S) = _
  refine V_iload_n (c := cI) i135_21.1 (mM_s i135_21.2 rfl) rfl ?_
  refine V_aload_n (c := cI) i135_22.1 (mM_n i135_22.2) rfl rfl ?_
  refine V_gf (c := cI) i135_23.1 (mM_n i135_23.2) (v := .int (S.1 55 7)) g135_152 rfl ?_
  refine V_icmp_ge (c := cI) i135_26.1 (mM_n i135_26.2) rfl (fun _ => ?_) (fun _ => ?_)
  · refine V_iinc (c := cI) i135_95.1 (mM_n i135_95.2) (l1 := [some (.ref 55), some (.int x1), some (.int (x2 + 1)), some (.int x3)]) rfl rfl rfl ?_
    refine V_goto (c := cI) i135_98.1 (mM_n i135_98.2) rfl ?_
    exact V_msk (l1 := [some (.ref 55), some (.int x1), some (.int (x2 + 1)), none]) i135_9.2 rfl rfl
  · refine V_aload_n (c := cI) i135_29.1 (mM_n i135_29.2) rfl rfl ?_
    refine V_iload_n (c := cI) i135_30.1 (mM_n i135_30.2) rfl ?_
    refine V_iload_n (c := cI) i135_31.1 (mM_n i135_31.2) rfl ?_
    refine V_cvI (c := cI) (As := [.int x2, .int x3]) (rest := []) i135_32.1 (mM_n i135_32.2) c135_183 rfl rfl rfl rfl (Nat.le_of_ble_eq_true rfl) rfl (fun r4 S3 => ?_)
    refine V_if_eq (c := cI) i135_35.1 (mM_n i135_35.2) rfl (fun _ => ?_) (fun _ => ?_)
    · exact V_msk (l1 := [some (.ref 55), some (.int x1), some (.int x2), some (.int x3)]) i135_89.2 rfl rfl
    · refine V_aload_n (c := cI) i135_38.1 (mM_n i135_38.2) rfl rfl ?_
      refine V_iload_n (c := cI) i135_39.1 (mM_n i135_39.2) rfl ?_
      refine V_if_ne (c := cI) i135_40.1 (mM_n i135_40.2) rfl (fun _ => ?_) (fun _ => ?_)
      · refine V_iload_n (c := cI) i135_43.1 (mM_n i135_43.2) rfl ?_
        refine V_goto (c := cI) i135_44.1 (mM_n i135_44.2) rfl ?_
        exact V_msk (l1 := [some (.ref 55), some (.int x1), some (.int x2), some (.int x3)]) i135_51.2 rfl rfl
      · refine V_aload_n (c := cI) i135_47.1 (mM_n i135_47.2) rfl rfl ?_
        refine V_gf (c := cI) i135_48.1 (mM_n i135_48.2) (v := .int (S3.1 55 30)) g135_186 rfl ?_
        exact V_msk (l1 := [some (.ref 55), some (.int x1), some (.int x2), some (.int x3)]) i135_51.2 rfl rfl
theorem k_Mod_layBack_51_eq {x1 : Int32} {x2 : Int32} {x3 : Int32} {xs0 : Int32}  {S : Mem} : k_Mod_layBack_51 x1 x2 x3 xs0 S = if x1 = 0 then k_Mod_layBack_67 x1 x2 x3 x3 (u1 S 55 30 xs0) else k_Mod_layBack_67 x1 x2 x3 (S.1 55 31) (u1 S 55 30 xs0) := by
  show cI (mV oS X0 135 51 [some (.ref 55), some (.int x1), some (.int x2), some (.int x3)] [.int xs0, .ref 55] S) = _
  refine V_pf (c := cI) i135_51.1 (mM_s i135_51.2 rfl) p135_186 (pf_i rfl rfl rfl) ?_
  refine V_aload_n (c := cI) i135_54.1 (mM_n i135_54.2) rfl rfl ?_
  refine V_iload_n (c := cI) i135_55.1 (mM_n i135_55.2) rfl ?_
  refine V_if_ne (c := cI) i135_56.1 (mM_n i135_56.2) rfl (fun _ => ?_) (fun _ => ?_)
  · refine V_iload_n (c := cI) i135_59.1 (mM_n i135_59.2) rfl ?_
    refine V_goto (c := cI) i135_60.1 (mM_n i135_60.2) rfl ?_
    exact V_msk (l1 := [some (.ref 55), some (.int x1), some (.int x2), some (.int x3)]) i135_67.2 rfl rfl
  · refine V_aload_n (c := cI) i135_63.1 (mM_n i135_63.2) rfl rfl ?_
    refine V_gf (c := cI) i135_64.1 (mM_n i135_64.2) (v := .int (S.1 55 31)) g135_189 rfl ?_
    exact V_msk (l1 := [some (.ref 55), some (.int x1), some (.int x2), some (.int x3)]) i135_67.2 rfl rfl
theorem k_Mod_layBack_67_eq {x1 : Int32} {x2 : Int32} {x3 : Int32} {xs0 : Int32}  {S : Mem} : k_Mod_layBack_67 x1 x2 x3 xs0 S = k_Mod_layBack_89 (x1 + 1) x2 x3 (u1 (u1 S 55 31 xs0) 55 29 ((S.1 55 29) ||| (((1 : Int32) <<< (x2 &&& 31)) ||| ((1 : Int32) <<< (x3 &&& 31))))) := by
  show cI (mV oS X0 135 67 [some (.ref 55), some (.int x1), some (.int x2), some (.int x3)] [.int xs0, .ref 55] S) = _
  refine V_pf (c := cI) i135_67.1 (mM_s i135_67.2 rfl) p135_189 (pf_i rfl rfl rfl) ?_
  refine V_iinc (c := cI) i135_70.1 (mM_n i135_70.2) (l1 := [some (.ref 55), some (.int (x1 + 1)), some (.int x2), some (.int x3)]) rfl rfl rfl ?_
  refine V_aload_n (c := cI) i135_73.1 (mM_n i135_73.2) rfl rfl ?_
  refine V_dup (c := cI) i135_74.1 (mM_n i135_74.2) rfl ?_
  refine V_gf (c := cI) i135_75.1 (mM_n i135_75.2) (v := .int (S.1 55 29)) g135_180 rfl ?_
  refine V_iconst (c := cI) i135_78.1 (mM_n i135_78.2) (v := 1) rfl ?_
  refine V_iload_n (c := cI) i135_79.1 (mM_n i135_79.2) rfl ?_
  refine V_ishl (c := cI) i135_80.1 (mM_n i135_80.2)  ?_
  refine V_iconst (c := cI) i135_81.1 (mM_n i135_81.2) (v := 1) rfl ?_
  refine V_iload_n (c := cI) i135_82.1 (mM_n i135_82.2) rfl ?_
  refine V_ishl (c := cI) i135_83.1 (mM_n i135_83.2)  ?_
  refine V_ior (c := cI) i135_84.1 (mM_n i135_84.2)  ?_
  refine V_ior (c := cI) i135_85.1 (mM_n i135_85.2)  ?_
  refine V_pf (c := cI) i135_86.1 (mM_n i135_86.2) p135_180 (pf_i rfl rfl rfl) ?_
  exact V_msk (l1 := [some (.ref 55), some (.int (x1 + 1)), some (.int x2), some (.int x3)]) i135_89.2 rfl rfl
theorem k_Mod_layBack_89_eq {x1 : Int32} {x2 : Int32} {x3 : Int32}  {S : Mem} : k_Mod_layBack_89 x1 x2 x3 S = k_Mod_layBack_21 x1 x2 (x3 + 1) S := by
  show cI (mV oS X0 135 89 [some (.ref 55), some (.int x1), some (.int x2), some (.int x3)] [] S) = _
  refine V_iinc (c := cI) i135_89.1 (mM_s i135_89.2 rfl) (l1 := [some (.ref 55), some (.int x1), some (.int x2), some (.int (x3 + 1))]) rfl rfl rfl ?_
  refine V_goto (c := cI) i135_92.1 (mM_n i135_92.2) rfl ?_
  exact V_msk (l1 := [some (.ref 55), some (.int x1), some (.int x2), some (.int (x3 + 1))]) i135_21.2 rfl rfl
theorem f_Mod_goMinute_eq   {S : Mem} : f_Mod_goMinute  S = k_Mod_goMinute_2 0 S := by
  show cI (mV oS X0 136 0 [some (.ref 55), none, none] [] S) = _
  refine V_iconst (c := cI) i136_0.1 (mM_n i136_0.2) (v := 0) rfl ?_
  refine V_istore_n (c := cI) i136_1.1 (mM_n i136_1.2) (l1 := [some (.ref 55), some (.int 0), none])  (Nat.le_of_ble_eq_true rfl) rfl ?_
  exact V_msk (l1 := [some (.ref 55), some (.int 0), none]) i136_2.2 rfl rfl
theorem k_Mod_goMinute_2_eq {x1 : Int32}  {S : Mem} : k_Mod_goMinute_2 x1 S = if (S.1 55 7) ≤ x1 then bI (f_Mod_layBack S) (fun r12 S11 => k_Mod_goMinute_52 r12 0 S11) else bI (f_Mod_wanted x1 S) (fun r14 S13 => if r14 = (-1) then if inb x1 5 = true then k_Mod_goMinute_38 x1 (S13.1 60 (x1.toNatClampNeg)) x1 S13 else none else bI (f_Mod_wanted x1 S13) (fun r16 S15 => k_Mod_goMinute_38 x1 r16 x1 S15)) := by
  show cI (mV oS X0 136 2 [some (.ref 55), some (.int x1), none] [] S) = _
  refine V_iload_n (c := cI) i136_2.1 (mM_s i136_2.2 rfl) rfl ?_
  refine V_aload_n (c := cI) i136_3.1 (mM_n i136_3.2) rfl rfl ?_
  refine V_gf (c := cI) i136_4.1 (mM_n i136_4.2) (v := .int (S.1 55 7)) g136_152 rfl ?_
  refine V_icmp_ge (c := cI) i136_7.1 (mM_n i136_7.2) rfl (fun _ => ?_) (fun _ => ?_)
  · refine V_aload_n (c := cI) i136_45.1 (mM_n i136_45.2) rfl rfl ?_
    refine V_cvI (c := cI) (As := []) (rest := []) i136_46.1 (mM_n i136_46.2) c136_192 rfl rfl rfl rfl (Nat.le_of_ble_eq_true rfl) rfl (fun r12 S11 => ?_)
    refine V_istore_n (c := cI) i136_49.1 (mM_n i136_49.2) (l1 := [some (.ref 55), some (.int r12), none])  (Nat.le_of_ble_eq_true rfl) rfl ?_
    refine V_iconst (c := cI) i136_50.1 (mM_n i136_50.2) (v := 0) rfl ?_
    refine V_istore_n (c := cI) i136_51.1 (mM_n i136_51.2) (l1 := [some (.ref 55), some (.int r12), some (.int 0)])  (Nat.le_of_ble_eq_true rfl) rfl ?_
    exact V_msk (l1 := [some (.ref 55), some (.int r12), some (.int 0)]) i136_52.2 rfl rfl
  · refine V_aload_n (c := cI) i136_10.1 (mM_n i136_10.2) rfl rfl ?_
    refine V_gf (c := cI) i136_11.1 (mM_n i136_11.2) (v := .ref 71) g136_57 rfl ?_
    refine V_iload_n (c := cI) i136_14.1 (mM_n i136_14.2) rfl ?_
    refine V_aload_n (c := cI) i136_15.1 (mM_n i136_15.2) rfl rfl ?_
    refine V_iload_n (c := cI) i136_16.1 (mM_n i136_16.2) rfl ?_
    refine V_cvI (c := cI) (As := [.int x1]) (rest := [.int x1, .ref 71]) i136_17.1 (mM_n i136_17.2) c136_165 rfl rfl rfl rfl (Nat.le_of_ble_eq_true rfl) rfl (fun r14 S13 => ?_)
    refine V_iconst (c := cI) i136_20.1 (mM_n i136_20.2) (v := (-1)) rfl ?_
    refine V_icmp_ne (c := cI) i136_21.1 (mM_n i136_21.2) rfl (fun _ => ?_) (fun _ => ?_)
    · refine V_aload_n (c := cI) i136_24.1 (mM_n i136_24.2) rfl rfl ?_
      refine V_gf (c := cI) i136_25.1 (mM_n i136_25.2) (v := .ref 60) g136_23 rfl ?_
      refine V_iload_n (c := cI) i136_28.1 (mM_n i136_28.2) rfl ?_
      refine V_iaload (c := cI) i136_29.1 (mM_n i136_29.2) rfl rfl (fun _ => ?_)
      refine V_goto (c := cI) i136_30.1 (mM_n i136_30.2) rfl ?_
      exact V_msk (l1 := [some (.ref 55), some (.int x1), none]) i136_38.2 rfl rfl
    · refine V_aload_n (c := cI) i136_33.1 (mM_n i136_33.2) rfl rfl ?_
      refine V_iload_n (c := cI) i136_34.1 (mM_n i136_34.2) rfl ?_
      refine V_cvI (c := cI) (As := [.int x1]) (rest := [.int x1, .ref 71]) i136_35.1 (mM_n i136_35.2) c136_165 rfl rfl rfl rfl (Nat.le_of_ble_eq_true rfl) rfl (fun r16 S15 => ?_)
      exact V_msk (l1 := [some (.ref 55), some (.int x1), none]) i136_38.2 rfl rfl
theorem k_Mod_goMinute_38_eq {x1 : Int32} {xs0 : Int32} {xs1 : Int32}  {S : Mem} : k_Mod_goMinute_38 x1 xs0 xs1 S = if inb xs1 5 = true then k_Mod_goMinute_2 (x1 + 1) (u1 S 71 xs1.toNatClampNeg xs0) else none := by
  show cI (mV oS X0 136 38 [some (.ref 55), some (.int x1), none] [.int xs0, .int xs1, .ref 71] S) = _
  refine V_iastore (c := cI) (x1 := xs0) i136_38.1 (mM_s i136_38.2 rfl) rfl rfl rfl rfl (fun _ => ?_)
  refine V_iinc (c := cI) i136_39.1 (mM_n i136_39.2) (l1 := [some (.ref 55), some (.int (x1 + 1)), none]) rfl rfl rfl ?_
  refine V_goto (c := cI) i136_42.1 (mM_n i136_42.2) rfl ?_
  exact V_msk (l1 := [some (.ref 55), some (.int (x1 + 1)), none]) i136_2.2 rfl rfl
theorem k_Mod_goMinute_52_eq {x1 : Int32} {x2 : Int32}  {S : Mem} : k_Mod_goMinute_52 x1 x2 S = if (S.1 55 7) ≤ x2 then some (x1, S) else bI (f_Mod_has (S.1 55 29) x2 S) (fun r18 S17 => if r18 = 0 then if inb x2 5 = true then bI (f_Mod_wanted x2 S17) (fun r20 S19 => if r20 = (-1) then k_Mod_goMinute_92 x1 x2 0 (S17.1 65 (x2.toNatClampNeg)) x2 S19 else k_Mod_goMinute_92 x1 x2 1 (S17.1 65 (x2.toNatClampNeg)) x2 S19) else none else k_Mod_goMinute_106 x1 x2 S17) := by
  show cI (mV oS X0 136 52 [some (.ref 55), some (.int x1), some (.int x2)] [] S) = _
  refine V_iload_n (c := cI) i136_52.1 (mM_s i136_52.2 rfl) rfl ?_
  refine V_aload_n (c := cI) i136_53.1 (mM_n i136_53.2) rfl rfl ?_
  refine V_gf (c := cI) i136_54.1 (mM_n i136_54.2) (v := .int (S.1 55 7)) g136_152 rfl ?_
  refine V_icmp_ge (c := cI) i136_57.1 (mM_n i136_57.2) rfl (fun _ => ?_) (fun _ => ?_)
  · refine V_iload_n (c := cI) i136_112.1 (mM_n i136_112.2) rfl ?_
    exact V_iret i136_113.1 (mM_n i136_113.2) rfl
  · refine V_aload_n (c := cI) i136_60.1 (mM_n i136_60.2) rfl rfl ?_
    refine V_gf (c := cI) i136_61.1 (mM_n i136_61.2) (v := .int (S.1 55 29)) g136_180 rfl ?_
    refine V_iload_n (c := cI) i136_64.1 (mM_n i136_64.2) rfl ?_
    refine V_ciI (c := cI) (As := [.int (S.1 55 29), .int x2]) (rest := []) i136_65.1 (mM_n i136_65.2) c136_196 rfl rfl rfl (Nat.le_of_ble_eq_true rfl) rfl (fun r18 S17 => ?_)
    refine V_if_ne (c := cI) i136_68.1 (mM_n i136_68.2) rfl (fun _ => ?_) (fun _ => ?_)
    · refine V_aload_n (c := cI) i136_71.1 (mM_n i136_71.2) rfl rfl ?_
      refine V_gf (c := cI) i136_72.1 (mM_n i136_72.2) (v := .ref 65) g136_38 rfl ?_
      refine V_iload_n (c := cI) i136_75.1 (mM_n i136_75.2) rfl ?_
      refine V_dup2 (c := cI) i136_76.1 (mM_n i136_76.2) rfl rfl ?_
      refine V_iaload (c := cI) i136_77.1 (mM_n i136_77.2) rfl rfl (fun _ => ?_)
      refine V_aload_n (c := cI) i136_78.1 (mM_n i136_78.2) rfl rfl ?_
      refine V_iload_n (c := cI) i136_79.1 (mM_n i136_79.2) rfl ?_
      refine V_cvI (c := cI) (As := [.int x2]) (rest := [.int (S17.1 65 (x2.toNatClampNeg)), .int x2, .ref 65]) i136_80.1 (mM_n i136_80.2) c136_165 rfl rfl rfl rfl (Nat.le_of_ble_eq_true rfl) rfl (fun r20 S19 => ?_)
      refine V_iconst (c := cI) i136_83.1 (mM_n i136_83.2) (v := (-1)) rfl ?_
      refine V_icmp_ne (c := cI) i136_84.1 (mM_n i136_84.2) rfl (fun _ => ?_) (fun _ => ?_)
      · refine V_iconst (c := cI) i136_87.1 (mM_n i136_87.2) (v := 0) rfl ?_
        refine V_goto (c := cI) i136_88.1 (mM_n i136_88.2) rfl ?_
        exact V_msk (l1 := [some (.ref 55), some (.int x1), some (.int x2)]) i136_92.2 rfl rfl
      · refine V_iconst (c := cI) i136_91.1 (mM_n i136_91.2) (v := 1) rfl ?_
        exact V_msk (l1 := [some (.ref 55), some (.int x1), some (.int x2)]) i136_92.2 rfl rfl
    · exact V_msk (l1 := [some (.ref 55), some (.int x1), some (.int x2)]) i136_106.2 rfl rfl
theorem k_Mod_goMinute_92_eq {x1 : Int32} {x2 : Int32} {xs0 : Int32} {xs1 : Int32} {xs2 : Int32}  {S : Mem} : k_Mod_goMinute_92 x1 x2 xs0 xs1 xs2 S = if inb xs2 5 = true then if inb x2 5 = true then if inb x2 5 = true then k_Mod_goMinute_106 x1 x2 (u1 (u1 S 65 xs2.toNatClampNeg (xs1 + xs0)) 60 x2.toNatClampNeg (S.1 71 (x2.toNatClampNeg))) else none else none else none := by
  show cI (mV oS X0 136 92 [some (.ref 55), some (.int x1), some (.int x2)] [.int xs0, .int xs1, .int xs2, .ref 65] S) = _
  refine V_iadd (c := cI) i136_92.1 (mM_s i136_92.2 rfl)  ?_
  refine V_iastore (c := cI) (x1 := (xs1 + xs0)) i136_93.1 (mM_n i136_93.2) rfl rfl rfl rfl (fun _ => ?_)
  refine V_aload_n (c := cI) i136_94.1 (mM_n i136_94.2) rfl rfl ?_
  refine V_gf (c := cI) i136_95.1 (mM_n i136_95.2) (v := .ref 60) g136_23 rfl ?_
  refine V_iload_n (c := cI) i136_98.1 (mM_n i136_98.2) rfl ?_
  refine V_aload_n (c := cI) i136_99.1 (mM_n i136_99.2) rfl rfl ?_
  refine V_gf (c := cI) i136_100.1 (mM_n i136_100.2) (v := .ref 71) g136_57 rfl ?_
  refine V_iload_n (c := cI) i136_103.1 (mM_n i136_103.2) rfl ?_
  refine V_iaload (c := cI) i136_104.1 (mM_n i136_104.2) rfl rfl (fun _ => ?_)
  refine V_iastore (c := cI) (x1 := (S.1 71 (x2.toNatClampNeg))) i136_105.1 (mM_n i136_105.2) rfl rfl rfl rfl (fun _ => ?_)
  exact V_msk (l1 := [some (.ref 55), some (.int x1), some (.int x2)]) i136_106.2 rfl rfl
theorem k_Mod_goMinute_106_eq {x1 : Int32} {x2 : Int32}  {S : Mem} : k_Mod_goMinute_106 x1 x2 S = k_Mod_goMinute_52 x1 (x2 + 1) S := by
  show cI (mV oS X0 136 106 [some (.ref 55), some (.int x1), some (.int x2)] [] S) = _
  refine V_iinc (c := cI) i136_106.1 (mM_s i136_106.2 rfl) (l1 := [some (.ref 55), some (.int x1), some (.int (x2 + 1))]) rfl rfl rfl ?_
  refine V_goto (c := cI) i136_109.1 (mM_n i136_109.2) rfl ?_
  exact V_msk (l1 := [some (.ref 55), some (.int x1), some (.int (x2 + 1))]) i136_52.2 rfl rfl
theorem f_Mod_minutes_eq {x1 : Int32}  {S : Mem} : f_Mod_minutes x1 S = bI (f_Mod_within x1 1 60 S) (fun r6 S5 => if r6 = 0 then some ((-102), S5) else if (S5.1 55 6) = 0 then some ((-103), S5) else k_Mod_minutes_27 x1 0 0 S5) := by
  show cI (mV oS X0 137 0 [some (.ref 55), some (.int x1), none, none] [] S) = _
  refine V_iload_n (c := cI) i137_0.1 (mM_n i137_0.2) rfl ?_
  refine V_iconst (c := cI) i137_1.1 (mM_n i137_1.2) (v := 1) rfl ?_
  refine V_bipush (c := cI) i137_2.1 (mM_n i137_2.2) (v := 60) rfl ?_
  refine V_ciI (c := cI) (As := [.int x1, .int 1, .int 60]) (rest := []) i137_4.1 (mM_n i137_4.2) c137_105 rfl rfl rfl (Nat.le_of_ble_eq_true rfl) rfl (fun r6 S5 => ?_)
  refine V_if_ne (c := cI) i137_7.1 (mM_n i137_7.2) rfl (fun _ => ?_) (fun _ => ?_)
  · refine V_bipush (c := cI) i137_10.1 (mM_n i137_10.2) (v := (-102)) rfl ?_
    exact V_iret i137_12.1 (mM_n i137_12.2) rfl
  · refine V_aload_n (c := cI) i137_13.1 (mM_n i137_13.2) rfl rfl ?_
    refine V_gf (c := cI) i137_14.1 (mM_n i137_14.2) (v := .int (S5.1 55 6)) g137_149 rfl ?_
    refine V_if_ne (c := cI) i137_17.1 (mM_n i137_17.2) rfl (fun _ => ?_) (fun _ => ?_)
    · refine V_bipush (c := cI) i137_20.1 (mM_n i137_20.2) (v := (-103)) rfl ?_
      exact V_iret i137_22.1 (mM_n i137_22.2) rfl
    · refine V_iconst (c := cI) i137_23.1 (mM_n i137_23.2) (v := 0) rfl ?_
      refine V_istore_n (c := cI) i137_24.1 (mM_n i137_24.2) (l1 := [some (.ref 55), some (.int x1), some (.int 0), none])  (Nat.le_of_ble_eq_true rfl) rfl ?_
      refine V_iconst (c := cI) i137_25.1 (mM_n i137_25.2) (v := 0) rfl ?_
      refine V_istore_n (c := cI) i137_26.1 (mM_n i137_26.2) (l1 := [some (.ref 55), some (.int x1), some (.int 0), some (.int 0)])  (Nat.le_of_ble_eq_true rfl) rfl ?_
      exact V_msk (l1 := [some (.ref 55), some (.int x1), some (.int 0), some (.int 0)]) i137_27.2 rfl rfl
theorem k_Mod_minutes_27_eq {x1 : Int32} {x2 : Int32} {x3 : Int32}  {S : Mem} : k_Mod_minutes_27 x1 x2 x3 S = if x1 ≤ x3 then some (x2, u1 S 55 16 ((S.1 55 16) + x1)) else bI (f_Mod_goMinute S) (fun r8 S7 => k_Mod_minutes_27 x1 (x2 + r8) (x3 + 1) S7) := by
  show cI (mV oS X0 137 27 [some (.ref 55), some (.int x1), some (.int x2), some (.int x3)] [] S) = _
  refine V_iload_n (c := cI) i137_27.1 (mM_s i137_27.2 rfl) rfl ?_
  refine V_iload_n (c := cI) i137_28.1 (mM_n i137_28.2) rfl ?_
  refine V_icmp_ge (c := cI) i137_29.1 (mM_n i137_29.2) rfl (fun _ => ?_) (fun _ => ?_)
  · refine V_aload_n (c := cI) i137_45.1 (mM_n i137_45.2) rfl rfl ?_
    refine V_dup (c := cI) i137_46.1 (mM_n i137_46.2) rfl ?_
    refine V_gf (c := cI) i137_47.1 (mM_n i137_47.2) (v := .int (S.1 55 16)) g137_155 rfl ?_
    refine V_iload_n (c := cI) i137_50.1 (mM_n i137_50.2) rfl ?_
    refine V_iadd (c := cI) i137_51.1 (mM_n i137_51.2)  ?_
    refine V_pf (c := cI) i137_52.1 (mM_n i137_52.2) p137_155 (pf_i rfl rfl rfl) ?_
    refine V_iload_n (c := cI) i137_55.1 (mM_n i137_55.2) rfl ?_
    exact V_iret i137_56.1 (mM_n i137_56.2) rfl
  · refine V_iload_n (c := cI) i137_32.1 (mM_n i137_32.2) rfl ?_
    refine V_aload_n (c := cI) i137_33.1 (mM_n i137_33.2) rfl rfl ?_
    refine V_cvI (c := cI) (As := []) (rest := [.int x2]) i137_34.1 (mM_n i137_34.2) c137_199 rfl rfl rfl rfl (Nat.le_of_ble_eq_true rfl) rfl (fun r8 S7 => ?_)
    refine V_iadd (c := cI) i137_37.1 (mM_n i137_37.2)  ?_
    refine V_istore_n (c := cI) i137_38.1 (mM_n i137_38.2) (l1 := [some (.ref 55), some (.int x1), some (.int (x2 + r8)), some (.int x3)])  (Nat.le_of_ble_eq_true rfl) rfl ?_
    refine V_iinc (c := cI) i137_39.1 (mM_n i137_39.2) (l1 := [some (.ref 55), some (.int x1), some (.int (x2 + r8)), some (.int (x3 + 1))]) rfl rfl rfl ?_
    refine V_goto (c := cI) i137_42.1 (mM_n i137_42.2) rfl ?_
    exact V_msk (l1 := [some (.ref 55), some (.int x1), some (.int (x2 + r8)), some (.int (x3 + 1))]) i137_27.2 rfl rfl
theorem f_Mod_save_eq   {S : Mem} : f_Mod_save  S = k_Mod_save_2 0 S := by
  show cU (mV oS X0 138 0 [some (.ref 55), none] [] S) = _
  refine V_iconst (c := cU) i138_0.1 (mM_n i138_0.2) (v := 0) rfl ?_
  refine V_istore_n (c := cU) i138_1.1 (mM_n i138_1.2) (l1 := [some (.ref 55), some (.int 0)])  (Nat.le_of_ble_eq_true rfl) rfl ?_
  exact V_msk (l1 := [some (.ref 55), some (.int 0)]) i138_2.2 rfl rfl
theorem k_Mod_save_2_eq {x1 : Int32}  {S : Mem} : k_Mod_save_2 x1 S = if 5 ≤ x1 then some S else if inb x1 5 = true then if inb x1 5 = true then if inb x1 5 = true then if inb x1 5 = true then k_Mod_save_2 (x1 + 1) (u1 (u1 S 72 x1.toNatClampNeg (S.1 60 (x1.toNatClampNeg))) 73 x1.toNatClampNeg (S.1 65 (x1.toNatClampNeg))) else none else none else none else none := by
  show cU (mV oS X0 138 2 [some (.ref 55), some (.int x1)] [] S) = _
  refine V_iload_n (c := cU) i138_2.1 (mM_s i138_2.2 rfl) rfl ?_
  refine V_iconst (c := cU) i138_3.1 (mM_n i138_3.2) (v := 5) rfl ?_
  refine V_icmp_ge (c := cU) i138_4.1 (mM_n i138_4.2) rfl (fun _ => ?_) (fun _ => ?_)
  · exact V_vret i138_37.1 (mM_n i138_37.2) rfl
  · refine V_aload_n (c := cU) i138_7.1 (mM_n i138_7.2) rfl rfl ?_
    refine V_gf (c := cU) i138_8.1 (mM_n i138_8.2) (v := .ref 72) g138_60 rfl ?_
    refine V_iload_n (c := cU) i138_11.1 (mM_n i138_11.2) rfl ?_
    refine V_aload_n (c := cU) i138_12.1 (mM_n i138_12.2) rfl rfl ?_
    refine V_gf (c := cU) i138_13.1 (mM_n i138_13.2) (v := .ref 60) g138_23 rfl ?_
    refine V_iload_n (c := cU) i138_16.1 (mM_n i138_16.2) rfl ?_
    refine V_iaload (c := cU) i138_17.1 (mM_n i138_17.2) rfl rfl (fun _ => ?_)
    refine V_iastore (c := cU) (x1 := (S.1 60 (x1.toNatClampNeg))) i138_18.1 (mM_n i138_18.2) rfl rfl rfl rfl (fun _ => ?_)
    refine V_aload_n (c := cU) i138_19.1 (mM_n i138_19.2) rfl rfl ?_
    refine V_gf (c := cU) i138_20.1 (mM_n i138_20.2) (v := .ref 73) g138_63 rfl ?_
    refine V_iload_n (c := cU) i138_23.1 (mM_n i138_23.2) rfl ?_
    refine V_aload_n (c := cU) i138_24.1 (mM_n i138_24.2) rfl rfl ?_
    refine V_gf (c := cU) i138_25.1 (mM_n i138_25.2) (v := .ref 65) g138_38 rfl ?_
    refine V_iload_n (c := cU) i138_28.1 (mM_n i138_28.2) rfl ?_
    refine V_iaload (c := cU) i138_29.1 (mM_n i138_29.2) rfl rfl (fun _ => ?_)
    refine V_iastore (c := cU) (x1 := (S.1 65 (x1.toNatClampNeg))) i138_30.1 (mM_n i138_30.2) rfl rfl rfl rfl (fun _ => ?_)
    refine V_iinc (c := cU) i138_31.1 (mM_n i138_31.2) (l1 := [some (.ref 55), some (.int (x1 + 1))]) rfl rfl rfl ?_
    refine V_goto (c := cU) i138_34.1 (mM_n i138_34.2) rfl ?_
    exact V_msk (l1 := [some (.ref 55), some (.int (x1 + 1))]) i138_2.2 rfl rfl
theorem f_Mod_back_eq   {S : Mem} : f_Mod_back  S = k_Mod_back_2 0 S := by
  show cU (mV oS X0 139 0 [some (.ref 55), none] [] S) = _
  refine V_iconst (c := cU) i139_0.1 (mM_n i139_0.2) (v := 0) rfl ?_
  refine V_istore_n (c := cU) i139_1.1 (mM_n i139_1.2) (l1 := [some (.ref 55), some (.int 0)])  (Nat.le_of_ble_eq_true rfl) rfl ?_
  exact V_msk (l1 := [some (.ref 55), some (.int 0)]) i139_2.2 rfl rfl
theorem k_Mod_back_2_eq {x1 : Int32}  {S : Mem} : k_Mod_back_2 x1 S = if 5 ≤ x1 then some S else if inb x1 5 = true then if inb x1 5 = true then if inb x1 5 = true then if inb x1 5 = true then k_Mod_back_2 (x1 + 1) (u1 (u1 S 60 x1.toNatClampNeg (S.1 72 (x1.toNatClampNeg))) 65 x1.toNatClampNeg (S.1 73 (x1.toNatClampNeg))) else none else none else none else none := by
  show cU (mV oS X0 139 2 [some (.ref 55), some (.int x1)] [] S) = _
  refine V_iload_n (c := cU) i139_2.1 (mM_s i139_2.2 rfl) rfl ?_
  refine V_iconst (c := cU) i139_3.1 (mM_n i139_3.2) (v := 5) rfl ?_
  refine V_icmp_ge (c := cU) i139_4.1 (mM_n i139_4.2) rfl (fun _ => ?_) (fun _ => ?_)
  · exact V_vret i139_37.1 (mM_n i139_37.2) rfl
  · refine V_aload_n (c := cU) i139_7.1 (mM_n i139_7.2) rfl rfl ?_
    refine V_gf (c := cU) i139_8.1 (mM_n i139_8.2) (v := .ref 60) g139_23 rfl ?_
    refine V_iload_n (c := cU) i139_11.1 (mM_n i139_11.2) rfl ?_
    refine V_aload_n (c := cU) i139_12.1 (mM_n i139_12.2) rfl rfl ?_
    refine V_gf (c := cU) i139_13.1 (mM_n i139_13.2) (v := .ref 72) g139_60 rfl ?_
    refine V_iload_n (c := cU) i139_16.1 (mM_n i139_16.2) rfl ?_
    refine V_iaload (c := cU) i139_17.1 (mM_n i139_17.2) rfl rfl (fun _ => ?_)
    refine V_iastore (c := cU) (x1 := (S.1 72 (x1.toNatClampNeg))) i139_18.1 (mM_n i139_18.2) rfl rfl rfl rfl (fun _ => ?_)
    refine V_aload_n (c := cU) i139_19.1 (mM_n i139_19.2) rfl rfl ?_
    refine V_gf (c := cU) i139_20.1 (mM_n i139_20.2) (v := .ref 65) g139_38 rfl ?_
    refine V_iload_n (c := cU) i139_23.1 (mM_n i139_23.2) rfl ?_
    refine V_aload_n (c := cU) i139_24.1 (mM_n i139_24.2) rfl rfl ?_
    refine V_gf (c := cU) i139_25.1 (mM_n i139_25.2) (v := .ref 73) g139_63 rfl ?_
    refine V_iload_n (c := cU) i139_28.1 (mM_n i139_28.2) rfl ?_
    refine V_iaload (c := cU) i139_29.1 (mM_n i139_29.2) rfl rfl (fun _ => ?_)
    refine V_iastore (c := cU) (x1 := (S.1 73 (x1.toNatClampNeg))) i139_30.1 (mM_n i139_30.2) rfl rfl rfl rfl (fun _ => ?_)
    refine V_iinc (c := cU) i139_31.1 (mM_n i139_31.2) (l1 := [some (.ref 55), some (.int (x1 + 1))]) rfl rfl rfl ?_
    refine V_goto (c := cU) i139_34.1 (mM_n i139_34.2) rfl ?_
    exact V_msk (l1 := [some (.ref 55), some (.int (x1 + 1))]) i139_2.2 rfl rfl
theorem f_Mod_isAnyLeft_eq   {S : Mem} : f_Mod_isAnyLeft  S = k_Mod_isAnyLeft_4 0 0 S := by
  show cI (mV oS X0 140 0 [some (.ref 55), none, none] [] S) = _
  refine V_iconst (c := cI) i140_0.1 (mM_n i140_0.2) (v := 0) rfl ?_
  refine V_istore_n (c := cI) i140_1.1 (mM_n i140_1.2) (l1 := [some (.ref 55), some (.int 0), none])  (Nat.le_of_ble_eq_true rfl) rfl ?_
  refine V_iconst (c := cI) i140_2.1 (mM_n i140_2.2) (v := 0) rfl ?_
  refine V_istore_n (c := cI) i140_3.1 (mM_n i140_3.2) (l1 := [some (.ref 55), some (.int 0), some (.int 0)])  (Nat.le_of_ble_eq_true rfl) rfl ?_
  exact V_msk (l1 := [some (.ref 55), some (.int 0), some (.int 0)]) i140_4.2 rfl rfl
theorem k_Mod_isAnyLeft_4_eq {x1 : Int32} {x2 : Int32}  {S : Mem} : k_Mod_isAnyLeft_4 x1 x2 S = if (S.1 55 7) ≤ x2 then if zb x1 = true then some (x1, S) else none else if x1 = 0 then bI (f_Mod_wanted x2 S) (fun r4 S3 => if r4 = (-1) then k_Mod_isAnyLeft_30 x2 0 S3 else k_Mod_isAnyLeft_25 x2 S3) else k_Mod_isAnyLeft_25 x2 S := by
  show cI (mV oS X0 140 4 [some (.ref 55), some (.int x1), some (.int x2)] [] S) = _
  refine V_iload_n (c := cI) i140_4.1 (mM_s i140_4.2 rfl) rfl ?_
  refine V_aload_n (c := cI) i140_5.1 (mM_n i140_5.2) rfl rfl ?_
  refine V_gf (c := cI) i140_6.1 (mM_n i140_6.2) (v := .int (S.1 55 7)) g140_152 rfl ?_
  refine V_icmp_ge (c := cI) i140_9.1 (mM_n i140_9.2) rfl (fun _ => ?_) (fun _ => ?_)
  · refine V_iload_n (c := cI) i140_37.1 (mM_n i140_37.2) rfl ?_
    exact V_iretZ i140_38.1 (mM_n i140_38.2) rfl
  · refine V_iload_n (c := cI) i140_12.1 (mM_n i140_12.2) rfl ?_
    refine V_if_ne (c := cI) i140_13.1 (mM_n i140_13.2) rfl (fun _ => ?_) (fun _ => ?_)
    · refine V_aload_n (c := cI) i140_16.1 (mM_n i140_16.2) rfl rfl ?_
      refine V_iload_n (c := cI) i140_17.1 (mM_n i140_17.2) rfl ?_
      refine V_cvI (c := cI) (As := [.int x2]) (rest := []) i140_18.1 (mM_n i140_18.2) c140_165 rfl rfl rfl rfl (Nat.le_of_ble_eq_true rfl) rfl (fun r4 S3 => ?_)
      refine V_iconst (c := cI) i140_21.1 (mM_n i140_21.2) (v := (-1)) rfl ?_
      refine V_icmp_eq (c := cI) i140_22.1 (mM_n i140_22.2) rfl (fun _ => ?_) (fun _ => ?_)
      · refine V_iconst (c := cI) i140_29.1 (mM_n i140_29.2) (v := 0) rfl ?_
        exact V_msk (l1 := [some (.ref 55), none, some (.int x2)]) i140_30.2 rfl rfl
      · exact V_msk (l1 := [some (.ref 55), none, some (.int x2)]) i140_25.2 rfl rfl
    · exact V_msk (l1 := [some (.ref 55), none, some (.int x2)]) i140_25.2 rfl rfl
theorem k_Mod_isAnyLeft_25_eq {x2 : Int32}  {S : Mem} : k_Mod_isAnyLeft_25 x2 S = k_Mod_isAnyLeft_30 x2 1 S := by
  show cI (mV oS X0 140 25 [some (.ref 55), none, some (.int x2)] [] S) = _
  refine V_iconst (c := cI) i140_25.1 (mM_s i140_25.2 rfl) (v := 1) rfl ?_
  refine V_goto (c := cI) i140_26.1 (mM_n i140_26.2) rfl ?_
  exact V_msk (l1 := [some (.ref 55), none, some (.int x2)]) i140_30.2 rfl rfl
theorem k_Mod_isAnyLeft_30_eq {x2 : Int32} {xs0 : Int32}  {S : Mem} : k_Mod_isAnyLeft_30 x2 xs0 S = k_Mod_isAnyLeft_4 xs0 (x2 + 1) S := by
  show cI (mV oS X0 140 30 [some (.ref 55), none, some (.int x2)] [.int xs0] S) = _
  refine V_istore_n (c := cI) i140_30.1 (mM_s i140_30.2 rfl) (l1 := [some (.ref 55), some (.int xs0), some (.int x2)])  (Nat.le_of_ble_eq_true rfl) rfl ?_
  refine V_iinc (c := cI) i140_31.1 (mM_n i140_31.2) (l1 := [some (.ref 55), some (.int xs0), some (.int (x2 + 1))]) rfl rfl rfl ?_
  refine V_goto (c := cI) i140_34.1 (mM_n i140_34.2) rfl ?_
  exact V_msk (l1 := [some (.ref 55), some (.int xs0), some (.int (x2 + 1))]) i140_4.2 rfl rfl
theorem f_Mod_firstOf_eq {x1 : Int32}  {S : Mem} : f_Mod_firstOf x1 S = bU (f_Mod_save S) (fun S7 => k_Mod_firstOf_8 x1 (-1) 1 S7) := by
  show cI (mV oS X0 141 0 [some (.ref 55), some (.int x1), none, none] [] S) = _
  refine V_aload_n (c := cI) i141_0.1 (mM_n i141_0.2) rfl rfl ?_
  refine V_cvU (c := cI) (As := []) (rest := []) i141_1.1 (mM_n i141_1.2) c141_202 rfl rfl rfl rfl (Nat.le_of_ble_eq_true rfl) rfl (fun S7 => ?_)
  refine V_iconst (c := cI) i141_4.1 (mM_n i141_4.2) (v := (-1)) rfl ?_
  refine V_istore_n (c := cI) i141_5.1 (mM_n i141_5.2) (l1 := [some (.ref 55), some (.int x1), some (.int (-1)), none])  (Nat.le_of_ble_eq_true rfl) rfl ?_
  refine V_iconst (c := cI) i141_6.1 (mM_n i141_6.2) (v := 1) rfl ?_
  refine V_istore_n (c := cI) i141_7.1 (mM_n i141_7.2) (l1 := [some (.ref 55), some (.int x1), some (.int (-1)), some (.int 1)])  (Nat.le_of_ble_eq_true rfl) rfl ?_
  exact V_msk (l1 := [some (.ref 55), some (.int x1), some (.int (-1)), some (.int 1)]) i141_8.2 rfl rfl
theorem k_Mod_firstOf_8_eq {x1 : Int32} {x2 : Int32} {x3 : Int32}  {S : Mem} : k_Mod_firstOf_8 x1 x2 x3 S = if 60 < x3 then k_Mod_firstOf_52 x2 S else if x2 = (-1) then bI (f_Mod_isAnyLeft S) (fun r9 S8 => if r9 = 0 then k_Mod_firstOf_52 x2 S8 else bI (f_Mod_goMinute S8) (fun r11 S10 => if ((S10.1 55 29) &&& x1) = 0 then k_Mod_firstOf_45 x1 x3 (-1) S10 else k_Mod_firstOf_45 x1 x3 x3 S10)) else k_Mod_firstOf_52 x2 S := by
  show cI (mV oS X0 141 8 [some (.ref 55), some (.int x1), some (.int x2), some (.int x3)] [] S) = _
  refine V_iload_n (c := cI) i141_8.1 (mM_s i141_8.2 rfl) rfl ?_
  refine V_bipush (c := cI) i141_9.1 (mM_n i141_9.2) (v := 60) rfl ?_
  refine V_icmp_gt (c := cI) i141_11.1 (mM_n i141_11.2) rfl (fun _ => ?_) (fun _ => ?_)
  · exact V_msk (l1 := [some (.ref 55), none, some (.int x2), none]) i141_52.2 rfl rfl
  · refine V_iload_n (c := cI) i141_14.1 (mM_n i141_14.2) rfl ?_
    refine V_iconst (c := cI) i141_15.1 (mM_n i141_15.2) (v := (-1)) rfl ?_
    refine V_icmp_ne (c := cI) i141_16.1 (mM_n i141_16.2) rfl (fun _ => ?_) (fun _ => ?_)
    · refine V_aload_n (c := cI) i141_19.1 (mM_n i141_19.2) rfl rfl ?_
      refine V_cvI (c := cI) (As := []) (rest := []) i141_20.1 (mM_n i141_20.2) c141_205 rfl rfl rfl rfl (Nat.le_of_ble_eq_true rfl) rfl (fun r9 S8 => ?_)
      refine V_if_eq (c := cI) i141_23.1 (mM_n i141_23.2) rfl (fun _ => ?_) (fun _ => ?_)
      · exact V_msk (l1 := [some (.ref 55), none, some (.int x2), none]) i141_52.2 rfl rfl
      · refine V_aload_n (c := cI) i141_26.1 (mM_n i141_26.2) rfl rfl ?_
        refine V_cvI (c := cI) (As := []) (rest := []) i141_27.1 (mM_n i141_27.2) c141_199 rfl rfl rfl rfl (Nat.le_of_ble_eq_true rfl) rfl (fun r11 S10 => ?_)
        refine V_pop (c := cI) i141_30.1 (mM_n i141_30.2) rfl ?_
        refine V_aload_n (c := cI) i141_31.1 (mM_n i141_31.2) rfl rfl ?_
        refine V_gf (c := cI) i141_32.1 (mM_n i141_32.2) (v := .int (S10.1 55 29)) g141_180 rfl ?_
        refine V_iload_n (c := cI) i141_35.1 (mM_n i141_35.2) rfl ?_
        refine V_iand (c := cI) i141_36.1 (mM_n i141_36.2)  ?_
        refine V_if_ne (c := cI) i141_37.1 (mM_n i141_37.2) rfl (fun _ => ?_) (fun _ => ?_)
        · refine V_iconst (c := cI) i141_40.1 (mM_n i141_40.2) (v := (-1)) rfl ?_
          refine V_goto (c := cI) i141_41.1 (mM_n i141_41.2) rfl ?_
          exact V_msk (l1 := [some (.ref 55), some (.int x1), none, some (.int x3)]) i141_45.2 rfl rfl
        · refine V_iload_n (c := cI) i141_44.1 (mM_n i141_44.2) rfl ?_
          exact V_msk (l1 := [some (.ref 55), some (.int x1), none, some (.int x3)]) i141_45.2 rfl rfl
    · exact V_msk (l1 := [some (.ref 55), none, some (.int x2), none]) i141_52.2 rfl rfl
theorem k_Mod_firstOf_45_eq {x1 : Int32} {x3 : Int32} {xs0 : Int32}  {S : Mem} : k_Mod_firstOf_45 x1 x3 xs0 S = k_Mod_firstOf_8 x1 xs0 (x3 + 1) S := by
  show cI (mV oS X0 141 45 [some (.ref 55), some (.int x1), none, some (.int x3)] [.int xs0] S) = _
  refine V_istore_n (c := cI) i141_45.1 (mM_s i141_45.2 rfl) (l1 := [some (.ref 55), some (.int x1), some (.int xs0), some (.int x3)])  (Nat.le_of_ble_eq_true rfl) rfl ?_
  refine V_iinc (c := cI) i141_46.1 (mM_n i141_46.2) (l1 := [some (.ref 55), some (.int x1), some (.int xs0), some (.int (x3 + 1))]) rfl rfl rfl ?_
  refine V_goto (c := cI) i141_49.1 (mM_n i141_49.2) rfl ?_
  exact V_msk (l1 := [some (.ref 55), some (.int x1), some (.int xs0), some (.int (x3 + 1))]) i141_8.2 rfl rfl
theorem k_Mod_firstOf_52_eq {x2 : Int32}  {S : Mem} : k_Mod_firstOf_52 x2 S = bU (f_Mod_back (u1 (u1 S 55 35 (S.1 55 30)) 55 36 (S.1 55 31))) (fun S12 => some (x2, S12)) := by
  show cI (mV oS X0 141 52 [some (.ref 55), none, some (.int x2), none] [] S) = _
  refine V_aload_n (c := cI) i141_52.1 (mM_s i141_52.2 rfl) rfl rfl ?_
  refine V_aload_n (c := cI) i141_53.1 (mM_n i141_53.2) rfl rfl ?_
  refine V_gf (c := cI) i141_54.1 (mM_n i141_54.2) (v := .int (S.1 55 30)) g141_186 rfl ?_
  refine V_pf (c := cI) i141_57.1 (mM_n i141_57.2) p141_209 (pf_i rfl rfl rfl) ?_
  refine V_aload_n (c := cI) i141_60.1 (mM_n i141_60.2) rfl rfl ?_
  refine V_aload_n (c := cI) i141_61.1 (mM_n i141_61.2) rfl rfl ?_
  refine V_gf (c := cI) i141_62.1 (mM_n i141_62.2) (v := .int (S.1 55 31)) g141_189 rfl ?_
  refine V_pf (c := cI) i141_65.1 (mM_n i141_65.2) p141_212 (pf_i rfl rfl rfl) ?_
  refine V_aload_n (c := cI) i141_68.1 (mM_n i141_68.2) rfl rfl ?_
  refine V_cvU (c := cI) (As := []) (rest := []) i141_69.1 (mM_n i141_69.2) c141_215 rfl rfl rfl rfl (Nat.le_of_ble_eq_true rfl) rfl (fun S12 => ?_)
  refine V_iload_n (c := cI) i141_72.1 (mM_n i141_72.2) rfl ?_
  exact V_iret i141_73.1 (mM_n i141_73.2) rfl
theorem f_Mod_firstNow_eq {x1 : Int32}  {S : Mem} : f_Mod_firstNow x1 S = bI (f_Mod_firstOf 31 S) (fun r4 S3 => if r4 = (-1) then k_Mod_firstNow_16 r4 S3 else if x1 = 0 then k_Mod_firstNow_16 r4 S3 else if x1 = 1 then k_Mod_firstNow_36 (S3.1 55 35) S3 else k_Mod_firstNow_36 (S3.1 55 36) S3) := by
  show cI (mV oS X0 142 0 [some (.ref 55), some (.int x1), none] [] S) = _
  refine V_aload_n (c := cI) i142_0.1 (mM_n i142_0.2) rfl rfl ?_
  refine V_bipush (c := cI) i142_1.1 (mM_n i142_1.2) (v := 31) rfl ?_
  refine V_cvI (c := cI) (As := [.int 31]) (rest := []) i142_3.1 (mM_n i142_3.2) c142_218 rfl rfl rfl rfl (Nat.le_of_ble_eq_true rfl) rfl (fun r4 S3 => ?_)
  refine V_istore_n (c := cI) i142_6.1 (mM_n i142_6.2) (l1 := [some (.ref 55), some (.int x1), some (.int r4)])  (Nat.le_of_ble_eq_true rfl) rfl ?_
  refine V_iload_n (c := cI) i142_7.1 (mM_n i142_7.2) rfl ?_
  refine V_iconst (c := cI) i142_8.1 (mM_n i142_8.2) (v := (-1)) rfl ?_
  refine V_icmp_eq (c := cI) i142_9.1 (mM_n i142_9.2) rfl (fun _ => ?_) (fun _ => ?_)
  · exact V_msk (l1 := [none, none, some (.int r4)]) i142_16.2 rfl rfl
  · refine V_iload_n (c := cI) i142_12.1 (mM_n i142_12.2) rfl ?_
    refine V_if_ne (c := cI) i142_13.1 (mM_n i142_13.2) rfl (fun _ => ?_) (fun _ => ?_)
    · exact V_msk (l1 := [none, none, some (.int r4)]) i142_16.2 rfl rfl
    · refine V_iload_n (c := cI) i142_20.1 (mM_n i142_20.2) rfl ?_
      refine V_iconst (c := cI) i142_21.1 (mM_n i142_21.2) (v := 1) rfl ?_
      refine V_icmp_ne (c := cI) i142_22.1 (mM_n i142_22.2) rfl (fun _ => ?_) (fun _ => ?_)
      · refine V_aload_n (c := cI) i142_25.1 (mM_n i142_25.2) rfl rfl ?_
        refine V_gf (c := cI) i142_26.1 (mM_n i142_26.2) (v := .int (S3.1 55 35)) g142_209 rfl ?_
        refine V_goto (c := cI) i142_29.1 (mM_n i142_29.2) rfl ?_
        exact V_msk (l1 := [none, none, none]) i142_36.2 rfl rfl
      · refine V_aload_n (c := cI) i142_32.1 (mM_n i142_32.2) rfl rfl ?_
        refine V_gf (c := cI) i142_33.1 (mM_n i142_33.2) (v := .int (S3.1 55 36)) g142_212 rfl ?_
        exact V_msk (l1 := [none, none, none]) i142_36.2 rfl rfl
theorem k_Mod_firstNow_16_eq {x2 : Int32}  {S : Mem} : k_Mod_firstNow_16 x2 S = k_Mod_firstNow_36 x2 S := by
  show cI (mV oS X0 142 16 [none, none, some (.int x2)] [] S) = _
  refine V_iload_n (c := cI) i142_16.1 (mM_s i142_16.2 rfl) rfl ?_
  refine V_goto (c := cI) i142_17.1 (mM_n i142_17.2) rfl ?_
  exact V_msk (l1 := [none, none, none]) i142_36.2 rfl rfl
theorem k_Mod_firstNow_36_eq {xs0 : Int32}  {S : Mem} : k_Mod_firstNow_36 xs0 S = some (xs0, S) := by
  show cI (mV oS X0 142 36 [none, none, none] [.int xs0] S) = _
  exact V_iret i142_36.1 (mM_s i142_36.2 rfl) rfl
theorem f_Mod_first_eq {x1 : Int32}  {S : Mem} : f_Mod_first x1 S = bI (f_Mod_within x1 0 2 S) (fun r6 S5 => if r6 = 0 then k_Mod_first_19 (-102) S5 else bI (f_Mod_firstNow x1 S5) (fun r8 S7 => k_Mod_first_19 r8 S7)) := by
  show cI (mV oS X0 143 0 [some (.ref 55), some (.int x1)] [] S) = _
  refine V_iload_n (c := cI) i143_0.1 (mM_n i143_0.2) rfl ?_
  refine V_iconst (c := cI) i143_1.1 (mM_n i143_1.2) (v := 0) rfl ?_
  refine V_iconst (c := cI) i143_2.1 (mM_n i143_2.2) (v := 2) rfl ?_
  refine V_ciI (c := cI) (As := [.int x1, .int 0, .int 2]) (rest := []) i143_3.1 (mM_n i143_3.2) c143_105 rfl rfl rfl (Nat.le_of_ble_eq_true rfl) rfl (fun r6 S5 => ?_)
  refine V_if_eq (c := cI) i143_6.1 (mM_n i143_6.2) rfl (fun _ => ?_) (fun _ => ?_)
  · refine V_bipush (c := cI) i143_17.1 (mM_n i143_17.2) (v := (-102)) rfl ?_
    exact V_msk (l1 := [none, none]) i143_19.2 rfl rfl
  · refine V_aload_n (c := cI) i143_9.1 (mM_n i143_9.2) rfl rfl ?_
    refine V_iload_n (c := cI) i143_10.1 (mM_n i143_10.2) rfl ?_
    refine V_cvI (c := cI) (As := [.int x1]) (rest := []) i143_11.1 (mM_n i143_11.2) c143_221 rfl rfl rfl rfl (Nat.le_of_ble_eq_true rfl) rfl (fun r8 S7 => ?_)
    refine V_goto (c := cI) i143_14.1 (mM_n i143_14.2) rfl ?_
    exact V_msk (l1 := [none, none]) i143_19.2 rfl rfl
theorem k_Mod_first_19_eq {xs0 : Int32}  {S : Mem} : k_Mod_first_19 xs0 S = some (xs0, S) := by
  show cI (mV oS X0 143 19 [none, none] [.int xs0] S) = _
  exact V_iret i143_19.1 (mM_s i143_19.2 rfl) rfl
theorem f_Mod_layNear_eq   {S : Mem} : f_Mod_layNear  S = k_Mod_layNear_2 0 S := by
  show cU (mV oS X0 144 0 [some (.ref 55), none] [] S) = _
  refine V_iconst (c := cU) i144_0.1 (mM_n i144_0.2) (v := 0) rfl ?_
  refine V_istore_n (c := cU) i144_1.1 (mM_n i144_1.2) (l1 := [some (.ref 55), some (.int 0)])  (Nat.le_of_ble_eq_true rfl) rfl ?_
  exact V_msk (l1 := [some (.ref 55), some (.int 0)]) i144_2.2 rfl rfl
theorem k_Mod_layNear_2_eq {x1 : Int32}  {S : Mem} : k_Mod_layNear_2 x1 S = if 8 ≤ x1 then k_Mod_layNear_25 0 S else if inb x1 8 = true then k_Mod_layNear_2 (x1 + 1) (u1 S 77 x1.toNatClampNeg ((1 : Int32) <<< (x1 &&& 31))) else none := by
  show cU (mV oS X0 144 2 [some (.ref 55), some (.int x1)] [] S) = _
  refine V_iload_n (c := cU) i144_2.1 (mM_s i144_2.2 rfl) rfl ?_
  refine V_bipush (c := cU) i144_3.1 (mM_n i144_3.2) (v := 8) rfl ?_
  refine V_icmp_ge (c := cU) i144_5.1 (mM_n i144_5.2) rfl (fun _ => ?_) (fun _ => ?_)
  · refine V_iconst (c := cU) i144_23.1 (mM_n i144_23.2) (v := 0) rfl ?_
    refine V_istore_n (c := cU) i144_24.1 (mM_n i144_24.2) (l1 := [some (.ref 55), some (.int 0)])  (Nat.le_of_ble_eq_true rfl) rfl ?_
    exact V_msk (l1 := [some (.ref 55), some (.int 0)]) i144_25.2 rfl rfl
  · refine V_aload_n (c := cU) i144_8.1 (mM_n i144_8.2) rfl rfl ?_
    refine V_gf (c := cU) i144_9.1 (mM_n i144_9.2) (v := .ref 77) g144_75 rfl ?_
    refine V_iload_n (c := cU) i144_12.1 (mM_n i144_12.2) rfl ?_
    refine V_iconst (c := cU) i144_13.1 (mM_n i144_13.2) (v := 1) rfl ?_
    refine V_iload_n (c := cU) i144_14.1 (mM_n i144_14.2) rfl ?_
    refine V_ishl (c := cU) i144_15.1 (mM_n i144_15.2)  ?_
    refine V_iastore (c := cU) (x1 := ((1 : Int32) <<< (x1 &&& 31))) i144_16.1 (mM_n i144_16.2) rfl rfl rfl rfl (fun _ => ?_)
    refine V_iinc (c := cU) i144_17.1 (mM_n i144_17.2) (l1 := [some (.ref 55), some (.int (x1 + 1))]) rfl rfl rfl ?_
    refine V_goto (c := cU) i144_20.1 (mM_n i144_20.2) rfl ?_
    exact V_msk (l1 := [some (.ref 55), some (.int (x1 + 1))]) i144_2.2 rfl rfl
theorem k_Mod_layNear_25_eq {x1 : Int32}  {S : Mem} : k_Mod_layNear_25 x1 S = if (S.1 55 0) ≤ x1 then some S else if inb x1 12 = true then if inb (S.1 56 (x1.toNatClampNeg)) 8 = true then if inb x1 12 = true then if inb (S.1 56 (x1.toNatClampNeg)) 8 = true then if inb x1 12 = true then if inb (S.1 57 (x1.toNatClampNeg)) 8 = true then if inb x1 12 = true then if inb (S.1 57 (x1.toNatClampNeg)) 8 = true then k_Mod_layNear_25 (x1 + 1) (u1 (u1 S 77 ((S.1 56 (x1.toNatClampNeg)).toNatClampNeg) ((S.1 77 ((S.1 56 (x1.toNatClampNeg)).toNatClampNeg)) ||| ((1 : Int32) <<< ((S.1 57 (x1.toNatClampNeg)) &&& 31)))) 77 ((S.1 57 (x1.toNatClampNeg)).toNatClampNeg) (((u1 S 77 ((S.1 56 (x1.toNatClampNeg)).toNatClampNeg) ((S.1 77 ((S.1 56 (x1.toNatClampNeg)).toNatClampNeg)) ||| ((1 : Int32) <<< ((S.1 57 (x1.toNatClampNeg)) &&& 31)))).1 77 ((S.1 57 (x1.toNatClampNeg)).toNatClampNeg)) ||| ((1 : Int32) <<< ((S.1 56 (x1.toNatClampNeg)) &&& 31)))) else none else none else none else none else none else none else none else none := by
  show cU (mV oS X0 144 25 [some (.ref 55), some (.int x1)] [] S) = _
  refine V_iload_n (c := cU) i144_25.1 (mM_s i144_25.2 rfl) rfl ?_
  refine V_aload_n (c := cU) i144_26.1 (mM_n i144_26.2) rfl rfl ?_
  refine V_gf (c := cU) i144_27.1 (mM_n i144_27.2) (v := .int (S.1 55 0)) g144_140 rfl ?_
  refine V_icmp_ge (c := cU) i144_30.1 (mM_n i144_30.2) rfl (fun _ => ?_) (fun _ => ?_)
  · exact V_vret i144_83.1 (mM_n i144_83.2) rfl
  · refine V_aload_n (c := cU) i144_33.1 (mM_n i144_33.2) rfl rfl ?_
    refine V_gf (c := cU) i144_34.1 (mM_n i144_34.2) (v := .ref 77) g144_75 rfl ?_
    refine V_aload_n (c := cU) i144_37.1 (mM_n i144_37.2) rfl rfl ?_
    refine V_gf (c := cU) i144_38.1 (mM_n i144_38.2) (v := .ref 56) g144_7 rfl ?_
    refine V_iload_n (c := cU) i144_41.1 (mM_n i144_41.2) rfl ?_
    refine V_iaload (c := cU) i144_42.1 (mM_n i144_42.2) rfl rfl (fun _ => ?_)
    refine V_dup2 (c := cU) i144_43.1 (mM_n i144_43.2) rfl rfl ?_
    refine V_iaload (c := cU) i144_44.1 (mM_n i144_44.2) rfl rfl (fun _ => ?_)
    refine V_iconst (c := cU) i144_45.1 (mM_n i144_45.2) (v := 1) rfl ?_
    refine V_aload_n (c := cU) i144_46.1 (mM_n i144_46.2) rfl rfl ?_
    refine V_gf (c := cU) i144_47.1 (mM_n i144_47.2) (v := .ref 57) g144_13 rfl ?_
    refine V_iload_n (c := cU) i144_50.1 (mM_n i144_50.2) rfl ?_
    refine V_iaload (c := cU) i144_51.1 (mM_n i144_51.2) rfl rfl (fun _ => ?_)
    refine V_ishl (c := cU) i144_52.1 (mM_n i144_52.2)  ?_
    refine V_ior (c := cU) i144_53.1 (mM_n i144_53.2)  ?_
    refine V_iastore (c := cU) (x1 := ((S.1 77 ((S.1 56 (x1.toNatClampNeg)).toNatClampNeg)) ||| ((1 : Int32) <<< ((S.1 57 (x1.toNatClampNeg)) &&& 31)))) i144_54.1 (mM_n i144_54.2) rfl rfl rfl rfl (fun _ => ?_)
    refine V_aload_n (c := cU) i144_55.1 (mM_n i144_55.2) rfl rfl ?_
    refine V_gf (c := cU) i144_56.1 (mM_n i144_56.2) (v := .ref 77) g144_75 rfl ?_
    refine V_aload_n (c := cU) i144_59.1 (mM_n i144_59.2) rfl rfl ?_
    refine V_gf (c := cU) i144_60.1 (mM_n i144_60.2) (v := .ref 57) g144_13 rfl ?_
    refine V_iload_n (c := cU) i144_63.1 (mM_n i144_63.2) rfl ?_
    refine V_iaload (c := cU) i144_64.1 (mM_n i144_64.2) rfl rfl (fun _ => ?_)
    refine V_dup2 (c := cU) i144_65.1 (mM_n i144_65.2) rfl rfl ?_
    refine V_iaload (c := cU) i144_66.1 (mM_n i144_66.2) rfl rfl (fun _ => ?_)
    refine V_iconst (c := cU) i144_67.1 (mM_n i144_67.2) (v := 1) rfl ?_
    refine V_aload_n (c := cU) i144_68.1 (mM_n i144_68.2) rfl rfl ?_
    refine V_gf (c := cU) i144_69.1 (mM_n i144_69.2) (v := .ref 56) g144_7 rfl ?_
    refine V_iload_n (c := cU) i144_72.1 (mM_n i144_72.2) rfl ?_
    refine V_iaload (c := cU) i144_73.1 (mM_n i144_73.2) rfl rfl (fun _ => ?_)
    refine V_ishl (c := cU) i144_74.1 (mM_n i144_74.2)  ?_
    refine V_ior (c := cU) i144_75.1 (mM_n i144_75.2)  ?_
    refine V_iastore (c := cU) (x1 := (((u1 S 77 ((S.1 56 (x1.toNatClampNeg)).toNatClampNeg) ((S.1 77 ((S.1 56 (x1.toNatClampNeg)).toNatClampNeg)) ||| ((1 : Int32) <<< ((S.1 57 (x1.toNatClampNeg)) &&& 31)))).1 77 ((S.1 57 (x1.toNatClampNeg)).toNatClampNeg)) ||| ((1 : Int32) <<< ((S.1 56 (x1.toNatClampNeg)) &&& 31)))) i144_76.1 (mM_n i144_76.2) rfl rfl rfl rfl (fun _ => ?_)
    refine V_iinc (c := cU) i144_77.1 (mM_n i144_77.2) (l1 := [some (.ref 55), some (.int (x1 + 1))]) rfl rfl rfl ?_
    refine V_goto (c := cU) i144_80.1 (mM_n i144_80.2) rfl ?_
    exact V_msk (l1 := [some (.ref 55), some (.int (x1 + 1))]) i144_25.2 rfl rfl
theorem f_Mod_mayGo_eq {x1 : Int32} {x2 : Int32}  {S : Mem} : f_Mod_mayGo x1 x2 S = k_Mod_mayGo_2 x1 x2 0 S := by
  show cI (mV oS X0 145 0 [some (.ref 55), some (.int x1), some (.int x2), none] [] S) = _
  refine V_iconst (c := cI) i145_0.1 (mM_n i145_0.2) (v := 0) rfl ?_
  refine V_istore_n (c := cI) i145_1.1 (mM_n i145_1.2) (l1 := [some (.ref 55), some (.int x1), some (.int x2), some (.int 0)])  (Nat.le_of_ble_eq_true rfl) rfl ?_
  exact V_msk (l1 := [some (.ref 55), some (.int x1), some (.int x2), some (.int 0)]) i145_2.2 rfl rfl
theorem k_Mod_mayGo_2_eq {x1 : Int32} {x2 : Int32} {x3 : Int32}  {S : Mem} : k_Mod_mayGo_2 x1 x2 x3 S = if (S.1 55 7) ≤ x3 then k_Mod_mayGo_47 x1 x2 0 S else if inb ((x1 >>> (((3 : Int32) * x3) &&& 31)) &&& 7) 8 = true then bI (f_Mod_has (S.1 77 (((x1 >>> (((3 : Int32) * x3) &&& 31)) &&& 7).toNatClampNeg)) ((x2 >>> (((3 : Int32) * x3) &&& 31)) &&& 7) S) (fun r6 S5 => if r6 = 0 then some (0, S5) else k_Mod_mayGo_2 x1 x2 (x3 + 1) S5) else none := by
  show cI (mV oS X0 145 2 [some (.ref 55), some (.int x1), some (.int x2), some (.int x3)] [] S) = _
  refine V_iload_n (c := cI) i145_2.1 (mM_s i145_2.2 rfl) rfl ?_
  refine V_aload_n (c := cI) i145_3.1 (mM_n i145_3.2) rfl rfl ?_
  refine V_gf (c := cI) i145_4.1 (mM_n i145_4.2) (v := .int (S.1 55 7)) g145_152 rfl ?_
  refine V_icmp_ge (c := cI) i145_7.1 (mM_n i145_7.2) rfl (fun _ => ?_) (fun _ => ?_)
  · refine V_iconst (c := cI) i145_45.1 (mM_n i145_45.2) (v := 0) rfl ?_
    refine V_istore_n (c := cI) i145_46.1 (mM_n i145_46.2) (l1 := [some (.ref 55), some (.int x1), some (.int x2), some (.int 0)])  (Nat.le_of_ble_eq_true rfl) rfl ?_
    exact V_msk (l1 := [some (.ref 55), some (.int x1), some (.int x2), some (.int 0)]) i145_47.2 rfl rfl
  · refine V_aload_n (c := cI) i145_10.1 (mM_n i145_10.2) rfl rfl ?_
    refine V_gf (c := cI) i145_11.1 (mM_n i145_11.2) (v := .ref 77) g145_75 rfl ?_
    refine V_iload_n (c := cI) i145_14.1 (mM_n i145_14.2) rfl ?_
    refine V_iconst (c := cI) i145_15.1 (mM_n i145_15.2) (v := 3) rfl ?_
    refine V_iload_n (c := cI) i145_16.1 (mM_n i145_16.2) rfl ?_
    refine V_imul (c := cI) i145_17.1 (mM_n i145_17.2)  ?_
    refine V_ishr (c := cI) i145_18.1 (mM_n i145_18.2)  ?_
    refine V_bipush (c := cI) i145_19.1 (mM_n i145_19.2) (v := 7) rfl ?_
    refine V_iand (c := cI) i145_21.1 (mM_n i145_21.2)  ?_
    refine V_iaload (c := cI) i145_22.1 (mM_n i145_22.2) rfl rfl (fun _ => ?_)
    refine V_iload_n (c := cI) i145_23.1 (mM_n i145_23.2) rfl ?_
    refine V_iconst (c := cI) i145_24.1 (mM_n i145_24.2) (v := 3) rfl ?_
    refine V_iload_n (c := cI) i145_25.1 (mM_n i145_25.2) rfl ?_
    refine V_imul (c := cI) i145_26.1 (mM_n i145_26.2)  ?_
    refine V_ishr (c := cI) i145_27.1 (mM_n i145_27.2)  ?_
    refine V_bipush (c := cI) i145_28.1 (mM_n i145_28.2) (v := 7) rfl ?_
    refine V_iand (c := cI) i145_30.1 (mM_n i145_30.2)  ?_
    refine V_ciI (c := cI) (As := [.int (S.1 77 (((x1 >>> (((3 : Int32) * x3) &&& 31)) &&& 7).toNatClampNeg)), .int ((x2 >>> (((3 : Int32) * x3) &&& 31)) &&& 7)]) (rest := []) i145_31.1 (mM_n i145_31.2) c145_196 rfl rfl rfl (Nat.le_of_ble_eq_true rfl) rfl (fun r6 S5 => ?_)
    refine V_if_ne (c := cI) i145_34.1 (mM_n i145_34.2) rfl (fun _ => ?_) (fun _ => ?_)
    · refine V_iconst (c := cI) i145_37.1 (mM_n i145_37.2) (v := 0) rfl ?_
      exact V_iret i145_38.1 (mM_n i145_38.2) rfl
    · refine V_iinc (c := cI) i145_39.1 (mM_n i145_39.2) (l1 := [some (.ref 55), some (.int x1), some (.int x2), some (.int (x3 + 1))]) rfl rfl rfl ?_
      refine V_goto (c := cI) i145_42.1 (mM_n i145_42.2) rfl ?_
      exact V_msk (l1 := [some (.ref 55), some (.int x1), some (.int x2), some (.int (x3 + 1))]) i145_2.2 rfl rfl
theorem k_Mod_mayGo_47_eq {x1 : Int32} {x2 : Int32} {x3 : Int32}  {S : Mem} : k_Mod_mayGo_47 x1 x2 x3 S = if (S.1 55 7) ≤ x3 then bI (f_Mod_layBack S) (fun r8 S7 => if r8 = 0 then k_Mod_mayGo_101 1 S7 else k_Mod_mayGo_101 0 S7) else if inb x3 5 = true then if inb x3 5 = true then k_Mod_mayGo_47 x1 x2 (x3 + 1) (u1 (u1 S 60 x3.toNatClampNeg ((x1 >>> (((3 : Int32) * x3) &&& 31)) &&& 7)) 71 x3.toNatClampNeg ((x2 >>> (((3 : Int32) * x3) &&& 31)) &&& 7)) else none else none := by
  show cI (mV oS X0 145 47 [some (.ref 55), some (.int x1), some (.int x2), some (.int x3)] [] S) = _
  refine V_iload_n (c := cI) i145_47.1 (mM_s i145_47.2 rfl) rfl ?_
  refine V_aload_n (c := cI) i145_48.1 (mM_n i145_48.2) rfl rfl ?_
  refine V_gf (c := cI) i145_49.1 (mM_n i145_49.2) (v := .int (S.1 55 7)) g145_152 rfl ?_
  refine V_icmp_ge (c := cI) i145_52.1 (mM_n i145_52.2) rfl (fun _ => ?_) (fun _ => ?_)
  · refine V_aload_n (c := cI) i145_89.1 (mM_n i145_89.2) rfl rfl ?_
    refine V_cvI (c := cI) (As := []) (rest := []) i145_90.1 (mM_n i145_90.2) c145_192 rfl rfl rfl rfl (Nat.le_of_ble_eq_true rfl) rfl (fun r8 S7 => ?_)
    refine V_if_ne (c := cI) i145_93.1 (mM_n i145_93.2) rfl (fun _ => ?_) (fun _ => ?_)
    · refine V_iconst (c := cI) i145_96.1 (mM_n i145_96.2) (v := 1) rfl ?_
      refine V_goto (c := cI) i145_97.1 (mM_n i145_97.2) rfl ?_
      exact V_msk (l1 := [none, none, none, none]) i145_101.2 rfl rfl
    · refine V_iconst (c := cI) i145_100.1 (mM_n i145_100.2) (v := 0) rfl ?_
      exact V_msk (l1 := [none, none, none, none]) i145_101.2 rfl rfl
  · refine V_aload_n (c := cI) i145_55.1 (mM_n i145_55.2) rfl rfl ?_
    refine V_gf (c := cI) i145_56.1 (mM_n i145_56.2) (v := .ref 60) g145_23 rfl ?_
    refine V_iload_n (c := cI) i145_59.1 (mM_n i145_59.2) rfl ?_
    refine V_iload_n (c := cI) i145_60.1 (mM_n i145_60.2) rfl ?_
    refine V_iconst (c := cI) i145_61.1 (mM_n i145_61.2) (v := 3) rfl ?_
    refine V_iload_n (c := cI) i145_62.1 (mM_n i145_62.2) rfl ?_
    refine V_imul (c := cI) i145_63.1 (mM_n i145_63.2)  ?_
    refine V_ishr (c := cI) i145_64.1 (mM_n i145_64.2)  ?_
    refine V_bipush (c := cI) i145_65.1 (mM_n i145_65.2) (v := 7) rfl ?_
    refine V_iand (c := cI) i145_67.1 (mM_n i145_67.2)  ?_
    refine V_iastore (c := cI) (x1 := ((x1 >>> (((3 : Int32) * x3) &&& 31)) &&& 7)) i145_68.1 (mM_n i145_68.2) rfl rfl rfl rfl (fun _ => ?_)
    refine V_aload_n (c := cI) i145_69.1 (mM_n i145_69.2) rfl rfl ?_
    refine V_gf (c := cI) i145_70.1 (mM_n i145_70.2) (v := .ref 71) g145_57 rfl ?_
    refine V_iload_n (c := cI) i145_73.1 (mM_n i145_73.2) rfl ?_
    refine V_iload_n (c := cI) i145_74.1 (mM_n i145_74.2) rfl ?_
    refine V_iconst (c := cI) i145_75.1 (mM_n i145_75.2) (v := 3) rfl ?_
    refine V_iload_n (c := cI) i145_76.1 (mM_n i145_76.2) rfl ?_
    refine V_imul (c := cI) i145_77.1 (mM_n i145_77.2)  ?_
    refine V_ishr (c := cI) i145_78.1 (mM_n i145_78.2)  ?_
    refine V_bipush (c := cI) i145_79.1 (mM_n i145_79.2) (v := 7) rfl ?_
    refine V_iand (c := cI) i145_81.1 (mM_n i145_81.2)  ?_
    refine V_iastore (c := cI) (x1 := ((x2 >>> (((3 : Int32) * x3) &&& 31)) &&& 7)) i145_82.1 (mM_n i145_82.2) rfl rfl rfl rfl (fun _ => ?_)
    refine V_iinc (c := cI) i145_83.1 (mM_n i145_83.2) (l1 := [some (.ref 55), some (.int x1), some (.int x2), some (.int (x3 + 1))]) rfl rfl rfl ?_
    refine V_goto (c := cI) i145_86.1 (mM_n i145_86.2) rfl ?_
    exact V_msk (l1 := [some (.ref 55), some (.int x1), some (.int x2), some (.int (x3 + 1))]) i145_47.2 rfl rfl
theorem k_Mod_mayGo_101_eq {xs0 : Int32}  {S : Mem} : k_Mod_mayGo_101 xs0 S = if zb xs0 = true then some (xs0, S) else none := by
  show cI (mV oS X0 145 101 [none, none, none, none] [.int xs0] S) = _
  exact V_iretZ i145_101.1 (mM_s i145_101.2 rfl) rfl
theorem f_Mod_codeOf_eq {x1 : Int32}  {S : Mem} : f_Mod_codeOf x1 S = k_Mod_codeOf_9 x1 0 ((S.1 55 7) - 1) S := by
  show cI (mV oS X0 146 0 [some (.ref 55), some (.int x1), none, none] [] S) = _
  refine V_iconst (c := cI) i146_0.1 (mM_n i146_0.2) (v := 0) rfl ?_
  refine V_istore_n (c := cI) i146_1.1 (mM_n i146_1.2) (l1 := [some (.ref 55), some (.int x1), some (.int 0), none])  (Nat.le_of_ble_eq_true rfl) rfl ?_
  refine V_aload_n (c := cI) i146_2.1 (mM_n i146_2.2) rfl rfl ?_
  refine V_gf (c := cI) i146_3.1 (mM_n i146_3.2) (v := .int (S.1 55 7)) g146_152 rfl ?_
  refine V_iconst (c := cI) i146_6.1 (mM_n i146_6.2) (v := 1) rfl ?_
  refine V_isub (c := cI) i146_7.1 (mM_n i146_7.2)  ?_
  refine V_istore_n (c := cI) i146_8.1 (mM_n i146_8.2) (l1 := [some (.ref 55), some (.int x1), some (.int 0), some (.int ((S.1 55 7) - 1))])  (Nat.le_of_ble_eq_true rfl) rfl ?_
  exact V_msk (l1 := [some (.ref 55), some (.int x1), some (.int 0), some (.int ((S.1 55 7) - 1))]) i146_9.2 rfl rfl
theorem k_Mod_codeOf_9_eq {x1 : Int32} {x2 : Int32} {x3 : Int32}  {S : Mem} : k_Mod_codeOf_9 x1 x2 x3 S = if x3 < 0 then some (x2, S) else if x1 = 0 then if inb x3 5 = true then k_Mod_codeOf_36 x1 x3 (S.1 60 (x3.toNatClampNeg)) ((8 : Int32) * x2) S else none else if inb x3 5 = true then k_Mod_codeOf_36 x1 x3 (S.1 61 (x3.toNatClampNeg)) ((8 : Int32) * x2) S else none := by
  show cI (mV oS X0 146 9 [some (.ref 55), some (.int x1), some (.int x2), some (.int x3)] [] S) = _
  refine V_iload_n (c := cI) i146_9.1 (mM_s i146_9.2 rfl) rfl ?_
  refine V_if_lt (c := cI) i146_10.1 (mM_n i146_10.2) rfl (fun _ => ?_) (fun _ => ?_)
  · refine V_iload_n (c := cI) i146_44.1 (mM_n i146_44.2) rfl ?_
    exact V_iret i146_45.1 (mM_n i146_45.2) rfl
  · refine V_bipush (c := cI) i146_13.1 (mM_n i146_13.2) (v := 8) rfl ?_
    refine V_iload_n (c := cI) i146_15.1 (mM_n i146_15.2) rfl ?_
    refine V_imul (c := cI) i146_16.1 (mM_n i146_16.2)  ?_
    refine V_iload_n (c := cI) i146_17.1 (mM_n i146_17.2) rfl ?_
    refine V_if_eq (c := cI) i146_18.1 (mM_n i146_18.2) rfl (fun _ => ?_) (fun _ => ?_)
    · refine V_aload_n (c := cI) i146_30.1 (mM_n i146_30.2) rfl rfl ?_
      refine V_gf (c := cI) i146_31.1 (mM_n i146_31.2) (v := .ref 60) g146_23 rfl ?_
      refine V_iload_n (c := cI) i146_34.1 (mM_n i146_34.2) rfl ?_
      refine V_iaload (c := cI) i146_35.1 (mM_n i146_35.2) rfl rfl (fun _ => ?_)
      exact V_msk (l1 := [some (.ref 55), some (.int x1), none, some (.int x3)]) i146_36.2 rfl rfl
    · refine V_aload_n (c := cI) i146_21.1 (mM_n i146_21.2) rfl rfl ?_
      refine V_gf (c := cI) i146_22.1 (mM_n i146_22.2) (v := .ref 61) g146_26 rfl ?_
      refine V_iload_n (c := cI) i146_25.1 (mM_n i146_25.2) rfl ?_
      refine V_iaload (c := cI) i146_26.1 (mM_n i146_26.2) rfl rfl (fun _ => ?_)
      refine V_goto (c := cI) i146_27.1 (mM_n i146_27.2) rfl ?_
      exact V_msk (l1 := [some (.ref 55), some (.int x1), none, some (.int x3)]) i146_36.2 rfl rfl
theorem k_Mod_codeOf_36_eq {x1 : Int32} {x3 : Int32} {xs0 : Int32} {xs1 : Int32}  {S : Mem} : k_Mod_codeOf_36 x1 x3 xs0 xs1 S = k_Mod_codeOf_9 x1 (xs1 + xs0) (x3 + (-1)) S := by
  show cI (mV oS X0 146 36 [some (.ref 55), some (.int x1), none, some (.int x3)] [.int xs0, .int xs1] S) = _
  refine V_iadd (c := cI) i146_36.1 (mM_s i146_36.2 rfl)  ?_
  refine V_istore_n (c := cI) i146_37.1 (mM_n i146_37.2) (l1 := [some (.ref 55), some (.int x1), some (.int (xs1 + xs0)), some (.int x3)])  (Nat.le_of_ble_eq_true rfl) rfl ?_
  refine V_iinc (c := cI) i146_38.1 (mM_n i146_38.2) (l1 := [some (.ref 55), some (.int x1), some (.int (xs1 + xs0)), some (.int (x3 + (-1)))]) rfl rfl rfl ?_
  refine V_goto (c := cI) i146_41.1 (mM_n i146_41.2) rfl ?_
  exact V_msk (l1 := [some (.ref 55), some (.int x1), some (.int (xs1 + xs0)), some (.int (x3 + (-1)))]) i146_9.2 rfl rfl
theorem f_Mod_soonestOf_eq   {S : Mem} : f_Mod_soonestOf  S = bI (f_Mod_codeOf 0 S) (fun r11 S10 => bI (f_Mod_codeOf 1 S10) (fun r13 S12 => bU (f_Mod_save S12) (fun S14 => bU (f_Mod_layNear S14) (fun S15 => k_Mod_soonestOf_32 r11 r13 ((1 : Int32) <<< (((3 : Int32) * (S12.1 55 7)) &&& 31)) 0 S15)))) := by
  show cI (mV oS X0 147 0 [some (.ref 55), none, none, none, none, none, none] [] S) = _
  refine V_aload_n (c := cI) i147_0.1 (mM_n i147_0.2) rfl rfl ?_
  refine V_iconst (c := cI) i147_1.1 (mM_n i147_1.2) (v := 0) rfl ?_
  refine V_cvI (c := cI) (As := [.int 0]) (rest := []) i147_2.1 (mM_n i147_2.2) c147_224 rfl rfl rfl rfl (Nat.le_of_ble_eq_true rfl) rfl (fun r11 S10 => ?_)
  refine V_istore_n (c := cI) i147_5.1 (mM_n i147_5.2) (l1 := [some (.ref 55), some (.int r11), none, none, none, none, none])  (Nat.le_of_ble_eq_true rfl) rfl ?_
  refine V_aload_n (c := cI) i147_6.1 (mM_n i147_6.2) rfl rfl ?_
  refine V_iconst (c := cI) i147_7.1 (mM_n i147_7.2) (v := 1) rfl ?_
  refine V_cvI (c := cI) (As := [.int 1]) (rest := []) i147_8.1 (mM_n i147_8.2) c147_224 rfl rfl rfl rfl (Nat.le_of_ble_eq_true rfl) rfl (fun r13 S12 => ?_)
  refine V_istore_n (c := cI) i147_11.1 (mM_n i147_11.2) (l1 := [some (.ref 55), some (.int r11), some (.int r13), none, none, none, none])  (Nat.le_of_ble_eq_true rfl) rfl ?_
  refine V_iconst (c := cI) i147_12.1 (mM_n i147_12.2) (v := 1) rfl ?_
  refine V_iconst (c := cI) i147_13.1 (mM_n i147_13.2) (v := 3) rfl ?_
  refine V_aload_n (c := cI) i147_14.1 (mM_n i147_14.2) rfl rfl ?_
  refine V_gf (c := cI) i147_15.1 (mM_n i147_15.2) (v := .int (S12.1 55 7)) g147_152 rfl ?_
  refine V_imul (c := cI) i147_18.1 (mM_n i147_18.2)  ?_
  refine V_ishl (c := cI) i147_19.1 (mM_n i147_19.2)  ?_
  refine V_istore_n (c := cI) i147_20.1 (mM_n i147_20.2) (l1 := [some (.ref 55), some (.int r11), some (.int r13), some (.int ((1 : Int32) <<< (((3 : Int32) * (S12.1 55 7)) &&& 31))), none, none, none])  (Nat.le_of_ble_eq_true rfl) rfl ?_
  refine V_aload_n (c := cI) i147_21.1 (mM_n i147_21.2) rfl rfl ?_
  refine V_cvU (c := cI) (As := []) (rest := []) i147_22.1 (mM_n i147_22.2) c147_202 rfl rfl rfl rfl (Nat.le_of_ble_eq_true rfl) rfl (fun S14 => ?_)
  refine V_aload_n (c := cI) i147_25.1 (mM_n i147_25.2) rfl rfl ?_
  refine V_cvU (c := cI) (As := []) (rest := []) i147_26.1 (mM_n i147_26.2) c147_228 rfl rfl rfl rfl (Nat.le_of_ble_eq_true rfl) rfl (fun S15 => ?_)
  refine V_iconst (c := cI) i147_29.1 (mM_n i147_29.2) (v := 0) rfl ?_
  refine V_istore (c := cI) i147_30.1 (mM_n i147_30.2) (l1 := [some (.ref 55), some (.int r11), some (.int r13), some (.int ((1 : Int32) <<< (((3 : Int32) * (S12.1 55 7)) &&& 31))), some (.int 0), none, none])  (Nat.le_of_ble_eq_true rfl) rfl ?_
  exact V_msk (l1 := [some (.ref 55), some (.int r11), some (.int r13), some (.int ((1 : Int32) <<< (((3 : Int32) * (S12.1 55 7)) &&& 31))), some (.int 0), none, none]) i147_32.2 rfl rfl
theorem k_Mod_soonestOf_32_eq {x1 : Int32} {x2 : Int32} {x3 : Int32} {x4 : Int32}  {S : Mem} : k_Mod_soonestOf_32 x1 x2 x3 x4 S = if x3 ≤ x4 then if inb x2 512 = true then k_Mod_soonestOf_72 x1 x3 1 0 (u1 (u1 S 75 x2.toNatClampNeg 0) 76 0 x2) else none else if inb x4 512 = true then k_Mod_soonestOf_32 x1 x2 x3 (x4 + 1) (u1 S 75 x4.toNatClampNeg (-1)) else none := by
  show cI (mV oS X0 147 32 [some (.ref 55), some (.int x1), some (.int x2), some (.int x3), some (.int x4), none, none] [] S) = _
  refine V_iload (c := cI) i147_32.1 (mM_s i147_32.2 rfl) rfl ?_
  refine V_iload_n (c := cI) i147_34.1 (mM_n i147_34.2) rfl ?_
  refine V_icmp_ge (c := cI) i147_35.1 (mM_n i147_35.2) rfl (fun _ => ?_) (fun _ => ?_)
  · refine V_aload_n (c := cI) i147_52.1 (mM_n i147_52.2) rfl rfl ?_
    refine V_gf (c := cI) i147_53.1 (mM_n i147_53.2) (v := .ref 75) g147_69 rfl ?_
    refine V_iload_n (c := cI) i147_56.1 (mM_n i147_56.2) rfl ?_
    refine V_iconst (c := cI) i147_57.1 (mM_n i147_57.2) (v := 0) rfl ?_
    refine V_iastore (c := cI) (x1 := 0) i147_58.1 (mM_n i147_58.2) rfl rfl rfl rfl (fun _ => ?_)
    refine V_aload_n (c := cI) i147_59.1 (mM_n i147_59.2) rfl rfl ?_
    refine V_gf (c := cI) i147_60.1 (mM_n i147_60.2) (v := .ref 76) g147_72 rfl ?_
    refine V_iconst (c := cI) i147_63.1 (mM_n i147_63.2) (v := 0) rfl ?_
    refine V_iload_n (c := cI) i147_64.1 (mM_n i147_64.2) rfl ?_
    refine V_iastoreL (c := cI) i147_65.1 (mM_n i147_65.2) (x1 := x2) rfl rfl rfl rfl (by decide) rfl ?_
    refine V_iconst (c := cI) i147_66.1 (mM_n i147_66.2) (v := 1) rfl ?_
    refine V_istore (c := cI) i147_67.1 (mM_n i147_67.2) (l1 := [some (.ref 55), some (.int x1), some (.int x2), some (.int x3), some (.int 1), none, none])  (Nat.le_of_ble_eq_true rfl) rfl ?_
    refine V_iconst (c := cI) i147_69.1 (mM_n i147_69.2) (v := 0) rfl ?_
    refine V_istore (c := cI) i147_70.1 (mM_n i147_70.2) (l1 := [some (.ref 55), some (.int x1), some (.int x2), some (.int x3), some (.int 1), some (.int 0), none])  (Nat.le_of_ble_eq_true rfl) rfl ?_
    exact V_msk (l1 := [some (.ref 55), some (.int x1), none, some (.int x3), some (.int 1), some (.int 0), none]) i147_72.2 rfl rfl
  · refine V_aload_n (c := cI) i147_38.1 (mM_n i147_38.2) rfl rfl ?_
    refine V_gf (c := cI) i147_39.1 (mM_n i147_39.2) (v := .ref 75) g147_69 rfl ?_
    refine V_iload (c := cI) i147_42.1 (mM_n i147_42.2) rfl ?_
    refine V_iconst (c := cI) i147_44.1 (mM_n i147_44.2) (v := (-1)) rfl ?_
    refine V_iastore (c := cI) (x1 := (-1)) i147_45.1 (mM_n i147_45.2) rfl rfl rfl rfl (fun _ => ?_)
    refine V_iinc (c := cI) i147_46.1 (mM_n i147_46.2) (l1 := [some (.ref 55), some (.int x1), some (.int x2), some (.int x3), some (.int (x4 + 1)), none, none]) rfl rfl rfl ?_
    refine V_goto (c := cI) i147_49.1 (mM_n i147_49.2) rfl ?_
    exact V_msk (l1 := [some (.ref 55), some (.int x1), some (.int x2), some (.int x3), some (.int (x4 + 1)), none, none]) i147_32.2 rfl rfl
theorem k_Mod_soonestOf_72_eq {x1 : Int32} {x3 : Int32} {x4 : Int32} {x5 : Int32}  {S : Mem} : k_Mod_soonestOf_72 x1 x3 x4 x5 S = if x4 ≤ x5 then k_Mod_soonestOf_187 x1 S else if inb x1 512 = true then if (S.1 75 (x1.toNatClampNeg)) = (-1) then if inb x5 512 = true then if inb (S.1 76 (x5.toNatClampNeg)) 512 = true then if 30 ≤ (S.1 75 ((S.1 76 (x5.toNatClampNeg)).toNatClampNeg)) then k_Mod_soonestOf_187 x1 S else k_Mod_soonestOf_109 x1 x3 x4 x5 0 S else none else none else k_Mod_soonestOf_187 x1 S else none := by
  show cI (mV oS X0 147 72 [some (.ref 55), some (.int x1), none, some (.int x3), some (.int x4), some (.int x5), none] [] S) = _
  refine V_iload (c := cI) i147_72.1 (mM_s i147_72.2 rfl) rfl ?_
  refine V_iload (c := cI) i147_74.1 (mM_n i147_74.2) rfl ?_
  refine V_icmp_ge (c := cI) i147_76.1 (mM_n i147_76.2) rfl (fun _ => ?_) (fun _ => ?_)
  · exact V_msk (l1 := [some (.ref 55), some (.int x1), none, none, none, none, none]) i147_187.2 rfl rfl
  · refine V_aload_n (c := cI) i147_79.1 (mM_n i147_79.2) rfl rfl ?_
    refine V_gf (c := cI) i147_80.1 (mM_n i147_80.2) (v := .ref 75) g147_69 rfl ?_
    refine V_iload_n (c := cI) i147_83.1 (mM_n i147_83.2) rfl ?_
    refine V_iaload (c := cI) i147_84.1 (mM_n i147_84.2) rfl rfl (fun _ => ?_)
    refine V_iconst (c := cI) i147_85.1 (mM_n i147_85.2) (v := (-1)) rfl ?_
    refine V_icmp_ne (c := cI) i147_86.1 (mM_n i147_86.2) rfl (fun _ => ?_) (fun _ => ?_)
    · refine V_aload_n (c := cI) i147_89.1 (mM_n i147_89.2) rfl rfl ?_
      refine V_gf (c := cI) i147_90.1 (mM_n i147_90.2) (v := .ref 75) g147_69 rfl ?_
      refine V_aload_n (c := cI) i147_93.1 (mM_n i147_93.2) rfl rfl ?_
      refine V_gf (c := cI) i147_94.1 (mM_n i147_94.2) (v := .ref 76) g147_72 rfl ?_
      refine V_iload (c := cI) i147_97.1 (mM_n i147_97.2) rfl ?_
      refine V_iaload (c := cI) i147_99.1 (mM_n i147_99.2) rfl rfl (fun _ => ?_)
      refine V_iaload (c := cI) i147_100.1 (mM_n i147_100.2) rfl rfl (fun _ => ?_)
      refine V_bipush (c := cI) i147_101.1 (mM_n i147_101.2) (v := 30) rfl ?_
      refine V_icmp_ge (c := cI) i147_103.1 (mM_n i147_103.2) rfl (fun _ => ?_) (fun _ => ?_)
      · exact V_msk (l1 := [some (.ref 55), some (.int x1), none, none, none, none, none]) i147_187.2 rfl rfl
      · refine V_iconst (c := cI) i147_106.1 (mM_n i147_106.2) (v := 0) rfl ?_
        refine V_istore (c := cI) i147_107.1 (mM_n i147_107.2) (l1 := [some (.ref 55), some (.int x1), none, some (.int x3), some (.int x4), some (.int x5), some (.int 0)])  (Nat.le_of_ble_eq_true rfl) rfl ?_
        exact V_msk (l1 := [some (.ref 55), some (.int x1), none, some (.int x3), some (.int x4), some (.int x5), some (.int 0)]) i147_109.2 rfl rfl
    · exact V_msk (l1 := [some (.ref 55), some (.int x1), none, none, none, none, none]) i147_187.2 rfl rfl
theorem k_Mod_soonestOf_109_eq {x1 : Int32} {x3 : Int32} {x4 : Int32} {x5 : Int32} {x6 : Int32}  {S : Mem} : k_Mod_soonestOf_109 x1 x3 x4 x5 x6 S = if x3 ≤ x6 then k_Mod_soonestOf_72 x1 x3 x4 (x5 + 1) S else if inb x6 512 = true then if (S.1 75 (x6.toNatClampNeg)) = (-1) then if inb x5 512 = true then bI (f_Mod_mayGo x6 (S.1 76 (x5.toNatClampNeg)) S) (fun r17 S16 => if r17 = 0 then k_Mod_soonestOf_175 x1 x3 x4 x5 x6 S16 else if inb x5 512 = true then if inb (S16.1 76 (x5.toNatClampNeg)) 512 = true then if inb x6 512 = true then if inb x4 512 = true then k_Mod_soonestOf_175 x1 x3 (x4 + 1) x5 x6 (u1 (u1 S16 75 x6.toNatClampNeg ((S16.1 75 ((S16.1 76 (x5.toNatClampNeg)).toNatClampNeg)) + 1)) 76 x4.toNatClampNeg x6) else none else none else none else none) else none else k_Mod_soonestOf_175 x1 x3 x4 x5 x6 S else none := by
  show cI (mV oS X0 147 109 [some (.ref 55), some (.int x1), none, some (.int x3), some (.int x4), some (.int x5), some (.int x6)] [] S) = _
  refine V_iload (c := cI) i147_109.1 (mM_s i147_109.2 rfl) rfl ?_
  refine V_iload_n (c := cI) i147_111.1 (mM_n i147_111.2) rfl ?_
  refine V_icmp_ge (c := cI) i147_112.1 (mM_n i147_112.2) rfl (fun _ => ?_) (fun _ => ?_)
  · refine V_iinc (c := cI) i147_181.1 (mM_n i147_181.2) (l1 := [some (.ref 55), some (.int x1), none, some (.int x3), some (.int x4), some (.int (x5 + 1)), some (.int x6)]) rfl rfl rfl ?_
    refine V_goto (c := cI) i147_184.1 (mM_n i147_184.2) rfl ?_
    exact V_msk (l1 := [some (.ref 55), some (.int x1), none, some (.int x3), some (.int x4), some (.int (x5 + 1)), none]) i147_72.2 rfl rfl
  · refine V_aload_n (c := cI) i147_115.1 (mM_n i147_115.2) rfl rfl ?_
    refine V_gf (c := cI) i147_116.1 (mM_n i147_116.2) (v := .ref 75) g147_69 rfl ?_
    refine V_iload (c := cI) i147_119.1 (mM_n i147_119.2) rfl ?_
    refine V_iaload (c := cI) i147_121.1 (mM_n i147_121.2) rfl rfl (fun _ => ?_)
    refine V_iconst (c := cI) i147_122.1 (mM_n i147_122.2) (v := (-1)) rfl ?_
    refine V_icmp_ne (c := cI) i147_123.1 (mM_n i147_123.2) rfl (fun _ => ?_) (fun _ => ?_)
    · refine V_aload_n (c := cI) i147_126.1 (mM_n i147_126.2) rfl rfl ?_
      refine V_iload (c := cI) i147_127.1 (mM_n i147_127.2) rfl ?_
      refine V_aload_n (c := cI) i147_129.1 (mM_n i147_129.2) rfl rfl ?_
      refine V_gf (c := cI) i147_130.1 (mM_n i147_130.2) (v := .ref 76) g147_72 rfl ?_
      refine V_iload (c := cI) i147_133.1 (mM_n i147_133.2) rfl ?_
      refine V_iaload (c := cI) i147_135.1 (mM_n i147_135.2) rfl rfl (fun _ => ?_)
      refine V_cvI (c := cI) (As := [.int x6, .int (S.1 76 (x5.toNatClampNeg))]) (rest := []) i147_136.1 (mM_n i147_136.2) c147_231 rfl rfl rfl rfl (Nat.le_of_ble_eq_true rfl) rfl (fun r17 S16 => ?_)
      refine V_if_eq (c := cI) i147_139.1 (mM_n i147_139.2) rfl (fun _ => ?_) (fun _ => ?_)
      · exact V_msk (l1 := [some (.ref 55), some (.int x1), none, some (.int x3), some (.int x4), some (.int x5), some (.int x6)]) i147_175.2 rfl rfl
      · refine V_aload_n (c := cI) i147_142.1 (mM_n i147_142.2) rfl rfl ?_
        refine V_gf (c := cI) i147_143.1 (mM_n i147_143.2) (v := .ref 75) g147_69 rfl ?_
        refine V_iload (c := cI) i147_146.1 (mM_n i147_146.2) rfl ?_
        refine V_aload_n (c := cI) i147_148.1 (mM_n i147_148.2) rfl rfl ?_
        refine V_gf (c := cI) i147_149.1 (mM_n i147_149.2) (v := .ref 75) g147_69 rfl ?_
        refine V_aload_n (c := cI) i147_152.1 (mM_n i147_152.2) rfl rfl ?_
        refine V_gf (c := cI) i147_153.1 (mM_n i147_153.2) (v := .ref 76) g147_72 rfl ?_
        refine V_iload (c := cI) i147_156.1 (mM_n i147_156.2) rfl ?_
        refine V_iaload (c := cI) i147_158.1 (mM_n i147_158.2) rfl rfl (fun _ => ?_)
        refine V_iaload (c := cI) i147_159.1 (mM_n i147_159.2) rfl rfl (fun _ => ?_)
        refine V_iconst (c := cI) i147_160.1 (mM_n i147_160.2) (v := 1) rfl ?_
        refine V_iadd (c := cI) i147_161.1 (mM_n i147_161.2)  ?_
        refine V_iastore (c := cI) (x1 := ((S16.1 75 ((S16.1 76 (x5.toNatClampNeg)).toNatClampNeg)) + 1)) i147_162.1 (mM_n i147_162.2) rfl rfl rfl rfl (fun _ => ?_)
        refine V_aload_n (c := cI) i147_163.1 (mM_n i147_163.2) rfl rfl ?_
        refine V_gf (c := cI) i147_164.1 (mM_n i147_164.2) (v := .ref 76) g147_72 rfl ?_
        refine V_iload (c := cI) i147_167.1 (mM_n i147_167.2) rfl ?_
        refine V_iload (c := cI) i147_169.1 (mM_n i147_169.2) rfl ?_
        refine V_iastore (c := cI) (x1 := x6) i147_171.1 (mM_n i147_171.2) rfl rfl rfl rfl (fun _ => ?_)
        refine V_iinc (c := cI) i147_172.1 (mM_n i147_172.2) (l1 := [some (.ref 55), some (.int x1), none, some (.int x3), some (.int (x4 + 1)), some (.int x5), some (.int x6)]) rfl rfl rfl ?_
        exact V_msk (l1 := [some (.ref 55), some (.int x1), none, some (.int x3), some (.int (x4 + 1)), some (.int x5), some (.int x6)]) i147_175.2 rfl rfl
    · exact V_msk (l1 := [some (.ref 55), some (.int x1), none, some (.int x3), some (.int x4), some (.int x5), some (.int x6)]) i147_175.2 rfl rfl
theorem k_Mod_soonestOf_175_eq {x1 : Int32} {x3 : Int32} {x4 : Int32} {x5 : Int32} {x6 : Int32}  {S : Mem} : k_Mod_soonestOf_175 x1 x3 x4 x5 x6 S = k_Mod_soonestOf_109 x1 x3 x4 x5 (x6 + 1) S := by
  show cI (mV oS X0 147 175 [some (.ref 55), some (.int x1), none, some (.int x3), some (.int x4), some (.int x5), some (.int x6)] [] S) = _
  refine V_iinc (c := cI) i147_175.1 (mM_s i147_175.2 rfl) (l1 := [some (.ref 55), some (.int x1), none, some (.int x3), some (.int x4), some (.int x5), some (.int (x6 + 1))]) rfl rfl rfl ?_
  refine V_goto (c := cI) i147_178.1 (mM_n i147_178.2) rfl ?_
  exact V_msk (l1 := [some (.ref 55), some (.int x1), none, some (.int x3), some (.int x4), some (.int x5), some (.int (x6 + 1))]) i147_109.2 rfl rfl
theorem k_Mod_soonestOf_187_eq {x1 : Int32}  {S : Mem} : k_Mod_soonestOf_187 x1 S = bU (f_Mod_back S) (fun S18 => if inb x1 512 = true then some ((S18.1 75 (x1.toNatClampNeg)), S18) else none) := by
  show cI (mV oS X0 147 187 [some (.ref 55), some (.int x1), none, none, none, none, none] [] S) = _
  refine V_aload_n (c := cI) i147_187.1 (mM_s i147_187.2 rfl) rfl rfl ?_
  refine V_cvU (c := cI) (As := []) (rest := []) i147_188.1 (mM_n i147_188.2) c147_215 rfl rfl rfl rfl (Nat.le_of_ble_eq_true rfl) rfl (fun S18 => ?_)
  refine V_aload_n (c := cI) i147_191.1 (mM_n i147_191.2) rfl rfl ?_
  refine V_gf (c := cI) i147_192.1 (mM_n i147_192.2) (v := .ref 75) g147_69 rfl ?_
  refine V_iload_n (c := cI) i147_195.1 (mM_n i147_195.2) rfl ?_
  refine V_iaload (c := cI) i147_196.1 (mM_n i147_196.2) rfl rfl (fun _ => ?_)
  exact V_iret i147_197.1 (mM_n i147_197.2) rfl
theorem f_Mod_stepOf_eq {x1 : Int32}  {S : Mem} : f_Mod_stepOf x1 S = bI (f_Mod_codeOf 0 S) (fun r8 S7 => bU (f_Mod_save S7) (fun S9 => k_Mod_stepOf_29 x1 r8 ((1 : Int32) <<< (((3 : Int32) * (S7.1 55 7)) &&& 31)) (-1) 1048576 0 S9)) := by
  show cI (mV oS X0 148 0 [some (.ref 55), some (.int x1), none, none, none, none, none, none] [] S) = _
  refine V_aload_n (c := cI) i148_0.1 (mM_n i148_0.2) rfl rfl ?_
  refine V_iconst (c := cI) i148_1.1 (mM_n i148_1.2) (v := 0) rfl ?_
  refine V_cvI (c := cI) (As := [.int 0]) (rest := []) i148_2.1 (mM_n i148_2.2) c148_224 rfl rfl rfl rfl (Nat.le_of_ble_eq_true rfl) rfl (fun r8 S7 => ?_)
  refine V_istore_n (c := cI) i148_5.1 (mM_n i148_5.2) (l1 := [some (.ref 55), some (.int x1), some (.int r8), none, none, none, none, none])  (Nat.le_of_ble_eq_true rfl) rfl ?_
  refine V_iconst (c := cI) i148_6.1 (mM_n i148_6.2) (v := 1) rfl ?_
  refine V_iconst (c := cI) i148_7.1 (mM_n i148_7.2) (v := 3) rfl ?_
  refine V_aload_n (c := cI) i148_8.1 (mM_n i148_8.2) rfl rfl ?_
  refine V_gf (c := cI) i148_9.1 (mM_n i148_9.2) (v := .int (S7.1 55 7)) g148_152 rfl ?_
  refine V_imul (c := cI) i148_12.1 (mM_n i148_12.2)  ?_
  refine V_ishl (c := cI) i148_13.1 (mM_n i148_13.2)  ?_
  refine V_istore_n (c := cI) i148_14.1 (mM_n i148_14.2) (l1 := [some (.ref 55), some (.int x1), some (.int r8), some (.int ((1 : Int32) <<< (((3 : Int32) * (S7.1 55 7)) &&& 31))), none, none, none, none])  (Nat.le_of_ble_eq_true rfl) rfl ?_
  refine V_iconst (c := cI) i148_15.1 (mM_n i148_15.2) (v := (-1)) rfl ?_
  refine V_istore (c := cI) i148_16.1 (mM_n i148_16.2) (l1 := [some (.ref 55), some (.int x1), some (.int r8), some (.int ((1 : Int32) <<< (((3 : Int32) * (S7.1 55 7)) &&& 31))), some (.int (-1)), none, none, none])  (Nat.le_of_ble_eq_true rfl) rfl ?_
  refine V_ldc (c := cI) i148_18.1 (mM_n i148_18.2) q148_234 ?_
  refine V_istore (c := cI) i148_20.1 (mM_n i148_20.2) (l1 := [some (.ref 55), some (.int x1), some (.int r8), some (.int ((1 : Int32) <<< (((3 : Int32) * (S7.1 55 7)) &&& 31))), some (.int (-1)), some (.int 1048576), none, none])  (Nat.le_of_ble_eq_true rfl) rfl ?_
  refine V_aload_n (c := cI) i148_22.1 (mM_n i148_22.2) rfl rfl ?_
  refine V_cvU (c := cI) (As := []) (rest := []) i148_23.1 (mM_n i148_23.2) c148_202 rfl rfl rfl rfl (Nat.le_of_ble_eq_true rfl) rfl (fun S9 => ?_)
  refine V_iconst (c := cI) i148_26.1 (mM_n i148_26.2) (v := 0) rfl ?_
  refine V_istore (c := cI) i148_27.1 (mM_n i148_27.2) (l1 := [some (.ref 55), some (.int x1), some (.int r8), some (.int ((1 : Int32) <<< (((3 : Int32) * (S7.1 55 7)) &&& 31))), some (.int (-1)), some (.int 1048576), some (.int 0), none])  (Nat.le_of_ble_eq_true rfl) rfl ?_
  exact V_msk (l1 := [some (.ref 55), some (.int x1), some (.int r8), some (.int ((1 : Int32) <<< (((3 : Int32) * (S7.1 55 7)) &&& 31))), some (.int (-1)), some (.int 1048576), some (.int 0), none]) i148_29.2 rfl rfl
theorem k_Mod_stepOf_29_eq {x1 : Int32} {x2 : Int32} {x3 : Int32} {x4 : Int32} {x5 : Int32} {x6 : Int32}  {S : Mem} : k_Mod_stepOf_29 x1 x2 x3 x4 x5 x6 S = if x3 ≤ x6 then bU (f_Mod_back S) (fun S10 => some (x4, S10)) else if inb x6 512 = true then if (S.1 75 (x6.toNatClampNeg)) = (x1 - 1) then if x5 ≤ ((((x6 &&& 7) * 64) + (((x6 >>> ((3 : Int32) &&& 31)) &&& 7) * 8)) + ((x6 >>> ((6 : Int32) &&& 31)) &&& 7)) then k_Mod_stepOf_103 x1 x2 x3 x4 x5 x6 S else bI (f_Mod_mayGo x2 x6 S) (fun r12 S11 => if r12 = 0 then k_Mod_stepOf_103 x1 x2 x3 x4 x5 x6 S11 else k_Mod_stepOf_103 x1 x2 x3 x6 ((((x6 &&& 7) * 64) + (((x6 >>> ((3 : Int32) &&& 31)) &&& 7) * 8)) + ((x6 >>> ((6 : Int32) &&& 31)) &&& 7)) x6 S11) else k_Mod_stepOf_103 x1 x2 x3 x4 x5 x6 S else none := by
  show cI (mV oS X0 148 29 [some (.ref 55), some (.int x1), some (.int x2), some (.int x3), some (.int x4), some (.int x5), some (.int x6), none] [] S) = _
  refine V_iload (c := cI) i148_29.1 (mM_s i148_29.2 rfl) rfl ?_
  refine V_iload_n (c := cI) i148_31.1 (mM_n i148_31.2) rfl ?_
  refine V_icmp_ge (c := cI) i148_32.1 (mM_n i148_32.2) rfl (fun _ => ?_) (fun _ => ?_)
  · refine V_aload_n (c := cI) i148_109.1 (mM_n i148_109.2) rfl rfl ?_
    refine V_cvU (c := cI) (As := []) (rest := []) i148_110.1 (mM_n i148_110.2) c148_215 rfl rfl rfl rfl (Nat.le_of_ble_eq_true rfl) rfl (fun S10 => ?_)
    refine V_iload (c := cI) i148_113.1 (mM_n i148_113.2) rfl ?_
    exact V_iret i148_115.1 (mM_n i148_115.2) rfl
  · refine V_iload (c := cI) i148_35.1 (mM_n i148_35.2) rfl ?_
    refine V_bipush (c := cI) i148_37.1 (mM_n i148_37.2) (v := 7) rfl ?_
    refine V_iand (c := cI) i148_39.1 (mM_n i148_39.2)  ?_
    refine V_bipush (c := cI) i148_40.1 (mM_n i148_40.2) (v := 64) rfl ?_
    refine V_imul (c := cI) i148_42.1 (mM_n i148_42.2)  ?_
    refine V_iload (c := cI) i148_43.1 (mM_n i148_43.2) rfl ?_
    refine V_iconst (c := cI) i148_45.1 (mM_n i148_45.2) (v := 3) rfl ?_
    refine V_ishr (c := cI) i148_46.1 (mM_n i148_46.2)  ?_
    refine V_bipush (c := cI) i148_47.1 (mM_n i148_47.2) (v := 7) rfl ?_
    refine V_iand (c := cI) i148_49.1 (mM_n i148_49.2)  ?_
    refine V_bipush (c := cI) i148_50.1 (mM_n i148_50.2) (v := 8) rfl ?_
    refine V_imul (c := cI) i148_52.1 (mM_n i148_52.2)  ?_
    refine V_iadd (c := cI) i148_53.1 (mM_n i148_53.2)  ?_
    refine V_iload (c := cI) i148_54.1 (mM_n i148_54.2) rfl ?_
    refine V_bipush (c := cI) i148_56.1 (mM_n i148_56.2) (v := 6) rfl ?_
    refine V_ishr (c := cI) i148_58.1 (mM_n i148_58.2)  ?_
    refine V_bipush (c := cI) i148_59.1 (mM_n i148_59.2) (v := 7) rfl ?_
    refine V_iand (c := cI) i148_61.1 (mM_n i148_61.2)  ?_
    refine V_iadd (c := cI) i148_62.1 (mM_n i148_62.2)  ?_
    refine V_istore (c := cI) i148_63.1 (mM_n i148_63.2) (l1 := [some (.ref 55), some (.int x1), some (.int x2), some (.int x3), some (.int x4), some (.int x5), some (.int x6), some (.int ((((x6 &&& 7) * 64) + (((x6 >>> ((3 : Int32) &&& 31)) &&& 7) * 8)) + ((x6 >>> ((6 : Int32) &&& 31)) &&& 7)))])  (Nat.le_of_ble_eq_true rfl) rfl ?_
    refine V_aload_n (c := cI) i148_65.1 (mM_n i148_65.2) rfl rfl ?_
    refine V_gf (c := cI) i148_66.1 (mM_n i148_66.2) (v := .ref 75) g148_69 rfl ?_
    refine V_iload (c := cI) i148_69.1 (mM_n i148_69.2) rfl ?_
    refine V_iaload (c := cI) i148_71.1 (mM_n i148_71.2) rfl rfl (fun _ => ?_)
    refine V_iload_n (c := cI) i148_72.1 (mM_n i148_72.2) rfl ?_
    refine V_iconst (c := cI) i148_73.1 (mM_n i148_73.2) (v := 1) rfl ?_
    refine V_isub (c := cI) i148_74.1 (mM_n i148_74.2)  ?_
    refine V_icmp_ne (c := cI) i148_75.1 (mM_n i148_75.2) rfl (fun _ => ?_) (fun _ => ?_)
    · refine V_iload (c := cI) i148_78.1 (mM_n i148_78.2) rfl ?_
      refine V_iload (c := cI) i148_80.1 (mM_n i148_80.2) rfl ?_
      refine V_icmp_ge (c := cI) i148_82.1 (mM_n i148_82.2) rfl (fun _ => ?_) (fun _ => ?_)
      · exact V_msk (l1 := [some (.ref 55), some (.int x1), some (.int x2), some (.int x3), some (.int x4), some (.int x5), some (.int x6), none]) i148_103.2 rfl rfl
      · refine V_aload_n (c := cI) i148_85.1 (mM_n i148_85.2) rfl rfl ?_
        refine V_iload_n (c := cI) i148_86.1 (mM_n i148_86.2) rfl ?_
        refine V_iload (c := cI) i148_87.1 (mM_n i148_87.2) rfl ?_
        refine V_cvI (c := cI) (As := [.int x2, .int x6]) (rest := []) i148_89.1 (mM_n i148_89.2) c148_231 rfl rfl rfl rfl (Nat.le_of_ble_eq_true rfl) rfl (fun r12 S11 => ?_)
        refine V_if_eq (c := cI) i148_92.1 (mM_n i148_92.2) rfl (fun _ => ?_) (fun _ => ?_)
        · exact V_msk (l1 := [some (.ref 55), some (.int x1), some (.int x2), some (.int x3), some (.int x4), some (.int x5), some (.int x6), none]) i148_103.2 rfl rfl
        · refine V_iload (c := cI) i148_95.1 (mM_n i148_95.2) rfl ?_
          refine V_istore (c := cI) i148_97.1 (mM_n i148_97.2) (l1 := [some (.ref 55), some (.int x1), some (.int x2), some (.int x3), some (.int x6), some (.int x5), some (.int x6), some (.int ((((x6 &&& 7) * 64) + (((x6 >>> ((3 : Int32) &&& 31)) &&& 7) * 8)) + ((x6 >>> ((6 : Int32) &&& 31)) &&& 7)))])  (Nat.le_of_ble_eq_true rfl) rfl ?_
          refine V_iload (c := cI) i148_99.1 (mM_n i148_99.2) rfl ?_
          refine V_istore (c := cI) i148_101.1 (mM_n i148_101.2) (l1 := [some (.ref 55), some (.int x1), some (.int x2), some (.int x3), some (.int x6), some (.int ((((x6 &&& 7) * 64) + (((x6 >>> ((3 : Int32) &&& 31)) &&& 7) * 8)) + ((x6 >>> ((6 : Int32) &&& 31)) &&& 7))), some (.int x6), some (.int ((((x6 &&& 7) * 64) + (((x6 >>> ((3 : Int32) &&& 31)) &&& 7) * 8)) + ((x6 >>> ((6 : Int32) &&& 31)) &&& 7)))])  (Nat.le_of_ble_eq_true rfl) rfl ?_
          exact V_msk (l1 := [some (.ref 55), some (.int x1), some (.int x2), some (.int x3), some (.int x6), some (.int ((((x6 &&& 7) * 64) + (((x6 >>> ((3 : Int32) &&& 31)) &&& 7) * 8)) + ((x6 >>> ((6 : Int32) &&& 31)) &&& 7))), some (.int x6), none]) i148_103.2 rfl rfl
    · exact V_msk (l1 := [some (.ref 55), some (.int x1), some (.int x2), some (.int x3), some (.int x4), some (.int x5), some (.int x6), none]) i148_103.2 rfl rfl
theorem k_Mod_stepOf_103_eq {x1 : Int32} {x2 : Int32} {x3 : Int32} {x4 : Int32} {x5 : Int32} {x6 : Int32}  {S : Mem} : k_Mod_stepOf_103 x1 x2 x3 x4 x5 x6 S = k_Mod_stepOf_29 x1 x2 x3 x4 x5 (x6 + 1) S := by
  show cI (mV oS X0 148 103 [some (.ref 55), some (.int x1), some (.int x2), some (.int x3), some (.int x4), some (.int x5), some (.int x6), none] [] S) = _
  refine V_iinc (c := cI) i148_103.1 (mM_s i148_103.2 rfl) (l1 := [some (.ref 55), some (.int x1), some (.int x2), some (.int x3), some (.int x4), some (.int x5), some (.int (x6 + 1)), none]) rfl rfl rfl ?_
  refine V_goto (c := cI) i148_106.1 (mM_n i148_106.2) rfl ?_
  exact V_msk (l1 := [some (.ref 55), some (.int x1), some (.int x2), some (.int x3), some (.int x4), some (.int x5), some (.int (x6 + 1)), none]) i148_29.2 rfl rfl
theorem f_Mod_soonestNow_eq {x1 : Int32}  {S : Mem} : f_Mod_soonestNow x1 S = bI (f_Mod_soonestOf S) (fun r6 S5 => if r6 = (-1) then k_Mod_soonestNow_14 r6 S5 else if x1 = 0 then k_Mod_soonestNow_14 r6 S5 else if r6 = 0 then k_Mod_soonestNow_28 S5 else if x1 ≤ (S5.1 55 7) then bI (f_Mod_stepOf r6 S5) (fun r8 S7 => some (((r8 >>> (((3 : Int32) * (x1 - 1)) &&& 31)) &&& 7), S7)) else k_Mod_soonestNow_28 S5) := by
  show cI (mV oS X0 149 0 [some (.ref 55), some (.int x1), none] [] S) = _
  refine V_aload_n (c := cI) i149_0.1 (mM_n i149_0.2) rfl rfl ?_
  refine V_cvI (c := cI) (As := []) (rest := []) i149_1.1 (mM_n i149_1.2) c149_235 rfl rfl rfl rfl (Nat.le_of_ble_eq_true rfl) rfl (fun r6 S5 => ?_)
  refine V_istore_n (c := cI) i149_4.1 (mM_n i149_4.2) (l1 := [some (.ref 55), some (.int x1), some (.int r6)])  (Nat.le_of_ble_eq_true rfl) rfl ?_
  refine V_iload_n (c := cI) i149_5.1 (mM_n i149_5.2) rfl ?_
  refine V_iconst (c := cI) i149_6.1 (mM_n i149_6.2) (v := (-1)) rfl ?_
  refine V_icmp_eq (c := cI) i149_7.1 (mM_n i149_7.2) rfl (fun _ => ?_) (fun _ => ?_)
  · exact V_msk (l1 := [none, none, some (.int r6)]) i149_14.2 rfl rfl
  · refine V_iload_n (c := cI) i149_10.1 (mM_n i149_10.2) rfl ?_
    refine V_if_ne (c := cI) i149_11.1 (mM_n i149_11.2) rfl (fun _ => ?_) (fun _ => ?_)
    · exact V_msk (l1 := [none, none, some (.int r6)]) i149_14.2 rfl rfl
    · refine V_iload_n (c := cI) i149_16.1 (mM_n i149_16.2) rfl ?_
      refine V_if_eq (c := cI) i149_17.1 (mM_n i149_17.2) rfl (fun _ => ?_) (fun _ => ?_)
      · exact V_msk (l1 := [none, none, none]) i149_28.2 rfl rfl
      · refine V_iload_n (c := cI) i149_20.1 (mM_n i149_20.2) rfl ?_
        refine V_aload_n (c := cI) i149_21.1 (mM_n i149_21.2) rfl rfl ?_
        refine V_gf (c := cI) i149_22.1 (mM_n i149_22.2) (v := .int (S5.1 55 7)) g149_152 rfl ?_
        refine V_icmp_le (c := cI) i149_25.1 (mM_n i149_25.2) rfl (fun _ => ?_) (fun _ => ?_)
        · refine V_aload_n (c := cI) i149_30.1 (mM_n i149_30.2) rfl rfl ?_
          refine V_iload_n (c := cI) i149_31.1 (mM_n i149_31.2) rfl ?_
          refine V_cvI (c := cI) (As := [.int r6]) (rest := []) i149_32.1 (mM_n i149_32.2) c149_238 rfl rfl rfl rfl (Nat.le_of_ble_eq_true rfl) rfl (fun r8 S7 => ?_)
          refine V_iconst (c := cI) i149_35.1 (mM_n i149_35.2) (v := 3) rfl ?_
          refine V_iload_n (c := cI) i149_36.1 (mM_n i149_36.2) rfl ?_
          refine V_iconst (c := cI) i149_37.1 (mM_n i149_37.2) (v := 1) rfl ?_
          refine V_isub (c := cI) i149_38.1 (mM_n i149_38.2)  ?_
          refine V_imul (c := cI) i149_39.1 (mM_n i149_39.2)  ?_
          refine V_ishr (c := cI) i149_40.1 (mM_n i149_40.2)  ?_
          refine V_bipush (c := cI) i149_41.1 (mM_n i149_41.2) (v := 7) rfl ?_
          refine V_iand (c := cI) i149_43.1 (mM_n i149_43.2)  ?_
          exact V_iret i149_44.1 (mM_n i149_44.2) rfl
        · exact V_msk (l1 := [none, none, none]) i149_28.2 rfl rfl
theorem k_Mod_soonestNow_14_eq {x2 : Int32}  {S : Mem} : k_Mod_soonestNow_14 x2 S = some (x2, S) := by
  show cI (mV oS X0 149 14 [none, none, some (.int x2)] [] S) = _
  refine V_iload_n (c := cI) i149_14.1 (mM_s i149_14.2 rfl) rfl ?_
  exact V_iret i149_15.1 (mM_n i149_15.2) rfl
theorem k_Mod_soonestNow_28_eq   {S : Mem} : k_Mod_soonestNow_28  S = some ((-1), S) := by
  show cI (mV oS X0 149 28 [none, none, none] [] S) = _
  refine V_iconst (c := cI) i149_28.1 (mM_s i149_28.2 rfl) (v := (-1)) rfl ?_
  exact V_iret i149_29.1 (mM_n i149_29.2) rfl
theorem f_Mod_soonest_eq {x1 : Int32}  {S : Mem} : f_Mod_soonest x1 S = bI (f_Mod_within x1 0 3 S) (fun r8 S7 => if r8 = 0 then some ((-102), S7) else bI (f_Mod_within (S7.1 55 7) 1 3 S7) (fun r10 S9 => if r10 = 0 then k_Mod_soonest_33 S9 else if (S9.1 55 17) = 40 then k_Mod_soonest_33 S9 else bI (f_Mod_soonestNow x1 (u1 S9 55 17 ((S9.1 55 17) + 1))) (fun r12 S11 => some (r12, S11)))) := by
  show cI (mV oS X0 150 0 [some (.ref 55), some (.int x1)] [] S) = _
  refine V_iload_n (c := cI) i150_0.1 (mM_n i150_0.2) rfl ?_
  refine V_iconst (c := cI) i150_1.1 (mM_n i150_1.2) (v := 0) rfl ?_
  refine V_iconst (c := cI) i150_2.1 (mM_n i150_2.2) (v := 3) rfl ?_
  refine V_ciI (c := cI) (As := [.int x1, .int 0, .int 3]) (rest := []) i150_3.1 (mM_n i150_3.2) c150_105 rfl rfl rfl (Nat.le_of_ble_eq_true rfl) rfl (fun r8 S7 => ?_)
  refine V_if_ne (c := cI) i150_6.1 (mM_n i150_6.2) rfl (fun _ => ?_) (fun _ => ?_)
  · refine V_bipush (c := cI) i150_9.1 (mM_n i150_9.2) (v := (-102)) rfl ?_
    exact V_iret i150_11.1 (mM_n i150_11.2) rfl
  · refine V_aload_n (c := cI) i150_12.1 (mM_n i150_12.2) rfl rfl ?_
    refine V_gf (c := cI) i150_13.1 (mM_n i150_13.2) (v := .int (S7.1 55 7)) g150_152 rfl ?_
    refine V_iconst (c := cI) i150_16.1 (mM_n i150_16.2) (v := 1) rfl ?_
    refine V_iconst (c := cI) i150_17.1 (mM_n i150_17.2) (v := 3) rfl ?_
    refine V_ciI (c := cI) (As := [.int (S7.1 55 7), .int 1, .int 3]) (rest := []) i150_18.1 (mM_n i150_18.2) c150_105 rfl rfl rfl (Nat.le_of_ble_eq_true rfl) rfl (fun r10 S9 => ?_)
    refine V_if_eq (c := cI) i150_21.1 (mM_n i150_21.2) rfl (fun _ => ?_) (fun _ => ?_)
    · exact V_msk (l1 := [none, none]) i150_33.2 rfl rfl
    · refine V_aload_n (c := cI) i150_24.1 (mM_n i150_24.2) rfl rfl ?_
      refine V_gf (c := cI) i150_25.1 (mM_n i150_25.2) (v := .int (S9.1 55 17)) g150_241 rfl ?_
      refine V_bipush (c := cI) i150_28.1 (mM_n i150_28.2) (v := 40) rfl ?_
      refine V_icmp_ne (c := cI) i150_30.1 (mM_n i150_30.2) rfl (fun _ => ?_) (fun _ => ?_)
      · exact V_msk (l1 := [none, none]) i150_33.2 rfl rfl
      · refine V_aload_n (c := cI) i150_36.1 (mM_n i150_36.2) rfl rfl ?_
        refine V_dup (c := cI) i150_37.1 (mM_n i150_37.2) rfl ?_
        refine V_gf (c := cI) i150_38.1 (mM_n i150_38.2) (v := .int (S9.1 55 17)) g150_241 rfl ?_
        refine V_iconst (c := cI) i150_41.1 (mM_n i150_41.2) (v := 1) rfl ?_
        refine V_iadd (c := cI) i150_42.1 (mM_n i150_42.2)  ?_
        refine V_pf (c := cI) i150_43.1 (mM_n i150_43.2) p150_241 (pf_i rfl rfl rfl) ?_
        refine V_aload_n (c := cI) i150_46.1 (mM_n i150_46.2) rfl rfl ?_
        refine V_iload_n (c := cI) i150_47.1 (mM_n i150_47.2) rfl ?_
        refine V_cvI (c := cI) (As := [.int x1]) (rest := []) i150_48.1 (mM_n i150_48.2) c150_244 rfl rfl rfl rfl (Nat.le_of_ble_eq_true rfl) rfl (fun r12 S11 => ?_)
        exact V_iret i150_51.1 (mM_n i150_51.2) rfl
theorem k_Mod_soonest_33_eq   {S : Mem} : k_Mod_soonest_33  S = some ((-103), S) := by
  show cI (mV oS X0 150 33 [none, none] [] S) = _
  refine V_bipush (c := cI) i150_33.1 (mM_s i150_33.2 rfl) (v := (-103)) rfl ?_
  exact V_iret i150_35.1 (mM_n i150_35.2) rfl
theorem f_Mod_widerNow_eq {x1 : Int32}  {S : Mem} : f_Mod_widerNow x1 S = bI (f_Mod_soonestOf S) (fun r6 S5 => if r6 = (-1) then k_Mod_widerNow_16 x1 1048576 S5 else k_Mod_widerNow_16 x1 r6 S5) := by
  show cI (mV oS X0 151 0 [some (.ref 55), some (.int x1), none, none, none, none, none] [] S) = _
  refine V_aload_n (c := cI) i151_0.1 (mM_n i151_0.2) rfl rfl ?_
  refine V_cvI (c := cI) (As := []) (rest := []) i151_1.1 (mM_n i151_1.2) c151_235 rfl rfl rfl rfl (Nat.le_of_ble_eq_true rfl) rfl (fun r6 S5 => ?_)
  refine V_istore_n (c := cI) i151_4.1 (mM_n i151_4.2) (l1 := [some (.ref 55), some (.int x1), some (.int r6), none, none, none, none])  (Nat.le_of_ble_eq_true rfl) rfl ?_
  refine V_iload_n (c := cI) i151_5.1 (mM_n i151_5.2) rfl ?_
  refine V_iconst (c := cI) i151_6.1 (mM_n i151_6.2) (v := (-1)) rfl ?_
  refine V_icmp_ne (c := cI) i151_7.1 (mM_n i151_7.2) rfl (fun _ => ?_) (fun _ => ?_)
  · refine V_ldc (c := cI) i151_10.1 (mM_n i151_10.2) q151_234 ?_
    refine V_goto (c := cI) i151_12.1 (mM_n i151_12.2) rfl ?_
    exact V_msk (l1 := [some (.ref 55), some (.int x1), none, none, none, none, none]) i151_16.2 rfl rfl
  · refine V_iload_n (c := cI) i151_15.1 (mM_n i151_15.2) rfl ?_
    exact V_msk (l1 := [some (.ref 55), some (.int x1), none, none, none, none, none]) i151_16.2 rfl rfl
theorem k_Mod_widerNow_16_eq {x1 : Int32} {xs0 : Int32}  {S : Mem} : k_Mod_widerNow_16 x1 xs0 S = k_Mod_widerNow_23 x1 xs0 (-1) 0 S := by
  show cI (mV oS X0 151 16 [some (.ref 55), some (.int x1), none, none, none, none, none] [.int xs0] S) = _
  refine V_istore_n (c := cI) i151_16.1 (mM_s i151_16.2 rfl) (l1 := [some (.ref 55), some (.int x1), none, some (.int xs0), none, none, none])  (Nat.le_of_ble_eq_true rfl) rfl ?_
  refine V_iconst (c := cI) i151_17.1 (mM_n i151_17.2) (v := (-1)) rfl ?_
  refine V_istore (c := cI) i151_18.1 (mM_n i151_18.2) (l1 := [some (.ref 55), some (.int x1), none, some (.int xs0), some (.int (-1)), none, none])  (Nat.le_of_ble_eq_true rfl) rfl ?_
  refine V_iconst (c := cI) i151_20.1 (mM_n i151_20.2) (v := 0) rfl ?_
  refine V_istore (c := cI) i151_21.1 (mM_n i151_21.2) (l1 := [some (.ref 55), some (.int x1), none, some (.int xs0), some (.int (-1)), some (.int 0), none])  (Nat.le_of_ble_eq_true rfl) rfl ?_
  exact V_msk (l1 := [some (.ref 55), some (.int x1), none, some (.int xs0), some (.int (-1)), some (.int 0), none]) i151_23.2 rfl rfl
theorem k_Mod_widerNow_23_eq {x1 : Int32} {x3 : Int32} {x4 : Int32} {x5 : Int32}  {S : Mem} : k_Mod_widerNow_23 x1 x3 x4 x5 S = if (S.1 55 0) ≤ x5 then if x4 = (-1) then k_Mod_widerNow_120 x4 S else if x1 = 0 then k_Mod_widerNow_120 x4 S else k_Mod_widerNow_126 x3 S else if inb x5 12 = true then if (S.1 58 (x5.toNatClampNeg)) = 0 then if inb x5 12 = true then bI (f_Mod_soonestOf (u1 S 58 x5.toNatClampNeg 1)) (fun r8 S7 => if inb x5 12 = true then if r8 = (-1) then k_Mod_widerNow_81 x1 x3 x4 x5 r8 (u1 S7 58 x5.toNatClampNeg 0) else if x3 ≤ r8 then k_Mod_widerNow_81 x1 x3 x4 x5 r8 (u1 S7 58 x5.toNatClampNeg 0) else k_Mod_widerNow_83 x1 x3 x5 r8 x5 (u1 S7 58 x5.toNatClampNeg 0) else none) else none else k_Mod_widerNow_104 x1 x3 x4 x5 S else none := by
  show cI (mV oS X0 151 23 [some (.ref 55), some (.int x1), none, some (.int x3), some (.int x4), some (.int x5), none] [] S) = _
  refine V_iload (c := cI) i151_23.1 (mM_s i151_23.2 rfl) rfl ?_
  refine V_aload_n (c := cI) i151_25.1 (mM_n i151_25.2) rfl rfl ?_
  refine V_gf (c := cI) i151_26.1 (mM_n i151_26.2) (v := .int (S.1 55 0)) g151_140 rfl ?_
  refine V_icmp_ge (c := cI) i151_29.1 (mM_n i151_29.2) rfl (fun _ => ?_) (fun _ => ?_)
  · refine V_iload (c := cI) i151_110.1 (mM_n i151_110.2) rfl ?_
    refine V_iconst (c := cI) i151_112.1 (mM_n i151_112.2) (v := (-1)) rfl ?_
    refine V_icmp_eq (c := cI) i151_113.1 (mM_n i151_113.2) rfl (fun _ => ?_) (fun _ => ?_)
    · exact V_msk (l1 := [none, none, none, none, some (.int x4), none, none]) i151_120.2 rfl rfl
    · refine V_iload_n (c := cI) i151_116.1 (mM_n i151_116.2) rfl ?_
      refine V_if_ne (c := cI) i151_117.1 (mM_n i151_117.2) rfl (fun _ => ?_) (fun _ => ?_)
      · exact V_msk (l1 := [none, none, none, none, some (.int x4), none, none]) i151_120.2 rfl rfl
      · refine V_iload_n (c := cI) i151_125.1 (mM_n i151_125.2) rfl ?_
        exact V_msk (l1 := [none, none, none, none, none, none, none]) i151_126.2 rfl rfl
  · refine V_aload_n (c := cI) i151_32.1 (mM_n i151_32.2) rfl rfl ?_
    refine V_gf (c := cI) i151_33.1 (mM_n i151_33.2) (v := .ref 58) g151_16 rfl ?_
    refine V_iload (c := cI) i151_36.1 (mM_n i151_36.2) rfl ?_
    refine V_baload (c := cI) i151_38.1 (mM_n i151_38.2) rfl rfl rfl (fun _ => ?_)
    refine V_if_ne (c := cI) i151_39.1 (mM_n i151_39.2) rfl (fun _ => ?_) (fun _ => ?_)
    · refine V_aload_n (c := cI) i151_42.1 (mM_n i151_42.2) rfl rfl ?_
      refine V_gf (c := cI) i151_43.1 (mM_n i151_43.2) (v := .ref 58) g151_16 rfl ?_
      refine V_iload (c := cI) i151_46.1 (mM_n i151_46.2) rfl ?_
      refine V_iconst (c := cI) i151_48.1 (mM_n i151_48.2) (v := 1) rfl ?_
      refine V_bastore (c := cI) (x1 := 1) i151_49.1 (mM_n i151_49.2) rfl rfl (by decide) rfl (fun _ => ?_)
      refine V_aload_n (c := cI) i151_50.1 (mM_n i151_50.2) rfl rfl ?_
      refine V_cvI (c := cI) (As := []) (rest := []) i151_51.1 (mM_n i151_51.2) c151_235 rfl rfl rfl rfl (Nat.le_of_ble_eq_true rfl) rfl (fun r8 S7 => ?_)
      refine V_istore (c := cI) i151_54.1 (mM_n i151_54.2) (l1 := [some (.ref 55), some (.int x1), none, some (.int x3), some (.int x4), some (.int x5), some (.int r8)])  (Nat.le_of_ble_eq_true rfl) rfl ?_
      refine V_aload_n (c := cI) i151_56.1 (mM_n i151_56.2) rfl rfl ?_
      refine V_gf (c := cI) i151_57.1 (mM_n i151_57.2) (v := .ref 58) g151_16 rfl ?_
      refine V_iload (c := cI) i151_60.1 (mM_n i151_60.2) rfl ?_
      refine V_iconst (c := cI) i151_62.1 (mM_n i151_62.2) (v := 0) rfl ?_
      refine V_bastore (c := cI) (x1 := 0) i151_63.1 (mM_n i151_63.2) rfl rfl (by decide) rfl (fun _ => ?_)
      refine V_iload (c := cI) i151_64.1 (mM_n i151_64.2) rfl ?_
      refine V_iconst (c := cI) i151_66.1 (mM_n i151_66.2) (v := (-1)) rfl ?_
      refine V_icmp_eq (c := cI) i151_67.1 (mM_n i151_67.2) rfl (fun _ => ?_) (fun _ => ?_)
      · exact V_msk (l1 := [some (.ref 55), some (.int x1), none, some (.int x3), some (.int x4), some (.int x5), some (.int r8)]) i151_81.2 rfl rfl
      · refine V_iload (c := cI) i151_70.1 (mM_n i151_70.2) rfl ?_
        refine V_iload_n (c := cI) i151_72.1 (mM_n i151_72.2) rfl ?_
        refine V_icmp_ge (c := cI) i151_73.1 (mM_n i151_73.2) rfl (fun _ => ?_) (fun _ => ?_)
        · exact V_msk (l1 := [some (.ref 55), some (.int x1), none, some (.int x3), some (.int x4), some (.int x5), some (.int r8)]) i151_81.2 rfl rfl
        · refine V_iload (c := cI) i151_76.1 (mM_n i151_76.2) rfl ?_
          refine V_goto (c := cI) i151_78.1 (mM_n i151_78.2) rfl ?_
          exact V_msk (l1 := [some (.ref 55), some (.int x1), none, some (.int x3), none, some (.int x5), some (.int r8)]) i151_83.2 rfl rfl
    · exact V_msk (l1 := [some (.ref 55), some (.int x1), none, some (.int x3), some (.int x4), some (.int x5), none]) i151_104.2 rfl rfl
theorem k_Mod_widerNow_81_eq {x1 : Int32} {x3 : Int32} {x4 : Int32} {x5 : Int32} {x6 : Int32}  {S : Mem} : k_Mod_widerNow_81 x1 x3 x4 x5 x6 S = k_Mod_widerNow_83 x1 x3 x5 x6 x4 S := by
  show cI (mV oS X0 151 81 [some (.ref 55), some (.int x1), none, some (.int x3), some (.int x4), some (.int x5), some (.int x6)] [] S) = _
  refine V_iload (c := cI) i151_81.1 (mM_s i151_81.2 rfl) rfl ?_
  exact V_msk (l1 := [some (.ref 55), some (.int x1), none, some (.int x3), none, some (.int x5), some (.int x6)]) i151_83.2 rfl rfl
theorem k_Mod_widerNow_83_eq {x1 : Int32} {x3 : Int32} {x5 : Int32} {x6 : Int32} {xs0 : Int32}  {S : Mem} : k_Mod_widerNow_83 x1 x3 x5 x6 xs0 S = if x6 = (-1) then k_Mod_widerNow_102 x1 x3 xs0 x5 S else if x3 ≤ x6 then k_Mod_widerNow_102 x1 x3 xs0 x5 S else k_Mod_widerNow_103 x1 xs0 x5 x6 S := by
  show cI (mV oS X0 151 83 [some (.ref 55), some (.int x1), none, some (.int x3), none, some (.int x5), some (.int x6)] [.int xs0] S) = _
  refine V_istore (c := cI) i151_83.1 (mM_s i151_83.2 rfl) (l1 := [some (.ref 55), some (.int x1), none, some (.int x3), some (.int xs0), some (.int x5), some (.int x6)])  (Nat.le_of_ble_eq_true rfl) rfl ?_
  refine V_iload (c := cI) i151_85.1 (mM_n i151_85.2) rfl ?_
  refine V_iconst (c := cI) i151_87.1 (mM_n i151_87.2) (v := (-1)) rfl ?_
  refine V_icmp_eq (c := cI) i151_88.1 (mM_n i151_88.2) rfl (fun _ => ?_) (fun _ => ?_)
  · exact V_msk (l1 := [some (.ref 55), some (.int x1), none, some (.int x3), some (.int xs0), some (.int x5), none]) i151_102.2 rfl rfl
  · refine V_iload (c := cI) i151_91.1 (mM_n i151_91.2) rfl ?_
    refine V_iload_n (c := cI) i151_93.1 (mM_n i151_93.2) rfl ?_
    refine V_icmp_ge (c := cI) i151_94.1 (mM_n i151_94.2) rfl (fun _ => ?_) (fun _ => ?_)
    · exact V_msk (l1 := [some (.ref 55), some (.int x1), none, some (.int x3), some (.int xs0), some (.int x5), none]) i151_102.2 rfl rfl
    · refine V_iload (c := cI) i151_97.1 (mM_n i151_97.2) rfl ?_
      refine V_goto (c := cI) i151_99.1 (mM_n i151_99.2) rfl ?_
      exact V_msk (l1 := [some (.ref 55), some (.int x1), none, none, some (.int xs0), some (.int x5), none]) i151_103.2 rfl rfl
theorem k_Mod_widerNow_102_eq {x1 : Int32} {x3 : Int32} {x4 : Int32} {x5 : Int32}  {S : Mem} : k_Mod_widerNow_102 x1 x3 x4 x5 S = k_Mod_widerNow_103 x1 x4 x5 x3 S := by
  show cI (mV oS X0 151 102 [some (.ref 55), some (.int x1), none, some (.int x3), some (.int x4), some (.int x5), none] [] S) = _
  refine V_iload_n (c := cI) i151_102.1 (mM_s i151_102.2 rfl) rfl ?_
  exact V_msk (l1 := [some (.ref 55), some (.int x1), none, none, some (.int x4), some (.int x5), none]) i151_103.2 rfl rfl
theorem k_Mod_widerNow_103_eq {x1 : Int32} {x4 : Int32} {x5 : Int32} {xs0 : Int32}  {S : Mem} : k_Mod_widerNow_103 x1 x4 x5 xs0 S = k_Mod_widerNow_104 x1 xs0 x4 x5 S := by
  show cI (mV oS X0 151 103 [some (.ref 55), some (.int x1), none, none, some (.int x4), some (.int x5), none] [.int xs0] S) = _
  refine V_istore_n (c := cI) i151_103.1 (mM_s i151_103.2 rfl) (l1 := [some (.ref 55), some (.int x1), none, some (.int xs0), some (.int x4), some (.int x5), none])  (Nat.le_of_ble_eq_true rfl) rfl ?_
  exact V_msk (l1 := [some (.ref 55), some (.int x1), none, some (.int xs0), some (.int x4), some (.int x5), none]) i151_104.2 rfl rfl
theorem k_Mod_widerNow_104_eq {x1 : Int32} {x3 : Int32} {x4 : Int32} {x5 : Int32}  {S : Mem} : k_Mod_widerNow_104 x1 x3 x4 x5 S = k_Mod_widerNow_23 x1 x3 x4 (x5 + 1) S := by
  show cI (mV oS X0 151 104 [some (.ref 55), some (.int x1), none, some (.int x3), some (.int x4), some (.int x5), none] [] S) = _
  refine V_iinc (c := cI) i151_104.1 (mM_s i151_104.2 rfl) (l1 := [some (.ref 55), some (.int x1), none, some (.int x3), some (.int x4), some (.int (x5 + 1)), none]) rfl rfl rfl ?_
  refine V_goto (c := cI) i151_107.1 (mM_n i151_107.2) rfl ?_
  exact V_msk (l1 := [some (.ref 55), some (.int x1), none, some (.int x3), some (.int x4), some (.int (x5 + 1)), none]) i151_23.2 rfl rfl
theorem k_Mod_widerNow_120_eq {x4 : Int32}  {S : Mem} : k_Mod_widerNow_120 x4 S = k_Mod_widerNow_126 x4 S := by
  show cI (mV oS X0 151 120 [none, none, none, none, some (.int x4), none, none] [] S) = _
  refine V_iload (c := cI) i151_120.1 (mM_s i151_120.2 rfl) rfl ?_
  refine V_goto (c := cI) i151_122.1 (mM_n i151_122.2) rfl ?_
  exact V_msk (l1 := [none, none, none, none, none, none, none]) i151_126.2 rfl rfl
theorem k_Mod_widerNow_126_eq {xs0 : Int32}  {S : Mem} : k_Mod_widerNow_126 xs0 S = some (xs0, S) := by
  show cI (mV oS X0 151 126 [none, none, none, none, none, none, none] [.int xs0] S) = _
  exact V_iret i151_126.1 (mM_s i151_126.2 rfl) rfl
theorem f_Mod_wider_eq {x1 : Int32}  {S : Mem} : f_Mod_wider x1 S = bI (f_Mod_within x1 0 1 S) (fun r8 S7 => if r8 = 0 then some ((-102), S7) else bI (f_Mod_within (S7.1 55 7) 1 3 S7) (fun r10 S9 => if r10 = 0 then k_Mod_wider_33 S9 else if (S9.1 55 17) = 40 then k_Mod_wider_33 S9 else bI (f_Mod_widerNow x1 (u1 S9 55 17 ((S9.1 55 17) + 1))) (fun r12 S11 => some (r12, S11)))) := by
  show cI (mV oS X0 152 0 [some (.ref 55), some (.int x1)] [] S) = _
  refine V_iload_n (c := cI) i152_0.1 (mM_n i152_0.2) rfl ?_
  refine V_iconst (c := cI) i152_1.1 (mM_n i152_1.2) (v := 0) rfl ?_
  refine V_iconst (c := cI) i152_2.1 (mM_n i152_2.2) (v := 1) rfl ?_
  refine V_ciI (c := cI) (As := [.int x1, .int 0, .int 1]) (rest := []) i152_3.1 (mM_n i152_3.2) c152_105 rfl rfl rfl (Nat.le_of_ble_eq_true rfl) rfl (fun r8 S7 => ?_)
  refine V_if_ne (c := cI) i152_6.1 (mM_n i152_6.2) rfl (fun _ => ?_) (fun _ => ?_)
  · refine V_bipush (c := cI) i152_9.1 (mM_n i152_9.2) (v := (-102)) rfl ?_
    exact V_iret i152_11.1 (mM_n i152_11.2) rfl
  · refine V_aload_n (c := cI) i152_12.1 (mM_n i152_12.2) rfl rfl ?_
    refine V_gf (c := cI) i152_13.1 (mM_n i152_13.2) (v := .int (S7.1 55 7)) g152_152 rfl ?_
    refine V_iconst (c := cI) i152_16.1 (mM_n i152_16.2) (v := 1) rfl ?_
    refine V_iconst (c := cI) i152_17.1 (mM_n i152_17.2) (v := 3) rfl ?_
    refine V_ciI (c := cI) (As := [.int (S7.1 55 7), .int 1, .int 3]) (rest := []) i152_18.1 (mM_n i152_18.2) c152_105 rfl rfl rfl (Nat.le_of_ble_eq_true rfl) rfl (fun r10 S9 => ?_)
    refine V_if_eq (c := cI) i152_21.1 (mM_n i152_21.2) rfl (fun _ => ?_) (fun _ => ?_)
    · exact V_msk (l1 := [none, none]) i152_33.2 rfl rfl
    · refine V_aload_n (c := cI) i152_24.1 (mM_n i152_24.2) rfl rfl ?_
      refine V_gf (c := cI) i152_25.1 (mM_n i152_25.2) (v := .int (S9.1 55 17)) g152_241 rfl ?_
      refine V_bipush (c := cI) i152_28.1 (mM_n i152_28.2) (v := 40) rfl ?_
      refine V_icmp_ne (c := cI) i152_30.1 (mM_n i152_30.2) rfl (fun _ => ?_) (fun _ => ?_)
      · exact V_msk (l1 := [none, none]) i152_33.2 rfl rfl
      · refine V_aload_n (c := cI) i152_36.1 (mM_n i152_36.2) rfl rfl ?_
        refine V_dup (c := cI) i152_37.1 (mM_n i152_37.2) rfl ?_
        refine V_gf (c := cI) i152_38.1 (mM_n i152_38.2) (v := .int (S9.1 55 17)) g152_241 rfl ?_
        refine V_iconst (c := cI) i152_41.1 (mM_n i152_41.2) (v := 1) rfl ?_
        refine V_iadd (c := cI) i152_42.1 (mM_n i152_42.2)  ?_
        refine V_pf (c := cI) i152_43.1 (mM_n i152_43.2) p152_241 (pf_i rfl rfl rfl) ?_
        refine V_aload_n (c := cI) i152_46.1 (mM_n i152_46.2) rfl rfl ?_
        refine V_iload_n (c := cI) i152_47.1 (mM_n i152_47.2) rfl ?_
        refine V_cvI (c := cI) (As := [.int x1]) (rest := []) i152_48.1 (mM_n i152_48.2) c152_247 rfl rfl rfl rfl (Nat.le_of_ble_eq_true rfl) rfl (fun r12 S11 => ?_)
        exact V_iret i152_51.1 (mM_n i152_51.2) rfl
theorem k_Mod_wider_33_eq   {S : Mem} : k_Mod_wider_33  S = some ((-103), S) := by
  show cI (mV oS X0 152 33 [none, none] [] S) = _
  refine V_bipush (c := cI) i152_33.1 (mM_s i152_33.2 rfl) (v := (-103)) rfl ?_
  exact V_iret i152_35.1 (mM_n i152_35.2) rfl
theorem f_Mod_enoughNow_eq {x1 : Int32}  {S : Mem} : f_Mod_enoughNow x1 S = if inb x1 5 = true then k_Mod_enoughNow_12 x1 (S.1 62 (x1.toNatClampNeg)) (-1) 0 S else none := by
  show cI (mV oS X0 153 0 [some (.ref 55), some (.int x1), none, none, none] [] S) = _
  refine V_aload_n (c := cI) i153_0.1 (mM_n i153_0.2) rfl rfl ?_
  refine V_gf (c := cI) i153_1.1 (mM_n i153_1.2) (v := .ref 62) g153_29 rfl ?_
  refine V_iload_n (c := cI) i153_4.1 (mM_n i153_4.2) rfl ?_
  refine V_iaload (c := cI) i153_5.1 (mM_n i153_5.2) rfl rfl (fun _ => ?_)
  refine V_istore_n (c := cI) i153_6.1 (mM_n i153_6.2) (l1 := [some (.ref 55), some (.int x1), some (.int (S.1 62 (x1.toNatClampNeg))), none, none])  (Nat.le_of_ble_eq_true rfl) rfl ?_
  refine V_iconst (c := cI) i153_7.1 (mM_n i153_7.2) (v := (-1)) rfl ?_
  refine V_istore_n (c := cI) i153_8.1 (mM_n i153_8.2) (l1 := [some (.ref 55), some (.int x1), some (.int (S.1 62 (x1.toNatClampNeg))), some (.int (-1)), none])  (Nat.le_of_ble_eq_true rfl) rfl ?_
  refine V_iconst (c := cI) i153_9.1 (mM_n i153_9.2) (v := 0) rfl ?_
  refine V_istore (c := cI) i153_10.1 (mM_n i153_10.2) (l1 := [some (.ref 55), some (.int x1), some (.int (S.1 62 (x1.toNatClampNeg))), some (.int (-1)), some (.int 0)])  (Nat.le_of_ble_eq_true rfl) rfl ?_
  exact V_msk (l1 := [some (.ref 55), some (.int x1), some (.int (S.1 62 (x1.toNatClampNeg))), some (.int (-1)), some (.int 0)]) i153_12.2 rfl rfl
theorem k_Mod_enoughNow_12_eq {x1 : Int32} {x2 : Int32} {x3 : Int32} {x4 : Int32}  {S : Mem} : k_Mod_enoughNow_12 x1 x2 x3 x4 S = if 20 < x4 then k_Mod_enoughNow_56 x1 x2 x3 S else if x3 = (-1) then if inb x1 5 = true then bI (f_Mod_firstOf ((1 : Int32) <<< (x1 &&& 31)) (u1 S 62 x1.toNatClampNeg x4)) (fun r4 S3 => if r4 = (-1) then k_Mod_enoughNow_49 x1 x2 x4 x4 S3 else k_Mod_enoughNow_49 x1 x2 x4 (-1) S3) else none else k_Mod_enoughNow_56 x1 x2 x3 S := by
  show cI (mV oS X0 153 12 [some (.ref 55), some (.int x1), some (.int x2), some (.int x3), some (.int x4)] [] S) = _
  refine V_iload (c := cI) i153_12.1 (mM_s i153_12.2 rfl) rfl ?_
  refine V_bipush (c := cI) i153_14.1 (mM_n i153_14.2) (v := 20) rfl ?_
  refine V_icmp_gt (c := cI) i153_16.1 (mM_n i153_16.2) rfl (fun _ => ?_) (fun _ => ?_)
  · exact V_msk (l1 := [some (.ref 55), some (.int x1), some (.int x2), some (.int x3), none]) i153_56.2 rfl rfl
  · refine V_iload_n (c := cI) i153_19.1 (mM_n i153_19.2) rfl ?_
    refine V_iconst (c := cI) i153_20.1 (mM_n i153_20.2) (v := (-1)) rfl ?_
    refine V_icmp_ne (c := cI) i153_21.1 (mM_n i153_21.2) rfl (fun _ => ?_) (fun _ => ?_)
    · refine V_aload_n (c := cI) i153_24.1 (mM_n i153_24.2) rfl rfl ?_
      refine V_gf (c := cI) i153_25.1 (mM_n i153_25.2) (v := .ref 62) g153_29 rfl ?_
      refine V_iload_n (c := cI) i153_28.1 (mM_n i153_28.2) rfl ?_
      refine V_iload (c := cI) i153_29.1 (mM_n i153_29.2) rfl ?_
      refine V_iastore (c := cI) (x1 := x4) i153_31.1 (mM_n i153_31.2) rfl rfl rfl rfl (fun _ => ?_)
      refine V_aload_n (c := cI) i153_32.1 (mM_n i153_32.2) rfl rfl ?_
      refine V_iconst (c := cI) i153_33.1 (mM_n i153_33.2) (v := 1) rfl ?_
      refine V_iload_n (c := cI) i153_34.1 (mM_n i153_34.2) rfl ?_
      refine V_ishl (c := cI) i153_35.1 (mM_n i153_35.2)  ?_
      refine V_cvI (c := cI) (As := [.int ((1 : Int32) <<< (x1 &&& 31))]) (rest := []) i153_36.1 (mM_n i153_36.2) c153_218 rfl rfl rfl rfl (Nat.le_of_ble_eq_true rfl) rfl (fun r4 S3 => ?_)
      refine V_iconst (c := cI) i153_39.1 (mM_n i153_39.2) (v := (-1)) rfl ?_
      refine V_icmp_ne (c := cI) i153_40.1 (mM_n i153_40.2) rfl (fun _ => ?_) (fun _ => ?_)
      · refine V_iload (c := cI) i153_43.1 (mM_n i153_43.2) rfl ?_
        refine V_goto (c := cI) i153_45.1 (mM_n i153_45.2) rfl ?_
        exact V_msk (l1 := [some (.ref 55), some (.int x1), some (.int x2), none, some (.int x4)]) i153_49.2 rfl rfl
      · refine V_iconst (c := cI) i153_48.1 (mM_n i153_48.2) (v := (-1)) rfl ?_
        exact V_msk (l1 := [some (.ref 55), some (.int x1), some (.int x2), none, some (.int x4)]) i153_49.2 rfl rfl
    · exact V_msk (l1 := [some (.ref 55), some (.int x1), some (.int x2), some (.int x3), none]) i153_56.2 rfl rfl
theorem k_Mod_enoughNow_49_eq {x1 : Int32} {x2 : Int32} {x4 : Int32} {xs0 : Int32}  {S : Mem} : k_Mod_enoughNow_49 x1 x2 x4 xs0 S = k_Mod_enoughNow_12 x1 x2 xs0 (x4 + 1) S := by
  show cI (mV oS X0 153 49 [some (.ref 55), some (.int x1), some (.int x2), none, some (.int x4)] [.int xs0] S) = _
  refine V_istore_n (c := cI) i153_49.1 (mM_s i153_49.2 rfl) (l1 := [some (.ref 55), some (.int x1), some (.int x2), some (.int xs0), some (.int x4)])  (Nat.le_of_ble_eq_true rfl) rfl ?_
  refine V_iinc (c := cI) i153_50.1 (mM_n i153_50.2) (l1 := [some (.ref 55), some (.int x1), some (.int x2), some (.int xs0), some (.int (x4 + 1))]) rfl rfl rfl ?_
  refine V_goto (c := cI) i153_53.1 (mM_n i153_53.2) rfl ?_
  exact V_msk (l1 := [some (.ref 55), some (.int x1), some (.int x2), some (.int xs0), some (.int (x4 + 1))]) i153_12.2 rfl rfl
theorem k_Mod_enoughNow_56_eq {x1 : Int32} {x2 : Int32} {x3 : Int32}  {S : Mem} : k_Mod_enoughNow_56 x1 x2 x3 S = if inb x1 5 = true then some (x3, u1 S 62 x1.toNatClampNeg x2) else none := by
  show cI (mV oS X0 153 56 [some (.ref 55), some (.int x1), some (.int x2), some (.int x3), none] [] S) = _
  refine V_aload_n (c := cI) i153_56.1 (mM_s i153_56.2 rfl) rfl rfl ?_
  refine V_gf (c := cI) i153_57.1 (mM_n i153_57.2) (v := .ref 62) g153_29 rfl ?_
  refine V_iload_n (c := cI) i153_60.1 (mM_n i153_60.2) rfl ?_
  refine V_iload_n (c := cI) i153_61.1 (mM_n i153_61.2) rfl ?_
  refine V_iastore (c := cI) (x1 := x2) i153_62.1 (mM_n i153_62.2) rfl rfl rfl rfl (fun _ => ?_)
  refine V_iload_n (c := cI) i153_63.1 (mM_n i153_63.2) rfl ?_
  exact V_iret i153_64.1 (mM_n i153_64.2) rfl
theorem f_Mod_enough_eq {x1 : Int32}  {S : Mem} : f_Mod_enough x1 S = bI (f_Mod_isWalker x1 S) (fun r6 S5 => if r6 = 0 then k_Mod_enough_18 (-101) S5 else bI (f_Mod_enoughNow x1 S5) (fun r8 S7 => k_Mod_enough_18 r8 S7)) := by
  show cI (mV oS X0 154 0 [some (.ref 55), some (.int x1)] [] S) = _
  refine V_aload_n (c := cI) i154_0.1 (mM_n i154_0.2) rfl rfl ?_
  refine V_iload_n (c := cI) i154_1.1 (mM_n i154_1.2) rfl ?_
  refine V_cvI (c := cI) (As := [.int x1]) (rest := []) i154_2.1 (mM_n i154_2.2) c154_168 rfl rfl rfl rfl (Nat.le_of_ble_eq_true rfl) rfl (fun r6 S5 => ?_)
  refine V_if_eq (c := cI) i154_5.1 (mM_n i154_5.2) rfl (fun _ => ?_) (fun _ => ?_)
  · refine V_bipush (c := cI) i154_16.1 (mM_n i154_16.2) (v := (-101)) rfl ?_
    exact V_msk (l1 := [none, none]) i154_18.2 rfl rfl
  · refine V_aload_n (c := cI) i154_8.1 (mM_n i154_8.2) rfl rfl ?_
    refine V_iload_n (c := cI) i154_9.1 (mM_n i154_9.2) rfl ?_
    refine V_cvI (c := cI) (As := [.int x1]) (rest := []) i154_10.1 (mM_n i154_10.2) c154_250 rfl rfl rfl rfl (Nat.le_of_ble_eq_true rfl) rfl (fun r8 S7 => ?_)
    refine V_goto (c := cI) i154_13.1 (mM_n i154_13.2) rfl ?_
    exact V_msk (l1 := [none, none]) i154_18.2 rfl rfl
theorem k_Mod_enough_18_eq {xs0 : Int32}  {S : Mem} : k_Mod_enough_18 xs0 S = some (xs0, S) := by
  show cI (mV oS X0 154 18 [none, none] [.int xs0] S) = _
  exact V_iret i154_18.1 (mM_s i154_18.2 rfl) rfl
theorem f_Mod_size_eq {x0 : Int32}  {S : Mem} : f_Mod_size x0 S = k_Mod_size_4 x0 0 0 S := by
  show cI (mV oS X0 155 0 [some (.int x0), none, none] [] S) = _
  refine V_iconst (c := cI) i155_0.1 (mM_n i155_0.2) (v := 0) rfl ?_
  refine V_istore_n (c := cI) i155_1.1 (mM_n i155_1.2) (l1 := [some (.int x0), some (.int 0), none])  (Nat.le_of_ble_eq_true rfl) rfl ?_
  refine V_iconst (c := cI) i155_2.1 (mM_n i155_2.2) (v := 0) rfl ?_
  refine V_istore_n (c := cI) i155_3.1 (mM_n i155_3.2) (l1 := [some (.int x0), some (.int 0), some (.int 0)])  (Nat.le_of_ble_eq_true rfl) rfl ?_
  exact V_msk (l1 := [some (.int x0), some (.int 0), some (.int 0)]) i155_4.2 rfl rfl
theorem k_Mod_size_4_eq {x0 : Int32} {x1 : Int32} {x2 : Int32}  {S : Mem} : k_Mod_size_4 x0 x1 x2 S = if 5 ≤ x2 then some (x1, S) else k_Mod_size_4 x0 (x1 + ((x0 >>> (x2 &&& 31)) &&& 1)) (x2 + 1) S := by
  show cI (mV oS X0 155 4 [some (.int x0), some (.int x1), some (.int x2)] [] S) = _
  refine V_iload_n (c := cI) i155_4.1 (mM_s i155_4.2 rfl) rfl ?_
  refine V_iconst (c := cI) i155_5.1 (mM_n i155_5.2) (v := 5) rfl ?_
  refine V_icmp_ge (c := cI) i155_6.1 (mM_n i155_6.2) rfl (fun _ => ?_) (fun _ => ?_)
  · refine V_iload_n (c := cI) i155_23.1 (mM_n i155_23.2) rfl ?_
    exact V_iret i155_24.1 (mM_n i155_24.2) rfl
  · refine V_iload_n (c := cI) i155_9.1 (mM_n i155_9.2) rfl ?_
    refine V_iload_n (c := cI) i155_10.1 (mM_n i155_10.2) rfl ?_
    refine V_iload_n (c := cI) i155_11.1 (mM_n i155_11.2) rfl ?_
    refine V_ishr (c := cI) i155_12.1 (mM_n i155_12.2)  ?_
    refine V_iconst (c := cI) i155_13.1 (mM_n i155_13.2) (v := 1) rfl ?_
    refine V_iand (c := cI) i155_14.1 (mM_n i155_14.2)  ?_
    refine V_iadd (c := cI) i155_15.1 (mM_n i155_15.2)  ?_
    refine V_istore_n (c := cI) i155_16.1 (mM_n i155_16.2) (l1 := [some (.int x0), some (.int (x1 + ((x0 >>> (x2 &&& 31)) &&& 1))), some (.int x2)])  (Nat.le_of_ble_eq_true rfl) rfl ?_
    refine V_iinc (c := cI) i155_17.1 (mM_n i155_17.2) (l1 := [some (.int x0), some (.int (x1 + ((x0 >>> (x2 &&& 31)) &&& 1))), some (.int (x2 + 1))]) rfl rfl rfl ?_
    refine V_goto (c := cI) i155_20.1 (mM_n i155_20.2) rfl ?_
    exact V_msk (l1 := [some (.int x0), some (.int (x1 + ((x0 >>> (x2 &&& 31)) &&& 1))), some (.int (x2 + 1))]) i155_4.2 rfl rfl
theorem f_Mod_fitsNow_eq {x1 : Int32} {x2 : Int32}  {S : Mem} : f_Mod_fitsNow x1 x2 S = k_Mod_fitsNow_5 x1 x2 1 0 S := by
  show cI (mV oS X0 156 0 [some (.ref 55), some (.int x1), some (.int x2), none, none, none, none, none] [] S) = _
  refine V_iconst (c := cI) i156_0.1 (mM_n i156_0.2) (v := 1) rfl ?_
  refine V_istore_n (c := cI) i156_1.1 (mM_n i156_1.2) (l1 := [some (.ref 55), some (.int x1), some (.int x2), some (.int 1), none, none, none, none])  (Nat.le_of_ble_eq_true rfl) rfl ?_
  refine V_iconst (c := cI) i156_2.1 (mM_n i156_2.2) (v := 0) rfl ?_
  refine V_istore (c := cI) i156_3.1 (mM_n i156_3.2) (l1 := [some (.ref 55), some (.int x1), some (.int x2), some (.int 1), some (.int 0), none, none, none])  (Nat.le_of_ble_eq_true rfl) rfl ?_
  exact V_msk (l1 := [some (.ref 55), some (.int x1), some (.int x2), some (.int 1), some (.int 0), none, none, none]) i156_5.2 rfl rfl
theorem k_Mod_fitsNow_5_eq {x1 : Int32} {x2 : Int32} {x3 : Int32} {x4 : Int32}  {S : Mem} : k_Mod_fitsNow_5 x1 x2 x3 x4 S = if 5 ≤ x4 then k_Mod_fitsNow_60 x1 x2 x3 0 0 (u1 S 55 40 0) else if inb x4 5 = true then if inb x4 5 = true then bI (f_Mod_has x1 x4 (u1 S 74 x4.toNatClampNeg (S.1 62 (x4.toNatClampNeg)))) (fun r10 S9 => if r10 = 0 then k_Mod_fitsNow_41 x1 x2 x4 1 x3 S9 else k_Mod_fitsNow_41 x1 x2 x4 10 x3 S9) else none else none := by
  show cI (mV oS X0 156 5 [some (.ref 55), some (.int x1), some (.int x2), some (.int x3), some (.int x4), none, none, none] [] S) = _
  refine V_iload (c := cI) i156_5.1 (mM_s i156_5.2 rfl) rfl ?_
  refine V_iconst (c := cI) i156_7.1 (mM_n i156_7.2) (v := 5) rfl ?_
  refine V_icmp_ge (c := cI) i156_8.1 (mM_n i156_8.2) rfl (fun _ => ?_) (fun _ => ?_)
  · refine V_iconst (c := cI) i156_49.1 (mM_n i156_49.2) (v := 0) rfl ?_
    refine V_istore (c := cI) i156_50.1 (mM_n i156_50.2) (l1 := [some (.ref 55), some (.int x1), some (.int x2), some (.int x3), some (.int 0), none, none, none])  (Nat.le_of_ble_eq_true rfl) rfl ?_
    refine V_aload_n (c := cI) i156_52.1 (mM_n i156_52.2) rfl rfl ?_
    refine V_iconst (c := cI) i156_53.1 (mM_n i156_53.2) (v := 0) rfl ?_
    refine V_pf (c := cI) i156_54.1 (mM_n i156_54.2) p156_253 (pf_i rfl rfl rfl) ?_
    refine V_iconst (c := cI) i156_57.1 (mM_n i156_57.2) (v := 0) rfl ?_
    refine V_istore (c := cI) i156_58.1 (mM_n i156_58.2) (l1 := [some (.ref 55), some (.int x1), some (.int x2), some (.int x3), some (.int 0), some (.int 0), none, none])  (Nat.le_of_ble_eq_true rfl) rfl ?_
    exact V_msk (l1 := [some (.ref 55), some (.int x1), some (.int x2), some (.int x3), some (.int 0), some (.int 0), none, none]) i156_60.2 rfl rfl
  · refine V_aload_n (c := cI) i156_11.1 (mM_n i156_11.2) rfl rfl ?_
    refine V_gf (c := cI) i156_12.1 (mM_n i156_12.2) (v := .ref 74) g156_66 rfl ?_
    refine V_iload (c := cI) i156_15.1 (mM_n i156_15.2) rfl ?_
    refine V_aload_n (c := cI) i156_17.1 (mM_n i156_17.2) rfl rfl ?_
    refine V_gf (c := cI) i156_18.1 (mM_n i156_18.2) (v := .ref 62) g156_29 rfl ?_
    refine V_iload (c := cI) i156_21.1 (mM_n i156_21.2) rfl ?_
    refine V_iaload (c := cI) i156_23.1 (mM_n i156_23.2) rfl rfl (fun _ => ?_)
    refine V_iastore (c := cI) (x1 := (S.1 62 (x4.toNatClampNeg))) i156_24.1 (mM_n i156_24.2) rfl rfl rfl rfl (fun _ => ?_)
    refine V_iload_n (c := cI) i156_25.1 (mM_n i156_25.2) rfl ?_
    refine V_iload_n (c := cI) i156_26.1 (mM_n i156_26.2) rfl ?_
    refine V_iload (c := cI) i156_27.1 (mM_n i156_27.2) rfl ?_
    refine V_ciI (c := cI) (As := [.int x1, .int x4]) (rest := [.int x3]) i156_29.1 (mM_n i156_29.2) c156_196 rfl rfl rfl (Nat.le_of_ble_eq_true rfl) rfl (fun r10 S9 => ?_)
    refine V_if_eq (c := cI) i156_32.1 (mM_n i156_32.2) rfl (fun _ => ?_) (fun _ => ?_)
    · refine V_iconst (c := cI) i156_40.1 (mM_n i156_40.2) (v := 1) rfl ?_
      exact V_msk (l1 := [some (.ref 55), some (.int x1), some (.int x2), none, some (.int x4), none, none, none]) i156_41.2 rfl rfl
    · refine V_bipush (c := cI) i156_35.1 (mM_n i156_35.2) (v := 10) rfl ?_
      refine V_goto (c := cI) i156_37.1 (mM_n i156_37.2) rfl ?_
      exact V_msk (l1 := [some (.ref 55), some (.int x1), some (.int x2), none, some (.int x4), none, none, none]) i156_41.2 rfl rfl
theorem k_Mod_fitsNow_41_eq {x1 : Int32} {x2 : Int32} {x4 : Int32} {xs0 : Int32} {xs1 : Int32}  {S : Mem} : k_Mod_fitsNow_41 x1 x2 x4 xs0 xs1 S = k_Mod_fitsNow_5 x1 x2 (xs1 * xs0) (x4 + 1) S := by
  show cI (mV oS X0 156 41 [some (.ref 55), some (.int x1), some (.int x2), none, some (.int x4), none, none, none] [.int xs0, .int xs1] S) = _
  refine V_imul (c := cI) i156_41.1 (mM_s i156_41.2 rfl)  ?_
  refine V_istore_n (c := cI) i156_42.1 (mM_n i156_42.2) (l1 := [some (.ref 55), some (.int x1), some (.int x2), some (.int (xs1 * xs0)), some (.int x4), none, none, none])  (Nat.le_of_ble_eq_true rfl) rfl ?_
  refine V_iinc (c := cI) i156_43.1 (mM_n i156_43.2) (l1 := [some (.ref 55), some (.int x1), some (.int x2), some (.int (xs1 * xs0)), some (.int (x4 + 1)), none, none, none]) rfl rfl rfl ?_
  refine V_goto (c := cI) i156_46.1 (mM_n i156_46.2) rfl ?_
  exact V_msk (l1 := [some (.ref 55), some (.int x1), some (.int x2), some (.int (xs1 * xs0)), some (.int (x4 + 1)), none, none, none]) i156_5.2 rfl rfl
theorem k_Mod_fitsNow_60_eq {x1 : Int32} {x2 : Int32} {x3 : Int32} {x4 : Int32} {x5 : Int32}  {S : Mem} : k_Mod_fitsNow_60 x1 x2 x3 x4 x5 S = if x3 ≤ x5 then k_Mod_fitsNow_179 x4 0 S else k_Mod_fitsNow_73 x1 x2 x3 x4 x5 x5 0 S := by
  show cI (mV oS X0 156 60 [some (.ref 55), some (.int x1), some (.int x2), some (.int x3), some (.int x4), some (.int x5), none, none] [] S) = _
  refine V_iload (c := cI) i156_60.1 (mM_s i156_60.2 rfl) rfl ?_
  refine V_iload_n (c := cI) i156_62.1 (mM_n i156_62.2) rfl ?_
  refine V_icmp_ge (c := cI) i156_63.1 (mM_n i156_63.2) rfl (fun _ => ?_) (fun _ => ?_)
  · refine V_iconst (c := cI) i156_176.1 (mM_n i156_176.2) (v := 0) rfl ?_
    refine V_istore (c := cI) i156_177.1 (mM_n i156_177.2) (l1 := [some (.ref 55), some (.int x1), some (.int x2), some (.int x3), some (.int x4), some (.int 0), none, none])  (Nat.le_of_ble_eq_true rfl) rfl ?_
    exact V_msk (l1 := [some (.ref 55), none, none, none, some (.int x4), some (.int 0), none, none]) i156_179.2 rfl rfl
  · refine V_iload (c := cI) i156_66.1 (mM_n i156_66.2) rfl ?_
    refine V_istore (c := cI) i156_68.1 (mM_n i156_68.2) (l1 := [some (.ref 55), some (.int x1), some (.int x2), some (.int x3), some (.int x4), some (.int x5), some (.int x5), none])  (Nat.le_of_ble_eq_true rfl) rfl ?_
    refine V_iconst (c := cI) i156_70.1 (mM_n i156_70.2) (v := 0) rfl ?_
    refine V_istore (c := cI) i156_71.1 (mM_n i156_71.2) (l1 := [some (.ref 55), some (.int x1), some (.int x2), some (.int x3), some (.int x4), some (.int x5), some (.int x5), some (.int 0)])  (Nat.le_of_ble_eq_true rfl) rfl ?_
    exact V_msk (l1 := [some (.ref 55), some (.int x1), some (.int x2), some (.int x3), some (.int x4), some (.int x5), some (.int x5), some (.int 0)]) i156_73.2 rfl rfl
theorem k_Mod_fitsNow_73_eq {x1 : Int32} {x2 : Int32} {x3 : Int32} {x4 : Int32} {x5 : Int32} {x6 : Int32} {x7 : Int32}  {S : Mem} : k_Mod_fitsNow_73 x1 x2 x3 x4 x5 x6 x7 S = if (S.1 55 7) ≤ x7 then bI (f_Mod_firstOf 31 S) (fun r12 S11 => if r12 = (-1) then if inb x2 5 = true then k_Mod_fitsNow_170 x1 x2 x3 (x4 + 1) x5 (u1 S11 55 40 ((S11.1 55 40) ||| ((1 : Int32) <<< ((S11.1 62 (x2.toNatClampNeg)) &&& 31)))) else none else k_Mod_fitsNow_170 x1 x2 x3 x4 x5 S11) else bI (f_Mod_has x1 x7 S) (fun r14 S13 => if r14 = 0 then if inb x7 5 = true then k_Mod_fitsNow_112 x1 x2 x3 x4 x5 x6 x7 (S13.1 62 (x7.toNatClampNeg)) x7 S13 else none else k_Mod_fitsNow_112 x1 x2 x3 x4 x5 x6 x7 (x6 - x6 / 10 * 10) x7 S13) := by
  show cI (mV oS X0 156 73 [some (.ref 55), some (.int x1), some (.int x2), some (.int x3), some (.int x4), some (.int x5), some (.int x6), some (.int x7)] [] S) = _
  refine V_iload (c := cI) i156_73.1 (mM_s i156_73.2 rfl) rfl ?_
  refine V_aload_n (c := cI) i156_75.1 (mM_n i156_75.2) rfl rfl ?_
  refine V_gf (c := cI) i156_76.1 (mM_n i156_76.2) (v := .int (S.1 55 7)) g156_152 rfl ?_
  refine V_icmp_ge (c := cI) i156_79.1 (mM_n i156_79.2) rfl (fun _ => ?_) (fun _ => ?_)
  · refine V_aload_n (c := cI) i156_140.1 (mM_n i156_140.2) rfl rfl ?_
    refine V_bipush (c := cI) i156_141.1 (mM_n i156_141.2) (v := 31) rfl ?_
    refine V_cvI (c := cI) (As := [.int 31]) (rest := []) i156_143.1 (mM_n i156_143.2) c156_218 rfl rfl rfl rfl (Nat.le_of_ble_eq_true rfl) rfl (fun r12 S11 => ?_)
    refine V_iconst (c := cI) i156_146.1 (mM_n i156_146.2) (v := (-1)) rfl ?_
    refine V_icmp_ne (c := cI) i156_147.1 (mM_n i156_147.2) rfl (fun _ => ?_) (fun _ => ?_)
    · refine V_iinc (c := cI) i156_150.1 (mM_n i156_150.2) (l1 := [some (.ref 55), some (.int x1), some (.int x2), some (.int x3), some (.int (x4 + 1)), some (.int x5), some (.int x6), some (.int x7)]) rfl rfl rfl ?_
      refine V_aload_n (c := cI) i156_153.1 (mM_n i156_153.2) rfl rfl ?_
      refine V_dup (c := cI) i156_154.1 (mM_n i156_154.2) rfl ?_
      refine V_gf (c := cI) i156_155.1 (mM_n i156_155.2) (v := .int (S11.1 55 40)) g156_253 rfl ?_
      refine V_iconst (c := cI) i156_158.1 (mM_n i156_158.2) (v := 1) rfl ?_
      refine V_aload_n (c := cI) i156_159.1 (mM_n i156_159.2) rfl rfl ?_
      refine V_gf (c := cI) i156_160.1 (mM_n i156_160.2) (v := .ref 62) g156_29 rfl ?_
      refine V_iload_n (c := cI) i156_163.1 (mM_n i156_163.2) rfl ?_
      refine V_iaload (c := cI) i156_164.1 (mM_n i156_164.2) rfl rfl (fun _ => ?_)
      refine V_ishl (c := cI) i156_165.1 (mM_n i156_165.2)  ?_
      refine V_ior (c := cI) i156_166.1 (mM_n i156_166.2)  ?_
      refine V_pf (c := cI) i156_167.1 (mM_n i156_167.2) p156_253 (pf_i rfl rfl rfl) ?_
      exact V_msk (l1 := [some (.ref 55), some (.int x1), some (.int x2), some (.int x3), some (.int (x4 + 1)), some (.int x5), none, none]) i156_170.2 rfl rfl
    · exact V_msk (l1 := [some (.ref 55), some (.int x1), some (.int x2), some (.int x3), some (.int x4), some (.int x5), none, none]) i156_170.2 rfl rfl
  · refine V_aload_n (c := cI) i156_82.1 (mM_n i156_82.2) rfl rfl ?_
    refine V_gf (c := cI) i156_83.1 (mM_n i156_83.2) (v := .ref 62) g156_29 rfl ?_
    refine V_iload (c := cI) i156_86.1 (mM_n i156_86.2) rfl ?_
    refine V_iload_n (c := cI) i156_88.1 (mM_n i156_88.2) rfl ?_
    refine V_iload (c := cI) i156_89.1 (mM_n i156_89.2) rfl ?_
    refine V_ciI (c := cI) (As := [.int x1, .int x7]) (rest := [.int x7, .ref 62]) i156_91.1 (mM_n i156_91.2) c156_196 rfl rfl rfl (Nat.le_of_ble_eq_true rfl) rfl (fun r14 S13 => ?_)
    refine V_if_eq (c := cI) i156_94.1 (mM_n i156_94.2) rfl (fun _ => ?_) (fun _ => ?_)
    · refine V_aload_n (c := cI) i156_105.1 (mM_n i156_105.2) rfl rfl ?_
      refine V_gf (c := cI) i156_106.1 (mM_n i156_106.2) (v := .ref 62) g156_29 rfl ?_
      refine V_iload (c := cI) i156_109.1 (mM_n i156_109.2) rfl ?_
      refine V_iaload (c := cI) i156_111.1 (mM_n i156_111.2) rfl rfl (fun _ => ?_)
      exact V_msk (l1 := [some (.ref 55), some (.int x1), some (.int x2), some (.int x3), some (.int x4), some (.int x5), some (.int x6), some (.int x7)]) i156_112.2 rfl rfl
    · refine V_iload (c := cI) i156_97.1 (mM_n i156_97.2) rfl ?_
      refine V_bipush (c := cI) i156_99.1 (mM_n i156_99.2) (v := 10) rfl ?_
      refine V_iremL (c := cI) i156_101.1 (mM_n i156_101.2) (by decide) ?_
      refine V_goto (c := cI) i156_102.1 (mM_n i156_102.2) rfl ?_
      exact V_msk (l1 := [some (.ref 55), some (.int x1), some (.int x2), some (.int x3), some (.int x4), some (.int x5), some (.int x6), some (.int x7)]) i156_112.2 rfl rfl
theorem k_Mod_fitsNow_112_eq {x1 : Int32} {x2 : Int32} {x3 : Int32} {x4 : Int32} {x5 : Int32} {x6 : Int32} {x7 : Int32} {xs0 : Int32} {xs1 : Int32}  {S : Mem} : k_Mod_fitsNow_112 x1 x2 x3 x4 x5 x6 x7 xs0 xs1 S = if inb xs1 5 = true then bI (f_Mod_has x1 x7 (u1 S 62 xs1.toNatClampNeg xs0)) (fun r16 S15 => if r16 = 0 then k_Mod_fitsNow_132 x1 x2 x3 x4 x5 x7 x6 S15 else k_Mod_fitsNow_132 x1 x2 x3 x4 x5 x7 (x6 / 10) S15) else none := by
  show cI (mV oS X0 156 112 [some (.ref 55), some (.int x1), some (.int x2), some (.int x3), some (.int x4), some (.int x5), some (.int x6), some (.int x7)] [.int xs0, .int xs1, .ref 62] S) = _
  refine V_iastore (c := cI) (x1 := xs0) i156_112.1 (mM_s i156_112.2 rfl) rfl rfl rfl rfl (fun _ => ?_)
  refine V_iload_n (c := cI) i156_113.1 (mM_n i156_113.2) rfl ?_
  refine V_iload (c := cI) i156_114.1 (mM_n i156_114.2) rfl ?_
  refine V_ciI (c := cI) (As := [.int x1, .int x7]) (rest := []) i156_116.1 (mM_n i156_116.2) c156_196 rfl rfl rfl (Nat.le_of_ble_eq_true rfl) rfl (fun r16 S15 => ?_)
  refine V_if_eq (c := cI) i156_119.1 (mM_n i156_119.2) rfl (fun _ => ?_) (fun _ => ?_)
  · refine V_iload (c := cI) i156_130.1 (mM_n i156_130.2) rfl ?_
    exact V_msk (l1 := [some (.ref 55), some (.int x1), some (.int x2), some (.int x3), some (.int x4), some (.int x5), none, some (.int x7)]) i156_132.2 rfl rfl
  · refine V_iload (c := cI) i156_122.1 (mM_n i156_122.2) rfl ?_
    refine V_bipush (c := cI) i156_124.1 (mM_n i156_124.2) (v := 10) rfl ?_
    refine V_idivL (c := cI) i156_126.1 (mM_n i156_126.2) (by decide) ?_
    refine V_goto (c := cI) i156_127.1 (mM_n i156_127.2) rfl ?_
    exact V_msk (l1 := [some (.ref 55), some (.int x1), some (.int x2), some (.int x3), some (.int x4), some (.int x5), none, some (.int x7)]) i156_132.2 rfl rfl
theorem k_Mod_fitsNow_132_eq {x1 : Int32} {x2 : Int32} {x3 : Int32} {x4 : Int32} {x5 : Int32} {x7 : Int32} {xs0 : Int32}  {S : Mem} : k_Mod_fitsNow_132 x1 x2 x3 x4 x5 x7 xs0 S = k_Mod_fitsNow_73 x1 x2 x3 x4 x5 xs0 (x7 + 1) S := by
  show cI (mV oS X0 156 132 [some (.ref 55), some (.int x1), some (.int x2), some (.int x3), some (.int x4), some (.int x5), none, some (.int x7)] [.int xs0] S) = _
  refine V_istore (c := cI) i156_132.1 (mM_s i156_132.2 rfl) (l1 := [some (.ref 55), some (.int x1), some (.int x2), some (.int x3), some (.int x4), some (.int x5), some (.int xs0), some (.int x7)])  (Nat.le_of_ble_eq_true rfl) rfl ?_
  refine V_iinc (c := cI) i156_134.1 (mM_n i156_134.2) (l1 := [some (.ref 55), some (.int x1), some (.int x2), some (.int x3), some (.int x4), some (.int x5), some (.int xs0), some (.int (x7 + 1))]) rfl rfl rfl ?_
  refine V_goto (c := cI) i156_137.1 (mM_n i156_137.2) rfl ?_
  exact V_msk (l1 := [some (.ref 55), some (.int x1), some (.int x2), some (.int x3), some (.int x4), some (.int x5), some (.int xs0), some (.int (x7 + 1))]) i156_73.2 rfl rfl
theorem k_Mod_fitsNow_170_eq {x1 : Int32} {x2 : Int32} {x3 : Int32} {x4 : Int32} {x5 : Int32}  {S : Mem} : k_Mod_fitsNow_170 x1 x2 x3 x4 x5 S = k_Mod_fitsNow_60 x1 x2 x3 x4 (x5 + 1) S := by
  show cI (mV oS X0 156 170 [some (.ref 55), some (.int x1), some (.int x2), some (.int x3), some (.int x4), some (.int x5), none, none] [] S) = _
  refine V_iinc (c := cI) i156_170.1 (mM_s i156_170.2 rfl) (l1 := [some (.ref 55), some (.int x1), some (.int x2), some (.int x3), some (.int x4), some (.int (x5 + 1)), none, none]) rfl rfl rfl ?_
  refine V_goto (c := cI) i156_173.1 (mM_n i156_173.2) rfl ?_
  exact V_msk (l1 := [some (.ref 55), some (.int x1), some (.int x2), some (.int x3), some (.int x4), some (.int (x5 + 1)), none, none]) i156_60.2 rfl rfl
theorem k_Mod_fitsNow_179_eq {x4 : Int32} {x5 : Int32}  {S : Mem} : k_Mod_fitsNow_179 x4 x5 S = if 5 ≤ x5 then some (x4, S) else if inb x5 5 = true then if inb x5 5 = true then k_Mod_fitsNow_179 x4 (x5 + 1) (u1 S 62 x5.toNatClampNeg (S.1 74 (x5.toNatClampNeg))) else none else none := by
  show cI (mV oS X0 156 179 [some (.ref 55), none, none, none, some (.int x4), some (.int x5), none, none] [] S) = _
  refine V_iload (c := cI) i156_179.1 (mM_s i156_179.2 rfl) rfl ?_
  refine V_iconst (c := cI) i156_181.1 (mM_n i156_181.2) (v := 5) rfl ?_
  refine V_icmp_ge (c := cI) i156_182.1 (mM_n i156_182.2) rfl (fun _ => ?_) (fun _ => ?_)
  · refine V_iload (c := cI) i156_205.1 (mM_n i156_205.2) rfl ?_
    exact V_iret i156_207.1 (mM_n i156_207.2) rfl
  · refine V_aload_n (c := cI) i156_185.1 (mM_n i156_185.2) rfl rfl ?_
    refine V_gf (c := cI) i156_186.1 (mM_n i156_186.2) (v := .ref 62) g156_29 rfl ?_
    refine V_iload (c := cI) i156_189.1 (mM_n i156_189.2) rfl ?_
    refine V_aload_n (c := cI) i156_191.1 (mM_n i156_191.2) rfl rfl ?_
    refine V_gf (c := cI) i156_192.1 (mM_n i156_192.2) (v := .ref 74) g156_66 rfl ?_
    refine V_iload (c := cI) i156_195.1 (mM_n i156_195.2) rfl ?_
    refine V_iaload (c := cI) i156_197.1 (mM_n i156_197.2) rfl rfl (fun _ => ?_)
    refine V_iastore (c := cI) (x1 := (S.1 74 (x5.toNatClampNeg))) i156_198.1 (mM_n i156_198.2) rfl rfl rfl rfl (fun _ => ?_)
    refine V_iinc (c := cI) i156_199.1 (mM_n i156_199.2) (l1 := [some (.ref 55), none, none, none, some (.int x4), some (.int (x5 + 1)), none, none]) rfl rfl rfl ?_
    refine V_goto (c := cI) i156_202.1 (mM_n i156_202.2) rfl ?_
    exact V_msk (l1 := [some (.ref 55), none, none, none, some (.int x4), some (.int (x5 + 1)), none, none]) i156_179.2 rfl rfl
theorem f_Mod_isSet_eq {x1 : Int32}  {S : Mem} : f_Mod_isSet x1 S = bI (f_Mod_within x1 0 (((1 : Int32) <<< ((S.1 55 7) &&& 31)) - 1) S) (fun r6 S5 => if r6 = 0 then k_Mod_isSet_28 S5 else bI (f_Mod_size x1 S5) (fun r8 S7 => if 4 ≤ r8 then k_Mod_isSet_28 S7 else k_Mod_isSet_29 1 S7)) := by
  show cI (mV oS X0 157 0 [some (.ref 55), some (.int x1)] [] S) = _
  refine V_iload_n (c := cI) i157_0.1 (mM_n i157_0.2) rfl ?_
  refine V_iconst (c := cI) i157_1.1 (mM_n i157_1.2) (v := 0) rfl ?_
  refine V_iconst (c := cI) i157_2.1 (mM_n i157_2.2) (v := 1) rfl ?_
  refine V_aload_n (c := cI) i157_3.1 (mM_n i157_3.2) rfl rfl ?_
  refine V_gf (c := cI) i157_4.1 (mM_n i157_4.2) (v := .int (S.1 55 7)) g157_152 rfl ?_
  refine V_ishl (c := cI) i157_7.1 (mM_n i157_7.2)  ?_
  refine V_iconst (c := cI) i157_8.1 (mM_n i157_8.2) (v := 1) rfl ?_
  refine V_isub (c := cI) i157_9.1 (mM_n i157_9.2)  ?_
  refine V_ciI (c := cI) (As := [.int x1, .int 0, .int (((1 : Int32) <<< ((S.1 55 7) &&& 31)) - 1)]) (rest := []) i157_10.1 (mM_n i157_10.2) c157_105 rfl rfl rfl (Nat.le_of_ble_eq_true rfl) rfl (fun r6 S5 => ?_)
  refine V_if_eq (c := cI) i157_13.1 (mM_n i157_13.2) rfl (fun _ => ?_) (fun _ => ?_)
  · exact V_msk (l1 := [none, none]) i157_28.2 rfl rfl
  · refine V_iload_n (c := cI) i157_16.1 (mM_n i157_16.2) rfl ?_
    refine V_ciI (c := cI) (As := [.int x1]) (rest := []) i157_17.1 (mM_n i157_17.2) c157_256 rfl rfl rfl (Nat.le_of_ble_eq_true rfl) rfl (fun r8 S7 => ?_)
    refine V_iconst (c := cI) i157_20.1 (mM_n i157_20.2) (v := 4) rfl ?_
    refine V_icmp_ge (c := cI) i157_21.1 (mM_n i157_21.2) rfl (fun _ => ?_) (fun _ => ?_)
    · exact V_msk (l1 := [none, none]) i157_28.2 rfl rfl
    · refine V_iconst (c := cI) i157_24.1 (mM_n i157_24.2) (v := 1) rfl ?_
      refine V_goto (c := cI) i157_25.1 (mM_n i157_25.2) rfl ?_
      exact V_msk (l1 := [none, none]) i157_29.2 rfl rfl
theorem k_Mod_isSet_28_eq   {S : Mem} : k_Mod_isSet_28  S = k_Mod_isSet_29 0 S := by
  show cI (mV oS X0 157 28 [none, none] [] S) = _
  refine V_iconst (c := cI) i157_28.1 (mM_s i157_28.2 rfl) (v := 0) rfl ?_
  exact V_msk (l1 := [none, none]) i157_29.2 rfl rfl
theorem k_Mod_isSet_29_eq {xs0 : Int32}  {S : Mem} : k_Mod_isSet_29 xs0 S = if zb xs0 = true then some (xs0, S) else none := by
  show cI (mV oS X0 157 29 [none, none] [.int xs0] S) = _
  exact V_iretZ i157_29.1 (mM_s i157_29.2 rfl) rfl
theorem f_Mod_fits_eq {x1 : Int32}  {S : Mem} : f_Mod_fits x1 S = bI (f_Mod_isSet x1 S) (fun r6 S5 => if r6 = 0 then k_Mod_fits_19 (-102) S5 else bI (f_Mod_fitsNow x1 0 S5) (fun r8 S7 => k_Mod_fits_19 r8 S7)) := by
  show cI (mV oS X0 158 0 [some (.ref 55), some (.int x1)] [] S) = _
  refine V_aload_n (c := cI) i158_0.1 (mM_n i158_0.2) rfl rfl ?_
  refine V_iload_n (c := cI) i158_1.1 (mM_n i158_1.2) rfl ?_
  refine V_cvI (c := cI) (As := [.int x1]) (rest := []) i158_2.1 (mM_n i158_2.2) c158_259 rfl rfl rfl rfl (Nat.le_of_ble_eq_true rfl) rfl (fun r6 S5 => ?_)
  refine V_if_eq (c := cI) i158_5.1 (mM_n i158_5.2) rfl (fun _ => ?_) (fun _ => ?_)
  · refine V_bipush (c := cI) i158_17.1 (mM_n i158_17.2) (v := (-102)) rfl ?_
    exact V_msk (l1 := [none, none]) i158_19.2 rfl rfl
  · refine V_aload_n (c := cI) i158_8.1 (mM_n i158_8.2) rfl rfl ?_
    refine V_iload_n (c := cI) i158_9.1 (mM_n i158_9.2) rfl ?_
    refine V_iconst (c := cI) i158_10.1 (mM_n i158_10.2) (v := 0) rfl ?_
    refine V_cvI (c := cI) (As := [.int x1, .int 0]) (rest := []) i158_11.1 (mM_n i158_11.2) c158_262 rfl rfl rfl rfl (Nat.le_of_ble_eq_true rfl) rfl (fun r8 S7 => ?_)
    refine V_goto (c := cI) i158_14.1 (mM_n i158_14.2) rfl ?_
    exact V_msk (l1 := [none, none]) i158_19.2 rfl rfl
theorem k_Mod_fits_19_eq {xs0 : Int32}  {S : Mem} : k_Mod_fits_19 xs0 S = some (xs0, S) := by
  show cI (mV oS X0 158 19 [none, none] [.int xs0] S) = _
  exact V_iret i158_19.1 (mM_s i158_19.2 rfl) rfl
theorem f_Mod_sureNow_eq {x1 : Int32} {x2 : Int32}  {S : Mem} : f_Mod_sureNow x1 x2 S = bI (f_Mod_fitsNow x2 x1 S) (fun r6 S5 => k_Mod_sureNow_9 x1 x2 0 S5) := by
  show cI (mV oS X0 159 0 [some (.ref 55), some (.int x1), some (.int x2), none] [] S) = _
  refine V_aload_n (c := cI) i159_0.1 (mM_n i159_0.2) rfl rfl ?_
  refine V_iload_n (c := cI) i159_1.1 (mM_n i159_1.2) rfl ?_
  refine V_iload_n (c := cI) i159_2.1 (mM_n i159_2.2) rfl ?_
  refine V_cvI (c := cI) (As := [.int x2, .int x1]) (rest := []) i159_3.1 (mM_n i159_3.2) c159_262 rfl rfl rfl rfl (Nat.le_of_ble_eq_true rfl) rfl (fun r6 S5 => ?_)
  refine V_pop (c := cI) i159_6.1 (mM_n i159_6.2) rfl ?_
  refine V_iconst (c := cI) i159_7.1 (mM_n i159_7.2) (v := 0) rfl ?_
  refine V_istore_n (c := cI) i159_8.1 (mM_n i159_8.2) (l1 := [some (.ref 55), some (.int x1), some (.int x2), some (.int 0)])  (Nat.le_of_ble_eq_true rfl) rfl ?_
  exact V_msk (l1 := [some (.ref 55), some (.int x1), some (.int x2), some (.int 0)]) i159_9.2 rfl rfl
theorem k_Mod_sureNow_9_eq {x1 : Int32} {x2 : Int32} {x3 : Int32}  {S : Mem} : k_Mod_sureNow_9 x1 x2 x3 S = if 10 ≤ x3 then some ((-1), S) else if (S.1 55 40) = ((1 : Int32) <<< (x3 &&& 31)) then bI (f_Mod_has x2 x1 S) (fun r8 S7 => if r8 = 0 then k_Mod_sureNow_35 x1 x2 x3 S7 else some (x3, S7)) else k_Mod_sureNow_35 x1 x2 x3 S := by
  show cI (mV oS X0 159 9 [some (.ref 55), some (.int x1), some (.int x2), some (.int x3)] [] S) = _
  refine V_iload_n (c := cI) i159_9.1 (mM_s i159_9.2 rfl) rfl ?_
  refine V_bipush (c := cI) i159_10.1 (mM_n i159_10.2) (v := 10) rfl ?_
  refine V_icmp_ge (c := cI) i159_12.1 (mM_n i159_12.2) rfl (fun _ => ?_) (fun _ => ?_)
  · refine V_iconst (c := cI) i159_41.1 (mM_n i159_41.2) (v := (-1)) rfl ?_
    exact V_iret i159_42.1 (mM_n i159_42.2) rfl
  · refine V_aload_n (c := cI) i159_15.1 (mM_n i159_15.2) rfl rfl ?_
    refine V_gf (c := cI) i159_16.1 (mM_n i159_16.2) (v := .int (S.1 55 40)) g159_253 rfl ?_
    refine V_iconst (c := cI) i159_19.1 (mM_n i159_19.2) (v := 1) rfl ?_
    refine V_iload_n (c := cI) i159_20.1 (mM_n i159_20.2) rfl ?_
    refine V_ishl (c := cI) i159_21.1 (mM_n i159_21.2)  ?_
    refine V_icmp_ne (c := cI) i159_22.1 (mM_n i159_22.2) rfl (fun _ => ?_) (fun _ => ?_)
    · refine V_iload_n (c := cI) i159_25.1 (mM_n i159_25.2) rfl ?_
      refine V_iload_n (c := cI) i159_26.1 (mM_n i159_26.2) rfl ?_
      refine V_ciI (c := cI) (As := [.int x2, .int x1]) (rest := []) i159_27.1 (mM_n i159_27.2) c159_196 rfl rfl rfl (Nat.le_of_ble_eq_true rfl) rfl (fun r8 S7 => ?_)
      refine V_if_eq (c := cI) i159_30.1 (mM_n i159_30.2) rfl (fun _ => ?_) (fun _ => ?_)
      · exact V_msk (l1 := [some (.ref 55), some (.int x1), some (.int x2), some (.int x3)]) i159_35.2 rfl rfl
      · refine V_iload_n (c := cI) i159_33.1 (mM_n i159_33.2) rfl ?_
        exact V_iret i159_34.1 (mM_n i159_34.2) rfl
    · exact V_msk (l1 := [some (.ref 55), some (.int x1), some (.int x2), some (.int x3)]) i159_35.2 rfl rfl
theorem k_Mod_sureNow_35_eq {x1 : Int32} {x2 : Int32} {x3 : Int32}  {S : Mem} : k_Mod_sureNow_35 x1 x2 x3 S = k_Mod_sureNow_9 x1 x2 (x3 + 1) S := by
  show cI (mV oS X0 159 35 [some (.ref 55), some (.int x1), some (.int x2), some (.int x3)] [] S) = _
  refine V_iinc (c := cI) i159_35.1 (mM_s i159_35.2 rfl) (l1 := [some (.ref 55), some (.int x1), some (.int x2), some (.int (x3 + 1))]) rfl rfl rfl ?_
  refine V_goto (c := cI) i159_38.1 (mM_n i159_38.2) rfl ?_
  exact V_msk (l1 := [some (.ref 55), some (.int x1), some (.int x2), some (.int (x3 + 1))]) i159_9.2 rfl rfl
theorem f_Mod_sure_eq {x1 : Int32} {x2 : Int32}  {S : Mem} : f_Mod_sure x1 x2 S = bI (f_Mod_isWalker x1 S) (fun r8 S7 => if r8 = 0 then some ((-101), S7) else bI (f_Mod_isSet x2 S7) (fun r10 S9 => if r10 = 0 then k_Mod_sure_30 (-102) S9 else bI (f_Mod_sureNow x1 x2 S9) (fun r12 S11 => k_Mod_sure_30 r12 S11))) := by
  show cI (mV oS X0 160 0 [some (.ref 55), some (.int x1), some (.int x2)] [] S) = _
  refine V_aload_n (c := cI) i160_0.1 (mM_n i160_0.2) rfl rfl ?_
  refine V_iload_n (c := cI) i160_1.1 (mM_n i160_1.2) rfl ?_
  refine V_cvI (c := cI) (As := [.int x1]) (rest := []) i160_2.1 (mM_n i160_2.2) c160_168 rfl rfl rfl rfl (Nat.le_of_ble_eq_true rfl) rfl (fun r8 S7 => ?_)
  refine V_if_ne (c := cI) i160_5.1 (mM_n i160_5.2) rfl (fun _ => ?_) (fun _ => ?_)
  · refine V_bipush (c := cI) i160_8.1 (mM_n i160_8.2) (v := (-101)) rfl ?_
    exact V_iret i160_10.1 (mM_n i160_10.2) rfl
  · refine V_aload_n (c := cI) i160_11.1 (mM_n i160_11.2) rfl rfl ?_
    refine V_iload_n (c := cI) i160_12.1 (mM_n i160_12.2) rfl ?_
    refine V_cvI (c := cI) (As := [.int x2]) (rest := []) i160_13.1 (mM_n i160_13.2) c160_259 rfl rfl rfl rfl (Nat.le_of_ble_eq_true rfl) rfl (fun r10 S9 => ?_)
    refine V_if_eq (c := cI) i160_16.1 (mM_n i160_16.2) rfl (fun _ => ?_) (fun _ => ?_)
    · refine V_bipush (c := cI) i160_28.1 (mM_n i160_28.2) (v := (-102)) rfl ?_
      exact V_msk (l1 := [none, none, none]) i160_30.2 rfl rfl
    · refine V_aload_n (c := cI) i160_19.1 (mM_n i160_19.2) rfl rfl ?_
      refine V_iload_n (c := cI) i160_20.1 (mM_n i160_20.2) rfl ?_
      refine V_iload_n (c := cI) i160_21.1 (mM_n i160_21.2) rfl ?_
      refine V_cvI (c := cI) (As := [.int x1, .int x2]) (rest := []) i160_22.1 (mM_n i160_22.2) c160_265 rfl rfl rfl rfl (Nat.le_of_ble_eq_true rfl) rfl (fun r12 S11 => ?_)
      refine V_goto (c := cI) i160_25.1 (mM_n i160_25.2) rfl ?_
      exact V_msk (l1 := [none, none, none]) i160_30.2 rfl rfl
theorem k_Mod_sure_30_eq {xs0 : Int32}  {S : Mem} : k_Mod_sure_30 xs0 S = some (xs0, S) := by
  show cI (mV oS X0 160 30 [none, none, none] [.int xs0] S) = _
  exact V_iret i160_30.1 (mM_s i160_30.2 rfl) rfl
theorem f_Mod_draw_eq {x1 : Int32}  {S : Mem} : f_Mod_draw x1 S = if x1.toInt64 = 0 then none else some ((((((1103515245 * (S.2 55 41)) + 12345) &&& 2147483647) / 65536) - ((((1103515245 * (S.2 55 41)) + 12345) &&& 2147483647) / 65536) / x1.toInt64 * x1.toInt64).toInt32, u2 S 55 41 (((1103515245 * (S.2 55 41)) + 12345) &&& 2147483647)) := by
  show cI (mV oS X0 161 0 [some (.ref 55), some (.int x1)] [] S) = _
  refine V_aload_n (c := cI) i161_0.1 (mM_n i161_0.2) rfl rfl ?_
  refine V_ldc2_w (c := cI) i161_1.1 (mM_n i161_1.2) q161_268 ?_
  refine V_aload_n (c := cI) i161_4.1 (mM_n i161_4.2) rfl rfl ?_
  refine V_gf (c := cI) i161_5.1 (mM_n i161_5.2) (v := .long (S.2 55 41)) g161_270 rfl ?_
  refine V_lmul (c := cI) i161_8.1 (mM_n i161_8.2)  ?_
  refine V_ldc2_w (c := cI) i161_9.1 (mM_n i161_9.2) q161_274 ?_
  refine V_ladd (c := cI) i161_12.1 (mM_n i161_12.2)  ?_
  refine V_ldc2_w (c := cI) i161_13.1 (mM_n i161_13.2) q161_276 ?_
  refine V_land (c := cI) i161_16.1 (mM_n i161_16.2)  ?_
  refine V_pf (c := cI) i161_17.1 (mM_n i161_17.2) p161_270 (pf_j rfl rfl rfl) ?_
  refine V_aload_n (c := cI) i161_20.1 (mM_n i161_20.2) rfl rfl ?_
  refine V_gf (c := cI) i161_21.1 (mM_n i161_21.2) (v := .long (((1103515245 * (S.2 55 41)) + 12345) &&& 2147483647)) g161_270 rfl ?_
  refine V_ldc2_w (c := cI) i161_24.1 (mM_n i161_24.2) q161_278 ?_
  refine V_ldivL (c := cI) i161_27.1 (mM_n i161_27.2) (by decide) ?_
  refine V_iload_n (c := cI) i161_28.1 (mM_n i161_28.2) rfl ?_
  refine V_i2l (c := cI) i161_29.1 (mM_n i161_29.2)  ?_
  refine V_lrem (c := cI) i161_30.1 (mM_n i161_30.2) rfl (fun _ => ?_)
  refine V_l2i (c := cI) i161_31.1 (mM_n i161_31.2)  ?_
  exact V_iret i161_32.1 (mM_n i161_32.2) rfl
theorem f_Mod_joined_eq {x1 : Int32} {x2 : Int32}  {S : Mem} : f_Mod_joined x1 x2 S = k_Mod_joined_8 x1 x2 0 x1 S := by
  show cI (mV oS X0 162 0 [some (.ref 55), some (.int x1), some (.int x2), none, none, none] [] S) = _
  refine V_iload_n (c := cI) i162_0.1 (mM_n i162_0.2) rfl ?_
  refine V_istore_n (c := cI) i162_1.1 (mM_n i162_1.2) (l1 := [some (.ref 55), some (.int x1), some (.int x2), some (.int x2), none, none])  (Nat.le_of_ble_eq_true rfl) rfl ?_
  refine V_iconst (c := cI) i162_2.1 (mM_n i162_2.2) (v := 0) rfl ?_
  refine V_istore (c := cI) i162_3.1 (mM_n i162_3.2) (l1 := [some (.ref 55), some (.int x1), some (.int x2), some (.int x2), some (.int 0), none])  (Nat.le_of_ble_eq_true rfl) rfl ?_
  refine V_iload_n (c := cI) i162_5.1 (mM_n i162_5.2) rfl ?_
  refine V_istore (c := cI) i162_6.1 (mM_n i162_6.2) (l1 := [some (.ref 55), some (.int x1), some (.int x2), some (.int x2), some (.int 0), some (.int x1)])  (Nat.le_of_ble_eq_true rfl) rfl ?_
  exact V_msk (l1 := [some (.ref 55), some (.int x1), none, some (.int x2), some (.int 0), some (.int x1)]) i162_8.2 rfl rfl
theorem k_Mod_joined_8_eq {x1 : Int32} {x3 : Int32} {x4 : Int32} {x5 : Int32}  {S : Mem} : k_Mod_joined_8 x1 x3 x4 x5 S = if 8 ≤ x4 then k_Mod_joined_57 x5 S else if x3 ≤ 0 then k_Mod_joined_57 x5 S else bI (f_Mod_laneOf x1 x4 S) (fun r4 S3 => if r4 = (-1) then k_Mod_joined_36 x1 x4 x5 0 x3 S3 else k_Mod_joined_36 x1 x4 x5 1 x3 S3) := by
  show cI (mV oS X0 162 8 [some (.ref 55), some (.int x1), none, some (.int x3), some (.int x4), some (.int x5)] [] S) = _
  refine V_iload (c := cI) i162_8.1 (mM_s i162_8.2 rfl) rfl ?_
  refine V_bipush (c := cI) i162_10.1 (mM_n i162_10.2) (v := 8) rfl ?_
  refine V_icmp_ge (c := cI) i162_12.1 (mM_n i162_12.2) rfl (fun _ => ?_) (fun _ => ?_)
  · exact V_msk (l1 := [none, none, none, none, none, some (.int x5)]) i162_57.2 rfl rfl
  · refine V_iload_n (c := cI) i162_15.1 (mM_n i162_15.2) rfl ?_
    refine V_if_le (c := cI) i162_16.1 (mM_n i162_16.2) rfl (fun _ => ?_) (fun _ => ?_)
    · exact V_msk (l1 := [none, none, none, none, none, some (.int x5)]) i162_57.2 rfl rfl
    · refine V_iload_n (c := cI) i162_19.1 (mM_n i162_19.2) rfl ?_
      refine V_aload_n (c := cI) i162_20.1 (mM_n i162_20.2) rfl rfl ?_
      refine V_iload_n (c := cI) i162_21.1 (mM_n i162_21.2) rfl ?_
      refine V_iload (c := cI) i162_22.1 (mM_n i162_22.2) rfl ?_
      refine V_cvI (c := cI) (As := [.int x1, .int x4]) (rest := [.int x3]) i162_24.1 (mM_n i162_24.2) c162_174 rfl rfl rfl rfl (Nat.le_of_ble_eq_true rfl) rfl (fun r4 S3 => ?_)
      refine V_iconst (c := cI) i162_27.1 (mM_n i162_27.2) (v := (-1)) rfl ?_
      refine V_icmp_ne (c := cI) i162_28.1 (mM_n i162_28.2) rfl (fun _ => ?_) (fun _ => ?_)
      · refine V_iconst (c := cI) i162_31.1 (mM_n i162_31.2) (v := 0) rfl ?_
        refine V_goto (c := cI) i162_32.1 (mM_n i162_32.2) rfl ?_
        exact V_msk (l1 := [some (.ref 55), some (.int x1), none, none, some (.int x4), some (.int x5)]) i162_36.2 rfl rfl
      · refine V_iconst (c := cI) i162_35.1 (mM_n i162_35.2) (v := 1) rfl ?_
        exact V_msk (l1 := [some (.ref 55), some (.int x1), none, none, some (.int x4), some (.int x5)]) i162_36.2 rfl rfl
theorem k_Mod_joined_36_eq {x1 : Int32} {x4 : Int32} {x5 : Int32} {xs0 : Int32} {xs1 : Int32}  {S : Mem} : k_Mod_joined_36 x1 x4 x5 xs0 xs1 S = if (xs1 - xs0) = 0 then k_Mod_joined_49 x1 (xs1 - xs0) x4 x4 S else k_Mod_joined_49 x1 (xs1 - xs0) x4 x5 S := by
  show cI (mV oS X0 162 36 [some (.ref 55), some (.int x1), none, none, some (.int x4), some (.int x5)] [.int xs0, .int xs1] S) = _
  refine V_isub (c := cI) i162_36.1 (mM_s i162_36.2 rfl)  ?_
  refine V_istore_n (c := cI) i162_37.1 (mM_n i162_37.2) (l1 := [some (.ref 55), some (.int x1), none, some (.int (xs1 - xs0)), some (.int x4), some (.int x5)])  (Nat.le_of_ble_eq_true rfl) rfl ?_
  refine V_iload_n (c := cI) i162_38.1 (mM_n i162_38.2) rfl ?_
  refine V_if_ne (c := cI) i162_39.1 (mM_n i162_39.2) rfl (fun _ => ?_) (fun _ => ?_)
  · refine V_iload (c := cI) i162_42.1 (mM_n i162_42.2) rfl ?_
    refine V_goto (c := cI) i162_44.1 (mM_n i162_44.2) rfl ?_
    exact V_msk (l1 := [some (.ref 55), some (.int x1), none, some (.int (xs1 - xs0)), some (.int x4), none]) i162_49.2 rfl rfl
  · refine V_iload (c := cI) i162_47.1 (mM_n i162_47.2) rfl ?_
    exact V_msk (l1 := [some (.ref 55), some (.int x1), none, some (.int (xs1 - xs0)), some (.int x4), none]) i162_49.2 rfl rfl
theorem k_Mod_joined_49_eq {x1 : Int32} {x3 : Int32} {x4 : Int32} {xs0 : Int32}  {S : Mem} : k_Mod_joined_49 x1 x3 x4 xs0 S = k_Mod_joined_8 x1 x3 (x4 + 1) xs0 S := by
  show cI (mV oS X0 162 49 [some (.ref 55), some (.int x1), none, some (.int x3), some (.int x4), none] [.int xs0] S) = _
  refine V_istore (c := cI) i162_49.1 (mM_s i162_49.2 rfl) (l1 := [some (.ref 55), some (.int x1), none, some (.int x3), some (.int x4), some (.int xs0)])  (Nat.le_of_ble_eq_true rfl) rfl ?_
  refine V_iinc (c := cI) i162_51.1 (mM_n i162_51.2) (l1 := [some (.ref 55), some (.int x1), none, some (.int x3), some (.int (x4 + 1)), some (.int xs0)]) rfl rfl rfl ?_
  refine V_goto (c := cI) i162_54.1 (mM_n i162_54.2) rfl ?_
  exact V_msk (l1 := [some (.ref 55), some (.int x1), none, some (.int x3), some (.int (x4 + 1)), some (.int xs0)]) i162_8.2 rfl rfl
theorem k_Mod_joined_57_eq {x5 : Int32}  {S : Mem} : k_Mod_joined_57 x5 S = some (x5, S) := by
  show cI (mV oS X0 162 57 [none, none, none, none, none, some (.int x5)] [] S) = _
  refine V_iload (c := cI) i162_57.1 (mM_s i162_57.2 rfl) rfl ?_
  exact V_iret i162_59.1 (mM_n i162_59.2) rfl
theorem f_Mod_degree_eq {x1 : Int32}  {S : Mem} : f_Mod_degree x1 S = k_Mod_degree_4 x1 0 0 S := by
  show cI (mV oS X0 163 0 [some (.ref 55), some (.int x1), none, none] [] S) = _
  refine V_iconst (c := cI) i163_0.1 (mM_n i163_0.2) (v := 0) rfl ?_
  refine V_istore_n (c := cI) i163_1.1 (mM_n i163_1.2) (l1 := [some (.ref 55), some (.int x1), some (.int 0), none])  (Nat.le_of_ble_eq_true rfl) rfl ?_
  refine V_iconst (c := cI) i163_2.1 (mM_n i163_2.2) (v := 0) rfl ?_
  refine V_istore_n (c := cI) i163_3.1 (mM_n i163_3.2) (l1 := [some (.ref 55), some (.int x1), some (.int 0), some (.int 0)])  (Nat.le_of_ble_eq_true rfl) rfl ?_
  exact V_msk (l1 := [some (.ref 55), some (.int x1), some (.int 0), some (.int 0)]) i163_4.2 rfl rfl
theorem k_Mod_degree_4_eq {x1 : Int32} {x2 : Int32} {x3 : Int32}  {S : Mem} : k_Mod_degree_4 x1 x2 x3 S = if 8 ≤ x3 then some (x2, S) else bI (f_Mod_laneOf x1 x3 S) (fun r4 S3 => if r4 = (-1) then k_Mod_degree_26 x1 x3 0 x2 S3 else k_Mod_degree_26 x1 x3 1 x2 S3) := by
  show cI (mV oS X0 163 4 [some (.ref 55), some (.int x1), some (.int x2), some (.int x3)] [] S) = _
  refine V_iload_n (c := cI) i163_4.1 (mM_s i163_4.2 rfl) rfl ?_
  refine V_bipush (c := cI) i163_5.1 (mM_n i163_5.2) (v := 8) rfl ?_
  refine V_icmp_ge (c := cI) i163_7.1 (mM_n i163_7.2) rfl (fun _ => ?_) (fun _ => ?_)
  · refine V_iload_n (c := cI) i163_34.1 (mM_n i163_34.2) rfl ?_
    exact V_iret i163_35.1 (mM_n i163_35.2) rfl
  · refine V_iload_n (c := cI) i163_10.1 (mM_n i163_10.2) rfl ?_
    refine V_aload_n (c := cI) i163_11.1 (mM_n i163_11.2) rfl rfl ?_
    refine V_iload_n (c := cI) i163_12.1 (mM_n i163_12.2) rfl ?_
    refine V_iload_n (c := cI) i163_13.1 (mM_n i163_13.2) rfl ?_
    refine V_cvI (c := cI) (As := [.int x1, .int x3]) (rest := [.int x2]) i163_14.1 (mM_n i163_14.2) c163_174 rfl rfl rfl rfl (Nat.le_of_ble_eq_true rfl) rfl (fun r4 S3 => ?_)
    refine V_iconst (c := cI) i163_17.1 (mM_n i163_17.2) (v := (-1)) rfl ?_
    refine V_icmp_ne (c := cI) i163_18.1 (mM_n i163_18.2) rfl (fun _ => ?_) (fun _ => ?_)
    · refine V_iconst (c := cI) i163_21.1 (mM_n i163_21.2) (v := 0) rfl ?_
      refine V_goto (c := cI) i163_22.1 (mM_n i163_22.2) rfl ?_
      exact V_msk (l1 := [some (.ref 55), some (.int x1), none, some (.int x3)]) i163_26.2 rfl rfl
    · refine V_iconst (c := cI) i163_25.1 (mM_n i163_25.2) (v := 1) rfl ?_
      exact V_msk (l1 := [some (.ref 55), some (.int x1), none, some (.int x3)]) i163_26.2 rfl rfl
theorem k_Mod_degree_26_eq {x1 : Int32} {x3 : Int32} {xs0 : Int32} {xs1 : Int32}  {S : Mem} : k_Mod_degree_26 x1 x3 xs0 xs1 S = k_Mod_degree_4 x1 (xs1 + xs0) (x3 + 1) S := by
  show cI (mV oS X0 163 26 [some (.ref 55), some (.int x1), none, some (.int x3)] [.int xs0, .int xs1] S) = _
  refine V_iadd (c := cI) i163_26.1 (mM_s i163_26.2 rfl)  ?_
  refine V_istore_n (c := cI) i163_27.1 (mM_n i163_27.2) (l1 := [some (.ref 55), some (.int x1), some (.int (xs1 + xs0)), some (.int x3)])  (Nat.le_of_ble_eq_true rfl) rfl ?_
  refine V_iinc (c := cI) i163_28.1 (mM_n i163_28.2) (l1 := [some (.ref 55), some (.int x1), some (.int (xs1 + xs0)), some (.int (x3 + 1))]) rfl rfl rfl ?_
  refine V_goto (c := cI) i163_31.1 (mM_n i163_31.2) rfl ?_
  exact V_msk (l1 := [some (.ref 55), some (.int x1), some (.int (xs1 + xs0)), some (.int (x3 + 1))]) i163_4.2 rfl rfl
theorem f_Mod_atGoal_eq   {S : Mem} : f_Mod_atGoal  S = k_Mod_atGoal_4 0 0 S := by
  show cI (mV oS X0 164 0 [some (.ref 55), none, none] [] S) = _
  refine V_iconst (c := cI) i164_0.1 (mM_n i164_0.2) (v := 0) rfl ?_
  refine V_istore_n (c := cI) i164_1.1 (mM_n i164_1.2) (l1 := [some (.ref 55), some (.int 0), none])  (Nat.le_of_ble_eq_true rfl) rfl ?_
  refine V_iconst (c := cI) i164_2.1 (mM_n i164_2.2) (v := 0) rfl ?_
  refine V_istore_n (c := cI) i164_3.1 (mM_n i164_3.2) (l1 := [some (.ref 55), some (.int 0), some (.int 0)])  (Nat.le_of_ble_eq_true rfl) rfl ?_
  exact V_msk (l1 := [some (.ref 55), some (.int 0), some (.int 0)]) i164_4.2 rfl rfl
theorem k_Mod_atGoal_4_eq {x1 : Int32} {x2 : Int32}  {S : Mem} : k_Mod_atGoal_4 x1 x2 S = if (S.1 55 7) ≤ x2 then some (x1, S) else if inb x2 5 = true then if inb x2 5 = true then if (S.1 60 (x2.toNatClampNeg)) = (S.1 61 (x2.toNatClampNeg)) then k_Mod_atGoal_35 x2 ((1 : Int32) <<< (x2 &&& 31)) x1 S else k_Mod_atGoal_35 x2 0 x1 S else none else none := by
  show cI (mV oS X0 164 4 [some (.ref 55), some (.int x1), some (.int x2)] [] S) = _
  refine V_iload_n (c := cI) i164_4.1 (mM_s i164_4.2 rfl) rfl ?_
  refine V_aload_n (c := cI) i164_5.1 (mM_n i164_5.2) rfl rfl ?_
  refine V_gf (c := cI) i164_6.1 (mM_n i164_6.2) (v := .int (S.1 55 7)) g164_152 rfl ?_
  refine V_icmp_ge (c := cI) i164_9.1 (mM_n i164_9.2) rfl (fun _ => ?_) (fun _ => ?_)
  · refine V_iload_n (c := cI) i164_43.1 (mM_n i164_43.2) rfl ?_
    exact V_iret i164_44.1 (mM_n i164_44.2) rfl
  · refine V_iload_n (c := cI) i164_12.1 (mM_n i164_12.2) rfl ?_
    refine V_aload_n (c := cI) i164_13.1 (mM_n i164_13.2) rfl rfl ?_
    refine V_gf (c := cI) i164_14.1 (mM_n i164_14.2) (v := .ref 60) g164_23 rfl ?_
    refine V_iload_n (c := cI) i164_17.1 (mM_n i164_17.2) rfl ?_
    refine V_iaload (c := cI) i164_18.1 (mM_n i164_18.2) rfl rfl (fun _ => ?_)
    refine V_aload_n (c := cI) i164_19.1 (mM_n i164_19.2) rfl rfl ?_
    refine V_gf (c := cI) i164_20.1 (mM_n i164_20.2) (v := .ref 61) g164_26 rfl ?_
    refine V_iload_n (c := cI) i164_23.1 (mM_n i164_23.2) rfl ?_
    refine V_iaload (c := cI) i164_24.1 (mM_n i164_24.2) rfl rfl (fun _ => ?_)
    refine V_icmp_ne (c := cI) i164_25.1 (mM_n i164_25.2) rfl (fun _ => ?_) (fun _ => ?_)
    · refine V_iconst (c := cI) i164_28.1 (mM_n i164_28.2) (v := 1) rfl ?_
      refine V_iload_n (c := cI) i164_29.1 (mM_n i164_29.2) rfl ?_
      refine V_ishl (c := cI) i164_30.1 (mM_n i164_30.2)  ?_
      refine V_goto (c := cI) i164_31.1 (mM_n i164_31.2) rfl ?_
      exact V_msk (l1 := [some (.ref 55), none, some (.int x2)]) i164_35.2 rfl rfl
    · refine V_iconst (c := cI) i164_34.1 (mM_n i164_34.2) (v := 0) rfl ?_
      exact V_msk (l1 := [some (.ref 55), none, some (.int x2)]) i164_35.2 rfl rfl
theorem k_Mod_atGoal_35_eq {x2 : Int32} {xs0 : Int32} {xs1 : Int32}  {S : Mem} : k_Mod_atGoal_35 x2 xs0 xs1 S = k_Mod_atGoal_4 (xs1 ||| xs0) (x2 + 1) S := by
  show cI (mV oS X0 164 35 [some (.ref 55), none, some (.int x2)] [.int xs0, .int xs1] S) = _
  refine V_ior (c := cI) i164_35.1 (mM_s i164_35.2 rfl)  ?_
  refine V_istore_n (c := cI) i164_36.1 (mM_n i164_36.2) (l1 := [some (.ref 55), some (.int (xs1 ||| xs0)), some (.int x2)])  (Nat.le_of_ble_eq_true rfl) rfl ?_
  refine V_iinc (c := cI) i164_37.1 (mM_n i164_37.2) (l1 := [some (.ref 55), some (.int (xs1 ||| xs0)), some (.int (x2 + 1))]) rfl rfl rfl ?_
  refine V_goto (c := cI) i164_40.1 (mM_n i164_40.2) rfl ?_
  exact V_msk (l1 := [some (.ref 55), some (.int (xs1 ||| xs0)), some (.int (x2 + 1))]) i164_4.2 rfl rfl
theorem f_Mod_crowdNow_eq {x1 : Int32} {x2 : Int32} {x3 : Int32}  {S : Mem} : f_Mod_crowdNow x1 x2 x3 S = bU (f_Mod_save S) (fun S15 => k_Mod_crowdNow_16 x1 x3 0 0 (u2 S15 55 41 x2.toInt64)) := by
  show cI (mV oS X0 165 0 [some (.ref 55), some (.int x1), some (.int x2), some (.int x3), none, none, none] [] S) = _
  refine V_aload_n (c := cI) i165_0.1 (mM_n i165_0.2) rfl rfl ?_
  refine V_cvU (c := cI) (As := []) (rest := []) i165_1.1 (mM_n i165_1.2) c165_202 rfl rfl rfl rfl (Nat.le_of_ble_eq_true rfl) rfl (fun S15 => ?_)
  refine V_aload_n (c := cI) i165_4.1 (mM_n i165_4.2) rfl rfl ?_
  refine V_iload_n (c := cI) i165_5.1 (mM_n i165_5.2) rfl ?_
  refine V_i2l (c := cI) i165_6.1 (mM_n i165_6.2)  ?_
  refine V_pf (c := cI) i165_7.1 (mM_n i165_7.2) p165_270 (pf_j rfl rfl rfl) ?_
  refine V_iconst (c := cI) i165_10.1 (mM_n i165_10.2) (v := 0) rfl ?_
  refine V_istore (c := cI) i165_11.1 (mM_n i165_11.2) (l1 := [some (.ref 55), some (.int x1), some (.int x2), some (.int x3), some (.int 0), none, none])  (Nat.le_of_ble_eq_true rfl) rfl ?_
  refine V_iconst (c := cI) i165_13.1 (mM_n i165_13.2) (v := 0) rfl ?_
  refine V_istore (c := cI) i165_14.1 (mM_n i165_14.2) (l1 := [some (.ref 55), some (.int x1), some (.int x2), some (.int x3), some (.int 0), some (.int 0), none])  (Nat.le_of_ble_eq_true rfl) rfl ?_
  exact V_msk (l1 := [some (.ref 55), some (.int x1), none, some (.int x3), some (.int 0), some (.int 0), none]) i165_16.2 rfl rfl
theorem k_Mod_crowdNow_16_eq {x1 : Int32} {x3 : Int32} {x4 : Int32} {x5 : Int32}  {S : Mem} : k_Mod_crowdNow_16 x1 x3 x4 x5 S = if x1 ≤ x5 then bI (f_Mod_atGoal S) (fun r17 S16 => bU (f_Mod_back S16) (fun S18 => if x3 = 0 then k_Mod_crowdNow_178 x4 S18 else if x3 = 1 then k_Mod_crowdNow_178 r17 S18 else k_Mod_crowdNow_178 ((S18.2 55 41).toInt32) S18)) else k_Mod_crowdNow_25 x1 x3 x4 x5 0 S := by
  show cI (mV oS X0 165 16 [some (.ref 55), some (.int x1), none, some (.int x3), some (.int x4), some (.int x5), none] [] S) = _
  refine V_iload (c := cI) i165_16.1 (mM_s i165_16.2 rfl) rfl ?_
  refine V_iload_n (c := cI) i165_18.1 (mM_n i165_18.2) rfl ?_
  refine V_icmp_ge (c := cI) i165_19.1 (mM_n i165_19.2) rfl (fun _ => ?_) (fun _ => ?_)
  · refine V_aload_n (c := cI) i165_144.1 (mM_n i165_144.2) rfl rfl ?_
    refine V_cvI (c := cI) (As := []) (rest := []) i165_145.1 (mM_n i165_145.2) c165_289 rfl rfl rfl rfl (Nat.le_of_ble_eq_true rfl) rfl (fun r17 S16 => ?_)
    refine V_istore (c := cI) i165_148.1 (mM_n i165_148.2) (l1 := [some (.ref 55), some (.int x1), none, some (.int x3), some (.int x4), some (.int r17), none])  (Nat.le_of_ble_eq_true rfl) rfl ?_
    refine V_aload_n (c := cI) i165_150.1 (mM_n i165_150.2) rfl rfl ?_
    refine V_cvU (c := cI) (As := []) (rest := []) i165_151.1 (mM_n i165_151.2) c165_215 rfl rfl rfl rfl (Nat.le_of_ble_eq_true rfl) rfl (fun S18 => ?_)
    refine V_iload_n (c := cI) i165_154.1 (mM_n i165_154.2) rfl ?_
    refine V_if_ne (c := cI) i165_155.1 (mM_n i165_155.2) rfl (fun _ => ?_) (fun _ => ?_)
    · refine V_iload (c := cI) i165_158.1 (mM_n i165_158.2) rfl ?_
      refine V_goto (c := cI) i165_160.1 (mM_n i165_160.2) rfl ?_
      exact V_msk (l1 := [none, none, none, none, none, none, none]) i165_178.2 rfl rfl
    · refine V_iload_n (c := cI) i165_163.1 (mM_n i165_163.2) rfl ?_
      refine V_iconst (c := cI) i165_164.1 (mM_n i165_164.2) (v := 1) rfl ?_
      refine V_icmp_ne (c := cI) i165_165.1 (mM_n i165_165.2) rfl (fun _ => ?_) (fun _ => ?_)
      · refine V_iload (c := cI) i165_168.1 (mM_n i165_168.2) rfl ?_
        refine V_goto (c := cI) i165_170.1 (mM_n i165_170.2) rfl ?_
        exact V_msk (l1 := [none, none, none, none, none, none, none]) i165_178.2 rfl rfl
      · refine V_aload_n (c := cI) i165_173.1 (mM_n i165_173.2) rfl rfl ?_
        refine V_gf (c := cI) i165_174.1 (mM_n i165_174.2) (v := .long (S18.2 55 41)) g165_270 rfl ?_
        refine V_l2i (c := cI) i165_177.1 (mM_n i165_177.2)  ?_
        exact V_msk (l1 := [none, none, none, none, none, none, none]) i165_178.2 rfl rfl
  · refine V_iconst (c := cI) i165_22.1 (mM_n i165_22.2) (v := 0) rfl ?_
    refine V_istore (c := cI) i165_23.1 (mM_n i165_23.2) (l1 := [some (.ref 55), some (.int x1), none, some (.int x3), some (.int x4), some (.int x5), some (.int 0)])  (Nat.le_of_ble_eq_true rfl) rfl ?_
    exact V_msk (l1 := [some (.ref 55), some (.int x1), none, some (.int x3), some (.int x4), some (.int x5), some (.int 0)]) i165_25.2 rfl rfl
theorem k_Mod_crowdNow_25_eq {x1 : Int32} {x3 : Int32} {x4 : Int32} {x5 : Int32} {x6 : Int32}  {S : Mem} : k_Mod_crowdNow_25 x1 x3 x4 x5 x6 S = if (S.1 55 7) ≤ x6 then bI (f_Mod_layBack S) (fun r20 S19 => k_Mod_crowdNow_87 x1 x3 (x4 + r20) x5 0 S19) else if inb x6 5 = true then if inb x6 5 = true then bI (f_Mod_degree (S.1 60 (x6.toNatClampNeg)) S) (fun r22 S21 => bI (f_Mod_draw (r22 + 1) S21) (fun r24 S23 => bI (f_Mod_joined (S.1 60 (x6.toNatClampNeg)) r24 S23) (fun r26 S25 => if inb x6 5 = true then k_Mod_crowdNow_25 x1 x3 x4 x5 (x6 + 1) (u1 S25 71 x6.toNatClampNeg r26) else none))) else none else none := by
  show cI (mV oS X0 165 25 [some (.ref 55), some (.int x1), none, some (.int x3), some (.int x4), some (.int x5), some (.int x6)] [] S) = _
  refine V_iload (c := cI) i165_25.1 (mM_s i165_25.2 rfl) rfl ?_
  refine V_aload_n (c := cI) i165_27.1 (mM_n i165_27.2) rfl rfl ?_
  refine V_gf (c := cI) i165_28.1 (mM_n i165_28.2) (v := .int (S.1 55 7)) g165_152 rfl ?_
  refine V_icmp_ge (c := cI) i165_31.1 (mM_n i165_31.2) rfl (fun _ => ?_) (fun _ => ?_)
  · refine V_iload (c := cI) i165_75.1 (mM_n i165_75.2) rfl ?_
    refine V_aload_n (c := cI) i165_77.1 (mM_n i165_77.2) rfl rfl ?_
    refine V_cvI (c := cI) (As := []) (rest := [.int x4]) i165_78.1 (mM_n i165_78.2) c165_192 rfl rfl rfl rfl (Nat.le_of_ble_eq_true rfl) rfl (fun r20 S19 => ?_)
    refine V_iadd (c := cI) i165_81.1 (mM_n i165_81.2)  ?_
    refine V_istore (c := cI) i165_82.1 (mM_n i165_82.2) (l1 := [some (.ref 55), some (.int x1), none, some (.int x3), some (.int (x4 + r20)), some (.int x5), some (.int x6)])  (Nat.le_of_ble_eq_true rfl) rfl ?_
    refine V_iconst (c := cI) i165_84.1 (mM_n i165_84.2) (v := 0) rfl ?_
    refine V_istore (c := cI) i165_85.1 (mM_n i165_85.2) (l1 := [some (.ref 55), some (.int x1), none, some (.int x3), some (.int (x4 + r20)), some (.int x5), some (.int 0)])  (Nat.le_of_ble_eq_true rfl) rfl ?_
    exact V_msk (l1 := [some (.ref 55), some (.int x1), none, some (.int x3), some (.int (x4 + r20)), some (.int x5), some (.int 0)]) i165_87.2 rfl rfl
  · refine V_aload_n (c := cI) i165_34.1 (mM_n i165_34.2) rfl rfl ?_
    refine V_gf (c := cI) i165_35.1 (mM_n i165_35.2) (v := .ref 71) g165_57 rfl ?_
    refine V_iload (c := cI) i165_38.1 (mM_n i165_38.2) rfl ?_
    refine V_aload_n (c := cI) i165_40.1 (mM_n i165_40.2) rfl rfl ?_
    refine V_aload_n (c := cI) i165_41.1 (mM_n i165_41.2) rfl rfl ?_
    refine V_gf (c := cI) i165_42.1 (mM_n i165_42.2) (v := .ref 60) g165_23 rfl ?_
    refine V_iload (c := cI) i165_45.1 (mM_n i165_45.2) rfl ?_
    refine V_iaload (c := cI) i165_47.1 (mM_n i165_47.2) rfl rfl (fun _ => ?_)
    refine V_aload_n (c := cI) i165_48.1 (mM_n i165_48.2) rfl rfl ?_
    refine V_aload_n (c := cI) i165_49.1 (mM_n i165_49.2) rfl rfl ?_
    refine V_aload_n (c := cI) i165_50.1 (mM_n i165_50.2) rfl rfl ?_
    refine V_gf (c := cI) i165_51.1 (mM_n i165_51.2) (v := .ref 60) g165_23 rfl ?_
    refine V_iload (c := cI) i165_54.1 (mM_n i165_54.2) rfl ?_
    refine V_iaload (c := cI) i165_56.1 (mM_n i165_56.2) rfl rfl (fun _ => ?_)
    refine V_cvI (c := cI) (As := [.int (S.1 60 (x6.toNatClampNeg))]) (rest := [.ref 55, .int (S.1 60 (x6.toNatClampNeg)), .ref 55, .int x6, .ref 71]) i165_57.1 (mM_n i165_57.2) c165_280 rfl rfl rfl rfl (Nat.le_of_ble_eq_true rfl) rfl (fun r22 S21 => ?_)
    refine V_iconst (c := cI) i165_60.1 (mM_n i165_60.2) (v := 1) rfl ?_
    refine V_iadd (c := cI) i165_61.1 (mM_n i165_61.2)  ?_
    refine V_cvI (c := cI) (As := [.int (r22 + 1)]) (rest := [.int (S.1 60 (x6.toNatClampNeg)), .ref 55, .int x6, .ref 71]) i165_62.1 (mM_n i165_62.2) c165_283 rfl rfl rfl rfl (Nat.le_of_ble_eq_true rfl) rfl (fun r24 S23 => ?_)
    refine V_cvI (c := cI) (As := [.int (S.1 60 (x6.toNatClampNeg)), .int r24]) (rest := [.int x6, .ref 71]) i165_65.1 (mM_n i165_65.2) c165_286 rfl rfl rfl rfl (Nat.le_of_ble_eq_true rfl) rfl (fun r26 S25 => ?_)
    refine V_iastore (c := cI) (x1 := r26) i165_68.1 (mM_n i165_68.2) rfl rfl rfl rfl (fun _ => ?_)
    refine V_iinc (c := cI) i165_69.1 (mM_n i165_69.2) (l1 := [some (.ref 55), some (.int x1), none, some (.int x3), some (.int x4), some (.int x5), some (.int (x6 + 1))]) rfl rfl rfl ?_
    refine V_goto (c := cI) i165_72.1 (mM_n i165_72.2) rfl ?_
    exact V_msk (l1 := [some (.ref 55), some (.int x1), none, some (.int x3), some (.int x4), some (.int x5), some (.int (x6 + 1))]) i165_25.2 rfl rfl
theorem k_Mod_crowdNow_87_eq {x1 : Int32} {x3 : Int32} {x4 : Int32} {x5 : Int32} {x6 : Int32}  {S : Mem} : k_Mod_crowdNow_87 x1 x3 x4 x5 x6 S = if (S.1 55 7) ≤ x6 then k_Mod_crowdNow_16 x1 x3 x4 (x5 + 1) S else bI (f_Mod_has (S.1 55 29) x6 S) (fun r28 S27 => if r28 = 0 then if inb x6 5 = true then k_Mod_crowdNow_131 x1 x3 x4 x5 x6 (S27.1 71 (x6.toNatClampNeg)) x6 S27 else none else if inb x6 5 = true then k_Mod_crowdNow_131 x1 x3 x4 x5 x6 (S27.1 60 (x6.toNatClampNeg)) x6 S27 else none) := by
  show cI (mV oS X0 165 87 [some (.ref 55), some (.int x1), none, some (.int x3), some (.int x4), some (.int x5), some (.int x6)] [] S) = _
  refine V_iload (c := cI) i165_87.1 (mM_s i165_87.2 rfl) rfl ?_
  refine V_aload_n (c := cI) i165_89.1 (mM_n i165_89.2) rfl rfl ?_
  refine V_gf (c := cI) i165_90.1 (mM_n i165_90.2) (v := .int (S.1 55 7)) g165_152 rfl ?_
  refine V_icmp_ge (c := cI) i165_93.1 (mM_n i165_93.2) rfl (fun _ => ?_) (fun _ => ?_)
  · refine V_iinc (c := cI) i165_138.1 (mM_n i165_138.2) (l1 := [some (.ref 55), some (.int x1), none, some (.int x3), some (.int x4), some (.int (x5 + 1)), some (.int x6)]) rfl rfl rfl ?_
    refine V_goto (c := cI) i165_141.1 (mM_n i165_141.2) rfl ?_
    exact V_msk (l1 := [some (.ref 55), some (.int x1), none, some (.int x3), some (.int x4), some (.int (x5 + 1)), none]) i165_16.2 rfl rfl
  · refine V_aload_n (c := cI) i165_96.1 (mM_n i165_96.2) rfl rfl ?_
    refine V_gf (c := cI) i165_97.1 (mM_n i165_97.2) (v := .ref 60) g165_23 rfl ?_
    refine V_iload (c := cI) i165_100.1 (mM_n i165_100.2) rfl ?_
    refine V_aload_n (c := cI) i165_102.1 (mM_n i165_102.2) rfl rfl ?_
    refine V_gf (c := cI) i165_103.1 (mM_n i165_103.2) (v := .int (S.1 55 29)) g165_180 rfl ?_
    refine V_iload (c := cI) i165_106.1 (mM_n i165_106.2) rfl ?_
    refine V_ciI (c := cI) (As := [.int (S.1 55 29), .int x6]) (rest := [.int x6, .ref 60]) i165_108.1 (mM_n i165_108.2) c165_196 rfl rfl rfl (Nat.le_of_ble_eq_true rfl) rfl (fun r28 S27 => ?_)
    refine V_if_eq (c := cI) i165_111.1 (mM_n i165_111.2) rfl (fun _ => ?_) (fun _ => ?_)
    · refine V_aload_n (c := cI) i165_124.1 (mM_n i165_124.2) rfl rfl ?_
      refine V_gf (c := cI) i165_125.1 (mM_n i165_125.2) (v := .ref 71) g165_57 rfl ?_
      refine V_iload (c := cI) i165_128.1 (mM_n i165_128.2) rfl ?_
      refine V_iaload (c := cI) i165_130.1 (mM_n i165_130.2) rfl rfl (fun _ => ?_)
      exact V_msk (l1 := [some (.ref 55), some (.int x1), none, some (.int x3), some (.int x4), some (.int x5), some (.int x6)]) i165_131.2 rfl rfl
    · refine V_aload_n (c := cI) i165_114.1 (mM_n i165_114.2) rfl rfl ?_
      refine V_gf (c := cI) i165_115.1 (mM_n i165_115.2) (v := .ref 60) g165_23 rfl ?_
      refine V_iload (c := cI) i165_118.1 (mM_n i165_118.2) rfl ?_
      refine V_iaload (c := cI) i165_120.1 (mM_n i165_120.2) rfl rfl (fun _ => ?_)
      refine V_goto (c := cI) i165_121.1 (mM_n i165_121.2) rfl ?_
      exact V_msk (l1 := [some (.ref 55), some (.int x1), none, some (.int x3), some (.int x4), some (.int x5), some (.int x6)]) i165_131.2 rfl rfl
theorem k_Mod_crowdNow_131_eq {x1 : Int32} {x3 : Int32} {x4 : Int32} {x5 : Int32} {x6 : Int32} {xs0 : Int32} {xs1 : Int32}  {S : Mem} : k_Mod_crowdNow_131 x1 x3 x4 x5 x6 xs0 xs1 S = if inb xs1 5 = true then k_Mod_crowdNow_87 x1 x3 x4 x5 (x6 + 1) (u1 S 60 xs1.toNatClampNeg xs0) else none := by
  show cI (mV oS X0 165 131 [some (.ref 55), some (.int x1), none, some (.int x3), some (.int x4), some (.int x5), some (.int x6)] [.int xs0, .int xs1, .ref 60] S) = _
  refine V_iastore (c := cI) (x1 := xs0) i165_131.1 (mM_s i165_131.2 rfl) rfl rfl rfl rfl (fun _ => ?_)
  refine V_iinc (c := cI) i165_132.1 (mM_n i165_132.2) (l1 := [some (.ref 55), some (.int x1), none, some (.int x3), some (.int x4), some (.int x5), some (.int (x6 + 1))]) rfl rfl rfl ?_
  refine V_goto (c := cI) i165_135.1 (mM_n i165_135.2) rfl ?_
  exact V_msk (l1 := [some (.ref 55), some (.int x1), none, some (.int x3), some (.int x4), some (.int x5), some (.int (x6 + 1))]) i165_87.2 rfl rfl
theorem k_Mod_crowdNow_178_eq {xs0 : Int32}  {S : Mem} : k_Mod_crowdNow_178 xs0 S = some (xs0, S) := by
  show cI (mV oS X0 165 178 [none, none, none, none, none, none, none] [.int xs0] S) = _
  exact V_iret i165_178.1 (mM_s i165_178.2 rfl) rfl
theorem f_Mod_crowd_eq {x1 : Int32} {x2 : Int32} {x3 : Int32}  {S : Mem} : f_Mod_crowd x1 x2 x3 S = bI (f_Mod_within x1 1 60 S) (fun r8 S7 => if r8 = 0 then k_Mod_crowd_23 S7 else if x2 < 0 then k_Mod_crowd_23 S7 else bI (f_Mod_within x3 0 2 S7) (fun r10 S9 => if r10 = 0 then k_Mod_crowd_23 S9 else if (S9.1 55 6) = 0 then k_Mod_crowd_45 (-103) S9 else bI (f_Mod_crowdNow x1 x2 x3 S9) (fun r12 S11 => k_Mod_crowd_45 r12 S11))) := by
  show cI (mV oS X0 166 0 [some (.ref 55), some (.int x1), some (.int x2), some (.int x3)] [] S) = _
  refine V_iload_n (c := cI) i166_0.1 (mM_n i166_0.2) rfl ?_
  refine V_iconst (c := cI) i166_1.1 (mM_n i166_1.2) (v := 1) rfl ?_
  refine V_bipush (c := cI) i166_2.1 (mM_n i166_2.2) (v := 60) rfl ?_
  refine V_ciI (c := cI) (As := [.int x1, .int 1, .int 60]) (rest := []) i166_4.1 (mM_n i166_4.2) c166_105 rfl rfl rfl (Nat.le_of_ble_eq_true rfl) rfl (fun r8 S7 => ?_)
  refine V_if_eq (c := cI) i166_7.1 (mM_n i166_7.2) rfl (fun _ => ?_) (fun _ => ?_)
  · exact V_msk (l1 := [none, none, none, none]) i166_23.2 rfl rfl
  · refine V_iload_n (c := cI) i166_10.1 (mM_n i166_10.2) rfl ?_
    refine V_if_lt (c := cI) i166_11.1 (mM_n i166_11.2) rfl (fun _ => ?_) (fun _ => ?_)
    · exact V_msk (l1 := [none, none, none, none]) i166_23.2 rfl rfl
    · refine V_iload_n (c := cI) i166_14.1 (mM_n i166_14.2) rfl ?_
      refine V_iconst (c := cI) i166_15.1 (mM_n i166_15.2) (v := 0) rfl ?_
      refine V_iconst (c := cI) i166_16.1 (mM_n i166_16.2) (v := 2) rfl ?_
      refine V_ciI (c := cI) (As := [.int x3, .int 0, .int 2]) (rest := []) i166_17.1 (mM_n i166_17.2) c166_105 rfl rfl rfl (Nat.le_of_ble_eq_true rfl) rfl (fun r10 S9 => ?_)
      refine V_if_ne (c := cI) i166_20.1 (mM_n i166_20.2) rfl (fun _ => ?_) (fun _ => ?_)
      · exact V_msk (l1 := [none, none, none, none]) i166_23.2 rfl rfl
      · refine V_aload_n (c := cI) i166_26.1 (mM_n i166_26.2) rfl rfl ?_
        refine V_gf (c := cI) i166_27.1 (mM_n i166_27.2) (v := .int (S9.1 55 6)) g166_149 rfl ?_
        refine V_if_ne (c := cI) i166_30.1 (mM_n i166_30.2) rfl (fun _ => ?_) (fun _ => ?_)
        · refine V_bipush (c := cI) i166_33.1 (mM_n i166_33.2) (v := (-103)) rfl ?_
          refine V_goto (c := cI) i166_35.1 (mM_n i166_35.2) rfl ?_
          exact V_msk (l1 := [none, none, none, none]) i166_45.2 rfl rfl
        · refine V_aload_n (c := cI) i166_38.1 (mM_n i166_38.2) rfl rfl ?_
          refine V_iload_n (c := cI) i166_39.1 (mM_n i166_39.2) rfl ?_
          refine V_iload_n (c := cI) i166_40.1 (mM_n i166_40.2) rfl ?_
          refine V_iload_n (c := cI) i166_41.1 (mM_n i166_41.2) rfl ?_
          refine V_cvI (c := cI) (As := [.int x1, .int x2, .int x3]) (rest := []) i166_42.1 (mM_n i166_42.2) c166_292 rfl rfl rfl rfl (Nat.le_of_ble_eq_true rfl) rfl (fun r12 S11 => ?_)
          exact V_msk (l1 := [none, none, none, none]) i166_45.2 rfl rfl
theorem k_Mod_crowd_23_eq   {S : Mem} : k_Mod_crowd_23  S = some ((-102), S) := by
  show cI (mV oS X0 166 23 [none, none, none, none] [] S) = _
  refine V_bipush (c := cI) i166_23.1 (mM_s i166_23.2 rfl) (v := (-102)) rfl ?_
  exact V_iret i166_25.1 (mM_n i166_25.2) rfl
theorem k_Mod_crowd_45_eq {xs0 : Int32}  {S : Mem} : k_Mod_crowd_45 xs0 S = some (xs0, S) := by
  show cI (mV oS X0 166 45 [none, none, none, none] [.int xs0] S) = _
  exact V_iret i166_45.1 (mM_s i166_45.2 rfl) rfl
theorem f_Mod_image_eq   {S : Mem} : f_Mod_image  S = if (S.1 55 6) = 0 then some ((-103), S) else k_Mod_image_41 0 (u1 (u1 (u1 (u1 S 55 42 1) 55 43 (S.1 55 6)) 55 44 (S.1 55 7)) 55 45 (S.1 55 16)) := by
  show cI (mV oS X0 167 0 [some (.ref 55), none] [] S) = _
  refine V_aload_n (c := cI) i167_0.1 (mM_n i167_0.2) rfl rfl ?_
  refine V_gf (c := cI) i167_1.1 (mM_n i167_1.2) (v := .int (S.1 55 6)) g167_149 rfl ?_
  refine V_if_ne (c := cI) i167_4.1 (mM_n i167_4.2) rfl (fun _ => ?_) (fun _ => ?_)
  · refine V_bipush (c := cI) i167_7.1 (mM_n i167_7.2) (v := (-103)) rfl ?_
    exact V_iret i167_9.1 (mM_n i167_9.2) rfl
  · refine V_aload_n (c := cI) i167_10.1 (mM_n i167_10.2) rfl rfl ?_
    refine V_iconst (c := cI) i167_11.1 (mM_n i167_11.2) (v := 1) rfl ?_
    refine V_pf (c := cI) i167_12.1 (mM_n i167_12.2) p167_296 (pf_z rfl rfl rfl (by decide)) ?_
    refine V_aload_n (c := cI) i167_15.1 (mM_n i167_15.2) rfl rfl ?_
    refine V_aload_n (c := cI) i167_16.1 (mM_n i167_16.2) rfl rfl ?_
    refine V_gf (c := cI) i167_17.1 (mM_n i167_17.2) (v := .int (S.1 55 6)) g167_149 rfl ?_
    refine V_pf (c := cI) i167_20.1 (mM_n i167_20.2) p167_299 (pf_i rfl rfl rfl) ?_
    refine V_aload_n (c := cI) i167_23.1 (mM_n i167_23.2) rfl rfl ?_
    refine V_aload_n (c := cI) i167_24.1 (mM_n i167_24.2) rfl rfl ?_
    refine V_gf (c := cI) i167_25.1 (mM_n i167_25.2) (v := .int (S.1 55 7)) g167_152 rfl ?_
    refine V_pf (c := cI) i167_28.1 (mM_n i167_28.2) p167_302 (pf_i rfl rfl rfl) ?_
    refine V_aload_n (c := cI) i167_31.1 (mM_n i167_31.2) rfl rfl ?_
    refine V_aload_n (c := cI) i167_32.1 (mM_n i167_32.2) rfl rfl ?_
    refine V_gf (c := cI) i167_33.1 (mM_n i167_33.2) (v := .int (S.1 55 16)) g167_155 rfl ?_
    refine V_pf (c := cI) i167_36.1 (mM_n i167_36.2) p167_305 (pf_i rfl rfl rfl) ?_
    refine V_iconst (c := cI) i167_39.1 (mM_n i167_39.2) (v := 0) rfl ?_
    refine V_istore_n (c := cI) i167_40.1 (mM_n i167_40.2) (l1 := [some (.ref 55), some (.int 0)])  (Nat.le_of_ble_eq_true rfl) rfl ?_
    exact V_msk (l1 := [some (.ref 55), some (.int 0)]) i167_41.2 rfl rfl
theorem k_Mod_image_41_eq {x1 : Int32}  {S : Mem} : k_Mod_image_41 x1 S = if 5 ≤ x1 then k_Mod_image_102 0 S else if inb x1 5 = true then if inb x1 5 = true then if inb x1 5 = true then if inb x1 5 = true then if inb x1 5 = true then if inb x1 5 = true then if inb x1 5 = true then if inb x1 5 = true then k_Mod_image_41 (x1 + 1) (u1 (u1 (u1 (u1 S 78 x1.toNatClampNeg (S.1 60 (x1.toNatClampNeg))) 79 x1.toNatClampNeg (S.1 62 (x1.toNatClampNeg))) 80 x1.toNatClampNeg (S.1 64 (x1.toNatClampNeg))) 81 x1.toNatClampNeg (S.1 65 (x1.toNatClampNeg))) else none else none else none else none else none else none else none else none := by
  show cI (mV oS X0 167 41 [some (.ref 55), some (.int x1)] [] S) = _
  refine V_iload_n (c := cI) i167_41.1 (mM_s i167_41.2 rfl) rfl ?_
  refine V_iconst (c := cI) i167_42.1 (mM_n i167_42.2) (v := 5) rfl ?_
  refine V_icmp_ge (c := cI) i167_43.1 (mM_n i167_43.2) rfl (fun _ => ?_) (fun _ => ?_)
  · refine V_iconst (c := cI) i167_100.1 (mM_n i167_100.2) (v := 0) rfl ?_
    refine V_istore_n (c := cI) i167_101.1 (mM_n i167_101.2) (l1 := [some (.ref 55), some (.int 0)])  (Nat.le_of_ble_eq_true rfl) rfl ?_
    exact V_msk (l1 := [some (.ref 55), some (.int 0)]) i167_102.2 rfl rfl
  · refine V_aload_n (c := cI) i167_46.1 (mM_n i167_46.2) rfl rfl ?_
    refine V_gf (c := cI) i167_47.1 (mM_n i167_47.2) (v := .ref 78) g167_78 rfl ?_
    refine V_iload_n (c := cI) i167_50.1 (mM_n i167_50.2) rfl ?_
    refine V_aload_n (c := cI) i167_51.1 (mM_n i167_51.2) rfl rfl ?_
    refine V_gf (c := cI) i167_52.1 (mM_n i167_52.2) (v := .ref 60) g167_23 rfl ?_
    refine V_iload_n (c := cI) i167_55.1 (mM_n i167_55.2) rfl ?_
    refine V_iaload (c := cI) i167_56.1 (mM_n i167_56.2) rfl rfl (fun _ => ?_)
    refine V_iastore (c := cI) (x1 := (S.1 60 (x1.toNatClampNeg))) i167_57.1 (mM_n i167_57.2) rfl rfl rfl rfl (fun _ => ?_)
    refine V_aload_n (c := cI) i167_58.1 (mM_n i167_58.2) rfl rfl ?_
    refine V_gf (c := cI) i167_59.1 (mM_n i167_59.2) (v := .ref 79) g167_81 rfl ?_
    refine V_iload_n (c := cI) i167_62.1 (mM_n i167_62.2) rfl ?_
    refine V_aload_n (c := cI) i167_63.1 (mM_n i167_63.2) rfl rfl ?_
    refine V_gf (c := cI) i167_64.1 (mM_n i167_64.2) (v := .ref 62) g167_29 rfl ?_
    refine V_iload_n (c := cI) i167_67.1 (mM_n i167_67.2) rfl ?_
    refine V_iaload (c := cI) i167_68.1 (mM_n i167_68.2) rfl rfl (fun _ => ?_)
    refine V_iastore (c := cI) (x1 := (S.1 62 (x1.toNatClampNeg))) i167_69.1 (mM_n i167_69.2) rfl rfl rfl rfl (fun _ => ?_)
    refine V_aload_n (c := cI) i167_70.1 (mM_n i167_70.2) rfl rfl ?_
    refine V_gf (c := cI) i167_71.1 (mM_n i167_71.2) (v := .ref 80) g167_84 rfl ?_
    refine V_iload_n (c := cI) i167_74.1 (mM_n i167_74.2) rfl ?_
    refine V_aload_n (c := cI) i167_75.1 (mM_n i167_75.2) rfl rfl ?_
    refine V_gf (c := cI) i167_76.1 (mM_n i167_76.2) (v := .ref 64) g167_35 rfl ?_
    refine V_iload_n (c := cI) i167_79.1 (mM_n i167_79.2) rfl ?_
    refine V_iaload (c := cI) i167_80.1 (mM_n i167_80.2) rfl rfl (fun _ => ?_)
    refine V_iastore (c := cI) (x1 := (S.1 64 (x1.toNatClampNeg))) i167_81.1 (mM_n i167_81.2) rfl rfl rfl rfl (fun _ => ?_)
    refine V_aload_n (c := cI) i167_82.1 (mM_n i167_82.2) rfl rfl ?_
    refine V_gf (c := cI) i167_83.1 (mM_n i167_83.2) (v := .ref 81) g167_87 rfl ?_
    refine V_iload_n (c := cI) i167_86.1 (mM_n i167_86.2) rfl ?_
    refine V_aload_n (c := cI) i167_87.1 (mM_n i167_87.2) rfl rfl ?_
    refine V_gf (c := cI) i167_88.1 (mM_n i167_88.2) (v := .ref 65) g167_38 rfl ?_
    refine V_iload_n (c := cI) i167_91.1 (mM_n i167_91.2) rfl ?_
    refine V_iaload (c := cI) i167_92.1 (mM_n i167_92.2) rfl rfl (fun _ => ?_)
    refine V_iastore (c := cI) (x1 := (S.1 65 (x1.toNatClampNeg))) i167_93.1 (mM_n i167_93.2) rfl rfl rfl rfl (fun _ => ?_)
    refine V_iinc (c := cI) i167_94.1 (mM_n i167_94.2) (l1 := [some (.ref 55), some (.int (x1 + 1))]) rfl rfl rfl ?_
    refine V_goto (c := cI) i167_97.1 (mM_n i167_97.2) rfl ?_
    exact V_msk (l1 := [some (.ref 55), some (.int (x1 + 1))]) i167_41.2 rfl rfl
theorem k_Mod_image_102_eq {x1 : Int32}  {S : Mem} : k_Mod_image_102 x1 S = if 100 ≤ x1 then k_Mod_image_128 0 S else if inb x1 100 = true then if inb x1 100 = true then k_Mod_image_102 (x1 + 1) (u1 S 82 x1.toNatClampNeg (S.1 63 (x1.toNatClampNeg))) else none else none := by
  show cI (mV oS X0 167 102 [some (.ref 55), some (.int x1)] [] S) = _
  refine V_iload_n (c := cI) i167_102.1 (mM_s i167_102.2 rfl) rfl ?_
  refine V_bipush (c := cI) i167_103.1 (mM_n i167_103.2) (v := 100) rfl ?_
  refine V_icmp_ge (c := cI) i167_105.1 (mM_n i167_105.2) rfl (fun _ => ?_) (fun _ => ?_)
  · refine V_iconst (c := cI) i167_126.1 (mM_n i167_126.2) (v := 0) rfl ?_
    refine V_istore_n (c := cI) i167_127.1 (mM_n i167_127.2) (l1 := [some (.ref 55), some (.int 0)])  (Nat.le_of_ble_eq_true rfl) rfl ?_
    exact V_msk (l1 := [some (.ref 55), some (.int 0)]) i167_128.2 rfl rfl
  · refine V_aload_n (c := cI) i167_108.1 (mM_n i167_108.2) rfl rfl ?_
    refine V_gf (c := cI) i167_109.1 (mM_n i167_109.2) (v := .ref 82) g167_90 rfl ?_
    refine V_iload_n (c := cI) i167_112.1 (mM_n i167_112.2) rfl ?_
    refine V_aload_n (c := cI) i167_113.1 (mM_n i167_113.2) rfl rfl ?_
    refine V_gf (c := cI) i167_114.1 (mM_n i167_114.2) (v := .ref 63) g167_32 rfl ?_
    refine V_iload_n (c := cI) i167_117.1 (mM_n i167_117.2) rfl ?_
    refine V_iaload (c := cI) i167_118.1 (mM_n i167_118.2) rfl rfl (fun _ => ?_)
    refine V_iastore (c := cI) (x1 := (S.1 63 (x1.toNatClampNeg))) i167_119.1 (mM_n i167_119.2) rfl rfl rfl rfl (fun _ => ?_)
    refine V_iinc (c := cI) i167_120.1 (mM_n i167_120.2) (l1 := [some (.ref 55), some (.int (x1 + 1))]) rfl rfl rfl ?_
    refine V_goto (c := cI) i167_123.1 (mM_n i167_123.2) rfl ?_
    exact V_msk (l1 := [some (.ref 55), some (.int (x1 + 1))]) i167_102.2 rfl rfl
theorem k_Mod_image_128_eq {x1 : Int32}  {S : Mem} : k_Mod_image_128 x1 S = if 8 ≤ x1 then some ((S.1 55 16), S) else if inb x1 8 = true then if inb x1 8 = true then k_Mod_image_128 (x1 + 1) (u1 S 83 x1.toNatClampNeg (S.1 66 (x1.toNatClampNeg))) else none else none := by
  show cI (mV oS X0 167 128 [some (.ref 55), some (.int x1)] [] S) = _
  refine V_iload_n (c := cI) i167_128.1 (mM_s i167_128.2 rfl) rfl ?_
  refine V_bipush (c := cI) i167_129.1 (mM_n i167_129.2) (v := 8) rfl ?_
  refine V_icmp_ge (c := cI) i167_131.1 (mM_n i167_131.2) rfl (fun _ => ?_) (fun _ => ?_)
  · refine V_aload_n (c := cI) i167_152.1 (mM_n i167_152.2) rfl rfl ?_
    refine V_gf (c := cI) i167_153.1 (mM_n i167_153.2) (v := .int (S.1 55 16)) g167_155 rfl ?_
    exact V_iret i167_156.1 (mM_n i167_156.2) rfl
  · refine V_aload_n (c := cI) i167_134.1 (mM_n i167_134.2) rfl rfl ?_
    refine V_gf (c := cI) i167_135.1 (mM_n i167_135.2) (v := .ref 83) g167_93 rfl ?_
    refine V_iload_n (c := cI) i167_138.1 (mM_n i167_138.2) rfl ?_
    refine V_aload_n (c := cI) i167_139.1 (mM_n i167_139.2) rfl rfl ?_
    refine V_gf (c := cI) i167_140.1 (mM_n i167_140.2) (v := .ref 66) g167_41 rfl ?_
    refine V_iload_n (c := cI) i167_143.1 (mM_n i167_143.2) rfl ?_
    refine V_iaload (c := cI) i167_144.1 (mM_n i167_144.2) rfl rfl (fun _ => ?_)
    refine V_iastore (c := cI) (x1 := (S.1 66 (x1.toNatClampNeg))) i167_145.1 (mM_n i167_145.2) rfl rfl rfl rfl (fun _ => ?_)
    refine V_iinc (c := cI) i167_146.1 (mM_n i167_146.2) (l1 := [some (.ref 55), some (.int (x1 + 1))]) rfl rfl rfl ?_
    refine V_goto (c := cI) i167_149.1 (mM_n i167_149.2) rfl ?_
    exact V_msk (l1 := [some (.ref 55), some (.int (x1 + 1))]) i167_128.2 rfl rfl
theorem f_Mod_restore_eq   {S : Mem} : f_Mod_restore  S = if (S.1 55 42) = 0 then k_Mod_restore_18 S else if (S.1 55 43) = (S.1 55 6) then k_Mod_restore_39 0 (u1 (u1 S 55 7 (S.1 55 44)) 55 16 (S.1 55 45)) else k_Mod_restore_18 S := by
  show cI (mV oS X0 168 0 [some (.ref 55), none] [] S) = _
  refine V_aload_n (c := cI) i168_0.1 (mM_n i168_0.2) rfl rfl ?_
  refine V_gf (c := cI) i168_1.1 (mM_n i168_1.2) (v := .int (S.1 55 42)) g168_296 rfl ?_
  refine V_if_eq (c := cI) i168_4.1 (mM_n i168_4.2) rfl (fun _ => ?_) (fun _ => ?_)
  · exact V_msk (l1 := [none, none]) i168_18.2 rfl rfl
  · refine V_aload_n (c := cI) i168_7.1 (mM_n i168_7.2) rfl rfl ?_
    refine V_gf (c := cI) i168_8.1 (mM_n i168_8.2) (v := .int (S.1 55 43)) g168_299 rfl ?_
    refine V_aload_n (c := cI) i168_11.1 (mM_n i168_11.2) rfl rfl ?_
    refine V_gf (c := cI) i168_12.1 (mM_n i168_12.2) (v := .int (S.1 55 6)) g168_149 rfl ?_
    refine V_icmp_eq (c := cI) i168_15.1 (mM_n i168_15.2) rfl (fun _ => ?_) (fun _ => ?_)
    · refine V_aload_n (c := cI) i168_21.1 (mM_n i168_21.2) rfl rfl ?_
      refine V_aload_n (c := cI) i168_22.1 (mM_n i168_22.2) rfl rfl ?_
      refine V_gf (c := cI) i168_23.1 (mM_n i168_23.2) (v := .int (S.1 55 44)) g168_302 rfl ?_
      refine V_pf (c := cI) i168_26.1 (mM_n i168_26.2) p168_152 (pf_i rfl rfl rfl) ?_
      refine V_aload_n (c := cI) i168_29.1 (mM_n i168_29.2) rfl rfl ?_
      refine V_aload_n (c := cI) i168_30.1 (mM_n i168_30.2) rfl rfl ?_
      refine V_gf (c := cI) i168_31.1 (mM_n i168_31.2) (v := .int (S.1 55 45)) g168_305 rfl ?_
      refine V_pf (c := cI) i168_34.1 (mM_n i168_34.2) p168_155 (pf_i rfl rfl rfl) ?_
      refine V_iconst (c := cI) i168_37.1 (mM_n i168_37.2) (v := 0) rfl ?_
      refine V_istore_n (c := cI) i168_38.1 (mM_n i168_38.2) (l1 := [some (.ref 55), some (.int 0)])  (Nat.le_of_ble_eq_true rfl) rfl ?_
      exact V_msk (l1 := [some (.ref 55), some (.int 0)]) i168_39.2 rfl rfl
    · exact V_msk (l1 := [none, none]) i168_18.2 rfl rfl
theorem k_Mod_restore_18_eq   {S : Mem} : k_Mod_restore_18  S = some ((-103), S) := by
  show cI (mV oS X0 168 18 [none, none] [] S) = _
  refine V_bipush (c := cI) i168_18.1 (mM_s i168_18.2 rfl) (v := (-103)) rfl ?_
  exact V_iret i168_20.1 (mM_n i168_20.2) rfl
theorem k_Mod_restore_39_eq {x1 : Int32}  {S : Mem} : k_Mod_restore_39 x1 S = if 5 ≤ x1 then k_Mod_restore_100 0 S else if inb x1 5 = true then if inb x1 5 = true then if inb x1 5 = true then if inb x1 5 = true then if inb x1 5 = true then if inb x1 5 = true then if inb x1 5 = true then if inb x1 5 = true then k_Mod_restore_39 (x1 + 1) (u1 (u1 (u1 (u1 S 60 x1.toNatClampNeg (S.1 78 (x1.toNatClampNeg))) 62 x1.toNatClampNeg (S.1 79 (x1.toNatClampNeg))) 64 x1.toNatClampNeg (S.1 80 (x1.toNatClampNeg))) 65 x1.toNatClampNeg (S.1 81 (x1.toNatClampNeg))) else none else none else none else none else none else none else none else none := by
  show cI (mV oS X0 168 39 [some (.ref 55), some (.int x1)] [] S) = _
  refine V_iload_n (c := cI) i168_39.1 (mM_s i168_39.2 rfl) rfl ?_
  refine V_iconst (c := cI) i168_40.1 (mM_n i168_40.2) (v := 5) rfl ?_
  refine V_icmp_ge (c := cI) i168_41.1 (mM_n i168_41.2) rfl (fun _ => ?_) (fun _ => ?_)
  · refine V_iconst (c := cI) i168_98.1 (mM_n i168_98.2) (v := 0) rfl ?_
    refine V_istore_n (c := cI) i168_99.1 (mM_n i168_99.2) (l1 := [some (.ref 55), some (.int 0)])  (Nat.le_of_ble_eq_true rfl) rfl ?_
    exact V_msk (l1 := [some (.ref 55), some (.int 0)]) i168_100.2 rfl rfl
  · refine V_aload_n (c := cI) i168_44.1 (mM_n i168_44.2) rfl rfl ?_
    refine V_gf (c := cI) i168_45.1 (mM_n i168_45.2) (v := .ref 60) g168_23 rfl ?_
    refine V_iload_n (c := cI) i168_48.1 (mM_n i168_48.2) rfl ?_
    refine V_aload_n (c := cI) i168_49.1 (mM_n i168_49.2) rfl rfl ?_
    refine V_gf (c := cI) i168_50.1 (mM_n i168_50.2) (v := .ref 78) g168_78 rfl ?_
    refine V_iload_n (c := cI) i168_53.1 (mM_n i168_53.2) rfl ?_
    refine V_iaload (c := cI) i168_54.1 (mM_n i168_54.2) rfl rfl (fun _ => ?_)
    refine V_iastore (c := cI) (x1 := (S.1 78 (x1.toNatClampNeg))) i168_55.1 (mM_n i168_55.2) rfl rfl rfl rfl (fun _ => ?_)
    refine V_aload_n (c := cI) i168_56.1 (mM_n i168_56.2) rfl rfl ?_
    refine V_gf (c := cI) i168_57.1 (mM_n i168_57.2) (v := .ref 62) g168_29 rfl ?_
    refine V_iload_n (c := cI) i168_60.1 (mM_n i168_60.2) rfl ?_
    refine V_aload_n (c := cI) i168_61.1 (mM_n i168_61.2) rfl rfl ?_
    refine V_gf (c := cI) i168_62.1 (mM_n i168_62.2) (v := .ref 79) g168_81 rfl ?_
    refine V_iload_n (c := cI) i168_65.1 (mM_n i168_65.2) rfl ?_
    refine V_iaload (c := cI) i168_66.1 (mM_n i168_66.2) rfl rfl (fun _ => ?_)
    refine V_iastore (c := cI) (x1 := (S.1 79 (x1.toNatClampNeg))) i168_67.1 (mM_n i168_67.2) rfl rfl rfl rfl (fun _ => ?_)
    refine V_aload_n (c := cI) i168_68.1 (mM_n i168_68.2) rfl rfl ?_
    refine V_gf (c := cI) i168_69.1 (mM_n i168_69.2) (v := .ref 64) g168_35 rfl ?_
    refine V_iload_n (c := cI) i168_72.1 (mM_n i168_72.2) rfl ?_
    refine V_aload_n (c := cI) i168_73.1 (mM_n i168_73.2) rfl rfl ?_
    refine V_gf (c := cI) i168_74.1 (mM_n i168_74.2) (v := .ref 80) g168_84 rfl ?_
    refine V_iload_n (c := cI) i168_77.1 (mM_n i168_77.2) rfl ?_
    refine V_iaload (c := cI) i168_78.1 (mM_n i168_78.2) rfl rfl (fun _ => ?_)
    refine V_iastore (c := cI) (x1 := (S.1 80 (x1.toNatClampNeg))) i168_79.1 (mM_n i168_79.2) rfl rfl rfl rfl (fun _ => ?_)
    refine V_aload_n (c := cI) i168_80.1 (mM_n i168_80.2) rfl rfl ?_
    refine V_gf (c := cI) i168_81.1 (mM_n i168_81.2) (v := .ref 65) g168_38 rfl ?_
    refine V_iload_n (c := cI) i168_84.1 (mM_n i168_84.2) rfl ?_
    refine V_aload_n (c := cI) i168_85.1 (mM_n i168_85.2) rfl rfl ?_
    refine V_gf (c := cI) i168_86.1 (mM_n i168_86.2) (v := .ref 81) g168_87 rfl ?_
    refine V_iload_n (c := cI) i168_89.1 (mM_n i168_89.2) rfl ?_
    refine V_iaload (c := cI) i168_90.1 (mM_n i168_90.2) rfl rfl (fun _ => ?_)
    refine V_iastore (c := cI) (x1 := (S.1 81 (x1.toNatClampNeg))) i168_91.1 (mM_n i168_91.2) rfl rfl rfl rfl (fun _ => ?_)
    refine V_iinc (c := cI) i168_92.1 (mM_n i168_92.2) (l1 := [some (.ref 55), some (.int (x1 + 1))]) rfl rfl rfl ?_
    refine V_goto (c := cI) i168_95.1 (mM_n i168_95.2) rfl ?_
    exact V_msk (l1 := [some (.ref 55), some (.int (x1 + 1))]) i168_39.2 rfl rfl
theorem k_Mod_restore_100_eq {x1 : Int32}  {S : Mem} : k_Mod_restore_100 x1 S = if 100 ≤ x1 then k_Mod_restore_126 0 S else if inb x1 100 = true then if inb x1 100 = true then k_Mod_restore_100 (x1 + 1) (u1 S 63 x1.toNatClampNeg (S.1 82 (x1.toNatClampNeg))) else none else none := by
  show cI (mV oS X0 168 100 [some (.ref 55), some (.int x1)] [] S) = _
  refine V_iload_n (c := cI) i168_100.1 (mM_s i168_100.2 rfl) rfl ?_
  refine V_bipush (c := cI) i168_101.1 (mM_n i168_101.2) (v := 100) rfl ?_
  refine V_icmp_ge (c := cI) i168_103.1 (mM_n i168_103.2) rfl (fun _ => ?_) (fun _ => ?_)
  · refine V_iconst (c := cI) i168_124.1 (mM_n i168_124.2) (v := 0) rfl ?_
    refine V_istore_n (c := cI) i168_125.1 (mM_n i168_125.2) (l1 := [some (.ref 55), some (.int 0)])  (Nat.le_of_ble_eq_true rfl) rfl ?_
    exact V_msk (l1 := [some (.ref 55), some (.int 0)]) i168_126.2 rfl rfl
  · refine V_aload_n (c := cI) i168_106.1 (mM_n i168_106.2) rfl rfl ?_
    refine V_gf (c := cI) i168_107.1 (mM_n i168_107.2) (v := .ref 63) g168_32 rfl ?_
    refine V_iload_n (c := cI) i168_110.1 (mM_n i168_110.2) rfl ?_
    refine V_aload_n (c := cI) i168_111.1 (mM_n i168_111.2) rfl rfl ?_
    refine V_gf (c := cI) i168_112.1 (mM_n i168_112.2) (v := .ref 82) g168_90 rfl ?_
    refine V_iload_n (c := cI) i168_115.1 (mM_n i168_115.2) rfl ?_
    refine V_iaload (c := cI) i168_116.1 (mM_n i168_116.2) rfl rfl (fun _ => ?_)
    refine V_iastore (c := cI) (x1 := (S.1 82 (x1.toNatClampNeg))) i168_117.1 (mM_n i168_117.2) rfl rfl rfl rfl (fun _ => ?_)
    refine V_iinc (c := cI) i168_118.1 (mM_n i168_118.2) (l1 := [some (.ref 55), some (.int (x1 + 1))]) rfl rfl rfl ?_
    refine V_goto (c := cI) i168_121.1 (mM_n i168_121.2) rfl ?_
    exact V_msk (l1 := [some (.ref 55), some (.int (x1 + 1))]) i168_100.2 rfl rfl
theorem k_Mod_restore_126_eq {x1 : Int32}  {S : Mem} : k_Mod_restore_126 x1 S = if 8 ≤ x1 then some ((S.1 55 16), S) else if inb x1 8 = true then if inb x1 8 = true then k_Mod_restore_126 (x1 + 1) (u1 S 66 x1.toNatClampNeg (S.1 83 (x1.toNatClampNeg))) else none else none := by
  show cI (mV oS X0 168 126 [some (.ref 55), some (.int x1)] [] S) = _
  refine V_iload_n (c := cI) i168_126.1 (mM_s i168_126.2 rfl) rfl ?_
  refine V_bipush (c := cI) i168_127.1 (mM_n i168_127.2) (v := 8) rfl ?_
  refine V_icmp_ge (c := cI) i168_129.1 (mM_n i168_129.2) rfl (fun _ => ?_) (fun _ => ?_)
  · refine V_aload_n (c := cI) i168_150.1 (mM_n i168_150.2) rfl rfl ?_
    refine V_gf (c := cI) i168_151.1 (mM_n i168_151.2) (v := .int (S.1 55 16)) g168_155 rfl ?_
    exact V_iret i168_154.1 (mM_n i168_154.2) rfl
  · refine V_aload_n (c := cI) i168_132.1 (mM_n i168_132.2) rfl rfl ?_
    refine V_gf (c := cI) i168_133.1 (mM_n i168_133.2) (v := .ref 66) g168_41 rfl ?_
    refine V_iload_n (c := cI) i168_136.1 (mM_n i168_136.2) rfl ?_
    refine V_aload_n (c := cI) i168_137.1 (mM_n i168_137.2) rfl rfl ?_
    refine V_gf (c := cI) i168_138.1 (mM_n i168_138.2) (v := .ref 83) g168_93 rfl ?_
    refine V_iload_n (c := cI) i168_141.1 (mM_n i168_141.2) rfl ?_
    refine V_iaload (c := cI) i168_142.1 (mM_n i168_142.2) rfl rfl (fun _ => ?_)
    refine V_iastore (c := cI) (x1 := (S.1 83 (x1.toNatClampNeg))) i168_143.1 (mM_n i168_143.2) rfl rfl rfl rfl (fun _ => ?_)
    refine V_iinc (c := cI) i168_144.1 (mM_n i168_144.2) (l1 := [some (.ref 55), some (.int (x1 + 1))]) rfl rfl rfl ?_
    refine V_goto (c := cI) i168_147.1 (mM_n i168_147.2) rfl ?_
    exact V_msk (l1 := [some (.ref 55), some (.int (x1 + 1))]) i168_126.2 rfl rfl
theorem f_Mod_wideMany_eq   {S : Mem} : f_Mod_wideMany  S = k_Mod_wideMany_4 0 0 S := by
  show cI (mV oS X0 169 0 [some (.ref 55), none, none] [] S) = _
  refine V_iconst (c := cI) i169_0.1 (mM_n i169_0.2) (v := 0) rfl ?_
  refine V_istore_n (c := cI) i169_1.1 (mM_n i169_1.2) (l1 := [some (.ref 55), some (.int 0), none])  (Nat.le_of_ble_eq_true rfl) rfl ?_
  refine V_iconst (c := cI) i169_2.1 (mM_n i169_2.2) (v := 0) rfl ?_
  refine V_istore_n (c := cI) i169_3.1 (mM_n i169_3.2) (l1 := [some (.ref 55), some (.int 0), some (.int 0)])  (Nat.le_of_ble_eq_true rfl) rfl ?_
  exact V_msk (l1 := [some (.ref 55), some (.int 0), some (.int 0)]) i169_4.2 rfl rfl
theorem k_Mod_wideMany_4_eq {x1 : Int32} {x2 : Int32}  {S : Mem} : k_Mod_wideMany_4 x1 x2 S = if (S.1 55 0) ≤ x2 then some (x1, S) else if inb x2 12 = true then if (S.1 58 (x2.toNatClampNeg)) = 0 then k_Mod_wideMany_27 x2 0 x1 S else k_Mod_wideMany_27 x2 1 x1 S else none := by
  show cI (mV oS X0 169 4 [some (.ref 55), some (.int x1), some (.int x2)] [] S) = _
  refine V_iload_n (c := cI) i169_4.1 (mM_s i169_4.2 rfl) rfl ?_
  refine V_aload_n (c := cI) i169_5.1 (mM_n i169_5.2) rfl rfl ?_
  refine V_gf (c := cI) i169_6.1 (mM_n i169_6.2) (v := .int (S.1 55 0)) g169_140 rfl ?_
  refine V_icmp_ge (c := cI) i169_9.1 (mM_n i169_9.2) rfl (fun _ => ?_) (fun _ => ?_)
  · refine V_iload_n (c := cI) i169_35.1 (mM_n i169_35.2) rfl ?_
    exact V_iret i169_36.1 (mM_n i169_36.2) rfl
  · refine V_iload_n (c := cI) i169_12.1 (mM_n i169_12.2) rfl ?_
    refine V_aload_n (c := cI) i169_13.1 (mM_n i169_13.2) rfl rfl ?_
    refine V_gf (c := cI) i169_14.1 (mM_n i169_14.2) (v := .ref 58) g169_16 rfl ?_
    refine V_iload_n (c := cI) i169_17.1 (mM_n i169_17.2) rfl ?_
    refine V_baload (c := cI) i169_18.1 (mM_n i169_18.2) rfl rfl rfl (fun _ => ?_)
    refine V_if_eq (c := cI) i169_19.1 (mM_n i169_19.2) rfl (fun _ => ?_) (fun _ => ?_)
    · refine V_iconst (c := cI) i169_26.1 (mM_n i169_26.2) (v := 0) rfl ?_
      exact V_msk (l1 := [some (.ref 55), none, some (.int x2)]) i169_27.2 rfl rfl
    · refine V_iconst (c := cI) i169_22.1 (mM_n i169_22.2) (v := 1) rfl ?_
      refine V_goto (c := cI) i169_23.1 (mM_n i169_23.2) rfl ?_
      exact V_msk (l1 := [some (.ref 55), none, some (.int x2)]) i169_27.2 rfl rfl
theorem k_Mod_wideMany_27_eq {x2 : Int32} {xs0 : Int32} {xs1 : Int32}  {S : Mem} : k_Mod_wideMany_27 x2 xs0 xs1 S = k_Mod_wideMany_4 (xs1 + xs0) (x2 + 1) S := by
  show cI (mV oS X0 169 27 [some (.ref 55), none, some (.int x2)] [.int xs0, .int xs1] S) = _
  refine V_iadd (c := cI) i169_27.1 (mM_s i169_27.2 rfl)  ?_
  refine V_istore_n (c := cI) i169_28.1 (mM_n i169_28.2) (l1 := [some (.ref 55), some (.int (xs1 + xs0)), some (.int x2)])  (Nat.le_of_ble_eq_true rfl) rfl ?_
  refine V_iinc (c := cI) i169_29.1 (mM_n i169_29.2) (l1 := [some (.ref 55), some (.int (xs1 + xs0)), some (.int (x2 + 1))]) rfl rfl rfl ?_
  refine V_goto (c := cI) i169_32.1 (mM_n i169_32.2) rfl ?_
  exact V_msk (l1 := [some (.ref 55), some (.int (xs1 + xs0)), some (.int (x2 + 1))]) i169_4.2 rfl rfl
theorem f_Mod_howMany_eq {x1 : Int32}  {S : Mem} : f_Mod_howMany x1 S = if x1 = 0 then some ((S.1 55 0), S) else if x1 = 1 then bI (f_Mod_wideMany S) (fun r8 S7 => some (r8, S7)) else if x1 = 2 then some ((S.1 55 7), S) else if x1 = 3 then bI (f_Mod_atGoal S) (fun r10 S9 => bI (f_Mod_size r10 S9) (fun r12 S11 => some (r12, S11))) else if x1 = 4 then some ((S.1 55 16), S) else if x1 = 5 then some ((S.1 55 18), S) else if x1 = 6 then some ((S.1 55 6), S) else if x1 = 7 then some ((S.1 55 17), S) else if x1 = 8 then if (S.1 55 4) = 0 then k_Mod_howMany_111 0 S else k_Mod_howMany_111 1 S else if x1 = 9 then if (S.1 55 5) = 0 then k_Mod_howMany_124 0 S else k_Mod_howMany_124 1 S else some ((-102), S) := by
  show cI (mV oS X0 170 0 [some (.ref 55), some (.int x1)] [] S) = _
  refine V_iload_n (c := cI) i170_0.1 (mM_n i170_0.2) rfl ?_
  refine V_ite (fun hc0 => ?_) (fun hc0 => ?_)
  · refine V_sw (c := cI) i170_1.1 (mM_n i170_1.2) (o := 55) (by rw [hc0]; rfl) rfl ?_
    refine V_aload_n (c := cI) i170_56.1 (mM_n i170_56.2) rfl rfl ?_
    refine V_gf (c := cI) i170_57.1 (mM_n i170_57.2) (v := .int (S.1 55 0)) g170_140 rfl ?_
    exact V_iret i170_60.1 (mM_n i170_60.2) rfl
  ·
    refine V_ite (fun hc1 => ?_) (fun hc1 => ?_)
    · refine V_sw (c := cI) i170_1.1 (mM_n i170_1.2) (o := 60) (by rw [hc1]; rfl) rfl ?_
      refine V_aload_n (c := cI) i170_61.1 (mM_n i170_61.2) rfl rfl ?_
      refine V_cvI (c := cI) (As := []) (rest := []) i170_62.1 (mM_n i170_62.2) c170_308 rfl rfl rfl rfl (Nat.le_of_ble_eq_true rfl) rfl (fun r8 S7 => ?_)
      exact V_iret i170_65.1 (mM_n i170_65.2) rfl
    ·
      refine V_ite (fun hc2 => ?_) (fun hc2 => ?_)
      · refine V_sw (c := cI) i170_1.1 (mM_n i170_1.2) (o := 65) (by rw [hc2]; rfl) rfl ?_
        refine V_aload_n (c := cI) i170_66.1 (mM_n i170_66.2) rfl rfl ?_
        refine V_gf (c := cI) i170_67.1 (mM_n i170_67.2) (v := .int (S.1 55 7)) g170_152 rfl ?_
        exact V_iret i170_70.1 (mM_n i170_70.2) rfl
      ·
        refine V_ite (fun hc3 => ?_) (fun hc3 => ?_)
        · refine V_sw (c := cI) i170_1.1 (mM_n i170_1.2) (o := 70) (by rw [hc3]; rfl) rfl ?_
          refine V_aload_n (c := cI) i170_71.1 (mM_n i170_71.2) rfl rfl ?_
          refine V_cvI (c := cI) (As := []) (rest := []) i170_72.1 (mM_n i170_72.2) c170_289 rfl rfl rfl rfl (Nat.le_of_ble_eq_true rfl) rfl (fun r10 S9 => ?_)
          refine V_ciI (c := cI) (As := [.int r10]) (rest := []) i170_75.1 (mM_n i170_75.2) c170_256 rfl rfl rfl (Nat.le_of_ble_eq_true rfl) rfl (fun r12 S11 => ?_)
          exact V_iret i170_78.1 (mM_n i170_78.2) rfl
        ·
          refine V_ite (fun hc4 => ?_) (fun hc4 => ?_)
          · refine V_sw (c := cI) i170_1.1 (mM_n i170_1.2) (o := 78) (by rw [hc4]; rfl) rfl ?_
            refine V_aload_n (c := cI) i170_79.1 (mM_n i170_79.2) rfl rfl ?_
            refine V_gf (c := cI) i170_80.1 (mM_n i170_80.2) (v := .int (S.1 55 16)) g170_155 rfl ?_
            exact V_iret i170_83.1 (mM_n i170_83.2) rfl
          ·
            refine V_ite (fun hc5 => ?_) (fun hc5 => ?_)
            · refine V_sw (c := cI) i170_1.1 (mM_n i170_1.2) (o := 83) (by rw [hc5]; rfl) rfl ?_
              refine V_aload_n (c := cI) i170_84.1 (mM_n i170_84.2) rfl rfl ?_
              refine V_gf (c := cI) i170_85.1 (mM_n i170_85.2) (v := .int (S.1 55 18)) g170_98 rfl ?_
              exact V_iret i170_88.1 (mM_n i170_88.2) rfl
            ·
              refine V_ite (fun hc6 => ?_) (fun hc6 => ?_)
              · refine V_sw (c := cI) i170_1.1 (mM_n i170_1.2) (o := 88) (by rw [hc6]; rfl) rfl ?_
                refine V_aload_n (c := cI) i170_89.1 (mM_n i170_89.2) rfl rfl ?_
                refine V_gf (c := cI) i170_90.1 (mM_n i170_90.2) (v := .int (S.1 55 6)) g170_149 rfl ?_
                exact V_iret i170_93.1 (mM_n i170_93.2) rfl
              ·
                refine V_ite (fun hc7 => ?_) (fun hc7 => ?_)
                · refine V_sw (c := cI) i170_1.1 (mM_n i170_1.2) (o := 93) (by rw [hc7]; rfl) rfl ?_
                  refine V_aload_n (c := cI) i170_94.1 (mM_n i170_94.2) rfl rfl ?_
                  refine V_gf (c := cI) i170_95.1 (mM_n i170_95.2) (v := .int (S.1 55 17)) g170_241 rfl ?_
                  exact V_iret i170_98.1 (mM_n i170_98.2) rfl
                ·
                  refine V_ite (fun hc8 => ?_) (fun hc8 => ?_)
                  · refine V_sw (c := cI) i170_1.1 (mM_n i170_1.2) (o := 98) (by rw [hc8]; rfl) rfl ?_
                    refine V_aload_n (c := cI) i170_99.1 (mM_n i170_99.2) rfl rfl ?_
                    refine V_gf (c := cI) i170_100.1 (mM_n i170_100.2) (v := .int (S.1 55 4)) g170_143 rfl ?_
                    refine V_if_eq (c := cI) i170_103.1 (mM_n i170_103.2) rfl (fun _ => ?_) (fun _ => ?_)
                    · refine V_iconst (c := cI) i170_110.1 (mM_n i170_110.2) (v := 0) rfl ?_
                      exact V_msk (l1 := [none, none]) i170_111.2 rfl rfl
                    · refine V_iconst (c := cI) i170_106.1 (mM_n i170_106.2) (v := 1) rfl ?_
                      refine V_goto (c := cI) i170_107.1 (mM_n i170_107.2) rfl ?_
                      exact V_msk (l1 := [none, none]) i170_111.2 rfl rfl
                  ·
                    refine V_ite (fun hc9 => ?_) (fun hc9 => ?_)
                    · refine V_sw (c := cI) i170_1.1 (mM_n i170_1.2) (o := 111) (by rw [hc9]; rfl) rfl ?_
                      refine V_aload_n (c := cI) i170_112.1 (mM_n i170_112.2) rfl rfl ?_
                      refine V_gf (c := cI) i170_113.1 (mM_n i170_113.2) (v := .int (S.1 55 5)) g170_146 rfl ?_
                      refine V_if_eq (c := cI) i170_116.1 (mM_n i170_116.2) rfl (fun _ => ?_) (fun _ => ?_)
                      · refine V_iconst (c := cI) i170_123.1 (mM_n i170_123.2) (v := 0) rfl ?_
                        exact V_msk (l1 := [none, none]) i170_124.2 rfl rfl
                      · refine V_iconst (c := cI) i170_119.1 (mM_n i170_119.2) (v := 1) rfl ?_
                        refine V_goto (c := cI) i170_120.1 (mM_n i170_120.2) rfl ?_
                        exact V_msk (l1 := [none, none]) i170_124.2 rfl rfl
                    ·
                      refine V_sw (c := cI) i170_1.1 (mM_n i170_1.2) (sw_o (n := 10) (by decide) (lt_s (lt_s (lt_s (lt_s (lt_s (lt_s (lt_s (lt_s (lt_s (lt_s lt_0 hc0) hc1) hc2) hc3) hc4) hc5) hc6) hc7) hc8) hc9)) rfl ?_
                      refine V_bipush (c := cI) i170_125.1 (mM_n i170_125.2) (v := (-102)) rfl ?_
                      exact V_iret i170_127.1 (mM_n i170_127.2) rfl
theorem k_Mod_howMany_111_eq {xs0 : Int32}  {S : Mem} : k_Mod_howMany_111 xs0 S = some (xs0, S) := by
  show cI (mV oS X0 170 111 [none, none] [.int xs0] S) = _
  exact V_iret i170_111.1 (mM_s i170_111.2 rfl) rfl
theorem k_Mod_howMany_124_eq {xs0 : Int32}  {S : Mem} : k_Mod_howMany_124 xs0 S = some (xs0, S) := by
  show cI (mV oS X0 170 124 [none, none] [.int xs0] S) = _
  exact V_iret i170_124.1 (mM_s i170_124.2 rfl) rfl
theorem f_Mod_count_eq {x1 : Int32}  {S : Mem} : f_Mod_count x1 S = bI (f_Mod_howMany x1 S) (fun r4 S3 => some (r4, S3)) := by
  show cI (mV oS X0 171 0 [some (.ref 55), some (.int x1)] [] S) = _
  refine V_aload_n (c := cI) i171_0.1 (mM_n i171_0.2) rfl rfl ?_
  refine V_iload_n (c := cI) i171_1.1 (mM_n i171_1.2) rfl ?_
  refine V_cvI (c := cI) (As := [.int x1]) (rest := []) i171_2.1 (mM_n i171_2.2) c171_311 rfl rfl rfl rfl (Nat.le_of_ble_eq_true rfl) rfl (fun r4 S3 => ?_)
  exact V_iret i171_5.1 (mM_n i171_5.2) rfl
theorem f_Mod_mix_eq {j1 : Int64}  {S : Mem} : f_Mod_mix j1 S = some (u2 S 55 52 ((31 * (S.2 55 52)) + j1)) := by
  show cU (mV oS X0 172 0 [some (.ref 55), some (.long j1), none] [] S) = _
  refine V_aload_n (c := cU) i172_0.1 (mM_n i172_0.2) rfl rfl ?_
  refine V_ldc2_w (c := cU) i172_1.1 (mM_n i172_1.2) q172_314 ?_
  refine V_aload_n (c := cU) i172_4.1 (mM_n i172_4.2) rfl rfl ?_
  refine V_gf (c := cU) i172_5.1 (mM_n i172_5.2) (v := .long (S.2 55 52)) g172_316 rfl ?_
  refine V_lmul (c := cU) i172_8.1 (mM_n i172_8.2)  ?_
  refine V_lload_n (c := cU) i172_9.1 (mM_n i172_9.2) rfl ?_
  refine V_ladd (c := cU) i172_10.1 (mM_n i172_10.2)  ?_
  refine V_pf (c := cU) i172_11.1 (mM_n i172_11.2) p172_316 (pf_j rfl rfl rfl) ?_
  exact V_vret i172_14.1 (mM_n i172_14.2) rfl
theorem f_Mod_mixWalker_eq {x1 : Int32}  {S : Mem} : f_Mod_mixWalker x1 S = k_Mod_mixWalker_2 x1 0 S := by
  show cU (mV oS X0 173 0 [some (.ref 55), some (.int x1), none] [] S) = _
  refine V_iconst (c := cU) i173_0.1 (mM_n i173_0.2) (v := 0) rfl ?_
  refine V_istore_n (c := cU) i173_1.1 (mM_n i173_1.2) (l1 := [some (.ref 55), some (.int x1), some (.int 0)])  (Nat.le_of_ble_eq_true rfl) rfl ?_
  exact V_msk (l1 := [some (.ref 55), some (.int x1), some (.int 0)]) i173_2.2 rfl rfl
theorem k_Mod_mixWalker_2_eq {x1 : Int32} {x2 : Int32}  {S : Mem} : k_Mod_mixWalker_2 x1 x2 S = if 7 ≤ x2 then k_Mod_mixWalker_27 x1 0 S else bI (f_Mod_walkerNow x1 x2 S) (fun r11 S10 => bU (f_Mod_mix r11.toInt64 S10) (fun S12 => k_Mod_mixWalker_2 x1 (x2 + 1) S12)) := by
  show cU (mV oS X0 173 2 [some (.ref 55), some (.int x1), some (.int x2)] [] S) = _
  refine V_iload_n (c := cU) i173_2.1 (mM_s i173_2.2 rfl) rfl ?_
  refine V_bipush (c := cU) i173_3.1 (mM_n i173_3.2) (v := 7) rfl ?_
  refine V_icmp_ge (c := cU) i173_5.1 (mM_n i173_5.2) rfl (fun _ => ?_) (fun _ => ?_)
  · refine V_iconst (c := cU) i173_25.1 (mM_n i173_25.2) (v := 0) rfl ?_
    refine V_istore_n (c := cU) i173_26.1 (mM_n i173_26.2) (l1 := [some (.ref 55), some (.int x1), some (.int 0)])  (Nat.le_of_ble_eq_true rfl) rfl ?_
    exact V_msk (l1 := [some (.ref 55), some (.int x1), some (.int 0)]) i173_27.2 rfl rfl
  · refine V_aload_n (c := cU) i173_8.1 (mM_n i173_8.2) rfl rfl ?_
    refine V_aload_n (c := cU) i173_9.1 (mM_n i173_9.2) rfl rfl ?_
    refine V_iload_n (c := cU) i173_10.1 (mM_n i173_10.2) rfl ?_
    refine V_iload_n (c := cU) i173_11.1 (mM_n i173_11.2) rfl ?_
    refine V_cvI (c := cU) (As := [.int x1, .int x2]) (rest := [.ref 55]) i173_12.1 (mM_n i173_12.2) c173_171 rfl rfl rfl rfl (Nat.le_of_ble_eq_true rfl) rfl (fun r11 S10 => ?_)
    refine V_i2l (c := cU) i173_15.1 (mM_n i173_15.2)  ?_
    refine V_cvU (c := cU) (As := [.long r11.toInt64]) (rest := []) i173_16.1 (mM_n i173_16.2) c173_319 rfl rfl rfl rfl (Nat.le_of_ble_eq_true rfl) rfl (fun S12 => ?_)
    refine V_iinc (c := cU) i173_19.1 (mM_n i173_19.2) (l1 := [some (.ref 55), some (.int x1), some (.int (x2 + 1))]) rfl rfl rfl ?_
    refine V_goto (c := cU) i173_22.1 (mM_n i173_22.2) rfl ?_
    exact V_msk (l1 := [some (.ref 55), some (.int x1), some (.int (x2 + 1))]) i173_2.2 rfl rfl
theorem k_Mod_mixWalker_27_eq {x1 : Int32} {x2 : Int32}  {S : Mem} : k_Mod_mixWalker_27 x1 x2 S = if (S.1 55 7) ≤ x2 then bI (f_Mod_enoughNow x1 S) (fun r14 S13 => bU (f_Mod_mix r14.toInt64 S13) (fun S15 => some S15)) else if x2 = x1 then k_Mod_mixWalker_58 x1 x2 S else bI (f_Mod_mayPass x1 x2 S) (fun r17 S16 => if r17 = 0 then k_Mod_mixWalker_55 x1 x2 0 S16 else k_Mod_mixWalker_55 x1 x2 1 S16) := by
  show cU (mV oS X0 173 27 [some (.ref 55), some (.int x1), some (.int x2)] [] S) = _
  refine V_iload_n (c := cU) i173_27.1 (mM_s i173_27.2 rfl) rfl ?_
  refine V_aload_n (c := cU) i173_28.1 (mM_n i173_28.2) rfl rfl ?_
  refine V_gf (c := cU) i173_29.1 (mM_n i173_29.2) (v := .int (S.1 55 7)) g173_152 rfl ?_
  refine V_icmp_ge (c := cU) i173_32.1 (mM_n i173_32.2) rfl (fun _ => ?_) (fun _ => ?_)
  · refine V_aload_n (c := cU) i173_64.1 (mM_n i173_64.2) rfl rfl ?_
    refine V_aload_n (c := cU) i173_65.1 (mM_n i173_65.2) rfl rfl ?_
    refine V_iload_n (c := cU) i173_66.1 (mM_n i173_66.2) rfl ?_
    refine V_cvI (c := cU) (As := [.int x1]) (rest := [.ref 55]) i173_67.1 (mM_n i173_67.2) c173_250 rfl rfl rfl rfl (Nat.le_of_ble_eq_true rfl) rfl (fun r14 S13 => ?_)
    refine V_i2l (c := cU) i173_70.1 (mM_n i173_70.2)  ?_
    refine V_cvU (c := cU) (As := [.long r14.toInt64]) (rest := []) i173_71.1 (mM_n i173_71.2) c173_319 rfl rfl rfl rfl (Nat.le_of_ble_eq_true rfl) rfl (fun S15 => ?_)
    exact V_vret i173_74.1 (mM_n i173_74.2) rfl
  · refine V_iload_n (c := cU) i173_35.1 (mM_n i173_35.2) rfl ?_
    refine V_iload_n (c := cU) i173_36.1 (mM_n i173_36.2) rfl ?_
    refine V_icmp_eq (c := cU) i173_37.1 (mM_n i173_37.2) rfl (fun _ => ?_) (fun _ => ?_)
    · exact V_msk (l1 := [some (.ref 55), some (.int x1), some (.int x2)]) i173_58.2 rfl rfl
    · refine V_aload_n (c := cU) i173_40.1 (mM_n i173_40.2) rfl rfl ?_
      refine V_aload_n (c := cU) i173_41.1 (mM_n i173_41.2) rfl rfl ?_
      refine V_iload_n (c := cU) i173_42.1 (mM_n i173_42.2) rfl ?_
      refine V_iload_n (c := cU) i173_43.1 (mM_n i173_43.2) rfl ?_
      refine V_cvI (c := cU) (As := [.int x1, .int x2]) (rest := [.ref 55]) i173_44.1 (mM_n i173_44.2) c173_177 rfl rfl rfl rfl (Nat.le_of_ble_eq_true rfl) rfl (fun r17 S16 => ?_)
      refine V_if_eq (c := cU) i173_47.1 (mM_n i173_47.2) rfl (fun _ => ?_) (fun _ => ?_)
      · refine V_lconst (c := cU) i173_54.1 (mM_n i173_54.2) (v := 0) rfl ?_
        exact V_msk (l1 := [some (.ref 55), some (.int x1), some (.int x2)]) i173_55.2 rfl rfl
      · refine V_lconst (c := cU) i173_50.1 (mM_n i173_50.2) (v := 1) rfl ?_
        refine V_goto (c := cU) i173_51.1 (mM_n i173_51.2) rfl ?_
        exact V_msk (l1 := [some (.ref 55), some (.int x1), some (.int x2)]) i173_55.2 rfl rfl
theorem k_Mod_mixWalker_55_eq {x1 : Int32} {x2 : Int32} {js0 : Int64}  {S : Mem} : k_Mod_mixWalker_55 x1 x2 js0 S = bU (f_Mod_mix js0 S) (fun S18 => k_Mod_mixWalker_58 x1 x2 S18) := by
  show cU (mV oS X0 173 55 [some (.ref 55), some (.int x1), some (.int x2)] [.long js0, .ref 55] S) = _
  refine V_cvU (c := cU) (As := [.long js0]) (rest := []) i173_55.1 (mM_s i173_55.2 rfl) c173_319 rfl rfl rfl rfl (Nat.le_of_ble_eq_true rfl) rfl (fun S18 => ?_)
  exact V_msk (l1 := [some (.ref 55), some (.int x1), some (.int x2)]) i173_58.2 rfl rfl
theorem k_Mod_mixWalker_58_eq {x1 : Int32} {x2 : Int32}  {S : Mem} : k_Mod_mixWalker_58 x1 x2 S = k_Mod_mixWalker_27 x1 (x2 + 1) S := by
  show cU (mV oS X0 173 58 [some (.ref 55), some (.int x1), some (.int x2)] [] S) = _
  refine V_iinc (c := cU) i173_58.1 (mM_s i173_58.2 rfl) (l1 := [some (.ref 55), some (.int x1), some (.int (x2 + 1))]) rfl rfl rfl ?_
  refine V_goto (c := cU) i173_61.1 (mM_n i173_61.2) rfl ?_
  exact V_msk (l1 := [some (.ref 55), some (.int x1), some (.int (x2 + 1))]) i173_27.2 rfl rfl
theorem f_Mod_digest_eq   {S : Mem} : f_Mod_digest  S = k_Mod_digest_9 0 (u2 S 55 52 617) := by
  show cJ (mV oS X0 174 0 [some (.ref 55), none, none] [] S) = _
  refine V_aload_n (c := cJ) i174_0.1 (mM_n i174_0.2) rfl rfl ?_
  refine V_ldc2_w (c := cJ) i174_1.1 (mM_n i174_1.2) q174_323 ?_
  refine V_pf (c := cJ) i174_4.1 (mM_n i174_4.2) p174_316 (pf_j rfl rfl rfl) ?_
  refine V_iconst (c := cJ) i174_7.1 (mM_n i174_7.2) (v := 0) rfl ?_
  refine V_istore_n (c := cJ) i174_8.1 (mM_n i174_8.2) (l1 := [some (.ref 55), some (.int 0), none])  (Nat.le_of_ble_eq_true rfl) rfl ?_
  exact V_msk (l1 := [some (.ref 55), some (.int 0), none]) i174_9.2 rfl rfl
theorem k_Mod_digest_9_eq {x1 : Int32}  {S : Mem} : k_Mod_digest_9 x1 S = if (S.1 55 0) ≤ x1 then k_Mod_digest_49 0 S else k_Mod_digest_19 x1 0 S := by
  show cJ (mV oS X0 174 9 [some (.ref 55), some (.int x1), none] [] S) = _
  refine V_iload_n (c := cJ) i174_9.1 (mM_s i174_9.2 rfl) rfl ?_
  refine V_aload_n (c := cJ) i174_10.1 (mM_n i174_10.2) rfl rfl ?_
  refine V_gf (c := cJ) i174_11.1 (mM_n i174_11.2) (v := .int (S.1 55 0)) g174_140 rfl ?_
  refine V_icmp_ge (c := cJ) i174_14.1 (mM_n i174_14.2) rfl (fun _ => ?_) (fun _ => ?_)
  · refine V_iconst (c := cJ) i174_47.1 (mM_n i174_47.2) (v := 0) rfl ?_
    refine V_istore_n (c := cJ) i174_48.1 (mM_n i174_48.2) (l1 := [some (.ref 55), some (.int 0), none])  (Nat.le_of_ble_eq_true rfl) rfl ?_
    exact V_msk (l1 := [some (.ref 55), some (.int 0), none]) i174_49.2 rfl rfl
  · refine V_iconst (c := cJ) i174_17.1 (mM_n i174_17.2) (v := 0) rfl ?_
    refine V_istore_n (c := cJ) i174_18.1 (mM_n i174_18.2) (l1 := [some (.ref 55), some (.int x1), some (.int 0)])  (Nat.le_of_ble_eq_true rfl) rfl ?_
    exact V_msk (l1 := [some (.ref 55), some (.int x1), some (.int 0)]) i174_19.2 rfl rfl
theorem k_Mod_digest_19_eq {x1 : Int32} {x2 : Int32}  {S : Mem} : k_Mod_digest_19 x1 x2 S = if 3 ≤ x2 then k_Mod_digest_9 (x1 + 1) S else bI (f_Mod_laneNow x1 x2 S) (fun r17 S16 => bU (f_Mod_mix r17.toInt64 S16) (fun S18 => k_Mod_digest_19 x1 (x2 + 1) S18)) := by
  show cJ (mV oS X0 174 19 [some (.ref 55), some (.int x1), some (.int x2)] [] S) = _
  refine V_iload_n (c := cJ) i174_19.1 (mM_s i174_19.2 rfl) rfl ?_
  refine V_iconst (c := cJ) i174_20.1 (mM_n i174_20.2) (v := 3) rfl ?_
  refine V_icmp_ge (c := cJ) i174_21.1 (mM_n i174_21.2) rfl (fun _ => ?_) (fun _ => ?_)
  · refine V_iinc (c := cJ) i174_41.1 (mM_n i174_41.2) (l1 := [some (.ref 55), some (.int (x1 + 1)), some (.int x2)]) rfl rfl rfl ?_
    refine V_goto (c := cJ) i174_44.1 (mM_n i174_44.2) rfl ?_
    exact V_msk (l1 := [some (.ref 55), some (.int (x1 + 1)), none]) i174_9.2 rfl rfl
  · refine V_aload_n (c := cJ) i174_24.1 (mM_n i174_24.2) rfl rfl ?_
    refine V_aload_n (c := cJ) i174_25.1 (mM_n i174_25.2) rfl rfl ?_
    refine V_iload_n (c := cJ) i174_26.1 (mM_n i174_26.2) rfl ?_
    refine V_iload_n (c := cJ) i174_27.1 (mM_n i174_27.2) rfl ?_
    refine V_cvI (c := cJ) (As := [.int x1, .int x2]) (rest := [.ref 55]) i174_28.1 (mM_n i174_28.2) c174_158 rfl rfl rfl rfl (Nat.le_of_ble_eq_true rfl) rfl (fun r17 S16 => ?_)
    refine V_i2l (c := cJ) i174_31.1 (mM_n i174_31.2)  ?_
    refine V_cvU (c := cJ) (As := [.long r17.toInt64]) (rest := []) i174_32.1 (mM_n i174_32.2) c174_319 rfl rfl rfl rfl (Nat.le_of_ble_eq_true rfl) rfl (fun S18 => ?_)
    refine V_iinc (c := cJ) i174_35.1 (mM_n i174_35.2) (l1 := [some (.ref 55), some (.int x1), some (.int (x2 + 1))]) rfl rfl rfl ?_
    refine V_goto (c := cJ) i174_38.1 (mM_n i174_38.2) rfl ?_
    exact V_msk (l1 := [some (.ref 55), some (.int x1), some (.int (x2 + 1))]) i174_19.2 rfl rfl
theorem k_Mod_digest_49_eq {x1 : Int32}  {S : Mem} : k_Mod_digest_49 x1 S = if (S.1 55 7) ≤ x1 then k_Mod_digest_70 0 S else bU (f_Mod_mixWalker x1 S) (fun S19 => k_Mod_digest_49 (x1 + 1) S19) := by
  show cJ (mV oS X0 174 49 [some (.ref 55), some (.int x1), none] [] S) = _
  refine V_iload_n (c := cJ) i174_49.1 (mM_s i174_49.2 rfl) rfl ?_
  refine V_aload_n (c := cJ) i174_50.1 (mM_n i174_50.2) rfl rfl ?_
  refine V_gf (c := cJ) i174_51.1 (mM_n i174_51.2) (v := .int (S.1 55 7)) g174_152 rfl ?_
  refine V_icmp_ge (c := cJ) i174_54.1 (mM_n i174_54.2) rfl (fun _ => ?_) (fun _ => ?_)
  · refine V_iconst (c := cJ) i174_68.1 (mM_n i174_68.2) (v := 0) rfl ?_
    refine V_istore_n (c := cJ) i174_69.1 (mM_n i174_69.2) (l1 := [some (.ref 55), some (.int 0), none])  (Nat.le_of_ble_eq_true rfl) rfl ?_
    exact V_msk (l1 := [some (.ref 55), some (.int 0), none]) i174_70.2 rfl rfl
  · refine V_aload_n (c := cJ) i174_57.1 (mM_n i174_57.2) rfl rfl ?_
    refine V_iload_n (c := cJ) i174_58.1 (mM_n i174_58.2) rfl ?_
    refine V_cvU (c := cJ) (As := [.int x1]) (rest := []) i174_59.1 (mM_n i174_59.2) c174_325 rfl rfl rfl rfl (Nat.le_of_ble_eq_true rfl) rfl (fun S19 => ?_)
    refine V_iinc (c := cJ) i174_62.1 (mM_n i174_62.2) (l1 := [some (.ref 55), some (.int (x1 + 1)), none]) rfl rfl rfl ?_
    refine V_goto (c := cJ) i174_65.1 (mM_n i174_65.2) rfl ?_
    exact V_msk (l1 := [some (.ref 55), some (.int (x1 + 1)), none]) i174_49.2 rfl rfl
theorem k_Mod_digest_70_eq {x1 : Int32}  {S : Mem} : k_Mod_digest_70 x1 S = if 8 ≤ x1 then k_Mod_digest_100 S else if (S.1 55 6) ≤ 0 then k_Mod_digest_100 S else if inb x1 8 = true then bU (f_Mod_mix ((S.1 66 (x1.toNatClampNeg)).toInt64) S) (fun S20 => k_Mod_digest_70 (x1 + 1) S20) else none := by
  show cJ (mV oS X0 174 70 [some (.ref 55), some (.int x1), none] [] S) = _
  refine V_iload_n (c := cJ) i174_70.1 (mM_s i174_70.2 rfl) rfl ?_
  refine V_bipush (c := cJ) i174_71.1 (mM_n i174_71.2) (v := 8) rfl ?_
  refine V_icmp_ge (c := cJ) i174_73.1 (mM_n i174_73.2) rfl (fun _ => ?_) (fun _ => ?_)
  · exact V_msk (l1 := [some (.ref 55), none, none]) i174_100.2 rfl rfl
  · refine V_aload_n (c := cJ) i174_76.1 (mM_n i174_76.2) rfl rfl ?_
    refine V_gf (c := cJ) i174_77.1 (mM_n i174_77.2) (v := .int (S.1 55 6)) g174_149 rfl ?_
    refine V_if_le (c := cJ) i174_80.1 (mM_n i174_80.2) rfl (fun _ => ?_) (fun _ => ?_)
    · exact V_msk (l1 := [some (.ref 55), none, none]) i174_100.2 rfl rfl
    · refine V_aload_n (c := cJ) i174_83.1 (mM_n i174_83.2) rfl rfl ?_
      refine V_aload_n (c := cJ) i174_84.1 (mM_n i174_84.2) rfl rfl ?_
      refine V_gf (c := cJ) i174_85.1 (mM_n i174_85.2) (v := .ref 66) g174_41 rfl ?_
      refine V_iload_n (c := cJ) i174_88.1 (mM_n i174_88.2) rfl ?_
      refine V_iaload (c := cJ) i174_89.1 (mM_n i174_89.2) rfl rfl (fun _ => ?_)
      refine V_i2l (c := cJ) i174_90.1 (mM_n i174_90.2)  ?_
      refine V_cvU (c := cJ) (As := [.long ((S.1 66 (x1.toNatClampNeg)).toInt64)]) (rest := []) i174_91.1 (mM_n i174_91.2) c174_319 rfl rfl rfl rfl (Nat.le_of_ble_eq_true rfl) rfl (fun S20 => ?_)
      refine V_iinc (c := cJ) i174_94.1 (mM_n i174_94.2) (l1 := [some (.ref 55), some (.int (x1 + 1)), none]) rfl rfl rfl ?_
      refine V_goto (c := cJ) i174_97.1 (mM_n i174_97.2) rfl ?_
      exact V_msk (l1 := [some (.ref 55), some (.int (x1 + 1)), none]) i174_70.2 rfl rfl
theorem k_Mod_digest_100_eq   {S : Mem} : k_Mod_digest_100  S = k_Mod_digest_102 0 S := by
  show cJ (mV oS X0 174 100 [some (.ref 55), none, none] [] S) = _
  refine V_iconst (c := cJ) i174_100.1 (mM_s i174_100.2 rfl) (v := 0) rfl ?_
  refine V_istore_n (c := cJ) i174_101.1 (mM_n i174_101.2) (l1 := [some (.ref 55), some (.int 0), none])  (Nat.le_of_ble_eq_true rfl) rfl ?_
  exact V_msk (l1 := [some (.ref 55), some (.int 0), none]) i174_102.2 rfl rfl
theorem k_Mod_digest_102_eq {x1 : Int32}  {S : Mem} : k_Mod_digest_102 x1 S = if 3 ≤ x1 then if 3 ≤ (S.1 55 7) then k_Mod_digest_139 3 S else k_Mod_digest_139 (S.1 55 7) S else bI (f_Mod_firstNow x1 S) (fun r22 S21 => bU (f_Mod_mix r22.toInt64 S21) (fun S23 => k_Mod_digest_102 (x1 + 1) S23)) := by
  show cJ (mV oS X0 174 102 [some (.ref 55), some (.int x1), none] [] S) = _
  refine V_iload_n (c := cJ) i174_102.1 (mM_s i174_102.2 rfl) rfl ?_
  refine V_iconst (c := cJ) i174_103.1 (mM_n i174_103.2) (v := 3) rfl ?_
  refine V_icmp_ge (c := cJ) i174_104.1 (mM_n i174_104.2) rfl (fun _ => ?_) (fun _ => ?_)
  · refine V_aload_n (c := cJ) i174_123.1 (mM_n i174_123.2) rfl rfl ?_
    refine V_gf (c := cJ) i174_124.1 (mM_n i174_124.2) (v := .int (S.1 55 7)) g174_152 rfl ?_
    refine V_iconst (c := cJ) i174_127.1 (mM_n i174_127.2) (v := 3) rfl ?_
    refine V_icmp_ge (c := cJ) i174_128.1 (mM_n i174_128.2) rfl (fun _ => ?_) (fun _ => ?_)
    · refine V_iconst (c := cJ) i174_138.1 (mM_n i174_138.2) (v := 3) rfl ?_
      exact V_msk (l1 := [some (.ref 55), none, none]) i174_139.2 rfl rfl
    · refine V_aload_n (c := cJ) i174_131.1 (mM_n i174_131.2) rfl rfl ?_
      refine V_gf (c := cJ) i174_132.1 (mM_n i174_132.2) (v := .int (S.1 55 7)) g174_152 rfl ?_
      refine V_goto (c := cJ) i174_135.1 (mM_n i174_135.2) rfl ?_
      exact V_msk (l1 := [some (.ref 55), none, none]) i174_139.2 rfl rfl
  · refine V_aload_n (c := cJ) i174_107.1 (mM_n i174_107.2) rfl rfl ?_
    refine V_aload_n (c := cJ) i174_108.1 (mM_n i174_108.2) rfl rfl ?_
    refine V_iload_n (c := cJ) i174_109.1 (mM_n i174_109.2) rfl ?_
    refine V_cvI (c := cJ) (As := [.int x1]) (rest := [.ref 55]) i174_110.1 (mM_n i174_110.2) c174_221 rfl rfl rfl rfl (Nat.le_of_ble_eq_true rfl) rfl (fun r22 S21 => ?_)
    refine V_i2l (c := cJ) i174_113.1 (mM_n i174_113.2)  ?_
    refine V_cvU (c := cJ) (As := [.long r22.toInt64]) (rest := []) i174_114.1 (mM_n i174_114.2) c174_319 rfl rfl rfl rfl (Nat.le_of_ble_eq_true rfl) rfl (fun S23 => ?_)
    refine V_iinc (c := cJ) i174_117.1 (mM_n i174_117.2) (l1 := [some (.ref 55), some (.int (x1 + 1)), none]) rfl rfl rfl ?_
    refine V_goto (c := cJ) i174_120.1 (mM_n i174_120.2) rfl ?_
    exact V_msk (l1 := [some (.ref 55), some (.int (x1 + 1)), none]) i174_102.2 rfl rfl
theorem k_Mod_digest_139_eq {xs0 : Int32}  {S : Mem} : k_Mod_digest_139 xs0 S = bI (f_Mod_fitsNow (((1 : Int32) <<< (xs0 &&& 31)) - 1) 0 S) (fun r25 S24 => bU (f_Mod_mix r25.toInt64 S24) (fun S26 => k_Mod_digest_157 0 S26)) := by
  show cJ (mV oS X0 174 139 [some (.ref 55), none, none] [.int xs0] S) = _
  refine V_istore_n (c := cJ) i174_139.1 (mM_s i174_139.2 rfl) (l1 := [some (.ref 55), some (.int xs0), none])  (Nat.le_of_ble_eq_true rfl) rfl ?_
  refine V_aload_n (c := cJ) i174_140.1 (mM_n i174_140.2) rfl rfl ?_
  refine V_aload_n (c := cJ) i174_141.1 (mM_n i174_141.2) rfl rfl ?_
  refine V_iconst (c := cJ) i174_142.1 (mM_n i174_142.2) (v := 1) rfl ?_
  refine V_iload_n (c := cJ) i174_143.1 (mM_n i174_143.2) rfl ?_
  refine V_ishl (c := cJ) i174_144.1 (mM_n i174_144.2)  ?_
  refine V_iconst (c := cJ) i174_145.1 (mM_n i174_145.2) (v := 1) rfl ?_
  refine V_isub (c := cJ) i174_146.1 (mM_n i174_146.2)  ?_
  refine V_iconst (c := cJ) i174_147.1 (mM_n i174_147.2) (v := 0) rfl ?_
  refine V_cvI (c := cJ) (As := [.int (((1 : Int32) <<< (xs0 &&& 31)) - 1), .int 0]) (rest := [.ref 55]) i174_148.1 (mM_n i174_148.2) c174_262 rfl rfl rfl rfl (Nat.le_of_ble_eq_true rfl) rfl (fun r25 S24 => ?_)
  refine V_i2l (c := cJ) i174_151.1 (mM_n i174_151.2)  ?_
  refine V_cvU (c := cJ) (As := [.long r25.toInt64]) (rest := []) i174_152.1 (mM_n i174_152.2) c174_319 rfl rfl rfl rfl (Nat.le_of_ble_eq_true rfl) rfl (fun S26 => ?_)
  refine V_iconst (c := cJ) i174_155.1 (mM_n i174_155.2) (v := 0) rfl ?_
  refine V_istore_n (c := cJ) i174_156.1 (mM_n i174_156.2) (l1 := [some (.ref 55), some (.int xs0), some (.int 0)])  (Nat.le_of_ble_eq_true rfl) rfl ?_
  exact V_msk (l1 := [some (.ref 55), none, some (.int 0)]) i174_157.2 rfl rfl
theorem k_Mod_digest_157_eq {x2 : Int32}  {S : Mem} : k_Mod_digest_157 x2 S = if (S.1 55 18) ≤ x2 then k_Mod_digest_184 0 S else if inb x2 50 = true then bU (f_Mod_mix ((S.1 67 (x2.toNatClampNeg)).toInt64) S) (fun S27 => k_Mod_digest_157 (x2 + 1) S27) else none := by
  show cJ (mV oS X0 174 157 [some (.ref 55), none, some (.int x2)] [] S) = _
  refine V_iload_n (c := cJ) i174_157.1 (mM_s i174_157.2 rfl) rfl ?_
  refine V_aload_n (c := cJ) i174_158.1 (mM_n i174_158.2) rfl rfl ?_
  refine V_gf (c := cJ) i174_159.1 (mM_n i174_159.2) (v := .int (S.1 55 18)) g174_98 rfl ?_
  refine V_icmp_ge (c := cJ) i174_162.1 (mM_n i174_162.2) rfl (fun _ => ?_) (fun _ => ?_)
  · refine V_iconst (c := cJ) i174_182.1 (mM_n i174_182.2) (v := 0) rfl ?_
    refine V_istore_n (c := cJ) i174_183.1 (mM_n i174_183.2) (l1 := [some (.ref 55), none, some (.int 0)])  (Nat.le_of_ble_eq_true rfl) rfl ?_
    exact V_msk (l1 := [some (.ref 55), none, some (.int 0)]) i174_184.2 rfl rfl
  · refine V_aload_n (c := cJ) i174_165.1 (mM_n i174_165.2) rfl rfl ?_
    refine V_aload_n (c := cJ) i174_166.1 (mM_n i174_166.2) rfl rfl ?_
    refine V_gf (c := cJ) i174_167.1 (mM_n i174_167.2) (v := .ref 67) g174_44 rfl ?_
    refine V_iload_n (c := cJ) i174_170.1 (mM_n i174_170.2) rfl ?_
    refine V_baload (c := cJ) i174_171.1 (mM_n i174_171.2) rfl rfl rfl (fun _ => ?_)
    refine V_i2l (c := cJ) i174_172.1 (mM_n i174_172.2)  ?_
    refine V_cvU (c := cJ) (As := [.long ((S.1 67 (x2.toNatClampNeg)).toInt64)]) (rest := []) i174_173.1 (mM_n i174_173.2) c174_319 rfl rfl rfl rfl (Nat.le_of_ble_eq_true rfl) rfl (fun S27 => ?_)
    refine V_iinc (c := cJ) i174_176.1 (mM_n i174_176.2) (l1 := [some (.ref 55), none, some (.int (x2 + 1))]) rfl rfl rfl ?_
    refine V_goto (c := cJ) i174_179.1 (mM_n i174_179.2) rfl ?_
    exact V_msk (l1 := [some (.ref 55), none, some (.int (x2 + 1))]) i174_157.2 rfl rfl
theorem k_Mod_digest_184_eq {x2 : Int32}  {S : Mem} : k_Mod_digest_184 x2 S = if 10 ≤ x2 then some ((S.2 55 52), S) else bI (f_Mod_howMany x2 S) (fun r29 S28 => bU (f_Mod_mix r29.toInt64 S28) (fun S30 => k_Mod_digest_184 (x2 + 1) S30)) := by
  show cJ (mV oS X0 174 184 [some (.ref 55), none, some (.int x2)] [] S) = _
  refine V_iload_n (c := cJ) i174_184.1 (mM_s i174_184.2 rfl) rfl ?_
  refine V_bipush (c := cJ) i174_185.1 (mM_n i174_185.2) (v := 10) rfl ?_
  refine V_icmp_ge (c := cJ) i174_187.1 (mM_n i174_187.2) rfl (fun _ => ?_) (fun _ => ?_)
  · refine V_aload_n (c := cJ) i174_206.1 (mM_n i174_206.2) rfl rfl ?_
    refine V_gf (c := cJ) i174_207.1 (mM_n i174_207.2) (v := .long (S.2 55 52)) g174_316 rfl ?_
    exact V_lret i174_210.1 (mM_n i174_210.2) rfl
  · refine V_aload_n (c := cJ) i174_190.1 (mM_n i174_190.2) rfl rfl ?_
    refine V_aload_n (c := cJ) i174_191.1 (mM_n i174_191.2) rfl rfl ?_
    refine V_iload_n (c := cJ) i174_192.1 (mM_n i174_192.2) rfl ?_
    refine V_cvI (c := cJ) (As := [.int x2]) (rest := [.ref 55]) i174_193.1 (mM_n i174_193.2) c174_311 rfl rfl rfl rfl (Nat.le_of_ble_eq_true rfl) rfl (fun r29 S28 => ?_)
    refine V_i2l (c := cJ) i174_196.1 (mM_n i174_196.2)  ?_
    refine V_cvU (c := cJ) (As := [.long r29.toInt64]) (rest := []) i174_197.1 (mM_n i174_197.2) c174_319 rfl rfl rfl rfl (Nat.le_of_ble_eq_true rfl) rfl (fun S30 => ?_)
    refine V_iinc (c := cJ) i174_200.1 (mM_n i174_200.2) (l1 := [some (.ref 55), none, some (.int (x2 + 1))]) rfl rfl rfl ?_
    refine V_goto (c := cJ) i174_203.1 (mM_n i174_203.2) rfl ?_
    exact V_msk (l1 := [some (.ref 55), none, some (.int (x2 + 1))]) i174_184.2 rfl rfl
