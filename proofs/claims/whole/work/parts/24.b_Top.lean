/-! blocks of Top: printed by a program -/
theorem i72_0 : decode (mCd 72) 0 = .ok (.lload_n 1, 1) ∧ lk (mMsk 72) 0 = none := by decide +kernel
theorem i72_1 : decode (mCd 72) 1 = .ok (.invokestatic 79, 3) ∧ lk (mMsk 72) 1 = none := by decide +kernel
theorem c72_79 : ciOk 72 79 42 1 0 = true := by decide +kernel
theorem i72_4 : decode (mCd 72) 4 = .ok (.istore_n 3, 1) ∧ lk (mMsk 72) 4 = none := by decide +kernel
theorem i72_5 : decode (mCd 72) 5 = .ok (.iload_n 3, 1) ∧ lk (mMsk 72) 5 = none := by decide +kernel
theorem i72_6 : decode (mCd 72) 6 = .ok (.ifCond .ge 6, 3) ∧ lk (mMsk 72) 6 = none := by decide +kernel
theorem i72_12 : decode (mCd 72) 12 = .ok (.aload_n 0, 1) ∧ lk (mMsk 72) 12 = none := by decide +kernel
theorem i72_13 : decode (mCd 72) 13 = .ok (.getfield 12, 3) ∧ lk (mMsk 72) 13 = none := by decide +kernel
theorem g72_12 : fOk 72 12 8 0 = true := by decide +kernel
theorem i72_16 : decode (mCd 72) 16 = .ok (.getfield 83, 3) ∧ lk (mMsk 72) 16 = none := by decide +kernel
theorem g72_83 : fOk 72 83 4 1 = true := by decide +kernel
theorem i72_19 : decode (mCd 72) 19 = .ok (.iload_n 3, 1) ∧ lk (mMsk 72) 19 = none := by decide +kernel
theorem i72_20 : decode (mCd 72) 20 = .ok (.iadd, 1) ∧ lk (mMsk 72) 20 = none := by decide +kernel
theorem i72_21 : decode (mCd 72) 21 = .ok (.bipush 50, 2) ∧ lk (mMsk 72) 21 = none := by decide +kernel
theorem i72_23 : decode (mCd 72) 23 = .ok (.if_icmp .le 6, 3) ∧ lk (mMsk 72) 23 = none := by decide +kernel
theorem i72_29 : decode (mCd 72) 29 = .ok (.aload_n 0, 1) ∧ lk (mMsk 72) 29 = none := by decide +kernel
theorem i72_30 : decode (mCd 72) 30 = .ok (.getfield 12, 3) ∧ lk (mMsk 72) 30 = none := by decide +kernel
theorem i72_33 : decode (mCd 72) 33 = .ok (.lload_n 1, 1) ∧ lk (mMsk 72) 33 = none := by decide +kernel
theorem i72_34 : decode (mCd 72) 34 = .ok (.iload_n 3, 1) ∧ lk (mMsk 72) 34 = none := by decide +kernel
theorem i72_35 : decode (mCd 72) 35 = .ok (.invokevirtual 86, 3) ∧ lk (mMsk 72) 35 = none := by decide +kernel
theorem c72_86 : cvOk 72 86 43 2 3 = true := by decide +kernel
theorem i72_38 : decode (mCd 72) 38 = .ok (.aload_n 0, 1) ∧ lk (mMsk 72) 38 = none := by decide +kernel
theorem i72_39 : decode (mCd 72) 39 = .ok (.getfield 12, 3) ∧ lk (mMsk 72) 39 = none := by decide +kernel
theorem i72_42 : decode (mCd 72) 42 = .ok (.getfield 83, 3) ∧ lk (mMsk 72) 42 = none := by decide +kernel
theorem i72_45 : decode (mCd 72) 45 = .ok (.ireturn, 1) ∧ lk (mMsk 72) 45 = none := by decide +kernel
theorem i72_26 : decode (mCd 72) 26 = .ok (.bipush (-104), 2) ∧ lk (mMsk 72) 26 = none := by decide +kernel
theorem i72_28 : decode (mCd 72) 28 = .ok (.ireturn, 1) ∧ lk (mMsk 72) 28 = none := by decide +kernel
theorem i72_9 : decode (mCd 72) 9 = .ok (.bipush (-102), 2) ∧ lk (mMsk 72) 9 = none := by decide +kernel
theorem i72_11 : decode (mCd 72) 11 = .ok (.ireturn, 1) ∧ lk (mMsk 72) 11 = none := by decide +kernel
theorem i73_0 : decode (mCd 73) 0 = .ok (.aload_n 0, 1) ∧ lk (mMsk 73) 0 = none := by decide +kernel
theorem i73_1 : decode (mCd 73) 1 = .ok (.getfield 12, 3) ∧ lk (mMsk 73) 1 = none := by decide +kernel
theorem g73_12 : fOk 73 12 8 0 = true := by decide +kernel
theorem i73_4 : decode (mCd 73) 4 = .ok (.getfield 83, 3) ∧ lk (mMsk 73) 4 = none := by decide +kernel
theorem g73_83 : fOk 73 83 4 1 = true := by decide +kernel
theorem i73_7 : decode (mCd 73) 7 = .ok (.istore_n 1, 1) ∧ lk (mMsk 73) 7 = none := by decide +kernel
theorem i73_8 : decode (mCd 73) 8 = .ok (.aload_n 0, 1) ∧ lk (mMsk 73) 8 = none := by decide +kernel
theorem i73_9 : decode (mCd 73) 9 = .ok (.getfield 12, 3) ∧ lk (mMsk 73) 9 = none := by decide +kernel
theorem i73_12 : decode (mCd 73) 12 = .ok (.iconst 0, 1) ∧ lk (mMsk 73) 12 = none := by decide +kernel
theorem i73_13 : decode (mCd 73) 13 = .ok (.putfield 83, 3) ∧ lk (mMsk 73) 13 = none := by decide +kernel
theorem p73_83 : pOk 73 83 4 1 = true := by decide +kernel
theorem i73_16 : decode (mCd 73) 16 = .ok (.iload_n 1, 1) ∧ lk (mMsk 73) 16 = none := by decide +kernel
theorem i73_17 : decode (mCd 73) 17 = .ok (.ireturn, 1) ∧ lk (mMsk 73) 17 = none := by decide +kernel
theorem i74_0 : decode (mCd 74) 0 = .ok (.iload_n 1, 1) ∧ lk (mMsk 74) 0 = none := by decide +kernel
theorem i74_1 : decode (mCd 74) 1 = .ok (.ifCond .eq 11, 3) ∧ lk (mMsk 74) 1 = none := by decide +kernel
theorem i74_12 : decode (mCd 74) 12 = .ok (.iload_n 1, 1) ∧ lk (mMsk 74) 12 = some [true, true] := by decide +kernel
theorem i74_4 : decode (mCd 74) 4 = .ok (.iload_n 1, 1) ∧ lk (mMsk 74) 4 = none := by decide +kernel
theorem i74_5 : decode (mCd 74) 5 = .ok (.iconst 1, 1) ∧ lk (mMsk 74) 5 = none := by decide +kernel
theorem i74_6 : decode (mCd 74) 6 = .ok (.if_icmp .eq 6, 3) ∧ lk (mMsk 74) 6 = none := by decide +kernel
theorem i74_9 : decode (mCd 74) 9 = .ok (.bipush (-102), 2) ∧ lk (mMsk 74) 9 = none := by decide +kernel
theorem i74_11 : decode (mCd 74) 11 = .ok (.ireturn, 1) ∧ lk (mMsk 74) 11 = none := by decide +kernel
theorem i74_13 : decode (mCd 74) 13 = .ok (.ifCond .ne 17, 3) ∧ lk (mMsk 74) 13 = none := by decide +kernel
theorem i74_16 : decode (mCd 74) 16 = .ok (.aload_n 0, 1) ∧ lk (mMsk 74) 16 = none := by decide +kernel
theorem i74_17 : decode (mCd 74) 17 = .ok (.getfield 19, 3) ∧ lk (mMsk 74) 17 = none := by decide +kernel
theorem g74_19 : fOk 74 19 8 1 = true := by decide +kernel
theorem i74_20 : decode (mCd 74) 20 = .ok (.aload_n 0, 1) ∧ lk (mMsk 74) 20 = none := by decide +kernel
theorem i74_21 : decode (mCd 74) 21 = .ok (.getfield 12, 3) ∧ lk (mMsk 74) 21 = none := by decide +kernel
theorem g74_12 : fOk 74 12 8 0 = true := by decide +kernel
theorem i74_24 : decode (mCd 74) 24 = .ok (.invokevirtual 90, 3) ∧ lk (mMsk 74) 24 = none := by decide +kernel
theorem c74_90 : cvOk 74 90 32 1 0 = true := by decide +kernel
theorem i74_27 : decode (mCd 74) 27 = .ok (.goto 10, 3) ∧ lk (mMsk 74) 27 = none := by decide +kernel
theorem i74_37 : decode (mCd 74) 37 = .ok (.ireturn, 1) ∧ lk (mMsk 74) 37 = some [false, false] := by decide +kernel
theorem i74_30 : decode (mCd 74) 30 = .ok (.aload_n 0, 1) ∧ lk (mMsk 74) 30 = none := by decide +kernel
theorem i74_31 : decode (mCd 74) 31 = .ok (.getfield 12, 3) ∧ lk (mMsk 74) 31 = none := by decide +kernel
theorem i74_34 : decode (mCd 74) 34 = .ok (.invokevirtual 94, 3) ∧ lk (mMsk 74) 34 = none := by decide +kernel
theorem c74_94 : cvOk 74 94 45 0 0 = true := by decide +kernel
theorem i75_0 : decode (mCd 75) 0 = .ok (.aload_n 0, 1) ∧ lk (mMsk 75) 0 = none := by decide +kernel
theorem i75_1 : decode (mCd 75) 1 = .ok (.getfield 19, 3) ∧ lk (mMsk 75) 1 = none := by decide +kernel
theorem g75_19 : fOk 75 19 8 1 = true := by decide +kernel
theorem i75_4 : decode (mCd 75) 4 = .ok (.aload_n 0, 1) ∧ lk (mMsk 75) 4 = none := by decide +kernel
theorem i75_5 : decode (mCd 75) 5 = .ok (.getfield 12, 3) ∧ lk (mMsk 75) 5 = none := by decide +kernel
theorem g75_12 : fOk 75 12 8 0 = true := by decide +kernel
theorem i75_8 : decode (mCd 75) 8 = .ok (.invokevirtual 90, 3) ∧ lk (mMsk 75) 8 = none := by decide +kernel
theorem c75_90 : cvOk 75 90 32 1 0 = true := by decide +kernel
theorem i75_11 : decode (mCd 75) 11 = .ok (.aload_n 0, 1) ∧ lk (mMsk 75) 11 = none := by decide +kernel
theorem i75_12 : decode (mCd 75) 12 = .ok (.getfield 12, 3) ∧ lk (mMsk 75) 12 = none := by decide +kernel
theorem i75_15 : decode (mCd 75) 15 = .ok (.getfield 83, 3) ∧ lk (mMsk 75) 15 = none := by decide +kernel
theorem g75_83 : fOk 75 83 4 1 = true := by decide +kernel
theorem i75_18 : decode (mCd 75) 18 = .ok (.if_icmp .lt 13, 3) ∧ lk (mMsk 75) 18 = none := by decide +kernel
theorem i75_31 : decode (mCd 75) 31 = .ok (.bipush (-103), 2) ∧ lk (mMsk 75) 31 = some [false] := by decide +kernel
theorem i75_21 : decode (mCd 75) 21 = .ok (.aload_n 0, 1) ∧ lk (mMsk 75) 21 = none := by decide +kernel
theorem i75_22 : decode (mCd 75) 22 = .ok (.getfield 19, 3) ∧ lk (mMsk 75) 22 = none := by decide +kernel
theorem i75_25 : decode (mCd 75) 25 = .ok (.invokevirtual 98, 3) ∧ lk (mMsk 75) 25 = none := by decide +kernel
theorem c75_98 : cvOk 75 98 33 0 0 = true := by decide +kernel
theorem i75_28 : decode (mCd 75) 28 = .ok (.ifCond .ne 6, 3) ∧ lk (mMsk 75) 28 = none := by decide +kernel
theorem i75_34 : decode (mCd 75) 34 = .ok (.aload_n 0, 1) ∧ lk (mMsk 75) 34 = none := by decide +kernel
theorem i75_35 : decode (mCd 75) 35 = .ok (.getfield 26, 3) ∧ lk (mMsk 75) 35 = none := by decide +kernel
theorem g75_26 : fOk 75 26 8 2 = true := by decide +kernel
theorem i75_38 : decode (mCd 75) 38 = .ok (.aload_n 0, 1) ∧ lk (mMsk 75) 38 = none := by decide +kernel
theorem i75_39 : decode (mCd 75) 39 = .ok (.getfield 19, 3) ∧ lk (mMsk 75) 39 = none := by decide +kernel
theorem i75_42 : decode (mCd 75) 42 = .ok (.invokevirtual 102, 3) ∧ lk (mMsk 75) 42 = none := by decide +kernel
theorem c75_102 : cvOk 75 102 22 1 3 = true := by decide +kernel
theorem i75_45 : decode (mCd 75) 45 = .ok (.aload_n 0, 1) ∧ lk (mMsk 75) 45 = none := by decide +kernel
theorem i75_46 : decode (mCd 75) 46 = .ok (.getfield 33, 3) ∧ lk (mMsk 75) 46 = none := by decide +kernel
theorem g75_33 : fOk 75 33 8 3 = true := by decide +kernel
theorem i75_49 : decode (mCd 75) 49 = .ok (.invokevirtual 106, 3) ∧ lk (mMsk 75) 49 = none := by decide +kernel
theorem c75_106 : cvOk 75 106 62 0 3 = true := by decide +kernel
theorem i75_52 : decode (mCd 75) 52 = .ok (.aload_n 0, 1) ∧ lk (mMsk 75) 52 = none := by decide +kernel
theorem i75_53 : decode (mCd 75) 53 = .ok (.getfield 12, 3) ∧ lk (mMsk 75) 53 = none := by decide +kernel
theorem i75_56 : decode (mCd 75) 56 = .ok (.iconst 0, 1) ∧ lk (mMsk 75) 56 = none := by decide +kernel
theorem i75_57 : decode (mCd 75) 57 = .ok (.putfield 83, 3) ∧ lk (mMsk 75) 57 = none := by decide +kernel
theorem p75_83 : pOk 75 83 4 1 = true := by decide +kernel
theorem i75_60 : decode (mCd 75) 60 = .ok (.aload_n 0, 1) ∧ lk (mMsk 75) 60 = none := by decide +kernel
theorem i75_61 : decode (mCd 75) 61 = .ok (.iconst 1, 1) ∧ lk (mMsk 75) 61 = none := by decide +kernel
theorem i75_62 : decode (mCd 75) 62 = .ok (.putfield 65, 3) ∧ lk (mMsk 75) 62 = none := by decide +kernel
theorem p75_65 : pOk 75 65 8 8 = true := by decide +kernel
theorem i75_65 : decode (mCd 75) 65 = .ok (.aload_n 0, 1) ∧ lk (mMsk 75) 65 = none := by decide +kernel
theorem i75_66 : decode (mCd 75) 66 = .ok (.iconst 0, 1) ∧ lk (mMsk 75) 66 = none := by decide +kernel
theorem i75_67 : decode (mCd 75) 67 = .ok (.putfield 69, 3) ∧ lk (mMsk 75) 67 = none := by decide +kernel
theorem p75_69 : pOk 75 69 8 9 = true := by decide +kernel
theorem i75_70 : decode (mCd 75) 70 = .ok (.aload_n 0, 1) ∧ lk (mMsk 75) 70 = none := by decide +kernel
theorem i75_71 : decode (mCd 75) 71 = .ok (.dup, 1) ∧ lk (mMsk 75) 71 = none := by decide +kernel
theorem i75_72 : decode (mCd 75) 72 = .ok (.getfield 72, 3) ∧ lk (mMsk 75) 72 = none := by decide +kernel
theorem g75_72 : fOk 75 72 8 10 = true := by decide +kernel
theorem i75_75 : decode (mCd 75) 75 = .ok (.iconst 1, 1) ∧ lk (mMsk 75) 75 = none := by decide +kernel
theorem i75_76 : decode (mCd 75) 76 = .ok (.iadd, 1) ∧ lk (mMsk 75) 76 = none := by decide +kernel
theorem i75_77 : decode (mCd 75) 77 = .ok (.putfield 72, 3) ∧ lk (mMsk 75) 77 = none := by decide +kernel
theorem p75_72 : pOk 75 72 8 10 = true := by decide +kernel
theorem i75_80 : decode (mCd 75) 80 = .ok (.aload_n 0, 1) ∧ lk (mMsk 75) 80 = none := by decide +kernel
theorem i75_81 : decode (mCd 75) 81 = .ok (.getfield 26, 3) ∧ lk (mMsk 75) 81 = none := by decide +kernel
theorem i75_84 : decode (mCd 75) 84 = .ok (.getfield 109, 3) ∧ lk (mMsk 75) 84 = none := by decide +kernel
theorem g75_109 : fOk 75 109 2 3 = true := by decide +kernel
theorem i75_87 : decode (mCd 75) 87 = .ok (.ireturn, 1) ∧ lk (mMsk 75) 87 = none := by decide +kernel
theorem i75_33 : decode (mCd 75) 33 = .ok (.ireturn, 1) ∧ lk (mMsk 75) 33 = none := by decide +kernel
theorem i76_0 : decode (mCd 76) 0 = .ok (.iload_n 1, 1) ∧ lk (mMsk 76) 0 = none := by decide +kernel
theorem i76_1 : decode (mCd 76) 1 = .ok (.ifCond .lt 14, 3) ∧ lk (mMsk 76) 1 = none := by decide +kernel
theorem i76_15 : decode (mCd 76) 15 = .ok (.bipush (-101), 2) ∧ lk (mMsk 76) 15 = some [false, false, false] := by decide +kernel
theorem i76_4 : decode (mCd 76) 4 = .ok (.iload_n 1, 1) ∧ lk (mMsk 76) 4 = none := by decide +kernel
theorem i76_5 : decode (mCd 76) 5 = .ok (.aload_n 0, 1) ∧ lk (mMsk 76) 5 = none := by decide +kernel
theorem i76_6 : decode (mCd 76) 6 = .ok (.getfield 26, 3) ∧ lk (mMsk 76) 6 = none := by decide +kernel
theorem g76_26 : fOk 76 26 8 2 = true := by decide +kernel
theorem i76_9 : decode (mCd 76) 9 = .ok (.getfield 109, 3) ∧ lk (mMsk 76) 9 = none := by decide +kernel
theorem g76_109 : fOk 76 109 2 3 = true := by decide +kernel
theorem i76_12 : decode (mCd 76) 12 = .ok (.if_icmp .lt 6, 3) ∧ lk (mMsk 76) 12 = none := by decide +kernel
theorem i76_18 : decode (mCd 76) 18 = .ok (.iload_n 2, 1) ∧ lk (mMsk 76) 18 = none := by decide +kernel
theorem i76_19 : decode (mCd 76) 19 = .ok (.tableswitch 63 0 2 #[25, 35, 45], 25) ∧ lk (mMsk 76) 19 = none := by decide +kernel
theorem i76_44 : decode (mCd 76) 44 = .ok (.aload_n 0, 1) ∧ lk (mMsk 76) 44 = none := by decide +kernel
theorem i76_45 : decode (mCd 76) 45 = .ok (.getfield 26, 3) ∧ lk (mMsk 76) 45 = none := by decide +kernel
theorem i76_48 : decode (mCd 76) 48 = .ok (.getfield 112, 3) ∧ lk (mMsk 76) 48 = none := by decide +kernel
theorem g76_112 : fOk 76 112 2 0 = true := by decide +kernel
theorem i76_51 : decode (mCd 76) 51 = .ok (.iload_n 1, 1) ∧ lk (mMsk 76) 51 = none := by decide +kernel
theorem i76_52 : decode (mCd 76) 52 = .ok (.iaload, 1) ∧ lk (mMsk 76) 52 = none := by decide +kernel
theorem i76_53 : decode (mCd 76) 53 = .ok (.ireturn, 1) ∧ lk (mMsk 76) 53 = none := by decide +kernel
theorem i76_54 : decode (mCd 76) 54 = .ok (.aload_n 0, 1) ∧ lk (mMsk 76) 54 = none := by decide +kernel
theorem i76_55 : decode (mCd 76) 55 = .ok (.getfield 26, 3) ∧ lk (mMsk 76) 55 = none := by decide +kernel
theorem i76_58 : decode (mCd 76) 58 = .ok (.getfield 116, 3) ∧ lk (mMsk 76) 58 = none := by decide +kernel
theorem g76_116 : fOk 76 116 2 1 = true := by decide +kernel
theorem i76_61 : decode (mCd 76) 61 = .ok (.iload_n 1, 1) ∧ lk (mMsk 76) 61 = none := by decide +kernel
theorem i76_62 : decode (mCd 76) 62 = .ok (.iaload, 1) ∧ lk (mMsk 76) 62 = none := by decide +kernel
theorem i76_63 : decode (mCd 76) 63 = .ok (.ireturn, 1) ∧ lk (mMsk 76) 63 = none := by decide +kernel
theorem i76_64 : decode (mCd 76) 64 = .ok (.aload_n 0, 1) ∧ lk (mMsk 76) 64 = none := by decide +kernel
theorem i76_65 : decode (mCd 76) 65 = .ok (.getfield 26, 3) ∧ lk (mMsk 76) 65 = none := by decide +kernel
theorem i76_68 : decode (mCd 76) 68 = .ok (.getfield 119, 3) ∧ lk (mMsk 76) 68 = none := by decide +kernel
theorem g76_119 : fOk 76 119 2 2 = true := by decide +kernel
theorem i76_71 : decode (mCd 76) 71 = .ok (.iload_n 1, 1) ∧ lk (mMsk 76) 71 = none := by decide +kernel
theorem i76_72 : decode (mCd 76) 72 = .ok (.baload, 1) ∧ lk (mMsk 76) 72 = none := by decide +kernel
theorem i76_73 : decode (mCd 76) 73 = .ok (.ifCond .eq 7, 3) ∧ lk (mMsk 76) 73 = none := by decide +kernel
theorem i76_80 : decode (mCd 76) 80 = .ok (.iconst 0, 1) ∧ lk (mMsk 76) 80 = none := by decide +kernel
theorem i76_81 : decode (mCd 76) 81 = .ok (.ireturn, 1) ∧ lk (mMsk 76) 81 = some [false, false, false] := by decide +kernel
theorem i76_76 : decode (mCd 76) 76 = .ok (.iconst 1, 1) ∧ lk (mMsk 76) 76 = none := by decide +kernel
theorem i76_77 : decode (mCd 76) 77 = .ok (.goto 4, 3) ∧ lk (mMsk 76) 77 = none := by decide +kernel
theorem i76_82 : decode (mCd 76) 82 = .ok (.bipush (-102), 2) ∧ lk (mMsk 76) 82 = none := by decide +kernel
theorem i76_84 : decode (mCd 76) 84 = .ok (.ireturn, 1) ∧ lk (mMsk 76) 84 = none := by decide +kernel
theorem i76_17 : decode (mCd 76) 17 = .ok (.ireturn, 1) ∧ lk (mMsk 76) 17 = none := by decide +kernel
theorem i77_0 : decode (mCd 77) 0 = .ok (.iload_n 2, 1) ∧ lk (mMsk 77) 0 = none := by decide +kernel
theorem i77_1 : decode (mCd 77) 1 = .ok (.invokestatic 123, 3) ∧ lk (mMsk 77) 1 = none := by decide +kernel
theorem c77_123 : ciOk 77 123 101 1 0 = true := by decide +kernel
theorem i77_4 : decode (mCd 77) 4 = .ok (.ifCond .eq 10, 3) ∧ lk (mMsk 77) 4 = none := by decide +kernel
theorem i77_14 : decode (mCd 77) 14 = .ok (.bipush (-101), 2) ∧ lk (mMsk 77) 14 = some [false, false, false, false, false] := by decide +kernel
theorem i77_7 : decode (mCd 77) 7 = .ok (.iload_n 3, 1) ∧ lk (mMsk 77) 7 = none := by decide +kernel
theorem i77_8 : decode (mCd 77) 8 = .ok (.invokestatic 123, 3) ∧ lk (mMsk 77) 8 = none := by decide +kernel
theorem i77_11 : decode (mCd 77) 11 = .ok (.ifCond .ne 6, 3) ∧ lk (mMsk 77) 11 = none := by decide +kernel
theorem i77_17 : decode (mCd 77) 17 = .ok (.iload_n 1, 1) ∧ lk (mMsk 77) 17 = none := by decide +kernel
theorem i77_18 : decode (mCd 77) 18 = .ok (.invokestatic 127, 3) ∧ lk (mMsk 77) 18 = none := by decide +kernel
theorem c77_127 : ciOk 77 127 102 1 0 = true := by decide +kernel
theorem i77_21 : decode (mCd 77) 21 = .ok (.ifCond .eq 11, 3) ∧ lk (mMsk 77) 21 = none := by decide +kernel
theorem i77_32 : decode (mCd 77) 32 = .ok (.bipush (-102), 2) ∧ lk (mMsk 77) 32 = some [false, false, false, false, false] := by decide +kernel
theorem i77_24 : decode (mCd 77) 24 = .ok (.iload 4, 2) ∧ lk (mMsk 77) 24 = none := by decide +kernel
theorem i77_26 : decode (mCd 77) 26 = .ok (.invokestatic 130, 3) ∧ lk (mMsk 77) 26 = none := by decide +kernel
theorem c77_130 : ciOk 77 130 103 1 0 = true := by decide +kernel
theorem i77_29 : decode (mCd 77) 29 = .ok (.ifCond .ne 6, 3) ∧ lk (mMsk 77) 29 = none := by decide +kernel
theorem i77_35 : decode (mCd 77) 35 = .ok (.aload_n 0, 1) ∧ lk (mMsk 77) 35 = none := by decide +kernel
theorem i77_36 : decode (mCd 77) 36 = .ok (.getfield 65, 3) ∧ lk (mMsk 77) 36 = none := by decide +kernel
theorem g77_65 : fOk 77 65 8 8 = true := by decide +kernel
theorem i77_39 : decode (mCd 77) 39 = .ok (.ifCond .ne 6, 3) ∧ lk (mMsk 77) 39 = none := by decide +kernel
theorem i77_42 : decode (mCd 77) 42 = .ok (.bipush (-103), 2) ∧ lk (mMsk 77) 42 = none := by decide +kernel
theorem i77_44 : decode (mCd 77) 44 = .ok (.ireturn, 1) ∧ lk (mMsk 77) 44 = none := by decide +kernel
theorem i77_45 : decode (mCd 77) 45 = .ok (.aload_n 0, 1) ∧ lk (mMsk 77) 45 = none := by decide +kernel
theorem i77_46 : decode (mCd 77) 46 = .ok (.getfield 33, 3) ∧ lk (mMsk 77) 46 = none := by decide +kernel
theorem g77_33 : fOk 77 33 8 3 = true := by decide +kernel
theorem i77_49 : decode (mCd 77) 49 = .ok (.iload_n 1, 1) ∧ lk (mMsk 77) 49 = none := by decide +kernel
theorem i77_50 : decode (mCd 77) 50 = .ok (.iload_n 2, 1) ∧ lk (mMsk 77) 50 = none := by decide +kernel
theorem i77_51 : decode (mCd 77) 51 = .ok (.iload_n 3, 1) ∧ lk (mMsk 77) 51 = none := by decide +kernel
theorem i77_52 : decode (mCd 77) 52 = .ok (.iload 4, 2) ∧ lk (mMsk 77) 52 = none := by decide +kernel
theorem i77_54 : decode (mCd 77) 54 = .ok (.invokevirtual 133, 3) ∧ lk (mMsk 77) 54 = none := by decide +kernel
theorem c77_133 : cvOk 77 133 61 4 0 = true := by decide +kernel
theorem i77_57 : decode (mCd 77) 57 = .ok (.ifCond .eq 15, 3) ∧ lk (mMsk 77) 57 = none := by decide +kernel
theorem i77_72 : decode (mCd 77) 72 = .ok (.bipush (-104), 2) ∧ lk (mMsk 77) 72 = none := by decide +kernel
theorem i77_74 : decode (mCd 77) 74 = .ok (.ireturn, 1) ∧ lk (mMsk 77) 74 = some [false, false, false, false, false] := by decide +kernel
theorem i77_60 : decode (mCd 77) 60 = .ok (.aload_n 0, 1) ∧ lk (mMsk 77) 60 = none := by decide +kernel
theorem i77_61 : decode (mCd 77) 61 = .ok (.getfield 33, 3) ∧ lk (mMsk 77) 61 = none := by decide +kernel
theorem i77_64 : decode (mCd 77) 64 = .ok (.getfield 137, 3) ∧ lk (mMsk 77) 64 = none := by decide +kernel
theorem g77_137 : fOk 77 137 6 1 = true := by decide +kernel
theorem i77_67 : decode (mCd 77) 67 = .ok (.iconst 1, 1) ∧ lk (mMsk 77) 67 = none := by decide +kernel
theorem i77_68 : decode (mCd 77) 68 = .ok (.isub, 1) ∧ lk (mMsk 77) 68 = none := by decide +kernel
theorem i77_69 : decode (mCd 77) 69 = .ok (.goto 5, 3) ∧ lk (mMsk 77) 69 = none := by decide +kernel
theorem i77_34 : decode (mCd 77) 34 = .ok (.ireturn, 1) ∧ lk (mMsk 77) 34 = none := by decide +kernel
theorem i77_16 : decode (mCd 77) 16 = .ok (.ireturn, 1) ∧ lk (mMsk 77) 16 = none := by decide +kernel
theorem i78_0 : decode (mCd 78) 0 = .ok (.aload_n 0, 1) ∧ lk (mMsk 78) 0 = none := by decide +kernel
theorem i78_1 : decode (mCd 78) 1 = .ok (.getfield 33, 3) ∧ lk (mMsk 78) 1 = none := by decide +kernel
theorem g78_33 : fOk 78 33 8 3 = true := by decide +kernel
theorem i78_4 : decode (mCd 78) 4 = .ok (.iload_n 1, 1) ∧ lk (mMsk 78) 4 = none := by decide +kernel
theorem i78_5 : decode (mCd 78) 5 = .ok (.invokevirtual 140, 3) ∧ lk (mMsk 78) 5 = none := by decide +kernel
theorem c78_140 : cvOk 78 140 59 1 2 = true := by decide +kernel
theorem i78_8 : decode (mCd 78) 8 = .ok (.astore_n 3, 1) ∧ lk (mMsk 78) 8 = none := by decide +kernel
theorem i78_9 : decode (mCd 78) 9 = .ok (.aload_n 3, 1) ∧ lk (mMsk 78) 9 = none := by decide +kernel
theorem i78_10 : decode (mCd 78) 10 = .ok (.ifnonnull 6, 3) ∧ lk (mMsk 78) 10 = none := by decide +kernel
theorem i78_13 : decode (mCd 78) 13 = .ok (.bipush (-101), 2) ∧ lk (mMsk 78) 13 = some [false, false, false, false] := by decide +kernel
theorem i78_16 : decode (mCd 78) 16 = .ok (.iload_n 2, 1) ∧ lk (mMsk 78) 16 = some [false, false, true, true] := by decide +kernel
theorem i78_17 : decode (mCd 78) 17 = .ok (.tableswitch 91 0 6 #[43, 48, 53, 58, 63, 72, 82], 43) ∧ lk (mMsk 78) 17 = none := by decide +kernel
theorem i78_60 : decode (mCd 78) 60 = .ok (.aload_n 3, 1) ∧ lk (mMsk 78) 60 = none := by decide +kernel
theorem i78_61 : decode (mCd 78) 61 = .ok (.getfield 144, 3) ∧ lk (mMsk 78) 61 = none := by decide +kernel
theorem g78_144 : fOk 78 144 7 0 = true := by decide +kernel
theorem i78_64 : decode (mCd 78) 64 = .ok (.ireturn, 1) ∧ lk (mMsk 78) 64 = none := by decide +kernel
theorem i78_65 : decode (mCd 78) 65 = .ok (.aload_n 3, 1) ∧ lk (mMsk 78) 65 = none := by decide +kernel
theorem i78_66 : decode (mCd 78) 66 = .ok (.getfield 149, 3) ∧ lk (mMsk 78) 66 = none := by decide +kernel
theorem g78_149 : fOk 78 149 7 1 = true := by decide +kernel
theorem i78_69 : decode (mCd 78) 69 = .ok (.ireturn, 1) ∧ lk (mMsk 78) 69 = none := by decide +kernel
theorem i78_70 : decode (mCd 78) 70 = .ok (.aload_n 3, 1) ∧ lk (mMsk 78) 70 = none := by decide +kernel
theorem i78_71 : decode (mCd 78) 71 = .ok (.getfield 152, 3) ∧ lk (mMsk 78) 71 = none := by decide +kernel
theorem g78_152 : fOk 78 152 7 2 = true := by decide +kernel
theorem i78_74 : decode (mCd 78) 74 = .ok (.ireturn, 1) ∧ lk (mMsk 78) 74 = none := by decide +kernel
theorem i78_75 : decode (mCd 78) 75 = .ok (.aload_n 3, 1) ∧ lk (mMsk 78) 75 = none := by decide +kernel
theorem i78_76 : decode (mCd 78) 76 = .ok (.getfield 155, 3) ∧ lk (mMsk 78) 76 = none := by decide +kernel
theorem g78_155 : fOk 78 155 7 3 = true := by decide +kernel
theorem i78_79 : decode (mCd 78) 79 = .ok (.ireturn, 1) ∧ lk (mMsk 78) 79 = none := by decide +kernel
theorem i78_80 : decode (mCd 78) 80 = .ok (.aload_n 3, 1) ∧ lk (mMsk 78) 80 = none := by decide +kernel
theorem i78_81 : decode (mCd 78) 81 = .ok (.aload_n 3, 1) ∧ lk (mMsk 78) 81 = none := by decide +kernel
theorem i78_82 : decode (mCd 78) 82 = .ok (.getfield 155, 3) ∧ lk (mMsk 78) 82 = none := by decide +kernel
theorem i78_85 : decode (mCd 78) 85 = .ok (.invokevirtual 158, 3) ∧ lk (mMsk 78) 85 = none := by decide +kernel
theorem c78_158 : cvOk 78 158 67 1 0 = true := by decide +kernel
theorem i78_88 : decode (mCd 78) 88 = .ok (.ireturn, 1) ∧ lk (mMsk 78) 88 = none := by decide +kernel
theorem i78_89 : decode (mCd 78) 89 = .ok (.aload_n 3, 1) ∧ lk (mMsk 78) 89 = none := by decide +kernel
theorem i78_90 : decode (mCd 78) 90 = .ok (.getfield 162, 3) ∧ lk (mMsk 78) 90 = none := by decide +kernel
theorem g78_162 : fOk 78 162 7 5 = true := by decide +kernel
theorem i78_93 : decode (mCd 78) 93 = .ok (.aload_n 3, 1) ∧ lk (mMsk 78) 93 = none := by decide +kernel
theorem i78_94 : decode (mCd 78) 94 = .ok (.getfield 165, 3) ∧ lk (mMsk 78) 94 = none := by decide +kernel
theorem g78_165 : fOk 78 165 7 6 = true := by decide +kernel
theorem i78_97 : decode (mCd 78) 97 = .ok (.isub, 1) ∧ lk (mMsk 78) 97 = none := by decide +kernel
theorem i78_98 : decode (mCd 78) 98 = .ok (.ireturn, 1) ∧ lk (mMsk 78) 98 = none := by decide +kernel
theorem i78_99 : decode (mCd 78) 99 = .ok (.aload_n 3, 1) ∧ lk (mMsk 78) 99 = none := by decide +kernel
theorem i78_100 : decode (mCd 78) 100 = .ok (.aload_n 3, 1) ∧ lk (mMsk 78) 100 = none := by decide +kernel
theorem i78_101 : decode (mCd 78) 101 = .ok (.getfield 165, 3) ∧ lk (mMsk 78) 101 = none := by decide +kernel
theorem i78_104 : decode (mCd 78) 104 = .ok (.invokevirtual 168, 3) ∧ lk (mMsk 78) 104 = none := by decide +kernel
theorem c78_168 : cvOk 78 168 68 1 0 = true := by decide +kernel
theorem i78_107 : decode (mCd 78) 107 = .ok (.ireturn, 1) ∧ lk (mMsk 78) 107 = none := by decide +kernel
theorem i78_108 : decode (mCd 78) 108 = .ok (.bipush (-102), 2) ∧ lk (mMsk 78) 108 = none := by decide +kernel
theorem i78_110 : decode (mCd 78) 110 = .ok (.ireturn, 1) ∧ lk (mMsk 78) 110 = none := by decide +kernel
theorem i78_15 : decode (mCd 78) 15 = .ok (.ireturn, 1) ∧ lk (mMsk 78) 15 = none := by decide +kernel
theorem i79_0 : decode (mCd 79) 0 = .ok (.aload_n 0, 1) ∧ lk (mMsk 79) 0 = none := by decide +kernel
theorem i79_1 : decode (mCd 79) 1 = .ok (.getfield 33, 3) ∧ lk (mMsk 79) 1 = none := by decide +kernel
theorem g79_33 : fOk 79 33 8 3 = true := by decide +kernel
theorem i79_4 : decode (mCd 79) 4 = .ok (.iload_n 1, 1) ∧ lk (mMsk 79) 4 = none := by decide +kernel
theorem i79_5 : decode (mCd 79) 5 = .ok (.invokevirtual 140, 3) ∧ lk (mMsk 79) 5 = none := by decide +kernel
theorem c79_140 : cvOk 79 140 59 1 2 = true := by decide +kernel
theorem i79_8 : decode (mCd 79) 8 = .ok (.astore_n 3, 1) ∧ lk (mMsk 79) 8 = none := by decide +kernel
theorem i79_9 : decode (mCd 79) 9 = .ok (.aload_n 3, 1) ∧ lk (mMsk 79) 9 = none := by decide +kernel
theorem i79_10 : decode (mCd 79) 10 = .ok (.ifnonnull 6, 3) ∧ lk (mMsk 79) 10 = none := by decide +kernel
theorem i79_13 : decode (mCd 79) 13 = .ok (.bipush (-101), 2) ∧ lk (mMsk 79) 13 = some [false, false, false, false] := by decide +kernel
theorem i79_16 : decode (mCd 79) 16 = .ok (.iload_n 2, 1) ∧ lk (mMsk 79) 16 = some [false, true, true, true] := by decide +kernel
theorem i79_17 : decode (mCd 79) 17 = .ok (.invokestatic 127, 3) ∧ lk (mMsk 79) 17 = none := by decide +kernel
theorem c79_127 : ciOk 79 127 102 1 0 = true := by decide +kernel
theorem i79_20 : decode (mCd 79) 20 = .ok (.ifCond .ne 6, 3) ∧ lk (mMsk 79) 20 = none := by decide +kernel
theorem i79_23 : decode (mCd 79) 23 = .ok (.bipush (-102), 2) ∧ lk (mMsk 79) 23 = none := by decide +kernel
theorem i79_25 : decode (mCd 79) 25 = .ok (.ireturn, 1) ∧ lk (mMsk 79) 25 = none := by decide +kernel
theorem i79_26 : decode (mCd 79) 26 = .ok (.aload_n 3, 1) ∧ lk (mMsk 79) 26 = none := by decide +kernel
theorem i79_27 : decode (mCd 79) 27 = .ok (.iload_n 2, 1) ∧ lk (mMsk 79) 27 = none := by decide +kernel
theorem i79_28 : decode (mCd 79) 28 = .ok (.invokevirtual 171, 3) ∧ lk (mMsk 79) 28 = none := by decide +kernel
theorem c79_171 : cvOk 79 171 66 1 0 = true := by decide +kernel
theorem i79_31 : decode (mCd 79) 31 = .ok (.ifCond .eq 7, 3) ∧ lk (mMsk 79) 31 = none := by decide +kernel
theorem i79_38 : decode (mCd 79) 38 = .ok (.iconst (-1), 1) ∧ lk (mMsk 79) 38 = none := by decide +kernel
theorem i79_39 : decode (mCd 79) 39 = .ok (.ireturn, 1) ∧ lk (mMsk 79) 39 = some [false, false, false, false] := by decide +kernel
theorem i79_34 : decode (mCd 79) 34 = .ok (.iload_n 1, 1) ∧ lk (mMsk 79) 34 = none := by decide +kernel
theorem i79_35 : decode (mCd 79) 35 = .ok (.goto 4, 3) ∧ lk (mMsk 79) 35 = none := by decide +kernel
theorem i79_15 : decode (mCd 79) 15 = .ok (.ireturn, 1) ∧ lk (mMsk 79) 15 = none := by decide +kernel
theorem i80_0 : decode (mCd 80) 0 = .ok (.aload_n 0, 1) ∧ lk (mMsk 80) 0 = none := by decide +kernel
theorem i80_1 : decode (mCd 80) 1 = .ok (.getfield 33, 3) ∧ lk (mMsk 80) 1 = none := by decide +kernel
theorem g80_33 : fOk 80 33 8 3 = true := by decide +kernel
theorem i80_4 : decode (mCd 80) 4 = .ok (.iload_n 1, 1) ∧ lk (mMsk 80) 4 = none := by decide +kernel
theorem i80_5 : decode (mCd 80) 5 = .ok (.invokevirtual 140, 3) ∧ lk (mMsk 80) 5 = none := by decide +kernel
theorem c80_140 : cvOk 80 140 59 1 2 = true := by decide +kernel
theorem i80_8 : decode (mCd 80) 8 = .ok (.astore_n 2, 1) ∧ lk (mMsk 80) 8 = none := by decide +kernel
theorem i80_9 : decode (mCd 80) 9 = .ok (.aload_n 2, 1) ∧ lk (mMsk 80) 9 = none := by decide +kernel
theorem i80_10 : decode (mCd 80) 10 = .ok (.ifnonnull 6, 3) ∧ lk (mMsk 80) 10 = none := by decide +kernel
theorem i80_13 : decode (mCd 80) 13 = .ok (.bipush (-101), 2) ∧ lk (mMsk 80) 13 = some [false, false, false] := by decide +kernel
theorem i80_16 : decode (mCd 80) 16 = .ok (.aload_n 0, 1) ∧ lk (mMsk 80) 16 = some [true, false, true] := by decide +kernel
theorem i80_17 : decode (mCd 80) 17 = .ok (.getfield 12, 3) ∧ lk (mMsk 80) 17 = none := by decide +kernel
theorem g80_12 : fOk 80 12 8 0 = true := by decide +kernel
theorem i80_20 : decode (mCd 80) 20 = .ok (.getfield 83, 3) ∧ lk (mMsk 80) 20 = none := by decide +kernel
theorem g80_83 : fOk 80 83 4 1 = true := by decide +kernel
theorem i80_23 : decode (mCd 80) 23 = .ok (.ifCond .eq 31, 3) ∧ lk (mMsk 80) 23 = none := by decide +kernel
theorem i80_54 : decode (mCd 80) 54 = .ok (.bipush (-103), 2) ∧ lk (mMsk 80) 54 = some [false, false, false] := by decide +kernel
theorem i80_26 : decode (mCd 80) 26 = .ok (.aload_n 0, 1) ∧ lk (mMsk 80) 26 = none := by decide +kernel
theorem i80_27 : decode (mCd 80) 27 = .ok (.getfield 12, 3) ∧ lk (mMsk 80) 27 = none := by decide +kernel
theorem i80_30 : decode (mCd 80) 30 = .ok (.invokevirtual 94, 3) ∧ lk (mMsk 80) 30 = none := by decide +kernel
theorem c80_94 : cvOk 80 94 45 0 0 = true := by decide +kernel
theorem i80_33 : decode (mCd 80) 33 = .ok (.aload_n 0, 1) ∧ lk (mMsk 80) 33 = none := by decide +kernel
theorem i80_34 : decode (mCd 80) 34 = .ok (.getfield 12, 3) ∧ lk (mMsk 80) 34 = none := by decide +kernel
theorem i80_37 : decode (mCd 80) 37 = .ok (.getfield 83, 3) ∧ lk (mMsk 80) 37 = none := by decide +kernel
theorem i80_40 : decode (mCd 80) 40 = .ok (.if_icmp .lt 14, 3) ∧ lk (mMsk 80) 40 = none := by decide +kernel
theorem i80_43 : decode (mCd 80) 43 = .ok (.aload_n 0, 1) ∧ lk (mMsk 80) 43 = none := by decide +kernel
theorem i80_44 : decode (mCd 80) 44 = .ok (.aload_n 2, 1) ∧ lk (mMsk 80) 44 = none := by decide +kernel
theorem i80_45 : decode (mCd 80) 45 = .ok (.getfield 149, 3) ∧ lk (mMsk 80) 45 = none := by decide +kernel
theorem g80_149 : fOk 80 149 7 1 = true := by decide +kernel
theorem i80_48 : decode (mCd 80) 48 = .ok (.invokevirtual 174, 3) ∧ lk (mMsk 80) 48 = none := by decide +kernel
theorem c80_174 : cvOk 80 174 98 1 0 = true := by decide +kernel
theorem i80_51 : decode (mCd 80) 51 = .ok (.ifCond .ne 6, 3) ∧ lk (mMsk 80) 51 = none := by decide +kernel
theorem i80_57 : decode (mCd 80) 57 = .ok (.aload_n 2, 1) ∧ lk (mMsk 80) 57 = none := by decide +kernel
theorem i80_58 : decode (mCd 80) 58 = .ok (.aload_n 0, 1) ∧ lk (mMsk 80) 58 = none := by decide +kernel
theorem i80_59 : decode (mCd 80) 59 = .ok (.getfield 12, 3) ∧ lk (mMsk 80) 59 = none := by decide +kernel
theorem i80_62 : decode (mCd 80) 62 = .ok (.invokevirtual 177, 3) ∧ lk (mMsk 80) 62 = none := by decide +kernel
theorem c80_177 : cvOk 80 177 69 1 3 = true := by decide +kernel
theorem i80_65 : decode (mCd 80) 65 = .ok (.aload_n 0, 1) ∧ lk (mMsk 80) 65 = none := by decide +kernel
theorem i80_66 : decode (mCd 80) 66 = .ok (.getfield 12, 3) ∧ lk (mMsk 80) 66 = none := by decide +kernel
theorem i80_69 : decode (mCd 80) 69 = .ok (.iconst 0, 1) ∧ lk (mMsk 80) 69 = none := by decide +kernel
theorem i80_70 : decode (mCd 80) 70 = .ok (.putfield 83, 3) ∧ lk (mMsk 80) 70 = none := by decide +kernel
theorem p80_83 : pOk 80 83 4 1 = true := by decide +kernel
theorem i80_73 : decode (mCd 80) 73 = .ok (.aload_n 2, 1) ∧ lk (mMsk 80) 73 = none := by decide +kernel
theorem i80_74 : decode (mCd 80) 74 = .ok (.getfield 162, 3) ∧ lk (mMsk 80) 74 = none := by decide +kernel
theorem g80_162 : fOk 80 162 7 5 = true := by decide +kernel
theorem i80_77 : decode (mCd 80) 77 = .ok (.ireturn, 1) ∧ lk (mMsk 80) 77 = none := by decide +kernel
theorem i80_56 : decode (mCd 80) 56 = .ok (.ireturn, 1) ∧ lk (mMsk 80) 56 = none := by decide +kernel
theorem i80_15 : decode (mCd 80) 15 = .ok (.ireturn, 1) ∧ lk (mMsk 80) 15 = none := by decide +kernel
theorem i81_0 : decode (mCd 81) 0 = .ok (.aload_n 0, 1) ∧ lk (mMsk 81) 0 = none := by decide +kernel
theorem i81_1 : decode (mCd 81) 1 = .ok (.getfield 33, 3) ∧ lk (mMsk 81) 1 = none := by decide +kernel
theorem g81_33 : fOk 81 33 8 3 = true := by decide +kernel
theorem i81_4 : decode (mCd 81) 4 = .ok (.iload_n 1, 1) ∧ lk (mMsk 81) 4 = none := by decide +kernel
theorem i81_5 : decode (mCd 81) 5 = .ok (.invokevirtual 140, 3) ∧ lk (mMsk 81) 5 = none := by decide +kernel
theorem c81_140 : cvOk 81 140 59 1 2 = true := by decide +kernel
theorem i81_8 : decode (mCd 81) 8 = .ok (.astore_n 3, 1) ∧ lk (mMsk 81) 8 = none := by decide +kernel
theorem i81_9 : decode (mCd 81) 9 = .ok (.aload_n 3, 1) ∧ lk (mMsk 81) 9 = none := by decide +kernel
theorem i81_10 : decode (mCd 81) 10 = .ok (.ifnonnull 6, 3) ∧ lk (mMsk 81) 10 = none := by decide +kernel
theorem i81_13 : decode (mCd 81) 13 = .ok (.bipush (-101), 2) ∧ lk (mMsk 81) 13 = some [false, false, false, false, false] := by decide +kernel
theorem i81_16 : decode (mCd 81) 16 = .ok (.iload_n 2, 1) ∧ lk (mMsk 81) 16 = some [false, false, true, true, false] := by decide +kernel
theorem i81_17 : decode (mCd 81) 17 = .ok (.invokestatic 130, 3) ∧ lk (mMsk 81) 17 = none := by decide +kernel
theorem c81_130 : ciOk 81 130 103 1 0 = true := by decide +kernel
theorem i81_20 : decode (mCd 81) 20 = .ok (.ifCond .ne 6, 3) ∧ lk (mMsk 81) 20 = none := by decide +kernel
theorem i81_23 : decode (mCd 81) 23 = .ok (.bipush (-102), 2) ∧ lk (mMsk 81) 23 = none := by decide +kernel
theorem i81_25 : decode (mCd 81) 25 = .ok (.ireturn, 1) ∧ lk (mMsk 81) 25 = none := by decide +kernel
theorem i81_26 : decode (mCd 81) 26 = .ok (.aload_n 3, 1) ∧ lk (mMsk 81) 26 = none := by decide +kernel
theorem i81_27 : decode (mCd 81) 27 = .ok (.getfield 155, 3) ∧ lk (mMsk 81) 27 = none := by decide +kernel
theorem g81_155 : fOk 81 155 7 3 = true := by decide +kernel
theorem i81_30 : decode (mCd 81) 30 = .ok (.istore 4, 2) ∧ lk (mMsk 81) 30 = none := by decide +kernel
theorem i81_32 : decode (mCd 81) 32 = .ok (.aload_n 3, 1) ∧ lk (mMsk 81) 32 = none := by decide +kernel
theorem i81_33 : decode (mCd 81) 33 = .ok (.iload_n 2, 1) ∧ lk (mMsk 81) 33 = none := by decide +kernel
theorem i81_34 : decode (mCd 81) 34 = .ok (.putfield 155, 3) ∧ lk (mMsk 81) 34 = none := by decide +kernel
theorem p81_155 : pOk 81 155 7 3 = true := by decide +kernel
theorem i81_37 : decode (mCd 81) 37 = .ok (.iload 4, 2) ∧ lk (mMsk 81) 37 = none := by decide +kernel
theorem i81_39 : decode (mCd 81) 39 = .ok (.ireturn, 1) ∧ lk (mMsk 81) 39 = none := by decide +kernel
theorem i81_15 : decode (mCd 81) 15 = .ok (.ireturn, 1) ∧ lk (mMsk 81) 15 = none := by decide +kernel
theorem i82_0 : decode (mCd 82) 0 = .ok (.aload_n 0, 1) ∧ lk (mMsk 82) 0 = none := by decide +kernel
theorem i82_1 : decode (mCd 82) 1 = .ok (.getfield 33, 3) ∧ lk (mMsk 82) 1 = none := by decide +kernel
theorem g82_33 : fOk 82 33 8 3 = true := by decide +kernel
theorem i82_4 : decode (mCd 82) 4 = .ok (.iload_n 1, 1) ∧ lk (mMsk 82) 4 = none := by decide +kernel
theorem i82_5 : decode (mCd 82) 5 = .ok (.invokevirtual 140, 3) ∧ lk (mMsk 82) 5 = none := by decide +kernel
theorem c82_140 : cvOk 82 140 59 1 2 = true := by decide +kernel
theorem i82_8 : decode (mCd 82) 8 = .ok (.ifnull 19, 3) ∧ lk (mMsk 82) 8 = none := by decide +kernel
theorem i82_27 : decode (mCd 82) 27 = .ok (.bipush (-101), 2) ∧ lk (mMsk 82) 27 = some [false, false, false] := by decide +kernel
theorem i82_11 : decode (mCd 82) 11 = .ok (.aload_n 0, 1) ∧ lk (mMsk 82) 11 = some [true, true, true] := by decide +kernel
theorem i82_12 : decode (mCd 82) 12 = .ok (.getfield 33, 3) ∧ lk (mMsk 82) 12 = none := by decide +kernel
theorem i82_15 : decode (mCd 82) 15 = .ok (.iload_n 2, 1) ∧ lk (mMsk 82) 15 = none := by decide +kernel
theorem i82_16 : decode (mCd 82) 16 = .ok (.invokevirtual 140, 3) ∧ lk (mMsk 82) 16 = none := by decide +kernel
theorem i82_19 : decode (mCd 82) 19 = .ok (.ifnull 8, 3) ∧ lk (mMsk 82) 19 = none := by decide +kernel
theorem i82_22 : decode (mCd 82) 22 = .ok (.iload_n 1, 1) ∧ lk (mMsk 82) 22 = some [true, true, true] := by decide +kernel
theorem i82_23 : decode (mCd 82) 23 = .ok (.iload_n 2, 1) ∧ lk (mMsk 82) 23 = none := by decide +kernel
theorem i82_24 : decode (mCd 82) 24 = .ok (.if_icmp .ne 6, 3) ∧ lk (mMsk 82) 24 = none := by decide +kernel
theorem i82_30 : decode (mCd 82) 30 = .ok (.aload_n 0, 1) ∧ lk (mMsk 82) 30 = none := by decide +kernel
theorem i82_31 : decode (mCd 82) 31 = .ok (.getfield 33, 3) ∧ lk (mMsk 82) 31 = none := by decide +kernel
theorem i82_34 : decode (mCd 82) 34 = .ok (.aload_n 0, 1) ∧ lk (mMsk 82) 34 = none := by decide +kernel
theorem i82_35 : decode (mCd 82) 35 = .ok (.getfield 26, 3) ∧ lk (mMsk 82) 35 = none := by decide +kernel
theorem g82_26 : fOk 82 26 8 2 = true := by decide +kernel
theorem i82_38 : decode (mCd 82) 38 = .ok (.iload_n 1, 1) ∧ lk (mMsk 82) 38 = none := by decide +kernel
theorem i82_39 : decode (mCd 82) 39 = .ok (.iload_n 2, 1) ∧ lk (mMsk 82) 39 = none := by decide +kernel
theorem i82_40 : decode (mCd 82) 40 = .ok (.invokevirtual 181, 3) ∧ lk (mMsk 82) 40 = none := by decide +kernel
theorem c82_181 : cvOk 82 181 60 3 0 = true := by decide +kernel
theorem i82_43 : decode (mCd 82) 43 = .ok (.ifCond .eq 7, 3) ∧ lk (mMsk 82) 43 = none := by decide +kernel
theorem i82_50 : decode (mCd 82) 50 = .ok (.iconst 0, 1) ∧ lk (mMsk 82) 50 = none := by decide +kernel
theorem i82_51 : decode (mCd 82) 51 = .ok (.ireturn, 1) ∧ lk (mMsk 82) 51 = some [false, false, false] := by decide +kernel
theorem i82_46 : decode (mCd 82) 46 = .ok (.iconst 1, 1) ∧ lk (mMsk 82) 46 = none := by decide +kernel
theorem i82_47 : decode (mCd 82) 47 = .ok (.goto 4, 3) ∧ lk (mMsk 82) 47 = none := by decide +kernel
theorem i82_29 : decode (mCd 82) 29 = .ok (.ireturn, 1) ∧ lk (mMsk 82) 29 = none := by decide +kernel
theorem i83_0 : decode (mCd 83) 0 = .ok (.iload_n 1, 1) ∧ lk (mMsk 83) 0 = none := by decide +kernel
theorem i83_1 : decode (mCd 83) 1 = .ok (.invokestatic 123, 3) ∧ lk (mMsk 83) 1 = none := by decide +kernel
theorem c83_123 : ciOk 83 123 101 1 0 = true := by decide +kernel
theorem i83_4 : decode (mCd 83) 4 = .ok (.ifCond .ne 6, 3) ∧ lk (mMsk 83) 4 = none := by decide +kernel
theorem i83_7 : decode (mCd 83) 7 = .ok (.bipush (-101), 2) ∧ lk (mMsk 83) 7 = none := by decide +kernel
theorem i83_9 : decode (mCd 83) 9 = .ok (.ireturn, 1) ∧ lk (mMsk 83) 9 = none := by decide +kernel
theorem i83_10 : decode (mCd 83) 10 = .ok (.iload_n 2, 1) ∧ lk (mMsk 83) 10 = none := by decide +kernel
theorem i83_11 : decode (mCd 83) 11 = .ok (.invokestatic 185, 3) ∧ lk (mMsk 83) 11 = none := by decide +kernel
theorem c83_185 : ciOk 83 185 104 1 0 = true := by decide +kernel
theorem i83_14 : decode (mCd 83) 14 = .ok (.ifCond .ne 6, 3) ∧ lk (mMsk 83) 14 = none := by decide +kernel
theorem i83_17 : decode (mCd 83) 17 = .ok (.bipush (-102), 2) ∧ lk (mMsk 83) 17 = none := by decide +kernel
theorem i83_19 : decode (mCd 83) 19 = .ok (.ireturn, 1) ∧ lk (mMsk 83) 19 = none := by decide +kernel
theorem i83_20 : decode (mCd 83) 20 = .ok (.aload_n 0, 1) ∧ lk (mMsk 83) 20 = none := by decide +kernel
theorem i83_21 : decode (mCd 83) 21 = .ok (.getfield 65, 3) ∧ lk (mMsk 83) 21 = none := by decide +kernel
theorem g83_65 : fOk 83 65 8 8 = true := by decide +kernel
theorem i83_24 : decode (mCd 83) 24 = .ok (.ifCond .ne 6, 3) ∧ lk (mMsk 83) 24 = none := by decide +kernel
theorem i83_27 : decode (mCd 83) 27 = .ok (.bipush (-103), 2) ∧ lk (mMsk 83) 27 = none := by decide +kernel
theorem i83_29 : decode (mCd 83) 29 = .ok (.ireturn, 1) ∧ lk (mMsk 83) 29 = none := by decide +kernel
theorem i83_30 : decode (mCd 83) 30 = .ok (.aload_n 0, 1) ∧ lk (mMsk 83) 30 = none := by decide +kernel
theorem i83_31 : decode (mCd 83) 31 = .ok (.getfield 33, 3) ∧ lk (mMsk 83) 31 = none := by decide +kernel
theorem g83_33 : fOk 83 33 8 3 = true := by decide +kernel
theorem i83_34 : decode (mCd 83) 34 = .ok (.getfield 188, 3) ∧ lk (mMsk 83) 34 = none := by decide +kernel
theorem g83_188 : fOk 83 188 6 2 = true := by decide +kernel
theorem i83_37 : decode (mCd 83) 37 = .ok (.iload_n 1, 1) ∧ lk (mMsk 83) 37 = none := by decide +kernel
theorem i83_38 : decode (mCd 83) 38 = .ok (.iaload, 1) ∧ lk (mMsk 83) 38 = none := by decide +kernel
theorem i83_39 : decode (mCd 83) 39 = .ok (.istore_n 3, 1) ∧ lk (mMsk 83) 39 = none := by decide +kernel
theorem i83_40 : decode (mCd 83) 40 = .ok (.aload_n 0, 1) ∧ lk (mMsk 83) 40 = none := by decide +kernel
theorem i83_41 : decode (mCd 83) 41 = .ok (.getfield 33, 3) ∧ lk (mMsk 83) 41 = none := by decide +kernel
theorem i83_44 : decode (mCd 83) 44 = .ok (.getfield 188, 3) ∧ lk (mMsk 83) 44 = none := by decide +kernel
theorem i83_47 : decode (mCd 83) 47 = .ok (.iload_n 1, 1) ∧ lk (mMsk 83) 47 = none := by decide +kernel
theorem i83_48 : decode (mCd 83) 48 = .ok (.iload_n 2, 1) ∧ lk (mMsk 83) 48 = none := by decide +kernel
theorem i83_49 : decode (mCd 83) 49 = .ok (.iastore, 1) ∧ lk (mMsk 83) 49 = none := by decide +kernel
theorem i83_50 : decode (mCd 83) 50 = .ok (.iload_n 3, 1) ∧ lk (mMsk 83) 50 = none := by decide +kernel
theorem i83_51 : decode (mCd 83) 51 = .ok (.ireturn, 1) ∧ lk (mMsk 83) 51 = none := by decide +kernel
theorem i84_0 : decode (mCd 84) 0 = .ok (.aload_n 0, 1) ∧ lk (mMsk 84) 0 = none := by decide +kernel
theorem i84_1 : decode (mCd 84) 1 = .ok (.getfield 33, 3) ∧ lk (mMsk 84) 1 = none := by decide +kernel
theorem g84_33 : fOk 84 33 8 3 = true := by decide +kernel
theorem i84_4 : decode (mCd 84) 4 = .ok (.iload_n 1, 1) ∧ lk (mMsk 84) 4 = none := by decide +kernel
theorem i84_5 : decode (mCd 84) 5 = .ok (.invokevirtual 140, 3) ∧ lk (mMsk 84) 5 = none := by decide +kernel
theorem c84_140 : cvOk 84 140 59 1 2 = true := by decide +kernel
theorem i84_8 : decode (mCd 84) 8 = .ok (.astore_n 3, 1) ∧ lk (mMsk 84) 8 = none := by decide +kernel
theorem i84_9 : decode (mCd 84) 9 = .ok (.aload_n 3, 1) ∧ lk (mMsk 84) 9 = none := by decide +kernel
theorem i84_10 : decode (mCd 84) 10 = .ok (.ifnonnull 6, 3) ∧ lk (mMsk 84) 10 = none := by decide +kernel
theorem i84_13 : decode (mCd 84) 13 = .ok (.bipush (-101), 2) ∧ lk (mMsk 84) 13 = some [false, false, false, false, false, false] := by decide +kernel
theorem i84_16 : decode (mCd 84) 16 = .ok (.iload_n 2, 1) ∧ lk (mMsk 84) 16 = some [true, false, true, true, false, false] := by decide +kernel
theorem i84_17 : decode (mCd 84) 17 = .ok (.bipush (-20), 2) ∧ lk (mMsk 84) 17 = none := by decide +kernel
theorem i84_19 : decode (mCd 84) 19 = .ok (.if_icmp .lt 9, 3) ∧ lk (mMsk 84) 19 = none := by decide +kernel
theorem i84_28 : decode (mCd 84) 28 = .ok (.bipush (-102), 2) ∧ lk (mMsk 84) 28 = some [false, false, false, false, false, false] := by decide +kernel
theorem i84_22 : decode (mCd 84) 22 = .ok (.iload_n 2, 1) ∧ lk (mMsk 84) 22 = none := by decide +kernel
theorem i84_23 : decode (mCd 84) 23 = .ok (.bipush 20, 2) ∧ lk (mMsk 84) 23 = none := by decide +kernel
theorem i84_25 : decode (mCd 84) 25 = .ok (.if_icmp .le 6, 3) ∧ lk (mMsk 84) 25 = none := by decide +kernel
theorem i84_31 : decode (mCd 84) 31 = .ok (.aload_n 3, 1) ∧ lk (mMsk 84) 31 = none := by decide +kernel
theorem i84_32 : decode (mCd 84) 32 = .ok (.getfield 155, 3) ∧ lk (mMsk 84) 32 = none := by decide +kernel
theorem g84_155 : fOk 84 155 7 3 = true := by decide +kernel
theorem i84_35 : decode (mCd 84) 35 = .ok (.iload_n 2, 1) ∧ lk (mMsk 84) 35 = none := by decide +kernel
theorem i84_36 : decode (mCd 84) 36 = .ok (.iadd, 1) ∧ lk (mMsk 84) 36 = none := by decide +kernel
theorem i84_37 : decode (mCd 84) 37 = .ok (.istore 4, 2) ∧ lk (mMsk 84) 37 = none := by decide +kernel
theorem i84_39 : decode (mCd 84) 39 = .ok (.aload_n 0, 1) ∧ lk (mMsk 84) 39 = none := by decide +kernel
theorem i84_40 : decode (mCd 84) 40 = .ok (.getfield 33, 3) ∧ lk (mMsk 84) 40 = none := by decide +kernel
theorem i84_43 : decode (mCd 84) 43 = .ok (.getfield 188, 3) ∧ lk (mMsk 84) 43 = none := by decide +kernel
theorem g84_188 : fOk 84 188 6 2 = true := by decide +kernel
theorem i84_46 : decode (mCd 84) 46 = .ok (.aload_n 3, 1) ∧ lk (mMsk 84) 46 = none := by decide +kernel
theorem i84_47 : decode (mCd 84) 47 = .ok (.getfield 149, 3) ∧ lk (mMsk 84) 47 = none := by decide +kernel
theorem g84_149 : fOk 84 149 7 1 = true := by decide +kernel
theorem i84_50 : decode (mCd 84) 50 = .ok (.iaload, 1) ∧ lk (mMsk 84) 50 = none := by decide +kernel
theorem i84_51 : decode (mCd 84) 51 = .ok (.iload_n 2, 1) ∧ lk (mMsk 84) 51 = none := by decide +kernel
theorem i84_52 : decode (mCd 84) 52 = .ok (.isub, 1) ∧ lk (mMsk 84) 52 = none := by decide +kernel
theorem i84_53 : decode (mCd 84) 53 = .ok (.istore 5, 2) ∧ lk (mMsk 84) 53 = none := by decide +kernel
theorem i84_55 : decode (mCd 84) 55 = .ok (.aload_n 3, 1) ∧ lk (mMsk 84) 55 = none := by decide +kernel
theorem i84_56 : decode (mCd 84) 56 = .ok (.iconst 1, 1) ∧ lk (mMsk 84) 56 = none := by decide +kernel
theorem i84_57 : decode (mCd 84) 57 = .ok (.invokevirtual 171, 3) ∧ lk (mMsk 84) 57 = none := by decide +kernel
theorem c84_171 : cvOk 84 171 66 1 0 = true := by decide +kernel
theorem i84_60 : decode (mCd 84) 60 = .ok (.ifCond .eq 19, 3) ∧ lk (mMsk 84) 60 = none := by decide +kernel
theorem i84_79 : decode (mCd 84) 79 = .ok (.bipush (-103), 2) ∧ lk (mMsk 84) 79 = some [false, false, false, false, false, false] := by decide +kernel
theorem i84_63 : decode (mCd 84) 63 = .ok (.iload 4, 2) ∧ lk (mMsk 84) 63 = none := by decide +kernel
theorem i84_65 : decode (mCd 84) 65 = .ok (.invokestatic 130, 3) ∧ lk (mMsk 84) 65 = none := by decide +kernel
theorem c84_130 : ciOk 84 130 103 1 0 = true := by decide +kernel
theorem i84_68 : decode (mCd 84) 68 = .ok (.ifCond .eq 11, 3) ∧ lk (mMsk 84) 68 = none := by decide +kernel
theorem i84_71 : decode (mCd 84) 71 = .ok (.iload 5, 2) ∧ lk (mMsk 84) 71 = none := by decide +kernel
theorem i84_73 : decode (mCd 84) 73 = .ok (.invokestatic 185, 3) ∧ lk (mMsk 84) 73 = none := by decide +kernel
theorem c84_185 : ciOk 84 185 104 1 0 = true := by decide +kernel
theorem i84_76 : decode (mCd 84) 76 = .ok (.ifCond .ne 6, 3) ∧ lk (mMsk 84) 76 = none := by decide +kernel
theorem i84_82 : decode (mCd 84) 82 = .ok (.aload_n 3, 1) ∧ lk (mMsk 84) 82 = none := by decide +kernel
theorem i84_83 : decode (mCd 84) 83 = .ok (.iload 4, 2) ∧ lk (mMsk 84) 83 = none := by decide +kernel
theorem i84_85 : decode (mCd 84) 85 = .ok (.putfield 155, 3) ∧ lk (mMsk 84) 85 = none := by decide +kernel
theorem p84_155 : pOk 84 155 7 3 = true := by decide +kernel
theorem i84_88 : decode (mCd 84) 88 = .ok (.aload_n 0, 1) ∧ lk (mMsk 84) 88 = none := by decide +kernel
theorem i84_89 : decode (mCd 84) 89 = .ok (.getfield 33, 3) ∧ lk (mMsk 84) 89 = none := by decide +kernel
theorem i84_92 : decode (mCd 84) 92 = .ok (.getfield 188, 3) ∧ lk (mMsk 84) 92 = none := by decide +kernel
theorem i84_95 : decode (mCd 84) 95 = .ok (.aload_n 3, 1) ∧ lk (mMsk 84) 95 = none := by decide +kernel
theorem i84_96 : decode (mCd 84) 96 = .ok (.getfield 149, 3) ∧ lk (mMsk 84) 96 = none := by decide +kernel
theorem i84_99 : decode (mCd 84) 99 = .ok (.iload 5, 2) ∧ lk (mMsk 84) 99 = none := by decide +kernel
theorem i84_101 : decode (mCd 84) 101 = .ok (.iastore, 1) ∧ lk (mMsk 84) 101 = none := by decide +kernel
theorem i84_102 : decode (mCd 84) 102 = .ok (.iload 4, 2) ∧ lk (mMsk 84) 102 = none := by decide +kernel
theorem i84_104 : decode (mCd 84) 104 = .ok (.ireturn, 1) ∧ lk (mMsk 84) 104 = none := by decide +kernel
theorem i84_81 : decode (mCd 84) 81 = .ok (.ireturn, 1) ∧ lk (mMsk 84) 81 = none := by decide +kernel
theorem i84_30 : decode (mCd 84) 30 = .ok (.ireturn, 1) ∧ lk (mMsk 84) 30 = none := by decide +kernel
theorem i84_15 : decode (mCd 84) 15 = .ok (.ireturn, 1) ∧ lk (mMsk 84) 15 = none := by decide +kernel
theorem i85_0 : decode (mCd 85) 0 = .ok (.iload_n 1, 1) ∧ lk (mMsk 85) 0 = none := by decide +kernel
theorem i85_1 : decode (mCd 85) 1 = .ok (.invokestatic 191, 3) ∧ lk (mMsk 85) 1 = none := by decide +kernel
theorem c85_191 : ciOk 85 191 105 1 0 = true := by decide +kernel
theorem i85_4 : decode (mCd 85) 4 = .ok (.ifCond .ne 6, 3) ∧ lk (mMsk 85) 4 = none := by decide +kernel
theorem i85_7 : decode (mCd 85) 7 = .ok (.bipush (-102), 2) ∧ lk (mMsk 85) 7 = none := by decide +kernel
theorem i85_9 : decode (mCd 85) 9 = .ok (.ireturn, 1) ∧ lk (mMsk 85) 9 = none := by decide +kernel
theorem i85_10 : decode (mCd 85) 10 = .ok (.aload_n 0, 1) ∧ lk (mMsk 85) 10 = none := by decide +kernel
theorem i85_11 : decode (mCd 85) 11 = .ok (.getfield 65, 3) ∧ lk (mMsk 85) 11 = none := by decide +kernel
theorem g85_65 : fOk 85 65 8 8 = true := by decide +kernel
theorem i85_14 : decode (mCd 85) 14 = .ok (.ifCond .ne 6, 3) ∧ lk (mMsk 85) 14 = none := by decide +kernel
theorem i85_17 : decode (mCd 85) 17 = .ok (.bipush (-103), 2) ∧ lk (mMsk 85) 17 = none := by decide +kernel
theorem i85_19 : decode (mCd 85) 19 = .ok (.ireturn, 1) ∧ lk (mMsk 85) 19 = none := by decide +kernel
theorem i85_20 : decode (mCd 85) 20 = .ok (.iconst 0, 1) ∧ lk (mMsk 85) 20 = none := by decide +kernel
theorem i85_21 : decode (mCd 85) 21 = .ok (.istore_n 2, 1) ∧ lk (mMsk 85) 21 = none := by decide +kernel
theorem i85_22 : decode (mCd 85) 22 = .ok (.aload_n 0, 1) ∧ lk (mMsk 85) 22 = none := by decide +kernel
theorem i85_23 : decode (mCd 85) 23 = .ok (.getfield 45, 3) ∧ lk (mMsk 85) 23 = none := by decide +kernel
theorem g85_45 : fOk 85 45 8 5 = true := by decide +kernel
theorem i85_26 : decode (mCd 85) 26 = .ok (.iconst 0, 1) ∧ lk (mMsk 85) 26 = none := by decide +kernel
theorem i85_27 : decode (mCd 85) 27 = .ok (.invokevirtual 194, 3) ∧ lk (mMsk 85) 27 = none := by decide +kernel
theorem c85_194 : cvOk 85 194 10 1 3 = true := by decide +kernel
theorem i85_30 : decode (mCd 85) 30 = .ok (.iconst 0, 1) ∧ lk (mMsk 85) 30 = none := by decide +kernel
theorem i85_31 : decode (mCd 85) 31 = .ok (.istore_n 3, 1) ∧ lk (mMsk 85) 31 = none := by decide +kernel
theorem i85_32 : decode (mCd 85) 32 = .ok (.iload_n 3, 1) ∧ lk (mMsk 85) 32 = some [true, true, true, true] := by decide +kernel
theorem i85_33 : decode (mCd 85) 33 = .ok (.iload_n 1, 1) ∧ lk (mMsk 85) 33 = none := by decide +kernel
theorem i85_34 : decode (mCd 85) 34 = .ok (.if_icmp .ge 19, 3) ∧ lk (mMsk 85) 34 = none := by decide +kernel
theorem i85_53 : decode (mCd 85) 53 = .ok (.aload_n 0, 1) ∧ lk (mMsk 85) 53 = none := by decide +kernel
theorem i85_54 : decode (mCd 85) 54 = .ok (.getfield 45, 3) ∧ lk (mMsk 85) 54 = none := by decide +kernel
theorem i85_57 : decode (mCd 85) 57 = .ok (.invokevirtual 201, 3) ∧ lk (mMsk 85) 57 = none := by decide +kernel
theorem c85_201 : cvOk 85 201 19 0 3 = true := by decide +kernel
theorem i85_60 : decode (mCd 85) 60 = .ok (.aload_n 0, 1) ∧ lk (mMsk 85) 60 = none := by decide +kernel
theorem i85_61 : decode (mCd 85) 61 = .ok (.getfield 33, 3) ∧ lk (mMsk 85) 61 = none := by decide +kernel
theorem g85_33 : fOk 85 33 8 3 = true := by decide +kernel
theorem i85_64 : decode (mCd 85) 64 = .ok (.dup, 1) ∧ lk (mMsk 85) 64 = none := by decide +kernel
theorem i85_65 : decode (mCd 85) 65 = .ok (.getfield 204, 3) ∧ lk (mMsk 85) 65 = none := by decide +kernel
theorem g85_204 : fOk 85 204 6 3 = true := by decide +kernel
theorem i85_68 : decode (mCd 85) 68 = .ok (.iload_n 1, 1) ∧ lk (mMsk 85) 68 = none := by decide +kernel
theorem i85_69 : decode (mCd 85) 69 = .ok (.iadd, 1) ∧ lk (mMsk 85) 69 = none := by decide +kernel
theorem i85_70 : decode (mCd 85) 70 = .ok (.putfield 204, 3) ∧ lk (mMsk 85) 70 = none := by decide +kernel
theorem p85_204 : pOk 85 204 6 3 = true := by decide +kernel
theorem i85_73 : decode (mCd 85) 73 = .ok (.iload_n 2, 1) ∧ lk (mMsk 85) 73 = none := by decide +kernel
theorem i85_74 : decode (mCd 85) 74 = .ok (.ireturn, 1) ∧ lk (mMsk 85) 74 = none := by decide +kernel
theorem i85_37 : decode (mCd 85) 37 = .ok (.iload_n 2, 1) ∧ lk (mMsk 85) 37 = none := by decide +kernel
theorem i85_38 : decode (mCd 85) 38 = .ok (.aload_n 0, 1) ∧ lk (mMsk 85) 38 = none := by decide +kernel
theorem i85_39 : decode (mCd 85) 39 = .ok (.getfield 45, 3) ∧ lk (mMsk 85) 39 = none := by decide +kernel
theorem i85_42 : decode (mCd 85) 42 = .ok (.invokevirtual 198, 3) ∧ lk (mMsk 85) 42 = none := by decide +kernel
theorem c85_198 : cvOk 85 198 13 0 0 = true := by decide +kernel
theorem i85_45 : decode (mCd 85) 45 = .ok (.iadd, 1) ∧ lk (mMsk 85) 45 = none := by decide +kernel
theorem i85_46 : decode (mCd 85) 46 = .ok (.istore_n 2, 1) ∧ lk (mMsk 85) 46 = none := by decide +kernel
theorem i85_47 : decode (mCd 85) 47 = .ok (.iinc 3 1, 3) ∧ lk (mMsk 85) 47 = none := by decide +kernel
theorem i85_50 : decode (mCd 85) 50 = .ok (.goto (-18), 3) ∧ lk (mMsk 85) 50 = none := by decide +kernel
theorem i86_0 : decode (mCd 86) 0 = .ok (.iload_n 1, 1) ∧ lk (mMsk 86) 0 = none := by decide +kernel
theorem i86_1 : decode (mCd 86) 1 = .ok (.ifCond .lt 8, 3) ∧ lk (mMsk 86) 1 = none := by decide +kernel
theorem i86_9 : decode (mCd 86) 9 = .ok (.bipush (-102), 2) ∧ lk (mMsk 86) 9 = some [false, false, false] := by decide +kernel
theorem i86_4 : decode (mCd 86) 4 = .ok (.iload_n 1, 1) ∧ lk (mMsk 86) 4 = none := by decide +kernel
theorem i86_5 : decode (mCd 86) 5 = .ok (.iconst 2, 1) ∧ lk (mMsk 86) 5 = none := by decide +kernel
theorem i86_6 : decode (mCd 86) 6 = .ok (.if_icmp .le 6, 3) ∧ lk (mMsk 86) 6 = none := by decide +kernel
theorem i86_12 : decode (mCd 86) 12 = .ok (.aload_n 0, 1) ∧ lk (mMsk 86) 12 = none := by decide +kernel
theorem i86_13 : decode (mCd 86) 13 = .ok (.getfield 45, 3) ∧ lk (mMsk 86) 13 = none := by decide +kernel
theorem g86_45 : fOk 86 45 8 5 = true := by decide +kernel
theorem i86_16 : decode (mCd 86) 16 = .ok (.iconst 0, 1) ∧ lk (mMsk 86) 16 = none := by decide +kernel
theorem i86_17 : decode (mCd 86) 17 = .ok (.invokevirtual 194, 3) ∧ lk (mMsk 86) 17 = none := by decide +kernel
theorem c86_194 : cvOk 86 194 10 1 3 = true := by decide +kernel
theorem i86_20 : decode (mCd 86) 20 = .ok (.iconst 1, 1) ∧ lk (mMsk 86) 20 = none := by decide +kernel
theorem i86_21 : decode (mCd 86) 21 = .ok (.istore_n 2, 1) ∧ lk (mMsk 86) 21 = none := by decide +kernel
theorem i86_22 : decode (mCd 86) 22 = .ok (.iload_n 2, 1) ∧ lk (mMsk 86) 22 = some [true, true, true] := by decide +kernel
theorem i86_23 : decode (mCd 86) 23 = .ok (.bipush 60, 2) ∧ lk (mMsk 86) 23 = none := by decide +kernel
theorem i86_25 : decode (mCd 86) 25 = .ok (.if_icmp .gt 60, 3) ∧ lk (mMsk 86) 25 = none := by decide +kernel
theorem i86_85 : decode (mCd 86) 85 = .ok (.iconst (-1), 1) ∧ lk (mMsk 86) 85 = some [false, false, false] := by decide +kernel
theorem i86_28 : decode (mCd 86) 28 = .ok (.aload_n 0, 1) ∧ lk (mMsk 86) 28 = none := by decide +kernel
theorem i86_29 : decode (mCd 86) 29 = .ok (.getfield 45, 3) ∧ lk (mMsk 86) 29 = none := by decide +kernel
theorem i86_32 : decode (mCd 86) 32 = .ok (.invokevirtual 207, 3) ∧ lk (mMsk 86) 32 = none := by decide +kernel
theorem c86_207 : cvOk 86 207 11 0 0 = true := by decide +kernel
theorem i86_35 : decode (mCd 86) 35 = .ok (.ifCond .ne 50, 3) ∧ lk (mMsk 86) 35 = none := by decide +kernel
theorem i86_38 : decode (mCd 86) 38 = .ok (.aload_n 0, 1) ∧ lk (mMsk 86) 38 = none := by decide +kernel
theorem i86_39 : decode (mCd 86) 39 = .ok (.getfield 45, 3) ∧ lk (mMsk 86) 39 = none := by decide +kernel
theorem i86_42 : decode (mCd 86) 42 = .ok (.invokevirtual 198, 3) ∧ lk (mMsk 86) 42 = none := by decide +kernel
theorem c86_198 : cvOk 86 198 13 0 0 = true := by decide +kernel
theorem i86_45 : decode (mCd 86) 45 = .ok (.ifCond .le 34, 3) ∧ lk (mMsk 86) 45 = none := by decide +kernel
theorem i86_79 : decode (mCd 86) 79 = .ok (.iinc 2 1, 3) ∧ lk (mMsk 86) 79 = none := by decide +kernel
theorem i86_82 : decode (mCd 86) 82 = .ok (.goto (-60), 3) ∧ lk (mMsk 86) 82 = none := by decide +kernel
theorem i86_48 : decode (mCd 86) 48 = .ok (.iload_n 1, 1) ∧ lk (mMsk 86) 48 = none := by decide +kernel
theorem i86_49 : decode (mCd 86) 49 = .ok (.ifCond .ne 7, 3) ∧ lk (mMsk 86) 49 = none := by decide +kernel
theorem i86_52 : decode (mCd 86) 52 = .ok (.iload_n 2, 1) ∧ lk (mMsk 86) 52 = none := by decide +kernel
theorem i86_53 : decode (mCd 86) 53 = .ok (.goto 25, 3) ∧ lk (mMsk 86) 53 = none := by decide +kernel
theorem i86_78 : decode (mCd 86) 78 = .ok (.ireturn, 1) ∧ lk (mMsk 86) 78 = some [false, false, false] := by decide +kernel
theorem i86_56 : decode (mCd 86) 56 = .ok (.iload_n 1, 1) ∧ lk (mMsk 86) 56 = none := by decide +kernel
theorem i86_57 : decode (mCd 86) 57 = .ok (.iconst 1, 1) ∧ lk (mMsk 86) 57 = none := by decide +kernel
theorem i86_58 : decode (mCd 86) 58 = .ok (.if_icmp .ne 13, 3) ∧ lk (mMsk 86) 58 = none := by decide +kernel
theorem i86_61 : decode (mCd 86) 61 = .ok (.aload_n 0, 1) ∧ lk (mMsk 86) 61 = none := by decide +kernel
theorem i86_62 : decode (mCd 86) 62 = .ok (.getfield 45, 3) ∧ lk (mMsk 86) 62 = none := by decide +kernel
theorem i86_65 : decode (mCd 86) 65 = .ok (.getfield 210, 3) ∧ lk (mMsk 86) 65 = none := by decide +kernel
theorem g86_210 : fOk 86 210 1 8 = true := by decide +kernel
theorem i86_68 : decode (mCd 86) 68 = .ok (.goto 10, 3) ∧ lk (mMsk 86) 68 = none := by decide +kernel
theorem i86_71 : decode (mCd 86) 71 = .ok (.aload_n 0, 1) ∧ lk (mMsk 86) 71 = none := by decide +kernel
theorem i86_72 : decode (mCd 86) 72 = .ok (.getfield 45, 3) ∧ lk (mMsk 86) 72 = none := by decide +kernel
theorem i86_75 : decode (mCd 86) 75 = .ok (.getfield 213, 3) ∧ lk (mMsk 86) 75 = none := by decide +kernel
theorem g86_213 : fOk 86 213 1 9 = true := by decide +kernel
theorem i86_86 : decode (mCd 86) 86 = .ok (.ireturn, 1) ∧ lk (mMsk 86) 86 = none := by decide +kernel
theorem i86_11 : decode (mCd 86) 11 = .ok (.ireturn, 1) ∧ lk (mMsk 86) 11 = none := by decide +kernel
theorem i87_0 : decode (mCd 87) 0 = .ok (.iload_n 1, 1) ∧ lk (mMsk 87) 0 = none := by decide +kernel
theorem i87_1 : decode (mCd 87) 1 = .ok (.ifCond .lt 8, 3) ∧ lk (mMsk 87) 1 = none := by decide +kernel
theorem i87_9 : decode (mCd 87) 9 = .ok (.bipush (-102), 2) ∧ lk (mMsk 87) 9 = some [false, false, false] := by decide +kernel
theorem i87_4 : decode (mCd 87) 4 = .ok (.iload_n 1, 1) ∧ lk (mMsk 87) 4 = none := by decide +kernel
theorem i87_5 : decode (mCd 87) 5 = .ok (.iconst 3, 1) ∧ lk (mMsk 87) 5 = none := by decide +kernel
theorem i87_6 : decode (mCd 87) 6 = .ok (.if_icmp .le 6, 3) ∧ lk (mMsk 87) 6 = none := by decide +kernel
theorem i87_12 : decode (mCd 87) 12 = .ok (.aload_n 0, 1) ∧ lk (mMsk 87) 12 = none := by decide +kernel
theorem i87_13 : decode (mCd 87) 13 = .ok (.invokevirtual 216, 3) ∧ lk (mMsk 87) 13 = none := by decide +kernel
theorem c87_216 : cvOk 87 216 99 0 0 = true := by decide +kernel
theorem i87_16 : decode (mCd 87) 16 = .ok (.ifCond .ne 6, 3) ∧ lk (mMsk 87) 16 = none := by decide +kernel
theorem i87_19 : decode (mCd 87) 19 = .ok (.bipush (-103), 2) ∧ lk (mMsk 87) 19 = none := by decide +kernel
theorem i87_21 : decode (mCd 87) 21 = .ok (.ireturn, 1) ∧ lk (mMsk 87) 21 = none := by decide +kernel
theorem i87_22 : decode (mCd 87) 22 = .ok (.aload_n 0, 1) ∧ lk (mMsk 87) 22 = none := by decide +kernel
theorem i87_23 : decode (mCd 87) 23 = .ok (.dup, 1) ∧ lk (mMsk 87) 23 = none := by decide +kernel
theorem i87_24 : decode (mCd 87) 24 = .ok (.getfield 76, 3) ∧ lk (mMsk 87) 24 = none := by decide +kernel
theorem g87_76 : fOk 87 76 8 11 = true := by decide +kernel
theorem i87_27 : decode (mCd 87) 27 = .ok (.iconst 1, 1) ∧ lk (mMsk 87) 27 = none := by decide +kernel
theorem i87_28 : decode (mCd 87) 28 = .ok (.iadd, 1) ∧ lk (mMsk 87) 28 = none := by decide +kernel
theorem i87_29 : decode (mCd 87) 29 = .ok (.putfield 76, 3) ∧ lk (mMsk 87) 29 = none := by decide +kernel
theorem p87_76 : pOk 87 76 8 11 = true := by decide +kernel
theorem i87_32 : decode (mCd 87) 32 = .ok (.aload_n 0, 1) ∧ lk (mMsk 87) 32 = none := by decide +kernel
theorem i87_33 : decode (mCd 87) 33 = .ok (.getfield 61, 3) ∧ lk (mMsk 87) 33 = none := by decide +kernel
theorem g87_61 : fOk 87 61 8 7 = true := by decide +kernel
theorem i87_36 : decode (mCd 87) 36 = .ok (.invokevirtual 219, 3) ∧ lk (mMsk 87) 36 = none := by decide +kernel
theorem c87_219 : cvOk 87 219 48 0 3 = true := by decide +kernel
theorem i87_39 : decode (mCd 87) 39 = .ok (.aload_n 0, 1) ∧ lk (mMsk 87) 39 = none := by decide +kernel
theorem i87_40 : decode (mCd 87) 40 = .ok (.getfield 61, 3) ∧ lk (mMsk 87) 40 = none := by decide +kernel
theorem i87_43 : decode (mCd 87) 43 = .ok (.iconst (-1), 1) ∧ lk (mMsk 87) 43 = none := by decide +kernel
theorem i87_44 : decode (mCd 87) 44 = .ok (.bipush 30, 2) ∧ lk (mMsk 87) 44 = none := by decide +kernel
theorem i87_46 : decode (mCd 87) 46 = .ok (.invokevirtual 221, 3) ∧ lk (mMsk 87) 46 = none := by decide +kernel
theorem c87_221 : cvOk 87 221 49 2 0 = true := by decide +kernel
theorem i87_49 : decode (mCd 87) 49 = .ok (.istore_n 2, 1) ∧ lk (mMsk 87) 49 = none := by decide +kernel
theorem i87_50 : decode (mCd 87) 50 = .ok (.iload_n 1, 1) ∧ lk (mMsk 87) 50 = none := by decide +kernel
theorem i87_51 : decode (mCd 87) 51 = .ok (.ifCond .ne 5, 3) ∧ lk (mMsk 87) 51 = none := by decide +kernel
theorem i87_54 : decode (mCd 87) 54 = .ok (.iload_n 2, 1) ∧ lk (mMsk 87) 54 = none := by decide +kernel
theorem i87_55 : decode (mCd 87) 55 = .ok (.ireturn, 1) ∧ lk (mMsk 87) 55 = none := by decide +kernel
theorem i87_56 : decode (mCd 87) 56 = .ok (.iload_n 2, 1) ∧ lk (mMsk 87) 56 = none := by decide +kernel
theorem i87_57 : decode (mCd 87) 57 = .ok (.ifCond .le 14, 3) ∧ lk (mMsk 87) 57 = none := by decide +kernel
theorem i87_71 : decode (mCd 87) 71 = .ok (.iconst (-1), 1) ∧ lk (mMsk 87) 71 = some [false, false, false] := by decide +kernel
theorem i87_60 : decode (mCd 87) 60 = .ok (.iload_n 1, 1) ∧ lk (mMsk 87) 60 = none := by decide +kernel
theorem i87_61 : decode (mCd 87) 61 = .ok (.aload_n 0, 1) ∧ lk (mMsk 87) 61 = none := by decide +kernel
theorem i87_62 : decode (mCd 87) 62 = .ok (.getfield 33, 3) ∧ lk (mMsk 87) 62 = none := by decide +kernel
theorem g87_33 : fOk 87 33 8 3 = true := by decide +kernel
theorem i87_65 : decode (mCd 87) 65 = .ok (.getfield 137, 3) ∧ lk (mMsk 87) 65 = none := by decide +kernel
theorem g87_137 : fOk 87 137 6 1 = true := by decide +kernel
theorem i87_68 : decode (mCd 87) 68 = .ok (.if_icmp .le 7, 3) ∧ lk (mMsk 87) 68 = none := by decide +kernel
theorem i87_75 : decode (mCd 87) 75 = .ok (.aload_n 0, 1) ∧ lk (mMsk 87) 75 = none := by decide +kernel
theorem i87_76 : decode (mCd 87) 76 = .ok (.getfield 61, 3) ∧ lk (mMsk 87) 76 = none := by decide +kernel
theorem i87_79 : decode (mCd 87) 79 = .ok (.iload_n 2, 1) ∧ lk (mMsk 87) 79 = none := by decide +kernel
theorem i87_80 : decode (mCd 87) 80 = .ok (.iload_n 1, 1) ∧ lk (mMsk 87) 80 = none := by decide +kernel
theorem i87_81 : decode (mCd 87) 81 = .ok (.iconst 1, 1) ∧ lk (mMsk 87) 81 = none := by decide +kernel
theorem i87_82 : decode (mCd 87) 82 = .ok (.isub, 1) ∧ lk (mMsk 87) 82 = none := by decide +kernel
theorem i87_83 : decode (mCd 87) 83 = .ok (.invokevirtual 225, 3) ∧ lk (mMsk 87) 83 = none := by decide +kernel
theorem c87_225 : cvOk 87 225 55 2 0 = true := by decide +kernel
theorem i87_86 : decode (mCd 87) 86 = .ok (.ireturn, 1) ∧ lk (mMsk 87) 86 = some [false, false, false] := by decide +kernel
theorem i87_72 : decode (mCd 87) 72 = .ok (.goto 14, 3) ∧ lk (mMsk 87) 72 = none := by decide +kernel
theorem i87_11 : decode (mCd 87) 11 = .ok (.ireturn, 1) ∧ lk (mMsk 87) 11 = none := by decide +kernel
theorem i88_0 : decode (mCd 88) 0 = .ok (.iload_n 1, 1) ∧ lk (mMsk 88) 0 = none := by decide +kernel
theorem i88_1 : decode (mCd 88) 1 = .ok (.ifCond .eq 11, 3) ∧ lk (mMsk 88) 1 = none := by decide +kernel
theorem i88_12 : decode (mCd 88) 12 = .ok (.aload_n 0, 1) ∧ lk (mMsk 88) 12 = some [true, true] := by decide +kernel
theorem i88_4 : decode (mCd 88) 4 = .ok (.iload_n 1, 1) ∧ lk (mMsk 88) 4 = none := by decide +kernel
theorem i88_5 : decode (mCd 88) 5 = .ok (.iconst 1, 1) ∧ lk (mMsk 88) 5 = none := by decide +kernel
theorem i88_6 : decode (mCd 88) 6 = .ok (.if_icmp .eq 6, 3) ∧ lk (mMsk 88) 6 = none := by decide +kernel
theorem i88_9 : decode (mCd 88) 9 = .ok (.bipush (-102), 2) ∧ lk (mMsk 88) 9 = none := by decide +kernel
theorem i88_11 : decode (mCd 88) 11 = .ok (.ireturn, 1) ∧ lk (mMsk 88) 11 = none := by decide +kernel
theorem i88_13 : decode (mCd 88) 13 = .ok (.invokevirtual 216, 3) ∧ lk (mMsk 88) 13 = none := by decide +kernel
theorem c88_216 : cvOk 88 216 99 0 0 = true := by decide +kernel
theorem i88_16 : decode (mCd 88) 16 = .ok (.ifCond .ne 6, 3) ∧ lk (mMsk 88) 16 = none := by decide +kernel
theorem i88_19 : decode (mCd 88) 19 = .ok (.bipush (-103), 2) ∧ lk (mMsk 88) 19 = none := by decide +kernel
theorem i88_21 : decode (mCd 88) 21 = .ok (.ireturn, 1) ∧ lk (mMsk 88) 21 = none := by decide +kernel
theorem i88_22 : decode (mCd 88) 22 = .ok (.aload_n 0, 1) ∧ lk (mMsk 88) 22 = none := by decide +kernel
theorem i88_23 : decode (mCd 88) 23 = .ok (.dup, 1) ∧ lk (mMsk 88) 23 = none := by decide +kernel
theorem i88_24 : decode (mCd 88) 24 = .ok (.getfield 76, 3) ∧ lk (mMsk 88) 24 = none := by decide +kernel
theorem g88_76 : fOk 88 76 8 11 = true := by decide +kernel
theorem i88_27 : decode (mCd 88) 27 = .ok (.iconst 1, 1) ∧ lk (mMsk 88) 27 = none := by decide +kernel
theorem i88_28 : decode (mCd 88) 28 = .ok (.iadd, 1) ∧ lk (mMsk 88) 28 = none := by decide +kernel
theorem i88_29 : decode (mCd 88) 29 = .ok (.putfield 76, 3) ∧ lk (mMsk 88) 29 = none := by decide +kernel
theorem p88_76 : pOk 88 76 8 11 = true := by decide +kernel
theorem i88_32 : decode (mCd 88) 32 = .ok (.aload_n 0, 1) ∧ lk (mMsk 88) 32 = none := by decide +kernel
theorem i88_33 : decode (mCd 88) 33 = .ok (.getfield 61, 3) ∧ lk (mMsk 88) 33 = none := by decide +kernel
theorem g88_61 : fOk 88 61 8 7 = true := by decide +kernel
theorem i88_36 : decode (mCd 88) 36 = .ok (.invokevirtual 219, 3) ∧ lk (mMsk 88) 36 = none := by decide +kernel
theorem c88_219 : cvOk 88 219 48 0 3 = true := by decide +kernel
theorem i88_39 : decode (mCd 88) 39 = .ok (.aload_n 0, 1) ∧ lk (mMsk 88) 39 = none := by decide +kernel
theorem i88_40 : decode (mCd 88) 40 = .ok (.getfield 61, 3) ∧ lk (mMsk 88) 40 = none := by decide +kernel
theorem i88_43 : decode (mCd 88) 43 = .ok (.invokevirtual 228, 3) ∧ lk (mMsk 88) 43 = none := by decide +kernel
theorem c88_228 : cvOk 88 228 57 0 3 = true := by decide +kernel
theorem i88_46 : decode (mCd 88) 46 = .ok (.iload_n 1, 1) ∧ lk (mMsk 88) 46 = none := by decide +kernel
theorem i88_47 : decode (mCd 88) 47 = .ok (.ifCond .ne 13, 3) ∧ lk (mMsk 88) 47 = none := by decide +kernel
theorem i88_50 : decode (mCd 88) 50 = .ok (.aload_n 0, 1) ∧ lk (mMsk 88) 50 = none := by decide +kernel
theorem i88_51 : decode (mCd 88) 51 = .ok (.getfield 61, 3) ∧ lk (mMsk 88) 51 = none := by decide +kernel
theorem i88_54 : decode (mCd 88) 54 = .ok (.getfield 231, 3) ∧ lk (mMsk 88) 54 = none := by decide +kernel
theorem g88_231 : fOk 88 231 5 11 = true := by decide +kernel
theorem i88_57 : decode (mCd 88) 57 = .ok (.goto 10, 3) ∧ lk (mMsk 88) 57 = none := by decide +kernel
theorem i88_67 : decode (mCd 88) 67 = .ok (.ireturn, 1) ∧ lk (mMsk 88) 67 = some [false, false] := by decide +kernel
theorem i88_60 : decode (mCd 88) 60 = .ok (.aload_n 0, 1) ∧ lk (mMsk 88) 60 = none := by decide +kernel
theorem i88_61 : decode (mCd 88) 61 = .ok (.getfield 61, 3) ∧ lk (mMsk 88) 61 = none := by decide +kernel
theorem i88_64 : decode (mCd 88) 64 = .ok (.getfield 234, 3) ∧ lk (mMsk 88) 64 = none := by decide +kernel
theorem g88_234 : fOk 88 234 5 12 = true := by decide +kernel
theorem i89_0 : decode (mCd 89) 0 = .ok (.aload_n 0, 1) ∧ lk (mMsk 89) 0 = none := by decide +kernel
theorem i89_1 : decode (mCd 89) 1 = .ok (.getfield 33, 3) ∧ lk (mMsk 89) 1 = none := by decide +kernel
theorem g89_33 : fOk 89 33 8 3 = true := by decide +kernel
theorem i89_4 : decode (mCd 89) 4 = .ok (.iload_n 1, 1) ∧ lk (mMsk 89) 4 = none := by decide +kernel
theorem i89_5 : decode (mCd 89) 5 = .ok (.invokevirtual 140, 3) ∧ lk (mMsk 89) 5 = none := by decide +kernel
theorem c89_140 : cvOk 89 140 59 1 2 = true := by decide +kernel
theorem i89_8 : decode (mCd 89) 8 = .ok (.ifnonnull 8, 3) ∧ lk (mMsk 89) 8 = none := by decide +kernel
theorem i89_11 : decode (mCd 89) 11 = .ok (.bipush (-101), 2) ∧ lk (mMsk 89) 11 = some [false, false] := by decide +kernel
theorem i89_16 : decode (mCd 89) 16 = .ok (.aload_n 0, 1) ∧ lk (mMsk 89) 16 = some [true, true] := by decide +kernel
theorem i89_17 : decode (mCd 89) 17 = .ok (.getfield 54, 3) ∧ lk (mMsk 89) 17 = none := by decide +kernel
theorem g89_54 : fOk 89 54 8 6 = true := by decide +kernel
theorem i89_20 : decode (mCd 89) 20 = .ok (.iload_n 1, 1) ∧ lk (mMsk 89) 20 = none := by decide +kernel
theorem i89_21 : decode (mCd 89) 21 = .ok (.invokevirtual 237, 3) ∧ lk (mMsk 89) 21 = none := by decide +kernel
theorem c89_237 : cvOk 89 237 1 1 0 = true := by decide +kernel
theorem i89_24 : decode (mCd 89) 24 = .ok (.ireturn, 1) ∧ lk (mMsk 89) 24 = some [false, false] := by decide +kernel
theorem i89_13 : decode (mCd 89) 13 = .ok (.goto 11, 3) ∧ lk (mMsk 89) 13 = none := by decide +kernel
theorem i90_0 : decode (mCd 90) 0 = .ok (.aload_n 0, 1) ∧ lk (mMsk 90) 0 = none := by decide +kernel
theorem i90_1 : decode (mCd 90) 1 = .ok (.iload_n 1, 1) ∧ lk (mMsk 90) 1 = none := by decide +kernel
theorem i90_2 : decode (mCd 90) 2 = .ok (.invokevirtual 240, 3) ∧ lk (mMsk 90) 2 = none := by decide +kernel
theorem c90_240 : cvOk 90 240 100 1 0 = true := by decide +kernel
theorem i90_5 : decode (mCd 90) 5 = .ok (.ifCond .eq 14, 3) ∧ lk (mMsk 90) 5 = none := by decide +kernel
theorem i90_19 : decode (mCd 90) 19 = .ok (.bipush (-102), 2) ∧ lk (mMsk 90) 19 = none := by decide +kernel
theorem i90_21 : decode (mCd 90) 21 = .ok (.ireturn, 1) ∧ lk (mMsk 90) 21 = some [false, false] := by decide +kernel
theorem i90_8 : decode (mCd 90) 8 = .ok (.aload_n 0, 1) ∧ lk (mMsk 90) 8 = none := by decide +kernel
theorem i90_9 : decode (mCd 90) 9 = .ok (.getfield 54, 3) ∧ lk (mMsk 90) 9 = none := by decide +kernel
theorem g90_54 : fOk 90 54 8 6 = true := by decide +kernel
theorem i90_12 : decode (mCd 90) 12 = .ok (.iload_n 1, 1) ∧ lk (mMsk 90) 12 = none := by decide +kernel
theorem i90_13 : decode (mCd 90) 13 = .ok (.invokevirtual 243, 3) ∧ lk (mMsk 90) 13 = none := by decide +kernel
theorem c90_243 : cvOk 90 243 2 1 0 = true := by decide +kernel
theorem i90_16 : decode (mCd 90) 16 = .ok (.goto 5, 3) ∧ lk (mMsk 90) 16 = none := by decide +kernel
theorem i91_0 : decode (mCd 91) 0 = .ok (.aload_n 0, 1) ∧ lk (mMsk 91) 0 = none := by decide +kernel
theorem i91_1 : decode (mCd 91) 1 = .ok (.getfield 33, 3) ∧ lk (mMsk 91) 1 = none := by decide +kernel
theorem g91_33 : fOk 91 33 8 3 = true := by decide +kernel
theorem i91_4 : decode (mCd 91) 4 = .ok (.iload_n 1, 1) ∧ lk (mMsk 91) 4 = none := by decide +kernel
theorem i91_5 : decode (mCd 91) 5 = .ok (.invokevirtual 140, 3) ∧ lk (mMsk 91) 5 = none := by decide +kernel
theorem c91_140 : cvOk 91 140 59 1 2 = true := by decide +kernel
theorem i91_8 : decode (mCd 91) 8 = .ok (.ifnonnull 6, 3) ∧ lk (mMsk 91) 8 = none := by decide +kernel
theorem i91_11 : decode (mCd 91) 11 = .ok (.bipush (-101), 2) ∧ lk (mMsk 91) 11 = some [false, false, false] := by decide +kernel
theorem i91_14 : decode (mCd 91) 14 = .ok (.aload_n 0, 1) ∧ lk (mMsk 91) 14 = some [true, true, true] := by decide +kernel
theorem i91_15 : decode (mCd 91) 15 = .ok (.iload_n 2, 1) ∧ lk (mMsk 91) 15 = none := by decide +kernel
theorem i91_16 : decode (mCd 91) 16 = .ok (.invokevirtual 240, 3) ∧ lk (mMsk 91) 16 = none := by decide +kernel
theorem c91_240 : cvOk 91 240 100 1 0 = true := by decide +kernel
theorem i91_19 : decode (mCd 91) 19 = .ok (.ifCond .ne 6, 3) ∧ lk (mMsk 91) 19 = none := by decide +kernel
theorem i91_22 : decode (mCd 91) 22 = .ok (.bipush (-102), 2) ∧ lk (mMsk 91) 22 = none := by decide +kernel
theorem i91_24 : decode (mCd 91) 24 = .ok (.ireturn, 1) ∧ lk (mMsk 91) 24 = none := by decide +kernel
theorem i91_25 : decode (mCd 91) 25 = .ok (.iload_n 2, 1) ∧ lk (mMsk 91) 25 = none := by decide +kernel
theorem i91_26 : decode (mCd 91) 26 = .ok (.iload_n 1, 1) ∧ lk (mMsk 91) 26 = none := by decide +kernel
theorem i91_27 : decode (mCd 91) 27 = .ok (.ishr, 1) ∧ lk (mMsk 91) 27 = none := by decide +kernel
theorem i91_28 : decode (mCd 91) 28 = .ok (.iconst 1, 1) ∧ lk (mMsk 91) 28 = none := by decide +kernel
theorem i91_29 : decode (mCd 91) 29 = .ok (.iand, 1) ∧ lk (mMsk 91) 29 = none := by decide +kernel
theorem i91_30 : decode (mCd 91) 30 = .ok (.ifCond .eq 14, 3) ∧ lk (mMsk 91) 30 = none := by decide +kernel
theorem i91_44 : decode (mCd 91) 44 = .ok (.iconst (-1), 1) ∧ lk (mMsk 91) 44 = some [false, false, false] := by decide +kernel
theorem i91_33 : decode (mCd 91) 33 = .ok (.aload_n 0, 1) ∧ lk (mMsk 91) 33 = none := by decide +kernel
theorem i91_34 : decode (mCd 91) 34 = .ok (.getfield 54, 3) ∧ lk (mMsk 91) 34 = none := by decide +kernel
theorem g91_54 : fOk 91 54 8 6 = true := by decide +kernel
theorem i91_37 : decode (mCd 91) 37 = .ok (.iload_n 2, 1) ∧ lk (mMsk 91) 37 = none := by decide +kernel
theorem i91_38 : decode (mCd 91) 38 = .ok (.invokevirtual 243, 3) ∧ lk (mMsk 91) 38 = none := by decide +kernel
theorem c91_243 : cvOk 91 243 2 1 0 = true := by decide +kernel
theorem i91_41 : decode (mCd 91) 41 = .ok (.ifCond .ne 5, 3) ∧ lk (mMsk 91) 41 = none := by decide +kernel
theorem i91_46 : decode (mCd 91) 46 = .ok (.aload_n 0, 1) ∧ lk (mMsk 91) 46 = none := by decide +kernel
theorem i91_47 : decode (mCd 91) 47 = .ok (.getfield 54, 3) ∧ lk (mMsk 91) 47 = none := by decide +kernel
theorem i91_50 : decode (mCd 91) 50 = .ok (.iload_n 1, 1) ∧ lk (mMsk 91) 50 = none := by decide +kernel
theorem i91_51 : decode (mCd 91) 51 = .ok (.invokevirtual 246, 3) ∧ lk (mMsk 91) 51 = none := by decide +kernel
theorem c91_246 : cvOk 91 246 4 1 0 = true := by decide +kernel
theorem i91_54 : decode (mCd 91) 54 = .ok (.ireturn, 1) ∧ lk (mMsk 91) 54 = none := by decide +kernel
theorem i91_45 : decode (mCd 91) 45 = .ok (.ireturn, 1) ∧ lk (mMsk 91) 45 = none := by decide +kernel
theorem i91_13 : decode (mCd 91) 13 = .ok (.ireturn, 1) ∧ lk (mMsk 91) 13 = none := by decide +kernel
theorem i92_0 : decode (mCd 92) 0 = .ok (.iload_n 1, 1) ∧ lk (mMsk 92) 0 = none := by decide +kernel
theorem i92_1 : decode (mCd 92) 1 = .ok (.invokestatic 191, 3) ∧ lk (mMsk 92) 1 = none := by decide +kernel
theorem c92_191 : ciOk 92 191 105 1 0 = true := by decide +kernel
theorem i92_4 : decode (mCd 92) 4 = .ok (.ifCond .eq 16, 3) ∧ lk (mMsk 92) 4 = none := by decide +kernel
theorem i92_20 : decode (mCd 92) 20 = .ok (.bipush (-102), 2) ∧ lk (mMsk 92) 20 = some [false, false, false, false, false, false] := by decide +kernel
theorem i92_7 : decode (mCd 92) 7 = .ok (.iload_n 2, 1) ∧ lk (mMsk 92) 7 = none := by decide +kernel
theorem i92_8 : decode (mCd 92) 8 = .ok (.ifCond .lt 12, 3) ∧ lk (mMsk 92) 8 = none := by decide +kernel
theorem i92_11 : decode (mCd 92) 11 = .ok (.iload_n 3, 1) ∧ lk (mMsk 92) 11 = none := by decide +kernel
theorem i92_12 : decode (mCd 92) 12 = .ok (.ifCond .lt 8, 3) ∧ lk (mMsk 92) 12 = none := by decide +kernel
theorem i92_15 : decode (mCd 92) 15 = .ok (.iload_n 3, 1) ∧ lk (mMsk 92) 15 = none := by decide +kernel
theorem i92_16 : decode (mCd 92) 16 = .ok (.iconst 2, 1) ∧ lk (mMsk 92) 16 = none := by decide +kernel
theorem i92_17 : decode (mCd 92) 17 = .ok (.if_icmp .le 6, 3) ∧ lk (mMsk 92) 17 = none := by decide +kernel
theorem i92_23 : decode (mCd 92) 23 = .ok (.aload_n 0, 1) ∧ lk (mMsk 92) 23 = none := by decide +kernel
theorem i92_24 : decode (mCd 92) 24 = .ok (.getfield 65, 3) ∧ lk (mMsk 92) 24 = none := by decide +kernel
theorem g92_65 : fOk 92 65 8 8 = true := by decide +kernel
theorem i92_27 : decode (mCd 92) 27 = .ok (.ifCond .ne 6, 3) ∧ lk (mMsk 92) 27 = none := by decide +kernel
theorem i92_30 : decode (mCd 92) 30 = .ok (.bipush (-103), 2) ∧ lk (mMsk 92) 30 = none := by decide +kernel
theorem i92_32 : decode (mCd 92) 32 = .ok (.ireturn, 1) ∧ lk (mMsk 92) 32 = none := by decide +kernel
theorem i92_33 : decode (mCd 92) 33 = .ok (.iconst 0, 1) ∧ lk (mMsk 92) 33 = none := by decide +kernel
theorem i92_34 : decode (mCd 92) 34 = .ok (.istore 4, 2) ∧ lk (mMsk 92) 34 = none := by decide +kernel
theorem i92_36 : decode (mCd 92) 36 = .ok (.aload_n 0, 1) ∧ lk (mMsk 92) 36 = none := by decide +kernel
theorem i92_37 : decode (mCd 92) 37 = .ok (.getfield 45, 3) ∧ lk (mMsk 92) 37 = none := by decide +kernel
theorem g92_45 : fOk 92 45 8 5 = true := by decide +kernel
theorem i92_40 : decode (mCd 92) 40 = .ok (.iconst 0, 1) ∧ lk (mMsk 92) 40 = none := by decide +kernel
theorem i92_41 : decode (mCd 92) 41 = .ok (.invokevirtual 194, 3) ∧ lk (mMsk 92) 41 = none := by decide +kernel
theorem c92_194 : cvOk 92 194 10 1 3 = true := by decide +kernel
theorem i92_44 : decode (mCd 92) 44 = .ok (.aload_n 0, 1) ∧ lk (mMsk 92) 44 = none := by decide +kernel
theorem i92_45 : decode (mCd 92) 45 = .ok (.getfield 45, 3) ∧ lk (mMsk 92) 45 = none := by decide +kernel
theorem i92_48 : decode (mCd 92) 48 = .ok (.iload_n 2, 1) ∧ lk (mMsk 92) 48 = none := by decide +kernel
theorem i92_49 : decode (mCd 92) 49 = .ok (.i2l, 1) ∧ lk (mMsk 92) 49 = none := by decide +kernel
theorem i92_50 : decode (mCd 92) 50 = .ok (.putfield 249, 3) ∧ lk (mMsk 92) 50 = none := by decide +kernel
theorem p92_249 : pOk 92 249 1 10 = true := by decide +kernel
theorem i92_53 : decode (mCd 92) 53 = .ok (.iconst 0, 1) ∧ lk (mMsk 92) 53 = none := by decide +kernel
theorem i92_54 : decode (mCd 92) 54 = .ok (.istore 5, 2) ∧ lk (mMsk 92) 54 = none := by decide +kernel
theorem i92_56 : decode (mCd 92) 56 = .ok (.iload 5, 2) ∧ lk (mMsk 92) 56 = some [true, true, false, true, true, true] := by decide +kernel
theorem i92_58 : decode (mCd 92) 58 = .ok (.iload_n 1, 1) ∧ lk (mMsk 92) 58 = none := by decide +kernel
theorem i92_59 : decode (mCd 92) 59 = .ok (.if_icmp .ge 21, 3) ∧ lk (mMsk 92) 59 = none := by decide +kernel
theorem i92_80 : decode (mCd 92) 80 = .ok (.iload_n 3, 1) ∧ lk (mMsk 92) 80 = none := by decide +kernel
theorem i92_81 : decode (mCd 92) 81 = .ok (.ifCond .ne 8, 3) ∧ lk (mMsk 92) 81 = none := by decide +kernel
theorem i92_84 : decode (mCd 92) 84 = .ok (.iload 4, 2) ∧ lk (mMsk 92) 84 = none := by decide +kernel
theorem i92_86 : decode (mCd 92) 86 = .ok (.goto 26, 3) ∧ lk (mMsk 92) 86 = none := by decide +kernel
theorem i92_112 : decode (mCd 92) 112 = .ok (.ireturn, 1) ∧ lk (mMsk 92) 112 = some [false, false, false, false, false, false] := by decide +kernel
theorem i92_89 : decode (mCd 92) 89 = .ok (.iload_n 3, 1) ∧ lk (mMsk 92) 89 = none := by decide +kernel
theorem i92_90 : decode (mCd 92) 90 = .ok (.iconst 1, 1) ∧ lk (mMsk 92) 90 = none := by decide +kernel
theorem i92_91 : decode (mCd 92) 91 = .ok (.if_icmp .ne 13, 3) ∧ lk (mMsk 92) 91 = none := by decide +kernel
theorem i92_94 : decode (mCd 92) 94 = .ok (.aload_n 0, 1) ∧ lk (mMsk 92) 94 = none := by decide +kernel
theorem i92_95 : decode (mCd 92) 95 = .ok (.getfield 45, 3) ∧ lk (mMsk 92) 95 = none := by decide +kernel
theorem i92_98 : decode (mCd 92) 98 = .ok (.invokevirtual 256, 3) ∧ lk (mMsk 92) 98 = none := by decide +kernel
theorem c92_256 : cvOk 92 256 20 0 0 = true := by decide +kernel
theorem i92_101 : decode (mCd 92) 101 = .ok (.goto 11, 3) ∧ lk (mMsk 92) 101 = none := by decide +kernel
theorem i92_104 : decode (mCd 92) 104 = .ok (.aload_n 0, 1) ∧ lk (mMsk 92) 104 = none := by decide +kernel
theorem i92_105 : decode (mCd 92) 105 = .ok (.getfield 45, 3) ∧ lk (mMsk 92) 105 = none := by decide +kernel
theorem i92_108 : decode (mCd 92) 108 = .ok (.getfield 249, 3) ∧ lk (mMsk 92) 108 = none := by decide +kernel
theorem g92_249 : fOk 92 249 1 10 = true := by decide +kernel
theorem i92_111 : decode (mCd 92) 111 = .ok (.l2i, 1) ∧ lk (mMsk 92) 111 = none := by decide +kernel
theorem i92_62 : decode (mCd 92) 62 = .ok (.iload 4, 2) ∧ lk (mMsk 92) 62 = none := by decide +kernel
theorem i92_64 : decode (mCd 92) 64 = .ok (.aload_n 0, 1) ∧ lk (mMsk 92) 64 = none := by decide +kernel
theorem i92_65 : decode (mCd 92) 65 = .ok (.getfield 45, 3) ∧ lk (mMsk 92) 65 = none := by decide +kernel
theorem i92_68 : decode (mCd 92) 68 = .ok (.invokevirtual 253, 3) ∧ lk (mMsk 92) 68 = none := by decide +kernel
theorem c92_253 : cvOk 92 253 14 0 0 = true := by decide +kernel
theorem i92_71 : decode (mCd 92) 71 = .ok (.iadd, 1) ∧ lk (mMsk 92) 71 = none := by decide +kernel
theorem i92_72 : decode (mCd 92) 72 = .ok (.istore 4, 2) ∧ lk (mMsk 92) 72 = none := by decide +kernel
theorem i92_74 : decode (mCd 92) 74 = .ok (.iinc 5 1, 3) ∧ lk (mMsk 92) 74 = none := by decide +kernel
theorem i92_77 : decode (mCd 92) 77 = .ok (.goto (-21), 3) ∧ lk (mMsk 92) 77 = none := by decide +kernel
theorem i92_22 : decode (mCd 92) 22 = .ok (.ireturn, 1) ∧ lk (mMsk 92) 22 = none := by decide +kernel
theorem i93_0 : decode (mCd 93) 0 = .ok (.aload_n 0, 1) ∧ lk (mMsk 93) 0 = none := by decide +kernel
theorem i93_1 : decode (mCd 93) 1 = .ok (.getfield 65, 3) ∧ lk (mMsk 93) 1 = none := by decide +kernel
theorem g93_65 : fOk 93 65 8 8 = true := by decide +kernel
theorem i93_4 : decode (mCd 93) 4 = .ok (.ifCond .ne 6, 3) ∧ lk (mMsk 93) 4 = none := by decide +kernel
theorem i93_7 : decode (mCd 93) 7 = .ok (.bipush (-103), 2) ∧ lk (mMsk 93) 7 = none := by decide +kernel
theorem i93_9 : decode (mCd 93) 9 = .ok (.ireturn, 1) ∧ lk (mMsk 93) 9 = none := by decide +kernel
theorem i93_10 : decode (mCd 93) 10 = .ok (.aload_n 0, 1) ∧ lk (mMsk 93) 10 = none := by decide +kernel
theorem i93_11 : decode (mCd 93) 11 = .ok (.getfield 37, 3) ∧ lk (mMsk 93) 11 = none := by decide +kernel
theorem g93_37 : fOk 93 37 8 4 = true := by decide +kernel
theorem i93_14 : decode (mCd 93) 14 = .ok (.aload_n 0, 1) ∧ lk (mMsk 93) 14 = none := by decide +kernel
theorem i93_15 : decode (mCd 93) 15 = .ok (.getfield 33, 3) ∧ lk (mMsk 93) 15 = none := by decide +kernel
theorem g93_33 : fOk 93 33 8 3 = true := by decide +kernel
theorem i93_18 : decode (mCd 93) 18 = .ok (.invokevirtual 259, 3) ∧ lk (mMsk 93) 18 = none := by decide +kernel
theorem c93_259 : cvOk 93 259 63 1 3 = true := by decide +kernel
theorem i93_21 : decode (mCd 93) 21 = .ok (.aload_n 0, 1) ∧ lk (mMsk 93) 21 = none := by decide +kernel
theorem i93_22 : decode (mCd 93) 22 = .ok (.iconst 1, 1) ∧ lk (mMsk 93) 22 = none := by decide +kernel
theorem i93_23 : decode (mCd 93) 23 = .ok (.putfield 69, 3) ∧ lk (mMsk 93) 23 = none := by decide +kernel
theorem p93_69 : pOk 93 69 8 9 = true := by decide +kernel
theorem i93_26 : decode (mCd 93) 26 = .ok (.aload_n 0, 1) ∧ lk (mMsk 93) 26 = none := by decide +kernel
theorem i93_27 : decode (mCd 93) 27 = .ok (.getfield 33, 3) ∧ lk (mMsk 93) 27 = none := by decide +kernel
theorem i93_30 : decode (mCd 93) 30 = .ok (.getfield 204, 3) ∧ lk (mMsk 93) 30 = none := by decide +kernel
theorem g93_204 : fOk 93 204 6 3 = true := by decide +kernel
theorem i93_33 : decode (mCd 93) 33 = .ok (.ireturn, 1) ∧ lk (mMsk 93) 33 = none := by decide +kernel
theorem i94_0 : decode (mCd 94) 0 = .ok (.aload_n 0, 1) ∧ lk (mMsk 94) 0 = none := by decide +kernel
theorem i94_1 : decode (mCd 94) 1 = .ok (.getfield 69, 3) ∧ lk (mMsk 94) 1 = none := by decide +kernel
theorem g94_69 : fOk 94 69 8 9 = true := by decide +kernel
theorem i94_4 : decode (mCd 94) 4 = .ok (.ifCond .ne 6, 3) ∧ lk (mMsk 94) 4 = none := by decide +kernel
theorem i94_7 : decode (mCd 94) 7 = .ok (.bipush (-103), 2) ∧ lk (mMsk 94) 7 = none := by decide +kernel
theorem i94_9 : decode (mCd 94) 9 = .ok (.ireturn, 1) ∧ lk (mMsk 94) 9 = none := by decide +kernel
theorem i94_10 : decode (mCd 94) 10 = .ok (.aload_n 0, 1) ∧ lk (mMsk 94) 10 = none := by decide +kernel
theorem i94_11 : decode (mCd 94) 11 = .ok (.getfield 33, 3) ∧ lk (mMsk 94) 11 = none := by decide +kernel
theorem g94_33 : fOk 94 33 8 3 = true := by decide +kernel
theorem i94_14 : decode (mCd 94) 14 = .ok (.aload_n 0, 1) ∧ lk (mMsk 94) 14 = none := by decide +kernel
theorem i94_15 : decode (mCd 94) 15 = .ok (.getfield 37, 3) ∧ lk (mMsk 94) 15 = none := by decide +kernel
theorem g94_37 : fOk 94 37 8 4 = true := by decide +kernel
theorem i94_18 : decode (mCd 94) 18 = .ok (.invokevirtual 259, 3) ∧ lk (mMsk 94) 18 = none := by decide +kernel
theorem c94_259 : cvOk 94 259 63 1 3 = true := by decide +kernel
theorem i94_21 : decode (mCd 94) 21 = .ok (.aload_n 0, 1) ∧ lk (mMsk 94) 21 = none := by decide +kernel
theorem i94_22 : decode (mCd 94) 22 = .ok (.getfield 33, 3) ∧ lk (mMsk 94) 22 = none := by decide +kernel
theorem i94_25 : decode (mCd 94) 25 = .ok (.getfield 204, 3) ∧ lk (mMsk 94) 25 = none := by decide +kernel
theorem g94_204 : fOk 94 204 6 3 = true := by decide +kernel
theorem i94_28 : decode (mCd 94) 28 = .ok (.ireturn, 1) ∧ lk (mMsk 94) 28 = none := by decide +kernel
theorem i95_0 : decode (mCd 95) 0 = .ok (.iload_n 1, 1) ∧ lk (mMsk 95) 0 = none := by decide +kernel
theorem i95_1 : decode (mCd 95) 1 = .ok (.tableswitch 145 0 9 #[55, 63, 71, 79, 87, 95, 103, 108, 113, 129], 55) ∧ lk (mMsk 95) 1 = none := by decide +kernel
theorem i95_56 : decode (mCd 95) 56 = .ok (.aload_n 0, 1) ∧ lk (mMsk 95) 56 = none := by decide +kernel
theorem i95_57 : decode (mCd 95) 57 = .ok (.getfield 26, 3) ∧ lk (mMsk 95) 57 = none := by decide +kernel
theorem g95_26 : fOk 95 26 8 2 = true := by decide +kernel
theorem i95_60 : decode (mCd 95) 60 = .ok (.getfield 109, 3) ∧ lk (mMsk 95) 60 = none := by decide +kernel
theorem g95_109 : fOk 95 109 2 3 = true := by decide +kernel
theorem i95_63 : decode (mCd 95) 63 = .ok (.ireturn, 1) ∧ lk (mMsk 95) 63 = none := by decide +kernel
theorem i95_64 : decode (mCd 95) 64 = .ok (.aload_n 0, 1) ∧ lk (mMsk 95) 64 = none := by decide +kernel
theorem i95_65 : decode (mCd 95) 65 = .ok (.getfield 26, 3) ∧ lk (mMsk 95) 65 = none := by decide +kernel
theorem i95_68 : decode (mCd 95) 68 = .ok (.invokevirtual 262, 3) ∧ lk (mMsk 95) 68 = none := by decide +kernel
theorem c95_262 : cvOk 95 262 29 0 0 = true := by decide +kernel
theorem i95_71 : decode (mCd 95) 71 = .ok (.ireturn, 1) ∧ lk (mMsk 95) 71 = none := by decide +kernel
theorem i95_72 : decode (mCd 95) 72 = .ok (.aload_n 0, 1) ∧ lk (mMsk 95) 72 = none := by decide +kernel
theorem i95_73 : decode (mCd 95) 73 = .ok (.getfield 33, 3) ∧ lk (mMsk 95) 73 = none := by decide +kernel
theorem g95_33 : fOk 95 33 8 3 = true := by decide +kernel
theorem i95_76 : decode (mCd 95) 76 = .ok (.getfield 137, 3) ∧ lk (mMsk 95) 76 = none := by decide +kernel
theorem g95_137 : fOk 95 137 6 1 = true := by decide +kernel
theorem i95_79 : decode (mCd 95) 79 = .ok (.ireturn, 1) ∧ lk (mMsk 95) 79 = none := by decide +kernel
theorem i95_80 : decode (mCd 95) 80 = .ok (.aload_n 0, 1) ∧ lk (mMsk 95) 80 = none := by decide +kernel
theorem i95_81 : decode (mCd 95) 81 = .ok (.getfield 33, 3) ∧ lk (mMsk 95) 81 = none := by decide +kernel
theorem i95_84 : decode (mCd 95) 84 = .ok (.invokevirtual 265, 3) ∧ lk (mMsk 95) 84 = none := by decide +kernel
theorem c95_265 : cvOk 95 265 64 0 0 = true := by decide +kernel
theorem i95_87 : decode (mCd 95) 87 = .ok (.ireturn, 1) ∧ lk (mMsk 95) 87 = none := by decide +kernel
theorem i95_88 : decode (mCd 95) 88 = .ok (.aload_n 0, 1) ∧ lk (mMsk 95) 88 = none := by decide +kernel
theorem i95_89 : decode (mCd 95) 89 = .ok (.getfield 33, 3) ∧ lk (mMsk 95) 89 = none := by decide +kernel
theorem i95_92 : decode (mCd 95) 92 = .ok (.getfield 204, 3) ∧ lk (mMsk 95) 92 = none := by decide +kernel
theorem g95_204 : fOk 95 204 6 3 = true := by decide +kernel
theorem i95_95 : decode (mCd 95) 95 = .ok (.ireturn, 1) ∧ lk (mMsk 95) 95 = none := by decide +kernel
theorem i95_96 : decode (mCd 95) 96 = .ok (.aload_n 0, 1) ∧ lk (mMsk 95) 96 = none := by decide +kernel
theorem i95_97 : decode (mCd 95) 97 = .ok (.getfield 12, 3) ∧ lk (mMsk 95) 97 = none := by decide +kernel
theorem g95_12 : fOk 95 12 8 0 = true := by decide +kernel
theorem i95_100 : decode (mCd 95) 100 = .ok (.getfield 83, 3) ∧ lk (mMsk 95) 100 = none := by decide +kernel
theorem g95_83 : fOk 95 83 4 1 = true := by decide +kernel
theorem i95_103 : decode (mCd 95) 103 = .ok (.ireturn, 1) ∧ lk (mMsk 95) 103 = none := by decide +kernel
theorem i95_104 : decode (mCd 95) 104 = .ok (.aload_n 0, 1) ∧ lk (mMsk 95) 104 = none := by decide +kernel
theorem i95_105 : decode (mCd 95) 105 = .ok (.getfield 72, 3) ∧ lk (mMsk 95) 105 = none := by decide +kernel
theorem g95_72 : fOk 95 72 8 10 = true := by decide +kernel
theorem i95_108 : decode (mCd 95) 108 = .ok (.ireturn, 1) ∧ lk (mMsk 95) 108 = none := by decide +kernel
theorem i95_109 : decode (mCd 95) 109 = .ok (.aload_n 0, 1) ∧ lk (mMsk 95) 109 = none := by decide +kernel
theorem i95_110 : decode (mCd 95) 110 = .ok (.getfield 76, 3) ∧ lk (mMsk 95) 110 = none := by decide +kernel
theorem g95_76 : fOk 95 76 8 11 = true := by decide +kernel
theorem i95_113 : decode (mCd 95) 113 = .ok (.ireturn, 1) ∧ lk (mMsk 95) 113 = none := by decide +kernel
theorem i95_114 : decode (mCd 95) 114 = .ok (.aload_n 0, 1) ∧ lk (mMsk 95) 114 = none := by decide +kernel
theorem i95_115 : decode (mCd 95) 115 = .ok (.getfield 26, 3) ∧ lk (mMsk 95) 115 = none := by decide +kernel
theorem i95_118 : decode (mCd 95) 118 = .ok (.getfield 266, 3) ∧ lk (mMsk 95) 118 = none := by decide +kernel
theorem g95_266 : fOk 95 266 2 4 = true := by decide +kernel
theorem i95_121 : decode (mCd 95) 121 = .ok (.ifCond .eq 7, 3) ∧ lk (mMsk 95) 121 = none := by decide +kernel
theorem i95_128 : decode (mCd 95) 128 = .ok (.iconst 0, 1) ∧ lk (mMsk 95) 128 = none := by decide +kernel
theorem i95_129 : decode (mCd 95) 129 = .ok (.ireturn, 1) ∧ lk (mMsk 95) 129 = some [false, false] := by decide +kernel
theorem i95_124 : decode (mCd 95) 124 = .ok (.iconst 1, 1) ∧ lk (mMsk 95) 124 = none := by decide +kernel
theorem i95_125 : decode (mCd 95) 125 = .ok (.goto 4, 3) ∧ lk (mMsk 95) 125 = none := by decide +kernel
theorem i95_130 : decode (mCd 95) 130 = .ok (.aload_n 0, 1) ∧ lk (mMsk 95) 130 = none := by decide +kernel
theorem i95_131 : decode (mCd 95) 131 = .ok (.getfield 26, 3) ∧ lk (mMsk 95) 131 = none := by decide +kernel
theorem i95_134 : decode (mCd 95) 134 = .ok (.getfield 269, 3) ∧ lk (mMsk 95) 134 = none := by decide +kernel
theorem g95_269 : fOk 95 269 2 5 = true := by decide +kernel
theorem i95_137 : decode (mCd 95) 137 = .ok (.ifCond .eq 7, 3) ∧ lk (mMsk 95) 137 = none := by decide +kernel
theorem i95_144 : decode (mCd 95) 144 = .ok (.iconst 0, 1) ∧ lk (mMsk 95) 144 = none := by decide +kernel
theorem i95_145 : decode (mCd 95) 145 = .ok (.ireturn, 1) ∧ lk (mMsk 95) 145 = some [false, false] := by decide +kernel
theorem i95_140 : decode (mCd 95) 140 = .ok (.iconst 1, 1) ∧ lk (mMsk 95) 140 = none := by decide +kernel
theorem i95_141 : decode (mCd 95) 141 = .ok (.goto 4, 3) ∧ lk (mMsk 95) 141 = none := by decide +kernel
theorem i95_146 : decode (mCd 95) 146 = .ok (.bipush (-102), 2) ∧ lk (mMsk 95) 146 = none := by decide +kernel
theorem i95_148 : decode (mCd 95) 148 = .ok (.ireturn, 1) ∧ lk (mMsk 95) 148 = none := by decide +kernel
theorem i96_0 : decode (mCd 96) 0 = .ok (.ldc2_w 272, 3) ∧ lk (mMsk 96) 0 = none := by decide +kernel
theorem q96_272 : lk (mKt (mOwn 96)) 272 = some (.inr 617) := by decide +kernel
theorem i96_3 : decode (mCd 96) 3 = .ok (.lstore_n 1, 1) ∧ lk (mMsk 96) 3 = none := by decide +kernel
theorem i96_4 : decode (mCd 96) 4 = .ok (.iconst 0, 1) ∧ lk (mMsk 96) 4 = none := by decide +kernel
theorem i96_5 : decode (mCd 96) 5 = .ok (.istore_n 3, 1) ∧ lk (mMsk 96) 5 = none := by decide +kernel
theorem i96_6 : decode (mCd 96) 6 = .ok (.iload_n 3, 1) ∧ lk (mMsk 96) 6 = some [true, true, false, true, false] := by decide +kernel
theorem i96_7 : decode (mCd 96) 7 = .ok (.aload_n 0, 1) ∧ lk (mMsk 96) 7 = none := by decide +kernel
theorem i96_8 : decode (mCd 96) 8 = .ok (.getfield 26, 3) ∧ lk (mMsk 96) 8 = none := by decide +kernel
theorem g96_26 : fOk 96 26 8 2 = true := by decide +kernel
theorem i96_11 : decode (mCd 96) 11 = .ok (.getfield 109, 3) ∧ lk (mMsk 96) 11 = none := by decide +kernel
theorem g96_109 : fOk 96 109 2 3 = true := by decide +kernel
theorem i96_14 : decode (mCd 96) 14 = .ok (.if_icmp .ge 39, 3) ∧ lk (mMsk 96) 14 = none := by decide +kernel
theorem i96_53 : decode (mCd 96) 53 = .ok (.iconst 0, 1) ∧ lk (mMsk 96) 53 = none := by decide +kernel
theorem i96_54 : decode (mCd 96) 54 = .ok (.istore_n 3, 1) ∧ lk (mMsk 96) 54 = none := by decide +kernel
theorem i96_55 : decode (mCd 96) 55 = .ok (.iload_n 3, 1) ∧ lk (mMsk 96) 55 = some [true, true, false, true, false] := by decide +kernel
theorem i96_17 : decode (mCd 96) 17 = .ok (.iconst 0, 1) ∧ lk (mMsk 96) 17 = none := by decide +kernel
theorem i96_18 : decode (mCd 96) 18 = .ok (.istore 4, 2) ∧ lk (mMsk 96) 18 = none := by decide +kernel
theorem i96_20 : decode (mCd 96) 20 = .ok (.iload 4, 2) ∧ lk (mMsk 96) 20 = some [true, true, false, true, true] := by decide +kernel
theorem i96_22 : decode (mCd 96) 22 = .ok (.iconst 2, 1) ∧ lk (mMsk 96) 22 = none := by decide +kernel
theorem i96_23 : decode (mCd 96) 23 = .ok (.if_icmp .gt 24, 3) ∧ lk (mMsk 96) 23 = none := by decide +kernel
theorem i96_47 : decode (mCd 96) 47 = .ok (.iinc 3 1, 3) ∧ lk (mMsk 96) 47 = none := by decide +kernel
theorem i96_50 : decode (mCd 96) 50 = .ok (.goto (-44), 3) ∧ lk (mMsk 96) 50 = none := by decide +kernel
theorem i96_26 : decode (mCd 96) 26 = .ok (.ldc2_w 274, 3) ∧ lk (mMsk 96) 26 = none := by decide +kernel
theorem q96_274 : lk (mKt (mOwn 96)) 274 = some (.inr 31) := by decide +kernel
theorem i96_29 : decode (mCd 96) 29 = .ok (.lload_n 1, 1) ∧ lk (mMsk 96) 29 = none := by decide +kernel
theorem i96_30 : decode (mCd 96) 30 = .ok (.lmul, 1) ∧ lk (mMsk 96) 30 = none := by decide +kernel
theorem i96_31 : decode (mCd 96) 31 = .ok (.aload_n 0, 1) ∧ lk (mMsk 96) 31 = none := by decide +kernel
theorem i96_32 : decode (mCd 96) 32 = .ok (.iload_n 3, 1) ∧ lk (mMsk 96) 32 = none := by decide +kernel
theorem i96_33 : decode (mCd 96) 33 = .ok (.iload 4, 2) ∧ lk (mMsk 96) 33 = none := by decide +kernel
theorem i96_35 : decode (mCd 96) 35 = .ok (.invokevirtual 276, 3) ∧ lk (mMsk 96) 35 = none := by decide +kernel
theorem c96_276 : cvOk 96 276 76 2 0 = true := by decide +kernel
theorem i96_38 : decode (mCd 96) 38 = .ok (.i2l, 1) ∧ lk (mMsk 96) 38 = none := by decide +kernel
theorem i96_39 : decode (mCd 96) 39 = .ok (.ladd, 1) ∧ lk (mMsk 96) 39 = none := by decide +kernel
theorem i96_40 : decode (mCd 96) 40 = .ok (.lstore_n 1, 1) ∧ lk (mMsk 96) 40 = none := by decide +kernel
theorem i96_41 : decode (mCd 96) 41 = .ok (.iinc 4 1, 3) ∧ lk (mMsk 96) 41 = none := by decide +kernel
theorem i96_44 : decode (mCd 96) 44 = .ok (.goto (-24), 3) ∧ lk (mMsk 96) 44 = none := by decide +kernel
theorem i96_56 : decode (mCd 96) 56 = .ok (.aload_n 0, 1) ∧ lk (mMsk 96) 56 = none := by decide +kernel
theorem i96_57 : decode (mCd 96) 57 = .ok (.getfield 33, 3) ∧ lk (mMsk 96) 57 = none := by decide +kernel
theorem g96_33 : fOk 96 33 8 3 = true := by decide +kernel
theorem i96_60 : decode (mCd 96) 60 = .ok (.getfield 137, 3) ∧ lk (mMsk 96) 60 = none := by decide +kernel
theorem g96_137 : fOk 96 137 6 1 = true := by decide +kernel
theorem i96_63 : decode (mCd 96) 63 = .ok (.if_icmp .ge 16, 3) ∧ lk (mMsk 96) 63 = none := by decide +kernel
theorem i96_79 : decode (mCd 96) 79 = .ok (.iconst 0, 1) ∧ lk (mMsk 96) 79 = none := by decide +kernel
theorem i96_80 : decode (mCd 96) 80 = .ok (.istore_n 3, 1) ∧ lk (mMsk 96) 80 = none := by decide +kernel
theorem i96_81 : decode (mCd 96) 81 = .ok (.aload_n 0, 1) ∧ lk (mMsk 96) 81 = some [true, true, false, true, false] := by decide +kernel
theorem i96_66 : decode (mCd 96) 66 = .ok (.aload_n 0, 1) ∧ lk (mMsk 96) 66 = none := by decide +kernel
theorem i96_67 : decode (mCd 96) 67 = .ok (.lload_n 1, 1) ∧ lk (mMsk 96) 67 = none := by decide +kernel
theorem i96_68 : decode (mCd 96) 68 = .ok (.iload_n 3, 1) ∧ lk (mMsk 96) 68 = none := by decide +kernel
theorem i96_69 : decode (mCd 96) 69 = .ok (.invokevirtual 279, 3) ∧ lk (mMsk 96) 69 = none := by decide +kernel
theorem c96_279 : cvOk 96 279 97 2 1 = true := by decide +kernel
theorem i96_72 : decode (mCd 96) 72 = .ok (.lstore_n 1, 1) ∧ lk (mMsk 96) 72 = none := by decide +kernel
theorem i96_73 : decode (mCd 96) 73 = .ok (.iinc 3 1, 3) ∧ lk (mMsk 96) 73 = none := by decide +kernel
theorem i96_76 : decode (mCd 96) 76 = .ok (.goto (-21), 3) ∧ lk (mMsk 96) 76 = none := by decide +kernel
theorem i96_82 : decode (mCd 96) 82 = .ok (.getfield 65, 3) ∧ lk (mMsk 96) 82 = none := by decide +kernel
theorem g96_65 : fOk 96 65 8 8 = true := by decide +kernel
theorem i96_85 : decode (mCd 96) 85 = .ok (.ifCond .eq 32, 3) ∧ lk (mMsk 96) 85 = none := by decide +kernel
theorem i96_117 : decode (mCd 96) 117 = .ok (.iconst 0, 1) ∧ lk (mMsk 96) 117 = some [true, true, false, false, false] := by decide +kernel
theorem i96_88 : decode (mCd 96) 88 = .ok (.iload_n 3, 1) ∧ lk (mMsk 96) 88 = none := by decide +kernel
theorem i96_89 : decode (mCd 96) 89 = .ok (.bipush 8, 2) ∧ lk (mMsk 96) 89 = none := by decide +kernel
theorem i96_91 : decode (mCd 96) 91 = .ok (.if_icmp .ge 26, 3) ∧ lk (mMsk 96) 91 = none := by decide +kernel
theorem i96_94 : decode (mCd 96) 94 = .ok (.ldc2_w 274, 3) ∧ lk (mMsk 96) 94 = none := by decide +kernel
theorem i96_97 : decode (mCd 96) 97 = .ok (.lload_n 1, 1) ∧ lk (mMsk 96) 97 = none := by decide +kernel
theorem i96_98 : decode (mCd 96) 98 = .ok (.lmul, 1) ∧ lk (mMsk 96) 98 = none := by decide +kernel
theorem i96_99 : decode (mCd 96) 99 = .ok (.aload_n 0, 1) ∧ lk (mMsk 96) 99 = none := by decide +kernel
theorem i96_100 : decode (mCd 96) 100 = .ok (.getfield 33, 3) ∧ lk (mMsk 96) 100 = none := by decide +kernel
theorem i96_103 : decode (mCd 96) 103 = .ok (.getfield 188, 3) ∧ lk (mMsk 96) 103 = none := by decide +kernel
theorem g96_188 : fOk 96 188 6 2 = true := by decide +kernel
theorem i96_106 : decode (mCd 96) 106 = .ok (.iload_n 3, 1) ∧ lk (mMsk 96) 106 = none := by decide +kernel
theorem i96_107 : decode (mCd 96) 107 = .ok (.iaload, 1) ∧ lk (mMsk 96) 107 = none := by decide +kernel
theorem i96_108 : decode (mCd 96) 108 = .ok (.i2l, 1) ∧ lk (mMsk 96) 108 = none := by decide +kernel
theorem i96_109 : decode (mCd 96) 109 = .ok (.ladd, 1) ∧ lk (mMsk 96) 109 = none := by decide +kernel
theorem i96_110 : decode (mCd 96) 110 = .ok (.lstore_n 1, 1) ∧ lk (mMsk 96) 110 = none := by decide +kernel
theorem i96_111 : decode (mCd 96) 111 = .ok (.iinc 3 1, 3) ∧ lk (mMsk 96) 111 = none := by decide +kernel
theorem i96_114 : decode (mCd 96) 114 = .ok (.goto (-33), 3) ∧ lk (mMsk 96) 114 = none := by decide +kernel
theorem i96_118 : decode (mCd 96) 118 = .ok (.istore_n 3, 1) ∧ lk (mMsk 96) 118 = none := by decide +kernel
theorem i96_119 : decode (mCd 96) 119 = .ok (.iload_n 3, 1) ∧ lk (mMsk 96) 119 = some [true, true, false, true, false] := by decide +kernel
theorem i96_120 : decode (mCd 96) 120 = .ok (.iconst 2, 1) ∧ lk (mMsk 96) 120 = none := by decide +kernel
theorem i96_121 : decode (mCd 96) 121 = .ok (.if_icmp .gt 22, 3) ∧ lk (mMsk 96) 121 = none := by decide +kernel
theorem i96_143 : decode (mCd 96) 143 = .ok (.ldc2_w 274, 3) ∧ lk (mMsk 96) 143 = none := by decide +kernel
theorem i96_146 : decode (mCd 96) 146 = .ok (.lload_n 1, 1) ∧ lk (mMsk 96) 146 = none := by decide +kernel
theorem i96_147 : decode (mCd 96) 147 = .ok (.lmul, 1) ∧ lk (mMsk 96) 147 = none := by decide +kernel
theorem i96_148 : decode (mCd 96) 148 = .ok (.aload_n 0, 1) ∧ lk (mMsk 96) 148 = none := by decide +kernel
theorem i96_149 : decode (mCd 96) 149 = .ok (.getfield 54, 3) ∧ lk (mMsk 96) 149 = none := by decide +kernel
theorem g96_54 : fOk 96 54 8 6 = true := by decide +kernel
theorem i96_152 : decode (mCd 96) 152 = .ok (.iconst 1, 1) ∧ lk (mMsk 96) 152 = none := by decide +kernel
theorem i96_153 : decode (mCd 96) 153 = .ok (.aload_n 0, 1) ∧ lk (mMsk 96) 153 = none := by decide +kernel
theorem i96_154 : decode (mCd 96) 154 = .ok (.getfield 33, 3) ∧ lk (mMsk 96) 154 = none := by decide +kernel
theorem i96_157 : decode (mCd 96) 157 = .ok (.getfield 137, 3) ∧ lk (mMsk 96) 157 = none := by decide +kernel
theorem i96_160 : decode (mCd 96) 160 = .ok (.iconst 3, 1) ∧ lk (mMsk 96) 160 = none := by decide +kernel
theorem i96_161 : decode (mCd 96) 161 = .ok (.invokestatic 286, 3) ∧ lk (mMsk 96) 161 = none := by decide +kernel
theorem n96_286 : lk (mMt (mOwn 96)) 286 = none := by decide +kernel
theorem x96_286 : lk (mXq (mOwn 96)) 286 = some (794, false) := by decide +kernel
theorem r96_x : mRx 96 = true := by decide +kernel
theorem i96_164 : decode (mCd 96) 164 = .ok (.ishl, 1) ∧ lk (mMsk 96) 164 = none := by decide +kernel
theorem i96_165 : decode (mCd 96) 165 = .ok (.iconst 1, 1) ∧ lk (mMsk 96) 165 = none := by decide +kernel
theorem i96_166 : decode (mCd 96) 166 = .ok (.isub, 1) ∧ lk (mMsk 96) 166 = none := by decide +kernel
theorem i96_167 : decode (mCd 96) 167 = .ok (.invokevirtual 243, 3) ∧ lk (mMsk 96) 167 = none := by decide +kernel
theorem c96_243 : cvOk 96 243 2 1 0 = true := by decide +kernel
theorem i96_170 : decode (mCd 96) 170 = .ok (.i2l, 1) ∧ lk (mMsk 96) 170 = none := by decide +kernel
theorem i96_171 : decode (mCd 96) 171 = .ok (.ladd, 1) ∧ lk (mMsk 96) 171 = none := by decide +kernel
theorem i96_172 : decode (mCd 96) 172 = .ok (.lstore_n 1, 1) ∧ lk (mMsk 96) 172 = none := by decide +kernel
theorem i96_173 : decode (mCd 96) 173 = .ok (.iconst 0, 1) ∧ lk (mMsk 96) 173 = none := by decide +kernel
theorem i96_174 : decode (mCd 96) 174 = .ok (.istore_n 3, 1) ∧ lk (mMsk 96) 174 = none := by decide +kernel
theorem i96_175 : decode (mCd 96) 175 = .ok (.iload_n 3, 1) ∧ lk (mMsk 96) 175 = some [true, true, false, true, false] := by decide +kernel
theorem i96_124 : decode (mCd 96) 124 = .ok (.ldc2_w 274, 3) ∧ lk (mMsk 96) 124 = none := by decide +kernel
theorem i96_127 : decode (mCd 96) 127 = .ok (.lload_n 1, 1) ∧ lk (mMsk 96) 127 = none := by decide +kernel
theorem i96_128 : decode (mCd 96) 128 = .ok (.lmul, 1) ∧ lk (mMsk 96) 128 = none := by decide +kernel
theorem i96_129 : decode (mCd 96) 129 = .ok (.aload_n 0, 1) ∧ lk (mMsk 96) 129 = none := by decide +kernel
theorem i96_130 : decode (mCd 96) 130 = .ok (.iload_n 3, 1) ∧ lk (mMsk 96) 130 = none := by decide +kernel
theorem i96_131 : decode (mCd 96) 131 = .ok (.invokevirtual 283, 3) ∧ lk (mMsk 96) 131 = none := by decide +kernel
theorem c96_283 : cvOk 96 283 86 1 0 = true := by decide +kernel
theorem i96_134 : decode (mCd 96) 134 = .ok (.i2l, 1) ∧ lk (mMsk 96) 134 = none := by decide +kernel
theorem i96_135 : decode (mCd 96) 135 = .ok (.ladd, 1) ∧ lk (mMsk 96) 135 = none := by decide +kernel
theorem i96_136 : decode (mCd 96) 136 = .ok (.lstore_n 1, 1) ∧ lk (mMsk 96) 136 = none := by decide +kernel
theorem i96_137 : decode (mCd 96) 137 = .ok (.iinc 3 1, 3) ∧ lk (mMsk 96) 137 = none := by decide +kernel
theorem i96_140 : decode (mCd 96) 140 = .ok (.goto (-21), 3) ∧ lk (mMsk 96) 140 = none := by decide +kernel
theorem i96_176 : decode (mCd 96) 176 = .ok (.aload_n 0, 1) ∧ lk (mMsk 96) 176 = none := by decide +kernel
theorem i96_177 : decode (mCd 96) 177 = .ok (.getfield 12, 3) ∧ lk (mMsk 96) 177 = none := by decide +kernel
theorem g96_12 : fOk 96 12 8 0 = true := by decide +kernel
theorem i96_180 : decode (mCd 96) 180 = .ok (.getfield 83, 3) ∧ lk (mMsk 96) 180 = none := by decide +kernel
theorem g96_83 : fOk 96 83 4 1 = true := by decide +kernel
theorem i96_183 : decode (mCd 96) 183 = .ok (.if_icmp .ge 25, 3) ∧ lk (mMsk 96) 183 = none := by decide +kernel
theorem i96_208 : decode (mCd 96) 208 = .ok (.iconst 0, 1) ∧ lk (mMsk 96) 208 = none := by decide +kernel
theorem i96_209 : decode (mCd 96) 209 = .ok (.istore_n 3, 1) ∧ lk (mMsk 96) 209 = none := by decide +kernel
theorem i96_210 : decode (mCd 96) 210 = .ok (.iload_n 3, 1) ∧ lk (mMsk 96) 210 = some [true, true, false, true, false] := by decide +kernel
theorem i96_186 : decode (mCd 96) 186 = .ok (.ldc2_w 274, 3) ∧ lk (mMsk 96) 186 = none := by decide +kernel
theorem i96_189 : decode (mCd 96) 189 = .ok (.lload_n 1, 1) ∧ lk (mMsk 96) 189 = none := by decide +kernel
theorem i96_190 : decode (mCd 96) 190 = .ok (.lmul, 1) ∧ lk (mMsk 96) 190 = none := by decide +kernel
theorem i96_191 : decode (mCd 96) 191 = .ok (.aload_n 0, 1) ∧ lk (mMsk 96) 191 = none := by decide +kernel
theorem i96_192 : decode (mCd 96) 192 = .ok (.getfield 12, 3) ∧ lk (mMsk 96) 192 = none := by decide +kernel
theorem i96_195 : decode (mCd 96) 195 = .ok (.iload_n 3, 1) ∧ lk (mMsk 96) 195 = none := by decide +kernel
theorem i96_196 : decode (mCd 96) 196 = .ok (.invokevirtual 291, 3) ∧ lk (mMsk 96) 196 = none := by decide +kernel
theorem c96_291 : cvOk 96 291 44 1 0 = true := by decide +kernel
theorem i96_199 : decode (mCd 96) 199 = .ok (.i2l, 1) ∧ lk (mMsk 96) 199 = none := by decide +kernel
theorem i96_200 : decode (mCd 96) 200 = .ok (.ladd, 1) ∧ lk (mMsk 96) 200 = none := by decide +kernel
theorem i96_201 : decode (mCd 96) 201 = .ok (.lstore_n 1, 1) ∧ lk (mMsk 96) 201 = none := by decide +kernel
theorem i96_202 : decode (mCd 96) 202 = .ok (.iinc 3 1, 3) ∧ lk (mMsk 96) 202 = none := by decide +kernel
theorem i96_205 : decode (mCd 96) 205 = .ok (.goto (-30), 3) ∧ lk (mMsk 96) 205 = none := by decide +kernel
theorem i96_211 : decode (mCd 96) 211 = .ok (.bipush 9, 2) ∧ lk (mMsk 96) 211 = none := by decide +kernel
theorem i96_213 : decode (mCd 96) 213 = .ok (.if_icmp .gt 22, 3) ∧ lk (mMsk 96) 213 = none := by decide +kernel
theorem i96_235 : decode (mCd 96) 235 = .ok (.lload_n 1, 1) ∧ lk (mMsk 96) 235 = none := by decide +kernel
theorem i96_236 : decode (mCd 96) 236 = .ok (.lreturn, 1) ∧ lk (mMsk 96) 236 = none := by decide +kernel
theorem i96_216 : decode (mCd 96) 216 = .ok (.ldc2_w 274, 3) ∧ lk (mMsk 96) 216 = none := by decide +kernel
theorem i96_219 : decode (mCd 96) 219 = .ok (.lload_n 1, 1) ∧ lk (mMsk 96) 219 = none := by decide +kernel
theorem i96_220 : decode (mCd 96) 220 = .ok (.lmul, 1) ∧ lk (mMsk 96) 220 = none := by decide +kernel
theorem i96_221 : decode (mCd 96) 221 = .ok (.aload_n 0, 1) ∧ lk (mMsk 96) 221 = none := by decide +kernel
theorem i96_222 : decode (mCd 96) 222 = .ok (.iload_n 3, 1) ∧ lk (mMsk 96) 222 = none := by decide +kernel
theorem i96_223 : decode (mCd 96) 223 = .ok (.invokevirtual 294, 3) ∧ lk (mMsk 96) 223 = none := by decide +kernel
theorem c96_294 : cvOk 96 294 95 1 0 = true := by decide +kernel
theorem i96_226 : decode (mCd 96) 226 = .ok (.i2l, 1) ∧ lk (mMsk 96) 226 = none := by decide +kernel
theorem i96_227 : decode (mCd 96) 227 = .ok (.ladd, 1) ∧ lk (mMsk 96) 227 = none := by decide +kernel
theorem i96_228 : decode (mCd 96) 228 = .ok (.lstore_n 1, 1) ∧ lk (mMsk 96) 228 = none := by decide +kernel
theorem i96_229 : decode (mCd 96) 229 = .ok (.iinc 3 1, 3) ∧ lk (mMsk 96) 229 = none := by decide +kernel
theorem i96_232 : decode (mCd 96) 232 = .ok (.goto (-22), 3) ∧ lk (mMsk 96) 232 = none := by decide +kernel
theorem i97_0 : decode (mCd 97) 0 = .ok (.lload_n 1, 1) ∧ lk (mMsk 97) 0 = none := by decide +kernel
theorem i97_1 : decode (mCd 97) 1 = .ok (.lstore 4, 2) ∧ lk (mMsk 97) 1 = none := by decide +kernel
theorem i97_3 : decode (mCd 97) 3 = .ok (.iconst 0, 1) ∧ lk (mMsk 97) 3 = none := by decide +kernel
theorem i97_4 : decode (mCd 97) 4 = .ok (.istore 6, 2) ∧ lk (mMsk 97) 4 = none := by decide +kernel
theorem i97_6 : decode (mCd 97) 6 = .ok (.iload 6, 2) ∧ lk (mMsk 97) 6 = some [true, false, false, true, true, false, true] := by decide +kernel
theorem i97_8 : decode (mCd 97) 8 = .ok (.bipush 6, 2) ∧ lk (mMsk 97) 8 = none := by decide +kernel
theorem i97_10 : decode (mCd 97) 10 = .ok (.if_icmp .gt 26, 3) ∧ lk (mMsk 97) 10 = none := by decide +kernel
theorem i97_36 : decode (mCd 97) 36 = .ok (.iconst 0, 1) ∧ lk (mMsk 97) 36 = none := by decide +kernel
theorem i97_37 : decode (mCd 97) 37 = .ok (.istore 6, 2) ∧ lk (mMsk 97) 37 = none := by decide +kernel
theorem i97_39 : decode (mCd 97) 39 = .ok (.iload 6, 2) ∧ lk (mMsk 97) 39 = some [true, false, false, true, true, false, true] := by decide +kernel
theorem i97_13 : decode (mCd 97) 13 = .ok (.ldc2_w 274, 3) ∧ lk (mMsk 97) 13 = none := by decide +kernel
theorem q97_274 : lk (mKt (mOwn 97)) 274 = some (.inr 31) := by decide +kernel
theorem i97_16 : decode (mCd 97) 16 = .ok (.lload 4, 2) ∧ lk (mMsk 97) 16 = none := by decide +kernel
theorem i97_18 : decode (mCd 97) 18 = .ok (.lmul, 1) ∧ lk (mMsk 97) 18 = none := by decide +kernel
theorem i97_19 : decode (mCd 97) 19 = .ok (.aload_n 0, 1) ∧ lk (mMsk 97) 19 = none := by decide +kernel
theorem i97_20 : decode (mCd 97) 20 = .ok (.iload_n 3, 1) ∧ lk (mMsk 97) 20 = none := by decide +kernel
theorem i97_21 : decode (mCd 97) 21 = .ok (.iload 6, 2) ∧ lk (mMsk 97) 21 = none := by decide +kernel
theorem i97_23 : decode (mCd 97) 23 = .ok (.invokevirtual 297, 3) ∧ lk (mMsk 97) 23 = none := by decide +kernel
theorem c97_297 : cvOk 97 297 78 2 0 = true := by decide +kernel
theorem i97_26 : decode (mCd 97) 26 = .ok (.i2l, 1) ∧ lk (mMsk 97) 26 = none := by decide +kernel
theorem i97_27 : decode (mCd 97) 27 = .ok (.ladd, 1) ∧ lk (mMsk 97) 27 = none := by decide +kernel
theorem i97_28 : decode (mCd 97) 28 = .ok (.lstore 4, 2) ∧ lk (mMsk 97) 28 = none := by decide +kernel
theorem i97_30 : decode (mCd 97) 30 = .ok (.iinc 6 1, 3) ∧ lk (mMsk 97) 30 = none := by decide +kernel
theorem i97_33 : decode (mCd 97) 33 = .ok (.goto (-27), 3) ∧ lk (mMsk 97) 33 = none := by decide +kernel
theorem i97_41 : decode (mCd 97) 41 = .ok (.aload_n 0, 1) ∧ lk (mMsk 97) 41 = none := by decide +kernel
theorem i97_42 : decode (mCd 97) 42 = .ok (.getfield 33, 3) ∧ lk (mMsk 97) 42 = none := by decide +kernel
theorem g97_33 : fOk 97 33 8 3 = true := by decide +kernel
theorem i97_45 : decode (mCd 97) 45 = .ok (.getfield 137, 3) ∧ lk (mMsk 97) 45 = none := by decide +kernel
theorem g97_137 : fOk 97 137 6 1 = true := by decide +kernel
theorem i97_48 : decode (mCd 97) 48 = .ok (.if_icmp .ge 32, 3) ∧ lk (mMsk 97) 48 = none := by decide +kernel
theorem i97_80 : decode (mCd 97) 80 = .ok (.ldc2_w 274, 3) ∧ lk (mMsk 97) 80 = none := by decide +kernel
theorem i97_83 : decode (mCd 97) 83 = .ok (.lload 4, 2) ∧ lk (mMsk 97) 83 = none := by decide +kernel
theorem i97_85 : decode (mCd 97) 85 = .ok (.lmul, 1) ∧ lk (mMsk 97) 85 = none := by decide +kernel
theorem i97_86 : decode (mCd 97) 86 = .ok (.aload_n 0, 1) ∧ lk (mMsk 97) 86 = none := by decide +kernel
theorem i97_87 : decode (mCd 97) 87 = .ok (.getfield 54, 3) ∧ lk (mMsk 97) 87 = none := by decide +kernel
theorem g97_54 : fOk 97 54 8 6 = true := by decide +kernel
theorem i97_90 : decode (mCd 97) 90 = .ok (.iload_n 3, 1) ∧ lk (mMsk 97) 90 = none := by decide +kernel
theorem i97_91 : decode (mCd 97) 91 = .ok (.invokevirtual 237, 3) ∧ lk (mMsk 97) 91 = none := by decide +kernel
theorem c97_237 : cvOk 97 237 1 1 0 = true := by decide +kernel
theorem i97_94 : decode (mCd 97) 94 = .ok (.i2l, 1) ∧ lk (mMsk 97) 94 = none := by decide +kernel
theorem i97_95 : decode (mCd 97) 95 = .ok (.ladd, 1) ∧ lk (mMsk 97) 95 = none := by decide +kernel
theorem i97_96 : decode (mCd 97) 96 = .ok (.lreturn, 1) ∧ lk (mMsk 97) 96 = none := by decide +kernel
theorem i97_51 : decode (mCd 97) 51 = .ok (.iload 6, 2) ∧ lk (mMsk 97) 51 = none := by decide +kernel
theorem i97_53 : decode (mCd 97) 53 = .ok (.iload_n 3, 1) ∧ lk (mMsk 97) 53 = none := by decide +kernel
theorem i97_54 : decode (mCd 97) 54 = .ok (.if_icmp .eq 20, 3) ∧ lk (mMsk 97) 54 = none := by decide +kernel
theorem i97_74 : decode (mCd 97) 74 = .ok (.iinc 6 1, 3) ∧ lk (mMsk 97) 74 = some [true, false, false, true, true, false, true] := by decide +kernel
theorem i97_57 : decode (mCd 97) 57 = .ok (.ldc2_w 274, 3) ∧ lk (mMsk 97) 57 = none := by decide +kernel
theorem i97_60 : decode (mCd 97) 60 = .ok (.lload 4, 2) ∧ lk (mMsk 97) 60 = none := by decide +kernel
theorem i97_62 : decode (mCd 97) 62 = .ok (.lmul, 1) ∧ lk (mMsk 97) 62 = none := by decide +kernel
theorem i97_63 : decode (mCd 97) 63 = .ok (.aload_n 0, 1) ∧ lk (mMsk 97) 63 = none := by decide +kernel
theorem i97_64 : decode (mCd 97) 64 = .ok (.iload_n 3, 1) ∧ lk (mMsk 97) 64 = none := by decide +kernel
theorem i97_65 : decode (mCd 97) 65 = .ok (.iload 6, 2) ∧ lk (mMsk 97) 65 = none := by decide +kernel
theorem i97_67 : decode (mCd 97) 67 = .ok (.invokevirtual 300, 3) ∧ lk (mMsk 97) 67 = none := by decide +kernel
theorem c97_300 : cvOk 97 300 82 2 0 = true := by decide +kernel
theorem i97_70 : decode (mCd 97) 70 = .ok (.i2l, 1) ∧ lk (mMsk 97) 70 = none := by decide +kernel
theorem i97_71 : decode (mCd 97) 71 = .ok (.ladd, 1) ∧ lk (mMsk 97) 71 = none := by decide +kernel
theorem i97_72 : decode (mCd 97) 72 = .ok (.lstore 4, 2) ∧ lk (mMsk 97) 72 = none := by decide +kernel
theorem i97_77 : decode (mCd 97) 77 = .ok (.goto (-38), 3) ∧ lk (mMsk 97) 77 = none := by decide +kernel
theorem i98_0 : decode (mCd 98) 0 = .ok (.iload_n 1, 1) ∧ lk (mMsk 98) 0 = none := by decide +kernel
theorem i98_1 : decode (mCd 98) 1 = .ok (.istore_n 2, 1) ∧ lk (mMsk 98) 1 = none := by decide +kernel
theorem i98_2 : decode (mCd 98) 2 = .ok (.iconst 0, 1) ∧ lk (mMsk 98) 2 = none := by decide +kernel
theorem i98_3 : decode (mCd 98) 3 = .ok (.istore_n 3, 1) ∧ lk (mMsk 98) 3 = none := by decide +kernel
theorem i98_4 : decode (mCd 98) 4 = .ok (.iload_n 3, 1) ∧ lk (mMsk 98) 4 = some [true, false, true, true, false] := by decide +kernel
theorem i98_5 : decode (mCd 98) 5 = .ok (.aload_n 0, 1) ∧ lk (mMsk 98) 5 = none := by decide +kernel
theorem i98_6 : decode (mCd 98) 6 = .ok (.getfield 12, 3) ∧ lk (mMsk 98) 6 = none := by decide +kernel
theorem g98_12 : fOk 98 12 8 0 = true := by decide +kernel
theorem i98_9 : decode (mCd 98) 9 = .ok (.getfield 83, 3) ∧ lk (mMsk 98) 9 = none := by decide +kernel
theorem g98_83 : fOk 98 83 4 1 = true := by decide +kernel
theorem i98_12 : decode (mCd 98) 12 = .ok (.if_icmp .ge 46, 3) ∧ lk (mMsk 98) 12 = none := by decide +kernel
theorem i98_58 : decode (mCd 98) 58 = .ok (.iconst 1, 1) ∧ lk (mMsk 98) 58 = none := by decide +kernel
theorem i98_59 : decode (mCd 98) 59 = .ok (.ireturn, 1) ∧ lk (mMsk 98) 59 = none := by decide +kernel
theorem i98_15 : decode (mCd 98) 15 = .ok (.aload_n 0, 1) ∧ lk (mMsk 98) 15 = none := by decide +kernel
theorem i98_16 : decode (mCd 98) 16 = .ok (.getfield 12, 3) ∧ lk (mMsk 98) 16 = none := by decide +kernel
theorem i98_19 : decode (mCd 98) 19 = .ok (.iload_n 3, 1) ∧ lk (mMsk 98) 19 = none := by decide +kernel
theorem i98_20 : decode (mCd 98) 20 = .ok (.invokevirtual 291, 3) ∧ lk (mMsk 98) 20 = none := by decide +kernel
theorem c98_291 : cvOk 98 291 44 1 0 = true := by decide +kernel
theorem i98_23 : decode (mCd 98) 23 = .ok (.bipush 48, 2) ∧ lk (mMsk 98) 23 = none := by decide +kernel
theorem i98_25 : decode (mCd 98) 25 = .ok (.isub, 1) ∧ lk (mMsk 98) 25 = none := by decide +kernel
theorem i98_26 : decode (mCd 98) 26 = .ok (.istore 4, 2) ∧ lk (mMsk 98) 26 = none := by decide +kernel
theorem i98_28 : decode (mCd 98) 28 = .ok (.iload 4, 2) ∧ lk (mMsk 98) 28 = none := by decide +kernel
theorem i98_30 : decode (mCd 98) 30 = .ok (.iload_n 2, 1) ∧ lk (mMsk 98) 30 = none := by decide +kernel
theorem i98_31 : decode (mCd 98) 31 = .ok (.if_icmp .eq 18, 3) ∧ lk (mMsk 98) 31 = none := by decide +kernel
theorem i98_49 : decode (mCd 98) 49 = .ok (.iload 4, 2) ∧ lk (mMsk 98) 49 = some [true, false, false, true, true] := by decide +kernel
theorem i98_34 : decode (mCd 98) 34 = .ok (.aload_n 0, 1) ∧ lk (mMsk 98) 34 = none := by decide +kernel
theorem i98_35 : decode (mCd 98) 35 = .ok (.getfield 26, 3) ∧ lk (mMsk 98) 35 = none := by decide +kernel
theorem g98_26 : fOk 98 26 8 2 = true := by decide +kernel
theorem i98_38 : decode (mCd 98) 38 = .ok (.iload_n 2, 1) ∧ lk (mMsk 98) 38 = none := by decide +kernel
theorem i98_39 : decode (mCd 98) 39 = .ok (.iload 4, 2) ∧ lk (mMsk 98) 39 = none := by decide +kernel
theorem i98_41 : decode (mCd 98) 41 = .ok (.invokevirtual 303, 3) ∧ lk (mMsk 98) 41 = none := by decide +kernel
theorem c98_303 : cvOk 98 303 24 2 0 = true := by decide +kernel
theorem i98_44 : decode (mCd 98) 44 = .ok (.ifCond .ne 5, 3) ∧ lk (mMsk 98) 44 = none := by decide +kernel
theorem i98_47 : decode (mCd 98) 47 = .ok (.iconst 0, 1) ∧ lk (mMsk 98) 47 = none := by decide +kernel
theorem i98_48 : decode (mCd 98) 48 = .ok (.ireturn, 1) ∧ lk (mMsk 98) 48 = none := by decide +kernel
theorem i98_51 : decode (mCd 98) 51 = .ok (.istore_n 2, 1) ∧ lk (mMsk 98) 51 = none := by decide +kernel
theorem i98_52 : decode (mCd 98) 52 = .ok (.iinc 3 1, 3) ∧ lk (mMsk 98) 52 = none := by decide +kernel
theorem i98_55 : decode (mCd 98) 55 = .ok (.goto (-51), 3) ∧ lk (mMsk 98) 55 = none := by decide +kernel
theorem i99_0 : decode (mCd 99) 0 = .ok (.aload_n 0, 1) ∧ lk (mMsk 99) 0 = none := by decide +kernel
theorem i99_1 : decode (mCd 99) 1 = .ok (.getfield 33, 3) ∧ lk (mMsk 99) 1 = none := by decide +kernel
theorem g99_33 : fOk 99 33 8 3 = true := by decide +kernel
theorem i99_4 : decode (mCd 99) 4 = .ok (.getfield 137, 3) ∧ lk (mMsk 99) 4 = none := by decide +kernel
theorem g99_137 : fOk 99 137 6 1 = true := by decide +kernel
theorem i99_7 : decode (mCd 99) 7 = .ok (.iconst 1, 1) ∧ lk (mMsk 99) 7 = none := by decide +kernel
theorem i99_8 : decode (mCd 99) 8 = .ok (.if_icmp .lt 27, 3) ∧ lk (mMsk 99) 8 = none := by decide +kernel
theorem i99_35 : decode (mCd 99) 35 = .ok (.iconst 0, 1) ∧ lk (mMsk 99) 35 = some [false] := by decide +kernel
theorem i99_11 : decode (mCd 99) 11 = .ok (.aload_n 0, 1) ∧ lk (mMsk 99) 11 = none := by decide +kernel
theorem i99_12 : decode (mCd 99) 12 = .ok (.getfield 33, 3) ∧ lk (mMsk 99) 12 = none := by decide +kernel
theorem i99_15 : decode (mCd 99) 15 = .ok (.getfield 137, 3) ∧ lk (mMsk 99) 15 = none := by decide +kernel
theorem i99_18 : decode (mCd 99) 18 = .ok (.iconst 3, 1) ∧ lk (mMsk 99) 18 = none := by decide +kernel
theorem i99_19 : decode (mCd 99) 19 = .ok (.if_icmp .gt 16, 3) ∧ lk (mMsk 99) 19 = none := by decide +kernel
theorem i99_22 : decode (mCd 99) 22 = .ok (.aload_n 0, 1) ∧ lk (mMsk 99) 22 = none := by decide +kernel
theorem i99_23 : decode (mCd 99) 23 = .ok (.getfield 76, 3) ∧ lk (mMsk 99) 23 = none := by decide +kernel
theorem g99_76 : fOk 99 76 8 11 = true := by decide +kernel
theorem i99_26 : decode (mCd 99) 26 = .ok (.bipush 40, 2) ∧ lk (mMsk 99) 26 = none := by decide +kernel
theorem i99_28 : decode (mCd 99) 28 = .ok (.if_icmp .ge 7, 3) ∧ lk (mMsk 99) 28 = none := by decide +kernel
theorem i99_31 : decode (mCd 99) 31 = .ok (.iconst 1, 1) ∧ lk (mMsk 99) 31 = none := by decide +kernel
theorem i99_32 : decode (mCd 99) 32 = .ok (.goto 4, 3) ∧ lk (mMsk 99) 32 = none := by decide +kernel
theorem i99_36 : decode (mCd 99) 36 = .ok (.ireturn, 1) ∧ lk (mMsk 99) 36 = some [false] := by decide +kernel
theorem i100_0 : decode (mCd 100) 0 = .ok (.iload_n 1, 1) ∧ lk (mMsk 100) 0 = none := by decide +kernel
theorem i100_1 : decode (mCd 100) 1 = .ok (.ifCond .lt 28, 3) ∧ lk (mMsk 100) 1 = none := by decide +kernel
theorem i100_29 : decode (mCd 100) 29 = .ok (.iconst 0, 1) ∧ lk (mMsk 100) 29 = some [false, false] := by decide +kernel
theorem i100_4 : decode (mCd 100) 4 = .ok (.iload_n 1, 1) ∧ lk (mMsk 100) 4 = none := by decide +kernel
theorem i100_5 : decode (mCd 100) 5 = .ok (.iconst 1, 1) ∧ lk (mMsk 100) 5 = none := by decide +kernel
theorem i100_6 : decode (mCd 100) 6 = .ok (.aload_n 0, 1) ∧ lk (mMsk 100) 6 = none := by decide +kernel
theorem i100_7 : decode (mCd 100) 7 = .ok (.getfield 33, 3) ∧ lk (mMsk 100) 7 = none := by decide +kernel
theorem g100_33 : fOk 100 33 8 3 = true := by decide +kernel
theorem i100_10 : decode (mCd 100) 10 = .ok (.getfield 137, 3) ∧ lk (mMsk 100) 10 = none := by decide +kernel
theorem g100_137 : fOk 100 137 6 1 = true := by decide +kernel
theorem i100_13 : decode (mCd 100) 13 = .ok (.ishl, 1) ∧ lk (mMsk 100) 13 = none := by decide +kernel
theorem i100_14 : decode (mCd 100) 14 = .ok (.if_icmp .ge 15, 3) ∧ lk (mMsk 100) 14 = none := by decide +kernel
theorem i100_17 : decode (mCd 100) 17 = .ok (.iload_n 1, 1) ∧ lk (mMsk 100) 17 = none := by decide +kernel
theorem i100_18 : decode (mCd 100) 18 = .ok (.invokestatic 307, 3) ∧ lk (mMsk 100) 18 = none := by decide +kernel
theorem c100_307 : ciOk 100 307 175 1 0 = true := by decide +kernel
theorem i100_21 : decode (mCd 100) 21 = .ok (.iconst 3, 1) ∧ lk (mMsk 100) 21 = none := by decide +kernel
theorem i100_22 : decode (mCd 100) 22 = .ok (.if_icmp .gt 7, 3) ∧ lk (mMsk 100) 22 = none := by decide +kernel
theorem i100_25 : decode (mCd 100) 25 = .ok (.iconst 1, 1) ∧ lk (mMsk 100) 25 = none := by decide +kernel
theorem i100_26 : decode (mCd 100) 26 = .ok (.goto 4, 3) ∧ lk (mMsk 100) 26 = none := by decide +kernel
theorem i100_30 : decode (mCd 100) 30 = .ok (.ireturn, 1) ∧ lk (mMsk 100) 30 = some [false, false] := by decide +kernel
theorem i101_0 : decode (mCd 101) 0 = .ok (.iload_n 0, 1) ∧ lk (mMsk 101) 0 = none := by decide +kernel
theorem i101_1 : decode (mCd 101) 1 = .ok (.ifCond .lt 13, 3) ∧ lk (mMsk 101) 1 = none := by decide +kernel
theorem i101_14 : decode (mCd 101) 14 = .ok (.iconst 0, 1) ∧ lk (mMsk 101) 14 = some [false] := by decide +kernel
theorem i101_4 : decode (mCd 101) 4 = .ok (.iload_n 0, 1) ∧ lk (mMsk 101) 4 = none := by decide +kernel
theorem i101_5 : decode (mCd 101) 5 = .ok (.bipush 8, 2) ∧ lk (mMsk 101) 5 = none := by decide +kernel
theorem i101_7 : decode (mCd 101) 7 = .ok (.if_icmp .ge 7, 3) ∧ lk (mMsk 101) 7 = none := by decide +kernel
theorem i101_10 : decode (mCd 101) 10 = .ok (.iconst 1, 1) ∧ lk (mMsk 101) 10 = none := by decide +kernel
theorem i101_11 : decode (mCd 101) 11 = .ok (.goto 4, 3) ∧ lk (mMsk 101) 11 = none := by decide +kernel
theorem i101_15 : decode (mCd 101) 15 = .ok (.ireturn, 1) ∧ lk (mMsk 101) 15 = some [false] := by decide +kernel
theorem i102_0 : decode (mCd 102) 0 = .ok (.iload_n 0, 1) ∧ lk (mMsk 102) 0 = none := by decide +kernel
theorem i102_1 : decode (mCd 102) 1 = .ok (.ifCond .lt 12, 3) ∧ lk (mMsk 102) 1 = none := by decide +kernel
theorem i102_13 : decode (mCd 102) 13 = .ok (.iconst 0, 1) ∧ lk (mMsk 102) 13 = some [false] := by decide +kernel
theorem i102_4 : decode (mCd 102) 4 = .ok (.iload_n 0, 1) ∧ lk (mMsk 102) 4 = none := by decide +kernel
theorem i102_5 : decode (mCd 102) 5 = .ok (.iconst 3, 1) ∧ lk (mMsk 102) 5 = none := by decide +kernel
theorem i102_6 : decode (mCd 102) 6 = .ok (.if_icmp .gt 7, 3) ∧ lk (mMsk 102) 6 = none := by decide +kernel
theorem i102_9 : decode (mCd 102) 9 = .ok (.iconst 1, 1) ∧ lk (mMsk 102) 9 = none := by decide +kernel
theorem i102_10 : decode (mCd 102) 10 = .ok (.goto 4, 3) ∧ lk (mMsk 102) 10 = none := by decide +kernel
theorem i102_14 : decode (mCd 102) 14 = .ok (.ireturn, 1) ∧ lk (mMsk 102) 14 = some [false] := by decide +kernel
theorem i103_0 : decode (mCd 103) 0 = .ok (.iload_n 0, 1) ∧ lk (mMsk 103) 0 = none := by decide +kernel
theorem i103_1 : decode (mCd 103) 1 = .ok (.ifCond .lt 13, 3) ∧ lk (mMsk 103) 1 = none := by decide +kernel
theorem i103_14 : decode (mCd 103) 14 = .ok (.iconst 0, 1) ∧ lk (mMsk 103) 14 = some [false] := by decide +kernel
theorem i103_4 : decode (mCd 103) 4 = .ok (.iload_n 0, 1) ∧ lk (mMsk 103) 4 = none := by decide +kernel
theorem i103_5 : decode (mCd 103) 5 = .ok (.bipush 20, 2) ∧ lk (mMsk 103) 5 = none := by decide +kernel
theorem i103_7 : decode (mCd 103) 7 = .ok (.if_icmp .gt 7, 3) ∧ lk (mMsk 103) 7 = none := by decide +kernel
theorem i103_10 : decode (mCd 103) 10 = .ok (.iconst 1, 1) ∧ lk (mMsk 103) 10 = none := by decide +kernel
theorem i103_11 : decode (mCd 103) 11 = .ok (.goto 4, 3) ∧ lk (mMsk 103) 11 = none := by decide +kernel
theorem i103_15 : decode (mCd 103) 15 = .ok (.ireturn, 1) ∧ lk (mMsk 103) 15 = some [false] := by decide +kernel
theorem i104_0 : decode (mCd 104) 0 = .ok (.iload_n 0, 1) ∧ lk (mMsk 104) 0 = none := by decide +kernel
theorem i104_1 : decode (mCd 104) 1 = .ok (.ifCond .lt 13, 3) ∧ lk (mMsk 104) 1 = none := by decide +kernel
theorem i104_14 : decode (mCd 104) 14 = .ok (.iconst 0, 1) ∧ lk (mMsk 104) 14 = some [false] := by decide +kernel
theorem i104_4 : decode (mCd 104) 4 = .ok (.iload_n 0, 1) ∧ lk (mMsk 104) 4 = none := by decide +kernel
theorem i104_5 : decode (mCd 104) 5 = .ok (.bipush 99, 2) ∧ lk (mMsk 104) 5 = none := by decide +kernel
theorem i104_7 : decode (mCd 104) 7 = .ok (.if_icmp .gt 7, 3) ∧ lk (mMsk 104) 7 = none := by decide +kernel
theorem i104_10 : decode (mCd 104) 10 = .ok (.iconst 1, 1) ∧ lk (mMsk 104) 10 = none := by decide +kernel
theorem i104_11 : decode (mCd 104) 11 = .ok (.goto 4, 3) ∧ lk (mMsk 104) 11 = none := by decide +kernel
theorem i104_15 : decode (mCd 104) 15 = .ok (.ireturn, 1) ∧ lk (mMsk 104) 15 = some [false] := by decide +kernel
theorem i105_0 : decode (mCd 105) 0 = .ok (.iload_n 0, 1) ∧ lk (mMsk 105) 0 = none := by decide +kernel
theorem i105_1 : decode (mCd 105) 1 = .ok (.iconst 1, 1) ∧ lk (mMsk 105) 1 = none := by decide +kernel
theorem i105_2 : decode (mCd 105) 2 = .ok (.if_icmp .lt 13, 3) ∧ lk (mMsk 105) 2 = none := by decide +kernel
theorem i105_15 : decode (mCd 105) 15 = .ok (.iconst 0, 1) ∧ lk (mMsk 105) 15 = some [false] := by decide +kernel
theorem i105_5 : decode (mCd 105) 5 = .ok (.iload_n 0, 1) ∧ lk (mMsk 105) 5 = none := by decide +kernel
theorem i105_6 : decode (mCd 105) 6 = .ok (.bipush 60, 2) ∧ lk (mMsk 105) 6 = none := by decide +kernel
theorem i105_8 : decode (mCd 105) 8 = .ok (.if_icmp .gt 7, 3) ∧ lk (mMsk 105) 8 = none := by decide +kernel
theorem i105_11 : decode (mCd 105) 11 = .ok (.iconst 1, 1) ∧ lk (mMsk 105) 11 = none := by decide +kernel
theorem i105_12 : decode (mCd 105) 12 = .ok (.goto 4, 3) ∧ lk (mMsk 105) 12 = none := by decide +kernel
theorem i105_16 : decode (mCd 105) 16 = .ok (.ireturn, 1) ∧ lk (mMsk 105) 16 = some [false] := by decide +kernel
theorem f_Top_letters_eq {j1 : Int64}  {S : Mem} : f_Top_letters j1 S = bI (f_Page_told j1 S) (fun r5 S4 => if 0 ≤ r5 then if ((S4.1 1 1) + r5) ≤ 50 then bU (f_Page_append j1 r5 S4) (fun S6 => some ((S6.1 1 1), S6)) else some ((-104), S4) else some ((-102), S4)) := by
  show cI (mV oS X0 72 0 [some (.ref 0), some (.long j1), none, none] [] S) = _
  refine V_lload_n (c := cI) i72_0.1 (mM_n i72_0.2) rfl ?_
  refine V_ciI (c := cI) (As := [.long j1]) (rest := []) i72_1.1 (mM_n i72_1.2) c72_79 rfl rfl rfl (Nat.le_of_ble_eq_true rfl) rfl (fun r5 S4 => ?_)
  refine V_istore_n (c := cI) i72_4.1 (mM_n i72_4.2) (l1 := [some (.ref 0), some (.long j1), none, some (.int r5)])  (Nat.le_of_ble_eq_true rfl) rfl ?_
  refine V_iload_n (c := cI) i72_5.1 (mM_n i72_5.2) rfl ?_
  refine V_if_ge (c := cI) i72_6.1 (mM_n i72_6.2) rfl (fun _ => ?_) (fun _ => ?_)
  · refine V_aload_n (c := cI) i72_12.1 (mM_n i72_12.2) rfl rfl ?_
    refine V_gf (c := cI) i72_13.1 (mM_n i72_13.2) (v := .ref 1) g72_12 rfl ?_
    refine V_gf (c := cI) i72_16.1 (mM_n i72_16.2) (v := .int (S4.1 1 1)) g72_83 rfl ?_
    refine V_iload_n (c := cI) i72_19.1 (mM_n i72_19.2) rfl ?_
    refine V_iadd (c := cI) i72_20.1 (mM_n i72_20.2)  ?_
    refine V_bipush (c := cI) i72_21.1 (mM_n i72_21.2) (v := 50) rfl ?_
    refine V_icmp_le (c := cI) i72_23.1 (mM_n i72_23.2) rfl (fun _ => ?_) (fun _ => ?_)
    · refine V_aload_n (c := cI) i72_29.1 (mM_n i72_29.2) rfl rfl ?_
      refine V_gf (c := cI) i72_30.1 (mM_n i72_30.2) (v := .ref 1) g72_12 rfl ?_
      refine V_lload_n (c := cI) i72_33.1 (mM_n i72_33.2) rfl ?_
      refine V_iload_n (c := cI) i72_34.1 (mM_n i72_34.2) rfl ?_
      refine V_cvU (c := cI) (As := [.long j1, .int r5]) (rest := []) i72_35.1 (mM_n i72_35.2) c72_86 rfl rfl rfl rfl (Nat.le_of_ble_eq_true rfl) rfl (fun S6 => ?_)
      refine V_aload_n (c := cI) i72_38.1 (mM_n i72_38.2) rfl rfl ?_
      refine V_gf (c := cI) i72_39.1 (mM_n i72_39.2) (v := .ref 1) g72_12 rfl ?_
      refine V_gf (c := cI) i72_42.1 (mM_n i72_42.2) (v := .int (S6.1 1 1)) g72_83 rfl ?_
      exact V_iret i72_45.1 (mM_n i72_45.2) rfl
    · refine V_bipush (c := cI) i72_26.1 (mM_n i72_26.2) (v := (-104)) rfl ?_
      exact V_iret i72_28.1 (mM_n i72_28.2) rfl
  · refine V_bipush (c := cI) i72_9.1 (mM_n i72_9.2) (v := (-102)) rfl ?_
    exact V_iret i72_11.1 (mM_n i72_11.2) rfl
theorem f_Top_blank_eq   {S : Mem} : f_Top_blank  S = some ((S.1 1 1), u1 S 1 1 0) := by
  show cI (mV oS X0 73 0 [some (.ref 0), none] [] S) = _
  refine V_aload_n (c := cI) i73_0.1 (mM_n i73_0.2) rfl rfl ?_
  refine V_gf (c := cI) i73_1.1 (mM_n i73_1.2) (v := .ref 1) g73_12 rfl ?_
  refine V_gf (c := cI) i73_4.1 (mM_n i73_4.2) (v := .int (S.1 1 1)) g73_83 rfl ?_
  refine V_istore_n (c := cI) i73_7.1 (mM_n i73_7.2) (l1 := [some (.ref 0), some (.int (S.1 1 1))])  (Nat.le_of_ble_eq_true rfl) rfl ?_
  refine V_aload_n (c := cI) i73_8.1 (mM_n i73_8.2) rfl rfl ?_
  refine V_gf (c := cI) i73_9.1 (mM_n i73_9.2) (v := .ref 1) g73_12 rfl ?_
  refine V_iconst (c := cI) i73_12.1 (mM_n i73_12.2) (v := 0) rfl ?_
  refine V_pf (c := cI) i73_13.1 (mM_n i73_13.2) p73_83 (pf_i rfl rfl rfl) ?_
  refine V_iload_n (c := cI) i73_16.1 (mM_n i73_16.2) rfl ?_
  exact V_iret i73_17.1 (mM_n i73_17.2) rfl
theorem f_Top_fault_eq {x1 : Int32}  {S : Mem} : f_Top_fault x1 S = if x1 = 0 then k_Top_fault_12 x1 S else if x1 = 1 then k_Top_fault_12 x1 S else some ((-102), S) := by
  show cI (mV oS X0 74 0 [some (.ref 0), some (.int x1)] [] S) = _
  refine V_iload_n (c := cI) i74_0.1 (mM_n i74_0.2) rfl ?_
  refine V_if_eq (c := cI) i74_1.1 (mM_n i74_1.2) rfl (fun _ => ?_) (fun _ => ?_)
  · exact V_msk (l1 := [some (.ref 0), some (.int x1)]) i74_12.2 rfl rfl
  · refine V_iload_n (c := cI) i74_4.1 (mM_n i74_4.2) rfl ?_
    refine V_iconst (c := cI) i74_5.1 (mM_n i74_5.2) (v := 1) rfl ?_
    refine V_icmp_eq (c := cI) i74_6.1 (mM_n i74_6.2) rfl (fun _ => ?_) (fun _ => ?_)
    · exact V_msk (l1 := [some (.ref 0), some (.int x1)]) i74_12.2 rfl rfl
    · refine V_bipush (c := cI) i74_9.1 (mM_n i74_9.2) (v := (-102)) rfl ?_
      exact V_iret i74_11.1 (mM_n i74_11.2) rfl
theorem k_Top_fault_12_eq {x1 : Int32}  {S : Mem} : k_Top_fault_12 x1 S = if x1 = 0 then bI (f_NetReader_readFrom S) (fun r6 S5 => k_Top_fault_37 r6 S5) else bI (f_Page_digitsOfWay S) (fun r8 S7 => k_Top_fault_37 r8 S7) := by
  show cI (mV oS X0 74 12 [some (.ref 0), some (.int x1)] [] S) = _
  refine V_iload_n (c := cI) i74_12.1 (mM_s i74_12.2 rfl) rfl ?_
  refine V_if_ne (c := cI) i74_13.1 (mM_n i74_13.2) rfl (fun _ => ?_) (fun _ => ?_)
  · refine V_aload_n (c := cI) i74_16.1 (mM_n i74_16.2) rfl rfl ?_
    refine V_gf (c := cI) i74_17.1 (mM_n i74_17.2) (v := .ref 3) g74_19 rfl ?_
    refine V_aload_n (c := cI) i74_20.1 (mM_n i74_20.2) rfl rfl ?_
    refine V_gf (c := cI) i74_21.1 (mM_n i74_21.2) (v := .ref 1) g74_12 rfl ?_
    refine V_cvI (c := cI) (As := [.ref 1]) (rest := []) i74_24.1 (mM_n i74_24.2) c74_90 rfl rfl rfl rfl (Nat.le_of_ble_eq_true rfl) rfl (fun r6 S5 => ?_)
    refine V_goto (c := cI) i74_27.1 (mM_n i74_27.2) rfl ?_
    exact V_msk (l1 := [none, none]) i74_37.2 rfl rfl
  · refine V_aload_n (c := cI) i74_30.1 (mM_n i74_30.2) rfl rfl ?_
    refine V_gf (c := cI) i74_31.1 (mM_n i74_31.2) (v := .ref 1) g74_12 rfl ?_
    refine V_cvI (c := cI) (As := []) (rest := []) i74_34.1 (mM_n i74_34.2) c74_94 rfl rfl rfl rfl (Nat.le_of_ble_eq_true rfl) rfl (fun r8 S7 => ?_)
    exact V_msk (l1 := [none, none]) i74_37.2 rfl rfl
theorem k_Top_fault_37_eq {xs0 : Int32}  {S : Mem} : k_Top_fault_37 xs0 S = some (xs0, S) := by
  show cI (mV oS X0 74 37 [none, none] [.int xs0] S) = _
  exact V_iret i74_37.1 (mM_s i74_37.2 rfl) rfl
theorem f_Top_net_eq   {S : Mem} : f_Top_net  S = bI (f_NetReader_readFrom S) (fun r8 S7 => if r8 < (S7.1 1 1) then k_Top_net_31 S7 else bI (f_NetReader_isWhole S7) (fun r10 S9 => if r10 = 0 then k_Top_net_31 S9 else bU (f_Net_become S9) (fun S11 => bU (f_Town_empty 14 S11) (fun S12 => some ((S12.1 7 3), u1 (u1 (u1 (u1 S12 1 1 0) 0 8 1) 0 9 0) 0 10 ((S12.1 0 10) + 1)))))) := by
  show cI (mV oS X0 75 0 [some (.ref 0)] [] S) = _
  refine V_aload_n (c := cI) i75_0.1 (mM_n i75_0.2) rfl rfl ?_
  refine V_gf (c := cI) i75_1.1 (mM_n i75_1.2) (v := .ref 3) g75_19 rfl ?_
  refine V_aload_n (c := cI) i75_4.1 (mM_n i75_4.2) rfl rfl ?_
  refine V_gf (c := cI) i75_5.1 (mM_n i75_5.2) (v := .ref 1) g75_12 rfl ?_
  refine V_cvI (c := cI) (As := [.ref 1]) (rest := []) i75_8.1 (mM_n i75_8.2) c75_90 rfl rfl rfl rfl (Nat.le_of_ble_eq_true rfl) rfl (fun r8 S7 => ?_)
  refine V_aload_n (c := cI) i75_11.1 (mM_n i75_11.2) rfl rfl ?_
  refine V_gf (c := cI) i75_12.1 (mM_n i75_12.2) (v := .ref 1) g75_12 rfl ?_
  refine V_gf (c := cI) i75_15.1 (mM_n i75_15.2) (v := .int (S7.1 1 1)) g75_83 rfl ?_
  refine V_icmp_lt (c := cI) i75_18.1 (mM_n i75_18.2) rfl (fun _ => ?_) (fun _ => ?_)
  · exact V_msk (l1 := [none]) i75_31.2 rfl rfl
  · refine V_aload_n (c := cI) i75_21.1 (mM_n i75_21.2) rfl rfl ?_
    refine V_gf (c := cI) i75_22.1 (mM_n i75_22.2) (v := .ref 3) g75_19 rfl ?_
    refine V_cvI (c := cI) (As := []) (rest := []) i75_25.1 (mM_n i75_25.2) c75_98 rfl rfl rfl rfl (Nat.le_of_ble_eq_true rfl) rfl (fun r10 S9 => ?_)
    refine V_if_ne (c := cI) i75_28.1 (mM_n i75_28.2) rfl (fun _ => ?_) (fun _ => ?_)
    · exact V_msk (l1 := [none]) i75_31.2 rfl rfl
    · refine V_aload_n (c := cI) i75_34.1 (mM_n i75_34.2) rfl rfl ?_
      refine V_gf (c := cI) i75_35.1 (mM_n i75_35.2) (v := .ref 7) g75_26 rfl ?_
      refine V_aload_n (c := cI) i75_38.1 (mM_n i75_38.2) rfl rfl ?_
      refine V_gf (c := cI) i75_39.1 (mM_n i75_39.2) (v := .ref 3) g75_19 rfl ?_
      refine V_cvU (c := cI) (As := [.ref 3]) (rest := []) i75_42.1 (mM_n i75_42.2) c75_102 rfl rfl rfl rfl (Nat.le_of_ble_eq_true rfl) rfl (fun S11 => ?_)
      refine V_aload_n (c := cI) i75_45.1 (mM_n i75_45.2) rfl rfl ?_
      refine V_gf (c := cI) i75_46.1 (mM_n i75_46.2) (v := .ref 14) g75_33 rfl ?_
      refine V_cvU (c := cI) (As := []) (rest := []) i75_49.1 (mM_n i75_49.2) c75_106 rfl (cl_sh (isT_o isT_14)) rfl rfl (Nat.le_of_ble_eq_true rfl) rfl (fun S12 => ?_)
      refine V_aload_n (c := cI) i75_52.1 (mM_n i75_52.2) rfl rfl ?_
      refine V_gf (c := cI) i75_53.1 (mM_n i75_53.2) (v := .ref 1) g75_12 rfl ?_
      refine V_iconst (c := cI) i75_56.1 (mM_n i75_56.2) (v := 0) rfl ?_
      refine V_pf (c := cI) i75_57.1 (mM_n i75_57.2) p75_83 (pf_i rfl rfl rfl) ?_
      refine V_aload_n (c := cI) i75_60.1 (mM_n i75_60.2) rfl rfl ?_
      refine V_iconst (c := cI) i75_61.1 (mM_n i75_61.2) (v := 1) rfl ?_
      refine V_pf (c := cI) i75_62.1 (mM_n i75_62.2) p75_65 (pf_z rfl rfl rfl (by decide)) ?_
      refine V_aload_n (c := cI) i75_65.1 (mM_n i75_65.2) rfl rfl ?_
      refine V_iconst (c := cI) i75_66.1 (mM_n i75_66.2) (v := 0) rfl ?_
      refine V_pf (c := cI) i75_67.1 (mM_n i75_67.2) p75_69 (pf_z rfl rfl rfl (by decide)) ?_
      refine V_aload_n (c := cI) i75_70.1 (mM_n i75_70.2) rfl rfl ?_
      refine V_dup (c := cI) i75_71.1 (mM_n i75_71.2) rfl ?_
      refine V_gf (c := cI) i75_72.1 (mM_n i75_72.2) (v := .int (S12.1 0 10)) g75_72 rfl ?_
      refine V_iconst (c := cI) i75_75.1 (mM_n i75_75.2) (v := 1) rfl ?_
      refine V_iadd (c := cI) i75_76.1 (mM_n i75_76.2)  ?_
      refine V_pf (c := cI) i75_77.1 (mM_n i75_77.2) p75_72 (pf_i rfl rfl rfl) ?_
      refine V_aload_n (c := cI) i75_80.1 (mM_n i75_80.2) rfl rfl ?_
      refine V_gf (c := cI) i75_81.1 (mM_n i75_81.2) (v := .ref 7) g75_26 rfl ?_
      refine V_gf (c := cI) i75_84.1 (mM_n i75_84.2) (v := .int (S12.1 7 3)) g75_109 rfl ?_
      exact V_iret i75_87.1 (mM_n i75_87.2) rfl
theorem k_Top_net_31_eq   {S : Mem} : k_Top_net_31  S = some ((-103), S) := by
  show cI (mV oS X0 75 31 [none] [] S) = _
  refine V_bipush (c := cI) i75_31.1 (mM_s i75_31.2 rfl) (v := (-103)) rfl ?_
  exact V_iret i75_33.1 (mM_n i75_33.2) rfl
theorem f_Top_lane_eq {x1 : Int32} {x2 : Int32}  {S : Mem} : f_Top_lane x1 x2 S = if x1 < 0 then k_Top_lane_15 S else if x1 < (S.1 7 3) then if x2 = 0 then if inb x1 12 = true then some ((S.1 8 (x1.toNatClampNeg)), S) else none else if x2 = 1 then if inb x1 12 = true then some ((S.1 9 (x1.toNatClampNeg)), S) else none else if x2 = 2 then if inb x1 12 = true then if (S.1 10 (x1.toNatClampNeg)) = 0 then k_Top_lane_81 0 S else k_Top_lane_81 1 S else none else some ((-102), S) else k_Top_lane_15 S := by
  show cI (mV oS X0 76 0 [some (.ref 0), some (.int x1), some (.int x2)] [] S) = _
  refine V_iload_n (c := cI) i76_0.1 (mM_n i76_0.2) rfl ?_
  refine V_if_lt (c := cI) i76_1.1 (mM_n i76_1.2) rfl (fun _ => ?_) (fun _ => ?_)
  · exact V_msk (l1 := [none, none, none]) i76_15.2 rfl rfl
  · refine V_iload_n (c := cI) i76_4.1 (mM_n i76_4.2) rfl ?_
    refine V_aload_n (c := cI) i76_5.1 (mM_n i76_5.2) rfl rfl ?_
    refine V_gf (c := cI) i76_6.1 (mM_n i76_6.2) (v := .ref 7) g76_26 rfl ?_
    refine V_gf (c := cI) i76_9.1 (mM_n i76_9.2) (v := .int (S.1 7 3)) g76_109 rfl ?_
    refine V_icmp_lt (c := cI) i76_12.1 (mM_n i76_12.2) rfl (fun _ => ?_) (fun _ => ?_)
    · refine V_iload_n (c := cI) i76_18.1 (mM_n i76_18.2) rfl ?_
      refine V_ite (fun hc0 => ?_) (fun hc0 => ?_)
      · refine V_sw (c := cI) i76_19.1 (mM_n i76_19.2) (o := 25) (by rw [hc0]; rfl) rfl ?_
        refine V_aload_n (c := cI) i76_44.1 (mM_n i76_44.2) rfl rfl ?_
        refine V_gf (c := cI) i76_45.1 (mM_n i76_45.2) (v := .ref 7) g76_26 rfl ?_
        refine V_gf (c := cI) i76_48.1 (mM_n i76_48.2) (v := .ref 8) g76_112 rfl ?_
        refine V_iload_n (c := cI) i76_51.1 (mM_n i76_51.2) rfl ?_
        refine V_iaload (c := cI) i76_52.1 (mM_n i76_52.2) rfl rfl (fun _ => ?_)
        exact V_iret i76_53.1 (mM_n i76_53.2) rfl
      ·
        refine V_ite (fun hc1 => ?_) (fun hc1 => ?_)
        · refine V_sw (c := cI) i76_19.1 (mM_n i76_19.2) (o := 35) (by rw [hc1]; rfl) rfl ?_
          refine V_aload_n (c := cI) i76_54.1 (mM_n i76_54.2) rfl rfl ?_
          refine V_gf (c := cI) i76_55.1 (mM_n i76_55.2) (v := .ref 7) g76_26 rfl ?_
          refine V_gf (c := cI) i76_58.1 (mM_n i76_58.2) (v := .ref 9) g76_116 rfl ?_
          refine V_iload_n (c := cI) i76_61.1 (mM_n i76_61.2) rfl ?_
          refine V_iaload (c := cI) i76_62.1 (mM_n i76_62.2) rfl rfl (fun _ => ?_)
          exact V_iret i76_63.1 (mM_n i76_63.2) rfl
        ·
          refine V_ite (fun hc2 => ?_) (fun hc2 => ?_)
          · refine V_sw (c := cI) i76_19.1 (mM_n i76_19.2) (o := 45) (by rw [hc2]; rfl) rfl ?_
            refine V_aload_n (c := cI) i76_64.1 (mM_n i76_64.2) rfl rfl ?_
            refine V_gf (c := cI) i76_65.1 (mM_n i76_65.2) (v := .ref 7) g76_26 rfl ?_
            refine V_gf (c := cI) i76_68.1 (mM_n i76_68.2) (v := .ref 10) g76_119 rfl ?_
            refine V_iload_n (c := cI) i76_71.1 (mM_n i76_71.2) rfl ?_
            refine V_baload (c := cI) i76_72.1 (mM_n i76_72.2) rfl rfl rfl (fun _ => ?_)
            refine V_if_eq (c := cI) i76_73.1 (mM_n i76_73.2) rfl (fun _ => ?_) (fun _ => ?_)
            · refine V_iconst (c := cI) i76_80.1 (mM_n i76_80.2) (v := 0) rfl ?_
              exact V_msk (l1 := [none, none, none]) i76_81.2 rfl rfl
            · refine V_iconst (c := cI) i76_76.1 (mM_n i76_76.2) (v := 1) rfl ?_
              refine V_goto (c := cI) i76_77.1 (mM_n i76_77.2) rfl ?_
              exact V_msk (l1 := [none, none, none]) i76_81.2 rfl rfl
          ·
            refine V_sw (c := cI) i76_19.1 (mM_n i76_19.2) (sw_o (n := 3) (by decide) (lt_s (lt_s (lt_s lt_0 hc0) hc1) hc2)) rfl ?_
            refine V_bipush (c := cI) i76_82.1 (mM_n i76_82.2) (v := (-102)) rfl ?_
            exact V_iret i76_84.1 (mM_n i76_84.2) rfl
    · exact V_msk (l1 := [none, none, none]) i76_15.2 rfl rfl
theorem k_Top_lane_15_eq   {S : Mem} : k_Top_lane_15  S = some ((-101), S) := by
  show cI (mV oS X0 76 15 [none, none, none] [] S) = _
  refine V_bipush (c := cI) i76_15.1 (mM_s i76_15.2 rfl) (v := (-101)) rfl ?_
  exact V_iret i76_17.1 (mM_n i76_17.2) rfl
theorem k_Top_lane_81_eq {xs0 : Int32}  {S : Mem} : k_Top_lane_81 xs0 S = some (xs0, S) := by
  show cI (mV oS X0 76 81 [none, none, none] [.int xs0] S) = _
  exact V_iret i76_81.1 (mM_s i76_81.2 rfl) rfl
theorem f_Top_walker_eq {x1 : Int32} {x2 : Int32} {x3 : Int32} {x4 : Int32}  {S : Mem} : f_Top_walker x1 x2 x3 x4 S = bI (f_Top_isCorner x2 S) (fun r12 S11 => if r12 = 0 then k_Top_walker_14 S11 else bI (f_Top_isCorner x3 S11) (fun r14 S13 => if r14 = 0 then k_Top_walker_14 S13 else bI (f_Top_isKind x1 S13) (fun r16 S15 => if r16 = 0 then k_Top_walker_32 S15 else bI (f_Top_isLoad x4 S15) (fun r18 S17 => if r18 = 0 then k_Top_walker_32 S17 else if (S17.1 0 8) = 0 then some ((-103), S17) else bI (f_Town_add 14 x1 x2 x3 x4 S17) (fun r20 S19 => if r20 = 0 then k_Top_walker_74 (-104) S19 else k_Top_walker_74 ((S19.1 14 1) - 1) S19))))) := by
  show cI (mV oS X0 77 0 [some (.ref 0), some (.int x1), some (.int x2), some (.int x3), some (.int x4)] [] S) = _
  refine V_iload_n (c := cI) i77_0.1 (mM_n i77_0.2) rfl ?_
  refine V_ciI (c := cI) (As := [.int x2]) (rest := []) i77_1.1 (mM_n i77_1.2) c77_123 rfl rfl rfl (Nat.le_of_ble_eq_true rfl) rfl (fun r12 S11 => ?_)
  refine V_if_eq (c := cI) i77_4.1 (mM_n i77_4.2) rfl (fun _ => ?_) (fun _ => ?_)
  · exact V_msk (l1 := [none, none, none, none, none]) i77_14.2 rfl rfl
  · refine V_iload_n (c := cI) i77_7.1 (mM_n i77_7.2) rfl ?_
    refine V_ciI (c := cI) (As := [.int x3]) (rest := []) i77_8.1 (mM_n i77_8.2) c77_123 rfl rfl rfl (Nat.le_of_ble_eq_true rfl) rfl (fun r14 S13 => ?_)
    refine V_if_ne (c := cI) i77_11.1 (mM_n i77_11.2) rfl (fun _ => ?_) (fun _ => ?_)
    · exact V_msk (l1 := [none, none, none, none, none]) i77_14.2 rfl rfl
    · refine V_iload_n (c := cI) i77_17.1 (mM_n i77_17.2) rfl ?_
      refine V_ciI (c := cI) (As := [.int x1]) (rest := []) i77_18.1 (mM_n i77_18.2) c77_127 rfl rfl rfl (Nat.le_of_ble_eq_true rfl) rfl (fun r16 S15 => ?_)
      refine V_if_eq (c := cI) i77_21.1 (mM_n i77_21.2) rfl (fun _ => ?_) (fun _ => ?_)
      · exact V_msk (l1 := [none, none, none, none, none]) i77_32.2 rfl rfl
      · refine V_iload (c := cI) i77_24.1 (mM_n i77_24.2) rfl ?_
        refine V_ciI (c := cI) (As := [.int x4]) (rest := []) i77_26.1 (mM_n i77_26.2) c77_130 rfl rfl rfl (Nat.le_of_ble_eq_true rfl) rfl (fun r18 S17 => ?_)
        refine V_if_ne (c := cI) i77_29.1 (mM_n i77_29.2) rfl (fun _ => ?_) (fun _ => ?_)
        · exact V_msk (l1 := [none, none, none, none, none]) i77_32.2 rfl rfl
        · refine V_aload_n (c := cI) i77_35.1 (mM_n i77_35.2) rfl rfl ?_
          refine V_gf (c := cI) i77_36.1 (mM_n i77_36.2) (v := .int (S17.1 0 8)) g77_65 rfl ?_
          refine V_if_ne (c := cI) i77_39.1 (mM_n i77_39.2) rfl (fun _ => ?_) (fun _ => ?_)
          · refine V_bipush (c := cI) i77_42.1 (mM_n i77_42.2) (v := (-103)) rfl ?_
            exact V_iret i77_44.1 (mM_n i77_44.2) rfl
          · refine V_aload_n (c := cI) i77_45.1 (mM_n i77_45.2) rfl rfl ?_
            refine V_gf (c := cI) i77_46.1 (mM_n i77_46.2) (v := .ref 14) g77_33 rfl ?_
            refine V_iload_n (c := cI) i77_49.1 (mM_n i77_49.2) rfl ?_
            refine V_iload_n (c := cI) i77_50.1 (mM_n i77_50.2) rfl ?_
            refine V_iload_n (c := cI) i77_51.1 (mM_n i77_51.2) rfl ?_
            refine V_iload (c := cI) i77_52.1 (mM_n i77_52.2) rfl ?_
            refine V_cvI (c := cI) (As := [.int x1, .int x2, .int x3, .int x4]) (rest := []) i77_54.1 (mM_n i77_54.2) c77_133 rfl (cl_sh (isT_o isT_14)) rfl rfl (Nat.le_of_ble_eq_true rfl) rfl (fun r20 S19 => ?_)
            refine V_if_eq (c := cI) i77_57.1 (mM_n i77_57.2) rfl (fun _ => ?_) (fun _ => ?_)
            · refine V_bipush (c := cI) i77_72.1 (mM_n i77_72.2) (v := (-104)) rfl ?_
              exact V_msk (l1 := [none, none, none, none, none]) i77_74.2 rfl rfl
            · refine V_aload_n (c := cI) i77_60.1 (mM_n i77_60.2) rfl rfl ?_
              refine V_gf (c := cI) i77_61.1 (mM_n i77_61.2) (v := .ref 14) g77_33 rfl ?_
              refine V_gf (c := cI) i77_64.1 (mM_n i77_64.2) (v := .int (S19.1 14 1)) g77_137 (gf_i (isT_o isT_14) rfl) ?_
              refine V_iconst (c := cI) i77_67.1 (mM_n i77_67.2) (v := 1) rfl ?_
              refine V_isub (c := cI) i77_68.1 (mM_n i77_68.2)  ?_
              refine V_goto (c := cI) i77_69.1 (mM_n i77_69.2) rfl ?_
              exact V_msk (l1 := [none, none, none, none, none]) i77_74.2 rfl rfl
theorem k_Top_walker_14_eq   {S : Mem} : k_Top_walker_14  S = some ((-101), S) := by
  show cI (mV oS X0 77 14 [none, none, none, none, none] [] S) = _
  refine V_bipush (c := cI) i77_14.1 (mM_s i77_14.2 rfl) (v := (-101)) rfl ?_
  exact V_iret i77_16.1 (mM_n i77_16.2) rfl
theorem k_Top_walker_32_eq   {S : Mem} : k_Top_walker_32  S = some ((-102), S) := by
  show cI (mV oS X0 77 32 [none, none, none, none, none] [] S) = _
  refine V_bipush (c := cI) i77_32.1 (mM_s i77_32.2 rfl) (v := (-102)) rfl ?_
  exact V_iret i77_34.1 (mM_n i77_34.2) rfl
theorem k_Top_walker_74_eq {xs0 : Int32}  {S : Mem} : k_Top_walker_74 xs0 S = some (xs0, S) := by
  show cI (mV oS X0 77 74 [none, none, none, none, none] [.int xs0] S) = _
  exact V_iret i77_74.1 (mM_s i77_74.2 rfl) rfl
theorem f_Top_about_eq {x1 : Int32} {x2 : Int32}  {S : Mem} : f_Top_about x1 x2 S = bA (f_Town_at 14 x1 S) (fun r9 S8 => oc r9 (k_Top_about_13 S8) (fun w10 => k_Top_about_16 x2 w10 S8)) := by
  show cI (mV oS X0 78 0 [some (.ref 0), some (.int x1), some (.int x2), none] [] S) = _
  refine V_aload_n (c := cI) i78_0.1 (mM_n i78_0.2) rfl rfl ?_
  refine V_gf (c := cI) i78_1.1 (mM_n i78_1.2) (v := .ref 14) g78_33 rfl ?_
  refine V_iload_n (c := cI) i78_4.1 (mM_n i78_4.2) rfl ?_
  refine V_cvA (c := cI) (As := [.int x1]) (rest := []) i78_5.1 (mM_n i78_5.2) c78_140 rfl (cl_sh (isT_o isT_14)) rfl rfl (Nat.le_of_ble_eq_true rfl) rfl (fun r9 S8 => ?_)
  refine V_astore_n (c := cI) i78_8.1 (mM_n i78_8.2) (l1 := [some (.ref 0), some (.int x1), some (.int x2), some (va_rf r9)])  (isA_rf _) (Nat.le_of_ble_eq_true rfl) rfl ?_
  refine V_aload_n (c := cI) i78_9.1 (mM_n i78_9.2) rfl (isA_rf _) ?_
  cases r9 with
  | none =>
    refine V_ifnonnullN (c := cI) i78_10.1 (mM_n i78_10.2) rfl ?_
    exact V_msk (l1 := [none, none, none, none]) i78_13.2 rfl rfl
  | some w10 =>
    refine V_ifnonnullR (c := cI) i78_10.1 (mM_n i78_10.2) rfl ?_
    exact V_msk (l1 := [none, none, some (.int x2), some (.ref w10)]) i78_16.2 rfl rfl
theorem k_Top_about_13_eq   {S : Mem} : k_Top_about_13  S = some ((-101), S) := by
  show cI (mV oS X0 78 13 [none, none, none, none] [] S) = _
  refine V_bipush (c := cI) i78_13.1 (mM_s i78_13.2 rfl) (v := (-101)) rfl ?_
  exact V_iret i78_15.1 (mM_n i78_15.2) rfl
theorem k_Top_about_16_eq {x2 : Int32} {w3 : Nat} (h_w3 : isW w3) {S : Mem} : k_Top_about_16 x2 w3 S = if x2 = 0 then some ((S.1 w3 0), S) else if x2 = 1 then some ((S.1 w3 1), S) else if x2 = 2 then some ((S.1 w3 2), S) else if x2 = 3 then some ((S.1 w3 3), S) else if x2 = 4 then bI (f_Walker_carriesWith w3 (S.1 w3 3) S) (fun r12 S11 => some (r12, S11)) else if x2 = 5 then some (((S.1 w3 5) - (S.1 w3 6)), S) else if x2 = 6 then bI (f_Walker_cornerBehind w3 (S.1 w3 6) S) (fun r14 S13 => some (r14, S13)) else some ((-102), S) := by
  show cI (mV oS X0 78 16 [none, none, some (.int x2), some (.ref w3)] [] S) = _
  refine V_iload_n (c := cI) i78_16.1 (mM_s i78_16.2 rfl) rfl ?_
  refine V_ite (fun hc0 => ?_) (fun hc0 => ?_)
  · refine V_sw (c := cI) i78_17.1 (mM_n i78_17.2) (o := 43) (by rw [hc0]; rfl) rfl ?_
    refine V_aload_n (c := cI) i78_60.1 (mM_n i78_60.2) rfl rfl ?_
    refine V_gf (c := cI) i78_61.1 (mM_n i78_61.2) (v := .int (S.1 w3 0)) g78_144 (gf_i (isW_o h_w3) rfl) ?_
    exact V_iret i78_64.1 (mM_n i78_64.2) rfl
  ·
    refine V_ite (fun hc1 => ?_) (fun hc1 => ?_)
    · refine V_sw (c := cI) i78_17.1 (mM_n i78_17.2) (o := 48) (by rw [hc1]; rfl) rfl ?_
      refine V_aload_n (c := cI) i78_65.1 (mM_n i78_65.2) rfl rfl ?_
      refine V_gf (c := cI) i78_66.1 (mM_n i78_66.2) (v := .int (S.1 w3 1)) g78_149 (gf_i (isW_o h_w3) rfl) ?_
      exact V_iret i78_69.1 (mM_n i78_69.2) rfl
    ·
      refine V_ite (fun hc2 => ?_) (fun hc2 => ?_)
      · refine V_sw (c := cI) i78_17.1 (mM_n i78_17.2) (o := 53) (by rw [hc2]; rfl) rfl ?_
        refine V_aload_n (c := cI) i78_70.1 (mM_n i78_70.2) rfl rfl ?_
        refine V_gf (c := cI) i78_71.1 (mM_n i78_71.2) (v := .int (S.1 w3 2)) g78_152 (gf_i (isW_o h_w3) rfl) ?_
        exact V_iret i78_74.1 (mM_n i78_74.2) rfl
      ·
        refine V_ite (fun hc3 => ?_) (fun hc3 => ?_)
        · refine V_sw (c := cI) i78_17.1 (mM_n i78_17.2) (o := 58) (by rw [hc3]; rfl) rfl ?_
          refine V_aload_n (c := cI) i78_75.1 (mM_n i78_75.2) rfl rfl ?_
          refine V_gf (c := cI) i78_76.1 (mM_n i78_76.2) (v := .int (S.1 w3 3)) g78_155 (gf_i (isW_o h_w3) rfl) ?_
          exact V_iret i78_79.1 (mM_n i78_79.2) rfl
        ·
          refine V_ite (fun hc4 => ?_) (fun hc4 => ?_)
          · refine V_sw (c := cI) i78_17.1 (mM_n i78_17.2) (o := 63) (by rw [hc4]; rfl) rfl ?_
            refine V_aload_n (c := cI) i78_80.1 (mM_n i78_80.2) rfl rfl ?_
            refine V_aload_n (c := cI) i78_81.1 (mM_n i78_81.2) rfl rfl ?_
            refine V_gf (c := cI) i78_82.1 (mM_n i78_82.2) (v := .int (S.1 w3 3)) g78_155 (gf_i (isW_o h_w3) rfl) ?_
            refine V_cvI (c := cI) (As := [.int (S.1 w3 3)]) (rest := []) i78_85.1 (mM_n i78_85.2) c78_158 rfl (cl_sh (isW_o h_w3)) rfl rfl (Nat.le_of_ble_eq_true rfl) rfl (fun r12 S11 => ?_)
            exact V_iret i78_88.1 (mM_n i78_88.2) rfl
          ·
            refine V_ite (fun hc5 => ?_) (fun hc5 => ?_)
            · refine V_sw (c := cI) i78_17.1 (mM_n i78_17.2) (o := 72) (by rw [hc5]; rfl) rfl ?_
              refine V_aload_n (c := cI) i78_89.1 (mM_n i78_89.2) rfl rfl ?_
              refine V_gf (c := cI) i78_90.1 (mM_n i78_90.2) (v := .int (S.1 w3 5)) g78_162 (gf_i (isW_o h_w3) rfl) ?_
              refine V_aload_n (c := cI) i78_93.1 (mM_n i78_93.2) rfl rfl ?_
              refine V_gf (c := cI) i78_94.1 (mM_n i78_94.2) (v := .int (S.1 w3 6)) g78_165 (gf_i (isW_o h_w3) rfl) ?_
              refine V_isub (c := cI) i78_97.1 (mM_n i78_97.2)  ?_
              exact V_iret i78_98.1 (mM_n i78_98.2) rfl
            ·
              refine V_ite (fun hc6 => ?_) (fun hc6 => ?_)
              · refine V_sw (c := cI) i78_17.1 (mM_n i78_17.2) (o := 82) (by rw [hc6]; rfl) rfl ?_
                refine V_aload_n (c := cI) i78_99.1 (mM_n i78_99.2) rfl rfl ?_
                refine V_aload_n (c := cI) i78_100.1 (mM_n i78_100.2) rfl rfl ?_
                refine V_gf (c := cI) i78_101.1 (mM_n i78_101.2) (v := .int (S.1 w3 6)) g78_165 (gf_i (isW_o h_w3) rfl) ?_
                refine V_cvI (c := cI) (As := [.int (S.1 w3 6)]) (rest := []) i78_104.1 (mM_n i78_104.2) c78_168 rfl (cl_sh (isW_o h_w3)) rfl rfl (Nat.le_of_ble_eq_true rfl) rfl (fun r14 S13 => ?_)
                exact V_iret i78_107.1 (mM_n i78_107.2) rfl
              ·
                refine V_sw (c := cI) i78_17.1 (mM_n i78_17.2) (sw_o (n := 7) (by decide) (lt_s (lt_s (lt_s (lt_s (lt_s (lt_s (lt_s lt_0 hc0) hc1) hc2) hc3) hc4) hc5) hc6)) rfl ?_
                refine V_bipush (c := cI) i78_108.1 (mM_n i78_108.2) (v := (-102)) rfl ?_
                exact V_iret i78_110.1 (mM_n i78_110.2) rfl
theorem f_Top_as_eq {x1 : Int32} {x2 : Int32}  {S : Mem} : f_Top_as x1 x2 S = bA (f_Town_at 14 x1 S) (fun r9 S8 => oc r9 (k_Top_as_13 S8) (fun w10 => k_Top_as_16 x1 x2 w10 S8)) := by
  show cI (mV oS X0 79 0 [some (.ref 0), some (.int x1), some (.int x2), none] [] S) = _
  refine V_aload_n (c := cI) i79_0.1 (mM_n i79_0.2) rfl rfl ?_
  refine V_gf (c := cI) i79_1.1 (mM_n i79_1.2) (v := .ref 14) g79_33 rfl ?_
  refine V_iload_n (c := cI) i79_4.1 (mM_n i79_4.2) rfl ?_
  refine V_cvA (c := cI) (As := [.int x1]) (rest := []) i79_5.1 (mM_n i79_5.2) c79_140 rfl (cl_sh (isT_o isT_14)) rfl rfl (Nat.le_of_ble_eq_true rfl) rfl (fun r9 S8 => ?_)
  refine V_astore_n (c := cI) i79_8.1 (mM_n i79_8.2) (l1 := [some (.ref 0), some (.int x1), some (.int x2), some (va_rf r9)])  (isA_rf _) (Nat.le_of_ble_eq_true rfl) rfl ?_
  refine V_aload_n (c := cI) i79_9.1 (mM_n i79_9.2) rfl (isA_rf _) ?_
  cases r9 with
  | none =>
    refine V_ifnonnullN (c := cI) i79_10.1 (mM_n i79_10.2) rfl ?_
    exact V_msk (l1 := [none, none, none, none]) i79_13.2 rfl rfl
  | some w10 =>
    refine V_ifnonnullR (c := cI) i79_10.1 (mM_n i79_10.2) rfl ?_
    exact V_msk (l1 := [none, some (.int x1), some (.int x2), some (.ref w10)]) i79_16.2 rfl rfl
theorem k_Top_as_13_eq   {S : Mem} : k_Top_as_13  S = some ((-101), S) := by
  show cI (mV oS X0 79 13 [none, none, none, none] [] S) = _
  refine V_bipush (c := cI) i79_13.1 (mM_s i79_13.2 rfl) (v := (-101)) rfl ?_
  exact V_iret i79_15.1 (mM_n i79_15.2) rfl
theorem k_Top_as_16_eq {x1 : Int32} {x2 : Int32} {w3 : Nat} (h_w3 : isW w3) {S : Mem} : k_Top_as_16 x1 x2 w3 S = bI (f_Top_isKind x2 S) (fun r12 S11 => if r12 = 0 then some ((-102), S11) else bI (f_Walker_isA w3 x2 S11) (fun r14 S13 => if r14 = 0 then k_Top_as_39 (-1) S13 else k_Top_as_39 x1 S13)) := by
  show cI (mV oS X0 79 16 [none, some (.int x1), some (.int x2), some (.ref w3)] [] S) = _
  refine V_iload_n (c := cI) i79_16.1 (mM_s i79_16.2 rfl) rfl ?_
  refine V_ciI (c := cI) (As := [.int x2]) (rest := []) i79_17.1 (mM_n i79_17.2) c79_127 rfl rfl rfl (Nat.le_of_ble_eq_true rfl) rfl (fun r12 S11 => ?_)
  refine V_if_ne (c := cI) i79_20.1 (mM_n i79_20.2) rfl (fun _ => ?_) (fun _ => ?_)
  · refine V_bipush (c := cI) i79_23.1 (mM_n i79_23.2) (v := (-102)) rfl ?_
    exact V_iret i79_25.1 (mM_n i79_25.2) rfl
  · refine V_aload_n (c := cI) i79_26.1 (mM_n i79_26.2) rfl rfl ?_
    refine V_iload_n (c := cI) i79_27.1 (mM_n i79_27.2) rfl ?_
    refine V_cvI (c := cI) (As := [.int x2]) (rest := []) i79_28.1 (mM_n i79_28.2) c79_171 rfl (cl_sh (isW_o h_w3)) rfl rfl (Nat.le_of_ble_eq_true rfl) rfl (fun r14 S13 => ?_)
    refine V_if_eq (c := cI) i79_31.1 (mM_n i79_31.2) rfl (fun _ => ?_) (fun _ => ?_)
    · refine V_iconst (c := cI) i79_38.1 (mM_n i79_38.2) (v := (-1)) rfl ?_
      exact V_msk (l1 := [none, none, none, none]) i79_39.2 rfl rfl
    · refine V_iload_n (c := cI) i79_34.1 (mM_n i79_34.2) rfl ?_
      refine V_goto (c := cI) i79_35.1 (mM_n i79_35.2) rfl ?_
      exact V_msk (l1 := [none, none, none, none]) i79_39.2 rfl rfl
theorem k_Top_as_39_eq {xs0 : Int32}  {S : Mem} : k_Top_as_39 xs0 S = some (xs0, S) := by
  show cI (mV oS X0 79 39 [none, none, none, none] [.int xs0] S) = _
  exact V_iret i79_39.1 (mM_s i79_39.2 rfl) rfl
theorem f_Top_way_eq {x1 : Int32}  {S : Mem} : f_Top_way x1 S = bA (f_Town_at 14 x1 S) (fun r10 S9 => oc r10 (k_Top_way_13 S9) (fun w11 => k_Top_way_16 w11 S9)) := by
  show cI (mV oS X0 80 0 [some (.ref 0), some (.int x1), none] [] S) = _
  refine V_aload_n (c := cI) i80_0.1 (mM_n i80_0.2) rfl rfl ?_
  refine V_gf (c := cI) i80_1.1 (mM_n i80_1.2) (v := .ref 14) g80_33 rfl ?_
  refine V_iload_n (c := cI) i80_4.1 (mM_n i80_4.2) rfl ?_
  refine V_cvA (c := cI) (As := [.int x1]) (rest := []) i80_5.1 (mM_n i80_5.2) c80_140 rfl (cl_sh (isT_o isT_14)) rfl rfl (Nat.le_of_ble_eq_true rfl) rfl (fun r10 S9 => ?_)
  refine V_astore_n (c := cI) i80_8.1 (mM_n i80_8.2) (l1 := [some (.ref 0), some (.int x1), some (va_rf r10)])  (isA_rf _) (Nat.le_of_ble_eq_true rfl) rfl ?_
  refine V_aload_n (c := cI) i80_9.1 (mM_n i80_9.2) rfl (isA_rf _) ?_
  cases r10 with
  | none =>
    refine V_ifnonnullN (c := cI) i80_10.1 (mM_n i80_10.2) rfl ?_
    exact V_msk (l1 := [none, none, none]) i80_13.2 rfl rfl
  | some w11 =>
    refine V_ifnonnullR (c := cI) i80_10.1 (mM_n i80_10.2) rfl ?_
    exact V_msk (l1 := [some (.ref 0), none, some (.ref w11)]) i80_16.2 rfl rfl
theorem k_Top_way_13_eq   {S : Mem} : k_Top_way_13  S = some ((-101), S) := by
  show cI (mV oS X0 80 13 [none, none, none] [] S) = _
  refine V_bipush (c := cI) i80_13.1 (mM_s i80_13.2 rfl) (v := (-101)) rfl ?_
  exact V_iret i80_15.1 (mM_n i80_15.2) rfl
theorem k_Top_way_16_eq {w2 : Nat} (h_w2 : isW w2) {S : Mem} : k_Top_way_16 w2 S = if (S.1 1 1) = 0 then k_Top_way_54 S else bI (f_Page_digitsOfWay S) (fun r13 S12 => if r13 < (S12.1 1 1) then k_Top_way_54 S12 else bI (f_Top_leadsOn (S12.1 w2 1) S12) (fun r15 S14 => if r15 = 0 then k_Top_way_54 S14 else bU (f_Walker_readWay w2 S14) (fun S16 => some (((u1 S16 1 1 0).1 w2 5), u1 S16 1 1 0)))) := by
  show cI (mV oS X0 80 16 [some (.ref 0), none, some (.ref w2)] [] S) = _
  refine V_aload_n (c := cI) i80_16.1 (mM_s i80_16.2 rfl) rfl rfl ?_
  refine V_gf (c := cI) i80_17.1 (mM_n i80_17.2) (v := .ref 1) g80_12 rfl ?_
  refine V_gf (c := cI) i80_20.1 (mM_n i80_20.2) (v := .int (S.1 1 1)) g80_83 rfl ?_
  refine V_if_eq (c := cI) i80_23.1 (mM_n i80_23.2) rfl (fun _ => ?_) (fun _ => ?_)
  · exact V_msk (l1 := [none, none, none]) i80_54.2 rfl rfl
  · refine V_aload_n (c := cI) i80_26.1 (mM_n i80_26.2) rfl rfl ?_
    refine V_gf (c := cI) i80_27.1 (mM_n i80_27.2) (v := .ref 1) g80_12 rfl ?_
    refine V_cvI (c := cI) (As := []) (rest := []) i80_30.1 (mM_n i80_30.2) c80_94 rfl rfl rfl rfl (Nat.le_of_ble_eq_true rfl) rfl (fun r13 S12 => ?_)
    refine V_aload_n (c := cI) i80_33.1 (mM_n i80_33.2) rfl rfl ?_
    refine V_gf (c := cI) i80_34.1 (mM_n i80_34.2) (v := .ref 1) g80_12 rfl ?_
    refine V_gf (c := cI) i80_37.1 (mM_n i80_37.2) (v := .int (S12.1 1 1)) g80_83 rfl ?_
    refine V_icmp_lt (c := cI) i80_40.1 (mM_n i80_40.2) rfl (fun _ => ?_) (fun _ => ?_)
    · exact V_msk (l1 := [none, none, none]) i80_54.2 rfl rfl
    · refine V_aload_n (c := cI) i80_43.1 (mM_n i80_43.2) rfl rfl ?_
      refine V_aload_n (c := cI) i80_44.1 (mM_n i80_44.2) rfl rfl ?_
      refine V_gf (c := cI) i80_45.1 (mM_n i80_45.2) (v := .int (S12.1 w2 1)) g80_149 (gf_i (isW_o h_w2) rfl) ?_
      refine V_cvI (c := cI) (As := [.int (S12.1 w2 1)]) (rest := []) i80_48.1 (mM_n i80_48.2) c80_174 rfl rfl rfl rfl (Nat.le_of_ble_eq_true rfl) rfl (fun r15 S14 => ?_)
      refine V_if_ne (c := cI) i80_51.1 (mM_n i80_51.2) rfl (fun _ => ?_) (fun _ => ?_)
      · exact V_msk (l1 := [none, none, none]) i80_54.2 rfl rfl
      · refine V_aload_n (c := cI) i80_57.1 (mM_n i80_57.2) rfl rfl ?_
        refine V_aload_n (c := cI) i80_58.1 (mM_n i80_58.2) rfl rfl ?_
        refine V_gf (c := cI) i80_59.1 (mM_n i80_59.2) (v := .ref 1) g80_12 rfl ?_
        refine V_cvU (c := cI) (As := [.ref 1]) (rest := []) i80_62.1 (mM_n i80_62.2) c80_177 rfl (cl_sh (isW_o h_w2)) rfl rfl (Nat.le_of_ble_eq_true rfl) rfl (fun S16 => ?_)
        refine V_aload_n (c := cI) i80_65.1 (mM_n i80_65.2) rfl rfl ?_
        refine V_gf (c := cI) i80_66.1 (mM_n i80_66.2) (v := .ref 1) g80_12 rfl ?_
        refine V_iconst (c := cI) i80_69.1 (mM_n i80_69.2) (v := 0) rfl ?_
        refine V_pf (c := cI) i80_70.1 (mM_n i80_70.2) p80_83 (pf_i rfl rfl rfl) ?_
        refine V_aload_n (c := cI) i80_73.1 (mM_n i80_73.2) rfl rfl ?_
        refine V_gf (c := cI) i80_74.1 (mM_n i80_74.2) (v := .int ((u1 S16 1 1 0).1 w2 5)) g80_162 (gf_i (isW_o h_w2) rfl) ?_
        exact V_iret i80_77.1 (mM_n i80_77.2) rfl
theorem k_Top_way_54_eq   {S : Mem} : k_Top_way_54  S = some ((-103), S) := by
  show cI (mV oS X0 80 54 [none, none, none] [] S) = _
  refine V_bipush (c := cI) i80_54.1 (mM_s i80_54.2 rfl) (v := (-103)) rfl ?_
  exact V_iret i80_56.1 (mM_n i80_56.2) rfl
theorem f_Top_load_eq {x1 : Int32} {x2 : Int32}  {S : Mem} : f_Top_load x1 x2 S = bA (f_Town_at 14 x1 S) (fun r7 S6 => oc r7 (k_Top_load_13 S6) (fun w8 => k_Top_load_16 x2 w8 S6)) := by
  show cI (mV oS X0 81 0 [some (.ref 0), some (.int x1), some (.int x2), none, none] [] S) = _
  refine V_aload_n (c := cI) i81_0.1 (mM_n i81_0.2) rfl rfl ?_
  refine V_gf (c := cI) i81_1.1 (mM_n i81_1.2) (v := .ref 14) g81_33 rfl ?_
  refine V_iload_n (c := cI) i81_4.1 (mM_n i81_4.2) rfl ?_
  refine V_cvA (c := cI) (As := [.int x1]) (rest := []) i81_5.1 (mM_n i81_5.2) c81_140 rfl (cl_sh (isT_o isT_14)) rfl rfl (Nat.le_of_ble_eq_true rfl) rfl (fun r7 S6 => ?_)
  refine V_astore_n (c := cI) i81_8.1 (mM_n i81_8.2) (l1 := [some (.ref 0), some (.int x1), some (.int x2), some (va_rf r7), none])  (isA_rf _) (Nat.le_of_ble_eq_true rfl) rfl ?_
  refine V_aload_n (c := cI) i81_9.1 (mM_n i81_9.2) rfl (isA_rf _) ?_
  cases r7 with
  | none =>
    refine V_ifnonnullN (c := cI) i81_10.1 (mM_n i81_10.2) rfl ?_
    exact V_msk (l1 := [none, none, none, none, none]) i81_13.2 rfl rfl
  | some w8 =>
    refine V_ifnonnullR (c := cI) i81_10.1 (mM_n i81_10.2) rfl ?_
    exact V_msk (l1 := [none, none, some (.int x2), some (.ref w8), none]) i81_16.2 rfl rfl
theorem k_Top_load_13_eq   {S : Mem} : k_Top_load_13  S = some ((-101), S) := by
  show cI (mV oS X0 81 13 [none, none, none, none, none] [] S) = _
  refine V_bipush (c := cI) i81_13.1 (mM_s i81_13.2 rfl) (v := (-101)) rfl ?_
  exact V_iret i81_15.1 (mM_n i81_15.2) rfl
theorem k_Top_load_16_eq {x2 : Int32} {w3 : Nat} (h_w3 : isW w3) {S : Mem} : k_Top_load_16 x2 w3 S = bI (f_Top_isLoad x2 S) (fun r10 S9 => if r10 = 0 then some ((-102), S9) else some ((S9.1 w3 3), u1 S9 w3 3 x2)) := by
  show cI (mV oS X0 81 16 [none, none, some (.int x2), some (.ref w3), none] [] S) = _
  refine V_iload_n (c := cI) i81_16.1 (mM_s i81_16.2 rfl) rfl ?_
  refine V_ciI (c := cI) (As := [.int x2]) (rest := []) i81_17.1 (mM_n i81_17.2) c81_130 rfl rfl rfl (Nat.le_of_ble_eq_true rfl) rfl (fun r10 S9 => ?_)
  refine V_if_ne (c := cI) i81_20.1 (mM_n i81_20.2) rfl (fun _ => ?_) (fun _ => ?_)
  · refine V_bipush (c := cI) i81_23.1 (mM_n i81_23.2) (v := (-102)) rfl ?_
    exact V_iret i81_25.1 (mM_n i81_25.2) rfl
  · refine V_aload_n (c := cI) i81_26.1 (mM_n i81_26.2) rfl rfl ?_
    refine V_gf (c := cI) i81_27.1 (mM_n i81_27.2) (v := .int (S9.1 w3 3)) g81_155 (gf_i (isW_o h_w3) rfl) ?_
    refine V_istore (c := cI) i81_30.1 (mM_n i81_30.2) (l1 := [none, none, some (.int x2), some (.ref w3), some (.int (S9.1 w3 3))])  (Nat.le_of_ble_eq_true rfl) rfl ?_
    refine V_aload_n (c := cI) i81_32.1 (mM_n i81_32.2) rfl rfl ?_
    refine V_iload_n (c := cI) i81_33.1 (mM_n i81_33.2) rfl ?_
    refine V_pf (c := cI) i81_34.1 (mM_n i81_34.2) p81_155 (pf_i (isW_o h_w3) rfl rfl) ?_
    refine V_iload (c := cI) i81_37.1 (mM_n i81_37.2) rfl ?_
    exact V_iret i81_39.1 (mM_n i81_39.2) rfl
theorem f_Top_pass_eq {x1 : Int32} {x2 : Int32}  {S : Mem} : f_Top_pass x1 x2 S = bA (f_Town_at 14 x1 S) (fun r10 S9 => oc r10 (k_Top_pass_27 S9) (fun w11 => k_Top_pass_11 x1 x2 S9)) := by
  show cI (mV oS X0 82 0 [some (.ref 0), some (.int x1), some (.int x2)] [] S) = _
  refine V_aload_n (c := cI) i82_0.1 (mM_n i82_0.2) rfl rfl ?_
  refine V_gf (c := cI) i82_1.1 (mM_n i82_1.2) (v := .ref 14) g82_33 rfl ?_
  refine V_iload_n (c := cI) i82_4.1 (mM_n i82_4.2) rfl ?_
  refine V_cvA (c := cI) (As := [.int x1]) (rest := []) i82_5.1 (mM_n i82_5.2) c82_140 rfl (cl_sh (isT_o isT_14)) rfl rfl (Nat.le_of_ble_eq_true rfl) rfl (fun r10 S9 => ?_)
  cases r10 with
  | none =>
    refine V_ifnullN (c := cI) i82_8.1 (mM_n i82_8.2) rfl ?_
    exact V_msk (l1 := [none, none, none]) i82_27.2 rfl rfl
  | some w11 =>
    refine V_ifnullR (c := cI) i82_8.1 (mM_n i82_8.2) rfl ?_
    exact V_msk (l1 := [some (.ref 0), some (.int x1), some (.int x2)]) i82_11.2 rfl rfl
theorem k_Top_pass_11_eq {x1 : Int32} {x2 : Int32}  {S : Mem} : k_Top_pass_11 x1 x2 S = bA (f_Town_at 14 x2 S) (fun r13 S12 => oc r13 (k_Top_pass_27 S12) (fun w14 => k_Top_pass_22 x1 x2 S12)) := by
  show cI (mV oS X0 82 11 [some (.ref 0), some (.int x1), some (.int x2)] [] S) = _
  refine V_aload_n (c := cI) i82_11.1 (mM_s i82_11.2 rfl) rfl rfl ?_
  refine V_gf (c := cI) i82_12.1 (mM_n i82_12.2) (v := .ref 14) g82_33 rfl ?_
  refine V_iload_n (c := cI) i82_15.1 (mM_n i82_15.2) rfl ?_
  refine V_cvA (c := cI) (As := [.int x2]) (rest := []) i82_16.1 (mM_n i82_16.2) c82_140 rfl (cl_sh (isT_o isT_14)) rfl rfl (Nat.le_of_ble_eq_true rfl) rfl (fun r13 S12 => ?_)
  cases r13 with
  | none =>
    refine V_ifnullN (c := cI) i82_19.1 (mM_n i82_19.2) rfl ?_
    exact V_msk (l1 := [none, none, none]) i82_27.2 rfl rfl
  | some w14 =>
    refine V_ifnullR (c := cI) i82_19.1 (mM_n i82_19.2) rfl ?_
    exact V_msk (l1 := [some (.ref 0), some (.int x1), some (.int x2)]) i82_22.2 rfl rfl
theorem k_Top_pass_22_eq {x1 : Int32} {x2 : Int32}  {S : Mem} : k_Top_pass_22 x1 x2 S = if x1 = x2 then k_Top_pass_27 S else bI (f_Town_mayPass 14 x1 x2 S) (fun r16 S15 => if r16 = 0 then k_Top_pass_51 0 S15 else k_Top_pass_51 1 S15) := by
  show cI (mV oS X0 82 22 [some (.ref 0), some (.int x1), some (.int x2)] [] S) = _
  refine V_iload_n (c := cI) i82_22.1 (mM_s i82_22.2 rfl) rfl ?_
  refine V_iload_n (c := cI) i82_23.1 (mM_n i82_23.2) rfl ?_
  refine V_icmp_ne (c := cI) i82_24.1 (mM_n i82_24.2) rfl (fun _ => ?_) (fun _ => ?_)
  · exact V_msk (l1 := [none, none, none]) i82_27.2 rfl rfl
  · refine V_aload_n (c := cI) i82_30.1 (mM_n i82_30.2) rfl rfl ?_
    refine V_gf (c := cI) i82_31.1 (mM_n i82_31.2) (v := .ref 14) g82_33 rfl ?_
    refine V_aload_n (c := cI) i82_34.1 (mM_n i82_34.2) rfl rfl ?_
    refine V_gf (c := cI) i82_35.1 (mM_n i82_35.2) (v := .ref 7) g82_26 rfl ?_
    refine V_iload_n (c := cI) i82_38.1 (mM_n i82_38.2) rfl ?_
    refine V_iload_n (c := cI) i82_39.1 (mM_n i82_39.2) rfl ?_
    refine V_cvI (c := cI) (As := [.ref 7, .int x1, .int x2]) (rest := []) i82_40.1 (mM_n i82_40.2) c82_181 rfl (cl_sh (isT_o isT_14)) rfl rfl (Nat.le_of_ble_eq_true rfl) rfl (fun r16 S15 => ?_)
    refine V_if_eq (c := cI) i82_43.1 (mM_n i82_43.2) rfl (fun _ => ?_) (fun _ => ?_)
    · refine V_iconst (c := cI) i82_50.1 (mM_n i82_50.2) (v := 0) rfl ?_
      exact V_msk (l1 := [none, none, none]) i82_51.2 rfl rfl
    · refine V_iconst (c := cI) i82_46.1 (mM_n i82_46.2) (v := 1) rfl ?_
      refine V_goto (c := cI) i82_47.1 (mM_n i82_47.2) rfl ?_
      exact V_msk (l1 := [none, none, none]) i82_51.2 rfl rfl
theorem k_Top_pass_27_eq   {S : Mem} : k_Top_pass_27  S = some ((-101), S) := by
  show cI (mV oS X0 82 27 [none, none, none] [] S) = _
  refine V_bipush (c := cI) i82_27.1 (mM_s i82_27.2 rfl) (v := (-101)) rfl ?_
  exact V_iret i82_29.1 (mM_n i82_29.2) rfl
theorem k_Top_pass_51_eq {xs0 : Int32}  {S : Mem} : k_Top_pass_51 xs0 S = some (xs0, S) := by
  show cI (mV oS X0 82 51 [none, none, none] [.int xs0] S) = _
  exact V_iret i82_51.1 (mM_s i82_51.2 rfl) rfl
theorem f_Top_heap_eq {x1 : Int32} {x2 : Int32}  {S : Mem} : f_Top_heap x1 x2 S = bI (f_Top_isCorner x1 S) (fun r6 S5 => if r6 = 0 then some ((-101), S5) else bI (f_Top_isHeap x2 S5) (fun r8 S7 => if r8 = 0 then some ((-102), S7) else if (S7.1 0 8) = 0 then some ((-103), S7) else if inb x1 8 = true then if inb x1 8 = true then some ((S7.1 (14 + 2) (x1.toNatClampNeg)), u1 S7 (14 + 2) x1.toNatClampNeg x2) else none else none)) := by
  show cI (mV oS X0 83 0 [some (.ref 0), some (.int x1), some (.int x2), none] [] S) = _
  refine V_iload_n (c := cI) i83_0.1 (mM_n i83_0.2) rfl ?_
  refine V_ciI (c := cI) (As := [.int x1]) (rest := []) i83_1.1 (mM_n i83_1.2) c83_123 rfl rfl rfl (Nat.le_of_ble_eq_true rfl) rfl (fun r6 S5 => ?_)
  refine V_if_ne (c := cI) i83_4.1 (mM_n i83_4.2) rfl (fun _ => ?_) (fun _ => ?_)
  · refine V_bipush (c := cI) i83_7.1 (mM_n i83_7.2) (v := (-101)) rfl ?_
    exact V_iret i83_9.1 (mM_n i83_9.2) rfl
  · refine V_iload_n (c := cI) i83_10.1 (mM_n i83_10.2) rfl ?_
    refine V_ciI (c := cI) (As := [.int x2]) (rest := []) i83_11.1 (mM_n i83_11.2) c83_185 rfl rfl rfl (Nat.le_of_ble_eq_true rfl) rfl (fun r8 S7 => ?_)
    refine V_if_ne (c := cI) i83_14.1 (mM_n i83_14.2) rfl (fun _ => ?_) (fun _ => ?_)
    · refine V_bipush (c := cI) i83_17.1 (mM_n i83_17.2) (v := (-102)) rfl ?_
      exact V_iret i83_19.1 (mM_n i83_19.2) rfl
    · refine V_aload_n (c := cI) i83_20.1 (mM_n i83_20.2) rfl rfl ?_
      refine V_gf (c := cI) i83_21.1 (mM_n i83_21.2) (v := .int (S7.1 0 8)) g83_65 rfl ?_
      refine V_if_ne (c := cI) i83_24.1 (mM_n i83_24.2) rfl (fun _ => ?_) (fun _ => ?_)
      · refine V_bipush (c := cI) i83_27.1 (mM_n i83_27.2) (v := (-103)) rfl ?_
        exact V_iret i83_29.1 (mM_n i83_29.2) rfl
      · refine V_aload_n (c := cI) i83_30.1 (mM_n i83_30.2) rfl rfl ?_
        refine V_gf (c := cI) i83_31.1 (mM_n i83_31.2) (v := .ref 14) g83_33 rfl ?_
        refine V_gf (c := cI) i83_34.1 (mM_n i83_34.2) (v := .ref (14 + 2)) g83_188 (gf_r (isT_o isT_14) rfl) ?_
        refine V_iload_n (c := cI) i83_37.1 (mM_n i83_37.2) rfl ?_
        refine V_iaload (c := cI) i83_38.1 (mM_n i83_38.2) (isT_h isT_14) rfl (fun _ => ?_)
        refine V_istore_n (c := cI) i83_39.1 (mM_n i83_39.2) (l1 := [some (.ref 0), some (.int x1), some (.int x2), some (.int (S7.1 (14 + 2) (x1.toNatClampNeg)))])  (Nat.le_of_ble_eq_true rfl) rfl ?_
        refine V_aload_n (c := cI) i83_40.1 (mM_n i83_40.2) rfl rfl ?_
        refine V_gf (c := cI) i83_41.1 (mM_n i83_41.2) (v := .ref 14) g83_33 rfl ?_
        refine V_gf (c := cI) i83_44.1 (mM_n i83_44.2) (v := .ref (14 + 2)) g83_188 (gf_r (isT_o isT_14) rfl) ?_
        refine V_iload_n (c := cI) i83_47.1 (mM_n i83_47.2) rfl ?_
        refine V_iload_n (c := cI) i83_48.1 (mM_n i83_48.2) rfl ?_
        refine V_iastore (c := cI) (x1 := x2) i83_49.1 (mM_n i83_49.2) (isT_h isT_14) rfl rfl rfl (fun _ => ?_)
        refine V_iload_n (c := cI) i83_50.1 (mM_n i83_50.2) rfl ?_
        exact V_iret i83_51.1 (mM_n i83_51.2) rfl
theorem f_Top_take_eq {x1 : Int32} {x2 : Int32}  {S : Mem} : f_Top_take x1 x2 S = bA (f_Town_at 14 x1 S) (fun r11 S10 => oc r11 (k_Top_take_13 S10) (fun w12 => k_Top_take_16 x2 w12 S10)) := by
  show cI (mV oS X0 84 0 [some (.ref 0), some (.int x1), some (.int x2), none, none, none] [] S) = _
  refine V_aload_n (c := cI) i84_0.1 (mM_n i84_0.2) rfl rfl ?_
  refine V_gf (c := cI) i84_1.1 (mM_n i84_1.2) (v := .ref 14) g84_33 rfl ?_
  refine V_iload_n (c := cI) i84_4.1 (mM_n i84_4.2) rfl ?_
  refine V_cvA (c := cI) (As := [.int x1]) (rest := []) i84_5.1 (mM_n i84_5.2) c84_140 rfl (cl_sh (isT_o isT_14)) rfl rfl (Nat.le_of_ble_eq_true rfl) rfl (fun r11 S10 => ?_)
  refine V_astore_n (c := cI) i84_8.1 (mM_n i84_8.2) (l1 := [some (.ref 0), some (.int x1), some (.int x2), some (va_rf r11), none, none])  (isA_rf _) (Nat.le_of_ble_eq_true rfl) rfl ?_
  refine V_aload_n (c := cI) i84_9.1 (mM_n i84_9.2) rfl (isA_rf _) ?_
  cases r11 with
  | none =>
    refine V_ifnonnullN (c := cI) i84_10.1 (mM_n i84_10.2) rfl ?_
    exact V_msk (l1 := [none, none, none, none, none, none]) i84_13.2 rfl rfl
  | some w12 =>
    refine V_ifnonnullR (c := cI) i84_10.1 (mM_n i84_10.2) rfl ?_
    exact V_msk (l1 := [some (.ref 0), none, some (.int x2), some (.ref w12), none, none]) i84_16.2 rfl rfl
theorem k_Top_take_13_eq   {S : Mem} : k_Top_take_13  S = some ((-101), S) := by
  show cI (mV oS X0 84 13 [none, none, none, none, none, none] [] S) = _
  refine V_bipush (c := cI) i84_13.1 (mM_s i84_13.2 rfl) (v := (-101)) rfl ?_
  exact V_iret i84_15.1 (mM_n i84_15.2) rfl
theorem k_Top_take_16_eq {x2 : Int32} {w3 : Nat} (h_w3 : isW w3) {S : Mem} : k_Top_take_16 x2 w3 S = if x2 < (-20) then k_Top_take_28 S else if x2 ≤ 20 then if inb (S.1 w3 1) 8 = true then bI (f_Walker_isA w3 1 S) (fun r14 S13 => if r14 = 0 then k_Top_take_79 S13 else bI (f_Top_isLoad ((S.1 w3 3) + x2) S13) (fun r16 S15 => if r16 = 0 then k_Top_take_79 S15 else bI (f_Top_isHeap ((S.1 (14 + 2) ((S.1 w3 1).toNatClampNeg)) - x2) S15) (fun r18 S17 => if r18 = 0 then k_Top_take_79 S17 else if inb ((u1 S17 w3 3 ((S.1 w3 3) + x2)).1 w3 1) 8 = true then some (((S.1 w3 3) + x2), u1 (u1 S17 w3 3 ((S.1 w3 3) + x2)) (14 + 2) (((u1 S17 w3 3 ((S.1 w3 3) + x2)).1 w3 1).toNatClampNeg) ((S.1 (14 + 2) ((S.1 w3 1).toNatClampNeg)) - x2)) else none))) else none else k_Top_take_28 S := by
  show cI (mV oS X0 84 16 [some (.ref 0), none, some (.int x2), some (.ref w3), none, none] [] S) = _
  refine V_iload_n (c := cI) i84_16.1 (mM_s i84_16.2 rfl) rfl ?_
  refine V_bipush (c := cI) i84_17.1 (mM_n i84_17.2) (v := (-20)) rfl ?_
  refine V_icmp_lt (c := cI) i84_19.1 (mM_n i84_19.2) rfl (fun _ => ?_) (fun _ => ?_)
  · exact V_msk (l1 := [none, none, none, none, none, none]) i84_28.2 rfl rfl
  · refine V_iload_n (c := cI) i84_22.1 (mM_n i84_22.2) rfl ?_
    refine V_bipush (c := cI) i84_23.1 (mM_n i84_23.2) (v := 20) rfl ?_
    refine V_icmp_le (c := cI) i84_25.1 (mM_n i84_25.2) rfl (fun _ => ?_) (fun _ => ?_)
    · refine V_aload_n (c := cI) i84_31.1 (mM_n i84_31.2) rfl rfl ?_
      refine V_gf (c := cI) i84_32.1 (mM_n i84_32.2) (v := .int (S.1 w3 3)) g84_155 (gf_i (isW_o h_w3) rfl) ?_
      refine V_iload_n (c := cI) i84_35.1 (mM_n i84_35.2) rfl ?_
      refine V_iadd (c := cI) i84_36.1 (mM_n i84_36.2)  ?_
      refine V_istore (c := cI) i84_37.1 (mM_n i84_37.2) (l1 := [some (.ref 0), none, some (.int x2), some (.ref w3), some (.int ((S.1 w3 3) + x2)), none])  (Nat.le_of_ble_eq_true rfl) rfl ?_
      refine V_aload_n (c := cI) i84_39.1 (mM_n i84_39.2) rfl rfl ?_
      refine V_gf (c := cI) i84_40.1 (mM_n i84_40.2) (v := .ref 14) g84_33 rfl ?_
      refine V_gf (c := cI) i84_43.1 (mM_n i84_43.2) (v := .ref (14 + 2)) g84_188 (gf_r (isT_o isT_14) rfl) ?_
      refine V_aload_n (c := cI) i84_46.1 (mM_n i84_46.2) rfl rfl ?_
      refine V_gf (c := cI) i84_47.1 (mM_n i84_47.2) (v := .int (S.1 w3 1)) g84_149 (gf_i (isW_o h_w3) rfl) ?_
      refine V_iaload (c := cI) i84_50.1 (mM_n i84_50.2) (isT_h isT_14) rfl (fun _ => ?_)
      refine V_iload_n (c := cI) i84_51.1 (mM_n i84_51.2) rfl ?_
      refine V_isub (c := cI) i84_52.1 (mM_n i84_52.2)  ?_
      refine V_istore (c := cI) i84_53.1 (mM_n i84_53.2) (l1 := [some (.ref 0), none, some (.int x2), some (.ref w3), some (.int ((S.1 w3 3) + x2)), some (.int ((S.1 (14 + 2) ((S.1 w3 1).toNatClampNeg)) - x2))])  (Nat.le_of_ble_eq_true rfl) rfl ?_
      refine V_aload_n (c := cI) i84_55.1 (mM_n i84_55.2) rfl rfl ?_
      refine V_iconst (c := cI) i84_56.1 (mM_n i84_56.2) (v := 1) rfl ?_
      refine V_cvI (c := cI) (As := [.int 1]) (rest := []) i84_57.1 (mM_n i84_57.2) c84_171 rfl (cl_sh (isW_o h_w3)) rfl rfl (Nat.le_of_ble_eq_true rfl) rfl (fun r14 S13 => ?_)
      refine V_if_eq (c := cI) i84_60.1 (mM_n i84_60.2) rfl (fun _ => ?_) (fun _ => ?_)
      · exact V_msk (l1 := [none, none, none, none, none, none]) i84_79.2 rfl rfl
      · refine V_iload (c := cI) i84_63.1 (mM_n i84_63.2) rfl ?_
        refine V_ciI (c := cI) (As := [.int ((S.1 w3 3) + x2)]) (rest := []) i84_65.1 (mM_n i84_65.2) c84_130 rfl rfl rfl (Nat.le_of_ble_eq_true rfl) rfl (fun r16 S15 => ?_)
        refine V_if_eq (c := cI) i84_68.1 (mM_n i84_68.2) rfl (fun _ => ?_) (fun _ => ?_)
        · exact V_msk (l1 := [none, none, none, none, none, none]) i84_79.2 rfl rfl
        · refine V_iload (c := cI) i84_71.1 (mM_n i84_71.2) rfl ?_
          refine V_ciI (c := cI) (As := [.int ((S.1 (14 + 2) ((S.1 w3 1).toNatClampNeg)) - x2)]) (rest := []) i84_73.1 (mM_n i84_73.2) c84_185 rfl rfl rfl (Nat.le_of_ble_eq_true rfl) rfl (fun r18 S17 => ?_)
          refine V_if_ne (c := cI) i84_76.1 (mM_n i84_76.2) rfl (fun _ => ?_) (fun _ => ?_)
          · exact V_msk (l1 := [none, none, none, none, none, none]) i84_79.2 rfl rfl
          · refine V_aload_n (c := cI) i84_82.1 (mM_n i84_82.2) rfl rfl ?_
            refine V_iload (c := cI) i84_83.1 (mM_n i84_83.2) rfl ?_
            refine V_pf (c := cI) i84_85.1 (mM_n i84_85.2) p84_155 (pf_i (isW_o h_w3) rfl rfl) ?_
            refine V_aload_n (c := cI) i84_88.1 (mM_n i84_88.2) rfl rfl ?_
            refine V_gf (c := cI) i84_89.1 (mM_n i84_89.2) (v := .ref 14) g84_33 rfl ?_
            refine V_gf (c := cI) i84_92.1 (mM_n i84_92.2) (v := .ref (14 + 2)) g84_188 (gf_r (isT_o isT_14) rfl) ?_
            refine V_aload_n (c := cI) i84_95.1 (mM_n i84_95.2) rfl rfl ?_
            refine V_gf (c := cI) i84_96.1 (mM_n i84_96.2) (v := .int ((u1 S17 w3 3 ((S.1 w3 3) + x2)).1 w3 1)) g84_149 (gf_i (isW_o h_w3) rfl) ?_
            refine V_iload (c := cI) i84_99.1 (mM_n i84_99.2) rfl ?_
            refine V_iastore (c := cI) (x1 := ((S.1 (14 + 2) ((S.1 w3 1).toNatClampNeg)) - x2)) i84_101.1 (mM_n i84_101.2) (isT_h isT_14) rfl rfl rfl (fun _ => ?_)
            refine V_iload (c := cI) i84_102.1 (mM_n i84_102.2) rfl ?_
            exact V_iret i84_104.1 (mM_n i84_104.2) rfl
    · exact V_msk (l1 := [none, none, none, none, none, none]) i84_28.2 rfl rfl
theorem k_Top_take_28_eq   {S : Mem} : k_Top_take_28  S = some ((-102), S) := by
  show cI (mV oS X0 84 28 [none, none, none, none, none, none] [] S) = _
  refine V_bipush (c := cI) i84_28.1 (mM_s i84_28.2 rfl) (v := (-102)) rfl ?_
  exact V_iret i84_30.1 (mM_n i84_30.2) rfl
theorem k_Top_take_79_eq   {S : Mem} : k_Top_take_79  S = some ((-103), S) := by
  show cI (mV oS X0 84 79 [none, none, none, none, none, none] [] S) = _
  refine V_bipush (c := cI) i84_79.1 (mM_s i84_79.2 rfl) (v := (-103)) rfl ?_
  exact V_iret i84_81.1 (mM_n i84_81.2) rfl
theorem f_Top_minutes_eq {x1 : Int32}  {S : Mem} : f_Top_minutes x1 S = bI (f_Top_areMinutes x1 S) (fun r8 S7 => if r8 = 0 then some ((-102), S7) else if (S7.1 0 8) = 0 then some ((-103), S7) else bU (f_Morning_begin 0 S7) (fun S9 => k_Top_minutes_32 x1 0 0 S9)) := by
  show cI (mV oS X0 85 0 [some (.ref 0), some (.int x1), none, none] [] S) = _
  refine V_iload_n (c := cI) i85_0.1 (mM_n i85_0.2) rfl ?_
  refine V_ciI (c := cI) (As := [.int x1]) (rest := []) i85_1.1 (mM_n i85_1.2) c85_191 rfl rfl rfl (Nat.le_of_ble_eq_true rfl) rfl (fun r8 S7 => ?_)
  refine V_if_ne (c := cI) i85_4.1 (mM_n i85_4.2) rfl (fun _ => ?_) (fun _ => ?_)
  · refine V_bipush (c := cI) i85_7.1 (mM_n i85_7.2) (v := (-102)) rfl ?_
    exact V_iret i85_9.1 (mM_n i85_9.2) rfl
  · refine V_aload_n (c := cI) i85_10.1 (mM_n i85_10.2) rfl rfl ?_
    refine V_gf (c := cI) i85_11.1 (mM_n i85_11.2) (v := .int (S7.1 0 8)) g85_65 rfl ?_
    refine V_if_ne (c := cI) i85_14.1 (mM_n i85_14.2) rfl (fun _ => ?_) (fun _ => ?_)
    · refine V_bipush (c := cI) i85_17.1 (mM_n i85_17.2) (v := (-103)) rfl ?_
      exact V_iret i85_19.1 (mM_n i85_19.2) rfl
    · refine V_iconst (c := cI) i85_20.1 (mM_n i85_20.2) (v := 0) rfl ?_
      refine V_istore_n (c := cI) i85_21.1 (mM_n i85_21.2) (l1 := [some (.ref 0), some (.int x1), some (.int 0), none])  (Nat.le_of_ble_eq_true rfl) rfl ?_
      refine V_aload_n (c := cI) i85_22.1 (mM_n i85_22.2) rfl rfl ?_
      refine V_gf (c := cI) i85_23.1 (mM_n i85_23.2) (v := .ref 40) g85_45 rfl ?_
      refine V_iconst (c := cI) i85_26.1 (mM_n i85_26.2) (v := 0) rfl ?_
      refine V_cvU (c := cI) (As := [.int 0]) (rest := []) i85_27.1 (mM_n i85_27.2) c85_194 rfl rfl rfl rfl (Nat.le_of_ble_eq_true rfl) rfl (fun S9 => ?_)
      refine V_iconst (c := cI) i85_30.1 (mM_n i85_30.2) (v := 0) rfl ?_
      refine V_istore_n (c := cI) i85_31.1 (mM_n i85_31.2) (l1 := [some (.ref 0), some (.int x1), some (.int 0), some (.int 0)])  (Nat.le_of_ble_eq_true rfl) rfl ?_
      exact V_msk (l1 := [some (.ref 0), some (.int x1), some (.int 0), some (.int 0)]) i85_32.2 rfl rfl
theorem k_Top_minutes_32_eq {x1 : Int32} {x2 : Int32} {x3 : Int32}  {S : Mem} : k_Top_minutes_32 x1 x2 x3 S = if x1 ≤ x3 then bU (f_Morning_keep S) (fun S10 => some (x2, u1 S10 14 3 ((S10.1 14 3) + x1))) else bI (f_Morning_goOn S) (fun r12 S11 => k_Top_minutes_32 x1 (x2 + r12) (x3 + 1) S11) := by
  show cI (mV oS X0 85 32 [some (.ref 0), some (.int x1), some (.int x2), some (.int x3)] [] S) = _
  refine V_iload_n (c := cI) i85_32.1 (mM_s i85_32.2 rfl) rfl ?_
  refine V_iload_n (c := cI) i85_33.1 (mM_n i85_33.2) rfl ?_
  refine V_icmp_ge (c := cI) i85_34.1 (mM_n i85_34.2) rfl (fun _ => ?_) (fun _ => ?_)
  · refine V_aload_n (c := cI) i85_53.1 (mM_n i85_53.2) rfl rfl ?_
    refine V_gf (c := cI) i85_54.1 (mM_n i85_54.2) (v := .ref 40) g85_45 rfl ?_
    refine V_cvU (c := cI) (As := []) (rest := []) i85_57.1 (mM_n i85_57.2) c85_201 rfl rfl rfl rfl (Nat.le_of_ble_eq_true rfl) rfl (fun S10 => ?_)
    refine V_aload_n (c := cI) i85_60.1 (mM_n i85_60.2) rfl rfl ?_
    refine V_gf (c := cI) i85_61.1 (mM_n i85_61.2) (v := .ref 14) g85_33 rfl ?_
    refine V_dup (c := cI) i85_64.1 (mM_n i85_64.2) rfl ?_
    refine V_gf (c := cI) i85_65.1 (mM_n i85_65.2) (v := .int (S10.1 14 3)) g85_204 (gf_i (isT_o isT_14) rfl) ?_
    refine V_iload_n (c := cI) i85_68.1 (mM_n i85_68.2) rfl ?_
    refine V_iadd (c := cI) i85_69.1 (mM_n i85_69.2)  ?_
    refine V_pf (c := cI) i85_70.1 (mM_n i85_70.2) p85_204 (pf_i (isT_o isT_14) rfl rfl) ?_
    refine V_iload_n (c := cI) i85_73.1 (mM_n i85_73.2) rfl ?_
    exact V_iret i85_74.1 (mM_n i85_74.2) rfl
  · refine V_iload_n (c := cI) i85_37.1 (mM_n i85_37.2) rfl ?_
    refine V_aload_n (c := cI) i85_38.1 (mM_n i85_38.2) rfl rfl ?_
    refine V_gf (c := cI) i85_39.1 (mM_n i85_39.2) (v := .ref 40) g85_45 rfl ?_
    refine V_cvI (c := cI) (As := []) (rest := [.int x2]) i85_42.1 (mM_n i85_42.2) c85_198 rfl rfl rfl rfl (Nat.le_of_ble_eq_true rfl) rfl (fun r12 S11 => ?_)
    refine V_iadd (c := cI) i85_45.1 (mM_n i85_45.2)  ?_
    refine V_istore_n (c := cI) i85_46.1 (mM_n i85_46.2) (l1 := [some (.ref 0), some (.int x1), some (.int (x2 + r12)), some (.int x3)])  (Nat.le_of_ble_eq_true rfl) rfl ?_
    refine V_iinc (c := cI) i85_47.1 (mM_n i85_47.2) (l1 := [some (.ref 0), some (.int x1), some (.int (x2 + r12)), some (.int (x3 + 1))]) rfl rfl rfl ?_
    refine V_goto (c := cI) i85_50.1 (mM_n i85_50.2) rfl ?_
    exact V_msk (l1 := [some (.ref 0), some (.int x1), some (.int (x2 + r12)), some (.int (x3 + 1))]) i85_32.2 rfl rfl
theorem f_Top_first_eq {x1 : Int32}  {S : Mem} : f_Top_first x1 S = if x1 < 0 then k_Top_first_9 S else if x1 ≤ 2 then bU (f_Morning_begin 0 S) (fun S6 => k_Top_first_22 x1 1 S6) else k_Top_first_9 S := by
  show cI (mV oS X0 86 0 [some (.ref 0), some (.int x1), none] [] S) = _
  refine V_iload_n (c := cI) i86_0.1 (mM_n i86_0.2) rfl ?_
  refine V_if_lt (c := cI) i86_1.1 (mM_n i86_1.2) rfl (fun _ => ?_) (fun _ => ?_)
  · exact V_msk (l1 := [none, none, none]) i86_9.2 rfl rfl
  · refine V_iload_n (c := cI) i86_4.1 (mM_n i86_4.2) rfl ?_
    refine V_iconst (c := cI) i86_5.1 (mM_n i86_5.2) (v := 2) rfl ?_
    refine V_icmp_le (c := cI) i86_6.1 (mM_n i86_6.2) rfl (fun _ => ?_) (fun _ => ?_)
    · refine V_aload_n (c := cI) i86_12.1 (mM_n i86_12.2) rfl rfl ?_
      refine V_gf (c := cI) i86_13.1 (mM_n i86_13.2) (v := .ref 40) g86_45 rfl ?_
      refine V_iconst (c := cI) i86_16.1 (mM_n i86_16.2) (v := 0) rfl ?_
      refine V_cvU (c := cI) (As := [.int 0]) (rest := []) i86_17.1 (mM_n i86_17.2) c86_194 rfl rfl rfl rfl (Nat.le_of_ble_eq_true rfl) rfl (fun S6 => ?_)
      refine V_iconst (c := cI) i86_20.1 (mM_n i86_20.2) (v := 1) rfl ?_
      refine V_istore_n (c := cI) i86_21.1 (mM_n i86_21.2) (l1 := [some (.ref 0), some (.int x1), some (.int 1)])  (Nat.le_of_ble_eq_true rfl) rfl ?_
      exact V_msk (l1 := [some (.ref 0), some (.int x1), some (.int 1)]) i86_22.2 rfl rfl
    · exact V_msk (l1 := [none, none, none]) i86_9.2 rfl rfl
theorem k_Top_first_9_eq   {S : Mem} : k_Top_first_9  S = some ((-102), S) := by
  show cI (mV oS X0 86 9 [none, none, none] [] S) = _
  refine V_bipush (c := cI) i86_9.1 (mM_s i86_9.2 rfl) (v := (-102)) rfl ?_
  exact V_iret i86_11.1 (mM_n i86_11.2) rfl
theorem k_Top_first_22_eq {x1 : Int32} {x2 : Int32}  {S : Mem} : k_Top_first_22 x1 x2 S = if 60 < x2 then k_Top_first_85 S else bI (f_Morning_isOver S) (fun r8 S7 => if r8 = 0 then bI (f_Morning_goOn S7) (fun r10 S9 => if r10 ≤ 0 then k_Top_first_22 x1 (x2 + 1) S9 else if x1 = 0 then k_Top_first_78 x2 S9 else if x1 = 1 then k_Top_first_78 (S9.1 40 8) S9 else k_Top_first_78 (S9.1 40 9) S9) else k_Top_first_85 S7) := by
  show cI (mV oS X0 86 22 [some (.ref 0), some (.int x1), some (.int x2)] [] S) = _
  refine V_iload_n (c := cI) i86_22.1 (mM_s i86_22.2 rfl) rfl ?_
  refine V_bipush (c := cI) i86_23.1 (mM_n i86_23.2) (v := 60) rfl ?_
  refine V_icmp_gt (c := cI) i86_25.1 (mM_n i86_25.2) rfl (fun _ => ?_) (fun _ => ?_)
  · exact V_msk (l1 := [none, none, none]) i86_85.2 rfl rfl
  · refine V_aload_n (c := cI) i86_28.1 (mM_n i86_28.2) rfl rfl ?_
    refine V_gf (c := cI) i86_29.1 (mM_n i86_29.2) (v := .ref 40) g86_45 rfl ?_
    refine V_cvI (c := cI) (As := []) (rest := []) i86_32.1 (mM_n i86_32.2) c86_207 rfl rfl rfl rfl (Nat.le_of_ble_eq_true rfl) rfl (fun r8 S7 => ?_)
    refine V_if_ne (c := cI) i86_35.1 (mM_n i86_35.2) rfl (fun _ => ?_) (fun _ => ?_)
    · refine V_aload_n (c := cI) i86_38.1 (mM_n i86_38.2) rfl rfl ?_
      refine V_gf (c := cI) i86_39.1 (mM_n i86_39.2) (v := .ref 40) g86_45 rfl ?_
      refine V_cvI (c := cI) (As := []) (rest := []) i86_42.1 (mM_n i86_42.2) c86_198 rfl rfl rfl rfl (Nat.le_of_ble_eq_true rfl) rfl (fun r10 S9 => ?_)
      refine V_if_le (c := cI) i86_45.1 (mM_n i86_45.2) rfl (fun _ => ?_) (fun _ => ?_)
      · refine V_iinc (c := cI) i86_79.1 (mM_n i86_79.2) (l1 := [some (.ref 0), some (.int x1), some (.int (x2 + 1))]) rfl rfl rfl ?_
        refine V_goto (c := cI) i86_82.1 (mM_n i86_82.2) rfl ?_
        exact V_msk (l1 := [some (.ref 0), some (.int x1), some (.int (x2 + 1))]) i86_22.2 rfl rfl
      · refine V_iload_n (c := cI) i86_48.1 (mM_n i86_48.2) rfl ?_
        refine V_if_ne (c := cI) i86_49.1 (mM_n i86_49.2) rfl (fun _ => ?_) (fun _ => ?_)
        · refine V_iload_n (c := cI) i86_52.1 (mM_n i86_52.2) rfl ?_
          refine V_goto (c := cI) i86_53.1 (mM_n i86_53.2) rfl ?_
          exact V_msk (l1 := [none, none, none]) i86_78.2 rfl rfl
        · refine V_iload_n (c := cI) i86_56.1 (mM_n i86_56.2) rfl ?_
          refine V_iconst (c := cI) i86_57.1 (mM_n i86_57.2) (v := 1) rfl ?_
          refine V_icmp_ne (c := cI) i86_58.1 (mM_n i86_58.2) rfl (fun _ => ?_) (fun _ => ?_)
          · refine V_aload_n (c := cI) i86_61.1 (mM_n i86_61.2) rfl rfl ?_
            refine V_gf (c := cI) i86_62.1 (mM_n i86_62.2) (v := .ref 40) g86_45 rfl ?_
            refine V_gf (c := cI) i86_65.1 (mM_n i86_65.2) (v := .int (S9.1 40 8)) g86_210 rfl ?_
            refine V_goto (c := cI) i86_68.1 (mM_n i86_68.2) rfl ?_
            exact V_msk (l1 := [none, none, none]) i86_78.2 rfl rfl
          · refine V_aload_n (c := cI) i86_71.1 (mM_n i86_71.2) rfl rfl ?_
            refine V_gf (c := cI) i86_72.1 (mM_n i86_72.2) (v := .ref 40) g86_45 rfl ?_
            refine V_gf (c := cI) i86_75.1 (mM_n i86_75.2) (v := .int (S9.1 40 9)) g86_213 rfl ?_
            exact V_msk (l1 := [none, none, none]) i86_78.2 rfl rfl
    · exact V_msk (l1 := [none, none, none]) i86_85.2 rfl rfl
theorem k_Top_first_78_eq {xs0 : Int32}  {S : Mem} : k_Top_first_78 xs0 S = some (xs0, S) := by
  show cI (mV oS X0 86 78 [none, none, none] [.int xs0] S) = _
  exact V_iret i86_78.1 (mM_s i86_78.2 rfl) rfl
theorem k_Top_first_85_eq   {S : Mem} : k_Top_first_85  S = some ((-1), S) := by
  show cI (mV oS X0 86 85 [none, none, none] [] S) = _
  refine V_iconst (c := cI) i86_85.1 (mM_s i86_85.2 rfl) (v := (-1)) rfl ?_
  exact V_iret i86_86.1 (mM_n i86_86.2) rfl
theorem f_Top_soonest_eq {x1 : Int32}  {S : Mem} : f_Top_soonest x1 S = if x1 < 0 then k_Top_soonest_9 S else if x1 ≤ 3 then bI (f_Top_mayPlan S) (fun r9 S8 => if r9 = 0 then some ((-103), S8) else bU (f_Planner_begin (u1 S8 0 11 ((S8.1 0 11) + 1))) (fun S10 => bI (f_Planner_fewest (-1) 30 S10) (fun r12 S11 => if x1 = 0 then some (r12, S11) else if r12 ≤ 0 then k_Top_soonest_71 S11 else if x1 ≤ (S11.1 14 1) then bI (f_Planner_firstStep r12 (x1 - 1) S11) (fun r14 S13 => k_Top_soonest_86 r14 S13) else k_Top_soonest_71 S11))) else k_Top_soonest_9 S := by
  show cI (mV oS X0 87 0 [some (.ref 0), some (.int x1), none] [] S) = _
  refine V_iload_n (c := cI) i87_0.1 (mM_n i87_0.2) rfl ?_
  refine V_if_lt (c := cI) i87_1.1 (mM_n i87_1.2) rfl (fun _ => ?_) (fun _ => ?_)
  · exact V_msk (l1 := [none, none, none]) i87_9.2 rfl rfl
  · refine V_iload_n (c := cI) i87_4.1 (mM_n i87_4.2) rfl ?_
    refine V_iconst (c := cI) i87_5.1 (mM_n i87_5.2) (v := 3) rfl ?_
    refine V_icmp_le (c := cI) i87_6.1 (mM_n i87_6.2) rfl (fun _ => ?_) (fun _ => ?_)
    · refine V_aload_n (c := cI) i87_12.1 (mM_n i87_12.2) rfl rfl ?_
      refine V_cvI (c := cI) (As := []) (rest := []) i87_13.1 (mM_n i87_13.2) c87_216 rfl rfl rfl rfl (Nat.le_of_ble_eq_true rfl) rfl (fun r9 S8 => ?_)
      refine V_if_ne (c := cI) i87_16.1 (mM_n i87_16.2) rfl (fun _ => ?_) (fun _ => ?_)
      · refine V_bipush (c := cI) i87_19.1 (mM_n i87_19.2) (v := (-103)) rfl ?_
        exact V_iret i87_21.1 (mM_n i87_21.2) rfl
      · refine V_aload_n (c := cI) i87_22.1 (mM_n i87_22.2) rfl rfl ?_
        refine V_dup (c := cI) i87_23.1 (mM_n i87_23.2) rfl ?_
        refine V_gf (c := cI) i87_24.1 (mM_n i87_24.2) (v := .int (S8.1 0 11)) g87_76 rfl ?_
        refine V_iconst (c := cI) i87_27.1 (mM_n i87_27.2) (v := 1) rfl ?_
        refine V_iadd (c := cI) i87_28.1 (mM_n i87_28.2)  ?_
        refine V_pf (c := cI) i87_29.1 (mM_n i87_29.2) p87_76 (pf_i rfl rfl rfl) ?_
        refine V_aload_n (c := cI) i87_32.1 (mM_n i87_32.2) rfl rfl ?_
        refine V_gf (c := cI) i87_33.1 (mM_n i87_33.2) (v := .ref 52) g87_61 rfl ?_
        refine V_cvU (c := cI) (As := []) (rest := []) i87_36.1 (mM_n i87_36.2) c87_219 rfl rfl rfl rfl (Nat.le_of_ble_eq_true rfl) rfl (fun S10 => ?_)
        refine V_aload_n (c := cI) i87_39.1 (mM_n i87_39.2) rfl rfl ?_
        refine V_gf (c := cI) i87_40.1 (mM_n i87_40.2) (v := .ref 52) g87_61 rfl ?_
        refine V_iconst (c := cI) i87_43.1 (mM_n i87_43.2) (v := (-1)) rfl ?_
        refine V_bipush (c := cI) i87_44.1 (mM_n i87_44.2) (v := 30) rfl ?_
        refine V_cvI (c := cI) (As := [.int (-1), .int 30]) (rest := []) i87_46.1 (mM_n i87_46.2) c87_221 rfl rfl rfl rfl (Nat.le_of_ble_eq_true rfl) rfl (fun r12 S11 => ?_)
        refine V_istore_n (c := cI) i87_49.1 (mM_n i87_49.2) (l1 := [some (.ref 0), some (.int x1), some (.int r12)])  (Nat.le_of_ble_eq_true rfl) rfl ?_
        refine V_iload_n (c := cI) i87_50.1 (mM_n i87_50.2) rfl ?_
        refine V_if_ne (c := cI) i87_51.1 (mM_n i87_51.2) rfl (fun _ => ?_) (fun _ => ?_)
        · refine V_iload_n (c := cI) i87_54.1 (mM_n i87_54.2) rfl ?_
          exact V_iret i87_55.1 (mM_n i87_55.2) rfl
        · refine V_iload_n (c := cI) i87_56.1 (mM_n i87_56.2) rfl ?_
          refine V_if_le (c := cI) i87_57.1 (mM_n i87_57.2) rfl (fun _ => ?_) (fun _ => ?_)
          · exact V_msk (l1 := [none, none, none]) i87_71.2 rfl rfl
          · refine V_iload_n (c := cI) i87_60.1 (mM_n i87_60.2) rfl ?_
            refine V_aload_n (c := cI) i87_61.1 (mM_n i87_61.2) rfl rfl ?_
            refine V_gf (c := cI) i87_62.1 (mM_n i87_62.2) (v := .ref 14) g87_33 rfl ?_
            refine V_gf (c := cI) i87_65.1 (mM_n i87_65.2) (v := .int (S11.1 14 1)) g87_137 (gf_i (isT_o isT_14) rfl) ?_
            refine V_icmp_le (c := cI) i87_68.1 (mM_n i87_68.2) rfl (fun _ => ?_) (fun _ => ?_)
            · refine V_aload_n (c := cI) i87_75.1 (mM_n i87_75.2) rfl rfl ?_
              refine V_gf (c := cI) i87_76.1 (mM_n i87_76.2) (v := .ref 52) g87_61 rfl ?_
              refine V_iload_n (c := cI) i87_79.1 (mM_n i87_79.2) rfl ?_
              refine V_iload_n (c := cI) i87_80.1 (mM_n i87_80.2) rfl ?_
              refine V_iconst (c := cI) i87_81.1 (mM_n i87_81.2) (v := 1) rfl ?_
              refine V_isub (c := cI) i87_82.1 (mM_n i87_82.2)  ?_
              refine V_cvI (c := cI) (As := [.int r12, .int (x1 - 1)]) (rest := []) i87_83.1 (mM_n i87_83.2) c87_225 rfl rfl rfl rfl (Nat.le_of_ble_eq_true rfl) rfl (fun r14 S13 => ?_)
              exact V_msk (l1 := [none, none, none]) i87_86.2 rfl rfl
            · exact V_msk (l1 := [none, none, none]) i87_71.2 rfl rfl
    · exact V_msk (l1 := [none, none, none]) i87_9.2 rfl rfl
theorem k_Top_soonest_9_eq   {S : Mem} : k_Top_soonest_9  S = some ((-102), S) := by
  show cI (mV oS X0 87 9 [none, none, none] [] S) = _
  refine V_bipush (c := cI) i87_9.1 (mM_s i87_9.2 rfl) (v := (-102)) rfl ?_
  exact V_iret i87_11.1 (mM_n i87_11.2) rfl
theorem k_Top_soonest_71_eq   {S : Mem} : k_Top_soonest_71  S = k_Top_soonest_86 (-1) S := by
  show cI (mV oS X0 87 71 [none, none, none] [] S) = _
  refine V_iconst (c := cI) i87_71.1 (mM_s i87_71.2 rfl) (v := (-1)) rfl ?_
  refine V_goto (c := cI) i87_72.1 (mM_n i87_72.2) rfl ?_
  exact V_msk (l1 := [none, none, none]) i87_86.2 rfl rfl
theorem k_Top_soonest_86_eq {xs0 : Int32}  {S : Mem} : k_Top_soonest_86 xs0 S = some (xs0, S) := by
  show cI (mV oS X0 87 86 [none, none, none] [.int xs0] S) = _
  exact V_iret i87_86.1 (mM_s i87_86.2 rfl) rfl
theorem f_Top_wider_eq {x1 : Int32}  {S : Mem} : f_Top_wider x1 S = if x1 = 0 then k_Top_wider_12 x1 S else if x1 = 1 then k_Top_wider_12 x1 S else some ((-102), S) := by
  show cI (mV oS X0 88 0 [some (.ref 0), some (.int x1)] [] S) = _
  refine V_iload_n (c := cI) i88_0.1 (mM_n i88_0.2) rfl ?_
  refine V_if_eq (c := cI) i88_1.1 (mM_n i88_1.2) rfl (fun _ => ?_) (fun _ => ?_)
  · exact V_msk (l1 := [some (.ref 0), some (.int x1)]) i88_12.2 rfl rfl
  · refine V_iload_n (c := cI) i88_4.1 (mM_n i88_4.2) rfl ?_
    refine V_iconst (c := cI) i88_5.1 (mM_n i88_5.2) (v := 1) rfl ?_
    refine V_icmp_eq (c := cI) i88_6.1 (mM_n i88_6.2) rfl (fun _ => ?_) (fun _ => ?_)
    · exact V_msk (l1 := [some (.ref 0), some (.int x1)]) i88_12.2 rfl rfl
    · refine V_bipush (c := cI) i88_9.1 (mM_n i88_9.2) (v := (-102)) rfl ?_
      exact V_iret i88_11.1 (mM_n i88_11.2) rfl
theorem k_Top_wider_12_eq {x1 : Int32}  {S : Mem} : k_Top_wider_12 x1 S = bI (f_Top_mayPlan S) (fun r6 S5 => if r6 = 0 then some ((-103), S5) else bU (f_Planner_begin (u1 S5 0 11 ((S5.1 0 11) + 1))) (fun S7 => bU (f_Planner_widen S7) (fun S8 => if x1 = 0 then k_Top_wider_67 (S8.1 52 11) S8 else k_Top_wider_67 (S8.1 52 12) S8))) := by
  show cI (mV oS X0 88 12 [some (.ref 0), some (.int x1)] [] S) = _
  refine V_aload_n (c := cI) i88_12.1 (mM_s i88_12.2 rfl) rfl rfl ?_
  refine V_cvI (c := cI) (As := []) (rest := []) i88_13.1 (mM_n i88_13.2) c88_216 rfl rfl rfl rfl (Nat.le_of_ble_eq_true rfl) rfl (fun r6 S5 => ?_)
  refine V_if_ne (c := cI) i88_16.1 (mM_n i88_16.2) rfl (fun _ => ?_) (fun _ => ?_)
  · refine V_bipush (c := cI) i88_19.1 (mM_n i88_19.2) (v := (-103)) rfl ?_
    exact V_iret i88_21.1 (mM_n i88_21.2) rfl
  · refine V_aload_n (c := cI) i88_22.1 (mM_n i88_22.2) rfl rfl ?_
    refine V_dup (c := cI) i88_23.1 (mM_n i88_23.2) rfl ?_
    refine V_gf (c := cI) i88_24.1 (mM_n i88_24.2) (v := .int (S5.1 0 11)) g88_76 rfl ?_
    refine V_iconst (c := cI) i88_27.1 (mM_n i88_27.2) (v := 1) rfl ?_
    refine V_iadd (c := cI) i88_28.1 (mM_n i88_28.2)  ?_
    refine V_pf (c := cI) i88_29.1 (mM_n i88_29.2) p88_76 (pf_i rfl rfl rfl) ?_
    refine V_aload_n (c := cI) i88_32.1 (mM_n i88_32.2) rfl rfl ?_
    refine V_gf (c := cI) i88_33.1 (mM_n i88_33.2) (v := .ref 52) g88_61 rfl ?_
    refine V_cvU (c := cI) (As := []) (rest := []) i88_36.1 (mM_n i88_36.2) c88_219 rfl rfl rfl rfl (Nat.le_of_ble_eq_true rfl) rfl (fun S7 => ?_)
    refine V_aload_n (c := cI) i88_39.1 (mM_n i88_39.2) rfl rfl ?_
    refine V_gf (c := cI) i88_40.1 (mM_n i88_40.2) (v := .ref 52) g88_61 rfl ?_
    refine V_cvU (c := cI) (As := []) (rest := []) i88_43.1 (mM_n i88_43.2) c88_228 rfl rfl rfl rfl (Nat.le_of_ble_eq_true rfl) rfl (fun S8 => ?_)
    refine V_iload_n (c := cI) i88_46.1 (mM_n i88_46.2) rfl ?_
    refine V_if_ne (c := cI) i88_47.1 (mM_n i88_47.2) rfl (fun _ => ?_) (fun _ => ?_)
    · refine V_aload_n (c := cI) i88_50.1 (mM_n i88_50.2) rfl rfl ?_
      refine V_gf (c := cI) i88_51.1 (mM_n i88_51.2) (v := .ref 52) g88_61 rfl ?_
      refine V_gf (c := cI) i88_54.1 (mM_n i88_54.2) (v := .int (S8.1 52 11)) g88_231 rfl ?_
      refine V_goto (c := cI) i88_57.1 (mM_n i88_57.2) rfl ?_
      exact V_msk (l1 := [none, none]) i88_67.2 rfl rfl
    · refine V_aload_n (c := cI) i88_60.1 (mM_n i88_60.2) rfl rfl ?_
      refine V_gf (c := cI) i88_61.1 (mM_n i88_61.2) (v := .ref 52) g88_61 rfl ?_
      refine V_gf (c := cI) i88_64.1 (mM_n i88_64.2) (v := .int (S8.1 52 12)) g88_234 rfl ?_
      exact V_msk (l1 := [none, none]) i88_67.2 rfl rfl
theorem k_Top_wider_67_eq {xs0 : Int32}  {S : Mem} : k_Top_wider_67 xs0 S = some (xs0, S) := by
  show cI (mV oS X0 88 67 [none, none] [.int xs0] S) = _
  exact V_iret i88_67.1 (mM_s i88_67.2 rfl) rfl
theorem f_Top_enough_eq {x1 : Int32}  {S : Mem} : f_Top_enough x1 S = bA (f_Town_at 14 x1 S) (fun r7 S6 => oc r7 (k_Top_enough_11 S6) (fun w8 => k_Top_enough_16 x1 S6)) := by
  show cI (mV oS X0 89 0 [some (.ref 0), some (.int x1)] [] S) = _
  refine V_aload_n (c := cI) i89_0.1 (mM_n i89_0.2) rfl rfl ?_
  refine V_gf (c := cI) i89_1.1 (mM_n i89_1.2) (v := .ref 14) g89_33 rfl ?_
  refine V_iload_n (c := cI) i89_4.1 (mM_n i89_4.2) rfl ?_
  refine V_cvA (c := cI) (As := [.int x1]) (rest := []) i89_5.1 (mM_n i89_5.2) c89_140 rfl (cl_sh (isT_o isT_14)) rfl rfl (Nat.le_of_ble_eq_true rfl) rfl (fun r7 S6 => ?_)
  cases r7 with
  | none =>
    refine V_ifnonnullN (c := cI) i89_8.1 (mM_n i89_8.2) rfl ?_
    exact V_msk (l1 := [none, none]) i89_11.2 rfl rfl
  | some w8 =>
    refine V_ifnonnullR (c := cI) i89_8.1 (mM_n i89_8.2) rfl ?_
    exact V_msk (l1 := [some (.ref 0), some (.int x1)]) i89_16.2 rfl rfl
theorem k_Top_enough_11_eq   {S : Mem} : k_Top_enough_11  S = k_Top_enough_24 (-101) S := by
  show cI (mV oS X0 89 11 [none, none] [] S) = _
  refine V_bipush (c := cI) i89_11.1 (mM_s i89_11.2 rfl) (v := (-101)) rfl ?_
  refine V_goto (c := cI) i89_13.1 (mM_n i89_13.2) rfl ?_
  exact V_msk (l1 := [none, none]) i89_24.2 rfl rfl
theorem k_Top_enough_16_eq {x1 : Int32}  {S : Mem} : k_Top_enough_16 x1 S = bI (f_Loads_leastFor x1 S) (fun r10 S9 => k_Top_enough_24 r10 S9) := by
  show cI (mV oS X0 89 16 [some (.ref 0), some (.int x1)] [] S) = _
  refine V_aload_n (c := cI) i89_16.1 (mM_s i89_16.2 rfl) rfl rfl ?_
  refine V_gf (c := cI) i89_17.1 (mM_n i89_17.2) (v := .ref 47) g89_54 rfl ?_
  refine V_iload_n (c := cI) i89_20.1 (mM_n i89_20.2) rfl ?_
  refine V_cvI (c := cI) (As := [.int x1]) (rest := []) i89_21.1 (mM_n i89_21.2) c89_237 rfl rfl rfl rfl (Nat.le_of_ble_eq_true rfl) rfl (fun r10 S9 => ?_)
  exact V_msk (l1 := [none, none]) i89_24.2 rfl rfl
theorem k_Top_enough_24_eq {xs0 : Int32}  {S : Mem} : k_Top_enough_24 xs0 S = some (xs0, S) := by
  show cI (mV oS X0 89 24 [none, none] [.int xs0] S) = _
  exact V_iret i89_24.1 (mM_s i89_24.2 rfl) rfl
theorem f_Top_fits_eq {x1 : Int32}  {S : Mem} : f_Top_fits x1 S = bI (f_Top_isSet x1 S) (fun r6 S5 => if r6 = 0 then k_Top_fits_21 (-102) S5 else bI (f_Loads_waysFor x1 S5) (fun r8 S7 => k_Top_fits_21 r8 S7)) := by
  show cI (mV oS X0 90 0 [some (.ref 0), some (.int x1)] [] S) = _
  refine V_aload_n (c := cI) i90_0.1 (mM_n i90_0.2) rfl rfl ?_
  refine V_iload_n (c := cI) i90_1.1 (mM_n i90_1.2) rfl ?_
  refine V_cvI (c := cI) (As := [.int x1]) (rest := []) i90_2.1 (mM_n i90_2.2) c90_240 rfl rfl rfl rfl (Nat.le_of_ble_eq_true rfl) rfl (fun r6 S5 => ?_)
  refine V_if_eq (c := cI) i90_5.1 (mM_n i90_5.2) rfl (fun _ => ?_) (fun _ => ?_)
  · refine V_bipush (c := cI) i90_19.1 (mM_n i90_19.2) (v := (-102)) rfl ?_
    exact V_msk (l1 := [none, none]) i90_21.2 rfl rfl
  · refine V_aload_n (c := cI) i90_8.1 (mM_n i90_8.2) rfl rfl ?_
    refine V_gf (c := cI) i90_9.1 (mM_n i90_9.2) (v := .ref 47) g90_54 rfl ?_
    refine V_iload_n (c := cI) i90_12.1 (mM_n i90_12.2) rfl ?_
    refine V_cvI (c := cI) (As := [.int x1]) (rest := []) i90_13.1 (mM_n i90_13.2) c90_243 rfl rfl rfl rfl (Nat.le_of_ble_eq_true rfl) rfl (fun r8 S7 => ?_)
    refine V_goto (c := cI) i90_16.1 (mM_n i90_16.2) rfl ?_
    exact V_msk (l1 := [none, none]) i90_21.2 rfl rfl
theorem k_Top_fits_21_eq {xs0 : Int32}  {S : Mem} : k_Top_fits_21 xs0 S = some (xs0, S) := by
  show cI (mV oS X0 90 21 [none, none] [.int xs0] S) = _
  exact V_iret i90_21.1 (mM_s i90_21.2 rfl) rfl
theorem f_Top_sure_eq {x1 : Int32} {x2 : Int32}  {S : Mem} : f_Top_sure x1 x2 S = bA (f_Town_at 14 x1 S) (fun r11 S10 => oc r11 (k_Top_sure_11 S10) (fun w12 => k_Top_sure_14 x1 x2 S10)) := by
  show cI (mV oS X0 91 0 [some (.ref 0), some (.int x1), some (.int x2)] [] S) = _
  refine V_aload_n (c := cI) i91_0.1 (mM_n i91_0.2) rfl rfl ?_
  refine V_gf (c := cI) i91_1.1 (mM_n i91_1.2) (v := .ref 14) g91_33 rfl ?_
  refine V_iload_n (c := cI) i91_4.1 (mM_n i91_4.2) rfl ?_
  refine V_cvA (c := cI) (As := [.int x1]) (rest := []) i91_5.1 (mM_n i91_5.2) c91_140 rfl (cl_sh (isT_o isT_14)) rfl rfl (Nat.le_of_ble_eq_true rfl) rfl (fun r11 S10 => ?_)
  cases r11 with
  | none =>
    refine V_ifnonnullN (c := cI) i91_8.1 (mM_n i91_8.2) rfl ?_
    exact V_msk (l1 := [none, none, none]) i91_11.2 rfl rfl
  | some w12 =>
    refine V_ifnonnullR (c := cI) i91_8.1 (mM_n i91_8.2) rfl ?_
    exact V_msk (l1 := [some (.ref 0), some (.int x1), some (.int x2)]) i91_14.2 rfl rfl
theorem k_Top_sure_11_eq   {S : Mem} : k_Top_sure_11  S = some ((-101), S) := by
  show cI (mV oS X0 91 11 [none, none, none] [] S) = _
  refine V_bipush (c := cI) i91_11.1 (mM_s i91_11.2 rfl) (v := (-101)) rfl ?_
  exact V_iret i91_13.1 (mM_n i91_13.2) rfl
theorem k_Top_sure_14_eq {x1 : Int32} {x2 : Int32}  {S : Mem} : k_Top_sure_14 x1 x2 S = bI (f_Top_isSet x2 S) (fun r14 S13 => if r14 = 0 then some ((-102), S13) else if ((x2 >>> (x1 &&& 31)) &&& 1) = 0 then k_Top_sure_44 S13 else bI (f_Loads_waysFor x2 S13) (fun r16 S15 => if r16 = 0 then k_Top_sure_44 S15 else bI (f_Loads_onlyOne x1 S15) (fun r18 S17 => some (r18, S17)))) := by
  show cI (mV oS X0 91 14 [some (.ref 0), some (.int x1), some (.int x2)] [] S) = _
  refine V_aload_n (c := cI) i91_14.1 (mM_s i91_14.2 rfl) rfl rfl ?_
  refine V_iload_n (c := cI) i91_15.1 (mM_n i91_15.2) rfl ?_
  refine V_cvI (c := cI) (As := [.int x2]) (rest := []) i91_16.1 (mM_n i91_16.2) c91_240 rfl rfl rfl rfl (Nat.le_of_ble_eq_true rfl) rfl (fun r14 S13 => ?_)
  refine V_if_ne (c := cI) i91_19.1 (mM_n i91_19.2) rfl (fun _ => ?_) (fun _ => ?_)
  · refine V_bipush (c := cI) i91_22.1 (mM_n i91_22.2) (v := (-102)) rfl ?_
    exact V_iret i91_24.1 (mM_n i91_24.2) rfl
  · refine V_iload_n (c := cI) i91_25.1 (mM_n i91_25.2) rfl ?_
    refine V_iload_n (c := cI) i91_26.1 (mM_n i91_26.2) rfl ?_
    refine V_ishr (c := cI) i91_27.1 (mM_n i91_27.2)  ?_
    refine V_iconst (c := cI) i91_28.1 (mM_n i91_28.2) (v := 1) rfl ?_
    refine V_iand (c := cI) i91_29.1 (mM_n i91_29.2)  ?_
    refine V_if_eq (c := cI) i91_30.1 (mM_n i91_30.2) rfl (fun _ => ?_) (fun _ => ?_)
    · exact V_msk (l1 := [none, none, none]) i91_44.2 rfl rfl
    · refine V_aload_n (c := cI) i91_33.1 (mM_n i91_33.2) rfl rfl ?_
      refine V_gf (c := cI) i91_34.1 (mM_n i91_34.2) (v := .ref 47) g91_54 rfl ?_
      refine V_iload_n (c := cI) i91_37.1 (mM_n i91_37.2) rfl ?_
      refine V_cvI (c := cI) (As := [.int x2]) (rest := []) i91_38.1 (mM_n i91_38.2) c91_243 rfl rfl rfl rfl (Nat.le_of_ble_eq_true rfl) rfl (fun r16 S15 => ?_)
      refine V_if_ne (c := cI) i91_41.1 (mM_n i91_41.2) rfl (fun _ => ?_) (fun _ => ?_)
      · exact V_msk (l1 := [none, none, none]) i91_44.2 rfl rfl
      · refine V_aload_n (c := cI) i91_46.1 (mM_n i91_46.2) rfl rfl ?_
        refine V_gf (c := cI) i91_47.1 (mM_n i91_47.2) (v := .ref 47) g91_54 rfl ?_
        refine V_iload_n (c := cI) i91_50.1 (mM_n i91_50.2) rfl ?_
        refine V_cvI (c := cI) (As := [.int x1]) (rest := []) i91_51.1 (mM_n i91_51.2) c91_246 rfl rfl rfl rfl (Nat.le_of_ble_eq_true rfl) rfl (fun r18 S17 => ?_)
        exact V_iret i91_54.1 (mM_n i91_54.2) rfl
theorem k_Top_sure_44_eq   {S : Mem} : k_Top_sure_44  S = some ((-1), S) := by
  show cI (mV oS X0 91 44 [none, none, none] [] S) = _
  refine V_iconst (c := cI) i91_44.1 (mM_s i91_44.2 rfl) (v := (-1)) rfl ?_
  exact V_iret i91_45.1 (mM_n i91_45.2) rfl
theorem f_Top_crowd_eq {x1 : Int32} {x2 : Int32} {x3 : Int32}  {S : Mem} : f_Top_crowd x1 x2 x3 S = bI (f_Top_areMinutes x1 S) (fun r9 S8 => if r9 = 0 then k_Top_crowd_20 S8 else if x2 < 0 then k_Top_crowd_20 S8 else if x3 < 0 then k_Top_crowd_20 S8 else if x3 ≤ 2 then if (S8.1 0 8) = 0 then some ((-103), S8) else bU (f_Morning_begin 0 S8) (fun S10 => k_Top_crowd_56 x1 x3 0 0 (u2 S10 40 10 x2.toInt64)) else k_Top_crowd_20 S8) := by
  show cI (mV oS X0 92 0 [some (.ref 0), some (.int x1), some (.int x2), some (.int x3), none, none] [] S) = _
  refine V_iload_n (c := cI) i92_0.1 (mM_n i92_0.2) rfl ?_
  refine V_ciI (c := cI) (As := [.int x1]) (rest := []) i92_1.1 (mM_n i92_1.2) c92_191 rfl rfl rfl (Nat.le_of_ble_eq_true rfl) rfl (fun r9 S8 => ?_)
  refine V_if_eq (c := cI) i92_4.1 (mM_n i92_4.2) rfl (fun _ => ?_) (fun _ => ?_)
  · exact V_msk (l1 := [none, none, none, none, none, none]) i92_20.2 rfl rfl
  · refine V_iload_n (c := cI) i92_7.1 (mM_n i92_7.2) rfl ?_
    refine V_if_lt (c := cI) i92_8.1 (mM_n i92_8.2) rfl (fun _ => ?_) (fun _ => ?_)
    · exact V_msk (l1 := [none, none, none, none, none, none]) i92_20.2 rfl rfl
    · refine V_iload_n (c := cI) i92_11.1 (mM_n i92_11.2) rfl ?_
      refine V_if_lt (c := cI) i92_12.1 (mM_n i92_12.2) rfl (fun _ => ?_) (fun _ => ?_)
      · exact V_msk (l1 := [none, none, none, none, none, none]) i92_20.2 rfl rfl
      · refine V_iload_n (c := cI) i92_15.1 (mM_n i92_15.2) rfl ?_
        refine V_iconst (c := cI) i92_16.1 (mM_n i92_16.2) (v := 2) rfl ?_
        refine V_icmp_le (c := cI) i92_17.1 (mM_n i92_17.2) rfl (fun _ => ?_) (fun _ => ?_)
        · refine V_aload_n (c := cI) i92_23.1 (mM_n i92_23.2) rfl rfl ?_
          refine V_gf (c := cI) i92_24.1 (mM_n i92_24.2) (v := .int (S8.1 0 8)) g92_65 rfl ?_
          refine V_if_ne (c := cI) i92_27.1 (mM_n i92_27.2) rfl (fun _ => ?_) (fun _ => ?_)
          · refine V_bipush (c := cI) i92_30.1 (mM_n i92_30.2) (v := (-103)) rfl ?_
            exact V_iret i92_32.1 (mM_n i92_32.2) rfl
          · refine V_iconst (c := cI) i92_33.1 (mM_n i92_33.2) (v := 0) rfl ?_
            refine V_istore (c := cI) i92_34.1 (mM_n i92_34.2) (l1 := [some (.ref 0), some (.int x1), some (.int x2), some (.int x3), some (.int 0), none])  (Nat.le_of_ble_eq_true rfl) rfl ?_
            refine V_aload_n (c := cI) i92_36.1 (mM_n i92_36.2) rfl rfl ?_
            refine V_gf (c := cI) i92_37.1 (mM_n i92_37.2) (v := .ref 40) g92_45 rfl ?_
            refine V_iconst (c := cI) i92_40.1 (mM_n i92_40.2) (v := 0) rfl ?_
            refine V_cvU (c := cI) (As := [.int 0]) (rest := []) i92_41.1 (mM_n i92_41.2) c92_194 rfl rfl rfl rfl (Nat.le_of_ble_eq_true rfl) rfl (fun S10 => ?_)
            refine V_aload_n (c := cI) i92_44.1 (mM_n i92_44.2) rfl rfl ?_
            refine V_gf (c := cI) i92_45.1 (mM_n i92_45.2) (v := .ref 40) g92_45 rfl ?_
            refine V_iload_n (c := cI) i92_48.1 (mM_n i92_48.2) rfl ?_
            refine V_i2l (c := cI) i92_49.1 (mM_n i92_49.2)  ?_
            refine V_pf (c := cI) i92_50.1 (mM_n i92_50.2) p92_249 (pf_j rfl rfl rfl) ?_
            refine V_iconst (c := cI) i92_53.1 (mM_n i92_53.2) (v := 0) rfl ?_
            refine V_istore (c := cI) i92_54.1 (mM_n i92_54.2) (l1 := [some (.ref 0), some (.int x1), some (.int x2), some (.int x3), some (.int 0), some (.int 0)])  (Nat.le_of_ble_eq_true rfl) rfl ?_
            exact V_msk (l1 := [some (.ref 0), some (.int x1), none, some (.int x3), some (.int 0), some (.int 0)]) i92_56.2 rfl rfl
        · exact V_msk (l1 := [none, none, none, none, none, none]) i92_20.2 rfl rfl
theorem k_Top_crowd_20_eq   {S : Mem} : k_Top_crowd_20  S = some ((-102), S) := by
  show cI (mV oS X0 92 20 [none, none, none, none, none, none] [] S) = _
  refine V_bipush (c := cI) i92_20.1 (mM_s i92_20.2 rfl) (v := (-102)) rfl ?_
  exact V_iret i92_22.1 (mM_n i92_22.2) rfl
theorem k_Top_crowd_56_eq {x1 : Int32} {x3 : Int32} {x4 : Int32} {x5 : Int32}  {S : Mem} : k_Top_crowd_56 x1 x3 x4 x5 S = if x1 ≤ x5 then if x3 = 0 then k_Top_crowd_112 x4 S else if x3 = 1 then bI (f_Morning_atGoals S) (fun r12 S11 => k_Top_crowd_112 r12 S11) else k_Top_crowd_112 ((S.2 40 10).toInt32) S else bI (f_Morning_wander S) (fun r14 S13 => k_Top_crowd_56 x1 x3 (x4 + r14) (x5 + 1) S13) := by
  show cI (mV oS X0 92 56 [some (.ref 0), some (.int x1), none, some (.int x3), some (.int x4), some (.int x5)] [] S) = _
  refine V_iload (c := cI) i92_56.1 (mM_s i92_56.2 rfl) rfl ?_
  refine V_iload_n (c := cI) i92_58.1 (mM_n i92_58.2) rfl ?_
  refine V_icmp_ge (c := cI) i92_59.1 (mM_n i92_59.2) rfl (fun _ => ?_) (fun _ => ?_)
  · refine V_iload_n (c := cI) i92_80.1 (mM_n i92_80.2) rfl ?_
    refine V_if_ne (c := cI) i92_81.1 (mM_n i92_81.2) rfl (fun _ => ?_) (fun _ => ?_)
    · refine V_iload (c := cI) i92_84.1 (mM_n i92_84.2) rfl ?_
      refine V_goto (c := cI) i92_86.1 (mM_n i92_86.2) rfl ?_
      exact V_msk (l1 := [none, none, none, none, none, none]) i92_112.2 rfl rfl
    · refine V_iload_n (c := cI) i92_89.1 (mM_n i92_89.2) rfl ?_
      refine V_iconst (c := cI) i92_90.1 (mM_n i92_90.2) (v := 1) rfl ?_
      refine V_icmp_ne (c := cI) i92_91.1 (mM_n i92_91.2) rfl (fun _ => ?_) (fun _ => ?_)
      · refine V_aload_n (c := cI) i92_94.1 (mM_n i92_94.2) rfl rfl ?_
        refine V_gf (c := cI) i92_95.1 (mM_n i92_95.2) (v := .ref 40) g92_45 rfl ?_
        refine V_cvI (c := cI) (As := []) (rest := []) i92_98.1 (mM_n i92_98.2) c92_256 rfl rfl rfl rfl (Nat.le_of_ble_eq_true rfl) rfl (fun r12 S11 => ?_)
        refine V_goto (c := cI) i92_101.1 (mM_n i92_101.2) rfl ?_
        exact V_msk (l1 := [none, none, none, none, none, none]) i92_112.2 rfl rfl
      · refine V_aload_n (c := cI) i92_104.1 (mM_n i92_104.2) rfl rfl ?_
        refine V_gf (c := cI) i92_105.1 (mM_n i92_105.2) (v := .ref 40) g92_45 rfl ?_
        refine V_gf (c := cI) i92_108.1 (mM_n i92_108.2) (v := .long (S.2 40 10)) g92_249 rfl ?_
        refine V_l2i (c := cI) i92_111.1 (mM_n i92_111.2)  ?_
        exact V_msk (l1 := [none, none, none, none, none, none]) i92_112.2 rfl rfl
  · refine V_iload (c := cI) i92_62.1 (mM_n i92_62.2) rfl ?_
    refine V_aload_n (c := cI) i92_64.1 (mM_n i92_64.2) rfl rfl ?_
    refine V_gf (c := cI) i92_65.1 (mM_n i92_65.2) (v := .ref 40) g92_45 rfl ?_
    refine V_cvI (c := cI) (As := []) (rest := [.int x4]) i92_68.1 (mM_n i92_68.2) c92_253 rfl rfl rfl rfl (Nat.le_of_ble_eq_true rfl) rfl (fun r14 S13 => ?_)
    refine V_iadd (c := cI) i92_71.1 (mM_n i92_71.2)  ?_
    refine V_istore (c := cI) i92_72.1 (mM_n i92_72.2) (l1 := [some (.ref 0), some (.int x1), none, some (.int x3), some (.int (x4 + r14)), some (.int x5)])  (Nat.le_of_ble_eq_true rfl) rfl ?_
    refine V_iinc (c := cI) i92_74.1 (mM_n i92_74.2) (l1 := [some (.ref 0), some (.int x1), none, some (.int x3), some (.int (x4 + r14)), some (.int (x5 + 1))]) rfl rfl rfl ?_
    refine V_goto (c := cI) i92_77.1 (mM_n i92_77.2) rfl ?_
    exact V_msk (l1 := [some (.ref 0), some (.int x1), none, some (.int x3), some (.int (x4 + r14)), some (.int (x5 + 1))]) i92_56.2 rfl rfl
theorem k_Top_crowd_112_eq {xs0 : Int32}  {S : Mem} : k_Top_crowd_112 xs0 S = some (xs0, S) := by
  show cI (mV oS X0 92 112 [none, none, none, none, none, none] [.int xs0] S) = _
  exact V_iret i92_112.1 (mM_s i92_112.2 rfl) rfl
theorem f_Top_image_eq   {S : Mem} : f_Top_image  S = if (S.1 0 8) = 0 then some ((-103), S) else bU (f_Town_become 27 14 S) (fun S2 => some ((S2.1 14 3), u1 S2 0 9 1)) := by
  show cI (mV oS X0 93 0 [some (.ref 0)] [] S) = _
  refine V_aload_n (c := cI) i93_0.1 (mM_n i93_0.2) rfl rfl ?_
  refine V_gf (c := cI) i93_1.1 (mM_n i93_1.2) (v := .int (S.1 0 8)) g93_65 rfl ?_
  refine V_if_ne (c := cI) i93_4.1 (mM_n i93_4.2) rfl (fun _ => ?_) (fun _ => ?_)
  · refine V_bipush (c := cI) i93_7.1 (mM_n i93_7.2) (v := (-103)) rfl ?_
    exact V_iret i93_9.1 (mM_n i93_9.2) rfl
  · refine V_aload_n (c := cI) i93_10.1 (mM_n i93_10.2) rfl rfl ?_
    refine V_gf (c := cI) i93_11.1 (mM_n i93_11.2) (v := .ref 27) g93_37 rfl ?_
    refine V_aload_n (c := cI) i93_14.1 (mM_n i93_14.2) rfl rfl ?_
    refine V_gf (c := cI) i93_15.1 (mM_n i93_15.2) (v := .ref 14) g93_33 rfl ?_
    refine V_cvU (c := cI) (As := [.ref 14]) (rest := []) i93_18.1 (mM_n i93_18.2) c93_259 rfl (cl_sh (isT_o isT_27)) rfl rfl (Nat.le_of_ble_eq_true rfl) rfl (fun S2 => ?_)
    refine V_aload_n (c := cI) i93_21.1 (mM_n i93_21.2) rfl rfl ?_
    refine V_iconst (c := cI) i93_22.1 (mM_n i93_22.2) (v := 1) rfl ?_
    refine V_pf (c := cI) i93_23.1 (mM_n i93_23.2) p93_69 (pf_z rfl rfl rfl (by decide)) ?_
    refine V_aload_n (c := cI) i93_26.1 (mM_n i93_26.2) rfl rfl ?_
    refine V_gf (c := cI) i93_27.1 (mM_n i93_27.2) (v := .ref 14) g93_33 rfl ?_
    refine V_gf (c := cI) i93_30.1 (mM_n i93_30.2) (v := .int (S2.1 14 3)) g93_204 (gf_i (isT_o isT_14) rfl) ?_
    exact V_iret i93_33.1 (mM_n i93_33.2) rfl
theorem f_Top_restore_eq   {S : Mem} : f_Top_restore  S = if (S.1 0 9) = 0 then some ((-103), S) else bU (f_Town_become 14 27 S) (fun S2 => some ((S2.1 14 3), S2)) := by
  show cI (mV oS X0 94 0 [some (.ref 0)] [] S) = _
  refine V_aload_n (c := cI) i94_0.1 (mM_n i94_0.2) rfl rfl ?_
  refine V_gf (c := cI) i94_1.1 (mM_n i94_1.2) (v := .int (S.1 0 9)) g94_69 rfl ?_
  refine V_if_ne (c := cI) i94_4.1 (mM_n i94_4.2) rfl (fun _ => ?_) (fun _ => ?_)
  · refine V_bipush (c := cI) i94_7.1 (mM_n i94_7.2) (v := (-103)) rfl ?_
    exact V_iret i94_9.1 (mM_n i94_9.2) rfl
  · refine V_aload_n (c := cI) i94_10.1 (mM_n i94_10.2) rfl rfl ?_
    refine V_gf (c := cI) i94_11.1 (mM_n i94_11.2) (v := .ref 14) g94_33 rfl ?_
    refine V_aload_n (c := cI) i94_14.1 (mM_n i94_14.2) rfl rfl ?_
    refine V_gf (c := cI) i94_15.1 (mM_n i94_15.2) (v := .ref 27) g94_37 rfl ?_
    refine V_cvU (c := cI) (As := [.ref 27]) (rest := []) i94_18.1 (mM_n i94_18.2) c94_259 rfl (cl_sh (isT_o isT_14)) rfl rfl (Nat.le_of_ble_eq_true rfl) rfl (fun S2 => ?_)
    refine V_aload_n (c := cI) i94_21.1 (mM_n i94_21.2) rfl rfl ?_
    refine V_gf (c := cI) i94_22.1 (mM_n i94_22.2) (v := .ref 14) g94_33 rfl ?_
    refine V_gf (c := cI) i94_25.1 (mM_n i94_25.2) (v := .int (S2.1 14 3)) g94_204 (gf_i (isT_o isT_14) rfl) ?_
    exact V_iret i94_28.1 (mM_n i94_28.2) rfl
theorem f_Top_count_eq {x1 : Int32}  {S : Mem} : f_Top_count x1 S = if x1 = 0 then some ((S.1 7 3), S) else if x1 = 1 then bI (f_Net_wideOnes S) (fun r6 S5 => some (r6, S5)) else if x1 = 2 then some ((S.1 14 1), S) else if x1 = 3 then bI (f_Town_atGoals 14 S) (fun r8 S7 => some (r8, S7)) else if x1 = 4 then some ((S.1 14 3), S) else if x1 = 5 then some ((S.1 1 1), S) else if x1 = 6 then some ((S.1 0 10), S) else if x1 = 7 then some ((S.1 0 11), S) else if x1 = 8 then if (S.1 7 4) = 0 then k_Top_count_129 0 S else k_Top_count_129 1 S else if x1 = 9 then if (S.1 7 5) = 0 then k_Top_count_145 0 S else k_Top_count_145 1 S else some ((-102), S) := by
  show cI (mV oS X0 95 0 [some (.ref 0), some (.int x1)] [] S) = _
  refine V_iload_n (c := cI) i95_0.1 (mM_n i95_0.2) rfl ?_
  refine V_ite (fun hc0 => ?_) (fun hc0 => ?_)
  · refine V_sw (c := cI) i95_1.1 (mM_n i95_1.2) (o := 55) (by rw [hc0]; rfl) rfl ?_
    refine V_aload_n (c := cI) i95_56.1 (mM_n i95_56.2) rfl rfl ?_
    refine V_gf (c := cI) i95_57.1 (mM_n i95_57.2) (v := .ref 7) g95_26 rfl ?_
    refine V_gf (c := cI) i95_60.1 (mM_n i95_60.2) (v := .int (S.1 7 3)) g95_109 rfl ?_
    exact V_iret i95_63.1 (mM_n i95_63.2) rfl
  ·
    refine V_ite (fun hc1 => ?_) (fun hc1 => ?_)
    · refine V_sw (c := cI) i95_1.1 (mM_n i95_1.2) (o := 63) (by rw [hc1]; rfl) rfl ?_
      refine V_aload_n (c := cI) i95_64.1 (mM_n i95_64.2) rfl rfl ?_
      refine V_gf (c := cI) i95_65.1 (mM_n i95_65.2) (v := .ref 7) g95_26 rfl ?_
      refine V_cvI (c := cI) (As := []) (rest := []) i95_68.1 (mM_n i95_68.2) c95_262 rfl rfl rfl rfl (Nat.le_of_ble_eq_true rfl) rfl (fun r6 S5 => ?_)
      exact V_iret i95_71.1 (mM_n i95_71.2) rfl
    ·
      refine V_ite (fun hc2 => ?_) (fun hc2 => ?_)
      · refine V_sw (c := cI) i95_1.1 (mM_n i95_1.2) (o := 71) (by rw [hc2]; rfl) rfl ?_
        refine V_aload_n (c := cI) i95_72.1 (mM_n i95_72.2) rfl rfl ?_
        refine V_gf (c := cI) i95_73.1 (mM_n i95_73.2) (v := .ref 14) g95_33 rfl ?_
        refine V_gf (c := cI) i95_76.1 (mM_n i95_76.2) (v := .int (S.1 14 1)) g95_137 (gf_i (isT_o isT_14) rfl) ?_
        exact V_iret i95_79.1 (mM_n i95_79.2) rfl
      ·
        refine V_ite (fun hc3 => ?_) (fun hc3 => ?_)
        · refine V_sw (c := cI) i95_1.1 (mM_n i95_1.2) (o := 79) (by rw [hc3]; rfl) rfl ?_
          refine V_aload_n (c := cI) i95_80.1 (mM_n i95_80.2) rfl rfl ?_
          refine V_gf (c := cI) i95_81.1 (mM_n i95_81.2) (v := .ref 14) g95_33 rfl ?_
          refine V_cvI (c := cI) (As := []) (rest := []) i95_84.1 (mM_n i95_84.2) c95_265 rfl (cl_sh (isT_o isT_14)) rfl rfl (Nat.le_of_ble_eq_true rfl) rfl (fun r8 S7 => ?_)
          exact V_iret i95_87.1 (mM_n i95_87.2) rfl
        ·
          refine V_ite (fun hc4 => ?_) (fun hc4 => ?_)
          · refine V_sw (c := cI) i95_1.1 (mM_n i95_1.2) (o := 87) (by rw [hc4]; rfl) rfl ?_
            refine V_aload_n (c := cI) i95_88.1 (mM_n i95_88.2) rfl rfl ?_
            refine V_gf (c := cI) i95_89.1 (mM_n i95_89.2) (v := .ref 14) g95_33 rfl ?_
            refine V_gf (c := cI) i95_92.1 (mM_n i95_92.2) (v := .int (S.1 14 3)) g95_204 (gf_i (isT_o isT_14) rfl) ?_
            exact V_iret i95_95.1 (mM_n i95_95.2) rfl
          ·
            refine V_ite (fun hc5 => ?_) (fun hc5 => ?_)
            · refine V_sw (c := cI) i95_1.1 (mM_n i95_1.2) (o := 95) (by rw [hc5]; rfl) rfl ?_
              refine V_aload_n (c := cI) i95_96.1 (mM_n i95_96.2) rfl rfl ?_
              refine V_gf (c := cI) i95_97.1 (mM_n i95_97.2) (v := .ref 1) g95_12 rfl ?_
              refine V_gf (c := cI) i95_100.1 (mM_n i95_100.2) (v := .int (S.1 1 1)) g95_83 rfl ?_
              exact V_iret i95_103.1 (mM_n i95_103.2) rfl
            ·
              refine V_ite (fun hc6 => ?_) (fun hc6 => ?_)
              · refine V_sw (c := cI) i95_1.1 (mM_n i95_1.2) (o := 103) (by rw [hc6]; rfl) rfl ?_
                refine V_aload_n (c := cI) i95_104.1 (mM_n i95_104.2) rfl rfl ?_
                refine V_gf (c := cI) i95_105.1 (mM_n i95_105.2) (v := .int (S.1 0 10)) g95_72 rfl ?_
                exact V_iret i95_108.1 (mM_n i95_108.2) rfl
              ·
                refine V_ite (fun hc7 => ?_) (fun hc7 => ?_)
                · refine V_sw (c := cI) i95_1.1 (mM_n i95_1.2) (o := 108) (by rw [hc7]; rfl) rfl ?_
                  refine V_aload_n (c := cI) i95_109.1 (mM_n i95_109.2) rfl rfl ?_
                  refine V_gf (c := cI) i95_110.1 (mM_n i95_110.2) (v := .int (S.1 0 11)) g95_76 rfl ?_
                  exact V_iret i95_113.1 (mM_n i95_113.2) rfl
                ·
                  refine V_ite (fun hc8 => ?_) (fun hc8 => ?_)
                  · refine V_sw (c := cI) i95_1.1 (mM_n i95_1.2) (o := 113) (by rw [hc8]; rfl) rfl ?_
                    refine V_aload_n (c := cI) i95_114.1 (mM_n i95_114.2) rfl rfl ?_
                    refine V_gf (c := cI) i95_115.1 (mM_n i95_115.2) (v := .ref 7) g95_26 rfl ?_
                    refine V_gf (c := cI) i95_118.1 (mM_n i95_118.2) (v := .int (S.1 7 4)) g95_266 rfl ?_
                    refine V_if_eq (c := cI) i95_121.1 (mM_n i95_121.2) rfl (fun _ => ?_) (fun _ => ?_)
                    · refine V_iconst (c := cI) i95_128.1 (mM_n i95_128.2) (v := 0) rfl ?_
                      exact V_msk (l1 := [none, none]) i95_129.2 rfl rfl
                    · refine V_iconst (c := cI) i95_124.1 (mM_n i95_124.2) (v := 1) rfl ?_
                      refine V_goto (c := cI) i95_125.1 (mM_n i95_125.2) rfl ?_
                      exact V_msk (l1 := [none, none]) i95_129.2 rfl rfl
                  ·
                    refine V_ite (fun hc9 => ?_) (fun hc9 => ?_)
                    · refine V_sw (c := cI) i95_1.1 (mM_n i95_1.2) (o := 129) (by rw [hc9]; rfl) rfl ?_
                      refine V_aload_n (c := cI) i95_130.1 (mM_n i95_130.2) rfl rfl ?_
                      refine V_gf (c := cI) i95_131.1 (mM_n i95_131.2) (v := .ref 7) g95_26 rfl ?_
                      refine V_gf (c := cI) i95_134.1 (mM_n i95_134.2) (v := .int (S.1 7 5)) g95_269 rfl ?_
                      refine V_if_eq (c := cI) i95_137.1 (mM_n i95_137.2) rfl (fun _ => ?_) (fun _ => ?_)
                      · refine V_iconst (c := cI) i95_144.1 (mM_n i95_144.2) (v := 0) rfl ?_
                        exact V_msk (l1 := [none, none]) i95_145.2 rfl rfl
                      · refine V_iconst (c := cI) i95_140.1 (mM_n i95_140.2) (v := 1) rfl ?_
                        refine V_goto (c := cI) i95_141.1 (mM_n i95_141.2) rfl ?_
                        exact V_msk (l1 := [none, none]) i95_145.2 rfl rfl
                    ·
                      refine V_sw (c := cI) i95_1.1 (mM_n i95_1.2) (sw_o (n := 10) (by decide) (lt_s (lt_s (lt_s (lt_s (lt_s (lt_s (lt_s (lt_s (lt_s (lt_s lt_0 hc0) hc1) hc2) hc3) hc4) hc5) hc6) hc7) hc8) hc9)) rfl ?_
                      refine V_bipush (c := cI) i95_146.1 (mM_n i95_146.2) (v := (-102)) rfl ?_
                      exact V_iret i95_148.1 (mM_n i95_148.2) rfl
theorem k_Top_count_129_eq {xs0 : Int32}  {S : Mem} : k_Top_count_129 xs0 S = some (xs0, S) := by
  show cI (mV oS X0 95 129 [none, none] [.int xs0] S) = _
  exact V_iret i95_129.1 (mM_s i95_129.2 rfl) rfl
theorem k_Top_count_145_eq {xs0 : Int32}  {S : Mem} : k_Top_count_145 xs0 S = some (xs0, S) := by
  show cI (mV oS X0 95 145 [none, none] [.int xs0] S) = _
  exact V_iret i95_145.1 (mM_s i95_145.2 rfl) rfl
theorem f_Top_digest_eq   {S : Mem} : f_Top_digest  S = k_Top_digest_6 617 0 S := by
  show cJ (mV oS X0 96 0 [some (.ref 0), none, none, none, none] [] S) = _
  refine V_ldc2_w (c := cJ) i96_0.1 (mM_n i96_0.2) q96_272 ?_
  refine V_lstore_n (c := cJ) i96_3.1 (mM_n i96_3.2) (l1 := [some (.ref 0), some (.long 617), none, none, none])  (Nat.le_of_ble_eq_true rfl) rfl ?_
  refine V_iconst (c := cJ) i96_4.1 (mM_n i96_4.2) (v := 0) rfl ?_
  refine V_istore_n (c := cJ) i96_5.1 (mM_n i96_5.2) (l1 := [some (.ref 0), some (.long 617), none, some (.int 0), none])  (Nat.le_of_ble_eq_true rfl) rfl ?_
  exact V_msk (l1 := [some (.ref 0), some (.long 617), none, some (.int 0), none]) i96_6.2 rfl rfl
theorem k_Top_digest_6_eq {j1 : Int64} {x3 : Int32}  {S : Mem} : k_Top_digest_6 j1 x3 S = if (S.1 7 3) ≤ x3 then k_Top_digest_55 j1 0 S else k_Top_digest_20 j1 x3 0 S := by
  show cJ (mV oS X0 96 6 [some (.ref 0), some (.long j1), none, some (.int x3), none] [] S) = _
  refine V_iload_n (c := cJ) i96_6.1 (mM_s i96_6.2 rfl) rfl ?_
  refine V_aload_n (c := cJ) i96_7.1 (mM_n i96_7.2) rfl rfl ?_
  refine V_gf (c := cJ) i96_8.1 (mM_n i96_8.2) (v := .ref 7) g96_26 rfl ?_
  refine V_gf (c := cJ) i96_11.1 (mM_n i96_11.2) (v := .int (S.1 7 3)) g96_109 rfl ?_
  refine V_icmp_ge (c := cJ) i96_14.1 (mM_n i96_14.2) rfl (fun _ => ?_) (fun _ => ?_)
  · refine V_iconst (c := cJ) i96_53.1 (mM_n i96_53.2) (v := 0) rfl ?_
    refine V_istore_n (c := cJ) i96_54.1 (mM_n i96_54.2) (l1 := [some (.ref 0), some (.long j1), none, some (.int 0), none])  (Nat.le_of_ble_eq_true rfl) rfl ?_
    exact V_msk (l1 := [some (.ref 0), some (.long j1), none, some (.int 0), none]) i96_55.2 rfl rfl
  · refine V_iconst (c := cJ) i96_17.1 (mM_n i96_17.2) (v := 0) rfl ?_
    refine V_istore (c := cJ) i96_18.1 (mM_n i96_18.2) (l1 := [some (.ref 0), some (.long j1), none, some (.int x3), some (.int 0)])  (Nat.le_of_ble_eq_true rfl) rfl ?_
    exact V_msk (l1 := [some (.ref 0), some (.long j1), none, some (.int x3), some (.int 0)]) i96_20.2 rfl rfl
theorem k_Top_digest_20_eq {j1 : Int64} {x3 : Int32} {x4 : Int32}  {S : Mem} : k_Top_digest_20 j1 x3 x4 S = if 2 < x4 then k_Top_digest_6 j1 (x3 + 1) S else bI (f_Top_lane x3 x4 S) (fun r14 S13 => k_Top_digest_20 ((31 * j1) + r14.toInt64) x3 (x4 + 1) S13) := by
  show cJ (mV oS X0 96 20 [some (.ref 0), some (.long j1), none, some (.int x3), some (.int x4)] [] S) = _
  refine V_iload (c := cJ) i96_20.1 (mM_s i96_20.2 rfl) rfl ?_
  refine V_iconst (c := cJ) i96_22.1 (mM_n i96_22.2) (v := 2) rfl ?_
  refine V_icmp_gt (c := cJ) i96_23.1 (mM_n i96_23.2) rfl (fun _ => ?_) (fun _ => ?_)
  · refine V_iinc (c := cJ) i96_47.1 (mM_n i96_47.2) (l1 := [some (.ref 0), some (.long j1), none, some (.int (x3 + 1)), some (.int x4)]) rfl rfl rfl ?_
    refine V_goto (c := cJ) i96_50.1 (mM_n i96_50.2) rfl ?_
    exact V_msk (l1 := [some (.ref 0), some (.long j1), none, some (.int (x3 + 1)), none]) i96_6.2 rfl rfl
  · refine V_ldc2_w (c := cJ) i96_26.1 (mM_n i96_26.2) q96_274 ?_
    refine V_lload_n (c := cJ) i96_29.1 (mM_n i96_29.2) rfl ?_
    refine V_lmul (c := cJ) i96_30.1 (mM_n i96_30.2)  ?_
    refine V_aload_n (c := cJ) i96_31.1 (mM_n i96_31.2) rfl rfl ?_
    refine V_iload_n (c := cJ) i96_32.1 (mM_n i96_32.2) rfl ?_
    refine V_iload (c := cJ) i96_33.1 (mM_n i96_33.2) rfl ?_
    refine V_cvI (c := cJ) (As := [.int x3, .int x4]) (rest := [.long (31 * j1)]) i96_35.1 (mM_n i96_35.2) c96_276 rfl rfl rfl rfl (Nat.le_of_ble_eq_true rfl) rfl (fun r14 S13 => ?_)
    refine V_i2l (c := cJ) i96_38.1 (mM_n i96_38.2)  ?_
    refine V_ladd (c := cJ) i96_39.1 (mM_n i96_39.2)  ?_
    refine V_lstore_n (c := cJ) i96_40.1 (mM_n i96_40.2) (l1 := [some (.ref 0), some (.long ((31 * j1) + r14.toInt64)), none, some (.int x3), some (.int x4)])  (Nat.le_of_ble_eq_true rfl) rfl ?_
    refine V_iinc (c := cJ) i96_41.1 (mM_n i96_41.2) (l1 := [some (.ref 0), some (.long ((31 * j1) + r14.toInt64)), none, some (.int x3), some (.int (x4 + 1))]) rfl rfl rfl ?_
    refine V_goto (c := cJ) i96_44.1 (mM_n i96_44.2) rfl ?_
    exact V_msk (l1 := [some (.ref 0), some (.long ((31 * j1) + r14.toInt64)), none, some (.int x3), some (.int (x4 + 1))]) i96_20.2 rfl rfl
theorem k_Top_digest_55_eq {j1 : Int64} {x3 : Int32}  {S : Mem} : k_Top_digest_55 j1 x3 S = if (S.1 14 1) ≤ x3 then k_Top_digest_81 j1 0 S else bJ (f_Top_withWalker j1 x3 S) (fun r16 S15 => k_Top_digest_55 r16 (x3 + 1) S15) := by
  show cJ (mV oS X0 96 55 [some (.ref 0), some (.long j1), none, some (.int x3), none] [] S) = _
  refine V_iload_n (c := cJ) i96_55.1 (mM_s i96_55.2 rfl) rfl ?_
  refine V_aload_n (c := cJ) i96_56.1 (mM_n i96_56.2) rfl rfl ?_
  refine V_gf (c := cJ) i96_57.1 (mM_n i96_57.2) (v := .ref 14) g96_33 rfl ?_
  refine V_gf (c := cJ) i96_60.1 (mM_n i96_60.2) (v := .int (S.1 14 1)) g96_137 (gf_i (isT_o isT_14) rfl) ?_
  refine V_icmp_ge (c := cJ) i96_63.1 (mM_n i96_63.2) rfl (fun _ => ?_) (fun _ => ?_)
  · refine V_iconst (c := cJ) i96_79.1 (mM_n i96_79.2) (v := 0) rfl ?_
    refine V_istore_n (c := cJ) i96_80.1 (mM_n i96_80.2) (l1 := [some (.ref 0), some (.long j1), none, some (.int 0), none])  (Nat.le_of_ble_eq_true rfl) rfl ?_
    exact V_msk (l1 := [some (.ref 0), some (.long j1), none, some (.int 0), none]) i96_81.2 rfl rfl
  · refine V_aload_n (c := cJ) i96_66.1 (mM_n i96_66.2) rfl rfl ?_
    refine V_lload_n (c := cJ) i96_67.1 (mM_n i96_67.2) rfl ?_
    refine V_iload_n (c := cJ) i96_68.1 (mM_n i96_68.2) rfl ?_
    refine V_cvJ (c := cJ) (As := [.long j1, .int x3]) (rest := []) i96_69.1 (mM_n i96_69.2) c96_279 rfl rfl rfl rfl (Nat.le_of_ble_eq_true rfl) rfl (fun r16 S15 => ?_)
    refine V_lstore_n (c := cJ) i96_72.1 (mM_n i96_72.2) (l1 := [some (.ref 0), some (.long r16), none, some (.int x3), none])  (Nat.le_of_ble_eq_true rfl) rfl ?_
    refine V_iinc (c := cJ) i96_73.1 (mM_n i96_73.2) (l1 := [some (.ref 0), some (.long r16), none, some (.int (x3 + 1)), none]) rfl rfl rfl ?_
    refine V_goto (c := cJ) i96_76.1 (mM_n i96_76.2) rfl ?_
    exact V_msk (l1 := [some (.ref 0), some (.long r16), none, some (.int (x3 + 1)), none]) i96_55.2 rfl rfl
theorem k_Top_digest_81_eq {j1 : Int64} {x3 : Int32}  {S : Mem} : k_Top_digest_81 j1 x3 S = if (S.1 0 8) = 0 then k_Top_digest_117 j1 S else if 8 ≤ x3 then k_Top_digest_117 j1 S else if inb x3 8 = true then k_Top_digest_81 ((31 * j1) + ((S.1 (14 + 2) (x3.toNatClampNeg)).toInt64)) (x3 + 1) S else none := by
  show cJ (mV oS X0 96 81 [some (.ref 0), some (.long j1), none, some (.int x3), none] [] S) = _
  refine V_aload_n (c := cJ) i96_81.1 (mM_s i96_81.2 rfl) rfl rfl ?_
  refine V_gf (c := cJ) i96_82.1 (mM_n i96_82.2) (v := .int (S.1 0 8)) g96_65 rfl ?_
  refine V_if_eq (c := cJ) i96_85.1 (mM_n i96_85.2) rfl (fun _ => ?_) (fun _ => ?_)
  · exact V_msk (l1 := [some (.ref 0), some (.long j1), none, none, none]) i96_117.2 rfl rfl
  · refine V_iload_n (c := cJ) i96_88.1 (mM_n i96_88.2) rfl ?_
    refine V_bipush (c := cJ) i96_89.1 (mM_n i96_89.2) (v := 8) rfl ?_
    refine V_icmp_ge (c := cJ) i96_91.1 (mM_n i96_91.2) rfl (fun _ => ?_) (fun _ => ?_)
    · exact V_msk (l1 := [some (.ref 0), some (.long j1), none, none, none]) i96_117.2 rfl rfl
    · refine V_ldc2_w (c := cJ) i96_94.1 (mM_n i96_94.2) q96_274 ?_
      refine V_lload_n (c := cJ) i96_97.1 (mM_n i96_97.2) rfl ?_
      refine V_lmul (c := cJ) i96_98.1 (mM_n i96_98.2)  ?_
      refine V_aload_n (c := cJ) i96_99.1 (mM_n i96_99.2) rfl rfl ?_
      refine V_gf (c := cJ) i96_100.1 (mM_n i96_100.2) (v := .ref 14) g96_33 rfl ?_
      refine V_gf (c := cJ) i96_103.1 (mM_n i96_103.2) (v := .ref (14 + 2)) g96_188 (gf_r (isT_o isT_14) rfl) ?_
      refine V_iload_n (c := cJ) i96_106.1 (mM_n i96_106.2) rfl ?_
      refine V_iaload (c := cJ) i96_107.1 (mM_n i96_107.2) (isT_h isT_14) rfl (fun _ => ?_)
      refine V_i2l (c := cJ) i96_108.1 (mM_n i96_108.2)  ?_
      refine V_ladd (c := cJ) i96_109.1 (mM_n i96_109.2)  ?_
      refine V_lstore_n (c := cJ) i96_110.1 (mM_n i96_110.2) (l1 := [some (.ref 0), some (.long ((31 * j1) + ((S.1 (14 + 2) (x3.toNatClampNeg)).toInt64))), none, some (.int x3), none])  (Nat.le_of_ble_eq_true rfl) rfl ?_
      refine V_iinc (c := cJ) i96_111.1 (mM_n i96_111.2) (l1 := [some (.ref 0), some (.long ((31 * j1) + ((S.1 (14 + 2) (x3.toNatClampNeg)).toInt64))), none, some (.int (x3 + 1)), none]) rfl rfl rfl ?_
      refine V_goto (c := cJ) i96_114.1 (mM_n i96_114.2) rfl ?_
      exact V_msk (l1 := [some (.ref 0), some (.long ((31 * j1) + ((S.1 (14 + 2) (x3.toNatClampNeg)).toInt64))), none, some (.int (x3 + 1)), none]) i96_81.2 rfl rfl
theorem k_Top_digest_117_eq {j1 : Int64}  {S : Mem} : k_Top_digest_117 j1 S = k_Top_digest_119 j1 0 S := by
  show cJ (mV oS X0 96 117 [some (.ref 0), some (.long j1), none, none, none] [] S) = _
  refine V_iconst (c := cJ) i96_117.1 (mM_s i96_117.2 rfl) (v := 0) rfl ?_
  refine V_istore_n (c := cJ) i96_118.1 (mM_n i96_118.2) (l1 := [some (.ref 0), some (.long j1), none, some (.int 0), none])  (Nat.le_of_ble_eq_true rfl) rfl ?_
  exact V_msk (l1 := [some (.ref 0), some (.long j1), none, some (.int 0), none]) i96_119.2 rfl rfl
theorem k_Top_digest_119_eq {j1 : Int64} {x3 : Int32}  {S : Mem} : k_Top_digest_119 j1 x3 S = if 2 < x3 then bI (f_Loads_waysFor (((1 : Int32) <<< ((if (3 : Int32) < (S.1 14 1) then (3 : Int32) else (S.1 14 1)) &&& 31)) - 1) S) (fun r18 S17 => k_Top_digest_175 ((31 * j1) + r18.toInt64) 0 S17) else bI (f_Top_first x3 S) (fun r20 S19 => k_Top_digest_119 ((31 * j1) + r20.toInt64) (x3 + 1) S19) := by
  show cJ (mV oS X0 96 119 [some (.ref 0), some (.long j1), none, some (.int x3), none] [] S) = _
  refine V_iload_n (c := cJ) i96_119.1 (mM_s i96_119.2 rfl) rfl ?_
  refine V_iconst (c := cJ) i96_120.1 (mM_n i96_120.2) (v := 2) rfl ?_
  refine V_icmp_gt (c := cJ) i96_121.1 (mM_n i96_121.2) rfl (fun _ => ?_) (fun _ => ?_)
  · refine V_ldc2_w (c := cJ) i96_143.1 (mM_n i96_143.2) q96_274 ?_
    refine V_lload_n (c := cJ) i96_146.1 (mM_n i96_146.2) rfl ?_
    refine V_lmul (c := cJ) i96_147.1 (mM_n i96_147.2)  ?_
    refine V_aload_n (c := cJ) i96_148.1 (mM_n i96_148.2) rfl rfl ?_
    refine V_gf (c := cJ) i96_149.1 (mM_n i96_149.2) (v := .ref 47) g96_54 rfl ?_
    refine V_iconst (c := cJ) i96_152.1 (mM_n i96_152.2) (v := 1) rfl ?_
    refine V_aload_n (c := cJ) i96_153.1 (mM_n i96_153.2) rfl rfl ?_
    refine V_gf (c := cJ) i96_154.1 (mM_n i96_154.2) (v := .ref 14) g96_33 rfl ?_
    refine V_gf (c := cJ) i96_157.1 (mM_n i96_157.2) (v := .int (S.1 14 1)) g96_137 (gf_i (isT_o isT_14) rfl) ?_
    refine V_iconst (c := cJ) i96_160.1 (mM_n i96_160.2) (v := 3) rfl ?_
    refine V_min (c := cJ) i96_161.1 (mM_n i96_161.2) n96_286 x96_286 r96_x rfl ?_
    refine V_ishl (c := cJ) i96_164.1 (mM_n i96_164.2)  ?_
    refine V_iconst (c := cJ) i96_165.1 (mM_n i96_165.2) (v := 1) rfl ?_
    refine V_isub (c := cJ) i96_166.1 (mM_n i96_166.2)  ?_
    refine V_cvI (c := cJ) (As := [.int (((1 : Int32) <<< ((if (3 : Int32) < (S.1 14 1) then (3 : Int32) else (S.1 14 1)) &&& 31)) - 1)]) (rest := [.long (31 * j1)]) i96_167.1 (mM_n i96_167.2) c96_243 rfl rfl rfl rfl (Nat.le_of_ble_eq_true rfl) rfl (fun r18 S17 => ?_)
    refine V_i2l (c := cJ) i96_170.1 (mM_n i96_170.2)  ?_
    refine V_ladd (c := cJ) i96_171.1 (mM_n i96_171.2)  ?_
    refine V_lstore_n (c := cJ) i96_172.1 (mM_n i96_172.2) (l1 := [some (.ref 0), some (.long ((31 * j1) + r18.toInt64)), none, some (.int x3), none])  (Nat.le_of_ble_eq_true rfl) rfl ?_
    refine V_iconst (c := cJ) i96_173.1 (mM_n i96_173.2) (v := 0) rfl ?_
    refine V_istore_n (c := cJ) i96_174.1 (mM_n i96_174.2) (l1 := [some (.ref 0), some (.long ((31 * j1) + r18.toInt64)), none, some (.int 0), none])  (Nat.le_of_ble_eq_true rfl) rfl ?_
    exact V_msk (l1 := [some (.ref 0), some (.long ((31 * j1) + r18.toInt64)), none, some (.int 0), none]) i96_175.2 rfl rfl
  · refine V_ldc2_w (c := cJ) i96_124.1 (mM_n i96_124.2) q96_274 ?_
    refine V_lload_n (c := cJ) i96_127.1 (mM_n i96_127.2) rfl ?_
    refine V_lmul (c := cJ) i96_128.1 (mM_n i96_128.2)  ?_
    refine V_aload_n (c := cJ) i96_129.1 (mM_n i96_129.2) rfl rfl ?_
    refine V_iload_n (c := cJ) i96_130.1 (mM_n i96_130.2) rfl ?_
    refine V_cvI (c := cJ) (As := [.int x3]) (rest := [.long (31 * j1)]) i96_131.1 (mM_n i96_131.2) c96_283 rfl rfl rfl rfl (Nat.le_of_ble_eq_true rfl) rfl (fun r20 S19 => ?_)
    refine V_i2l (c := cJ) i96_134.1 (mM_n i96_134.2)  ?_
    refine V_ladd (c := cJ) i96_135.1 (mM_n i96_135.2)  ?_
    refine V_lstore_n (c := cJ) i96_136.1 (mM_n i96_136.2) (l1 := [some (.ref 0), some (.long ((31 * j1) + r20.toInt64)), none, some (.int x3), none])  (Nat.le_of_ble_eq_true rfl) rfl ?_
    refine V_iinc (c := cJ) i96_137.1 (mM_n i96_137.2) (l1 := [some (.ref 0), some (.long ((31 * j1) + r20.toInt64)), none, some (.int (x3 + 1)), none]) rfl rfl rfl ?_
    refine V_goto (c := cJ) i96_140.1 (mM_n i96_140.2) rfl ?_
    exact V_msk (l1 := [some (.ref 0), some (.long ((31 * j1) + r20.toInt64)), none, some (.int (x3 + 1)), none]) i96_119.2 rfl rfl
theorem k_Top_digest_175_eq {j1 : Int64} {x3 : Int32}  {S : Mem} : k_Top_digest_175 j1 x3 S = if (S.1 1 1) ≤ x3 then k_Top_digest_210 j1 0 S else bI (f_Page_at x3 S) (fun r22 S21 => k_Top_digest_175 ((31 * j1) + r22.toInt64) (x3 + 1) S21) := by
  show cJ (mV oS X0 96 175 [some (.ref 0), some (.long j1), none, some (.int x3), none] [] S) = _
  refine V_iload_n (c := cJ) i96_175.1 (mM_s i96_175.2 rfl) rfl ?_
  refine V_aload_n (c := cJ) i96_176.1 (mM_n i96_176.2) rfl rfl ?_
  refine V_gf (c := cJ) i96_177.1 (mM_n i96_177.2) (v := .ref 1) g96_12 rfl ?_
  refine V_gf (c := cJ) i96_180.1 (mM_n i96_180.2) (v := .int (S.1 1 1)) g96_83 rfl ?_
  refine V_icmp_ge (c := cJ) i96_183.1 (mM_n i96_183.2) rfl (fun _ => ?_) (fun _ => ?_)
  · refine V_iconst (c := cJ) i96_208.1 (mM_n i96_208.2) (v := 0) rfl ?_
    refine V_istore_n (c := cJ) i96_209.1 (mM_n i96_209.2) (l1 := [some (.ref 0), some (.long j1), none, some (.int 0), none])  (Nat.le_of_ble_eq_true rfl) rfl ?_
    exact V_msk (l1 := [some (.ref 0), some (.long j1), none, some (.int 0), none]) i96_210.2 rfl rfl
  · refine V_ldc2_w (c := cJ) i96_186.1 (mM_n i96_186.2) q96_274 ?_
    refine V_lload_n (c := cJ) i96_189.1 (mM_n i96_189.2) rfl ?_
    refine V_lmul (c := cJ) i96_190.1 (mM_n i96_190.2)  ?_
    refine V_aload_n (c := cJ) i96_191.1 (mM_n i96_191.2) rfl rfl ?_
    refine V_gf (c := cJ) i96_192.1 (mM_n i96_192.2) (v := .ref 1) g96_12 rfl ?_
    refine V_iload_n (c := cJ) i96_195.1 (mM_n i96_195.2) rfl ?_
    refine V_cvI (c := cJ) (As := [.int x3]) (rest := [.long (31 * j1)]) i96_196.1 (mM_n i96_196.2) c96_291 rfl rfl rfl rfl (Nat.le_of_ble_eq_true rfl) rfl (fun r22 S21 => ?_)
    refine V_i2l (c := cJ) i96_199.1 (mM_n i96_199.2)  ?_
    refine V_ladd (c := cJ) i96_200.1 (mM_n i96_200.2)  ?_
    refine V_lstore_n (c := cJ) i96_201.1 (mM_n i96_201.2) (l1 := [some (.ref 0), some (.long ((31 * j1) + r22.toInt64)), none, some (.int x3), none])  (Nat.le_of_ble_eq_true rfl) rfl ?_
    refine V_iinc (c := cJ) i96_202.1 (mM_n i96_202.2) (l1 := [some (.ref 0), some (.long ((31 * j1) + r22.toInt64)), none, some (.int (x3 + 1)), none]) rfl rfl rfl ?_
    refine V_goto (c := cJ) i96_205.1 (mM_n i96_205.2) rfl ?_
    exact V_msk (l1 := [some (.ref 0), some (.long ((31 * j1) + r22.toInt64)), none, some (.int (x3 + 1)), none]) i96_175.2 rfl rfl
theorem k_Top_digest_210_eq {j1 : Int64} {x3 : Int32}  {S : Mem} : k_Top_digest_210 j1 x3 S = if 9 < x3 then some (j1, S) else bI (f_Top_count x3 S) (fun r24 S23 => k_Top_digest_210 ((31 * j1) + r24.toInt64) (x3 + 1) S23) := by
  show cJ (mV oS X0 96 210 [some (.ref 0), some (.long j1), none, some (.int x3), none] [] S) = _
  refine V_iload_n (c := cJ) i96_210.1 (mM_s i96_210.2 rfl) rfl ?_
  refine V_bipush (c := cJ) i96_211.1 (mM_n i96_211.2) (v := 9) rfl ?_
  refine V_icmp_gt (c := cJ) i96_213.1 (mM_n i96_213.2) rfl (fun _ => ?_) (fun _ => ?_)
  · refine V_lload_n (c := cJ) i96_235.1 (mM_n i96_235.2) rfl ?_
    exact V_lret i96_236.1 (mM_n i96_236.2) rfl
  · refine V_ldc2_w (c := cJ) i96_216.1 (mM_n i96_216.2) q96_274 ?_
    refine V_lload_n (c := cJ) i96_219.1 (mM_n i96_219.2) rfl ?_
    refine V_lmul (c := cJ) i96_220.1 (mM_n i96_220.2)  ?_
    refine V_aload_n (c := cJ) i96_221.1 (mM_n i96_221.2) rfl rfl ?_
    refine V_iload_n (c := cJ) i96_222.1 (mM_n i96_222.2) rfl ?_
    refine V_cvI (c := cJ) (As := [.int x3]) (rest := [.long (31 * j1)]) i96_223.1 (mM_n i96_223.2) c96_294 rfl rfl rfl rfl (Nat.le_of_ble_eq_true rfl) rfl (fun r24 S23 => ?_)
    refine V_i2l (c := cJ) i96_226.1 (mM_n i96_226.2)  ?_
    refine V_ladd (c := cJ) i96_227.1 (mM_n i96_227.2)  ?_
    refine V_lstore_n (c := cJ) i96_228.1 (mM_n i96_228.2) (l1 := [some (.ref 0), some (.long ((31 * j1) + r24.toInt64)), none, some (.int x3), none])  (Nat.le_of_ble_eq_true rfl) rfl ?_
    refine V_iinc (c := cJ) i96_229.1 (mM_n i96_229.2) (l1 := [some (.ref 0), some (.long ((31 * j1) + r24.toInt64)), none, some (.int (x3 + 1)), none]) rfl rfl rfl ?_
    refine V_goto (c := cJ) i96_232.1 (mM_n i96_232.2) rfl ?_
    exact V_msk (l1 := [some (.ref 0), some (.long ((31 * j1) + r24.toInt64)), none, some (.int (x3 + 1)), none]) i96_210.2 rfl rfl
theorem f_Top_withWalker_eq {j1 : Int64} {x3 : Int32}  {S : Mem} : f_Top_withWalker j1 x3 S = k_Top_withWalker_6 x3 j1 0 S := by
  show cJ (mV oS X0 97 0 [some (.ref 0), some (.long j1), none, some (.int x3), none, none, none] [] S) = _
  refine V_lload_n (c := cJ) i97_0.1 (mM_n i97_0.2) rfl ?_
  refine V_lstore (c := cJ) i97_1.1 (mM_n i97_1.2) (l1 := [some (.ref 0), some (.long j1), none, some (.int x3), some (.long j1), none, none])  (Nat.le_of_ble_eq_true rfl) rfl ?_
  refine V_iconst (c := cJ) i97_3.1 (mM_n i97_3.2) (v := 0) rfl ?_
  refine V_istore (c := cJ) i97_4.1 (mM_n i97_4.2) (l1 := [some (.ref 0), some (.long j1), none, some (.int x3), some (.long j1), none, some (.int 0)])  (Nat.le_of_ble_eq_true rfl) rfl ?_
  exact V_msk (l1 := [some (.ref 0), none, none, some (.int x3), some (.long j1), none, some (.int 0)]) i97_6.2 rfl rfl
theorem k_Top_withWalker_6_eq {x3 : Int32} {j4 : Int64} {x6 : Int32}  {S : Mem} : k_Top_withWalker_6 x3 j4 x6 S = if 6 < x6 then k_Top_withWalker_39 x3 j4 0 S else bI (f_Top_about x3 x6 S) (fun r8 S7 => k_Top_withWalker_6 x3 ((31 * j4) + r8.toInt64) (x6 + 1) S7) := by
  show cJ (mV oS X0 97 6 [some (.ref 0), none, none, some (.int x3), some (.long j4), none, some (.int x6)] [] S) = _
  refine V_iload (c := cJ) i97_6.1 (mM_s i97_6.2 rfl) rfl ?_
  refine V_bipush (c := cJ) i97_8.1 (mM_n i97_8.2) (v := 6) rfl ?_
  refine V_icmp_gt (c := cJ) i97_10.1 (mM_n i97_10.2) rfl (fun _ => ?_) (fun _ => ?_)
  · refine V_iconst (c := cJ) i97_36.1 (mM_n i97_36.2) (v := 0) rfl ?_
    refine V_istore (c := cJ) i97_37.1 (mM_n i97_37.2) (l1 := [some (.ref 0), none, none, some (.int x3), some (.long j4), none, some (.int 0)])  (Nat.le_of_ble_eq_true rfl) rfl ?_
    exact V_msk (l1 := [some (.ref 0), none, none, some (.int x3), some (.long j4), none, some (.int 0)]) i97_39.2 rfl rfl
  · refine V_ldc2_w (c := cJ) i97_13.1 (mM_n i97_13.2) q97_274 ?_
    refine V_lload (c := cJ) i97_16.1 (mM_n i97_16.2) rfl ?_
    refine V_lmul (c := cJ) i97_18.1 (mM_n i97_18.2)  ?_
    refine V_aload_n (c := cJ) i97_19.1 (mM_n i97_19.2) rfl rfl ?_
    refine V_iload_n (c := cJ) i97_20.1 (mM_n i97_20.2) rfl ?_
    refine V_iload (c := cJ) i97_21.1 (mM_n i97_21.2) rfl ?_
    refine V_cvI (c := cJ) (As := [.int x3, .int x6]) (rest := [.long (31 * j4)]) i97_23.1 (mM_n i97_23.2) c97_297 rfl rfl rfl rfl (Nat.le_of_ble_eq_true rfl) rfl (fun r8 S7 => ?_)
    refine V_i2l (c := cJ) i97_26.1 (mM_n i97_26.2)  ?_
    refine V_ladd (c := cJ) i97_27.1 (mM_n i97_27.2)  ?_
    refine V_lstore (c := cJ) i97_28.1 (mM_n i97_28.2) (l1 := [some (.ref 0), none, none, some (.int x3), some (.long ((31 * j4) + r8.toInt64)), none, some (.int x6)])  (Nat.le_of_ble_eq_true rfl) rfl ?_
    refine V_iinc (c := cJ) i97_30.1 (mM_n i97_30.2) (l1 := [some (.ref 0), none, none, some (.int x3), some (.long ((31 * j4) + r8.toInt64)), none, some (.int (x6 + 1))]) rfl rfl rfl ?_
    refine V_goto (c := cJ) i97_33.1 (mM_n i97_33.2) rfl ?_
    exact V_msk (l1 := [some (.ref 0), none, none, some (.int x3), some (.long ((31 * j4) + r8.toInt64)), none, some (.int (x6 + 1))]) i97_6.2 rfl rfl
theorem k_Top_withWalker_39_eq {x3 : Int32} {j4 : Int64} {x6 : Int32}  {S : Mem} : k_Top_withWalker_39 x3 j4 x6 S = if (S.1 14 1) ≤ x6 then bI (f_Loads_leastFor x3 S) (fun r10 S9 => some (((31 * j4) + r10.toInt64), S9)) else if x6 = x3 then k_Top_withWalker_74 x3 j4 x6 S else bI (f_Top_pass x3 x6 S) (fun r12 S11 => k_Top_withWalker_74 x3 ((31 * j4) + r12.toInt64) x6 S11) := by
  show cJ (mV oS X0 97 39 [some (.ref 0), none, none, some (.int x3), some (.long j4), none, some (.int x6)] [] S) = _
  refine V_iload (c := cJ) i97_39.1 (mM_s i97_39.2 rfl) rfl ?_
  refine V_aload_n (c := cJ) i97_41.1 (mM_n i97_41.2) rfl rfl ?_
  refine V_gf (c := cJ) i97_42.1 (mM_n i97_42.2) (v := .ref 14) g97_33 rfl ?_
  refine V_gf (c := cJ) i97_45.1 (mM_n i97_45.2) (v := .int (S.1 14 1)) g97_137 (gf_i (isT_o isT_14) rfl) ?_
  refine V_icmp_ge (c := cJ) i97_48.1 (mM_n i97_48.2) rfl (fun _ => ?_) (fun _ => ?_)
  · refine V_ldc2_w (c := cJ) i97_80.1 (mM_n i97_80.2) q97_274 ?_
    refine V_lload (c := cJ) i97_83.1 (mM_n i97_83.2) rfl ?_
    refine V_lmul (c := cJ) i97_85.1 (mM_n i97_85.2)  ?_
    refine V_aload_n (c := cJ) i97_86.1 (mM_n i97_86.2) rfl rfl ?_
    refine V_gf (c := cJ) i97_87.1 (mM_n i97_87.2) (v := .ref 47) g97_54 rfl ?_
    refine V_iload_n (c := cJ) i97_90.1 (mM_n i97_90.2) rfl ?_
    refine V_cvI (c := cJ) (As := [.int x3]) (rest := [.long (31 * j4)]) i97_91.1 (mM_n i97_91.2) c97_237 rfl rfl rfl rfl (Nat.le_of_ble_eq_true rfl) rfl (fun r10 S9 => ?_)
    refine V_i2l (c := cJ) i97_94.1 (mM_n i97_94.2)  ?_
    refine V_ladd (c := cJ) i97_95.1 (mM_n i97_95.2)  ?_
    exact V_lret i97_96.1 (mM_n i97_96.2) rfl
  · refine V_iload (c := cJ) i97_51.1 (mM_n i97_51.2) rfl ?_
    refine V_iload_n (c := cJ) i97_53.1 (mM_n i97_53.2) rfl ?_
    refine V_icmp_eq (c := cJ) i97_54.1 (mM_n i97_54.2) rfl (fun _ => ?_) (fun _ => ?_)
    · exact V_msk (l1 := [some (.ref 0), none, none, some (.int x3), some (.long j4), none, some (.int x6)]) i97_74.2 rfl rfl
    · refine V_ldc2_w (c := cJ) i97_57.1 (mM_n i97_57.2) q97_274 ?_
      refine V_lload (c := cJ) i97_60.1 (mM_n i97_60.2) rfl ?_
      refine V_lmul (c := cJ) i97_62.1 (mM_n i97_62.2)  ?_
      refine V_aload_n (c := cJ) i97_63.1 (mM_n i97_63.2) rfl rfl ?_
      refine V_iload_n (c := cJ) i97_64.1 (mM_n i97_64.2) rfl ?_
      refine V_iload (c := cJ) i97_65.1 (mM_n i97_65.2) rfl ?_
      refine V_cvI (c := cJ) (As := [.int x3, .int x6]) (rest := [.long (31 * j4)]) i97_67.1 (mM_n i97_67.2) c97_300 rfl rfl rfl rfl (Nat.le_of_ble_eq_true rfl) rfl (fun r12 S11 => ?_)
      refine V_i2l (c := cJ) i97_70.1 (mM_n i97_70.2)  ?_
      refine V_ladd (c := cJ) i97_71.1 (mM_n i97_71.2)  ?_
      refine V_lstore (c := cJ) i97_72.1 (mM_n i97_72.2) (l1 := [some (.ref 0), none, none, some (.int x3), some (.long ((31 * j4) + r12.toInt64)), none, some (.int x6)])  (Nat.le_of_ble_eq_true rfl) rfl ?_
      exact V_msk (l1 := [some (.ref 0), none, none, some (.int x3), some (.long ((31 * j4) + r12.toInt64)), none, some (.int x6)]) i97_74.2 rfl rfl
theorem k_Top_withWalker_74_eq {x3 : Int32} {j4 : Int64} {x6 : Int32}  {S : Mem} : k_Top_withWalker_74 x3 j4 x6 S = k_Top_withWalker_39 x3 j4 (x6 + 1) S := by
  show cJ (mV oS X0 97 74 [some (.ref 0), none, none, some (.int x3), some (.long j4), none, some (.int x6)] [] S) = _
  refine V_iinc (c := cJ) i97_74.1 (mM_s i97_74.2 rfl) (l1 := [some (.ref 0), none, none, some (.int x3), some (.long j4), none, some (.int (x6 + 1))]) rfl rfl rfl ?_
  refine V_goto (c := cJ) i97_77.1 (mM_n i97_77.2) rfl ?_
  exact V_msk (l1 := [some (.ref 0), none, none, some (.int x3), some (.long j4), none, some (.int (x6 + 1))]) i97_39.2 rfl rfl
theorem f_Top_leadsOn_eq {x1 : Int32}  {S : Mem} : f_Top_leadsOn x1 S = k_Top_leadsOn_4 x1 0 S := by
  show cI (mV oS X0 98 0 [some (.ref 0), some (.int x1), none, none, none] [] S) = _
  refine V_iload_n (c := cI) i98_0.1 (mM_n i98_0.2) rfl ?_
  refine V_istore_n (c := cI) i98_1.1 (mM_n i98_1.2) (l1 := [some (.ref 0), some (.int x1), some (.int x1), none, none])  (Nat.le_of_ble_eq_true rfl) rfl ?_
  refine V_iconst (c := cI) i98_2.1 (mM_n i98_2.2) (v := 0) rfl ?_
  refine V_istore_n (c := cI) i98_3.1 (mM_n i98_3.2) (l1 := [some (.ref 0), some (.int x1), some (.int x1), some (.int 0), none])  (Nat.le_of_ble_eq_true rfl) rfl ?_
  exact V_msk (l1 := [some (.ref 0), none, some (.int x1), some (.int 0), none]) i98_4.2 rfl rfl
theorem k_Top_leadsOn_4_eq {x2 : Int32} {x3 : Int32}  {S : Mem} : k_Top_leadsOn_4 x2 x3 S = if (S.1 1 1) ≤ x3 then some (1, S) else bI (f_Page_at x3 S) (fun r6 S5 => if (r6 - 48) = x2 then k_Top_leadsOn_49 x3 (r6 - 48) S5 else bI (f_Net_joins x2 (r6 - 48) S5) (fun r8 S7 => if r8 = 0 then some (0, S7) else k_Top_leadsOn_49 x3 (r6 - 48) S7)) := by
  show cI (mV oS X0 98 4 [some (.ref 0), none, some (.int x2), some (.int x3), none] [] S) = _
  refine V_iload_n (c := cI) i98_4.1 (mM_s i98_4.2 rfl) rfl ?_
  refine V_aload_n (c := cI) i98_5.1 (mM_n i98_5.2) rfl rfl ?_
  refine V_gf (c := cI) i98_6.1 (mM_n i98_6.2) (v := .ref 1) g98_12 rfl ?_
  refine V_gf (c := cI) i98_9.1 (mM_n i98_9.2) (v := .int (S.1 1 1)) g98_83 rfl ?_
  refine V_icmp_ge (c := cI) i98_12.1 (mM_n i98_12.2) rfl (fun _ => ?_) (fun _ => ?_)
  · refine V_iconst (c := cI) i98_58.1 (mM_n i98_58.2) (v := 1) rfl ?_
    exact V_iret i98_59.1 (mM_n i98_59.2) rfl
  · refine V_aload_n (c := cI) i98_15.1 (mM_n i98_15.2) rfl rfl ?_
    refine V_gf (c := cI) i98_16.1 (mM_n i98_16.2) (v := .ref 1) g98_12 rfl ?_
    refine V_iload_n (c := cI) i98_19.1 (mM_n i98_19.2) rfl ?_
    refine V_cvI (c := cI) (As := [.int x3]) (rest := []) i98_20.1 (mM_n i98_20.2) c98_291 rfl rfl rfl rfl (Nat.le_of_ble_eq_true rfl) rfl (fun r6 S5 => ?_)
    refine V_bipush (c := cI) i98_23.1 (mM_n i98_23.2) (v := 48) rfl ?_
    refine V_isub (c := cI) i98_25.1 (mM_n i98_25.2)  ?_
    refine V_istore (c := cI) i98_26.1 (mM_n i98_26.2) (l1 := [some (.ref 0), none, some (.int x2), some (.int x3), some (.int (r6 - 48))])  (Nat.le_of_ble_eq_true rfl) rfl ?_
    refine V_iload (c := cI) i98_28.1 (mM_n i98_28.2) rfl ?_
    refine V_iload_n (c := cI) i98_30.1 (mM_n i98_30.2) rfl ?_
    refine V_icmp_eq (c := cI) i98_31.1 (mM_n i98_31.2) rfl (fun _ => ?_) (fun _ => ?_)
    · exact V_msk (l1 := [some (.ref 0), none, none, some (.int x3), some (.int (r6 - 48))]) i98_49.2 rfl rfl
    · refine V_aload_n (c := cI) i98_34.1 (mM_n i98_34.2) rfl rfl ?_
      refine V_gf (c := cI) i98_35.1 (mM_n i98_35.2) (v := .ref 7) g98_26 rfl ?_
      refine V_iload_n (c := cI) i98_38.1 (mM_n i98_38.2) rfl ?_
      refine V_iload (c := cI) i98_39.1 (mM_n i98_39.2) rfl ?_
      refine V_cvI (c := cI) (As := [.int x2, .int (r6 - 48)]) (rest := []) i98_41.1 (mM_n i98_41.2) c98_303 rfl rfl rfl rfl (Nat.le_of_ble_eq_true rfl) rfl (fun r8 S7 => ?_)
      refine V_if_ne (c := cI) i98_44.1 (mM_n i98_44.2) rfl (fun _ => ?_) (fun _ => ?_)
      · refine V_iconst (c := cI) i98_47.1 (mM_n i98_47.2) (v := 0) rfl ?_
        exact V_iret i98_48.1 (mM_n i98_48.2) rfl
      · exact V_msk (l1 := [some (.ref 0), none, none, some (.int x3), some (.int (r6 - 48))]) i98_49.2 rfl rfl
theorem k_Top_leadsOn_49_eq {x3 : Int32} {x4 : Int32}  {S : Mem} : k_Top_leadsOn_49 x3 x4 S = k_Top_leadsOn_4 x4 (x3 + 1) S := by
  show cI (mV oS X0 98 49 [some (.ref 0), none, none, some (.int x3), some (.int x4)] [] S) = _
  refine V_iload (c := cI) i98_49.1 (mM_s i98_49.2 rfl) rfl ?_
  refine V_istore_n (c := cI) i98_51.1 (mM_n i98_51.2) (l1 := [some (.ref 0), none, some (.int x4), some (.int x3), some (.int x4)])  (Nat.le_of_ble_eq_true rfl) rfl ?_
  refine V_iinc (c := cI) i98_52.1 (mM_n i98_52.2) (l1 := [some (.ref 0), none, some (.int x4), some (.int (x3 + 1)), some (.int x4)]) rfl rfl rfl ?_
  refine V_goto (c := cI) i98_55.1 (mM_n i98_55.2) rfl ?_
  exact V_msk (l1 := [some (.ref 0), none, some (.int x4), some (.int (x3 + 1)), none]) i98_4.2 rfl rfl
theorem f_Top_mayPlan_eq   {S : Mem} : f_Top_mayPlan  S = if (S.1 14 1) < 1 then k_Top_mayPlan_35 S else if 3 < (S.1 14 1) then k_Top_mayPlan_35 S else if 40 ≤ (S.1 0 11) then k_Top_mayPlan_35 S else k_Top_mayPlan_36 1 S := by
  show cI (mV oS X0 99 0 [some (.ref 0)] [] S) = _
  refine V_aload_n (c := cI) i99_0.1 (mM_n i99_0.2) rfl rfl ?_
  refine V_gf (c := cI) i99_1.1 (mM_n i99_1.2) (v := .ref 14) g99_33 rfl ?_
  refine V_gf (c := cI) i99_4.1 (mM_n i99_4.2) (v := .int (S.1 14 1)) g99_137 (gf_i (isT_o isT_14) rfl) ?_
  refine V_iconst (c := cI) i99_7.1 (mM_n i99_7.2) (v := 1) rfl ?_
  refine V_icmp_lt (c := cI) i99_8.1 (mM_n i99_8.2) rfl (fun _ => ?_) (fun _ => ?_)
  · exact V_msk (l1 := [none]) i99_35.2 rfl rfl
  · refine V_aload_n (c := cI) i99_11.1 (mM_n i99_11.2) rfl rfl ?_
    refine V_gf (c := cI) i99_12.1 (mM_n i99_12.2) (v := .ref 14) g99_33 rfl ?_
    refine V_gf (c := cI) i99_15.1 (mM_n i99_15.2) (v := .int (S.1 14 1)) g99_137 (gf_i (isT_o isT_14) rfl) ?_
    refine V_iconst (c := cI) i99_18.1 (mM_n i99_18.2) (v := 3) rfl ?_
    refine V_icmp_gt (c := cI) i99_19.1 (mM_n i99_19.2) rfl (fun _ => ?_) (fun _ => ?_)
    · exact V_msk (l1 := [none]) i99_35.2 rfl rfl
    · refine V_aload_n (c := cI) i99_22.1 (mM_n i99_22.2) rfl rfl ?_
      refine V_gf (c := cI) i99_23.1 (mM_n i99_23.2) (v := .int (S.1 0 11)) g99_76 rfl ?_
      refine V_bipush (c := cI) i99_26.1 (mM_n i99_26.2) (v := 40) rfl ?_
      refine V_icmp_ge (c := cI) i99_28.1 (mM_n i99_28.2) rfl (fun _ => ?_) (fun _ => ?_)
      · exact V_msk (l1 := [none]) i99_35.2 rfl rfl
      · refine V_iconst (c := cI) i99_31.1 (mM_n i99_31.2) (v := 1) rfl ?_
        refine V_goto (c := cI) i99_32.1 (mM_n i99_32.2) rfl ?_
        exact V_msk (l1 := [none]) i99_36.2 rfl rfl
theorem k_Top_mayPlan_35_eq   {S : Mem} : k_Top_mayPlan_35  S = k_Top_mayPlan_36 0 S := by
  show cI (mV oS X0 99 35 [none] [] S) = _
  refine V_iconst (c := cI) i99_35.1 (mM_s i99_35.2 rfl) (v := 0) rfl ?_
  exact V_msk (l1 := [none]) i99_36.2 rfl rfl
theorem k_Top_mayPlan_36_eq {xs0 : Int32}  {S : Mem} : k_Top_mayPlan_36 xs0 S = if zb xs0 = true then some (xs0, S) else none := by
  show cI (mV oS X0 99 36 [none] [.int xs0] S) = _
  exact V_iretZ i99_36.1 (mM_s i99_36.2 rfl) rfl
theorem f_Top_isSet_eq {x1 : Int32}  {S : Mem} : f_Top_isSet x1 S = if x1 < 0 then k_Top_isSet_29 S else if ((1 : Int32) <<< ((S.1 14 1) &&& 31)) ≤ x1 then k_Top_isSet_29 S else bI (f_JInt_bitCount x1 S) (fun r4 S3 => if 3 < r4 then k_Top_isSet_29 S3 else k_Top_isSet_30 1 S3) := by
  show cI (mV oS X0 100 0 [some (.ref 0), some (.int x1)] [] S) = _
  refine V_iload_n (c := cI) i100_0.1 (mM_n i100_0.2) rfl ?_
  refine V_if_lt (c := cI) i100_1.1 (mM_n i100_1.2) rfl (fun _ => ?_) (fun _ => ?_)
  · exact V_msk (l1 := [none, none]) i100_29.2 rfl rfl
  · refine V_iload_n (c := cI) i100_4.1 (mM_n i100_4.2) rfl ?_
    refine V_iconst (c := cI) i100_5.1 (mM_n i100_5.2) (v := 1) rfl ?_
    refine V_aload_n (c := cI) i100_6.1 (mM_n i100_6.2) rfl rfl ?_
    refine V_gf (c := cI) i100_7.1 (mM_n i100_7.2) (v := .ref 14) g100_33 rfl ?_
    refine V_gf (c := cI) i100_10.1 (mM_n i100_10.2) (v := .int (S.1 14 1)) g100_137 (gf_i (isT_o isT_14) rfl) ?_
    refine V_ishl (c := cI) i100_13.1 (mM_n i100_13.2)  ?_
    refine V_icmp_ge (c := cI) i100_14.1 (mM_n i100_14.2) rfl (fun _ => ?_) (fun _ => ?_)
    · exact V_msk (l1 := [none, none]) i100_29.2 rfl rfl
    · refine V_iload_n (c := cI) i100_17.1 (mM_n i100_17.2) rfl ?_
      refine V_ciI (c := cI) (As := [.int x1]) (rest := []) i100_18.1 (mM_n i100_18.2) c100_307 rfl rfl rfl (Nat.le_of_ble_eq_true rfl) rfl (fun r4 S3 => ?_)
      refine V_iconst (c := cI) i100_21.1 (mM_n i100_21.2) (v := 3) rfl ?_
      refine V_icmp_gt (c := cI) i100_22.1 (mM_n i100_22.2) rfl (fun _ => ?_) (fun _ => ?_)
      · exact V_msk (l1 := [none, none]) i100_29.2 rfl rfl
      · refine V_iconst (c := cI) i100_25.1 (mM_n i100_25.2) (v := 1) rfl ?_
        refine V_goto (c := cI) i100_26.1 (mM_n i100_26.2) rfl ?_
        exact V_msk (l1 := [none, none]) i100_30.2 rfl rfl
theorem k_Top_isSet_29_eq   {S : Mem} : k_Top_isSet_29  S = k_Top_isSet_30 0 S := by
  show cI (mV oS X0 100 29 [none, none] [] S) = _
  refine V_iconst (c := cI) i100_29.1 (mM_s i100_29.2 rfl) (v := 0) rfl ?_
  exact V_msk (l1 := [none, none]) i100_30.2 rfl rfl
theorem k_Top_isSet_30_eq {xs0 : Int32}  {S : Mem} : k_Top_isSet_30 xs0 S = if zb xs0 = true then some (xs0, S) else none := by
  show cI (mV oS X0 100 30 [none, none] [.int xs0] S) = _
  exact V_iretZ i100_30.1 (mM_s i100_30.2 rfl) rfl
theorem f_Top_isCorner_eq {x0 : Int32}  {S : Mem} : f_Top_isCorner x0 S = if x0 < 0 then k_Top_isCorner_14 S else if 8 ≤ x0 then k_Top_isCorner_14 S else k_Top_isCorner_15 1 S := by
  show cI (mV oS X0 101 0 [some (.int x0)] [] S) = _
  refine V_iload_n (c := cI) i101_0.1 (mM_n i101_0.2) rfl ?_
  refine V_if_lt (c := cI) i101_1.1 (mM_n i101_1.2) rfl (fun _ => ?_) (fun _ => ?_)
  · exact V_msk (l1 := [none]) i101_14.2 rfl rfl
  · refine V_iload_n (c := cI) i101_4.1 (mM_n i101_4.2) rfl ?_
    refine V_bipush (c := cI) i101_5.1 (mM_n i101_5.2) (v := 8) rfl ?_
    refine V_icmp_ge (c := cI) i101_7.1 (mM_n i101_7.2) rfl (fun _ => ?_) (fun _ => ?_)
    · exact V_msk (l1 := [none]) i101_14.2 rfl rfl
    · refine V_iconst (c := cI) i101_10.1 (mM_n i101_10.2) (v := 1) rfl ?_
      refine V_goto (c := cI) i101_11.1 (mM_n i101_11.2) rfl ?_
      exact V_msk (l1 := [none]) i101_15.2 rfl rfl
theorem k_Top_isCorner_14_eq   {S : Mem} : k_Top_isCorner_14  S = k_Top_isCorner_15 0 S := by
  show cI (mV oS X0 101 14 [none] [] S) = _
  refine V_iconst (c := cI) i101_14.1 (mM_s i101_14.2 rfl) (v := 0) rfl ?_
  exact V_msk (l1 := [none]) i101_15.2 rfl rfl
theorem k_Top_isCorner_15_eq {xs0 : Int32}  {S : Mem} : k_Top_isCorner_15 xs0 S = if zb xs0 = true then some (xs0, S) else none := by
  show cI (mV oS X0 101 15 [none] [.int xs0] S) = _
  exact V_iretZ i101_15.1 (mM_s i101_15.2 rfl) rfl
theorem f_Top_isKind_eq {x0 : Int32}  {S : Mem} : f_Top_isKind x0 S = if x0 < 0 then k_Top_isKind_13 S else if 3 < x0 then k_Top_isKind_13 S else k_Top_isKind_14 1 S := by
  show cI (mV oS X0 102 0 [some (.int x0)] [] S) = _
  refine V_iload_n (c := cI) i102_0.1 (mM_n i102_0.2) rfl ?_
  refine V_if_lt (c := cI) i102_1.1 (mM_n i102_1.2) rfl (fun _ => ?_) (fun _ => ?_)
  · exact V_msk (l1 := [none]) i102_13.2 rfl rfl
  · refine V_iload_n (c := cI) i102_4.1 (mM_n i102_4.2) rfl ?_
    refine V_iconst (c := cI) i102_5.1 (mM_n i102_5.2) (v := 3) rfl ?_
    refine V_icmp_gt (c := cI) i102_6.1 (mM_n i102_6.2) rfl (fun _ => ?_) (fun _ => ?_)
    · exact V_msk (l1 := [none]) i102_13.2 rfl rfl
    · refine V_iconst (c := cI) i102_9.1 (mM_n i102_9.2) (v := 1) rfl ?_
      refine V_goto (c := cI) i102_10.1 (mM_n i102_10.2) rfl ?_
      exact V_msk (l1 := [none]) i102_14.2 rfl rfl
theorem k_Top_isKind_13_eq   {S : Mem} : k_Top_isKind_13  S = k_Top_isKind_14 0 S := by
  show cI (mV oS X0 102 13 [none] [] S) = _
  refine V_iconst (c := cI) i102_13.1 (mM_s i102_13.2 rfl) (v := 0) rfl ?_
  exact V_msk (l1 := [none]) i102_14.2 rfl rfl
theorem k_Top_isKind_14_eq {xs0 : Int32}  {S : Mem} : k_Top_isKind_14 xs0 S = if zb xs0 = true then some (xs0, S) else none := by
  show cI (mV oS X0 102 14 [none] [.int xs0] S) = _
  exact V_iretZ i102_14.1 (mM_s i102_14.2 rfl) rfl
theorem f_Top_isLoad_eq {x0 : Int32}  {S : Mem} : f_Top_isLoad x0 S = if x0 < 0 then k_Top_isLoad_14 S else if 20 < x0 then k_Top_isLoad_14 S else k_Top_isLoad_15 1 S := by
  show cI (mV oS X0 103 0 [some (.int x0)] [] S) = _
  refine V_iload_n (c := cI) i103_0.1 (mM_n i103_0.2) rfl ?_
  refine V_if_lt (c := cI) i103_1.1 (mM_n i103_1.2) rfl (fun _ => ?_) (fun _ => ?_)
  · exact V_msk (l1 := [none]) i103_14.2 rfl rfl
  · refine V_iload_n (c := cI) i103_4.1 (mM_n i103_4.2) rfl ?_
    refine V_bipush (c := cI) i103_5.1 (mM_n i103_5.2) (v := 20) rfl ?_
    refine V_icmp_gt (c := cI) i103_7.1 (mM_n i103_7.2) rfl (fun _ => ?_) (fun _ => ?_)
    · exact V_msk (l1 := [none]) i103_14.2 rfl rfl
    · refine V_iconst (c := cI) i103_10.1 (mM_n i103_10.2) (v := 1) rfl ?_
      refine V_goto (c := cI) i103_11.1 (mM_n i103_11.2) rfl ?_
      exact V_msk (l1 := [none]) i103_15.2 rfl rfl
theorem k_Top_isLoad_14_eq   {S : Mem} : k_Top_isLoad_14  S = k_Top_isLoad_15 0 S := by
  show cI (mV oS X0 103 14 [none] [] S) = _
  refine V_iconst (c := cI) i103_14.1 (mM_s i103_14.2 rfl) (v := 0) rfl ?_
  exact V_msk (l1 := [none]) i103_15.2 rfl rfl
theorem k_Top_isLoad_15_eq {xs0 : Int32}  {S : Mem} : k_Top_isLoad_15 xs0 S = if zb xs0 = true then some (xs0, S) else none := by
  show cI (mV oS X0 103 15 [none] [.int xs0] S) = _
  exact V_iretZ i103_15.1 (mM_s i103_15.2 rfl) rfl
theorem f_Top_isHeap_eq {x0 : Int32}  {S : Mem} : f_Top_isHeap x0 S = if x0 < 0 then k_Top_isHeap_14 S else if 99 < x0 then k_Top_isHeap_14 S else k_Top_isHeap_15 1 S := by
  show cI (mV oS X0 104 0 [some (.int x0)] [] S) = _
  refine V_iload_n (c := cI) i104_0.1 (mM_n i104_0.2) rfl ?_
  refine V_if_lt (c := cI) i104_1.1 (mM_n i104_1.2) rfl (fun _ => ?_) (fun _ => ?_)
  · exact V_msk (l1 := [none]) i104_14.2 rfl rfl
  · refine V_iload_n (c := cI) i104_4.1 (mM_n i104_4.2) rfl ?_
    refine V_bipush (c := cI) i104_5.1 (mM_n i104_5.2) (v := 99) rfl ?_
    refine V_icmp_gt (c := cI) i104_7.1 (mM_n i104_7.2) rfl (fun _ => ?_) (fun _ => ?_)
    · exact V_msk (l1 := [none]) i104_14.2 rfl rfl
    · refine V_iconst (c := cI) i104_10.1 (mM_n i104_10.2) (v := 1) rfl ?_
      refine V_goto (c := cI) i104_11.1 (mM_n i104_11.2) rfl ?_
      exact V_msk (l1 := [none]) i104_15.2 rfl rfl
theorem k_Top_isHeap_14_eq   {S : Mem} : k_Top_isHeap_14  S = k_Top_isHeap_15 0 S := by
  show cI (mV oS X0 104 14 [none] [] S) = _
  refine V_iconst (c := cI) i104_14.1 (mM_s i104_14.2 rfl) (v := 0) rfl ?_
  exact V_msk (l1 := [none]) i104_15.2 rfl rfl
theorem k_Top_isHeap_15_eq {xs0 : Int32}  {S : Mem} : k_Top_isHeap_15 xs0 S = if zb xs0 = true then some (xs0, S) else none := by
  show cI (mV oS X0 104 15 [none] [.int xs0] S) = _
  exact V_iretZ i104_15.1 (mM_s i104_15.2 rfl) rfl
theorem f_Top_areMinutes_eq {x0 : Int32}  {S : Mem} : f_Top_areMinutes x0 S = if x0 < 1 then k_Top_areMinutes_15 S else if 60 < x0 then k_Top_areMinutes_15 S else k_Top_areMinutes_16 1 S := by
  show cI (mV oS X0 105 0 [some (.int x0)] [] S) = _
  refine V_iload_n (c := cI) i105_0.1 (mM_n i105_0.2) rfl ?_
  refine V_iconst (c := cI) i105_1.1 (mM_n i105_1.2) (v := 1) rfl ?_
  refine V_icmp_lt (c := cI) i105_2.1 (mM_n i105_2.2) rfl (fun _ => ?_) (fun _ => ?_)
  · exact V_msk (l1 := [none]) i105_15.2 rfl rfl
  · refine V_iload_n (c := cI) i105_5.1 (mM_n i105_5.2) rfl ?_
    refine V_bipush (c := cI) i105_6.1 (mM_n i105_6.2) (v := 60) rfl ?_
    refine V_icmp_gt (c := cI) i105_8.1 (mM_n i105_8.2) rfl (fun _ => ?_) (fun _ => ?_)
    · exact V_msk (l1 := [none]) i105_15.2 rfl rfl
    · refine V_iconst (c := cI) i105_11.1 (mM_n i105_11.2) (v := 1) rfl ?_
      refine V_goto (c := cI) i105_12.1 (mM_n i105_12.2) rfl ?_
      exact V_msk (l1 := [none]) i105_16.2 rfl rfl
theorem k_Top_areMinutes_15_eq   {S : Mem} : k_Top_areMinutes_15  S = k_Top_areMinutes_16 0 S := by
  show cI (mV oS X0 105 15 [none] [] S) = _
  refine V_iconst (c := cI) i105_15.1 (mM_s i105_15.2 rfl) (v := 0) rfl ?_
  exact V_msk (l1 := [none]) i105_16.2 rfl rfl
theorem k_Top_areMinutes_16_eq {xs0 : Int32}  {S : Mem} : k_Top_areMinutes_16 xs0 S = if zb xs0 = true then some (xs0, S) else none := by
  show cI (mV oS X0 105 16 [none] [.int xs0] S) = _
  exact V_iretZ i105_16.1 (mM_s i105_16.2 rfl) rfl
