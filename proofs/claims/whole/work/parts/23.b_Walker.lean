/-! blocks of Walker: printed by a program -/
theorem i66_0 : decode (mCd 66) 0 = .ok (.iload_n 1, 1) ∧ lk (mMsk 66) 0 = none := by decide +kernel
theorem i66_1 : decode (mCd 66) 1 = .ok (.ifCond .eq 24, 3) ∧ lk (mMsk 66) 1 = none := by decide +kernel
theorem i66_25 : decode (mCd 66) 25 = .ok (.iconst 1, 1) ∧ lk (mMsk 66) 25 = some [false, false] := by decide +kernel
theorem i66_4 : decode (mCd 66) 4 = .ok (.iload_n 1, 1) ∧ lk (mMsk 66) 4 = none := by decide +kernel
theorem i66_5 : decode (mCd 66) 5 = .ok (.aload_n 0, 1) ∧ lk (mMsk 66) 5 = none := by decide +kernel
theorem i66_6 : decode (mCd 66) 6 = .ok (.getfield 9, 3) ∧ lk (mMsk 66) 6 = none := by decide +kernel
theorem g66_9 : fOk 66 9 7 0 = true := by decide +kernel
theorem i66_9 : decode (mCd 66) 9 = .ok (.if_icmp .eq 16, 3) ∧ lk (mMsk 66) 9 = none := by decide +kernel
theorem i66_12 : decode (mCd 66) 12 = .ok (.iload_n 1, 1) ∧ lk (mMsk 66) 12 = none := by decide +kernel
theorem i66_13 : decode (mCd 66) 13 = .ok (.iconst 1, 1) ∧ lk (mMsk 66) 13 = none := by decide +kernel
theorem i66_14 : decode (mCd 66) 14 = .ok (.if_icmp .ne 15, 3) ∧ lk (mMsk 66) 14 = none := by decide +kernel
theorem i66_17 : decode (mCd 66) 17 = .ok (.aload_n 0, 1) ∧ lk (mMsk 66) 17 = none := by decide +kernel
theorem i66_18 : decode (mCd 66) 18 = .ok (.getfield 9, 3) ∧ lk (mMsk 66) 18 = none := by decide +kernel
theorem i66_21 : decode (mCd 66) 21 = .ok (.iconst 3, 1) ∧ lk (mMsk 66) 21 = none := by decide +kernel
theorem i66_22 : decode (mCd 66) 22 = .ok (.if_icmp .ne 7, 3) ∧ lk (mMsk 66) 22 = none := by decide +kernel
theorem i66_29 : decode (mCd 66) 29 = .ok (.iconst 0, 1) ∧ lk (mMsk 66) 29 = some [false, false] := by decide +kernel
theorem i66_30 : decode (mCd 66) 30 = .ok (.ireturn, 1) ∧ lk (mMsk 66) 30 = some [false, false] := by decide +kernel
theorem i66_26 : decode (mCd 66) 26 = .ok (.goto 4, 3) ∧ lk (mMsk 66) 26 = none := by decide +kernel
theorem i67_0 : decode (mCd 67) 0 = .ok (.aload_n 0, 1) ∧ lk (mMsk 67) 0 = none := by decide +kernel
theorem i67_1 : decode (mCd 67) 1 = .ok (.getfield 9, 3) ∧ lk (mMsk 67) 1 = none := by decide +kernel
theorem g67_9 : fOk 67 9 7 0 = true := by decide +kernel
theorem i67_4 : decode (mCd 67) 4 = .ok (.iconst 2, 1) ∧ lk (mMsk 67) 4 = none := by decide +kernel
theorem i67_5 : decode (mCd 67) 5 = .ok (.if_icmp .ne 10, 3) ∧ lk (mMsk 67) 5 = none := by decide +kernel
theorem i67_8 : decode (mCd 67) 8 = .ok (.iload_n 1, 1) ∧ lk (mMsk 67) 8 = none := by decide +kernel
theorem i67_9 : decode (mCd 67) 9 = .ok (.bipush 7, 2) ∧ lk (mMsk 67) 9 = none := by decide +kernel
theorem i67_11 : decode (mCd 67) 11 = .ok (.iadd, 1) ∧ lk (mMsk 67) 11 = none := by decide +kernel
theorem i67_12 : decode (mCd 67) 12 = .ok (.goto 4, 3) ∧ lk (mMsk 67) 12 = none := by decide +kernel
theorem i67_16 : decode (mCd 67) 16 = .ok (.ireturn, 1) ∧ lk (mMsk 67) 16 = some [false, false] := by decide +kernel
theorem i67_15 : decode (mCd 67) 15 = .ok (.iload_n 1, 1) ∧ lk (mMsk 67) 15 = none := by decide +kernel
theorem i68_0 : decode (mCd 68) 0 = .ok (.iload_n 1, 1) ∧ lk (mMsk 68) 0 = none := by decide +kernel
theorem i68_1 : decode (mCd 68) 1 = .ok (.ifCond .lt 26, 3) ∧ lk (mMsk 68) 1 = none := by decide +kernel
theorem i68_27 : decode (mCd 68) 27 = .ok (.iconst (-1), 1) ∧ lk (mMsk 68) 27 = some [false, false] := by decide +kernel
theorem i68_4 : decode (mCd 68) 4 = .ok (.iload_n 1, 1) ∧ lk (mMsk 68) 4 = none := by decide +kernel
theorem i68_5 : decode (mCd 68) 5 = .ok (.aload_n 0, 1) ∧ lk (mMsk 68) 5 = none := by decide +kernel
theorem i68_6 : decode (mCd 68) 6 = .ok (.getfield 28, 3) ∧ lk (mMsk 68) 6 = none := by decide +kernel
theorem g68_28 : fOk 68 28 7 5 = true := by decide +kernel
theorem i68_9 : decode (mCd 68) 9 = .ok (.if_icmp .ge 18, 3) ∧ lk (mMsk 68) 9 = none := by decide +kernel
theorem i68_12 : decode (mCd 68) 12 = .ok (.iload_n 1, 1) ∧ lk (mMsk 68) 12 = none := by decide +kernel
theorem i68_13 : decode (mCd 68) 13 = .ok (.bipush 20, 2) ∧ lk (mMsk 68) 13 = none := by decide +kernel
theorem i68_15 : decode (mCd 68) 15 = .ok (.if_icmp .ge 12, 3) ∧ lk (mMsk 68) 15 = none := by decide +kernel
theorem i68_18 : decode (mCd 68) 18 = .ok (.aload_n 0, 1) ∧ lk (mMsk 68) 18 = none := by decide +kernel
theorem i68_19 : decode (mCd 68) 19 = .ok (.getfield 24, 3) ∧ lk (mMsk 68) 19 = none := by decide +kernel
theorem g68_24 : fOk 68 24 7 4 = true := by decide +kernel
theorem i68_22 : decode (mCd 68) 22 = .ok (.iload_n 1, 1) ∧ lk (mMsk 68) 22 = none := by decide +kernel
theorem i68_23 : decode (mCd 68) 23 = .ok (.iaload, 1) ∧ lk (mMsk 68) 23 = none := by decide +kernel
theorem i68_24 : decode (mCd 68) 24 = .ok (.goto 4, 3) ∧ lk (mMsk 68) 24 = none := by decide +kernel
theorem i68_28 : decode (mCd 68) 28 = .ok (.ireturn, 1) ∧ lk (mMsk 68) 28 = some [false, false] := by decide +kernel
theorem i69_0 : decode (mCd 69) 0 = .ok (.aload_n 0, 1) ∧ lk (mMsk 69) 0 = none := by decide +kernel
theorem i69_1 : decode (mCd 69) 1 = .ok (.aload_n 1, 1) ∧ lk (mMsk 69) 1 = none := by decide +kernel
theorem i69_2 : decode (mCd 69) 2 = .ok (.getfield 34, 3) ∧ lk (mMsk 69) 2 = none := by decide +kernel
theorem g69_34 : fOk 69 34 4 1 = true := by decide +kernel
theorem i69_5 : decode (mCd 69) 5 = .ok (.bipush 20, 2) ∧ lk (mMsk 69) 5 = none := by decide +kernel
theorem i69_7 : decode (mCd 69) 7 = .ok (.invokestatic 39, 3) ∧ lk (mMsk 69) 7 = none := by decide +kernel
theorem n69_39 : lk (mMt (mOwn 69)) 39 = none := by decide +kernel
theorem x69_39 : lk (mXq (mOwn 69)) 39 = some (510, false) := by decide +kernel
theorem r69_x : mRx 69 = true := by decide +kernel
theorem i69_10 : decode (mCd 69) 10 = .ok (.putfield 28, 3) ∧ lk (mMsk 69) 10 = none := by decide +kernel
theorem p69_28 : pOk 69 28 7 5 = true := by decide +kernel
theorem i69_13 : decode (mCd 69) 13 = .ok (.aload_n 0, 1) ∧ lk (mMsk 69) 13 = none := by decide +kernel
theorem i69_14 : decode (mCd 69) 14 = .ok (.iconst 0, 1) ∧ lk (mMsk 69) 14 = none := by decide +kernel
theorem i69_15 : decode (mCd 69) 15 = .ok (.putfield 31, 3) ∧ lk (mMsk 69) 15 = none := by decide +kernel
theorem p69_31 : pOk 69 31 7 6 = true := by decide +kernel
theorem i69_18 : decode (mCd 69) 18 = .ok (.iconst 0, 1) ∧ lk (mMsk 69) 18 = none := by decide +kernel
theorem i69_19 : decode (mCd 69) 19 = .ok (.istore_n 2, 1) ∧ lk (mMsk 69) 19 = none := by decide +kernel
theorem i69_20 : decode (mCd 69) 20 = .ok (.iload_n 2, 1) ∧ lk (mMsk 69) 20 = some [true, true, true] := by decide +kernel
theorem i69_21 : decode (mCd 69) 21 = .ok (.aload_n 0, 1) ∧ lk (mMsk 69) 21 = none := by decide +kernel
theorem i69_22 : decode (mCd 69) 22 = .ok (.getfield 28, 3) ∧ lk (mMsk 69) 22 = none := by decide +kernel
theorem g69_28 : fOk 69 28 7 5 = true := by decide +kernel
theorem i69_25 : decode (mCd 69) 25 = .ok (.if_icmp .ge 23, 3) ∧ lk (mMsk 69) 25 = none := by decide +kernel
theorem i69_48 : decode (mCd 69) 48 = .ok (.return_, 1) ∧ lk (mMsk 69) 48 = none := by decide +kernel
theorem i69_28 : decode (mCd 69) 28 = .ok (.aload_n 0, 1) ∧ lk (mMsk 69) 28 = none := by decide +kernel
theorem i69_29 : decode (mCd 69) 29 = .ok (.getfield 24, 3) ∧ lk (mMsk 69) 29 = none := by decide +kernel
theorem g69_24 : fOk 69 24 7 4 = true := by decide +kernel
theorem i69_32 : decode (mCd 69) 32 = .ok (.iload_n 2, 1) ∧ lk (mMsk 69) 32 = none := by decide +kernel
theorem i69_33 : decode (mCd 69) 33 = .ok (.aload_n 1, 1) ∧ lk (mMsk 69) 33 = none := by decide +kernel
theorem i69_34 : decode (mCd 69) 34 = .ok (.iload_n 2, 1) ∧ lk (mMsk 69) 34 = none := by decide +kernel
theorem i69_35 : decode (mCd 69) 35 = .ok (.invokevirtual 45, 3) ∧ lk (mMsk 69) 35 = none := by decide +kernel
theorem c69_45 : cvOk 69 45 44 1 0 = true := by decide +kernel
theorem i69_38 : decode (mCd 69) 38 = .ok (.bipush 48, 2) ∧ lk (mMsk 69) 38 = none := by decide +kernel
theorem i69_40 : decode (mCd 69) 40 = .ok (.isub, 1) ∧ lk (mMsk 69) 40 = none := by decide +kernel
theorem i69_41 : decode (mCd 69) 41 = .ok (.iastore, 1) ∧ lk (mMsk 69) 41 = none := by decide +kernel
theorem i69_42 : decode (mCd 69) 42 = .ok (.iinc 2 1, 3) ∧ lk (mMsk 69) 42 = none := by decide +kernel
theorem i69_45 : decode (mCd 69) 45 = .ok (.goto (-25), 3) ∧ lk (mMsk 69) 45 = none := by decide +kernel
theorem i70_0 : decode (mCd 70) 0 = .ok (.aload_n 0, 1) ∧ lk (mMsk 70) 0 = none := by decide +kernel
theorem i70_1 : decode (mCd 70) 1 = .ok (.aload_n 1, 1) ∧ lk (mMsk 70) 1 = none := by decide +kernel
theorem i70_2 : decode (mCd 70) 2 = .ok (.getfield 9, 3) ∧ lk (mMsk 70) 2 = none := by decide +kernel
theorem g70_9 : fOk 70 9 7 0 = true := by decide +kernel
theorem i70_5 : decode (mCd 70) 5 = .ok (.putfield 9, 3) ∧ lk (mMsk 70) 5 = none := by decide +kernel
theorem p70_9 : pOk 70 9 7 0 = true := by decide +kernel
theorem i70_8 : decode (mCd 70) 8 = .ok (.aload_n 0, 1) ∧ lk (mMsk 70) 8 = none := by decide +kernel
theorem i70_9 : decode (mCd 70) 9 = .ok (.aload_n 1, 1) ∧ lk (mMsk 70) 9 = none := by decide +kernel
theorem i70_10 : decode (mCd 70) 10 = .ok (.getfield 15, 3) ∧ lk (mMsk 70) 10 = none := by decide +kernel
theorem g70_15 : fOk 70 15 7 1 = true := by decide +kernel
theorem i70_13 : decode (mCd 70) 13 = .ok (.putfield 15, 3) ∧ lk (mMsk 70) 13 = none := by decide +kernel
theorem p70_15 : pOk 70 15 7 1 = true := by decide +kernel
theorem i70_16 : decode (mCd 70) 16 = .ok (.aload_n 0, 1) ∧ lk (mMsk 70) 16 = none := by decide +kernel
theorem i70_17 : decode (mCd 70) 17 = .ok (.aload_n 1, 1) ∧ lk (mMsk 70) 17 = none := by decide +kernel
theorem i70_18 : decode (mCd 70) 18 = .ok (.getfield 18, 3) ∧ lk (mMsk 70) 18 = none := by decide +kernel
theorem g70_18 : fOk 70 18 7 2 = true := by decide +kernel
theorem i70_21 : decode (mCd 70) 21 = .ok (.putfield 18, 3) ∧ lk (mMsk 70) 21 = none := by decide +kernel
theorem p70_18 : pOk 70 18 7 2 = true := by decide +kernel
theorem i70_24 : decode (mCd 70) 24 = .ok (.aload_n 0, 1) ∧ lk (mMsk 70) 24 = none := by decide +kernel
theorem i70_25 : decode (mCd 70) 25 = .ok (.aload_n 1, 1) ∧ lk (mMsk 70) 25 = none := by decide +kernel
theorem i70_26 : decode (mCd 70) 26 = .ok (.getfield 21, 3) ∧ lk (mMsk 70) 26 = none := by decide +kernel
theorem g70_21 : fOk 70 21 7 3 = true := by decide +kernel
theorem i70_29 : decode (mCd 70) 29 = .ok (.putfield 21, 3) ∧ lk (mMsk 70) 29 = none := by decide +kernel
theorem p70_21 : pOk 70 21 7 3 = true := by decide +kernel
theorem i70_32 : decode (mCd 70) 32 = .ok (.aload_n 0, 1) ∧ lk (mMsk 70) 32 = none := by decide +kernel
theorem i70_33 : decode (mCd 70) 33 = .ok (.aload_n 1, 1) ∧ lk (mMsk 70) 33 = none := by decide +kernel
theorem i70_34 : decode (mCd 70) 34 = .ok (.getfield 28, 3) ∧ lk (mMsk 70) 34 = none := by decide +kernel
theorem g70_28 : fOk 70 28 7 5 = true := by decide +kernel
theorem i70_37 : decode (mCd 70) 37 = .ok (.putfield 28, 3) ∧ lk (mMsk 70) 37 = none := by decide +kernel
theorem p70_28 : pOk 70 28 7 5 = true := by decide +kernel
theorem i70_40 : decode (mCd 70) 40 = .ok (.aload_n 0, 1) ∧ lk (mMsk 70) 40 = none := by decide +kernel
theorem i70_41 : decode (mCd 70) 41 = .ok (.aload_n 1, 1) ∧ lk (mMsk 70) 41 = none := by decide +kernel
theorem i70_42 : decode (mCd 70) 42 = .ok (.getfield 31, 3) ∧ lk (mMsk 70) 42 = none := by decide +kernel
theorem g70_31 : fOk 70 31 7 6 = true := by decide +kernel
theorem i70_45 : decode (mCd 70) 45 = .ok (.putfield 31, 3) ∧ lk (mMsk 70) 45 = none := by decide +kernel
theorem p70_31 : pOk 70 31 7 6 = true := by decide +kernel
theorem i70_48 : decode (mCd 70) 48 = .ok (.aload_n 1, 1) ∧ lk (mMsk 70) 48 = none := by decide +kernel
theorem i70_49 : decode (mCd 70) 49 = .ok (.getfield 24, 3) ∧ lk (mMsk 70) 49 = none := by decide +kernel
theorem g70_24 : fOk 70 24 7 4 = true := by decide +kernel
theorem i70_52 : decode (mCd 70) 52 = .ok (.iconst 0, 1) ∧ lk (mMsk 70) 52 = none := by decide +kernel
theorem i70_53 : decode (mCd 70) 53 = .ok (.aload_n 0, 1) ∧ lk (mMsk 70) 53 = none := by decide +kernel
theorem i70_54 : decode (mCd 70) 54 = .ok (.getfield 24, 3) ∧ lk (mMsk 70) 54 = none := by decide +kernel
theorem i70_57 : decode (mCd 70) 57 = .ok (.iconst 0, 1) ∧ lk (mMsk 70) 57 = none := by decide +kernel
theorem i70_58 : decode (mCd 70) 58 = .ok (.bipush 20, 2) ∧ lk (mMsk 70) 58 = none := by decide +kernel
theorem i70_60 : decode (mCd 70) 60 = .ok (.invokestatic 49, 3) ∧ lk (mMsk 70) 60 = none := by decide +kernel
theorem n70_49 : lk (mMt (mOwn 70)) 49 = none := by decide +kernel
theorem x70_49 : lk (mXq (mOwn 70)) 49 = none := by decide +kernel
theorem t70_49 : (mNt (mOwn 70) 49 && mRn 70) = true := by decide +kernel
theorem i70_63 : decode (mCd 70) 63 = .ok (.return_, 1) ∧ lk (mMsk 70) 63 = none := by decide +kernel
theorem f_Walker_isA_eq {w0 : Nat} {x1 : Int32} (h_w0 : isW w0) {S : Mem} : f_Walker_isA w0 x1 S = if x1 = 0 then k_Walker_isA_25 S else if x1 = (S.1 w0 0) then k_Walker_isA_25 S else if x1 = 1 then if (S.1 w0 0) = 3 then k_Walker_isA_25 S else k_Walker_isA_29 S else k_Walker_isA_29 S := by
  show cI (mV oS X0 66 0 [some (.ref w0), some (.int x1)] [] S) = _
  refine V_iload_n (c := cI) i66_0.1 (mM_n i66_0.2) rfl ?_
  refine V_if_eq (c := cI) i66_1.1 (mM_n i66_1.2) rfl (fun _ => ?_) (fun _ => ?_)
  · exact V_msk (l1 := [none, none]) i66_25.2 rfl rfl
  · refine V_iload_n (c := cI) i66_4.1 (mM_n i66_4.2) rfl ?_
    refine V_aload_n (c := cI) i66_5.1 (mM_n i66_5.2) rfl rfl ?_
    refine V_gf (c := cI) i66_6.1 (mM_n i66_6.2) (v := .int (S.1 w0 0)) g66_9 (gf_i (isW_o h_w0) rfl) ?_
    refine V_icmp_eq (c := cI) i66_9.1 (mM_n i66_9.2) rfl (fun _ => ?_) (fun _ => ?_)
    · exact V_msk (l1 := [none, none]) i66_25.2 rfl rfl
    · refine V_iload_n (c := cI) i66_12.1 (mM_n i66_12.2) rfl ?_
      refine V_iconst (c := cI) i66_13.1 (mM_n i66_13.2) (v := 1) rfl ?_
      refine V_icmp_ne (c := cI) i66_14.1 (mM_n i66_14.2) rfl (fun _ => ?_) (fun _ => ?_)
      · refine V_aload_n (c := cI) i66_17.1 (mM_n i66_17.2) rfl rfl ?_
        refine V_gf (c := cI) i66_18.1 (mM_n i66_18.2) (v := .int (S.1 w0 0)) g66_9 (gf_i (isW_o h_w0) rfl) ?_
        refine V_iconst (c := cI) i66_21.1 (mM_n i66_21.2) (v := 3) rfl ?_
        refine V_icmp_ne (c := cI) i66_22.1 (mM_n i66_22.2) rfl (fun _ => ?_) (fun _ => ?_)
        · exact V_msk (l1 := [none, none]) i66_25.2 rfl rfl
        · exact V_msk (l1 := [none, none]) i66_29.2 rfl rfl
      · exact V_msk (l1 := [none, none]) i66_29.2 rfl rfl
theorem k_Walker_isA_25_eq   {S : Mem} : k_Walker_isA_25  S = k_Walker_isA_30 1 S := by
  show cI (mV oS X0 66 25 [none, none] [] S) = _
  refine V_iconst (c := cI) i66_25.1 (mM_s i66_25.2 rfl) (v := 1) rfl ?_
  refine V_goto (c := cI) i66_26.1 (mM_n i66_26.2) rfl ?_
  exact V_msk (l1 := [none, none]) i66_30.2 rfl rfl
theorem k_Walker_isA_29_eq   {S : Mem} : k_Walker_isA_29  S = k_Walker_isA_30 0 S := by
  show cI (mV oS X0 66 29 [none, none] [] S) = _
  refine V_iconst (c := cI) i66_29.1 (mM_s i66_29.2 rfl) (v := 0) rfl ?_
  exact V_msk (l1 := [none, none]) i66_30.2 rfl rfl
theorem k_Walker_isA_30_eq {xs0 : Int32}  {S : Mem} : k_Walker_isA_30 xs0 S = if zb xs0 = true then some (xs0, S) else none := by
  show cI (mV oS X0 66 30 [none, none] [.int xs0] S) = _
  exact V_iretZ i66_30.1 (mM_s i66_30.2 rfl) rfl
theorem f_Walker_carriesWith_eq {w0 : Nat} {x1 : Int32} (h_w0 : isW w0) {S : Mem} : f_Walker_carriesWith w0 x1 S = if (S.1 w0 0) = 2 then k_Walker_carriesWith_16 (x1 + 7) S else k_Walker_carriesWith_16 x1 S := by
  show cI (mV oS X0 67 0 [some (.ref w0), some (.int x1)] [] S) = _
  refine V_aload_n (c := cI) i67_0.1 (mM_n i67_0.2) rfl rfl ?_
  refine V_gf (c := cI) i67_1.1 (mM_n i67_1.2) (v := .int (S.1 w0 0)) g67_9 (gf_i (isW_o h_w0) rfl) ?_
  refine V_iconst (c := cI) i67_4.1 (mM_n i67_4.2) (v := 2) rfl ?_
  refine V_icmp_ne (c := cI) i67_5.1 (mM_n i67_5.2) rfl (fun _ => ?_) (fun _ => ?_)
  · refine V_iload_n (c := cI) i67_8.1 (mM_n i67_8.2) rfl ?_
    refine V_bipush (c := cI) i67_9.1 (mM_n i67_9.2) (v := 7) rfl ?_
    refine V_iadd (c := cI) i67_11.1 (mM_n i67_11.2)  ?_
    refine V_goto (c := cI) i67_12.1 (mM_n i67_12.2) rfl ?_
    exact V_msk (l1 := [none, none]) i67_16.2 rfl rfl
  · refine V_iload_n (c := cI) i67_15.1 (mM_n i67_15.2) rfl ?_
    exact V_msk (l1 := [none, none]) i67_16.2 rfl rfl
theorem k_Walker_carriesWith_16_eq {xs0 : Int32}  {S : Mem} : k_Walker_carriesWith_16 xs0 S = some (xs0, S) := by
  show cI (mV oS X0 67 16 [none, none] [.int xs0] S) = _
  exact V_iret i67_16.1 (mM_s i67_16.2 rfl) rfl
theorem f_Walker_cornerBehind_eq {w0 : Nat} {x1 : Int32} (h_w0 : isW w0) {S : Mem} : f_Walker_cornerBehind w0 x1 S = if x1 < 0 then k_Walker_cornerBehind_27 S else if (S.1 w0 5) ≤ x1 then k_Walker_cornerBehind_27 S else if 20 ≤ x1 then k_Walker_cornerBehind_27 S else if inb x1 20 = true then k_Walker_cornerBehind_28 (S.1 (w0 + 1) (x1.toNatClampNeg)) S else none := by
  show cI (mV oS X0 68 0 [some (.ref w0), some (.int x1)] [] S) = _
  refine V_iload_n (c := cI) i68_0.1 (mM_n i68_0.2) rfl ?_
  refine V_if_lt (c := cI) i68_1.1 (mM_n i68_1.2) rfl (fun _ => ?_) (fun _ => ?_)
  · exact V_msk (l1 := [none, none]) i68_27.2 rfl rfl
  · refine V_iload_n (c := cI) i68_4.1 (mM_n i68_4.2) rfl ?_
    refine V_aload_n (c := cI) i68_5.1 (mM_n i68_5.2) rfl rfl ?_
    refine V_gf (c := cI) i68_6.1 (mM_n i68_6.2) (v := .int (S.1 w0 5)) g68_28 (gf_i (isW_o h_w0) rfl) ?_
    refine V_icmp_ge (c := cI) i68_9.1 (mM_n i68_9.2) rfl (fun _ => ?_) (fun _ => ?_)
    · exact V_msk (l1 := [none, none]) i68_27.2 rfl rfl
    · refine V_iload_n (c := cI) i68_12.1 (mM_n i68_12.2) rfl ?_
      refine V_bipush (c := cI) i68_13.1 (mM_n i68_13.2) (v := 20) rfl ?_
      refine V_icmp_ge (c := cI) i68_15.1 (mM_n i68_15.2) rfl (fun _ => ?_) (fun _ => ?_)
      · exact V_msk (l1 := [none, none]) i68_27.2 rfl rfl
      · refine V_aload_n (c := cI) i68_18.1 (mM_n i68_18.2) rfl rfl ?_
        refine V_gf (c := cI) i68_19.1 (mM_n i68_19.2) (v := .ref (w0 + 1)) g68_24 (gf_r (isW_o h_w0) rfl) ?_
        refine V_iload_n (c := cI) i68_22.1 (mM_n i68_22.2) rfl ?_
        refine V_iaload (c := cI) i68_23.1 (mM_n i68_23.2) (isW_a h_w0) rfl (fun _ => ?_)
        refine V_goto (c := cI) i68_24.1 (mM_n i68_24.2) rfl ?_
        exact V_msk (l1 := [none, none]) i68_28.2 rfl rfl
theorem k_Walker_cornerBehind_27_eq   {S : Mem} : k_Walker_cornerBehind_27  S = k_Walker_cornerBehind_28 (-1) S := by
  show cI (mV oS X0 68 27 [none, none] [] S) = _
  refine V_iconst (c := cI) i68_27.1 (mM_s i68_27.2 rfl) (v := (-1)) rfl ?_
  exact V_msk (l1 := [none, none]) i68_28.2 rfl rfl
theorem k_Walker_cornerBehind_28_eq {xs0 : Int32}  {S : Mem} : k_Walker_cornerBehind_28 xs0 S = some (xs0, S) := by
  show cI (mV oS X0 68 28 [none, none] [.int xs0] S) = _
  exact V_iret i68_28.1 (mM_s i68_28.2 rfl) rfl
theorem f_Walker_readWay_eq {w0 : Nat} (h_w0 : isW w0) {S : Mem} : f_Walker_readWay w0 S = k_Walker_readWay_20 w0 0 (u1 (u1 S w0 5 (if (20 : Int32) < (S.1 1 1) then (20 : Int32) else (S.1 1 1))) w0 6 0) := by
  show cU (mV oS X0 69 0 [some (.ref w0), some (.ref 1), none] [] S) = _
  refine V_aload_n (c := cU) i69_0.1 (mM_n i69_0.2) rfl rfl ?_
  refine V_aload_n (c := cU) i69_1.1 (mM_n i69_1.2) rfl rfl ?_
  refine V_gf (c := cU) i69_2.1 (mM_n i69_2.2) (v := .int (S.1 1 1)) g69_34 rfl ?_
  refine V_bipush (c := cU) i69_5.1 (mM_n i69_5.2) (v := 20) rfl ?_
  refine V_min (c := cU) i69_7.1 (mM_n i69_7.2) n69_39 x69_39 r69_x rfl ?_
  refine V_pf (c := cU) i69_10.1 (mM_n i69_10.2) p69_28 (pf_i (isW_o h_w0) rfl rfl) ?_
  refine V_aload_n (c := cU) i69_13.1 (mM_n i69_13.2) rfl rfl ?_
  refine V_iconst (c := cU) i69_14.1 (mM_n i69_14.2) (v := 0) rfl ?_
  refine V_pf (c := cU) i69_15.1 (mM_n i69_15.2) p69_31 (pf_i (isW_o h_w0) rfl rfl) ?_
  refine V_iconst (c := cU) i69_18.1 (mM_n i69_18.2) (v := 0) rfl ?_
  refine V_istore_n (c := cU) i69_19.1 (mM_n i69_19.2) (l1 := [some (.ref w0), some (.ref 1), some (.int 0)])  (Nat.le_of_ble_eq_true rfl) rfl ?_
  exact V_msk (l1 := [some (.ref w0), some (.ref 1), some (.int 0)]) i69_20.2 rfl rfl
theorem k_Walker_readWay_20_eq {w0 : Nat} {x2 : Int32} (h_w0 : isW w0) {S : Mem} : k_Walker_readWay_20 w0 x2 S = if (S.1 w0 5) ≤ x2 then some S else bI (f_Page_at x2 S) (fun r4 S3 => if inb x2 20 = true then k_Walker_readWay_20 w0 (x2 + 1) (u1 S3 (w0 + 1) x2.toNatClampNeg (r4 - 48)) else none) := by
  show cU (mV oS X0 69 20 [some (.ref w0), some (.ref 1), some (.int x2)] [] S) = _
  refine V_iload_n (c := cU) i69_20.1 (mM_s i69_20.2 rfl) rfl ?_
  refine V_aload_n (c := cU) i69_21.1 (mM_n i69_21.2) rfl rfl ?_
  refine V_gf (c := cU) i69_22.1 (mM_n i69_22.2) (v := .int (S.1 w0 5)) g69_28 (gf_i (isW_o h_w0) rfl) ?_
  refine V_icmp_ge (c := cU) i69_25.1 (mM_n i69_25.2) rfl (fun _ => ?_) (fun _ => ?_)
  · exact V_vret i69_48.1 (mM_n i69_48.2) rfl
  · refine V_aload_n (c := cU) i69_28.1 (mM_n i69_28.2) rfl rfl ?_
    refine V_gf (c := cU) i69_29.1 (mM_n i69_29.2) (v := .ref (w0 + 1)) g69_24 (gf_r (isW_o h_w0) rfl) ?_
    refine V_iload_n (c := cU) i69_32.1 (mM_n i69_32.2) rfl ?_
    refine V_aload_n (c := cU) i69_33.1 (mM_n i69_33.2) rfl rfl ?_
    refine V_iload_n (c := cU) i69_34.1 (mM_n i69_34.2) rfl ?_
    refine V_cvI (c := cU) (As := [.int x2]) (rest := [.int x2, .ref (w0 + 1)]) i69_35.1 (mM_n i69_35.2) c69_45 rfl rfl rfl rfl (Nat.le_of_ble_eq_true rfl) rfl (fun r4 S3 => ?_)
    refine V_bipush (c := cU) i69_38.1 (mM_n i69_38.2) (v := 48) rfl ?_
    refine V_isub (c := cU) i69_40.1 (mM_n i69_40.2)  ?_
    refine V_iastore (c := cU) (x1 := (r4 - 48)) i69_41.1 (mM_n i69_41.2) (isW_a h_w0) rfl rfl rfl (fun _ => ?_)
    refine V_iinc (c := cU) i69_42.1 (mM_n i69_42.2) (l1 := [some (.ref w0), some (.ref 1), some (.int (x2 + 1))]) rfl rfl rfl ?_
    refine V_goto (c := cU) i69_45.1 (mM_n i69_45.2) rfl ?_
    exact V_msk (l1 := [some (.ref w0), some (.ref 1), some (.int (x2 + 1))]) i69_20.2 rfl rfl
theorem f_Walker_become_eq {w0 : Nat} {w1 : Nat} (h_w0 : isW w0) (h_w1 : isW w1) {S : Mem} : f_Walker_become w0 w1 S = some (u3 (u1 (u1 (u1 (u1 (u1 (u1 S w0 0 (S.1 w1 0)) w0 1 ((u1 S w0 0 (S.1 w1 0)).1 w1 1)) w0 2 ((u1 (u1 S w0 0 (S.1 w1 0)) w0 1 ((u1 S w0 0 (S.1 w1 0)).1 w1 1)).1 w1 2)) w0 3 ((u1 (u1 (u1 S w0 0 (S.1 w1 0)) w0 1 ((u1 S w0 0 (S.1 w1 0)).1 w1 1)) w0 2 ((u1 (u1 S w0 0 (S.1 w1 0)) w0 1 ((u1 S w0 0 (S.1 w1 0)).1 w1 1)).1 w1 2)).1 w1 3)) w0 5 ((u1 (u1 (u1 (u1 S w0 0 (S.1 w1 0)) w0 1 ((u1 S w0 0 (S.1 w1 0)).1 w1 1)) w0 2 ((u1 (u1 S w0 0 (S.1 w1 0)) w0 1 ((u1 S w0 0 (S.1 w1 0)).1 w1 1)).1 w1 2)) w0 3 ((u1 (u1 (u1 S w0 0 (S.1 w1 0)) w0 1 ((u1 S w0 0 (S.1 w1 0)).1 w1 1)) w0 2 ((u1 (u1 S w0 0 (S.1 w1 0)) w0 1 ((u1 S w0 0 (S.1 w1 0)).1 w1 1)).1 w1 2)).1 w1 3)).1 w1 5)) w0 6 ((u1 (u1 (u1 (u1 (u1 S w0 0 (S.1 w1 0)) w0 1 ((u1 S w0 0 (S.1 w1 0)).1 w1 1)) w0 2 ((u1 (u1 S w0 0 (S.1 w1 0)) w0 1 ((u1 S w0 0 (S.1 w1 0)).1 w1 1)).1 w1 2)) w0 3 ((u1 (u1 (u1 S w0 0 (S.1 w1 0)) w0 1 ((u1 S w0 0 (S.1 w1 0)).1 w1 1)) w0 2 ((u1 (u1 S w0 0 (S.1 w1 0)) w0 1 ((u1 S w0 0 (S.1 w1 0)).1 w1 1)).1 w1 2)).1 w1 3)) w0 5 ((u1 (u1 (u1 (u1 S w0 0 (S.1 w1 0)) w0 1 ((u1 S w0 0 (S.1 w1 0)).1 w1 1)) w0 2 ((u1 (u1 S w0 0 (S.1 w1 0)) w0 1 ((u1 S w0 0 (S.1 w1 0)).1 w1 1)).1 w1 2)) w0 3 ((u1 (u1 (u1 S w0 0 (S.1 w1 0)) w0 1 ((u1 S w0 0 (S.1 w1 0)).1 w1 1)) w0 2 ((u1 (u1 S w0 0 (S.1 w1 0)) w0 1 ((u1 S w0 0 (S.1 w1 0)).1 w1 1)).1 w1 2)).1 w1 3)).1 w1 5)).1 w1 6)) (w0 + 1) (va_cpy ((u1 (u1 (u1 (u1 (u1 (u1 S w0 0 (S.1 w1 0)) w0 1 ((u1 S w0 0 (S.1 w1 0)).1 w1 1)) w0 2 ((u1 (u1 S w0 0 (S.1 w1 0)) w0 1 ((u1 S w0 0 (S.1 w1 0)).1 w1 1)).1 w1 2)) w0 3 ((u1 (u1 (u1 S w0 0 (S.1 w1 0)) w0 1 ((u1 S w0 0 (S.1 w1 0)).1 w1 1)) w0 2 ((u1 (u1 S w0 0 (S.1 w1 0)) w0 1 ((u1 S w0 0 (S.1 w1 0)).1 w1 1)).1 w1 2)).1 w1 3)) w0 5 ((u1 (u1 (u1 (u1 S w0 0 (S.1 w1 0)) w0 1 ((u1 S w0 0 (S.1 w1 0)).1 w1 1)) w0 2 ((u1 (u1 S w0 0 (S.1 w1 0)) w0 1 ((u1 S w0 0 (S.1 w1 0)).1 w1 1)).1 w1 2)) w0 3 ((u1 (u1 (u1 S w0 0 (S.1 w1 0)) w0 1 ((u1 S w0 0 (S.1 w1 0)).1 w1 1)) w0 2 ((u1 (u1 S w0 0 (S.1 w1 0)) w0 1 ((u1 S w0 0 (S.1 w1 0)).1 w1 1)).1 w1 2)).1 w1 3)).1 w1 5)) w0 6 ((u1 (u1 (u1 (u1 (u1 S w0 0 (S.1 w1 0)) w0 1 ((u1 S w0 0 (S.1 w1 0)).1 w1 1)) w0 2 ((u1 (u1 S w0 0 (S.1 w1 0)) w0 1 ((u1 S w0 0 (S.1 w1 0)).1 w1 1)).1 w1 2)) w0 3 ((u1 (u1 (u1 S w0 0 (S.1 w1 0)) w0 1 ((u1 S w0 0 (S.1 w1 0)).1 w1 1)) w0 2 ((u1 (u1 S w0 0 (S.1 w1 0)) w0 1 ((u1 S w0 0 (S.1 w1 0)).1 w1 1)).1 w1 2)).1 w1 3)) w0 5 ((u1 (u1 (u1 (u1 S w0 0 (S.1 w1 0)) w0 1 ((u1 S w0 0 (S.1 w1 0)).1 w1 1)) w0 2 ((u1 (u1 S w0 0 (S.1 w1 0)) w0 1 ((u1 S w0 0 (S.1 w1 0)).1 w1 1)).1 w1 2)) w0 3 ((u1 (u1 (u1 S w0 0 (S.1 w1 0)) w0 1 ((u1 S w0 0 (S.1 w1 0)).1 w1 1)) w0 2 ((u1 (u1 S w0 0 (S.1 w1 0)) w0 1 ((u1 S w0 0 (S.1 w1 0)).1 w1 1)).1 w1 2)).1 w1 3)).1 w1 5)).1 w1 6)).1 (w1 + 1)) ((u1 (u1 (u1 (u1 (u1 (u1 S w0 0 (S.1 w1 0)) w0 1 ((u1 S w0 0 (S.1 w1 0)).1 w1 1)) w0 2 ((u1 (u1 S w0 0 (S.1 w1 0)) w0 1 ((u1 S w0 0 (S.1 w1 0)).1 w1 1)).1 w1 2)) w0 3 ((u1 (u1 (u1 S w0 0 (S.1 w1 0)) w0 1 ((u1 S w0 0 (S.1 w1 0)).1 w1 1)) w0 2 ((u1 (u1 S w0 0 (S.1 w1 0)) w0 1 ((u1 S w0 0 (S.1 w1 0)).1 w1 1)).1 w1 2)).1 w1 3)) w0 5 ((u1 (u1 (u1 (u1 S w0 0 (S.1 w1 0)) w0 1 ((u1 S w0 0 (S.1 w1 0)).1 w1 1)) w0 2 ((u1 (u1 S w0 0 (S.1 w1 0)) w0 1 ((u1 S w0 0 (S.1 w1 0)).1 w1 1)).1 w1 2)) w0 3 ((u1 (u1 (u1 S w0 0 (S.1 w1 0)) w0 1 ((u1 S w0 0 (S.1 w1 0)).1 w1 1)) w0 2 ((u1 (u1 S w0 0 (S.1 w1 0)) w0 1 ((u1 S w0 0 (S.1 w1 0)).1 w1 1)).1 w1 2)).1 w1 3)).1 w1 5)) w0 6 ((u1 (u1 (u1 (u1 (u1 S w0 0 (S.1 w1 0)) w0 1 ((u1 S w0 0 (S.1 w1 0)).1 w1 1)) w0 2 ((u1 (u1 S w0 0 (S.1 w1 0)) w0 1 ((u1 S w0 0 (S.1 w1 0)).1 w1 1)).1 w1 2)) w0 3 ((u1 (u1 (u1 S w0 0 (S.1 w1 0)) w0 1 ((u1 S w0 0 (S.1 w1 0)).1 w1 1)) w0 2 ((u1 (u1 S w0 0 (S.1 w1 0)) w0 1 ((u1 S w0 0 (S.1 w1 0)).1 w1 1)).1 w1 2)).1 w1 3)) w0 5 ((u1 (u1 (u1 (u1 S w0 0 (S.1 w1 0)) w0 1 ((u1 S w0 0 (S.1 w1 0)).1 w1 1)) w0 2 ((u1 (u1 S w0 0 (S.1 w1 0)) w0 1 ((u1 S w0 0 (S.1 w1 0)).1 w1 1)).1 w1 2)) w0 3 ((u1 (u1 (u1 S w0 0 (S.1 w1 0)) w0 1 ((u1 S w0 0 (S.1 w1 0)).1 w1 1)) w0 2 ((u1 (u1 S w0 0 (S.1 w1 0)) w0 1 ((u1 S w0 0 (S.1 w1 0)).1 w1 1)).1 w1 2)).1 w1 3)).1 w1 5)).1 w1 6)).1 (w0 + 1)) 0 0 20)) := by
  show cU (mV oS X0 70 0 [some (.ref w0), some (.ref w1)] [] S) = _
  refine V_aload_n (c := cU) i70_0.1 (mM_n i70_0.2) rfl rfl ?_
  refine V_aload_n (c := cU) i70_1.1 (mM_n i70_1.2) rfl rfl ?_
  refine V_gf (c := cU) i70_2.1 (mM_n i70_2.2) (v := .int (S.1 w1 0)) g70_9 (gf_i (isW_o h_w1) rfl) ?_
  refine V_pf (c := cU) i70_5.1 (mM_n i70_5.2) p70_9 (pf_i (isW_o h_w0) rfl rfl) ?_
  refine V_aload_n (c := cU) i70_8.1 (mM_n i70_8.2) rfl rfl ?_
  refine V_aload_n (c := cU) i70_9.1 (mM_n i70_9.2) rfl rfl ?_
  refine V_gf (c := cU) i70_10.1 (mM_n i70_10.2) (v := .int ((u1 S w0 0 (S.1 w1 0)).1 w1 1)) g70_15 (gf_i (isW_o h_w1) rfl) ?_
  refine V_pf (c := cU) i70_13.1 (mM_n i70_13.2) p70_15 (pf_i (isW_o h_w0) rfl rfl) ?_
  refine V_aload_n (c := cU) i70_16.1 (mM_n i70_16.2) rfl rfl ?_
  refine V_aload_n (c := cU) i70_17.1 (mM_n i70_17.2) rfl rfl ?_
  refine V_gf (c := cU) i70_18.1 (mM_n i70_18.2) (v := .int ((u1 (u1 S w0 0 (S.1 w1 0)) w0 1 ((u1 S w0 0 (S.1 w1 0)).1 w1 1)).1 w1 2)) g70_18 (gf_i (isW_o h_w1) rfl) ?_
  refine V_pf (c := cU) i70_21.1 (mM_n i70_21.2) p70_18 (pf_i (isW_o h_w0) rfl rfl) ?_
  refine V_aload_n (c := cU) i70_24.1 (mM_n i70_24.2) rfl rfl ?_
  refine V_aload_n (c := cU) i70_25.1 (mM_n i70_25.2) rfl rfl ?_
  refine V_gf (c := cU) i70_26.1 (mM_n i70_26.2) (v := .int ((u1 (u1 (u1 S w0 0 (S.1 w1 0)) w0 1 ((u1 S w0 0 (S.1 w1 0)).1 w1 1)) w0 2 ((u1 (u1 S w0 0 (S.1 w1 0)) w0 1 ((u1 S w0 0 (S.1 w1 0)).1 w1 1)).1 w1 2)).1 w1 3)) g70_21 (gf_i (isW_o h_w1) rfl) ?_
  refine V_pf (c := cU) i70_29.1 (mM_n i70_29.2) p70_21 (pf_i (isW_o h_w0) rfl rfl) ?_
  refine V_aload_n (c := cU) i70_32.1 (mM_n i70_32.2) rfl rfl ?_
  refine V_aload_n (c := cU) i70_33.1 (mM_n i70_33.2) rfl rfl ?_
  refine V_gf (c := cU) i70_34.1 (mM_n i70_34.2) (v := .int ((u1 (u1 (u1 (u1 S w0 0 (S.1 w1 0)) w0 1 ((u1 S w0 0 (S.1 w1 0)).1 w1 1)) w0 2 ((u1 (u1 S w0 0 (S.1 w1 0)) w0 1 ((u1 S w0 0 (S.1 w1 0)).1 w1 1)).1 w1 2)) w0 3 ((u1 (u1 (u1 S w0 0 (S.1 w1 0)) w0 1 ((u1 S w0 0 (S.1 w1 0)).1 w1 1)) w0 2 ((u1 (u1 S w0 0 (S.1 w1 0)) w0 1 ((u1 S w0 0 (S.1 w1 0)).1 w1 1)).1 w1 2)).1 w1 3)).1 w1 5)) g70_28 (gf_i (isW_o h_w1) rfl) ?_
  refine V_pf (c := cU) i70_37.1 (mM_n i70_37.2) p70_28 (pf_i (isW_o h_w0) rfl rfl) ?_
  refine V_aload_n (c := cU) i70_40.1 (mM_n i70_40.2) rfl rfl ?_
  refine V_aload_n (c := cU) i70_41.1 (mM_n i70_41.2) rfl rfl ?_
  refine V_gf (c := cU) i70_42.1 (mM_n i70_42.2) (v := .int ((u1 (u1 (u1 (u1 (u1 S w0 0 (S.1 w1 0)) w0 1 ((u1 S w0 0 (S.1 w1 0)).1 w1 1)) w0 2 ((u1 (u1 S w0 0 (S.1 w1 0)) w0 1 ((u1 S w0 0 (S.1 w1 0)).1 w1 1)).1 w1 2)) w0 3 ((u1 (u1 (u1 S w0 0 (S.1 w1 0)) w0 1 ((u1 S w0 0 (S.1 w1 0)).1 w1 1)) w0 2 ((u1 (u1 S w0 0 (S.1 w1 0)) w0 1 ((u1 S w0 0 (S.1 w1 0)).1 w1 1)).1 w1 2)).1 w1 3)) w0 5 ((u1 (u1 (u1 (u1 S w0 0 (S.1 w1 0)) w0 1 ((u1 S w0 0 (S.1 w1 0)).1 w1 1)) w0 2 ((u1 (u1 S w0 0 (S.1 w1 0)) w0 1 ((u1 S w0 0 (S.1 w1 0)).1 w1 1)).1 w1 2)) w0 3 ((u1 (u1 (u1 S w0 0 (S.1 w1 0)) w0 1 ((u1 S w0 0 (S.1 w1 0)).1 w1 1)) w0 2 ((u1 (u1 S w0 0 (S.1 w1 0)) w0 1 ((u1 S w0 0 (S.1 w1 0)).1 w1 1)).1 w1 2)).1 w1 3)).1 w1 5)).1 w1 6)) g70_31 (gf_i (isW_o h_w1) rfl) ?_
  refine V_pf (c := cU) i70_45.1 (mM_n i70_45.2) p70_31 (pf_i (isW_o h_w0) rfl rfl) ?_
  refine V_aload_n (c := cU) i70_48.1 (mM_n i70_48.2) rfl rfl ?_
  refine V_gf (c := cU) i70_49.1 (mM_n i70_49.2) (v := .ref (w1 + 1)) g70_24 (gf_r (isW_o h_w1) rfl) ?_
  refine V_iconst (c := cU) i70_52.1 (mM_n i70_52.2) (v := 0) rfl ?_
  refine V_aload_n (c := cU) i70_53.1 (mM_n i70_53.2) rfl rfl ?_
  refine V_gf (c := cU) i70_54.1 (mM_n i70_54.2) (v := .ref (w0 + 1)) g70_24 (gf_r (isW_o h_w0) rfl) ?_
  refine V_iconst (c := cU) i70_57.1 (mM_n i70_57.2) (v := 0) rfl ?_
  refine V_bipush (c := cU) i70_58.1 (mM_n i70_58.2) (v := 20) rfl ?_
  refine V_copy (c := cU) i70_60.1 (mM_n i70_60.2) n70_49 x70_49 t70_49 rfl (cp_sh (isW_a h_w1) (isW_a h_w0) (by decide) rfl rfl rfl) ?_
  exact V_vret i70_63.1 (mM_n i70_63.2) rfl
