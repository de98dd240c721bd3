theorem dX0_init_0 : decode cX0_init 0 = .ok (.aload_n 0, 1) := by decide +kernel
theorem dX0_init_1 : decode cX0_init 1 = .ok (.invokespecial 3, 3) := by decide +kernel
theorem dX0_init_4 : decode cX0_init 4 = .ok (.aload_n 0, 1) := by decide +kernel
theorem dX0_init_5 : decode cX0_init 5 = .ok (.new 9, 3) := by decide +kernel
theorem dX0_init_8 : decode cX0_init 8 = .ok (.dup, 1) := by decide +kernel
theorem dX0_init_9 : decode cX0_init 9 = .ok (.invokespecial 11, 3) := by decide +kernel
theorem dX0_init_12 : decode cX0_init 12 = .ok (.putfield 12, 3) := by decide +kernel
theorem dX0_init_15 : decode cX0_init 15 = .ok (.aload_n 0, 1) := by decide +kernel
theorem dX0_init_16 : decode cX0_init 16 = .ok (.bipush 48, 2) := by decide +kernel
theorem dX0_init_18 : decode cX0_init 18 = .ok (.newarray .int, 2) := by decide +kernel
theorem dX0_init_20 : decode cX0_init 20 = .ok (.putfield 18, 3) := by decide +kernel
theorem dX0_init_23 : decode cX0_init 23 = .ok (.aload_n 0, 1) := by decide +kernel
theorem dX0_init_24 : decode cX0_init 24 = .ok (.new 22, 3) := by decide +kernel
theorem dX0_init_27 : decode cX0_init 27 = .ok (.dup, 1) := by decide +kernel
theorem dX0_init_28 : decode cX0_init 28 = .ok (.invokespecial 24, 3) := by decide +kernel
theorem dX0_init_31 : decode cX0_init 31 = .ok (.putfield 25, 3) := by decide +kernel
theorem dX0_init_34 : decode cX0_init 34 = .ok (.return_, 1) := by decide +kernel
theorem dX0_has_0 : decode cX0_has 0 = .ok (.iload_n 1, 1) := by decide +kernel
theorem dX0_has_1 : decode cX0_has 1 = .ok (.iconst 0, 1) := by decide +kernel
theorem dX0_has_2 : decode cX0_has 2 = .ok (.aload_n 0, 1) := by decide +kernel
theorem dX0_has_3 : decode cX0_has 3 = .ok (.getfield 25, 3) := by decide +kernel
theorem dX0_has_6 : decode cX0_has 6 = .ok (.getfield 29, 3) := by decide +kernel
theorem dX0_has_9 : decode cX0_has 9 = .ok (.iconst 1, 1) := by decide +kernel
theorem dX0_has_10 : decode cX0_has 10 = .ok (.isub, 1) := by decide +kernel
theorem dX0_has_11 : decode cX0_has 11 = .ok (.invokestatic 33, 3) := by decide +kernel
theorem dX0_has_14 : decode cX0_has 14 = .ok (.ireturn, 1) := by decide +kernel
theorem dX0_hasBoth_0 : decode cX0_hasBoth 0 = .ok (.aload_n 0, 1) := by decide +kernel
theorem dX0_hasBoth_1 : decode cX0_hasBoth 1 = .ok (.iload_n 1, 1) := by decide +kernel
theorem dX0_hasBoth_2 : decode cX0_hasBoth 2 = .ok (.invokevirtual 37, 3) := by decide +kernel
theorem dX0_hasBoth_5 : decode cX0_hasBoth 5 = .ok (.ifCond .eq 20, 3) := by decide +kernel
theorem dX0_hasBoth_8 : decode cX0_hasBoth 8 = .ok (.aload_n 0, 1) := by decide +kernel
theorem dX0_hasBoth_9 : decode cX0_hasBoth 9 = .ok (.iload_n 2, 1) := by decide +kernel
theorem dX0_hasBoth_10 : decode cX0_hasBoth 10 = .ok (.invokevirtual 37, 3) := by decide +kernel
theorem dX0_hasBoth_13 : decode cX0_hasBoth 13 = .ok (.ifCond .eq 12, 3) := by decide +kernel
theorem dX0_hasBoth_16 : decode cX0_hasBoth 16 = .ok (.iload_n 1, 1) := by decide +kernel
theorem dX0_hasBoth_17 : decode cX0_hasBoth 17 = .ok (.iload_n 2, 1) := by decide +kernel
theorem dX0_hasBoth_18 : decode cX0_hasBoth 18 = .ok (.if_icmp .eq 7, 3) := by decide +kernel
theorem dX0_hasBoth_21 : decode cX0_hasBoth 21 = .ok (.iconst 1, 1) := by decide +kernel
theorem dX0_hasBoth_22 : decode cX0_hasBoth 22 = .ok (.goto 4, 3) := by decide +kernel
theorem dX0_hasBoth_25 : decode cX0_hasBoth 25 = .ok (.iconst 0, 1) := by decide +kernel
theorem dX0_hasBoth_26 : decode cX0_hasBoth 26 = .ok (.ireturn, 1) := by decide +kernel
theorem dX0_showsAt_0 : decode cX0_showsAt 0 = .ok (.aload_n 0, 1) := by decide +kernel
theorem dX0_showsAt_1 : decode cX0_showsAt 1 = .ok (.getfield 25, 3) := by decide +kernel
theorem dX0_showsAt_4 : decode cX0_showsAt 4 = .ok (.getfield 41, 3) := by decide +kernel
theorem dX0_showsAt_7 : decode cX0_showsAt 7 = .ok (.iload_n 1, 1) := by decide +kernel
theorem dX0_showsAt_8 : decode cX0_showsAt 8 = .ok (.aaload, 1) := by decide +kernel
theorem dX0_showsAt_9 : decode cX0_showsAt 9 = .ok (.getfield 45, 3) := by decide +kernel
theorem dX0_showsAt_12 : decode cX0_showsAt 12 = .ok (.iload_n 2, 1) := by decide +kernel
theorem dX0_showsAt_13 : decode cX0_showsAt 13 = .ok (.iaload, 1) := by decide +kernel
theorem dX0_showsAt_14 : decode cX0_showsAt 14 = .ok (.aload_n 0, 1) := by decide +kernel
theorem dX0_showsAt_15 : decode cX0_showsAt 15 = .ok (.getfield 12, 3) := by decide +kernel
theorem dX0_showsAt_18 : decode cX0_showsAt 18 = .ok (.getfield 50, 3) := by decide +kernel
theorem dX0_showsAt_21 : decode cX0_showsAt 21 = .ok (.iload_n 1, 1) := by decide +kernel
theorem dX0_showsAt_22 : decode cX0_showsAt 22 = .ok (.iaload, 1) := by decide +kernel
theorem dX0_showsAt_23 : decode cX0_showsAt 23 = .ok (.iadd, 1) := by decide +kernel
theorem dX0_showsAt_24 : decode cX0_showsAt 24 = .ok (.bipush 48, 2) := by decide +kernel
theorem dX0_showsAt_26 : decode cX0_showsAt 26 = .ok (.irem, 1) := by decide +kernel
theorem dX0_showsAt_27 : decode cX0_showsAt 27 = .ok (.ireturn, 1) := by decide +kernel
theorem dX0_showsNow_0 : decode cX0_showsNow 0 = .ok (.aload_n 0, 1) := by decide +kernel
theorem dX0_showsNow_1 : decode cX0_showsNow 1 = .ok (.iload_n 1, 1) := by decide +kernel
theorem dX0_showsNow_2 : decode cX0_showsNow 2 = .ok (.aload_n 0, 1) := by decide +kernel
theorem dX0_showsNow_3 : decode cX0_showsNow 3 = .ok (.getfield 12, 3) := by decide +kernel
theorem dX0_showsNow_6 : decode cX0_showsNow 6 = .ok (.getfield 53, 3) := by decide +kernel
theorem dX0_showsNow_9 : decode cX0_showsNow 9 = .ok (.invokevirtual 56, 3) := by decide +kernel
theorem dX0_showsNow_12 : decode cX0_showsNow 12 = .ok (.ireturn, 1) := by decide +kernel
theorem dX0_firstFrom_0 : decode cX0_firstFrom 0 = .ok (.iload_n 3, 1) := by decide +kernel
theorem dX0_firstFrom_1 : decode cX0_firstFrom 1 = .ok (.istore 4, 2) := by decide +kernel
theorem dX0_firstFrom_3 : decode cX0_firstFrom 3 = .ok (.iload 4, 2) := by decide +kernel
theorem dX0_firstFrom_5 : decode cX0_firstFrom 5 = .ok (.bipush 96, 2) := by decide +kernel
theorem dX0_firstFrom_7 : decode cX0_firstFrom 7 = .ok (.if_icmp .ge 23, 3) := by decide +kernel
theorem dX0_firstFrom_10 : decode cX0_firstFrom 10 = .ok (.aload_n 0, 1) := by decide +kernel
theorem dX0_firstFrom_11 : decode cX0_firstFrom 11 = .ok (.iload_n 1, 1) := by decide +kernel
theorem dX0_firstFrom_12 : decode cX0_firstFrom 12 = .ok (.iload 4, 2) := by decide +kernel
theorem dX0_firstFrom_14 : decode cX0_firstFrom 14 = .ok (.invokevirtual 56, 3) := by decide +kernel
theorem dX0_firstFrom_17 : decode cX0_firstFrom 17 = .ok (.iload_n 2, 1) := by decide +kernel
theorem dX0_firstFrom_18 : decode cX0_firstFrom 18 = .ok (.if_icmp .ne 6, 3) := by decide +kernel
theorem dX0_firstFrom_21 : decode cX0_firstFrom 21 = .ok (.iload 4, 2) := by decide +kernel
theorem dX0_firstFrom_23 : decode cX0_firstFrom 23 = .ok (.ireturn, 1) := by decide +kernel
theorem dX0_firstFrom_24 : decode cX0_firstFrom 24 = .ok (.iinc 4 1, 3) := by decide +kernel
theorem dX0_firstFrom_27 : decode cX0_firstFrom 27 = .ok (.goto (-24), 3) := by decide +kernel
theorem dX0_firstFrom_30 : decode cX0_firstFrom 30 = .ok (.bipush (-9), 2) := by decide +kernel
theorem dX0_firstFrom_32 : decode cX0_firstFrom 32 = .ok (.ireturn, 1) := by decide +kernel
theorem dX0_timesOfDay_0 : decode cX0_timesOfDay 0 = .ok (.iconst 0, 1) := by decide +kernel
theorem dX0_timesOfDay_1 : decode cX0_timesOfDay 1 = .ok (.istore_n 3, 1) := by decide +kernel
theorem dX0_timesOfDay_2 : decode cX0_timesOfDay 2 = .ok (.iconst 0, 1) := by decide +kernel
theorem dX0_timesOfDay_3 : decode cX0_timesOfDay 3 = .ok (.istore 4, 2) := by decide +kernel
theorem dX0_timesOfDay_5 : decode cX0_timesOfDay 5 = .ok (.iload 4, 2) := by decide +kernel
theorem dX0_timesOfDay_7 : decode cX0_timesOfDay 7 = .ok (.bipush 96, 2) := by decide +kernel
theorem dX0_timesOfDay_9 : decode cX0_timesOfDay 9 = .ok (.if_icmp .ge 23, 3) := by decide +kernel
theorem dX0_timesOfDay_12 : decode cX0_timesOfDay 12 = .ok (.aload_n 0, 1) := by decide +kernel
theorem dX0_timesOfDay_13 : decode cX0_timesOfDay 13 = .ok (.iload_n 1, 1) := by decide +kernel
theorem dX0_timesOfDay_14 : decode cX0_timesOfDay 14 = .ok (.iload 4, 2) := by decide +kernel
theorem dX0_timesOfDay_16 : decode cX0_timesOfDay 16 = .ok (.invokevirtual 56, 3) := by decide +kernel
theorem dX0_timesOfDay_19 : decode cX0_timesOfDay 19 = .ok (.iload_n 2, 1) := by decide +kernel
theorem dX0_timesOfDay_20 : decode cX0_timesOfDay 20 = .ok (.if_icmp .ne 6, 3) := by decide +kernel
theorem dX0_timesOfDay_23 : decode cX0_timesOfDay 23 = .ok (.iinc 3 1, 3) := by decide +kernel
theorem dX0_timesOfDay_26 : decode cX0_timesOfDay 26 = .ok (.iinc 4 1, 3) := by decide +kernel
theorem dX0_timesOfDay_29 : decode cX0_timesOfDay 29 = .ok (.goto (-24), 3) := by decide +kernel
theorem dX0_timesOfDay_32 : decode cX0_timesOfDay 32 = .ok (.iload_n 3, 1) := by decide +kernel
theorem dX0_timesOfDay_33 : decode cX0_timesOfDay 33 = .ok (.ireturn, 1) := by decide +kernel
theorem dX0_numbersOfDay_0 : decode cX0_numbersOfDay 0 = .ok (.lconst 0, 1) := by decide +kernel
theorem dX0_numbersOfDay_1 : decode cX0_numbersOfDay 1 = .ok (.lstore_n 2, 1) := by decide +kernel
theorem dX0_numbersOfDay_2 : decode cX0_numbersOfDay 2 = .ok (.iconst 0, 1) := by decide +kernel
theorem dX0_numbersOfDay_3 : decode cX0_numbersOfDay 3 = .ok (.istore 4, 2) := by decide +kernel
theorem dX0_numbersOfDay_5 : decode cX0_numbersOfDay 5 = .ok (.iload 4, 2) := by decide +kernel
theorem dX0_numbersOfDay_7 : decode cX0_numbersOfDay 7 = .ok (.bipush 96, 2) := by decide +kernel
theorem dX0_numbersOfDay_9 : decode cX0_numbersOfDay 9 = .ok (.if_icmp .ge 21, 3) := by decide +kernel
theorem dX0_numbersOfDay_12 : decode cX0_numbersOfDay 12 = .ok (.lload_n 2, 1) := by decide +kernel
theorem dX0_numbersOfDay_13 : decode cX0_numbersOfDay 13 = .ok (.lconst 1, 1) := by decide +kernel
theorem dX0_numbersOfDay_14 : decode cX0_numbersOfDay 14 = .ok (.aload_n 0, 1) := by decide +kernel
theorem dX0_numbersOfDay_15 : decode cX0_numbersOfDay 15 = .ok (.iload_n 1, 1) := by decide +kernel
theorem dX0_numbersOfDay_16 : decode cX0_numbersOfDay 16 = .ok (.iload 4, 2) := by decide +kernel
theorem dX0_numbersOfDay_18 : decode cX0_numbersOfDay 18 = .ok (.invokevirtual 56, 3) := by decide +kernel
theorem dX0_numbersOfDay_21 : decode cX0_numbersOfDay 21 = .ok (.lshl, 1) := by decide +kernel
theorem dX0_numbersOfDay_22 : decode cX0_numbersOfDay 22 = .ok (.lor, 1) := by decide +kernel
theorem dX0_numbersOfDay_23 : decode cX0_numbersOfDay 23 = .ok (.lstore_n 2, 1) := by decide +kernel
theorem dX0_numbersOfDay_24 : decode cX0_numbersOfDay 24 = .ok (.iinc 4 1, 3) := by decide +kernel
theorem dX0_numbersOfDay_27 : decode cX0_numbersOfDay 27 = .ok (.goto (-22), 3) := by decide +kernel
theorem dX0_numbersOfDay_30 : decode cX0_numbersOfDay 30 = .ok (.lload_n 2, 1) := by decide +kernel
theorem dX0_numbersOfDay_31 : decode cX0_numbersOfDay 31 = .ok (.lreturn, 1) := by decide +kernel
theorem dX0_isEarly_0 : decode cX0_isEarly 0 = .ok (.aload_n 0, 1) := by decide +kernel
theorem dX0_isEarly_1 : decode cX0_isEarly 1 = .ok (.iload_n 2, 1) := by decide +kernel
theorem dX0_isEarly_2 : decode cX0_isEarly 2 = .ok (.iload_n 3, 1) := by decide +kernel
theorem dX0_isEarly_3 : decode cX0_isEarly 3 = .ok (.aload_n 0, 1) := by decide +kernel
theorem dX0_isEarly_4 : decode cX0_isEarly 4 = .ok (.getfield 25, 3) := by decide +kernel
theorem dX0_isEarly_7 : decode cX0_isEarly 7 = .ok (.getfield 60, 3) := by decide +kernel
theorem dX0_isEarly_10 : decode cX0_isEarly 10 = .ok (.iadd, 1) := by decide +kernel
theorem dX0_isEarly_11 : decode cX0_isEarly 11 = .ok (.invokevirtual 56, 3) := by decide +kernel
theorem dX0_isEarly_14 : decode cX0_isEarly 14 = .ok (.aload_n 0, 1) := by decide +kernel
theorem dX0_isEarly_15 : decode cX0_isEarly 15 = .ok (.iload_n 1, 1) := by decide +kernel
theorem dX0_isEarly_16 : decode cX0_isEarly 16 = .ok (.iload_n 3, 1) := by decide +kernel
theorem dX0_isEarly_17 : decode cX0_isEarly 17 = .ok (.invokevirtual 56, 3) := by decide +kernel
theorem dX0_isEarly_20 : decode cX0_isEarly 20 = .ok (.if_icmp .ge 7, 3) := by decide +kernel
theorem dX0_isEarly_23 : decode cX0_isEarly 23 = .ok (.iconst 1, 1) := by decide +kernel
theorem dX0_isEarly_24 : decode cX0_isEarly 24 = .ok (.goto 4, 3) := by decide +kernel
theorem dX0_isEarly_27 : decode cX0_isEarly 27 = .ok (.iconst 0, 1) := by decide +kernel
theorem dX0_isEarly_28 : decode cX0_isEarly 28 = .ok (.ireturn, 1) := by decide +kernel
theorem dX0_earlyVisits_0 : decode cX0_earlyVisits 0 = .ok (.iconst 0, 1) := by decide +kernel
theorem dX0_earlyVisits_1 : decode cX0_earlyVisits 1 = .ok (.istore_n 3, 1) := by decide +kernel
theorem dX0_earlyVisits_2 : decode cX0_earlyVisits 2 = .ok (.iconst 0, 1) := by decide +kernel
theorem dX0_earlyVisits_3 : decode cX0_earlyVisits 3 = .ok (.istore 4, 2) := by decide +kernel
theorem dX0_earlyVisits_5 : decode cX0_earlyVisits 5 = .ok (.iload 4, 2) := by decide +kernel
theorem dX0_earlyVisits_7 : decode cX0_earlyVisits 7 = .ok (.aload_n 0, 1) := by decide +kernel
theorem dX0_earlyVisits_8 : decode cX0_earlyVisits 8 = .ok (.getfield 25, 3) := by decide +kernel
theorem dX0_earlyVisits_11 : decode cX0_earlyVisits 11 = .ok (.getfield 60, 3) := by decide +kernel
theorem dX0_earlyVisits_14 : decode cX0_earlyVisits 14 = .ok (.iadd, 1) := by decide +kernel
theorem dX0_earlyVisits_15 : decode cX0_earlyVisits 15 = .ok (.bipush 96, 2) := by decide +kernel
theorem dX0_earlyVisits_17 : decode cX0_earlyVisits 17 = .ok (.if_icmp .ge 23, 3) := by decide +kernel
theorem dX0_earlyVisits_20 : decode cX0_earlyVisits 20 = .ok (.aload_n 0, 1) := by decide +kernel
theorem dX0_earlyVisits_21 : decode cX0_earlyVisits 21 = .ok (.iload_n 1, 1) := by decide +kernel
theorem dX0_earlyVisits_22 : decode cX0_earlyVisits 22 = .ok (.iload_n 2, 1) := by decide +kernel
theorem dX0_earlyVisits_23 : decode cX0_earlyVisits 23 = .ok (.iload 4, 2) := by decide +kernel
theorem dX0_earlyVisits_25 : decode cX0_earlyVisits 25 = .ok (.invokevirtual 63, 3) := by decide +kernel
theorem dX0_earlyVisits_28 : decode cX0_earlyVisits 28 = .ok (.ifCond .eq 6, 3) := by decide +kernel
theorem dX0_earlyVisits_31 : decode cX0_earlyVisits 31 = .ok (.iinc 3 1, 3) := by decide +kernel
theorem dX0_earlyVisits_34 : decode cX0_earlyVisits 34 = .ok (.iinc 4 1, 3) := by decide +kernel
theorem dX0_earlyVisits_37 : decode cX0_earlyVisits 37 = .ok (.goto (-32), 3) := by decide +kernel
theorem dX0_earlyVisits_40 : decode cX0_earlyVisits 40 = .ok (.iload_n 3, 1) := by decide +kernel
theorem dX0_earlyVisits_41 : decode cX0_earlyVisits 41 = .ok (.ireturn, 1) := by decide +kernel
theorem dX0_firstEarlyVisit_0 : decode cX0_firstEarlyVisit 0 = .ok (.iconst 0, 1) := by decide +kernel
theorem dX0_firstEarlyVisit_1 : decode cX0_firstEarlyVisit 1 = .ok (.istore_n 3, 1) := by decide +kernel
theorem dX0_firstEarlyVisit_2 : decode cX0_firstEarlyVisit 2 = .ok (.iload_n 3, 1) := by decide +kernel
theorem dX0_firstEarlyVisit_3 : decode cX0_firstEarlyVisit 3 = .ok (.aload_n 0, 1) := by decide +kernel
theorem dX0_firstEarlyVisit_4 : decode cX0_firstEarlyVisit 4 = .ok (.getfield 25, 3) := by decide +kernel
theorem dX0_firstEarlyVisit_7 : decode cX0_firstEarlyVisit 7 = .ok (.getfield 60, 3) := by decide +kernel
theorem dX0_firstEarlyVisit_10 : decode cX0_firstEarlyVisit 10 = .ok (.iadd, 1) := by decide +kernel
theorem dX0_firstEarlyVisit_11 : decode cX0_firstEarlyVisit 11 = .ok (.bipush 96, 2) := by decide +kernel
theorem dX0_firstEarlyVisit_13 : decode cX0_firstEarlyVisit 13 = .ok (.if_icmp .ge 21, 3) := by decide +kernel
theorem dX0_firstEarlyVisit_16 : decode cX0_firstEarlyVisit 16 = .ok (.aload_n 0, 1) := by decide +kernel
theorem dX0_firstEarlyVisit_17 : decode cX0_firstEarlyVisit 17 = .ok (.iload_n 1, 1) := by decide +kernel
theorem dX0_firstEarlyVisit_18 : decode cX0_firstEarlyVisit 18 = .ok (.iload_n 2, 1) := by decide +kernel
theorem dX0_firstEarlyVisit_19 : decode cX0_firstEarlyVisit 19 = .ok (.iload_n 3, 1) := by decide +kernel
theorem dX0_firstEarlyVisit_20 : decode cX0_firstEarlyVisit 20 = .ok (.invokevirtual 63, 3) := by decide +kernel
theorem dX0_firstEarlyVisit_23 : decode cX0_firstEarlyVisit 23 = .ok (.ifCond .eq 5, 3) := by decide +kernel
theorem dX0_firstEarlyVisit_26 : decode cX0_firstEarlyVisit 26 = .ok (.iload_n 3, 1) := by decide +kernel
theorem dX0_firstEarlyVisit_27 : decode cX0_firstEarlyVisit 27 = .ok (.ireturn, 1) := by decide +kernel
theorem dX0_firstEarlyVisit_28 : decode cX0_firstEarlyVisit 28 = .ok (.iinc 3 1, 3) := by decide +kernel
theorem dX0_firstEarlyVisit_31 : decode cX0_firstEarlyVisit 31 = .ok (.goto (-29), 3) := by decide +kernel
theorem dX0_firstEarlyVisit_34 : decode cX0_firstEarlyVisit 34 = .ok (.bipush (-9), 2) := by decide +kernel
theorem dX0_firstEarlyVisit_36 : decode cX0_firstEarlyVisit 36 = .ok (.ireturn, 1) := by decide +kernel
theorem dX0_spread_0 : decode cX0_spread 0 = .ok (.aload_n 0, 1) := by decide +kernel
theorem dX0_spread_1 : decode cX0_spread 1 = .ok (.getfield 25, 3) := by decide +kernel
theorem dX0_spread_4 : decode cX0_spread 4 = .ok (.getfield 29, 3) := by decide +kernel
theorem dX0_spread_7 : decode cX0_spread 7 = .ok (.ifCond .ne 6, 3) := by decide +kernel
theorem dX0_spread_10 : decode cX0_spread 10 = .ok (.bipush (-9), 2) := by decide +kernel
theorem dX0_spread_12 : decode cX0_spread 12 = .ok (.ireturn, 1) := by decide +kernel
theorem dX0_spread_13 : decode cX0_spread 13 = .ok (.bipush 95, 2) := by decide +kernel
theorem dX0_spread_15 : decode cX0_spread 15 = .ok (.istore_n 2, 1) := by decide +kernel
theorem dX0_spread_16 : decode cX0_spread 16 = .ok (.iconst 0, 1) := by decide +kernel
theorem dX0_spread_17 : decode cX0_spread 17 = .ok (.istore_n 3, 1) := by decide +kernel
theorem dX0_spread_18 : decode cX0_spread 18 = .ok (.iconst 0, 1) := by decide +kernel
theorem dX0_spread_19 : decode cX0_spread 19 = .ok (.istore 4, 2) := by decide +kernel
theorem dX0_spread_21 : decode cX0_spread 21 = .ok (.iload 4, 2) := by decide +kernel
theorem dX0_spread_23 : decode cX0_spread 23 = .ok (.aload_n 0, 1) := by decide +kernel
theorem dX0_spread_24 : decode cX0_spread 24 = .ok (.getfield 25, 3) := by decide +kernel
theorem dX0_spread_27 : decode cX0_spread 27 = .ok (.getfield 29, 3) := by decide +kernel
theorem dX0_spread_30 : decode cX0_spread 30 = .ok (.if_icmp .ge 43, 3) := by decide +kernel
theorem dX0_spread_33 : decode cX0_spread 33 = .ok (.aload_n 0, 1) := by decide +kernel
theorem dX0_spread_34 : decode cX0_spread 34 = .ok (.iload 4, 2) := by decide +kernel
theorem dX0_spread_36 : decode cX0_spread 36 = .ok (.iload_n 1, 1) := by decide +kernel
theorem dX0_spread_37 : decode cX0_spread 37 = .ok (.iconst 0, 1) := by decide +kernel
theorem dX0_spread_38 : decode cX0_spread 38 = .ok (.invokevirtual 66, 3) := by decide +kernel
theorem dX0_spread_41 : decode cX0_spread 41 = .ok (.istore 5, 2) := by decide +kernel
theorem dX0_spread_43 : decode cX0_spread 43 = .ok (.iload 5, 2) := by decide +kernel
theorem dX0_spread_45 : decode cX0_spread 45 = .ok (.bipush (-9), 2) := by decide +kernel
theorem dX0_spread_47 : decode cX0_spread 47 = .ok (.if_icmp .ne 6, 3) := by decide +kernel
theorem dX0_spread_50 : decode cX0_spread 50 = .ok (.bipush (-9), 2) := by decide +kernel
theorem dX0_spread_52 : decode cX0_spread 52 = .ok (.ireturn, 1) := by decide +kernel
theorem dX0_spread_53 : decode cX0_spread 53 = .ok (.iload_n 2, 1) := by decide +kernel
theorem dX0_spread_54 : decode cX0_spread 54 = .ok (.iload 5, 2) := by decide +kernel
theorem dX0_spread_56 : decode cX0_spread 56 = .ok (.invokestatic 70, 3) := by decide +kernel
theorem dX0_spread_59 : decode cX0_spread 59 = .ok (.istore_n 2, 1) := by decide +kernel
theorem dX0_spread_60 : decode cX0_spread 60 = .ok (.iload_n 3, 1) := by decide +kernel
theorem dX0_spread_61 : decode cX0_spread 61 = .ok (.iload 5, 2) := by decide +kernel
theorem dX0_spread_63 : decode cX0_spread 63 = .ok (.invokestatic 75, 3) := by decide +kernel
theorem dX0_spread_66 : decode cX0_spread 66 = .ok (.istore_n 3, 1) := by decide +kernel
theorem dX0_spread_67 : decode cX0_spread 67 = .ok (.iinc 4 1, 3) := by decide +kernel
theorem dX0_spread_70 : decode cX0_spread 70 = .ok (.goto (-49), 3) := by decide +kernel
theorem dX0_spread_73 : decode cX0_spread 73 = .ok (.iload_n 3, 1) := by decide +kernel
theorem dX0_spread_74 : decode cX0_spread 74 = .ok (.iload_n 2, 1) := by decide +kernel
theorem dX0_spread_75 : decode cX0_spread 75 = .ok (.isub, 1) := by decide +kernel
theorem dX0_spread_76 : decode cX0_spread 76 = .ok (.ireturn, 1) := by decide +kernel
theorem dX0_numberOfLeastSpread_0 : decode cX0_numberOfLeastSpread 0 = .ok (.bipush (-9), 2) := by decide +kernel
theorem dX0_numberOfLeastSpread_2 : decode cX0_numberOfLeastSpread 2 = .ok (.istore_n 1, 1) := by decide +kernel
theorem dX0_numberOfLeastSpread_3 : decode cX0_numberOfLeastSpread 3 = .ok (.bipush 96, 2) := by decide +kernel
theorem dX0_numberOfLeastSpread_5 : decode cX0_numberOfLeastSpread 5 = .ok (.istore_n 2, 1) := by decide +kernel
theorem dX0_numberOfLeastSpread_6 : decode cX0_numberOfLeastSpread 6 = .ok (.iconst 0, 1) := by decide +kernel
theorem dX0_numberOfLeastSpread_7 : decode cX0_numberOfLeastSpread 7 = .ok (.istore_n 3, 1) := by decide +kernel
theorem dX0_numberOfLeastSpread_8 : decode cX0_numberOfLeastSpread 8 = .ok (.iload_n 3, 1) := by decide +kernel
theorem dX0_numberOfLeastSpread_9 : decode cX0_numberOfLeastSpread 9 = .ok (.bipush 48, 2) := by decide +kernel
theorem dX0_numberOfLeastSpread_11 : decode cX0_numberOfLeastSpread 11 = .ok (.if_icmp .ge 34, 3) := by decide +kernel
theorem dX0_numberOfLeastSpread_14 : decode cX0_numberOfLeastSpread 14 = .ok (.aload_n 0, 1) := by decide +kernel
theorem dX0_numberOfLeastSpread_15 : decode cX0_numberOfLeastSpread 15 = .ok (.iload_n 3, 1) := by decide +kernel
theorem dX0_numberOfLeastSpread_16 : decode cX0_numberOfLeastSpread 16 = .ok (.invokevirtual 78, 3) := by decide +kernel
theorem dX0_numberOfLeastSpread_19 : decode cX0_numberOfLeastSpread 19 = .ok (.istore 4, 2) := by decide +kernel
theorem dX0_numberOfLeastSpread_21 : decode cX0_numberOfLeastSpread 21 = .ok (.iload 4, 2) := by decide +kernel
theorem dX0_numberOfLeastSpread_23 : decode cX0_numberOfLeastSpread 23 = .ok (.bipush (-9), 2) := by decide +kernel
theorem dX0_numberOfLeastSpread_25 : decode cX0_numberOfLeastSpread 25 = .ok (.if_icmp .eq 14, 3) := by decide +kernel
theorem dX0_numberOfLeastSpread_28 : decode cX0_numberOfLeastSpread 28 = .ok (.iload 4, 2) := by decide +kernel
theorem dX0_numberOfLeastSpread_30 : decode cX0_numberOfLeastSpread 30 = .ok (.iload_n 2, 1) := by decide +kernel
theorem dX0_numberOfLeastSpread_31 : decode cX0_numberOfLeastSpread 31 = .ok (.if_icmp .ge 8, 3) := by decide +kernel
theorem dX0_numberOfLeastSpread_34 : decode cX0_numberOfLeastSpread 34 = .ok (.iload 4, 2) := by decide +kernel
theorem dX0_numberOfLeastSpread_36 : decode cX0_numberOfLeastSpread 36 = .ok (.istore_n 2, 1) := by decide +kernel
theorem dX0_numberOfLeastSpread_37 : decode cX0_numberOfLeastSpread 37 = .ok (.iload_n 3, 1) := by decide +kernel
theorem dX0_numberOfLeastSpread_38 : decode cX0_numberOfLeastSpread 38 = .ok (.istore_n 1, 1) := by decide +kernel
theorem dX0_numberOfLeastSpread_39 : decode cX0_numberOfLeastSpread 39 = .ok (.iinc 3 1, 3) := by decide +kernel
theorem dX0_numberOfLeastSpread_42 : decode cX0_numberOfLeastSpread 42 = .ok (.goto (-34), 3) := by decide +kernel
theorem dX0_numberOfLeastSpread_45 : decode cX0_numberOfLeastSpread 45 = .ok (.iload_n 1, 1) := by decide +kernel
theorem dX0_numberOfLeastSpread_46 : decode cX0_numberOfLeastSpread 46 = .ok (.ireturn, 1) := by decide +kernel
theorem dX0_tallyTurns_0 : decode cX0_tallyTurns 0 = .ok (.aload_n 0, 1) := by decide +kernel
theorem dX0_tallyTurns_1 : decode cX0_tallyTurns 1 = .ok (.getfield 18, 3) := by decide +kernel
theorem dX0_tallyTurns_4 : decode cX0_tallyTurns 4 = .ok (.iconst 0, 1) := by decide +kernel
theorem dX0_tallyTurns_5 : decode cX0_tallyTurns 5 = .ok (.invokestatic 82, 3) := by decide +kernel
theorem dX0_tallyTurns_8 : decode cX0_tallyTurns 8 = .ok (.iconst 0, 1) := by decide +kernel
theorem dX0_tallyTurns_9 : decode cX0_tallyTurns 9 = .ok (.istore_n 3, 1) := by decide +kernel
theorem dX0_tallyTurns_10 : decode cX0_tallyTurns 10 = .ok (.iload_n 3, 1) := by decide +kernel
theorem dX0_tallyTurns_11 : decode cX0_tallyTurns 11 = .ok (.bipush 96, 2) := by decide +kernel
theorem dX0_tallyTurns_13 : decode cX0_tallyTurns 13 = .ok (.if_icmp .ge 36, 3) := by decide +kernel
theorem dX0_tallyTurns_16 : decode cX0_tallyTurns 16 = .ok (.aload_n 0, 1) := by decide +kernel
theorem dX0_tallyTurns_17 : decode cX0_tallyTurns 17 = .ok (.getfield 18, 3) := by decide +kernel
theorem dX0_tallyTurns_20 : decode cX0_tallyTurns 20 = .ok (.aload_n 0, 1) := by decide +kernel
theorem dX0_tallyTurns_21 : decode cX0_tallyTurns 21 = .ok (.iload_n 1, 1) := by decide +kernel
theorem dX0_tallyTurns_22 : decode cX0_tallyTurns 22 = .ok (.iload_n 3, 1) := by decide +kernel
theorem dX0_tallyTurns_23 : decode cX0_tallyTurns 23 = .ok (.invokevirtual 56, 3) := by decide +kernel
theorem dX0_tallyTurns_26 : decode cX0_tallyTurns 26 = .ok (.aload_n 0, 1) := by decide +kernel
theorem dX0_tallyTurns_27 : decode cX0_tallyTurns 27 = .ok (.iload_n 2, 1) := by decide +kernel
theorem dX0_tallyTurns_28 : decode cX0_tallyTurns 28 = .ok (.iload_n 3, 1) := by decide +kernel
theorem dX0_tallyTurns_29 : decode cX0_tallyTurns 29 = .ok (.invokevirtual 56, 3) := by decide +kernel
theorem dX0_tallyTurns_32 : decode cX0_tallyTurns 32 = .ok (.isub, 1) := by decide +kernel
theorem dX0_tallyTurns_33 : decode cX0_tallyTurns 33 = .ok (.bipush 48, 2) := by decide +kernel
theorem dX0_tallyTurns_35 : decode cX0_tallyTurns 35 = .ok (.invokestatic 88, 3) := by decide +kernel
theorem dX0_tallyTurns_38 : decode cX0_tallyTurns 38 = .ok (.dup2, 1) := by decide +kernel
theorem dX0_tallyTurns_39 : decode cX0_tallyTurns 39 = .ok (.iaload, 1) := by decide +kernel
theorem dX0_tallyTurns_40 : decode cX0_tallyTurns 40 = .ok (.iconst 1, 1) := by decide +kernel
theorem dX0_tallyTurns_41 : decode cX0_tallyTurns 41 = .ok (.iadd, 1) := by decide +kernel
theorem dX0_tallyTurns_42 : decode cX0_tallyTurns 42 = .ok (.iastore, 1) := by decide +kernel
theorem dX0_tallyTurns_43 : decode cX0_tallyTurns 43 = .ok (.iinc 3 1, 3) := by decide +kernel
theorem dX0_tallyTurns_46 : decode cX0_tallyTurns 46 = .ok (.goto (-36), 3) := by decide +kernel
theorem dX0_tallyTurns_49 : decode cX0_tallyTurns 49 = .ok (.return_, 1) := by decide +kernel
theorem dX0_bestTallied_0 : decode cX0_bestTallied 0 = .ok (.iconst 0, 1) := by decide +kernel
theorem dX0_bestTallied_1 : decode cX0_bestTallied 1 = .ok (.istore_n 1, 1) := by decide +kernel
theorem dX0_bestTallied_2 : decode cX0_bestTallied 2 = .ok (.iconst 1, 1) := by decide +kernel
theorem dX0_bestTallied_3 : decode cX0_bestTallied 3 = .ok (.istore_n 2, 1) := by decide +kernel
theorem dX0_bestTallied_4 : decode cX0_bestTallied 4 = .ok (.iload_n 2, 1) := by decide +kernel
theorem dX0_bestTallied_5 : decode cX0_bestTallied 5 = .ok (.bipush 48, 2) := by decide +kernel
theorem dX0_bestTallied_7 : decode cX0_bestTallied 7 = .ok (.if_icmp .ge 26, 3) := by decide +kernel
theorem dX0_bestTallied_10 : decode cX0_bestTallied 10 = .ok (.aload_n 0, 1) := by decide +kernel
theorem dX0_bestTallied_11 : decode cX0_bestTallied 11 = .ok (.getfield 18, 3) := by decide +kernel
theorem dX0_bestTallied_14 : decode cX0_bestTallied 14 = .ok (.iload_n 2, 1) := by decide +kernel
theorem dX0_bestTallied_15 : decode cX0_bestTallied 15 = .ok (.iaload, 1) := by decide +kernel
theorem dX0_bestTallied_16 : decode cX0_bestTallied 16 = .ok (.aload_n 0, 1) := by decide +kernel
theorem dX0_bestTallied_17 : decode cX0_bestTallied 17 = .ok (.getfield 18, 3) := by decide +kernel
theorem dX0_bestTallied_20 : decode cX0_bestTallied 20 = .ok (.iload_n 1, 1) := by decide +kernel
theorem dX0_bestTallied_21 : decode cX0_bestTallied 21 = .ok (.iaload, 1) := by decide +kernel
theorem dX0_bestTallied_22 : decode cX0_bestTallied 22 = .ok (.if_icmp .le 5, 3) := by decide +kernel
theorem dX0_bestTallied_25 : decode cX0_bestTallied 25 = .ok (.iload_n 2, 1) := by decide +kernel
theorem dX0_bestTallied_26 : decode cX0_bestTallied 26 = .ok (.istore_n 1, 1) := by decide +kernel
theorem dX0_bestTallied_27 : decode cX0_bestTallied 27 = .ok (.iinc 2 1, 3) := by decide +kernel
theorem dX0_bestTallied_30 : decode cX0_bestTallied 30 = .ok (.goto (-26), 3) := by decide +kernel
theorem dX0_bestTallied_33 : decode cX0_bestTallied 33 = .ok (.iload_n 1, 1) := by decide +kernel
theorem dX0_bestTallied_34 : decode cX0_bestTallied 34 = .ok (.ireturn, 1) := by decide +kernel
theorem dX0_unlikeAt_0 : decode cX0_unlikeAt 0 = .ok (.lconst 0, 1) := by decide +kernel
theorem dX0_unlikeAt_1 : decode cX0_unlikeAt 1 = .ok (.lstore_n 3, 1) := by decide +kernel
theorem dX0_unlikeAt_2 : decode cX0_unlikeAt 2 = .ok (.iconst 0, 1) := by decide +kernel
theorem dX0_unlikeAt_3 : decode cX0_unlikeAt 3 = .ok (.istore 5, 2) := by decide +kernel
theorem dX0_unlikeAt_5 : decode cX0_unlikeAt 5 = .ok (.iload 5, 2) := by decide +kernel
theorem dX0_unlikeAt_7 : decode cX0_unlikeAt 7 = .ok (.aload_n 0, 1) := by decide +kernel
theorem dX0_unlikeAt_8 : decode cX0_unlikeAt 8 = .ok (.getfield 25, 3) := by decide +kernel
theorem dX0_unlikeAt_11 : decode cX0_unlikeAt 11 = .ok (.getfield 29, 3) := by decide +kernel
theorem dX0_unlikeAt_14 : decode cX0_unlikeAt 14 = .ok (.if_icmp .ge 30, 3) := by decide +kernel
theorem dX0_unlikeAt_17 : decode cX0_unlikeAt 17 = .ok (.iload_n 1, 1) := by decide +kernel
theorem dX0_unlikeAt_18 : decode cX0_unlikeAt 18 = .ok (.iload 5, 2) := by decide +kernel
theorem dX0_unlikeAt_20 : decode cX0_unlikeAt 20 = .ok (.ishr, 1) := by decide +kernel
theorem dX0_unlikeAt_21 : decode cX0_unlikeAt 21 = .ok (.iconst 1, 1) := by decide +kernel
theorem dX0_unlikeAt_22 : decode cX0_unlikeAt 22 = .ok (.iand, 1) := by decide +kernel
theorem dX0_unlikeAt_23 : decode cX0_unlikeAt 23 = .ok (.ifCond .eq 15, 3) := by decide +kernel
theorem dX0_unlikeAt_26 : decode cX0_unlikeAt 26 = .ok (.lload_n 3, 1) := by decide +kernel
theorem dX0_unlikeAt_27 : decode cX0_unlikeAt 27 = .ok (.lconst 1, 1) := by decide +kernel
theorem dX0_unlikeAt_28 : decode cX0_unlikeAt 28 = .ok (.aload_n 0, 1) := by decide +kernel
theorem dX0_unlikeAt_29 : decode cX0_unlikeAt 29 = .ok (.iload 5, 2) := by decide +kernel
theorem dX0_unlikeAt_31 : decode cX0_unlikeAt 31 = .ok (.iload_n 2, 1) := by decide +kernel
theorem dX0_unlikeAt_32 : decode cX0_unlikeAt 32 = .ok (.invokevirtual 56, 3) := by decide +kernel
theorem dX0_unlikeAt_35 : decode cX0_unlikeAt 35 = .ok (.lshl, 1) := by decide +kernel
theorem dX0_unlikeAt_36 : decode cX0_unlikeAt 36 = .ok (.lor, 1) := by decide +kernel
theorem dX0_unlikeAt_37 : decode cX0_unlikeAt 37 = .ok (.lstore_n 3, 1) := by decide +kernel
theorem dX0_unlikeAt_38 : decode cX0_unlikeAt 38 = .ok (.iinc 5 1, 3) := by decide +kernel
theorem dX0_unlikeAt_41 : decode cX0_unlikeAt 41 = .ok (.goto (-36), 3) := by decide +kernel
theorem dX0_unlikeAt_44 : decode cX0_unlikeAt 44 = .ok (.lload_n 3, 1) := by decide +kernel
theorem dX0_unlikeAt_45 : decode cX0_unlikeAt 45 = .ok (.invokestatic 91, 3) := by decide +kernel
theorem dX0_unlikeAt_48 : decode cX0_unlikeAt 48 = .ok (.ireturn, 1) := by decide +kernel
theorem dX0_quarterMostUnlike_0 : decode cX0_quarterMostUnlike 0 = .ok (.iload_n 1, 1) := by decide +kernel
theorem dX0_quarterMostUnlike_1 : decode cX0_quarterMostUnlike 1 = .ok (.invokestatic 97, 3) := by decide +kernel
theorem dX0_quarterMostUnlike_4 : decode cX0_quarterMostUnlike 4 = .ok (.iconst 2, 1) := by decide +kernel
theorem dX0_quarterMostUnlike_5 : decode cX0_quarterMostUnlike 5 = .ok (.if_icmp .ge 6, 3) := by decide +kernel
theorem dX0_quarterMostUnlike_8 : decode cX0_quarterMostUnlike 8 = .ok (.bipush (-9), 2) := by decide +kernel
theorem dX0_quarterMostUnlike_10 : decode cX0_quarterMostUnlike 10 = .ok (.ireturn, 1) := by decide +kernel
theorem dX0_quarterMostUnlike_11 : decode cX0_quarterMostUnlike 11 = .ok (.iconst 0, 1) := by decide +kernel
theorem dX0_quarterMostUnlike_12 : decode cX0_quarterMostUnlike 12 = .ok (.istore_n 2, 1) := by decide +kernel
theorem dX0_quarterMostUnlike_13 : decode cX0_quarterMostUnlike 13 = .ok (.iconst 0, 1) := by decide +kernel
theorem dX0_quarterMostUnlike_14 : decode cX0_quarterMostUnlike 14 = .ok (.istore_n 3, 1) := by decide +kernel
theorem dX0_quarterMostUnlike_15 : decode cX0_quarterMostUnlike 15 = .ok (.iconst 0, 1) := by decide +kernel
theorem dX0_quarterMostUnlike_16 : decode cX0_quarterMostUnlike 16 = .ok (.istore 4, 2) := by decide +kernel
theorem dX0_quarterMostUnlike_18 : decode cX0_quarterMostUnlike 18 = .ok (.iload 4, 2) := by decide +kernel
theorem dX0_quarterMostUnlike_20 : decode cX0_quarterMostUnlike 20 = .ok (.bipush 96, 2) := by decide +kernel
theorem dX0_quarterMostUnlike_22 : decode cX0_quarterMostUnlike 22 = .ok (.if_icmp .ge 30, 3) := by decide +kernel
theorem dX0_quarterMostUnlike_25 : decode cX0_quarterMostUnlike 25 = .ok (.aload_n 0, 1) := by decide +kernel
theorem dX0_quarterMostUnlike_26 : decode cX0_quarterMostUnlike 26 = .ok (.iload_n 1, 1) := by decide +kernel
theorem dX0_quarterMostUnlike_27 : decode cX0_quarterMostUnlike 27 = .ok (.iload 4, 2) := by decide +kernel
theorem dX0_quarterMostUnlike_29 : decode cX0_quarterMostUnlike 29 = .ok (.invokevirtual 101, 3) := by decide +kernel
theorem dX0_quarterMostUnlike_32 : decode cX0_quarterMostUnlike 32 = .ok (.istore 5, 2) := by decide +kernel
theorem dX0_quarterMostUnlike_34 : decode cX0_quarterMostUnlike 34 = .ok (.iload 5, 2) := by decide +kernel
theorem dX0_quarterMostUnlike_36 : decode cX0_quarterMostUnlike 36 = .ok (.iload_n 3, 1) := by decide +kernel
theorem dX0_quarterMostUnlike_37 : decode cX0_quarterMostUnlike 37 = .ok (.if_icmp .le 9, 3) := by decide +kernel
theorem dX0_quarterMostUnlike_40 : decode cX0_quarterMostUnlike 40 = .ok (.iload 5, 2) := by decide +kernel
theorem dX0_quarterMostUnlike_42 : decode cX0_quarterMostUnlike 42 = .ok (.istore_n 3, 1) := by decide +kernel
theorem dX0_quarterMostUnlike_43 : decode cX0_quarterMostUnlike 43 = .ok (.iload 4, 2) := by decide +kernel
theorem dX0_quarterMostUnlike_45 : decode cX0_quarterMostUnlike 45 = .ok (.istore_n 2, 1) := by decide +kernel
theorem dX0_quarterMostUnlike_46 : decode cX0_quarterMostUnlike 46 = .ok (.iinc 4 1, 3) := by decide +kernel
theorem dX0_quarterMostUnlike_49 : decode cX0_quarterMostUnlike 49 = .ok (.goto (-31), 3) := by decide +kernel
theorem dX0_quarterMostUnlike_52 : decode cX0_quarterMostUnlike 52 = .ok (.iload_n 2, 1) := by decide +kernel
theorem dX0_quarterMostUnlike_53 : decode cX0_quarterMostUnlike 53 = .ok (.ireturn, 1) := by decide +kernel
theorem dX0_eldest_0 : decode cX0_eldest 0 = .ok (.bipush (-9), 2) := by decide +kernel
theorem dX0_eldest_2 : decode cX0_eldest 2 = .ok (.istore_n 3, 1) := by decide +kernel
theorem dX0_eldest_3 : decode cX0_eldest 3 = .ok (.iconst (-1), 1) := by decide +kernel
theorem dX0_eldest_4 : decode cX0_eldest 4 = .ok (.istore 4, 2) := by decide +kernel
theorem dX0_eldest_6 : decode cX0_eldest 6 = .ok (.iconst 0, 1) := by decide +kernel
theorem dX0_eldest_7 : decode cX0_eldest 7 = .ok (.istore 5, 2) := by decide +kernel
theorem dX0_eldest_9 : decode cX0_eldest 9 = .ok (.iload 5, 2) := by decide +kernel
theorem dX0_eldest_11 : decode cX0_eldest 11 = .ok (.aload_n 0, 1) := by decide +kernel
theorem dX0_eldest_12 : decode cX0_eldest 12 = .ok (.getfield 25, 3) := by decide +kernel
theorem dX0_eldest_15 : decode cX0_eldest 15 = .ok (.getfield 29, 3) := by decide +kernel
theorem dX0_eldest_18 : decode cX0_eldest 18 = .ok (.if_icmp .ge 40, 3) := by decide +kernel
theorem dX0_eldest_21 : decode cX0_eldest 21 = .ok (.aload_n 0, 1) := by decide +kernel
theorem dX0_eldest_22 : decode cX0_eldest 22 = .ok (.getfield 25, 3) := by decide +kernel
theorem dX0_eldest_25 : decode cX0_eldest 25 = .ok (.getfield 41, 3) := by decide +kernel
theorem dX0_eldest_28 : decode cX0_eldest 28 = .ok (.iload 5, 2) := by decide +kernel
theorem dX0_eldest_30 : decode cX0_eldest 30 = .ok (.aaload, 1) := by decide +kernel
theorem dX0_eldest_31 : decode cX0_eldest 31 = .ok (.iload_n 1, 1) := by decide +kernel
theorem dX0_eldest_32 : decode cX0_eldest 32 = .ok (.iload_n 2, 1) := by decide +kernel
theorem dX0_eldest_33 : decode cX0_eldest 33 = .ok (.invokevirtual 104, 3) := by decide +kernel
theorem dX0_eldest_36 : decode cX0_eldest 36 = .ok (.istore 6, 2) := by decide +kernel
theorem dX0_eldest_38 : decode cX0_eldest 38 = .ok (.iload 6, 2) := by decide +kernel
theorem dX0_eldest_40 : decode cX0_eldest 40 = .ok (.iload 4, 2) := by decide +kernel
theorem dX0_eldest_42 : decode cX0_eldest 42 = .ok (.if_icmp .le 10, 3) := by decide +kernel
theorem dX0_eldest_45 : decode cX0_eldest 45 = .ok (.iload 6, 2) := by decide +kernel
theorem dX0_eldest_47 : decode cX0_eldest 47 = .ok (.istore 4, 2) := by decide +kernel
theorem dX0_eldest_49 : decode cX0_eldest 49 = .ok (.iload 5, 2) := by decide +kernel
theorem dX0_eldest_51 : decode cX0_eldest 51 = .ok (.istore_n 3, 1) := by decide +kernel
theorem dX0_eldest_52 : decode cX0_eldest 52 = .ok (.iinc 5 1, 3) := by decide +kernel
theorem dX0_eldest_55 : decode cX0_eldest 55 = .ok (.goto (-46), 3) := by decide +kernel
theorem dX0_eldest_58 : decode cX0_eldest 58 = .ok (.iload_n 3, 1) := by decide +kernel
theorem dX0_eldest_59 : decode cX0_eldest 59 = .ok (.ireturn, 1) := by decide +kernel
theorem dX1_init_0 : decode cX1_init 0 = .ok (.aload_n 0, 1) := by decide +kernel
theorem dX1_init_1 : decode cX1_init 1 = .ok (.invokespecial 3, 3) := by decide +kernel
theorem dX1_init_4 : decode cX1_init 4 = .ok (.aload_n 0, 1) := by decide +kernel
theorem dX1_init_5 : decode cX1_init 5 = .ok (.bipush 8, 2) := by decide +kernel
theorem dX1_init_7 : decode cX1_init 7 = .ok (.newarray .int, 2) := by decide +kernel
theorem dX1_init_9 : decode cX1_init 9 = .ok (.putfield 9, 3) := by decide +kernel
theorem dX1_init_12 : decode cX1_init 12 = .ok (.aload_n 0, 1) := by decide +kernel
theorem dX1_init_13 : decode cX1_init 13 = .ok (.bipush 8, 2) := by decide +kernel
theorem dX1_init_15 : decode cX1_init 15 = .ok (.newarray .int, 2) := by decide +kernel
theorem dX1_init_17 : decode cX1_init 17 = .ok (.putfield 15, 3) := by decide +kernel
theorem dX1_init_20 : decode cX1_init 20 = .ok (.aload_n 0, 1) := by decide +kernel
theorem dX1_init_21 : decode cX1_init 21 = .ok (.bipush 8, 2) := by decide +kernel
theorem dX1_init_23 : decode cX1_init 23 = .ok (.newarray .int, 2) := by decide +kernel
theorem dX1_init_25 : decode cX1_init 25 = .ok (.putfield 18, 3) := by decide +kernel
theorem dX1_init_28 : decode cX1_init 28 = .ok (.aload_n 0, 1) := by decide +kernel
theorem dX1_init_29 : decode cX1_init 29 = .ok (.bipush 8, 2) := by decide +kernel
theorem dX1_init_31 : decode cX1_init 31 = .ok (.newarray .int, 2) := by decide +kernel
theorem dX1_init_33 : decode cX1_init 33 = .ok (.putfield 21, 3) := by decide +kernel
theorem dX1_init_36 : decode cX1_init 36 = .ok (.aload_n 0, 1) := by decide +kernel
theorem dX1_init_37 : decode cX1_init 37 = .ok (.bipush 8, 2) := by decide +kernel
theorem dX1_init_39 : decode cX1_init 39 = .ok (.newarray .int, 2) := by decide +kernel
theorem dX1_init_41 : decode cX1_init 41 = .ok (.putfield 24, 3) := by decide +kernel
theorem dX1_init_44 : decode cX1_init 44 = .ok (.aload_n 0, 1) := by decide +kernel
theorem dX1_init_45 : decode cX1_init 45 = .ok (.aload_n 1, 1) := by decide +kernel
theorem dX1_init_46 : decode cX1_init 46 = .ok (.putfield 27, 3) := by decide +kernel
theorem dX1_init_49 : decode cX1_init 49 = .ok (.return_, 1) := by decide +kernel
theorem dX1_add_0 : decode cX1_add 0 = .ok (.aload_n 0, 1) := by decide +kernel
theorem dX1_add_1 : decode cX1_add 1 = .ok (.getfield 31, 3) := by decide +kernel
theorem dX1_add_4 : decode cX1_add 4 = .ok (.bipush 8, 2) := by decide +kernel
theorem dX1_add_6 : decode cX1_add 6 = .ok (.if_icmp .ge 43, 3) := by decide +kernel
theorem dX1_add_9 : decode cX1_add 9 = .ok (.aload_n 0, 1) := by decide +kernel
theorem dX1_add_10 : decode cX1_add 10 = .ok (.getfield 9, 3) := by decide +kernel
theorem dX1_add_13 : decode cX1_add 13 = .ok (.aload_n 0, 1) := by decide +kernel
theorem dX1_add_14 : decode cX1_add 14 = .ok (.getfield 31, 3) := by decide +kernel
theorem dX1_add_17 : decode cX1_add 17 = .ok (.iload_n 1, 1) := by decide +kernel
theorem dX1_add_18 : decode cX1_add 18 = .ok (.iastore, 1) := by decide +kernel
theorem dX1_add_19 : decode cX1_add 19 = .ok (.aload_n 0, 1) := by decide +kernel
theorem dX1_add_20 : decode cX1_add 20 = .ok (.getfield 15, 3) := by decide +kernel
theorem dX1_add_23 : decode cX1_add 23 = .ok (.aload_n 0, 1) := by decide +kernel
theorem dX1_add_24 : decode cX1_add 24 = .ok (.getfield 31, 3) := by decide +kernel
theorem dX1_add_27 : decode cX1_add 27 = .ok (.iload_n 2, 1) := by decide +kernel
theorem dX1_add_28 : decode cX1_add 28 = .ok (.iastore, 1) := by decide +kernel
theorem dX1_add_29 : decode cX1_add 29 = .ok (.aload_n 0, 1) := by decide +kernel
theorem dX1_add_30 : decode cX1_add 30 = .ok (.getfield 18, 3) := by decide +kernel
theorem dX1_add_33 : decode cX1_add 33 = .ok (.aload_n 0, 1) := by decide +kernel
theorem dX1_add_34 : decode cX1_add 34 = .ok (.getfield 31, 3) := by decide +kernel
theorem dX1_add_37 : decode cX1_add 37 = .ok (.iload_n 3, 1) := by decide +kernel
theorem dX1_add_38 : decode cX1_add 38 = .ok (.iastore, 1) := by decide +kernel
theorem dX1_add_39 : decode cX1_add 39 = .ok (.aload_n 0, 1) := by decide +kernel
theorem dX1_add_40 : decode cX1_add 40 = .ok (.dup, 1) := by decide +kernel
theorem dX1_add_41 : decode cX1_add 41 = .ok (.getfield 31, 3) := by decide +kernel
theorem dX1_add_44 : decode cX1_add 44 = .ok (.iconst 1, 1) := by decide +kernel
theorem dX1_add_45 : decode cX1_add 45 = .ok (.iadd, 1) := by decide +kernel
theorem dX1_add_46 : decode cX1_add 46 = .ok (.putfield 31, 3) := by decide +kernel
theorem dX1_add_49 : decode cX1_add 49 = .ok (.return_, 1) := by decide +kernel
theorem dX1_quarterOf_0 : decode cX1_quarterOf 0 = .ok (.aload_n 0, 1) := by decide +kernel
theorem dX1_quarterOf_1 : decode cX1_quarterOf 1 = .ok (.getfield 27, 3) := by decide +kernel
theorem dX1_quarterOf_4 : decode cX1_quarterOf 4 = .ok (.aload_n 0, 1) := by decide +kernel
theorem dX1_quarterOf_5 : decode cX1_quarterOf 5 = .ok (.getfield 15, 3) := by decide +kernel
theorem dX1_quarterOf_8 : decode cX1_quarterOf 8 = .ok (.iload_n 1, 1) := by decide +kernel
theorem dX1_quarterOf_9 : decode cX1_quarterOf 9 = .ok (.iaload, 1) := by decide +kernel
theorem dX1_quarterOf_10 : decode cX1_quarterOf 10 = .ok (.aload_n 0, 1) := by decide +kernel
theorem dX1_quarterOf_11 : decode cX1_quarterOf 11 = .ok (.getfield 18, 3) := by decide +kernel
theorem dX1_quarterOf_14 : decode cX1_quarterOf 14 = .ok (.iload_n 1, 1) := by decide +kernel
theorem dX1_quarterOf_15 : decode cX1_quarterOf 15 = .ok (.iaload, 1) := by decide +kernel
theorem dX1_quarterOf_16 : decode cX1_quarterOf 16 = .ok (.iconst 0, 1) := by decide +kernel
theorem dX1_quarterOf_17 : decode cX1_quarterOf 17 = .ok (.invokevirtual 35, 3) := by decide +kernel
theorem dX1_quarterOf_20 : decode cX1_quarterOf 20 = .ok (.ireturn, 1) := by decide +kernel
theorem dX1_hasRing_0 : decode cX1_hasRing 0 = .ok (.aload_n 0, 1) := by decide +kernel
theorem dX1_hasRing_1 : decode cX1_hasRing 1 = .ok (.invokevirtual 41, 3) := by decide +kernel
theorem dX1_hasRing_4 : decode cX1_hasRing 4 = .ok (.aload_n 0, 1) := by decide +kernel
theorem dX1_hasRing_5 : decode cX1_hasRing 5 = .ok (.invokevirtual 44, 3) := by decide +kernel
theorem dX1_hasRing_8 : decode cX1_hasRing 8 = .ok (.iconst 0, 1) := by decide +kernel
theorem dX1_hasRing_9 : decode cX1_hasRing 9 = .ok (.istore_n 1, 1) := by decide +kernel
theorem dX1_hasRing_10 : decode cX1_hasRing 10 = .ok (.iload_n 1, 1) := by decide +kernel
theorem dX1_hasRing_11 : decode cX1_hasRing 11 = .ok (.aload_n 0, 1) := by decide +kernel
theorem dX1_hasRing_12 : decode cX1_hasRing 12 = .ok (.getfield 31, 3) := by decide +kernel
theorem dX1_hasRing_15 : decode cX1_hasRing 15 = .ok (.if_icmp .ge 51, 3) := by decide +kernel
theorem dX1_hasRing_18 : decode cX1_hasRing 18 = .ok (.iconst 0, 1) := by decide +kernel
theorem dX1_hasRing_19 : decode cX1_hasRing 19 = .ok (.istore_n 2, 1) := by decide +kernel
theorem dX1_hasRing_20 : decode cX1_hasRing 20 = .ok (.iload_n 2, 1) := by decide +kernel
theorem dX1_hasRing_21 : decode cX1_hasRing 21 = .ok (.aload_n 0, 1) := by decide +kernel
theorem dX1_hasRing_22 : decode cX1_hasRing 22 = .ok (.getfield 31, 3) := by decide +kernel
theorem dX1_hasRing_25 : decode cX1_hasRing 25 = .ok (.if_icmp .ge 35, 3) := by decide +kernel
theorem dX1_hasRing_28 : decode cX1_hasRing 28 = .ok (.aload_n 0, 1) := by decide +kernel
theorem dX1_hasRing_29 : decode cX1_hasRing 29 = .ok (.iload_n 1, 1) := by decide +kernel
theorem dX1_hasRing_30 : decode cX1_hasRing 30 = .ok (.iload_n 2, 1) := by decide +kernel
theorem dX1_hasRing_31 : decode cX1_hasRing 31 = .ok (.invokevirtual 47, 3) := by decide +kernel
theorem dX1_hasRing_34 : decode cX1_hasRing 34 = .ok (.ifCond .eq 20, 3) := by decide +kernel
theorem dX1_hasRing_37 : decode cX1_hasRing 37 = .ok (.aload_n 0, 1) := by decide +kernel
theorem dX1_hasRing_38 : decode cX1_hasRing 38 = .ok (.getfield 15, 3) := by decide +kernel
theorem dX1_hasRing_41 : decode cX1_hasRing 41 = .ok (.iload_n 2, 1) := by decide +kernel
theorem dX1_hasRing_42 : decode cX1_hasRing 42 = .ok (.iaload, 1) := by decide +kernel
theorem dX1_hasRing_43 : decode cX1_hasRing 43 = .ok (.aload_n 0, 1) := by decide +kernel
theorem dX1_hasRing_44 : decode cX1_hasRing 44 = .ok (.getfield 9, 3) := by decide +kernel
theorem dX1_hasRing_47 : decode cX1_hasRing 47 = .ok (.iload_n 1, 1) := by decide +kernel
theorem dX1_hasRing_48 : decode cX1_hasRing 48 = .ok (.iaload, 1) := by decide +kernel
theorem dX1_hasRing_49 : decode cX1_hasRing 49 = .ok (.if_icmp .ne 5, 3) := by decide +kernel
theorem dX1_hasRing_52 : decode cX1_hasRing 52 = .ok (.iconst 1, 1) := by decide +kernel
theorem dX1_hasRing_53 : decode cX1_hasRing 53 = .ok (.ireturn, 1) := by decide +kernel
theorem dX1_hasRing_54 : decode cX1_hasRing 54 = .ok (.iinc 2 1, 3) := by decide +kernel
theorem dX1_hasRing_57 : decode cX1_hasRing 57 = .ok (.goto (-37), 3) := by decide +kernel
theorem dX1_hasRing_60 : decode cX1_hasRing 60 = .ok (.iinc 1 1, 3) := by decide +kernel
theorem dX1_hasRing_63 : decode cX1_hasRing 63 = .ok (.goto (-53), 3) := by decide +kernel
theorem dX1_hasRing_66 : decode cX1_hasRing 66 = .ok (.iconst 0, 1) := by decide +kernel
theorem dX1_hasRing_67 : decode cX1_hasRing 67 = .ok (.ireturn, 1) := by decide +kernel
theorem dX1_findNextOnes_0 : decode cX1_findNextOnes 0 = .ok (.iconst 0, 1) := by decide +kernel
theorem dX1_findNextOnes_1 : decode cX1_findNextOnes 1 = .ok (.istore_n 1, 1) := by decide +kernel
theorem dX1_findNextOnes_2 : decode cX1_findNextOnes 2 = .ok (.iload_n 1, 1) := by decide +kernel
theorem dX1_findNextOnes_3 : decode cX1_findNextOnes 3 = .ok (.aload_n 0, 1) := by decide +kernel
theorem dX1_findNextOnes_4 : decode cX1_findNextOnes 4 = .ok (.getfield 31, 3) := by decide +kernel
theorem dX1_findNextOnes_7 : decode cX1_findNextOnes 7 = .ok (.if_icmp .ge 20, 3) := by decide +kernel
theorem dX1_findNextOnes_10 : decode cX1_findNextOnes 10 = .ok (.aload_n 0, 1) := by decide +kernel
theorem dX1_findNextOnes_11 : decode cX1_findNextOnes 11 = .ok (.getfield 21, 3) := by decide +kernel
theorem dX1_findNextOnes_14 : decode cX1_findNextOnes 14 = .ok (.iload_n 1, 1) := by decide +kernel
theorem dX1_findNextOnes_15 : decode cX1_findNextOnes 15 = .ok (.aload_n 0, 1) := by decide +kernel
theorem dX1_findNextOnes_16 : decode cX1_findNextOnes 16 = .ok (.iload_n 1, 1) := by decide +kernel
theorem dX1_findNextOnes_17 : decode cX1_findNextOnes 17 = .ok (.invokevirtual 51, 3) := by decide +kernel
theorem dX1_findNextOnes_20 : decode cX1_findNextOnes 20 = .ok (.iastore, 1) := by decide +kernel
theorem dX1_findNextOnes_21 : decode cX1_findNextOnes 21 = .ok (.iinc 1 1, 3) := by decide +kernel
theorem dX1_findNextOnes_24 : decode cX1_findNextOnes 24 = .ok (.goto (-22), 3) := by decide +kernel
theorem dX1_findNextOnes_27 : decode cX1_findNextOnes 27 = .ok (.iconst 0, 1) := by decide +kernel
theorem dX1_findNextOnes_28 : decode cX1_findNextOnes 28 = .ok (.istore_n 1, 1) := by decide +kernel
theorem dX1_findNextOnes_29 : decode cX1_findNextOnes 29 = .ok (.iload_n 1, 1) := by decide +kernel
theorem dX1_findNextOnes_30 : decode cX1_findNextOnes 30 = .ok (.aload_n 0, 1) := by decide +kernel
theorem dX1_findNextOnes_31 : decode cX1_findNextOnes 31 = .ok (.getfield 31, 3) := by decide +kernel
theorem dX1_findNextOnes_34 : decode cX1_findNextOnes 34 = .ok (.if_icmp .ge 53, 3) := by decide +kernel
theorem dX1_findNextOnes_37 : decode cX1_findNextOnes 37 = .ok (.aload_n 0, 1) := by decide +kernel
theorem dX1_findNextOnes_38 : decode cX1_findNextOnes 38 = .ok (.getfield 24, 3) := by decide +kernel
theorem dX1_findNextOnes_41 : decode cX1_findNextOnes 41 = .ok (.iload_n 1, 1) := by decide +kernel
theorem dX1_findNextOnes_42 : decode cX1_findNextOnes 42 = .ok (.iconst 0, 1) := by decide +kernel
theorem dX1_findNextOnes_43 : decode cX1_findNextOnes 43 = .ok (.iastore, 1) := by decide +kernel
theorem dX1_findNextOnes_44 : decode cX1_findNextOnes 44 = .ok (.iconst 0, 1) := by decide +kernel
theorem dX1_findNextOnes_45 : decode cX1_findNextOnes 45 = .ok (.istore_n 2, 1) := by decide +kernel
theorem dX1_findNextOnes_46 : decode cX1_findNextOnes 46 = .ok (.iload_n 2, 1) := by decide +kernel
theorem dX1_findNextOnes_47 : decode cX1_findNextOnes 47 = .ok (.aload_n 0, 1) := by decide +kernel
theorem dX1_findNextOnes_48 : decode cX1_findNextOnes 48 = .ok (.getfield 31, 3) := by decide +kernel
theorem dX1_findNextOnes_51 : decode cX1_findNextOnes 51 = .ok (.if_icmp .ge 30, 3) := by decide +kernel
theorem dX1_findNextOnes_54 : decode cX1_findNextOnes 54 = .ok (.aload_n 0, 1) := by decide +kernel
theorem dX1_findNextOnes_55 : decode cX1_findNextOnes 55 = .ok (.iload_n 1, 1) := by decide +kernel
theorem dX1_findNextOnes_56 : decode cX1_findNextOnes 56 = .ok (.iload_n 2, 1) := by decide +kernel
theorem dX1_findNextOnes_57 : decode cX1_findNextOnes 57 = .ok (.invokevirtual 55, 3) := by decide +kernel
theorem dX1_findNextOnes_60 : decode cX1_findNextOnes 60 = .ok (.ifCond .eq 15, 3) := by decide +kernel
theorem dX1_findNextOnes_63 : decode cX1_findNextOnes 63 = .ok (.aload_n 0, 1) := by decide +kernel
theorem dX1_findNextOnes_64 : decode cX1_findNextOnes 64 = .ok (.getfield 24, 3) := by decide +kernel
theorem dX1_findNextOnes_67 : decode cX1_findNextOnes 67 = .ok (.iload_n 1, 1) := by decide +kernel
theorem dX1_findNextOnes_68 : decode cX1_findNextOnes 68 = .ok (.dup2, 1) := by decide +kernel
theorem dX1_findNextOnes_69 : decode cX1_findNextOnes 69 = .ok (.iaload, 1) := by decide +kernel
theorem dX1_findNextOnes_70 : decode cX1_findNextOnes 70 = .ok (.iconst 1, 1) := by decide +kernel
theorem dX1_findNextOnes_71 : decode cX1_findNextOnes 71 = .ok (.iload_n 2, 1) := by decide +kernel
theorem dX1_findNextOnes_72 : decode cX1_findNextOnes 72 = .ok (.ishl, 1) := by decide +kernel
theorem dX1_findNextOnes_73 : decode cX1_findNextOnes 73 = .ok (.ior, 1) := by decide +kernel
theorem dX1_findNextOnes_74 : decode cX1_findNextOnes 74 = .ok (.iastore, 1) := by decide +kernel
theorem dX1_findNextOnes_75 : decode cX1_findNextOnes 75 = .ok (.iinc 2 1, 3) := by decide +kernel
theorem dX1_findNextOnes_78 : decode cX1_findNextOnes 78 = .ok (.goto (-32), 3) := by decide +kernel
theorem dX1_findNextOnes_81 : decode cX1_findNextOnes 81 = .ok (.iinc 1 1, 3) := by decide +kernel
theorem dX1_findNextOnes_84 : decode cX1_findNextOnes 84 = .ok (.goto (-55), 3) := by decide +kernel
theorem dX1_findNextOnes_87 : decode cX1_findNextOnes 87 = .ok (.return_, 1) := by decide +kernel
theorem dX1_canPrecede_0 : decode cX1_canPrecede 0 = .ok (.aload_n 0, 1) := by decide +kernel
theorem dX1_canPrecede_1 : decode cX1_canPrecede 1 = .ok (.getfield 15, 3) := by decide +kernel
theorem dX1_canPrecede_4 : decode cX1_canPrecede 4 = .ok (.iload_n 1, 1) := by decide +kernel
theorem dX1_canPrecede_5 : decode cX1_canPrecede 5 = .ok (.iaload, 1) := by decide +kernel
theorem dX1_canPrecede_6 : decode cX1_canPrecede 6 = .ok (.aload_n 0, 1) := by decide +kernel
theorem dX1_canPrecede_7 : decode cX1_canPrecede 7 = .ok (.getfield 9, 3) := by decide +kernel
theorem dX1_canPrecede_10 : decode cX1_canPrecede 10 = .ok (.iload_n 2, 1) := by decide +kernel
theorem dX1_canPrecede_11 : decode cX1_canPrecede 11 = .ok (.iaload, 1) := by decide +kernel
theorem dX1_canPrecede_12 : decode cX1_canPrecede 12 = .ok (.if_icmp .ne 33, 3) := by decide +kernel
theorem dX1_canPrecede_15 : decode cX1_canPrecede 15 = .ok (.aload_n 0, 1) := by decide +kernel
theorem dX1_canPrecede_16 : decode cX1_canPrecede 16 = .ok (.getfield 21, 3) := by decide +kernel
theorem dX1_canPrecede_19 : decode cX1_canPrecede 19 = .ok (.iload_n 1, 1) := by decide +kernel
theorem dX1_canPrecede_20 : decode cX1_canPrecede 20 = .ok (.iaload, 1) := by decide +kernel
theorem dX1_canPrecede_21 : decode cX1_canPrecede 21 = .ok (.bipush (-9), 2) := by decide +kernel
theorem dX1_canPrecede_23 : decode cX1_canPrecede 23 = .ok (.if_icmp .eq 22, 3) := by decide +kernel
theorem dX1_canPrecede_26 : decode cX1_canPrecede 26 = .ok (.aload_n 0, 1) := by decide +kernel
theorem dX1_canPrecede_27 : decode cX1_canPrecede 27 = .ok (.getfield 21, 3) := by decide +kernel
theorem dX1_canPrecede_30 : decode cX1_canPrecede 30 = .ok (.iload_n 1, 1) := by decide +kernel
theorem dX1_canPrecede_31 : decode cX1_canPrecede 31 = .ok (.iaload, 1) := by decide +kernel
theorem dX1_canPrecede_32 : decode cX1_canPrecede 32 = .ok (.aload_n 0, 1) := by decide +kernel
theorem dX1_canPrecede_33 : decode cX1_canPrecede 33 = .ok (.getfield 21, 3) := by decide +kernel
theorem dX1_canPrecede_36 : decode cX1_canPrecede 36 = .ok (.iload_n 2, 1) := by decide +kernel
theorem dX1_canPrecede_37 : decode cX1_canPrecede 37 = .ok (.iaload, 1) := by decide +kernel
theorem dX1_canPrecede_38 : decode cX1_canPrecede 38 = .ok (.if_icmp .ge 7, 3) := by decide +kernel
theorem dX1_canPrecede_41 : decode cX1_canPrecede 41 = .ok (.iconst 1, 1) := by decide +kernel
theorem dX1_canPrecede_42 : decode cX1_canPrecede 42 = .ok (.goto 4, 3) := by decide +kernel
theorem dX1_canPrecede_45 : decode cX1_canPrecede 45 = .ok (.iconst 0, 1) := by decide +kernel
theorem dX1_canPrecede_46 : decode cX1_canPrecede 46 = .ok (.ireturn, 1) := by decide +kernel
theorem dX1_findFollowers_0 : decode cX1_findFollowers 0 = .ok (.iconst 0, 1) := by decide +kernel
theorem dX1_findFollowers_1 : decode cX1_findFollowers 1 = .ok (.istore_n 1, 1) := by decide +kernel
theorem dX1_findFollowers_2 : decode cX1_findFollowers 2 = .ok (.iload_n 1, 1) := by decide +kernel
theorem dX1_findFollowers_3 : decode cX1_findFollowers 3 = .ok (.aload_n 0, 1) := by decide +kernel
theorem dX1_findFollowers_4 : decode cX1_findFollowers 4 = .ok (.getfield 31, 3) := by decide +kernel
theorem dX1_findFollowers_7 : decode cX1_findFollowers 7 = .ok (.if_icmp .ge 49, 3) := by decide +kernel
theorem dX1_findFollowers_10 : decode cX1_findFollowers 10 = .ok (.iconst 0, 1) := by decide +kernel
theorem dX1_findFollowers_11 : decode cX1_findFollowers 11 = .ok (.istore_n 2, 1) := by decide +kernel
theorem dX1_findFollowers_12 : decode cX1_findFollowers 12 = .ok (.iload_n 2, 1) := by decide +kernel
theorem dX1_findFollowers_13 : decode cX1_findFollowers 13 = .ok (.aload_n 0, 1) := by decide +kernel
theorem dX1_findFollowers_14 : decode cX1_findFollowers 14 = .ok (.getfield 31, 3) := by decide +kernel
theorem dX1_findFollowers_17 : decode cX1_findFollowers 17 = .ok (.if_icmp .ge 33, 3) := by decide +kernel
theorem dX1_findFollowers_20 : decode cX1_findFollowers 20 = .ok (.aload_n 0, 1) := by decide +kernel
theorem dX1_findFollowers_21 : decode cX1_findFollowers 21 = .ok (.iload_n 2, 1) := by decide +kernel
theorem dX1_findFollowers_22 : decode cX1_findFollowers 22 = .ok (.iload_n 1, 1) := by decide +kernel
theorem dX1_findFollowers_23 : decode cX1_findFollowers 23 = .ok (.invokevirtual 47, 3) := by decide +kernel
theorem dX1_findFollowers_26 : decode cX1_findFollowers 26 = .ok (.ifCond .eq 18, 3) := by decide +kernel
theorem dX1_findFollowers_29 : decode cX1_findFollowers 29 = .ok (.aload_n 0, 1) := by decide +kernel
theorem dX1_findFollowers_30 : decode cX1_findFollowers 30 = .ok (.getfield 24, 3) := by decide +kernel
theorem dX1_findFollowers_33 : decode cX1_findFollowers 33 = .ok (.iload_n 2, 1) := by decide +kernel
theorem dX1_findFollowers_34 : decode cX1_findFollowers 34 = .ok (.dup2, 1) := by decide +kernel
theorem dX1_findFollowers_35 : decode cX1_findFollowers 35 = .ok (.iaload, 1) := by decide +kernel
theorem dX1_findFollowers_36 : decode cX1_findFollowers 36 = .ok (.aload_n 0, 1) := by decide +kernel
theorem dX1_findFollowers_37 : decode cX1_findFollowers 37 = .ok (.getfield 24, 3) := by decide +kernel
theorem dX1_findFollowers_40 : decode cX1_findFollowers 40 = .ok (.iload_n 1, 1) := by decide +kernel
theorem dX1_findFollowers_41 : decode cX1_findFollowers 41 = .ok (.iaload, 1) := by decide +kernel
theorem dX1_findFollowers_42 : decode cX1_findFollowers 42 = .ok (.ior, 1) := by decide +kernel
theorem dX1_findFollowers_43 : decode cX1_findFollowers 43 = .ok (.iastore, 1) := by decide +kernel
theorem dX1_findFollowers_44 : decode cX1_findFollowers 44 = .ok (.iinc 2 1, 3) := by decide +kernel
theorem dX1_findFollowers_47 : decode cX1_findFollowers 47 = .ok (.goto (-35), 3) := by decide +kernel
theorem dX1_findFollowers_50 : decode cX1_findFollowers 50 = .ok (.iinc 1 1, 3) := by decide +kernel
theorem dX1_findFollowers_53 : decode cX1_findFollowers 53 = .ok (.goto (-51), 3) := by decide +kernel
theorem dX1_findFollowers_56 : decode cX1_findFollowers 56 = .ok (.return_, 1) := by decide +kernel
theorem dX1_isFollowedBy_0 : decode cX1_isFollowedBy 0 = .ok (.aload_n 0, 1) := by decide +kernel
theorem dX1_isFollowedBy_1 : decode cX1_isFollowedBy 1 = .ok (.getfield 24, 3) := by decide +kernel
theorem dX1_isFollowedBy_4 : decode cX1_isFollowedBy 4 = .ok (.iload_n 1, 1) := by decide +kernel
theorem dX1_isFollowedBy_5 : decode cX1_isFollowedBy 5 = .ok (.iaload, 1) := by decide +kernel
theorem dX1_isFollowedBy_6 : decode cX1_isFollowedBy 6 = .ok (.iload_n 2, 1) := by decide +kernel
theorem dX1_isFollowedBy_7 : decode cX1_isFollowedBy 7 = .ok (.ishr, 1) := by decide +kernel
theorem dX1_isFollowedBy_8 : decode cX1_isFollowedBy 8 = .ok (.iconst 1, 1) := by decide +kernel
theorem dX1_isFollowedBy_9 : decode cX1_isFollowedBy 9 = .ok (.iand, 1) := by decide +kernel
theorem dX1_isFollowedBy_10 : decode cX1_isFollowedBy 10 = .ok (.ifCond .eq 7, 3) := by decide +kernel
theorem dX1_isFollowedBy_13 : decode cX1_isFollowedBy 13 = .ok (.iconst 1, 1) := by decide +kernel
theorem dX1_isFollowedBy_14 : decode cX1_isFollowedBy 14 = .ok (.goto 4, 3) := by decide +kernel
theorem dX1_isFollowedBy_17 : decode cX1_isFollowedBy 17 = .ok (.iconst 0, 1) := by decide +kernel
theorem dX1_isFollowedBy_18 : decode cX1_isFollowedBy 18 = .ok (.ireturn, 1) := by decide +kernel
theorem dX2_init_0 : decode cX2_init 0 = .ok (.aload_n 0, 1) := by decide +kernel
theorem dX2_init_1 : decode cX2_init 1 = .ok (.invokespecial 3, 3) := by decide +kernel
theorem dX2_init_4 : decode cX2_init 4 = .ok (.aload_n 0, 1) := by decide +kernel
theorem dX2_init_5 : decode cX2_init 5 = .ok (.iconst 4, 1) := by decide +kernel
theorem dX2_init_6 : decode cX2_init 6 = .ok (.newarray .int, 2) := by decide +kernel
theorem dX2_init_8 : decode cX2_init 8 = .ok (.putfield 9, 3) := by decide +kernel
theorem dX2_init_11 : decode cX2_init 11 = .ok (.aload_n 0, 1) := by decide +kernel
theorem dX2_init_12 : decode cX2_init 12 = .ok (.iconst 4, 1) := by decide +kernel
theorem dX2_init_13 : decode cX2_init 13 = .ok (.newarray .int, 2) := by decide +kernel
theorem dX2_init_15 : decode cX2_init 15 = .ok (.putfield 15, 3) := by decide +kernel
theorem dX2_init_18 : decode cX2_init 18 = .ok (.aload_n 0, 1) := by decide +kernel
theorem dX2_init_19 : decode cX2_init 19 = .ok (.iconst 4, 1) := by decide +kernel
theorem dX2_init_20 : decode cX2_init 20 = .ok (.newarray .int, 2) := by decide +kernel
theorem dX2_init_22 : decode cX2_init 22 = .ok (.putfield 18, 3) := by decide +kernel
theorem dX2_init_25 : decode cX2_init 25 = .ok (.aload_n 0, 1) := by decide +kernel
theorem dX2_init_26 : decode cX2_init 26 = .ok (.iconst 4, 1) := by decide +kernel
theorem dX2_init_27 : decode cX2_init 27 = .ok (.newarray .int, 2) := by decide +kernel
theorem dX2_init_29 : decode cX2_init 29 = .ok (.putfield 21, 3) := by decide +kernel
theorem dX2_init_32 : decode cX2_init 32 = .ok (.aload_n 0, 1) := by decide +kernel
theorem dX2_init_33 : decode cX2_init 33 = .ok (.aload_n 1, 1) := by decide +kernel
theorem dX2_init_34 : decode cX2_init 34 = .ok (.putfield 24, 3) := by decide +kernel
theorem dX2_init_37 : decode cX2_init 37 = .ok (.return_, 1) := by decide +kernel
theorem dX2_add_0 : decode cX2_add 0 = .ok (.aload_n 0, 1) := by decide +kernel
theorem dX2_add_1 : decode cX2_add 1 = .ok (.getfield 28, 3) := by decide +kernel
theorem dX2_add_4 : decode cX2_add 4 = .ok (.iconst 4, 1) := by decide +kernel
theorem dX2_add_5 : decode cX2_add 5 = .ok (.if_icmp .ge 54, 3) := by decide +kernel
theorem dX2_add_8 : decode cX2_add 8 = .ok (.aload_n 0, 1) := by decide +kernel
theorem dX2_add_9 : decode cX2_add 9 = .ok (.getfield 9, 3) := by decide +kernel
theorem dX2_add_12 : decode cX2_add 12 = .ok (.aload_n 0, 1) := by decide +kernel
theorem dX2_add_13 : decode cX2_add 13 = .ok (.getfield 28, 3) := by decide +kernel
theorem dX2_add_16 : decode cX2_add 16 = .ok (.iload_n 1, 1) := by decide +kernel
theorem dX2_add_17 : decode cX2_add 17 = .ok (.iastore, 1) := by decide +kernel
theorem dX2_add_18 : decode cX2_add 18 = .ok (.aload_n 0, 1) := by decide +kernel
theorem dX2_add_19 : decode cX2_add 19 = .ok (.getfield 15, 3) := by decide +kernel
theorem dX2_add_22 : decode cX2_add 22 = .ok (.aload_n 0, 1) := by decide +kernel
theorem dX2_add_23 : decode cX2_add 23 = .ok (.getfield 28, 3) := by decide +kernel
theorem dX2_add_26 : decode cX2_add 26 = .ok (.iload_n 2, 1) := by decide +kernel
theorem dX2_add_27 : decode cX2_add 27 = .ok (.iastore, 1) := by decide +kernel
theorem dX2_add_28 : decode cX2_add 28 = .ok (.aload_n 0, 1) := by decide +kernel
theorem dX2_add_29 : decode cX2_add 29 = .ok (.getfield 18, 3) := by decide +kernel
theorem dX2_add_32 : decode cX2_add 32 = .ok (.aload_n 0, 1) := by decide +kernel
theorem dX2_add_33 : decode cX2_add 33 = .ok (.getfield 28, 3) := by decide +kernel
theorem dX2_add_36 : decode cX2_add 36 = .ok (.iload_n 3, 1) := by decide +kernel
theorem dX2_add_37 : decode cX2_add 37 = .ok (.iastore, 1) := by decide +kernel
theorem dX2_add_38 : decode cX2_add 38 = .ok (.aload_n 0, 1) := by decide +kernel
theorem dX2_add_39 : decode cX2_add 39 = .ok (.getfield 21, 3) := by decide +kernel
theorem dX2_add_42 : decode cX2_add 42 = .ok (.aload_n 0, 1) := by decide +kernel
theorem dX2_add_43 : decode cX2_add 43 = .ok (.getfield 28, 3) := by decide +kernel
theorem dX2_add_46 : decode cX2_add 46 = .ok (.iload 4, 2) := by decide +kernel
theorem dX2_add_48 : decode cX2_add 48 = .ok (.iastore, 1) := by decide +kernel
theorem dX2_add_49 : decode cX2_add 49 = .ok (.aload_n 0, 1) := by decide +kernel
theorem dX2_add_50 : decode cX2_add 50 = .ok (.dup, 1) := by decide +kernel
theorem dX2_add_51 : decode cX2_add 51 = .ok (.getfield 28, 3) := by decide +kernel
theorem dX2_add_54 : decode cX2_add 54 = .ok (.iconst 1, 1) := by decide +kernel
theorem dX2_add_55 : decode cX2_add 55 = .ok (.iadd, 1) := by decide +kernel
theorem dX2_add_56 : decode cX2_add 56 = .ok (.putfield 28, 3) := by decide +kernel
theorem dX2_add_59 : decode cX2_add 59 = .ok (.return_, 1) := by decide +kernel
theorem dX2_inOrder_0 : decode cX2_inOrder 0 = .ok (.iload_n 1, 1) := by decide +kernel
theorem dX2_inOrder_1 : decode cX2_inOrder 1 = .ok (.iconst 2, 1) := by decide +kernel
theorem dX2_inOrder_2 : decode cX2_inOrder 2 = .ok (.aload_n 0, 1) := by decide +kernel
theorem dX2_inOrder_3 : decode cX2_inOrder 3 = .ok (.getfield 28, 3) := by decide +kernel
theorem dX2_inOrder_6 : decode cX2_inOrder 6 = .ok (.iconst 1, 1) := by decide +kernel
theorem dX2_inOrder_7 : decode cX2_inOrder 7 = .ok (.isub, 1) := by decide +kernel
theorem dX2_inOrder_8 : decode cX2_inOrder 8 = .ok (.iload_n 2, 1) := by decide +kernel
theorem dX2_inOrder_9 : decode cX2_inOrder 9 = .ok (.isub, 1) := by decide +kernel
theorem dX2_inOrder_10 : decode cX2_inOrder 10 = .ok (.imul, 1) := by decide +kernel
theorem dX2_inOrder_11 : decode cX2_inOrder 11 = .ok (.ishr, 1) := by decide +kernel
theorem dX2_inOrder_12 : decode cX2_inOrder 12 = .ok (.iconst 3, 1) := by decide +kernel
theorem dX2_inOrder_13 : decode cX2_inOrder 13 = .ok (.iand, 1) := by decide +kernel
theorem dX2_inOrder_14 : decode cX2_inOrder 14 = .ok (.ireturn, 1) := by decide +kernel
theorem dX2_soonestOrder_0 : decode cX2_soonestOrder 0 = .ok (.bipush (-9), 2) := by decide +kernel
theorem dX2_soonestOrder_2 : decode cX2_soonestOrder 2 = .ok (.istore_n 2, 1) := by decide +kernel
theorem dX2_soonestOrder_3 : decode cX2_soonestOrder 3 = .ok (.bipush 96, 2) := by decide +kernel
theorem dX2_soonestOrder_5 : decode cX2_soonestOrder 5 = .ok (.istore_n 3, 1) := by decide +kernel
theorem dX2_soonestOrder_6 : decode cX2_soonestOrder 6 = .ok (.iconst 0, 1) := by decide +kernel
theorem dX2_soonestOrder_7 : decode cX2_soonestOrder 7 = .ok (.istore 4, 2) := by decide +kernel
theorem dX2_soonestOrder_9 : decode cX2_soonestOrder 9 = .ok (.iload 4, 2) := by decide +kernel
theorem dX2_soonestOrder_11 : decode cX2_soonestOrder 11 = .ok (.iconst 1, 1) := by decide +kernel
theorem dX2_soonestOrder_12 : decode cX2_soonestOrder 12 = .ok (.iconst 2, 1) := by decide +kernel
theorem dX2_soonestOrder_13 : decode cX2_soonestOrder 13 = .ok (.aload_n 0, 1) := by decide +kernel
theorem dX2_soonestOrder_14 : decode cX2_soonestOrder 14 = .ok (.getfield 28, 3) := by decide +kernel
theorem dX2_soonestOrder_17 : decode cX2_soonestOrder 17 = .ok (.imul, 1) := by decide +kernel
theorem dX2_soonestOrder_18 : decode cX2_soonestOrder 18 = .ok (.ishl, 1) := by decide +kernel
theorem dX2_soonestOrder_19 : decode cX2_soonestOrder 19 = .ok (.if_icmp .ge 51, 3) := by decide +kernel
theorem dX2_soonestOrder_22 : decode cX2_soonestOrder 22 = .ok (.aload_n 0, 1) := by decide +kernel
theorem dX2_soonestOrder_23 : decode cX2_soonestOrder 23 = .ok (.iload 4, 2) := by decide +kernel
theorem dX2_soonestOrder_25 : decode cX2_soonestOrder 25 = .ok (.invokevirtual 32, 3) := by decide +kernel
theorem dX2_soonestOrder_28 : decode cX2_soonestOrder 28 = .ok (.ifCond .eq 13, 3) := by decide +kernel
theorem dX2_soonestOrder_31 : decode cX2_soonestOrder 31 = .ok (.aload_n 0, 1) := by decide +kernel
theorem dX2_soonestOrder_32 : decode cX2_soonestOrder 32 = .ok (.iload 4, 2) := by decide +kernel
theorem dX2_soonestOrder_34 : decode cX2_soonestOrder 34 = .ok (.iload_n 1, 1) := by decide +kernel
theorem dX2_soonestOrder_35 : decode cX2_soonestOrder 35 = .ok (.invokevirtual 36, 3) := by decide +kernel
theorem dX2_soonestOrder_38 : decode cX2_soonestOrder 38 = .ok (.goto 5, 3) := by decide +kernel
theorem dX2_soonestOrder_41 : decode cX2_soonestOrder 41 = .ok (.bipush (-9), 2) := by decide +kernel
theorem dX2_soonestOrder_43 : decode cX2_soonestOrder 43 = .ok (.istore 5, 2) := by decide +kernel
theorem dX2_soonestOrder_45 : decode cX2_soonestOrder 45 = .ok (.iload 5, 2) := by decide +kernel
theorem dX2_soonestOrder_47 : decode cX2_soonestOrder 47 = .ok (.bipush (-9), 2) := by decide +kernel
theorem dX2_soonestOrder_49 : decode cX2_soonestOrder 49 = .ok (.if_icmp .eq 15, 3) := by decide +kernel
theorem dX2_soonestOrder_52 : decode cX2_soonestOrder 52 = .ok (.iload 5, 2) := by decide +kernel
theorem dX2_soonestOrder_54 : decode cX2_soonestOrder 54 = .ok (.iload_n 3, 1) := by decide +kernel
theorem dX2_soonestOrder_55 : decode cX2_soonestOrder 55 = .ok (.if_icmp .ge 9, 3) := by decide +kernel
theorem dX2_soonestOrder_58 : decode cX2_soonestOrder 58 = .ok (.iload 5, 2) := by decide +kernel
theorem dX2_soonestOrder_60 : decode cX2_soonestOrder 60 = .ok (.istore_n 3, 1) := by decide +kernel
theorem dX2_soonestOrder_61 : decode cX2_soonestOrder 61 = .ok (.iload 4, 2) := by decide +kernel
theorem dX2_soonestOrder_63 : decode cX2_soonestOrder 63 = .ok (.istore_n 2, 1) := by decide +kernel
theorem dX2_soonestOrder_64 : decode cX2_soonestOrder 64 = .ok (.iinc 4 1, 3) := by decide +kernel
theorem dX2_soonestOrder_67 : decode cX2_soonestOrder 67 = .ok (.goto (-58), 3) := by decide +kernel
theorem dX2_soonestOrder_70 : decode cX2_soonestOrder 70 = .ok (.iload_n 2, 1) := by decide +kernel
theorem dX2_soonestOrder_71 : decode cX2_soonestOrder 71 = .ok (.ireturn, 1) := by decide +kernel
theorem dX2_isOrder_0 : decode cX2_isOrder 0 = .ok (.iconst 0, 1) := by decide +kernel
theorem dX2_isOrder_1 : decode cX2_isOrder 1 = .ok (.istore_n 2, 1) := by decide +kernel
theorem dX2_isOrder_2 : decode cX2_isOrder 2 = .ok (.iconst 0, 1) := by decide +kernel
theorem dX2_isOrder_3 : decode cX2_isOrder 3 = .ok (.istore_n 3, 1) := by decide +kernel
theorem dX2_isOrder_4 : decode cX2_isOrder 4 = .ok (.iload_n 3, 1) := by decide +kernel
theorem dX2_isOrder_5 : decode cX2_isOrder 5 = .ok (.aload_n 0, 1) := by decide +kernel
theorem dX2_isOrder_6 : decode cX2_isOrder 6 = .ok (.getfield 28, 3) := by decide +kernel
theorem dX2_isOrder_9 : decode cX2_isOrder 9 = .ok (.if_icmp .ge 20, 3) := by decide +kernel
theorem dX2_isOrder_12 : decode cX2_isOrder 12 = .ok (.iload_n 2, 1) := by decide +kernel
theorem dX2_isOrder_13 : decode cX2_isOrder 13 = .ok (.iconst 1, 1) := by decide +kernel
theorem dX2_isOrder_14 : decode cX2_isOrder 14 = .ok (.aload_n 0, 1) := by decide +kernel
theorem dX2_isOrder_15 : decode cX2_isOrder 15 = .ok (.iload_n 1, 1) := by decide +kernel
theorem dX2_isOrder_16 : decode cX2_isOrder 16 = .ok (.iload_n 3, 1) := by decide +kernel
theorem dX2_isOrder_17 : decode cX2_isOrder 17 = .ok (.invokevirtual 40, 3) := by decide +kernel
theorem dX2_isOrder_20 : decode cX2_isOrder 20 = .ok (.ishl, 1) := by decide +kernel
theorem dX2_isOrder_21 : decode cX2_isOrder 21 = .ok (.ior, 1) := by decide +kernel
theorem dX2_isOrder_22 : decode cX2_isOrder 22 = .ok (.istore_n 2, 1) := by decide +kernel
theorem dX2_isOrder_23 : decode cX2_isOrder 23 = .ok (.iinc 3 1, 3) := by decide +kernel
theorem dX2_isOrder_26 : decode cX2_isOrder 26 = .ok (.goto (-22), 3) := by decide +kernel
theorem dX2_isOrder_29 : decode cX2_isOrder 29 = .ok (.iload_n 2, 1) := by decide +kernel
theorem dX2_isOrder_30 : decode cX2_isOrder 30 = .ok (.iconst 1, 1) := by decide +kernel
theorem dX2_isOrder_31 : decode cX2_isOrder 31 = .ok (.aload_n 0, 1) := by decide +kernel
theorem dX2_isOrder_32 : decode cX2_isOrder 32 = .ok (.getfield 28, 3) := by decide +kernel
theorem dX2_isOrder_35 : decode cX2_isOrder 35 = .ok (.ishl, 1) := by decide +kernel
theorem dX2_isOrder_36 : decode cX2_isOrder 36 = .ok (.iconst 1, 1) := by decide +kernel
theorem dX2_isOrder_37 : decode cX2_isOrder 37 = .ok (.isub, 1) := by decide +kernel
theorem dX2_isOrder_38 : decode cX2_isOrder 38 = .ok (.if_icmp .ne 7, 3) := by decide +kernel
theorem dX2_isOrder_41 : decode cX2_isOrder 41 = .ok (.iconst 1, 1) := by decide +kernel
theorem dX2_isOrder_42 : decode cX2_isOrder 42 = .ok (.goto 4, 3) := by decide +kernel
theorem dX2_isOrder_45 : decode cX2_isOrder 45 = .ok (.iconst 0, 1) := by decide +kernel
theorem dX2_isOrder_46 : decode cX2_isOrder 46 = .ok (.ireturn, 1) := by decide +kernel
theorem dX2_endOf_0 : decode cX2_endOf 0 = .ok (.iload_n 2, 1) := by decide +kernel
theorem dX2_endOf_1 : decode cX2_endOf 1 = .ok (.istore_n 3, 1) := by decide +kernel
theorem dX2_endOf_2 : decode cX2_endOf 2 = .ok (.aload_n 0, 1) := by decide +kernel
theorem dX2_endOf_3 : decode cX2_endOf 3 = .ok (.getfield 24, 3) := by decide +kernel
theorem dX2_endOf_6 : decode cX2_endOf 6 = .ok (.getfield 43, 3) := by decide +kernel
theorem dX2_endOf_9 : decode cX2_endOf 9 = .ok (.getfield 49, 3) := by decide +kernel
theorem dX2_endOf_12 : decode cX2_endOf 12 = .ok (.istore 4, 2) := by decide +kernel
theorem dX2_endOf_14 : decode cX2_endOf 14 = .ok (.iconst 0, 1) := by decide +kernel
theorem dX2_endOf_15 : decode cX2_endOf 15 = .ok (.istore 5, 2) := by decide +kernel
theorem dX2_endOf_17 : decode cX2_endOf 17 = .ok (.iload 5, 2) := by decide +kernel
theorem dX2_endOf_19 : decode cX2_endOf 19 = .ok (.aload_n 0, 1) := by decide +kernel
theorem dX2_endOf_20 : decode cX2_endOf 20 = .ok (.getfield 28, 3) := by decide +kernel
theorem dX2_endOf_23 : decode cX2_endOf 23 = .ok (.if_icmp .ge 99, 3) := by decide +kernel
theorem dX2_endOf_26 : decode cX2_endOf 26 = .ok (.aload_n 0, 1) := by decide +kernel
theorem dX2_endOf_27 : decode cX2_endOf 27 = .ok (.iload_n 1, 1) := by decide +kernel
theorem dX2_endOf_28 : decode cX2_endOf 28 = .ok (.iload 5, 2) := by decide +kernel
theorem dX2_endOf_30 : decode cX2_endOf 30 = .ok (.invokevirtual 40, 3) := by decide +kernel
theorem dX2_endOf_33 : decode cX2_endOf 33 = .ok (.istore 6, 2) := by decide +kernel
theorem dX2_endOf_35 : decode cX2_endOf 35 = .ok (.aload_n 0, 1) := by decide +kernel
theorem dX2_endOf_36 : decode cX2_endOf 36 = .ok (.getfield 9, 3) := by decide +kernel
theorem dX2_endOf_39 : decode cX2_endOf 39 = .ok (.iload 6, 2) := by decide +kernel
theorem dX2_endOf_41 : decode cX2_endOf 41 = .ok (.iaload, 1) := by decide +kernel
theorem dX2_endOf_42 : decode cX2_endOf 42 = .ok (.iload_n 3, 1) := by decide +kernel
theorem dX2_endOf_43 : decode cX2_endOf 43 = .ok (.if_icmp .eq 18, 3) := by decide +kernel
theorem dX2_endOf_46 : decode cX2_endOf 46 = .ok (.iload 4, 2) := by decide +kernel
theorem dX2_endOf_48 : decode cX2_endOf 48 = .ok (.aload_n 0, 1) := by decide +kernel
theorem dX2_endOf_49 : decode cX2_endOf 49 = .ok (.getfield 24, 3) := by decide +kernel
theorem dX2_endOf_52 : decode cX2_endOf 52 = .ok (.getfield 54, 3) := by decide +kernel
theorem dX2_endOf_55 : decode cX2_endOf 55 = .ok (.getfield 58, 3) := by decide +kernel
theorem dX2_endOf_58 : decode cX2_endOf 58 = .ok (.iadd, 1) := by decide +kernel
theorem dX2_endOf_59 : decode cX2_endOf 59 = .ok (.istore 4, 2) := by decide +kernel
theorem dX2_endOf_61 : decode cX2_endOf 61 = .ok (.aload_n 0, 1) := by decide +kernel
theorem dX2_endOf_62 : decode cX2_endOf 62 = .ok (.getfield 9, 3) := by decide +kernel
theorem dX2_endOf_65 : decode cX2_endOf 65 = .ok (.iload 6, 2) := by decide +kernel
theorem dX2_endOf_67 : decode cX2_endOf 67 = .ok (.iaload, 1) := by decide +kernel
theorem dX2_endOf_68 : decode cX2_endOf 68 = .ok (.istore_n 3, 1) := by decide +kernel
theorem dX2_endOf_69 : decode cX2_endOf 69 = .ok (.aload_n 0, 1) := by decide +kernel
theorem dX2_endOf_70 : decode cX2_endOf 70 = .ok (.iload 6, 2) := by decide +kernel
theorem dX2_endOf_72 : decode cX2_endOf 72 = .ok (.iload 4, 2) := by decide +kernel
theorem dX2_endOf_74 : decode cX2_endOf 74 = .ok (.invokevirtual 63, 3) := by decide +kernel
theorem dX2_endOf_77 : decode cX2_endOf 77 = .ok (.istore 7, 2) := by decide +kernel
theorem dX2_endOf_79 : decode cX2_endOf 79 = .ok (.iload 7, 2) := by decide +kernel
theorem dX2_endOf_81 : decode cX2_endOf 81 = .ok (.bipush (-9), 2) := by decide +kernel
theorem dX2_endOf_83 : decode cX2_endOf 83 = .ok (.if_icmp .eq 18, 3) := by decide +kernel
theorem dX2_endOf_86 : decode cX2_endOf 86 = .ok (.iload 7, 2) := by decide +kernel
theorem dX2_endOf_88 : decode cX2_endOf 88 = .ok (.aload_n 0, 1) := by decide +kernel
theorem dX2_endOf_89 : decode cX2_endOf 89 = .ok (.getfield 21, 3) := by decide +kernel
theorem dX2_endOf_92 : decode cX2_endOf 92 = .ok (.iload 6, 2) := by decide +kernel
theorem dX2_endOf_94 : decode cX2_endOf 94 = .ok (.iaload, 1) := by decide +kernel
theorem dX2_endOf_95 : decode cX2_endOf 95 = .ok (.iadd, 1) := by decide +kernel
theorem dX2_endOf_96 : decode cX2_endOf 96 = .ok (.bipush 95, 2) := by decide +kernel
theorem dX2_endOf_98 : decode cX2_endOf 98 = .ok (.if_icmp .le 6, 3) := by decide +kernel
theorem dX2_endOf_101 : decode cX2_endOf 101 = .ok (.bipush (-9), 2) := by decide +kernel
theorem dX2_endOf_103 : decode cX2_endOf 103 = .ok (.ireturn, 1) := by decide +kernel
theorem dX2_endOf_104 : decode cX2_endOf 104 = .ok (.iload 7, 2) := by decide +kernel
theorem dX2_endOf_106 : decode cX2_endOf 106 = .ok (.aload_n 0, 1) := by decide +kernel
theorem dX2_endOf_107 : decode cX2_endOf 107 = .ok (.getfield 21, 3) := by decide +kernel
theorem dX2_endOf_110 : decode cX2_endOf 110 = .ok (.iload 6, 2) := by decide +kernel
theorem dX2_endOf_112 : decode cX2_endOf 112 = .ok (.iaload, 1) := by decide +kernel
theorem dX2_endOf_113 : decode cX2_endOf 113 = .ok (.iadd, 1) := by decide +kernel
theorem dX2_endOf_114 : decode cX2_endOf 114 = .ok (.istore 4, 2) := by decide +kernel
theorem dX2_endOf_116 : decode cX2_endOf 116 = .ok (.iinc 5 1, 3) := by decide +kernel
theorem dX2_endOf_119 : decode cX2_endOf 119 = .ok (.goto (-102), 3) := by decide +kernel
theorem dX2_endOf_122 : decode cX2_endOf 122 = .ok (.iload 4, 2) := by decide +kernel
theorem dX2_endOf_124 : decode cX2_endOf 124 = .ok (.ireturn, 1) := by decide +kernel
theorem dX2_beginOf_0 : decode cX2_beginOf 0 = .ok (.iload_n 2, 1) := by decide +kernel
theorem dX2_beginOf_1 : decode cX2_beginOf 1 = .ok (.istore_n 3, 1) := by decide +kernel
theorem dX2_beginOf_2 : decode cX2_beginOf 2 = .ok (.iload_n 3, 1) := by decide +kernel
theorem dX2_beginOf_3 : decode cX2_beginOf 3 = .ok (.bipush 96, 2) := by decide +kernel
theorem dX2_beginOf_5 : decode cX2_beginOf 5 = .ok (.if_icmp .ge 43, 3) := by decide +kernel
theorem dX2_beginOf_8 : decode cX2_beginOf 8 = .ok (.aload_n 0, 1) := by decide +kernel
theorem dX2_beginOf_9 : decode cX2_beginOf 9 = .ok (.getfield 24, 3) := by decide +kernel
theorem dX2_beginOf_12 : decode cX2_beginOf 12 = .ok (.aload_n 0, 1) := by decide +kernel
theorem dX2_beginOf_13 : decode cX2_beginOf 13 = .ok (.getfield 9, 3) := by decide +kernel
theorem dX2_beginOf_16 : decode cX2_beginOf 16 = .ok (.iload_n 1, 1) := by decide +kernel
theorem dX2_beginOf_17 : decode cX2_beginOf 17 = .ok (.iaload, 1) := by decide +kernel
theorem dX2_beginOf_18 : decode cX2_beginOf 18 = .ok (.iload_n 3, 1) := by decide +kernel
theorem dX2_beginOf_19 : decode cX2_beginOf 19 = .ok (.invokevirtual 66, 3) := by decide +kernel
theorem dX2_beginOf_22 : decode cX2_beginOf 22 = .ok (.aload_n 0, 1) := by decide +kernel
theorem dX2_beginOf_23 : decode cX2_beginOf 23 = .ok (.getfield 15, 3) := by decide +kernel
theorem dX2_beginOf_26 : decode cX2_beginOf 26 = .ok (.iload_n 1, 1) := by decide +kernel
theorem dX2_beginOf_27 : decode cX2_beginOf 27 = .ok (.iaload, 1) := by decide +kernel
theorem dX2_beginOf_28 : decode cX2_beginOf 28 = .ok (.aload_n 0, 1) := by decide +kernel
theorem dX2_beginOf_29 : decode cX2_beginOf 29 = .ok (.getfield 18, 3) := by decide +kernel
theorem dX2_beginOf_32 : decode cX2_beginOf 32 = .ok (.iload_n 1, 1) := by decide +kernel
theorem dX2_beginOf_33 : decode cX2_beginOf 33 = .ok (.iaload, 1) := by decide +kernel
theorem dX2_beginOf_34 : decode cX2_beginOf 34 = .ok (.invokestatic 69, 3) := by decide +kernel
theorem dX2_beginOf_37 : decode cX2_beginOf 37 = .ok (.ifCond .eq 5, 3) := by decide +kernel
theorem dX2_beginOf_40 : decode cX2_beginOf 40 = .ok (.iload_n 3, 1) := by decide +kernel
theorem dX2_beginOf_41 : decode cX2_beginOf 41 = .ok (.ireturn, 1) := by decide +kernel
theorem dX2_beginOf_42 : decode cX2_beginOf 42 = .ok (.iinc 3 1, 3) := by decide +kernel
theorem dX2_beginOf_45 : decode cX2_beginOf 45 = .ok (.goto (-43), 3) := by decide +kernel
theorem dX2_beginOf_48 : decode cX2_beginOf 48 = .ok (.bipush (-9), 2) := by decide +kernel
theorem dX2_beginOf_50 : decode cX2_beginOf 50 = .ok (.ireturn, 1) := by decide +kernel
theorem dX2_isBetween_0 : decode cX2_isBetween 0 = .ok (.iload_n 0, 1) := by decide +kernel
theorem dX2_isBetween_1 : decode cX2_isBetween 1 = .ok (.iload_n 1, 1) := by decide +kernel
theorem dX2_isBetween_2 : decode cX2_isBetween 2 = .ok (.isub, 1) := by decide +kernel
theorem dX2_isBetween_3 : decode cX2_isBetween 3 = .ok (.bipush 48, 2) := by decide +kernel
theorem dX2_isBetween_5 : decode cX2_isBetween 5 = .ok (.invokestatic 73, 3) := by decide +kernel
theorem dX2_isBetween_8 : decode cX2_isBetween 8 = .ok (.iload_n 2, 1) := by decide +kernel
theorem dX2_isBetween_9 : decode cX2_isBetween 9 = .ok (.iload_n 1, 1) := by decide +kernel
theorem dX2_isBetween_10 : decode cX2_isBetween 10 = .ok (.isub, 1) := by decide +kernel
theorem dX2_isBetween_11 : decode cX2_isBetween 11 = .ok (.bipush 48, 2) := by decide +kernel
theorem dX2_isBetween_13 : decode cX2_isBetween 13 = .ok (.invokestatic 73, 3) := by decide +kernel
theorem dX2_isBetween_16 : decode cX2_isBetween 16 = .ok (.if_icmp .gt 7, 3) := by decide +kernel
theorem dX2_isBetween_19 : decode cX2_isBetween 19 = .ok (.iconst 1, 1) := by decide +kernel
theorem dX2_isBetween_20 : decode cX2_isBetween 20 = .ok (.goto 4, 3) := by decide +kernel
theorem dX2_isBetween_23 : decode cX2_isBetween 23 = .ok (.iconst 0, 1) := by decide +kernel
theorem dX2_isBetween_24 : decode cX2_isBetween 24 = .ok (.ireturn, 1) := by decide +kernel
theorem dX3_init_0 : decode cX3_init 0 = .ok (.aload_n 0, 1) := by decide +kernel
theorem dX3_init_1 : decode cX3_init 1 = .ok (.invokespecial 3, 3) := by decide +kernel
theorem dX3_init_4 : decode cX3_init 4 = .ok (.aload_n 0, 1) := by decide +kernel
theorem dX3_init_5 : decode cX3_init 5 = .ok (.bipush 96, 2) := by decide +kernel
theorem dX3_init_7 : decode cX3_init 7 = .ok (.newarray .int, 2) := by decide +kernel
theorem dX3_init_9 : decode cX3_init 9 = .ok (.putfield 9, 3) := by decide +kernel
theorem dX3_init_12 : decode cX3_init 12 = .ok (.aload_n 0, 1) := by decide +kernel
theorem dX3_init_13 : decode cX3_init 13 = .ok (.iconst 1, 1) := by decide +kernel
theorem dX3_init_14 : decode cX3_init 14 = .ok (.putfield 15, 3) := by decide +kernel
theorem dX3_init_17 : decode cX3_init 17 = .ok (.aload_n 0, 1) := by decide +kernel
theorem dX3_init_18 : decode cX3_init 18 = .ok (.iconst 1, 1) := by decide +kernel
theorem dX3_init_19 : decode cX3_init 19 = .ok (.putfield 19, 3) := by decide +kernel
theorem dX3_init_22 : decode cX3_init 22 = .ok (.return_, 1) := by decide +kernel
theorem dX3_build_0 : decode cX3_build 0 = .ok (.aload_n 0, 1) := by decide +kernel
theorem dX3_build_1 : decode cX3_build 1 = .ok (.iload_n 1, 1) := by decide +kernel
theorem dX3_build_2 : decode cX3_build 2 = .ok (.putfield 22, 3) := by decide +kernel
theorem dX3_build_5 : decode cX3_build 5 = .ok (.aload_n 0, 1) := by decide +kernel
theorem dX3_build_6 : decode cX3_build 6 = .ok (.iload_n 2, 1) := by decide +kernel
theorem dX3_build_7 : decode cX3_build 7 = .ok (.putfield 15, 3) := by decide +kernel
theorem dX3_build_10 : decode cX3_build 10 = .ok (.aload_n 0, 1) := by decide +kernel
theorem dX3_build_11 : decode cX3_build 11 = .ok (.iload_n 3, 1) := by decide +kernel
theorem dX3_build_12 : decode cX3_build 12 = .ok (.putfield 19, 3) := by decide +kernel
theorem dX3_build_15 : decode cX3_build 15 = .ok (.aload_n 0, 1) := by decide +kernel
theorem dX3_build_16 : decode cX3_build 16 = .ok (.iconst 0, 1) := by decide +kernel
theorem dX3_build_17 : decode cX3_build 17 = .ok (.putfield 25, 3) := by decide +kernel
theorem dX3_build_20 : decode cX3_build 20 = .ok (.iconst 0, 1) := by decide +kernel
theorem dX3_build_21 : decode cX3_build 21 = .ok (.istore 4, 2) := by decide +kernel
theorem dX3_build_23 : decode cX3_build 23 = .ok (.iload 4, 2) := by decide +kernel
theorem dX3_build_25 : decode cX3_build 25 = .ok (.bipush 96, 2) := by decide +kernel
theorem dX3_build_27 : decode cX3_build 27 = .ok (.if_icmp .ge 30, 3) := by decide +kernel
theorem dX3_build_30 : decode cX3_build 30 = .ok (.aload_n 0, 1) := by decide +kernel
theorem dX3_build_31 : decode cX3_build 31 = .ok (.getfield 9, 3) := by decide +kernel
theorem dX3_build_34 : decode cX3_build 34 = .ok (.iload 4, 2) := by decide +kernel
theorem dX3_build_36 : decode cX3_build 36 = .ok (.aload_n 0, 1) := by decide +kernel
theorem dX3_build_37 : decode cX3_build 37 = .ok (.getfield 22, 3) := by decide +kernel
theorem dX3_build_40 : decode cX3_build 40 = .ok (.aload_n 0, 1) := by decide +kernel
theorem dX3_build_41 : decode cX3_build 41 = .ok (.iload 4, 2) := by decide +kernel
theorem dX3_build_43 : decode cX3_build 43 = .ok (.invokevirtual 28, 3) := by decide +kernel
theorem dX3_build_46 : decode cX3_build 46 = .ok (.iadd, 1) := by decide +kernel
theorem dX3_build_47 : decode cX3_build 47 = .ok (.bipush 48, 2) := by decide +kernel
theorem dX3_build_49 : decode cX3_build 49 = .ok (.irem, 1) := by decide +kernel
theorem dX3_build_50 : decode cX3_build 50 = .ok (.iastore, 1) := by decide +kernel
theorem dX3_build_51 : decode cX3_build 51 = .ok (.iinc 4 1, 3) := by decide +kernel
theorem dX3_build_54 : decode cX3_build 54 = .ok (.goto (-31), 3) := by decide +kernel
theorem dX3_build_57 : decode cX3_build 57 = .ok (.return_, 1) := by decide +kernel
theorem dX3_addLeap_0 : decode cX3_addLeap 0 = .ok (.aload_n 0, 1) := by decide +kernel
theorem dX3_addLeap_1 : decode cX3_addLeap 1 = .ok (.dup, 1) := by decide +kernel
theorem dX3_addLeap_2 : decode cX3_addLeap 2 = .ok (.getfield 25, 3) := by decide +kernel
theorem dX3_addLeap_5 : decode cX3_addLeap 5 = .ok (.iconst 1, 1) := by decide +kernel
theorem dX3_addLeap_6 : decode cX3_addLeap 6 = .ok (.iadd, 1) := by decide +kernel
theorem dX3_addLeap_7 : decode cX3_addLeap 7 = .ok (.putfield 25, 3) := by decide +kernel
theorem dX3_addLeap_10 : decode cX3_addLeap 10 = .ok (.iload_n 1, 1) := by decide +kernel
theorem dX3_addLeap_11 : decode cX3_addLeap 11 = .ok (.iconst 0, 1) := by decide +kernel
theorem dX3_addLeap_12 : decode cX3_addLeap 12 = .ok (.invokestatic 32, 3) := by decide +kernel
theorem dX3_addLeap_15 : decode cX3_addLeap 15 = .ok (.istore_n 3, 1) := by decide +kernel
theorem dX3_addLeap_16 : decode cX3_addLeap 16 = .ok (.iload_n 3, 1) := by decide +kernel
theorem dX3_addLeap_17 : decode cX3_addLeap 17 = .ok (.bipush 96, 2) := by decide +kernel
theorem dX3_addLeap_19 : decode cX3_addLeap 19 = .ok (.if_icmp .ge 26, 3) := by decide +kernel
theorem dX3_addLeap_22 : decode cX3_addLeap 22 = .ok (.aload_n 0, 1) := by decide +kernel
theorem dX3_addLeap_23 : decode cX3_addLeap 23 = .ok (.getfield 9, 3) := by decide +kernel
theorem dX3_addLeap_26 : decode cX3_addLeap 26 = .ok (.iload_n 3, 1) := by decide +kernel
theorem dX3_addLeap_27 : decode cX3_addLeap 27 = .ok (.aload_n 0, 1) := by decide +kernel
theorem dX3_addLeap_28 : decode cX3_addLeap 28 = .ok (.getfield 9, 3) := by decide +kernel
theorem dX3_addLeap_31 : decode cX3_addLeap 31 = .ok (.iload_n 3, 1) := by decide +kernel
theorem dX3_addLeap_32 : decode cX3_addLeap 32 = .ok (.iaload, 1) := by decide +kernel
theorem dX3_addLeap_33 : decode cX3_addLeap 33 = .ok (.iload_n 2, 1) := by decide +kernel
theorem dX3_addLeap_34 : decode cX3_addLeap 34 = .ok (.iadd, 1) := by decide +kernel
theorem dX3_addLeap_35 : decode cX3_addLeap 35 = .ok (.bipush 48, 2) := by decide +kernel
theorem dX3_addLeap_37 : decode cX3_addLeap 37 = .ok (.irem, 1) := by decide +kernel
theorem dX3_addLeap_38 : decode cX3_addLeap 38 = .ok (.iastore, 1) := by decide +kernel
theorem dX3_addLeap_39 : decode cX3_addLeap 39 = .ok (.iinc 3 1, 3) := by decide +kernel
theorem dX3_addLeap_42 : decode cX3_addLeap 42 = .ok (.goto (-26), 3) := by decide +kernel
theorem dX3_addLeap_45 : decode cX3_addLeap 45 = .ok (.return_, 1) := by decide +kernel
theorem dX3_agedBetween_0 : decode cX3_agedBetween 0 = .ok (.aload_n 0, 1) := by decide +kernel
theorem dX3_agedBetween_1 : decode cX3_agedBetween 1 = .ok (.iload_n 2, 1) := by decide +kernel
theorem dX3_agedBetween_2 : decode cX3_agedBetween 2 = .ok (.invokevirtual 28, 3) := by decide +kernel
theorem dX3_agedBetween_5 : decode cX3_agedBetween 5 = .ok (.aload_n 0, 1) := by decide +kernel
theorem dX3_agedBetween_6 : decode cX3_agedBetween 6 = .ok (.iload_n 1, 1) := by decide +kernel
theorem dX3_agedBetween_7 : decode cX3_agedBetween 7 = .ok (.invokevirtual 28, 3) := by decide +kernel
theorem dX3_agedBetween_10 : decode cX3_agedBetween 10 = .ok (.isub, 1) := by decide +kernel
theorem dX3_agedBetween_11 : decode cX3_agedBetween 11 = .ok (.ireturn, 1) := by decide +kernel
theorem dX3_ranTill_0 : decode cX3_ranTill 0 = .ok (.aload_n 0, 1) := by decide +kernel
theorem dX3_ranTill_1 : decode cX3_ranTill 1 = .ok (.getfield 19, 3) := by decide +kernel
theorem dX3_ranTill_4 : decode cX3_ranTill 4 = .ok (.ifCond .ne 7, 3) := by decide +kernel
theorem dX3_ranTill_7 : decode cX3_ranTill 7 = .ok (.iconst 0, 1) := by decide +kernel
theorem dX3_ranTill_8 : decode cX3_ranTill 8 = .ok (.goto 14, 3) := by decide +kernel
theorem dX3_ranTill_11 : decode cX3_ranTill 11 = .ok (.iload_n 1, 1) := by decide +kernel
theorem dX3_ranTill_12 : decode cX3_ranTill 12 = .ok (.aload_n 0, 1) := by decide +kernel
theorem dX3_ranTill_13 : decode cX3_ranTill 13 = .ok (.getfield 15, 3) := by decide +kernel
theorem dX3_ranTill_16 : decode cX3_ranTill 16 = .ok (.imul, 1) := by decide +kernel
theorem dX3_ranTill_17 : decode cX3_ranTill 17 = .ok (.aload_n 0, 1) := by decide +kernel
theorem dX3_ranTill_18 : decode cX3_ranTill 18 = .ok (.getfield 19, 3) := by decide +kernel
theorem dX3_ranTill_21 : decode cX3_ranTill 21 = .ok (.idiv, 1) := by decide +kernel
theorem dX3_ranTill_22 : decode cX3_ranTill 22 = .ok (.ireturn, 1) := by decide +kernel
theorem dX4_init_0 : decode cX4_init 0 = .ok (.aload_n 0, 1) := by decide +kernel
theorem dX4_init_1 : decode cX4_init 1 = .ok (.invokespecial 3, 3) := by decide +kernel
theorem dX4_init_4 : decode cX4_init 4 = .ok (.aload_n 0, 1) := by decide +kernel
theorem dX4_init_5 : decode cX4_init 5 = .ok (.bipush 6, 2) := by decide +kernel
theorem dX4_init_7 : decode cX4_init 7 = .ok (.newarray .int, 2) := by decide +kernel
theorem dX4_init_9 : decode cX4_init 9 = .ok (.putfield 9, 3) := by decide +kernel
theorem dX4_init_12 : decode cX4_init 12 = .ok (.aload_n 0, 1) := by decide +kernel
theorem dX4_init_13 : decode cX4_init 13 = .ok (.bipush 10, 2) := by decide +kernel
theorem dX4_init_15 : decode cX4_init 15 = .ok (.newarray .int, 2) := by decide +kernel
theorem dX4_init_17 : decode cX4_init 17 = .ok (.putfield 15, 3) := by decide +kernel
theorem dX4_init_20 : decode cX4_init 20 = .ok (.aload_n 0, 1) := by decide +kernel
theorem dX4_init_21 : decode cX4_init 21 = .ok (.bipush 10, 2) := by decide +kernel
theorem dX4_init_23 : decode cX4_init 23 = .ok (.newarray .int, 2) := by decide +kernel
theorem dX4_init_25 : decode cX4_init 25 = .ok (.putfield 18, 3) := by decide +kernel
theorem dX4_init_28 : decode cX4_init 28 = .ok (.return_, 1) := by decide +kernel
theorem dX4_reset_0 : decode cX4_reset 0 = .ok (.aload_n 0, 1) := by decide +kernel
theorem dX4_reset_1 : decode cX4_reset 1 = .ok (.getfield 9, 3) := by decide +kernel
theorem dX4_reset_4 : decode cX4_reset 4 = .ok (.iconst 0, 1) := by decide +kernel
theorem dX4_reset_5 : decode cX4_reset 5 = .ok (.invokestatic 21, 3) := by decide +kernel
theorem dX4_reset_8 : decode cX4_reset 8 = .ok (.aload_n 0, 1) := by decide +kernel
theorem dX4_reset_9 : decode cX4_reset 9 = .ok (.iconst 0, 1) := by decide +kernel
theorem dX4_reset_10 : decode cX4_reset 10 = .ok (.putfield 27, 3) := by decide +kernel
theorem dX4_reset_13 : decode cX4_reset 13 = .ok (.aload_n 0, 1) := by decide +kernel
theorem dX4_reset_14 : decode cX4_reset 14 = .ok (.iconst 0, 1) := by decide +kernel
theorem dX4_reset_15 : decode cX4_reset 15 = .ok (.putfield 31, 3) := by decide +kernel
theorem dX4_reset_18 : decode cX4_reset 18 = .ok (.return_, 1) := by decide +kernel
theorem dX4_copyFrom_0 : decode cX4_copyFrom 0 = .ok (.aload_n 1, 1) := by decide +kernel
theorem dX4_copyFrom_1 : decode cX4_copyFrom 1 = .ok (.getfield 9, 3) := by decide +kernel
theorem dX4_copyFrom_4 : decode cX4_copyFrom 4 = .ok (.iconst 0, 1) := by decide +kernel
theorem dX4_copyFrom_5 : decode cX4_copyFrom 5 = .ok (.aload_n 0, 1) := by decide +kernel
theorem dX4_copyFrom_6 : decode cX4_copyFrom 6 = .ok (.getfield 9, 3) := by decide +kernel
theorem dX4_copyFrom_9 : decode cX4_copyFrom 9 = .ok (.iconst 0, 1) := by decide +kernel
theorem dX4_copyFrom_10 : decode cX4_copyFrom 10 = .ok (.bipush 6, 2) := by decide +kernel
theorem dX4_copyFrom_12 : decode cX4_copyFrom 12 = .ok (.invokestatic 34, 3) := by decide +kernel
theorem dX4_copyFrom_15 : decode cX4_copyFrom 15 = .ok (.aload_n 1, 1) := by decide +kernel
theorem dX4_copyFrom_16 : decode cX4_copyFrom 16 = .ok (.getfield 15, 3) := by decide +kernel
theorem dX4_copyFrom_19 : decode cX4_copyFrom 19 = .ok (.iconst 0, 1) := by decide +kernel
theorem dX4_copyFrom_20 : decode cX4_copyFrom 20 = .ok (.aload_n 0, 1) := by decide +kernel
theorem dX4_copyFrom_21 : decode cX4_copyFrom 21 = .ok (.getfield 15, 3) := by decide +kernel
theorem dX4_copyFrom_24 : decode cX4_copyFrom 24 = .ok (.iconst 0, 1) := by decide +kernel
theorem dX4_copyFrom_25 : decode cX4_copyFrom 25 = .ok (.bipush 10, 2) := by decide +kernel
theorem dX4_copyFrom_27 : decode cX4_copyFrom 27 = .ok (.invokestatic 34, 3) := by decide +kernel
theorem dX4_copyFrom_30 : decode cX4_copyFrom 30 = .ok (.aload_n 1, 1) := by decide +kernel
theorem dX4_copyFrom_31 : decode cX4_copyFrom 31 = .ok (.getfield 18, 3) := by decide +kernel
theorem dX4_copyFrom_34 : decode cX4_copyFrom 34 = .ok (.iconst 0, 1) := by decide +kernel
theorem dX4_copyFrom_35 : decode cX4_copyFrom 35 = .ok (.aload_n 0, 1) := by decide +kernel
theorem dX4_copyFrom_36 : decode cX4_copyFrom 36 = .ok (.getfield 18, 3) := by decide +kernel
theorem dX4_copyFrom_39 : decode cX4_copyFrom 39 = .ok (.iconst 0, 1) := by decide +kernel
theorem dX4_copyFrom_40 : decode cX4_copyFrom 40 = .ok (.bipush 10, 2) := by decide +kernel
theorem dX4_copyFrom_42 : decode cX4_copyFrom 42 = .ok (.invokestatic 34, 3) := by decide +kernel
theorem dX4_copyFrom_45 : decode cX4_copyFrom 45 = .ok (.aload_n 0, 1) := by decide +kernel
theorem dX4_copyFrom_46 : decode cX4_copyFrom 46 = .ok (.aload_n 1, 1) := by decide +kernel
theorem dX4_copyFrom_47 : decode cX4_copyFrom 47 = .ok (.getfield 27, 3) := by decide +kernel
theorem dX4_copyFrom_50 : decode cX4_copyFrom 50 = .ok (.putfield 27, 3) := by decide +kernel
theorem dX4_copyFrom_53 : decode cX4_copyFrom 53 = .ok (.aload_n 0, 1) := by decide +kernel
theorem dX4_copyFrom_54 : decode cX4_copyFrom 54 = .ok (.aload_n 1, 1) := by decide +kernel
theorem dX4_copyFrom_55 : decode cX4_copyFrom 55 = .ok (.getfield 31, 3) := by decide +kernel
theorem dX4_copyFrom_58 : decode cX4_copyFrom 58 = .ok (.putfield 31, 3) := by decide +kernel
theorem dX4_copyFrom_61 : decode cX4_copyFrom 61 = .ok (.return_, 1) := by decide +kernel
theorem dX4_addTurn_0 : decode cX4_addTurn 0 = .ok (.aload_n 0, 1) := by decide +kernel
theorem dX4_addTurn_1 : decode cX4_addTurn 1 = .ok (.getfield 9, 3) := by decide +kernel
theorem dX4_addTurn_4 : decode cX4_addTurn 4 = .ok (.iload_n 1, 1) := by decide +kernel
theorem dX4_addTurn_5 : decode cX4_addTurn 5 = .ok (.aload_n 0, 1) := by decide +kernel
theorem dX4_addTurn_6 : decode cX4_addTurn 6 = .ok (.getfield 9, 3) := by decide +kernel
theorem dX4_addTurn_9 : decode cX4_addTurn 9 = .ok (.iload_n 1, 1) := by decide +kernel
theorem dX4_addTurn_10 : decode cX4_addTurn 10 = .ok (.iaload, 1) := by decide +kernel
theorem dX4_addTurn_11 : decode cX4_addTurn 11 = .ok (.iload_n 2, 1) := by decide +kernel
theorem dX4_addTurn_12 : decode cX4_addTurn 12 = .ok (.iadd, 1) := by decide +kernel
theorem dX4_addTurn_13 : decode cX4_addTurn 13 = .ok (.bipush 48, 2) := by decide +kernel
theorem dX4_addTurn_15 : decode cX4_addTurn 15 = .ok (.irem, 1) := by decide +kernel
theorem dX4_addTurn_16 : decode cX4_addTurn 16 = .ok (.iastore, 1) := by decide +kernel
theorem dX4_addTurn_17 : decode cX4_addTurn 17 = .ok (.aload_n 0, 1) := by decide +kernel
theorem dX4_addTurn_18 : decode cX4_addTurn 18 = .ok (.getfield 27, 3) := by decide +kernel
theorem dX4_addTurn_21 : decode cX4_addTurn 21 = .ok (.bipush 10, 2) := by decide +kernel
theorem dX4_addTurn_23 : decode cX4_addTurn 23 = .ok (.if_icmp .lt 7, 3) := by decide +kernel
theorem dX4_addTurn_26 : decode cX4_addTurn 26 = .ok (.aload_n 0, 1) := by decide +kernel
theorem dX4_addTurn_27 : decode cX4_addTurn 27 = .ok (.invokevirtual 40, 3) := by decide +kernel
theorem dX4_addTurn_30 : decode cX4_addTurn 30 = .ok (.aload_n 0, 1) := by decide +kernel
theorem dX4_addTurn_31 : decode cX4_addTurn 31 = .ok (.getfield 15, 3) := by decide +kernel
theorem dX4_addTurn_34 : decode cX4_addTurn 34 = .ok (.aload_n 0, 1) := by decide +kernel
theorem dX4_addTurn_35 : decode cX4_addTurn 35 = .ok (.getfield 27, 3) := by decide +kernel
theorem dX4_addTurn_38 : decode cX4_addTurn 38 = .ok (.iload_n 1, 1) := by decide +kernel
theorem dX4_addTurn_39 : decode cX4_addTurn 39 = .ok (.iastore, 1) := by decide +kernel
theorem dX4_addTurn_40 : decode cX4_addTurn 40 = .ok (.aload_n 0, 1) := by decide +kernel
theorem dX4_addTurn_41 : decode cX4_addTurn 41 = .ok (.getfield 18, 3) := by decide +kernel
theorem dX4_addTurn_44 : decode cX4_addTurn 44 = .ok (.aload_n 0, 1) := by decide +kernel
theorem dX4_addTurn_45 : decode cX4_addTurn 45 = .ok (.getfield 27, 3) := by decide +kernel
theorem dX4_addTurn_48 : decode cX4_addTurn 48 = .ok (.iload_n 2, 1) := by decide +kernel
theorem dX4_addTurn_49 : decode cX4_addTurn 49 = .ok (.iastore, 1) := by decide +kernel
theorem dX4_addTurn_50 : decode cX4_addTurn 50 = .ok (.aload_n 0, 1) := by decide +kernel
theorem dX4_addTurn_51 : decode cX4_addTurn 51 = .ok (.dup, 1) := by decide +kernel
theorem dX4_addTurn_52 : decode cX4_addTurn 52 = .ok (.getfield 27, 3) := by decide +kernel
theorem dX4_addTurn_55 : decode cX4_addTurn 55 = .ok (.iconst 1, 1) := by decide +kernel
theorem dX4_addTurn_56 : decode cX4_addTurn 56 = .ok (.iadd, 1) := by decide +kernel
theorem dX4_addTurn_57 : decode cX4_addTurn 57 = .ok (.putfield 27, 3) := by decide +kernel
theorem dX4_addTurn_60 : decode cX4_addTurn 60 = .ok (.return_, 1) := by decide +kernel
theorem dX4_loseOldestTurn_0 : decode cX4_loseOldestTurn 0 = .ok (.aload_n 0, 1) := by decide +kernel
theorem dX4_loseOldestTurn_1 : decode cX4_loseOldestTurn 1 = .ok (.getfield 15, 3) := by decide +kernel
theorem dX4_loseOldestTurn_4 : decode cX4_loseOldestTurn 4 = .ok (.iconst 1, 1) := by decide +kernel
theorem dX4_loseOldestTurn_5 : decode cX4_loseOldestTurn 5 = .ok (.aload_n 0, 1) := by decide +kernel
theorem dX4_loseOldestTurn_6 : decode cX4_loseOldestTurn 6 = .ok (.getfield 15, 3) := by decide +kernel
theorem dX4_loseOldestTurn_9 : decode cX4_loseOldestTurn 9 = .ok (.iconst 0, 1) := by decide +kernel
theorem dX4_loseOldestTurn_10 : decode cX4_loseOldestTurn 10 = .ok (.bipush 9, 2) := by decide +kernel
theorem dX4_loseOldestTurn_12 : decode cX4_loseOldestTurn 12 = .ok (.invokestatic 34, 3) := by decide +kernel
theorem dX4_loseOldestTurn_15 : decode cX4_loseOldestTurn 15 = .ok (.aload_n 0, 1) := by decide +kernel
theorem dX4_loseOldestTurn_16 : decode cX4_loseOldestTurn 16 = .ok (.getfield 18, 3) := by decide +kernel
theorem dX4_loseOldestTurn_19 : decode cX4_loseOldestTurn 19 = .ok (.iconst 1, 1) := by decide +kernel
theorem dX4_loseOldestTurn_20 : decode cX4_loseOldestTurn 20 = .ok (.aload_n 0, 1) := by decide +kernel
theorem dX4_loseOldestTurn_21 : decode cX4_loseOldestTurn 21 = .ok (.getfield 18, 3) := by decide +kernel
theorem dX4_loseOldestTurn_24 : decode cX4_loseOldestTurn 24 = .ok (.iconst 0, 1) := by decide +kernel
theorem dX4_loseOldestTurn_25 : decode cX4_loseOldestTurn 25 = .ok (.bipush 9, 2) := by decide +kernel
theorem dX4_loseOldestTurn_27 : decode cX4_loseOldestTurn 27 = .ok (.invokestatic 34, 3) := by decide +kernel
theorem dX4_loseOldestTurn_30 : decode cX4_loseOldestTurn 30 = .ok (.aload_n 0, 1) := by decide +kernel
theorem dX4_loseOldestTurn_31 : decode cX4_loseOldestTurn 31 = .ok (.bipush 9, 2) := by decide +kernel
theorem dX4_loseOldestTurn_33 : decode cX4_loseOldestTurn 33 = .ok (.putfield 27, 3) := by decide +kernel
theorem dX4_loseOldestTurn_36 : decode cX4_loseOldestTurn 36 = .ok (.return_, 1) := by decide +kernel
theorem dX4_takeTurnBack_0 : decode cX4_takeTurnBack 0 = .ok (.aload_n 0, 1) := by decide +kernel
theorem dX4_takeTurnBack_1 : decode cX4_takeTurnBack 1 = .ok (.getfield 27, 3) := by decide +kernel
theorem dX4_takeTurnBack_4 : decode cX4_takeTurnBack 4 = .ok (.ifCond .ne 6, 3) := by decide +kernel
theorem dX4_takeTurnBack_7 : decode cX4_takeTurnBack 7 = .ok (.bipush (-9), 2) := by decide +kernel
theorem dX4_takeTurnBack_9 : decode cX4_takeTurnBack 9 = .ok (.ireturn, 1) := by decide +kernel
theorem dX4_takeTurnBack_10 : decode cX4_takeTurnBack 10 = .ok (.aload_n 0, 1) := by decide +kernel
theorem dX4_takeTurnBack_11 : decode cX4_takeTurnBack 11 = .ok (.dup, 1) := by decide +kernel
theorem dX4_takeTurnBack_12 : decode cX4_takeTurnBack 12 = .ok (.getfield 27, 3) := by decide +kernel
theorem dX4_takeTurnBack_15 : decode cX4_takeTurnBack 15 = .ok (.iconst 1, 1) := by decide +kernel
theorem dX4_takeTurnBack_16 : decode cX4_takeTurnBack 16 = .ok (.isub, 1) := by decide +kernel
theorem dX4_takeTurnBack_17 : decode cX4_takeTurnBack 17 = .ok (.putfield 27, 3) := by decide +kernel
theorem dX4_takeTurnBack_20 : decode cX4_takeTurnBack 20 = .ok (.aload_n 0, 1) := by decide +kernel
theorem dX4_takeTurnBack_21 : decode cX4_takeTurnBack 21 = .ok (.getfield 15, 3) := by decide +kernel
theorem dX4_takeTurnBack_24 : decode cX4_takeTurnBack 24 = .ok (.aload_n 0, 1) := by decide +kernel
theorem dX4_takeTurnBack_25 : decode cX4_takeTurnBack 25 = .ok (.getfield 27, 3) := by decide +kernel
theorem dX4_takeTurnBack_28 : decode cX4_takeTurnBack 28 = .ok (.iaload, 1) := by decide +kernel
theorem dX4_takeTurnBack_29 : decode cX4_takeTurnBack 29 = .ok (.istore_n 1, 1) := by decide +kernel
theorem dX4_takeTurnBack_30 : decode cX4_takeTurnBack 30 = .ok (.aload_n 0, 1) := by decide +kernel
theorem dX4_takeTurnBack_31 : decode cX4_takeTurnBack 31 = .ok (.getfield 9, 3) := by decide +kernel
theorem dX4_takeTurnBack_34 : decode cX4_takeTurnBack 34 = .ok (.iload_n 1, 1) := by decide +kernel
theorem dX4_takeTurnBack_35 : decode cX4_takeTurnBack 35 = .ok (.aload_n 0, 1) := by decide +kernel
theorem dX4_takeTurnBack_36 : decode cX4_takeTurnBack 36 = .ok (.getfield 9, 3) := by decide +kernel
theorem dX4_takeTurnBack_39 : decode cX4_takeTurnBack 39 = .ok (.iload_n 1, 1) := by decide +kernel
theorem dX4_takeTurnBack_40 : decode cX4_takeTurnBack 40 = .ok (.iaload, 1) := by decide +kernel
theorem dX4_takeTurnBack_41 : decode cX4_takeTurnBack 41 = .ok (.aload_n 0, 1) := by decide +kernel
theorem dX4_takeTurnBack_42 : decode cX4_takeTurnBack 42 = .ok (.getfield 18, 3) := by decide +kernel
theorem dX4_takeTurnBack_45 : decode cX4_takeTurnBack 45 = .ok (.aload_n 0, 1) := by decide +kernel
theorem dX4_takeTurnBack_46 : decode cX4_takeTurnBack 46 = .ok (.getfield 27, 3) := by decide +kernel
theorem dX4_takeTurnBack_49 : decode cX4_takeTurnBack 49 = .ok (.iaload, 1) := by decide +kernel
theorem dX4_takeTurnBack_50 : decode cX4_takeTurnBack 50 = .ok (.isub, 1) := by decide +kernel
theorem dX4_takeTurnBack_51 : decode cX4_takeTurnBack 51 = .ok (.bipush 48, 2) := by decide +kernel
theorem dX4_takeTurnBack_53 : decode cX4_takeTurnBack 53 = .ok (.invokestatic 43, 3) := by decide +kernel
theorem dX4_takeTurnBack_56 : decode cX4_takeTurnBack 56 = .ok (.iastore, 1) := by decide +kernel
theorem dX4_takeTurnBack_57 : decode cX4_takeTurnBack 57 = .ok (.iload_n 1, 1) := by decide +kernel
theorem dX4_takeTurnBack_58 : decode cX4_takeTurnBack 58 = .ok (.ireturn, 1) := by decide +kernel
theorem dX5_init_0 : decode cX5_init 0 = .ok (.aload_n 0, 1) := by decide +kernel
theorem dX5_init_1 : decode cX5_init 1 = .ok (.invokespecial 3, 3) := by decide +kernel
theorem dX5_init_4 : decode cX5_init 4 = .ok (.aload_n 0, 1) := by decide +kernel
theorem dX5_init_5 : decode cX5_init 5 = .ok (.new 9, 3) := by decide +kernel
theorem dX5_init_8 : decode cX5_init 8 = .ok (.dup, 1) := by decide +kernel
theorem dX5_init_9 : decode cX5_init 9 = .ok (.invokespecial 11, 3) := by decide +kernel
theorem dX5_init_12 : decode cX5_init 12 = .ok (.putfield 12, 3) := by decide +kernel
theorem dX5_init_15 : decode cX5_init 15 = .ok (.aload_n 0, 1) := by decide +kernel
theorem dX5_init_16 : decode cX5_init 16 = .ok (.aload_n 1, 1) := by decide +kernel
theorem dX5_init_17 : decode cX5_init 17 = .ok (.putfield 18, 3) := by decide +kernel
theorem dX5_init_20 : decode cX5_init 20 = .ok (.return_, 1) := by decide +kernel
theorem dX5_handOver_0 : decode cX5_handOver 0 = .ok (.aload_n 0, 1) := by decide +kernel
theorem dX5_handOver_1 : decode cX5_handOver 1 = .ok (.getfield 12, 3) := by decide +kernel
theorem dX5_handOver_4 : decode cX5_handOver 4 = .ok (.astore_n 2, 1) := by decide +kernel
theorem dX5_handOver_5 : decode cX5_handOver 5 = .ok (.aload_n 0, 1) := by decide +kernel
theorem dX5_handOver_6 : decode cX5_handOver 6 = .ok (.aload_n 1, 1) := by decide +kernel
theorem dX5_handOver_7 : decode cX5_handOver 7 = .ok (.putfield 12, 3) := by decide +kernel
theorem dX5_handOver_10 : decode cX5_handOver 10 = .ok (.aload_n 2, 1) := by decide +kernel
theorem dX5_handOver_11 : decode cX5_handOver 11 = .ok (.areturn, 1) := by decide +kernel
theorem dX5_readAll_0 : decode cX5_readAll 0 = .ok (.aload_n 0, 1) := by decide +kernel
theorem dX5_readAll_1 : decode cX5_readAll 1 = .ok (.getfield 12, 3) := by decide +kernel
theorem dX5_readAll_4 : decode cX5_readAll 4 = .ok (.invokevirtual 22, 3) := by decide +kernel
theorem dX5_readAll_7 : decode cX5_readAll 7 = .ok (.aload_n 0, 1) := by decide +kernel
theorem dX5_readAll_8 : decode cX5_readAll 8 = .ok (.iconst 0, 1) := by decide +kernel
theorem dX5_readAll_9 : decode cX5_readAll 9 = .ok (.putfield 25, 3) := by decide +kernel
theorem dX5_readAll_12 : decode cX5_readAll 12 = .ok (.aload_n 0, 1) := by decide +kernel
theorem dX5_readAll_13 : decode cX5_readAll 13 = .ok (.iconst 0, 1) := by decide +kernel
theorem dX5_readAll_14 : decode cX5_readAll 14 = .ok (.putfield 29, 3) := by decide +kernel
theorem dX5_readAll_17 : decode cX5_readAll 17 = .ok (.iconst 0, 1) := by decide +kernel
theorem dX5_readAll_18 : decode cX5_readAll 18 = .ok (.istore_n 1, 1) := by decide +kernel
theorem dX5_readAll_19 : decode cX5_readAll 19 = .ok (.iload_n 1, 1) := by decide +kernel
theorem dX5_readAll_20 : decode cX5_readAll 20 = .ok (.sipush 300, 3) := by decide +kernel
theorem dX5_readAll_23 : decode cX5_readAll 23 = .ok (.if_icmp .gt 81, 3) := by decide +kernel
theorem dX5_readAll_26 : decode cX5_readAll 26 = .ok (.aload_n 0, 1) := by decide +kernel
theorem dX5_readAll_27 : decode cX5_readAll 27 = .ok (.invokevirtual 33, 3) := by decide +kernel
theorem dX5_readAll_30 : decode cX5_readAll 30 = .ok (.aload_n 0, 1) := by decide +kernel
theorem dX5_readAll_31 : decode cX5_readAll 31 = .ok (.getfield 36, 3) := by decide +kernel
theorem dX5_readAll_34 : decode cX5_readAll 34 = .ok (.ifCond .ne 5, 3) := by decide +kernel
theorem dX5_readAll_37 : decode cX5_readAll 37 = .ok (.iload_n 1, 1) := by decide +kernel
theorem dX5_readAll_38 : decode cX5_readAll 38 = .ok (.ireturn, 1) := by decide +kernel
theorem dX5_readAll_39 : decode cX5_readAll 39 = .ok (.aload_n 0, 1) := by decide +kernel
theorem dX5_readAll_40 : decode cX5_readAll 40 = .ok (.getfield 36, 3) := by decide +kernel
theorem dX5_readAll_43 : decode cX5_readAll 43 = .ok (.iconst 4, 1) := by decide +kernel
theorem dX5_readAll_44 : decode cX5_readAll 44 = .ok (.if_icmp .ne 10, 3) := by decide +kernel
theorem dX5_readAll_47 : decode cX5_readAll 47 = .ok (.aload_n 0, 1) := by decide +kernel
theorem dX5_readAll_48 : decode cX5_readAll 48 = .ok (.invokevirtual 39, 3) := by decide +kernel
theorem dX5_readAll_51 : decode cX5_readAll 51 = .ok (.goto 39, 3) := by decide +kernel
theorem dX5_readAll_54 : decode cX5_readAll 54 = .ok (.aload_n 0, 1) := by decide +kernel
theorem dX5_readAll_55 : decode cX5_readAll 55 = .ok (.getfield 36, 3) := by decide +kernel
theorem dX5_readAll_58 : decode cX5_readAll 58 = .ok (.iconst 5, 1) := by decide +kernel
theorem dX5_readAll_59 : decode cX5_readAll 59 = .ok (.if_icmp .ne 10, 3) := by decide +kernel
theorem dX5_readAll_62 : decode cX5_readAll 62 = .ok (.aload_n 0, 1) := by decide +kernel
theorem dX5_readAll_63 : decode cX5_readAll 63 = .ok (.invokevirtual 43, 3) := by decide +kernel
theorem dX5_readAll_66 : decode cX5_readAll 66 = .ok (.goto 24, 3) := by decide +kernel
theorem dX5_readAll_69 : decode cX5_readAll 69 = .ok (.aload_n 0, 1) := by decide +kernel
theorem dX5_readAll_70 : decode cX5_readAll 70 = .ok (.getfield 36, 3) := by decide +kernel
theorem dX5_readAll_73 : decode cX5_readAll 73 = .ok (.bipush 6, 2) := by decide +kernel
theorem dX5_readAll_75 : decode cX5_readAll 75 = .ok (.if_icmp .ne 14, 3) := by decide +kernel
theorem dX5_readAll_78 : decode cX5_readAll 78 = .ok (.aload_n 0, 1) := by decide +kernel
theorem dX5_readAll_79 : decode cX5_readAll 79 = .ok (.invokevirtual 46, 3) := by decide +kernel
theorem dX5_readAll_82 : decode cX5_readAll 82 = .ok (.ifCond .eq 7, 3) := by decide +kernel
theorem dX5_readAll_85 : decode cX5_readAll 85 = .ok (.iconst 1, 1) := by decide +kernel
theorem dX5_readAll_86 : decode cX5_readAll 86 = .ok (.goto 4, 3) := by decide +kernel
theorem dX5_readAll_89 : decode cX5_readAll 89 = .ok (.iconst 0, 1) := by decide +kernel
theorem dX5_readAll_90 : decode cX5_readAll 90 = .ok (.istore_n 2, 1) := by decide +kernel
theorem dX5_readAll_91 : decode cX5_readAll 91 = .ok (.iload_n 2, 1) := by decide +kernel
theorem dX5_readAll_92 : decode cX5_readAll 92 = .ok (.ifCond .ne 6, 3) := by decide +kernel
theorem dX5_readAll_95 : decode cX5_readAll 95 = .ok (.goto 9, 3) := by decide +kernel
theorem dX5_readAll_98 : decode cX5_readAll 98 = .ok (.iinc 1 1, 3) := by decide +kernel
theorem dX5_readAll_101 : decode cX5_readAll 101 = .ok (.goto (-82), 3) := by decide +kernel
theorem dX5_readAll_104 : decode cX5_readAll 104 = .ok (.bipush (-10), 2) := by decide +kernel
theorem dX5_readAll_106 : decode cX5_readAll 106 = .ok (.aload_n 0, 1) := by decide +kernel
theorem dX5_readAll_107 : decode cX5_readAll 107 = .ok (.getfield 49, 3) := by decide +kernel
theorem dX5_readAll_110 : decode cX5_readAll 110 = .ok (.isub, 1) := by decide +kernel
theorem dX5_readAll_111 : decode cX5_readAll 111 = .ok (.ireturn, 1) := by decide +kernel
theorem dX5_readsHouse_0 : decode cX5_readsHouse 0 = .ok (.aload_n 0, 1) := by decide +kernel
theorem dX5_readsHouse_1 : decode cX5_readsHouse 1 = .ok (.getfield 12, 3) := by decide +kernel
theorem dX5_readsHouse_4 : decode cX5_readsHouse 4 = .ok (.getfield 52, 3) := by decide +kernel
theorem dX5_readsHouse_7 : decode cX5_readsHouse 7 = .ok (.bipush 6, 2) := by decide +kernel
theorem dX5_readsHouse_9 : decode cX5_readsHouse 9 = .ok (.if_icmp .ge 13, 3) := by decide +kernel
theorem dX5_readsHouse_12 : decode cX5_readsHouse 12 = .ok (.aload_n 0, 1) := by decide +kernel
theorem dX5_readsHouse_13 : decode cX5_readsHouse 13 = .ok (.iconst 0, 1) := by decide +kernel
theorem dX5_readsHouse_14 : decode cX5_readsHouse 14 = .ok (.bipush 47, 2) := by decide +kernel
theorem dX5_readsHouse_16 : decode cX5_readsHouse 16 = .ok (.invokevirtual 55, 3) := by decide +kernel
theorem dX5_readsHouse_19 : decode cX5_readsHouse 19 = .ok (.ifCond .ne 5, 3) := by decide +kernel
theorem dX5_readsHouse_22 : decode cX5_readsHouse 22 = .ok (.iconst 0, 1) := by decide +kernel
theorem dX5_readsHouse_23 : decode cX5_readsHouse 23 = .ok (.ireturn, 1) := by decide +kernel
theorem dX5_readsHouse_24 : decode cX5_readsHouse 24 = .ok (.aload_n 0, 1) := by decide +kernel
theorem dX5_readsHouse_25 : decode cX5_readsHouse 25 = .ok (.getfield 59, 3) := by decide +kernel
theorem dX5_readsHouse_28 : decode cX5_readsHouse 28 = .ok (.istore_n 1, 1) := by decide +kernel
theorem dX5_readsHouse_29 : decode cX5_readsHouse 29 = .ok (.aload_n 0, 1) := by decide +kernel
theorem dX5_readsHouse_30 : decode cX5_readsHouse 30 = .ok (.iconst 1, 1) := by decide +kernel
theorem dX5_readsHouse_31 : decode cX5_readsHouse 31 = .ok (.bipush 9, 2) := by decide +kernel
theorem dX5_readsHouse_33 : decode cX5_readsHouse 33 = .ok (.invokevirtual 55, 3) := by decide +kernel
theorem dX5_readsHouse_36 : decode cX5_readsHouse 36 = .ok (.ifCond .ne 5, 3) := by decide +kernel
theorem dX5_readsHouse_39 : decode cX5_readsHouse 39 = .ok (.iconst 0, 1) := by decide +kernel
theorem dX5_readsHouse_40 : decode cX5_readsHouse 40 = .ok (.ireturn, 1) := by decide +kernel
theorem dX5_readsHouse_41 : decode cX5_readsHouse 41 = .ok (.aload_n 0, 1) := by decide +kernel
theorem dX5_readsHouse_42 : decode cX5_readsHouse 42 = .ok (.getfield 59, 3) := by decide +kernel
theorem dX5_readsHouse_45 : decode cX5_readsHouse 45 = .ok (.istore_n 2, 1) := by decide +kernel
theorem dX5_readsHouse_46 : decode cX5_readsHouse 46 = .ok (.aload_n 0, 1) := by decide +kernel
theorem dX5_readsHouse_47 : decode cX5_readsHouse 47 = .ok (.iconst 1, 1) := by decide +kernel
theorem dX5_readsHouse_48 : decode cX5_readsHouse 48 = .ok (.bipush 9, 2) := by decide +kernel
theorem dX5_readsHouse_50 : decode cX5_readsHouse 50 = .ok (.invokevirtual 55, 3) := by decide +kernel
theorem dX5_readsHouse_53 : decode cX5_readsHouse 53 = .ok (.ifCond .ne 5, 3) := by decide +kernel
theorem dX5_readsHouse_56 : decode cX5_readsHouse 56 = .ok (.iconst 0, 1) := by decide +kernel
theorem dX5_readsHouse_57 : decode cX5_readsHouse 57 = .ok (.ireturn, 1) := by decide +kernel
theorem dX5_readsHouse_58 : decode cX5_readsHouse 58 = .ok (.aload_n 0, 1) := by decide +kernel
theorem dX5_readsHouse_59 : decode cX5_readsHouse 59 = .ok (.getfield 12, 3) := by decide +kernel
theorem dX5_readsHouse_62 : decode cX5_readsHouse 62 = .ok (.iload_n 1, 1) := by decide +kernel
theorem dX5_readsHouse_63 : decode cX5_readsHouse 63 = .ok (.iload_n 2, 1) := by decide +kernel
theorem dX5_readsHouse_64 : decode cX5_readsHouse 64 = .ok (.aload_n 0, 1) := by decide +kernel
theorem dX5_readsHouse_65 : decode cX5_readsHouse 65 = .ok (.getfield 59, 3) := by decide +kernel
theorem dX5_readsHouse_68 : decode cX5_readsHouse 68 = .ok (.invokevirtual 62, 3) := by decide +kernel
theorem dX5_readsHouse_71 : decode cX5_readsHouse 71 = .ok (.aload_n 0, 1) := by decide +kernel
theorem dX5_readsHouse_72 : decode cX5_readsHouse 72 = .ok (.invokevirtual 66, 3) := by decide +kernel
theorem dX5_readsHouse_75 : decode cX5_readsHouse 75 = .ok (.ireturn, 1) := by decide +kernel
theorem dX5_readsLeap_0 : decode cX5_readsLeap 0 = .ok (.aload_n 0, 1) := by decide +kernel
theorem dX5_readsLeap_1 : decode cX5_readsLeap 1 = .ok (.iconst 0, 1) := by decide +kernel
theorem dX5_readsLeap_2 : decode cX5_readsLeap 2 = .ok (.aload_n 0, 1) := by decide +kernel
theorem dX5_readsLeap_3 : decode cX5_readsLeap 3 = .ok (.getfield 12, 3) := by decide +kernel
theorem dX5_readsLeap_6 : decode cX5_readsLeap 6 = .ok (.getfield 52, 3) := by decide +kernel
theorem dX5_readsLeap_9 : decode cX5_readsLeap 9 = .ok (.iconst 1, 1) := by decide +kernel
theorem dX5_readsLeap_10 : decode cX5_readsLeap 10 = .ok (.isub, 1) := by decide +kernel
theorem dX5_readsLeap_11 : decode cX5_readsLeap 11 = .ok (.invokevirtual 55, 3) := by decide +kernel
theorem dX5_readsLeap_14 : decode cX5_readsLeap 14 = .ok (.ifCond .ne 5, 3) := by decide +kernel
theorem dX5_readsLeap_17 : decode cX5_readsLeap 17 = .ok (.iconst 0, 1) := by decide +kernel
theorem dX5_readsLeap_18 : decode cX5_readsLeap 18 = .ok (.ireturn, 1) := by decide +kernel
theorem dX5_readsLeap_19 : decode cX5_readsLeap 19 = .ok (.aload_n 0, 1) := by decide +kernel
theorem dX5_readsLeap_20 : decode cX5_readsLeap 20 = .ok (.getfield 12, 3) := by decide +kernel
theorem dX5_readsLeap_23 : decode cX5_readsLeap 23 = .ok (.getfield 69, 3) := by decide +kernel
theorem dX5_readsLeap_26 : decode cX5_readsLeap 26 = .ok (.aload_n 0, 1) := by decide +kernel
theorem dX5_readsLeap_27 : decode cX5_readsLeap 27 = .ok (.getfield 59, 3) := by decide +kernel
theorem dX5_readsLeap_30 : decode cX5_readsLeap 30 = .ok (.aaload, 1) := by decide +kernel
theorem dX5_readsLeap_31 : decode cX5_readsLeap 31 = .ok (.astore_n 1, 1) := by decide +kernel
theorem dX5_readsLeap_32 : decode cX5_readsLeap 32 = .ok (.aload_n 1, 1) := by decide +kernel
theorem dX5_readsLeap_33 : decode cX5_readsLeap 33 = .ok (.getfield 73, 3) := by decide +kernel
theorem dX5_readsLeap_36 : decode cX5_readsLeap 36 = .ok (.iconst 2, 1) := by decide +kernel
theorem dX5_readsLeap_37 : decode cX5_readsLeap 37 = .ok (.if_icmp .ge 13, 3) := by decide +kernel
theorem dX5_readsLeap_40 : decode cX5_readsLeap 40 = .ok (.aload_n 0, 1) := by decide +kernel
theorem dX5_readsLeap_41 : decode cX5_readsLeap 41 = .ok (.iconst 0, 1) := by decide +kernel
theorem dX5_readsLeap_42 : decode cX5_readsLeap 42 = .ok (.bipush 95, 2) := by decide +kernel
theorem dX5_readsLeap_44 : decode cX5_readsLeap 44 = .ok (.invokevirtual 55, 3) := by decide +kernel
theorem dX5_readsLeap_47 : decode cX5_readsLeap 47 = .ok (.ifCond .ne 5, 3) := by decide +kernel
theorem dX5_readsLeap_50 : decode cX5_readsLeap 50 = .ok (.iconst 0, 1) := by decide +kernel
theorem dX5_readsLeap_51 : decode cX5_readsLeap 51 = .ok (.ireturn, 1) := by decide +kernel
theorem dX5_readsLeap_52 : decode cX5_readsLeap 52 = .ok (.aload_n 0, 1) := by decide +kernel
theorem dX5_readsLeap_53 : decode cX5_readsLeap 53 = .ok (.getfield 59, 3) := by decide +kernel
theorem dX5_readsLeap_56 : decode cX5_readsLeap 56 = .ok (.istore_n 2, 1) := by decide +kernel
theorem dX5_readsLeap_57 : decode cX5_readsLeap 57 = .ok (.aload_n 0, 1) := by decide +kernel
theorem dX5_readsLeap_58 : decode cX5_readsLeap 58 = .ok (.iconst 1, 1) := by decide +kernel
theorem dX5_readsLeap_59 : decode cX5_readsLeap 59 = .ok (.bipush 47, 2) := by decide +kernel
theorem dX5_readsLeap_61 : decode cX5_readsLeap 61 = .ok (.invokevirtual 55, 3) := by decide +kernel
theorem dX5_readsLeap_64 : decode cX5_readsLeap 64 = .ok (.ifCond .ne 5, 3) := by decide +kernel
theorem dX5_readsLeap_67 : decode cX5_readsLeap 67 = .ok (.iconst 0, 1) := by decide +kernel
theorem dX5_readsLeap_68 : decode cX5_readsLeap 68 = .ok (.ireturn, 1) := by decide +kernel
theorem dX5_readsLeap_69 : decode cX5_readsLeap 69 = .ok (.aload_n 1, 1) := by decide +kernel
theorem dX5_readsLeap_70 : decode cX5_readsLeap 70 = .ok (.iload_n 2, 1) := by decide +kernel
theorem dX5_readsLeap_71 : decode cX5_readsLeap 71 = .ok (.aload_n 0, 1) := by decide +kernel
theorem dX5_readsLeap_72 : decode cX5_readsLeap 72 = .ok (.getfield 59, 3) := by decide +kernel
theorem dX5_readsLeap_75 : decode cX5_readsLeap 75 = .ok (.invokevirtual 78, 3) := by decide +kernel
theorem dX5_readsLeap_78 : decode cX5_readsLeap 78 = .ok (.aload_n 0, 1) := by decide +kernel
theorem dX5_readsLeap_79 : decode cX5_readsLeap 79 = .ok (.invokevirtual 66, 3) := by decide +kernel
theorem dX5_readsLeap_82 : decode cX5_readsLeap 82 = .ok (.ireturn, 1) := by decide +kernel
theorem dX5_readsWalk_0 : decode cX5_readsWalk 0 = .ok (.aload_n 0, 1) := by decide +kernel
theorem dX5_readsWalk_1 : decode cX5_readsWalk 1 = .ok (.getfield 29, 3) := by decide +kernel
theorem dX5_readsWalk_4 : decode cX5_readsWalk 4 = .ok (.ifCond .ne 13, 3) := by decide +kernel
theorem dX5_readsWalk_7 : decode cX5_readsWalk 7 = .ok (.aload_n 0, 1) := by decide +kernel
theorem dX5_readsWalk_8 : decode cX5_readsWalk 8 = .ok (.iconst 0, 1) := by decide +kernel
theorem dX5_readsWalk_9 : decode cX5_readsWalk 9 = .ok (.bipush 9, 2) := by decide +kernel
theorem dX5_readsWalk_11 : decode cX5_readsWalk 11 = .ok (.invokevirtual 55, 3) := by decide +kernel
theorem dX5_readsWalk_14 : decode cX5_readsWalk 14 = .ok (.ifCond .ne 5, 3) := by decide +kernel
theorem dX5_readsWalk_17 : decode cX5_readsWalk 17 = .ok (.iconst 0, 1) := by decide +kernel
theorem dX5_readsWalk_18 : decode cX5_readsWalk 18 = .ok (.ireturn, 1) := by decide +kernel
theorem dX5_readsWalk_19 : decode cX5_readsWalk 19 = .ok (.aload_n 0, 1) := by decide +kernel
theorem dX5_readsWalk_20 : decode cX5_readsWalk 20 = .ok (.iconst 1, 1) := by decide +kernel
theorem dX5_readsWalk_21 : decode cX5_readsWalk 21 = .ok (.putfield 29, 3) := by decide +kernel
theorem dX5_readsWalk_24 : decode cX5_readsWalk 24 = .ok (.aload_n 0, 1) := by decide +kernel
theorem dX5_readsWalk_25 : decode cX5_readsWalk 25 = .ok (.getfield 12, 3) := by decide +kernel
theorem dX5_readsWalk_28 : decode cX5_readsWalk 28 = .ok (.aload_n 0, 1) := by decide +kernel
theorem dX5_readsWalk_29 : decode cX5_readsWalk 29 = .ok (.getfield 59, 3) := by decide +kernel
theorem dX5_readsWalk_32 : decode cX5_readsWalk 32 = .ok (.putfield 82, 3) := by decide +kernel
theorem dX5_readsWalk_35 : decode cX5_readsWalk 35 = .ok (.aload_n 0, 1) := by decide +kernel
theorem dX5_readsWalk_36 : decode cX5_readsWalk 36 = .ok (.invokevirtual 66, 3) := by decide +kernel
theorem dX5_readsWalk_39 : decode cX5_readsWalk 39 = .ok (.ireturn, 1) := by decide +kernel
theorem dX5_readsNumber_0 : decode cX5_readsNumber 0 = .ok (.aload_n 0, 1) := by decide +kernel
theorem dX5_readsNumber_1 : decode cX5_readsNumber 1 = .ok (.invokevirtual 33, 3) := by decide +kernel
theorem dX5_readsNumber_4 : decode cX5_readsNumber 4 = .ok (.aload_n 0, 1) := by decide +kernel
theorem dX5_readsNumber_5 : decode cX5_readsNumber 5 = .ok (.getfield 36, 3) := by decide +kernel
theorem dX5_readsNumber_8 : decode cX5_readsNumber 8 = .ok (.iconst 2, 1) := by decide +kernel
theorem dX5_readsNumber_9 : decode cX5_readsNumber 9 = .ok (.if_icmp .ne 19, 3) := by decide +kernel
theorem dX5_readsNumber_12 : decode cX5_readsNumber 12 = .ok (.aload_n 0, 1) := by decide +kernel
theorem dX5_readsNumber_13 : decode cX5_readsNumber 13 = .ok (.getfield 59, 3) := by decide +kernel
theorem dX5_readsNumber_16 : decode cX5_readsNumber 16 = .ok (.iload_n 1, 1) := by decide +kernel
theorem dX5_readsNumber_17 : decode cX5_readsNumber 17 = .ok (.iload_n 2, 1) := by decide +kernel
theorem dX5_readsNumber_18 : decode cX5_readsNumber 18 = .ok (.invokestatic 85, 3) := by decide +kernel
theorem dX5_readsNumber_21 : decode cX5_readsNumber 21 = .ok (.ifCond .eq 7, 3) := by decide +kernel
theorem dX5_readsNumber_24 : decode cX5_readsNumber 24 = .ok (.iconst 1, 1) := by decide +kernel
theorem dX5_readsNumber_25 : decode cX5_readsNumber 25 = .ok (.goto 4, 3) := by decide +kernel
theorem dX5_readsNumber_28 : decode cX5_readsNumber 28 = .ok (.iconst 0, 1) := by decide +kernel
theorem dX5_readsNumber_29 : decode cX5_readsNumber 29 = .ok (.ireturn, 1) := by decide +kernel
theorem dX5_readsSemicolon_0 : decode cX5_readsSemicolon 0 = .ok (.aload_n 0, 1) := by decide +kernel
theorem dX5_readsSemicolon_1 : decode cX5_readsSemicolon 1 = .ok (.invokevirtual 33, 3) := by decide +kernel
theorem dX5_readsSemicolon_4 : decode cX5_readsSemicolon 4 = .ok (.aload_n 0, 1) := by decide +kernel
theorem dX5_readsSemicolon_5 : decode cX5_readsSemicolon 5 = .ok (.getfield 36, 3) := by decide +kernel
theorem dX5_readsSemicolon_8 : decode cX5_readsSemicolon 8 = .ok (.iconst 3, 1) := by decide +kernel
theorem dX5_readsSemicolon_9 : decode cX5_readsSemicolon 9 = .ok (.if_icmp .ne 7, 3) := by decide +kernel
theorem dX5_readsSemicolon_12 : decode cX5_readsSemicolon 12 = .ok (.iconst 1, 1) := by decide +kernel
theorem dX5_readsSemicolon_13 : decode cX5_readsSemicolon 13 = .ok (.goto 4, 3) := by decide +kernel
theorem dX5_readsSemicolon_16 : decode cX5_readsSemicolon 16 = .ok (.iconst 0, 1) := by decide +kernel
theorem dX5_readsSemicolon_17 : decode cX5_readsSemicolon 17 = .ok (.ireturn, 1) := by decide +kernel
theorem dX5_step_0 : decode cX5_step 0 = .ok (.aload_n 0, 1) := by decide +kernel
theorem dX5_step_1 : decode cX5_step 1 = .ok (.getfield 18, 3) := by decide +kernel
theorem dX5_step_4 : decode cX5_step 4 = .ok (.aload_n 0, 1) := by decide +kernel
theorem dX5_step_5 : decode cX5_step 5 = .ok (.getfield 25, 3) := by decide +kernel
theorem dX5_step_8 : decode cX5_step 8 = .ok (.invokevirtual 89, 3) := by decide +kernel
theorem dX5_step_11 : decode cX5_step 11 = .ok (.ifCond .eq 26, 3) := by decide +kernel
theorem dX5_step_14 : decode cX5_step 14 = .ok (.aload_n 0, 1) := by decide +kernel
theorem dX5_step_15 : decode cX5_step 15 = .ok (.getfield 25, 3) := by decide +kernel
theorem dX5_step_18 : decode cX5_step 18 = .ok (.sipush 300, 3) := by decide +kernel
theorem dX5_step_21 : decode cX5_step 21 = .ok (.if_icmp .ge 16, 3) := by decide +kernel
theorem dX5_step_24 : decode cX5_step 24 = .ok (.aload_n 0, 1) := by decide +kernel
theorem dX5_step_25 : decode cX5_step 25 = .ok (.dup, 1) := by decide +kernel
theorem dX5_step_26 : decode cX5_step 26 = .ok (.getfield 25, 3) := by decide +kernel
theorem dX5_step_29 : decode cX5_step 29 = .ok (.iconst 1, 1) := by decide +kernel
theorem dX5_step_30 : decode cX5_step 30 = .ok (.iadd, 1) := by decide +kernel
theorem dX5_step_31 : decode cX5_step 31 = .ok (.putfield 25, 3) := by decide +kernel
theorem dX5_step_34 : decode cX5_step 34 = .ok (.goto (-34), 3) := by decide +kernel
theorem dX5_step_37 : decode cX5_step 37 = .ok (.aload_n 0, 1) := by decide +kernel
theorem dX5_step_38 : decode cX5_step 38 = .ok (.aload_n 0, 1) := by decide +kernel
theorem dX5_step_39 : decode cX5_step 39 = .ok (.getfield 25, 3) := by decide +kernel
theorem dX5_step_42 : decode cX5_step 42 = .ok (.putfield 49, 3) := by decide +kernel
theorem dX5_step_45 : decode cX5_step 45 = .ok (.aload_n 0, 1) := by decide +kernel
theorem dX5_step_46 : decode cX5_step 46 = .ok (.getfield 25, 3) := by decide +kernel
theorem dX5_step_49 : decode cX5_step 49 = .ok (.aload_n 0, 1) := by decide +kernel
theorem dX5_step_50 : decode cX5_step 50 = .ok (.getfield 18, 3) := by decide +kernel
theorem dX5_step_53 : decode cX5_step 53 = .ok (.getfield 95, 3) := by decide +kernel
theorem dX5_step_56 : decode cX5_step 56 = .ok (.if_icmp .lt 11, 3) := by decide +kernel
theorem dX5_step_59 : decode cX5_step 59 = .ok (.aload_n 0, 1) := by decide +kernel
theorem dX5_step_60 : decode cX5_step 60 = .ok (.iconst 0, 1) := by decide +kernel
theorem dX5_step_61 : decode cX5_step 61 = .ok (.putfield 36, 3) := by decide +kernel
theorem dX5_step_64 : decode cX5_step 64 = .ok (.goto 81, 3) := by decide +kernel
theorem dX5_step_67 : decode cX5_step 67 = .ok (.aload_n 0, 1) := by decide +kernel
theorem dX5_step_68 : decode cX5_step 68 = .ok (.getfield 18, 3) := by decide +kernel
theorem dX5_step_71 : decode cX5_step 71 = .ok (.aload_n 0, 1) := by decide +kernel
theorem dX5_step_72 : decode cX5_step 72 = .ok (.getfield 25, 3) := by decide +kernel
theorem dX5_step_75 : decode cX5_step 75 = .ok (.invokevirtual 98, 3) := by decide +kernel
theorem dX5_step_78 : decode cX5_step 78 = .ok (.ifCond .eq 10, 3) := by decide +kernel
theorem dX5_step_81 : decode cX5_step 81 = .ok (.aload_n 0, 1) := by decide +kernel
theorem dX5_step_82 : decode cX5_step 82 = .ok (.invokevirtual 101, 3) := by decide +kernel
theorem dX5_step_85 : decode cX5_step 85 = .ok (.goto 60, 3) := by decide +kernel
theorem dX5_step_88 : decode cX5_step 88 = .ok (.aload_n 0, 1) := by decide +kernel
theorem dX5_step_89 : decode cX5_step 89 = .ok (.getfield 18, 3) := by decide +kernel
theorem dX5_step_92 : decode cX5_step 92 = .ok (.aload_n 0, 1) := by decide +kernel
theorem dX5_step_93 : decode cX5_step 93 = .ok (.getfield 25, 3) := by decide +kernel
theorem dX5_step_96 : decode cX5_step 96 = .ok (.invokevirtual 104, 3) := by decide +kernel
theorem dX5_step_99 : decode cX5_step 99 = .ok (.ifCond .eq 10, 3) := by decide +kernel
theorem dX5_step_102 : decode cX5_step 102 = .ok (.aload_n 0, 1) := by decide +kernel
theorem dX5_step_103 : decode cX5_step 103 = .ok (.invokevirtual 107, 3) := by decide +kernel
theorem dX5_step_106 : decode cX5_step 106 = .ok (.goto 39, 3) := by decide +kernel
theorem dX5_step_109 : decode cX5_step 109 = .ok (.aload_n 0, 1) := by decide +kernel
theorem dX5_step_110 : decode cX5_step 110 = .ok (.aload_n 0, 1) := by decide +kernel
theorem dX5_step_111 : decode cX5_step 111 = .ok (.getfield 18, 3) := by decide +kernel
theorem dX5_step_114 : decode cX5_step 114 = .ok (.getfield 110, 3) := by decide +kernel
theorem dX5_step_117 : decode cX5_step 117 = .ok (.aload_n 0, 1) := by decide +kernel
theorem dX5_step_118 : decode cX5_step 118 = .ok (.getfield 25, 3) := by decide +kernel
theorem dX5_step_121 : decode cX5_step 121 = .ok (.iaload, 1) := by decide +kernel
theorem dX5_step_122 : decode cX5_step 122 = .ok (.bipush 59, 2) := by decide +kernel
theorem dX5_step_124 : decode cX5_step 124 = .ok (.if_icmp .ne 7, 3) := by decide +kernel
theorem dX5_step_127 : decode cX5_step 127 = .ok (.iconst 3, 1) := by decide +kernel
theorem dX5_step_128 : decode cX5_step 128 = .ok (.goto 4, 3) := by decide +kernel
theorem dX5_step_131 : decode cX5_step 131 = .ok (.iconst 1, 1) := by decide +kernel
theorem dX5_step_132 : decode cX5_step 132 = .ok (.putfield 36, 3) := by decide +kernel
theorem dX5_step_135 : decode cX5_step 135 = .ok (.aload_n 0, 1) := by decide +kernel
theorem dX5_step_136 : decode cX5_step 136 = .ok (.dup, 1) := by decide +kernel
theorem dX5_step_137 : decode cX5_step 137 = .ok (.getfield 25, 3) := by decide +kernel
theorem dX5_step_140 : decode cX5_step 140 = .ok (.iconst 1, 1) := by decide +kernel
theorem dX5_step_141 : decode cX5_step 141 = .ok (.iadd, 1) := by decide +kernel
theorem dX5_step_142 : decode cX5_step 142 = .ok (.putfield 25, 3) := by decide +kernel
theorem dX5_step_145 : decode cX5_step 145 = .ok (.return_, 1) := by decide +kernel
theorem dX5_stepWord_0 : decode cX5_stepWord 0 = .ok (.aload_n 0, 1) := by decide +kernel
theorem dX5_stepWord_1 : decode cX5_stepWord 1 = .ok (.getfield 18, 3) := by decide +kernel
theorem dX5_stepWord_4 : decode cX5_stepWord 4 = .ok (.aload_n 0, 1) := by decide +kernel
theorem dX5_stepWord_5 : decode cX5_stepWord 5 = .ok (.getfield 25, 3) := by decide +kernel
theorem dX5_stepWord_8 : decode cX5_stepWord 8 = .ok (.invokevirtual 98, 3) := by decide +kernel
theorem dX5_stepWord_11 : decode cX5_stepWord 11 = .ok (.ifCond .eq 26, 3) := by decide +kernel
theorem dX5_stepWord_14 : decode cX5_stepWord 14 = .ok (.aload_n 0, 1) := by decide +kernel
theorem dX5_stepWord_15 : decode cX5_stepWord 15 = .ok (.getfield 25, 3) := by decide +kernel
theorem dX5_stepWord_18 : decode cX5_stepWord 18 = .ok (.sipush 300, 3) := by decide +kernel
theorem dX5_stepWord_21 : decode cX5_stepWord 21 = .ok (.if_icmp .ge 16, 3) := by decide +kernel
theorem dX5_stepWord_24 : decode cX5_stepWord 24 = .ok (.aload_n 0, 1) := by decide +kernel
theorem dX5_stepWord_25 : decode cX5_stepWord 25 = .ok (.dup, 1) := by decide +kernel
theorem dX5_stepWord_26 : decode cX5_stepWord 26 = .ok (.getfield 25, 3) := by decide +kernel
theorem dX5_stepWord_29 : decode cX5_stepWord 29 = .ok (.iconst 1, 1) := by decide +kernel
theorem dX5_stepWord_30 : decode cX5_stepWord 30 = .ok (.iadd, 1) := by decide +kernel
theorem dX5_stepWord_31 : decode cX5_stepWord 31 = .ok (.putfield 25, 3) := by decide +kernel
theorem dX5_stepWord_34 : decode cX5_stepWord 34 = .ok (.goto (-34), 3) := by decide +kernel
theorem dX5_stepWord_37 : decode cX5_stepWord 37 = .ok (.aload_n 0, 1) := by decide +kernel
theorem dX5_stepWord_38 : decode cX5_stepWord 38 = .ok (.getfield 18, 3) := by decide +kernel
theorem dX5_stepWord_41 : decode cX5_stepWord 41 = .ok (.ldc 114, 2) := by decide +kernel
theorem dX5_stepWord_43 : decode cX5_stepWord 43 = .ok (.aload_n 0, 1) := by decide +kernel
theorem dX5_stepWord_44 : decode cX5_stepWord 44 = .ok (.getfield 49, 3) := by decide +kernel
theorem dX5_stepWord_47 : decode cX5_stepWord 47 = .ok (.aload_n 0, 1) := by decide +kernel
theorem dX5_stepWord_48 : decode cX5_stepWord 48 = .ok (.getfield 25, 3) := by decide +kernel
theorem dX5_stepWord_51 : decode cX5_stepWord 51 = .ok (.invokevirtual 116, 3) := by decide +kernel
theorem dX5_stepWord_54 : decode cX5_stepWord 54 = .ok (.ifCond .eq 11, 3) := by decide +kernel
theorem dX5_stepWord_57 : decode cX5_stepWord 57 = .ok (.aload_n 0, 1) := by decide +kernel
theorem dX5_stepWord_58 : decode cX5_stepWord 58 = .ok (.iconst 4, 1) := by decide +kernel
theorem dX5_stepWord_59 : decode cX5_stepWord 59 = .ok (.putfield 36, 3) := by decide +kernel
theorem dX5_stepWord_62 : decode cX5_stepWord 62 = .ok (.goto 65, 3) := by decide +kernel
theorem dX5_stepWord_65 : decode cX5_stepWord 65 = .ok (.aload_n 0, 1) := by decide +kernel
theorem dX5_stepWord_66 : decode cX5_stepWord 66 = .ok (.getfield 18, 3) := by decide +kernel
theorem dX5_stepWord_69 : decode cX5_stepWord 69 = .ok (.ldc 120, 2) := by decide +kernel
theorem dX5_stepWord_71 : decode cX5_stepWord 71 = .ok (.aload_n 0, 1) := by decide +kernel
theorem dX5_stepWord_72 : decode cX5_stepWord 72 = .ok (.getfield 49, 3) := by decide +kernel
theorem dX5_stepWord_75 : decode cX5_stepWord 75 = .ok (.aload_n 0, 1) := by decide +kernel
theorem dX5_stepWord_76 : decode cX5_stepWord 76 = .ok (.getfield 25, 3) := by decide +kernel
theorem dX5_stepWord_79 : decode cX5_stepWord 79 = .ok (.invokevirtual 116, 3) := by decide +kernel
theorem dX5_stepWord_82 : decode cX5_stepWord 82 = .ok (.ifCond .eq 11, 3) := by decide +kernel
theorem dX5_stepWord_85 : decode cX5_stepWord 85 = .ok (.aload_n 0, 1) := by decide +kernel
theorem dX5_stepWord_86 : decode cX5_stepWord 86 = .ok (.iconst 5, 1) := by decide +kernel
theorem dX5_stepWord_87 : decode cX5_stepWord 87 = .ok (.putfield 36, 3) := by decide +kernel
theorem dX5_stepWord_90 : decode cX5_stepWord 90 = .ok (.goto 37, 3) := by decide +kernel
theorem dX5_stepWord_93 : decode cX5_stepWord 93 = .ok (.aload_n 0, 1) := by decide +kernel
theorem dX5_stepWord_94 : decode cX5_stepWord 94 = .ok (.getfield 18, 3) := by decide +kernel
theorem dX5_stepWord_97 : decode cX5_stepWord 97 = .ok (.ldc 122, 2) := by decide +kernel
theorem dX5_stepWord_99 : decode cX5_stepWord 99 = .ok (.aload_n 0, 1) := by decide +kernel
theorem dX5_stepWord_100 : decode cX5_stepWord 100 = .ok (.getfield 49, 3) := by decide +kernel
theorem dX5_stepWord_103 : decode cX5_stepWord 103 = .ok (.aload_n 0, 1) := by decide +kernel
theorem dX5_stepWord_104 : decode cX5_stepWord 104 = .ok (.getfield 25, 3) := by decide +kernel
theorem dX5_stepWord_107 : decode cX5_stepWord 107 = .ok (.invokevirtual 116, 3) := by decide +kernel
theorem dX5_stepWord_110 : decode cX5_stepWord 110 = .ok (.ifCond .eq 12, 3) := by decide +kernel
theorem dX5_stepWord_113 : decode cX5_stepWord 113 = .ok (.aload_n 0, 1) := by decide +kernel
theorem dX5_stepWord_114 : decode cX5_stepWord 114 = .ok (.bipush 6, 2) := by decide +kernel
theorem dX5_stepWord_116 : decode cX5_stepWord 116 = .ok (.putfield 36, 3) := by decide +kernel
theorem dX5_stepWord_119 : decode cX5_stepWord 119 = .ok (.goto 8, 3) := by decide +kernel
theorem dX5_stepWord_122 : decode cX5_stepWord 122 = .ok (.aload_n 0, 1) := by decide +kernel
theorem dX5_stepWord_123 : decode cX5_stepWord 123 = .ok (.iconst 1, 1) := by decide +kernel
theorem dX5_stepWord_124 : decode cX5_stepWord 124 = .ok (.putfield 36, 3) := by decide +kernel
theorem dX5_stepWord_127 : decode cX5_stepWord 127 = .ok (.return_, 1) := by decide +kernel
theorem dX5_stepNumber_0 : decode cX5_stepNumber 0 = .ok (.aload_n 0, 1) := by decide +kernel
theorem dX5_stepNumber_1 : decode cX5_stepNumber 1 = .ok (.getfield 18, 3) := by decide +kernel
theorem dX5_stepNumber_4 : decode cX5_stepNumber 4 = .ok (.getfield 110, 3) := by decide +kernel
theorem dX5_stepNumber_7 : decode cX5_stepNumber 7 = .ok (.aload_n 0, 1) := by decide +kernel
theorem dX5_stepNumber_8 : decode cX5_stepNumber 8 = .ok (.getfield 49, 3) := by decide +kernel
theorem dX5_stepNumber_11 : decode cX5_stepNumber 11 = .ok (.iaload, 1) := by decide +kernel
theorem dX5_stepNumber_12 : decode cX5_stepNumber 12 = .ok (.bipush 48, 2) := by decide +kernel
theorem dX5_stepNumber_14 : decode cX5_stepNumber 14 = .ok (.if_icmp .ne 7, 3) := by decide +kernel
theorem dX5_stepNumber_17 : decode cX5_stepNumber 17 = .ok (.iconst 1, 1) := by decide +kernel
theorem dX5_stepNumber_18 : decode cX5_stepNumber 18 = .ok (.goto 4, 3) := by decide +kernel
theorem dX5_stepNumber_21 : decode cX5_stepNumber 21 = .ok (.iconst 0, 1) := by decide +kernel
theorem dX5_stepNumber_22 : decode cX5_stepNumber 22 = .ok (.istore_n 1, 1) := by decide +kernel
theorem dX5_stepNumber_23 : decode cX5_stepNumber 23 = .ok (.aload_n 0, 1) := by decide +kernel
theorem dX5_stepNumber_24 : decode cX5_stepNumber 24 = .ok (.iconst 0, 1) := by decide +kernel
theorem dX5_stepNumber_25 : decode cX5_stepNumber 25 = .ok (.putfield 59, 3) := by decide +kernel
theorem dX5_stepNumber_28 : decode cX5_stepNumber 28 = .ok (.aload_n 0, 1) := by decide +kernel
theorem dX5_stepNumber_29 : decode cX5_stepNumber 29 = .ok (.getfield 18, 3) := by decide +kernel
theorem dX5_stepNumber_32 : decode cX5_stepNumber 32 = .ok (.aload_n 0, 1) := by decide +kernel
theorem dX5_stepNumber_33 : decode cX5_stepNumber 33 = .ok (.getfield 25, 3) := by decide +kernel
theorem dX5_stepNumber_36 : decode cX5_stepNumber 36 = .ok (.invokevirtual 104, 3) := by decide +kernel
theorem dX5_stepNumber_39 : decode cX5_stepNumber 39 = .ok (.ifCond .eq 58, 3) := by decide +kernel
theorem dX5_stepNumber_42 : decode cX5_stepNumber 42 = .ok (.aload_n 0, 1) := by decide +kernel
theorem dX5_stepNumber_43 : decode cX5_stepNumber 43 = .ok (.getfield 25, 3) := by decide +kernel
theorem dX5_stepNumber_46 : decode cX5_stepNumber 46 = .ok (.sipush 300, 3) := by decide +kernel
theorem dX5_stepNumber_49 : decode cX5_stepNumber 49 = .ok (.if_icmp .ge 48, 3) := by decide +kernel
theorem dX5_stepNumber_52 : decode cX5_stepNumber 52 = .ok (.aload_n 0, 1) := by decide +kernel
theorem dX5_stepNumber_53 : decode cX5_stepNumber 53 = .ok (.aload_n 0, 1) := by decide +kernel
theorem dX5_stepNumber_54 : decode cX5_stepNumber 54 = .ok (.getfield 59, 3) := by decide +kernel
theorem dX5_stepNumber_57 : decode cX5_stepNumber 57 = .ok (.bipush 10, 2) := by decide +kernel
theorem dX5_stepNumber_59 : decode cX5_stepNumber 59 = .ok (.imul, 1) := by decide +kernel
theorem dX5_stepNumber_60 : decode cX5_stepNumber 60 = .ok (.aload_n 0, 1) := by decide +kernel
theorem dX5_stepNumber_61 : decode cX5_stepNumber 61 = .ok (.getfield 18, 3) := by decide +kernel
theorem dX5_stepNumber_64 : decode cX5_stepNumber 64 = .ok (.getfield 110, 3) := by decide +kernel
theorem dX5_stepNumber_67 : decode cX5_stepNumber 67 = .ok (.aload_n 0, 1) := by decide +kernel
theorem dX5_stepNumber_68 : decode cX5_stepNumber 68 = .ok (.getfield 25, 3) := by decide +kernel
theorem dX5_stepNumber_71 : decode cX5_stepNumber 71 = .ok (.iaload, 1) := by decide +kernel
theorem dX5_stepNumber_72 : decode cX5_stepNumber 72 = .ok (.iadd, 1) := by decide +kernel
theorem dX5_stepNumber_73 : decode cX5_stepNumber 73 = .ok (.bipush 48, 2) := by decide +kernel
theorem dX5_stepNumber_75 : decode cX5_stepNumber 75 = .ok (.isub, 1) := by decide +kernel
theorem dX5_stepNumber_76 : decode cX5_stepNumber 76 = .ok (.bipush 100, 2) := by decide +kernel
theorem dX5_stepNumber_78 : decode cX5_stepNumber 78 = .ok (.invokestatic 123, 3) := by decide +kernel
theorem dX5_stepNumber_81 : decode cX5_stepNumber 81 = .ok (.putfield 59, 3) := by decide +kernel
theorem dX5_stepNumber_84 : decode cX5_stepNumber 84 = .ok (.aload_n 0, 1) := by decide +kernel
theorem dX5_stepNumber_85 : decode cX5_stepNumber 85 = .ok (.dup, 1) := by decide +kernel
theorem dX5_stepNumber_86 : decode cX5_stepNumber 86 = .ok (.getfield 25, 3) := by decide +kernel
theorem dX5_stepNumber_89 : decode cX5_stepNumber 89 = .ok (.iconst 1, 1) := by decide +kernel
theorem dX5_stepNumber_90 : decode cX5_stepNumber 90 = .ok (.iadd, 1) := by decide +kernel
theorem dX5_stepNumber_91 : decode cX5_stepNumber 91 = .ok (.putfield 25, 3) := by decide +kernel
theorem dX5_stepNumber_94 : decode cX5_stepNumber 94 = .ok (.goto (-66), 3) := by decide +kernel
theorem dX5_stepNumber_97 : decode cX5_stepNumber 97 = .ok (.aload_n 0, 1) := by decide +kernel
theorem dX5_stepNumber_98 : decode cX5_stepNumber 98 = .ok (.getfield 25, 3) := by decide +kernel
theorem dX5_stepNumber_101 : decode cX5_stepNumber 101 = .ok (.aload_n 0, 1) := by decide +kernel
theorem dX5_stepNumber_102 : decode cX5_stepNumber 102 = .ok (.getfield 49, 3) := by decide +kernel
theorem dX5_stepNumber_105 : decode cX5_stepNumber 105 = .ok (.isub, 1) := by decide +kernel
theorem dX5_stepNumber_106 : decode cX5_stepNumber 106 = .ok (.iconst 1, 1) := by decide +kernel
theorem dX5_stepNumber_107 : decode cX5_stepNumber 107 = .ok (.if_icmp .le 7, 3) := by decide +kernel
theorem dX5_stepNumber_110 : decode cX5_stepNumber 110 = .ok (.iconst 1, 1) := by decide +kernel
theorem dX5_stepNumber_111 : decode cX5_stepNumber 111 = .ok (.goto 4, 3) := by decide +kernel
theorem dX5_stepNumber_114 : decode cX5_stepNumber 114 = .ok (.iconst 0, 1) := by decide +kernel
theorem dX5_stepNumber_115 : decode cX5_stepNumber 115 = .ok (.istore_n 2, 1) := by decide +kernel
theorem dX5_stepNumber_116 : decode cX5_stepNumber 116 = .ok (.aload_n 0, 1) := by decide +kernel
theorem dX5_stepNumber_117 : decode cX5_stepNumber 117 = .ok (.aload_n 0, 1) := by decide +kernel
theorem dX5_stepNumber_118 : decode cX5_stepNumber 118 = .ok (.getfield 59, 3) := by decide +kernel
theorem dX5_stepNumber_121 : decode cX5_stepNumber 121 = .ok (.bipush 99, 2) := by decide +kernel
theorem dX5_stepNumber_123 : decode cX5_stepNumber 123 = .ok (.if_icmp .gt 11, 3) := by decide +kernel
theorem dX5_stepNumber_126 : decode cX5_stepNumber 126 = .ok (.iload_n 1, 1) := by decide +kernel
theorem dX5_stepNumber_127 : decode cX5_stepNumber 127 = .ok (.ifCond .eq 11, 3) := by decide +kernel
theorem dX5_stepNumber_130 : decode cX5_stepNumber 130 = .ok (.iload_n 2, 1) := by decide +kernel
theorem dX5_stepNumber_131 : decode cX5_stepNumber 131 = .ok (.ifCond .eq 7, 3) := by decide +kernel
theorem dX5_stepNumber_134 : decode cX5_stepNumber 134 = .ok (.iconst 1, 1) := by decide +kernel
theorem dX5_stepNumber_135 : decode cX5_stepNumber 135 = .ok (.goto 4, 3) := by decide +kernel
theorem dX5_stepNumber_138 : decode cX5_stepNumber 138 = .ok (.iconst 2, 1) := by decide +kernel
theorem dX5_stepNumber_139 : decode cX5_stepNumber 139 = .ok (.putfield 36, 3) := by decide +kernel
theorem dX5_stepNumber_142 : decode cX5_stepNumber 142 = .ok (.return_, 1) := by decide +kernel
theorem dX6_init_0 : decode cX6_init 0 = .ok (.aload_n 0, 1) := by decide +kernel
theorem dX6_init_1 : decode cX6_init 1 = .ok (.invokespecial 3, 3) := by decide +kernel
theorem dX6_init_4 : decode cX6_init 4 = .ok (.aload_n 0, 1) := by decide +kernel
theorem dX6_init_5 : decode cX6_init 5 = .ok (.sipush 300, 3) := by decide +kernel
theorem dX6_init_8 : decode cX6_init 8 = .ok (.newarray .int, 2) := by decide +kernel
theorem dX6_init_10 : decode cX6_init 10 = .ok (.putfield 9, 3) := by decide +kernel
theorem dX6_init_13 : decode cX6_init 13 = .ok (.return_, 1) := by decide +kernel
theorem dX6_add_0 : decode cX6_add 0 = .ok (.iload_n 3, 1) := by decide +kernel
theorem dX6_add_1 : decode cX6_add 1 = .ok (.iconst 1, 1) := by decide +kernel
theorem dX6_add_2 : decode cX6_add 2 = .ok (.isub, 1) := by decide +kernel
theorem dX6_add_3 : decode cX6_add 3 = .ok (.istore 4, 2) := by decide +kernel
theorem dX6_add_5 : decode cX6_add 5 = .ok (.iload 4, 2) := by decide +kernel
theorem dX6_add_7 : decode cX6_add 7 = .ok (.ifCond .lt 50, 3) := by decide +kernel
theorem dX6_add_10 : decode cX6_add 10 = .ok (.aload_n 0, 1) := by decide +kernel
theorem dX6_add_11 : decode cX6_add 11 = .ok (.getfield 15, 3) := by decide +kernel
theorem dX6_add_14 : decode cX6_add 14 = .ok (.sipush 300, 3) := by decide +kernel
theorem dX6_add_17 : decode cX6_add 17 = .ok (.if_icmp .ge 40, 3) := by decide +kernel
theorem dX6_add_20 : decode cX6_add 20 = .ok (.aload_n 0, 1) := by decide +kernel
theorem dX6_add_21 : decode cX6_add 21 = .ok (.getfield 9, 3) := by decide +kernel
theorem dX6_add_24 : decode cX6_add 24 = .ok (.aload_n 0, 1) := by decide +kernel
theorem dX6_add_25 : decode cX6_add 25 = .ok (.getfield 15, 3) := by decide +kernel
theorem dX6_add_28 : decode cX6_add 28 = .ok (.lload_n 1, 1) := by decide +kernel
theorem dX6_add_29 : decode cX6_add 29 = .ok (.bipush 8, 2) := by decide +kernel
theorem dX6_add_31 : decode cX6_add 31 = .ok (.iload 4, 2) := by decide +kernel
theorem dX6_add_33 : decode cX6_add 33 = .ok (.imul, 1) := by decide +kernel
theorem dX6_add_34 : decode cX6_add 34 = .ok (.lushr, 1) := by decide +kernel
theorem dX6_add_35 : decode cX6_add 35 = .ok (.l2i, 1) := by decide +kernel
theorem dX6_add_36 : decode cX6_add 36 = .ok (.sipush 255, 3) := by decide +kernel
theorem dX6_add_39 : decode cX6_add 39 = .ok (.iand, 1) := by decide +kernel
theorem dX6_add_40 : decode cX6_add 40 = .ok (.iastore, 1) := by decide +kernel
theorem dX6_add_41 : decode cX6_add 41 = .ok (.aload_n 0, 1) := by decide +kernel
theorem dX6_add_42 : decode cX6_add 42 = .ok (.dup, 1) := by decide +kernel
theorem dX6_add_43 : decode cX6_add 43 = .ok (.getfield 15, 3) := by decide +kernel
theorem dX6_add_46 : decode cX6_add 46 = .ok (.iconst 1, 1) := by decide +kernel
theorem dX6_add_47 : decode cX6_add 47 = .ok (.iadd, 1) := by decide +kernel
theorem dX6_add_48 : decode cX6_add 48 = .ok (.putfield 15, 3) := by decide +kernel
theorem dX6_add_51 : decode cX6_add 51 = .ok (.iinc 4 (-1), 3) := by decide +kernel
theorem dX6_add_54 : decode cX6_add 54 = .ok (.goto (-49), 3) := by decide +kernel
theorem dX6_add_57 : decode cX6_add 57 = .ok (.return_, 1) := by decide +kernel
theorem dX6_isLetter_0 : decode cX6_isLetter 0 = .ok (.iload_n 1, 1) := by decide +kernel
theorem dX6_isLetter_1 : decode cX6_isLetter 1 = .ok (.aload_n 0, 1) := by decide +kernel
theorem dX6_isLetter_2 : decode cX6_isLetter 2 = .ok (.getfield 15, 3) := by decide +kernel
theorem dX6_isLetter_5 : decode cX6_isLetter 5 = .ok (.if_icmp .ge 23, 3) := by decide +kernel
theorem dX6_isLetter_8 : decode cX6_isLetter 8 = .ok (.aload_n 0, 1) := by decide +kernel
theorem dX6_isLetter_9 : decode cX6_isLetter 9 = .ok (.getfield 9, 3) := by decide +kernel
theorem dX6_isLetter_12 : decode cX6_isLetter 12 = .ok (.iload_n 1, 1) := by decide +kernel
theorem dX6_isLetter_13 : decode cX6_isLetter 13 = .ok (.iaload, 1) := by decide +kernel
theorem dX6_isLetter_14 : decode cX6_isLetter 14 = .ok (.bipush 97, 2) := by decide +kernel
theorem dX6_isLetter_16 : decode cX6_isLetter 16 = .ok (.bipush 122, 2) := by decide +kernel
theorem dX6_isLetter_18 : decode cX6_isLetter 18 = .ok (.invokestatic 19, 3) := by decide +kernel
theorem dX6_isLetter_21 : decode cX6_isLetter 21 = .ok (.ifCond .eq 7, 3) := by decide +kernel
theorem dX6_isLetter_24 : decode cX6_isLetter 24 = .ok (.iconst 1, 1) := by decide +kernel
theorem dX6_isLetter_25 : decode cX6_isLetter 25 = .ok (.goto 4, 3) := by decide +kernel
theorem dX6_isLetter_28 : decode cX6_isLetter 28 = .ok (.iconst 0, 1) := by decide +kernel
theorem dX6_isLetter_29 : decode cX6_isLetter 29 = .ok (.ireturn, 1) := by decide +kernel
theorem dX6_isDigit_0 : decode cX6_isDigit 0 = .ok (.iload_n 1, 1) := by decide +kernel
theorem dX6_isDigit_1 : decode cX6_isDigit 1 = .ok (.aload_n 0, 1) := by decide +kernel
theorem dX6_isDigit_2 : decode cX6_isDigit 2 = .ok (.getfield 15, 3) := by decide +kernel
theorem dX6_isDigit_5 : decode cX6_isDigit 5 = .ok (.if_icmp .ge 23, 3) := by decide +kernel
theorem dX6_isDigit_8 : decode cX6_isDigit 8 = .ok (.aload_n 0, 1) := by decide +kernel
theorem dX6_isDigit_9 : decode cX6_isDigit 9 = .ok (.getfield 9, 3) := by decide +kernel
theorem dX6_isDigit_12 : decode cX6_isDigit 12 = .ok (.iload_n 1, 1) := by decide +kernel
theorem dX6_isDigit_13 : decode cX6_isDigit 13 = .ok (.iaload, 1) := by decide +kernel
theorem dX6_isDigit_14 : decode cX6_isDigit 14 = .ok (.bipush 48, 2) := by decide +kernel
theorem dX6_isDigit_16 : decode cX6_isDigit 16 = .ok (.bipush 57, 2) := by decide +kernel
theorem dX6_isDigit_18 : decode cX6_isDigit 18 = .ok (.invokestatic 19, 3) := by decide +kernel
theorem dX6_isDigit_21 : decode cX6_isDigit 21 = .ok (.ifCond .eq 7, 3) := by decide +kernel
theorem dX6_isDigit_24 : decode cX6_isDigit 24 = .ok (.iconst 1, 1) := by decide +kernel
theorem dX6_isDigit_25 : decode cX6_isDigit 25 = .ok (.goto 4, 3) := by decide +kernel
theorem dX6_isDigit_28 : decode cX6_isDigit 28 = .ok (.iconst 0, 1) := by decide +kernel
theorem dX6_isDigit_29 : decode cX6_isDigit 29 = .ok (.ireturn, 1) := by decide +kernel
theorem dX6_isBlank_0 : decode cX6_isBlank 0 = .ok (.iload_n 1, 1) := by decide +kernel
theorem dX6_isBlank_1 : decode cX6_isBlank 1 = .ok (.aload_n 0, 1) := by decide +kernel
theorem dX6_isBlank_2 : decode cX6_isBlank 2 = .ok (.getfield 15, 3) := by decide +kernel
theorem dX6_isBlank_5 : decode cX6_isBlank 5 = .ok (.if_icmp .ge 18, 3) := by decide +kernel
theorem dX6_isBlank_8 : decode cX6_isBlank 8 = .ok (.aload_n 0, 1) := by decide +kernel
theorem dX6_isBlank_9 : decode cX6_isBlank 9 = .ok (.getfield 9, 3) := by decide +kernel
theorem dX6_isBlank_12 : decode cX6_isBlank 12 = .ok (.iload_n 1, 1) := by decide +kernel
theorem dX6_isBlank_13 : decode cX6_isBlank 13 = .ok (.iaload, 1) := by decide +kernel
theorem dX6_isBlank_14 : decode cX6_isBlank 14 = .ok (.bipush 32, 2) := by decide +kernel
theorem dX6_isBlank_16 : decode cX6_isBlank 16 = .ok (.if_icmp .ne 7, 3) := by decide +kernel
theorem dX6_isBlank_19 : decode cX6_isBlank 19 = .ok (.iconst 1, 1) := by decide +kernel
theorem dX6_isBlank_20 : decode cX6_isBlank 20 = .ok (.goto 4, 3) := by decide +kernel
theorem dX6_isBlank_23 : decode cX6_isBlank 23 = .ok (.iconst 0, 1) := by decide +kernel
theorem dX6_isBlank_24 : decode cX6_isBlank 24 = .ok (.ireturn, 1) := by decide +kernel
theorem dX6_has_0 : decode cX6_has 0 = .ok (.iload_n 3, 1) := by decide +kernel
theorem dX6_has_1 : decode cX6_has 1 = .ok (.iload_n 2, 1) := by decide +kernel
theorem dX6_has_2 : decode cX6_has 2 = .ok (.isub, 1) := by decide +kernel
theorem dX6_has_3 : decode cX6_has 3 = .ok (.aload_n 1, 1) := by decide +kernel
theorem dX6_has_4 : decode cX6_has 4 = .ok (.invokevirtual 23, 3) := by decide +kernel
theorem dX6_has_7 : decode cX6_has 7 = .ok (.if_icmp .eq 5, 3) := by decide +kernel
theorem dX6_has_10 : decode cX6_has 10 = .ok (.iconst 0, 1) := by decide +kernel
theorem dX6_has_11 : decode cX6_has 11 = .ok (.ireturn, 1) := by decide +kernel
theorem dX6_has_12 : decode cX6_has 12 = .ok (.iconst 0, 1) := by decide +kernel
theorem dX6_has_13 : decode cX6_has 13 = .ok (.istore 4, 2) := by decide +kernel
theorem dX6_has_15 : decode cX6_has 15 = .ok (.iload 4, 2) := by decide +kernel
theorem dX6_has_17 : decode cX6_has 17 = .ok (.aload_n 1, 1) := by decide +kernel
theorem dX6_has_18 : decode cX6_has 18 = .ok (.invokevirtual 23, 3) := by decide +kernel
theorem dX6_has_21 : decode cX6_has 21 = .ok (.if_icmp .ge 29, 3) := by decide +kernel
theorem dX6_has_24 : decode cX6_has 24 = .ok (.aload_n 0, 1) := by decide +kernel
theorem dX6_has_25 : decode cX6_has 25 = .ok (.getfield 9, 3) := by decide +kernel
theorem dX6_has_28 : decode cX6_has 28 = .ok (.iload_n 2, 1) := by decide +kernel
theorem dX6_has_29 : decode cX6_has 29 = .ok (.iload 4, 2) := by decide +kernel
theorem dX6_has_31 : decode cX6_has 31 = .ok (.iadd, 1) := by decide +kernel
theorem dX6_has_32 : decode cX6_has 32 = .ok (.iaload, 1) := by decide +kernel
theorem dX6_has_33 : decode cX6_has 33 = .ok (.aload_n 1, 1) := by decide +kernel
theorem dX6_has_34 : decode cX6_has 34 = .ok (.iload 4, 2) := by decide +kernel
theorem dX6_has_36 : decode cX6_has 36 = .ok (.invokevirtual 28, 3) := by decide +kernel
theorem dX6_has_39 : decode cX6_has 39 = .ok (.if_icmp .eq 5, 3) := by decide +kernel
theorem dX6_has_42 : decode cX6_has 42 = .ok (.iconst 0, 1) := by decide +kernel
theorem dX6_has_43 : decode cX6_has 43 = .ok (.ireturn, 1) := by decide +kernel
theorem dX6_has_44 : decode cX6_has 44 = .ok (.iinc 4 1, 3) := by decide +kernel
theorem dX6_has_47 : decode cX6_has 47 = .ok (.goto (-32), 3) := by decide +kernel
theorem dX6_has_50 : decode cX6_has 50 = .ok (.iconst 1, 1) := by decide +kernel
theorem dX6_has_51 : decode cX6_has 51 = .ok (.ireturn, 1) := by decide +kernel
theorem dX7_init_0 : decode cX7_init 0 = .ok (.aload_n 0, 1) := by decide +kernel
theorem dX7_init_1 : decode cX7_init 1 = .ok (.invokespecial 3, 3) := by decide +kernel
theorem dX7_init_4 : decode cX7_init 4 = .ok (.aload_n 0, 1) := by decide +kernel
theorem dX7_init_5 : decode cX7_init 5 = .ok (.bipush 6, 2) := by decide +kernel
theorem dX7_init_7 : decode cX7_init 7 = .ok (.anewarray 9, 3) := by decide +kernel
theorem dX7_init_10 : decode cX7_init 10 = .ok (.putfield 11, 3) := by decide +kernel
theorem dX7_init_13 : decode cX7_init 13 = .ok (.aload_n 0, 1) := by decide +kernel
theorem dX7_init_14 : decode cX7_init 14 = .ok (.iconst 1, 1) := by decide +kernel
theorem dX7_init_15 : decode cX7_init 15 = .ok (.putfield 17, 3) := by decide +kernel
theorem dX7_init_18 : decode cX7_init 18 = .ok (.iconst 0, 1) := by decide +kernel
theorem dX7_init_19 : decode cX7_init 19 = .ok (.istore_n 1, 1) := by decide +kernel
theorem dX7_init_20 : decode cX7_init 20 = .ok (.iload_n 1, 1) := by decide +kernel
theorem dX7_init_21 : decode cX7_init 21 = .ok (.bipush 6, 2) := by decide +kernel
theorem dX7_init_23 : decode cX7_init 23 = .ok (.if_icmp .ge 22, 3) := by decide +kernel
theorem dX7_init_26 : decode cX7_init 26 = .ok (.aload_n 0, 1) := by decide +kernel
theorem dX7_init_27 : decode cX7_init 27 = .ok (.getfield 11, 3) := by decide +kernel
theorem dX7_init_30 : decode cX7_init 30 = .ok (.iload_n 1, 1) := by decide +kernel
theorem dX7_init_31 : decode cX7_init 31 = .ok (.new 9, 3) := by decide +kernel
theorem dX7_init_34 : decode cX7_init 34 = .ok (.dup, 1) := by decide +kernel
theorem dX7_init_35 : decode cX7_init 35 = .ok (.invokespecial 21, 3) := by decide +kernel
theorem dX7_init_38 : decode cX7_init 38 = .ok (.aastore, 1) := by decide +kernel
theorem dX7_init_39 : decode cX7_init 39 = .ok (.iinc 1 1, 3) := by decide +kernel
theorem dX7_init_42 : decode cX7_init 42 = .ok (.goto (-22), 3) := by decide +kernel
theorem dX7_init_45 : decode cX7_init 45 = .ok (.return_, 1) := by decide +kernel
theorem dX7_reset_0 : decode cX7_reset 0 = .ok (.aload_n 0, 1) := by decide +kernel
theorem dX7_reset_1 : decode cX7_reset 1 = .ok (.iconst 0, 1) := by decide +kernel
theorem dX7_reset_2 : decode cX7_reset 2 = .ok (.putfield 22, 3) := by decide +kernel
theorem dX7_reset_5 : decode cX7_reset 5 = .ok (.aload_n 0, 1) := by decide +kernel
theorem dX7_reset_6 : decode cX7_reset 6 = .ok (.iconst 1, 1) := by decide +kernel
theorem dX7_reset_7 : decode cX7_reset 7 = .ok (.putfield 17, 3) := by decide +kernel
theorem dX7_reset_10 : decode cX7_reset 10 = .ok (.return_, 1) := by decide +kernel
theorem dX7_addHouse_0 : decode cX7_addHouse 0 = .ok (.aload_n 0, 1) := by decide +kernel
theorem dX7_addHouse_1 : decode cX7_addHouse 1 = .ok (.getfield 22, 3) := by decide +kernel
theorem dX7_addHouse_4 : decode cX7_addHouse 4 = .ok (.bipush 6, 2) := by decide +kernel
theorem dX7_addHouse_6 : decode cX7_addHouse 6 = .ok (.if_icmp .ge 28, 3) := by decide +kernel
theorem dX7_addHouse_9 : decode cX7_addHouse 9 = .ok (.aload_n 0, 1) := by decide +kernel
theorem dX7_addHouse_10 : decode cX7_addHouse 10 = .ok (.getfield 11, 3) := by decide +kernel
theorem dX7_addHouse_13 : decode cX7_addHouse 13 = .ok (.aload_n 0, 1) := by decide +kernel
theorem dX7_addHouse_14 : decode cX7_addHouse 14 = .ok (.getfield 22, 3) := by decide +kernel
theorem dX7_addHouse_17 : decode cX7_addHouse 17 = .ok (.aaload, 1) := by decide +kernel
theorem dX7_addHouse_18 : decode cX7_addHouse 18 = .ok (.iload_n 1, 1) := by decide +kernel
theorem dX7_addHouse_19 : decode cX7_addHouse 19 = .ok (.iload_n 2, 1) := by decide +kernel
theorem dX7_addHouse_20 : decode cX7_addHouse 20 = .ok (.iload_n 3, 1) := by decide +kernel
theorem dX7_addHouse_21 : decode cX7_addHouse 21 = .ok (.invokevirtual 25, 3) := by decide +kernel
theorem dX7_addHouse_24 : decode cX7_addHouse 24 = .ok (.aload_n 0, 1) := by decide +kernel
theorem dX7_addHouse_25 : decode cX7_addHouse 25 = .ok (.dup, 1) := by decide +kernel
theorem dX7_addHouse_26 : decode cX7_addHouse 26 = .ok (.getfield 22, 3) := by decide +kernel
theorem dX7_addHouse_29 : decode cX7_addHouse 29 = .ok (.iconst 1, 1) := by decide +kernel
theorem dX7_addHouse_30 : decode cX7_addHouse 30 = .ok (.iadd, 1) := by decide +kernel
theorem dX7_addHouse_31 : decode cX7_addHouse 31 = .ok (.putfield 22, 3) := by decide +kernel
theorem dX7_addHouse_34 : decode cX7_addHouse 34 = .ok (.return_, 1) := by decide +kernel
theorem dX8_init_0 : decode cX8_init 0 = .ok (.aload_n 0, 1) := by decide +kernel
theorem dX8_init_1 : decode cX8_init 1 = .ok (.invokespecial 3, 3) := by decide +kernel
theorem dX8_init_4 : decode cX8_init 4 = .ok (.aload_n 0, 1) := by decide +kernel
theorem dX8_init_5 : decode cX8_init 5 = .ok (.bipush 8, 2) := by decide +kernel
theorem dX8_init_7 : decode cX8_init 7 = .ok (.newarray .int, 2) := by decide +kernel
theorem dX8_init_9 : decode cX8_init 9 = .ok (.putfield 9, 3) := by decide +kernel
theorem dX8_init_12 : decode cX8_init 12 = .ok (.aload_n 0, 1) := by decide +kernel
theorem dX8_init_13 : decode cX8_init 13 = .ok (.bipush 8, 2) := by decide +kernel
theorem dX8_init_15 : decode cX8_init 15 = .ok (.newarray .int, 2) := by decide +kernel
theorem dX8_init_17 : decode cX8_init 17 = .ok (.putfield 15, 3) := by decide +kernel
theorem dX8_init_20 : decode cX8_init 20 = .ok (.aload_n 0, 1) := by decide +kernel
theorem dX8_init_21 : decode cX8_init 21 = .ok (.aload_n 1, 1) := by decide +kernel
theorem dX8_init_22 : decode cX8_init 22 = .ok (.putfield 18, 3) := by decide +kernel
theorem dX8_init_25 : decode cX8_init 25 = .ok (.return_, 1) := by decide +kernel
theorem dX8_add_0 : decode cX8_add 0 = .ok (.aload_n 0, 1) := by decide +kernel
theorem dX8_add_1 : decode cX8_add 1 = .ok (.getfield 22, 3) := by decide +kernel
theorem dX8_add_4 : decode cX8_add 4 = .ok (.bipush 8, 2) := by decide +kernel
theorem dX8_add_6 : decode cX8_add 6 = .ok (.if_icmp .ge 33, 3) := by decide +kernel
theorem dX8_add_9 : decode cX8_add 9 = .ok (.aload_n 0, 1) := by decide +kernel
theorem dX8_add_10 : decode cX8_add 10 = .ok (.getfield 9, 3) := by decide +kernel
theorem dX8_add_13 : decode cX8_add 13 = .ok (.aload_n 0, 1) := by decide +kernel
theorem dX8_add_14 : decode cX8_add 14 = .ok (.getfield 22, 3) := by decide +kernel
theorem dX8_add_17 : decode cX8_add 17 = .ok (.iload_n 1, 1) := by decide +kernel
theorem dX8_add_18 : decode cX8_add 18 = .ok (.iastore, 1) := by decide +kernel
theorem dX8_add_19 : decode cX8_add 19 = .ok (.aload_n 0, 1) := by decide +kernel
theorem dX8_add_20 : decode cX8_add 20 = .ok (.getfield 15, 3) := by decide +kernel
theorem dX8_add_23 : decode cX8_add 23 = .ok (.aload_n 0, 1) := by decide +kernel
theorem dX8_add_24 : decode cX8_add 24 = .ok (.getfield 22, 3) := by decide +kernel
theorem dX8_add_27 : decode cX8_add 27 = .ok (.iload_n 2, 1) := by decide +kernel
theorem dX8_add_28 : decode cX8_add 28 = .ok (.iastore, 1) := by decide +kernel
theorem dX8_add_29 : decode cX8_add 29 = .ok (.aload_n 0, 1) := by decide +kernel
theorem dX8_add_30 : decode cX8_add 30 = .ok (.dup, 1) := by decide +kernel
theorem dX8_add_31 : decode cX8_add 31 = .ok (.getfield 22, 3) := by decide +kernel
theorem dX8_add_34 : decode cX8_add 34 = .ok (.iconst 1, 1) := by decide +kernel
theorem dX8_add_35 : decode cX8_add 35 = .ok (.iadd, 1) := by decide +kernel
theorem dX8_add_36 : decode cX8_add 36 = .ok (.putfield 22, 3) := by decide +kernel
theorem dX8_add_39 : decode cX8_add 39 = .ok (.return_, 1) := by decide +kernel
theorem dX8_housesThatCould_0 : decode cX8_housesThatCould 0 = .ok (.iconst 0, 1) := by decide +kernel
theorem dX8_housesThatCould_1 : decode cX8_housesThatCould 1 = .ok (.istore_n 1, 1) := by decide +kernel
theorem dX8_housesThatCould_2 : decode cX8_housesThatCould 2 = .ok (.iconst 0, 1) := by decide +kernel
theorem dX8_housesThatCould_3 : decode cX8_housesThatCould 3 = .ok (.istore_n 2, 1) := by decide +kernel
theorem dX8_housesThatCould_4 : decode cX8_housesThatCould 4 = .ok (.iload_n 2, 1) := by decide +kernel
theorem dX8_housesThatCould_5 : decode cX8_housesThatCould 5 = .ok (.aload_n 0, 1) := by decide +kernel
theorem dX8_housesThatCould_6 : decode cX8_housesThatCould 6 = .ok (.getfield 18, 3) := by decide +kernel
theorem dX8_housesThatCould_9 : decode cX8_housesThatCould 9 = .ok (.getfield 26, 3) := by decide +kernel
theorem dX8_housesThatCould_12 : decode cX8_housesThatCould 12 = .ok (.getfield 32, 3) := by decide +kernel
theorem dX8_housesThatCould_15 : decode cX8_housesThatCould 15 = .ok (.if_icmp .ge 23, 3) := by decide +kernel
theorem dX8_housesThatCould_18 : decode cX8_housesThatCould 18 = .ok (.aload_n 0, 1) := by decide +kernel
theorem dX8_housesThatCould_19 : decode cX8_housesThatCould 19 = .ok (.iload_n 2, 1) := by decide +kernel
theorem dX8_housesThatCould_20 : decode cX8_housesThatCould 20 = .ok (.invokevirtual 35, 3) := by decide +kernel
theorem dX8_housesThatCould_23 : decode cX8_housesThatCould 23 = .ok (.ifCond .eq 9, 3) := by decide +kernel
theorem dX8_housesThatCould_26 : decode cX8_housesThatCould 26 = .ok (.iload_n 1, 1) := by decide +kernel
theorem dX8_housesThatCould_27 : decode cX8_housesThatCould 27 = .ok (.iconst 1, 1) := by decide +kernel
theorem dX8_housesThatCould_28 : decode cX8_housesThatCould 28 = .ok (.iload_n 2, 1) := by decide +kernel
theorem dX8_housesThatCould_29 : decode cX8_housesThatCould 29 = .ok (.ishl, 1) := by decide +kernel
theorem dX8_housesThatCould_30 : decode cX8_housesThatCould 30 = .ok (.ior, 1) := by decide +kernel
theorem dX8_housesThatCould_31 : decode cX8_housesThatCould 31 = .ok (.istore_n 1, 1) := by decide +kernel
theorem dX8_housesThatCould_32 : decode cX8_housesThatCould 32 = .ok (.iinc 2 1, 3) := by decide +kernel
theorem dX8_housesThatCould_35 : decode cX8_housesThatCould 35 = .ok (.goto (-31), 3) := by decide +kernel
theorem dX8_housesThatCould_38 : decode cX8_housesThatCould 38 = .ok (.iload_n 1, 1) := by decide +kernel
theorem dX8_housesThatCould_39 : decode cX8_housesThatCould 39 = .ok (.ireturn, 1) := by decide +kernel
theorem dX8_could_0 : decode cX8_could 0 = .ok (.iconst 0, 1) := by decide +kernel
theorem dX8_could_1 : decode cX8_could 1 = .ok (.istore_n 2, 1) := by decide +kernel
theorem dX8_could_2 : decode cX8_could 2 = .ok (.iload_n 2, 1) := by decide +kernel
theorem dX8_could_3 : decode cX8_could 3 = .ok (.aload_n 0, 1) := by decide +kernel
theorem dX8_could_4 : decode cX8_could 4 = .ok (.getfield 22, 3) := by decide +kernel
theorem dX8_could_7 : decode cX8_could 7 = .ok (.if_icmp .ge 34, 3) := by decide +kernel
theorem dX8_could_10 : decode cX8_could 10 = .ok (.aload_n 0, 1) := by decide +kernel
theorem dX8_could_11 : decode cX8_could 11 = .ok (.getfield 18, 3) := by decide +kernel
theorem dX8_could_14 : decode cX8_could 14 = .ok (.iload_n 1, 1) := by decide +kernel
theorem dX8_could_15 : decode cX8_could 15 = .ok (.aload_n 0, 1) := by decide +kernel
theorem dX8_could_16 : decode cX8_could 16 = .ok (.getfield 9, 3) := by decide +kernel
theorem dX8_could_19 : decode cX8_could 19 = .ok (.iload_n 2, 1) := by decide +kernel
theorem dX8_could_20 : decode cX8_could 20 = .ok (.iaload, 1) := by decide +kernel
theorem dX8_could_21 : decode cX8_could 21 = .ok (.invokevirtual 39, 3) := by decide +kernel
theorem dX8_could_24 : decode cX8_could 24 = .ok (.aload_n 0, 1) := by decide +kernel
theorem dX8_could_25 : decode cX8_could 25 = .ok (.getfield 15, 3) := by decide +kernel
theorem dX8_could_28 : decode cX8_could 28 = .ok (.iload_n 2, 1) := by decide +kernel
theorem dX8_could_29 : decode cX8_could 29 = .ok (.iaload, 1) := by decide +kernel
theorem dX8_could_30 : decode cX8_could 30 = .ok (.if_icmp .eq 5, 3) := by decide +kernel
theorem dX8_could_33 : decode cX8_could 33 = .ok (.iconst 0, 1) := by decide +kernel
theorem dX8_could_34 : decode cX8_could 34 = .ok (.ireturn, 1) := by decide +kernel
theorem dX8_could_35 : decode cX8_could 35 = .ok (.iinc 2 1, 3) := by decide +kernel
theorem dX8_could_38 : decode cX8_could 38 = .ok (.goto (-36), 3) := by decide +kernel
theorem dX8_could_41 : decode cX8_could 41 = .ok (.iconst 1, 1) := by decide +kernel
theorem dX8_could_42 : decode cX8_could 42 = .ok (.ireturn, 1) := by decide +kernel
theorem dX9_init_0 : decode cX9_init 0 = .ok (.aload_n 0, 1) := by decide +kernel
theorem dX9_init_1 : decode cX9_init 1 = .ok (.invokespecial 1, 3) := by decide +kernel
theorem dX9_init_4 : decode cX9_init 4 = .ok (.aload_n 0, 1) := by decide +kernel
theorem dX9_init_5 : decode cX9_init 5 = .ok (.new 7, 3) := by decide +kernel
theorem dX9_init_8 : decode cX9_init 8 = .ok (.dup, 1) := by decide +kernel
theorem dX9_init_9 : decode cX9_init 9 = .ok (.invokespecial 9, 3) := by decide +kernel
theorem dX9_init_12 : decode cX9_init 12 = .ok (.putfield 10, 3) := by decide +kernel
theorem dX9_init_15 : decode cX9_init 15 = .ok (.aload_n 0, 1) := by decide +kernel
theorem dX9_init_16 : decode cX9_init 16 = .ok (.new 16, 3) := by decide +kernel
theorem dX9_init_19 : decode cX9_init 19 = .ok (.dup, 1) := by decide +kernel
theorem dX9_init_20 : decode cX9_init 20 = .ok (.aload_n 0, 1) := by decide +kernel
theorem dX9_init_21 : decode cX9_init 21 = .ok (.getfield 10, 3) := by decide +kernel
theorem dX9_init_24 : decode cX9_init 24 = .ok (.invokespecial 18, 3) := by decide +kernel
theorem dX9_init_27 : decode cX9_init 27 = .ok (.putfield 21, 3) := by decide +kernel
theorem dX9_init_30 : decode cX9_init 30 = .ok (.aload_n 0, 1) := by decide +kernel
theorem dX9_init_31 : decode cX9_init 31 = .ok (.new 25, 3) := by decide +kernel
theorem dX9_init_34 : decode cX9_init 34 = .ok (.dup, 1) := by decide +kernel
theorem dX9_init_35 : decode cX9_init 35 = .ok (.invokespecial 27, 3) := by decide +kernel
theorem dX9_init_38 : decode cX9_init 38 = .ok (.putfield 28, 3) := by decide +kernel
theorem dX9_init_41 : decode cX9_init 41 = .ok (.aload_n 0, 1) := by decide +kernel
theorem dX9_init_42 : decode cX9_init 42 = .ok (.aload_n 0, 1) := by decide +kernel
theorem dX9_init_43 : decode cX9_init 43 = .ok (.getfield 28, 3) := by decide +kernel
theorem dX9_init_46 : decode cX9_init 46 = .ok (.getfield 32, 3) := by decide +kernel
theorem dX9_init_49 : decode cX9_init 49 = .ok (.putfield 36, 3) := by decide +kernel
theorem dX9_init_52 : decode cX9_init 52 = .ok (.aload_n 0, 1) := by decide +kernel
theorem dX9_init_53 : decode cX9_init 53 = .ok (.new 39, 3) := by decide +kernel
theorem dX9_init_56 : decode cX9_init 56 = .ok (.dup, 1) := by decide +kernel
theorem dX9_init_57 : decode cX9_init 57 = .ok (.aload_n 0, 1) := by decide +kernel
theorem dX9_init_58 : decode cX9_init 58 = .ok (.getfield 28, 3) := by decide +kernel
theorem dX9_init_61 : decode cX9_init 61 = .ok (.invokespecial 41, 3) := by decide +kernel
theorem dX9_init_64 : decode cX9_init 64 = .ok (.putfield 44, 3) := by decide +kernel
theorem dX9_init_67 : decode cX9_init 67 = .ok (.aload_n 0, 1) := by decide +kernel
theorem dX9_init_68 : decode cX9_init 68 = .ok (.new 48, 3) := by decide +kernel
theorem dX9_init_71 : decode cX9_init 71 = .ok (.dup, 1) := by decide +kernel
theorem dX9_init_72 : decode cX9_init 72 = .ok (.aload_n 0, 1) := by decide +kernel
theorem dX9_init_73 : decode cX9_init 73 = .ok (.getfield 28, 3) := by decide +kernel
theorem dX9_init_76 : decode cX9_init 76 = .ok (.invokespecial 50, 3) := by decide +kernel
theorem dX9_init_79 : decode cX9_init 79 = .ok (.putfield 51, 3) := by decide +kernel
theorem dX9_init_82 : decode cX9_init 82 = .ok (.aload_n 0, 1) := by decide +kernel
theorem dX9_init_83 : decode cX9_init 83 = .ok (.new 55, 3) := by decide +kernel
theorem dX9_init_86 : decode cX9_init 86 = .ok (.dup, 1) := by decide +kernel
theorem dX9_init_87 : decode cX9_init 87 = .ok (.aload_n 0, 1) := by decide +kernel
theorem dX9_init_88 : decode cX9_init 88 = .ok (.getfield 28, 3) := by decide +kernel
theorem dX9_init_91 : decode cX9_init 91 = .ok (.invokespecial 57, 3) := by decide +kernel
theorem dX9_init_94 : decode cX9_init 94 = .ok (.putfield 58, 3) := by decide +kernel
theorem dX9_init_97 : decode cX9_init 97 = .ok (.aload_n 0, 1) := by decide +kernel
theorem dX9_init_98 : decode cX9_init 98 = .ok (.iconst 2, 1) := by decide +kernel
theorem dX9_init_99 : decode cX9_init 99 = .ok (.anewarray 62, 3) := by decide +kernel
theorem dX9_init_102 : decode cX9_init 102 = .ok (.putfield 64, 3) := by decide +kernel
theorem dX9_init_105 : decode cX9_init 105 = .ok (.aload_n 0, 1) := by decide +kernel
theorem dX9_init_106 : decode cX9_init 106 = .ok (.iconst 2, 1) := by decide +kernel
theorem dX9_init_107 : decode cX9_init 107 = .ok (.newarray .boolean, 2) := by decide +kernel
theorem dX9_init_109 : decode cX9_init 109 = .ok (.putfield 68, 3) := by decide +kernel
theorem dX9_init_112 : decode cX9_init 112 = .ok (.iconst 0, 1) := by decide +kernel
theorem dX9_init_113 : decode cX9_init 113 = .ok (.istore_n 1, 1) := by decide +kernel
theorem dX9_init_114 : decode cX9_init 114 = .ok (.iload_n 1, 1) := by decide +kernel
theorem dX9_init_115 : decode cX9_init 115 = .ok (.iconst 2, 1) := by decide +kernel
theorem dX9_init_116 : decode cX9_init 116 = .ok (.if_icmp .ge 22, 3) := by decide +kernel
theorem dX9_init_119 : decode cX9_init 119 = .ok (.aload_n 0, 1) := by decide +kernel
theorem dX9_init_120 : decode cX9_init 120 = .ok (.getfield 64, 3) := by decide +kernel
theorem dX9_init_123 : decode cX9_init 123 = .ok (.iload_n 1, 1) := by decide +kernel
theorem dX9_init_124 : decode cX9_init 124 = .ok (.new 62, 3) := by decide +kernel
theorem dX9_init_127 : decode cX9_init 127 = .ok (.dup, 1) := by decide +kernel
theorem dX9_init_128 : decode cX9_init 128 = .ok (.invokespecial 72, 3) := by decide +kernel
theorem dX9_init_131 : decode cX9_init 131 = .ok (.aastore, 1) := by decide +kernel
theorem dX9_init_132 : decode cX9_init 132 = .ok (.iinc 1 1, 3) := by decide +kernel
theorem dX9_init_135 : decode cX9_init 135 = .ok (.goto (-21), 3) := by decide +kernel
theorem dX9_init_138 : decode cX9_init 138 = .ok (.return_, 1) := by decide +kernel
theorem dX9_type_0 : decode cX9_type 0 = .ok (.iload_n 3, 1) := by decide +kernel
theorem dX9_type_1 : decode cX9_type 1 = .ok (.iconst 1, 1) := by decide +kernel
theorem dX9_type_2 : decode cX9_type 2 = .ok (.bipush 8, 2) := by decide +kernel
theorem dX9_type_4 : decode cX9_type 4 = .ok (.invokestatic 73, 3) := by decide +kernel
theorem dX9_type_7 : decode cX9_type 7 = .ok (.ifCond .ne 5, 3) := by decide +kernel
theorem dX9_type_10 : decode cX9_type 10 = .ok (.iconst (-1), 1) := by decide +kernel
theorem dX9_type_11 : decode cX9_type 11 = .ok (.ireturn, 1) := by decide +kernel
theorem dX9_type_12 : decode cX9_type 12 = .ok (.aload_n 0, 1) := by decide +kernel
theorem dX9_type_13 : decode cX9_type 13 = .ok (.getfield 10, 3) := by decide +kernel
theorem dX9_type_16 : decode cX9_type 16 = .ok (.getfield 77, 3) := by decide +kernel
theorem dX9_type_19 : decode cX9_type 19 = .ok (.iload_n 3, 1) := by decide +kernel
theorem dX9_type_20 : decode cX9_type 20 = .ok (.iadd, 1) := by decide +kernel
theorem dX9_type_21 : decode cX9_type 21 = .ok (.sipush 300, 3) := by decide +kernel
theorem dX9_type_24 : decode cX9_type 24 = .ok (.if_icmp .le 6, 3) := by decide +kernel
theorem dX9_type_27 : decode cX9_type 27 = .ok (.bipush (-3), 2) := by decide +kernel
theorem dX9_type_29 : decode cX9_type 29 = .ok (.ireturn, 1) := by decide +kernel
theorem dX9_type_30 : decode cX9_type 30 = .ok (.aload_n 0, 1) := by decide +kernel
theorem dX9_type_31 : decode cX9_type 31 = .ok (.getfield 10, 3) := by decide +kernel
theorem dX9_type_34 : decode cX9_type 34 = .ok (.lload_n 1, 1) := by decide +kernel
theorem dX9_type_35 : decode cX9_type 35 = .ok (.iload_n 3, 1) := by decide +kernel
theorem dX9_type_36 : decode cX9_type 36 = .ok (.invokevirtual 81, 3) := by decide +kernel
theorem dX9_type_39 : decode cX9_type 39 = .ok (.aload_n 0, 1) := by decide +kernel
theorem dX9_type_40 : decode cX9_type 40 = .ok (.getfield 10, 3) := by decide +kernel
theorem dX9_type_43 : decode cX9_type 43 = .ok (.getfield 77, 3) := by decide +kernel
theorem dX9_type_46 : decode cX9_type 46 = .ok (.ireturn, 1) := by decide +kernel
theorem dX9_clear_0 : decode cX9_clear 0 = .ok (.aload_n 0, 1) := by decide +kernel
theorem dX9_clear_1 : decode cX9_clear 1 = .ok (.getfield 10, 3) := by decide +kernel
theorem dX9_clear_4 : decode cX9_clear 4 = .ok (.getfield 77, 3) := by decide +kernel
theorem dX9_clear_7 : decode cX9_clear 7 = .ok (.istore_n 1, 1) := by decide +kernel
theorem dX9_clear_8 : decode cX9_clear 8 = .ok (.aload_n 0, 1) := by decide +kernel
theorem dX9_clear_9 : decode cX9_clear 9 = .ok (.getfield 10, 3) := by decide +kernel
theorem dX9_clear_12 : decode cX9_clear 12 = .ok (.iconst 0, 1) := by decide +kernel
theorem dX9_clear_13 : decode cX9_clear 13 = .ok (.putfield 77, 3) := by decide +kernel
theorem dX9_clear_16 : decode cX9_clear 16 = .ok (.iload_n 1, 1) := by decide +kernel
theorem dX9_clear_17 : decode cX9_clear 17 = .ok (.ireturn, 1) := by decide +kernel
theorem dX9_town_0 : decode cX9_town 0 = .ok (.aload_n 0, 1) := by decide +kernel
theorem dX9_town_1 : decode cX9_town 1 = .ok (.getfield 21, 3) := by decide +kernel
theorem dX9_town_4 : decode cX9_town 4 = .ok (.invokevirtual 85, 3) := by decide +kernel
theorem dX9_town_7 : decode cX9_town 7 = .ok (.istore_n 1, 1) := by decide +kernel
theorem dX9_town_8 : decode cX9_town 8 = .ok (.iload_n 1, 1) := by decide +kernel
theorem dX9_town_9 : decode cX9_town 9 = .ok (.ifCond .lt 28, 3) := by decide +kernel
theorem dX9_town_12 : decode cX9_town 12 = .ok (.aload_n 0, 1) := by decide +kernel
theorem dX9_town_13 : decode cX9_town 13 = .ok (.getfield 28, 3) := by decide +kernel
theorem dX9_town_16 : decode cX9_town 16 = .ok (.aload_n 0, 1) := by decide +kernel
theorem dX9_town_17 : decode cX9_town 17 = .ok (.getfield 21, 3) := by decide +kernel
theorem dX9_town_20 : decode cX9_town 20 = .ok (.aload_n 0, 1) := by decide +kernel
theorem dX9_town_21 : decode cX9_town 21 = .ok (.getfield 28, 3) := by decide +kernel
theorem dX9_town_24 : decode cX9_town 24 = .ok (.getfield 89, 3) := by decide +kernel
theorem dX9_town_27 : decode cX9_town 27 = .ok (.invokevirtual 93, 3) := by decide +kernel
theorem dX9_town_30 : decode cX9_town 30 = .ok (.putfield 89, 3) := by decide +kernel
theorem dX9_town_33 : decode cX9_town 33 = .ok (.aload_n 0, 1) := by decide +kernel
theorem dX9_town_34 : decode cX9_town 34 = .ok (.invokevirtual 97, 3) := by decide +kernel
theorem dX9_town_37 : decode cX9_town 37 = .ok (.iload_n 1, 1) := by decide +kernel
theorem dX9_town_38 : decode cX9_town 38 = .ok (.ireturn, 1) := by decide +kernel
theorem dX9_house_0 : decode cX9_house 0 = .ok (.aload_n 0, 1) := by decide +kernel
theorem dX9_house_1 : decode cX9_house 1 = .ok (.getfield 28, 3) := by decide +kernel
theorem dX9_house_4 : decode cX9_house 4 = .ok (.iload_n 1, 1) := by decide +kernel
theorem dX9_house_5 : decode cX9_house 5 = .ok (.invokevirtual 100, 3) := by decide +kernel
theorem dX9_house_8 : decode cX9_house 8 = .ok (.ifCond .ne 5, 3) := by decide +kernel
theorem dX9_house_11 : decode cX9_house 11 = .ok (.iconst (-1), 1) := by decide +kernel
theorem dX9_house_12 : decode cX9_house 12 = .ok (.ireturn, 1) := by decide +kernel
theorem dX9_house_13 : decode cX9_house 13 = .ok (.aload_n 0, 1) := by decide +kernel
theorem dX9_house_14 : decode cX9_house 14 = .ok (.getfield 28, 3) := by decide +kernel
theorem dX9_house_17 : decode cX9_house 17 = .ok (.getfield 89, 3) := by decide +kernel
theorem dX9_house_20 : decode cX9_house 20 = .ok (.getfield 104, 3) := by decide +kernel
theorem dX9_house_23 : decode cX9_house 23 = .ok (.iload_n 1, 1) := by decide +kernel
theorem dX9_house_24 : decode cX9_house 24 = .ok (.aaload, 1) := by decide +kernel
theorem dX9_house_25 : decode cX9_house 25 = .ok (.astore_n 3, 1) := by decide +kernel
theorem dX9_house_26 : decode cX9_house 26 = .ok (.iload_n 2, 1) := by decide +kernel
theorem dX9_house_27 : decode cX9_house 27 = .ok (.tableswitch 63 0 4 #[33, 38, 43, 48, 53], 33) := by decide +kernel
theorem dX9_house_60 : decode cX9_house 60 = .ok (.aload_n 3, 1) := by decide +kernel
theorem dX9_house_61 : decode cX9_house 61 = .ok (.getfield 110, 3) := by decide +kernel
theorem dX9_house_64 : decode cX9_house 64 = .ok (.ireturn, 1) := by decide +kernel
theorem dX9_house_65 : decode cX9_house 65 = .ok (.aload_n 3, 1) := by decide +kernel
theorem dX9_house_66 : decode cX9_house 66 = .ok (.getfield 115, 3) := by decide +kernel
theorem dX9_house_69 : decode cX9_house 69 = .ok (.ireturn, 1) := by decide +kernel
theorem dX9_house_70 : decode cX9_house 70 = .ok (.aload_n 3, 1) := by decide +kernel
theorem dX9_house_71 : decode cX9_house 71 = .ok (.getfield 118, 3) := by decide +kernel
theorem dX9_house_74 : decode cX9_house 74 = .ok (.ireturn, 1) := by decide +kernel
theorem dX9_house_75 : decode cX9_house 75 = .ok (.aload_n 3, 1) := by decide +kernel
theorem dX9_house_76 : decode cX9_house 76 = .ok (.getfield 121, 3) := by decide +kernel
theorem dX9_house_79 : decode cX9_house 79 = .ok (.ireturn, 1) := by decide +kernel
theorem dX9_house_80 : decode cX9_house 80 = .ok (.aload_n 0, 1) := by decide +kernel
theorem dX9_house_81 : decode cX9_house 81 = .ok (.getfield 36, 3) := by decide +kernel
theorem dX9_house_84 : decode cX9_house 84 = .ok (.getfield 124, 3) := by decide +kernel
theorem dX9_house_87 : decode cX9_house 87 = .ok (.iload_n 1, 1) := by decide +kernel
theorem dX9_house_88 : decode cX9_house 88 = .ok (.iaload, 1) := by decide +kernel
theorem dX9_house_89 : decode cX9_house 89 = .ok (.ireturn, 1) := by decide +kernel
theorem dX9_house_90 : decode cX9_house 90 = .ok (.iconst (-1), 1) := by decide +kernel
theorem dX9_house_91 : decode cX9_house 91 = .ok (.ireturn, 1) := by decide +kernel
theorem dX9_shows_0 : decode cX9_shows 0 = .ok (.aload_n 0, 1) := by decide +kernel
theorem dX9_shows_1 : decode cX9_shows 1 = .ok (.getfield 28, 3) := by decide +kernel
theorem dX9_shows_4 : decode cX9_shows 4 = .ok (.iload_n 1, 1) := by decide +kernel
theorem dX9_shows_5 : decode cX9_shows 5 = .ok (.invokevirtual 100, 3) := by decide +kernel
theorem dX9_shows_8 : decode cX9_shows 8 = .ok (.ifCond .eq 22, 3) := by decide +kernel
theorem dX9_shows_11 : decode cX9_shows 11 = .ok (.iload_n 2, 1) := by decide +kernel
theorem dX9_shows_12 : decode cX9_shows 12 = .ok (.invokestatic 128, 3) := by decide +kernel
theorem dX9_shows_15 : decode cX9_shows 15 = .ok (.ifCond .eq 15, 3) := by decide +kernel
theorem dX9_shows_18 : decode cX9_shows 18 = .ok (.aload_n 0, 1) := by decide +kernel
theorem dX9_shows_19 : decode cX9_shows 19 = .ok (.getfield 28, 3) := by decide +kernel
theorem dX9_shows_22 : decode cX9_shows 22 = .ok (.iload_n 1, 1) := by decide +kernel
theorem dX9_shows_23 : decode cX9_shows 23 = .ok (.iload_n 2, 1) := by decide +kernel
theorem dX9_shows_24 : decode cX9_shows 24 = .ok (.invokevirtual 131, 3) := by decide +kernel
theorem dX9_shows_27 : decode cX9_shows 27 = .ok (.goto 4, 3) := by decide +kernel
theorem dX9_shows_30 : decode cX9_shows 30 = .ok (.iconst (-1), 1) := by decide +kernel
theorem dX9_shows_31 : decode cX9_shows 31 = .ok (.ireturn, 1) := by decide +kernel
theorem dX9_first_0 : decode cX9_first 0 = .ok (.aload_n 0, 1) := by decide +kernel
theorem dX9_first_1 : decode cX9_first 1 = .ok (.getfield 28, 3) := by decide +kernel
theorem dX9_first_4 : decode cX9_first 4 = .ok (.iload_n 1, 1) := by decide +kernel
theorem dX9_first_5 : decode cX9_first 5 = .ok (.invokevirtual 100, 3) := by decide +kernel
theorem dX9_first_8 : decode cX9_first 8 = .ok (.ifCond .eq 30, 3) := by decide +kernel
theorem dX9_first_11 : decode cX9_first 11 = .ok (.iload_n 2, 1) := by decide +kernel
theorem dX9_first_12 : decode cX9_first 12 = .ok (.invokestatic 135, 3) := by decide +kernel
theorem dX9_first_15 : decode cX9_first 15 = .ok (.ifCond .eq 23, 3) := by decide +kernel
theorem dX9_first_18 : decode cX9_first 18 = .ok (.iload_n 3, 1) := by decide +kernel
theorem dX9_first_19 : decode cX9_first 19 = .ok (.invokestatic 128, 3) := by decide +kernel
theorem dX9_first_22 : decode cX9_first 22 = .ok (.ifCond .eq 16, 3) := by decide +kernel
theorem dX9_first_25 : decode cX9_first 25 = .ok (.aload_n 0, 1) := by decide +kernel
theorem dX9_first_26 : decode cX9_first 26 = .ok (.getfield 28, 3) := by decide +kernel
theorem dX9_first_29 : decode cX9_first 29 = .ok (.iload_n 1, 1) := by decide +kernel
theorem dX9_first_30 : decode cX9_first 30 = .ok (.iload_n 2, 1) := by decide +kernel
theorem dX9_first_31 : decode cX9_first 31 = .ok (.iload_n 3, 1) := by decide +kernel
theorem dX9_first_32 : decode cX9_first 32 = .ok (.invokevirtual 138, 3) := by decide +kernel
theorem dX9_first_35 : decode cX9_first 35 = .ok (.goto 4, 3) := by decide +kernel
theorem dX9_first_38 : decode cX9_first 38 = .ok (.iconst (-1), 1) := by decide +kernel
theorem dX9_first_39 : decode cX9_first 39 = .ok (.ireturn, 1) := by decide +kernel
theorem dX9_many_0 : decode cX9_many 0 = .ok (.aload_n 0, 1) := by decide +kernel
theorem dX9_many_1 : decode cX9_many 1 = .ok (.getfield 28, 3) := by decide +kernel
theorem dX9_many_4 : decode cX9_many 4 = .ok (.iload_n 1, 1) := by decide +kernel
theorem dX9_many_5 : decode cX9_many 5 = .ok (.invokevirtual 100, 3) := by decide +kernel
theorem dX9_many_8 : decode cX9_many 8 = .ok (.ifCond .ne 5, 3) := by decide +kernel
theorem dX9_many_11 : decode cX9_many 11 = .ok (.iconst (-1), 1) := by decide +kernel
theorem dX9_many_12 : decode cX9_many 12 = .ok (.ireturn, 1) := by decide +kernel
theorem dX9_many_13 : decode cX9_many 13 = .ok (.iload_n 2, 1) := by decide +kernel
theorem dX9_many_14 : decode cX9_many 14 = .ok (.iconst (-1), 1) := by decide +kernel
theorem dX9_many_15 : decode cX9_many 15 = .ok (.if_icmp .ne 18, 3) := by decide +kernel
theorem dX9_many_18 : decode cX9_many 18 = .ok (.bipush 48, 2) := by decide +kernel
theorem dX9_many_20 : decode cX9_many 20 = .ok (.aload_n 0, 1) := by decide +kernel
theorem dX9_many_21 : decode cX9_many 21 = .ok (.getfield 28, 3) := by decide +kernel
theorem dX9_many_24 : decode cX9_many 24 = .ok (.iload_n 1, 1) := by decide +kernel
theorem dX9_many_25 : decode cX9_many 25 = .ok (.invokevirtual 142, 3) := by decide +kernel
theorem dX9_many_28 : decode cX9_many 28 = .ok (.invokestatic 146, 3) := by decide +kernel
theorem dX9_many_31 : decode cX9_many 31 = .ok (.isub, 1) := by decide +kernel
theorem dX9_many_32 : decode cX9_many 32 = .ok (.ireturn, 1) := by decide +kernel
theorem dX9_many_33 : decode cX9_many 33 = .ok (.iload_n 2, 1) := by decide +kernel
theorem dX9_many_34 : decode cX9_many 34 = .ok (.invokestatic 135, 3) := by decide +kernel
theorem dX9_many_37 : decode cX9_many 37 = .ok (.ifCond .eq 15, 3) := by decide +kernel
theorem dX9_many_40 : decode cX9_many 40 = .ok (.aload_n 0, 1) := by decide +kernel
theorem dX9_many_41 : decode cX9_many 41 = .ok (.getfield 28, 3) := by decide +kernel
theorem dX9_many_44 : decode cX9_many 44 = .ok (.iload_n 1, 1) := by decide +kernel
theorem dX9_many_45 : decode cX9_many 45 = .ok (.iload_n 2, 1) := by decide +kernel
theorem dX9_many_46 : decode cX9_many 46 = .ok (.invokevirtual 152, 3) := by decide +kernel
theorem dX9_many_49 : decode cX9_many 49 = .ok (.goto 4, 3) := by decide +kernel
theorem dX9_many_52 : decode cX9_many 52 = .ok (.iconst (-1), 1) := by decide +kernel
theorem dX9_many_53 : decode cX9_many 53 = .ok (.ireturn, 1) := by decide +kernel
theorem dX9_there_0 : decode cX9_there 0 = .ok (.aload_n 0, 1) := by decide +kernel
theorem dX9_there_1 : decode cX9_there 1 = .ok (.getfield 28, 3) := by decide +kernel
theorem dX9_there_4 : decode cX9_there 4 = .ok (.iload_n 1, 1) := by decide +kernel
theorem dX9_there_5 : decode cX9_there 5 = .ok (.invokevirtual 100, 3) := by decide +kernel
theorem dX9_there_8 : decode cX9_there 8 = .ok (.ifCond .eq 21, 3) := by decide +kernel
theorem dX9_there_11 : decode cX9_there 11 = .ok (.aload_n 0, 1) := by decide +kernel
theorem dX9_there_12 : decode cX9_there 12 = .ok (.getfield 28, 3) := by decide +kernel
theorem dX9_there_15 : decode cX9_there 15 = .ok (.iload_n 3, 1) := by decide +kernel
theorem dX9_there_16 : decode cX9_there 16 = .ok (.invokevirtual 100, 3) := by decide +kernel
theorem dX9_there_19 : decode cX9_there 19 = .ok (.ifCond .eq 10, 3) := by decide +kernel
theorem dX9_there_22 : decode cX9_there 22 = .ok (.iload_n 2, 1) := by decide +kernel
theorem dX9_there_23 : decode cX9_there 23 = .ok (.invokestatic 135, 3) := by decide +kernel
theorem dX9_there_26 : decode cX9_there 26 = .ok (.ifCond .ne 5, 3) := by decide +kernel
theorem dX9_there_29 : decode cX9_there 29 = .ok (.iconst (-1), 1) := by decide +kernel
theorem dX9_there_30 : decode cX9_there 30 = .ok (.ireturn, 1) := by decide +kernel
theorem dX9_there_31 : decode cX9_there 31 = .ok (.aload_n 0, 1) := by decide +kernel
theorem dX9_there_32 : decode cX9_there 32 = .ok (.getfield 28, 3) := by decide +kernel
theorem dX9_there_35 : decode cX9_there 35 = .ok (.iload_n 1, 1) := by decide +kernel
theorem dX9_there_36 : decode cX9_there 36 = .ok (.iload_n 2, 1) := by decide +kernel
theorem dX9_there_37 : decode cX9_there 37 = .ok (.iconst 0, 1) := by decide +kernel
theorem dX9_there_38 : decode cX9_there 38 = .ok (.invokevirtual 138, 3) := by decide +kernel
theorem dX9_there_41 : decode cX9_there 41 = .ok (.istore 4, 2) := by decide +kernel
theorem dX9_there_43 : decode cX9_there 43 = .ok (.iload 4, 2) := by decide +kernel
theorem dX9_there_45 : decode cX9_there 45 = .ok (.bipush (-9), 2) := by decide +kernel
theorem dX9_there_47 : decode cX9_there 47 = .ok (.if_icmp .ne 8, 3) := by decide +kernel
theorem dX9_there_50 : decode cX9_there 50 = .ok (.bipush (-9), 2) := by decide +kernel
theorem dX9_there_52 : decode cX9_there 52 = .ok (.goto 13, 3) := by decide +kernel
theorem dX9_there_55 : decode cX9_there 55 = .ok (.aload_n 0, 1) := by decide +kernel
theorem dX9_there_56 : decode cX9_there 56 = .ok (.getfield 28, 3) := by decide +kernel
theorem dX9_there_59 : decode cX9_there 59 = .ok (.iload_n 3, 1) := by decide +kernel
theorem dX9_there_60 : decode cX9_there 60 = .ok (.iload 4, 2) := by decide +kernel
theorem dX9_there_62 : decode cX9_there 62 = .ok (.invokevirtual 131, 3) := by decide +kernel
theorem dX9_there_65 : decode cX9_there 65 = .ok (.ireturn, 1) := by decide +kernel
theorem dX9_early_0 : decode cX9_early 0 = .ok (.aload_n 0, 1) := by decide +kernel
theorem dX9_early_1 : decode cX9_early 1 = .ok (.getfield 28, 3) := by decide +kernel
theorem dX9_early_4 : decode cX9_early 4 = .ok (.iload_n 1, 1) := by decide +kernel
theorem dX9_early_5 : decode cX9_early 5 = .ok (.iload_n 2, 1) := by decide +kernel
theorem dX9_early_6 : decode cX9_early 6 = .ok (.invokevirtual 155, 3) := by decide +kernel
theorem dX9_early_9 : decode cX9_early 9 = .ok (.ifCond .ne 5, 3) := by decide +kernel
theorem dX9_early_12 : decode cX9_early 12 = .ok (.iconst (-1), 1) := by decide +kernel
theorem dX9_early_13 : decode cX9_early 13 = .ok (.ireturn, 1) := by decide +kernel
theorem dX9_early_14 : decode cX9_early 14 = .ok (.iload_n 3, 1) := by decide +kernel
theorem dX9_early_15 : decode cX9_early 15 = .ok (.lookupswitch 45 #[(0, 25), (1, 35)], 25) := by decide +kernel
theorem dX9_early_40 : decode cX9_early 40 = .ok (.aload_n 0, 1) := by decide +kernel
theorem dX9_early_41 : decode cX9_early 41 = .ok (.getfield 28, 3) := by decide +kernel
theorem dX9_early_44 : decode cX9_early 44 = .ok (.iload_n 1, 1) := by decide +kernel
theorem dX9_early_45 : decode cX9_early 45 = .ok (.iload_n 2, 1) := by decide +kernel
theorem dX9_early_46 : decode cX9_early 46 = .ok (.invokevirtual 159, 3) := by decide +kernel
theorem dX9_early_49 : decode cX9_early 49 = .ok (.ireturn, 1) := by decide +kernel
theorem dX9_early_50 : decode cX9_early 50 = .ok (.aload_n 0, 1) := by decide +kernel
theorem dX9_early_51 : decode cX9_early 51 = .ok (.getfield 28, 3) := by decide +kernel
theorem dX9_early_54 : decode cX9_early 54 = .ok (.iload_n 1, 1) := by decide +kernel
theorem dX9_early_55 : decode cX9_early 55 = .ok (.iload_n 2, 1) := by decide +kernel
theorem dX9_early_56 : decode cX9_early 56 = .ok (.invokevirtual 162, 3) := by decide +kernel
theorem dX9_early_59 : decode cX9_early 59 = .ok (.ireturn, 1) := by decide +kernel
theorem dX9_early_60 : decode cX9_early 60 = .ok (.iconst (-1), 1) := by decide +kernel
theorem dX9_early_61 : decode cX9_early 61 = .ok (.ireturn, 1) := by decide +kernel
theorem dX9_go_0 : decode cX9_go 0 = .ok (.iload_n 1, 1) := by decide +kernel
theorem dX9_go_1 : decode cX9_go 1 = .ok (.iconst 1, 1) := by decide +kernel
theorem dX9_go_2 : decode cX9_go 2 = .ok (.bipush 95, 2) := by decide +kernel
theorem dX9_go_4 : decode cX9_go 4 = .ok (.invokestatic 73, 3) := by decide +kernel
theorem dX9_go_7 : decode cX9_go 7 = .ok (.ifCond .ne 5, 3) := by decide +kernel
theorem dX9_go_10 : decode cX9_go 10 = .ok (.iconst (-1), 1) := by decide +kernel
theorem dX9_go_11 : decode cX9_go 11 = .ok (.ireturn, 1) := by decide +kernel
theorem dX9_go_12 : decode cX9_go 12 = .ok (.aload_n 0, 1) := by decide +kernel
theorem dX9_go_13 : decode cX9_go 13 = .ok (.getfield 36, 3) := by decide +kernel
theorem dX9_go_16 : decode cX9_go 16 = .ok (.getfield 165, 3) := by decide +kernel
theorem dX9_go_19 : decode cX9_go 19 = .ok (.iload_n 1, 1) := by decide +kernel
theorem dX9_go_20 : decode cX9_go 20 = .ok (.iadd, 1) := by decide +kernel
theorem dX9_go_21 : decode cX9_go 21 = .ok (.bipush 95, 2) := by decide +kernel
theorem dX9_go_23 : decode cX9_go 23 = .ok (.if_icmp .le 6, 3) := by decide +kernel
theorem dX9_go_26 : decode cX9_go 26 = .ok (.bipush (-2), 2) := by decide +kernel
theorem dX9_go_28 : decode cX9_go 28 = .ok (.ireturn, 1) := by decide +kernel
theorem dX9_go_29 : decode cX9_go 29 = .ok (.aload_n 0, 1) := by decide +kernel
theorem dX9_go_30 : decode cX9_go 30 = .ok (.getfield 36, 3) := by decide +kernel
theorem dX9_go_33 : decode cX9_go 33 = .ok (.dup, 1) := by decide +kernel
theorem dX9_go_34 : decode cX9_go 34 = .ok (.getfield 165, 3) := by decide +kernel
theorem dX9_go_37 : decode cX9_go 37 = .ok (.iload_n 1, 1) := by decide +kernel
theorem dX9_go_38 : decode cX9_go 38 = .ok (.iadd, 1) := by decide +kernel
theorem dX9_go_39 : decode cX9_go 39 = .ok (.putfield 165, 3) := by decide +kernel
theorem dX9_go_42 : decode cX9_go 42 = .ok (.aload_n 0, 1) := by decide +kernel
theorem dX9_go_43 : decode cX9_go 43 = .ok (.getfield 36, 3) := by decide +kernel
theorem dX9_go_46 : decode cX9_go 46 = .ok (.getfield 165, 3) := by decide +kernel
theorem dX9_go_49 : decode cX9_go 49 = .ok (.ireturn, 1) := by decide +kernel
theorem dX9_turn_0 : decode cX9_turn 0 = .ok (.aload_n 0, 1) := by decide +kernel
theorem dX9_turn_1 : decode cX9_turn 1 = .ok (.getfield 28, 3) := by decide +kernel
theorem dX9_turn_4 : decode cX9_turn 4 = .ok (.iload_n 1, 1) := by decide +kernel
theorem dX9_turn_5 : decode cX9_turn 5 = .ok (.invokevirtual 100, 3) := by decide +kernel
theorem dX9_turn_8 : decode cX9_turn 8 = .ok (.ifCond .eq 13, 3) := by decide +kernel
theorem dX9_turn_11 : decode cX9_turn 11 = .ok (.iload_n 2, 1) := by decide +kernel
theorem dX9_turn_12 : decode cX9_turn 12 = .ok (.iconst 1, 1) := by decide +kernel
theorem dX9_turn_13 : decode cX9_turn 13 = .ok (.bipush 47, 2) := by decide +kernel
theorem dX9_turn_15 : decode cX9_turn 15 = .ok (.invokestatic 73, 3) := by decide +kernel
theorem dX9_turn_18 : decode cX9_turn 18 = .ok (.ifCond .ne 5, 3) := by decide +kernel
theorem dX9_turn_21 : decode cX9_turn 21 = .ok (.iconst (-1), 1) := by decide +kernel
theorem dX9_turn_22 : decode cX9_turn 22 = .ok (.ireturn, 1) := by decide +kernel
theorem dX9_turn_23 : decode cX9_turn 23 = .ok (.aload_n 0, 1) := by decide +kernel
theorem dX9_turn_24 : decode cX9_turn 24 = .ok (.getfield 36, 3) := by decide +kernel
theorem dX9_turn_27 : decode cX9_turn 27 = .ok (.iload_n 1, 1) := by decide +kernel
theorem dX9_turn_28 : decode cX9_turn 28 = .ok (.iload_n 2, 1) := by decide +kernel
theorem dX9_turn_29 : decode cX9_turn 29 = .ok (.invokevirtual 168, 3) := by decide +kernel
theorem dX9_turn_32 : decode cX9_turn 32 = .ok (.aload_n 0, 1) := by decide +kernel
theorem dX9_turn_33 : decode cX9_turn 33 = .ok (.getfield 28, 3) := by decide +kernel
theorem dX9_turn_36 : decode cX9_turn 36 = .ok (.iload_n 1, 1) := by decide +kernel
theorem dX9_turn_37 : decode cX9_turn 37 = .ok (.invokevirtual 172, 3) := by decide +kernel
theorem dX9_turn_40 : decode cX9_turn 40 = .ok (.ireturn, 1) := by decide +kernel
theorem dX9_undo_0 : decode cX9_undo 0 = .ok (.aload_n 0, 1) := by decide +kernel
theorem dX9_undo_1 : decode cX9_undo 1 = .ok (.getfield 36, 3) := by decide +kernel
theorem dX9_undo_4 : decode cX9_undo 4 = .ok (.getfield 176, 3) := by decide +kernel
theorem dX9_undo_7 : decode cX9_undo 7 = .ok (.ifCond .ne 8, 3) := by decide +kernel
theorem dX9_undo_10 : decode cX9_undo 10 = .ok (.bipush (-2), 2) := by decide +kernel
theorem dX9_undo_12 : decode cX9_undo 12 = .ok (.goto 10, 3) := by decide +kernel
theorem dX9_undo_15 : decode cX9_undo 15 = .ok (.aload_n 0, 1) := by decide +kernel
theorem dX9_undo_16 : decode cX9_undo 16 = .ok (.getfield 36, 3) := by decide +kernel
theorem dX9_undo_19 : decode cX9_undo 19 = .ok (.invokevirtual 179, 3) := by decide +kernel
theorem dX9_undo_22 : decode cX9_undo 22 = .ok (.ireturn, 1) := by decide +kernel
theorem dX9_errand_0 : decode cX9_errand 0 = .ok (.aload_n 0, 1) := by decide +kernel
theorem dX9_errand_1 : decode cX9_errand 1 = .ok (.getfield 28, 3) := by decide +kernel
theorem dX9_errand_4 : decode cX9_errand 4 = .ok (.iload_n 1, 1) := by decide +kernel
theorem dX9_errand_5 : decode cX9_errand 5 = .ok (.invokevirtual 100, 3) := by decide +kernel
theorem dX9_errand_8 : decode cX9_errand 8 = .ok (.ifCond .eq 28, 3) := by decide +kernel
theorem dX9_errand_11 : decode cX9_errand 11 = .ok (.iload_n 2, 1) := by decide +kernel
theorem dX9_errand_12 : decode cX9_errand 12 = .ok (.invokestatic 135, 3) := by decide +kernel
theorem dX9_errand_15 : decode cX9_errand 15 = .ok (.ifCond .eq 21, 3) := by decide +kernel
theorem dX9_errand_18 : decode cX9_errand 18 = .ok (.iload_n 3, 1) := by decide +kernel
theorem dX9_errand_19 : decode cX9_errand 19 = .ok (.invokestatic 135, 3) := by decide +kernel
theorem dX9_errand_22 : decode cX9_errand 22 = .ok (.ifCond .eq 14, 3) := by decide +kernel
theorem dX9_errand_25 : decode cX9_errand 25 = .ok (.iload 4, 2) := by decide +kernel
theorem dX9_errand_27 : decode cX9_errand 27 = .ok (.iconst 0, 1) := by decide +kernel
theorem dX9_errand_28 : decode cX9_errand 28 = .ok (.bipush 9, 2) := by decide +kernel
theorem dX9_errand_30 : decode cX9_errand 30 = .ok (.invokestatic 73, 3) := by decide +kernel
theorem dX9_errand_33 : decode cX9_errand 33 = .ok (.ifCond .ne 5, 3) := by decide +kernel
theorem dX9_errand_36 : decode cX9_errand 36 = .ok (.iconst (-1), 1) := by decide +kernel
theorem dX9_errand_37 : decode cX9_errand 37 = .ok (.ireturn, 1) := by decide +kernel
theorem dX9_errand_38 : decode cX9_errand 38 = .ok (.aload_n 0, 1) := by decide +kernel
theorem dX9_errand_39 : decode cX9_errand 39 = .ok (.getfield 44, 3) := by decide +kernel
theorem dX9_errand_42 : decode cX9_errand 42 = .ok (.getfield 182, 3) := by decide +kernel
theorem dX9_errand_45 : decode cX9_errand 45 = .ok (.iconst 4, 1) := by decide +kernel
theorem dX9_errand_46 : decode cX9_errand 46 = .ok (.if_icmp .lt 6, 3) := by decide +kernel
theorem dX9_errand_49 : decode cX9_errand 49 = .ok (.bipush (-3), 2) := by decide +kernel
theorem dX9_errand_51 : decode cX9_errand 51 = .ok (.ireturn, 1) := by decide +kernel
theorem dX9_errand_52 : decode cX9_errand 52 = .ok (.aload_n 0, 1) := by decide +kernel
theorem dX9_errand_53 : decode cX9_errand 53 = .ok (.getfield 44, 3) := by decide +kernel
theorem dX9_errand_56 : decode cX9_errand 56 = .ok (.iload_n 1, 1) := by decide +kernel
theorem dX9_errand_57 : decode cX9_errand 57 = .ok (.iload_n 2, 1) := by decide +kernel
theorem dX9_errand_58 : decode cX9_errand 58 = .ok (.iload_n 3, 1) := by decide +kernel
theorem dX9_errand_59 : decode cX9_errand 59 = .ok (.iload 4, 2) := by decide +kernel
theorem dX9_errand_61 : decode cX9_errand 61 = .ok (.invokevirtual 185, 3) := by decide +kernel
theorem dX9_errand_64 : decode cX9_errand 64 = .ok (.aload_n 0, 1) := by decide +kernel
theorem dX9_errand_65 : decode cX9_errand 65 = .ok (.getfield 44, 3) := by decide +kernel
theorem dX9_errand_68 : decode cX9_errand 68 = .ok (.getfield 182, 3) := by decide +kernel
theorem dX9_errand_71 : decode cX9_errand 71 = .ok (.ireturn, 1) := by decide +kernel
theorem dX9_rests_0 : decode cX9_rests 0 = .ok (.aload_n 0, 1) := by decide +kernel
theorem dX9_rests_1 : decode cX9_rests 1 = .ok (.getfield 44, 3) := by decide +kernel
theorem dX9_rests_4 : decode cX9_rests 4 = .ok (.getfield 182, 3) := by decide +kernel
theorem dX9_rests_7 : decode cX9_rests 7 = .ok (.istore_n 1, 1) := by decide +kernel
theorem dX9_rests_8 : decode cX9_rests 8 = .ok (.aload_n 0, 1) := by decide +kernel
theorem dX9_rests_9 : decode cX9_rests 9 = .ok (.getfield 44, 3) := by decide +kernel
theorem dX9_rests_12 : decode cX9_rests 12 = .ok (.iconst 0, 1) := by decide +kernel
theorem dX9_rests_13 : decode cX9_rests 13 = .ok (.putfield 182, 3) := by decide +kernel
theorem dX9_rests_16 : decode cX9_rests 16 = .ok (.iload_n 1, 1) := by decide +kernel
theorem dX9_rests_17 : decode cX9_rests 17 = .ok (.ireturn, 1) := by decide +kernel
theorem dX9_soonest_0 : decode cX9_soonest 0 = .ok (.aload_n 0, 1) := by decide +kernel
theorem dX9_soonest_1 : decode cX9_soonest 1 = .ok (.getfield 28, 3) := by decide +kernel
theorem dX9_soonest_4 : decode cX9_soonest 4 = .ok (.iload_n 1, 1) := by decide +kernel
theorem dX9_soonest_5 : decode cX9_soonest 5 = .ok (.invokevirtual 100, 3) := by decide +kernel
theorem dX9_soonest_8 : decode cX9_soonest 8 = .ok (.ifCond .eq 8, 3) := by decide +kernel
theorem dX9_soonest_11 : decode cX9_soonest 11 = .ok (.iload_n 2, 1) := by decide +kernel
theorem dX9_soonest_12 : decode cX9_soonest 12 = .ok (.iconst (-1), 1) := by decide +kernel
theorem dX9_soonest_13 : decode cX9_soonest 13 = .ok (.if_icmp .ge 5, 3) := by decide +kernel
theorem dX9_soonest_16 : decode cX9_soonest 16 = .ok (.iconst (-1), 1) := by decide +kernel
theorem dX9_soonest_17 : decode cX9_soonest 17 = .ok (.ireturn, 1) := by decide +kernel
theorem dX9_soonest_18 : decode cX9_soonest 18 = .ok (.aload_n 0, 1) := by decide +kernel
theorem dX9_soonest_19 : decode cX9_soonest 19 = .ok (.getfield 44, 3) := by decide +kernel
theorem dX9_soonest_22 : decode cX9_soonest 22 = .ok (.iload_n 1, 1) := by decide +kernel
theorem dX9_soonest_23 : decode cX9_soonest 23 = .ok (.invokevirtual 188, 3) := by decide +kernel
theorem dX9_soonest_26 : decode cX9_soonest 26 = .ok (.istore_n 3, 1) := by decide +kernel
theorem dX9_soonest_27 : decode cX9_soonest 27 = .ok (.iload_n 3, 1) := by decide +kernel
theorem dX9_soonest_28 : decode cX9_soonest 28 = .ok (.bipush (-9), 2) := by decide +kernel
theorem dX9_soonest_30 : decode cX9_soonest 30 = .ok (.if_icmp .ne 6, 3) := by decide +kernel
theorem dX9_soonest_33 : decode cX9_soonest 33 = .ok (.bipush (-9), 2) := by decide +kernel
theorem dX9_soonest_35 : decode cX9_soonest 35 = .ok (.ireturn, 1) := by decide +kernel
theorem dX9_soonest_36 : decode cX9_soonest 36 = .ok (.iload_n 2, 1) := by decide +kernel
theorem dX9_soonest_37 : decode cX9_soonest 37 = .ok (.iconst (-1), 1) := by decide +kernel
theorem dX9_soonest_38 : decode cX9_soonest 38 = .ok (.if_icmp .ne 13, 3) := by decide +kernel
theorem dX9_soonest_41 : decode cX9_soonest 41 = .ok (.aload_n 0, 1) := by decide +kernel
theorem dX9_soonest_42 : decode cX9_soonest 42 = .ok (.getfield 44, 3) := by decide +kernel
theorem dX9_soonest_45 : decode cX9_soonest 45 = .ok (.iload_n 3, 1) := by decide +kernel
theorem dX9_soonest_46 : decode cX9_soonest 46 = .ok (.iload_n 1, 1) := by decide +kernel
theorem dX9_soonest_47 : decode cX9_soonest 47 = .ok (.invokevirtual 191, 3) := by decide +kernel
theorem dX9_soonest_50 : decode cX9_soonest 50 = .ok (.ireturn, 1) := by decide +kernel
theorem dX9_soonest_51 : decode cX9_soonest 51 = .ok (.iload_n 2, 1) := by decide +kernel
theorem dX9_soonest_52 : decode cX9_soonest 52 = .ok (.aload_n 0, 1) := by decide +kernel
theorem dX9_soonest_53 : decode cX9_soonest 53 = .ok (.getfield 44, 3) := by decide +kernel
theorem dX9_soonest_56 : decode cX9_soonest 56 = .ok (.getfield 182, 3) := by decide +kernel
theorem dX9_soonest_59 : decode cX9_soonest 59 = .ok (.if_icmp .ge 15, 3) := by decide +kernel
theorem dX9_soonest_62 : decode cX9_soonest 62 = .ok (.aload_n 0, 1) := by decide +kernel
theorem dX9_soonest_63 : decode cX9_soonest 63 = .ok (.getfield 44, 3) := by decide +kernel
theorem dX9_soonest_66 : decode cX9_soonest 66 = .ok (.iload_n 3, 1) := by decide +kernel
theorem dX9_soonest_67 : decode cX9_soonest 67 = .ok (.iload_n 2, 1) := by decide +kernel
theorem dX9_soonest_68 : decode cX9_soonest 68 = .ok (.invokevirtual 194, 3) := by decide +kernel
theorem dX9_soonest_71 : decode cX9_soonest 71 = .ok (.goto 5, 3) := by decide +kernel
theorem dX9_soonest_74 : decode cX9_soonest 74 = .ok (.bipush (-5), 2) := by decide +kernel
theorem dX9_soonest_76 : decode cX9_soonest 76 = .ok (.ireturn, 1) := by decide +kernel
theorem dX9_party_0 : decode cX9_party 0 = .ok (.iload_n 1, 1) := by decide +kernel
theorem dX9_party_1 : decode cX9_party 1 = .ok (.iconst (-1), 1) := by decide +kernel
theorem dX9_party_2 : decode cX9_party 2 = .ok (.if_icmp .ne 11, 3) := by decide +kernel
theorem dX9_party_5 : decode cX9_party 5 = .ok (.aload_n 0, 1) := by decide +kernel
theorem dX9_party_6 : decode cX9_party 6 = .ok (.getfield 28, 3) := by decide +kernel
theorem dX9_party_9 : decode cX9_party 9 = .ok (.invokevirtual 197, 3) := by decide +kernel
theorem dX9_party_12 : decode cX9_party 12 = .ok (.ireturn, 1) := by decide +kernel
theorem dX9_party_13 : decode cX9_party 13 = .ok (.iload_n 1, 1) := by decide +kernel
theorem dX9_party_14 : decode cX9_party 14 = .ok (.invokestatic 135, 3) := by decide +kernel
theorem dX9_party_17 : decode cX9_party 17 = .ok (.ifCond .eq 14, 3) := by decide +kernel
theorem dX9_party_20 : decode cX9_party 20 = .ok (.aload_n 0, 1) := by decide +kernel
theorem dX9_party_21 : decode cX9_party 21 = .ok (.getfield 28, 3) := by decide +kernel
theorem dX9_party_24 : decode cX9_party 24 = .ok (.iload_n 1, 1) := by decide +kernel
theorem dX9_party_25 : decode cX9_party 25 = .ok (.invokevirtual 200, 3) := by decide +kernel
theorem dX9_party_28 : decode cX9_party 28 = .ok (.goto 4, 3) := by decide +kernel
theorem dX9_party_31 : decode cX9_party 31 = .ok (.iconst (-1), 1) := by decide +kernel
theorem dX9_party_32 : decode cX9_party 32 = .ok (.ireturn, 1) := by decide +kernel
theorem dX9_treaty_0 : decode cX9_treaty 0 = .ok (.aload_n 0, 1) := by decide +kernel
theorem dX9_treaty_1 : decode cX9_treaty 1 = .ok (.getfield 28, 3) := by decide +kernel
theorem dX9_treaty_4 : decode cX9_treaty 4 = .ok (.iload_n 1, 1) := by decide +kernel
theorem dX9_treaty_5 : decode cX9_treaty 5 = .ok (.iload_n 2, 1) := by decide +kernel
theorem dX9_treaty_6 : decode cX9_treaty 6 = .ok (.invokevirtual 155, 3) := by decide +kernel
theorem dX9_treaty_9 : decode cX9_treaty 9 = .ok (.ifCond .eq 12, 3) := by decide +kernel
theorem dX9_treaty_12 : decode cX9_treaty 12 = .ok (.iload_n 3, 1) := by decide +kernel
theorem dX9_treaty_13 : decode cX9_treaty 13 = .ok (.iconst 0, 1) := by decide +kernel
theorem dX9_treaty_14 : decode cX9_treaty 14 = .ok (.iconst 1, 1) := by decide +kernel
theorem dX9_treaty_15 : decode cX9_treaty 15 = .ok (.invokestatic 73, 3) := by decide +kernel
theorem dX9_treaty_18 : decode cX9_treaty 18 = .ok (.ifCond .ne 5, 3) := by decide +kernel
theorem dX9_treaty_21 : decode cX9_treaty 21 = .ok (.iconst (-1), 1) := by decide +kernel
theorem dX9_treaty_22 : decode cX9_treaty 22 = .ok (.ireturn, 1) := by decide +kernel
theorem dX9_treaty_23 : decode cX9_treaty 23 = .ok (.aload_n 0, 1) := by decide +kernel
theorem dX9_treaty_24 : decode cX9_treaty 24 = .ok (.getfield 28, 3) := by decide +kernel
theorem dX9_treaty_27 : decode cX9_treaty 27 = .ok (.iload_n 1, 1) := by decide +kernel
theorem dX9_treaty_28 : decode cX9_treaty 28 = .ok (.iload_n 2, 1) := by decide +kernel
theorem dX9_treaty_29 : decode cX9_treaty 29 = .ok (.invokevirtual 203, 3) := by decide +kernel
theorem dX9_treaty_32 : decode cX9_treaty 32 = .ok (.aload_n 0, 1) := by decide +kernel
theorem dX9_treaty_33 : decode cX9_treaty 33 = .ok (.getfield 28, 3) := by decide +kernel
theorem dX9_treaty_36 : decode cX9_treaty 36 = .ok (.invokevirtual 206, 3) := by decide +kernel
theorem dX9_treaty_39 : decode cX9_treaty 39 = .ok (.istore 4, 2) := by decide +kernel
theorem dX9_treaty_41 : decode cX9_treaty 41 = .ok (.iload_n 3, 1) := by decide +kernel
theorem dX9_treaty_42 : decode cX9_treaty 42 = .ok (.ifCond .ne 8, 3) := by decide +kernel
theorem dX9_treaty_45 : decode cX9_treaty 45 = .ok (.iload 4, 2) := by decide +kernel
theorem dX9_treaty_47 : decode cX9_treaty 47 = .ok (.goto 13, 3) := by decide +kernel
theorem dX9_treaty_50 : decode cX9_treaty 50 = .ok (.aload_n 0, 1) := by decide +kernel
theorem dX9_treaty_51 : decode cX9_treaty 51 = .ok (.getfield 28, 3) := by decide +kernel
theorem dX9_treaty_54 : decode cX9_treaty 54 = .ok (.getfield 209, 3) := by decide +kernel
theorem dX9_treaty_57 : decode cX9_treaty 57 = .ok (.iload 4, 2) := by decide +kernel
theorem dX9_treaty_59 : decode cX9_treaty 59 = .ok (.iaload, 1) := by decide +kernel
theorem dX9_treaty_60 : decode cX9_treaty 60 = .ok (.ireturn, 1) := by decide +kernel
theorem dX9_saw_0 : decode cX9_saw 0 = .ok (.iload_n 1, 1) := by decide +kernel
theorem dX9_saw_1 : decode cX9_saw 1 = .ok (.invokestatic 128, 3) := by decide +kernel
theorem dX9_saw_4 : decode cX9_saw 4 = .ok (.ifCond .eq 10, 3) := by decide +kernel
theorem dX9_saw_7 : decode cX9_saw 7 = .ok (.iload_n 2, 1) := by decide +kernel
theorem dX9_saw_8 : decode cX9_saw 8 = .ok (.invokestatic 135, 3) := by decide +kernel
theorem dX9_saw_11 : decode cX9_saw 11 = .ok (.ifCond .ne 5, 3) := by decide +kernel
theorem dX9_saw_14 : decode cX9_saw 14 = .ok (.iconst (-1), 1) := by decide +kernel
theorem dX9_saw_15 : decode cX9_saw 15 = .ok (.ireturn, 1) := by decide +kernel
theorem dX9_saw_16 : decode cX9_saw 16 = .ok (.aload_n 0, 1) := by decide +kernel
theorem dX9_saw_17 : decode cX9_saw 17 = .ok (.getfield 51, 3) := by decide +kernel
theorem dX9_saw_20 : decode cX9_saw 20 = .ok (.getfield 212, 3) := by decide +kernel
theorem dX9_saw_23 : decode cX9_saw 23 = .ok (.bipush 8, 2) := by decide +kernel
theorem dX9_saw_25 : decode cX9_saw 25 = .ok (.if_icmp .lt 6, 3) := by decide +kernel
theorem dX9_saw_28 : decode cX9_saw 28 = .ok (.bipush (-3), 2) := by decide +kernel
theorem dX9_saw_30 : decode cX9_saw 30 = .ok (.ireturn, 1) := by decide +kernel
theorem dX9_saw_31 : decode cX9_saw 31 = .ok (.aload_n 0, 1) := by decide +kernel
theorem dX9_saw_32 : decode cX9_saw 32 = .ok (.getfield 51, 3) := by decide +kernel
theorem dX9_saw_35 : decode cX9_saw 35 = .ok (.iload_n 1, 1) := by decide +kernel
theorem dX9_saw_36 : decode cX9_saw 36 = .ok (.iload_n 2, 1) := by decide +kernel
theorem dX9_saw_37 : decode cX9_saw 37 = .ok (.invokevirtual 213, 3) := by decide +kernel
theorem dX9_saw_40 : decode cX9_saw 40 = .ok (.aload_n 0, 1) := by decide +kernel
theorem dX9_saw_41 : decode cX9_saw 41 = .ok (.getfield 51, 3) := by decide +kernel
theorem dX9_saw_44 : decode cX9_saw 44 = .ok (.getfield 212, 3) := by decide +kernel
theorem dX9_saw_47 : decode cX9_saw 47 = .ok (.ireturn, 1) := by decide +kernel
theorem dX9_forget_0 : decode cX9_forget 0 = .ok (.aload_n 0, 1) := by decide +kernel
theorem dX9_forget_1 : decode cX9_forget 1 = .ok (.getfield 51, 3) := by decide +kernel
theorem dX9_forget_4 : decode cX9_forget 4 = .ok (.getfield 212, 3) := by decide +kernel
theorem dX9_forget_7 : decode cX9_forget 7 = .ok (.istore_n 1, 1) := by decide +kernel
theorem dX9_forget_8 : decode cX9_forget 8 = .ok (.aload_n 0, 1) := by decide +kernel
theorem dX9_forget_9 : decode cX9_forget 9 = .ok (.getfield 51, 3) := by decide +kernel
theorem dX9_forget_12 : decode cX9_forget 12 = .ok (.iconst 0, 1) := by decide +kernel
theorem dX9_forget_13 : decode cX9_forget 13 = .ok (.putfield 212, 3) := by decide +kernel
theorem dX9_forget_16 : decode cX9_forget 16 = .ok (.iload_n 1, 1) := by decide +kernel
theorem dX9_forget_17 : decode cX9_forget 17 = .ok (.ireturn, 1) := by decide +kernel
theorem dX9_whose_0 : decode cX9_whose 0 = .ok (.iload_n 1, 1) := by decide +kernel
theorem dX9_whose_1 : decode cX9_whose 1 = .ok (.iconst 0, 1) := by decide +kernel
theorem dX9_whose_2 : decode cX9_whose 2 = .ok (.iconst 2, 1) := by decide +kernel
theorem dX9_whose_3 : decode cX9_whose 3 = .ok (.invokestatic 73, 3) := by decide +kernel
theorem dX9_whose_6 : decode cX9_whose 6 = .ok (.ifCond .ne 5, 3) := by decide +kernel
theorem dX9_whose_9 : decode cX9_whose 9 = .ok (.iconst (-1), 1) := by decide +kernel
theorem dX9_whose_10 : decode cX9_whose 10 = .ok (.ireturn, 1) := by decide +kernel
theorem dX9_whose_11 : decode cX9_whose 11 = .ok (.aload_n 0, 1) := by decide +kernel
theorem dX9_whose_12 : decode cX9_whose 12 = .ok (.getfield 51, 3) := by decide +kernel
theorem dX9_whose_15 : decode cX9_whose 15 = .ok (.invokevirtual 215, 3) := by decide +kernel
theorem dX9_whose_18 : decode cX9_whose 18 = .ok (.istore_n 2, 1) := by decide +kernel
theorem dX9_whose_19 : decode cX9_whose 19 = .ok (.iload_n 1, 1) := by decide +kernel
theorem dX9_whose_20 : decode cX9_whose 20 = .ok (.ifCond .ne 5, 3) := by decide +kernel
theorem dX9_whose_23 : decode cX9_whose 23 = .ok (.iload_n 2, 1) := by decide +kernel
theorem dX9_whose_24 : decode cX9_whose 24 = .ok (.ireturn, 1) := by decide +kernel
theorem dX9_whose_25 : decode cX9_whose 25 = .ok (.aload_n 0, 1) := by decide +kernel
theorem dX9_whose_26 : decode cX9_whose 26 = .ok (.getfield 28, 3) := by decide +kernel
theorem dX9_whose_29 : decode cX9_whose 29 = .ok (.iload_n 2, 1) := by decide +kernel
theorem dX9_whose_30 : decode cX9_whose 30 = .ok (.invokevirtual 218, 3) := by decide +kernel
theorem dX9_whose_33 : decode cX9_whose 33 = .ok (.istore_n 3, 1) := by decide +kernel
theorem dX9_whose_34 : decode cX9_whose 34 = .ok (.iload_n 1, 1) := by decide +kernel
theorem dX9_whose_35 : decode cX9_whose 35 = .ok (.iconst 1, 1) := by decide +kernel
theorem dX9_whose_36 : decode cX9_whose 36 = .ok (.if_icmp .eq 9, 3) := by decide +kernel
theorem dX9_whose_39 : decode cX9_whose 39 = .ok (.iload_n 3, 1) := by decide +kernel
theorem dX9_whose_40 : decode cX9_whose 40 = .ok (.bipush (-9), 2) := by decide +kernel
theorem dX9_whose_42 : decode cX9_whose 42 = .ok (.if_icmp .ne 7, 3) := by decide +kernel
theorem dX9_whose_45 : decode cX9_whose 45 = .ok (.iload_n 3, 1) := by decide +kernel
theorem dX9_whose_46 : decode cX9_whose 46 = .ok (.goto 12, 3) := by decide +kernel
theorem dX9_whose_49 : decode cX9_whose 49 = .ok (.aload_n 0, 1) := by decide +kernel
theorem dX9_whose_50 : decode cX9_whose 50 = .ok (.getfield 28, 3) := by decide +kernel
theorem dX9_whose_53 : decode cX9_whose 53 = .ok (.iload_n 2, 1) := by decide +kernel
theorem dX9_whose_54 : decode cX9_whose 54 = .ok (.iload_n 3, 1) := by decide +kernel
theorem dX9_whose_55 : decode cX9_whose 55 = .ok (.invokevirtual 221, 3) := by decide +kernel
theorem dX9_whose_58 : decode cX9_whose 58 = .ok (.ireturn, 1) := by decide +kernel
theorem dX9_aged_0 : decode cX9_aged 0 = .ok (.iload_n 2, 1) := by decide +kernel
theorem dX9_aged_1 : decode cX9_aged 1 = .ok (.invokestatic 128, 3) := by decide +kernel
theorem dX9_aged_4 : decode cX9_aged 4 = .ok (.ifCond .eq 15, 3) := by decide +kernel
theorem dX9_aged_7 : decode cX9_aged 7 = .ok (.iload_n 3, 1) := by decide +kernel
theorem dX9_aged_8 : decode cX9_aged 8 = .ok (.invokestatic 128, 3) := by decide +kernel
theorem dX9_aged_11 : decode cX9_aged 11 = .ok (.ifCond .eq 8, 3) := by decide +kernel
theorem dX9_aged_14 : decode cX9_aged 14 = .ok (.iload_n 3, 1) := by decide +kernel
theorem dX9_aged_15 : decode cX9_aged 15 = .ok (.iload_n 2, 1) := by decide +kernel
theorem dX9_aged_16 : decode cX9_aged 16 = .ok (.if_icmp .ge 5, 3) := by decide +kernel
theorem dX9_aged_19 : decode cX9_aged 19 = .ok (.iconst (-1), 1) := by decide +kernel
theorem dX9_aged_20 : decode cX9_aged 20 = .ok (.ireturn, 1) := by decide +kernel
theorem dX9_aged_21 : decode cX9_aged 21 = .ok (.iload_n 1, 1) := by decide +kernel
theorem dX9_aged_22 : decode cX9_aged 22 = .ok (.iconst (-1), 1) := by decide +kernel
theorem dX9_aged_23 : decode cX9_aged 23 = .ok (.if_icmp .ne 13, 3) := by decide +kernel
theorem dX9_aged_26 : decode cX9_aged 26 = .ok (.aload_n 0, 1) := by decide +kernel
theorem dX9_aged_27 : decode cX9_aged 27 = .ok (.getfield 28, 3) := by decide +kernel
theorem dX9_aged_30 : decode cX9_aged 30 = .ok (.iload_n 2, 1) := by decide +kernel
theorem dX9_aged_31 : decode cX9_aged 31 = .ok (.iload_n 3, 1) := by decide +kernel
theorem dX9_aged_32 : decode cX9_aged 32 = .ok (.invokevirtual 224, 3) := by decide +kernel
theorem dX9_aged_35 : decode cX9_aged 35 = .ok (.ireturn, 1) := by decide +kernel
theorem dX9_aged_36 : decode cX9_aged 36 = .ok (.aload_n 0, 1) := by decide +kernel
theorem dX9_aged_37 : decode cX9_aged 37 = .ok (.getfield 28, 3) := by decide +kernel
theorem dX9_aged_40 : decode cX9_aged 40 = .ok (.iload_n 1, 1) := by decide +kernel
theorem dX9_aged_41 : decode cX9_aged 41 = .ok (.invokevirtual 100, 3) := by decide +kernel
theorem dX9_aged_44 : decode cX9_aged 44 = .ok (.ifCond .eq 23, 3) := by decide +kernel
theorem dX9_aged_47 : decode cX9_aged 47 = .ok (.aload_n 0, 1) := by decide +kernel
theorem dX9_aged_48 : decode cX9_aged 48 = .ok (.getfield 28, 3) := by decide +kernel
theorem dX9_aged_51 : decode cX9_aged 51 = .ok (.getfield 89, 3) := by decide +kernel
theorem dX9_aged_54 : decode cX9_aged 54 = .ok (.getfield 104, 3) := by decide +kernel
theorem dX9_aged_57 : decode cX9_aged 57 = .ok (.iload_n 1, 1) := by decide +kernel
theorem dX9_aged_58 : decode cX9_aged 58 = .ok (.aaload, 1) := by decide +kernel
theorem dX9_aged_59 : decode cX9_aged 59 = .ok (.iload_n 2, 1) := by decide +kernel
theorem dX9_aged_60 : decode cX9_aged 60 = .ok (.iload_n 3, 1) := by decide +kernel
theorem dX9_aged_61 : decode cX9_aged 61 = .ok (.invokevirtual 227, 3) := by decide +kernel
theorem dX9_aged_64 : decode cX9_aged 64 = .ok (.goto 4, 3) := by decide +kernel
theorem dX9_aged_67 : decode cX9_aged 67 = .ok (.iconst (-1), 1) := by decide +kernel
theorem dX9_aged_68 : decode cX9_aged 68 = .ok (.ireturn, 1) := by decide +kernel
theorem dX9_owes_0 : decode cX9_owes 0 = .ok (.aload_n 0, 1) := by decide +kernel
theorem dX9_owes_1 : decode cX9_owes 1 = .ok (.getfield 28, 3) := by decide +kernel
theorem dX9_owes_4 : decode cX9_owes 4 = .ok (.iload_n 1, 1) := by decide +kernel
theorem dX9_owes_5 : decode cX9_owes 5 = .ok (.iload_n 2, 1) := by decide +kernel
theorem dX9_owes_6 : decode cX9_owes 6 = .ok (.invokevirtual 155, 3) := by decide +kernel
theorem dX9_owes_9 : decode cX9_owes 9 = .ok (.ifCond .eq 10, 3) := by decide +kernel
theorem dX9_owes_12 : decode cX9_owes 12 = .ok (.iload_n 3, 1) := by decide +kernel
theorem dX9_owes_13 : decode cX9_owes 13 = .ok (.invokestatic 135, 3) := by decide +kernel
theorem dX9_owes_16 : decode cX9_owes 16 = .ok (.ifCond .ne 5, 3) := by decide +kernel
theorem dX9_owes_19 : decode cX9_owes 19 = .ok (.iconst (-1), 1) := by decide +kernel
theorem dX9_owes_20 : decode cX9_owes 20 = .ok (.ireturn, 1) := by decide +kernel
theorem dX9_owes_21 : decode cX9_owes 21 = .ok (.aload_n 0, 1) := by decide +kernel
theorem dX9_owes_22 : decode cX9_owes 22 = .ok (.getfield 58, 3) := by decide +kernel
theorem dX9_owes_25 : decode cX9_owes 25 = .ok (.getfield 230, 3) := by decide +kernel
theorem dX9_owes_28 : decode cX9_owes 28 = .ok (.bipush 8, 2) := by decide +kernel
theorem dX9_owes_30 : decode cX9_owes 30 = .ok (.if_icmp .lt 6, 3) := by decide +kernel
theorem dX9_owes_33 : decode cX9_owes 33 = .ok (.bipush (-3), 2) := by decide +kernel
theorem dX9_owes_35 : decode cX9_owes 35 = .ok (.ireturn, 1) := by decide +kernel
theorem dX9_owes_36 : decode cX9_owes 36 = .ok (.aload_n 0, 1) := by decide +kernel
theorem dX9_owes_37 : decode cX9_owes 37 = .ok (.getfield 58, 3) := by decide +kernel
theorem dX9_owes_40 : decode cX9_owes 40 = .ok (.iload_n 1, 1) := by decide +kernel
theorem dX9_owes_41 : decode cX9_owes 41 = .ok (.iload_n 2, 1) := by decide +kernel
theorem dX9_owes_42 : decode cX9_owes 42 = .ok (.iload_n 3, 1) := by decide +kernel
theorem dX9_owes_43 : decode cX9_owes 43 = .ok (.invokevirtual 231, 3) := by decide +kernel
theorem dX9_owes_46 : decode cX9_owes 46 = .ok (.aload_n 0, 1) := by decide +kernel
theorem dX9_owes_47 : decode cX9_owes 47 = .ok (.getfield 58, 3) := by decide +kernel
theorem dX9_owes_50 : decode cX9_owes 50 = .ok (.getfield 230, 3) := by decide +kernel
theorem dX9_owes_53 : decode cX9_owes 53 = .ok (.iconst 1, 1) := by decide +kernel
theorem dX9_owes_54 : decode cX9_owes 54 = .ok (.isub, 1) := by decide +kernel
theorem dX9_owes_55 : decode cX9_owes 55 = .ok (.ireturn, 1) := by decide +kernel
theorem dX9_due_0 : decode cX9_due 0 = .ok (.iload_n 1, 1) := by decide +kernel
theorem dX9_due_1 : decode cX9_due 1 = .ok (.iconst (-1), 1) := by decide +kernel
theorem dX9_due_2 : decode cX9_due 2 = .ok (.if_icmp .ne 19, 3) := by decide +kernel
theorem dX9_due_5 : decode cX9_due 5 = .ok (.aload_n 0, 1) := by decide +kernel
theorem dX9_due_6 : decode cX9_due 6 = .ok (.getfield 58, 3) := by decide +kernel
theorem dX9_due_9 : decode cX9_due 9 = .ok (.invokevirtual 234, 3) := by decide +kernel
theorem dX9_due_12 : decode cX9_due 12 = .ok (.ifCond .eq 7, 3) := by decide +kernel
theorem dX9_due_15 : decode cX9_due 15 = .ok (.iconst 1, 1) := by decide +kernel
theorem dX9_due_16 : decode cX9_due 16 = .ok (.goto 4, 3) := by decide +kernel
theorem dX9_due_19 : decode cX9_due 19 = .ok (.iconst 0, 1) := by decide +kernel
theorem dX9_due_20 : decode cX9_due 20 = .ok (.ireturn, 1) := by decide +kernel
theorem dX9_due_21 : decode cX9_due 21 = .ok (.iload_n 1, 1) := by decide +kernel
theorem dX9_due_22 : decode cX9_due 22 = .ok (.iconst 0, 1) := by decide +kernel
theorem dX9_due_23 : decode cX9_due 23 = .ok (.aload_n 0, 1) := by decide +kernel
theorem dX9_due_24 : decode cX9_due 24 = .ok (.getfield 58, 3) := by decide +kernel
theorem dX9_due_27 : decode cX9_due 27 = .ok (.getfield 230, 3) := by decide +kernel
theorem dX9_due_30 : decode cX9_due 30 = .ok (.iconst 1, 1) := by decide +kernel
theorem dX9_due_31 : decode cX9_due 31 = .ok (.isub, 1) := by decide +kernel
theorem dX9_due_32 : decode cX9_due 32 = .ok (.invokestatic 73, 3) := by decide +kernel
theorem dX9_due_35 : decode cX9_due 35 = .ok (.ifCond .eq 14, 3) := by decide +kernel
theorem dX9_due_38 : decode cX9_due 38 = .ok (.aload_n 0, 1) := by decide +kernel
theorem dX9_due_39 : decode cX9_due 39 = .ok (.getfield 58, 3) := by decide +kernel
theorem dX9_due_42 : decode cX9_due 42 = .ok (.iload_n 1, 1) := by decide +kernel
theorem dX9_due_43 : decode cX9_due 43 = .ok (.invokevirtual 238, 3) := by decide +kernel
theorem dX9_due_46 : decode cX9_due 46 = .ok (.goto 4, 3) := by decide +kernel
theorem dX9_due_49 : decode cX9_due 49 = .ok (.iconst (-1), 1) := by decide +kernel
theorem dX9_due_50 : decode cX9_due 50 = .ok (.ireturn, 1) := by decide +kernel
theorem dX9_mark_0 : decode cX9_mark 0 = .ok (.aload_n 0, 1) := by decide +kernel
theorem dX9_mark_1 : decode cX9_mark 1 = .ok (.getfield 28, 3) := by decide +kernel
theorem dX9_mark_4 : decode cX9_mark 4 = .ok (.iload_n 2, 1) := by decide +kernel
theorem dX9_mark_5 : decode cX9_mark 5 = .ok (.invokevirtual 100, 3) := by decide +kernel
theorem dX9_mark_8 : decode cX9_mark 8 = .ok (.ifCond .ne 6, 3) := by decide +kernel
theorem dX9_mark_11 : decode cX9_mark 11 = .ok (.ldc 241, 2) := by decide +kernel
theorem dX9_mark_13 : decode cX9_mark 13 = .ok (.ireturn, 1) := by decide +kernel
theorem dX9_mark_14 : decode cX9_mark 14 = .ok (.iload_n 1, 1) := by decide +kernel
theorem dX9_mark_15 : decode cX9_mark 15 = .ok (.tableswitch 73 0 5 #[37, 43, 49, 55, 61, 67], 37) := by decide +kernel
theorem dX9_mark_52 : decode cX9_mark 52 = .ok (.aload_n 0, 1) := by decide +kernel
theorem dX9_mark_53 : decode cX9_mark 53 = .ok (.iload_n 2, 1) := by decide +kernel
theorem dX9_mark_54 : decode cX9_mark 54 = .ok (.invokevirtual 242, 3) := by decide +kernel
theorem dX9_mark_57 : decode cX9_mark 57 = .ok (.ireturn, 1) := by decide +kernel
theorem dX9_mark_58 : decode cX9_mark 58 = .ok (.aload_n 0, 1) := by decide +kernel
theorem dX9_mark_59 : decode cX9_mark 59 = .ok (.iload_n 2, 1) := by decide +kernel
theorem dX9_mark_60 : decode cX9_mark 60 = .ok (.invokevirtual 245, 3) := by decide +kernel
theorem dX9_mark_63 : decode cX9_mark 63 = .ok (.ireturn, 1) := by decide +kernel
theorem dX9_mark_64 : decode cX9_mark 64 = .ok (.aload_n 0, 1) := by decide +kernel
theorem dX9_mark_65 : decode cX9_mark 65 = .ok (.iload_n 2, 1) := by decide +kernel
theorem dX9_mark_66 : decode cX9_mark 66 = .ok (.invokevirtual 248, 3) := by decide +kernel
theorem dX9_mark_69 : decode cX9_mark 69 = .ok (.ireturn, 1) := by decide +kernel
theorem dX9_mark_70 : decode cX9_mark 70 = .ok (.aload_n 0, 1) := by decide +kernel
theorem dX9_mark_71 : decode cX9_mark 71 = .ok (.iload_n 2, 1) := by decide +kernel
theorem dX9_mark_72 : decode cX9_mark 72 = .ok (.invokevirtual 251, 3) := by decide +kernel
theorem dX9_mark_75 : decode cX9_mark 75 = .ok (.ireturn, 1) := by decide +kernel
theorem dX9_mark_76 : decode cX9_mark 76 = .ok (.aload_n 0, 1) := by decide +kernel
theorem dX9_mark_77 : decode cX9_mark 77 = .ok (.iload_n 2, 1) := by decide +kernel
theorem dX9_mark_78 : decode cX9_mark 78 = .ok (.invokevirtual 254, 3) := by decide +kernel
theorem dX9_mark_81 : decode cX9_mark 81 = .ok (.ireturn, 1) := by decide +kernel
theorem dX9_mark_82 : decode cX9_mark 82 = .ok (.aload_n 0, 1) := by decide +kernel
theorem dX9_mark_83 : decode cX9_mark 83 = .ok (.iload_n 2, 1) := by decide +kernel
theorem dX9_mark_84 : decode cX9_mark 84 = .ok (.invokevirtual 257, 3) := by decide +kernel
theorem dX9_mark_87 : decode cX9_mark 87 = .ok (.ireturn, 1) := by decide +kernel
theorem dX9_mark_88 : decode cX9_mark 88 = .ok (.ldc 241, 2) := by decide +kernel
theorem dX9_mark_90 : decode cX9_mark 90 = .ok (.ireturn, 1) := by decide +kernel
theorem dX9_keep_0 : decode cX9_keep 0 = .ok (.iload_n 1, 1) := by decide +kernel
theorem dX9_keep_1 : decode cX9_keep 1 = .ok (.iconst 0, 1) := by decide +kernel
theorem dX9_keep_2 : decode cX9_keep 2 = .ok (.iconst 1, 1) := by decide +kernel
theorem dX9_keep_3 : decode cX9_keep 3 = .ok (.invokestatic 73, 3) := by decide +kernel
theorem dX9_keep_6 : decode cX9_keep 6 = .ok (.ifCond .ne 5, 3) := by decide +kernel
theorem dX9_keep_9 : decode cX9_keep 9 = .ok (.iconst (-1), 1) := by decide +kernel
theorem dX9_keep_10 : decode cX9_keep 10 = .ok (.ireturn, 1) := by decide +kernel
theorem dX9_keep_11 : decode cX9_keep 11 = .ok (.aload_n 0, 1) := by decide +kernel
theorem dX9_keep_12 : decode cX9_keep 12 = .ok (.getfield 64, 3) := by decide +kernel
theorem dX9_keep_15 : decode cX9_keep 15 = .ok (.iload_n 1, 1) := by decide +kernel
theorem dX9_keep_16 : decode cX9_keep 16 = .ok (.aaload, 1) := by decide +kernel
theorem dX9_keep_17 : decode cX9_keep 17 = .ok (.aload_n 0, 1) := by decide +kernel
theorem dX9_keep_18 : decode cX9_keep 18 = .ok (.getfield 36, 3) := by decide +kernel
theorem dX9_keep_21 : decode cX9_keep 21 = .ok (.invokevirtual 260, 3) := by decide +kernel
theorem dX9_keep_24 : decode cX9_keep 24 = .ok (.aload_n 0, 1) := by decide +kernel
theorem dX9_keep_25 : decode cX9_keep 25 = .ok (.getfield 68, 3) := by decide +kernel
theorem dX9_keep_28 : decode cX9_keep 28 = .ok (.iload_n 1, 1) := by decide +kernel
theorem dX9_keep_29 : decode cX9_keep 29 = .ok (.iconst 1, 1) := by decide +kernel
theorem dX9_keep_30 : decode cX9_keep 30 = .ok (.bastore, 1) := by decide +kernel
theorem dX9_keep_31 : decode cX9_keep 31 = .ok (.aload_n 0, 1) := by decide +kernel
theorem dX9_keep_32 : decode cX9_keep 32 = .ok (.getfield 36, 3) := by decide +kernel
theorem dX9_keep_35 : decode cX9_keep 35 = .ok (.getfield 165, 3) := by decide +kernel
theorem dX9_keep_38 : decode cX9_keep 38 = .ok (.ireturn, 1) := by decide +kernel
theorem dX9_back_0 : decode cX9_back 0 = .ok (.iload_n 1, 1) := by decide +kernel
theorem dX9_back_1 : decode cX9_back 1 = .ok (.iconst 0, 1) := by decide +kernel
theorem dX9_back_2 : decode cX9_back 2 = .ok (.iconst 1, 1) := by decide +kernel
theorem dX9_back_3 : decode cX9_back 3 = .ok (.invokestatic 73, 3) := by decide +kernel
theorem dX9_back_6 : decode cX9_back 6 = .ok (.ifCond .ne 5, 3) := by decide +kernel
theorem dX9_back_9 : decode cX9_back 9 = .ok (.iconst (-1), 1) := by decide +kernel
theorem dX9_back_10 : decode cX9_back 10 = .ok (.ireturn, 1) := by decide +kernel
theorem dX9_back_11 : decode cX9_back 11 = .ok (.aload_n 0, 1) := by decide +kernel
theorem dX9_back_12 : decode cX9_back 12 = .ok (.getfield 68, 3) := by decide +kernel
theorem dX9_back_15 : decode cX9_back 15 = .ok (.iload_n 1, 1) := by decide +kernel
theorem dX9_back_16 : decode cX9_back 16 = .ok (.baload, 1) := by decide +kernel
theorem dX9_back_17 : decode cX9_back 17 = .ok (.ifCond .ne 6, 3) := by decide +kernel
theorem dX9_back_20 : decode cX9_back 20 = .ok (.bipush (-2), 2) := by decide +kernel
theorem dX9_back_22 : decode cX9_back 22 = .ok (.ireturn, 1) := by decide +kernel
theorem dX9_back_23 : decode cX9_back 23 = .ok (.aload_n 0, 1) := by decide +kernel
theorem dX9_back_24 : decode cX9_back 24 = .ok (.getfield 36, 3) := by decide +kernel
theorem dX9_back_27 : decode cX9_back 27 = .ok (.aload_n 0, 1) := by decide +kernel
theorem dX9_back_28 : decode cX9_back 28 = .ok (.getfield 64, 3) := by decide +kernel
theorem dX9_back_31 : decode cX9_back 31 = .ok (.iload_n 1, 1) := by decide +kernel
theorem dX9_back_32 : decode cX9_back 32 = .ok (.aaload, 1) := by decide +kernel
theorem dX9_back_33 : decode cX9_back 33 = .ok (.invokevirtual 260, 3) := by decide +kernel
theorem dX9_back_36 : decode cX9_back 36 = .ok (.aload_n 0, 1) := by decide +kernel
theorem dX9_back_37 : decode cX9_back 37 = .ok (.getfield 36, 3) := by decide +kernel
theorem dX9_back_40 : decode cX9_back 40 = .ok (.getfield 165, 3) := by decide +kernel
theorem dX9_back_43 : decode cX9_back 43 = .ok (.ireturn, 1) := by decide +kernel
theorem dX9_count_0 : decode cX9_count 0 = .ok (.iload_n 1, 1) := by decide +kernel
theorem dX9_count_1 : decode cX9_count 1 = .ok (.tableswitch 117 0 7 #[47, 58, 69, 77, 85, 93, 101, 109], 47) := by decide +kernel
theorem dX9_count_48 : decode cX9_count 48 = .ok (.aload_n 0, 1) := by decide +kernel
theorem dX9_count_49 : decode cX9_count 49 = .ok (.getfield 28, 3) := by decide +kernel
theorem dX9_count_52 : decode cX9_count 52 = .ok (.getfield 89, 3) := by decide +kernel
theorem dX9_count_55 : decode cX9_count 55 = .ok (.getfield 264, 3) := by decide +kernel
theorem dX9_count_58 : decode cX9_count 58 = .ok (.ireturn, 1) := by decide +kernel
theorem dX9_count_59 : decode cX9_count 59 = .ok (.aload_n 0, 1) := by decide +kernel
theorem dX9_count_60 : decode cX9_count 60 = .ok (.getfield 28, 3) := by decide +kernel
theorem dX9_count_63 : decode cX9_count 63 = .ok (.getfield 89, 3) := by decide +kernel
theorem dX9_count_66 : decode cX9_count 66 = .ok (.getfield 265, 3) := by decide +kernel
theorem dX9_count_69 : decode cX9_count 69 = .ok (.ireturn, 1) := by decide +kernel
theorem dX9_count_70 : decode cX9_count 70 = .ok (.aload_n 0, 1) := by decide +kernel
theorem dX9_count_71 : decode cX9_count 71 = .ok (.getfield 36, 3) := by decide +kernel
theorem dX9_count_74 : decode cX9_count 74 = .ok (.getfield 165, 3) := by decide +kernel
theorem dX9_count_77 : decode cX9_count 77 = .ok (.ireturn, 1) := by decide +kernel
theorem dX9_count_78 : decode cX9_count 78 = .ok (.aload_n 0, 1) := by decide +kernel
theorem dX9_count_79 : decode cX9_count 79 = .ok (.getfield 44, 3) := by decide +kernel
theorem dX9_count_82 : decode cX9_count 82 = .ok (.getfield 182, 3) := by decide +kernel
theorem dX9_count_85 : decode cX9_count 85 = .ok (.ireturn, 1) := by decide +kernel
theorem dX9_count_86 : decode cX9_count 86 = .ok (.aload_n 0, 1) := by decide +kernel
theorem dX9_count_87 : decode cX9_count 87 = .ok (.getfield 51, 3) := by decide +kernel
theorem dX9_count_90 : decode cX9_count 90 = .ok (.getfield 212, 3) := by decide +kernel
theorem dX9_count_93 : decode cX9_count 93 = .ok (.ireturn, 1) := by decide +kernel
theorem dX9_count_94 : decode cX9_count 94 = .ok (.aload_n 0, 1) := by decide +kernel
theorem dX9_count_95 : decode cX9_count 95 = .ok (.getfield 58, 3) := by decide +kernel
theorem dX9_count_98 : decode cX9_count 98 = .ok (.getfield 230, 3) := by decide +kernel
theorem dX9_count_101 : decode cX9_count 101 = .ok (.ireturn, 1) := by decide +kernel
theorem dX9_count_102 : decode cX9_count 102 = .ok (.aload_n 0, 1) := by decide +kernel
theorem dX9_count_103 : decode cX9_count 103 = .ok (.getfield 36, 3) := by decide +kernel
theorem dX9_count_106 : decode cX9_count 106 = .ok (.getfield 176, 3) := by decide +kernel
theorem dX9_count_109 : decode cX9_count 109 = .ok (.ireturn, 1) := by decide +kernel
theorem dX9_count_110 : decode cX9_count 110 = .ok (.aload_n 0, 1) := by decide +kernel
theorem dX9_count_111 : decode cX9_count 111 = .ok (.getfield 10, 3) := by decide +kernel
theorem dX9_count_114 : decode cX9_count 114 = .ok (.getfield 77, 3) := by decide +kernel
theorem dX9_count_117 : decode cX9_count 117 = .ok (.ireturn, 1) := by decide +kernel
theorem dX9_count_118 : decode cX9_count 118 = .ok (.iconst (-1), 1) := by decide +kernel
theorem dX9_count_119 : decode cX9_count 119 = .ok (.ireturn, 1) := by decide +kernel
theorem dX9_trace_0 : decode cX9_trace 0 = .ok (.aload_n 0, 1) := by decide +kernel
theorem dX9_trace_1 : decode cX9_trace 1 = .ok (.getfield 268, 3) := by decide +kernel
theorem dX9_trace_4 : decode cX9_trace 4 = .ok (.lreturn, 1) := by decide +kernel
theorem dX9_isWithin_0 : decode cX9_isWithin 0 = .ok (.iload_n 0, 1) := by decide +kernel
theorem dX9_isWithin_1 : decode cX9_isWithin 1 = .ok (.iload_n 1, 1) := by decide +kernel
theorem dX9_isWithin_2 : decode cX9_isWithin 2 = .ok (.if_icmp .lt 12, 3) := by decide +kernel
theorem dX9_isWithin_5 : decode cX9_isWithin 5 = .ok (.iload_n 0, 1) := by decide +kernel
theorem dX9_isWithin_6 : decode cX9_isWithin 6 = .ok (.iload_n 2, 1) := by decide +kernel
theorem dX9_isWithin_7 : decode cX9_isWithin 7 = .ok (.if_icmp .gt 7, 3) := by decide +kernel
theorem dX9_isWithin_10 : decode cX9_isWithin 10 = .ok (.iconst 1, 1) := by decide +kernel
theorem dX9_isWithin_11 : decode cX9_isWithin 11 = .ok (.goto 4, 3) := by decide +kernel
theorem dX9_isWithin_14 : decode cX9_isWithin 14 = .ok (.iconst 0, 1) := by decide +kernel
theorem dX9_isWithin_15 : decode cX9_isWithin 15 = .ok (.ireturn, 1) := by decide +kernel
theorem dX9_isQuarter_0 : decode cX9_isQuarter 0 = .ok (.iload_n 0, 1) := by decide +kernel
theorem dX9_isQuarter_1 : decode cX9_isQuarter 1 = .ok (.iconst 0, 1) := by decide +kernel
theorem dX9_isQuarter_2 : decode cX9_isQuarter 2 = .ok (.bipush 95, 2) := by decide +kernel
theorem dX9_isQuarter_4 : decode cX9_isQuarter 4 = .ok (.invokestatic 73, 3) := by decide +kernel
theorem dX9_isQuarter_7 : decode cX9_isQuarter 7 = .ok (.ireturn, 1) := by decide +kernel
theorem dX9_isNumber_0 : decode cX9_isNumber 0 = .ok (.iload_n 0, 1) := by decide +kernel
theorem dX9_isNumber_1 : decode cX9_isNumber 1 = .ok (.iconst 0, 1) := by decide +kernel
theorem dX9_isNumber_2 : decode cX9_isNumber 2 = .ok (.bipush 47, 2) := by decide +kernel
theorem dX9_isNumber_4 : decode cX9_isNumber 4 = .ok (.invokestatic 73, 3) := by decide +kernel
theorem dX9_isNumber_7 : decode cX9_isNumber 7 = .ok (.ireturn, 1) := by decide +kernel
theorem dX9_beginAnew_0 : decode cX9_beginAnew 0 = .ok (.aload_n 0, 1) := by decide +kernel
theorem dX9_beginAnew_1 : decode cX9_beginAnew 1 = .ok (.getfield 10, 3) := by decide +kernel
theorem dX9_beginAnew_4 : decode cX9_beginAnew 4 = .ok (.iconst 0, 1) := by decide +kernel
theorem dX9_beginAnew_5 : decode cX9_beginAnew 5 = .ok (.putfield 77, 3) := by decide +kernel
theorem dX9_beginAnew_8 : decode cX9_beginAnew 8 = .ok (.aload_n 0, 1) := by decide +kernel
theorem dX9_beginAnew_9 : decode cX9_beginAnew 9 = .ok (.getfield 36, 3) := by decide +kernel
theorem dX9_beginAnew_12 : decode cX9_beginAnew 12 = .ok (.invokevirtual 272, 3) := by decide +kernel
theorem dX9_beginAnew_15 : decode cX9_beginAnew 15 = .ok (.aload_n 0, 1) := by decide +kernel
theorem dX9_beginAnew_16 : decode cX9_beginAnew 16 = .ok (.getfield 44, 3) := by decide +kernel
theorem dX9_beginAnew_19 : decode cX9_beginAnew 19 = .ok (.iconst 0, 1) := by decide +kernel
theorem dX9_beginAnew_20 : decode cX9_beginAnew 20 = .ok (.putfield 182, 3) := by decide +kernel
theorem dX9_beginAnew_23 : decode cX9_beginAnew 23 = .ok (.aload_n 0, 1) := by decide +kernel
theorem dX9_beginAnew_24 : decode cX9_beginAnew 24 = .ok (.getfield 51, 3) := by decide +kernel
theorem dX9_beginAnew_27 : decode cX9_beginAnew 27 = .ok (.iconst 0, 1) := by decide +kernel
theorem dX9_beginAnew_28 : decode cX9_beginAnew 28 = .ok (.putfield 212, 3) := by decide +kernel
theorem dX9_beginAnew_31 : decode cX9_beginAnew 31 = .ok (.aload_n 0, 1) := by decide +kernel
theorem dX9_beginAnew_32 : decode cX9_beginAnew 32 = .ok (.getfield 58, 3) := by decide +kernel
theorem dX9_beginAnew_35 : decode cX9_beginAnew 35 = .ok (.iconst 0, 1) := by decide +kernel
theorem dX9_beginAnew_36 : decode cX9_beginAnew 36 = .ok (.putfield 230, 3) := by decide +kernel
theorem dX9_beginAnew_39 : decode cX9_beginAnew 39 = .ok (.iconst 0, 1) := by decide +kernel
theorem dX9_beginAnew_40 : decode cX9_beginAnew 40 = .ok (.istore_n 1, 1) := by decide +kernel
theorem dX9_beginAnew_41 : decode cX9_beginAnew 41 = .ok (.iload_n 1, 1) := by decide +kernel
theorem dX9_beginAnew_42 : decode cX9_beginAnew 42 = .ok (.iconst 2, 1) := by decide +kernel
theorem dX9_beginAnew_43 : decode cX9_beginAnew 43 = .ok (.if_icmp .ge 16, 3) := by decide +kernel
theorem dX9_beginAnew_46 : decode cX9_beginAnew 46 = .ok (.aload_n 0, 1) := by decide +kernel
theorem dX9_beginAnew_47 : decode cX9_beginAnew 47 = .ok (.getfield 68, 3) := by decide +kernel
theorem dX9_beginAnew_50 : decode cX9_beginAnew 50 = .ok (.iload_n 1, 1) := by decide +kernel
theorem dX9_beginAnew_51 : decode cX9_beginAnew 51 = .ok (.iconst 0, 1) := by decide +kernel
theorem dX9_beginAnew_52 : decode cX9_beginAnew 52 = .ok (.bastore, 1) := by decide +kernel
theorem dX9_beginAnew_53 : decode cX9_beginAnew 53 = .ok (.iinc 1 1, 3) := by decide +kernel
theorem dX9_beginAnew_56 : decode cX9_beginAnew 56 = .ok (.goto (-15), 3) := by decide +kernel
theorem dX9_beginAnew_59 : decode cX9_beginAnew 59 = .ok (.return_, 1) := by decide +kernel
theorem dX9_asHouse_0 : decode cX9_asHouse 0 = .ok (.aload_n 0, 1) := by decide +kernel
theorem dX9_asHouse_1 : decode cX9_asHouse 1 = .ok (.dup, 1) := by decide +kernel
theorem dX9_asHouse_2 : decode cX9_asHouse 2 = .ok (.getfield 268, 3) := by decide +kernel
theorem dX9_asHouse_5 : decode cX9_asHouse 5 = .ok (.lconst 1, 1) := by decide +kernel
theorem dX9_asHouse_6 : decode cX9_asHouse 6 = .ok (.ladd, 1) := by decide +kernel
theorem dX9_asHouse_7 : decode cX9_asHouse 7 = .ok (.putfield 268, 3) := by decide +kernel
theorem dX9_asHouse_10 : decode cX9_asHouse 10 = .ok (.aload_n 0, 1) := by decide +kernel
theorem dX9_asHouse_11 : decode cX9_asHouse 11 = .ok (.getfield 28, 3) := by decide +kernel
theorem dX9_asHouse_14 : decode cX9_asHouse 14 = .ok (.iload_n 1, 1) := by decide +kernel
theorem dX9_asHouse_15 : decode cX9_asHouse 15 = .ok (.invokevirtual 172, 3) := by decide +kernel
theorem dX9_asHouse_18 : decode cX9_asHouse 18 = .ok (.ireturn, 1) := by decide +kernel
theorem dX9_asInn_0 : decode cX9_asInn 0 = .ok (.aload_n 0, 1) := by decide +kernel
theorem dX9_asInn_1 : decode cX9_asInn 1 = .ok (.dup, 1) := by decide +kernel
theorem dX9_asInn_2 : decode cX9_asInn 2 = .ok (.getfield 268, 3) := by decide +kernel
theorem dX9_asInn_5 : decode cX9_asInn 5 = .ok (.ldc2_w 275, 3) := by decide +kernel
theorem dX9_asInn_8 : decode cX9_asInn 8 = .ok (.ladd, 1) := by decide +kernel
theorem dX9_asInn_9 : decode cX9_asInn 9 = .ok (.putfield 268, 3) := by decide +kernel
theorem dX9_asInn_12 : decode cX9_asInn 12 = .ok (.aload_n 0, 1) := by decide +kernel
theorem dX9_asInn_13 : decode cX9_asInn 13 = .ok (.iload_n 1, 1) := by decide +kernel
theorem dX9_asInn_14 : decode cX9_asInn 14 = .ok (.invokevirtual 242, 3) := by decide +kernel
theorem dX9_asInn_17 : decode cX9_asInn 17 = .ok (.aload_n 0, 1) := by decide +kernel
theorem dX9_asInn_18 : decode cX9_asInn 18 = .ok (.getfield 28, 3) := by decide +kernel
theorem dX9_asInn_21 : decode cX9_asInn 21 = .ok (.getfield 89, 3) := by decide +kernel
theorem dX9_asInn_24 : decode cX9_asInn 24 = .ok (.getfield 104, 3) := by decide +kernel
theorem dX9_asInn_27 : decode cX9_asInn 27 = .ok (.iload_n 1, 1) := by decide +kernel
theorem dX9_asInn_28 : decode cX9_asInn 28 = .ok (.aaload, 1) := by decide +kernel
theorem dX9_asInn_29 : decode cX9_asInn 29 = .ok (.getfield 121, 3) := by decide +kernel
theorem dX9_asInn_32 : decode cX9_asInn 32 = .ok (.iadd, 1) := by decide +kernel
theorem dX9_asInn_33 : decode cX9_asInn 33 = .ok (.ireturn, 1) := by decide +kernel
theorem dX9_asMill_0 : decode cX9_asMill 0 = .ok (.aload_n 0, 1) := by decide +kernel
theorem dX9_asMill_1 : decode cX9_asMill 1 = .ok (.dup, 1) := by decide +kernel
theorem dX9_asMill_2 : decode cX9_asMill 2 = .ok (.getfield 268, 3) := by decide +kernel
theorem dX9_asMill_5 : decode cX9_asMill 5 = .ok (.ldc2_w 277, 3) := by decide +kernel
theorem dX9_asMill_8 : decode cX9_asMill 8 = .ok (.ladd, 1) := by decide +kernel
theorem dX9_asMill_9 : decode cX9_asMill 9 = .ok (.putfield 268, 3) := by decide +kernel
theorem dX9_asMill_12 : decode cX9_asMill 12 = .ok (.aload_n 0, 1) := by decide +kernel
theorem dX9_asMill_13 : decode cX9_asMill 13 = .ok (.iload_n 1, 1) := by decide +kernel
theorem dX9_asMill_14 : decode cX9_asMill 14 = .ok (.invokevirtual 242, 3) := by decide +kernel
theorem dX9_asMill_17 : decode cX9_asMill 17 = .ok (.aload_n 0, 1) := by decide +kernel
theorem dX9_asMill_18 : decode cX9_asMill 18 = .ok (.getfield 28, 3) := by decide +kernel
theorem dX9_asMill_21 : decode cX9_asMill 21 = .ok (.getfield 89, 3) := by decide +kernel
theorem dX9_asMill_24 : decode cX9_asMill 24 = .ok (.getfield 104, 3) := by decide +kernel
theorem dX9_asMill_27 : decode cX9_asMill 27 = .ok (.iload_n 1, 1) := by decide +kernel
theorem dX9_asMill_28 : decode cX9_asMill 28 = .ok (.aaload, 1) := by decide +kernel
theorem dX9_asMill_29 : decode cX9_asMill 29 = .ok (.getfield 115, 3) := by decide +kernel
theorem dX9_asMill_32 : decode cX9_asMill 32 = .ok (.isub, 1) := by decide +kernel
theorem dX9_asMill_33 : decode cX9_asMill 33 = .ok (.ireturn, 1) := by decide +kernel
theorem dX9_asPalace_0 : decode cX9_asPalace 0 = .ok (.aload_n 0, 1) := by decide +kernel
theorem dX9_asPalace_1 : decode cX9_asPalace 1 = .ok (.dup, 1) := by decide +kernel
theorem dX9_asPalace_2 : decode cX9_asPalace 2 = .ok (.getfield 268, 3) := by decide +kernel
theorem dX9_asPalace_5 : decode cX9_asPalace 5 = .ok (.ldc2_w 279, 3) := by decide +kernel
theorem dX9_asPalace_8 : decode cX9_asPalace 8 = .ok (.ladd, 1) := by decide +kernel
theorem dX9_asPalace_9 : decode cX9_asPalace 9 = .ok (.putfield 268, 3) := by decide +kernel
theorem dX9_asPalace_12 : decode cX9_asPalace 12 = .ok (.aload_n 0, 1) := by decide +kernel
theorem dX9_asPalace_13 : decode cX9_asPalace 13 = .ok (.iload_n 1, 1) := by decide +kernel
theorem dX9_asPalace_14 : decode cX9_asPalace 14 = .ok (.invokevirtual 245, 3) := by decide +kernel
theorem dX9_asPalace_17 : decode cX9_asPalace 17 = .ok (.iconst 2, 1) := by decide +kernel
theorem dX9_asPalace_18 : decode cX9_asPalace 18 = .ok (.imul, 1) := by decide +kernel
theorem dX9_asPalace_19 : decode cX9_asPalace 19 = .ok (.ireturn, 1) := by decide +kernel
theorem dX9_asToll_0 : decode cX9_asToll 0 = .ok (.aload_n 0, 1) := by decide +kernel
theorem dX9_asToll_1 : decode cX9_asToll 1 = .ok (.dup, 1) := by decide +kernel
theorem dX9_asToll_2 : decode cX9_asToll 2 = .ok (.getfield 268, 3) := by decide +kernel
theorem dX9_asToll_5 : decode cX9_asToll 5 = .ok (.ldc2_w 281, 3) := by decide +kernel
theorem dX9_asToll_8 : decode cX9_asToll 8 = .ok (.ladd, 1) := by decide +kernel
theorem dX9_asToll_9 : decode cX9_asToll 9 = .ok (.putfield 268, 3) := by decide +kernel
theorem dX9_asToll_12 : decode cX9_asToll 12 = .ok (.aload_n 0, 1) := by decide +kernel
theorem dX9_asToll_13 : decode cX9_asToll 13 = .ok (.iload_n 1, 1) := by decide +kernel
theorem dX9_asToll_14 : decode cX9_asToll 14 = .ok (.invokevirtual 248, 3) := by decide +kernel
theorem dX9_asToll_17 : decode cX9_asToll 17 = .ok (.aload_n 0, 1) := by decide +kernel
theorem dX9_asToll_18 : decode cX9_asToll 18 = .ok (.getfield 28, 3) := by decide +kernel
theorem dX9_asToll_21 : decode cX9_asToll 21 = .ok (.getfield 89, 3) := by decide +kernel
theorem dX9_asToll_24 : decode cX9_asToll 24 = .ok (.getfield 104, 3) := by decide +kernel
theorem dX9_asToll_27 : decode cX9_asToll 27 = .ok (.iload_n 1, 1) := by decide +kernel
theorem dX9_asToll_28 : decode cX9_asToll 28 = .ok (.aaload, 1) := by decide +kernel
theorem dX9_asToll_29 : decode cX9_asToll 29 = .ok (.getfield 118, 3) := by decide +kernel
theorem dX9_asToll_32 : decode cX9_asToll 32 = .ok (.iadd, 1) := by decide +kernel
theorem dX9_asToll_33 : decode cX9_asToll 33 = .ok (.ireturn, 1) := by decide +kernel
theorem dX9_asChurch_0 : decode cX9_asChurch 0 = .ok (.aload_n 0, 1) := by decide +kernel
theorem dX9_asChurch_1 : decode cX9_asChurch 1 = .ok (.dup, 1) := by decide +kernel
theorem dX9_asChurch_2 : decode cX9_asChurch 2 = .ok (.getfield 268, 3) := by decide +kernel
theorem dX9_asChurch_5 : decode cX9_asChurch 5 = .ok (.ldc2_w 283, 3) := by decide +kernel
theorem dX9_asChurch_8 : decode cX9_asChurch 8 = .ok (.ladd, 1) := by decide +kernel
theorem dX9_asChurch_9 : decode cX9_asChurch 9 = .ok (.putfield 268, 3) := by decide +kernel
theorem dX9_asChurch_12 : decode cX9_asChurch 12 = .ok (.aload_n 0, 1) := by decide +kernel
theorem dX9_asChurch_13 : decode cX9_asChurch 13 = .ok (.iload_n 1, 1) := by decide +kernel
theorem dX9_asChurch_14 : decode cX9_asChurch 14 = .ok (.invokevirtual 242, 3) := by decide +kernel
theorem dX9_asChurch_17 : decode cX9_asChurch 17 = .ok (.aload_n 0, 1) := by decide +kernel
theorem dX9_asChurch_18 : decode cX9_asChurch 18 = .ok (.getfield 36, 3) := by decide +kernel
theorem dX9_asChurch_21 : decode cX9_asChurch 21 = .ok (.getfield 165, 3) := by decide +kernel
theorem dX9_asChurch_24 : decode cX9_asChurch 24 = .ok (.iadd, 1) := by decide +kernel
theorem dX9_asChurch_25 : decode cX9_asChurch 25 = .ok (.ireturn, 1) := by decide +kernel
