theorem dX0_init_0 : decode cX0_init 0 = .ok (.aload_n 0, 1) := by decide +kernel
theorem dX0_init_1 : decode cX0_init 1 = .ok (.invokespecial 3, 3) := by decide +kernel
theorem dX0_init_4 : decode cX0_init 4 = .ok (.aload_n 0, 1) := by decide +kernel
theorem dX0_init_5 : decode cX0_init 5 = .ok (.iconst 0, 1) := by decide +kernel
theorem dX0_init_6 : decode cX0_init 6 = .ok (.putfield 9, 3) := by decide +kernel
theorem dX0_init_9 : decode cX0_init 9 = .ok (.aload_n 0, 1) := by decide +kernel
theorem dX0_init_10 : decode cX0_init 10 = .ok (.iconst 0, 1) := by decide +kernel
theorem dX0_init_11 : decode cX0_init 11 = .ok (.putfield 15, 3) := by decide +kernel
theorem dX0_init_14 : decode cX0_init 14 = .ok (.aload_n 0, 1) := by decide +kernel
theorem dX0_init_15 : decode cX0_init 15 = .ok (.aconst_null, 1) := by decide +kernel
theorem dX0_init_16 : decode cX0_init 16 = .ok (.putfield 19, 3) := by decide +kernel
theorem dX0_init_19 : decode cX0_init 19 = .ok (.aload_n 0, 1) := by decide +kernel
theorem dX0_init_20 : decode cX0_init 20 = .ok (.iconst 0, 1) := by decide +kernel
theorem dX0_init_21 : decode cX0_init 21 = .ok (.putfield 23, 3) := by decide +kernel
theorem dX0_init_24 : decode cX0_init 24 = .ok (.aload_n 0, 1) := by decide +kernel
theorem dX0_init_25 : decode cX0_init 25 = .ok (.iconst 3, 1) := by decide +kernel
theorem dX0_init_26 : decode cX0_init 26 = .ok (.newarray .int, 2) := by decide +kernel
theorem dX0_init_28 : decode cX0_init 28 = .ok (.putfield 26, 3) := by decide +kernel
theorem dX0_init_31 : decode cX0_init 31 = .ok (.aload_n 0, 1) := by decide +kernel
theorem dX0_init_32 : decode cX0_init 32 = .ok (.aload_n 1, 1) := by decide +kernel
theorem dX0_init_33 : decode cX0_init 33 = .ok (.putfield 30, 3) := by decide +kernel
theorem dX0_init_36 : decode cX0_init 36 = .ok (.aload_n 0, 1) := by decide +kernel
theorem dX0_init_37 : decode cX0_init 37 = .ok (.iload_n 2, 1) := by decide +kernel
theorem dX0_init_38 : decode cX0_init 38 = .ok (.putfield 34, 3) := by decide +kernel
theorem dX0_init_41 : decode cX0_init 41 = .ok (.aload_n 0, 1) := by decide +kernel
theorem dX0_init_42 : decode cX0_init 42 = .ok (.iload_n 3, 1) := by decide +kernel
theorem dX0_init_43 : decode cX0_init 43 = .ok (.putfield 37, 3) := by decide +kernel
theorem dX0_init_46 : decode cX0_init 46 = .ok (.return_, 1) := by decide +kernel
theorem dX0_isRunning_0 : decode cX0_isRunning 0 = .ok (.aload_n 0, 1) := by decide +kernel
theorem dX0_isRunning_1 : decode cX0_isRunning 1 = .ok (.getfield 9, 3) := by decide +kernel
theorem dX0_isRunning_4 : decode cX0_isRunning 4 = .ok (.ifCond .ne 14, 3) := by decide +kernel
theorem dX0_isRunning_7 : decode cX0_isRunning 7 = .ok (.aload_n 0, 1) := by decide +kernel
theorem dX0_isRunning_8 : decode cX0_isRunning 8 = .ok (.getfield 15, 3) := by decide +kernel
theorem dX0_isRunning_11 : decode cX0_isRunning 11 = .ok (.ifCond .ne 7, 3) := by decide +kernel
theorem dX0_isRunning_14 : decode cX0_isRunning 14 = .ok (.iconst 1, 1) := by decide +kernel
theorem dX0_isRunning_15 : decode cX0_isRunning 15 = .ok (.goto 4, 3) := by decide +kernel
theorem dX0_isRunning_18 : decode cX0_isRunning 18 = .ok (.iconst 0, 1) := by decide +kernel
theorem dX0_isRunning_19 : decode cX0_isRunning 19 = .ok (.ireturn, 1) := by decide +kernel
theorem dX0_hasReached_0 : decode cX0_hasReached 0 = .ok (.iload_n 1, 1) := by decide +kernel
theorem dX0_hasReached_1 : decode cX0_hasReached 1 = .ok (.aload_n 0, 1) := by decide +kernel
theorem dX0_hasReached_2 : decode cX0_hasReached 2 = .ok (.getfield 23, 3) := by decide +kernel
theorem dX0_hasReached_5 : decode cX0_hasReached 5 = .ok (.if_icmp .ge 7, 3) := by decide +kernel
theorem dX0_hasReached_8 : decode cX0_hasReached 8 = .ok (.iconst 1, 1) := by decide +kernel
theorem dX0_hasReached_9 : decode cX0_hasReached 9 = .ok (.goto 4, 3) := by decide +kernel
theorem dX0_hasReached_12 : decode cX0_hasReached 12 = .ok (.iconst 0, 1) := by decide +kernel
theorem dX0_hasReached_13 : decode cX0_hasReached 13 = .ok (.ireturn, 1) := by decide +kernel
theorem dX0_isJoinedTo_0 : decode cX0_isJoinedTo 0 = .ok (.aload_n 0, 1) := by decide +kernel
theorem dX0_isJoinedTo_1 : decode cX0_isJoinedTo 1 = .ok (.getfield 9, 3) := by decide +kernel
theorem dX0_isJoinedTo_4 : decode cX0_isJoinedTo 4 = .ok (.iconst 1, 1) := by decide +kernel
theorem dX0_isJoinedTo_5 : decode cX0_isJoinedTo 5 = .ok (.if_icmp .ne 15, 3) := by decide +kernel
theorem dX0_isJoinedTo_8 : decode cX0_isJoinedTo 8 = .ok (.aload_n 0, 1) := by decide +kernel
theorem dX0_isJoinedTo_9 : decode cX0_isJoinedTo 9 = .ok (.getfield 19, 3) := by decide +kernel
theorem dX0_isJoinedTo_12 : decode cX0_isJoinedTo 12 = .ok (.aload_n 1, 1) := by decide +kernel
theorem dX0_isJoinedTo_13 : decode cX0_isJoinedTo 13 = .ok (.if_acmp .ne 7, 3) := by decide +kernel
theorem dX0_isJoinedTo_16 : decode cX0_isJoinedTo 16 = .ok (.iconst 1, 1) := by decide +kernel
theorem dX0_isJoinedTo_17 : decode cX0_isJoinedTo 17 = .ok (.goto 4, 3) := by decide +kernel
theorem dX0_isJoinedTo_20 : decode cX0_isJoinedTo 20 = .ok (.iconst 0, 1) := by decide +kernel
theorem dX0_isJoinedTo_21 : decode cX0_isJoinedTo 21 = .ok (.ireturn, 1) := by decide +kernel
set_option maxRecDepth 20000 in
theorem ggX0_runClocks_X0_isRunning : GoodIn wsX0_runClocks wsX0_isRunning := goodIn_r _ [7, 8, 9, 45, 46, 47, 48, 49, 50, 51, 52] (by decide +kernel) (by decide +kernel)
set_option maxRecDepth 20000 in
theorem gX0_runClocks_X0_isRunning : GoodIn wsX0_runClocks (wsV RX0 40 RX0 yX0_isRunning wsX0_isRunning) := goodIn_app (goodIn_of _ (by decide +kernel)) ggX0_runClocks_X0_isRunning
set_option maxRecDepth 20000 in
theorem ggX0_runClocks_X1_countHours : GoodIn wsX0_runClocks wsX1_countHours := goodIn_r _ [14, 15, 16, 17, 13, 18, 19, 20, 21, 22, 23, 24, 25, 26, 27, 28, 29, 30, 31, 32, 33, 34, 35, 36, 37, 38, 39, 53, 54, 55, 56, 57, 58, 59, 60, 61] (by decide +kernel) (by decide +kernel)
set_option maxRecDepth 20000 in
theorem gX0_runClocks_X1_countHours : GoodIn wsX0_runClocks (wsV RX0 44 RX1 yX1_countHours wsX1_countHours) := goodIn_app (goodIn_of _ (by decide +kernel)) ggX0_runClocks_X1_countHours
set_option maxRecDepth 20000 in
theorem ggX0_runClocks_X0_hasReached : GoodIn wsX0_runClocks wsX0_hasReached := goodIn_r _ [43, 44, 45, 46, 47, 48, 49, 50, 51, 52] (by decide +kernel) (by decide +kernel)
set_option maxRecDepth 20000 in
theorem gX0_runClocks_X0_hasReached : GoodIn wsX0_runClocks (wsV RX0 50 RX0 yX0_hasReached wsX0_hasReached) := goodIn_app (goodIn_of _ (by decide +kernel)) ggX0_runClocks_X0_hasReached
theorem dX0_runClocks_0 : decode cX0_runClocks 0 = .ok (.aload_n 0, 1) := by decide +kernel
theorem dX0_runClocks_1 : decode cX0_runClocks 1 = .ok (.invokevirtual 40, 3) := by decide +kernel
theorem dX0_runClocks_4 : decode cX0_runClocks 4 = .ok (.ifCond .ne 4, 3) := by decide +kernel
theorem dX0_runClocks_7 : decode cX0_runClocks 7 = .ok (.return_, 1) := by decide +kernel
theorem dX0_runClocks_8 : decode cX0_runClocks 8 = .ok (.aload_n 0, 1) := by decide +kernel
theorem dX0_runClocks_9 : decode cX0_runClocks 9 = .ok (.getfield 30, 3) := by decide +kernel
theorem dX0_runClocks_12 : decode cX0_runClocks 12 = .ok (.iload_n 1, 1) := by decide +kernel
theorem dX0_runClocks_13 : decode cX0_runClocks 13 = .ok (.iload_n 2, 1) := by decide +kernel
theorem dX0_runClocks_14 : decode cX0_runClocks 14 = .ok (.invokevirtual 44, 3) := by decide +kernel
theorem dX0_runClocks_17 : decode cX0_runClocks 17 = .ok (.istore_n 3, 1) := by decide +kernel
theorem dX0_runClocks_18 : decode cX0_runClocks 18 = .ok (.iconst 0, 1) := by decide +kernel
theorem dX0_runClocks_19 : decode cX0_runClocks 19 = .ok (.istore 4, 2) := by decide +kernel
theorem dX0_runClocks_21 : decode cX0_runClocks 21 = .ok (.iload 4, 2) := by decide +kernel
theorem dX0_runClocks_23 : decode cX0_runClocks 23 = .ok (.iconst 2, 1) := by decide +kernel
theorem dX0_runClocks_24 : decode cX0_runClocks 24 = .ok (.if_icmp .gt 29, 3) := by decide +kernel
theorem dX0_runClocks_27 : decode cX0_runClocks 27 = .ok (.aload_n 0, 1) := by decide +kernel
theorem dX0_runClocks_28 : decode cX0_runClocks 28 = .ok (.iload 4, 2) := by decide +kernel
theorem dX0_runClocks_30 : decode cX0_runClocks 30 = .ok (.invokevirtual 50, 3) := by decide +kernel
theorem dX0_runClocks_33 : decode cX0_runClocks 33 = .ok (.ifCond .ne 14, 3) := by decide +kernel
theorem dX0_runClocks_36 : decode cX0_runClocks 36 = .ok (.aload_n 0, 1) := by decide +kernel
theorem dX0_runClocks_37 : decode cX0_runClocks 37 = .ok (.getfield 26, 3) := by decide +kernel
theorem dX0_runClocks_40 : decode cX0_runClocks 40 = .ok (.iload 4, 2) := by decide +kernel
theorem dX0_runClocks_42 : decode cX0_runClocks 42 = .ok (.dup2, 1) := by decide +kernel
theorem dX0_runClocks_43 : decode cX0_runClocks 43 = .ok (.iaload, 1) := by decide +kernel
theorem dX0_runClocks_44 : decode cX0_runClocks 44 = .ok (.iload_n 3, 1) := by decide +kernel
theorem dX0_runClocks_45 : decode cX0_runClocks 45 = .ok (.iadd, 1) := by decide +kernel
theorem dX0_runClocks_46 : decode cX0_runClocks 46 = .ok (.iastore, 1) := by decide +kernel
theorem dX0_runClocks_47 : decode cX0_runClocks 47 = .ok (.iinc 4 1, 3) := by decide +kernel
theorem dX0_runClocks_50 : decode cX0_runClocks 50 = .ok (.goto (-29), 3) := by decide +kernel
theorem dX0_runClocks_53 : decode cX0_runClocks 53 = .ok (.return_, 1) := by decide +kernel
theorem dX1_init_0 : decode cX1_init 0 = .ok (.aload_n 0, 1) := by decide +kernel
theorem dX1_init_1 : decode cX1_init 1 = .ok (.invokespecial 3, 3) := by decide +kernel
theorem dX1_init_4 : decode cX1_init 4 = .ok (.aload_n 0, 1) := by decide +kernel
theorem dX1_init_5 : decode cX1_init 5 = .ok (.bipush 31, 2) := by decide +kernel
theorem dX1_init_7 : decode cX1_init 7 = .ok (.putfield 9, 3) := by decide +kernel
theorem dX1_init_10 : decode cX1_init 10 = .ok (.aload_n 0, 1) := by decide +kernel
theorem dX1_init_11 : decode cX1_init 11 = .ok (.bipush 8, 2) := by decide +kernel
theorem dX1_init_13 : decode cX1_init 13 = .ok (.putfield 15, 3) := by decide +kernel
theorem dX1_init_16 : decode cX1_init 16 = .ok (.aload_n 0, 1) := by decide +kernel
theorem dX1_init_17 : decode cX1_init 17 = .ok (.bipush 17, 2) := by decide +kernel
theorem dX1_init_19 : decode cX1_init 19 = .ok (.putfield 18, 3) := by decide +kernel
theorem dX1_init_22 : decode cX1_init 22 = .ok (.aload_n 0, 1) := by decide +kernel
theorem dX1_init_23 : decode cX1_init 23 = .ok (.bipush 8, 2) := by decide +kernel
theorem dX1_init_25 : decode cX1_init 25 = .ok (.newarray .int, 2) := by decide +kernel
theorem dX1_init_27 : decode cX1_init 27 = .ok (.putfield 21, 3) := by decide +kernel
theorem dX1_init_30 : decode cX1_init 30 = .ok (.aload_n 0, 1) := by decide +kernel
theorem dX1_init_31 : decode cX1_init 31 = .ok (.bipush 8, 2) := by decide +kernel
theorem dX1_init_33 : decode cX1_init 33 = .ok (.newarray .int, 2) := by decide +kernel
theorem dX1_init_35 : decode cX1_init 35 = .ok (.putfield 25, 3) := by decide +kernel
theorem dX1_init_38 : decode cX1_init 38 = .ok (.aload_n 0, 1) := by decide +kernel
theorem dX1_init_39 : decode cX1_init 39 = .ok (.bipush 8, 2) := by decide +kernel
theorem dX1_init_41 : decode cX1_init 41 = .ok (.newarray .int, 2) := by decide +kernel
theorem dX1_init_43 : decode cX1_init 43 = .ok (.putfield 28, 3) := by decide +kernel
theorem dX1_init_46 : decode cX1_init 46 = .ok (.aload_n 0, 1) := by decide +kernel
theorem dX1_init_47 : decode cX1_init 47 = .ok (.iconst 0, 1) := by decide +kernel
theorem dX1_init_48 : decode cX1_init 48 = .ok (.putfield 31, 3) := by decide +kernel
theorem dX1_init_51 : decode cX1_init 51 = .ok (.aload_n 0, 1) := by decide +kernel
theorem dX1_init_52 : decode cX1_init 52 = .ok (.iconst 0, 1) := by decide +kernel
theorem dX1_init_53 : decode cX1_init 53 = .ok (.putfield 34, 3) := by decide +kernel
theorem dX1_init_56 : decode cX1_init 56 = .ok (.aload_n 0, 1) := by decide +kernel
theorem dX1_init_57 : decode cX1_init 57 = .ok (.iconst 0, 1) := by decide +kernel
theorem dX1_init_58 : decode cX1_init 58 = .ok (.putfield 37, 3) := by decide +kernel
theorem dX1_init_61 : decode cX1_init 61 = .ok (.return_, 1) := by decide +kernel
theorem dX1_keepContract_0 : decode cX1_keepContract 0 = .ok (.aload_n 0, 1) := by decide +kernel
theorem dX1_keepContract_1 : decode cX1_keepContract 1 = .ok (.getfield 31, 3) := by decide +kernel
theorem dX1_keepContract_4 : decode cX1_keepContract 4 = .ok (.bipush 8, 2) := by decide +kernel
theorem dX1_keepContract_6 : decode cX1_keepContract 6 = .ok (.if_icmp .lt 5, 3) := by decide +kernel
theorem dX1_keepContract_9 : decode cX1_keepContract 9 = .ok (.iconst 0, 1) := by decide +kernel
theorem dX1_keepContract_10 : decode cX1_keepContract 10 = .ok (.ireturn, 1) := by decide +kernel
theorem dX1_keepContract_11 : decode cX1_keepContract 11 = .ok (.aload_n 0, 1) := by decide +kernel
theorem dX1_keepContract_12 : decode cX1_keepContract 12 = .ok (.getfield 21, 3) := by decide +kernel
theorem dX1_keepContract_15 : decode cX1_keepContract 15 = .ok (.aload_n 0, 1) := by decide +kernel
theorem dX1_keepContract_16 : decode cX1_keepContract 16 = .ok (.getfield 31, 3) := by decide +kernel
theorem dX1_keepContract_19 : decode cX1_keepContract 19 = .ok (.iload_n 1, 1) := by decide +kernel
theorem dX1_keepContract_20 : decode cX1_keepContract 20 = .ok (.iastore, 1) := by decide +kernel
theorem dX1_keepContract_21 : decode cX1_keepContract 21 = .ok (.aload_n 0, 1) := by decide +kernel
theorem dX1_keepContract_22 : decode cX1_keepContract 22 = .ok (.getfield 25, 3) := by decide +kernel
theorem dX1_keepContract_25 : decode cX1_keepContract 25 = .ok (.aload_n 0, 1) := by decide +kernel
theorem dX1_keepContract_26 : decode cX1_keepContract 26 = .ok (.getfield 31, 3) := by decide +kernel
theorem dX1_keepContract_29 : decode cX1_keepContract 29 = .ok (.iload_n 2, 1) := by decide +kernel
theorem dX1_keepContract_30 : decode cX1_keepContract 30 = .ok (.iastore, 1) := by decide +kernel
theorem dX1_keepContract_31 : decode cX1_keepContract 31 = .ok (.aload_n 0, 1) := by decide +kernel
theorem dX1_keepContract_32 : decode cX1_keepContract 32 = .ok (.getfield 28, 3) := by decide +kernel
theorem dX1_keepContract_35 : decode cX1_keepContract 35 = .ok (.aload_n 0, 1) := by decide +kernel
theorem dX1_keepContract_36 : decode cX1_keepContract 36 = .ok (.getfield 31, 3) := by decide +kernel
theorem dX1_keepContract_39 : decode cX1_keepContract 39 = .ok (.iload_n 3, 1) := by decide +kernel
theorem dX1_keepContract_40 : decode cX1_keepContract 40 = .ok (.iastore, 1) := by decide +kernel
theorem dX1_keepContract_41 : decode cX1_keepContract 41 = .ok (.aload_n 0, 1) := by decide +kernel
theorem dX1_keepContract_42 : decode cX1_keepContract 42 = .ok (.dup, 1) := by decide +kernel
theorem dX1_keepContract_43 : decode cX1_keepContract 43 = .ok (.getfield 31, 3) := by decide +kernel
theorem dX1_keepContract_46 : decode cX1_keepContract 46 = .ok (.iconst 1, 1) := by decide +kernel
theorem dX1_keepContract_47 : decode cX1_keepContract 47 = .ok (.iadd, 1) := by decide +kernel
theorem dX1_keepContract_48 : decode cX1_keepContract 48 = .ok (.putfield 31, 3) := by decide +kernel
theorem dX1_keepContract_51 : decode cX1_keepContract 51 = .ok (.iconst 1, 1) := by decide +kernel
theorem dX1_keepContract_52 : decode cX1_keepContract 52 = .ok (.ireturn, 1) := by decide +kernel
theorem dX1_covers_0 : decode cX1_covers 0 = .ok (.iconst 0, 1) := by decide +kernel
theorem dX1_covers_1 : decode cX1_covers 1 = .ok (.istore_n 3, 1) := by decide +kernel
theorem dX1_covers_2 : decode cX1_covers 2 = .ok (.iload_n 3, 1) := by decide +kernel
theorem dX1_covers_3 : decode cX1_covers 3 = .ok (.aload_n 0, 1) := by decide +kernel
theorem dX1_covers_4 : decode cX1_covers 4 = .ok (.getfield 31, 3) := by decide +kernel
theorem dX1_covers_7 : decode cX1_covers 7 = .ok (.if_icmp .ge 44, 3) := by decide +kernel
theorem dX1_covers_10 : decode cX1_covers 10 = .ok (.aload_n 0, 1) := by decide +kernel
theorem dX1_covers_11 : decode cX1_covers 11 = .ok (.getfield 21, 3) := by decide +kernel
theorem dX1_covers_14 : decode cX1_covers 14 = .ok (.iload_n 3, 1) := by decide +kernel
theorem dX1_covers_15 : decode cX1_covers 15 = .ok (.iaload, 1) := by decide +kernel
theorem dX1_covers_16 : decode cX1_covers 16 = .ok (.iload_n 1, 1) := by decide +kernel
theorem dX1_covers_17 : decode cX1_covers 17 = .ok (.ishr, 1) := by decide +kernel
theorem dX1_covers_18 : decode cX1_covers 18 = .ok (.iconst 1, 1) := by decide +kernel
theorem dX1_covers_19 : decode cX1_covers 19 = .ok (.iand, 1) := by decide +kernel
theorem dX1_covers_20 : decode cX1_covers 20 = .ok (.ifCond .eq 25, 3) := by decide +kernel
theorem dX1_covers_23 : decode cX1_covers 23 = .ok (.aload_n 0, 1) := by decide +kernel
theorem dX1_covers_24 : decode cX1_covers 24 = .ok (.getfield 25, 3) := by decide +kernel
theorem dX1_covers_27 : decode cX1_covers 27 = .ok (.iload_n 3, 1) := by decide +kernel
theorem dX1_covers_28 : decode cX1_covers 28 = .ok (.iaload, 1) := by decide +kernel
theorem dX1_covers_29 : decode cX1_covers 29 = .ok (.iload_n 2, 1) := by decide +kernel
theorem dX1_covers_30 : decode cX1_covers 30 = .ok (.if_icmp .gt 15, 3) := by decide +kernel
theorem dX1_covers_33 : decode cX1_covers 33 = .ok (.iload_n 2, 1) := by decide +kernel
theorem dX1_covers_34 : decode cX1_covers 34 = .ok (.aload_n 0, 1) := by decide +kernel
theorem dX1_covers_35 : decode cX1_covers 35 = .ok (.getfield 28, 3) := by decide +kernel
theorem dX1_covers_38 : decode cX1_covers 38 = .ok (.iload_n 3, 1) := by decide +kernel
theorem dX1_covers_39 : decode cX1_covers 39 = .ok (.iaload, 1) := by decide +kernel
theorem dX1_covers_40 : decode cX1_covers 40 = .ok (.if_icmp .gt 5, 3) := by decide +kernel
theorem dX1_covers_43 : decode cX1_covers 43 = .ok (.iconst 1, 1) := by decide +kernel
theorem dX1_covers_44 : decode cX1_covers 44 = .ok (.ireturn, 1) := by decide +kernel
theorem dX1_covers_45 : decode cX1_covers 45 = .ok (.iinc 3 1, 3) := by decide +kernel
theorem dX1_covers_48 : decode cX1_covers 48 = .ok (.goto (-46), 3) := by decide +kernel
theorem dX1_covers_51 : decode cX1_covers 51 = .ok (.iconst 0, 1) := by decide +kernel
theorem dX1_covers_52 : decode cX1_covers 52 = .ok (.ireturn, 1) := by decide +kernel
theorem dX1_countsDay_0 : decode cX1_countsDay 0 = .ok (.aload_n 0, 1) := by decide +kernel
theorem dX1_countsDay_1 : decode cX1_countsDay 1 = .ok (.getfield 9, 3) := by decide +kernel
theorem dX1_countsDay_4 : decode cX1_countsDay 4 = .ok (.iload_n 1, 1) := by decide +kernel
theorem dX1_countsDay_5 : decode cX1_countsDay 5 = .ok (.bipush 7, 2) := by decide +kernel
theorem dX1_countsDay_7 : decode cX1_countsDay 7 = .ok (.irem, 1) := by decide +kernel
theorem dX1_countsDay_8 : decode cX1_countsDay 8 = .ok (.ishr, 1) := by decide +kernel
theorem dX1_countsDay_9 : decode cX1_countsDay 9 = .ok (.iconst 1, 1) := by decide +kernel
theorem dX1_countsDay_10 : decode cX1_countsDay 10 = .ok (.iand, 1) := by decide +kernel
theorem dX1_countsDay_11 : decode cX1_countsDay 11 = .ok (.ifCond .eq 7, 3) := by decide +kernel
theorem dX1_countsDay_14 : decode cX1_countsDay 14 = .ok (.iconst 1, 1) := by decide +kernel
theorem dX1_countsDay_15 : decode cX1_countsDay 15 = .ok (.goto 4, 3) := by decide +kernel
theorem dX1_countsDay_18 : decode cX1_countsDay 18 = .ok (.iconst 0, 1) := by decide +kernel
theorem dX1_countsDay_19 : decode cX1_countsDay 19 = .ok (.ireturn, 1) := by decide +kernel
set_option maxRecDepth 20000 in
theorem ggX1_counts_X1_countsDay : GoodIn wsX1_counts wsX1_countsDay := goodIn_r _ [7, 8, 9, 10, 11, 12, 13, 14, 15, 16, 17] (by decide +kernel) (by decide +kernel)
set_option maxRecDepth 20000 in
theorem gX1_counts_X1_countsDay : GoodIn wsX1_counts (wsV RX1 40 RX1 yX1_countsDay wsX1_countsDay) := goodIn_app (goodIn_of _ (by decide +kernel)) ggX1_counts_X1_countsDay
theorem dX1_counts_0 : decode cX1_counts 0 = .ok (.iload_n 1, 1) := by decide +kernel
theorem dX1_counts_1 : decode cX1_counts 1 = .ok (.bipush 24, 2) := by decide +kernel
theorem dX1_counts_3 : decode cX1_counts 3 = .ok (.irem, 1) := by decide +kernel
theorem dX1_counts_4 : decode cX1_counts 4 = .ok (.istore_n 2, 1) := by decide +kernel
theorem dX1_counts_5 : decode cX1_counts 5 = .ok (.aload_n 0, 1) := by decide +kernel
theorem dX1_counts_6 : decode cX1_counts 6 = .ok (.iload_n 1, 1) := by decide +kernel
theorem dX1_counts_7 : decode cX1_counts 7 = .ok (.bipush 24, 2) := by decide +kernel
theorem dX1_counts_9 : decode cX1_counts 9 = .ok (.idiv, 1) := by decide +kernel
theorem dX1_counts_10 : decode cX1_counts 10 = .ok (.invokevirtual 40, 3) := by decide +kernel
theorem dX1_counts_13 : decode cX1_counts 13 = .ok (.ifCond .eq 23, 3) := by decide +kernel
theorem dX1_counts_16 : decode cX1_counts 16 = .ok (.aload_n 0, 1) := by decide +kernel
theorem dX1_counts_17 : decode cX1_counts 17 = .ok (.getfield 15, 3) := by decide +kernel
theorem dX1_counts_20 : decode cX1_counts 20 = .ok (.iload_n 2, 1) := by decide +kernel
theorem dX1_counts_21 : decode cX1_counts 21 = .ok (.if_icmp .gt 15, 3) := by decide +kernel
theorem dX1_counts_24 : decode cX1_counts 24 = .ok (.iload_n 2, 1) := by decide +kernel
theorem dX1_counts_25 : decode cX1_counts 25 = .ok (.aload_n 0, 1) := by decide +kernel
theorem dX1_counts_26 : decode cX1_counts 26 = .ok (.getfield 18, 3) := by decide +kernel
theorem dX1_counts_29 : decode cX1_counts 29 = .ok (.if_icmp .gt 7, 3) := by decide +kernel
theorem dX1_counts_32 : decode cX1_counts 32 = .ok (.iconst 1, 1) := by decide +kernel
theorem dX1_counts_33 : decode cX1_counts 33 = .ok (.goto 4, 3) := by decide +kernel
theorem dX1_counts_36 : decode cX1_counts 36 = .ok (.iconst 0, 1) := by decide +kernel
theorem dX1_counts_37 : decode cX1_counts 37 = .ok (.ireturn, 1) := by decide +kernel
set_option maxRecDepth 20000 in
theorem ggX1_countHours_X1_countBefore : GoodIn wsX1_countHours wsX1_countBefore := goodIn_r _ [5, 6, 7, 8, 9, 10, 11, 12, 13, 14, 15, 16, 17, 18, 19, 20, 21, 22, 23, 24, 25, 4, 26, 27, 28, 29, 30, 31, 32, 33, 34, 35] (by decide +kernel) (by decide +kernel)
set_option maxRecDepth 20000 in
theorem gX1_countHours_X1_countBefore : GoodIn wsX1_countHours (wsV RX1 44 RX1 yX1_countBefore wsX1_countBefore) := goodIn_app (goodIn_of _ (by decide +kernel)) ggX1_countHours_X1_countBefore
theorem dX1_countHours_0 : decode cX1_countHours 0 = .ok (.aload_n 0, 1) := by decide +kernel
theorem dX1_countHours_1 : decode cX1_countHours 1 = .ok (.iload_n 2, 1) := by decide +kernel
theorem dX1_countHours_2 : decode cX1_countHours 2 = .ok (.invokevirtual 44, 3) := by decide +kernel
theorem dX1_countHours_5 : decode cX1_countHours 5 = .ok (.aload_n 0, 1) := by decide +kernel
theorem dX1_countHours_6 : decode cX1_countHours 6 = .ok (.iload_n 1, 1) := by decide +kernel
theorem dX1_countHours_7 : decode cX1_countHours 7 = .ok (.invokevirtual 44, 3) := by decide +kernel
theorem dX1_countHours_10 : decode cX1_countHours 10 = .ok (.isub, 1) := by decide +kernel
theorem dX1_countHours_11 : decode cX1_countHours 11 = .ok (.ireturn, 1) := by decide +kernel
set_option maxRecDepth 20000 in
theorem ggX1_countBefore_J6_bitCount_0f7a4 : GoodIn wsX1_countBefore wsJ6_bitCount_0f7a4 := goodIn_r _ [14, 15, 16, 17] (by decide +kernel) (by decide +kernel)
set_option maxRecDepth 20000 in
theorem gX1_countBefore_J6_bitCount_0f7a4 : GoodIn wsX1_countBefore (va_wsS RX1 48 yJ6_bitCount_0f7a4 wsJ6_bitCount_0f7a4) := goodIn_app (goodIn_of _ (by decide +kernel)) ggX1_countBefore_J6_bitCount_0f7a4
set_option maxRecDepth 20000 in
theorem ggX1_countBefore_X1_countsDay : GoodIn wsX1_countBefore wsX1_countsDay := goodIn_r _ [22, 1, 23, 24, 25, 26, 27, 28, 29, 30, 31] (by decide +kernel) (by decide +kernel)
set_option maxRecDepth 20000 in
theorem gX1_countBefore_X1_countsDay : GoodIn wsX1_countBefore (wsV RX1 40 RX1 yX1_countsDay wsX1_countsDay) := goodIn_app (goodIn_of _ (by decide +kernel)) ggX1_countBefore_X1_countsDay
theorem dX1_countBefore_0 : decode cX1_countBefore 0 = .ok (.iload_n 1, 1) := by decide +kernel
theorem dX1_countBefore_1 : decode cX1_countBefore 1 = .ok (.bipush 24, 2) := by decide +kernel
theorem dX1_countBefore_3 : decode cX1_countBefore 3 = .ok (.idiv, 1) := by decide +kernel
theorem dX1_countBefore_4 : decode cX1_countBefore 4 = .ok (.istore_n 2, 1) := by decide +kernel
theorem dX1_countBefore_5 : decode cX1_countBefore 5 = .ok (.aload_n 0, 1) := by decide +kernel
theorem dX1_countBefore_6 : decode cX1_countBefore 6 = .ok (.getfield 9, 3) := by decide +kernel
theorem dX1_countBefore_9 : decode cX1_countBefore 9 = .ok (.iconst 1, 1) := by decide +kernel
theorem dX1_countBefore_10 : decode cX1_countBefore 10 = .ok (.iload_n 2, 1) := by decide +kernel
theorem dX1_countBefore_11 : decode cX1_countBefore 11 = .ok (.bipush 7, 2) := by decide +kernel
theorem dX1_countBefore_13 : decode cX1_countBefore 13 = .ok (.irem, 1) := by decide +kernel
theorem dX1_countBefore_14 : decode cX1_countBefore 14 = .ok (.ishl, 1) := by decide +kernel
theorem dX1_countBefore_15 : decode cX1_countBefore 15 = .ok (.iconst 1, 1) := by decide +kernel
theorem dX1_countBefore_16 : decode cX1_countBefore 16 = .ok (.isub, 1) := by decide +kernel
theorem dX1_countBefore_17 : decode cX1_countBefore 17 = .ok (.iand, 1) := by decide +kernel
theorem dX1_countBefore_18 : decode cX1_countBefore 18 = .ok (.istore_n 3, 1) := by decide +kernel
theorem dX1_countBefore_19 : decode cX1_countBefore 19 = .ok (.iload_n 2, 1) := by decide +kernel
theorem dX1_countBefore_20 : decode cX1_countBefore 20 = .ok (.bipush 7, 2) := by decide +kernel
theorem dX1_countBefore_22 : decode cX1_countBefore 22 = .ok (.idiv, 1) := by decide +kernel
theorem dX1_countBefore_23 : decode cX1_countBefore 23 = .ok (.aload_n 0, 1) := by decide +kernel
theorem dX1_countBefore_24 : decode cX1_countBefore 24 = .ok (.getfield 9, 3) := by decide +kernel
theorem dX1_countBefore_27 : decode cX1_countBefore 27 = .ok (.invokestatic 48, 3) := by decide +kernel
theorem dX1_countBefore_30 : decode cX1_countBefore 30 = .ok (.imul, 1) := by decide +kernel
theorem dX1_countBefore_31 : decode cX1_countBefore 31 = .ok (.iload_n 3, 1) := by decide +kernel
theorem dX1_countBefore_32 : decode cX1_countBefore 32 = .ok (.invokestatic 48, 3) := by decide +kernel
theorem dX1_countBefore_35 : decode cX1_countBefore 35 = .ok (.iadd, 1) := by decide +kernel
theorem dX1_countBefore_36 : decode cX1_countBefore 36 = .ok (.istore 4, 2) := by decide +kernel
theorem dX1_countBefore_38 : decode cX1_countBefore 38 = .ok (.aload_n 0, 1) := by decide +kernel
theorem dX1_countBefore_39 : decode cX1_countBefore 39 = .ok (.getfield 18, 3) := by decide +kernel
theorem dX1_countBefore_42 : decode cX1_countBefore 42 = .ok (.aload_n 0, 1) := by decide +kernel
theorem dX1_countBefore_43 : decode cX1_countBefore 43 = .ok (.getfield 15, 3) := by decide +kernel
theorem dX1_countBefore_46 : decode cX1_countBefore 46 = .ok (.isub, 1) := by decide +kernel
theorem dX1_countBefore_47 : decode cX1_countBefore 47 = .ok (.iconst 1, 1) := by decide +kernel
theorem dX1_countBefore_48 : decode cX1_countBefore 48 = .ok (.iadd, 1) := by decide +kernel
theorem dX1_countBefore_49 : decode cX1_countBefore 49 = .ok (.istore 5, 2) := by decide +kernel
theorem dX1_countBefore_51 : decode cX1_countBefore 51 = .ok (.iload 4, 2) := by decide +kernel
theorem dX1_countBefore_53 : decode cX1_countBefore 53 = .ok (.iload 5, 2) := by decide +kernel
theorem dX1_countBefore_55 : decode cX1_countBefore 55 = .ok (.imul, 1) := by decide +kernel
theorem dX1_countBefore_56 : decode cX1_countBefore 56 = .ok (.istore 6, 2) := by decide +kernel
theorem dX1_countBefore_58 : decode cX1_countBefore 58 = .ok (.aload_n 0, 1) := by decide +kernel
theorem dX1_countBefore_59 : decode cX1_countBefore 59 = .ok (.iload_n 2, 1) := by decide +kernel
theorem dX1_countBefore_60 : decode cX1_countBefore 60 = .ok (.invokevirtual 40, 3) := by decide +kernel
theorem dX1_countBefore_63 : decode cX1_countBefore 63 = .ok (.ifCond .eq 26, 3) := by decide +kernel
theorem dX1_countBefore_66 : decode cX1_countBefore 66 = .ok (.iload 6, 2) := by decide +kernel
theorem dX1_countBefore_68 : decode cX1_countBefore 68 = .ok (.iload_n 1, 1) := by decide +kernel
theorem dX1_countBefore_69 : decode cX1_countBefore 69 = .ok (.bipush 24, 2) := by decide +kernel
theorem dX1_countBefore_71 : decode cX1_countBefore 71 = .ok (.irem, 1) := by decide +kernel
theorem dX1_countBefore_72 : decode cX1_countBefore 72 = .ok (.aload_n 0, 1) := by decide +kernel
theorem dX1_countBefore_73 : decode cX1_countBefore 73 = .ok (.getfield 15, 3) := by decide +kernel
theorem dX1_countBefore_76 : decode cX1_countBefore 76 = .ok (.isub, 1) := by decide +kernel
theorem dX1_countBefore_77 : decode cX1_countBefore 77 = .ok (.iconst 0, 1) := by decide +kernel
theorem dX1_countBefore_78 : decode cX1_countBefore 78 = .ok (.invokestatic 53, 3) := by decide +kernel
theorem dX1_countBefore_81 : decode cX1_countBefore 81 = .ok (.iload 5, 2) := by decide +kernel
theorem dX1_countBefore_83 : decode cX1_countBefore 83 = .ok (.invokestatic 59, 3) := by decide +kernel
theorem dX1_countBefore_86 : decode cX1_countBefore 86 = .ok (.iadd, 1) := by decide +kernel
theorem dX1_countBefore_87 : decode cX1_countBefore 87 = .ok (.istore 6, 2) := by decide +kernel
theorem dX1_countBefore_89 : decode cX1_countBefore 89 = .ok (.iload 6, 2) := by decide +kernel
theorem dX1_countBefore_91 : decode cX1_countBefore 91 = .ok (.ireturn, 1) := by decide +kernel
set_option maxRecDepth 20000 in
theorem ggX2_init_X1_init : GoodIn wsX2_init wsX1_init := goodIn_r _ [15, 16, 2, 3, 17, 18, 19, 6, 20, 21, 22, 23, 24, 25, 31, 32, 33, 34, 35, 36, 37, 38, 39] (by decide +kernel) (by decide +kernel)
set_option maxRecDepth 20000 in
theorem gX2_init_X1_init_n32 : GoodIn wsX2_init (wsX1_init) := ggX2_init_X1_init
theorem dX2_init_0 : decode cX2_init 0 = .ok (.aload_n 0, 1) := by decide +kernel
theorem dX2_init_1 : decode cX2_init 1 = .ok (.invokespecial 1, 3) := by decide +kernel
theorem dX2_init_4 : decode cX2_init 4 = .ok (.aload_n 0, 1) := by decide +kernel
theorem dX2_init_5 : decode cX2_init 5 = .ok (.iconst 4, 1) := by decide +kernel
theorem dX2_init_6 : decode cX2_init 6 = .ok (.anewarray 9, 3) := by decide +kernel
theorem dX2_init_9 : decode cX2_init 9 = .ok (.putfield 11, 3) := by decide +kernel
theorem dX2_init_12 : decode cX2_init 12 = .ok (.aload_n 0, 1) := by decide +kernel
theorem dX2_init_13 : decode cX2_init 13 = .ok (.bipush 9, 2) := by decide +kernel
theorem dX2_init_15 : decode cX2_init 15 = .ok (.newarray .int, 2) := by decide +kernel
theorem dX2_init_17 : decode cX2_init 17 = .ok (.dup, 1) := by decide +kernel
theorem dX2_init_18 : decode cX2_init 18 = .ok (.iconst 0, 1) := by decide +kernel
theorem dX2_init_19 : decode cX2_init 19 = .ok (.iconst 4, 1) := by decide +kernel
theorem dX2_init_20 : decode cX2_init 20 = .ok (.iastore, 1) := by decide +kernel
theorem dX2_init_21 : decode cX2_init 21 = .ok (.dup, 1) := by decide +kernel
theorem dX2_init_22 : decode cX2_init 22 = .ok (.iconst 1, 1) := by decide +kernel
theorem dX2_init_23 : decode cX2_init 23 = .ok (.bipush 8, 2) := by decide +kernel
theorem dX2_init_25 : decode cX2_init 25 = .ok (.iastore, 1) := by decide +kernel
theorem dX2_init_26 : decode cX2_init 26 = .ok (.dup, 1) := by decide +kernel
theorem dX2_init_27 : decode cX2_init 27 = .ok (.iconst 2, 1) := by decide +kernel
theorem dX2_init_28 : decode cX2_init 28 = .ok (.bipush 16, 2) := by decide +kernel
theorem dX2_init_30 : decode cX2_init 30 = .ok (.iastore, 1) := by decide +kernel
theorem dX2_init_31 : decode cX2_init 31 = .ok (.dup, 1) := by decide +kernel
theorem dX2_init_32 : decode cX2_init 32 = .ok (.iconst 3, 1) := by decide +kernel
theorem dX2_init_33 : decode cX2_init 33 = .ok (.iconst 2, 1) := by decide +kernel
theorem dX2_init_34 : decode cX2_init 34 = .ok (.iastore, 1) := by decide +kernel
theorem dX2_init_35 : decode cX2_init 35 = .ok (.dup, 1) := by decide +kernel
theorem dX2_init_36 : decode cX2_init 36 = .ok (.iconst 4, 1) := by decide +kernel
theorem dX2_init_37 : decode cX2_init 37 = .ok (.iconst 4, 1) := by decide +kernel
theorem dX2_init_38 : decode cX2_init 38 = .ok (.iastore, 1) := by decide +kernel
theorem dX2_init_39 : decode cX2_init 39 = .ok (.dup, 1) := by decide +kernel
theorem dX2_init_40 : decode cX2_init 40 = .ok (.iconst 5, 1) := by decide +kernel
theorem dX2_init_41 : decode cX2_init 41 = .ok (.bipush 8, 2) := by decide +kernel
theorem dX2_init_43 : decode cX2_init 43 = .ok (.iastore, 1) := by decide +kernel
theorem dX2_init_44 : decode cX2_init 44 = .ok (.dup, 1) := by decide +kernel
theorem dX2_init_45 : decode cX2_init 45 = .ok (.bipush 6, 2) := by decide +kernel
theorem dX2_init_47 : decode cX2_init 47 = .ok (.iconst 1, 1) := by decide +kernel
theorem dX2_init_48 : decode cX2_init 48 = .ok (.iastore, 1) := by decide +kernel
theorem dX2_init_49 : decode cX2_init 49 = .ok (.dup, 1) := by decide +kernel
theorem dX2_init_50 : decode cX2_init 50 = .ok (.bipush 7, 2) := by decide +kernel
theorem dX2_init_52 : decode cX2_init 52 = .ok (.iconst 2, 1) := by decide +kernel
theorem dX2_init_53 : decode cX2_init 53 = .ok (.iastore, 1) := by decide +kernel
theorem dX2_init_54 : decode cX2_init 54 = .ok (.dup, 1) := by decide +kernel
theorem dX2_init_55 : decode cX2_init 55 = .ok (.bipush 8, 2) := by decide +kernel
theorem dX2_init_57 : decode cX2_init 57 = .ok (.iconst 4, 1) := by decide +kernel
theorem dX2_init_58 : decode cX2_init 58 = .ok (.iastore, 1) := by decide +kernel
theorem dX2_init_59 : decode cX2_init 59 = .ok (.putfield 15, 3) := by decide +kernel
theorem dX2_init_62 : decode cX2_init 62 = .ok (.aload_n 0, 1) := by decide +kernel
theorem dX2_init_63 : decode cX2_init 63 = .ok (.bipush 40, 2) := by decide +kernel
theorem dX2_init_65 : decode cX2_init 65 = .ok (.anewarray 19, 3) := by decide +kernel
theorem dX2_init_68 : decode cX2_init 68 = .ok (.putfield 21, 3) := by decide +kernel
theorem dX2_init_71 : decode cX2_init 71 = .ok (.aload_n 0, 1) := by decide +kernel
theorem dX2_init_72 : decode cX2_init 72 = .ok (.iconst 0, 1) := by decide +kernel
theorem dX2_init_73 : decode cX2_init 73 = .ok (.putfield 25, 3) := by decide +kernel
theorem dX2_init_76 : decode cX2_init 76 = .ok (.aload_n 0, 1) := by decide +kernel
theorem dX2_init_77 : decode cX2_init 77 = .ok (.iconst 0, 1) := by decide +kernel
theorem dX2_init_78 : decode cX2_init 78 = .ok (.putfield 29, 3) := by decide +kernel
theorem dX2_init_81 : decode cX2_init 81 = .ok (.iconst 0, 1) := by decide +kernel
theorem dX2_init_82 : decode cX2_init 82 = .ok (.istore_n 1, 1) := by decide +kernel
theorem dX2_init_83 : decode cX2_init 83 = .ok (.iload_n 1, 1) := by decide +kernel
theorem dX2_init_84 : decode cX2_init 84 = .ok (.iconst 4, 1) := by decide +kernel
theorem dX2_init_85 : decode cX2_init 85 = .ok (.if_icmp .ge 22, 3) := by decide +kernel
theorem dX2_init_88 : decode cX2_init 88 = .ok (.aload_n 0, 1) := by decide +kernel
theorem dX2_init_89 : decode cX2_init 89 = .ok (.getfield 11, 3) := by decide +kernel
theorem dX2_init_92 : decode cX2_init 92 = .ok (.iload_n 1, 1) := by decide +kernel
theorem dX2_init_93 : decode cX2_init 93 = .ok (.new 9, 3) := by decide +kernel
theorem dX2_init_96 : decode cX2_init 96 = .ok (.dup, 1) := by decide +kernel
theorem dX2_init_97 : decode cX2_init 97 = .ok (.invokespecial 32, 3) := by decide +kernel
theorem dX2_init_100 : decode cX2_init 100 = .ok (.aastore, 1) := by decide +kernel
theorem dX2_init_101 : decode cX2_init 101 = .ok (.iinc 1 1, 3) := by decide +kernel
theorem dX2_init_104 : decode cX2_init 104 = .ok (.goto (-21), 3) := by decide +kernel
theorem dX2_init_107 : decode cX2_init 107 = .ok (.return_, 1) := by decide +kernel
set_option maxRecDepth 20000 in
theorem ggX2_setCalendar_X2_siteAt : GoodIn wsX2_setCalendar wsX2_siteAt := goodIn_ca (goodIn_r _ [8, 9, 10, 11, 29, 30, 31, 32, 33] (by decide +kernel) (by decide +kernel)) (goodIn_sub (fun _ h => List.mem_cons_of_mem _ (List.mem_append_left _ (List.mem_append_right _ h))) (by decide +kernel))
set_option maxRecDepth 20000 in
theorem gX2_setCalendar_X2_siteAt : GoodIn wsX2_setCalendar (wsV RX2 33 RX2 yX2_siteAt wsX2_siteAt) := goodIn_app (goodIn_of _ (by decide +kernel)) ggX2_setCalendar_X2_siteAt
set_option maxRecDepth 20000 in
theorem ggX2_setCalendar_X2_checkRange : GoodIn wsX2_setCalendar wsX2_checkRange := goodIn_ca (goodIn_r _ [14, 15, 16, 7, 17, 18, 19] (by decide +kernel) (by decide +kernel)) (goodIn_sub (fun _ h => List.mem_cons_of_mem _ (List.mem_append_right _ h)) (by decide +kernel))
set_option maxRecDepth 20000 in
theorem gX2_setCalendar_X2_checkRange : GoodIn wsX2_setCalendar (va_wsS RX2 37 yX2_checkRange wsX2_checkRange) := goodIn_app (goodIn_of _ (by decide +kernel)) ggX2_setCalendar_X2_checkRange
theorem dX2_setCalendar_0 : decode cX2_setCalendar 0 = .ok (.aload_n 0, 1) := by decide +kernel
theorem dX2_setCalendar_1 : decode cX2_setCalendar 1 = .ok (.iload_n 1, 1) := by decide +kernel
theorem dX2_setCalendar_2 : decode cX2_setCalendar 2 = .ok (.invokevirtual 33, 3) := by decide +kernel
theorem dX2_setCalendar_5 : decode cX2_setCalendar 5 = .ok (.astore 5, 2) := by decide +kernel
theorem dX2_setCalendar_7 : decode cX2_setCalendar 7 = .ok (.iload_n 2, 1) := by decide +kernel
theorem dX2_setCalendar_8 : decode cX2_setCalendar 8 = .ok (.iconst 0, 1) := by decide +kernel
theorem dX2_setCalendar_9 : decode cX2_setCalendar 9 = .ok (.bipush 127, 2) := by decide +kernel
theorem dX2_setCalendar_11 : decode cX2_setCalendar 11 = .ok (.invokestatic 37, 3) := by decide +kernel
theorem dX2_setCalendar_14 : decode cX2_setCalendar 14 = .ok (.iload_n 3, 1) := by decide +kernel
theorem dX2_setCalendar_15 : decode cX2_setCalendar 15 = .ok (.iconst 0, 1) := by decide +kernel
theorem dX2_setCalendar_16 : decode cX2_setCalendar 16 = .ok (.bipush 23, 2) := by decide +kernel
theorem dX2_setCalendar_18 : decode cX2_setCalendar 18 = .ok (.invokestatic 37, 3) := by decide +kernel
theorem dX2_setCalendar_21 : decode cX2_setCalendar 21 = .ok (.iload 4, 2) := by decide +kernel
theorem dX2_setCalendar_23 : decode cX2_setCalendar 23 = .ok (.iload_n 3, 1) := by decide +kernel
theorem dX2_setCalendar_24 : decode cX2_setCalendar 24 = .ok (.bipush 23, 2) := by decide +kernel
theorem dX2_setCalendar_26 : decode cX2_setCalendar 26 = .ok (.invokestatic 37, 3) := by decide +kernel
theorem dX2_setCalendar_29 : decode cX2_setCalendar 29 = .ok (.aload 5, 2) := by decide +kernel
theorem dX2_setCalendar_31 : decode cX2_setCalendar 31 = .ok (.getfield 41, 3) := by decide +kernel
theorem dX2_setCalendar_34 : decode cX2_setCalendar 34 = .ok (.istore 6, 2) := by decide +kernel
theorem dX2_setCalendar_36 : decode cX2_setCalendar 36 = .ok (.aload 5, 2) := by decide +kernel
theorem dX2_setCalendar_38 : decode cX2_setCalendar 38 = .ok (.iload_n 2, 1) := by decide +kernel
theorem dX2_setCalendar_39 : decode cX2_setCalendar 39 = .ok (.putfield 41, 3) := by decide +kernel
theorem dX2_setCalendar_42 : decode cX2_setCalendar 42 = .ok (.aload 5, 2) := by decide +kernel
theorem dX2_setCalendar_44 : decode cX2_setCalendar 44 = .ok (.iload_n 3, 1) := by decide +kernel
theorem dX2_setCalendar_45 : decode cX2_setCalendar 45 = .ok (.putfield 44, 3) := by decide +kernel
theorem dX2_setCalendar_48 : decode cX2_setCalendar 48 = .ok (.aload 5, 2) := by decide +kernel
theorem dX2_setCalendar_50 : decode cX2_setCalendar 50 = .ok (.iload 4, 2) := by decide +kernel
theorem dX2_setCalendar_52 : decode cX2_setCalendar 52 = .ok (.putfield 47, 3) := by decide +kernel
theorem dX2_setCalendar_55 : decode cX2_setCalendar 55 = .ok (.iload 6, 2) := by decide +kernel
theorem dX2_setCalendar_57 : decode cX2_setCalendar 57 = .ok (.ireturn, 1) := by decide +kernel
set_option maxRecDepth 20000 in
theorem ggX2_addContract_X2_siteAt : GoodIn wsX2_addContract wsX2_siteAt := goodIn_ca (goodIn_r _ [6, 7, 8, 9, 41, 42, 43, 44, 45] (by decide +kernel) (by decide +kernel)) (goodIn_sub (fun _ h => List.mem_cons_of_mem _ (List.mem_append_left _ (List.mem_append_left _ (List.mem_append_right _ h)))) (by decide +kernel))
set_option maxRecDepth 20000 in
theorem gX2_addContract_X2_siteAt : GoodIn wsX2_addContract (wsV RX2 33 RX2 yX2_siteAt wsX2_siteAt) := goodIn_app (goodIn_of _ (by decide +kernel)) ggX2_addContract_X2_siteAt
set_option maxRecDepth 20000 in
theorem ggX2_addContract_X2_checkRange : GoodIn wsX2_addContract wsX2_checkRange := goodIn_ca (goodIn_r _ [12, 13, 14, 5, 15, 16, 17] (by decide +kernel) (by decide +kernel)) (goodIn_sub (fun _ h => List.mem_cons_of_mem _ (List.mem_append_left _ (List.mem_append_right _ h))) (by decide +kernel))
set_option maxRecDepth 20000 in
theorem gX2_addContract_X2_checkRange : GoodIn wsX2_addContract (va_wsS RX2 37 yX2_checkRange wsX2_checkRange) := goodIn_app (goodIn_of _ (by decide +kernel)) ggX2_addContract_X2_checkRange
set_option maxRecDepth 20000 in
theorem ggX2_addContract_X1_keepContract : GoodIn wsX2_addContract wsX1_keepContract := goodIn_r _ [22, 23, 24, 25, 26, 32, 33, 34, 35, 36, 37, 38, 39, 40] (by decide +kernel) (by decide +kernel)
set_option maxRecDepth 20000 in
theorem gX2_addContract_X1_keepContract : GoodIn wsX2_addContract (wsV RX2 50 RX1 yX1_keepContract wsX1_keepContract) := goodIn_app (goodIn_of _ (by decide +kernel)) ggX2_addContract_X1_keepContract
set_option maxRecDepth 20000 in
theorem ggX2_addContract_X2_checkState : GoodIn wsX2_addContract wsX2_checkState := goodIn_ca (goodIn_r _ [29, 30, 31] (by decide +kernel) (by decide +kernel)) (goodIn_sub (fun _ h => List.mem_cons_of_mem _ (List.mem_append_right _ h)) (by decide +kernel))
set_option maxRecDepth 20000 in
theorem gX2_addContract_X2_checkState : GoodIn wsX2_addContract (va_wsS RX2 54 yX2_checkState wsX2_checkState) := goodIn_app (goodIn_of _ (by decide +kernel)) ggX2_addContract_X2_checkState
theorem dX2_addContract_0 : decode cX2_addContract 0 = .ok (.aload_n 0, 1) := by decide +kernel
theorem dX2_addContract_1 : decode cX2_addContract 1 = .ok (.iload_n 1, 1) := by decide +kernel
theorem dX2_addContract_2 : decode cX2_addContract 2 = .ok (.invokevirtual 33, 3) := by decide +kernel
theorem dX2_addContract_5 : decode cX2_addContract 5 = .ok (.astore 5, 2) := by decide +kernel
theorem dX2_addContract_7 : decode cX2_addContract 7 = .ok (.iload_n 2, 1) := by decide +kernel
theorem dX2_addContract_8 : decode cX2_addContract 8 = .ok (.iconst 1, 1) := by decide +kernel
theorem dX2_addContract_9 : decode cX2_addContract 9 = .ok (.bipush 15, 2) := by decide +kernel
theorem dX2_addContract_11 : decode cX2_addContract 11 = .ok (.invokestatic 37, 3) := by decide +kernel
theorem dX2_addContract_14 : decode cX2_addContract 14 = .ok (.iload_n 3, 1) := by decide +kernel
theorem dX2_addContract_15 : decode cX2_addContract 15 = .ok (.iconst 0, 1) := by decide +kernel
theorem dX2_addContract_16 : decode cX2_addContract 16 = .ok (.sipush 1000, 3) := by decide +kernel
theorem dX2_addContract_19 : decode cX2_addContract 19 = .ok (.invokestatic 37, 3) := by decide +kernel
theorem dX2_addContract_22 : decode cX2_addContract 22 = .ok (.iload 4, 2) := by decide +kernel
theorem dX2_addContract_24 : decode cX2_addContract 24 = .ok (.iload_n 3, 1) := by decide +kernel
theorem dX2_addContract_25 : decode cX2_addContract 25 = .ok (.sipush 1000, 3) := by decide +kernel
theorem dX2_addContract_28 : decode cX2_addContract 28 = .ok (.invokestatic 37, 3) := by decide +kernel
theorem dX2_addContract_31 : decode cX2_addContract 31 = .ok (.aload 5, 2) := by decide +kernel
theorem dX2_addContract_33 : decode cX2_addContract 33 = .ok (.iload_n 2, 1) := by decide +kernel
theorem dX2_addContract_34 : decode cX2_addContract 34 = .ok (.iload_n 3, 1) := by decide +kernel
theorem dX2_addContract_35 : decode cX2_addContract 35 = .ok (.iload 4, 2) := by decide +kernel
theorem dX2_addContract_37 : decode cX2_addContract 37 = .ok (.invokevirtual 50, 3) := by decide +kernel
theorem dX2_addContract_40 : decode cX2_addContract 40 = .ok (.istore 6, 2) := by decide +kernel
theorem dX2_addContract_42 : decode cX2_addContract 42 = .ok (.iload 6, 2) := by decide +kernel
theorem dX2_addContract_44 : decode cX2_addContract 44 = .ok (.invokestatic 54, 3) := by decide +kernel
theorem dX2_addContract_47 : decode cX2_addContract 47 = .ok (.aload 5, 2) := by decide +kernel
theorem dX2_addContract_49 : decode cX2_addContract 49 = .ok (.getfield 58, 3) := by decide +kernel
theorem dX2_addContract_52 : decode cX2_addContract 52 = .ok (.ireturn, 1) := by decide +kernel
set_option maxRecDepth 20000 in
theorem ggX2_setPromise_X2_checkRange : GoodIn wsX2_setPromise wsX2_checkRange := goodIn_ca (goodIn_r _ [5, 6, 7, 4, 8, 9, 10] (by decide +kernel) (by decide +kernel)) (goodIn_sub (fun _ h => List.mem_cons_of_mem _ (List.mem_append_right _ h)) (by decide +kernel))
set_option maxRecDepth 20000 in
theorem gX2_setPromise_X2_checkRange : GoodIn wsX2_setPromise (va_wsS RX2 37 yX2_checkRange wsX2_checkRange) := goodIn_app (goodIn_of _ (by decide +kernel)) ggX2_setPromise_X2_checkRange
theorem dX2_setPromise_0 : decode cX2_setPromise 0 = .ok (.iload_n 1, 1) := by decide +kernel
theorem dX2_setPromise_1 : decode cX2_setPromise 1 = .ok (.iconst 0, 1) := by decide +kernel
theorem dX2_setPromise_2 : decode cX2_setPromise 2 = .ok (.iconst 2, 1) := by decide +kernel
theorem dX2_setPromise_3 : decode cX2_setPromise 3 = .ok (.invokestatic 37, 3) := by decide +kernel
theorem dX2_setPromise_6 : decode cX2_setPromise 6 = .ok (.iload_n 2, 1) := by decide +kernel
theorem dX2_setPromise_7 : decode cX2_setPromise 7 = .ok (.iconst 0, 1) := by decide +kernel
theorem dX2_setPromise_8 : decode cX2_setPromise 8 = .ok (.iconst 2, 1) := by decide +kernel
theorem dX2_setPromise_9 : decode cX2_setPromise 9 = .ok (.invokestatic 37, 3) := by decide +kernel
theorem dX2_setPromise_12 : decode cX2_setPromise 12 = .ok (.iload_n 3, 1) := by decide +kernel
theorem dX2_setPromise_13 : decode cX2_setPromise 13 = .ok (.iconst 1, 1) := by decide +kernel
theorem dX2_setPromise_14 : decode cX2_setPromise 14 = .ok (.sipush 1000, 3) := by decide +kernel
theorem dX2_setPromise_17 : decode cX2_setPromise 17 = .ok (.invokestatic 37, 3) := by decide +kernel
theorem dX2_setPromise_20 : decode cX2_setPromise 20 = .ok (.iload_n 1, 1) := by decide +kernel
theorem dX2_setPromise_21 : decode cX2_setPromise 21 = .ok (.iconst 3, 1) := by decide +kernel
theorem dX2_setPromise_22 : decode cX2_setPromise 22 = .ok (.imul, 1) := by decide +kernel
theorem dX2_setPromise_23 : decode cX2_setPromise 23 = .ok (.iload_n 2, 1) := by decide +kernel
theorem dX2_setPromise_24 : decode cX2_setPromise 24 = .ok (.iadd, 1) := by decide +kernel
theorem dX2_setPromise_25 : decode cX2_setPromise 25 = .ok (.istore 4, 2) := by decide +kernel
theorem dX2_setPromise_27 : decode cX2_setPromise 27 = .ok (.aload_n 0, 1) := by decide +kernel
theorem dX2_setPromise_28 : decode cX2_setPromise 28 = .ok (.getfield 15, 3) := by decide +kernel
theorem dX2_setPromise_31 : decode cX2_setPromise 31 = .ok (.iload 4, 2) := by decide +kernel
theorem dX2_setPromise_33 : decode cX2_setPromise 33 = .ok (.iaload, 1) := by decide +kernel
theorem dX2_setPromise_34 : decode cX2_setPromise 34 = .ok (.istore 5, 2) := by decide +kernel
theorem dX2_setPromise_36 : decode cX2_setPromise 36 = .ok (.aload_n 0, 1) := by decide +kernel
theorem dX2_setPromise_37 : decode cX2_setPromise 37 = .ok (.getfield 15, 3) := by decide +kernel
theorem dX2_setPromise_40 : decode cX2_setPromise 40 = .ok (.iload 4, 2) := by decide +kernel
theorem dX2_setPromise_42 : decode cX2_setPromise 42 = .ok (.iload_n 3, 1) := by decide +kernel
theorem dX2_setPromise_43 : decode cX2_setPromise 43 = .ok (.iastore, 1) := by decide +kernel
theorem dX2_setPromise_44 : decode cX2_setPromise 44 = .ok (.iload 5, 2) := by decide +kernel
theorem dX2_setPromise_46 : decode cX2_setPromise 46 = .ok (.ireturn, 1) := by decide +kernel
set_option maxRecDepth 20000 in
theorem ggX2_isCovered_X2_siteAt : GoodIn wsX2_isCovered wsX2_siteAt := goodIn_ca (goodIn_r _ [5, 6, 7, 8, 29, 30, 31, 32, 33] (by decide +kernel) (by decide +kernel)) (goodIn_sub (fun _ h => List.mem_cons_of_mem _ (List.mem_append_left _ (List.mem_append_right _ h))) (by decide +kernel))
set_option maxRecDepth 20000 in
theorem gX2_isCovered_X2_siteAt : GoodIn wsX2_isCovered (wsV RX2 33 RX2 yX2_siteAt wsX2_siteAt) := goodIn_app (goodIn_of _ (by decide +kernel)) ggX2_isCovered_X2_siteAt
set_option maxRecDepth 20000 in
theorem ggX2_isCovered_X2_checkKind : GoodIn wsX2_isCovered wsX2_checkKind := goodIn_ca (goodIn_r _ [11, 6, 7] (by decide +kernel) (by decide +kernel)) (goodIn_sub (fun _ h => List.mem_cons_of_mem _ (List.mem_append_left _ (List.mem_append_right _ h))) (by decide +kernel))
set_option maxRecDepth 20000 in
theorem gX2_isCovered_X2_checkKind : GoodIn wsX2_isCovered (va_wsS RX2 61 yX2_checkKind wsX2_checkKind) := goodIn_app (goodIn_of _ (by decide +kernel)) ggX2_isCovered_X2_checkKind
set_option maxRecDepth 20000 in
theorem ggX2_isCovered_X2_checkRange : GoodIn wsX2_isCovered wsX2_checkRange := goodIn_ca (goodIn_r _ [14, 15, 16, 4, 17, 18, 19] (by decide +kernel) (by decide +kernel)) (goodIn_sub (fun _ h => List.mem_cons_of_mem _ (List.mem_append_right _ h)) (by decide +kernel))
set_option maxRecDepth 20000 in
theorem gX2_isCovered_X2_checkRange : GoodIn wsX2_isCovered (va_wsS RX2 37 yX2_checkRange wsX2_checkRange) := goodIn_app (goodIn_of _ (by decide +kernel)) ggX2_isCovered_X2_checkRange
set_option maxRecDepth 20000 in
theorem ggX2_isCovered_X1_covers : GoodIn wsX2_isCovered wsX1_covers := goodIn_r _ [24, 25, 26, 27, 28, 34, 35, 36, 37, 38, 39, 40, 41, 42] (by decide +kernel) (by decide +kernel)
set_option maxRecDepth 20000 in
theorem gX2_isCovered_X1_covers : GoodIn wsX2_isCovered (wsV RX2 65 RX1 yX1_covers wsX1_covers) := goodIn_app (goodIn_of _ (by decide +kernel)) ggX2_isCovered_X1_covers
theorem dX2_isCovered_0 : decode cX2_isCovered 0 = .ok (.aload_n 0, 1) := by decide +kernel
theorem dX2_isCovered_1 : decode cX2_isCovered 1 = .ok (.iload_n 1, 1) := by decide +kernel
theorem dX2_isCovered_2 : decode cX2_isCovered 2 = .ok (.invokevirtual 33, 3) := by decide +kernel
theorem dX2_isCovered_5 : decode cX2_isCovered 5 = .ok (.astore 4, 2) := by decide +kernel
theorem dX2_isCovered_7 : decode cX2_isCovered 7 = .ok (.iload_n 2, 1) := by decide +kernel
theorem dX2_isCovered_8 : decode cX2_isCovered 8 = .ok (.invokestatic 61, 3) := by decide +kernel
theorem dX2_isCovered_11 : decode cX2_isCovered 11 = .ok (.iload_n 3, 1) := by decide +kernel
theorem dX2_isCovered_12 : decode cX2_isCovered 12 = .ok (.iconst 0, 1) := by decide +kernel
theorem dX2_isCovered_13 : decode cX2_isCovered 13 = .ok (.sipush 1000, 3) := by decide +kernel
theorem dX2_isCovered_16 : decode cX2_isCovered 16 = .ok (.invokestatic 37, 3) := by decide +kernel
theorem dX2_isCovered_19 : decode cX2_isCovered 19 = .ok (.aload 4, 2) := by decide +kernel
theorem dX2_isCovered_21 : decode cX2_isCovered 21 = .ok (.iload_n 2, 1) := by decide +kernel
theorem dX2_isCovered_22 : decode cX2_isCovered 22 = .ok (.iload_n 3, 1) := by decide +kernel
theorem dX2_isCovered_23 : decode cX2_isCovered 23 = .ok (.invokevirtual 65, 3) := by decide +kernel
theorem dX2_isCovered_26 : decode cX2_isCovered 26 = .ok (.ireturn, 1) := by decide +kernel
set_option maxRecDepth 20000 in
theorem ggX2_nextGap_X2_siteAt : GoodIn wsX2_nextGap wsX2_siteAt := goodIn_ca (goodIn_r _ [5, 6, 7, 8, 29, 30, 31, 32, 33] (by decide +kernel) (by decide +kernel)) (goodIn_sub (fun _ h => List.mem_cons_of_mem _ (List.mem_append_left _ (List.mem_append_right _ h))) (by decide +kernel))
set_option maxRecDepth 20000 in
theorem gX2_nextGap_X2_siteAt : GoodIn wsX2_nextGap (wsV RX2 33 RX2 yX2_siteAt wsX2_siteAt) := goodIn_app (goodIn_of _ (by decide +kernel)) ggX2_nextGap_X2_siteAt
set_option maxRecDepth 20000 in
theorem ggX2_nextGap_X2_checkKind : GoodIn wsX2_nextGap wsX2_checkKind := goodIn_ca (goodIn_r _ [11, 6, 7] (by decide +kernel) (by decide +kernel)) (goodIn_sub (fun _ h => List.mem_cons_of_mem _ (List.mem_append_left _ (List.mem_append_right _ h))) (by decide +kernel))
set_option maxRecDepth 20000 in
theorem gX2_nextGap_X2_checkKind : GoodIn wsX2_nextGap (va_wsS RX2 61 yX2_checkKind wsX2_checkKind) := goodIn_app (goodIn_of _ (by decide +kernel)) ggX2_nextGap_X2_checkKind
set_option maxRecDepth 20000 in
theorem ggX2_nextGap_X2_checkRange : GoodIn wsX2_nextGap wsX2_checkRange := goodIn_ca (goodIn_r _ [14, 15, 16, 4, 17, 18, 19] (by decide +kernel) (by decide +kernel)) (goodIn_sub (fun _ h => List.mem_cons_of_mem _ (List.mem_append_right _ h)) (by decide +kernel))
set_option maxRecDepth 20000 in
theorem gX2_nextGap_X2_checkRange : GoodIn wsX2_nextGap (va_wsS RX2 37 yX2_checkRange wsX2_checkRange) := goodIn_app (goodIn_of _ (by decide +kernel)) ggX2_nextGap_X2_checkRange
set_option maxRecDepth 20000 in
theorem ggX2_nextGap_X1_covers : GoodIn wsX2_nextGap wsX1_covers := goodIn_r _ [24, 25, 26, 27, 28, 34, 35, 36, 37, 38, 39, 40, 41, 42] (by decide +kernel) (by decide +kernel)
set_option maxRecDepth 20000 in
theorem gX2_nextGap_X1_covers : GoodIn wsX2_nextGap (wsV RX2 65 RX1 yX1_covers wsX1_covers) := goodIn_app (goodIn_of _ (by decide +kernel)) ggX2_nextGap_X1_covers
theorem dX2_nextGap_0 : decode cX2_nextGap 0 = .ok (.aload_n 0, 1) := by decide +kernel
theorem dX2_nextGap_1 : decode cX2_nextGap 1 = .ok (.iload_n 1, 1) := by decide +kernel
theorem dX2_nextGap_2 : decode cX2_nextGap 2 = .ok (.invokevirtual 33, 3) := by decide +kernel
theorem dX2_nextGap_5 : decode cX2_nextGap 5 = .ok (.astore 4, 2) := by decide +kernel
theorem dX2_nextGap_7 : decode cX2_nextGap 7 = .ok (.iload_n 2, 1) := by decide +kernel
theorem dX2_nextGap_8 : decode cX2_nextGap 8 = .ok (.invokestatic 61, 3) := by decide +kernel
theorem dX2_nextGap_11 : decode cX2_nextGap 11 = .ok (.iload_n 3, 1) := by decide +kernel
theorem dX2_nextGap_12 : decode cX2_nextGap 12 = .ok (.iconst 0, 1) := by decide +kernel
theorem dX2_nextGap_13 : decode cX2_nextGap 13 = .ok (.sipush 1000, 3) := by decide +kernel
theorem dX2_nextGap_16 : decode cX2_nextGap 16 = .ok (.invokestatic 37, 3) := by decide +kernel
theorem dX2_nextGap_19 : decode cX2_nextGap 19 = .ok (.iload_n 3, 1) := by decide +kernel
theorem dX2_nextGap_20 : decode cX2_nextGap 20 = .ok (.istore 5, 2) := by decide +kernel
theorem dX2_nextGap_22 : decode cX2_nextGap 22 = .ok (.iload 5, 2) := by decide +kernel
theorem dX2_nextGap_24 : decode cX2_nextGap 24 = .ok (.sipush 1000, 3) := by decide +kernel
theorem dX2_nextGap_27 : decode cX2_nextGap 27 = .ok (.if_icmp .gt 23, 3) := by decide +kernel
theorem dX2_nextGap_30 : decode cX2_nextGap 30 = .ok (.aload 4, 2) := by decide +kernel
theorem dX2_nextGap_32 : decode cX2_nextGap 32 = .ok (.iload_n 2, 1) := by decide +kernel
theorem dX2_nextGap_33 : decode cX2_nextGap 33 = .ok (.iload 5, 2) := by decide +kernel
theorem dX2_nextGap_35 : decode cX2_nextGap 35 = .ok (.invokevirtual 65, 3) := by decide +kernel
theorem dX2_nextGap_38 : decode cX2_nextGap 38 = .ok (.ifCond .ne 6, 3) := by decide +kernel
theorem dX2_nextGap_41 : decode cX2_nextGap 41 = .ok (.iload 5, 2) := by decide +kernel
theorem dX2_nextGap_43 : decode cX2_nextGap 43 = .ok (.ireturn, 1) := by decide +kernel
theorem dX2_nextGap_44 : decode cX2_nextGap 44 = .ok (.iinc 5 1, 3) := by decide +kernel
theorem dX2_nextGap_47 : decode cX2_nextGap 47 = .ok (.goto (-25), 3) := by decide +kernel
theorem dX2_nextGap_50 : decode cX2_nextGap 50 = .ok (.iconst (-1), 1) := by decide +kernel
theorem dX2_nextGap_51 : decode cX2_nextGap 51 = .ok (.ireturn, 1) := by decide +kernel
set_option maxRecDepth 20000 in
theorem ggX2_pass_X2_checkRange : GoodIn wsX2_pass wsX2_checkRange := goodIn_ca (goodIn_r _ [6, 7, 8, 5, 9, 10, 11] (by decide +kernel) (by decide +kernel)) (goodIn_sub (fun _ h => List.mem_cons_of_mem _ (List.mem_append_left _ (List.mem_append_right _ h))) (by decide +kernel))
set_option maxRecDepth 20000 in
theorem gX2_pass_X2_checkRange : GoodIn wsX2_pass (va_wsS RX2 37 yX2_checkRange wsX2_checkRange) := goodIn_app (goodIn_of _ (by decide +kernel)) ggX2_pass_X2_checkRange
set_option maxRecDepth 20000 in
theorem ggX2_pass_X2_checkState : GoodIn wsX2_pass wsX2_checkState := goodIn_ca (goodIn_r _ [14, 15, 16] (by decide +kernel) (by decide +kernel)) (goodIn_sub (fun _ h => List.mem_cons_of_mem _ (List.mem_append_right _ h)) (by decide +kernel))
set_option maxRecDepth 20000 in
theorem gX2_pass_X2_checkState : GoodIn wsX2_pass (va_wsS RX2 54 yX2_checkState wsX2_checkState) := goodIn_app (goodIn_of _ (by decide +kernel)) ggX2_pass_X2_checkState
set_option maxRecDepth 20000 in
theorem ggX2_pass_X0_runClocks : GoodIn wsX2_pass wsX0_runClocks := goodIn_r _ [21, 22, 23, 24, 25, 26, 20, 27, 28, 29, 30, 31, 32, 33, 34, 35, 36, 37, 38, 39, 40, 41, 42, 43, 44, 45, 46, 47, 48, 49, 50, 51, 52, 53, 54, 55, 56, 57, 58, 59, 60, 61, 62, 63, 64, 70, 71, 72, 73, 74, 75, 76, 77, 78, 79, 80, 81, 82, 83, 84, 85, 86] (by decide +kernel) (by decide +kernel)
set_option maxRecDepth 20000 in
theorem gX2_pass_X0_runClocks : GoodIn wsX2_pass (wsV RX2 69 RX0 yX0_runClocks wsX0_runClocks) := goodIn_app (goodIn_of _ (by decide +kernel)) ggX2_pass_X0_runClocks
theorem dX2_pass_0 : decode cX2_pass 0 = .ok (.iload_n 1, 1) := by decide +kernel
theorem dX2_pass_1 : decode cX2_pass 1 = .ok (.iconst 1, 1) := by decide +kernel
theorem dX2_pass_2 : decode cX2_pass 2 = .ok (.sipush 1000, 3) := by decide +kernel
theorem dX2_pass_5 : decode cX2_pass 5 = .ok (.invokestatic 37, 3) := by decide +kernel
theorem dX2_pass_8 : decode cX2_pass 8 = .ok (.aload_n 0, 1) := by decide +kernel
theorem dX2_pass_9 : decode cX2_pass 9 = .ok (.getfield 29, 3) := by decide +kernel
theorem dX2_pass_12 : decode cX2_pass 12 = .ok (.iload_n 1, 1) := by decide +kernel
theorem dX2_pass_13 : decode cX2_pass 13 = .ok (.iadd, 1) := by decide +kernel
theorem dX2_pass_14 : decode cX2_pass 14 = .ok (.sipush 24000, 3) := by decide +kernel
theorem dX2_pass_17 : decode cX2_pass 17 = .ok (.if_icmp .gt 7, 3) := by decide +kernel
theorem dX2_pass_20 : decode cX2_pass 20 = .ok (.iconst 1, 1) := by decide +kernel
theorem dX2_pass_21 : decode cX2_pass 21 = .ok (.goto 4, 3) := by decide +kernel
theorem dX2_pass_24 : decode cX2_pass 24 = .ok (.iconst 0, 1) := by decide +kernel
theorem dX2_pass_25 : decode cX2_pass 25 = .ok (.invokestatic 54, 3) := by decide +kernel
theorem dX2_pass_28 : decode cX2_pass 28 = .ok (.aload_n 0, 1) := by decide +kernel
theorem dX2_pass_29 : decode cX2_pass 29 = .ok (.getfield 21, 3) := by decide +kernel
theorem dX2_pass_32 : decode cX2_pass 32 = .ok (.astore_n 2, 1) := by decide +kernel
theorem dX2_pass_33 : decode cX2_pass 33 = .ok (.aload_n 2, 1) := by decide +kernel
theorem dX2_pass_34 : decode cX2_pass 34 = .ok (.arraylength, 1) := by decide +kernel
theorem dX2_pass_35 : decode cX2_pass 35 = .ok (.istore_n 3, 1) := by decide +kernel
theorem dX2_pass_36 : decode cX2_pass 36 = .ok (.iconst 0, 1) := by decide +kernel
theorem dX2_pass_37 : decode cX2_pass 37 = .ok (.istore 4, 2) := by decide +kernel
theorem dX2_pass_39 : decode cX2_pass 39 = .ok (.iload 4, 2) := by decide +kernel
theorem dX2_pass_41 : decode cX2_pass 41 = .ok (.iload_n 3, 1) := by decide +kernel
theorem dX2_pass_42 : decode cX2_pass 42 = .ok (.if_icmp .ge 35, 3) := by decide +kernel
theorem dX2_pass_45 : decode cX2_pass 45 = .ok (.aload_n 2, 1) := by decide +kernel
theorem dX2_pass_46 : decode cX2_pass 46 = .ok (.iload 4, 2) := by decide +kernel
theorem dX2_pass_48 : decode cX2_pass 48 = .ok (.aaload, 1) := by decide +kernel
theorem dX2_pass_49 : decode cX2_pass 49 = .ok (.astore 5, 2) := by decide +kernel
theorem dX2_pass_51 : decode cX2_pass 51 = .ok (.aload 5, 2) := by decide +kernel
theorem dX2_pass_53 : decode cX2_pass 53 = .ok (.ifnull 18, 3) := by decide +kernel
theorem dX2_pass_56 : decode cX2_pass 56 = .ok (.aload 5, 2) := by decide +kernel
theorem dX2_pass_58 : decode cX2_pass 58 = .ok (.aload_n 0, 1) := by decide +kernel
theorem dX2_pass_59 : decode cX2_pass 59 = .ok (.getfield 29, 3) := by decide +kernel
theorem dX2_pass_62 : decode cX2_pass 62 = .ok (.aload_n 0, 1) := by decide +kernel
theorem dX2_pass_63 : decode cX2_pass 63 = .ok (.getfield 29, 3) := by decide +kernel
theorem dX2_pass_66 : decode cX2_pass 66 = .ok (.iload_n 1, 1) := by decide +kernel
theorem dX2_pass_67 : decode cX2_pass 67 = .ok (.iadd, 1) := by decide +kernel
theorem dX2_pass_68 : decode cX2_pass 68 = .ok (.invokevirtual 69, 3) := by decide +kernel
theorem dX2_pass_71 : decode cX2_pass 71 = .ok (.iinc 4 1, 3) := by decide +kernel
theorem dX2_pass_74 : decode cX2_pass 74 = .ok (.goto (-35), 3) := by decide +kernel
theorem dX2_pass_77 : decode cX2_pass 77 = .ok (.aload_n 0, 1) := by decide +kernel
theorem dX2_pass_78 : decode cX2_pass 78 = .ok (.dup, 1) := by decide +kernel
theorem dX2_pass_79 : decode cX2_pass 79 = .ok (.getfield 29, 3) := by decide +kernel
theorem dX2_pass_82 : decode cX2_pass 82 = .ok (.iload_n 1, 1) := by decide +kernel
theorem dX2_pass_83 : decode cX2_pass 83 = .ok (.iadd, 1) := by decide +kernel
theorem dX2_pass_84 : decode cX2_pass 84 = .ok (.putfield 29, 3) := by decide +kernel
theorem dX2_pass_87 : decode cX2_pass 87 = .ok (.aload_n 0, 1) := by decide +kernel
theorem dX2_pass_88 : decode cX2_pass 88 = .ok (.getfield 29, 3) := by decide +kernel
theorem dX2_pass_91 : decode cX2_pass 91 = .ok (.ireturn, 1) := by decide +kernel
theorem dX2_time_0 : decode cX2_time 0 = .ok (.aload_n 0, 1) := by decide +kernel
theorem dX2_time_1 : decode cX2_time 1 = .ok (.getfield 29, 3) := by decide +kernel
theorem dX2_time_4 : decode cX2_time 4 = .ok (.ireturn, 1) := by decide +kernel
set_option maxRecDepth 20000 in
theorem ggX2_hours_X2_siteAt : GoodIn wsX2_hours wsX2_siteAt := goodIn_ca (goodIn_r _ [5, 6, 7, 8, 47, 48, 49, 50, 51] (by decide +kernel) (by decide +kernel)) (goodIn_sub (fun _ h => List.mem_cons_of_mem _ (List.mem_append_left _ (List.mem_append_right _ h))) (by decide +kernel))
set_option maxRecDepth 20000 in
theorem gX2_hours_X2_siteAt : GoodIn wsX2_hours (wsV RX2 33 RX2 yX2_siteAt wsX2_siteAt) := goodIn_app (goodIn_of _ (by decide +kernel)) ggX2_hours_X2_siteAt
set_option maxRecDepth 20000 in
theorem ggX2_hours_X2_checkRange : GoodIn wsX2_hours wsX2_checkRange := goodIn_ca (goodIn_r _ [11, 12, 13, 4, 14, 15, 16] (by decide +kernel) (by decide +kernel)) (goodIn_sub (fun _ h => List.mem_cons_of_mem _ (List.mem_append_right _ h)) (by decide +kernel))
set_option maxRecDepth 20000 in
theorem gX2_hours_X2_checkRange : GoodIn wsX2_hours (va_wsS RX2 37 yX2_checkRange wsX2_checkRange) := goodIn_app (goodIn_of _ (by decide +kernel)) ggX2_hours_X2_checkRange
set_option maxRecDepth 20000 in
theorem ggX2_hours_X1_countHours : GoodIn wsX2_hours wsX1_countHours := goodIn_r _ [21, 22, 23, 24, 20, 25, 26, 27, 28, 29, 30, 31, 32, 33, 34, 35, 36, 37, 38, 39, 40, 41, 42, 43, 44, 45, 46, 52, 53, 54, 55, 56, 57, 58, 59, 60] (by decide +kernel) (by decide +kernel)
set_option maxRecDepth 20000 in
theorem gX2_hours_X1_countHours : GoodIn wsX2_hours (wsV RX2 73 RX1 yX1_countHours wsX1_countHours) := goodIn_app (goodIn_of _ (by decide +kernel)) ggX2_hours_X1_countHours
theorem dX2_hours_0 : decode cX2_hours 0 = .ok (.aload_n 0, 1) := by decide +kernel
theorem dX2_hours_1 : decode cX2_hours 1 = .ok (.iload_n 1, 1) := by decide +kernel
theorem dX2_hours_2 : decode cX2_hours 2 = .ok (.invokevirtual 33, 3) := by decide +kernel
theorem dX2_hours_5 : decode cX2_hours 5 = .ok (.astore 4, 2) := by decide +kernel
theorem dX2_hours_7 : decode cX2_hours 7 = .ok (.iload_n 2, 1) := by decide +kernel
theorem dX2_hours_8 : decode cX2_hours 8 = .ok (.iconst 0, 1) := by decide +kernel
theorem dX2_hours_9 : decode cX2_hours 9 = .ok (.sipush 24000, 3) := by decide +kernel
theorem dX2_hours_12 : decode cX2_hours 12 = .ok (.invokestatic 37, 3) := by decide +kernel
theorem dX2_hours_15 : decode cX2_hours 15 = .ok (.iload_n 3, 1) := by decide +kernel
theorem dX2_hours_16 : decode cX2_hours 16 = .ok (.iload_n 2, 1) := by decide +kernel
theorem dX2_hours_17 : decode cX2_hours 17 = .ok (.sipush 24000, 3) := by decide +kernel
theorem dX2_hours_20 : decode cX2_hours 20 = .ok (.invokestatic 37, 3) := by decide +kernel
theorem dX2_hours_23 : decode cX2_hours 23 = .ok (.aload 4, 2) := by decide +kernel
theorem dX2_hours_25 : decode cX2_hours 25 = .ok (.iload_n 2, 1) := by decide +kernel
theorem dX2_hours_26 : decode cX2_hours 26 = .ok (.iload_n 3, 1) := by decide +kernel
theorem dX2_hours_27 : decode cX2_hours 27 = .ok (.invokevirtual 73, 3) := by decide +kernel
theorem dX2_hours_30 : decode cX2_hours 30 = .ok (.ireturn, 1) := by decide +kernel
set_option maxRecDepth 20000 in
theorem ggX2_hoursOneByOne_X2_siteAt : GoodIn wsX2_hoursOneByOne wsX2_siteAt := goodIn_ca (goodIn_r _ [5, 6, 7, 8, 29, 30, 31, 32, 33] (by decide +kernel) (by decide +kernel)) (goodIn_sub (fun _ h => List.mem_cons_of_mem _ (List.mem_append_left _ (List.mem_append_right _ h))) (by decide +kernel))
set_option maxRecDepth 20000 in
theorem gX2_hoursOneByOne_X2_siteAt : GoodIn wsX2_hoursOneByOne (wsV RX2 33 RX2 yX2_siteAt wsX2_siteAt) := goodIn_app (goodIn_of _ (by decide +kernel)) ggX2_hoursOneByOne_X2_siteAt
set_option maxRecDepth 20000 in
theorem ggX2_hoursOneByOne_X2_checkRange : GoodIn wsX2_hoursOneByOne wsX2_checkRange := goodIn_ca (goodIn_r _ [11, 12, 13, 4, 14, 15, 16] (by decide +kernel) (by decide +kernel)) (goodIn_sub (fun _ h => List.mem_cons_of_mem _ (List.mem_append_right _ h)) (by decide +kernel))
set_option maxRecDepth 20000 in
theorem gX2_hoursOneByOne_X2_checkRange : GoodIn wsX2_hoursOneByOne (va_wsS RX2 37 yX2_checkRange wsX2_checkRange) := goodIn_app (goodIn_of _ (by decide +kernel)) ggX2_hoursOneByOne_X2_checkRange
set_option maxRecDepth 20000 in
theorem ggX2_hoursOneByOne_X1_counts : GoodIn wsX2_hoursOneByOne wsX1_counts := goodIn_r _ [21, 22, 23, 24, 25, 26, 20, 27, 28, 34, 35, 36, 37, 38, 39, 40, 41, 42] (by decide +kernel) (by decide +kernel)
set_option maxRecDepth 20000 in
theorem gX2_hoursOneByOne_X1_counts : GoodIn wsX2_hoursOneByOne (wsV RX2 77 RX1 yX1_counts wsX1_counts) := goodIn_app (goodIn_of _ (by decide +kernel)) ggX2_hoursOneByOne_X1_counts
theorem dX2_hoursOneByOne_0 : decode cX2_hoursOneByOne 0 = .ok (.aload_n 0, 1) := by decide +kernel
theorem dX2_hoursOneByOne_1 : decode cX2_hoursOneByOne 1 = .ok (.iload_n 1, 1) := by decide +kernel
theorem dX2_hoursOneByOne_2 : decode cX2_hoursOneByOne 2 = .ok (.invokevirtual 33, 3) := by decide +kernel
theorem dX2_hoursOneByOne_5 : decode cX2_hoursOneByOne 5 = .ok (.astore 4, 2) := by decide +kernel
theorem dX2_hoursOneByOne_7 : decode cX2_hoursOneByOne 7 = .ok (.iload_n 2, 1) := by decide +kernel
theorem dX2_hoursOneByOne_8 : decode cX2_hoursOneByOne 8 = .ok (.iconst 0, 1) := by decide +kernel
theorem dX2_hoursOneByOne_9 : decode cX2_hoursOneByOne 9 = .ok (.sipush 24000, 3) := by decide +kernel
theorem dX2_hoursOneByOne_12 : decode cX2_hoursOneByOne 12 = .ok (.invokestatic 37, 3) := by decide +kernel
theorem dX2_hoursOneByOne_15 : decode cX2_hoursOneByOne 15 = .ok (.iload_n 3, 1) := by decide +kernel
theorem dX2_hoursOneByOne_16 : decode cX2_hoursOneByOne 16 = .ok (.iload_n 2, 1) := by decide +kernel
theorem dX2_hoursOneByOne_17 : decode cX2_hoursOneByOne 17 = .ok (.sipush 24000, 3) := by decide +kernel
theorem dX2_hoursOneByOne_20 : decode cX2_hoursOneByOne 20 = .ok (.invokestatic 37, 3) := by decide +kernel
theorem dX2_hoursOneByOne_23 : decode cX2_hoursOneByOne 23 = .ok (.iconst 0, 1) := by decide +kernel
theorem dX2_hoursOneByOne_24 : decode cX2_hoursOneByOne 24 = .ok (.istore 5, 2) := by decide +kernel
theorem dX2_hoursOneByOne_26 : decode cX2_hoursOneByOne 26 = .ok (.iload_n 2, 1) := by decide +kernel
theorem dX2_hoursOneByOne_27 : decode cX2_hoursOneByOne 27 = .ok (.istore 6, 2) := by decide +kernel
theorem dX2_hoursOneByOne_29 : decode cX2_hoursOneByOne 29 = .ok (.iload 6, 2) := by decide +kernel
theorem dX2_hoursOneByOne_31 : decode cX2_hoursOneByOne 31 = .ok (.iload_n 3, 1) := by decide +kernel
theorem dX2_hoursOneByOne_32 : decode cX2_hoursOneByOne 32 = .ok (.if_icmp .ge 22, 3) := by decide +kernel
theorem dX2_hoursOneByOne_35 : decode cX2_hoursOneByOne 35 = .ok (.aload 4, 2) := by decide +kernel
theorem dX2_hoursOneByOne_37 : decode cX2_hoursOneByOne 37 = .ok (.iload 6, 2) := by decide +kernel
theorem dX2_hoursOneByOne_39 : decode cX2_hoursOneByOne 39 = .ok (.invokevirtual 77, 3) := by decide +kernel
theorem dX2_hoursOneByOne_42 : decode cX2_hoursOneByOne 42 = .ok (.ifCond .eq 6, 3) := by decide +kernel
theorem dX2_hoursOneByOne_45 : decode cX2_hoursOneByOne 45 = .ok (.iinc 5 1, 3) := by decide +kernel
theorem dX2_hoursOneByOne_48 : decode cX2_hoursOneByOne 48 = .ok (.iinc 6 1, 3) := by decide +kernel
theorem dX2_hoursOneByOne_51 : decode cX2_hoursOneByOne 51 = .ok (.goto (-22), 3) := by decide +kernel
theorem dX2_hoursOneByOne_54 : decode cX2_hoursOneByOne 54 = .ok (.iload 5, 2) := by decide +kernel
theorem dX2_hoursOneByOne_56 : decode cX2_hoursOneByOne 56 = .ok (.ireturn, 1) := by decide +kernel
set_option maxRecDepth 20000 in
theorem ggX2_open_X2_siteAt : GoodIn wsX2_open wsX2_siteAt := goodIn_ca (goodIn_r _ [10, 11, 12, 13, 45, 46, 47, 48, 49] (by decide +kernel) (by decide +kernel)) (goodIn_sub (fun _ h => List.mem_cons_of_mem _ (List.mem_append_left _ (List.mem_append_left _ (List.mem_append_right _ h)))) (by decide +kernel))
set_option maxRecDepth 20000 in
theorem gX2_open_X2_siteAt : GoodIn wsX2_open (wsV RX2 33 RX2 yX2_siteAt wsX2_siteAt) := goodIn_app (goodIn_of _ (by decide +kernel)) ggX2_open_X2_siteAt
set_option maxRecDepth 20000 in
theorem ggX2_open_X2_checkKind : GoodIn wsX2_open wsX2_checkKind := goodIn_ca (goodIn_r _ [16, 11, 12] (by decide +kernel) (by decide +kernel)) (goodIn_sub (fun _ h => List.mem_cons_of_mem _ (List.mem_append_left _ (List.mem_append_left _ (List.mem_append_right _ h)))) (by decide +kernel))
set_option maxRecDepth 20000 in
theorem gX2_open_X2_checkKind : GoodIn wsX2_open (va_wsS RX2 61 yX2_checkKind wsX2_checkKind) := goodIn_app (goodIn_of _ (by decide +kernel)) ggX2_open_X2_checkKind
set_option maxRecDepth 20000 in
theorem ggX2_open_X2_checkRange : GoodIn wsX2_open wsX2_checkRange := goodIn_ca (goodIn_r _ [19, 20, 21, 9, 22, 23, 24] (by decide +kernel) (by decide +kernel)) (goodIn_sub (fun _ h => List.mem_cons_of_mem _ (List.mem_append_left _ (List.mem_append_right _ h))) (by decide +kernel))
set_option maxRecDepth 20000 in
theorem gX2_open_X2_checkRange : GoodIn wsX2_open (va_wsS RX2 37 yX2_checkRange wsX2_checkRange) := goodIn_app (goodIn_of _ (by decide +kernel)) ggX2_open_X2_checkRange
set_option maxRecDepth 20000 in
theorem ggX2_open_X2_checkState : GoodIn wsX2_open wsX2_checkState := goodIn_ca (goodIn_r _ [27, 28, 29] (by decide +kernel) (by decide +kernel)) (goodIn_sub (fun _ h => List.mem_cons_of_mem _ (List.mem_append_right _ h)) (by decide +kernel))
set_option maxRecDepth 20000 in
theorem gX2_open_X2_checkState : GoodIn wsX2_open (va_wsS RX2 54 yX2_checkState wsX2_checkState) := goodIn_app (goodIn_of _ (by decide +kernel)) ggX2_open_X2_checkState
set_option maxRecDepth 20000 in
theorem ggX2_open_X0_init : GoodIn wsX2_open wsX0_init := goodIn_r _ [32, 33, 34, 35, 36, 37, 38, 39, 40, 41, 42, 43, 44, 50, 51, 52, 53, 54, 55, 56, 57] (by decide +kernel) (by decide +kernel)
set_option maxRecDepth 20000 in
theorem gX2_open_X0_init : GoodIn wsX2_open (wsX0_init) := ggX2_open_X0_init
theorem dX2_open_0 : decode cX2_open 0 = .ok (.aload_n 0, 1) := by decide +kernel
theorem dX2_open_1 : decode cX2_open 1 = .ok (.iload_n 1, 1) := by decide +kernel
theorem dX2_open_2 : decode cX2_open 2 = .ok (.invokevirtual 33, 3) := by decide +kernel
theorem dX2_open_5 : decode cX2_open 5 = .ok (.astore 4, 2) := by decide +kernel
theorem dX2_open_7 : decode cX2_open 7 = .ok (.iload_n 2, 1) := by decide +kernel
theorem dX2_open_8 : decode cX2_open 8 = .ok (.invokestatic 61, 3) := by decide +kernel
theorem dX2_open_11 : decode cX2_open 11 = .ok (.iload_n 3, 1) := by decide +kernel
theorem dX2_open_12 : decode cX2_open 12 = .ok (.iconst 0, 1) := by decide +kernel
theorem dX2_open_13 : decode cX2_open 13 = .ok (.iconst 2, 1) := by decide +kernel
theorem dX2_open_14 : decode cX2_open 14 = .ok (.invokestatic 37, 3) := by decide +kernel
theorem dX2_open_17 : decode cX2_open 17 = .ok (.aload_n 0, 1) := by decide +kernel
theorem dX2_open_18 : decode cX2_open 18 = .ok (.getfield 25, 3) := by decide +kernel
theorem dX2_open_21 : decode cX2_open 21 = .ok (.bipush 40, 2) := by decide +kernel
theorem dX2_open_23 : decode cX2_open 23 = .ok (.if_icmp .ge 7, 3) := by decide +kernel
theorem dX2_open_26 : decode cX2_open 26 = .ok (.iconst 1, 1) := by decide +kernel
theorem dX2_open_27 : decode cX2_open 27 = .ok (.goto 4, 3) := by decide +kernel
theorem dX2_open_30 : decode cX2_open 30 = .ok (.iconst 0, 1) := by decide +kernel
theorem dX2_open_31 : decode cX2_open 31 = .ok (.invokestatic 54, 3) := by decide +kernel
theorem dX2_open_34 : decode cX2_open 34 = .ok (.aload_n 0, 1) := by decide +kernel
theorem dX2_open_35 : decode cX2_open 35 = .ok (.getfield 25, 3) := by decide +kernel
theorem dX2_open_38 : decode cX2_open 38 = .ok (.istore 5, 2) := by decide +kernel
theorem dX2_open_40 : decode cX2_open 40 = .ok (.aload_n 0, 1) := by decide +kernel
theorem dX2_open_41 : decode cX2_open 41 = .ok (.getfield 21, 3) := by decide +kernel
theorem dX2_open_44 : decode cX2_open 44 = .ok (.iload 5, 2) := by decide +kernel
theorem dX2_open_46 : decode cX2_open 46 = .ok (.new 19, 3) := by decide +kernel
theorem dX2_open_49 : decode cX2_open 49 = .ok (.dup, 1) := by decide +kernel
theorem dX2_open_50 : decode cX2_open 50 = .ok (.aload 4, 2) := by decide +kernel
theorem dX2_open_52 : decode cX2_open 52 = .ok (.iload_n 2, 1) := by decide +kernel
theorem dX2_open_53 : decode cX2_open 53 = .ok (.iload_n 3, 1) := by decide +kernel
theorem dX2_open_54 : decode cX2_open 54 = .ok (.invokespecial 81, 3) := by decide +kernel
theorem dX2_open_57 : decode cX2_open 57 = .ok (.aastore, 1) := by decide +kernel
theorem dX2_open_58 : decode cX2_open 58 = .ok (.aload_n 0, 1) := by decide +kernel
theorem dX2_open_59 : decode cX2_open 59 = .ok (.dup, 1) := by decide +kernel
theorem dX2_open_60 : decode cX2_open 60 = .ok (.getfield 25, 3) := by decide +kernel
theorem dX2_open_63 : decode cX2_open 63 = .ok (.iconst 1, 1) := by decide +kernel
theorem dX2_open_64 : decode cX2_open 64 = .ok (.iadd, 1) := by decide +kernel
theorem dX2_open_65 : decode cX2_open 65 = .ok (.putfield 25, 3) := by decide +kernel
theorem dX2_open_68 : decode cX2_open 68 = .ok (.iload 5, 2) := by decide +kernel
theorem dX2_open_70 : decode cX2_open 70 = .ok (.ireturn, 1) := by decide +kernel
set_option maxRecDepth 20000 in
theorem ggX2_reach_X2_caseAt : GoodIn wsX2_reach wsX2_caseAt := goodIn_ca (goodIn_r _ [7, 8, 9, 10, 80, 81, 82, 83, 84] (by decide +kernel) (by decide +kernel)) (goodIn_sub (fun _ h => List.mem_cons_of_mem _ (List.mem_append_left _ (List.mem_append_left _ (List.mem_append_right _ h)))) (by decide +kernel))
set_option maxRecDepth 20000 in
theorem gX2_reach_X2_caseAt : GoodIn wsX2_reach (wsV RX2 84 RX2 yX2_caseAt wsX2_caseAt) := goodIn_app (goodIn_of _ (by decide +kernel)) ggX2_reach_X2_caseAt
set_option maxRecDepth 20000 in
theorem ggX2_reach_X2_checkRange : GoodIn wsX2_reach wsX2_checkRange := goodIn_ca (goodIn_r _ [13, 14, 15, 6, 16, 17, 18] (by decide +kernel) (by decide +kernel)) (goodIn_sub (fun _ h => List.mem_cons_of_mem _ (List.mem_append_left _ (List.mem_append_right _ h))) (by decide +kernel))
set_option maxRecDepth 20000 in
theorem gX2_reach_X2_checkRange : GoodIn wsX2_reach (va_wsS RX2 37 yX2_checkRange wsX2_checkRange) := goodIn_app (goodIn_of _ (by decide +kernel)) ggX2_reach_X2_checkRange
set_option maxRecDepth 20000 in
theorem ggX2_reach_X0_hasReached : GoodIn wsX2_reach wsX0_hasReached := goodIn_r _ [23, 24, 72, 73, 74, 75, 76, 77, 78, 79] (by decide +kernel) (by decide +kernel)
set_option maxRecDepth 20000 in
theorem gX2_reach_X0_hasReached : GoodIn wsX2_reach (wsV RX2 91 RX0 yX0_hasReached wsX0_hasReached) := goodIn_app (goodIn_of _ (by decide +kernel)) ggX2_reach_X0_hasReached
set_option maxRecDepth 20000 in
theorem ggX2_reach_X2_checkState : GoodIn wsX2_reach wsX2_checkState := goodIn_ca (goodIn_r _ [27, 28, 29] (by decide +kernel) (by decide +kernel)) (goodIn_sub (fun _ h => List.mem_cons_of_mem _ (List.mem_append_right _ h)) (by decide +kernel))
set_option maxRecDepth 20000 in
theorem gX2_reach_X2_checkState : GoodIn wsX2_reach (va_wsS RX2 54 yX2_checkState wsX2_checkState) := goodIn_app (goodIn_of _ (by decide +kernel)) ggX2_reach_X2_checkState
set_option maxRecDepth 20000 in
theorem ggX2_reach_X2_countMissedOfReached : GoodIn wsX2_reach wsX2_countMissedOfReached := goodIn_r _ [33, 19, 20, 21, 22, 23, 24, 34, 35, 36, 6, 37, 38, 39, 40, 41, 42, 43, 44, 72, 73, 74, 75, 76, 77, 78, 79, 80, 81, 82, 83, 84] (by decide +kernel) (by decide +kernel)
set_option maxRecDepth 20000 in
theorem gX2_reach_X2_countMissedOfReached : GoodIn wsX2_reach (wsV RX2 97 RX2 yX2_countMissedOfReached wsX2_countMissedOfReached) := goodIn_app (goodIn_of _ (by decide +kernel)) ggX2_reach_X2_countMissedOfReached
set_option maxRecDepth 20000 in
theorem ggX2_reach_X2_closeMended : GoodIn wsX2_reach wsX2_closeMended := goodIn_r _ [48, 1, 10, 49, 50, 51, 52, 53, 22, 54, 55, 56, 57, 58, 59, 6, 60, 61, 62, 63, 64, 65, 66, 67, 68, 69, 70, 71, 72, 73, 74, 75, 76, 77, 78, 79, 80, 81, 82, 83, 84, 85, 86, 87, 88, 89, 90, 91, 92, 93] (by decide +kernel) (by decide +kernel)
set_option maxRecDepth 20000 in
theorem gX2_reach_X2_closeMended : GoodIn wsX2_reach (wsV RX2 101 RX2 yX2_closeMended wsX2_closeMended) := goodIn_app (goodIn_of _ (by decide +kernel)) ggX2_reach_X2_closeMended
theorem dX2_reach_0 : decode cX2_reach 0 = .ok (.aload_n 0, 1) := by decide +kernel
theorem dX2_reach_1 : decode cX2_reach 1 = .ok (.iload_n 1, 1) := by decide +kernel
theorem dX2_reach_2 : decode cX2_reach 2 = .ok (.invokevirtual 84, 3) := by decide +kernel
theorem dX2_reach_5 : decode cX2_reach 5 = .ok (.astore_n 3, 1) := by decide +kernel
theorem dX2_reach_6 : decode cX2_reach 6 = .ok (.iload_n 2, 1) := by decide +kernel
theorem dX2_reach_7 : decode cX2_reach 7 = .ok (.iconst 0, 1) := by decide +kernel
theorem dX2_reach_8 : decode cX2_reach 8 = .ok (.iconst 2, 1) := by decide +kernel
theorem dX2_reach_9 : decode cX2_reach 9 = .ok (.invokestatic 37, 3) := by decide +kernel
theorem dX2_reach_12 : decode cX2_reach 12 = .ok (.aload_n 3, 1) := by decide +kernel
theorem dX2_reach_13 : decode cX2_reach 13 = .ok (.getfield 88, 3) := by decide +kernel
theorem dX2_reach_16 : decode cX2_reach 16 = .ok (.ifCond .ne 15, 3) := by decide +kernel
theorem dX2_reach_19 : decode cX2_reach 19 = .ok (.aload_n 3, 1) := by decide +kernel
theorem dX2_reach_20 : decode cX2_reach 20 = .ok (.iload_n 2, 1) := by decide +kernel
theorem dX2_reach_21 : decode cX2_reach 21 = .ok (.invokevirtual 91, 3) := by decide +kernel
theorem dX2_reach_24 : decode cX2_reach 24 = .ok (.ifCond .ne 7, 3) := by decide +kernel
theorem dX2_reach_27 : decode cX2_reach 27 = .ok (.iconst 1, 1) := by decide +kernel
theorem dX2_reach_28 : decode cX2_reach 28 = .ok (.goto 4, 3) := by decide +kernel
theorem dX2_reach_31 : decode cX2_reach 31 = .ok (.iconst 0, 1) := by decide +kernel
theorem dX2_reach_32 : decode cX2_reach 32 = .ok (.invokestatic 54, 3) := by decide +kernel
theorem dX2_reach_35 : decode cX2_reach 35 = .ok (.aload_n 3, 1) := by decide +kernel
theorem dX2_reach_36 : decode cX2_reach 36 = .ok (.iload_n 2, 1) := by decide +kernel
theorem dX2_reach_37 : decode cX2_reach 37 = .ok (.iconst 1, 1) := by decide +kernel
theorem dX2_reach_38 : decode cX2_reach 38 = .ok (.iadd, 1) := by decide +kernel
theorem dX2_reach_39 : decode cX2_reach 39 = .ok (.putfield 94, 3) := by decide +kernel
theorem dX2_reach_42 : decode cX2_reach 42 = .ok (.aload_n 0, 1) := by decide +kernel
theorem dX2_reach_43 : decode cX2_reach 43 = .ok (.aload_n 3, 1) := by decide +kernel
theorem dX2_reach_44 : decode cX2_reach 44 = .ok (.invokevirtual 97, 3) := by decide +kernel
theorem dX2_reach_47 : decode cX2_reach 47 = .ok (.istore 4, 2) := by decide +kernel
theorem dX2_reach_49 : decode cX2_reach 49 = .ok (.iload_n 2, 1) := by decide +kernel
theorem dX2_reach_50 : decode cX2_reach 50 = .ok (.iconst 2, 1) := by decide +kernel
theorem dX2_reach_51 : decode cX2_reach 51 = .ok (.if_icmp .ne 10, 3) := by decide +kernel
theorem dX2_reach_54 : decode cX2_reach 54 = .ok (.aload_n 0, 1) := by decide +kernel
theorem dX2_reach_55 : decode cX2_reach 55 = .ok (.aload_n 3, 1) := by decide +kernel
theorem dX2_reach_56 : decode cX2_reach 56 = .ok (.iload 4, 2) := by decide +kernel
theorem dX2_reach_58 : decode cX2_reach 58 = .ok (.invokevirtual 101, 3) := by decide +kernel
theorem dX2_reach_61 : decode cX2_reach 61 = .ok (.iload 4, 2) := by decide +kernel
theorem dX2_reach_63 : decode cX2_reach 63 = .ok (.ireturn, 1) := by decide +kernel
set_option maxRecDepth 20000 in
theorem ggX2_rest_X2_caseAt : GoodIn wsX2_rest wsX2_caseAt := goodIn_ca (goodIn_r _ [7, 8, 9, 10, 24, 25, 26, 27, 28] (by decide +kernel) (by decide +kernel)) (goodIn_sub (fun _ h => List.mem_cons_of_mem _ (List.mem_append_left _ (List.mem_append_right _ h))) (by decide +kernel))
set_option maxRecDepth 20000 in
theorem gX2_rest_X2_caseAt : GoodIn wsX2_rest (wsV RX2 84 RX2 yX2_caseAt wsX2_caseAt) := goodIn_app (goodIn_of _ (by decide +kernel)) ggX2_rest_X2_caseAt
set_option maxRecDepth 20000 in
theorem ggX2_rest_X2_checkState : GoodIn wsX2_rest wsX2_checkState := goodIn_ca (goodIn_r _ [13, 14, 15] (by decide +kernel) (by decide +kernel)) (goodIn_sub (fun _ h => List.mem_cons_of_mem _ (List.mem_append_right _ h)) (by decide +kernel))
set_option maxRecDepth 20000 in
theorem gX2_rest_X2_checkState : GoodIn wsX2_rest (va_wsS RX2 54 yX2_checkState wsX2_checkState) := goodIn_app (goodIn_of _ (by decide +kernel)) ggX2_rest_X2_checkState
theorem dX2_rest_0 : decode cX2_rest 0 = .ok (.aload_n 0, 1) := by decide +kernel
theorem dX2_rest_1 : decode cX2_rest 1 = .ok (.iload_n 1, 1) := by decide +kernel
theorem dX2_rest_2 : decode cX2_rest 2 = .ok (.invokevirtual 84, 3) := by decide +kernel
theorem dX2_rest_5 : decode cX2_rest 5 = .ok (.astore_n 3, 1) := by decide +kernel
theorem dX2_rest_6 : decode cX2_rest 6 = .ok (.aload_n 3, 1) := by decide +kernel
theorem dX2_rest_7 : decode cX2_rest 7 = .ok (.getfield 88, 3) := by decide +kernel
theorem dX2_rest_10 : decode cX2_rest 10 = .ok (.ifCond .ne 7, 3) := by decide +kernel
theorem dX2_rest_13 : decode cX2_rest 13 = .ok (.iconst 1, 1) := by decide +kernel
theorem dX2_rest_14 : decode cX2_rest 14 = .ok (.goto 4, 3) := by decide +kernel
theorem dX2_rest_17 : decode cX2_rest 17 = .ok (.iconst 0, 1) := by decide +kernel
theorem dX2_rest_18 : decode cX2_rest 18 = .ok (.invokestatic 54, 3) := by decide +kernel
theorem dX2_rest_21 : decode cX2_rest 21 = .ok (.aload_n 3, 1) := by decide +kernel
theorem dX2_rest_22 : decode cX2_rest 22 = .ok (.getfield 105, 3) := by decide +kernel
theorem dX2_rest_25 : decode cX2_rest 25 = .ok (.istore 4, 2) := by decide +kernel
theorem dX2_rest_27 : decode cX2_rest 27 = .ok (.aload_n 3, 1) := by decide +kernel
theorem dX2_rest_28 : decode cX2_rest 28 = .ok (.iload_n 2, 1) := by decide +kernel
theorem dX2_rest_29 : decode cX2_rest 29 = .ok (.putfield 105, 3) := by decide +kernel
theorem dX2_rest_32 : decode cX2_rest 32 = .ok (.iload 4, 2) := by decide +kernel
theorem dX2_rest_34 : decode cX2_rest 34 = .ok (.ireturn, 1) := by decide +kernel
set_option maxRecDepth 20000 in
theorem ggX2_setGravity_X2_caseAt : GoodIn wsX2_setGravity wsX2_caseAt := goodIn_ca (goodIn_r _ [7, 8, 9, 10, 32, 33, 34, 35, 36] (by decide +kernel) (by decide +kernel)) (goodIn_sub (fun _ h => List.mem_cons_of_mem _ (List.mem_append_left _ (List.mem_append_left _ (List.mem_append_right _ h)))) (by decide +kernel))
set_option maxRecDepth 20000 in
theorem gX2_setGravity_X2_caseAt : GoodIn wsX2_setGravity (wsV RX2 84 RX2 yX2_caseAt wsX2_caseAt) := goodIn_app (goodIn_of _ (by decide +kernel)) ggX2_setGravity_X2_caseAt
set_option maxRecDepth 20000 in
theorem ggX2_setGravity_X2_checkRange : GoodIn wsX2_setGravity wsX2_checkRange := goodIn_ca (goodIn_r _ [13, 14, 15, 6, 16, 17, 18] (by decide +kernel) (by decide +kernel)) (goodIn_sub (fun _ h => List.mem_cons_of_mem _ (List.mem_append_left _ (List.mem_append_right _ h))) (by decide +kernel))
set_option maxRecDepth 20000 in
theorem gX2_setGravity_X2_checkRange : GoodIn wsX2_setGravity (va_wsS RX2 37 yX2_checkRange wsX2_checkRange) := goodIn_app (goodIn_of _ (by decide +kernel)) ggX2_setGravity_X2_checkRange
set_option maxRecDepth 20000 in
theorem ggX2_setGravity_X2_checkState : GoodIn wsX2_setGravity wsX2_checkState := goodIn_ca (goodIn_r _ [21, 22, 23] (by decide +kernel) (by decide +kernel)) (goodIn_sub (fun _ h => List.mem_cons_of_mem _ (List.mem_append_right _ h)) (by decide +kernel))
set_option maxRecDepth 20000 in
theorem gX2_setGravity_X2_checkState : GoodIn wsX2_setGravity (va_wsS RX2 54 yX2_checkState wsX2_checkState) := goodIn_app (goodIn_of _ (by decide +kernel)) ggX2_setGravity_X2_checkState
theorem dX2_setGravity_0 : decode cX2_setGravity 0 = .ok (.aload_n 0, 1) := by decide +kernel
theorem dX2_setGravity_1 : decode cX2_setGravity 1 = .ok (.iload_n 1, 1) := by decide +kernel
theorem dX2_setGravity_2 : decode cX2_setGravity 2 = .ok (.invokevirtual 84, 3) := by decide +kernel
theorem dX2_setGravity_5 : decode cX2_setGravity 5 = .ok (.astore_n 3, 1) := by decide +kernel
theorem dX2_setGravity_6 : decode cX2_setGravity 6 = .ok (.iload_n 2, 1) := by decide +kernel
theorem dX2_setGravity_7 : decode cX2_setGravity 7 = .ok (.iconst 0, 1) := by decide +kernel
theorem dX2_setGravity_8 : decode cX2_setGravity 8 = .ok (.iconst 2, 1) := by decide +kernel
theorem dX2_setGravity_9 : decode cX2_setGravity 9 = .ok (.invokestatic 37, 3) := by decide +kernel
theorem dX2_setGravity_12 : decode cX2_setGravity 12 = .ok (.aload_n 3, 1) := by decide +kernel
theorem dX2_setGravity_13 : decode cX2_setGravity 13 = .ok (.getfield 88, 3) := by decide +kernel
theorem dX2_setGravity_16 : decode cX2_setGravity 16 = .ok (.ifCond .ne 7, 3) := by decide +kernel
theorem dX2_setGravity_19 : decode cX2_setGravity 19 = .ok (.iconst 1, 1) := by decide +kernel
theorem dX2_setGravity_20 : decode cX2_setGravity 20 = .ok (.goto 4, 3) := by decide +kernel
theorem dX2_setGravity_23 : decode cX2_setGravity 23 = .ok (.iconst 0, 1) := by decide +kernel
theorem dX2_setGravity_24 : decode cX2_setGravity 24 = .ok (.invokestatic 54, 3) := by decide +kernel
theorem dX2_setGravity_27 : decode cX2_setGravity 27 = .ok (.aload_n 3, 1) := by decide +kernel
theorem dX2_setGravity_28 : decode cX2_setGravity 28 = .ok (.getfield 109, 3) := by decide +kernel
theorem dX2_setGravity_31 : decode cX2_setGravity 31 = .ok (.istore 4, 2) := by decide +kernel
theorem dX2_setGravity_33 : decode cX2_setGravity 33 = .ok (.aload_n 3, 1) := by decide +kernel
theorem dX2_setGravity_34 : decode cX2_setGravity 34 = .ok (.iload_n 2, 1) := by decide +kernel
theorem dX2_setGravity_35 : decode cX2_setGravity 35 = .ok (.putfield 109, 3) := by decide +kernel
theorem dX2_setGravity_38 : decode cX2_setGravity 38 = .ok (.iload 4, 2) := by decide +kernel
theorem dX2_setGravity_40 : decode cX2_setGravity 40 = .ok (.ireturn, 1) := by decide +kernel
set_option maxRecDepth 20000 in
theorem ggX2_join_X2_caseAt : GoodIn wsX2_join wsX2_caseAt := goodIn_ca (goodIn_r _ [8, 9, 10, 11, 41, 42, 43, 44, 45] (by decide +kernel) (by decide +kernel)) (goodIn_sub (fun _ h => List.mem_cons_of_mem _ (List.mem_append_left _ (List.mem_append_left _ (List.mem_append_right _ h)))) (by decide +kernel))
set_option maxRecDepth 20000 in
theorem gX2_join_X2_caseAt : GoodIn wsX2_join (wsV RX2 84 RX2 yX2_caseAt wsX2_caseAt) := goodIn_app (goodIn_of _ (by decide +kernel)) ggX2_join_X2_caseAt
set_option maxRecDepth 20000 in
theorem ggX2_join_X2_checkArgument : GoodIn wsX2_join wsX2_checkArgument := goodIn_ca (goodIn_r _ [14, 15, 16] (by decide +kernel) (by decide +kernel)) (goodIn_sub (fun _ h => List.mem_cons_of_mem _ (List.mem_append_left _ (List.mem_append_right _ h))) (by decide +kernel))
set_option maxRecDepth 20000 in
theorem gX2_join_X2_checkArgument : GoodIn wsX2_join (va_wsS RX2 116 yX2_checkArgument wsX2_checkArgument) := goodIn_app (goodIn_of _ (by decide +kernel)) ggX2_join_X2_checkArgument
set_option maxRecDepth 20000 in
theorem ggX2_join_X2_countJoinedTo : GoodIn wsX2_join wsX2_countJoinedTo := goodIn_r _ [20, 11, 21, 22, 23, 24, 25, 26, 27, 41, 42, 43, 44, 45, 33, 34, 35, 36, 37, 38, 39, 40] (by decide +kernel) (by decide +kernel)
set_option maxRecDepth 20000 in
theorem gX2_join_X2_countJoinedTo : GoodIn wsX2_join (wsV RX2 119 RX2 yX2_countJoinedTo wsX2_countJoinedTo) := goodIn_app (goodIn_of _ (by decide +kernel)) ggX2_join_X2_countJoinedTo
set_option maxRecDepth 20000 in
theorem ggX2_join_X2_checkState : GoodIn wsX2_join wsX2_checkState := goodIn_ca (goodIn_r _ [30, 31, 32] (by decide +kernel) (by decide +kernel)) (goodIn_sub (fun _ h => List.mem_cons_of_mem _ (List.mem_append_right _ h)) (by decide +kernel))
set_option maxRecDepth 20000 in
theorem gX2_join_X2_checkState : GoodIn wsX2_join (va_wsS RX2 54 yX2_checkState wsX2_checkState) := goodIn_app (goodIn_of _ (by decide +kernel)) ggX2_join_X2_checkState
theorem dX2_join_0 : decode cX2_join 0 = .ok (.aload_n 0, 1) := by decide +kernel
theorem dX2_join_1 : decode cX2_join 1 = .ok (.iload_n 1, 1) := by decide +kernel
theorem dX2_join_2 : decode cX2_join 2 = .ok (.invokevirtual 84, 3) := by decide +kernel
theorem dX2_join_5 : decode cX2_join 5 = .ok (.astore_n 3, 1) := by decide +kernel
theorem dX2_join_6 : decode cX2_join 6 = .ok (.aload_n 0, 1) := by decide +kernel
theorem dX2_join_7 : decode cX2_join 7 = .ok (.iload_n 2, 1) := by decide +kernel
theorem dX2_join_8 : decode cX2_join 8 = .ok (.invokevirtual 84, 3) := by decide +kernel
theorem dX2_join_11 : decode cX2_join 11 = .ok (.astore 4, 2) := by decide +kernel
theorem dX2_join_13 : decode cX2_join 13 = .ok (.aload_n 3, 1) := by decide +kernel
theorem dX2_join_14 : decode cX2_join 14 = .ok (.aload 4, 2) := by decide +kernel
theorem dX2_join_16 : decode cX2_join 16 = .ok (.if_acmp .eq 19, 3) := by decide +kernel
theorem dX2_join_19 : decode cX2_join 19 = .ok (.aload_n 3, 1) := by decide +kernel
theorem dX2_join_20 : decode cX2_join 20 = .ok (.getfield 112, 3) := by decide +kernel
theorem dX2_join_23 : decode cX2_join 23 = .ok (.aload 4, 2) := by decide +kernel
theorem dX2_join_25 : decode cX2_join 25 = .ok (.getfield 112, 3) := by decide +kernel
theorem dX2_join_28 : decode cX2_join 28 = .ok (.if_acmp .ne 7, 3) := by decide +kernel
theorem dX2_join_31 : decode cX2_join 31 = .ok (.iconst 1, 1) := by decide +kernel
theorem dX2_join_32 : decode cX2_join 32 = .ok (.goto 4, 3) := by decide +kernel
theorem dX2_join_35 : decode cX2_join 35 = .ok (.iconst 0, 1) := by decide +kernel
theorem dX2_join_36 : decode cX2_join 36 = .ok (.invokestatic 116, 3) := by decide +kernel
theorem dX2_join_39 : decode cX2_join 39 = .ok (.aload_n 3, 1) := by decide +kernel
theorem dX2_join_40 : decode cX2_join 40 = .ok (.getfield 88, 3) := by decide +kernel
theorem dX2_join_43 : decode cX2_join 43 = .ok (.ifCond .ne 23, 3) := by decide +kernel
theorem dX2_join_46 : decode cX2_join 46 = .ok (.aload 4, 2) := by decide +kernel
theorem dX2_join_48 : decode cX2_join 48 = .ok (.getfield 88, 3) := by decide +kernel
theorem dX2_join_51 : decode cX2_join 51 = .ok (.ifCond .ne 15, 3) := by decide +kernel
theorem dX2_join_54 : decode cX2_join 54 = .ok (.aload_n 0, 1) := by decide +kernel
theorem dX2_join_55 : decode cX2_join 55 = .ok (.aload_n 3, 1) := by decide +kernel
theorem dX2_join_56 : decode cX2_join 56 = .ok (.invokevirtual 119, 3) := by decide +kernel
theorem dX2_join_59 : decode cX2_join 59 = .ok (.ifCond .ne 7, 3) := by decide +kernel
theorem dX2_join_62 : decode cX2_join 62 = .ok (.iconst 1, 1) := by decide +kernel
theorem dX2_join_63 : decode cX2_join 63 = .ok (.goto 4, 3) := by decide +kernel
theorem dX2_join_66 : decode cX2_join 66 = .ok (.iconst 0, 1) := by decide +kernel
theorem dX2_join_67 : decode cX2_join 67 = .ok (.invokestatic 54, 3) := by decide +kernel
theorem dX2_join_70 : decode cX2_join 70 = .ok (.aload_n 3, 1) := by decide +kernel
theorem dX2_join_71 : decode cX2_join 71 = .ok (.iconst 1, 1) := by decide +kernel
theorem dX2_join_72 : decode cX2_join 72 = .ok (.putfield 88, 3) := by decide +kernel
theorem dX2_join_75 : decode cX2_join 75 = .ok (.aload_n 3, 1) := by decide +kernel
theorem dX2_join_76 : decode cX2_join 76 = .ok (.aload 4, 2) := by decide +kernel
theorem dX2_join_78 : decode cX2_join 78 = .ok (.putfield 122, 3) := by decide +kernel
theorem dX2_join_81 : decode cX2_join 81 = .ok (.aload_n 0, 1) := by decide +kernel
theorem dX2_join_82 : decode cX2_join 82 = .ok (.aload 4, 2) := by decide +kernel
theorem dX2_join_84 : decode cX2_join 84 = .ok (.invokevirtual 119, 3) := by decide +kernel
theorem dX2_join_87 : decode cX2_join 87 = .ok (.ireturn, 1) := by decide +kernel
set_option maxRecDepth 20000 in
theorem ggX2_openAnew_X2_caseAt : GoodIn wsX2_openAnew wsX2_caseAt := goodIn_ca (goodIn_r _ [13, 14, 15, 16, 30, 31, 32, 33, 34] (by decide +kernel) (by decide +kernel)) (goodIn_sub (fun _ h => List.mem_cons_of_mem _ (List.mem_append_left _ (List.mem_append_right _ h))) (by decide +kernel))
set_option maxRecDepth 20000 in
theorem gX2_openAnew_X2_caseAt : GoodIn wsX2_openAnew (wsV RX2 84 RX2 yX2_caseAt wsX2_caseAt) := goodIn_app (goodIn_of _ (by decide +kernel)) ggX2_openAnew_X2_caseAt
set_option maxRecDepth 20000 in
theorem ggX2_openAnew_X2_checkState : GoodIn wsX2_openAnew wsX2_checkState := goodIn_ca (goodIn_r _ [19, 20, 21] (by decide +kernel) (by decide +kernel)) (goodIn_sub (fun _ h => List.mem_cons_of_mem _ (List.mem_append_right _ h)) (by decide +kernel))
set_option maxRecDepth 20000 in
theorem gX2_openAnew_X2_checkState : GoodIn wsX2_openAnew (va_wsS RX2 54 yX2_checkState wsX2_checkState) := goodIn_app (goodIn_of _ (by decide +kernel)) ggX2_openAnew_X2_checkState
theorem dX2_openAnew_0 : decode cX2_openAnew 0 = .ok (.aload_n 0, 1) := by decide +kernel
theorem dX2_openAnew_1 : decode cX2_openAnew 1 = .ok (.iload_n 1, 1) := by decide +kernel
theorem dX2_openAnew_2 : decode cX2_openAnew 2 = .ok (.invokevirtual 84, 3) := by decide +kernel
theorem dX2_openAnew_5 : decode cX2_openAnew 5 = .ok (.astore_n 2, 1) := by decide +kernel
theorem dX2_openAnew_6 : decode cX2_openAnew 6 = .ok (.aload_n 2, 1) := by decide +kernel
theorem dX2_openAnew_7 : decode cX2_openAnew 7 = .ok (.getfield 88, 3) := by decide +kernel
theorem dX2_openAnew_10 : decode cX2_openAnew 10 = .ok (.iconst 2, 1) := by decide +kernel
theorem dX2_openAnew_11 : decode cX2_openAnew 11 = .ok (.if_icmp .ne 7, 3) := by decide +kernel
theorem dX2_openAnew_14 : decode cX2_openAnew 14 = .ok (.iconst 1, 1) := by decide +kernel
theorem dX2_openAnew_15 : decode cX2_openAnew 15 = .ok (.goto 4, 3) := by decide +kernel
theorem dX2_openAnew_18 : decode cX2_openAnew 18 = .ok (.iconst 0, 1) := by decide +kernel
theorem dX2_openAnew_19 : decode cX2_openAnew 19 = .ok (.invokestatic 54, 3) := by decide +kernel
theorem dX2_openAnew_22 : decode cX2_openAnew 22 = .ok (.aload_n 2, 1) := by decide +kernel
theorem dX2_openAnew_23 : decode cX2_openAnew 23 = .ok (.iconst 0, 1) := by decide +kernel
theorem dX2_openAnew_24 : decode cX2_openAnew 24 = .ok (.putfield 88, 3) := by decide +kernel
theorem dX2_openAnew_27 : decode cX2_openAnew 27 = .ok (.aload_n 2, 1) := by decide +kernel
theorem dX2_openAnew_28 : decode cX2_openAnew 28 = .ok (.iconst 0, 1) := by decide +kernel
theorem dX2_openAnew_29 : decode cX2_openAnew 29 = .ok (.putfield 105, 3) := by decide +kernel
theorem dX2_openAnew_32 : decode cX2_openAnew 32 = .ok (.aload_n 2, 1) := by decide +kernel
theorem dX2_openAnew_33 : decode cX2_openAnew 33 = .ok (.aload_n 2, 1) := by decide +kernel
theorem dX2_openAnew_34 : decode cX2_openAnew 34 = .ok (.getfield 94, 3) := by decide +kernel
theorem dX2_openAnew_37 : decode cX2_openAnew 37 = .ok (.iconst 2, 1) := by decide +kernel
theorem dX2_openAnew_38 : decode cX2_openAnew 38 = .ok (.invokestatic 126, 3) := by decide +kernel
theorem dX2_openAnew_41 : decode cX2_openAnew 41 = .ok (.putfield 94, 3) := by decide +kernel
theorem dX2_openAnew_44 : decode cX2_openAnew 44 = .ok (.aload_n 2, 1) := by decide +kernel
theorem dX2_openAnew_45 : decode cX2_openAnew 45 = .ok (.getfield 131, 3) := by decide +kernel
theorem dX2_openAnew_48 : decode cX2_openAnew 48 = .ok (.iconst 2, 1) := by decide +kernel
theorem dX2_openAnew_49 : decode cX2_openAnew 49 = .ok (.iaload, 1) := by decide +kernel
theorem dX2_openAnew_50 : decode cX2_openAnew 50 = .ok (.ireturn, 1) := by decide +kernel
set_option maxRecDepth 20000 in
theorem ggX2_stateOf_X2_caseAt : GoodIn wsX2_stateOf wsX2_caseAt := goodIn_ca (goodIn_r _ [6, 7, 8, 9, 18, 19, 20, 21, 22] (by decide +kernel) (by decide +kernel)) (goodIn_sub (fun _ h => List.mem_cons_of_mem _ (List.mem_append_right _ h)) (by decide +kernel))
set_option maxRecDepth 20000 in
theorem gX2_stateOf_X2_caseAt : GoodIn wsX2_stateOf (wsV RX2 84 RX2 yX2_caseAt wsX2_caseAt) := goodIn_app (goodIn_of _ (by decide +kernel)) ggX2_stateOf_X2_caseAt
theorem dX2_stateOf_0 : decode cX2_stateOf 0 = .ok (.aload_n 0, 1) := by decide +kernel
theorem dX2_stateOf_1 : decode cX2_stateOf 1 = .ok (.iload_n 1, 1) := by decide +kernel
theorem dX2_stateOf_2 : decode cX2_stateOf 2 = .ok (.invokevirtual 84, 3) := by decide +kernel
theorem dX2_stateOf_5 : decode cX2_stateOf 5 = .ok (.getfield 88, 3) := by decide +kernel
theorem dX2_stateOf_8 : decode cX2_stateOf 8 = .ok (.ireturn, 1) := by decide +kernel
set_option maxRecDepth 20000 in
theorem ggX2_clock_X2_caseAt : GoodIn wsX2_clock wsX2_caseAt := goodIn_ca (goodIn_r _ [6, 7, 8, 9, 26, 27, 28, 29, 30] (by decide +kernel) (by decide +kernel)) (goodIn_sub (fun _ h => List.mem_cons_of_mem _ (List.mem_append_left _ (List.mem_append_right _ h))) (by decide +kernel))
set_option maxRecDepth 20000 in
theorem gX2_clock_X2_caseAt : GoodIn wsX2_clock (wsV RX2 84 RX2 yX2_caseAt wsX2_caseAt) := goodIn_app (goodIn_of _ (by decide +kernel)) ggX2_clock_X2_caseAt
set_option maxRecDepth 20000 in
theorem ggX2_clock_X2_checkRange : GoodIn wsX2_clock wsX2_checkRange := goodIn_ca (goodIn_r _ [12, 13, 14, 5, 15, 16, 17] (by decide +kernel) (by decide +kernel)) (goodIn_sub (fun _ h => List.mem_cons_of_mem _ (List.mem_append_right _ h)) (by decide +kernel))
set_option maxRecDepth 20000 in
theorem gX2_clock_X2_checkRange : GoodIn wsX2_clock (va_wsS RX2 37 yX2_checkRange wsX2_checkRange) := goodIn_app (goodIn_of _ (by decide +kernel)) ggX2_clock_X2_checkRange
theorem dX2_clock_0 : decode cX2_clock 0 = .ok (.aload_n 0, 1) := by decide +kernel
theorem dX2_clock_1 : decode cX2_clock 1 = .ok (.iload_n 1, 1) := by decide +kernel
theorem dX2_clock_2 : decode cX2_clock 2 = .ok (.invokevirtual 84, 3) := by decide +kernel
theorem dX2_clock_5 : decode cX2_clock 5 = .ok (.astore_n 3, 1) := by decide +kernel
theorem dX2_clock_6 : decode cX2_clock 6 = .ok (.iload_n 2, 1) := by decide +kernel
theorem dX2_clock_7 : decode cX2_clock 7 = .ok (.iconst 0, 1) := by decide +kernel
theorem dX2_clock_8 : decode cX2_clock 8 = .ok (.iconst 2, 1) := by decide +kernel
theorem dX2_clock_9 : decode cX2_clock 9 = .ok (.invokestatic 37, 3) := by decide +kernel
theorem dX2_clock_12 : decode cX2_clock 12 = .ok (.aload_n 3, 1) := by decide +kernel
theorem dX2_clock_13 : decode cX2_clock 13 = .ok (.getfield 131, 3) := by decide +kernel
theorem dX2_clock_16 : decode cX2_clock 16 = .ok (.iload_n 2, 1) := by decide +kernel
theorem dX2_clock_17 : decode cX2_clock 17 = .ok (.iaload, 1) := by decide +kernel
theorem dX2_clock_18 : decode cX2_clock 18 = .ok (.ireturn, 1) := by decide +kernel
set_option maxRecDepth 20000 in
theorem ggX2_isMissed_X2_caseAt : GoodIn wsX2_isMissed wsX2_caseAt := goodIn_ca (goodIn_r _ [5, 6, 7, 8, 28, 29, 30, 31, 32] (by decide +kernel) (by decide +kernel)) (goodIn_sub (fun _ h => List.mem_cons_of_mem _ (List.mem_append_left _ (List.mem_append_right _ h))) (by decide +kernel))
set_option maxRecDepth 20000 in
theorem gX2_isMissed_X2_caseAt : GoodIn wsX2_isMissed (wsV RX2 84 RX2 yX2_caseAt wsX2_caseAt) := goodIn_app (goodIn_of _ (by decide +kernel)) ggX2_isMissed_X2_caseAt
set_option maxRecDepth 20000 in
theorem ggX2_isMissed_X2_checkRange : GoodIn wsX2_isMissed wsX2_checkRange := goodIn_ca (goodIn_r _ [11, 12, 13, 4, 14, 15, 16] (by decide +kernel) (by decide +kernel)) (goodIn_sub (fun _ h => List.mem_cons_of_mem _ (List.mem_append_right _ h)) (by decide +kernel))
set_option maxRecDepth 20000 in
theorem gX2_isMissed_X2_checkRange : GoodIn wsX2_isMissed (va_wsS RX2 37 yX2_checkRange wsX2_checkRange) := goodIn_app (goodIn_of _ (by decide +kernel)) ggX2_isMissed_X2_checkRange
set_option maxRecDepth 20000 in
theorem ggX2_isMissed_X2_misses : GoodIn wsX2_isMissed wsX2_misses := goodIn_r _ [20, 21, 22, 23, 24, 4, 25, 26, 27, 33, 34, 35, 36, 37, 38, 39, 40, 28, 29, 30, 31, 32] (by decide +kernel) (by decide +kernel)
set_option maxRecDepth 20000 in
theorem gX2_isMissed_X2_misses : GoodIn wsX2_isMissed (wsV RX2 134 RX2 yX2_misses wsX2_misses) := goodIn_app (goodIn_of _ (by decide +kernel)) ggX2_isMissed_X2_misses
theorem dX2_isMissed_0 : decode cX2_isMissed 0 = .ok (.aload_n 0, 1) := by decide +kernel
theorem dX2_isMissed_1 : decode cX2_isMissed 1 = .ok (.iload_n 1, 1) := by decide +kernel
theorem dX2_isMissed_2 : decode cX2_isMissed 2 = .ok (.invokevirtual 84, 3) := by decide +kernel
theorem dX2_isMissed_5 : decode cX2_isMissed 5 = .ok (.astore_n 3, 1) := by decide +kernel
theorem dX2_isMissed_6 : decode cX2_isMissed 6 = .ok (.iload_n 2, 1) := by decide +kernel
theorem dX2_isMissed_7 : decode cX2_isMissed 7 = .ok (.iconst 0, 1) := by decide +kernel
theorem dX2_isMissed_8 : decode cX2_isMissed 8 = .ok (.iconst 2, 1) := by decide +kernel
theorem dX2_isMissed_9 : decode cX2_isMissed 9 = .ok (.invokestatic 37, 3) := by decide +kernel
theorem dX2_isMissed_12 : decode cX2_isMissed 12 = .ok (.aload_n 0, 1) := by decide +kernel
theorem dX2_isMissed_13 : decode cX2_isMissed 13 = .ok (.aload_n 3, 1) := by decide +kernel
theorem dX2_isMissed_14 : decode cX2_isMissed 14 = .ok (.iload_n 2, 1) := by decide +kernel
theorem dX2_isMissed_15 : decode cX2_isMissed 15 = .ok (.invokevirtual 134, 3) := by decide +kernel
theorem dX2_isMissed_18 : decode cX2_isMissed 18 = .ok (.ireturn, 1) := by decide +kernel
set_option maxRecDepth 20000 in
theorem ggX2_step_X2_caseAt : GoodIn wsX2_step wsX2_caseAt := goodIn_ca (goodIn_r _ [5, 6, 7, 8, 34, 35, 36, 37, 38] (by decide +kernel) (by decide +kernel)) (goodIn_sub (fun _ h => List.mem_cons_of_mem _ (List.mem_append_right _ h)) (by decide +kernel))
set_option maxRecDepth 20000 in
theorem gX2_step_X2_caseAt : GoodIn wsX2_step (wsV RX2 84 RX2 yX2_caseAt wsX2_caseAt) := goodIn_app (goodIn_of _ (by decide +kernel)) ggX2_step_X2_caseAt
set_option maxRecDepth 20000 in
theorem ggX2_step_X2_greatestStep : GoodIn wsX2_step wsX2_greatestStep := goodIn_r _ [12, 13, 14, 15, 16, 17, 18, 19, 4, 20, 21, 22, 23, 24, 25, 26, 27, 28, 29, 30, 31, 32, 33, 39, 40, 41, 42, 43, 44, 45, 46, 34, 35, 36, 37, 38] (by decide +kernel) (by decide +kernel)
set_option maxRecDepth 20000 in
theorem gX2_step_X2_greatestStep : GoodIn wsX2_step (wsV RX2 138 RX2 yX2_greatestStep wsX2_greatestStep) := goodIn_app (goodIn_of _ (by decide +kernel)) ggX2_step_X2_greatestStep
theorem dX2_step_0 : decode cX2_step 0 = .ok (.aload_n 0, 1) := by decide +kernel
theorem dX2_step_1 : decode cX2_step 1 = .ok (.aload_n 0, 1) := by decide +kernel
theorem dX2_step_2 : decode cX2_step 2 = .ok (.iload_n 1, 1) := by decide +kernel
theorem dX2_step_3 : decode cX2_step 3 = .ok (.invokevirtual 84, 3) := by decide +kernel
theorem dX2_step_6 : decode cX2_step 6 = .ok (.invokevirtual 138, 3) := by decide +kernel
theorem dX2_step_9 : decode cX2_step 9 = .ok (.ireturn, 1) := by decide +kernel
set_option maxRecDepth 20000 in
theorem ggX2_mostUrgent_X0_isRunning : GoodIn wsX2_mostUrgent wsX0_isRunning := goodIn_r _ [8, 9, 10, 40, 41, 42, 43, 44, 45, 46, 47] (by decide +kernel) (by decide +kernel)
set_option maxRecDepth 20000 in
theorem gX2_mostUrgent_X0_isRunning : GoodIn wsX2_mostUrgent (wsV RX2 141 RX0 yX0_isRunning wsX0_isRunning) := goodIn_app (goodIn_of _ (by decide +kernel)) ggX2_mostUrgent_X0_isRunning
set_option maxRecDepth 20000 in
theorem ggX2_mostUrgent_X2_greatestStep : GoodIn wsX2_mostUrgent wsX2_greatestStep := goodIn_r _ [15, 16, 17, 18, 19, 20, 21, 22, 14, 23, 24, 25, 26, 27, 7, 28, 29, 30, 31, 32, 33, 34, 3, 40, 41, 42, 43, 44, 45, 46, 47, 35, 36, 37, 38, 39] (by decide +kernel) (by decide +kernel)
set_option maxRecDepth 20000 in
theorem gX2_mostUrgent_X2_greatestStep : GoodIn wsX2_mostUrgent (wsV RX2 138 RX2 yX2_greatestStep wsX2_greatestStep) := goodIn_app (goodIn_of _ (by decide +kernel)) ggX2_mostUrgent_X2_greatestStep
theorem dX2_mostUrgent_0 : decode cX2_mostUrgent 0 = .ok (.iconst (-1), 1) := by decide +kernel
theorem dX2_mostUrgent_1 : decode cX2_mostUrgent 1 = .ok (.istore_n 1, 1) := by decide +kernel
theorem dX2_mostUrgent_2 : decode cX2_mostUrgent 2 = .ok (.iconst 0, 1) := by decide +kernel
theorem dX2_mostUrgent_3 : decode cX2_mostUrgent 3 = .ok (.istore_n 2, 1) := by decide +kernel
theorem dX2_mostUrgent_4 : decode cX2_mostUrgent 4 = .ok (.iconst 0, 1) := by decide +kernel
theorem dX2_mostUrgent_5 : decode cX2_mostUrgent 5 = .ok (.istore_n 3, 1) := by decide +kernel
theorem dX2_mostUrgent_6 : decode cX2_mostUrgent 6 = .ok (.iconst 0, 1) := by decide +kernel
theorem dX2_mostUrgent_7 : decode cX2_mostUrgent 7 = .ok (.istore 4, 2) := by decide +kernel
theorem dX2_mostUrgent_9 : decode cX2_mostUrgent 9 = .ok (.iload 4, 2) := by decide +kernel
theorem dX2_mostUrgent_11 : decode cX2_mostUrgent 11 = .ok (.aload_n 0, 1) := by decide +kernel
theorem dX2_mostUrgent_12 : decode cX2_mostUrgent 12 = .ok (.getfield 25, 3) := by decide +kernel
theorem dX2_mostUrgent_15 : decode cX2_mostUrgent 15 = .ok (.if_icmp .ge 77, 3) := by decide +kernel
theorem dX2_mostUrgent_18 : decode cX2_mostUrgent 18 = .ok (.aload_n 0, 1) := by decide +kernel
theorem dX2_mostUrgent_19 : decode cX2_mostUrgent 19 = .ok (.getfield 21, 3) := by decide +kernel
theorem dX2_mostUrgent_22 : decode cX2_mostUrgent 22 = .ok (.iload 4, 2) := by decide +kernel
theorem dX2_mostUrgent_24 : decode cX2_mostUrgent 24 = .ok (.aaload, 1) := by decide +kernel
theorem dX2_mostUrgent_25 : decode cX2_mostUrgent 25 = .ok (.astore 5, 2) := by decide +kernel
theorem dX2_mostUrgent_27 : decode cX2_mostUrgent 27 = .ok (.aload 5, 2) := by decide +kernel
theorem dX2_mostUrgent_29 : decode cX2_mostUrgent 29 = .ok (.ifnull 57, 3) := by decide +kernel
theorem dX2_mostUrgent_32 : decode cX2_mostUrgent 32 = .ok (.aload 5, 2) := by decide +kernel
theorem dX2_mostUrgent_34 : decode cX2_mostUrgent 34 = .ok (.invokevirtual 141, 3) := by decide +kernel
theorem dX2_mostUrgent_37 : decode cX2_mostUrgent 37 = .ok (.ifCond .eq 49, 3) := by decide +kernel
theorem dX2_mostUrgent_40 : decode cX2_mostUrgent 40 = .ok (.aload_n 0, 1) := by decide +kernel
theorem dX2_mostUrgent_41 : decode cX2_mostUrgent 41 = .ok (.aload 5, 2) := by decide +kernel
theorem dX2_mostUrgent_43 : decode cX2_mostUrgent 43 = .ok (.invokevirtual 138, 3) := by decide +kernel
theorem dX2_mostUrgent_46 : decode cX2_mostUrgent 46 = .ok (.istore 6, 2) := by decide +kernel
theorem dX2_mostUrgent_48 : decode cX2_mostUrgent 48 = .ok (.iload_n 1, 1) := by decide +kernel
theorem dX2_mostUrgent_49 : decode cX2_mostUrgent 49 = .ok (.iconst (-1), 1) := by decide +kernel
theorem dX2_mostUrgent_50 : decode cX2_mostUrgent 50 = .ok (.if_icmp .eq 24, 3) := by decide +kernel
theorem dX2_mostUrgent_53 : decode cX2_mostUrgent 53 = .ok (.iload 6, 2) := by decide +kernel
theorem dX2_mostUrgent_55 : decode cX2_mostUrgent 55 = .ok (.iload_n 2, 1) := by decide +kernel
theorem dX2_mostUrgent_56 : decode cX2_mostUrgent 56 = .ok (.if_icmp .gt 18, 3) := by decide +kernel
theorem dX2_mostUrgent_59 : decode cX2_mostUrgent 59 = .ok (.iload 6, 2) := by decide +kernel
theorem dX2_mostUrgent_61 : decode cX2_mostUrgent 61 = .ok (.iload_n 2, 1) := by decide +kernel
theorem dX2_mostUrgent_62 : decode cX2_mostUrgent 62 = .ok (.if_icmp .ne 24, 3) := by decide +kernel
theorem dX2_mostUrgent_65 : decode cX2_mostUrgent 65 = .ok (.aload 5, 2) := by decide +kernel
theorem dX2_mostUrgent_67 : decode cX2_mostUrgent 67 = .ok (.getfield 109, 3) := by decide +kernel
theorem dX2_mostUrgent_70 : decode cX2_mostUrgent 70 = .ok (.iload_n 3, 1) := by decide +kernel
theorem dX2_mostUrgent_71 : decode cX2_mostUrgent 71 = .ok (.if_icmp .le 15, 3) := by decide +kernel
theorem dX2_mostUrgent_74 : decode cX2_mostUrgent 74 = .ok (.iload 4, 2) := by decide +kernel
theorem dX2_mostUrgent_76 : decode cX2_mostUrgent 76 = .ok (.istore_n 1, 1) := by decide +kernel
theorem dX2_mostUrgent_77 : decode cX2_mostUrgent 77 = .ok (.iload 6, 2) := by decide +kernel
theorem dX2_mostUrgent_79 : decode cX2_mostUrgent 79 = .ok (.istore_n 2, 1) := by decide +kernel
theorem dX2_mostUrgent_80 : decode cX2_mostUrgent 80 = .ok (.aload 5, 2) := by decide +kernel
theorem dX2_mostUrgent_82 : decode cX2_mostUrgent 82 = .ok (.getfield 109, 3) := by decide +kernel
theorem dX2_mostUrgent_85 : decode cX2_mostUrgent 85 = .ok (.istore_n 3, 1) := by decide +kernel
theorem dX2_mostUrgent_86 : decode cX2_mostUrgent 86 = .ok (.iinc 4 1, 3) := by decide +kernel
theorem dX2_mostUrgent_89 : decode cX2_mostUrgent 89 = .ok (.goto (-80), 3) := by decide +kernel
theorem dX2_mostUrgent_92 : decode cX2_mostUrgent 92 = .ok (.iload_n 1, 1) := by decide +kernel
theorem dX2_mostUrgent_93 : decode cX2_mostUrgent 93 = .ok (.ireturn, 1) := by decide +kernel
set_option maxRecDepth 20000 in
theorem ggX2_buy_X2_siteAt : GoodIn wsX2_buy wsX2_siteAt := goodIn_ca (goodIn_r _ [7, 8, 9, 10, 28, 29, 30, 31, 32] (by decide +kernel) (by decide +kernel)) (goodIn_sub (fun _ h => List.mem_cons_of_mem _ (List.mem_append_left _ (List.mem_append_right _ h))) (by decide +kernel))
set_option maxRecDepth 20000 in
theorem gX2_buy_X2_siteAt : GoodIn wsX2_buy (wsV RX2 33 RX2 yX2_siteAt wsX2_siteAt) := goodIn_app (goodIn_of _ (by decide +kernel)) ggX2_buy_X2_siteAt
set_option maxRecDepth 20000 in
theorem ggX2_buy_X2_checkRange : GoodIn wsX2_buy wsX2_checkRange := goodIn_ca (goodIn_r _ [13, 14, 15, 6, 16, 17, 18] (by decide +kernel) (by decide +kernel)) (goodIn_sub (fun _ h => List.mem_cons_of_mem _ (List.mem_append_right _ h)) (by decide +kernel))
set_option maxRecDepth 20000 in
theorem gX2_buy_X2_checkRange : GoodIn wsX2_buy (va_wsS RX2 37 yX2_checkRange wsX2_checkRange) := goodIn_app (goodIn_of _ (by decide +kernel)) ggX2_buy_X2_checkRange
theorem dX2_buy_0 : decode cX2_buy 0 = .ok (.aload_n 0, 1) := by decide +kernel
theorem dX2_buy_1 : decode cX2_buy 1 = .ok (.iload_n 1, 1) := by decide +kernel
theorem dX2_buy_2 : decode cX2_buy 2 = .ok (.invokevirtual 33, 3) := by decide +kernel
theorem dX2_buy_5 : decode cX2_buy 5 = .ok (.astore_n 3, 1) := by decide +kernel
theorem dX2_buy_6 : decode cX2_buy 6 = .ok (.iload_n 2, 1) := by decide +kernel
theorem dX2_buy_7 : decode cX2_buy 7 = .ok (.iconst 1, 1) := by decide +kernel
theorem dX2_buy_8 : decode cX2_buy 8 = .ok (.bipush 100, 2) := by decide +kernel
theorem dX2_buy_10 : decode cX2_buy 10 = .ok (.invokestatic 37, 3) := by decide +kernel
theorem dX2_buy_13 : decode cX2_buy 13 = .ok (.aload_n 3, 1) := by decide +kernel
theorem dX2_buy_14 : decode cX2_buy 14 = .ok (.dup, 1) := by decide +kernel
theorem dX2_buy_15 : decode cX2_buy 15 = .ok (.getfield 145, 3) := by decide +kernel
theorem dX2_buy_18 : decode cX2_buy 18 = .ok (.iload_n 2, 1) := by decide +kernel
theorem dX2_buy_19 : decode cX2_buy 19 = .ok (.iadd, 1) := by decide +kernel
theorem dX2_buy_20 : decode cX2_buy 20 = .ok (.putfield 145, 3) := by decide +kernel
theorem dX2_buy_23 : decode cX2_buy 23 = .ok (.aload_n 3, 1) := by decide +kernel
theorem dX2_buy_24 : decode cX2_buy 24 = .ok (.dup, 1) := by decide +kernel
theorem dX2_buy_25 : decode cX2_buy 25 = .ok (.getfield 148, 3) := by decide +kernel
theorem dX2_buy_28 : decode cX2_buy 28 = .ok (.iload_n 2, 1) := by decide +kernel
theorem dX2_buy_29 : decode cX2_buy 29 = .ok (.sipush 7000, 3) := by decide +kernel
theorem dX2_buy_32 : decode cX2_buy 32 = .ok (.imul, 1) := by decide +kernel
theorem dX2_buy_33 : decode cX2_buy 33 = .ok (.iadd, 1) := by decide +kernel
theorem dX2_buy_34 : decode cX2_buy 34 = .ok (.putfield 148, 3) := by decide +kernel
theorem dX2_buy_37 : decode cX2_buy 37 = .ok (.aload_n 3, 1) := by decide +kernel
theorem dX2_buy_38 : decode cX2_buy 38 = .ok (.getfield 145, 3) := by decide +kernel
theorem dX2_buy_41 : decode cX2_buy 41 = .ok (.ireturn, 1) := by decide +kernel
set_option maxRecDepth 20000 in
theorem ggX2_work_X2_caseAt : GoodIn wsX2_work wsX2_caseAt := goodIn_ca (goodIn_r _ [13, 14, 15, 16, 62, 63, 64, 65, 66] (by decide +kernel) (by decide +kernel)) (goodIn_sub (fun _ h => List.mem_cons_of_mem _ (List.mem_append_left _ (List.mem_append_left _ (List.mem_append_right _ h)))) (by decide +kernel))
set_option maxRecDepth 20000 in
theorem gX2_work_X2_caseAt : GoodIn wsX2_work (wsV RX2 84 RX2 yX2_caseAt wsX2_caseAt) := goodIn_app (goodIn_of _ (by decide +kernel)) ggX2_work_X2_caseAt
set_option maxRecDepth 20000 in
theorem ggX2_work_X2_checkRange : GoodIn wsX2_work wsX2_checkRange := goodIn_ca (goodIn_r _ [19, 20, 21, 12, 22, 23, 24] (by decide +kernel) (by decide +kernel)) (goodIn_sub (fun _ h => List.mem_cons_of_mem _ (List.mem_append_left _ (List.mem_append_right _ h))) (by decide +kernel))
set_option maxRecDepth 20000 in
theorem gX2_work_X2_checkRange : GoodIn wsX2_work (va_wsS RX2 37 yX2_checkRange wsX2_checkRange) := goodIn_app (goodIn_of _ (by decide +kernel)) ggX2_work_X2_checkRange
set_option maxRecDepth 20000 in
theorem ggX2_work_X2_checkState : GoodIn wsX2_work wsX2_checkState := goodIn_ca (goodIn_r _ [27, 28, 29] (by decide +kernel) (by decide +kernel)) (goodIn_sub (fun _ h => List.mem_cons_of_mem _ (List.mem_append_right _ h)) (by decide +kernel))
set_option maxRecDepth 20000 in
theorem gX2_work_X2_checkState : GoodIn wsX2_work (va_wsS RX2 54 yX2_checkState wsX2_checkState) := goodIn_app (goodIn_of _ (by decide +kernel)) ggX2_work_X2_checkState
set_option maxRecDepth 20000 in
theorem ggX2_work_X2_isCoveredToday : GoodIn wsX2_work wsX2_isCoveredToday := goodIn_r _ [33, 2, 34, 35, 36, 37, 38, 39, 40, 41, 42, 43, 44, 45, 46, 47, 48, 49, 50, 51, 52, 62, 63, 64, 65, 66, 53, 54, 55, 56, 57, 58, 59, 60, 61] (by decide +kernel) (by decide +kernel)
set_option maxRecDepth 20000 in
theorem gX2_work_X2_isCoveredToday : GoodIn wsX2_work (wsV RX2 151 RX2 yX2_isCoveredToday wsX2_isCoveredToday) := goodIn_app (goodIn_of _ (by decide +kernel)) ggX2_work_X2_isCoveredToday
theorem dX2_work_0 : decode cX2_work 0 = .ok (.aload_n 0, 1) := by decide +kernel
theorem dX2_work_1 : decode cX2_work 1 = .ok (.iload_n 1, 1) := by decide +kernel
theorem dX2_work_2 : decode cX2_work 2 = .ok (.invokevirtual 84, 3) := by decide +kernel
theorem dX2_work_5 : decode cX2_work 5 = .ok (.astore_n 3, 1) := by decide +kernel
theorem dX2_work_6 : decode cX2_work 6 = .ok (.iload_n 2, 1) := by decide +kernel
theorem dX2_work_7 : decode cX2_work 7 = .ok (.iconst 1, 1) := by decide +kernel
theorem dX2_work_8 : decode cX2_work 8 = .ok (.bipush 100, 2) := by decide +kernel
theorem dX2_work_10 : decode cX2_work 10 = .ok (.invokestatic 37, 3) := by decide +kernel
theorem dX2_work_13 : decode cX2_work 13 = .ok (.aload_n 3, 1) := by decide +kernel
theorem dX2_work_14 : decode cX2_work 14 = .ok (.getfield 88, 3) := by decide +kernel
theorem dX2_work_17 : decode cX2_work 17 = .ok (.ifCond .ne 7, 3) := by decide +kernel
theorem dX2_work_20 : decode cX2_work 20 = .ok (.iconst 1, 1) := by decide +kernel
theorem dX2_work_21 : decode cX2_work 21 = .ok (.goto 4, 3) := by decide +kernel
theorem dX2_work_24 : decode cX2_work 24 = .ok (.iconst 0, 1) := by decide +kernel
theorem dX2_work_25 : decode cX2_work 25 = .ok (.invokestatic 54, 3) := by decide +kernel
theorem dX2_work_28 : decode cX2_work 28 = .ok (.aload_n 0, 1) := by decide +kernel
theorem dX2_work_29 : decode cX2_work 29 = .ok (.aload_n 3, 1) := by decide +kernel
theorem dX2_work_30 : decode cX2_work 30 = .ok (.invokevirtual 151, 3) := by decide +kernel
theorem dX2_work_33 : decode cX2_work 33 = .ok (.ifCond .eq 5, 3) := by decide +kernel
theorem dX2_work_36 : decode cX2_work 36 = .ok (.iconst 0, 1) := by decide +kernel
theorem dX2_work_37 : decode cX2_work 37 = .ok (.ireturn, 1) := by decide +kernel
theorem dX2_work_38 : decode cX2_work 38 = .ok (.aload_n 3, 1) := by decide +kernel
theorem dX2_work_39 : decode cX2_work 39 = .ok (.getfield 112, 3) := by decide +kernel
theorem dX2_work_42 : decode cX2_work 42 = .ok (.astore 4, 2) := by decide +kernel
theorem dX2_work_44 : decode cX2_work 44 = .ok (.iload_n 2, 1) := by decide +kernel
theorem dX2_work_45 : decode cX2_work 45 = .ok (.aload 4, 2) := by decide +kernel
theorem dX2_work_47 : decode cX2_work 47 = .ok (.getfield 145, 3) := by decide +kernel
theorem dX2_work_50 : decode cX2_work 50 = .ok (.invokestatic 126, 3) := by decide +kernel
theorem dX2_work_53 : decode cX2_work 53 = .ok (.istore 5, 2) := by decide +kernel
theorem dX2_work_55 : decode cX2_work 55 = .ok (.iload_n 2, 1) := by decide +kernel
theorem dX2_work_56 : decode cX2_work 56 = .ok (.iload 5, 2) := by decide +kernel
theorem dX2_work_58 : decode cX2_work 58 = .ok (.isub, 1) := by decide +kernel
theorem dX2_work_59 : decode cX2_work 59 = .ok (.sipush 9000, 3) := by decide +kernel
theorem dX2_work_62 : decode cX2_work 62 = .ok (.imul, 1) := by decide +kernel
theorem dX2_work_63 : decode cX2_work 63 = .ok (.istore 6, 2) := by decide +kernel
theorem dX2_work_65 : decode cX2_work 65 = .ok (.aload 4, 2) := by decide +kernel
theorem dX2_work_67 : decode cX2_work 67 = .ok (.dup, 1) := by decide +kernel
theorem dX2_work_68 : decode cX2_work 68 = .ok (.getfield 145, 3) := by decide +kernel
theorem dX2_work_71 : decode cX2_work 71 = .ok (.iload 5, 2) := by decide +kernel
theorem dX2_work_73 : decode cX2_work 73 = .ok (.isub, 1) := by decide +kernel
theorem dX2_work_74 : decode cX2_work 74 = .ok (.putfield 145, 3) := by decide +kernel
theorem dX2_work_77 : decode cX2_work 77 = .ok (.aload 4, 2) := by decide +kernel
theorem dX2_work_79 : decode cX2_work 79 = .ok (.dup, 1) := by decide +kernel
theorem dX2_work_80 : decode cX2_work 80 = .ok (.getfield 148, 3) := by decide +kernel
theorem dX2_work_83 : decode cX2_work 83 = .ok (.iload 6, 2) := by decide +kernel
theorem dX2_work_85 : decode cX2_work 85 = .ok (.iadd, 1) := by decide +kernel
theorem dX2_work_86 : decode cX2_work 86 = .ok (.putfield 148, 3) := by decide +kernel
theorem dX2_work_89 : decode cX2_work 89 = .ok (.iload 6, 2) := by decide +kernel
theorem dX2_work_91 : decode cX2_work 91 = .ok (.ireturn, 1) := by decide +kernel
set_option maxRecDepth 20000 in
theorem ggX2_ahead_X2_siteAt : GoodIn wsX2_ahead wsX2_siteAt := goodIn_ca (goodIn_r _ [6, 7, 8, 9, 19, 20, 21, 22, 23] (by decide +kernel) (by decide +kernel)) (goodIn_sub (fun _ h => List.mem_cons_of_mem _ (List.mem_append_right _ h)) (by decide +kernel))
set_option maxRecDepth 20000 in
theorem gX2_ahead_X2_siteAt : GoodIn wsX2_ahead (wsV RX2 33 RX2 yX2_siteAt wsX2_siteAt) := goodIn_app (goodIn_of _ (by decide +kernel)) ggX2_ahead_X2_siteAt
theorem dX2_ahead_0 : decode cX2_ahead 0 = .ok (.aload_n 0, 1) := by decide +kernel
theorem dX2_ahead_1 : decode cX2_ahead 1 = .ok (.iload_n 1, 1) := by decide +kernel
theorem dX2_ahead_2 : decode cX2_ahead 2 = .ok (.invokevirtual 33, 3) := by decide +kernel
theorem dX2_ahead_5 : decode cX2_ahead 5 = .ok (.getfield 145, 3) := by decide +kernel
theorem dX2_ahead_8 : decode cX2_ahead 8 = .ok (.ireturn, 1) := by decide +kernel
set_option maxRecDepth 20000 in
theorem ggX2_owes_X2_siteAt : GoodIn wsX2_owes wsX2_siteAt := goodIn_ca (goodIn_r _ [6, 7, 8, 9, 19, 20, 21, 22, 23] (by decide +kernel) (by decide +kernel)) (goodIn_sub (fun _ h => List.mem_cons_of_mem _ (List.mem_append_right _ h)) (by decide +kernel))
set_option maxRecDepth 20000 in
theorem gX2_owes_X2_siteAt : GoodIn wsX2_owes (wsV RX2 33 RX2 yX2_siteAt wsX2_siteAt) := goodIn_app (goodIn_of _ (by decide +kernel)) ggX2_owes_X2_siteAt
theorem dX2_owes_0 : decode cX2_owes 0 = .ok (.aload_n 0, 1) := by decide +kernel
theorem dX2_owes_1 : decode cX2_owes 1 = .ok (.iload_n 1, 1) := by decide +kernel
theorem dX2_owes_2 : decode cX2_owes 2 = .ok (.invokevirtual 33, 3) := by decide +kernel
theorem dX2_owes_5 : decode cX2_owes 5 = .ok (.getfield 148, 3) := by decide +kernel
theorem dX2_owes_8 : decode cX2_owes 8 = .ok (.ireturn, 1) := by decide +kernel
theorem dX2_siteAt_0 : decode cX2_siteAt 0 = .ok (.iload_n 1, 1) := by decide +kernel
theorem dX2_siteAt_1 : decode cX2_siteAt 1 = .ok (.ifCond .lt 17, 3) := by decide +kernel
theorem dX2_siteAt_4 : decode cX2_siteAt 4 = .ok (.iload_n 1, 1) := by decide +kernel
theorem dX2_siteAt_5 : decode cX2_siteAt 5 = .ok (.iconst 4, 1) := by decide +kernel
theorem dX2_siteAt_6 : decode cX2_siteAt 6 = .ok (.if_icmp .ge 12, 3) := by decide +kernel
theorem dX2_siteAt_9 : decode cX2_siteAt 9 = .ok (.aload_n 0, 1) := by decide +kernel
theorem dX2_siteAt_10 : decode cX2_siteAt 10 = .ok (.getfield 11, 3) := by decide +kernel
theorem dX2_siteAt_13 : decode cX2_siteAt 13 = .ok (.iload_n 1, 1) := by decide +kernel
theorem dX2_siteAt_14 : decode cX2_siteAt 14 = .ok (.aaload, 1) := by decide +kernel
theorem dX2_siteAt_15 : decode cX2_siteAt 15 = .ok (.goto 4, 3) := by decide +kernel
theorem dX2_siteAt_18 : decode cX2_siteAt 18 = .ok (.aconst_null, 1) := by decide +kernel
theorem dX2_siteAt_19 : decode cX2_siteAt 19 = .ok (.astore_n 2, 1) := by decide +kernel
theorem dX2_siteAt_20 : decode cX2_siteAt 20 = .ok (.aload_n 2, 1) := by decide +kernel
theorem dX2_siteAt_21 : decode cX2_siteAt 21 = .ok (.ifnonnull 13, 3) := by decide +kernel
theorem dX2_siteAt_24 : decode cX2_siteAt 24 = .ok (.new 155, 3) := by decide +kernel
theorem dX2_siteAt_27 : decode cX2_siteAt 27 = .ok (.dup, 1) := by decide +kernel
theorem dX2_siteAt_28 : decode cX2_siteAt 28 = .ok (.ldc 157, 2) := by decide +kernel
theorem dX2_siteAt_30 : decode cX2_siteAt 30 = .ok (.invokespecial 159, 3) := by decide +kernel
theorem dX2_siteAt_33 : decode cX2_siteAt 33 = .ok (.athrow, 1) := by decide +kernel
theorem dX2_siteAt_34 : decode cX2_siteAt 34 = .ok (.aload_n 2, 1) := by decide +kernel
theorem dX2_siteAt_35 : decode cX2_siteAt 35 = .ok (.areturn, 1) := by decide +kernel
theorem dX2_caseAt_0 : decode cX2_caseAt 0 = .ok (.iload_n 1, 1) := by decide +kernel
theorem dX2_caseAt_1 : decode cX2_caseAt 1 = .ok (.ifCond .lt 18, 3) := by decide +kernel
theorem dX2_caseAt_4 : decode cX2_caseAt 4 = .ok (.iload_n 1, 1) := by decide +kernel
theorem dX2_caseAt_5 : decode cX2_caseAt 5 = .ok (.bipush 40, 2) := by decide +kernel
theorem dX2_caseAt_7 : decode cX2_caseAt 7 = .ok (.if_icmp .ge 12, 3) := by decide +kernel
theorem dX2_caseAt_10 : decode cX2_caseAt 10 = .ok (.aload_n 0, 1) := by decide +kernel
theorem dX2_caseAt_11 : decode cX2_caseAt 11 = .ok (.getfield 21, 3) := by decide +kernel
theorem dX2_caseAt_14 : decode cX2_caseAt 14 = .ok (.iload_n 1, 1) := by decide +kernel
theorem dX2_caseAt_15 : decode cX2_caseAt 15 = .ok (.aaload, 1) := by decide +kernel
theorem dX2_caseAt_16 : decode cX2_caseAt 16 = .ok (.goto 4, 3) := by decide +kernel
theorem dX2_caseAt_19 : decode cX2_caseAt 19 = .ok (.aconst_null, 1) := by decide +kernel
theorem dX2_caseAt_20 : decode cX2_caseAt 20 = .ok (.astore_n 2, 1) := by decide +kernel
theorem dX2_caseAt_21 : decode cX2_caseAt 21 = .ok (.aload_n 2, 1) := by decide +kernel
theorem dX2_caseAt_22 : decode cX2_caseAt 22 = .ok (.ifnonnull 13, 3) := by decide +kernel
theorem dX2_caseAt_25 : decode cX2_caseAt 25 = .ok (.new 155, 3) := by decide +kernel
theorem dX2_caseAt_28 : decode cX2_caseAt 28 = .ok (.dup, 1) := by decide +kernel
theorem dX2_caseAt_29 : decode cX2_caseAt 29 = .ok (.ldc 162, 2) := by decide +kernel
theorem dX2_caseAt_31 : decode cX2_caseAt 31 = .ok (.invokespecial 159, 3) := by decide +kernel
theorem dX2_caseAt_34 : decode cX2_caseAt 34 = .ok (.athrow, 1) := by decide +kernel
theorem dX2_caseAt_35 : decode cX2_caseAt 35 = .ok (.aload_n 2, 1) := by decide +kernel
theorem dX2_caseAt_36 : decode cX2_caseAt 36 = .ok (.areturn, 1) := by decide +kernel
theorem dX2_checkKind_0 : decode cX2_checkKind 0 = .ok (.iload_n 0, 1) := by decide +kernel
theorem dX2_checkKind_1 : decode cX2_checkKind 1 = .ok (.ifCond .lt 8, 3) := by decide +kernel
theorem dX2_checkKind_4 : decode cX2_checkKind 4 = .ok (.iload_n 0, 1) := by decide +kernel
theorem dX2_checkKind_5 : decode cX2_checkKind 5 = .ok (.iconst 4, 1) := by decide +kernel
theorem dX2_checkKind_6 : decode cX2_checkKind 6 = .ok (.if_icmp .lt 13, 3) := by decide +kernel
theorem dX2_checkKind_9 : decode cX2_checkKind 9 = .ok (.new 155, 3) := by decide +kernel
theorem dX2_checkKind_12 : decode cX2_checkKind 12 = .ok (.dup, 1) := by decide +kernel
theorem dX2_checkKind_13 : decode cX2_checkKind 13 = .ok (.ldc 164, 2) := by decide +kernel
theorem dX2_checkKind_15 : decode cX2_checkKind 15 = .ok (.invokespecial 159, 3) := by decide +kernel
theorem dX2_checkKind_18 : decode cX2_checkKind 18 = .ok (.athrow, 1) := by decide +kernel
theorem dX2_checkKind_19 : decode cX2_checkKind 19 = .ok (.return_, 1) := by decide +kernel
set_option maxRecDepth 20000 in
theorem ggX2_checkRange_X2_checkArgument : GoodIn wsX2_checkRange wsX2_checkArgument := goodIn_ca (goodIn_r _ [4, 5, 6] (by decide +kernel) (by decide +kernel)) (goodIn_sub (fun _ h => List.mem_cons_of_mem _ (List.mem_append_right _ h)) (by decide +kernel))
set_option maxRecDepth 20000 in
theorem gX2_checkRange_X2_checkArgument : GoodIn wsX2_checkRange (va_wsS RX2 116 yX2_checkArgument wsX2_checkArgument) := goodIn_app (goodIn_of _ (by decide +kernel)) ggX2_checkRange_X2_checkArgument
theorem dX2_checkRange_0 : decode cX2_checkRange 0 = .ok (.iload_n 1, 1) := by decide +kernel
theorem dX2_checkRange_1 : decode cX2_checkRange 1 = .ok (.iload_n 0, 1) := by decide +kernel
theorem dX2_checkRange_2 : decode cX2_checkRange 2 = .ok (.if_icmp .gt 12, 3) := by decide +kernel
theorem dX2_checkRange_5 : decode cX2_checkRange 5 = .ok (.iload_n 0, 1) := by decide +kernel
theorem dX2_checkRange_6 : decode cX2_checkRange 6 = .ok (.iload_n 2, 1) := by decide +kernel
theorem dX2_checkRange_7 : decode cX2_checkRange 7 = .ok (.if_icmp .gt 7, 3) := by decide +kernel
theorem dX2_checkRange_10 : decode cX2_checkRange 10 = .ok (.iconst 1, 1) := by decide +kernel
theorem dX2_checkRange_11 : decode cX2_checkRange 11 = .ok (.goto 4, 3) := by decide +kernel
theorem dX2_checkRange_14 : decode cX2_checkRange 14 = .ok (.iconst 0, 1) := by decide +kernel
theorem dX2_checkRange_15 : decode cX2_checkRange 15 = .ok (.invokestatic 116, 3) := by decide +kernel
theorem dX2_checkRange_18 : decode cX2_checkRange 18 = .ok (.return_, 1) := by decide +kernel
theorem dX2_checkArgument_0 : decode cX2_checkArgument 0 = .ok (.iload_n 0, 1) := by decide +kernel
theorem dX2_checkArgument_1 : decode cX2_checkArgument 1 = .ok (.ifCond .ne 13, 3) := by decide +kernel
theorem dX2_checkArgument_4 : decode cX2_checkArgument 4 = .ok (.new 166, 3) := by decide +kernel
theorem dX2_checkArgument_7 : decode cX2_checkArgument 7 = .ok (.dup, 1) := by decide +kernel
theorem dX2_checkArgument_8 : decode cX2_checkArgument 8 = .ok (.ldc 168, 2) := by decide +kernel
theorem dX2_checkArgument_10 : decode cX2_checkArgument 10 = .ok (.invokespecial 170, 3) := by decide +kernel
theorem dX2_checkArgument_13 : decode cX2_checkArgument 13 = .ok (.athrow, 1) := by decide +kernel
theorem dX2_checkArgument_14 : decode cX2_checkArgument 14 = .ok (.return_, 1) := by decide +kernel
theorem dX2_checkState_0 : decode cX2_checkState 0 = .ok (.iload_n 0, 1) := by decide +kernel
theorem dX2_checkState_1 : decode cX2_checkState 1 = .ok (.ifCond .ne 13, 3) := by decide +kernel
theorem dX2_checkState_4 : decode cX2_checkState 4 = .ok (.new 171, 3) := by decide +kernel
theorem dX2_checkState_7 : decode cX2_checkState 7 = .ok (.dup, 1) := by decide +kernel
theorem dX2_checkState_8 : decode cX2_checkState 8 = .ok (.ldc 173, 2) := by decide +kernel
theorem dX2_checkState_10 : decode cX2_checkState 10 = .ok (.invokespecial 175, 3) := by decide +kernel
theorem dX2_checkState_13 : decode cX2_checkState 13 = .ok (.athrow, 1) := by decide +kernel
theorem dX2_checkState_14 : decode cX2_checkState 14 = .ok (.return_, 1) := by decide +kernel
theorem dX2_promiseFor_0 : decode cX2_promiseFor 0 = .ok (.aload_n 0, 1) := by decide +kernel
theorem dX2_promiseFor_1 : decode cX2_promiseFor 1 = .ok (.getfield 15, 3) := by decide +kernel
theorem dX2_promiseFor_4 : decode cX2_promiseFor 4 = .ok (.aload_n 1, 1) := by decide +kernel
theorem dX2_promiseFor_5 : decode cX2_promiseFor 5 = .ok (.getfield 109, 3) := by decide +kernel
theorem dX2_promiseFor_8 : decode cX2_promiseFor 8 = .ok (.iconst 3, 1) := by decide +kernel
theorem dX2_promiseFor_9 : decode cX2_promiseFor 9 = .ok (.imul, 1) := by decide +kernel
theorem dX2_promiseFor_10 : decode cX2_promiseFor 10 = .ok (.iload_n 2, 1) := by decide +kernel
theorem dX2_promiseFor_11 : decode cX2_promiseFor 11 = .ok (.iadd, 1) := by decide +kernel
theorem dX2_promiseFor_12 : decode cX2_promiseFor 12 = .ok (.iaload, 1) := by decide +kernel
theorem dX2_promiseFor_13 : decode cX2_promiseFor 13 = .ok (.ireturn, 1) := by decide +kernel
set_option maxRecDepth 20000 in
theorem ggX2_misses_X2_promiseFor : GoodIn wsX2_misses wsX2_promiseFor := goodIn_r _ [6, 7, 8, 17, 18, 19, 20, 21, 9, 10, 11, 12, 13, 14, 15, 16] (by decide +kernel) (by decide +kernel)
set_option maxRecDepth 20000 in
theorem gX2_misses_X2_promiseFor : GoodIn wsX2_misses (wsV RX2 176 RX2 yX2_promiseFor wsX2_promiseFor) := goodIn_app (goodIn_of _ (by decide +kernel)) ggX2_misses_X2_promiseFor
theorem dX2_misses_0 : decode cX2_misses 0 = .ok (.aload_n 1, 1) := by decide +kernel
theorem dX2_misses_1 : decode cX2_misses 1 = .ok (.getfield 131, 3) := by decide +kernel
theorem dX2_misses_4 : decode cX2_misses 4 = .ok (.iload_n 2, 1) := by decide +kernel
theorem dX2_misses_5 : decode cX2_misses 5 = .ok (.iaload, 1) := by decide +kernel
theorem dX2_misses_6 : decode cX2_misses 6 = .ok (.aload_n 0, 1) := by decide +kernel
theorem dX2_misses_7 : decode cX2_misses 7 = .ok (.aload_n 1, 1) := by decide +kernel
theorem dX2_misses_8 : decode cX2_misses 8 = .ok (.iload_n 2, 1) := by decide +kernel
theorem dX2_misses_9 : decode cX2_misses 9 = .ok (.invokevirtual 176, 3) := by decide +kernel
theorem dX2_misses_12 : decode cX2_misses 12 = .ok (.if_icmp .le 7, 3) := by decide +kernel
theorem dX2_misses_15 : decode cX2_misses 15 = .ok (.iconst 1, 1) := by decide +kernel
theorem dX2_misses_16 : decode cX2_misses 16 = .ok (.goto 4, 3) := by decide +kernel
theorem dX2_misses_19 : decode cX2_misses 19 = .ok (.iconst 0, 1) := by decide +kernel
theorem dX2_misses_20 : decode cX2_misses 20 = .ok (.ireturn, 1) := by decide +kernel
set_option maxRecDepth 20000 in
theorem ggX2_countMissedOfReached_X0_hasReached : GoodIn wsX2_countMissedOfReached wsX0_hasReached := goodIn_r _ [5, 6, 19, 20, 21, 22, 23, 24, 25, 26] (by decide +kernel) (by decide +kernel)
set_option maxRecDepth 20000 in
theorem gX2_countMissedOfReached_X0_hasReached : GoodIn wsX2_countMissedOfReached (wsV RX2 91 RX0 yX0_hasReached wsX0_hasReached) := goodIn_app (goodIn_of _ (by decide +kernel)) ggX2_countMissedOfReached_X0_hasReached
set_option maxRecDepth 20000 in
theorem ggX2_countMissedOfReached_X2_misses : GoodIn wsX2_countMissedOfReached wsX2_misses := goodIn_r _ [11, 12, 13, 14, 15, 10, 16, 17, 18, 19, 20, 21, 22, 23, 24, 25, 26, 27, 28, 29, 30, 31] (by decide +kernel) (by decide +kernel)
set_option maxRecDepth 20000 in
theorem gX2_countMissedOfReached_X2_misses : GoodIn wsX2_countMissedOfReached (wsV RX2 134 RX2 yX2_misses wsX2_misses) := goodIn_app (goodIn_of _ (by decide +kernel)) ggX2_countMissedOfReached_X2_misses
theorem dX2_countMissedOfReached_0 : decode cX2_countMissedOfReached 0 = .ok (.iconst 0, 1) := by decide +kernel
theorem dX2_countMissedOfReached_1 : decode cX2_countMissedOfReached 1 = .ok (.istore_n 2, 1) := by decide +kernel
theorem dX2_countMissedOfReached_2 : decode cX2_countMissedOfReached 2 = .ok (.iconst 0, 1) := by decide +kernel
theorem dX2_countMissedOfReached_3 : decode cX2_countMissedOfReached 3 = .ok (.istore_n 3, 1) := by decide +kernel
theorem dX2_countMissedOfReached_4 : decode cX2_countMissedOfReached 4 = .ok (.iload_n 3, 1) := by decide +kernel
theorem dX2_countMissedOfReached_5 : decode cX2_countMissedOfReached 5 = .ok (.iconst 2, 1) := by decide +kernel
theorem dX2_countMissedOfReached_6 : decode cX2_countMissedOfReached 6 = .ok (.if_icmp .gt 29, 3) := by decide +kernel
theorem dX2_countMissedOfReached_9 : decode cX2_countMissedOfReached 9 = .ok (.aload_n 1, 1) := by decide +kernel
theorem dX2_countMissedOfReached_10 : decode cX2_countMissedOfReached 10 = .ok (.iload_n 3, 1) := by decide +kernel
theorem dX2_countMissedOfReached_11 : decode cX2_countMissedOfReached 11 = .ok (.invokevirtual 91, 3) := by decide +kernel
theorem dX2_countMissedOfReached_14 : decode cX2_countMissedOfReached 14 = .ok (.ifCond .eq 15, 3) := by decide +kernel
theorem dX2_countMissedOfReached_17 : decode cX2_countMissedOfReached 17 = .ok (.aload_n 0, 1) := by decide +kernel
theorem dX2_countMissedOfReached_18 : decode cX2_countMissedOfReached 18 = .ok (.aload_n 1, 1) := by decide +kernel
theorem dX2_countMissedOfReached_19 : decode cX2_countMissedOfReached 19 = .ok (.iload_n 3, 1) := by decide +kernel
theorem dX2_countMissedOfReached_20 : decode cX2_countMissedOfReached 20 = .ok (.invokevirtual 134, 3) := by decide +kernel
theorem dX2_countMissedOfReached_23 : decode cX2_countMissedOfReached 23 = .ok (.ifCond .eq 6, 3) := by decide +kernel
theorem dX2_countMissedOfReached_26 : decode cX2_countMissedOfReached 26 = .ok (.iinc 2 1, 3) := by decide +kernel
theorem dX2_countMissedOfReached_29 : decode cX2_countMissedOfReached 29 = .ok (.iinc 3 1, 3) := by decide +kernel
theorem dX2_countMissedOfReached_32 : decode cX2_countMissedOfReached 32 = .ok (.goto (-28), 3) := by decide +kernel
theorem dX2_countMissedOfReached_35 : decode cX2_countMissedOfReached 35 = .ok (.iload_n 2, 1) := by decide +kernel
theorem dX2_countMissedOfReached_36 : decode cX2_countMissedOfReached 36 = .ok (.ireturn, 1) := by decide +kernel
set_option maxRecDepth 20000 in
theorem ggX2_greatestStep_X2_stepOfStage : GoodIn wsX2_greatestStep wsX2_stepOfStage := goodIn_r _ [9, 10, 11, 12, 13, 14, 15, 16, 17, 18, 19, 8, 20, 21, 22, 23, 24, 25, 26, 27, 28, 29, 30, 31, 32, 33, 34, 35] (by decide +kernel) (by decide +kernel)
set_option maxRecDepth 20000 in
theorem gX2_greatestStep_X2_stepOfStage : GoodIn wsX2_greatestStep (wsV RX2 180 RX2 yX2_stepOfStage wsX2_stepOfStage) := goodIn_app (goodIn_of _ (by decide +kernel)) ggX2_greatestStep_X2_stepOfStage
theorem dX2_greatestStep_0 : decode cX2_greatestStep 0 = .ok (.iconst 0, 1) := by decide +kernel
theorem dX2_greatestStep_1 : decode cX2_greatestStep 1 = .ok (.istore_n 2, 1) := by decide +kernel
theorem dX2_greatestStep_2 : decode cX2_greatestStep 2 = .ok (.iconst 0, 1) := by decide +kernel
theorem dX2_greatestStep_3 : decode cX2_greatestStep 3 = .ok (.istore_n 3, 1) := by decide +kernel
theorem dX2_greatestStep_4 : decode cX2_greatestStep 4 = .ok (.iload_n 3, 1) := by decide +kernel
theorem dX2_greatestStep_5 : decode cX2_greatestStep 5 = .ok (.iconst 2, 1) := by decide +kernel
theorem dX2_greatestStep_6 : decode cX2_greatestStep 6 = .ok (.if_icmp .gt 20, 3) := by decide +kernel
theorem dX2_greatestStep_9 : decode cX2_greatestStep 9 = .ok (.iload_n 2, 1) := by decide +kernel
theorem dX2_greatestStep_10 : decode cX2_greatestStep 10 = .ok (.aload_n 0, 1) := by decide +kernel
theorem dX2_greatestStep_11 : decode cX2_greatestStep 11 = .ok (.aload_n 1, 1) := by decide +kernel
theorem dX2_greatestStep_12 : decode cX2_greatestStep 12 = .ok (.iload_n 3, 1) := by decide +kernel
theorem dX2_greatestStep_13 : decode cX2_greatestStep 13 = .ok (.invokevirtual 180, 3) := by decide +kernel
theorem dX2_greatestStep_16 : decode cX2_greatestStep 16 = .ok (.invokestatic 183, 3) := by decide +kernel
theorem dX2_greatestStep_19 : decode cX2_greatestStep 19 = .ok (.istore_n 2, 1) := by decide +kernel
theorem dX2_greatestStep_20 : decode cX2_greatestStep 20 = .ok (.iinc 3 1, 3) := by decide +kernel
theorem dX2_greatestStep_23 : decode cX2_greatestStep 23 = .ok (.goto (-19), 3) := by decide +kernel
theorem dX2_greatestStep_26 : decode cX2_greatestStep 26 = .ok (.iload_n 2, 1) := by decide +kernel
theorem dX2_greatestStep_27 : decode cX2_greatestStep 27 = .ok (.ireturn, 1) := by decide +kernel
set_option maxRecDepth 20000 in
theorem ggX2_stepOfStage_X0_hasReached : GoodIn wsX2_stepOfStage wsX0_hasReached := goodIn_r _ [6, 7, 15, 16, 17, 18, 19, 20, 21, 22] (by decide +kernel) (by decide +kernel)
set_option maxRecDepth 20000 in
theorem gX2_stepOfStage_X0_hasReached : GoodIn wsX2_stepOfStage (wsV RX2 91 RX0 yX0_hasReached wsX0_hasReached) := goodIn_app (goodIn_of _ (by decide +kernel)) ggX2_stepOfStage_X0_hasReached
set_option maxRecDepth 20000 in
theorem ggX2_stepOfStage_X2_promiseFor : GoodIn wsX2_stepOfStage wsX2_promiseFor := goodIn_r _ [12, 13, 14, 23, 24, 25, 26, 27, 15, 16, 17, 18, 19, 20, 21, 22] (by decide +kernel) (by decide +kernel)
set_option maxRecDepth 20000 in
theorem gX2_stepOfStage_X2_promiseFor : GoodIn wsX2_stepOfStage (wsV RX2 176 RX2 yX2_promiseFor wsX2_promiseFor) := goodIn_app (goodIn_of _ (by decide +kernel)) ggX2_stepOfStage_X2_promiseFor
theorem dX2_stepOfStage_0 : decode cX2_stepOfStage 0 = .ok (.aload_n 1, 1) := by decide +kernel
theorem dX2_stepOfStage_1 : decode cX2_stepOfStage 1 = .ok (.iload_n 2, 1) := by decide +kernel
theorem dX2_stepOfStage_2 : decode cX2_stepOfStage 2 = .ok (.invokevirtual 91, 3) := by decide +kernel
theorem dX2_stepOfStage_5 : decode cX2_stepOfStage 5 = .ok (.ifCond .eq 5, 3) := by decide +kernel
theorem dX2_stepOfStage_8 : decode cX2_stepOfStage 8 = .ok (.iconst 0, 1) := by decide +kernel
theorem dX2_stepOfStage_9 : decode cX2_stepOfStage 9 = .ok (.ireturn, 1) := by decide +kernel
theorem dX2_stepOfStage_10 : decode cX2_stepOfStage 10 = .ok (.bipush 100, 2) := by decide +kernel
theorem dX2_stepOfStage_12 : decode cX2_stepOfStage 12 = .ok (.aload_n 1, 1) := by decide +kernel
theorem dX2_stepOfStage_13 : decode cX2_stepOfStage 13 = .ok (.getfield 131, 3) := by decide +kernel
theorem dX2_stepOfStage_16 : decode cX2_stepOfStage 16 = .ok (.iload_n 2, 1) := by decide +kernel
theorem dX2_stepOfStage_17 : decode cX2_stepOfStage 17 = .ok (.iaload, 1) := by decide +kernel
theorem dX2_stepOfStage_18 : decode cX2_stepOfStage 18 = .ok (.imul, 1) := by decide +kernel
theorem dX2_stepOfStage_19 : decode cX2_stepOfStage 19 = .ok (.istore_n 3, 1) := by decide +kernel
theorem dX2_stepOfStage_20 : decode cX2_stepOfStage 20 = .ok (.aload_n 0, 1) := by decide +kernel
theorem dX2_stepOfStage_21 : decode cX2_stepOfStage 21 = .ok (.aload_n 1, 1) := by decide +kernel
theorem dX2_stepOfStage_22 : decode cX2_stepOfStage 22 = .ok (.iload_n 2, 1) := by decide +kernel
theorem dX2_stepOfStage_23 : decode cX2_stepOfStage 23 = .ok (.invokevirtual 176, 3) := by decide +kernel
theorem dX2_stepOfStage_26 : decode cX2_stepOfStage 26 = .ok (.istore 4, 2) := by decide +kernel
theorem dX2_stepOfStage_28 : decode cX2_stepOfStage 28 = .ok (.iload_n 3, 1) := by decide +kernel
theorem dX2_stepOfStage_29 : decode cX2_stepOfStage 29 = .ok (.bipush 100, 2) := by decide +kernel
theorem dX2_stepOfStage_31 : decode cX2_stepOfStage 31 = .ok (.iload 4, 2) := by decide +kernel
theorem dX2_stepOfStage_33 : decode cX2_stepOfStage 33 = .ok (.imul, 1) := by decide +kernel
theorem dX2_stepOfStage_34 : decode cX2_stepOfStage 34 = .ok (.if_icmp .le 5, 3) := by decide +kernel
theorem dX2_stepOfStage_37 : decode cX2_stepOfStage 37 = .ok (.iconst 3, 1) := by decide +kernel
theorem dX2_stepOfStage_38 : decode cX2_stepOfStage 38 = .ok (.ireturn, 1) := by decide +kernel
theorem dX2_stepOfStage_39 : decode cX2_stepOfStage 39 = .ok (.iload_n 3, 1) := by decide +kernel
theorem dX2_stepOfStage_40 : decode cX2_stepOfStage 40 = .ok (.bipush 75, 2) := by decide +kernel
theorem dX2_stepOfStage_42 : decode cX2_stepOfStage 42 = .ok (.iload 4, 2) := by decide +kernel
theorem dX2_stepOfStage_44 : decode cX2_stepOfStage 44 = .ok (.imul, 1) := by decide +kernel
theorem dX2_stepOfStage_45 : decode cX2_stepOfStage 45 = .ok (.if_icmp .lt 5, 3) := by decide +kernel
theorem dX2_stepOfStage_48 : decode cX2_stepOfStage 48 = .ok (.iconst 2, 1) := by decide +kernel
theorem dX2_stepOfStage_49 : decode cX2_stepOfStage 49 = .ok (.ireturn, 1) := by decide +kernel
theorem dX2_stepOfStage_50 : decode cX2_stepOfStage 50 = .ok (.iload_n 3, 1) := by decide +kernel
theorem dX2_stepOfStage_51 : decode cX2_stepOfStage 51 = .ok (.bipush 50, 2) := by decide +kernel
theorem dX2_stepOfStage_53 : decode cX2_stepOfStage 53 = .ok (.iload 4, 2) := by decide +kernel
theorem dX2_stepOfStage_55 : decode cX2_stepOfStage 55 = .ok (.imul, 1) := by decide +kernel
theorem dX2_stepOfStage_56 : decode cX2_stepOfStage 56 = .ok (.if_icmp .lt 7, 3) := by decide +kernel
theorem dX2_stepOfStage_59 : decode cX2_stepOfStage 59 = .ok (.iconst 1, 1) := by decide +kernel
theorem dX2_stepOfStage_60 : decode cX2_stepOfStage 60 = .ok (.goto 4, 3) := by decide +kernel
theorem dX2_stepOfStage_63 : decode cX2_stepOfStage 63 = .ok (.iconst 0, 1) := by decide +kernel
theorem dX2_stepOfStage_64 : decode cX2_stepOfStage 64 = .ok (.ireturn, 1) := by decide +kernel
set_option maxRecDepth 20000 in
theorem ggX2_isCoveredToday_X1_covers : GoodIn wsX2_isCoveredToday wsX1_covers := goodIn_r _ [8, 9, 10, 11, 12, 26, 27, 28, 29, 30, 31, 32, 33, 34] (by decide +kernel) (by decide +kernel)
set_option maxRecDepth 20000 in
theorem gX2_isCoveredToday_X1_covers : GoodIn wsX2_isCoveredToday (wsV RX2 65 RX1 yX1_covers wsX1_covers) := goodIn_app (goodIn_of _ (by decide +kernel)) ggX2_isCoveredToday_X1_covers
theorem dX2_isCoveredToday_0 : decode cX2_isCoveredToday 0 = .ok (.aload_n 1, 1) := by decide +kernel
theorem dX2_isCoveredToday_1 : decode cX2_isCoveredToday 1 = .ok (.getfield 112, 3) := by decide +kernel
theorem dX2_isCoveredToday_4 : decode cX2_isCoveredToday 4 = .ok (.aload_n 1, 1) := by decide +kernel
theorem dX2_isCoveredToday_5 : decode cX2_isCoveredToday 5 = .ok (.getfield 186, 3) := by decide +kernel
theorem dX2_isCoveredToday_8 : decode cX2_isCoveredToday 8 = .ok (.aload_n 0, 1) := by decide +kernel
theorem dX2_isCoveredToday_9 : decode cX2_isCoveredToday 9 = .ok (.getfield 29, 3) := by decide +kernel
theorem dX2_isCoveredToday_12 : decode cX2_isCoveredToday 12 = .ok (.bipush 24, 2) := by decide +kernel
theorem dX2_isCoveredToday_14 : decode cX2_isCoveredToday 14 = .ok (.idiv, 1) := by decide +kernel
theorem dX2_isCoveredToday_15 : decode cX2_isCoveredToday 15 = .ok (.invokevirtual 65, 3) := by decide +kernel
theorem dX2_isCoveredToday_18 : decode cX2_isCoveredToday 18 = .ok (.ireturn, 1) := by decide +kernel
set_option maxRecDepth 20000 in
theorem ggX2_closeMended_X0_isJoinedTo : GoodIn wsX2_closeMended wsX0_isJoinedTo := goodIn_r _ [9, 10, 11, 28, 29, 30, 31, 32, 33, 34, 35] (by decide +kernel) (by decide +kernel)
set_option maxRecDepth 20000 in
theorem gX2_closeMended_X0_isJoinedTo : GoodIn wsX2_closeMended (wsV RX2 189 RX0 yX0_isJoinedTo wsX0_isJoinedTo) := goodIn_app (goodIn_of _ (by decide +kernel)) ggX2_closeMended_X0_isJoinedTo
set_option maxRecDepth 20000 in
theorem ggX2_closeMended_X2_isCoveredToday : GoodIn wsX2_closeMended wsX2_isCoveredToday := goodIn_r _ [16, 3, 17, 18, 19, 20, 21, 22, 23, 24, 25, 26, 27, 28, 29, 30, 31, 32, 33, 34, 35, 36, 37, 38, 39, 40, 41, 42, 43, 44, 45, 46, 47, 48, 49] (by decide +kernel) (by decide +kernel)
set_option maxRecDepth 20000 in
theorem gX2_closeMended_X2_isCoveredToday : GoodIn wsX2_closeMended (wsV RX2 151 RX2 yX2_isCoveredToday wsX2_isCoveredToday) := goodIn_app (goodIn_of _ (by decide +kernel)) ggX2_closeMended_X2_isCoveredToday
theorem dX2_closeMended_0 : decode cX2_closeMended 0 = .ok (.aload_n 1, 1) := by decide +kernel
theorem dX2_closeMended_1 : decode cX2_closeMended 1 = .ok (.iconst 2, 1) := by decide +kernel
theorem dX2_closeMended_2 : decode cX2_closeMended 2 = .ok (.putfield 88, 3) := by decide +kernel
theorem dX2_closeMended_5 : decode cX2_closeMended 5 = .ok (.aload_n 0, 1) := by decide +kernel
theorem dX2_closeMended_6 : decode cX2_closeMended 6 = .ok (.getfield 21, 3) := by decide +kernel
theorem dX2_closeMended_9 : decode cX2_closeMended 9 = .ok (.astore_n 3, 1) := by decide +kernel
theorem dX2_closeMended_10 : decode cX2_closeMended 10 = .ok (.aload_n 3, 1) := by decide +kernel
theorem dX2_closeMended_11 : decode cX2_closeMended 11 = .ok (.arraylength, 1) := by decide +kernel
theorem dX2_closeMended_12 : decode cX2_closeMended 12 = .ok (.istore 4, 2) := by decide +kernel
theorem dX2_closeMended_14 : decode cX2_closeMended 14 = .ok (.iconst 0, 1) := by decide +kernel
theorem dX2_closeMended_15 : decode cX2_closeMended 15 = .ok (.istore 5, 2) := by decide +kernel
theorem dX2_closeMended_17 : decode cX2_closeMended 17 = .ok (.iload 5, 2) := by decide +kernel
theorem dX2_closeMended_19 : decode cX2_closeMended 19 = .ok (.iload 4, 2) := by decide +kernel
theorem dX2_closeMended_21 : decode cX2_closeMended 21 = .ok (.if_icmp .ge 35, 3) := by decide +kernel
theorem dX2_closeMended_24 : decode cX2_closeMended 24 = .ok (.aload_n 3, 1) := by decide +kernel
theorem dX2_closeMended_25 : decode cX2_closeMended 25 = .ok (.iload 5, 2) := by decide +kernel
theorem dX2_closeMended_27 : decode cX2_closeMended 27 = .ok (.aaload, 1) := by decide +kernel
theorem dX2_closeMended_28 : decode cX2_closeMended 28 = .ok (.astore 6, 2) := by decide +kernel
theorem dX2_closeMended_30 : decode cX2_closeMended 30 = .ok (.aload 6, 2) := by decide +kernel
theorem dX2_closeMended_32 : decode cX2_closeMended 32 = .ok (.ifnull 18, 3) := by decide +kernel
theorem dX2_closeMended_35 : decode cX2_closeMended 35 = .ok (.aload 6, 2) := by decide +kernel
theorem dX2_closeMended_37 : decode cX2_closeMended 37 = .ok (.aload_n 1, 1) := by decide +kernel
theorem dX2_closeMended_38 : decode cX2_closeMended 38 = .ok (.invokevirtual 189, 3) := by decide +kernel
theorem dX2_closeMended_41 : decode cX2_closeMended 41 = .ok (.ifCond .eq 9, 3) := by decide +kernel
theorem dX2_closeMended_44 : decode cX2_closeMended 44 = .ok (.aload 6, 2) := by decide +kernel
theorem dX2_closeMended_46 : decode cX2_closeMended 46 = .ok (.iconst 2, 1) := by decide +kernel
theorem dX2_closeMended_47 : decode cX2_closeMended 47 = .ok (.putfield 88, 3) := by decide +kernel
theorem dX2_closeMended_50 : decode cX2_closeMended 50 = .ok (.iinc 5 1, 3) := by decide +kernel
theorem dX2_closeMended_53 : decode cX2_closeMended 53 = .ok (.goto (-36), 3) := by decide +kernel
theorem dX2_closeMended_56 : decode cX2_closeMended 56 = .ok (.aload_n 0, 1) := by decide +kernel
theorem dX2_closeMended_57 : decode cX2_closeMended 57 = .ok (.aload_n 1, 1) := by decide +kernel
theorem dX2_closeMended_58 : decode cX2_closeMended 58 = .ok (.invokevirtual 151, 3) := by decide +kernel
theorem dX2_closeMended_61 : decode cX2_closeMended 61 = .ok (.ifCond .eq 20, 3) := by decide +kernel
theorem dX2_closeMended_64 : decode cX2_closeMended 64 = .ok (.aload_n 1, 1) := by decide +kernel
theorem dX2_closeMended_65 : decode cX2_closeMended 65 = .ok (.getfield 112, 3) := by decide +kernel
theorem dX2_closeMended_68 : decode cX2_closeMended 68 = .ok (.dup, 1) := by decide +kernel
theorem dX2_closeMended_69 : decode cX2_closeMended 69 = .ok (.getfield 148, 3) := by decide +kernel
theorem dX2_closeMended_72 : decode cX2_closeMended 72 = .ok (.iload_n 2, 1) := by decide +kernel
theorem dX2_closeMended_73 : decode cX2_closeMended 73 = .ok (.sipush 2500, 3) := by decide +kernel
theorem dX2_closeMended_76 : decode cX2_closeMended 76 = .ok (.imul, 1) := by decide +kernel
theorem dX2_closeMended_77 : decode cX2_closeMended 77 = .ok (.isub, 1) := by decide +kernel
theorem dX2_closeMended_78 : decode cX2_closeMended 78 = .ok (.putfield 148, 3) := by decide +kernel
theorem dX2_closeMended_81 : decode cX2_closeMended 81 = .ok (.return_, 1) := by decide +kernel
set_option maxRecDepth 20000 in
theorem ggX2_countJoinedTo_X0_isJoinedTo : GoodIn wsX2_countJoinedTo wsX0_isJoinedTo := goodIn_r _ [6, 7, 8, 14, 15, 16, 17, 18, 19, 20, 21] (by decide +kernel) (by decide +kernel)
set_option maxRecDepth 20000 in
theorem gX2_countJoinedTo_X0_isJoinedTo : GoodIn wsX2_countJoinedTo (wsV RX2 189 RX0 yX0_isJoinedTo wsX0_isJoinedTo) := goodIn_app (goodIn_of _ (by decide +kernel)) ggX2_countJoinedTo_X0_isJoinedTo
theorem dX2_countJoinedTo_0 : decode cX2_countJoinedTo 0 = .ok (.iconst 0, 1) := by decide +kernel
theorem dX2_countJoinedTo_1 : decode cX2_countJoinedTo 1 = .ok (.istore_n 2, 1) := by decide +kernel
theorem dX2_countJoinedTo_2 : decode cX2_countJoinedTo 2 = .ok (.aload_n 0, 1) := by decide +kernel
theorem dX2_countJoinedTo_3 : decode cX2_countJoinedTo 3 = .ok (.getfield 21, 3) := by decide +kernel
theorem dX2_countJoinedTo_6 : decode cX2_countJoinedTo 6 = .ok (.astore_n 3, 1) := by decide +kernel
theorem dX2_countJoinedTo_7 : decode cX2_countJoinedTo 7 = .ok (.aload_n 3, 1) := by decide +kernel
theorem dX2_countJoinedTo_8 : decode cX2_countJoinedTo 8 = .ok (.arraylength, 1) := by decide +kernel
theorem dX2_countJoinedTo_9 : decode cX2_countJoinedTo 9 = .ok (.istore 4, 2) := by decide +kernel
theorem dX2_countJoinedTo_11 : decode cX2_countJoinedTo 11 = .ok (.iconst 0, 1) := by decide +kernel
theorem dX2_countJoinedTo_12 : decode cX2_countJoinedTo 12 = .ok (.istore 5, 2) := by decide +kernel
theorem dX2_countJoinedTo_14 : decode cX2_countJoinedTo 14 = .ok (.iload 5, 2) := by decide +kernel
theorem dX2_countJoinedTo_16 : decode cX2_countJoinedTo 16 = .ok (.iload 4, 2) := by decide +kernel
theorem dX2_countJoinedTo_18 : decode cX2_countJoinedTo 18 = .ok (.if_icmp .ge 32, 3) := by decide +kernel
theorem dX2_countJoinedTo_21 : decode cX2_countJoinedTo 21 = .ok (.aload_n 3, 1) := by decide +kernel
theorem dX2_countJoinedTo_22 : decode cX2_countJoinedTo 22 = .ok (.iload 5, 2) := by decide +kernel
theorem dX2_countJoinedTo_24 : decode cX2_countJoinedTo 24 = .ok (.aaload, 1) := by decide +kernel
theorem dX2_countJoinedTo_25 : decode cX2_countJoinedTo 25 = .ok (.astore 6, 2) := by decide +kernel
theorem dX2_countJoinedTo_27 : decode cX2_countJoinedTo 27 = .ok (.aload 6, 2) := by decide +kernel
theorem dX2_countJoinedTo_29 : decode cX2_countJoinedTo 29 = .ok (.ifnull 15, 3) := by decide +kernel
theorem dX2_countJoinedTo_32 : decode cX2_countJoinedTo 32 = .ok (.aload 6, 2) := by decide +kernel
theorem dX2_countJoinedTo_34 : decode cX2_countJoinedTo 34 = .ok (.aload_n 1, 1) := by decide +kernel
theorem dX2_countJoinedTo_35 : decode cX2_countJoinedTo 35 = .ok (.invokevirtual 189, 3) := by decide +kernel
theorem dX2_countJoinedTo_38 : decode cX2_countJoinedTo 38 = .ok (.ifCond .eq 6, 3) := by decide +kernel
theorem dX2_countJoinedTo_41 : decode cX2_countJoinedTo 41 = .ok (.iinc 2 1, 3) := by decide +kernel
theorem dX2_countJoinedTo_44 : decode cX2_countJoinedTo 44 = .ok (.iinc 5 1, 3) := by decide +kernel
theorem dX2_countJoinedTo_47 : decode cX2_countJoinedTo 47 = .ok (.goto (-33), 3) := by decide +kernel
theorem dX2_countJoinedTo_50 : decode cX2_countJoinedTo 50 = .ok (.iload_n 2, 1) := by decide +kernel
theorem dX2_countJoinedTo_51 : decode cX2_countJoinedTo 51 = .ok (.ireturn, 1) := by decide +kernel
theorem dJ6_bitCount_0f7a4_0 : decode cJ6_bitCount_0f7a4 0 = .ok (.iload_n 0, 1) := by decide +kernel
theorem dJ6_bitCount_0f7a4_1 : decode cJ6_bitCount_0f7a4 1 = .ok (.iload_n 0, 1) := by decide +kernel
theorem dJ6_bitCount_0f7a4_2 : decode cJ6_bitCount_0f7a4 2 = .ok (.iconst 1, 1) := by decide +kernel
theorem dJ6_bitCount_0f7a4_3 : decode cJ6_bitCount_0f7a4 3 = .ok (.iushr, 1) := by decide +kernel
theorem dJ6_bitCount_0f7a4_4 : decode cJ6_bitCount_0f7a4 4 = .ok (.ldc_w 265, 3) := by decide +kernel
theorem dJ6_bitCount_0f7a4_7 : decode cJ6_bitCount_0f7a4 7 = .ok (.iand, 1) := by decide +kernel
theorem dJ6_bitCount_0f7a4_8 : decode cJ6_bitCount_0f7a4 8 = .ok (.isub, 1) := by decide +kernel
theorem dJ6_bitCount_0f7a4_9 : decode cJ6_bitCount_0f7a4 9 = .ok (.istore_n 0, 1) := by decide +kernel
theorem dJ6_bitCount_0f7a4_10 : decode cJ6_bitCount_0f7a4 10 = .ok (.iload_n 0, 1) := by decide +kernel
theorem dJ6_bitCount_0f7a4_11 : decode cJ6_bitCount_0f7a4 11 = .ok (.ldc_w 266, 3) := by decide +kernel
theorem dJ6_bitCount_0f7a4_14 : decode cJ6_bitCount_0f7a4 14 = .ok (.iand, 1) := by decide +kernel
theorem dJ6_bitCount_0f7a4_15 : decode cJ6_bitCount_0f7a4 15 = .ok (.iload_n 0, 1) := by decide +kernel
theorem dJ6_bitCount_0f7a4_16 : decode cJ6_bitCount_0f7a4 16 = .ok (.iconst 2, 1) := by decide +kernel
theorem dJ6_bitCount_0f7a4_17 : decode cJ6_bitCount_0f7a4 17 = .ok (.iushr, 1) := by decide +kernel
theorem dJ6_bitCount_0f7a4_18 : decode cJ6_bitCount_0f7a4 18 = .ok (.ldc_w 266, 3) := by decide +kernel
theorem dJ6_bitCount_0f7a4_21 : decode cJ6_bitCount_0f7a4 21 = .ok (.iand, 1) := by decide +kernel
theorem dJ6_bitCount_0f7a4_22 : decode cJ6_bitCount_0f7a4 22 = .ok (.iadd, 1) := by decide +kernel
theorem dJ6_bitCount_0f7a4_23 : decode cJ6_bitCount_0f7a4 23 = .ok (.istore_n 0, 1) := by decide +kernel
theorem dJ6_bitCount_0f7a4_24 : decode cJ6_bitCount_0f7a4 24 = .ok (.iload_n 0, 1) := by decide +kernel
theorem dJ6_bitCount_0f7a4_25 : decode cJ6_bitCount_0f7a4 25 = .ok (.iload_n 0, 1) := by decide +kernel
theorem dJ6_bitCount_0f7a4_26 : decode cJ6_bitCount_0f7a4 26 = .ok (.iconst 4, 1) := by decide +kernel
theorem dJ6_bitCount_0f7a4_27 : decode cJ6_bitCount_0f7a4 27 = .ok (.iushr, 1) := by decide +kernel
theorem dJ6_bitCount_0f7a4_28 : decode cJ6_bitCount_0f7a4 28 = .ok (.iadd, 1) := by decide +kernel
theorem dJ6_bitCount_0f7a4_29 : decode cJ6_bitCount_0f7a4 29 = .ok (.ldc_w 267, 3) := by decide +kernel
theorem dJ6_bitCount_0f7a4_32 : decode cJ6_bitCount_0f7a4 32 = .ok (.iand, 1) := by decide +kernel
theorem dJ6_bitCount_0f7a4_33 : decode cJ6_bitCount_0f7a4 33 = .ok (.istore_n 0, 1) := by decide +kernel
theorem dJ6_bitCount_0f7a4_34 : decode cJ6_bitCount_0f7a4 34 = .ok (.iload_n 0, 1) := by decide +kernel
theorem dJ6_bitCount_0f7a4_35 : decode cJ6_bitCount_0f7a4 35 = .ok (.iload_n 0, 1) := by decide +kernel
theorem dJ6_bitCount_0f7a4_36 : decode cJ6_bitCount_0f7a4 36 = .ok (.bipush 8, 2) := by decide +kernel
theorem dJ6_bitCount_0f7a4_38 : decode cJ6_bitCount_0f7a4 38 = .ok (.iushr, 1) := by decide +kernel
theorem dJ6_bitCount_0f7a4_39 : decode cJ6_bitCount_0f7a4 39 = .ok (.iadd, 1) := by decide +kernel
theorem dJ6_bitCount_0f7a4_40 : decode cJ6_bitCount_0f7a4 40 = .ok (.istore_n 0, 1) := by decide +kernel
theorem dJ6_bitCount_0f7a4_41 : decode cJ6_bitCount_0f7a4 41 = .ok (.iload_n 0, 1) := by decide +kernel
theorem dJ6_bitCount_0f7a4_42 : decode cJ6_bitCount_0f7a4 42 = .ok (.iload_n 0, 1) := by decide +kernel
theorem dJ6_bitCount_0f7a4_43 : decode cJ6_bitCount_0f7a4 43 = .ok (.bipush 16, 2) := by decide +kernel
theorem dJ6_bitCount_0f7a4_45 : decode cJ6_bitCount_0f7a4 45 = .ok (.iushr, 1) := by decide +kernel
theorem dJ6_bitCount_0f7a4_46 : decode cJ6_bitCount_0f7a4 46 = .ok (.iadd, 1) := by decide +kernel
theorem dJ6_bitCount_0f7a4_47 : decode cJ6_bitCount_0f7a4 47 = .ok (.istore_n 0, 1) := by decide +kernel
theorem dJ6_bitCount_0f7a4_48 : decode cJ6_bitCount_0f7a4 48 = .ok (.iload_n 0, 1) := by decide +kernel
theorem dJ6_bitCount_0f7a4_49 : decode cJ6_bitCount_0f7a4 49 = .ok (.bipush 63, 2) := by decide +kernel
theorem dJ6_bitCount_0f7a4_51 : decode cJ6_bitCount_0f7a4 51 = .ok (.iand, 1) := by decide +kernel
theorem dJ6_bitCount_0f7a4_52 : decode cJ6_bitCount_0f7a4 52 = .ok (.ireturn, 1) := by decide +kernel
theorem dJ9_max_7cf53_0 : decode cJ9_max_7cf53 0 = .ok (.iload_n 0, 1) := by decide +kernel
theorem dJ9_max_7cf53_1 : decode cJ9_max_7cf53 1 = .ok (.iload_n 1, 1) := by decide +kernel
theorem dJ9_max_7cf53_2 : decode cJ9_max_7cf53 2 = .ok (.if_icmp .lt 7, 3) := by decide +kernel
theorem dJ9_max_7cf53_5 : decode cJ9_max_7cf53 5 = .ok (.iload_n 0, 1) := by decide +kernel
theorem dJ9_max_7cf53_6 : decode cJ9_max_7cf53 6 = .ok (.goto 4, 3) := by decide +kernel
theorem dJ9_max_7cf53_9 : decode cJ9_max_7cf53 9 = .ok (.iload_n 1, 1) := by decide +kernel
theorem dJ9_max_7cf53_10 : decode cJ9_max_7cf53 10 = .ok (.ireturn, 1) := by decide +kernel
theorem dJ9_min_7cf53_0 : decode cJ9_min_7cf53 0 = .ok (.iload_n 0, 1) := by decide +kernel
theorem dJ9_min_7cf53_1 : decode cJ9_min_7cf53 1 = .ok (.iload_n 1, 1) := by decide +kernel
theorem dJ9_min_7cf53_2 : decode cJ9_min_7cf53 2 = .ok (.if_icmp .gt 7, 3) := by decide +kernel
theorem dJ9_min_7cf53_5 : decode cJ9_min_7cf53 5 = .ok (.iload_n 0, 1) := by decide +kernel
theorem dJ9_min_7cf53_6 : decode cJ9_min_7cf53 6 = .ok (.goto 4, 3) := by decide +kernel
theorem dJ9_min_7cf53_9 : decode cJ9_min_7cf53 9 = .ok (.iload_n 1, 1) := by decide +kernel
theorem dJ9_min_7cf53_10 : decode cJ9_min_7cf53 10 = .ok (.ireturn, 1) := by decide +kernel
