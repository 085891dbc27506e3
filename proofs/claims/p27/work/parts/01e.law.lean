theorem dL_drawn_0 : decode cL_drawn 0 = .ok (.iload_n 1, 1) := by decide +kernel
theorem dL_drawn_1 : decode cL_drawn 1 = .ok (.aload_n 0, 1) := by decide +kernel
theorem dL_drawn_2 : decode cL_drawn 2 = .ok (.arraylength, 1) := by decide +kernel
theorem dL_drawn_3 : decode cL_drawn 3 = .ok (.if_icmp .ge 9, 3) := by decide +kernel
theorem dL_drawn_6 : decode cL_drawn 6 = .ok (.aload_n 0, 1) := by decide +kernel
theorem dL_drawn_7 : decode cL_drawn 7 = .ok (.iload_n 1, 1) := by decide +kernel
theorem dL_drawn_8 : decode cL_drawn 8 = .ok (.iaload, 1) := by decide +kernel
theorem dL_drawn_9 : decode cL_drawn 9 = .ok (.goto 12, 3) := by decide +kernel
theorem dL_drawn_12 : decode cL_drawn 12 = .ok (.sipush 12241, 3) := by decide +kernel
theorem dL_drawn_15 : decode cL_drawn 15 = .ok (.iload_n 1, 1) := by decide +kernel
theorem dL_drawn_16 : decode cL_drawn 16 = .ok (.imul, 1) := by decide +kernel
theorem dL_drawn_17 : decode cL_drawn 17 = .ok (.sipush 7001, 3) := by decide +kernel
theorem dL_drawn_20 : decode cL_drawn 20 = .ok (.iadd, 1) := by decide +kernel
theorem dL_drawn_21 : decode cL_drawn 21 = .ok (.istore_n 2, 1) := by decide +kernel
theorem dL_drawn_22 : decode cL_drawn 22 = .ok (.iload_n 2, 1) := by decide +kernel
theorem dL_drawn_23 : decode cL_drawn 23 = .ok (.ldc 7, 2) := by decide +kernel
theorem dL_drawn_25 : decode cL_drawn 25 = .ok (.iand, 1) := by decide +kernel
theorem dL_drawn_26 : decode cL_drawn 26 = .ok (.ireturn, 1) := by decide +kernel
set_option maxRecDepth 20000 in
theorem ggL_set_X2_setCalendar : GoodIn wsL_set wsX2_setCalendar := goodIn_ca (goodIn_ca (goodIn_r _ [9, 10, 11, 12, 13, 14, 15, 8, 16, 17, 18, 19, 20, 21, 22, 23, 24, 25, 26, 27, 131, 132, 133, 134, 135, 136, 137, 138, 139, 140, 141, 142, 143, 144] (by decide +kernel) (by decide +kernel)) (goodIn_sub (fun _ h => List.mem_cons_of_mem _ (List.mem_append_left _ (List.mem_append_left _ (List.mem_append_right _ h)))) (by decide +kernel))) (goodIn_sub (fun _ h => List.mem_cons_of_mem _ (List.mem_append_left _ (List.mem_append_right _ h))) (by decide +kernel))
set_option maxRecDepth 20000 in
theorem gL_set_X2_setCalendar : GoodIn wsL_set (wsV RL 8 RX2 yX2_setCalendar wsX2_setCalendar) := goodIn_app (goodIn_of _ (by decide +kernel)) ggL_set_X2_setCalendar
set_option maxRecDepth 20000 in
theorem ggL_set_X2_addContract : GoodIn wsL_set wsX2_addContract := goodIn_ca (goodIn_ca (goodIn_ca (goodIn_r _ [31, 32, 13, 14, 15, 8, 16, 17, 18, 19, 20, 21, 22, 23, 24, 25, 26, 27, 33, 34, 35, 36, 37, 38, 39, 40, 41, 42, 43, 44, 45, 46, 131, 132, 133, 134, 135, 136, 137, 138, 139, 140, 141, 142, 143, 144] (by decide +kernel) (by decide +kernel)) (goodIn_sub (fun _ h => List.mem_cons_of_mem _ (List.mem_append_left _ (List.mem_append_left _ (List.mem_append_right _ h)))) (by decide +kernel))) (goodIn_sub (fun _ h => List.mem_cons_of_mem _ (List.mem_append_left _ (List.mem_append_right _ h))) (by decide +kernel))) (goodIn_sub (fun _ h => List.mem_cons_of_mem _ (List.mem_append_right _ h)) (by decide +kernel))
set_option maxRecDepth 20000 in
theorem gL_set_X2_addContract : GoodIn wsL_set (wsV RL 14 RX2 yX2_addContract wsX2_addContract) := goodIn_app (goodIn_of _ (by decide +kernel)) ggL_set_X2_addContract
set_option maxRecDepth 20000 in
theorem ggL_set_X2_setPromise : GoodIn wsL_set wsX2_setPromise := goodIn_ca (goodIn_r _ [50, 51, 20, 21, 8, 22, 23, 24, 25, 26, 27, 140, 141, 142, 143, 144] (by decide +kernel) (by decide +kernel)) (goodIn_sub (fun _ h => List.mem_cons_of_mem _ (List.mem_append_left _ (List.mem_append_right _ h))) (by decide +kernel))
set_option maxRecDepth 20000 in
theorem gL_set_X2_setPromise : GoodIn wsL_set (wsV RL 17 RX2 yX2_setPromise wsX2_setPromise) := goodIn_app (goodIn_of _ (by decide +kernel)) ggL_set_X2_setPromise
set_option maxRecDepth 20000 in
theorem ggL_set_X2_pass : GoodIn wsL_set wsX2_pass := goodIn_ca (goodIn_ca (goodIn_r _ [55, 56, 57, 20, 21, 8, 22, 23, 24, 25, 26, 27, 42, 43, 44, 45, 46, 58, 59, 60, 61, 62, 63, 64, 65, 66, 67, 68, 69, 70, 71, 72, 73, 36, 74, 75, 76, 77, 78, 79, 80, 81, 82, 83, 84, 85, 86, 87, 88, 89, 90, 91, 92, 93, 94, 95, 96, 97, 98, 99, 100, 101, 102, 103, 104, 140, 141, 142, 143, 144, 145, 146, 147, 148, 149, 150, 151, 152, 131, 132, 133, 134, 135, 136, 137, 138, 139] (by decide +kernel) (by decide +kernel)) (goodIn_sub (fun _ h => List.mem_cons_of_mem _ (List.mem_append_left _ (List.mem_append_right _ h))) (by decide +kernel))) (goodIn_sub (fun _ h => List.mem_cons_of_mem _ (List.mem_append_right _ h)) (by decide +kernel))
set_option maxRecDepth 20000 in
theorem gL_set_X2_pass : GoodIn wsL_set (wsV RL 21 RX2 yX2_pass wsX2_pass) := goodIn_app (goodIn_of _ (by decide +kernel)) ggL_set_X2_pass
set_option maxRecDepth 20000 in
theorem ggL_set_X2_buy : GoodIn wsL_set wsX2_buy := goodIn_ca (goodIn_ca (goodIn_r _ [108, 109, 110, 13, 14, 15, 8, 16, 17, 18, 19, 20, 21, 22, 23, 24, 25, 26, 27, 131, 132, 133, 134, 135, 136, 137, 138, 139, 140, 141, 142, 143, 144] (by decide +kernel) (by decide +kernel)) (goodIn_sub (fun _ h => List.mem_cons_of_mem _ (List.mem_append_left _ (List.mem_append_left _ (List.mem_append_right _ h)))) (by decide +kernel))) (goodIn_sub (fun _ h => List.mem_cons_of_mem _ (List.mem_append_left _ (List.mem_append_right _ h))) (by decide +kernel))
set_option maxRecDepth 20000 in
theorem gL_set_X2_buy : GoodIn wsL_set (wsV RL 25 RX2 yX2_buy wsX2_buy) := goodIn_app (goodIn_of _ (by decide +kernel)) ggL_set_X2_buy
set_option maxRecDepth 20000 in
theorem ggL_set_X2_open : GoodIn wsL_set wsX2_open := goodIn_ca (goodIn_ca (goodIn_ca (goodIn_r _ [114, 115, 57, 116, 117, 61, 13, 14, 15, 8, 16, 17, 18, 19, 118, 119, 120, 20, 21, 22, 23, 24, 25, 26, 27, 42, 43, 44, 45, 46, 121, 122, 123, 124, 125, 126, 69, 70, 127, 104, 128, 64, 63, 129, 130, 140, 141, 142, 143, 144, 145, 146, 147, 148, 149, 150, 151, 152] (by decide +kernel) (by decide +kernel)) (goodIn_sub (fun _ h => List.mem_cons_of_mem _ (List.mem_append_left _ (List.mem_append_left _ (List.mem_append_right _ h)))) (by decide +kernel))) (goodIn_sub (fun _ h => List.mem_cons_of_mem _ (List.mem_append_left _ (List.mem_append_right _ h))) (by decide +kernel))) (goodIn_sub (fun _ h => List.mem_cons_of_mem _ (List.mem_append_right _ h)) (by decide +kernel))
set_option maxRecDepth 20000 in
theorem gL_set_X2_open : GoodIn wsL_set (wsV RL 29 RX2 yX2_open wsX2_open) := goodIn_app (goodIn_of _ (by decide +kernel)) ggL_set_X2_open
theorem dL_set_0 : decode cL_set 0 = .ok (.iload_n 1, 1) := by decide +kernel
theorem dL_set_1 : decode cL_set 1 = .ok (.ifCond .ne 16, 3) := by decide +kernel
theorem dL_set_4 : decode cL_set 4 = .ok (.aload_n 0, 1) := by decide +kernel
theorem dL_set_5 : decode cL_set 5 = .ok (.iload_n 2, 1) := by decide +kernel
theorem dL_set_6 : decode cL_set 6 = .ok (.iload_n 3, 1) := by decide +kernel
theorem dL_set_7 : decode cL_set 7 = .ok (.iload 4, 2) := by decide +kernel
theorem dL_set_9 : decode cL_set 9 = .ok (.iload 5, 2) := by decide +kernel
theorem dL_set_11 : decode cL_set 11 = .ok (.invokevirtual 8, 3) := by decide +kernel
theorem dL_set_14 : decode cL_set 14 = .ok (.goto 73, 3) := by decide +kernel
theorem dL_set_17 : decode cL_set 17 = .ok (.iload_n 1, 1) := by decide +kernel
theorem dL_set_18 : decode cL_set 18 = .ok (.iconst 1, 1) := by decide +kernel
theorem dL_set_19 : decode cL_set 19 = .ok (.if_icmp .ne 16, 3) := by decide +kernel
theorem dL_set_22 : decode cL_set 22 = .ok (.aload_n 0, 1) := by decide +kernel
theorem dL_set_23 : decode cL_set 23 = .ok (.iload_n 2, 1) := by decide +kernel
theorem dL_set_24 : decode cL_set 24 = .ok (.iload_n 3, 1) := by decide +kernel
theorem dL_set_25 : decode cL_set 25 = .ok (.iload 4, 2) := by decide +kernel
theorem dL_set_27 : decode cL_set 27 = .ok (.iload 5, 2) := by decide +kernel
theorem dL_set_29 : decode cL_set 29 = .ok (.invokevirtual 14, 3) := by decide +kernel
theorem dL_set_32 : decode cL_set 32 = .ok (.goto 55, 3) := by decide +kernel
theorem dL_set_35 : decode cL_set 35 = .ok (.iload_n 1, 1) := by decide +kernel
theorem dL_set_36 : decode cL_set 36 = .ok (.iconst 2, 1) := by decide +kernel
theorem dL_set_37 : decode cL_set 37 = .ok (.if_icmp .ne 15, 3) := by decide +kernel
theorem dL_set_40 : decode cL_set 40 = .ok (.aload_n 0, 1) := by decide +kernel
theorem dL_set_41 : decode cL_set 41 = .ok (.iload_n 3, 1) := by decide +kernel
theorem dL_set_42 : decode cL_set 42 = .ok (.iload 4, 2) := by decide +kernel
theorem dL_set_44 : decode cL_set 44 = .ok (.iload 5, 2) := by decide +kernel
theorem dL_set_46 : decode cL_set 46 = .ok (.invokevirtual 17, 3) := by decide +kernel
theorem dL_set_49 : decode cL_set 49 = .ok (.goto 38, 3) := by decide +kernel
theorem dL_set_52 : decode cL_set 52 = .ok (.iload_n 1, 1) := by decide +kernel
theorem dL_set_53 : decode cL_set 53 = .ok (.iconst 3, 1) := by decide +kernel
theorem dL_set_54 : decode cL_set 54 = .ok (.if_icmp .ne 11, 3) := by decide +kernel
theorem dL_set_57 : decode cL_set 57 = .ok (.aload_n 0, 1) := by decide +kernel
theorem dL_set_58 : decode cL_set 58 = .ok (.iload_n 3, 1) := by decide +kernel
theorem dL_set_59 : decode cL_set 59 = .ok (.invokevirtual 21, 3) := by decide +kernel
theorem dL_set_62 : decode cL_set 62 = .ok (.goto 25, 3) := by decide +kernel
theorem dL_set_65 : decode cL_set 65 = .ok (.iload_n 1, 1) := by decide +kernel
theorem dL_set_66 : decode cL_set 66 = .ok (.iconst 4, 1) := by decide +kernel
theorem dL_set_67 : decode cL_set 67 = .ok (.if_icmp .ne 12, 3) := by decide +kernel
theorem dL_set_70 : decode cL_set 70 = .ok (.aload_n 0, 1) := by decide +kernel
theorem dL_set_71 : decode cL_set 71 = .ok (.iload_n 2, 1) := by decide +kernel
theorem dL_set_72 : decode cL_set 72 = .ok (.iload_n 3, 1) := by decide +kernel
theorem dL_set_73 : decode cL_set 73 = .ok (.invokevirtual 25, 3) := by decide +kernel
theorem dL_set_76 : decode cL_set 76 = .ok (.goto 11, 3) := by decide +kernel
theorem dL_set_79 : decode cL_set 79 = .ok (.aload_n 0, 1) := by decide +kernel
theorem dL_set_80 : decode cL_set 80 = .ok (.iload_n 2, 1) := by decide +kernel
theorem dL_set_81 : decode cL_set 81 = .ok (.iload_n 3, 1) := by decide +kernel
theorem dL_set_82 : decode cL_set 82 = .ok (.iload 4, 2) := by decide +kernel
theorem dL_set_84 : decode cL_set 84 = .ok (.invokevirtual 29, 3) := by decide +kernel
theorem dL_set_87 : decode cL_set 87 = .ok (.ireturn, 1) := by decide +kernel
theorem dL_set_88 : decode cL_set 88 = .ok (.astore 6, 2) := by decide +kernel
theorem dL_set_90 : decode cL_set 90 = .ok (.ldc 34, 2) := by decide +kernel
theorem dL_set_92 : decode cL_set 92 = .ok (.ireturn, 1) := by decide +kernel
theorem dL_set_93 : decode cL_set 93 = .ok (.astore 6, 2) := by decide +kernel
theorem dL_set_95 : decode cL_set 95 = .ok (.ldc 34, 2) := by decide +kernel
theorem dL_set_97 : decode cL_set 97 = .ok (.ireturn, 1) := by decide +kernel
theorem dL_set_98 : decode cL_set 98 = .ok (.astore 6, 2) := by decide +kernel
theorem dL_set_100 : decode cL_set 100 = .ok (.ldc 34, 2) := by decide +kernel
theorem dL_set_102 : decode cL_set 102 = .ok (.ireturn, 1) := by decide +kernel
set_option maxRecDepth 20000 in
theorem ggL_does_X2_reach : GoodIn wsL_does wsX2_reach := goodIn_ca (goodIn_ca (goodIn_ca (goodIn_r _ [9, 10, 11, 12, 13, 14, 8, 15, 16, 17, 18, 19, 20, 21, 22, 23, 24, 25, 26, 27, 28, 29, 30, 31, 32, 33, 34, 35, 36, 37, 38, 39, 40, 41, 42, 43, 44, 45, 46, 47, 48, 49, 50, 51, 52, 53, 54, 55, 56, 57, 58, 59, 60, 61, 62, 63, 64, 65, 66, 67, 68, 69, 70, 71, 72, 73, 74, 75, 76, 77, 78, 79, 111, 112, 113, 114, 115, 116, 117, 118, 119, 120, 121, 122, 123, 124, 125, 126, 127, 128, 129, 130, 131, 132] (by decide +kernel) (by decide +kernel)) (goodIn_sub (fun _ h => List.mem_cons_of_mem _ (List.mem_append_left _ (List.mem_append_left _ (List.mem_append_right _ h)))) (by decide +kernel))) (goodIn_sub (fun _ h => List.mem_cons_of_mem _ (List.mem_append_left _ (List.mem_append_right _ h))) (by decide +kernel))) (goodIn_sub (fun _ h => List.mem_cons_of_mem _ (List.mem_append_right _ h)) (by decide +kernel))
set_option maxRecDepth 20000 in
theorem gL_does_X2_reach : GoodIn wsL_does (wsV RL 39 RX2 yX2_reach wsX2_reach) := goodIn_app (goodIn_of _ (by decide +kernel)) ggL_does_X2_reach
set_option maxRecDepth 20000 in
theorem ggL_does_X2_rest : GoodIn wsL_does wsX2_rest := goodIn_ca (goodIn_ca (goodIn_r _ [83, 10, 84, 12, 13, 14, 8, 15, 16, 17, 18, 33, 34, 35, 36, 37, 111, 112, 113, 114, 115, 116, 117, 118, 119, 120, 121, 122, 123] (by decide +kernel) (by decide +kernel)) (goodIn_sub (fun _ h => List.mem_cons_of_mem _ (List.mem_append_left _ (List.mem_append_left _ (List.mem_append_right _ h)))) (by decide +kernel))) (goodIn_sub (fun _ h => List.mem_cons_of_mem _ (List.mem_append_right _ h)) (by decide +kernel))
set_option maxRecDepth 20000 in
theorem gL_does_X2_rest : GoodIn wsL_does (wsV RL 42 RX2 yX2_rest wsX2_rest) := goodIn_app (goodIn_of _ (by decide +kernel)) ggL_does_X2_rest
set_option maxRecDepth 20000 in
theorem ggL_does_X2_setGravity : GoodIn wsL_does wsX2_setGravity := goodIn_ca (goodIn_ca (goodIn_ca (goodIn_r _ [88, 10, 52, 12, 13, 14, 8, 15, 16, 17, 18, 19, 20, 21, 22, 23, 24, 25, 26, 33, 34, 35, 36, 37, 111, 112, 113, 114, 115, 116, 117, 118, 119, 120, 121, 122, 123] (by decide +kernel) (by decide +kernel)) (goodIn_sub (fun _ h => List.mem_cons_of_mem _ (List.mem_append_left _ (List.mem_append_left _ (List.mem_append_right _ h)))) (by decide +kernel))) (goodIn_sub (fun _ h => List.mem_cons_of_mem _ (List.mem_append_left _ (List.mem_append_right _ h))) (by decide +kernel))) (goodIn_sub (fun _ h => List.mem_cons_of_mem _ (List.mem_append_right _ h)) (by decide +kernel))
set_option maxRecDepth 20000 in
theorem gL_does_X2_setGravity : GoodIn wsL_does (wsV RL 46 RX2 yX2_setGravity wsX2_setGravity) := goodIn_app (goodIn_of _ (by decide +kernel)) ggL_does_X2_setGravity
set_option maxRecDepth 20000 in
theorem ggL_does_X2_join : GoodIn wsL_does wsX2_join := goodIn_ca (goodIn_ca (goodIn_ca (goodIn_r _ [92, 57, 10, 93, 12, 13, 14, 8, 15, 16, 17, 18, 22, 23, 24, 25, 26, 94, 95, 96, 97, 59, 60, 61, 30, 62, 63, 64, 33, 34, 35, 36, 37, 111, 112, 113, 114, 115, 116, 117, 118, 119, 120, 121, 122, 123] (by decide +kernel) (by decide +kernel)) (goodIn_sub (fun _ h => List.mem_cons_of_mem _ (List.mem_append_left _ (List.mem_append_left _ (List.mem_append_right _ h)))) (by decide +kernel))) (goodIn_sub (fun _ h => List.mem_cons_of_mem _ (List.mem_append_left _ (List.mem_append_right _ h))) (by decide +kernel))) (goodIn_sub (fun _ h => List.mem_cons_of_mem _ (List.mem_append_right _ h)) (by decide +kernel))
set_option maxRecDepth 20000 in
theorem gL_does_X2_join : GoodIn wsL_does (wsV RL 49 RX2 yX2_join wsX2_join) := goodIn_app (goodIn_of _ (by decide +kernel)) ggL_does_X2_join
set_option maxRecDepth 20000 in
theorem ggL_does_X2_openAnew : GoodIn wsL_does wsX2_openAnew := goodIn_ca (goodIn_ca (goodIn_r _ [101, 10, 84, 11, 102, 103, 104, 105, 46, 12, 13, 14, 8, 15, 16, 17, 18, 33, 34, 35, 36, 37, 111, 112, 113, 114, 115, 116, 117, 118, 119, 120, 121, 122, 123] (by decide +kernel) (by decide +kernel)) (goodIn_sub (fun _ h => List.mem_cons_of_mem _ (List.mem_append_left _ (List.mem_append_left _ (List.mem_append_right _ h)))) (by decide +kernel))) (goodIn_sub (fun _ h => List.mem_cons_of_mem _ (List.mem_append_right _ h)) (by decide +kernel))
set_option maxRecDepth 20000 in
theorem gL_does_X2_openAnew : GoodIn wsL_does (wsV RL 52 RX2 yX2_openAnew wsX2_openAnew) := goodIn_app (goodIn_of _ (by decide +kernel)) ggL_does_X2_openAnew
set_option maxRecDepth 20000 in
theorem ggL_does_X2_work : GoodIn wsL_does wsX2_work := goodIn_ca (goodIn_ca (goodIn_ca (goodIn_r _ [109, 10, 57, 110, 102, 103, 104, 105, 58, 12, 13, 14, 8, 15, 16, 17, 18, 19, 20, 21, 22, 23, 24, 25, 26, 33, 34, 35, 36, 37, 65, 66, 67, 68, 69, 70, 71, 72, 73, 74, 75, 76, 77, 78, 79, 111, 112, 113, 114, 115, 116, 117, 118, 124, 125, 126, 127, 128, 129, 130, 131, 132, 119, 120, 121, 122, 123] (by decide +kernel) (by decide +kernel)) (goodIn_sub (fun _ h => List.mem_cons_of_mem _ (List.mem_append_left _ (List.mem_append_left _ (List.mem_append_right _ h)))) (by decide +kernel))) (goodIn_sub (fun _ h => List.mem_cons_of_mem _ (List.mem_append_left _ (List.mem_append_right _ h))) (by decide +kernel))) (goodIn_sub (fun _ h => List.mem_cons_of_mem _ (List.mem_append_right _ h)) (by decide +kernel))
set_option maxRecDepth 20000 in
theorem gL_does_X2_work : GoodIn wsL_does (wsV RL 55 RX2 yX2_work wsX2_work) := goodIn_app (goodIn_of _ (by decide +kernel)) ggL_does_X2_work
theorem dL_does_0 : decode cL_does 0 = .ok (.iload_n 1, 1) := by decide +kernel
theorem dL_does_1 : decode cL_does 1 = .ok (.ifCond .ne 12, 3) := by decide +kernel
theorem dL_does_4 : decode cL_does 4 = .ok (.aload_n 0, 1) := by decide +kernel
theorem dL_does_5 : decode cL_does 5 = .ok (.iload_n 2, 1) := by decide +kernel
theorem dL_does_6 : decode cL_does 6 = .ok (.iload_n 3, 1) := by decide +kernel
theorem dL_does_7 : decode cL_does 7 = .ok (.invokevirtual 39, 3) := by decide +kernel
theorem dL_does_10 : decode cL_does 10 = .ok (.goto 81, 3) := by decide +kernel
theorem dL_does_13 : decode cL_does 13 = .ok (.iload_n 1, 1) := by decide +kernel
theorem dL_does_14 : decode cL_does 14 = .ok (.iconst 1, 1) := by decide +kernel
theorem dL_does_15 : decode cL_does 15 = .ok (.if_icmp .ne 29, 3) := by decide +kernel
theorem dL_does_18 : decode cL_does 18 = .ok (.aload_n 0, 1) := by decide +kernel
theorem dL_does_19 : decode cL_does 19 = .ok (.iload_n 2, 1) := by decide +kernel
theorem dL_does_20 : decode cL_does 20 = .ok (.iload_n 3, 1) := by decide +kernel
theorem dL_does_21 : decode cL_does 21 = .ok (.iconst 1, 1) := by decide +kernel
theorem dL_does_22 : decode cL_does 22 = .ok (.if_icmp .ne 7, 3) := by decide +kernel
theorem dL_does_25 : decode cL_does 25 = .ok (.iconst 1, 1) := by decide +kernel
theorem dL_does_26 : decode cL_does 26 = .ok (.goto 4, 3) := by decide +kernel
theorem dL_does_29 : decode cL_does 29 = .ok (.iconst 0, 1) := by decide +kernel
theorem dL_does_30 : decode cL_does 30 = .ok (.invokevirtual 42, 3) := by decide +kernel
theorem dL_does_33 : decode cL_does 33 = .ok (.ifCond .eq 7, 3) := by decide +kernel
theorem dL_does_36 : decode cL_does 36 = .ok (.iconst 1, 1) := by decide +kernel
theorem dL_does_37 : decode cL_does 37 = .ok (.goto 54, 3) := by decide +kernel
theorem dL_does_40 : decode cL_does 40 = .ok (.iconst 0, 1) := by decide +kernel
theorem dL_does_41 : decode cL_does 41 = .ok (.goto 50, 3) := by decide +kernel
theorem dL_does_44 : decode cL_does 44 = .ok (.iload_n 1, 1) := by decide +kernel
theorem dL_does_45 : decode cL_does 45 = .ok (.iconst 2, 1) := by decide +kernel
theorem dL_does_46 : decode cL_does 46 = .ok (.if_icmp .ne 12, 3) := by decide +kernel
theorem dL_does_49 : decode cL_does 49 = .ok (.aload_n 0, 1) := by decide +kernel
theorem dL_does_50 : decode cL_does 50 = .ok (.iload_n 2, 1) := by decide +kernel
theorem dL_does_51 : decode cL_does 51 = .ok (.iload_n 3, 1) := by decide +kernel
theorem dL_does_52 : decode cL_does 52 = .ok (.invokevirtual 46, 3) := by decide +kernel
theorem dL_does_55 : decode cL_does 55 = .ok (.goto 36, 3) := by decide +kernel
theorem dL_does_58 : decode cL_does 58 = .ok (.iload_n 1, 1) := by decide +kernel
theorem dL_does_59 : decode cL_does 59 = .ok (.iconst 3, 1) := by decide +kernel
theorem dL_does_60 : decode cL_does 60 = .ok (.if_icmp .ne 12, 3) := by decide +kernel
theorem dL_does_63 : decode cL_does 63 = .ok (.aload_n 0, 1) := by decide +kernel
theorem dL_does_64 : decode cL_does 64 = .ok (.iload_n 2, 1) := by decide +kernel
theorem dL_does_65 : decode cL_does 65 = .ok (.iload_n 3, 1) := by decide +kernel
theorem dL_does_66 : decode cL_does 66 = .ok (.invokevirtual 49, 3) := by decide +kernel
theorem dL_does_69 : decode cL_does 69 = .ok (.goto 22, 3) := by decide +kernel
theorem dL_does_72 : decode cL_does 72 = .ok (.iload_n 1, 1) := by decide +kernel
theorem dL_does_73 : decode cL_does 73 = .ok (.iconst 4, 1) := by decide +kernel
theorem dL_does_74 : decode cL_does 74 = .ok (.if_icmp .ne 11, 3) := by decide +kernel
theorem dL_does_77 : decode cL_does 77 = .ok (.aload_n 0, 1) := by decide +kernel
theorem dL_does_78 : decode cL_does 78 = .ok (.iload_n 2, 1) := by decide +kernel
theorem dL_does_79 : decode cL_does 79 = .ok (.invokevirtual 52, 3) := by decide +kernel
theorem dL_does_82 : decode cL_does 82 = .ok (.goto 9, 3) := by decide +kernel
theorem dL_does_85 : decode cL_does 85 = .ok (.aload_n 0, 1) := by decide +kernel
theorem dL_does_86 : decode cL_does 86 = .ok (.iload_n 2, 1) := by decide +kernel
theorem dL_does_87 : decode cL_does 87 = .ok (.iload_n 3, 1) := by decide +kernel
theorem dL_does_88 : decode cL_does 88 = .ok (.invokevirtual 55, 3) := by decide +kernel
theorem dL_does_91 : decode cL_does 91 = .ok (.ireturn, 1) := by decide +kernel
theorem dL_does_92 : decode cL_does 92 = .ok (.astore 4, 2) := by decide +kernel
theorem dL_does_94 : decode cL_does 94 = .ok (.ldc 34, 2) := by decide +kernel
theorem dL_does_96 : decode cL_does 96 = .ok (.ireturn, 1) := by decide +kernel
theorem dL_does_97 : decode cL_does 97 = .ok (.astore 4, 2) := by decide +kernel
theorem dL_does_99 : decode cL_does 99 = .ok (.ldc 34, 2) := by decide +kernel
theorem dL_does_101 : decode cL_does 101 = .ok (.ireturn, 1) := by decide +kernel
theorem dL_does_102 : decode cL_does 102 = .ok (.astore 4, 2) := by decide +kernel
theorem dL_does_104 : decode cL_does 104 = .ok (.ldc 34, 2) := by decide +kernel
theorem dL_does_106 : decode cL_does 106 = .ok (.ireturn, 1) := by decide +kernel
set_option maxRecDepth 20000 in
theorem ggL_by_X2_ahead : GoodIn wsL_by wsX2_ahead := goodIn_ca (goodIn_r _ [8, 9, 10, 11, 12, 7, 13, 14, 15, 16, 91, 92, 93, 94, 95, 96, 97, 98, 99, 100, 101, 102, 103, 104] (by decide +kernel) (by decide +kernel)) (goodIn_sub (fun _ h => List.mem_cons_of_mem _ (List.mem_append_left _ (List.mem_append_right _ h))) (by decide +kernel))
set_option maxRecDepth 20000 in
theorem gL_by_X2_ahead : GoodIn wsL_by (wsV RL 58 RX2 yX2_ahead wsX2_ahead) := goodIn_app (goodIn_of _ (by decide +kernel)) ggL_by_X2_ahead
set_option maxRecDepth 20000 in
theorem ggL_by_X2_owes : GoodIn wsL_by wsX2_owes := goodIn_ca (goodIn_r _ [20, 21, 10, 11, 12, 7, 13, 14, 15, 16, 91, 92, 93, 94, 95, 96, 97, 98, 99, 100, 101, 102, 103, 104] (by decide +kernel) (by decide +kernel)) (goodIn_sub (fun _ h => List.mem_cons_of_mem _ (List.mem_append_left _ (List.mem_append_right _ h))) (by decide +kernel))
set_option maxRecDepth 20000 in
theorem gL_by_X2_owes : GoodIn wsL_by (wsV RL 61 RX2 yX2_owes wsX2_owes) := goodIn_app (goodIn_of _ (by decide +kernel)) ggL_by_X2_owes
set_option maxRecDepth 20000 in
theorem ggL_by_X2_hours : GoodIn wsL_by wsX2_hours := goodIn_ca (goodIn_ca (goodIn_r _ [25, 10, 11, 12, 7, 13, 14, 15, 16, 26, 27, 28, 29, 30, 31, 32, 33, 34, 35, 36, 37, 38, 39, 40, 41, 42, 43, 44, 45, 46, 47, 48, 49, 50, 51, 52, 53, 54, 55, 56, 57, 58, 59, 60, 61, 62, 63, 100, 101, 102, 103, 104, 91, 92, 93, 94, 95, 96, 97, 98, 99] (by decide +kernel) (by decide +kernel)) (goodIn_sub (fun _ h => List.mem_cons_of_mem _ (List.mem_append_left _ (List.mem_append_right _ h))) (by decide +kernel))) (goodIn_sub (fun _ h => List.mem_cons_of_mem _ (List.mem_append_right _ h)) (by decide +kernel))
set_option maxRecDepth 20000 in
theorem gL_by_X2_hours : GoodIn wsL_by (wsV RL 64 RX2 yX2_hours wsX2_hours) := goodIn_app (goodIn_of _ (by decide +kernel)) ggL_by_X2_hours
set_option maxRecDepth 20000 in
theorem ggL_by_X2_hoursOneByOne : GoodIn wsL_by wsX2_hoursOneByOne := goodIn_ca (goodIn_ca (goodIn_r _ [67, 10, 11, 12, 7, 13, 14, 15, 16, 26, 27, 28, 29, 30, 31, 32, 33, 68, 69, 70, 37, 71, 45, 44, 60, 61, 62, 63, 43, 100, 101, 102, 103, 104, 91, 92, 93, 94, 95, 96, 97, 98, 99] (by decide +kernel) (by decide +kernel)) (goodIn_sub (fun _ h => List.mem_cons_of_mem _ (List.mem_append_left _ (List.mem_append_right _ h))) (by decide +kernel))) (goodIn_sub (fun _ h => List.mem_cons_of_mem _ (List.mem_append_right _ h)) (by decide +kernel))
set_option maxRecDepth 20000 in
theorem gL_by_X2_hoursOneByOne : GoodIn wsL_by (wsV RL 67 RX2 yX2_hoursOneByOne wsX2_hoursOneByOne) := goodIn_app (goodIn_of _ (by decide +kernel)) ggL_by_X2_hoursOneByOne
set_option maxRecDepth 20000 in
theorem ggL_by_X2_nextGap : GoodIn wsL_by wsX2_nextGap := goodIn_ca (goodIn_ca (goodIn_r _ [75, 10, 11, 12, 7, 13, 14, 15, 16, 76, 77, 78, 26, 27, 28, 29, 30, 31, 32, 33, 79, 80, 81, 37, 82, 83, 84, 85, 86, 100, 101, 102, 103, 104, 91, 92, 93, 94, 95, 96, 97, 98, 99] (by decide +kernel) (by decide +kernel)) (goodIn_sub (fun _ h => List.mem_cons_of_mem _ (List.mem_append_left _ (List.mem_append_right _ h))) (by decide +kernel))) (goodIn_sub (fun _ h => List.mem_cons_of_mem _ (List.mem_append_right _ h)) (by decide +kernel))
set_option maxRecDepth 20000 in
theorem gL_by_X2_nextGap : GoodIn wsL_by (wsV RL 70 RX2 yX2_nextGap wsX2_nextGap) := goodIn_app (goodIn_of _ (by decide +kernel)) ggL_by_X2_nextGap
set_option maxRecDepth 20000 in
theorem ggL_by_X2_isCovered : GoodIn wsL_by wsX2_isCovered := goodIn_ca (goodIn_ca (goodIn_r _ [90, 10, 11, 12, 7, 13, 14, 15, 16, 76, 77, 78, 26, 27, 28, 29, 30, 31, 32, 33, 79, 80, 81, 37, 82, 83, 84, 85, 86, 100, 101, 102, 103, 104, 91, 92, 93, 94, 95, 96, 97, 98, 99] (by decide +kernel) (by decide +kernel)) (goodIn_sub (fun _ h => List.mem_cons_of_mem _ (List.mem_append_left _ (List.mem_append_right _ h))) (by decide +kernel))) (goodIn_sub (fun _ h => List.mem_cons_of_mem _ (List.mem_append_right _ h)) (by decide +kernel))
set_option maxRecDepth 20000 in
theorem gL_by_X2_isCovered : GoodIn wsL_by (wsV RL 73 RX2 yX2_isCovered wsX2_isCovered) := goodIn_app (goodIn_of _ (by decide +kernel)) ggL_by_X2_isCovered
theorem dL_by_0 : decode cL_by 0 = .ok (.iload_n 1, 1) := by decide +kernel
theorem dL_by_1 : decode cL_by 1 = .ok (.ifCond .ne 11, 3) := by decide +kernel
theorem dL_by_4 : decode cL_by 4 = .ok (.aload_n 0, 1) := by decide +kernel
theorem dL_by_5 : decode cL_by 5 = .ok (.iload_n 2, 1) := by decide +kernel
theorem dL_by_6 : decode cL_by 6 = .ok (.invokevirtual 58, 3) := by decide +kernel
theorem dL_by_9 : decode cL_by 9 = .ok (.goto 92, 3) := by decide +kernel
theorem dL_by_12 : decode cL_by 12 = .ok (.iload_n 1, 1) := by decide +kernel
theorem dL_by_13 : decode cL_by 13 = .ok (.iconst 1, 1) := by decide +kernel
theorem dL_by_14 : decode cL_by 14 = .ok (.if_icmp .ne 11, 3) := by decide +kernel
theorem dL_by_17 : decode cL_by 17 = .ok (.aload_n 0, 1) := by decide +kernel
theorem dL_by_18 : decode cL_by 18 = .ok (.iload_n 2, 1) := by decide +kernel
theorem dL_by_19 : decode cL_by 19 = .ok (.invokevirtual 61, 3) := by decide +kernel
theorem dL_by_22 : decode cL_by 22 = .ok (.goto 79, 3) := by decide +kernel
theorem dL_by_25 : decode cL_by 25 = .ok (.iload_n 1, 1) := by decide +kernel
theorem dL_by_26 : decode cL_by 26 = .ok (.iconst 2, 1) := by decide +kernel
theorem dL_by_27 : decode cL_by 27 = .ok (.if_icmp .ne 14, 3) := by decide +kernel
theorem dL_by_30 : decode cL_by 30 = .ok (.aload_n 0, 1) := by decide +kernel
theorem dL_by_31 : decode cL_by 31 = .ok (.iload_n 2, 1) := by decide +kernel
theorem dL_by_32 : decode cL_by 32 = .ok (.iload_n 3, 1) := by decide +kernel
theorem dL_by_33 : decode cL_by 33 = .ok (.iload 4, 2) := by decide +kernel
theorem dL_by_35 : decode cL_by 35 = .ok (.invokevirtual 64, 3) := by decide +kernel
theorem dL_by_38 : decode cL_by 38 = .ok (.goto 63, 3) := by decide +kernel
theorem dL_by_41 : decode cL_by 41 = .ok (.iload_n 1, 1) := by decide +kernel
theorem dL_by_42 : decode cL_by 42 = .ok (.iconst 3, 1) := by decide +kernel
theorem dL_by_43 : decode cL_by 43 = .ok (.if_icmp .ne 14, 3) := by decide +kernel
theorem dL_by_46 : decode cL_by 46 = .ok (.aload_n 0, 1) := by decide +kernel
theorem dL_by_47 : decode cL_by 47 = .ok (.iload_n 2, 1) := by decide +kernel
theorem dL_by_48 : decode cL_by 48 = .ok (.iload_n 3, 1) := by decide +kernel
theorem dL_by_49 : decode cL_by 49 = .ok (.iload 4, 2) := by decide +kernel
theorem dL_by_51 : decode cL_by 51 = .ok (.invokevirtual 67, 3) := by decide +kernel
theorem dL_by_54 : decode cL_by 54 = .ok (.goto 47, 3) := by decide +kernel
theorem dL_by_57 : decode cL_by 57 = .ok (.iload_n 1, 1) := by decide +kernel
theorem dL_by_58 : decode cL_by 58 = .ok (.iconst 4, 1) := by decide +kernel
theorem dL_by_59 : decode cL_by 59 = .ok (.if_icmp .ne 20, 3) := by decide +kernel
theorem dL_by_62 : decode cL_by 62 = .ok (.aload_n 0, 1) := by decide +kernel
theorem dL_by_63 : decode cL_by 63 = .ok (.iload_n 2, 1) := by decide +kernel
theorem dL_by_64 : decode cL_by 64 = .ok (.iload_n 3, 1) := by decide +kernel
theorem dL_by_65 : decode cL_by 65 = .ok (.iconst 4, 1) := by decide +kernel
theorem dL_by_66 : decode cL_by 66 = .ok (.irem, 1) := by decide +kernel
theorem dL_by_67 : decode cL_by 67 = .ok (.iload 4, 2) := by decide +kernel
theorem dL_by_69 : decode cL_by 69 = .ok (.sipush 1000, 3) := by decide +kernel
theorem dL_by_72 : decode cL_by 72 = .ok (.irem, 1) := by decide +kernel
theorem dL_by_73 : decode cL_by 73 = .ok (.invokevirtual 70, 3) := by decide +kernel
theorem dL_by_76 : decode cL_by 76 = .ok (.goto 25, 3) := by decide +kernel
theorem dL_by_79 : decode cL_by 79 = .ok (.aload_n 0, 1) := by decide +kernel
theorem dL_by_80 : decode cL_by 80 = .ok (.iload_n 2, 1) := by decide +kernel
theorem dL_by_81 : decode cL_by 81 = .ok (.iload_n 3, 1) := by decide +kernel
theorem dL_by_82 : decode cL_by 82 = .ok (.iconst 4, 1) := by decide +kernel
theorem dL_by_83 : decode cL_by 83 = .ok (.irem, 1) := by decide +kernel
theorem dL_by_84 : decode cL_by 84 = .ok (.iload 4, 2) := by decide +kernel
theorem dL_by_86 : decode cL_by 86 = .ok (.sipush 1000, 3) := by decide +kernel
theorem dL_by_89 : decode cL_by 89 = .ok (.irem, 1) := by decide +kernel
theorem dL_by_90 : decode cL_by 90 = .ok (.invokevirtual 73, 3) := by decide +kernel
theorem dL_by_93 : decode cL_by 93 = .ok (.ifCond .eq 7, 3) := by decide +kernel
theorem dL_by_96 : decode cL_by 96 = .ok (.iconst 1, 1) := by decide +kernel
theorem dL_by_97 : decode cL_by 97 = .ok (.goto 4, 3) := by decide +kernel
theorem dL_by_100 : decode cL_by 100 = .ok (.iconst 0, 1) := by decide +kernel
theorem dL_by_101 : decode cL_by 101 = .ok (.ireturn, 1) := by decide +kernel
theorem dL_by_102 : decode cL_by 102 = .ok (.astore 5, 2) := by decide +kernel
theorem dL_by_104 : decode cL_by 104 = .ok (.ldc 34, 2) := by decide +kernel
theorem dL_by_106 : decode cL_by 106 = .ok (.ireturn, 1) := by decide +kernel
theorem dL_by_107 : decode cL_by 107 = .ok (.astore 5, 2) := by decide +kernel
theorem dL_by_109 : decode cL_by 109 = .ok (.ldc 34, 2) := by decide +kernel
theorem dL_by_111 : decode cL_by 111 = .ok (.ireturn, 1) := by decide +kernel
set_option maxRecDepth 20000 in
theorem ggL_of_X2_clock : GoodIn wsL_of wsX2_clock := goodIn_ca (goodIn_ca (goodIn_r _ [8, 9, 10, 11, 12, 7, 13, 14, 15, 16, 17, 18, 19, 20, 21, 22, 23, 24, 66, 67, 68, 69, 70, 71, 72, 73, 74, 75, 76, 77, 78] (by decide +kernel) (by decide +kernel)) (goodIn_sub (fun _ h => List.mem_cons_of_mem _ (List.mem_append_left _ (List.mem_append_right _ h))) (by decide +kernel))) (goodIn_sub (fun _ h => List.mem_cons_of_mem _ (List.mem_append_right _ h)) (by decide +kernel))
set_option maxRecDepth 20000 in
theorem gL_of_X2_clock : GoodIn wsL_of (wsV RL 77 RX2 yX2_clock wsX2_clock) := goodIn_app (goodIn_of _ (by decide +kernel)) ggL_of_X2_clock
set_option maxRecDepth 20000 in
theorem ggL_of_X2_isMissed : GoodIn wsL_of wsX2_isMissed := goodIn_ca (goodIn_ca (goodIn_r _ [28, 10, 11, 12, 7, 13, 14, 15, 16, 17, 18, 19, 20, 21, 22, 23, 24, 29, 30, 31, 32, 9, 33, 34, 35, 36, 37, 38, 74, 75, 76, 77, 78, 66, 67, 68, 69, 70, 71, 72, 73] (by decide +kernel) (by decide +kernel)) (goodIn_sub (fun _ h => List.mem_cons_of_mem _ (List.mem_append_left _ (List.mem_append_right _ h))) (by decide +kernel))) (goodIn_sub (fun _ h => List.mem_cons_of_mem _ (List.mem_append_right _ h)) (by decide +kernel))
set_option maxRecDepth 20000 in
theorem gL_of_X2_isMissed : GoodIn wsL_of (wsV RL 80 RX2 yX2_isMissed wsX2_isMissed) := goodIn_app (goodIn_of _ (by decide +kernel)) ggL_of_X2_isMissed
set_option maxRecDepth 20000 in
theorem ggL_of_X2_stateOf : GoodIn wsL_of wsX2_stateOf := goodIn_ca (goodIn_r _ [42, 43, 10, 11, 12, 7, 13, 14, 15, 16, 66, 67, 68, 69, 70, 71, 72, 73, 74, 75, 76, 77, 78] (by decide +kernel) (by decide +kernel)) (goodIn_sub (fun _ h => List.mem_cons_of_mem _ (List.mem_append_left _ (List.mem_append_right _ h))) (by decide +kernel))
set_option maxRecDepth 20000 in
theorem gL_of_X2_stateOf : GoodIn wsL_of (wsV RL 84 RX2 yX2_stateOf wsX2_stateOf) := goodIn_app (goodIn_of _ (by decide +kernel)) ggL_of_X2_stateOf
set_option maxRecDepth 20000 in
theorem ggL_of_X2_step : GoodIn wsL_of wsX2_step := goodIn_ca (goodIn_r _ [47, 10, 11, 12, 7, 13, 14, 15, 16, 48, 49, 50, 51, 52, 53, 54, 55, 56, 57, 58, 59, 9, 60, 61, 62, 63, 64, 65, 33, 34, 35, 36, 37, 38, 74, 75, 76, 77, 78, 66, 67, 68, 69, 70, 71, 72, 73] (by decide +kernel) (by decide +kernel)) (goodIn_sub (fun _ h => List.mem_cons_of_mem _ (List.mem_append_left _ (List.mem_append_right _ h))) (by decide +kernel))
set_option maxRecDepth 20000 in
theorem gL_of_X2_step : GoodIn wsL_of (wsV RL 87 RX2 yX2_step wsX2_step) := goodIn_app (goodIn_of _ (by decide +kernel)) ggL_of_X2_step
theorem dL_of_0 : decode cL_of 0 = .ok (.iload_n 1, 1) := by decide +kernel
theorem dL_of_1 : decode cL_of 1 = .ok (.iconst 3, 1) := by decide +kernel
theorem dL_of_2 : decode cL_of 2 = .ok (.if_icmp .ge 12, 3) := by decide +kernel
theorem dL_of_5 : decode cL_of 5 = .ok (.aload_n 0, 1) := by decide +kernel
theorem dL_of_6 : decode cL_of 6 = .ok (.iload_n 2, 1) := by decide +kernel
theorem dL_of_7 : decode cL_of 7 = .ok (.iload_n 1, 1) := by decide +kernel
theorem dL_of_8 : decode cL_of 8 = .ok (.invokevirtual 77, 3) := by decide +kernel
theorem dL_of_11 : decode cL_of 11 = .ok (.goto 47, 3) := by decide +kernel
theorem dL_of_14 : decode cL_of 14 = .ok (.iload_n 1, 1) := by decide +kernel
theorem dL_of_15 : decode cL_of 15 = .ok (.bipush 6, 2) := by decide +kernel
theorem dL_of_17 : decode cL_of 17 = .ok (.if_icmp .ge 22, 3) := by decide +kernel
theorem dL_of_20 : decode cL_of 20 = .ok (.aload_n 0, 1) := by decide +kernel
theorem dL_of_21 : decode cL_of 21 = .ok (.iload_n 2, 1) := by decide +kernel
theorem dL_of_22 : decode cL_of 22 = .ok (.iload_n 1, 1) := by decide +kernel
theorem dL_of_23 : decode cL_of 23 = .ok (.iconst 3, 1) := by decide +kernel
theorem dL_of_24 : decode cL_of 24 = .ok (.isub, 1) := by decide +kernel
theorem dL_of_25 : decode cL_of 25 = .ok (.invokevirtual 80, 3) := by decide +kernel
theorem dL_of_28 : decode cL_of 28 = .ok (.ifCond .eq 7, 3) := by decide +kernel
theorem dL_of_31 : decode cL_of 31 = .ok (.iconst 1, 1) := by decide +kernel
theorem dL_of_32 : decode cL_of 32 = .ok (.goto 26, 3) := by decide +kernel
theorem dL_of_35 : decode cL_of 35 = .ok (.iconst 0, 1) := by decide +kernel
theorem dL_of_36 : decode cL_of 36 = .ok (.goto 22, 3) := by decide +kernel
theorem dL_of_39 : decode cL_of 39 = .ok (.iload_n 1, 1) := by decide +kernel
theorem dL_of_40 : decode cL_of 40 = .ok (.bipush 6, 2) := by decide +kernel
theorem dL_of_42 : decode cL_of 42 = .ok (.if_icmp .ne 11, 3) := by decide +kernel
theorem dL_of_45 : decode cL_of 45 = .ok (.aload_n 0, 1) := by decide +kernel
theorem dL_of_46 : decode cL_of 46 = .ok (.iload_n 2, 1) := by decide +kernel
theorem dL_of_47 : decode cL_of 47 = .ok (.invokevirtual 84, 3) := by decide +kernel
theorem dL_of_50 : decode cL_of 50 = .ok (.goto 8, 3) := by decide +kernel
theorem dL_of_53 : decode cL_of 53 = .ok (.aload_n 0, 1) := by decide +kernel
theorem dL_of_54 : decode cL_of 54 = .ok (.iload_n 2, 1) := by decide +kernel
theorem dL_of_55 : decode cL_of 55 = .ok (.invokevirtual 87, 3) := by decide +kernel
theorem dL_of_58 : decode cL_of 58 = .ok (.ireturn, 1) := by decide +kernel
theorem dL_of_59 : decode cL_of 59 = .ok (.astore_n 3, 1) := by decide +kernel
theorem dL_of_60 : decode cL_of 60 = .ok (.ldc 34, 2) := by decide +kernel
theorem dL_of_62 : decode cL_of 62 = .ok (.ireturn, 1) := by decide +kernel
theorem dL_of_63 : decode cL_of 63 = .ok (.astore_n 3, 1) := by decide +kernel
theorem dL_of_64 : decode cL_of 64 = .ok (.ldc 34, 2) := by decide +kernel
theorem dL_of_66 : decode cL_of 66 = .ok (.ireturn, 1) := by decide +kernel
set_option maxRecDepth 20000 in
theorem ggL_law_X2_init : GoodIn wsL_law wsX2_init := goodIn_r _ [5, 6, 7, 8, 9, 10, 11, 12, 13, 14, 15, 16, 17, 18, 19, 20, 21, 22, 23, 24, 25, 26, 27, 28, 29, 30, 293, 294, 295, 296, 297, 298, 299, 300, 301, 302, 303, 304, 305, 306] (by decide +kernel) (by decide +kernel)
set_option maxRecDepth 20000 in
theorem gL_law_X2_init : GoodIn wsL_law (wsX2_init) := ggL_law_X2_init
set_option maxRecDepth 20000 in
theorem ggL_law_L_drawn : GoodIn wsL_law wsL_drawn := goodIn_r _ [34, 35] (by decide +kernel) (by decide +kernel)
set_option maxRecDepth 20000 in
theorem gL_law_L_drawn : GoodIn wsL_law (va_wsS RL 91 yL_drawn wsL_drawn) := goodIn_app (goodIn_of _ (by decide +kernel)) ggL_law_L_drawn
set_option maxRecDepth 20000 in
theorem ggL_law_L_set : GoodIn wsL_law wsL_set := goodIn_ca (goodIn_ca (goodIn_ca (goodIn_r _ [38, 39, 40, 41, 42, 43, 44, 45, 2, 46, 47, 48, 49, 50, 51, 52, 53, 54, 55, 10, 56, 57, 58, 59, 60, 61, 62, 63, 64, 65, 66, 67, 68, 69, 70, 71, 18, 72, 28, 25, 26, 27, 73, 74, 75, 76, 77, 78, 79, 80, 81, 12, 82, 83, 84, 85, 16, 14, 86, 87, 88, 89, 90, 91, 92, 93, 94, 95, 96, 97, 98, 99, 100, 101, 102, 103, 104, 105, 106, 22, 24, 23, 107, 108, 109, 110, 111, 112, 113, 114, 115, 116, 117, 118, 119, 120, 121, 122, 123, 124, 125, 126, 127, 128, 129, 130, 131, 132, 133, 134, 135, 136, 137, 138, 139, 15, 13, 140, 141, 142, 143, 144, 145, 146, 147, 7, 8, 148, 11, 149, 150, 298, 299, 300, 301, 302, 303, 304, 305, 306, 293, 294, 295, 296, 297, 307, 308, 309, 310, 311, 312, 313, 314] (by decide +kernel) (by decide +kernel)) (goodIn_sub (fun _ h => List.mem_append_left _ (List.mem_append_left _ (List.mem_append_right _ h))) (by decide +kernel))) (goodIn_sub (fun _ h => List.mem_append_left _ (List.mem_append_right _ h)) (by decide +kernel))) (goodIn_sub (fun _ h => List.mem_append_right _ h) (by decide +kernel))
set_option maxRecDepth 20000 in
theorem gL_law_L_set : GoodIn wsL_law (va_wsS RL 97 yL_set wsL_set) := goodIn_app (goodIn_of _ (by decide +kernel)) ggL_law_L_set
set_option maxRecDepth 20000 in
theorem ggL_law_L_does : GoodIn wsL_law wsL_does := goodIn_ca (goodIn_ca (goodIn_ca (goodIn_r _ [153, 39, 40, 41, 42, 154, 155, 156, 2, 157, 158, 159, 160, 161, 162, 163, 54, 55, 14, 56, 57, 58, 59, 60, 61, 62, 63, 164, 126, 127, 89, 128, 129, 73, 74, 75, 76, 77, 165, 166, 167, 168, 169, 170, 171, 172, 173, 174, 175, 176, 177, 12, 178, 179, 180, 181, 182, 183, 135, 184, 185, 186, 187, 97, 148, 188, 189, 190, 191, 192, 16, 193, 194, 195, 18, 196, 28, 25, 26, 27, 197, 198, 199, 200, 201, 202, 203, 204, 205, 206, 207, 208, 209, 210, 211, 212, 213, 214, 215, 216, 217, 218, 219, 112, 109, 113, 220, 221, 222, 223, 134, 307, 308, 309, 310, 311, 312, 313, 314, 293, 294, 295, 296, 297, 298, 299, 300, 301, 302, 303, 304, 305, 306] (by decide +kernel) (by decide +kernel)) (goodIn_sub (fun _ h => List.mem_append_left _ (List.mem_append_left _ (List.mem_append_right _ h))) (by decide +kernel))) (goodIn_sub (fun _ h => List.mem_append_left _ (List.mem_append_right _ h)) (by decide +kernel))) (goodIn_sub (fun _ h => List.mem_append_right _ h) (by decide +kernel))
set_option maxRecDepth 20000 in
theorem gL_law_L_does : GoodIn wsL_law (va_wsS RL 101 yL_does wsL_does) := goodIn_app (goodIn_of _ (by decide +kernel)) ggL_law_L_does
set_option maxRecDepth 20000 in
theorem ggL_law_X2_time : GoodIn wsL_law wsX2_time := goodIn_r _ [227, 16, 293, 294, 295, 296, 297] (by decide +kernel) (by decide +kernel)
set_option maxRecDepth 20000 in
theorem gL_law_X2_time : GoodIn wsL_law (wsV RL 105 RX2 yX2_time wsX2_time) := goodIn_app (goodIn_of _ (by decide +kernel)) ggL_law_X2_time
set_option maxRecDepth 20000 in
theorem ggL_law_X2_mostUrgent : GoodIn wsL_law wsX2_mostUrgent := goodIn_r _ [231, 15, 14, 178, 232, 94, 95, 89, 96, 97, 98, 233, 234, 235, 2, 236, 237, 108, 109, 110, 238, 239, 240, 241, 173, 164, 126, 127, 128, 129, 174, 175, 176, 177, 12, 293, 294, 295, 296, 297, 307, 308, 309, 310, 311, 312, 313, 314] (by decide +kernel) (by decide +kernel)
set_option maxRecDepth 20000 in
theorem gL_law_X2_mostUrgent : GoodIn wsL_law (wsV RL 109 RX2 yX2_mostUrgent wsX2_mostUrgent) := goodIn_app (goodIn_of _ (by decide +kernel)) ggL_law_X2_mostUrgent
set_option maxRecDepth 20000 in
theorem ggL_law_L_of : GoodIn wsL_law wsL_of := goodIn_ca (goodIn_ca (goodIn_r _ [244, 39, 40, 42, 245, 246, 247, 2, 248, 173, 160, 161, 162, 163, 54, 55, 14, 56, 57, 58, 59, 60, 61, 62, 63, 249, 250, 251, 252, 169, 170, 171, 172, 174, 175, 176, 177, 12, 178, 253, 254, 255, 256, 158, 257, 258, 259, 260, 233, 234, 235, 236, 237, 108, 109, 110, 238, 239, 240, 241, 164, 126, 127, 89, 128, 129, 307, 308, 309, 310, 311, 312, 313, 314, 293, 294, 295, 296, 297] (by decide +kernel) (by decide +kernel)) (goodIn_sub (fun _ h => List.mem_append_left _ (List.mem_append_left _ (List.mem_append_right _ h))) (by decide +kernel))) (goodIn_sub (fun _ h => List.mem_append_left _ (List.mem_append_right _ h)) (by decide +kernel))
set_option maxRecDepth 20000 in
theorem gL_law_L_of : GoodIn wsL_law (va_wsS RL 112 yL_of wsL_of) := goodIn_app (goodIn_of _ (by decide +kernel)) ggL_law_L_of
set_option maxRecDepth 20000 in
theorem ggL_law_L_by : GoodIn wsL_law wsL_by := goodIn_ca (goodIn_ca (goodIn_r _ [263, 39, 40, 42, 264, 265, 266, 2, 267, 134, 50, 51, 52, 53, 54, 55, 10, 268, 269, 270, 271, 135, 272, 273, 274, 275, 56, 57, 58, 59, 60, 61, 62, 63, 276, 100, 101, 18, 102, 103, 104, 105, 106, 22, 24, 23, 107, 108, 109, 110, 111, 112, 113, 114, 115, 116, 117, 118, 119, 120, 121, 122, 123, 124, 277, 278, 279, 280, 281, 282, 283, 284, 285, 286, 287, 288, 141, 142, 143, 193, 194, 195, 196, 28, 25, 26, 27, 289, 290, 291, 292, 298, 299, 300, 301, 302, 303, 304, 305, 306, 293, 294, 295, 296, 297] (by decide +kernel) (by decide +kernel)) (goodIn_sub (fun _ h => List.mem_append_left _ (List.mem_append_left _ (List.mem_append_right _ h))) (by decide +kernel))) (goodIn_sub (fun _ h => List.mem_append_left _ (List.mem_append_right _ h)) (by decide +kernel))
set_option maxRecDepth 20000 in
theorem gL_law_L_by : GoodIn wsL_law (va_wsS RL 116 yL_by wsL_by) := goodIn_app (goodIn_of _ (by decide +kernel)) ggL_law_L_by
theorem dL_law_0 : decode cL_law 0 = .ok (.new 9, 3) := by decide +kernel
theorem dL_law_3 : decode cL_law 3 = .ok (.dup, 1) := by decide +kernel
theorem dL_law_4 : decode cL_law 4 = .ok (.invokespecial 90, 3) := by decide +kernel
theorem dL_law_7 : decode cL_law 7 = .ok (.astore_n 1, 1) := by decide +kernel
theorem dL_law_8 : decode cL_law 8 = .ok (.new 9, 3) := by decide +kernel
theorem dL_law_11 : decode cL_law 11 = .ok (.dup, 1) := by decide +kernel
theorem dL_law_12 : decode cL_law 12 = .ok (.invokespecial 90, 3) := by decide +kernel
theorem dL_law_15 : decode cL_law 15 = .ok (.astore_n 2, 1) := by decide +kernel
theorem dL_law_16 : decode cL_law 16 = .ok (.iconst 1, 1) := by decide +kernel
theorem dL_law_17 : decode cL_law 17 = .ok (.aload_n 0, 1) := by decide +kernel
theorem dL_law_18 : decode cL_law 18 = .ok (.iconst 0, 1) := by decide +kernel
theorem dL_law_19 : decode cL_law 19 = .ok (.invokestatic 91, 3) := by decide +kernel
theorem dL_law_22 : decode cL_law 22 = .ok (.iconst 3, 1) := by decide +kernel
theorem dL_law_23 : decode cL_law 23 = .ok (.irem, 1) := by decide +kernel
theorem dL_law_24 : decode cL_law 24 = .ok (.iadd, 1) := by decide +kernel
theorem dL_law_25 : decode cL_law 25 = .ok (.istore_n 3, 1) := by decide +kernel
theorem dL_law_26 : decode cL_law 26 = .ok (.iconst 0, 1) := by decide +kernel
theorem dL_law_27 : decode cL_law 27 = .ok (.istore 4, 2) := by decide +kernel
theorem dL_law_29 : decode cL_law 29 = .ok (.iconst 1, 1) := by decide +kernel
theorem dL_law_30 : decode cL_law 30 = .ok (.istore 5, 2) := by decide +kernel
theorem dL_law_32 : decode cL_law 32 = .ok (.iconst 1, 1) := by decide +kernel
theorem dL_law_33 : decode cL_law 33 = .ok (.istore 6, 2) := by decide +kernel
theorem dL_law_35 : decode cL_law 35 = .ok (.iload 6, 2) := by decide +kernel
theorem dL_law_37 : decode cL_law 37 = .ok (.bipush 120, 2) := by decide +kernel
theorem dL_law_39 : decode cL_law 39 = .ok (.if_icmp .ge 792, 3) := by decide +kernel
theorem dL_law_42 : decode cL_law 42 = .ok (.iload 5, 2) := by decide +kernel
theorem dL_law_44 : decode cL_law 44 = .ok (.ifCond .eq 787, 3) := by decide +kernel
theorem dL_law_47 : decode cL_law 47 = .ok (.aload_n 0, 1) := by decide +kernel
theorem dL_law_48 : decode cL_law 48 = .ok (.iload 6, 2) := by decide +kernel
theorem dL_law_50 : decode cL_law 50 = .ok (.bipush 60, 2) := by decide +kernel
theorem dL_law_52 : decode cL_law 52 = .ok (.irem, 1) := by decide +kernel
theorem dL_law_53 : decode cL_law 53 = .ok (.invokestatic 91, 3) := by decide +kernel
theorem dL_law_56 : decode cL_law 56 = .ok (.iconst 1, 1) := by decide +kernel
theorem dL_law_57 : decode cL_law 57 = .ok (.iload 6, 2) := by decide +kernel
theorem dL_law_59 : decode cL_law 59 = .ok (.bipush 60, 2) := by decide +kernel
theorem dL_law_61 : decode cL_law 61 = .ok (.idiv, 1) := by decide +kernel
theorem dL_law_62 : decode cL_law 62 = .ok (.iadd, 1) := by decide +kernel
theorem dL_law_63 : decode cL_law 63 = .ok (.idiv, 1) := by decide +kernel
theorem dL_law_64 : decode cL_law 64 = .ok (.bipush 7, 2) := by decide +kernel
theorem dL_law_66 : decode cL_law 66 = .ok (.iload 6, 2) := by decide +kernel
theorem dL_law_68 : decode cL_law 68 = .ok (.bipush 60, 2) := by decide +kernel
theorem dL_law_70 : decode cL_law 70 = .ok (.idiv, 1) := by decide +kernel
theorem dL_law_71 : decode cL_law 71 = .ok (.imul, 1) := by decide +kernel
theorem dL_law_72 : decode cL_law 72 = .ok (.iadd, 1) := by decide +kernel
theorem dL_law_73 : decode cL_law 73 = .ok (.istore 7, 2) := by decide +kernel
theorem dL_law_75 : decode cL_law 75 = .ok (.iload 7, 2) := by decide +kernel
theorem dL_law_77 : decode cL_law 77 = .ok (.bipush 18, 2) := by decide +kernel
theorem dL_law_79 : decode cL_law 79 = .ok (.irem, 1) := by decide +kernel
theorem dL_law_80 : decode cL_law 80 = .ok (.istore 8, 2) := by decide +kernel
theorem dL_law_82 : decode cL_law 82 = .ok (.iload 7, 2) := by decide +kernel
theorem dL_law_84 : decode cL_law 84 = .ok (.bipush 18, 2) := by decide +kernel
theorem dL_law_86 : decode cL_law 86 = .ok (.idiv, 1) := by decide +kernel
theorem dL_law_87 : decode cL_law 87 = .ok (.istore 9, 2) := by decide +kernel
theorem dL_law_89 : decode cL_law 89 = .ok (.iload 9, 2) := by decide +kernel
theorem dL_law_91 : decode cL_law 91 = .ok (.iconst 4, 1) := by decide +kernel
theorem dL_law_92 : decode cL_law 92 = .ok (.irem, 1) := by decide +kernel
theorem dL_law_93 : decode cL_law 93 = .ok (.istore 10, 2) := by decide +kernel
theorem dL_law_95 : decode cL_law 95 = .ok (.iload 10, 2) := by decide +kernel
theorem dL_law_97 : decode cL_law 97 = .ok (.iload_n 3, 1) := by decide +kernel
theorem dL_law_98 : decode cL_law 98 = .ok (.iadd, 1) := by decide +kernel
theorem dL_law_99 : decode cL_law 99 = .ok (.iconst 4, 1) := by decide +kernel
theorem dL_law_100 : decode cL_law 100 = .ok (.irem, 1) := by decide +kernel
theorem dL_law_101 : decode cL_law 101 = .ok (.istore 11, 2) := by decide +kernel
theorem dL_law_103 : decode cL_law 103 = .ok (.iload 9, 2) := by decide +kernel
theorem dL_law_105 : decode cL_law 105 = .ok (.iconst 4, 1) := by decide +kernel
theorem dL_law_106 : decode cL_law 106 = .ok (.idiv, 1) := by decide +kernel
theorem dL_law_107 : decode cL_law 107 = .ok (.bipush 40, 2) := by decide +kernel
theorem dL_law_109 : decode cL_law 109 = .ok (.irem, 1) := by decide +kernel
theorem dL_law_110 : decode cL_law 110 = .ok (.istore 12, 2) := by decide +kernel
theorem dL_law_112 : decode cL_law 112 = .ok (.iload 8, 2) := by decide +kernel
theorem dL_law_114 : decode cL_law 114 = .ok (.iconst 2, 1) := by decide +kernel
theorem dL_law_115 : decode cL_law 115 = .ok (.if_icmp .ge 123, 3) := by decide +kernel
theorem dL_law_118 : decode cL_law 118 = .ok (.iload 9, 2) := by decide +kernel
theorem dL_law_120 : decode cL_law 120 = .ok (.sipush 160, 3) := by decide +kernel
theorem dL_law_123 : decode cL_law 123 = .ok (.idiv, 1) := by decide +kernel
theorem dL_law_124 : decode cL_law 124 = .ok (.bipush 24, 2) := by decide +kernel
theorem dL_law_126 : decode cL_law 126 = .ok (.irem, 1) := by decide +kernel
theorem dL_law_127 : decode cL_law 127 = .ok (.istore 13, 2) := by decide +kernel
theorem dL_law_129 : decode cL_law 129 = .ok (.iload 8, 2) := by decide +kernel
theorem dL_law_131 : decode cL_law 131 = .ok (.ifCond .ne 8, 3) := by decide +kernel
theorem dL_law_134 : decode cL_law 134 = .ok (.iload 13, 2) := by decide +kernel
theorem dL_law_136 : decode cL_law 136 = .ok (.goto 12, 3) := by decide +kernel
theorem dL_law_139 : decode cL_law 139 = .ok (.iload 9, 2) := by decide +kernel
theorem dL_law_141 : decode cL_law 141 = .ok (.sipush 160, 3) := by decide +kernel
theorem dL_law_144 : decode cL_law 144 = .ok (.idiv, 1) := by decide +kernel
theorem dL_law_145 : decode cL_law 145 = .ok (.bipush 50, 2) := by decide +kernel
theorem dL_law_147 : decode cL_law 147 = .ok (.irem, 1) := by decide +kernel
theorem dL_law_148 : decode cL_law 148 = .ok (.istore 14, 2) := by decide +kernel
theorem dL_law_150 : decode cL_law 150 = .ok (.iload 8, 2) := by decide +kernel
theorem dL_law_152 : decode cL_law 152 = .ok (.ifCond .ne 20, 3) := by decide +kernel
theorem dL_law_155 : decode cL_law 155 = .ok (.iload 13, 2) := by decide +kernel
theorem dL_law_157 : decode cL_law 157 = .ok (.iload 9, 2) := by decide +kernel
theorem dL_law_159 : decode cL_law 159 = .ok (.bipush 7, 2) := by decide +kernel
theorem dL_law_161 : decode cL_law 161 = .ok (.idiv, 1) := by decide +kernel
theorem dL_law_162 : decode cL_law 162 = .ok (.bipush 24, 2) := by decide +kernel
theorem dL_law_164 : decode cL_law 164 = .ok (.iload 13, 2) := by decide +kernel
theorem dL_law_166 : decode cL_law 166 = .ok (.isub, 1) := by decide +kernel
theorem dL_law_167 : decode cL_law 167 = .ok (.irem, 1) := by decide +kernel
theorem dL_law_168 : decode cL_law 168 = .ok (.iadd, 1) := by decide +kernel
theorem dL_law_169 : decode cL_law 169 = .ok (.goto 14, 3) := by decide +kernel
theorem dL_law_172 : decode cL_law 172 = .ok (.iload 14, 2) := by decide +kernel
theorem dL_law_174 : decode cL_law 174 = .ok (.iload 9, 2) := by decide +kernel
theorem dL_law_176 : decode cL_law 176 = .ok (.bipush 7, 2) := by decide +kernel
theorem dL_law_178 : decode cL_law 178 = .ok (.idiv, 1) := by decide +kernel
theorem dL_law_179 : decode cL_law 179 = .ok (.bipush 60, 2) := by decide +kernel
theorem dL_law_181 : decode cL_law 181 = .ok (.irem, 1) := by decide +kernel
theorem dL_law_182 : decode cL_law 182 = .ok (.iadd, 1) := by decide +kernel
theorem dL_law_183 : decode cL_law 183 = .ok (.istore 15, 2) := by decide +kernel
theorem dL_law_185 : decode cL_law 185 = .ok (.aload_n 1, 1) := by decide +kernel
theorem dL_law_186 : decode cL_law 186 = .ok (.iload 8, 2) := by decide +kernel
theorem dL_law_188 : decode cL_law 188 = .ok (.iload 10, 2) := by decide +kernel
theorem dL_law_190 : decode cL_law 190 = .ok (.iload 9, 2) := by decide +kernel
theorem dL_law_192 : decode cL_law 192 = .ok (.iconst 4, 1) := by decide +kernel
theorem dL_law_193 : decode cL_law 193 = .ok (.idiv, 1) := by decide +kernel
theorem dL_law_194 : decode cL_law 194 = .ok (.sipush 129, 3) := by decide +kernel
theorem dL_law_197 : decode cL_law 197 = .ok (.irem, 1) := by decide +kernel
theorem dL_law_198 : decode cL_law 198 = .ok (.iload 14, 2) := by decide +kernel
theorem dL_law_200 : decode cL_law 200 = .ok (.iload 15, 2) := by decide +kernel
theorem dL_law_202 : decode cL_law 202 = .ok (.invokestatic 97, 3) := by decide +kernel
theorem dL_law_205 : decode cL_law 205 = .ok (.aload_n 2, 1) := by decide +kernel
theorem dL_law_206 : decode cL_law 206 = .ok (.iload 8, 2) := by decide +kernel
theorem dL_law_208 : decode cL_law 208 = .ok (.iload 11, 2) := by decide +kernel
theorem dL_law_210 : decode cL_law 210 = .ok (.iload 9, 2) := by decide +kernel
theorem dL_law_212 : decode cL_law 212 = .ok (.iconst 4, 1) := by decide +kernel
theorem dL_law_213 : decode cL_law 213 = .ok (.idiv, 1) := by decide +kernel
theorem dL_law_214 : decode cL_law 214 = .ok (.sipush 129, 3) := by decide +kernel
theorem dL_law_217 : decode cL_law 217 = .ok (.irem, 1) := by decide +kernel
theorem dL_law_218 : decode cL_law 218 = .ok (.iload 14, 2) := by decide +kernel
theorem dL_law_220 : decode cL_law 220 = .ok (.iload 15, 2) := by decide +kernel
theorem dL_law_222 : decode cL_law 222 = .ok (.invokestatic 97, 3) := by decide +kernel
theorem dL_law_225 : decode cL_law 225 = .ok (.if_icmp .ne 7, 3) := by decide +kernel
theorem dL_law_228 : decode cL_law 228 = .ok (.iconst 1, 1) := by decide +kernel
theorem dL_law_229 : decode cL_law 229 = .ok (.goto 4, 3) := by decide +kernel
theorem dL_law_232 : decode cL_law 232 = .ok (.iconst 0, 1) := by decide +kernel
theorem dL_law_233 : decode cL_law 233 = .ok (.istore 5, 2) := by decide +kernel
theorem dL_law_235 : decode cL_law 235 = .ok (.goto 399, 3) := by decide +kernel
theorem dL_law_238 : decode cL_law 238 = .ok (.iload 8, 2) := by decide +kernel
theorem dL_law_240 : decode cL_law 240 = .ok (.iconst 2, 1) := by decide +kernel
theorem dL_law_241 : decode cL_law 241 = .ok (.if_icmp .ne 68, 3) := by decide +kernel
theorem dL_law_244 : decode cL_law 244 = .ok (.aload_n 1, 1) := by decide +kernel
theorem dL_law_245 : decode cL_law 245 = .ok (.iconst 2, 1) := by decide +kernel
theorem dL_law_246 : decode cL_law 246 = .ok (.iconst 0, 1) := by decide +kernel
theorem dL_law_247 : decode cL_law 247 = .ok (.iload 9, 2) := by decide +kernel
theorem dL_law_249 : decode cL_law 249 = .ok (.iconst 3, 1) := by decide +kernel
theorem dL_law_250 : decode cL_law 250 = .ok (.irem, 1) := by decide +kernel
theorem dL_law_251 : decode cL_law 251 = .ok (.iload 9, 2) := by decide +kernel
theorem dL_law_253 : decode cL_law 253 = .ok (.iconst 3, 1) := by decide +kernel
theorem dL_law_254 : decode cL_law 254 = .ok (.idiv, 1) := by decide +kernel
theorem dL_law_255 : decode cL_law 255 = .ok (.iconst 3, 1) := by decide +kernel
theorem dL_law_256 : decode cL_law 256 = .ok (.irem, 1) := by decide +kernel
theorem dL_law_257 : decode cL_law 257 = .ok (.iconst 1, 1) := by decide +kernel
theorem dL_law_258 : decode cL_law 258 = .ok (.iload 9, 2) := by decide +kernel
theorem dL_law_260 : decode cL_law 260 = .ok (.bipush 9, 2) := by decide +kernel
theorem dL_law_262 : decode cL_law 262 = .ok (.idiv, 1) := by decide +kernel
theorem dL_law_263 : decode cL_law 263 = .ok (.bipush 40, 2) := by decide +kernel
theorem dL_law_265 : decode cL_law 265 = .ok (.irem, 1) := by decide +kernel
theorem dL_law_266 : decode cL_law 266 = .ok (.iadd, 1) := by decide +kernel
theorem dL_law_267 : decode cL_law 267 = .ok (.invokestatic 97, 3) := by decide +kernel
theorem dL_law_270 : decode cL_law 270 = .ok (.aload_n 2, 1) := by decide +kernel
theorem dL_law_271 : decode cL_law 271 = .ok (.iconst 2, 1) := by decide +kernel
theorem dL_law_272 : decode cL_law 272 = .ok (.iconst 0, 1) := by decide +kernel
theorem dL_law_273 : decode cL_law 273 = .ok (.iload 9, 2) := by decide +kernel
theorem dL_law_275 : decode cL_law 275 = .ok (.iconst 3, 1) := by decide +kernel
theorem dL_law_276 : decode cL_law 276 = .ok (.irem, 1) := by decide +kernel
theorem dL_law_277 : decode cL_law 277 = .ok (.iload 9, 2) := by decide +kernel
theorem dL_law_279 : decode cL_law 279 = .ok (.iconst 3, 1) := by decide +kernel
theorem dL_law_280 : decode cL_law 280 = .ok (.idiv, 1) := by decide +kernel
theorem dL_law_281 : decode cL_law 281 = .ok (.iconst 3, 1) := by decide +kernel
theorem dL_law_282 : decode cL_law 282 = .ok (.irem, 1) := by decide +kernel
theorem dL_law_283 : decode cL_law 283 = .ok (.iconst 1, 1) := by decide +kernel
theorem dL_law_284 : decode cL_law 284 = .ok (.iload 9, 2) := by decide +kernel
theorem dL_law_286 : decode cL_law 286 = .ok (.bipush 9, 2) := by decide +kernel
theorem dL_law_288 : decode cL_law 288 = .ok (.idiv, 1) := by decide +kernel
theorem dL_law_289 : decode cL_law 289 = .ok (.bipush 40, 2) := by decide +kernel
theorem dL_law_291 : decode cL_law 291 = .ok (.irem, 1) := by decide +kernel
theorem dL_law_292 : decode cL_law 292 = .ok (.iadd, 1) := by decide +kernel
theorem dL_law_293 : decode cL_law 293 = .ok (.invokestatic 97, 3) := by decide +kernel
theorem dL_law_296 : decode cL_law 296 = .ok (.if_icmp .ne 7, 3) := by decide +kernel
theorem dL_law_299 : decode cL_law 299 = .ok (.iconst 1, 1) := by decide +kernel
theorem dL_law_300 : decode cL_law 300 = .ok (.goto 4, 3) := by decide +kernel
theorem dL_law_303 : decode cL_law 303 = .ok (.iconst 0, 1) := by decide +kernel
theorem dL_law_304 : decode cL_law 304 = .ok (.istore 5, 2) := by decide +kernel
theorem dL_law_306 : decode cL_law 306 = .ok (.goto 328, 3) := by decide +kernel
theorem dL_law_309 : decode cL_law 309 = .ok (.iload 8, 2) := by decide +kernel
theorem dL_law_311 : decode cL_law 311 = .ok (.bipush 7, 2) := by decide +kernel
theorem dL_law_313 : decode cL_law 313 = .ok (.if_icmp .ge 70, 3) := by decide +kernel
theorem dL_law_316 : decode cL_law 316 = .ok (.iload 9, 2) := by decide +kernel
theorem dL_law_318 : decode cL_law 318 = .ok (.bipush 8, 2) := by decide +kernel
theorem dL_law_320 : decode cL_law 320 = .ok (.irem, 1) := by decide +kernel
theorem dL_law_321 : decode cL_law 321 = .ok (.ifCond .ne 17, 3) := by decide +kernel
theorem dL_law_324 : decode cL_law 324 = .ok (.iconst 1, 1) := by decide +kernel
theorem dL_law_325 : decode cL_law 325 = .ok (.iload 9, 2) := by decide +kernel
theorem dL_law_327 : decode cL_law 327 = .ok (.bipush 8, 2) := by decide +kernel
theorem dL_law_329 : decode cL_law 329 = .ok (.idiv, 1) := by decide +kernel
theorem dL_law_330 : decode cL_law 330 = .ok (.sipush 800, 3) := by decide +kernel
theorem dL_law_333 : decode cL_law 333 = .ok (.irem, 1) := by decide +kernel
theorem dL_law_334 : decode cL_law 334 = .ok (.iadd, 1) := by decide +kernel
theorem dL_law_335 : decode cL_law 335 = .ok (.goto 13, 3) := by decide +kernel
theorem dL_law_338 : decode cL_law 338 = .ok (.iconst 1, 1) := by decide +kernel
theorem dL_law_339 : decode cL_law 339 = .ok (.iload 9, 2) := by decide +kernel
theorem dL_law_341 : decode cL_law 341 = .ok (.bipush 8, 2) := by decide +kernel
theorem dL_law_343 : decode cL_law 343 = .ok (.idiv, 1) := by decide +kernel
theorem dL_law_344 : decode cL_law 344 = .ok (.bipush 14, 2) := by decide +kernel
theorem dL_law_346 : decode cL_law 346 = .ok (.irem, 1) := by decide +kernel
theorem dL_law_347 : decode cL_law 347 = .ok (.iadd, 1) := by decide +kernel
theorem dL_law_348 : decode cL_law 348 = .ok (.istore 13, 2) := by decide +kernel
theorem dL_law_350 : decode cL_law 350 = .ok (.aload_n 1, 1) := by decide +kernel
theorem dL_law_351 : decode cL_law 351 = .ok (.iconst 3, 1) := by decide +kernel
theorem dL_law_352 : decode cL_law 352 = .ok (.iconst 0, 1) := by decide +kernel
theorem dL_law_353 : decode cL_law 353 = .ok (.iload 13, 2) := by decide +kernel
theorem dL_law_355 : decode cL_law 355 = .ok (.iconst 0, 1) := by decide +kernel
theorem dL_law_356 : decode cL_law 356 = .ok (.iconst 0, 1) := by decide +kernel
theorem dL_law_357 : decode cL_law 357 = .ok (.invokestatic 97, 3) := by decide +kernel
theorem dL_law_360 : decode cL_law 360 = .ok (.aload_n 2, 1) := by decide +kernel
theorem dL_law_361 : decode cL_law 361 = .ok (.iconst 3, 1) := by decide +kernel
theorem dL_law_362 : decode cL_law 362 = .ok (.iconst 0, 1) := by decide +kernel
theorem dL_law_363 : decode cL_law 363 = .ok (.iload 13, 2) := by decide +kernel
theorem dL_law_365 : decode cL_law 365 = .ok (.iconst 0, 1) := by decide +kernel
theorem dL_law_366 : decode cL_law 366 = .ok (.iconst 0, 1) := by decide +kernel
theorem dL_law_367 : decode cL_law 367 = .ok (.invokestatic 97, 3) := by decide +kernel
theorem dL_law_370 : decode cL_law 370 = .ok (.if_icmp .ne 7, 3) := by decide +kernel
theorem dL_law_373 : decode cL_law 373 = .ok (.iconst 1, 1) := by decide +kernel
theorem dL_law_374 : decode cL_law 374 = .ok (.goto 4, 3) := by decide +kernel
theorem dL_law_377 : decode cL_law 377 = .ok (.iconst 0, 1) := by decide +kernel
theorem dL_law_378 : decode cL_law 378 = .ok (.istore 5, 2) := by decide +kernel
theorem dL_law_380 : decode cL_law 380 = .ok (.goto 254, 3) := by decide +kernel
theorem dL_law_383 : decode cL_law 383 = .ok (.iload 8, 2) := by decide +kernel
theorem dL_law_385 : decode cL_law 385 = .ok (.bipush 7, 2) := by decide +kernel
theorem dL_law_387 : decode cL_law 387 = .ok (.if_icmp .ne 42, 3) := by decide +kernel
theorem dL_law_390 : decode cL_law 390 = .ok (.aload_n 1, 1) := by decide +kernel
theorem dL_law_391 : decode cL_law 391 = .ok (.iconst 4, 1) := by decide +kernel
theorem dL_law_392 : decode cL_law 392 = .ok (.iload 10, 2) := by decide +kernel
theorem dL_law_394 : decode cL_law 394 = .ok (.iconst 1, 1) := by decide +kernel
theorem dL_law_395 : decode cL_law 395 = .ok (.iload 12, 2) := by decide +kernel
theorem dL_law_397 : decode cL_law 397 = .ok (.iadd, 1) := by decide +kernel
theorem dL_law_398 : decode cL_law 398 = .ok (.iconst 0, 1) := by decide +kernel
theorem dL_law_399 : decode cL_law 399 = .ok (.iconst 0, 1) := by decide +kernel
theorem dL_law_400 : decode cL_law 400 = .ok (.invokestatic 97, 3) := by decide +kernel
theorem dL_law_403 : decode cL_law 403 = .ok (.aload_n 2, 1) := by decide +kernel
theorem dL_law_404 : decode cL_law 404 = .ok (.iconst 4, 1) := by decide +kernel
theorem dL_law_405 : decode cL_law 405 = .ok (.iload 11, 2) := by decide +kernel
theorem dL_law_407 : decode cL_law 407 = .ok (.iconst 1, 1) := by decide +kernel
theorem dL_law_408 : decode cL_law 408 = .ok (.iload 12, 2) := by decide +kernel
theorem dL_law_410 : decode cL_law 410 = .ok (.iadd, 1) := by decide +kernel
theorem dL_law_411 : decode cL_law 411 = .ok (.iconst 0, 1) := by decide +kernel
theorem dL_law_412 : decode cL_law 412 = .ok (.iconst 0, 1) := by decide +kernel
theorem dL_law_413 : decode cL_law 413 = .ok (.invokestatic 97, 3) := by decide +kernel
theorem dL_law_416 : decode cL_law 416 = .ok (.if_icmp .ne 7, 3) := by decide +kernel
theorem dL_law_419 : decode cL_law 419 = .ok (.iconst 1, 1) := by decide +kernel
theorem dL_law_420 : decode cL_law 420 = .ok (.goto 4, 3) := by decide +kernel
theorem dL_law_423 : decode cL_law 423 = .ok (.iconst 0, 1) := by decide +kernel
theorem dL_law_424 : decode cL_law 424 = .ok (.istore 5, 2) := by decide +kernel
theorem dL_law_426 : decode cL_law 426 = .ok (.goto 208, 3) := by decide +kernel
theorem dL_law_429 : decode cL_law 429 = .ok (.iload 8, 2) := by decide +kernel
theorem dL_law_431 : decode cL_law 431 = .ok (.bipush 11, 2) := by decide +kernel
theorem dL_law_433 : decode cL_law 433 = .ok (.if_icmp .lt 8, 3) := by decide +kernel
theorem dL_law_436 : decode cL_law 436 = .ok (.iload 4, 2) := by decide +kernel
theorem dL_law_438 : decode cL_law 438 = .ok (.ifCond .ne 77, 3) := by decide +kernel
theorem dL_law_441 : decode cL_law 441 = .ok (.aload_n 1, 1) := by decide +kernel
theorem dL_law_442 : decode cL_law 442 = .ok (.iconst 5, 1) := by decide +kernel
theorem dL_law_443 : decode cL_law 443 = .ok (.iload 10, 2) := by decide +kernel
theorem dL_law_445 : decode cL_law 445 = .ok (.iload 9, 2) := by decide +kernel
theorem dL_law_447 : decode cL_law 447 = .ok (.iconst 4, 1) := by decide +kernel
theorem dL_law_448 : decode cL_law 448 = .ok (.idiv, 1) := by decide +kernel
theorem dL_law_449 : decode cL_law 449 = .ok (.iconst 4, 1) := by decide +kernel
theorem dL_law_450 : decode cL_law 450 = .ok (.irem, 1) := by decide +kernel
theorem dL_law_451 : decode cL_law 451 = .ok (.iload 9, 2) := by decide +kernel
theorem dL_law_453 : decode cL_law 453 = .ok (.bipush 16, 2) := by decide +kernel
theorem dL_law_455 : decode cL_law 455 = .ok (.idiv, 1) := by decide +kernel
theorem dL_law_456 : decode cL_law 456 = .ok (.iconst 3, 1) := by decide +kernel
theorem dL_law_457 : decode cL_law 457 = .ok (.irem, 1) := by decide +kernel
theorem dL_law_458 : decode cL_law 458 = .ok (.iconst 0, 1) := by decide +kernel
theorem dL_law_459 : decode cL_law 459 = .ok (.invokestatic 97, 3) := by decide +kernel
theorem dL_law_462 : decode cL_law 462 = .ok (.istore 13, 2) := by decide +kernel
theorem dL_law_464 : decode cL_law 464 = .ok (.iload 4, 2) := by decide +kernel
theorem dL_law_466 : decode cL_law 466 = .ok (.iload 13, 2) := by decide +kernel
theorem dL_law_468 : decode cL_law 468 = .ok (.ifCond .lt 7, 3) := by decide +kernel
theorem dL_law_471 : decode cL_law 471 = .ok (.iconst 1, 1) := by decide +kernel
theorem dL_law_472 : decode cL_law 472 = .ok (.goto 4, 3) := by decide +kernel
theorem dL_law_475 : decode cL_law 475 = .ok (.iconst 0, 1) := by decide +kernel
theorem dL_law_476 : decode cL_law 476 = .ok (.iadd, 1) := by decide +kernel
theorem dL_law_477 : decode cL_law 477 = .ok (.istore 4, 2) := by decide +kernel
theorem dL_law_479 : decode cL_law 479 = .ok (.aload_n 2, 1) := by decide +kernel
theorem dL_law_480 : decode cL_law 480 = .ok (.iconst 5, 1) := by decide +kernel
theorem dL_law_481 : decode cL_law 481 = .ok (.iload 11, 2) := by decide +kernel
theorem dL_law_483 : decode cL_law 483 = .ok (.iload 9, 2) := by decide +kernel
theorem dL_law_485 : decode cL_law 485 = .ok (.iconst 4, 1) := by decide +kernel
theorem dL_law_486 : decode cL_law 486 = .ok (.idiv, 1) := by decide +kernel
theorem dL_law_487 : decode cL_law 487 = .ok (.iconst 4, 1) := by decide +kernel
theorem dL_law_488 : decode cL_law 488 = .ok (.irem, 1) := by decide +kernel
theorem dL_law_489 : decode cL_law 489 = .ok (.iload 9, 2) := by decide +kernel
theorem dL_law_491 : decode cL_law 491 = .ok (.bipush 16, 2) := by decide +kernel
theorem dL_law_493 : decode cL_law 493 = .ok (.idiv, 1) := by decide +kernel
theorem dL_law_494 : decode cL_law 494 = .ok (.iconst 3, 1) := by decide +kernel
theorem dL_law_495 : decode cL_law 495 = .ok (.irem, 1) := by decide +kernel
theorem dL_law_496 : decode cL_law 496 = .ok (.iconst 0, 1) := by decide +kernel
theorem dL_law_497 : decode cL_law 497 = .ok (.invokestatic 97, 3) := by decide +kernel
theorem dL_law_500 : decode cL_law 500 = .ok (.iload 13, 2) := by decide +kernel
theorem dL_law_502 : decode cL_law 502 = .ok (.if_icmp .ne 7, 3) := by decide +kernel
theorem dL_law_505 : decode cL_law 505 = .ok (.iconst 1, 1) := by decide +kernel
theorem dL_law_506 : decode cL_law 506 = .ok (.goto 4, 3) := by decide +kernel
theorem dL_law_509 : decode cL_law 509 = .ok (.iconst 0, 1) := by decide +kernel
theorem dL_law_510 : decode cL_law 510 = .ok (.istore 5, 2) := by decide +kernel
theorem dL_law_512 : decode cL_law 512 = .ok (.goto 122, 3) := by decide +kernel
theorem dL_law_515 : decode cL_law 515 = .ok (.iload 8, 2) := by decide +kernel
theorem dL_law_517 : decode cL_law 517 = .ok (.bipush 17, 2) := by decide +kernel
theorem dL_law_519 : decode cL_law 519 = .ok (.if_icmp .ne 7, 3) := by decide +kernel
theorem dL_law_522 : decode cL_law 522 = .ok (.iconst 0, 1) := by decide +kernel
theorem dL_law_523 : decode cL_law 523 = .ok (.goto 8, 3) := by decide +kernel
theorem dL_law_526 : decode cL_law 526 = .ok (.iload 8, 2) := by decide +kernel
theorem dL_law_528 : decode cL_law 528 = .ok (.bipush 11, 2) := by decide +kernel
theorem dL_law_530 : decode cL_law 530 = .ok (.isub, 1) := by decide +kernel
theorem dL_law_531 : decode cL_law 531 = .ok (.istore 13, 2) := by decide +kernel
theorem dL_law_533 : decode cL_law 533 = .ok (.iload 13, 2) := by decide +kernel
theorem dL_law_535 : decode cL_law 535 = .ok (.iconst 3, 1) := by decide +kernel
theorem dL_law_536 : decode cL_law 536 = .ok (.if_icmp .ne 15, 3) := by decide +kernel
theorem dL_law_539 : decode cL_law 539 = .ok (.iload 9, 2) := by decide +kernel
theorem dL_law_541 : decode cL_law 541 = .ok (.sipush 160, 3) := by decide +kernel
theorem dL_law_544 : decode cL_law 544 = .ok (.idiv, 1) := by decide +kernel
theorem dL_law_545 : decode cL_law 545 = .ok (.iload 4, 2) := by decide +kernel
theorem dL_law_547 : decode cL_law 547 = .ok (.irem, 1) := by decide +kernel
theorem dL_law_548 : decode cL_law 548 = .ok (.goto 48, 3) := by decide +kernel
theorem dL_law_551 : decode cL_law 551 = .ok (.iload 13, 2) := by decide +kernel
theorem dL_law_553 : decode cL_law 553 = .ok (.iconst 1, 1) := by decide +kernel
theorem dL_law_554 : decode cL_law 554 = .ok (.if_icmp .ne 14, 3) := by decide +kernel
theorem dL_law_557 : decode cL_law 557 = .ok (.iload 9, 2) := by decide +kernel
theorem dL_law_559 : decode cL_law 559 = .ok (.sipush 160, 3) := by decide +kernel
theorem dL_law_562 : decode cL_law 562 = .ok (.idiv, 1) := by decide +kernel
theorem dL_law_563 : decode cL_law 563 = .ok (.iconst 2, 1) := by decide +kernel
theorem dL_law_564 : decode cL_law 564 = .ok (.irem, 1) := by decide +kernel
theorem dL_law_565 : decode cL_law 565 = .ok (.goto 31, 3) := by decide +kernel
theorem dL_law_568 : decode cL_law 568 = .ok (.iload 13, 2) := by decide +kernel
theorem dL_law_570 : decode cL_law 570 = .ok (.iconst 5, 1) := by decide +kernel
theorem dL_law_571 : decode cL_law 571 = .ok (.if_icmp .ne 17, 3) := by decide +kernel
theorem dL_law_574 : decode cL_law 574 = .ok (.iconst 1, 1) := by decide +kernel
theorem dL_law_575 : decode cL_law 575 = .ok (.iload 9, 2) := by decide +kernel
theorem dL_law_577 : decode cL_law 577 = .ok (.sipush 160, 3) := by decide +kernel
theorem dL_law_580 : decode cL_law 580 = .ok (.idiv, 1) := by decide +kernel
theorem dL_law_581 : decode cL_law 581 = .ok (.bipush 30, 2) := by decide +kernel
theorem dL_law_583 : decode cL_law 583 = .ok (.irem, 1) := by decide +kernel
theorem dL_law_584 : decode cL_law 584 = .ok (.iadd, 1) := by decide +kernel
theorem dL_law_585 : decode cL_law 585 = .ok (.goto 11, 3) := by decide +kernel
theorem dL_law_588 : decode cL_law 588 = .ok (.iload 9, 2) := by decide +kernel
theorem dL_law_590 : decode cL_law 590 = .ok (.sipush 160, 3) := by decide +kernel
theorem dL_law_593 : decode cL_law 593 = .ok (.idiv, 1) := by decide +kernel
theorem dL_law_594 : decode cL_law 594 = .ok (.iconst 3, 1) := by decide +kernel
theorem dL_law_595 : decode cL_law 595 = .ok (.irem, 1) := by decide +kernel
theorem dL_law_596 : decode cL_law 596 = .ok (.istore 14, 2) := by decide +kernel
theorem dL_law_598 : decode cL_law 598 = .ok (.aload_n 1, 1) := by decide +kernel
theorem dL_law_599 : decode cL_law 599 = .ok (.iload 13, 2) := by decide +kernel
theorem dL_law_601 : decode cL_law 601 = .ok (.iload 12, 2) := by decide +kernel
theorem dL_law_603 : decode cL_law 603 = .ok (.iload 4, 2) := by decide +kernel
theorem dL_law_605 : decode cL_law 605 = .ok (.irem, 1) := by decide +kernel
theorem dL_law_606 : decode cL_law 606 = .ok (.iload 14, 2) := by decide +kernel
theorem dL_law_608 : decode cL_law 608 = .ok (.invokestatic 101, 3) := by decide +kernel
theorem dL_law_611 : decode cL_law 611 = .ok (.aload_n 2, 1) := by decide +kernel
theorem dL_law_612 : decode cL_law 612 = .ok (.iload 13, 2) := by decide +kernel
theorem dL_law_614 : decode cL_law 614 = .ok (.iload 12, 2) := by decide +kernel
theorem dL_law_616 : decode cL_law 616 = .ok (.iload 4, 2) := by decide +kernel
theorem dL_law_618 : decode cL_law 618 = .ok (.irem, 1) := by decide +kernel
theorem dL_law_619 : decode cL_law 619 = .ok (.iload 14, 2) := by decide +kernel
theorem dL_law_621 : decode cL_law 621 = .ok (.invokestatic 101, 3) := by decide +kernel
theorem dL_law_624 : decode cL_law 624 = .ok (.if_icmp .ne 7, 3) := by decide +kernel
theorem dL_law_627 : decode cL_law 627 = .ok (.iconst 1, 1) := by decide +kernel
theorem dL_law_628 : decode cL_law 628 = .ok (.goto 4, 3) := by decide +kernel
theorem dL_law_631 : decode cL_law 631 = .ok (.iconst 0, 1) := by decide +kernel
theorem dL_law_632 : decode cL_law 632 = .ok (.istore 5, 2) := by decide +kernel
theorem dL_law_634 : decode cL_law 634 = .ok (.iload 5, 2) := by decide +kernel
theorem dL_law_636 : decode cL_law 636 = .ok (.ifCond .eq 29, 3) := by decide +kernel
theorem dL_law_639 : decode cL_law 639 = .ok (.aload_n 1, 1) := by decide +kernel
theorem dL_law_640 : decode cL_law 640 = .ok (.invokevirtual 105, 3) := by decide +kernel
theorem dL_law_643 : decode cL_law 643 = .ok (.aload_n 2, 1) := by decide +kernel
theorem dL_law_644 : decode cL_law 644 = .ok (.invokevirtual 105, 3) := by decide +kernel
theorem dL_law_647 : decode cL_law 647 = .ok (.if_icmp .ne 18, 3) := by decide +kernel
theorem dL_law_650 : decode cL_law 650 = .ok (.aload_n 1, 1) := by decide +kernel
theorem dL_law_651 : decode cL_law 651 = .ok (.invokevirtual 109, 3) := by decide +kernel
theorem dL_law_654 : decode cL_law 654 = .ok (.aload_n 2, 1) := by decide +kernel
theorem dL_law_655 : decode cL_law 655 = .ok (.invokevirtual 109, 3) := by decide +kernel
theorem dL_law_658 : decode cL_law 658 = .ok (.if_icmp .ne 7, 3) := by decide +kernel
theorem dL_law_661 : decode cL_law 661 = .ok (.iconst 1, 1) := by decide +kernel
theorem dL_law_662 : decode cL_law 662 = .ok (.goto 4, 3) := by decide +kernel
theorem dL_law_665 : decode cL_law 665 = .ok (.iconst 0, 1) := by decide +kernel
theorem dL_law_666 : decode cL_law 666 = .ok (.istore 5, 2) := by decide +kernel
theorem dL_law_668 : decode cL_law 668 = .ok (.iconst 0, 1) := by decide +kernel
theorem dL_law_669 : decode cL_law 669 = .ok (.istore 13, 2) := by decide +kernel
theorem dL_law_671 : decode cL_law 671 = .ok (.iload 13, 2) := by decide +kernel
theorem dL_law_673 : decode cL_law 673 = .ok (.bipush 8, 2) := by decide +kernel
theorem dL_law_675 : decode cL_law 675 = .ok (.if_icmp .ge 51, 3) := by decide +kernel
theorem dL_law_678 : decode cL_law 678 = .ok (.iload 5, 2) := by decide +kernel
theorem dL_law_680 : decode cL_law 680 = .ok (.ifCond .eq 46, 3) := by decide +kernel
theorem dL_law_683 : decode cL_law 683 = .ok (.iload 4, 2) := by decide +kernel
theorem dL_law_685 : decode cL_law 685 = .ok (.ifCond .le 41, 3) := by decide +kernel
theorem dL_law_688 : decode cL_law 688 = .ok (.aload_n 1, 1) := by decide +kernel
theorem dL_law_689 : decode cL_law 689 = .ok (.iload 13, 2) := by decide +kernel
theorem dL_law_691 : decode cL_law 691 = .ok (.iload 12, 2) := by decide +kernel
theorem dL_law_693 : decode cL_law 693 = .ok (.iload 4, 2) := by decide +kernel
theorem dL_law_695 : decode cL_law 695 = .ok (.irem, 1) := by decide +kernel
theorem dL_law_696 : decode cL_law 696 = .ok (.invokestatic 112, 3) := by decide +kernel
theorem dL_law_699 : decode cL_law 699 = .ok (.aload_n 2, 1) := by decide +kernel
theorem dL_law_700 : decode cL_law 700 = .ok (.iload 13, 2) := by decide +kernel
theorem dL_law_702 : decode cL_law 702 = .ok (.iload 12, 2) := by decide +kernel
theorem dL_law_704 : decode cL_law 704 = .ok (.iload 4, 2) := by decide +kernel
theorem dL_law_706 : decode cL_law 706 = .ok (.irem, 1) := by decide +kernel
theorem dL_law_707 : decode cL_law 707 = .ok (.invokestatic 112, 3) := by decide +kernel
theorem dL_law_710 : decode cL_law 710 = .ok (.if_icmp .ne 7, 3) := by decide +kernel
theorem dL_law_713 : decode cL_law 713 = .ok (.iconst 1, 1) := by decide +kernel
theorem dL_law_714 : decode cL_law 714 = .ok (.goto 4, 3) := by decide +kernel
theorem dL_law_717 : decode cL_law 717 = .ok (.iconst 0, 1) := by decide +kernel
theorem dL_law_718 : decode cL_law 718 = .ok (.istore 5, 2) := by decide +kernel
theorem dL_law_720 : decode cL_law 720 = .ok (.iinc 13 1, 3) := by decide +kernel
theorem dL_law_723 : decode cL_law 723 = .ok (.goto (-52), 3) := by decide +kernel
theorem dL_law_726 : decode cL_law 726 = .ok (.iconst 0, 1) := by decide +kernel
theorem dL_law_727 : decode cL_law 727 = .ok (.istore 13, 2) := by decide +kernel
theorem dL_law_729 : decode cL_law 729 = .ok (.iload 13, 2) := by decide +kernel
theorem dL_law_731 : decode cL_law 731 = .ok (.bipush 6, 2) := by decide +kernel
theorem dL_law_733 : decode cL_law 733 = .ok (.if_icmp .ge 92, 3) := by decide +kernel
theorem dL_law_736 : decode cL_law 736 = .ok (.iload 5, 2) := by decide +kernel
theorem dL_law_738 : decode cL_law 738 = .ok (.ifCond .eq 87, 3) := by decide +kernel
theorem dL_law_741 : decode cL_law 741 = .ok (.iload 6, 2) := by decide +kernel
theorem dL_law_743 : decode cL_law 743 = .ok (.iconst 4, 1) := by decide +kernel
theorem dL_law_744 : decode cL_law 744 = .ok (.irem, 1) := by decide +kernel
theorem dL_law_745 : decode cL_law 745 = .ok (.iconst 3, 1) := by decide +kernel
theorem dL_law_746 : decode cL_law 746 = .ok (.if_icmp .ne 79, 3) := by decide +kernel
theorem dL_law_749 : decode cL_law 749 = .ok (.aload_n 1, 1) := by decide +kernel
theorem dL_law_750 : decode cL_law 750 = .ok (.iload 13, 2) := by decide +kernel
theorem dL_law_752 : decode cL_law 752 = .ok (.iload 10, 2) := by decide +kernel
theorem dL_law_754 : decode cL_law 754 = .ok (.iload 9, 2) := by decide +kernel
theorem dL_law_756 : decode cL_law 756 = .ok (.bipush 9, 2) := by decide +kernel
theorem dL_law_758 : decode cL_law 758 = .ok (.idiv, 1) := by decide +kernel
theorem dL_law_759 : decode cL_law 759 = .ok (.sipush 3000, 3) := by decide +kernel
theorem dL_law_762 : decode cL_law 762 = .ok (.irem, 1) := by decide +kernel
theorem dL_law_763 : decode cL_law 763 = .ok (.sipush 3000, 3) := by decide +kernel
theorem dL_law_766 : decode cL_law 766 = .ok (.iload 9, 2) := by decide +kernel
theorem dL_law_768 : decode cL_law 768 = .ok (.bipush 11, 2) := by decide +kernel
theorem dL_law_770 : decode cL_law 770 = .ok (.idiv, 1) := by decide +kernel
theorem dL_law_771 : decode cL_law 771 = .ok (.sipush 900, 3) := by decide +kernel
theorem dL_law_774 : decode cL_law 774 = .ok (.irem, 1) := by decide +kernel
theorem dL_law_775 : decode cL_law 775 = .ok (.iadd, 1) := by decide +kernel
theorem dL_law_776 : decode cL_law 776 = .ok (.invokestatic 116, 3) := by decide +kernel
theorem dL_law_779 : decode cL_law 779 = .ok (.aload_n 2, 1) := by decide +kernel
theorem dL_law_780 : decode cL_law 780 = .ok (.iload 13, 2) := by decide +kernel
theorem dL_law_782 : decode cL_law 782 = .ok (.iload 11, 2) := by decide +kernel
theorem dL_law_784 : decode cL_law 784 = .ok (.iload 9, 2) := by decide +kernel
theorem dL_law_786 : decode cL_law 786 = .ok (.bipush 9, 2) := by decide +kernel
theorem dL_law_788 : decode cL_law 788 = .ok (.idiv, 1) := by decide +kernel
theorem dL_law_789 : decode cL_law 789 = .ok (.sipush 3000, 3) := by decide +kernel
theorem dL_law_792 : decode cL_law 792 = .ok (.irem, 1) := by decide +kernel
theorem dL_law_793 : decode cL_law 793 = .ok (.sipush 3000, 3) := by decide +kernel
theorem dL_law_796 : decode cL_law 796 = .ok (.iload 9, 2) := by decide +kernel
theorem dL_law_798 : decode cL_law 798 = .ok (.bipush 11, 2) := by decide +kernel
theorem dL_law_800 : decode cL_law 800 = .ok (.idiv, 1) := by decide +kernel
theorem dL_law_801 : decode cL_law 801 = .ok (.sipush 900, 3) := by decide +kernel
theorem dL_law_804 : decode cL_law 804 = .ok (.irem, 1) := by decide +kernel
theorem dL_law_805 : decode cL_law 805 = .ok (.iadd, 1) := by decide +kernel
theorem dL_law_806 : decode cL_law 806 = .ok (.invokestatic 116, 3) := by decide +kernel
theorem dL_law_809 : decode cL_law 809 = .ok (.if_icmp .ne 7, 3) := by decide +kernel
theorem dL_law_812 : decode cL_law 812 = .ok (.iconst 1, 1) := by decide +kernel
theorem dL_law_813 : decode cL_law 813 = .ok (.goto 4, 3) := by decide +kernel
theorem dL_law_816 : decode cL_law 816 = .ok (.iconst 0, 1) := by decide +kernel
theorem dL_law_817 : decode cL_law 817 = .ok (.istore 5, 2) := by decide +kernel
theorem dL_law_819 : decode cL_law 819 = .ok (.iinc 13 1, 3) := by decide +kernel
theorem dL_law_822 : decode cL_law 822 = .ok (.goto (-93), 3) := by decide +kernel
theorem dL_law_825 : decode cL_law 825 = .ok (.iinc 6 1, 3) := by decide +kernel
theorem dL_law_828 : decode cL_law 828 = .ok (.goto (-793), 3) := by decide +kernel
theorem dL_law_831 : decode cL_law 831 = .ok (.iload 5, 2) := by decide +kernel
theorem dL_law_833 : decode cL_law 833 = .ok (.ireturn, 1) := by decide +kernel
