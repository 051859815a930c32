set_option maxRecDepth 20000 in
theorem ggL_setPatience_X4_setPatience : GoodIn wsL_setPatience wsX4_setPatience := goodIn_ca (goodIn_r _ [6, 7, 8, 9, 10, 11, 12, 13, 14, 15, 16, 17, 18, 19, 20, 21, 22, 23, 24, 25, 26, 27, 28, 29, 30, 31, 32, 33, 34] (by decide +kernel) (by decide +kernel)) (goodIn_sub (fun _ h => List.mem_cons_of_mem _ (List.mem_append_right _ h)) (by decide +kernel))
set_option maxRecDepth 20000 in
theorem gL_setPatience_X4_setPatience : GoodIn wsL_setPatience (wsV RL 7 RX4 yX4_setPatience wsX4_setPatience) := goodIn_app (goodIn_of _ (by decide +kernel)) ggL_setPatience_X4_setPatience
theorem dL_setPatience_0 : decode cL_setPatience 0 = .ok (.aload_n 2, 1) := by decide +kernel
theorem dL_setPatience_1 : decode cL_setPatience 1 = .ok (.iconst 0, 1) := by decide +kernel
theorem dL_setPatience_2 : decode cL_setPatience 2 = .ok (.aload_n 0, 1) := by decide +kernel
theorem dL_setPatience_3 : decode cL_setPatience 3 = .ok (.iload_n 1, 1) := by decide +kernel
theorem dL_setPatience_4 : decode cL_setPatience 4 = .ok (.invokevirtual 7, 3) := by decide +kernel
theorem dL_setPatience_7 : decode cL_setPatience 7 = .ok (.i2l, 1) := by decide +kernel
theorem dL_setPatience_8 : decode cL_setPatience 8 = .ok (.lastore, 1) := by decide +kernel
theorem dL_setPatience_9 : decode cL_setPatience 9 = .ok (.goto 6, 3) := by decide +kernel
theorem dL_setPatience_12 : decode cL_setPatience 12 = .ok (.astore_n 3, 1) := by decide +kernel
theorem dL_setPatience_13 : decode cL_setPatience 13 = .ok (.iconst 1, 1) := by decide +kernel
theorem dL_setPatience_14 : decode cL_setPatience 14 = .ok (.ireturn, 1) := by decide +kernel
theorem dL_setPatience_15 : decode cL_setPatience 15 = .ok (.iconst 0, 1) := by decide +kernel
theorem dL_setPatience_16 : decode cL_setPatience 16 = .ok (.ireturn, 1) := by decide +kernel
set_option maxRecDepth 20000 in
theorem ggL_setFanOut_X4_setFanOut : GoodIn wsL_setFanOut wsX4_setFanOut := goodIn_ca (goodIn_r _ [6, 7, 8, 9, 10, 11, 12, 13, 14, 15, 16, 17, 18, 19, 20, 21, 22, 23, 24, 25, 26, 27, 28, 29, 30, 31, 32, 33, 34] (by decide +kernel) (by decide +kernel)) (goodIn_sub (fun _ h => List.mem_cons_of_mem _ (List.mem_append_right _ h)) (by decide +kernel))
set_option maxRecDepth 20000 in
theorem gL_setFanOut_X4_setFanOut : GoodIn wsL_setFanOut (wsV RL 15 RX4 yX4_setFanOut wsX4_setFanOut) := goodIn_app (goodIn_of _ (by decide +kernel)) ggL_setFanOut_X4_setFanOut
theorem dL_setFanOut_0 : decode cL_setFanOut 0 = .ok (.aload_n 2, 1) := by decide +kernel
theorem dL_setFanOut_1 : decode cL_setFanOut 1 = .ok (.iconst 0, 1) := by decide +kernel
theorem dL_setFanOut_2 : decode cL_setFanOut 2 = .ok (.aload_n 0, 1) := by decide +kernel
theorem dL_setFanOut_3 : decode cL_setFanOut 3 = .ok (.iload_n 1, 1) := by decide +kernel
theorem dL_setFanOut_4 : decode cL_setFanOut 4 = .ok (.invokevirtual 15, 3) := by decide +kernel
theorem dL_setFanOut_7 : decode cL_setFanOut 7 = .ok (.i2l, 1) := by decide +kernel
theorem dL_setFanOut_8 : decode cL_setFanOut 8 = .ok (.lastore, 1) := by decide +kernel
theorem dL_setFanOut_9 : decode cL_setFanOut 9 = .ok (.goto 6, 3) := by decide +kernel
theorem dL_setFanOut_12 : decode cL_setFanOut 12 = .ok (.astore_n 3, 1) := by decide +kernel
theorem dL_setFanOut_13 : decode cL_setFanOut 13 = .ok (.iconst 1, 1) := by decide +kernel
theorem dL_setFanOut_14 : decode cL_setFanOut 14 = .ok (.ireturn, 1) := by decide +kernel
theorem dL_setFanOut_15 : decode cL_setFanOut 15 = .ok (.iconst 0, 1) := by decide +kernel
theorem dL_setFanOut_16 : decode cL_setFanOut 16 = .ok (.ireturn, 1) := by decide +kernel
set_option maxRecDepth 20000 in
theorem ggL_setHelpers_X4_setHelpers : GoodIn wsL_setHelpers wsX4_setHelpers := goodIn_ca (goodIn_r _ [6, 7, 8, 9, 10, 11, 12, 13, 14, 15, 16, 17, 18, 19, 20, 21, 22, 23] (by decide +kernel) (by decide +kernel)) (goodIn_sub (fun _ h => List.mem_cons_of_mem _ (List.mem_append_right _ h)) (by decide +kernel))
set_option maxRecDepth 20000 in
theorem gL_setHelpers_X4_setHelpers : GoodIn wsL_setHelpers (wsV RL 18 RX4 yX4_setHelpers wsX4_setHelpers) := goodIn_app (goodIn_of _ (by decide +kernel)) ggL_setHelpers_X4_setHelpers
theorem dL_setHelpers_0 : decode cL_setHelpers 0 = .ok (.aload_n 2, 1) := by decide +kernel
theorem dL_setHelpers_1 : decode cL_setHelpers 1 = .ok (.iconst 0, 1) := by decide +kernel
theorem dL_setHelpers_2 : decode cL_setHelpers 2 = .ok (.aload_n 0, 1) := by decide +kernel
theorem dL_setHelpers_3 : decode cL_setHelpers 3 = .ok (.iload_n 1, 1) := by decide +kernel
theorem dL_setHelpers_4 : decode cL_setHelpers 4 = .ok (.invokevirtual 18, 3) := by decide +kernel
theorem dL_setHelpers_7 : decode cL_setHelpers 7 = .ok (.i2l, 1) := by decide +kernel
theorem dL_setHelpers_8 : decode cL_setHelpers 8 = .ok (.lastore, 1) := by decide +kernel
theorem dL_setHelpers_9 : decode cL_setHelpers 9 = .ok (.goto 6, 3) := by decide +kernel
theorem dL_setHelpers_12 : decode cL_setHelpers 12 = .ok (.astore_n 3, 1) := by decide +kernel
theorem dL_setHelpers_13 : decode cL_setHelpers 13 = .ok (.iconst 1, 1) := by decide +kernel
theorem dL_setHelpers_14 : decode cL_setHelpers 14 = .ok (.ireturn, 1) := by decide +kernel
theorem dL_setHelpers_15 : decode cL_setHelpers 15 = .ok (.iconst 0, 1) := by decide +kernel
theorem dL_setHelpers_16 : decode cL_setHelpers 16 = .ok (.ireturn, 1) := by decide +kernel
set_option maxRecDepth 20000 in
theorem ggL_setSeed_X4_setSeed : GoodIn wsL_setSeed wsX4_setSeed := goodIn_ca (goodIn_r _ [6, 7, 8, 9, 10, 11, 12, 13, 14, 15, 16, 17, 18, 19, 20, 21, 22, 23] (by decide +kernel) (by decide +kernel)) (goodIn_sub (fun _ h => List.mem_cons_of_mem _ (List.mem_append_right _ h)) (by decide +kernel))
set_option maxRecDepth 20000 in
theorem gL_setSeed_X4_setSeed : GoodIn wsL_setSeed (wsV RL 21 RX4 yX4_setSeed wsX4_setSeed) := goodIn_app (goodIn_of _ (by decide +kernel)) ggL_setSeed_X4_setSeed
theorem dL_setSeed_0 : decode cL_setSeed 0 = .ok (.aload_n 2, 1) := by decide +kernel
theorem dL_setSeed_1 : decode cL_setSeed 1 = .ok (.iconst 0, 1) := by decide +kernel
theorem dL_setSeed_2 : decode cL_setSeed 2 = .ok (.aload_n 0, 1) := by decide +kernel
theorem dL_setSeed_3 : decode cL_setSeed 3 = .ok (.iload_n 1, 1) := by decide +kernel
theorem dL_setSeed_4 : decode cL_setSeed 4 = .ok (.invokevirtual 21, 3) := by decide +kernel
theorem dL_setSeed_7 : decode cL_setSeed 7 = .ok (.i2l, 1) := by decide +kernel
theorem dL_setSeed_8 : decode cL_setSeed 8 = .ok (.lastore, 1) := by decide +kernel
theorem dL_setSeed_9 : decode cL_setSeed 9 = .ok (.goto 6, 3) := by decide +kernel
theorem dL_setSeed_12 : decode cL_setSeed 12 = .ok (.astore_n 3, 1) := by decide +kernel
theorem dL_setSeed_13 : decode cL_setSeed 13 = .ok (.iconst 1, 1) := by decide +kernel
theorem dL_setSeed_14 : decode cL_setSeed 14 = .ok (.ireturn, 1) := by decide +kernel
theorem dL_setSeed_15 : decode cL_setSeed 15 = .ok (.iconst 0, 1) := by decide +kernel
theorem dL_setSeed_16 : decode cL_setSeed 16 = .ok (.ireturn, 1) := by decide +kernel
set_option maxRecDepth 20000 in
theorem ggL_join_X4_join : GoodIn wsL_join wsX4_join := goodIn_ca (goodIn_ca (goodIn_ca (goodIn_ca (goodIn_r _ [8, 9, 10, 11, 12, 13, 14, 15, 16, 17, 18, 19, 7, 20, 21, 22, 23, 24, 25, 26, 27, 28, 29, 30, 31, 32, 33, 34, 35, 36, 37, 38, 39, 40, 41, 42, 43, 44, 45, 46, 47, 48, 49, 50, 51, 52, 53, 54, 55, 56, 57, 58, 59, 60, 61, 62, 63, 64, 65, 66, 67, 68, 69, 70, 71, 72, 73, 74, 75, 76, 77, 78, 79, 80, 81, 82, 83, 84, 85, 86, 87, 88, 89, 90, 91, 92, 93, 94, 95, 96, 97, 98, 99, 100, 101, 102, 103, 104, 105, 106, 107, 108, 109, 110, 111, 112, 113, 114, 115, 116, 117, 118] (by decide +kernel) (by decide +kernel)) (goodIn_sub (fun _ h => List.mem_cons_of_mem _ (List.mem_append_left _ (List.mem_append_left _ (List.mem_append_left _ (List.mem_append_right _ h))))) (by decide +kernel))) (goodIn_sub (fun _ h => List.mem_cons_of_mem _ (List.mem_append_left _ (List.mem_append_left _ (List.mem_append_right _ h)))) (by decide +kernel))) (goodIn_sub (fun _ h => List.mem_cons_of_mem _ (List.mem_append_left _ (List.mem_append_right _ h))) (by decide +kernel))) (goodIn_sub (fun _ h => List.mem_cons_of_mem _ (List.mem_append_right _ h)) (by decide +kernel))
set_option maxRecDepth 20000 in
theorem gL_join_X4_join : GoodIn wsL_join (wsV RL 24 RX4 yX4_join wsX4_join) := goodIn_app (goodIn_of _ (by decide +kernel)) ggL_join_X4_join
theorem dL_join_0 : decode cL_join 0 = .ok (.aload_n 3, 1) := by decide +kernel
theorem dL_join_1 : decode cL_join 1 = .ok (.iconst 0, 1) := by decide +kernel
theorem dL_join_2 : decode cL_join 2 = .ok (.aload_n 0, 1) := by decide +kernel
theorem dL_join_3 : decode cL_join 3 = .ok (.iload_n 1, 1) := by decide +kernel
theorem dL_join_4 : decode cL_join 4 = .ok (.iload_n 2, 1) := by decide +kernel
theorem dL_join_5 : decode cL_join 5 = .ok (.invokevirtual 24, 3) := by decide +kernel
theorem dL_join_8 : decode cL_join 8 = .ok (.i2l, 1) := by decide +kernel
theorem dL_join_9 : decode cL_join 9 = .ok (.lastore, 1) := by decide +kernel
theorem dL_join_10 : decode cL_join 10 = .ok (.goto 15, 3) := by decide +kernel
theorem dL_join_13 : decode cL_join 13 = .ok (.astore 4, 2) := by decide +kernel
theorem dL_join_15 : decode cL_join 15 = .ok (.iconst 1, 1) := by decide +kernel
theorem dL_join_16 : decode cL_join 16 = .ok (.ireturn, 1) := by decide +kernel
theorem dL_join_17 : decode cL_join 17 = .ok (.astore 4, 2) := by decide +kernel
theorem dL_join_19 : decode cL_join 19 = .ok (.iconst 2, 1) := by decide +kernel
theorem dL_join_20 : decode cL_join 20 = .ok (.ireturn, 1) := by decide +kernel
theorem dL_join_21 : decode cL_join 21 = .ok (.astore 4, 2) := by decide +kernel
theorem dL_join_23 : decode cL_join 23 = .ok (.iconst 3, 1) := by decide +kernel
theorem dL_join_24 : decode cL_join 24 = .ok (.ireturn, 1) := by decide +kernel
theorem dL_join_25 : decode cL_join 25 = .ok (.iconst 0, 1) := by decide +kernel
theorem dL_join_26 : decode cL_join 26 = .ok (.ireturn, 1) := by decide +kernel
set_option maxRecDepth 20000 in
theorem ggL_crash_X4_crash : GoodIn wsL_crash wsX4_crash := goodIn_ca (goodIn_ca (goodIn_ca (goodIn_r _ [7, 8, 9, 10, 11, 12, 13, 14, 15, 6, 16, 17, 18, 19, 20, 21, 22, 23, 24, 25, 26, 27, 28, 29, 30, 31, 32, 33, 34, 35, 36, 37, 38, 39, 40, 41, 42, 43, 44, 45, 46, 47, 48, 49, 50, 51, 52, 53, 54, 55, 56, 57, 58] (by decide +kernel) (by decide +kernel)) (goodIn_sub (fun _ h => List.mem_cons_of_mem _ (List.mem_append_left _ (List.mem_append_left _ (List.mem_append_right _ h)))) (by decide +kernel))) (goodIn_sub (fun _ h => List.mem_cons_of_mem _ (List.mem_append_left _ (List.mem_append_right _ h))) (by decide +kernel))) (goodIn_sub (fun _ h => List.mem_cons_of_mem _ (List.mem_append_right _ h)) (by decide +kernel))
set_option maxRecDepth 20000 in
theorem gL_crash_X4_crash : GoodIn wsL_crash (wsV RL 32 RX4 yX4_crash wsX4_crash) := goodIn_app (goodIn_of _ (by decide +kernel)) ggL_crash_X4_crash
theorem dL_crash_0 : decode cL_crash 0 = .ok (.aload_n 2, 1) := by decide +kernel
theorem dL_crash_1 : decode cL_crash 1 = .ok (.iconst 0, 1) := by decide +kernel
theorem dL_crash_2 : decode cL_crash 2 = .ok (.aload_n 0, 1) := by decide +kernel
theorem dL_crash_3 : decode cL_crash 3 = .ok (.iload_n 1, 1) := by decide +kernel
theorem dL_crash_4 : decode cL_crash 4 = .ok (.invokevirtual 32, 3) := by decide +kernel
theorem dL_crash_7 : decode cL_crash 7 = .ok (.i2l, 1) := by decide +kernel
theorem dL_crash_8 : decode cL_crash 8 = .ok (.lastore, 1) := by decide +kernel
theorem dL_crash_9 : decode cL_crash 9 = .ok (.goto 9, 3) := by decide +kernel
theorem dL_crash_12 : decode cL_crash 12 = .ok (.astore_n 3, 1) := by decide +kernel
theorem dL_crash_13 : decode cL_crash 13 = .ok (.iconst 1, 1) := by decide +kernel
theorem dL_crash_14 : decode cL_crash 14 = .ok (.ireturn, 1) := by decide +kernel
theorem dL_crash_15 : decode cL_crash 15 = .ok (.astore_n 3, 1) := by decide +kernel
theorem dL_crash_16 : decode cL_crash 16 = .ok (.iconst 2, 1) := by decide +kernel
theorem dL_crash_17 : decode cL_crash 17 = .ok (.ireturn, 1) := by decide +kernel
theorem dL_crash_18 : decode cL_crash 18 = .ok (.iconst 0, 1) := by decide +kernel
theorem dL_crash_19 : decode cL_crash 19 = .ok (.ireturn, 1) := by decide +kernel
set_option maxRecDepth 20000 in
theorem ggL_move_X4_move : GoodIn wsL_move wsX4_move := goodIn_ca (goodIn_ca (goodIn_ca (goodIn_r _ [7, 8, 9, 10, 11, 12, 13, 14, 15, 6, 16, 17, 18, 19, 20, 21, 22, 23, 24, 25, 26, 27, 28, 29, 30, 31, 32, 33, 34, 35, 36, 37, 38, 39, 40, 41, 42, 43, 44, 45, 46, 47, 48, 49, 50, 51, 52] (by decide +kernel) (by decide +kernel)) (goodIn_sub (fun _ h => List.mem_cons_of_mem _ (List.mem_append_left _ (List.mem_append_right _ h))) (by decide +kernel))) (goodIn_sub (fun _ h => List.mem_cons_of_mem _ (List.mem_append_left _ (List.mem_append_left _ (List.mem_append_right _ h)))) (by decide +kernel))) (goodIn_sub (fun _ h => List.mem_cons_of_mem _ (List.mem_append_right _ h)) (by decide +kernel))
set_option maxRecDepth 20000 in
theorem gL_move_X4_move : GoodIn wsL_move (wsV RL 35 RX4 yX4_move wsX4_move) := goodIn_app (goodIn_of _ (by decide +kernel)) ggL_move_X4_move
theorem dL_move_0 : decode cL_move 0 = .ok (.aload_n 3, 1) := by decide +kernel
theorem dL_move_1 : decode cL_move 1 = .ok (.iconst 0, 1) := by decide +kernel
theorem dL_move_2 : decode cL_move 2 = .ok (.aload_n 0, 1) := by decide +kernel
theorem dL_move_3 : decode cL_move 3 = .ok (.iload_n 1, 1) := by decide +kernel
theorem dL_move_4 : decode cL_move 4 = .ok (.iload_n 2, 1) := by decide +kernel
theorem dL_move_5 : decode cL_move 5 = .ok (.invokevirtual 35, 3) := by decide +kernel
theorem dL_move_8 : decode cL_move 8 = .ok (.i2l, 1) := by decide +kernel
theorem dL_move_9 : decode cL_move 9 = .ok (.lastore, 1) := by decide +kernel
theorem dL_move_10 : decode cL_move 10 = .ok (.goto 11, 3) := by decide +kernel
theorem dL_move_13 : decode cL_move 13 = .ok (.astore 4, 2) := by decide +kernel
theorem dL_move_15 : decode cL_move 15 = .ok (.iconst 1, 1) := by decide +kernel
theorem dL_move_16 : decode cL_move 16 = .ok (.ireturn, 1) := by decide +kernel
theorem dL_move_17 : decode cL_move 17 = .ok (.astore 4, 2) := by decide +kernel
theorem dL_move_19 : decode cL_move 19 = .ok (.iconst 2, 1) := by decide +kernel
theorem dL_move_20 : decode cL_move 20 = .ok (.ireturn, 1) := by decide +kernel
theorem dL_move_21 : decode cL_move 21 = .ok (.iconst 0, 1) := by decide +kernel
theorem dL_move_22 : decode cL_move 22 = .ok (.ireturn, 1) := by decide +kernel
set_option maxRecDepth 20000 in
theorem ggL_cut_X4_cut : GoodIn wsL_cut wsX4_cut := goodIn_ca (goodIn_ca (goodIn_ca (goodIn_r _ [7, 8, 9, 10, 11, 12, 13, 6, 14, 15, 16, 17, 18, 19, 20, 21, 22, 23, 24, 25, 26, 27, 28, 29, 30, 31, 32, 33, 34, 35, 36, 37, 38, 39, 40, 41, 42, 43, 44, 45, 46, 47, 48, 49, 50, 51, 52, 53, 54, 55, 56, 57, 58, 59, 60, 61, 62, 63, 64] (by decide +kernel) (by decide +kernel)) (goodIn_sub (fun _ h => List.mem_cons_of_mem _ (List.mem_append_left _ (List.mem_append_left _ (List.mem_append_right _ h)))) (by decide +kernel))) (goodIn_sub (fun _ h => List.mem_cons_of_mem _ (List.mem_append_left _ (List.mem_append_right _ h))) (by decide +kernel))) (goodIn_sub (fun _ h => List.mem_cons_of_mem _ (List.mem_append_right _ h)) (by decide +kernel))
set_option maxRecDepth 20000 in
theorem gL_cut_X4_cut : GoodIn wsL_cut (wsV RL 38 RX4 yX4_cut wsX4_cut) := goodIn_app (goodIn_of _ (by decide +kernel)) ggL_cut_X4_cut
theorem dL_cut_0 : decode cL_cut 0 = .ok (.aload 4, 2) := by decide +kernel
theorem dL_cut_2 : decode cL_cut 2 = .ok (.iconst 0, 1) := by decide +kernel
theorem dL_cut_3 : decode cL_cut 3 = .ok (.aload_n 0, 1) := by decide +kernel
theorem dL_cut_4 : decode cL_cut 4 = .ok (.iload_n 1, 1) := by decide +kernel
theorem dL_cut_5 : decode cL_cut 5 = .ok (.iload_n 2, 1) := by decide +kernel
theorem dL_cut_6 : decode cL_cut 6 = .ok (.iload_n 3, 1) := by decide +kernel
theorem dL_cut_7 : decode cL_cut 7 = .ok (.invokevirtual 38, 3) := by decide +kernel
theorem dL_cut_10 : decode cL_cut 10 = .ok (.ifCond .eq 7, 3) := by decide +kernel
theorem dL_cut_13 : decode cL_cut 13 = .ok (.lconst 1, 1) := by decide +kernel
theorem dL_cut_14 : decode cL_cut 14 = .ok (.goto 4, 3) := by decide +kernel
theorem dL_cut_17 : decode cL_cut 17 = .ok (.lconst 0, 1) := by decide +kernel
theorem dL_cut_18 : decode cL_cut 18 = .ok (.lastore, 1) := by decide +kernel
theorem dL_cut_19 : decode cL_cut 19 = .ok (.goto 11, 3) := by decide +kernel
theorem dL_cut_22 : decode cL_cut 22 = .ok (.astore 5, 2) := by decide +kernel
theorem dL_cut_24 : decode cL_cut 24 = .ok (.iconst 1, 1) := by decide +kernel
theorem dL_cut_25 : decode cL_cut 25 = .ok (.ireturn, 1) := by decide +kernel
theorem dL_cut_26 : decode cL_cut 26 = .ok (.astore 5, 2) := by decide +kernel
theorem dL_cut_28 : decode cL_cut 28 = .ok (.iconst 2, 1) := by decide +kernel
theorem dL_cut_29 : decode cL_cut 29 = .ok (.ireturn, 1) := by decide +kernel
theorem dL_cut_30 : decode cL_cut 30 = .ok (.iconst 0, 1) := by decide +kernel
theorem dL_cut_31 : decode cL_cut 31 = .ok (.ireturn, 1) := by decide +kernel
set_option maxRecDepth 20000 in
theorem ggL_rounds_X4_rounds : GoodIn wsL_rounds wsX4_rounds := goodIn_ca (goodIn_ca (goodIn_ca (goodIn_r _ [6, 7, 8, 9, 10, 11, 12, 13, 14, 15, 16, 17, 18, 19, 20, 21, 22, 23, 24, 25, 26, 27, 28, 29, 30, 31, 32, 33, 34, 35, 36, 37, 38, 5, 39, 40, 41, 42, 43, 44, 45, 46, 47, 48, 49, 50, 51, 52, 53, 54, 55, 56, 57, 58, 59, 60, 61, 62, 63, 64, 65, 66, 67, 68, 69, 70, 71, 72, 73, 74, 75, 76, 77, 78, 79, 80, 81, 82, 83, 84, 85, 86, 87, 88, 89, 90, 91, 92, 93, 94, 95, 96, 97, 98, 99, 100, 101, 102, 103, 104, 105, 106, 107, 108, 109, 110, 111, 112, 113, 114, 115, 116, 117, 118, 119, 120, 121, 122, 123, 124, 125, 126, 127, 128, 129, 130, 131, 132, 133, 134, 135, 136, 137, 138, 139, 140, 141] (by decide +kernel) (by decide +kernel)) (goodIn_sub (fun _ h => List.mem_cons_of_mem _ (List.mem_append_left _ (List.mem_append_right _ h))) (by decide +kernel))) (goodIn_sub (fun _ h => List.mem_cons_of_mem _ (List.mem_append_left _ (List.mem_append_left _ (List.mem_append_right _ h)))) (by decide +kernel))) (goodIn_sub (fun _ h => List.mem_cons_of_mem _ (List.mem_append_right _ h)) (by decide +kernel))
set_option maxRecDepth 20000 in
theorem gL_rounds_X4_rounds : GoodIn wsL_rounds (wsV RL 42 RX4 yX4_rounds wsX4_rounds) := goodIn_app (goodIn_of _ (by decide +kernel)) ggL_rounds_X4_rounds
theorem dL_rounds_0 : decode cL_rounds 0 = .ok (.aload_n 2, 1) := by decide +kernel
theorem dL_rounds_1 : decode cL_rounds 1 = .ok (.iconst 0, 1) := by decide +kernel
theorem dL_rounds_2 : decode cL_rounds 2 = .ok (.aload_n 0, 1) := by decide +kernel
theorem dL_rounds_3 : decode cL_rounds 3 = .ok (.iload_n 1, 1) := by decide +kernel
theorem dL_rounds_4 : decode cL_rounds 4 = .ok (.invokevirtual 42, 3) := by decide +kernel
theorem dL_rounds_7 : decode cL_rounds 7 = .ok (.i2l, 1) := by decide +kernel
theorem dL_rounds_8 : decode cL_rounds 8 = .ok (.lastore, 1) := by decide +kernel
theorem dL_rounds_9 : decode cL_rounds 9 = .ok (.goto 6, 3) := by decide +kernel
theorem dL_rounds_12 : decode cL_rounds 12 = .ok (.astore_n 3, 1) := by decide +kernel
theorem dL_rounds_13 : decode cL_rounds 13 = .ok (.iconst 1, 1) := by decide +kernel
theorem dL_rounds_14 : decode cL_rounds 14 = .ok (.ireturn, 1) := by decide +kernel
theorem dL_rounds_15 : decode cL_rounds 15 = .ok (.iconst 0, 1) := by decide +kernel
theorem dL_rounds_16 : decode cL_rounds 16 = .ok (.ireturn, 1) := by decide +kernel
set_option maxRecDepth 20000 in
theorem ggL_roundsUntilAgreement_X4_roundsUntilAgreement : GoodIn wsL_roundsUntilAgreement wsX4_roundsUntilAgreement := goodIn_ca (goodIn_ca (goodIn_ca (goodIn_ca (goodIn_r _ [7, 8, 9, 10, 11, 12, 13, 14, 15, 16, 17, 18, 19, 20, 21, 22, 23, 24, 25, 26, 27, 28, 29, 30, 31, 6, 32, 33, 34, 35, 36, 37, 38, 39, 40, 41, 42, 43, 44, 45, 46, 47, 48, 49, 50, 51, 52, 53, 54, 55, 56, 57, 58, 59, 60, 61, 62, 63, 64, 65, 66, 67, 68, 69, 70, 71, 72, 73, 74, 75, 76, 77, 78, 79, 80, 81, 82, 83, 84, 85, 86, 87, 88, 89, 90, 91, 92, 93, 94, 95, 96, 97, 98, 99, 100, 101, 102, 103, 104, 105, 106, 107, 108, 109, 110, 111, 112, 113, 114, 115, 116, 117, 118, 119, 120, 121, 122, 123, 124, 125, 126, 127, 128, 129, 130, 131, 132, 133, 134, 135, 136, 137, 138, 139, 140, 141, 142, 143, 144, 145, 146, 147, 148, 149, 150, 151, 152, 153, 154, 155, 156, 157, 158, 159, 160, 161, 162] (by decide +kernel) (by decide +kernel)) (goodIn_sub (fun _ h => List.mem_cons_of_mem _ (List.mem_append_left _ (List.mem_append_left _ (List.mem_append_right _ h)))) (by decide +kernel))) (goodIn_sub (fun _ h => List.mem_cons_of_mem _ (List.mem_append_left _ (List.mem_append_right _ h))) (by decide +kernel))) (goodIn_sub (fun _ h => List.mem_cons_of_mem _ (List.mem_append_left _ (List.mem_append_left _ (List.mem_append_left _ (List.mem_append_right _ h))))) (by decide +kernel))) (goodIn_sub (fun _ h => List.mem_cons_of_mem _ (List.mem_append_right _ h)) (by decide +kernel))
set_option maxRecDepth 20000 in
theorem gL_roundsUntilAgreement_X4_roundsUntilAgreement : GoodIn wsL_roundsUntilAgreement (wsV RL 45 RX4 yX4_roundsUntilAgreement wsX4_roundsUntilAgreement) := goodIn_app (goodIn_of _ (by decide +kernel)) ggL_roundsUntilAgreement_X4_roundsUntilAgreement
theorem dL_roundsUntilAgreement_0 : decode cL_roundsUntilAgreement 0 = .ok (.aload_n 2, 1) := by decide +kernel
theorem dL_roundsUntilAgreement_1 : decode cL_roundsUntilAgreement 1 = .ok (.iconst 0, 1) := by decide +kernel
theorem dL_roundsUntilAgreement_2 : decode cL_roundsUntilAgreement 2 = .ok (.aload_n 0, 1) := by decide +kernel
theorem dL_roundsUntilAgreement_3 : decode cL_roundsUntilAgreement 3 = .ok (.iload_n 1, 1) := by decide +kernel
theorem dL_roundsUntilAgreement_4 : decode cL_roundsUntilAgreement 4 = .ok (.invokevirtual 45, 3) := by decide +kernel
theorem dL_roundsUntilAgreement_7 : decode cL_roundsUntilAgreement 7 = .ok (.i2l, 1) := by decide +kernel
theorem dL_roundsUntilAgreement_8 : decode cL_roundsUntilAgreement 8 = .ok (.lastore, 1) := by decide +kernel
theorem dL_roundsUntilAgreement_9 : decode cL_roundsUntilAgreement 9 = .ok (.goto 9, 3) := by decide +kernel
theorem dL_roundsUntilAgreement_12 : decode cL_roundsUntilAgreement 12 = .ok (.astore_n 3, 1) := by decide +kernel
theorem dL_roundsUntilAgreement_13 : decode cL_roundsUntilAgreement 13 = .ok (.iconst 1, 1) := by decide +kernel
theorem dL_roundsUntilAgreement_14 : decode cL_roundsUntilAgreement 14 = .ok (.ireturn, 1) := by decide +kernel
theorem dL_roundsUntilAgreement_15 : decode cL_roundsUntilAgreement 15 = .ok (.astore_n 3, 1) := by decide +kernel
theorem dL_roundsUntilAgreement_16 : decode cL_roundsUntilAgreement 16 = .ok (.iconst 2, 1) := by decide +kernel
theorem dL_roundsUntilAgreement_17 : decode cL_roundsUntilAgreement 17 = .ok (.ireturn, 1) := by decide +kernel
theorem dL_roundsUntilAgreement_18 : decode cL_roundsUntilAgreement 18 = .ok (.iconst 0, 1) := by decide +kernel
theorem dL_roundsUntilAgreement_19 : decode cL_roundsUntilAgreement 19 = .ok (.ireturn, 1) := by decide +kernel
set_option maxRecDepth 20000 in
theorem ggL_isUp_X4_isUp : GoodIn wsL_isUp wsX4_isUp := goodIn_ca (goodIn_ca (goodIn_r _ [6, 7, 8, 9, 10, 11, 5, 12, 13, 14, 15, 16, 17, 18, 19, 20, 21, 22, 23, 24, 25, 26, 27, 28, 29, 30, 31] (by decide +kernel) (by decide +kernel)) (goodIn_sub (fun _ h => List.mem_cons_of_mem _ (List.mem_append_left _ (List.mem_append_right _ h))) (by decide +kernel))) (goodIn_sub (fun _ h => List.mem_cons_of_mem _ (List.mem_append_right _ h)) (by decide +kernel))
set_option maxRecDepth 20000 in
theorem gL_isUp_X4_isUp : GoodIn wsL_isUp (wsV RL 50 RX4 yX4_isUp wsX4_isUp) := goodIn_app (goodIn_of _ (by decide +kernel)) ggL_isUp_X4_isUp
theorem dL_isUp_0 : decode cL_isUp 0 = .ok (.aload_n 2, 1) := by decide +kernel
theorem dL_isUp_1 : decode cL_isUp 1 = .ok (.iconst 0, 1) := by decide +kernel
theorem dL_isUp_2 : decode cL_isUp 2 = .ok (.aload_n 0, 1) := by decide +kernel
theorem dL_isUp_3 : decode cL_isUp 3 = .ok (.iload_n 1, 1) := by decide +kernel
theorem dL_isUp_4 : decode cL_isUp 4 = .ok (.invokevirtual 50, 3) := by decide +kernel
theorem dL_isUp_7 : decode cL_isUp 7 = .ok (.ifCond .eq 7, 3) := by decide +kernel
theorem dL_isUp_10 : decode cL_isUp 10 = .ok (.lconst 1, 1) := by decide +kernel
theorem dL_isUp_11 : decode cL_isUp 11 = .ok (.goto 4, 3) := by decide +kernel
theorem dL_isUp_14 : decode cL_isUp 14 = .ok (.lconst 0, 1) := by decide +kernel
theorem dL_isUp_15 : decode cL_isUp 15 = .ok (.lastore, 1) := by decide +kernel
theorem dL_isUp_16 : decode cL_isUp 16 = .ok (.goto 6, 3) := by decide +kernel
theorem dL_isUp_19 : decode cL_isUp 19 = .ok (.astore_n 3, 1) := by decide +kernel
theorem dL_isUp_20 : decode cL_isUp 20 = .ok (.iconst 1, 1) := by decide +kernel
theorem dL_isUp_21 : decode cL_isUp 21 = .ok (.ireturn, 1) := by decide +kernel
theorem dL_isUp_22 : decode cL_isUp 22 = .ok (.iconst 0, 1) := by decide +kernel
theorem dL_isUp_23 : decode cL_isUp 23 = .ok (.ireturn, 1) := by decide +kernel
set_option maxRecDepth 20000 in
theorem ggL_partition_X4_partition : GoodIn wsL_partition wsX4_partition := goodIn_ca (goodIn_ca (goodIn_r _ [6, 7, 8, 9, 10, 11, 5, 12, 13, 14, 15, 16, 17, 18, 19, 20, 21, 22, 23, 24, 25, 26, 27, 28, 29, 30, 31] (by decide +kernel) (by decide +kernel)) (goodIn_sub (fun _ h => List.mem_cons_of_mem _ (List.mem_append_left _ (List.mem_append_right _ h))) (by decide +kernel))) (goodIn_sub (fun _ h => List.mem_cons_of_mem _ (List.mem_append_right _ h)) (by decide +kernel))
set_option maxRecDepth 20000 in
theorem gL_partition_X4_partition : GoodIn wsL_partition (wsV RL 54 RX4 yX4_partition wsX4_partition) := goodIn_app (goodIn_of _ (by decide +kernel)) ggL_partition_X4_partition
theorem dL_partition_0 : decode cL_partition 0 = .ok (.aload_n 2, 1) := by decide +kernel
theorem dL_partition_1 : decode cL_partition 1 = .ok (.iconst 0, 1) := by decide +kernel
theorem dL_partition_2 : decode cL_partition 2 = .ok (.aload_n 0, 1) := by decide +kernel
theorem dL_partition_3 : decode cL_partition 3 = .ok (.iload_n 1, 1) := by decide +kernel
theorem dL_partition_4 : decode cL_partition 4 = .ok (.invokevirtual 54, 3) := by decide +kernel
theorem dL_partition_7 : decode cL_partition 7 = .ok (.i2l, 1) := by decide +kernel
theorem dL_partition_8 : decode cL_partition 8 = .ok (.lastore, 1) := by decide +kernel
theorem dL_partition_9 : decode cL_partition 9 = .ok (.goto 6, 3) := by decide +kernel
theorem dL_partition_12 : decode cL_partition 12 = .ok (.astore_n 3, 1) := by decide +kernel
theorem dL_partition_13 : decode cL_partition 13 = .ok (.iconst 1, 1) := by decide +kernel
theorem dL_partition_14 : decode cL_partition 14 = .ok (.ireturn, 1) := by decide +kernel
theorem dL_partition_15 : decode cL_partition 15 = .ok (.iconst 0, 1) := by decide +kernel
theorem dL_partition_16 : decode cL_partition 16 = .ok (.ireturn, 1) := by decide +kernel
set_option maxRecDepth 20000 in
theorem ggL_incarnation_X4_incarnation : GoodIn wsL_incarnation wsX4_incarnation := goodIn_ca (goodIn_ca (goodIn_r _ [6, 7, 8, 9, 10, 11, 5, 12, 13, 14, 15, 16, 17, 18, 19, 20, 21, 22, 23, 24, 25, 26, 27, 28, 29, 30, 31, 32, 33, 34, 35, 36, 37] (by decide +kernel) (by decide +kernel)) (goodIn_sub (fun _ h => List.mem_cons_of_mem _ (List.mem_append_left _ (List.mem_append_right _ h))) (by decide +kernel))) (goodIn_sub (fun _ h => List.mem_cons_of_mem _ (List.mem_append_right _ h)) (by decide +kernel))
set_option maxRecDepth 20000 in
theorem gL_incarnation_X4_incarnation : GoodIn wsL_incarnation (wsV RL 57 RX4 yX4_incarnation wsX4_incarnation) := goodIn_app (goodIn_of _ (by decide +kernel)) ggL_incarnation_X4_incarnation
theorem dL_incarnation_0 : decode cL_incarnation 0 = .ok (.aload_n 2, 1) := by decide +kernel
theorem dL_incarnation_1 : decode cL_incarnation 1 = .ok (.iconst 0, 1) := by decide +kernel
theorem dL_incarnation_2 : decode cL_incarnation 2 = .ok (.aload_n 0, 1) := by decide +kernel
theorem dL_incarnation_3 : decode cL_incarnation 3 = .ok (.iload_n 1, 1) := by decide +kernel
theorem dL_incarnation_4 : decode cL_incarnation 4 = .ok (.invokevirtual 57, 3) := by decide +kernel
theorem dL_incarnation_7 : decode cL_incarnation 7 = .ok (.i2l, 1) := by decide +kernel
theorem dL_incarnation_8 : decode cL_incarnation 8 = .ok (.lastore, 1) := by decide +kernel
theorem dL_incarnation_9 : decode cL_incarnation 9 = .ok (.goto 6, 3) := by decide +kernel
theorem dL_incarnation_12 : decode cL_incarnation 12 = .ok (.astore_n 3, 1) := by decide +kernel
theorem dL_incarnation_13 : decode cL_incarnation 13 = .ok (.iconst 1, 1) := by decide +kernel
theorem dL_incarnation_14 : decode cL_incarnation 14 = .ok (.ireturn, 1) := by decide +kernel
theorem dL_incarnation_15 : decode cL_incarnation 15 = .ok (.iconst 0, 1) := by decide +kernel
theorem dL_incarnation_16 : decode cL_incarnation 16 = .ok (.ireturn, 1) := by decide +kernel
set_option maxRecDepth 20000 in
theorem ggL_reaches_X4_reaches : GoodIn wsL_reaches wsX4_reaches := goodIn_ca (goodIn_ca (goodIn_r _ [6, 7, 8, 9, 10, 5, 11, 12, 13, 14, 15, 16, 17, 18, 19, 20, 21, 22, 23, 24, 25, 26, 27, 28, 29, 30, 31, 32, 33, 34, 35, 36, 37, 38, 39, 40, 41, 42, 43, 44] (by decide +kernel) (by decide +kernel)) (goodIn_sub (fun _ h => List.mem_cons_of_mem _ (List.mem_append_right _ h)) (by decide +kernel))) (goodIn_sub (fun _ h => List.mem_cons_of_mem _ (List.mem_append_left _ (List.mem_append_right _ h))) (by decide +kernel))
set_option maxRecDepth 20000 in
theorem gL_reaches_X4_reaches : GoodIn wsL_reaches (wsV RL 60 RX4 yX4_reaches wsX4_reaches) := goodIn_app (goodIn_of _ (by decide +kernel)) ggL_reaches_X4_reaches
theorem dL_reaches_0 : decode cL_reaches 0 = .ok (.aload_n 3, 1) := by decide +kernel
theorem dL_reaches_1 : decode cL_reaches 1 = .ok (.iconst 0, 1) := by decide +kernel
theorem dL_reaches_2 : decode cL_reaches 2 = .ok (.aload_n 0, 1) := by decide +kernel
theorem dL_reaches_3 : decode cL_reaches 3 = .ok (.iload_n 1, 1) := by decide +kernel
theorem dL_reaches_4 : decode cL_reaches 4 = .ok (.iload_n 2, 1) := by decide +kernel
theorem dL_reaches_5 : decode cL_reaches 5 = .ok (.invokevirtual 60, 3) := by decide +kernel
theorem dL_reaches_8 : decode cL_reaches 8 = .ok (.ifCond .eq 7, 3) := by decide +kernel
theorem dL_reaches_11 : decode cL_reaches 11 = .ok (.lconst 1, 1) := by decide +kernel
theorem dL_reaches_12 : decode cL_reaches 12 = .ok (.goto 4, 3) := by decide +kernel
theorem dL_reaches_15 : decode cL_reaches 15 = .ok (.lconst 0, 1) := by decide +kernel
theorem dL_reaches_16 : decode cL_reaches 16 = .ok (.lastore, 1) := by decide +kernel
theorem dL_reaches_17 : decode cL_reaches 17 = .ok (.goto 7, 3) := by decide +kernel
theorem dL_reaches_20 : decode cL_reaches 20 = .ok (.astore 4, 2) := by decide +kernel
theorem dL_reaches_22 : decode cL_reaches 22 = .ok (.iconst 1, 1) := by decide +kernel
theorem dL_reaches_23 : decode cL_reaches 23 = .ok (.ireturn, 1) := by decide +kernel
theorem dL_reaches_24 : decode cL_reaches 24 = .ok (.iconst 0, 1) := by decide +kernel
theorem dL_reaches_25 : decode cL_reaches 25 = .ok (.ireturn, 1) := by decide +kernel
set_option maxRecDepth 20000 in
theorem ggL_view_X4_view : GoodIn wsL_view wsX4_view := goodIn_ca (goodIn_ca (goodIn_ca (goodIn_r _ [7, 8, 9, 10, 11, 12, 6, 13, 14, 15, 16, 17, 18, 19, 20, 21, 22, 23, 24, 25, 26, 27, 28, 29, 30, 31, 32, 33, 34, 35, 36, 37, 38, 39, 40, 41, 42, 43, 44, 45, 46] (by decide +kernel) (by decide +kernel)) (goodIn_sub (fun _ h => List.mem_cons_of_mem _ (List.mem_append_left _ (List.mem_append_left _ (List.mem_append_right _ h)))) (by decide +kernel))) (goodIn_sub (fun _ h => List.mem_cons_of_mem _ (List.mem_append_left _ (List.mem_append_right _ h))) (by decide +kernel))) (goodIn_sub (fun _ h => List.mem_cons_of_mem _ (List.mem_append_right _ h)) (by decide +kernel))
set_option maxRecDepth 20000 in
theorem gL_view_X4_view : GoodIn wsL_view (wsV RL 64 RX4 yX4_view wsX4_view) := goodIn_app (goodIn_of _ (by decide +kernel)) ggL_view_X4_view
theorem dL_view_0 : decode cL_view 0 = .ok (.aload_n 3, 1) := by decide +kernel
theorem dL_view_1 : decode cL_view 1 = .ok (.iconst 0, 1) := by decide +kernel
theorem dL_view_2 : decode cL_view 2 = .ok (.aload_n 0, 1) := by decide +kernel
theorem dL_view_3 : decode cL_view 3 = .ok (.iload_n 1, 1) := by decide +kernel
theorem dL_view_4 : decode cL_view 4 = .ok (.iload_n 2, 1) := by decide +kernel
theorem dL_view_5 : decode cL_view 5 = .ok (.invokevirtual 64, 3) := by decide +kernel
theorem dL_view_8 : decode cL_view 8 = .ok (.i2l, 1) := by decide +kernel
theorem dL_view_9 : decode cL_view 9 = .ok (.lastore, 1) := by decide +kernel
theorem dL_view_10 : decode cL_view 10 = .ok (.goto 11, 3) := by decide +kernel
theorem dL_view_13 : decode cL_view 13 = .ok (.astore 4, 2) := by decide +kernel
theorem dL_view_15 : decode cL_view 15 = .ok (.iconst 1, 1) := by decide +kernel
theorem dL_view_16 : decode cL_view 16 = .ok (.ireturn, 1) := by decide +kernel
theorem dL_view_17 : decode cL_view 17 = .ok (.astore 4, 2) := by decide +kernel
theorem dL_view_19 : decode cL_view 19 = .ok (.iconst 2, 1) := by decide +kernel
theorem dL_view_20 : decode cL_view 20 = .ok (.ireturn, 1) := by decide +kernel
theorem dL_view_21 : decode cL_view 21 = .ok (.iconst 0, 1) := by decide +kernel
theorem dL_view_22 : decode cL_view 22 = .ok (.ireturn, 1) := by decide +kernel
set_option maxRecDepth 20000 in
theorem ggL_viewIncarnation_X4_viewIncarnation : GoodIn wsL_viewIncarnation wsX4_viewIncarnation := goodIn_ca (goodIn_ca (goodIn_ca (goodIn_r _ [7, 8, 9, 10, 11, 12, 6, 13, 14, 15, 16, 17, 18, 19, 20, 21, 22, 23, 24, 25, 26, 27, 28, 29, 30, 31, 32, 33, 34, 35, 36, 37, 38, 39, 40, 41, 42, 43, 44, 45, 46] (by decide +kernel) (by decide +kernel)) (goodIn_sub (fun _ h => List.mem_cons_of_mem _ (List.mem_append_left _ (List.mem_append_left _ (List.mem_append_right _ h)))) (by decide +kernel))) (goodIn_sub (fun _ h => List.mem_cons_of_mem _ (List.mem_append_left _ (List.mem_append_right _ h))) (by decide +kernel))) (goodIn_sub (fun _ h => List.mem_cons_of_mem _ (List.mem_append_right _ h)) (by decide +kernel))
set_option maxRecDepth 20000 in
theorem gL_viewIncarnation_X4_viewIncarnation : GoodIn wsL_viewIncarnation (wsV RL 67 RX4 yX4_viewIncarnation wsX4_viewIncarnation) := goodIn_app (goodIn_of _ (by decide +kernel)) ggL_viewIncarnation_X4_viewIncarnation
theorem dL_viewIncarnation_0 : decode cL_viewIncarnation 0 = .ok (.aload_n 3, 1) := by decide +kernel
theorem dL_viewIncarnation_1 : decode cL_viewIncarnation 1 = .ok (.iconst 0, 1) := by decide +kernel
theorem dL_viewIncarnation_2 : decode cL_viewIncarnation 2 = .ok (.aload_n 0, 1) := by decide +kernel
theorem dL_viewIncarnation_3 : decode cL_viewIncarnation 3 = .ok (.iload_n 1, 1) := by decide +kernel
theorem dL_viewIncarnation_4 : decode cL_viewIncarnation 4 = .ok (.iload_n 2, 1) := by decide +kernel
theorem dL_viewIncarnation_5 : decode cL_viewIncarnation 5 = .ok (.invokevirtual 67, 3) := by decide +kernel
theorem dL_viewIncarnation_8 : decode cL_viewIncarnation 8 = .ok (.i2l, 1) := by decide +kernel
theorem dL_viewIncarnation_9 : decode cL_viewIncarnation 9 = .ok (.lastore, 1) := by decide +kernel
theorem dL_viewIncarnation_10 : decode cL_viewIncarnation 10 = .ok (.goto 11, 3) := by decide +kernel
theorem dL_viewIncarnation_13 : decode cL_viewIncarnation 13 = .ok (.astore 4, 2) := by decide +kernel
theorem dL_viewIncarnation_15 : decode cL_viewIncarnation 15 = .ok (.iconst 1, 1) := by decide +kernel
theorem dL_viewIncarnation_16 : decode cL_viewIncarnation 16 = .ok (.ireturn, 1) := by decide +kernel
theorem dL_viewIncarnation_17 : decode cL_viewIncarnation 17 = .ok (.astore 4, 2) := by decide +kernel
theorem dL_viewIncarnation_19 : decode cL_viewIncarnation 19 = .ok (.iconst 2, 1) := by decide +kernel
theorem dL_viewIncarnation_20 : decode cL_viewIncarnation 20 = .ok (.ireturn, 1) := by decide +kernel
theorem dL_viewIncarnation_21 : decode cL_viewIncarnation 21 = .ok (.iconst 0, 1) := by decide +kernel
theorem dL_viewIncarnation_22 : decode cL_viewIncarnation 22 = .ok (.ireturn, 1) := by decide +kernel
set_option maxRecDepth 20000 in
theorem ggL_deadline_X4_deadline : GoodIn wsL_deadline wsX4_deadline := goodIn_ca (goodIn_ca (goodIn_ca (goodIn_ca (goodIn_r _ [8, 9, 10, 11, 12, 13, 14, 15, 16, 7, 17, 18, 19, 20, 21, 22, 23, 24, 25, 26, 27, 28, 29, 30, 31, 32, 33, 34, 35, 36, 37, 38, 39, 40, 41, 42, 43, 44, 45, 46, 47, 48, 49, 50] (by decide +kernel) (by decide +kernel)) (goodIn_sub (fun _ h => List.mem_cons_of_mem _ (List.mem_append_left _ (List.mem_append_left _ (List.mem_append_left _ (List.mem_append_right _ h))))) (by decide +kernel))) (goodIn_sub (fun _ h => List.mem_cons_of_mem _ (List.mem_append_left _ (List.mem_append_left _ (List.mem_append_right _ h)))) (by decide +kernel))) (goodIn_sub (fun _ h => List.mem_cons_of_mem _ (List.mem_append_left _ (List.mem_append_right _ h))) (by decide +kernel))) (goodIn_sub (fun _ h => List.mem_cons_of_mem _ (List.mem_append_right _ h)) (by decide +kernel))
set_option maxRecDepth 20000 in
theorem gL_deadline_X4_deadline : GoodIn wsL_deadline (wsV RL 70 RX4 yX4_deadline wsX4_deadline) := goodIn_app (goodIn_of _ (by decide +kernel)) ggL_deadline_X4_deadline
theorem dL_deadline_0 : decode cL_deadline 0 = .ok (.aload_n 3, 1) := by decide +kernel
theorem dL_deadline_1 : decode cL_deadline 1 = .ok (.iconst 0, 1) := by decide +kernel
theorem dL_deadline_2 : decode cL_deadline 2 = .ok (.aload_n 0, 1) := by decide +kernel
theorem dL_deadline_3 : decode cL_deadline 3 = .ok (.iload_n 1, 1) := by decide +kernel
theorem dL_deadline_4 : decode cL_deadline 4 = .ok (.iload_n 2, 1) := by decide +kernel
theorem dL_deadline_5 : decode cL_deadline 5 = .ok (.invokevirtual 70, 3) := by decide +kernel
theorem dL_deadline_8 : decode cL_deadline 8 = .ok (.i2l, 1) := by decide +kernel
theorem dL_deadline_9 : decode cL_deadline 9 = .ok (.lastore, 1) := by decide +kernel
theorem dL_deadline_10 : decode cL_deadline 10 = .ok (.goto 15, 3) := by decide +kernel
theorem dL_deadline_13 : decode cL_deadline 13 = .ok (.astore 4, 2) := by decide +kernel
theorem dL_deadline_15 : decode cL_deadline 15 = .ok (.iconst 1, 1) := by decide +kernel
theorem dL_deadline_16 : decode cL_deadline 16 = .ok (.ireturn, 1) := by decide +kernel
theorem dL_deadline_17 : decode cL_deadline 17 = .ok (.astore 4, 2) := by decide +kernel
theorem dL_deadline_19 : decode cL_deadline 19 = .ok (.iconst 2, 1) := by decide +kernel
theorem dL_deadline_20 : decode cL_deadline 20 = .ok (.ireturn, 1) := by decide +kernel
theorem dL_deadline_21 : decode cL_deadline 21 = .ok (.astore 4, 2) := by decide +kernel
theorem dL_deadline_23 : decode cL_deadline 23 = .ok (.iconst 3, 1) := by decide +kernel
theorem dL_deadline_24 : decode cL_deadline 24 = .ok (.ireturn, 1) := by decide +kernel
theorem dL_deadline_25 : decode cL_deadline 25 = .ok (.iconst 0, 1) := by decide +kernel
theorem dL_deadline_26 : decode cL_deadline 26 = .ok (.ireturn, 1) := by decide +kernel
set_option maxRecDepth 20000 in
theorem ggL_counter_X4_counter : GoodIn wsL_counter wsX4_counter := goodIn_ca (goodIn_ca (goodIn_r _ [6, 7, 8, 9, 10, 11, 5, 12, 13, 14, 15, 16, 17, 18, 19, 20, 21, 22, 23, 24, 25, 26, 27, 28, 29, 30, 31, 32, 33, 34, 35, 36, 37, 38, 39, 40] (by decide +kernel) (by decide +kernel)) (goodIn_sub (fun _ h => List.mem_cons_of_mem _ (List.mem_append_left _ (List.mem_append_right _ h))) (by decide +kernel))) (goodIn_sub (fun _ h => List.mem_cons_of_mem _ (List.mem_append_right _ h)) (by decide +kernel))
set_option maxRecDepth 20000 in
theorem gL_counter_X4_counter : GoodIn wsL_counter (wsV RL 73 RX4 yX4_counter wsX4_counter) := goodIn_app (goodIn_of _ (by decide +kernel)) ggL_counter_X4_counter
theorem dL_counter_0 : decode cL_counter 0 = .ok (.aload_n 3, 1) := by decide +kernel
theorem dL_counter_1 : decode cL_counter 1 = .ok (.iconst 0, 1) := by decide +kernel
theorem dL_counter_2 : decode cL_counter 2 = .ok (.aload_n 0, 1) := by decide +kernel
theorem dL_counter_3 : decode cL_counter 3 = .ok (.iload_n 1, 1) := by decide +kernel
theorem dL_counter_4 : decode cL_counter 4 = .ok (.iload_n 2, 1) := by decide +kernel
theorem dL_counter_5 : decode cL_counter 5 = .ok (.invokevirtual 73, 3) := by decide +kernel
theorem dL_counter_8 : decode cL_counter 8 = .ok (.i2l, 1) := by decide +kernel
theorem dL_counter_9 : decode cL_counter 9 = .ok (.lastore, 1) := by decide +kernel
theorem dL_counter_10 : decode cL_counter 10 = .ok (.goto 7, 3) := by decide +kernel
theorem dL_counter_13 : decode cL_counter 13 = .ok (.astore 4, 2) := by decide +kernel
theorem dL_counter_15 : decode cL_counter 15 = .ok (.iconst 1, 1) := by decide +kernel
theorem dL_counter_16 : decode cL_counter 16 = .ok (.ireturn, 1) := by decide +kernel
theorem dL_counter_17 : decode cL_counter 17 = .ok (.iconst 0, 1) := by decide +kernel
theorem dL_counter_18 : decode cL_counter 18 = .ok (.ireturn, 1) := by decide +kernel
set_option maxRecDepth 20000 in
theorem ggL_tell_X4_tell : GoodIn wsL_tell wsX4_tell := goodIn_ca (goodIn_ca (goodIn_ca (goodIn_ca (goodIn_r _ [8, 9, 10, 11, 12, 13, 14, 15, 16, 17, 18, 7, 19, 20, 21, 22, 23, 24, 25, 26, 27, 28, 29, 30, 31, 32, 33, 34, 35, 36, 37, 38, 39, 40, 41, 42, 43, 44, 45, 46, 47, 48, 49, 50, 51, 52, 53, 54, 55, 56, 57, 58, 59, 60, 61, 62, 63, 64, 65, 66, 67, 68, 69, 70, 71, 72, 73, 74, 75, 76, 77, 78] (by decide +kernel) (by decide +kernel)) (goodIn_sub (fun _ h => List.mem_cons_of_mem _ (List.mem_append_left _ (List.mem_append_left _ (List.mem_append_left _ (List.mem_append_right _ h))))) (by decide +kernel))) (goodIn_sub (fun _ h => List.mem_cons_of_mem _ (List.mem_append_left _ (List.mem_append_left _ (List.mem_append_right _ h)))) (by decide +kernel))) (goodIn_sub (fun _ h => List.mem_cons_of_mem _ (List.mem_append_left _ (List.mem_append_right _ h))) (by decide +kernel))) (goodIn_sub (fun _ h => List.mem_cons_of_mem _ (List.mem_append_right _ h)) (by decide +kernel))
set_option maxRecDepth 20000 in
theorem gL_tell_X4_tell : GoodIn wsL_tell (wsV RL 76 RX4 yX4_tell wsX4_tell) := goodIn_app (goodIn_of _ (by decide +kernel)) ggL_tell_X4_tell
theorem dL_tell_0 : decode cL_tell 0 = .ok (.aload 5, 2) := by decide +kernel
theorem dL_tell_2 : decode cL_tell 2 = .ok (.iconst 0, 1) := by decide +kernel
theorem dL_tell_3 : decode cL_tell 3 = .ok (.aload_n 0, 1) := by decide +kernel
theorem dL_tell_4 : decode cL_tell 4 = .ok (.iload_n 1, 1) := by decide +kernel
theorem dL_tell_5 : decode cL_tell 5 = .ok (.iload_n 2, 1) := by decide +kernel
theorem dL_tell_6 : decode cL_tell 6 = .ok (.iload_n 3, 1) := by decide +kernel
theorem dL_tell_7 : decode cL_tell 7 = .ok (.iload 4, 2) := by decide +kernel
theorem dL_tell_9 : decode cL_tell 9 = .ok (.invokevirtual 76, 3) := by decide +kernel
theorem dL_tell_12 : decode cL_tell 12 = .ok (.ifCond .eq 7, 3) := by decide +kernel
theorem dL_tell_15 : decode cL_tell 15 = .ok (.lconst 1, 1) := by decide +kernel
theorem dL_tell_16 : decode cL_tell 16 = .ok (.goto 4, 3) := by decide +kernel
theorem dL_tell_19 : decode cL_tell 19 = .ok (.lconst 0, 1) := by decide +kernel
theorem dL_tell_20 : decode cL_tell 20 = .ok (.lastore, 1) := by decide +kernel
theorem dL_tell_21 : decode cL_tell 21 = .ok (.goto 15, 3) := by decide +kernel
theorem dL_tell_24 : decode cL_tell 24 = .ok (.astore 6, 2) := by decide +kernel
theorem dL_tell_26 : decode cL_tell 26 = .ok (.iconst 1, 1) := by decide +kernel
theorem dL_tell_27 : decode cL_tell 27 = .ok (.ireturn, 1) := by decide +kernel
theorem dL_tell_28 : decode cL_tell 28 = .ok (.astore 6, 2) := by decide +kernel
theorem dL_tell_30 : decode cL_tell 30 = .ok (.iconst 2, 1) := by decide +kernel
theorem dL_tell_31 : decode cL_tell 31 = .ok (.ireturn, 1) := by decide +kernel
theorem dL_tell_32 : decode cL_tell 32 = .ok (.astore 6, 2) := by decide +kernel
theorem dL_tell_34 : decode cL_tell 34 = .ok (.iconst 3, 1) := by decide +kernel
theorem dL_tell_35 : decode cL_tell 35 = .ok (.ireturn, 1) := by decide +kernel
theorem dL_tell_36 : decode cL_tell 36 = .ok (.iconst 0, 1) := by decide +kernel
theorem dL_tell_37 : decode cL_tell 37 = .ok (.ireturn, 1) := by decide +kernel
set_option maxRecDepth 20000 in
theorem ggL_alive_X4_alive : GoodIn wsL_alive wsX4_alive := goodIn_ca (goodIn_ca (goodIn_r _ [6, 7, 8, 9, 10, 5, 11, 12, 13, 14, 15, 16, 17, 18, 19, 20, 21, 22, 23, 24, 25, 26, 27, 28, 29, 30, 31, 32, 33, 34, 35, 36, 37, 38, 39, 40, 41, 42, 43, 44] (by decide +kernel) (by decide +kernel)) (goodIn_sub (fun _ h => List.mem_cons_of_mem _ (List.mem_append_right _ h)) (by decide +kernel))) (goodIn_sub (fun _ h => List.mem_cons_of_mem _ (List.mem_append_left _ (List.mem_append_right _ h))) (by decide +kernel))
set_option maxRecDepth 20000 in
theorem gL_alive_X4_alive : GoodIn wsL_alive (wsV RL 80 RX4 yX4_alive wsX4_alive) := goodIn_app (goodIn_of _ (by decide +kernel)) ggL_alive_X4_alive
theorem dL_alive_0 : decode cL_alive 0 = .ok (.aload_n 2, 1) := by decide +kernel
theorem dL_alive_1 : decode cL_alive 1 = .ok (.iconst 0, 1) := by decide +kernel
theorem dL_alive_2 : decode cL_alive 2 = .ok (.aload_n 0, 1) := by decide +kernel
theorem dL_alive_3 : decode cL_alive 3 = .ok (.iload_n 1, 1) := by decide +kernel
theorem dL_alive_4 : decode cL_alive 4 = .ok (.invokevirtual 80, 3) := by decide +kernel
theorem dL_alive_7 : decode cL_alive 7 = .ok (.i2l, 1) := by decide +kernel
theorem dL_alive_8 : decode cL_alive 8 = .ok (.lastore, 1) := by decide +kernel
theorem dL_alive_9 : decode cL_alive 9 = .ok (.goto 6, 3) := by decide +kernel
theorem dL_alive_12 : decode cL_alive 12 = .ok (.astore_n 3, 1) := by decide +kernel
theorem dL_alive_13 : decode cL_alive 13 = .ok (.iconst 1, 1) := by decide +kernel
theorem dL_alive_14 : decode cL_alive 14 = .ok (.ireturn, 1) := by decide +kernel
theorem dL_alive_15 : decode cL_alive 15 = .ok (.iconst 0, 1) := by decide +kernel
theorem dL_alive_16 : decode cL_alive 16 = .ok (.ireturn, 1) := by decide +kernel
set_option maxRecDepth 20000 in
theorem ggL_appendCharacter_X4_appendCharacter : GoodIn wsL_appendCharacter wsX4_appendCharacter := goodIn_ca (goodIn_ca (goodIn_ca (goodIn_r _ [7, 8, 9, 10, 11, 12, 13, 14, 15, 16, 17, 18, 19, 20, 21, 22] (by decide +kernel) (by decide +kernel)) (goodIn_sub (fun _ h => List.mem_cons_of_mem _ (List.mem_append_left _ (List.mem_append_right _ h))) (by decide +kernel))) (goodIn_sub (fun _ h => List.mem_cons_of_mem _ (List.mem_append_right _ h)) (by decide +kernel))) (goodIn_sub (fun _ h => List.mem_cons_of_mem _ (List.mem_append_left _ (List.mem_append_left _ (List.mem_append_right _ h)))) (by decide +kernel))
set_option maxRecDepth 20000 in
theorem gL_appendCharacter_X4_appendCharacter : GoodIn wsL_appendCharacter (wsV RL 83 RX4 yX4_appendCharacter wsX4_appendCharacter) := goodIn_app (goodIn_of _ (by decide +kernel)) ggL_appendCharacter_X4_appendCharacter
theorem dL_appendCharacter_0 : decode cL_appendCharacter 0 = .ok (.aload_n 2, 1) := by decide +kernel
theorem dL_appendCharacter_1 : decode cL_appendCharacter 1 = .ok (.iconst 0, 1) := by decide +kernel
theorem dL_appendCharacter_2 : decode cL_appendCharacter 2 = .ok (.aload_n 0, 1) := by decide +kernel
theorem dL_appendCharacter_3 : decode cL_appendCharacter 3 = .ok (.iload_n 1, 1) := by decide +kernel
theorem dL_appendCharacter_4 : decode cL_appendCharacter 4 = .ok (.invokevirtual 83, 3) := by decide +kernel
theorem dL_appendCharacter_7 : decode cL_appendCharacter 7 = .ok (.i2l, 1) := by decide +kernel
theorem dL_appendCharacter_8 : decode cL_appendCharacter 8 = .ok (.lastore, 1) := by decide +kernel
theorem dL_appendCharacter_9 : decode cL_appendCharacter 9 = .ok (.goto 9, 3) := by decide +kernel
theorem dL_appendCharacter_12 : decode cL_appendCharacter 12 = .ok (.astore_n 3, 1) := by decide +kernel
theorem dL_appendCharacter_13 : decode cL_appendCharacter 13 = .ok (.iconst 1, 1) := by decide +kernel
theorem dL_appendCharacter_14 : decode cL_appendCharacter 14 = .ok (.ireturn, 1) := by decide +kernel
theorem dL_appendCharacter_15 : decode cL_appendCharacter 15 = .ok (.astore_n 3, 1) := by decide +kernel
theorem dL_appendCharacter_16 : decode cL_appendCharacter 16 = .ok (.iconst 2, 1) := by decide +kernel
theorem dL_appendCharacter_17 : decode cL_appendCharacter 17 = .ok (.ireturn, 1) := by decide +kernel
theorem dL_appendCharacter_18 : decode cL_appendCharacter 18 = .ok (.iconst 0, 1) := by decide +kernel
theorem dL_appendCharacter_19 : decode cL_appendCharacter 19 = .ok (.ireturn, 1) := by decide +kernel
set_option maxRecDepth 20000 in
theorem ggL_runText_X4_runText : GoodIn wsL_runText wsX4_runText := goodIn_ca (goodIn_ca (goodIn_ca (goodIn_ca (goodIn_ca (goodIn_r _ [7, 8, 9, 10, 11, 12, 13, 14, 15, 16, 17, 18, 19, 20, 21, 22, 23, 24, 25, 26, 27, 28, 29, 30, 31, 32, 33, 34, 35, 36, 37, 38, 39, 40, 41, 42, 43, 6, 44, 45, 46, 47, 48, 49, 50, 51, 52, 53, 54, 55, 56, 57, 58, 59, 60, 61, 62, 63, 64, 65, 66, 67, 68, 69, 70, 71, 72, 73, 74, 75, 76, 77, 78, 79, 80, 81, 82, 83, 84, 85, 86, 87, 88, 89, 90, 91, 92, 93, 94, 95, 96, 97, 98, 99, 100, 101, 102, 103, 104, 105, 106, 107, 108, 109, 110, 111, 112, 113, 114, 115, 116, 117, 118, 119, 120, 121, 122, 123, 124, 125, 126, 127, 128, 129, 130, 131, 132, 133, 134, 135, 136, 137, 138, 139, 140, 141, 142, 143, 144, 145, 146, 147, 148, 149, 150, 151, 152, 153, 154, 155, 156, 157, 158, 159, 160, 161, 162, 163, 164, 165, 166, 167, 168, 169, 170, 171, 172, 173, 174, 175, 176, 177, 178, 179, 180, 181, 182, 183, 184, 185, 186, 187, 188, 189, 190, 191, 192, 193, 194, 195, 196, 197, 198, 199, 200, 201, 202, 203, 204, 205, 206, 207, 208, 209, 210, 211, 212, 213, 214, 215, 216, 217, 218, 219, 220, 221, 222, 223, 224, 225] (by decide +kernel) (by decide +kernel)) (goodIn_sub (fun _ h => List.mem_cons_of_mem _ (List.mem_append_left _ (List.mem_append_left _ (List.mem_append_left _ (List.mem_append_right _ h))))) (by decide +kernel))) (goodIn_sub (fun _ h => List.mem_cons_of_mem _ (List.mem_append_left _ (List.mem_append_left _ (List.mem_append_right _ h)))) (by decide +kernel))) (goodIn_sub (fun _ h => List.mem_cons_of_mem _ (List.mem_append_left _ (List.mem_append_left _ (List.mem_append_left _ (List.mem_append_left _ (List.mem_append_right _ h)))))) (by decide +kernel))) (goodIn_sub (fun _ h => List.mem_cons_of_mem _ (List.mem_append_left _ (List.mem_append_right _ h))) (by decide +kernel))) (goodIn_sub (fun _ h => List.mem_cons_of_mem _ (List.mem_append_right _ h)) (by decide +kernel))
set_option maxRecDepth 20000 in
theorem gL_runText_X4_runText : GoodIn wsL_runText (wsV RL 86 RX4 yX4_runText wsX4_runText) := goodIn_app (goodIn_of _ (by decide +kernel)) ggL_runText_X4_runText
theorem dL_runText_0 : decode cL_runText 0 = .ok (.aload_n 1, 1) := by decide +kernel
theorem dL_runText_1 : decode cL_runText 1 = .ok (.iconst 0, 1) := by decide +kernel
theorem dL_runText_2 : decode cL_runText 2 = .ok (.aload_n 0, 1) := by decide +kernel
theorem dL_runText_3 : decode cL_runText 3 = .ok (.invokevirtual 86, 3) := by decide +kernel
theorem dL_runText_6 : decode cL_runText 6 = .ok (.i2l, 1) := by decide +kernel
theorem dL_runText_7 : decode cL_runText 7 = .ok (.lastore, 1) := by decide +kernel
theorem dL_runText_8 : decode cL_runText 8 = .ok (.goto 9, 3) := by decide +kernel
theorem dL_runText_11 : decode cL_runText 11 = .ok (.astore_n 2, 1) := by decide +kernel
theorem dL_runText_12 : decode cL_runText 12 = .ok (.iconst 1, 1) := by decide +kernel
theorem dL_runText_13 : decode cL_runText 13 = .ok (.ireturn, 1) := by decide +kernel
theorem dL_runText_14 : decode cL_runText 14 = .ok (.astore_n 2, 1) := by decide +kernel
theorem dL_runText_15 : decode cL_runText 15 = .ok (.iconst 2, 1) := by decide +kernel
theorem dL_runText_16 : decode cL_runText 16 = .ok (.ireturn, 1) := by decide +kernel
theorem dL_runText_17 : decode cL_runText 17 = .ok (.iconst 0, 1) := by decide +kernel
theorem dL_runText_18 : decode cL_runText 18 = .ok (.ireturn, 1) := by decide +kernel
set_option maxRecDepth 20000 in
theorem ggL_failure_X4_failure : GoodIn wsL_failure wsX4_failure := goodIn_ca (goodIn_ca (goodIn_r _ [7, 8, 9, 10, 11, 12, 13, 14, 15, 16, 17, 18, 19] (by decide +kernel) (by decide +kernel)) (goodIn_sub (fun _ h => List.mem_cons_of_mem _ (List.mem_append_left _ (List.mem_append_right _ h))) (by decide +kernel))) (goodIn_sub (fun _ h => List.mem_cons_of_mem _ (List.mem_append_right _ h)) (by decide +kernel))
set_option maxRecDepth 20000 in
theorem gL_failure_X4_failure : GoodIn wsL_failure (wsV RL 90 RX4 yX4_failure wsX4_failure) := goodIn_app (goodIn_of _ (by decide +kernel)) ggL_failure_X4_failure
theorem dL_failure_0 : decode cL_failure 0 = .ok (.aload_n 2, 1) := by decide +kernel
theorem dL_failure_1 : decode cL_failure 1 = .ok (.iconst 0, 1) := by decide +kernel
theorem dL_failure_2 : decode cL_failure 2 = .ok (.aload_n 0, 1) := by decide +kernel
theorem dL_failure_3 : decode cL_failure 3 = .ok (.iload_n 1, 1) := by decide +kernel
theorem dL_failure_4 : decode cL_failure 4 = .ok (.invokevirtual 90, 3) := by decide +kernel
theorem dL_failure_7 : decode cL_failure 7 = .ok (.i2l, 1) := by decide +kernel
theorem dL_failure_8 : decode cL_failure 8 = .ok (.lastore, 1) := by decide +kernel
theorem dL_failure_9 : decode cL_failure 9 = .ok (.goto 9, 3) := by decide +kernel
theorem dL_failure_12 : decode cL_failure 12 = .ok (.astore_n 3, 1) := by decide +kernel
theorem dL_failure_13 : decode cL_failure 13 = .ok (.iconst 1, 1) := by decide +kernel
theorem dL_failure_14 : decode cL_failure 14 = .ok (.ireturn, 1) := by decide +kernel
theorem dL_failure_15 : decode cL_failure 15 = .ok (.astore_n 3, 1) := by decide +kernel
theorem dL_failure_16 : decode cL_failure 16 = .ok (.iconst 2, 1) := by decide +kernel
theorem dL_failure_17 : decode cL_failure 17 = .ok (.ireturn, 1) := by decide +kernel
theorem dL_failure_18 : decode cL_failure 18 = .ok (.iconst 0, 1) := by decide +kernel
theorem dL_failure_19 : decode cL_failure 19 = .ok (.ireturn, 1) := by decide +kernel
set_option maxRecDepth 20000 in
theorem ggL_averageCounter_X4_averageCounter : GoodIn wsL_averageCounter wsX4_averageCounter := goodIn_ca (goodIn_ca (goodIn_r _ [6, 7, 8, 9, 10, 11, 5, 12, 13, 14, 15, 16, 17, 18, 19, 20, 21, 22, 23, 24, 25, 26, 27, 28, 29, 30, 31, 32, 33, 34, 35, 36, 37, 38, 39, 40, 41, 42, 43, 44, 45] (by decide +kernel) (by decide +kernel)) (goodIn_sub (fun _ h => List.mem_cons_of_mem _ (List.mem_append_right _ h)) (by decide +kernel))) (goodIn_sub (fun _ h => List.mem_cons_of_mem _ (List.mem_append_left _ (List.mem_append_right _ h))) (by decide +kernel))
set_option maxRecDepth 20000 in
theorem gL_averageCounter_X4_averageCounter : GoodIn wsL_averageCounter (wsV RL 93 RX4 yX4_averageCounter wsX4_averageCounter) := goodIn_app (goodIn_of _ (by decide +kernel)) ggL_averageCounter_X4_averageCounter
theorem dL_averageCounter_0 : decode cL_averageCounter 0 = .ok (.aload_n 2, 1) := by decide +kernel
theorem dL_averageCounter_1 : decode cL_averageCounter 1 = .ok (.iconst 0, 1) := by decide +kernel
theorem dL_averageCounter_2 : decode cL_averageCounter 2 = .ok (.aload_n 0, 1) := by decide +kernel
theorem dL_averageCounter_3 : decode cL_averageCounter 3 = .ok (.iload_n 1, 1) := by decide +kernel
theorem dL_averageCounter_4 : decode cL_averageCounter 4 = .ok (.invokevirtual 93, 3) := by decide +kernel
theorem dL_averageCounter_7 : decode cL_averageCounter 7 = .ok (.dastore, 1) := by decide +kernel
theorem dL_averageCounter_8 : decode cL_averageCounter 8 = .ok (.goto 6, 3) := by decide +kernel
theorem dL_averageCounter_11 : decode cL_averageCounter 11 = .ok (.astore_n 3, 1) := by decide +kernel
theorem dL_averageCounter_12 : decode cL_averageCounter 12 = .ok (.iconst 1, 1) := by decide +kernel
theorem dL_averageCounter_13 : decode cL_averageCounter 13 = .ok (.ireturn, 1) := by decide +kernel
theorem dL_averageCounter_14 : decode cL_averageCounter 14 = .ok (.iconst 0, 1) := by decide +kernel
theorem dL_averageCounter_15 : decode cL_averageCounter 15 = .ok (.ireturn, 1) := by decide +kernel
set_option maxRecDepth 20000 in
theorem ggL_falseShare_X4_falseShare : GoodIn wsL_falseShare wsX4_falseShare := goodIn_ca (goodIn_r _ [6, 7, 8, 9, 10, 11, 12, 13, 14, 15, 16, 17, 18, 19, 20, 21, 22, 23, 24] (by decide +kernel) (by decide +kernel)) (goodIn_sub (fun _ h => List.mem_cons_of_mem _ (List.mem_append_right _ h)) (by decide +kernel))
set_option maxRecDepth 20000 in
theorem gL_falseShare_X4_falseShare : GoodIn wsL_falseShare (wsV RL 97 RX4 yX4_falseShare wsX4_falseShare) := goodIn_app (goodIn_of _ (by decide +kernel)) ggL_falseShare_X4_falseShare
theorem dL_falseShare_0 : decode cL_falseShare 0 = .ok (.aload_n 1, 1) := by decide +kernel
theorem dL_falseShare_1 : decode cL_falseShare 1 = .ok (.iconst 0, 1) := by decide +kernel
theorem dL_falseShare_2 : decode cL_falseShare 2 = .ok (.aload_n 0, 1) := by decide +kernel
theorem dL_falseShare_3 : decode cL_falseShare 3 = .ok (.invokevirtual 97, 3) := by decide +kernel
theorem dL_falseShare_6 : decode cL_falseShare 6 = .ok (.f2d, 1) := by decide +kernel
theorem dL_falseShare_7 : decode cL_falseShare 7 = .ok (.dastore, 1) := by decide +kernel
theorem dL_falseShare_8 : decode cL_falseShare 8 = .ok (.goto 6, 3) := by decide +kernel
theorem dL_falseShare_11 : decode cL_falseShare 11 = .ok (.astore_n 2, 1) := by decide +kernel
theorem dL_falseShare_12 : decode cL_falseShare 12 = .ok (.iconst 1, 1) := by decide +kernel
theorem dL_falseShare_13 : decode cL_falseShare 13 = .ok (.ireturn, 1) := by decide +kernel
theorem dL_falseShare_14 : decode cL_falseShare 14 = .ok (.iconst 0, 1) := by decide +kernel
theorem dL_falseShare_15 : decode cL_falseShare 15 = .ok (.ireturn, 1) := by decide +kernel
set_option maxRecDepth 20000 in
theorem ggL_restore_X4_restore : GoodIn wsL_restore wsX4_restore := goodIn_ca (goodIn_ca (goodIn_r _ [6, 7, 8, 9, 10, 11, 12, 13, 14, 15, 16, 17, 18, 19, 20, 21, 22, 23, 24, 25, 26, 27, 28, 29, 30, 31, 32, 33, 34, 35, 36, 37, 38, 39, 40, 41, 42, 43, 44, 45, 46, 47, 48, 49, 50, 51, 52, 53, 54, 55, 56, 57, 58, 59, 60, 61, 62, 63, 64, 65, 66, 67, 68, 69, 70, 71, 72, 73, 74, 75, 76, 77, 78] (by decide +kernel) (by decide +kernel)) (goodIn_sub (fun _ h => List.mem_cons_of_mem _ (List.mem_append_left _ (List.mem_append_right _ h))) (by decide +kernel))) (goodIn_sub (fun _ h => List.mem_cons_of_mem _ (List.mem_append_right _ h)) (by decide +kernel))
set_option maxRecDepth 20000 in
theorem gL_restore_X4_restore : GoodIn wsL_restore (wsV RL 103 RX4 yX4_restore wsX4_restore) := goodIn_app (goodIn_of _ (by decide +kernel)) ggL_restore_X4_restore
theorem dL_restore_0 : decode cL_restore 0 = .ok (.aload_n 0, 1) := by decide +kernel
theorem dL_restore_1 : decode cL_restore 1 = .ok (.invokevirtual 103, 3) := by decide +kernel
theorem dL_restore_4 : decode cL_restore 4 = .ok (.goto 6, 3) := by decide +kernel
theorem dL_restore_7 : decode cL_restore 7 = .ok (.astore_n 1, 1) := by decide +kernel
theorem dL_restore_8 : decode cL_restore 8 = .ok (.iconst 1, 1) := by decide +kernel
theorem dL_restore_9 : decode cL_restore 9 = .ok (.ireturn, 1) := by decide +kernel
theorem dL_restore_10 : decode cL_restore 10 = .ok (.iconst 0, 1) := by decide +kernel
