theorem dX5_init_0 : decode cX5_init 0 = .ok (.aload_n 0, 1) := by decide +kernel
theorem dX5_init_1 : decode cX5_init 1 = .ok (.invokespecial 1, 3) := by decide +kernel
theorem dX5_init_4 : decode cX5_init 4 = .ok (.aload_n 0, 1) := by decide +kernel
theorem dX5_init_5 : decode cX5_init 5 = .ok (.sipush 362, 3) := by decide +kernel
theorem dX5_init_8 : decode cX5_init 8 = .ok (.newarray .int, 2) := by decide +kernel
theorem dX5_init_10 : decode cX5_init 10 = .ok (.putfield 7, 3) := by decide +kernel
theorem dX5_init_13 : decode cX5_init 13 = .ok (.aload_n 0, 1) := by decide +kernel
theorem dX5_init_14 : decode cX5_init 14 = .ok (.sipush 362, 3) := by decide +kernel
theorem dX5_init_17 : decode cX5_init 17 = .ok (.newarray .int, 2) := by decide +kernel
theorem dX5_init_19 : decode cX5_init 19 = .ok (.putfield 13, 3) := by decide +kernel
theorem dX5_init_22 : decode cX5_init 22 = .ok (.aload_n 0, 1) := by decide +kernel
theorem dX5_init_23 : decode cX5_init 23 = .ok (.bipush 40, 2) := by decide +kernel
theorem dX5_init_25 : decode cX5_init 25 = .ok (.newarray .int, 2) := by decide +kernel
theorem dX5_init_27 : decode cX5_init 27 = .ok (.putfield 16, 3) := by decide +kernel
theorem dX5_init_30 : decode cX5_init 30 = .ok (.aload_n 0, 1) := by decide +kernel
theorem dX5_init_31 : decode cX5_init 31 = .ok (.bipush 8, 2) := by decide +kernel
theorem dX5_init_33 : decode cX5_init 33 = .ok (.newarray .int, 2) := by decide +kernel
theorem dX5_init_35 : decode cX5_init 35 = .ok (.putfield 19, 3) := by decide +kernel
theorem dX5_init_38 : decode cX5_init 38 = .ok (.aload_n 0, 1) := by decide +kernel
theorem dX5_init_39 : decode cX5_init 39 = .ok (.getfield 7, 3) := by decide +kernel
theorem dX5_init_42 : decode cX5_init 42 = .ok (.iconst 1, 1) := by decide +kernel
theorem dX5_init_43 : decode cX5_init 43 = .ok (.iconst 1, 1) := by decide +kernel
theorem dX5_init_44 : decode cX5_init 44 = .ok (.iastore, 1) := by decide +kernel
theorem dX5_init_45 : decode cX5_init 45 = .ok (.aload_n 0, 1) := by decide +kernel
theorem dX5_init_46 : decode cX5_init 46 = .ok (.getfield 7, 3) := by decide +kernel
theorem dX5_init_49 : decode cX5_init 49 = .ok (.iconst 2, 1) := by decide +kernel
theorem dX5_init_50 : decode cX5_init 50 = .ok (.iconst 3, 1) := by decide +kernel
theorem dX5_init_51 : decode cX5_init 51 = .ok (.iastore, 1) := by decide +kernel
theorem dX5_init_52 : decode cX5_init 52 = .ok (.aload_n 0, 1) := by decide +kernel
theorem dX5_init_53 : decode cX5_init 53 = .ok (.getfield 7, 3) := by decide +kernel
theorem dX5_init_56 : decode cX5_init 56 = .ok (.iconst 3, 1) := by decide +kernel
theorem dX5_init_57 : decode cX5_init 57 = .ok (.iconst 3, 1) := by decide +kernel
theorem dX5_init_58 : decode cX5_init 58 = .ok (.iastore, 1) := by decide +kernel
theorem dX5_init_59 : decode cX5_init 59 = .ok (.aload_n 0, 1) := by decide +kernel
theorem dX5_init_60 : decode cX5_init 60 = .ok (.getfield 7, 3) := by decide +kernel
theorem dX5_init_63 : decode cX5_init 63 = .ok (.iconst 4, 1) := by decide +kernel
theorem dX5_init_64 : decode cX5_init 64 = .ok (.iconst 2, 1) := by decide +kernel
theorem dX5_init_65 : decode cX5_init 65 = .ok (.iastore, 1) := by decide +kernel
theorem dX5_init_66 : decode cX5_init 66 = .ok (.return_, 1) := by decide +kernel
theorem dX5_thrown_0 : decode cX5_thrown 0 = .ok (.aload_n 0, 1) := by decide +kernel
theorem dX5_thrown_1 : decode cX5_thrown 1 = .ok (.getfield 22, 3) := by decide +kernel
theorem dX5_thrown_4 : decode cX5_thrown 4 = .ok (.ireturn, 1) := by decide +kernel
theorem dX5_fails_0 : decode cX5_fails 0 = .ok (.aload_n 0, 1) := by decide +kernel
theorem dX5_fails_1 : decode cX5_fails 1 = .ok (.iload_n 1, 1) := by decide +kernel
theorem dX5_fails_2 : decode cX5_fails 2 = .ok (.putfield 22, 3) := by decide +kernel
theorem dX5_fails_5 : decode cX5_fails 5 = .ok (.iconst 0, 1) := by decide +kernel
theorem dX5_fails_6 : decode cX5_fails 6 = .ok (.ireturn, 1) := by decide +kernel
theorem dX5_in_0 : decode cX5_in 0 = .ok (.iload_n 0, 1) := by decide +kernel
theorem dX5_in_1 : decode cX5_in 1 = .ok (.iload_n 1, 1) := by decide +kernel
theorem dX5_in_2 : decode cX5_in 2 = .ok (.if_icmp .lt 12, 3) := by decide +kernel
theorem dX5_in_5 : decode cX5_in 5 = .ok (.iload_n 0, 1) := by decide +kernel
theorem dX5_in_6 : decode cX5_in 6 = .ok (.iload_n 2, 1) := by decide +kernel
theorem dX5_in_7 : decode cX5_in 7 = .ok (.if_icmp .gt 7, 3) := by decide +kernel
theorem dX5_in_10 : decode cX5_in 10 = .ok (.iconst 1, 1) := by decide +kernel
theorem dX5_in_11 : decode cX5_in 11 = .ok (.goto 4, 3) := by decide +kernel
theorem dX5_in_14 : decode cX5_in 14 = .ok (.iconst 0, 1) := by decide +kernel
theorem dX5_in_15 : decode cX5_in 15 = .ok (.ireturn, 1) := by decide +kernel
set_option maxRecDepth 20000 in
theorem ggX5_isNode_X5_in : GoodIn wsX5_isNode wsX5_in := goodIn_r _ [4] (by decide +kernel) (by decide +kernel)
set_option maxRecDepth 20000 in
theorem gX5_isNode_X5_in : GoodIn wsX5_isNode (va_wsS RX5 26 yX5_in wsX5_in) := goodIn_app (goodIn_of _ (by decide +kernel)) ggX5_isNode_X5_in
theorem dX5_isNode_0 : decode cX5_isNode 0 = .ok (.iload_n 0, 1) := by decide +kernel
theorem dX5_isNode_1 : decode cX5_isNode 1 = .ok (.iconst 0, 1) := by decide +kernel
theorem dX5_isNode_2 : decode cX5_isNode 2 = .ok (.bipush 7, 2) := by decide +kernel
theorem dX5_isNode_4 : decode cX5_isNode 4 = .ok (.invokestatic 26, 3) := by decide +kernel
theorem dX5_isNode_7 : decode cX5_isNode 7 = .ok (.ireturn, 1) := by decide +kernel
theorem dX5_pair_0 : decode cX5_pair 0 = .ok (.bipush 8, 2) := by decide +kernel
theorem dX5_pair_2 : decode cX5_pair 2 = .ok (.iload_n 0, 1) := by decide +kernel
theorem dX5_pair_3 : decode cX5_pair 3 = .ok (.imul, 1) := by decide +kernel
theorem dX5_pair_4 : decode cX5_pair 4 = .ok (.iload_n 1, 1) := by decide +kernel
theorem dX5_pair_5 : decode cX5_pair 5 = .ok (.iadd, 1) := by decide +kernel
theorem dX5_pair_6 : decode cX5_pair 6 = .ok (.ireturn, 1) := by decide +kernel
set_option maxRecDepth 20000 in
theorem ggX5_canReach_X5_areLinked : GoodIn wsX5_canReach wsX5_areLinked := goodIn_ca (goodIn_r _ [6, 1, 7, 8, 5, 9, 10, 11, 12, 13, 14, 15, 16, 17, 18, 19, 20, 21] (by decide +kernel) (by decide +kernel)) (goodIn_sub (fun _ h => List.mem_cons_of_mem _ (List.mem_append_right _ h)) (by decide +kernel))
set_option maxRecDepth 20000 in
theorem gX5_canReach_X5_areLinked : GoodIn wsX5_canReach (wsV RX5 30 RX5 yX5_areLinked wsX5_areLinked) := goodIn_app (goodIn_of _ (by decide +kernel)) ggX5_canReach_X5_areLinked
theorem dX5_canReach_0 : decode cX5_canReach 0 = .ok (.iload_n 1, 1) := by decide +kernel
theorem dX5_canReach_1 : decode cX5_canReach 1 = .ok (.iload_n 2, 1) := by decide +kernel
theorem dX5_canReach_2 : decode cX5_canReach 2 = .ok (.if_icmp .eq 42, 3) := by decide +kernel
theorem dX5_canReach_5 : decode cX5_canReach 5 = .ok (.aload_n 0, 1) := by decide +kernel
theorem dX5_canReach_6 : decode cX5_canReach 6 = .ok (.getfield 7, 3) := by decide +kernel
theorem dX5_canReach_9 : decode cX5_canReach 9 = .ok (.bipush 10, 2) := by decide +kernel
theorem dX5_canReach_11 : decode cX5_canReach 11 = .ok (.iload_n 1, 1) := by decide +kernel
theorem dX5_canReach_12 : decode cX5_canReach 12 = .ok (.iadd, 1) := by decide +kernel
theorem dX5_canReach_13 : decode cX5_canReach 13 = .ok (.iaload, 1) := by decide +kernel
theorem dX5_canReach_14 : decode cX5_canReach 14 = .ok (.iconst 1, 1) := by decide +kernel
theorem dX5_canReach_15 : decode cX5_canReach 15 = .ok (.if_icmp .ne 29, 3) := by decide +kernel
theorem dX5_canReach_18 : decode cX5_canReach 18 = .ok (.aload_n 0, 1) := by decide +kernel
theorem dX5_canReach_19 : decode cX5_canReach 19 = .ok (.getfield 7, 3) := by decide +kernel
theorem dX5_canReach_22 : decode cX5_canReach 22 = .ok (.bipush 10, 2) := by decide +kernel
theorem dX5_canReach_24 : decode cX5_canReach 24 = .ok (.iload_n 2, 1) := by decide +kernel
theorem dX5_canReach_25 : decode cX5_canReach 25 = .ok (.iadd, 1) := by decide +kernel
theorem dX5_canReach_26 : decode cX5_canReach 26 = .ok (.iaload, 1) := by decide +kernel
theorem dX5_canReach_27 : decode cX5_canReach 27 = .ok (.iconst 1, 1) := by decide +kernel
theorem dX5_canReach_28 : decode cX5_canReach 28 = .ok (.if_icmp .ne 16, 3) := by decide +kernel
theorem dX5_canReach_31 : decode cX5_canReach 31 = .ok (.aload_n 0, 1) := by decide +kernel
theorem dX5_canReach_32 : decode cX5_canReach 32 = .ok (.iload_n 1, 1) := by decide +kernel
theorem dX5_canReach_33 : decode cX5_canReach 33 = .ok (.iload_n 2, 1) := by decide +kernel
theorem dX5_canReach_34 : decode cX5_canReach 34 = .ok (.invokevirtual 30, 3) := by decide +kernel
theorem dX5_canReach_37 : decode cX5_canReach 37 = .ok (.ifCond .eq 7, 3) := by decide +kernel
theorem dX5_canReach_40 : decode cX5_canReach 40 = .ok (.iconst 1, 1) := by decide +kernel
theorem dX5_canReach_41 : decode cX5_canReach 41 = .ok (.goto 4, 3) := by decide +kernel
theorem dX5_canReach_44 : decode cX5_canReach 44 = .ok (.iconst 0, 1) := by decide +kernel
theorem dX5_canReach_45 : decode cX5_canReach 45 = .ok (.ireturn, 1) := by decide +kernel
set_option maxRecDepth 20000 in
theorem ggX5_areLinked_X5_pair : GoodIn wsX5_areLinked wsX5_pair := goodIn_r _ [5] (by decide +kernel) (by decide +kernel)
set_option maxRecDepth 20000 in
theorem gX5_areLinked_X5_pair : GoodIn wsX5_areLinked (va_wsS RX5 34 yX5_pair wsX5_pair) := goodIn_app (goodIn_of _ (by decide +kernel)) ggX5_areLinked_X5_pair
theorem dX5_areLinked_0 : decode cX5_areLinked 0 = .ok (.aload_n 0, 1) := by decide +kernel
theorem dX5_areLinked_1 : decode cX5_areLinked 1 = .ok (.getfield 7, 3) := by decide +kernel
theorem dX5_areLinked_4 : decode cX5_areLinked 4 = .ok (.bipush 26, 2) := by decide +kernel
theorem dX5_areLinked_6 : decode cX5_areLinked 6 = .ok (.iload_n 1, 1) := by decide +kernel
theorem dX5_areLinked_7 : decode cX5_areLinked 7 = .ok (.iadd, 1) := by decide +kernel
theorem dX5_areLinked_8 : decode cX5_areLinked 8 = .ok (.iaload, 1) := by decide +kernel
theorem dX5_areLinked_9 : decode cX5_areLinked 9 = .ok (.aload_n 0, 1) := by decide +kernel
theorem dX5_areLinked_10 : decode cX5_areLinked 10 = .ok (.getfield 7, 3) := by decide +kernel
theorem dX5_areLinked_13 : decode cX5_areLinked 13 = .ok (.bipush 26, 2) := by decide +kernel
theorem dX5_areLinked_15 : decode cX5_areLinked 15 = .ok (.iload_n 2, 1) := by decide +kernel
theorem dX5_areLinked_16 : decode cX5_areLinked 16 = .ok (.iadd, 1) := by decide +kernel
theorem dX5_areLinked_17 : decode cX5_areLinked 17 = .ok (.iaload, 1) := by decide +kernel
theorem dX5_areLinked_18 : decode cX5_areLinked 18 = .ok (.if_icmp .ne 24, 3) := by decide +kernel
theorem dX5_areLinked_21 : decode cX5_areLinked 21 = .ok (.aload_n 0, 1) := by decide +kernel
theorem dX5_areLinked_22 : decode cX5_areLinked 22 = .ok (.getfield 7, 3) := by decide +kernel
theorem dX5_areLinked_25 : decode cX5_areLinked 25 = .ok (.sipush 298, 3) := by decide +kernel
theorem dX5_areLinked_28 : decode cX5_areLinked 28 = .ok (.iload_n 1, 1) := by decide +kernel
theorem dX5_areLinked_29 : decode cX5_areLinked 29 = .ok (.iload_n 2, 1) := by decide +kernel
theorem dX5_areLinked_30 : decode cX5_areLinked 30 = .ok (.invokestatic 34, 3) := by decide +kernel
theorem dX5_areLinked_33 : decode cX5_areLinked 33 = .ok (.iadd, 1) := by decide +kernel
theorem dX5_areLinked_34 : decode cX5_areLinked 34 = .ok (.iaload, 1) := by decide +kernel
theorem dX5_areLinked_35 : decode cX5_areLinked 35 = .ok (.ifCond .ne 7, 3) := by decide +kernel
theorem dX5_areLinked_38 : decode cX5_areLinked 38 = .ok (.iconst 1, 1) := by decide +kernel
theorem dX5_areLinked_39 : decode cX5_areLinked 39 = .ok (.goto 4, 3) := by decide +kernel
theorem dX5_areLinked_42 : decode cX5_areLinked 42 = .ok (.iconst 0, 1) := by decide +kernel
theorem dX5_areLinked_43 : decode cX5_areLinked 43 = .ok (.ireturn, 1) := by decide +kernel
set_option maxRecDepth 20000 in
theorem ggX5_changes_X5_pair : GoodIn wsX5_changes wsX5_pair := goodIn_r _ [5] (by decide +kernel) (by decide +kernel)
set_option maxRecDepth 20000 in
theorem gX5_changes_X5_pair : GoodIn wsX5_changes (va_wsS RX5 34 yX5_pair wsX5_pair) := goodIn_app (goodIn_of _ (by decide +kernel)) ggX5_changes_X5_pair
theorem dX5_changes_0 : decode cX5_changes 0 = .ok (.aload_n 0, 1) := by decide +kernel
theorem dX5_changes_1 : decode cX5_changes 1 = .ok (.getfield 7, 3) := by decide +kernel
theorem dX5_changes_4 : decode cX5_changes 4 = .ok (.sipush 234, 3) := by decide +kernel
theorem dX5_changes_7 : decode cX5_changes 7 = .ok (.iload_n 1, 1) := by decide +kernel
theorem dX5_changes_8 : decode cX5_changes 8 = .ok (.iload_n 2, 1) := by decide +kernel
theorem dX5_changes_9 : decode cX5_changes 9 = .ok (.invokestatic 34, 3) := by decide +kernel
theorem dX5_changes_12 : decode cX5_changes 12 = .ok (.iadd, 1) := by decide +kernel
theorem dX5_changes_13 : decode cX5_changes 13 = .ok (.aload_n 0, 1) := by decide +kernel
theorem dX5_changes_14 : decode cX5_changes 14 = .ok (.getfield 7, 3) := by decide +kernel
theorem dX5_changes_17 : decode cX5_changes 17 = .ok (.iconst 3, 1) := by decide +kernel
theorem dX5_changes_18 : decode cX5_changes 18 = .ok (.iaload, 1) := by decide +kernel
theorem dX5_changes_19 : decode cX5_changes 19 = .ok (.iastore, 1) := by decide +kernel
theorem dX5_changes_20 : decode cX5_changes 20 = .ok (.aload_n 0, 1) := by decide +kernel
theorem dX5_changes_21 : decode cX5_changes 21 = .ok (.getfield 7, 3) := by decide +kernel
theorem dX5_changes_24 : decode cX5_changes 24 = .ok (.bipush 9, 2) := by decide +kernel
theorem dX5_changes_26 : decode cX5_changes 26 = .ok (.aload_n 0, 1) := by decide +kernel
theorem dX5_changes_27 : decode cX5_changes 27 = .ok (.getfield 7, 3) := by decide +kernel
theorem dX5_changes_30 : decode cX5_changes 30 = .ok (.iconst 0, 1) := by decide +kernel
theorem dX5_changes_31 : decode cX5_changes 31 = .ok (.iaload, 1) := by decide +kernel
theorem dX5_changes_32 : decode cX5_changes 32 = .ok (.iastore, 1) := by decide +kernel
theorem dX5_changes_33 : decode cX5_changes 33 = .ok (.return_, 1) := by decide +kernel
set_option maxRecDepth 20000 in
theorem ggX5_becomes_X5_pair : GoodIn wsX5_becomes wsX5_pair := goodIn_r _ [5] (by decide +kernel) (by decide +kernel)
set_option maxRecDepth 20000 in
theorem gX5_becomes_X5_pair : GoodIn wsX5_becomes (va_wsS RX5 34 yX5_pair wsX5_pair) := goodIn_app (goodIn_of _ (by decide +kernel)) ggX5_becomes_X5_pair
set_option maxRecDepth 20000 in
theorem ggX5_becomes_X5_changes : GoodIn wsX5_becomes wsX5_changes := goodIn_ca (goodIn_r _ [9, 1, 2, 3, 4, 5, 10, 11, 12, 13, 14, 15, 16, 17, 18, 19, 20, 21] (by decide +kernel) (by decide +kernel)) (goodIn_sub (fun _ h => List.mem_cons_of_mem _ (List.mem_append_right _ h)) (by decide +kernel))
set_option maxRecDepth 20000 in
theorem gX5_becomes_X5_changes : GoodIn wsX5_becomes (wsV RX5 38 RX5 yX5_changes wsX5_changes) := goodIn_app (goodIn_of _ (by decide +kernel)) ggX5_becomes_X5_changes
theorem dX5_becomes_0 : decode cX5_becomes 0 = .ok (.iload_n 1, 1) := by decide +kernel
theorem dX5_becomes_1 : decode cX5_becomes 1 = .ok (.iload_n 2, 1) := by decide +kernel
theorem dX5_becomes_2 : decode cX5_becomes 2 = .ok (.invokestatic 34, 3) := by decide +kernel
theorem dX5_becomes_5 : decode cX5_becomes 5 = .ok (.istore 5, 2) := by decide +kernel
theorem dX5_becomes_7 : decode cX5_becomes 7 = .ok (.aload_n 0, 1) := by decide +kernel
theorem dX5_becomes_8 : decode cX5_becomes 8 = .ok (.getfield 7, 3) := by decide +kernel
theorem dX5_becomes_11 : decode cX5_becomes 11 = .ok (.bipush 42, 2) := by decide +kernel
theorem dX5_becomes_13 : decode cX5_becomes 13 = .ok (.iload 5, 2) := by decide +kernel
theorem dX5_becomes_15 : decode cX5_becomes 15 = .ok (.iadd, 1) := by decide +kernel
theorem dX5_becomes_16 : decode cX5_becomes 16 = .ok (.iload_n 3, 1) := by decide +kernel
theorem dX5_becomes_17 : decode cX5_becomes 17 = .ok (.iastore, 1) := by decide +kernel
theorem dX5_becomes_18 : decode cX5_becomes 18 = .ok (.aload_n 0, 1) := by decide +kernel
theorem dX5_becomes_19 : decode cX5_becomes 19 = .ok (.getfield 7, 3) := by decide +kernel
theorem dX5_becomes_22 : decode cX5_becomes 22 = .ok (.bipush 106, 2) := by decide +kernel
theorem dX5_becomes_24 : decode cX5_becomes 24 = .ok (.iload 5, 2) := by decide +kernel
theorem dX5_becomes_26 : decode cX5_becomes 26 = .ok (.iadd, 1) := by decide +kernel
theorem dX5_becomes_27 : decode cX5_becomes 27 = .ok (.iload 4, 2) := by decide +kernel
theorem dX5_becomes_29 : decode cX5_becomes 29 = .ok (.iastore, 1) := by decide +kernel
theorem dX5_becomes_30 : decode cX5_becomes 30 = .ok (.iload_n 3, 1) := by decide +kernel
theorem dX5_becomes_31 : decode cX5_becomes 31 = .ok (.iconst 2, 1) := by decide +kernel
theorem dX5_becomes_32 : decode cX5_becomes 32 = .ok (.if_icmp .ne 27, 3) := by decide +kernel
theorem dX5_becomes_35 : decode cX5_becomes 35 = .ok (.aload_n 0, 1) := by decide +kernel
theorem dX5_becomes_36 : decode cX5_becomes 36 = .ok (.getfield 7, 3) := by decide +kernel
theorem dX5_becomes_39 : decode cX5_becomes 39 = .ok (.sipush 170, 3) := by decide +kernel
theorem dX5_becomes_42 : decode cX5_becomes 42 = .ok (.iload 5, 2) := by decide +kernel
theorem dX5_becomes_44 : decode cX5_becomes 44 = .ok (.iadd, 1) := by decide +kernel
theorem dX5_becomes_45 : decode cX5_becomes 45 = .ok (.aload_n 0, 1) := by decide +kernel
theorem dX5_becomes_46 : decode cX5_becomes 46 = .ok (.getfield 7, 3) := by decide +kernel
theorem dX5_becomes_49 : decode cX5_becomes 49 = .ok (.iconst 0, 1) := by decide +kernel
theorem dX5_becomes_50 : decode cX5_becomes 50 = .ok (.iaload, 1) := by decide +kernel
theorem dX5_becomes_51 : decode cX5_becomes 51 = .ok (.aload_n 0, 1) := by decide +kernel
theorem dX5_becomes_52 : decode cX5_becomes 52 = .ok (.getfield 7, 3) := by decide +kernel
theorem dX5_becomes_55 : decode cX5_becomes 55 = .ok (.iconst 2, 1) := by decide +kernel
theorem dX5_becomes_56 : decode cX5_becomes 56 = .ok (.iaload, 1) := by decide +kernel
theorem dX5_becomes_57 : decode cX5_becomes 57 = .ok (.iadd, 1) := by decide +kernel
theorem dX5_becomes_58 : decode cX5_becomes 58 = .ok (.iastore, 1) := by decide +kernel
theorem dX5_becomes_59 : decode cX5_becomes 59 = .ok (.aload_n 0, 1) := by decide +kernel
theorem dX5_becomes_60 : decode cX5_becomes 60 = .ok (.iload_n 1, 1) := by decide +kernel
theorem dX5_becomes_61 : decode cX5_becomes 61 = .ok (.iload_n 2, 1) := by decide +kernel
theorem dX5_becomes_62 : decode cX5_becomes 62 = .ok (.invokevirtual 38, 3) := by decide +kernel
theorem dX5_becomes_65 : decode cX5_becomes 65 = .ok (.return_, 1) := by decide +kernel
set_option maxRecDepth 20000 in
theorem ggX5_refutes_X5_changes : GoodIn wsX5_refutes wsX5_changes := goodIn_ca (goodIn_r _ [6, 1, 7, 8, 5, 9, 10, 11, 12, 13, 14, 15, 16, 17, 18, 19, 20, 21] (by decide +kernel) (by decide +kernel)) (goodIn_sub (fun _ h => List.mem_cons_of_mem _ (List.mem_append_right _ h)) (by decide +kernel))
set_option maxRecDepth 20000 in
theorem gX5_refutes_X5_changes : GoodIn wsX5_refutes (wsV RX5 38 RX5 yX5_changes wsX5_changes) := goodIn_app (goodIn_of _ (by decide +kernel)) ggX5_refutes_X5_changes
theorem dX5_refutes_0 : decode cX5_refutes 0 = .ok (.iload_n 2, 1) := by decide +kernel
theorem dX5_refutes_1 : decode cX5_refutes 1 = .ok (.iconst 1, 1) := by decide +kernel
theorem dX5_refutes_2 : decode cX5_refutes 2 = .ok (.if_icmp .eq 16, 3) := by decide +kernel
theorem dX5_refutes_5 : decode cX5_refutes 5 = .ok (.iload_n 3, 1) := by decide +kernel
theorem dX5_refutes_6 : decode cX5_refutes 6 = .ok (.aload_n 0, 1) := by decide +kernel
theorem dX5_refutes_7 : decode cX5_refutes 7 = .ok (.getfield 7, 3) := by decide +kernel
theorem dX5_refutes_10 : decode cX5_refutes 10 = .ok (.bipush 34, 2) := by decide +kernel
theorem dX5_refutes_12 : decode cX5_refutes 12 = .ok (.iload_n 1, 1) := by decide +kernel
theorem dX5_refutes_13 : decode cX5_refutes 13 = .ok (.iadd, 1) := by decide +kernel
theorem dX5_refutes_14 : decode cX5_refutes 14 = .ok (.iaload, 1) := by decide +kernel
theorem dX5_refutes_15 : decode cX5_refutes 15 = .ok (.if_icmp .ge 5, 3) := by decide +kernel
theorem dX5_refutes_18 : decode cX5_refutes 18 = .ok (.iconst 0, 1) := by decide +kernel
theorem dX5_refutes_19 : decode cX5_refutes 19 = .ok (.ireturn, 1) := by decide +kernel
theorem dX5_refutes_20 : decode cX5_refutes 20 = .ok (.aload_n 0, 1) := by decide +kernel
theorem dX5_refutes_21 : decode cX5_refutes 21 = .ok (.getfield 7, 3) := by decide +kernel
theorem dX5_refutes_24 : decode cX5_refutes 24 = .ok (.bipush 34, 2) := by decide +kernel
theorem dX5_refutes_26 : decode cX5_refutes 26 = .ok (.iload_n 1, 1) := by decide +kernel
theorem dX5_refutes_27 : decode cX5_refutes 27 = .ok (.iadd, 1) := by decide +kernel
theorem dX5_refutes_28 : decode cX5_refutes 28 = .ok (.iload_n 3, 1) := by decide +kernel
theorem dX5_refutes_29 : decode cX5_refutes 29 = .ok (.iconst 1, 1) := by decide +kernel
theorem dX5_refutes_30 : decode cX5_refutes 30 = .ok (.iadd, 1) := by decide +kernel
theorem dX5_refutes_31 : decode cX5_refutes 31 = .ok (.iastore, 1) := by decide +kernel
theorem dX5_refutes_32 : decode cX5_refutes 32 = .ok (.aload_n 0, 1) := by decide +kernel
theorem dX5_refutes_33 : decode cX5_refutes 33 = .ok (.getfield 7, 3) := by decide +kernel
theorem dX5_refutes_36 : decode cX5_refutes 36 = .ok (.bipush 7, 2) := by decide +kernel
theorem dX5_refutes_38 : decode cX5_refutes 38 = .ok (.dup2, 1) := by decide +kernel
theorem dX5_refutes_39 : decode cX5_refutes 39 = .ok (.iaload, 1) := by decide +kernel
theorem dX5_refutes_40 : decode cX5_refutes 40 = .ok (.iconst 1, 1) := by decide +kernel
theorem dX5_refutes_41 : decode cX5_refutes 41 = .ok (.iadd, 1) := by decide +kernel
theorem dX5_refutes_42 : decode cX5_refutes 42 = .ok (.iastore, 1) := by decide +kernel
theorem dX5_refutes_43 : decode cX5_refutes 43 = .ok (.aload_n 0, 1) := by decide +kernel
theorem dX5_refutes_44 : decode cX5_refutes 44 = .ok (.iload_n 1, 1) := by decide +kernel
theorem dX5_refutes_45 : decode cX5_refutes 45 = .ok (.iload_n 1, 1) := by decide +kernel
theorem dX5_refutes_46 : decode cX5_refutes 46 = .ok (.invokevirtual 38, 3) := by decide +kernel
theorem dX5_refutes_49 : decode cX5_refutes 49 = .ok (.iconst 1, 1) := by decide +kernel
theorem dX5_refutes_50 : decode cX5_refutes 50 = .ok (.ireturn, 1) := by decide +kernel
set_option maxRecDepth 20000 in
theorem ggX5_takesIn_X5_refutes : GoodIn wsX5_takesIn wsX5_refutes := goodIn_ca (goodIn_r _ [6, 1, 7, 8, 9, 5, 10, 11, 12, 13, 18, 19, 20, 21, 22, 23, 24, 25, 26, 27, 28, 29] (by decide +kernel) (by decide +kernel)) (goodIn_sub (fun _ h => List.mem_cons_of_mem _ (List.mem_append_right _ h)) (by decide +kernel))
set_option maxRecDepth 20000 in
theorem gX5_takesIn_X5_refutes : GoodIn wsX5_takesIn (wsV RX5 42 RX5 yX5_refutes wsX5_refutes) := goodIn_app (goodIn_of _ (by decide +kernel)) ggX5_takesIn_X5_refutes
set_option maxRecDepth 20000 in
theorem ggX5_takesIn_X5_pair : GoodIn wsX5_takesIn wsX5_pair := goodIn_r _ [13] (by decide +kernel) (by decide +kernel)
set_option maxRecDepth 20000 in
theorem gX5_takesIn_X5_pair : GoodIn wsX5_takesIn (va_wsS RX5 34 yX5_pair wsX5_pair) := goodIn_app (goodIn_of _ (by decide +kernel)) ggX5_takesIn_X5_pair
set_option maxRecDepth 20000 in
theorem ggX5_takesIn_X5_becomes : GoodIn wsX5_takesIn wsX5_becomes := goodIn_ca (goodIn_r _ [17, 1, 11, 12, 5, 13, 7, 8, 9, 10, 18, 19, 20, 21, 22, 23, 24, 25, 26, 27, 28, 29] (by decide +kernel) (by decide +kernel)) (goodIn_sub (fun _ h => List.mem_cons_of_mem _ (List.mem_append_right _ h)) (by decide +kernel))
set_option maxRecDepth 20000 in
theorem gX5_takesIn_X5_becomes : GoodIn wsX5_takesIn (wsV RX5 45 RX5 yX5_becomes wsX5_becomes) := goodIn_app (goodIn_of _ (by decide +kernel)) ggX5_takesIn_X5_becomes
theorem dX5_takesIn_0 : decode cX5_takesIn 0 = .ok (.iload_n 1, 1) := by decide +kernel
theorem dX5_takesIn_1 : decode cX5_takesIn 1 = .ok (.iload_n 2, 1) := by decide +kernel
theorem dX5_takesIn_2 : decode cX5_takesIn 2 = .ok (.if_icmp .ne 12, 3) := by decide +kernel
theorem dX5_takesIn_5 : decode cX5_takesIn 5 = .ok (.aload_n 0, 1) := by decide +kernel
theorem dX5_takesIn_6 : decode cX5_takesIn 6 = .ok (.iload_n 1, 1) := by decide +kernel
theorem dX5_takesIn_7 : decode cX5_takesIn 7 = .ok (.iload_n 3, 1) := by decide +kernel
theorem dX5_takesIn_8 : decode cX5_takesIn 8 = .ok (.iload 4, 2) := by decide +kernel
theorem dX5_takesIn_10 : decode cX5_takesIn 10 = .ok (.invokevirtual 42, 3) := by decide +kernel
theorem dX5_takesIn_13 : decode cX5_takesIn 13 = .ok (.ireturn, 1) := by decide +kernel
theorem dX5_takesIn_14 : decode cX5_takesIn 14 = .ok (.iload_n 1, 1) := by decide +kernel
theorem dX5_takesIn_15 : decode cX5_takesIn 15 = .ok (.iload_n 2, 1) := by decide +kernel
theorem dX5_takesIn_16 : decode cX5_takesIn 16 = .ok (.invokestatic 34, 3) := by decide +kernel
theorem dX5_takesIn_19 : decode cX5_takesIn 19 = .ok (.istore 5, 2) := by decide +kernel
theorem dX5_takesIn_21 : decode cX5_takesIn 21 = .ok (.aload_n 0, 1) := by decide +kernel
theorem dX5_takesIn_22 : decode cX5_takesIn 22 = .ok (.getfield 7, 3) := by decide +kernel
theorem dX5_takesIn_25 : decode cX5_takesIn 25 = .ok (.bipush 42, 2) := by decide +kernel
theorem dX5_takesIn_27 : decode cX5_takesIn 27 = .ok (.iload 5, 2) := by decide +kernel
theorem dX5_takesIn_29 : decode cX5_takesIn 29 = .ok (.iadd, 1) := by decide +kernel
theorem dX5_takesIn_30 : decode cX5_takesIn 30 = .ok (.iaload, 1) := by decide +kernel
theorem dX5_takesIn_31 : decode cX5_takesIn 31 = .ok (.istore 6, 2) := by decide +kernel
theorem dX5_takesIn_33 : decode cX5_takesIn 33 = .ok (.aload_n 0, 1) := by decide +kernel
theorem dX5_takesIn_34 : decode cX5_takesIn 34 = .ok (.getfield 7, 3) := by decide +kernel
theorem dX5_takesIn_37 : decode cX5_takesIn 37 = .ok (.bipush 106, 2) := by decide +kernel
theorem dX5_takesIn_39 : decode cX5_takesIn 39 = .ok (.iload 5, 2) := by decide +kernel
theorem dX5_takesIn_41 : decode cX5_takesIn 41 = .ok (.iadd, 1) := by decide +kernel
theorem dX5_takesIn_42 : decode cX5_takesIn 42 = .ok (.iaload, 1) := by decide +kernel
theorem dX5_takesIn_43 : decode cX5_takesIn 43 = .ok (.istore 7, 2) := by decide +kernel
theorem dX5_takesIn_45 : decode cX5_takesIn 45 = .ok (.iload_n 3, 1) := by decide +kernel
theorem dX5_takesIn_46 : decode cX5_takesIn 46 = .ok (.iconst 2, 1) := by decide +kernel
theorem dX5_takesIn_47 : decode cX5_takesIn 47 = .ok (.if_icmp .ne 9, 3) := by decide +kernel
theorem dX5_takesIn_50 : decode cX5_takesIn 50 = .ok (.iload 6, 2) := by decide +kernel
theorem dX5_takesIn_52 : decode cX5_takesIn 52 = .ok (.iconst 1, 1) := by decide +kernel
theorem dX5_takesIn_53 : decode cX5_takesIn 53 = .ok (.if_icmp .eq 14, 3) := by decide +kernel
theorem dX5_takesIn_56 : decode cX5_takesIn 56 = .ok (.iload_n 3, 1) := by decide +kernel
theorem dX5_takesIn_57 : decode cX5_takesIn 57 = .ok (.iconst 3, 1) := by decide +kernel
theorem dX5_takesIn_58 : decode cX5_takesIn 58 = .ok (.if_icmp .ne 13, 3) := by decide +kernel
theorem dX5_takesIn_61 : decode cX5_takesIn 61 = .ok (.iload 6, 2) := by decide +kernel
theorem dX5_takesIn_63 : decode cX5_takesIn 63 = .ok (.iconst 3, 1) := by decide +kernel
theorem dX5_takesIn_64 : decode cX5_takesIn 64 = .ok (.if_icmp .eq 7, 3) := by decide +kernel
theorem dX5_takesIn_67 : decode cX5_takesIn 67 = .ok (.iconst 1, 1) := by decide +kernel
theorem dX5_takesIn_68 : decode cX5_takesIn 68 = .ok (.goto 4, 3) := by decide +kernel
theorem dX5_takesIn_71 : decode cX5_takesIn 71 = .ok (.iconst 0, 1) := by decide +kernel
theorem dX5_takesIn_72 : decode cX5_takesIn 72 = .ok (.istore 8, 2) := by decide +kernel
theorem dX5_takesIn_74 : decode cX5_takesIn 74 = .ok (.iload 6, 2) := by decide +kernel
theorem dX5_takesIn_76 : decode cX5_takesIn 76 = .ok (.ifCond .eq 24, 3) := by decide +kernel
theorem dX5_takesIn_79 : decode cX5_takesIn 79 = .ok (.iload 4, 2) := by decide +kernel
theorem dX5_takesIn_81 : decode cX5_takesIn 81 = .ok (.iload 7, 2) := by decide +kernel
theorem dX5_takesIn_83 : decode cX5_takesIn 83 = .ok (.if_icmp .gt 17, 3) := by decide +kernel
theorem dX5_takesIn_86 : decode cX5_takesIn 86 = .ok (.iload 4, 2) := by decide +kernel
theorem dX5_takesIn_88 : decode cX5_takesIn 88 = .ok (.iload 7, 2) := by decide +kernel
theorem dX5_takesIn_90 : decode cX5_takesIn 90 = .ok (.if_icmp .lt 8, 3) := by decide +kernel
theorem dX5_takesIn_93 : decode cX5_takesIn 93 = .ok (.iload 8, 2) := by decide +kernel
theorem dX5_takesIn_95 : decode cX5_takesIn 95 = .ok (.ifCond .ne 5, 3) := by decide +kernel
theorem dX5_takesIn_98 : decode cX5_takesIn 98 = .ok (.iconst 0, 1) := by decide +kernel
theorem dX5_takesIn_99 : decode cX5_takesIn 99 = .ok (.ireturn, 1) := by decide +kernel
theorem dX5_takesIn_100 : decode cX5_takesIn 100 = .ok (.aload_n 0, 1) := by decide +kernel
theorem dX5_takesIn_101 : decode cX5_takesIn 101 = .ok (.iload_n 1, 1) := by decide +kernel
theorem dX5_takesIn_102 : decode cX5_takesIn 102 = .ok (.iload_n 2, 1) := by decide +kernel
theorem dX5_takesIn_103 : decode cX5_takesIn 103 = .ok (.iload_n 3, 1) := by decide +kernel
theorem dX5_takesIn_104 : decode cX5_takesIn 104 = .ok (.iload 4, 2) := by decide +kernel
theorem dX5_takesIn_106 : decode cX5_takesIn 106 = .ok (.invokevirtual 45, 3) := by decide +kernel
theorem dX5_takesIn_109 : decode cX5_takesIn 109 = .ok (.iconst 1, 1) := by decide +kernel
theorem dX5_takesIn_110 : decode cX5_takesIn 110 = .ok (.ireturn, 1) := by decide +kernel
set_option maxRecDepth 20000 in
theorem ggX5_mostCounted_X5_pair : GoodIn wsX5_mostCounted wsX5_pair := goodIn_r _ [5] (by decide +kernel) (by decide +kernel)
set_option maxRecDepth 20000 in
theorem gX5_mostCounted_X5_pair : GoodIn wsX5_mostCounted (va_wsS RX5 34 yX5_pair wsX5_pair) := goodIn_app (goodIn_of _ (by decide +kernel)) ggX5_mostCounted_X5_pair
theorem dX5_mostCounted_0 : decode cX5_mostCounted 0 = .ok (.iconst (-1), 1) := by decide +kernel
theorem dX5_mostCounted_1 : decode cX5_mostCounted 1 = .ok (.istore_n 3, 1) := by decide +kernel
theorem dX5_mostCounted_2 : decode cX5_mostCounted 2 = .ok (.iconst 0, 1) := by decide +kernel
theorem dX5_mostCounted_3 : decode cX5_mostCounted 3 = .ok (.istore 4, 2) := by decide +kernel
theorem dX5_mostCounted_5 : decode cX5_mostCounted 5 = .ok (.iload 4, 2) := by decide +kernel
theorem dX5_mostCounted_7 : decode cX5_mostCounted 7 = .ok (.bipush 8, 2) := by decide +kernel
theorem dX5_mostCounted_9 : decode cX5_mostCounted 9 = .ok (.if_icmp .ge 67, 3) := by decide +kernel
theorem dX5_mostCounted_12 : decode cX5_mostCounted 12 = .ok (.aload_n 0, 1) := by decide +kernel
theorem dX5_mostCounted_13 : decode cX5_mostCounted 13 = .ok (.getfield 7, 3) := by decide +kernel
theorem dX5_mostCounted_16 : decode cX5_mostCounted 16 = .ok (.sipush 234, 3) := by decide +kernel
theorem dX5_mostCounted_19 : decode cX5_mostCounted 19 = .ok (.iload_n 1, 1) := by decide +kernel
theorem dX5_mostCounted_20 : decode cX5_mostCounted 20 = .ok (.iload 4, 2) := by decide +kernel
theorem dX5_mostCounted_22 : decode cX5_mostCounted 22 = .ok (.invokestatic 34, 3) := by decide +kernel
theorem dX5_mostCounted_25 : decode cX5_mostCounted 25 = .ok (.iadd, 1) := by decide +kernel
theorem dX5_mostCounted_26 : decode cX5_mostCounted 26 = .ok (.iaload, 1) := by decide +kernel
theorem dX5_mostCounted_27 : decode cX5_mostCounted 27 = .ok (.istore 5, 2) := by decide +kernel
theorem dX5_mostCounted_29 : decode cX5_mostCounted 29 = .ok (.iload 5, 2) := by decide +kernel
theorem dX5_mostCounted_31 : decode cX5_mostCounted 31 = .ok (.ifCond .le 39, 3) := by decide +kernel
theorem dX5_mostCounted_34 : decode cX5_mostCounted 34 = .ok (.iload_n 2, 1) := by decide +kernel
theorem dX5_mostCounted_35 : decode cX5_mostCounted 35 = .ok (.iload 4, 2) := by decide +kernel
theorem dX5_mostCounted_37 : decode cX5_mostCounted 37 = .ok (.ishr, 1) := by decide +kernel
theorem dX5_mostCounted_38 : decode cX5_mostCounted 38 = .ok (.iconst 1, 1) := by decide +kernel
theorem dX5_mostCounted_39 : decode cX5_mostCounted 39 = .ok (.iand, 1) := by decide +kernel
theorem dX5_mostCounted_40 : decode cX5_mostCounted 40 = .ok (.ifCond .ne 30, 3) := by decide +kernel
theorem dX5_mostCounted_43 : decode cX5_mostCounted 43 = .ok (.iload_n 3, 1) := by decide +kernel
theorem dX5_mostCounted_44 : decode cX5_mostCounted 44 = .ok (.iconst (-1), 1) := by decide +kernel
theorem dX5_mostCounted_45 : decode cX5_mostCounted 45 = .ok (.if_icmp .eq 22, 3) := by decide +kernel
theorem dX5_mostCounted_48 : decode cX5_mostCounted 48 = .ok (.iload 5, 2) := by decide +kernel
theorem dX5_mostCounted_50 : decode cX5_mostCounted 50 = .ok (.aload_n 0, 1) := by decide +kernel
theorem dX5_mostCounted_51 : decode cX5_mostCounted 51 = .ok (.getfield 7, 3) := by decide +kernel
theorem dX5_mostCounted_54 : decode cX5_mostCounted 54 = .ok (.sipush 234, 3) := by decide +kernel
theorem dX5_mostCounted_57 : decode cX5_mostCounted 57 = .ok (.iload_n 1, 1) := by decide +kernel
theorem dX5_mostCounted_58 : decode cX5_mostCounted 58 = .ok (.iload_n 3, 1) := by decide +kernel
theorem dX5_mostCounted_59 : decode cX5_mostCounted 59 = .ok (.invokestatic 34, 3) := by decide +kernel
theorem dX5_mostCounted_62 : decode cX5_mostCounted 62 = .ok (.iadd, 1) := by decide +kernel
theorem dX5_mostCounted_63 : decode cX5_mostCounted 63 = .ok (.iaload, 1) := by decide +kernel
theorem dX5_mostCounted_64 : decode cX5_mostCounted 64 = .ok (.if_icmp .le 6, 3) := by decide +kernel
theorem dX5_mostCounted_67 : decode cX5_mostCounted 67 = .ok (.iload 4, 2) := by decide +kernel
theorem dX5_mostCounted_69 : decode cX5_mostCounted 69 = .ok (.istore_n 3, 1) := by decide +kernel
theorem dX5_mostCounted_70 : decode cX5_mostCounted 70 = .ok (.iinc 4 1, 3) := by decide +kernel
theorem dX5_mostCounted_73 : decode cX5_mostCounted 73 = .ok (.goto (-68), 3) := by decide +kernel
theorem dX5_mostCounted_76 : decode cX5_mostCounted 76 = .ok (.iload_n 3, 1) := by decide +kernel
theorem dX5_mostCounted_77 : decode cX5_mostCounted 77 = .ok (.ireturn, 1) := by decide +kernel
set_option maxRecDepth 20000 in
theorem ggX5_composes_X5_pair : GoodIn wsX5_composes wsX5_pair := goodIn_r _ [7] (by decide +kernel) (by decide +kernel)
set_option maxRecDepth 20000 in
theorem gX5_composes_X5_pair : GoodIn wsX5_composes (va_wsS RX5 34 yX5_pair wsX5_pair) := goodIn_app (goodIn_of _ (by decide +kernel)) ggX5_composes_X5_pair
set_option maxRecDepth 20000 in
theorem ggX5_composes_X5_mostCounted : GoodIn wsX5_composes wsX5_mostCounted := goodIn_ca (goodIn_r _ [11, 2, 4, 5, 6, 7, 12, 13, 14, 15, 16, 17, 18, 19, 20, 21, 22, 23] (by decide +kernel) (by decide +kernel)) (goodIn_sub (fun _ h => List.mem_cons_of_mem _ (List.mem_append_right _ h)) (by decide +kernel))
set_option maxRecDepth 20000 in
theorem gX5_composes_X5_mostCounted : GoodIn wsX5_composes (wsV RX5 52 RX5 yX5_mostCounted wsX5_mostCounted) := goodIn_app (goodIn_of _ (by decide +kernel)) ggX5_composes_X5_mostCounted
theorem dX5_composes_0 : decode cX5_composes 0 = .ok (.aload_n 0, 1) := by decide +kernel
theorem dX5_composes_1 : decode cX5_composes 1 = .ok (.iconst 0, 1) := by decide +kernel
theorem dX5_composes_2 : decode cX5_composes 2 = .ok (.putfield 49, 3) := by decide +kernel
theorem dX5_composes_5 : decode cX5_composes 5 = .ok (.aload_n 0, 1) := by decide +kernel
theorem dX5_composes_6 : decode cX5_composes 6 = .ok (.getfield 7, 3) := by decide +kernel
theorem dX5_composes_9 : decode cX5_composes 9 = .ok (.bipush 42, 2) := by decide +kernel
theorem dX5_composes_11 : decode cX5_composes 11 = .ok (.iload_n 1, 1) := by decide +kernel
theorem dX5_composes_12 : decode cX5_composes 12 = .ok (.iload_n 2, 1) := by decide +kernel
theorem dX5_composes_13 : decode cX5_composes 13 = .ok (.invokestatic 34, 3) := by decide +kernel
theorem dX5_composes_16 : decode cX5_composes 16 = .ok (.iadd, 1) := by decide +kernel
theorem dX5_composes_17 : decode cX5_composes 17 = .ok (.iaload, 1) := by decide +kernel
theorem dX5_composes_18 : decode cX5_composes 18 = .ok (.iconst 2, 1) := by decide +kernel
theorem dX5_composes_19 : decode cX5_composes 19 = .ok (.if_icmp .eq 20, 3) := by decide +kernel
theorem dX5_composes_22 : decode cX5_composes 22 = .ok (.aload_n 0, 1) := by decide +kernel
theorem dX5_composes_23 : decode cX5_composes 23 = .ok (.getfield 7, 3) := by decide +kernel
theorem dX5_composes_26 : decode cX5_composes 26 = .ok (.bipush 42, 2) := by decide +kernel
theorem dX5_composes_28 : decode cX5_composes 28 = .ok (.iload_n 1, 1) := by decide +kernel
theorem dX5_composes_29 : decode cX5_composes 29 = .ok (.iload_n 2, 1) := by decide +kernel
theorem dX5_composes_30 : decode cX5_composes 30 = .ok (.invokestatic 34, 3) := by decide +kernel
theorem dX5_composes_33 : decode cX5_composes 33 = .ok (.iadd, 1) := by decide +kernel
theorem dX5_composes_34 : decode cX5_composes 34 = .ok (.iaload, 1) := by decide +kernel
theorem dX5_composes_35 : decode cX5_composes 35 = .ok (.iconst 3, 1) := by decide +kernel
theorem dX5_composes_36 : decode cX5_composes 36 = .ok (.if_icmp .ne 7, 3) := by decide +kernel
theorem dX5_composes_39 : decode cX5_composes 39 = .ok (.iconst 1, 1) := by decide +kernel
theorem dX5_composes_40 : decode cX5_composes 40 = .ok (.goto 4, 3) := by decide +kernel
theorem dX5_composes_43 : decode cX5_composes 43 = .ok (.iconst 0, 1) := by decide +kernel
theorem dX5_composes_44 : decode cX5_composes 44 = .ok (.istore_n 3, 1) := by decide +kernel
theorem dX5_composes_45 : decode cX5_composes 45 = .ok (.iload_n 3, 1) := by decide +kernel
theorem dX5_composes_46 : decode cX5_composes 46 = .ok (.ifCond .eq 15, 3) := by decide +kernel
theorem dX5_composes_49 : decode cX5_composes 49 = .ok (.aload_n 0, 1) := by decide +kernel
theorem dX5_composes_50 : decode cX5_composes 50 = .ok (.getfield 19, 3) := by decide +kernel
theorem dX5_composes_53 : decode cX5_composes 53 = .ok (.iconst 0, 1) := by decide +kernel
theorem dX5_composes_54 : decode cX5_composes 54 = .ok (.iload_n 2, 1) := by decide +kernel
theorem dX5_composes_55 : decode cX5_composes 55 = .ok (.iastore, 1) := by decide +kernel
theorem dX5_composes_56 : decode cX5_composes 56 = .ok (.aload_n 0, 1) := by decide +kernel
theorem dX5_composes_57 : decode cX5_composes 57 = .ok (.iconst 1, 1) := by decide +kernel
theorem dX5_composes_58 : decode cX5_composes 58 = .ok (.putfield 49, 3) := by decide +kernel
theorem dX5_composes_61 : decode cX5_composes 61 = .ok (.iconst 0, 1) := by decide +kernel
theorem dX5_composes_62 : decode cX5_composes 62 = .ok (.istore 4, 2) := by decide +kernel
theorem dX5_composes_64 : decode cX5_composes 64 = .ok (.iconst 0, 1) := by decide +kernel
theorem dX5_composes_65 : decode cX5_composes 65 = .ok (.istore 5, 2) := by decide +kernel
theorem dX5_composes_67 : decode cX5_composes 67 = .ok (.iload 5, 2) := by decide +kernel
theorem dX5_composes_69 : decode cX5_composes 69 = .ok (.iconst 3, 1) := by decide +kernel
theorem dX5_composes_70 : decode cX5_composes 70 = .ok (.if_icmp .ge 64, 3) := by decide +kernel
theorem dX5_composes_73 : decode cX5_composes 73 = .ok (.aload_n 0, 1) := by decide +kernel
theorem dX5_composes_74 : decode cX5_composes 74 = .ok (.iload_n 1, 1) := by decide +kernel
theorem dX5_composes_75 : decode cX5_composes 75 = .ok (.iload 4, 2) := by decide +kernel
theorem dX5_composes_77 : decode cX5_composes 77 = .ok (.invokevirtual 52, 3) := by decide +kernel
theorem dX5_composes_80 : decode cX5_composes 80 = .ok (.istore 6, 2) := by decide +kernel
theorem dX5_composes_82 : decode cX5_composes 82 = .ok (.iload 6, 2) := by decide +kernel
theorem dX5_composes_84 : decode cX5_composes 84 = .ok (.iconst (-1), 1) := by decide +kernel
theorem dX5_composes_85 : decode cX5_composes 85 = .ok (.if_icmp .eq 43, 3) := by decide +kernel
theorem dX5_composes_88 : decode cX5_composes 88 = .ok (.iload 4, 2) := by decide +kernel
theorem dX5_composes_90 : decode cX5_composes 90 = .ok (.iconst 1, 1) := by decide +kernel
theorem dX5_composes_91 : decode cX5_composes 91 = .ok (.iload 6, 2) := by decide +kernel
theorem dX5_composes_93 : decode cX5_composes 93 = .ok (.ishl, 1) := by decide +kernel
theorem dX5_composes_94 : decode cX5_composes 94 = .ok (.ior, 1) := by decide +kernel
theorem dX5_composes_95 : decode cX5_composes 95 = .ok (.istore 4, 2) := by decide +kernel
theorem dX5_composes_97 : decode cX5_composes 97 = .ok (.iload 6, 2) := by decide +kernel
theorem dX5_composes_99 : decode cX5_composes 99 = .ok (.iload_n 2, 1) := by decide +kernel
theorem dX5_composes_100 : decode cX5_composes 100 = .ok (.if_icmp .ne 7, 3) := by decide +kernel
theorem dX5_composes_103 : decode cX5_composes 103 = .ok (.iload_n 3, 1) := by decide +kernel
theorem dX5_composes_104 : decode cX5_composes 104 = .ok (.ifCond .ne 24, 3) := by decide +kernel
theorem dX5_composes_107 : decode cX5_composes 107 = .ok (.aload_n 0, 1) := by decide +kernel
theorem dX5_composes_108 : decode cX5_composes 108 = .ok (.getfield 19, 3) := by decide +kernel
theorem dX5_composes_111 : decode cX5_composes 111 = .ok (.aload_n 0, 1) := by decide +kernel
theorem dX5_composes_112 : decode cX5_composes 112 = .ok (.getfield 49, 3) := by decide +kernel
theorem dX5_composes_115 : decode cX5_composes 115 = .ok (.iload 6, 2) := by decide +kernel
theorem dX5_composes_117 : decode cX5_composes 117 = .ok (.iastore, 1) := by decide +kernel
theorem dX5_composes_118 : decode cX5_composes 118 = .ok (.aload_n 0, 1) := by decide +kernel
theorem dX5_composes_119 : decode cX5_composes 119 = .ok (.dup, 1) := by decide +kernel
theorem dX5_composes_120 : decode cX5_composes 120 = .ok (.getfield 49, 3) := by decide +kernel
theorem dX5_composes_123 : decode cX5_composes 123 = .ok (.iconst 1, 1) := by decide +kernel
theorem dX5_composes_124 : decode cX5_composes 124 = .ok (.iadd, 1) := by decide +kernel
theorem dX5_composes_125 : decode cX5_composes 125 = .ok (.putfield 49, 3) := by decide +kernel
theorem dX5_composes_128 : decode cX5_composes 128 = .ok (.iinc 5 1, 3) := by decide +kernel
theorem dX5_composes_131 : decode cX5_composes 131 = .ok (.goto (-64), 3) := by decide +kernel
theorem dX5_composes_134 : decode cX5_composes 134 = .ok (.iconst 0, 1) := by decide +kernel
theorem dX5_composes_135 : decode cX5_composes 135 = .ok (.istore 5, 2) := by decide +kernel
theorem dX5_composes_137 : decode cX5_composes 137 = .ok (.iload 5, 2) := by decide +kernel
theorem dX5_composes_139 : decode cX5_composes 139 = .ok (.bipush 8, 2) := by decide +kernel
theorem dX5_composes_141 : decode cX5_composes 141 = .ok (.if_icmp .ge 34, 3) := by decide +kernel
theorem dX5_composes_144 : decode cX5_composes 144 = .ok (.aload_n 0, 1) := by decide +kernel
theorem dX5_composes_145 : decode cX5_composes 145 = .ok (.getfield 7, 3) := by decide +kernel
theorem dX5_composes_148 : decode cX5_composes 148 = .ok (.sipush 234, 3) := by decide +kernel
theorem dX5_composes_151 : decode cX5_composes 151 = .ok (.iload_n 1, 1) := by decide +kernel
theorem dX5_composes_152 : decode cX5_composes 152 = .ok (.iload 5, 2) := by decide +kernel
theorem dX5_composes_154 : decode cX5_composes 154 = .ok (.invokestatic 34, 3) := by decide +kernel
theorem dX5_composes_157 : decode cX5_composes 157 = .ok (.iadd, 1) := by decide +kernel
theorem dX5_composes_158 : decode cX5_composes 158 = .ok (.dup2, 1) := by decide +kernel
theorem dX5_composes_159 : decode cX5_composes 159 = .ok (.iaload, 1) := by decide +kernel
theorem dX5_composes_160 : decode cX5_composes 160 = .ok (.iload 4, 2) := by decide +kernel
theorem dX5_composes_162 : decode cX5_composes 162 = .ok (.iload 5, 2) := by decide +kernel
theorem dX5_composes_164 : decode cX5_composes 164 = .ok (.ishr, 1) := by decide +kernel
theorem dX5_composes_165 : decode cX5_composes 165 = .ok (.iconst 1, 1) := by decide +kernel
theorem dX5_composes_166 : decode cX5_composes 166 = .ok (.iand, 1) := by decide +kernel
theorem dX5_composes_167 : decode cX5_composes 167 = .ok (.isub, 1) := by decide +kernel
theorem dX5_composes_168 : decode cX5_composes 168 = .ok (.iastore, 1) := by decide +kernel
theorem dX5_composes_169 : decode cX5_composes 169 = .ok (.iinc 5 1, 3) := by decide +kernel
theorem dX5_composes_172 : decode cX5_composes 172 = .ok (.goto (-35), 3) := by decide +kernel
theorem dX5_composes_175 : decode cX5_composes 175 = .ok (.return_, 1) := by decide +kernel
set_option maxRecDepth 20000 in
theorem ggX5_sends_X5_composes : GoodIn wsX5_sends wsX5_composes := goodIn_ca (goodIn_r _ [8, 2, 1, 3, 9, 10, 7, 11, 12, 13, 14, 15, 32, 33, 34, 35, 36, 37, 38, 39, 40, 41, 42, 43] (by decide +kernel) (by decide +kernel)) (goodIn_sub (fun _ h => List.mem_cons_of_mem _ (List.mem_append_right _ h)) (by decide +kernel))
set_option maxRecDepth 20000 in
theorem gX5_sends_X5_composes : GoodIn wsX5_sends (wsV RX5 55 RX5 yX5_composes wsX5_composes) := goodIn_app (goodIn_of _ (by decide +kernel)) ggX5_sends_X5_composes
set_option maxRecDepth 20000 in
theorem ggX5_sends_X5_pair : GoodIn wsX5_sends wsX5_pair := goodIn_r _ [11] (by decide +kernel) (by decide +kernel)
set_option maxRecDepth 20000 in
theorem gX5_sends_X5_pair : GoodIn wsX5_sends (va_wsS RX5 34 yX5_pair wsX5_pair) := goodIn_app (goodIn_of _ (by decide +kernel)) ggX5_sends_X5_pair
set_option maxRecDepth 20000 in
theorem ggX5_sends_X5_takesIn : GoodIn wsX5_sends wsX5_takesIn := goodIn_ca (goodIn_r _ [19, 1, 20, 21, 22, 7, 23, 24, 25, 26, 27, 9, 10, 11, 28, 29, 30, 31, 32, 33, 34, 35, 36, 37, 38, 39, 40, 41, 42, 43] (by decide +kernel) (by decide +kernel)) (goodIn_sub (fun _ h => List.mem_cons_of_mem _ (List.mem_append_right _ h)) (by decide +kernel))
set_option maxRecDepth 20000 in
theorem gX5_sends_X5_takesIn : GoodIn wsX5_sends (wsV RX5 58 RX5 yX5_takesIn wsX5_takesIn) := goodIn_app (goodIn_of _ (by decide +kernel)) ggX5_sends_X5_takesIn
theorem dX5_sends_0 : decode cX5_sends 0 = .ok (.aload_n 0, 1) := by decide +kernel
theorem dX5_sends_1 : decode cX5_sends 1 = .ok (.iload_n 1, 1) := by decide +kernel
theorem dX5_sends_2 : decode cX5_sends 2 = .ok (.iload_n 2, 1) := by decide +kernel
theorem dX5_sends_3 : decode cX5_sends 3 = .ok (.invokevirtual 55, 3) := by decide +kernel
theorem dX5_sends_6 : decode cX5_sends 6 = .ok (.aload_n 0, 1) := by decide +kernel
theorem dX5_sends_7 : decode cX5_sends 7 = .ok (.getfield 7, 3) := by decide +kernel
theorem dX5_sends_10 : decode cX5_sends 10 = .ok (.bipush 8, 2) := by decide +kernel
theorem dX5_sends_12 : decode cX5_sends 12 = .ok (.dup2, 1) := by decide +kernel
theorem dX5_sends_13 : decode cX5_sends 13 = .ok (.iaload, 1) := by decide +kernel
theorem dX5_sends_14 : decode cX5_sends 14 = .ok (.iconst 1, 1) := by decide +kernel
theorem dX5_sends_15 : decode cX5_sends 15 = .ok (.iadd, 1) := by decide +kernel
theorem dX5_sends_16 : decode cX5_sends 16 = .ok (.iastore, 1) := by decide +kernel
theorem dX5_sends_17 : decode cX5_sends 17 = .ok (.iconst 0, 1) := by decide +kernel
theorem dX5_sends_18 : decode cX5_sends 18 = .ok (.istore_n 3, 1) := by decide +kernel
theorem dX5_sends_19 : decode cX5_sends 19 = .ok (.iload_n 3, 1) := by decide +kernel
theorem dX5_sends_20 : decode cX5_sends 20 = .ok (.aload_n 0, 1) := by decide +kernel
theorem dX5_sends_21 : decode cX5_sends 21 = .ok (.getfield 49, 3) := by decide +kernel
theorem dX5_sends_24 : decode cX5_sends 24 = .ok (.if_icmp .ge 80, 3) := by decide +kernel
theorem dX5_sends_27 : decode cX5_sends 27 = .ok (.aload_n 0, 1) := by decide +kernel
theorem dX5_sends_28 : decode cX5_sends 28 = .ok (.getfield 19, 3) := by decide +kernel
theorem dX5_sends_31 : decode cX5_sends 31 = .ok (.iload_n 3, 1) := by decide +kernel
theorem dX5_sends_32 : decode cX5_sends 32 = .ok (.iaload, 1) := by decide +kernel
theorem dX5_sends_33 : decode cX5_sends 33 = .ok (.istore 4, 2) := by decide +kernel
theorem dX5_sends_35 : decode cX5_sends 35 = .ok (.iload_n 1, 1) := by decide +kernel
theorem dX5_sends_36 : decode cX5_sends 36 = .ok (.iload 4, 2) := by decide +kernel
theorem dX5_sends_38 : decode cX5_sends 38 = .ok (.invokestatic 34, 3) := by decide +kernel
theorem dX5_sends_41 : decode cX5_sends 41 = .ok (.istore 5, 2) := by decide +kernel
theorem dX5_sends_43 : decode cX5_sends 43 = .ok (.iload 4, 2) := by decide +kernel
theorem dX5_sends_45 : decode cX5_sends 45 = .ok (.iload_n 1, 1) := by decide +kernel
theorem dX5_sends_46 : decode cX5_sends 46 = .ok (.if_icmp .ne 24, 3) := by decide +kernel
theorem dX5_sends_49 : decode cX5_sends 49 = .ok (.aload_n 0, 1) := by decide +kernel
theorem dX5_sends_50 : decode cX5_sends 50 = .ok (.iload_n 2, 1) := by decide +kernel
theorem dX5_sends_51 : decode cX5_sends 51 = .ok (.iload 4, 2) := by decide +kernel
theorem dX5_sends_53 : decode cX5_sends 53 = .ok (.iconst 1, 1) := by decide +kernel
theorem dX5_sends_54 : decode cX5_sends 54 = .ok (.aload_n 0, 1) := by decide +kernel
theorem dX5_sends_55 : decode cX5_sends 55 = .ok (.getfield 7, 3) := by decide +kernel
theorem dX5_sends_58 : decode cX5_sends 58 = .ok (.bipush 34, 2) := by decide +kernel
theorem dX5_sends_60 : decode cX5_sends 60 = .ok (.iload_n 1, 1) := by decide +kernel
theorem dX5_sends_61 : decode cX5_sends 61 = .ok (.iadd, 1) := by decide +kernel
theorem dX5_sends_62 : decode cX5_sends 62 = .ok (.iaload, 1) := by decide +kernel
theorem dX5_sends_63 : decode cX5_sends 63 = .ok (.invokevirtual 58, 3) := by decide +kernel
theorem dX5_sends_66 : decode cX5_sends 66 = .ok (.pop, 1) := by decide +kernel
theorem dX5_sends_67 : decode cX5_sends 67 = .ok (.goto 31, 3) := by decide +kernel
theorem dX5_sends_70 : decode cX5_sends 70 = .ok (.aload_n 0, 1) := by decide +kernel
theorem dX5_sends_71 : decode cX5_sends 71 = .ok (.iload_n 2, 1) := by decide +kernel
theorem dX5_sends_72 : decode cX5_sends 72 = .ok (.iload 4, 2) := by decide +kernel
theorem dX5_sends_74 : decode cX5_sends 74 = .ok (.aload_n 0, 1) := by decide +kernel
theorem dX5_sends_75 : decode cX5_sends 75 = .ok (.getfield 7, 3) := by decide +kernel
theorem dX5_sends_78 : decode cX5_sends 78 = .ok (.bipush 42, 2) := by decide +kernel
theorem dX5_sends_80 : decode cX5_sends 80 = .ok (.iload 5, 2) := by decide +kernel
theorem dX5_sends_82 : decode cX5_sends 82 = .ok (.iadd, 1) := by decide +kernel
theorem dX5_sends_83 : decode cX5_sends 83 = .ok (.iaload, 1) := by decide +kernel
theorem dX5_sends_84 : decode cX5_sends 84 = .ok (.aload_n 0, 1) := by decide +kernel
theorem dX5_sends_85 : decode cX5_sends 85 = .ok (.getfield 7, 3) := by decide +kernel
theorem dX5_sends_88 : decode cX5_sends 88 = .ok (.bipush 106, 2) := by decide +kernel
theorem dX5_sends_90 : decode cX5_sends 90 = .ok (.iload 5, 2) := by decide +kernel
theorem dX5_sends_92 : decode cX5_sends 92 = .ok (.iadd, 1) := by decide +kernel
theorem dX5_sends_93 : decode cX5_sends 93 = .ok (.iaload, 1) := by decide +kernel
theorem dX5_sends_94 : decode cX5_sends 94 = .ok (.invokevirtual 58, 3) := by decide +kernel
theorem dX5_sends_97 : decode cX5_sends 97 = .ok (.pop, 1) := by decide +kernel
theorem dX5_sends_98 : decode cX5_sends 98 = .ok (.iinc 3 1, 3) := by decide +kernel
theorem dX5_sends_101 : decode cX5_sends 101 = .ok (.goto (-82), 3) := by decide +kernel
theorem dX5_sends_104 : decode cX5_sends 104 = .ok (.return_, 1) := by decide +kernel
theorem dX5_draws_0 : decode cX5_draws 0 = .ok (.aload_n 0, 1) := by decide +kernel
theorem dX5_draws_1 : decode cX5_draws 1 = .ok (.getfield 7, 3) := by decide +kernel
theorem dX5_draws_4 : decode cX5_draws 4 = .ok (.iconst 1, 1) := by decide +kernel
theorem dX5_draws_5 : decode cX5_draws 5 = .ok (.iaload, 1) := by decide +kernel
theorem dX5_draws_6 : decode cX5_draws 6 = .ok (.i2l, 1) := by decide +kernel
theorem dX5_draws_7 : decode cX5_draws 7 = .ok (.ldc2_w 62, 3) := by decide +kernel
theorem dX5_draws_10 : decode cX5_draws 10 = .ok (.lmul, 1) := by decide +kernel
theorem dX5_draws_11 : decode cX5_draws 11 = .ok (.ldc2_w 64, 3) := by decide +kernel
theorem dX5_draws_14 : decode cX5_draws 14 = .ok (.ladd, 1) := by decide +kernel
theorem dX5_draws_15 : decode cX5_draws 15 = .ok (.ldc2_w 66, 3) := by decide +kernel
theorem dX5_draws_18 : decode cX5_draws 18 = .ok (.lrem, 1) := by decide +kernel
theorem dX5_draws_19 : decode cX5_draws 19 = .ok (.lstore_n 2, 1) := by decide +kernel
theorem dX5_draws_20 : decode cX5_draws 20 = .ok (.aload_n 0, 1) := by decide +kernel
theorem dX5_draws_21 : decode cX5_draws 21 = .ok (.getfield 7, 3) := by decide +kernel
theorem dX5_draws_24 : decode cX5_draws 24 = .ok (.iconst 1, 1) := by decide +kernel
theorem dX5_draws_25 : decode cX5_draws 25 = .ok (.lload_n 2, 1) := by decide +kernel
theorem dX5_draws_26 : decode cX5_draws 26 = .ok (.l2i, 1) := by decide +kernel
theorem dX5_draws_27 : decode cX5_draws 27 = .ok (.iastore, 1) := by decide +kernel
theorem dX5_draws_28 : decode cX5_draws 28 = .ok (.lload_n 2, 1) := by decide +kernel
theorem dX5_draws_29 : decode cX5_draws 29 = .ok (.ldc2_w 68, 3) := by decide +kernel
theorem dX5_draws_32 : decode cX5_draws 32 = .ok (.ldiv, 1) := by decide +kernel
theorem dX5_draws_33 : decode cX5_draws 33 = .ok (.iload_n 1, 1) := by decide +kernel
theorem dX5_draws_34 : decode cX5_draws 34 = .ok (.i2l, 1) := by decide +kernel
theorem dX5_draws_35 : decode cX5_draws 35 = .ok (.lrem, 1) := by decide +kernel
theorem dX5_draws_36 : decode cX5_draws 36 = .ok (.l2i, 1) := by decide +kernel
theorem dX5_draws_37 : decode cX5_draws 37 = .ok (.ireturn, 1) := by decide +kernel
theorem dX5_bits_0 : decode cX5_bits 0 = .ok (.iconst 0, 1) := by decide +kernel
theorem dX5_bits_1 : decode cX5_bits 1 = .ok (.istore_n 1, 1) := by decide +kernel
theorem dX5_bits_2 : decode cX5_bits 2 = .ok (.iconst 0, 1) := by decide +kernel
theorem dX5_bits_3 : decode cX5_bits 3 = .ok (.istore_n 2, 1) := by decide +kernel
theorem dX5_bits_4 : decode cX5_bits 4 = .ok (.iload_n 2, 1) := by decide +kernel
theorem dX5_bits_5 : decode cX5_bits 5 = .ok (.bipush 8, 2) := by decide +kernel
theorem dX5_bits_7 : decode cX5_bits 7 = .ok (.if_icmp .ge 17, 3) := by decide +kernel
theorem dX5_bits_10 : decode cX5_bits 10 = .ok (.iload_n 1, 1) := by decide +kernel
theorem dX5_bits_11 : decode cX5_bits 11 = .ok (.iload_n 0, 1) := by decide +kernel
theorem dX5_bits_12 : decode cX5_bits 12 = .ok (.iload_n 2, 1) := by decide +kernel
theorem dX5_bits_13 : decode cX5_bits 13 = .ok (.ishr, 1) := by decide +kernel
theorem dX5_bits_14 : decode cX5_bits 14 = .ok (.iconst 1, 1) := by decide +kernel
theorem dX5_bits_15 : decode cX5_bits 15 = .ok (.iand, 1) := by decide +kernel
theorem dX5_bits_16 : decode cX5_bits 16 = .ok (.iadd, 1) := by decide +kernel
theorem dX5_bits_17 : decode cX5_bits 17 = .ok (.istore_n 1, 1) := by decide +kernel
theorem dX5_bits_18 : decode cX5_bits 18 = .ok (.iinc 2 1, 3) := by decide +kernel
theorem dX5_bits_21 : decode cX5_bits 21 = .ok (.goto (-17), 3) := by decide +kernel
theorem dX5_bits_24 : decode cX5_bits 24 = .ok (.iload_n 1, 1) := by decide +kernel
theorem dX5_bits_25 : decode cX5_bits 25 = .ok (.ireturn, 1) := by decide +kernel
set_option maxRecDepth 20000 in
theorem ggX5_drawn_X5_bits : GoodIn wsX5_drawn wsX5_bits := goodIn_r _ [4] (by decide +kernel) (by decide +kernel)
set_option maxRecDepth 20000 in
theorem gX5_drawn_X5_bits : GoodIn wsX5_drawn (va_wsS RX5 70 yX5_bits wsX5_bits) := goodIn_app (goodIn_of _ (by decide +kernel)) ggX5_drawn_X5_bits
set_option maxRecDepth 20000 in
theorem ggX5_drawn_X5_draws : GoodIn wsX5_drawn wsX5_draws := goodIn_ca (goodIn_ca (goodIn_r _ [8, 9, 10, 11, 12, 13, 14, 15, 16, 17, 18, 19, 20, 21, 22, 23, 24, 25] (by decide +kernel) (by decide +kernel)) (goodIn_sub (fun _ h => List.mem_cons_of_mem _ (List.mem_append_left _ (List.mem_append_right _ h))) (by decide +kernel))) (goodIn_sub (fun _ h => List.mem_cons_of_mem _ (List.mem_append_right _ h)) (by decide +kernel))
set_option maxRecDepth 20000 in
theorem gX5_drawn_X5_draws : GoodIn wsX5_drawn (wsV RX5 74 RX5 yX5_draws wsX5_draws) := goodIn_app (goodIn_of _ (by decide +kernel)) ggX5_drawn_X5_draws
theorem dX5_drawn_0 : decode cX5_drawn 0 = .ok (.aload_n 0, 1) := by decide +kernel
theorem dX5_drawn_1 : decode cX5_drawn 1 = .ok (.iload_n 1, 1) := by decide +kernel
theorem dX5_drawn_2 : decode cX5_drawn 2 = .ok (.invokestatic 70, 3) := by decide +kernel
theorem dX5_drawn_5 : decode cX5_drawn 5 = .ok (.invokevirtual 74, 3) := by decide +kernel
theorem dX5_drawn_8 : decode cX5_drawn 8 = .ok (.istore_n 2, 1) := by decide +kernel
theorem dX5_drawn_9 : decode cX5_drawn 9 = .ok (.iconst 0, 1) := by decide +kernel
theorem dX5_drawn_10 : decode cX5_drawn 10 = .ok (.istore_n 3, 1) := by decide +kernel
theorem dX5_drawn_11 : decode cX5_drawn 11 = .ok (.iload_n 1, 1) := by decide +kernel
theorem dX5_drawn_12 : decode cX5_drawn 12 = .ok (.iload_n 3, 1) := by decide +kernel
theorem dX5_drawn_13 : decode cX5_drawn 13 = .ok (.ishr, 1) := by decide +kernel
theorem dX5_drawn_14 : decode cX5_drawn 14 = .ok (.iconst 1, 1) := by decide +kernel
theorem dX5_drawn_15 : decode cX5_drawn 15 = .ok (.iand, 1) := by decide +kernel
theorem dX5_drawn_16 : decode cX5_drawn 16 = .ok (.ifCond .eq 7, 3) := by decide +kernel
theorem dX5_drawn_19 : decode cX5_drawn 19 = .ok (.iload_n 2, 1) := by decide +kernel
theorem dX5_drawn_20 : decode cX5_drawn 20 = .ok (.ifCond .le 17, 3) := by decide +kernel
theorem dX5_drawn_23 : decode cX5_drawn 23 = .ok (.iload_n 2, 1) := by decide +kernel
theorem dX5_drawn_24 : decode cX5_drawn 24 = .ok (.iload_n 1, 1) := by decide +kernel
theorem dX5_drawn_25 : decode cX5_drawn 25 = .ok (.iload_n 3, 1) := by decide +kernel
theorem dX5_drawn_26 : decode cX5_drawn 26 = .ok (.ishr, 1) := by decide +kernel
theorem dX5_drawn_27 : decode cX5_drawn 27 = .ok (.iconst 1, 1) := by decide +kernel
theorem dX5_drawn_28 : decode cX5_drawn 28 = .ok (.iand, 1) := by decide +kernel
theorem dX5_drawn_29 : decode cX5_drawn 29 = .ok (.isub, 1) := by decide +kernel
theorem dX5_drawn_30 : decode cX5_drawn 30 = .ok (.istore_n 2, 1) := by decide +kernel
theorem dX5_drawn_31 : decode cX5_drawn 31 = .ok (.iinc 3 1, 3) := by decide +kernel
theorem dX5_drawn_34 : decode cX5_drawn 34 = .ok (.goto (-23), 3) := by decide +kernel
theorem dX5_drawn_37 : decode cX5_drawn 37 = .ok (.iload_n 3, 1) := by decide +kernel
theorem dX5_drawn_38 : decode cX5_drawn 38 = .ok (.ireturn, 1) := by decide +kernel
set_option maxRecDepth 20000 in
theorem ggX5_viewed_X5_pair : GoodIn wsX5_viewed wsX5_pair := goodIn_r _ [5] (by decide +kernel) (by decide +kernel)
set_option maxRecDepth 20000 in
theorem gX5_viewed_X5_pair : GoodIn wsX5_viewed (va_wsS RX5 34 yX5_pair wsX5_pair) := goodIn_app (goodIn_of _ (by decide +kernel)) ggX5_viewed_X5_pair
set_option maxRecDepth 20000 in
theorem ggX5_viewed_X5_in : GoodIn wsX5_viewed wsX5_in := goodIn_r _ [8] (by decide +kernel) (by decide +kernel)
set_option maxRecDepth 20000 in
theorem gX5_viewed_X5_in : GoodIn wsX5_viewed (va_wsS RX5 26 yX5_in wsX5_in) := goodIn_app (goodIn_of _ (by decide +kernel)) ggX5_viewed_X5_in
theorem dX5_viewed_0 : decode cX5_viewed 0 = .ok (.iconst 0, 1) := by decide +kernel
theorem dX5_viewed_1 : decode cX5_viewed 1 = .ok (.istore 4, 2) := by decide +kernel
theorem dX5_viewed_3 : decode cX5_viewed 3 = .ok (.iconst 0, 1) := by decide +kernel
theorem dX5_viewed_4 : decode cX5_viewed 4 = .ok (.istore 5, 2) := by decide +kernel
theorem dX5_viewed_6 : decode cX5_viewed 6 = .ok (.iload 5, 2) := by decide +kernel
theorem dX5_viewed_8 : decode cX5_viewed 8 = .ok (.bipush 8, 2) := by decide +kernel
theorem dX5_viewed_10 : decode cX5_viewed 10 = .ok (.if_icmp .ge 50, 3) := by decide +kernel
theorem dX5_viewed_13 : decode cX5_viewed 13 = .ok (.iload 4, 2) := by decide +kernel
theorem dX5_viewed_15 : decode cX5_viewed 15 = .ok (.iload 5, 2) := by decide +kernel
theorem dX5_viewed_17 : decode cX5_viewed 17 = .ok (.iload_n 1, 1) := by decide +kernel
theorem dX5_viewed_18 : decode cX5_viewed 18 = .ok (.if_icmp .eq 32, 3) := by decide +kernel
theorem dX5_viewed_21 : decode cX5_viewed 21 = .ok (.aload_n 0, 1) := by decide +kernel
theorem dX5_viewed_22 : decode cX5_viewed 22 = .ok (.getfield 7, 3) := by decide +kernel
theorem dX5_viewed_25 : decode cX5_viewed 25 = .ok (.bipush 42, 2) := by decide +kernel
theorem dX5_viewed_27 : decode cX5_viewed 27 = .ok (.iload_n 1, 1) := by decide +kernel
theorem dX5_viewed_28 : decode cX5_viewed 28 = .ok (.iload 5, 2) := by decide +kernel
theorem dX5_viewed_30 : decode cX5_viewed 30 = .ok (.invokestatic 34, 3) := by decide +kernel
theorem dX5_viewed_33 : decode cX5_viewed 33 = .ok (.iadd, 1) := by decide +kernel
theorem dX5_viewed_34 : decode cX5_viewed 34 = .ok (.iaload, 1) := by decide +kernel
theorem dX5_viewed_35 : decode cX5_viewed 35 = .ok (.iload_n 2, 1) := by decide +kernel
theorem dX5_viewed_36 : decode cX5_viewed 36 = .ok (.iload_n 3, 1) := by decide +kernel
theorem dX5_viewed_37 : decode cX5_viewed 37 = .ok (.invokestatic 26, 3) := by decide +kernel
theorem dX5_viewed_40 : decode cX5_viewed 40 = .ok (.ifCond .eq 10, 3) := by decide +kernel
theorem dX5_viewed_43 : decode cX5_viewed 43 = .ok (.iconst 1, 1) := by decide +kernel
theorem dX5_viewed_44 : decode cX5_viewed 44 = .ok (.iload 5, 2) := by decide +kernel
theorem dX5_viewed_46 : decode cX5_viewed 46 = .ok (.ishl, 1) := by decide +kernel
theorem dX5_viewed_47 : decode cX5_viewed 47 = .ok (.goto 4, 3) := by decide +kernel
theorem dX5_viewed_50 : decode cX5_viewed 50 = .ok (.iconst 0, 1) := by decide +kernel
theorem dX5_viewed_51 : decode cX5_viewed 51 = .ok (.ior, 1) := by decide +kernel
theorem dX5_viewed_52 : decode cX5_viewed 52 = .ok (.istore 4, 2) := by decide +kernel
theorem dX5_viewed_54 : decode cX5_viewed 54 = .ok (.iinc 5 1, 3) := by decide +kernel
theorem dX5_viewed_57 : decode cX5_viewed 57 = .ok (.goto (-51), 3) := by decide +kernel
theorem dX5_viewed_60 : decode cX5_viewed 60 = .ok (.iload 4, 2) := by decide +kernel
theorem dX5_viewed_62 : decode cX5_viewed 62 = .ok (.ireturn, 1) := by decide +kernel
set_option maxRecDepth 20000 in
theorem ggX5_declares_X5_pair : GoodIn wsX5_declares wsX5_pair := goodIn_r _ [5] (by decide +kernel) (by decide +kernel)
set_option maxRecDepth 20000 in
theorem gX5_declares_X5_pair : GoodIn wsX5_declares (va_wsS RX5 34 yX5_pair wsX5_pair) := goodIn_app (goodIn_of _ (by decide +kernel)) ggX5_declares_X5_pair
set_option maxRecDepth 20000 in
theorem ggX5_declares_X5_becomes : GoodIn wsX5_declares wsX5_becomes := goodIn_ca (goodIn_r _ [9, 1, 2, 3, 4, 5, 10, 11, 12, 13, 22, 23, 24, 25, 26, 27, 28, 29, 30, 31, 32, 33] (by decide +kernel) (by decide +kernel)) (goodIn_sub (fun _ h => List.mem_cons_of_mem _ (List.mem_append_right _ h)) (by decide +kernel))
set_option maxRecDepth 20000 in
theorem gX5_declares_X5_becomes : GoodIn wsX5_declares (wsV RX5 45 RX5 yX5_becomes wsX5_becomes) := goodIn_app (goodIn_of _ (by decide +kernel)) ggX5_declares_X5_becomes
set_option maxRecDepth 20000 in
theorem ggX5_declares_X5_canReach : GoodIn wsX5_declares wsX5_canReach := goodIn_ca (goodIn_r _ [17, 1, 18, 19, 20, 4, 21, 2, 3, 5, 22, 23, 24, 25, 26, 27, 28, 29, 30, 31, 32, 33] (by decide +kernel) (by decide +kernel)) (goodIn_sub (fun _ h => List.mem_cons_of_mem _ (List.mem_append_right _ h)) (by decide +kernel))
set_option maxRecDepth 20000 in
theorem gX5_declares_X5_canReach : GoodIn wsX5_declares (wsV RX5 77 RX5 yX5_canReach wsX5_canReach) := goodIn_app (goodIn_of _ (by decide +kernel)) ggX5_declares_X5_canReach
theorem dX5_declares_0 : decode cX5_declares 0 = .ok (.iconst 0, 1) := by decide +kernel
theorem dX5_declares_1 : decode cX5_declares 1 = .ok (.istore_n 2, 1) := by decide +kernel
theorem dX5_declares_2 : decode cX5_declares 2 = .ok (.iload_n 2, 1) := by decide +kernel
theorem dX5_declares_3 : decode cX5_declares 3 = .ok (.bipush 8, 2) := by decide +kernel
theorem dX5_declares_5 : decode cX5_declares 5 = .ok (.if_icmp .ge 102, 3) := by decide +kernel
theorem dX5_declares_8 : decode cX5_declares 8 = .ok (.iload_n 1, 1) := by decide +kernel
theorem dX5_declares_9 : decode cX5_declares 9 = .ok (.iload_n 2, 1) := by decide +kernel
theorem dX5_declares_10 : decode cX5_declares 10 = .ok (.invokestatic 34, 3) := by decide +kernel
theorem dX5_declares_13 : decode cX5_declares 13 = .ok (.istore_n 3, 1) := by decide +kernel
theorem dX5_declares_14 : decode cX5_declares 14 = .ok (.iload_n 2, 1) := by decide +kernel
theorem dX5_declares_15 : decode cX5_declares 15 = .ok (.iload_n 1, 1) := by decide +kernel
theorem dX5_declares_16 : decode cX5_declares 16 = .ok (.if_icmp .eq 85, 3) := by decide +kernel
theorem dX5_declares_19 : decode cX5_declares 19 = .ok (.aload_n 0, 1) := by decide +kernel
theorem dX5_declares_20 : decode cX5_declares 20 = .ok (.getfield 7, 3) := by decide +kernel
theorem dX5_declares_23 : decode cX5_declares 23 = .ok (.bipush 42, 2) := by decide +kernel
theorem dX5_declares_25 : decode cX5_declares 25 = .ok (.iload_n 3, 1) := by decide +kernel
theorem dX5_declares_26 : decode cX5_declares 26 = .ok (.iadd, 1) := by decide +kernel
theorem dX5_declares_27 : decode cX5_declares 27 = .ok (.iaload, 1) := by decide +kernel
theorem dX5_declares_28 : decode cX5_declares 28 = .ok (.iconst 2, 1) := by decide +kernel
theorem dX5_declares_29 : decode cX5_declares 29 = .ok (.if_icmp .ne 72, 3) := by decide +kernel
theorem dX5_declares_32 : decode cX5_declares 32 = .ok (.aload_n 0, 1) := by decide +kernel
theorem dX5_declares_33 : decode cX5_declares 33 = .ok (.getfield 7, 3) := by decide +kernel
theorem dX5_declares_36 : decode cX5_declares 36 = .ok (.sipush 170, 3) := by decide +kernel
theorem dX5_declares_39 : decode cX5_declares 39 = .ok (.iload_n 3, 1) := by decide +kernel
theorem dX5_declares_40 : decode cX5_declares 40 = .ok (.iadd, 1) := by decide +kernel
theorem dX5_declares_41 : decode cX5_declares 41 = .ok (.iaload, 1) := by decide +kernel
theorem dX5_declares_42 : decode cX5_declares 42 = .ok (.aload_n 0, 1) := by decide +kernel
theorem dX5_declares_43 : decode cX5_declares 43 = .ok (.getfield 7, 3) := by decide +kernel
theorem dX5_declares_46 : decode cX5_declares 46 = .ok (.iconst 0, 1) := by decide +kernel
theorem dX5_declares_47 : decode cX5_declares 47 = .ok (.iaload, 1) := by decide +kernel
theorem dX5_declares_48 : decode cX5_declares 48 = .ok (.if_icmp .gt 53, 3) := by decide +kernel
theorem dX5_declares_51 : decode cX5_declares 51 = .ok (.aload_n 0, 1) := by decide +kernel
theorem dX5_declares_52 : decode cX5_declares 52 = .ok (.iload_n 1, 1) := by decide +kernel
theorem dX5_declares_53 : decode cX5_declares 53 = .ok (.iload_n 2, 1) := by decide +kernel
theorem dX5_declares_54 : decode cX5_declares 54 = .ok (.iconst 3, 1) := by decide +kernel
theorem dX5_declares_55 : decode cX5_declares 55 = .ok (.aload_n 0, 1) := by decide +kernel
theorem dX5_declares_56 : decode cX5_declares 56 = .ok (.getfield 7, 3) := by decide +kernel
theorem dX5_declares_59 : decode cX5_declares 59 = .ok (.bipush 106, 2) := by decide +kernel
theorem dX5_declares_61 : decode cX5_declares 61 = .ok (.iload_n 3, 1) := by decide +kernel
theorem dX5_declares_62 : decode cX5_declares 62 = .ok (.iadd, 1) := by decide +kernel
theorem dX5_declares_63 : decode cX5_declares 63 = .ok (.iaload, 1) := by decide +kernel
theorem dX5_declares_64 : decode cX5_declares 64 = .ok (.invokevirtual 45, 3) := by decide +kernel
theorem dX5_declares_67 : decode cX5_declares 67 = .ok (.aload_n 0, 1) := by decide +kernel
theorem dX5_declares_68 : decode cX5_declares 68 = .ok (.getfield 7, 3) := by decide +kernel
theorem dX5_declares_71 : decode cX5_declares 71 = .ok (.iconst 5, 1) := by decide +kernel
theorem dX5_declares_72 : decode cX5_declares 72 = .ok (.dup2, 1) := by decide +kernel
theorem dX5_declares_73 : decode cX5_declares 73 = .ok (.iaload, 1) := by decide +kernel
theorem dX5_declares_74 : decode cX5_declares 74 = .ok (.iconst 1, 1) := by decide +kernel
theorem dX5_declares_75 : decode cX5_declares 75 = .ok (.iadd, 1) := by decide +kernel
theorem dX5_declares_76 : decode cX5_declares 76 = .ok (.iastore, 1) := by decide +kernel
theorem dX5_declares_77 : decode cX5_declares 77 = .ok (.aload_n 0, 1) := by decide +kernel
theorem dX5_declares_78 : decode cX5_declares 78 = .ok (.getfield 7, 3) := by decide +kernel
theorem dX5_declares_81 : decode cX5_declares 81 = .ok (.bipush 6, 2) := by decide +kernel
theorem dX5_declares_83 : decode cX5_declares 83 = .ok (.dup2, 1) := by decide +kernel
theorem dX5_declares_84 : decode cX5_declares 84 = .ok (.iaload, 1) := by decide +kernel
theorem dX5_declares_85 : decode cX5_declares 85 = .ok (.aload_n 0, 1) := by decide +kernel
theorem dX5_declares_86 : decode cX5_declares 86 = .ok (.iload_n 1, 1) := by decide +kernel
theorem dX5_declares_87 : decode cX5_declares 87 = .ok (.iload_n 2, 1) := by decide +kernel
theorem dX5_declares_88 : decode cX5_declares 88 = .ok (.invokevirtual 77, 3) := by decide +kernel
theorem dX5_declares_91 : decode cX5_declares 91 = .ok (.ifCond .eq 7, 3) := by decide +kernel
theorem dX5_declares_94 : decode cX5_declares 94 = .ok (.iconst 1, 1) := by decide +kernel
theorem dX5_declares_95 : decode cX5_declares 95 = .ok (.goto 4, 3) := by decide +kernel
theorem dX5_declares_98 : decode cX5_declares 98 = .ok (.iconst 0, 1) := by decide +kernel
theorem dX5_declares_99 : decode cX5_declares 99 = .ok (.iadd, 1) := by decide +kernel
theorem dX5_declares_100 : decode cX5_declares 100 = .ok (.iastore, 1) := by decide +kernel
theorem dX5_declares_101 : decode cX5_declares 101 = .ok (.iinc 2 1, 3) := by decide +kernel
theorem dX5_declares_104 : decode cX5_declares 104 = .ok (.goto (-102), 3) := by decide +kernel
theorem dX5_declares_107 : decode cX5_declares 107 = .ok (.return_, 1) := by decide +kernel
set_option maxRecDepth 20000 in
theorem ggX5_isHelped_X5_viewed : GoodIn wsX5_isHelped wsX5_viewed := goodIn_ca (goodIn_r _ [6, 1, 7, 8, 5, 9, 10, 11, 12, 36, 37, 38, 39, 40, 41, 42, 43, 44, 45, 46, 47] (by decide +kernel) (by decide +kernel)) (goodIn_sub (fun _ h => List.mem_cons_of_mem _ (List.mem_append_left _ (List.mem_append_right _ h))) (by decide +kernel))
set_option maxRecDepth 20000 in
theorem gX5_isHelped_X5_viewed : GoodIn wsX5_isHelped (wsV RX5 80 RX5 yX5_viewed wsX5_viewed) := goodIn_app (goodIn_of _ (by decide +kernel)) ggX5_isHelped_X5_viewed
set_option maxRecDepth 20000 in
theorem ggX5_isHelped_X5_drawn : GoodIn wsX5_isHelped wsX5_drawn := goodIn_ca (goodIn_ca (goodIn_r _ [16, 17, 18, 5, 19, 20, 21, 22, 23, 1, 24, 25, 26, 27, 36, 37, 38, 39, 40, 41, 42, 43, 44, 45, 46, 47] (by decide +kernel) (by decide +kernel)) (goodIn_sub (fun _ h => List.mem_cons_of_mem _ (List.mem_append_left _ (List.mem_append_right _ h))) (by decide +kernel))) (goodIn_sub (fun _ h => List.mem_cons_of_mem _ (List.mem_append_right _ h)) (by decide +kernel))
set_option maxRecDepth 20000 in
theorem gX5_isHelped_X5_drawn : GoodIn wsX5_isHelped (wsV RX5 84 RX5 yX5_drawn wsX5_drawn) := goodIn_app (goodIn_of _ (by decide +kernel)) ggX5_isHelped_X5_drawn
set_option maxRecDepth 20000 in
theorem ggX5_isHelped_X5_canReach : GoodIn wsX5_isHelped wsX5_canReach := goodIn_ca (goodIn_r _ [31, 1, 32, 33, 34, 5, 35, 7, 8, 9, 36, 37, 38, 39, 40, 41, 42, 43, 44, 45, 46, 47] (by decide +kernel) (by decide +kernel)) (goodIn_sub (fun _ h => List.mem_cons_of_mem _ (List.mem_append_left _ (List.mem_append_right _ h))) (by decide +kernel))
set_option maxRecDepth 20000 in
theorem gX5_isHelped_X5_canReach : GoodIn wsX5_isHelped (wsV RX5 77 RX5 yX5_canReach wsX5_canReach) := goodIn_app (goodIn_of _ (by decide +kernel)) ggX5_isHelped_X5_canReach
theorem dX5_isHelped_0 : decode cX5_isHelped 0 = .ok (.aload_n 0, 1) := by decide +kernel
theorem dX5_isHelped_1 : decode cX5_isHelped 1 = .ok (.iload_n 1, 1) := by decide +kernel
theorem dX5_isHelped_2 : decode cX5_isHelped 2 = .ok (.iconst 1, 1) := by decide +kernel
theorem dX5_isHelped_3 : decode cX5_isHelped 3 = .ok (.iconst 1, 1) := by decide +kernel
theorem dX5_isHelped_4 : decode cX5_isHelped 4 = .ok (.invokevirtual 80, 3) := by decide +kernel
theorem dX5_isHelped_7 : decode cX5_isHelped 7 = .ok (.iconst 1, 1) := by decide +kernel
theorem dX5_isHelped_8 : decode cX5_isHelped 8 = .ok (.iload_n 2, 1) := by decide +kernel
theorem dX5_isHelped_9 : decode cX5_isHelped 9 = .ok (.ishl, 1) := by decide +kernel
theorem dX5_isHelped_10 : decode cX5_isHelped 10 = .ok (.iconst (-1), 1) := by decide +kernel
theorem dX5_isHelped_11 : decode cX5_isHelped 11 = .ok (.ixor, 1) := by decide +kernel
theorem dX5_isHelped_12 : decode cX5_isHelped 12 = .ok (.iand, 1) := by decide +kernel
theorem dX5_isHelped_13 : decode cX5_isHelped 13 = .ok (.istore_n 3, 1) := by decide +kernel
theorem dX5_isHelped_14 : decode cX5_isHelped 14 = .ok (.iconst 0, 1) := by decide +kernel
theorem dX5_isHelped_15 : decode cX5_isHelped 15 = .ok (.istore 4, 2) := by decide +kernel
theorem dX5_isHelped_17 : decode cX5_isHelped 17 = .ok (.iconst 0, 1) := by decide +kernel
theorem dX5_isHelped_18 : decode cX5_isHelped 18 = .ok (.istore 5, 2) := by decide +kernel
theorem dX5_isHelped_20 : decode cX5_isHelped 20 = .ok (.iload 5, 2) := by decide +kernel
theorem dX5_isHelped_22 : decode cX5_isHelped 22 = .ok (.aload_n 0, 1) := by decide +kernel
theorem dX5_isHelped_23 : decode cX5_isHelped 23 = .ok (.getfield 7, 3) := by decide +kernel
theorem dX5_isHelped_26 : decode cX5_isHelped 26 = .ok (.iconst 4, 1) := by decide +kernel
theorem dX5_isHelped_27 : decode cX5_isHelped 27 = .ok (.iaload, 1) := by decide +kernel
theorem dX5_isHelped_28 : decode cX5_isHelped 28 = .ok (.if_icmp .ge 61, 3) := by decide +kernel
theorem dX5_isHelped_31 : decode cX5_isHelped 31 = .ok (.iload_n 3, 1) := by decide +kernel
theorem dX5_isHelped_32 : decode cX5_isHelped 32 = .ok (.ifCond .eq 57, 3) := by decide +kernel
theorem dX5_isHelped_35 : decode cX5_isHelped 35 = .ok (.aload_n 0, 1) := by decide +kernel
theorem dX5_isHelped_36 : decode cX5_isHelped 36 = .ok (.iload_n 3, 1) := by decide +kernel
theorem dX5_isHelped_37 : decode cX5_isHelped 37 = .ok (.invokevirtual 84, 3) := by decide +kernel
theorem dX5_isHelped_40 : decode cX5_isHelped 40 = .ok (.istore 6, 2) := by decide +kernel
theorem dX5_isHelped_42 : decode cX5_isHelped 42 = .ok (.iload_n 3, 1) := by decide +kernel
theorem dX5_isHelped_43 : decode cX5_isHelped 43 = .ok (.iconst 1, 1) := by decide +kernel
theorem dX5_isHelped_44 : decode cX5_isHelped 44 = .ok (.iload 6, 2) := by decide +kernel
theorem dX5_isHelped_46 : decode cX5_isHelped 46 = .ok (.ishl, 1) := by decide +kernel
theorem dX5_isHelped_47 : decode cX5_isHelped 47 = .ok (.iconst (-1), 1) := by decide +kernel
theorem dX5_isHelped_48 : decode cX5_isHelped 48 = .ok (.ixor, 1) := by decide +kernel
theorem dX5_isHelped_49 : decode cX5_isHelped 49 = .ok (.iand, 1) := by decide +kernel
theorem dX5_isHelped_50 : decode cX5_isHelped 50 = .ok (.istore_n 3, 1) := by decide +kernel
theorem dX5_isHelped_51 : decode cX5_isHelped 51 = .ok (.iload 4, 2) := by decide +kernel
theorem dX5_isHelped_53 : decode cX5_isHelped 53 = .ok (.ifCond .ne 23, 3) := by decide +kernel
theorem dX5_isHelped_56 : decode cX5_isHelped 56 = .ok (.aload_n 0, 1) := by decide +kernel
theorem dX5_isHelped_57 : decode cX5_isHelped 57 = .ok (.iload_n 1, 1) := by decide +kernel
theorem dX5_isHelped_58 : decode cX5_isHelped 58 = .ok (.iload 6, 2) := by decide +kernel
theorem dX5_isHelped_60 : decode cX5_isHelped 60 = .ok (.invokevirtual 77, 3) := by decide +kernel
theorem dX5_isHelped_63 : decode cX5_isHelped 63 = .ok (.ifCond .eq 17, 3) := by decide +kernel
theorem dX5_isHelped_66 : decode cX5_isHelped 66 = .ok (.aload_n 0, 1) := by decide +kernel
theorem dX5_isHelped_67 : decode cX5_isHelped 67 = .ok (.iload 6, 2) := by decide +kernel
theorem dX5_isHelped_69 : decode cX5_isHelped 69 = .ok (.iload_n 2, 1) := by decide +kernel
theorem dX5_isHelped_70 : decode cX5_isHelped 70 = .ok (.invokevirtual 77, 3) := by decide +kernel
theorem dX5_isHelped_73 : decode cX5_isHelped 73 = .ok (.ifCond .eq 7, 3) := by decide +kernel
theorem dX5_isHelped_76 : decode cX5_isHelped 76 = .ok (.iconst 1, 1) := by decide +kernel
theorem dX5_isHelped_77 : decode cX5_isHelped 77 = .ok (.goto 4, 3) := by decide +kernel
theorem dX5_isHelped_80 : decode cX5_isHelped 80 = .ok (.iconst 0, 1) := by decide +kernel
theorem dX5_isHelped_81 : decode cX5_isHelped 81 = .ok (.istore 4, 2) := by decide +kernel
theorem dX5_isHelped_83 : decode cX5_isHelped 83 = .ok (.iinc 5 1, 3) := by decide +kernel
theorem dX5_isHelped_86 : decode cX5_isHelped 86 = .ok (.goto (-66), 3) := by decide +kernel
theorem dX5_isHelped_89 : decode cX5_isHelped 89 = .ok (.iload 4, 2) := by decide +kernel
theorem dX5_isHelped_91 : decode cX5_isHelped 91 = .ok (.ireturn, 1) := by decide +kernel
set_option maxRecDepth 20000 in
theorem ggX5_turns_X5_declares : GoodIn wsX5_turns wsX5_declares := goodIn_ca (goodIn_r _ [6, 1, 7, 8, 5, 9, 10, 11, 12, 13, 14, 15, 16, 17, 18, 19, 20, 21, 22, 23, 24, 25, 74, 75, 76, 77, 78, 79, 80, 81, 82, 83, 84, 85] (by decide +kernel) (by decide +kernel)) (goodIn_sub (fun _ h => List.mem_cons_of_mem _ (List.mem_append_left _ (List.mem_append_right _ h))) (by decide +kernel))
set_option maxRecDepth 20000 in
theorem gX5_turns_X5_declares : GoodIn wsX5_turns (wsV RX5 87 RX5 yX5_declares wsX5_declares) := goodIn_app (goodIn_of _ (by decide +kernel)) ggX5_turns_X5_declares
set_option maxRecDepth 20000 in
theorem ggX5_turns_X5_viewed : GoodIn wsX5_turns wsX5_viewed := goodIn_ca (goodIn_r _ [29, 1, 7, 8, 5, 9, 30, 31, 32, 74, 75, 76, 77, 78, 79, 80, 81, 82, 83, 84, 85] (by decide +kernel) (by decide +kernel)) (goodIn_sub (fun _ h => List.mem_cons_of_mem _ (List.mem_append_left _ (List.mem_append_right _ h))) (by decide +kernel))
set_option maxRecDepth 20000 in
theorem gX5_turns_X5_viewed : GoodIn wsX5_turns (wsV RX5 80 RX5 yX5_viewed wsX5_viewed) := goodIn_app (goodIn_of _ (by decide +kernel)) ggX5_turns_X5_viewed
set_option maxRecDepth 20000 in
theorem ggX5_turns_X5_drawn : GoodIn wsX5_turns wsX5_drawn := goodIn_ca (goodIn_ca (goodIn_r _ [36, 37, 38, 5, 39, 40, 41, 42, 43, 1, 44, 45, 46, 47, 74, 75, 76, 77, 78, 79, 80, 81, 82, 83, 84, 85] (by decide +kernel) (by decide +kernel)) (goodIn_sub (fun _ h => List.mem_cons_of_mem _ (List.mem_append_left _ (List.mem_append_right _ h))) (by decide +kernel))) (goodIn_sub (fun _ h => List.mem_cons_of_mem _ (List.mem_append_right _ h)) (by decide +kernel))
set_option maxRecDepth 20000 in
theorem gX5_turns_X5_drawn : GoodIn wsX5_turns (wsV RX5 84 RX5 yX5_drawn wsX5_drawn) := goodIn_app (goodIn_of _ (by decide +kernel)) ggX5_turns_X5_drawn
set_option maxRecDepth 20000 in
theorem ggX5_turns_X5_canReach : GoodIn wsX5_turns wsX5_canReach := goodIn_ca (goodIn_r _ [21, 1, 22, 23, 24, 5, 25, 7, 8, 9, 74, 75, 76, 77, 78, 79, 80, 81, 82, 83, 84, 85] (by decide +kernel) (by decide +kernel)) (goodIn_sub (fun _ h => List.mem_cons_of_mem _ (List.mem_append_left _ (List.mem_append_right _ h))) (by decide +kernel))
set_option maxRecDepth 20000 in
theorem gX5_turns_X5_canReach : GoodIn wsX5_turns (wsV RX5 77 RX5 yX5_canReach wsX5_canReach) := goodIn_app (goodIn_of _ (by decide +kernel)) ggX5_turns_X5_canReach
set_option maxRecDepth 20000 in
theorem ggX5_turns_X5_sends : GoodIn wsX5_turns wsX5_sends := goodIn_ca (goodIn_r _ [51, 1, 52, 53, 54, 55, 56, 5, 57, 7, 8, 9, 58, 59, 60, 61, 62, 63, 64, 65, 66, 67, 68, 69, 14, 15, 16, 17, 10, 11, 12, 13, 74, 75, 76, 77, 78, 79, 80, 81, 82, 83, 84, 85] (by decide +kernel) (by decide +kernel)) (goodIn_sub (fun _ h => List.mem_cons_of_mem _ (List.mem_append_left _ (List.mem_append_right _ h))) (by decide +kernel))
set_option maxRecDepth 20000 in
theorem gX5_turns_X5_sends : GoodIn wsX5_turns (wsV RX5 91 RX5 yX5_sends wsX5_sends) := goodIn_app (goodIn_of _ (by decide +kernel)) ggX5_turns_X5_sends
set_option maxRecDepth 20000 in
theorem ggX5_turns_X5_isHelped : GoodIn wsX5_turns wsX5_isHelped := goodIn_ca (goodIn_ca (goodIn_r _ [73, 1, 26, 27, 28, 5, 29, 7, 8, 9, 30, 31, 32, 33, 34, 35, 36, 37, 38, 39, 40, 41, 42, 43, 44, 45, 46, 47, 18, 19, 20, 21, 22, 23, 24, 25, 74, 75, 76, 77, 78, 79, 80, 81, 82, 83, 84, 85] (by decide +kernel) (by decide +kernel)) (goodIn_sub (fun _ h => List.mem_cons_of_mem _ (List.mem_append_left _ (List.mem_append_right _ h))) (by decide +kernel))) (goodIn_sub (fun _ h => List.mem_cons_of_mem _ (List.mem_append_right _ h)) (by decide +kernel))
set_option maxRecDepth 20000 in
theorem gX5_turns_X5_isHelped : GoodIn wsX5_turns (wsV RX5 94 RX5 yX5_isHelped wsX5_isHelped) := goodIn_app (goodIn_of _ (by decide +kernel)) ggX5_turns_X5_isHelped
set_option maxRecDepth 20000 in
theorem ggX5_turns_X5_pair : GoodIn wsX5_turns wsX5_pair := goodIn_r _ [9] (by decide +kernel) (by decide +kernel)
set_option maxRecDepth 20000 in
theorem gX5_turns_X5_pair : GoodIn wsX5_turns (va_wsS RX5 34 yX5_pair wsX5_pair) := goodIn_app (goodIn_of _ (by decide +kernel)) ggX5_turns_X5_pair
set_option maxRecDepth 20000 in
theorem ggX5_turns_X5_becomes : GoodIn wsX5_turns wsX5_becomes := goodIn_ca (goodIn_r _ [13, 1, 7, 8, 5, 9, 14, 15, 16, 17, 74, 75, 76, 77, 78, 79, 80, 81, 82, 83, 84, 85] (by decide +kernel) (by decide +kernel)) (goodIn_sub (fun _ h => List.mem_cons_of_mem _ (List.mem_append_left _ (List.mem_append_right _ h))) (by decide +kernel))
set_option maxRecDepth 20000 in
theorem gX5_turns_X5_becomes : GoodIn wsX5_turns (wsV RX5 45 RX5 yX5_becomes wsX5_becomes) := goodIn_app (goodIn_of _ (by decide +kernel)) ggX5_turns_X5_becomes
theorem dX5_turns_0 : decode cX5_turns 0 = .ok (.aload_n 0, 1) := by decide +kernel
theorem dX5_turns_1 : decode cX5_turns 1 = .ok (.iload_n 1, 1) := by decide +kernel
theorem dX5_turns_2 : decode cX5_turns 2 = .ok (.invokevirtual 87, 3) := by decide +kernel
theorem dX5_turns_5 : decode cX5_turns 5 = .ok (.aload_n 0, 1) := by decide +kernel
theorem dX5_turns_6 : decode cX5_turns 6 = .ok (.iload_n 1, 1) := by decide +kernel
theorem dX5_turns_7 : decode cX5_turns 7 = .ok (.iconst 1, 1) := by decide +kernel
theorem dX5_turns_8 : decode cX5_turns 8 = .ok (.iconst 2, 1) := by decide +kernel
theorem dX5_turns_9 : decode cX5_turns 9 = .ok (.invokevirtual 80, 3) := by decide +kernel
theorem dX5_turns_12 : decode cX5_turns 12 = .ok (.istore_n 2, 1) := by decide +kernel
theorem dX5_turns_13 : decode cX5_turns 13 = .ok (.iload_n 2, 1) := by decide +kernel
theorem dX5_turns_14 : decode cX5_turns 14 = .ok (.ifCond .ne 4, 3) := by decide +kernel
theorem dX5_turns_17 : decode cX5_turns 17 = .ok (.return_, 1) := by decide +kernel
theorem dX5_turns_18 : decode cX5_turns 18 = .ok (.aload_n 0, 1) := by decide +kernel
theorem dX5_turns_19 : decode cX5_turns 19 = .ok (.iload_n 2, 1) := by decide +kernel
theorem dX5_turns_20 : decode cX5_turns 20 = .ok (.invokevirtual 84, 3) := by decide +kernel
theorem dX5_turns_23 : decode cX5_turns 23 = .ok (.istore_n 3, 1) := by decide +kernel
theorem dX5_turns_24 : decode cX5_turns 24 = .ok (.aload_n 0, 1) := by decide +kernel
theorem dX5_turns_25 : decode cX5_turns 25 = .ok (.iload_n 1, 1) := by decide +kernel
theorem dX5_turns_26 : decode cX5_turns 26 = .ok (.iload_n 3, 1) := by decide +kernel
theorem dX5_turns_27 : decode cX5_turns 27 = .ok (.invokevirtual 77, 3) := by decide +kernel
theorem dX5_turns_30 : decode cX5_turns 30 = .ok (.ifCond .eq 16, 3) := by decide +kernel
theorem dX5_turns_33 : decode cX5_turns 33 = .ok (.aload_n 0, 1) := by decide +kernel
theorem dX5_turns_34 : decode cX5_turns 34 = .ok (.iload_n 1, 1) := by decide +kernel
theorem dX5_turns_35 : decode cX5_turns 35 = .ok (.iload_n 3, 1) := by decide +kernel
theorem dX5_turns_36 : decode cX5_turns 36 = .ok (.invokevirtual 91, 3) := by decide +kernel
theorem dX5_turns_39 : decode cX5_turns 39 = .ok (.aload_n 0, 1) := by decide +kernel
theorem dX5_turns_40 : decode cX5_turns 40 = .ok (.iload_n 3, 1) := by decide +kernel
theorem dX5_turns_41 : decode cX5_turns 41 = .ok (.iload_n 1, 1) := by decide +kernel
theorem dX5_turns_42 : decode cX5_turns 42 = .ok (.invokevirtual 91, 3) := by decide +kernel
theorem dX5_turns_45 : decode cX5_turns 45 = .ok (.return_, 1) := by decide +kernel
theorem dX5_turns_46 : decode cX5_turns 46 = .ok (.aload_n 0, 1) := by decide +kernel
theorem dX5_turns_47 : decode cX5_turns 47 = .ok (.iload_n 1, 1) := by decide +kernel
theorem dX5_turns_48 : decode cX5_turns 48 = .ok (.iload_n 3, 1) := by decide +kernel
theorem dX5_turns_49 : decode cX5_turns 49 = .ok (.invokevirtual 94, 3) := by decide +kernel
theorem dX5_turns_52 : decode cX5_turns 52 = .ok (.ifCond .ne 40, 3) := by decide +kernel
theorem dX5_turns_55 : decode cX5_turns 55 = .ok (.aload_n 0, 1) := by decide +kernel
theorem dX5_turns_56 : decode cX5_turns 56 = .ok (.getfield 7, 3) := by decide +kernel
theorem dX5_turns_59 : decode cX5_turns 59 = .ok (.bipush 42, 2) := by decide +kernel
theorem dX5_turns_61 : decode cX5_turns 61 = .ok (.iload_n 1, 1) := by decide +kernel
theorem dX5_turns_62 : decode cX5_turns 62 = .ok (.iload_n 3, 1) := by decide +kernel
theorem dX5_turns_63 : decode cX5_turns 63 = .ok (.invokestatic 34, 3) := by decide +kernel
theorem dX5_turns_66 : decode cX5_turns 66 = .ok (.iadd, 1) := by decide +kernel
theorem dX5_turns_67 : decode cX5_turns 67 = .ok (.iaload, 1) := by decide +kernel
theorem dX5_turns_68 : decode cX5_turns 68 = .ok (.iconst 1, 1) := by decide +kernel
theorem dX5_turns_69 : decode cX5_turns 69 = .ok (.if_icmp .ne 23, 3) := by decide +kernel
theorem dX5_turns_72 : decode cX5_turns 72 = .ok (.aload_n 0, 1) := by decide +kernel
theorem dX5_turns_73 : decode cX5_turns 73 = .ok (.iload_n 1, 1) := by decide +kernel
theorem dX5_turns_74 : decode cX5_turns 74 = .ok (.iload_n 3, 1) := by decide +kernel
theorem dX5_turns_75 : decode cX5_turns 75 = .ok (.iconst 2, 1) := by decide +kernel
theorem dX5_turns_76 : decode cX5_turns 76 = .ok (.aload_n 0, 1) := by decide +kernel
theorem dX5_turns_77 : decode cX5_turns 77 = .ok (.getfield 7, 3) := by decide +kernel
theorem dX5_turns_80 : decode cX5_turns 80 = .ok (.bipush 106, 2) := by decide +kernel
theorem dX5_turns_82 : decode cX5_turns 82 = .ok (.iload_n 1, 1) := by decide +kernel
theorem dX5_turns_83 : decode cX5_turns 83 = .ok (.iload_n 3, 1) := by decide +kernel
theorem dX5_turns_84 : decode cX5_turns 84 = .ok (.invokestatic 34, 3) := by decide +kernel
theorem dX5_turns_87 : decode cX5_turns 87 = .ok (.iadd, 1) := by decide +kernel
theorem dX5_turns_88 : decode cX5_turns 88 = .ok (.iaload, 1) := by decide +kernel
theorem dX5_turns_89 : decode cX5_turns 89 = .ok (.invokevirtual 45, 3) := by decide +kernel
theorem dX5_turns_92 : decode cX5_turns 92 = .ok (.return_, 1) := by decide +kernel
set_option maxRecDepth 20000 in
theorem ggX5_round1_X5_turns : GoodIn wsX5_round1 wsX5_turns := goodIn_ca (goodIn_ca (goodIn_r _ [6, 1, 7, 8, 9, 5, 10, 11, 12, 13, 14, 15, 16, 17, 18, 19, 20, 21, 22, 23, 24, 25, 26, 27, 28, 29, 30, 31, 32, 33, 34, 35, 36, 37, 38, 39, 40, 41, 42, 43, 44, 45, 46, 47, 48, 49, 50, 51, 52, 53, 54, 55, 56, 57, 58, 59, 60, 61, 62, 63, 64, 65, 66, 67, 68, 69, 70, 71, 72, 73, 74, 75, 76, 77, 78, 79, 80, 81, 82, 83, 84, 85, 86, 87, 88, 89] (by decide +kernel) (by decide +kernel)) (goodIn_sub (fun _ h => List.mem_cons_of_mem _ (List.mem_append_left _ (List.mem_append_right _ h))) (by decide +kernel))) (goodIn_sub (fun _ h => List.mem_cons_of_mem _ (List.mem_append_right _ h)) (by decide +kernel))
set_option maxRecDepth 20000 in
theorem gX5_round1_X5_turns : GoodIn wsX5_round1 (wsV RX5 97 RX5 yX5_turns wsX5_turns) := goodIn_app (goodIn_of _ (by decide +kernel)) ggX5_round1_X5_turns
theorem dX5_round1_0 : decode cX5_round1 0 = .ok (.aload_n 0, 1) := by decide +kernel
theorem dX5_round1_1 : decode cX5_round1 1 = .ok (.getfield 7, 3) := by decide +kernel
theorem dX5_round1_4 : decode cX5_round1 4 = .ok (.iconst 0, 1) := by decide +kernel
theorem dX5_round1_5 : decode cX5_round1 5 = .ok (.dup2, 1) := by decide +kernel
theorem dX5_round1_6 : decode cX5_round1 6 = .ok (.iaload, 1) := by decide +kernel
theorem dX5_round1_7 : decode cX5_round1 7 = .ok (.iconst 1, 1) := by decide +kernel
theorem dX5_round1_8 : decode cX5_round1 8 = .ok (.iadd, 1) := by decide +kernel
theorem dX5_round1_9 : decode cX5_round1 9 = .ok (.iastore, 1) := by decide +kernel
theorem dX5_round1_10 : decode cX5_round1 10 = .ok (.iconst 0, 1) := by decide +kernel
theorem dX5_round1_11 : decode cX5_round1 11 = .ok (.istore_n 1, 1) := by decide +kernel
theorem dX5_round1_12 : decode cX5_round1 12 = .ok (.iload_n 1, 1) := by decide +kernel
theorem dX5_round1_13 : decode cX5_round1 13 = .ok (.bipush 8, 2) := by decide +kernel
theorem dX5_round1_15 : decode cX5_round1 15 = .ok (.if_icmp .ge 27, 3) := by decide +kernel
theorem dX5_round1_18 : decode cX5_round1 18 = .ok (.aload_n 0, 1) := by decide +kernel
theorem dX5_round1_19 : decode cX5_round1 19 = .ok (.getfield 7, 3) := by decide +kernel
theorem dX5_round1_22 : decode cX5_round1 22 = .ok (.bipush 10, 2) := by decide +kernel
theorem dX5_round1_24 : decode cX5_round1 24 = .ok (.iload_n 1, 1) := by decide +kernel
theorem dX5_round1_25 : decode cX5_round1 25 = .ok (.iadd, 1) := by decide +kernel
theorem dX5_round1_26 : decode cX5_round1 26 = .ok (.iaload, 1) := by decide +kernel
theorem dX5_round1_27 : decode cX5_round1 27 = .ok (.iconst 1, 1) := by decide +kernel
theorem dX5_round1_28 : decode cX5_round1 28 = .ok (.if_icmp .ne 8, 3) := by decide +kernel
theorem dX5_round1_31 : decode cX5_round1 31 = .ok (.aload_n 0, 1) := by decide +kernel
theorem dX5_round1_32 : decode cX5_round1 32 = .ok (.iload_n 1, 1) := by decide +kernel
theorem dX5_round1_33 : decode cX5_round1 33 = .ok (.invokevirtual 97, 3) := by decide +kernel
theorem dX5_round1_36 : decode cX5_round1 36 = .ok (.iinc 1 1, 3) := by decide +kernel
theorem dX5_round1_39 : decode cX5_round1 39 = .ok (.goto (-27), 3) := by decide +kernel
theorem dX5_round1_42 : decode cX5_round1 42 = .ok (.return_, 1) := by decide +kernel
set_option maxRecDepth 20000 in
theorem ggX5_sets_X5_in : GoodIn wsX5_sets wsX5_in := goodIn_r _ [6] (by decide +kernel) (by decide +kernel)
set_option maxRecDepth 20000 in
theorem gX5_sets_X5_in : GoodIn wsX5_sets (va_wsS RX5 26 yX5_in wsX5_in) := goodIn_app (goodIn_of _ (by decide +kernel)) ggX5_sets_X5_in
set_option maxRecDepth 20000 in
theorem ggX5_sets_X5_fails : GoodIn wsX5_sets wsX5_fails := goodIn_r _ [10, 1, 11, 12, 13, 14, 15, 16, 17, 18, 19, 20, 21, 22] (by decide +kernel) (by decide +kernel)
set_option maxRecDepth 20000 in
theorem gX5_sets_X5_fails : GoodIn wsX5_sets (wsV RX5 100 RX5 yX5_fails wsX5_fails) := goodIn_app (goodIn_of _ (by decide +kernel)) ggX5_sets_X5_fails
theorem dX5_sets_0 : decode cX5_sets 0 = .ok (.aload_n 0, 1) := by decide +kernel
theorem dX5_sets_1 : decode cX5_sets 1 = .ok (.iconst 0, 1) := by decide +kernel
theorem dX5_sets_2 : decode cX5_sets 2 = .ok (.putfield 22, 3) := by decide +kernel
theorem dX5_sets_5 : decode cX5_sets 5 = .ok (.iload 4, 2) := by decide +kernel
theorem dX5_sets_7 : decode cX5_sets 7 = .ok (.iload_n 2, 1) := by decide +kernel
theorem dX5_sets_8 : decode cX5_sets 8 = .ok (.iload_n 3, 1) := by decide +kernel
theorem dX5_sets_9 : decode cX5_sets 9 = .ok (.invokestatic 26, 3) := by decide +kernel
theorem dX5_sets_12 : decode cX5_sets 12 = .ok (.ifCond .ne 9, 3) := by decide +kernel
theorem dX5_sets_15 : decode cX5_sets 15 = .ok (.aload_n 0, 1) := by decide +kernel
theorem dX5_sets_16 : decode cX5_sets 16 = .ok (.iconst 1, 1) := by decide +kernel
theorem dX5_sets_17 : decode cX5_sets 17 = .ok (.invokevirtual 100, 3) := by decide +kernel
theorem dX5_sets_20 : decode cX5_sets 20 = .ok (.ireturn, 1) := by decide +kernel
theorem dX5_sets_21 : decode cX5_sets 21 = .ok (.aload_n 0, 1) := by decide +kernel
theorem dX5_sets_22 : decode cX5_sets 22 = .ok (.getfield 7, 3) := by decide +kernel
theorem dX5_sets_25 : decode cX5_sets 25 = .ok (.iload_n 1, 1) := by decide +kernel
theorem dX5_sets_26 : decode cX5_sets 26 = .ok (.iaload, 1) := by decide +kernel
theorem dX5_sets_27 : decode cX5_sets 27 = .ok (.istore 5, 2) := by decide +kernel
theorem dX5_sets_29 : decode cX5_sets 29 = .ok (.aload_n 0, 1) := by decide +kernel
theorem dX5_sets_30 : decode cX5_sets 30 = .ok (.getfield 7, 3) := by decide +kernel
theorem dX5_sets_33 : decode cX5_sets 33 = .ok (.iload_n 1, 1) := by decide +kernel
theorem dX5_sets_34 : decode cX5_sets 34 = .ok (.iload 4, 2) := by decide +kernel
theorem dX5_sets_36 : decode cX5_sets 36 = .ok (.iastore, 1) := by decide +kernel
theorem dX5_sets_37 : decode cX5_sets 37 = .ok (.iload 5, 2) := by decide +kernel
theorem dX5_sets_39 : decode cX5_sets 39 = .ok (.ireturn, 1) := by decide +kernel
set_option maxRecDepth 20000 in
theorem ggX5_setPatience_X5_sets : GoodIn wsX5_setPatience wsX5_sets := goodIn_ca (goodIn_r _ [5, 6, 7, 8, 9, 4, 10, 11, 12, 13, 14, 15, 16, 17, 18, 19, 20, 21, 22, 23, 24, 25, 26] (by decide +kernel) (by decide +kernel)) (goodIn_sub (fun _ h => List.mem_cons_of_mem _ (List.mem_append_right _ h)) (by decide +kernel))
set_option maxRecDepth 20000 in
theorem gX5_setPatience_X5_sets : GoodIn wsX5_setPatience (wsV RX5 103 RX5 yX5_sets wsX5_sets) := goodIn_app (goodIn_of _ (by decide +kernel)) ggX5_setPatience_X5_sets
theorem dX5_setPatience_0 : decode cX5_setPatience 0 = .ok (.aload_n 0, 1) := by decide +kernel
theorem dX5_setPatience_1 : decode cX5_setPatience 1 = .ok (.iconst 2, 1) := by decide +kernel
theorem dX5_setPatience_2 : decode cX5_setPatience 2 = .ok (.iconst 1, 1) := by decide +kernel
theorem dX5_setPatience_3 : decode cX5_setPatience 3 = .ok (.bipush 20, 2) := by decide +kernel
theorem dX5_setPatience_5 : decode cX5_setPatience 5 = .ok (.iload_n 1, 1) := by decide +kernel
theorem dX5_setPatience_6 : decode cX5_setPatience 6 = .ok (.invokevirtual 103, 3) := by decide +kernel
theorem dX5_setPatience_9 : decode cX5_setPatience 9 = .ok (.ireturn, 1) := by decide +kernel
set_option maxRecDepth 20000 in
theorem ggX5_setFanOut_X5_sets : GoodIn wsX5_setFanOut wsX5_sets := goodIn_ca (goodIn_r _ [5, 6, 7, 8, 9, 4, 10, 11, 12, 13, 14, 15, 16, 17, 18, 19, 20, 21, 22, 23, 24, 25, 26] (by decide +kernel) (by decide +kernel)) (goodIn_sub (fun _ h => List.mem_cons_of_mem _ (List.mem_append_right _ h)) (by decide +kernel))
set_option maxRecDepth 20000 in
theorem gX5_setFanOut_X5_sets : GoodIn wsX5_setFanOut (wsV RX5 103 RX5 yX5_sets wsX5_sets) := goodIn_app (goodIn_of _ (by decide +kernel)) ggX5_setFanOut_X5_sets
theorem dX5_setFanOut_0 : decode cX5_setFanOut 0 = .ok (.aload_n 0, 1) := by decide +kernel
theorem dX5_setFanOut_1 : decode cX5_setFanOut 1 = .ok (.iconst 3, 1) := by decide +kernel
theorem dX5_setFanOut_2 : decode cX5_setFanOut 2 = .ok (.iconst 1, 1) := by decide +kernel
theorem dX5_setFanOut_3 : decode cX5_setFanOut 3 = .ok (.bipush 9, 2) := by decide +kernel
theorem dX5_setFanOut_5 : decode cX5_setFanOut 5 = .ok (.iload_n 1, 1) := by decide +kernel
theorem dX5_setFanOut_6 : decode cX5_setFanOut 6 = .ok (.invokevirtual 103, 3) := by decide +kernel
theorem dX5_setFanOut_9 : decode cX5_setFanOut 9 = .ok (.ireturn, 1) := by decide +kernel
set_option maxRecDepth 20000 in
theorem ggX5_setHelpers_X5_sets : GoodIn wsX5_setHelpers wsX5_sets := goodIn_ca (goodIn_r _ [5, 6, 7, 8, 9, 4, 10, 11, 12, 13, 14, 15, 16, 17, 18, 19, 20, 21, 22, 23, 24, 25, 26] (by decide +kernel) (by decide +kernel)) (goodIn_sub (fun _ h => List.mem_cons_of_mem _ (List.mem_append_right _ h)) (by decide +kernel))
set_option maxRecDepth 20000 in
theorem gX5_setHelpers_X5_sets : GoodIn wsX5_setHelpers (wsV RX5 103 RX5 yX5_sets wsX5_sets) := goodIn_app (goodIn_of _ (by decide +kernel)) ggX5_setHelpers_X5_sets
theorem dX5_setHelpers_0 : decode cX5_setHelpers 0 = .ok (.aload_n 0, 1) := by decide +kernel
theorem dX5_setHelpers_1 : decode cX5_setHelpers 1 = .ok (.iconst 4, 1) := by decide +kernel
theorem dX5_setHelpers_2 : decode cX5_setHelpers 2 = .ok (.iconst 0, 1) := by decide +kernel
theorem dX5_setHelpers_3 : decode cX5_setHelpers 3 = .ok (.iconst 3, 1) := by decide +kernel
theorem dX5_setHelpers_4 : decode cX5_setHelpers 4 = .ok (.iload_n 1, 1) := by decide +kernel
theorem dX5_setHelpers_5 : decode cX5_setHelpers 5 = .ok (.invokevirtual 103, 3) := by decide +kernel
theorem dX5_setHelpers_8 : decode cX5_setHelpers 8 = .ok (.ireturn, 1) := by decide +kernel
set_option maxRecDepth 20000 in
theorem ggX5_setSeed_X5_sets : GoodIn wsX5_setSeed wsX5_sets := goodIn_ca (goodIn_r _ [6, 7, 8, 9, 10, 5, 11, 12, 13, 14, 15, 16, 17, 18, 19, 20, 21, 22, 23, 24, 25, 26, 27] (by decide +kernel) (by decide +kernel)) (goodIn_sub (fun _ h => List.mem_cons_of_mem _ (List.mem_append_right _ h)) (by decide +kernel))
set_option maxRecDepth 20000 in
theorem gX5_setSeed_X5_sets : GoodIn wsX5_setSeed (wsV RX5 103 RX5 yX5_sets wsX5_sets) := goodIn_app (goodIn_of _ (by decide +kernel)) ggX5_setSeed_X5_sets
theorem dX5_setSeed_0 : decode cX5_setSeed 0 = .ok (.aload_n 0, 1) := by decide +kernel
theorem dX5_setSeed_1 : decode cX5_setSeed 1 = .ok (.iconst 1, 1) := by decide +kernel
theorem dX5_setSeed_2 : decode cX5_setSeed 2 = .ok (.iconst 0, 1) := by decide +kernel
theorem dX5_setSeed_3 : decode cX5_setSeed 3 = .ok (.ldc 107, 2) := by decide +kernel
theorem dX5_setSeed_5 : decode cX5_setSeed 5 = .ok (.iload_n 1, 1) := by decide +kernel
theorem dX5_setSeed_6 : decode cX5_setSeed 6 = .ok (.invokevirtual 103, 3) := by decide +kernel
theorem dX5_setSeed_9 : decode cX5_setSeed 9 = .ok (.ireturn, 1) := by decide +kernel
theorem dX5_seed_0 : decode cX5_seed 0 = .ok (.aload_n 0, 1) := by decide +kernel
theorem dX5_seed_1 : decode cX5_seed 1 = .ok (.iconst 0, 1) := by decide +kernel
theorem dX5_seed_2 : decode cX5_seed 2 = .ok (.putfield 22, 3) := by decide +kernel
theorem dX5_seed_5 : decode cX5_seed 5 = .ok (.aload_n 0, 1) := by decide +kernel
theorem dX5_seed_6 : decode cX5_seed 6 = .ok (.getfield 7, 3) := by decide +kernel
theorem dX5_seed_9 : decode cX5_seed 9 = .ok (.iconst 1, 1) := by decide +kernel
theorem dX5_seed_10 : decode cX5_seed 10 = .ok (.iaload, 1) := by decide +kernel
theorem dX5_seed_11 : decode cX5_seed 11 = .ok (.ireturn, 1) := by decide +kernel
set_option maxRecDepth 20000 in
theorem ggX5_join_X5_isNode : GoodIn wsX5_join wsX5_isNode := goodIn_r _ [6, 7, 8, 5, 9] (by decide +kernel) (by decide +kernel)
set_option maxRecDepth 20000 in
theorem gX5_join_X5_isNode : GoodIn wsX5_join (va_wsS RX5 108 yX5_isNode wsX5_isNode) := goodIn_app (goodIn_of _ (by decide +kernel)) ggX5_join_X5_isNode
set_option maxRecDepth 20000 in
theorem ggX5_join_X5_fails : GoodIn wsX5_join wsX5_fails := goodIn_r _ [13, 1, 41, 42, 43, 44, 45, 46, 47, 48, 49, 50, 51, 52] (by decide +kernel) (by decide +kernel)
set_option maxRecDepth 20000 in
theorem gX5_join_X5_fails : GoodIn wsX5_join (wsV RX5 100 RX5 yX5_fails wsX5_fails) := goodIn_app (goodIn_of _ (by decide +kernel)) ggX5_join_X5_fails
set_option maxRecDepth 20000 in
theorem ggX5_join_X5_areLinked : GoodIn wsX5_join wsX5_areLinked := goodIn_ca (goodIn_r _ [17, 2, 18, 19, 5, 20, 41, 42, 43, 44, 45, 46, 47, 48, 49, 50, 51, 52] (by decide +kernel) (by decide +kernel)) (goodIn_sub (fun _ h => List.mem_cons_of_mem _ (List.mem_append_right _ h)) (by decide +kernel))
set_option maxRecDepth 20000 in
theorem gX5_join_X5_areLinked : GoodIn wsX5_join (wsV RX5 30 RX5 yX5_areLinked wsX5_areLinked) := goodIn_app (goodIn_of _ (by decide +kernel)) ggX5_join_X5_areLinked
set_option maxRecDepth 20000 in
theorem ggX5_join_X5_pair : GoodIn wsX5_join wsX5_pair := goodIn_r _ [20] (by decide +kernel) (by decide +kernel)
set_option maxRecDepth 20000 in
theorem gX5_join_X5_pair : GoodIn wsX5_join (va_wsS RX5 34 yX5_pair wsX5_pair) := goodIn_app (goodIn_of _ (by decide +kernel)) ggX5_join_X5_pair
set_option maxRecDepth 20000 in
theorem ggX5_join_X5_changes : GoodIn wsX5_join wsX5_changes := goodIn_ca (goodIn_r _ [24, 2, 18, 19, 5, 20, 41, 42, 43, 44, 45, 46, 47, 48, 49, 50, 51, 52] (by decide +kernel) (by decide +kernel)) (goodIn_sub (fun _ h => List.mem_cons_of_mem _ (List.mem_append_right _ h)) (by decide +kernel))
set_option maxRecDepth 20000 in
theorem gX5_join_X5_changes : GoodIn wsX5_join (wsV RX5 38 RX5 yX5_changes wsX5_changes) := goodIn_app (goodIn_of _ (by decide +kernel)) ggX5_join_X5_changes
set_option maxRecDepth 20000 in
theorem ggX5_join_X5_greets : GoodIn wsX5_join wsX5_greets := goodIn_ca (goodIn_r _ [28, 2, 18, 19, 5, 20, 29, 30, 31, 32, 33, 34, 35, 36, 21, 22, 23, 24, 37, 38, 39, 40, 41, 42, 43, 44, 45, 46, 47, 48, 49, 50, 51, 52] (by decide +kernel) (by decide +kernel)) (goodIn_sub (fun _ h => List.mem_cons_of_mem _ (List.mem_append_right _ h)) (by decide +kernel))
set_option maxRecDepth 20000 in
theorem gX5_join_X5_greets : GoodIn wsX5_join (wsV RX5 112 RX5 yX5_greets wsX5_greets) := goodIn_app (goodIn_of _ (by decide +kernel)) ggX5_join_X5_greets
theorem dX5_join_0 : decode cX5_join 0 = .ok (.aload_n 0, 1) := by decide +kernel
theorem dX5_join_1 : decode cX5_join 1 = .ok (.iconst 0, 1) := by decide +kernel
theorem dX5_join_2 : decode cX5_join 2 = .ok (.putfield 22, 3) := by decide +kernel
theorem dX5_join_5 : decode cX5_join 5 = .ok (.iload_n 1, 1) := by decide +kernel
theorem dX5_join_6 : decode cX5_join 6 = .ok (.invokestatic 108, 3) := by decide +kernel
theorem dX5_join_9 : decode cX5_join 9 = .ok (.ifCond .eq 10, 3) := by decide +kernel
theorem dX5_join_12 : decode cX5_join 12 = .ok (.iload_n 2, 1) := by decide +kernel
theorem dX5_join_13 : decode cX5_join 13 = .ok (.invokestatic 108, 3) := by decide +kernel
theorem dX5_join_16 : decode cX5_join 16 = .ok (.ifCond .ne 9, 3) := by decide +kernel
theorem dX5_join_19 : decode cX5_join 19 = .ok (.aload_n 0, 1) := by decide +kernel
theorem dX5_join_20 : decode cX5_join 20 = .ok (.iconst 1, 1) := by decide +kernel
theorem dX5_join_21 : decode cX5_join 21 = .ok (.invokevirtual 100, 3) := by decide +kernel
theorem dX5_join_24 : decode cX5_join 24 = .ok (.ireturn, 1) := by decide +kernel
theorem dX5_join_25 : decode cX5_join 25 = .ok (.aload_n 0, 1) := by decide +kernel
theorem dX5_join_26 : decode cX5_join 26 = .ok (.getfield 7, 3) := by decide +kernel
theorem dX5_join_29 : decode cX5_join 29 = .ok (.bipush 10, 2) := by decide +kernel
theorem dX5_join_31 : decode cX5_join 31 = .ok (.iload_n 1, 1) := by decide +kernel
theorem dX5_join_32 : decode cX5_join 32 = .ok (.iadd, 1) := by decide +kernel
theorem dX5_join_33 : decode cX5_join 33 = .ok (.iaload, 1) := by decide +kernel
theorem dX5_join_34 : decode cX5_join 34 = .ok (.iconst 1, 1) := by decide +kernel
theorem dX5_join_35 : decode cX5_join 35 = .ok (.if_icmp .ne 9, 3) := by decide +kernel
theorem dX5_join_38 : decode cX5_join 38 = .ok (.aload_n 0, 1) := by decide +kernel
theorem dX5_join_39 : decode cX5_join 39 = .ok (.iconst 2, 1) := by decide +kernel
theorem dX5_join_40 : decode cX5_join 40 = .ok (.invokevirtual 100, 3) := by decide +kernel
theorem dX5_join_43 : decode cX5_join 43 = .ok (.ireturn, 1) := by decide +kernel
theorem dX5_join_44 : decode cX5_join 44 = .ok (.iload_n 2, 1) := by decide +kernel
theorem dX5_join_45 : decode cX5_join 45 = .ok (.iload_n 1, 1) := by decide +kernel
theorem dX5_join_46 : decode cX5_join 46 = .ok (.if_icmp .eq 30, 3) := by decide +kernel
theorem dX5_join_49 : decode cX5_join 49 = .ok (.aload_n 0, 1) := by decide +kernel
theorem dX5_join_50 : decode cX5_join 50 = .ok (.getfield 7, 3) := by decide +kernel
theorem dX5_join_53 : decode cX5_join 53 = .ok (.bipush 10, 2) := by decide +kernel
theorem dX5_join_55 : decode cX5_join 55 = .ok (.iload_n 2, 1) := by decide +kernel
theorem dX5_join_56 : decode cX5_join 56 = .ok (.iadd, 1) := by decide +kernel
theorem dX5_join_57 : decode cX5_join 57 = .ok (.iaload, 1) := by decide +kernel
theorem dX5_join_58 : decode cX5_join 58 = .ok (.ifCond .eq 12, 3) := by decide +kernel
theorem dX5_join_61 : decode cX5_join 61 = .ok (.aload_n 0, 1) := by decide +kernel
theorem dX5_join_62 : decode cX5_join 62 = .ok (.iload_n 1, 1) := by decide +kernel
theorem dX5_join_63 : decode cX5_join 63 = .ok (.iload_n 2, 1) := by decide +kernel
theorem dX5_join_64 : decode cX5_join 64 = .ok (.invokevirtual 30, 3) := by decide +kernel
theorem dX5_join_67 : decode cX5_join 67 = .ok (.ifCond .ne 9, 3) := by decide +kernel
theorem dX5_join_70 : decode cX5_join 70 = .ok (.aload_n 0, 1) := by decide +kernel
theorem dX5_join_71 : decode cX5_join 71 = .ok (.iconst 3, 1) := by decide +kernel
theorem dX5_join_72 : decode cX5_join 72 = .ok (.invokevirtual 100, 3) := by decide +kernel
theorem dX5_join_75 : decode cX5_join 75 = .ok (.ireturn, 1) := by decide +kernel
theorem dX5_join_76 : decode cX5_join 76 = .ok (.aload_n 0, 1) := by decide +kernel
theorem dX5_join_77 : decode cX5_join 77 = .ok (.getfield 7, 3) := by decide +kernel
theorem dX5_join_80 : decode cX5_join 80 = .ok (.bipush 34, 2) := by decide +kernel
theorem dX5_join_82 : decode cX5_join 82 = .ok (.iload_n 1, 1) := by decide +kernel
theorem dX5_join_83 : decode cX5_join 83 = .ok (.iadd, 1) := by decide +kernel
theorem dX5_join_84 : decode cX5_join 84 = .ok (.dup2, 1) := by decide +kernel
theorem dX5_join_85 : decode cX5_join 85 = .ok (.iaload, 1) := by decide +kernel
theorem dX5_join_86 : decode cX5_join 86 = .ok (.aload_n 0, 1) := by decide +kernel
theorem dX5_join_87 : decode cX5_join 87 = .ok (.getfield 7, 3) := by decide +kernel
theorem dX5_join_90 : decode cX5_join 90 = .ok (.bipush 18, 2) := by decide +kernel
theorem dX5_join_92 : decode cX5_join 92 = .ok (.iload_n 1, 1) := by decide +kernel
theorem dX5_join_93 : decode cX5_join 93 = .ok (.iadd, 1) := by decide +kernel
theorem dX5_join_94 : decode cX5_join 94 = .ok (.iaload, 1) := by decide +kernel
theorem dX5_join_95 : decode cX5_join 95 = .ok (.iadd, 1) := by decide +kernel
theorem dX5_join_96 : decode cX5_join 96 = .ok (.iastore, 1) := by decide +kernel
theorem dX5_join_97 : decode cX5_join 97 = .ok (.aload_n 0, 1) := by decide +kernel
theorem dX5_join_98 : decode cX5_join 98 = .ok (.getfield 7, 3) := by decide +kernel
theorem dX5_join_101 : decode cX5_join 101 = .ok (.bipush 18, 2) := by decide +kernel
theorem dX5_join_103 : decode cX5_join 103 = .ok (.iload_n 1, 1) := by decide +kernel
theorem dX5_join_104 : decode cX5_join 104 = .ok (.iadd, 1) := by decide +kernel
theorem dX5_join_105 : decode cX5_join 105 = .ok (.iconst 1, 1) := by decide +kernel
theorem dX5_join_106 : decode cX5_join 106 = .ok (.iastore, 1) := by decide +kernel
theorem dX5_join_107 : decode cX5_join 107 = .ok (.aload_n 0, 1) := by decide +kernel
theorem dX5_join_108 : decode cX5_join 108 = .ok (.getfield 7, 3) := by decide +kernel
theorem dX5_join_111 : decode cX5_join 111 = .ok (.bipush 10, 2) := by decide +kernel
theorem dX5_join_113 : decode cX5_join 113 = .ok (.iload_n 1, 1) := by decide +kernel
theorem dX5_join_114 : decode cX5_join 114 = .ok (.iadd, 1) := by decide +kernel
theorem dX5_join_115 : decode cX5_join 115 = .ok (.iconst 1, 1) := by decide +kernel
theorem dX5_join_116 : decode cX5_join 116 = .ok (.iastore, 1) := by decide +kernel
theorem dX5_join_117 : decode cX5_join 117 = .ok (.iconst 0, 1) := by decide +kernel
theorem dX5_join_118 : decode cX5_join 118 = .ok (.istore_n 3, 1) := by decide +kernel
theorem dX5_join_119 : decode cX5_join 119 = .ok (.iload_n 3, 1) := by decide +kernel
theorem dX5_join_120 : decode cX5_join 120 = .ok (.bipush 8, 2) := by decide +kernel
theorem dX5_join_122 : decode cX5_join 122 = .ok (.if_icmp .ge 52, 3) := by decide +kernel
theorem dX5_join_125 : decode cX5_join 125 = .ok (.aload_n 0, 1) := by decide +kernel
theorem dX5_join_126 : decode cX5_join 126 = .ok (.getfield 7, 3) := by decide +kernel
theorem dX5_join_129 : decode cX5_join 129 = .ok (.bipush 42, 2) := by decide +kernel
theorem dX5_join_131 : decode cX5_join 131 = .ok (.iload_n 1, 1) := by decide +kernel
theorem dX5_join_132 : decode cX5_join 132 = .ok (.iload_n 3, 1) := by decide +kernel
theorem dX5_join_133 : decode cX5_join 133 = .ok (.invokestatic 34, 3) := by decide +kernel
theorem dX5_join_136 : decode cX5_join 136 = .ok (.iadd, 1) := by decide +kernel
theorem dX5_join_137 : decode cX5_join 137 = .ok (.iconst 0, 1) := by decide +kernel
theorem dX5_join_138 : decode cX5_join 138 = .ok (.iastore, 1) := by decide +kernel
theorem dX5_join_139 : decode cX5_join 139 = .ok (.aload_n 0, 1) := by decide +kernel
theorem dX5_join_140 : decode cX5_join 140 = .ok (.getfield 7, 3) := by decide +kernel
theorem dX5_join_143 : decode cX5_join 143 = .ok (.bipush 106, 2) := by decide +kernel
theorem dX5_join_145 : decode cX5_join 145 = .ok (.iload_n 1, 1) := by decide +kernel
theorem dX5_join_146 : decode cX5_join 146 = .ok (.iload_n 3, 1) := by decide +kernel
theorem dX5_join_147 : decode cX5_join 147 = .ok (.invokestatic 34, 3) := by decide +kernel
theorem dX5_join_150 : decode cX5_join 150 = .ok (.iadd, 1) := by decide +kernel
theorem dX5_join_151 : decode cX5_join 151 = .ok (.iconst 0, 1) := by decide +kernel
theorem dX5_join_152 : decode cX5_join 152 = .ok (.iastore, 1) := by decide +kernel
theorem dX5_join_153 : decode cX5_join 153 = .ok (.aload_n 0, 1) := by decide +kernel
theorem dX5_join_154 : decode cX5_join 154 = .ok (.getfield 7, 3) := by decide +kernel
theorem dX5_join_157 : decode cX5_join 157 = .ok (.sipush 234, 3) := by decide +kernel
theorem dX5_join_160 : decode cX5_join 160 = .ok (.iload_n 1, 1) := by decide +kernel
theorem dX5_join_161 : decode cX5_join 161 = .ok (.iload_n 3, 1) := by decide +kernel
theorem dX5_join_162 : decode cX5_join 162 = .ok (.invokestatic 34, 3) := by decide +kernel
theorem dX5_join_165 : decode cX5_join 165 = .ok (.iadd, 1) := by decide +kernel
theorem dX5_join_166 : decode cX5_join 166 = .ok (.iconst 0, 1) := by decide +kernel
theorem dX5_join_167 : decode cX5_join 167 = .ok (.iastore, 1) := by decide +kernel
theorem dX5_join_168 : decode cX5_join 168 = .ok (.iinc 3 1, 3) := by decide +kernel
theorem dX5_join_171 : decode cX5_join 171 = .ok (.goto (-52), 3) := by decide +kernel
theorem dX5_join_174 : decode cX5_join 174 = .ok (.aload_n 0, 1) := by decide +kernel
theorem dX5_join_175 : decode cX5_join 175 = .ok (.iload_n 1, 1) := by decide +kernel
theorem dX5_join_176 : decode cX5_join 176 = .ok (.iload_n 1, 1) := by decide +kernel
theorem dX5_join_177 : decode cX5_join 177 = .ok (.invokevirtual 38, 3) := by decide +kernel
theorem dX5_join_180 : decode cX5_join 180 = .ok (.iload_n 2, 1) := by decide +kernel
theorem dX5_join_181 : decode cX5_join 181 = .ok (.iload_n 1, 1) := by decide +kernel
theorem dX5_join_182 : decode cX5_join 182 = .ok (.if_icmp .eq 9, 3) := by decide +kernel
theorem dX5_join_185 : decode cX5_join 185 = .ok (.aload_n 0, 1) := by decide +kernel
theorem dX5_join_186 : decode cX5_join 186 = .ok (.iload_n 1, 1) := by decide +kernel
theorem dX5_join_187 : decode cX5_join 187 = .ok (.iload_n 2, 1) := by decide +kernel
theorem dX5_join_188 : decode cX5_join 188 = .ok (.invokevirtual 112, 3) := by decide +kernel
theorem dX5_join_191 : decode cX5_join 191 = .ok (.aload_n 0, 1) := by decide +kernel
theorem dX5_join_192 : decode cX5_join 192 = .ok (.getfield 7, 3) := by decide +kernel
theorem dX5_join_195 : decode cX5_join 195 = .ok (.bipush 34, 2) := by decide +kernel
theorem dX5_join_197 : decode cX5_join 197 = .ok (.iload_n 1, 1) := by decide +kernel
theorem dX5_join_198 : decode cX5_join 198 = .ok (.iadd, 1) := by decide +kernel
theorem dX5_join_199 : decode cX5_join 199 = .ok (.iaload, 1) := by decide +kernel
theorem dX5_join_200 : decode cX5_join 200 = .ok (.ireturn, 1) := by decide +kernel
set_option maxRecDepth 20000 in
theorem ggX5_greets_X5_pair : GoodIn wsX5_greets wsX5_pair := goodIn_r _ [5] (by decide +kernel) (by decide +kernel)
set_option maxRecDepth 20000 in
theorem gX5_greets_X5_pair : GoodIn wsX5_greets (va_wsS RX5 34 yX5_pair wsX5_pair) := goodIn_app (goodIn_of _ (by decide +kernel)) ggX5_greets_X5_pair
set_option maxRecDepth 20000 in
theorem ggX5_greets_X5_takesIn : GoodIn wsX5_greets wsX5_takesIn := goodIn_ca (goodIn_r _ [9, 1, 10, 11, 12, 4, 13, 14, 15, 16, 17, 2, 3, 5, 18, 19, 20, 21, 22, 23, 24, 25, 26, 27, 28, 29, 30, 31, 32, 33] (by decide +kernel) (by decide +kernel)) (goodIn_sub (fun _ h => List.mem_cons_of_mem _ (List.mem_append_right _ h)) (by decide +kernel))
set_option maxRecDepth 20000 in
theorem gX5_greets_X5_takesIn : GoodIn wsX5_greets (wsV RX5 58 RX5 yX5_takesIn wsX5_takesIn) := goodIn_app (goodIn_of _ (by decide +kernel)) ggX5_greets_X5_takesIn
theorem dX5_greets_0 : decode cX5_greets 0 = .ok (.iconst 0, 1) := by decide +kernel
theorem dX5_greets_1 : decode cX5_greets 1 = .ok (.istore_n 3, 1) := by decide +kernel
theorem dX5_greets_2 : decode cX5_greets 2 = .ok (.iload_n 3, 1) := by decide +kernel
theorem dX5_greets_3 : decode cX5_greets 3 = .ok (.bipush 8, 2) := by decide +kernel
theorem dX5_greets_5 : decode cX5_greets 5 = .ok (.if_icmp .ge 81, 3) := by decide +kernel
theorem dX5_greets_8 : decode cX5_greets 8 = .ok (.iload_n 2, 1) := by decide +kernel
theorem dX5_greets_9 : decode cX5_greets 9 = .ok (.iload_n 3, 1) := by decide +kernel
theorem dX5_greets_10 : decode cX5_greets 10 = .ok (.invokestatic 34, 3) := by decide +kernel
theorem dX5_greets_13 : decode cX5_greets 13 = .ok (.istore 4, 2) := by decide +kernel
theorem dX5_greets_15 : decode cX5_greets 15 = .ok (.iload_n 3, 1) := by decide +kernel
theorem dX5_greets_16 : decode cX5_greets 16 = .ok (.iload_n 2, 1) := by decide +kernel
theorem dX5_greets_17 : decode cX5_greets 17 = .ok (.if_icmp .ne 23, 3) := by decide +kernel
theorem dX5_greets_20 : decode cX5_greets 20 = .ok (.aload_n 0, 1) := by decide +kernel
theorem dX5_greets_21 : decode cX5_greets 21 = .ok (.iload_n 1, 1) := by decide +kernel
theorem dX5_greets_22 : decode cX5_greets 22 = .ok (.iload_n 3, 1) := by decide +kernel
theorem dX5_greets_23 : decode cX5_greets 23 = .ok (.iconst 1, 1) := by decide +kernel
theorem dX5_greets_24 : decode cX5_greets 24 = .ok (.aload_n 0, 1) := by decide +kernel
theorem dX5_greets_25 : decode cX5_greets 25 = .ok (.getfield 7, 3) := by decide +kernel
theorem dX5_greets_28 : decode cX5_greets 28 = .ok (.bipush 34, 2) := by decide +kernel
theorem dX5_greets_30 : decode cX5_greets 30 = .ok (.iload_n 2, 1) := by decide +kernel
theorem dX5_greets_31 : decode cX5_greets 31 = .ok (.iadd, 1) := by decide +kernel
theorem dX5_greets_32 : decode cX5_greets 32 = .ok (.iaload, 1) := by decide +kernel
theorem dX5_greets_33 : decode cX5_greets 33 = .ok (.invokevirtual 58, 3) := by decide +kernel
theorem dX5_greets_36 : decode cX5_greets 36 = .ok (.pop, 1) := by decide +kernel
theorem dX5_greets_37 : decode cX5_greets 37 = .ok (.goto 43, 3) := by decide +kernel
theorem dX5_greets_40 : decode cX5_greets 40 = .ok (.aload_n 0, 1) := by decide +kernel
theorem dX5_greets_41 : decode cX5_greets 41 = .ok (.getfield 7, 3) := by decide +kernel
theorem dX5_greets_44 : decode cX5_greets 44 = .ok (.bipush 42, 2) := by decide +kernel
theorem dX5_greets_46 : decode cX5_greets 46 = .ok (.iload 4, 2) := by decide +kernel
theorem dX5_greets_48 : decode cX5_greets 48 = .ok (.iadd, 1) := by decide +kernel
theorem dX5_greets_49 : decode cX5_greets 49 = .ok (.iaload, 1) := by decide +kernel
theorem dX5_greets_50 : decode cX5_greets 50 = .ok (.ifCond .eq 30, 3) := by decide +kernel
theorem dX5_greets_53 : decode cX5_greets 53 = .ok (.aload_n 0, 1) := by decide +kernel
theorem dX5_greets_54 : decode cX5_greets 54 = .ok (.iload_n 1, 1) := by decide +kernel
theorem dX5_greets_55 : decode cX5_greets 55 = .ok (.iload_n 3, 1) := by decide +kernel
theorem dX5_greets_56 : decode cX5_greets 56 = .ok (.aload_n 0, 1) := by decide +kernel
theorem dX5_greets_57 : decode cX5_greets 57 = .ok (.getfield 7, 3) := by decide +kernel
theorem dX5_greets_60 : decode cX5_greets 60 = .ok (.bipush 42, 2) := by decide +kernel
theorem dX5_greets_62 : decode cX5_greets 62 = .ok (.iload 4, 2) := by decide +kernel
theorem dX5_greets_64 : decode cX5_greets 64 = .ok (.iadd, 1) := by decide +kernel
theorem dX5_greets_65 : decode cX5_greets 65 = .ok (.iaload, 1) := by decide +kernel
theorem dX5_greets_66 : decode cX5_greets 66 = .ok (.aload_n 0, 1) := by decide +kernel
theorem dX5_greets_67 : decode cX5_greets 67 = .ok (.getfield 7, 3) := by decide +kernel
theorem dX5_greets_70 : decode cX5_greets 70 = .ok (.bipush 106, 2) := by decide +kernel
theorem dX5_greets_72 : decode cX5_greets 72 = .ok (.iload 4, 2) := by decide +kernel
theorem dX5_greets_74 : decode cX5_greets 74 = .ok (.iadd, 1) := by decide +kernel
theorem dX5_greets_75 : decode cX5_greets 75 = .ok (.iaload, 1) := by decide +kernel
theorem dX5_greets_76 : decode cX5_greets 76 = .ok (.invokevirtual 58, 3) := by decide +kernel
theorem dX5_greets_79 : decode cX5_greets 79 = .ok (.pop, 1) := by decide +kernel
theorem dX5_greets_80 : decode cX5_greets 80 = .ok (.iinc 3 1, 3) := by decide +kernel
theorem dX5_greets_83 : decode cX5_greets 83 = .ok (.goto (-81), 3) := by decide +kernel
theorem dX5_greets_86 : decode cX5_greets 86 = .ok (.aload_n 0, 1) := by decide +kernel
theorem dX5_greets_87 : decode cX5_greets 87 = .ok (.iload_n 2, 1) := by decide +kernel
theorem dX5_greets_88 : decode cX5_greets 88 = .ok (.iload_n 1, 1) := by decide +kernel
theorem dX5_greets_89 : decode cX5_greets 89 = .ok (.iconst 1, 1) := by decide +kernel
theorem dX5_greets_90 : decode cX5_greets 90 = .ok (.aload_n 0, 1) := by decide +kernel
theorem dX5_greets_91 : decode cX5_greets 91 = .ok (.getfield 7, 3) := by decide +kernel
theorem dX5_greets_94 : decode cX5_greets 94 = .ok (.bipush 34, 2) := by decide +kernel
theorem dX5_greets_96 : decode cX5_greets 96 = .ok (.iload_n 1, 1) := by decide +kernel
theorem dX5_greets_97 : decode cX5_greets 97 = .ok (.iadd, 1) := by decide +kernel
theorem dX5_greets_98 : decode cX5_greets 98 = .ok (.iaload, 1) := by decide +kernel
theorem dX5_greets_99 : decode cX5_greets 99 = .ok (.invokevirtual 58, 3) := by decide +kernel
theorem dX5_greets_102 : decode cX5_greets 102 = .ok (.pop, 1) := by decide +kernel
theorem dX5_greets_103 : decode cX5_greets 103 = .ok (.return_, 1) := by decide +kernel
set_option maxRecDepth 20000 in
theorem ggX5_crash_X5_isNode : GoodIn wsX5_crash wsX5_isNode := goodIn_r _ [6, 7, 8, 5, 9] (by decide +kernel) (by decide +kernel)
set_option maxRecDepth 20000 in
theorem gX5_crash_X5_isNode : GoodIn wsX5_crash (va_wsS RX5 108 yX5_isNode wsX5_isNode) := goodIn_app (goodIn_of _ (by decide +kernel)) ggX5_crash_X5_isNode
set_option maxRecDepth 20000 in
theorem ggX5_crash_X5_fails : GoodIn wsX5_crash wsX5_fails := goodIn_r _ [13, 1, 14, 15, 16, 17, 18, 19, 20, 21, 22, 23, 24, 25] (by decide +kernel) (by decide +kernel)
set_option maxRecDepth 20000 in
theorem gX5_crash_X5_fails : GoodIn wsX5_crash (wsV RX5 100 RX5 yX5_fails wsX5_fails) := goodIn_app (goodIn_of _ (by decide +kernel)) ggX5_crash_X5_fails
theorem dX5_crash_0 : decode cX5_crash 0 = .ok (.aload_n 0, 1) := by decide +kernel
theorem dX5_crash_1 : decode cX5_crash 1 = .ok (.iconst 0, 1) := by decide +kernel
theorem dX5_crash_2 : decode cX5_crash 2 = .ok (.putfield 22, 3) := by decide +kernel
theorem dX5_crash_5 : decode cX5_crash 5 = .ok (.iload_n 1, 1) := by decide +kernel
theorem dX5_crash_6 : decode cX5_crash 6 = .ok (.invokestatic 108, 3) := by decide +kernel
theorem dX5_crash_9 : decode cX5_crash 9 = .ok (.ifCond .ne 9, 3) := by decide +kernel
theorem dX5_crash_12 : decode cX5_crash 12 = .ok (.aload_n 0, 1) := by decide +kernel
theorem dX5_crash_13 : decode cX5_crash 13 = .ok (.iconst 1, 1) := by decide +kernel
theorem dX5_crash_14 : decode cX5_crash 14 = .ok (.invokevirtual 100, 3) := by decide +kernel
theorem dX5_crash_17 : decode cX5_crash 17 = .ok (.ireturn, 1) := by decide +kernel
theorem dX5_crash_18 : decode cX5_crash 18 = .ok (.aload_n 0, 1) := by decide +kernel
theorem dX5_crash_19 : decode cX5_crash 19 = .ok (.getfield 7, 3) := by decide +kernel
theorem dX5_crash_22 : decode cX5_crash 22 = .ok (.bipush 10, 2) := by decide +kernel
theorem dX5_crash_24 : decode cX5_crash 24 = .ok (.iload_n 1, 1) := by decide +kernel
theorem dX5_crash_25 : decode cX5_crash 25 = .ok (.iadd, 1) := by decide +kernel
theorem dX5_crash_26 : decode cX5_crash 26 = .ok (.iaload, 1) := by decide +kernel
theorem dX5_crash_27 : decode cX5_crash 27 = .ok (.ifCond .ne 9, 3) := by decide +kernel
theorem dX5_crash_30 : decode cX5_crash 30 = .ok (.aload_n 0, 1) := by decide +kernel
theorem dX5_crash_31 : decode cX5_crash 31 = .ok (.iconst 2, 1) := by decide +kernel
theorem dX5_crash_32 : decode cX5_crash 32 = .ok (.invokevirtual 100, 3) := by decide +kernel
theorem dX5_crash_35 : decode cX5_crash 35 = .ok (.ireturn, 1) := by decide +kernel
theorem dX5_crash_36 : decode cX5_crash 36 = .ok (.aload_n 0, 1) := by decide +kernel
theorem dX5_crash_37 : decode cX5_crash 37 = .ok (.getfield 7, 3) := by decide +kernel
theorem dX5_crash_40 : decode cX5_crash 40 = .ok (.bipush 10, 2) := by decide +kernel
theorem dX5_crash_42 : decode cX5_crash 42 = .ok (.iload_n 1, 1) := by decide +kernel
theorem dX5_crash_43 : decode cX5_crash 43 = .ok (.iadd, 1) := by decide +kernel
theorem dX5_crash_44 : decode cX5_crash 44 = .ok (.iconst 0, 1) := by decide +kernel
theorem dX5_crash_45 : decode cX5_crash 45 = .ok (.iastore, 1) := by decide +kernel
theorem dX5_crash_46 : decode cX5_crash 46 = .ok (.aload_n 0, 1) := by decide +kernel
theorem dX5_crash_47 : decode cX5_crash 47 = .ok (.getfield 7, 3) := by decide +kernel
theorem dX5_crash_50 : decode cX5_crash 50 = .ok (.bipush 9, 2) := by decide +kernel
theorem dX5_crash_52 : decode cX5_crash 52 = .ok (.aload_n 0, 1) := by decide +kernel
theorem dX5_crash_53 : decode cX5_crash 53 = .ok (.getfield 7, 3) := by decide +kernel
theorem dX5_crash_56 : decode cX5_crash 56 = .ok (.iconst 0, 1) := by decide +kernel
theorem dX5_crash_57 : decode cX5_crash 57 = .ok (.iaload, 1) := by decide +kernel
theorem dX5_crash_58 : decode cX5_crash 58 = .ok (.iastore, 1) := by decide +kernel
theorem dX5_crash_59 : decode cX5_crash 59 = .ok (.iconst 0, 1) := by decide +kernel
theorem dX5_crash_60 : decode cX5_crash 60 = .ok (.istore_n 2, 1) := by decide +kernel
theorem dX5_crash_61 : decode cX5_crash 61 = .ok (.iconst 0, 1) := by decide +kernel
theorem dX5_crash_62 : decode cX5_crash 62 = .ok (.istore_n 3, 1) := by decide +kernel
theorem dX5_crash_63 : decode cX5_crash 63 = .ok (.iload_n 3, 1) := by decide +kernel
theorem dX5_crash_64 : decode cX5_crash 64 = .ok (.bipush 8, 2) := by decide +kernel
theorem dX5_crash_66 : decode cX5_crash 66 = .ok (.if_icmp .ge 21, 3) := by decide +kernel
theorem dX5_crash_69 : decode cX5_crash 69 = .ok (.iload_n 2, 1) := by decide +kernel
theorem dX5_crash_70 : decode cX5_crash 70 = .ok (.aload_n 0, 1) := by decide +kernel
theorem dX5_crash_71 : decode cX5_crash 71 = .ok (.getfield 7, 3) := by decide +kernel
theorem dX5_crash_74 : decode cX5_crash 74 = .ok (.bipush 10, 2) := by decide +kernel
theorem dX5_crash_76 : decode cX5_crash 76 = .ok (.iload_n 3, 1) := by decide +kernel
theorem dX5_crash_77 : decode cX5_crash 77 = .ok (.iadd, 1) := by decide +kernel
theorem dX5_crash_78 : decode cX5_crash 78 = .ok (.iaload, 1) := by decide +kernel
theorem dX5_crash_79 : decode cX5_crash 79 = .ok (.iadd, 1) := by decide +kernel
theorem dX5_crash_80 : decode cX5_crash 80 = .ok (.istore_n 2, 1) := by decide +kernel
theorem dX5_crash_81 : decode cX5_crash 81 = .ok (.iinc 3 1, 3) := by decide +kernel
theorem dX5_crash_84 : decode cX5_crash 84 = .ok (.goto (-21), 3) := by decide +kernel
theorem dX5_crash_87 : decode cX5_crash 87 = .ok (.iload_n 2, 1) := by decide +kernel
theorem dX5_crash_88 : decode cX5_crash 88 = .ok (.ireturn, 1) := by decide +kernel
set_option maxRecDepth 20000 in
theorem ggX5_move_X5_isNode : GoodIn wsX5_move wsX5_isNode := goodIn_r _ [6, 7, 8, 5, 9] (by decide +kernel) (by decide +kernel)
set_option maxRecDepth 20000 in
theorem gX5_move_X5_isNode : GoodIn wsX5_move (va_wsS RX5 108 yX5_isNode wsX5_isNode) := goodIn_app (goodIn_of _ (by decide +kernel)) ggX5_move_X5_isNode
set_option maxRecDepth 20000 in
theorem ggX5_move_X5_fails : GoodIn wsX5_move wsX5_fails := goodIn_r _ [13, 1, 14, 15, 16, 17, 18, 19, 20, 21, 22, 23, 24, 25] (by decide +kernel) (by decide +kernel)
set_option maxRecDepth 20000 in
theorem gX5_move_X5_fails : GoodIn wsX5_move (wsV RX5 100 RX5 yX5_fails wsX5_fails) := goodIn_app (goodIn_of _ (by decide +kernel)) ggX5_move_X5_fails
set_option maxRecDepth 20000 in
theorem ggX5_move_X5_in : GoodIn wsX5_move wsX5_in := goodIn_r _ [9] (by decide +kernel) (by decide +kernel)
set_option maxRecDepth 20000 in
theorem gX5_move_X5_in : GoodIn wsX5_move (va_wsS RX5 26 yX5_in wsX5_in) := goodIn_app (goodIn_of _ (by decide +kernel)) ggX5_move_X5_in
theorem dX5_move_0 : decode cX5_move 0 = .ok (.aload_n 0, 1) := by decide +kernel
theorem dX5_move_1 : decode cX5_move 1 = .ok (.iconst 0, 1) := by decide +kernel
theorem dX5_move_2 : decode cX5_move 2 = .ok (.putfield 22, 3) := by decide +kernel
theorem dX5_move_5 : decode cX5_move 5 = .ok (.iload_n 1, 1) := by decide +kernel
theorem dX5_move_6 : decode cX5_move 6 = .ok (.invokestatic 108, 3) := by decide +kernel
theorem dX5_move_9 : decode cX5_move 9 = .ok (.ifCond .ne 9, 3) := by decide +kernel
theorem dX5_move_12 : decode cX5_move 12 = .ok (.aload_n 0, 1) := by decide +kernel
theorem dX5_move_13 : decode cX5_move 13 = .ok (.iconst 1, 1) := by decide +kernel
theorem dX5_move_14 : decode cX5_move 14 = .ok (.invokevirtual 100, 3) := by decide +kernel
theorem dX5_move_17 : decode cX5_move 17 = .ok (.ireturn, 1) := by decide +kernel
theorem dX5_move_18 : decode cX5_move 18 = .ok (.iload_n 2, 1) := by decide +kernel
theorem dX5_move_19 : decode cX5_move 19 = .ok (.iconst 0, 1) := by decide +kernel
theorem dX5_move_20 : decode cX5_move 20 = .ok (.iconst 3, 1) := by decide +kernel
theorem dX5_move_21 : decode cX5_move 21 = .ok (.invokestatic 26, 3) := by decide +kernel
theorem dX5_move_24 : decode cX5_move 24 = .ok (.ifCond .ne 9, 3) := by decide +kernel
theorem dX5_move_27 : decode cX5_move 27 = .ok (.aload_n 0, 1) := by decide +kernel
theorem dX5_move_28 : decode cX5_move 28 = .ok (.iconst 2, 1) := by decide +kernel
theorem dX5_move_29 : decode cX5_move 29 = .ok (.invokevirtual 100, 3) := by decide +kernel
theorem dX5_move_32 : decode cX5_move 32 = .ok (.ireturn, 1) := by decide +kernel
theorem dX5_move_33 : decode cX5_move 33 = .ok (.aload_n 0, 1) := by decide +kernel
theorem dX5_move_34 : decode cX5_move 34 = .ok (.getfield 7, 3) := by decide +kernel
theorem dX5_move_37 : decode cX5_move 37 = .ok (.bipush 26, 2) := by decide +kernel
theorem dX5_move_39 : decode cX5_move 39 = .ok (.iload_n 1, 1) := by decide +kernel
theorem dX5_move_40 : decode cX5_move 40 = .ok (.iadd, 1) := by decide +kernel
theorem dX5_move_41 : decode cX5_move 41 = .ok (.iaload, 1) := by decide +kernel
theorem dX5_move_42 : decode cX5_move 42 = .ok (.istore_n 3, 1) := by decide +kernel
theorem dX5_move_43 : decode cX5_move 43 = .ok (.aload_n 0, 1) := by decide +kernel
theorem dX5_move_44 : decode cX5_move 44 = .ok (.getfield 7, 3) := by decide +kernel
theorem dX5_move_47 : decode cX5_move 47 = .ok (.bipush 26, 2) := by decide +kernel
theorem dX5_move_49 : decode cX5_move 49 = .ok (.iload_n 1, 1) := by decide +kernel
theorem dX5_move_50 : decode cX5_move 50 = .ok (.iadd, 1) := by decide +kernel
theorem dX5_move_51 : decode cX5_move 51 = .ok (.iload_n 2, 1) := by decide +kernel
theorem dX5_move_52 : decode cX5_move 52 = .ok (.iastore, 1) := by decide +kernel
theorem dX5_move_53 : decode cX5_move 53 = .ok (.aload_n 0, 1) := by decide +kernel
theorem dX5_move_54 : decode cX5_move 54 = .ok (.getfield 7, 3) := by decide +kernel
theorem dX5_move_57 : decode cX5_move 57 = .ok (.bipush 9, 2) := by decide +kernel
theorem dX5_move_59 : decode cX5_move 59 = .ok (.aload_n 0, 1) := by decide +kernel
theorem dX5_move_60 : decode cX5_move 60 = .ok (.getfield 7, 3) := by decide +kernel
theorem dX5_move_63 : decode cX5_move 63 = .ok (.iconst 0, 1) := by decide +kernel
theorem dX5_move_64 : decode cX5_move 64 = .ok (.iaload, 1) := by decide +kernel
theorem dX5_move_65 : decode cX5_move 65 = .ok (.iastore, 1) := by decide +kernel
theorem dX5_move_66 : decode cX5_move 66 = .ok (.iload_n 3, 1) := by decide +kernel
theorem dX5_move_67 : decode cX5_move 67 = .ok (.ireturn, 1) := by decide +kernel
set_option maxRecDepth 20000 in
theorem ggX5_cut_X5_isNode : GoodIn wsX5_cut wsX5_isNode := goodIn_r _ [6, 7, 8, 5, 9] (by decide +kernel) (by decide +kernel)
set_option maxRecDepth 20000 in
theorem gX5_cut_X5_isNode : GoodIn wsX5_cut (va_wsS RX5 108 yX5_isNode wsX5_isNode) := goodIn_app (goodIn_of _ (by decide +kernel)) ggX5_cut_X5_isNode
set_option maxRecDepth 20000 in
theorem ggX5_cut_X5_pair : GoodIn wsX5_cut wsX5_pair := goodIn_r _ [12] (by decide +kernel) (by decide +kernel)
set_option maxRecDepth 20000 in
theorem gX5_cut_X5_pair : GoodIn wsX5_cut (va_wsS RX5 34 yX5_pair wsX5_pair) := goodIn_app (goodIn_of _ (by decide +kernel)) ggX5_cut_X5_pair
theorem dX5_cut_0 : decode cX5_cut 0 = .ok (.aload_n 0, 1) := by decide +kernel
theorem dX5_cut_1 : decode cX5_cut 1 = .ok (.iload_n 1, 1) := by decide +kernel
theorem dX5_cut_2 : decode cX5_cut 2 = .ok (.invokestatic 108, 3) := by decide +kernel
theorem dX5_cut_5 : decode cX5_cut 5 = .ok (.ifCond .eq 10, 3) := by decide +kernel
theorem dX5_cut_8 : decode cX5_cut 8 = .ok (.iload_n 2, 1) := by decide +kernel
theorem dX5_cut_9 : decode cX5_cut 9 = .ok (.invokestatic 108, 3) := by decide +kernel
theorem dX5_cut_12 : decode cX5_cut 12 = .ok (.ifCond .ne 7, 3) := by decide +kernel
theorem dX5_cut_15 : decode cX5_cut 15 = .ok (.iconst 1, 1) := by decide +kernel
theorem dX5_cut_16 : decode cX5_cut 16 = .ok (.goto 13, 3) := by decide +kernel
theorem dX5_cut_19 : decode cX5_cut 19 = .ok (.iload_n 1, 1) := by decide +kernel
theorem dX5_cut_20 : decode cX5_cut 20 = .ok (.iload_n 2, 1) := by decide +kernel
theorem dX5_cut_21 : decode cX5_cut 21 = .ok (.if_icmp .ne 7, 3) := by decide +kernel
theorem dX5_cut_24 : decode cX5_cut 24 = .ok (.iconst 2, 1) := by decide +kernel
theorem dX5_cut_25 : decode cX5_cut 25 = .ok (.goto 4, 3) := by decide +kernel
theorem dX5_cut_28 : decode cX5_cut 28 = .ok (.iconst 0, 1) := by decide +kernel
theorem dX5_cut_29 : decode cX5_cut 29 = .ok (.putfield 22, 3) := by decide +kernel
theorem dX5_cut_32 : decode cX5_cut 32 = .ok (.aload_n 0, 1) := by decide +kernel
theorem dX5_cut_33 : decode cX5_cut 33 = .ok (.getfield 22, 3) := by decide +kernel
theorem dX5_cut_36 : decode cX5_cut 36 = .ok (.ifCond .le 5, 3) := by decide +kernel
theorem dX5_cut_39 : decode cX5_cut 39 = .ok (.iconst 0, 1) := by decide +kernel
theorem dX5_cut_40 : decode cX5_cut 40 = .ok (.ireturn, 1) := by decide +kernel
theorem dX5_cut_41 : decode cX5_cut 41 = .ok (.aload_n 0, 1) := by decide +kernel
theorem dX5_cut_42 : decode cX5_cut 42 = .ok (.getfield 7, 3) := by decide +kernel
theorem dX5_cut_45 : decode cX5_cut 45 = .ok (.sipush 298, 3) := by decide +kernel
theorem dX5_cut_48 : decode cX5_cut 48 = .ok (.iload_n 1, 1) := by decide +kernel
theorem dX5_cut_49 : decode cX5_cut 49 = .ok (.iload_n 2, 1) := by decide +kernel
theorem dX5_cut_50 : decode cX5_cut 50 = .ok (.invokestatic 34, 3) := by decide +kernel
theorem dX5_cut_53 : decode cX5_cut 53 = .ok (.iadd, 1) := by decide +kernel
theorem dX5_cut_54 : decode cX5_cut 54 = .ok (.iaload, 1) := by decide +kernel
theorem dX5_cut_55 : decode cX5_cut 55 = .ok (.iconst 1, 1) := by decide +kernel
theorem dX5_cut_56 : decode cX5_cut 56 = .ok (.if_icmp .ne 7, 3) := by decide +kernel
theorem dX5_cut_59 : decode cX5_cut 59 = .ok (.iconst 1, 1) := by decide +kernel
theorem dX5_cut_60 : decode cX5_cut 60 = .ok (.goto 4, 3) := by decide +kernel
theorem dX5_cut_63 : decode cX5_cut 63 = .ok (.iconst 0, 1) := by decide +kernel
theorem dX5_cut_64 : decode cX5_cut 64 = .ok (.istore 4, 2) := by decide +kernel
theorem dX5_cut_66 : decode cX5_cut 66 = .ok (.aload_n 0, 1) := by decide +kernel
theorem dX5_cut_67 : decode cX5_cut 67 = .ok (.getfield 7, 3) := by decide +kernel
theorem dX5_cut_70 : decode cX5_cut 70 = .ok (.sipush 298, 3) := by decide +kernel
theorem dX5_cut_73 : decode cX5_cut 73 = .ok (.iload_n 1, 1) := by decide +kernel
theorem dX5_cut_74 : decode cX5_cut 74 = .ok (.iload_n 2, 1) := by decide +kernel
theorem dX5_cut_75 : decode cX5_cut 75 = .ok (.invokestatic 34, 3) := by decide +kernel
theorem dX5_cut_78 : decode cX5_cut 78 = .ok (.iadd, 1) := by decide +kernel
theorem dX5_cut_79 : decode cX5_cut 79 = .ok (.iload_n 3, 1) := by decide +kernel
theorem dX5_cut_80 : decode cX5_cut 80 = .ok (.ifCond .eq 7, 3) := by decide +kernel
theorem dX5_cut_83 : decode cX5_cut 83 = .ok (.iconst 1, 1) := by decide +kernel
theorem dX5_cut_84 : decode cX5_cut 84 = .ok (.goto 4, 3) := by decide +kernel
theorem dX5_cut_87 : decode cX5_cut 87 = .ok (.iconst 0, 1) := by decide +kernel
theorem dX5_cut_88 : decode cX5_cut 88 = .ok (.iastore, 1) := by decide +kernel
theorem dX5_cut_89 : decode cX5_cut 89 = .ok (.aload_n 0, 1) := by decide +kernel
theorem dX5_cut_90 : decode cX5_cut 90 = .ok (.getfield 7, 3) := by decide +kernel
theorem dX5_cut_93 : decode cX5_cut 93 = .ok (.sipush 298, 3) := by decide +kernel
theorem dX5_cut_96 : decode cX5_cut 96 = .ok (.iload_n 2, 1) := by decide +kernel
theorem dX5_cut_97 : decode cX5_cut 97 = .ok (.iload_n 1, 1) := by decide +kernel
theorem dX5_cut_98 : decode cX5_cut 98 = .ok (.invokestatic 34, 3) := by decide +kernel
theorem dX5_cut_101 : decode cX5_cut 101 = .ok (.iadd, 1) := by decide +kernel
theorem dX5_cut_102 : decode cX5_cut 102 = .ok (.iload_n 3, 1) := by decide +kernel
theorem dX5_cut_103 : decode cX5_cut 103 = .ok (.ifCond .eq 7, 3) := by decide +kernel
theorem dX5_cut_106 : decode cX5_cut 106 = .ok (.iconst 1, 1) := by decide +kernel
theorem dX5_cut_107 : decode cX5_cut 107 = .ok (.goto 4, 3) := by decide +kernel
theorem dX5_cut_110 : decode cX5_cut 110 = .ok (.iconst 0, 1) := by decide +kernel
theorem dX5_cut_111 : decode cX5_cut 111 = .ok (.iastore, 1) := by decide +kernel
theorem dX5_cut_112 : decode cX5_cut 112 = .ok (.aload_n 0, 1) := by decide +kernel
theorem dX5_cut_113 : decode cX5_cut 113 = .ok (.getfield 7, 3) := by decide +kernel
theorem dX5_cut_116 : decode cX5_cut 116 = .ok (.bipush 9, 2) := by decide +kernel
theorem dX5_cut_118 : decode cX5_cut 118 = .ok (.aload_n 0, 1) := by decide +kernel
theorem dX5_cut_119 : decode cX5_cut 119 = .ok (.getfield 7, 3) := by decide +kernel
theorem dX5_cut_122 : decode cX5_cut 122 = .ok (.iconst 0, 1) := by decide +kernel
theorem dX5_cut_123 : decode cX5_cut 123 = .ok (.iaload, 1) := by decide +kernel
theorem dX5_cut_124 : decode cX5_cut 124 = .ok (.iastore, 1) := by decide +kernel
theorem dX5_cut_125 : decode cX5_cut 125 = .ok (.iload 4, 2) := by decide +kernel
theorem dX5_cut_127 : decode cX5_cut 127 = .ok (.ireturn, 1) := by decide +kernel
set_option maxRecDepth 20000 in
theorem ggX5_rounds_X5_in : GoodIn wsX5_rounds wsX5_in := goodIn_r _ [6] (by decide +kernel) (by decide +kernel)
set_option maxRecDepth 20000 in
theorem gX5_rounds_X5_in : GoodIn wsX5_rounds (va_wsS RX5 26 yX5_in wsX5_in) := goodIn_app (goodIn_of _ (by decide +kernel)) ggX5_rounds_X5_in
set_option maxRecDepth 20000 in
theorem ggX5_rounds_X5_fails : GoodIn wsX5_rounds wsX5_fails := goodIn_r _ [10, 1, 87, 88, 89, 90, 91, 92, 93, 94, 95, 96, 97, 98] (by decide +kernel) (by decide +kernel)
set_option maxRecDepth 20000 in
theorem gX5_rounds_X5_fails : GoodIn wsX5_rounds (wsV RX5 100 RX5 yX5_fails wsX5_fails) := goodIn_app (goodIn_of _ (by decide +kernel)) ggX5_rounds_X5_fails
set_option maxRecDepth 20000 in
theorem ggX5_rounds_X5_round1 : GoodIn wsX5_rounds wsX5_round1 := goodIn_ca (goodIn_ca (goodIn_r _ [14, 2, 15, 16, 17, 5, 18, 19, 20, 21, 22, 23, 24, 25, 26, 27, 28, 29, 30, 31, 32, 33, 34, 35, 36, 37, 38, 39, 40, 41, 42, 43, 44, 45, 3, 4, 6, 46, 47, 48, 49, 50, 51, 52, 53, 54, 55, 56, 57, 58, 59, 60, 61, 62, 63, 64, 65, 66, 67, 68, 69, 70, 71, 72, 73, 74, 75, 76, 77, 78, 79, 80, 81, 82, 83, 84, 85, 86, 87, 88, 89, 90, 91, 92, 93, 94, 95, 96, 97, 98] (by decide +kernel) (by decide +kernel)) (goodIn_sub (fun _ h => List.mem_cons_of_mem _ (List.mem_append_left _ (List.mem_append_right _ h))) (by decide +kernel))) (goodIn_sub (fun _ h => List.mem_cons_of_mem _ (List.mem_append_right _ h)) (by decide +kernel))
set_option maxRecDepth 20000 in
theorem gX5_rounds_X5_round1 : GoodIn wsX5_rounds (wsV RX5 115 RX5 yX5_round1 wsX5_round1) := goodIn_app (goodIn_of _ (by decide +kernel)) ggX5_rounds_X5_round1
theorem dX5_rounds_0 : decode cX5_rounds 0 = .ok (.aload_n 0, 1) := by decide +kernel
theorem dX5_rounds_1 : decode cX5_rounds 1 = .ok (.iconst 0, 1) := by decide +kernel
theorem dX5_rounds_2 : decode cX5_rounds 2 = .ok (.putfield 22, 3) := by decide +kernel
theorem dX5_rounds_5 : decode cX5_rounds 5 = .ok (.iload_n 1, 1) := by decide +kernel
theorem dX5_rounds_6 : decode cX5_rounds 6 = .ok (.iconst 1, 1) := by decide +kernel
theorem dX5_rounds_7 : decode cX5_rounds 7 = .ok (.bipush 50, 2) := by decide +kernel
theorem dX5_rounds_9 : decode cX5_rounds 9 = .ok (.invokestatic 26, 3) := by decide +kernel
theorem dX5_rounds_12 : decode cX5_rounds 12 = .ok (.ifCond .ne 9, 3) := by decide +kernel
theorem dX5_rounds_15 : decode cX5_rounds 15 = .ok (.aload_n 0, 1) := by decide +kernel
theorem dX5_rounds_16 : decode cX5_rounds 16 = .ok (.iconst 1, 1) := by decide +kernel
theorem dX5_rounds_17 : decode cX5_rounds 17 = .ok (.invokevirtual 100, 3) := by decide +kernel
theorem dX5_rounds_20 : decode cX5_rounds 20 = .ok (.ireturn, 1) := by decide +kernel
theorem dX5_rounds_21 : decode cX5_rounds 21 = .ok (.iconst 0, 1) := by decide +kernel
theorem dX5_rounds_22 : decode cX5_rounds 22 = .ok (.istore_n 2, 1) := by decide +kernel
theorem dX5_rounds_23 : decode cX5_rounds 23 = .ok (.iload_n 2, 1) := by decide +kernel
theorem dX5_rounds_24 : decode cX5_rounds 24 = .ok (.iload_n 1, 1) := by decide +kernel
theorem dX5_rounds_25 : decode cX5_rounds 25 = .ok (.if_icmp .ge 13, 3) := by decide +kernel
theorem dX5_rounds_28 : decode cX5_rounds 28 = .ok (.aload_n 0, 1) := by decide +kernel
theorem dX5_rounds_29 : decode cX5_rounds 29 = .ok (.invokevirtual 115, 3) := by decide +kernel
theorem dX5_rounds_32 : decode cX5_rounds 32 = .ok (.iinc 2 1, 3) := by decide +kernel
theorem dX5_rounds_35 : decode cX5_rounds 35 = .ok (.goto (-12), 3) := by decide +kernel
theorem dX5_rounds_38 : decode cX5_rounds 38 = .ok (.aload_n 0, 1) := by decide +kernel
theorem dX5_rounds_39 : decode cX5_rounds 39 = .ok (.getfield 7, 3) := by decide +kernel
theorem dX5_rounds_42 : decode cX5_rounds 42 = .ok (.iconst 0, 1) := by decide +kernel
theorem dX5_rounds_43 : decode cX5_rounds 43 = .ok (.iaload, 1) := by decide +kernel
theorem dX5_rounds_44 : decode cX5_rounds 44 = .ok (.ireturn, 1) := by decide +kernel
set_option maxRecDepth 20000 in
theorem ggX5_roundsUntilAgreement_X5_in : GoodIn wsX5_roundsUntilAgreement wsX5_in := goodIn_r _ [5] (by decide +kernel) (by decide +kernel)
set_option maxRecDepth 20000 in
theorem gX5_roundsUntilAgreement_X5_in : GoodIn wsX5_roundsUntilAgreement (va_wsS RX5 26 yX5_in wsX5_in) := goodIn_app (goodIn_of _ (by decide +kernel)) ggX5_roundsUntilAgreement_X5_in
set_option maxRecDepth 20000 in
theorem ggX5_roundsUntilAgreement_X5_fails : GoodIn wsX5_roundsUntilAgreement wsX5_fails := goodIn_r _ [9, 1, 103, 104, 105, 106, 107, 108, 109, 110, 111, 112, 113, 114] (by decide +kernel) (by decide +kernel)
set_option maxRecDepth 20000 in
theorem gX5_roundsUntilAgreement_X5_fails : GoodIn wsX5_roundsUntilAgreement (wsV RX5 100 RX5 yX5_fails wsX5_fails) := goodIn_app (goodIn_of _ (by decide +kernel)) ggX5_roundsUntilAgreement_X5_fails
set_option maxRecDepth 20000 in
theorem ggX5_roundsUntilAgreement_X5_doAgree : GoodIn wsX5_roundsUntilAgreement wsX5_doAgree := goodIn_ca (goodIn_r _ [13, 14, 15, 16, 4, 17, 18, 19, 20, 21, 22, 23, 24, 25, 26, 27, 28, 29, 30, 31, 32, 33, 34, 35, 36, 37, 103, 104, 105, 106, 107, 108, 109, 110, 111, 112, 113, 114] (by decide +kernel) (by decide +kernel)) (goodIn_sub (fun _ h => List.mem_cons_of_mem _ (List.mem_append_left _ (List.mem_append_right _ h))) (by decide +kernel))
set_option maxRecDepth 20000 in
theorem gX5_roundsUntilAgreement_X5_doAgree : GoodIn wsX5_roundsUntilAgreement (wsV RX5 118 RX5 yX5_doAgree wsX5_doAgree) := goodIn_app (goodIn_of _ (by decide +kernel)) ggX5_roundsUntilAgreement_X5_doAgree
set_option maxRecDepth 20000 in
theorem ggX5_roundsUntilAgreement_X5_round1 : GoodIn wsX5_roundsUntilAgreement wsX5_round1 := goodIn_ca (goodIn_ca (goodIn_r _ [41, 22, 42, 43, 44, 4, 45, 46, 47, 48, 49, 27, 28, 29, 50, 51, 52, 53, 54, 55, 56, 57, 18, 19, 20, 21, 23, 24, 25, 26, 58, 59, 60, 61, 2, 3, 5, 62, 63, 64, 65, 66, 67, 68, 69, 70, 71, 72, 73, 74, 75, 76, 77, 78, 79, 80, 81, 82, 83, 84, 85, 86, 87, 88, 89, 90, 91, 92, 93, 94, 95, 96, 97, 98, 99, 100, 101, 102, 103, 104, 105, 106, 107, 108, 109, 110, 111, 112, 113, 114] (by decide +kernel) (by decide +kernel)) (goodIn_sub (fun _ h => List.mem_cons_of_mem _ (List.mem_append_left _ (List.mem_append_right _ h))) (by decide +kernel))) (goodIn_sub (fun _ h => List.mem_cons_of_mem _ (List.mem_append_right _ h)) (by decide +kernel))
set_option maxRecDepth 20000 in
theorem gX5_roundsUntilAgreement_X5_round1 : GoodIn wsX5_roundsUntilAgreement (wsV RX5 115 RX5 yX5_round1 wsX5_round1) := goodIn_app (goodIn_of _ (by decide +kernel)) ggX5_roundsUntilAgreement_X5_round1
theorem dX5_roundsUntilAgreement_0 : decode cX5_roundsUntilAgreement 0 = .ok (.aload_n 0, 1) := by decide +kernel
theorem dX5_roundsUntilAgreement_1 : decode cX5_roundsUntilAgreement 1 = .ok (.iconst 0, 1) := by decide +kernel
theorem dX5_roundsUntilAgreement_2 : decode cX5_roundsUntilAgreement 2 = .ok (.putfield 22, 3) := by decide +kernel
theorem dX5_roundsUntilAgreement_5 : decode cX5_roundsUntilAgreement 5 = .ok (.iload_n 1, 1) := by decide +kernel
theorem dX5_roundsUntilAgreement_6 : decode cX5_roundsUntilAgreement 6 = .ok (.iconst 1, 1) := by decide +kernel
theorem dX5_roundsUntilAgreement_7 : decode cX5_roundsUntilAgreement 7 = .ok (.bipush 100, 2) := by decide +kernel
theorem dX5_roundsUntilAgreement_9 : decode cX5_roundsUntilAgreement 9 = .ok (.invokestatic 26, 3) := by decide +kernel
theorem dX5_roundsUntilAgreement_12 : decode cX5_roundsUntilAgreement 12 = .ok (.ifCond .ne 9, 3) := by decide +kernel
theorem dX5_roundsUntilAgreement_15 : decode cX5_roundsUntilAgreement 15 = .ok (.aload_n 0, 1) := by decide +kernel
theorem dX5_roundsUntilAgreement_16 : decode cX5_roundsUntilAgreement 16 = .ok (.iconst 1, 1) := by decide +kernel
theorem dX5_roundsUntilAgreement_17 : decode cX5_roundsUntilAgreement 17 = .ok (.invokevirtual 100, 3) := by decide +kernel
theorem dX5_roundsUntilAgreement_20 : decode cX5_roundsUntilAgreement 20 = .ok (.ireturn, 1) := by decide +kernel
theorem dX5_roundsUntilAgreement_21 : decode cX5_roundsUntilAgreement 21 = .ok (.iconst 0, 1) := by decide +kernel
theorem dX5_roundsUntilAgreement_22 : decode cX5_roundsUntilAgreement 22 = .ok (.istore_n 2, 1) := by decide +kernel
theorem dX5_roundsUntilAgreement_23 : decode cX5_roundsUntilAgreement 23 = .ok (.iload_n 2, 1) := by decide +kernel
theorem dX5_roundsUntilAgreement_24 : decode cX5_roundsUntilAgreement 24 = .ok (.iload_n 1, 1) := by decide +kernel
theorem dX5_roundsUntilAgreement_25 : decode cX5_roundsUntilAgreement 25 = .ok (.if_icmp .ge 20, 3) := by decide +kernel
theorem dX5_roundsUntilAgreement_28 : decode cX5_roundsUntilAgreement 28 = .ok (.aload_n 0, 1) := by decide +kernel
theorem dX5_roundsUntilAgreement_29 : decode cX5_roundsUntilAgreement 29 = .ok (.invokevirtual 118, 3) := by decide +kernel
theorem dX5_roundsUntilAgreement_32 : decode cX5_roundsUntilAgreement 32 = .ok (.ifCond .ne 13, 3) := by decide +kernel
theorem dX5_roundsUntilAgreement_35 : decode cX5_roundsUntilAgreement 35 = .ok (.aload_n 0, 1) := by decide +kernel
theorem dX5_roundsUntilAgreement_36 : decode cX5_roundsUntilAgreement 36 = .ok (.invokevirtual 115, 3) := by decide +kernel
theorem dX5_roundsUntilAgreement_39 : decode cX5_roundsUntilAgreement 39 = .ok (.iinc 2 1, 3) := by decide +kernel
theorem dX5_roundsUntilAgreement_42 : decode cX5_roundsUntilAgreement 42 = .ok (.goto (-19), 3) := by decide +kernel
theorem dX5_roundsUntilAgreement_45 : decode cX5_roundsUntilAgreement 45 = .ok (.aload_n 0, 1) := by decide +kernel
theorem dX5_roundsUntilAgreement_46 : decode cX5_roundsUntilAgreement 46 = .ok (.invokevirtual 118, 3) := by decide +kernel
theorem dX5_roundsUntilAgreement_49 : decode cX5_roundsUntilAgreement 49 = .ok (.ifCond .eq 7, 3) := by decide +kernel
theorem dX5_roundsUntilAgreement_52 : decode cX5_roundsUntilAgreement 52 = .ok (.iload_n 2, 1) := by decide +kernel
theorem dX5_roundsUntilAgreement_53 : decode cX5_roundsUntilAgreement 53 = .ok (.goto 8, 3) := by decide +kernel
theorem dX5_roundsUntilAgreement_56 : decode cX5_roundsUntilAgreement 56 = .ok (.aload_n 0, 1) := by decide +kernel
theorem dX5_roundsUntilAgreement_57 : decode cX5_roundsUntilAgreement 57 = .ok (.iconst 2, 1) := by decide +kernel
theorem dX5_roundsUntilAgreement_58 : decode cX5_roundsUntilAgreement 58 = .ok (.invokevirtual 100, 3) := by decide +kernel
theorem dX5_roundsUntilAgreement_61 : decode cX5_roundsUntilAgreement 61 = .ok (.ireturn, 1) := by decide +kernel
theorem dX5_round_0 : decode cX5_round 0 = .ok (.aload_n 0, 1) := by decide +kernel
theorem dX5_round_1 : decode cX5_round 1 = .ok (.iconst 0, 1) := by decide +kernel
theorem dX5_round_2 : decode cX5_round 2 = .ok (.putfield 22, 3) := by decide +kernel
theorem dX5_round_5 : decode cX5_round 5 = .ok (.aload_n 0, 1) := by decide +kernel
theorem dX5_round_6 : decode cX5_round 6 = .ok (.getfield 7, 3) := by decide +kernel
theorem dX5_round_9 : decode cX5_round 9 = .ok (.iconst 0, 1) := by decide +kernel
theorem dX5_round_10 : decode cX5_round 10 = .ok (.iaload, 1) := by decide +kernel
theorem dX5_round_11 : decode cX5_round 11 = .ok (.ireturn, 1) := by decide +kernel
set_option maxRecDepth 20000 in
theorem ggX5_isUp_X5_isNode : GoodIn wsX5_isUp wsX5_isNode := goodIn_r _ [6, 7, 8, 5, 9] (by decide +kernel) (by decide +kernel)
set_option maxRecDepth 20000 in
theorem gX5_isUp_X5_isNode : GoodIn wsX5_isUp (va_wsS RX5 108 yX5_isNode wsX5_isNode) := goodIn_app (goodIn_of _ (by decide +kernel)) ggX5_isUp_X5_isNode
theorem dX5_isUp_0 : decode cX5_isUp 0 = .ok (.aload_n 0, 1) := by decide +kernel
theorem dX5_isUp_1 : decode cX5_isUp 1 = .ok (.iload_n 1, 1) := by decide +kernel
theorem dX5_isUp_2 : decode cX5_isUp 2 = .ok (.invokestatic 108, 3) := by decide +kernel
theorem dX5_isUp_5 : decode cX5_isUp 5 = .ok (.ifCond .eq 7, 3) := by decide +kernel
theorem dX5_isUp_8 : decode cX5_isUp 8 = .ok (.iconst 0, 1) := by decide +kernel
theorem dX5_isUp_9 : decode cX5_isUp 9 = .ok (.goto 4, 3) := by decide +kernel
theorem dX5_isUp_12 : decode cX5_isUp 12 = .ok (.iconst 1, 1) := by decide +kernel
theorem dX5_isUp_13 : decode cX5_isUp 13 = .ok (.putfield 22, 3) := by decide +kernel
theorem dX5_isUp_16 : decode cX5_isUp 16 = .ok (.aload_n 0, 1) := by decide +kernel
theorem dX5_isUp_17 : decode cX5_isUp 17 = .ok (.getfield 22, 3) := by decide +kernel
theorem dX5_isUp_20 : decode cX5_isUp 20 = .ok (.ifCond .ne 20, 3) := by decide +kernel
theorem dX5_isUp_23 : decode cX5_isUp 23 = .ok (.aload_n 0, 1) := by decide +kernel
theorem dX5_isUp_24 : decode cX5_isUp 24 = .ok (.getfield 7, 3) := by decide +kernel
theorem dX5_isUp_27 : decode cX5_isUp 27 = .ok (.bipush 10, 2) := by decide +kernel
theorem dX5_isUp_29 : decode cX5_isUp 29 = .ok (.iload_n 1, 1) := by decide +kernel
theorem dX5_isUp_30 : decode cX5_isUp 30 = .ok (.iadd, 1) := by decide +kernel
theorem dX5_isUp_31 : decode cX5_isUp 31 = .ok (.iaload, 1) := by decide +kernel
theorem dX5_isUp_32 : decode cX5_isUp 32 = .ok (.iconst 1, 1) := by decide +kernel
theorem dX5_isUp_33 : decode cX5_isUp 33 = .ok (.if_icmp .ne 7, 3) := by decide +kernel
theorem dX5_isUp_36 : decode cX5_isUp 36 = .ok (.iconst 1, 1) := by decide +kernel
theorem dX5_isUp_37 : decode cX5_isUp 37 = .ok (.goto 4, 3) := by decide +kernel
theorem dX5_isUp_40 : decode cX5_isUp 40 = .ok (.iconst 0, 1) := by decide +kernel
theorem dX5_isUp_41 : decode cX5_isUp 41 = .ok (.ireturn, 1) := by decide +kernel
set_option maxRecDepth 20000 in
theorem ggX5_partition_X5_isNode : GoodIn wsX5_partition wsX5_isNode := goodIn_r _ [6, 7, 8, 5, 9] (by decide +kernel) (by decide +kernel)
set_option maxRecDepth 20000 in
theorem gX5_partition_X5_isNode : GoodIn wsX5_partition (va_wsS RX5 108 yX5_isNode wsX5_isNode) := goodIn_app (goodIn_of _ (by decide +kernel)) ggX5_partition_X5_isNode
set_option maxRecDepth 20000 in
theorem ggX5_partition_X5_fails : GoodIn wsX5_partition wsX5_fails := goodIn_r _ [13, 1, 14, 15, 16, 17, 18, 19, 20, 21, 22, 23, 24, 25] (by decide +kernel) (by decide +kernel)
set_option maxRecDepth 20000 in
theorem gX5_partition_X5_fails : GoodIn wsX5_partition (wsV RX5 100 RX5 yX5_fails wsX5_fails) := goodIn_app (goodIn_of _ (by decide +kernel)) ggX5_partition_X5_fails
theorem dX5_partition_0 : decode cX5_partition 0 = .ok (.aload_n 0, 1) := by decide +kernel
theorem dX5_partition_1 : decode cX5_partition 1 = .ok (.iconst 0, 1) := by decide +kernel
theorem dX5_partition_2 : decode cX5_partition 2 = .ok (.putfield 22, 3) := by decide +kernel
theorem dX5_partition_5 : decode cX5_partition 5 = .ok (.iload_n 1, 1) := by decide +kernel
theorem dX5_partition_6 : decode cX5_partition 6 = .ok (.invokestatic 108, 3) := by decide +kernel
theorem dX5_partition_9 : decode cX5_partition 9 = .ok (.ifCond .eq 15, 3) := by decide +kernel
theorem dX5_partition_12 : decode cX5_partition 12 = .ok (.aload_n 0, 1) := by decide +kernel
theorem dX5_partition_13 : decode cX5_partition 13 = .ok (.getfield 7, 3) := by decide +kernel
theorem dX5_partition_16 : decode cX5_partition 16 = .ok (.bipush 26, 2) := by decide +kernel
theorem dX5_partition_18 : decode cX5_partition 18 = .ok (.iload_n 1, 1) := by decide +kernel
theorem dX5_partition_19 : decode cX5_partition 19 = .ok (.iadd, 1) := by decide +kernel
theorem dX5_partition_20 : decode cX5_partition 20 = .ok (.iaload, 1) := by decide +kernel
theorem dX5_partition_21 : decode cX5_partition 21 = .ok (.goto 8, 3) := by decide +kernel
theorem dX5_partition_24 : decode cX5_partition 24 = .ok (.aload_n 0, 1) := by decide +kernel
theorem dX5_partition_25 : decode cX5_partition 25 = .ok (.iconst 1, 1) := by decide +kernel
theorem dX5_partition_26 : decode cX5_partition 26 = .ok (.invokevirtual 100, 3) := by decide +kernel
theorem dX5_partition_29 : decode cX5_partition 29 = .ok (.ireturn, 1) := by decide +kernel
set_option maxRecDepth 20000 in
theorem ggX5_incarnation_X5_isNode : GoodIn wsX5_incarnation wsX5_isNode := goodIn_r _ [6, 7, 8, 5, 9] (by decide +kernel) (by decide +kernel)
set_option maxRecDepth 20000 in
theorem gX5_incarnation_X5_isNode : GoodIn wsX5_incarnation (va_wsS RX5 108 yX5_isNode wsX5_isNode) := goodIn_app (goodIn_of _ (by decide +kernel)) ggX5_incarnation_X5_isNode
set_option maxRecDepth 20000 in
theorem ggX5_incarnation_X5_fails : GoodIn wsX5_incarnation wsX5_fails := goodIn_r _ [13, 1, 14, 15, 16, 17, 18, 19, 20, 21, 22, 23, 24, 25] (by decide +kernel) (by decide +kernel)
set_option maxRecDepth 20000 in
theorem gX5_incarnation_X5_fails : GoodIn wsX5_incarnation (wsV RX5 100 RX5 yX5_fails wsX5_fails) := goodIn_app (goodIn_of _ (by decide +kernel)) ggX5_incarnation_X5_fails
theorem dX5_incarnation_0 : decode cX5_incarnation 0 = .ok (.aload_n 0, 1) := by decide +kernel
theorem dX5_incarnation_1 : decode cX5_incarnation 1 = .ok (.iconst 0, 1) := by decide +kernel
theorem dX5_incarnation_2 : decode cX5_incarnation 2 = .ok (.putfield 22, 3) := by decide +kernel
theorem dX5_incarnation_5 : decode cX5_incarnation 5 = .ok (.iload_n 1, 1) := by decide +kernel
theorem dX5_incarnation_6 : decode cX5_incarnation 6 = .ok (.invokestatic 108, 3) := by decide +kernel
theorem dX5_incarnation_9 : decode cX5_incarnation 9 = .ok (.ifCond .eq 15, 3) := by decide +kernel
theorem dX5_incarnation_12 : decode cX5_incarnation 12 = .ok (.aload_n 0, 1) := by decide +kernel
theorem dX5_incarnation_13 : decode cX5_incarnation 13 = .ok (.getfield 7, 3) := by decide +kernel
theorem dX5_incarnation_16 : decode cX5_incarnation 16 = .ok (.bipush 34, 2) := by decide +kernel
theorem dX5_incarnation_18 : decode cX5_incarnation 18 = .ok (.iload_n 1, 1) := by decide +kernel
theorem dX5_incarnation_19 : decode cX5_incarnation 19 = .ok (.iadd, 1) := by decide +kernel
theorem dX5_incarnation_20 : decode cX5_incarnation 20 = .ok (.iaload, 1) := by decide +kernel
theorem dX5_incarnation_21 : decode cX5_incarnation 21 = .ok (.goto 8, 3) := by decide +kernel
theorem dX5_incarnation_24 : decode cX5_incarnation 24 = .ok (.aload_n 0, 1) := by decide +kernel
theorem dX5_incarnation_25 : decode cX5_incarnation 25 = .ok (.iconst 1, 1) := by decide +kernel
theorem dX5_incarnation_26 : decode cX5_incarnation 26 = .ok (.invokevirtual 100, 3) := by decide +kernel
theorem dX5_incarnation_29 : decode cX5_incarnation 29 = .ok (.ireturn, 1) := by decide +kernel
set_option maxRecDepth 20000 in
theorem ggX5_reaches_X5_isNode : GoodIn wsX5_reaches wsX5_isNode := goodIn_r _ [5, 6, 7, 4, 8] (by decide +kernel) (by decide +kernel)
set_option maxRecDepth 20000 in
theorem gX5_reaches_X5_isNode : GoodIn wsX5_reaches (va_wsS RX5 108 yX5_isNode wsX5_isNode) := goodIn_app (goodIn_of _ (by decide +kernel)) ggX5_reaches_X5_isNode
set_option maxRecDepth 20000 in
theorem ggX5_reaches_X5_canReach : GoodIn wsX5_reaches wsX5_canReach := goodIn_ca (goodIn_r _ [12, 13, 14, 15, 16, 4, 17, 18, 19, 20, 21, 22, 23, 24, 25, 26, 27, 28, 29, 30, 31, 32] (by decide +kernel) (by decide +kernel)) (goodIn_sub (fun _ h => List.mem_cons_of_mem _ (List.mem_append_right _ h)) (by decide +kernel))
set_option maxRecDepth 20000 in
theorem gX5_reaches_X5_canReach : GoodIn wsX5_reaches (wsV RX5 77 RX5 yX5_canReach wsX5_canReach) := goodIn_app (goodIn_of _ (by decide +kernel)) ggX5_reaches_X5_canReach
theorem dX5_reaches_0 : decode cX5_reaches 0 = .ok (.aload_n 0, 1) := by decide +kernel
theorem dX5_reaches_1 : decode cX5_reaches 1 = .ok (.iload_n 1, 1) := by decide +kernel
theorem dX5_reaches_2 : decode cX5_reaches 2 = .ok (.invokestatic 108, 3) := by decide +kernel
theorem dX5_reaches_5 : decode cX5_reaches 5 = .ok (.ifCond .eq 14, 3) := by decide +kernel
theorem dX5_reaches_8 : decode cX5_reaches 8 = .ok (.iload_n 2, 1) := by decide +kernel
theorem dX5_reaches_9 : decode cX5_reaches 9 = .ok (.invokestatic 108, 3) := by decide +kernel
theorem dX5_reaches_12 : decode cX5_reaches 12 = .ok (.ifCond .eq 7, 3) := by decide +kernel
theorem dX5_reaches_15 : decode cX5_reaches 15 = .ok (.iconst 0, 1) := by decide +kernel
theorem dX5_reaches_16 : decode cX5_reaches 16 = .ok (.goto 4, 3) := by decide +kernel
theorem dX5_reaches_19 : decode cX5_reaches 19 = .ok (.iconst 1, 1) := by decide +kernel
theorem dX5_reaches_20 : decode cX5_reaches 20 = .ok (.putfield 22, 3) := by decide +kernel
theorem dX5_reaches_23 : decode cX5_reaches 23 = .ok (.aload_n 0, 1) := by decide +kernel
theorem dX5_reaches_24 : decode cX5_reaches 24 = .ok (.getfield 22, 3) := by decide +kernel
theorem dX5_reaches_27 : decode cX5_reaches 27 = .ok (.ifCond .ne 16, 3) := by decide +kernel
theorem dX5_reaches_30 : decode cX5_reaches 30 = .ok (.aload_n 0, 1) := by decide +kernel
theorem dX5_reaches_31 : decode cX5_reaches 31 = .ok (.iload_n 1, 1) := by decide +kernel
theorem dX5_reaches_32 : decode cX5_reaches 32 = .ok (.iload_n 2, 1) := by decide +kernel
theorem dX5_reaches_33 : decode cX5_reaches 33 = .ok (.invokevirtual 77, 3) := by decide +kernel
theorem dX5_reaches_36 : decode cX5_reaches 36 = .ok (.ifCond .eq 7, 3) := by decide +kernel
theorem dX5_reaches_39 : decode cX5_reaches 39 = .ok (.iconst 1, 1) := by decide +kernel
theorem dX5_reaches_40 : decode cX5_reaches 40 = .ok (.goto 4, 3) := by decide +kernel
theorem dX5_reaches_43 : decode cX5_reaches 43 = .ok (.iconst 0, 1) := by decide +kernel
theorem dX5_reaches_44 : decode cX5_reaches 44 = .ok (.ireturn, 1) := by decide +kernel
set_option maxRecDepth 20000 in
theorem ggX5_viewRefusal_X5_isNode : GoodIn wsX5_viewRefusal wsX5_isNode := goodIn_r _ [5, 6, 7, 4, 8] (by decide +kernel) (by decide +kernel)
set_option maxRecDepth 20000 in
theorem gX5_viewRefusal_X5_isNode : GoodIn wsX5_viewRefusal (va_wsS RX5 108 yX5_isNode wsX5_isNode) := goodIn_app (goodIn_of _ (by decide +kernel)) ggX5_viewRefusal_X5_isNode
theorem dX5_viewRefusal_0 : decode cX5_viewRefusal 0 = .ok (.aload_n 0, 1) := by decide +kernel
theorem dX5_viewRefusal_1 : decode cX5_viewRefusal 1 = .ok (.iload_n 1, 1) := by decide +kernel
theorem dX5_viewRefusal_2 : decode cX5_viewRefusal 2 = .ok (.invokestatic 108, 3) := by decide +kernel
theorem dX5_viewRefusal_5 : decode cX5_viewRefusal 5 = .ok (.ifCond .eq 10, 3) := by decide +kernel
theorem dX5_viewRefusal_8 : decode cX5_viewRefusal 8 = .ok (.iload_n 2, 1) := by decide +kernel
theorem dX5_viewRefusal_9 : decode cX5_viewRefusal 9 = .ok (.invokestatic 108, 3) := by decide +kernel
theorem dX5_viewRefusal_12 : decode cX5_viewRefusal 12 = .ok (.ifCond .ne 7, 3) := by decide +kernel
theorem dX5_viewRefusal_15 : decode cX5_viewRefusal 15 = .ok (.iconst 1, 1) := by decide +kernel
theorem dX5_viewRefusal_16 : decode cX5_viewRefusal 16 = .ok (.goto 13, 3) := by decide +kernel
theorem dX5_viewRefusal_19 : decode cX5_viewRefusal 19 = .ok (.iload_n 1, 1) := by decide +kernel
theorem dX5_viewRefusal_20 : decode cX5_viewRefusal 20 = .ok (.iload_n 2, 1) := by decide +kernel
theorem dX5_viewRefusal_21 : decode cX5_viewRefusal 21 = .ok (.if_icmp .ne 7, 3) := by decide +kernel
theorem dX5_viewRefusal_24 : decode cX5_viewRefusal 24 = .ok (.iconst 2, 1) := by decide +kernel
theorem dX5_viewRefusal_25 : decode cX5_viewRefusal 25 = .ok (.goto 4, 3) := by decide +kernel
theorem dX5_viewRefusal_28 : decode cX5_viewRefusal 28 = .ok (.iconst 0, 1) := by decide +kernel
theorem dX5_viewRefusal_29 : decode cX5_viewRefusal 29 = .ok (.putfield 22, 3) := by decide +kernel
theorem dX5_viewRefusal_32 : decode cX5_viewRefusal 32 = .ok (.aload_n 0, 1) := by decide +kernel
theorem dX5_viewRefusal_33 : decode cX5_viewRefusal 33 = .ok (.getfield 22, 3) := by decide +kernel
theorem dX5_viewRefusal_36 : decode cX5_viewRefusal 36 = .ok (.ireturn, 1) := by decide +kernel
set_option maxRecDepth 20000 in
theorem ggX5_view_X5_viewRefusal : GoodIn wsX5_view wsX5_viewRefusal := goodIn_r _ [6, 7, 8, 9, 5, 10, 11, 12, 13, 17, 18, 19, 20, 21, 22, 23, 24, 25, 26, 27, 28] (by decide +kernel) (by decide +kernel)
set_option maxRecDepth 20000 in
theorem gX5_view_X5_viewRefusal : GoodIn wsX5_view (wsV RX5 122 RX5 yX5_viewRefusal wsX5_viewRefusal) := goodIn_app (goodIn_of _ (by decide +kernel)) ggX5_view_X5_viewRefusal
set_option maxRecDepth 20000 in
theorem ggX5_view_X5_pair : GoodIn wsX5_view wsX5_pair := goodIn_r _ [16] (by decide +kernel) (by decide +kernel)
set_option maxRecDepth 20000 in
theorem gX5_view_X5_pair : GoodIn wsX5_view (va_wsS RX5 34 yX5_pair wsX5_pair) := goodIn_app (goodIn_of _ (by decide +kernel)) ggX5_view_X5_pair
theorem dX5_view_0 : decode cX5_view 0 = .ok (.aload_n 0, 1) := by decide +kernel
theorem dX5_view_1 : decode cX5_view 1 = .ok (.iload_n 1, 1) := by decide +kernel
theorem dX5_view_2 : decode cX5_view 2 = .ok (.iload_n 2, 1) := by decide +kernel
theorem dX5_view_3 : decode cX5_view 3 = .ok (.invokevirtual 122, 3) := by decide +kernel
theorem dX5_view_6 : decode cX5_view 6 = .ok (.ifCond .le 7, 3) := by decide +kernel
theorem dX5_view_9 : decode cX5_view 9 = .ok (.iconst 0, 1) := by decide +kernel
theorem dX5_view_10 : decode cX5_view 10 = .ok (.goto 16, 3) := by decide +kernel
theorem dX5_view_13 : decode cX5_view 13 = .ok (.aload_n 0, 1) := by decide +kernel
theorem dX5_view_14 : decode cX5_view 14 = .ok (.getfield 7, 3) := by decide +kernel
theorem dX5_view_17 : decode cX5_view 17 = .ok (.bipush 42, 2) := by decide +kernel
theorem dX5_view_19 : decode cX5_view 19 = .ok (.iload_n 1, 1) := by decide +kernel
theorem dX5_view_20 : decode cX5_view 20 = .ok (.iload_n 2, 1) := by decide +kernel
theorem dX5_view_21 : decode cX5_view 21 = .ok (.invokestatic 34, 3) := by decide +kernel
theorem dX5_view_24 : decode cX5_view 24 = .ok (.iadd, 1) := by decide +kernel
theorem dX5_view_25 : decode cX5_view 25 = .ok (.iaload, 1) := by decide +kernel
theorem dX5_view_26 : decode cX5_view 26 = .ok (.ireturn, 1) := by decide +kernel
set_option maxRecDepth 20000 in
theorem ggX5_viewIncarnation_X5_viewRefusal : GoodIn wsX5_viewIncarnation wsX5_viewRefusal := goodIn_r _ [6, 7, 8, 9, 5, 10, 11, 12, 13, 17, 18, 19, 20, 21, 22, 23, 24, 25, 26, 27, 28] (by decide +kernel) (by decide +kernel)
set_option maxRecDepth 20000 in
theorem gX5_viewIncarnation_X5_viewRefusal : GoodIn wsX5_viewIncarnation (wsV RX5 122 RX5 yX5_viewRefusal wsX5_viewRefusal) := goodIn_app (goodIn_of _ (by decide +kernel)) ggX5_viewIncarnation_X5_viewRefusal
set_option maxRecDepth 20000 in
theorem ggX5_viewIncarnation_X5_pair : GoodIn wsX5_viewIncarnation wsX5_pair := goodIn_r _ [16] (by decide +kernel) (by decide +kernel)
set_option maxRecDepth 20000 in
theorem gX5_viewIncarnation_X5_pair : GoodIn wsX5_viewIncarnation (va_wsS RX5 34 yX5_pair wsX5_pair) := goodIn_app (goodIn_of _ (by decide +kernel)) ggX5_viewIncarnation_X5_pair
theorem dX5_viewIncarnation_0 : decode cX5_viewIncarnation 0 = .ok (.aload_n 0, 1) := by decide +kernel
theorem dX5_viewIncarnation_1 : decode cX5_viewIncarnation 1 = .ok (.iload_n 1, 1) := by decide +kernel
theorem dX5_viewIncarnation_2 : decode cX5_viewIncarnation 2 = .ok (.iload_n 2, 1) := by decide +kernel
theorem dX5_viewIncarnation_3 : decode cX5_viewIncarnation 3 = .ok (.invokevirtual 122, 3) := by decide +kernel
theorem dX5_viewIncarnation_6 : decode cX5_viewIncarnation 6 = .ok (.ifCond .le 7, 3) := by decide +kernel
theorem dX5_viewIncarnation_9 : decode cX5_viewIncarnation 9 = .ok (.iconst 0, 1) := by decide +kernel
theorem dX5_viewIncarnation_10 : decode cX5_viewIncarnation 10 = .ok (.goto 16, 3) := by decide +kernel
theorem dX5_viewIncarnation_13 : decode cX5_viewIncarnation 13 = .ok (.aload_n 0, 1) := by decide +kernel
theorem dX5_viewIncarnation_14 : decode cX5_viewIncarnation 14 = .ok (.getfield 7, 3) := by decide +kernel
theorem dX5_viewIncarnation_17 : decode cX5_viewIncarnation 17 = .ok (.bipush 106, 2) := by decide +kernel
theorem dX5_viewIncarnation_19 : decode cX5_viewIncarnation 19 = .ok (.iload_n 1, 1) := by decide +kernel
theorem dX5_viewIncarnation_20 : decode cX5_viewIncarnation 20 = .ok (.iload_n 2, 1) := by decide +kernel
theorem dX5_viewIncarnation_21 : decode cX5_viewIncarnation 21 = .ok (.invokestatic 34, 3) := by decide +kernel
theorem dX5_viewIncarnation_24 : decode cX5_viewIncarnation 24 = .ok (.iadd, 1) := by decide +kernel
theorem dX5_viewIncarnation_25 : decode cX5_viewIncarnation 25 = .ok (.iaload, 1) := by decide +kernel
theorem dX5_viewIncarnation_26 : decode cX5_viewIncarnation 26 = .ok (.ireturn, 1) := by decide +kernel
set_option maxRecDepth 20000 in
theorem ggX5_deadline_X5_viewRefusal : GoodIn wsX5_deadline wsX5_viewRefusal := goodIn_r _ [6, 7, 8, 9, 5, 10, 11, 12, 13, 21, 22, 23, 24, 25, 26, 27, 28, 29, 30, 31, 32] (by decide +kernel) (by decide +kernel)
set_option maxRecDepth 20000 in
theorem gX5_deadline_X5_viewRefusal : GoodIn wsX5_deadline (wsV RX5 122 RX5 yX5_viewRefusal wsX5_viewRefusal) := goodIn_app (goodIn_of _ (by decide +kernel)) ggX5_deadline_X5_viewRefusal
set_option maxRecDepth 20000 in
theorem ggX5_deadline_X5_pair : GoodIn wsX5_deadline wsX5_pair := goodIn_r _ [16] (by decide +kernel) (by decide +kernel)
set_option maxRecDepth 20000 in
theorem gX5_deadline_X5_pair : GoodIn wsX5_deadline (va_wsS RX5 34 yX5_pair wsX5_pair) := goodIn_app (goodIn_of _ (by decide +kernel)) ggX5_deadline_X5_pair
set_option maxRecDepth 20000 in
theorem ggX5_deadline_X5_fails : GoodIn wsX5_deadline wsX5_fails := goodIn_r _ [20, 7, 21, 22, 23, 24, 25, 26, 27, 28, 29, 30, 31, 32] (by decide +kernel) (by decide +kernel)
set_option maxRecDepth 20000 in
theorem gX5_deadline_X5_fails : GoodIn wsX5_deadline (wsV RX5 100 RX5 yX5_fails wsX5_fails) := goodIn_app (goodIn_of _ (by decide +kernel)) ggX5_deadline_X5_fails
theorem dX5_deadline_0 : decode cX5_deadline 0 = .ok (.aload_n 0, 1) := by decide +kernel
theorem dX5_deadline_1 : decode cX5_deadline 1 = .ok (.iload_n 1, 1) := by decide +kernel
theorem dX5_deadline_2 : decode cX5_deadline 2 = .ok (.iload_n 2, 1) := by decide +kernel
theorem dX5_deadline_3 : decode cX5_deadline 3 = .ok (.invokevirtual 122, 3) := by decide +kernel
theorem dX5_deadline_6 : decode cX5_deadline 6 = .ok (.ifCond .le 5, 3) := by decide +kernel
theorem dX5_deadline_9 : decode cX5_deadline 9 = .ok (.iconst 0, 1) := by decide +kernel
theorem dX5_deadline_10 : decode cX5_deadline 10 = .ok (.ireturn, 1) := by decide +kernel
theorem dX5_deadline_11 : decode cX5_deadline 11 = .ok (.aload_n 0, 1) := by decide +kernel
theorem dX5_deadline_12 : decode cX5_deadline 12 = .ok (.getfield 7, 3) := by decide +kernel
theorem dX5_deadline_15 : decode cX5_deadline 15 = .ok (.bipush 42, 2) := by decide +kernel
theorem dX5_deadline_17 : decode cX5_deadline 17 = .ok (.iload_n 1, 1) := by decide +kernel
theorem dX5_deadline_18 : decode cX5_deadline 18 = .ok (.iload_n 2, 1) := by decide +kernel
theorem dX5_deadline_19 : decode cX5_deadline 19 = .ok (.invokestatic 34, 3) := by decide +kernel
theorem dX5_deadline_22 : decode cX5_deadline 22 = .ok (.iadd, 1) := by decide +kernel
theorem dX5_deadline_23 : decode cX5_deadline 23 = .ok (.iaload, 1) := by decide +kernel
theorem dX5_deadline_24 : decode cX5_deadline 24 = .ok (.iconst 2, 1) := by decide +kernel
theorem dX5_deadline_25 : decode cX5_deadline 25 = .ok (.if_icmp .ne 20, 3) := by decide +kernel
theorem dX5_deadline_28 : decode cX5_deadline 28 = .ok (.aload_n 0, 1) := by decide +kernel
theorem dX5_deadline_29 : decode cX5_deadline 29 = .ok (.getfield 7, 3) := by decide +kernel
theorem dX5_deadline_32 : decode cX5_deadline 32 = .ok (.sipush 170, 3) := by decide +kernel
theorem dX5_deadline_35 : decode cX5_deadline 35 = .ok (.iload_n 1, 1) := by decide +kernel
theorem dX5_deadline_36 : decode cX5_deadline 36 = .ok (.iload_n 2, 1) := by decide +kernel
theorem dX5_deadline_37 : decode cX5_deadline 37 = .ok (.invokestatic 34, 3) := by decide +kernel
theorem dX5_deadline_40 : decode cX5_deadline 40 = .ok (.iadd, 1) := by decide +kernel
theorem dX5_deadline_41 : decode cX5_deadline 41 = .ok (.iaload, 1) := by decide +kernel
theorem dX5_deadline_42 : decode cX5_deadline 42 = .ok (.goto 8, 3) := by decide +kernel
theorem dX5_deadline_45 : decode cX5_deadline 45 = .ok (.aload_n 0, 1) := by decide +kernel
theorem dX5_deadline_46 : decode cX5_deadline 46 = .ok (.iconst 3, 1) := by decide +kernel
theorem dX5_deadline_47 : decode cX5_deadline 47 = .ok (.invokevirtual 100, 3) := by decide +kernel
theorem dX5_deadline_50 : decode cX5_deadline 50 = .ok (.ireturn, 1) := by decide +kernel
set_option maxRecDepth 20000 in
theorem ggX5_counter_X5_isNode : GoodIn wsX5_counter wsX5_isNode := goodIn_r _ [6, 7, 8, 5, 9] (by decide +kernel) (by decide +kernel)
set_option maxRecDepth 20000 in
theorem gX5_counter_X5_isNode : GoodIn wsX5_counter (va_wsS RX5 108 yX5_isNode wsX5_isNode) := goodIn_app (goodIn_of _ (by decide +kernel)) ggX5_counter_X5_isNode
set_option maxRecDepth 20000 in
theorem ggX5_counter_X5_pair : GoodIn wsX5_counter wsX5_pair := goodIn_r _ [12] (by decide +kernel) (by decide +kernel)
set_option maxRecDepth 20000 in
theorem gX5_counter_X5_pair : GoodIn wsX5_counter (va_wsS RX5 34 yX5_pair wsX5_pair) := goodIn_app (goodIn_of _ (by decide +kernel)) ggX5_counter_X5_pair
set_option maxRecDepth 20000 in
theorem ggX5_counter_X5_fails : GoodIn wsX5_counter wsX5_fails := goodIn_r _ [16, 1, 17, 18, 19, 20, 21, 22, 23, 24, 25, 26, 27, 28] (by decide +kernel) (by decide +kernel)
set_option maxRecDepth 20000 in
theorem gX5_counter_X5_fails : GoodIn wsX5_counter (wsV RX5 100 RX5 yX5_fails wsX5_fails) := goodIn_app (goodIn_of _ (by decide +kernel)) ggX5_counter_X5_fails
theorem dX5_counter_0 : decode cX5_counter 0 = .ok (.aload_n 0, 1) := by decide +kernel
theorem dX5_counter_1 : decode cX5_counter 1 = .ok (.iconst 0, 1) := by decide +kernel
theorem dX5_counter_2 : decode cX5_counter 2 = .ok (.putfield 22, 3) := by decide +kernel
theorem dX5_counter_5 : decode cX5_counter 5 = .ok (.iload_n 1, 1) := by decide +kernel
theorem dX5_counter_6 : decode cX5_counter 6 = .ok (.invokestatic 108, 3) := by decide +kernel
theorem dX5_counter_9 : decode cX5_counter 9 = .ok (.ifCond .eq 27, 3) := by decide +kernel
theorem dX5_counter_12 : decode cX5_counter 12 = .ok (.iload_n 2, 1) := by decide +kernel
theorem dX5_counter_13 : decode cX5_counter 13 = .ok (.invokestatic 108, 3) := by decide +kernel
theorem dX5_counter_16 : decode cX5_counter 16 = .ok (.ifCond .eq 20, 3) := by decide +kernel
theorem dX5_counter_19 : decode cX5_counter 19 = .ok (.aload_n 0, 1) := by decide +kernel
theorem dX5_counter_20 : decode cX5_counter 20 = .ok (.getfield 7, 3) := by decide +kernel
theorem dX5_counter_23 : decode cX5_counter 23 = .ok (.sipush 234, 3) := by decide +kernel
theorem dX5_counter_26 : decode cX5_counter 26 = .ok (.iload_n 1, 1) := by decide +kernel
theorem dX5_counter_27 : decode cX5_counter 27 = .ok (.iload_n 2, 1) := by decide +kernel
theorem dX5_counter_28 : decode cX5_counter 28 = .ok (.invokestatic 34, 3) := by decide +kernel
theorem dX5_counter_31 : decode cX5_counter 31 = .ok (.iadd, 1) := by decide +kernel
theorem dX5_counter_32 : decode cX5_counter 32 = .ok (.iaload, 1) := by decide +kernel
theorem dX5_counter_33 : decode cX5_counter 33 = .ok (.goto 8, 3) := by decide +kernel
theorem dX5_counter_36 : decode cX5_counter 36 = .ok (.aload_n 0, 1) := by decide +kernel
theorem dX5_counter_37 : decode cX5_counter 37 = .ok (.iconst 1, 1) := by decide +kernel
theorem dX5_counter_38 : decode cX5_counter 38 = .ok (.invokevirtual 100, 3) := by decide +kernel
theorem dX5_counter_41 : decode cX5_counter 41 = .ok (.ireturn, 1) := by decide +kernel
set_option maxRecDepth 20000 in
theorem ggX5_tell_X5_isNode : GoodIn wsX5_tell wsX5_isNode := goodIn_r _ [6, 7, 8, 5, 9] (by decide +kernel) (by decide +kernel)
set_option maxRecDepth 20000 in
theorem gX5_tell_X5_isNode : GoodIn wsX5_tell (va_wsS RX5 108 yX5_isNode wsX5_isNode) := goodIn_app (goodIn_of _ (by decide +kernel)) ggX5_tell_X5_isNode
set_option maxRecDepth 20000 in
theorem ggX5_tell_X5_in : GoodIn wsX5_tell wsX5_in := goodIn_r _ [9] (by decide +kernel) (by decide +kernel)
set_option maxRecDepth 20000 in
theorem gX5_tell_X5_in : GoodIn wsX5_tell (va_wsS RX5 26 yX5_in wsX5_in) := goodIn_app (goodIn_of _ (by decide +kernel)) ggX5_tell_X5_in
set_option maxRecDepth 20000 in
theorem ggX5_tell_X5_takesIn : GoodIn wsX5_tell wsX5_takesIn := goodIn_ca (goodIn_r _ [13, 2, 14, 15, 16, 5, 17, 18, 19, 20, 21, 22, 23, 24, 25, 26, 27, 28, 29, 30, 31, 32, 33, 34, 35, 36, 37, 38, 39, 40] (by decide +kernel) (by decide +kernel)) (goodIn_sub (fun _ h => List.mem_cons_of_mem _ (List.mem_append_right _ h)) (by decide +kernel))
set_option maxRecDepth 20000 in
theorem gX5_tell_X5_takesIn : GoodIn wsX5_tell (wsV RX5 58 RX5 yX5_takesIn wsX5_takesIn) := goodIn_app (goodIn_of _ (by decide +kernel)) ggX5_tell_X5_takesIn
theorem dX5_tell_0 : decode cX5_tell 0 = .ok (.aload_n 0, 1) := by decide +kernel
theorem dX5_tell_1 : decode cX5_tell 1 = .ok (.iconst 0, 1) := by decide +kernel
theorem dX5_tell_2 : decode cX5_tell 2 = .ok (.putfield 22, 3) := by decide +kernel
theorem dX5_tell_5 : decode cX5_tell 5 = .ok (.iload_n 1, 1) := by decide +kernel
theorem dX5_tell_6 : decode cX5_tell 6 = .ok (.invokestatic 108, 3) := by decide +kernel
theorem dX5_tell_9 : decode cX5_tell 9 = .ok (.ifCond .eq 10, 3) := by decide +kernel
theorem dX5_tell_12 : decode cX5_tell 12 = .ok (.iload_n 2, 1) := by decide +kernel
theorem dX5_tell_13 : decode cX5_tell 13 = .ok (.invokestatic 108, 3) := by decide +kernel
theorem dX5_tell_16 : decode cX5_tell 16 = .ok (.ifCond .ne 11, 3) := by decide +kernel
theorem dX5_tell_19 : decode cX5_tell 19 = .ok (.aload_n 0, 1) := by decide +kernel
theorem dX5_tell_20 : decode cX5_tell 20 = .ok (.iconst 1, 1) := by decide +kernel
theorem dX5_tell_21 : decode cX5_tell 21 = .ok (.putfield 22, 3) := by decide +kernel
theorem dX5_tell_24 : decode cX5_tell 24 = .ok (.goto 49, 3) := by decide +kernel
theorem dX5_tell_27 : decode cX5_tell 27 = .ok (.aload_n 0, 1) := by decide +kernel
theorem dX5_tell_28 : decode cX5_tell 28 = .ok (.getfield 7, 3) := by decide +kernel
theorem dX5_tell_31 : decode cX5_tell 31 = .ok (.bipush 10, 2) := by decide +kernel
theorem dX5_tell_33 : decode cX5_tell 33 = .ok (.iload_n 1, 1) := by decide +kernel
theorem dX5_tell_34 : decode cX5_tell 34 = .ok (.iadd, 1) := by decide +kernel
theorem dX5_tell_35 : decode cX5_tell 35 = .ok (.iaload, 1) := by decide +kernel
theorem dX5_tell_36 : decode cX5_tell 36 = .ok (.ifCond .ne 11, 3) := by decide +kernel
theorem dX5_tell_39 : decode cX5_tell 39 = .ok (.aload_n 0, 1) := by decide +kernel
theorem dX5_tell_40 : decode cX5_tell 40 = .ok (.iconst 2, 1) := by decide +kernel
theorem dX5_tell_41 : decode cX5_tell 41 = .ok (.putfield 22, 3) := by decide +kernel
theorem dX5_tell_44 : decode cX5_tell 44 = .ok (.goto 29, 3) := by decide +kernel
theorem dX5_tell_47 : decode cX5_tell 47 = .ok (.iload_n 3, 1) := by decide +kernel
theorem dX5_tell_48 : decode cX5_tell 48 = .ok (.iconst 1, 1) := by decide +kernel
theorem dX5_tell_49 : decode cX5_tell 49 = .ok (.iconst 3, 1) := by decide +kernel
theorem dX5_tell_50 : decode cX5_tell 50 = .ok (.invokestatic 26, 3) := by decide +kernel
theorem dX5_tell_53 : decode cX5_tell 53 = .ok (.ifCond .eq 15, 3) := by decide +kernel
theorem dX5_tell_56 : decode cX5_tell 56 = .ok (.iload 4, 2) := by decide +kernel
theorem dX5_tell_58 : decode cX5_tell 58 = .ok (.iconst 0, 1) := by decide +kernel
theorem dX5_tell_59 : decode cX5_tell 59 = .ok (.sipush 1000, 3) := by decide +kernel
theorem dX5_tell_62 : decode cX5_tell 62 = .ok (.invokestatic 26, 3) := by decide +kernel
theorem dX5_tell_65 : decode cX5_tell 65 = .ok (.ifCond .ne 8, 3) := by decide +kernel
theorem dX5_tell_68 : decode cX5_tell 68 = .ok (.aload_n 0, 1) := by decide +kernel
theorem dX5_tell_69 : decode cX5_tell 69 = .ok (.iconst 3, 1) := by decide +kernel
theorem dX5_tell_70 : decode cX5_tell 70 = .ok (.putfield 22, 3) := by decide +kernel
theorem dX5_tell_73 : decode cX5_tell 73 = .ok (.aload_n 0, 1) := by decide +kernel
theorem dX5_tell_74 : decode cX5_tell 74 = .ok (.getfield 22, 3) := by decide +kernel
theorem dX5_tell_77 : decode cX5_tell 77 = .ok (.ifCond .le 5, 3) := by decide +kernel
theorem dX5_tell_80 : decode cX5_tell 80 = .ok (.iconst 0, 1) := by decide +kernel
theorem dX5_tell_81 : decode cX5_tell 81 = .ok (.ireturn, 1) := by decide +kernel
theorem dX5_tell_82 : decode cX5_tell 82 = .ok (.aload_n 0, 1) := by decide +kernel
theorem dX5_tell_83 : decode cX5_tell 83 = .ok (.getfield 7, 3) := by decide +kernel
theorem dX5_tell_86 : decode cX5_tell 86 = .ok (.bipush 9, 2) := by decide +kernel
theorem dX5_tell_88 : decode cX5_tell 88 = .ok (.aload_n 0, 1) := by decide +kernel
theorem dX5_tell_89 : decode cX5_tell 89 = .ok (.getfield 7, 3) := by decide +kernel
theorem dX5_tell_92 : decode cX5_tell 92 = .ok (.iconst 0, 1) := by decide +kernel
theorem dX5_tell_93 : decode cX5_tell 93 = .ok (.iaload, 1) := by decide +kernel
theorem dX5_tell_94 : decode cX5_tell 94 = .ok (.iastore, 1) := by decide +kernel
theorem dX5_tell_95 : decode cX5_tell 95 = .ok (.aload_n 0, 1) := by decide +kernel
theorem dX5_tell_96 : decode cX5_tell 96 = .ok (.iload_n 1, 1) := by decide +kernel
theorem dX5_tell_97 : decode cX5_tell 97 = .ok (.iload_n 2, 1) := by decide +kernel
theorem dX5_tell_98 : decode cX5_tell 98 = .ok (.iload_n 3, 1) := by decide +kernel
theorem dX5_tell_99 : decode cX5_tell 99 = .ok (.iload 4, 2) := by decide +kernel
theorem dX5_tell_101 : decode cX5_tell 101 = .ok (.invokevirtual 58, 3) := by decide +kernel
theorem dX5_tell_104 : decode cX5_tell 104 = .ok (.ireturn, 1) := by decide +kernel
set_option maxRecDepth 20000 in
theorem ggX5_alive_X5_isNode : GoodIn wsX5_alive wsX5_isNode := goodIn_r _ [5, 6, 7, 4, 8] (by decide +kernel) (by decide +kernel)
set_option maxRecDepth 20000 in
theorem gX5_alive_X5_isNode : GoodIn wsX5_alive (va_wsS RX5 108 yX5_isNode wsX5_isNode) := goodIn_app (goodIn_of _ (by decide +kernel)) ggX5_alive_X5_isNode
set_option maxRecDepth 20000 in
theorem ggX5_alive_X5_viewed : GoodIn wsX5_alive wsX5_viewed := goodIn_ca (goodIn_r _ [12, 13, 14, 15, 4, 16, 6, 7, 8, 21, 22, 23, 24, 25, 26, 27, 28, 29, 30, 31, 32] (by decide +kernel) (by decide +kernel)) (goodIn_sub (fun _ h => List.mem_cons_of_mem _ (List.mem_append_right _ h)) (by decide +kernel))
set_option maxRecDepth 20000 in
theorem gX5_alive_X5_viewed : GoodIn wsX5_alive (wsV RX5 80 RX5 yX5_viewed wsX5_viewed) := goodIn_app (goodIn_of _ (by decide +kernel)) ggX5_alive_X5_viewed
set_option maxRecDepth 20000 in
theorem ggX5_alive_X5_fails : GoodIn wsX5_alive wsX5_fails := goodIn_r _ [20, 1, 21, 22, 23, 24, 25, 26, 27, 28, 29, 30, 31, 32] (by decide +kernel) (by decide +kernel)
set_option maxRecDepth 20000 in
theorem gX5_alive_X5_fails : GoodIn wsX5_alive (wsV RX5 100 RX5 yX5_fails wsX5_fails) := goodIn_app (goodIn_of _ (by decide +kernel)) ggX5_alive_X5_fails
theorem dX5_alive_0 : decode cX5_alive 0 = .ok (.aload_n 0, 1) := by decide +kernel
theorem dX5_alive_1 : decode cX5_alive 1 = .ok (.iconst 0, 1) := by decide +kernel
theorem dX5_alive_2 : decode cX5_alive 2 = .ok (.putfield 22, 3) := by decide +kernel
theorem dX5_alive_5 : decode cX5_alive 5 = .ok (.iload_n 1, 1) := by decide +kernel
theorem dX5_alive_6 : decode cX5_alive 6 = .ok (.invokestatic 108, 3) := by decide +kernel
theorem dX5_alive_9 : decode cX5_alive 9 = .ok (.ifCond .eq 13, 3) := by decide +kernel
theorem dX5_alive_12 : decode cX5_alive 12 = .ok (.aload_n 0, 1) := by decide +kernel
theorem dX5_alive_13 : decode cX5_alive 13 = .ok (.iload_n 1, 1) := by decide +kernel
theorem dX5_alive_14 : decode cX5_alive 14 = .ok (.iconst 1, 1) := by decide +kernel
theorem dX5_alive_15 : decode cX5_alive 15 = .ok (.iconst 1, 1) := by decide +kernel
theorem dX5_alive_16 : decode cX5_alive 16 = .ok (.invokevirtual 80, 3) := by decide +kernel
theorem dX5_alive_19 : decode cX5_alive 19 = .ok (.goto 8, 3) := by decide +kernel
theorem dX5_alive_22 : decode cX5_alive 22 = .ok (.aload_n 0, 1) := by decide +kernel
theorem dX5_alive_23 : decode cX5_alive 23 = .ok (.iconst 1, 1) := by decide +kernel
theorem dX5_alive_24 : decode cX5_alive 24 = .ok (.invokevirtual 100, 3) := by decide +kernel
theorem dX5_alive_27 : decode cX5_alive 27 = .ok (.ireturn, 1) := by decide +kernel
set_option maxRecDepth 20000 in
theorem ggX5_differences_X5_pair : GoodIn wsX5_differences wsX5_pair := goodIn_r _ [5] (by decide +kernel) (by decide +kernel)
set_option maxRecDepth 20000 in
theorem gX5_differences_X5_pair : GoodIn wsX5_differences (va_wsS RX5 34 yX5_pair wsX5_pair) := goodIn_app (goodIn_of _ (by decide +kernel)) ggX5_differences_X5_pair
theorem dX5_differences_0 : decode cX5_differences 0 = .ok (.iconst 0, 1) := by decide +kernel
theorem dX5_differences_1 : decode cX5_differences 1 = .ok (.istore_n 3, 1) := by decide +kernel
theorem dX5_differences_2 : decode cX5_differences 2 = .ok (.iconst 0, 1) := by decide +kernel
theorem dX5_differences_3 : decode cX5_differences 3 = .ok (.istore 4, 2) := by decide +kernel
theorem dX5_differences_5 : decode cX5_differences 5 = .ok (.iload 4, 2) := by decide +kernel
theorem dX5_differences_7 : decode cX5_differences 7 = .ok (.bipush 8, 2) := by decide +kernel
theorem dX5_differences_9 : decode cX5_differences 9 = .ok (.if_icmp .ge 103, 3) := by decide +kernel
theorem dX5_differences_12 : decode cX5_differences 12 = .ok (.aload_n 0, 1) := by decide +kernel
theorem dX5_differences_13 : decode cX5_differences 13 = .ok (.getfield 7, 3) := by decide +kernel
theorem dX5_differences_16 : decode cX5_differences 16 = .ok (.bipush 42, 2) := by decide +kernel
theorem dX5_differences_18 : decode cX5_differences 18 = .ok (.iload_n 1, 1) := by decide +kernel
theorem dX5_differences_19 : decode cX5_differences 19 = .ok (.iload 4, 2) := by decide +kernel
theorem dX5_differences_21 : decode cX5_differences 21 = .ok (.invokestatic 34, 3) := by decide +kernel
theorem dX5_differences_24 : decode cX5_differences 24 = .ok (.iadd, 1) := by decide +kernel
theorem dX5_differences_25 : decode cX5_differences 25 = .ok (.iaload, 1) := by decide +kernel
theorem dX5_differences_26 : decode cX5_differences 26 = .ok (.aload_n 0, 1) := by decide +kernel
theorem dX5_differences_27 : decode cX5_differences 27 = .ok (.getfield 7, 3) := by decide +kernel
theorem dX5_differences_30 : decode cX5_differences 30 = .ok (.bipush 42, 2) := by decide +kernel
theorem dX5_differences_32 : decode cX5_differences 32 = .ok (.iload_n 2, 1) := by decide +kernel
theorem dX5_differences_33 : decode cX5_differences 33 = .ok (.iload 4, 2) := by decide +kernel
theorem dX5_differences_35 : decode cX5_differences 35 = .ok (.invokestatic 34, 3) := by decide +kernel
theorem dX5_differences_38 : decode cX5_differences 38 = .ok (.iadd, 1) := by decide +kernel
theorem dX5_differences_39 : decode cX5_differences 39 = .ok (.iaload, 1) := by decide +kernel
theorem dX5_differences_40 : decode cX5_differences 40 = .ok (.if_icmp .ne 38, 3) := by decide +kernel
theorem dX5_differences_43 : decode cX5_differences 43 = .ok (.aload_n 0, 1) := by decide +kernel
theorem dX5_differences_44 : decode cX5_differences 44 = .ok (.getfield 7, 3) := by decide +kernel
theorem dX5_differences_47 : decode cX5_differences 47 = .ok (.bipush 106, 2) := by decide +kernel
theorem dX5_differences_49 : decode cX5_differences 49 = .ok (.iload_n 1, 1) := by decide +kernel
theorem dX5_differences_50 : decode cX5_differences 50 = .ok (.iload 4, 2) := by decide +kernel
theorem dX5_differences_52 : decode cX5_differences 52 = .ok (.invokestatic 34, 3) := by decide +kernel
theorem dX5_differences_55 : decode cX5_differences 55 = .ok (.iadd, 1) := by decide +kernel
theorem dX5_differences_56 : decode cX5_differences 56 = .ok (.iaload, 1) := by decide +kernel
theorem dX5_differences_57 : decode cX5_differences 57 = .ok (.aload_n 0, 1) := by decide +kernel
theorem dX5_differences_58 : decode cX5_differences 58 = .ok (.getfield 7, 3) := by decide +kernel
theorem dX5_differences_61 : decode cX5_differences 61 = .ok (.bipush 106, 2) := by decide +kernel
theorem dX5_differences_63 : decode cX5_differences 63 = .ok (.iload_n 2, 1) := by decide +kernel
theorem dX5_differences_64 : decode cX5_differences 64 = .ok (.iload 4, 2) := by decide +kernel
theorem dX5_differences_66 : decode cX5_differences 66 = .ok (.invokestatic 34, 3) := by decide +kernel
theorem dX5_differences_69 : decode cX5_differences 69 = .ok (.iadd, 1) := by decide +kernel
theorem dX5_differences_70 : decode cX5_differences 70 = .ok (.iaload, 1) := by decide +kernel
theorem dX5_differences_71 : decode cX5_differences 71 = .ok (.if_icmp .ne 7, 3) := by decide +kernel
theorem dX5_differences_74 : decode cX5_differences 74 = .ok (.iconst 1, 1) := by decide +kernel
theorem dX5_differences_75 : decode cX5_differences 75 = .ok (.goto 4, 3) := by decide +kernel
theorem dX5_differences_78 : decode cX5_differences 78 = .ok (.iconst 0, 1) := by decide +kernel
theorem dX5_differences_79 : decode cX5_differences 79 = .ok (.istore 5, 2) := by decide +kernel
theorem dX5_differences_81 : decode cX5_differences 81 = .ok (.iload_n 3, 1) := by decide +kernel
theorem dX5_differences_82 : decode cX5_differences 82 = .ok (.iload 4, 2) := by decide +kernel
theorem dX5_differences_84 : decode cX5_differences 84 = .ok (.iload_n 1, 1) := by decide +kernel
theorem dX5_differences_85 : decode cX5_differences 85 = .ok (.if_icmp .eq 14, 3) := by decide +kernel
theorem dX5_differences_88 : decode cX5_differences 88 = .ok (.iload 4, 2) := by decide +kernel
theorem dX5_differences_90 : decode cX5_differences 90 = .ok (.iload_n 2, 1) := by decide +kernel
theorem dX5_differences_91 : decode cX5_differences 91 = .ok (.if_icmp .eq 8, 3) := by decide +kernel
theorem dX5_differences_94 : decode cX5_differences 94 = .ok (.iload 5, 2) := by decide +kernel
theorem dX5_differences_96 : decode cX5_differences 96 = .ok (.ifCond .eq 7, 3) := by decide +kernel
theorem dX5_differences_99 : decode cX5_differences 99 = .ok (.iconst 0, 1) := by decide +kernel
theorem dX5_differences_100 : decode cX5_differences 100 = .ok (.goto 4, 3) := by decide +kernel
theorem dX5_differences_103 : decode cX5_differences 103 = .ok (.iconst 1, 1) := by decide +kernel
theorem dX5_differences_104 : decode cX5_differences 104 = .ok (.iadd, 1) := by decide +kernel
theorem dX5_differences_105 : decode cX5_differences 105 = .ok (.istore_n 3, 1) := by decide +kernel
theorem dX5_differences_106 : decode cX5_differences 106 = .ok (.iinc 4 1, 3) := by decide +kernel
theorem dX5_differences_109 : decode cX5_differences 109 = .ok (.goto (-104), 3) := by decide +kernel
theorem dX5_differences_112 : decode cX5_differences 112 = .ok (.iload_n 3, 1) := by decide +kernel
theorem dX5_differences_113 : decode cX5_differences 113 = .ok (.ireturn, 1) := by decide +kernel
set_option maxRecDepth 20000 in
theorem ggX5_allDifferences_X5_canReach : GoodIn wsX5_allDifferences wsX5_canReach := goodIn_ca (goodIn_r _ [5, 6, 7, 8, 9, 4, 10, 11, 12, 13, 18, 19, 20, 21, 22, 23, 24, 25, 26, 27, 28, 29] (by decide +kernel) (by decide +kernel)) (goodIn_sub (fun _ h => List.mem_cons_of_mem _ (List.mem_append_right _ h)) (by decide +kernel))
set_option maxRecDepth 20000 in
theorem gX5_allDifferences_X5_canReach : GoodIn wsX5_allDifferences (wsV RX5 77 RX5 yX5_canReach wsX5_canReach) := goodIn_app (goodIn_of _ (by decide +kernel)) ggX5_allDifferences_X5_canReach
set_option maxRecDepth 20000 in
theorem ggX5_allDifferences_X5_differences : GoodIn wsX5_allDifferences wsX5_differences := goodIn_ca (goodIn_r _ [17, 6, 11, 12, 4, 13, 18, 19, 20, 21, 22, 23, 24, 25, 26, 27, 28, 29] (by decide +kernel) (by decide +kernel)) (goodIn_sub (fun _ h => List.mem_cons_of_mem _ (List.mem_append_right _ h)) (by decide +kernel))
set_option maxRecDepth 20000 in
theorem gX5_allDifferences_X5_differences : GoodIn wsX5_allDifferences (wsV RX5 125 RX5 yX5_differences wsX5_differences) := goodIn_app (goodIn_of _ (by decide +kernel)) ggX5_allDifferences_X5_differences
theorem dX5_allDifferences_0 : decode cX5_allDifferences 0 = .ok (.iconst 0, 1) := by decide +kernel
theorem dX5_allDifferences_1 : decode cX5_allDifferences 1 = .ok (.istore_n 1, 1) := by decide +kernel
theorem dX5_allDifferences_2 : decode cX5_allDifferences 2 = .ok (.iconst 0, 1) := by decide +kernel
theorem dX5_allDifferences_3 : decode cX5_allDifferences 3 = .ok (.istore_n 2, 1) := by decide +kernel
theorem dX5_allDifferences_4 : decode cX5_allDifferences 4 = .ok (.iload_n 2, 1) := by decide +kernel
theorem dX5_allDifferences_5 : decode cX5_allDifferences 5 = .ok (.bipush 8, 2) := by decide +kernel
theorem dX5_allDifferences_7 : decode cX5_allDifferences 7 = .ok (.if_icmp .ge 47, 3) := by decide +kernel
theorem dX5_allDifferences_10 : decode cX5_allDifferences 10 = .ok (.iload_n 2, 1) := by decide +kernel
theorem dX5_allDifferences_11 : decode cX5_allDifferences 11 = .ok (.iconst 1, 1) := by decide +kernel
theorem dX5_allDifferences_12 : decode cX5_allDifferences 12 = .ok (.iadd, 1) := by decide +kernel
theorem dX5_allDifferences_13 : decode cX5_allDifferences 13 = .ok (.istore_n 3, 1) := by decide +kernel
theorem dX5_allDifferences_14 : decode cX5_allDifferences 14 = .ok (.iload_n 3, 1) := by decide +kernel
theorem dX5_allDifferences_15 : decode cX5_allDifferences 15 = .ok (.bipush 8, 2) := by decide +kernel
theorem dX5_allDifferences_17 : decode cX5_allDifferences 17 = .ok (.if_icmp .ge 31, 3) := by decide +kernel
theorem dX5_allDifferences_20 : decode cX5_allDifferences 20 = .ok (.iload_n 1, 1) := by decide +kernel
theorem dX5_allDifferences_21 : decode cX5_allDifferences 21 = .ok (.aload_n 0, 1) := by decide +kernel
theorem dX5_allDifferences_22 : decode cX5_allDifferences 22 = .ok (.iload_n 2, 1) := by decide +kernel
theorem dX5_allDifferences_23 : decode cX5_allDifferences 23 = .ok (.iload_n 3, 1) := by decide +kernel
theorem dX5_allDifferences_24 : decode cX5_allDifferences 24 = .ok (.invokevirtual 77, 3) := by decide +kernel
theorem dX5_allDifferences_27 : decode cX5_allDifferences 27 = .ok (.ifCond .eq 12, 3) := by decide +kernel
theorem dX5_allDifferences_30 : decode cX5_allDifferences 30 = .ok (.aload_n 0, 1) := by decide +kernel
theorem dX5_allDifferences_31 : decode cX5_allDifferences 31 = .ok (.iload_n 2, 1) := by decide +kernel
theorem dX5_allDifferences_32 : decode cX5_allDifferences 32 = .ok (.iload_n 3, 1) := by decide +kernel
theorem dX5_allDifferences_33 : decode cX5_allDifferences 33 = .ok (.invokevirtual 125, 3) := by decide +kernel
theorem dX5_allDifferences_36 : decode cX5_allDifferences 36 = .ok (.goto 4, 3) := by decide +kernel
theorem dX5_allDifferences_39 : decode cX5_allDifferences 39 = .ok (.iconst 0, 1) := by decide +kernel
theorem dX5_allDifferences_40 : decode cX5_allDifferences 40 = .ok (.iadd, 1) := by decide +kernel
theorem dX5_allDifferences_41 : decode cX5_allDifferences 41 = .ok (.istore_n 1, 1) := by decide +kernel
theorem dX5_allDifferences_42 : decode cX5_allDifferences 42 = .ok (.iinc 3 1, 3) := by decide +kernel
theorem dX5_allDifferences_45 : decode cX5_allDifferences 45 = .ok (.goto (-31), 3) := by decide +kernel
theorem dX5_allDifferences_48 : decode cX5_allDifferences 48 = .ok (.iinc 2 1, 3) := by decide +kernel
theorem dX5_allDifferences_51 : decode cX5_allDifferences 51 = .ok (.goto (-47), 3) := by decide +kernel
theorem dX5_allDifferences_54 : decode cX5_allDifferences 54 = .ok (.iload_n 1, 1) := by decide +kernel
theorem dX5_allDifferences_55 : decode cX5_allDifferences 55 = .ok (.ireturn, 1) := by decide +kernel
set_option maxRecDepth 20000 in
theorem ggX5_knows_X5_pair : GoodIn wsX5_knows wsX5_pair := goodIn_r _ [5] (by decide +kernel) (by decide +kernel)
set_option maxRecDepth 20000 in
theorem gX5_knows_X5_pair : GoodIn wsX5_knows (va_wsS RX5 34 yX5_pair wsX5_pair) := goodIn_app (goodIn_of _ (by decide +kernel)) ggX5_knows_X5_pair
theorem dX5_knows_0 : decode cX5_knows 0 = .ok (.aload_n 0, 1) := by decide +kernel
theorem dX5_knows_1 : decode cX5_knows 1 = .ok (.getfield 7, 3) := by decide +kernel
theorem dX5_knows_4 : decode cX5_knows 4 = .ok (.bipush 42, 2) := by decide +kernel
theorem dX5_knows_6 : decode cX5_knows 6 = .ok (.iload_n 1, 1) := by decide +kernel
theorem dX5_knows_7 : decode cX5_knows 7 = .ok (.iload_n 2, 1) := by decide +kernel
theorem dX5_knows_8 : decode cX5_knows 8 = .ok (.invokestatic 34, 3) := by decide +kernel
theorem dX5_knows_11 : decode cX5_knows 11 = .ok (.iadd, 1) := by decide +kernel
theorem dX5_knows_12 : decode cX5_knows 12 = .ok (.iaload, 1) := by decide +kernel
theorem dX5_knows_13 : decode cX5_knows 13 = .ok (.iconst 1, 1) := by decide +kernel
theorem dX5_knows_14 : decode cX5_knows 14 = .ok (.if_icmp .ne 32, 3) := by decide +kernel
theorem dX5_knows_17 : decode cX5_knows 17 = .ok (.aload_n 0, 1) := by decide +kernel
theorem dX5_knows_18 : decode cX5_knows 18 = .ok (.getfield 7, 3) := by decide +kernel
theorem dX5_knows_21 : decode cX5_knows 21 = .ok (.bipush 106, 2) := by decide +kernel
theorem dX5_knows_23 : decode cX5_knows 23 = .ok (.iload_n 1, 1) := by decide +kernel
theorem dX5_knows_24 : decode cX5_knows 24 = .ok (.iload_n 2, 1) := by decide +kernel
theorem dX5_knows_25 : decode cX5_knows 25 = .ok (.invokestatic 34, 3) := by decide +kernel
theorem dX5_knows_28 : decode cX5_knows 28 = .ok (.iadd, 1) := by decide +kernel
theorem dX5_knows_29 : decode cX5_knows 29 = .ok (.iaload, 1) := by decide +kernel
theorem dX5_knows_30 : decode cX5_knows 30 = .ok (.aload_n 0, 1) := by decide +kernel
theorem dX5_knows_31 : decode cX5_knows 31 = .ok (.getfield 7, 3) := by decide +kernel
theorem dX5_knows_34 : decode cX5_knows 34 = .ok (.bipush 34, 2) := by decide +kernel
theorem dX5_knows_36 : decode cX5_knows 36 = .ok (.iload_n 2, 1) := by decide +kernel
theorem dX5_knows_37 : decode cX5_knows 37 = .ok (.iadd, 1) := by decide +kernel
theorem dX5_knows_38 : decode cX5_knows 38 = .ok (.iaload, 1) := by decide +kernel
theorem dX5_knows_39 : decode cX5_knows 39 = .ok (.if_icmp .ne 7, 3) := by decide +kernel
theorem dX5_knows_42 : decode cX5_knows 42 = .ok (.iconst 1, 1) := by decide +kernel
theorem dX5_knows_43 : decode cX5_knows 43 = .ok (.goto 4, 3) := by decide +kernel
theorem dX5_knows_46 : decode cX5_knows 46 = .ok (.iconst 0, 1) := by decide +kernel
theorem dX5_knows_47 : decode cX5_knows 47 = .ok (.ireturn, 1) := by decide +kernel
set_option maxRecDepth 20000 in
theorem ggX5_doAgree_X5_allDifferences : GoodIn wsX5_doAgree wsX5_allDifferences := goodIn_ca (goodIn_r _ [5, 6, 7, 8, 4, 9, 10, 11, 12, 13, 14, 15, 16, 17, 18, 19, 20, 21, 26, 27, 28, 29, 30, 31, 32, 33, 34, 35, 36, 37] (by decide +kernel) (by decide +kernel)) (goodIn_sub (fun _ h => List.mem_cons_of_mem _ (List.mem_append_right _ h)) (by decide +kernel))
set_option maxRecDepth 20000 in
theorem gX5_doAgree_X5_allDifferences : GoodIn wsX5_doAgree (wsV RX5 128 RX5 yX5_allDifferences wsX5_allDifferences) := goodIn_app (goodIn_of _ (by decide +kernel)) ggX5_doAgree_X5_allDifferences
set_option maxRecDepth 20000 in
theorem ggX5_doAgree_X5_canReach : GoodIn wsX5_doAgree wsX5_canReach := goodIn_ca (goodIn_r _ [9, 10, 11, 12, 13, 4, 14, 15, 16, 17, 26, 27, 28, 29, 30, 31, 32, 33, 34, 35, 36, 37] (by decide +kernel) (by decide +kernel)) (goodIn_sub (fun _ h => List.mem_cons_of_mem _ (List.mem_append_right _ h)) (by decide +kernel))
set_option maxRecDepth 20000 in
theorem gX5_doAgree_X5_canReach : GoodIn wsX5_doAgree (wsV RX5 77 RX5 yX5_canReach wsX5_canReach) := goodIn_app (goodIn_of _ (by decide +kernel)) ggX5_doAgree_X5_canReach
set_option maxRecDepth 20000 in
theorem ggX5_doAgree_X5_knows : GoodIn wsX5_doAgree wsX5_knows := goodIn_ca (goodIn_r _ [25, 10, 15, 16, 4, 17, 26, 27, 28, 29, 30, 31, 32, 33, 34, 35, 36, 37] (by decide +kernel) (by decide +kernel)) (goodIn_sub (fun _ h => List.mem_cons_of_mem _ (List.mem_append_right _ h)) (by decide +kernel))
set_option maxRecDepth 20000 in
theorem gX5_doAgree_X5_knows : GoodIn wsX5_doAgree (wsV RX5 132 RX5 yX5_knows wsX5_knows) := goodIn_app (goodIn_of _ (by decide +kernel)) ggX5_doAgree_X5_knows
theorem dX5_doAgree_0 : decode cX5_doAgree 0 = .ok (.aload_n 0, 1) := by decide +kernel
theorem dX5_doAgree_1 : decode cX5_doAgree 1 = .ok (.invokevirtual 128, 3) := by decide +kernel
theorem dX5_doAgree_4 : decode cX5_doAgree 4 = .ok (.ifCond .ne 7, 3) := by decide +kernel
theorem dX5_doAgree_7 : decode cX5_doAgree 7 = .ok (.iconst 1, 1) := by decide +kernel
theorem dX5_doAgree_8 : decode cX5_doAgree 8 = .ok (.goto 4, 3) := by decide +kernel
theorem dX5_doAgree_11 : decode cX5_doAgree 11 = .ok (.iconst 0, 1) := by decide +kernel
theorem dX5_doAgree_12 : decode cX5_doAgree 12 = .ok (.istore_n 1, 1) := by decide +kernel
theorem dX5_doAgree_13 : decode cX5_doAgree 13 = .ok (.iconst 0, 1) := by decide +kernel
theorem dX5_doAgree_14 : decode cX5_doAgree 14 = .ok (.istore_n 2, 1) := by decide +kernel
theorem dX5_doAgree_15 : decode cX5_doAgree 15 = .ok (.iload_n 2, 1) := by decide +kernel
theorem dX5_doAgree_16 : decode cX5_doAgree 16 = .ok (.bipush 8, 2) := by decide +kernel
theorem dX5_doAgree_18 : decode cX5_doAgree 18 = .ok (.if_icmp .ge 51, 3) := by decide +kernel
theorem dX5_doAgree_21 : decode cX5_doAgree 21 = .ok (.iconst 0, 1) := by decide +kernel
theorem dX5_doAgree_22 : decode cX5_doAgree 22 = .ok (.istore_n 3, 1) := by decide +kernel
theorem dX5_doAgree_23 : decode cX5_doAgree 23 = .ok (.iload_n 3, 1) := by decide +kernel
theorem dX5_doAgree_24 : decode cX5_doAgree 24 = .ok (.bipush 8, 2) := by decide +kernel
theorem dX5_doAgree_26 : decode cX5_doAgree 26 = .ok (.if_icmp .ge 37, 3) := by decide +kernel
theorem dX5_doAgree_29 : decode cX5_doAgree 29 = .ok (.iload_n 1, 1) := by decide +kernel
theorem dX5_doAgree_30 : decode cX5_doAgree 30 = .ok (.ifCond .eq 25, 3) := by decide +kernel
theorem dX5_doAgree_33 : decode cX5_doAgree 33 = .ok (.aload_n 0, 1) := by decide +kernel
theorem dX5_doAgree_34 : decode cX5_doAgree 34 = .ok (.iload_n 2, 1) := by decide +kernel
theorem dX5_doAgree_35 : decode cX5_doAgree 35 = .ok (.iload_n 3, 1) := by decide +kernel
theorem dX5_doAgree_36 : decode cX5_doAgree 36 = .ok (.invokevirtual 77, 3) := by decide +kernel
theorem dX5_doAgree_39 : decode cX5_doAgree 39 = .ok (.ifCond .eq 12, 3) := by decide +kernel
theorem dX5_doAgree_42 : decode cX5_doAgree 42 = .ok (.aload_n 0, 1) := by decide +kernel
theorem dX5_doAgree_43 : decode cX5_doAgree 43 = .ok (.iload_n 2, 1) := by decide +kernel
theorem dX5_doAgree_44 : decode cX5_doAgree 44 = .ok (.iload_n 3, 1) := by decide +kernel
theorem dX5_doAgree_45 : decode cX5_doAgree 45 = .ok (.invokevirtual 132, 3) := by decide +kernel
theorem dX5_doAgree_48 : decode cX5_doAgree 48 = .ok (.ifCond .eq 7, 3) := by decide +kernel
theorem dX5_doAgree_51 : decode cX5_doAgree 51 = .ok (.iconst 1, 1) := by decide +kernel
theorem dX5_doAgree_52 : decode cX5_doAgree 52 = .ok (.goto 4, 3) := by decide +kernel
theorem dX5_doAgree_55 : decode cX5_doAgree 55 = .ok (.iconst 0, 1) := by decide +kernel
theorem dX5_doAgree_56 : decode cX5_doAgree 56 = .ok (.istore_n 1, 1) := by decide +kernel
theorem dX5_doAgree_57 : decode cX5_doAgree 57 = .ok (.iinc 3 1, 3) := by decide +kernel
theorem dX5_doAgree_60 : decode cX5_doAgree 60 = .ok (.goto (-37), 3) := by decide +kernel
theorem dX5_doAgree_63 : decode cX5_doAgree 63 = .ok (.iinc 2 1, 3) := by decide +kernel
theorem dX5_doAgree_66 : decode cX5_doAgree 66 = .ok (.goto (-51), 3) := by decide +kernel
theorem dX5_doAgree_69 : decode cX5_doAgree 69 = .ok (.iload_n 1, 1) := by decide +kernel
theorem dX5_doAgree_70 : decode cX5_doAgree 70 = .ok (.ireturn, 1) := by decide +kernel
set_option maxRecDepth 20000 in
theorem ggX5_agree_X5_doAgree : GoodIn wsX5_agree wsX5_doAgree := goodIn_ca (goodIn_r _ [6, 7, 8, 9, 5, 10, 11, 12, 13, 14, 15, 16, 17, 18, 19, 20, 21, 22, 23, 24, 25, 26, 27, 28, 29, 30, 31, 32, 33, 34, 35, 36, 37, 38, 39, 40, 41, 42] (by decide +kernel) (by decide +kernel)) (goodIn_sub (fun _ h => List.mem_cons_of_mem _ (List.mem_append_right _ h)) (by decide +kernel))
set_option maxRecDepth 20000 in
theorem gX5_agree_X5_doAgree : GoodIn wsX5_agree (wsV RX5 118 RX5 yX5_doAgree wsX5_doAgree) := goodIn_app (goodIn_of _ (by decide +kernel)) ggX5_agree_X5_doAgree
theorem dX5_agree_0 : decode cX5_agree 0 = .ok (.aload_n 0, 1) := by decide +kernel
theorem dX5_agree_1 : decode cX5_agree 1 = .ok (.iconst 0, 1) := by decide +kernel
theorem dX5_agree_2 : decode cX5_agree 2 = .ok (.putfield 22, 3) := by decide +kernel
theorem dX5_agree_5 : decode cX5_agree 5 = .ok (.aload_n 0, 1) := by decide +kernel
theorem dX5_agree_6 : decode cX5_agree 6 = .ok (.invokevirtual 118, 3) := by decide +kernel
theorem dX5_agree_9 : decode cX5_agree 9 = .ok (.ireturn, 1) := by decide +kernel
set_option maxRecDepth 20000 in
theorem ggX5_disagreements_X5_allDifferences : GoodIn wsX5_disagreements wsX5_allDifferences := goodIn_ca (goodIn_r _ [6, 7, 8, 9, 5, 10, 11, 12, 13, 14, 15, 16, 17, 18, 19, 20, 21, 22, 23, 24, 25, 26, 27, 28, 29, 30, 31, 32, 33, 34] (by decide +kernel) (by decide +kernel)) (goodIn_sub (fun _ h => List.mem_cons_of_mem _ (List.mem_append_right _ h)) (by decide +kernel))
set_option maxRecDepth 20000 in
theorem gX5_disagreements_X5_allDifferences : GoodIn wsX5_disagreements (wsV RX5 128 RX5 yX5_allDifferences wsX5_allDifferences) := goodIn_app (goodIn_of _ (by decide +kernel)) ggX5_disagreements_X5_allDifferences
theorem dX5_disagreements_0 : decode cX5_disagreements 0 = .ok (.aload_n 0, 1) := by decide +kernel
theorem dX5_disagreements_1 : decode cX5_disagreements 1 = .ok (.iconst 0, 1) := by decide +kernel
theorem dX5_disagreements_2 : decode cX5_disagreements 2 = .ok (.putfield 22, 3) := by decide +kernel
theorem dX5_disagreements_5 : decode cX5_disagreements 5 = .ok (.aload_n 0, 1) := by decide +kernel
theorem dX5_disagreements_6 : decode cX5_disagreements 6 = .ok (.invokevirtual 128, 3) := by decide +kernel
theorem dX5_disagreements_9 : decode cX5_disagreements 9 = .ok (.ireturn, 1) := by decide +kernel
theorem dX5_plain_0 : decode cX5_plain 0 = .ok (.aload_n 0, 1) := by decide +kernel
theorem dX5_plain_1 : decode cX5_plain 1 = .ok (.iconst 0, 1) := by decide +kernel
theorem dX5_plain_2 : decode cX5_plain 2 = .ok (.putfield 22, 3) := by decide +kernel
theorem dX5_plain_5 : decode cX5_plain 5 = .ok (.aload_n 0, 1) := by decide +kernel
theorem dX5_plain_6 : decode cX5_plain 6 = .ok (.getfield 7, 3) := by decide +kernel
theorem dX5_plain_9 : decode cX5_plain 9 = .ok (.iload_n 1, 1) := by decide +kernel
theorem dX5_plain_10 : decode cX5_plain 10 = .ok (.iaload, 1) := by decide +kernel
theorem dX5_plain_11 : decode cX5_plain 11 = .ok (.ireturn, 1) := by decide +kernel
set_option maxRecDepth 20000 in
theorem ggX5_declarations_X5_plain : GoodIn wsX5_declarations wsX5_plain := goodIn_ca (goodIn_r _ [5, 6, 7, 8, 9, 10, 11, 12, 13, 14, 15, 16, 17, 18, 19] (by decide +kernel) (by decide +kernel)) (goodIn_sub (fun _ h => List.mem_cons_of_mem _ (List.mem_append_right _ h)) (by decide +kernel))
set_option maxRecDepth 20000 in
theorem gX5_declarations_X5_plain : GoodIn wsX5_declarations (wsV RX5 135 RX5 yX5_plain wsX5_plain) := goodIn_app (goodIn_of _ (by decide +kernel)) ggX5_declarations_X5_plain
theorem dX5_declarations_0 : decode cX5_declarations 0 = .ok (.aload_n 0, 1) := by decide +kernel
theorem dX5_declarations_1 : decode cX5_declarations 1 = .ok (.iconst 5, 1) := by decide +kernel
theorem dX5_declarations_2 : decode cX5_declarations 2 = .ok (.invokevirtual 135, 3) := by decide +kernel
theorem dX5_declarations_5 : decode cX5_declarations 5 = .ok (.ireturn, 1) := by decide +kernel
set_option maxRecDepth 20000 in
theorem ggX5_falseDeclarations_X5_plain : GoodIn wsX5_falseDeclarations wsX5_plain := goodIn_ca (goodIn_r _ [5, 6, 7, 8, 9, 10, 11, 12, 13, 14, 15, 16, 17, 18, 19] (by decide +kernel) (by decide +kernel)) (goodIn_sub (fun _ h => List.mem_cons_of_mem _ (List.mem_append_right _ h)) (by decide +kernel))
set_option maxRecDepth 20000 in
theorem gX5_falseDeclarations_X5_plain : GoodIn wsX5_falseDeclarations (wsV RX5 135 RX5 yX5_plain wsX5_plain) := goodIn_app (goodIn_of _ (by decide +kernel)) ggX5_falseDeclarations_X5_plain
theorem dX5_falseDeclarations_0 : decode cX5_falseDeclarations 0 = .ok (.aload_n 0, 1) := by decide +kernel
theorem dX5_falseDeclarations_1 : decode cX5_falseDeclarations 1 = .ok (.bipush 6, 2) := by decide +kernel
theorem dX5_falseDeclarations_3 : decode cX5_falseDeclarations 3 = .ok (.invokevirtual 135, 3) := by decide +kernel
theorem dX5_falseDeclarations_6 : decode cX5_falseDeclarations 6 = .ok (.ireturn, 1) := by decide +kernel
set_option maxRecDepth 20000 in
theorem ggX5_refutations_X5_plain : GoodIn wsX5_refutations wsX5_plain := goodIn_ca (goodIn_r _ [5, 6, 7, 8, 9, 10, 11, 12, 13, 14, 15, 16, 17, 18, 19] (by decide +kernel) (by decide +kernel)) (goodIn_sub (fun _ h => List.mem_cons_of_mem _ (List.mem_append_right _ h)) (by decide +kernel))
set_option maxRecDepth 20000 in
theorem gX5_refutations_X5_plain : GoodIn wsX5_refutations (wsV RX5 135 RX5 yX5_plain wsX5_plain) := goodIn_app (goodIn_of _ (by decide +kernel)) ggX5_refutations_X5_plain
theorem dX5_refutations_0 : decode cX5_refutations 0 = .ok (.aload_n 0, 1) := by decide +kernel
theorem dX5_refutations_1 : decode cX5_refutations 1 = .ok (.bipush 7, 2) := by decide +kernel
theorem dX5_refutations_3 : decode cX5_refutations 3 = .ok (.invokevirtual 135, 3) := by decide +kernel
theorem dX5_refutations_6 : decode cX5_refutations 6 = .ok (.ireturn, 1) := by decide +kernel
set_option maxRecDepth 20000 in
theorem ggX5_messages_X5_plain : GoodIn wsX5_messages wsX5_plain := goodIn_ca (goodIn_r _ [5, 6, 7, 8, 9, 10, 11, 12, 13, 14, 15, 16, 17, 18, 19] (by decide +kernel) (by decide +kernel)) (goodIn_sub (fun _ h => List.mem_cons_of_mem _ (List.mem_append_right _ h)) (by decide +kernel))
set_option maxRecDepth 20000 in
theorem gX5_messages_X5_plain : GoodIn wsX5_messages (wsV RX5 135 RX5 yX5_plain wsX5_plain) := goodIn_app (goodIn_of _ (by decide +kernel)) ggX5_messages_X5_plain
theorem dX5_messages_0 : decode cX5_messages 0 = .ok (.aload_n 0, 1) := by decide +kernel
theorem dX5_messages_1 : decode cX5_messages 1 = .ok (.bipush 8, 2) := by decide +kernel
theorem dX5_messages_3 : decode cX5_messages 3 = .ok (.invokevirtual 135, 3) := by decide +kernel
theorem dX5_messages_6 : decode cX5_messages 6 = .ok (.ireturn, 1) := by decide +kernel
set_option maxRecDepth 20000 in
theorem ggX5_quietRounds_X5_plain : GoodIn wsX5_quietRounds wsX5_plain := goodIn_ca (goodIn_r _ [6, 7, 1, 8, 9, 10, 11, 12, 13, 14, 15, 16, 17, 18, 19] (by decide +kernel) (by decide +kernel)) (goodIn_sub (fun _ h => List.mem_cons_of_mem _ (List.mem_append_right _ h)) (by decide +kernel))
set_option maxRecDepth 20000 in
theorem gX5_quietRounds_X5_plain : GoodIn wsX5_quietRounds (wsV RX5 135 RX5 yX5_plain wsX5_plain) := goodIn_app (goodIn_of _ (by decide +kernel)) ggX5_quietRounds_X5_plain
theorem dX5_quietRounds_0 : decode cX5_quietRounds 0 = .ok (.aload_n 0, 1) := by decide +kernel
theorem dX5_quietRounds_1 : decode cX5_quietRounds 1 = .ok (.iconst 0, 1) := by decide +kernel
theorem dX5_quietRounds_2 : decode cX5_quietRounds 2 = .ok (.invokevirtual 135, 3) := by decide +kernel
theorem dX5_quietRounds_5 : decode cX5_quietRounds 5 = .ok (.aload_n 0, 1) := by decide +kernel
theorem dX5_quietRounds_6 : decode cX5_quietRounds 6 = .ok (.getfield 7, 3) := by decide +kernel
theorem dX5_quietRounds_9 : decode cX5_quietRounds 9 = .ok (.bipush 9, 2) := by decide +kernel
theorem dX5_quietRounds_11 : decode cX5_quietRounds 11 = .ok (.iaload, 1) := by decide +kernel
theorem dX5_quietRounds_12 : decode cX5_quietRounds 12 = .ok (.isub, 1) := by decide +kernel
theorem dX5_quietRounds_13 : decode cX5_quietRounds 13 = .ok (.ireturn, 1) := by decide +kernel
set_option maxRecDepth 20000 in
theorem ggX5_appendCharacter_X5_in : GoodIn wsX5_appendCharacter wsX5_in := goodIn_r _ [7] (by decide +kernel) (by decide +kernel)
set_option maxRecDepth 20000 in
theorem gX5_appendCharacter_X5_in : GoodIn wsX5_appendCharacter (va_wsS RX5 26 yX5_in wsX5_in) := goodIn_app (goodIn_of _ (by decide +kernel)) ggX5_appendCharacter_X5_in
set_option maxRecDepth 20000 in
theorem ggX5_appendCharacter_X5_fails : GoodIn wsX5_appendCharacter wsX5_fails := goodIn_r _ [11, 1, 12, 13, 14, 15, 16, 17, 18, 19, 20, 21, 22, 23] (by decide +kernel) (by decide +kernel)
set_option maxRecDepth 20000 in
theorem gX5_appendCharacter_X5_fails : GoodIn wsX5_appendCharacter (wsV RX5 100 RX5 yX5_fails wsX5_fails) := goodIn_app (goodIn_of _ (by decide +kernel)) ggX5_appendCharacter_X5_fails
theorem dX5_appendCharacter_0 : decode cX5_appendCharacter 0 = .ok (.aload_n 0, 1) := by decide +kernel
theorem dX5_appendCharacter_1 : decode cX5_appendCharacter 1 = .ok (.iconst 0, 1) := by decide +kernel
theorem dX5_appendCharacter_2 : decode cX5_appendCharacter 2 = .ok (.putfield 22, 3) := by decide +kernel
theorem dX5_appendCharacter_5 : decode cX5_appendCharacter 5 = .ok (.iload_n 1, 1) := by decide +kernel
theorem dX5_appendCharacter_6 : decode cX5_appendCharacter 6 = .ok (.bipush 33, 2) := by decide +kernel
theorem dX5_appendCharacter_8 : decode cX5_appendCharacter 8 = .ok (.bipush 126, 2) := by decide +kernel
theorem dX5_appendCharacter_10 : decode cX5_appendCharacter 10 = .ok (.invokestatic 26, 3) := by decide +kernel
theorem dX5_appendCharacter_13 : decode cX5_appendCharacter 13 = .ok (.ifCond .ne 9, 3) := by decide +kernel
theorem dX5_appendCharacter_16 : decode cX5_appendCharacter 16 = .ok (.aload_n 0, 1) := by decide +kernel
theorem dX5_appendCharacter_17 : decode cX5_appendCharacter 17 = .ok (.iconst 1, 1) := by decide +kernel
theorem dX5_appendCharacter_18 : decode cX5_appendCharacter 18 = .ok (.invokevirtual 100, 3) := by decide +kernel
theorem dX5_appendCharacter_21 : decode cX5_appendCharacter 21 = .ok (.ireturn, 1) := by decide +kernel
theorem dX5_appendCharacter_22 : decode cX5_appendCharacter 22 = .ok (.aload_n 0, 1) := by decide +kernel
theorem dX5_appendCharacter_23 : decode cX5_appendCharacter 23 = .ok (.getfield 138, 3) := by decide +kernel
theorem dX5_appendCharacter_26 : decode cX5_appendCharacter 26 = .ok (.bipush 40, 2) := by decide +kernel
theorem dX5_appendCharacter_28 : decode cX5_appendCharacter 28 = .ok (.if_icmp .ne 9, 3) := by decide +kernel
theorem dX5_appendCharacter_31 : decode cX5_appendCharacter 31 = .ok (.aload_n 0, 1) := by decide +kernel
theorem dX5_appendCharacter_32 : decode cX5_appendCharacter 32 = .ok (.iconst 2, 1) := by decide +kernel
theorem dX5_appendCharacter_33 : decode cX5_appendCharacter 33 = .ok (.invokevirtual 100, 3) := by decide +kernel
theorem dX5_appendCharacter_36 : decode cX5_appendCharacter 36 = .ok (.ireturn, 1) := by decide +kernel
theorem dX5_appendCharacter_37 : decode cX5_appendCharacter 37 = .ok (.aload_n 0, 1) := by decide +kernel
theorem dX5_appendCharacter_38 : decode cX5_appendCharacter 38 = .ok (.getfield 16, 3) := by decide +kernel
theorem dX5_appendCharacter_41 : decode cX5_appendCharacter 41 = .ok (.aload_n 0, 1) := by decide +kernel
theorem dX5_appendCharacter_42 : decode cX5_appendCharacter 42 = .ok (.getfield 138, 3) := by decide +kernel
theorem dX5_appendCharacter_45 : decode cX5_appendCharacter 45 = .ok (.iload_n 1, 1) := by decide +kernel
theorem dX5_appendCharacter_46 : decode cX5_appendCharacter 46 = .ok (.iastore, 1) := by decide +kernel
theorem dX5_appendCharacter_47 : decode cX5_appendCharacter 47 = .ok (.aload_n 0, 1) := by decide +kernel
theorem dX5_appendCharacter_48 : decode cX5_appendCharacter 48 = .ok (.dup, 1) := by decide +kernel
theorem dX5_appendCharacter_49 : decode cX5_appendCharacter 49 = .ok (.getfield 138, 3) := by decide +kernel
theorem dX5_appendCharacter_52 : decode cX5_appendCharacter 52 = .ok (.iconst 1, 1) := by decide +kernel
theorem dX5_appendCharacter_53 : decode cX5_appendCharacter 53 = .ok (.iadd, 1) := by decide +kernel
theorem dX5_appendCharacter_54 : decode cX5_appendCharacter 54 = .ok (.putfield 138, 3) := by decide +kernel
theorem dX5_appendCharacter_57 : decode cX5_appendCharacter 57 = .ok (.aload_n 0, 1) := by decide +kernel
theorem dX5_appendCharacter_58 : decode cX5_appendCharacter 58 = .ok (.getfield 138, 3) := by decide +kernel
theorem dX5_appendCharacter_61 : decode cX5_appendCharacter 61 = .ok (.ireturn, 1) := by decide +kernel
theorem dX5_here_0 : decode cX5_here 0 = .ok (.aload_n 0, 1) := by decide +kernel
theorem dX5_here_1 : decode cX5_here 1 = .ok (.getfield 141, 3) := by decide +kernel
theorem dX5_here_4 : decode cX5_here 4 = .ok (.aload_n 0, 1) := by decide +kernel
theorem dX5_here_5 : decode cX5_here 5 = .ok (.getfield 138, 3) := by decide +kernel
theorem dX5_here_8 : decode cX5_here 8 = .ok (.if_icmp .ge 15, 3) := by decide +kernel
theorem dX5_here_11 : decode cX5_here 11 = .ok (.aload_n 0, 1) := by decide +kernel
theorem dX5_here_12 : decode cX5_here 12 = .ok (.getfield 16, 3) := by decide +kernel
theorem dX5_here_15 : decode cX5_here 15 = .ok (.aload_n 0, 1) := by decide +kernel
theorem dX5_here_16 : decode cX5_here 16 = .ok (.getfield 141, 3) := by decide +kernel
theorem dX5_here_19 : decode cX5_here 19 = .ok (.iaload, 1) := by decide +kernel
theorem dX5_here_20 : decode cX5_here 20 = .ok (.goto 4, 3) := by decide +kernel
theorem dX5_here_23 : decode cX5_here 23 = .ok (.iconst (-1), 1) := by decide +kernel
theorem dX5_here_24 : decode cX5_here 24 = .ok (.ireturn, 1) := by decide +kernel
set_option maxRecDepth 20000 in
theorem ggX5_digit_X5_here : GoodIn wsX5_digit wsX5_here := goodIn_ca (goodIn_r _ [8, 2, 9, 3, 13, 14, 15, 16, 17, 18, 19, 20, 21, 22, 23, 24] (by decide +kernel) (by decide +kernel)) (goodIn_sub (fun _ h => List.mem_cons_of_mem _ (List.mem_append_right _ h)) (by decide +kernel))
set_option maxRecDepth 20000 in
theorem gX5_digit_X5_here : GoodIn wsX5_digit (wsV RX5 148 RX5 yX5_here wsX5_here) := goodIn_app (goodIn_of _ (by decide +kernel)) ggX5_digit_X5_here
set_option maxRecDepth 20000 in
theorem ggX5_digit_X5_in : GoodIn wsX5_digit wsX5_in := goodIn_r _ [12] (by decide +kernel) (by decide +kernel)
set_option maxRecDepth 20000 in
theorem gX5_digit_X5_in : GoodIn wsX5_digit (va_wsS RX5 26 yX5_in wsX5_in) := goodIn_app (goodIn_of _ (by decide +kernel)) ggX5_digit_X5_in
theorem dX5_digit_0 : decode cX5_digit 0 = .ok (.aload_n 0, 1) := by decide +kernel
theorem dX5_digit_1 : decode cX5_digit 1 = .ok (.aload_n 0, 1) := by decide +kernel
theorem dX5_digit_2 : decode cX5_digit 2 = .ok (.getfield 144, 3) := by decide +kernel
theorem dX5_digit_5 : decode cX5_digit 5 = .ok (.ifCond .eq 19, 3) := by decide +kernel
theorem dX5_digit_8 : decode cX5_digit 8 = .ok (.aload_n 0, 1) := by decide +kernel
theorem dX5_digit_9 : decode cX5_digit 9 = .ok (.invokevirtual 148, 3) := by decide +kernel
theorem dX5_digit_12 : decode cX5_digit 12 = .ok (.iload_n 1, 1) := by decide +kernel
theorem dX5_digit_13 : decode cX5_digit 13 = .ok (.iload_n 2, 1) := by decide +kernel
theorem dX5_digit_14 : decode cX5_digit 14 = .ok (.invokestatic 26, 3) := by decide +kernel
theorem dX5_digit_17 : decode cX5_digit 17 = .ok (.ifCond .eq 7, 3) := by decide +kernel
theorem dX5_digit_20 : decode cX5_digit 20 = .ok (.iconst 1, 1) := by decide +kernel
theorem dX5_digit_21 : decode cX5_digit 21 = .ok (.goto 4, 3) := by decide +kernel
theorem dX5_digit_24 : decode cX5_digit 24 = .ok (.iconst 0, 1) := by decide +kernel
theorem dX5_digit_25 : decode cX5_digit 25 = .ok (.putfield 144, 3) := by decide +kernel
theorem dX5_digit_28 : decode cX5_digit 28 = .ok (.aload_n 0, 1) := by decide +kernel
theorem dX5_digit_29 : decode cX5_digit 29 = .ok (.getfield 144, 3) := by decide +kernel
theorem dX5_digit_32 : decode cX5_digit 32 = .ok (.ifCond .ne 5, 3) := by decide +kernel
theorem dX5_digit_35 : decode cX5_digit 35 = .ok (.iconst 0, 1) := by decide +kernel
theorem dX5_digit_36 : decode cX5_digit 36 = .ok (.ireturn, 1) := by decide +kernel
theorem dX5_digit_37 : decode cX5_digit 37 = .ok (.aload_n 0, 1) := by decide +kernel
theorem dX5_digit_38 : decode cX5_digit 38 = .ok (.dup, 1) := by decide +kernel
theorem dX5_digit_39 : decode cX5_digit 39 = .ok (.getfield 141, 3) := by decide +kernel
theorem dX5_digit_42 : decode cX5_digit 42 = .ok (.iconst 1, 1) := by decide +kernel
theorem dX5_digit_43 : decode cX5_digit 43 = .ok (.iadd, 1) := by decide +kernel
theorem dX5_digit_44 : decode cX5_digit 44 = .ok (.putfield 141, 3) := by decide +kernel
theorem dX5_digit_47 : decode cX5_digit 47 = .ok (.aload_n 0, 1) := by decide +kernel
theorem dX5_digit_48 : decode cX5_digit 48 = .ok (.getfield 16, 3) := by decide +kernel
theorem dX5_digit_51 : decode cX5_digit 51 = .ok (.aload_n 0, 1) := by decide +kernel
theorem dX5_digit_52 : decode cX5_digit 52 = .ok (.getfield 141, 3) := by decide +kernel
theorem dX5_digit_55 : decode cX5_digit 55 = .ok (.iconst 1, 1) := by decide +kernel
theorem dX5_digit_56 : decode cX5_digit 56 = .ok (.isub, 1) := by decide +kernel
theorem dX5_digit_57 : decode cX5_digit 57 = .ok (.iaload, 1) := by decide +kernel
theorem dX5_digit_58 : decode cX5_digit 58 = .ok (.bipush 48, 2) := by decide +kernel
theorem dX5_digit_60 : decode cX5_digit 60 = .ok (.isub, 1) := by decide +kernel
theorem dX5_digit_61 : decode cX5_digit 61 = .ok (.ireturn, 1) := by decide +kernel
set_option maxRecDepth 20000 in
theorem ggX5_command_X5_here : GoodIn wsX5_command wsX5_here := goodIn_ca (goodIn_r _ [7, 2, 8, 9, 127, 128, 129, 130, 131, 132, 133, 134, 135, 136, 137, 138] (by decide +kernel) (by decide +kernel)) (goodIn_sub (fun _ h => List.mem_cons_of_mem _ (List.mem_append_left _ (List.mem_append_right _ h))) (by decide +kernel))
set_option maxRecDepth 20000 in
theorem gX5_command_X5_here : GoodIn wsX5_command (wsV RX5 148 RX5 yX5_here wsX5_here) := goodIn_app (goodIn_of _ (by decide +kernel)) ggX5_command_X5_here
set_option maxRecDepth 20000 in
theorem ggX5_command_X5_digit : GoodIn wsX5_command wsX5_digit := goodIn_ca (goodIn_r _ [13, 1, 2, 9, 3, 4, 5, 6, 7, 8, 14, 15, 16, 127, 128, 129, 130, 131, 132, 133, 134, 135, 136, 137, 138] (by decide +kernel) (by decide +kernel)) (goodIn_sub (fun _ h => List.mem_cons_of_mem _ (List.mem_append_left _ (List.mem_append_right _ h))) (by decide +kernel))
set_option maxRecDepth 20000 in
theorem gX5_command_X5_digit : GoodIn wsX5_command (wsV RX5 151 RX5 yX5_digit wsX5_digit) := goodIn_app (goodIn_of _ (by decide +kernel)) ggX5_command_X5_digit
set_option maxRecDepth 20000 in
theorem ggX5_command_X5_does : GoodIn wsX5_command wsX5_does := goodIn_ca (goodIn_ca (goodIn_r _ [20, 21, 22, 23, 24, 25, 6, 26, 27, 28, 29, 30, 14, 15, 16, 31, 32, 33, 34, 35, 36, 37, 38, 39, 40, 41, 42, 43, 44, 45, 46, 47, 48, 49, 50, 51, 52, 53, 54, 55, 56, 57, 58, 59, 60, 61, 62, 63, 64, 65, 66, 67, 68, 69, 70, 71, 72, 73, 74, 75, 76, 77, 78, 79, 80, 81, 82, 83, 84, 85, 86, 87, 88, 89, 90, 91, 92, 93, 94, 95, 96, 97, 98, 99, 100, 101, 102, 103, 104, 105, 106, 107, 108, 109, 110, 111, 112, 113, 114, 115, 116, 117, 118, 119, 120, 121, 122, 123, 124, 125, 126, 127, 128, 129, 130, 131, 132, 133, 134, 135, 136, 137, 138] (by decide +kernel) (by decide +kernel)) (goodIn_sub (fun _ h => List.mem_cons_of_mem _ (List.mem_append_left _ (List.mem_append_right _ h))) (by decide +kernel))) (goodIn_sub (fun _ h => List.mem_cons_of_mem _ (List.mem_append_right _ h)) (by decide +kernel))
set_option maxRecDepth 20000 in
theorem gX5_command_X5_does : GoodIn wsX5_command (wsV RX5 155 RX5 yX5_does wsX5_does) := goodIn_app (goodIn_of _ (by decide +kernel)) ggX5_command_X5_does
theorem dX5_command_0 : decode cX5_command 0 = .ok (.aload_n 0, 1) := by decide +kernel
theorem dX5_command_1 : decode cX5_command 1 = .ok (.invokevirtual 148, 3) := by decide +kernel
theorem dX5_command_4 : decode cX5_command 4 = .ok (.istore_n 2, 1) := by decide +kernel
theorem dX5_command_5 : decode cX5_command 5 = .ok (.aload_n 0, 1) := by decide +kernel
theorem dX5_command_6 : decode cX5_command 6 = .ok (.iload_n 2, 1) := by decide +kernel
theorem dX5_command_7 : decode cX5_command 7 = .ok (.bipush 99, 2) := by decide +kernel
theorem dX5_command_9 : decode cX5_command 9 = .ok (.if_icmp .eq 21, 3) := by decide +kernel
theorem dX5_command_12 : decode cX5_command 12 = .ok (.iload_n 2, 1) := by decide +kernel
theorem dX5_command_13 : decode cX5_command 13 = .ok (.bipush 106, 2) := by decide +kernel
theorem dX5_command_15 : decode cX5_command 15 = .ok (.if_icmp .eq 15, 3) := by decide +kernel
theorem dX5_command_18 : decode cX5_command 18 = .ok (.iload_n 2, 1) := by decide +kernel
theorem dX5_command_19 : decode cX5_command 19 = .ok (.bipush 112, 2) := by decide +kernel
theorem dX5_command_21 : decode cX5_command 21 = .ok (.if_icmp .eq 9, 3) := by decide +kernel
theorem dX5_command_24 : decode cX5_command 24 = .ok (.iload_n 2, 1) := by decide +kernel
theorem dX5_command_25 : decode cX5_command 25 = .ok (.bipush 114, 2) := by decide +kernel
theorem dX5_command_27 : decode cX5_command 27 = .ok (.if_icmp .ne 7, 3) := by decide +kernel
theorem dX5_command_30 : decode cX5_command 30 = .ok (.iconst 1, 1) := by decide +kernel
theorem dX5_command_31 : decode cX5_command 31 = .ok (.goto 4, 3) := by decide +kernel
theorem dX5_command_34 : decode cX5_command 34 = .ok (.iconst 0, 1) := by decide +kernel
theorem dX5_command_35 : decode cX5_command 35 = .ok (.putfield 144, 3) := by decide +kernel
theorem dX5_command_38 : decode cX5_command 38 = .ok (.aload_n 0, 1) := by decide +kernel
theorem dX5_command_39 : decode cX5_command 39 = .ok (.dup, 1) := by decide +kernel
theorem dX5_command_40 : decode cX5_command 40 = .ok (.getfield 141, 3) := by decide +kernel
theorem dX5_command_43 : decode cX5_command 43 = .ok (.aload_n 0, 1) := by decide +kernel
theorem dX5_command_44 : decode cX5_command 44 = .ok (.getfield 144, 3) := by decide +kernel
theorem dX5_command_47 : decode cX5_command 47 = .ok (.ifCond .eq 7, 3) := by decide +kernel
theorem dX5_command_50 : decode cX5_command 50 = .ok (.iconst 1, 1) := by decide +kernel
theorem dX5_command_51 : decode cX5_command 51 = .ok (.goto 4, 3) := by decide +kernel
theorem dX5_command_54 : decode cX5_command 54 = .ok (.iconst 0, 1) := by decide +kernel
theorem dX5_command_55 : decode cX5_command 55 = .ok (.iadd, 1) := by decide +kernel
theorem dX5_command_56 : decode cX5_command 56 = .ok (.putfield 141, 3) := by decide +kernel
theorem dX5_command_59 : decode cX5_command 59 = .ok (.iload_n 2, 1) := by decide +kernel
theorem dX5_command_60 : decode cX5_command 60 = .ok (.bipush 114, 2) := by decide +kernel
theorem dX5_command_62 : decode cX5_command 62 = .ok (.if_icmp .ne 14, 3) := by decide +kernel
theorem dX5_command_65 : decode cX5_command 65 = .ok (.aload_n 0, 1) := by decide +kernel
theorem dX5_command_66 : decode cX5_command 66 = .ok (.bipush 49, 2) := by decide +kernel
theorem dX5_command_68 : decode cX5_command 68 = .ok (.bipush 57, 2) := by decide +kernel
theorem dX5_command_70 : decode cX5_command 70 = .ok (.invokevirtual 151, 3) := by decide +kernel
theorem dX5_command_73 : decode cX5_command 73 = .ok (.goto 11, 3) := by decide +kernel
theorem dX5_command_76 : decode cX5_command 76 = .ok (.aload_n 0, 1) := by decide +kernel
theorem dX5_command_77 : decode cX5_command 77 = .ok (.bipush 48, 2) := by decide +kernel
theorem dX5_command_79 : decode cX5_command 79 = .ok (.bipush 55, 2) := by decide +kernel
theorem dX5_command_81 : decode cX5_command 81 = .ok (.invokevirtual 151, 3) := by decide +kernel
theorem dX5_command_84 : decode cX5_command 84 = .ok (.istore_n 3, 1) := by decide +kernel
theorem dX5_command_85 : decode cX5_command 85 = .ok (.iload_n 2, 1) := by decide +kernel
theorem dX5_command_86 : decode cX5_command 86 = .ok (.bipush 106, 2) := by decide +kernel
theorem dX5_command_88 : decode cX5_command 88 = .ok (.if_icmp .ne 14, 3) := by decide +kernel
theorem dX5_command_91 : decode cX5_command 91 = .ok (.aload_n 0, 1) := by decide +kernel
theorem dX5_command_92 : decode cX5_command 92 = .ok (.bipush 48, 2) := by decide +kernel
theorem dX5_command_94 : decode cX5_command 94 = .ok (.bipush 55, 2) := by decide +kernel
theorem dX5_command_96 : decode cX5_command 96 = .ok (.invokevirtual 151, 3) := by decide +kernel
theorem dX5_command_99 : decode cX5_command 99 = .ok (.goto 21, 3) := by decide +kernel
theorem dX5_command_102 : decode cX5_command 102 = .ok (.iload_n 2, 1) := by decide +kernel
theorem dX5_command_103 : decode cX5_command 103 = .ok (.bipush 112, 2) := by decide +kernel
theorem dX5_command_105 : decode cX5_command 105 = .ok (.if_icmp .ne 14, 3) := by decide +kernel
theorem dX5_command_108 : decode cX5_command 108 = .ok (.aload_n 0, 1) := by decide +kernel
theorem dX5_command_109 : decode cX5_command 109 = .ok (.bipush 48, 2) := by decide +kernel
theorem dX5_command_111 : decode cX5_command 111 = .ok (.bipush 51, 2) := by decide +kernel
theorem dX5_command_113 : decode cX5_command 113 = .ok (.invokevirtual 151, 3) := by decide +kernel
theorem dX5_command_116 : decode cX5_command 116 = .ok (.goto 4, 3) := by decide +kernel
theorem dX5_command_119 : decode cX5_command 119 = .ok (.iconst 0, 1) := by decide +kernel
theorem dX5_command_120 : decode cX5_command 120 = .ok (.istore 4, 2) := by decide +kernel
theorem dX5_command_122 : decode cX5_command 122 = .ok (.iload_n 1, 1) := by decide +kernel
theorem dX5_command_123 : decode cX5_command 123 = .ok (.ifCond .eq 11, 3) := by decide +kernel
theorem dX5_command_126 : decode cX5_command 126 = .ok (.aload_n 0, 1) := by decide +kernel
theorem dX5_command_127 : decode cX5_command 127 = .ok (.iload_n 2, 1) := by decide +kernel
theorem dX5_command_128 : decode cX5_command 128 = .ok (.iload_n 3, 1) := by decide +kernel
theorem dX5_command_129 : decode cX5_command 129 = .ok (.iload 4, 2) := by decide +kernel
theorem dX5_command_131 : decode cX5_command 131 = .ok (.invokevirtual 155, 3) := by decide +kernel
theorem dX5_command_134 : decode cX5_command 134 = .ok (.return_, 1) := by decide +kernel
set_option maxRecDepth 20000 in
theorem ggX5_does_X5_crash : GoodIn wsX5_does wsX5_crash := goodIn_ca (goodIn_r _ [7, 1, 8, 9, 10, 6, 11, 12, 13, 14, 15, 16, 17, 18, 111, 112, 113, 114, 115, 116, 117, 118, 119, 120, 121, 122] (by decide +kernel) (by decide +kernel)) (goodIn_sub (fun _ h => List.mem_cons_of_mem _ (List.mem_append_left _ (List.mem_append_right _ h))) (by decide +kernel))
set_option maxRecDepth 20000 in
theorem gX5_does_X5_crash : GoodIn wsX5_does (wsV RX5 159 RX5 yX5_crash wsX5_crash) := goodIn_app (goodIn_of _ (by decide +kernel)) ggX5_does_X5_crash
set_option maxRecDepth 20000 in
theorem ggX5_does_X5_join : GoodIn wsX5_does wsX5_join := goodIn_ca (goodIn_r _ [22, 1, 8, 9, 10, 6, 11, 12, 13, 14, 15, 16, 17, 18, 23, 24, 25, 26, 27, 28, 29, 30, 31, 32, 33, 34, 35, 36, 37, 38, 39, 40, 41, 42, 43, 44, 45, 46, 47, 48, 49, 111, 112, 113, 114, 115, 116, 117, 118, 119, 120, 121, 122] (by decide +kernel) (by decide +kernel)) (goodIn_sub (fun _ h => List.mem_cons_of_mem _ (List.mem_append_left _ (List.mem_append_right _ h))) (by decide +kernel))
set_option maxRecDepth 20000 in
theorem gX5_does_X5_join : GoodIn wsX5_does (wsV RX5 162 RX5 yX5_join wsX5_join) := goodIn_app (goodIn_of _ (by decide +kernel)) ggX5_does_X5_join
set_option maxRecDepth 20000 in
theorem ggX5_does_X5_move : GoodIn wsX5_does wsX5_move := goodIn_ca (goodIn_r _ [53, 1, 8, 9, 10, 6, 11, 12, 13, 14, 15, 16, 17, 18, 111, 112, 113, 114, 115, 116, 117, 118, 119, 120, 121, 122] (by decide +kernel) (by decide +kernel)) (goodIn_sub (fun _ h => List.mem_cons_of_mem _ (List.mem_append_left _ (List.mem_append_right _ h))) (by decide +kernel))
set_option maxRecDepth 20000 in
theorem gX5_does_X5_move : GoodIn wsX5_does (wsV RX5 165 RX5 yX5_move wsX5_move) := goodIn_app (goodIn_of _ (by decide +kernel)) ggX5_does_X5_move
set_option maxRecDepth 20000 in
theorem ggX5_does_X5_rounds : GoodIn wsX5_does wsX5_rounds := goodIn_ca (goodIn_ca (goodIn_r _ [57, 1, 8, 12, 13, 6, 14, 15, 16, 17, 18, 58, 59, 60, 61, 62, 63, 64, 65, 66, 67, 68, 69, 27, 28, 29, 46, 47, 48, 49, 30, 31, 32, 33, 70, 71, 72, 73, 23, 24, 25, 26, 74, 75, 76, 77, 78, 79, 80, 81, 82, 83, 84, 85, 86, 87, 88, 89, 90, 91, 92, 93, 94, 95, 96, 97, 98, 99, 100, 101, 102, 103, 104, 105, 106, 38, 39, 40, 41, 42, 43, 44, 45, 107, 108, 109, 110, 111, 112, 113, 114, 115, 116, 117, 118, 119, 120, 121, 122] (by decide +kernel) (by decide +kernel)) (goodIn_sub (fun _ h => List.mem_cons_of_mem _ (List.mem_append_left _ (List.mem_append_right _ h))) (by decide +kernel))) (goodIn_sub (fun _ h => List.mem_cons_of_mem _ (List.mem_append_right _ h)) (by decide +kernel))
set_option maxRecDepth 20000 in
theorem gX5_does_X5_rounds : GoodIn wsX5_does (wsV RX5 168 RX5 yX5_rounds wsX5_rounds) := goodIn_app (goodIn_of _ (by decide +kernel)) ggX5_does_X5_rounds
theorem dX5_does_0 : decode cX5_does 0 = .ok (.iload_n 1, 1) := by decide +kernel
theorem dX5_does_1 : decode cX5_does 1 = .ok (.bipush 99, 2) := by decide +kernel
theorem dX5_does_3 : decode cX5_does 3 = .ok (.if_icmp .ne 11, 3) := by decide +kernel
theorem dX5_does_6 : decode cX5_does 6 = .ok (.aload_n 0, 1) := by decide +kernel
theorem dX5_does_7 : decode cX5_does 7 = .ok (.iload_n 2, 1) := by decide +kernel
theorem dX5_does_8 : decode cX5_does 8 = .ok (.invokevirtual 159, 3) := by decide +kernel
theorem dX5_does_11 : decode cX5_does 11 = .ok (.goto 38, 3) := by decide +kernel
theorem dX5_does_14 : decode cX5_does 14 = .ok (.iload_n 1, 1) := by decide +kernel
theorem dX5_does_15 : decode cX5_does 15 = .ok (.bipush 106, 2) := by decide +kernel
theorem dX5_does_17 : decode cX5_does 17 = .ok (.if_icmp .ne 12, 3) := by decide +kernel
theorem dX5_does_20 : decode cX5_does 20 = .ok (.aload_n 0, 1) := by decide +kernel
theorem dX5_does_21 : decode cX5_does 21 = .ok (.iload_n 2, 1) := by decide +kernel
theorem dX5_does_22 : decode cX5_does 22 = .ok (.iload_n 3, 1) := by decide +kernel
theorem dX5_does_23 : decode cX5_does 23 = .ok (.invokevirtual 162, 3) := by decide +kernel
theorem dX5_does_26 : decode cX5_does 26 = .ok (.goto 23, 3) := by decide +kernel
theorem dX5_does_29 : decode cX5_does 29 = .ok (.iload_n 1, 1) := by decide +kernel
theorem dX5_does_30 : decode cX5_does 30 = .ok (.bipush 112, 2) := by decide +kernel
theorem dX5_does_32 : decode cX5_does 32 = .ok (.if_icmp .ne 12, 3) := by decide +kernel
theorem dX5_does_35 : decode cX5_does 35 = .ok (.aload_n 0, 1) := by decide +kernel
theorem dX5_does_36 : decode cX5_does 36 = .ok (.iload_n 2, 1) := by decide +kernel
theorem dX5_does_37 : decode cX5_does 37 = .ok (.iload_n 3, 1) := by decide +kernel
theorem dX5_does_38 : decode cX5_does 38 = .ok (.invokevirtual 165, 3) := by decide +kernel
theorem dX5_does_41 : decode cX5_does 41 = .ok (.goto 8, 3) := by decide +kernel
theorem dX5_does_44 : decode cX5_does 44 = .ok (.aload_n 0, 1) := by decide +kernel
theorem dX5_does_45 : decode cX5_does 45 = .ok (.iload_n 2, 1) := by decide +kernel
theorem dX5_does_46 : decode cX5_does 46 = .ok (.invokevirtual 168, 3) := by decide +kernel
theorem dX5_does_49 : decode cX5_does 49 = .ok (.istore 4, 2) := by decide +kernel
theorem dX5_does_51 : decode cX5_does 51 = .ok (.aload_n 0, 1) := by decide +kernel
theorem dX5_does_52 : decode cX5_does 52 = .ok (.iload 4, 2) := by decide +kernel
theorem dX5_does_54 : decode cX5_does 54 = .ok (.ifCond .lt 17, 3) := by decide +kernel
theorem dX5_does_57 : decode cX5_does 57 = .ok (.aload_n 0, 1) := by decide +kernel
theorem dX5_does_58 : decode cX5_does 58 = .ok (.getfield 22, 3) := by decide +kernel
theorem dX5_does_61 : decode cX5_does 61 = .ok (.ifCond .le 10, 3) := by decide +kernel
theorem dX5_does_64 : decode cX5_does 64 = .ok (.aload_n 0, 1) := by decide +kernel
theorem dX5_does_65 : decode cX5_does 65 = .ok (.getfield 22, 3) := by decide +kernel
theorem dX5_does_68 : decode cX5_does 68 = .ok (.goto 4, 3) := by decide +kernel
theorem dX5_does_71 : decode cX5_does 71 = .ok (.iconst 0, 1) := by decide +kernel
theorem dX5_does_72 : decode cX5_does 72 = .ok (.putfield 171, 3) := by decide +kernel
theorem dX5_does_75 : decode cX5_does 75 = .ok (.return_, 1) := by decide +kernel
set_option maxRecDepth 20000 in
theorem ggX5_script_X5_command : GoodIn wsX5_script wsX5_command := goodIn_ca (goodIn_ca (goodIn_r _ [9, 2, 1, 10, 11, 12, 8, 13, 4, 14, 15, 16, 17, 18, 19, 20, 21, 22, 23, 24, 25, 26, 3, 27, 28, 29, 30, 31, 32, 33, 34, 35, 36, 37, 38, 39, 40, 41, 42, 43, 44, 45, 46, 47, 48, 49, 50, 51, 52, 53, 54, 55, 56, 57, 58, 59, 60, 61, 62, 63, 64, 65, 66, 67, 68, 69, 70, 71, 72, 73, 74, 75, 76, 77, 78, 79, 80, 81, 82, 83, 84, 85, 86, 87, 88, 89, 90, 91, 92, 93, 94, 95, 96, 97, 98, 99, 100, 101, 102, 103, 104, 105, 106, 107, 108, 109, 110, 111, 112, 113, 114, 115, 116, 117, 118, 119, 120, 121, 122, 123, 124, 125, 126, 127, 128, 129, 130, 131, 132, 133, 134, 135, 136, 137, 138, 139, 140, 141, 142] (by decide +kernel) (by decide +kernel)) (goodIn_sub (fun _ h => List.mem_cons_of_mem _ (List.mem_append_left _ (List.mem_append_right _ h))) (by decide +kernel))) (goodIn_sub (fun _ h => List.mem_cons_of_mem _ (List.mem_append_right _ h)) (by decide +kernel))
set_option maxRecDepth 20000 in
theorem gX5_script_X5_command : GoodIn wsX5_script (wsV RX5 174 RX5 yX5_command wsX5_command) := goodIn_app (goodIn_of _ (by decide +kernel)) ggX5_script_X5_command
set_option maxRecDepth 20000 in
theorem ggX5_script_X5_digit : GoodIn wsX5_script wsX5_digit := goodIn_ca (goodIn_r _ [18, 2, 1, 14, 10, 11, 12, 8, 13, 4, 19, 20, 21, 131, 132, 133, 134, 135, 136, 137, 138, 139, 140, 141, 142] (by decide +kernel) (by decide +kernel)) (goodIn_sub (fun _ h => List.mem_cons_of_mem _ (List.mem_append_left _ (List.mem_append_right _ h))) (by decide +kernel))
set_option maxRecDepth 20000 in
theorem gX5_script_X5_digit : GoodIn wsX5_script (wsV RX5 151 RX5 yX5_digit wsX5_digit) := goodIn_app (goodIn_of _ (by decide +kernel)) ggX5_script_X5_digit
theorem dX5_script_0 : decode cX5_script 0 = .ok (.aload_n 0, 1) := by decide +kernel
theorem dX5_script_1 : decode cX5_script 1 = .ok (.iconst 0, 1) := by decide +kernel
theorem dX5_script_2 : decode cX5_script 2 = .ok (.putfield 141, 3) := by decide +kernel
theorem dX5_script_5 : decode cX5_script 5 = .ok (.aload_n 0, 1) := by decide +kernel
theorem dX5_script_6 : decode cX5_script 6 = .ok (.iconst 1, 1) := by decide +kernel
theorem dX5_script_7 : decode cX5_script 7 = .ok (.putfield 144, 3) := by decide +kernel
theorem dX5_script_10 : decode cX5_script 10 = .ok (.iconst 0, 1) := by decide +kernel
theorem dX5_script_11 : decode cX5_script 11 = .ok (.istore_n 2, 1) := by decide +kernel
theorem dX5_script_12 : decode cX5_script 12 = .ok (.iconst 1, 1) := by decide +kernel
theorem dX5_script_13 : decode cX5_script 13 = .ok (.istore_n 3, 1) := by decide +kernel
theorem dX5_script_14 : decode cX5_script 14 = .ok (.iload_n 3, 1) := by decide +kernel
theorem dX5_script_15 : decode cX5_script 15 = .ok (.ifCond .eq 87, 3) := by decide +kernel
theorem dX5_script_18 : decode cX5_script 18 = .ok (.aload_n 0, 1) := by decide +kernel
theorem dX5_script_19 : decode cX5_script 19 = .ok (.iload_n 1, 1) := by decide +kernel
theorem dX5_script_20 : decode cX5_script 20 = .ok (.invokevirtual 174, 3) := by decide +kernel
theorem dX5_script_23 : decode cX5_script 23 = .ok (.iload_n 2, 1) := by decide +kernel
theorem dX5_script_24 : decode cX5_script 24 = .ok (.aload_n 0, 1) := by decide +kernel
theorem dX5_script_25 : decode cX5_script 25 = .ok (.getfield 171, 3) := by decide +kernel
theorem dX5_script_28 : decode cX5_script 28 = .ok (.ifCond .ne 7, 3) := by decide +kernel
theorem dX5_script_31 : decode cX5_script 31 = .ok (.iconst 1, 1) := by decide +kernel
theorem dX5_script_32 : decode cX5_script 32 = .ok (.goto 4, 3) := by decide +kernel
theorem dX5_script_35 : decode cX5_script 35 = .ok (.iconst 0, 1) := by decide +kernel
theorem dX5_script_36 : decode cX5_script 36 = .ok (.iadd, 1) := by decide +kernel
theorem dX5_script_37 : decode cX5_script 37 = .ok (.istore_n 2, 1) := by decide +kernel
theorem dX5_script_38 : decode cX5_script 38 = .ok (.aload_n 0, 1) := by decide +kernel
theorem dX5_script_39 : decode cX5_script 39 = .ok (.getfield 144, 3) := by decide +kernel
theorem dX5_script_42 : decode cX5_script 42 = .ok (.ifCond .eq 25, 3) := by decide +kernel
theorem dX5_script_45 : decode cX5_script 45 = .ok (.aload_n 0, 1) := by decide +kernel
theorem dX5_script_46 : decode cX5_script 46 = .ok (.getfield 171, 3) := by decide +kernel
theorem dX5_script_49 : decode cX5_script 49 = .ok (.ifCond .ne 18, 3) := by decide +kernel
theorem dX5_script_52 : decode cX5_script 52 = .ok (.aload_n 0, 1) := by decide +kernel
theorem dX5_script_53 : decode cX5_script 53 = .ok (.getfield 141, 3) := by decide +kernel
theorem dX5_script_56 : decode cX5_script 56 = .ok (.aload_n 0, 1) := by decide +kernel
theorem dX5_script_57 : decode cX5_script 57 = .ok (.getfield 138, 3) := by decide +kernel
theorem dX5_script_60 : decode cX5_script 60 = .ok (.if_icmp .ge 7, 3) := by decide +kernel
theorem dX5_script_63 : decode cX5_script 63 = .ok (.iconst 1, 1) := by decide +kernel
theorem dX5_script_64 : decode cX5_script 64 = .ok (.goto 4, 3) := by decide +kernel
theorem dX5_script_67 : decode cX5_script 67 = .ok (.iconst 0, 1) := by decide +kernel
theorem dX5_script_68 : decode cX5_script 68 = .ok (.istore_n 3, 1) := by decide +kernel
theorem dX5_script_69 : decode cX5_script 69 = .ok (.iload_n 3, 1) := by decide +kernel
theorem dX5_script_70 : decode cX5_script 70 = .ok (.ifCond .eq 12, 3) := by decide +kernel
theorem dX5_script_73 : decode cX5_script 73 = .ok (.aload_n 0, 1) := by decide +kernel
theorem dX5_script_74 : decode cX5_script 74 = .ok (.bipush 59, 2) := by decide +kernel
theorem dX5_script_76 : decode cX5_script 76 = .ok (.bipush 59, 2) := by decide +kernel
theorem dX5_script_78 : decode cX5_script 78 = .ok (.invokevirtual 151, 3) := by decide +kernel
theorem dX5_script_81 : decode cX5_script 81 = .ok (.pop, 1) := by decide +kernel
theorem dX5_script_82 : decode cX5_script 82 = .ok (.iload_n 3, 1) := by decide +kernel
theorem dX5_script_83 : decode cX5_script 83 = .ok (.ifCond .eq 14, 3) := by decide +kernel
theorem dX5_script_86 : decode cX5_script 86 = .ok (.aload_n 0, 1) := by decide +kernel
theorem dX5_script_87 : decode cX5_script 87 = .ok (.getfield 144, 3) := by decide +kernel
theorem dX5_script_90 : decode cX5_script 90 = .ok (.ifCond .eq 7, 3) := by decide +kernel
theorem dX5_script_93 : decode cX5_script 93 = .ok (.iconst 1, 1) := by decide +kernel
theorem dX5_script_94 : decode cX5_script 94 = .ok (.goto 4, 3) := by decide +kernel
theorem dX5_script_97 : decode cX5_script 97 = .ok (.iconst 0, 1) := by decide +kernel
theorem dX5_script_98 : decode cX5_script 98 = .ok (.istore_n 3, 1) := by decide +kernel
theorem dX5_script_99 : decode cX5_script 99 = .ok (.goto (-85), 3) := by decide +kernel
theorem dX5_script_102 : decode cX5_script 102 = .ok (.iload_n 2, 1) := by decide +kernel
theorem dX5_script_103 : decode cX5_script 103 = .ok (.ireturn, 1) := by decide +kernel
set_option maxRecDepth 20000 in
theorem ggX5_runText_X5_script : GoodIn wsX5_runText wsX5_script := goodIn_ca (goodIn_ca (goodIn_r _ [11, 4, 3, 1, 5, 12, 13, 14, 10, 15, 16, 17, 18, 19, 20, 21, 22, 23, 24, 25, 26, 27, 28, 29, 30, 31, 6, 32, 33, 34, 35, 36, 37, 38, 39, 40, 41, 42, 43, 44, 45, 46, 47, 48, 49, 50, 51, 52, 53, 54, 55, 56, 57, 58, 59, 60, 61, 62, 63, 64, 65, 66, 67, 68, 69, 70, 71, 72, 73, 74, 75, 76, 77, 78, 79, 80, 81, 82, 83, 84, 85, 86, 87, 88, 89, 90, 91, 92, 93, 94, 95, 96, 97, 98, 99, 100, 101, 102, 103, 104, 105, 106, 107, 108, 109, 110, 111, 112, 113, 114, 115, 116, 117, 118, 119, 120, 121, 122, 123, 124, 125, 126, 127, 128, 129, 130, 131, 132, 133, 134, 135, 136, 137, 138, 139, 140, 141, 142, 143, 144, 145, 146, 147] (by decide +kernel) (by decide +kernel)) (goodIn_sub (fun _ h => List.mem_cons_of_mem _ (List.mem_append_left _ (List.mem_append_right _ h))) (by decide +kernel))) (goodIn_sub (fun _ h => List.mem_cons_of_mem _ (List.mem_append_right _ h)) (by decide +kernel))
set_option maxRecDepth 20000 in
theorem gX5_runText_X5_script : GoodIn wsX5_runText (wsV RX5 181 RX5 yX5_script wsX5_script) := goodIn_app (goodIn_of _ (by decide +kernel)) ggX5_runText_X5_script
set_option maxRecDepth 20000 in
theorem ggX5_runText_X5_fails : GoodIn wsX5_runText wsX5_fails := goodIn_r _ [43, 6, 136, 137, 138, 139, 140, 141, 142, 143, 144, 145, 146, 147] (by decide +kernel) (by decide +kernel)
set_option maxRecDepth 20000 in
theorem gX5_runText_X5_fails : GoodIn wsX5_runText (wsV RX5 100 RX5 yX5_fails wsX5_fails) := goodIn_app (goodIn_of _ (by decide +kernel)) ggX5_runText_X5_fails
theorem dX5_runText_0 : decode cX5_runText 0 = .ok (.aload_n 0, 1) := by decide +kernel
theorem dX5_runText_1 : decode cX5_runText 1 = .ok (.iconst 0, 1) := by decide +kernel
theorem dX5_runText_2 : decode cX5_runText 2 = .ok (.putfield 171, 3) := by decide +kernel
theorem dX5_runText_5 : decode cX5_runText 5 = .ok (.aload_n 0, 1) := by decide +kernel
theorem dX5_runText_6 : decode cX5_runText 6 = .ok (.iconst 0, 1) := by decide +kernel
theorem dX5_runText_7 : decode cX5_runText 7 = .ok (.putfield 178, 3) := by decide +kernel
theorem dX5_runText_10 : decode cX5_runText 10 = .ok (.aload_n 0, 1) := by decide +kernel
theorem dX5_runText_11 : decode cX5_runText 11 = .ok (.iconst 0, 1) := by decide +kernel
theorem dX5_runText_12 : decode cX5_runText 12 = .ok (.invokevirtual 181, 3) := by decide +kernel
theorem dX5_runText_15 : decode cX5_runText 15 = .ok (.istore_n 1, 1) := by decide +kernel
theorem dX5_runText_16 : decode cX5_runText 16 = .ok (.aload_n 0, 1) := by decide +kernel
theorem dX5_runText_17 : decode cX5_runText 17 = .ok (.getfield 144, 3) := by decide +kernel
theorem dX5_runText_20 : decode cX5_runText 20 = .ok (.ifCond .ne 27, 3) := by decide +kernel
theorem dX5_runText_23 : decode cX5_runText 23 = .ok (.aload_n 0, 1) := by decide +kernel
theorem dX5_runText_24 : decode cX5_runText 24 = .ok (.iconst 1, 1) := by decide +kernel
theorem dX5_runText_25 : decode cX5_runText 25 = .ok (.putfield 171, 3) := by decide +kernel
theorem dX5_runText_28 : decode cX5_runText 28 = .ok (.aload_n 0, 1) := by decide +kernel
theorem dX5_runText_29 : decode cX5_runText 29 = .ok (.aload_n 0, 1) := by decide +kernel
theorem dX5_runText_30 : decode cX5_runText 30 = .ok (.getfield 141, 3) := by decide +kernel
theorem dX5_runText_33 : decode cX5_runText 33 = .ok (.putfield 178, 3) := by decide +kernel
theorem dX5_runText_36 : decode cX5_runText 36 = .ok (.aload_n 0, 1) := by decide +kernel
theorem dX5_runText_37 : decode cX5_runText 37 = .ok (.iconst 0, 1) := by decide +kernel
theorem dX5_runText_38 : decode cX5_runText 38 = .ok (.putfield 138, 3) := by decide +kernel
theorem dX5_runText_41 : decode cX5_runText 41 = .ok (.aload_n 0, 1) := by decide +kernel
theorem dX5_runText_42 : decode cX5_runText 42 = .ok (.iconst 1, 1) := by decide +kernel
theorem dX5_runText_43 : decode cX5_runText 43 = .ok (.invokevirtual 100, 3) := by decide +kernel
theorem dX5_runText_46 : decode cX5_runText 46 = .ok (.ireturn, 1) := by decide +kernel
theorem dX5_runText_47 : decode cX5_runText 47 = .ok (.aload_n 0, 1) := by decide +kernel
theorem dX5_runText_48 : decode cX5_runText 48 = .ok (.iconst 1, 1) := by decide +kernel
theorem dX5_runText_49 : decode cX5_runText 49 = .ok (.invokevirtual 181, 3) := by decide +kernel
theorem dX5_runText_52 : decode cX5_runText 52 = .ok (.istore_n 1, 1) := by decide +kernel
theorem dX5_runText_53 : decode cX5_runText 53 = .ok (.aload_n 0, 1) := by decide +kernel
theorem dX5_runText_54 : decode cX5_runText 54 = .ok (.iconst 0, 1) := by decide +kernel
theorem dX5_runText_55 : decode cX5_runText 55 = .ok (.putfield 138, 3) := by decide +kernel
theorem dX5_runText_58 : decode cX5_runText 58 = .ok (.aload_n 0, 1) := by decide +kernel
theorem dX5_runText_59 : decode cX5_runText 59 = .ok (.iconst 0, 1) := by decide +kernel
theorem dX5_runText_60 : decode cX5_runText 60 = .ok (.putfield 22, 3) := by decide +kernel
theorem dX5_runText_63 : decode cX5_runText 63 = .ok (.aload_n 0, 1) := by decide +kernel
theorem dX5_runText_64 : decode cX5_runText 64 = .ok (.getfield 171, 3) := by decide +kernel
theorem dX5_runText_67 : decode cX5_runText 67 = .ok (.ifCond .ne 5, 3) := by decide +kernel
theorem dX5_runText_70 : decode cX5_runText 70 = .ok (.iload_n 1, 1) := by decide +kernel
theorem dX5_runText_71 : decode cX5_runText 71 = .ok (.ireturn, 1) := by decide +kernel
theorem dX5_runText_72 : decode cX5_runText 72 = .ok (.aload_n 0, 1) := by decide +kernel
theorem dX5_runText_73 : decode cX5_runText 73 = .ok (.iload_n 1, 1) := by decide +kernel
theorem dX5_runText_74 : decode cX5_runText 74 = .ok (.putfield 178, 3) := by decide +kernel
theorem dX5_runText_77 : decode cX5_runText 77 = .ok (.aload_n 0, 1) := by decide +kernel
theorem dX5_runText_78 : decode cX5_runText 78 = .ok (.iconst 2, 1) := by decide +kernel
theorem dX5_runText_79 : decode cX5_runText 79 = .ok (.invokevirtual 100, 3) := by decide +kernel
theorem dX5_runText_82 : decode cX5_runText 82 = .ok (.ireturn, 1) := by decide +kernel
set_option maxRecDepth 20000 in
theorem ggX5_failure_X5_in : GoodIn wsX5_failure wsX5_in := goodIn_r _ [7] (by decide +kernel) (by decide +kernel)
set_option maxRecDepth 20000 in
theorem gX5_failure_X5_in : GoodIn wsX5_failure (va_wsS RX5 26 yX5_in wsX5_in) := goodIn_app (goodIn_of _ (by decide +kernel)) ggX5_failure_X5_in
set_option maxRecDepth 20000 in
theorem ggX5_failure_X5_fails : GoodIn wsX5_failure wsX5_fails := goodIn_r _ [11, 1, 12, 13, 14, 15, 16, 17, 18, 19, 20, 21, 22, 23] (by decide +kernel) (by decide +kernel)
set_option maxRecDepth 20000 in
theorem gX5_failure_X5_fails : GoodIn wsX5_failure (wsV RX5 100 RX5 yX5_fails wsX5_fails) := goodIn_app (goodIn_of _ (by decide +kernel)) ggX5_failure_X5_fails
theorem dX5_failure_0 : decode cX5_failure 0 = .ok (.aload_n 0, 1) := by decide +kernel
theorem dX5_failure_1 : decode cX5_failure 1 = .ok (.iconst 0, 1) := by decide +kernel
theorem dX5_failure_2 : decode cX5_failure 2 = .ok (.putfield 22, 3) := by decide +kernel
theorem dX5_failure_5 : decode cX5_failure 5 = .ok (.iload_n 1, 1) := by decide +kernel
theorem dX5_failure_6 : decode cX5_failure 6 = .ok (.iconst 0, 1) := by decide +kernel
theorem dX5_failure_7 : decode cX5_failure 7 = .ok (.iconst 1, 1) := by decide +kernel
theorem dX5_failure_8 : decode cX5_failure 8 = .ok (.invokestatic 26, 3) := by decide +kernel
theorem dX5_failure_11 : decode cX5_failure 11 = .ok (.ifCond .ne 9, 3) := by decide +kernel
theorem dX5_failure_14 : decode cX5_failure 14 = .ok (.aload_n 0, 1) := by decide +kernel
theorem dX5_failure_15 : decode cX5_failure 15 = .ok (.iconst 1, 1) := by decide +kernel
theorem dX5_failure_16 : decode cX5_failure 16 = .ok (.invokevirtual 100, 3) := by decide +kernel
theorem dX5_failure_19 : decode cX5_failure 19 = .ok (.ireturn, 1) := by decide +kernel
theorem dX5_failure_20 : decode cX5_failure 20 = .ok (.aload_n 0, 1) := by decide +kernel
theorem dX5_failure_21 : decode cX5_failure 21 = .ok (.getfield 171, 3) := by decide +kernel
theorem dX5_failure_24 : decode cX5_failure 24 = .ok (.ifCond .ne 11, 3) := by decide +kernel
theorem dX5_failure_27 : decode cX5_failure 27 = .ok (.aload_n 0, 1) := by decide +kernel
theorem dX5_failure_28 : decode cX5_failure 28 = .ok (.iconst 2, 1) := by decide +kernel
theorem dX5_failure_29 : decode cX5_failure 29 = .ok (.invokevirtual 100, 3) := by decide +kernel
theorem dX5_failure_32 : decode cX5_failure 32 = .ok (.goto 18, 3) := by decide +kernel
theorem dX5_failure_35 : decode cX5_failure 35 = .ok (.iload_n 1, 1) := by decide +kernel
theorem dX5_failure_36 : decode cX5_failure 36 = .ok (.ifCond .ne 10, 3) := by decide +kernel
theorem dX5_failure_39 : decode cX5_failure 39 = .ok (.aload_n 0, 1) := by decide +kernel
theorem dX5_failure_40 : decode cX5_failure 40 = .ok (.getfield 171, 3) := by decide +kernel
theorem dX5_failure_43 : decode cX5_failure 43 = .ok (.goto 7, 3) := by decide +kernel
theorem dX5_failure_46 : decode cX5_failure 46 = .ok (.aload_n 0, 1) := by decide +kernel
theorem dX5_failure_47 : decode cX5_failure 47 = .ok (.getfield 178, 3) := by decide +kernel
theorem dX5_failure_50 : decode cX5_failure 50 = .ok (.ireturn, 1) := by decide +kernel
set_option maxRecDepth 20000 in
theorem ggX5_averageCounter_X5_isNode : GoodIn wsX5_averageCounter wsX5_isNode := goodIn_r _ [7, 8, 9, 6, 10] (by decide +kernel) (by decide +kernel)
set_option maxRecDepth 20000 in
theorem gX5_averageCounter_X5_isNode : GoodIn wsX5_averageCounter (va_wsS RX5 108 yX5_isNode wsX5_isNode) := goodIn_app (goodIn_of _ (by decide +kernel)) ggX5_averageCounter_X5_isNode
set_option maxRecDepth 20000 in
theorem ggX5_averageCounter_X5_pair : GoodIn wsX5_averageCounter wsX5_pair := goodIn_r _ [13] (by decide +kernel) (by decide +kernel)
set_option maxRecDepth 20000 in
theorem gX5_averageCounter_X5_pair : GoodIn wsX5_averageCounter (va_wsS RX5 34 yX5_pair wsX5_pair) := goodIn_app (goodIn_of _ (by decide +kernel)) ggX5_averageCounter_X5_pair
theorem dX5_averageCounter_0 : decode cX5_averageCounter 0 = .ok (.aload_n 0, 1) := by decide +kernel
theorem dX5_averageCounter_1 : decode cX5_averageCounter 1 = .ok (.iload_n 1, 1) := by decide +kernel
theorem dX5_averageCounter_2 : decode cX5_averageCounter 2 = .ok (.invokestatic 108, 3) := by decide +kernel
theorem dX5_averageCounter_5 : decode cX5_averageCounter 5 = .ok (.ifCond .eq 7, 3) := by decide +kernel
theorem dX5_averageCounter_8 : decode cX5_averageCounter 8 = .ok (.iconst 0, 1) := by decide +kernel
theorem dX5_averageCounter_9 : decode cX5_averageCounter 9 = .ok (.goto 4, 3) := by decide +kernel
theorem dX5_averageCounter_12 : decode cX5_averageCounter 12 = .ok (.iconst 1, 1) := by decide +kernel
theorem dX5_averageCounter_13 : decode cX5_averageCounter 13 = .ok (.putfield 22, 3) := by decide +kernel
theorem dX5_averageCounter_16 : decode cX5_averageCounter 16 = .ok (.iconst 0, 1) := by decide +kernel
theorem dX5_averageCounter_17 : decode cX5_averageCounter 17 = .ok (.istore_n 2, 1) := by decide +kernel
theorem dX5_averageCounter_18 : decode cX5_averageCounter 18 = .ok (.iconst 0, 1) := by decide +kernel
theorem dX5_averageCounter_19 : decode cX5_averageCounter 19 = .ok (.istore_n 3, 1) := by decide +kernel
theorem dX5_averageCounter_20 : decode cX5_averageCounter 20 = .ok (.iload_n 3, 1) := by decide +kernel
theorem dX5_averageCounter_21 : decode cX5_averageCounter 21 = .ok (.bipush 8, 2) := by decide +kernel
theorem dX5_averageCounter_23 : decode cX5_averageCounter 23 = .ok (.if_icmp .ge 33, 3) := by decide +kernel
theorem dX5_averageCounter_26 : decode cX5_averageCounter 26 = .ok (.aload_n 0, 1) := by decide +kernel
theorem dX5_averageCounter_27 : decode cX5_averageCounter 27 = .ok (.getfield 22, 3) := by decide +kernel
theorem dX5_averageCounter_30 : decode cX5_averageCounter 30 = .ok (.ifCond .ne 26, 3) := by decide +kernel
theorem dX5_averageCounter_33 : decode cX5_averageCounter 33 = .ok (.iload_n 2, 1) := by decide +kernel
theorem dX5_averageCounter_34 : decode cX5_averageCounter 34 = .ok (.aload_n 0, 1) := by decide +kernel
theorem dX5_averageCounter_35 : decode cX5_averageCounter 35 = .ok (.getfield 7, 3) := by decide +kernel
theorem dX5_averageCounter_38 : decode cX5_averageCounter 38 = .ok (.sipush 234, 3) := by decide +kernel
theorem dX5_averageCounter_41 : decode cX5_averageCounter 41 = .ok (.iload_n 1, 1) := by decide +kernel
theorem dX5_averageCounter_42 : decode cX5_averageCounter 42 = .ok (.iload_n 3, 1) := by decide +kernel
theorem dX5_averageCounter_43 : decode cX5_averageCounter 43 = .ok (.invokestatic 34, 3) := by decide +kernel
theorem dX5_averageCounter_46 : decode cX5_averageCounter 46 = .ok (.iadd, 1) := by decide +kernel
theorem dX5_averageCounter_47 : decode cX5_averageCounter 47 = .ok (.iaload, 1) := by decide +kernel
theorem dX5_averageCounter_48 : decode cX5_averageCounter 48 = .ok (.iadd, 1) := by decide +kernel
theorem dX5_averageCounter_49 : decode cX5_averageCounter 49 = .ok (.istore_n 2, 1) := by decide +kernel
theorem dX5_averageCounter_50 : decode cX5_averageCounter 50 = .ok (.iinc 3 1, 3) := by decide +kernel
theorem dX5_averageCounter_53 : decode cX5_averageCounter 53 = .ok (.goto (-33), 3) := by decide +kernel
theorem dX5_averageCounter_56 : decode cX5_averageCounter 56 = .ok (.iload_n 2, 1) := by decide +kernel
theorem dX5_averageCounter_57 : decode cX5_averageCounter 57 = .ok (.i2d, 1) := by decide +kernel
theorem dX5_averageCounter_58 : decode cX5_averageCounter 58 = .ok (.ldc2_w 185, 3) := by decide +kernel
theorem dX5_averageCounter_61 : decode cX5_averageCounter 61 = .ok (.ddiv, 1) := by decide +kernel
theorem dX5_averageCounter_62 : decode cX5_averageCounter 62 = .ok (.dreturn, 1) := by decide +kernel
theorem dX5_falseShare_0 : decode cX5_falseShare 0 = .ok (.aload_n 0, 1) := by decide +kernel
theorem dX5_falseShare_1 : decode cX5_falseShare 1 = .ok (.aload_n 0, 1) := by decide +kernel
theorem dX5_falseShare_2 : decode cX5_falseShare 2 = .ok (.getfield 7, 3) := by decide +kernel
theorem dX5_falseShare_5 : decode cX5_falseShare 5 = .ok (.iconst 5, 1) := by decide +kernel
theorem dX5_falseShare_6 : decode cX5_falseShare 6 = .ok (.iaload, 1) := by decide +kernel
theorem dX5_falseShare_7 : decode cX5_falseShare 7 = .ok (.ifCond .ne 7, 3) := by decide +kernel
theorem dX5_falseShare_10 : decode cX5_falseShare 10 = .ok (.iconst 1, 1) := by decide +kernel
theorem dX5_falseShare_11 : decode cX5_falseShare 11 = .ok (.goto 4, 3) := by decide +kernel
theorem dX5_falseShare_14 : decode cX5_falseShare 14 = .ok (.iconst 0, 1) := by decide +kernel
theorem dX5_falseShare_15 : decode cX5_falseShare 15 = .ok (.putfield 22, 3) := by decide +kernel
theorem dX5_falseShare_18 : decode cX5_falseShare 18 = .ok (.aload_n 0, 1) := by decide +kernel
theorem dX5_falseShare_19 : decode cX5_falseShare 19 = .ok (.getfield 22, 3) := by decide +kernel
theorem dX5_falseShare_22 : decode cX5_falseShare 22 = .ok (.ifCond .ne 22, 3) := by decide +kernel
theorem dX5_falseShare_25 : decode cX5_falseShare 25 = .ok (.aload_n 0, 1) := by decide +kernel
theorem dX5_falseShare_26 : decode cX5_falseShare 26 = .ok (.getfield 7, 3) := by decide +kernel
theorem dX5_falseShare_29 : decode cX5_falseShare 29 = .ok (.bipush 6, 2) := by decide +kernel
theorem dX5_falseShare_31 : decode cX5_falseShare 31 = .ok (.iaload, 1) := by decide +kernel
theorem dX5_falseShare_32 : decode cX5_falseShare 32 = .ok (.i2f, 1) := by decide +kernel
theorem dX5_falseShare_33 : decode cX5_falseShare 33 = .ok (.aload_n 0, 1) := by decide +kernel
theorem dX5_falseShare_34 : decode cX5_falseShare 34 = .ok (.getfield 7, 3) := by decide +kernel
theorem dX5_falseShare_37 : decode cX5_falseShare 37 = .ok (.iconst 5, 1) := by decide +kernel
theorem dX5_falseShare_38 : decode cX5_falseShare 38 = .ok (.iaload, 1) := by decide +kernel
theorem dX5_falseShare_39 : decode cX5_falseShare 39 = .ok (.i2f, 1) := by decide +kernel
theorem dX5_falseShare_40 : decode cX5_falseShare 40 = .ok (.fdiv, 1) := by decide +kernel
theorem dX5_falseShare_41 : decode cX5_falseShare 41 = .ok (.goto 4, 3) := by decide +kernel
theorem dX5_falseShare_44 : decode cX5_falseShare 44 = .ok (.fconst 0, 1) := by decide +kernel
theorem dX5_falseShare_45 : decode cX5_falseShare 45 = .ok (.freturn, 1) := by decide +kernel
theorem dX5_save_0 : decode cX5_save 0 = .ok (.aload_n 0, 1) := by decide +kernel
theorem dX5_save_1 : decode cX5_save 1 = .ok (.iconst 0, 1) := by decide +kernel
theorem dX5_save_2 : decode cX5_save 2 = .ok (.putfield 22, 3) := by decide +kernel
theorem dX5_save_5 : decode cX5_save 5 = .ok (.iconst 0, 1) := by decide +kernel
theorem dX5_save_6 : decode cX5_save 6 = .ok (.istore_n 1, 1) := by decide +kernel
theorem dX5_save_7 : decode cX5_save 7 = .ok (.iload_n 1, 1) := by decide +kernel
theorem dX5_save_8 : decode cX5_save 8 = .ok (.aload_n 0, 1) := by decide +kernel
theorem dX5_save_9 : decode cX5_save 9 = .ok (.getfield 7, 3) := by decide +kernel
theorem dX5_save_12 : decode cX5_save 12 = .ok (.arraylength, 1) := by decide +kernel
theorem dX5_save_13 : decode cX5_save 13 = .ok (.if_icmp .ge 21, 3) := by decide +kernel
theorem dX5_save_16 : decode cX5_save 16 = .ok (.aload_n 0, 1) := by decide +kernel
theorem dX5_save_17 : decode cX5_save 17 = .ok (.getfield 13, 3) := by decide +kernel
theorem dX5_save_20 : decode cX5_save 20 = .ok (.iload_n 1, 1) := by decide +kernel
theorem dX5_save_21 : decode cX5_save 21 = .ok (.aload_n 0, 1) := by decide +kernel
theorem dX5_save_22 : decode cX5_save 22 = .ok (.getfield 7, 3) := by decide +kernel
theorem dX5_save_25 : decode cX5_save 25 = .ok (.iload_n 1, 1) := by decide +kernel
theorem dX5_save_26 : decode cX5_save 26 = .ok (.iaload, 1) := by decide +kernel
theorem dX5_save_27 : decode cX5_save 27 = .ok (.iastore, 1) := by decide +kernel
theorem dX5_save_28 : decode cX5_save 28 = .ok (.iinc 1 1, 3) := by decide +kernel
theorem dX5_save_31 : decode cX5_save 31 = .ok (.goto (-24), 3) := by decide +kernel
theorem dX5_save_34 : decode cX5_save 34 = .ok (.aload_n 0, 1) := by decide +kernel
theorem dX5_save_35 : decode cX5_save 35 = .ok (.iconst 1, 1) := by decide +kernel
theorem dX5_save_36 : decode cX5_save 36 = .ok (.putfield 187, 3) := by decide +kernel
theorem dX5_save_39 : decode cX5_save 39 = .ok (.return_, 1) := by decide +kernel
theorem dX5_restore_0 : decode cX5_restore 0 = .ok (.aload_n 0, 1) := by decide +kernel
theorem dX5_restore_1 : decode cX5_restore 1 = .ok (.aload_n 0, 1) := by decide +kernel
theorem dX5_restore_2 : decode cX5_restore 2 = .ok (.getfield 187, 3) := by decide +kernel
theorem dX5_restore_5 : decode cX5_restore 5 = .ok (.ifCond .eq 7, 3) := by decide +kernel
theorem dX5_restore_8 : decode cX5_restore 8 = .ok (.iconst 0, 1) := by decide +kernel
theorem dX5_restore_9 : decode cX5_restore 9 = .ok (.goto 4, 3) := by decide +kernel
theorem dX5_restore_12 : decode cX5_restore 12 = .ok (.iconst 1, 1) := by decide +kernel
theorem dX5_restore_13 : decode cX5_restore 13 = .ok (.putfield 22, 3) := by decide +kernel
theorem dX5_restore_16 : decode cX5_restore 16 = .ok (.aload_n 0, 1) := by decide +kernel
theorem dX5_restore_17 : decode cX5_restore 17 = .ok (.getfield 187, 3) := by decide +kernel
theorem dX5_restore_20 : decode cX5_restore 20 = .ok (.ifCond .ne 4, 3) := by decide +kernel
theorem dX5_restore_23 : decode cX5_restore 23 = .ok (.return_, 1) := by decide +kernel
theorem dX5_restore_24 : decode cX5_restore 24 = .ok (.iconst 0, 1) := by decide +kernel
theorem dX5_restore_25 : decode cX5_restore 25 = .ok (.istore_n 1, 1) := by decide +kernel
theorem dX5_restore_26 : decode cX5_restore 26 = .ok (.iload_n 1, 1) := by decide +kernel
theorem dX5_restore_27 : decode cX5_restore 27 = .ok (.aload_n 0, 1) := by decide +kernel
theorem dX5_restore_28 : decode cX5_restore 28 = .ok (.getfield 7, 3) := by decide +kernel
theorem dX5_restore_31 : decode cX5_restore 31 = .ok (.arraylength, 1) := by decide +kernel
theorem dX5_restore_32 : decode cX5_restore 32 = .ok (.if_icmp .ge 21, 3) := by decide +kernel
theorem dX5_restore_35 : decode cX5_restore 35 = .ok (.aload_n 0, 1) := by decide +kernel
theorem dX5_restore_36 : decode cX5_restore 36 = .ok (.getfield 7, 3) := by decide +kernel
theorem dX5_restore_39 : decode cX5_restore 39 = .ok (.iload_n 1, 1) := by decide +kernel
theorem dX5_restore_40 : decode cX5_restore 40 = .ok (.aload_n 0, 1) := by decide +kernel
theorem dX5_restore_41 : decode cX5_restore 41 = .ok (.getfield 13, 3) := by decide +kernel
theorem dX5_restore_44 : decode cX5_restore 44 = .ok (.iload_n 1, 1) := by decide +kernel
theorem dX5_restore_45 : decode cX5_restore 45 = .ok (.iaload, 1) := by decide +kernel
theorem dX5_restore_46 : decode cX5_restore 46 = .ok (.iastore, 1) := by decide +kernel
theorem dX5_restore_47 : decode cX5_restore 47 = .ok (.iinc 1 1, 3) := by decide +kernel
theorem dX5_restore_50 : decode cX5_restore 50 = .ok (.goto (-24), 3) := by decide +kernel
theorem dX5_restore_53 : decode cX5_restore 53 = .ok (.return_, 1) := by decide +kernel
theorem dJx00060_init_a7421_0 : decode cJx00060_init_a7421 0 = .ok (.aload_n 0, 1) := by decide +kernel
theorem dJx00060_init_a7421_1 : decode cJx00060_init_a7421 1 = .ok (.aload_n 1, 1) := by decide +kernel
theorem dJx00060_init_a7421_2 : decode cJx00060_init_a7421 2 = .ok (.invokespecial 7, 3) := by decide +kernel
theorem dJx00060_init_a7421_5 : decode cJx00060_init_a7421 5 = .ok (.return_, 1) := by decide +kernel
