theorem dX0_init_0 : decode cX0_init 0 = .ok (.aload_n 0, 1) := by decide +kernel
theorem dX0_init_1 : decode cX0_init 1 = .ok (.invokespecial 3, 3) := by decide +kernel
theorem dX0_init_4 : decode cX0_init 4 = .ok (.aload_n 0, 1) := by decide +kernel
theorem dX0_init_5 : decode cX0_init 5 = .ok (.bipush 40, 2) := by decide +kernel
theorem dX0_init_7 : decode cX0_init 7 = .ok (.newarray .char, 2) := by decide +kernel
theorem dX0_init_9 : decode cX0_init 9 = .ok (.putfield 9, 3) := by decide +kernel
theorem dX0_init_12 : decode cX0_init 12 = .ok (.return_, 1) := by decide +kernel
theorem dX0_signAt_0 : decode cX0_signAt 0 = .ok (.iload_n 1, 1) := by decide +kernel
theorem dX0_signAt_1 : decode cX0_signAt 1 = .ok (.ifCond .lt 20, 3) := by decide +kernel
theorem dX0_signAt_4 : decode cX0_signAt 4 = .ok (.iload_n 1, 1) := by decide +kernel
theorem dX0_signAt_5 : decode cX0_signAt 5 = .ok (.aload_n 0, 1) := by decide +kernel
theorem dX0_signAt_6 : decode cX0_signAt 6 = .ok (.getfield 15, 3) := by decide +kernel
theorem dX0_signAt_9 : decode cX0_signAt 9 = .ok (.if_icmp .ge 12, 3) := by decide +kernel
theorem dX0_signAt_12 : decode cX0_signAt 12 = .ok (.aload_n 0, 1) := by decide +kernel
theorem dX0_signAt_13 : decode cX0_signAt 13 = .ok (.getfield 9, 3) := by decide +kernel
theorem dX0_signAt_16 : decode cX0_signAt 16 = .ok (.iload_n 1, 1) := by decide +kernel
theorem dX0_signAt_17 : decode cX0_signAt 17 = .ok (.caload, 1) := by decide +kernel
theorem dX0_signAt_18 : decode cX0_signAt 18 = .ok (.goto 4, 3) := by decide +kernel
theorem dX0_signAt_21 : decode cX0_signAt 21 = .ok (.iconst 0, 1) := by decide +kernel
theorem dX0_signAt_22 : decode cX0_signAt 22 = .ok (.ireturn, 1) := by decide +kernel
set_option maxRecDepth 20000 in
theorem ggX0_digitAt_X0_signAt : GoodIn wsX0_digitAt wsX0_signAt := goodIn_ca (goodIn_r _ [5, 6, 7, 8, 9] (by decide +kernel) (by decide +kernel)) (goodIn_sub (fun _ h => List.mem_cons_of_mem _ (List.mem_append_right _ h)) (by decide +kernel))
set_option maxRecDepth 20000 in
theorem gX0_digitAt_X0_signAt : GoodIn wsX0_digitAt (wsV RX0 19 RX0 yX0_signAt wsX0_signAt) := goodIn_app (goodIn_of _ (by decide +kernel)) ggX0_digitAt_X0_signAt
theorem dX0_digitAt_0 : decode cX0_digitAt 0 = .ok (.aload_n 0, 1) := by decide +kernel
theorem dX0_digitAt_1 : decode cX0_digitAt 1 = .ok (.iload_n 1, 1) := by decide +kernel
theorem dX0_digitAt_2 : decode cX0_digitAt 2 = .ok (.invokevirtual 19, 3) := by decide +kernel
theorem dX0_digitAt_5 : decode cX0_digitAt 5 = .ok (.bipush 48, 2) := by decide +kernel
theorem dX0_digitAt_7 : decode cX0_digitAt 7 = .ok (.isub, 1) := by decide +kernel
theorem dX0_digitAt_8 : decode cX0_digitAt 8 = .ok (.ireturn, 1) := by decide +kernel
set_option maxRecDepth 20000 in
theorem ggX0_lengthOfCommand_X0_signAt : GoodIn wsX0_lengthOfCommand wsX0_signAt := goodIn_ca (goodIn_r _ [5, 6, 7, 11, 12] (by decide +kernel) (by decide +kernel)) (goodIn_sub (fun _ h => List.mem_cons_of_mem _ (List.mem_append_right _ h)) (by decide +kernel))
set_option maxRecDepth 20000 in
theorem gX0_lengthOfCommand_X0_signAt : GoodIn wsX0_lengthOfCommand (wsV RX0 19 RX0 yX0_signAt wsX0_signAt) := goodIn_app (goodIn_of _ (by decide +kernel)) ggX0_lengthOfCommand_X0_signAt
set_option maxRecDepth 20000 in
theorem ggX0_lengthOfCommand_X0_digitsOf : GoodIn wsX0_lengthOfCommand wsX0_digitsOf := goodIn_r _ [10] (by decide +kernel) (by decide +kernel)
set_option maxRecDepth 20000 in
theorem gX0_lengthOfCommand_X0_digitsOf : GoodIn wsX0_lengthOfCommand (va_wsS RX0 23 yX0_digitsOf wsX0_digitsOf) := goodIn_app (goodIn_of _ (by decide +kernel)) ggX0_lengthOfCommand_X0_digitsOf
theorem dX0_lengthOfCommand_0 : decode cX0_lengthOfCommand 0 = .ok (.iconst 1, 1) := by decide +kernel
theorem dX0_lengthOfCommand_1 : decode cX0_lengthOfCommand 1 = .ok (.aload_n 0, 1) := by decide +kernel
theorem dX0_lengthOfCommand_2 : decode cX0_lengthOfCommand 2 = .ok (.iload_n 1, 1) := by decide +kernel
theorem dX0_lengthOfCommand_3 : decode cX0_lengthOfCommand 3 = .ok (.invokevirtual 19, 3) := by decide +kernel
theorem dX0_lengthOfCommand_6 : decode cX0_lengthOfCommand 6 = .ok (.invokestatic 23, 3) := by decide +kernel
theorem dX0_lengthOfCommand_9 : decode cX0_lengthOfCommand 9 = .ok (.iadd, 1) := by decide +kernel
theorem dX0_lengthOfCommand_10 : decode cX0_lengthOfCommand 10 = .ok (.ireturn, 1) := by decide +kernel
set_option maxRecDepth 20000 in
theorem ggX0_findFault_X0_findFaultOfCommand : GoodIn wsX0_findFault wsX0_findFaultOfCommand := goodIn_ca (goodIn_r _ [6, 7, 8, 9, 5, 10, 1, 11, 12, 13, 14, 15, 16, 17, 22, 23] (by decide +kernel) (by decide +kernel)) (goodIn_sub (fun _ h => List.mem_cons_of_mem _ (List.mem_append_right _ h)) (by decide +kernel))
set_option maxRecDepth 20000 in
theorem gX0_findFault_X0_findFaultOfCommand : GoodIn wsX0_findFault (wsV RX0 27 RX0 yX0_findFaultOfCommand wsX0_findFaultOfCommand) := goodIn_app (goodIn_of _ (by decide +kernel)) ggX0_findFault_X0_findFaultOfCommand
set_option maxRecDepth 20000 in
theorem ggX0_findFault_X0_lengthOfCommand : GoodIn wsX0_findFault wsX0_lengthOfCommand := goodIn_ca (goodIn_r _ [21, 7, 8, 9, 5, 10, 1, 11, 12, 13, 14, 22, 23] (by decide +kernel) (by decide +kernel)) (goodIn_sub (fun _ h => List.mem_cons_of_mem _ (List.mem_append_right _ h)) (by decide +kernel))
set_option maxRecDepth 20000 in
theorem gX0_findFault_X0_lengthOfCommand : GoodIn wsX0_findFault (wsV RX0 31 RX0 yX0_lengthOfCommand wsX0_lengthOfCommand) := goodIn_app (goodIn_of _ (by decide +kernel)) ggX0_findFault_X0_lengthOfCommand
set_option maxRecDepth 20000 in
theorem ggX0_findFault_X0_signAt : GoodIn wsX0_findFault wsX0_signAt := goodIn_ca (goodIn_r _ [10, 1, 11, 22, 23] (by decide +kernel) (by decide +kernel)) (goodIn_sub (fun _ h => List.mem_cons_of_mem _ (List.mem_append_right _ h)) (by decide +kernel))
set_option maxRecDepth 20000 in
theorem gX0_findFault_X0_signAt : GoodIn wsX0_findFault (wsV RX0 19 RX0 yX0_signAt wsX0_signAt) := goodIn_app (goodIn_of _ (by decide +kernel)) ggX0_findFault_X0_signAt
theorem dX0_findFault_0 : decode cX0_findFault 0 = .ok (.iconst 0, 1) := by decide +kernel
theorem dX0_findFault_1 : decode cX0_findFault 1 = .ok (.istore_n 1, 1) := by decide +kernel
theorem dX0_findFault_2 : decode cX0_findFault 2 = .ok (.iload_n 1, 1) := by decide +kernel
theorem dX0_findFault_3 : decode cX0_findFault 3 = .ok (.aload_n 0, 1) := by decide +kernel
theorem dX0_findFault_4 : decode cX0_findFault 4 = .ok (.getfield 15, 3) := by decide +kernel
theorem dX0_findFault_7 : decode cX0_findFault 7 = .ok (.if_icmp .ge 52, 3) := by decide +kernel
theorem dX0_findFault_10 : decode cX0_findFault 10 = .ok (.aload_n 0, 1) := by decide +kernel
theorem dX0_findFault_11 : decode cX0_findFault 11 = .ok (.iload_n 1, 1) := by decide +kernel
theorem dX0_findFault_12 : decode cX0_findFault 12 = .ok (.invokevirtual 27, 3) := by decide +kernel
theorem dX0_findFault_15 : decode cX0_findFault 15 = .ok (.istore_n 2, 1) := by decide +kernel
theorem dX0_findFault_16 : decode cX0_findFault 16 = .ok (.iload_n 2, 1) := by decide +kernel
theorem dX0_findFault_17 : decode cX0_findFault 17 = .ok (.iconst (-1), 1) := by decide +kernel
theorem dX0_findFault_18 : decode cX0_findFault 18 = .ok (.if_icmp .eq 5, 3) := by decide +kernel
theorem dX0_findFault_21 : decode cX0_findFault 21 = .ok (.iload_n 2, 1) := by decide +kernel
theorem dX0_findFault_22 : decode cX0_findFault 22 = .ok (.ireturn, 1) := by decide +kernel
theorem dX0_findFault_23 : decode cX0_findFault 23 = .ok (.iload_n 1, 1) := by decide +kernel
theorem dX0_findFault_24 : decode cX0_findFault 24 = .ok (.aload_n 0, 1) := by decide +kernel
theorem dX0_findFault_25 : decode cX0_findFault 25 = .ok (.iload_n 1, 1) := by decide +kernel
theorem dX0_findFault_26 : decode cX0_findFault 26 = .ok (.invokevirtual 31, 3) := by decide +kernel
theorem dX0_findFault_29 : decode cX0_findFault 29 = .ok (.iadd, 1) := by decide +kernel
theorem dX0_findFault_30 : decode cX0_findFault 30 = .ok (.istore_n 1, 1) := by decide +kernel
theorem dX0_findFault_31 : decode cX0_findFault 31 = .ok (.iload_n 1, 1) := by decide +kernel
theorem dX0_findFault_32 : decode cX0_findFault 32 = .ok (.aload_n 0, 1) := by decide +kernel
theorem dX0_findFault_33 : decode cX0_findFault 33 = .ok (.getfield 15, 3) := by decide +kernel
theorem dX0_findFault_36 : decode cX0_findFault 36 = .ok (.if_icmp .lt 5, 3) := by decide +kernel
theorem dX0_findFault_39 : decode cX0_findFault 39 = .ok (.iconst (-1), 1) := by decide +kernel
theorem dX0_findFault_40 : decode cX0_findFault 40 = .ok (.ireturn, 1) := by decide +kernel
theorem dX0_findFault_41 : decode cX0_findFault 41 = .ok (.aload_n 0, 1) := by decide +kernel
theorem dX0_findFault_42 : decode cX0_findFault 42 = .ok (.iload_n 1, 1) := by decide +kernel
theorem dX0_findFault_43 : decode cX0_findFault 43 = .ok (.invokevirtual 19, 3) := by decide +kernel
theorem dX0_findFault_46 : decode cX0_findFault 46 = .ok (.bipush 59, 2) := by decide +kernel
theorem dX0_findFault_48 : decode cX0_findFault 48 = .ok (.if_icmp .eq 5, 3) := by decide +kernel
theorem dX0_findFault_51 : decode cX0_findFault 51 = .ok (.iload_n 1, 1) := by decide +kernel
theorem dX0_findFault_52 : decode cX0_findFault 52 = .ok (.ireturn, 1) := by decide +kernel
theorem dX0_findFault_53 : decode cX0_findFault 53 = .ok (.iinc 1 1, 3) := by decide +kernel
theorem dX0_findFault_56 : decode cX0_findFault 56 = .ok (.goto (-54), 3) := by decide +kernel
theorem dX0_findFault_59 : decode cX0_findFault 59 = .ok (.aload_n 0, 1) := by decide +kernel
theorem dX0_findFault_60 : decode cX0_findFault 60 = .ok (.getfield 15, 3) := by decide +kernel
theorem dX0_findFault_63 : decode cX0_findFault 63 = .ok (.ireturn, 1) := by decide +kernel
set_option maxRecDepth 20000 in
theorem ggX0_findFaultOfCommand_X0_signAt : GoodIn wsX0_findFaultOfCommand wsX0_signAt := goodIn_ca (goodIn_r _ [5, 6, 7, 14, 15] (by decide +kernel) (by decide +kernel)) (goodIn_sub (fun _ h => List.mem_cons_of_mem _ (List.mem_append_right _ h)) (by decide +kernel))
set_option maxRecDepth 20000 in
theorem gX0_findFaultOfCommand_X0_signAt : GoodIn wsX0_findFaultOfCommand (wsV RX0 19 RX0 yX0_signAt wsX0_signAt) := goodIn_app (goodIn_of _ (by decide +kernel)) ggX0_findFaultOfCommand_X0_signAt
set_option maxRecDepth 20000 in
theorem ggX0_findFaultOfCommand_X0_digitsOf : GoodIn wsX0_findFaultOfCommand wsX0_digitsOf := goodIn_r _ [10] (by decide +kernel) (by decide +kernel)
set_option maxRecDepth 20000 in
theorem gX0_findFaultOfCommand_X0_digitsOf : GoodIn wsX0_findFaultOfCommand (va_wsS RX0 23 yX0_digitsOf wsX0_digitsOf) := goodIn_app (goodIn_of _ (by decide +kernel)) ggX0_findFaultOfCommand_X0_digitsOf
set_option maxRecDepth 20000 in
theorem ggX0_findFaultOfCommand_X0_isDigitFor : GoodIn wsX0_findFaultOfCommand wsX0_isDigitFor := goodIn_r _ [13] (by decide +kernel) (by decide +kernel)
set_option maxRecDepth 20000 in
theorem gX0_findFaultOfCommand_X0_isDigitFor : GoodIn wsX0_findFaultOfCommand (va_wsS RX0 34 yX0_isDigitFor wsX0_isDigitFor) := goodIn_app (goodIn_of _ (by decide +kernel)) ggX0_findFaultOfCommand_X0_isDigitFor
theorem dX0_findFaultOfCommand_0 : decode cX0_findFaultOfCommand 0 = .ok (.aload_n 0, 1) := by decide +kernel
theorem dX0_findFaultOfCommand_1 : decode cX0_findFaultOfCommand 1 = .ok (.iload_n 1, 1) := by decide +kernel
theorem dX0_findFaultOfCommand_2 : decode cX0_findFaultOfCommand 2 = .ok (.invokevirtual 19, 3) := by decide +kernel
theorem dX0_findFaultOfCommand_5 : decode cX0_findFaultOfCommand 5 = .ok (.istore_n 2, 1) := by decide +kernel
theorem dX0_findFaultOfCommand_6 : decode cX0_findFaultOfCommand 6 = .ok (.iload_n 2, 1) := by decide +kernel
theorem dX0_findFaultOfCommand_7 : decode cX0_findFaultOfCommand 7 = .ok (.invokestatic 23, 3) := by decide +kernel
theorem dX0_findFaultOfCommand_10 : decode cX0_findFaultOfCommand 10 = .ok (.istore_n 3, 1) := by decide +kernel
theorem dX0_findFaultOfCommand_11 : decode cX0_findFaultOfCommand 11 = .ok (.iload_n 3, 1) := by decide +kernel
theorem dX0_findFaultOfCommand_12 : decode cX0_findFaultOfCommand 12 = .ok (.ifCond .ne 5, 3) := by decide +kernel
theorem dX0_findFaultOfCommand_15 : decode cX0_findFaultOfCommand 15 = .ok (.iload_n 1, 1) := by decide +kernel
theorem dX0_findFaultOfCommand_16 : decode cX0_findFaultOfCommand 16 = .ok (.ireturn, 1) := by decide +kernel
theorem dX0_findFaultOfCommand_17 : decode cX0_findFaultOfCommand 17 = .ok (.iconst 1, 1) := by decide +kernel
theorem dX0_findFaultOfCommand_18 : decode cX0_findFaultOfCommand 18 = .ok (.istore 4, 2) := by decide +kernel
theorem dX0_findFaultOfCommand_20 : decode cX0_findFaultOfCommand 20 = .ok (.iload 4, 2) := by decide +kernel
theorem dX0_findFaultOfCommand_22 : decode cX0_findFaultOfCommand 22 = .ok (.iload_n 3, 1) := by decide +kernel
theorem dX0_findFaultOfCommand_23 : decode cX0_findFaultOfCommand 23 = .ok (.if_icmp .gt 31, 3) := by decide +kernel
theorem dX0_findFaultOfCommand_26 : decode cX0_findFaultOfCommand 26 = .ok (.iload_n 2, 1) := by decide +kernel
theorem dX0_findFaultOfCommand_27 : decode cX0_findFaultOfCommand 27 = .ok (.iload 4, 2) := by decide +kernel
theorem dX0_findFaultOfCommand_29 : decode cX0_findFaultOfCommand 29 = .ok (.aload_n 0, 1) := by decide +kernel
theorem dX0_findFaultOfCommand_30 : decode cX0_findFaultOfCommand 30 = .ok (.iload_n 1, 1) := by decide +kernel
theorem dX0_findFaultOfCommand_31 : decode cX0_findFaultOfCommand 31 = .ok (.iload 4, 2) := by decide +kernel
theorem dX0_findFaultOfCommand_33 : decode cX0_findFaultOfCommand 33 = .ok (.iadd, 1) := by decide +kernel
theorem dX0_findFaultOfCommand_34 : decode cX0_findFaultOfCommand 34 = .ok (.invokevirtual 19, 3) := by decide +kernel
theorem dX0_findFaultOfCommand_37 : decode cX0_findFaultOfCommand 37 = .ok (.invokestatic 34, 3) := by decide +kernel
theorem dX0_findFaultOfCommand_40 : decode cX0_findFaultOfCommand 40 = .ok (.ifCond .ne 8, 3) := by decide +kernel
theorem dX0_findFaultOfCommand_43 : decode cX0_findFaultOfCommand 43 = .ok (.iload_n 1, 1) := by decide +kernel
theorem dX0_findFaultOfCommand_44 : decode cX0_findFaultOfCommand 44 = .ok (.iload 4, 2) := by decide +kernel
theorem dX0_findFaultOfCommand_46 : decode cX0_findFaultOfCommand 46 = .ok (.iadd, 1) := by decide +kernel
theorem dX0_findFaultOfCommand_47 : decode cX0_findFaultOfCommand 47 = .ok (.ireturn, 1) := by decide +kernel
theorem dX0_findFaultOfCommand_48 : decode cX0_findFaultOfCommand 48 = .ok (.iinc 4 1, 3) := by decide +kernel
theorem dX0_findFaultOfCommand_51 : decode cX0_findFaultOfCommand 51 = .ok (.goto (-31), 3) := by decide +kernel
theorem dX0_findFaultOfCommand_54 : decode cX0_findFaultOfCommand 54 = .ok (.iconst (-1), 1) := by decide +kernel
theorem dX0_findFaultOfCommand_55 : decode cX0_findFaultOfCommand 55 = .ok (.ireturn, 1) := by decide +kernel
theorem dX0_digitsOf_0 : decode cX0_digitsOf 0 = .ok (.iload_n 0, 1) := by decide +kernel
theorem dX0_digitsOf_1 : decode cX0_digitsOf 1 = .ok (.lookupswitch 47 #[(99, 43), (106, 45), (112, 45), (114, 43)], 43) := by decide +kernel
theorem dX0_digitsOf_44 : decode cX0_digitsOf 44 = .ok (.iconst 1, 1) := by decide +kernel
theorem dX0_digitsOf_45 : decode cX0_digitsOf 45 = .ok (.ireturn, 1) := by decide +kernel
theorem dX0_digitsOf_46 : decode cX0_digitsOf 46 = .ok (.iconst 2, 1) := by decide +kernel
theorem dX0_digitsOf_47 : decode cX0_digitsOf 47 = .ok (.ireturn, 1) := by decide +kernel
theorem dX0_digitsOf_48 : decode cX0_digitsOf 48 = .ok (.iconst 0, 1) := by decide +kernel
theorem dX0_digitsOf_49 : decode cX0_digitsOf 49 = .ok (.ireturn, 1) := by decide +kernel
theorem dX0_isDigitFor_0 : decode cX0_isDigitFor 0 = .ok (.iload_n 0, 1) := by decide +kernel
theorem dX0_isDigitFor_1 : decode cX0_isDigitFor 1 = .ok (.bipush 114, 2) := by decide +kernel
theorem dX0_isDigitFor_3 : decode cX0_isDigitFor 3 = .ok (.if_icmp .ne 21, 3) := by decide +kernel
theorem dX0_isDigitFor_6 : decode cX0_isDigitFor 6 = .ok (.iload_n 2, 1) := by decide +kernel
theorem dX0_isDigitFor_7 : decode cX0_isDigitFor 7 = .ok (.bipush 49, 2) := by decide +kernel
theorem dX0_isDigitFor_9 : decode cX0_isDigitFor 9 = .ok (.if_icmp .lt 13, 3) := by decide +kernel
theorem dX0_isDigitFor_12 : decode cX0_isDigitFor 12 = .ok (.iload_n 2, 1) := by decide +kernel
theorem dX0_isDigitFor_13 : decode cX0_isDigitFor 13 = .ok (.bipush 57, 2) := by decide +kernel
theorem dX0_isDigitFor_15 : decode cX0_isDigitFor 15 = .ok (.if_icmp .gt 7, 3) := by decide +kernel
theorem dX0_isDigitFor_18 : decode cX0_isDigitFor 18 = .ok (.iconst 1, 1) := by decide +kernel
theorem dX0_isDigitFor_19 : decode cX0_isDigitFor 19 = .ok (.goto 4, 3) := by decide +kernel
theorem dX0_isDigitFor_22 : decode cX0_isDigitFor 22 = .ok (.iconst 0, 1) := by decide +kernel
theorem dX0_isDigitFor_23 : decode cX0_isDigitFor 23 = .ok (.ireturn, 1) := by decide +kernel
theorem dX0_isDigitFor_24 : decode cX0_isDigitFor 24 = .ok (.iload_n 0, 1) := by decide +kernel
theorem dX0_isDigitFor_25 : decode cX0_isDigitFor 25 = .ok (.bipush 112, 2) := by decide +kernel
theorem dX0_isDigitFor_27 : decode cX0_isDigitFor 27 = .ok (.if_icmp .ne 13, 3) := by decide +kernel
theorem dX0_isDigitFor_30 : decode cX0_isDigitFor 30 = .ok (.iload_n 1, 1) := by decide +kernel
theorem dX0_isDigitFor_31 : decode cX0_isDigitFor 31 = .ok (.iconst 2, 1) := by decide +kernel
theorem dX0_isDigitFor_32 : decode cX0_isDigitFor 32 = .ok (.if_icmp .ne 8, 3) := by decide +kernel
theorem dX0_isDigitFor_35 : decode cX0_isDigitFor 35 = .ok (.bipush 51, 2) := by decide +kernel
theorem dX0_isDigitFor_37 : decode cX0_isDigitFor 37 = .ok (.goto 5, 3) := by decide +kernel
theorem dX0_isDigitFor_40 : decode cX0_isDigitFor 40 = .ok (.bipush 55, 2) := by decide +kernel
theorem dX0_isDigitFor_42 : decode cX0_isDigitFor 42 = .ok (.istore_n 3, 1) := by decide +kernel
theorem dX0_isDigitFor_43 : decode cX0_isDigitFor 43 = .ok (.iload_n 2, 1) := by decide +kernel
theorem dX0_isDigitFor_44 : decode cX0_isDigitFor 44 = .ok (.bipush 48, 2) := by decide +kernel
theorem dX0_isDigitFor_46 : decode cX0_isDigitFor 46 = .ok (.if_icmp .lt 12, 3) := by decide +kernel
theorem dX0_isDigitFor_49 : decode cX0_isDigitFor 49 = .ok (.iload_n 2, 1) := by decide +kernel
theorem dX0_isDigitFor_50 : decode cX0_isDigitFor 50 = .ok (.iload_n 3, 1) := by decide +kernel
theorem dX0_isDigitFor_51 : decode cX0_isDigitFor 51 = .ok (.if_icmp .gt 7, 3) := by decide +kernel
theorem dX0_isDigitFor_54 : decode cX0_isDigitFor 54 = .ok (.iconst 1, 1) := by decide +kernel
theorem dX0_isDigitFor_55 : decode cX0_isDigitFor 55 = .ok (.goto 4, 3) := by decide +kernel
theorem dX0_isDigitFor_58 : decode cX0_isDigitFor 58 = .ok (.iconst 0, 1) := by decide +kernel
theorem dX0_isDigitFor_59 : decode cX0_isDigitFor 59 = .ok (.ireturn, 1) := by decide +kernel
theorem dX1_init_0 : decode cX1_init 0 = .ok (.aload_n 0, 1) := by decide +kernel
theorem dX1_init_1 : decode cX1_init 1 = .ok (.invokespecial 3, 3) := by decide +kernel
theorem dX1_init_4 : decode cX1_init 4 = .ok (.aload_n 0, 1) := by decide +kernel
theorem dX1_init_5 : decode cX1_init 5 = .ok (.bipush 8, 2) := by decide +kernel
theorem dX1_init_7 : decode cX1_init 7 = .ok (.newarray .int, 2) := by decide +kernel
theorem dX1_init_9 : decode cX1_init 9 = .ok (.putfield 9, 3) := by decide +kernel
theorem dX1_init_12 : decode cX1_init 12 = .ok (.aload_n 0, 1) := by decide +kernel
theorem dX1_init_13 : decode cX1_init 13 = .ok (.bipush 64, 2) := by decide +kernel
theorem dX1_init_15 : decode cX1_init 15 = .ok (.newarray .int, 2) := by decide +kernel
theorem dX1_init_17 : decode cX1_init 17 = .ok (.putfield 15, 3) := by decide +kernel
theorem dX1_init_20 : decode cX1_init 20 = .ok (.aload_n 0, 1) := by decide +kernel
theorem dX1_init_21 : decode cX1_init 21 = .ok (.bipush 64, 2) := by decide +kernel
theorem dX1_init_23 : decode cX1_init 23 = .ok (.newarray .int, 2) := by decide +kernel
theorem dX1_init_25 : decode cX1_init 25 = .ok (.putfield 18, 3) := by decide +kernel
theorem dX1_init_28 : decode cX1_init 28 = .ok (.aload_n 0, 1) := by decide +kernel
theorem dX1_init_29 : decode cX1_init 29 = .ok (.bipush 64, 2) := by decide +kernel
theorem dX1_init_31 : decode cX1_init 31 = .ok (.newarray .int, 2) := by decide +kernel
theorem dX1_init_33 : decode cX1_init 33 = .ok (.putfield 21, 3) := by decide +kernel
theorem dX1_init_36 : decode cX1_init 36 = .ok (.aload_n 0, 1) := by decide +kernel
theorem dX1_init_37 : decode cX1_init 37 = .ok (.bipush 64, 2) := by decide +kernel
theorem dX1_init_39 : decode cX1_init 39 = .ok (.newarray .int, 2) := by decide +kernel
theorem dX1_init_41 : decode cX1_init 41 = .ok (.putfield 24, 3) := by decide +kernel
theorem dX1_init_44 : decode cX1_init 44 = .ok (.aload_n 0, 1) := by decide +kernel
theorem dX1_init_45 : decode cX1_init 45 = .ok (.iconst 3, 1) := by decide +kernel
theorem dX1_init_46 : decode cX1_init 46 = .ok (.putfield 27, 3) := by decide +kernel
theorem dX1_init_49 : decode cX1_init 49 = .ok (.aload_n 0, 1) := by decide +kernel
theorem dX1_init_50 : decode cX1_init 50 = .ok (.iconst 3, 1) := by decide +kernel
theorem dX1_init_51 : decode cX1_init 51 = .ok (.putfield 31, 3) := by decide +kernel
theorem dX1_init_54 : decode cX1_init 54 = .ok (.return_, 1) := by decide +kernel
theorem dX1_endQuiet_0 : decode cX1_endQuiet 0 = .ok (.aload_n 0, 1) := by decide +kernel
theorem dX1_endQuiet_1 : decode cX1_endQuiet 1 = .ok (.aload_n 0, 1) := by decide +kernel
theorem dX1_endQuiet_2 : decode cX1_endQuiet 2 = .ok (.getfield 34, 3) := by decide +kernel
theorem dX1_endQuiet_5 : decode cX1_endQuiet 5 = .ok (.putfield 37, 3) := by decide +kernel
theorem dX1_endQuiet_8 : decode cX1_endQuiet 8 = .ok (.return_, 1) := by decide +kernel
set_option maxRecDepth 20000 in
theorem ggX1_forgetAll_X4_pair : GoodIn wsX1_forgetAll wsX4_pair := goodIn_r _ [7] (by decide +kernel) (by decide +kernel)
set_option maxRecDepth 20000 in
theorem gX1_forgetAll_X4_pair_n40 : GoodIn wsX1_forgetAll (wsX4_pair) := ggX1_forgetAll_X4_pair
theorem dX1_forgetAll_0 : decode cX1_forgetAll 0 = .ok (.iconst 0, 1) := by decide +kernel
theorem dX1_forgetAll_1 : decode cX1_forgetAll 1 = .ok (.istore_n 2, 1) := by decide +kernel
theorem dX1_forgetAll_2 : decode cX1_forgetAll 2 = .ok (.iload_n 2, 1) := by decide +kernel
theorem dX1_forgetAll_3 : decode cX1_forgetAll 3 = .ok (.bipush 8, 2) := by decide +kernel
theorem dX1_forgetAll_5 : decode cX1_forgetAll 5 = .ok (.if_icmp .ge 42, 3) := by decide +kernel
theorem dX1_forgetAll_8 : decode cX1_forgetAll 8 = .ok (.aload_n 0, 1) := by decide +kernel
theorem dX1_forgetAll_9 : decode cX1_forgetAll 9 = .ok (.getfield 15, 3) := by decide +kernel
theorem dX1_forgetAll_12 : decode cX1_forgetAll 12 = .ok (.iload_n 1, 1) := by decide +kernel
theorem dX1_forgetAll_13 : decode cX1_forgetAll 13 = .ok (.iload_n 2, 1) := by decide +kernel
theorem dX1_forgetAll_14 : decode cX1_forgetAll 14 = .ok (.invokestatic 40, 3) := by decide +kernel
theorem dX1_forgetAll_17 : decode cX1_forgetAll 17 = .ok (.iconst 0, 1) := by decide +kernel
theorem dX1_forgetAll_18 : decode cX1_forgetAll 18 = .ok (.iastore, 1) := by decide +kernel
theorem dX1_forgetAll_19 : decode cX1_forgetAll 19 = .ok (.aload_n 0, 1) := by decide +kernel
theorem dX1_forgetAll_20 : decode cX1_forgetAll 20 = .ok (.getfield 18, 3) := by decide +kernel
theorem dX1_forgetAll_23 : decode cX1_forgetAll 23 = .ok (.iload_n 1, 1) := by decide +kernel
theorem dX1_forgetAll_24 : decode cX1_forgetAll 24 = .ok (.iload_n 2, 1) := by decide +kernel
theorem dX1_forgetAll_25 : decode cX1_forgetAll 25 = .ok (.invokestatic 40, 3) := by decide +kernel
theorem dX1_forgetAll_28 : decode cX1_forgetAll 28 = .ok (.iconst 0, 1) := by decide +kernel
theorem dX1_forgetAll_29 : decode cX1_forgetAll 29 = .ok (.iastore, 1) := by decide +kernel
theorem dX1_forgetAll_30 : decode cX1_forgetAll 30 = .ok (.aload_n 0, 1) := by decide +kernel
theorem dX1_forgetAll_31 : decode cX1_forgetAll 31 = .ok (.getfield 24, 3) := by decide +kernel
theorem dX1_forgetAll_34 : decode cX1_forgetAll 34 = .ok (.iload_n 1, 1) := by decide +kernel
theorem dX1_forgetAll_35 : decode cX1_forgetAll 35 = .ok (.iload_n 2, 1) := by decide +kernel
theorem dX1_forgetAll_36 : decode cX1_forgetAll 36 = .ok (.invokestatic 40, 3) := by decide +kernel
theorem dX1_forgetAll_39 : decode cX1_forgetAll 39 = .ok (.iconst 0, 1) := by decide +kernel
theorem dX1_forgetAll_40 : decode cX1_forgetAll 40 = .ok (.iastore, 1) := by decide +kernel
theorem dX1_forgetAll_41 : decode cX1_forgetAll 41 = .ok (.iinc 2 1, 3) := by decide +kernel
theorem dX1_forgetAll_44 : decode cX1_forgetAll 44 = .ok (.goto (-42), 3) := by decide +kernel
theorem dX1_forgetAll_47 : decode cX1_forgetAll 47 = .ok (.aload_n 0, 1) := by decide +kernel
theorem dX1_forgetAll_48 : decode cX1_forgetAll 48 = .ok (.getfield 24, 3) := by decide +kernel
theorem dX1_forgetAll_51 : decode cX1_forgetAll 51 = .ok (.iload_n 1, 1) := by decide +kernel
theorem dX1_forgetAll_52 : decode cX1_forgetAll 52 = .ok (.iload_n 1, 1) := by decide +kernel
theorem dX1_forgetAll_53 : decode cX1_forgetAll 53 = .ok (.invokestatic 40, 3) := by decide +kernel
theorem dX1_forgetAll_56 : decode cX1_forgetAll 56 = .ok (.aload_n 0, 1) := by decide +kernel
theorem dX1_forgetAll_57 : decode cX1_forgetAll 57 = .ok (.getfield 31, 3) := by decide +kernel
theorem dX1_forgetAll_60 : decode cX1_forgetAll 60 = .ok (.iastore, 1) := by decide +kernel
theorem dX1_forgetAll_61 : decode cX1_forgetAll 61 = .ok (.return_, 1) := by decide +kernel
set_option maxRecDepth 20000 in
theorem ggX1_takeIn_X4_pair : GoodIn wsX1_takeIn wsX4_pair := goodIn_r _ [7] (by decide +kernel) (by decide +kernel)
set_option maxRecDepth 20000 in
theorem gX1_takeIn_X4_pair_n40 : GoodIn wsX1_takeIn (wsX4_pair) := ggX1_takeIn_X4_pair
set_option maxRecDepth 20000 in
theorem ggX1_takeIn_X1_outweighs : GoodIn wsX1_takeIn wsX1_outweighs := goodIn_ca (goodIn_r _ [12, 13, 14, 27, 28, 29, 30, 31, 32, 33, 34, 35, 36] (by decide +kernel) (by decide +kernel)) (goodIn_sub (fun _ h => List.mem_cons_of_mem _ (List.mem_append_right _ h)) (by decide +kernel))
set_option maxRecDepth 20000 in
theorem gX1_takeIn_X1_outweighs : GoodIn wsX1_takeIn (wsV RX1 47 RX1 yX1_outweighs wsX1_outweighs) := goodIn_app (goodIn_of _ (by decide +kernel)) ggX1_takeIn_X1_outweighs
set_option maxRecDepth 20000 in
theorem ggX1_takeIn_X1_replaceView : GoodIn wsX1_takeIn wsX1_replaceView := goodIn_ca (goodIn_r _ [18, 13, 14, 19, 20, 21, 27, 28, 29, 30, 31, 32, 33, 34, 35, 36] (by decide +kernel) (by decide +kernel)) (goodIn_sub (fun _ h => List.mem_cons_of_mem _ (List.mem_append_right _ h)) (by decide +kernel))
set_option maxRecDepth 20000 in
theorem gX1_takeIn_X1_replaceView : GoodIn wsX1_takeIn (wsV RX1 51 RX1 yX1_replaceView wsX1_replaceView) := goodIn_app (goodIn_of _ (by decide +kernel)) ggX1_takeIn_X1_replaceView
set_option maxRecDepth 20000 in
theorem ggX1_takeIn_X1_endQuiet : GoodIn wsX1_takeIn wsX1_endQuiet := goodIn_r _ [25, 20, 26, 27, 28, 29, 30, 31, 32, 33, 34, 35, 36] (by decide +kernel) (by decide +kernel)
set_option maxRecDepth 20000 in
theorem gX1_takeIn_X1_endQuiet : GoodIn wsX1_takeIn (wsV RX1 55 RX1 yX1_endQuiet wsX1_endQuiet) := goodIn_app (goodIn_of _ (by decide +kernel)) ggX1_takeIn_X1_endQuiet
theorem dX1_takeIn_0 : decode cX1_takeIn 0 = .ok (.iload_n 1, 1) := by decide +kernel
theorem dX1_takeIn_1 : decode cX1_takeIn 1 = .ok (.iload_n 2, 1) := by decide +kernel
theorem dX1_takeIn_2 : decode cX1_takeIn 2 = .ok (.invokestatic 40, 3) := by decide +kernel
theorem dX1_takeIn_5 : decode cX1_takeIn 5 = .ok (.istore 5, 2) := by decide +kernel
theorem dX1_takeIn_7 : decode cX1_takeIn 7 = .ok (.iload_n 2, 1) := by decide +kernel
theorem dX1_takeIn_8 : decode cX1_takeIn 8 = .ok (.iload_n 1, 1) := by decide +kernel
theorem dX1_takeIn_9 : decode cX1_takeIn 9 = .ok (.if_icmp .ne 44, 3) := by decide +kernel
theorem dX1_takeIn_12 : decode cX1_takeIn 12 = .ok (.iload_n 3, 1) := by decide +kernel
theorem dX1_takeIn_13 : decode cX1_takeIn 13 = .ok (.iconst 1, 1) := by decide +kernel
theorem dX1_takeIn_14 : decode cX1_takeIn 14 = .ok (.if_icmp .eq 14, 3) := by decide +kernel
theorem dX1_takeIn_17 : decode cX1_takeIn 17 = .ok (.iload 4, 2) := by decide +kernel
theorem dX1_takeIn_19 : decode cX1_takeIn 19 = .ok (.aload_n 0, 1) := by decide +kernel
theorem dX1_takeIn_20 : decode cX1_takeIn 20 = .ok (.getfield 9, 3) := by decide +kernel
theorem dX1_takeIn_23 : decode cX1_takeIn 23 = .ok (.iload_n 1, 1) := by decide +kernel
theorem dX1_takeIn_24 : decode cX1_takeIn 24 = .ok (.iaload, 1) := by decide +kernel
theorem dX1_takeIn_25 : decode cX1_takeIn 25 = .ok (.if_icmp .ge 5, 3) := by decide +kernel
theorem dX1_takeIn_28 : decode cX1_takeIn 28 = .ok (.iconst 0, 1) := by decide +kernel
theorem dX1_takeIn_29 : decode cX1_takeIn 29 = .ok (.ireturn, 1) := by decide +kernel
theorem dX1_takeIn_30 : decode cX1_takeIn 30 = .ok (.aload_n 0, 1) := by decide +kernel
theorem dX1_takeIn_31 : decode cX1_takeIn 31 = .ok (.getfield 9, 3) := by decide +kernel
theorem dX1_takeIn_34 : decode cX1_takeIn 34 = .ok (.iload_n 1, 1) := by decide +kernel
theorem dX1_takeIn_35 : decode cX1_takeIn 35 = .ok (.iload 4, 2) := by decide +kernel
theorem dX1_takeIn_37 : decode cX1_takeIn 37 = .ok (.iconst 1, 1) := by decide +kernel
theorem dX1_takeIn_38 : decode cX1_takeIn 38 = .ok (.iadd, 1) := by decide +kernel
theorem dX1_takeIn_39 : decode cX1_takeIn 39 = .ok (.iastore, 1) := by decide +kernel
theorem dX1_takeIn_40 : decode cX1_takeIn 40 = .ok (.aload_n 0, 1) := by decide +kernel
theorem dX1_takeIn_41 : decode cX1_takeIn 41 = .ok (.dup, 1) := by decide +kernel
theorem dX1_takeIn_42 : decode cX1_takeIn 42 = .ok (.getfield 44, 3) := by decide +kernel
theorem dX1_takeIn_45 : decode cX1_takeIn 45 = .ok (.iconst 1, 1) := by decide +kernel
theorem dX1_takeIn_46 : decode cX1_takeIn 46 = .ok (.iadd, 1) := by decide +kernel
theorem dX1_takeIn_47 : decode cX1_takeIn 47 = .ok (.putfield 44, 3) := by decide +kernel
theorem dX1_takeIn_50 : decode cX1_takeIn 50 = .ok (.goto 26, 3) := by decide +kernel
theorem dX1_takeIn_53 : decode cX1_takeIn 53 = .ok (.aload_n 0, 1) := by decide +kernel
theorem dX1_takeIn_54 : decode cX1_takeIn 54 = .ok (.iload 5, 2) := by decide +kernel
theorem dX1_takeIn_56 : decode cX1_takeIn 56 = .ok (.iload_n 3, 1) := by decide +kernel
theorem dX1_takeIn_57 : decode cX1_takeIn 57 = .ok (.iload 4, 2) := by decide +kernel
theorem dX1_takeIn_59 : decode cX1_takeIn 59 = .ok (.invokevirtual 47, 3) := by decide +kernel
theorem dX1_takeIn_62 : decode cX1_takeIn 62 = .ok (.ifCond .ne 5, 3) := by decide +kernel
theorem dX1_takeIn_65 : decode cX1_takeIn 65 = .ok (.iconst 0, 1) := by decide +kernel
theorem dX1_takeIn_66 : decode cX1_takeIn 66 = .ok (.ireturn, 1) := by decide +kernel
theorem dX1_takeIn_67 : decode cX1_takeIn 67 = .ok (.aload_n 0, 1) := by decide +kernel
theorem dX1_takeIn_68 : decode cX1_takeIn 68 = .ok (.iload 5, 2) := by decide +kernel
theorem dX1_takeIn_70 : decode cX1_takeIn 70 = .ok (.iload_n 3, 1) := by decide +kernel
theorem dX1_takeIn_71 : decode cX1_takeIn 71 = .ok (.iload 4, 2) := by decide +kernel
theorem dX1_takeIn_73 : decode cX1_takeIn 73 = .ok (.invokevirtual 51, 3) := by decide +kernel
theorem dX1_takeIn_76 : decode cX1_takeIn 76 = .ok (.aload_n 0, 1) := by decide +kernel
theorem dX1_takeIn_77 : decode cX1_takeIn 77 = .ok (.getfield 24, 3) := by decide +kernel
theorem dX1_takeIn_80 : decode cX1_takeIn 80 = .ok (.iload 5, 2) := by decide +kernel
theorem dX1_takeIn_82 : decode cX1_takeIn 82 = .ok (.aload_n 0, 1) := by decide +kernel
theorem dX1_takeIn_83 : decode cX1_takeIn 83 = .ok (.getfield 31, 3) := by decide +kernel
theorem dX1_takeIn_86 : decode cX1_takeIn 86 = .ok (.iastore, 1) := by decide +kernel
theorem dX1_takeIn_87 : decode cX1_takeIn 87 = .ok (.aload_n 0, 1) := by decide +kernel
theorem dX1_takeIn_88 : decode cX1_takeIn 88 = .ok (.invokevirtual 55, 3) := by decide +kernel
theorem dX1_takeIn_91 : decode cX1_takeIn 91 = .ok (.iconst 1, 1) := by decide +kernel
theorem dX1_takeIn_92 : decode cX1_takeIn 92 = .ok (.ireturn, 1) := by decide +kernel
theorem dX1_outweighs_0 : decode cX1_outweighs 0 = .ok (.aload_n 0, 1) := by decide +kernel
theorem dX1_outweighs_1 : decode cX1_outweighs 1 = .ok (.getfield 15, 3) := by decide +kernel
theorem dX1_outweighs_4 : decode cX1_outweighs 4 = .ok (.iload_n 1, 1) := by decide +kernel
theorem dX1_outweighs_5 : decode cX1_outweighs 5 = .ok (.iaload, 1) := by decide +kernel
theorem dX1_outweighs_6 : decode cX1_outweighs 6 = .ok (.ifCond .ne 5, 3) := by decide +kernel
theorem dX1_outweighs_9 : decode cX1_outweighs 9 = .ok (.iconst 1, 1) := by decide +kernel
theorem dX1_outweighs_10 : decode cX1_outweighs 10 = .ok (.ireturn, 1) := by decide +kernel
theorem dX1_outweighs_11 : decode cX1_outweighs 11 = .ok (.iload_n 3, 1) := by decide +kernel
theorem dX1_outweighs_12 : decode cX1_outweighs 12 = .ok (.aload_n 0, 1) := by decide +kernel
theorem dX1_outweighs_13 : decode cX1_outweighs 13 = .ok (.getfield 18, 3) := by decide +kernel
theorem dX1_outweighs_16 : decode cX1_outweighs 16 = .ok (.iload_n 1, 1) := by decide +kernel
theorem dX1_outweighs_17 : decode cX1_outweighs 17 = .ok (.iaload, 1) := by decide +kernel
theorem dX1_outweighs_18 : decode cX1_outweighs 18 = .ok (.if_icmp .eq 19, 3) := by decide +kernel
theorem dX1_outweighs_21 : decode cX1_outweighs 21 = .ok (.iload_n 3, 1) := by decide +kernel
theorem dX1_outweighs_22 : decode cX1_outweighs 22 = .ok (.aload_n 0, 1) := by decide +kernel
theorem dX1_outweighs_23 : decode cX1_outweighs 23 = .ok (.getfield 18, 3) := by decide +kernel
theorem dX1_outweighs_26 : decode cX1_outweighs 26 = .ok (.iload_n 1, 1) := by decide +kernel
theorem dX1_outweighs_27 : decode cX1_outweighs 27 = .ok (.iaload, 1) := by decide +kernel
theorem dX1_outweighs_28 : decode cX1_outweighs 28 = .ok (.if_icmp .le 7, 3) := by decide +kernel
theorem dX1_outweighs_31 : decode cX1_outweighs 31 = .ok (.iconst 1, 1) := by decide +kernel
theorem dX1_outweighs_32 : decode cX1_outweighs 32 = .ok (.goto 4, 3) := by decide +kernel
theorem dX1_outweighs_35 : decode cX1_outweighs 35 = .ok (.iconst 0, 1) := by decide +kernel
theorem dX1_outweighs_36 : decode cX1_outweighs 36 = .ok (.ireturn, 1) := by decide +kernel
theorem dX1_outweighs_37 : decode cX1_outweighs 37 = .ok (.iload_n 2, 1) := by decide +kernel
theorem dX1_outweighs_38 : decode cX1_outweighs 38 = .ok (.iconst 2, 1) := by decide +kernel
theorem dX1_outweighs_39 : decode cX1_outweighs 39 = .ok (.if_icmp .ne 13, 3) := by decide +kernel
theorem dX1_outweighs_42 : decode cX1_outweighs 42 = .ok (.aload_n 0, 1) := by decide +kernel
theorem dX1_outweighs_43 : decode cX1_outweighs 43 = .ok (.getfield 15, 3) := by decide +kernel
theorem dX1_outweighs_46 : decode cX1_outweighs 46 = .ok (.iload_n 1, 1) := by decide +kernel
theorem dX1_outweighs_47 : decode cX1_outweighs 47 = .ok (.iaload, 1) := by decide +kernel
theorem dX1_outweighs_48 : decode cX1_outweighs 48 = .ok (.iconst 1, 1) := by decide +kernel
theorem dX1_outweighs_49 : decode cX1_outweighs 49 = .ok (.if_icmp .eq 18, 3) := by decide +kernel
theorem dX1_outweighs_52 : decode cX1_outweighs 52 = .ok (.iload_n 2, 1) := by decide +kernel
theorem dX1_outweighs_53 : decode cX1_outweighs 53 = .ok (.iconst 3, 1) := by decide +kernel
theorem dX1_outweighs_54 : decode cX1_outweighs 54 = .ok (.if_icmp .ne 17, 3) := by decide +kernel
theorem dX1_outweighs_57 : decode cX1_outweighs 57 = .ok (.aload_n 0, 1) := by decide +kernel
theorem dX1_outweighs_58 : decode cX1_outweighs 58 = .ok (.getfield 15, 3) := by decide +kernel
theorem dX1_outweighs_61 : decode cX1_outweighs 61 = .ok (.iload_n 1, 1) := by decide +kernel
theorem dX1_outweighs_62 : decode cX1_outweighs 62 = .ok (.iaload, 1) := by decide +kernel
theorem dX1_outweighs_63 : decode cX1_outweighs 63 = .ok (.iconst 3, 1) := by decide +kernel
theorem dX1_outweighs_64 : decode cX1_outweighs 64 = .ok (.if_icmp .eq 7, 3) := by decide +kernel
theorem dX1_outweighs_67 : decode cX1_outweighs 67 = .ok (.iconst 1, 1) := by decide +kernel
theorem dX1_outweighs_68 : decode cX1_outweighs 68 = .ok (.goto 4, 3) := by decide +kernel
theorem dX1_outweighs_71 : decode cX1_outweighs 71 = .ok (.iconst 0, 1) := by decide +kernel
theorem dX1_outweighs_72 : decode cX1_outweighs 72 = .ok (.ireturn, 1) := by decide +kernel
theorem dX1_replaceView_0 : decode cX1_replaceView 0 = .ok (.aload_n 0, 1) := by decide +kernel
theorem dX1_replaceView_1 : decode cX1_replaceView 1 = .ok (.getfield 15, 3) := by decide +kernel
theorem dX1_replaceView_4 : decode cX1_replaceView 4 = .ok (.iload_n 1, 1) := by decide +kernel
theorem dX1_replaceView_5 : decode cX1_replaceView 5 = .ok (.iload_n 2, 1) := by decide +kernel
theorem dX1_replaceView_6 : decode cX1_replaceView 6 = .ok (.iastore, 1) := by decide +kernel
theorem dX1_replaceView_7 : decode cX1_replaceView 7 = .ok (.aload_n 0, 1) := by decide +kernel
theorem dX1_replaceView_8 : decode cX1_replaceView 8 = .ok (.getfield 18, 3) := by decide +kernel
theorem dX1_replaceView_11 : decode cX1_replaceView 11 = .ok (.iload_n 1, 1) := by decide +kernel
theorem dX1_replaceView_12 : decode cX1_replaceView 12 = .ok (.iload_n 3, 1) := by decide +kernel
theorem dX1_replaceView_13 : decode cX1_replaceView 13 = .ok (.iastore, 1) := by decide +kernel
theorem dX1_replaceView_14 : decode cX1_replaceView 14 = .ok (.iload_n 2, 1) := by decide +kernel
theorem dX1_replaceView_15 : decode cX1_replaceView 15 = .ok (.iconst 2, 1) := by decide +kernel
theorem dX1_replaceView_16 : decode cX1_replaceView 16 = .ok (.if_icmp .ne 18, 3) := by decide +kernel
theorem dX1_replaceView_19 : decode cX1_replaceView 19 = .ok (.aload_n 0, 1) := by decide +kernel
theorem dX1_replaceView_20 : decode cX1_replaceView 20 = .ok (.getfield 21, 3) := by decide +kernel
theorem dX1_replaceView_23 : decode cX1_replaceView 23 = .ok (.iload_n 1, 1) := by decide +kernel
theorem dX1_replaceView_24 : decode cX1_replaceView 24 = .ok (.aload_n 0, 1) := by decide +kernel
theorem dX1_replaceView_25 : decode cX1_replaceView 25 = .ok (.getfield 34, 3) := by decide +kernel
theorem dX1_replaceView_28 : decode cX1_replaceView 28 = .ok (.aload_n 0, 1) := by decide +kernel
theorem dX1_replaceView_29 : decode cX1_replaceView 29 = .ok (.getfield 27, 3) := by decide +kernel
theorem dX1_replaceView_32 : decode cX1_replaceView 32 = .ok (.iadd, 1) := by decide +kernel
theorem dX1_replaceView_33 : decode cX1_replaceView 33 = .ok (.iastore, 1) := by decide +kernel
theorem dX1_replaceView_34 : decode cX1_replaceView 34 = .ok (.return_, 1) := by decide +kernel
set_option maxRecDepth 20000 in
theorem ggX1_toldState_X4_pair : GoodIn wsX1_toldState wsX4_pair := goodIn_r _ [4] (by decide +kernel) (by decide +kernel)
set_option maxRecDepth 20000 in
theorem gX1_toldState_X4_pair_n40 : GoodIn wsX1_toldState (wsX4_pair) := ggX1_toldState_X4_pair
theorem dX1_toldState_0 : decode cX1_toldState 0 = .ok (.iload_n 2, 1) := by decide +kernel
theorem dX1_toldState_1 : decode cX1_toldState 1 = .ok (.iload_n 1, 1) := by decide +kernel
theorem dX1_toldState_2 : decode cX1_toldState 2 = .ok (.if_icmp .ne 7, 3) := by decide +kernel
theorem dX1_toldState_5 : decode cX1_toldState 5 = .ok (.iconst 1, 1) := by decide +kernel
theorem dX1_toldState_6 : decode cX1_toldState 6 = .ok (.goto 13, 3) := by decide +kernel
theorem dX1_toldState_9 : decode cX1_toldState 9 = .ok (.aload_n 0, 1) := by decide +kernel
theorem dX1_toldState_10 : decode cX1_toldState 10 = .ok (.getfield 15, 3) := by decide +kernel
theorem dX1_toldState_13 : decode cX1_toldState 13 = .ok (.iload_n 1, 1) := by decide +kernel
theorem dX1_toldState_14 : decode cX1_toldState 14 = .ok (.iload_n 2, 1) := by decide +kernel
theorem dX1_toldState_15 : decode cX1_toldState 15 = .ok (.invokestatic 40, 3) := by decide +kernel
theorem dX1_toldState_18 : decode cX1_toldState 18 = .ok (.iaload, 1) := by decide +kernel
theorem dX1_toldState_19 : decode cX1_toldState 19 = .ok (.ireturn, 1) := by decide +kernel
set_option maxRecDepth 20000 in
theorem ggX1_toldIncarnation_X4_pair : GoodIn wsX1_toldIncarnation wsX4_pair := goodIn_r _ [5] (by decide +kernel) (by decide +kernel)
set_option maxRecDepth 20000 in
theorem gX1_toldIncarnation_X4_pair_n40 : GoodIn wsX1_toldIncarnation (wsX4_pair) := ggX1_toldIncarnation_X4_pair
theorem dX1_toldIncarnation_0 : decode cX1_toldIncarnation 0 = .ok (.iload_n 2, 1) := by decide +kernel
theorem dX1_toldIncarnation_1 : decode cX1_toldIncarnation 1 = .ok (.iload_n 1, 1) := by decide +kernel
theorem dX1_toldIncarnation_2 : decode cX1_toldIncarnation 2 = .ok (.if_icmp .ne 12, 3) := by decide +kernel
theorem dX1_toldIncarnation_5 : decode cX1_toldIncarnation 5 = .ok (.aload_n 0, 1) := by decide +kernel
theorem dX1_toldIncarnation_6 : decode cX1_toldIncarnation 6 = .ok (.getfield 9, 3) := by decide +kernel
theorem dX1_toldIncarnation_9 : decode cX1_toldIncarnation 9 = .ok (.iload_n 1, 1) := by decide +kernel
theorem dX1_toldIncarnation_10 : decode cX1_toldIncarnation 10 = .ok (.iaload, 1) := by decide +kernel
theorem dX1_toldIncarnation_11 : decode cX1_toldIncarnation 11 = .ok (.goto 13, 3) := by decide +kernel
theorem dX1_toldIncarnation_14 : decode cX1_toldIncarnation 14 = .ok (.aload_n 0, 1) := by decide +kernel
theorem dX1_toldIncarnation_15 : decode cX1_toldIncarnation 15 = .ok (.getfield 18, 3) := by decide +kernel
theorem dX1_toldIncarnation_18 : decode cX1_toldIncarnation 18 = .ok (.iload_n 1, 1) := by decide +kernel
theorem dX1_toldIncarnation_19 : decode cX1_toldIncarnation 19 = .ok (.iload_n 2, 1) := by decide +kernel
theorem dX1_toldIncarnation_20 : decode cX1_toldIncarnation 20 = .ok (.invokestatic 40, 3) := by decide +kernel
theorem dX1_toldIncarnation_23 : decode cX1_toldIncarnation 23 = .ok (.iaload, 1) := by decide +kernel
theorem dX1_toldIncarnation_24 : decode cX1_toldIncarnation 24 = .ok (.ireturn, 1) := by decide +kernel
set_option maxRecDepth 20000 in
theorem ggX1_nodesInState_X4_pair : GoodIn wsX1_nodesInState wsX4_pair := goodIn_r _ [4] (by decide +kernel) (by decide +kernel)
set_option maxRecDepth 20000 in
theorem gX1_nodesInState_X4_pair_n40 : GoodIn wsX1_nodesInState (wsX4_pair) := ggX1_nodesInState_X4_pair
theorem dX1_nodesInState_0 : decode cX1_nodesInState 0 = .ok (.iconst 0, 1) := by decide +kernel
theorem dX1_nodesInState_1 : decode cX1_nodesInState 1 = .ok (.istore_n 3, 1) := by decide +kernel
theorem dX1_nodesInState_2 : decode cX1_nodesInState 2 = .ok (.iconst 0, 1) := by decide +kernel
theorem dX1_nodesInState_3 : decode cX1_nodesInState 3 = .ok (.istore 4, 2) := by decide +kernel
theorem dX1_nodesInState_5 : decode cX1_nodesInState 5 = .ok (.iload 4, 2) := by decide +kernel
theorem dX1_nodesInState_7 : decode cX1_nodesInState 7 = .ok (.bipush 8, 2) := by decide +kernel
theorem dX1_nodesInState_9 : decode cX1_nodesInState 9 = .ok (.if_icmp .ge 31, 3) := by decide +kernel
theorem dX1_nodesInState_12 : decode cX1_nodesInState 12 = .ok (.aload_n 0, 1) := by decide +kernel
theorem dX1_nodesInState_13 : decode cX1_nodesInState 13 = .ok (.getfield 15, 3) := by decide +kernel
theorem dX1_nodesInState_16 : decode cX1_nodesInState 16 = .ok (.iload_n 1, 1) := by decide +kernel
theorem dX1_nodesInState_17 : decode cX1_nodesInState 17 = .ok (.iload 4, 2) := by decide +kernel
theorem dX1_nodesInState_19 : decode cX1_nodesInState 19 = .ok (.invokestatic 40, 3) := by decide +kernel
theorem dX1_nodesInState_22 : decode cX1_nodesInState 22 = .ok (.iaload, 1) := by decide +kernel
theorem dX1_nodesInState_23 : decode cX1_nodesInState 23 = .ok (.iload_n 2, 1) := by decide +kernel
theorem dX1_nodesInState_24 : decode cX1_nodesInState 24 = .ok (.if_icmp .ne 10, 3) := by decide +kernel
theorem dX1_nodesInState_27 : decode cX1_nodesInState 27 = .ok (.iload_n 3, 1) := by decide +kernel
theorem dX1_nodesInState_28 : decode cX1_nodesInState 28 = .ok (.iconst 1, 1) := by decide +kernel
theorem dX1_nodesInState_29 : decode cX1_nodesInState 29 = .ok (.iload 4, 2) := by decide +kernel
theorem dX1_nodesInState_31 : decode cX1_nodesInState 31 = .ok (.ishl, 1) := by decide +kernel
theorem dX1_nodesInState_32 : decode cX1_nodesInState 32 = .ok (.ior, 1) := by decide +kernel
theorem dX1_nodesInState_33 : decode cX1_nodesInState 33 = .ok (.istore_n 3, 1) := by decide +kernel
theorem dX1_nodesInState_34 : decode cX1_nodesInState 34 = .ok (.iinc 4 1, 3) := by decide +kernel
theorem dX1_nodesInState_37 : decode cX1_nodesInState 37 = .ok (.goto (-32), 3) := by decide +kernel
theorem dX1_nodesInState_40 : decode cX1_nodesInState 40 = .ok (.iload_n 3, 1) := by decide +kernel
theorem dX1_nodesInState_41 : decode cX1_nodesInState 41 = .ok (.ireturn, 1) := by decide +kernel
set_option maxRecDepth 20000 in
theorem ggX1_mostUrgent_X4_pair : GoodIn wsX1_mostUrgent wsX4_pair := goodIn_r _ [4] (by decide +kernel) (by decide +kernel)
set_option maxRecDepth 20000 in
theorem gX1_mostUrgent_X4_pair_n40 : GoodIn wsX1_mostUrgent (wsX4_pair) := ggX1_mostUrgent_X4_pair
theorem dX1_mostUrgent_0 : decode cX1_mostUrgent 0 = .ok (.iconst (-1), 1) := by decide +kernel
theorem dX1_mostUrgent_1 : decode cX1_mostUrgent 1 = .ok (.istore_n 3, 1) := by decide +kernel
theorem dX1_mostUrgent_2 : decode cX1_mostUrgent 2 = .ok (.iconst 0, 1) := by decide +kernel
theorem dX1_mostUrgent_3 : decode cX1_mostUrgent 3 = .ok (.istore 4, 2) := by decide +kernel
theorem dX1_mostUrgent_5 : decode cX1_mostUrgent 5 = .ok (.iconst 0, 1) := by decide +kernel
theorem dX1_mostUrgent_6 : decode cX1_mostUrgent 6 = .ok (.istore 5, 2) := by decide +kernel
theorem dX1_mostUrgent_8 : decode cX1_mostUrgent 8 = .ok (.iload 5, 2) := by decide +kernel
theorem dX1_mostUrgent_10 : decode cX1_mostUrgent 10 = .ok (.bipush 8, 2) := by decide +kernel
theorem dX1_mostUrgent_12 : decode cX1_mostUrgent 12 = .ok (.if_icmp .ge 45, 3) := by decide +kernel
theorem dX1_mostUrgent_15 : decode cX1_mostUrgent 15 = .ok (.aload_n 0, 1) := by decide +kernel
theorem dX1_mostUrgent_16 : decode cX1_mostUrgent 16 = .ok (.getfield 24, 3) := by decide +kernel
theorem dX1_mostUrgent_19 : decode cX1_mostUrgent 19 = .ok (.iload_n 1, 1) := by decide +kernel
theorem dX1_mostUrgent_20 : decode cX1_mostUrgent 20 = .ok (.iload 5, 2) := by decide +kernel
theorem dX1_mostUrgent_22 : decode cX1_mostUrgent 22 = .ok (.invokestatic 40, 3) := by decide +kernel
theorem dX1_mostUrgent_25 : decode cX1_mostUrgent 25 = .ok (.iaload, 1) := by decide +kernel
theorem dX1_mostUrgent_26 : decode cX1_mostUrgent 26 = .ok (.istore 6, 2) := by decide +kernel
theorem dX1_mostUrgent_28 : decode cX1_mostUrgent 28 = .ok (.iload_n 2, 1) := by decide +kernel
theorem dX1_mostUrgent_29 : decode cX1_mostUrgent 29 = .ok (.iload 5, 2) := by decide +kernel
theorem dX1_mostUrgent_31 : decode cX1_mostUrgent 31 = .ok (.ishr, 1) := by decide +kernel
theorem dX1_mostUrgent_32 : decode cX1_mostUrgent 32 = .ok (.iconst 1, 1) := by decide +kernel
theorem dX1_mostUrgent_33 : decode cX1_mostUrgent 33 = .ok (.iand, 1) := by decide +kernel
theorem dX1_mostUrgent_34 : decode cX1_mostUrgent 34 = .ok (.ifCond .ne 17, 3) := by decide +kernel
theorem dX1_mostUrgent_37 : decode cX1_mostUrgent 37 = .ok (.iload 6, 2) := by decide +kernel
theorem dX1_mostUrgent_39 : decode cX1_mostUrgent 39 = .ok (.iload 4, 2) := by decide +kernel
theorem dX1_mostUrgent_41 : decode cX1_mostUrgent 41 = .ok (.if_icmp .le 10, 3) := by decide +kernel
theorem dX1_mostUrgent_44 : decode cX1_mostUrgent 44 = .ok (.iload 5, 2) := by decide +kernel
theorem dX1_mostUrgent_46 : decode cX1_mostUrgent 46 = .ok (.istore_n 3, 1) := by decide +kernel
theorem dX1_mostUrgent_47 : decode cX1_mostUrgent 47 = .ok (.iload 6, 2) := by decide +kernel
theorem dX1_mostUrgent_49 : decode cX1_mostUrgent 49 = .ok (.istore 4, 2) := by decide +kernel
theorem dX1_mostUrgent_51 : decode cX1_mostUrgent 51 = .ok (.iinc 5 1, 3) := by decide +kernel
theorem dX1_mostUrgent_54 : decode cX1_mostUrgent 54 = .ok (.goto (-46), 3) := by decide +kernel
theorem dX1_mostUrgent_57 : decode cX1_mostUrgent 57 = .ok (.iload_n 3, 1) := by decide +kernel
theorem dX1_mostUrgent_58 : decode cX1_mostUrgent 58 = .ok (.ireturn, 1) := by decide +kernel
set_option maxRecDepth 20000 in
theorem ggX1_sumOfCounters_X4_pair : GoodIn wsX1_sumOfCounters wsX4_pair := goodIn_r _ [4] (by decide +kernel) (by decide +kernel)
set_option maxRecDepth 20000 in
theorem gX1_sumOfCounters_X4_pair_n40 : GoodIn wsX1_sumOfCounters (wsX4_pair) := ggX1_sumOfCounters_X4_pair
theorem dX1_sumOfCounters_0 : decode cX1_sumOfCounters 0 = .ok (.iconst 0, 1) := by decide +kernel
theorem dX1_sumOfCounters_1 : decode cX1_sumOfCounters 1 = .ok (.istore_n 2, 1) := by decide +kernel
theorem dX1_sumOfCounters_2 : decode cX1_sumOfCounters 2 = .ok (.iconst 0, 1) := by decide +kernel
theorem dX1_sumOfCounters_3 : decode cX1_sumOfCounters 3 = .ok (.istore_n 3, 1) := by decide +kernel
theorem dX1_sumOfCounters_4 : decode cX1_sumOfCounters 4 = .ok (.iload_n 3, 1) := by decide +kernel
theorem dX1_sumOfCounters_5 : decode cX1_sumOfCounters 5 = .ok (.bipush 8, 2) := by decide +kernel
theorem dX1_sumOfCounters_7 : decode cX1_sumOfCounters 7 = .ok (.if_icmp .ge 22, 3) := by decide +kernel
theorem dX1_sumOfCounters_10 : decode cX1_sumOfCounters 10 = .ok (.iload_n 2, 1) := by decide +kernel
theorem dX1_sumOfCounters_11 : decode cX1_sumOfCounters 11 = .ok (.aload_n 0, 1) := by decide +kernel
theorem dX1_sumOfCounters_12 : decode cX1_sumOfCounters 12 = .ok (.getfield 24, 3) := by decide +kernel
theorem dX1_sumOfCounters_15 : decode cX1_sumOfCounters 15 = .ok (.iload_n 1, 1) := by decide +kernel
theorem dX1_sumOfCounters_16 : decode cX1_sumOfCounters 16 = .ok (.iload_n 3, 1) := by decide +kernel
theorem dX1_sumOfCounters_17 : decode cX1_sumOfCounters 17 = .ok (.invokestatic 40, 3) := by decide +kernel
theorem dX1_sumOfCounters_20 : decode cX1_sumOfCounters 20 = .ok (.iaload, 1) := by decide +kernel
theorem dX1_sumOfCounters_21 : decode cX1_sumOfCounters 21 = .ok (.iadd, 1) := by decide +kernel
theorem dX1_sumOfCounters_22 : decode cX1_sumOfCounters 22 = .ok (.istore_n 2, 1) := by decide +kernel
theorem dX1_sumOfCounters_23 : decode cX1_sumOfCounters 23 = .ok (.iinc 3 1, 3) := by decide +kernel
theorem dX1_sumOfCounters_26 : decode cX1_sumOfCounters 26 = .ok (.goto (-22), 3) := by decide +kernel
theorem dX1_sumOfCounters_29 : decode cX1_sumOfCounters 29 = .ok (.iload_n 2, 1) := by decide +kernel
theorem dX1_sumOfCounters_30 : decode cX1_sumOfCounters 30 = .ok (.ireturn, 1) := by decide +kernel
set_option maxRecDepth 20000 in
theorem ggX1_isUpToDate_X4_pair : GoodIn wsX1_isUpToDate wsX4_pair := goodIn_r _ [6] (by decide +kernel) (by decide +kernel)
set_option maxRecDepth 20000 in
theorem gX1_isUpToDate_X4_pair_n40 : GoodIn wsX1_isUpToDate (wsX4_pair) := ggX1_isUpToDate_X4_pair
theorem dX1_isUpToDate_0 : decode cX1_isUpToDate 0 = .ok (.aload_n 0, 1) := by decide +kernel
theorem dX1_isUpToDate_1 : decode cX1_isUpToDate 1 = .ok (.getfield 15, 3) := by decide +kernel
theorem dX1_isUpToDate_4 : decode cX1_isUpToDate 4 = .ok (.iload_n 1, 1) := by decide +kernel
theorem dX1_isUpToDate_5 : decode cX1_isUpToDate 5 = .ok (.iload_n 2, 1) := by decide +kernel
theorem dX1_isUpToDate_6 : decode cX1_isUpToDate 6 = .ok (.invokestatic 40, 3) := by decide +kernel
theorem dX1_isUpToDate_9 : decode cX1_isUpToDate 9 = .ok (.iaload, 1) := by decide +kernel
theorem dX1_isUpToDate_10 : decode cX1_isUpToDate 10 = .ok (.iconst 1, 1) := by decide +kernel
theorem dX1_isUpToDate_11 : decode cX1_isUpToDate 11 = .ok (.if_icmp .ne 26, 3) := by decide +kernel
theorem dX1_isUpToDate_14 : decode cX1_isUpToDate 14 = .ok (.aload_n 0, 1) := by decide +kernel
theorem dX1_isUpToDate_15 : decode cX1_isUpToDate 15 = .ok (.getfield 18, 3) := by decide +kernel
theorem dX1_isUpToDate_18 : decode cX1_isUpToDate 18 = .ok (.iload_n 1, 1) := by decide +kernel
theorem dX1_isUpToDate_19 : decode cX1_isUpToDate 19 = .ok (.iload_n 2, 1) := by decide +kernel
theorem dX1_isUpToDate_20 : decode cX1_isUpToDate 20 = .ok (.invokestatic 40, 3) := by decide +kernel
theorem dX1_isUpToDate_23 : decode cX1_isUpToDate 23 = .ok (.iaload, 1) := by decide +kernel
theorem dX1_isUpToDate_24 : decode cX1_isUpToDate 24 = .ok (.aload_n 0, 1) := by decide +kernel
theorem dX1_isUpToDate_25 : decode cX1_isUpToDate 25 = .ok (.getfield 9, 3) := by decide +kernel
theorem dX1_isUpToDate_28 : decode cX1_isUpToDate 28 = .ok (.iload_n 2, 1) := by decide +kernel
theorem dX1_isUpToDate_29 : decode cX1_isUpToDate 29 = .ok (.iaload, 1) := by decide +kernel
theorem dX1_isUpToDate_30 : decode cX1_isUpToDate 30 = .ok (.if_icmp .ne 7, 3) := by decide +kernel
theorem dX1_isUpToDate_33 : decode cX1_isUpToDate 33 = .ok (.iconst 1, 1) := by decide +kernel
theorem dX1_isUpToDate_34 : decode cX1_isUpToDate 34 = .ok (.goto 4, 3) := by decide +kernel
theorem dX1_isUpToDate_37 : decode cX1_isUpToDate 37 = .ok (.iconst 0, 1) := by decide +kernel
theorem dX1_isUpToDate_38 : decode cX1_isUpToDate 38 = .ok (.ireturn, 1) := by decide +kernel
set_option maxRecDepth 20000 in
theorem ggX1_countDifferences_X4_pair : GoodIn wsX1_countDifferences wsX4_pair := goodIn_r _ [3] (by decide +kernel) (by decide +kernel)
set_option maxRecDepth 20000 in
theorem gX1_countDifferences_X4_pair_n40 : GoodIn wsX1_countDifferences (wsX4_pair) := ggX1_countDifferences_X4_pair
set_option maxRecDepth 20000 in
theorem ggX1_countDifferences_X1_differ : GoodIn wsX1_countDifferences wsX1_differ := goodIn_ca (goodIn_r _ [8, 9, 10, 11, 12, 13, 14, 15, 16, 17, 18, 19, 20] (by decide +kernel) (by decide +kernel)) (goodIn_sub (fun _ h => List.mem_cons_of_mem _ (List.mem_append_right _ h)) (by decide +kernel))
set_option maxRecDepth 20000 in
theorem gX1_countDifferences_X1_differ : GoodIn wsX1_countDifferences (wsV RX1 58 RX1 yX1_differ wsX1_differ) := goodIn_app (goodIn_of _ (by decide +kernel)) ggX1_countDifferences_X1_differ
theorem dX1_countDifferences_0 : decode cX1_countDifferences 0 = .ok (.iconst 0, 1) := by decide +kernel
theorem dX1_countDifferences_1 : decode cX1_countDifferences 1 = .ok (.istore_n 3, 1) := by decide +kernel
theorem dX1_countDifferences_2 : decode cX1_countDifferences 2 = .ok (.iconst 0, 1) := by decide +kernel
theorem dX1_countDifferences_3 : decode cX1_countDifferences 3 = .ok (.istore 4, 2) := by decide +kernel
theorem dX1_countDifferences_5 : decode cX1_countDifferences 5 = .ok (.iload 4, 2) := by decide +kernel
theorem dX1_countDifferences_7 : decode cX1_countDifferences 7 = .ok (.bipush 8, 2) := by decide +kernel
theorem dX1_countDifferences_9 : decode cX1_countDifferences 9 = .ok (.if_icmp .ge 43, 3) := by decide +kernel
theorem dX1_countDifferences_12 : decode cX1_countDifferences 12 = .ok (.iload 4, 2) := by decide +kernel
theorem dX1_countDifferences_14 : decode cX1_countDifferences 14 = .ok (.iload_n 1, 1) := by decide +kernel
theorem dX1_countDifferences_15 : decode cX1_countDifferences 15 = .ok (.if_icmp .eq 31, 3) := by decide +kernel
theorem dX1_countDifferences_18 : decode cX1_countDifferences 18 = .ok (.iload 4, 2) := by decide +kernel
theorem dX1_countDifferences_20 : decode cX1_countDifferences 20 = .ok (.iload_n 2, 1) := by decide +kernel
theorem dX1_countDifferences_21 : decode cX1_countDifferences 21 = .ok (.if_icmp .eq 25, 3) := by decide +kernel
theorem dX1_countDifferences_24 : decode cX1_countDifferences 24 = .ok (.aload_n 0, 1) := by decide +kernel
theorem dX1_countDifferences_25 : decode cX1_countDifferences 25 = .ok (.iload_n 1, 1) := by decide +kernel
theorem dX1_countDifferences_26 : decode cX1_countDifferences 26 = .ok (.iload 4, 2) := by decide +kernel
theorem dX1_countDifferences_28 : decode cX1_countDifferences 28 = .ok (.invokestatic 40, 3) := by decide +kernel
theorem dX1_countDifferences_31 : decode cX1_countDifferences 31 = .ok (.iload_n 2, 1) := by decide +kernel
theorem dX1_countDifferences_32 : decode cX1_countDifferences 32 = .ok (.iload 4, 2) := by decide +kernel
theorem dX1_countDifferences_34 : decode cX1_countDifferences 34 = .ok (.invokestatic 40, 3) := by decide +kernel
theorem dX1_countDifferences_37 : decode cX1_countDifferences 37 = .ok (.invokevirtual 58, 3) := by decide +kernel
theorem dX1_countDifferences_40 : decode cX1_countDifferences 40 = .ok (.ifCond .eq 6, 3) := by decide +kernel
theorem dX1_countDifferences_43 : decode cX1_countDifferences 43 = .ok (.iinc 3 1, 3) := by decide +kernel
theorem dX1_countDifferences_46 : decode cX1_countDifferences 46 = .ok (.iinc 4 1, 3) := by decide +kernel
theorem dX1_countDifferences_49 : decode cX1_countDifferences 49 = .ok (.goto (-44), 3) := by decide +kernel
theorem dX1_countDifferences_52 : decode cX1_countDifferences 52 = .ok (.iload_n 3, 1) := by decide +kernel
theorem dX1_countDifferences_53 : decode cX1_countDifferences 53 = .ok (.ireturn, 1) := by decide +kernel
theorem dX1_differ_0 : decode cX1_differ 0 = .ok (.aload_n 0, 1) := by decide +kernel
theorem dX1_differ_1 : decode cX1_differ 1 = .ok (.getfield 15, 3) := by decide +kernel
theorem dX1_differ_4 : decode cX1_differ 4 = .ok (.iload_n 1, 1) := by decide +kernel
theorem dX1_differ_5 : decode cX1_differ 5 = .ok (.iaload, 1) := by decide +kernel
theorem dX1_differ_6 : decode cX1_differ 6 = .ok (.aload_n 0, 1) := by decide +kernel
theorem dX1_differ_7 : decode cX1_differ 7 = .ok (.getfield 15, 3) := by decide +kernel
theorem dX1_differ_10 : decode cX1_differ 10 = .ok (.iload_n 2, 1) := by decide +kernel
theorem dX1_differ_11 : decode cX1_differ 11 = .ok (.iaload, 1) := by decide +kernel
theorem dX1_differ_12 : decode cX1_differ 12 = .ok (.if_icmp .ne 18, 3) := by decide +kernel
theorem dX1_differ_15 : decode cX1_differ 15 = .ok (.aload_n 0, 1) := by decide +kernel
theorem dX1_differ_16 : decode cX1_differ 16 = .ok (.getfield 18, 3) := by decide +kernel
theorem dX1_differ_19 : decode cX1_differ 19 = .ok (.iload_n 1, 1) := by decide +kernel
theorem dX1_differ_20 : decode cX1_differ 20 = .ok (.iaload, 1) := by decide +kernel
theorem dX1_differ_21 : decode cX1_differ 21 = .ok (.aload_n 0, 1) := by decide +kernel
theorem dX1_differ_22 : decode cX1_differ 22 = .ok (.getfield 18, 3) := by decide +kernel
theorem dX1_differ_25 : decode cX1_differ 25 = .ok (.iload_n 2, 1) := by decide +kernel
theorem dX1_differ_26 : decode cX1_differ 26 = .ok (.iaload, 1) := by decide +kernel
theorem dX1_differ_27 : decode cX1_differ 27 = .ok (.if_icmp .eq 7, 3) := by decide +kernel
theorem dX1_differ_30 : decode cX1_differ 30 = .ok (.iconst 1, 1) := by decide +kernel
theorem dX1_differ_31 : decode cX1_differ 31 = .ok (.goto 4, 3) := by decide +kernel
theorem dX1_differ_34 : decode cX1_differ 34 = .ok (.iconst 0, 1) := by decide +kernel
theorem dX1_differ_35 : decode cX1_differ 35 = .ok (.ireturn, 1) := by decide +kernel
theorem dX1_copyFrom_0 : decode cX1_copyFrom 0 = .ok (.aload_n 1, 1) := by decide +kernel
theorem dX1_copyFrom_1 : decode cX1_copyFrom 1 = .ok (.getfield 9, 3) := by decide +kernel
theorem dX1_copyFrom_4 : decode cX1_copyFrom 4 = .ok (.iconst 0, 1) := by decide +kernel
theorem dX1_copyFrom_5 : decode cX1_copyFrom 5 = .ok (.aload_n 0, 1) := by decide +kernel
theorem dX1_copyFrom_6 : decode cX1_copyFrom 6 = .ok (.getfield 9, 3) := by decide +kernel
theorem dX1_copyFrom_9 : decode cX1_copyFrom 9 = .ok (.iconst 0, 1) := by decide +kernel
theorem dX1_copyFrom_10 : decode cX1_copyFrom 10 = .ok (.bipush 8, 2) := by decide +kernel
theorem dX1_copyFrom_12 : decode cX1_copyFrom 12 = .ok (.invokestatic 62, 3) := by decide +kernel
theorem dX1_copyFrom_15 : decode cX1_copyFrom 15 = .ok (.aload_n 1, 1) := by decide +kernel
theorem dX1_copyFrom_16 : decode cX1_copyFrom 16 = .ok (.getfield 15, 3) := by decide +kernel
theorem dX1_copyFrom_19 : decode cX1_copyFrom 19 = .ok (.iconst 0, 1) := by decide +kernel
theorem dX1_copyFrom_20 : decode cX1_copyFrom 20 = .ok (.aload_n 0, 1) := by decide +kernel
theorem dX1_copyFrom_21 : decode cX1_copyFrom 21 = .ok (.getfield 15, 3) := by decide +kernel
theorem dX1_copyFrom_24 : decode cX1_copyFrom 24 = .ok (.iconst 0, 1) := by decide +kernel
theorem dX1_copyFrom_25 : decode cX1_copyFrom 25 = .ok (.bipush 64, 2) := by decide +kernel
theorem dX1_copyFrom_27 : decode cX1_copyFrom 27 = .ok (.invokestatic 62, 3) := by decide +kernel
theorem dX1_copyFrom_30 : decode cX1_copyFrom 30 = .ok (.aload_n 1, 1) := by decide +kernel
theorem dX1_copyFrom_31 : decode cX1_copyFrom 31 = .ok (.getfield 18, 3) := by decide +kernel
theorem dX1_copyFrom_34 : decode cX1_copyFrom 34 = .ok (.iconst 0, 1) := by decide +kernel
theorem dX1_copyFrom_35 : decode cX1_copyFrom 35 = .ok (.aload_n 0, 1) := by decide +kernel
theorem dX1_copyFrom_36 : decode cX1_copyFrom 36 = .ok (.getfield 18, 3) := by decide +kernel
theorem dX1_copyFrom_39 : decode cX1_copyFrom 39 = .ok (.iconst 0, 1) := by decide +kernel
theorem dX1_copyFrom_40 : decode cX1_copyFrom 40 = .ok (.bipush 64, 2) := by decide +kernel
theorem dX1_copyFrom_42 : decode cX1_copyFrom 42 = .ok (.invokestatic 62, 3) := by decide +kernel
theorem dX1_copyFrom_45 : decode cX1_copyFrom 45 = .ok (.aload_n 1, 1) := by decide +kernel
theorem dX1_copyFrom_46 : decode cX1_copyFrom 46 = .ok (.getfield 21, 3) := by decide +kernel
theorem dX1_copyFrom_49 : decode cX1_copyFrom 49 = .ok (.iconst 0, 1) := by decide +kernel
theorem dX1_copyFrom_50 : decode cX1_copyFrom 50 = .ok (.aload_n 0, 1) := by decide +kernel
theorem dX1_copyFrom_51 : decode cX1_copyFrom 51 = .ok (.getfield 21, 3) := by decide +kernel
theorem dX1_copyFrom_54 : decode cX1_copyFrom 54 = .ok (.iconst 0, 1) := by decide +kernel
theorem dX1_copyFrom_55 : decode cX1_copyFrom 55 = .ok (.bipush 64, 2) := by decide +kernel
theorem dX1_copyFrom_57 : decode cX1_copyFrom 57 = .ok (.invokestatic 62, 3) := by decide +kernel
theorem dX1_copyFrom_60 : decode cX1_copyFrom 60 = .ok (.aload_n 1, 1) := by decide +kernel
theorem dX1_copyFrom_61 : decode cX1_copyFrom 61 = .ok (.getfield 24, 3) := by decide +kernel
theorem dX1_copyFrom_64 : decode cX1_copyFrom 64 = .ok (.iconst 0, 1) := by decide +kernel
theorem dX1_copyFrom_65 : decode cX1_copyFrom 65 = .ok (.aload_n 0, 1) := by decide +kernel
theorem dX1_copyFrom_66 : decode cX1_copyFrom 66 = .ok (.getfield 24, 3) := by decide +kernel
theorem dX1_copyFrom_69 : decode cX1_copyFrom 69 = .ok (.iconst 0, 1) := by decide +kernel
theorem dX1_copyFrom_70 : decode cX1_copyFrom 70 = .ok (.bipush 64, 2) := by decide +kernel
theorem dX1_copyFrom_72 : decode cX1_copyFrom 72 = .ok (.invokestatic 62, 3) := by decide +kernel
theorem dX1_copyFrom_75 : decode cX1_copyFrom 75 = .ok (.aload_n 0, 1) := by decide +kernel
theorem dX1_copyFrom_76 : decode cX1_copyFrom 76 = .ok (.aload_n 1, 1) := by decide +kernel
theorem dX1_copyFrom_77 : decode cX1_copyFrom 77 = .ok (.getfield 27, 3) := by decide +kernel
theorem dX1_copyFrom_80 : decode cX1_copyFrom 80 = .ok (.putfield 27, 3) := by decide +kernel
theorem dX1_copyFrom_83 : decode cX1_copyFrom 83 = .ok (.aload_n 0, 1) := by decide +kernel
theorem dX1_copyFrom_84 : decode cX1_copyFrom 84 = .ok (.aload_n 1, 1) := by decide +kernel
theorem dX1_copyFrom_85 : decode cX1_copyFrom 85 = .ok (.getfield 31, 3) := by decide +kernel
theorem dX1_copyFrom_88 : decode cX1_copyFrom 88 = .ok (.putfield 31, 3) := by decide +kernel
theorem dX1_copyFrom_91 : decode cX1_copyFrom 91 = .ok (.aload_n 0, 1) := by decide +kernel
theorem dX1_copyFrom_92 : decode cX1_copyFrom 92 = .ok (.aload_n 1, 1) := by decide +kernel
theorem dX1_copyFrom_93 : decode cX1_copyFrom 93 = .ok (.getfield 34, 3) := by decide +kernel
theorem dX1_copyFrom_96 : decode cX1_copyFrom 96 = .ok (.putfield 34, 3) := by decide +kernel
theorem dX1_copyFrom_99 : decode cX1_copyFrom 99 = .ok (.aload_n 0, 1) := by decide +kernel
theorem dX1_copyFrom_100 : decode cX1_copyFrom 100 = .ok (.aload_n 1, 1) := by decide +kernel
theorem dX1_copyFrom_101 : decode cX1_copyFrom 101 = .ok (.getfield 37, 3) := by decide +kernel
theorem dX1_copyFrom_104 : decode cX1_copyFrom 104 = .ok (.putfield 37, 3) := by decide +kernel
theorem dX1_copyFrom_107 : decode cX1_copyFrom 107 = .ok (.aload_n 0, 1) := by decide +kernel
theorem dX1_copyFrom_108 : decode cX1_copyFrom 108 = .ok (.aload_n 1, 1) := by decide +kernel
theorem dX1_copyFrom_109 : decode cX1_copyFrom 109 = .ok (.getfield 44, 3) := by decide +kernel
theorem dX1_copyFrom_112 : decode cX1_copyFrom 112 = .ok (.putfield 44, 3) := by decide +kernel
theorem dX1_copyFrom_115 : decode cX1_copyFrom 115 = .ok (.return_, 1) := by decide +kernel
theorem dX2_init_0 : decode cX2_init 0 = .ok (.aload_n 0, 1) := by decide +kernel
theorem dX2_init_1 : decode cX2_init 1 = .ok (.invokespecial 3, 3) := by decide +kernel
theorem dX2_init_4 : decode cX2_init 4 = .ok (.aload_n 0, 1) := by decide +kernel
theorem dX2_init_5 : decode cX2_init 5 = .ok (.bipush 8, 2) := by decide +kernel
theorem dX2_init_7 : decode cX2_init 7 = .ok (.newarray .boolean, 2) := by decide +kernel
theorem dX2_init_9 : decode cX2_init 9 = .ok (.putfield 9, 3) := by decide +kernel
theorem dX2_init_12 : decode cX2_init 12 = .ok (.aload_n 0, 1) := by decide +kernel
theorem dX2_init_13 : decode cX2_init 13 = .ok (.bipush 8, 2) := by decide +kernel
theorem dX2_init_15 : decode cX2_init 15 = .ok (.newarray .boolean, 2) := by decide +kernel
theorem dX2_init_17 : decode cX2_init 17 = .ok (.putfield 15, 3) := by decide +kernel
theorem dX2_init_20 : decode cX2_init 20 = .ok (.aload_n 0, 1) := by decide +kernel
theorem dX2_init_21 : decode cX2_init 21 = .ok (.bipush 8, 2) := by decide +kernel
theorem dX2_init_23 : decode cX2_init 23 = .ok (.newarray .int, 2) := by decide +kernel
theorem dX2_init_25 : decode cX2_init 25 = .ok (.putfield 18, 3) := by decide +kernel
theorem dX2_init_28 : decode cX2_init 28 = .ok (.aload_n 0, 1) := by decide +kernel
theorem dX2_init_29 : decode cX2_init 29 = .ok (.bipush 64, 2) := by decide +kernel
theorem dX2_init_31 : decode cX2_init 31 = .ok (.newarray .boolean, 2) := by decide +kernel
theorem dX2_init_33 : decode cX2_init 33 = .ok (.putfield 22, 3) := by decide +kernel
theorem dX2_init_36 : decode cX2_init 36 = .ok (.return_, 1) := by decide +kernel
set_option maxRecDepth 20000 in
theorem ggX2_connects_X2_wouldConnect : GoodIn wsX2_connects wsX2_wouldConnect := goodIn_ca (goodIn_r _ [6, 1, 7, 8, 9, 10, 11, 12, 13, 14, 15] (by decide +kernel) (by decide +kernel)) (goodIn_sub (fun _ h => List.mem_cons_of_mem _ (List.mem_append_right _ h)) (by decide +kernel))
set_option maxRecDepth 20000 in
theorem gX2_connects_X2_wouldConnect : GoodIn wsX2_connects (wsV RX2 25 RX2 yX2_wouldConnect wsX2_wouldConnect) := goodIn_app (goodIn_of _ (by decide +kernel)) ggX2_connects_X2_wouldConnect
theorem dX2_connects_0 : decode cX2_connects 0 = .ok (.iload_n 1, 1) := by decide +kernel
theorem dX2_connects_1 : decode cX2_connects 1 = .ok (.iload_n 2, 1) := by decide +kernel
theorem dX2_connects_2 : decode cX2_connects 2 = .ok (.if_icmp .eq 25, 3) := by decide +kernel
theorem dX2_connects_5 : decode cX2_connects 5 = .ok (.aload_n 0, 1) := by decide +kernel
theorem dX2_connects_6 : decode cX2_connects 6 = .ok (.getfield 9, 3) := by decide +kernel
theorem dX2_connects_9 : decode cX2_connects 9 = .ok (.iload_n 1, 1) := by decide +kernel
theorem dX2_connects_10 : decode cX2_connects 10 = .ok (.baload, 1) := by decide +kernel
theorem dX2_connects_11 : decode cX2_connects 11 = .ok (.ifCond .eq 16, 3) := by decide +kernel
theorem dX2_connects_14 : decode cX2_connects 14 = .ok (.aload_n 0, 1) := by decide +kernel
theorem dX2_connects_15 : decode cX2_connects 15 = .ok (.iload_n 1, 1) := by decide +kernel
theorem dX2_connects_16 : decode cX2_connects 16 = .ok (.iload_n 2, 1) := by decide +kernel
theorem dX2_connects_17 : decode cX2_connects 17 = .ok (.invokevirtual 25, 3) := by decide +kernel
theorem dX2_connects_20 : decode cX2_connects 20 = .ok (.ifCond .eq 7, 3) := by decide +kernel
theorem dX2_connects_23 : decode cX2_connects 23 = .ok (.iconst 1, 1) := by decide +kernel
theorem dX2_connects_24 : decode cX2_connects 24 = .ok (.goto 4, 3) := by decide +kernel
theorem dX2_connects_27 : decode cX2_connects 27 = .ok (.iconst 0, 1) := by decide +kernel
theorem dX2_connects_28 : decode cX2_connects 28 = .ok (.ireturn, 1) := by decide +kernel
set_option maxRecDepth 20000 in
theorem ggX2_wouldConnect_X4_pair : GoodIn wsX2_wouldConnect wsX4_pair := goodIn_r _ [6] (by decide +kernel) (by decide +kernel)
set_option maxRecDepth 20000 in
theorem gX2_wouldConnect_X4_pair_n29 : GoodIn wsX2_wouldConnect (wsX4_pair) := ggX2_wouldConnect_X4_pair
theorem dX2_wouldConnect_0 : decode cX2_wouldConnect 0 = .ok (.aload_n 0, 1) := by decide +kernel
theorem dX2_wouldConnect_1 : decode cX2_wouldConnect 1 = .ok (.getfield 9, 3) := by decide +kernel
theorem dX2_wouldConnect_4 : decode cX2_wouldConnect 4 = .ok (.iload_n 2, 1) := by decide +kernel
theorem dX2_wouldConnect_5 : decode cX2_wouldConnect 5 = .ok (.baload, 1) := by decide +kernel
theorem dX2_wouldConnect_6 : decode cX2_wouldConnect 6 = .ok (.ifCond .eq 35, 3) := by decide +kernel
theorem dX2_wouldConnect_9 : decode cX2_wouldConnect 9 = .ok (.aload_n 0, 1) := by decide +kernel
theorem dX2_wouldConnect_10 : decode cX2_wouldConnect 10 = .ok (.getfield 18, 3) := by decide +kernel
theorem dX2_wouldConnect_13 : decode cX2_wouldConnect 13 = .ok (.iload_n 1, 1) := by decide +kernel
theorem dX2_wouldConnect_14 : decode cX2_wouldConnect 14 = .ok (.iaload, 1) := by decide +kernel
theorem dX2_wouldConnect_15 : decode cX2_wouldConnect 15 = .ok (.aload_n 0, 1) := by decide +kernel
theorem dX2_wouldConnect_16 : decode cX2_wouldConnect 16 = .ok (.getfield 18, 3) := by decide +kernel
theorem dX2_wouldConnect_19 : decode cX2_wouldConnect 19 = .ok (.iload_n 2, 1) := by decide +kernel
theorem dX2_wouldConnect_20 : decode cX2_wouldConnect 20 = .ok (.iaload, 1) := by decide +kernel
theorem dX2_wouldConnect_21 : decode cX2_wouldConnect 21 = .ok (.if_icmp .ne 20, 3) := by decide +kernel
theorem dX2_wouldConnect_24 : decode cX2_wouldConnect 24 = .ok (.aload_n 0, 1) := by decide +kernel
theorem dX2_wouldConnect_25 : decode cX2_wouldConnect 25 = .ok (.getfield 22, 3) := by decide +kernel
theorem dX2_wouldConnect_28 : decode cX2_wouldConnect 28 = .ok (.iload_n 1, 1) := by decide +kernel
theorem dX2_wouldConnect_29 : decode cX2_wouldConnect 29 = .ok (.iload_n 2, 1) := by decide +kernel
theorem dX2_wouldConnect_30 : decode cX2_wouldConnect 30 = .ok (.invokestatic 29, 3) := by decide +kernel
theorem dX2_wouldConnect_33 : decode cX2_wouldConnect 33 = .ok (.baload, 1) := by decide +kernel
theorem dX2_wouldConnect_34 : decode cX2_wouldConnect 34 = .ok (.ifCond .ne 7, 3) := by decide +kernel
theorem dX2_wouldConnect_37 : decode cX2_wouldConnect 37 = .ok (.iconst 1, 1) := by decide +kernel
theorem dX2_wouldConnect_38 : decode cX2_wouldConnect 38 = .ok (.goto 4, 3) := by decide +kernel
theorem dX2_wouldConnect_41 : decode cX2_wouldConnect 41 = .ok (.iconst 0, 1) := by decide +kernel
theorem dX2_wouldConnect_42 : decode cX2_wouldConnect 42 = .ok (.ireturn, 1) := by decide +kernel
set_option maxRecDepth 20000 in
theorem ggX2_setCut_X4_pair : GoodIn wsX2_setCut wsX4_pair := goodIn_r _ [4] (by decide +kernel) (by decide +kernel)
set_option maxRecDepth 20000 in
theorem gX2_setCut_X4_pair_n29 : GoodIn wsX2_setCut (wsX4_pair) := ggX2_setCut_X4_pair
theorem dX2_setCut_0 : decode cX2_setCut 0 = .ok (.aload_n 0, 1) := by decide +kernel
theorem dX2_setCut_1 : decode cX2_setCut 1 = .ok (.getfield 22, 3) := by decide +kernel
theorem dX2_setCut_4 : decode cX2_setCut 4 = .ok (.iload_n 1, 1) := by decide +kernel
theorem dX2_setCut_5 : decode cX2_setCut 5 = .ok (.iload_n 2, 1) := by decide +kernel
theorem dX2_setCut_6 : decode cX2_setCut 6 = .ok (.invokestatic 29, 3) := by decide +kernel
theorem dX2_setCut_9 : decode cX2_setCut 9 = .ok (.iload_n 3, 1) := by decide +kernel
theorem dX2_setCut_10 : decode cX2_setCut 10 = .ok (.bastore, 1) := by decide +kernel
theorem dX2_setCut_11 : decode cX2_setCut 11 = .ok (.aload_n 0, 1) := by decide +kernel
theorem dX2_setCut_12 : decode cX2_setCut 12 = .ok (.getfield 22, 3) := by decide +kernel
theorem dX2_setCut_15 : decode cX2_setCut 15 = .ok (.iload_n 2, 1) := by decide +kernel
theorem dX2_setCut_16 : decode cX2_setCut 16 = .ok (.iload_n 1, 1) := by decide +kernel
theorem dX2_setCut_17 : decode cX2_setCut 17 = .ok (.invokestatic 29, 3) := by decide +kernel
theorem dX2_setCut_20 : decode cX2_setCut 20 = .ok (.iload_n 3, 1) := by decide +kernel
theorem dX2_setCut_21 : decode cX2_setCut 21 = .ok (.bastore, 1) := by decide +kernel
theorem dX2_setCut_22 : decode cX2_setCut 22 = .ok (.return_, 1) := by decide +kernel
theorem dX2_countUp_0 : decode cX2_countUp 0 = .ok (.iconst 0, 1) := by decide +kernel
theorem dX2_countUp_1 : decode cX2_countUp 1 = .ok (.istore_n 1, 1) := by decide +kernel
theorem dX2_countUp_2 : decode cX2_countUp 2 = .ok (.iconst 0, 1) := by decide +kernel
theorem dX2_countUp_3 : decode cX2_countUp 3 = .ok (.istore_n 2, 1) := by decide +kernel
theorem dX2_countUp_4 : decode cX2_countUp 4 = .ok (.iload_n 2, 1) := by decide +kernel
theorem dX2_countUp_5 : decode cX2_countUp 5 = .ok (.bipush 8, 2) := by decide +kernel
theorem dX2_countUp_7 : decode cX2_countUp 7 = .ok (.if_icmp .ge 21, 3) := by decide +kernel
theorem dX2_countUp_10 : decode cX2_countUp 10 = .ok (.aload_n 0, 1) := by decide +kernel
theorem dX2_countUp_11 : decode cX2_countUp 11 = .ok (.getfield 9, 3) := by decide +kernel
theorem dX2_countUp_14 : decode cX2_countUp 14 = .ok (.iload_n 2, 1) := by decide +kernel
theorem dX2_countUp_15 : decode cX2_countUp 15 = .ok (.baload, 1) := by decide +kernel
theorem dX2_countUp_16 : decode cX2_countUp 16 = .ok (.ifCond .eq 6, 3) := by decide +kernel
theorem dX2_countUp_19 : decode cX2_countUp 19 = .ok (.iinc 1 1, 3) := by decide +kernel
theorem dX2_countUp_22 : decode cX2_countUp 22 = .ok (.iinc 2 1, 3) := by decide +kernel
theorem dX2_countUp_25 : decode cX2_countUp 25 = .ok (.goto (-21), 3) := by decide +kernel
theorem dX2_countUp_28 : decode cX2_countUp 28 = .ok (.iload_n 1, 1) := by decide +kernel
theorem dX2_countUp_29 : decode cX2_countUp 29 = .ok (.ireturn, 1) := by decide +kernel
theorem dX2_copyFrom_0 : decode cX2_copyFrom 0 = .ok (.iconst 0, 1) := by decide +kernel
theorem dX2_copyFrom_1 : decode cX2_copyFrom 1 = .ok (.istore_n 2, 1) := by decide +kernel
theorem dX2_copyFrom_2 : decode cX2_copyFrom 2 = .ok (.iload_n 2, 1) := by decide +kernel
theorem dX2_copyFrom_3 : decode cX2_copyFrom 3 = .ok (.bipush 8, 2) := by decide +kernel
theorem dX2_copyFrom_5 : decode cX2_copyFrom 5 = .ok (.if_icmp .ge 45, 3) := by decide +kernel
theorem dX2_copyFrom_8 : decode cX2_copyFrom 8 = .ok (.aload_n 0, 1) := by decide +kernel
theorem dX2_copyFrom_9 : decode cX2_copyFrom 9 = .ok (.getfield 9, 3) := by decide +kernel
theorem dX2_copyFrom_12 : decode cX2_copyFrom 12 = .ok (.iload_n 2, 1) := by decide +kernel
theorem dX2_copyFrom_13 : decode cX2_copyFrom 13 = .ok (.aload_n 1, 1) := by decide +kernel
theorem dX2_copyFrom_14 : decode cX2_copyFrom 14 = .ok (.getfield 9, 3) := by decide +kernel
theorem dX2_copyFrom_17 : decode cX2_copyFrom 17 = .ok (.iload_n 2, 1) := by decide +kernel
theorem dX2_copyFrom_18 : decode cX2_copyFrom 18 = .ok (.baload, 1) := by decide +kernel
theorem dX2_copyFrom_19 : decode cX2_copyFrom 19 = .ok (.bastore, 1) := by decide +kernel
theorem dX2_copyFrom_20 : decode cX2_copyFrom 20 = .ok (.aload_n 0, 1) := by decide +kernel
theorem dX2_copyFrom_21 : decode cX2_copyFrom 21 = .ok (.getfield 15, 3) := by decide +kernel
theorem dX2_copyFrom_24 : decode cX2_copyFrom 24 = .ok (.iload_n 2, 1) := by decide +kernel
theorem dX2_copyFrom_25 : decode cX2_copyFrom 25 = .ok (.aload_n 1, 1) := by decide +kernel
theorem dX2_copyFrom_26 : decode cX2_copyFrom 26 = .ok (.getfield 15, 3) := by decide +kernel
theorem dX2_copyFrom_29 : decode cX2_copyFrom 29 = .ok (.iload_n 2, 1) := by decide +kernel
theorem dX2_copyFrom_30 : decode cX2_copyFrom 30 = .ok (.baload, 1) := by decide +kernel
theorem dX2_copyFrom_31 : decode cX2_copyFrom 31 = .ok (.bastore, 1) := by decide +kernel
theorem dX2_copyFrom_32 : decode cX2_copyFrom 32 = .ok (.aload_n 0, 1) := by decide +kernel
theorem dX2_copyFrom_33 : decode cX2_copyFrom 33 = .ok (.getfield 18, 3) := by decide +kernel
theorem dX2_copyFrom_36 : decode cX2_copyFrom 36 = .ok (.iload_n 2, 1) := by decide +kernel
theorem dX2_copyFrom_37 : decode cX2_copyFrom 37 = .ok (.aload_n 1, 1) := by decide +kernel
theorem dX2_copyFrom_38 : decode cX2_copyFrom 38 = .ok (.getfield 18, 3) := by decide +kernel
theorem dX2_copyFrom_41 : decode cX2_copyFrom 41 = .ok (.iload_n 2, 1) := by decide +kernel
theorem dX2_copyFrom_42 : decode cX2_copyFrom 42 = .ok (.iaload, 1) := by decide +kernel
theorem dX2_copyFrom_43 : decode cX2_copyFrom 43 = .ok (.iastore, 1) := by decide +kernel
theorem dX2_copyFrom_44 : decode cX2_copyFrom 44 = .ok (.iinc 2 1, 3) := by decide +kernel
theorem dX2_copyFrom_47 : decode cX2_copyFrom 47 = .ok (.goto (-45), 3) := by decide +kernel
theorem dX2_copyFrom_50 : decode cX2_copyFrom 50 = .ok (.iconst 0, 1) := by decide +kernel
theorem dX2_copyFrom_51 : decode cX2_copyFrom 51 = .ok (.istore_n 2, 1) := by decide +kernel
theorem dX2_copyFrom_52 : decode cX2_copyFrom 52 = .ok (.iload_n 2, 1) := by decide +kernel
theorem dX2_copyFrom_53 : decode cX2_copyFrom 53 = .ok (.bipush 64, 2) := by decide +kernel
theorem dX2_copyFrom_55 : decode cX2_copyFrom 55 = .ok (.if_icmp .ge 21, 3) := by decide +kernel
theorem dX2_copyFrom_58 : decode cX2_copyFrom 58 = .ok (.aload_n 0, 1) := by decide +kernel
theorem dX2_copyFrom_59 : decode cX2_copyFrom 59 = .ok (.getfield 22, 3) := by decide +kernel
theorem dX2_copyFrom_62 : decode cX2_copyFrom 62 = .ok (.iload_n 2, 1) := by decide +kernel
theorem dX2_copyFrom_63 : decode cX2_copyFrom 63 = .ok (.aload_n 1, 1) := by decide +kernel
theorem dX2_copyFrom_64 : decode cX2_copyFrom 64 = .ok (.getfield 22, 3) := by decide +kernel
theorem dX2_copyFrom_67 : decode cX2_copyFrom 67 = .ok (.iload_n 2, 1) := by decide +kernel
theorem dX2_copyFrom_68 : decode cX2_copyFrom 68 = .ok (.baload, 1) := by decide +kernel
theorem dX2_copyFrom_69 : decode cX2_copyFrom 69 = .ok (.bastore, 1) := by decide +kernel
theorem dX2_copyFrom_70 : decode cX2_copyFrom 70 = .ok (.iinc 2 1, 3) := by decide +kernel
theorem dX2_copyFrom_73 : decode cX2_copyFrom 73 = .ok (.goto (-21), 3) := by decide +kernel
theorem dX2_copyFrom_76 : decode cX2_copyFrom 76 = .ok (.return_, 1) := by decide +kernel
set_option maxRecDepth 20000 in
theorem ggX3_init_X2_init : GoodIn wsX3_init wsX2_init := goodIn_r _ [15, 16, 2, 3, 17, 18, 19, 20, 21, 22, 33, 34, 35, 36] (by decide +kernel) (by decide +kernel)
set_option maxRecDepth 20000 in
theorem gX3_init_X2_init_n11 : GoodIn wsX3_init (wsX2_init) := ggX3_init_X2_init
set_option maxRecDepth 20000 in
theorem ggX3_init_X1_init : GoodIn wsX3_init wsX1_init := goodIn_r _ [24, 25, 2, 3, 20, 26, 27, 28, 29, 30, 31, 32, 44, 45, 46, 47, 48, 49, 50, 51, 52, 53] (by decide +kernel) (by decide +kernel)
set_option maxRecDepth 20000 in
theorem gX3_init_X1_init_n20 : GoodIn wsX3_init (wsX1_init) := ggX3_init_X1_init
theorem dX3_init_0 : decode cX3_init 0 = .ok (.aload_n 0, 1) := by decide +kernel
theorem dX3_init_1 : decode cX3_init 1 = .ok (.invokespecial 3, 3) := by decide +kernel
theorem dX3_init_4 : decode cX3_init 4 = .ok (.aload_n 0, 1) := by decide +kernel
theorem dX3_init_5 : decode cX3_init 5 = .ok (.new 9, 3) := by decide +kernel
theorem dX3_init_8 : decode cX3_init 8 = .ok (.dup, 1) := by decide +kernel
theorem dX3_init_9 : decode cX3_init 9 = .ok (.invokespecial 11, 3) := by decide +kernel
theorem dX3_init_12 : decode cX3_init 12 = .ok (.putfield 12, 3) := by decide +kernel
theorem dX3_init_15 : decode cX3_init 15 = .ok (.aload_n 0, 1) := by decide +kernel
theorem dX3_init_16 : decode cX3_init 16 = .ok (.new 18, 3) := by decide +kernel
theorem dX3_init_19 : decode cX3_init 19 = .ok (.dup, 1) := by decide +kernel
theorem dX3_init_20 : decode cX3_init 20 = .ok (.invokespecial 20, 3) := by decide +kernel
theorem dX3_init_23 : decode cX3_init 23 = .ok (.putfield 21, 3) := by decide +kernel
theorem dX3_init_26 : decode cX3_init 26 = .ok (.aload_n 0, 1) := by decide +kernel
theorem dX3_init_27 : decode cX3_init 27 = .ok (.iconst 2, 1) := by decide +kernel
theorem dX3_init_28 : decode cX3_init 28 = .ok (.putfield 25, 3) := by decide +kernel
theorem dX3_init_31 : decode cX3_init 31 = .ok (.aload_n 0, 1) := by decide +kernel
theorem dX3_init_32 : decode cX3_init 32 = .ok (.iconst 1, 1) := by decide +kernel
theorem dX3_init_33 : decode cX3_init 33 = .ok (.putfield 29, 3) := by decide +kernel
theorem dX3_init_36 : decode cX3_init 36 = .ok (.return_, 1) := by decide +kernel
set_option maxRecDepth 20000 in
theorem ggX3_admit_X1_forgetAll : GoodIn wsX3_admit wsX1_forgetAll := goodIn_ca (goodIn_r _ [10, 11, 12, 13, 14, 15, 16, 17, 76, 77, 78, 79, 80, 81, 82, 83, 84, 85] (by decide +kernel) (by decide +kernel)) (goodIn_sub (fun _ h => List.mem_cons_of_mem _ (List.mem_append_right _ h)) (by decide +kernel))
set_option maxRecDepth 20000 in
theorem gX3_admit_X1_forgetAll : GoodIn wsX3_admit (wsV RX3 43 RX1 yX1_forgetAll wsX1_forgetAll) := goodIn_app (goodIn_of _ (by decide +kernel)) ggX3_admit_X1_forgetAll
set_option maxRecDepth 20000 in
theorem ggX3_admit_X2_connects : GoodIn wsX3_admit wsX2_connects := goodIn_ca (goodIn_r _ [22, 23, 24, 25, 26, 21, 27, 28, 29, 15, 16, 17, 72, 73, 74, 75] (by decide +kernel) (by decide +kernel)) (goodIn_sub (fun _ h => List.mem_cons_of_mem _ (List.mem_append_right _ h)) (by decide +kernel))
set_option maxRecDepth 20000 in
theorem gX3_admit_X2_connects : GoodIn wsX3_admit (wsV RX3 47 RX2 yX2_connects wsX2_connects) := goodIn_app (goodIn_of _ (by decide +kernel)) ggX3_admit_X2_connects
set_option maxRecDepth 20000 in
theorem ggX3_admit_X3_introduce : GoodIn wsX3_admit wsX3_introduce := goodIn_ca (goodIn_r _ [34, 4, 5, 35, 36, 37, 9, 38, 11, 15, 16, 17, 39, 40, 41, 42, 43, 12, 44, 45, 46, 47, 48, 13, 14, 49, 50, 51, 52, 53, 54, 55, 56, 57, 58, 59, 60, 61, 62, 63, 64, 65, 66, 67, 68, 69, 70, 71, 76, 77, 78, 79, 80, 81, 82, 83, 84, 85] (by decide +kernel) (by decide +kernel)) (goodIn_sub (fun _ h => List.mem_cons_of_mem _ (List.mem_append_right _ h)) (by decide +kernel))
set_option maxRecDepth 20000 in
theorem gX3_admit_X3_introduce : GoodIn wsX3_admit (wsV RX3 51 RX3 yX3_introduce wsX3_introduce) := goodIn_app (goodIn_of _ (by decide +kernel)) ggX3_admit_X3_introduce
theorem dX3_admit_0 : decode cX3_admit 0 = .ok (.aload_n 0, 1) := by decide +kernel
theorem dX3_admit_1 : decode cX3_admit 1 = .ok (.getfield 12, 3) := by decide +kernel
theorem dX3_admit_4 : decode cX3_admit 4 = .ok (.getfield 32, 3) := by decide +kernel
theorem dX3_admit_7 : decode cX3_admit 7 = .ok (.iload_n 1, 1) := by decide +kernel
theorem dX3_admit_8 : decode cX3_admit 8 = .ok (.iconst 1, 1) := by decide +kernel
theorem dX3_admit_9 : decode cX3_admit 9 = .ok (.bastore, 1) := by decide +kernel
theorem dX3_admit_10 : decode cX3_admit 10 = .ok (.aload_n 0, 1) := by decide +kernel
theorem dX3_admit_11 : decode cX3_admit 11 = .ok (.getfield 12, 3) := by decide +kernel
theorem dX3_admit_14 : decode cX3_admit 14 = .ok (.getfield 36, 3) := by decide +kernel
theorem dX3_admit_17 : decode cX3_admit 17 = .ok (.iload_n 1, 1) := by decide +kernel
theorem dX3_admit_18 : decode cX3_admit 18 = .ok (.baload, 1) := by decide +kernel
theorem dX3_admit_19 : decode cX3_admit 19 = .ok (.ifCond .eq 16, 3) := by decide +kernel
theorem dX3_admit_22 : decode cX3_admit 22 = .ok (.aload_n 0, 1) := by decide +kernel
theorem dX3_admit_23 : decode cX3_admit 23 = .ok (.getfield 21, 3) := by decide +kernel
theorem dX3_admit_26 : decode cX3_admit 26 = .ok (.getfield 39, 3) := by decide +kernel
theorem dX3_admit_29 : decode cX3_admit 29 = .ok (.iload_n 1, 1) := by decide +kernel
theorem dX3_admit_30 : decode cX3_admit 30 = .ok (.dup2, 1) := by decide +kernel
theorem dX3_admit_31 : decode cX3_admit 31 = .ok (.iaload, 1) := by decide +kernel
theorem dX3_admit_32 : decode cX3_admit 32 = .ok (.iconst 1, 1) := by decide +kernel
theorem dX3_admit_33 : decode cX3_admit 33 = .ok (.iadd, 1) := by decide +kernel
theorem dX3_admit_34 : decode cX3_admit 34 = .ok (.iastore, 1) := by decide +kernel
theorem dX3_admit_35 : decode cX3_admit 35 = .ok (.aload_n 0, 1) := by decide +kernel
theorem dX3_admit_36 : decode cX3_admit 36 = .ok (.getfield 12, 3) := by decide +kernel
theorem dX3_admit_39 : decode cX3_admit 39 = .ok (.getfield 36, 3) := by decide +kernel
theorem dX3_admit_42 : decode cX3_admit 42 = .ok (.iload_n 1, 1) := by decide +kernel
theorem dX3_admit_43 : decode cX3_admit 43 = .ok (.iconst 1, 1) := by decide +kernel
theorem dX3_admit_44 : decode cX3_admit 44 = .ok (.bastore, 1) := by decide +kernel
theorem dX3_admit_45 : decode cX3_admit 45 = .ok (.aload_n 0, 1) := by decide +kernel
theorem dX3_admit_46 : decode cX3_admit 46 = .ok (.getfield 21, 3) := by decide +kernel
theorem dX3_admit_49 : decode cX3_admit 49 = .ok (.iload_n 1, 1) := by decide +kernel
theorem dX3_admit_50 : decode cX3_admit 50 = .ok (.invokevirtual 43, 3) := by decide +kernel
theorem dX3_admit_53 : decode cX3_admit 53 = .ok (.aload_n 0, 1) := by decide +kernel
theorem dX3_admit_54 : decode cX3_admit 54 = .ok (.getfield 12, 3) := by decide +kernel
theorem dX3_admit_57 : decode cX3_admit 57 = .ok (.iload_n 1, 1) := by decide +kernel
theorem dX3_admit_58 : decode cX3_admit 58 = .ok (.iload_n 2, 1) := by decide +kernel
theorem dX3_admit_59 : decode cX3_admit 59 = .ok (.invokevirtual 47, 3) := by decide +kernel
theorem dX3_admit_62 : decode cX3_admit 62 = .ok (.ifCond .eq 9, 3) := by decide +kernel
theorem dX3_admit_65 : decode cX3_admit 65 = .ok (.aload_n 0, 1) := by decide +kernel
theorem dX3_admit_66 : decode cX3_admit 66 = .ok (.iload_n 1, 1) := by decide +kernel
theorem dX3_admit_67 : decode cX3_admit 67 = .ok (.iload_n 2, 1) := by decide +kernel
theorem dX3_admit_68 : decode cX3_admit 68 = .ok (.invokevirtual 51, 3) := by decide +kernel
theorem dX3_admit_71 : decode cX3_admit 71 = .ok (.return_, 1) := by decide +kernel
set_option maxRecDepth 20000 in
theorem ggX3_introduce_X1_toldState : GoodIn wsX3_introduce wsX1_toldState := goodIn_ca (goodIn_r _ [7, 8, 9, 10, 11, 48, 49, 50, 51, 52, 53, 54, 55, 56, 57] (by decide +kernel) (by decide +kernel)) (goodIn_sub (fun _ h => List.mem_cons_of_mem _ (List.mem_append_right _ h)) (by decide +kernel))
set_option maxRecDepth 20000 in
theorem gX3_introduce_X1_toldState : GoodIn wsX3_introduce (wsV RX3 55 RX1 yX1_toldState wsX1_toldState) := goodIn_app (goodIn_of _ (by decide +kernel)) ggX3_introduce_X1_toldState
set_option maxRecDepth 20000 in
theorem ggX3_introduce_X1_toldIncarnation : GoodIn wsX3_introduce wsX1_toldIncarnation := goodIn_ca (goodIn_r _ [15, 16, 17, 9, 10, 11, 48, 49, 50, 51, 52, 53, 54, 55, 56, 57] (by decide +kernel) (by decide +kernel)) (goodIn_sub (fun _ h => List.mem_cons_of_mem _ (List.mem_append_right _ h)) (by decide +kernel))
set_option maxRecDepth 20000 in
theorem gX3_introduce_X1_toldIncarnation : GoodIn wsX3_introduce (wsV RX3 59 RX1 yX1_toldIncarnation wsX1_toldIncarnation) := goodIn_app (goodIn_of _ (by decide +kernel)) ggX3_introduce_X1_toldIncarnation
set_option maxRecDepth 20000 in
theorem ggX3_introduce_X1_takeIn : GoodIn wsX3_introduce wsX1_takeIn := goodIn_ca (goodIn_r _ [21, 16, 22, 23, 24, 9, 10, 11, 25, 26, 27, 6, 28, 8, 17, 29, 30, 31, 32, 33, 34, 35, 36, 37, 38, 39, 40, 48, 49, 50, 51, 52, 53, 54, 55, 56, 57] (by decide +kernel) (by decide +kernel)) (goodIn_sub (fun _ h => List.mem_cons_of_mem _ (List.mem_append_right _ h)) (by decide +kernel))
set_option maxRecDepth 20000 in
theorem gX3_introduce_X1_takeIn : GoodIn wsX3_introduce (wsV RX3 62 RX1 yX1_takeIn wsX1_takeIn) := goodIn_app (goodIn_of _ (by decide +kernel)) ggX3_introduce_X1_takeIn
theorem dX3_introduce_0 : decode cX3_introduce 0 = .ok (.iconst 0, 1) := by decide +kernel
theorem dX3_introduce_1 : decode cX3_introduce 1 = .ok (.istore_n 3, 1) := by decide +kernel
theorem dX3_introduce_2 : decode cX3_introduce 2 = .ok (.iload_n 3, 1) := by decide +kernel
theorem dX3_introduce_3 : decode cX3_introduce 3 = .ok (.bipush 8, 2) := by decide +kernel
theorem dX3_introduce_5 : decode cX3_introduce 5 = .ok (.if_icmp .ge 46, 3) := by decide +kernel
theorem dX3_introduce_8 : decode cX3_introduce 8 = .ok (.aload_n 0, 1) := by decide +kernel
theorem dX3_introduce_9 : decode cX3_introduce 9 = .ok (.getfield 21, 3) := by decide +kernel
theorem dX3_introduce_12 : decode cX3_introduce 12 = .ok (.iload_n 2, 1) := by decide +kernel
theorem dX3_introduce_13 : decode cX3_introduce 13 = .ok (.iload_n 3, 1) := by decide +kernel
theorem dX3_introduce_14 : decode cX3_introduce 14 = .ok (.invokevirtual 55, 3) := by decide +kernel
theorem dX3_introduce_17 : decode cX3_introduce 17 = .ok (.istore 4, 2) := by decide +kernel
theorem dX3_introduce_19 : decode cX3_introduce 19 = .ok (.iload 4, 2) := by decide +kernel
theorem dX3_introduce_21 : decode cX3_introduce 21 = .ok (.ifCond .eq 24, 3) := by decide +kernel
theorem dX3_introduce_24 : decode cX3_introduce 24 = .ok (.aload_n 0, 1) := by decide +kernel
theorem dX3_introduce_25 : decode cX3_introduce 25 = .ok (.getfield 21, 3) := by decide +kernel
theorem dX3_introduce_28 : decode cX3_introduce 28 = .ok (.iload_n 1, 1) := by decide +kernel
theorem dX3_introduce_29 : decode cX3_introduce 29 = .ok (.iload_n 3, 1) := by decide +kernel
theorem dX3_introduce_30 : decode cX3_introduce 30 = .ok (.iload 4, 2) := by decide +kernel
theorem dX3_introduce_32 : decode cX3_introduce 32 = .ok (.aload_n 0, 1) := by decide +kernel
theorem dX3_introduce_33 : decode cX3_introduce 33 = .ok (.getfield 21, 3) := by decide +kernel
theorem dX3_introduce_36 : decode cX3_introduce 36 = .ok (.iload_n 2, 1) := by decide +kernel
theorem dX3_introduce_37 : decode cX3_introduce 37 = .ok (.iload_n 3, 1) := by decide +kernel
theorem dX3_introduce_38 : decode cX3_introduce 38 = .ok (.invokevirtual 59, 3) := by decide +kernel
theorem dX3_introduce_41 : decode cX3_introduce 41 = .ok (.invokevirtual 62, 3) := by decide +kernel
theorem dX3_introduce_44 : decode cX3_introduce 44 = .ok (.pop, 1) := by decide +kernel
theorem dX3_introduce_45 : decode cX3_introduce 45 = .ok (.iinc 3 1, 3) := by decide +kernel
theorem dX3_introduce_48 : decode cX3_introduce 48 = .ok (.goto (-46), 3) := by decide +kernel
theorem dX3_introduce_51 : decode cX3_introduce 51 = .ok (.aload_n 0, 1) := by decide +kernel
theorem dX3_introduce_52 : decode cX3_introduce 52 = .ok (.getfield 21, 3) := by decide +kernel
theorem dX3_introduce_55 : decode cX3_introduce 55 = .ok (.iload_n 2, 1) := by decide +kernel
theorem dX3_introduce_56 : decode cX3_introduce 56 = .ok (.iload_n 1, 1) := by decide +kernel
theorem dX3_introduce_57 : decode cX3_introduce 57 = .ok (.iconst 1, 1) := by decide +kernel
theorem dX3_introduce_58 : decode cX3_introduce 58 = .ok (.aload_n 0, 1) := by decide +kernel
theorem dX3_introduce_59 : decode cX3_introduce 59 = .ok (.getfield 21, 3) := by decide +kernel
theorem dX3_introduce_62 : decode cX3_introduce 62 = .ok (.getfield 39, 3) := by decide +kernel
theorem dX3_introduce_65 : decode cX3_introduce 65 = .ok (.iload_n 1, 1) := by decide +kernel
theorem dX3_introduce_66 : decode cX3_introduce 66 = .ok (.iaload, 1) := by decide +kernel
theorem dX3_introduce_67 : decode cX3_introduce 67 = .ok (.invokevirtual 62, 3) := by decide +kernel
theorem dX3_introduce_70 : decode cX3_introduce 70 = .ok (.pop, 1) := by decide +kernel
theorem dX3_introduce_71 : decode cX3_introduce 71 = .ok (.return_, 1) := by decide +kernel
set_option maxRecDepth 20000 in
theorem ggX3_play_X3_takeTurn : GoodIn wsX3_play wsX3_takeTurn := goodIn_ca (goodIn_ca (goodIn_r _ [9, 1, 3, 10, 11, 12, 8, 13, 14, 2, 15, 16, 17, 18, 19, 20, 21, 22, 23, 24, 25, 26, 27, 28, 29, 30, 31, 32, 33, 34, 35, 36, 37, 38, 39, 40, 41, 42, 43, 44, 45, 46, 47, 48, 49, 50, 51, 52, 53, 54, 55, 56, 57, 58, 59, 60, 61, 62, 63, 64, 65, 66, 67, 68, 69, 70, 71, 72, 73, 74, 75, 76, 77, 78, 79, 80, 81, 82, 83, 84, 85, 86, 87, 88, 89, 90, 91, 92, 93, 94, 95, 96, 97, 98, 99, 100, 101, 102, 103, 104, 105, 106, 107, 108, 109, 110, 111, 112, 113, 114, 115, 116, 117, 118, 119, 120, 121] (by decide +kernel) (by decide +kernel)) (goodIn_sub (fun _ h => List.mem_cons_of_mem _ (List.mem_append_left _ (List.mem_append_right _ h))) (by decide +kernel))) (goodIn_sub (fun _ h => List.mem_cons_of_mem _ (List.mem_append_right _ h)) (by decide +kernel))
set_option maxRecDepth 20000 in
theorem gX3_play_X3_takeTurn : GoodIn wsX3_play (wsV RX3 69 RX3 yX3_takeTurn wsX3_takeTurn) := goodIn_app (goodIn_of _ (by decide +kernel)) ggX3_play_X3_takeTurn
theorem dX3_play_0 : decode cX3_play 0 = .ok (.iconst 0, 1) := by decide +kernel
theorem dX3_play_1 : decode cX3_play 1 = .ok (.istore_n 2, 1) := by decide +kernel
theorem dX3_play_2 : decode cX3_play 2 = .ok (.iload_n 2, 1) := by decide +kernel
theorem dX3_play_3 : decode cX3_play 3 = .ok (.iload_n 1, 1) := by decide +kernel
theorem dX3_play_4 : decode cX3_play 4 = .ok (.if_icmp .ge 53, 3) := by decide +kernel
theorem dX3_play_7 : decode cX3_play 7 = .ok (.aload_n 0, 1) := by decide +kernel
theorem dX3_play_8 : decode cX3_play 8 = .ok (.getfield 21, 3) := by decide +kernel
theorem dX3_play_11 : decode cX3_play 11 = .ok (.dup, 1) := by decide +kernel
theorem dX3_play_12 : decode cX3_play 12 = .ok (.getfield 66, 3) := by decide +kernel
theorem dX3_play_15 : decode cX3_play 15 = .ok (.iconst 1, 1) := by decide +kernel
theorem dX3_play_16 : decode cX3_play 16 = .ok (.iadd, 1) := by decide +kernel
theorem dX3_play_17 : decode cX3_play 17 = .ok (.putfield 66, 3) := by decide +kernel
theorem dX3_play_20 : decode cX3_play 20 = .ok (.iconst 0, 1) := by decide +kernel
theorem dX3_play_21 : decode cX3_play 21 = .ok (.istore_n 3, 1) := by decide +kernel
theorem dX3_play_22 : decode cX3_play 22 = .ok (.iload_n 3, 1) := by decide +kernel
theorem dX3_play_23 : decode cX3_play 23 = .ok (.bipush 8, 2) := by decide +kernel
theorem dX3_play_25 : decode cX3_play 25 = .ok (.if_icmp .ge 26, 3) := by decide +kernel
theorem dX3_play_28 : decode cX3_play 28 = .ok (.aload_n 0, 1) := by decide +kernel
theorem dX3_play_29 : decode cX3_play 29 = .ok (.getfield 12, 3) := by decide +kernel
theorem dX3_play_32 : decode cX3_play 32 = .ok (.getfield 32, 3) := by decide +kernel
theorem dX3_play_35 : decode cX3_play 35 = .ok (.iload_n 3, 1) := by decide +kernel
theorem dX3_play_36 : decode cX3_play 36 = .ok (.baload, 1) := by decide +kernel
theorem dX3_play_37 : decode cX3_play 37 = .ok (.ifCond .eq 8, 3) := by decide +kernel
theorem dX3_play_40 : decode cX3_play 40 = .ok (.aload_n 0, 1) := by decide +kernel
theorem dX3_play_41 : decode cX3_play 41 = .ok (.iload_n 3, 1) := by decide +kernel
theorem dX3_play_42 : decode cX3_play 42 = .ok (.invokevirtual 69, 3) := by decide +kernel
theorem dX3_play_45 : decode cX3_play 45 = .ok (.iinc 3 1, 3) := by decide +kernel
theorem dX3_play_48 : decode cX3_play 48 = .ok (.goto (-26), 3) := by decide +kernel
theorem dX3_play_51 : decode cX3_play 51 = .ok (.iinc 2 1, 3) := by decide +kernel
theorem dX3_play_54 : decode cX3_play 54 = .ok (.goto (-52), 3) := by decide +kernel
theorem dX3_play_57 : decode cX3_play 57 = .ok (.return_, 1) := by decide +kernel
set_option maxRecDepth 20000 in
theorem ggX3_takeTurn_X3_declareOverdue : GoodIn wsX3_takeTurn wsX3_declareOverdue := goodIn_ca (goodIn_r _ [7, 1, 8, 9, 10, 2, 11, 12, 13, 14, 15, 16, 17, 18, 19, 20, 21, 22, 23, 24, 25, 26, 27, 28, 29, 30, 31, 32, 33, 34, 35, 36, 37, 38, 39, 40, 41, 42, 43, 44, 45, 46, 47, 48, 49, 50, 51, 52, 53, 54, 55, 56, 57, 58, 59, 60, 61, 96, 97, 98, 99, 100, 101, 102, 103, 104, 105, 106, 107, 108, 109, 110, 111, 112, 113, 114, 115, 116] (by decide +kernel) (by decide +kernel)) (goodIn_sub (fun _ h => List.mem_cons_of_mem _ (List.mem_append_left _ (List.mem_append_right _ h))) (by decide +kernel))
set_option maxRecDepth 20000 in
theorem gX3_takeTurn_X3_declareOverdue : GoodIn wsX3_takeTurn (wsV RX3 72 RX3 yX3_declareOverdue wsX3_declareOverdue) := goodIn_app (goodIn_of _ (by decide +kernel)) ggX3_takeTurn_X3_declareOverdue
set_option maxRecDepth 20000 in
theorem ggX3_takeTurn_X1_nodesInState : GoodIn wsX3_takeTurn wsX1_nodesInState := goodIn_ca (goodIn_r _ [16, 17, 18, 19, 20, 103, 104, 105, 106, 107, 108, 109, 110, 111, 112] (by decide +kernel) (by decide +kernel)) (goodIn_sub (fun _ h => List.mem_cons_of_mem _ (List.mem_append_left _ (List.mem_append_right _ h))) (by decide +kernel))
set_option maxRecDepth 20000 in
theorem gX3_takeTurn_X1_nodesInState : GoodIn wsX3_takeTurn (wsV RX3 75 RX1 yX1_nodesInState wsX1_nodesInState) := goodIn_app (goodIn_of _ (by decide +kernel)) ggX3_takeTurn_X1_nodesInState
set_option maxRecDepth 20000 in
theorem ggX3_takeTurn_X3_drawFrom : GoodIn wsX3_takeTurn wsX3_drawFrom := goodIn_ca (goodIn_r _ [65, 66, 67, 68, 69, 70, 71, 72, 73, 74, 75, 76, 96, 97, 98, 99, 100, 101, 102] (by decide +kernel) (by decide +kernel)) (goodIn_sub (fun _ h => List.mem_cons_of_mem _ (List.mem_append_right _ h)) (by decide +kernel))
set_option maxRecDepth 20000 in
theorem gX3_takeTurn_X3_drawFrom : GoodIn wsX3_takeTurn (wsV RX3 78 RX3 yX3_drawFrom wsX3_drawFrom) := goodIn_app (goodIn_of _ (by decide +kernel)) ggX3_takeTurn_X3_drawFrom
set_option maxRecDepth 20000 in
theorem ggX3_takeTurn_X2_connects : GoodIn wsX3_takeTurn wsX2_connects := goodIn_ca (goodIn_r _ [54, 55, 56, 57, 58, 53, 59, 60, 61, 18, 19, 20, 113, 114, 115, 116] (by decide +kernel) (by decide +kernel)) (goodIn_sub (fun _ h => List.mem_cons_of_mem _ (List.mem_append_left _ (List.mem_append_right _ h))) (by decide +kernel))
set_option maxRecDepth 20000 in
theorem gX3_takeTurn_X2_connects : GoodIn wsX3_takeTurn (wsV RX3 47 RX2 yX2_connects wsX2_connects) := goodIn_app (goodIn_of _ (by decide +kernel)) ggX3_takeTurn_X2_connects
set_option maxRecDepth 20000 in
theorem ggX3_takeTurn_X3_send : GoodIn wsX3_takeTurn wsX3_send := goodIn_ca (goodIn_r _ [80, 1, 81, 82, 83, 84, 85, 15, 86, 17, 18, 19, 20, 21, 22, 23, 24, 25, 26, 27, 28, 29, 30, 31, 32, 33, 34, 35, 36, 37, 38, 39, 40, 41, 42, 43, 44, 45, 46, 47, 48, 49, 87, 88, 89, 90, 96, 97, 98, 99, 100, 101, 102, 103, 104, 105, 106, 107, 108, 109, 110, 111, 112] (by decide +kernel) (by decide +kernel)) (goodIn_sub (fun _ h => List.mem_cons_of_mem _ (List.mem_append_left _ (List.mem_append_right _ h))) (by decide +kernel))
set_option maxRecDepth 20000 in
theorem gX3_takeTurn_X3_send : GoodIn wsX3_takeTurn (wsV RX3 82 RX3 yX3_send wsX3_send) := goodIn_app (goodIn_of _ (by decide +kernel)) ggX3_takeTurn_X3_send
set_option maxRecDepth 20000 in
theorem ggX3_takeTurn_X3_helpersReach : GoodIn wsX3_takeTurn wsX3_helpersReach := goodIn_ca (goodIn_ca (goodIn_r _ [94, 1, 95, 2, 12, 13, 14, 15, 16, 17, 18, 19, 20, 62, 63, 64, 6, 65, 66, 67, 68, 69, 70, 71, 72, 73, 74, 75, 76, 50, 51, 52, 53, 54, 55, 56, 57, 58, 59, 60, 61, 96, 97, 98, 99, 100, 101, 102, 103, 104, 105, 106, 107, 108, 109, 110, 111, 112, 113, 114, 115, 116] (by decide +kernel) (by decide +kernel)) (goodIn_sub (fun _ h => List.mem_cons_of_mem _ (List.mem_append_left _ (List.mem_append_right _ h))) (by decide +kernel))) (goodIn_sub (fun _ h => List.mem_cons_of_mem _ (List.mem_append_right _ h)) (by decide +kernel))
set_option maxRecDepth 20000 in
theorem gX3_takeTurn_X3_helpersReach : GoodIn wsX3_takeTurn (wsV RX3 85 RX3 yX3_helpersReach wsX3_helpersReach) := goodIn_app (goodIn_of _ (by decide +kernel)) ggX3_takeTurn_X3_helpersReach
set_option maxRecDepth 20000 in
theorem ggX3_takeTurn_X1_toldIncarnation : GoodIn wsX3_takeTurn wsX1_toldIncarnation := goodIn_ca (goodIn_r _ [24, 25, 26, 18, 19, 20, 103, 104, 105, 106, 107, 108, 109, 110, 111, 112] (by decide +kernel) (by decide +kernel)) (goodIn_sub (fun _ h => List.mem_cons_of_mem _ (List.mem_append_left _ (List.mem_append_right _ h))) (by decide +kernel))
set_option maxRecDepth 20000 in
theorem gX3_takeTurn_X1_toldIncarnation : GoodIn wsX3_takeTurn (wsV RX3 59 RX1 yX1_toldIncarnation wsX1_toldIncarnation) := goodIn_app (goodIn_of _ (by decide +kernel)) ggX3_takeTurn_X1_toldIncarnation
set_option maxRecDepth 20000 in
theorem ggX3_takeTurn_X1_takeIn : GoodIn wsX3_takeTurn wsX1_takeIn := goodIn_ca (goodIn_r _ [30, 25, 31, 32, 33, 18, 19, 20, 34, 35, 36, 15, 37, 17, 26, 38, 39, 40, 41, 42, 43, 44, 45, 46, 47, 48, 49, 103, 104, 105, 106, 107, 108, 109, 110, 111, 112] (by decide +kernel) (by decide +kernel)) (goodIn_sub (fun _ h => List.mem_cons_of_mem _ (List.mem_append_left _ (List.mem_append_right _ h))) (by decide +kernel))
set_option maxRecDepth 20000 in
theorem gX3_takeTurn_X1_takeIn : GoodIn wsX3_takeTurn (wsV RX3 62 RX1 yX1_takeIn wsX1_takeIn) := goodIn_app (goodIn_of _ (by decide +kernel)) ggX3_takeTurn_X1_takeIn
theorem dX3_takeTurn_0 : decode cX3_takeTurn 0 = .ok (.aload_n 0, 1) := by decide +kernel
theorem dX3_takeTurn_1 : decode cX3_takeTurn 1 = .ok (.iload_n 1, 1) := by decide +kernel
theorem dX3_takeTurn_2 : decode cX3_takeTurn 2 = .ok (.invokevirtual 72, 3) := by decide +kernel
theorem dX3_takeTurn_5 : decode cX3_takeTurn 5 = .ok (.aload_n 0, 1) := by decide +kernel
theorem dX3_takeTurn_6 : decode cX3_takeTurn 6 = .ok (.aload_n 0, 1) := by decide +kernel
theorem dX3_takeTurn_7 : decode cX3_takeTurn 7 = .ok (.getfield 21, 3) := by decide +kernel
theorem dX3_takeTurn_10 : decode cX3_takeTurn 10 = .ok (.iload_n 1, 1) := by decide +kernel
theorem dX3_takeTurn_11 : decode cX3_takeTurn 11 = .ok (.iconst 1, 1) := by decide +kernel
theorem dX3_takeTurn_12 : decode cX3_takeTurn 12 = .ok (.invokevirtual 75, 3) := by decide +kernel
theorem dX3_takeTurn_15 : decode cX3_takeTurn 15 = .ok (.aload_n 0, 1) := by decide +kernel
theorem dX3_takeTurn_16 : decode cX3_takeTurn 16 = .ok (.getfield 21, 3) := by decide +kernel
theorem dX3_takeTurn_19 : decode cX3_takeTurn 19 = .ok (.iload_n 1, 1) := by decide +kernel
theorem dX3_takeTurn_20 : decode cX3_takeTurn 20 = .ok (.iconst 2, 1) := by decide +kernel
theorem dX3_takeTurn_21 : decode cX3_takeTurn 21 = .ok (.invokevirtual 75, 3) := by decide +kernel
theorem dX3_takeTurn_24 : decode cX3_takeTurn 24 = .ok (.ior, 1) := by decide +kernel
theorem dX3_takeTurn_25 : decode cX3_takeTurn 25 = .ok (.invokevirtual 78, 3) := by decide +kernel
theorem dX3_takeTurn_28 : decode cX3_takeTurn 28 = .ok (.istore_n 2, 1) := by decide +kernel
theorem dX3_takeTurn_29 : decode cX3_takeTurn 29 = .ok (.iload_n 2, 1) := by decide +kernel
theorem dX3_takeTurn_30 : decode cX3_takeTurn 30 = .ok (.iconst (-1), 1) := by decide +kernel
theorem dX3_takeTurn_31 : decode cX3_takeTurn 31 = .ok (.if_icmp .ne 4, 3) := by decide +kernel
theorem dX3_takeTurn_34 : decode cX3_takeTurn 34 = .ok (.return_, 1) := by decide +kernel
theorem dX3_takeTurn_35 : decode cX3_takeTurn 35 = .ok (.aload_n 0, 1) := by decide +kernel
theorem dX3_takeTurn_36 : decode cX3_takeTurn 36 = .ok (.getfield 12, 3) := by decide +kernel
theorem dX3_takeTurn_39 : decode cX3_takeTurn 39 = .ok (.iload_n 1, 1) := by decide +kernel
theorem dX3_takeTurn_40 : decode cX3_takeTurn 40 = .ok (.iload_n 2, 1) := by decide +kernel
theorem dX3_takeTurn_41 : decode cX3_takeTurn 41 = .ok (.invokevirtual 47, 3) := by decide +kernel
theorem dX3_takeTurn_44 : decode cX3_takeTurn 44 = .ok (.ifCond .eq 18, 3) := by decide +kernel
theorem dX3_takeTurn_47 : decode cX3_takeTurn 47 = .ok (.aload_n 0, 1) := by decide +kernel
theorem dX3_takeTurn_48 : decode cX3_takeTurn 48 = .ok (.iload_n 1, 1) := by decide +kernel
theorem dX3_takeTurn_49 : decode cX3_takeTurn 49 = .ok (.iload_n 2, 1) := by decide +kernel
theorem dX3_takeTurn_50 : decode cX3_takeTurn 50 = .ok (.invokevirtual 82, 3) := by decide +kernel
theorem dX3_takeTurn_53 : decode cX3_takeTurn 53 = .ok (.aload_n 0, 1) := by decide +kernel
theorem dX3_takeTurn_54 : decode cX3_takeTurn 54 = .ok (.iload_n 2, 1) := by decide +kernel
theorem dX3_takeTurn_55 : decode cX3_takeTurn 55 = .ok (.iload_n 1, 1) := by decide +kernel
theorem dX3_takeTurn_56 : decode cX3_takeTurn 56 = .ok (.invokevirtual 82, 3) := by decide +kernel
theorem dX3_takeTurn_59 : decode cX3_takeTurn 59 = .ok (.goto 32, 3) := by decide +kernel
theorem dX3_takeTurn_62 : decode cX3_takeTurn 62 = .ok (.aload_n 0, 1) := by decide +kernel
theorem dX3_takeTurn_63 : decode cX3_takeTurn 63 = .ok (.iload_n 1, 1) := by decide +kernel
theorem dX3_takeTurn_64 : decode cX3_takeTurn 64 = .ok (.iload_n 2, 1) := by decide +kernel
theorem dX3_takeTurn_65 : decode cX3_takeTurn 65 = .ok (.invokevirtual 85, 3) := by decide +kernel
theorem dX3_takeTurn_68 : decode cX3_takeTurn 68 = .ok (.ifCond .ne 23, 3) := by decide +kernel
theorem dX3_takeTurn_71 : decode cX3_takeTurn 71 = .ok (.aload_n 0, 1) := by decide +kernel
theorem dX3_takeTurn_72 : decode cX3_takeTurn 72 = .ok (.getfield 21, 3) := by decide +kernel
theorem dX3_takeTurn_75 : decode cX3_takeTurn 75 = .ok (.iload_n 1, 1) := by decide +kernel
theorem dX3_takeTurn_76 : decode cX3_takeTurn 76 = .ok (.iload_n 2, 1) := by decide +kernel
theorem dX3_takeTurn_77 : decode cX3_takeTurn 77 = .ok (.iconst 2, 1) := by decide +kernel
theorem dX3_takeTurn_78 : decode cX3_takeTurn 78 = .ok (.aload_n 0, 1) := by decide +kernel
theorem dX3_takeTurn_79 : decode cX3_takeTurn 79 = .ok (.getfield 21, 3) := by decide +kernel
theorem dX3_takeTurn_82 : decode cX3_takeTurn 82 = .ok (.iload_n 1, 1) := by decide +kernel
theorem dX3_takeTurn_83 : decode cX3_takeTurn 83 = .ok (.iload_n 2, 1) := by decide +kernel
theorem dX3_takeTurn_84 : decode cX3_takeTurn 84 = .ok (.invokevirtual 59, 3) := by decide +kernel
theorem dX3_takeTurn_87 : decode cX3_takeTurn 87 = .ok (.invokevirtual 62, 3) := by decide +kernel
theorem dX3_takeTurn_90 : decode cX3_takeTurn 90 = .ok (.pop, 1) := by decide +kernel
theorem dX3_takeTurn_91 : decode cX3_takeTurn 91 = .ok (.return_, 1) := by decide +kernel
set_option maxRecDepth 20000 in
theorem ggX3_declareOverdue_X1_nodesInState : GoodIn wsX3_declareOverdue wsX1_nodesInState := goodIn_ca (goodIn_r _ [11, 12, 13, 14, 15, 64, 65, 66, 67, 68, 69, 70, 71, 72, 73] (by decide +kernel) (by decide +kernel)) (goodIn_sub (fun _ h => List.mem_cons_of_mem _ (List.mem_append_right _ h)) (by decide +kernel))
set_option maxRecDepth 20000 in
theorem gX3_declareOverdue_X1_nodesInState : GoodIn wsX3_declareOverdue (wsV RX3 75 RX1 yX1_nodesInState wsX1_nodesInState) := goodIn_app (goodIn_of _ (by decide +kernel)) ggX3_declareOverdue_X1_nodesInState
set_option maxRecDepth 20000 in
theorem ggX3_declareOverdue_X4_pair : GoodIn wsX3_declareOverdue wsX4_pair := goodIn_r _ [15] (by decide +kernel) (by decide +kernel)
set_option maxRecDepth 20000 in
theorem gX3_declareOverdue_X4_pair_n91 : GoodIn wsX3_declareOverdue (wsX4_pair) := ggX3_declareOverdue_X4_pair
set_option maxRecDepth 20000 in
theorem ggX3_declareOverdue_X1_toldIncarnation : GoodIn wsX3_declareOverdue wsX1_toldIncarnation := goodIn_ca (goodIn_r _ [19, 20, 21, 13, 14, 15, 64, 65, 66, 67, 68, 69, 70, 71, 72, 73] (by decide +kernel) (by decide +kernel)) (goodIn_sub (fun _ h => List.mem_cons_of_mem _ (List.mem_append_right _ h)) (by decide +kernel))
set_option maxRecDepth 20000 in
theorem gX3_declareOverdue_X1_toldIncarnation : GoodIn wsX3_declareOverdue (wsV RX3 59 RX1 yX1_toldIncarnation wsX1_toldIncarnation) := goodIn_app (goodIn_of _ (by decide +kernel)) ggX3_declareOverdue_X1_toldIncarnation
set_option maxRecDepth 20000 in
theorem ggX3_declareOverdue_X1_takeIn : GoodIn wsX3_declareOverdue wsX1_takeIn := goodIn_ca (goodIn_r _ [25, 20, 26, 27, 28, 13, 14, 15, 29, 30, 31, 10, 32, 12, 21, 33, 34, 35, 36, 37, 38, 39, 40, 41, 42, 43, 44, 64, 65, 66, 67, 68, 69, 70, 71, 72, 73] (by decide +kernel) (by decide +kernel)) (goodIn_sub (fun _ h => List.mem_cons_of_mem _ (List.mem_append_right _ h)) (by decide +kernel))
set_option maxRecDepth 20000 in
theorem gX3_declareOverdue_X1_takeIn : GoodIn wsX3_declareOverdue (wsV RX3 62 RX1 yX1_takeIn wsX1_takeIn) := goodIn_app (goodIn_of _ (by decide +kernel)) ggX3_declareOverdue_X1_takeIn
set_option maxRecDepth 20000 in
theorem ggX3_declareOverdue_X2_connects : GoodIn wsX3_declareOverdue wsX2_connects := goodIn_ca (goodIn_r _ [49, 50, 51, 52, 53, 48, 54, 55, 56, 13, 14, 15, 74, 75, 76, 77] (by decide +kernel) (by decide +kernel)) (goodIn_sub (fun _ h => List.mem_cons_of_mem _ (List.mem_append_right _ h)) (by decide +kernel))
set_option maxRecDepth 20000 in
theorem gX3_declareOverdue_X2_connects : GoodIn wsX3_declareOverdue (wsV RX3 47 RX2 yX2_connects wsX2_connects) := goodIn_app (goodIn_of _ (by decide +kernel)) ggX3_declareOverdue_X2_connects
theorem dX3_declareOverdue_0 : decode cX3_declareOverdue 0 = .ok (.aload_n 0, 1) := by decide +kernel
theorem dX3_declareOverdue_1 : decode cX3_declareOverdue 1 = .ok (.getfield 21, 3) := by decide +kernel
theorem dX3_declareOverdue_4 : decode cX3_declareOverdue 4 = .ok (.iload_n 1, 1) := by decide +kernel
theorem dX3_declareOverdue_5 : decode cX3_declareOverdue 5 = .ok (.iconst 2, 1) := by decide +kernel
theorem dX3_declareOverdue_6 : decode cX3_declareOverdue 6 = .ok (.invokevirtual 75, 3) := by decide +kernel
theorem dX3_declareOverdue_9 : decode cX3_declareOverdue 9 = .ok (.istore_n 2, 1) := by decide +kernel
theorem dX3_declareOverdue_10 : decode cX3_declareOverdue 10 = .ok (.iconst 0, 1) := by decide +kernel
theorem dX3_declareOverdue_11 : decode cX3_declareOverdue 11 = .ok (.istore_n 3, 1) := by decide +kernel
theorem dX3_declareOverdue_12 : decode cX3_declareOverdue 12 = .ok (.iload_n 3, 1) := by decide +kernel
theorem dX3_declareOverdue_13 : decode cX3_declareOverdue 13 = .ok (.bipush 8, 2) := by decide +kernel
theorem dX3_declareOverdue_15 : decode cX3_declareOverdue 15 = .ok (.if_icmp .ge 93, 3) := by decide +kernel
theorem dX3_declareOverdue_18 : decode cX3_declareOverdue 18 = .ok (.iload_n 2, 1) := by decide +kernel
theorem dX3_declareOverdue_19 : decode cX3_declareOverdue 19 = .ok (.iload_n 3, 1) := by decide +kernel
theorem dX3_declareOverdue_20 : decode cX3_declareOverdue 20 = .ok (.ishr, 1) := by decide +kernel
theorem dX3_declareOverdue_21 : decode cX3_declareOverdue 21 = .ok (.iconst 1, 1) := by decide +kernel
theorem dX3_declareOverdue_22 : decode cX3_declareOverdue 22 = .ok (.iand, 1) := by decide +kernel
theorem dX3_declareOverdue_23 : decode cX3_declareOverdue 23 = .ok (.iconst 1, 1) := by decide +kernel
theorem dX3_declareOverdue_24 : decode cX3_declareOverdue 24 = .ok (.if_icmp .ne 78, 3) := by decide +kernel
theorem dX3_declareOverdue_27 : decode cX3_declareOverdue 27 = .ok (.aload_n 0, 1) := by decide +kernel
theorem dX3_declareOverdue_28 : decode cX3_declareOverdue 28 = .ok (.getfield 21, 3) := by decide +kernel
theorem dX3_declareOverdue_31 : decode cX3_declareOverdue 31 = .ok (.getfield 88, 3) := by decide +kernel
theorem dX3_declareOverdue_34 : decode cX3_declareOverdue 34 = .ok (.iload_n 1, 1) := by decide +kernel
theorem dX3_declareOverdue_35 : decode cX3_declareOverdue 35 = .ok (.iload_n 3, 1) := by decide +kernel
theorem dX3_declareOverdue_36 : decode cX3_declareOverdue 36 = .ok (.invokestatic 91, 3) := by decide +kernel
theorem dX3_declareOverdue_39 : decode cX3_declareOverdue 39 = .ok (.iaload, 1) := by decide +kernel
theorem dX3_declareOverdue_40 : decode cX3_declareOverdue 40 = .ok (.aload_n 0, 1) := by decide +kernel
theorem dX3_declareOverdue_41 : decode cX3_declareOverdue 41 = .ok (.getfield 21, 3) := by decide +kernel
theorem dX3_declareOverdue_44 : decode cX3_declareOverdue 44 = .ok (.getfield 66, 3) := by decide +kernel
theorem dX3_declareOverdue_47 : decode cX3_declareOverdue 47 = .ok (.if_icmp .gt 55, 3) := by decide +kernel
theorem dX3_declareOverdue_50 : decode cX3_declareOverdue 50 = .ok (.aload_n 0, 1) := by decide +kernel
theorem dX3_declareOverdue_51 : decode cX3_declareOverdue 51 = .ok (.getfield 21, 3) := by decide +kernel
theorem dX3_declareOverdue_54 : decode cX3_declareOverdue 54 = .ok (.iload_n 1, 1) := by decide +kernel
theorem dX3_declareOverdue_55 : decode cX3_declareOverdue 55 = .ok (.iload_n 3, 1) := by decide +kernel
theorem dX3_declareOverdue_56 : decode cX3_declareOverdue 56 = .ok (.iconst 3, 1) := by decide +kernel
theorem dX3_declareOverdue_57 : decode cX3_declareOverdue 57 = .ok (.aload_n 0, 1) := by decide +kernel
theorem dX3_declareOverdue_58 : decode cX3_declareOverdue 58 = .ok (.getfield 21, 3) := by decide +kernel
theorem dX3_declareOverdue_61 : decode cX3_declareOverdue 61 = .ok (.iload_n 1, 1) := by decide +kernel
theorem dX3_declareOverdue_62 : decode cX3_declareOverdue 62 = .ok (.iload_n 3, 1) := by decide +kernel
theorem dX3_declareOverdue_63 : decode cX3_declareOverdue 63 = .ok (.invokevirtual 59, 3) := by decide +kernel
theorem dX3_declareOverdue_66 : decode cX3_declareOverdue 66 = .ok (.invokevirtual 62, 3) := by decide +kernel
theorem dX3_declareOverdue_69 : decode cX3_declareOverdue 69 = .ok (.pop, 1) := by decide +kernel
theorem dX3_declareOverdue_70 : decode cX3_declareOverdue 70 = .ok (.aload_n 0, 1) := by decide +kernel
theorem dX3_declareOverdue_71 : decode cX3_declareOverdue 71 = .ok (.dup, 1) := by decide +kernel
theorem dX3_declareOverdue_72 : decode cX3_declareOverdue 72 = .ok (.getfield 94, 3) := by decide +kernel
theorem dX3_declareOverdue_75 : decode cX3_declareOverdue 75 = .ok (.iconst 1, 1) := by decide +kernel
theorem dX3_declareOverdue_76 : decode cX3_declareOverdue 76 = .ok (.iadd, 1) := by decide +kernel
theorem dX3_declareOverdue_77 : decode cX3_declareOverdue 77 = .ok (.putfield 94, 3) := by decide +kernel
theorem dX3_declareOverdue_80 : decode cX3_declareOverdue 80 = .ok (.aload_n 0, 1) := by decide +kernel
theorem dX3_declareOverdue_81 : decode cX3_declareOverdue 81 = .ok (.getfield 12, 3) := by decide +kernel
theorem dX3_declareOverdue_84 : decode cX3_declareOverdue 84 = .ok (.iload_n 1, 1) := by decide +kernel
theorem dX3_declareOverdue_85 : decode cX3_declareOverdue 85 = .ok (.iload_n 3, 1) := by decide +kernel
theorem dX3_declareOverdue_86 : decode cX3_declareOverdue 86 = .ok (.invokevirtual 47, 3) := by decide +kernel
theorem dX3_declareOverdue_89 : decode cX3_declareOverdue 89 = .ok (.ifCond .eq 13, 3) := by decide +kernel
theorem dX3_declareOverdue_92 : decode cX3_declareOverdue 92 = .ok (.aload_n 0, 1) := by decide +kernel
theorem dX3_declareOverdue_93 : decode cX3_declareOverdue 93 = .ok (.dup, 1) := by decide +kernel
theorem dX3_declareOverdue_94 : decode cX3_declareOverdue 94 = .ok (.getfield 97, 3) := by decide +kernel
theorem dX3_declareOverdue_97 : decode cX3_declareOverdue 97 = .ok (.iconst 1, 1) := by decide +kernel
theorem dX3_declareOverdue_98 : decode cX3_declareOverdue 98 = .ok (.iadd, 1) := by decide +kernel
theorem dX3_declareOverdue_99 : decode cX3_declareOverdue 99 = .ok (.putfield 97, 3) := by decide +kernel
theorem dX3_declareOverdue_102 : decode cX3_declareOverdue 102 = .ok (.iinc 3 1, 3) := by decide +kernel
theorem dX3_declareOverdue_105 : decode cX3_declareOverdue 105 = .ok (.goto (-93), 3) := by decide +kernel
theorem dX3_declareOverdue_108 : decode cX3_declareOverdue 108 = .ok (.return_, 1) := by decide +kernel
set_option maxRecDepth 20000 in
theorem ggX3_helpersReach_X1_nodesInState : GoodIn wsX3_helpersReach wsX1_nodesInState := goodIn_ca (goodIn_r _ [8, 9, 10, 11, 12, 48, 49, 50, 51, 52, 53, 54, 55, 56, 57] (by decide +kernel) (by decide +kernel)) (goodIn_sub (fun _ h => List.mem_cons_of_mem _ (List.mem_append_left _ (List.mem_append_right _ h))) (by decide +kernel))
set_option maxRecDepth 20000 in
theorem gX3_helpersReach_X1_nodesInState : GoodIn wsX3_helpersReach (wsV RX3 75 RX1 yX1_nodesInState wsX1_nodesInState) := goodIn_app (goodIn_of _ (by decide +kernel)) ggX3_helpersReach_X1_nodesInState
set_option maxRecDepth 20000 in
theorem ggX3_helpersReach_X3_drawFrom : GoodIn wsX3_helpersReach wsX3_drawFrom := goodIn_ca (goodIn_r _ [17, 18, 19, 20, 21, 22, 23, 24, 25, 26, 27, 28, 41, 42, 43, 44, 45, 46, 47] (by decide +kernel) (by decide +kernel)) (goodIn_sub (fun _ h => List.mem_cons_of_mem _ (List.mem_append_right _ h)) (by decide +kernel))
set_option maxRecDepth 20000 in
theorem gX3_helpersReach_X3_drawFrom : GoodIn wsX3_helpersReach (wsV RX3 78 RX3 yX3_drawFrom wsX3_drawFrom) := goodIn_app (goodIn_of _ (by decide +kernel)) ggX3_helpersReach_X3_drawFrom
set_option maxRecDepth 20000 in
theorem ggX3_helpersReach_X2_connects : GoodIn wsX3_helpersReach wsX2_connects := goodIn_ca (goodIn_r _ [33, 34, 35, 36, 37, 32, 38, 39, 40, 10, 11, 12, 58, 59, 60, 61] (by decide +kernel) (by decide +kernel)) (goodIn_sub (fun _ h => List.mem_cons_of_mem _ (List.mem_append_left _ (List.mem_append_right _ h))) (by decide +kernel))
set_option maxRecDepth 20000 in
theorem gX3_helpersReach_X2_connects : GoodIn wsX3_helpersReach (wsV RX3 47 RX2 yX2_connects wsX2_connects) := goodIn_app (goodIn_of _ (by decide +kernel)) ggX3_helpersReach_X2_connects
theorem dX3_helpersReach_0 : decode cX3_helpersReach 0 = .ok (.iconst 0, 1) := by decide +kernel
theorem dX3_helpersReach_1 : decode cX3_helpersReach 1 = .ok (.istore_n 3, 1) := by decide +kernel
theorem dX3_helpersReach_2 : decode cX3_helpersReach 2 = .ok (.aload_n 0, 1) := by decide +kernel
theorem dX3_helpersReach_3 : decode cX3_helpersReach 3 = .ok (.getfield 21, 3) := by decide +kernel
theorem dX3_helpersReach_6 : decode cX3_helpersReach 6 = .ok (.iload_n 1, 1) := by decide +kernel
theorem dX3_helpersReach_7 : decode cX3_helpersReach 7 = .ok (.iconst 1, 1) := by decide +kernel
theorem dX3_helpersReach_8 : decode cX3_helpersReach 8 = .ok (.invokevirtual 75, 3) := by decide +kernel
theorem dX3_helpersReach_11 : decode cX3_helpersReach 11 = .ok (.iconst 1, 1) := by decide +kernel
theorem dX3_helpersReach_12 : decode cX3_helpersReach 12 = .ok (.iload_n 2, 1) := by decide +kernel
theorem dX3_helpersReach_13 : decode cX3_helpersReach 13 = .ok (.ishl, 1) := by decide +kernel
theorem dX3_helpersReach_14 : decode cX3_helpersReach 14 = .ok (.iconst (-1), 1) := by decide +kernel
theorem dX3_helpersReach_15 : decode cX3_helpersReach 15 = .ok (.ixor, 1) := by decide +kernel
theorem dX3_helpersReach_16 : decode cX3_helpersReach 16 = .ok (.iand, 1) := by decide +kernel
theorem dX3_helpersReach_17 : decode cX3_helpersReach 17 = .ok (.istore 4, 2) := by decide +kernel
theorem dX3_helpersReach_19 : decode cX3_helpersReach 19 = .ok (.iconst 0, 1) := by decide +kernel
theorem dX3_helpersReach_20 : decode cX3_helpersReach 20 = .ok (.istore 5, 2) := by decide +kernel
theorem dX3_helpersReach_22 : decode cX3_helpersReach 22 = .ok (.iload 5, 2) := by decide +kernel
theorem dX3_helpersReach_24 : decode cX3_helpersReach 24 = .ok (.aload_n 0, 1) := by decide +kernel
theorem dX3_helpersReach_25 : decode cX3_helpersReach 25 = .ok (.getfield 25, 3) := by decide +kernel
theorem dX3_helpersReach_28 : decode cX3_helpersReach 28 = .ok (.if_icmp .ge 64, 3) := by decide +kernel
theorem dX3_helpersReach_31 : decode cX3_helpersReach 31 = .ok (.aload_n 0, 1) := by decide +kernel
theorem dX3_helpersReach_32 : decode cX3_helpersReach 32 = .ok (.iload 4, 2) := by decide +kernel
theorem dX3_helpersReach_34 : decode cX3_helpersReach 34 = .ok (.invokevirtual 78, 3) := by decide +kernel
theorem dX3_helpersReach_37 : decode cX3_helpersReach 37 = .ok (.istore 6, 2) := by decide +kernel
theorem dX3_helpersReach_39 : decode cX3_helpersReach 39 = .ok (.iload 6, 2) := by decide +kernel
theorem dX3_helpersReach_41 : decode cX3_helpersReach 41 = .ok (.iconst (-1), 1) := by decide +kernel
theorem dX3_helpersReach_42 : decode cX3_helpersReach 42 = .ok (.if_icmp .ne 5, 3) := by decide +kernel
theorem dX3_helpersReach_45 : decode cX3_helpersReach 45 = .ok (.iload_n 3, 1) := by decide +kernel
theorem dX3_helpersReach_46 : decode cX3_helpersReach 46 = .ok (.ireturn, 1) := by decide +kernel
theorem dX3_helpersReach_47 : decode cX3_helpersReach 47 = .ok (.iload 4, 2) := by decide +kernel
theorem dX3_helpersReach_49 : decode cX3_helpersReach 49 = .ok (.iconst 1, 1) := by decide +kernel
theorem dX3_helpersReach_50 : decode cX3_helpersReach 50 = .ok (.iload 6, 2) := by decide +kernel
theorem dX3_helpersReach_52 : decode cX3_helpersReach 52 = .ok (.ishl, 1) := by decide +kernel
theorem dX3_helpersReach_53 : decode cX3_helpersReach 53 = .ok (.iconst (-1), 1) := by decide +kernel
theorem dX3_helpersReach_54 : decode cX3_helpersReach 54 = .ok (.ixor, 1) := by decide +kernel
theorem dX3_helpersReach_55 : decode cX3_helpersReach 55 = .ok (.iand, 1) := by decide +kernel
theorem dX3_helpersReach_56 : decode cX3_helpersReach 56 = .ok (.istore 4, 2) := by decide +kernel
theorem dX3_helpersReach_58 : decode cX3_helpersReach 58 = .ok (.aload_n 0, 1) := by decide +kernel
theorem dX3_helpersReach_59 : decode cX3_helpersReach 59 = .ok (.getfield 12, 3) := by decide +kernel
theorem dX3_helpersReach_62 : decode cX3_helpersReach 62 = .ok (.iload_n 1, 1) := by decide +kernel
theorem dX3_helpersReach_63 : decode cX3_helpersReach 63 = .ok (.iload 6, 2) := by decide +kernel
theorem dX3_helpersReach_65 : decode cX3_helpersReach 65 = .ok (.invokevirtual 47, 3) := by decide +kernel
theorem dX3_helpersReach_68 : decode cX3_helpersReach 68 = .ok (.ifCond .eq 18, 3) := by decide +kernel
theorem dX3_helpersReach_71 : decode cX3_helpersReach 71 = .ok (.aload_n 0, 1) := by decide +kernel
theorem dX3_helpersReach_72 : decode cX3_helpersReach 72 = .ok (.getfield 12, 3) := by decide +kernel
theorem dX3_helpersReach_75 : decode cX3_helpersReach 75 = .ok (.iload 6, 2) := by decide +kernel
theorem dX3_helpersReach_77 : decode cX3_helpersReach 77 = .ok (.iload_n 2, 1) := by decide +kernel
theorem dX3_helpersReach_78 : decode cX3_helpersReach 78 = .ok (.invokevirtual 47, 3) := by decide +kernel
theorem dX3_helpersReach_81 : decode cX3_helpersReach 81 = .ok (.ifCond .eq 5, 3) := by decide +kernel
theorem dX3_helpersReach_84 : decode cX3_helpersReach 84 = .ok (.iconst 1, 1) := by decide +kernel
theorem dX3_helpersReach_85 : decode cX3_helpersReach 85 = .ok (.istore_n 3, 1) := by decide +kernel
theorem dX3_helpersReach_86 : decode cX3_helpersReach 86 = .ok (.iinc 5 1, 3) := by decide +kernel
theorem dX3_helpersReach_89 : decode cX3_helpersReach 89 = .ok (.goto (-67), 3) := by decide +kernel
theorem dX3_helpersReach_92 : decode cX3_helpersReach 92 = .ok (.iload_n 3, 1) := by decide +kernel
theorem dX3_helpersReach_93 : decode cX3_helpersReach 93 = .ok (.ireturn, 1) := by decide +kernel
set_option maxRecDepth 20000 in
theorem ggX3_drawFrom_J6_bitCount_0f7a4 : GoodIn wsX3_drawFrom wsJ6_bitCount_0f7a4 := goodIn_r _ [8, 9, 10, 11] (by decide +kernel) (by decide +kernel)
set_option maxRecDepth 20000 in
theorem gX3_drawFrom_J6_bitCount_0f7a4 : GoodIn wsX3_drawFrom (va_wsS RX3 100 yJ6_bitCount_0f7a4 wsJ6_bitCount_0f7a4) := goodIn_app (goodIn_of _ (by decide +kernel)) ggX3_drawFrom_J6_bitCount_0f7a4
theorem dX3_drawFrom_0 : decode cX3_drawFrom 0 = .ok (.iload_n 1, 1) := by decide +kernel
theorem dX3_drawFrom_1 : decode cX3_drawFrom 1 = .ok (.invokestatic 100, 3) := by decide +kernel
theorem dX3_drawFrom_4 : decode cX3_drawFrom 4 = .ok (.istore_n 2, 1) := by decide +kernel
theorem dX3_drawFrom_5 : decode cX3_drawFrom 5 = .ok (.iload_n 2, 1) := by decide +kernel
theorem dX3_drawFrom_6 : decode cX3_drawFrom 6 = .ok (.ifCond .ne 5, 3) := by decide +kernel
theorem dX3_drawFrom_9 : decode cX3_drawFrom 9 = .ok (.iconst (-1), 1) := by decide +kernel
theorem dX3_drawFrom_10 : decode cX3_drawFrom 10 = .ok (.ireturn, 1) := by decide +kernel
theorem dX3_drawFrom_11 : decode cX3_drawFrom 11 = .ok (.aload_n 0, 1) := by decide +kernel
theorem dX3_drawFrom_12 : decode cX3_drawFrom 12 = .ok (.aload_n 0, 1) := by decide +kernel
theorem dX3_drawFrom_13 : decode cX3_drawFrom 13 = .ok (.getfield 29, 3) := by decide +kernel
theorem dX3_drawFrom_16 : decode cX3_drawFrom 16 = .ok (.i2l, 1) := by decide +kernel
theorem dX3_drawFrom_17 : decode cX3_drawFrom 17 = .ok (.ldc2_w 105, 3) := by decide +kernel
theorem dX3_drawFrom_20 : decode cX3_drawFrom 20 = .ok (.lmul, 1) := by decide +kernel
theorem dX3_drawFrom_21 : decode cX3_drawFrom 21 = .ok (.ldc2_w 107, 3) := by decide +kernel
theorem dX3_drawFrom_24 : decode cX3_drawFrom 24 = .ok (.ladd, 1) := by decide +kernel
theorem dX3_drawFrom_25 : decode cX3_drawFrom 25 = .ok (.ldc2_w 109, 3) := by decide +kernel
theorem dX3_drawFrom_28 : decode cX3_drawFrom 28 = .ok (.lrem, 1) := by decide +kernel
theorem dX3_drawFrom_29 : decode cX3_drawFrom 29 = .ok (.l2i, 1) := by decide +kernel
theorem dX3_drawFrom_30 : decode cX3_drawFrom 30 = .ok (.putfield 29, 3) := by decide +kernel
theorem dX3_drawFrom_33 : decode cX3_drawFrom 33 = .ok (.aload_n 0, 1) := by decide +kernel
theorem dX3_drawFrom_34 : decode cX3_drawFrom 34 = .ok (.getfield 29, 3) := by decide +kernel
theorem dX3_drawFrom_37 : decode cX3_drawFrom 37 = .ok (.sipush 256, 3) := by decide +kernel
theorem dX3_drawFrom_40 : decode cX3_drawFrom 40 = .ok (.idiv, 1) := by decide +kernel
theorem dX3_drawFrom_41 : decode cX3_drawFrom 41 = .ok (.iload_n 2, 1) := by decide +kernel
theorem dX3_drawFrom_42 : decode cX3_drawFrom 42 = .ok (.irem, 1) := by decide +kernel
theorem dX3_drawFrom_43 : decode cX3_drawFrom 43 = .ok (.istore_n 3, 1) := by decide +kernel
theorem dX3_drawFrom_44 : decode cX3_drawFrom 44 = .ok (.iconst 0, 1) := by decide +kernel
theorem dX3_drawFrom_45 : decode cX3_drawFrom 45 = .ok (.istore 4, 2) := by decide +kernel
theorem dX3_drawFrom_47 : decode cX3_drawFrom 47 = .ok (.iload 4, 2) := by decide +kernel
theorem dX3_drawFrom_49 : decode cX3_drawFrom 49 = .ok (.bipush 8, 2) := by decide +kernel
theorem dX3_drawFrom_51 : decode cX3_drawFrom 51 = .ok (.if_icmp .ge 29, 3) := by decide +kernel
theorem dX3_drawFrom_54 : decode cX3_drawFrom 54 = .ok (.iload_n 1, 1) := by decide +kernel
theorem dX3_drawFrom_55 : decode cX3_drawFrom 55 = .ok (.iload 4, 2) := by decide +kernel
theorem dX3_drawFrom_57 : decode cX3_drawFrom 57 = .ok (.ishr, 1) := by decide +kernel
theorem dX3_drawFrom_58 : decode cX3_drawFrom 58 = .ok (.iconst 1, 1) := by decide +kernel
theorem dX3_drawFrom_59 : decode cX3_drawFrom 59 = .ok (.iand, 1) := by decide +kernel
theorem dX3_drawFrom_60 : decode cX3_drawFrom 60 = .ok (.iconst 1, 1) := by decide +kernel
theorem dX3_drawFrom_61 : decode cX3_drawFrom 61 = .ok (.if_icmp .ne 13, 3) := by decide +kernel
theorem dX3_drawFrom_64 : decode cX3_drawFrom 64 = .ok (.iload_n 3, 1) := by decide +kernel
theorem dX3_drawFrom_65 : decode cX3_drawFrom 65 = .ok (.ifCond .ne 6, 3) := by decide +kernel
theorem dX3_drawFrom_68 : decode cX3_drawFrom 68 = .ok (.iload 4, 2) := by decide +kernel
theorem dX3_drawFrom_70 : decode cX3_drawFrom 70 = .ok (.ireturn, 1) := by decide +kernel
theorem dX3_drawFrom_71 : decode cX3_drawFrom 71 = .ok (.iinc 3 (-1), 3) := by decide +kernel
theorem dX3_drawFrom_74 : decode cX3_drawFrom 74 = .ok (.iinc 4 1, 3) := by decide +kernel
theorem dX3_drawFrom_77 : decode cX3_drawFrom 77 = .ok (.goto (-30), 3) := by decide +kernel
theorem dX3_drawFrom_80 : decode cX3_drawFrom 80 = .ok (.iconst (-1), 1) := by decide +kernel
theorem dX3_drawFrom_81 : decode cX3_drawFrom 81 = .ok (.ireturn, 1) := by decide +kernel
set_option maxRecDepth 20000 in
theorem ggX3_send_X1_toldState : GoodIn wsX3_send wsX1_toldState := goodIn_ca (goodIn_r _ [8, 9, 10, 11, 12, 53, 54, 55, 56, 57, 58, 59, 60, 61, 62] (by decide +kernel) (by decide +kernel)) (goodIn_sub (fun _ h => List.mem_cons_of_mem _ (List.mem_append_right _ h)) (by decide +kernel))
set_option maxRecDepth 20000 in
theorem gX3_send_X1_toldState : GoodIn wsX3_send (wsV RX3 55 RX1 yX1_toldState wsX1_toldState) := goodIn_app (goodIn_of _ (by decide +kernel)) ggX3_send_X1_toldState
set_option maxRecDepth 20000 in
theorem ggX3_send_X1_toldIncarnation : GoodIn wsX3_send wsX1_toldIncarnation := goodIn_ca (goodIn_r _ [16, 17, 18, 10, 11, 12, 53, 54, 55, 56, 57, 58, 59, 60, 61, 62] (by decide +kernel) (by decide +kernel)) (goodIn_sub (fun _ h => List.mem_cons_of_mem _ (List.mem_append_right _ h)) (by decide +kernel))
set_option maxRecDepth 20000 in
theorem gX3_send_X1_toldIncarnation : GoodIn wsX3_send (wsV RX3 59 RX1 yX1_toldIncarnation wsX1_toldIncarnation) := goodIn_app (goodIn_of _ (by decide +kernel)) ggX3_send_X1_toldIncarnation
set_option maxRecDepth 20000 in
theorem ggX3_send_X1_takeIn : GoodIn wsX3_send wsX1_takeIn := goodIn_ca (goodIn_r _ [22, 17, 23, 24, 25, 10, 11, 12, 26, 27, 28, 7, 29, 9, 18, 30, 31, 32, 33, 34, 35, 36, 37, 38, 39, 40, 41, 53, 54, 55, 56, 57, 58, 59, 60, 61, 62] (by decide +kernel) (by decide +kernel)) (goodIn_sub (fun _ h => List.mem_cons_of_mem _ (List.mem_append_right _ h)) (by decide +kernel))
set_option maxRecDepth 20000 in
theorem gX3_send_X1_takeIn : GoodIn wsX3_send (wsV RX3 62 RX1 yX1_takeIn wsX1_takeIn) := goodIn_app (goodIn_of _ (by decide +kernel)) ggX3_send_X1_takeIn
set_option maxRecDepth 20000 in
theorem ggX3_send_X1_mostUrgent : GoodIn wsX3_send wsX1_mostUrgent := goodIn_ca (goodIn_r _ [45, 24, 10, 11, 12, 53, 54, 55, 56, 57, 58, 59, 60, 61, 62] (by decide +kernel) (by decide +kernel)) (goodIn_sub (fun _ h => List.mem_cons_of_mem _ (List.mem_append_right _ h)) (by decide +kernel))
set_option maxRecDepth 20000 in
theorem gX3_send_X1_mostUrgent : GoodIn wsX3_send (wsV RX3 111 RX1 yX1_mostUrgent wsX1_mostUrgent) := goodIn_app (goodIn_of _ (by decide +kernel)) ggX3_send_X1_mostUrgent
set_option maxRecDepth 20000 in
theorem ggX3_send_X4_pair : GoodIn wsX3_send wsX4_pair := goodIn_r _ [12] (by decide +kernel) (by decide +kernel)
set_option maxRecDepth 20000 in
theorem gX3_send_X4_pair_n91 : GoodIn wsX3_send (wsX4_pair) := ggX3_send_X4_pair
theorem dX3_send_0 : decode cX3_send 0 = .ok (.iconst 0, 1) := by decide +kernel
theorem dX3_send_1 : decode cX3_send 1 = .ok (.istore_n 3, 1) := by decide +kernel
theorem dX3_send_2 : decode cX3_send 2 = .ok (.aload_n 0, 1) := by decide +kernel
theorem dX3_send_3 : decode cX3_send 3 = .ok (.getfield 21, 3) := by decide +kernel
theorem dX3_send_6 : decode cX3_send 6 = .ok (.iload_n 1, 1) := by decide +kernel
theorem dX3_send_7 : decode cX3_send 7 = .ok (.iload_n 2, 1) := by decide +kernel
theorem dX3_send_8 : decode cX3_send 8 = .ok (.invokevirtual 55, 3) := by decide +kernel
theorem dX3_send_11 : decode cX3_send 11 = .ok (.istore 4, 2) := by decide +kernel
theorem dX3_send_13 : decode cX3_send 13 = .ok (.iload 4, 2) := by decide +kernel
theorem dX3_send_15 : decode cX3_send 15 = .ok (.iconst 2, 1) := by decide +kernel
theorem dX3_send_16 : decode cX3_send 16 = .ok (.if_icmp .eq 9, 3) := by decide +kernel
theorem dX3_send_19 : decode cX3_send 19 = .ok (.iload 4, 2) := by decide +kernel
theorem dX3_send_21 : decode cX3_send 21 = .ok (.iconst 3, 1) := by decide +kernel
theorem dX3_send_22 : decode cX3_send 22 = .ok (.if_icmp .ne 7, 3) := by decide +kernel
theorem dX3_send_25 : decode cX3_send 25 = .ok (.iconst 1, 1) := by decide +kernel
theorem dX3_send_26 : decode cX3_send 26 = .ok (.goto 4, 3) := by decide +kernel
theorem dX3_send_29 : decode cX3_send 29 = .ok (.iconst 0, 1) := by decide +kernel
theorem dX3_send_30 : decode cX3_send 30 = .ok (.istore 5, 2) := by decide +kernel
theorem dX3_send_32 : decode cX3_send 32 = .ok (.iload 5, 2) := by decide +kernel
theorem dX3_send_34 : decode cX3_send 34 = .ok (.ifCond .eq 24, 3) := by decide +kernel
theorem dX3_send_37 : decode cX3_send 37 = .ok (.aload_n 0, 1) := by decide +kernel
theorem dX3_send_38 : decode cX3_send 38 = .ok (.getfield 21, 3) := by decide +kernel
theorem dX3_send_41 : decode cX3_send 41 = .ok (.iload_n 2, 1) := by decide +kernel
theorem dX3_send_42 : decode cX3_send 42 = .ok (.iload_n 2, 1) := by decide +kernel
theorem dX3_send_43 : decode cX3_send 43 = .ok (.iload 4, 2) := by decide +kernel
theorem dX3_send_45 : decode cX3_send 45 = .ok (.aload_n 0, 1) := by decide +kernel
theorem dX3_send_46 : decode cX3_send 46 = .ok (.getfield 21, 3) := by decide +kernel
theorem dX3_send_49 : decode cX3_send 49 = .ok (.iload_n 1, 1) := by decide +kernel
theorem dX3_send_50 : decode cX3_send 50 = .ok (.iload_n 2, 1) := by decide +kernel
theorem dX3_send_51 : decode cX3_send 51 = .ok (.invokevirtual 59, 3) := by decide +kernel
theorem dX3_send_54 : decode cX3_send 54 = .ok (.invokevirtual 62, 3) := by decide +kernel
theorem dX3_send_57 : decode cX3_send 57 = .ok (.pop, 1) := by decide +kernel
theorem dX3_send_58 : decode cX3_send 58 = .ok (.iconst 0, 1) := by decide +kernel
theorem dX3_send_59 : decode cX3_send 59 = .ok (.istore 6, 2) := by decide +kernel
theorem dX3_send_61 : decode cX3_send 61 = .ok (.iload 6, 2) := by decide +kernel
theorem dX3_send_63 : decode cX3_send 63 = .ok (.iconst 3, 1) := by decide +kernel
theorem dX3_send_64 : decode cX3_send 64 = .ok (.if_icmp .ge 96, 3) := by decide +kernel
theorem dX3_send_67 : decode cX3_send 67 = .ok (.aload_n 0, 1) := by decide +kernel
theorem dX3_send_68 : decode cX3_send 68 = .ok (.getfield 21, 3) := by decide +kernel
theorem dX3_send_71 : decode cX3_send 71 = .ok (.iload_n 1, 1) := by decide +kernel
theorem dX3_send_72 : decode cX3_send 72 = .ok (.iload_n 3, 1) := by decide +kernel
theorem dX3_send_73 : decode cX3_send 73 = .ok (.invokevirtual 111, 3) := by decide +kernel
theorem dX3_send_76 : decode cX3_send 76 = .ok (.istore 7, 2) := by decide +kernel
theorem dX3_send_78 : decode cX3_send 78 = .ok (.iload 7, 2) := by decide +kernel
theorem dX3_send_80 : decode cX3_send 80 = .ok (.iconst (-1), 1) := by decide +kernel
theorem dX3_send_81 : decode cX3_send 81 = .ok (.if_icmp .ne 6, 3) := by decide +kernel
theorem dX3_send_84 : decode cX3_send 84 = .ok (.goto 76, 3) := by decide +kernel
theorem dX3_send_87 : decode cX3_send 87 = .ok (.iload_n 3, 1) := by decide +kernel
theorem dX3_send_88 : decode cX3_send 88 = .ok (.iconst 1, 1) := by decide +kernel
theorem dX3_send_89 : decode cX3_send 89 = .ok (.iload 7, 2) := by decide +kernel
theorem dX3_send_91 : decode cX3_send 91 = .ok (.ishl, 1) := by decide +kernel
theorem dX3_send_92 : decode cX3_send 92 = .ok (.ior, 1) := by decide +kernel
theorem dX3_send_93 : decode cX3_send 93 = .ok (.istore_n 3, 1) := by decide +kernel
theorem dX3_send_94 : decode cX3_send 94 = .ok (.aload_n 0, 1) := by decide +kernel
theorem dX3_send_95 : decode cX3_send 95 = .ok (.getfield 21, 3) := by decide +kernel
theorem dX3_send_98 : decode cX3_send 98 = .ok (.getfield 114, 3) := by decide +kernel
theorem dX3_send_101 : decode cX3_send 101 = .ok (.iload_n 1, 1) := by decide +kernel
theorem dX3_send_102 : decode cX3_send 102 = .ok (.iload 7, 2) := by decide +kernel
theorem dX3_send_104 : decode cX3_send 104 = .ok (.invokestatic 91, 3) := by decide +kernel
theorem dX3_send_107 : decode cX3_send 107 = .ok (.dup2, 1) := by decide +kernel
theorem dX3_send_108 : decode cX3_send 108 = .ok (.iaload, 1) := by decide +kernel
theorem dX3_send_109 : decode cX3_send 109 = .ok (.iconst 1, 1) := by decide +kernel
theorem dX3_send_110 : decode cX3_send 110 = .ok (.isub, 1) := by decide +kernel
theorem dX3_send_111 : decode cX3_send 111 = .ok (.iastore, 1) := by decide +kernel
theorem dX3_send_112 : decode cX3_send 112 = .ok (.iload 5, 2) := by decide +kernel
theorem dX3_send_114 : decode cX3_send 114 = .ok (.ifCond .eq 9, 3) := by decide +kernel
theorem dX3_send_117 : decode cX3_send 117 = .ok (.iload 7, 2) := by decide +kernel
theorem dX3_send_119 : decode cX3_send 119 = .ok (.iload_n 2, 1) := by decide +kernel
theorem dX3_send_120 : decode cX3_send 120 = .ok (.if_icmp .eq 34, 3) := by decide +kernel
theorem dX3_send_123 : decode cX3_send 123 = .ok (.aload_n 0, 1) := by decide +kernel
theorem dX3_send_124 : decode cX3_send 124 = .ok (.getfield 21, 3) := by decide +kernel
theorem dX3_send_127 : decode cX3_send 127 = .ok (.iload_n 2, 1) := by decide +kernel
theorem dX3_send_128 : decode cX3_send 128 = .ok (.iload 7, 2) := by decide +kernel
theorem dX3_send_130 : decode cX3_send 130 = .ok (.aload_n 0, 1) := by decide +kernel
theorem dX3_send_131 : decode cX3_send 131 = .ok (.getfield 21, 3) := by decide +kernel
theorem dX3_send_134 : decode cX3_send 134 = .ok (.iload_n 1, 1) := by decide +kernel
theorem dX3_send_135 : decode cX3_send 135 = .ok (.iload 7, 2) := by decide +kernel
theorem dX3_send_137 : decode cX3_send 137 = .ok (.invokevirtual 55, 3) := by decide +kernel
theorem dX3_send_140 : decode cX3_send 140 = .ok (.aload_n 0, 1) := by decide +kernel
theorem dX3_send_141 : decode cX3_send 141 = .ok (.getfield 21, 3) := by decide +kernel
theorem dX3_send_144 : decode cX3_send 144 = .ok (.iload_n 1, 1) := by decide +kernel
theorem dX3_send_145 : decode cX3_send 145 = .ok (.iload 7, 2) := by decide +kernel
theorem dX3_send_147 : decode cX3_send 147 = .ok (.invokevirtual 59, 3) := by decide +kernel
theorem dX3_send_150 : decode cX3_send 150 = .ok (.invokevirtual 62, 3) := by decide +kernel
theorem dX3_send_153 : decode cX3_send 153 = .ok (.pop, 1) := by decide +kernel
theorem dX3_send_154 : decode cX3_send 154 = .ok (.iinc 6 1, 3) := by decide +kernel
theorem dX3_send_157 : decode cX3_send 157 = .ok (.goto (-96), 3) := by decide +kernel
theorem dX3_send_160 : decode cX3_send 160 = .ok (.aload_n 0, 1) := by decide +kernel
theorem dX3_send_161 : decode cX3_send 161 = .ok (.dup, 1) := by decide +kernel
theorem dX3_send_162 : decode cX3_send 162 = .ok (.getfield 117, 3) := by decide +kernel
theorem dX3_send_165 : decode cX3_send 165 = .ok (.iconst 1, 1) := by decide +kernel
theorem dX3_send_166 : decode cX3_send 166 = .ok (.iadd, 1) := by decide +kernel
theorem dX3_send_167 : decode cX3_send 167 = .ok (.putfield 117, 3) := by decide +kernel
theorem dX3_send_170 : decode cX3_send 170 = .ok (.return_, 1) := by decide +kernel
set_option maxRecDepth 20000 in
theorem ggX3_allAgree_X2_connects : GoodIn wsX3_allAgree wsX2_connects := goodIn_ca (goodIn_r _ [6, 7, 8, 9, 10, 5, 11, 12, 13, 14, 15, 16, 46, 47, 48, 49] (by decide +kernel) (by decide +kernel)) (goodIn_sub (fun _ h => List.mem_cons_of_mem _ (List.mem_append_right _ h)) (by decide +kernel))
set_option maxRecDepth 20000 in
theorem gX3_allAgree_X2_connects : GoodIn wsX3_allAgree (wsV RX3 47 RX2 yX2_connects wsX2_connects) := goodIn_app (goodIn_of _ (by decide +kernel)) ggX3_allAgree_X2_connects
set_option maxRecDepth 20000 in
theorem ggX3_allAgree_X3_twoAgree : GoodIn wsX3_allAgree wsX3_twoAgree := goodIn_ca (goodIn_r _ [21, 22, 23, 24, 25, 26, 27, 28, 29, 30, 14, 15, 16, 31, 32, 33, 34, 35, 36, 37, 38, 39, 40, 41, 42, 43, 44, 45, 50, 51, 52, 53, 54, 55, 56, 57, 58, 59] (by decide +kernel) (by decide +kernel)) (goodIn_sub (fun _ h => List.mem_cons_of_mem _ (List.mem_append_right _ h)) (by decide +kernel))
set_option maxRecDepth 20000 in
theorem gX3_allAgree_X3_twoAgree : GoodIn wsX3_allAgree (wsV RX3 120 RX3 yX3_twoAgree wsX3_twoAgree) := goodIn_app (goodIn_of _ (by decide +kernel)) ggX3_allAgree_X3_twoAgree
theorem dX3_allAgree_0 : decode cX3_allAgree 0 = .ok (.iconst 0, 1) := by decide +kernel
theorem dX3_allAgree_1 : decode cX3_allAgree 1 = .ok (.istore_n 1, 1) := by decide +kernel
theorem dX3_allAgree_2 : decode cX3_allAgree 2 = .ok (.iload_n 1, 1) := by decide +kernel
theorem dX3_allAgree_3 : decode cX3_allAgree 3 = .ok (.bipush 8, 2) := by decide +kernel
theorem dX3_allAgree_5 : decode cX3_allAgree 5 = .ok (.if_icmp .ge 48, 3) := by decide +kernel
theorem dX3_allAgree_8 : decode cX3_allAgree 8 = .ok (.iload_n 1, 1) := by decide +kernel
theorem dX3_allAgree_9 : decode cX3_allAgree 9 = .ok (.iconst 1, 1) := by decide +kernel
theorem dX3_allAgree_10 : decode cX3_allAgree 10 = .ok (.iadd, 1) := by decide +kernel
theorem dX3_allAgree_11 : decode cX3_allAgree 11 = .ok (.istore_n 2, 1) := by decide +kernel
theorem dX3_allAgree_12 : decode cX3_allAgree 12 = .ok (.iload_n 2, 1) := by decide +kernel
theorem dX3_allAgree_13 : decode cX3_allAgree 13 = .ok (.bipush 8, 2) := by decide +kernel
theorem dX3_allAgree_15 : decode cX3_allAgree 15 = .ok (.if_icmp .ge 32, 3) := by decide +kernel
theorem dX3_allAgree_18 : decode cX3_allAgree 18 = .ok (.aload_n 0, 1) := by decide +kernel
theorem dX3_allAgree_19 : decode cX3_allAgree 19 = .ok (.getfield 12, 3) := by decide +kernel
theorem dX3_allAgree_22 : decode cX3_allAgree 22 = .ok (.iload_n 1, 1) := by decide +kernel
theorem dX3_allAgree_23 : decode cX3_allAgree 23 = .ok (.iload_n 2, 1) := by decide +kernel
theorem dX3_allAgree_24 : decode cX3_allAgree 24 = .ok (.invokevirtual 47, 3) := by decide +kernel
theorem dX3_allAgree_27 : decode cX3_allAgree 27 = .ok (.ifCond .eq 14, 3) := by decide +kernel
theorem dX3_allAgree_30 : decode cX3_allAgree 30 = .ok (.aload_n 0, 1) := by decide +kernel
theorem dX3_allAgree_31 : decode cX3_allAgree 31 = .ok (.iload_n 1, 1) := by decide +kernel
theorem dX3_allAgree_32 : decode cX3_allAgree 32 = .ok (.iload_n 2, 1) := by decide +kernel
theorem dX3_allAgree_33 : decode cX3_allAgree 33 = .ok (.invokevirtual 120, 3) := by decide +kernel
theorem dX3_allAgree_36 : decode cX3_allAgree 36 = .ok (.ifCond .ne 5, 3) := by decide +kernel
theorem dX3_allAgree_39 : decode cX3_allAgree 39 = .ok (.iconst 0, 1) := by decide +kernel
theorem dX3_allAgree_40 : decode cX3_allAgree 40 = .ok (.ireturn, 1) := by decide +kernel
theorem dX3_allAgree_41 : decode cX3_allAgree 41 = .ok (.iinc 2 1, 3) := by decide +kernel
theorem dX3_allAgree_44 : decode cX3_allAgree 44 = .ok (.goto (-32), 3) := by decide +kernel
theorem dX3_allAgree_47 : decode cX3_allAgree 47 = .ok (.iinc 1 1, 3) := by decide +kernel
theorem dX3_allAgree_50 : decode cX3_allAgree 50 = .ok (.goto (-48), 3) := by decide +kernel
theorem dX3_allAgree_53 : decode cX3_allAgree 53 = .ok (.iconst 1, 1) := by decide +kernel
theorem dX3_allAgree_54 : decode cX3_allAgree 54 = .ok (.ireturn, 1) := by decide +kernel
set_option maxRecDepth 20000 in
theorem ggX3_twoAgree_X1_isUpToDate : GoodIn wsX3_twoAgree wsX1_isUpToDate := goodIn_ca (goodIn_r _ [6, 7, 8, 9, 10, 11, 12, 28, 29, 30, 31, 32, 33, 34, 35, 36, 37] (by decide +kernel) (by decide +kernel)) (goodIn_sub (fun _ h => List.mem_cons_of_mem _ (List.mem_append_right _ h)) (by decide +kernel))
set_option maxRecDepth 20000 in
theorem gX3_twoAgree_X1_isUpToDate : GoodIn wsX3_twoAgree (wsV RX3 123 RX1 yX1_isUpToDate wsX1_isUpToDate) := goodIn_app (goodIn_of _ (by decide +kernel)) ggX3_twoAgree_X1_isUpToDate
set_option maxRecDepth 20000 in
theorem ggX3_twoAgree_X1_countDifferences : GoodIn wsX3_twoAgree wsX1_countDifferences := goodIn_ca (goodIn_r _ [16, 10, 11, 12, 17, 18, 19, 5, 20, 7, 8, 28, 29, 30, 31, 32, 33, 34, 35, 36, 37] (by decide +kernel) (by decide +kernel)) (goodIn_sub (fun _ h => List.mem_cons_of_mem _ (List.mem_append_right _ h)) (by decide +kernel))
set_option maxRecDepth 20000 in
theorem gX3_twoAgree_X1_countDifferences : GoodIn wsX3_twoAgree (wsV RX3 126 RX1 yX1_countDifferences wsX1_countDifferences) := goodIn_app (goodIn_of _ (by decide +kernel)) ggX3_twoAgree_X1_countDifferences
theorem dX3_twoAgree_0 : decode cX3_twoAgree 0 = .ok (.aload_n 0, 1) := by decide +kernel
theorem dX3_twoAgree_1 : decode cX3_twoAgree 1 = .ok (.getfield 21, 3) := by decide +kernel
theorem dX3_twoAgree_4 : decode cX3_twoAgree 4 = .ok (.iload_n 1, 1) := by decide +kernel
theorem dX3_twoAgree_5 : decode cX3_twoAgree 5 = .ok (.iload_n 2, 1) := by decide +kernel
theorem dX3_twoAgree_6 : decode cX3_twoAgree 6 = .ok (.invokevirtual 123, 3) := by decide +kernel
theorem dX3_twoAgree_9 : decode cX3_twoAgree 9 = .ok (.ifCond .eq 31, 3) := by decide +kernel
theorem dX3_twoAgree_12 : decode cX3_twoAgree 12 = .ok (.aload_n 0, 1) := by decide +kernel
theorem dX3_twoAgree_13 : decode cX3_twoAgree 13 = .ok (.getfield 21, 3) := by decide +kernel
theorem dX3_twoAgree_16 : decode cX3_twoAgree 16 = .ok (.iload_n 2, 1) := by decide +kernel
theorem dX3_twoAgree_17 : decode cX3_twoAgree 17 = .ok (.iload_n 1, 1) := by decide +kernel
theorem dX3_twoAgree_18 : decode cX3_twoAgree 18 = .ok (.invokevirtual 123, 3) := by decide +kernel
theorem dX3_twoAgree_21 : decode cX3_twoAgree 21 = .ok (.ifCond .eq 19, 3) := by decide +kernel
theorem dX3_twoAgree_24 : decode cX3_twoAgree 24 = .ok (.aload_n 0, 1) := by decide +kernel
theorem dX3_twoAgree_25 : decode cX3_twoAgree 25 = .ok (.getfield 21, 3) := by decide +kernel
theorem dX3_twoAgree_28 : decode cX3_twoAgree 28 = .ok (.iload_n 1, 1) := by decide +kernel
theorem dX3_twoAgree_29 : decode cX3_twoAgree 29 = .ok (.iload_n 2, 1) := by decide +kernel
theorem dX3_twoAgree_30 : decode cX3_twoAgree 30 = .ok (.invokevirtual 126, 3) := by decide +kernel
theorem dX3_twoAgree_33 : decode cX3_twoAgree 33 = .ok (.ifCond .ne 7, 3) := by decide +kernel
theorem dX3_twoAgree_36 : decode cX3_twoAgree 36 = .ok (.iconst 1, 1) := by decide +kernel
theorem dX3_twoAgree_37 : decode cX3_twoAgree 37 = .ok (.goto 4, 3) := by decide +kernel
theorem dX3_twoAgree_40 : decode cX3_twoAgree 40 = .ok (.iconst 0, 1) := by decide +kernel
theorem dX3_twoAgree_41 : decode cX3_twoAgree 41 = .ok (.ireturn, 1) := by decide +kernel
set_option maxRecDepth 20000 in
theorem ggX3_countDisagreements_X2_connects : GoodIn wsX3_countDisagreements wsX2_connects := goodIn_ca (goodIn_r _ [7, 8, 9, 10, 11, 6, 12, 13, 14, 15, 16, 17, 36, 37, 38, 39] (by decide +kernel) (by decide +kernel)) (goodIn_sub (fun _ h => List.mem_cons_of_mem _ (List.mem_append_right _ h)) (by decide +kernel))
set_option maxRecDepth 20000 in
theorem gX3_countDisagreements_X2_connects : GoodIn wsX3_countDisagreements (wsV RX3 47 RX2 yX2_connects wsX2_connects) := goodIn_app (goodIn_of _ (by decide +kernel)) ggX3_countDisagreements_X2_connects
set_option maxRecDepth 20000 in
theorem ggX3_countDisagreements_X1_countDifferences : GoodIn wsX3_countDisagreements wsX1_countDifferences := goodIn_ca (goodIn_r _ [22, 15, 16, 17, 23, 24, 25, 21, 26, 27, 28, 40, 41, 42, 43, 44, 45, 46, 47, 48, 49] (by decide +kernel) (by decide +kernel)) (goodIn_sub (fun _ h => List.mem_cons_of_mem _ (List.mem_append_right _ h)) (by decide +kernel))
set_option maxRecDepth 20000 in
theorem gX3_countDisagreements_X1_countDifferences : GoodIn wsX3_countDisagreements (wsV RX3 126 RX1 yX1_countDifferences wsX1_countDifferences) := goodIn_app (goodIn_of _ (by decide +kernel)) ggX3_countDisagreements_X1_countDifferences
theorem dX3_countDisagreements_0 : decode cX3_countDisagreements 0 = .ok (.iconst 0, 1) := by decide +kernel
theorem dX3_countDisagreements_1 : decode cX3_countDisagreements 1 = .ok (.istore_n 1, 1) := by decide +kernel
theorem dX3_countDisagreements_2 : decode cX3_countDisagreements 2 = .ok (.iconst 0, 1) := by decide +kernel
theorem dX3_countDisagreements_3 : decode cX3_countDisagreements 3 = .ok (.istore_n 2, 1) := by decide +kernel
theorem dX3_countDisagreements_4 : decode cX3_countDisagreements 4 = .ok (.iload_n 2, 1) := by decide +kernel
theorem dX3_countDisagreements_5 : decode cX3_countDisagreements 5 = .ok (.bipush 8, 2) := by decide +kernel
theorem dX3_countDisagreements_7 : decode cX3_countDisagreements 7 = .ok (.if_icmp .ge 49, 3) := by decide +kernel
theorem dX3_countDisagreements_10 : decode cX3_countDisagreements 10 = .ok (.iload_n 2, 1) := by decide +kernel
theorem dX3_countDisagreements_11 : decode cX3_countDisagreements 11 = .ok (.iconst 1, 1) := by decide +kernel
theorem dX3_countDisagreements_12 : decode cX3_countDisagreements 12 = .ok (.iadd, 1) := by decide +kernel
theorem dX3_countDisagreements_13 : decode cX3_countDisagreements 13 = .ok (.istore_n 3, 1) := by decide +kernel
theorem dX3_countDisagreements_14 : decode cX3_countDisagreements 14 = .ok (.iload_n 3, 1) := by decide +kernel
theorem dX3_countDisagreements_15 : decode cX3_countDisagreements 15 = .ok (.bipush 8, 2) := by decide +kernel
theorem dX3_countDisagreements_17 : decode cX3_countDisagreements 17 = .ok (.if_icmp .ge 33, 3) := by decide +kernel
theorem dX3_countDisagreements_20 : decode cX3_countDisagreements 20 = .ok (.aload_n 0, 1) := by decide +kernel
theorem dX3_countDisagreements_21 : decode cX3_countDisagreements 21 = .ok (.getfield 12, 3) := by decide +kernel
theorem dX3_countDisagreements_24 : decode cX3_countDisagreements 24 = .ok (.iload_n 2, 1) := by decide +kernel
theorem dX3_countDisagreements_25 : decode cX3_countDisagreements 25 = .ok (.iload_n 3, 1) := by decide +kernel
theorem dX3_countDisagreements_26 : decode cX3_countDisagreements 26 = .ok (.invokevirtual 47, 3) := by decide +kernel
theorem dX3_countDisagreements_29 : decode cX3_countDisagreements 29 = .ok (.ifCond .eq 15, 3) := by decide +kernel
theorem dX3_countDisagreements_32 : decode cX3_countDisagreements 32 = .ok (.iload_n 1, 1) := by decide +kernel
theorem dX3_countDisagreements_33 : decode cX3_countDisagreements 33 = .ok (.aload_n 0, 1) := by decide +kernel
theorem dX3_countDisagreements_34 : decode cX3_countDisagreements 34 = .ok (.getfield 21, 3) := by decide +kernel
theorem dX3_countDisagreements_37 : decode cX3_countDisagreements 37 = .ok (.iload_n 2, 1) := by decide +kernel
theorem dX3_countDisagreements_38 : decode cX3_countDisagreements 38 = .ok (.iload_n 3, 1) := by decide +kernel
theorem dX3_countDisagreements_39 : decode cX3_countDisagreements 39 = .ok (.invokevirtual 126, 3) := by decide +kernel
theorem dX3_countDisagreements_42 : decode cX3_countDisagreements 42 = .ok (.iadd, 1) := by decide +kernel
theorem dX3_countDisagreements_43 : decode cX3_countDisagreements 43 = .ok (.istore_n 1, 1) := by decide +kernel
theorem dX3_countDisagreements_44 : decode cX3_countDisagreements 44 = .ok (.iinc 3 1, 3) := by decide +kernel
theorem dX3_countDisagreements_47 : decode cX3_countDisagreements 47 = .ok (.goto (-33), 3) := by decide +kernel
theorem dX3_countDisagreements_50 : decode cX3_countDisagreements 50 = .ok (.iinc 2 1, 3) := by decide +kernel
theorem dX3_countDisagreements_53 : decode cX3_countDisagreements 53 = .ok (.goto (-49), 3) := by decide +kernel
theorem dX3_countDisagreements_56 : decode cX3_countDisagreements 56 = .ok (.iload_n 1, 1) := by decide +kernel
theorem dX3_countDisagreements_57 : decode cX3_countDisagreements 57 = .ok (.ireturn, 1) := by decide +kernel
set_option maxRecDepth 20000 in
theorem ggX3_copyFrom_X2_copyFrom : GoodIn wsX3_copyFrom wsX2_copyFrom := goodIn_ca (goodIn_r _ [12, 13, 14, 15, 16, 43, 44, 45, 46] (by decide +kernel) (by decide +kernel)) (goodIn_sub (fun _ h => List.mem_cons_of_mem _ (List.mem_append_right _ h)) (by decide +kernel))
set_option maxRecDepth 20000 in
theorem gX3_copyFrom_X2_copyFrom : GoodIn wsX3_copyFrom (wsV RX3 129 RX2 yX2_copyFrom wsX2_copyFrom) := goodIn_app (goodIn_of _ (by decide +kernel)) ggX3_copyFrom_X2_copyFrom
set_option maxRecDepth 20000 in
theorem ggX3_copyFrom_X1_copyFrom : GoodIn wsX3_copyFrom wsX1_copyFrom := goodIn_r _ [21, 22, 23, 24, 25, 26, 27, 28, 29, 30, 31, 32, 33, 34, 35, 47, 48, 49, 50, 51, 52, 53, 54, 55, 56] (by decide +kernel) (by decide +kernel)
set_option maxRecDepth 20000 in
theorem gX3_copyFrom_X1_copyFrom : GoodIn wsX3_copyFrom (wsV RX3 133 RX1 yX1_copyFrom wsX1_copyFrom) := goodIn_app (goodIn_of _ (by decide +kernel)) ggX3_copyFrom_X1_copyFrom
theorem dX3_copyFrom_0 : decode cX3_copyFrom 0 = .ok (.aload_n 0, 1) := by decide +kernel
theorem dX3_copyFrom_1 : decode cX3_copyFrom 1 = .ok (.getfield 12, 3) := by decide +kernel
theorem dX3_copyFrom_4 : decode cX3_copyFrom 4 = .ok (.aload_n 1, 1) := by decide +kernel
theorem dX3_copyFrom_5 : decode cX3_copyFrom 5 = .ok (.getfield 12, 3) := by decide +kernel
theorem dX3_copyFrom_8 : decode cX3_copyFrom 8 = .ok (.invokevirtual 129, 3) := by decide +kernel
theorem dX3_copyFrom_11 : decode cX3_copyFrom 11 = .ok (.aload_n 0, 1) := by decide +kernel
theorem dX3_copyFrom_12 : decode cX3_copyFrom 12 = .ok (.getfield 21, 3) := by decide +kernel
theorem dX3_copyFrom_15 : decode cX3_copyFrom 15 = .ok (.aload_n 1, 1) := by decide +kernel
theorem dX3_copyFrom_16 : decode cX3_copyFrom 16 = .ok (.getfield 21, 3) := by decide +kernel
theorem dX3_copyFrom_19 : decode cX3_copyFrom 19 = .ok (.invokevirtual 133, 3) := by decide +kernel
theorem dX3_copyFrom_22 : decode cX3_copyFrom 22 = .ok (.aload_n 0, 1) := by decide +kernel
theorem dX3_copyFrom_23 : decode cX3_copyFrom 23 = .ok (.aload_n 1, 1) := by decide +kernel
theorem dX3_copyFrom_24 : decode cX3_copyFrom 24 = .ok (.getfield 25, 3) := by decide +kernel
theorem dX3_copyFrom_27 : decode cX3_copyFrom 27 = .ok (.putfield 25, 3) := by decide +kernel
theorem dX3_copyFrom_30 : decode cX3_copyFrom 30 = .ok (.aload_n 0, 1) := by decide +kernel
theorem dX3_copyFrom_31 : decode cX3_copyFrom 31 = .ok (.aload_n 1, 1) := by decide +kernel
theorem dX3_copyFrom_32 : decode cX3_copyFrom 32 = .ok (.getfield 29, 3) := by decide +kernel
theorem dX3_copyFrom_35 : decode cX3_copyFrom 35 = .ok (.putfield 29, 3) := by decide +kernel
theorem dX3_copyFrom_38 : decode cX3_copyFrom 38 = .ok (.aload_n 0, 1) := by decide +kernel
theorem dX3_copyFrom_39 : decode cX3_copyFrom 39 = .ok (.aload_n 1, 1) := by decide +kernel
theorem dX3_copyFrom_40 : decode cX3_copyFrom 40 = .ok (.getfield 94, 3) := by decide +kernel
theorem dX3_copyFrom_43 : decode cX3_copyFrom 43 = .ok (.putfield 94, 3) := by decide +kernel
theorem dX3_copyFrom_46 : decode cX3_copyFrom 46 = .ok (.aload_n 0, 1) := by decide +kernel
theorem dX3_copyFrom_47 : decode cX3_copyFrom 47 = .ok (.aload_n 1, 1) := by decide +kernel
theorem dX3_copyFrom_48 : decode cX3_copyFrom 48 = .ok (.getfield 97, 3) := by decide +kernel
theorem dX3_copyFrom_51 : decode cX3_copyFrom 51 = .ok (.putfield 97, 3) := by decide +kernel
theorem dX3_copyFrom_54 : decode cX3_copyFrom 54 = .ok (.aload_n 0, 1) := by decide +kernel
theorem dX3_copyFrom_55 : decode cX3_copyFrom 55 = .ok (.aload_n 1, 1) := by decide +kernel
theorem dX3_copyFrom_56 : decode cX3_copyFrom 56 = .ok (.getfield 117, 3) := by decide +kernel
theorem dX3_copyFrom_59 : decode cX3_copyFrom 59 = .ok (.putfield 117, 3) := by decide +kernel
theorem dX3_copyFrom_62 : decode cX3_copyFrom 62 = .ok (.return_, 1) := by decide +kernel
set_option maxRecDepth 20000 in
theorem ggX4_init_X3_init : GoodIn wsX4_init wsX3_init := goodIn_r _ [15, 16, 2, 3, 17, 18, 19, 20, 21, 22, 23, 24, 25, 26, 27, 28, 29, 30, 31, 32, 33, 34, 35, 36, 37, 38, 39, 40, 41, 42, 43, 44, 45, 66, 67, 68, 69, 51, 52, 53, 54, 55, 56, 57, 70, 71, 72, 73, 74, 75, 76, 77, 78, 79] (by decide +kernel) (by decide +kernel)
set_option maxRecDepth 20000 in
theorem gX4_init_X3_init_n9 : GoodIn wsX4_init (wsX3_init) := ggX4_init_X3_init
set_option maxRecDepth 20000 in
theorem ggX4_init_X0_init : GoodIn wsX4_init wsX0_init := goodIn_r _ [47, 48, 2, 3, 49, 50, 64, 65] (by decide +kernel) (by decide +kernel)
set_option maxRecDepth 20000 in
theorem gX4_init_X0_init_n21 : GoodIn wsX4_init (wsX0_init) := ggX4_init_X0_init
theorem dX4_init_0 : decode cX4_init 0 = .ok (.aload_n 0, 1) := by decide +kernel
theorem dX4_init_1 : decode cX4_init 1 = .ok (.invokespecial 1, 3) := by decide +kernel
theorem dX4_init_4 : decode cX4_init 4 = .ok (.aload_n 0, 1) := by decide +kernel
theorem dX4_init_5 : decode cX4_init 5 = .ok (.new 7, 3) := by decide +kernel
theorem dX4_init_8 : decode cX4_init 8 = .ok (.dup, 1) := by decide +kernel
theorem dX4_init_9 : decode cX4_init 9 = .ok (.invokespecial 9, 3) := by decide +kernel
theorem dX4_init_12 : decode cX4_init 12 = .ok (.putfield 10, 3) := by decide +kernel
theorem dX4_init_15 : decode cX4_init 15 = .ok (.aload_n 0, 1) := by decide +kernel
theorem dX4_init_16 : decode cX4_init 16 = .ok (.new 7, 3) := by decide +kernel
theorem dX4_init_19 : decode cX4_init 19 = .ok (.dup, 1) := by decide +kernel
theorem dX4_init_20 : decode cX4_init 20 = .ok (.invokespecial 9, 3) := by decide +kernel
theorem dX4_init_23 : decode cX4_init 23 = .ok (.putfield 16, 3) := by decide +kernel
theorem dX4_init_26 : decode cX4_init 26 = .ok (.aload_n 0, 1) := by decide +kernel
theorem dX4_init_27 : decode cX4_init 27 = .ok (.new 19, 3) := by decide +kernel
theorem dX4_init_30 : decode cX4_init 30 = .ok (.dup, 1) := by decide +kernel
theorem dX4_init_31 : decode cX4_init 31 = .ok (.invokespecial 21, 3) := by decide +kernel
theorem dX4_init_34 : decode cX4_init 34 = .ok (.putfield 22, 3) := by decide +kernel
theorem dX4_init_37 : decode cX4_init 37 = .ok (.aload_n 0, 1) := by decide +kernel
theorem dX4_init_38 : decode cX4_init 38 = .ok (.iconst 0, 1) := by decide +kernel
theorem dX4_init_39 : decode cX4_init 39 = .ok (.putfield 26, 3) := by decide +kernel
theorem dX4_init_42 : decode cX4_init 42 = .ok (.return_, 1) := by decide +kernel
theorem dX4_setPatience_0 : decode cX4_setPatience 0 = .ok (.iload_n 1, 1) := by decide +kernel
theorem dX4_setPatience_1 : decode cX4_setPatience 1 = .ok (.iconst 1, 1) := by decide +kernel
theorem dX4_setPatience_2 : decode cX4_setPatience 2 = .ok (.if_icmp .lt 9, 3) := by decide +kernel
theorem dX4_setPatience_5 : decode cX4_setPatience 5 = .ok (.iload_n 1, 1) := by decide +kernel
theorem dX4_setPatience_6 : decode cX4_setPatience 6 = .ok (.bipush 20, 2) := by decide +kernel
theorem dX4_setPatience_8 : decode cX4_setPatience 8 = .ok (.if_icmp .le 13, 3) := by decide +kernel
theorem dX4_setPatience_11 : decode cX4_setPatience 11 = .ok (.new 30, 3) := by decide +kernel
theorem dX4_setPatience_14 : decode cX4_setPatience 14 = .ok (.dup, 1) := by decide +kernel
theorem dX4_setPatience_15 : decode cX4_setPatience 15 = .ok (.ldc 32, 2) := by decide +kernel
theorem dX4_setPatience_17 : decode cX4_setPatience 17 = .ok (.invokespecial 34, 3) := by decide +kernel
theorem dX4_setPatience_20 : decode cX4_setPatience 20 = .ok (.athrow, 1) := by decide +kernel
theorem dX4_setPatience_21 : decode cX4_setPatience 21 = .ok (.aload_n 0, 1) := by decide +kernel
theorem dX4_setPatience_22 : decode cX4_setPatience 22 = .ok (.getfield 10, 3) := by decide +kernel
theorem dX4_setPatience_25 : decode cX4_setPatience 25 = .ok (.getfield 37, 3) := by decide +kernel
theorem dX4_setPatience_28 : decode cX4_setPatience 28 = .ok (.getfield 41, 3) := by decide +kernel
theorem dX4_setPatience_31 : decode cX4_setPatience 31 = .ok (.istore_n 2, 1) := by decide +kernel
theorem dX4_setPatience_32 : decode cX4_setPatience 32 = .ok (.aload_n 0, 1) := by decide +kernel
theorem dX4_setPatience_33 : decode cX4_setPatience 33 = .ok (.getfield 10, 3) := by decide +kernel
theorem dX4_setPatience_36 : decode cX4_setPatience 36 = .ok (.getfield 37, 3) := by decide +kernel
theorem dX4_setPatience_39 : decode cX4_setPatience 39 = .ok (.iload_n 1, 1) := by decide +kernel
theorem dX4_setPatience_40 : decode cX4_setPatience 40 = .ok (.putfield 41, 3) := by decide +kernel
theorem dX4_setPatience_43 : decode cX4_setPatience 43 = .ok (.iload_n 2, 1) := by decide +kernel
theorem dX4_setPatience_44 : decode cX4_setPatience 44 = .ok (.ireturn, 1) := by decide +kernel
theorem dX4_setFanOut_0 : decode cX4_setFanOut 0 = .ok (.iload_n 1, 1) := by decide +kernel
theorem dX4_setFanOut_1 : decode cX4_setFanOut 1 = .ok (.iconst 1, 1) := by decide +kernel
theorem dX4_setFanOut_2 : decode cX4_setFanOut 2 = .ok (.if_icmp .lt 9, 3) := by decide +kernel
theorem dX4_setFanOut_5 : decode cX4_setFanOut 5 = .ok (.iload_n 1, 1) := by decide +kernel
theorem dX4_setFanOut_6 : decode cX4_setFanOut 6 = .ok (.bipush 9, 2) := by decide +kernel
theorem dX4_setFanOut_8 : decode cX4_setFanOut 8 = .ok (.if_icmp .le 13, 3) := by decide +kernel
theorem dX4_setFanOut_11 : decode cX4_setFanOut 11 = .ok (.new 30, 3) := by decide +kernel
theorem dX4_setFanOut_14 : decode cX4_setFanOut 14 = .ok (.dup, 1) := by decide +kernel
theorem dX4_setFanOut_15 : decode cX4_setFanOut 15 = .ok (.ldc 46, 2) := by decide +kernel
theorem dX4_setFanOut_17 : decode cX4_setFanOut 17 = .ok (.invokespecial 34, 3) := by decide +kernel
theorem dX4_setFanOut_20 : decode cX4_setFanOut 20 = .ok (.athrow, 1) := by decide +kernel
theorem dX4_setFanOut_21 : decode cX4_setFanOut 21 = .ok (.aload_n 0, 1) := by decide +kernel
theorem dX4_setFanOut_22 : decode cX4_setFanOut 22 = .ok (.getfield 10, 3) := by decide +kernel
theorem dX4_setFanOut_25 : decode cX4_setFanOut 25 = .ok (.getfield 37, 3) := by decide +kernel
theorem dX4_setFanOut_28 : decode cX4_setFanOut 28 = .ok (.getfield 48, 3) := by decide +kernel
theorem dX4_setFanOut_31 : decode cX4_setFanOut 31 = .ok (.istore_n 2, 1) := by decide +kernel
theorem dX4_setFanOut_32 : decode cX4_setFanOut 32 = .ok (.aload_n 0, 1) := by decide +kernel
theorem dX4_setFanOut_33 : decode cX4_setFanOut 33 = .ok (.getfield 10, 3) := by decide +kernel
theorem dX4_setFanOut_36 : decode cX4_setFanOut 36 = .ok (.getfield 37, 3) := by decide +kernel
theorem dX4_setFanOut_39 : decode cX4_setFanOut 39 = .ok (.iload_n 1, 1) := by decide +kernel
theorem dX4_setFanOut_40 : decode cX4_setFanOut 40 = .ok (.putfield 48, 3) := by decide +kernel
theorem dX4_setFanOut_43 : decode cX4_setFanOut 43 = .ok (.iload_n 2, 1) := by decide +kernel
theorem dX4_setFanOut_44 : decode cX4_setFanOut 44 = .ok (.ireturn, 1) := by decide +kernel
theorem dX4_setHelpers_0 : decode cX4_setHelpers 0 = .ok (.iload_n 1, 1) := by decide +kernel
theorem dX4_setHelpers_1 : decode cX4_setHelpers 1 = .ok (.ifCond .lt 8, 3) := by decide +kernel
theorem dX4_setHelpers_4 : decode cX4_setHelpers 4 = .ok (.iload_n 1, 1) := by decide +kernel
theorem dX4_setHelpers_5 : decode cX4_setHelpers 5 = .ok (.iconst 3, 1) := by decide +kernel
theorem dX4_setHelpers_6 : decode cX4_setHelpers 6 = .ok (.if_icmp .le 13, 3) := by decide +kernel
theorem dX4_setHelpers_9 : decode cX4_setHelpers 9 = .ok (.new 30, 3) := by decide +kernel
theorem dX4_setHelpers_12 : decode cX4_setHelpers 12 = .ok (.dup, 1) := by decide +kernel
theorem dX4_setHelpers_13 : decode cX4_setHelpers 13 = .ok (.ldc 51, 2) := by decide +kernel
theorem dX4_setHelpers_15 : decode cX4_setHelpers 15 = .ok (.invokespecial 34, 3) := by decide +kernel
theorem dX4_setHelpers_18 : decode cX4_setHelpers 18 = .ok (.athrow, 1) := by decide +kernel
theorem dX4_setHelpers_19 : decode cX4_setHelpers 19 = .ok (.aload_n 0, 1) := by decide +kernel
theorem dX4_setHelpers_20 : decode cX4_setHelpers 20 = .ok (.getfield 10, 3) := by decide +kernel
theorem dX4_setHelpers_23 : decode cX4_setHelpers 23 = .ok (.getfield 53, 3) := by decide +kernel
theorem dX4_setHelpers_26 : decode cX4_setHelpers 26 = .ok (.istore_n 2, 1) := by decide +kernel
theorem dX4_setHelpers_27 : decode cX4_setHelpers 27 = .ok (.aload_n 0, 1) := by decide +kernel
theorem dX4_setHelpers_28 : decode cX4_setHelpers 28 = .ok (.getfield 10, 3) := by decide +kernel
theorem dX4_setHelpers_31 : decode cX4_setHelpers 31 = .ok (.iload_n 1, 1) := by decide +kernel
theorem dX4_setHelpers_32 : decode cX4_setHelpers 32 = .ok (.putfield 53, 3) := by decide +kernel
theorem dX4_setHelpers_35 : decode cX4_setHelpers 35 = .ok (.iload_n 2, 1) := by decide +kernel
theorem dX4_setHelpers_36 : decode cX4_setHelpers 36 = .ok (.ireturn, 1) := by decide +kernel
theorem dX4_setSeed_0 : decode cX4_setSeed 0 = .ok (.iload_n 1, 1) := by decide +kernel
theorem dX4_setSeed_1 : decode cX4_setSeed 1 = .ok (.ifCond .ge 13, 3) := by decide +kernel
theorem dX4_setSeed_4 : decode cX4_setSeed 4 = .ok (.new 30, 3) := by decide +kernel
theorem dX4_setSeed_7 : decode cX4_setSeed 7 = .ok (.dup, 1) := by decide +kernel
theorem dX4_setSeed_8 : decode cX4_setSeed 8 = .ok (.ldc 56, 2) := by decide +kernel
theorem dX4_setSeed_10 : decode cX4_setSeed 10 = .ok (.invokespecial 34, 3) := by decide +kernel
theorem dX4_setSeed_13 : decode cX4_setSeed 13 = .ok (.athrow, 1) := by decide +kernel
theorem dX4_setSeed_14 : decode cX4_setSeed 14 = .ok (.aload_n 0, 1) := by decide +kernel
theorem dX4_setSeed_15 : decode cX4_setSeed 15 = .ok (.getfield 10, 3) := by decide +kernel
theorem dX4_setSeed_18 : decode cX4_setSeed 18 = .ok (.getfield 58, 3) := by decide +kernel
theorem dX4_setSeed_21 : decode cX4_setSeed 21 = .ok (.istore_n 2, 1) := by decide +kernel
theorem dX4_setSeed_22 : decode cX4_setSeed 22 = .ok (.aload_n 0, 1) := by decide +kernel
theorem dX4_setSeed_23 : decode cX4_setSeed 23 = .ok (.getfield 10, 3) := by decide +kernel
theorem dX4_setSeed_26 : decode cX4_setSeed 26 = .ok (.iload_n 1, 1) := by decide +kernel
theorem dX4_setSeed_27 : decode cX4_setSeed 27 = .ok (.putfield 58, 3) := by decide +kernel
theorem dX4_setSeed_30 : decode cX4_setSeed 30 = .ok (.iload_n 2, 1) := by decide +kernel
theorem dX4_setSeed_31 : decode cX4_setSeed 31 = .ok (.ireturn, 1) := by decide +kernel
theorem dX4_seed_0 : decode cX4_seed 0 = .ok (.aload_n 0, 1) := by decide +kernel
theorem dX4_seed_1 : decode cX4_seed 1 = .ok (.getfield 10, 3) := by decide +kernel
theorem dX4_seed_4 : decode cX4_seed 4 = .ok (.getfield 58, 3) := by decide +kernel
theorem dX4_seed_7 : decode cX4_seed 7 = .ok (.ireturn, 1) := by decide +kernel
set_option maxRecDepth 20000 in
theorem ggX4_join_X4_requireNode : GoodIn wsX4_join wsX4_requireNode := goodIn_ca (goodIn_r _ [13, 14, 15] (by decide +kernel) (by decide +kernel)) (goodIn_sub (fun _ h => List.mem_cons_of_mem _ (List.mem_append_right _ h)) (by decide +kernel))
set_option maxRecDepth 20000 in
theorem gX4_join_X4_requireNode : GoodIn wsX4_join (va_wsS RX4 61 yX4_requireNode wsX4_requireNode) := goodIn_app (goodIn_of _ (by decide +kernel)) ggX4_join_X4_requireNode
set_option maxRecDepth 20000 in
theorem ggX4_join_X2_wouldConnect : GoodIn wsX4_join wsX2_wouldConnect := goodIn_ca (goodIn_r _ [20, 21, 22, 23, 24, 12, 25, 98, 99, 100, 101] (by decide +kernel) (by decide +kernel)) (goodIn_sub (fun _ h => List.mem_cons_of_mem _ (List.mem_append_left _ (List.mem_append_left _ (List.mem_append_left _ (List.mem_append_right _ h))))) (by decide +kernel))
set_option maxRecDepth 20000 in
theorem gX4_join_X2_wouldConnect : GoodIn wsX4_join (wsV RX4 80 RX2 yX2_wouldConnect wsX2_wouldConnect) := goodIn_app (goodIn_of _ (by decide +kernel)) ggX4_join_X2_wouldConnect
set_option maxRecDepth 20000 in
theorem ggX4_join_X3_admit : GoodIn wsX4_join wsX3_admit := goodIn_ca (goodIn_r _ [30, 31, 32, 33, 34, 35, 36, 37, 38, 39, 40, 41, 42, 43, 44, 24, 12, 25, 45, 46, 47, 19, 48, 21, 49, 17, 18, 20, 22, 23, 50, 51, 52, 29, 53, 54, 55, 56, 57, 58, 59, 60, 61, 62, 63, 64, 65, 66, 67, 68, 69, 70, 71, 72, 73, 74, 75, 76, 77, 78, 79, 80, 81, 82, 83, 91, 92, 93, 94, 95, 96, 97, 98, 99, 100, 101, 102, 103, 104, 105, 106, 107, 108, 109, 110, 111] (by decide +kernel) (by decide +kernel)) (goodIn_sub (fun _ h => List.mem_cons_of_mem _ (List.mem_append_left _ (List.mem_append_left _ (List.mem_append_left _ (List.mem_append_right _ h))))) (by decide +kernel))
set_option maxRecDepth 20000 in
theorem gX4_join_X3_admit : GoodIn wsX4_join (wsV RX4 86 RX3 yX3_admit wsX3_admit) := goodIn_app (goodIn_of _ (by decide +kernel)) ggX4_join_X3_admit
set_option maxRecDepth 20000 in
theorem ggX4_join_X1_endQuiet : GoodIn wsX4_join wsX1_endQuiet := goodIn_r _ [82, 77, 83, 102, 103, 104, 105, 106, 107, 108, 109, 110, 111] (by decide +kernel) (by decide +kernel)
set_option maxRecDepth 20000 in
theorem gX4_join_X1_endQuiet : GoodIn wsX4_join (wsV RX4 90 RX1 yX1_endQuiet wsX1_endQuiet) := goodIn_app (goodIn_of _ (by decide +kernel)) ggX4_join_X1_endQuiet
theorem dX4_join_0 : decode cX4_join 0 = .ok (.iload_n 1, 1) := by decide +kernel
theorem dX4_join_1 : decode cX4_join 1 = .ok (.invokestatic 61, 3) := by decide +kernel
theorem dX4_join_4 : decode cX4_join 4 = .ok (.iload_n 2, 1) := by decide +kernel
theorem dX4_join_5 : decode cX4_join 5 = .ok (.invokestatic 61, 3) := by decide +kernel
theorem dX4_join_8 : decode cX4_join 8 = .ok (.aload_n 0, 1) := by decide +kernel
theorem dX4_join_9 : decode cX4_join 9 = .ok (.getfield 10, 3) := by decide +kernel
theorem dX4_join_12 : decode cX4_join 12 = .ok (.getfield 65, 3) := by decide +kernel
theorem dX4_join_15 : decode cX4_join 15 = .ok (.getfield 69, 3) := by decide +kernel
theorem dX4_join_18 : decode cX4_join 18 = .ok (.iload_n 1, 1) := by decide +kernel
theorem dX4_join_19 : decode cX4_join 19 = .ok (.baload, 1) := by decide +kernel
theorem dX4_join_20 : decode cX4_join 20 = .ok (.ifCond .eq 13, 3) := by decide +kernel
theorem dX4_join_23 : decode cX4_join 23 = .ok (.new 75, 3) := by decide +kernel
theorem dX4_join_26 : decode cX4_join 26 = .ok (.dup, 1) := by decide +kernel
theorem dX4_join_27 : decode cX4_join 27 = .ok (.ldc 77, 2) := by decide +kernel
theorem dX4_join_29 : decode cX4_join 29 = .ok (.invokespecial 79, 3) := by decide +kernel
theorem dX4_join_32 : decode cX4_join 32 = .ok (.athrow, 1) := by decide +kernel
theorem dX4_join_33 : decode cX4_join 33 = .ok (.iload_n 2, 1) := by decide +kernel
theorem dX4_join_34 : decode cX4_join 34 = .ok (.iload_n 1, 1) := by decide +kernel
theorem dX4_join_35 : decode cX4_join 35 = .ok (.if_icmp .eq 28, 3) := by decide +kernel
theorem dX4_join_38 : decode cX4_join 38 = .ok (.aload_n 0, 1) := by decide +kernel
theorem dX4_join_39 : decode cX4_join 39 = .ok (.getfield 10, 3) := by decide +kernel
theorem dX4_join_42 : decode cX4_join 42 = .ok (.getfield 65, 3) := by decide +kernel
theorem dX4_join_45 : decode cX4_join 45 = .ok (.iload_n 1, 1) := by decide +kernel
theorem dX4_join_46 : decode cX4_join 46 = .ok (.iload_n 2, 1) := by decide +kernel
theorem dX4_join_47 : decode cX4_join 47 = .ok (.invokevirtual 80, 3) := by decide +kernel
theorem dX4_join_50 : decode cX4_join 50 = .ok (.ifCond .ne 13, 3) := by decide +kernel
theorem dX4_join_53 : decode cX4_join 53 = .ok (.new 30, 3) := by decide +kernel
theorem dX4_join_56 : decode cX4_join 56 = .ok (.dup, 1) := by decide +kernel
theorem dX4_join_57 : decode cX4_join 57 = .ok (.ldc 84, 2) := by decide +kernel
theorem dX4_join_59 : decode cX4_join 59 = .ok (.invokespecial 34, 3) := by decide +kernel
theorem dX4_join_62 : decode cX4_join 62 = .ok (.athrow, 1) := by decide +kernel
theorem dX4_join_63 : decode cX4_join 63 = .ok (.aload_n 0, 1) := by decide +kernel
theorem dX4_join_64 : decode cX4_join 64 = .ok (.getfield 10, 3) := by decide +kernel
theorem dX4_join_67 : decode cX4_join 67 = .ok (.iload_n 1, 1) := by decide +kernel
theorem dX4_join_68 : decode cX4_join 68 = .ok (.iload_n 2, 1) := by decide +kernel
theorem dX4_join_69 : decode cX4_join 69 = .ok (.invokevirtual 86, 3) := by decide +kernel
theorem dX4_join_72 : decode cX4_join 72 = .ok (.aload_n 0, 1) := by decide +kernel
theorem dX4_join_73 : decode cX4_join 73 = .ok (.getfield 10, 3) := by decide +kernel
theorem dX4_join_76 : decode cX4_join 76 = .ok (.getfield 37, 3) := by decide +kernel
theorem dX4_join_79 : decode cX4_join 79 = .ok (.invokevirtual 90, 3) := by decide +kernel
theorem dX4_join_82 : decode cX4_join 82 = .ok (.aload_n 0, 1) := by decide +kernel
theorem dX4_join_83 : decode cX4_join 83 = .ok (.getfield 10, 3) := by decide +kernel
theorem dX4_join_86 : decode cX4_join 86 = .ok (.getfield 37, 3) := by decide +kernel
theorem dX4_join_89 : decode cX4_join 89 = .ok (.getfield 93, 3) := by decide +kernel
theorem dX4_join_92 : decode cX4_join 92 = .ok (.iload_n 1, 1) := by decide +kernel
theorem dX4_join_93 : decode cX4_join 93 = .ok (.iaload, 1) := by decide +kernel
theorem dX4_join_94 : decode cX4_join 94 = .ok (.ireturn, 1) := by decide +kernel
set_option maxRecDepth 20000 in
theorem ggX4_crash_X4_requireNode : GoodIn wsX4_crash wsX4_requireNode := goodIn_ca (goodIn_r _ [10, 11, 12] (by decide +kernel) (by decide +kernel)) (goodIn_sub (fun _ h => List.mem_cons_of_mem _ (List.mem_append_right _ h)) (by decide +kernel))
set_option maxRecDepth 20000 in
theorem gX4_crash_X4_requireNode : GoodIn wsX4_crash (va_wsS RX4 61 yX4_requireNode wsX4_requireNode) := goodIn_app (goodIn_of _ (by decide +kernel)) ggX4_crash_X4_requireNode
set_option maxRecDepth 20000 in
theorem ggX4_crash_X1_endQuiet : GoodIn wsX4_crash wsX1_endQuiet := goodIn_r _ [17, 18, 19, 43, 44, 45, 46, 47, 48, 49, 50, 51, 52] (by decide +kernel) (by decide +kernel)
set_option maxRecDepth 20000 in
theorem gX4_crash_X1_endQuiet : GoodIn wsX4_crash (wsV RX4 90 RX1 yX1_endQuiet wsX1_endQuiet) := goodIn_app (goodIn_of _ (by decide +kernel)) ggX4_crash_X1_endQuiet
set_option maxRecDepth 20000 in
theorem ggX4_crash_X2_countUp : GoodIn wsX4_crash wsX2_countUp := goodIn_ca (goodIn_r _ [24, 25, 39, 40, 41, 42] (by decide +kernel) (by decide +kernel)) (goodIn_sub (fun _ h => List.mem_cons_of_mem _ (List.mem_append_left _ (List.mem_append_left _ (List.mem_append_right _ h)))) (by decide +kernel))
set_option maxRecDepth 20000 in
theorem gX4_crash_X2_countUp : GoodIn wsX4_crash (wsV RX4 99 RX2 yX2_countUp wsX2_countUp) := goodIn_app (goodIn_of _ (by decide +kernel)) ggX4_crash_X2_countUp
theorem dX4_crash_0 : decode cX4_crash 0 = .ok (.iload_n 1, 1) := by decide +kernel
theorem dX4_crash_1 : decode cX4_crash 1 = .ok (.invokestatic 61, 3) := by decide +kernel
theorem dX4_crash_4 : decode cX4_crash 4 = .ok (.aload_n 0, 1) := by decide +kernel
theorem dX4_crash_5 : decode cX4_crash 5 = .ok (.getfield 10, 3) := by decide +kernel
theorem dX4_crash_8 : decode cX4_crash 8 = .ok (.getfield 65, 3) := by decide +kernel
theorem dX4_crash_11 : decode cX4_crash 11 = .ok (.getfield 69, 3) := by decide +kernel
theorem dX4_crash_14 : decode cX4_crash 14 = .ok (.iload_n 1, 1) := by decide +kernel
theorem dX4_crash_15 : decode cX4_crash 15 = .ok (.baload, 1) := by decide +kernel
theorem dX4_crash_16 : decode cX4_crash 16 = .ok (.ifCond .ne 13, 3) := by decide +kernel
theorem dX4_crash_19 : decode cX4_crash 19 = .ok (.new 75, 3) := by decide +kernel
theorem dX4_crash_22 : decode cX4_crash 22 = .ok (.dup, 1) := by decide +kernel
theorem dX4_crash_23 : decode cX4_crash 23 = .ok (.ldc 97, 2) := by decide +kernel
theorem dX4_crash_25 : decode cX4_crash 25 = .ok (.invokespecial 79, 3) := by decide +kernel
theorem dX4_crash_28 : decode cX4_crash 28 = .ok (.athrow, 1) := by decide +kernel
theorem dX4_crash_29 : decode cX4_crash 29 = .ok (.aload_n 0, 1) := by decide +kernel
theorem dX4_crash_30 : decode cX4_crash 30 = .ok (.getfield 10, 3) := by decide +kernel
theorem dX4_crash_33 : decode cX4_crash 33 = .ok (.getfield 65, 3) := by decide +kernel
theorem dX4_crash_36 : decode cX4_crash 36 = .ok (.getfield 69, 3) := by decide +kernel
theorem dX4_crash_39 : decode cX4_crash 39 = .ok (.iload_n 1, 1) := by decide +kernel
theorem dX4_crash_40 : decode cX4_crash 40 = .ok (.iconst 0, 1) := by decide +kernel
theorem dX4_crash_41 : decode cX4_crash 41 = .ok (.bastore, 1) := by decide +kernel
theorem dX4_crash_42 : decode cX4_crash 42 = .ok (.aload_n 0, 1) := by decide +kernel
theorem dX4_crash_43 : decode cX4_crash 43 = .ok (.getfield 10, 3) := by decide +kernel
theorem dX4_crash_46 : decode cX4_crash 46 = .ok (.getfield 37, 3) := by decide +kernel
theorem dX4_crash_49 : decode cX4_crash 49 = .ok (.invokevirtual 90, 3) := by decide +kernel
theorem dX4_crash_52 : decode cX4_crash 52 = .ok (.aload_n 0, 1) := by decide +kernel
theorem dX4_crash_53 : decode cX4_crash 53 = .ok (.getfield 10, 3) := by decide +kernel
theorem dX4_crash_56 : decode cX4_crash 56 = .ok (.getfield 65, 3) := by decide +kernel
theorem dX4_crash_59 : decode cX4_crash 59 = .ok (.invokevirtual 99, 3) := by decide +kernel
theorem dX4_crash_62 : decode cX4_crash 62 = .ok (.ireturn, 1) := by decide +kernel
set_option maxRecDepth 20000 in
theorem ggX4_move_X4_requireNode : GoodIn wsX4_move wsX4_requireNode := goodIn_ca (goodIn_r _ [10, 11, 12] (by decide +kernel) (by decide +kernel)) (goodIn_sub (fun _ h => List.mem_cons_of_mem _ (List.mem_append_right _ h)) (by decide +kernel))
set_option maxRecDepth 20000 in
theorem gX4_move_X4_requireNode : GoodIn wsX4_move (va_wsS RX4 61 yX4_requireNode wsX4_requireNode) := goodIn_app (goodIn_of _ (by decide +kernel)) ggX4_move_X4_requireNode
set_option maxRecDepth 20000 in
theorem ggX4_move_X1_endQuiet : GoodIn wsX4_move wsX1_endQuiet := goodIn_r _ [17, 18, 19, 37, 38, 39, 40, 41, 42, 43, 44, 45, 46] (by decide +kernel) (by decide +kernel)
set_option maxRecDepth 20000 in
theorem gX4_move_X1_endQuiet : GoodIn wsX4_move (wsV RX4 90 RX1 yX1_endQuiet wsX1_endQuiet) := goodIn_app (goodIn_of _ (by decide +kernel)) ggX4_move_X1_endQuiet
theorem dX4_move_0 : decode cX4_move 0 = .ok (.iload_n 1, 1) := by decide +kernel
theorem dX4_move_1 : decode cX4_move 1 = .ok (.invokestatic 61, 3) := by decide +kernel
theorem dX4_move_4 : decode cX4_move 4 = .ok (.iload_n 2, 1) := by decide +kernel
theorem dX4_move_5 : decode cX4_move 5 = .ok (.ifCond .lt 8, 3) := by decide +kernel
theorem dX4_move_8 : decode cX4_move 8 = .ok (.iload_n 2, 1) := by decide +kernel
theorem dX4_move_9 : decode cX4_move 9 = .ok (.iconst 4, 1) := by decide +kernel
theorem dX4_move_10 : decode cX4_move 10 = .ok (.if_icmp .lt 13, 3) := by decide +kernel
theorem dX4_move_13 : decode cX4_move 13 = .ok (.new 30, 3) := by decide +kernel
theorem dX4_move_16 : decode cX4_move 16 = .ok (.dup, 1) := by decide +kernel
theorem dX4_move_17 : decode cX4_move 17 = .ok (.ldc 103, 2) := by decide +kernel
theorem dX4_move_19 : decode cX4_move 19 = .ok (.invokespecial 34, 3) := by decide +kernel
theorem dX4_move_22 : decode cX4_move 22 = .ok (.athrow, 1) := by decide +kernel
theorem dX4_move_23 : decode cX4_move 23 = .ok (.aload_n 0, 1) := by decide +kernel
theorem dX4_move_24 : decode cX4_move 24 = .ok (.getfield 10, 3) := by decide +kernel
theorem dX4_move_27 : decode cX4_move 27 = .ok (.getfield 65, 3) := by decide +kernel
theorem dX4_move_30 : decode cX4_move 30 = .ok (.getfield 105, 3) := by decide +kernel
theorem dX4_move_33 : decode cX4_move 33 = .ok (.iload_n 1, 1) := by decide +kernel
theorem dX4_move_34 : decode cX4_move 34 = .ok (.iaload, 1) := by decide +kernel
theorem dX4_move_35 : decode cX4_move 35 = .ok (.istore_n 3, 1) := by decide +kernel
theorem dX4_move_36 : decode cX4_move 36 = .ok (.aload_n 0, 1) := by decide +kernel
theorem dX4_move_37 : decode cX4_move 37 = .ok (.getfield 10, 3) := by decide +kernel
theorem dX4_move_40 : decode cX4_move 40 = .ok (.getfield 65, 3) := by decide +kernel
theorem dX4_move_43 : decode cX4_move 43 = .ok (.getfield 105, 3) := by decide +kernel
theorem dX4_move_46 : decode cX4_move 46 = .ok (.iload_n 1, 1) := by decide +kernel
theorem dX4_move_47 : decode cX4_move 47 = .ok (.iload_n 2, 1) := by decide +kernel
theorem dX4_move_48 : decode cX4_move 48 = .ok (.iastore, 1) := by decide +kernel
theorem dX4_move_49 : decode cX4_move 49 = .ok (.aload_n 0, 1) := by decide +kernel
theorem dX4_move_50 : decode cX4_move 50 = .ok (.getfield 10, 3) := by decide +kernel
theorem dX4_move_53 : decode cX4_move 53 = .ok (.getfield 37, 3) := by decide +kernel
theorem dX4_move_56 : decode cX4_move 56 = .ok (.invokevirtual 90, 3) := by decide +kernel
theorem dX4_move_59 : decode cX4_move 59 = .ok (.iload_n 3, 1) := by decide +kernel
theorem dX4_move_60 : decode cX4_move 60 = .ok (.ireturn, 1) := by decide +kernel
set_option maxRecDepth 20000 in
theorem ggX4_cut_X4_requireTwoNodes : GoodIn wsX4_cut wsX4_requireTwoNodes := goodIn_ca (goodIn_ca (goodIn_r _ [8, 9, 10, 11, 12, 7, 13, 14, 15] (by decide +kernel) (by decide +kernel)) (goodIn_sub (fun _ h => List.mem_cons_of_mem _ (List.mem_append_left _ (List.mem_append_right _ h))) (by decide +kernel))) (goodIn_sub (fun _ h => List.mem_cons_of_mem _ (List.mem_append_right _ h)) (by decide +kernel))
set_option maxRecDepth 20000 in
theorem gX4_cut_X4_requireTwoNodes : GoodIn wsX4_cut (va_wsS RX4 108 yX4_requireTwoNodes wsX4_requireTwoNodes) := goodIn_app (goodIn_of _ (by decide +kernel)) ggX4_cut_X4_requireTwoNodes
set_option maxRecDepth 20000 in
theorem ggX4_cut_X4_pair : GoodIn wsX4_cut wsX4_pair := goodIn_r _ [18] (by decide +kernel) (by decide +kernel)
set_option maxRecDepth 20000 in
theorem gX4_cut_X4_pair : GoodIn wsX4_cut (va_wsS RX4 114 yX4_pair wsX4_pair) := goodIn_app (goodIn_of _ (by decide +kernel)) ggX4_cut_X4_pair
set_option maxRecDepth 20000 in
theorem ggX4_cut_X2_setCut : GoodIn wsX4_cut wsX2_setCut := goodIn_ca (goodIn_r _ [23, 24, 17, 7, 18, 45, 46, 47, 48] (by decide +kernel) (by decide +kernel)) (goodIn_sub (fun _ h => List.mem_cons_of_mem _ (List.mem_append_left _ (List.mem_append_left _ (List.mem_append_right _ h)))) (by decide +kernel))
set_option maxRecDepth 20000 in
theorem gX4_cut_X2_setCut : GoodIn wsX4_cut (wsV RX4 118 RX2 yX2_setCut wsX2_setCut) := goodIn_app (goodIn_of _ (by decide +kernel)) ggX4_cut_X2_setCut
set_option maxRecDepth 20000 in
theorem ggX4_cut_X1_endQuiet : GoodIn wsX4_cut wsX1_endQuiet := goodIn_r _ [29, 30, 31, 49, 50, 51, 52, 53, 54, 55, 56, 57, 58] (by decide +kernel) (by decide +kernel)
set_option maxRecDepth 20000 in
theorem gX4_cut_X1_endQuiet : GoodIn wsX4_cut (wsV RX4 90 RX1 yX1_endQuiet wsX1_endQuiet) := goodIn_app (goodIn_of _ (by decide +kernel)) ggX4_cut_X1_endQuiet
theorem dX4_cut_0 : decode cX4_cut 0 = .ok (.iload_n 1, 1) := by decide +kernel
theorem dX4_cut_1 : decode cX4_cut 1 = .ok (.iload_n 2, 1) := by decide +kernel
theorem dX4_cut_2 : decode cX4_cut 2 = .ok (.invokestatic 108, 3) := by decide +kernel
theorem dX4_cut_5 : decode cX4_cut 5 = .ok (.aload_n 0, 1) := by decide +kernel
theorem dX4_cut_6 : decode cX4_cut 6 = .ok (.getfield 10, 3) := by decide +kernel
theorem dX4_cut_9 : decode cX4_cut 9 = .ok (.getfield 65, 3) := by decide +kernel
theorem dX4_cut_12 : decode cX4_cut 12 = .ok (.getfield 111, 3) := by decide +kernel
theorem dX4_cut_15 : decode cX4_cut 15 = .ok (.iload_n 1, 1) := by decide +kernel
theorem dX4_cut_16 : decode cX4_cut 16 = .ok (.iload_n 2, 1) := by decide +kernel
theorem dX4_cut_17 : decode cX4_cut 17 = .ok (.invokestatic 114, 3) := by decide +kernel
theorem dX4_cut_20 : decode cX4_cut 20 = .ok (.baload, 1) := by decide +kernel
theorem dX4_cut_21 : decode cX4_cut 21 = .ok (.istore 4, 2) := by decide +kernel
theorem dX4_cut_23 : decode cX4_cut 23 = .ok (.aload_n 0, 1) := by decide +kernel
theorem dX4_cut_24 : decode cX4_cut 24 = .ok (.getfield 10, 3) := by decide +kernel
theorem dX4_cut_27 : decode cX4_cut 27 = .ok (.getfield 65, 3) := by decide +kernel
theorem dX4_cut_30 : decode cX4_cut 30 = .ok (.iload_n 1, 1) := by decide +kernel
theorem dX4_cut_31 : decode cX4_cut 31 = .ok (.iload_n 2, 1) := by decide +kernel
theorem dX4_cut_32 : decode cX4_cut 32 = .ok (.iload_n 3, 1) := by decide +kernel
theorem dX4_cut_33 : decode cX4_cut 33 = .ok (.invokevirtual 118, 3) := by decide +kernel
theorem dX4_cut_36 : decode cX4_cut 36 = .ok (.aload_n 0, 1) := by decide +kernel
theorem dX4_cut_37 : decode cX4_cut 37 = .ok (.getfield 10, 3) := by decide +kernel
theorem dX4_cut_40 : decode cX4_cut 40 = .ok (.getfield 37, 3) := by decide +kernel
theorem dX4_cut_43 : decode cX4_cut 43 = .ok (.invokevirtual 90, 3) := by decide +kernel
theorem dX4_cut_46 : decode cX4_cut 46 = .ok (.iload 4, 2) := by decide +kernel
theorem dX4_cut_48 : decode cX4_cut 48 = .ok (.ireturn, 1) := by decide +kernel
set_option maxRecDepth 20000 in
theorem ggX4_rounds_X3_play : GoodIn wsX4_rounds wsX3_play := goodIn_ca (goodIn_ca (goodIn_r _ [10, 11, 12, 13, 14, 15, 16, 17, 9, 18, 19, 20, 21, 22, 23, 24, 25, 26, 27, 28, 29, 30, 31, 32, 33, 34, 35, 36, 37, 38, 39, 40, 41, 42, 43, 44, 45, 46, 47, 48, 49, 50, 51, 52, 53, 54, 55, 56, 57, 58, 59, 60, 61, 62, 63, 64, 65, 66, 67, 68, 69, 70, 71, 72, 73, 74, 75, 76, 77, 78, 79, 80, 81, 82, 83, 84, 85, 86, 87, 88, 89, 90, 91, 92, 93, 94, 95, 96, 97, 98, 99, 100, 101, 102, 103, 104, 105, 106, 107, 108, 109, 116, 117, 118, 119, 120, 121, 122, 123, 124, 125, 126, 127, 128, 129, 130, 131, 132, 133, 134, 135, 136] (by decide +kernel) (by decide +kernel)) (goodIn_sub (fun _ h => List.mem_cons_of_mem _ (List.mem_append_left _ (List.mem_append_right _ h))) (by decide +kernel))) (goodIn_sub (fun _ h => List.mem_cons_of_mem _ (List.mem_append_right _ h)) (by decide +kernel))
set_option maxRecDepth 20000 in
theorem gX4_rounds_X3_play : GoodIn wsX4_rounds (wsV RX4 124 RX3 yX3_play wsX3_play) := goodIn_app (goodIn_of _ (by decide +kernel)) ggX4_rounds_X3_play
theorem dX4_rounds_0 : decode cX4_rounds 0 = .ok (.iload_n 1, 1) := by decide +kernel
theorem dX4_rounds_1 : decode cX4_rounds 1 = .ok (.iconst 1, 1) := by decide +kernel
theorem dX4_rounds_2 : decode cX4_rounds 2 = .ok (.if_icmp .lt 9, 3) := by decide +kernel
theorem dX4_rounds_5 : decode cX4_rounds 5 = .ok (.iload_n 1, 1) := by decide +kernel
theorem dX4_rounds_6 : decode cX4_rounds 6 = .ok (.bipush 50, 2) := by decide +kernel
theorem dX4_rounds_8 : decode cX4_rounds 8 = .ok (.if_icmp .le 13, 3) := by decide +kernel
theorem dX4_rounds_11 : decode cX4_rounds 11 = .ok (.new 30, 3) := by decide +kernel
theorem dX4_rounds_14 : decode cX4_rounds 14 = .ok (.dup, 1) := by decide +kernel
theorem dX4_rounds_15 : decode cX4_rounds 15 = .ok (.ldc 122, 2) := by decide +kernel
theorem dX4_rounds_17 : decode cX4_rounds 17 = .ok (.invokespecial 34, 3) := by decide +kernel
theorem dX4_rounds_20 : decode cX4_rounds 20 = .ok (.athrow, 1) := by decide +kernel
theorem dX4_rounds_21 : decode cX4_rounds 21 = .ok (.aload_n 0, 1) := by decide +kernel
theorem dX4_rounds_22 : decode cX4_rounds 22 = .ok (.getfield 10, 3) := by decide +kernel
theorem dX4_rounds_25 : decode cX4_rounds 25 = .ok (.iload_n 1, 1) := by decide +kernel
theorem dX4_rounds_26 : decode cX4_rounds 26 = .ok (.invokevirtual 124, 3) := by decide +kernel
theorem dX4_rounds_29 : decode cX4_rounds 29 = .ok (.aload_n 0, 1) := by decide +kernel
theorem dX4_rounds_30 : decode cX4_rounds 30 = .ok (.getfield 10, 3) := by decide +kernel
theorem dX4_rounds_33 : decode cX4_rounds 33 = .ok (.getfield 37, 3) := by decide +kernel
theorem dX4_rounds_36 : decode cX4_rounds 36 = .ok (.getfield 127, 3) := by decide +kernel
theorem dX4_rounds_39 : decode cX4_rounds 39 = .ok (.ireturn, 1) := by decide +kernel
set_option maxRecDepth 20000 in
theorem ggX4_roundsUntilAgreement_X3_allAgree : GoodIn wsX4_roundsUntilAgreement wsX3_allAgree := goodIn_ca (goodIn_r _ [10, 11, 12, 13, 14, 15, 16, 17, 18, 19, 20, 21, 22, 23, 24, 25, 26, 27, 28, 29, 9, 30, 31, 32, 33, 34, 35, 36, 37, 38, 39, 40, 41, 42, 43, 44, 45, 46, 47, 136, 137, 138, 139, 140, 141, 142, 143, 144, 145, 146, 147, 148, 149, 150, 151, 152, 153, 154, 155, 156] (by decide +kernel) (by decide +kernel)) (goodIn_sub (fun _ h => List.mem_cons_of_mem _ (List.mem_append_left _ (List.mem_append_right _ h))) (by decide +kernel))
set_option maxRecDepth 20000 in
theorem gX4_roundsUntilAgreement_X3_allAgree : GoodIn wsX4_roundsUntilAgreement (wsV RX4 132 RX3 yX3_allAgree wsX3_allAgree) := goodIn_app (goodIn_of _ (by decide +kernel)) ggX4_roundsUntilAgreement_X3_allAgree
set_option maxRecDepth 20000 in
theorem ggX4_roundsUntilAgreement_X3_play : GoodIn wsX4_roundsUntilAgreement wsX3_play := goodIn_ca (goodIn_ca (goodIn_r _ [51, 31, 52, 11, 53, 54, 55, 56, 9, 57, 58, 59, 60, 61, 62, 63, 64, 65, 66, 67, 35, 68, 37, 24, 25, 26, 69, 70, 71, 72, 39, 38, 73, 74, 75, 76, 77, 78, 79, 80, 81, 82, 83, 84, 85, 86, 87, 88, 89, 90, 91, 92, 93, 94, 95, 12, 13, 14, 15, 16, 17, 18, 19, 20, 21, 22, 23, 96, 97, 98, 99, 100, 101, 102, 103, 104, 105, 106, 107, 108, 109, 110, 111, 112, 113, 114, 115, 116, 117, 118, 119, 120, 121, 122, 123, 124, 125, 126, 127, 128, 129, 136, 137, 138, 139, 140, 141, 142, 147, 148, 149, 150, 151, 152, 153, 154, 155, 156, 143, 144, 145, 146] (by decide +kernel) (by decide +kernel)) (goodIn_sub (fun _ h => List.mem_cons_of_mem _ (List.mem_append_left _ (List.mem_append_right _ h))) (by decide +kernel))) (goodIn_sub (fun _ h => List.mem_cons_of_mem _ (List.mem_append_right _ h)) (by decide +kernel))
set_option maxRecDepth 20000 in
theorem gX4_roundsUntilAgreement_X3_play : GoodIn wsX4_roundsUntilAgreement (wsV RX4 124 RX3 yX3_play wsX3_play) := goodIn_app (goodIn_of _ (by decide +kernel)) ggX4_roundsUntilAgreement_X3_play
theorem dX4_roundsUntilAgreement_0 : decode cX4_roundsUntilAgreement 0 = .ok (.iload_n 1, 1) := by decide +kernel
theorem dX4_roundsUntilAgreement_1 : decode cX4_roundsUntilAgreement 1 = .ok (.iconst 1, 1) := by decide +kernel
theorem dX4_roundsUntilAgreement_2 : decode cX4_roundsUntilAgreement 2 = .ok (.if_icmp .lt 9, 3) := by decide +kernel
theorem dX4_roundsUntilAgreement_5 : decode cX4_roundsUntilAgreement 5 = .ok (.iload_n 1, 1) := by decide +kernel
theorem dX4_roundsUntilAgreement_6 : decode cX4_roundsUntilAgreement 6 = .ok (.bipush 100, 2) := by decide +kernel
theorem dX4_roundsUntilAgreement_8 : decode cX4_roundsUntilAgreement 8 = .ok (.if_icmp .le 13, 3) := by decide +kernel
theorem dX4_roundsUntilAgreement_11 : decode cX4_roundsUntilAgreement 11 = .ok (.new 30, 3) := by decide +kernel
theorem dX4_roundsUntilAgreement_14 : decode cX4_roundsUntilAgreement 14 = .ok (.dup, 1) := by decide +kernel
theorem dX4_roundsUntilAgreement_15 : decode cX4_roundsUntilAgreement 15 = .ok (.ldc 130, 2) := by decide +kernel
theorem dX4_roundsUntilAgreement_17 : decode cX4_roundsUntilAgreement 17 = .ok (.invokespecial 34, 3) := by decide +kernel
theorem dX4_roundsUntilAgreement_20 : decode cX4_roundsUntilAgreement 20 = .ok (.athrow, 1) := by decide +kernel
theorem dX4_roundsUntilAgreement_21 : decode cX4_roundsUntilAgreement 21 = .ok (.iconst 0, 1) := by decide +kernel
theorem dX4_roundsUntilAgreement_22 : decode cX4_roundsUntilAgreement 22 = .ok (.istore_n 2, 1) := by decide +kernel
theorem dX4_roundsUntilAgreement_23 : decode cX4_roundsUntilAgreement 23 = .ok (.aload_n 0, 1) := by decide +kernel
theorem dX4_roundsUntilAgreement_24 : decode cX4_roundsUntilAgreement 24 = .ok (.getfield 10, 3) := by decide +kernel
theorem dX4_roundsUntilAgreement_27 : decode cX4_roundsUntilAgreement 27 = .ok (.invokevirtual 132, 3) := by decide +kernel
theorem dX4_roundsUntilAgreement_30 : decode cX4_roundsUntilAgreement 30 = .ok (.istore_n 3, 1) := by decide +kernel
theorem dX4_roundsUntilAgreement_31 : decode cX4_roundsUntilAgreement 31 = .ok (.iload_n 3, 1) := by decide +kernel
theorem dX4_roundsUntilAgreement_32 : decode cX4_roundsUntilAgreement 32 = .ok (.ifCond .ne 30, 3) := by decide +kernel
theorem dX4_roundsUntilAgreement_35 : decode cX4_roundsUntilAgreement 35 = .ok (.iload_n 2, 1) := by decide +kernel
theorem dX4_roundsUntilAgreement_36 : decode cX4_roundsUntilAgreement 36 = .ok (.iload_n 1, 1) := by decide +kernel
theorem dX4_roundsUntilAgreement_37 : decode cX4_roundsUntilAgreement 37 = .ok (.if_icmp .ge 25, 3) := by decide +kernel
theorem dX4_roundsUntilAgreement_40 : decode cX4_roundsUntilAgreement 40 = .ok (.aload_n 0, 1) := by decide +kernel
theorem dX4_roundsUntilAgreement_41 : decode cX4_roundsUntilAgreement 41 = .ok (.getfield 10, 3) := by decide +kernel
theorem dX4_roundsUntilAgreement_44 : decode cX4_roundsUntilAgreement 44 = .ok (.iconst 1, 1) := by decide +kernel
theorem dX4_roundsUntilAgreement_45 : decode cX4_roundsUntilAgreement 45 = .ok (.invokevirtual 124, 3) := by decide +kernel
theorem dX4_roundsUntilAgreement_48 : decode cX4_roundsUntilAgreement 48 = .ok (.iinc 2 1, 3) := by decide +kernel
theorem dX4_roundsUntilAgreement_51 : decode cX4_roundsUntilAgreement 51 = .ok (.aload_n 0, 1) := by decide +kernel
theorem dX4_roundsUntilAgreement_52 : decode cX4_roundsUntilAgreement 52 = .ok (.getfield 10, 3) := by decide +kernel
theorem dX4_roundsUntilAgreement_55 : decode cX4_roundsUntilAgreement 55 = .ok (.invokevirtual 132, 3) := by decide +kernel
theorem dX4_roundsUntilAgreement_58 : decode cX4_roundsUntilAgreement 58 = .ok (.istore_n 3, 1) := by decide +kernel
theorem dX4_roundsUntilAgreement_59 : decode cX4_roundsUntilAgreement 59 = .ok (.goto (-28), 3) := by decide +kernel
theorem dX4_roundsUntilAgreement_62 : decode cX4_roundsUntilAgreement 62 = .ok (.iload_n 3, 1) := by decide +kernel
theorem dX4_roundsUntilAgreement_63 : decode cX4_roundsUntilAgreement 63 = .ok (.ifCond .ne 13, 3) := by decide +kernel
theorem dX4_roundsUntilAgreement_66 : decode cX4_roundsUntilAgreement 66 = .ok (.new 136, 3) := by decide +kernel
theorem dX4_roundsUntilAgreement_69 : decode cX4_roundsUntilAgreement 69 = .ok (.dup, 1) := by decide +kernel
theorem dX4_roundsUntilAgreement_70 : decode cX4_roundsUntilAgreement 70 = .ok (.ldc 138, 2) := by decide +kernel
theorem dX4_roundsUntilAgreement_72 : decode cX4_roundsUntilAgreement 72 = .ok (.invokespecial 140, 3) := by decide +kernel
theorem dX4_roundsUntilAgreement_75 : decode cX4_roundsUntilAgreement 75 = .ok (.athrow, 1) := by decide +kernel
theorem dX4_roundsUntilAgreement_76 : decode cX4_roundsUntilAgreement 76 = .ok (.iload_n 2, 1) := by decide +kernel
theorem dX4_roundsUntilAgreement_77 : decode cX4_roundsUntilAgreement 77 = .ok (.ireturn, 1) := by decide +kernel
theorem dX4_round_0 : decode cX4_round 0 = .ok (.aload_n 0, 1) := by decide +kernel
theorem dX4_round_1 : decode cX4_round 1 = .ok (.getfield 10, 3) := by decide +kernel
theorem dX4_round_4 : decode cX4_round 4 = .ok (.getfield 37, 3) := by decide +kernel
theorem dX4_round_7 : decode cX4_round 7 = .ok (.getfield 127, 3) := by decide +kernel
theorem dX4_round_10 : decode cX4_round 10 = .ok (.ireturn, 1) := by decide +kernel
set_option maxRecDepth 20000 in
theorem ggX4_isUp_X4_requireNode : GoodIn wsX4_isUp wsX4_requireNode := goodIn_ca (goodIn_r _ [7, 8, 9] (by decide +kernel) (by decide +kernel)) (goodIn_sub (fun _ h => List.mem_cons_of_mem _ (List.mem_append_right _ h)) (by decide +kernel))
set_option maxRecDepth 20000 in
theorem gX4_isUp_X4_requireNode : GoodIn wsX4_isUp (va_wsS RX4 61 yX4_requireNode wsX4_requireNode) := goodIn_app (goodIn_of _ (by decide +kernel)) ggX4_isUp_X4_requireNode
theorem dX4_isUp_0 : decode cX4_isUp 0 = .ok (.iload_n 1, 1) := by decide +kernel
theorem dX4_isUp_1 : decode cX4_isUp 1 = .ok (.invokestatic 61, 3) := by decide +kernel
theorem dX4_isUp_4 : decode cX4_isUp 4 = .ok (.aload_n 0, 1) := by decide +kernel
theorem dX4_isUp_5 : decode cX4_isUp 5 = .ok (.getfield 10, 3) := by decide +kernel
theorem dX4_isUp_8 : decode cX4_isUp 8 = .ok (.getfield 65, 3) := by decide +kernel
theorem dX4_isUp_11 : decode cX4_isUp 11 = .ok (.getfield 69, 3) := by decide +kernel
theorem dX4_isUp_14 : decode cX4_isUp 14 = .ok (.iload_n 1, 1) := by decide +kernel
theorem dX4_isUp_15 : decode cX4_isUp 15 = .ok (.baload, 1) := by decide +kernel
theorem dX4_isUp_16 : decode cX4_isUp 16 = .ok (.ireturn, 1) := by decide +kernel
set_option maxRecDepth 20000 in
theorem ggX4_partition_X4_requireNode : GoodIn wsX4_partition wsX4_requireNode := goodIn_ca (goodIn_r _ [7, 8, 9] (by decide +kernel) (by decide +kernel)) (goodIn_sub (fun _ h => List.mem_cons_of_mem _ (List.mem_append_right _ h)) (by decide +kernel))
set_option maxRecDepth 20000 in
theorem gX4_partition_X4_requireNode : GoodIn wsX4_partition (va_wsS RX4 61 yX4_requireNode wsX4_requireNode) := goodIn_app (goodIn_of _ (by decide +kernel)) ggX4_partition_X4_requireNode
theorem dX4_partition_0 : decode cX4_partition 0 = .ok (.iload_n 1, 1) := by decide +kernel
theorem dX4_partition_1 : decode cX4_partition 1 = .ok (.invokestatic 61, 3) := by decide +kernel
theorem dX4_partition_4 : decode cX4_partition 4 = .ok (.aload_n 0, 1) := by decide +kernel
theorem dX4_partition_5 : decode cX4_partition 5 = .ok (.getfield 10, 3) := by decide +kernel
theorem dX4_partition_8 : decode cX4_partition 8 = .ok (.getfield 65, 3) := by decide +kernel
theorem dX4_partition_11 : decode cX4_partition 11 = .ok (.getfield 105, 3) := by decide +kernel
theorem dX4_partition_14 : decode cX4_partition 14 = .ok (.iload_n 1, 1) := by decide +kernel
theorem dX4_partition_15 : decode cX4_partition 15 = .ok (.iaload, 1) := by decide +kernel
theorem dX4_partition_16 : decode cX4_partition 16 = .ok (.ireturn, 1) := by decide +kernel
set_option maxRecDepth 20000 in
theorem ggX4_incarnation_X4_requireNode : GoodIn wsX4_incarnation wsX4_requireNode := goodIn_ca (goodIn_r _ [7, 8, 9] (by decide +kernel) (by decide +kernel)) (goodIn_sub (fun _ h => List.mem_cons_of_mem _ (List.mem_append_right _ h)) (by decide +kernel))
set_option maxRecDepth 20000 in
theorem gX4_incarnation_X4_requireNode : GoodIn wsX4_incarnation (va_wsS RX4 61 yX4_requireNode wsX4_requireNode) := goodIn_app (goodIn_of _ (by decide +kernel)) ggX4_incarnation_X4_requireNode
theorem dX4_incarnation_0 : decode cX4_incarnation 0 = .ok (.iload_n 1, 1) := by decide +kernel
theorem dX4_incarnation_1 : decode cX4_incarnation 1 = .ok (.invokestatic 61, 3) := by decide +kernel
theorem dX4_incarnation_4 : decode cX4_incarnation 4 = .ok (.aload_n 0, 1) := by decide +kernel
theorem dX4_incarnation_5 : decode cX4_incarnation 5 = .ok (.getfield 10, 3) := by decide +kernel
theorem dX4_incarnation_8 : decode cX4_incarnation 8 = .ok (.getfield 37, 3) := by decide +kernel
theorem dX4_incarnation_11 : decode cX4_incarnation 11 = .ok (.getfield 93, 3) := by decide +kernel
theorem dX4_incarnation_14 : decode cX4_incarnation 14 = .ok (.iload_n 1, 1) := by decide +kernel
theorem dX4_incarnation_15 : decode cX4_incarnation 15 = .ok (.iaload, 1) := by decide +kernel
theorem dX4_incarnation_16 : decode cX4_incarnation 16 = .ok (.ireturn, 1) := by decide +kernel
set_option maxRecDepth 20000 in
theorem ggX4_reaches_X4_requireNode : GoodIn wsX4_reaches wsX4_requireNode := goodIn_ca (goodIn_r _ [6, 7, 8] (by decide +kernel) (by decide +kernel)) (goodIn_sub (fun _ h => List.mem_cons_of_mem _ (List.mem_append_left _ (List.mem_append_right _ h))) (by decide +kernel))
set_option maxRecDepth 20000 in
theorem gX4_reaches_X4_requireNode : GoodIn wsX4_reaches (va_wsS RX4 61 yX4_requireNode wsX4_requireNode) := goodIn_app (goodIn_of _ (by decide +kernel)) ggX4_reaches_X4_requireNode
set_option maxRecDepth 20000 in
theorem ggX4_reaches_X2_connects : GoodIn wsX4_reaches wsX2_connects := goodIn_ca (goodIn_r _ [13, 14, 15, 16, 17, 12, 18, 19, 20, 21, 5, 22, 36, 37, 38, 39] (by decide +kernel) (by decide +kernel)) (goodIn_sub (fun _ h => List.mem_cons_of_mem _ (List.mem_append_right _ h)) (by decide +kernel))
set_option maxRecDepth 20000 in
theorem gX4_reaches_X2_connects : GoodIn wsX4_reaches (wsV RX4 141 RX2 yX2_connects wsX2_connects) := goodIn_app (goodIn_of _ (by decide +kernel)) ggX4_reaches_X2_connects
theorem dX4_reaches_0 : decode cX4_reaches 0 = .ok (.iload_n 1, 1) := by decide +kernel
theorem dX4_reaches_1 : decode cX4_reaches 1 = .ok (.invokestatic 61, 3) := by decide +kernel
theorem dX4_reaches_4 : decode cX4_reaches 4 = .ok (.iload_n 2, 1) := by decide +kernel
theorem dX4_reaches_5 : decode cX4_reaches 5 = .ok (.invokestatic 61, 3) := by decide +kernel
theorem dX4_reaches_8 : decode cX4_reaches 8 = .ok (.aload_n 0, 1) := by decide +kernel
theorem dX4_reaches_9 : decode cX4_reaches 9 = .ok (.getfield 10, 3) := by decide +kernel
theorem dX4_reaches_12 : decode cX4_reaches 12 = .ok (.getfield 65, 3) := by decide +kernel
theorem dX4_reaches_15 : decode cX4_reaches 15 = .ok (.iload_n 1, 1) := by decide +kernel
theorem dX4_reaches_16 : decode cX4_reaches 16 = .ok (.iload_n 2, 1) := by decide +kernel
theorem dX4_reaches_17 : decode cX4_reaches 17 = .ok (.invokevirtual 141, 3) := by decide +kernel
theorem dX4_reaches_20 : decode cX4_reaches 20 = .ok (.ireturn, 1) := by decide +kernel
set_option maxRecDepth 20000 in
theorem ggX4_view_X4_requireTwoNodes : GoodIn wsX4_view wsX4_requireTwoNodes := goodIn_ca (goodIn_ca (goodIn_r _ [7, 8, 9, 10, 11, 6, 12, 13, 14] (by decide +kernel) (by decide +kernel)) (goodIn_sub (fun _ h => List.mem_cons_of_mem _ (List.mem_append_left _ (List.mem_append_right _ h))) (by decide +kernel))) (goodIn_sub (fun _ h => List.mem_cons_of_mem _ (List.mem_append_right _ h)) (by decide +kernel))
set_option maxRecDepth 20000 in
theorem gX4_view_X4_requireTwoNodes : GoodIn wsX4_view (va_wsS RX4 108 yX4_requireTwoNodes wsX4_requireTwoNodes) := goodIn_app (goodIn_of _ (by decide +kernel)) ggX4_view_X4_requireTwoNodes
set_option maxRecDepth 20000 in
theorem ggX4_view_X4_pair : GoodIn wsX4_view wsX4_pair := goodIn_r _ [17] (by decide +kernel) (by decide +kernel)
set_option maxRecDepth 20000 in
theorem gX4_view_X4_pair : GoodIn wsX4_view (va_wsS RX4 114 yX4_pair wsX4_pair) := goodIn_app (goodIn_of _ (by decide +kernel)) ggX4_view_X4_pair
theorem dX4_view_0 : decode cX4_view 0 = .ok (.iload_n 1, 1) := by decide +kernel
theorem dX4_view_1 : decode cX4_view 1 = .ok (.iload_n 2, 1) := by decide +kernel
theorem dX4_view_2 : decode cX4_view 2 = .ok (.invokestatic 108, 3) := by decide +kernel
theorem dX4_view_5 : decode cX4_view 5 = .ok (.aload_n 0, 1) := by decide +kernel
theorem dX4_view_6 : decode cX4_view 6 = .ok (.getfield 10, 3) := by decide +kernel
theorem dX4_view_9 : decode cX4_view 9 = .ok (.getfield 37, 3) := by decide +kernel
theorem dX4_view_12 : decode cX4_view 12 = .ok (.getfield 144, 3) := by decide +kernel
theorem dX4_view_15 : decode cX4_view 15 = .ok (.iload_n 1, 1) := by decide +kernel
theorem dX4_view_16 : decode cX4_view 16 = .ok (.iload_n 2, 1) := by decide +kernel
theorem dX4_view_17 : decode cX4_view 17 = .ok (.invokestatic 114, 3) := by decide +kernel
theorem dX4_view_20 : decode cX4_view 20 = .ok (.iaload, 1) := by decide +kernel
theorem dX4_view_21 : decode cX4_view 21 = .ok (.ireturn, 1) := by decide +kernel
set_option maxRecDepth 20000 in
theorem ggX4_viewIncarnation_X4_requireTwoNodes : GoodIn wsX4_viewIncarnation wsX4_requireTwoNodes := goodIn_ca (goodIn_ca (goodIn_r _ [7, 8, 9, 10, 11, 6, 12, 13, 14] (by decide +kernel) (by decide +kernel)) (goodIn_sub (fun _ h => List.mem_cons_of_mem _ (List.mem_append_left _ (List.mem_append_right _ h))) (by decide +kernel))) (goodIn_sub (fun _ h => List.mem_cons_of_mem _ (List.mem_append_right _ h)) (by decide +kernel))
set_option maxRecDepth 20000 in
theorem gX4_viewIncarnation_X4_requireTwoNodes : GoodIn wsX4_viewIncarnation (va_wsS RX4 108 yX4_requireTwoNodes wsX4_requireTwoNodes) := goodIn_app (goodIn_of _ (by decide +kernel)) ggX4_viewIncarnation_X4_requireTwoNodes
set_option maxRecDepth 20000 in
theorem ggX4_viewIncarnation_X4_pair : GoodIn wsX4_viewIncarnation wsX4_pair := goodIn_r _ [17] (by decide +kernel) (by decide +kernel)
set_option maxRecDepth 20000 in
theorem gX4_viewIncarnation_X4_pair : GoodIn wsX4_viewIncarnation (va_wsS RX4 114 yX4_pair wsX4_pair) := goodIn_app (goodIn_of _ (by decide +kernel)) ggX4_viewIncarnation_X4_pair
theorem dX4_viewIncarnation_0 : decode cX4_viewIncarnation 0 = .ok (.iload_n 1, 1) := by decide +kernel
theorem dX4_viewIncarnation_1 : decode cX4_viewIncarnation 1 = .ok (.iload_n 2, 1) := by decide +kernel
theorem dX4_viewIncarnation_2 : decode cX4_viewIncarnation 2 = .ok (.invokestatic 108, 3) := by decide +kernel
theorem dX4_viewIncarnation_5 : decode cX4_viewIncarnation 5 = .ok (.aload_n 0, 1) := by decide +kernel
theorem dX4_viewIncarnation_6 : decode cX4_viewIncarnation 6 = .ok (.getfield 10, 3) := by decide +kernel
theorem dX4_viewIncarnation_9 : decode cX4_viewIncarnation 9 = .ok (.getfield 37, 3) := by decide +kernel
theorem dX4_viewIncarnation_12 : decode cX4_viewIncarnation 12 = .ok (.getfield 147, 3) := by decide +kernel
theorem dX4_viewIncarnation_15 : decode cX4_viewIncarnation 15 = .ok (.iload_n 1, 1) := by decide +kernel
theorem dX4_viewIncarnation_16 : decode cX4_viewIncarnation 16 = .ok (.iload_n 2, 1) := by decide +kernel
theorem dX4_viewIncarnation_17 : decode cX4_viewIncarnation 17 = .ok (.invokestatic 114, 3) := by decide +kernel
theorem dX4_viewIncarnation_20 : decode cX4_viewIncarnation 20 = .ok (.iaload, 1) := by decide +kernel
theorem dX4_viewIncarnation_21 : decode cX4_viewIncarnation 21 = .ok (.ireturn, 1) := by decide +kernel
set_option maxRecDepth 20000 in
theorem ggX4_deadline_X4_requireTwoNodes : GoodIn wsX4_deadline wsX4_requireTwoNodes := goodIn_ca (goodIn_ca (goodIn_r _ [10, 11, 12, 13, 14, 9, 15, 16, 17] (by decide +kernel) (by decide +kernel)) (goodIn_sub (fun _ h => List.mem_cons_of_mem _ (List.mem_append_left _ (List.mem_append_right _ h))) (by decide +kernel))) (goodIn_sub (fun _ h => List.mem_cons_of_mem _ (List.mem_append_right _ h)) (by decide +kernel))
set_option maxRecDepth 20000 in
theorem gX4_deadline_X4_requireTwoNodes : GoodIn wsX4_deadline (va_wsS RX4 108 yX4_requireTwoNodes wsX4_requireTwoNodes) := goodIn_app (goodIn_of _ (by decide +kernel)) ggX4_deadline_X4_requireTwoNodes
set_option maxRecDepth 20000 in
theorem ggX4_deadline_X4_pair : GoodIn wsX4_deadline wsX4_pair := goodIn_r _ [20] (by decide +kernel) (by decide +kernel)
set_option maxRecDepth 20000 in
theorem gX4_deadline_X4_pair : GoodIn wsX4_deadline (va_wsS RX4 114 yX4_pair wsX4_pair) := goodIn_app (goodIn_of _ (by decide +kernel)) ggX4_deadline_X4_pair
theorem dX4_deadline_0 : decode cX4_deadline 0 = .ok (.iload_n 1, 1) := by decide +kernel
theorem dX4_deadline_1 : decode cX4_deadline 1 = .ok (.iload_n 2, 1) := by decide +kernel
theorem dX4_deadline_2 : decode cX4_deadline 2 = .ok (.invokestatic 108, 3) := by decide +kernel
theorem dX4_deadline_5 : decode cX4_deadline 5 = .ok (.aload_n 0, 1) := by decide +kernel
theorem dX4_deadline_6 : decode cX4_deadline 6 = .ok (.getfield 10, 3) := by decide +kernel
theorem dX4_deadline_9 : decode cX4_deadline 9 = .ok (.getfield 37, 3) := by decide +kernel
theorem dX4_deadline_12 : decode cX4_deadline 12 = .ok (.getfield 144, 3) := by decide +kernel
theorem dX4_deadline_15 : decode cX4_deadline 15 = .ok (.iload_n 1, 1) := by decide +kernel
theorem dX4_deadline_16 : decode cX4_deadline 16 = .ok (.iload_n 2, 1) := by decide +kernel
theorem dX4_deadline_17 : decode cX4_deadline 17 = .ok (.invokestatic 114, 3) := by decide +kernel
theorem dX4_deadline_20 : decode cX4_deadline 20 = .ok (.iaload, 1) := by decide +kernel
theorem dX4_deadline_21 : decode cX4_deadline 21 = .ok (.iconst 2, 1) := by decide +kernel
theorem dX4_deadline_22 : decode cX4_deadline 22 = .ok (.if_icmp .eq 13, 3) := by decide +kernel
theorem dX4_deadline_25 : decode cX4_deadline 25 = .ok (.new 136, 3) := by decide +kernel
theorem dX4_deadline_28 : decode cX4_deadline 28 = .ok (.dup, 1) := by decide +kernel
theorem dX4_deadline_29 : decode cX4_deadline 29 = .ok (.ldc 150, 2) := by decide +kernel
theorem dX4_deadline_31 : decode cX4_deadline 31 = .ok (.invokespecial 140, 3) := by decide +kernel
theorem dX4_deadline_34 : decode cX4_deadline 34 = .ok (.athrow, 1) := by decide +kernel
theorem dX4_deadline_35 : decode cX4_deadline 35 = .ok (.aload_n 0, 1) := by decide +kernel
theorem dX4_deadline_36 : decode cX4_deadline 36 = .ok (.getfield 10, 3) := by decide +kernel
theorem dX4_deadline_39 : decode cX4_deadline 39 = .ok (.getfield 37, 3) := by decide +kernel
theorem dX4_deadline_42 : decode cX4_deadline 42 = .ok (.getfield 152, 3) := by decide +kernel
theorem dX4_deadline_45 : decode cX4_deadline 45 = .ok (.iload_n 1, 1) := by decide +kernel
theorem dX4_deadline_46 : decode cX4_deadline 46 = .ok (.iload_n 2, 1) := by decide +kernel
theorem dX4_deadline_47 : decode cX4_deadline 47 = .ok (.invokestatic 114, 3) := by decide +kernel
theorem dX4_deadline_50 : decode cX4_deadline 50 = .ok (.iaload, 1) := by decide +kernel
theorem dX4_deadline_51 : decode cX4_deadline 51 = .ok (.ireturn, 1) := by decide +kernel
set_option maxRecDepth 20000 in
theorem ggX4_counter_X4_requireNode : GoodIn wsX4_counter wsX4_requireNode := goodIn_ca (goodIn_r _ [7, 8, 9] (by decide +kernel) (by decide +kernel)) (goodIn_sub (fun _ h => List.mem_cons_of_mem _ (List.mem_append_right _ h)) (by decide +kernel))
set_option maxRecDepth 20000 in
theorem gX4_counter_X4_requireNode : GoodIn wsX4_counter (va_wsS RX4 61 yX4_requireNode wsX4_requireNode) := goodIn_app (goodIn_of _ (by decide +kernel)) ggX4_counter_X4_requireNode
set_option maxRecDepth 20000 in
theorem ggX4_counter_X4_pair : GoodIn wsX4_counter wsX4_pair := goodIn_r _ [12] (by decide +kernel) (by decide +kernel)
set_option maxRecDepth 20000 in
theorem gX4_counter_X4_pair : GoodIn wsX4_counter (va_wsS RX4 114 yX4_pair wsX4_pair) := goodIn_app (goodIn_of _ (by decide +kernel)) ggX4_counter_X4_pair
theorem dX4_counter_0 : decode cX4_counter 0 = .ok (.iload_n 1, 1) := by decide +kernel
theorem dX4_counter_1 : decode cX4_counter 1 = .ok (.invokestatic 61, 3) := by decide +kernel
theorem dX4_counter_4 : decode cX4_counter 4 = .ok (.iload_n 2, 1) := by decide +kernel
theorem dX4_counter_5 : decode cX4_counter 5 = .ok (.invokestatic 61, 3) := by decide +kernel
theorem dX4_counter_8 : decode cX4_counter 8 = .ok (.aload_n 0, 1) := by decide +kernel
theorem dX4_counter_9 : decode cX4_counter 9 = .ok (.getfield 10, 3) := by decide +kernel
theorem dX4_counter_12 : decode cX4_counter 12 = .ok (.getfield 37, 3) := by decide +kernel
theorem dX4_counter_15 : decode cX4_counter 15 = .ok (.getfield 155, 3) := by decide +kernel
theorem dX4_counter_18 : decode cX4_counter 18 = .ok (.iload_n 1, 1) := by decide +kernel
theorem dX4_counter_19 : decode cX4_counter 19 = .ok (.iload_n 2, 1) := by decide +kernel
theorem dX4_counter_20 : decode cX4_counter 20 = .ok (.invokestatic 114, 3) := by decide +kernel
theorem dX4_counter_23 : decode cX4_counter 23 = .ok (.iaload, 1) := by decide +kernel
theorem dX4_counter_24 : decode cX4_counter 24 = .ok (.ireturn, 1) := by decide +kernel
set_option maxRecDepth 20000 in
theorem ggX4_tell_X4_requireNode : GoodIn wsX4_tell wsX4_requireNode := goodIn_ca (goodIn_r _ [12, 13, 14] (by decide +kernel) (by decide +kernel)) (goodIn_sub (fun _ h => List.mem_cons_of_mem _ (List.mem_append_right _ h)) (by decide +kernel))
set_option maxRecDepth 20000 in
theorem gX4_tell_X4_requireNode : GoodIn wsX4_tell (va_wsS RX4 61 yX4_requireNode wsX4_requireNode) := goodIn_app (goodIn_of _ (by decide +kernel)) ggX4_tell_X4_requireNode
set_option maxRecDepth 20000 in
theorem ggX4_tell_X1_takeIn : GoodIn wsX4_tell wsX1_takeIn := goodIn_ca (goodIn_r _ [19, 20, 21, 22, 23, 24, 11, 25, 26, 27, 28, 18, 29, 30, 31, 32, 33, 34, 35, 36, 37, 38, 39, 40, 41, 42, 43, 62, 63, 64, 65, 66, 67, 68, 69, 70, 71] (by decide +kernel) (by decide +kernel)) (goodIn_sub (fun _ h => List.mem_cons_of_mem _ (List.mem_append_left _ (List.mem_append_left _ (List.mem_append_left _ (List.mem_append_right _ h))))) (by decide +kernel))
set_option maxRecDepth 20000 in
theorem gX4_tell_X1_takeIn : GoodIn wsX4_tell (wsV RX4 162 RX1 yX1_takeIn wsX1_takeIn) := goodIn_app (goodIn_of _ (by decide +kernel)) ggX4_tell_X1_takeIn
set_option maxRecDepth 20000 in
theorem ggX4_tell_X1_endQuiet : GoodIn wsX4_tell wsX1_endQuiet := goodIn_r _ [42, 37, 43, 62, 63, 64, 65, 66, 67, 68, 69, 70, 71] (by decide +kernel) (by decide +kernel)
set_option maxRecDepth 20000 in
theorem gX4_tell_X1_endQuiet : GoodIn wsX4_tell (wsV RX4 90 RX1 yX1_endQuiet wsX1_endQuiet) := goodIn_app (goodIn_of _ (by decide +kernel)) ggX4_tell_X1_endQuiet
theorem dX4_tell_0 : decode cX4_tell 0 = .ok (.iload_n 1, 1) := by decide +kernel
theorem dX4_tell_1 : decode cX4_tell 1 = .ok (.invokestatic 61, 3) := by decide +kernel
theorem dX4_tell_4 : decode cX4_tell 4 = .ok (.iload_n 2, 1) := by decide +kernel
theorem dX4_tell_5 : decode cX4_tell 5 = .ok (.invokestatic 61, 3) := by decide +kernel
theorem dX4_tell_8 : decode cX4_tell 8 = .ok (.aload_n 0, 1) := by decide +kernel
theorem dX4_tell_9 : decode cX4_tell 9 = .ok (.getfield 10, 3) := by decide +kernel
theorem dX4_tell_12 : decode cX4_tell 12 = .ok (.getfield 65, 3) := by decide +kernel
theorem dX4_tell_15 : decode cX4_tell 15 = .ok (.getfield 69, 3) := by decide +kernel
theorem dX4_tell_18 : decode cX4_tell 18 = .ok (.iload_n 1, 1) := by decide +kernel
theorem dX4_tell_19 : decode cX4_tell 19 = .ok (.baload, 1) := by decide +kernel
theorem dX4_tell_20 : decode cX4_tell 20 = .ok (.ifCond .ne 13, 3) := by decide +kernel
theorem dX4_tell_23 : decode cX4_tell 23 = .ok (.new 75, 3) := by decide +kernel
theorem dX4_tell_26 : decode cX4_tell 26 = .ok (.dup, 1) := by decide +kernel
theorem dX4_tell_27 : decode cX4_tell 27 = .ok (.ldc 97, 2) := by decide +kernel
theorem dX4_tell_29 : decode cX4_tell 29 = .ok (.invokespecial 79, 3) := by decide +kernel
theorem dX4_tell_32 : decode cX4_tell 32 = .ok (.athrow, 1) := by decide +kernel
theorem dX4_tell_33 : decode cX4_tell 33 = .ok (.iload_n 3, 1) := by decide +kernel
theorem dX4_tell_34 : decode cX4_tell 34 = .ok (.iconst 1, 1) := by decide +kernel
theorem dX4_tell_35 : decode cX4_tell 35 = .ok (.if_icmp .lt 8, 3) := by decide +kernel
theorem dX4_tell_38 : decode cX4_tell 38 = .ok (.iload_n 3, 1) := by decide +kernel
theorem dX4_tell_39 : decode cX4_tell 39 = .ok (.iconst 3, 1) := by decide +kernel
theorem dX4_tell_40 : decode cX4_tell 40 = .ok (.if_icmp .le 13, 3) := by decide +kernel
theorem dX4_tell_43 : decode cX4_tell 43 = .ok (.new 30, 3) := by decide +kernel
theorem dX4_tell_46 : decode cX4_tell 46 = .ok (.dup, 1) := by decide +kernel
theorem dX4_tell_47 : decode cX4_tell 47 = .ok (.ldc 158, 2) := by decide +kernel
theorem dX4_tell_49 : decode cX4_tell 49 = .ok (.invokespecial 34, 3) := by decide +kernel
theorem dX4_tell_52 : decode cX4_tell 52 = .ok (.athrow, 1) := by decide +kernel
theorem dX4_tell_53 : decode cX4_tell 53 = .ok (.iload 4, 2) := by decide +kernel
theorem dX4_tell_55 : decode cX4_tell 55 = .ok (.ifCond .lt 11, 3) := by decide +kernel
theorem dX4_tell_58 : decode cX4_tell 58 = .ok (.iload 4, 2) := by decide +kernel
theorem dX4_tell_60 : decode cX4_tell 60 = .ok (.sipush 1000, 3) := by decide +kernel
theorem dX4_tell_63 : decode cX4_tell 63 = .ok (.if_icmp .le 13, 3) := by decide +kernel
theorem dX4_tell_66 : decode cX4_tell 66 = .ok (.new 30, 3) := by decide +kernel
theorem dX4_tell_69 : decode cX4_tell 69 = .ok (.dup, 1) := by decide +kernel
theorem dX4_tell_70 : decode cX4_tell 70 = .ok (.ldc 160, 2) := by decide +kernel
theorem dX4_tell_72 : decode cX4_tell 72 = .ok (.invokespecial 34, 3) := by decide +kernel
theorem dX4_tell_75 : decode cX4_tell 75 = .ok (.athrow, 1) := by decide +kernel
theorem dX4_tell_76 : decode cX4_tell 76 = .ok (.aload_n 0, 1) := by decide +kernel
theorem dX4_tell_77 : decode cX4_tell 77 = .ok (.getfield 10, 3) := by decide +kernel
theorem dX4_tell_80 : decode cX4_tell 80 = .ok (.getfield 37, 3) := by decide +kernel
theorem dX4_tell_83 : decode cX4_tell 83 = .ok (.iload_n 1, 1) := by decide +kernel
theorem dX4_tell_84 : decode cX4_tell 84 = .ok (.iload_n 2, 1) := by decide +kernel
theorem dX4_tell_85 : decode cX4_tell 85 = .ok (.iload_n 3, 1) := by decide +kernel
theorem dX4_tell_86 : decode cX4_tell 86 = .ok (.iload 4, 2) := by decide +kernel
theorem dX4_tell_88 : decode cX4_tell 88 = .ok (.invokevirtual 162, 3) := by decide +kernel
theorem dX4_tell_91 : decode cX4_tell 91 = .ok (.istore 5, 2) := by decide +kernel
theorem dX4_tell_93 : decode cX4_tell 93 = .ok (.aload_n 0, 1) := by decide +kernel
theorem dX4_tell_94 : decode cX4_tell 94 = .ok (.getfield 10, 3) := by decide +kernel
theorem dX4_tell_97 : decode cX4_tell 97 = .ok (.getfield 37, 3) := by decide +kernel
theorem dX4_tell_100 : decode cX4_tell 100 = .ok (.invokevirtual 90, 3) := by decide +kernel
theorem dX4_tell_103 : decode cX4_tell 103 = .ok (.iload 5, 2) := by decide +kernel
theorem dX4_tell_105 : decode cX4_tell 105 = .ok (.ireturn, 1) := by decide +kernel
set_option maxRecDepth 20000 in
theorem ggX4_alive_X4_requireNode : GoodIn wsX4_alive wsX4_requireNode := goodIn_ca (goodIn_r _ [6, 7, 8] (by decide +kernel) (by decide +kernel)) (goodIn_sub (fun _ h => List.mem_cons_of_mem _ (List.mem_append_left _ (List.mem_append_right _ h))) (by decide +kernel))
set_option maxRecDepth 20000 in
theorem gX4_alive_X4_requireNode : GoodIn wsX4_alive (va_wsS RX4 61 yX4_requireNode wsX4_requireNode) := goodIn_app (goodIn_of _ (by decide +kernel)) ggX4_alive_X4_requireNode
set_option maxRecDepth 20000 in
theorem ggX4_alive_X1_nodesInState : GoodIn wsX4_alive wsX1_nodesInState := goodIn_ca (goodIn_r _ [13, 14, 15, 5, 16, 30, 31, 32, 33, 34, 35, 36, 37, 38, 39] (by decide +kernel) (by decide +kernel)) (goodIn_sub (fun _ h => List.mem_cons_of_mem _ (List.mem_append_right _ h)) (by decide +kernel))
set_option maxRecDepth 20000 in
theorem gX4_alive_X1_nodesInState : GoodIn wsX4_alive (wsV RX4 166 RX1 yX1_nodesInState wsX1_nodesInState) := goodIn_app (goodIn_of _ (by decide +kernel)) ggX4_alive_X1_nodesInState
theorem dX4_alive_0 : decode cX4_alive 0 = .ok (.iload_n 1, 1) := by decide +kernel
theorem dX4_alive_1 : decode cX4_alive 1 = .ok (.invokestatic 61, 3) := by decide +kernel
theorem dX4_alive_4 : decode cX4_alive 4 = .ok (.aload_n 0, 1) := by decide +kernel
theorem dX4_alive_5 : decode cX4_alive 5 = .ok (.getfield 10, 3) := by decide +kernel
theorem dX4_alive_8 : decode cX4_alive 8 = .ok (.getfield 37, 3) := by decide +kernel
theorem dX4_alive_11 : decode cX4_alive 11 = .ok (.iload_n 1, 1) := by decide +kernel
theorem dX4_alive_12 : decode cX4_alive 12 = .ok (.iconst 1, 1) := by decide +kernel
theorem dX4_alive_13 : decode cX4_alive 13 = .ok (.invokevirtual 166, 3) := by decide +kernel
theorem dX4_alive_16 : decode cX4_alive 16 = .ok (.ireturn, 1) := by decide +kernel
set_option maxRecDepth 20000 in
theorem ggX4_agree_X3_allAgree : GoodIn wsX4_agree wsX3_allAgree := goodIn_ca (goodIn_r _ [6, 7, 8, 9, 10, 11, 12, 13, 14, 15, 16, 17, 18, 19, 20, 21, 22, 23, 24, 25, 5, 26, 27, 28, 29, 30, 31, 32, 33, 34, 35, 36, 37, 38, 39, 40, 41, 42, 43, 50, 51, 52, 53, 54, 55, 56, 57, 58, 59, 60, 61, 62, 63, 64, 65, 66, 67, 68, 69, 70] (by decide +kernel) (by decide +kernel)) (goodIn_sub (fun _ h => List.mem_cons_of_mem _ (List.mem_append_right _ h)) (by decide +kernel))
set_option maxRecDepth 20000 in
theorem gX4_agree_X3_allAgree : GoodIn wsX4_agree (wsV RX4 132 RX3 yX3_allAgree wsX3_allAgree) := goodIn_app (goodIn_of _ (by decide +kernel)) ggX4_agree_X3_allAgree
theorem dX4_agree_0 : decode cX4_agree 0 = .ok (.aload_n 0, 1) := by decide +kernel
theorem dX4_agree_1 : decode cX4_agree 1 = .ok (.getfield 10, 3) := by decide +kernel
theorem dX4_agree_4 : decode cX4_agree 4 = .ok (.invokevirtual 132, 3) := by decide +kernel
theorem dX4_agree_7 : decode cX4_agree 7 = .ok (.ireturn, 1) := by decide +kernel
set_option maxRecDepth 20000 in
theorem ggX4_disagreements_X3_countDisagreements : GoodIn wsX4_disagreements wsX3_countDisagreements := goodIn_ca (goodIn_r _ [6, 7, 8, 9, 10, 11, 12, 13, 14, 15, 16, 17, 18, 19, 20, 21, 22, 23, 24, 25, 26, 27, 28, 29, 30, 31, 32, 33, 34, 41, 42, 43, 44, 45, 46, 47, 48, 49, 50, 51, 52, 53, 54, 55, 56, 57, 58, 59, 60, 61] (by decide +kernel) (by decide +kernel)) (goodIn_sub (fun _ h => List.mem_cons_of_mem _ (List.mem_append_right _ h)) (by decide +kernel))
set_option maxRecDepth 20000 in
theorem gX4_disagreements_X3_countDisagreements : GoodIn wsX4_disagreements (wsV RX4 169 RX3 yX3_countDisagreements wsX3_countDisagreements) := goodIn_app (goodIn_of _ (by decide +kernel)) ggX4_disagreements_X3_countDisagreements
theorem dX4_disagreements_0 : decode cX4_disagreements 0 = .ok (.aload_n 0, 1) := by decide +kernel
theorem dX4_disagreements_1 : decode cX4_disagreements 1 = .ok (.getfield 10, 3) := by decide +kernel
theorem dX4_disagreements_4 : decode cX4_disagreements 4 = .ok (.invokevirtual 169, 3) := by decide +kernel
theorem dX4_disagreements_7 : decode cX4_disagreements 7 = .ok (.ireturn, 1) := by decide +kernel
theorem dX4_declarations_0 : decode cX4_declarations 0 = .ok (.aload_n 0, 1) := by decide +kernel
theorem dX4_declarations_1 : decode cX4_declarations 1 = .ok (.getfield 10, 3) := by decide +kernel
theorem dX4_declarations_4 : decode cX4_declarations 4 = .ok (.getfield 172, 3) := by decide +kernel
theorem dX4_declarations_7 : decode cX4_declarations 7 = .ok (.ireturn, 1) := by decide +kernel
theorem dX4_falseDeclarations_0 : decode cX4_falseDeclarations 0 = .ok (.aload_n 0, 1) := by decide +kernel
theorem dX4_falseDeclarations_1 : decode cX4_falseDeclarations 1 = .ok (.getfield 10, 3) := by decide +kernel
theorem dX4_falseDeclarations_4 : decode cX4_falseDeclarations 4 = .ok (.getfield 175, 3) := by decide +kernel
theorem dX4_falseDeclarations_7 : decode cX4_falseDeclarations 7 = .ok (.ireturn, 1) := by decide +kernel
theorem dX4_refutations_0 : decode cX4_refutations 0 = .ok (.aload_n 0, 1) := by decide +kernel
theorem dX4_refutations_1 : decode cX4_refutations 1 = .ok (.getfield 10, 3) := by decide +kernel
theorem dX4_refutations_4 : decode cX4_refutations 4 = .ok (.getfield 37, 3) := by decide +kernel
theorem dX4_refutations_7 : decode cX4_refutations 7 = .ok (.getfield 178, 3) := by decide +kernel
theorem dX4_refutations_10 : decode cX4_refutations 10 = .ok (.ireturn, 1) := by decide +kernel
theorem dX4_messages_0 : decode cX4_messages 0 = .ok (.aload_n 0, 1) := by decide +kernel
theorem dX4_messages_1 : decode cX4_messages 1 = .ok (.getfield 10, 3) := by decide +kernel
theorem dX4_messages_4 : decode cX4_messages 4 = .ok (.getfield 181, 3) := by decide +kernel
theorem dX4_messages_7 : decode cX4_messages 7 = .ok (.ireturn, 1) := by decide +kernel
theorem dX4_quietRounds_0 : decode cX4_quietRounds 0 = .ok (.aload_n 0, 1) := by decide +kernel
theorem dX4_quietRounds_1 : decode cX4_quietRounds 1 = .ok (.getfield 10, 3) := by decide +kernel
theorem dX4_quietRounds_4 : decode cX4_quietRounds 4 = .ok (.getfield 37, 3) := by decide +kernel
theorem dX4_quietRounds_7 : decode cX4_quietRounds 7 = .ok (.getfield 127, 3) := by decide +kernel
theorem dX4_quietRounds_10 : decode cX4_quietRounds 10 = .ok (.aload_n 0, 1) := by decide +kernel
theorem dX4_quietRounds_11 : decode cX4_quietRounds 11 = .ok (.getfield 10, 3) := by decide +kernel
theorem dX4_quietRounds_14 : decode cX4_quietRounds 14 = .ok (.getfield 37, 3) := by decide +kernel
theorem dX4_quietRounds_17 : decode cX4_quietRounds 17 = .ok (.getfield 184, 3) := by decide +kernel
theorem dX4_quietRounds_20 : decode cX4_quietRounds 20 = .ok (.isub, 1) := by decide +kernel
theorem dX4_quietRounds_21 : decode cX4_quietRounds 21 = .ok (.ireturn, 1) := by decide +kernel
theorem dX4_appendCharacter_0 : decode cX4_appendCharacter 0 = .ok (.iload_n 1, 1) := by decide +kernel
theorem dX4_appendCharacter_1 : decode cX4_appendCharacter 1 = .ok (.bipush 33, 2) := by decide +kernel
theorem dX4_appendCharacter_3 : decode cX4_appendCharacter 3 = .ok (.if_icmp .lt 9, 3) := by decide +kernel
theorem dX4_appendCharacter_6 : decode cX4_appendCharacter 6 = .ok (.iload_n 1, 1) := by decide +kernel
theorem dX4_appendCharacter_7 : decode cX4_appendCharacter 7 = .ok (.bipush 126, 2) := by decide +kernel
theorem dX4_appendCharacter_9 : decode cX4_appendCharacter 9 = .ok (.if_icmp .le 13, 3) := by decide +kernel
theorem dX4_appendCharacter_12 : decode cX4_appendCharacter 12 = .ok (.new 30, 3) := by decide +kernel
theorem dX4_appendCharacter_15 : decode cX4_appendCharacter 15 = .ok (.dup, 1) := by decide +kernel
theorem dX4_appendCharacter_16 : decode cX4_appendCharacter 16 = .ok (.ldc 187, 2) := by decide +kernel
theorem dX4_appendCharacter_18 : decode cX4_appendCharacter 18 = .ok (.invokespecial 34, 3) := by decide +kernel
theorem dX4_appendCharacter_21 : decode cX4_appendCharacter 21 = .ok (.athrow, 1) := by decide +kernel
theorem dX4_appendCharacter_22 : decode cX4_appendCharacter 22 = .ok (.aload_n 0, 1) := by decide +kernel
theorem dX4_appendCharacter_23 : decode cX4_appendCharacter 23 = .ok (.getfield 22, 3) := by decide +kernel
theorem dX4_appendCharacter_26 : decode cX4_appendCharacter 26 = .ok (.getfield 189, 3) := by decide +kernel
theorem dX4_appendCharacter_29 : decode cX4_appendCharacter 29 = .ok (.bipush 40, 2) := by decide +kernel
theorem dX4_appendCharacter_31 : decode cX4_appendCharacter 31 = .ok (.if_icmp .lt 13, 3) := by decide +kernel
theorem dX4_appendCharacter_34 : decode cX4_appendCharacter 34 = .ok (.new 75, 3) := by decide +kernel
theorem dX4_appendCharacter_37 : decode cX4_appendCharacter 37 = .ok (.dup, 1) := by decide +kernel
theorem dX4_appendCharacter_38 : decode cX4_appendCharacter 38 = .ok (.ldc 192, 2) := by decide +kernel
theorem dX4_appendCharacter_40 : decode cX4_appendCharacter 40 = .ok (.invokespecial 79, 3) := by decide +kernel
theorem dX4_appendCharacter_43 : decode cX4_appendCharacter 43 = .ok (.athrow, 1) := by decide +kernel
theorem dX4_appendCharacter_44 : decode cX4_appendCharacter 44 = .ok (.aload_n 0, 1) := by decide +kernel
theorem dX4_appendCharacter_45 : decode cX4_appendCharacter 45 = .ok (.getfield 22, 3) := by decide +kernel
theorem dX4_appendCharacter_48 : decode cX4_appendCharacter 48 = .ok (.getfield 194, 3) := by decide +kernel
theorem dX4_appendCharacter_51 : decode cX4_appendCharacter 51 = .ok (.aload_n 0, 1) := by decide +kernel
theorem dX4_appendCharacter_52 : decode cX4_appendCharacter 52 = .ok (.getfield 22, 3) := by decide +kernel
theorem dX4_appendCharacter_55 : decode cX4_appendCharacter 55 = .ok (.getfield 189, 3) := by decide +kernel
theorem dX4_appendCharacter_58 : decode cX4_appendCharacter 58 = .ok (.iload_n 1, 1) := by decide +kernel
theorem dX4_appendCharacter_59 : decode cX4_appendCharacter 59 = .ok (.i2c, 1) := by decide +kernel
theorem dX4_appendCharacter_60 : decode cX4_appendCharacter 60 = .ok (.castore, 1) := by decide +kernel
theorem dX4_appendCharacter_61 : decode cX4_appendCharacter 61 = .ok (.aload_n 0, 1) := by decide +kernel
theorem dX4_appendCharacter_62 : decode cX4_appendCharacter 62 = .ok (.getfield 22, 3) := by decide +kernel
theorem dX4_appendCharacter_65 : decode cX4_appendCharacter 65 = .ok (.dup, 1) := by decide +kernel
theorem dX4_appendCharacter_66 : decode cX4_appendCharacter 66 = .ok (.getfield 189, 3) := by decide +kernel
theorem dX4_appendCharacter_69 : decode cX4_appendCharacter 69 = .ok (.iconst 1, 1) := by decide +kernel
theorem dX4_appendCharacter_70 : decode cX4_appendCharacter 70 = .ok (.iadd, 1) := by decide +kernel
theorem dX4_appendCharacter_71 : decode cX4_appendCharacter 71 = .ok (.putfield 189, 3) := by decide +kernel
theorem dX4_appendCharacter_74 : decode cX4_appendCharacter 74 = .ok (.aload_n 0, 1) := by decide +kernel
theorem dX4_appendCharacter_75 : decode cX4_appendCharacter 75 = .ok (.getfield 22, 3) := by decide +kernel
theorem dX4_appendCharacter_78 : decode cX4_appendCharacter 78 = .ok (.getfield 189, 3) := by decide +kernel
theorem dX4_appendCharacter_81 : decode cX4_appendCharacter 81 = .ok (.ireturn, 1) := by decide +kernel
set_option maxRecDepth 20000 in
theorem ggX4_runText_X0_findFault : GoodIn wsX4_runText wsX0_findFault := goodIn_ca (goodIn_r _ [13, 14, 15, 16, 17, 12, 18, 19, 20, 21, 22, 23, 24, 25, 26, 27, 28, 29, 30, 31, 32, 33, 197, 198] (by decide +kernel) (by decide +kernel)) (goodIn_sub (fun _ h => List.mem_cons_of_mem _ (List.mem_append_left _ (List.mem_append_left _ (List.mem_append_right _ h)))) (by decide +kernel))
set_option maxRecDepth 20000 in
theorem gX4_runText_X0_findFault : GoodIn wsX4_runText (wsV RX4 198 RX0 yX0_findFault wsX0_findFault) := goodIn_app (goodIn_of _ (by decide +kernel)) ggX4_runText_X0_findFault
set_option maxRecDepth 20000 in
theorem ggX4_runText_X4_carryOut : GoodIn wsX4_runText wsX4_carryOut := goodIn_ca (goodIn_ca (goodIn_ca (goodIn_ca (goodIn_ca (goodIn_r _ [38, 3, 1, 5, 39, 40, 41, 42, 12, 43, 19, 20, 21, 22, 14, 23, 44, 45, 46, 47, 37, 48, 4, 49, 50, 51, 52, 53, 54, 55, 56, 57, 58, 59, 60, 61, 62, 63, 64, 65, 66, 67, 68, 69, 70, 71, 72, 73, 2, 74, 75, 76, 77, 78, 79, 80, 81, 82, 83, 84, 85, 86, 87, 88, 89, 90, 91, 92, 93, 94, 95, 96, 97, 98, 99, 100, 101, 102, 103, 104, 105, 106, 107, 108, 109, 110, 111, 112, 113, 114, 115, 116, 117, 118, 119, 120, 121, 122, 123, 124, 125, 126, 127, 128, 129, 130, 131, 132, 133, 134, 135, 136, 137, 138, 139, 140, 141, 142, 143, 144, 145, 146, 147, 148, 149, 150, 151, 152, 153, 154, 155, 156, 157, 158, 159, 160, 161, 162, 163, 164, 165, 166, 167, 168, 169, 170, 171, 172, 173, 174, 175, 176, 177, 178, 179, 180, 181, 182, 183, 184, 185, 186, 187, 188, 189, 191, 192, 193, 194, 195, 196, 197, 198, 199, 200, 201, 202, 203, 204, 205, 206, 207, 208, 209, 210, 211, 212, 213, 214, 215, 216, 217, 218, 219] (by decide +kernel) (by decide +kernel)) (goodIn_sub (fun _ h => List.mem_cons_of_mem _ (List.mem_append_left _ (List.mem_append_left _ (List.mem_append_right _ h)))) (by decide +kernel))) (goodIn_sub (fun _ h => List.mem_cons_of_mem _ (List.mem_append_left _ (List.mem_append_left _ (List.mem_append_left _ (List.mem_append_right _ h))))) (by decide +kernel))) (goodIn_sub (fun _ h => List.mem_cons_of_mem _ (List.mem_append_left _ (List.mem_append_right _ h))) (by decide +kernel))) (goodIn_sub (fun _ h => List.mem_cons_of_mem _ (List.mem_append_left _ (List.mem_append_left _ (List.mem_append_left _ (List.mem_append_left _ (List.mem_append_right _ h)))))) (by decide +kernel))) (goodIn_sub (fun _ h => List.mem_cons_of_mem _ (List.mem_append_right _ h)) (by decide +kernel))
set_option maxRecDepth 20000 in
theorem gX4_runText_X4_carryOut : GoodIn wsX4_runText (wsV RX4 201 RX4 yX4_carryOut wsX4_carryOut) := goodIn_app (goodIn_of _ (by decide +kernel)) ggX4_runText_X4_carryOut
set_option maxRecDepth 20000 in
theorem ggX4_runText_X0_lengthOfCommand : GoodIn wsX4_runText wsX0_lengthOfCommand := goodIn_ca (goodIn_r _ [33, 19, 20, 21, 12, 22, 14, 23, 24, 25, 26, 197, 198] (by decide +kernel) (by decide +kernel)) (goodIn_sub (fun _ h => List.mem_cons_of_mem _ (List.mem_append_left _ (List.mem_append_left _ (List.mem_append_right _ h)))) (by decide +kernel))
set_option maxRecDepth 20000 in
theorem gX4_runText_X0_lengthOfCommand : GoodIn wsX4_runText (wsV RX4 205 RX0 yX0_lengthOfCommand wsX0_lengthOfCommand) := goodIn_app (goodIn_of _ (by decide +kernel)) ggX4_runText_X0_lengthOfCommand
theorem dX4_runText_0 : decode cX4_runText 0 = .ok (.aload_n 0, 1) := by decide +kernel
theorem dX4_runText_1 : decode cX4_runText 1 = .ok (.getfield 22, 3) := by decide +kernel
theorem dX4_runText_4 : decode cX4_runText 4 = .ok (.invokevirtual 198, 3) := by decide +kernel
theorem dX4_runText_7 : decode cX4_runText 7 = .ok (.istore_n 1, 1) := by decide +kernel
theorem dX4_runText_8 : decode cX4_runText 8 = .ok (.iload_n 1, 1) := by decide +kernel
theorem dX4_runText_9 : decode cX4_runText 9 = .ok (.iconst (-1), 1) := by decide +kernel
theorem dX4_runText_10 : decode cX4_runText 10 = .ok (.if_icmp .ne 7, 3) := by decide +kernel
theorem dX4_runText_13 : decode cX4_runText 13 = .ok (.iconst 0, 1) := by decide +kernel
theorem dX4_runText_14 : decode cX4_runText 14 = .ok (.goto 4, 3) := by decide +kernel
theorem dX4_runText_17 : decode cX4_runText 17 = .ok (.iconst 1, 1) := by decide +kernel
theorem dX4_runText_18 : decode cX4_runText 18 = .ok (.istore_n 2, 1) := by decide +kernel
theorem dX4_runText_19 : decode cX4_runText 19 = .ok (.iconst 0, 1) := by decide +kernel
theorem dX4_runText_20 : decode cX4_runText 20 = .ok (.istore_n 3, 1) := by decide +kernel
theorem dX4_runText_21 : decode cX4_runText 21 = .ok (.iconst 0, 1) := by decide +kernel
theorem dX4_runText_22 : decode cX4_runText 22 = .ok (.istore 4, 2) := by decide +kernel
theorem dX4_runText_24 : decode cX4_runText 24 = .ok (.iload_n 2, 1) := by decide +kernel
theorem dX4_runText_25 : decode cX4_runText 25 = .ok (.ifCond .ne 48, 3) := by decide +kernel
theorem dX4_runText_28 : decode cX4_runText 28 = .ok (.iload 4, 2) := by decide +kernel
theorem dX4_runText_30 : decode cX4_runText 30 = .ok (.aload_n 0, 1) := by decide +kernel
theorem dX4_runText_31 : decode cX4_runText 31 = .ok (.getfield 22, 3) := by decide +kernel
theorem dX4_runText_34 : decode cX4_runText 34 = .ok (.getfield 189, 3) := by decide +kernel
theorem dX4_runText_37 : decode cX4_runText 37 = .ok (.if_icmp .ge 36, 3) := by decide +kernel
theorem dX4_runText_40 : decode cX4_runText 40 = .ok (.aload_n 0, 1) := by decide +kernel
theorem dX4_runText_41 : decode cX4_runText 41 = .ok (.iload 4, 2) := by decide +kernel
theorem dX4_runText_43 : decode cX4_runText 43 = .ok (.invokevirtual 201, 3) := by decide +kernel
theorem dX4_runText_46 : decode cX4_runText 46 = .ok (.istore_n 2, 1) := by decide +kernel
theorem dX4_runText_47 : decode cX4_runText 47 = .ok (.iload_n 2, 1) := by decide +kernel
theorem dX4_runText_48 : decode cX4_runText 48 = .ok (.ifCond .ne 6, 3) := by decide +kernel
theorem dX4_runText_51 : decode cX4_runText 51 = .ok (.iinc 3 1, 3) := by decide +kernel
theorem dX4_runText_54 : decode cX4_runText 54 = .ok (.iload 4, 2) := by decide +kernel
theorem dX4_runText_56 : decode cX4_runText 56 = .ok (.aload_n 0, 1) := by decide +kernel
theorem dX4_runText_57 : decode cX4_runText 57 = .ok (.getfield 22, 3) := by decide +kernel
theorem dX4_runText_60 : decode cX4_runText 60 = .ok (.iload 4, 2) := by decide +kernel
theorem dX4_runText_62 : decode cX4_runText 62 = .ok (.invokevirtual 205, 3) := by decide +kernel
theorem dX4_runText_65 : decode cX4_runText 65 = .ok (.iconst 1, 1) := by decide +kernel
theorem dX4_runText_66 : decode cX4_runText 66 = .ok (.iadd, 1) := by decide +kernel
theorem dX4_runText_67 : decode cX4_runText 67 = .ok (.iadd, 1) := by decide +kernel
theorem dX4_runText_68 : decode cX4_runText 68 = .ok (.istore 4, 2) := by decide +kernel
theorem dX4_runText_70 : decode cX4_runText 70 = .ok (.goto (-46), 3) := by decide +kernel
theorem dX4_runText_73 : decode cX4_runText 73 = .ok (.aload_n 0, 1) := by decide +kernel
theorem dX4_runText_74 : decode cX4_runText 74 = .ok (.getfield 22, 3) := by decide +kernel
theorem dX4_runText_77 : decode cX4_runText 77 = .ok (.iconst 0, 1) := by decide +kernel
theorem dX4_runText_78 : decode cX4_runText 78 = .ok (.putfield 189, 3) := by decide +kernel
theorem dX4_runText_81 : decode cX4_runText 81 = .ok (.aload_n 0, 1) := by decide +kernel
theorem dX4_runText_82 : decode cX4_runText 82 = .ok (.iload_n 2, 1) := by decide +kernel
theorem dX4_runText_83 : decode cX4_runText 83 = .ok (.putfield 26, 3) := by decide +kernel
theorem dX4_runText_86 : decode cX4_runText 86 = .ok (.aload_n 0, 1) := by decide +kernel
theorem dX4_runText_87 : decode cX4_runText 87 = .ok (.iload_n 2, 1) := by decide +kernel
theorem dX4_runText_88 : decode cX4_runText 88 = .ok (.iconst 1, 1) := by decide +kernel
theorem dX4_runText_89 : decode cX4_runText 89 = .ok (.if_icmp .ne 7, 3) := by decide +kernel
theorem dX4_runText_92 : decode cX4_runText 92 = .ok (.iload_n 1, 1) := by decide +kernel
theorem dX4_runText_93 : decode cX4_runText 93 = .ok (.goto 4, 3) := by decide +kernel
theorem dX4_runText_96 : decode cX4_runText 96 = .ok (.iload_n 3, 1) := by decide +kernel
theorem dX4_runText_97 : decode cX4_runText 97 = .ok (.putfield 208, 3) := by decide +kernel
theorem dX4_runText_100 : decode cX4_runText 100 = .ok (.iload_n 2, 1) := by decide +kernel
theorem dX4_runText_101 : decode cX4_runText 101 = .ok (.iconst 1, 1) := by decide +kernel
theorem dX4_runText_102 : decode cX4_runText 102 = .ok (.if_icmp .ne 13, 3) := by decide +kernel
theorem dX4_runText_105 : decode cX4_runText 105 = .ok (.new 30, 3) := by decide +kernel
theorem dX4_runText_108 : decode cX4_runText 108 = .ok (.dup, 1) := by decide +kernel
theorem dX4_runText_109 : decode cX4_runText 109 = .ok (.ldc 211, 2) := by decide +kernel
theorem dX4_runText_111 : decode cX4_runText 111 = .ok (.invokespecial 34, 3) := by decide +kernel
theorem dX4_runText_114 : decode cX4_runText 114 = .ok (.athrow, 1) := by decide +kernel
theorem dX4_runText_115 : decode cX4_runText 115 = .ok (.iload_n 2, 1) := by decide +kernel
theorem dX4_runText_116 : decode cX4_runText 116 = .ok (.ifCond .eq 13, 3) := by decide +kernel
theorem dX4_runText_119 : decode cX4_runText 119 = .ok (.new 75, 3) := by decide +kernel
theorem dX4_runText_122 : decode cX4_runText 122 = .ok (.dup, 1) := by decide +kernel
theorem dX4_runText_123 : decode cX4_runText 123 = .ok (.ldc 213, 2) := by decide +kernel
theorem dX4_runText_125 : decode cX4_runText 125 = .ok (.invokespecial 79, 3) := by decide +kernel
theorem dX4_runText_128 : decode cX4_runText 128 = .ok (.athrow, 1) := by decide +kernel
theorem dX4_runText_129 : decode cX4_runText 129 = .ok (.iload_n 3, 1) := by decide +kernel
theorem dX4_runText_130 : decode cX4_runText 130 = .ok (.ireturn, 1) := by decide +kernel
theorem dX4_failure_0 : decode cX4_failure 0 = .ok (.iload_n 1, 1) := by decide +kernel
theorem dX4_failure_1 : decode cX4_failure 1 = .ok (.ifCond .lt 8, 3) := by decide +kernel
theorem dX4_failure_4 : decode cX4_failure 4 = .ok (.iload_n 1, 1) := by decide +kernel
theorem dX4_failure_5 : decode cX4_failure 5 = .ok (.iconst 1, 1) := by decide +kernel
theorem dX4_failure_6 : decode cX4_failure 6 = .ok (.if_icmp .le 13, 3) := by decide +kernel
theorem dX4_failure_9 : decode cX4_failure 9 = .ok (.new 30, 3) := by decide +kernel
theorem dX4_failure_12 : decode cX4_failure 12 = .ok (.dup, 1) := by decide +kernel
theorem dX4_failure_13 : decode cX4_failure 13 = .ok (.ldc 215, 2) := by decide +kernel
theorem dX4_failure_15 : decode cX4_failure 15 = .ok (.invokespecial 34, 3) := by decide +kernel
theorem dX4_failure_18 : decode cX4_failure 18 = .ok (.athrow, 1) := by decide +kernel
theorem dX4_failure_19 : decode cX4_failure 19 = .ok (.aload_n 0, 1) := by decide +kernel
theorem dX4_failure_20 : decode cX4_failure 20 = .ok (.getfield 26, 3) := by decide +kernel
theorem dX4_failure_23 : decode cX4_failure 23 = .ok (.ifCond .ne 13, 3) := by decide +kernel
theorem dX4_failure_26 : decode cX4_failure 26 = .ok (.new 136, 3) := by decide +kernel
theorem dX4_failure_29 : decode cX4_failure 29 = .ok (.dup, 1) := by decide +kernel
theorem dX4_failure_30 : decode cX4_failure 30 = .ok (.ldc 217, 2) := by decide +kernel
theorem dX4_failure_32 : decode cX4_failure 32 = .ok (.invokespecial 140, 3) := by decide +kernel
theorem dX4_failure_35 : decode cX4_failure 35 = .ok (.athrow, 1) := by decide +kernel
theorem dX4_failure_36 : decode cX4_failure 36 = .ok (.iload_n 1, 1) := by decide +kernel
theorem dX4_failure_37 : decode cX4_failure 37 = .ok (.ifCond .ne 10, 3) := by decide +kernel
theorem dX4_failure_40 : decode cX4_failure 40 = .ok (.aload_n 0, 1) := by decide +kernel
theorem dX4_failure_41 : decode cX4_failure 41 = .ok (.getfield 26, 3) := by decide +kernel
theorem dX4_failure_44 : decode cX4_failure 44 = .ok (.goto 7, 3) := by decide +kernel
theorem dX4_failure_47 : decode cX4_failure 47 = .ok (.aload_n 0, 1) := by decide +kernel
theorem dX4_failure_48 : decode cX4_failure 48 = .ok (.getfield 208, 3) := by decide +kernel
theorem dX4_failure_51 : decode cX4_failure 51 = .ok (.ireturn, 1) := by decide +kernel
set_option maxRecDepth 20000 in
theorem ggX4_averageCounter_X4_requireNode : GoodIn wsX4_averageCounter wsX4_requireNode := goodIn_ca (goodIn_r _ [7, 8, 9] (by decide +kernel) (by decide +kernel)) (goodIn_sub (fun _ h => List.mem_cons_of_mem _ (List.mem_append_left _ (List.mem_append_right _ h))) (by decide +kernel))
set_option maxRecDepth 20000 in
theorem gX4_averageCounter_X4_requireNode : GoodIn wsX4_averageCounter (va_wsS RX4 61 yX4_requireNode wsX4_requireNode) := goodIn_app (goodIn_of _ (by decide +kernel)) ggX4_averageCounter_X4_requireNode
set_option maxRecDepth 20000 in
theorem ggX4_averageCounter_X1_sumOfCounters : GoodIn wsX4_averageCounter wsX1_sumOfCounters := goodIn_ca (goodIn_r _ [14, 15, 16, 6, 17, 31, 32, 33, 34, 35, 36, 37, 38, 39, 40] (by decide +kernel) (by decide +kernel)) (goodIn_sub (fun _ h => List.mem_cons_of_mem _ (List.mem_append_right _ h)) (by decide +kernel))
set_option maxRecDepth 20000 in
theorem gX4_averageCounter_X1_sumOfCounters : GoodIn wsX4_averageCounter (wsV RX4 219 RX1 yX1_sumOfCounters wsX1_sumOfCounters) := goodIn_app (goodIn_of _ (by decide +kernel)) ggX4_averageCounter_X1_sumOfCounters
theorem dX4_averageCounter_0 : decode cX4_averageCounter 0 = .ok (.iload_n 1, 1) := by decide +kernel
theorem dX4_averageCounter_1 : decode cX4_averageCounter 1 = .ok (.invokestatic 61, 3) := by decide +kernel
theorem dX4_averageCounter_4 : decode cX4_averageCounter 4 = .ok (.aload_n 0, 1) := by decide +kernel
theorem dX4_averageCounter_5 : decode cX4_averageCounter 5 = .ok (.getfield 10, 3) := by decide +kernel
theorem dX4_averageCounter_8 : decode cX4_averageCounter 8 = .ok (.getfield 37, 3) := by decide +kernel
theorem dX4_averageCounter_11 : decode cX4_averageCounter 11 = .ok (.iload_n 1, 1) := by decide +kernel
theorem dX4_averageCounter_12 : decode cX4_averageCounter 12 = .ok (.invokevirtual 219, 3) := by decide +kernel
theorem dX4_averageCounter_15 : decode cX4_averageCounter 15 = .ok (.i2d, 1) := by decide +kernel
theorem dX4_averageCounter_16 : decode cX4_averageCounter 16 = .ok (.ldc2_w 222, 3) := by decide +kernel
theorem dX4_averageCounter_19 : decode cX4_averageCounter 19 = .ok (.ddiv, 1) := by decide +kernel
theorem dX4_averageCounter_20 : decode cX4_averageCounter 20 = .ok (.dreturn, 1) := by decide +kernel
theorem dX4_falseShare_0 : decode cX4_falseShare 0 = .ok (.aload_n 0, 1) := by decide +kernel
theorem dX4_falseShare_1 : decode cX4_falseShare 1 = .ok (.getfield 10, 3) := by decide +kernel
theorem dX4_falseShare_4 : decode cX4_falseShare 4 = .ok (.getfield 172, 3) := by decide +kernel
theorem dX4_falseShare_7 : decode cX4_falseShare 7 = .ok (.ifCond .ne 13, 3) := by decide +kernel
theorem dX4_falseShare_10 : decode cX4_falseShare 10 = .ok (.new 224, 3) := by decide +kernel
theorem dX4_falseShare_13 : decode cX4_falseShare 13 = .ok (.dup, 1) := by decide +kernel
theorem dX4_falseShare_14 : decode cX4_falseShare 14 = .ok (.ldc 226, 2) := by decide +kernel
theorem dX4_falseShare_16 : decode cX4_falseShare 16 = .ok (.invokespecial 228, 3) := by decide +kernel
theorem dX4_falseShare_19 : decode cX4_falseShare 19 = .ok (.athrow, 1) := by decide +kernel
theorem dX4_falseShare_20 : decode cX4_falseShare 20 = .ok (.aload_n 0, 1) := by decide +kernel
theorem dX4_falseShare_21 : decode cX4_falseShare 21 = .ok (.getfield 10, 3) := by decide +kernel
theorem dX4_falseShare_24 : decode cX4_falseShare 24 = .ok (.getfield 175, 3) := by decide +kernel
theorem dX4_falseShare_27 : decode cX4_falseShare 27 = .ok (.i2f, 1) := by decide +kernel
theorem dX4_falseShare_28 : decode cX4_falseShare 28 = .ok (.aload_n 0, 1) := by decide +kernel
theorem dX4_falseShare_29 : decode cX4_falseShare 29 = .ok (.getfield 10, 3) := by decide +kernel
theorem dX4_falseShare_32 : decode cX4_falseShare 32 = .ok (.getfield 172, 3) := by decide +kernel
theorem dX4_falseShare_35 : decode cX4_falseShare 35 = .ok (.i2f, 1) := by decide +kernel
theorem dX4_falseShare_36 : decode cX4_falseShare 36 = .ok (.fdiv, 1) := by decide +kernel
theorem dX4_falseShare_37 : decode cX4_falseShare 37 = .ok (.freturn, 1) := by decide +kernel
set_option maxRecDepth 20000 in
theorem ggX4_save_X3_copyFrom : GoodIn wsX4_save wsX3_copyFrom := goodIn_ca (goodIn_r _ [8, 9, 10, 11, 12, 13, 14, 15, 16, 17, 18, 19, 20, 21, 22, 23, 24, 25, 26, 27, 28, 29, 30, 31, 32, 33, 34, 35, 36, 37, 38, 39, 40, 41, 42, 43, 50, 51, 52, 53, 54, 55, 56, 57, 58, 59, 60, 61, 62, 63, 64, 65, 66, 67, 68, 69, 70] (by decide +kernel) (by decide +kernel)) (goodIn_sub (fun _ h => List.mem_cons_of_mem _ (List.mem_append_right _ h)) (by decide +kernel))
set_option maxRecDepth 20000 in
theorem gX4_save_X3_copyFrom : GoodIn wsX4_save (wsV RX4 229 RX3 yX3_copyFrom wsX3_copyFrom) := goodIn_app (goodIn_of _ (by decide +kernel)) ggX4_save_X3_copyFrom
theorem dX4_save_0 : decode cX4_save 0 = .ok (.aload_n 0, 1) := by decide +kernel
theorem dX4_save_1 : decode cX4_save 1 = .ok (.getfield 16, 3) := by decide +kernel
theorem dX4_save_4 : decode cX4_save 4 = .ok (.aload_n 0, 1) := by decide +kernel
theorem dX4_save_5 : decode cX4_save 5 = .ok (.getfield 10, 3) := by decide +kernel
theorem dX4_save_8 : decode cX4_save 8 = .ok (.invokevirtual 229, 3) := by decide +kernel
theorem dX4_save_11 : decode cX4_save 11 = .ok (.aload_n 0, 1) := by decide +kernel
theorem dX4_save_12 : decode cX4_save 12 = .ok (.iconst 1, 1) := by decide +kernel
theorem dX4_save_13 : decode cX4_save 13 = .ok (.putfield 233, 3) := by decide +kernel
theorem dX4_save_16 : decode cX4_save 16 = .ok (.return_, 1) := by decide +kernel
set_option maxRecDepth 20000 in
theorem ggX4_restore_X3_copyFrom : GoodIn wsX4_restore wsX3_copyFrom := goodIn_ca (goodIn_r _ [10, 11, 12, 13, 14, 15, 16, 17, 18, 19, 20, 21, 22, 23, 24, 25, 26, 27, 28, 29, 30, 31, 32, 33, 34, 35, 36, 37, 38, 39, 40, 41, 42, 43, 44, 45, 52, 53, 54, 55, 56, 57, 58, 59, 60, 61, 62, 63, 64, 65, 66, 67, 68, 69, 70, 71, 72] (by decide +kernel) (by decide +kernel)) (goodIn_sub (fun _ h => List.mem_cons_of_mem _ (List.mem_append_right _ h)) (by decide +kernel))
set_option maxRecDepth 20000 in
theorem gX4_restore_X3_copyFrom : GoodIn wsX4_restore (wsV RX4 229 RX3 yX3_copyFrom wsX3_copyFrom) := goodIn_app (goodIn_of _ (by decide +kernel)) ggX4_restore_X3_copyFrom
theorem dX4_restore_0 : decode cX4_restore 0 = .ok (.aload_n 0, 1) := by decide +kernel
theorem dX4_restore_1 : decode cX4_restore 1 = .ok (.getfield 233, 3) := by decide +kernel
theorem dX4_restore_4 : decode cX4_restore 4 = .ok (.ifCond .ne 13, 3) := by decide +kernel
theorem dX4_restore_7 : decode cX4_restore 7 = .ok (.new 75, 3) := by decide +kernel
theorem dX4_restore_10 : decode cX4_restore 10 = .ok (.dup, 1) := by decide +kernel
theorem dX4_restore_11 : decode cX4_restore 11 = .ok (.ldc 237, 2) := by decide +kernel
theorem dX4_restore_13 : decode cX4_restore 13 = .ok (.invokespecial 79, 3) := by decide +kernel
theorem dX4_restore_16 : decode cX4_restore 16 = .ok (.athrow, 1) := by decide +kernel
theorem dX4_restore_17 : decode cX4_restore 17 = .ok (.aload_n 0, 1) := by decide +kernel
theorem dX4_restore_18 : decode cX4_restore 18 = .ok (.getfield 10, 3) := by decide +kernel
theorem dX4_restore_21 : decode cX4_restore 21 = .ok (.aload_n 0, 1) := by decide +kernel
theorem dX4_restore_22 : decode cX4_restore 22 = .ok (.getfield 16, 3) := by decide +kernel
theorem dX4_restore_25 : decode cX4_restore 25 = .ok (.invokevirtual 229, 3) := by decide +kernel
theorem dX4_restore_28 : decode cX4_restore 28 = .ok (.return_, 1) := by decide +kernel
theorem dX4_requireNode_0 : decode cX4_requireNode 0 = .ok (.iload_n 0, 1) := by decide +kernel
theorem dX4_requireNode_1 : decode cX4_requireNode 1 = .ok (.ifCond .lt 9, 3) := by decide +kernel
theorem dX4_requireNode_4 : decode cX4_requireNode 4 = .ok (.iload_n 0, 1) := by decide +kernel
theorem dX4_requireNode_5 : decode cX4_requireNode 5 = .ok (.bipush 8, 2) := by decide +kernel
theorem dX4_requireNode_7 : decode cX4_requireNode 7 = .ok (.if_icmp .lt 13, 3) := by decide +kernel
theorem dX4_requireNode_10 : decode cX4_requireNode 10 = .ok (.new 239, 3) := by decide +kernel
theorem dX4_requireNode_13 : decode cX4_requireNode 13 = .ok (.dup, 1) := by decide +kernel
theorem dX4_requireNode_14 : decode cX4_requireNode 14 = .ok (.ldc 241, 2) := by decide +kernel
theorem dX4_requireNode_16 : decode cX4_requireNode 16 = .ok (.invokespecial 243, 3) := by decide +kernel
theorem dX4_requireNode_19 : decode cX4_requireNode 19 = .ok (.athrow, 1) := by decide +kernel
theorem dX4_requireNode_20 : decode cX4_requireNode 20 = .ok (.return_, 1) := by decide +kernel
set_option maxRecDepth 20000 in
theorem ggX4_requireTwoNodes_X4_requireNode : GoodIn wsX4_requireTwoNodes wsX4_requireNode := goodIn_ca (goodIn_r _ [6, 7, 8] (by decide +kernel) (by decide +kernel)) (goodIn_sub (fun _ h => List.mem_cons_of_mem _ (List.mem_append_right _ h)) (by decide +kernel))
set_option maxRecDepth 20000 in
theorem gX4_requireTwoNodes_X4_requireNode : GoodIn wsX4_requireTwoNodes (va_wsS RX4 61 yX4_requireNode wsX4_requireNode) := goodIn_app (goodIn_of _ (by decide +kernel)) ggX4_requireTwoNodes_X4_requireNode
theorem dX4_requireTwoNodes_0 : decode cX4_requireTwoNodes 0 = .ok (.iload_n 0, 1) := by decide +kernel
theorem dX4_requireTwoNodes_1 : decode cX4_requireTwoNodes 1 = .ok (.invokestatic 61, 3) := by decide +kernel
theorem dX4_requireTwoNodes_4 : decode cX4_requireTwoNodes 4 = .ok (.iload_n 1, 1) := by decide +kernel
theorem dX4_requireTwoNodes_5 : decode cX4_requireTwoNodes 5 = .ok (.invokestatic 61, 3) := by decide +kernel
theorem dX4_requireTwoNodes_8 : decode cX4_requireTwoNodes 8 = .ok (.iload_n 0, 1) := by decide +kernel
theorem dX4_requireTwoNodes_9 : decode cX4_requireTwoNodes 9 = .ok (.iload_n 1, 1) := by decide +kernel
theorem dX4_requireTwoNodes_10 : decode cX4_requireTwoNodes 10 = .ok (.if_icmp .ne 13, 3) := by decide +kernel
theorem dX4_requireTwoNodes_13 : decode cX4_requireTwoNodes 13 = .ok (.new 30, 3) := by decide +kernel
theorem dX4_requireTwoNodes_16 : decode cX4_requireTwoNodes 16 = .ok (.dup, 1) := by decide +kernel
theorem dX4_requireTwoNodes_17 : decode cX4_requireTwoNodes 17 = .ok (.ldc 244, 2) := by decide +kernel
theorem dX4_requireTwoNodes_19 : decode cX4_requireTwoNodes 19 = .ok (.invokespecial 34, 3) := by decide +kernel
theorem dX4_requireTwoNodes_22 : decode cX4_requireTwoNodes 22 = .ok (.athrow, 1) := by decide +kernel
theorem dX4_requireTwoNodes_23 : decode cX4_requireTwoNodes 23 = .ok (.return_, 1) := by decide +kernel
theorem dX4_pair_0 : decode cX4_pair 0 = .ok (.iload_n 0, 1) := by decide +kernel
theorem dX4_pair_1 : decode cX4_pair 1 = .ok (.bipush 8, 2) := by decide +kernel
theorem dX4_pair_3 : decode cX4_pair 3 = .ok (.imul, 1) := by decide +kernel
theorem dX4_pair_4 : decode cX4_pair 4 = .ok (.iload_n 1, 1) := by decide +kernel
theorem dX4_pair_5 : decode cX4_pair 5 = .ok (.iadd, 1) := by decide +kernel
theorem dX4_pair_6 : decode cX4_pair 6 = .ok (.ireturn, 1) := by decide +kernel
set_option maxRecDepth 20000 in
theorem ggX4_carryOut_X0_digitAt : GoodIn wsX4_carryOut wsX0_digitAt := goodIn_ca (goodIn_r _ [9, 10, 11, 12, 8, 13, 14, 15, 171, 172] (by decide +kernel) (by decide +kernel)) (goodIn_sub (fun _ h => List.mem_cons_of_mem _ (List.mem_append_left _ (List.mem_append_left _ (List.mem_append_left _ (List.mem_append_left _ (List.mem_append_right _ h)))))) (by decide +kernel))
set_option maxRecDepth 20000 in
theorem gX4_carryOut_X0_digitAt : GoodIn wsX4_carryOut (wsV RX4 246 RX0 yX0_digitAt wsX0_digitAt) := goodIn_app (goodIn_of _ (by decide +kernel)) ggX4_carryOut_X0_digitAt
set_option maxRecDepth 20000 in
theorem ggX4_carryOut_X0_signAt : GoodIn wsX4_carryOut wsX0_signAt := goodIn_ca (goodIn_r _ [13, 14, 15, 171, 172] (by decide +kernel) (by decide +kernel)) (goodIn_sub (fun _ h => List.mem_cons_of_mem _ (List.mem_append_left _ (List.mem_append_left _ (List.mem_append_left _ (List.mem_append_left _ (List.mem_append_right _ h)))))) (by decide +kernel))
set_option maxRecDepth 20000 in
theorem gX4_carryOut_X0_signAt : GoodIn wsX4_carryOut (wsV RX4 249 RX0 yX0_signAt wsX0_signAt) := goodIn_app (goodIn_of _ (by decide +kernel)) ggX4_carryOut_X0_signAt
set_option maxRecDepth 20000 in
theorem ggX4_carryOut_X4_crash : GoodIn wsX4_carryOut wsX4_crash := goodIn_ca (goodIn_ca (goodIn_ca (goodIn_r _ [21, 1, 22, 4, 23, 24, 25, 26, 27, 20, 28, 29, 30, 31, 32, 33, 34, 35, 36, 37, 38, 39, 40, 41, 42, 43, 165, 166, 167, 168, 169, 170, 173, 174, 175, 176, 177, 178, 179, 180, 181, 182, 183, 184, 185, 186, 187, 188, 189, 190, 191, 192, 193] (by decide +kernel) (by decide +kernel)) (goodIn_sub (fun _ h => List.mem_cons_of_mem _ (List.mem_append_left _ (List.mem_append_left _ (List.mem_append_left _ (List.mem_append_left _ (List.mem_append_right _ h)))))) (by decide +kernel))) (goodIn_sub (fun _ h => List.mem_cons_of_mem _ (List.mem_append_left _ (List.mem_append_left _ (List.mem_append_left _ (List.mem_append_right _ h))))) (by decide +kernel))) (goodIn_sub (fun _ h => List.mem_cons_of_mem _ (List.mem_append_left _ (List.mem_append_left _ (List.mem_append_right _ h)))) (by decide +kernel))
set_option maxRecDepth 20000 in
theorem gX4_carryOut_X4_crash : GoodIn wsX4_carryOut (wsV RX4 253 RX4 yX4_crash wsX4_crash) := goodIn_app (goodIn_of _ (by decide +kernel)) ggX4_carryOut_X4_crash
set_option maxRecDepth 20000 in
theorem ggX4_carryOut_X4_join : GoodIn wsX4_carryOut wsX4_join := goodIn_ca (goodIn_ca (goodIn_ca (goodIn_ca (goodIn_r _ [47, 1, 22, 2, 48, 4, 23, 24, 25, 49, 26, 27, 20, 28, 29, 30, 50, 51, 52, 41, 53, 43, 54, 55, 56, 57, 58, 59, 60, 61, 62, 63, 64, 65, 66, 67, 68, 69, 70, 34, 71, 72, 73, 74, 75, 76, 77, 78, 79, 80, 81, 82, 83, 84, 85, 86, 87, 88, 89, 90, 91, 92, 93, 94, 95, 96, 97, 98, 99, 100, 101, 102, 103, 104, 105, 106, 107, 36, 108, 109, 32, 33, 35, 37, 31, 165, 166, 167, 168, 169, 170, 173, 174, 175, 176, 177, 178, 179, 180, 181, 182, 183, 184, 185, 186, 187, 188, 189, 190, 191, 192, 193] (by decide +kernel) (by decide +kernel)) (goodIn_sub (fun _ h => List.mem_cons_of_mem _ (List.mem_append_left _ (List.mem_append_left _ (List.mem_append_left _ (List.mem_append_left _ (List.mem_append_right _ h)))))) (by decide +kernel))) (goodIn_sub (fun _ h => List.mem_cons_of_mem _ (List.mem_append_left _ (List.mem_append_left _ (List.mem_append_left _ (List.mem_append_right _ h))))) (by decide +kernel))) (goodIn_sub (fun _ h => List.mem_cons_of_mem _ (List.mem_append_left _ (List.mem_append_right _ h))) (by decide +kernel))) (goodIn_sub (fun _ h => List.mem_cons_of_mem _ (List.mem_append_left _ (List.mem_append_left _ (List.mem_append_right _ h)))) (by decide +kernel))
set_option maxRecDepth 20000 in
theorem gX4_carryOut_X4_join : GoodIn wsX4_carryOut (wsV RX4 256 RX4 yX4_join wsX4_join) := goodIn_app (goodIn_of _ (by decide +kernel)) ggX4_carryOut_X4_join
set_option maxRecDepth 20000 in
theorem ggX4_carryOut_X4_move : GoodIn wsX4_carryOut wsX4_move := goodIn_ca (goodIn_ca (goodIn_ca (goodIn_r _ [113, 2, 48, 4, 23, 114, 25, 26, 27, 20, 28, 29, 30, 31, 32, 33, 34, 35, 36, 37, 165, 166, 167, 168, 169, 170, 173, 174, 175, 176, 177, 178, 179, 180, 181, 182, 183, 184, 185, 186, 187, 188, 189, 190, 191, 192, 193] (by decide +kernel) (by decide +kernel)) (goodIn_sub (fun _ h => List.mem_cons_of_mem _ (List.mem_append_left _ (List.mem_append_right _ h))) (by decide +kernel))) (goodIn_sub (fun _ h => List.mem_cons_of_mem _ (List.mem_append_left _ (List.mem_append_left _ (List.mem_append_left _ (List.mem_append_left _ (List.mem_append_right _ h)))))) (by decide +kernel))) (goodIn_sub (fun _ h => List.mem_cons_of_mem _ (List.mem_append_left _ (List.mem_append_left _ (List.mem_append_right _ h)))) (by decide +kernel))
set_option maxRecDepth 20000 in
theorem gX4_carryOut_X4_move : GoodIn wsX4_carryOut (wsV RX4 259 RX4 yX4_move wsX4_move) := goodIn_app (goodIn_of _ (by decide +kernel)) ggX4_carryOut_X4_move
set_option maxRecDepth 20000 in
theorem ggX4_carryOut_X3_play : GoodIn wsX4_carryOut wsX3_play := goodIn_ca (goodIn_ca (goodIn_r _ [118, 66, 119, 63, 64, 120, 121, 122, 61, 123, 124, 125, 126, 127, 128, 129, 130, 131, 132, 133, 34, 134, 72, 56, 20, 57, 89, 90, 91, 92, 93, 73, 94, 95, 96, 97, 98, 74, 75, 99, 100, 101, 102, 103, 104, 105, 106, 107, 36, 108, 109, 32, 33, 35, 37, 76, 77, 78, 41, 79, 43, 80, 51, 52, 53, 54, 55, 135, 136, 137, 138, 139, 140, 141, 142, 143, 144, 145, 146, 147, 148, 149, 150, 151, 152, 153, 154, 155, 85, 86, 87, 88, 156, 157, 158, 159, 160, 161, 162, 163, 164, 173, 174, 175, 176, 177, 178, 179, 184, 185, 186, 187, 188, 189, 190, 191, 192, 193, 180, 181, 182, 183] (by decide +kernel) (by decide +kernel)) (goodIn_sub (fun _ h => List.mem_cons_of_mem _ (List.mem_append_left _ (List.mem_append_left _ (List.mem_append_left _ (List.mem_append_left _ (List.mem_append_right _ h)))))) (by decide +kernel))) (goodIn_sub (fun _ h => List.mem_cons_of_mem _ (List.mem_append_right _ h)) (by decide +kernel))
set_option maxRecDepth 20000 in
theorem gX4_carryOut_X3_play : GoodIn wsX4_carryOut (wsV RX4 124 RX3 yX3_play wsX3_play) := goodIn_app (goodIn_of _ (by decide +kernel)) ggX4_carryOut_X3_play
theorem dX4_carryOut_0 : decode cX4_carryOut 0 = .ok (.aload_n 0, 1) := by decide +kernel
theorem dX4_carryOut_1 : decode cX4_carryOut 1 = .ok (.getfield 22, 3) := by decide +kernel
theorem dX4_carryOut_4 : decode cX4_carryOut 4 = .ok (.iload_n 1, 1) := by decide +kernel
theorem dX4_carryOut_5 : decode cX4_carryOut 5 = .ok (.iconst 1, 1) := by decide +kernel
theorem dX4_carryOut_6 : decode cX4_carryOut 6 = .ok (.iadd, 1) := by decide +kernel
theorem dX4_carryOut_7 : decode cX4_carryOut 7 = .ok (.invokevirtual 246, 3) := by decide +kernel
theorem dX4_carryOut_10 : decode cX4_carryOut 10 = .ok (.istore_n 2, 1) := by decide +kernel
theorem dX4_carryOut_11 : decode cX4_carryOut 11 = .ok (.aload_n 0, 1) := by decide +kernel
theorem dX4_carryOut_12 : decode cX4_carryOut 12 = .ok (.getfield 22, 3) := by decide +kernel
theorem dX4_carryOut_15 : decode cX4_carryOut 15 = .ok (.iload_n 1, 1) := by decide +kernel
theorem dX4_carryOut_16 : decode cX4_carryOut 16 = .ok (.invokevirtual 249, 3) := by decide +kernel
theorem dX4_carryOut_19 : decode cX4_carryOut 19 = .ok (.lookupswitch 99 #[(99, 41), (106, 50), (112, 69), (114, 88)], 41) := by decide +kernel
theorem dX4_carryOut_60 : decode cX4_carryOut 60 = .ok (.aload_n 0, 1) := by decide +kernel
theorem dX4_carryOut_61 : decode cX4_carryOut 61 = .ok (.iload_n 2, 1) := by decide +kernel
theorem dX4_carryOut_62 : decode cX4_carryOut 62 = .ok (.invokevirtual 253, 3) := by decide +kernel
theorem dX4_carryOut_65 : decode cX4_carryOut 65 = .ok (.pop, 1) := by decide +kernel
theorem dX4_carryOut_66 : decode cX4_carryOut 66 = .ok (.goto 52, 3) := by decide +kernel
theorem dX4_carryOut_69 : decode cX4_carryOut 69 = .ok (.aload_n 0, 1) := by decide +kernel
theorem dX4_carryOut_70 : decode cX4_carryOut 70 = .ok (.iload_n 2, 1) := by decide +kernel
theorem dX4_carryOut_71 : decode cX4_carryOut 71 = .ok (.aload_n 0, 1) := by decide +kernel
theorem dX4_carryOut_72 : decode cX4_carryOut 72 = .ok (.getfield 22, 3) := by decide +kernel
theorem dX4_carryOut_75 : decode cX4_carryOut 75 = .ok (.iload_n 1, 1) := by decide +kernel
theorem dX4_carryOut_76 : decode cX4_carryOut 76 = .ok (.iconst 2, 1) := by decide +kernel
theorem dX4_carryOut_77 : decode cX4_carryOut 77 = .ok (.iadd, 1) := by decide +kernel
theorem dX4_carryOut_78 : decode cX4_carryOut 78 = .ok (.invokevirtual 246, 3) := by decide +kernel
theorem dX4_carryOut_81 : decode cX4_carryOut 81 = .ok (.invokevirtual 256, 3) := by decide +kernel
theorem dX4_carryOut_84 : decode cX4_carryOut 84 = .ok (.pop, 1) := by decide +kernel
theorem dX4_carryOut_85 : decode cX4_carryOut 85 = .ok (.goto 33, 3) := by decide +kernel
theorem dX4_carryOut_88 : decode cX4_carryOut 88 = .ok (.aload_n 0, 1) := by decide +kernel
theorem dX4_carryOut_89 : decode cX4_carryOut 89 = .ok (.iload_n 2, 1) := by decide +kernel
theorem dX4_carryOut_90 : decode cX4_carryOut 90 = .ok (.aload_n 0, 1) := by decide +kernel
theorem dX4_carryOut_91 : decode cX4_carryOut 91 = .ok (.getfield 22, 3) := by decide +kernel
theorem dX4_carryOut_94 : decode cX4_carryOut 94 = .ok (.iload_n 1, 1) := by decide +kernel
theorem dX4_carryOut_95 : decode cX4_carryOut 95 = .ok (.iconst 2, 1) := by decide +kernel
theorem dX4_carryOut_96 : decode cX4_carryOut 96 = .ok (.iadd, 1) := by decide +kernel
theorem dX4_carryOut_97 : decode cX4_carryOut 97 = .ok (.invokevirtual 246, 3) := by decide +kernel
theorem dX4_carryOut_100 : decode cX4_carryOut 100 = .ok (.invokevirtual 259, 3) := by decide +kernel
theorem dX4_carryOut_103 : decode cX4_carryOut 103 = .ok (.pop, 1) := by decide +kernel
theorem dX4_carryOut_104 : decode cX4_carryOut 104 = .ok (.goto 14, 3) := by decide +kernel
theorem dX4_carryOut_107 : decode cX4_carryOut 107 = .ok (.aload_n 0, 1) := by decide +kernel
theorem dX4_carryOut_108 : decode cX4_carryOut 108 = .ok (.getfield 10, 3) := by decide +kernel
theorem dX4_carryOut_111 : decode cX4_carryOut 111 = .ok (.iload_n 2, 1) := by decide +kernel
theorem dX4_carryOut_112 : decode cX4_carryOut 112 = .ok (.invokevirtual 124, 3) := by decide +kernel
theorem dX4_carryOut_115 : decode cX4_carryOut 115 = .ok (.goto 3, 3) := by decide +kernel
theorem dX4_carryOut_118 : decode cX4_carryOut 118 = .ok (.goto 9, 3) := by decide +kernel
theorem dX4_carryOut_121 : decode cX4_carryOut 121 = .ok (.astore_n 3, 1) := by decide +kernel
theorem dX4_carryOut_122 : decode cX4_carryOut 122 = .ok (.iconst 2, 1) := by decide +kernel
theorem dX4_carryOut_123 : decode cX4_carryOut 123 = .ok (.ireturn, 1) := by decide +kernel
theorem dX4_carryOut_124 : decode cX4_carryOut 124 = .ok (.astore_n 3, 1) := by decide +kernel
theorem dX4_carryOut_125 : decode cX4_carryOut 125 = .ok (.iconst 3, 1) := by decide +kernel
theorem dX4_carryOut_126 : decode cX4_carryOut 126 = .ok (.ireturn, 1) := by decide +kernel
theorem dX4_carryOut_127 : decode cX4_carryOut 127 = .ok (.iconst 0, 1) := by decide +kernel
theorem dX4_carryOut_128 : decode cX4_carryOut 128 = .ok (.ireturn, 1) := by decide +kernel
