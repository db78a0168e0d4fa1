theorem dX4_init_0 : decode cX4_init 0 = .ok (.aload_n 0, 1) := by decide +kernel
theorem dX4_init_1 : decode cX4_init 1 = .ok (.invokespecial 3, 3) := by decide +kernel
theorem dX4_init_4 : decode cX4_init 4 = .ok (.aload_n 0, 1) := by decide +kernel
theorem dX4_init_5 : decode cX4_init 5 = .ok (.bipush 80, 2) := by decide +kernel
theorem dX4_init_7 : decode cX4_init 7 = .ok (.newarray .char, 2) := by decide +kernel
theorem dX4_init_9 : decode cX4_init 9 = .ok (.putfield 9, 3) := by decide +kernel
theorem dX4_init_12 : decode cX4_init 12 = .ok (.aload_n 0, 1) := by decide +kernel
theorem dX4_init_13 : decode cX4_init 13 = .ok (.bipush 27, 2) := by decide +kernel
theorem dX4_init_15 : decode cX4_init 15 = .ok (.newarray .char, 2) := by decide +kernel
theorem dX4_init_17 : decode cX4_init 17 = .ok (.putfield 15, 3) := by decide +kernel
theorem dX4_init_20 : decode cX4_init 20 = .ok (.aload_n 0, 1) := by decide +kernel
theorem dX4_init_21 : decode cX4_init 21 = .ok (.bipush 27, 2) := by decide +kernel
theorem dX4_init_23 : decode cX4_init 23 = .ok (.newarray .int, 2) := by decide +kernel
theorem dX4_init_25 : decode cX4_init 25 = .ok (.putfield 18, 3) := by decide +kernel
theorem dX4_init_28 : decode cX4_init 28 = .ok (.aload_n 0, 1) := by decide +kernel
theorem dX4_init_29 : decode cX4_init 29 = .ok (.bipush 27, 2) := by decide +kernel
theorem dX4_init_31 : decode cX4_init 31 = .ok (.newarray .int, 2) := by decide +kernel
theorem dX4_init_33 : decode cX4_init 33 = .ok (.putfield 22, 3) := by decide +kernel
theorem dX4_init_36 : decode cX4_init 36 = .ok (.aload_n 0, 1) := by decide +kernel
theorem dX4_init_37 : decode cX4_init 37 = .ok (.bipush 27, 2) := by decide +kernel
theorem dX4_init_39 : decode cX4_init 39 = .ok (.newarray .int, 2) := by decide +kernel
theorem dX4_init_41 : decode cX4_init 41 = .ok (.putfield 25, 3) := by decide +kernel
theorem dX4_init_44 : decode cX4_init 44 = .ok (.return_, 1) := by decide +kernel
theorem dX4_append_0 : decode cX4_append 0 = .ok (.aload_n 0, 1) := by decide +kernel
theorem dX4_append_1 : decode cX4_append 1 = .ok (.getfield 28, 3) := by decide +kernel
theorem dX4_append_4 : decode cX4_append 4 = .ok (.bipush 80, 2) := by decide +kernel
theorem dX4_append_6 : decode cX4_append 6 = .ok (.if_icmp .lt 5, 3) := by decide +kernel
theorem dX4_append_9 : decode cX4_append 9 = .ok (.iconst 0, 1) := by decide +kernel
theorem dX4_append_10 : decode cX4_append 10 = .ok (.ireturn, 1) := by decide +kernel
theorem dX4_append_11 : decode cX4_append 11 = .ok (.aload_n 0, 1) := by decide +kernel
theorem dX4_append_12 : decode cX4_append 12 = .ok (.getfield 9, 3) := by decide +kernel
theorem dX4_append_15 : decode cX4_append 15 = .ok (.aload_n 0, 1) := by decide +kernel
theorem dX4_append_16 : decode cX4_append 16 = .ok (.getfield 28, 3) := by decide +kernel
theorem dX4_append_19 : decode cX4_append 19 = .ok (.iload_n 1, 1) := by decide +kernel
theorem dX4_append_20 : decode cX4_append 20 = .ok (.castore, 1) := by decide +kernel
theorem dX4_append_21 : decode cX4_append 21 = .ok (.aload_n 0, 1) := by decide +kernel
theorem dX4_append_22 : decode cX4_append 22 = .ok (.dup, 1) := by decide +kernel
theorem dX4_append_23 : decode cX4_append 23 = .ok (.getfield 28, 3) := by decide +kernel
theorem dX4_append_26 : decode cX4_append 26 = .ok (.iconst 1, 1) := by decide +kernel
theorem dX4_append_27 : decode cX4_append 27 = .ok (.iadd, 1) := by decide +kernel
theorem dX4_append_28 : decode cX4_append 28 = .ok (.putfield 28, 3) := by decide +kernel
theorem dX4_append_31 : decode cX4_append 31 = .ok (.iconst 1, 1) := by decide +kernel
theorem dX4_append_32 : decode cX4_append 32 = .ok (.ireturn, 1) := by decide +kernel
set_option maxRecDepth 20000 in
theorem ggX4_findFault_X4_takesCommand : GoodIn wsX4_findFault wsX4_takesCommand := goodIn_r _ [8, 1, 3, 9, 10, 11, 12, 13, 14, 7, 15, 16, 17, 18, 19, 20, 21, 22, 23, 24, 25, 26, 27, 28, 29, 30, 31, 32, 33, 34, 35, 36, 37] (by decide +kernel) (by decide +kernel)
set_option maxRecDepth 20000 in
theorem gX4_findFault_X4_takesCommand : GoodIn wsX4_findFault (wsV RX4 38 RX4 yX4_takesCommand wsX4_takesCommand) := goodIn_app (goodIn_of _ (by decide +kernel)) ggX4_findFault_X4_takesCommand
set_option maxRecDepth 20000 in
theorem ggX4_findFault_X4_takes : GoodIn wsX4_findFault wsX4_takes := goodIn_r _ [29, 1, 3, 9, 30, 31, 32, 33, 34, 35, 36, 37] (by decide +kernel) (by decide +kernel)
set_option maxRecDepth 20000 in
theorem gX4_findFault_X4_takes : GoodIn wsX4_findFault (wsV RX4 42 RX4 yX4_takes wsX4_takes) := goodIn_app (goodIn_of _ (by decide +kernel)) ggX4_findFault_X4_takes
theorem dX4_findFault_0 : decode cX4_findFault 0 = .ok (.aload_n 0, 1) := by decide +kernel
theorem dX4_findFault_1 : decode cX4_findFault 1 = .ok (.iconst 0, 1) := by decide +kernel
theorem dX4_findFault_2 : decode cX4_findFault 2 = .ok (.putfield 32, 3) := by decide +kernel
theorem dX4_findFault_5 : decode cX4_findFault 5 = .ok (.aload_n 0, 1) := by decide +kernel
theorem dX4_findFault_6 : decode cX4_findFault 6 = .ok (.iconst 0, 1) := by decide +kernel
theorem dX4_findFault_7 : decode cX4_findFault 7 = .ok (.putfield 35, 3) := by decide +kernel
theorem dX4_findFault_10 : decode cX4_findFault 10 = .ok (.aload_n 0, 1) := by decide +kernel
theorem dX4_findFault_11 : decode cX4_findFault 11 = .ok (.getfield 35, 3) := by decide +kernel
theorem dX4_findFault_14 : decode cX4_findFault 14 = .ok (.bipush 27, 2) := by decide +kernel
theorem dX4_findFault_16 : decode cX4_findFault 16 = .ok (.if_icmp .ge 56, 3) := by decide +kernel
theorem dX4_findFault_19 : decode cX4_findFault 19 = .ok (.aload_n 0, 1) := by decide +kernel
theorem dX4_findFault_20 : decode cX4_findFault 20 = .ok (.aload_n 0, 1) := by decide +kernel
theorem dX4_findFault_21 : decode cX4_findFault 21 = .ok (.getfield 35, 3) := by decide +kernel
theorem dX4_findFault_24 : decode cX4_findFault 24 = .ok (.invokevirtual 38, 3) := by decide +kernel
theorem dX4_findFault_27 : decode cX4_findFault 27 = .ok (.ifCond .ne 8, 3) := by decide +kernel
theorem dX4_findFault_30 : decode cX4_findFault 30 = .ok (.aload_n 0, 1) := by decide +kernel
theorem dX4_findFault_31 : decode cX4_findFault 31 = .ok (.getfield 32, 3) := by decide +kernel
theorem dX4_findFault_34 : decode cX4_findFault 34 = .ok (.ireturn, 1) := by decide +kernel
theorem dX4_findFault_35 : decode cX4_findFault 35 = .ok (.aload_n 0, 1) := by decide +kernel
theorem dX4_findFault_36 : decode cX4_findFault 36 = .ok (.dup, 1) := by decide +kernel
theorem dX4_findFault_37 : decode cX4_findFault 37 = .ok (.getfield 35, 3) := by decide +kernel
theorem dX4_findFault_40 : decode cX4_findFault 40 = .ok (.iconst 1, 1) := by decide +kernel
theorem dX4_findFault_41 : decode cX4_findFault 41 = .ok (.iadd, 1) := by decide +kernel
theorem dX4_findFault_42 : decode cX4_findFault 42 = .ok (.putfield 35, 3) := by decide +kernel
theorem dX4_findFault_45 : decode cX4_findFault 45 = .ok (.aload_n 0, 1) := by decide +kernel
theorem dX4_findFault_46 : decode cX4_findFault 46 = .ok (.getfield 32, 3) := by decide +kernel
theorem dX4_findFault_49 : decode cX4_findFault 49 = .ok (.aload_n 0, 1) := by decide +kernel
theorem dX4_findFault_50 : decode cX4_findFault 50 = .ok (.getfield 28, 3) := by decide +kernel
theorem dX4_findFault_53 : decode cX4_findFault 53 = .ok (.if_icmp .ne 5, 3) := by decide +kernel
theorem dX4_findFault_56 : decode cX4_findFault 56 = .ok (.iconst (-1), 1) := by decide +kernel
theorem dX4_findFault_57 : decode cX4_findFault 57 = .ok (.ireturn, 1) := by decide +kernel
theorem dX4_findFault_58 : decode cX4_findFault 58 = .ok (.aload_n 0, 1) := by decide +kernel
theorem dX4_findFault_59 : decode cX4_findFault 59 = .ok (.bipush 59, 2) := by decide +kernel
theorem dX4_findFault_61 : decode cX4_findFault 61 = .ok (.invokevirtual 42, 3) := by decide +kernel
theorem dX4_findFault_64 : decode cX4_findFault 64 = .ok (.ifCond .ne (-54), 3) := by decide +kernel
theorem dX4_findFault_67 : decode cX4_findFault 67 = .ok (.aload_n 0, 1) := by decide +kernel
theorem dX4_findFault_68 : decode cX4_findFault 68 = .ok (.getfield 32, 3) := by decide +kernel
theorem dX4_findFault_71 : decode cX4_findFault 71 = .ok (.ireturn, 1) := by decide +kernel
theorem dX4_findFault_72 : decode cX4_findFault 72 = .ok (.aload_n 0, 1) := by decide +kernel
theorem dX4_findFault_73 : decode cX4_findFault 73 = .ok (.getfield 32, 3) := by decide +kernel
theorem dX4_findFault_76 : decode cX4_findFault 76 = .ok (.ireturn, 1) := by decide +kernel
set_option maxRecDepth 20000 in
theorem ggX4_takesCommand_X4_isDigitUpTo : GoodIn wsX4_takesCommand wsX4_isDigitUpTo := goodIn_r _ [10, 1, 2, 3, 25, 26, 27, 28, 29, 30, 31, 32] (by decide +kernel) (by decide +kernel)
set_option maxRecDepth 20000 in
theorem gX4_takesCommand_X4_isDigitUpTo : GoodIn wsX4_takesCommand (wsV RX4 46 RX4 yX4_isDigitUpTo wsX4_isDigitUpTo) := goodIn_app (goodIn_of _ (by decide +kernel)) ggX4_takesCommand_X4_isDigitUpTo
set_option maxRecDepth 20000 in
theorem ggX4_takesCommand_X4_takeNumber : GoodIn wsX4_takesCommand wsX4_takeNumber := goodIn_r _ [14, 1, 2, 3, 6, 7, 8, 9, 10, 25, 26, 27, 28, 29, 30, 31, 32] (by decide +kernel) (by decide +kernel)
set_option maxRecDepth 20000 in
theorem gX4_takesCommand_X4_takeNumber : GoodIn wsX4_takesCommand (wsV RX4 49 RX4 yX4_takeNumber wsX4_takeNumber) := goodIn_app (goodIn_of _ (by decide +kernel)) ggX4_takesCommand_X4_takeNumber
set_option maxRecDepth 20000 in
theorem ggX4_takesCommand_X4_takesLineAndValue : GoodIn wsX4_takesCommand wsX4_takesLineAndValue := goodIn_r _ [18, 19, 4, 20, 21, 22, 23, 9, 24, 1, 2, 3, 6, 7, 8, 10, 11, 12, 13, 14, 25, 26, 27, 28, 29, 30, 31, 32] (by decide +kernel) (by decide +kernel)
set_option maxRecDepth 20000 in
theorem gX4_takesCommand_X4_takesLineAndValue : GoodIn wsX4_takesCommand (wsV RX4 53 RX4 yX4_takesLineAndValue wsX4_takesLineAndValue) := goodIn_app (goodIn_of _ (by decide +kernel)) ggX4_takesCommand_X4_takesLineAndValue
theorem dX4_takesCommand_0 : decode cX4_takesCommand 0 = .ok (.aload_n 0, 1) := by decide +kernel
theorem dX4_takesCommand_1 : decode cX4_takesCommand 1 = .ok (.getfield 32, 3) := by decide +kernel
theorem dX4_takesCommand_4 : decode cX4_takesCommand 4 = .ok (.aload_n 0, 1) := by decide +kernel
theorem dX4_takesCommand_5 : decode cX4_takesCommand 5 = .ok (.getfield 28, 3) := by decide +kernel
theorem dX4_takesCommand_8 : decode cX4_takesCommand 8 = .ok (.if_icmp .ge 15, 3) := by decide +kernel
theorem dX4_takesCommand_11 : decode cX4_takesCommand 11 = .ok (.aload_n 0, 1) := by decide +kernel
theorem dX4_takesCommand_12 : decode cX4_takesCommand 12 = .ok (.getfield 9, 3) := by decide +kernel
theorem dX4_takesCommand_15 : decode cX4_takesCommand 15 = .ok (.aload_n 0, 1) := by decide +kernel
theorem dX4_takesCommand_16 : decode cX4_takesCommand 16 = .ok (.getfield 32, 3) := by decide +kernel
theorem dX4_takesCommand_19 : decode cX4_takesCommand 19 = .ok (.caload, 1) := by decide +kernel
theorem dX4_takesCommand_20 : decode cX4_takesCommand 20 = .ok (.goto 5, 3) := by decide +kernel
theorem dX4_takesCommand_23 : decode cX4_takesCommand 23 = .ok (.bipush 59, 2) := by decide +kernel
theorem dX4_takesCommand_25 : decode cX4_takesCommand 25 = .ok (.istore_n 2, 1) := by decide +kernel
theorem dX4_takesCommand_26 : decode cX4_takesCommand 26 = .ok (.iload_n 2, 1) := by decide +kernel
theorem dX4_takesCommand_27 : decode cX4_takesCommand 27 = .ok (.bipush 114, 2) := by decide +kernel
theorem dX4_takesCommand_29 : decode cX4_takesCommand 29 = .ok (.if_icmp .eq 23, 3) := by decide +kernel
theorem dX4_takesCommand_32 : decode cX4_takesCommand 32 = .ok (.iload_n 2, 1) := by decide +kernel
theorem dX4_takesCommand_33 : decode cX4_takesCommand 33 = .ok (.bipush 119, 2) := by decide +kernel
theorem dX4_takesCommand_35 : decode cX4_takesCommand 35 = .ok (.if_icmp .eq 17, 3) := by decide +kernel
theorem dX4_takesCommand_38 : decode cX4_takesCommand 38 = .ok (.iload_n 2, 1) := by decide +kernel
theorem dX4_takesCommand_39 : decode cX4_takesCommand 39 = .ok (.bipush 100, 2) := by decide +kernel
theorem dX4_takesCommand_41 : decode cX4_takesCommand 41 = .ok (.if_icmp .eq 11, 3) := by decide +kernel
theorem dX4_takesCommand_44 : decode cX4_takesCommand 44 = .ok (.iload_n 2, 1) := by decide +kernel
theorem dX4_takesCommand_45 : decode cX4_takesCommand 45 = .ok (.bipush 102, 2) := by decide +kernel
theorem dX4_takesCommand_47 : decode cX4_takesCommand 47 = .ok (.if_icmp .eq 5, 3) := by decide +kernel
theorem dX4_takesCommand_50 : decode cX4_takesCommand 50 = .ok (.iconst 0, 1) := by decide +kernel
theorem dX4_takesCommand_51 : decode cX4_takesCommand 51 = .ok (.ireturn, 1) := by decide +kernel
theorem dX4_takesCommand_52 : decode cX4_takesCommand 52 = .ok (.aload_n 0, 1) := by decide +kernel
theorem dX4_takesCommand_53 : decode cX4_takesCommand 53 = .ok (.dup, 1) := by decide +kernel
theorem dX4_takesCommand_54 : decode cX4_takesCommand 54 = .ok (.getfield 32, 3) := by decide +kernel
theorem dX4_takesCommand_57 : decode cX4_takesCommand 57 = .ok (.iconst 1, 1) := by decide +kernel
theorem dX4_takesCommand_58 : decode cX4_takesCommand 58 = .ok (.iadd, 1) := by decide +kernel
theorem dX4_takesCommand_59 : decode cX4_takesCommand 59 = .ok (.putfield 32, 3) := by decide +kernel
theorem dX4_takesCommand_62 : decode cX4_takesCommand 62 = .ok (.aload_n 0, 1) := by decide +kernel
theorem dX4_takesCommand_63 : decode cX4_takesCommand 63 = .ok (.getfield 15, 3) := by decide +kernel
theorem dX4_takesCommand_66 : decode cX4_takesCommand 66 = .ok (.iload_n 1, 1) := by decide +kernel
theorem dX4_takesCommand_67 : decode cX4_takesCommand 67 = .ok (.iload_n 2, 1) := by decide +kernel
theorem dX4_takesCommand_68 : decode cX4_takesCommand 68 = .ok (.castore, 1) := by decide +kernel
theorem dX4_takesCommand_69 : decode cX4_takesCommand 69 = .ok (.aload_n 0, 1) := by decide +kernel
theorem dX4_takesCommand_70 : decode cX4_takesCommand 70 = .ok (.iconst 3, 1) := by decide +kernel
theorem dX4_takesCommand_71 : decode cX4_takesCommand 71 = .ok (.invokevirtual 46, 3) := by decide +kernel
theorem dX4_takesCommand_74 : decode cX4_takesCommand 74 = .ok (.ifCond .ne 5, 3) := by decide +kernel
theorem dX4_takesCommand_77 : decode cX4_takesCommand 77 = .ok (.iconst 0, 1) := by decide +kernel
theorem dX4_takesCommand_78 : decode cX4_takesCommand 78 = .ok (.ireturn, 1) := by decide +kernel
theorem dX4_takesCommand_79 : decode cX4_takesCommand 79 = .ok (.aload_n 0, 1) := by decide +kernel
theorem dX4_takesCommand_80 : decode cX4_takesCommand 80 = .ok (.getfield 18, 3) := by decide +kernel
theorem dX4_takesCommand_83 : decode cX4_takesCommand 83 = .ok (.iload_n 1, 1) := by decide +kernel
theorem dX4_takesCommand_84 : decode cX4_takesCommand 84 = .ok (.aload_n 0, 1) := by decide +kernel
theorem dX4_takesCommand_85 : decode cX4_takesCommand 85 = .ok (.iconst 3, 1) := by decide +kernel
theorem dX4_takesCommand_86 : decode cX4_takesCommand 86 = .ok (.invokevirtual 49, 3) := by decide +kernel
theorem dX4_takesCommand_89 : decode cX4_takesCommand 89 = .ok (.iastore, 1) := by decide +kernel
theorem dX4_takesCommand_90 : decode cX4_takesCommand 90 = .ok (.iload_n 2, 1) := by decide +kernel
theorem dX4_takesCommand_91 : decode cX4_takesCommand 91 = .ok (.bipush 102, 2) := by decide +kernel
theorem dX4_takesCommand_93 : decode cX4_takesCommand 93 = .ok (.if_icmp .eq 11, 3) := by decide +kernel
theorem dX4_takesCommand_96 : decode cX4_takesCommand 96 = .ok (.aload_n 0, 1) := by decide +kernel
theorem dX4_takesCommand_97 : decode cX4_takesCommand 97 = .ok (.iload_n 1, 1) := by decide +kernel
theorem dX4_takesCommand_98 : decode cX4_takesCommand 98 = .ok (.invokevirtual 53, 3) := by decide +kernel
theorem dX4_takesCommand_101 : decode cX4_takesCommand 101 = .ok (.ifCond .eq 7, 3) := by decide +kernel
theorem dX4_takesCommand_104 : decode cX4_takesCommand 104 = .ok (.iconst 1, 1) := by decide +kernel
theorem dX4_takesCommand_105 : decode cX4_takesCommand 105 = .ok (.goto 4, 3) := by decide +kernel
theorem dX4_takesCommand_108 : decode cX4_takesCommand 108 = .ok (.iconst 0, 1) := by decide +kernel
theorem dX4_takesCommand_109 : decode cX4_takesCommand 109 = .ok (.ireturn, 1) := by decide +kernel
set_option maxRecDepth 20000 in
theorem ggX4_takesLineAndValue_X4_takes : GoodIn wsX4_takesLineAndValue wsX4_takes := goodIn_r _ [8, 9, 10, 11, 20, 21, 22, 23, 24, 25, 26, 27] (by decide +kernel) (by decide +kernel)
set_option maxRecDepth 20000 in
theorem gX4_takesLineAndValue_X4_takes : GoodIn wsX4_takesLineAndValue (wsV RX4 42 RX4 yX4_takes wsX4_takes) := goodIn_app (goodIn_of _ (by decide +kernel)) ggX4_takesLineAndValue_X4_takes
set_option maxRecDepth 20000 in
theorem ggX4_takesLineAndValue_X4_isDigitUpTo : GoodIn wsX4_takesLineAndValue wsX4_isDigitUpTo := goodIn_r _ [15, 9, 10, 11, 20, 21, 22, 23, 24, 25, 26, 27] (by decide +kernel) (by decide +kernel)
set_option maxRecDepth 20000 in
theorem gX4_takesLineAndValue_X4_isDigitUpTo : GoodIn wsX4_takesLineAndValue (wsV RX4 46 RX4 yX4_isDigitUpTo wsX4_isDigitUpTo) := goodIn_app (goodIn_of _ (by decide +kernel)) ggX4_takesLineAndValue_X4_isDigitUpTo
set_option maxRecDepth 20000 in
theorem ggX4_takesLineAndValue_X4_takeNumber : GoodIn wsX4_takesLineAndValue wsX4_takeNumber := goodIn_r _ [19, 9, 10, 11, 12, 13, 14, 7, 15, 20, 21, 22, 23, 24, 25, 26, 27] (by decide +kernel) (by decide +kernel)
set_option maxRecDepth 20000 in
theorem gX4_takesLineAndValue_X4_takeNumber : GoodIn wsX4_takesLineAndValue (wsV RX4 49 RX4 yX4_takeNumber wsX4_takeNumber) := goodIn_app (goodIn_of _ (by decide +kernel)) ggX4_takesLineAndValue_X4_takeNumber
theorem dX4_takesLineAndValue_0 : decode cX4_takesLineAndValue 0 = .ok (.aload_n 0, 1) := by decide +kernel
theorem dX4_takesLineAndValue_1 : decode cX4_takesLineAndValue 1 = .ok (.bipush 46, 2) := by decide +kernel
theorem dX4_takesLineAndValue_3 : decode cX4_takesLineAndValue 3 = .ok (.invokevirtual 42, 3) := by decide +kernel
theorem dX4_takesLineAndValue_6 : decode cX4_takesLineAndValue 6 = .ok (.ifCond .eq 12, 3) := by decide +kernel
theorem dX4_takesLineAndValue_9 : decode cX4_takesLineAndValue 9 = .ok (.aload_n 0, 1) := by decide +kernel
theorem dX4_takesLineAndValue_10 : decode cX4_takesLineAndValue 10 = .ok (.bipush 9, 2) := by decide +kernel
theorem dX4_takesLineAndValue_12 : decode cX4_takesLineAndValue 12 = .ok (.invokevirtual 46, 3) := by decide +kernel
theorem dX4_takesLineAndValue_15 : decode cX4_takesLineAndValue 15 = .ok (.ifCond .ne 5, 3) := by decide +kernel
theorem dX4_takesLineAndValue_18 : decode cX4_takesLineAndValue 18 = .ok (.iconst 0, 1) := by decide +kernel
theorem dX4_takesLineAndValue_19 : decode cX4_takesLineAndValue 19 = .ok (.ireturn, 1) := by decide +kernel
theorem dX4_takesLineAndValue_20 : decode cX4_takesLineAndValue 20 = .ok (.aload_n 0, 1) := by decide +kernel
theorem dX4_takesLineAndValue_21 : decode cX4_takesLineAndValue 21 = .ok (.getfield 22, 3) := by decide +kernel
theorem dX4_takesLineAndValue_24 : decode cX4_takesLineAndValue 24 = .ok (.iload_n 1, 1) := by decide +kernel
theorem dX4_takesLineAndValue_25 : decode cX4_takesLineAndValue 25 = .ok (.aload_n 0, 1) := by decide +kernel
theorem dX4_takesLineAndValue_26 : decode cX4_takesLineAndValue 26 = .ok (.sipush 255, 3) := by decide +kernel
theorem dX4_takesLineAndValue_29 : decode cX4_takesLineAndValue 29 = .ok (.invokevirtual 49, 3) := by decide +kernel
theorem dX4_takesLineAndValue_32 : decode cX4_takesLineAndValue 32 = .ok (.iastore, 1) := by decide +kernel
theorem dX4_takesLineAndValue_33 : decode cX4_takesLineAndValue 33 = .ok (.aload_n 0, 1) := by decide +kernel
theorem dX4_takesLineAndValue_34 : decode cX4_takesLineAndValue 34 = .ok (.getfield 15, 3) := by decide +kernel
theorem dX4_takesLineAndValue_37 : decode cX4_takesLineAndValue 37 = .ok (.iload_n 1, 1) := by decide +kernel
theorem dX4_takesLineAndValue_38 : decode cX4_takesLineAndValue 38 = .ok (.caload, 1) := by decide +kernel
theorem dX4_takesLineAndValue_39 : decode cX4_takesLineAndValue 39 = .ok (.bipush 119, 2) := by decide +kernel
theorem dX4_takesLineAndValue_41 : decode cX4_takesLineAndValue 41 = .ok (.if_icmp .eq 5, 3) := by decide +kernel
theorem dX4_takesLineAndValue_44 : decode cX4_takesLineAndValue 44 = .ok (.iconst 1, 1) := by decide +kernel
theorem dX4_takesLineAndValue_45 : decode cX4_takesLineAndValue 45 = .ok (.ireturn, 1) := by decide +kernel
theorem dX4_takesLineAndValue_46 : decode cX4_takesLineAndValue 46 = .ok (.aload_n 0, 1) := by decide +kernel
theorem dX4_takesLineAndValue_47 : decode cX4_takesLineAndValue 47 = .ok (.bipush 61, 2) := by decide +kernel
theorem dX4_takesLineAndValue_49 : decode cX4_takesLineAndValue 49 = .ok (.invokevirtual 42, 3) := by decide +kernel
theorem dX4_takesLineAndValue_52 : decode cX4_takesLineAndValue 52 = .ok (.ifCond .eq 12, 3) := by decide +kernel
theorem dX4_takesLineAndValue_55 : decode cX4_takesLineAndValue 55 = .ok (.aload_n 0, 1) := by decide +kernel
theorem dX4_takesLineAndValue_56 : decode cX4_takesLineAndValue 56 = .ok (.bipush 9, 2) := by decide +kernel
theorem dX4_takesLineAndValue_58 : decode cX4_takesLineAndValue 58 = .ok (.invokevirtual 46, 3) := by decide +kernel
theorem dX4_takesLineAndValue_61 : decode cX4_takesLineAndValue 61 = .ok (.ifCond .ne 5, 3) := by decide +kernel
theorem dX4_takesLineAndValue_64 : decode cX4_takesLineAndValue 64 = .ok (.iconst 0, 1) := by decide +kernel
theorem dX4_takesLineAndValue_65 : decode cX4_takesLineAndValue 65 = .ok (.ireturn, 1) := by decide +kernel
theorem dX4_takesLineAndValue_66 : decode cX4_takesLineAndValue 66 = .ok (.aload_n 0, 1) := by decide +kernel
theorem dX4_takesLineAndValue_67 : decode cX4_takesLineAndValue 67 = .ok (.getfield 25, 3) := by decide +kernel
theorem dX4_takesLineAndValue_70 : decode cX4_takesLineAndValue 70 = .ok (.iload_n 1, 1) := by decide +kernel
theorem dX4_takesLineAndValue_71 : decode cX4_takesLineAndValue 71 = .ok (.aload_n 0, 1) := by decide +kernel
theorem dX4_takesLineAndValue_72 : decode cX4_takesLineAndValue 72 = .ok (.sipush 9999, 3) := by decide +kernel
theorem dX4_takesLineAndValue_75 : decode cX4_takesLineAndValue 75 = .ok (.invokevirtual 49, 3) := by decide +kernel
theorem dX4_takesLineAndValue_78 : decode cX4_takesLineAndValue 78 = .ok (.iastore, 1) := by decide +kernel
theorem dX4_takesLineAndValue_79 : decode cX4_takesLineAndValue 79 = .ok (.iconst 1, 1) := by decide +kernel
theorem dX4_takesLineAndValue_80 : decode cX4_takesLineAndValue 80 = .ok (.ireturn, 1) := by decide +kernel
theorem dX4_takes_0 : decode cX4_takes 0 = .ok (.aload_n 0, 1) := by decide +kernel
theorem dX4_takes_1 : decode cX4_takes 1 = .ok (.getfield 32, 3) := by decide +kernel
theorem dX4_takes_4 : decode cX4_takes 4 = .ok (.aload_n 0, 1) := by decide +kernel
theorem dX4_takes_5 : decode cX4_takes 5 = .ok (.getfield 28, 3) := by decide +kernel
theorem dX4_takes_8 : decode cX4_takes 8 = .ok (.if_icmp .ge 16, 3) := by decide +kernel
theorem dX4_takes_11 : decode cX4_takes 11 = .ok (.aload_n 0, 1) := by decide +kernel
theorem dX4_takes_12 : decode cX4_takes 12 = .ok (.getfield 9, 3) := by decide +kernel
theorem dX4_takes_15 : decode cX4_takes 15 = .ok (.aload_n 0, 1) := by decide +kernel
theorem dX4_takes_16 : decode cX4_takes 16 = .ok (.getfield 32, 3) := by decide +kernel
theorem dX4_takes_19 : decode cX4_takes 19 = .ok (.caload, 1) := by decide +kernel
theorem dX4_takes_20 : decode cX4_takes 20 = .ok (.iload_n 1, 1) := by decide +kernel
theorem dX4_takes_21 : decode cX4_takes 21 = .ok (.if_icmp .eq 5, 3) := by decide +kernel
theorem dX4_takes_24 : decode cX4_takes 24 = .ok (.iconst 0, 1) := by decide +kernel
theorem dX4_takes_25 : decode cX4_takes 25 = .ok (.ireturn, 1) := by decide +kernel
theorem dX4_takes_26 : decode cX4_takes 26 = .ok (.aload_n 0, 1) := by decide +kernel
theorem dX4_takes_27 : decode cX4_takes 27 = .ok (.dup, 1) := by decide +kernel
theorem dX4_takes_28 : decode cX4_takes 28 = .ok (.getfield 32, 3) := by decide +kernel
theorem dX4_takes_31 : decode cX4_takes 31 = .ok (.iconst 1, 1) := by decide +kernel
theorem dX4_takes_32 : decode cX4_takes 32 = .ok (.iadd, 1) := by decide +kernel
theorem dX4_takes_33 : decode cX4_takes 33 = .ok (.putfield 32, 3) := by decide +kernel
theorem dX4_takes_36 : decode cX4_takes 36 = .ok (.iconst 1, 1) := by decide +kernel
theorem dX4_takes_37 : decode cX4_takes 37 = .ok (.ireturn, 1) := by decide +kernel
theorem dX4_isDigitUpTo_0 : decode cX4_isDigitUpTo 0 = .ok (.aload_n 0, 1) := by decide +kernel
theorem dX4_isDigitUpTo_1 : decode cX4_isDigitUpTo 1 = .ok (.getfield 32, 3) := by decide +kernel
theorem dX4_isDigitUpTo_4 : decode cX4_isDigitUpTo 4 = .ok (.aload_n 0, 1) := by decide +kernel
theorem dX4_isDigitUpTo_5 : decode cX4_isDigitUpTo 5 = .ok (.getfield 28, 3) := by decide +kernel
theorem dX4_isDigitUpTo_8 : decode cX4_isDigitUpTo 8 = .ok (.if_icmp .ge 37, 3) := by decide +kernel
theorem dX4_isDigitUpTo_11 : decode cX4_isDigitUpTo 11 = .ok (.aload_n 0, 1) := by decide +kernel
theorem dX4_isDigitUpTo_12 : decode cX4_isDigitUpTo 12 = .ok (.getfield 9, 3) := by decide +kernel
theorem dX4_isDigitUpTo_15 : decode cX4_isDigitUpTo 15 = .ok (.aload_n 0, 1) := by decide +kernel
theorem dX4_isDigitUpTo_16 : decode cX4_isDigitUpTo 16 = .ok (.getfield 32, 3) := by decide +kernel
theorem dX4_isDigitUpTo_19 : decode cX4_isDigitUpTo 19 = .ok (.caload, 1) := by decide +kernel
theorem dX4_isDigitUpTo_20 : decode cX4_isDigitUpTo 20 = .ok (.bipush 48, 2) := by decide +kernel
theorem dX4_isDigitUpTo_22 : decode cX4_isDigitUpTo 22 = .ok (.if_icmp .lt 23, 3) := by decide +kernel
theorem dX4_isDigitUpTo_25 : decode cX4_isDigitUpTo 25 = .ok (.aload_n 0, 1) := by decide +kernel
theorem dX4_isDigitUpTo_26 : decode cX4_isDigitUpTo 26 = .ok (.getfield 9, 3) := by decide +kernel
theorem dX4_isDigitUpTo_29 : decode cX4_isDigitUpTo 29 = .ok (.aload_n 0, 1) := by decide +kernel
theorem dX4_isDigitUpTo_30 : decode cX4_isDigitUpTo 30 = .ok (.getfield 32, 3) := by decide +kernel
theorem dX4_isDigitUpTo_33 : decode cX4_isDigitUpTo 33 = .ok (.caload, 1) := by decide +kernel
theorem dX4_isDigitUpTo_34 : decode cX4_isDigitUpTo 34 = .ok (.bipush 48, 2) := by decide +kernel
theorem dX4_isDigitUpTo_36 : decode cX4_isDigitUpTo 36 = .ok (.isub, 1) := by decide +kernel
theorem dX4_isDigitUpTo_37 : decode cX4_isDigitUpTo 37 = .ok (.iload_n 1, 1) := by decide +kernel
theorem dX4_isDigitUpTo_38 : decode cX4_isDigitUpTo 38 = .ok (.if_icmp .gt 7, 3) := by decide +kernel
theorem dX4_isDigitUpTo_41 : decode cX4_isDigitUpTo 41 = .ok (.iconst 1, 1) := by decide +kernel
theorem dX4_isDigitUpTo_42 : decode cX4_isDigitUpTo 42 = .ok (.goto 4, 3) := by decide +kernel
theorem dX4_isDigitUpTo_45 : decode cX4_isDigitUpTo 45 = .ok (.iconst 0, 1) := by decide +kernel
theorem dX4_isDigitUpTo_46 : decode cX4_isDigitUpTo 46 = .ok (.ireturn, 1) := by decide +kernel
set_option maxRecDepth 20000 in
theorem ggX4_takeNumber_X4_isDigitUpTo : GoodIn wsX4_takeNumber wsX4_isDigitUpTo := goodIn_r _ [8, 1, 2, 3, 9, 10, 11, 12, 13, 14, 15, 16] (by decide +kernel) (by decide +kernel)
set_option maxRecDepth 20000 in
theorem gX4_takeNumber_X4_isDigitUpTo : GoodIn wsX4_takeNumber (wsV RX4 46 RX4 yX4_isDigitUpTo wsX4_isDigitUpTo) := goodIn_app (goodIn_of _ (by decide +kernel)) ggX4_takeNumber_X4_isDigitUpTo
theorem dX4_takeNumber_0 : decode cX4_takeNumber 0 = .ok (.iconst 0, 1) := by decide +kernel
theorem dX4_takeNumber_1 : decode cX4_takeNumber 1 = .ok (.istore_n 2, 1) := by decide +kernel
theorem dX4_takeNumber_2 : decode cX4_takeNumber 2 = .ok (.aload_n 0, 1) := by decide +kernel
theorem dX4_takeNumber_3 : decode cX4_takeNumber 3 = .ok (.getfield 32, 3) := by decide +kernel
theorem dX4_takeNumber_6 : decode cX4_takeNumber 6 = .ok (.istore_n 3, 1) := by decide +kernel
theorem dX4_takeNumber_7 : decode cX4_takeNumber 7 = .ok (.aload_n 0, 1) := by decide +kernel
theorem dX4_takeNumber_8 : decode cX4_takeNumber 8 = .ok (.getfield 32, 3) := by decide +kernel
theorem dX4_takeNumber_11 : decode cX4_takeNumber 11 = .ok (.aload_n 0, 1) := by decide +kernel
theorem dX4_takeNumber_12 : decode cX4_takeNumber 12 = .ok (.getfield 28, 3) := by decide +kernel
theorem dX4_takeNumber_15 : decode cX4_takeNumber 15 = .ok (.if_icmp .ge 68, 3) := by decide +kernel
theorem dX4_takeNumber_18 : decode cX4_takeNumber 18 = .ok (.aload_n 0, 1) := by decide +kernel
theorem dX4_takeNumber_19 : decode cX4_takeNumber 19 = .ok (.bipush 9, 2) := by decide +kernel
theorem dX4_takeNumber_21 : decode cX4_takeNumber 21 = .ok (.invokevirtual 46, 3) := by decide +kernel
theorem dX4_takeNumber_24 : decode cX4_takeNumber 24 = .ok (.ifCond .eq 59, 3) := by decide +kernel
theorem dX4_takeNumber_27 : decode cX4_takeNumber 27 = .ok (.iload_n 2, 1) := by decide +kernel
theorem dX4_takeNumber_28 : decode cX4_takeNumber 28 = .ok (.ifCond .gt 11, 3) := by decide +kernel
theorem dX4_takeNumber_31 : decode cX4_takeNumber 31 = .ok (.aload_n 0, 1) := by decide +kernel
theorem dX4_takeNumber_32 : decode cX4_takeNumber 32 = .ok (.getfield 32, 3) := by decide +kernel
theorem dX4_takeNumber_35 : decode cX4_takeNumber 35 = .ok (.iload_n 3, 1) := by decide +kernel
theorem dX4_takeNumber_36 : decode cX4_takeNumber 36 = .ok (.if_icmp .ne 47, 3) := by decide +kernel
theorem dX4_takeNumber_39 : decode cX4_takeNumber 39 = .ok (.bipush 10, 2) := by decide +kernel
theorem dX4_takeNumber_41 : decode cX4_takeNumber 41 = .ok (.iload_n 2, 1) := by decide +kernel
theorem dX4_takeNumber_42 : decode cX4_takeNumber 42 = .ok (.imul, 1) := by decide +kernel
theorem dX4_takeNumber_43 : decode cX4_takeNumber 43 = .ok (.aload_n 0, 1) := by decide +kernel
theorem dX4_takeNumber_44 : decode cX4_takeNumber 44 = .ok (.getfield 9, 3) := by decide +kernel
theorem dX4_takeNumber_47 : decode cX4_takeNumber 47 = .ok (.aload_n 0, 1) := by decide +kernel
theorem dX4_takeNumber_48 : decode cX4_takeNumber 48 = .ok (.getfield 32, 3) := by decide +kernel
theorem dX4_takeNumber_51 : decode cX4_takeNumber 51 = .ok (.caload, 1) := by decide +kernel
theorem dX4_takeNumber_52 : decode cX4_takeNumber 52 = .ok (.iadd, 1) := by decide +kernel
theorem dX4_takeNumber_53 : decode cX4_takeNumber 53 = .ok (.bipush 48, 2) := by decide +kernel
theorem dX4_takeNumber_55 : decode cX4_takeNumber 55 = .ok (.isub, 1) := by decide +kernel
theorem dX4_takeNumber_56 : decode cX4_takeNumber 56 = .ok (.istore 4, 2) := by decide +kernel
theorem dX4_takeNumber_58 : decode cX4_takeNumber 58 = .ok (.iload 4, 2) := by decide +kernel
theorem dX4_takeNumber_60 : decode cX4_takeNumber 60 = .ok (.iload_n 1, 1) := by decide +kernel
theorem dX4_takeNumber_61 : decode cX4_takeNumber 61 = .ok (.if_icmp .le 6, 3) := by decide +kernel
theorem dX4_takeNumber_64 : decode cX4_takeNumber 64 = .ok (.goto 19, 3) := by decide +kernel
theorem dX4_takeNumber_67 : decode cX4_takeNumber 67 = .ok (.iload 4, 2) := by decide +kernel
theorem dX4_takeNumber_69 : decode cX4_takeNumber 69 = .ok (.istore_n 2, 1) := by decide +kernel
theorem dX4_takeNumber_70 : decode cX4_takeNumber 70 = .ok (.aload_n 0, 1) := by decide +kernel
theorem dX4_takeNumber_71 : decode cX4_takeNumber 71 = .ok (.dup, 1) := by decide +kernel
theorem dX4_takeNumber_72 : decode cX4_takeNumber 72 = .ok (.getfield 32, 3) := by decide +kernel
theorem dX4_takeNumber_75 : decode cX4_takeNumber 75 = .ok (.iconst 1, 1) := by decide +kernel
theorem dX4_takeNumber_76 : decode cX4_takeNumber 76 = .ok (.iadd, 1) := by decide +kernel
theorem dX4_takeNumber_77 : decode cX4_takeNumber 77 = .ok (.putfield 32, 3) := by decide +kernel
theorem dX4_takeNumber_80 : decode cX4_takeNumber 80 = .ok (.goto (-73), 3) := by decide +kernel
theorem dX4_takeNumber_83 : decode cX4_takeNumber 83 = .ok (.iload_n 2, 1) := by decide +kernel
theorem dX4_takeNumber_84 : decode cX4_takeNumber 84 = .ok (.ireturn, 1) := by decide +kernel
theorem dX4_isReading_0 : decode cX4_isReading 0 = .ok (.aload_n 0, 1) := by decide +kernel
theorem dX4_isReading_1 : decode cX4_isReading 1 = .ok (.getfield 15, 3) := by decide +kernel
theorem dX4_isReading_4 : decode cX4_isReading 4 = .ok (.iload_n 1, 1) := by decide +kernel
theorem dX4_isReading_5 : decode cX4_isReading 5 = .ok (.caload, 1) := by decide +kernel
theorem dX4_isReading_6 : decode cX4_isReading 6 = .ok (.bipush 114, 2) := by decide +kernel
theorem dX4_isReading_8 : decode cX4_isReading 8 = .ok (.if_icmp .ne 7, 3) := by decide +kernel
theorem dX4_isReading_11 : decode cX4_isReading 11 = .ok (.iconst 1, 1) := by decide +kernel
theorem dX4_isReading_12 : decode cX4_isReading 12 = .ok (.goto 4, 3) := by decide +kernel
theorem dX4_isReading_15 : decode cX4_isReading 15 = .ok (.iconst 0, 1) := by decide +kernel
theorem dX4_isReading_16 : decode cX4_isReading 16 = .ok (.ireturn, 1) := by decide +kernel
set_option maxRecDepth 20000 in
theorem ggX4_runCommand_X3_readLine : GoodIn wsX4_runCommand wsX3_readLine := goodIn_r _ [9, 10, 11, 12, 13, 14, 15, 16, 17, 18, 19, 20, 21, 22, 23, 24, 25, 26, 27, 28, 29, 30, 31, 32, 33, 34, 35, 36, 37, 38, 39, 40, 41, 42, 43, 44, 45, 46, 47, 48, 49, 50, 8, 51, 52, 53, 54, 55, 56, 57, 58, 59, 60, 61, 62, 63, 64, 65, 66, 67, 68, 69, 70, 71, 72, 73, 74, 75, 76, 77, 78, 79, 80, 81, 82, 83, 84, 85, 86, 87, 88, 89, 90, 91, 92, 93, 94, 95, 96, 97, 98, 99, 100, 101, 102, 103, 104, 105, 106, 107, 108, 109, 155, 156, 157, 158, 159, 160, 161, 162, 163, 164, 165, 166, 167, 168] (by decide +kernel) (by decide +kernel)
set_option maxRecDepth 20000 in
theorem gX4_runCommand_X3_readLine : GoodIn wsX4_runCommand (wsV RX4 56 RX3 yX3_readLine wsX3_readLine) := goodIn_app (goodIn_of _ (by decide +kernel)) ggX4_runCommand_X3_readLine
set_option maxRecDepth 20000 in
theorem ggX4_runCommand_X3_writeLine : GoodIn wsX4_runCommand wsX3_writeLine := goodIn_r _ [113, 10, 114, 115, 116, 117, 16, 118, 76, 47, 19, 20, 21, 22, 23, 15, 17, 119, 120, 121, 8, 122, 24, 25, 26, 27, 28, 29, 30, 31, 32, 33, 34, 35, 36, 37, 38, 39, 40, 41, 42, 43, 44, 45, 46, 18, 59, 60, 61, 62, 63, 64, 65, 66, 67, 68, 69, 70, 71, 72, 73, 74, 75, 84, 85, 86, 87, 88, 14, 55, 56, 57, 58, 52, 48, 49, 50, 51, 53, 13, 12, 54, 77, 78, 79, 80, 81, 82, 83, 89, 90, 91, 92, 93, 94, 95, 96, 97, 98, 99, 100, 101, 102, 103, 104, 11, 105, 106, 107, 108, 109, 155, 156, 157, 158, 159, 160, 161, 162, 163, 164, 165, 166, 167, 168] (by decide +kernel) (by decide +kernel)
set_option maxRecDepth 20000 in
theorem gX4_runCommand_X3_writeLine : GoodIn wsX4_runCommand (wsV RX4 62 RX3 yX3_writeLine wsX3_writeLine) := goodIn_app (goodIn_of _ (by decide +kernel)) ggX4_runCommand_X3_writeLine
set_option maxRecDepth 20000 in
theorem ggX4_runCommand_X3_dropLine : GoodIn wsX4_runCommand wsX3_dropLine := goodIn_r _ [126, 10, 18, 19, 20, 16, 21, 22, 23, 15, 17, 115, 116, 117, 118, 76, 47, 14, 55, 56, 57, 8, 58, 52, 48, 49, 50, 51, 53, 13, 12, 54, 59, 60, 61, 62, 28, 63, 64, 65, 33, 66, 41, 42, 43, 67, 68, 69, 70, 71, 35, 44, 45, 46, 72, 73, 74, 75, 155, 156, 157, 158, 159, 160, 161, 162, 163, 164, 165, 166, 167, 168] (by decide +kernel) (by decide +kernel)
set_option maxRecDepth 20000 in
theorem gX4_runCommand_X3_dropLine : GoodIn wsX4_runCommand (wsV RX4 66 RX3 yX3_dropLine wsX3_dropLine) := goodIn_app (goodIn_of _ (by decide +kernel)) ggX4_runCommand_X3_dropLine
set_option maxRecDepth 20000 in
theorem ggX4_runCommand_X3_forgetOnPurpose : GoodIn wsX4_runCommand wsX3_forgetOnPurpose := goodIn_r _ [130, 10, 131, 132, 133, 16, 134, 28, 135, 136, 137, 138, 22, 139, 98, 99, 33, 100, 35, 140, 141, 142, 143, 40, 144, 145, 146, 101, 102, 103, 8, 104, 52, 81, 11, 48, 49, 50, 51, 53, 13, 12, 54, 105, 73, 74, 75, 76, 106, 107, 108, 109, 71, 155, 156, 157, 158, 159, 160, 161, 162, 163, 164, 165, 166, 167, 168] (by decide +kernel) (by decide +kernel)
set_option maxRecDepth 20000 in
theorem gX4_runCommand_X3_forgetOnPurpose : GoodIn wsX4_runCommand (wsV RX4 69 RX3 yX3_forgetOnPurpose wsX3_forgetOnPurpose) := goodIn_app (goodIn_of _ (by decide +kernel)) ggX4_runCommand_X3_forgetOnPurpose
theorem dX4_runCommand_0 : decode cX4_runCommand 0 = .ok (.aload_n 0, 1) := by decide +kernel
theorem dX4_runCommand_1 : decode cX4_runCommand 1 = .ok (.getfield 18, 3) := by decide +kernel
theorem dX4_runCommand_4 : decode cX4_runCommand 4 = .ok (.iload_n 1, 1) := by decide +kernel
theorem dX4_runCommand_5 : decode cX4_runCommand 5 = .ok (.iaload, 1) := by decide +kernel
theorem dX4_runCommand_6 : decode cX4_runCommand 6 = .ok (.istore_n 3, 1) := by decide +kernel
theorem dX4_runCommand_7 : decode cX4_runCommand 7 = .ok (.aload_n 0, 1) := by decide +kernel
theorem dX4_runCommand_8 : decode cX4_runCommand 8 = .ok (.getfield 22, 3) := by decide +kernel
theorem dX4_runCommand_11 : decode cX4_runCommand 11 = .ok (.iload_n 1, 1) := by decide +kernel
theorem dX4_runCommand_12 : decode cX4_runCommand 12 = .ok (.iaload, 1) := by decide +kernel
theorem dX4_runCommand_13 : decode cX4_runCommand 13 = .ok (.istore 4, 2) := by decide +kernel
theorem dX4_runCommand_15 : decode cX4_runCommand 15 = .ok (.aload_n 0, 1) := by decide +kernel
theorem dX4_runCommand_16 : decode cX4_runCommand 16 = .ok (.getfield 15, 3) := by decide +kernel
theorem dX4_runCommand_19 : decode cX4_runCommand 19 = .ok (.iload_n 1, 1) := by decide +kernel
theorem dX4_runCommand_20 : decode cX4_runCommand 20 = .ok (.caload, 1) := by decide +kernel
theorem dX4_runCommand_21 : decode cX4_runCommand 21 = .ok (.istore 5, 2) := by decide +kernel
theorem dX4_runCommand_23 : decode cX4_runCommand 23 = .ok (.iload 5, 2) := by decide +kernel
theorem dX4_runCommand_25 : decode cX4_runCommand 25 = .ok (.bipush 114, 2) := by decide +kernel
theorem dX4_runCommand_27 : decode cX4_runCommand 27 = .ok (.if_icmp .ne 11, 3) := by decide +kernel
theorem dX4_runCommand_30 : decode cX4_runCommand 30 = .ok (.aload_n 2, 1) := by decide +kernel
theorem dX4_runCommand_31 : decode cX4_runCommand 31 = .ok (.iload_n 3, 1) := by decide +kernel
theorem dX4_runCommand_32 : decode cX4_runCommand 32 = .ok (.iload 4, 2) := by decide +kernel
theorem dX4_runCommand_34 : decode cX4_runCommand 34 = .ok (.invokevirtual 56, 3) := by decide +kernel
theorem dX4_runCommand_37 : decode cX4_runCommand 37 = .ok (.ireturn, 1) := by decide +kernel
theorem dX4_runCommand_38 : decode cX4_runCommand 38 = .ok (.iload 5, 2) := by decide +kernel
theorem dX4_runCommand_40 : decode cX4_runCommand 40 = .ok (.bipush 119, 2) := by decide +kernel
theorem dX4_runCommand_42 : decode cX4_runCommand 42 = .ok (.if_icmp .ne 17, 3) := by decide +kernel
theorem dX4_runCommand_45 : decode cX4_runCommand 45 = .ok (.aload_n 2, 1) := by decide +kernel
theorem dX4_runCommand_46 : decode cX4_runCommand 46 = .ok (.iload_n 3, 1) := by decide +kernel
theorem dX4_runCommand_47 : decode cX4_runCommand 47 = .ok (.iload 4, 2) := by decide +kernel
theorem dX4_runCommand_49 : decode cX4_runCommand 49 = .ok (.aload_n 0, 1) := by decide +kernel
theorem dX4_runCommand_50 : decode cX4_runCommand 50 = .ok (.getfield 25, 3) := by decide +kernel
theorem dX4_runCommand_53 : decode cX4_runCommand 53 = .ok (.iload_n 1, 1) := by decide +kernel
theorem dX4_runCommand_54 : decode cX4_runCommand 54 = .ok (.iaload, 1) := by decide +kernel
theorem dX4_runCommand_55 : decode cX4_runCommand 55 = .ok (.invokevirtual 62, 3) := by decide +kernel
theorem dX4_runCommand_58 : decode cX4_runCommand 58 = .ok (.ireturn, 1) := by decide +kernel
theorem dX4_runCommand_59 : decode cX4_runCommand 59 = .ok (.iload 5, 2) := by decide +kernel
theorem dX4_runCommand_61 : decode cX4_runCommand 61 = .ok (.bipush 100, 2) := by decide +kernel
theorem dX4_runCommand_63 : decode cX4_runCommand 63 = .ok (.if_icmp .ne 13, 3) := by decide +kernel
theorem dX4_runCommand_66 : decode cX4_runCommand 66 = .ok (.aload_n 2, 1) := by decide +kernel
theorem dX4_runCommand_67 : decode cX4_runCommand 67 = .ok (.iload_n 3, 1) := by decide +kernel
theorem dX4_runCommand_68 : decode cX4_runCommand 68 = .ok (.iload 4, 2) := by decide +kernel
theorem dX4_runCommand_70 : decode cX4_runCommand 70 = .ok (.invokevirtual 66, 3) := by decide +kernel
theorem dX4_runCommand_73 : decode cX4_runCommand 73 = .ok (.goto 8, 3) := by decide +kernel
theorem dX4_runCommand_76 : decode cX4_runCommand 76 = .ok (.aload_n 2, 1) := by decide +kernel
theorem dX4_runCommand_77 : decode cX4_runCommand 77 = .ok (.iload_n 3, 1) := by decide +kernel
theorem dX4_runCommand_78 : decode cX4_runCommand 78 = .ok (.invokevirtual 69, 3) := by decide +kernel
theorem dX4_runCommand_81 : decode cX4_runCommand 81 = .ok (.ireturn, 1) := by decide +kernel
set_option maxRecDepth 20000 in
theorem ggX5_init_X3_init : GoodIn wsX5_init wsX3_init := goodIn_r _ [20, 21, 2, 3, 22, 23, 24, 25, 26, 27, 28, 29, 30, 31, 32, 33, 34, 35, 36, 37, 38, 39, 40, 41, 42, 43, 44, 45, 46, 47, 48, 65, 66, 67, 68, 69, 70, 91, 92, 93, 94, 95, 96, 97, 98] (by decide +kernel) (by decide +kernel)
set_option maxRecDepth 20000 in
theorem gX5_init_X3_init : GoodIn wsX5_init (wsX3_init) := ggX5_init_X3_init
set_option maxRecDepth 20000 in
theorem ggX5_init_X2_init : GoodIn wsX5_init wsX2_init := goodIn_r _ [51, 52, 2, 3, 53, 54, 5, 6, 55, 19, 20, 21, 22, 23, 24, 25, 26, 27, 28, 29, 30, 31, 32, 33, 34, 35, 36, 37, 38, 39, 40, 41, 42, 43, 44, 45, 46, 47, 48, 80, 81, 82, 65, 66, 67, 68, 69, 70, 91, 92, 93, 94, 95, 96, 97, 98] (by decide +kernel) (by decide +kernel)
set_option maxRecDepth 20000 in
theorem gX5_init_X2_init : GoodIn wsX5_init (wsX2_init) := ggX5_init_X2_init
set_option maxRecDepth 20000 in
theorem ggX5_init_X4_init : GoodIn wsX5_init wsX4_init := goodIn_r _ [57, 58, 2, 3, 59, 60, 61, 22, 62, 63, 64, 83, 84, 85, 86, 87, 88, 89, 90] (by decide +kernel) (by decide +kernel)
set_option maxRecDepth 20000 in
theorem gX5_init_X4_init_n31 : GoodIn wsX5_init (wsX4_init) := ggX5_init_X4_init
theorem dX5_init_0 : decode cX5_init 0 = .ok (.aload_n 0, 1) := by decide +kernel
theorem dX5_init_1 : decode cX5_init 1 = .ok (.invokespecial 3, 3) := by decide +kernel
theorem dX5_init_4 : decode cX5_init 4 = .ok (.aload_n 0, 1) := by decide +kernel
theorem dX5_init_5 : decode cX5_init 5 = .ok (.new 9, 3) := by decide +kernel
theorem dX5_init_8 : decode cX5_init 8 = .ok (.dup, 1) := by decide +kernel
theorem dX5_init_9 : decode cX5_init 9 = .ok (.invokespecial 11, 3) := by decide +kernel
theorem dX5_init_12 : decode cX5_init 12 = .ok (.putfield 12, 3) := by decide +kernel
theorem dX5_init_15 : decode cX5_init 15 = .ok (.aload_n 0, 1) := by decide +kernel
theorem dX5_init_16 : decode cX5_init 16 = .ok (.new 9, 3) := by decide +kernel
theorem dX5_init_19 : decode cX5_init 19 = .ok (.dup, 1) := by decide +kernel
theorem dX5_init_20 : decode cX5_init 20 = .ok (.invokespecial 11, 3) := by decide +kernel
theorem dX5_init_23 : decode cX5_init 23 = .ok (.putfield 16, 3) := by decide +kernel
theorem dX5_init_26 : decode cX5_init 26 = .ok (.aload_n 0, 1) := by decide +kernel
theorem dX5_init_27 : decode cX5_init 27 = .ok (.new 9, 3) := by decide +kernel
theorem dX5_init_30 : decode cX5_init 30 = .ok (.dup, 1) := by decide +kernel
theorem dX5_init_31 : decode cX5_init 31 = .ok (.invokespecial 11, 3) := by decide +kernel
theorem dX5_init_34 : decode cX5_init 34 = .ok (.putfield 19, 3) := by decide +kernel
theorem dX5_init_37 : decode cX5_init 37 = .ok (.aload_n 0, 1) := by decide +kernel
theorem dX5_init_38 : decode cX5_init 38 = .ok (.new 22, 3) := by decide +kernel
theorem dX5_init_41 : decode cX5_init 41 = .ok (.dup, 1) := by decide +kernel
theorem dX5_init_42 : decode cX5_init 42 = .ok (.invokespecial 24, 3) := by decide +kernel
theorem dX5_init_45 : decode cX5_init 45 = .ok (.putfield 25, 3) := by decide +kernel
theorem dX5_init_48 : decode cX5_init 48 = .ok (.aload_n 0, 1) := by decide +kernel
theorem dX5_init_49 : decode cX5_init 49 = .ok (.new 29, 3) := by decide +kernel
theorem dX5_init_52 : decode cX5_init 52 = .ok (.dup, 1) := by decide +kernel
theorem dX5_init_53 : decode cX5_init 53 = .ok (.invokespecial 31, 3) := by decide +kernel
theorem dX5_init_56 : decode cX5_init 56 = .ok (.putfield 32, 3) := by decide +kernel
theorem dX5_init_59 : decode cX5_init 59 = .ok (.return_, 1) := by decide +kernel
set_option maxRecDepth 20000 in
theorem ggX5_read_X5_isCore : GoodIn wsX5_read wsX5_isCore := goodIn_r _ [6, 7, 8, 5, 9] (by decide +kernel) (by decide +kernel)
set_option maxRecDepth 20000 in
theorem gX5_read_X5_isCore : GoodIn wsX5_read (va_wsS RX5 36 yX5_isCore wsX5_isCore) := goodIn_app (goodIn_of _ (by decide +kernel)) ggX5_read_X5_isCore
set_option maxRecDepth 20000 in
theorem ggX5_read_X5_isLine : GoodIn wsX5_read wsX5_isLine := goodIn_r _ [12, 7, 8, 5, 9] (by decide +kernel) (by decide +kernel)
set_option maxRecDepth 20000 in
theorem gX5_read_X5_isLine : GoodIn wsX5_read (va_wsS RX5 40 yX5_isLine wsX5_isLine) := goodIn_app (goodIn_of _ (by decide +kernel)) ggX5_read_X5_isLine
set_option maxRecDepth 20000 in
theorem ggX5_read_X2_record : GoodIn wsX5_read wsX2_record := goodIn_r _ [17, 18, 19, 20, 21, 22, 23, 24, 25, 26, 27, 28, 29, 30, 31, 32, 33, 34, 35, 36, 37, 38, 39, 40, 41, 42, 43, 44, 45, 46, 47, 48, 49, 50, 51, 52, 53, 54, 55, 154, 155, 156, 157, 158, 159, 160, 161, 162, 163, 164, 165, 166, 167, 168, 169, 170] (by decide +kernel) (by decide +kernel)
set_option maxRecDepth 20000 in
theorem gX5_read_X2_record : GoodIn wsX5_read (wsV RX5 43 RX2 yX2_record wsX2_record) := goodIn_app (goodIn_of _ (by decide +kernel)) ggX5_read_X2_record
set_option maxRecDepth 20000 in
theorem ggX5_read_X3_readLine : GoodIn wsX5_read wsX3_readLine := goodIn_r _ [59, 31, 60, 61, 26, 62, 63, 39, 64, 65, 66, 67, 68, 41, 69, 70, 71, 72, 73, 46, 45, 74, 75, 76, 50, 77, 52, 78, 79, 80, 81, 55, 82, 83, 84, 85, 86, 87, 88, 89, 90, 91, 24, 92, 93, 94, 34, 95, 96, 97, 98, 99, 100, 101, 102, 103, 104, 105, 106, 107, 108, 109, 110, 54, 111, 112, 113, 114, 44, 115, 116, 117, 118, 119, 32, 33, 120, 121, 122, 123, 43, 124, 125, 126, 127, 128, 129, 130, 131, 132, 133, 134, 135, 136, 137, 138, 139, 140, 141, 142, 143, 144, 157, 158, 159, 160, 161, 162, 163, 164, 165, 166, 167, 168, 169, 170] (by decide +kernel) (by decide +kernel)
set_option maxRecDepth 20000 in
theorem gX5_read_X3_readLine : GoodIn wsX5_read (wsV RX5 47 RX3 yX3_readLine wsX3_readLine) := goodIn_app (goodIn_of _ (by decide +kernel)) ggX5_read_X3_readLine
theorem dX5_read_0 : decode cX5_read 0 = .ok (.iload_n 1, 1) := by decide +kernel
theorem dX5_read_1 : decode cX5_read 1 = .ok (.invokestatic 36, 3) := by decide +kernel
theorem dX5_read_4 : decode cX5_read 4 = .ok (.ifCond .eq 10, 3) := by decide +kernel
theorem dX5_read_7 : decode cX5_read 7 = .ok (.iload_n 2, 1) := by decide +kernel
theorem dX5_read_8 : decode cX5_read 8 = .ok (.invokestatic 40, 3) := by decide +kernel
theorem dX5_read_11 : decode cX5_read 11 = .ok (.ifCond .ne 5, 3) := by decide +kernel
theorem dX5_read_14 : decode cX5_read 14 = .ok (.iconst (-1), 1) := by decide +kernel
theorem dX5_read_15 : decode cX5_read 15 = .ok (.ireturn, 1) := by decide +kernel
theorem dX5_read_16 : decode cX5_read 16 = .ok (.aload_n 0, 1) := by decide +kernel
theorem dX5_read_17 : decode cX5_read 17 = .ok (.getfield 25, 3) := by decide +kernel
theorem dX5_read_20 : decode cX5_read 20 = .ok (.aload_n 0, 1) := by decide +kernel
theorem dX5_read_21 : decode cX5_read 21 = .ok (.getfield 12, 3) := by decide +kernel
theorem dX5_read_24 : decode cX5_read 24 = .ok (.invokevirtual 43, 3) := by decide +kernel
theorem dX5_read_27 : decode cX5_read 27 = .ok (.aload_n 0, 1) := by decide +kernel
theorem dX5_read_28 : decode cX5_read 28 = .ok (.getfield 12, 3) := by decide +kernel
theorem dX5_read_31 : decode cX5_read 31 = .ok (.iload_n 1, 1) := by decide +kernel
theorem dX5_read_32 : decode cX5_read 32 = .ok (.iload_n 2, 1) := by decide +kernel
theorem dX5_read_33 : decode cX5_read 33 = .ok (.invokevirtual 47, 3) := by decide +kernel
theorem dX5_read_36 : decode cX5_read 36 = .ok (.ireturn, 1) := by decide +kernel
set_option maxRecDepth 20000 in
theorem ggX5_write_X5_isCore : GoodIn wsX5_write wsX5_isCore := goodIn_r _ [6, 7, 8, 5, 9] (by decide +kernel) (by decide +kernel)
set_option maxRecDepth 20000 in
theorem gX5_write_X5_isCore : GoodIn wsX5_write (va_wsS RX5 36 yX5_isCore wsX5_isCore) := goodIn_app (goodIn_of _ (by decide +kernel)) ggX5_write_X5_isCore
set_option maxRecDepth 20000 in
theorem ggX5_write_X5_isLine : GoodIn wsX5_write wsX5_isLine := goodIn_r _ [12, 7, 8, 5, 9] (by decide +kernel) (by decide +kernel)
set_option maxRecDepth 20000 in
theorem gX5_write_X5_isLine : GoodIn wsX5_write (va_wsS RX5 40 yX5_isLine wsX5_isLine) := goodIn_app (goodIn_of _ (by decide +kernel)) ggX5_write_X5_isLine
set_option maxRecDepth 20000 in
theorem ggX5_write_X5_isWithin : GoodIn wsX5_write wsX5_isWithin := goodIn_r _ [9] (by decide +kernel) (by decide +kernel)
set_option maxRecDepth 20000 in
theorem gX5_write_X5_isWithin : GoodIn wsX5_write (va_wsS RX5 51 yX5_isWithin wsX5_isWithin) := goodIn_app (goodIn_of _ (by decide +kernel)) ggX5_write_X5_isWithin
set_option maxRecDepth 20000 in
theorem ggX5_write_X2_record : GoodIn wsX5_write wsX2_record := goodIn_r _ [17, 18, 19, 20, 21, 22, 23, 24, 25, 26, 27, 28, 29, 30, 31, 32, 33, 34, 35, 36, 37, 38, 39, 40, 41, 42, 43, 44, 45, 46, 47, 48, 49, 50, 51, 52, 53, 54, 55, 162, 163, 164, 165, 166, 167, 168, 169, 170, 171, 172, 173, 174, 175, 176, 177, 178] (by decide +kernel) (by decide +kernel)
set_option maxRecDepth 20000 in
theorem gX5_write_X2_record : GoodIn wsX5_write (wsV RX5 43 RX2 yX2_record wsX2_record) := goodIn_app (goodIn_of _ (by decide +kernel)) ggX5_write_X2_record
set_option maxRecDepth 20000 in
theorem ggX5_write_X3_writeLine : GoodIn wsX5_write wsX3_writeLine := goodIn_r _ [59, 31, 35, 60, 61, 62, 39, 63, 44, 64, 65, 66, 67, 41, 68, 69, 70, 71, 72, 73, 24, 74, 75, 76, 77, 78, 46, 45, 79, 80, 81, 50, 82, 52, 83, 84, 85, 86, 55, 87, 88, 89, 90, 91, 92, 93, 94, 95, 96, 97, 98, 99, 100, 101, 102, 103, 104, 105, 54, 106, 107, 108, 109, 110, 111, 112, 113, 43, 114, 115, 116, 117, 118, 119, 120, 121, 122, 123, 124, 26, 125, 34, 126, 127, 128, 129, 130, 32, 33, 131, 132, 133, 134, 135, 136, 137, 138, 139, 140, 141, 142, 143, 144, 145, 146, 147, 148, 149, 150, 151, 152, 165, 166, 167, 168, 169, 170, 171, 172, 173, 174, 175, 176, 177, 178] (by decide +kernel) (by decide +kernel)
set_option maxRecDepth 20000 in
theorem gX5_write_X3_writeLine : GoodIn wsX5_write (wsV RX5 55 RX3 yX3_writeLine wsX3_writeLine) := goodIn_app (goodIn_of _ (by decide +kernel)) ggX5_write_X3_writeLine
theorem dX5_write_0 : decode cX5_write 0 = .ok (.iload_n 1, 1) := by decide +kernel
theorem dX5_write_1 : decode cX5_write 1 = .ok (.invokestatic 36, 3) := by decide +kernel
theorem dX5_write_4 : decode cX5_write 4 = .ok (.ifCond .eq 10, 3) := by decide +kernel
theorem dX5_write_7 : decode cX5_write 7 = .ok (.iload_n 2, 1) := by decide +kernel
theorem dX5_write_8 : decode cX5_write 8 = .ok (.invokestatic 40, 3) := by decide +kernel
theorem dX5_write_11 : decode cX5_write 11 = .ok (.ifCond .ne 5, 3) := by decide +kernel
theorem dX5_write_14 : decode cX5_write 14 = .ok (.iconst (-1), 1) := by decide +kernel
theorem dX5_write_15 : decode cX5_write 15 = .ok (.ireturn, 1) := by decide +kernel
theorem dX5_write_16 : decode cX5_write 16 = .ok (.iload_n 3, 1) := by decide +kernel
theorem dX5_write_17 : decode cX5_write 17 = .ok (.iconst 0, 1) := by decide +kernel
theorem dX5_write_18 : decode cX5_write 18 = .ok (.sipush 9999, 3) := by decide +kernel
theorem dX5_write_21 : decode cX5_write 21 = .ok (.invokestatic 51, 3) := by decide +kernel
theorem dX5_write_24 : decode cX5_write 24 = .ok (.ifCond .ne 6, 3) := by decide +kernel
theorem dX5_write_27 : decode cX5_write 27 = .ok (.bipush (-2), 2) := by decide +kernel
theorem dX5_write_29 : decode cX5_write 29 = .ok (.ireturn, 1) := by decide +kernel
theorem dX5_write_30 : decode cX5_write 30 = .ok (.aload_n 0, 1) := by decide +kernel
theorem dX5_write_31 : decode cX5_write 31 = .ok (.getfield 25, 3) := by decide +kernel
theorem dX5_write_34 : decode cX5_write 34 = .ok (.aload_n 0, 1) := by decide +kernel
theorem dX5_write_35 : decode cX5_write 35 = .ok (.getfield 12, 3) := by decide +kernel
theorem dX5_write_38 : decode cX5_write 38 = .ok (.invokevirtual 43, 3) := by decide +kernel
theorem dX5_write_41 : decode cX5_write 41 = .ok (.aload_n 0, 1) := by decide +kernel
theorem dX5_write_42 : decode cX5_write 42 = .ok (.getfield 12, 3) := by decide +kernel
theorem dX5_write_45 : decode cX5_write 45 = .ok (.iload_n 1, 1) := by decide +kernel
theorem dX5_write_46 : decode cX5_write 46 = .ok (.iload_n 2, 1) := by decide +kernel
theorem dX5_write_47 : decode cX5_write 47 = .ok (.iload_n 3, 1) := by decide +kernel
theorem dX5_write_48 : decode cX5_write 48 = .ok (.invokevirtual 55, 3) := by decide +kernel
theorem dX5_write_51 : decode cX5_write 51 = .ok (.ireturn, 1) := by decide +kernel
set_option maxRecDepth 20000 in
theorem ggX5_drop_X5_isCore : GoodIn wsX5_drop wsX5_isCore := goodIn_r _ [7, 8, 9, 6, 10] (by decide +kernel) (by decide +kernel)
set_option maxRecDepth 20000 in
theorem gX5_drop_X5_isCore : GoodIn wsX5_drop (va_wsS RX5 36 yX5_isCore wsX5_isCore) := goodIn_app (goodIn_of _ (by decide +kernel)) ggX5_drop_X5_isCore
set_option maxRecDepth 20000 in
theorem ggX5_drop_X5_isLine : GoodIn wsX5_drop wsX5_isLine := goodIn_r _ [13, 8, 9, 6, 10] (by decide +kernel) (by decide +kernel)
set_option maxRecDepth 20000 in
theorem gX5_drop_X5_isLine : GoodIn wsX5_drop (va_wsS RX5 40 yX5_isLine wsX5_isLine) := goodIn_app (goodIn_of _ (by decide +kernel)) ggX5_drop_X5_isLine
set_option maxRecDepth 20000 in
theorem ggX5_drop_X0_holds : GoodIn wsX5_drop wsX0_holds := goodIn_r _ [18, 19, 20, 21, 17, 22, 123, 124, 125, 126, 127] (by decide +kernel) (by decide +kernel)
set_option maxRecDepth 20000 in
theorem gX5_drop_X0_holds : GoodIn wsX5_drop (wsV RX5 63 RX0 yX0_holds wsX0_holds) := goodIn_app (goodIn_of _ (by decide +kernel)) ggX5_drop_X0_holds
set_option maxRecDepth 20000 in
theorem ggX5_drop_X2_record : GoodIn wsX5_drop wsX2_record := goodIn_r _ [27, 28, 29, 30, 31, 32, 33, 34, 35, 36, 37, 38, 39, 40, 41, 42, 43, 44, 45, 46, 47, 48, 17, 49, 19, 50, 51, 52, 53, 54, 55, 56, 57, 58, 59, 60, 61, 62, 63, 128, 129, 130, 117, 118, 119, 120, 121, 122, 123, 124, 125, 126, 127, 131, 132, 133] (by decide +kernel) (by decide +kernel)
set_option maxRecDepth 20000 in
theorem gX5_drop_X2_record : GoodIn wsX5_drop (wsV RX5 43 RX2 yX2_record wsX2_record) := goodIn_app (goodIn_of _ (by decide +kernel)) ggX5_drop_X2_record
set_option maxRecDepth 20000 in
theorem ggX5_drop_X3_dropLine : GoodIn wsX5_drop wsX3_dropLine := goodIn_r _ [67, 41, 68, 15, 16, 17, 18, 19, 20, 21, 22, 69, 70, 71, 72, 52, 73, 74, 75, 76, 77, 34, 78, 79, 80, 81, 82, 83, 84, 36, 85, 44, 86, 87, 88, 89, 54, 90, 91, 92, 58, 93, 94, 95, 96, 97, 98, 99, 100, 62, 60, 101, 102, 103, 104, 105, 106, 107, 117, 118, 119, 120, 121, 122, 123, 124, 125, 126, 127, 131, 132, 133] (by decide +kernel) (by decide +kernel)
set_option maxRecDepth 20000 in
theorem gX5_drop_X3_dropLine : GoodIn wsX5_drop (wsV RX5 68 RX3 yX3_dropLine wsX3_dropLine) := goodIn_app (goodIn_of _ (by decide +kernel)) ggX5_drop_X3_dropLine
theorem dX5_drop_0 : decode cX5_drop 0 = .ok (.iload_n 1, 1) := by decide +kernel
theorem dX5_drop_1 : decode cX5_drop 1 = .ok (.invokestatic 36, 3) := by decide +kernel
theorem dX5_drop_4 : decode cX5_drop 4 = .ok (.ifCond .eq 10, 3) := by decide +kernel
theorem dX5_drop_7 : decode cX5_drop 7 = .ok (.iload_n 2, 1) := by decide +kernel
theorem dX5_drop_8 : decode cX5_drop 8 = .ok (.invokestatic 40, 3) := by decide +kernel
theorem dX5_drop_11 : decode cX5_drop 11 = .ok (.ifCond .ne 5, 3) := by decide +kernel
theorem dX5_drop_14 : decode cX5_drop 14 = .ok (.iconst (-1), 1) := by decide +kernel
theorem dX5_drop_15 : decode cX5_drop 15 = .ok (.ireturn, 1) := by decide +kernel
theorem dX5_drop_16 : decode cX5_drop 16 = .ok (.aload_n 0, 1) := by decide +kernel
theorem dX5_drop_17 : decode cX5_drop 17 = .ok (.getfield 12, 3) := by decide +kernel
theorem dX5_drop_20 : decode cX5_drop 20 = .ok (.getfield 59, 3) := by decide +kernel
theorem dX5_drop_23 : decode cX5_drop 23 = .ok (.iload_n 1, 1) := by decide +kernel
theorem dX5_drop_24 : decode cX5_drop 24 = .ok (.aaload, 1) := by decide +kernel
theorem dX5_drop_25 : decode cX5_drop 25 = .ok (.iload_n 2, 1) := by decide +kernel
theorem dX5_drop_26 : decode cX5_drop 26 = .ok (.invokevirtual 63, 3) := by decide +kernel
theorem dX5_drop_29 : decode cX5_drop 29 = .ok (.ifCond .ne 6, 3) := by decide +kernel
theorem dX5_drop_32 : decode cX5_drop 32 = .ok (.bipush (-4), 2) := by decide +kernel
theorem dX5_drop_34 : decode cX5_drop 34 = .ok (.ireturn, 1) := by decide +kernel
theorem dX5_drop_35 : decode cX5_drop 35 = .ok (.aload_n 0, 1) := by decide +kernel
theorem dX5_drop_36 : decode cX5_drop 36 = .ok (.getfield 25, 3) := by decide +kernel
theorem dX5_drop_39 : decode cX5_drop 39 = .ok (.aload_n 0, 1) := by decide +kernel
theorem dX5_drop_40 : decode cX5_drop 40 = .ok (.getfield 12, 3) := by decide +kernel
theorem dX5_drop_43 : decode cX5_drop 43 = .ok (.invokevirtual 43, 3) := by decide +kernel
theorem dX5_drop_46 : decode cX5_drop 46 = .ok (.aload_n 0, 1) := by decide +kernel
theorem dX5_drop_47 : decode cX5_drop 47 = .ok (.getfield 12, 3) := by decide +kernel
theorem dX5_drop_50 : decode cX5_drop 50 = .ok (.iload_n 1, 1) := by decide +kernel
theorem dX5_drop_51 : decode cX5_drop 51 = .ok (.iload_n 2, 1) := by decide +kernel
theorem dX5_drop_52 : decode cX5_drop 52 = .ok (.invokevirtual 68, 3) := by decide +kernel
theorem dX5_drop_55 : decode cX5_drop 55 = .ok (.ireturn, 1) := by decide +kernel
set_option maxRecDepth 20000 in
theorem ggX5_forget_X5_isCore : GoodIn wsX5_forget wsX5_isCore := goodIn_r _ [7, 8, 9, 6, 10] (by decide +kernel) (by decide +kernel)
set_option maxRecDepth 20000 in
theorem gX5_forget_X5_isCore : GoodIn wsX5_forget (va_wsS RX5 36 yX5_isCore wsX5_isCore) := goodIn_app (goodIn_of _ (by decide +kernel)) ggX5_forget_X5_isCore
set_option maxRecDepth 20000 in
theorem ggX5_forget_X0_hasNothingToForget : GoodIn wsX5_forget wsX0_hasNothingToForget := goodIn_r _ [15, 16, 17, 18, 19, 14, 20, 21, 22, 23, 24, 25, 26, 27, 28, 29, 30, 31, 32, 33, 6, 34, 113, 114, 115, 116, 117, 118, 119, 120] (by decide +kernel) (by decide +kernel)
set_option maxRecDepth 20000 in
theorem gX5_forget_X0_hasNothingToForget : GoodIn wsX5_forget (wsV RX5 71 RX0 yX0_hasNothingToForget wsX0_hasNothingToForget) := goodIn_app (goodIn_of _ (by decide +kernel)) ggX5_forget_X0_hasNothingToForget
set_option maxRecDepth 20000 in
theorem ggX5_forget_X2_record : GoodIn wsX5_forget wsX2_record := goodIn_r _ [39, 40, 41, 42, 43, 44, 45, 46, 47, 48, 49, 50, 51, 52, 53, 54, 55, 56, 57, 58, 59, 60, 14, 61, 21, 62, 63, 64, 65, 16, 66, 67, 68, 25, 69, 27, 70, 71, 32, 121, 122, 123, 107, 108, 109, 110, 111, 112, 113, 114, 115, 116, 117, 118, 119, 120] (by decide +kernel) (by decide +kernel)
set_option maxRecDepth 20000 in
theorem gX5_forget_X2_record : GoodIn wsX5_forget (wsV RX5 43 RX2 yX2_record wsX2_record) := goodIn_app (goodIn_of _ (by decide +kernel)) ggX5_forget_X2_record
set_option maxRecDepth 20000 in
theorem ggX5_forget_X3_forgetOnPurpose : GoodIn wsX5_forget wsX3_forgetOnPurpose := goodIn_r _ [75, 53, 76, 12, 13, 14, 15, 16, 17, 18, 19, 20, 21, 22, 23, 24, 25, 26, 27, 28, 29, 30, 31, 32, 33, 6, 34, 77, 78, 79, 46, 80, 81, 82, 83, 84, 85, 86, 87, 88, 48, 89, 56, 90, 91, 92, 93, 64, 94, 95, 96, 97, 71, 107, 108, 109, 110, 111, 112, 113, 114, 115, 116, 117, 118, 119, 120] (by decide +kernel) (by decide +kernel)
set_option maxRecDepth 20000 in
theorem gX5_forget_X3_forgetOnPurpose : GoodIn wsX5_forget (wsV RX5 75 RX3 yX3_forgetOnPurpose wsX3_forgetOnPurpose) := goodIn_app (goodIn_of _ (by decide +kernel)) ggX5_forget_X3_forgetOnPurpose
theorem dX5_forget_0 : decode cX5_forget 0 = .ok (.iload_n 1, 1) := by decide +kernel
theorem dX5_forget_1 : decode cX5_forget 1 = .ok (.invokestatic 36, 3) := by decide +kernel
theorem dX5_forget_4 : decode cX5_forget 4 = .ok (.ifCond .ne 5, 3) := by decide +kernel
theorem dX5_forget_7 : decode cX5_forget 7 = .ok (.iconst (-1), 1) := by decide +kernel
theorem dX5_forget_8 : decode cX5_forget 8 = .ok (.ireturn, 1) := by decide +kernel
theorem dX5_forget_9 : decode cX5_forget 9 = .ok (.aload_n 0, 1) := by decide +kernel
theorem dX5_forget_10 : decode cX5_forget 10 = .ok (.getfield 12, 3) := by decide +kernel
theorem dX5_forget_13 : decode cX5_forget 13 = .ok (.getfield 59, 3) := by decide +kernel
theorem dX5_forget_16 : decode cX5_forget 16 = .ok (.iload_n 1, 1) := by decide +kernel
theorem dX5_forget_17 : decode cX5_forget 17 = .ok (.aaload, 1) := by decide +kernel
theorem dX5_forget_18 : decode cX5_forget 18 = .ok (.invokevirtual 71, 3) := by decide +kernel
theorem dX5_forget_21 : decode cX5_forget 21 = .ok (.ifCond .eq 6, 3) := by decide +kernel
theorem dX5_forget_24 : decode cX5_forget 24 = .ok (.bipush (-5), 2) := by decide +kernel
theorem dX5_forget_26 : decode cX5_forget 26 = .ok (.ireturn, 1) := by decide +kernel
theorem dX5_forget_27 : decode cX5_forget 27 = .ok (.aload_n 0, 1) := by decide +kernel
theorem dX5_forget_28 : decode cX5_forget 28 = .ok (.getfield 25, 3) := by decide +kernel
theorem dX5_forget_31 : decode cX5_forget 31 = .ok (.aload_n 0, 1) := by decide +kernel
theorem dX5_forget_32 : decode cX5_forget 32 = .ok (.getfield 12, 3) := by decide +kernel
theorem dX5_forget_35 : decode cX5_forget 35 = .ok (.invokevirtual 43, 3) := by decide +kernel
theorem dX5_forget_38 : decode cX5_forget 38 = .ok (.aload_n 0, 1) := by decide +kernel
theorem dX5_forget_39 : decode cX5_forget 39 = .ok (.getfield 12, 3) := by decide +kernel
theorem dX5_forget_42 : decode cX5_forget 42 = .ok (.iload_n 1, 1) := by decide +kernel
theorem dX5_forget_43 : decode cX5_forget 43 = .ok (.invokevirtual 75, 3) := by decide +kernel
theorem dX5_forget_46 : decode cX5_forget 46 = .ok (.ireturn, 1) := by decide +kernel
set_option maxRecDepth 20000 in
theorem ggX5_set_X5_isWithin : GoodIn wsX5_set wsX5_isWithin := goodIn_r _ [8] (by decide +kernel) (by decide +kernel)
set_option maxRecDepth 20000 in
theorem gX5_set_X5_isWithin : GoodIn wsX5_set (va_wsS RX5 51 yX5_isWithin wsX5_isWithin) := goodIn_app (goodIn_of _ (by decide +kernel)) ggX5_set_X5_isWithin
set_option maxRecDepth 20000 in
theorem ggX5_set_X2_record : GoodIn wsX5_set wsX2_record := goodIn_r _ [13, 14, 15, 16, 17, 18, 19, 20, 21, 22, 23, 24, 25, 26, 27, 28, 29, 30, 31, 32, 33, 34, 35, 36, 37, 38, 39, 40, 41, 42, 43, 44, 45, 46, 47, 48, 49, 50, 51, 67, 68, 69, 61, 62, 63, 64, 65, 66, 70, 71, 72, 73, 74, 75, 76, 77] (by decide +kernel) (by decide +kernel)
set_option maxRecDepth 20000 in
theorem gX5_set_X2_record : GoodIn wsX5_set (wsV RX5 43 RX2 yX2_record wsX2_record) := goodIn_app (goodIn_of _ (by decide +kernel)) ggX5_set_X2_record
theorem dX5_set_0 : decode cX5_set 0 = .ok (.iload_n 1, 1) := by decide +kernel
theorem dX5_set_1 : decode cX5_set 1 = .ok (.iconst 0, 1) := by decide +kernel
theorem dX5_set_2 : decode cX5_set 2 = .ok (.iconst 1, 1) := by decide +kernel
theorem dX5_set_3 : decode cX5_set 3 = .ok (.invokestatic 51, 3) := by decide +kernel
theorem dX5_set_6 : decode cX5_set 6 = .ok (.ifCond .ne 5, 3) := by decide +kernel
theorem dX5_set_9 : decode cX5_set 9 = .ok (.iconst (-1), 1) := by decide +kernel
theorem dX5_set_10 : decode cX5_set 10 = .ok (.ireturn, 1) := by decide +kernel
theorem dX5_set_11 : decode cX5_set 11 = .ok (.iload_n 2, 1) := by decide +kernel
theorem dX5_set_12 : decode cX5_set 12 = .ok (.iconst 1, 1) := by decide +kernel
theorem dX5_set_13 : decode cX5_set 13 = .ok (.iload_n 1, 1) := by decide +kernel
theorem dX5_set_14 : decode cX5_set 14 = .ok (.ifCond .ne 8, 3) := by decide +kernel
theorem dX5_set_17 : decode cX5_set 17 = .ok (.bipush 9, 2) := by decide +kernel
theorem dX5_set_19 : decode cX5_set 19 = .ok (.goto 5, 3) := by decide +kernel
theorem dX5_set_22 : decode cX5_set 22 = .ok (.bipush 24, 2) := by decide +kernel
theorem dX5_set_24 : decode cX5_set 24 = .ok (.invokestatic 51, 3) := by decide +kernel
theorem dX5_set_27 : decode cX5_set 27 = .ok (.ifCond .ne 6, 3) := by decide +kernel
theorem dX5_set_30 : decode cX5_set 30 = .ok (.bipush (-2), 2) := by decide +kernel
theorem dX5_set_32 : decode cX5_set 32 = .ok (.ireturn, 1) := by decide +kernel
theorem dX5_set_33 : decode cX5_set 33 = .ok (.iload_n 1, 1) := by decide +kernel
theorem dX5_set_34 : decode cX5_set 34 = .ok (.ifCond .ne 13, 3) := by decide +kernel
theorem dX5_set_37 : decode cX5_set 37 = .ok (.aload_n 0, 1) := by decide +kernel
theorem dX5_set_38 : decode cX5_set 38 = .ok (.getfield 12, 3) := by decide +kernel
theorem dX5_set_41 : decode cX5_set 41 = .ok (.getfield 79, 3) := by decide +kernel
theorem dX5_set_44 : decode cX5_set 44 = .ok (.goto 10, 3) := by decide +kernel
theorem dX5_set_47 : decode cX5_set 47 = .ok (.aload_n 0, 1) := by decide +kernel
theorem dX5_set_48 : decode cX5_set 48 = .ok (.getfield 12, 3) := by decide +kernel
theorem dX5_set_51 : decode cX5_set 51 = .ok (.getfield 83, 3) := by decide +kernel
theorem dX5_set_54 : decode cX5_set 54 = .ok (.istore_n 3, 1) := by decide +kernel
theorem dX5_set_55 : decode cX5_set 55 = .ok (.iload_n 3, 1) := by decide +kernel
theorem dX5_set_56 : decode cX5_set 56 = .ok (.iload_n 2, 1) := by decide +kernel
theorem dX5_set_57 : decode cX5_set 57 = .ok (.if_icmp .ne 6, 3) := by decide +kernel
theorem dX5_set_60 : decode cX5_set 60 = .ok (.bipush (-5), 2) := by decide +kernel
theorem dX5_set_62 : decode cX5_set 62 = .ok (.ireturn, 1) := by decide +kernel
theorem dX5_set_63 : decode cX5_set 63 = .ok (.aload_n 0, 1) := by decide +kernel
theorem dX5_set_64 : decode cX5_set 64 = .ok (.getfield 25, 3) := by decide +kernel
theorem dX5_set_67 : decode cX5_set 67 = .ok (.aload_n 0, 1) := by decide +kernel
theorem dX5_set_68 : decode cX5_set 68 = .ok (.getfield 12, 3) := by decide +kernel
theorem dX5_set_71 : decode cX5_set 71 = .ok (.invokevirtual 43, 3) := by decide +kernel
theorem dX5_set_74 : decode cX5_set 74 = .ok (.iload_n 1, 1) := by decide +kernel
theorem dX5_set_75 : decode cX5_set 75 = .ok (.ifCond .ne 14, 3) := by decide +kernel
theorem dX5_set_78 : decode cX5_set 78 = .ok (.aload_n 0, 1) := by decide +kernel
theorem dX5_set_79 : decode cX5_set 79 = .ok (.getfield 12, 3) := by decide +kernel
theorem dX5_set_82 : decode cX5_set 82 = .ok (.iload_n 2, 1) := by decide +kernel
theorem dX5_set_83 : decode cX5_set 83 = .ok (.putfield 79, 3) := by decide +kernel
theorem dX5_set_86 : decode cX5_set 86 = .ok (.goto 11, 3) := by decide +kernel
theorem dX5_set_89 : decode cX5_set 89 = .ok (.aload_n 0, 1) := by decide +kernel
theorem dX5_set_90 : decode cX5_set 90 = .ok (.getfield 12, 3) := by decide +kernel
theorem dX5_set_93 : decode cX5_set 93 = .ok (.iload_n 2, 1) := by decide +kernel
theorem dX5_set_94 : decode cX5_set 94 = .ok (.putfield 83, 3) := by decide +kernel
theorem dX5_set_97 : decode cX5_set 97 = .ok (.iload_n 3, 1) := by decide +kernel
theorem dX5_set_98 : decode cX5_set 98 = .ok (.ireturn, 1) := by decide +kernel
set_option maxRecDepth 20000 in
theorem ggX5_type_X4_append : GoodIn wsX5_type wsX4_append := goodIn_r _ [7, 8, 9, 19, 20, 21, 22, 23, 24, 25, 26] (by decide +kernel) (by decide +kernel)
set_option maxRecDepth 20000 in
theorem gX5_type_X4_append : GoodIn wsX5_type (wsV RX5 86 RX4 yX4_append wsX4_append) := goodIn_app (goodIn_of _ (by decide +kernel)) ggX5_type_X4_append
theorem dX5_type_0 : decode cX5_type 0 = .ok (.aload_n 0, 1) := by decide +kernel
theorem dX5_type_1 : decode cX5_type 1 = .ok (.getfield 32, 3) := by decide +kernel
theorem dX5_type_4 : decode cX5_type 4 = .ok (.iload_n 1, 1) := by decide +kernel
theorem dX5_type_5 : decode cX5_type 5 = .ok (.invokevirtual 86, 3) := by decide +kernel
theorem dX5_type_8 : decode cX5_type 8 = .ok (.ifCond .eq 13, 3) := by decide +kernel
theorem dX5_type_11 : decode cX5_type 11 = .ok (.aload_n 0, 1) := by decide +kernel
theorem dX5_type_12 : decode cX5_type 12 = .ok (.getfield 32, 3) := by decide +kernel
theorem dX5_type_15 : decode cX5_type 15 = .ok (.getfield 90, 3) := by decide +kernel
theorem dX5_type_18 : decode cX5_type 18 = .ok (.goto 5, 3) := by decide +kernel
theorem dX5_type_21 : decode cX5_type 21 = .ok (.bipush (-3), 2) := by decide +kernel
theorem dX5_type_23 : decode cX5_type 23 = .ok (.ireturn, 1) := by decide +kernel
theorem dX5_clearText_0 : decode cX5_clearText 0 = .ok (.aload_n 0, 1) := by decide +kernel
theorem dX5_clearText_1 : decode cX5_clearText 1 = .ok (.getfield 32, 3) := by decide +kernel
theorem dX5_clearText_4 : decode cX5_clearText 4 = .ok (.getfield 90, 3) := by decide +kernel
theorem dX5_clearText_7 : decode cX5_clearText 7 = .ok (.istore_n 1, 1) := by decide +kernel
theorem dX5_clearText_8 : decode cX5_clearText 8 = .ok (.aload_n 0, 1) := by decide +kernel
theorem dX5_clearText_9 : decode cX5_clearText 9 = .ok (.getfield 32, 3) := by decide +kernel
theorem dX5_clearText_12 : decode cX5_clearText 12 = .ok (.iconst 0, 1) := by decide +kernel
theorem dX5_clearText_13 : decode cX5_clearText 13 = .ok (.putfield 90, 3) := by decide +kernel
theorem dX5_clearText_16 : decode cX5_clearText 16 = .ok (.iload_n 1, 1) := by decide +kernel
theorem dX5_clearText_17 : decode cX5_clearText 17 = .ok (.ireturn, 1) := by decide +kernel
set_option maxRecDepth 20000 in
theorem ggX5_perform_X4_findFault : GoodIn wsX5_perform wsX4_findFault := goodIn_r _ [10, 11, 12, 13, 14, 15, 16, 9, 17, 18, 19, 20, 21, 22, 23, 24, 25, 26, 27, 28, 29, 30, 31, 32, 33, 34, 35, 36, 37, 38, 232, 233, 234, 235, 236, 237, 238, 239] (by decide +kernel) (by decide +kernel)
set_option maxRecDepth 20000 in
theorem gX5_perform_X4_findFault : GoodIn wsX5_perform (wsV RX5 93 RX4 yX4_findFault wsX4_findFault) := goodIn_app (goodIn_of _ (by decide +kernel)) ggX5_perform_X4_findFault
set_option maxRecDepth 20000 in
theorem ggX5_perform_X3_copyFrom : GoodIn wsX5_perform wsX3_copyFrom := goodIn_r _ [43, 44, 45, 46, 47, 48, 49, 50, 51, 52, 53, 54, 55, 56, 57, 58, 59, 60, 61, 62, 63, 64, 65, 66, 67, 68, 69, 70, 71, 72, 73, 240, 241, 242, 243, 244, 245, 246, 247, 248, 249, 250, 251, 252, 253] (by decide +kernel) (by decide +kernel)
set_option maxRecDepth 20000 in
theorem gX5_perform_X3_copyFrom : GoodIn wsX5_perform (wsV RX5 97 RX3 yX3_copyFrom wsX3_copyFrom) := goodIn_app (goodIn_of _ (by decide +kernel)) ggX5_perform_X3_copyFrom
set_option maxRecDepth 20000 in
theorem ggX5_perform_X4_runCommand : GoodIn wsX5_perform wsX4_runCommand := goodIn_r _ [77, 20, 33, 19, 34, 78, 79, 80, 42, 81, 49, 82, 83, 44, 84, 85, 57, 86, 87, 88, 89, 90, 59, 91, 92, 93, 94, 95, 64, 63, 96, 97, 98, 68, 99, 70, 100, 101, 102, 103, 73, 104, 105, 106, 107, 108, 109, 110, 111, 112, 113, 114, 115, 116, 52, 117, 118, 119, 120, 121, 122, 123, 124, 125, 126, 127, 128, 129, 130, 131, 132, 72, 133, 134, 135, 136, 62, 137, 138, 139, 140, 141, 50, 51, 142, 143, 144, 145, 61, 146, 147, 148, 149, 150, 151, 152, 153, 154, 155, 156, 157, 158, 159, 160, 161, 162, 163, 164, 165, 166, 167, 168, 169, 170, 53, 171, 172, 173, 174, 175, 176, 177, 178, 179, 180, 181, 182, 183, 184, 185, 186, 187, 188, 189, 190, 191, 192, 193, 194, 195, 196, 197, 198, 199, 200, 201, 202, 232, 233, 234, 235, 236, 237, 238, 239, 240, 241, 242, 243, 244, 245, 246, 247, 248, 249, 250, 251, 252, 253] (by decide +kernel) (by decide +kernel)
set_option maxRecDepth 20000 in
theorem gX5_perform_X4_runCommand : GoodIn wsX5_perform (wsV RX5 103 RX4 yX4_runCommand wsX4_runCommand) := goodIn_app (goodIn_of _ (by decide +kernel)) ggX5_perform_X4_runCommand
set_option maxRecDepth 20000 in
theorem ggX5_perform_X5_noteStop : GoodIn wsX5_perform wsX5_noteStop := goodIn_r _ [206, 207, 208, 209, 223, 224, 225, 226, 227, 228, 229, 230, 231] (by decide +kernel) (by decide +kernel)
set_option maxRecDepth 20000 in
theorem gX5_perform_X5_noteStop : GoodIn wsX5_perform (wsV RX5 107 RX5 yX5_noteStop wsX5_noteStop) := goodIn_app (goodIn_of _ (by decide +kernel)) ggX5_perform_X5_noteStop
set_option maxRecDepth 20000 in
theorem ggX5_perform_X4_isReading : GoodIn wsX5_perform wsX4_isReading := goodIn_r _ [213, 19, 232, 233, 234, 235, 236, 237, 238, 239] (by decide +kernel) (by decide +kernel)
set_option maxRecDepth 20000 in
theorem gX5_perform_X4_isReading : GoodIn wsX5_perform (wsV RX5 111 RX4 yX4_isReading wsX4_isReading) := goodIn_app (goodIn_of _ (by decide +kernel)) ggX5_perform_X4_isReading
set_option maxRecDepth 20000 in
theorem ggX5_perform_X2_record : GoodIn wsX5_perform wsX2_record := goodIn_r _ [218, 219, 220, 221, 222, 40, 41, 42, 43, 44, 45, 46, 47, 48, 49, 50, 51, 52, 53, 54, 55, 56, 57, 58, 59, 60, 61, 62, 63, 64, 65, 66, 67, 68, 69, 70, 71, 72, 73, 254, 255, 256, 240, 241, 242, 243, 244, 245, 246, 247, 248, 249, 250, 251, 252, 253] (by decide +kernel) (by decide +kernel)
set_option maxRecDepth 20000 in
theorem gX5_perform_X2_record : GoodIn wsX5_perform (wsV RX5 43 RX2 yX2_record wsX2_record) := goodIn_app (goodIn_of _ (by decide +kernel)) ggX5_perform_X2_record
theorem dX5_perform_0 : decode cX5_perform 0 = .ok (.aload_n 0, 1) := by decide +kernel
theorem dX5_perform_1 : decode cX5_perform 1 = .ok (.getfield 32, 3) := by decide +kernel
theorem dX5_perform_4 : decode cX5_perform 4 = .ok (.invokevirtual 93, 3) := by decide +kernel
theorem dX5_perform_7 : decode cX5_perform 7 = .ok (.istore_n 1, 1) := by decide +kernel
theorem dX5_perform_8 : decode cX5_perform 8 = .ok (.iload_n 1, 1) := by decide +kernel
theorem dX5_perform_9 : decode cX5_perform 9 = .ok (.ifCond .lt 8, 3) := by decide +kernel
theorem dX5_perform_12 : decode cX5_perform 12 = .ok (.bipush (-100), 2) := by decide +kernel
theorem dX5_perform_14 : decode cX5_perform 14 = .ok (.iload_n 1, 1) := by decide +kernel
theorem dX5_perform_15 : decode cX5_perform 15 = .ok (.isub, 1) := by decide +kernel
theorem dX5_perform_16 : decode cX5_perform 16 = .ok (.ireturn, 1) := by decide +kernel
theorem dX5_perform_17 : decode cX5_perform 17 = .ok (.aload_n 0, 1) := by decide +kernel
theorem dX5_perform_18 : decode cX5_perform 18 = .ok (.getfield 16, 3) := by decide +kernel
theorem dX5_perform_21 : decode cX5_perform 21 = .ok (.aload_n 0, 1) := by decide +kernel
theorem dX5_perform_22 : decode cX5_perform 22 = .ok (.getfield 12, 3) := by decide +kernel
theorem dX5_perform_25 : decode cX5_perform 25 = .ok (.invokevirtual 97, 3) := by decide +kernel
theorem dX5_perform_28 : decode cX5_perform 28 = .ok (.iconst 0, 1) := by decide +kernel
theorem dX5_perform_29 : decode cX5_perform 29 = .ok (.istore_n 2, 1) := by decide +kernel
theorem dX5_perform_30 : decode cX5_perform 30 = .ok (.iconst 0, 1) := by decide +kernel
theorem dX5_perform_31 : decode cX5_perform 31 = .ok (.istore_n 3, 1) := by decide +kernel
theorem dX5_perform_32 : decode cX5_perform 32 = .ok (.iload_n 3, 1) := by decide +kernel
theorem dX5_perform_33 : decode cX5_perform 33 = .ok (.aload_n 0, 1) := by decide +kernel
theorem dX5_perform_34 : decode cX5_perform 34 = .ok (.getfield 32, 3) := by decide +kernel
theorem dX5_perform_37 : decode cX5_perform 37 = .ok (.getfield 100, 3) := by decide +kernel
theorem dX5_perform_40 : decode cX5_perform 40 = .ok (.if_icmp .ge 61, 3) := by decide +kernel
theorem dX5_perform_43 : decode cX5_perform 43 = .ok (.aload_n 0, 1) := by decide +kernel
theorem dX5_perform_44 : decode cX5_perform 44 = .ok (.getfield 32, 3) := by decide +kernel
theorem dX5_perform_47 : decode cX5_perform 47 = .ok (.iload_n 3, 1) := by decide +kernel
theorem dX5_perform_48 : decode cX5_perform 48 = .ok (.aload_n 0, 1) := by decide +kernel
theorem dX5_perform_49 : decode cX5_perform 49 = .ok (.getfield 16, 3) := by decide +kernel
theorem dX5_perform_52 : decode cX5_perform 52 = .ok (.invokevirtual 103, 3) := by decide +kernel
theorem dX5_perform_55 : decode cX5_perform 55 = .ok (.istore 4, 2) := by decide +kernel
theorem dX5_perform_57 : decode cX5_perform 57 = .ok (.iload 4, 2) := by decide +kernel
theorem dX5_perform_59 : decode cX5_perform 59 = .ok (.ifCond .ge 20, 3) := by decide +kernel
theorem dX5_perform_62 : decode cX5_perform 62 = .ok (.iload 4, 2) := by decide +kernel
theorem dX5_perform_64 : decode cX5_perform 64 = .ok (.bipush (-5), 2) := by decide +kernel
theorem dX5_perform_66 : decode cX5_perform 66 = .ok (.if_icmp .eq 13, 3) := by decide +kernel
theorem dX5_perform_69 : decode cX5_perform 69 = .ok (.aload_n 0, 1) := by decide +kernel
theorem dX5_perform_70 : decode cX5_perform 70 = .ok (.iload_n 3, 1) := by decide +kernel
theorem dX5_perform_71 : decode cX5_perform 71 = .ok (.iload 4, 2) := by decide +kernel
theorem dX5_perform_73 : decode cX5_perform 73 = .ok (.invokevirtual 107, 3) := by decide +kernel
theorem dX5_perform_76 : decode cX5_perform 76 = .ok (.bipush (-4), 2) := by decide +kernel
theorem dX5_perform_78 : decode cX5_perform 78 = .ok (.ireturn, 1) := by decide +kernel
theorem dX5_perform_79 : decode cX5_perform 79 = .ok (.aload_n 0, 1) := by decide +kernel
theorem dX5_perform_80 : decode cX5_perform 80 = .ok (.getfield 32, 3) := by decide +kernel
theorem dX5_perform_83 : decode cX5_perform 83 = .ok (.iload_n 3, 1) := by decide +kernel
theorem dX5_perform_84 : decode cX5_perform 84 = .ok (.invokevirtual 111, 3) := by decide +kernel
theorem dX5_perform_87 : decode cX5_perform 87 = .ok (.ifCond .eq 8, 3) := by decide +kernel
theorem dX5_perform_90 : decode cX5_perform 90 = .ok (.iload_n 2, 1) := by decide +kernel
theorem dX5_perform_91 : decode cX5_perform 91 = .ok (.iload 4, 2) := by decide +kernel
theorem dX5_perform_93 : decode cX5_perform 93 = .ok (.iadd, 1) := by decide +kernel
theorem dX5_perform_94 : decode cX5_perform 94 = .ok (.istore_n 2, 1) := by decide +kernel
theorem dX5_perform_95 : decode cX5_perform 95 = .ok (.iinc 3 1, 3) := by decide +kernel
theorem dX5_perform_98 : decode cX5_perform 98 = .ok (.goto (-66), 3) := by decide +kernel
theorem dX5_perform_101 : decode cX5_perform 101 = .ok (.aload_n 0, 1) := by decide +kernel
theorem dX5_perform_102 : decode cX5_perform 102 = .ok (.getfield 25, 3) := by decide +kernel
theorem dX5_perform_105 : decode cX5_perform 105 = .ok (.aload_n 0, 1) := by decide +kernel
theorem dX5_perform_106 : decode cX5_perform 106 = .ok (.getfield 12, 3) := by decide +kernel
theorem dX5_perform_109 : decode cX5_perform 109 = .ok (.invokevirtual 43, 3) := by decide +kernel
theorem dX5_perform_112 : decode cX5_perform 112 = .ok (.aload_n 0, 1) := by decide +kernel
theorem dX5_perform_113 : decode cX5_perform 113 = .ok (.getfield 12, 3) := by decide +kernel
theorem dX5_perform_116 : decode cX5_perform 116 = .ok (.aload_n 0, 1) := by decide +kernel
theorem dX5_perform_117 : decode cX5_perform 117 = .ok (.getfield 16, 3) := by decide +kernel
theorem dX5_perform_120 : decode cX5_perform 120 = .ok (.invokevirtual 97, 3) := by decide +kernel
theorem dX5_perform_123 : decode cX5_perform 123 = .ok (.iload_n 2, 1) := by decide +kernel
theorem dX5_perform_124 : decode cX5_perform 124 = .ok (.ireturn, 1) := by decide +kernel
set_option maxRecDepth 20000 in
theorem ggX5_stopped_X5_isWithin : GoodIn wsX5_stopped wsX5_isWithin := goodIn_r _ [7] (by decide +kernel) (by decide +kernel)
set_option maxRecDepth 20000 in
theorem gX5_stopped_X5_isWithin : GoodIn wsX5_stopped (va_wsS RX5 51 yX5_isWithin wsX5_isWithin) := goodIn_app (goodIn_of _ (by decide +kernel)) ggX5_stopped_X5_isWithin
theorem dX5_stopped_0 : decode cX5_stopped 0 = .ok (.iload_n 1, 1) := by decide +kernel
theorem dX5_stopped_1 : decode cX5_stopped 1 = .ok (.iconst 0, 1) := by decide +kernel
theorem dX5_stopped_2 : decode cX5_stopped 2 = .ok (.iconst 1, 1) := by decide +kernel
theorem dX5_stopped_3 : decode cX5_stopped 3 = .ok (.invokestatic 51, 3) := by decide +kernel
theorem dX5_stopped_6 : decode cX5_stopped 6 = .ok (.ifCond .ne 6, 3) := by decide +kernel
theorem dX5_stopped_9 : decode cX5_stopped 9 = .ok (.bipush (-2), 2) := by decide +kernel
theorem dX5_stopped_11 : decode cX5_stopped 11 = .ok (.ireturn, 1) := by decide +kernel
theorem dX5_stopped_12 : decode cX5_stopped 12 = .ok (.aload_n 0, 1) := by decide +kernel
theorem dX5_stopped_13 : decode cX5_stopped 13 = .ok (.getfield 114, 3) := by decide +kernel
theorem dX5_stopped_16 : decode cX5_stopped 16 = .ok (.ifCond .ne 6, 3) := by decide +kernel
theorem dX5_stopped_19 : decode cX5_stopped 19 = .ok (.bipush (-5), 2) := by decide +kernel
theorem dX5_stopped_21 : decode cX5_stopped 21 = .ok (.ireturn, 1) := by decide +kernel
theorem dX5_stopped_22 : decode cX5_stopped 22 = .ok (.iload_n 1, 1) := by decide +kernel
theorem dX5_stopped_23 : decode cX5_stopped 23 = .ok (.ifCond .ne 10, 3) := by decide +kernel
theorem dX5_stopped_26 : decode cX5_stopped 26 = .ok (.aload_n 0, 1) := by decide +kernel
theorem dX5_stopped_27 : decode cX5_stopped 27 = .ok (.getfield 118, 3) := by decide +kernel
theorem dX5_stopped_30 : decode cX5_stopped 30 = .ok (.goto 7, 3) := by decide +kernel
theorem dX5_stopped_33 : decode cX5_stopped 33 = .ok (.aload_n 0, 1) := by decide +kernel
theorem dX5_stopped_34 : decode cX5_stopped 34 = .ok (.getfield 121, 3) := by decide +kernel
theorem dX5_stopped_37 : decode cX5_stopped 37 = .ok (.ireturn, 1) := by decide +kernel
set_option maxRecDepth 20000 in
theorem ggX5_undo_X2_takeLatest : GoodIn wsX5_undo wsX2_takeLatest := goodIn_r _ [8, 9, 10, 11, 12, 13, 14, 15, 16, 17, 18, 19, 20, 21, 22, 23, 24, 25, 26, 27, 28, 29, 30, 31, 32, 33, 34, 35, 36, 37, 38, 39, 40, 41, 42, 43, 44, 45, 46, 56, 57, 58, 59, 60, 61, 62, 63, 64, 65, 66, 67, 68, 69, 70, 71, 72] (by decide +kernel) (by decide +kernel)
set_option maxRecDepth 20000 in
theorem gX5_undo_X2_takeLatest : GoodIn wsX5_undo (wsV RX5 127 RX2 yX2_takeLatest wsX2_takeLatest) := goodIn_app (goodIn_of _ (by decide +kernel)) ggX5_undo_X2_takeLatest
theorem dX5_undo_0 : decode cX5_undo 0 = .ok (.aload_n 0, 1) := by decide +kernel
theorem dX5_undo_1 : decode cX5_undo 1 = .ok (.getfield 25, 3) := by decide +kernel
theorem dX5_undo_4 : decode cX5_undo 4 = .ok (.getfield 124, 3) := by decide +kernel
theorem dX5_undo_7 : decode cX5_undo 7 = .ok (.ifCond .ne 6, 3) := by decide +kernel
theorem dX5_undo_10 : decode cX5_undo 10 = .ok (.bipush (-5), 2) := by decide +kernel
theorem dX5_undo_12 : decode cX5_undo 12 = .ok (.ireturn, 1) := by decide +kernel
theorem dX5_undo_13 : decode cX5_undo 13 = .ok (.aload_n 0, 1) := by decide +kernel
theorem dX5_undo_14 : decode cX5_undo 14 = .ok (.getfield 25, 3) := by decide +kernel
theorem dX5_undo_17 : decode cX5_undo 17 = .ok (.aload_n 0, 1) := by decide +kernel
theorem dX5_undo_18 : decode cX5_undo 18 = .ok (.getfield 12, 3) := by decide +kernel
theorem dX5_undo_21 : decode cX5_undo 21 = .ok (.invokevirtual 127, 3) := by decide +kernel
theorem dX5_undo_24 : decode cX5_undo 24 = .ok (.aload_n 0, 1) := by decide +kernel
theorem dX5_undo_25 : decode cX5_undo 25 = .ok (.getfield 25, 3) := by decide +kernel
theorem dX5_undo_28 : decode cX5_undo 28 = .ok (.getfield 124, 3) := by decide +kernel
theorem dX5_undo_31 : decode cX5_undo 31 = .ok (.ireturn, 1) := by decide +kernel
set_option maxRecDepth 20000 in
theorem ggX5_keep_X3_copyFrom : GoodIn wsX5_keep wsX3_copyFrom := goodIn_r _ [8, 9, 10, 11, 12, 13, 14, 15, 16, 17, 18, 19, 20, 21, 22, 23, 24, 25, 26, 27, 28, 29, 30, 31, 32, 33, 34, 35, 36, 37, 38, 56, 57, 58, 59, 60, 61, 62, 63, 64, 65, 66, 67, 68, 69] (by decide +kernel) (by decide +kernel)
set_option maxRecDepth 20000 in
theorem gX5_keep_X3_copyFrom : GoodIn wsX5_keep (wsV RX5 97 RX3 yX3_copyFrom wsX3_copyFrom) := goodIn_app (goodIn_of _ (by decide +kernel)) ggX5_keep_X3_copyFrom
set_option maxRecDepth 20000 in
theorem ggX5_keep_X3_heldByAll : GoodIn wsX5_keep wsX3_heldByAll := goodIn_r _ [42, 14, 43, 44, 45, 22, 46, 24, 56, 57, 58, 59, 60, 61, 62, 63, 64, 65, 66] (by decide +kernel) (by decide +kernel)
set_option maxRecDepth 20000 in
theorem gX5_keep_X3_heldByAll : GoodIn wsX5_keep (wsV RX5 133 RX3 yX3_heldByAll wsX3_heldByAll) := goodIn_app (goodIn_of _ (by decide +kernel)) ggX5_keep_X3_heldByAll
theorem dX5_keep_0 : decode cX5_keep 0 = .ok (.aload_n 0, 1) := by decide +kernel
theorem dX5_keep_1 : decode cX5_keep 1 = .ok (.getfield 19, 3) := by decide +kernel
theorem dX5_keep_4 : decode cX5_keep 4 = .ok (.aload_n 0, 1) := by decide +kernel
theorem dX5_keep_5 : decode cX5_keep 5 = .ok (.getfield 12, 3) := by decide +kernel
theorem dX5_keep_8 : decode cX5_keep 8 = .ok (.invokevirtual 97, 3) := by decide +kernel
theorem dX5_keep_11 : decode cX5_keep 11 = .ok (.aload_n 0, 1) := by decide +kernel
theorem dX5_keep_12 : decode cX5_keep 12 = .ok (.iconst 1, 1) := by decide +kernel
theorem dX5_keep_13 : decode cX5_keep 13 = .ok (.putfield 130, 3) := by decide +kernel
theorem dX5_keep_16 : decode cX5_keep 16 = .ok (.aload_n 0, 1) := by decide +kernel
theorem dX5_keep_17 : decode cX5_keep 17 = .ok (.getfield 12, 3) := by decide +kernel
theorem dX5_keep_20 : decode cX5_keep 20 = .ok (.invokevirtual 133, 3) := by decide +kernel
theorem dX5_keep_23 : decode cX5_keep 23 = .ok (.ireturn, 1) := by decide +kernel
set_option maxRecDepth 20000 in
theorem ggX5_restore_X2_record : GoodIn wsX5_restore wsX2_record := goodIn_r _ [9, 10, 11, 12, 13, 14, 15, 16, 17, 18, 19, 20, 21, 22, 23, 24, 25, 26, 27, 28, 29, 30, 31, 32, 33, 34, 35, 36, 37, 38, 39, 40, 41, 42, 43, 44, 45, 46, 47, 66, 67, 68, 69, 70, 71, 72, 73, 74, 75, 76, 77, 78, 79, 80, 81, 82] (by decide +kernel) (by decide +kernel)
set_option maxRecDepth 20000 in
theorem gX5_restore_X2_record : GoodIn wsX5_restore (wsV RX5 43 RX2 yX2_record wsX2_record) := goodIn_app (goodIn_of _ (by decide +kernel)) ggX5_restore_X2_record
set_option maxRecDepth 20000 in
theorem ggX5_restore_X3_copyFrom : GoodIn wsX5_restore wsX3_copyFrom := goodIn_r _ [17, 18, 19, 20, 21, 22, 23, 24, 25, 26, 27, 28, 29, 30, 31, 32, 33, 34, 35, 36, 37, 38, 39, 40, 41, 42, 43, 44, 45, 46, 47, 69, 70, 71, 72, 73, 74, 75, 76, 77, 78, 79, 80, 81, 82] (by decide +kernel) (by decide +kernel)
set_option maxRecDepth 20000 in
theorem gX5_restore_X3_copyFrom : GoodIn wsX5_restore (wsV RX5 97 RX3 yX3_copyFrom wsX3_copyFrom) := goodIn_app (goodIn_of _ (by decide +kernel)) ggX5_restore_X3_copyFrom
set_option maxRecDepth 20000 in
theorem ggX5_restore_X3_heldByAll : GoodIn wsX5_restore wsX3_heldByAll := goodIn_r _ [52, 23, 53, 54, 55, 31, 56, 33, 69, 70, 71, 72, 73, 74, 75, 76, 77, 78, 79] (by decide +kernel) (by decide +kernel)
set_option maxRecDepth 20000 in
theorem gX5_restore_X3_heldByAll : GoodIn wsX5_restore (wsV RX5 133 RX3 yX3_heldByAll wsX3_heldByAll) := goodIn_app (goodIn_of _ (by decide +kernel)) ggX5_restore_X3_heldByAll
theorem dX5_restore_0 : decode cX5_restore 0 = .ok (.aload_n 0, 1) := by decide +kernel
theorem dX5_restore_1 : decode cX5_restore 1 = .ok (.getfield 130, 3) := by decide +kernel
theorem dX5_restore_4 : decode cX5_restore 4 = .ok (.ifCond .ne 6, 3) := by decide +kernel
theorem dX5_restore_7 : decode cX5_restore 7 = .ok (.bipush (-5), 2) := by decide +kernel
theorem dX5_restore_9 : decode cX5_restore 9 = .ok (.ireturn, 1) := by decide +kernel
theorem dX5_restore_10 : decode cX5_restore 10 = .ok (.aload_n 0, 1) := by decide +kernel
theorem dX5_restore_11 : decode cX5_restore 11 = .ok (.getfield 25, 3) := by decide +kernel
theorem dX5_restore_14 : decode cX5_restore 14 = .ok (.aload_n 0, 1) := by decide +kernel
theorem dX5_restore_15 : decode cX5_restore 15 = .ok (.getfield 12, 3) := by decide +kernel
theorem dX5_restore_18 : decode cX5_restore 18 = .ok (.invokevirtual 43, 3) := by decide +kernel
theorem dX5_restore_21 : decode cX5_restore 21 = .ok (.aload_n 0, 1) := by decide +kernel
theorem dX5_restore_22 : decode cX5_restore 22 = .ok (.getfield 12, 3) := by decide +kernel
theorem dX5_restore_25 : decode cX5_restore 25 = .ok (.aload_n 0, 1) := by decide +kernel
theorem dX5_restore_26 : decode cX5_restore 26 = .ok (.getfield 19, 3) := by decide +kernel
theorem dX5_restore_29 : decode cX5_restore 29 = .ok (.invokevirtual 97, 3) := by decide +kernel
theorem dX5_restore_32 : decode cX5_restore 32 = .ok (.aload_n 0, 1) := by decide +kernel
theorem dX5_restore_33 : decode cX5_restore 33 = .ok (.getfield 12, 3) := by decide +kernel
theorem dX5_restore_36 : decode cX5_restore 36 = .ok (.invokevirtual 133, 3) := by decide +kernel
theorem dX5_restore_39 : decode cX5_restore 39 = .ok (.ireturn, 1) := by decide +kernel
set_option maxRecDepth 20000 in
theorem ggX5_core_X5_isCore : GoodIn wsX5_core wsX5_isCore := goodIn_r _ [8, 9, 10, 7, 11] (by decide +kernel) (by decide +kernel)
set_option maxRecDepth 20000 in
theorem gX5_core_X5_isCore : GoodIn wsX5_core (va_wsS RX5 36 yX5_isCore wsX5_isCore) := goodIn_app (goodIn_of _ (by decide +kernel)) ggX5_core_X5_isCore
set_option maxRecDepth 20000 in
theorem ggX5_core_X5_isWithin : GoodIn wsX5_core wsX5_isWithin := goodIn_r _ [11] (by decide +kernel) (by decide +kernel)
set_option maxRecDepth 20000 in
theorem gX5_core_X5_isWithin : GoodIn wsX5_core (va_wsS RX5 51 yX5_isWithin wsX5_isWithin) := goodIn_app (goodIn_of _ (by decide +kernel)) ggX5_core_X5_isWithin
set_option maxRecDepth 20000 in
theorem ggX5_core_X0_heldLines : GoodIn wsX5_core wsX0_heldLines := goodIn_r _ [16, 17, 56, 57, 58, 59, 60] (by decide +kernel) (by decide +kernel)
set_option maxRecDepth 20000 in
theorem gX5_core_X0_heldLines : GoodIn wsX5_core (wsV RX5 136 RX0 yX0_heldLines wsX0_heldLines) := goodIn_app (goodIn_of _ (by decide +kernel)) ggX5_core_X0_heldLines
set_option maxRecDepth 20000 in
theorem ggX5_core_X0_dirtyLines : GoodIn wsX5_core wsX0_dirtyLines := goodIn_r _ [21, 22, 23, 7, 24, 56, 57, 58, 59, 60] (by decide +kernel) (by decide +kernel)
set_option maxRecDepth 20000 in
theorem gX5_core_X0_dirtyLines : GoodIn wsX5_core (wsV RX5 139 RX0 yX0_dirtyLines wsX0_dirtyLines) := goodIn_app (goodIn_of _ (by decide +kernel)) ggX5_core_X0_dirtyLines
set_option maxRecDepth 20000 in
theorem ggX5_core_X1_countersAboveZero : GoodIn wsX5_core wsX1_countersAboveZero := goodIn_r _ [29, 30, 61, 62, 63] (by decide +kernel) (by decide +kernel)
set_option maxRecDepth 20000 in
theorem gX5_core_X1_countersAboveZero : GoodIn wsX5_core (wsV RX5 146 RX1 yX1_countersAboveZero wsX1_countersAboveZero) := goodIn_app (goodIn_of _ (by decide +kernel)) ggX5_core_X1_countersAboveZero
set_option maxRecDepth 20000 in
theorem ggX5_core_X1_stuckCounters : GoodIn wsX5_core wsX1_stuckCounters := goodIn_r _ [34, 35, 23, 7, 24, 61, 62, 63] (by decide +kernel) (by decide +kernel)
set_option maxRecDepth 20000 in
theorem gX5_core_X1_stuckCounters : GoodIn wsX5_core (wsV RX5 151 RX1 yX1_stuckCounters wsX1_stuckCounters) := goodIn_app (goodIn_of _ (by decide +kernel)) ggX5_core_X1_stuckCounters
set_option maxRecDepth 20000 in
theorem ggX5_core_X1_bitsThatAreOne : GoodIn wsX5_core wsX1_bitsThatAreOne := goodIn_r _ [39, 40, 23, 7, 24, 61, 62, 63] (by decide +kernel) (by decide +kernel)
set_option maxRecDepth 20000 in
theorem gX5_core_X1_bitsThatAreOne : GoodIn wsX5_core (wsV RX5 154 RX1 yX1_bitsThatAreOne wsX1_bitsThatAreOne) := goodIn_app (goodIn_of _ (by decide +kernel)) ggX5_core_X1_bitsThatAreOne
theorem dX5_core_0 : decode cX5_core 0 = .ok (.iload_n 1, 1) := by decide +kernel
theorem dX5_core_1 : decode cX5_core 1 = .ok (.invokestatic 36, 3) := by decide +kernel
theorem dX5_core_4 : decode cX5_core 4 = .ok (.ifCond .ne 5, 3) := by decide +kernel
theorem dX5_core_7 : decode cX5_core 7 = .ok (.iconst (-1), 1) := by decide +kernel
theorem dX5_core_8 : decode cX5_core 8 = .ok (.ireturn, 1) := by decide +kernel
theorem dX5_core_9 : decode cX5_core 9 = .ok (.iload_n 2, 1) := by decide +kernel
theorem dX5_core_10 : decode cX5_core 10 = .ok (.iconst 0, 1) := by decide +kernel
theorem dX5_core_11 : decode cX5_core 11 = .ok (.bipush 10, 2) := by decide +kernel
theorem dX5_core_13 : decode cX5_core 13 = .ok (.invokestatic 51, 3) := by decide +kernel
theorem dX5_core_16 : decode cX5_core 16 = .ok (.ifCond .ne 6, 3) := by decide +kernel
theorem dX5_core_19 : decode cX5_core 19 = .ok (.bipush (-2), 2) := by decide +kernel
theorem dX5_core_21 : decode cX5_core 21 = .ok (.ireturn, 1) := by decide +kernel
theorem dX5_core_22 : decode cX5_core 22 = .ok (.aload_n 0, 1) := by decide +kernel
theorem dX5_core_23 : decode cX5_core 23 = .ok (.getfield 12, 3) := by decide +kernel
theorem dX5_core_26 : decode cX5_core 26 = .ok (.getfield 59, 3) := by decide +kernel
theorem dX5_core_29 : decode cX5_core 29 = .ok (.iload_n 1, 1) := by decide +kernel
theorem dX5_core_30 : decode cX5_core 30 = .ok (.aaload, 1) := by decide +kernel
theorem dX5_core_31 : decode cX5_core 31 = .ok (.astore_n 3, 1) := by decide +kernel
theorem dX5_core_32 : decode cX5_core 32 = .ok (.iload_n 2, 1) := by decide +kernel
theorem dX5_core_33 : decode cX5_core 33 = .ok (.tableswitch 69 0 4 #[35, 40, 45, 53, 61], 35) := by decide +kernel
theorem dX5_core_68 : decode cX5_core 68 = .ok (.aload_n 3, 1) := by decide +kernel
theorem dX5_core_69 : decode cX5_core 69 = .ok (.invokevirtual 136, 3) := by decide +kernel
theorem dX5_core_72 : decode cX5_core 72 = .ok (.ireturn, 1) := by decide +kernel
theorem dX5_core_73 : decode cX5_core 73 = .ok (.aload_n 3, 1) := by decide +kernel
theorem dX5_core_74 : decode cX5_core 74 = .ok (.invokevirtual 139, 3) := by decide +kernel
theorem dX5_core_77 : decode cX5_core 77 = .ok (.ireturn, 1) := by decide +kernel
theorem dX5_core_78 : decode cX5_core 78 = .ok (.aload_n 3, 1) := by decide +kernel
theorem dX5_core_79 : decode cX5_core 79 = .ok (.getfield 142, 3) := by decide +kernel
theorem dX5_core_82 : decode cX5_core 82 = .ok (.invokevirtual 146, 3) := by decide +kernel
theorem dX5_core_85 : decode cX5_core 85 = .ok (.ireturn, 1) := by decide +kernel
theorem dX5_core_86 : decode cX5_core 86 = .ok (.aload_n 3, 1) := by decide +kernel
theorem dX5_core_87 : decode cX5_core 87 = .ok (.getfield 142, 3) := by decide +kernel
theorem dX5_core_90 : decode cX5_core 90 = .ok (.invokevirtual 151, 3) := by decide +kernel
theorem dX5_core_93 : decode cX5_core 93 = .ok (.ireturn, 1) := by decide +kernel
theorem dX5_core_94 : decode cX5_core 94 = .ok (.aload_n 3, 1) := by decide +kernel
theorem dX5_core_95 : decode cX5_core 95 = .ok (.getfield 142, 3) := by decide +kernel
theorem dX5_core_98 : decode cX5_core 98 = .ok (.invokevirtual 154, 3) := by decide +kernel
theorem dX5_core_101 : decode cX5_core 101 = .ok (.ireturn, 1) := by decide +kernel
theorem dX5_core_102 : decode cX5_core 102 = .ok (.aload_n 3, 1) := by decide +kernel
theorem dX5_core_103 : decode cX5_core 103 = .ok (.getfield 157, 3) := by decide +kernel
theorem dX5_core_106 : decode cX5_core 106 = .ok (.iload_n 2, 1) := by decide +kernel
theorem dX5_core_107 : decode cX5_core 107 = .ok (.iconst 5, 1) := by decide +kernel
theorem dX5_core_108 : decode cX5_core 108 = .ok (.isub, 1) := by decide +kernel
theorem dX5_core_109 : decode cX5_core 109 = .ok (.iaload, 1) := by decide +kernel
theorem dX5_core_110 : decode cX5_core 110 = .ok (.ireturn, 1) := by decide +kernel
set_option maxRecDepth 20000 in
theorem ggX5_held_X5_isCore : GoodIn wsX5_held wsX5_isCore := goodIn_r _ [9, 10, 11, 8, 12] (by decide +kernel) (by decide +kernel)
set_option maxRecDepth 20000 in
theorem gX5_held_X5_isCore : GoodIn wsX5_held (va_wsS RX5 36 yX5_isCore wsX5_isCore) := goodIn_app (goodIn_of _ (by decide +kernel)) ggX5_held_X5_isCore
set_option maxRecDepth 20000 in
theorem ggX5_held_X5_isWithin : GoodIn wsX5_held wsX5_isWithin := goodIn_r _ [12] (by decide +kernel) (by decide +kernel)
set_option maxRecDepth 20000 in
theorem gX5_held_X5_isWithin : GoodIn wsX5_held (va_wsS RX5 51 yX5_isWithin wsX5_isWithin) := goodIn_app (goodIn_of _ (by decide +kernel)) ggX5_held_X5_isWithin
theorem dX5_held_0 : decode cX5_held 0 = .ok (.iload_n 1, 1) := by decide +kernel
theorem dX5_held_1 : decode cX5_held 1 = .ok (.invokestatic 36, 3) := by decide +kernel
theorem dX5_held_4 : decode cX5_held 4 = .ok (.ifCond .ne 5, 3) := by decide +kernel
theorem dX5_held_7 : decode cX5_held 7 = .ok (.iconst (-1), 1) := by decide +kernel
theorem dX5_held_8 : decode cX5_held 8 = .ok (.ireturn, 1) := by decide +kernel
theorem dX5_held_9 : decode cX5_held 9 = .ok (.iload_n 2, 1) := by decide +kernel
theorem dX5_held_10 : decode cX5_held 10 = .ok (.iconst 0, 1) := by decide +kernel
theorem dX5_held_11 : decode cX5_held 11 = .ok (.bipush 7, 2) := by decide +kernel
theorem dX5_held_13 : decode cX5_held 13 = .ok (.invokestatic 51, 3) := by decide +kernel
theorem dX5_held_16 : decode cX5_held 16 = .ok (.ifCond .eq 12, 3) := by decide +kernel
theorem dX5_held_19 : decode cX5_held 19 = .ok (.iload_n 3, 1) := by decide +kernel
theorem dX5_held_20 : decode cX5_held 20 = .ok (.iconst 0, 1) := by decide +kernel
theorem dX5_held_21 : decode cX5_held 21 = .ok (.iconst 2, 1) := by decide +kernel
theorem dX5_held_22 : decode cX5_held 22 = .ok (.invokestatic 51, 3) := by decide +kernel
theorem dX5_held_25 : decode cX5_held 25 = .ok (.ifCond .ne 6, 3) := by decide +kernel
theorem dX5_held_28 : decode cX5_held 28 = .ok (.bipush (-2), 2) := by decide +kernel
theorem dX5_held_30 : decode cX5_held 30 = .ok (.ireturn, 1) := by decide +kernel
theorem dX5_held_31 : decode cX5_held 31 = .ok (.aload_n 0, 1) := by decide +kernel
theorem dX5_held_32 : decode cX5_held 32 = .ok (.getfield 12, 3) := by decide +kernel
theorem dX5_held_35 : decode cX5_held 35 = .ok (.getfield 59, 3) := by decide +kernel
theorem dX5_held_38 : decode cX5_held 38 = .ok (.iload_n 1, 1) := by decide +kernel
theorem dX5_held_39 : decode cX5_held 39 = .ok (.aaload, 1) := by decide +kernel
theorem dX5_held_40 : decode cX5_held 40 = .ok (.astore 4, 2) := by decide +kernel
theorem dX5_held_42 : decode cX5_held 42 = .ok (.aload 4, 2) := by decide +kernel
theorem dX5_held_44 : decode cX5_held 44 = .ok (.getfield 161, 3) := by decide +kernel
theorem dX5_held_47 : decode cX5_held 47 = .ok (.iload_n 2, 1) := by decide +kernel
theorem dX5_held_48 : decode cX5_held 48 = .ok (.iaload, 1) := by decide +kernel
theorem dX5_held_49 : decode cX5_held 49 = .ok (.iconst (-1), 1) := by decide +kernel
theorem dX5_held_50 : decode cX5_held 50 = .ok (.if_icmp .ne 6, 3) := by decide +kernel
theorem dX5_held_53 : decode cX5_held 53 = .ok (.bipush (-5), 2) := by decide +kernel
theorem dX5_held_55 : decode cX5_held 55 = .ok (.ireturn, 1) := by decide +kernel
theorem dX5_held_56 : decode cX5_held 56 = .ok (.iload_n 3, 1) := by decide +kernel
theorem dX5_held_57 : decode cX5_held 57 = .ok (.lookupswitch 43 #[(0, 27), (1, 35)], 27) := by decide +kernel
theorem dX5_held_84 : decode cX5_held 84 = .ok (.aload 4, 2) := by decide +kernel
theorem dX5_held_86 : decode cX5_held 86 = .ok (.getfield 161, 3) := by decide +kernel
theorem dX5_held_89 : decode cX5_held 89 = .ok (.iload_n 2, 1) := by decide +kernel
theorem dX5_held_90 : decode cX5_held 90 = .ok (.iaload, 1) := by decide +kernel
theorem dX5_held_91 : decode cX5_held 91 = .ok (.ireturn, 1) := by decide +kernel
theorem dX5_held_92 : decode cX5_held 92 = .ok (.aload 4, 2) := by decide +kernel
theorem dX5_held_94 : decode cX5_held 94 = .ok (.getfield 164, 3) := by decide +kernel
theorem dX5_held_97 : decode cX5_held 97 = .ok (.iload_n 2, 1) := by decide +kernel
theorem dX5_held_98 : decode cX5_held 98 = .ok (.iaload, 1) := by decide +kernel
theorem dX5_held_99 : decode cX5_held 99 = .ok (.ireturn, 1) := by decide +kernel
theorem dX5_held_100 : decode cX5_held 100 = .ok (.aload 4, 2) := by decide +kernel
theorem dX5_held_102 : decode cX5_held 102 = .ok (.getfield 167, 3) := by decide +kernel
theorem dX5_held_105 : decode cX5_held 105 = .ok (.iload_n 2, 1) := by decide +kernel
theorem dX5_held_106 : decode cX5_held 106 = .ok (.baload, 1) := by decide +kernel
theorem dX5_held_107 : decode cX5_held 107 = .ok (.ifCond .eq 7, 3) := by decide +kernel
theorem dX5_held_110 : decode cX5_held 110 = .ok (.iconst 1, 1) := by decide +kernel
theorem dX5_held_111 : decode cX5_held 111 = .ok (.goto 4, 3) := by decide +kernel
theorem dX5_held_114 : decode cX5_held 114 = .ok (.iconst 0, 1) := by decide +kernel
theorem dX5_held_115 : decode cX5_held 115 = .ok (.ireturn, 1) := by decide +kernel
set_option maxRecDepth 20000 in
theorem ggX5_counter_X5_isCore : GoodIn wsX5_counter wsX5_isCore := goodIn_r _ [8, 9, 10, 7, 11] (by decide +kernel) (by decide +kernel)
set_option maxRecDepth 20000 in
theorem gX5_counter_X5_isCore : GoodIn wsX5_counter (va_wsS RX5 36 yX5_isCore wsX5_isCore) := goodIn_app (goodIn_of _ (by decide +kernel)) ggX5_counter_X5_isCore
set_option maxRecDepth 20000 in
theorem ggX5_counter_X5_isWithin : GoodIn wsX5_counter wsX5_isWithin := goodIn_r _ [11] (by decide +kernel) (by decide +kernel)
set_option maxRecDepth 20000 in
theorem gX5_counter_X5_isWithin : GoodIn wsX5_counter (va_wsS RX5 51 yX5_isWithin wsX5_isWithin) := goodIn_app (goodIn_of _ (by decide +kernel)) ggX5_counter_X5_isWithin
theorem dX5_counter_0 : decode cX5_counter 0 = .ok (.iload_n 1, 1) := by decide +kernel
theorem dX5_counter_1 : decode cX5_counter 1 = .ok (.invokestatic 36, 3) := by decide +kernel
theorem dX5_counter_4 : decode cX5_counter 4 = .ok (.ifCond .eq 13, 3) := by decide +kernel
theorem dX5_counter_7 : decode cX5_counter 7 = .ok (.iload_n 2, 1) := by decide +kernel
theorem dX5_counter_8 : decode cX5_counter 8 = .ok (.iconst 0, 1) := by decide +kernel
theorem dX5_counter_9 : decode cX5_counter 9 = .ok (.bipush 23, 2) := by decide +kernel
theorem dX5_counter_11 : decode cX5_counter 11 = .ok (.invokestatic 51, 3) := by decide +kernel
theorem dX5_counter_14 : decode cX5_counter 14 = .ok (.ifCond .ne 5, 3) := by decide +kernel
theorem dX5_counter_17 : decode cX5_counter 17 = .ok (.iconst (-1), 1) := by decide +kernel
theorem dX5_counter_18 : decode cX5_counter 18 = .ok (.ireturn, 1) := by decide +kernel
theorem dX5_counter_19 : decode cX5_counter 19 = .ok (.aload_n 0, 1) := by decide +kernel
theorem dX5_counter_20 : decode cX5_counter 20 = .ok (.getfield 12, 3) := by decide +kernel
theorem dX5_counter_23 : decode cX5_counter 23 = .ok (.getfield 59, 3) := by decide +kernel
theorem dX5_counter_26 : decode cX5_counter 26 = .ok (.iload_n 1, 1) := by decide +kernel
theorem dX5_counter_27 : decode cX5_counter 27 = .ok (.aaload, 1) := by decide +kernel
theorem dX5_counter_28 : decode cX5_counter 28 = .ok (.getfield 142, 3) := by decide +kernel
theorem dX5_counter_31 : decode cX5_counter 31 = .ok (.getfield 171, 3) := by decide +kernel
theorem dX5_counter_34 : decode cX5_counter 34 = .ok (.iload_n 2, 1) := by decide +kernel
theorem dX5_counter_35 : decode cX5_counter 35 = .ok (.iaload, 1) := by decide +kernel
theorem dX5_counter_36 : decode cX5_counter 36 = .ok (.ireturn, 1) := by decide +kernel
set_option maxRecDepth 20000 in
theorem ggX5_bit_X5_isCore : GoodIn wsX5_bit wsX5_isCore := goodIn_r _ [8, 9, 10, 7, 11] (by decide +kernel) (by decide +kernel)
set_option maxRecDepth 20000 in
theorem gX5_bit_X5_isCore : GoodIn wsX5_bit (va_wsS RX5 36 yX5_isCore wsX5_isCore) := goodIn_app (goodIn_of _ (by decide +kernel)) ggX5_bit_X5_isCore
set_option maxRecDepth 20000 in
theorem ggX5_bit_X5_isWithin : GoodIn wsX5_bit wsX5_isWithin := goodIn_r _ [11] (by decide +kernel) (by decide +kernel)
set_option maxRecDepth 20000 in
theorem gX5_bit_X5_isWithin : GoodIn wsX5_bit (va_wsS RX5 51 yX5_isWithin wsX5_isWithin) := goodIn_app (goodIn_of _ (by decide +kernel)) ggX5_bit_X5_isWithin
theorem dX5_bit_0 : decode cX5_bit 0 = .ok (.iload_n 1, 1) := by decide +kernel
theorem dX5_bit_1 : decode cX5_bit 1 = .ok (.invokestatic 36, 3) := by decide +kernel
theorem dX5_bit_4 : decode cX5_bit 4 = .ok (.ifCond .eq 13, 3) := by decide +kernel
theorem dX5_bit_7 : decode cX5_bit 7 = .ok (.iload_n 2, 1) := by decide +kernel
theorem dX5_bit_8 : decode cX5_bit 8 = .ok (.iconst 0, 1) := by decide +kernel
theorem dX5_bit_9 : decode cX5_bit 9 = .ok (.bipush 15, 2) := by decide +kernel
theorem dX5_bit_11 : decode cX5_bit 11 = .ok (.invokestatic 51, 3) := by decide +kernel
theorem dX5_bit_14 : decode cX5_bit 14 = .ok (.ifCond .ne 5, 3) := by decide +kernel
theorem dX5_bit_17 : decode cX5_bit 17 = .ok (.iconst (-1), 1) := by decide +kernel
theorem dX5_bit_18 : decode cX5_bit 18 = .ok (.ireturn, 1) := by decide +kernel
theorem dX5_bit_19 : decode cX5_bit 19 = .ok (.aload_n 0, 1) := by decide +kernel
theorem dX5_bit_20 : decode cX5_bit 20 = .ok (.getfield 12, 3) := by decide +kernel
theorem dX5_bit_23 : decode cX5_bit 23 = .ok (.getfield 59, 3) := by decide +kernel
theorem dX5_bit_26 : decode cX5_bit 26 = .ok (.iload_n 1, 1) := by decide +kernel
theorem dX5_bit_27 : decode cX5_bit 27 = .ok (.aaload, 1) := by decide +kernel
theorem dX5_bit_28 : decode cX5_bit 28 = .ok (.getfield 142, 3) := by decide +kernel
theorem dX5_bit_31 : decode cX5_bit 31 = .ok (.getfield 174, 3) := by decide +kernel
theorem dX5_bit_34 : decode cX5_bit 34 = .ok (.iload_n 2, 1) := by decide +kernel
theorem dX5_bit_35 : decode cX5_bit 35 = .ok (.baload, 1) := by decide +kernel
theorem dX5_bit_36 : decode cX5_bit 36 = .ok (.ifCond .eq 7, 3) := by decide +kernel
theorem dX5_bit_39 : decode cX5_bit 39 = .ok (.iconst 1, 1) := by decide +kernel
theorem dX5_bit_40 : decode cX5_bit 40 = .ok (.goto 4, 3) := by decide +kernel
theorem dX5_bit_43 : decode cX5_bit 43 = .ok (.iconst 0, 1) := by decide +kernel
theorem dX5_bit_44 : decode cX5_bit 44 = .ok (.ireturn, 1) := by decide +kernel
set_option maxRecDepth 20000 in
theorem ggX5_line_X5_isLine : GoodIn wsX5_line wsX5_isLine := goodIn_r _ [6, 7, 8, 5, 9] (by decide +kernel) (by decide +kernel)
set_option maxRecDepth 20000 in
theorem gX5_line_X5_isLine : GoodIn wsX5_line (va_wsS RX5 40 yX5_isLine wsX5_isLine) := goodIn_app (goodIn_of _ (by decide +kernel)) ggX5_line_X5_isLine
set_option maxRecDepth 20000 in
theorem ggX5_line_X3_valueForReader : GoodIn wsX5_line wsX3_valueForReader := goodIn_r _ [14, 15, 16, 17, 18, 19, 20, 21, 22, 23, 24, 25, 26, 27, 65, 66, 67, 68, 69, 70, 71, 72, 73, 74, 75] (by decide +kernel) (by decide +kernel)
set_option maxRecDepth 20000 in
theorem gX5_line_X3_valueForReader : GoodIn wsX5_line (wsV RX5 180 RX3 yX3_valueForReader wsX3_valueForReader) := goodIn_app (goodIn_of _ (by decide +kernel)) ggX5_line_X3_valueForReader
set_option maxRecDepth 20000 in
theorem ggX5_line_X3_holdersOf : GoodIn wsX5_line wsX3_holdersOf := goodIn_r _ [31, 15, 18, 19, 20, 21, 22, 23, 24, 25, 26, 65, 66, 67, 68, 69, 70, 71, 72, 73, 74, 75] (by decide +kernel) (by decide +kernel)
set_option maxRecDepth 20000 in
theorem gX5_line_X3_holdersOf : GoodIn wsX5_line (wsV RX5 183 RX3 yX3_holdersOf wsX3_holdersOf) := goodIn_app (goodIn_of _ (by decide +kernel)) ggX5_line_X3_holdersOf
set_option maxRecDepth 20000 in
theorem ggX5_line_X3_coresThatMayHave : GoodIn wsX5_line wsX3_coresThatMayHave := goodIn_r _ [35, 15, 36, 37, 38, 39, 40, 41, 42, 43, 44, 45, 46, 47, 48, 49, 50, 51, 52, 53, 65, 66, 67, 68, 69, 70, 71, 72, 73, 74, 75, 76, 77, 78] (by decide +kernel) (by decide +kernel)
set_option maxRecDepth 20000 in
theorem gX5_line_X3_coresThatMayHave : GoodIn wsX5_line (wsV RX5 186 RX3 yX3_coresThatMayHave wsX3_coresThatMayHave) := goodIn_app (goodIn_of _ (by decide +kernel)) ggX5_line_X3_coresThatMayHave
set_option maxRecDepth 20000 in
theorem ggX5_line_X1_firstCounter : GoodIn wsX5_line wsX1_firstCounter := goodIn_r _ [50] (by decide +kernel) (by decide +kernel)
set_option maxRecDepth 20000 in
theorem gX5_line_X1_firstCounter : GoodIn wsX5_line (va_wsS RX5 189 yX1_firstCounter wsX1_firstCounter) := goodIn_app (goodIn_of _ (by decide +kernel)) ggX5_line_X1_firstCounter
set_option maxRecDepth 20000 in
theorem ggX5_line_X1_secondCounter : GoodIn wsX5_line wsX1_secondCounter := goodIn_r _ [53] (by decide +kernel) (by decide +kernel)
set_option maxRecDepth 20000 in
theorem gX5_line_X1_secondCounter : GoodIn wsX5_line (va_wsS RX5 192 yX1_secondCounter wsX1_secondCounter) := goodIn_app (goodIn_of _ (by decide +kernel)) ggX5_line_X1_secondCounter
theorem dX5_line_0 : decode cX5_line 0 = .ok (.iload_n 1, 1) := by decide +kernel
theorem dX5_line_1 : decode cX5_line 1 = .ok (.invokestatic 40, 3) := by decide +kernel
theorem dX5_line_4 : decode cX5_line 4 = .ok (.ifCond .ne 5, 3) := by decide +kernel
theorem dX5_line_7 : decode cX5_line 7 = .ok (.iconst (-1), 1) := by decide +kernel
theorem dX5_line_8 : decode cX5_line 8 = .ok (.ireturn, 1) := by decide +kernel
theorem dX5_line_9 : decode cX5_line 9 = .ok (.iload_n 2, 1) := by decide +kernel
theorem dX5_line_10 : decode cX5_line 10 = .ok (.tableswitch 85 0 5 #[38, 48, 57, 66, 75, 80], 38) := by decide +kernel
theorem dX5_line_48 : decode cX5_line 48 = .ok (.aload_n 0, 1) := by decide +kernel
theorem dX5_line_49 : decode cX5_line 49 = .ok (.getfield 12, 3) := by decide +kernel
theorem dX5_line_52 : decode cX5_line 52 = .ok (.getfield 177, 3) := by decide +kernel
theorem dX5_line_55 : decode cX5_line 55 = .ok (.iload_n 1, 1) := by decide +kernel
theorem dX5_line_56 : decode cX5_line 56 = .ok (.iaload, 1) := by decide +kernel
theorem dX5_line_57 : decode cX5_line 57 = .ok (.ireturn, 1) := by decide +kernel
theorem dX5_line_58 : decode cX5_line 58 = .ok (.aload_n 0, 1) := by decide +kernel
theorem dX5_line_59 : decode cX5_line 59 = .ok (.getfield 12, 3) := by decide +kernel
theorem dX5_line_62 : decode cX5_line 62 = .ok (.iload_n 1, 1) := by decide +kernel
theorem dX5_line_63 : decode cX5_line 63 = .ok (.invokevirtual 180, 3) := by decide +kernel
theorem dX5_line_66 : decode cX5_line 66 = .ok (.ireturn, 1) := by decide +kernel
theorem dX5_line_67 : decode cX5_line 67 = .ok (.aload_n 0, 1) := by decide +kernel
theorem dX5_line_68 : decode cX5_line 68 = .ok (.getfield 12, 3) := by decide +kernel
theorem dX5_line_71 : decode cX5_line 71 = .ok (.iload_n 1, 1) := by decide +kernel
theorem dX5_line_72 : decode cX5_line 72 = .ok (.invokevirtual 183, 3) := by decide +kernel
theorem dX5_line_75 : decode cX5_line 75 = .ok (.ireturn, 1) := by decide +kernel
theorem dX5_line_76 : decode cX5_line 76 = .ok (.aload_n 0, 1) := by decide +kernel
theorem dX5_line_77 : decode cX5_line 77 = .ok (.getfield 12, 3) := by decide +kernel
theorem dX5_line_80 : decode cX5_line 80 = .ok (.iload_n 1, 1) := by decide +kernel
theorem dX5_line_81 : decode cX5_line 81 = .ok (.invokevirtual 186, 3) := by decide +kernel
theorem dX5_line_84 : decode cX5_line 84 = .ok (.ireturn, 1) := by decide +kernel
theorem dX5_line_85 : decode cX5_line 85 = .ok (.iload_n 1, 1) := by decide +kernel
theorem dX5_line_86 : decode cX5_line 86 = .ok (.invokestatic 189, 3) := by decide +kernel
theorem dX5_line_89 : decode cX5_line 89 = .ok (.ireturn, 1) := by decide +kernel
theorem dX5_line_90 : decode cX5_line 90 = .ok (.iload_n 1, 1) := by decide +kernel
theorem dX5_line_91 : decode cX5_line 91 = .ok (.invokestatic 192, 3) := by decide +kernel
theorem dX5_line_94 : decode cX5_line 94 = .ok (.ireturn, 1) := by decide +kernel
theorem dX5_line_95 : decode cX5_line 95 = .ok (.bipush (-2), 2) := by decide +kernel
theorem dX5_line_97 : decode cX5_line 97 = .ok (.ireturn, 1) := by decide +kernel
set_option maxRecDepth 20000 in
theorem ggX5_reason_X5_isCore : GoodIn wsX5_reason wsX5_isCore := goodIn_r _ [7, 8, 9, 6, 10] (by decide +kernel) (by decide +kernel)
set_option maxRecDepth 20000 in
theorem gX5_reason_X5_isCore : GoodIn wsX5_reason (va_wsS RX5 36 yX5_isCore wsX5_isCore) := goodIn_app (goodIn_of _ (by decide +kernel)) ggX5_reason_X5_isCore
set_option maxRecDepth 20000 in
theorem ggX5_reason_X5_isLine : GoodIn wsX5_reason wsX5_isLine := goodIn_r _ [13, 8, 9, 6, 10] (by decide +kernel) (by decide +kernel)
set_option maxRecDepth 20000 in
theorem gX5_reason_X5_isLine : GoodIn wsX5_reason (va_wsS RX5 40 yX5_isLine wsX5_isLine) := goodIn_app (goodIn_of _ (by decide +kernel)) ggX5_reason_X5_isLine
set_option maxRecDepth 20000 in
theorem ggX5_reason_X0_holds : GoodIn wsX5_reason wsX0_holds := goodIn_r _ [18, 19, 20, 21, 17, 22, 56, 57, 58, 59, 60] (by decide +kernel) (by decide +kernel)
set_option maxRecDepth 20000 in
theorem gX5_reason_X0_holds : GoodIn wsX5_reason (wsV RX5 63 RX0 yX0_holds wsX0_holds) := goodIn_app (goodIn_of _ (by decide +kernel)) ggX5_reason_X0_holds
set_option maxRecDepth 20000 in
theorem ggX5_reason_X1_mayHave : GoodIn wsX5_reason wsX1_mayHave := goodIn_r _ [27, 28, 29, 30, 31, 26, 32, 33, 34, 35, 36, 37, 38, 39, 61, 62, 63] (by decide +kernel) (by decide +kernel)
set_option maxRecDepth 20000 in
theorem gX5_reason_X1_mayHave : GoodIn wsX5_reason (wsV RX5 195 RX1 yX1_mayHave wsX1_mayHave) := goodIn_app (goodIn_of _ (by decide +kernel)) ggX5_reason_X1_mayHave
set_option maxRecDepth 20000 in
theorem ggX5_reason_X1_hasBitOf : GoodIn wsX5_reason wsX1_hasBitOf := goodIn_r _ [32, 33, 61, 62, 63] (by decide +kernel) (by decide +kernel)
set_option maxRecDepth 20000 in
theorem gX5_reason_X1_hasBitOf : GoodIn wsX5_reason (wsV RX5 198 RX1 yX1_hasBitOf wsX1_hasBitOf) := goodIn_app (goodIn_of _ (by decide +kernel)) ggX5_reason_X1_hasBitOf
theorem dX5_reason_0 : decode cX5_reason 0 = .ok (.iload_n 1, 1) := by decide +kernel
theorem dX5_reason_1 : decode cX5_reason 1 = .ok (.invokestatic 36, 3) := by decide +kernel
theorem dX5_reason_4 : decode cX5_reason 4 = .ok (.ifCond .eq 10, 3) := by decide +kernel
theorem dX5_reason_7 : decode cX5_reason 7 = .ok (.iload_n 2, 1) := by decide +kernel
theorem dX5_reason_8 : decode cX5_reason 8 = .ok (.invokestatic 40, 3) := by decide +kernel
theorem dX5_reason_11 : decode cX5_reason 11 = .ok (.ifCond .ne 5, 3) := by decide +kernel
theorem dX5_reason_14 : decode cX5_reason 14 = .ok (.iconst (-1), 1) := by decide +kernel
theorem dX5_reason_15 : decode cX5_reason 15 = .ok (.ireturn, 1) := by decide +kernel
theorem dX5_reason_16 : decode cX5_reason 16 = .ok (.aload_n 0, 1) := by decide +kernel
theorem dX5_reason_17 : decode cX5_reason 17 = .ok (.getfield 12, 3) := by decide +kernel
theorem dX5_reason_20 : decode cX5_reason 20 = .ok (.getfield 59, 3) := by decide +kernel
theorem dX5_reason_23 : decode cX5_reason 23 = .ok (.iload_n 1, 1) := by decide +kernel
theorem dX5_reason_24 : decode cX5_reason 24 = .ok (.aaload, 1) := by decide +kernel
theorem dX5_reason_25 : decode cX5_reason 25 = .ok (.astore_n 3, 1) := by decide +kernel
theorem dX5_reason_26 : decode cX5_reason 26 = .ok (.aload_n 3, 1) := by decide +kernel
theorem dX5_reason_27 : decode cX5_reason 27 = .ok (.iload_n 2, 1) := by decide +kernel
theorem dX5_reason_28 : decode cX5_reason 28 = .ok (.invokevirtual 63, 3) := by decide +kernel
theorem dX5_reason_31 : decode cX5_reason 31 = .ok (.ifCond .eq 5, 3) := by decide +kernel
theorem dX5_reason_34 : decode cX5_reason 34 = .ok (.iconst 0, 1) := by decide +kernel
theorem dX5_reason_35 : decode cX5_reason 35 = .ok (.ireturn, 1) := by decide +kernel
theorem dX5_reason_36 : decode cX5_reason 36 = .ok (.aload_n 3, 1) := by decide +kernel
theorem dX5_reason_37 : decode cX5_reason 37 = .ok (.getfield 142, 3) := by decide +kernel
theorem dX5_reason_40 : decode cX5_reason 40 = .ok (.iload_n 2, 1) := by decide +kernel
theorem dX5_reason_41 : decode cX5_reason 41 = .ok (.invokevirtual 195, 3) := by decide +kernel
theorem dX5_reason_44 : decode cX5_reason 44 = .ok (.ifCond .eq 5, 3) := by decide +kernel
theorem dX5_reason_47 : decode cX5_reason 47 = .ok (.iconst 1, 1) := by decide +kernel
theorem dX5_reason_48 : decode cX5_reason 48 = .ok (.ireturn, 1) := by decide +kernel
theorem dX5_reason_49 : decode cX5_reason 49 = .ok (.aload_n 3, 1) := by decide +kernel
theorem dX5_reason_50 : decode cX5_reason 50 = .ok (.getfield 142, 3) := by decide +kernel
theorem dX5_reason_53 : decode cX5_reason 53 = .ok (.iload_n 2, 1) := by decide +kernel
theorem dX5_reason_54 : decode cX5_reason 54 = .ok (.invokevirtual 198, 3) := by decide +kernel
theorem dX5_reason_57 : decode cX5_reason 57 = .ok (.ifCond .eq 7, 3) := by decide +kernel
theorem dX5_reason_60 : decode cX5_reason 60 = .ok (.iconst 3, 1) := by decide +kernel
theorem dX5_reason_61 : decode cX5_reason 61 = .ok (.goto 4, 3) := by decide +kernel
theorem dX5_reason_64 : decode cX5_reason 64 = .ok (.iconst 2, 1) := by decide +kernel
theorem dX5_reason_65 : decode cX5_reason 65 = .ok (.ireturn, 1) := by decide +kernel
set_option maxRecDepth 20000 in
theorem ggX5_cost_X5_isCore : GoodIn wsX5_cost wsX5_isCore := goodIn_r _ [7, 8, 9, 6, 10] (by decide +kernel) (by decide +kernel)
set_option maxRecDepth 20000 in
theorem gX5_cost_X5_isCore : GoodIn wsX5_cost (va_wsS RX5 36 yX5_isCore wsX5_isCore) := goodIn_app (goodIn_of _ (by decide +kernel)) ggX5_cost_X5_isCore
set_option maxRecDepth 20000 in
theorem ggX5_cost_X5_isLine : GoodIn wsX5_cost wsX5_isLine := goodIn_r _ [13, 8, 9, 6, 10] (by decide +kernel) (by decide +kernel)
set_option maxRecDepth 20000 in
theorem gX5_cost_X5_isLine : GoodIn wsX5_cost (va_wsS RX5 40 yX5_isLine wsX5_isLine) := goodIn_app (goodIn_of _ (by decide +kernel)) ggX5_cost_X5_isLine
set_option maxRecDepth 20000 in
theorem ggX5_cost_X5_isWithin : GoodIn wsX5_cost wsX5_isWithin := goodIn_r _ [10] (by decide +kernel) (by decide +kernel)
set_option maxRecDepth 20000 in
theorem gX5_cost_X5_isWithin : GoodIn wsX5_cost (va_wsS RX5 51 yX5_isWithin wsX5_isWithin) := goodIn_app (goodIn_of _ (by decide +kernel)) ggX5_cost_X5_isWithin
set_option maxRecDepth 20000 in
theorem ggX5_cost_X3_copyFrom : GoodIn wsX5_cost wsX3_copyFrom := goodIn_r _ [18, 19, 20, 21, 22, 23, 24, 25, 26, 27, 28, 29, 30, 31, 32, 33, 34, 35, 36, 37, 38, 39, 40, 41, 42, 43, 44, 45, 46, 47, 48, 163, 164, 165, 166, 167, 168, 169, 170, 171, 172, 173, 174, 175, 176] (by decide +kernel) (by decide +kernel)
set_option maxRecDepth 20000 in
theorem gX5_cost_X3_copyFrom : GoodIn wsX5_cost (wsV RX5 97 RX3 yX3_copyFrom wsX3_copyFrom) := goodIn_app (goodIn_of _ (by decide +kernel)) ggX5_cost_X3_copyFrom
set_option maxRecDepth 20000 in
theorem ggX5_cost_X3_writeLine : GoodIn wsX5_cost wsX3_writeLine := goodIn_r _ [52, 24, 28, 53, 54, 55, 32, 56, 37, 57, 58, 59, 60, 34, 61, 62, 63, 64, 65, 66, 17, 67, 68, 69, 70, 71, 39, 38, 72, 73, 74, 43, 75, 45, 76, 77, 78, 79, 48, 80, 81, 82, 83, 84, 85, 86, 87, 88, 89, 90, 91, 92, 93, 94, 95, 96, 97, 98, 47, 99, 100, 101, 102, 103, 104, 105, 106, 36, 107, 108, 109, 110, 111, 112, 113, 114, 115, 116, 117, 19, 118, 27, 119, 120, 121, 122, 123, 25, 26, 124, 125, 126, 127, 128, 129, 130, 131, 132, 133, 134, 135, 136, 137, 138, 139, 140, 141, 142, 143, 144, 145, 163, 164, 165, 166, 167, 168, 169, 170, 171, 172, 173, 174, 175, 176] (by decide +kernel) (by decide +kernel)
set_option maxRecDepth 20000 in
theorem gX5_cost_X3_writeLine : GoodIn wsX5_cost (wsV RX5 55 RX3 yX3_writeLine wsX3_writeLine) := goodIn_app (goodIn_of _ (by decide +kernel)) ggX5_cost_X3_writeLine
set_option maxRecDepth 20000 in
theorem ggX5_cost_X3_readLine : GoodIn wsX5_cost wsX3_readLine := goodIn_r _ [149, 24, 140, 118, 19, 107, 62, 32, 63, 86, 58, 59, 60, 34, 61, 68, 69, 70, 71, 39, 38, 72, 73, 74, 43, 75, 45, 76, 77, 78, 79, 48, 80, 81, 82, 83, 84, 85, 57, 113, 114, 115, 17, 116, 112, 117, 27, 108, 109, 110, 111, 87, 88, 89, 90, 91, 92, 93, 94, 95, 96, 97, 98, 47, 99, 100, 101, 102, 37, 119, 120, 121, 122, 123, 25, 26, 103, 104, 105, 106, 36, 124, 125, 126, 127, 128, 129, 130, 131, 132, 133, 134, 135, 136, 137, 138, 139, 141, 142, 143, 144, 145, 163, 164, 165, 166, 167, 168, 169, 170, 171, 172, 173, 174, 175, 176] (by decide +kernel) (by decide +kernel)
set_option maxRecDepth 20000 in
theorem gX5_cost_X3_readLine : GoodIn wsX5_cost (wsV RX5 47 RX3 yX3_readLine wsX3_readLine) := goodIn_app (goodIn_of _ (by decide +kernel)) ggX5_cost_X3_readLine
set_option maxRecDepth 20000 in
theorem ggX5_cost_X3_sumOf : GoodIn wsX5_cost wsX3_sumOf := goodIn_r _ [153, 24, 140, 163, 164, 165, 166, 167, 168, 169, 170, 171, 172, 173] (by decide +kernel) (by decide +kernel)
set_option maxRecDepth 20000 in
theorem gX5_cost_X3_sumOf : GoodIn wsX5_cost (wsV RX5 201 RX3 yX3_sumOf wsX3_sumOf) := goodIn_app (goodIn_of _ (by decide +kernel)) ggX5_cost_X3_sumOf
theorem dX5_cost_0 : decode cX5_cost 0 = .ok (.iload_n 1, 1) := by decide +kernel
theorem dX5_cost_1 : decode cX5_cost 1 = .ok (.invokestatic 36, 3) := by decide +kernel
theorem dX5_cost_4 : decode cX5_cost 4 = .ok (.ifCond .eq 10, 3) := by decide +kernel
theorem dX5_cost_7 : decode cX5_cost 7 = .ok (.iload_n 2, 1) := by decide +kernel
theorem dX5_cost_8 : decode cX5_cost 8 = .ok (.invokestatic 40, 3) := by decide +kernel
theorem dX5_cost_11 : decode cX5_cost 11 = .ok (.ifCond .ne 5, 3) := by decide +kernel
theorem dX5_cost_14 : decode cX5_cost 14 = .ok (.iconst (-1), 1) := by decide +kernel
theorem dX5_cost_15 : decode cX5_cost 15 = .ok (.ireturn, 1) := by decide +kernel
theorem dX5_cost_16 : decode cX5_cost 16 = .ok (.iload 4, 2) := by decide +kernel
theorem dX5_cost_18 : decode cX5_cost 18 = .ok (.iconst 0, 1) := by decide +kernel
theorem dX5_cost_19 : decode cX5_cost 19 = .ok (.iconst 3, 1) := by decide +kernel
theorem dX5_cost_20 : decode cX5_cost 20 = .ok (.invokestatic 51, 3) := by decide +kernel
theorem dX5_cost_23 : decode cX5_cost 23 = .ok (.ifCond .ne 6, 3) := by decide +kernel
theorem dX5_cost_26 : decode cX5_cost 26 = .ok (.bipush (-2), 2) := by decide +kernel
theorem dX5_cost_28 : decode cX5_cost 28 = .ok (.ireturn, 1) := by decide +kernel
theorem dX5_cost_29 : decode cX5_cost 29 = .ok (.aload_n 0, 1) := by decide +kernel
theorem dX5_cost_30 : decode cX5_cost 30 = .ok (.getfield 16, 3) := by decide +kernel
theorem dX5_cost_33 : decode cX5_cost 33 = .ok (.aload_n 0, 1) := by decide +kernel
theorem dX5_cost_34 : decode cX5_cost 34 = .ok (.getfield 12, 3) := by decide +kernel
theorem dX5_cost_37 : decode cX5_cost 37 = .ok (.invokevirtual 97, 3) := by decide +kernel
theorem dX5_cost_40 : decode cX5_cost 40 = .ok (.iload_n 3, 1) := by decide +kernel
theorem dX5_cost_41 : decode cX5_cost 41 = .ok (.ifCond .eq 17, 3) := by decide +kernel
theorem dX5_cost_44 : decode cX5_cost 44 = .ok (.aload_n 0, 1) := by decide +kernel
theorem dX5_cost_45 : decode cX5_cost 45 = .ok (.getfield 16, 3) := by decide +kernel
theorem dX5_cost_48 : decode cX5_cost 48 = .ok (.iload_n 1, 1) := by decide +kernel
theorem dX5_cost_49 : decode cX5_cost 49 = .ok (.iload_n 2, 1) := by decide +kernel
theorem dX5_cost_50 : decode cX5_cost 50 = .ok (.iconst 0, 1) := by decide +kernel
theorem dX5_cost_51 : decode cX5_cost 51 = .ok (.invokevirtual 55, 3) := by decide +kernel
theorem dX5_cost_54 : decode cX5_cost 54 = .ok (.pop, 1) := by decide +kernel
theorem dX5_cost_55 : decode cX5_cost 55 = .ok (.goto 13, 3) := by decide +kernel
theorem dX5_cost_58 : decode cX5_cost 58 = .ok (.aload_n 0, 1) := by decide +kernel
theorem dX5_cost_59 : decode cX5_cost 59 = .ok (.getfield 16, 3) := by decide +kernel
theorem dX5_cost_62 : decode cX5_cost 62 = .ok (.iload_n 1, 1) := by decide +kernel
theorem dX5_cost_63 : decode cX5_cost 63 = .ok (.iload_n 2, 1) := by decide +kernel
theorem dX5_cost_64 : decode cX5_cost 64 = .ok (.invokevirtual 47, 3) := by decide +kernel
theorem dX5_cost_67 : decode cX5_cost 67 = .ok (.pop, 1) := by decide +kernel
theorem dX5_cost_68 : decode cX5_cost 68 = .ok (.iload 4, 2) := by decide +kernel
theorem dX5_cost_70 : decode cX5_cost 70 = .ok (.tableswitch 78 0 2 #[26, 44, 62], 26) := by decide +kernel
theorem dX5_cost_96 : decode cX5_cost 96 = .ok (.aload_n 0, 1) := by decide +kernel
theorem dX5_cost_97 : decode cX5_cost 97 = .ok (.getfield 16, 3) := by decide +kernel
theorem dX5_cost_100 : decode cX5_cost 100 = .ok (.iconst 2, 1) := by decide +kernel
theorem dX5_cost_101 : decode cX5_cost 101 = .ok (.invokevirtual 201, 3) := by decide +kernel
theorem dX5_cost_104 : decode cX5_cost 104 = .ok (.aload_n 0, 1) := by decide +kernel
theorem dX5_cost_105 : decode cX5_cost 105 = .ok (.getfield 12, 3) := by decide +kernel
theorem dX5_cost_108 : decode cX5_cost 108 = .ok (.iconst 2, 1) := by decide +kernel
theorem dX5_cost_109 : decode cX5_cost 109 = .ok (.invokevirtual 201, 3) := by decide +kernel
theorem dX5_cost_112 : decode cX5_cost 112 = .ok (.isub, 1) := by decide +kernel
theorem dX5_cost_113 : decode cX5_cost 113 = .ok (.ireturn, 1) := by decide +kernel
theorem dX5_cost_114 : decode cX5_cost 114 = .ok (.aload_n 0, 1) := by decide +kernel
theorem dX5_cost_115 : decode cX5_cost 115 = .ok (.getfield 16, 3) := by decide +kernel
theorem dX5_cost_118 : decode cX5_cost 118 = .ok (.iconst 3, 1) := by decide +kernel
theorem dX5_cost_119 : decode cX5_cost 119 = .ok (.invokevirtual 201, 3) := by decide +kernel
theorem dX5_cost_122 : decode cX5_cost 122 = .ok (.aload_n 0, 1) := by decide +kernel
theorem dX5_cost_123 : decode cX5_cost 123 = .ok (.getfield 12, 3) := by decide +kernel
theorem dX5_cost_126 : decode cX5_cost 126 = .ok (.iconst 3, 1) := by decide +kernel
theorem dX5_cost_127 : decode cX5_cost 127 = .ok (.invokevirtual 201, 3) := by decide +kernel
theorem dX5_cost_130 : decode cX5_cost 130 = .ok (.isub, 1) := by decide +kernel
theorem dX5_cost_131 : decode cX5_cost 131 = .ok (.ireturn, 1) := by decide +kernel
theorem dX5_cost_132 : decode cX5_cost 132 = .ok (.aload_n 0, 1) := by decide +kernel
theorem dX5_cost_133 : decode cX5_cost 133 = .ok (.getfield 16, 3) := by decide +kernel
theorem dX5_cost_136 : decode cX5_cost 136 = .ok (.getfield 204, 3) := by decide +kernel
theorem dX5_cost_139 : decode cX5_cost 139 = .ok (.aload_n 0, 1) := by decide +kernel
theorem dX5_cost_140 : decode cX5_cost 140 = .ok (.getfield 12, 3) := by decide +kernel
theorem dX5_cost_143 : decode cX5_cost 143 = .ok (.getfield 204, 3) := by decide +kernel
theorem dX5_cost_146 : decode cX5_cost 146 = .ok (.isub, 1) := by decide +kernel
theorem dX5_cost_147 : decode cX5_cost 147 = .ok (.ireturn, 1) := by decide +kernel
theorem dX5_cost_148 : decode cX5_cost 148 = .ok (.aload_n 0, 1) := by decide +kernel
theorem dX5_cost_149 : decode cX5_cost 149 = .ok (.getfield 16, 3) := by decide +kernel
theorem dX5_cost_152 : decode cX5_cost 152 = .ok (.iconst 5, 1) := by decide +kernel
theorem dX5_cost_153 : decode cX5_cost 153 = .ok (.invokevirtual 201, 3) := by decide +kernel
theorem dX5_cost_156 : decode cX5_cost 156 = .ok (.aload_n 0, 1) := by decide +kernel
theorem dX5_cost_157 : decode cX5_cost 157 = .ok (.getfield 12, 3) := by decide +kernel
theorem dX5_cost_160 : decode cX5_cost 160 = .ok (.iconst 5, 1) := by decide +kernel
theorem dX5_cost_161 : decode cX5_cost 161 = .ok (.invokevirtual 201, 3) := by decide +kernel
theorem dX5_cost_164 : decode cX5_cost 164 = .ok (.isub, 1) := by decide +kernel
theorem dX5_cost_165 : decode cX5_cost 165 = .ok (.ireturn, 1) := by decide +kernel
set_option maxRecDepth 20000 in
theorem ggX5_vain_X5_isCore : GoodIn wsX5_vain wsX5_isCore := goodIn_r _ [7, 8, 9, 6, 10] (by decide +kernel) (by decide +kernel)
set_option maxRecDepth 20000 in
theorem gX5_vain_X5_isCore : GoodIn wsX5_vain (va_wsS RX5 36 yX5_isCore wsX5_isCore) := goodIn_app (goodIn_of _ (by decide +kernel)) ggX5_vain_X5_isCore
set_option maxRecDepth 20000 in
theorem ggX5_vain_X1_mayHave : GoodIn wsX5_vain wsX1_mayHave := goodIn_r _ [15, 16, 17, 18, 19, 14, 20, 21, 22, 23, 24, 25, 26, 27, 57, 58, 59] (by decide +kernel) (by decide +kernel)
set_option maxRecDepth 20000 in
theorem gX5_vain_X1_mayHave : GoodIn wsX5_vain (wsV RX5 195 RX1 yX1_mayHave wsX1_mayHave) := goodIn_app (goodIn_of _ (by decide +kernel)) ggX5_vain_X1_mayHave
set_option maxRecDepth 20000 in
theorem ggX5_vain_X0_holds : GoodIn wsX5_vain wsX0_holds := goodIn_r _ [32, 33, 34, 35, 31, 36, 52, 53, 54, 55, 56] (by decide +kernel) (by decide +kernel)
set_option maxRecDepth 20000 in
theorem gX5_vain_X0_holds : GoodIn wsX5_vain (wsV RX5 63 RX0 yX0_holds wsX0_holds) := goodIn_app (goodIn_of _ (by decide +kernel)) ggX5_vain_X0_holds
theorem dX5_vain_0 : decode cX5_vain 0 = .ok (.iload_n 1, 1) := by decide +kernel
theorem dX5_vain_1 : decode cX5_vain 1 = .ok (.invokestatic 36, 3) := by decide +kernel
theorem dX5_vain_4 : decode cX5_vain 4 = .ok (.ifCond .ne 5, 3) := by decide +kernel
theorem dX5_vain_7 : decode cX5_vain 7 = .ok (.iconst (-1), 1) := by decide +kernel
theorem dX5_vain_8 : decode cX5_vain 8 = .ok (.ireturn, 1) := by decide +kernel
theorem dX5_vain_9 : decode cX5_vain 9 = .ok (.aload_n 0, 1) := by decide +kernel
theorem dX5_vain_10 : decode cX5_vain 10 = .ok (.getfield 12, 3) := by decide +kernel
theorem dX5_vain_13 : decode cX5_vain 13 = .ok (.getfield 59, 3) := by decide +kernel
theorem dX5_vain_16 : decode cX5_vain 16 = .ok (.iload_n 1, 1) := by decide +kernel
theorem dX5_vain_17 : decode cX5_vain 17 = .ok (.aaload, 1) := by decide +kernel
theorem dX5_vain_18 : decode cX5_vain 18 = .ok (.astore_n 2, 1) := by decide +kernel
theorem dX5_vain_19 : decode cX5_vain 19 = .ok (.iconst 0, 1) := by decide +kernel
theorem dX5_vain_20 : decode cX5_vain 20 = .ok (.istore_n 3, 1) := by decide +kernel
theorem dX5_vain_21 : decode cX5_vain 21 = .ok (.iconst 0, 1) := by decide +kernel
theorem dX5_vain_22 : decode cX5_vain 22 = .ok (.istore 4, 2) := by decide +kernel
theorem dX5_vain_24 : decode cX5_vain 24 = .ok (.iload 4, 2) := by decide +kernel
theorem dX5_vain_26 : decode cX5_vain 26 = .ok (.sipush 256, 3) := by decide +kernel
theorem dX5_vain_29 : decode cX5_vain 29 = .ok (.if_icmp .ge 33, 3) := by decide +kernel
theorem dX5_vain_32 : decode cX5_vain 32 = .ok (.aload_n 2, 1) := by decide +kernel
theorem dX5_vain_33 : decode cX5_vain 33 = .ok (.getfield 142, 3) := by decide +kernel
theorem dX5_vain_36 : decode cX5_vain 36 = .ok (.iload 4, 2) := by decide +kernel
theorem dX5_vain_38 : decode cX5_vain 38 = .ok (.invokevirtual 195, 3) := by decide +kernel
theorem dX5_vain_41 : decode cX5_vain 41 = .ok (.ifCond .eq 15, 3) := by decide +kernel
theorem dX5_vain_44 : decode cX5_vain 44 = .ok (.aload_n 2, 1) := by decide +kernel
theorem dX5_vain_45 : decode cX5_vain 45 = .ok (.iload 4, 2) := by decide +kernel
theorem dX5_vain_47 : decode cX5_vain 47 = .ok (.invokevirtual 63, 3) := by decide +kernel
theorem dX5_vain_50 : decode cX5_vain 50 = .ok (.ifCond .ne 6, 3) := by decide +kernel
theorem dX5_vain_53 : decode cX5_vain 53 = .ok (.iinc 3 1, 3) := by decide +kernel
theorem dX5_vain_56 : decode cX5_vain 56 = .ok (.iinc 4 1, 3) := by decide +kernel
theorem dX5_vain_59 : decode cX5_vain 59 = .ok (.goto (-35), 3) := by decide +kernel
theorem dX5_vain_62 : decode cX5_vain 62 = .ok (.iload_n 3, 1) := by decide +kernel
theorem dX5_vain_63 : decode cX5_vain 63 = .ok (.ireturn, 1) := by decide +kernel
theorem dX5_worst_0 : decode cX5_worst 0 = .ok (.bipush (-5), 2) := by decide +kernel
theorem dX5_worst_2 : decode cX5_worst 2 = .ok (.istore_n 1, 1) := by decide +kernel
theorem dX5_worst_3 : decode cX5_worst 3 = .ok (.iconst 0, 1) := by decide +kernel
theorem dX5_worst_4 : decode cX5_worst 4 = .ok (.istore_n 2, 1) := by decide +kernel
theorem dX5_worst_5 : decode cX5_worst 5 = .ok (.iconst 0, 1) := by decide +kernel
theorem dX5_worst_6 : decode cX5_worst 6 = .ok (.istore_n 3, 1) := by decide +kernel
theorem dX5_worst_7 : decode cX5_worst 7 = .ok (.iload_n 3, 1) := by decide +kernel
theorem dX5_worst_8 : decode cX5_worst 8 = .ok (.iconst 4, 1) := by decide +kernel
theorem dX5_worst_9 : decode cX5_worst 9 = .ok (.if_icmp .ge 36, 3) := by decide +kernel
theorem dX5_worst_12 : decode cX5_worst 12 = .ok (.aload_n 0, 1) := by decide +kernel
theorem dX5_worst_13 : decode cX5_worst 13 = .ok (.getfield 12, 3) := by decide +kernel
theorem dX5_worst_16 : decode cX5_worst 16 = .ok (.getfield 59, 3) := by decide +kernel
theorem dX5_worst_19 : decode cX5_worst 19 = .ok (.iload_n 3, 1) := by decide +kernel
theorem dX5_worst_20 : decode cX5_worst 20 = .ok (.aaload, 1) := by decide +kernel
theorem dX5_worst_21 : decode cX5_worst 21 = .ok (.getfield 157, 3) := by decide +kernel
theorem dX5_worst_24 : decode cX5_worst 24 = .ok (.iconst 3, 1) := by decide +kernel
theorem dX5_worst_25 : decode cX5_worst 25 = .ok (.iaload, 1) := by decide +kernel
theorem dX5_worst_26 : decode cX5_worst 26 = .ok (.istore 4, 2) := by decide +kernel
theorem dX5_worst_28 : decode cX5_worst 28 = .ok (.iload 4, 2) := by decide +kernel
theorem dX5_worst_30 : decode cX5_worst 30 = .ok (.iload_n 2, 1) := by decide +kernel
theorem dX5_worst_31 : decode cX5_worst 31 = .ok (.if_icmp .le 8, 3) := by decide +kernel
theorem dX5_worst_34 : decode cX5_worst 34 = .ok (.iload 4, 2) := by decide +kernel
theorem dX5_worst_36 : decode cX5_worst 36 = .ok (.istore_n 2, 1) := by decide +kernel
theorem dX5_worst_37 : decode cX5_worst 37 = .ok (.iload_n 3, 1) := by decide +kernel
theorem dX5_worst_38 : decode cX5_worst 38 = .ok (.istore_n 1, 1) := by decide +kernel
theorem dX5_worst_39 : decode cX5_worst 39 = .ok (.iinc 3 1, 3) := by decide +kernel
theorem dX5_worst_42 : decode cX5_worst 42 = .ok (.goto (-35), 3) := by decide +kernel
theorem dX5_worst_45 : decode cX5_worst 45 = .ok (.iload_n 1, 1) := by decide +kernel
theorem dX5_worst_46 : decode cX5_worst 46 = .ok (.ireturn, 1) := by decide +kernel
set_option maxRecDepth 20000 in
theorem ggX5_count_X3_heldByAll : GoodIn wsX5_count wsX3_heldByAll := goodIn_r _ [14, 15, 16, 17, 18, 19, 20, 21, 48, 49, 50, 51, 52, 53, 65, 66, 67, 68, 69] (by decide +kernel) (by decide +kernel)
set_option maxRecDepth 20000 in
theorem gX5_count_X3_heldByAll : GoodIn wsX5_count (wsV RX5 133 RX3 yX3_heldByAll wsX3_heldByAll) := goodIn_app (goodIn_of _ (by decide +kernel)) ggX5_count_X3_heldByAll
set_option maxRecDepth 20000 in
theorem ggX5_count_X3_dirtyOfAll : GoodIn wsX5_count wsX3_dirtyOfAll := goodIn_r _ [25, 15, 26, 27, 28, 19, 29, 30, 31, 32, 33, 48, 49, 50, 51, 52, 53, 65, 66, 67, 68, 69] (by decide +kernel) (by decide +kernel)
set_option maxRecDepth 20000 in
theorem gX5_count_X3_dirtyOfAll : GoodIn wsX5_count (wsV RX5 207 RX3 yX3_dirtyOfAll wsX3_dirtyOfAll) := goodIn_app (goodIn_of _ (by decide +kernel)) ggX5_count_X3_dirtyOfAll
set_option maxRecDepth 20000 in
theorem ggX5_count_X3_sumOf : GoodIn wsX5_count wsX3_sumOf := goodIn_r _ [37, 15, 38, 48, 49, 50, 51, 52, 53, 65, 66, 67, 68, 69] (by decide +kernel) (by decide +kernel)
set_option maxRecDepth 20000 in
theorem gX5_count_X3_sumOf : GoodIn wsX5_count (wsV RX5 201 RX3 yX3_sumOf wsX3_sumOf) := goodIn_app (goodIn_of _ (by decide +kernel)) ggX5_count_X3_sumOf
theorem dX5_count_0 : decode cX5_count 0 = .ok (.iload_n 1, 1) := by decide +kernel
theorem dX5_count_1 : decode cX5_count 1 = .ok (.tableswitch 189 0 13 #[71, 79, 87, 96, 105, 114, 122, 131, 140, 149, 157, 165, 173, 181], 71) := by decide +kernel
theorem dX5_count_72 : decode cX5_count 72 = .ok (.aload_n 0, 1) := by decide +kernel
theorem dX5_count_73 : decode cX5_count 73 = .ok (.getfield 12, 3) := by decide +kernel
theorem dX5_count_76 : decode cX5_count 76 = .ok (.invokevirtual 133, 3) := by decide +kernel
theorem dX5_count_79 : decode cX5_count 79 = .ok (.ireturn, 1) := by decide +kernel
theorem dX5_count_80 : decode cX5_count 80 = .ok (.aload_n 0, 1) := by decide +kernel
theorem dX5_count_81 : decode cX5_count 81 = .ok (.getfield 12, 3) := by decide +kernel
theorem dX5_count_84 : decode cX5_count 84 = .ok (.invokevirtual 207, 3) := by decide +kernel
theorem dX5_count_87 : decode cX5_count 87 = .ok (.ireturn, 1) := by decide +kernel
theorem dX5_count_88 : decode cX5_count 88 = .ok (.aload_n 0, 1) := by decide +kernel
theorem dX5_count_89 : decode cX5_count 89 = .ok (.getfield 12, 3) := by decide +kernel
theorem dX5_count_92 : decode cX5_count 92 = .ok (.iconst 2, 1) := by decide +kernel
theorem dX5_count_93 : decode cX5_count 93 = .ok (.invokevirtual 201, 3) := by decide +kernel
theorem dX5_count_96 : decode cX5_count 96 = .ok (.ireturn, 1) := by decide +kernel
theorem dX5_count_97 : decode cX5_count 97 = .ok (.aload_n 0, 1) := by decide +kernel
theorem dX5_count_98 : decode cX5_count 98 = .ok (.getfield 12, 3) := by decide +kernel
theorem dX5_count_101 : decode cX5_count 101 = .ok (.iconst 3, 1) := by decide +kernel
theorem dX5_count_102 : decode cX5_count 102 = .ok (.invokevirtual 201, 3) := by decide +kernel
theorem dX5_count_105 : decode cX5_count 105 = .ok (.ireturn, 1) := by decide +kernel
theorem dX5_count_106 : decode cX5_count 106 = .ok (.aload_n 0, 1) := by decide +kernel
theorem dX5_count_107 : decode cX5_count 107 = .ok (.getfield 12, 3) := by decide +kernel
theorem dX5_count_110 : decode cX5_count 110 = .ok (.iconst 4, 1) := by decide +kernel
theorem dX5_count_111 : decode cX5_count 111 = .ok (.invokevirtual 201, 3) := by decide +kernel
theorem dX5_count_114 : decode cX5_count 114 = .ok (.ireturn, 1) := by decide +kernel
theorem dX5_count_115 : decode cX5_count 115 = .ok (.aload_n 0, 1) := by decide +kernel
theorem dX5_count_116 : decode cX5_count 116 = .ok (.getfield 12, 3) := by decide +kernel
theorem dX5_count_119 : decode cX5_count 119 = .ok (.getfield 204, 3) := by decide +kernel
theorem dX5_count_122 : decode cX5_count 122 = .ok (.ireturn, 1) := by decide +kernel
theorem dX5_count_123 : decode cX5_count 123 = .ok (.aload_n 0, 1) := by decide +kernel
theorem dX5_count_124 : decode cX5_count 124 = .ok (.getfield 12, 3) := by decide +kernel
theorem dX5_count_127 : decode cX5_count 127 = .ok (.iconst 5, 1) := by decide +kernel
theorem dX5_count_128 : decode cX5_count 128 = .ok (.invokevirtual 201, 3) := by decide +kernel
theorem dX5_count_131 : decode cX5_count 131 = .ok (.ireturn, 1) := by decide +kernel
theorem dX5_count_132 : decode cX5_count 132 = .ok (.aload_n 0, 1) := by decide +kernel
theorem dX5_count_133 : decode cX5_count 133 = .ok (.getfield 12, 3) := by decide +kernel
theorem dX5_count_136 : decode cX5_count 136 = .ok (.iconst 0, 1) := by decide +kernel
theorem dX5_count_137 : decode cX5_count 137 = .ok (.invokevirtual 201, 3) := by decide +kernel
theorem dX5_count_140 : decode cX5_count 140 = .ok (.ireturn, 1) := by decide +kernel
theorem dX5_count_141 : decode cX5_count 141 = .ok (.aload_n 0, 1) := by decide +kernel
theorem dX5_count_142 : decode cX5_count 142 = .ok (.getfield 12, 3) := by decide +kernel
theorem dX5_count_145 : decode cX5_count 145 = .ok (.iconst 1, 1) := by decide +kernel
theorem dX5_count_146 : decode cX5_count 146 = .ok (.invokevirtual 201, 3) := by decide +kernel
theorem dX5_count_149 : decode cX5_count 149 = .ok (.ireturn, 1) := by decide +kernel
theorem dX5_count_150 : decode cX5_count 150 = .ok (.aload_n 0, 1) := by decide +kernel
theorem dX5_count_151 : decode cX5_count 151 = .ok (.getfield 12, 3) := by decide +kernel
theorem dX5_count_154 : decode cX5_count 154 = .ok (.getfield 210, 3) := by decide +kernel
theorem dX5_count_157 : decode cX5_count 157 = .ok (.ireturn, 1) := by decide +kernel
theorem dX5_count_158 : decode cX5_count 158 = .ok (.aload_n 0, 1) := by decide +kernel
theorem dX5_count_159 : decode cX5_count 159 = .ok (.getfield 12, 3) := by decide +kernel
theorem dX5_count_162 : decode cX5_count 162 = .ok (.getfield 79, 3) := by decide +kernel
theorem dX5_count_165 : decode cX5_count 165 = .ok (.ireturn, 1) := by decide +kernel
theorem dX5_count_166 : decode cX5_count 166 = .ok (.aload_n 0, 1) := by decide +kernel
theorem dX5_count_167 : decode cX5_count 167 = .ok (.getfield 12, 3) := by decide +kernel
theorem dX5_count_170 : decode cX5_count 170 = .ok (.getfield 83, 3) := by decide +kernel
theorem dX5_count_173 : decode cX5_count 173 = .ok (.ireturn, 1) := by decide +kernel
theorem dX5_count_174 : decode cX5_count 174 = .ok (.aload_n 0, 1) := by decide +kernel
theorem dX5_count_175 : decode cX5_count 175 = .ok (.getfield 25, 3) := by decide +kernel
theorem dX5_count_178 : decode cX5_count 178 = .ok (.getfield 124, 3) := by decide +kernel
theorem dX5_count_181 : decode cX5_count 181 = .ok (.ireturn, 1) := by decide +kernel
theorem dX5_count_182 : decode cX5_count 182 = .ok (.aload_n 0, 1) := by decide +kernel
theorem dX5_count_183 : decode cX5_count 183 = .ok (.getfield 32, 3) := by decide +kernel
theorem dX5_count_186 : decode cX5_count 186 = .ok (.getfield 90, 3) := by decide +kernel
theorem dX5_count_189 : decode cX5_count 189 = .ok (.ireturn, 1) := by decide +kernel
theorem dX5_count_190 : decode cX5_count 190 = .ok (.bipush (-2), 2) := by decide +kernel
theorem dX5_count_192 : decode cX5_count 192 = .ok (.ireturn, 1) := by decide +kernel
theorem dX5_isWithin_0 : decode cX5_isWithin 0 = .ok (.iload_n 0, 1) := by decide +kernel
theorem dX5_isWithin_1 : decode cX5_isWithin 1 = .ok (.iload_n 1, 1) := by decide +kernel
theorem dX5_isWithin_2 : decode cX5_isWithin 2 = .ok (.if_icmp .lt 12, 3) := by decide +kernel
theorem dX5_isWithin_5 : decode cX5_isWithin 5 = .ok (.iload_n 0, 1) := by decide +kernel
theorem dX5_isWithin_6 : decode cX5_isWithin 6 = .ok (.iload_n 2, 1) := by decide +kernel
theorem dX5_isWithin_7 : decode cX5_isWithin 7 = .ok (.if_icmp .gt 7, 3) := by decide +kernel
theorem dX5_isWithin_10 : decode cX5_isWithin 10 = .ok (.iconst 1, 1) := by decide +kernel
theorem dX5_isWithin_11 : decode cX5_isWithin 11 = .ok (.goto 4, 3) := by decide +kernel
theorem dX5_isWithin_14 : decode cX5_isWithin 14 = .ok (.iconst 0, 1) := by decide +kernel
theorem dX5_isWithin_15 : decode cX5_isWithin 15 = .ok (.ireturn, 1) := by decide +kernel
set_option maxRecDepth 20000 in
theorem ggX5_isCore_X5_isWithin : GoodIn wsX5_isCore wsX5_isWithin := goodIn_r _ [4] (by decide +kernel) (by decide +kernel)
set_option maxRecDepth 20000 in
theorem gX5_isCore_X5_isWithin : GoodIn wsX5_isCore (va_wsS RX5 51 yX5_isWithin wsX5_isWithin) := goodIn_app (goodIn_of _ (by decide +kernel)) ggX5_isCore_X5_isWithin
theorem dX5_isCore_0 : decode cX5_isCore 0 = .ok (.iload_n 0, 1) := by decide +kernel
theorem dX5_isCore_1 : decode cX5_isCore 1 = .ok (.iconst 0, 1) := by decide +kernel
theorem dX5_isCore_2 : decode cX5_isCore 2 = .ok (.iconst 3, 1) := by decide +kernel
theorem dX5_isCore_3 : decode cX5_isCore 3 = .ok (.invokestatic 51, 3) := by decide +kernel
theorem dX5_isCore_6 : decode cX5_isCore 6 = .ok (.ireturn, 1) := by decide +kernel
set_option maxRecDepth 20000 in
theorem ggX5_isLine_X5_isWithin : GoodIn wsX5_isLine wsX5_isWithin := goodIn_r _ [4] (by decide +kernel) (by decide +kernel)
set_option maxRecDepth 20000 in
theorem gX5_isLine_X5_isWithin : GoodIn wsX5_isLine (va_wsS RX5 51 yX5_isWithin wsX5_isWithin) := goodIn_app (goodIn_of _ (by decide +kernel)) ggX5_isLine_X5_isWithin
theorem dX5_isLine_0 : decode cX5_isLine 0 = .ok (.iload_n 0, 1) := by decide +kernel
theorem dX5_isLine_1 : decode cX5_isLine 1 = .ok (.iconst 0, 1) := by decide +kernel
theorem dX5_isLine_2 : decode cX5_isLine 2 = .ok (.sipush 255, 3) := by decide +kernel
theorem dX5_isLine_5 : decode cX5_isLine 5 = .ok (.invokestatic 51, 3) := by decide +kernel
theorem dX5_isLine_8 : decode cX5_isLine 8 = .ok (.ireturn, 1) := by decide +kernel
theorem dX5_howManyAreTrue_0 : decode cX5_howManyAreTrue 0 = .ok (.iconst 0, 1) := by decide +kernel
theorem dX5_howManyAreTrue_1 : decode cX5_howManyAreTrue 1 = .ok (.istore_n 1, 1) := by decide +kernel
theorem dX5_howManyAreTrue_2 : decode cX5_howManyAreTrue 2 = .ok (.aload_n 0, 1) := by decide +kernel
theorem dX5_howManyAreTrue_3 : decode cX5_howManyAreTrue 3 = .ok (.astore_n 2, 1) := by decide +kernel
theorem dX5_howManyAreTrue_4 : decode cX5_howManyAreTrue 4 = .ok (.aload_n 2, 1) := by decide +kernel
theorem dX5_howManyAreTrue_5 : decode cX5_howManyAreTrue 5 = .ok (.arraylength, 1) := by decide +kernel
theorem dX5_howManyAreTrue_6 : decode cX5_howManyAreTrue 6 = .ok (.istore_n 3, 1) := by decide +kernel
theorem dX5_howManyAreTrue_7 : decode cX5_howManyAreTrue 7 = .ok (.iconst 0, 1) := by decide +kernel
theorem dX5_howManyAreTrue_8 : decode cX5_howManyAreTrue 8 = .ok (.istore 4, 2) := by decide +kernel
theorem dX5_howManyAreTrue_10 : decode cX5_howManyAreTrue 10 = .ok (.iload 4, 2) := by decide +kernel
theorem dX5_howManyAreTrue_12 : decode cX5_howManyAreTrue 12 = .ok (.iload_n 3, 1) := by decide +kernel
theorem dX5_howManyAreTrue_13 : decode cX5_howManyAreTrue 13 = .ok (.if_icmp .ge 23, 3) := by decide +kernel
theorem dX5_howManyAreTrue_16 : decode cX5_howManyAreTrue 16 = .ok (.aload_n 2, 1) := by decide +kernel
theorem dX5_howManyAreTrue_17 : decode cX5_howManyAreTrue 17 = .ok (.iload 4, 2) := by decide +kernel
theorem dX5_howManyAreTrue_19 : decode cX5_howManyAreTrue 19 = .ok (.baload, 1) := by decide +kernel
theorem dX5_howManyAreTrue_20 : decode cX5_howManyAreTrue 20 = .ok (.istore 5, 2) := by decide +kernel
theorem dX5_howManyAreTrue_22 : decode cX5_howManyAreTrue 22 = .ok (.iload 5, 2) := by decide +kernel
theorem dX5_howManyAreTrue_24 : decode cX5_howManyAreTrue 24 = .ok (.ifCond .eq 6, 3) := by decide +kernel
theorem dX5_howManyAreTrue_27 : decode cX5_howManyAreTrue 27 = .ok (.iinc 1 1, 3) := by decide +kernel
theorem dX5_howManyAreTrue_30 : decode cX5_howManyAreTrue 30 = .ok (.iinc 4 1, 3) := by decide +kernel
theorem dX5_howManyAreTrue_33 : decode cX5_howManyAreTrue 33 = .ok (.goto (-23), 3) := by decide +kernel
theorem dX5_howManyAreTrue_36 : decode cX5_howManyAreTrue 36 = .ok (.iload_n 1, 1) := by decide +kernel
theorem dX5_howManyAreTrue_37 : decode cX5_howManyAreTrue 37 = .ok (.ireturn, 1) := by decide +kernel
theorem dX5_noteStop_0 : decode cX5_noteStop 0 = .ok (.aload_n 0, 1) := by decide +kernel
theorem dX5_noteStop_1 : decode cX5_noteStop 1 = .ok (.iconst 1, 1) := by decide +kernel
theorem dX5_noteStop_2 : decode cX5_noteStop 2 = .ok (.putfield 114, 3) := by decide +kernel
theorem dX5_noteStop_5 : decode cX5_noteStop 5 = .ok (.aload_n 0, 1) := by decide +kernel
theorem dX5_noteStop_6 : decode cX5_noteStop 6 = .ok (.iload_n 1, 1) := by decide +kernel
theorem dX5_noteStop_7 : decode cX5_noteStop 7 = .ok (.putfield 118, 3) := by decide +kernel
theorem dX5_noteStop_10 : decode cX5_noteStop 10 = .ok (.aload_n 0, 1) := by decide +kernel
theorem dX5_noteStop_11 : decode cX5_noteStop 11 = .ok (.iload_n 2, 1) := by decide +kernel
theorem dX5_noteStop_12 : decode cX5_noteStop 12 = .ok (.putfield 121, 3) := by decide +kernel
theorem dX5_noteStop_15 : decode cX5_noteStop 15 = .ok (.return_, 1) := by decide +kernel
