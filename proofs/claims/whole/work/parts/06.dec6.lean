theorem dX6_init_0 : decode cX6_init 0 = .ok (.aload_n 0, 1) := by decide +kernel
theorem dX6_init_1 : decode cX6_init 1 = .ok (.invokespecial 1, 3) := by decide +kernel
theorem dX6_init_4 : decode cX6_init 4 = .ok (.aload_n 0, 1) := by decide +kernel
theorem dX6_init_5 : decode cX6_init 5 = .ok (.sipush 544, 3) := by decide +kernel
theorem dX6_init_8 : decode cX6_init 8 = .ok (.newarray .int, 2) := by decide +kernel
theorem dX6_init_10 : decode cX6_init 10 = .ok (.putfield 7, 3) := by decide +kernel
theorem dX6_init_13 : decode cX6_init 13 = .ok (.aload_n 0, 1) := by decide +kernel
theorem dX6_init_14 : decode cX6_init 14 = .ok (.sipush 544, 3) := by decide +kernel
theorem dX6_init_17 : decode cX6_init 17 = .ok (.newarray .int, 2) := by decide +kernel
theorem dX6_init_19 : decode cX6_init 19 = .ok (.putfield 13, 3) := by decide +kernel
theorem dX6_init_22 : decode cX6_init 22 = .ok (.aload_n 0, 1) := by decide +kernel
theorem dX6_init_23 : decode cX6_init 23 = .ok (.sipush 2176, 3) := by decide +kernel
theorem dX6_init_26 : decode cX6_init 26 = .ok (.newarray .int, 2) := by decide +kernel
theorem dX6_init_28 : decode cX6_init 28 = .ok (.putfield 16, 3) := by decide +kernel
theorem dX6_init_31 : decode cX6_init 31 = .ok (.aload_n 0, 1) := by decide +kernel
theorem dX6_init_32 : decode cX6_init 32 = .ok (.sipush 544, 3) := by decide +kernel
theorem dX6_init_35 : decode cX6_init 35 = .ok (.newarray .int, 2) := by decide +kernel
theorem dX6_init_37 : decode cX6_init 37 = .ok (.putfield 19, 3) := by decide +kernel
theorem dX6_init_40 : decode cX6_init 40 = .ok (.aload_n 0, 1) := by decide +kernel
theorem dX6_init_41 : decode cX6_init 41 = .ok (.bipush 80, 2) := by decide +kernel
theorem dX6_init_43 : decode cX6_init 43 = .ok (.newarray .int, 2) := by decide +kernel
theorem dX6_init_45 : decode cX6_init 45 = .ok (.putfield 22, 3) := by decide +kernel
theorem dX6_init_48 : decode cX6_init 48 = .ok (.iconst 0, 1) := by decide +kernel
theorem dX6_init_49 : decode cX6_init 49 = .ok (.istore_n 1, 1) := by decide +kernel
theorem dX6_init_50 : decode cX6_init 50 = .ok (.iload_n 1, 1) := by decide +kernel
theorem dX6_init_51 : decode cX6_init 51 = .ok (.bipush 32, 2) := by decide +kernel
theorem dX6_init_53 : decode cX6_init 53 = .ok (.if_icmp .ge 21, 3) := by decide +kernel
theorem dX6_init_56 : decode cX6_init 56 = .ok (.aload_n 0, 1) := by decide +kernel
theorem dX6_init_57 : decode cX6_init 57 = .ok (.getfield 7, 3) := by decide +kernel
theorem dX6_init_60 : decode cX6_init 60 = .ok (.sipush 256, 3) := by decide +kernel
theorem dX6_init_63 : decode cX6_init 63 = .ok (.iload_n 1, 1) := by decide +kernel
theorem dX6_init_64 : decode cX6_init 64 = .ok (.iadd, 1) := by decide +kernel
theorem dX6_init_65 : decode cX6_init 65 = .ok (.bipush (-5), 2) := by decide +kernel
theorem dX6_init_67 : decode cX6_init 67 = .ok (.iastore, 1) := by decide +kernel
theorem dX6_init_68 : decode cX6_init 68 = .ok (.iinc 1 1, 3) := by decide +kernel
theorem dX6_init_71 : decode cX6_init 71 = .ok (.goto (-21), 3) := by decide +kernel
theorem dX6_init_74 : decode cX6_init 74 = .ok (.aload_n 0, 1) := by decide +kernel
theorem dX6_init_75 : decode cX6_init 75 = .ok (.getfield 7, 3) := by decide +kernel
theorem dX6_init_78 : decode cX6_init 78 = .ok (.sipush 536, 3) := by decide +kernel
theorem dX6_init_81 : decode cX6_init 81 = .ok (.iconst 3, 1) := by decide +kernel
theorem dX6_init_82 : decode cX6_init 82 = .ok (.iastore, 1) := by decide +kernel
theorem dX6_init_83 : decode cX6_init 83 = .ok (.aload_n 0, 1) := by decide +kernel
theorem dX6_init_84 : decode cX6_init 84 = .ok (.getfield 7, 3) := by decide +kernel
theorem dX6_init_87 : decode cX6_init 87 = .ok (.sipush 537, 3) := by decide +kernel
theorem dX6_init_90 : decode cX6_init 90 = .ok (.bipush 20, 2) := by decide +kernel
theorem dX6_init_92 : decode cX6_init 92 = .ok (.iastore, 1) := by decide +kernel
theorem dX6_init_93 : decode cX6_init 93 = .ok (.aload_n 0, 1) := by decide +kernel
theorem dX6_init_94 : decode cX6_init 94 = .ok (.bipush (-5), 2) := by decide +kernel
theorem dX6_init_96 : decode cX6_init 96 = .ok (.putfield 25, 3) := by decide +kernel
theorem dX6_init_99 : decode cX6_init 99 = .ok (.return_, 1) := by decide +kernel
theorem dX6_in_0 : decode cX6_in 0 = .ok (.iload_n 0, 1) := by decide +kernel
theorem dX6_in_1 : decode cX6_in 1 = .ok (.iload_n 1, 1) := by decide +kernel
theorem dX6_in_2 : decode cX6_in 2 = .ok (.if_icmp .lt 12, 3) := by decide +kernel
theorem dX6_in_5 : decode cX6_in 5 = .ok (.iload_n 0, 1) := by decide +kernel
theorem dX6_in_6 : decode cX6_in 6 = .ok (.iload_n 2, 1) := by decide +kernel
theorem dX6_in_7 : decode cX6_in 7 = .ok (.if_icmp .gt 7, 3) := by decide +kernel
theorem dX6_in_10 : decode cX6_in 10 = .ok (.iconst 1, 1) := by decide +kernel
theorem dX6_in_11 : decode cX6_in 11 = .ok (.goto 4, 3) := by decide +kernel
theorem dX6_in_14 : decode cX6_in 14 = .ok (.iconst 0, 1) := by decide +kernel
theorem dX6_in_15 : decode cX6_in 15 = .ok (.ireturn, 1) := by decide +kernel
set_option maxRecDepth 20000 in
theorem ggX6_isCore_X6_in : GoodIn wsX6_isCore wsX6_in := goodIn_r _ [4] (by decide +kernel) (by decide +kernel)
set_option maxRecDepth 20000 in
theorem gX6_isCore_X6_in : GoodIn wsX6_isCore (va_wsS RX6 29 yX6_in wsX6_in) := goodIn_app (goodIn_of _ (by decide +kernel)) ggX6_isCore_X6_in
theorem dX6_isCore_0 : decode cX6_isCore 0 = .ok (.iload_n 0, 1) := by decide +kernel
theorem dX6_isCore_1 : decode cX6_isCore 1 = .ok (.iconst 0, 1) := by decide +kernel
theorem dX6_isCore_2 : decode cX6_isCore 2 = .ok (.iconst 3, 1) := by decide +kernel
theorem dX6_isCore_3 : decode cX6_isCore 3 = .ok (.invokestatic 29, 3) := by decide +kernel
theorem dX6_isCore_6 : decode cX6_isCore 6 = .ok (.ireturn, 1) := by decide +kernel
set_option maxRecDepth 20000 in
theorem ggX6_isLine_X6_in : GoodIn wsX6_isLine wsX6_in := goodIn_r _ [4] (by decide +kernel) (by decide +kernel)
set_option maxRecDepth 20000 in
theorem gX6_isLine_X6_in : GoodIn wsX6_isLine (va_wsS RX6 29 yX6_in wsX6_in) := goodIn_app (goodIn_of _ (by decide +kernel)) ggX6_isLine_X6_in
theorem dX6_isLine_0 : decode cX6_isLine 0 = .ok (.iload_n 0, 1) := by decide +kernel
theorem dX6_isLine_1 : decode cX6_isLine 1 = .ok (.iconst 0, 1) := by decide +kernel
theorem dX6_isLine_2 : decode cX6_isLine 2 = .ok (.sipush 255, 3) := by decide +kernel
theorem dX6_isLine_5 : decode cX6_isLine 5 = .ok (.invokestatic 29, 3) := by decide +kernel
theorem dX6_isLine_8 : decode cX6_isLine 8 = .ok (.ireturn, 1) := by decide +kernel
theorem dX6_placeOf_0 : decode cX6_placeOf 0 = .ok (.bipush 8, 2) := by decide +kernel
theorem dX6_placeOf_2 : decode cX6_placeOf 2 = .ok (.iload_n 0, 1) := by decide +kernel
theorem dX6_placeOf_3 : decode cX6_placeOf 3 = .ok (.imul, 1) := by decide +kernel
theorem dX6_placeOf_4 : decode cX6_placeOf 4 = .ok (.iload_n 1, 1) := by decide +kernel
theorem dX6_placeOf_5 : decode cX6_placeOf 5 = .ok (.bipush 8, 2) := by decide +kernel
theorem dX6_placeOf_7 : decode cX6_placeOf 7 = .ok (.irem, 1) := by decide +kernel
theorem dX6_placeOf_8 : decode cX6_placeOf 8 = .ok (.iadd, 1) := by decide +kernel
theorem dX6_placeOf_9 : decode cX6_placeOf 9 = .ok (.ireturn, 1) := by decide +kernel
theorem dX6_told_0 : decode cX6_told 0 = .ok (.sipush 512, 3) := by decide +kernel
theorem dX6_told_3 : decode cX6_told 3 = .ok (.bipush 6, 2) := by decide +kernel
theorem dX6_told_5 : decode cX6_told 5 = .ok (.iload_n 0, 1) := by decide +kernel
theorem dX6_told_6 : decode cX6_told 6 = .ok (.imul, 1) := by decide +kernel
theorem dX6_told_7 : decode cX6_told 7 = .ok (.iadd, 1) := by decide +kernel
theorem dX6_told_8 : decode cX6_told 8 = .ok (.iload_n 1, 1) := by decide +kernel
theorem dX6_told_9 : decode cX6_told 9 = .ok (.iadd, 1) := by decide +kernel
theorem dX6_told_10 : decode cX6_told 10 = .ok (.ireturn, 1) := by decide +kernel
theorem dX6_record_0 : decode cX6_record 0 = .ok (.aload_n 0, 1) := by decide +kernel
theorem dX6_record_1 : decode cX6_record 1 = .ok (.getfield 33, 3) := by decide +kernel
theorem dX6_record_4 : decode cX6_record 4 = .ok (.iconst 4, 1) := by decide +kernel
theorem dX6_record_5 : decode cX6_record 5 = .ok (.if_icmp .ne 44, 3) := by decide +kernel
theorem dX6_record_8 : decode cX6_record 8 = .ok (.iconst 0, 1) := by decide +kernel
theorem dX6_record_9 : decode cX6_record 9 = .ok (.istore_n 1, 1) := by decide +kernel
theorem dX6_record_10 : decode cX6_record 10 = .ok (.iload_n 1, 1) := by decide +kernel
theorem dX6_record_11 : decode cX6_record 11 = .ok (.sipush 1632, 3) := by decide +kernel
theorem dX6_record_14 : decode cX6_record 14 = .ok (.if_icmp .ge 25, 3) := by decide +kernel
theorem dX6_record_17 : decode cX6_record 17 = .ok (.aload_n 0, 1) := by decide +kernel
theorem dX6_record_18 : decode cX6_record 18 = .ok (.getfield 16, 3) := by decide +kernel
theorem dX6_record_21 : decode cX6_record 21 = .ok (.iload_n 1, 1) := by decide +kernel
theorem dX6_record_22 : decode cX6_record 22 = .ok (.aload_n 0, 1) := by decide +kernel
theorem dX6_record_23 : decode cX6_record 23 = .ok (.getfield 16, 3) := by decide +kernel
theorem dX6_record_26 : decode cX6_record 26 = .ok (.iload_n 1, 1) := by decide +kernel
theorem dX6_record_27 : decode cX6_record 27 = .ok (.sipush 544, 3) := by decide +kernel
theorem dX6_record_30 : decode cX6_record 30 = .ok (.iadd, 1) := by decide +kernel
theorem dX6_record_31 : decode cX6_record 31 = .ok (.iaload, 1) := by decide +kernel
theorem dX6_record_32 : decode cX6_record 32 = .ok (.iastore, 1) := by decide +kernel
theorem dX6_record_33 : decode cX6_record 33 = .ok (.iinc 1 1, 3) := by decide +kernel
theorem dX6_record_36 : decode cX6_record 36 = .ok (.goto (-26), 3) := by decide +kernel
theorem dX6_record_39 : decode cX6_record 39 = .ok (.aload_n 0, 1) := by decide +kernel
theorem dX6_record_40 : decode cX6_record 40 = .ok (.dup, 1) := by decide +kernel
theorem dX6_record_41 : decode cX6_record 41 = .ok (.getfield 33, 3) := by decide +kernel
theorem dX6_record_44 : decode cX6_record 44 = .ok (.iconst 1, 1) := by decide +kernel
theorem dX6_record_45 : decode cX6_record 45 = .ok (.isub, 1) := by decide +kernel
theorem dX6_record_46 : decode cX6_record 46 = .ok (.putfield 33, 3) := by decide +kernel
theorem dX6_record_49 : decode cX6_record 49 = .ok (.iconst 0, 1) := by decide +kernel
theorem dX6_record_50 : decode cX6_record 50 = .ok (.istore_n 1, 1) := by decide +kernel
theorem dX6_record_51 : decode cX6_record 51 = .ok (.iload_n 1, 1) := by decide +kernel
theorem dX6_record_52 : decode cX6_record 52 = .ok (.sipush 544, 3) := by decide +kernel
theorem dX6_record_55 : decode cX6_record 55 = .ok (.if_icmp .ge 30, 3) := by decide +kernel
theorem dX6_record_58 : decode cX6_record 58 = .ok (.aload_n 0, 1) := by decide +kernel
theorem dX6_record_59 : decode cX6_record 59 = .ok (.getfield 16, 3) := by decide +kernel
theorem dX6_record_62 : decode cX6_record 62 = .ok (.sipush 544, 3) := by decide +kernel
theorem dX6_record_65 : decode cX6_record 65 = .ok (.aload_n 0, 1) := by decide +kernel
theorem dX6_record_66 : decode cX6_record 66 = .ok (.getfield 33, 3) := by decide +kernel
theorem dX6_record_69 : decode cX6_record 69 = .ok (.imul, 1) := by decide +kernel
theorem dX6_record_70 : decode cX6_record 70 = .ok (.iload_n 1, 1) := by decide +kernel
theorem dX6_record_71 : decode cX6_record 71 = .ok (.iadd, 1) := by decide +kernel
theorem dX6_record_72 : decode cX6_record 72 = .ok (.aload_n 0, 1) := by decide +kernel
theorem dX6_record_73 : decode cX6_record 73 = .ok (.getfield 7, 3) := by decide +kernel
theorem dX6_record_76 : decode cX6_record 76 = .ok (.iload_n 1, 1) := by decide +kernel
theorem dX6_record_77 : decode cX6_record 77 = .ok (.iaload, 1) := by decide +kernel
theorem dX6_record_78 : decode cX6_record 78 = .ok (.iastore, 1) := by decide +kernel
theorem dX6_record_79 : decode cX6_record 79 = .ok (.iinc 1 1, 3) := by decide +kernel
theorem dX6_record_82 : decode cX6_record 82 = .ok (.goto (-31), 3) := by decide +kernel
theorem dX6_record_85 : decode cX6_record 85 = .ok (.aload_n 0, 1) := by decide +kernel
theorem dX6_record_86 : decode cX6_record 86 = .ok (.dup, 1) := by decide +kernel
theorem dX6_record_87 : decode cX6_record 87 = .ok (.getfield 33, 3) := by decide +kernel
theorem dX6_record_90 : decode cX6_record 90 = .ok (.iconst 1, 1) := by decide +kernel
theorem dX6_record_91 : decode cX6_record 91 = .ok (.iadd, 1) := by decide +kernel
theorem dX6_record_92 : decode cX6_record 92 = .ok (.putfield 33, 3) := by decide +kernel
theorem dX6_record_95 : decode cX6_record 95 = .ok (.return_, 1) := by decide +kernel
theorem dX6_putAside_0 : decode cX6_putAside 0 = .ok (.iconst 0, 1) := by decide +kernel
theorem dX6_putAside_1 : decode cX6_putAside 1 = .ok (.istore_n 1, 1) := by decide +kernel
theorem dX6_putAside_2 : decode cX6_putAside 2 = .ok (.iload_n 1, 1) := by decide +kernel
theorem dX6_putAside_3 : decode cX6_putAside 3 = .ok (.sipush 544, 3) := by decide +kernel
theorem dX6_putAside_6 : decode cX6_putAside 6 = .ok (.if_icmp .ge 21, 3) := by decide +kernel
theorem dX6_putAside_9 : decode cX6_putAside 9 = .ok (.aload_n 0, 1) := by decide +kernel
theorem dX6_putAside_10 : decode cX6_putAside 10 = .ok (.getfield 13, 3) := by decide +kernel
theorem dX6_putAside_13 : decode cX6_putAside 13 = .ok (.iload_n 1, 1) := by decide +kernel
theorem dX6_putAside_14 : decode cX6_putAside 14 = .ok (.aload_n 0, 1) := by decide +kernel
theorem dX6_putAside_15 : decode cX6_putAside 15 = .ok (.getfield 7, 3) := by decide +kernel
theorem dX6_putAside_18 : decode cX6_putAside 18 = .ok (.iload_n 1, 1) := by decide +kernel
theorem dX6_putAside_19 : decode cX6_putAside 19 = .ok (.iaload, 1) := by decide +kernel
theorem dX6_putAside_20 : decode cX6_putAside 20 = .ok (.iastore, 1) := by decide +kernel
theorem dX6_putAside_21 : decode cX6_putAside 21 = .ok (.iinc 1 1, 3) := by decide +kernel
theorem dX6_putAside_24 : decode cX6_putAside 24 = .ok (.goto (-22), 3) := by decide +kernel
theorem dX6_putAside_27 : decode cX6_putAside 27 = .ok (.return_, 1) := by decide +kernel
theorem dX6_putBack_0 : decode cX6_putBack 0 = .ok (.iconst 0, 1) := by decide +kernel
theorem dX6_putBack_1 : decode cX6_putBack 1 = .ok (.istore_n 1, 1) := by decide +kernel
theorem dX6_putBack_2 : decode cX6_putBack 2 = .ok (.iload_n 1, 1) := by decide +kernel
theorem dX6_putBack_3 : decode cX6_putBack 3 = .ok (.sipush 544, 3) := by decide +kernel
theorem dX6_putBack_6 : decode cX6_putBack 6 = .ok (.if_icmp .ge 21, 3) := by decide +kernel
theorem dX6_putBack_9 : decode cX6_putBack 9 = .ok (.aload_n 0, 1) := by decide +kernel
theorem dX6_putBack_10 : decode cX6_putBack 10 = .ok (.getfield 7, 3) := by decide +kernel
theorem dX6_putBack_13 : decode cX6_putBack 13 = .ok (.iload_n 1, 1) := by decide +kernel
theorem dX6_putBack_14 : decode cX6_putBack 14 = .ok (.aload_n 0, 1) := by decide +kernel
theorem dX6_putBack_15 : decode cX6_putBack 15 = .ok (.getfield 13, 3) := by decide +kernel
theorem dX6_putBack_18 : decode cX6_putBack 18 = .ok (.iload_n 1, 1) := by decide +kernel
theorem dX6_putBack_19 : decode cX6_putBack 19 = .ok (.iaload, 1) := by decide +kernel
theorem dX6_putBack_20 : decode cX6_putBack 20 = .ok (.iastore, 1) := by decide +kernel
theorem dX6_putBack_21 : decode cX6_putBack 21 = .ok (.iinc 1 1, 3) := by decide +kernel
theorem dX6_putBack_24 : decode cX6_putBack 24 = .ok (.goto (-22), 3) := by decide +kernel
theorem dX6_putBack_27 : decode cX6_putBack 27 = .ok (.return_, 1) := by decide +kernel
theorem dX6_counterOf_0 : decode cX6_counterOf 0 = .ok (.iload_n 1, 1) := by decide +kernel
theorem dX6_counterOf_1 : decode cX6_counterOf 1 = .ok (.ifCond .ne 10, 3) := by decide +kernel
theorem dX6_counterOf_4 : decode cX6_counterOf 4 = .ok (.iload_n 0, 1) := by decide +kernel
theorem dX6_counterOf_5 : decode cX6_counterOf 5 = .ok (.bipush 24, 2) := by decide +kernel
theorem dX6_counterOf_7 : decode cX6_counterOf 7 = .ok (.irem, 1) := by decide +kernel
theorem dX6_counterOf_8 : decode cX6_counterOf 8 = .ok (.goto 12, 3) := by decide +kernel
theorem dX6_counterOf_11 : decode cX6_counterOf 11 = .ok (.bipush 7, 2) := by decide +kernel
theorem dX6_counterOf_13 : decode cX6_counterOf 13 = .ok (.iload_n 0, 1) := by decide +kernel
theorem dX6_counterOf_14 : decode cX6_counterOf 14 = .ok (.imul, 1) := by decide +kernel
theorem dX6_counterOf_15 : decode cX6_counterOf 15 = .ok (.iconst 5, 1) := by decide +kernel
theorem dX6_counterOf_16 : decode cX6_counterOf 16 = .ok (.iadd, 1) := by decide +kernel
theorem dX6_counterOf_17 : decode cX6_counterOf 17 = .ok (.bipush 24, 2) := by decide +kernel
theorem dX6_counterOf_19 : decode cX6_counterOf 19 = .ok (.irem, 1) := by decide +kernel
theorem dX6_counterOf_20 : decode cX6_counterOf 20 = .ok (.ireturn, 1) := by decide +kernel
set_option maxRecDepth 20000 in
theorem ggX6_counterAt_X6_counterOf : GoodIn wsX6_counterAt wsX6_counterOf := goodIn_r _ [4] (by decide +kernel) (by decide +kernel)
set_option maxRecDepth 20000 in
theorem gX6_counterAt_X6_counterOf : GoodIn wsX6_counterAt (va_wsS RX6 36 yX6_counterOf wsX6_counterOf) := goodIn_app (goodIn_of _ (by decide +kernel)) ggX6_counterAt_X6_counterOf
theorem dX6_counterAt_0 : decode cX6_counterAt 0 = .ok (.sipush 352, 3) := by decide +kernel
theorem dX6_counterAt_3 : decode cX6_counterAt 3 = .ok (.bipush 24, 2) := by decide +kernel
theorem dX6_counterAt_5 : decode cX6_counterAt 5 = .ok (.iload_n 1, 1) := by decide +kernel
theorem dX6_counterAt_6 : decode cX6_counterAt 6 = .ok (.imul, 1) := by decide +kernel
theorem dX6_counterAt_7 : decode cX6_counterAt 7 = .ok (.iadd, 1) := by decide +kernel
theorem dX6_counterAt_8 : decode cX6_counterAt 8 = .ok (.iload_n 2, 1) := by decide +kernel
theorem dX6_counterAt_9 : decode cX6_counterAt 9 = .ok (.iload_n 3, 1) := by decide +kernel
theorem dX6_counterAt_10 : decode cX6_counterAt 10 = .ok (.invokestatic 36, 3) := by decide +kernel
theorem dX6_counterAt_13 : decode cX6_counterAt 13 = .ok (.iadd, 1) := by decide +kernel
theorem dX6_counterAt_14 : decode cX6_counterAt 14 = .ok (.ireturn, 1) := by decide +kernel
set_option maxRecDepth 20000 in
theorem ggX6_counts_X6_counterAt : GoodIn wsX6_counts wsX6_counterAt := goodIn_r _ [6, 7, 8, 5, 9] (by decide +kernel) (by decide +kernel)
set_option maxRecDepth 20000 in
theorem gX6_counts_X6_counterAt : GoodIn wsX6_counts (wsV RX6 40 RX6 yX6_counterAt wsX6_counterAt) := goodIn_app (goodIn_of _ (by decide +kernel)) ggX6_counts_X6_counterAt
set_option maxRecDepth 20000 in
theorem ggX6_counts_X6_counterOf : GoodIn wsX6_counts wsX6_counterOf := goodIn_r _ [9] (by decide +kernel) (by decide +kernel)
set_option maxRecDepth 20000 in
theorem gX6_counts_X6_counterOf : GoodIn wsX6_counts (va_wsS RX6 36 yX6_counterOf wsX6_counterOf) := goodIn_app (goodIn_of _ (by decide +kernel)) ggX6_counts_X6_counterOf
theorem dX6_counts_0 : decode cX6_counts 0 = .ok (.iconst 0, 1) := by decide +kernel
theorem dX6_counts_1 : decode cX6_counts 1 = .ok (.istore 4, 2) := by decide +kernel
theorem dX6_counts_3 : decode cX6_counts 3 = .ok (.iload 4, 2) := by decide +kernel
theorem dX6_counts_5 : decode cX6_counts 5 = .ok (.iconst 2, 1) := by decide +kernel
theorem dX6_counts_6 : decode cX6_counts 6 = .ok (.if_icmp .ge 116, 3) := by decide +kernel
theorem dX6_counts_9 : decode cX6_counts 9 = .ok (.aload_n 0, 1) := by decide +kernel
theorem dX6_counts_10 : decode cX6_counts 10 = .ok (.iload_n 1, 1) := by decide +kernel
theorem dX6_counts_11 : decode cX6_counts 11 = .ok (.iload_n 2, 1) := by decide +kernel
theorem dX6_counts_12 : decode cX6_counts 12 = .ok (.iload 4, 2) := by decide +kernel
theorem dX6_counts_14 : decode cX6_counts 14 = .ok (.invokevirtual 40, 3) := by decide +kernel
theorem dX6_counts_17 : decode cX6_counts 17 = .ok (.istore 5, 2) := by decide +kernel
theorem dX6_counts_19 : decode cX6_counts 19 = .ok (.iload_n 3, 1) := by decide +kernel
theorem dX6_counts_20 : decode cX6_counts 20 = .ok (.ifCond .le 25, 3) := by decide +kernel
theorem dX6_counts_23 : decode cX6_counts 23 = .ok (.aload_n 0, 1) := by decide +kernel
theorem dX6_counts_24 : decode cX6_counts 24 = .ok (.getfield 7, 3) := by decide +kernel
theorem dX6_counts_27 : decode cX6_counts 27 = .ok (.iload 5, 2) := by decide +kernel
theorem dX6_counts_29 : decode cX6_counts 29 = .ok (.iaload, 1) := by decide +kernel
theorem dX6_counts_30 : decode cX6_counts 30 = .ok (.aload_n 0, 1) := by decide +kernel
theorem dX6_counts_31 : decode cX6_counts 31 = .ok (.getfield 7, 3) := by decide +kernel
theorem dX6_counts_34 : decode cX6_counts 34 = .ok (.sipush 536, 3) := by decide +kernel
theorem dX6_counts_37 : decode cX6_counts 37 = .ok (.iaload, 1) := by decide +kernel
theorem dX6_counts_38 : decode cX6_counts 38 = .ok (.if_icmp .lt 7, 3) := by decide +kernel
theorem dX6_counts_41 : decode cX6_counts 41 = .ok (.iconst 1, 1) := by decide +kernel
theorem dX6_counts_42 : decode cX6_counts 42 = .ok (.goto 4, 3) := by decide +kernel
theorem dX6_counts_45 : decode cX6_counts 45 = .ok (.iconst 0, 1) := by decide +kernel
theorem dX6_counts_46 : decode cX6_counts 46 = .ok (.istore 6, 2) := by decide +kernel
theorem dX6_counts_48 : decode cX6_counts 48 = .ok (.aload_n 0, 1) := by decide +kernel
theorem dX6_counts_49 : decode cX6_counts 49 = .ok (.getfield 7, 3) := by decide +kernel
theorem dX6_counts_52 : decode cX6_counts 52 = .ok (.sipush 540, 3) := by decide +kernel
theorem dX6_counts_55 : decode cX6_counts 55 = .ok (.iload_n 1, 1) := by decide +kernel
theorem dX6_counts_56 : decode cX6_counts 56 = .ok (.iadd, 1) := by decide +kernel
theorem dX6_counts_57 : decode cX6_counts 57 = .ok (.dup2, 1) := by decide +kernel
theorem dX6_counts_58 : decode cX6_counts 58 = .ok (.iaload, 1) := by decide +kernel
theorem dX6_counts_59 : decode cX6_counts 59 = .ok (.iload 6, 2) := by decide +kernel
theorem dX6_counts_61 : decode cX6_counts 61 = .ok (.ifCond .eq 14, 3) := by decide +kernel
theorem dX6_counts_64 : decode cX6_counts 64 = .ok (.iconst 1, 1) := by decide +kernel
theorem dX6_counts_65 : decode cX6_counts 65 = .ok (.iload_n 2, 1) := by decide +kernel
theorem dX6_counts_66 : decode cX6_counts 66 = .ok (.iload 4, 2) := by decide +kernel
theorem dX6_counts_68 : decode cX6_counts 68 = .ok (.invokestatic 36, 3) := by decide +kernel
theorem dX6_counts_71 : decode cX6_counts 71 = .ok (.ishl, 1) := by decide +kernel
theorem dX6_counts_72 : decode cX6_counts 72 = .ok (.goto 4, 3) := by decide +kernel
theorem dX6_counts_75 : decode cX6_counts 75 = .ok (.iconst 0, 1) := by decide +kernel
theorem dX6_counts_76 : decode cX6_counts 76 = .ok (.ior, 1) := by decide +kernel
theorem dX6_counts_77 : decode cX6_counts 77 = .ok (.iastore, 1) := by decide +kernel
theorem dX6_counts_78 : decode cX6_counts 78 = .ok (.aload_n 0, 1) := by decide +kernel
theorem dX6_counts_79 : decode cX6_counts 79 = .ok (.getfield 7, 3) := by decide +kernel
theorem dX6_counts_82 : decode cX6_counts 82 = .ok (.iload 5, 2) := by decide +kernel
theorem dX6_counts_84 : decode cX6_counts 84 = .ok (.dup2, 1) := by decide +kernel
theorem dX6_counts_85 : decode cX6_counts 85 = .ok (.iaload, 1) := by decide +kernel
theorem dX6_counts_86 : decode cX6_counts 86 = .ok (.aload_n 0, 1) := by decide +kernel
theorem dX6_counts_87 : decode cX6_counts 87 = .ok (.getfield 7, 3) := by decide +kernel
theorem dX6_counts_90 : decode cX6_counts 90 = .ok (.sipush 540, 3) := by decide +kernel
theorem dX6_counts_93 : decode cX6_counts 93 = .ok (.iload_n 1, 1) := by decide +kernel
theorem dX6_counts_94 : decode cX6_counts 94 = .ok (.iadd, 1) := by decide +kernel
theorem dX6_counts_95 : decode cX6_counts 95 = .ok (.iaload, 1) := by decide +kernel
theorem dX6_counts_96 : decode cX6_counts 96 = .ok (.iload_n 2, 1) := by decide +kernel
theorem dX6_counts_97 : decode cX6_counts 97 = .ok (.iload 4, 2) := by decide +kernel
theorem dX6_counts_99 : decode cX6_counts 99 = .ok (.invokestatic 36, 3) := by decide +kernel
theorem dX6_counts_102 : decode cX6_counts 102 = .ok (.ishr, 1) := by decide +kernel
theorem dX6_counts_103 : decode cX6_counts 103 = .ok (.iconst 1, 1) := by decide +kernel
theorem dX6_counts_104 : decode cX6_counts 104 = .ok (.iand, 1) := by decide +kernel
theorem dX6_counts_105 : decode cX6_counts 105 = .ok (.iconst 1, 1) := by decide +kernel
theorem dX6_counts_106 : decode cX6_counts 106 = .ok (.if_icmp .ne 7, 3) := by decide +kernel
theorem dX6_counts_109 : decode cX6_counts 109 = .ok (.iconst 0, 1) := by decide +kernel
theorem dX6_counts_110 : decode cX6_counts 110 = .ok (.goto 4, 3) := by decide +kernel
theorem dX6_counts_113 : decode cX6_counts 113 = .ok (.iload_n 3, 1) := by decide +kernel
theorem dX6_counts_114 : decode cX6_counts 114 = .ok (.iadd, 1) := by decide +kernel
theorem dX6_counts_115 : decode cX6_counts 115 = .ok (.iastore, 1) := by decide +kernel
theorem dX6_counts_116 : decode cX6_counts 116 = .ok (.iinc 4 1, 3) := by decide +kernel
theorem dX6_counts_119 : decode cX6_counts 119 = .ok (.goto (-116), 3) := by decide +kernel
theorem dX6_counts_122 : decode cX6_counts 122 = .ok (.return_, 1) := by decide +kernel
theorem dX6_stuckOf_0 : decode cX6_stuckOf 0 = .ok (.iconst 0, 1) := by decide +kernel
theorem dX6_stuckOf_1 : decode cX6_stuckOf 1 = .ok (.istore_n 2, 1) := by decide +kernel
theorem dX6_stuckOf_2 : decode cX6_stuckOf 2 = .ok (.iconst 0, 1) := by decide +kernel
theorem dX6_stuckOf_3 : decode cX6_stuckOf 3 = .ok (.istore_n 3, 1) := by decide +kernel
theorem dX6_stuckOf_4 : decode cX6_stuckOf 4 = .ok (.iload_n 3, 1) := by decide +kernel
theorem dX6_stuckOf_5 : decode cX6_stuckOf 5 = .ok (.bipush 24, 2) := by decide +kernel
theorem dX6_stuckOf_7 : decode cX6_stuckOf 7 = .ok (.if_icmp .ge 26, 3) := by decide +kernel
theorem dX6_stuckOf_10 : decode cX6_stuckOf 10 = .ok (.iload_n 2, 1) := by decide +kernel
theorem dX6_stuckOf_11 : decode cX6_stuckOf 11 = .ok (.aload_n 0, 1) := by decide +kernel
theorem dX6_stuckOf_12 : decode cX6_stuckOf 12 = .ok (.getfield 7, 3) := by decide +kernel
theorem dX6_stuckOf_15 : decode cX6_stuckOf 15 = .ok (.sipush 540, 3) := by decide +kernel
theorem dX6_stuckOf_18 : decode cX6_stuckOf 18 = .ok (.iload_n 1, 1) := by decide +kernel
theorem dX6_stuckOf_19 : decode cX6_stuckOf 19 = .ok (.iadd, 1) := by decide +kernel
theorem dX6_stuckOf_20 : decode cX6_stuckOf 20 = .ok (.iaload, 1) := by decide +kernel
theorem dX6_stuckOf_21 : decode cX6_stuckOf 21 = .ok (.iload_n 3, 1) := by decide +kernel
theorem dX6_stuckOf_22 : decode cX6_stuckOf 22 = .ok (.ishr, 1) := by decide +kernel
theorem dX6_stuckOf_23 : decode cX6_stuckOf 23 = .ok (.iconst 1, 1) := by decide +kernel
theorem dX6_stuckOf_24 : decode cX6_stuckOf 24 = .ok (.iand, 1) := by decide +kernel
theorem dX6_stuckOf_25 : decode cX6_stuckOf 25 = .ok (.iadd, 1) := by decide +kernel
theorem dX6_stuckOf_26 : decode cX6_stuckOf 26 = .ok (.istore_n 2, 1) := by decide +kernel
theorem dX6_stuckOf_27 : decode cX6_stuckOf 27 = .ok (.iinc 3 1, 3) := by decide +kernel
theorem dX6_stuckOf_30 : decode cX6_stuckOf 30 = .ok (.goto (-26), 3) := by decide +kernel
theorem dX6_stuckOf_33 : decode cX6_stuckOf 33 = .ok (.iload_n 2, 1) := by decide +kernel
theorem dX6_stuckOf_34 : decode cX6_stuckOf 34 = .ok (.ireturn, 1) := by decide +kernel
theorem dX6_isBit_0 : decode cX6_isBit 0 = .ok (.aload_n 0, 1) := by decide +kernel
theorem dX6_isBit_1 : decode cX6_isBit 1 = .ok (.getfield 7, 3) := by decide +kernel
theorem dX6_isBit_4 : decode cX6_isBit 4 = .ok (.sipush 448, 3) := by decide +kernel
theorem dX6_isBit_7 : decode cX6_isBit 7 = .ok (.bipush 16, 2) := by decide +kernel
theorem dX6_isBit_9 : decode cX6_isBit 9 = .ok (.iload_n 1, 1) := by decide +kernel
theorem dX6_isBit_10 : decode cX6_isBit 10 = .ok (.imul, 1) := by decide +kernel
theorem dX6_isBit_11 : decode cX6_isBit 11 = .ok (.iadd, 1) := by decide +kernel
theorem dX6_isBit_12 : decode cX6_isBit 12 = .ok (.iload_n 2, 1) := by decide +kernel
theorem dX6_isBit_13 : decode cX6_isBit 13 = .ok (.bipush 16, 2) := by decide +kernel
theorem dX6_isBit_15 : decode cX6_isBit 15 = .ok (.idiv, 1) := by decide +kernel
theorem dX6_isBit_16 : decode cX6_isBit 16 = .ok (.iadd, 1) := by decide +kernel
theorem dX6_isBit_17 : decode cX6_isBit 17 = .ok (.iaload, 1) := by decide +kernel
theorem dX6_isBit_18 : decode cX6_isBit 18 = .ok (.iconst 1, 1) := by decide +kernel
theorem dX6_isBit_19 : decode cX6_isBit 19 = .ok (.if_icmp .ne 7, 3) := by decide +kernel
theorem dX6_isBit_22 : decode cX6_isBit 22 = .ok (.iconst 1, 1) := by decide +kernel
theorem dX6_isBit_23 : decode cX6_isBit 23 = .ok (.goto 4, 3) := by decide +kernel
theorem dX6_isBit_26 : decode cX6_isBit 26 = .ok (.iconst 0, 1) := by decide +kernel
theorem dX6_isBit_27 : decode cX6_isBit 27 = .ok (.ireturn, 1) := by decide +kernel
set_option maxRecDepth 20000 in
theorem ggX6_mayHave_X6_isBit : GoodIn wsX6_mayHave wsX6_isBit := goodIn_r _ [6, 1, 14, 15, 16, 17, 18, 19, 20, 21, 22, 23, 24, 25, 26, 27, 28, 29, 30, 31] (by decide +kernel) (by decide +kernel)
set_option maxRecDepth 20000 in
theorem gX6_mayHave_X6_isBit : GoodIn wsX6_mayHave (wsV RX6 44 RX6 yX6_isBit wsX6_isBit) := goodIn_app (goodIn_of _ (by decide +kernel)) ggX6_mayHave_X6_isBit
set_option maxRecDepth 20000 in
theorem ggX6_mayHave_X6_counterAt : GoodIn wsX6_mayHave wsX6_counterAt := goodIn_r _ [10, 11, 12, 5, 13] (by decide +kernel) (by decide +kernel)
set_option maxRecDepth 20000 in
theorem gX6_mayHave_X6_counterAt : GoodIn wsX6_mayHave (wsV RX6 40 RX6 yX6_counterAt wsX6_counterAt) := goodIn_app (goodIn_of _ (by decide +kernel)) ggX6_mayHave_X6_counterAt
theorem dX6_mayHave_0 : decode cX6_mayHave 0 = .ok (.aload_n 0, 1) := by decide +kernel
theorem dX6_mayHave_1 : decode cX6_mayHave 1 = .ok (.iload_n 1, 1) := by decide +kernel
theorem dX6_mayHave_2 : decode cX6_mayHave 2 = .ok (.iload_n 2, 1) := by decide +kernel
theorem dX6_mayHave_3 : decode cX6_mayHave 3 = .ok (.invokevirtual 44, 3) := by decide +kernel
theorem dX6_mayHave_6 : decode cX6_mayHave 6 = .ok (.istore_n 3, 1) := by decide +kernel
theorem dX6_mayHave_7 : decode cX6_mayHave 7 = .ok (.iconst 0, 1) := by decide +kernel
theorem dX6_mayHave_8 : decode cX6_mayHave 8 = .ok (.istore 4, 2) := by decide +kernel
theorem dX6_mayHave_10 : decode cX6_mayHave 10 = .ok (.iload 4, 2) := by decide +kernel
theorem dX6_mayHave_12 : decode cX6_mayHave 12 = .ok (.iconst 2, 1) := by decide +kernel
theorem dX6_mayHave_13 : decode cX6_mayHave 13 = .ok (.if_icmp .ge 35, 3) := by decide +kernel
theorem dX6_mayHave_16 : decode cX6_mayHave 16 = .ok (.iload_n 3, 1) := by decide +kernel
theorem dX6_mayHave_17 : decode cX6_mayHave 17 = .ok (.ifCond .eq 23, 3) := by decide +kernel
theorem dX6_mayHave_20 : decode cX6_mayHave 20 = .ok (.aload_n 0, 1) := by decide +kernel
theorem dX6_mayHave_21 : decode cX6_mayHave 21 = .ok (.getfield 7, 3) := by decide +kernel
theorem dX6_mayHave_24 : decode cX6_mayHave 24 = .ok (.aload_n 0, 1) := by decide +kernel
theorem dX6_mayHave_25 : decode cX6_mayHave 25 = .ok (.iload_n 1, 1) := by decide +kernel
theorem dX6_mayHave_26 : decode cX6_mayHave 26 = .ok (.iload_n 2, 1) := by decide +kernel
theorem dX6_mayHave_27 : decode cX6_mayHave 27 = .ok (.iload 4, 2) := by decide +kernel
theorem dX6_mayHave_29 : decode cX6_mayHave 29 = .ok (.invokevirtual 40, 3) := by decide +kernel
theorem dX6_mayHave_32 : decode cX6_mayHave 32 = .ok (.iaload, 1) := by decide +kernel
theorem dX6_mayHave_33 : decode cX6_mayHave 33 = .ok (.ifCond .le 7, 3) := by decide +kernel
theorem dX6_mayHave_36 : decode cX6_mayHave 36 = .ok (.iconst 1, 1) := by decide +kernel
theorem dX6_mayHave_37 : decode cX6_mayHave 37 = .ok (.goto 4, 3) := by decide +kernel
theorem dX6_mayHave_40 : decode cX6_mayHave 40 = .ok (.iconst 0, 1) := by decide +kernel
theorem dX6_mayHave_41 : decode cX6_mayHave 41 = .ok (.istore_n 3, 1) := by decide +kernel
theorem dX6_mayHave_42 : decode cX6_mayHave 42 = .ok (.iinc 4 1, 3) := by decide +kernel
theorem dX6_mayHave_45 : decode cX6_mayHave 45 = .ok (.goto (-35), 3) := by decide +kernel
theorem dX6_mayHave_48 : decode cX6_mayHave 48 = .ok (.iload_n 3, 1) := by decide +kernel
theorem dX6_mayHave_49 : decode cX6_mayHave 49 = .ok (.ireturn, 1) := by decide +kernel
theorem dX6_countersFrom_0 : decode cX6_countersFrom 0 = .ok (.iconst 0, 1) := by decide +kernel
theorem dX6_countersFrom_1 : decode cX6_countersFrom 1 = .ok (.istore_n 3, 1) := by decide +kernel
theorem dX6_countersFrom_2 : decode cX6_countersFrom 2 = .ok (.iconst 0, 1) := by decide +kernel
theorem dX6_countersFrom_3 : decode cX6_countersFrom 3 = .ok (.istore 4, 2) := by decide +kernel
theorem dX6_countersFrom_5 : decode cX6_countersFrom 5 = .ok (.iload 4, 2) := by decide +kernel
theorem dX6_countersFrom_7 : decode cX6_countersFrom 7 = .ok (.bipush 24, 2) := by decide +kernel
theorem dX6_countersFrom_9 : decode cX6_countersFrom 9 = .ok (.if_icmp .ge 37, 3) := by decide +kernel
theorem dX6_countersFrom_12 : decode cX6_countersFrom 12 = .ok (.iload_n 3, 1) := by decide +kernel
theorem dX6_countersFrom_13 : decode cX6_countersFrom 13 = .ok (.aload_n 0, 1) := by decide +kernel
theorem dX6_countersFrom_14 : decode cX6_countersFrom 14 = .ok (.getfield 7, 3) := by decide +kernel
theorem dX6_countersFrom_17 : decode cX6_countersFrom 17 = .ok (.sipush 352, 3) := by decide +kernel
theorem dX6_countersFrom_20 : decode cX6_countersFrom 20 = .ok (.bipush 24, 2) := by decide +kernel
theorem dX6_countersFrom_22 : decode cX6_countersFrom 22 = .ok (.iload_n 1, 1) := by decide +kernel
theorem dX6_countersFrom_23 : decode cX6_countersFrom 23 = .ok (.imul, 1) := by decide +kernel
theorem dX6_countersFrom_24 : decode cX6_countersFrom 24 = .ok (.iadd, 1) := by decide +kernel
theorem dX6_countersFrom_25 : decode cX6_countersFrom 25 = .ok (.iload 4, 2) := by decide +kernel
theorem dX6_countersFrom_27 : decode cX6_countersFrom 27 = .ok (.iadd, 1) := by decide +kernel
theorem dX6_countersFrom_28 : decode cX6_countersFrom 28 = .ok (.iaload, 1) := by decide +kernel
theorem dX6_countersFrom_29 : decode cX6_countersFrom 29 = .ok (.iload_n 2, 1) := by decide +kernel
theorem dX6_countersFrom_30 : decode cX6_countersFrom 30 = .ok (.if_icmp .lt 7, 3) := by decide +kernel
theorem dX6_countersFrom_33 : decode cX6_countersFrom 33 = .ok (.iconst 1, 1) := by decide +kernel
theorem dX6_countersFrom_34 : decode cX6_countersFrom 34 = .ok (.goto 4, 3) := by decide +kernel
theorem dX6_countersFrom_37 : decode cX6_countersFrom 37 = .ok (.iconst 0, 1) := by decide +kernel
theorem dX6_countersFrom_38 : decode cX6_countersFrom 38 = .ok (.iadd, 1) := by decide +kernel
theorem dX6_countersFrom_39 : decode cX6_countersFrom 39 = .ok (.istore_n 3, 1) := by decide +kernel
theorem dX6_countersFrom_40 : decode cX6_countersFrom 40 = .ok (.iinc 4 1, 3) := by decide +kernel
theorem dX6_countersFrom_43 : decode cX6_countersFrom 43 = .ok (.goto (-38), 3) := by decide +kernel
theorem dX6_countersFrom_46 : decode cX6_countersFrom 46 = .ok (.iload_n 3, 1) := by decide +kernel
theorem dX6_countersFrom_47 : decode cX6_countersFrom 47 = .ok (.ireturn, 1) := by decide +kernel
theorem dX6_bits_0 : decode cX6_bits 0 = .ok (.iconst 0, 1) := by decide +kernel
theorem dX6_bits_1 : decode cX6_bits 1 = .ok (.istore_n 2, 1) := by decide +kernel
theorem dX6_bits_2 : decode cX6_bits 2 = .ok (.iconst 0, 1) := by decide +kernel
theorem dX6_bits_3 : decode cX6_bits 3 = .ok (.istore_n 3, 1) := by decide +kernel
theorem dX6_bits_4 : decode cX6_bits 4 = .ok (.iload_n 3, 1) := by decide +kernel
theorem dX6_bits_5 : decode cX6_bits 5 = .ok (.bipush 16, 2) := by decide +kernel
theorem dX6_bits_7 : decode cX6_bits 7 = .ok (.if_icmp .ge 27, 3) := by decide +kernel
theorem dX6_bits_10 : decode cX6_bits 10 = .ok (.iload_n 2, 1) := by decide +kernel
theorem dX6_bits_11 : decode cX6_bits 11 = .ok (.aload_n 0, 1) := by decide +kernel
theorem dX6_bits_12 : decode cX6_bits 12 = .ok (.getfield 7, 3) := by decide +kernel
theorem dX6_bits_15 : decode cX6_bits 15 = .ok (.sipush 448, 3) := by decide +kernel
theorem dX6_bits_18 : decode cX6_bits 18 = .ok (.bipush 16, 2) := by decide +kernel
theorem dX6_bits_20 : decode cX6_bits 20 = .ok (.iload_n 1, 1) := by decide +kernel
theorem dX6_bits_21 : decode cX6_bits 21 = .ok (.imul, 1) := by decide +kernel
theorem dX6_bits_22 : decode cX6_bits 22 = .ok (.iadd, 1) := by decide +kernel
theorem dX6_bits_23 : decode cX6_bits 23 = .ok (.iload_n 3, 1) := by decide +kernel
theorem dX6_bits_24 : decode cX6_bits 24 = .ok (.iadd, 1) := by decide +kernel
theorem dX6_bits_25 : decode cX6_bits 25 = .ok (.iaload, 1) := by decide +kernel
theorem dX6_bits_26 : decode cX6_bits 26 = .ok (.iadd, 1) := by decide +kernel
theorem dX6_bits_27 : decode cX6_bits 27 = .ok (.istore_n 2, 1) := by decide +kernel
theorem dX6_bits_28 : decode cX6_bits 28 = .ok (.iinc 3 1, 3) := by decide +kernel
theorem dX6_bits_31 : decode cX6_bits 31 = .ok (.goto (-27), 3) := by decide +kernel
theorem dX6_bits_34 : decode cX6_bits 34 = .ok (.iload_n 2, 1) := by decide +kernel
theorem dX6_bits_35 : decode cX6_bits 35 = .ok (.ireturn, 1) := by decide +kernel
theorem dX6_clears_0 : decode cX6_clears 0 = .ok (.iconst 0, 1) := by decide +kernel
theorem dX6_clears_1 : decode cX6_clears 1 = .ok (.istore_n 2, 1) := by decide +kernel
theorem dX6_clears_2 : decode cX6_clears 2 = .ok (.iload_n 2, 1) := by decide +kernel
theorem dX6_clears_3 : decode cX6_clears 3 = .ok (.bipush 24, 2) := by decide +kernel
theorem dX6_clears_5 : decode cX6_clears 5 = .ok (.if_icmp .ge 25, 3) := by decide +kernel
theorem dX6_clears_8 : decode cX6_clears 8 = .ok (.aload_n 0, 1) := by decide +kernel
theorem dX6_clears_9 : decode cX6_clears 9 = .ok (.getfield 7, 3) := by decide +kernel
theorem dX6_clears_12 : decode cX6_clears 12 = .ok (.sipush 352, 3) := by decide +kernel
theorem dX6_clears_15 : decode cX6_clears 15 = .ok (.bipush 24, 2) := by decide +kernel
theorem dX6_clears_17 : decode cX6_clears 17 = .ok (.iload_n 1, 1) := by decide +kernel
theorem dX6_clears_18 : decode cX6_clears 18 = .ok (.imul, 1) := by decide +kernel
theorem dX6_clears_19 : decode cX6_clears 19 = .ok (.iadd, 1) := by decide +kernel
theorem dX6_clears_20 : decode cX6_clears 20 = .ok (.iload_n 2, 1) := by decide +kernel
theorem dX6_clears_21 : decode cX6_clears 21 = .ok (.iadd, 1) := by decide +kernel
theorem dX6_clears_22 : decode cX6_clears 22 = .ok (.iconst 0, 1) := by decide +kernel
theorem dX6_clears_23 : decode cX6_clears 23 = .ok (.iastore, 1) := by decide +kernel
theorem dX6_clears_24 : decode cX6_clears 24 = .ok (.iinc 2 1, 3) := by decide +kernel
theorem dX6_clears_27 : decode cX6_clears 27 = .ok (.goto (-25), 3) := by decide +kernel
theorem dX6_clears_30 : decode cX6_clears 30 = .ok (.iconst 0, 1) := by decide +kernel
theorem dX6_clears_31 : decode cX6_clears 31 = .ok (.istore_n 2, 1) := by decide +kernel
theorem dX6_clears_32 : decode cX6_clears 32 = .ok (.iload_n 2, 1) := by decide +kernel
theorem dX6_clears_33 : decode cX6_clears 33 = .ok (.bipush 16, 2) := by decide +kernel
theorem dX6_clears_35 : decode cX6_clears 35 = .ok (.if_icmp .ge 25, 3) := by decide +kernel
theorem dX6_clears_38 : decode cX6_clears 38 = .ok (.aload_n 0, 1) := by decide +kernel
theorem dX6_clears_39 : decode cX6_clears 39 = .ok (.getfield 7, 3) := by decide +kernel
theorem dX6_clears_42 : decode cX6_clears 42 = .ok (.sipush 448, 3) := by decide +kernel
theorem dX6_clears_45 : decode cX6_clears 45 = .ok (.bipush 16, 2) := by decide +kernel
theorem dX6_clears_47 : decode cX6_clears 47 = .ok (.iload_n 1, 1) := by decide +kernel
theorem dX6_clears_48 : decode cX6_clears 48 = .ok (.imul, 1) := by decide +kernel
theorem dX6_clears_49 : decode cX6_clears 49 = .ok (.iadd, 1) := by decide +kernel
theorem dX6_clears_50 : decode cX6_clears 50 = .ok (.iload_n 2, 1) := by decide +kernel
theorem dX6_clears_51 : decode cX6_clears 51 = .ok (.iadd, 1) := by decide +kernel
theorem dX6_clears_52 : decode cX6_clears 52 = .ok (.iconst 0, 1) := by decide +kernel
theorem dX6_clears_53 : decode cX6_clears 53 = .ok (.iastore, 1) := by decide +kernel
theorem dX6_clears_54 : decode cX6_clears 54 = .ok (.iinc 2 1, 3) := by decide +kernel
theorem dX6_clears_57 : decode cX6_clears 57 = .ok (.goto (-25), 3) := by decide +kernel
theorem dX6_clears_60 : decode cX6_clears 60 = .ok (.aload_n 0, 1) := by decide +kernel
theorem dX6_clears_61 : decode cX6_clears 61 = .ok (.getfield 7, 3) := by decide +kernel
theorem dX6_clears_64 : decode cX6_clears 64 = .ok (.sipush 540, 3) := by decide +kernel
theorem dX6_clears_67 : decode cX6_clears 67 = .ok (.iload_n 1, 1) := by decide +kernel
theorem dX6_clears_68 : decode cX6_clears 68 = .ok (.iadd, 1) := by decide +kernel
theorem dX6_clears_69 : decode cX6_clears 69 = .ok (.iconst 0, 1) := by decide +kernel
theorem dX6_clears_70 : decode cX6_clears 70 = .ok (.iastore, 1) := by decide +kernel
theorem dX6_clears_71 : decode cX6_clears 71 = .ok (.return_, 1) := by decide +kernel
set_option maxRecDepth 20000 in
theorem ggX6_holds_X6_placeOf : GoodIn wsX6_holds wsX6_placeOf := goodIn_r _ [5] (by decide +kernel) (by decide +kernel)
set_option maxRecDepth 20000 in
theorem gX6_holds_X6_placeOf : GoodIn wsX6_holds (va_wsS RX6 48 yX6_placeOf wsX6_placeOf) := goodIn_app (goodIn_of _ (by decide +kernel)) ggX6_holds_X6_placeOf
theorem dX6_holds_0 : decode cX6_holds 0 = .ok (.aload_n 0, 1) := by decide +kernel
theorem dX6_holds_1 : decode cX6_holds 1 = .ok (.getfield 7, 3) := by decide +kernel
theorem dX6_holds_4 : decode cX6_holds 4 = .ok (.sipush 256, 3) := by decide +kernel
theorem dX6_holds_7 : decode cX6_holds 7 = .ok (.iload_n 1, 1) := by decide +kernel
theorem dX6_holds_8 : decode cX6_holds 8 = .ok (.iload_n 2, 1) := by decide +kernel
theorem dX6_holds_9 : decode cX6_holds 9 = .ok (.invokestatic 48, 3) := by decide +kernel
theorem dX6_holds_12 : decode cX6_holds 12 = .ok (.iadd, 1) := by decide +kernel
theorem dX6_holds_13 : decode cX6_holds 13 = .ok (.iaload, 1) := by decide +kernel
theorem dX6_holds_14 : decode cX6_holds 14 = .ok (.iload_n 2, 1) := by decide +kernel
theorem dX6_holds_15 : decode cX6_holds 15 = .ok (.if_icmp .ne 7, 3) := by decide +kernel
theorem dX6_holds_18 : decode cX6_holds 18 = .ok (.iconst 1, 1) := by decide +kernel
theorem dX6_holds_19 : decode cX6_holds 19 = .ok (.goto 4, 3) := by decide +kernel
theorem dX6_holds_22 : decode cX6_holds 22 = .ok (.iconst 0, 1) := by decide +kernel
theorem dX6_holds_23 : decode cX6_holds 23 = .ok (.ireturn, 1) := by decide +kernel
theorem dX6_writesBack_0 : decode cX6_writesBack 0 = .ok (.aload_n 0, 1) := by decide +kernel
theorem dX6_writesBack_1 : decode cX6_writesBack 1 = .ok (.getfield 7, 3) := by decide +kernel
theorem dX6_writesBack_4 : decode cX6_writesBack 4 = .ok (.sipush 256, 3) := by decide +kernel
theorem dX6_writesBack_7 : decode cX6_writesBack 7 = .ok (.iload_n 1, 1) := by decide +kernel
theorem dX6_writesBack_8 : decode cX6_writesBack 8 = .ok (.iadd, 1) := by decide +kernel
theorem dX6_writesBack_9 : decode cX6_writesBack 9 = .ok (.iaload, 1) := by decide +kernel
theorem dX6_writesBack_10 : decode cX6_writesBack 10 = .ok (.bipush (-5), 2) := by decide +kernel
theorem dX6_writesBack_12 : decode cX6_writesBack 12 = .ok (.if_icmp .eq 67, 3) := by decide +kernel
theorem dX6_writesBack_15 : decode cX6_writesBack 15 = .ok (.aload_n 0, 1) := by decide +kernel
theorem dX6_writesBack_16 : decode cX6_writesBack 16 = .ok (.getfield 7, 3) := by decide +kernel
theorem dX6_writesBack_19 : decode cX6_writesBack 19 = .ok (.sipush 320, 3) := by decide +kernel
theorem dX6_writesBack_22 : decode cX6_writesBack 22 = .ok (.iload_n 1, 1) := by decide +kernel
theorem dX6_writesBack_23 : decode cX6_writesBack 23 = .ok (.iadd, 1) := by decide +kernel
theorem dX6_writesBack_24 : decode cX6_writesBack 24 = .ok (.iaload, 1) := by decide +kernel
theorem dX6_writesBack_25 : decode cX6_writesBack 25 = .ok (.iconst 1, 1) := by decide +kernel
theorem dX6_writesBack_26 : decode cX6_writesBack 26 = .ok (.if_icmp .ne 53, 3) := by decide +kernel
theorem dX6_writesBack_29 : decode cX6_writesBack 29 = .ok (.aload_n 0, 1) := by decide +kernel
theorem dX6_writesBack_30 : decode cX6_writesBack 30 = .ok (.getfield 7, 3) := by decide +kernel
theorem dX6_writesBack_33 : decode cX6_writesBack 33 = .ok (.iconst 0, 1) := by decide +kernel
theorem dX6_writesBack_34 : decode cX6_writesBack 34 = .ok (.aload_n 0, 1) := by decide +kernel
theorem dX6_writesBack_35 : decode cX6_writesBack 35 = .ok (.getfield 7, 3) := by decide +kernel
theorem dX6_writesBack_38 : decode cX6_writesBack 38 = .ok (.sipush 256, 3) := by decide +kernel
theorem dX6_writesBack_41 : decode cX6_writesBack 41 = .ok (.iload_n 1, 1) := by decide +kernel
theorem dX6_writesBack_42 : decode cX6_writesBack 42 = .ok (.iadd, 1) := by decide +kernel
theorem dX6_writesBack_43 : decode cX6_writesBack 43 = .ok (.iaload, 1) := by decide +kernel
theorem dX6_writesBack_44 : decode cX6_writesBack 44 = .ok (.iadd, 1) := by decide +kernel
theorem dX6_writesBack_45 : decode cX6_writesBack 45 = .ok (.aload_n 0, 1) := by decide +kernel
theorem dX6_writesBack_46 : decode cX6_writesBack 46 = .ok (.getfield 7, 3) := by decide +kernel
theorem dX6_writesBack_49 : decode cX6_writesBack 49 = .ok (.sipush 288, 3) := by decide +kernel
theorem dX6_writesBack_52 : decode cX6_writesBack 52 = .ok (.iload_n 1, 1) := by decide +kernel
theorem dX6_writesBack_53 : decode cX6_writesBack 53 = .ok (.iadd, 1) := by decide +kernel
theorem dX6_writesBack_54 : decode cX6_writesBack 54 = .ok (.iaload, 1) := by decide +kernel
theorem dX6_writesBack_55 : decode cX6_writesBack 55 = .ok (.iastore, 1) := by decide +kernel
theorem dX6_writesBack_56 : decode cX6_writesBack 56 = .ok (.aload_n 0, 1) := by decide +kernel
theorem dX6_writesBack_57 : decode cX6_writesBack 57 = .ok (.getfield 7, 3) := by decide +kernel
theorem dX6_writesBack_60 : decode cX6_writesBack 60 = .ok (.sipush 320, 3) := by decide +kernel
theorem dX6_writesBack_63 : decode cX6_writesBack 63 = .ok (.iload_n 1, 1) := by decide +kernel
theorem dX6_writesBack_64 : decode cX6_writesBack 64 = .ok (.iadd, 1) := by decide +kernel
theorem dX6_writesBack_65 : decode cX6_writesBack 65 = .ok (.iconst 0, 1) := by decide +kernel
theorem dX6_writesBack_66 : decode cX6_writesBack 66 = .ok (.iastore, 1) := by decide +kernel
theorem dX6_writesBack_67 : decode cX6_writesBack 67 = .ok (.aload_n 0, 1) := by decide +kernel
theorem dX6_writesBack_68 : decode cX6_writesBack 68 = .ok (.getfield 7, 3) := by decide +kernel
theorem dX6_writesBack_71 : decode cX6_writesBack 71 = .ok (.sipush 538, 3) := by decide +kernel
theorem dX6_writesBack_74 : decode cX6_writesBack 74 = .ok (.dup2, 1) := by decide +kernel
theorem dX6_writesBack_75 : decode cX6_writesBack 75 = .ok (.iaload, 1) := by decide +kernel
theorem dX6_writesBack_76 : decode cX6_writesBack 76 = .ok (.iconst 1, 1) := by decide +kernel
theorem dX6_writesBack_77 : decode cX6_writesBack 77 = .ok (.iadd, 1) := by decide +kernel
theorem dX6_writesBack_78 : decode cX6_writesBack 78 = .ok (.iastore, 1) := by decide +kernel
theorem dX6_writesBack_79 : decode cX6_writesBack 79 = .ok (.return_, 1) := by decide +kernel
set_option maxRecDepth 20000 in
theorem ggX6_leaves_X6_counts : GoodIn wsX6_leaves wsX6_counts := goodIn_r _ [6, 1, 7, 8, 9, 5, 10, 11, 12, 13, 14, 15, 16, 17, 18, 19, 20, 21, 22, 23, 24, 25, 26, 27, 28, 29, 30, 31] (by decide +kernel) (by decide +kernel)
set_option maxRecDepth 20000 in
theorem gX6_leaves_X6_counts : GoodIn wsX6_leaves (wsV RX6 51 RX6 yX6_counts wsX6_counts) := goodIn_app (goodIn_of _ (by decide +kernel)) ggX6_leaves_X6_counts
theorem dX6_leaves_0 : decode cX6_leaves 0 = .ok (.aload_n 0, 1) := by decide +kernel
theorem dX6_leaves_1 : decode cX6_leaves 1 = .ok (.getfield 7, 3) := by decide +kernel
theorem dX6_leaves_4 : decode cX6_leaves 4 = .ok (.sipush 256, 3) := by decide +kernel
theorem dX6_leaves_7 : decode cX6_leaves 7 = .ok (.iload_n 2, 1) := by decide +kernel
theorem dX6_leaves_8 : decode cX6_leaves 8 = .ok (.iadd, 1) := by decide +kernel
theorem dX6_leaves_9 : decode cX6_leaves 9 = .ok (.iaload, 1) := by decide +kernel
theorem dX6_leaves_10 : decode cX6_leaves 10 = .ok (.istore_n 3, 1) := by decide +kernel
theorem dX6_leaves_11 : decode cX6_leaves 11 = .ok (.iload_n 3, 1) := by decide +kernel
theorem dX6_leaves_12 : decode cX6_leaves 12 = .ok (.bipush (-5), 2) := by decide +kernel
theorem dX6_leaves_14 : decode cX6_leaves 14 = .ok (.if_icmp .eq 44, 3) := by decide +kernel
theorem dX6_leaves_17 : decode cX6_leaves 17 = .ok (.aload_n 0, 1) := by decide +kernel
theorem dX6_leaves_18 : decode cX6_leaves 18 = .ok (.iload_n 1, 1) := by decide +kernel
theorem dX6_leaves_19 : decode cX6_leaves 19 = .ok (.iload_n 3, 1) := by decide +kernel
theorem dX6_leaves_20 : decode cX6_leaves 20 = .ok (.iconst (-1), 1) := by decide +kernel
theorem dX6_leaves_21 : decode cX6_leaves 21 = .ok (.invokevirtual 51, 3) := by decide +kernel
theorem dX6_leaves_24 : decode cX6_leaves 24 = .ok (.aload_n 0, 1) := by decide +kernel
theorem dX6_leaves_25 : decode cX6_leaves 25 = .ok (.getfield 7, 3) := by decide +kernel
theorem dX6_leaves_28 : decode cX6_leaves 28 = .ok (.sipush 256, 3) := by decide +kernel
theorem dX6_leaves_31 : decode cX6_leaves 31 = .ok (.iload_n 2, 1) := by decide +kernel
theorem dX6_leaves_32 : decode cX6_leaves 32 = .ok (.iadd, 1) := by decide +kernel
theorem dX6_leaves_33 : decode cX6_leaves 33 = .ok (.bipush (-5), 2) := by decide +kernel
theorem dX6_leaves_35 : decode cX6_leaves 35 = .ok (.iastore, 1) := by decide +kernel
theorem dX6_leaves_36 : decode cX6_leaves 36 = .ok (.aload_n 0, 1) := by decide +kernel
theorem dX6_leaves_37 : decode cX6_leaves 37 = .ok (.getfield 7, 3) := by decide +kernel
theorem dX6_leaves_40 : decode cX6_leaves 40 = .ok (.sipush 288, 3) := by decide +kernel
theorem dX6_leaves_43 : decode cX6_leaves 43 = .ok (.iload_n 2, 1) := by decide +kernel
theorem dX6_leaves_44 : decode cX6_leaves 44 = .ok (.iadd, 1) := by decide +kernel
theorem dX6_leaves_45 : decode cX6_leaves 45 = .ok (.iconst 0, 1) := by decide +kernel
theorem dX6_leaves_46 : decode cX6_leaves 46 = .ok (.iastore, 1) := by decide +kernel
theorem dX6_leaves_47 : decode cX6_leaves 47 = .ok (.aload_n 0, 1) := by decide +kernel
theorem dX6_leaves_48 : decode cX6_leaves 48 = .ok (.getfield 7, 3) := by decide +kernel
theorem dX6_leaves_51 : decode cX6_leaves 51 = .ok (.sipush 320, 3) := by decide +kernel
theorem dX6_leaves_54 : decode cX6_leaves 54 = .ok (.iload_n 2, 1) := by decide +kernel
theorem dX6_leaves_55 : decode cX6_leaves 55 = .ok (.iadd, 1) := by decide +kernel
theorem dX6_leaves_56 : decode cX6_leaves 56 = .ok (.iconst 0, 1) := by decide +kernel
theorem dX6_leaves_57 : decode cX6_leaves 57 = .ok (.iastore, 1) := by decide +kernel
theorem dX6_leaves_58 : decode cX6_leaves 58 = .ok (.return_, 1) := by decide +kernel
set_option maxRecDepth 20000 in
theorem ggX6_notes_X6_counts : GoodIn wsX6_notes wsX6_counts := goodIn_r _ [6, 1, 7, 8, 9, 5, 10, 11, 12, 13, 14, 15, 16, 17, 18, 19, 20, 21, 22, 23, 24, 25, 26, 27, 28, 29, 30, 31] (by decide +kernel) (by decide +kernel)
set_option maxRecDepth 20000 in
theorem gX6_notes_X6_counts : GoodIn wsX6_notes (wsV RX6 51 RX6 yX6_counts wsX6_counts) := goodIn_app (goodIn_of _ (by decide +kernel)) ggX6_notes_X6_counts
theorem dX6_notes_0 : decode cX6_notes 0 = .ok (.aload_n 0, 1) := by decide +kernel
theorem dX6_notes_1 : decode cX6_notes 1 = .ok (.getfield 7, 3) := by decide +kernel
theorem dX6_notes_4 : decode cX6_notes 4 = .ok (.sipush 448, 3) := by decide +kernel
theorem dX6_notes_7 : decode cX6_notes 7 = .ok (.bipush 16, 2) := by decide +kernel
theorem dX6_notes_9 : decode cX6_notes 9 = .ok (.iload_n 1, 1) := by decide +kernel
theorem dX6_notes_10 : decode cX6_notes 10 = .ok (.imul, 1) := by decide +kernel
theorem dX6_notes_11 : decode cX6_notes 11 = .ok (.iadd, 1) := by decide +kernel
theorem dX6_notes_12 : decode cX6_notes 12 = .ok (.iload_n 2, 1) := by decide +kernel
theorem dX6_notes_13 : decode cX6_notes 13 = .ok (.bipush 16, 2) := by decide +kernel
theorem dX6_notes_15 : decode cX6_notes 15 = .ok (.idiv, 1) := by decide +kernel
theorem dX6_notes_16 : decode cX6_notes 16 = .ok (.iadd, 1) := by decide +kernel
theorem dX6_notes_17 : decode cX6_notes 17 = .ok (.iconst 1, 1) := by decide +kernel
theorem dX6_notes_18 : decode cX6_notes 18 = .ok (.iastore, 1) := by decide +kernel
theorem dX6_notes_19 : decode cX6_notes 19 = .ok (.aload_n 0, 1) := by decide +kernel
theorem dX6_notes_20 : decode cX6_notes 20 = .ok (.iload_n 1, 1) := by decide +kernel
theorem dX6_notes_21 : decode cX6_notes 21 = .ok (.iload_n 2, 1) := by decide +kernel
theorem dX6_notes_22 : decode cX6_notes 22 = .ok (.iconst 1, 1) := by decide +kernel
theorem dX6_notes_23 : decode cX6_notes 23 = .ok (.invokevirtual 51, 3) := by decide +kernel
theorem dX6_notes_26 : decode cX6_notes 26 = .ok (.return_, 1) := by decide +kernel
set_option maxRecDepth 20000 in
theorem ggX6_forgets_X6_writesBack : GoodIn wsX6_forgets wsX6_writesBack := goodIn_r _ [6, 1, 29, 30, 31, 32, 33, 34, 35, 36, 37, 38, 39, 40, 41, 42, 43, 44, 45, 46] (by decide +kernel) (by decide +kernel)
set_option maxRecDepth 20000 in
theorem gX6_forgets_X6_writesBack : GoodIn wsX6_forgets (wsV RX6 55 RX6 yX6_writesBack wsX6_writesBack) := goodIn_app (goodIn_of _ (by decide +kernel)) ggX6_forgets_X6_writesBack
set_option maxRecDepth 20000 in
theorem ggX6_forgets_X6_leaves : GoodIn wsX6_forgets wsX6_leaves := goodIn_r _ [10, 1, 11, 12, 13, 5, 14, 15, 16, 17, 18, 19, 20, 21, 29, 30, 31, 32, 33, 34, 35, 36, 37, 38, 39, 40, 41, 42, 43, 44, 45, 46] (by decide +kernel) (by decide +kernel)
set_option maxRecDepth 20000 in
theorem gX6_forgets_X6_leaves : GoodIn wsX6_forgets (wsV RX6 59 RX6 yX6_leaves wsX6_leaves) := goodIn_app (goodIn_of _ (by decide +kernel)) ggX6_forgets_X6_leaves
set_option maxRecDepth 20000 in
theorem ggX6_forgets_X6_clears : GoodIn wsX6_forgets wsX6_clears := goodIn_r _ [25, 1, 29, 30, 31, 32, 33, 34, 35, 36, 37, 38, 39, 40, 41, 42, 43, 44, 45, 46] (by decide +kernel) (by decide +kernel)
set_option maxRecDepth 20000 in
theorem gX6_forgets_X6_clears : GoodIn wsX6_forgets (wsV RX6 63 RX6 yX6_clears wsX6_clears) := goodIn_app (goodIn_of _ (by decide +kernel)) ggX6_forgets_X6_clears
set_option maxRecDepth 20000 in
theorem ggX6_forgets_X6_told : GoodIn wsX6_forgets wsX6_told := goodIn_r _ [28] (by decide +kernel) (by decide +kernel)
set_option maxRecDepth 20000 in
theorem gX6_forgets_X6_told : GoodIn wsX6_forgets (va_wsS RX6 66 yX6_told wsX6_told) := goodIn_app (goodIn_of _ (by decide +kernel)) ggX6_forgets_X6_told
theorem dX6_forgets_0 : decode cX6_forgets 0 = .ok (.iconst 0, 1) := by decide +kernel
theorem dX6_forgets_1 : decode cX6_forgets 1 = .ok (.istore_n 3, 1) := by decide +kernel
theorem dX6_forgets_2 : decode cX6_forgets 2 = .ok (.bipush 8, 2) := by decide +kernel
theorem dX6_forgets_4 : decode cX6_forgets 4 = .ok (.iload_n 1, 1) := by decide +kernel
theorem dX6_forgets_5 : decode cX6_forgets 5 = .ok (.imul, 1) := by decide +kernel
theorem dX6_forgets_6 : decode cX6_forgets 6 = .ok (.istore 4, 2) := by decide +kernel
theorem dX6_forgets_8 : decode cX6_forgets 8 = .ok (.iload 4, 2) := by decide +kernel
theorem dX6_forgets_10 : decode cX6_forgets 10 = .ok (.bipush 8, 2) := by decide +kernel
theorem dX6_forgets_12 : decode cX6_forgets 12 = .ok (.iload_n 1, 1) := by decide +kernel
theorem dX6_forgets_13 : decode cX6_forgets 13 = .ok (.imul, 1) := by decide +kernel
theorem dX6_forgets_14 : decode cX6_forgets 14 = .ok (.bipush 8, 2) := by decide +kernel
theorem dX6_forgets_16 : decode cX6_forgets 16 = .ok (.iadd, 1) := by decide +kernel
theorem dX6_forgets_17 : decode cX6_forgets 17 = .ok (.if_icmp .ge 68, 3) := by decide +kernel
theorem dX6_forgets_20 : decode cX6_forgets 20 = .ok (.aload_n 0, 1) := by decide +kernel
theorem dX6_forgets_21 : decode cX6_forgets 21 = .ok (.getfield 7, 3) := by decide +kernel
theorem dX6_forgets_24 : decode cX6_forgets 24 = .ok (.sipush 256, 3) := by decide +kernel
theorem dX6_forgets_27 : decode cX6_forgets 27 = .ok (.iload 4, 2) := by decide +kernel
theorem dX6_forgets_29 : decode cX6_forgets 29 = .ok (.iadd, 1) := by decide +kernel
theorem dX6_forgets_30 : decode cX6_forgets 30 = .ok (.iaload, 1) := by decide +kernel
theorem dX6_forgets_31 : decode cX6_forgets 31 = .ok (.bipush (-5), 2) := by decide +kernel
theorem dX6_forgets_33 : decode cX6_forgets 33 = .ok (.if_icmp .eq 22, 3) := by decide +kernel
theorem dX6_forgets_36 : decode cX6_forgets 36 = .ok (.aload_n 0, 1) := by decide +kernel
theorem dX6_forgets_37 : decode cX6_forgets 37 = .ok (.getfield 7, 3) := by decide +kernel
theorem dX6_forgets_40 : decode cX6_forgets 40 = .ok (.sipush 256, 3) := by decide +kernel
theorem dX6_forgets_43 : decode cX6_forgets 43 = .ok (.iload 4, 2) := by decide +kernel
theorem dX6_forgets_45 : decode cX6_forgets 45 = .ok (.iadd, 1) := by decide +kernel
theorem dX6_forgets_46 : decode cX6_forgets 46 = .ok (.iaload, 1) := by decide +kernel
theorem dX6_forgets_47 : decode cX6_forgets 47 = .ok (.iload_n 2, 1) := by decide +kernel
theorem dX6_forgets_48 : decode cX6_forgets 48 = .ok (.if_icmp .eq 7, 3) := by decide +kernel
theorem dX6_forgets_51 : decode cX6_forgets 51 = .ok (.iconst 1, 1) := by decide +kernel
theorem dX6_forgets_52 : decode cX6_forgets 52 = .ok (.goto 4, 3) := by decide +kernel
theorem dX6_forgets_55 : decode cX6_forgets 55 = .ok (.iconst 0, 1) := by decide +kernel
theorem dX6_forgets_56 : decode cX6_forgets 56 = .ok (.istore 5, 2) := by decide +kernel
theorem dX6_forgets_58 : decode cX6_forgets 58 = .ok (.iload 5, 2) := by decide +kernel
theorem dX6_forgets_60 : decode cX6_forgets 60 = .ok (.ifCond .eq 19, 3) := by decide +kernel
theorem dX6_forgets_63 : decode cX6_forgets 63 = .ok (.aload_n 0, 1) := by decide +kernel
theorem dX6_forgets_64 : decode cX6_forgets 64 = .ok (.iload 4, 2) := by decide +kernel
theorem dX6_forgets_66 : decode cX6_forgets 66 = .ok (.invokevirtual 55, 3) := by decide +kernel
theorem dX6_forgets_69 : decode cX6_forgets 69 = .ok (.aload_n 0, 1) := by decide +kernel
theorem dX6_forgets_70 : decode cX6_forgets 70 = .ok (.iload_n 1, 1) := by decide +kernel
theorem dX6_forgets_71 : decode cX6_forgets 71 = .ok (.iload 4, 2) := by decide +kernel
theorem dX6_forgets_73 : decode cX6_forgets 73 = .ok (.invokevirtual 59, 3) := by decide +kernel
theorem dX6_forgets_76 : decode cX6_forgets 76 = .ok (.iinc 3 1, 3) := by decide +kernel
theorem dX6_forgets_79 : decode cX6_forgets 79 = .ok (.iinc 4 1, 3) := by decide +kernel
theorem dX6_forgets_82 : decode cX6_forgets 82 = .ok (.goto (-74), 3) := by decide +kernel
theorem dX6_forgets_85 : decode cX6_forgets 85 = .ok (.aload_n 0, 1) := by decide +kernel
theorem dX6_forgets_86 : decode cX6_forgets 86 = .ok (.iload_n 1, 1) := by decide +kernel
theorem dX6_forgets_87 : decode cX6_forgets 87 = .ok (.invokevirtual 63, 3) := by decide +kernel
theorem dX6_forgets_90 : decode cX6_forgets 90 = .ok (.aload_n 0, 1) := by decide +kernel
theorem dX6_forgets_91 : decode cX6_forgets 91 = .ok (.getfield 7, 3) := by decide +kernel
theorem dX6_forgets_94 : decode cX6_forgets 94 = .ok (.iload_n 1, 1) := by decide +kernel
theorem dX6_forgets_95 : decode cX6_forgets 95 = .ok (.iconst 5, 1) := by decide +kernel
theorem dX6_forgets_96 : decode cX6_forgets 96 = .ok (.invokestatic 66, 3) := by decide +kernel
theorem dX6_forgets_99 : decode cX6_forgets 99 = .ok (.dup2, 1) := by decide +kernel
theorem dX6_forgets_100 : decode cX6_forgets 100 = .ok (.iaload, 1) := by decide +kernel
theorem dX6_forgets_101 : decode cX6_forgets 101 = .ok (.iconst 1, 1) := by decide +kernel
theorem dX6_forgets_102 : decode cX6_forgets 102 = .ok (.iadd, 1) := by decide +kernel
theorem dX6_forgets_103 : decode cX6_forgets 103 = .ok (.iastore, 1) := by decide +kernel
theorem dX6_forgets_104 : decode cX6_forgets 104 = .ok (.iload_n 3, 1) := by decide +kernel
theorem dX6_forgets_105 : decode cX6_forgets 105 = .ok (.ireturn, 1) := by decide +kernel
set_option maxRecDepth 20000 in
theorem ggX6_begins_X6_placeOf : GoodIn wsX6_begins wsX6_placeOf := goodIn_r _ [5] (by decide +kernel) (by decide +kernel)
set_option maxRecDepth 20000 in
theorem gX6_begins_X6_placeOf : GoodIn wsX6_begins (va_wsS RX6 48 yX6_placeOf wsX6_placeOf) := goodIn_app (goodIn_of _ (by decide +kernel)) ggX6_begins_X6_placeOf
set_option maxRecDepth 20000 in
theorem ggX6_begins_X6_writesBack : GoodIn wsX6_begins wsX6_writesBack := goodIn_r _ [9, 1, 44, 45, 46, 47, 48, 49, 50, 51, 52, 53, 54, 55, 56, 57, 58, 59, 60, 61] (by decide +kernel) (by decide +kernel)
set_option maxRecDepth 20000 in
theorem gX6_begins_X6_writesBack : GoodIn wsX6_begins (wsV RX6 55 RX6 yX6_writesBack wsX6_writesBack) := goodIn_app (goodIn_of _ (by decide +kernel)) ggX6_begins_X6_writesBack
set_option maxRecDepth 20000 in
theorem ggX6_begins_X6_leaves : GoodIn wsX6_begins wsX6_leaves := goodIn_r _ [13, 1, 14, 15, 16, 4, 17, 18, 19, 20, 21, 22, 23, 24, 44, 45, 46, 47, 48, 49, 50, 51, 52, 53, 54, 55, 56, 57, 58, 59, 60, 61] (by decide +kernel) (by decide +kernel)
set_option maxRecDepth 20000 in
theorem gX6_begins_X6_leaves : GoodIn wsX6_begins (wsV RX6 59 RX6 yX6_leaves wsX6_leaves) := goodIn_app (goodIn_of _ (by decide +kernel)) ggX6_begins_X6_leaves
set_option maxRecDepth 20000 in
theorem ggX6_begins_X6_notes : GoodIn wsX6_begins wsX6_notes := goodIn_r _ [28, 1, 14, 15, 16, 4, 17, 18, 19, 20, 21, 22, 23, 24, 44, 45, 46, 47, 48, 49, 50, 51, 52, 53, 54, 55, 56, 57, 58, 59, 60, 61] (by decide +kernel) (by decide +kernel)
set_option maxRecDepth 20000 in
theorem gX6_begins_X6_notes : GoodIn wsX6_begins (wsV RX6 69 RX6 yX6_notes wsX6_notes) := goodIn_app (goodIn_of _ (by decide +kernel)) ggX6_begins_X6_notes
set_option maxRecDepth 20000 in
theorem ggX6_begins_X6_countersFrom : GoodIn wsX6_begins wsX6_countersFrom := goodIn_r _ [32, 1, 44, 45, 46, 47, 48, 49, 50, 51, 52, 53, 54, 55, 56, 57, 58, 59, 60, 61] (by decide +kernel) (by decide +kernel)
set_option maxRecDepth 20000 in
theorem gX6_begins_X6_countersFrom : GoodIn wsX6_begins (wsV RX6 72 RX6 yX6_countersFrom wsX6_countersFrom) := goodIn_app (goodIn_of _ (by decide +kernel)) ggX6_begins_X6_countersFrom
set_option maxRecDepth 20000 in
theorem ggX6_begins_X6_forgets : GoodIn wsX6_begins wsX6_forgets := goodIn_r _ [36, 1, 6, 7, 8, 4, 9, 10, 11, 12, 13, 14, 15, 16, 17, 18, 19, 20, 21, 22, 23, 24, 37, 38, 39, 40, 41, 42, 43, 44, 45, 46, 47, 48, 49, 50, 51, 52, 53, 54, 55, 56, 57, 58, 59, 60, 61] (by decide +kernel) (by decide +kernel)
set_option maxRecDepth 20000 in
theorem gX6_begins_X6_forgets : GoodIn wsX6_begins (wsV RX6 75 RX6 yX6_forgets wsX6_forgets) := goodIn_app (goodIn_of _ (by decide +kernel)) ggX6_begins_X6_forgets
theorem dX6_begins_0 : decode cX6_begins 0 = .ok (.iload_n 1, 1) := by decide +kernel
theorem dX6_begins_1 : decode cX6_begins 1 = .ok (.iload_n 2, 1) := by decide +kernel
theorem dX6_begins_2 : decode cX6_begins 2 = .ok (.invokestatic 48, 3) := by decide +kernel
theorem dX6_begins_5 : decode cX6_begins 5 = .ok (.istore 5, 2) := by decide +kernel
theorem dX6_begins_7 : decode cX6_begins 7 = .ok (.aload_n 0, 1) := by decide +kernel
theorem dX6_begins_8 : decode cX6_begins 8 = .ok (.iload 5, 2) := by decide +kernel
theorem dX6_begins_10 : decode cX6_begins 10 = .ok (.invokevirtual 55, 3) := by decide +kernel
theorem dX6_begins_13 : decode cX6_begins 13 = .ok (.aload_n 0, 1) := by decide +kernel
theorem dX6_begins_14 : decode cX6_begins 14 = .ok (.iload_n 1, 1) := by decide +kernel
theorem dX6_begins_15 : decode cX6_begins 15 = .ok (.iload 5, 2) := by decide +kernel
theorem dX6_begins_17 : decode cX6_begins 17 = .ok (.invokevirtual 59, 3) := by decide +kernel
theorem dX6_begins_20 : decode cX6_begins 20 = .ok (.aload_n 0, 1) := by decide +kernel
theorem dX6_begins_21 : decode cX6_begins 21 = .ok (.getfield 7, 3) := by decide +kernel
theorem dX6_begins_24 : decode cX6_begins 24 = .ok (.sipush 256, 3) := by decide +kernel
theorem dX6_begins_27 : decode cX6_begins 27 = .ok (.iload 5, 2) := by decide +kernel
theorem dX6_begins_29 : decode cX6_begins 29 = .ok (.iadd, 1) := by decide +kernel
theorem dX6_begins_30 : decode cX6_begins 30 = .ok (.iload_n 2, 1) := by decide +kernel
theorem dX6_begins_31 : decode cX6_begins 31 = .ok (.iastore, 1) := by decide +kernel
theorem dX6_begins_32 : decode cX6_begins 32 = .ok (.aload_n 0, 1) := by decide +kernel
theorem dX6_begins_33 : decode cX6_begins 33 = .ok (.getfield 7, 3) := by decide +kernel
theorem dX6_begins_36 : decode cX6_begins 36 = .ok (.sipush 288, 3) := by decide +kernel
theorem dX6_begins_39 : decode cX6_begins 39 = .ok (.iload 5, 2) := by decide +kernel
theorem dX6_begins_41 : decode cX6_begins 41 = .ok (.iadd, 1) := by decide +kernel
theorem dX6_begins_42 : decode cX6_begins 42 = .ok (.iload_n 3, 1) := by decide +kernel
theorem dX6_begins_43 : decode cX6_begins 43 = .ok (.iastore, 1) := by decide +kernel
theorem dX6_begins_44 : decode cX6_begins 44 = .ok (.aload_n 0, 1) := by decide +kernel
theorem dX6_begins_45 : decode cX6_begins 45 = .ok (.getfield 7, 3) := by decide +kernel
theorem dX6_begins_48 : decode cX6_begins 48 = .ok (.sipush 320, 3) := by decide +kernel
theorem dX6_begins_51 : decode cX6_begins 51 = .ok (.iload 5, 2) := by decide +kernel
theorem dX6_begins_53 : decode cX6_begins 53 = .ok (.iadd, 1) := by decide +kernel
theorem dX6_begins_54 : decode cX6_begins 54 = .ok (.iload 4, 2) := by decide +kernel
theorem dX6_begins_56 : decode cX6_begins 56 = .ok (.iastore, 1) := by decide +kernel
theorem dX6_begins_57 : decode cX6_begins 57 = .ok (.aload_n 0, 1) := by decide +kernel
theorem dX6_begins_58 : decode cX6_begins 58 = .ok (.iload_n 1, 1) := by decide +kernel
theorem dX6_begins_59 : decode cX6_begins 59 = .ok (.iload_n 2, 1) := by decide +kernel
theorem dX6_begins_60 : decode cX6_begins 60 = .ok (.invokevirtual 69, 3) := by decide +kernel
theorem dX6_begins_63 : decode cX6_begins 63 = .ok (.aload_n 0, 1) := by decide +kernel
theorem dX6_begins_64 : decode cX6_begins 64 = .ok (.iload_n 1, 1) := by decide +kernel
theorem dX6_begins_65 : decode cX6_begins 65 = .ok (.iconst 1, 1) := by decide +kernel
theorem dX6_begins_66 : decode cX6_begins 66 = .ok (.invokevirtual 72, 3) := by decide +kernel
theorem dX6_begins_69 : decode cX6_begins 69 = .ok (.aload_n 0, 1) := by decide +kernel
theorem dX6_begins_70 : decode cX6_begins 70 = .ok (.getfield 7, 3) := by decide +kernel
theorem dX6_begins_73 : decode cX6_begins 73 = .ok (.sipush 537, 3) := by decide +kernel
theorem dX6_begins_76 : decode cX6_begins 76 = .ok (.iaload, 1) := by decide +kernel
theorem dX6_begins_77 : decode cX6_begins 77 = .ok (.if_icmp .lt 17, 3) := by decide +kernel
theorem dX6_begins_80 : decode cX6_begins 80 = .ok (.aload_n 0, 1) := by decide +kernel
theorem dX6_begins_81 : decode cX6_begins 81 = .ok (.iload_n 1, 1) := by decide +kernel
theorem dX6_begins_82 : decode cX6_begins 82 = .ok (.iload_n 2, 1) := by decide +kernel
theorem dX6_begins_83 : decode cX6_begins 83 = .ok (.invokevirtual 75, 3) := by decide +kernel
theorem dX6_begins_86 : decode cX6_begins 86 = .ok (.istore 6, 2) := by decide +kernel
theorem dX6_begins_88 : decode cX6_begins 88 = .ok (.aload_n 0, 1) := by decide +kernel
theorem dX6_begins_89 : decode cX6_begins 89 = .ok (.iload_n 1, 1) := by decide +kernel
theorem dX6_begins_90 : decode cX6_begins 90 = .ok (.iload_n 2, 1) := by decide +kernel
theorem dX6_begins_91 : decode cX6_begins 91 = .ok (.invokevirtual 69, 3) := by decide +kernel
theorem dX6_begins_94 : decode cX6_begins 94 = .ok (.return_, 1) := by decide +kernel
set_option maxRecDepth 20000 in
theorem ggX6_isSnooped_X6_mayHave : GoodIn wsX6_isSnooped wsX6_mayHave := goodIn_r _ [6, 1, 7, 8, 9, 5, 10, 11, 12, 13, 14, 15, 16, 17, 40, 41, 42, 43, 44, 45, 46, 47, 48, 49, 50, 51, 52, 53, 54, 55, 56, 57] (by decide +kernel) (by decide +kernel)
set_option maxRecDepth 20000 in
theorem gX6_isSnooped_X6_mayHave : GoodIn wsX6_isSnooped (wsV RX6 78 RX6 yX6_mayHave wsX6_mayHave) := goodIn_app (goodIn_of _ (by decide +kernel)) ggX6_isSnooped_X6_mayHave
set_option maxRecDepth 20000 in
theorem ggX6_isSnooped_X6_told : GoodIn wsX6_isSnooped wsX6_told := goodIn_r _ [20] (by decide +kernel) (by decide +kernel)
set_option maxRecDepth 20000 in
theorem gX6_isSnooped_X6_told : GoodIn wsX6_isSnooped (va_wsS RX6 66 yX6_told wsX6_told) := goodIn_app (goodIn_of _ (by decide +kernel)) ggX6_isSnooped_X6_told
set_option maxRecDepth 20000 in
theorem ggX6_isSnooped_X6_holds : GoodIn wsX6_isSnooped wsX6_holds := goodIn_r _ [24, 1, 25, 26, 5, 27, 40, 41, 42, 43, 44, 45, 46, 47, 48, 49, 50, 51, 52, 53, 54, 55, 56, 57] (by decide +kernel) (by decide +kernel)
set_option maxRecDepth 20000 in
theorem gX6_isSnooped_X6_holds : GoodIn wsX6_isSnooped (wsV RX6 81 RX6 yX6_holds wsX6_holds) := goodIn_app (goodIn_of _ (by decide +kernel)) ggX6_isSnooped_X6_holds
set_option maxRecDepth 20000 in
theorem ggX6_isSnooped_X6_placeOf : GoodIn wsX6_isSnooped wsX6_placeOf := goodIn_r _ [27] (by decide +kernel) (by decide +kernel)
set_option maxRecDepth 20000 in
theorem gX6_isSnooped_X6_placeOf : GoodIn wsX6_isSnooped (va_wsS RX6 48 yX6_placeOf wsX6_placeOf) := goodIn_app (goodIn_of _ (by decide +kernel)) ggX6_isSnooped_X6_placeOf
set_option maxRecDepth 20000 in
theorem ggX6_isSnooped_X6_leaves : GoodIn wsX6_isSnooped wsX6_leaves := goodIn_r _ [31, 1, 32, 33, 34, 5, 35, 11, 12, 13, 14, 15, 16, 17, 40, 41, 42, 43, 44, 45, 46, 47, 48, 49, 50, 51, 52, 53, 54, 55, 56, 57] (by decide +kernel) (by decide +kernel)
set_option maxRecDepth 20000 in
theorem gX6_isSnooped_X6_leaves : GoodIn wsX6_isSnooped (wsV RX6 59 RX6 yX6_leaves wsX6_leaves) := goodIn_app (goodIn_of _ (by decide +kernel)) ggX6_isSnooped_X6_leaves
set_option maxRecDepth 20000 in
theorem ggX6_isSnooped_X6_writesBack : GoodIn wsX6_isSnooped wsX6_writesBack := goodIn_r _ [39, 1, 40, 41, 42, 43, 44, 45, 46, 47, 48, 49, 50, 51, 52, 53, 54, 55, 56, 57] (by decide +kernel) (by decide +kernel)
set_option maxRecDepth 20000 in
theorem gX6_isSnooped_X6_writesBack : GoodIn wsX6_isSnooped (wsV RX6 55 RX6 yX6_writesBack wsX6_writesBack) := goodIn_app (goodIn_of _ (by decide +kernel)) ggX6_isSnooped_X6_writesBack
theorem dX6_isSnooped_0 : decode cX6_isSnooped 0 = .ok (.aload_n 0, 1) := by decide +kernel
theorem dX6_isSnooped_1 : decode cX6_isSnooped 1 = .ok (.iload_n 1, 1) := by decide +kernel
theorem dX6_isSnooped_2 : decode cX6_isSnooped 2 = .ok (.iload_n 2, 1) := by decide +kernel
theorem dX6_isSnooped_3 : decode cX6_isSnooped 3 = .ok (.invokevirtual 78, 3) := by decide +kernel
theorem dX6_isSnooped_6 : decode cX6_isSnooped 6 = .ok (.ifCond .ne 19, 3) := by decide +kernel
theorem dX6_isSnooped_9 : decode cX6_isSnooped 9 = .ok (.aload_n 0, 1) := by decide +kernel
theorem dX6_isSnooped_10 : decode cX6_isSnooped 10 = .ok (.getfield 7, 3) := by decide +kernel
theorem dX6_isSnooped_13 : decode cX6_isSnooped 13 = .ok (.iload_n 1, 1) := by decide +kernel
theorem dX6_isSnooped_14 : decode cX6_isSnooped 14 = .ok (.iconst 4, 1) := by decide +kernel
theorem dX6_isSnooped_15 : decode cX6_isSnooped 15 = .ok (.invokestatic 66, 3) := by decide +kernel
theorem dX6_isSnooped_18 : decode cX6_isSnooped 18 = .ok (.dup2, 1) := by decide +kernel
theorem dX6_isSnooped_19 : decode cX6_isSnooped 19 = .ok (.iaload, 1) := by decide +kernel
theorem dX6_isSnooped_20 : decode cX6_isSnooped 20 = .ok (.iconst 1, 1) := by decide +kernel
theorem dX6_isSnooped_21 : decode cX6_isSnooped 21 = .ok (.iadd, 1) := by decide +kernel
theorem dX6_isSnooped_22 : decode cX6_isSnooped 22 = .ok (.iastore, 1) := by decide +kernel
theorem dX6_isSnooped_23 : decode cX6_isSnooped 23 = .ok (.iconst 0, 1) := by decide +kernel
theorem dX6_isSnooped_24 : decode cX6_isSnooped 24 = .ok (.ireturn, 1) := by decide +kernel
theorem dX6_isSnooped_25 : decode cX6_isSnooped 25 = .ok (.aload_n 0, 1) := by decide +kernel
theorem dX6_isSnooped_26 : decode cX6_isSnooped 26 = .ok (.getfield 7, 3) := by decide +kernel
theorem dX6_isSnooped_29 : decode cX6_isSnooped 29 = .ok (.iload_n 1, 1) := by decide +kernel
theorem dX6_isSnooped_30 : decode cX6_isSnooped 30 = .ok (.iconst 2, 1) := by decide +kernel
theorem dX6_isSnooped_31 : decode cX6_isSnooped 31 = .ok (.invokestatic 66, 3) := by decide +kernel
theorem dX6_isSnooped_34 : decode cX6_isSnooped 34 = .ok (.dup2, 1) := by decide +kernel
theorem dX6_isSnooped_35 : decode cX6_isSnooped 35 = .ok (.iaload, 1) := by decide +kernel
theorem dX6_isSnooped_36 : decode cX6_isSnooped 36 = .ok (.iconst 1, 1) := by decide +kernel
theorem dX6_isSnooped_37 : decode cX6_isSnooped 37 = .ok (.iadd, 1) := by decide +kernel
theorem dX6_isSnooped_38 : decode cX6_isSnooped 38 = .ok (.iastore, 1) := by decide +kernel
theorem dX6_isSnooped_39 : decode cX6_isSnooped 39 = .ok (.aload_n 0, 1) := by decide +kernel
theorem dX6_isSnooped_40 : decode cX6_isSnooped 40 = .ok (.iload_n 1, 1) := by decide +kernel
theorem dX6_isSnooped_41 : decode cX6_isSnooped 41 = .ok (.iload_n 2, 1) := by decide +kernel
theorem dX6_isSnooped_42 : decode cX6_isSnooped 42 = .ok (.invokevirtual 81, 3) := by decide +kernel
theorem dX6_isSnooped_45 : decode cX6_isSnooped 45 = .ok (.ifCond .ne 20, 3) := by decide +kernel
theorem dX6_isSnooped_48 : decode cX6_isSnooped 48 = .ok (.aload_n 0, 1) := by decide +kernel
theorem dX6_isSnooped_49 : decode cX6_isSnooped 49 = .ok (.getfield 7, 3) := by decide +kernel
theorem dX6_isSnooped_52 : decode cX6_isSnooped 52 = .ok (.iload_n 1, 1) := by decide +kernel
theorem dX6_isSnooped_53 : decode cX6_isSnooped 53 = .ok (.iconst 3, 1) := by decide +kernel
theorem dX6_isSnooped_54 : decode cX6_isSnooped 54 = .ok (.invokestatic 66, 3) := by decide +kernel
theorem dX6_isSnooped_57 : decode cX6_isSnooped 57 = .ok (.dup2, 1) := by decide +kernel
theorem dX6_isSnooped_58 : decode cX6_isSnooped 58 = .ok (.iaload, 1) := by decide +kernel
theorem dX6_isSnooped_59 : decode cX6_isSnooped 59 = .ok (.iconst 1, 1) := by decide +kernel
theorem dX6_isSnooped_60 : decode cX6_isSnooped 60 = .ok (.iadd, 1) := by decide +kernel
theorem dX6_isSnooped_61 : decode cX6_isSnooped 61 = .ok (.iastore, 1) := by decide +kernel
theorem dX6_isSnooped_62 : decode cX6_isSnooped 62 = .ok (.goto 29, 3) := by decide +kernel
theorem dX6_isSnooped_65 : decode cX6_isSnooped 65 = .ok (.iload_n 3, 1) := by decide +kernel
theorem dX6_isSnooped_66 : decode cX6_isSnooped 66 = .ok (.ifCond .eq 16, 3) := by decide +kernel
theorem dX6_isSnooped_69 : decode cX6_isSnooped 69 = .ok (.aload_n 0, 1) := by decide +kernel
theorem dX6_isSnooped_70 : decode cX6_isSnooped 70 = .ok (.iload_n 1, 1) := by decide +kernel
theorem dX6_isSnooped_71 : decode cX6_isSnooped 71 = .ok (.iload_n 1, 1) := by decide +kernel
theorem dX6_isSnooped_72 : decode cX6_isSnooped 72 = .ok (.iload_n 2, 1) := by decide +kernel
theorem dX6_isSnooped_73 : decode cX6_isSnooped 73 = .ok (.invokestatic 48, 3) := by decide +kernel
theorem dX6_isSnooped_76 : decode cX6_isSnooped 76 = .ok (.invokevirtual 59, 3) := by decide +kernel
theorem dX6_isSnooped_79 : decode cX6_isSnooped 79 = .ok (.goto 12, 3) := by decide +kernel
theorem dX6_isSnooped_82 : decode cX6_isSnooped 82 = .ok (.aload_n 0, 1) := by decide +kernel
theorem dX6_isSnooped_83 : decode cX6_isSnooped 83 = .ok (.iload_n 1, 1) := by decide +kernel
theorem dX6_isSnooped_84 : decode cX6_isSnooped 84 = .ok (.iload_n 2, 1) := by decide +kernel
theorem dX6_isSnooped_85 : decode cX6_isSnooped 85 = .ok (.invokestatic 48, 3) := by decide +kernel
theorem dX6_isSnooped_88 : decode cX6_isSnooped 88 = .ok (.invokevirtual 55, 3) := by decide +kernel
theorem dX6_isSnooped_91 : decode cX6_isSnooped 91 = .ok (.iconst 1, 1) := by decide +kernel
theorem dX6_isSnooped_92 : decode cX6_isSnooped 92 = .ok (.ireturn, 1) := by decide +kernel
set_option maxRecDepth 20000 in
theorem ggX6_snoops_X6_isSnooped : GoodIn wsX6_snoops wsX6_isSnooped := goodIn_r _ [5, 6, 7, 8, 9, 4, 10, 11, 12, 13, 14, 15, 16, 17, 18, 19, 20, 21, 22, 23, 24, 25, 26, 27, 28, 29, 30, 31, 32, 33, 34, 35, 36, 37, 38, 39, 40, 41, 42, 43, 44, 45, 46, 47, 48, 49, 50, 51, 52, 53, 54, 55, 56, 57, 58, 59, 60, 61] (by decide +kernel) (by decide +kernel)
set_option maxRecDepth 20000 in
theorem gX6_snoops_X6_isSnooped : GoodIn wsX6_snoops (wsV RX6 84 RX6 yX6_isSnooped wsX6_isSnooped) := goodIn_app (goodIn_of _ (by decide +kernel)) ggX6_snoops_X6_isSnooped
theorem dX6_snoops_0 : decode cX6_snoops 0 = .ok (.iconst 0, 1) := by decide +kernel
theorem dX6_snoops_1 : decode cX6_snoops 1 = .ok (.istore 4, 2) := by decide +kernel
theorem dX6_snoops_3 : decode cX6_snoops 3 = .ok (.iconst 0, 1) := by decide +kernel
theorem dX6_snoops_4 : decode cX6_snoops 4 = .ok (.istore 5, 2) := by decide +kernel
theorem dX6_snoops_6 : decode cX6_snoops 6 = .ok (.iload 5, 2) := by decide +kernel
theorem dX6_snoops_8 : decode cX6_snoops 8 = .ok (.iconst 4, 1) := by decide +kernel
theorem dX6_snoops_9 : decode cX6_snoops 9 = .ok (.if_icmp .ge 36, 3) := by decide +kernel
theorem dX6_snoops_12 : decode cX6_snoops 12 = .ok (.iload 4, 2) := by decide +kernel
theorem dX6_snoops_14 : decode cX6_snoops 14 = .ok (.iload 5, 2) := by decide +kernel
theorem dX6_snoops_16 : decode cX6_snoops 16 = .ok (.iload_n 1, 1) := by decide +kernel
theorem dX6_snoops_17 : decode cX6_snoops 17 = .ok (.if_icmp .eq 18, 3) := by decide +kernel
theorem dX6_snoops_20 : decode cX6_snoops 20 = .ok (.aload_n 0, 1) := by decide +kernel
theorem dX6_snoops_21 : decode cX6_snoops 21 = .ok (.iload 5, 2) := by decide +kernel
theorem dX6_snoops_23 : decode cX6_snoops 23 = .ok (.iload_n 2, 1) := by decide +kernel
theorem dX6_snoops_24 : decode cX6_snoops 24 = .ok (.iload_n 3, 1) := by decide +kernel
theorem dX6_snoops_25 : decode cX6_snoops 25 = .ok (.invokevirtual 84, 3) := by decide +kernel
theorem dX6_snoops_28 : decode cX6_snoops 28 = .ok (.ifCond .eq 7, 3) := by decide +kernel
theorem dX6_snoops_31 : decode cX6_snoops 31 = .ok (.iconst 1, 1) := by decide +kernel
theorem dX6_snoops_32 : decode cX6_snoops 32 = .ok (.goto 4, 3) := by decide +kernel
theorem dX6_snoops_35 : decode cX6_snoops 35 = .ok (.iconst 0, 1) := by decide +kernel
theorem dX6_snoops_36 : decode cX6_snoops 36 = .ok (.iadd, 1) := by decide +kernel
theorem dX6_snoops_37 : decode cX6_snoops 37 = .ok (.istore 4, 2) := by decide +kernel
theorem dX6_snoops_39 : decode cX6_snoops 39 = .ok (.iinc 5 1, 3) := by decide +kernel
theorem dX6_snoops_42 : decode cX6_snoops 42 = .ok (.goto (-36), 3) := by decide +kernel
theorem dX6_snoops_45 : decode cX6_snoops 45 = .ok (.iload 4, 2) := by decide +kernel
theorem dX6_snoops_47 : decode cX6_snoops 47 = .ok (.ireturn, 1) := by decide +kernel
set_option maxRecDepth 20000 in
theorem ggX6_reads_X6_holds : GoodIn wsX6_reads wsX6_holds := goodIn_r _ [6, 1, 7, 8, 5, 9, 68, 69, 70, 71, 72, 73, 74, 75, 76, 77, 78, 79, 80, 81, 82, 83, 84, 85] (by decide +kernel) (by decide +kernel)
set_option maxRecDepth 20000 in
theorem gX6_reads_X6_holds : GoodIn wsX6_reads (wsV RX6 81 RX6 yX6_holds wsX6_holds) := goodIn_app (goodIn_of _ (by decide +kernel)) ggX6_reads_X6_holds
set_option maxRecDepth 20000 in
theorem ggX6_reads_X6_told : GoodIn wsX6_reads wsX6_told := goodIn_r _ [12] (by decide +kernel) (by decide +kernel)
set_option maxRecDepth 20000 in
theorem gX6_reads_X6_told : GoodIn wsX6_reads (va_wsS RX6 66 yX6_told wsX6_told) := goodIn_app (goodIn_of _ (by decide +kernel)) ggX6_reads_X6_told
set_option maxRecDepth 20000 in
theorem ggX6_reads_X6_placeOf : GoodIn wsX6_reads wsX6_placeOf := goodIn_r _ [9] (by decide +kernel) (by decide +kernel)
set_option maxRecDepth 20000 in
theorem gX6_reads_X6_placeOf : GoodIn wsX6_reads (va_wsS RX6 48 yX6_placeOf wsX6_placeOf) := goodIn_app (goodIn_of _ (by decide +kernel)) ggX6_reads_X6_placeOf
set_option maxRecDepth 20000 in
theorem ggX6_reads_X6_snoops : GoodIn wsX6_reads wsX6_snoops := goodIn_r _ [16, 17, 18, 19, 5, 20, 1, 21, 22, 23, 24, 25, 26, 27, 28, 29, 30, 31, 32, 33, 34, 35, 10, 11, 12, 2, 3, 4, 6, 7, 8, 9, 36, 37, 38, 39, 40, 41, 42, 43, 44, 45, 46, 47, 68, 69, 70, 71, 72, 73, 74, 75, 76, 77, 78, 79, 80, 81, 82, 83, 84, 85] (by decide +kernel) (by decide +kernel)
set_option maxRecDepth 20000 in
theorem gX6_reads_X6_snoops : GoodIn wsX6_reads (wsV RX6 88 RX6 yX6_snoops wsX6_snoops) := goodIn_app (goodIn_of _ (by decide +kernel)) ggX6_reads_X6_snoops
set_option maxRecDepth 20000 in
theorem ggX6_reads_X6_begins : GoodIn wsX6_reads wsX6_begins := goodIn_r _ [51, 1, 7, 8, 5, 9, 44, 45, 46, 47, 36, 37, 38, 39, 40, 41, 42, 43, 29, 30, 31, 32, 33, 34, 35, 52, 53, 54, 55, 56, 57, 58, 59, 60, 61, 62, 63, 64, 65, 66, 67, 10, 11, 12, 68, 69, 70, 71, 72, 73, 74, 75, 76, 77, 78, 79, 80, 81, 82, 83, 84, 85] (by decide +kernel) (by decide +kernel)
set_option maxRecDepth 20000 in
theorem gX6_reads_X6_begins : GoodIn wsX6_reads (wsV RX6 92 RX6 yX6_begins wsX6_begins) := goodIn_app (goodIn_of _ (by decide +kernel)) ggX6_reads_X6_begins
theorem dX6_reads_0 : decode cX6_reads 0 = .ok (.aload_n 0, 1) := by decide +kernel
theorem dX6_reads_1 : decode cX6_reads 1 = .ok (.iload_n 1, 1) := by decide +kernel
theorem dX6_reads_2 : decode cX6_reads 2 = .ok (.iload_n 2, 1) := by decide +kernel
theorem dX6_reads_3 : decode cX6_reads 3 = .ok (.invokevirtual 81, 3) := by decide +kernel
theorem dX6_reads_6 : decode cX6_reads 6 = .ok (.ifCond .eq 32, 3) := by decide +kernel
theorem dX6_reads_9 : decode cX6_reads 9 = .ok (.aload_n 0, 1) := by decide +kernel
theorem dX6_reads_10 : decode cX6_reads 10 = .ok (.getfield 7, 3) := by decide +kernel
theorem dX6_reads_13 : decode cX6_reads 13 = .ok (.iload_n 1, 1) := by decide +kernel
theorem dX6_reads_14 : decode cX6_reads 14 = .ok (.iconst 0, 1) := by decide +kernel
theorem dX6_reads_15 : decode cX6_reads 15 = .ok (.invokestatic 66, 3) := by decide +kernel
theorem dX6_reads_18 : decode cX6_reads 18 = .ok (.dup2, 1) := by decide +kernel
theorem dX6_reads_19 : decode cX6_reads 19 = .ok (.iaload, 1) := by decide +kernel
theorem dX6_reads_20 : decode cX6_reads 20 = .ok (.iconst 1, 1) := by decide +kernel
theorem dX6_reads_21 : decode cX6_reads 21 = .ok (.iadd, 1) := by decide +kernel
theorem dX6_reads_22 : decode cX6_reads 22 = .ok (.iastore, 1) := by decide +kernel
theorem dX6_reads_23 : decode cX6_reads 23 = .ok (.aload_n 0, 1) := by decide +kernel
theorem dX6_reads_24 : decode cX6_reads 24 = .ok (.getfield 7, 3) := by decide +kernel
theorem dX6_reads_27 : decode cX6_reads 27 = .ok (.sipush 288, 3) := by decide +kernel
theorem dX6_reads_30 : decode cX6_reads 30 = .ok (.iload_n 1, 1) := by decide +kernel
theorem dX6_reads_31 : decode cX6_reads 31 = .ok (.iload_n 2, 1) := by decide +kernel
theorem dX6_reads_32 : decode cX6_reads 32 = .ok (.invokestatic 48, 3) := by decide +kernel
theorem dX6_reads_35 : decode cX6_reads 35 = .ok (.iadd, 1) := by decide +kernel
theorem dX6_reads_36 : decode cX6_reads 36 = .ok (.iaload, 1) := by decide +kernel
theorem dX6_reads_37 : decode cX6_reads 37 = .ok (.ireturn, 1) := by decide +kernel
theorem dX6_reads_38 : decode cX6_reads 38 = .ok (.aload_n 0, 1) := by decide +kernel
theorem dX6_reads_39 : decode cX6_reads 39 = .ok (.getfield 7, 3) := by decide +kernel
theorem dX6_reads_42 : decode cX6_reads 42 = .ok (.iload_n 1, 1) := by decide +kernel
theorem dX6_reads_43 : decode cX6_reads 43 = .ok (.iconst 1, 1) := by decide +kernel
theorem dX6_reads_44 : decode cX6_reads 44 = .ok (.invokestatic 66, 3) := by decide +kernel
theorem dX6_reads_47 : decode cX6_reads 47 = .ok (.dup2, 1) := by decide +kernel
theorem dX6_reads_48 : decode cX6_reads 48 = .ok (.iaload, 1) := by decide +kernel
theorem dX6_reads_49 : decode cX6_reads 49 = .ok (.iconst 1, 1) := by decide +kernel
theorem dX6_reads_50 : decode cX6_reads 50 = .ok (.iadd, 1) := by decide +kernel
theorem dX6_reads_51 : decode cX6_reads 51 = .ok (.iastore, 1) := by decide +kernel
theorem dX6_reads_52 : decode cX6_reads 52 = .ok (.aload_n 0, 1) := by decide +kernel
theorem dX6_reads_53 : decode cX6_reads 53 = .ok (.iload_n 1, 1) := by decide +kernel
theorem dX6_reads_54 : decode cX6_reads 54 = .ok (.iload_n 2, 1) := by decide +kernel
theorem dX6_reads_55 : decode cX6_reads 55 = .ok (.iconst 0, 1) := by decide +kernel
theorem dX6_reads_56 : decode cX6_reads 56 = .ok (.invokevirtual 88, 3) := by decide +kernel
theorem dX6_reads_59 : decode cX6_reads 59 = .ok (.istore_n 3, 1) := by decide +kernel
theorem dX6_reads_60 : decode cX6_reads 60 = .ok (.aload_n 0, 1) := by decide +kernel
theorem dX6_reads_61 : decode cX6_reads 61 = .ok (.iload_n 1, 1) := by decide +kernel
theorem dX6_reads_62 : decode cX6_reads 62 = .ok (.iload_n 2, 1) := by decide +kernel
theorem dX6_reads_63 : decode cX6_reads 63 = .ok (.aload_n 0, 1) := by decide +kernel
theorem dX6_reads_64 : decode cX6_reads 64 = .ok (.getfield 7, 3) := by decide +kernel
theorem dX6_reads_67 : decode cX6_reads 67 = .ok (.iconst 0, 1) := by decide +kernel
theorem dX6_reads_68 : decode cX6_reads 68 = .ok (.iload_n 2, 1) := by decide +kernel
theorem dX6_reads_69 : decode cX6_reads 69 = .ok (.iadd, 1) := by decide +kernel
theorem dX6_reads_70 : decode cX6_reads 70 = .ok (.iaload, 1) := by decide +kernel
theorem dX6_reads_71 : decode cX6_reads 71 = .ok (.iconst 0, 1) := by decide +kernel
theorem dX6_reads_72 : decode cX6_reads 72 = .ok (.invokevirtual 92, 3) := by decide +kernel
theorem dX6_reads_75 : decode cX6_reads 75 = .ok (.aload_n 0, 1) := by decide +kernel
theorem dX6_reads_76 : decode cX6_reads 76 = .ok (.getfield 7, 3) := by decide +kernel
theorem dX6_reads_79 : decode cX6_reads 79 = .ok (.sipush 288, 3) := by decide +kernel
theorem dX6_reads_82 : decode cX6_reads 82 = .ok (.iload_n 1, 1) := by decide +kernel
theorem dX6_reads_83 : decode cX6_reads 83 = .ok (.iload_n 2, 1) := by decide +kernel
theorem dX6_reads_84 : decode cX6_reads 84 = .ok (.invokestatic 48, 3) := by decide +kernel
theorem dX6_reads_87 : decode cX6_reads 87 = .ok (.iadd, 1) := by decide +kernel
theorem dX6_reads_88 : decode cX6_reads 88 = .ok (.iaload, 1) := by decide +kernel
theorem dX6_reads_89 : decode cX6_reads 89 = .ok (.ireturn, 1) := by decide +kernel
set_option maxRecDepth 20000 in
theorem ggX6_writes_X6_placeOf : GoodIn wsX6_writes wsX6_placeOf := goodIn_r _ [5] (by decide +kernel) (by decide +kernel)
set_option maxRecDepth 20000 in
theorem gX6_writes_X6_placeOf : GoodIn wsX6_writes (va_wsS RX6 48 yX6_placeOf wsX6_placeOf) := goodIn_app (goodIn_of _ (by decide +kernel)) ggX6_writes_X6_placeOf
set_option maxRecDepth 20000 in
theorem ggX6_writes_X6_holds : GoodIn wsX6_writes wsX6_holds := goodIn_r _ [9, 1, 2, 3, 4, 5, 68, 69, 70, 71, 72, 73, 74, 75, 76, 77, 78, 79, 80, 81, 82, 83, 84, 85] (by decide +kernel) (by decide +kernel)
set_option maxRecDepth 20000 in
theorem gX6_writes_X6_holds : GoodIn wsX6_writes (wsV RX6 81 RX6 yX6_holds wsX6_holds) := goodIn_app (goodIn_of _ (by decide +kernel)) ggX6_writes_X6_holds
set_option maxRecDepth 20000 in
theorem ggX6_writes_X6_snoops : GoodIn wsX6_writes wsX6_snoops := goodIn_r _ [13, 14, 15, 16, 4, 17, 1, 18, 19, 20, 21, 22, 23, 24, 25, 26, 27, 28, 29, 30, 31, 32, 33, 34, 35, 6, 7, 8, 9, 2, 3, 5, 36, 37, 38, 39, 40, 41, 42, 43, 44, 45, 46, 47, 68, 69, 70, 71, 72, 73, 74, 75, 76, 77, 78, 79, 80, 81, 82, 83, 84, 85] (by decide +kernel) (by decide +kernel)
set_option maxRecDepth 20000 in
theorem gX6_writes_X6_snoops : GoodIn wsX6_writes (wsV RX6 88 RX6 yX6_snoops wsX6_snoops) := goodIn_app (goodIn_of _ (by decide +kernel)) ggX6_writes_X6_snoops
set_option maxRecDepth 20000 in
theorem ggX6_writes_X6_begins : GoodIn wsX6_writes wsX6_begins := goodIn_r _ [51, 1, 2, 3, 4, 5, 44, 45, 46, 47, 36, 37, 38, 39, 40, 41, 42, 43, 26, 27, 28, 29, 30, 31, 32, 52, 53, 54, 55, 56, 57, 58, 59, 60, 61, 62, 63, 64, 65, 66, 67, 33, 34, 35, 68, 69, 70, 71, 72, 73, 74, 75, 76, 77, 78, 79, 80, 81, 82, 83, 84, 85] (by decide +kernel) (by decide +kernel)
set_option maxRecDepth 20000 in
theorem gX6_writes_X6_begins : GoodIn wsX6_writes (wsV RX6 92 RX6 yX6_begins wsX6_begins) := goodIn_app (goodIn_of _ (by decide +kernel)) ggX6_writes_X6_begins
theorem dX6_writes_0 : decode cX6_writes 0 = .ok (.iload_n 1, 1) := by decide +kernel
theorem dX6_writes_1 : decode cX6_writes 1 = .ok (.iload_n 2, 1) := by decide +kernel
theorem dX6_writes_2 : decode cX6_writes 2 = .ok (.invokestatic 48, 3) := by decide +kernel
theorem dX6_writes_5 : decode cX6_writes 5 = .ok (.istore 4, 2) := by decide +kernel
theorem dX6_writes_7 : decode cX6_writes 7 = .ok (.aload_n 0, 1) := by decide +kernel
theorem dX6_writes_8 : decode cX6_writes 8 = .ok (.getfield 7, 3) := by decide +kernel
theorem dX6_writes_11 : decode cX6_writes 11 = .ok (.sipush 539, 3) := by decide +kernel
theorem dX6_writes_14 : decode cX6_writes 14 = .ok (.dup2, 1) := by decide +kernel
theorem dX6_writes_15 : decode cX6_writes 15 = .ok (.iaload, 1) := by decide +kernel
theorem dX6_writes_16 : decode cX6_writes 16 = .ok (.iconst 1, 1) := by decide +kernel
theorem dX6_writes_17 : decode cX6_writes 17 = .ok (.iadd, 1) := by decide +kernel
theorem dX6_writes_18 : decode cX6_writes 18 = .ok (.iastore, 1) := by decide +kernel
theorem dX6_writes_19 : decode cX6_writes 19 = .ok (.aload_n 0, 1) := by decide +kernel
theorem dX6_writes_20 : decode cX6_writes 20 = .ok (.iload_n 1, 1) := by decide +kernel
theorem dX6_writes_21 : decode cX6_writes 21 = .ok (.iload_n 2, 1) := by decide +kernel
theorem dX6_writes_22 : decode cX6_writes 22 = .ok (.invokevirtual 81, 3) := by decide +kernel
theorem dX6_writes_25 : decode cX6_writes 25 = .ok (.ifCond .eq 32, 3) := by decide +kernel
theorem dX6_writes_28 : decode cX6_writes 28 = .ok (.aload_n 0, 1) := by decide +kernel
theorem dX6_writes_29 : decode cX6_writes 29 = .ok (.getfield 7, 3) := by decide +kernel
theorem dX6_writes_32 : decode cX6_writes 32 = .ok (.sipush 320, 3) := by decide +kernel
theorem dX6_writes_35 : decode cX6_writes 35 = .ok (.iload 4, 2) := by decide +kernel
theorem dX6_writes_37 : decode cX6_writes 37 = .ok (.iadd, 1) := by decide +kernel
theorem dX6_writes_38 : decode cX6_writes 38 = .ok (.iaload, 1) := by decide +kernel
theorem dX6_writes_39 : decode cX6_writes 39 = .ok (.iconst 1, 1) := by decide +kernel
theorem dX6_writes_40 : decode cX6_writes 40 = .ok (.if_icmp .ne 17, 3) := by decide +kernel
theorem dX6_writes_43 : decode cX6_writes 43 = .ok (.aload_n 0, 1) := by decide +kernel
theorem dX6_writes_44 : decode cX6_writes 44 = .ok (.getfield 7, 3) := by decide +kernel
theorem dX6_writes_47 : decode cX6_writes 47 = .ok (.sipush 288, 3) := by decide +kernel
theorem dX6_writes_50 : decode cX6_writes 50 = .ok (.iload 4, 2) := by decide +kernel
theorem dX6_writes_52 : decode cX6_writes 52 = .ok (.iadd, 1) := by decide +kernel
theorem dX6_writes_53 : decode cX6_writes 53 = .ok (.iload_n 3, 1) := by decide +kernel
theorem dX6_writes_54 : decode cX6_writes 54 = .ok (.iastore, 1) := by decide +kernel
theorem dX6_writes_55 : decode cX6_writes 55 = .ok (.iconst 0, 1) := by decide +kernel
theorem dX6_writes_56 : decode cX6_writes 56 = .ok (.ireturn, 1) := by decide +kernel
theorem dX6_writes_57 : decode cX6_writes 57 = .ok (.aload_n 0, 1) := by decide +kernel
theorem dX6_writes_58 : decode cX6_writes 58 = .ok (.iload_n 1, 1) := by decide +kernel
theorem dX6_writes_59 : decode cX6_writes 59 = .ok (.iload_n 2, 1) := by decide +kernel
theorem dX6_writes_60 : decode cX6_writes 60 = .ok (.iconst 1, 1) := by decide +kernel
theorem dX6_writes_61 : decode cX6_writes 61 = .ok (.invokevirtual 88, 3) := by decide +kernel
theorem dX6_writes_64 : decode cX6_writes 64 = .ok (.istore 5, 2) := by decide +kernel
theorem dX6_writes_66 : decode cX6_writes 66 = .ok (.aload_n 0, 1) := by decide +kernel
theorem dX6_writes_67 : decode cX6_writes 67 = .ok (.iload_n 1, 1) := by decide +kernel
theorem dX6_writes_68 : decode cX6_writes 68 = .ok (.iload_n 2, 1) := by decide +kernel
theorem dX6_writes_69 : decode cX6_writes 69 = .ok (.invokevirtual 81, 3) := by decide +kernel
theorem dX6_writes_72 : decode cX6_writes 72 = .ok (.ifCond .eq 30, 3) := by decide +kernel
theorem dX6_writes_75 : decode cX6_writes 75 = .ok (.aload_n 0, 1) := by decide +kernel
theorem dX6_writes_76 : decode cX6_writes 76 = .ok (.getfield 7, 3) := by decide +kernel
theorem dX6_writes_79 : decode cX6_writes 79 = .ok (.sipush 288, 3) := by decide +kernel
theorem dX6_writes_82 : decode cX6_writes 82 = .ok (.iload 4, 2) := by decide +kernel
theorem dX6_writes_84 : decode cX6_writes 84 = .ok (.iadd, 1) := by decide +kernel
theorem dX6_writes_85 : decode cX6_writes 85 = .ok (.iload_n 3, 1) := by decide +kernel
theorem dX6_writes_86 : decode cX6_writes 86 = .ok (.iastore, 1) := by decide +kernel
theorem dX6_writes_87 : decode cX6_writes 87 = .ok (.aload_n 0, 1) := by decide +kernel
theorem dX6_writes_88 : decode cX6_writes 88 = .ok (.getfield 7, 3) := by decide +kernel
theorem dX6_writes_91 : decode cX6_writes 91 = .ok (.sipush 320, 3) := by decide +kernel
theorem dX6_writes_94 : decode cX6_writes 94 = .ok (.iload 4, 2) := by decide +kernel
theorem dX6_writes_96 : decode cX6_writes 96 = .ok (.iadd, 1) := by decide +kernel
theorem dX6_writes_97 : decode cX6_writes 97 = .ok (.iconst 1, 1) := by decide +kernel
theorem dX6_writes_98 : decode cX6_writes 98 = .ok (.iastore, 1) := by decide +kernel
theorem dX6_writes_99 : decode cX6_writes 99 = .ok (.goto 11, 3) := by decide +kernel
theorem dX6_writes_102 : decode cX6_writes 102 = .ok (.aload_n 0, 1) := by decide +kernel
theorem dX6_writes_103 : decode cX6_writes 103 = .ok (.iload_n 1, 1) := by decide +kernel
theorem dX6_writes_104 : decode cX6_writes 104 = .ok (.iload_n 2, 1) := by decide +kernel
theorem dX6_writes_105 : decode cX6_writes 105 = .ok (.iload_n 3, 1) := by decide +kernel
theorem dX6_writes_106 : decode cX6_writes 106 = .ok (.iconst 1, 1) := by decide +kernel
theorem dX6_writes_107 : decode cX6_writes 107 = .ok (.invokevirtual 92, 3) := by decide +kernel
theorem dX6_writes_110 : decode cX6_writes 110 = .ok (.iload 5, 2) := by decide +kernel
theorem dX6_writes_112 : decode cX6_writes 112 = .ok (.ireturn, 1) := by decide +kernel
set_option maxRecDepth 20000 in
theorem ggX6_drops_X6_placeOf : GoodIn wsX6_drops wsX6_placeOf := goodIn_r _ [5] (by decide +kernel) (by decide +kernel)
set_option maxRecDepth 20000 in
theorem gX6_drops_X6_placeOf : GoodIn wsX6_drops (va_wsS RX6 48 yX6_placeOf wsX6_placeOf) := goodIn_app (goodIn_of _ (by decide +kernel)) ggX6_drops_X6_placeOf
set_option maxRecDepth 20000 in
theorem ggX6_drops_X6_writesBack : GoodIn wsX6_drops wsX6_writesBack := goodIn_r _ [9, 1, 25, 26, 27, 28, 29, 30, 31, 32, 33, 34, 35, 36, 37, 38, 39, 40, 41, 42] (by decide +kernel) (by decide +kernel)
set_option maxRecDepth 20000 in
theorem gX6_drops_X6_writesBack : GoodIn wsX6_drops (wsV RX6 55 RX6 yX6_writesBack wsX6_writesBack) := goodIn_app (goodIn_of _ (by decide +kernel)) ggX6_drops_X6_writesBack
set_option maxRecDepth 20000 in
theorem ggX6_drops_X6_leaves : GoodIn wsX6_drops wsX6_leaves := goodIn_r _ [13, 1, 14, 15, 16, 4, 17, 18, 19, 20, 21, 22, 23, 24, 25, 26, 27, 28, 29, 30, 31, 32, 33, 34, 35, 36, 37, 38, 39, 40, 41, 42] (by decide +kernel) (by decide +kernel)
set_option maxRecDepth 20000 in
theorem gX6_drops_X6_leaves : GoodIn wsX6_drops (wsV RX6 59 RX6 yX6_leaves wsX6_leaves) := goodIn_app (goodIn_of _ (by decide +kernel)) ggX6_drops_X6_leaves
theorem dX6_drops_0 : decode cX6_drops 0 = .ok (.iload_n 1, 1) := by decide +kernel
theorem dX6_drops_1 : decode cX6_drops 1 = .ok (.iload_n 2, 1) := by decide +kernel
theorem dX6_drops_2 : decode cX6_drops 2 = .ok (.invokestatic 48, 3) := by decide +kernel
theorem dX6_drops_5 : decode cX6_drops 5 = .ok (.istore_n 3, 1) := by decide +kernel
theorem dX6_drops_6 : decode cX6_drops 6 = .ok (.aload_n 0, 1) := by decide +kernel
theorem dX6_drops_7 : decode cX6_drops 7 = .ok (.getfield 7, 3) := by decide +kernel
theorem dX6_drops_10 : decode cX6_drops 10 = .ok (.sipush 320, 3) := by decide +kernel
theorem dX6_drops_13 : decode cX6_drops 13 = .ok (.iload_n 3, 1) := by decide +kernel
theorem dX6_drops_14 : decode cX6_drops 14 = .ok (.iadd, 1) := by decide +kernel
theorem dX6_drops_15 : decode cX6_drops 15 = .ok (.iaload, 1) := by decide +kernel
theorem dX6_drops_16 : decode cX6_drops 16 = .ok (.istore 4, 2) := by decide +kernel
theorem dX6_drops_18 : decode cX6_drops 18 = .ok (.aload_n 0, 1) := by decide +kernel
theorem dX6_drops_19 : decode cX6_drops 19 = .ok (.iload_n 3, 1) := by decide +kernel
theorem dX6_drops_20 : decode cX6_drops 20 = .ok (.invokevirtual 55, 3) := by decide +kernel
theorem dX6_drops_23 : decode cX6_drops 23 = .ok (.aload_n 0, 1) := by decide +kernel
theorem dX6_drops_24 : decode cX6_drops 24 = .ok (.iload_n 1, 1) := by decide +kernel
theorem dX6_drops_25 : decode cX6_drops 25 = .ok (.iload_n 3, 1) := by decide +kernel
theorem dX6_drops_26 : decode cX6_drops 26 = .ok (.invokevirtual 59, 3) := by decide +kernel
theorem dX6_drops_29 : decode cX6_drops 29 = .ok (.iload 4, 2) := by decide +kernel
theorem dX6_drops_31 : decode cX6_drops 31 = .ok (.ireturn, 1) := by decide +kernel
theorem dX6_linesOf_0 : decode cX6_linesOf 0 = .ok (.iconst 0, 1) := by decide +kernel
theorem dX6_linesOf_1 : decode cX6_linesOf 1 = .ok (.istore_n 2, 1) := by decide +kernel
theorem dX6_linesOf_2 : decode cX6_linesOf 2 = .ok (.bipush 8, 2) := by decide +kernel
theorem dX6_linesOf_4 : decode cX6_linesOf 4 = .ok (.iload_n 1, 1) := by decide +kernel
theorem dX6_linesOf_5 : decode cX6_linesOf 5 = .ok (.imul, 1) := by decide +kernel
theorem dX6_linesOf_6 : decode cX6_linesOf 6 = .ok (.istore_n 3, 1) := by decide +kernel
theorem dX6_linesOf_7 : decode cX6_linesOf 7 = .ok (.iload_n 3, 1) := by decide +kernel
theorem dX6_linesOf_8 : decode cX6_linesOf 8 = .ok (.bipush 8, 2) := by decide +kernel
theorem dX6_linesOf_10 : decode cX6_linesOf 10 = .ok (.iload_n 1, 1) := by decide +kernel
theorem dX6_linesOf_11 : decode cX6_linesOf 11 = .ok (.imul, 1) := by decide +kernel
theorem dX6_linesOf_12 : decode cX6_linesOf 12 = .ok (.bipush 8, 2) := by decide +kernel
theorem dX6_linesOf_14 : decode cX6_linesOf 14 = .ok (.iadd, 1) := by decide +kernel
theorem dX6_linesOf_15 : decode cX6_linesOf 15 = .ok (.if_icmp .ge 32, 3) := by decide +kernel
theorem dX6_linesOf_18 : decode cX6_linesOf 18 = .ok (.iload_n 2, 1) := by decide +kernel
theorem dX6_linesOf_19 : decode cX6_linesOf 19 = .ok (.aload_n 0, 1) := by decide +kernel
theorem dX6_linesOf_20 : decode cX6_linesOf 20 = .ok (.getfield 7, 3) := by decide +kernel
theorem dX6_linesOf_23 : decode cX6_linesOf 23 = .ok (.sipush 256, 3) := by decide +kernel
theorem dX6_linesOf_26 : decode cX6_linesOf 26 = .ok (.iload_n 3, 1) := by decide +kernel
theorem dX6_linesOf_27 : decode cX6_linesOf 27 = .ok (.iadd, 1) := by decide +kernel
theorem dX6_linesOf_28 : decode cX6_linesOf 28 = .ok (.iaload, 1) := by decide +kernel
theorem dX6_linesOf_29 : decode cX6_linesOf 29 = .ok (.bipush (-5), 2) := by decide +kernel
theorem dX6_linesOf_31 : decode cX6_linesOf 31 = .ok (.if_icmp .ne 7, 3) := by decide +kernel
theorem dX6_linesOf_34 : decode cX6_linesOf 34 = .ok (.iconst 0, 1) := by decide +kernel
theorem dX6_linesOf_35 : decode cX6_linesOf 35 = .ok (.goto 4, 3) := by decide +kernel
theorem dX6_linesOf_38 : decode cX6_linesOf 38 = .ok (.iconst 1, 1) := by decide +kernel
theorem dX6_linesOf_39 : decode cX6_linesOf 39 = .ok (.iadd, 1) := by decide +kernel
theorem dX6_linesOf_40 : decode cX6_linesOf 40 = .ok (.istore_n 2, 1) := by decide +kernel
theorem dX6_linesOf_41 : decode cX6_linesOf 41 = .ok (.iinc 3 1, 3) := by decide +kernel
theorem dX6_linesOf_44 : decode cX6_linesOf 44 = .ok (.goto (-37), 3) := by decide +kernel
theorem dX6_linesOf_47 : decode cX6_linesOf 47 = .ok (.iload_n 2, 1) := by decide +kernel
theorem dX6_linesOf_48 : decode cX6_linesOf 48 = .ok (.ireturn, 1) := by decide +kernel
set_option maxRecDepth 20000 in
theorem ggX6_isEmpty_X6_linesOf : GoodIn wsX6_isEmpty wsX6_linesOf := goodIn_r _ [5, 6, 15, 16, 17, 18, 19, 20, 21, 22, 23, 24, 25, 26, 27, 28, 29, 30, 31, 32] (by decide +kernel) (by decide +kernel)
set_option maxRecDepth 20000 in
theorem gX6_isEmpty_X6_linesOf : GoodIn wsX6_isEmpty (wsV RX6 96 RX6 yX6_linesOf wsX6_linesOf) := goodIn_app (goodIn_of _ (by decide +kernel)) ggX6_isEmpty_X6_linesOf
set_option maxRecDepth 20000 in
theorem ggX6_isEmpty_X6_countersFrom : GoodIn wsX6_isEmpty wsX6_countersFrom := goodIn_r _ [10, 6, 15, 16, 17, 18, 19, 20, 21, 22, 23, 24, 25, 26, 27, 28, 29, 30, 31, 32] (by decide +kernel) (by decide +kernel)
set_option maxRecDepth 20000 in
theorem gX6_isEmpty_X6_countersFrom : GoodIn wsX6_isEmpty (wsV RX6 72 RX6 yX6_countersFrom wsX6_countersFrom) := goodIn_app (goodIn_of _ (by decide +kernel)) ggX6_isEmpty_X6_countersFrom
set_option maxRecDepth 20000 in
theorem ggX6_isEmpty_X6_bits : GoodIn wsX6_isEmpty wsX6_bits := goodIn_r _ [14, 6, 15, 16, 17, 18, 19, 20, 21, 22, 23, 24, 25, 26, 27, 28, 29, 30, 31, 32] (by decide +kernel) (by decide +kernel)
set_option maxRecDepth 20000 in
theorem gX6_isEmpty_X6_bits : GoodIn wsX6_isEmpty (wsV RX6 100 RX6 yX6_bits wsX6_bits) := goodIn_app (goodIn_of _ (by decide +kernel)) ggX6_isEmpty_X6_bits
theorem dX6_isEmpty_0 : decode cX6_isEmpty 0 = .ok (.aload_n 0, 1) := by decide +kernel
theorem dX6_isEmpty_1 : decode cX6_isEmpty 1 = .ok (.iload_n 1, 1) := by decide +kernel
theorem dX6_isEmpty_2 : decode cX6_isEmpty 2 = .ok (.invokevirtual 96, 3) := by decide +kernel
theorem dX6_isEmpty_5 : decode cX6_isEmpty 5 = .ok (.ifCond .ne 24, 3) := by decide +kernel
theorem dX6_isEmpty_8 : decode cX6_isEmpty 8 = .ok (.aload_n 0, 1) := by decide +kernel
theorem dX6_isEmpty_9 : decode cX6_isEmpty 9 = .ok (.iload_n 1, 1) := by decide +kernel
theorem dX6_isEmpty_10 : decode cX6_isEmpty 10 = .ok (.iconst 1, 1) := by decide +kernel
theorem dX6_isEmpty_11 : decode cX6_isEmpty 11 = .ok (.invokevirtual 72, 3) := by decide +kernel
theorem dX6_isEmpty_14 : decode cX6_isEmpty 14 = .ok (.ifCond .ne 15, 3) := by decide +kernel
theorem dX6_isEmpty_17 : decode cX6_isEmpty 17 = .ok (.aload_n 0, 1) := by decide +kernel
theorem dX6_isEmpty_18 : decode cX6_isEmpty 18 = .ok (.iload_n 1, 1) := by decide +kernel
theorem dX6_isEmpty_19 : decode cX6_isEmpty 19 = .ok (.invokevirtual 100, 3) := by decide +kernel
theorem dX6_isEmpty_22 : decode cX6_isEmpty 22 = .ok (.ifCond .ne 7, 3) := by decide +kernel
theorem dX6_isEmpty_25 : decode cX6_isEmpty 25 = .ok (.iconst 1, 1) := by decide +kernel
theorem dX6_isEmpty_26 : decode cX6_isEmpty 26 = .ok (.goto 4, 3) := by decide +kernel
theorem dX6_isEmpty_29 : decode cX6_isEmpty 29 = .ok (.iconst 0, 1) := by decide +kernel
theorem dX6_isEmpty_30 : decode cX6_isEmpty 30 = .ok (.ireturn, 1) := by decide +kernel
set_option maxRecDepth 20000 in
theorem ggX6_read_X6_isCore : GoodIn wsX6_read wsX6_isCore := goodIn_r _ [4, 5, 6, 3, 7] (by decide +kernel) (by decide +kernel)
set_option maxRecDepth 20000 in
theorem gX6_read_X6_isCore : GoodIn wsX6_read (va_wsS RX6 103 yX6_isCore wsX6_isCore) := goodIn_app (goodIn_of _ (by decide +kernel)) ggX6_read_X6_isCore
set_option maxRecDepth 20000 in
theorem ggX6_read_X6_isLine : GoodIn wsX6_read wsX6_isLine := goodIn_r _ [10, 5, 6, 3, 7] (by decide +kernel) (by decide +kernel)
set_option maxRecDepth 20000 in
theorem gX6_read_X6_isLine : GoodIn wsX6_read (va_wsS RX6 107 yX6_isLine wsX6_isLine) := goodIn_app (goodIn_of _ (by decide +kernel)) ggX6_read_X6_isLine
set_option maxRecDepth 20000 in
theorem ggX6_read_X6_record : GoodIn wsX6_read wsX6_record := goodIn_r _ [14, 15, 16, 17, 87, 88, 89, 90, 91, 92, 93, 94, 95, 96, 97, 98, 99, 100, 101, 102, 103, 104] (by decide +kernel) (by decide +kernel)
set_option maxRecDepth 20000 in
theorem gX6_read_X6_record : GoodIn wsX6_read (wsV RX6 110 RX6 yX6_record wsX6_record) := goodIn_app (goodIn_of _ (by decide +kernel)) ggX6_read_X6_record
set_option maxRecDepth 20000 in
theorem ggX6_read_X6_reads : GoodIn wsX6_read wsX6_reads := goodIn_r _ [21, 17, 22, 23, 24, 3, 25, 26, 27, 28, 29, 30, 31, 32, 33, 34, 35, 36, 37, 38, 39, 40, 41, 42, 43, 44, 45, 46, 47, 48, 49, 50, 51, 52, 53, 54, 55, 56, 57, 58, 59, 60, 61, 62, 63, 64, 65, 66, 67, 68, 69, 70, 71, 72, 73, 74, 75, 76, 77, 78, 79, 80, 81, 82, 83, 84, 85, 86, 87, 88, 89, 90, 91, 92, 93, 94, 95, 96, 97, 98, 99, 100, 101, 102, 103, 104] (by decide +kernel) (by decide +kernel)
set_option maxRecDepth 20000 in
theorem gX6_read_X6_reads : GoodIn wsX6_read (wsV RX6 113 RX6 yX6_reads wsX6_reads) := goodIn_app (goodIn_of _ (by decide +kernel)) ggX6_read_X6_reads
theorem dX6_read_0 : decode cX6_read 0 = .ok (.iload_n 1, 1) := by decide +kernel
theorem dX6_read_1 : decode cX6_read 1 = .ok (.invokestatic 103, 3) := by decide +kernel
theorem dX6_read_4 : decode cX6_read 4 = .ok (.ifCond .eq 10, 3) := by decide +kernel
theorem dX6_read_7 : decode cX6_read 7 = .ok (.iload_n 2, 1) := by decide +kernel
theorem dX6_read_8 : decode cX6_read 8 = .ok (.invokestatic 107, 3) := by decide +kernel
theorem dX6_read_11 : decode cX6_read 11 = .ok (.ifCond .ne 5, 3) := by decide +kernel
theorem dX6_read_14 : decode cX6_read 14 = .ok (.iconst (-1), 1) := by decide +kernel
theorem dX6_read_15 : decode cX6_read 15 = .ok (.ireturn, 1) := by decide +kernel
theorem dX6_read_16 : decode cX6_read 16 = .ok (.aload_n 0, 1) := by decide +kernel
theorem dX6_read_17 : decode cX6_read 17 = .ok (.invokevirtual 110, 3) := by decide +kernel
theorem dX6_read_20 : decode cX6_read 20 = .ok (.aload_n 0, 1) := by decide +kernel
theorem dX6_read_21 : decode cX6_read 21 = .ok (.iload_n 1, 1) := by decide +kernel
theorem dX6_read_22 : decode cX6_read 22 = .ok (.iload_n 2, 1) := by decide +kernel
theorem dX6_read_23 : decode cX6_read 23 = .ok (.invokevirtual 113, 3) := by decide +kernel
theorem dX6_read_26 : decode cX6_read 26 = .ok (.ireturn, 1) := by decide +kernel
set_option maxRecDepth 20000 in
theorem ggX6_write_X6_isCore : GoodIn wsX6_write wsX6_isCore := goodIn_r _ [4, 5, 6, 3, 7] (by decide +kernel) (by decide +kernel)
set_option maxRecDepth 20000 in
theorem gX6_write_X6_isCore : GoodIn wsX6_write (va_wsS RX6 103 yX6_isCore wsX6_isCore) := goodIn_app (goodIn_of _ (by decide +kernel)) ggX6_write_X6_isCore
set_option maxRecDepth 20000 in
theorem ggX6_write_X6_isLine : GoodIn wsX6_write wsX6_isLine := goodIn_r _ [10, 5, 6, 3, 7] (by decide +kernel) (by decide +kernel)
set_option maxRecDepth 20000 in
theorem gX6_write_X6_isLine : GoodIn wsX6_write (va_wsS RX6 107 yX6_isLine wsX6_isLine) := goodIn_app (goodIn_of _ (by decide +kernel)) ggX6_write_X6_isLine
set_option maxRecDepth 20000 in
theorem ggX6_write_X6_in : GoodIn wsX6_write wsX6_in := goodIn_r _ [7] (by decide +kernel) (by decide +kernel)
set_option maxRecDepth 20000 in
theorem gX6_write_X6_in : GoodIn wsX6_write (va_wsS RX6 29 yX6_in wsX6_in) := goodIn_app (goodIn_of _ (by decide +kernel)) ggX6_write_X6_in
set_option maxRecDepth 20000 in
theorem ggX6_write_X6_record : GoodIn wsX6_write wsX6_record := goodIn_r _ [14, 15, 16, 17, 87, 88, 89, 90, 91, 92, 93, 94, 95, 96, 97, 98, 99, 100, 101, 102, 103, 104] (by decide +kernel) (by decide +kernel)
set_option maxRecDepth 20000 in
theorem gX6_write_X6_record : GoodIn wsX6_write (wsV RX6 110 RX6 yX6_record wsX6_record) := goodIn_app (goodIn_of _ (by decide +kernel)) ggX6_write_X6_record
set_option maxRecDepth 20000 in
theorem ggX6_write_X6_writes : GoodIn wsX6_write wsX6_writes := goodIn_r _ [21, 17, 22, 23, 3, 24, 25, 26, 27, 28, 29, 30, 31, 32, 33, 34, 35, 36, 37, 38, 39, 40, 41, 42, 43, 44, 45, 46, 47, 48, 49, 50, 51, 52, 53, 54, 55, 56, 57, 58, 59, 60, 61, 62, 63, 64, 65, 66, 67, 68, 69, 70, 71, 72, 73, 74, 75, 76, 77, 78, 79, 80, 81, 82, 83, 84, 85, 86, 87, 88, 89, 90, 91, 92, 93, 94, 95, 96, 97, 98, 99, 100, 101, 102, 103, 104] (by decide +kernel) (by decide +kernel)
set_option maxRecDepth 20000 in
theorem gX6_write_X6_writes : GoodIn wsX6_write (wsV RX6 116 RX6 yX6_writes wsX6_writes) := goodIn_app (goodIn_of _ (by decide +kernel)) ggX6_write_X6_writes
theorem dX6_write_0 : decode cX6_write 0 = .ok (.iload_n 1, 1) := by decide +kernel
theorem dX6_write_1 : decode cX6_write 1 = .ok (.invokestatic 103, 3) := by decide +kernel
theorem dX6_write_4 : decode cX6_write 4 = .ok (.ifCond .eq 10, 3) := by decide +kernel
theorem dX6_write_7 : decode cX6_write 7 = .ok (.iload_n 2, 1) := by decide +kernel
theorem dX6_write_8 : decode cX6_write 8 = .ok (.invokestatic 107, 3) := by decide +kernel
theorem dX6_write_11 : decode cX6_write 11 = .ok (.ifCond .ne 5, 3) := by decide +kernel
theorem dX6_write_14 : decode cX6_write 14 = .ok (.iconst (-1), 1) := by decide +kernel
theorem dX6_write_15 : decode cX6_write 15 = .ok (.ireturn, 1) := by decide +kernel
theorem dX6_write_16 : decode cX6_write 16 = .ok (.iload_n 3, 1) := by decide +kernel
theorem dX6_write_17 : decode cX6_write 17 = .ok (.iconst 0, 1) := by decide +kernel
theorem dX6_write_18 : decode cX6_write 18 = .ok (.sipush 9999, 3) := by decide +kernel
theorem dX6_write_21 : decode cX6_write 21 = .ok (.invokestatic 29, 3) := by decide +kernel
theorem dX6_write_24 : decode cX6_write 24 = .ok (.ifCond .ne 6, 3) := by decide +kernel
theorem dX6_write_27 : decode cX6_write 27 = .ok (.bipush (-2), 2) := by decide +kernel
theorem dX6_write_29 : decode cX6_write 29 = .ok (.ireturn, 1) := by decide +kernel
theorem dX6_write_30 : decode cX6_write 30 = .ok (.aload_n 0, 1) := by decide +kernel
theorem dX6_write_31 : decode cX6_write 31 = .ok (.invokevirtual 110, 3) := by decide +kernel
theorem dX6_write_34 : decode cX6_write 34 = .ok (.aload_n 0, 1) := by decide +kernel
theorem dX6_write_35 : decode cX6_write 35 = .ok (.iload_n 1, 1) := by decide +kernel
theorem dX6_write_36 : decode cX6_write 36 = .ok (.iload_n 2, 1) := by decide +kernel
theorem dX6_write_37 : decode cX6_write 37 = .ok (.iload_n 3, 1) := by decide +kernel
theorem dX6_write_38 : decode cX6_write 38 = .ok (.invokevirtual 116, 3) := by decide +kernel
theorem dX6_write_41 : decode cX6_write 41 = .ok (.ireturn, 1) := by decide +kernel
set_option maxRecDepth 20000 in
theorem ggX6_drop_X6_isCore : GoodIn wsX6_drop wsX6_isCore := goodIn_r _ [4, 5, 6, 3, 7] (by decide +kernel) (by decide +kernel)
set_option maxRecDepth 20000 in
theorem gX6_drop_X6_isCore : GoodIn wsX6_drop (va_wsS RX6 103 yX6_isCore wsX6_isCore) := goodIn_app (goodIn_of _ (by decide +kernel)) ggX6_drop_X6_isCore
set_option maxRecDepth 20000 in
theorem ggX6_drop_X6_isLine : GoodIn wsX6_drop wsX6_isLine := goodIn_r _ [10, 5, 6, 3, 7] (by decide +kernel) (by decide +kernel)
set_option maxRecDepth 20000 in
theorem gX6_drop_X6_isLine : GoodIn wsX6_drop (va_wsS RX6 107 yX6_isLine wsX6_isLine) := goodIn_app (goodIn_of _ (by decide +kernel)) ggX6_drop_X6_isLine
set_option maxRecDepth 20000 in
theorem ggX6_drop_X6_holds : GoodIn wsX6_drop wsX6_holds := goodIn_r _ [14, 15, 16, 17, 3, 18, 48, 49, 50, 51, 52, 53, 54, 55, 56, 57, 58, 59, 60, 61, 62, 63, 64, 65] (by decide +kernel) (by decide +kernel)
set_option maxRecDepth 20000 in
theorem gX6_drop_X6_holds : GoodIn wsX6_drop (wsV RX6 81 RX6 yX6_holds wsX6_holds) := goodIn_app (goodIn_of _ (by decide +kernel)) ggX6_drop_X6_holds
set_option maxRecDepth 20000 in
theorem ggX6_drop_X6_record : GoodIn wsX6_drop wsX6_record := goodIn_r _ [22, 23, 24, 15, 48, 49, 50, 51, 52, 53, 54, 55, 56, 57, 58, 59, 60, 61, 62, 63, 64, 65] (by decide +kernel) (by decide +kernel)
set_option maxRecDepth 20000 in
theorem gX6_drop_X6_record : GoodIn wsX6_drop (wsV RX6 110 RX6 yX6_record wsX6_record) := goodIn_app (goodIn_of _ (by decide +kernel)) ggX6_drop_X6_record
set_option maxRecDepth 20000 in
theorem ggX6_drop_X6_drops : GoodIn wsX6_drop wsX6_drops := goodIn_r _ [28, 15, 16, 17, 3, 18, 29, 30, 31, 32, 33, 34, 35, 36, 37, 38, 39, 40, 41, 42, 43, 44, 45, 46, 47, 48, 49, 50, 51, 52, 53, 54, 55, 56, 57, 58, 59, 60, 61, 62, 63, 64, 65] (by decide +kernel) (by decide +kernel)
set_option maxRecDepth 20000 in
theorem gX6_drop_X6_drops : GoodIn wsX6_drop (wsV RX6 119 RX6 yX6_drops wsX6_drops) := goodIn_app (goodIn_of _ (by decide +kernel)) ggX6_drop_X6_drops
theorem dX6_drop_0 : decode cX6_drop 0 = .ok (.iload_n 1, 1) := by decide +kernel
theorem dX6_drop_1 : decode cX6_drop 1 = .ok (.invokestatic 103, 3) := by decide +kernel
theorem dX6_drop_4 : decode cX6_drop 4 = .ok (.ifCond .eq 10, 3) := by decide +kernel
theorem dX6_drop_7 : decode cX6_drop 7 = .ok (.iload_n 2, 1) := by decide +kernel
theorem dX6_drop_8 : decode cX6_drop 8 = .ok (.invokestatic 107, 3) := by decide +kernel
theorem dX6_drop_11 : decode cX6_drop 11 = .ok (.ifCond .ne 5, 3) := by decide +kernel
theorem dX6_drop_14 : decode cX6_drop 14 = .ok (.iconst (-1), 1) := by decide +kernel
theorem dX6_drop_15 : decode cX6_drop 15 = .ok (.ireturn, 1) := by decide +kernel
theorem dX6_drop_16 : decode cX6_drop 16 = .ok (.aload_n 0, 1) := by decide +kernel
theorem dX6_drop_17 : decode cX6_drop 17 = .ok (.iload_n 1, 1) := by decide +kernel
theorem dX6_drop_18 : decode cX6_drop 18 = .ok (.iload_n 2, 1) := by decide +kernel
theorem dX6_drop_19 : decode cX6_drop 19 = .ok (.invokevirtual 81, 3) := by decide +kernel
theorem dX6_drop_22 : decode cX6_drop 22 = .ok (.ifCond .ne 6, 3) := by decide +kernel
theorem dX6_drop_25 : decode cX6_drop 25 = .ok (.bipush (-4), 2) := by decide +kernel
theorem dX6_drop_27 : decode cX6_drop 27 = .ok (.ireturn, 1) := by decide +kernel
theorem dX6_drop_28 : decode cX6_drop 28 = .ok (.aload_n 0, 1) := by decide +kernel
theorem dX6_drop_29 : decode cX6_drop 29 = .ok (.invokevirtual 110, 3) := by decide +kernel
theorem dX6_drop_32 : decode cX6_drop 32 = .ok (.aload_n 0, 1) := by decide +kernel
theorem dX6_drop_33 : decode cX6_drop 33 = .ok (.iload_n 1, 1) := by decide +kernel
theorem dX6_drop_34 : decode cX6_drop 34 = .ok (.iload_n 2, 1) := by decide +kernel
theorem dX6_drop_35 : decode cX6_drop 35 = .ok (.invokevirtual 119, 3) := by decide +kernel
theorem dX6_drop_38 : decode cX6_drop 38 = .ok (.ireturn, 1) := by decide +kernel
set_option maxRecDepth 20000 in
theorem ggX6_forget_X6_isCore : GoodIn wsX6_forget wsX6_isCore := goodIn_r _ [4, 5, 6, 3, 7] (by decide +kernel) (by decide +kernel)
set_option maxRecDepth 20000 in
theorem gX6_forget_X6_isCore : GoodIn wsX6_forget (va_wsS RX6 103 yX6_isCore wsX6_isCore) := goodIn_app (goodIn_of _ (by decide +kernel)) ggX6_forget_X6_isCore
set_option maxRecDepth 20000 in
theorem ggX6_forget_X6_isEmpty : GoodIn wsX6_forget wsX6_isEmpty := goodIn_r _ [11, 12, 13, 14, 3, 15, 16, 17, 18, 19, 20, 21, 22, 23, 24, 61, 62, 63, 64, 65, 66, 67, 68, 69, 70, 71, 72, 73, 74, 75, 76, 77, 78] (by decide +kernel) (by decide +kernel)
set_option maxRecDepth 20000 in
theorem gX6_forget_X6_isEmpty : GoodIn wsX6_forget (wsV RX6 122 RX6 yX6_isEmpty wsX6_isEmpty) := goodIn_app (goodIn_of _ (by decide +kernel)) ggX6_forget_X6_isEmpty
set_option maxRecDepth 20000 in
theorem ggX6_forget_X6_record : GoodIn wsX6_forget wsX6_record := goodIn_r _ [28, 29, 30, 16, 61, 62, 63, 64, 65, 66, 67, 68, 69, 70, 71, 72, 73, 74, 75, 76, 77, 78] (by decide +kernel) (by decide +kernel)
set_option maxRecDepth 20000 in
theorem gX6_forget_X6_record : GoodIn wsX6_forget (wsV RX6 110 RX6 yX6_record wsX6_record) := goodIn_app (goodIn_of _ (by decide +kernel)) ggX6_forget_X6_record
set_option maxRecDepth 20000 in
theorem ggX6_forget_X6_forgets : GoodIn wsX6_forget wsX6_forgets := goodIn_r _ [34, 16, 35, 36, 37, 3, 38, 39, 40, 41, 42, 43, 44, 45, 46, 47, 48, 49, 50, 51, 52, 53, 54, 55, 56, 57, 58, 59, 60, 61, 62, 63, 64, 65, 66, 67, 68, 69, 70, 71, 72, 73, 74, 75, 76, 77, 78] (by decide +kernel) (by decide +kernel)
set_option maxRecDepth 20000 in
theorem gX6_forget_X6_forgets : GoodIn wsX6_forget (wsV RX6 75 RX6 yX6_forgets wsX6_forgets) := goodIn_app (goodIn_of _ (by decide +kernel)) ggX6_forget_X6_forgets
theorem dX6_forget_0 : decode cX6_forget 0 = .ok (.iload_n 1, 1) := by decide +kernel
theorem dX6_forget_1 : decode cX6_forget 1 = .ok (.invokestatic 103, 3) := by decide +kernel
theorem dX6_forget_4 : decode cX6_forget 4 = .ok (.ifCond .ne 5, 3) := by decide +kernel
theorem dX6_forget_7 : decode cX6_forget 7 = .ok (.iconst (-1), 1) := by decide +kernel
theorem dX6_forget_8 : decode cX6_forget 8 = .ok (.ireturn, 1) := by decide +kernel
theorem dX6_forget_9 : decode cX6_forget 9 = .ok (.aload_n 0, 1) := by decide +kernel
theorem dX6_forget_10 : decode cX6_forget 10 = .ok (.iload_n 1, 1) := by decide +kernel
theorem dX6_forget_11 : decode cX6_forget 11 = .ok (.invokevirtual 122, 3) := by decide +kernel
theorem dX6_forget_14 : decode cX6_forget 14 = .ok (.ifCond .eq 6, 3) := by decide +kernel
theorem dX6_forget_17 : decode cX6_forget 17 = .ok (.bipush (-5), 2) := by decide +kernel
theorem dX6_forget_19 : decode cX6_forget 19 = .ok (.ireturn, 1) := by decide +kernel
theorem dX6_forget_20 : decode cX6_forget 20 = .ok (.aload_n 0, 1) := by decide +kernel
theorem dX6_forget_21 : decode cX6_forget 21 = .ok (.invokevirtual 110, 3) := by decide +kernel
theorem dX6_forget_24 : decode cX6_forget 24 = .ok (.aload_n 0, 1) := by decide +kernel
theorem dX6_forget_25 : decode cX6_forget 25 = .ok (.iload_n 1, 1) := by decide +kernel
theorem dX6_forget_26 : decode cX6_forget 26 = .ok (.bipush (-5), 2) := by decide +kernel
theorem dX6_forget_28 : decode cX6_forget 28 = .ok (.invokevirtual 75, 3) := by decide +kernel
theorem dX6_forget_31 : decode cX6_forget 31 = .ok (.ireturn, 1) := by decide +kernel
set_option maxRecDepth 20000 in
theorem ggX6_set_X6_in : GoodIn wsX6_set wsX6_in := goodIn_r _ [5] (by decide +kernel) (by decide +kernel)
set_option maxRecDepth 20000 in
theorem gX6_set_X6_in : GoodIn wsX6_set (va_wsS RX6 29 yX6_in wsX6_in) := goodIn_app (goodIn_of _ (by decide +kernel)) ggX6_set_X6_in
set_option maxRecDepth 20000 in
theorem ggX6_set_X6_record : GoodIn wsX6_set wsX6_record := goodIn_r _ [9, 10, 11, 1, 12, 13, 14, 15, 16, 17, 18, 19, 20, 21, 22, 23, 24, 25, 26, 27, 28, 29] (by decide +kernel) (by decide +kernel)
set_option maxRecDepth 20000 in
theorem gX6_set_X6_record : GoodIn wsX6_set (wsV RX6 110 RX6 yX6_record wsX6_record) := goodIn_app (goodIn_of _ (by decide +kernel)) ggX6_set_X6_record
theorem dX6_set_0 : decode cX6_set 0 = .ok (.iload_n 1, 1) := by decide +kernel
theorem dX6_set_1 : decode cX6_set 1 = .ok (.iconst 0, 1) := by decide +kernel
theorem dX6_set_2 : decode cX6_set 2 = .ok (.iconst 1, 1) := by decide +kernel
theorem dX6_set_3 : decode cX6_set 3 = .ok (.invokestatic 29, 3) := by decide +kernel
theorem dX6_set_6 : decode cX6_set 6 = .ok (.ifCond .ne 5, 3) := by decide +kernel
theorem dX6_set_9 : decode cX6_set 9 = .ok (.iconst (-1), 1) := by decide +kernel
theorem dX6_set_10 : decode cX6_set 10 = .ok (.ireturn, 1) := by decide +kernel
theorem dX6_set_11 : decode cX6_set 11 = .ok (.iload_n 2, 1) := by decide +kernel
theorem dX6_set_12 : decode cX6_set 12 = .ok (.iconst 1, 1) := by decide +kernel
theorem dX6_set_13 : decode cX6_set 13 = .ok (.iload_n 1, 1) := by decide +kernel
theorem dX6_set_14 : decode cX6_set 14 = .ok (.ifCond .ne 8, 3) := by decide +kernel
theorem dX6_set_17 : decode cX6_set 17 = .ok (.bipush 9, 2) := by decide +kernel
theorem dX6_set_19 : decode cX6_set 19 = .ok (.goto 5, 3) := by decide +kernel
theorem dX6_set_22 : decode cX6_set 22 = .ok (.bipush 24, 2) := by decide +kernel
theorem dX6_set_24 : decode cX6_set 24 = .ok (.invokestatic 29, 3) := by decide +kernel
theorem dX6_set_27 : decode cX6_set 27 = .ok (.ifCond .ne 6, 3) := by decide +kernel
theorem dX6_set_30 : decode cX6_set 30 = .ok (.bipush (-2), 2) := by decide +kernel
theorem dX6_set_32 : decode cX6_set 32 = .ok (.ireturn, 1) := by decide +kernel
theorem dX6_set_33 : decode cX6_set 33 = .ok (.aload_n 0, 1) := by decide +kernel
theorem dX6_set_34 : decode cX6_set 34 = .ok (.getfield 7, 3) := by decide +kernel
theorem dX6_set_37 : decode cX6_set 37 = .ok (.sipush 536, 3) := by decide +kernel
theorem dX6_set_40 : decode cX6_set 40 = .ok (.iload_n 1, 1) := by decide +kernel
theorem dX6_set_41 : decode cX6_set 41 = .ok (.iadd, 1) := by decide +kernel
theorem dX6_set_42 : decode cX6_set 42 = .ok (.iaload, 1) := by decide +kernel
theorem dX6_set_43 : decode cX6_set 43 = .ok (.istore_n 3, 1) := by decide +kernel
theorem dX6_set_44 : decode cX6_set 44 = .ok (.iload_n 3, 1) := by decide +kernel
theorem dX6_set_45 : decode cX6_set 45 = .ok (.iload_n 2, 1) := by decide +kernel
theorem dX6_set_46 : decode cX6_set 46 = .ok (.if_icmp .ne 6, 3) := by decide +kernel
theorem dX6_set_49 : decode cX6_set 49 = .ok (.bipush (-5), 2) := by decide +kernel
theorem dX6_set_51 : decode cX6_set 51 = .ok (.ireturn, 1) := by decide +kernel
theorem dX6_set_52 : decode cX6_set 52 = .ok (.aload_n 0, 1) := by decide +kernel
theorem dX6_set_53 : decode cX6_set 53 = .ok (.invokevirtual 110, 3) := by decide +kernel
theorem dX6_set_56 : decode cX6_set 56 = .ok (.aload_n 0, 1) := by decide +kernel
theorem dX6_set_57 : decode cX6_set 57 = .ok (.getfield 7, 3) := by decide +kernel
theorem dX6_set_60 : decode cX6_set 60 = .ok (.sipush 536, 3) := by decide +kernel
theorem dX6_set_63 : decode cX6_set 63 = .ok (.iload_n 1, 1) := by decide +kernel
theorem dX6_set_64 : decode cX6_set 64 = .ok (.iadd, 1) := by decide +kernel
theorem dX6_set_65 : decode cX6_set 65 = .ok (.iload_n 2, 1) := by decide +kernel
theorem dX6_set_66 : decode cX6_set 66 = .ok (.iastore, 1) := by decide +kernel
theorem dX6_set_67 : decode cX6_set 67 = .ok (.iload_n 3, 1) := by decide +kernel
theorem dX6_set_68 : decode cX6_set 68 = .ok (.ireturn, 1) := by decide +kernel
theorem dX6_type_0 : decode cX6_type 0 = .ok (.aload_n 0, 1) := by decide +kernel
theorem dX6_type_1 : decode cX6_type 1 = .ok (.getfield 125, 3) := by decide +kernel
theorem dX6_type_4 : decode cX6_type 4 = .ok (.bipush 80, 2) := by decide +kernel
theorem dX6_type_6 : decode cX6_type 6 = .ok (.if_icmp .ne 6, 3) := by decide +kernel
theorem dX6_type_9 : decode cX6_type 9 = .ok (.bipush (-3), 2) := by decide +kernel
theorem dX6_type_11 : decode cX6_type 11 = .ok (.ireturn, 1) := by decide +kernel
theorem dX6_type_12 : decode cX6_type 12 = .ok (.aload_n 0, 1) := by decide +kernel
theorem dX6_type_13 : decode cX6_type 13 = .ok (.getfield 22, 3) := by decide +kernel
theorem dX6_type_16 : decode cX6_type 16 = .ok (.aload_n 0, 1) := by decide +kernel
theorem dX6_type_17 : decode cX6_type 17 = .ok (.getfield 125, 3) := by decide +kernel
theorem dX6_type_20 : decode cX6_type 20 = .ok (.iload_n 1, 1) := by decide +kernel
theorem dX6_type_21 : decode cX6_type 21 = .ok (.iastore, 1) := by decide +kernel
theorem dX6_type_22 : decode cX6_type 22 = .ok (.aload_n 0, 1) := by decide +kernel
theorem dX6_type_23 : decode cX6_type 23 = .ok (.dup, 1) := by decide +kernel
theorem dX6_type_24 : decode cX6_type 24 = .ok (.getfield 125, 3) := by decide +kernel
theorem dX6_type_27 : decode cX6_type 27 = .ok (.iconst 1, 1) := by decide +kernel
theorem dX6_type_28 : decode cX6_type 28 = .ok (.iadd, 1) := by decide +kernel
theorem dX6_type_29 : decode cX6_type 29 = .ok (.putfield 125, 3) := by decide +kernel
theorem dX6_type_32 : decode cX6_type 32 = .ok (.aload_n 0, 1) := by decide +kernel
theorem dX6_type_33 : decode cX6_type 33 = .ok (.getfield 125, 3) := by decide +kernel
theorem dX6_type_36 : decode cX6_type 36 = .ok (.ireturn, 1) := by decide +kernel
theorem dX6_clearText_0 : decode cX6_clearText 0 = .ok (.aload_n 0, 1) := by decide +kernel
theorem dX6_clearText_1 : decode cX6_clearText 1 = .ok (.getfield 125, 3) := by decide +kernel
theorem dX6_clearText_4 : decode cX6_clearText 4 = .ok (.istore_n 1, 1) := by decide +kernel
theorem dX6_clearText_5 : decode cX6_clearText 5 = .ok (.aload_n 0, 1) := by decide +kernel
theorem dX6_clearText_6 : decode cX6_clearText 6 = .ok (.iconst 0, 1) := by decide +kernel
theorem dX6_clearText_7 : decode cX6_clearText 7 = .ok (.putfield 125, 3) := by decide +kernel
theorem dX6_clearText_10 : decode cX6_clearText 10 = .ok (.iload_n 1, 1) := by decide +kernel
theorem dX6_clearText_11 : decode cX6_clearText 11 = .ok (.ireturn, 1) := by decide +kernel
set_option maxRecDepth 20000 in
theorem ggX6_isNext_X6_in : GoodIn wsX6_isNext wsX6_in := goodIn_r _ [8] (by decide +kernel) (by decide +kernel)
set_option maxRecDepth 20000 in
theorem gX6_isNext_X6_in : GoodIn wsX6_isNext (va_wsS RX6 29 yX6_in wsX6_in) := goodIn_app (goodIn_of _ (by decide +kernel)) ggX6_isNext_X6_in
theorem dX6_isNext_0 : decode cX6_isNext 0 = .ok (.aload_n 0, 1) := by decide +kernel
theorem dX6_isNext_1 : decode cX6_isNext 1 = .ok (.getfield 128, 3) := by decide +kernel
theorem dX6_isNext_4 : decode cX6_isNext 4 = .ok (.ifCond .ne 35, 3) := by decide +kernel
theorem dX6_isNext_7 : decode cX6_isNext 7 = .ok (.aload_n 0, 1) := by decide +kernel
theorem dX6_isNext_8 : decode cX6_isNext 8 = .ok (.getfield 132, 3) := by decide +kernel
theorem dX6_isNext_11 : decode cX6_isNext 11 = .ok (.aload_n 0, 1) := by decide +kernel
theorem dX6_isNext_12 : decode cX6_isNext 12 = .ok (.getfield 125, 3) := by decide +kernel
theorem dX6_isNext_15 : decode cX6_isNext 15 = .ok (.if_icmp .ge 24, 3) := by decide +kernel
theorem dX6_isNext_18 : decode cX6_isNext 18 = .ok (.aload_n 0, 1) := by decide +kernel
theorem dX6_isNext_19 : decode cX6_isNext 19 = .ok (.getfield 22, 3) := by decide +kernel
theorem dX6_isNext_22 : decode cX6_isNext 22 = .ok (.aload_n 0, 1) := by decide +kernel
theorem dX6_isNext_23 : decode cX6_isNext 23 = .ok (.getfield 132, 3) := by decide +kernel
theorem dX6_isNext_26 : decode cX6_isNext 26 = .ok (.iaload, 1) := by decide +kernel
theorem dX6_isNext_27 : decode cX6_isNext 27 = .ok (.iload_n 1, 1) := by decide +kernel
theorem dX6_isNext_28 : decode cX6_isNext 28 = .ok (.iload_n 2, 1) := by decide +kernel
theorem dX6_isNext_29 : decode cX6_isNext 29 = .ok (.invokestatic 29, 3) := by decide +kernel
theorem dX6_isNext_32 : decode cX6_isNext 32 = .ok (.ifCond .eq 7, 3) := by decide +kernel
theorem dX6_isNext_35 : decode cX6_isNext 35 = .ok (.iconst 1, 1) := by decide +kernel
theorem dX6_isNext_36 : decode cX6_isNext 36 = .ok (.goto 4, 3) := by decide +kernel
theorem dX6_isNext_39 : decode cX6_isNext 39 = .ok (.iconst 0, 1) := by decide +kernel
theorem dX6_isNext_40 : decode cX6_isNext 40 = .ok (.ireturn, 1) := by decide +kernel
set_option maxRecDepth 20000 in
theorem ggX6_needs_X6_isNext : GoodIn wsX6_needs wsX6_isNext := goodIn_r _ [7, 2, 1, 8, 9, 10, 11, 6, 12, 13, 14, 15, 16, 17, 18, 19, 20, 21, 22, 23, 24, 25, 26, 27, 28, 29, 30] (by decide +kernel) (by decide +kernel)
set_option maxRecDepth 20000 in
theorem gX6_needs_X6_isNext : GoodIn wsX6_needs (wsV RX6 135 RX6 yX6_isNext wsX6_isNext) := goodIn_app (goodIn_of _ (by decide +kernel)) ggX6_needs_X6_isNext
theorem dX6_needs_0 : decode cX6_needs 0 = .ok (.aload_n 0, 1) := by decide +kernel
theorem dX6_needs_1 : decode cX6_needs 1 = .ok (.iload_n 1, 1) := by decide +kernel
theorem dX6_needs_2 : decode cX6_needs 2 = .ok (.iload_n 1, 1) := by decide +kernel
theorem dX6_needs_3 : decode cX6_needs 3 = .ok (.invokevirtual 135, 3) := by decide +kernel
theorem dX6_needs_6 : decode cX6_needs 6 = .ok (.istore_n 2, 1) := by decide +kernel
theorem dX6_needs_7 : decode cX6_needs 7 = .ok (.aload_n 0, 1) := by decide +kernel
theorem dX6_needs_8 : decode cX6_needs 8 = .ok (.dup, 1) := by decide +kernel
theorem dX6_needs_9 : decode cX6_needs 9 = .ok (.getfield 132, 3) := by decide +kernel
theorem dX6_needs_12 : decode cX6_needs 12 = .ok (.iload_n 2, 1) := by decide +kernel
theorem dX6_needs_13 : decode cX6_needs 13 = .ok (.ifCond .eq 7, 3) := by decide +kernel
theorem dX6_needs_16 : decode cX6_needs 16 = .ok (.iconst 1, 1) := by decide +kernel
theorem dX6_needs_17 : decode cX6_needs 17 = .ok (.goto 4, 3) := by decide +kernel
theorem dX6_needs_20 : decode cX6_needs 20 = .ok (.iconst 0, 1) := by decide +kernel
theorem dX6_needs_21 : decode cX6_needs 21 = .ok (.iadd, 1) := by decide +kernel
theorem dX6_needs_22 : decode cX6_needs 22 = .ok (.putfield 132, 3) := by decide +kernel
theorem dX6_needs_25 : decode cX6_needs 25 = .ok (.aload_n 0, 1) := by decide +kernel
theorem dX6_needs_26 : decode cX6_needs 26 = .ok (.aload_n 0, 1) := by decide +kernel
theorem dX6_needs_27 : decode cX6_needs 27 = .ok (.getfield 128, 3) := by decide +kernel
theorem dX6_needs_30 : decode cX6_needs 30 = .ok (.ifCond .ne 7, 3) := by decide +kernel
theorem dX6_needs_33 : decode cX6_needs 33 = .ok (.iload_n 2, 1) := by decide +kernel
theorem dX6_needs_34 : decode cX6_needs 34 = .ok (.ifCond .ne 7, 3) := by decide +kernel
theorem dX6_needs_37 : decode cX6_needs 37 = .ok (.iconst 1, 1) := by decide +kernel
theorem dX6_needs_38 : decode cX6_needs 38 = .ok (.goto 4, 3) := by decide +kernel
theorem dX6_needs_41 : decode cX6_needs 41 = .ok (.iconst 0, 1) := by decide +kernel
theorem dX6_needs_42 : decode cX6_needs 42 = .ok (.putfield 128, 3) := by decide +kernel
theorem dX6_needs_45 : decode cX6_needs 45 = .ok (.return_, 1) := by decide +kernel
set_option maxRecDepth 20000 in
theorem ggX6_number_X6_isNext : GoodIn wsX6_number wsX6_isNext := goodIn_r _ [8, 1, 3, 9, 2, 10, 11, 7, 12, 13, 14, 15, 16, 17, 18, 19, 20, 21, 22, 23, 24, 25, 26, 27, 28, 29, 30] (by decide +kernel) (by decide +kernel)
set_option maxRecDepth 20000 in
theorem gX6_number_X6_isNext : GoodIn wsX6_number (wsV RX6 135 RX6 yX6_isNext wsX6_isNext) := goodIn_app (goodIn_of _ (by decide +kernel)) ggX6_number_X6_isNext
theorem dX6_number_0 : decode cX6_number 0 = .ok (.aload_n 0, 1) := by decide +kernel
theorem dX6_number_1 : decode cX6_number 1 = .ok (.aload_n 0, 1) := by decide +kernel
theorem dX6_number_2 : decode cX6_number 2 = .ok (.getfield 128, 3) := by decide +kernel
theorem dX6_number_5 : decode cX6_number 5 = .ok (.ifCond .ne 27, 3) := by decide +kernel
theorem dX6_number_8 : decode cX6_number 8 = .ok (.aload_n 0, 1) := by decide +kernel
theorem dX6_number_9 : decode cX6_number 9 = .ok (.bipush 48, 2) := by decide +kernel
theorem dX6_number_11 : decode cX6_number 11 = .ok (.iload_n 1, 1) := by decide +kernel
theorem dX6_number_12 : decode cX6_number 12 = .ok (.bipush 9, 2) := by decide +kernel
theorem dX6_number_14 : decode cX6_number 14 = .ok (.if_icmp .ge 10, 3) := by decide +kernel
theorem dX6_number_17 : decode cX6_number 17 = .ok (.bipush 48, 2) := by decide +kernel
theorem dX6_number_19 : decode cX6_number 19 = .ok (.iload_n 1, 1) := by decide +kernel
theorem dX6_number_20 : decode cX6_number 20 = .ok (.iadd, 1) := by decide +kernel
theorem dX6_number_21 : decode cX6_number 21 = .ok (.goto 5, 3) := by decide +kernel
theorem dX6_number_24 : decode cX6_number 24 = .ok (.bipush 57, 2) := by decide +kernel
theorem dX6_number_26 : decode cX6_number 26 = .ok (.invokevirtual 135, 3) := by decide +kernel
theorem dX6_number_29 : decode cX6_number 29 = .ok (.ifCond .ne 7, 3) := by decide +kernel
theorem dX6_number_32 : decode cX6_number 32 = .ok (.iconst 1, 1) := by decide +kernel
theorem dX6_number_33 : decode cX6_number 33 = .ok (.goto 4, 3) := by decide +kernel
theorem dX6_number_36 : decode cX6_number 36 = .ok (.iconst 0, 1) := by decide +kernel
theorem dX6_number_37 : decode cX6_number 37 = .ok (.putfield 128, 3) := by decide +kernel
theorem dX6_number_40 : decode cX6_number 40 = .ok (.aload_n 0, 1) := by decide +kernel
theorem dX6_number_41 : decode cX6_number 41 = .ok (.getfield 128, 3) := by decide +kernel
theorem dX6_number_44 : decode cX6_number 44 = .ok (.ifCond .eq 7, 3) := by decide +kernel
theorem dX6_number_47 : decode cX6_number 47 = .ok (.iconst 0, 1) := by decide +kernel
theorem dX6_number_48 : decode cX6_number 48 = .ok (.goto 15, 3) := by decide +kernel
theorem dX6_number_51 : decode cX6_number 51 = .ok (.aload_n 0, 1) := by decide +kernel
theorem dX6_number_52 : decode cX6_number 52 = .ok (.getfield 22, 3) := by decide +kernel
theorem dX6_number_55 : decode cX6_number 55 = .ok (.aload_n 0, 1) := by decide +kernel
theorem dX6_number_56 : decode cX6_number 56 = .ok (.getfield 132, 3) := by decide +kernel
theorem dX6_number_59 : decode cX6_number 59 = .ok (.iaload, 1) := by decide +kernel
theorem dX6_number_60 : decode cX6_number 60 = .ok (.bipush 48, 2) := by decide +kernel
theorem dX6_number_62 : decode cX6_number 62 = .ok (.isub, 1) := by decide +kernel
theorem dX6_number_63 : decode cX6_number 63 = .ok (.istore_n 2, 1) := by decide +kernel
theorem dX6_number_64 : decode cX6_number 64 = .ok (.aload_n 0, 1) := by decide +kernel
theorem dX6_number_65 : decode cX6_number 65 = .ok (.dup, 1) := by decide +kernel
theorem dX6_number_66 : decode cX6_number 66 = .ok (.getfield 132, 3) := by decide +kernel
theorem dX6_number_69 : decode cX6_number 69 = .ok (.aload_n 0, 1) := by decide +kernel
theorem dX6_number_70 : decode cX6_number 70 = .ok (.getfield 128, 3) := by decide +kernel
theorem dX6_number_73 : decode cX6_number 73 = .ok (.ifCond .eq 7, 3) := by decide +kernel
theorem dX6_number_76 : decode cX6_number 76 = .ok (.iconst 0, 1) := by decide +kernel
theorem dX6_number_77 : decode cX6_number 77 = .ok (.goto 4, 3) := by decide +kernel
theorem dX6_number_80 : decode cX6_number 80 = .ok (.iconst 1, 1) := by decide +kernel
theorem dX6_number_81 : decode cX6_number 81 = .ok (.iadd, 1) := by decide +kernel
theorem dX6_number_82 : decode cX6_number 82 = .ok (.putfield 132, 3) := by decide +kernel
theorem dX6_number_85 : decode cX6_number 85 = .ok (.iload_n 2, 1) := by decide +kernel
theorem dX6_number_86 : decode cX6_number 86 = .ok (.ifCond .le 66, 3) := by decide +kernel
theorem dX6_number_89 : decode cX6_number 89 = .ok (.aload_n 0, 1) := by decide +kernel
theorem dX6_number_90 : decode cX6_number 90 = .ok (.bipush 48, 2) := by decide +kernel
theorem dX6_number_92 : decode cX6_number 92 = .ok (.bipush 57, 2) := by decide +kernel
theorem dX6_number_94 : decode cX6_number 94 = .ok (.invokevirtual 135, 3) := by decide +kernel
theorem dX6_number_97 : decode cX6_number 97 = .ok (.ifCond .eq 55, 3) := by decide +kernel
theorem dX6_number_100 : decode cX6_number 100 = .ok (.bipush 10, 2) := by decide +kernel
theorem dX6_number_102 : decode cX6_number 102 = .ok (.iload_n 2, 1) := by decide +kernel
theorem dX6_number_103 : decode cX6_number 103 = .ok (.imul, 1) := by decide +kernel
theorem dX6_number_104 : decode cX6_number 104 = .ok (.aload_n 0, 1) := by decide +kernel
theorem dX6_number_105 : decode cX6_number 105 = .ok (.getfield 22, 3) := by decide +kernel
theorem dX6_number_108 : decode cX6_number 108 = .ok (.aload_n 0, 1) := by decide +kernel
theorem dX6_number_109 : decode cX6_number 109 = .ok (.getfield 132, 3) := by decide +kernel
theorem dX6_number_112 : decode cX6_number 112 = .ok (.iaload, 1) := by decide +kernel
theorem dX6_number_113 : decode cX6_number 113 = .ok (.iadd, 1) := by decide +kernel
theorem dX6_number_114 : decode cX6_number 114 = .ok (.bipush 48, 2) := by decide +kernel
theorem dX6_number_116 : decode cX6_number 116 = .ok (.isub, 1) := by decide +kernel
theorem dX6_number_117 : decode cX6_number 117 = .ok (.iload_n 1, 1) := by decide +kernel
theorem dX6_number_118 : decode cX6_number 118 = .ok (.if_icmp .gt 34, 3) := by decide +kernel
theorem dX6_number_121 : decode cX6_number 121 = .ok (.bipush 10, 2) := by decide +kernel
theorem dX6_number_123 : decode cX6_number 123 = .ok (.iload_n 2, 1) := by decide +kernel
theorem dX6_number_124 : decode cX6_number 124 = .ok (.imul, 1) := by decide +kernel
theorem dX6_number_125 : decode cX6_number 125 = .ok (.aload_n 0, 1) := by decide +kernel
theorem dX6_number_126 : decode cX6_number 126 = .ok (.getfield 22, 3) := by decide +kernel
theorem dX6_number_129 : decode cX6_number 129 = .ok (.aload_n 0, 1) := by decide +kernel
theorem dX6_number_130 : decode cX6_number 130 = .ok (.getfield 132, 3) := by decide +kernel
theorem dX6_number_133 : decode cX6_number 133 = .ok (.iaload, 1) := by decide +kernel
theorem dX6_number_134 : decode cX6_number 134 = .ok (.iadd, 1) := by decide +kernel
theorem dX6_number_135 : decode cX6_number 135 = .ok (.bipush 48, 2) := by decide +kernel
theorem dX6_number_137 : decode cX6_number 137 = .ok (.isub, 1) := by decide +kernel
theorem dX6_number_138 : decode cX6_number 138 = .ok (.istore_n 2, 1) := by decide +kernel
theorem dX6_number_139 : decode cX6_number 139 = .ok (.aload_n 0, 1) := by decide +kernel
theorem dX6_number_140 : decode cX6_number 140 = .ok (.dup, 1) := by decide +kernel
theorem dX6_number_141 : decode cX6_number 141 = .ok (.getfield 132, 3) := by decide +kernel
theorem dX6_number_144 : decode cX6_number 144 = .ok (.iconst 1, 1) := by decide +kernel
theorem dX6_number_145 : decode cX6_number 145 = .ok (.iadd, 1) := by decide +kernel
theorem dX6_number_146 : decode cX6_number 146 = .ok (.putfield 132, 3) := by decide +kernel
theorem dX6_number_149 : decode cX6_number 149 = .ok (.goto (-64), 3) := by decide +kernel
theorem dX6_number_152 : decode cX6_number 152 = .ok (.iload_n 2, 1) := by decide +kernel
theorem dX6_number_153 : decode cX6_number 153 = .ok (.ireturn, 1) := by decide +kernel
set_option maxRecDepth 20000 in
theorem ggX6_readsDeed_X6_isNext : GoodIn wsX6_readsDeed wsX6_isNext := goodIn_r _ [12, 4, 2, 13, 1, 14, 15, 11, 16, 25, 26, 27, 28, 29, 30, 31, 32, 33, 34, 35, 36, 37, 38, 39, 40, 41, 42] (by decide +kernel) (by decide +kernel)
set_option maxRecDepth 20000 in
theorem gX6_readsDeed_X6_isNext : GoodIn wsX6_readsDeed (wsV RX6 135 RX6 yX6_isNext wsX6_isNext) := goodIn_app (goodIn_of _ (by decide +kernel)) ggX6_readsDeed_X6_isNext
set_option maxRecDepth 20000 in
theorem ggX6_readsDeed_X6_number : GoodIn wsX6_readsDeed wsX6_number := goodIn_r _ [20, 4, 1, 2, 8, 9, 10, 11, 12, 13, 14, 15, 16, 25, 26, 27, 28, 29, 30, 31, 32, 33, 34, 35, 36, 37, 38, 39, 40, 41, 42] (by decide +kernel) (by decide +kernel)
set_option maxRecDepth 20000 in
theorem gX6_readsDeed_X6_number : GoodIn wsX6_readsDeed (wsV RX6 141 RX6 yX6_number wsX6_number) := goodIn_app (goodIn_of _ (by decide +kernel)) ggX6_readsDeed_X6_number
set_option maxRecDepth 20000 in
theorem ggX6_readsDeed_X6_needs : GoodIn wsX6_readsDeed wsX6_needs := goodIn_r _ [24, 2, 4, 8, 9, 10, 11, 12, 13, 1, 14, 15, 16, 25, 26, 27, 28, 29, 30, 31, 32, 33, 34, 35, 36, 37, 38, 39, 40, 41, 42] (by decide +kernel) (by decide +kernel)
set_option maxRecDepth 20000 in
theorem gX6_readsDeed_X6_needs : GoodIn wsX6_readsDeed (wsV RX6 147 RX6 yX6_needs wsX6_needs) := goodIn_app (goodIn_of _ (by decide +kernel)) ggX6_readsDeed_X6_needs
theorem dX6_readsDeed_0 : decode cX6_readsDeed 0 = .ok (.aload_n 0, 1) := by decide +kernel
theorem dX6_readsDeed_1 : decode cX6_readsDeed 1 = .ok (.aload_n 0, 1) := by decide +kernel
theorem dX6_readsDeed_2 : decode cX6_readsDeed 2 = .ok (.bipush 114, 2) := by decide +kernel
theorem dX6_readsDeed_4 : decode cX6_readsDeed 4 = .ok (.bipush 114, 2) := by decide +kernel
theorem dX6_readsDeed_6 : decode cX6_readsDeed 6 = .ok (.invokevirtual 135, 3) := by decide +kernel
theorem dX6_readsDeed_9 : decode cX6_readsDeed 9 = .ok (.ifCond .ne 36, 3) := by decide +kernel
theorem dX6_readsDeed_12 : decode cX6_readsDeed 12 = .ok (.aload_n 0, 1) := by decide +kernel
theorem dX6_readsDeed_13 : decode cX6_readsDeed 13 = .ok (.bipush 119, 2) := by decide +kernel
theorem dX6_readsDeed_15 : decode cX6_readsDeed 15 = .ok (.bipush 119, 2) := by decide +kernel
theorem dX6_readsDeed_17 : decode cX6_readsDeed 17 = .ok (.invokevirtual 135, 3) := by decide +kernel
theorem dX6_readsDeed_20 : decode cX6_readsDeed 20 = .ok (.ifCond .ne 25, 3) := by decide +kernel
theorem dX6_readsDeed_23 : decode cX6_readsDeed 23 = .ok (.aload_n 0, 1) := by decide +kernel
theorem dX6_readsDeed_24 : decode cX6_readsDeed 24 = .ok (.bipush 100, 2) := by decide +kernel
theorem dX6_readsDeed_26 : decode cX6_readsDeed 26 = .ok (.bipush 100, 2) := by decide +kernel
theorem dX6_readsDeed_28 : decode cX6_readsDeed 28 = .ok (.invokevirtual 135, 3) := by decide +kernel
theorem dX6_readsDeed_31 : decode cX6_readsDeed 31 = .ok (.ifCond .ne 14, 3) := by decide +kernel
theorem dX6_readsDeed_34 : decode cX6_readsDeed 34 = .ok (.aload_n 0, 1) := by decide +kernel
theorem dX6_readsDeed_35 : decode cX6_readsDeed 35 = .ok (.bipush 102, 2) := by decide +kernel
theorem dX6_readsDeed_37 : decode cX6_readsDeed 37 = .ok (.bipush 102, 2) := by decide +kernel
theorem dX6_readsDeed_39 : decode cX6_readsDeed 39 = .ok (.invokevirtual 135, 3) := by decide +kernel
theorem dX6_readsDeed_42 : decode cX6_readsDeed 42 = .ok (.ifCond .eq 15, 3) := by decide +kernel
theorem dX6_readsDeed_45 : decode cX6_readsDeed 45 = .ok (.aload_n 0, 1) := by decide +kernel
theorem dX6_readsDeed_46 : decode cX6_readsDeed 46 = .ok (.getfield 22, 3) := by decide +kernel
theorem dX6_readsDeed_49 : decode cX6_readsDeed 49 = .ok (.aload_n 0, 1) := by decide +kernel
theorem dX6_readsDeed_50 : decode cX6_readsDeed 50 = .ok (.getfield 132, 3) := by decide +kernel
theorem dX6_readsDeed_53 : decode cX6_readsDeed 53 = .ok (.iaload, 1) := by decide +kernel
theorem dX6_readsDeed_54 : decode cX6_readsDeed 54 = .ok (.goto 4, 3) := by decide +kernel
theorem dX6_readsDeed_57 : decode cX6_readsDeed 57 = .ok (.iconst 0, 1) := by decide +kernel
theorem dX6_readsDeed_58 : decode cX6_readsDeed 58 = .ok (.putfield 138, 3) := by decide +kernel
theorem dX6_readsDeed_61 : decode cX6_readsDeed 61 = .ok (.aload_n 0, 1) := by decide +kernel
theorem dX6_readsDeed_62 : decode cX6_readsDeed 62 = .ok (.aload_n 0, 1) := by decide +kernel
theorem dX6_readsDeed_63 : decode cX6_readsDeed 63 = .ok (.getfield 128, 3) := by decide +kernel
theorem dX6_readsDeed_66 : decode cX6_readsDeed 66 = .ok (.ifCond .ne 10, 3) := by decide +kernel
theorem dX6_readsDeed_69 : decode cX6_readsDeed 69 = .ok (.aload_n 0, 1) := by decide +kernel
theorem dX6_readsDeed_70 : decode cX6_readsDeed 70 = .ok (.getfield 138, 3) := by decide +kernel
theorem dX6_readsDeed_73 : decode cX6_readsDeed 73 = .ok (.ifCond .ne 7, 3) := by decide +kernel
theorem dX6_readsDeed_76 : decode cX6_readsDeed 76 = .ok (.iconst 1, 1) := by decide +kernel
theorem dX6_readsDeed_77 : decode cX6_readsDeed 77 = .ok (.goto 4, 3) := by decide +kernel
theorem dX6_readsDeed_80 : decode cX6_readsDeed 80 = .ok (.iconst 0, 1) := by decide +kernel
theorem dX6_readsDeed_81 : decode cX6_readsDeed 81 = .ok (.putfield 128, 3) := by decide +kernel
theorem dX6_readsDeed_84 : decode cX6_readsDeed 84 = .ok (.aload_n 0, 1) := by decide +kernel
theorem dX6_readsDeed_85 : decode cX6_readsDeed 85 = .ok (.dup, 1) := by decide +kernel
theorem dX6_readsDeed_86 : decode cX6_readsDeed 86 = .ok (.getfield 132, 3) := by decide +kernel
theorem dX6_readsDeed_89 : decode cX6_readsDeed 89 = .ok (.aload_n 0, 1) := by decide +kernel
theorem dX6_readsDeed_90 : decode cX6_readsDeed 90 = .ok (.getfield 128, 3) := by decide +kernel
theorem dX6_readsDeed_93 : decode cX6_readsDeed 93 = .ok (.ifCond .eq 7, 3) := by decide +kernel
theorem dX6_readsDeed_96 : decode cX6_readsDeed 96 = .ok (.iconst 0, 1) := by decide +kernel
theorem dX6_readsDeed_97 : decode cX6_readsDeed 97 = .ok (.goto 4, 3) := by decide +kernel
theorem dX6_readsDeed_100 : decode cX6_readsDeed 100 = .ok (.iconst 1, 1) := by decide +kernel
theorem dX6_readsDeed_101 : decode cX6_readsDeed 101 = .ok (.iadd, 1) := by decide +kernel
theorem dX6_readsDeed_102 : decode cX6_readsDeed 102 = .ok (.putfield 132, 3) := by decide +kernel
theorem dX6_readsDeed_105 : decode cX6_readsDeed 105 = .ok (.aload_n 0, 1) := by decide +kernel
theorem dX6_readsDeed_106 : decode cX6_readsDeed 106 = .ok (.aload_n 0, 1) := by decide +kernel
theorem dX6_readsDeed_107 : decode cX6_readsDeed 107 = .ok (.iconst 3, 1) := by decide +kernel
theorem dX6_readsDeed_108 : decode cX6_readsDeed 108 = .ok (.invokevirtual 141, 3) := by decide +kernel
theorem dX6_readsDeed_111 : decode cX6_readsDeed 111 = .ok (.putfield 144, 3) := by decide +kernel
theorem dX6_readsDeed_114 : decode cX6_readsDeed 114 = .ok (.aload_n 0, 1) := by decide +kernel
theorem dX6_readsDeed_115 : decode cX6_readsDeed 115 = .ok (.getfield 138, 3) := by decide +kernel
theorem dX6_readsDeed_118 : decode cX6_readsDeed 118 = .ok (.bipush 102, 2) := by decide +kernel
theorem dX6_readsDeed_120 : decode cX6_readsDeed 120 = .ok (.if_icmp .eq 20, 3) := by decide +kernel
theorem dX6_readsDeed_123 : decode cX6_readsDeed 123 = .ok (.aload_n 0, 1) := by decide +kernel
theorem dX6_readsDeed_124 : decode cX6_readsDeed 124 = .ok (.bipush 46, 2) := by decide +kernel
theorem dX6_readsDeed_126 : decode cX6_readsDeed 126 = .ok (.invokevirtual 147, 3) := by decide +kernel
theorem dX6_readsDeed_129 : decode cX6_readsDeed 129 = .ok (.aload_n 0, 1) := by decide +kernel
theorem dX6_readsDeed_130 : decode cX6_readsDeed 130 = .ok (.aload_n 0, 1) := by decide +kernel
theorem dX6_readsDeed_131 : decode cX6_readsDeed 131 = .ok (.sipush 255, 3) := by decide +kernel
theorem dX6_readsDeed_134 : decode cX6_readsDeed 134 = .ok (.invokevirtual 141, 3) := by decide +kernel
theorem dX6_readsDeed_137 : decode cX6_readsDeed 137 = .ok (.putfield 150, 3) := by decide +kernel
theorem dX6_readsDeed_140 : decode cX6_readsDeed 140 = .ok (.aload_n 0, 1) := by decide +kernel
theorem dX6_readsDeed_141 : decode cX6_readsDeed 141 = .ok (.getfield 138, 3) := by decide +kernel
theorem dX6_readsDeed_144 : decode cX6_readsDeed 144 = .ok (.bipush 119, 2) := by decide +kernel
theorem dX6_readsDeed_146 : decode cX6_readsDeed 146 = .ok (.if_icmp .ne 20, 3) := by decide +kernel
theorem dX6_readsDeed_149 : decode cX6_readsDeed 149 = .ok (.aload_n 0, 1) := by decide +kernel
theorem dX6_readsDeed_150 : decode cX6_readsDeed 150 = .ok (.bipush 61, 2) := by decide +kernel
theorem dX6_readsDeed_152 : decode cX6_readsDeed 152 = .ok (.invokevirtual 147, 3) := by decide +kernel
theorem dX6_readsDeed_155 : decode cX6_readsDeed 155 = .ok (.aload_n 0, 1) := by decide +kernel
theorem dX6_readsDeed_156 : decode cX6_readsDeed 156 = .ok (.aload_n 0, 1) := by decide +kernel
theorem dX6_readsDeed_157 : decode cX6_readsDeed 157 = .ok (.sipush 9999, 3) := by decide +kernel
theorem dX6_readsDeed_160 : decode cX6_readsDeed 160 = .ok (.invokevirtual 141, 3) := by decide +kernel
theorem dX6_readsDeed_163 : decode cX6_readsDeed 163 = .ok (.putfield 153, 3) := by decide +kernel
theorem dX6_readsDeed_166 : decode cX6_readsDeed 166 = .ok (.return_, 1) := by decide +kernel
set_option maxRecDepth 20000 in
theorem ggX6_isDone_X6_holds : GoodIn wsX6_isDone wsX6_holds := goodIn_r _ [10, 11, 12, 13, 9, 14, 97, 98, 99, 100, 101, 102, 103, 104, 105, 106, 107, 108, 109, 110, 111, 112, 113, 114] (by decide +kernel) (by decide +kernel)
set_option maxRecDepth 20000 in
theorem gX6_isDone_X6_holds : GoodIn wsX6_isDone (wsV RX6 81 RX6 yX6_holds wsX6_holds) := goodIn_app (goodIn_of _ (by decide +kernel)) ggX6_isDone_X6_holds
set_option maxRecDepth 20000 in
theorem ggX6_isDone_X6_reads : GoodIn wsX6_isDone wsX6_reads := goodIn_r _ [18, 11, 6, 7, 8, 9, 10, 12, 13, 14, 19, 20, 21, 22, 23, 24, 25, 26, 27, 28, 29, 30, 31, 32, 33, 34, 35, 36, 37, 38, 39, 40, 41, 42, 43, 44, 45, 46, 47, 48, 49, 50, 51, 52, 53, 54, 55, 56, 57, 58, 59, 60, 61, 62, 63, 64, 65, 66, 67, 68, 69, 70, 71, 72, 73, 74, 75, 76, 97, 98, 99, 100, 101, 102, 103, 104, 105, 106, 107, 108, 109, 110, 111, 112, 113, 114] (by decide +kernel) (by decide +kernel)
set_option maxRecDepth 20000 in
theorem gX6_isDone_X6_reads : GoodIn wsX6_isDone (wsV RX6 113 RX6 yX6_reads wsX6_reads) := goodIn_app (goodIn_of _ (by decide +kernel)) ggX6_isDone_X6_reads
set_option maxRecDepth 20000 in
theorem ggX6_isDone_X6_writes : GoodIn wsX6_isDone wsX6_writes := goodIn_r _ [80, 11, 12, 13, 9, 14, 6, 7, 8, 10, 22, 23, 24, 25, 26, 27, 28, 29, 30, 31, 32, 33, 34, 35, 36, 37, 38, 39, 40, 41, 42, 43, 44, 19, 20, 21, 45, 46, 47, 48, 49, 50, 51, 52, 53, 54, 55, 56, 57, 58, 59, 60, 61, 62, 63, 64, 65, 66, 67, 68, 69, 70, 71, 72, 73, 74, 75, 76, 97, 98, 99, 100, 101, 102, 103, 104, 105, 106, 107, 108, 109, 110, 111, 112, 113, 114] (by decide +kernel) (by decide +kernel)
set_option maxRecDepth 20000 in
theorem gX6_isDone_X6_writes : GoodIn wsX6_isDone (wsV RX6 116 RX6 yX6_writes wsX6_writes) := goodIn_app (goodIn_of _ (by decide +kernel)) ggX6_isDone_X6_writes
set_option maxRecDepth 20000 in
theorem ggX6_isDone_X6_drops : GoodIn wsX6_isDone wsX6_drops := goodIn_r _ [84, 11, 12, 13, 9, 14, 53, 54, 55, 56, 45, 46, 47, 48, 49, 50, 51, 52, 38, 39, 40, 41, 42, 43, 44, 97, 98, 99, 100, 101, 102, 103, 104, 105, 106, 107, 108, 109, 110, 111, 112, 113, 114] (by decide +kernel) (by decide +kernel)
set_option maxRecDepth 20000 in
theorem gX6_isDone_X6_drops : GoodIn wsX6_isDone (wsV RX6 119 RX6 yX6_drops wsX6_drops) := goodIn_app (goodIn_of _ (by decide +kernel)) ggX6_isDone_X6_drops
set_option maxRecDepth 20000 in
theorem ggX6_isDone_X6_isEmpty : GoodIn wsX6_isDone wsX6_isEmpty := goodIn_r _ [88, 89, 90, 91, 9, 92, 11, 65, 66, 67, 68, 93, 94, 95, 96, 97, 98, 99, 100, 101, 102, 103, 104, 105, 106, 107, 108, 109, 110, 111, 112, 113, 114] (by decide +kernel) (by decide +kernel)
set_option maxRecDepth 20000 in
theorem gX6_isDone_X6_isEmpty : GoodIn wsX6_isDone (wsV RX6 122 RX6 yX6_isEmpty wsX6_isEmpty) := goodIn_app (goodIn_of _ (by decide +kernel)) ggX6_isDone_X6_isEmpty
set_option maxRecDepth 20000 in
theorem ggX6_isDone_X6_forgets : GoodIn wsX6_isDone wsX6_forgets := goodIn_r _ [72, 11, 53, 54, 55, 9, 56, 45, 46, 47, 48, 49, 50, 51, 52, 38, 39, 40, 41, 42, 43, 44, 73, 74, 75, 76, 19, 20, 21, 97, 98, 99, 100, 101, 102, 103, 104, 105, 106, 107, 108, 109, 110, 111, 112, 113, 114] (by decide +kernel) (by decide +kernel)
set_option maxRecDepth 20000 in
theorem gX6_isDone_X6_forgets : GoodIn wsX6_isDone (wsV RX6 75 RX6 yX6_forgets wsX6_forgets) := goodIn_app (goodIn_of _ (by decide +kernel)) ggX6_isDone_X6_forgets
theorem dX6_isDone_0 : decode cX6_isDone 0 = .ok (.aload_n 0, 1) := by decide +kernel
theorem dX6_isDone_1 : decode cX6_isDone 1 = .ok (.getfield 138, 3) := by decide +kernel
theorem dX6_isDone_4 : decode cX6_isDone 4 = .ok (.bipush 100, 2) := by decide +kernel
theorem dX6_isDone_6 : decode cX6_isDone 6 = .ok (.if_icmp .ne 20, 3) := by decide +kernel
theorem dX6_isDone_9 : decode cX6_isDone 9 = .ok (.aload_n 0, 1) := by decide +kernel
theorem dX6_isDone_10 : decode cX6_isDone 10 = .ok (.aload_n 0, 1) := by decide +kernel
theorem dX6_isDone_11 : decode cX6_isDone 11 = .ok (.getfield 144, 3) := by decide +kernel
theorem dX6_isDone_14 : decode cX6_isDone 14 = .ok (.aload_n 0, 1) := by decide +kernel
theorem dX6_isDone_15 : decode cX6_isDone 15 = .ok (.getfield 150, 3) := by decide +kernel
theorem dX6_isDone_18 : decode cX6_isDone 18 = .ok (.invokevirtual 81, 3) := by decide +kernel
theorem dX6_isDone_21 : decode cX6_isDone 21 = .ok (.ifCond .ne 5, 3) := by decide +kernel
theorem dX6_isDone_24 : decode cX6_isDone 24 = .ok (.iconst 0, 1) := by decide +kernel
theorem dX6_isDone_25 : decode cX6_isDone 25 = .ok (.ireturn, 1) := by decide +kernel
theorem dX6_isDone_26 : decode cX6_isDone 26 = .ok (.iconst 0, 1) := by decide +kernel
theorem dX6_isDone_27 : decode cX6_isDone 27 = .ok (.istore_n 1, 1) := by decide +kernel
theorem dX6_isDone_28 : decode cX6_isDone 28 = .ok (.aload_n 0, 1) := by decide +kernel
theorem dX6_isDone_29 : decode cX6_isDone 29 = .ok (.getfield 138, 3) := by decide +kernel
theorem dX6_isDone_32 : decode cX6_isDone 32 = .ok (.bipush 114, 2) := by decide +kernel
theorem dX6_isDone_34 : decode cX6_isDone 34 = .ok (.if_icmp .ne 27, 3) := by decide +kernel
theorem dX6_isDone_37 : decode cX6_isDone 37 = .ok (.aload_n 0, 1) := by decide +kernel
theorem dX6_isDone_38 : decode cX6_isDone 38 = .ok (.dup, 1) := by decide +kernel
theorem dX6_isDone_39 : decode cX6_isDone 39 = .ok (.getfield 156, 3) := by decide +kernel
theorem dX6_isDone_42 : decode cX6_isDone 42 = .ok (.aload_n 0, 1) := by decide +kernel
theorem dX6_isDone_43 : decode cX6_isDone 43 = .ok (.aload_n 0, 1) := by decide +kernel
theorem dX6_isDone_44 : decode cX6_isDone 44 = .ok (.getfield 144, 3) := by decide +kernel
theorem dX6_isDone_47 : decode cX6_isDone 47 = .ok (.aload_n 0, 1) := by decide +kernel
theorem dX6_isDone_48 : decode cX6_isDone 48 = .ok (.getfield 150, 3) := by decide +kernel
theorem dX6_isDone_51 : decode cX6_isDone 51 = .ok (.invokevirtual 113, 3) := by decide +kernel
theorem dX6_isDone_54 : decode cX6_isDone 54 = .ok (.iadd, 1) := by decide +kernel
theorem dX6_isDone_55 : decode cX6_isDone 55 = .ok (.putfield 156, 3) := by decide +kernel
theorem dX6_isDone_58 : decode cX6_isDone 58 = .ok (.goto 84, 3) := by decide +kernel
theorem dX6_isDone_61 : decode cX6_isDone 61 = .ok (.aload_n 0, 1) := by decide +kernel
theorem dX6_isDone_62 : decode cX6_isDone 62 = .ok (.getfield 138, 3) := by decide +kernel
theorem dX6_isDone_65 : decode cX6_isDone 65 = .ok (.bipush 119, 2) := by decide +kernel
theorem dX6_isDone_67 : decode cX6_isDone 67 = .ok (.if_icmp .ne 23, 3) := by decide +kernel
theorem dX6_isDone_70 : decode cX6_isDone 70 = .ok (.aload_n 0, 1) := by decide +kernel
theorem dX6_isDone_71 : decode cX6_isDone 71 = .ok (.aload_n 0, 1) := by decide +kernel
theorem dX6_isDone_72 : decode cX6_isDone 72 = .ok (.getfield 144, 3) := by decide +kernel
theorem dX6_isDone_75 : decode cX6_isDone 75 = .ok (.aload_n 0, 1) := by decide +kernel
theorem dX6_isDone_76 : decode cX6_isDone 76 = .ok (.getfield 150, 3) := by decide +kernel
theorem dX6_isDone_79 : decode cX6_isDone 79 = .ok (.aload_n 0, 1) := by decide +kernel
theorem dX6_isDone_80 : decode cX6_isDone 80 = .ok (.getfield 153, 3) := by decide +kernel
theorem dX6_isDone_83 : decode cX6_isDone 83 = .ok (.invokevirtual 116, 3) := by decide +kernel
theorem dX6_isDone_86 : decode cX6_isDone 86 = .ok (.istore_n 1, 1) := by decide +kernel
theorem dX6_isDone_87 : decode cX6_isDone 87 = .ok (.goto 55, 3) := by decide +kernel
theorem dX6_isDone_90 : decode cX6_isDone 90 = .ok (.aload_n 0, 1) := by decide +kernel
theorem dX6_isDone_91 : decode cX6_isDone 91 = .ok (.getfield 138, 3) := by decide +kernel
theorem dX6_isDone_94 : decode cX6_isDone 94 = .ok (.bipush 100, 2) := by decide +kernel
theorem dX6_isDone_96 : decode cX6_isDone 96 = .ok (.if_icmp .ne 19, 3) := by decide +kernel
theorem dX6_isDone_99 : decode cX6_isDone 99 = .ok (.aload_n 0, 1) := by decide +kernel
theorem dX6_isDone_100 : decode cX6_isDone 100 = .ok (.aload_n 0, 1) := by decide +kernel
theorem dX6_isDone_101 : decode cX6_isDone 101 = .ok (.getfield 144, 3) := by decide +kernel
theorem dX6_isDone_104 : decode cX6_isDone 104 = .ok (.aload_n 0, 1) := by decide +kernel
theorem dX6_isDone_105 : decode cX6_isDone 105 = .ok (.getfield 150, 3) := by decide +kernel
theorem dX6_isDone_108 : decode cX6_isDone 108 = .ok (.invokevirtual 119, 3) := by decide +kernel
theorem dX6_isDone_111 : decode cX6_isDone 111 = .ok (.istore_n 1, 1) := by decide +kernel
theorem dX6_isDone_112 : decode cX6_isDone 112 = .ok (.goto 30, 3) := by decide +kernel
theorem dX6_isDone_115 : decode cX6_isDone 115 = .ok (.aload_n 0, 1) := by decide +kernel
theorem dX6_isDone_116 : decode cX6_isDone 116 = .ok (.aload_n 0, 1) := by decide +kernel
theorem dX6_isDone_117 : decode cX6_isDone 117 = .ok (.getfield 144, 3) := by decide +kernel
theorem dX6_isDone_120 : decode cX6_isDone 120 = .ok (.invokevirtual 122, 3) := by decide +kernel
theorem dX6_isDone_123 : decode cX6_isDone 123 = .ok (.ifCond .eq 8, 3) := by decide +kernel
theorem dX6_isDone_126 : decode cX6_isDone 126 = .ok (.bipush (-5), 2) := by decide +kernel
theorem dX6_isDone_128 : decode cX6_isDone 128 = .ok (.goto 13, 3) := by decide +kernel
theorem dX6_isDone_131 : decode cX6_isDone 131 = .ok (.aload_n 0, 1) := by decide +kernel
theorem dX6_isDone_132 : decode cX6_isDone 132 = .ok (.aload_n 0, 1) := by decide +kernel
theorem dX6_isDone_133 : decode cX6_isDone 133 = .ok (.getfield 144, 3) := by decide +kernel
theorem dX6_isDone_136 : decode cX6_isDone 136 = .ok (.bipush (-5), 2) := by decide +kernel
theorem dX6_isDone_138 : decode cX6_isDone 138 = .ok (.invokevirtual 75, 3) := by decide +kernel
theorem dX6_isDone_141 : decode cX6_isDone 141 = .ok (.istore_n 1, 1) := by decide +kernel
theorem dX6_isDone_142 : decode cX6_isDone 142 = .ok (.iconst 1, 1) := by decide +kernel
theorem dX6_isDone_143 : decode cX6_isDone 143 = .ok (.ireturn, 1) := by decide +kernel
set_option maxRecDepth 20000 in
theorem ggX6_readsProgram_X6_readsDeed : GoodIn wsX6_readsProgram wsX6_readsDeed := goodIn_r _ [10, 11, 1, 12, 2, 13, 14, 15, 16, 17, 18, 9, 19, 5, 20, 21, 22, 23, 24, 25, 26, 27, 28, 29, 30, 125, 126, 127, 128, 129, 130, 131, 132, 133, 134, 135, 136, 137, 138, 139, 140, 141, 142] (by decide +kernel) (by decide +kernel)
set_option maxRecDepth 20000 in
theorem gX6_readsProgram_X6_readsDeed : GoodIn wsX6_readsProgram (wsV RX6 162 RX6 yX6_readsDeed wsX6_readsDeed) := goodIn_app (goodIn_of _ (by decide +kernel)) ggX6_readsProgram_X6_readsDeed
set_option maxRecDepth 20000 in
theorem ggX6_readsProgram_X6_isDone : GoodIn wsX6_readsProgram wsX6_isDone := goodIn_r _ [34, 12, 13, 14, 3, 15, 35, 36, 37, 9, 38, 39, 40, 41, 42, 43, 44, 45, 46, 47, 48, 49, 50, 51, 52, 53, 54, 55, 56, 57, 58, 59, 60, 61, 62, 63, 64, 65, 66, 67, 68, 69, 70, 71, 72, 73, 74, 75, 76, 77, 78, 79, 80, 81, 82, 83, 84, 85, 86, 87, 88, 89, 90, 91, 92, 93, 94, 95, 96, 97, 98, 99, 100, 101, 102, 103, 104, 105, 106, 107, 108, 109, 110, 111, 112, 113, 114, 115, 116, 117, 118, 119, 120, 121, 122, 123, 124, 125, 126, 127, 128, 129, 130, 131, 132, 133, 134, 135, 136, 137, 138, 139, 140, 141, 142] (by decide +kernel) (by decide +kernel)
set_option maxRecDepth 20000 in
theorem gX6_readsProgram_X6_isDone : GoodIn wsX6_readsProgram (wsV RX6 165 RX6 yX6_isDone wsX6_isDone) := goodIn_app (goodIn_of _ (by decide +kernel)) ggX6_readsProgram_X6_isDone
set_option maxRecDepth 20000 in
theorem ggX6_readsProgram_X6_needs : GoodIn wsX6_readsProgram wsX6_needs := goodIn_r _ [30, 1, 2, 16, 17, 18, 9, 19, 5, 11, 20, 21, 22, 125, 126, 127, 128, 129, 130, 131, 132, 133, 134, 135, 136, 137, 138, 139, 140, 141, 142] (by decide +kernel) (by decide +kernel)
set_option maxRecDepth 20000 in
theorem gX6_readsProgram_X6_needs : GoodIn wsX6_readsProgram (wsV RX6 147 RX6 yX6_needs wsX6_needs) := goodIn_app (goodIn_of _ (by decide +kernel)) ggX6_readsProgram_X6_needs
theorem dX6_readsProgram_0 : decode cX6_readsProgram 0 = .ok (.aload_n 0, 1) := by decide +kernel
theorem dX6_readsProgram_1 : decode cX6_readsProgram 1 = .ok (.iconst 0, 1) := by decide +kernel
theorem dX6_readsProgram_2 : decode cX6_readsProgram 2 = .ok (.putfield 132, 3) := by decide +kernel
theorem dX6_readsProgram_5 : decode cX6_readsProgram 5 = .ok (.aload_n 0, 1) := by decide +kernel
theorem dX6_readsProgram_6 : decode cX6_readsProgram 6 = .ok (.iconst 0, 1) := by decide +kernel
theorem dX6_readsProgram_7 : decode cX6_readsProgram 7 = .ok (.putfield 128, 3) := by decide +kernel
theorem dX6_readsProgram_10 : decode cX6_readsProgram 10 = .ok (.aload_n 0, 1) := by decide +kernel
theorem dX6_readsProgram_11 : decode cX6_readsProgram 11 = .ok (.iconst 0, 1) := by decide +kernel
theorem dX6_readsProgram_12 : decode cX6_readsProgram 12 = .ok (.putfield 156, 3) := by decide +kernel
theorem dX6_readsProgram_15 : decode cX6_readsProgram 15 = .ok (.aload_n 0, 1) := by decide +kernel
theorem dX6_readsProgram_16 : decode cX6_readsProgram 16 = .ok (.bipush (-5), 2) := by decide +kernel
theorem dX6_readsProgram_18 : decode cX6_readsProgram 18 = .ok (.putfield 159, 3) := by decide +kernel
theorem dX6_readsProgram_21 : decode cX6_readsProgram 21 = .ok (.iconst 0, 1) := by decide +kernel
theorem dX6_readsProgram_22 : decode cX6_readsProgram 22 = .ok (.istore_n 2, 1) := by decide +kernel
theorem dX6_readsProgram_23 : decode cX6_readsProgram 23 = .ok (.iconst 1, 1) := by decide +kernel
theorem dX6_readsProgram_24 : decode cX6_readsProgram 24 = .ok (.istore_n 3, 1) := by decide +kernel
theorem dX6_readsProgram_25 : decode cX6_readsProgram 25 = .ok (.iload_n 3, 1) := by decide +kernel
theorem dX6_readsProgram_26 : decode cX6_readsProgram 26 = .ok (.ifCond .eq 92, 3) := by decide +kernel
theorem dX6_readsProgram_29 : decode cX6_readsProgram 29 = .ok (.aload_n 0, 1) := by decide +kernel
theorem dX6_readsProgram_30 : decode cX6_readsProgram 30 = .ok (.invokevirtual 162, 3) := by decide +kernel
theorem dX6_readsProgram_33 : decode cX6_readsProgram 33 = .ok (.aload_n 0, 1) := by decide +kernel
theorem dX6_readsProgram_34 : decode cX6_readsProgram 34 = .ok (.iload_n 1, 1) := by decide +kernel
theorem dX6_readsProgram_35 : decode cX6_readsProgram 35 = .ok (.ifCond .eq 14, 3) := by decide +kernel
theorem dX6_readsProgram_38 : decode cX6_readsProgram 38 = .ok (.aload_n 0, 1) := by decide +kernel
theorem dX6_readsProgram_39 : decode cX6_readsProgram 39 = .ok (.invokevirtual 165, 3) := by decide +kernel
theorem dX6_readsProgram_42 : decode cX6_readsProgram 42 = .ok (.ifCond .ne 7, 3) := by decide +kernel
theorem dX6_readsProgram_45 : decode cX6_readsProgram 45 = .ok (.iload_n 2, 1) := by decide +kernel
theorem dX6_readsProgram_46 : decode cX6_readsProgram 46 = .ok (.goto 7, 3) := by decide +kernel
theorem dX6_readsProgram_49 : decode cX6_readsProgram 49 = .ok (.aload_n 0, 1) := by decide +kernel
theorem dX6_readsProgram_50 : decode cX6_readsProgram 50 = .ok (.getfield 159, 3) := by decide +kernel
theorem dX6_readsProgram_53 : decode cX6_readsProgram 53 = .ok (.putfield 159, 3) := by decide +kernel
theorem dX6_readsProgram_56 : decode cX6_readsProgram 56 = .ok (.iinc 2 1, 3) := by decide +kernel
theorem dX6_readsProgram_59 : decode cX6_readsProgram 59 = .ok (.aload_n 0, 1) := by decide +kernel
theorem dX6_readsProgram_60 : decode cX6_readsProgram 60 = .ok (.getfield 128, 3) := by decide +kernel
theorem dX6_readsProgram_63 : decode cX6_readsProgram 63 = .ok (.ifCond .ne 27, 3) := by decide +kernel
theorem dX6_readsProgram_66 : decode cX6_readsProgram 66 = .ok (.aload_n 0, 1) := by decide +kernel
theorem dX6_readsProgram_67 : decode cX6_readsProgram 67 = .ok (.getfield 159, 3) := by decide +kernel
theorem dX6_readsProgram_70 : decode cX6_readsProgram 70 = .ok (.bipush (-5), 2) := by decide +kernel
theorem dX6_readsProgram_72 : decode cX6_readsProgram 72 = .ok (.if_icmp .ne 18, 3) := by decide +kernel
theorem dX6_readsProgram_75 : decode cX6_readsProgram 75 = .ok (.aload_n 0, 1) := by decide +kernel
theorem dX6_readsProgram_76 : decode cX6_readsProgram 76 = .ok (.getfield 132, 3) := by decide +kernel
theorem dX6_readsProgram_79 : decode cX6_readsProgram 79 = .ok (.aload_n 0, 1) := by decide +kernel
theorem dX6_readsProgram_80 : decode cX6_readsProgram 80 = .ok (.getfield 125, 3) := by decide +kernel
theorem dX6_readsProgram_83 : decode cX6_readsProgram 83 = .ok (.if_icmp .ge 7, 3) := by decide +kernel
theorem dX6_readsProgram_86 : decode cX6_readsProgram 86 = .ok (.iconst 1, 1) := by decide +kernel
theorem dX6_readsProgram_87 : decode cX6_readsProgram 87 = .ok (.goto 4, 3) := by decide +kernel
theorem dX6_readsProgram_90 : decode cX6_readsProgram 90 = .ok (.iconst 0, 1) := by decide +kernel
theorem dX6_readsProgram_91 : decode cX6_readsProgram 91 = .ok (.istore_n 3, 1) := by decide +kernel
theorem dX6_readsProgram_92 : decode cX6_readsProgram 92 = .ok (.iload_n 3, 1) := by decide +kernel
theorem dX6_readsProgram_93 : decode cX6_readsProgram 93 = .ok (.ifCond .eq (-68), 3) := by decide +kernel
theorem dX6_readsProgram_96 : decode cX6_readsProgram 96 = .ok (.aload_n 0, 1) := by decide +kernel
theorem dX6_readsProgram_97 : decode cX6_readsProgram 97 = .ok (.bipush 59, 2) := by decide +kernel
theorem dX6_readsProgram_99 : decode cX6_readsProgram 99 = .ok (.invokevirtual 147, 3) := by decide +kernel
theorem dX6_readsProgram_102 : decode cX6_readsProgram 102 = .ok (.aload_n 0, 1) := by decide +kernel
theorem dX6_readsProgram_103 : decode cX6_readsProgram 103 = .ok (.getfield 128, 3) := by decide +kernel
theorem dX6_readsProgram_106 : decode cX6_readsProgram 106 = .ok (.ifCond .ne 7, 3) := by decide +kernel
theorem dX6_readsProgram_109 : decode cX6_readsProgram 109 = .ok (.iconst 1, 1) := by decide +kernel
theorem dX6_readsProgram_110 : decode cX6_readsProgram 110 = .ok (.goto 4, 3) := by decide +kernel
theorem dX6_readsProgram_113 : decode cX6_readsProgram 113 = .ok (.iconst 0, 1) := by decide +kernel
theorem dX6_readsProgram_114 : decode cX6_readsProgram 114 = .ok (.istore_n 3, 1) := by decide +kernel
theorem dX6_readsProgram_115 : decode cX6_readsProgram 115 = .ok (.goto (-90), 3) := by decide +kernel
theorem dX6_readsProgram_118 : decode cX6_readsProgram 118 = .ok (.aload_n 0, 1) := by decide +kernel
theorem dX6_readsProgram_119 : decode cX6_readsProgram 119 = .ok (.getfield 128, 3) := by decide +kernel
theorem dX6_readsProgram_122 : decode cX6_readsProgram 122 = .ok (.ifCond .eq 10, 3) := by decide +kernel
theorem dX6_readsProgram_125 : decode cX6_readsProgram 125 = .ok (.aload_n 0, 1) := by decide +kernel
theorem dX6_readsProgram_126 : decode cX6_readsProgram 126 = .ok (.getfield 132, 3) := by decide +kernel
theorem dX6_readsProgram_129 : decode cX6_readsProgram 129 = .ok (.goto 5, 3) := by decide +kernel
theorem dX6_readsProgram_132 : decode cX6_readsProgram 132 = .ok (.bipush (-5), 2) := by decide +kernel
theorem dX6_readsProgram_134 : decode cX6_readsProgram 134 = .ok (.ireturn, 1) := by decide +kernel
set_option maxRecDepth 20000 in
theorem ggX6_perform_X6_readsProgram : GoodIn wsX6_perform wsX6_readsProgram := goodIn_r _ [11, 12, 13, 1, 2, 14, 15, 16, 17, 10, 18, 19, 20, 21, 22, 23, 24, 25, 26, 27, 28, 29, 30, 31, 32, 33, 34, 35, 36, 37, 38, 39, 40, 41, 42, 43, 44, 45, 46, 3, 47, 48, 49, 50, 51, 52, 53, 54, 55, 56, 57, 58, 59, 60, 61, 62, 63, 64, 65, 66, 67, 68, 69, 70, 71, 72, 73, 74, 75, 76, 77, 78, 79, 80, 81, 82, 83, 84, 85, 86, 87, 88, 89, 90, 91, 92, 93, 94, 95, 96, 97, 98, 99, 100, 101, 102, 103, 104, 105, 106, 107, 108, 109, 110, 111, 112, 113, 114, 115, 116, 117, 118, 119, 120, 121, 122, 123, 124, 125, 126, 127, 128, 129, 130, 131, 146, 147, 148, 149, 150, 151, 152, 153, 154, 155, 156, 157, 158, 159, 160, 161, 162, 163] (by decide +kernel) (by decide +kernel)
set_option maxRecDepth 20000 in
theorem gX6_perform_X6_readsProgram : GoodIn wsX6_perform (wsV RX6 169 RX6 yX6_readsProgram wsX6_readsProgram) := goodIn_app (goodIn_of _ (by decide +kernel)) ggX6_perform_X6_readsProgram
set_option maxRecDepth 20000 in
theorem ggX6_perform_X6_putAside : GoodIn wsX6_perform wsX6_putAside := goodIn_r _ [135, 4, 3, 146, 147, 148, 149, 150, 151, 152, 153, 154, 155, 156, 157, 158, 159, 160, 161, 162, 163] (by decide +kernel) (by decide +kernel)
set_option maxRecDepth 20000 in
theorem gX6_perform_X6_putAside : GoodIn wsX6_perform (wsV RX6 173 RX6 yX6_putAside wsX6_putAside) := goodIn_app (goodIn_of _ (by decide +kernel)) ggX6_perform_X6_putAside
set_option maxRecDepth 20000 in
theorem ggX6_perform_X6_record : GoodIn wsX6_perform wsX6_record := goodIn_r _ [139, 140, 141, 3, 146, 147, 148, 149, 150, 151, 152, 153, 154, 155, 156, 157, 158, 159, 160, 161, 162, 163] (by decide +kernel) (by decide +kernel)
set_option maxRecDepth 20000 in
theorem gX6_perform_X6_record : GoodIn wsX6_perform (wsV RX6 110 RX6 yX6_record wsX6_record) := goodIn_app (goodIn_of _ (by decide +kernel)) ggX6_perform_X6_record
set_option maxRecDepth 20000 in
theorem ggX6_perform_X6_putBack : GoodIn wsX6_perform wsX6_putBack := goodIn_r _ [145, 3, 4, 146, 147, 148, 149, 150, 151, 152, 153, 154, 155, 156, 157, 158, 159, 160, 161, 162, 163] (by decide +kernel) (by decide +kernel)
set_option maxRecDepth 20000 in
theorem gX6_perform_X6_putBack : GoodIn wsX6_perform (wsV RX6 179 RX6 yX6_putBack wsX6_putBack) := goodIn_app (goodIn_of _ (by decide +kernel)) ggX6_perform_X6_putBack
theorem dX6_perform_0 : decode cX6_perform 0 = .ok (.aload_n 0, 1) := by decide +kernel
theorem dX6_perform_1 : decode cX6_perform 1 = .ok (.iconst 0, 1) := by decide +kernel
theorem dX6_perform_2 : decode cX6_perform 2 = .ok (.invokevirtual 169, 3) := by decide +kernel
theorem dX6_perform_5 : decode cX6_perform 5 = .ok (.istore_n 1, 1) := by decide +kernel
theorem dX6_perform_6 : decode cX6_perform 6 = .ok (.iload_n 1, 1) := by decide +kernel
theorem dX6_perform_7 : decode cX6_perform 7 = .ok (.bipush (-5), 2) := by decide +kernel
theorem dX6_perform_9 : decode cX6_perform 9 = .ok (.if_icmp .eq 8, 3) := by decide +kernel
theorem dX6_perform_12 : decode cX6_perform 12 = .ok (.bipush (-100), 2) := by decide +kernel
theorem dX6_perform_14 : decode cX6_perform 14 = .ok (.iload_n 1, 1) := by decide +kernel
theorem dX6_perform_15 : decode cX6_perform 15 = .ok (.isub, 1) := by decide +kernel
theorem dX6_perform_16 : decode cX6_perform 16 = .ok (.ireturn, 1) := by decide +kernel
theorem dX6_perform_17 : decode cX6_perform 17 = .ok (.aload_n 0, 1) := by decide +kernel
theorem dX6_perform_18 : decode cX6_perform 18 = .ok (.invokevirtual 173, 3) := by decide +kernel
theorem dX6_perform_21 : decode cX6_perform 21 = .ok (.aload_n 0, 1) := by decide +kernel
theorem dX6_perform_22 : decode cX6_perform 22 = .ok (.iconst 1, 1) := by decide +kernel
theorem dX6_perform_23 : decode cX6_perform 23 = .ok (.invokevirtual 169, 3) := by decide +kernel
theorem dX6_perform_26 : decode cX6_perform 26 = .ok (.istore_n 1, 1) := by decide +kernel
theorem dX6_perform_27 : decode cX6_perform 27 = .ok (.aload_n 0, 1) := by decide +kernel
theorem dX6_perform_28 : decode cX6_perform 28 = .ok (.getfield 156, 3) := by decide +kernel
theorem dX6_perform_31 : decode cX6_perform 31 = .ok (.istore_n 2, 1) := by decide +kernel
theorem dX6_perform_32 : decode cX6_perform 32 = .ok (.aload_n 0, 1) := by decide +kernel
theorem dX6_perform_33 : decode cX6_perform 33 = .ok (.getfield 159, 3) := by decide +kernel
theorem dX6_perform_36 : decode cX6_perform 36 = .ok (.istore_n 3, 1) := by decide +kernel
theorem dX6_perform_37 : decode cX6_perform 37 = .ok (.iconst 0, 1) := by decide +kernel
theorem dX6_perform_38 : decode cX6_perform 38 = .ok (.istore 4, 2) := by decide +kernel
theorem dX6_perform_40 : decode cX6_perform 40 = .ok (.iload 4, 2) := by decide +kernel
theorem dX6_perform_42 : decode cX6_perform 42 = .ok (.sipush 544, 3) := by decide +kernel
theorem dX6_perform_45 : decode cX6_perform 45 = .ok (.if_icmp .ge 41, 3) := by decide +kernel
theorem dX6_perform_48 : decode cX6_perform 48 = .ok (.aload_n 0, 1) := by decide +kernel
theorem dX6_perform_49 : decode cX6_perform 49 = .ok (.getfield 7, 3) := by decide +kernel
theorem dX6_perform_52 : decode cX6_perform 52 = .ok (.iload 4, 2) := by decide +kernel
theorem dX6_perform_54 : decode cX6_perform 54 = .ok (.iaload, 1) := by decide +kernel
theorem dX6_perform_55 : decode cX6_perform 55 = .ok (.istore 5, 2) := by decide +kernel
theorem dX6_perform_57 : decode cX6_perform 57 = .ok (.aload_n 0, 1) := by decide +kernel
theorem dX6_perform_58 : decode cX6_perform 58 = .ok (.getfield 7, 3) := by decide +kernel
theorem dX6_perform_61 : decode cX6_perform 61 = .ok (.iload 4, 2) := by decide +kernel
theorem dX6_perform_63 : decode cX6_perform 63 = .ok (.aload_n 0, 1) := by decide +kernel
theorem dX6_perform_64 : decode cX6_perform 64 = .ok (.getfield 13, 3) := by decide +kernel
theorem dX6_perform_67 : decode cX6_perform 67 = .ok (.iload 4, 2) := by decide +kernel
theorem dX6_perform_69 : decode cX6_perform 69 = .ok (.iaload, 1) := by decide +kernel
theorem dX6_perform_70 : decode cX6_perform 70 = .ok (.iastore, 1) := by decide +kernel
theorem dX6_perform_71 : decode cX6_perform 71 = .ok (.aload_n 0, 1) := by decide +kernel
theorem dX6_perform_72 : decode cX6_perform 72 = .ok (.getfield 13, 3) := by decide +kernel
theorem dX6_perform_75 : decode cX6_perform 75 = .ok (.iload 4, 2) := by decide +kernel
theorem dX6_perform_77 : decode cX6_perform 77 = .ok (.iload 5, 2) := by decide +kernel
theorem dX6_perform_79 : decode cX6_perform 79 = .ok (.iastore, 1) := by decide +kernel
theorem dX6_perform_80 : decode cX6_perform 80 = .ok (.iinc 4 1, 3) := by decide +kernel
theorem dX6_perform_83 : decode cX6_perform 83 = .ok (.goto (-43), 3) := by decide +kernel
theorem dX6_perform_86 : decode cX6_perform 86 = .ok (.iload_n 3, 1) := by decide +kernel
theorem dX6_perform_87 : decode cX6_perform 87 = .ok (.bipush (-5), 2) := by decide +kernel
theorem dX6_perform_89 : decode cX6_perform 89 = .ok (.if_icmp .eq 17, 3) := by decide +kernel
theorem dX6_perform_92 : decode cX6_perform 92 = .ok (.aload_n 0, 1) := by decide +kernel
theorem dX6_perform_93 : decode cX6_perform 93 = .ok (.iload_n 3, 1) := by decide +kernel
theorem dX6_perform_94 : decode cX6_perform 94 = .ok (.putfield 25, 3) := by decide +kernel
theorem dX6_perform_97 : decode cX6_perform 97 = .ok (.aload_n 0, 1) := by decide +kernel
theorem dX6_perform_98 : decode cX6_perform 98 = .ok (.bipush (-4), 2) := by decide +kernel
theorem dX6_perform_100 : decode cX6_perform 100 = .ok (.putfield 176, 3) := by decide +kernel
theorem dX6_perform_103 : decode cX6_perform 103 = .ok (.bipush (-4), 2) := by decide +kernel
theorem dX6_perform_105 : decode cX6_perform 105 = .ok (.ireturn, 1) := by decide +kernel
theorem dX6_perform_106 : decode cX6_perform 106 = .ok (.aload_n 0, 1) := by decide +kernel
theorem dX6_perform_107 : decode cX6_perform 107 = .ok (.invokevirtual 110, 3) := by decide +kernel
theorem dX6_perform_110 : decode cX6_perform 110 = .ok (.aload_n 0, 1) := by decide +kernel
theorem dX6_perform_111 : decode cX6_perform 111 = .ok (.invokevirtual 179, 3) := by decide +kernel
theorem dX6_perform_114 : decode cX6_perform 114 = .ok (.iload_n 2, 1) := by decide +kernel
theorem dX6_perform_115 : decode cX6_perform 115 = .ok (.ireturn, 1) := by decide +kernel
set_option maxRecDepth 20000 in
theorem ggX6_stopped_X6_in : GoodIn wsX6_stopped wsX6_in := goodIn_r _ [6] (by decide +kernel) (by decide +kernel)
set_option maxRecDepth 20000 in
theorem gX6_stopped_X6_in : GoodIn wsX6_stopped (va_wsS RX6 29 yX6_in wsX6_in) := goodIn_app (goodIn_of _ (by decide +kernel)) ggX6_stopped_X6_in
theorem dX6_stopped_0 : decode cX6_stopped 0 = .ok (.iload_n 1, 1) := by decide +kernel
theorem dX6_stopped_1 : decode cX6_stopped 1 = .ok (.iconst 0, 1) := by decide +kernel
theorem dX6_stopped_2 : decode cX6_stopped 2 = .ok (.iconst 1, 1) := by decide +kernel
theorem dX6_stopped_3 : decode cX6_stopped 3 = .ok (.invokestatic 29, 3) := by decide +kernel
theorem dX6_stopped_6 : decode cX6_stopped 6 = .ok (.ifCond .ne 6, 3) := by decide +kernel
theorem dX6_stopped_9 : decode cX6_stopped 9 = .ok (.bipush (-2), 2) := by decide +kernel
theorem dX6_stopped_11 : decode cX6_stopped 11 = .ok (.ireturn, 1) := by decide +kernel
theorem dX6_stopped_12 : decode cX6_stopped 12 = .ok (.aload_n 0, 1) := by decide +kernel
theorem dX6_stopped_13 : decode cX6_stopped 13 = .ok (.getfield 25, 3) := by decide +kernel
theorem dX6_stopped_16 : decode cX6_stopped 16 = .ok (.bipush (-5), 2) := by decide +kernel
theorem dX6_stopped_18 : decode cX6_stopped 18 = .ok (.if_icmp .ne 8, 3) := by decide +kernel
theorem dX6_stopped_21 : decode cX6_stopped 21 = .ok (.bipush (-5), 2) := by decide +kernel
theorem dX6_stopped_23 : decode cX6_stopped 23 = .ok (.goto 18, 3) := by decide +kernel
theorem dX6_stopped_26 : decode cX6_stopped 26 = .ok (.iload_n 1, 1) := by decide +kernel
theorem dX6_stopped_27 : decode cX6_stopped 27 = .ok (.ifCond .ne 10, 3) := by decide +kernel
theorem dX6_stopped_30 : decode cX6_stopped 30 = .ok (.aload_n 0, 1) := by decide +kernel
theorem dX6_stopped_31 : decode cX6_stopped 31 = .ok (.getfield 25, 3) := by decide +kernel
theorem dX6_stopped_34 : decode cX6_stopped 34 = .ok (.goto 7, 3) := by decide +kernel
theorem dX6_stopped_37 : decode cX6_stopped 37 = .ok (.aload_n 0, 1) := by decide +kernel
theorem dX6_stopped_38 : decode cX6_stopped 38 = .ok (.getfield 176, 3) := by decide +kernel
theorem dX6_stopped_41 : decode cX6_stopped 41 = .ok (.ireturn, 1) := by decide +kernel
set_option maxRecDepth 20000 in
theorem ggX6_lines_X6_linesOf : GoodIn wsX6_lines wsX6_linesOf := goodIn_r _ [5, 6, 7, 8, 9, 10, 11, 12, 13, 14, 15, 16, 17, 18, 19, 20, 21, 22, 23, 24] (by decide +kernel) (by decide +kernel)
set_option maxRecDepth 20000 in
theorem gX6_lines_X6_linesOf : GoodIn wsX6_lines (wsV RX6 96 RX6 yX6_linesOf wsX6_linesOf) := goodIn_app (goodIn_of _ (by decide +kernel)) ggX6_lines_X6_linesOf
theorem dX6_lines_0 : decode cX6_lines 0 = .ok (.aload_n 0, 1) := by decide +kernel
theorem dX6_lines_1 : decode cX6_lines 1 = .ok (.iconst 0, 1) := by decide +kernel
theorem dX6_lines_2 : decode cX6_lines 2 = .ok (.invokevirtual 96, 3) := by decide +kernel
theorem dX6_lines_5 : decode cX6_lines 5 = .ok (.aload_n 0, 1) := by decide +kernel
theorem dX6_lines_6 : decode cX6_lines 6 = .ok (.iconst 1, 1) := by decide +kernel
theorem dX6_lines_7 : decode cX6_lines 7 = .ok (.invokevirtual 96, 3) := by decide +kernel
theorem dX6_lines_10 : decode cX6_lines 10 = .ok (.iadd, 1) := by decide +kernel
theorem dX6_lines_11 : decode cX6_lines 11 = .ok (.aload_n 0, 1) := by decide +kernel
theorem dX6_lines_12 : decode cX6_lines 12 = .ok (.iconst 2, 1) := by decide +kernel
theorem dX6_lines_13 : decode cX6_lines 13 = .ok (.invokevirtual 96, 3) := by decide +kernel
theorem dX6_lines_16 : decode cX6_lines 16 = .ok (.iadd, 1) := by decide +kernel
theorem dX6_lines_17 : decode cX6_lines 17 = .ok (.aload_n 0, 1) := by decide +kernel
theorem dX6_lines_18 : decode cX6_lines 18 = .ok (.iconst 3, 1) := by decide +kernel
theorem dX6_lines_19 : decode cX6_lines 19 = .ok (.invokevirtual 96, 3) := by decide +kernel
theorem dX6_lines_22 : decode cX6_lines 22 = .ok (.iadd, 1) := by decide +kernel
theorem dX6_lines_23 : decode cX6_lines 23 = .ok (.ireturn, 1) := by decide +kernel
theorem dX6_undo_0 : decode cX6_undo 0 = .ok (.aload_n 0, 1) := by decide +kernel
theorem dX6_undo_1 : decode cX6_undo 1 = .ok (.getfield 33, 3) := by decide +kernel
theorem dX6_undo_4 : decode cX6_undo 4 = .ok (.ifCond .ne 6, 3) := by decide +kernel
theorem dX6_undo_7 : decode cX6_undo 7 = .ok (.bipush (-5), 2) := by decide +kernel
theorem dX6_undo_9 : decode cX6_undo 9 = .ok (.ireturn, 1) := by decide +kernel
theorem dX6_undo_10 : decode cX6_undo 10 = .ok (.aload_n 0, 1) := by decide +kernel
theorem dX6_undo_11 : decode cX6_undo 11 = .ok (.dup, 1) := by decide +kernel
theorem dX6_undo_12 : decode cX6_undo 12 = .ok (.getfield 33, 3) := by decide +kernel
theorem dX6_undo_15 : decode cX6_undo 15 = .ok (.iconst 1, 1) := by decide +kernel
theorem dX6_undo_16 : decode cX6_undo 16 = .ok (.isub, 1) := by decide +kernel
theorem dX6_undo_17 : decode cX6_undo 17 = .ok (.putfield 33, 3) := by decide +kernel
theorem dX6_undo_20 : decode cX6_undo 20 = .ok (.iconst 0, 1) := by decide +kernel
theorem dX6_undo_21 : decode cX6_undo 21 = .ok (.istore_n 1, 1) := by decide +kernel
theorem dX6_undo_22 : decode cX6_undo 22 = .ok (.iload_n 1, 1) := by decide +kernel
theorem dX6_undo_23 : decode cX6_undo 23 = .ok (.sipush 544, 3) := by decide +kernel
theorem dX6_undo_26 : decode cX6_undo 26 = .ok (.if_icmp .ge 30, 3) := by decide +kernel
theorem dX6_undo_29 : decode cX6_undo 29 = .ok (.aload_n 0, 1) := by decide +kernel
theorem dX6_undo_30 : decode cX6_undo 30 = .ok (.getfield 7, 3) := by decide +kernel
theorem dX6_undo_33 : decode cX6_undo 33 = .ok (.iload_n 1, 1) := by decide +kernel
theorem dX6_undo_34 : decode cX6_undo 34 = .ok (.aload_n 0, 1) := by decide +kernel
theorem dX6_undo_35 : decode cX6_undo 35 = .ok (.getfield 16, 3) := by decide +kernel
theorem dX6_undo_38 : decode cX6_undo 38 = .ok (.sipush 544, 3) := by decide +kernel
theorem dX6_undo_41 : decode cX6_undo 41 = .ok (.aload_n 0, 1) := by decide +kernel
theorem dX6_undo_42 : decode cX6_undo 42 = .ok (.getfield 33, 3) := by decide +kernel
theorem dX6_undo_45 : decode cX6_undo 45 = .ok (.imul, 1) := by decide +kernel
theorem dX6_undo_46 : decode cX6_undo 46 = .ok (.iload_n 1, 1) := by decide +kernel
theorem dX6_undo_47 : decode cX6_undo 47 = .ok (.iadd, 1) := by decide +kernel
theorem dX6_undo_48 : decode cX6_undo 48 = .ok (.iaload, 1) := by decide +kernel
theorem dX6_undo_49 : decode cX6_undo 49 = .ok (.iastore, 1) := by decide +kernel
theorem dX6_undo_50 : decode cX6_undo 50 = .ok (.iinc 1 1, 3) := by decide +kernel
theorem dX6_undo_53 : decode cX6_undo 53 = .ok (.goto (-31), 3) := by decide +kernel
theorem dX6_undo_56 : decode cX6_undo 56 = .ok (.aload_n 0, 1) := by decide +kernel
theorem dX6_undo_57 : decode cX6_undo 57 = .ok (.getfield 33, 3) := by decide +kernel
theorem dX6_undo_60 : decode cX6_undo 60 = .ok (.ireturn, 1) := by decide +kernel
set_option maxRecDepth 20000 in
theorem ggX6_keep_X6_lines : GoodIn wsX6_keep wsX6_lines := goodIn_r _ [8, 9, 10, 11, 7, 12, 2, 13, 14, 15, 16, 17, 18, 19, 20, 21, 22, 23, 24, 25, 26, 27, 28, 29, 30] (by decide +kernel) (by decide +kernel)
set_option maxRecDepth 20000 in
theorem gX6_keep_X6_lines : GoodIn wsX6_keep (wsV RX6 185 RX6 yX6_lines wsX6_lines) := goodIn_app (goodIn_of _ (by decide +kernel)) ggX6_keep_X6_lines
theorem dX6_keep_0 : decode cX6_keep 0 = .ok (.iconst 0, 1) := by decide +kernel
theorem dX6_keep_1 : decode cX6_keep 1 = .ok (.istore_n 1, 1) := by decide +kernel
theorem dX6_keep_2 : decode cX6_keep 2 = .ok (.iload_n 1, 1) := by decide +kernel
theorem dX6_keep_3 : decode cX6_keep 3 = .ok (.sipush 544, 3) := by decide +kernel
theorem dX6_keep_6 : decode cX6_keep 6 = .ok (.if_icmp .ge 21, 3) := by decide +kernel
theorem dX6_keep_9 : decode cX6_keep 9 = .ok (.aload_n 0, 1) := by decide +kernel
theorem dX6_keep_10 : decode cX6_keep 10 = .ok (.getfield 19, 3) := by decide +kernel
theorem dX6_keep_13 : decode cX6_keep 13 = .ok (.iload_n 1, 1) := by decide +kernel
theorem dX6_keep_14 : decode cX6_keep 14 = .ok (.aload_n 0, 1) := by decide +kernel
theorem dX6_keep_15 : decode cX6_keep 15 = .ok (.getfield 7, 3) := by decide +kernel
theorem dX6_keep_18 : decode cX6_keep 18 = .ok (.iload_n 1, 1) := by decide +kernel
theorem dX6_keep_19 : decode cX6_keep 19 = .ok (.iaload, 1) := by decide +kernel
theorem dX6_keep_20 : decode cX6_keep 20 = .ok (.iastore, 1) := by decide +kernel
theorem dX6_keep_21 : decode cX6_keep 21 = .ok (.iinc 1 1, 3) := by decide +kernel
theorem dX6_keep_24 : decode cX6_keep 24 = .ok (.goto (-22), 3) := by decide +kernel
theorem dX6_keep_27 : decode cX6_keep 27 = .ok (.aload_n 0, 1) := by decide +kernel
theorem dX6_keep_28 : decode cX6_keep 28 = .ok (.iconst 1, 1) := by decide +kernel
theorem dX6_keep_29 : decode cX6_keep 29 = .ok (.putfield 182, 3) := by decide +kernel
theorem dX6_keep_32 : decode cX6_keep 32 = .ok (.aload_n 0, 1) := by decide +kernel
theorem dX6_keep_33 : decode cX6_keep 33 = .ok (.invokevirtual 185, 3) := by decide +kernel
theorem dX6_keep_36 : decode cX6_keep 36 = .ok (.ireturn, 1) := by decide +kernel
set_option maxRecDepth 20000 in
theorem ggX6_restore_X6_record : GoodIn wsX6_restore wsX6_record := goodIn_r _ [8, 9, 10, 2, 19, 20, 21, 22, 23, 24, 25, 26, 27, 28, 29, 30, 31, 32, 33, 34, 35, 36] (by decide +kernel) (by decide +kernel)
set_option maxRecDepth 20000 in
theorem gX6_restore_X6_record : GoodIn wsX6_restore (wsV RX6 110 RX6 yX6_record wsX6_record) := goodIn_app (goodIn_of _ (by decide +kernel)) ggX6_restore_X6_record
set_option maxRecDepth 20000 in
theorem ggX6_restore_X6_lines : GoodIn wsX6_restore wsX6_lines := goodIn_r _ [14, 15, 16, 17, 7, 18, 2, 19, 20, 21, 22, 23, 24, 25, 26, 27, 28, 29, 30, 31, 32, 33, 34, 35, 36] (by decide +kernel) (by decide +kernel)
set_option maxRecDepth 20000 in
theorem gX6_restore_X6_lines : GoodIn wsX6_restore (wsV RX6 185 RX6 yX6_lines wsX6_lines) := goodIn_app (goodIn_of _ (by decide +kernel)) ggX6_restore_X6_lines
theorem dX6_restore_0 : decode cX6_restore 0 = .ok (.aload_n 0, 1) := by decide +kernel
theorem dX6_restore_1 : decode cX6_restore 1 = .ok (.getfield 182, 3) := by decide +kernel
theorem dX6_restore_4 : decode cX6_restore 4 = .ok (.ifCond .ne 6, 3) := by decide +kernel
theorem dX6_restore_7 : decode cX6_restore 7 = .ok (.bipush (-5), 2) := by decide +kernel
theorem dX6_restore_9 : decode cX6_restore 9 = .ok (.ireturn, 1) := by decide +kernel
theorem dX6_restore_10 : decode cX6_restore 10 = .ok (.aload_n 0, 1) := by decide +kernel
theorem dX6_restore_11 : decode cX6_restore 11 = .ok (.invokevirtual 110, 3) := by decide +kernel
theorem dX6_restore_14 : decode cX6_restore 14 = .ok (.iconst 0, 1) := by decide +kernel
theorem dX6_restore_15 : decode cX6_restore 15 = .ok (.istore_n 1, 1) := by decide +kernel
theorem dX6_restore_16 : decode cX6_restore 16 = .ok (.iload_n 1, 1) := by decide +kernel
theorem dX6_restore_17 : decode cX6_restore 17 = .ok (.sipush 544, 3) := by decide +kernel
theorem dX6_restore_20 : decode cX6_restore 20 = .ok (.if_icmp .ge 21, 3) := by decide +kernel
theorem dX6_restore_23 : decode cX6_restore 23 = .ok (.aload_n 0, 1) := by decide +kernel
theorem dX6_restore_24 : decode cX6_restore 24 = .ok (.getfield 7, 3) := by decide +kernel
theorem dX6_restore_27 : decode cX6_restore 27 = .ok (.iload_n 1, 1) := by decide +kernel
theorem dX6_restore_28 : decode cX6_restore 28 = .ok (.aload_n 0, 1) := by decide +kernel
theorem dX6_restore_29 : decode cX6_restore 29 = .ok (.getfield 19, 3) := by decide +kernel
theorem dX6_restore_32 : decode cX6_restore 32 = .ok (.iload_n 1, 1) := by decide +kernel
theorem dX6_restore_33 : decode cX6_restore 33 = .ok (.iaload, 1) := by decide +kernel
theorem dX6_restore_34 : decode cX6_restore 34 = .ok (.iastore, 1) := by decide +kernel
theorem dX6_restore_35 : decode cX6_restore 35 = .ok (.iinc 1 1, 3) := by decide +kernel
theorem dX6_restore_38 : decode cX6_restore 38 = .ok (.goto (-22), 3) := by decide +kernel
theorem dX6_restore_41 : decode cX6_restore 41 = .ok (.aload_n 0, 1) := by decide +kernel
theorem dX6_restore_42 : decode cX6_restore 42 = .ok (.invokevirtual 185, 3) := by decide +kernel
theorem dX6_restore_45 : decode cX6_restore 45 = .ok (.ireturn, 1) := by decide +kernel
theorem dX6_dirtyOf_0 : decode cX6_dirtyOf 0 = .ok (.iconst 0, 1) := by decide +kernel
theorem dX6_dirtyOf_1 : decode cX6_dirtyOf 1 = .ok (.istore_n 2, 1) := by decide +kernel
theorem dX6_dirtyOf_2 : decode cX6_dirtyOf 2 = .ok (.bipush 8, 2) := by decide +kernel
theorem dX6_dirtyOf_4 : decode cX6_dirtyOf 4 = .ok (.iload_n 1, 1) := by decide +kernel
theorem dX6_dirtyOf_5 : decode cX6_dirtyOf 5 = .ok (.imul, 1) := by decide +kernel
theorem dX6_dirtyOf_6 : decode cX6_dirtyOf 6 = .ok (.istore_n 3, 1) := by decide +kernel
theorem dX6_dirtyOf_7 : decode cX6_dirtyOf 7 = .ok (.iload_n 3, 1) := by decide +kernel
theorem dX6_dirtyOf_8 : decode cX6_dirtyOf 8 = .ok (.bipush 8, 2) := by decide +kernel
theorem dX6_dirtyOf_10 : decode cX6_dirtyOf 10 = .ok (.iload_n 1, 1) := by decide +kernel
theorem dX6_dirtyOf_11 : decode cX6_dirtyOf 11 = .ok (.imul, 1) := by decide +kernel
theorem dX6_dirtyOf_12 : decode cX6_dirtyOf 12 = .ok (.bipush 8, 2) := by decide +kernel
theorem dX6_dirtyOf_14 : decode cX6_dirtyOf 14 = .ok (.iadd, 1) := by decide +kernel
theorem dX6_dirtyOf_15 : decode cX6_dirtyOf 15 = .ok (.if_icmp .ge 22, 3) := by decide +kernel
theorem dX6_dirtyOf_18 : decode cX6_dirtyOf 18 = .ok (.iload_n 2, 1) := by decide +kernel
theorem dX6_dirtyOf_19 : decode cX6_dirtyOf 19 = .ok (.aload_n 0, 1) := by decide +kernel
theorem dX6_dirtyOf_20 : decode cX6_dirtyOf 20 = .ok (.getfield 7, 3) := by decide +kernel
theorem dX6_dirtyOf_23 : decode cX6_dirtyOf 23 = .ok (.sipush 320, 3) := by decide +kernel
theorem dX6_dirtyOf_26 : decode cX6_dirtyOf 26 = .ok (.iload_n 3, 1) := by decide +kernel
theorem dX6_dirtyOf_27 : decode cX6_dirtyOf 27 = .ok (.iadd, 1) := by decide +kernel
theorem dX6_dirtyOf_28 : decode cX6_dirtyOf 28 = .ok (.iaload, 1) := by decide +kernel
theorem dX6_dirtyOf_29 : decode cX6_dirtyOf 29 = .ok (.iadd, 1) := by decide +kernel
theorem dX6_dirtyOf_30 : decode cX6_dirtyOf 30 = .ok (.istore_n 2, 1) := by decide +kernel
theorem dX6_dirtyOf_31 : decode cX6_dirtyOf 31 = .ok (.iinc 3 1, 3) := by decide +kernel
theorem dX6_dirtyOf_34 : decode cX6_dirtyOf 34 = .ok (.goto (-27), 3) := by decide +kernel
theorem dX6_dirtyOf_37 : decode cX6_dirtyOf 37 = .ok (.iload_n 2, 1) := by decide +kernel
theorem dX6_dirtyOf_38 : decode cX6_dirtyOf 38 = .ok (.ireturn, 1) := by decide +kernel
set_option maxRecDepth 20000 in
theorem ggX6_core_X6_isCore : GoodIn wsX6_core wsX6_isCore := goodIn_r _ [5, 6, 7, 4, 8] (by decide +kernel) (by decide +kernel)
set_option maxRecDepth 20000 in
theorem gX6_core_X6_isCore : GoodIn wsX6_core (va_wsS RX6 103 yX6_isCore wsX6_isCore) := goodIn_app (goodIn_of _ (by decide +kernel)) ggX6_core_X6_isCore
set_option maxRecDepth 20000 in
theorem ggX6_core_X6_linesOf : GoodIn wsX6_core wsX6_linesOf := goodIn_r _ [12, 1, 32, 33, 34, 35, 36, 37, 38, 39, 40, 41, 42, 43, 44, 45, 46, 47, 48, 49] (by decide +kernel) (by decide +kernel)
set_option maxRecDepth 20000 in
theorem gX6_core_X6_linesOf : GoodIn wsX6_core (wsV RX6 96 RX6 yX6_linesOf wsX6_linesOf) := goodIn_app (goodIn_of _ (by decide +kernel)) ggX6_core_X6_linesOf
set_option maxRecDepth 20000 in
theorem ggX6_core_X6_dirtyOf : GoodIn wsX6_core wsX6_dirtyOf := goodIn_r _ [16, 1, 32, 33, 34, 35, 36, 37, 38, 39, 40, 41, 42, 43, 44, 45, 46, 47, 48, 49] (by decide +kernel) (by decide +kernel)
set_option maxRecDepth 20000 in
theorem gX6_core_X6_dirtyOf : GoodIn wsX6_core (wsV RX6 189 RX6 yX6_dirtyOf wsX6_dirtyOf) := goodIn_app (goodIn_of _ (by decide +kernel)) ggX6_core_X6_dirtyOf
set_option maxRecDepth 20000 in
theorem ggX6_core_X6_countersFrom : GoodIn wsX6_core wsX6_countersFrom := goodIn_r _ [20, 1, 32, 33, 34, 35, 36, 37, 38, 39, 40, 41, 42, 43, 44, 45, 46, 47, 48, 49] (by decide +kernel) (by decide +kernel)
set_option maxRecDepth 20000 in
theorem gX6_core_X6_countersFrom : GoodIn wsX6_core (wsV RX6 72 RX6 yX6_countersFrom wsX6_countersFrom) := goodIn_app (goodIn_of _ (by decide +kernel)) ggX6_core_X6_countersFrom
set_option maxRecDepth 20000 in
theorem ggX6_core_X6_stuckOf : GoodIn wsX6_core wsX6_stuckOf := goodIn_r _ [24, 1, 32, 33, 34, 35, 36, 37, 38, 39, 40, 41, 42, 43, 44, 45, 46, 47, 48, 49] (by decide +kernel) (by decide +kernel)
set_option maxRecDepth 20000 in
theorem gX6_core_X6_stuckOf : GoodIn wsX6_core (wsV RX6 192 RX6 yX6_stuckOf wsX6_stuckOf) := goodIn_app (goodIn_of _ (by decide +kernel)) ggX6_core_X6_stuckOf
set_option maxRecDepth 20000 in
theorem ggX6_core_X6_bits : GoodIn wsX6_core wsX6_bits := goodIn_r _ [28, 1, 32, 33, 34, 35, 36, 37, 38, 39, 40, 41, 42, 43, 44, 45, 46, 47, 48, 49] (by decide +kernel) (by decide +kernel)
set_option maxRecDepth 20000 in
theorem gX6_core_X6_bits : GoodIn wsX6_core (wsV RX6 100 RX6 yX6_bits wsX6_bits) := goodIn_app (goodIn_of _ (by decide +kernel)) ggX6_core_X6_bits
set_option maxRecDepth 20000 in
theorem ggX6_core_X6_told : GoodIn wsX6_core wsX6_told := goodIn_r _ [31] (by decide +kernel) (by decide +kernel)
set_option maxRecDepth 20000 in
theorem gX6_core_X6_told : GoodIn wsX6_core (va_wsS RX6 66 yX6_told wsX6_told) := goodIn_app (goodIn_of _ (by decide +kernel)) ggX6_core_X6_told
theorem dX6_core_0 : decode cX6_core 0 = .ok (.iload_n 1, 1) := by decide +kernel
theorem dX6_core_1 : decode cX6_core 1 = .ok (.invokestatic 103, 3) := by decide +kernel
theorem dX6_core_4 : decode cX6_core 4 = .ok (.ifCond .ne 5, 3) := by decide +kernel
theorem dX6_core_7 : decode cX6_core 7 = .ok (.iconst (-1), 1) := by decide +kernel
theorem dX6_core_8 : decode cX6_core 8 = .ok (.ireturn, 1) := by decide +kernel
theorem dX6_core_9 : decode cX6_core 9 = .ok (.iload_n 2, 1) := by decide +kernel
theorem dX6_core_10 : decode cX6_core 10 = .ok (.tableswitch 102 0 10 #[58, 64, 70, 77, 83, 89, 89, 89, 89, 89, 89], 58) := by decide +kernel
theorem dX6_core_68 : decode cX6_core 68 = .ok (.aload_n 0, 1) := by decide +kernel
theorem dX6_core_69 : decode cX6_core 69 = .ok (.iload_n 1, 1) := by decide +kernel
theorem dX6_core_70 : decode cX6_core 70 = .ok (.invokevirtual 96, 3) := by decide +kernel
theorem dX6_core_73 : decode cX6_core 73 = .ok (.ireturn, 1) := by decide +kernel
theorem dX6_core_74 : decode cX6_core 74 = .ok (.aload_n 0, 1) := by decide +kernel
theorem dX6_core_75 : decode cX6_core 75 = .ok (.iload_n 1, 1) := by decide +kernel
theorem dX6_core_76 : decode cX6_core 76 = .ok (.invokevirtual 189, 3) := by decide +kernel
theorem dX6_core_79 : decode cX6_core 79 = .ok (.ireturn, 1) := by decide +kernel
theorem dX6_core_80 : decode cX6_core 80 = .ok (.aload_n 0, 1) := by decide +kernel
theorem dX6_core_81 : decode cX6_core 81 = .ok (.iload_n 1, 1) := by decide +kernel
theorem dX6_core_82 : decode cX6_core 82 = .ok (.iconst 1, 1) := by decide +kernel
theorem dX6_core_83 : decode cX6_core 83 = .ok (.invokevirtual 72, 3) := by decide +kernel
theorem dX6_core_86 : decode cX6_core 86 = .ok (.ireturn, 1) := by decide +kernel
theorem dX6_core_87 : decode cX6_core 87 = .ok (.aload_n 0, 1) := by decide +kernel
theorem dX6_core_88 : decode cX6_core 88 = .ok (.iload_n 1, 1) := by decide +kernel
theorem dX6_core_89 : decode cX6_core 89 = .ok (.invokevirtual 192, 3) := by decide +kernel
theorem dX6_core_92 : decode cX6_core 92 = .ok (.ireturn, 1) := by decide +kernel
theorem dX6_core_93 : decode cX6_core 93 = .ok (.aload_n 0, 1) := by decide +kernel
theorem dX6_core_94 : decode cX6_core 94 = .ok (.iload_n 1, 1) := by decide +kernel
theorem dX6_core_95 : decode cX6_core 95 = .ok (.invokevirtual 100, 3) := by decide +kernel
theorem dX6_core_98 : decode cX6_core 98 = .ok (.ireturn, 1) := by decide +kernel
theorem dX6_core_99 : decode cX6_core 99 = .ok (.aload_n 0, 1) := by decide +kernel
theorem dX6_core_100 : decode cX6_core 100 = .ok (.getfield 7, 3) := by decide +kernel
theorem dX6_core_103 : decode cX6_core 103 = .ok (.iload_n 1, 1) := by decide +kernel
theorem dX6_core_104 : decode cX6_core 104 = .ok (.iload_n 2, 1) := by decide +kernel
theorem dX6_core_105 : decode cX6_core 105 = .ok (.iconst 5, 1) := by decide +kernel
theorem dX6_core_106 : decode cX6_core 106 = .ok (.isub, 1) := by decide +kernel
theorem dX6_core_107 : decode cX6_core 107 = .ok (.invokestatic 66, 3) := by decide +kernel
theorem dX6_core_110 : decode cX6_core 110 = .ok (.iaload, 1) := by decide +kernel
theorem dX6_core_111 : decode cX6_core 111 = .ok (.ireturn, 1) := by decide +kernel
theorem dX6_core_112 : decode cX6_core 112 = .ok (.bipush (-2), 2) := by decide +kernel
theorem dX6_core_114 : decode cX6_core 114 = .ok (.ireturn, 1) := by decide +kernel
set_option maxRecDepth 20000 in
theorem ggX6_held_X6_isCore : GoodIn wsX6_held wsX6_isCore := goodIn_r _ [5, 6, 7, 4, 8] (by decide +kernel) (by decide +kernel)
set_option maxRecDepth 20000 in
theorem gX6_held_X6_isCore : GoodIn wsX6_held (va_wsS RX6 103 yX6_isCore wsX6_isCore) := goodIn_app (goodIn_of _ (by decide +kernel)) ggX6_held_X6_isCore
set_option maxRecDepth 20000 in
theorem ggX6_held_X6_in : GoodIn wsX6_held wsX6_in := goodIn_r _ [8] (by decide +kernel) (by decide +kernel)
set_option maxRecDepth 20000 in
theorem gX6_held_X6_in : GoodIn wsX6_held (va_wsS RX6 29 yX6_in wsX6_in) := goodIn_app (goodIn_of _ (by decide +kernel)) ggX6_held_X6_in
theorem dX6_held_0 : decode cX6_held 0 = .ok (.iload_n 1, 1) := by decide +kernel
theorem dX6_held_1 : decode cX6_held 1 = .ok (.invokestatic 103, 3) := by decide +kernel
theorem dX6_held_4 : decode cX6_held 4 = .ok (.ifCond .ne 5, 3) := by decide +kernel
theorem dX6_held_7 : decode cX6_held 7 = .ok (.iconst (-1), 1) := by decide +kernel
theorem dX6_held_8 : decode cX6_held 8 = .ok (.ireturn, 1) := by decide +kernel
theorem dX6_held_9 : decode cX6_held 9 = .ok (.iload_n 2, 1) := by decide +kernel
theorem dX6_held_10 : decode cX6_held 10 = .ok (.iconst 0, 1) := by decide +kernel
theorem dX6_held_11 : decode cX6_held 11 = .ok (.bipush 7, 2) := by decide +kernel
theorem dX6_held_13 : decode cX6_held 13 = .ok (.invokestatic 29, 3) := by decide +kernel
theorem dX6_held_16 : decode cX6_held 16 = .ok (.ifCond .eq 12, 3) := by decide +kernel
theorem dX6_held_19 : decode cX6_held 19 = .ok (.iload_n 3, 1) := by decide +kernel
theorem dX6_held_20 : decode cX6_held 20 = .ok (.iconst 0, 1) := by decide +kernel
theorem dX6_held_21 : decode cX6_held 21 = .ok (.iconst 2, 1) := by decide +kernel
theorem dX6_held_22 : decode cX6_held 22 = .ok (.invokestatic 29, 3) := by decide +kernel
theorem dX6_held_25 : decode cX6_held 25 = .ok (.ifCond .ne 6, 3) := by decide +kernel
theorem dX6_held_28 : decode cX6_held 28 = .ok (.bipush (-2), 2) := by decide +kernel
theorem dX6_held_30 : decode cX6_held 30 = .ok (.ireturn, 1) := by decide +kernel
theorem dX6_held_31 : decode cX6_held 31 = .ok (.bipush 8, 2) := by decide +kernel
theorem dX6_held_33 : decode cX6_held 33 = .ok (.iload_n 1, 1) := by decide +kernel
theorem dX6_held_34 : decode cX6_held 34 = .ok (.imul, 1) := by decide +kernel
theorem dX6_held_35 : decode cX6_held 35 = .ok (.iload_n 2, 1) := by decide +kernel
theorem dX6_held_36 : decode cX6_held 36 = .ok (.iadd, 1) := by decide +kernel
theorem dX6_held_37 : decode cX6_held 37 = .ok (.istore 4, 2) := by decide +kernel
theorem dX6_held_39 : decode cX6_held 39 = .ok (.aload_n 0, 1) := by decide +kernel
theorem dX6_held_40 : decode cX6_held 40 = .ok (.getfield 7, 3) := by decide +kernel
theorem dX6_held_43 : decode cX6_held 43 = .ok (.sipush 256, 3) := by decide +kernel
theorem dX6_held_46 : decode cX6_held 46 = .ok (.iload 4, 2) := by decide +kernel
theorem dX6_held_48 : decode cX6_held 48 = .ok (.iadd, 1) := by decide +kernel
theorem dX6_held_49 : decode cX6_held 49 = .ok (.iaload, 1) := by decide +kernel
theorem dX6_held_50 : decode cX6_held 50 = .ok (.bipush (-5), 2) := by decide +kernel
theorem dX6_held_52 : decode cX6_held 52 = .ok (.if_icmp .ne 8, 3) := by decide +kernel
theorem dX6_held_55 : decode cX6_held 55 = .ok (.bipush (-5), 2) := by decide +kernel
theorem dX6_held_57 : decode cX6_held 57 = .ok (.goto 19, 3) := by decide +kernel
theorem dX6_held_60 : decode cX6_held 60 = .ok (.aload_n 0, 1) := by decide +kernel
theorem dX6_held_61 : decode cX6_held 61 = .ok (.getfield 7, 3) := by decide +kernel
theorem dX6_held_64 : decode cX6_held 64 = .ok (.sipush 256, 3) := by decide +kernel
theorem dX6_held_67 : decode cX6_held 67 = .ok (.bipush 32, 2) := by decide +kernel
theorem dX6_held_69 : decode cX6_held 69 = .ok (.iload_n 3, 1) := by decide +kernel
theorem dX6_held_70 : decode cX6_held 70 = .ok (.imul, 1) := by decide +kernel
theorem dX6_held_71 : decode cX6_held 71 = .ok (.iadd, 1) := by decide +kernel
theorem dX6_held_72 : decode cX6_held 72 = .ok (.iload 4, 2) := by decide +kernel
theorem dX6_held_74 : decode cX6_held 74 = .ok (.iadd, 1) := by decide +kernel
theorem dX6_held_75 : decode cX6_held 75 = .ok (.iaload, 1) := by decide +kernel
theorem dX6_held_76 : decode cX6_held 76 = .ok (.ireturn, 1) := by decide +kernel
set_option maxRecDepth 20000 in
theorem ggX6_counter_X6_isCore : GoodIn wsX6_counter wsX6_isCore := goodIn_r _ [5, 6, 7, 4, 8] (by decide +kernel) (by decide +kernel)
set_option maxRecDepth 20000 in
theorem gX6_counter_X6_isCore : GoodIn wsX6_counter (va_wsS RX6 103 yX6_isCore wsX6_isCore) := goodIn_app (goodIn_of _ (by decide +kernel)) ggX6_counter_X6_isCore
set_option maxRecDepth 20000 in
theorem ggX6_counter_X6_in : GoodIn wsX6_counter wsX6_in := goodIn_r _ [8] (by decide +kernel) (by decide +kernel)
set_option maxRecDepth 20000 in
theorem gX6_counter_X6_in : GoodIn wsX6_counter (va_wsS RX6 29 yX6_in wsX6_in) := goodIn_app (goodIn_of _ (by decide +kernel)) ggX6_counter_X6_in
theorem dX6_counter_0 : decode cX6_counter 0 = .ok (.iload_n 1, 1) := by decide +kernel
theorem dX6_counter_1 : decode cX6_counter 1 = .ok (.invokestatic 103, 3) := by decide +kernel
theorem dX6_counter_4 : decode cX6_counter 4 = .ok (.ifCond .eq 31, 3) := by decide +kernel
theorem dX6_counter_7 : decode cX6_counter 7 = .ok (.iload_n 2, 1) := by decide +kernel
theorem dX6_counter_8 : decode cX6_counter 8 = .ok (.iconst 0, 1) := by decide +kernel
theorem dX6_counter_9 : decode cX6_counter 9 = .ok (.bipush 23, 2) := by decide +kernel
theorem dX6_counter_11 : decode cX6_counter 11 = .ok (.invokestatic 29, 3) := by decide +kernel
theorem dX6_counter_14 : decode cX6_counter 14 = .ok (.ifCond .eq 21, 3) := by decide +kernel
theorem dX6_counter_17 : decode cX6_counter 17 = .ok (.aload_n 0, 1) := by decide +kernel
theorem dX6_counter_18 : decode cX6_counter 18 = .ok (.getfield 7, 3) := by decide +kernel
theorem dX6_counter_21 : decode cX6_counter 21 = .ok (.sipush 352, 3) := by decide +kernel
theorem dX6_counter_24 : decode cX6_counter 24 = .ok (.bipush 24, 2) := by decide +kernel
theorem dX6_counter_26 : decode cX6_counter 26 = .ok (.iload_n 1, 1) := by decide +kernel
theorem dX6_counter_27 : decode cX6_counter 27 = .ok (.imul, 1) := by decide +kernel
theorem dX6_counter_28 : decode cX6_counter 28 = .ok (.iadd, 1) := by decide +kernel
theorem dX6_counter_29 : decode cX6_counter 29 = .ok (.iload_n 2, 1) := by decide +kernel
theorem dX6_counter_30 : decode cX6_counter 30 = .ok (.iadd, 1) := by decide +kernel
theorem dX6_counter_31 : decode cX6_counter 31 = .ok (.iaload, 1) := by decide +kernel
theorem dX6_counter_32 : decode cX6_counter 32 = .ok (.goto 4, 3) := by decide +kernel
theorem dX6_counter_35 : decode cX6_counter 35 = .ok (.iconst (-1), 1) := by decide +kernel
theorem dX6_counter_36 : decode cX6_counter 36 = .ok (.ireturn, 1) := by decide +kernel
set_option maxRecDepth 20000 in
theorem ggX6_bit_X6_isCore : GoodIn wsX6_bit wsX6_isCore := goodIn_r _ [5, 6, 7, 4, 8] (by decide +kernel) (by decide +kernel)
set_option maxRecDepth 20000 in
theorem gX6_bit_X6_isCore : GoodIn wsX6_bit (va_wsS RX6 103 yX6_isCore wsX6_isCore) := goodIn_app (goodIn_of _ (by decide +kernel)) ggX6_bit_X6_isCore
set_option maxRecDepth 20000 in
theorem ggX6_bit_X6_in : GoodIn wsX6_bit wsX6_in := goodIn_r _ [8] (by decide +kernel) (by decide +kernel)
set_option maxRecDepth 20000 in
theorem gX6_bit_X6_in : GoodIn wsX6_bit (va_wsS RX6 29 yX6_in wsX6_in) := goodIn_app (goodIn_of _ (by decide +kernel)) ggX6_bit_X6_in
theorem dX6_bit_0 : decode cX6_bit 0 = .ok (.iload_n 1, 1) := by decide +kernel
theorem dX6_bit_1 : decode cX6_bit 1 = .ok (.invokestatic 103, 3) := by decide +kernel
theorem dX6_bit_4 : decode cX6_bit 4 = .ok (.ifCond .eq 31, 3) := by decide +kernel
theorem dX6_bit_7 : decode cX6_bit 7 = .ok (.iload_n 2, 1) := by decide +kernel
theorem dX6_bit_8 : decode cX6_bit 8 = .ok (.iconst 0, 1) := by decide +kernel
theorem dX6_bit_9 : decode cX6_bit 9 = .ok (.bipush 15, 2) := by decide +kernel
theorem dX6_bit_11 : decode cX6_bit 11 = .ok (.invokestatic 29, 3) := by decide +kernel
theorem dX6_bit_14 : decode cX6_bit 14 = .ok (.ifCond .eq 21, 3) := by decide +kernel
theorem dX6_bit_17 : decode cX6_bit 17 = .ok (.aload_n 0, 1) := by decide +kernel
theorem dX6_bit_18 : decode cX6_bit 18 = .ok (.getfield 7, 3) := by decide +kernel
theorem dX6_bit_21 : decode cX6_bit 21 = .ok (.sipush 448, 3) := by decide +kernel
theorem dX6_bit_24 : decode cX6_bit 24 = .ok (.bipush 16, 2) := by decide +kernel
theorem dX6_bit_26 : decode cX6_bit 26 = .ok (.iload_n 1, 1) := by decide +kernel
theorem dX6_bit_27 : decode cX6_bit 27 = .ok (.imul, 1) := by decide +kernel
theorem dX6_bit_28 : decode cX6_bit 28 = .ok (.iadd, 1) := by decide +kernel
theorem dX6_bit_29 : decode cX6_bit 29 = .ok (.iload_n 2, 1) := by decide +kernel
theorem dX6_bit_30 : decode cX6_bit 30 = .ok (.iadd, 1) := by decide +kernel
theorem dX6_bit_31 : decode cX6_bit 31 = .ok (.iaload, 1) := by decide +kernel
theorem dX6_bit_32 : decode cX6_bit 32 = .ok (.goto 4, 3) := by decide +kernel
theorem dX6_bit_35 : decode cX6_bit 35 = .ok (.iconst (-1), 1) := by decide +kernel
theorem dX6_bit_36 : decode cX6_bit 36 = .ok (.ireturn, 1) := by decide +kernel
set_option maxRecDepth 20000 in
theorem ggX6_wouldRead_X6_placeOf : GoodIn wsX6_wouldRead wsX6_placeOf := goodIn_r _ [5] (by decide +kernel) (by decide +kernel)
set_option maxRecDepth 20000 in
theorem gX6_wouldRead_X6_placeOf : GoodIn wsX6_wouldRead (va_wsS RX6 48 yX6_placeOf wsX6_placeOf) := goodIn_app (goodIn_of _ (by decide +kernel)) ggX6_wouldRead_X6_placeOf
set_option maxRecDepth 20000 in
theorem ggX6_wouldRead_X6_mayHave : GoodIn wsX6_wouldRead wsX6_mayHave := goodIn_r _ [9, 1, 10, 11, 12, 4, 13, 14, 15, 16, 17, 18, 19, 20, 25, 26, 27, 28, 29, 30, 31, 32, 33, 34, 35, 36, 37, 38, 39, 40, 41, 42] (by decide +kernel) (by decide +kernel)
set_option maxRecDepth 20000 in
theorem gX6_wouldRead_X6_mayHave : GoodIn wsX6_wouldRead (wsV RX6 78 RX6 yX6_mayHave wsX6_mayHave) := goodIn_app (goodIn_of _ (by decide +kernel)) ggX6_wouldRead_X6_mayHave
set_option maxRecDepth 20000 in
theorem ggX6_wouldRead_X6_holds : GoodIn wsX6_wouldRead wsX6_holds := goodIn_r _ [24, 1, 2, 3, 4, 5, 25, 26, 27, 28, 29, 30, 31, 32, 33, 34, 35, 36, 37, 38, 39, 40, 41, 42] (by decide +kernel) (by decide +kernel)
set_option maxRecDepth 20000 in
theorem gX6_wouldRead_X6_holds : GoodIn wsX6_wouldRead (wsV RX6 81 RX6 yX6_holds wsX6_holds) := goodIn_app (goodIn_of _ (by decide +kernel)) ggX6_wouldRead_X6_holds
theorem dX6_wouldRead_0 : decode cX6_wouldRead 0 = .ok (.aload_n 0, 1) := by decide +kernel
theorem dX6_wouldRead_1 : decode cX6_wouldRead 1 = .ok (.getfield 7, 3) := by decide +kernel
theorem dX6_wouldRead_4 : decode cX6_wouldRead 4 = .ok (.iconst 0, 1) := by decide +kernel
theorem dX6_wouldRead_5 : decode cX6_wouldRead 5 = .ok (.iload_n 1, 1) := by decide +kernel
theorem dX6_wouldRead_6 : decode cX6_wouldRead 6 = .ok (.iadd, 1) := by decide +kernel
theorem dX6_wouldRead_7 : decode cX6_wouldRead 7 = .ok (.iaload, 1) := by decide +kernel
theorem dX6_wouldRead_8 : decode cX6_wouldRead 8 = .ok (.istore_n 2, 1) := by decide +kernel
theorem dX6_wouldRead_9 : decode cX6_wouldRead 9 = .ok (.iconst 0, 1) := by decide +kernel
theorem dX6_wouldRead_10 : decode cX6_wouldRead 10 = .ok (.istore_n 3, 1) := by decide +kernel
theorem dX6_wouldRead_11 : decode cX6_wouldRead 11 = .ok (.iload_n 3, 1) := by decide +kernel
theorem dX6_wouldRead_12 : decode cX6_wouldRead 12 = .ok (.iconst 4, 1) := by decide +kernel
theorem dX6_wouldRead_13 : decode cX6_wouldRead 13 = .ok (.if_icmp .ge 65, 3) := by decide +kernel
theorem dX6_wouldRead_16 : decode cX6_wouldRead 16 = .ok (.iload_n 3, 1) := by decide +kernel
theorem dX6_wouldRead_17 : decode cX6_wouldRead 17 = .ok (.iload_n 1, 1) := by decide +kernel
theorem dX6_wouldRead_18 : decode cX6_wouldRead 18 = .ok (.invokestatic 48, 3) := by decide +kernel
theorem dX6_wouldRead_21 : decode cX6_wouldRead 21 = .ok (.istore 4, 2) := by decide +kernel
theorem dX6_wouldRead_23 : decode cX6_wouldRead 23 = .ok (.aload_n 0, 1) := by decide +kernel
theorem dX6_wouldRead_24 : decode cX6_wouldRead 24 = .ok (.iload_n 3, 1) := by decide +kernel
theorem dX6_wouldRead_25 : decode cX6_wouldRead 25 = .ok (.iload_n 1, 1) := by decide +kernel
theorem dX6_wouldRead_26 : decode cX6_wouldRead 26 = .ok (.invokevirtual 78, 3) := by decide +kernel
theorem dX6_wouldRead_29 : decode cX6_wouldRead 29 = .ok (.ifCond .eq 41, 3) := by decide +kernel
theorem dX6_wouldRead_32 : decode cX6_wouldRead 32 = .ok (.aload_n 0, 1) := by decide +kernel
theorem dX6_wouldRead_33 : decode cX6_wouldRead 33 = .ok (.iload_n 3, 1) := by decide +kernel
theorem dX6_wouldRead_34 : decode cX6_wouldRead 34 = .ok (.iload_n 1, 1) := by decide +kernel
theorem dX6_wouldRead_35 : decode cX6_wouldRead 35 = .ok (.invokevirtual 81, 3) := by decide +kernel
theorem dX6_wouldRead_38 : decode cX6_wouldRead 38 = .ok (.ifCond .eq 32, 3) := by decide +kernel
theorem dX6_wouldRead_41 : decode cX6_wouldRead 41 = .ok (.aload_n 0, 1) := by decide +kernel
theorem dX6_wouldRead_42 : decode cX6_wouldRead 42 = .ok (.getfield 7, 3) := by decide +kernel
theorem dX6_wouldRead_45 : decode cX6_wouldRead 45 = .ok (.sipush 320, 3) := by decide +kernel
theorem dX6_wouldRead_48 : decode cX6_wouldRead 48 = .ok (.iload 4, 2) := by decide +kernel
theorem dX6_wouldRead_50 : decode cX6_wouldRead 50 = .ok (.iadd, 1) := by decide +kernel
theorem dX6_wouldRead_51 : decode cX6_wouldRead 51 = .ok (.iaload, 1) := by decide +kernel
theorem dX6_wouldRead_52 : decode cX6_wouldRead 52 = .ok (.iconst 1, 1) := by decide +kernel
theorem dX6_wouldRead_53 : decode cX6_wouldRead 53 = .ok (.if_icmp .ne 17, 3) := by decide +kernel
theorem dX6_wouldRead_56 : decode cX6_wouldRead 56 = .ok (.aload_n 0, 1) := by decide +kernel
theorem dX6_wouldRead_57 : decode cX6_wouldRead 57 = .ok (.getfield 7, 3) := by decide +kernel
theorem dX6_wouldRead_60 : decode cX6_wouldRead 60 = .ok (.sipush 288, 3) := by decide +kernel
theorem dX6_wouldRead_63 : decode cX6_wouldRead 63 = .ok (.iload 4, 2) := by decide +kernel
theorem dX6_wouldRead_65 : decode cX6_wouldRead 65 = .ok (.iadd, 1) := by decide +kernel
theorem dX6_wouldRead_66 : decode cX6_wouldRead 66 = .ok (.iaload, 1) := by decide +kernel
theorem dX6_wouldRead_67 : decode cX6_wouldRead 67 = .ok (.goto 4, 3) := by decide +kernel
theorem dX6_wouldRead_70 : decode cX6_wouldRead 70 = .ok (.iload_n 2, 1) := by decide +kernel
theorem dX6_wouldRead_71 : decode cX6_wouldRead 71 = .ok (.istore_n 2, 1) := by decide +kernel
theorem dX6_wouldRead_72 : decode cX6_wouldRead 72 = .ok (.iinc 3 1, 3) := by decide +kernel
theorem dX6_wouldRead_75 : decode cX6_wouldRead 75 = .ok (.goto (-64), 3) := by decide +kernel
theorem dX6_wouldRead_78 : decode cX6_wouldRead 78 = .ok (.iload_n 2, 1) := by decide +kernel
theorem dX6_wouldRead_79 : decode cX6_wouldRead 79 = .ok (.ireturn, 1) := by decide +kernel
set_option maxRecDepth 20000 in
theorem ggX6_coresWith_X6_holds : GoodIn wsX6_coresWith wsX6_holds := goodIn_r _ [5, 6, 7, 8, 4, 9, 25, 26, 27, 28, 29, 30, 31, 32, 33, 34, 35, 36, 37, 38, 39, 40, 41, 42] (by decide +kernel) (by decide +kernel)
set_option maxRecDepth 20000 in
theorem gX6_coresWith_X6_holds : GoodIn wsX6_coresWith (wsV RX6 81 RX6 yX6_holds wsX6_holds) := goodIn_app (goodIn_of _ (by decide +kernel)) ggX6_coresWith_X6_holds
set_option maxRecDepth 20000 in
theorem ggX6_coresWith_X6_mayHave : GoodIn wsX6_coresWith wsX6_mayHave := goodIn_r _ [13, 6, 14, 15, 16, 4, 17, 18, 19, 20, 21, 22, 23, 24, 25, 26, 27, 28, 29, 30, 31, 32, 33, 34, 35, 36, 37, 38, 39, 40, 41, 42] (by decide +kernel) (by decide +kernel)
set_option maxRecDepth 20000 in
theorem gX6_coresWith_X6_mayHave : GoodIn wsX6_coresWith (wsV RX6 78 RX6 yX6_mayHave wsX6_mayHave) := goodIn_app (goodIn_of _ (by decide +kernel)) ggX6_coresWith_X6_mayHave
theorem dX6_coresWith_0 : decode cX6_coresWith 0 = .ok (.iconst 0, 1) := by decide +kernel
theorem dX6_coresWith_1 : decode cX6_coresWith 1 = .ok (.istore_n 3, 1) := by decide +kernel
theorem dX6_coresWith_2 : decode cX6_coresWith 2 = .ok (.iconst 0, 1) := by decide +kernel
theorem dX6_coresWith_3 : decode cX6_coresWith 3 = .ok (.istore 4, 2) := by decide +kernel
theorem dX6_coresWith_5 : decode cX6_coresWith 5 = .ok (.iload 4, 2) := by decide +kernel
theorem dX6_coresWith_7 : decode cX6_coresWith 7 = .ok (.iconst 4, 1) := by decide +kernel
theorem dX6_coresWith_8 : decode cX6_coresWith 8 = .ok (.if_icmp .ge 47, 3) := by decide +kernel
theorem dX6_coresWith_11 : decode cX6_coresWith 11 = .ok (.iload_n 3, 1) := by decide +kernel
theorem dX6_coresWith_12 : decode cX6_coresWith 12 = .ok (.iload_n 2, 1) := by decide +kernel
theorem dX6_coresWith_13 : decode cX6_coresWith 13 = .ok (.ifCond .eq 16, 3) := by decide +kernel
theorem dX6_coresWith_16 : decode cX6_coresWith 16 = .ok (.aload_n 0, 1) := by decide +kernel
theorem dX6_coresWith_17 : decode cX6_coresWith 17 = .ok (.iload 4, 2) := by decide +kernel
theorem dX6_coresWith_19 : decode cX6_coresWith 19 = .ok (.iload_n 1, 1) := by decide +kernel
theorem dX6_coresWith_20 : decode cX6_coresWith 20 = .ok (.invokevirtual 81, 3) := by decide +kernel
theorem dX6_coresWith_23 : decode cX6_coresWith 23 = .ok (.ifCond .eq 23, 3) := by decide +kernel
theorem dX6_coresWith_26 : decode cX6_coresWith 26 = .ok (.goto 13, 3) := by decide +kernel
theorem dX6_coresWith_29 : decode cX6_coresWith 29 = .ok (.aload_n 0, 1) := by decide +kernel
theorem dX6_coresWith_30 : decode cX6_coresWith 30 = .ok (.iload 4, 2) := by decide +kernel
theorem dX6_coresWith_32 : decode cX6_coresWith 32 = .ok (.iload_n 1, 1) := by decide +kernel
theorem dX6_coresWith_33 : decode cX6_coresWith 33 = .ok (.invokevirtual 78, 3) := by decide +kernel
theorem dX6_coresWith_36 : decode cX6_coresWith 36 = .ok (.ifCond .eq 10, 3) := by decide +kernel
theorem dX6_coresWith_39 : decode cX6_coresWith 39 = .ok (.iconst 1, 1) := by decide +kernel
theorem dX6_coresWith_40 : decode cX6_coresWith 40 = .ok (.iload 4, 2) := by decide +kernel
theorem dX6_coresWith_42 : decode cX6_coresWith 42 = .ok (.ishl, 1) := by decide +kernel
theorem dX6_coresWith_43 : decode cX6_coresWith 43 = .ok (.goto 4, 3) := by decide +kernel
theorem dX6_coresWith_46 : decode cX6_coresWith 46 = .ok (.iconst 0, 1) := by decide +kernel
theorem dX6_coresWith_47 : decode cX6_coresWith 47 = .ok (.ior, 1) := by decide +kernel
theorem dX6_coresWith_48 : decode cX6_coresWith 48 = .ok (.istore_n 3, 1) := by decide +kernel
theorem dX6_coresWith_49 : decode cX6_coresWith 49 = .ok (.iinc 4 1, 3) := by decide +kernel
theorem dX6_coresWith_52 : decode cX6_coresWith 52 = .ok (.goto (-47), 3) := by decide +kernel
theorem dX6_coresWith_55 : decode cX6_coresWith 55 = .ok (.iload_n 3, 1) := by decide +kernel
theorem dX6_coresWith_56 : decode cX6_coresWith 56 = .ok (.ireturn, 1) := by decide +kernel
set_option maxRecDepth 20000 in
theorem ggX6_line_X6_isLine : GoodIn wsX6_line wsX6_isLine := goodIn_r _ [5, 6, 7, 4, 8] (by decide +kernel) (by decide +kernel)
set_option maxRecDepth 20000 in
theorem gX6_line_X6_isLine : GoodIn wsX6_line (va_wsS RX6 107 yX6_isLine wsX6_isLine) := goodIn_app (goodIn_of _ (by decide +kernel)) ggX6_line_X6_isLine
set_option maxRecDepth 20000 in
theorem ggX6_line_X6_wouldRead : GoodIn wsX6_line wsX6_wouldRead := goodIn_r _ [12, 1, 13, 14, 4, 15, 16, 17, 18, 19, 20, 21, 22, 23, 24, 25, 26, 27, 28, 29, 30, 31, 32, 33, 34, 39, 40, 41, 42, 43, 44, 45, 46, 47, 48, 49, 50, 51, 52, 53, 54, 55, 56] (by decide +kernel) (by decide +kernel)
set_option maxRecDepth 20000 in
theorem gX6_line_X6_wouldRead : GoodIn wsX6_line (wsV RX6 195 RX6 yX6_wouldRead wsX6_wouldRead) := goodIn_app (goodIn_of _ (by decide +kernel)) ggX6_line_X6_wouldRead
set_option maxRecDepth 20000 in
theorem ggX6_line_X6_coresWith : GoodIn wsX6_line wsX6_coresWith := goodIn_r _ [38, 31, 32, 33, 4, 34, 1, 13, 14, 15, 16, 17, 18, 19, 20, 21, 22, 23, 24, 25, 26, 27, 28, 29, 30, 39, 40, 41, 42, 43, 44, 45, 46, 47, 48, 49, 50, 51, 52, 53, 54, 55, 56] (by decide +kernel) (by decide +kernel)
set_option maxRecDepth 20000 in
theorem gX6_line_X6_coresWith : GoodIn wsX6_line (wsV RX6 198 RX6 yX6_coresWith wsX6_coresWith) := goodIn_app (goodIn_of _ (by decide +kernel)) ggX6_line_X6_coresWith
set_option maxRecDepth 20000 in
theorem ggX6_line_X6_counterOf : GoodIn wsX6_line wsX6_counterOf := goodIn_r _ [30] (by decide +kernel) (by decide +kernel)
set_option maxRecDepth 20000 in
theorem gX6_line_X6_counterOf : GoodIn wsX6_line (va_wsS RX6 36 yX6_counterOf wsX6_counterOf) := goodIn_app (goodIn_of _ (by decide +kernel)) ggX6_line_X6_counterOf
theorem dX6_line_0 : decode cX6_line 0 = .ok (.iload_n 1, 1) := by decide +kernel
theorem dX6_line_1 : decode cX6_line 1 = .ok (.invokestatic 107, 3) := by decide +kernel
theorem dX6_line_4 : decode cX6_line 4 = .ok (.ifCond .ne 5, 3) := by decide +kernel
theorem dX6_line_7 : decode cX6_line 7 = .ok (.iconst (-1), 1) := by decide +kernel
theorem dX6_line_8 : decode cX6_line 8 = .ok (.ireturn, 1) := by decide +kernel
theorem dX6_line_9 : decode cX6_line 9 = .ok (.iload_n 2, 1) := by decide +kernel
theorem dX6_line_10 : decode cX6_line 10 = .ok (.tableswitch 77 0 5 #[38, 47, 53, 53, 69, 69], 38) := by decide +kernel
theorem dX6_line_48 : decode cX6_line 48 = .ok (.aload_n 0, 1) := by decide +kernel
theorem dX6_line_49 : decode cX6_line 49 = .ok (.getfield 7, 3) := by decide +kernel
theorem dX6_line_52 : decode cX6_line 52 = .ok (.iconst 0, 1) := by decide +kernel
theorem dX6_line_53 : decode cX6_line 53 = .ok (.iload_n 1, 1) := by decide +kernel
theorem dX6_line_54 : decode cX6_line 54 = .ok (.iadd, 1) := by decide +kernel
theorem dX6_line_55 : decode cX6_line 55 = .ok (.iaload, 1) := by decide +kernel
theorem dX6_line_56 : decode cX6_line 56 = .ok (.ireturn, 1) := by decide +kernel
theorem dX6_line_57 : decode cX6_line 57 = .ok (.aload_n 0, 1) := by decide +kernel
theorem dX6_line_58 : decode cX6_line 58 = .ok (.iload_n 1, 1) := by decide +kernel
theorem dX6_line_59 : decode cX6_line 59 = .ok (.invokevirtual 195, 3) := by decide +kernel
theorem dX6_line_62 : decode cX6_line 62 = .ok (.ireturn, 1) := by decide +kernel
theorem dX6_line_63 : decode cX6_line 63 = .ok (.aload_n 0, 1) := by decide +kernel
theorem dX6_line_64 : decode cX6_line 64 = .ok (.iload_n 1, 1) := by decide +kernel
theorem dX6_line_65 : decode cX6_line 65 = .ok (.iload_n 2, 1) := by decide +kernel
theorem dX6_line_66 : decode cX6_line 66 = .ok (.iconst 2, 1) := by decide +kernel
theorem dX6_line_67 : decode cX6_line 67 = .ok (.if_icmp .ne 7, 3) := by decide +kernel
theorem dX6_line_70 : decode cX6_line 70 = .ok (.iconst 1, 1) := by decide +kernel
theorem dX6_line_71 : decode cX6_line 71 = .ok (.goto 4, 3) := by decide +kernel
theorem dX6_line_74 : decode cX6_line 74 = .ok (.iconst 0, 1) := by decide +kernel
theorem dX6_line_75 : decode cX6_line 75 = .ok (.invokevirtual 198, 3) := by decide +kernel
theorem dX6_line_78 : decode cX6_line 78 = .ok (.ireturn, 1) := by decide +kernel
theorem dX6_line_79 : decode cX6_line 79 = .ok (.iload_n 1, 1) := by decide +kernel
theorem dX6_line_80 : decode cX6_line 80 = .ok (.iload_n 2, 1) := by decide +kernel
theorem dX6_line_81 : decode cX6_line 81 = .ok (.iconst 4, 1) := by decide +kernel
theorem dX6_line_82 : decode cX6_line 82 = .ok (.isub, 1) := by decide +kernel
theorem dX6_line_83 : decode cX6_line 83 = .ok (.invokestatic 36, 3) := by decide +kernel
theorem dX6_line_86 : decode cX6_line 86 = .ok (.ireturn, 1) := by decide +kernel
theorem dX6_line_87 : decode cX6_line 87 = .ok (.bipush (-2), 2) := by decide +kernel
theorem dX6_line_89 : decode cX6_line 89 = .ok (.ireturn, 1) := by decide +kernel
set_option maxRecDepth 20000 in
theorem ggX6_reason_X6_isCore : GoodIn wsX6_reason wsX6_isCore := goodIn_r _ [4, 5, 6, 3, 7] (by decide +kernel) (by decide +kernel)
set_option maxRecDepth 20000 in
theorem gX6_reason_X6_isCore : GoodIn wsX6_reason (va_wsS RX6 103 yX6_isCore wsX6_isCore) := goodIn_app (goodIn_of _ (by decide +kernel)) ggX6_reason_X6_isCore
set_option maxRecDepth 20000 in
theorem ggX6_reason_X6_isLine : GoodIn wsX6_reason wsX6_isLine := goodIn_r _ [10, 5, 6, 3, 7] (by decide +kernel) (by decide +kernel)
set_option maxRecDepth 20000 in
theorem gX6_reason_X6_isLine : GoodIn wsX6_reason (va_wsS RX6 107 yX6_isLine wsX6_isLine) := goodIn_app (goodIn_of _ (by decide +kernel)) ggX6_reason_X6_isLine
set_option maxRecDepth 20000 in
theorem ggX6_reason_X6_mayHave : GoodIn wsX6_reason wsX6_mayHave := goodIn_r _ [14, 15, 16, 17, 18, 3, 19, 20, 21, 22, 23, 24, 25, 26, 34, 35, 36, 37, 38, 39, 40, 41, 42, 43, 44, 45, 46, 47, 48, 49, 50, 51] (by decide +kernel) (by decide +kernel)
set_option maxRecDepth 20000 in
theorem gX6_reason_X6_mayHave : GoodIn wsX6_reason (wsV RX6 78 RX6 yX6_mayHave wsX6_mayHave) := goodIn_app (goodIn_of _ (by decide +kernel)) ggX6_reason_X6_mayHave
set_option maxRecDepth 20000 in
theorem ggX6_reason_X6_holds : GoodIn wsX6_reason wsX6_holds := goodIn_r _ [30, 15, 31, 32, 3, 33, 34, 35, 36, 37, 38, 39, 40, 41, 42, 43, 44, 45, 46, 47, 48, 49, 50, 51] (by decide +kernel) (by decide +kernel)
set_option maxRecDepth 20000 in
theorem gX6_reason_X6_holds : GoodIn wsX6_reason (wsV RX6 81 RX6 yX6_holds wsX6_holds) := goodIn_app (goodIn_of _ (by decide +kernel)) ggX6_reason_X6_holds
set_option maxRecDepth 20000 in
theorem ggX6_reason_X6_isBit : GoodIn wsX6_reason wsX6_isBit := goodIn_r _ [19, 15, 34, 35, 36, 37, 38, 39, 40, 41, 42, 43, 44, 45, 46, 47, 48, 49, 50, 51] (by decide +kernel) (by decide +kernel)
set_option maxRecDepth 20000 in
theorem gX6_reason_X6_isBit : GoodIn wsX6_reason (wsV RX6 44 RX6 yX6_isBit wsX6_isBit) := goodIn_app (goodIn_of _ (by decide +kernel)) ggX6_reason_X6_isBit
theorem dX6_reason_0 : decode cX6_reason 0 = .ok (.iload_n 1, 1) := by decide +kernel
theorem dX6_reason_1 : decode cX6_reason 1 = .ok (.invokestatic 103, 3) := by decide +kernel
theorem dX6_reason_4 : decode cX6_reason 4 = .ok (.ifCond .eq 10, 3) := by decide +kernel
theorem dX6_reason_7 : decode cX6_reason 7 = .ok (.iload_n 2, 1) := by decide +kernel
theorem dX6_reason_8 : decode cX6_reason 8 = .ok (.invokestatic 107, 3) := by decide +kernel
theorem dX6_reason_11 : decode cX6_reason 11 = .ok (.ifCond .ne 5, 3) := by decide +kernel
theorem dX6_reason_14 : decode cX6_reason 14 = .ok (.iconst (-1), 1) := by decide +kernel
theorem dX6_reason_15 : decode cX6_reason 15 = .ok (.ireturn, 1) := by decide +kernel
theorem dX6_reason_16 : decode cX6_reason 16 = .ok (.aload_n 0, 1) := by decide +kernel
theorem dX6_reason_17 : decode cX6_reason 17 = .ok (.iload_n 1, 1) := by decide +kernel
theorem dX6_reason_18 : decode cX6_reason 18 = .ok (.iload_n 2, 1) := by decide +kernel
theorem dX6_reason_19 : decode cX6_reason 19 = .ok (.invokevirtual 78, 3) := by decide +kernel
theorem dX6_reason_22 : decode cX6_reason 22 = .ok (.ifCond .eq 18, 3) := by decide +kernel
theorem dX6_reason_25 : decode cX6_reason 25 = .ok (.aload_n 0, 1) := by decide +kernel
theorem dX6_reason_26 : decode cX6_reason 26 = .ok (.iload_n 1, 1) := by decide +kernel
theorem dX6_reason_27 : decode cX6_reason 27 = .ok (.iload_n 2, 1) := by decide +kernel
theorem dX6_reason_28 : decode cX6_reason 28 = .ok (.invokevirtual 81, 3) := by decide +kernel
theorem dX6_reason_31 : decode cX6_reason 31 = .ok (.ifCond .eq 7, 3) := by decide +kernel
theorem dX6_reason_34 : decode cX6_reason 34 = .ok (.iconst 0, 1) := by decide +kernel
theorem dX6_reason_35 : decode cX6_reason 35 = .ok (.goto 4, 3) := by decide +kernel
theorem dX6_reason_38 : decode cX6_reason 38 = .ok (.iconst 1, 1) := by decide +kernel
theorem dX6_reason_39 : decode cX6_reason 39 = .ok (.ireturn, 1) := by decide +kernel
theorem dX6_reason_40 : decode cX6_reason 40 = .ok (.aload_n 0, 1) := by decide +kernel
theorem dX6_reason_41 : decode cX6_reason 41 = .ok (.iload_n 1, 1) := by decide +kernel
theorem dX6_reason_42 : decode cX6_reason 42 = .ok (.iload_n 2, 1) := by decide +kernel
theorem dX6_reason_43 : decode cX6_reason 43 = .ok (.invokevirtual 44, 3) := by decide +kernel
theorem dX6_reason_46 : decode cX6_reason 46 = .ok (.ifCond .eq 7, 3) := by decide +kernel
theorem dX6_reason_49 : decode cX6_reason 49 = .ok (.iconst 3, 1) := by decide +kernel
theorem dX6_reason_50 : decode cX6_reason 50 = .ok (.goto 4, 3) := by decide +kernel
theorem dX6_reason_53 : decode cX6_reason 53 = .ok (.iconst 2, 1) := by decide +kernel
theorem dX6_reason_54 : decode cX6_reason 54 = .ok (.ireturn, 1) := by decide +kernel
set_option maxRecDepth 20000 in
theorem ggX6_sumOf_X6_told : GoodIn wsX6_sumOf wsX6_told := goodIn_r _ [5] (by decide +kernel) (by decide +kernel)
set_option maxRecDepth 20000 in
theorem gX6_sumOf_X6_told : GoodIn wsX6_sumOf (va_wsS RX6 66 yX6_told wsX6_told) := goodIn_app (goodIn_of _ (by decide +kernel)) ggX6_sumOf_X6_told
theorem dX6_sumOf_0 : decode cX6_sumOf 0 = .ok (.iconst 0, 1) := by decide +kernel
theorem dX6_sumOf_1 : decode cX6_sumOf 1 = .ok (.istore_n 2, 1) := by decide +kernel
theorem dX6_sumOf_2 : decode cX6_sumOf 2 = .ok (.iconst 0, 1) := by decide +kernel
theorem dX6_sumOf_3 : decode cX6_sumOf 3 = .ok (.istore_n 3, 1) := by decide +kernel
theorem dX6_sumOf_4 : decode cX6_sumOf 4 = .ok (.iload_n 3, 1) := by decide +kernel
theorem dX6_sumOf_5 : decode cX6_sumOf 5 = .ok (.iconst 4, 1) := by decide +kernel
theorem dX6_sumOf_6 : decode cX6_sumOf 6 = .ok (.if_icmp .ge 22, 3) := by decide +kernel
theorem dX6_sumOf_9 : decode cX6_sumOf 9 = .ok (.iload_n 2, 1) := by decide +kernel
theorem dX6_sumOf_10 : decode cX6_sumOf 10 = .ok (.aload_n 0, 1) := by decide +kernel
theorem dX6_sumOf_11 : decode cX6_sumOf 11 = .ok (.getfield 7, 3) := by decide +kernel
theorem dX6_sumOf_14 : decode cX6_sumOf 14 = .ok (.iload_n 3, 1) := by decide +kernel
theorem dX6_sumOf_15 : decode cX6_sumOf 15 = .ok (.iload_n 1, 1) := by decide +kernel
theorem dX6_sumOf_16 : decode cX6_sumOf 16 = .ok (.invokestatic 66, 3) := by decide +kernel
theorem dX6_sumOf_19 : decode cX6_sumOf 19 = .ok (.iaload, 1) := by decide +kernel
theorem dX6_sumOf_20 : decode cX6_sumOf 20 = .ok (.iadd, 1) := by decide +kernel
theorem dX6_sumOf_21 : decode cX6_sumOf 21 = .ok (.istore_n 2, 1) := by decide +kernel
theorem dX6_sumOf_22 : decode cX6_sumOf 22 = .ok (.iinc 3 1, 3) := by decide +kernel
theorem dX6_sumOf_25 : decode cX6_sumOf 25 = .ok (.goto (-21), 3) := by decide +kernel
theorem dX6_sumOf_28 : decode cX6_sumOf 28 = .ok (.iload_n 2, 1) := by decide +kernel
theorem dX6_sumOf_29 : decode cX6_sumOf 29 = .ok (.ireturn, 1) := by decide +kernel
set_option maxRecDepth 20000 in
theorem ggX6_cost_X6_isCore : GoodIn wsX6_cost wsX6_isCore := goodIn_r _ [5, 6, 7, 4, 8] (by decide +kernel) (by decide +kernel)
set_option maxRecDepth 20000 in
theorem gX6_cost_X6_isCore : GoodIn wsX6_cost (va_wsS RX6 103 yX6_isCore wsX6_isCore) := goodIn_app (goodIn_of _ (by decide +kernel)) ggX6_cost_X6_isCore
set_option maxRecDepth 20000 in
theorem ggX6_cost_X6_isLine : GoodIn wsX6_cost wsX6_isLine := goodIn_r _ [11, 6, 7, 4, 8] (by decide +kernel) (by decide +kernel)
set_option maxRecDepth 20000 in
theorem gX6_cost_X6_isLine : GoodIn wsX6_cost (va_wsS RX6 107 yX6_isLine wsX6_isLine) := goodIn_app (goodIn_of _ (by decide +kernel)) ggX6_cost_X6_isLine
set_option maxRecDepth 20000 in
theorem ggX6_cost_X6_in : GoodIn wsX6_cost wsX6_in := goodIn_r _ [8] (by decide +kernel) (by decide +kernel)
set_option maxRecDepth 20000 in
theorem gX6_cost_X6_in : GoodIn wsX6_cost (va_wsS RX6 29 yX6_in wsX6_in) := goodIn_app (goodIn_of _ (by decide +kernel)) ggX6_cost_X6_in
set_option maxRecDepth 20000 in
theorem ggX6_cost_X6_putAside : GoodIn wsX6_cost wsX6_putAside := goodIn_r _ [15, 16, 1, 98, 99, 100, 101, 102, 103, 104, 105, 106, 107, 108, 109, 110, 111, 112, 113, 114, 115] (by decide +kernel) (by decide +kernel)
set_option maxRecDepth 20000 in
theorem gX6_cost_X6_putAside : GoodIn wsX6_cost (wsV RX6 173 RX6 yX6_putAside wsX6_putAside) := goodIn_app (goodIn_of _ (by decide +kernel)) ggX6_cost_X6_putAside
set_option maxRecDepth 20000 in
theorem ggX6_cost_X6_sumOf : GoodIn wsX6_cost wsX6_sumOf := goodIn_r _ [20, 1, 21, 22, 4, 23, 98, 99, 100, 101, 102, 103, 104, 105, 106, 107, 108, 109, 110, 111, 112, 113, 114, 115] (by decide +kernel) (by decide +kernel)
set_option maxRecDepth 20000 in
theorem gX6_cost_X6_sumOf : GoodIn wsX6_cost (wsV RX6 202 RX6 yX6_sumOf wsX6_sumOf) := goodIn_app (goodIn_of _ (by decide +kernel)) ggX6_cost_X6_sumOf
set_option maxRecDepth 20000 in
theorem ggX6_cost_X6_writes : GoodIn wsX6_cost wsX6_writes := goodIn_r _ [27, 1, 28, 29, 4, 30, 31, 32, 33, 34, 35, 36, 37, 38, 39, 40, 41, 42, 43, 44, 45, 46, 47, 48, 49, 50, 51, 52, 53, 54, 55, 56, 57, 21, 22, 23, 58, 59, 60, 61, 62, 63, 64, 65, 66, 67, 68, 69, 70, 71, 72, 73, 74, 75, 76, 77, 78, 79, 80, 81, 82, 83, 84, 85, 86, 87, 88, 89, 98, 99, 100, 101, 102, 103, 104, 105, 106, 107, 108, 109, 110, 111, 112, 113, 114, 115] (by decide +kernel) (by decide +kernel)
set_option maxRecDepth 20000 in
theorem gX6_cost_X6_writes : GoodIn wsX6_cost (wsV RX6 116 RX6 yX6_writes wsX6_writes) := goodIn_app (goodIn_of _ (by decide +kernel)) ggX6_cost_X6_writes
set_option maxRecDepth 20000 in
theorem ggX6_cost_X6_reads : GoodIn wsX6_cost wsX6_reads := goodIn_r _ [93, 1, 31, 32, 33, 4, 34, 28, 29, 30, 21, 22, 23, 35, 36, 37, 38, 39, 40, 41, 42, 43, 44, 45, 46, 47, 48, 49, 50, 51, 52, 53, 54, 55, 56, 57, 58, 59, 60, 61, 62, 63, 64, 65, 66, 67, 68, 69, 70, 71, 72, 73, 74, 75, 76, 77, 78, 79, 80, 81, 82, 83, 84, 85, 86, 87, 88, 89, 98, 99, 100, 101, 102, 103, 104, 105, 106, 107, 108, 109, 110, 111, 112, 113, 114, 115] (by decide +kernel) (by decide +kernel)
set_option maxRecDepth 20000 in
theorem gX6_cost_X6_reads : GoodIn wsX6_cost (wsV RX6 113 RX6 yX6_reads wsX6_reads) := goodIn_app (goodIn_of _ (by decide +kernel)) ggX6_cost_X6_reads
set_option maxRecDepth 20000 in
theorem ggX6_cost_X6_putBack : GoodIn wsX6_cost wsX6_putBack := goodIn_r _ [97, 1, 16, 98, 99, 100, 101, 102, 103, 104, 105, 106, 107, 108, 109, 110, 111, 112, 113, 114, 115] (by decide +kernel) (by decide +kernel)
set_option maxRecDepth 20000 in
theorem gX6_cost_X6_putBack : GoodIn wsX6_cost (wsV RX6 179 RX6 yX6_putBack wsX6_putBack) := goodIn_app (goodIn_of _ (by decide +kernel)) ggX6_cost_X6_putBack
theorem dX6_cost_0 : decode cX6_cost 0 = .ok (.iload_n 1, 1) := by decide +kernel
theorem dX6_cost_1 : decode cX6_cost 1 = .ok (.invokestatic 103, 3) := by decide +kernel
theorem dX6_cost_4 : decode cX6_cost 4 = .ok (.ifCond .eq 10, 3) := by decide +kernel
theorem dX6_cost_7 : decode cX6_cost 7 = .ok (.iload_n 2, 1) := by decide +kernel
theorem dX6_cost_8 : decode cX6_cost 8 = .ok (.invokestatic 107, 3) := by decide +kernel
theorem dX6_cost_11 : decode cX6_cost 11 = .ok (.ifCond .ne 5, 3) := by decide +kernel
theorem dX6_cost_14 : decode cX6_cost 14 = .ok (.iconst (-1), 1) := by decide +kernel
theorem dX6_cost_15 : decode cX6_cost 15 = .ok (.ireturn, 1) := by decide +kernel
theorem dX6_cost_16 : decode cX6_cost 16 = .ok (.iload 4, 2) := by decide +kernel
theorem dX6_cost_18 : decode cX6_cost 18 = .ok (.iconst 0, 1) := by decide +kernel
theorem dX6_cost_19 : decode cX6_cost 19 = .ok (.iconst 3, 1) := by decide +kernel
theorem dX6_cost_20 : decode cX6_cost 20 = .ok (.invokestatic 29, 3) := by decide +kernel
theorem dX6_cost_23 : decode cX6_cost 23 = .ok (.ifCond .ne 6, 3) := by decide +kernel
theorem dX6_cost_26 : decode cX6_cost 26 = .ok (.bipush (-2), 2) := by decide +kernel
theorem dX6_cost_28 : decode cX6_cost 28 = .ok (.ireturn, 1) := by decide +kernel
theorem dX6_cost_29 : decode cX6_cost 29 = .ok (.aload_n 0, 1) := by decide +kernel
theorem dX6_cost_30 : decode cX6_cost 30 = .ok (.invokevirtual 173, 3) := by decide +kernel
theorem dX6_cost_33 : decode cX6_cost 33 = .ok (.iload 4, 2) := by decide +kernel
theorem dX6_cost_35 : decode cX6_cost 35 = .ok (.iconst 2, 1) := by decide +kernel
theorem dX6_cost_36 : decode cX6_cost 36 = .ok (.if_icmp .ne 14, 3) := by decide +kernel
theorem dX6_cost_39 : decode cX6_cost 39 = .ok (.aload_n 0, 1) := by decide +kernel
theorem dX6_cost_40 : decode cX6_cost 40 = .ok (.getfield 7, 3) := by decide +kernel
theorem dX6_cost_43 : decode cX6_cost 43 = .ok (.sipush 538, 3) := by decide +kernel
theorem dX6_cost_46 : decode cX6_cost 46 = .ok (.iaload, 1) := by decide +kernel
theorem dX6_cost_47 : decode cX6_cost 47 = .ok (.goto 21, 3) := by decide +kernel
theorem dX6_cost_50 : decode cX6_cost 50 = .ok (.aload_n 0, 1) := by decide +kernel
theorem dX6_cost_51 : decode cX6_cost 51 = .ok (.iload 4, 2) := by decide +kernel
theorem dX6_cost_53 : decode cX6_cost 53 = .ok (.iconst 3, 1) := by decide +kernel
theorem dX6_cost_54 : decode cX6_cost 54 = .ok (.if_icmp .ne 7, 3) := by decide +kernel
theorem dX6_cost_57 : decode cX6_cost 57 = .ok (.iconst 5, 1) := by decide +kernel
theorem dX6_cost_58 : decode cX6_cost 58 = .ok (.goto 7, 3) := by decide +kernel
theorem dX6_cost_61 : decode cX6_cost 61 = .ok (.iconst 2, 1) := by decide +kernel
theorem dX6_cost_62 : decode cX6_cost 62 = .ok (.iload 4, 2) := by decide +kernel
theorem dX6_cost_64 : decode cX6_cost 64 = .ok (.iadd, 1) := by decide +kernel
theorem dX6_cost_65 : decode cX6_cost 65 = .ok (.invokevirtual 202, 3) := by decide +kernel
theorem dX6_cost_68 : decode cX6_cost 68 = .ok (.istore 5, 2) := by decide +kernel
theorem dX6_cost_70 : decode cX6_cost 70 = .ok (.iload_n 3, 1) := by decide +kernel
theorem dX6_cost_71 : decode cX6_cost 71 = .ok (.ifCond .eq 13, 3) := by decide +kernel
theorem dX6_cost_74 : decode cX6_cost 74 = .ok (.aload_n 0, 1) := by decide +kernel
theorem dX6_cost_75 : decode cX6_cost 75 = .ok (.iload_n 1, 1) := by decide +kernel
theorem dX6_cost_76 : decode cX6_cost 76 = .ok (.iload_n 2, 1) := by decide +kernel
theorem dX6_cost_77 : decode cX6_cost 77 = .ok (.iconst 0, 1) := by decide +kernel
theorem dX6_cost_78 : decode cX6_cost 78 = .ok (.invokevirtual 116, 3) := by decide +kernel
theorem dX6_cost_81 : decode cX6_cost 81 = .ok (.goto 9, 3) := by decide +kernel
theorem dX6_cost_84 : decode cX6_cost 84 = .ok (.aload_n 0, 1) := by decide +kernel
theorem dX6_cost_85 : decode cX6_cost 85 = .ok (.iload_n 1, 1) := by decide +kernel
theorem dX6_cost_86 : decode cX6_cost 86 = .ok (.iload_n 2, 1) := by decide +kernel
theorem dX6_cost_87 : decode cX6_cost 87 = .ok (.invokevirtual 113, 3) := by decide +kernel
theorem dX6_cost_90 : decode cX6_cost 90 = .ok (.istore 6, 2) := by decide +kernel
theorem dX6_cost_92 : decode cX6_cost 92 = .ok (.iload 4, 2) := by decide +kernel
theorem dX6_cost_94 : decode cX6_cost 94 = .ok (.iconst 2, 1) := by decide +kernel
theorem dX6_cost_95 : decode cX6_cost 95 = .ok (.if_icmp .ne 14, 3) := by decide +kernel
theorem dX6_cost_98 : decode cX6_cost 98 = .ok (.aload_n 0, 1) := by decide +kernel
theorem dX6_cost_99 : decode cX6_cost 99 = .ok (.getfield 7, 3) := by decide +kernel
theorem dX6_cost_102 : decode cX6_cost 102 = .ok (.sipush 538, 3) := by decide +kernel
theorem dX6_cost_105 : decode cX6_cost 105 = .ok (.iaload, 1) := by decide +kernel
theorem dX6_cost_106 : decode cX6_cost 106 = .ok (.goto 21, 3) := by decide +kernel
theorem dX6_cost_109 : decode cX6_cost 109 = .ok (.aload_n 0, 1) := by decide +kernel
theorem dX6_cost_110 : decode cX6_cost 110 = .ok (.iload 4, 2) := by decide +kernel
theorem dX6_cost_112 : decode cX6_cost 112 = .ok (.iconst 3, 1) := by decide +kernel
theorem dX6_cost_113 : decode cX6_cost 113 = .ok (.if_icmp .ne 7, 3) := by decide +kernel
theorem dX6_cost_116 : decode cX6_cost 116 = .ok (.iconst 5, 1) := by decide +kernel
theorem dX6_cost_117 : decode cX6_cost 117 = .ok (.goto 7, 3) := by decide +kernel
theorem dX6_cost_120 : decode cX6_cost 120 = .ok (.iconst 2, 1) := by decide +kernel
theorem dX6_cost_121 : decode cX6_cost 121 = .ok (.iload 4, 2) := by decide +kernel
theorem dX6_cost_123 : decode cX6_cost 123 = .ok (.iadd, 1) := by decide +kernel
theorem dX6_cost_124 : decode cX6_cost 124 = .ok (.invokevirtual 202, 3) := by decide +kernel
theorem dX6_cost_127 : decode cX6_cost 127 = .ok (.istore 7, 2) := by decide +kernel
theorem dX6_cost_129 : decode cX6_cost 129 = .ok (.aload_n 0, 1) := by decide +kernel
theorem dX6_cost_130 : decode cX6_cost 130 = .ok (.invokevirtual 179, 3) := by decide +kernel
theorem dX6_cost_133 : decode cX6_cost 133 = .ok (.iload 7, 2) := by decide +kernel
theorem dX6_cost_135 : decode cX6_cost 135 = .ok (.iload 5, 2) := by decide +kernel
theorem dX6_cost_137 : decode cX6_cost 137 = .ok (.isub, 1) := by decide +kernel
theorem dX6_cost_138 : decode cX6_cost 138 = .ok (.ireturn, 1) := by decide +kernel
set_option maxRecDepth 20000 in
theorem ggX6_vain_X6_isCore : GoodIn wsX6_vain wsX6_isCore := goodIn_r _ [4, 5, 6, 3, 7] (by decide +kernel) (by decide +kernel)
set_option maxRecDepth 20000 in
theorem gX6_vain_X6_isCore : GoodIn wsX6_vain (va_wsS RX6 103 yX6_isCore wsX6_isCore) := goodIn_app (goodIn_of _ (by decide +kernel)) ggX6_vain_X6_isCore
set_option maxRecDepth 20000 in
theorem ggX6_vain_X6_mayHave : GoodIn wsX6_vain wsX6_mayHave := goodIn_r _ [11, 12, 13, 14, 15, 3, 16, 17, 18, 19, 20, 21, 22, 23, 31, 32, 33, 34, 35, 36, 37, 38, 39, 40, 41, 42, 43, 44, 45, 46, 47, 48] (by decide +kernel) (by decide +kernel)
set_option maxRecDepth 20000 in
theorem gX6_vain_X6_mayHave : GoodIn wsX6_vain (wsV RX6 78 RX6 yX6_mayHave wsX6_mayHave) := goodIn_app (goodIn_of _ (by decide +kernel)) ggX6_vain_X6_mayHave
set_option maxRecDepth 20000 in
theorem ggX6_vain_X6_holds : GoodIn wsX6_vain wsX6_holds := goodIn_r _ [27, 12, 28, 29, 3, 30, 31, 32, 33, 34, 35, 36, 37, 38, 39, 40, 41, 42, 43, 44, 45, 46, 47, 48] (by decide +kernel) (by decide +kernel)
set_option maxRecDepth 20000 in
theorem gX6_vain_X6_holds : GoodIn wsX6_vain (wsV RX6 81 RX6 yX6_holds wsX6_holds) := goodIn_app (goodIn_of _ (by decide +kernel)) ggX6_vain_X6_holds
theorem dX6_vain_0 : decode cX6_vain 0 = .ok (.iload_n 1, 1) := by decide +kernel
theorem dX6_vain_1 : decode cX6_vain 1 = .ok (.invokestatic 103, 3) := by decide +kernel
theorem dX6_vain_4 : decode cX6_vain 4 = .ok (.ifCond .ne 5, 3) := by decide +kernel
theorem dX6_vain_7 : decode cX6_vain 7 = .ok (.iconst (-1), 1) := by decide +kernel
theorem dX6_vain_8 : decode cX6_vain 8 = .ok (.ireturn, 1) := by decide +kernel
theorem dX6_vain_9 : decode cX6_vain 9 = .ok (.iconst 0, 1) := by decide +kernel
theorem dX6_vain_10 : decode cX6_vain 10 = .ok (.istore_n 2, 1) := by decide +kernel
theorem dX6_vain_11 : decode cX6_vain 11 = .ok (.iconst 0, 1) := by decide +kernel
theorem dX6_vain_12 : decode cX6_vain 12 = .ok (.istore_n 3, 1) := by decide +kernel
theorem dX6_vain_13 : decode cX6_vain 13 = .ok (.iload_n 3, 1) := by decide +kernel
theorem dX6_vain_14 : decode cX6_vain 14 = .ok (.sipush 256, 3) := by decide +kernel
theorem dX6_vain_17 : decode cX6_vain 17 = .ok (.if_icmp .ge 35, 3) := by decide +kernel
theorem dX6_vain_20 : decode cX6_vain 20 = .ok (.iload_n 2, 1) := by decide +kernel
theorem dX6_vain_21 : decode cX6_vain 21 = .ok (.aload_n 0, 1) := by decide +kernel
theorem dX6_vain_22 : decode cX6_vain 22 = .ok (.iload_n 1, 1) := by decide +kernel
theorem dX6_vain_23 : decode cX6_vain 23 = .ok (.iload_n 3, 1) := by decide +kernel
theorem dX6_vain_24 : decode cX6_vain 24 = .ok (.invokevirtual 78, 3) := by decide +kernel
theorem dX6_vain_27 : decode cX6_vain 27 = .ok (.ifCond .eq 16, 3) := by decide +kernel
theorem dX6_vain_30 : decode cX6_vain 30 = .ok (.aload_n 0, 1) := by decide +kernel
theorem dX6_vain_31 : decode cX6_vain 31 = .ok (.iload_n 1, 1) := by decide +kernel
theorem dX6_vain_32 : decode cX6_vain 32 = .ok (.iload_n 3, 1) := by decide +kernel
theorem dX6_vain_33 : decode cX6_vain 33 = .ok (.invokevirtual 81, 3) := by decide +kernel
theorem dX6_vain_36 : decode cX6_vain 36 = .ok (.ifCond .ne 7, 3) := by decide +kernel
theorem dX6_vain_39 : decode cX6_vain 39 = .ok (.iconst 1, 1) := by decide +kernel
theorem dX6_vain_40 : decode cX6_vain 40 = .ok (.goto 4, 3) := by decide +kernel
theorem dX6_vain_43 : decode cX6_vain 43 = .ok (.iconst 0, 1) := by decide +kernel
theorem dX6_vain_44 : decode cX6_vain 44 = .ok (.iadd, 1) := by decide +kernel
theorem dX6_vain_45 : decode cX6_vain 45 = .ok (.istore_n 2, 1) := by decide +kernel
theorem dX6_vain_46 : decode cX6_vain 46 = .ok (.iinc 3 1, 3) := by decide +kernel
theorem dX6_vain_49 : decode cX6_vain 49 = .ok (.goto (-36), 3) := by decide +kernel
theorem dX6_vain_52 : decode cX6_vain 52 = .ok (.iload_n 2, 1) := by decide +kernel
theorem dX6_vain_53 : decode cX6_vain 53 = .ok (.ireturn, 1) := by decide +kernel
set_option maxRecDepth 20000 in
theorem ggX6_worst_X6_told : GoodIn wsX6_worst wsX6_told := goodIn_r _ [5] (by decide +kernel) (by decide +kernel)
set_option maxRecDepth 20000 in
theorem gX6_worst_X6_told : GoodIn wsX6_worst (va_wsS RX6 66 yX6_told wsX6_told) := goodIn_app (goodIn_of _ (by decide +kernel)) ggX6_worst_X6_told
theorem dX6_worst_0 : decode cX6_worst 0 = .ok (.bipush (-5), 2) := by decide +kernel
theorem dX6_worst_2 : decode cX6_worst 2 = .ok (.istore_n 1, 1) := by decide +kernel
theorem dX6_worst_3 : decode cX6_worst 3 = .ok (.iconst 0, 1) := by decide +kernel
theorem dX6_worst_4 : decode cX6_worst 4 = .ok (.istore_n 2, 1) := by decide +kernel
theorem dX6_worst_5 : decode cX6_worst 5 = .ok (.iconst 0, 1) := by decide +kernel
theorem dX6_worst_6 : decode cX6_worst 6 = .ok (.istore_n 3, 1) := by decide +kernel
theorem dX6_worst_7 : decode cX6_worst 7 = .ok (.iload_n 3, 1) := by decide +kernel
theorem dX6_worst_8 : decode cX6_worst 8 = .ok (.iconst 4, 1) := by decide +kernel
theorem dX6_worst_9 : decode cX6_worst 9 = .ok (.if_icmp .ge 46, 3) := by decide +kernel
theorem dX6_worst_12 : decode cX6_worst 12 = .ok (.aload_n 0, 1) := by decide +kernel
theorem dX6_worst_13 : decode cX6_worst 13 = .ok (.getfield 7, 3) := by decide +kernel
theorem dX6_worst_16 : decode cX6_worst 16 = .ok (.iload_n 3, 1) := by decide +kernel
theorem dX6_worst_17 : decode cX6_worst 17 = .ok (.iconst 3, 1) := by decide +kernel
theorem dX6_worst_18 : decode cX6_worst 18 = .ok (.invokestatic 66, 3) := by decide +kernel
theorem dX6_worst_21 : decode cX6_worst 21 = .ok (.iaload, 1) := by decide +kernel
theorem dX6_worst_22 : decode cX6_worst 22 = .ok (.istore 4, 2) := by decide +kernel
theorem dX6_worst_24 : decode cX6_worst 24 = .ok (.iload 4, 2) := by decide +kernel
theorem dX6_worst_26 : decode cX6_worst 26 = .ok (.iload_n 2, 1) := by decide +kernel
theorem dX6_worst_27 : decode cX6_worst 27 = .ok (.if_icmp .le 7, 3) := by decide +kernel
theorem dX6_worst_30 : decode cX6_worst 30 = .ok (.iload_n 3, 1) := by decide +kernel
theorem dX6_worst_31 : decode cX6_worst 31 = .ok (.goto 4, 3) := by decide +kernel
theorem dX6_worst_34 : decode cX6_worst 34 = .ok (.iload_n 1, 1) := by decide +kernel
theorem dX6_worst_35 : decode cX6_worst 35 = .ok (.istore_n 1, 1) := by decide +kernel
theorem dX6_worst_36 : decode cX6_worst 36 = .ok (.iload 4, 2) := by decide +kernel
theorem dX6_worst_38 : decode cX6_worst 38 = .ok (.iload_n 2, 1) := by decide +kernel
theorem dX6_worst_39 : decode cX6_worst 39 = .ok (.if_icmp .le 8, 3) := by decide +kernel
theorem dX6_worst_42 : decode cX6_worst 42 = .ok (.iload 4, 2) := by decide +kernel
theorem dX6_worst_44 : decode cX6_worst 44 = .ok (.goto 4, 3) := by decide +kernel
theorem dX6_worst_47 : decode cX6_worst 47 = .ok (.iload_n 2, 1) := by decide +kernel
theorem dX6_worst_48 : decode cX6_worst 48 = .ok (.istore_n 2, 1) := by decide +kernel
theorem dX6_worst_49 : decode cX6_worst 49 = .ok (.iinc 3 1, 3) := by decide +kernel
theorem dX6_worst_52 : decode cX6_worst 52 = .ok (.goto (-45), 3) := by decide +kernel
theorem dX6_worst_55 : decode cX6_worst 55 = .ok (.iload_n 1, 1) := by decide +kernel
theorem dX6_worst_56 : decode cX6_worst 56 = .ok (.ireturn, 1) := by decide +kernel
set_option maxRecDepth 20000 in
theorem ggX6_count_X6_lines : GoodIn wsX6_count wsX6_lines := goodIn_r _ [8, 9, 10, 11, 7, 12, 1, 24, 25, 26, 27, 28, 29, 30, 31, 32, 33, 34, 35, 36, 37, 38, 39, 40, 41] (by decide +kernel) (by decide +kernel)
set_option maxRecDepth 20000 in
theorem gX6_count_X6_lines : GoodIn wsX6_count (wsV RX6 185 RX6 yX6_lines wsX6_lines) := goodIn_app (goodIn_of _ (by decide +kernel)) ggX6_count_X6_lines
set_option maxRecDepth 20000 in
theorem ggX6_count_X6_dirtyOf : GoodIn wsX6_count wsX6_dirtyOf := goodIn_r _ [16, 1, 24, 25, 26, 27, 28, 29, 30, 31, 32, 33, 34, 35, 36, 37, 38, 39, 40, 41] (by decide +kernel) (by decide +kernel)
set_option maxRecDepth 20000 in
theorem gX6_count_X6_dirtyOf : GoodIn wsX6_count (wsV RX6 189 RX6 yX6_dirtyOf wsX6_dirtyOf) := goodIn_app (goodIn_of _ (by decide +kernel)) ggX6_count_X6_dirtyOf
set_option maxRecDepth 20000 in
theorem ggX6_count_X6_sumOf : GoodIn wsX6_count wsX6_sumOf := goodIn_r _ [20, 1, 21, 22, 7, 23, 24, 25, 26, 27, 28, 29, 30, 31, 32, 33, 34, 35, 36, 37, 38, 39, 40, 41] (by decide +kernel) (by decide +kernel)
set_option maxRecDepth 20000 in
theorem gX6_count_X6_sumOf : GoodIn wsX6_count (wsV RX6 202 RX6 yX6_sumOf wsX6_sumOf) := goodIn_app (goodIn_of _ (by decide +kernel)) ggX6_count_X6_sumOf
theorem dX6_count_0 : decode cX6_count 0 = .ok (.iload_n 1, 1) := by decide +kernel
theorem dX6_count_1 : decode cX6_count 1 = .ok (.tableswitch 163 0 13 #[71, 76, 100, 100, 100, 106, 115, 121, 121, 130, 139, 139, 153, 158], 71) := by decide +kernel
theorem dX6_count_72 : decode cX6_count 72 = .ok (.aload_n 0, 1) := by decide +kernel
theorem dX6_count_73 : decode cX6_count 73 = .ok (.invokevirtual 185, 3) := by decide +kernel
theorem dX6_count_76 : decode cX6_count 76 = .ok (.ireturn, 1) := by decide +kernel
theorem dX6_count_77 : decode cX6_count 77 = .ok (.aload_n 0, 1) := by decide +kernel
theorem dX6_count_78 : decode cX6_count 78 = .ok (.iconst 0, 1) := by decide +kernel
theorem dX6_count_79 : decode cX6_count 79 = .ok (.invokevirtual 189, 3) := by decide +kernel
theorem dX6_count_82 : decode cX6_count 82 = .ok (.aload_n 0, 1) := by decide +kernel
theorem dX6_count_83 : decode cX6_count 83 = .ok (.iconst 1, 1) := by decide +kernel
theorem dX6_count_84 : decode cX6_count 84 = .ok (.invokevirtual 189, 3) := by decide +kernel
theorem dX6_count_87 : decode cX6_count 87 = .ok (.iadd, 1) := by decide +kernel
theorem dX6_count_88 : decode cX6_count 88 = .ok (.aload_n 0, 1) := by decide +kernel
theorem dX6_count_89 : decode cX6_count 89 = .ok (.iconst 2, 1) := by decide +kernel
theorem dX6_count_90 : decode cX6_count 90 = .ok (.invokevirtual 189, 3) := by decide +kernel
theorem dX6_count_93 : decode cX6_count 93 = .ok (.iadd, 1) := by decide +kernel
theorem dX6_count_94 : decode cX6_count 94 = .ok (.aload_n 0, 1) := by decide +kernel
theorem dX6_count_95 : decode cX6_count 95 = .ok (.iconst 3, 1) := by decide +kernel
theorem dX6_count_96 : decode cX6_count 96 = .ok (.invokevirtual 189, 3) := by decide +kernel
theorem dX6_count_99 : decode cX6_count 99 = .ok (.iadd, 1) := by decide +kernel
theorem dX6_count_100 : decode cX6_count 100 = .ok (.ireturn, 1) := by decide +kernel
theorem dX6_count_101 : decode cX6_count 101 = .ok (.aload_n 0, 1) := by decide +kernel
theorem dX6_count_102 : decode cX6_count 102 = .ok (.iload_n 1, 1) := by decide +kernel
theorem dX6_count_103 : decode cX6_count 103 = .ok (.invokevirtual 202, 3) := by decide +kernel
theorem dX6_count_106 : decode cX6_count 106 = .ok (.ireturn, 1) := by decide +kernel
theorem dX6_count_107 : decode cX6_count 107 = .ok (.aload_n 0, 1) := by decide +kernel
theorem dX6_count_108 : decode cX6_count 108 = .ok (.getfield 7, 3) := by decide +kernel
theorem dX6_count_111 : decode cX6_count 111 = .ok (.sipush 538, 3) := by decide +kernel
theorem dX6_count_114 : decode cX6_count 114 = .ok (.iaload, 1) := by decide +kernel
theorem dX6_count_115 : decode cX6_count 115 = .ok (.ireturn, 1) := by decide +kernel
theorem dX6_count_116 : decode cX6_count 116 = .ok (.aload_n 0, 1) := by decide +kernel
theorem dX6_count_117 : decode cX6_count 117 = .ok (.iconst 5, 1) := by decide +kernel
theorem dX6_count_118 : decode cX6_count 118 = .ok (.invokevirtual 202, 3) := by decide +kernel
theorem dX6_count_121 : decode cX6_count 121 = .ok (.ireturn, 1) := by decide +kernel
theorem dX6_count_122 : decode cX6_count 122 = .ok (.aload_n 0, 1) := by decide +kernel
theorem dX6_count_123 : decode cX6_count 123 = .ok (.iload_n 1, 1) := by decide +kernel
theorem dX6_count_124 : decode cX6_count 124 = .ok (.bipush 7, 2) := by decide +kernel
theorem dX6_count_126 : decode cX6_count 126 = .ok (.isub, 1) := by decide +kernel
theorem dX6_count_127 : decode cX6_count 127 = .ok (.invokevirtual 202, 3) := by decide +kernel
theorem dX6_count_130 : decode cX6_count 130 = .ok (.ireturn, 1) := by decide +kernel
theorem dX6_count_131 : decode cX6_count 131 = .ok (.aload_n 0, 1) := by decide +kernel
theorem dX6_count_132 : decode cX6_count 132 = .ok (.getfield 7, 3) := by decide +kernel
theorem dX6_count_135 : decode cX6_count 135 = .ok (.sipush 539, 3) := by decide +kernel
theorem dX6_count_138 : decode cX6_count 138 = .ok (.iaload, 1) := by decide +kernel
theorem dX6_count_139 : decode cX6_count 139 = .ok (.ireturn, 1) := by decide +kernel
theorem dX6_count_140 : decode cX6_count 140 = .ok (.aload_n 0, 1) := by decide +kernel
theorem dX6_count_141 : decode cX6_count 141 = .ok (.getfield 7, 3) := by decide +kernel
theorem dX6_count_144 : decode cX6_count 144 = .ok (.sipush 536, 3) := by decide +kernel
theorem dX6_count_147 : decode cX6_count 147 = .ok (.iload_n 1, 1) := by decide +kernel
theorem dX6_count_148 : decode cX6_count 148 = .ok (.iadd, 1) := by decide +kernel
theorem dX6_count_149 : decode cX6_count 149 = .ok (.bipush 10, 2) := by decide +kernel
theorem dX6_count_151 : decode cX6_count 151 = .ok (.isub, 1) := by decide +kernel
theorem dX6_count_152 : decode cX6_count 152 = .ok (.iaload, 1) := by decide +kernel
theorem dX6_count_153 : decode cX6_count 153 = .ok (.ireturn, 1) := by decide +kernel
theorem dX6_count_154 : decode cX6_count 154 = .ok (.aload_n 0, 1) := by decide +kernel
theorem dX6_count_155 : decode cX6_count 155 = .ok (.getfield 33, 3) := by decide +kernel
theorem dX6_count_158 : decode cX6_count 158 = .ok (.ireturn, 1) := by decide +kernel
theorem dX6_count_159 : decode cX6_count 159 = .ok (.aload_n 0, 1) := by decide +kernel
theorem dX6_count_160 : decode cX6_count 160 = .ok (.getfield 125, 3) := by decide +kernel
theorem dX6_count_163 : decode cX6_count 163 = .ok (.ireturn, 1) := by decide +kernel
theorem dX6_count_164 : decode cX6_count 164 = .ok (.bipush (-2), 2) := by decide +kernel
theorem dX6_count_166 : decode cX6_count 166 = .ok (.ireturn, 1) := by decide +kernel
