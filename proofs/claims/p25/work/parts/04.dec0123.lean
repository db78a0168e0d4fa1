set_option maxRecDepth 20000 in
theorem ggX0_init_X1_init : GoodIn wsX0_init wsX1_init := goodIn_r _ [15, 16, 2, 3, 4, 17, 7, 18, 19, 25, 26, 27] (by decide +kernel) (by decide +kernel)
set_option maxRecDepth 20000 in
theorem gX0_init_X1_init_n27 : GoodIn wsX0_init (wsX1_init) := ggX0_init_X1_init
theorem dX0_init_0 : decode cX0_init 0 = .ok (.aload_n 0, 1) := by decide +kernel
theorem dX0_init_1 : decode cX0_init 1 = .ok (.invokespecial 3, 3) := by decide +kernel
theorem dX0_init_4 : decode cX0_init 4 = .ok (.aload_n 0, 1) := by decide +kernel
theorem dX0_init_5 : decode cX0_init 5 = .ok (.bipush 8, 2) := by decide +kernel
theorem dX0_init_7 : decode cX0_init 7 = .ok (.newarray .int, 2) := by decide +kernel
theorem dX0_init_9 : decode cX0_init 9 = .ok (.putfield 9, 3) := by decide +kernel
theorem dX0_init_12 : decode cX0_init 12 = .ok (.aload_n 0, 1) := by decide +kernel
theorem dX0_init_13 : decode cX0_init 13 = .ok (.bipush 8, 2) := by decide +kernel
theorem dX0_init_15 : decode cX0_init 15 = .ok (.newarray .int, 2) := by decide +kernel
theorem dX0_init_17 : decode cX0_init 17 = .ok (.putfield 15, 3) := by decide +kernel
theorem dX0_init_20 : decode cX0_init 20 = .ok (.aload_n 0, 1) := by decide +kernel
theorem dX0_init_21 : decode cX0_init 21 = .ok (.bipush 8, 2) := by decide +kernel
theorem dX0_init_23 : decode cX0_init 23 = .ok (.newarray .boolean, 2) := by decide +kernel
theorem dX0_init_25 : decode cX0_init 25 = .ok (.putfield 18, 3) := by decide +kernel
theorem dX0_init_28 : decode cX0_init 28 = .ok (.aload_n 0, 1) := by decide +kernel
theorem dX0_init_29 : decode cX0_init 29 = .ok (.bipush 6, 2) := by decide +kernel
theorem dX0_init_31 : decode cX0_init 31 = .ok (.newarray .int, 2) := by decide +kernel
theorem dX0_init_33 : decode cX0_init 33 = .ok (.putfield 22, 3) := by decide +kernel
theorem dX0_init_36 : decode cX0_init 36 = .ok (.aload_n 0, 1) := by decide +kernel
theorem dX0_init_37 : decode cX0_init 37 = .ok (.new 25, 3) := by decide +kernel
theorem dX0_init_40 : decode cX0_init 40 = .ok (.dup, 1) := by decide +kernel
theorem dX0_init_41 : decode cX0_init 41 = .ok (.invokespecial 27, 3) := by decide +kernel
theorem dX0_init_44 : decode cX0_init 44 = .ok (.putfield 28, 3) := by decide +kernel
theorem dX0_init_47 : decode cX0_init 47 = .ok (.iconst 0, 1) := by decide +kernel
theorem dX0_init_48 : decode cX0_init 48 = .ok (.istore_n 1, 1) := by decide +kernel
theorem dX0_init_49 : decode cX0_init 49 = .ok (.iload_n 1, 1) := by decide +kernel
theorem dX0_init_50 : decode cX0_init 50 = .ok (.bipush 8, 2) := by decide +kernel
theorem dX0_init_52 : decode cX0_init 52 = .ok (.if_icmp .ge 16, 3) := by decide +kernel
theorem dX0_init_55 : decode cX0_init 55 = .ok (.aload_n 0, 1) := by decide +kernel
theorem dX0_init_56 : decode cX0_init 56 = .ok (.getfield 9, 3) := by decide +kernel
theorem dX0_init_59 : decode cX0_init 59 = .ok (.iload_n 1, 1) := by decide +kernel
theorem dX0_init_60 : decode cX0_init 60 = .ok (.iconst (-1), 1) := by decide +kernel
theorem dX0_init_61 : decode cX0_init 61 = .ok (.iastore, 1) := by decide +kernel
theorem dX0_init_62 : decode cX0_init 62 = .ok (.iinc 1 1, 3) := by decide +kernel
theorem dX0_init_65 : decode cX0_init 65 = .ok (.goto (-16), 3) := by decide +kernel
theorem dX0_init_68 : decode cX0_init 68 = .ok (.return_, 1) := by decide +kernel
theorem dX0_placeOf_0 : decode cX0_placeOf 0 = .ok (.iload_n 0, 1) := by decide +kernel
theorem dX0_placeOf_1 : decode cX0_placeOf 1 = .ok (.bipush 8, 2) := by decide +kernel
theorem dX0_placeOf_3 : decode cX0_placeOf 3 = .ok (.irem, 1) := by decide +kernel
theorem dX0_placeOf_4 : decode cX0_placeOf 4 = .ok (.ireturn, 1) := by decide +kernel
set_option maxRecDepth 20000 in
theorem ggX0_holds_X0_placeOf : GoodIn wsX0_holds wsX0_placeOf := goodIn_r _ [5] (by decide +kernel) (by decide +kernel)
set_option maxRecDepth 20000 in
theorem gX0_holds_X0_placeOf : GoodIn wsX0_holds (va_wsS RX0 32 yX0_placeOf wsX0_placeOf) := goodIn_app (goodIn_of _ (by decide +kernel)) ggX0_holds_X0_placeOf
theorem dX0_holds_0 : decode cX0_holds 0 = .ok (.aload_n 0, 1) := by decide +kernel
theorem dX0_holds_1 : decode cX0_holds 1 = .ok (.getfield 9, 3) := by decide +kernel
theorem dX0_holds_4 : decode cX0_holds 4 = .ok (.iload_n 1, 1) := by decide +kernel
theorem dX0_holds_5 : decode cX0_holds 5 = .ok (.invokestatic 32, 3) := by decide +kernel
theorem dX0_holds_8 : decode cX0_holds 8 = .ok (.iaload, 1) := by decide +kernel
theorem dX0_holds_9 : decode cX0_holds 9 = .ok (.iload_n 1, 1) := by decide +kernel
theorem dX0_holds_10 : decode cX0_holds 10 = .ok (.if_icmp .ne 7, 3) := by decide +kernel
theorem dX0_holds_13 : decode cX0_holds 13 = .ok (.iconst 1, 1) := by decide +kernel
theorem dX0_holds_14 : decode cX0_holds 14 = .ok (.goto 4, 3) := by decide +kernel
theorem dX0_holds_17 : decode cX0_holds 17 = .ok (.iconst 0, 1) := by decide +kernel
theorem dX0_holds_18 : decode cX0_holds 18 = .ok (.ireturn, 1) := by decide +kernel
set_option maxRecDepth 20000 in
theorem ggX0_holdsDirty_X0_holds : GoodIn wsX0_holdsDirty wsX0_holds := goodIn_r _ [6, 7, 8, 9, 5, 10, 11, 12, 13, 14, 15] (by decide +kernel) (by decide +kernel)
set_option maxRecDepth 20000 in
theorem gX0_holdsDirty_X0_holds : GoodIn wsX0_holdsDirty (wsV RX0 36 RX0 yX0_holds wsX0_holds) := goodIn_app (goodIn_of _ (by decide +kernel)) ggX0_holdsDirty_X0_holds
set_option maxRecDepth 20000 in
theorem ggX0_holdsDirty_X0_placeOf : GoodIn wsX0_holdsDirty wsX0_placeOf := goodIn_r _ [10] (by decide +kernel) (by decide +kernel)
set_option maxRecDepth 20000 in
theorem gX0_holdsDirty_X0_placeOf : GoodIn wsX0_holdsDirty (va_wsS RX0 32 yX0_placeOf wsX0_placeOf) := goodIn_app (goodIn_of _ (by decide +kernel)) ggX0_holdsDirty_X0_placeOf
theorem dX0_holdsDirty_0 : decode cX0_holdsDirty 0 = .ok (.aload_n 0, 1) := by decide +kernel
theorem dX0_holdsDirty_1 : decode cX0_holdsDirty 1 = .ok (.iload_n 1, 1) := by decide +kernel
theorem dX0_holdsDirty_2 : decode cX0_holdsDirty 2 = .ok (.invokevirtual 36, 3) := by decide +kernel
theorem dX0_holdsDirty_5 : decode cX0_holdsDirty 5 = .ok (.ifCond .eq 19, 3) := by decide +kernel
theorem dX0_holdsDirty_8 : decode cX0_holdsDirty 8 = .ok (.aload_n 0, 1) := by decide +kernel
theorem dX0_holdsDirty_9 : decode cX0_holdsDirty 9 = .ok (.getfield 18, 3) := by decide +kernel
theorem dX0_holdsDirty_12 : decode cX0_holdsDirty 12 = .ok (.iload_n 1, 1) := by decide +kernel
theorem dX0_holdsDirty_13 : decode cX0_holdsDirty 13 = .ok (.invokestatic 32, 3) := by decide +kernel
theorem dX0_holdsDirty_16 : decode cX0_holdsDirty 16 = .ok (.baload, 1) := by decide +kernel
theorem dX0_holdsDirty_17 : decode cX0_holdsDirty 17 = .ok (.ifCond .eq 7, 3) := by decide +kernel
theorem dX0_holdsDirty_20 : decode cX0_holdsDirty 20 = .ok (.iconst 1, 1) := by decide +kernel
theorem dX0_holdsDirty_21 : decode cX0_holdsDirty 21 = .ok (.goto 4, 3) := by decide +kernel
theorem dX0_holdsDirty_24 : decode cX0_holdsDirty 24 = .ok (.iconst 0, 1) := by decide +kernel
theorem dX0_holdsDirty_25 : decode cX0_holdsDirty 25 = .ok (.ireturn, 1) := by decide +kernel
set_option maxRecDepth 20000 in
theorem ggX0_fill_X0_placeOf : GoodIn wsX0_fill wsX0_placeOf := goodIn_r _ [7] (by decide +kernel) (by decide +kernel)
set_option maxRecDepth 20000 in
theorem gX0_fill_X0_placeOf : GoodIn wsX0_fill (va_wsS RX0 32 yX0_placeOf wsX0_placeOf) := goodIn_app (goodIn_of _ (by decide +kernel)) ggX0_fill_X0_placeOf
theorem dX0_fill_0 : decode cX0_fill 0 = .ok (.iload_n 1, 1) := by decide +kernel
theorem dX0_fill_1 : decode cX0_fill 1 = .ok (.invokestatic 32, 3) := by decide +kernel
theorem dX0_fill_4 : decode cX0_fill 4 = .ok (.istore 4, 2) := by decide +kernel
theorem dX0_fill_6 : decode cX0_fill 6 = .ok (.aload_n 0, 1) := by decide +kernel
theorem dX0_fill_7 : decode cX0_fill 7 = .ok (.getfield 9, 3) := by decide +kernel
theorem dX0_fill_10 : decode cX0_fill 10 = .ok (.iload 4, 2) := by decide +kernel
theorem dX0_fill_12 : decode cX0_fill 12 = .ok (.iload_n 1, 1) := by decide +kernel
theorem dX0_fill_13 : decode cX0_fill 13 = .ok (.iastore, 1) := by decide +kernel
theorem dX0_fill_14 : decode cX0_fill 14 = .ok (.aload_n 0, 1) := by decide +kernel
theorem dX0_fill_15 : decode cX0_fill 15 = .ok (.getfield 15, 3) := by decide +kernel
theorem dX0_fill_18 : decode cX0_fill 18 = .ok (.iload 4, 2) := by decide +kernel
theorem dX0_fill_20 : decode cX0_fill 20 = .ok (.iload_n 2, 1) := by decide +kernel
theorem dX0_fill_21 : decode cX0_fill 21 = .ok (.iastore, 1) := by decide +kernel
theorem dX0_fill_22 : decode cX0_fill 22 = .ok (.aload_n 0, 1) := by decide +kernel
theorem dX0_fill_23 : decode cX0_fill 23 = .ok (.getfield 18, 3) := by decide +kernel
theorem dX0_fill_26 : decode cX0_fill 26 = .ok (.iload 4, 2) := by decide +kernel
theorem dX0_fill_28 : decode cX0_fill 28 = .ok (.iload_n 3, 1) := by decide +kernel
theorem dX0_fill_29 : decode cX0_fill 29 = .ok (.bastore, 1) := by decide +kernel
theorem dX0_fill_30 : decode cX0_fill 30 = .ok (.return_, 1) := by decide +kernel
theorem dX0_empty_0 : decode cX0_empty 0 = .ok (.aload_n 0, 1) := by decide +kernel
theorem dX0_empty_1 : decode cX0_empty 1 = .ok (.getfield 9, 3) := by decide +kernel
theorem dX0_empty_4 : decode cX0_empty 4 = .ok (.iload_n 1, 1) := by decide +kernel
theorem dX0_empty_5 : decode cX0_empty 5 = .ok (.iconst (-1), 1) := by decide +kernel
theorem dX0_empty_6 : decode cX0_empty 6 = .ok (.iastore, 1) := by decide +kernel
theorem dX0_empty_7 : decode cX0_empty 7 = .ok (.aload_n 0, 1) := by decide +kernel
theorem dX0_empty_8 : decode cX0_empty 8 = .ok (.getfield 18, 3) := by decide +kernel
theorem dX0_empty_11 : decode cX0_empty 11 = .ok (.iload_n 1, 1) := by decide +kernel
theorem dX0_empty_12 : decode cX0_empty 12 = .ok (.iconst 0, 1) := by decide +kernel
theorem dX0_empty_13 : decode cX0_empty 13 = .ok (.bastore, 1) := by decide +kernel
theorem dX0_empty_14 : decode cX0_empty 14 = .ok (.return_, 1) := by decide +kernel
set_option maxRecDepth 20000 in
theorem ggX0_release_X1_remove : GoodIn wsX0_release wsX1_remove := goodIn_r _ [6, 7, 8, 5, 9, 10, 11, 12, 13, 14, 15, 16, 17, 18, 34, 35, 36] (by decide +kernel) (by decide +kernel)
set_option maxRecDepth 20000 in
theorem gX0_release_X1_remove : GoodIn wsX0_release (wsV RX0 40 RX1 yX1_remove wsX1_remove) := goodIn_app (goodIn_of _ (by decide +kernel)) ggX0_release_X1_remove
set_option maxRecDepth 20000 in
theorem ggX0_release_X0_placeOf : GoodIn wsX0_release wsX0_placeOf := goodIn_r _ [22] (by decide +kernel) (by decide +kernel)
set_option maxRecDepth 20000 in
theorem gX0_release_X0_placeOf : GoodIn wsX0_release (va_wsS RX0 32 yX0_placeOf wsX0_placeOf) := goodIn_app (goodIn_of _ (by decide +kernel)) ggX0_release_X0_placeOf
set_option maxRecDepth 20000 in
theorem ggX0_release_X0_empty : GoodIn wsX0_release wsX0_empty := goodIn_r _ [26, 27, 28, 29, 30, 31, 32, 33] (by decide +kernel) (by decide +kernel)
set_option maxRecDepth 20000 in
theorem gX0_release_X0_empty : GoodIn wsX0_release (wsV RX0 44 RX0 yX0_empty wsX0_empty) := goodIn_app (goodIn_of _ (by decide +kernel)) ggX0_release_X0_empty
theorem dX0_release_0 : decode cX0_release 0 = .ok (.aload_n 0, 1) := by decide +kernel
theorem dX0_release_1 : decode cX0_release 1 = .ok (.getfield 28, 3) := by decide +kernel
theorem dX0_release_4 : decode cX0_release 4 = .ok (.iload_n 1, 1) := by decide +kernel
theorem dX0_release_5 : decode cX0_release 5 = .ok (.invokevirtual 40, 3) := by decide +kernel
theorem dX0_release_8 : decode cX0_release 8 = .ok (.aload_n 0, 1) := by decide +kernel
theorem dX0_release_9 : decode cX0_release 9 = .ok (.iload_n 1, 1) := by decide +kernel
theorem dX0_release_10 : decode cX0_release 10 = .ok (.invokestatic 32, 3) := by decide +kernel
theorem dX0_release_13 : decode cX0_release 13 = .ok (.invokevirtual 44, 3) := by decide +kernel
theorem dX0_release_16 : decode cX0_release 16 = .ok (.return_, 1) := by decide +kernel
set_option maxRecDepth 20000 in
theorem ggX0_isReachedBySnoop_X1_mayHave : GoodIn wsX0_isReachedBySnoop wsX1_mayHave := goodIn_r _ [7, 8, 9, 10, 11, 6, 12, 13, 14, 15, 16, 17, 18, 19, 34, 35, 36] (by decide +kernel) (by decide +kernel)
set_option maxRecDepth 20000 in
theorem gX0_isReachedBySnoop_X1_mayHave : GoodIn wsX0_isReachedBySnoop (wsV RX0 47 RX1 yX1_mayHave wsX1_mayHave) := goodIn_app (goodIn_of _ (by decide +kernel)) ggX0_isReachedBySnoop_X1_mayHave
set_option maxRecDepth 20000 in
theorem ggX0_isReachedBySnoop_X0_holds : GoodIn wsX0_isReachedBySnoop wsX0_holds := goodIn_r _ [24, 25, 26, 27, 23, 28, 29, 30, 31, 32, 33] (by decide +kernel) (by decide +kernel)
set_option maxRecDepth 20000 in
theorem gX0_isReachedBySnoop_X0_holds : GoodIn wsX0_isReachedBySnoop (wsV RX0 36 RX0 yX0_holds wsX0_holds) := goodIn_app (goodIn_of _ (by decide +kernel)) ggX0_isReachedBySnoop_X0_holds
theorem dX0_isReachedBySnoop_0 : decode cX0_isReachedBySnoop 0 = .ok (.aload_n 0, 1) := by decide +kernel
theorem dX0_isReachedBySnoop_1 : decode cX0_isReachedBySnoop 1 = .ok (.getfield 28, 3) := by decide +kernel
theorem dX0_isReachedBySnoop_4 : decode cX0_isReachedBySnoop 4 = .ok (.iload_n 1, 1) := by decide +kernel
theorem dX0_isReachedBySnoop_5 : decode cX0_isReachedBySnoop 5 = .ok (.invokevirtual 47, 3) := by decide +kernel
theorem dX0_isReachedBySnoop_8 : decode cX0_isReachedBySnoop 8 = .ok (.ifCond .ne 15, 3) := by decide +kernel
theorem dX0_isReachedBySnoop_11 : decode cX0_isReachedBySnoop 11 = .ok (.aload_n 0, 1) := by decide +kernel
theorem dX0_isReachedBySnoop_12 : decode cX0_isReachedBySnoop 12 = .ok (.getfield 22, 3) := by decide +kernel
theorem dX0_isReachedBySnoop_15 : decode cX0_isReachedBySnoop 15 = .ok (.iconst 4, 1) := by decide +kernel
theorem dX0_isReachedBySnoop_16 : decode cX0_isReachedBySnoop 16 = .ok (.dup2, 1) := by decide +kernel
theorem dX0_isReachedBySnoop_17 : decode cX0_isReachedBySnoop 17 = .ok (.iaload, 1) := by decide +kernel
theorem dX0_isReachedBySnoop_18 : decode cX0_isReachedBySnoop 18 = .ok (.iconst 1, 1) := by decide +kernel
theorem dX0_isReachedBySnoop_19 : decode cX0_isReachedBySnoop 19 = .ok (.iadd, 1) := by decide +kernel
theorem dX0_isReachedBySnoop_20 : decode cX0_isReachedBySnoop 20 = .ok (.iastore, 1) := by decide +kernel
theorem dX0_isReachedBySnoop_21 : decode cX0_isReachedBySnoop 21 = .ok (.iconst 0, 1) := by decide +kernel
theorem dX0_isReachedBySnoop_22 : decode cX0_isReachedBySnoop 22 = .ok (.ireturn, 1) := by decide +kernel
theorem dX0_isReachedBySnoop_23 : decode cX0_isReachedBySnoop 23 = .ok (.aload_n 0, 1) := by decide +kernel
theorem dX0_isReachedBySnoop_24 : decode cX0_isReachedBySnoop 24 = .ok (.getfield 22, 3) := by decide +kernel
theorem dX0_isReachedBySnoop_27 : decode cX0_isReachedBySnoop 27 = .ok (.iconst 2, 1) := by decide +kernel
theorem dX0_isReachedBySnoop_28 : decode cX0_isReachedBySnoop 28 = .ok (.dup2, 1) := by decide +kernel
theorem dX0_isReachedBySnoop_29 : decode cX0_isReachedBySnoop 29 = .ok (.iaload, 1) := by decide +kernel
theorem dX0_isReachedBySnoop_30 : decode cX0_isReachedBySnoop 30 = .ok (.iconst 1, 1) := by decide +kernel
theorem dX0_isReachedBySnoop_31 : decode cX0_isReachedBySnoop 31 = .ok (.iadd, 1) := by decide +kernel
theorem dX0_isReachedBySnoop_32 : decode cX0_isReachedBySnoop 32 = .ok (.iastore, 1) := by decide +kernel
theorem dX0_isReachedBySnoop_33 : decode cX0_isReachedBySnoop 33 = .ok (.aload_n 0, 1) := by decide +kernel
theorem dX0_isReachedBySnoop_34 : decode cX0_isReachedBySnoop 34 = .ok (.iload_n 1, 1) := by decide +kernel
theorem dX0_isReachedBySnoop_35 : decode cX0_isReachedBySnoop 35 = .ok (.invokevirtual 36, 3) := by decide +kernel
theorem dX0_isReachedBySnoop_38 : decode cX0_isReachedBySnoop 38 = .ok (.ifCond .ne 13, 3) := by decide +kernel
theorem dX0_isReachedBySnoop_41 : decode cX0_isReachedBySnoop 41 = .ok (.aload_n 0, 1) := by decide +kernel
theorem dX0_isReachedBySnoop_42 : decode cX0_isReachedBySnoop 42 = .ok (.getfield 22, 3) := by decide +kernel
theorem dX0_isReachedBySnoop_45 : decode cX0_isReachedBySnoop 45 = .ok (.iconst 3, 1) := by decide +kernel
theorem dX0_isReachedBySnoop_46 : decode cX0_isReachedBySnoop 46 = .ok (.dup2, 1) := by decide +kernel
theorem dX0_isReachedBySnoop_47 : decode cX0_isReachedBySnoop 47 = .ok (.iaload, 1) := by decide +kernel
theorem dX0_isReachedBySnoop_48 : decode cX0_isReachedBySnoop 48 = .ok (.iconst 1, 1) := by decide +kernel
theorem dX0_isReachedBySnoop_49 : decode cX0_isReachedBySnoop 49 = .ok (.iadd, 1) := by decide +kernel
theorem dX0_isReachedBySnoop_50 : decode cX0_isReachedBySnoop 50 = .ok (.iastore, 1) := by decide +kernel
theorem dX0_isReachedBySnoop_51 : decode cX0_isReachedBySnoop 51 = .ok (.iconst 1, 1) := by decide +kernel
theorem dX0_isReachedBySnoop_52 : decode cX0_isReachedBySnoop 52 = .ok (.ireturn, 1) := by decide +kernel
theorem dX0_heldLines_0 : decode cX0_heldLines 0 = .ok (.iconst 0, 1) := by decide +kernel
theorem dX0_heldLines_1 : decode cX0_heldLines 1 = .ok (.istore_n 1, 1) := by decide +kernel
theorem dX0_heldLines_2 : decode cX0_heldLines 2 = .ok (.iconst 0, 1) := by decide +kernel
theorem dX0_heldLines_3 : decode cX0_heldLines 3 = .ok (.istore_n 2, 1) := by decide +kernel
theorem dX0_heldLines_4 : decode cX0_heldLines 4 = .ok (.iload_n 2, 1) := by decide +kernel
theorem dX0_heldLines_5 : decode cX0_heldLines 5 = .ok (.bipush 8, 2) := by decide +kernel
theorem dX0_heldLines_7 : decode cX0_heldLines 7 = .ok (.if_icmp .ge 22, 3) := by decide +kernel
theorem dX0_heldLines_10 : decode cX0_heldLines 10 = .ok (.aload_n 0, 1) := by decide +kernel
theorem dX0_heldLines_11 : decode cX0_heldLines 11 = .ok (.getfield 9, 3) := by decide +kernel
theorem dX0_heldLines_14 : decode cX0_heldLines 14 = .ok (.iload_n 2, 1) := by decide +kernel
theorem dX0_heldLines_15 : decode cX0_heldLines 15 = .ok (.iaload, 1) := by decide +kernel
theorem dX0_heldLines_16 : decode cX0_heldLines 16 = .ok (.iconst (-1), 1) := by decide +kernel
theorem dX0_heldLines_17 : decode cX0_heldLines 17 = .ok (.if_icmp .eq 6, 3) := by decide +kernel
theorem dX0_heldLines_20 : decode cX0_heldLines 20 = .ok (.iinc 1 1, 3) := by decide +kernel
theorem dX0_heldLines_23 : decode cX0_heldLines 23 = .ok (.iinc 2 1, 3) := by decide +kernel
theorem dX0_heldLines_26 : decode cX0_heldLines 26 = .ok (.goto (-22), 3) := by decide +kernel
theorem dX0_heldLines_29 : decode cX0_heldLines 29 = .ok (.iload_n 1, 1) := by decide +kernel
theorem dX0_heldLines_30 : decode cX0_heldLines 30 = .ok (.ireturn, 1) := by decide +kernel
set_option maxRecDepth 20000 in
theorem ggX0_dirtyLines_X5_howManyAreTrue : GoodIn wsX0_dirtyLines wsX5_howManyAreTrue := goodIn_r _ [4] (by decide +kernel) (by decide +kernel)
set_option maxRecDepth 20000 in
theorem gX0_dirtyLines_X5_howManyAreTrue_n50 : GoodIn wsX0_dirtyLines (wsX5_howManyAreTrue) := ggX0_dirtyLines_X5_howManyAreTrue
theorem dX0_dirtyLines_0 : decode cX0_dirtyLines 0 = .ok (.aload_n 0, 1) := by decide +kernel
theorem dX0_dirtyLines_1 : decode cX0_dirtyLines 1 = .ok (.getfield 18, 3) := by decide +kernel
theorem dX0_dirtyLines_4 : decode cX0_dirtyLines 4 = .ok (.invokestatic 50, 3) := by decide +kernel
theorem dX0_dirtyLines_7 : decode cX0_dirtyLines 7 = .ok (.ireturn, 1) := by decide +kernel
set_option maxRecDepth 20000 in
theorem ggX0_hasNothingToForget_X0_heldLines : GoodIn wsX0_hasNothingToForget wsX0_heldLines := goodIn_r _ [6, 7, 22, 23, 24, 25, 26] (by decide +kernel) (by decide +kernel)
set_option maxRecDepth 20000 in
theorem gX0_hasNothingToForget_X0_heldLines : GoodIn wsX0_hasNothingToForget (wsV RX0 54 RX0 yX0_heldLines wsX0_heldLines) := goodIn_app (goodIn_of _ (by decide +kernel)) ggX0_hasNothingToForget_X0_heldLines
set_option maxRecDepth 20000 in
theorem ggX0_hasNothingToForget_X1_countersAboveZero : GoodIn wsX0_hasNothingToForget wsX1_countersAboveZero := goodIn_r _ [12, 13, 27, 28, 29] (by decide +kernel) (by decide +kernel)
set_option maxRecDepth 20000 in
theorem gX0_hasNothingToForget_X1_countersAboveZero : GoodIn wsX0_hasNothingToForget (wsV RX0 58 RX1 yX1_countersAboveZero wsX1_countersAboveZero) := goodIn_app (goodIn_of _ (by decide +kernel)) ggX0_hasNothingToForget_X1_countersAboveZero
set_option maxRecDepth 20000 in
theorem ggX0_hasNothingToForget_X1_bitsThatAreOne : GoodIn wsX0_hasNothingToForget wsX1_bitsThatAreOne := goodIn_r _ [17, 18, 19, 20, 21, 27, 28, 29] (by decide +kernel) (by decide +kernel)
set_option maxRecDepth 20000 in
theorem gX0_hasNothingToForget_X1_bitsThatAreOne : GoodIn wsX0_hasNothingToForget (wsV RX0 61 RX1 yX1_bitsThatAreOne wsX1_bitsThatAreOne) := goodIn_app (goodIn_of _ (by decide +kernel)) ggX0_hasNothingToForget_X1_bitsThatAreOne
theorem dX0_hasNothingToForget_0 : decode cX0_hasNothingToForget 0 = .ok (.aload_n 0, 1) := by decide +kernel
theorem dX0_hasNothingToForget_1 : decode cX0_hasNothingToForget 1 = .ok (.invokevirtual 54, 3) := by decide +kernel
theorem dX0_hasNothingToForget_4 : decode cX0_hasNothingToForget 4 = .ok (.ifCond .ne 27, 3) := by decide +kernel
theorem dX0_hasNothingToForget_7 : decode cX0_hasNothingToForget 7 = .ok (.aload_n 0, 1) := by decide +kernel
theorem dX0_hasNothingToForget_8 : decode cX0_hasNothingToForget 8 = .ok (.getfield 28, 3) := by decide +kernel
theorem dX0_hasNothingToForget_11 : decode cX0_hasNothingToForget 11 = .ok (.invokevirtual 58, 3) := by decide +kernel
theorem dX0_hasNothingToForget_14 : decode cX0_hasNothingToForget 14 = .ok (.ifCond .ne 17, 3) := by decide +kernel
theorem dX0_hasNothingToForget_17 : decode cX0_hasNothingToForget 17 = .ok (.aload_n 0, 1) := by decide +kernel
theorem dX0_hasNothingToForget_18 : decode cX0_hasNothingToForget 18 = .ok (.getfield 28, 3) := by decide +kernel
theorem dX0_hasNothingToForget_21 : decode cX0_hasNothingToForget 21 = .ok (.invokevirtual 61, 3) := by decide +kernel
theorem dX0_hasNothingToForget_24 : decode cX0_hasNothingToForget 24 = .ok (.ifCond .ne 7, 3) := by decide +kernel
theorem dX0_hasNothingToForget_27 : decode cX0_hasNothingToForget 27 = .ok (.iconst 1, 1) := by decide +kernel
theorem dX0_hasNothingToForget_28 : decode cX0_hasNothingToForget 28 = .ok (.goto 4, 3) := by decide +kernel
theorem dX0_hasNothingToForget_31 : decode cX0_hasNothingToForget 31 = .ok (.iconst 0, 1) := by decide +kernel
theorem dX0_hasNothingToForget_32 : decode cX0_hasNothingToForget 32 = .ok (.ireturn, 1) := by decide +kernel
set_option maxRecDepth 20000 in
theorem ggX0_copyFrom_X1_copyFrom : GoodIn wsX0_copyFrom wsX1_copyFrom := goodIn_r _ [14, 15, 16, 3, 4, 5, 17, 18, 24, 25, 26] (by decide +kernel) (by decide +kernel)
set_option maxRecDepth 20000 in
theorem gX0_copyFrom_X1_copyFrom : GoodIn wsX0_copyFrom (wsV RX0 70 RX1 yX1_copyFrom wsX1_copyFrom) := goodIn_app (goodIn_of _ (by decide +kernel)) ggX0_copyFrom_X1_copyFrom
theorem dX0_copyFrom_0 : decode cX0_copyFrom 0 = .ok (.aload_n 1, 1) := by decide +kernel
theorem dX0_copyFrom_1 : decode cX0_copyFrom 1 = .ok (.getfield 9, 3) := by decide +kernel
theorem dX0_copyFrom_4 : decode cX0_copyFrom 4 = .ok (.iconst 0, 1) := by decide +kernel
theorem dX0_copyFrom_5 : decode cX0_copyFrom 5 = .ok (.aload_n 0, 1) := by decide +kernel
theorem dX0_copyFrom_6 : decode cX0_copyFrom 6 = .ok (.getfield 9, 3) := by decide +kernel
theorem dX0_copyFrom_9 : decode cX0_copyFrom 9 = .ok (.iconst 0, 1) := by decide +kernel
theorem dX0_copyFrom_10 : decode cX0_copyFrom 10 = .ok (.bipush 8, 2) := by decide +kernel
theorem dX0_copyFrom_12 : decode cX0_copyFrom 12 = .ok (.invokestatic 64, 3) := by decide +kernel
theorem dX0_copyFrom_15 : decode cX0_copyFrom 15 = .ok (.aload_n 1, 1) := by decide +kernel
theorem dX0_copyFrom_16 : decode cX0_copyFrom 16 = .ok (.getfield 15, 3) := by decide +kernel
theorem dX0_copyFrom_19 : decode cX0_copyFrom 19 = .ok (.iconst 0, 1) := by decide +kernel
theorem dX0_copyFrom_20 : decode cX0_copyFrom 20 = .ok (.aload_n 0, 1) := by decide +kernel
theorem dX0_copyFrom_21 : decode cX0_copyFrom 21 = .ok (.getfield 15, 3) := by decide +kernel
theorem dX0_copyFrom_24 : decode cX0_copyFrom 24 = .ok (.iconst 0, 1) := by decide +kernel
theorem dX0_copyFrom_25 : decode cX0_copyFrom 25 = .ok (.bipush 8, 2) := by decide +kernel
theorem dX0_copyFrom_27 : decode cX0_copyFrom 27 = .ok (.invokestatic 64, 3) := by decide +kernel
theorem dX0_copyFrom_30 : decode cX0_copyFrom 30 = .ok (.aload_n 1, 1) := by decide +kernel
theorem dX0_copyFrom_31 : decode cX0_copyFrom 31 = .ok (.getfield 18, 3) := by decide +kernel
theorem dX0_copyFrom_34 : decode cX0_copyFrom 34 = .ok (.iconst 0, 1) := by decide +kernel
theorem dX0_copyFrom_35 : decode cX0_copyFrom 35 = .ok (.aload_n 0, 1) := by decide +kernel
theorem dX0_copyFrom_36 : decode cX0_copyFrom 36 = .ok (.getfield 18, 3) := by decide +kernel
theorem dX0_copyFrom_39 : decode cX0_copyFrom 39 = .ok (.iconst 0, 1) := by decide +kernel
theorem dX0_copyFrom_40 : decode cX0_copyFrom 40 = .ok (.bipush 8, 2) := by decide +kernel
theorem dX0_copyFrom_42 : decode cX0_copyFrom 42 = .ok (.invokestatic 64, 3) := by decide +kernel
theorem dX0_copyFrom_45 : decode cX0_copyFrom 45 = .ok (.aload_n 1, 1) := by decide +kernel
theorem dX0_copyFrom_46 : decode cX0_copyFrom 46 = .ok (.getfield 22, 3) := by decide +kernel
theorem dX0_copyFrom_49 : decode cX0_copyFrom 49 = .ok (.iconst 0, 1) := by decide +kernel
theorem dX0_copyFrom_50 : decode cX0_copyFrom 50 = .ok (.aload_n 0, 1) := by decide +kernel
theorem dX0_copyFrom_51 : decode cX0_copyFrom 51 = .ok (.getfield 22, 3) := by decide +kernel
theorem dX0_copyFrom_54 : decode cX0_copyFrom 54 = .ok (.iconst 0, 1) := by decide +kernel
theorem dX0_copyFrom_55 : decode cX0_copyFrom 55 = .ok (.bipush 6, 2) := by decide +kernel
theorem dX0_copyFrom_57 : decode cX0_copyFrom 57 = .ok (.invokestatic 64, 3) := by decide +kernel
theorem dX0_copyFrom_60 : decode cX0_copyFrom 60 = .ok (.aload_n 0, 1) := by decide +kernel
theorem dX0_copyFrom_61 : decode cX0_copyFrom 61 = .ok (.getfield 28, 3) := by decide +kernel
theorem dX0_copyFrom_64 : decode cX0_copyFrom 64 = .ok (.aload_n 1, 1) := by decide +kernel
theorem dX0_copyFrom_65 : decode cX0_copyFrom 65 = .ok (.getfield 28, 3) := by decide +kernel
theorem dX0_copyFrom_68 : decode cX0_copyFrom 68 = .ok (.invokevirtual 70, 3) := by decide +kernel
theorem dX0_copyFrom_71 : decode cX0_copyFrom 71 = .ok (.return_, 1) := by decide +kernel
theorem dX1_init_0 : decode cX1_init 0 = .ok (.aload_n 0, 1) := by decide +kernel
theorem dX1_init_1 : decode cX1_init 1 = .ok (.invokespecial 3, 3) := by decide +kernel
theorem dX1_init_4 : decode cX1_init 4 = .ok (.aload_n 0, 1) := by decide +kernel
theorem dX1_init_5 : decode cX1_init 5 = .ok (.bipush 24, 2) := by decide +kernel
theorem dX1_init_7 : decode cX1_init 7 = .ok (.newarray .int, 2) := by decide +kernel
theorem dX1_init_9 : decode cX1_init 9 = .ok (.putfield 9, 3) := by decide +kernel
theorem dX1_init_12 : decode cX1_init 12 = .ok (.aload_n 0, 1) := by decide +kernel
theorem dX1_init_13 : decode cX1_init 13 = .ok (.bipush 24, 2) := by decide +kernel
theorem dX1_init_15 : decode cX1_init 15 = .ok (.newarray .boolean, 2) := by decide +kernel
theorem dX1_init_17 : decode cX1_init 17 = .ok (.putfield 15, 3) := by decide +kernel
theorem dX1_init_20 : decode cX1_init 20 = .ok (.aload_n 0, 1) := by decide +kernel
theorem dX1_init_21 : decode cX1_init 21 = .ok (.bipush 16, 2) := by decide +kernel
theorem dX1_init_23 : decode cX1_init 23 = .ok (.newarray .boolean, 2) := by decide +kernel
theorem dX1_init_25 : decode cX1_init 25 = .ok (.putfield 19, 3) := by decide +kernel
theorem dX1_init_28 : decode cX1_init 28 = .ok (.return_, 1) := by decide +kernel
theorem dX1_firstCounter_0 : decode cX1_firstCounter 0 = .ok (.iload_n 0, 1) := by decide +kernel
theorem dX1_firstCounter_1 : decode cX1_firstCounter 1 = .ok (.bipush 24, 2) := by decide +kernel
theorem dX1_firstCounter_3 : decode cX1_firstCounter 3 = .ok (.irem, 1) := by decide +kernel
theorem dX1_firstCounter_4 : decode cX1_firstCounter 4 = .ok (.ireturn, 1) := by decide +kernel
theorem dX1_secondCounter_0 : decode cX1_secondCounter 0 = .ok (.bipush 7, 2) := by decide +kernel
theorem dX1_secondCounter_2 : decode cX1_secondCounter 2 = .ok (.iload_n 0, 1) := by decide +kernel
theorem dX1_secondCounter_3 : decode cX1_secondCounter 3 = .ok (.imul, 1) := by decide +kernel
theorem dX1_secondCounter_4 : decode cX1_secondCounter 4 = .ok (.iconst 5, 1) := by decide +kernel
theorem dX1_secondCounter_5 : decode cX1_secondCounter 5 = .ok (.iadd, 1) := by decide +kernel
theorem dX1_secondCounter_6 : decode cX1_secondCounter 6 = .ok (.bipush 24, 2) := by decide +kernel
theorem dX1_secondCounter_8 : decode cX1_secondCounter 8 = .ok (.irem, 1) := by decide +kernel
theorem dX1_secondCounter_9 : decode cX1_secondCounter 9 = .ok (.ireturn, 1) := by decide +kernel
set_option maxRecDepth 20000 in
theorem ggX1_add_X1_firstCounter : GoodIn wsX1_add wsX1_firstCounter := goodIn_r _ [5] (by decide +kernel) (by decide +kernel)
set_option maxRecDepth 20000 in
theorem gX1_add_X1_firstCounter : GoodIn wsX1_add (va_wsS RX1 22 yX1_firstCounter wsX1_firstCounter) := goodIn_app (goodIn_of _ (by decide +kernel)) ggX1_add_X1_firstCounter
set_option maxRecDepth 20000 in
theorem ggX1_add_X1_raise : GoodIn wsX1_add wsX1_raise := goodIn_r _ [9, 10, 11, 15, 16, 17] (by decide +kernel) (by decide +kernel)
set_option maxRecDepth 20000 in
theorem gX1_add_X1_raise : GoodIn wsX1_add (wsV RX1 26 RX1 yX1_raise wsX1_raise) := goodIn_app (goodIn_of _ (by decide +kernel)) ggX1_add_X1_raise
set_option maxRecDepth 20000 in
theorem ggX1_add_X1_secondCounter : GoodIn wsX1_add wsX1_secondCounter := goodIn_r _ [14] (by decide +kernel) (by decide +kernel)
set_option maxRecDepth 20000 in
theorem gX1_add_X1_secondCounter : GoodIn wsX1_add (va_wsS RX1 30 yX1_secondCounter wsX1_secondCounter) := goodIn_app (goodIn_of _ (by decide +kernel)) ggX1_add_X1_secondCounter
theorem dX1_add_0 : decode cX1_add 0 = .ok (.aload_n 0, 1) := by decide +kernel
theorem dX1_add_1 : decode cX1_add 1 = .ok (.getfield 19, 3) := by decide +kernel
theorem dX1_add_4 : decode cX1_add 4 = .ok (.iload_n 1, 1) := by decide +kernel
theorem dX1_add_5 : decode cX1_add 5 = .ok (.bipush 16, 2) := by decide +kernel
theorem dX1_add_7 : decode cX1_add 7 = .ok (.idiv, 1) := by decide +kernel
theorem dX1_add_8 : decode cX1_add 8 = .ok (.iconst 1, 1) := by decide +kernel
theorem dX1_add_9 : decode cX1_add 9 = .ok (.bastore, 1) := by decide +kernel
theorem dX1_add_10 : decode cX1_add 10 = .ok (.aload_n 0, 1) := by decide +kernel
theorem dX1_add_11 : decode cX1_add 11 = .ok (.iload_n 1, 1) := by decide +kernel
theorem dX1_add_12 : decode cX1_add 12 = .ok (.invokestatic 22, 3) := by decide +kernel
theorem dX1_add_15 : decode cX1_add 15 = .ok (.iload_n 2, 1) := by decide +kernel
theorem dX1_add_16 : decode cX1_add 16 = .ok (.invokevirtual 26, 3) := by decide +kernel
theorem dX1_add_19 : decode cX1_add 19 = .ok (.aload_n 0, 1) := by decide +kernel
theorem dX1_add_20 : decode cX1_add 20 = .ok (.iload_n 1, 1) := by decide +kernel
theorem dX1_add_21 : decode cX1_add 21 = .ok (.invokestatic 30, 3) := by decide +kernel
theorem dX1_add_24 : decode cX1_add 24 = .ok (.iload_n 2, 1) := by decide +kernel
theorem dX1_add_25 : decode cX1_add 25 = .ok (.invokevirtual 26, 3) := by decide +kernel
theorem dX1_add_28 : decode cX1_add 28 = .ok (.return_, 1) := by decide +kernel
theorem dX1_raise_0 : decode cX1_raise 0 = .ok (.aload_n 0, 1) := by decide +kernel
theorem dX1_raise_1 : decode cX1_raise 1 = .ok (.getfield 15, 3) := by decide +kernel
theorem dX1_raise_4 : decode cX1_raise 4 = .ok (.iload_n 1, 1) := by decide +kernel
theorem dX1_raise_5 : decode cX1_raise 5 = .ok (.baload, 1) := by decide +kernel
theorem dX1_raise_6 : decode cX1_raise 6 = .ok (.ifCond .eq 4, 3) := by decide +kernel
theorem dX1_raise_9 : decode cX1_raise 9 = .ok (.return_, 1) := by decide +kernel
theorem dX1_raise_10 : decode cX1_raise 10 = .ok (.aload_n 0, 1) := by decide +kernel
theorem dX1_raise_11 : decode cX1_raise 11 = .ok (.getfield 9, 3) := by decide +kernel
theorem dX1_raise_14 : decode cX1_raise 14 = .ok (.iload_n 1, 1) := by decide +kernel
theorem dX1_raise_15 : decode cX1_raise 15 = .ok (.iaload, 1) := by decide +kernel
theorem dX1_raise_16 : decode cX1_raise 16 = .ok (.iload_n 2, 1) := by decide +kernel
theorem dX1_raise_17 : decode cX1_raise 17 = .ok (.if_icmp .lt 13, 3) := by decide +kernel
theorem dX1_raise_20 : decode cX1_raise 20 = .ok (.aload_n 0, 1) := by decide +kernel
theorem dX1_raise_21 : decode cX1_raise 21 = .ok (.getfield 15, 3) := by decide +kernel
theorem dX1_raise_24 : decode cX1_raise 24 = .ok (.iload_n 1, 1) := by decide +kernel
theorem dX1_raise_25 : decode cX1_raise 25 = .ok (.iconst 1, 1) := by decide +kernel
theorem dX1_raise_26 : decode cX1_raise 26 = .ok (.bastore, 1) := by decide +kernel
theorem dX1_raise_27 : decode cX1_raise 27 = .ok (.goto 13, 3) := by decide +kernel
theorem dX1_raise_30 : decode cX1_raise 30 = .ok (.aload_n 0, 1) := by decide +kernel
theorem dX1_raise_31 : decode cX1_raise 31 = .ok (.getfield 9, 3) := by decide +kernel
theorem dX1_raise_34 : decode cX1_raise 34 = .ok (.iload_n 1, 1) := by decide +kernel
theorem dX1_raise_35 : decode cX1_raise 35 = .ok (.dup2, 1) := by decide +kernel
theorem dX1_raise_36 : decode cX1_raise 36 = .ok (.iaload, 1) := by decide +kernel
theorem dX1_raise_37 : decode cX1_raise 37 = .ok (.iconst 1, 1) := by decide +kernel
theorem dX1_raise_38 : decode cX1_raise 38 = .ok (.iadd, 1) := by decide +kernel
theorem dX1_raise_39 : decode cX1_raise 39 = .ok (.iastore, 1) := by decide +kernel
theorem dX1_raise_40 : decode cX1_raise 40 = .ok (.return_, 1) := by decide +kernel
set_option maxRecDepth 20000 in
theorem ggX1_remove_X1_firstCounter : GoodIn wsX1_remove wsX1_firstCounter := goodIn_r _ [4] (by decide +kernel) (by decide +kernel)
set_option maxRecDepth 20000 in
theorem gX1_remove_X1_firstCounter : GoodIn wsX1_remove (va_wsS RX1 22 yX1_firstCounter wsX1_firstCounter) := goodIn_app (goodIn_of _ (by decide +kernel)) ggX1_remove_X1_firstCounter
set_option maxRecDepth 20000 in
theorem ggX1_remove_X1_lower : GoodIn wsX1_remove wsX1_lower := goodIn_r _ [8, 9, 10, 14, 15, 16] (by decide +kernel) (by decide +kernel)
set_option maxRecDepth 20000 in
theorem gX1_remove_X1_lower : GoodIn wsX1_remove (wsV RX1 33 RX1 yX1_lower wsX1_lower) := goodIn_app (goodIn_of _ (by decide +kernel)) ggX1_remove_X1_lower
set_option maxRecDepth 20000 in
theorem ggX1_remove_X1_secondCounter : GoodIn wsX1_remove wsX1_secondCounter := goodIn_r _ [13] (by decide +kernel) (by decide +kernel)
set_option maxRecDepth 20000 in
theorem gX1_remove_X1_secondCounter : GoodIn wsX1_remove (va_wsS RX1 30 yX1_secondCounter wsX1_secondCounter) := goodIn_app (goodIn_of _ (by decide +kernel)) ggX1_remove_X1_secondCounter
theorem dX1_remove_0 : decode cX1_remove 0 = .ok (.aload_n 0, 1) := by decide +kernel
theorem dX1_remove_1 : decode cX1_remove 1 = .ok (.iload_n 1, 1) := by decide +kernel
theorem dX1_remove_2 : decode cX1_remove 2 = .ok (.invokestatic 22, 3) := by decide +kernel
theorem dX1_remove_5 : decode cX1_remove 5 = .ok (.invokevirtual 33, 3) := by decide +kernel
theorem dX1_remove_8 : decode cX1_remove 8 = .ok (.aload_n 0, 1) := by decide +kernel
theorem dX1_remove_9 : decode cX1_remove 9 = .ok (.iload_n 1, 1) := by decide +kernel
theorem dX1_remove_10 : decode cX1_remove 10 = .ok (.invokestatic 30, 3) := by decide +kernel
theorem dX1_remove_13 : decode cX1_remove 13 = .ok (.invokevirtual 33, 3) := by decide +kernel
theorem dX1_remove_16 : decode cX1_remove 16 = .ok (.return_, 1) := by decide +kernel
theorem dX1_lower_0 : decode cX1_lower 0 = .ok (.aload_n 0, 1) := by decide +kernel
theorem dX1_lower_1 : decode cX1_lower 1 = .ok (.getfield 15, 3) := by decide +kernel
theorem dX1_lower_4 : decode cX1_lower 4 = .ok (.iload_n 1, 1) := by decide +kernel
theorem dX1_lower_5 : decode cX1_lower 5 = .ok (.baload, 1) := by decide +kernel
theorem dX1_lower_6 : decode cX1_lower 6 = .ok (.ifCond .ne 22, 3) := by decide +kernel
theorem dX1_lower_9 : decode cX1_lower 9 = .ok (.aload_n 0, 1) := by decide +kernel
theorem dX1_lower_10 : decode cX1_lower 10 = .ok (.getfield 9, 3) := by decide +kernel
theorem dX1_lower_13 : decode cX1_lower 13 = .ok (.iload_n 1, 1) := by decide +kernel
theorem dX1_lower_14 : decode cX1_lower 14 = .ok (.iaload, 1) := by decide +kernel
theorem dX1_lower_15 : decode cX1_lower 15 = .ok (.ifCond .le 13, 3) := by decide +kernel
theorem dX1_lower_18 : decode cX1_lower 18 = .ok (.aload_n 0, 1) := by decide +kernel
theorem dX1_lower_19 : decode cX1_lower 19 = .ok (.getfield 9, 3) := by decide +kernel
theorem dX1_lower_22 : decode cX1_lower 22 = .ok (.iload_n 1, 1) := by decide +kernel
theorem dX1_lower_23 : decode cX1_lower 23 = .ok (.dup2, 1) := by decide +kernel
theorem dX1_lower_24 : decode cX1_lower 24 = .ok (.iaload, 1) := by decide +kernel
theorem dX1_lower_25 : decode cX1_lower 25 = .ok (.iconst 1, 1) := by decide +kernel
theorem dX1_lower_26 : decode cX1_lower 26 = .ok (.isub, 1) := by decide +kernel
theorem dX1_lower_27 : decode cX1_lower 27 = .ok (.iastore, 1) := by decide +kernel
theorem dX1_lower_28 : decode cX1_lower 28 = .ok (.return_, 1) := by decide +kernel
theorem dX1_hasBitOf_0 : decode cX1_hasBitOf 0 = .ok (.aload_n 0, 1) := by decide +kernel
theorem dX1_hasBitOf_1 : decode cX1_hasBitOf 1 = .ok (.getfield 19, 3) := by decide +kernel
theorem dX1_hasBitOf_4 : decode cX1_hasBitOf 4 = .ok (.iload_n 1, 1) := by decide +kernel
theorem dX1_hasBitOf_5 : decode cX1_hasBitOf 5 = .ok (.bipush 16, 2) := by decide +kernel
theorem dX1_hasBitOf_7 : decode cX1_hasBitOf 7 = .ok (.idiv, 1) := by decide +kernel
theorem dX1_hasBitOf_8 : decode cX1_hasBitOf 8 = .ok (.baload, 1) := by decide +kernel
theorem dX1_hasBitOf_9 : decode cX1_hasBitOf 9 = .ok (.ireturn, 1) := by decide +kernel
set_option maxRecDepth 20000 in
theorem ggX1_mayHave_X1_hasBitOf : GoodIn wsX1_mayHave wsX1_hasBitOf := goodIn_r _ [6, 7, 14, 15, 16] (by decide +kernel) (by decide +kernel)
set_option maxRecDepth 20000 in
theorem gX1_mayHave_X1_hasBitOf : GoodIn wsX1_mayHave (wsV RX1 37 RX1 yX1_hasBitOf wsX1_hasBitOf) := goodIn_app (goodIn_of _ (by decide +kernel)) ggX1_mayHave_X1_hasBitOf
set_option maxRecDepth 20000 in
theorem ggX1_mayHave_X1_firstCounter : GoodIn wsX1_mayHave wsX1_firstCounter := goodIn_r _ [10] (by decide +kernel) (by decide +kernel)
set_option maxRecDepth 20000 in
theorem gX1_mayHave_X1_firstCounter : GoodIn wsX1_mayHave (va_wsS RX1 22 yX1_firstCounter wsX1_firstCounter) := goodIn_app (goodIn_of _ (by decide +kernel)) ggX1_mayHave_X1_firstCounter
set_option maxRecDepth 20000 in
theorem ggX1_mayHave_X1_secondCounter : GoodIn wsX1_mayHave wsX1_secondCounter := goodIn_r _ [13] (by decide +kernel) (by decide +kernel)
set_option maxRecDepth 20000 in
theorem gX1_mayHave_X1_secondCounter : GoodIn wsX1_mayHave (va_wsS RX1 30 yX1_secondCounter wsX1_secondCounter) := goodIn_app (goodIn_of _ (by decide +kernel)) ggX1_mayHave_X1_secondCounter
theorem dX1_mayHave_0 : decode cX1_mayHave 0 = .ok (.aload_n 0, 1) := by decide +kernel
theorem dX1_mayHave_1 : decode cX1_mayHave 1 = .ok (.iload_n 1, 1) := by decide +kernel
theorem dX1_mayHave_2 : decode cX1_mayHave 2 = .ok (.invokevirtual 37, 3) := by decide +kernel
theorem dX1_mayHave_5 : decode cX1_mayHave 5 = .ok (.ifCond .eq 31, 3) := by decide +kernel
theorem dX1_mayHave_8 : decode cX1_mayHave 8 = .ok (.aload_n 0, 1) := by decide +kernel
theorem dX1_mayHave_9 : decode cX1_mayHave 9 = .ok (.getfield 9, 3) := by decide +kernel
theorem dX1_mayHave_12 : decode cX1_mayHave 12 = .ok (.iload_n 1, 1) := by decide +kernel
theorem dX1_mayHave_13 : decode cX1_mayHave 13 = .ok (.invokestatic 22, 3) := by decide +kernel
theorem dX1_mayHave_16 : decode cX1_mayHave 16 = .ok (.iaload, 1) := by decide +kernel
theorem dX1_mayHave_17 : decode cX1_mayHave 17 = .ok (.ifCond .le 19, 3) := by decide +kernel
theorem dX1_mayHave_20 : decode cX1_mayHave 20 = .ok (.aload_n 0, 1) := by decide +kernel
theorem dX1_mayHave_21 : decode cX1_mayHave 21 = .ok (.getfield 9, 3) := by decide +kernel
theorem dX1_mayHave_24 : decode cX1_mayHave 24 = .ok (.iload_n 1, 1) := by decide +kernel
theorem dX1_mayHave_25 : decode cX1_mayHave 25 = .ok (.invokestatic 30, 3) := by decide +kernel
theorem dX1_mayHave_28 : decode cX1_mayHave 28 = .ok (.iaload, 1) := by decide +kernel
theorem dX1_mayHave_29 : decode cX1_mayHave 29 = .ok (.ifCond .le 7, 3) := by decide +kernel
theorem dX1_mayHave_32 : decode cX1_mayHave 32 = .ok (.iconst 1, 1) := by decide +kernel
theorem dX1_mayHave_33 : decode cX1_mayHave 33 = .ok (.goto 4, 3) := by decide +kernel
theorem dX1_mayHave_36 : decode cX1_mayHave 36 = .ok (.iconst 0, 1) := by decide +kernel
theorem dX1_mayHave_37 : decode cX1_mayHave 37 = .ok (.ireturn, 1) := by decide +kernel
theorem dX1_countersAboveZero_0 : decode cX1_countersAboveZero 0 = .ok (.iconst 0, 1) := by decide +kernel
theorem dX1_countersAboveZero_1 : decode cX1_countersAboveZero 1 = .ok (.istore_n 1, 1) := by decide +kernel
theorem dX1_countersAboveZero_2 : decode cX1_countersAboveZero 2 = .ok (.iconst 0, 1) := by decide +kernel
theorem dX1_countersAboveZero_3 : decode cX1_countersAboveZero 3 = .ok (.istore_n 2, 1) := by decide +kernel
theorem dX1_countersAboveZero_4 : decode cX1_countersAboveZero 4 = .ok (.iload_n 2, 1) := by decide +kernel
theorem dX1_countersAboveZero_5 : decode cX1_countersAboveZero 5 = .ok (.bipush 24, 2) := by decide +kernel
theorem dX1_countersAboveZero_7 : decode cX1_countersAboveZero 7 = .ok (.if_icmp .ge 21, 3) := by decide +kernel
theorem dX1_countersAboveZero_10 : decode cX1_countersAboveZero 10 = .ok (.aload_n 0, 1) := by decide +kernel
theorem dX1_countersAboveZero_11 : decode cX1_countersAboveZero 11 = .ok (.getfield 9, 3) := by decide +kernel
theorem dX1_countersAboveZero_14 : decode cX1_countersAboveZero 14 = .ok (.iload_n 2, 1) := by decide +kernel
theorem dX1_countersAboveZero_15 : decode cX1_countersAboveZero 15 = .ok (.iaload, 1) := by decide +kernel
theorem dX1_countersAboveZero_16 : decode cX1_countersAboveZero 16 = .ok (.ifCond .le 6, 3) := by decide +kernel
theorem dX1_countersAboveZero_19 : decode cX1_countersAboveZero 19 = .ok (.iinc 1 1, 3) := by decide +kernel
theorem dX1_countersAboveZero_22 : decode cX1_countersAboveZero 22 = .ok (.iinc 2 1, 3) := by decide +kernel
theorem dX1_countersAboveZero_25 : decode cX1_countersAboveZero 25 = .ok (.goto (-21), 3) := by decide +kernel
theorem dX1_countersAboveZero_28 : decode cX1_countersAboveZero 28 = .ok (.iload_n 1, 1) := by decide +kernel
theorem dX1_countersAboveZero_29 : decode cX1_countersAboveZero 29 = .ok (.ireturn, 1) := by decide +kernel
set_option maxRecDepth 20000 in
theorem ggX1_stuckCounters_X5_howManyAreTrue : GoodIn wsX1_stuckCounters wsX5_howManyAreTrue := goodIn_r _ [4] (by decide +kernel) (by decide +kernel)
set_option maxRecDepth 20000 in
theorem gX1_stuckCounters_X5_howManyAreTrue_n41 : GoodIn wsX1_stuckCounters (wsX5_howManyAreTrue) := ggX1_stuckCounters_X5_howManyAreTrue
theorem dX1_stuckCounters_0 : decode cX1_stuckCounters 0 = .ok (.aload_n 0, 1) := by decide +kernel
theorem dX1_stuckCounters_1 : decode cX1_stuckCounters 1 = .ok (.getfield 15, 3) := by decide +kernel
theorem dX1_stuckCounters_4 : decode cX1_stuckCounters 4 = .ok (.invokestatic 41, 3) := by decide +kernel
theorem dX1_stuckCounters_7 : decode cX1_stuckCounters 7 = .ok (.ireturn, 1) := by decide +kernel
set_option maxRecDepth 20000 in
theorem ggX1_bitsThatAreOne_X5_howManyAreTrue : GoodIn wsX1_bitsThatAreOne wsX5_howManyAreTrue := goodIn_r _ [4] (by decide +kernel) (by decide +kernel)
set_option maxRecDepth 20000 in
theorem gX1_bitsThatAreOne_X5_howManyAreTrue_n41 : GoodIn wsX1_bitsThatAreOne (wsX5_howManyAreTrue) := ggX1_bitsThatAreOne_X5_howManyAreTrue
theorem dX1_bitsThatAreOne_0 : decode cX1_bitsThatAreOne 0 = .ok (.aload_n 0, 1) := by decide +kernel
theorem dX1_bitsThatAreOne_1 : decode cX1_bitsThatAreOne 1 = .ok (.getfield 19, 3) := by decide +kernel
theorem dX1_bitsThatAreOne_4 : decode cX1_bitsThatAreOne 4 = .ok (.invokestatic 41, 3) := by decide +kernel
theorem dX1_bitsThatAreOne_7 : decode cX1_bitsThatAreOne 7 = .ok (.ireturn, 1) := by decide +kernel
theorem dX1_wipe_0 : decode cX1_wipe 0 = .ok (.iconst 0, 1) := by decide +kernel
theorem dX1_wipe_1 : decode cX1_wipe 1 = .ok (.istore_n 1, 1) := by decide +kernel
theorem dX1_wipe_2 : decode cX1_wipe 2 = .ok (.iload_n 1, 1) := by decide +kernel
theorem dX1_wipe_3 : decode cX1_wipe 3 = .ok (.bipush 24, 2) := by decide +kernel
theorem dX1_wipe_5 : decode cX1_wipe 5 = .ok (.if_icmp .ge 23, 3) := by decide +kernel
theorem dX1_wipe_8 : decode cX1_wipe 8 = .ok (.aload_n 0, 1) := by decide +kernel
theorem dX1_wipe_9 : decode cX1_wipe 9 = .ok (.getfield 9, 3) := by decide +kernel
theorem dX1_wipe_12 : decode cX1_wipe 12 = .ok (.iload_n 1, 1) := by decide +kernel
theorem dX1_wipe_13 : decode cX1_wipe 13 = .ok (.iconst 0, 1) := by decide +kernel
theorem dX1_wipe_14 : decode cX1_wipe 14 = .ok (.iastore, 1) := by decide +kernel
theorem dX1_wipe_15 : decode cX1_wipe 15 = .ok (.aload_n 0, 1) := by decide +kernel
theorem dX1_wipe_16 : decode cX1_wipe 16 = .ok (.getfield 15, 3) := by decide +kernel
theorem dX1_wipe_19 : decode cX1_wipe 19 = .ok (.iload_n 1, 1) := by decide +kernel
theorem dX1_wipe_20 : decode cX1_wipe 20 = .ok (.iconst 0, 1) := by decide +kernel
theorem dX1_wipe_21 : decode cX1_wipe 21 = .ok (.bastore, 1) := by decide +kernel
theorem dX1_wipe_22 : decode cX1_wipe 22 = .ok (.iinc 1 1, 3) := by decide +kernel
theorem dX1_wipe_25 : decode cX1_wipe 25 = .ok (.goto (-23), 3) := by decide +kernel
theorem dX1_wipe_28 : decode cX1_wipe 28 = .ok (.iconst 0, 1) := by decide +kernel
theorem dX1_wipe_29 : decode cX1_wipe 29 = .ok (.istore_n 1, 1) := by decide +kernel
theorem dX1_wipe_30 : decode cX1_wipe 30 = .ok (.iload_n 1, 1) := by decide +kernel
theorem dX1_wipe_31 : decode cX1_wipe 31 = .ok (.bipush 16, 2) := by decide +kernel
theorem dX1_wipe_33 : decode cX1_wipe 33 = .ok (.if_icmp .ge 16, 3) := by decide +kernel
theorem dX1_wipe_36 : decode cX1_wipe 36 = .ok (.aload_n 0, 1) := by decide +kernel
theorem dX1_wipe_37 : decode cX1_wipe 37 = .ok (.getfield 19, 3) := by decide +kernel
theorem dX1_wipe_40 : decode cX1_wipe 40 = .ok (.iload_n 1, 1) := by decide +kernel
theorem dX1_wipe_41 : decode cX1_wipe 41 = .ok (.iconst 0, 1) := by decide +kernel
theorem dX1_wipe_42 : decode cX1_wipe 42 = .ok (.bastore, 1) := by decide +kernel
theorem dX1_wipe_43 : decode cX1_wipe 43 = .ok (.iinc 1 1, 3) := by decide +kernel
theorem dX1_wipe_46 : decode cX1_wipe 46 = .ok (.goto (-16), 3) := by decide +kernel
theorem dX1_wipe_49 : decode cX1_wipe 49 = .ok (.return_, 1) := by decide +kernel
theorem dX1_copyFrom_0 : decode cX1_copyFrom 0 = .ok (.aload_n 1, 1) := by decide +kernel
theorem dX1_copyFrom_1 : decode cX1_copyFrom 1 = .ok (.getfield 9, 3) := by decide +kernel
theorem dX1_copyFrom_4 : decode cX1_copyFrom 4 = .ok (.iconst 0, 1) := by decide +kernel
theorem dX1_copyFrom_5 : decode cX1_copyFrom 5 = .ok (.aload_n 0, 1) := by decide +kernel
theorem dX1_copyFrom_6 : decode cX1_copyFrom 6 = .ok (.getfield 9, 3) := by decide +kernel
theorem dX1_copyFrom_9 : decode cX1_copyFrom 9 = .ok (.iconst 0, 1) := by decide +kernel
theorem dX1_copyFrom_10 : decode cX1_copyFrom 10 = .ok (.bipush 24, 2) := by decide +kernel
theorem dX1_copyFrom_12 : decode cX1_copyFrom 12 = .ok (.invokestatic 45, 3) := by decide +kernel
theorem dX1_copyFrom_15 : decode cX1_copyFrom 15 = .ok (.aload_n 1, 1) := by decide +kernel
theorem dX1_copyFrom_16 : decode cX1_copyFrom 16 = .ok (.getfield 15, 3) := by decide +kernel
theorem dX1_copyFrom_19 : decode cX1_copyFrom 19 = .ok (.iconst 0, 1) := by decide +kernel
theorem dX1_copyFrom_20 : decode cX1_copyFrom 20 = .ok (.aload_n 0, 1) := by decide +kernel
theorem dX1_copyFrom_21 : decode cX1_copyFrom 21 = .ok (.getfield 15, 3) := by decide +kernel
theorem dX1_copyFrom_24 : decode cX1_copyFrom 24 = .ok (.iconst 0, 1) := by decide +kernel
theorem dX1_copyFrom_25 : decode cX1_copyFrom 25 = .ok (.bipush 24, 2) := by decide +kernel
theorem dX1_copyFrom_27 : decode cX1_copyFrom 27 = .ok (.invokestatic 45, 3) := by decide +kernel
theorem dX1_copyFrom_30 : decode cX1_copyFrom 30 = .ok (.aload_n 1, 1) := by decide +kernel
theorem dX1_copyFrom_31 : decode cX1_copyFrom 31 = .ok (.getfield 19, 3) := by decide +kernel
theorem dX1_copyFrom_34 : decode cX1_copyFrom 34 = .ok (.iconst 0, 1) := by decide +kernel
theorem dX1_copyFrom_35 : decode cX1_copyFrom 35 = .ok (.aload_n 0, 1) := by decide +kernel
theorem dX1_copyFrom_36 : decode cX1_copyFrom 36 = .ok (.getfield 19, 3) := by decide +kernel
theorem dX1_copyFrom_39 : decode cX1_copyFrom 39 = .ok (.iconst 0, 1) := by decide +kernel
theorem dX1_copyFrom_40 : decode cX1_copyFrom 40 = .ok (.bipush 16, 2) := by decide +kernel
theorem dX1_copyFrom_42 : decode cX1_copyFrom 42 = .ok (.invokestatic 45, 3) := by decide +kernel
theorem dX1_copyFrom_45 : decode cX1_copyFrom 45 = .ok (.return_, 1) := by decide +kernel
set_option maxRecDepth 20000 in
theorem ggX2_init_X3_init : GoodIn wsX2_init wsX3_init := goodIn_r _ [10, 11, 2, 3, 12, 13, 14, 15, 16, 17, 18, 19, 20, 21, 22, 23, 24, 25, 26, 27, 28, 29, 30, 31, 32, 33, 34, 35, 36, 37, 38, 42, 43, 44, 45, 46, 47, 48, 49, 50, 51, 52, 53, 54, 55] (by decide +kernel) (by decide +kernel)
set_option maxRecDepth 20000 in
theorem gX2_init_X3_init : GoodIn wsX2_init (wsX3_init) := ggX2_init_X3_init
theorem dX2_init_0 : decode cX2_init 0 = .ok (.aload_n 0, 1) := by decide +kernel
theorem dX2_init_1 : decode cX2_init 1 = .ok (.invokespecial 3, 3) := by decide +kernel
theorem dX2_init_4 : decode cX2_init 4 = .ok (.aload_n 0, 1) := by decide +kernel
theorem dX2_init_5 : decode cX2_init 5 = .ok (.iconst 4, 1) := by decide +kernel
theorem dX2_init_6 : decode cX2_init 6 = .ok (.anewarray 9, 3) := by decide +kernel
theorem dX2_init_9 : decode cX2_init 9 = .ok (.putfield 11, 3) := by decide +kernel
theorem dX2_init_12 : decode cX2_init 12 = .ok (.iconst 0, 1) := by decide +kernel
theorem dX2_init_13 : decode cX2_init 13 = .ok (.istore_n 1, 1) := by decide +kernel
theorem dX2_init_14 : decode cX2_init 14 = .ok (.iload_n 1, 1) := by decide +kernel
theorem dX2_init_15 : decode cX2_init 15 = .ok (.iconst 4, 1) := by decide +kernel
theorem dX2_init_16 : decode cX2_init 16 = .ok (.if_icmp .ge 22, 3) := by decide +kernel
theorem dX2_init_19 : decode cX2_init 19 = .ok (.aload_n 0, 1) := by decide +kernel
theorem dX2_init_20 : decode cX2_init 20 = .ok (.getfield 11, 3) := by decide +kernel
theorem dX2_init_23 : decode cX2_init 23 = .ok (.iload_n 1, 1) := by decide +kernel
theorem dX2_init_24 : decode cX2_init 24 = .ok (.new 9, 3) := by decide +kernel
theorem dX2_init_27 : decode cX2_init 27 = .ok (.dup, 1) := by decide +kernel
theorem dX2_init_28 : decode cX2_init 28 = .ok (.invokespecial 17, 3) := by decide +kernel
theorem dX2_init_31 : decode cX2_init 31 = .ok (.aastore, 1) := by decide +kernel
theorem dX2_init_32 : decode cX2_init 32 = .ok (.iinc 1 1, 3) := by decide +kernel
theorem dX2_init_35 : decode cX2_init 35 = .ok (.goto (-21), 3) := by decide +kernel
theorem dX2_init_38 : decode cX2_init 38 = .ok (.return_, 1) := by decide +kernel
set_option maxRecDepth 20000 in
theorem ggX2_record_X3_copyFrom : GoodIn wsX2_record wsX3_copyFrom := goodIn_r _ [8, 9, 10, 11, 12, 13, 14, 15, 16, 17, 18, 19, 20, 21, 22, 23, 24, 25, 26, 27, 28, 29, 30, 31, 32, 33, 34, 35, 36, 37, 38, 42, 43, 44, 45, 46, 47, 48, 49, 50, 51, 52, 53, 54, 55] (by decide +kernel) (by decide +kernel)
set_option maxRecDepth 20000 in
theorem gX2_record_X3_copyFrom : GoodIn wsX2_record (wsV RX2 25 RX3 yX3_copyFrom wsX3_copyFrom) := goodIn_app (goodIn_of _ (by decide +kernel)) ggX2_record_X3_copyFrom
theorem dX2_record_0 : decode cX2_record 0 = .ok (.aload_n 0, 1) := by decide +kernel
theorem dX2_record_1 : decode cX2_record 1 = .ok (.getfield 11, 3) := by decide +kernel
theorem dX2_record_4 : decode cX2_record 4 = .ok (.aload_n 0, 1) := by decide +kernel
theorem dX2_record_5 : decode cX2_record 5 = .ok (.getfield 18, 3) := by decide +kernel
theorem dX2_record_8 : decode cX2_record 8 = .ok (.aload_n 0, 1) := by decide +kernel
theorem dX2_record_9 : decode cX2_record 9 = .ok (.getfield 22, 3) := by decide +kernel
theorem dX2_record_12 : decode cX2_record 12 = .ok (.iadd, 1) := by decide +kernel
theorem dX2_record_13 : decode cX2_record 13 = .ok (.iconst 4, 1) := by decide +kernel
theorem dX2_record_14 : decode cX2_record 14 = .ok (.irem, 1) := by decide +kernel
theorem dX2_record_15 : decode cX2_record 15 = .ok (.aaload, 1) := by decide +kernel
theorem dX2_record_16 : decode cX2_record 16 = .ok (.aload_n 1, 1) := by decide +kernel
theorem dX2_record_17 : decode cX2_record 17 = .ok (.invokevirtual 25, 3) := by decide +kernel
theorem dX2_record_20 : decode cX2_record 20 = .ok (.aload_n 0, 1) := by decide +kernel
theorem dX2_record_21 : decode cX2_record 21 = .ok (.getfield 22, 3) := by decide +kernel
theorem dX2_record_24 : decode cX2_record 24 = .ok (.iconst 4, 1) := by decide +kernel
theorem dX2_record_25 : decode cX2_record 25 = .ok (.if_icmp .ge 16, 3) := by decide +kernel
theorem dX2_record_28 : decode cX2_record 28 = .ok (.aload_n 0, 1) := by decide +kernel
theorem dX2_record_29 : decode cX2_record 29 = .ok (.dup, 1) := by decide +kernel
theorem dX2_record_30 : decode cX2_record 30 = .ok (.getfield 22, 3) := by decide +kernel
theorem dX2_record_33 : decode cX2_record 33 = .ok (.iconst 1, 1) := by decide +kernel
theorem dX2_record_34 : decode cX2_record 34 = .ok (.iadd, 1) := by decide +kernel
theorem dX2_record_35 : decode cX2_record 35 = .ok (.putfield 22, 3) := by decide +kernel
theorem dX2_record_38 : decode cX2_record 38 = .ok (.goto 15, 3) := by decide +kernel
theorem dX2_record_41 : decode cX2_record 41 = .ok (.aload_n 0, 1) := by decide +kernel
theorem dX2_record_42 : decode cX2_record 42 = .ok (.aload_n 0, 1) := by decide +kernel
theorem dX2_record_43 : decode cX2_record 43 = .ok (.getfield 18, 3) := by decide +kernel
theorem dX2_record_46 : decode cX2_record 46 = .ok (.iconst 1, 1) := by decide +kernel
theorem dX2_record_47 : decode cX2_record 47 = .ok (.iadd, 1) := by decide +kernel
theorem dX2_record_48 : decode cX2_record 48 = .ok (.iconst 4, 1) := by decide +kernel
theorem dX2_record_49 : decode cX2_record 49 = .ok (.irem, 1) := by decide +kernel
theorem dX2_record_50 : decode cX2_record 50 = .ok (.putfield 18, 3) := by decide +kernel
theorem dX2_record_53 : decode cX2_record 53 = .ok (.return_, 1) := by decide +kernel
set_option maxRecDepth 20000 in
theorem ggX2_takeLatest_X3_copyFrom : GoodIn wsX2_takeLatest wsX3_copyFrom := goodIn_r _ [8, 9, 10, 11, 12, 13, 14, 15, 16, 17, 18, 19, 20, 21, 22, 23, 24, 25, 26, 27, 28, 29, 30, 31, 32, 33, 34, 35, 36, 37, 38, 42, 43, 44, 45, 46, 47, 48, 49, 50, 51, 52, 53, 54, 55] (by decide +kernel) (by decide +kernel)
set_option maxRecDepth 20000 in
theorem gX2_takeLatest_X3_copyFrom : GoodIn wsX2_takeLatest (wsV RX2 25 RX3 yX3_copyFrom wsX3_copyFrom) := goodIn_app (goodIn_of _ (by decide +kernel)) ggX2_takeLatest_X3_copyFrom
theorem dX2_takeLatest_0 : decode cX2_takeLatest 0 = .ok (.aload_n 0, 1) := by decide +kernel
theorem dX2_takeLatest_1 : decode cX2_takeLatest 1 = .ok (.getfield 22, 3) := by decide +kernel
theorem dX2_takeLatest_4 : decode cX2_takeLatest 4 = .ok (.ifCond .le 33, 3) := by decide +kernel
theorem dX2_takeLatest_7 : decode cX2_takeLatest 7 = .ok (.aload_n 0, 1) := by decide +kernel
theorem dX2_takeLatest_8 : decode cX2_takeLatest 8 = .ok (.dup, 1) := by decide +kernel
theorem dX2_takeLatest_9 : decode cX2_takeLatest 9 = .ok (.getfield 22, 3) := by decide +kernel
theorem dX2_takeLatest_12 : decode cX2_takeLatest 12 = .ok (.iconst 1, 1) := by decide +kernel
theorem dX2_takeLatest_13 : decode cX2_takeLatest 13 = .ok (.isub, 1) := by decide +kernel
theorem dX2_takeLatest_14 : decode cX2_takeLatest 14 = .ok (.putfield 22, 3) := by decide +kernel
theorem dX2_takeLatest_17 : decode cX2_takeLatest 17 = .ok (.aload_n 1, 1) := by decide +kernel
theorem dX2_takeLatest_18 : decode cX2_takeLatest 18 = .ok (.aload_n 0, 1) := by decide +kernel
theorem dX2_takeLatest_19 : decode cX2_takeLatest 19 = .ok (.getfield 11, 3) := by decide +kernel
theorem dX2_takeLatest_22 : decode cX2_takeLatest 22 = .ok (.aload_n 0, 1) := by decide +kernel
theorem dX2_takeLatest_23 : decode cX2_takeLatest 23 = .ok (.getfield 18, 3) := by decide +kernel
theorem dX2_takeLatest_26 : decode cX2_takeLatest 26 = .ok (.aload_n 0, 1) := by decide +kernel
theorem dX2_takeLatest_27 : decode cX2_takeLatest 27 = .ok (.getfield 22, 3) := by decide +kernel
theorem dX2_takeLatest_30 : decode cX2_takeLatest 30 = .ok (.iadd, 1) := by decide +kernel
theorem dX2_takeLatest_31 : decode cX2_takeLatest 31 = .ok (.iconst 4, 1) := by decide +kernel
theorem dX2_takeLatest_32 : decode cX2_takeLatest 32 = .ok (.irem, 1) := by decide +kernel
theorem dX2_takeLatest_33 : decode cX2_takeLatest 33 = .ok (.aaload, 1) := by decide +kernel
theorem dX2_takeLatest_34 : decode cX2_takeLatest 34 = .ok (.invokevirtual 25, 3) := by decide +kernel
theorem dX2_takeLatest_37 : decode cX2_takeLatest 37 = .ok (.return_, 1) := by decide +kernel
set_option maxRecDepth 20000 in
theorem ggX3_init_X0_init : GoodIn wsX3_init wsX0_init := goodIn_r _ [14, 15, 2, 3, 4, 16, 17, 18, 19, 20, 21, 22, 23, 24, 25, 26, 27, 28, 29, 30, 37, 38, 39, 40, 41, 42, 43, 44] (by decide +kernel) (by decide +kernel)
set_option maxRecDepth 20000 in
theorem gX3_init_X0_init : GoodIn wsX3_init (wsX0_init) := ggX3_init_X0_init
theorem dX3_init_0 : decode cX3_init 0 = .ok (.aload_n 0, 1) := by decide +kernel
theorem dX3_init_1 : decode cX3_init 1 = .ok (.invokespecial 3, 3) := by decide +kernel
theorem dX3_init_4 : decode cX3_init 4 = .ok (.aload_n 0, 1) := by decide +kernel
theorem dX3_init_5 : decode cX3_init 5 = .ok (.sipush 256, 3) := by decide +kernel
theorem dX3_init_8 : decode cX3_init 8 = .ok (.newarray .int, 2) := by decide +kernel
theorem dX3_init_10 : decode cX3_init 10 = .ok (.putfield 9, 3) := by decide +kernel
theorem dX3_init_13 : decode cX3_init 13 = .ok (.aload_n 0, 1) := by decide +kernel
theorem dX3_init_14 : decode cX3_init 14 = .ok (.iconst 4, 1) := by decide +kernel
theorem dX3_init_15 : decode cX3_init 15 = .ok (.anewarray 15, 3) := by decide +kernel
theorem dX3_init_18 : decode cX3_init 18 = .ok (.putfield 17, 3) := by decide +kernel
theorem dX3_init_21 : decode cX3_init 21 = .ok (.aload_n 0, 1) := by decide +kernel
theorem dX3_init_22 : decode cX3_init 22 = .ok (.iconst 3, 1) := by decide +kernel
theorem dX3_init_23 : decode cX3_init 23 = .ok (.putfield 21, 3) := by decide +kernel
theorem dX3_init_26 : decode cX3_init 26 = .ok (.aload_n 0, 1) := by decide +kernel
theorem dX3_init_27 : decode cX3_init 27 = .ok (.bipush 20, 2) := by decide +kernel
theorem dX3_init_29 : decode cX3_init 29 = .ok (.putfield 25, 3) := by decide +kernel
theorem dX3_init_32 : decode cX3_init 32 = .ok (.iconst 0, 1) := by decide +kernel
theorem dX3_init_33 : decode cX3_init 33 = .ok (.istore_n 1, 1) := by decide +kernel
theorem dX3_init_34 : decode cX3_init 34 = .ok (.iload_n 1, 1) := by decide +kernel
theorem dX3_init_35 : decode cX3_init 35 = .ok (.iconst 4, 1) := by decide +kernel
theorem dX3_init_36 : decode cX3_init 36 = .ok (.if_icmp .ge 22, 3) := by decide +kernel
theorem dX3_init_39 : decode cX3_init 39 = .ok (.aload_n 0, 1) := by decide +kernel
theorem dX3_init_40 : decode cX3_init 40 = .ok (.getfield 17, 3) := by decide +kernel
theorem dX3_init_43 : decode cX3_init 43 = .ok (.iload_n 1, 1) := by decide +kernel
theorem dX3_init_44 : decode cX3_init 44 = .ok (.new 15, 3) := by decide +kernel
theorem dX3_init_47 : decode cX3_init 47 = .ok (.dup, 1) := by decide +kernel
theorem dX3_init_48 : decode cX3_init 48 = .ok (.invokespecial 28, 3) := by decide +kernel
theorem dX3_init_51 : decode cX3_init 51 = .ok (.aastore, 1) := by decide +kernel
theorem dX3_init_52 : decode cX3_init 52 = .ok (.iinc 1 1, 3) := by decide +kernel
theorem dX3_init_55 : decode cX3_init 55 = .ok (.goto (-21), 3) := by decide +kernel
theorem dX3_init_58 : decode cX3_init 58 = .ok (.return_, 1) := by decide +kernel
set_option maxRecDepth 20000 in
theorem ggX3_readLine_X0_placeOf : GoodIn wsX3_readLine wsX0_placeOf := goodIn_r _ [8] (by decide +kernel) (by decide +kernel)
set_option maxRecDepth 20000 in
theorem gX3_readLine_X0_placeOf : GoodIn wsX3_readLine (va_wsS RX3 29 yX0_placeOf wsX0_placeOf) := goodIn_app (goodIn_of _ (by decide +kernel)) ggX3_readLine_X0_placeOf
set_option maxRecDepth 20000 in
theorem ggX3_readLine_X0_holds : GoodIn wsX3_readLine wsX0_holds := goodIn_r _ [12, 13, 14, 6, 7, 8, 108, 109, 110, 111, 112] (by decide +kernel) (by decide +kernel)
set_option maxRecDepth 20000 in
theorem gX3_readLine_X0_holds : GoodIn wsX3_readLine (wsV RX3 33 RX0 yX0_holds wsX0_holds) := goodIn_app (goodIn_of _ (by decide +kernel)) ggX3_readLine_X0_holds
set_option maxRecDepth 20000 in
theorem ggX3_readLine_X0_isReachedBySnoop : GoodIn wsX3_readLine wsX0_isReachedBySnoop := goodIn_r _ [18, 19, 20, 21, 22, 23, 24, 25, 26, 27, 28, 29, 30, 31, 32, 33, 34, 35, 36, 37, 38, 10, 11, 7, 12, 13, 14, 6, 8, 108, 109, 110, 111, 112, 113, 114, 115] (by decide +kernel) (by decide +kernel)
set_option maxRecDepth 20000 in
theorem gX3_readLine_X0_isReachedBySnoop : GoodIn wsX3_readLine (wsV RX3 43 RX0 yX0_isReachedBySnoop wsX0_isReachedBySnoop) := goodIn_app (goodIn_of _ (by decide +kernel)) ggX3_readLine_X0_isReachedBySnoop
set_option maxRecDepth 20000 in
theorem ggX3_readLine_X3_writeBack : GoodIn wsX3_readLine wsX3_writeBack := goodIn_r _ [43, 44, 45, 4, 3, 46, 108, 109, 110, 111, 112, 102, 103, 104, 105, 106, 107] (by decide +kernel) (by decide +kernel)
set_option maxRecDepth 20000 in
theorem gX3_readLine_X3_writeBack : GoodIn wsX3_readLine (wsV RX3 46 RX3 yX3_writeBack wsX3_writeBack) := goodIn_app (goodIn_of _ (by decide +kernel)) ggX3_readLine_X3_writeBack
set_option maxRecDepth 20000 in
theorem ggX3_readLine_X3_vacate : GoodIn wsX3_readLine wsX3_vacate := goodIn_r _ [50, 44, 39, 40, 41, 42, 43, 45, 4, 3, 46, 51, 52, 53, 7, 54, 19, 55, 56, 57, 24, 58, 32, 33, 34, 59, 60, 61, 62, 63, 26, 35, 36, 37, 14, 6, 8, 64, 65, 66, 67, 13, 68, 108, 109, 110, 111, 112, 102, 103, 104, 105, 106, 107, 113, 114, 115] (by decide +kernel) (by decide +kernel)
set_option maxRecDepth 20000 in
theorem gX3_readLine_X3_vacate : GoodIn wsX3_readLine (wsV RX3 50 RX3 yX3_vacate wsX3_vacate) := goodIn_app (goodIn_of _ (by decide +kernel)) ggX3_readLine_X3_vacate
set_option maxRecDepth 20000 in
theorem ggX3_readLine_X3_beginToHold : GoodIn wsX3_readLine wsX3_beginToHold := goodIn_r _ [72, 73, 74, 75, 76, 77, 78, 7, 79, 13, 80, 68, 14, 6, 8, 81, 82, 83, 24, 84, 31, 32, 33, 34, 85, 86, 87, 88, 63, 26, 35, 36, 37, 89, 90, 91, 92, 93, 94, 95, 42, 96, 44, 2, 39, 40, 41, 43, 45, 4, 3, 46, 97, 65, 66, 67, 98, 99, 100, 101, 108, 109, 110, 111, 112, 102, 103, 104, 105, 106, 107, 113, 114, 115] (by decide +kernel) (by decide +kernel)
set_option maxRecDepth 20000 in
theorem gX3_readLine_X3_beginToHold : GoodIn wsX3_readLine (wsV RX3 53 RX3 yX3_beginToHold wsX3_beginToHold) := goodIn_app (goodIn_of _ (by decide +kernel)) ggX3_readLine_X3_beginToHold
theorem dX3_readLine_0 : decode cX3_readLine 0 = .ok (.aload_n 0, 1) := by decide +kernel
theorem dX3_readLine_1 : decode cX3_readLine 1 = .ok (.getfield 17, 3) := by decide +kernel
theorem dX3_readLine_4 : decode cX3_readLine 4 = .ok (.iload_n 1, 1) := by decide +kernel
theorem dX3_readLine_5 : decode cX3_readLine 5 = .ok (.aaload, 1) := by decide +kernel
theorem dX3_readLine_6 : decode cX3_readLine 6 = .ok (.astore_n 3, 1) := by decide +kernel
theorem dX3_readLine_7 : decode cX3_readLine 7 = .ok (.iload_n 2, 1) := by decide +kernel
theorem dX3_readLine_8 : decode cX3_readLine 8 = .ok (.invokestatic 29, 3) := by decide +kernel
theorem dX3_readLine_11 : decode cX3_readLine 11 = .ok (.istore 4, 2) := by decide +kernel
theorem dX3_readLine_13 : decode cX3_readLine 13 = .ok (.aload_n 3, 1) := by decide +kernel
theorem dX3_readLine_14 : decode cX3_readLine 14 = .ok (.iload_n 2, 1) := by decide +kernel
theorem dX3_readLine_15 : decode cX3_readLine 15 = .ok (.invokevirtual 33, 3) := by decide +kernel
theorem dX3_readLine_18 : decode cX3_readLine 18 = .ok (.ifCond .eq 21, 3) := by decide +kernel
theorem dX3_readLine_21 : decode cX3_readLine 21 = .ok (.aload_n 3, 1) := by decide +kernel
theorem dX3_readLine_22 : decode cX3_readLine 22 = .ok (.getfield 37, 3) := by decide +kernel
theorem dX3_readLine_25 : decode cX3_readLine 25 = .ok (.iconst 0, 1) := by decide +kernel
theorem dX3_readLine_26 : decode cX3_readLine 26 = .ok (.dup2, 1) := by decide +kernel
theorem dX3_readLine_27 : decode cX3_readLine 27 = .ok (.iaload, 1) := by decide +kernel
theorem dX3_readLine_28 : decode cX3_readLine 28 = .ok (.iconst 1, 1) := by decide +kernel
theorem dX3_readLine_29 : decode cX3_readLine 29 = .ok (.iadd, 1) := by decide +kernel
theorem dX3_readLine_30 : decode cX3_readLine 30 = .ok (.iastore, 1) := by decide +kernel
theorem dX3_readLine_31 : decode cX3_readLine 31 = .ok (.aload_n 3, 1) := by decide +kernel
theorem dX3_readLine_32 : decode cX3_readLine 32 = .ok (.getfield 40, 3) := by decide +kernel
theorem dX3_readLine_35 : decode cX3_readLine 35 = .ok (.iload 4, 2) := by decide +kernel
theorem dX3_readLine_37 : decode cX3_readLine 37 = .ok (.iaload, 1) := by decide +kernel
theorem dX3_readLine_38 : decode cX3_readLine 38 = .ok (.ireturn, 1) := by decide +kernel
theorem dX3_readLine_39 : decode cX3_readLine 39 = .ok (.aload_n 3, 1) := by decide +kernel
theorem dX3_readLine_40 : decode cX3_readLine 40 = .ok (.getfield 37, 3) := by decide +kernel
theorem dX3_readLine_43 : decode cX3_readLine 43 = .ok (.iconst 1, 1) := by decide +kernel
theorem dX3_readLine_44 : decode cX3_readLine 44 = .ok (.dup2, 1) := by decide +kernel
theorem dX3_readLine_45 : decode cX3_readLine 45 = .ok (.iaload, 1) := by decide +kernel
theorem dX3_readLine_46 : decode cX3_readLine 46 = .ok (.iconst 1, 1) := by decide +kernel
theorem dX3_readLine_47 : decode cX3_readLine 47 = .ok (.iadd, 1) := by decide +kernel
theorem dX3_readLine_48 : decode cX3_readLine 48 = .ok (.iastore, 1) := by decide +kernel
theorem dX3_readLine_49 : decode cX3_readLine 49 = .ok (.iconst 0, 1) := by decide +kernel
theorem dX3_readLine_50 : decode cX3_readLine 50 = .ok (.istore 5, 2) := by decide +kernel
theorem dX3_readLine_52 : decode cX3_readLine 52 = .ok (.iload 5, 2) := by decide +kernel
theorem dX3_readLine_54 : decode cX3_readLine 54 = .ok (.iconst 4, 1) := by decide +kernel
theorem dX3_readLine_55 : decode cX3_readLine 55 = .ok (.if_icmp .ge 50, 3) := by decide +kernel
theorem dX3_readLine_58 : decode cX3_readLine 58 = .ok (.aload_n 0, 1) := by decide +kernel
theorem dX3_readLine_59 : decode cX3_readLine 59 = .ok (.getfield 17, 3) := by decide +kernel
theorem dX3_readLine_62 : decode cX3_readLine 62 = .ok (.iload 5, 2) := by decide +kernel
theorem dX3_readLine_64 : decode cX3_readLine 64 = .ok (.aaload, 1) := by decide +kernel
theorem dX3_readLine_65 : decode cX3_readLine 65 = .ok (.astore 6, 2) := by decide +kernel
theorem dX3_readLine_67 : decode cX3_readLine 67 = .ok (.iload 5, 2) := by decide +kernel
theorem dX3_readLine_69 : decode cX3_readLine 69 = .ok (.iload_n 1, 1) := by decide +kernel
theorem dX3_readLine_70 : decode cX3_readLine 70 = .ok (.if_icmp .eq 29, 3) := by decide +kernel
theorem dX3_readLine_73 : decode cX3_readLine 73 = .ok (.aload 6, 2) := by decide +kernel
theorem dX3_readLine_75 : decode cX3_readLine 75 = .ok (.iload_n 2, 1) := by decide +kernel
theorem dX3_readLine_76 : decode cX3_readLine 76 = .ok (.invokevirtual 43, 3) := by decide +kernel
theorem dX3_readLine_79 : decode cX3_readLine 79 = .ok (.ifCond .eq 20, 3) := by decide +kernel
theorem dX3_readLine_82 : decode cX3_readLine 82 = .ok (.aload 6, 2) := by decide +kernel
theorem dX3_readLine_84 : decode cX3_readLine 84 = .ok (.iload_n 2, 1) := by decide +kernel
theorem dX3_readLine_85 : decode cX3_readLine 85 = .ok (.invokevirtual 33, 3) := by decide +kernel
theorem dX3_readLine_88 : decode cX3_readLine 88 = .ok (.ifCond .eq 11, 3) := by decide +kernel
theorem dX3_readLine_91 : decode cX3_readLine 91 = .ok (.aload_n 0, 1) := by decide +kernel
theorem dX3_readLine_92 : decode cX3_readLine 92 = .ok (.aload 6, 2) := by decide +kernel
theorem dX3_readLine_94 : decode cX3_readLine 94 = .ok (.iload 4, 2) := by decide +kernel
theorem dX3_readLine_96 : decode cX3_readLine 96 = .ok (.invokevirtual 46, 3) := by decide +kernel
theorem dX3_readLine_99 : decode cX3_readLine 99 = .ok (.iinc 5 1, 3) := by decide +kernel
theorem dX3_readLine_102 : decode cX3_readLine 102 = .ok (.goto (-50), 3) := by decide +kernel
theorem dX3_readLine_105 : decode cX3_readLine 105 = .ok (.aload_n 0, 1) := by decide +kernel
theorem dX3_readLine_106 : decode cX3_readLine 106 = .ok (.getfield 9, 3) := by decide +kernel
theorem dX3_readLine_109 : decode cX3_readLine 109 = .ok (.iload_n 2, 1) := by decide +kernel
theorem dX3_readLine_110 : decode cX3_readLine 110 = .ok (.iaload, 1) := by decide +kernel
theorem dX3_readLine_111 : decode cX3_readLine 111 = .ok (.istore 5, 2) := by decide +kernel
theorem dX3_readLine_113 : decode cX3_readLine 113 = .ok (.aload_n 0, 1) := by decide +kernel
theorem dX3_readLine_114 : decode cX3_readLine 114 = .ok (.aload_n 3, 1) := by decide +kernel
theorem dX3_readLine_115 : decode cX3_readLine 115 = .ok (.iload 4, 2) := by decide +kernel
theorem dX3_readLine_117 : decode cX3_readLine 117 = .ok (.invokevirtual 50, 3) := by decide +kernel
theorem dX3_readLine_120 : decode cX3_readLine 120 = .ok (.aload_n 0, 1) := by decide +kernel
theorem dX3_readLine_121 : decode cX3_readLine 121 = .ok (.aload_n 3, 1) := by decide +kernel
theorem dX3_readLine_122 : decode cX3_readLine 122 = .ok (.iload_n 2, 1) := by decide +kernel
theorem dX3_readLine_123 : decode cX3_readLine 123 = .ok (.iload 5, 2) := by decide +kernel
theorem dX3_readLine_125 : decode cX3_readLine 125 = .ok (.iconst 0, 1) := by decide +kernel
theorem dX3_readLine_126 : decode cX3_readLine 126 = .ok (.invokevirtual 53, 3) := by decide +kernel
theorem dX3_readLine_129 : decode cX3_readLine 129 = .ok (.iload 5, 2) := by decide +kernel
theorem dX3_readLine_131 : decode cX3_readLine 131 = .ok (.ireturn, 1) := by decide +kernel
set_option maxRecDepth 20000 in
theorem ggX3_writeLine_X0_holdsDirty : GoodIn wsX3_writeLine wsX0_holdsDirty := goodIn_r _ [7, 8, 9, 10, 11, 6, 12, 13, 14, 15, 16, 117, 118, 119, 120, 121] (by decide +kernel) (by decide +kernel)
set_option maxRecDepth 20000 in
theorem gX3_writeLine_X0_holdsDirty : GoodIn wsX3_writeLine (wsV RX3 60 RX0 yX0_holdsDirty wsX0_holdsDirty) := goodIn_app (goodIn_of _ (by decide +kernel)) ggX3_writeLine_X0_holdsDirty
set_option maxRecDepth 20000 in
theorem ggX3_writeLine_X3_takeFromOthers : GoodIn wsX3_writeLine wsX3_takeFromOthers := goodIn_r _ [21, 1, 22, 23, 24, 6, 25, 26, 27, 28, 29, 30, 31, 32, 33, 34, 35, 36, 37, 38, 39, 40, 41, 42, 43, 44, 9, 10, 11, 12, 13, 14, 15, 16, 45, 46, 47, 48, 49, 50, 51, 52, 53, 54, 55, 56, 57, 58, 59, 60, 61, 62, 8, 111, 112, 113, 114, 115, 116, 117, 118, 119, 120, 121, 122, 123, 124] (by decide +kernel) (by decide +kernel)
set_option maxRecDepth 20000 in
theorem gX3_writeLine_X3_takeFromOthers : GoodIn wsX3_writeLine (wsV RX3 63 RX3 yX3_takeFromOthers wsX3_takeFromOthers) := goodIn_app (goodIn_of _ (by decide +kernel)) ggX3_writeLine_X3_takeFromOthers
set_option maxRecDepth 20000 in
theorem ggX3_writeLine_X0_holds : GoodIn wsX3_writeLine wsX0_holds := goodIn_r _ [12, 13, 14, 15, 6, 16, 117, 118, 119, 120, 121] (by decide +kernel) (by decide +kernel)
set_option maxRecDepth 20000 in
theorem gX3_writeLine_X0_holds : GoodIn wsX3_writeLine (wsV RX3 33 RX0 yX0_holds wsX0_holds) := goodIn_app (goodIn_of _ (by decide +kernel)) ggX3_writeLine_X0_holds
set_option maxRecDepth 20000 in
theorem ggX3_writeLine_X0_fill : GoodIn wsX3_writeLine wsX0_fill := goodIn_r _ [66, 13, 67, 8, 14, 15, 6, 16, 117, 118, 119, 120, 121] (by decide +kernel) (by decide +kernel)
set_option maxRecDepth 20000 in
theorem gX3_writeLine_X0_fill : GoodIn wsX3_writeLine (wsV RX3 67 RX0 yX0_fill wsX0_fill) := goodIn_app (goodIn_of _ (by decide +kernel)) ggX3_writeLine_X0_fill
set_option maxRecDepth 20000 in
theorem ggX3_writeLine_X0_placeOf : GoodIn wsX3_writeLine wsX0_placeOf := goodIn_r _ [16] (by decide +kernel) (by decide +kernel)
set_option maxRecDepth 20000 in
theorem gX3_writeLine_X0_placeOf : GoodIn wsX3_writeLine (va_wsS RX3 29 yX0_placeOf wsX0_placeOf) := goodIn_app (goodIn_of _ (by decide +kernel)) ggX3_writeLine_X0_placeOf
set_option maxRecDepth 20000 in
theorem ggX3_writeLine_X3_vacate : GoodIn wsX3_writeLine wsX3_vacate := goodIn_r _ [72, 73, 74, 75, 76, 20, 77, 78, 79, 80, 81, 46, 47, 48, 6, 49, 26, 50, 51, 52, 31, 53, 39, 40, 41, 54, 55, 56, 57, 58, 33, 42, 43, 44, 14, 15, 16, 59, 60, 61, 62, 13, 8, 117, 118, 119, 120, 121, 111, 112, 113, 114, 115, 116, 122, 123, 124] (by decide +kernel) (by decide +kernel)
set_option maxRecDepth 20000 in
theorem gX3_writeLine_X3_vacate : GoodIn wsX3_writeLine (wsV RX3 50 RX3 yX3_vacate wsX3_vacate) := goodIn_app (goodIn_of _ (by decide +kernel)) ggX3_writeLine_X3_vacate
set_option maxRecDepth 20000 in
theorem ggX3_writeLine_X3_beginToHold : GoodIn wsX3_writeLine wsX3_beginToHold := goodIn_r _ [85, 86, 87, 88, 63, 64, 65, 6, 66, 13, 67, 8, 14, 15, 16, 89, 90, 91, 31, 92, 38, 39, 40, 41, 93, 94, 95, 96, 58, 33, 42, 43, 44, 97, 98, 99, 100, 101, 102, 103, 20, 104, 73, 105, 74, 75, 76, 77, 78, 79, 80, 81, 106, 60, 61, 62, 107, 108, 109, 110, 117, 118, 119, 120, 121, 111, 112, 113, 114, 115, 116, 122, 123, 124] (by decide +kernel) (by decide +kernel)
set_option maxRecDepth 20000 in
theorem gX3_writeLine_X3_beginToHold : GoodIn wsX3_writeLine (wsV RX3 53 RX3 yX3_beginToHold wsX3_beginToHold) := goodIn_app (goodIn_of _ (by decide +kernel)) ggX3_writeLine_X3_beginToHold
theorem dX3_writeLine_0 : decode cX3_writeLine 0 = .ok (.aload_n 0, 1) := by decide +kernel
theorem dX3_writeLine_1 : decode cX3_writeLine 1 = .ok (.getfield 17, 3) := by decide +kernel
theorem dX3_writeLine_4 : decode cX3_writeLine 4 = .ok (.iload_n 1, 1) := by decide +kernel
theorem dX3_writeLine_5 : decode cX3_writeLine 5 = .ok (.aaload, 1) := by decide +kernel
theorem dX3_writeLine_6 : decode cX3_writeLine 6 = .ok (.astore 4, 2) := by decide +kernel
theorem dX3_writeLine_8 : decode cX3_writeLine 8 = .ok (.aload_n 0, 1) := by decide +kernel
theorem dX3_writeLine_9 : decode cX3_writeLine 9 = .ok (.dup, 1) := by decide +kernel
theorem dX3_writeLine_10 : decode cX3_writeLine 10 = .ok (.getfield 57, 3) := by decide +kernel
theorem dX3_writeLine_13 : decode cX3_writeLine 13 = .ok (.iconst 1, 1) := by decide +kernel
theorem dX3_writeLine_14 : decode cX3_writeLine 14 = .ok (.iadd, 1) := by decide +kernel
theorem dX3_writeLine_15 : decode cX3_writeLine 15 = .ok (.putfield 57, 3) := by decide +kernel
theorem dX3_writeLine_18 : decode cX3_writeLine 18 = .ok (.aload 4, 2) := by decide +kernel
theorem dX3_writeLine_20 : decode cX3_writeLine 20 = .ok (.iload_n 2, 1) := by decide +kernel
theorem dX3_writeLine_21 : decode cX3_writeLine 21 = .ok (.invokevirtual 60, 3) := by decide +kernel
theorem dX3_writeLine_24 : decode cX3_writeLine 24 = .ok (.ifCond .eq 7, 3) := by decide +kernel
theorem dX3_writeLine_27 : decode cX3_writeLine 27 = .ok (.iconst 0, 1) := by decide +kernel
theorem dX3_writeLine_28 : decode cX3_writeLine 28 = .ok (.goto 9, 3) := by decide +kernel
theorem dX3_writeLine_31 : decode cX3_writeLine 31 = .ok (.aload_n 0, 1) := by decide +kernel
theorem dX3_writeLine_32 : decode cX3_writeLine 32 = .ok (.iload_n 1, 1) := by decide +kernel
theorem dX3_writeLine_33 : decode cX3_writeLine 33 = .ok (.iload_n 2, 1) := by decide +kernel
theorem dX3_writeLine_34 : decode cX3_writeLine 34 = .ok (.invokevirtual 63, 3) := by decide +kernel
theorem dX3_writeLine_37 : decode cX3_writeLine 37 = .ok (.istore 5, 2) := by decide +kernel
theorem dX3_writeLine_39 : decode cX3_writeLine 39 = .ok (.aload 4, 2) := by decide +kernel
theorem dX3_writeLine_41 : decode cX3_writeLine 41 = .ok (.iload_n 2, 1) := by decide +kernel
theorem dX3_writeLine_42 : decode cX3_writeLine 42 = .ok (.invokevirtual 33, 3) := by decide +kernel
theorem dX3_writeLine_45 : decode cX3_writeLine 45 = .ok (.ifCond .eq 14, 3) := by decide +kernel
theorem dX3_writeLine_48 : decode cX3_writeLine 48 = .ok (.aload 4, 2) := by decide +kernel
theorem dX3_writeLine_50 : decode cX3_writeLine 50 = .ok (.iload_n 2, 1) := by decide +kernel
theorem dX3_writeLine_51 : decode cX3_writeLine 51 = .ok (.iload_n 3, 1) := by decide +kernel
theorem dX3_writeLine_52 : decode cX3_writeLine 52 = .ok (.iconst 1, 1) := by decide +kernel
theorem dX3_writeLine_53 : decode cX3_writeLine 53 = .ok (.invokevirtual 67, 3) := by decide +kernel
theorem dX3_writeLine_56 : decode cX3_writeLine 56 = .ok (.goto 22, 3) := by decide +kernel
theorem dX3_writeLine_59 : decode cX3_writeLine 59 = .ok (.aload_n 0, 1) := by decide +kernel
theorem dX3_writeLine_60 : decode cX3_writeLine 60 = .ok (.aload 4, 2) := by decide +kernel
theorem dX3_writeLine_62 : decode cX3_writeLine 62 = .ok (.iload_n 2, 1) := by decide +kernel
theorem dX3_writeLine_63 : decode cX3_writeLine 63 = .ok (.invokestatic 29, 3) := by decide +kernel
theorem dX3_writeLine_66 : decode cX3_writeLine 66 = .ok (.invokevirtual 50, 3) := by decide +kernel
theorem dX3_writeLine_69 : decode cX3_writeLine 69 = .ok (.aload_n 0, 1) := by decide +kernel
theorem dX3_writeLine_70 : decode cX3_writeLine 70 = .ok (.aload 4, 2) := by decide +kernel
theorem dX3_writeLine_72 : decode cX3_writeLine 72 = .ok (.iload_n 2, 1) := by decide +kernel
theorem dX3_writeLine_73 : decode cX3_writeLine 73 = .ok (.iload_n 3, 1) := by decide +kernel
theorem dX3_writeLine_74 : decode cX3_writeLine 74 = .ok (.iconst 1, 1) := by decide +kernel
theorem dX3_writeLine_75 : decode cX3_writeLine 75 = .ok (.invokevirtual 53, 3) := by decide +kernel
theorem dX3_writeLine_78 : decode cX3_writeLine 78 = .ok (.iload 5, 2) := by decide +kernel
theorem dX3_writeLine_80 : decode cX3_writeLine 80 = .ok (.ireturn, 1) := by decide +kernel
set_option maxRecDepth 20000 in
theorem ggX3_takeFromOthers_X0_isReachedBySnoop : GoodIn wsX3_takeFromOthers wsX0_isReachedBySnoop := goodIn_r _ [6, 7, 8, 9, 10, 11, 12, 13, 14, 15, 16, 17, 18, 19, 20, 21, 22, 23, 24, 25, 26, 27, 28, 5, 29, 30, 31, 32, 33, 59, 60, 61, 62, 63, 64, 65, 66] (by decide +kernel) (by decide +kernel)
set_option maxRecDepth 20000 in
theorem gX3_takeFromOthers_X0_isReachedBySnoop : GoodIn wsX3_takeFromOthers (wsV RX3 43 RX0 yX0_isReachedBySnoop wsX0_isReachedBySnoop) := goodIn_app (goodIn_of _ (by decide +kernel)) ggX3_takeFromOthers_X0_isReachedBySnoop
set_option maxRecDepth 20000 in
theorem ggX3_takeFromOthers_X0_holds : GoodIn wsX3_takeFromOthers wsX0_holds := goodIn_r _ [29, 30, 31, 32, 5, 33, 59, 60, 61, 62, 63] (by decide +kernel) (by decide +kernel)
set_option maxRecDepth 20000 in
theorem gX3_takeFromOthers_X0_holds : GoodIn wsX3_takeFromOthers (wsV RX3 33 RX0 yX0_holds wsX0_holds) := goodIn_app (goodIn_of _ (by decide +kernel)) ggX3_takeFromOthers_X0_holds
set_option maxRecDepth 20000 in
theorem ggX3_takeFromOthers_X0_release : GoodIn wsX3_takeFromOthers wsX0_release := goodIn_r _ [38, 7, 39, 40, 41, 12, 42, 20, 21, 22, 43, 44, 45, 46, 47, 14, 23, 24, 25, 31, 32, 5, 33, 48, 49, 50, 51, 30, 52, 59, 60, 61, 62, 63, 64, 65, 66] (by decide +kernel) (by decide +kernel)
set_option maxRecDepth 20000 in
theorem gX3_takeFromOthers_X0_release : GoodIn wsX3_takeFromOthers (wsV RX3 71 RX0 yX0_release wsX0_release) := goodIn_app (goodIn_of _ (by decide +kernel)) ggX3_takeFromOthers_X0_release
theorem dX3_takeFromOthers_0 : decode cX3_takeFromOthers 0 = .ok (.iconst 0, 1) := by decide +kernel
theorem dX3_takeFromOthers_1 : decode cX3_takeFromOthers 1 = .ok (.istore_n 3, 1) := by decide +kernel
theorem dX3_takeFromOthers_2 : decode cX3_takeFromOthers 2 = .ok (.iconst 0, 1) := by decide +kernel
theorem dX3_takeFromOthers_3 : decode cX3_takeFromOthers 3 = .ok (.istore 4, 2) := by decide +kernel
theorem dX3_takeFromOthers_5 : decode cX3_takeFromOthers 5 = .ok (.iload 4, 2) := by decide +kernel
theorem dX3_takeFromOthers_7 : decode cX3_takeFromOthers 7 = .ok (.iconst 4, 1) := by decide +kernel
theorem dX3_takeFromOthers_8 : decode cX3_takeFromOthers 8 = .ok (.if_icmp .ge 51, 3) := by decide +kernel
theorem dX3_takeFromOthers_11 : decode cX3_takeFromOthers 11 = .ok (.aload_n 0, 1) := by decide +kernel
theorem dX3_takeFromOthers_12 : decode cX3_takeFromOthers 12 = .ok (.getfield 17, 3) := by decide +kernel
theorem dX3_takeFromOthers_15 : decode cX3_takeFromOthers 15 = .ok (.iload 4, 2) := by decide +kernel
theorem dX3_takeFromOthers_17 : decode cX3_takeFromOthers 17 = .ok (.aaload, 1) := by decide +kernel
theorem dX3_takeFromOthers_18 : decode cX3_takeFromOthers 18 = .ok (.astore 5, 2) := by decide +kernel
theorem dX3_takeFromOthers_20 : decode cX3_takeFromOthers 20 = .ok (.iload 4, 2) := by decide +kernel
theorem dX3_takeFromOthers_22 : decode cX3_takeFromOthers 22 = .ok (.iload_n 1, 1) := by decide +kernel
theorem dX3_takeFromOthers_23 : decode cX3_takeFromOthers 23 = .ok (.if_icmp .eq 30, 3) := by decide +kernel
theorem dX3_takeFromOthers_26 : decode cX3_takeFromOthers 26 = .ok (.aload 5, 2) := by decide +kernel
theorem dX3_takeFromOthers_28 : decode cX3_takeFromOthers 28 = .ok (.iload_n 2, 1) := by decide +kernel
theorem dX3_takeFromOthers_29 : decode cX3_takeFromOthers 29 = .ok (.invokevirtual 43, 3) := by decide +kernel
theorem dX3_takeFromOthers_32 : decode cX3_takeFromOthers 32 = .ok (.ifCond .eq 21, 3) := by decide +kernel
theorem dX3_takeFromOthers_35 : decode cX3_takeFromOthers 35 = .ok (.iinc 3 1, 3) := by decide +kernel
theorem dX3_takeFromOthers_38 : decode cX3_takeFromOthers 38 = .ok (.aload 5, 2) := by decide +kernel
theorem dX3_takeFromOthers_40 : decode cX3_takeFromOthers 40 = .ok (.iload_n 2, 1) := by decide +kernel
theorem dX3_takeFromOthers_41 : decode cX3_takeFromOthers 41 = .ok (.invokevirtual 33, 3) := by decide +kernel
theorem dX3_takeFromOthers_44 : decode cX3_takeFromOthers 44 = .ok (.ifCond .eq 9, 3) := by decide +kernel
theorem dX3_takeFromOthers_47 : decode cX3_takeFromOthers 47 = .ok (.aload 5, 2) := by decide +kernel
theorem dX3_takeFromOthers_49 : decode cX3_takeFromOthers 49 = .ok (.iload_n 2, 1) := by decide +kernel
theorem dX3_takeFromOthers_50 : decode cX3_takeFromOthers 50 = .ok (.invokevirtual 71, 3) := by decide +kernel
theorem dX3_takeFromOthers_53 : decode cX3_takeFromOthers 53 = .ok (.iinc 4 1, 3) := by decide +kernel
theorem dX3_takeFromOthers_56 : decode cX3_takeFromOthers 56 = .ok (.goto (-51), 3) := by decide +kernel
theorem dX3_takeFromOthers_59 : decode cX3_takeFromOthers 59 = .ok (.iload_n 3, 1) := by decide +kernel
theorem dX3_takeFromOthers_60 : decode cX3_takeFromOthers 60 = .ok (.ireturn, 1) := by decide +kernel
set_option maxRecDepth 20000 in
theorem ggX3_dropLine_X0_holds : GoodIn wsX3_dropLine wsX0_holds := goodIn_r _ [6, 7, 8, 9, 5, 10, 64, 65, 66, 67, 68] (by decide +kernel) (by decide +kernel)
set_option maxRecDepth 20000 in
theorem gX3_dropLine_X0_holds : GoodIn wsX3_dropLine (wsV RX3 33 RX0 yX0_holds wsX0_holds) := goodIn_app (goodIn_of _ (by decide +kernel)) ggX3_dropLine_X0_holds
set_option maxRecDepth 20000 in
theorem ggX3_dropLine_X0_holdsDirty : GoodIn wsX3_dropLine wsX0_holdsDirty := goodIn_r _ [14, 15, 16, 3, 4, 5, 6, 7, 8, 9, 10, 64, 65, 66, 67, 68] (by decide +kernel) (by decide +kernel)
set_option maxRecDepth 20000 in
theorem gX3_dropLine_X0_holdsDirty : GoodIn wsX3_dropLine (wsV RX3 60 RX0 yX0_holdsDirty wsX0_holdsDirty) := goodIn_app (goodIn_of _ (by decide +kernel)) ggX3_dropLine_X0_holdsDirty
set_option maxRecDepth 20000 in
theorem ggX3_dropLine_X0_placeOf : GoodIn wsX3_dropLine wsX0_placeOf := goodIn_r _ [10] (by decide +kernel) (by decide +kernel)
set_option maxRecDepth 20000 in
theorem gX3_dropLine_X0_placeOf : GoodIn wsX3_dropLine (va_wsS RX3 29 yX0_placeOf wsX0_placeOf) := goodIn_app (goodIn_of _ (by decide +kernel)) ggX3_dropLine_X0_placeOf
set_option maxRecDepth 20000 in
theorem ggX3_dropLine_X3_vacate : GoodIn wsX3_dropLine wsX3_vacate := goodIn_r _ [22, 23, 24, 25, 26, 21, 27, 28, 29, 30, 31, 32, 33, 34, 5, 35, 36, 37, 38, 39, 40, 41, 42, 43, 44, 45, 46, 47, 48, 49, 50, 51, 52, 53, 8, 9, 10, 54, 55, 56, 57, 7, 15, 64, 65, 66, 67, 68, 58, 59, 60, 61, 62, 63, 69, 70, 71] (by decide +kernel) (by decide +kernel)
set_option maxRecDepth 20000 in
theorem gX3_dropLine_X3_vacate : GoodIn wsX3_dropLine (wsV RX3 50 RX3 yX3_vacate wsX3_vacate) := goodIn_app (goodIn_of _ (by decide +kernel)) ggX3_dropLine_X3_vacate
theorem dX3_dropLine_0 : decode cX3_dropLine 0 = .ok (.aload_n 0, 1) := by decide +kernel
theorem dX3_dropLine_1 : decode cX3_dropLine 1 = .ok (.getfield 17, 3) := by decide +kernel
theorem dX3_dropLine_4 : decode cX3_dropLine 4 = .ok (.iload_n 1, 1) := by decide +kernel
theorem dX3_dropLine_5 : decode cX3_dropLine 5 = .ok (.aaload, 1) := by decide +kernel
theorem dX3_dropLine_6 : decode cX3_dropLine 6 = .ok (.astore_n 3, 1) := by decide +kernel
theorem dX3_dropLine_7 : decode cX3_dropLine 7 = .ok (.aload_n 3, 1) := by decide +kernel
theorem dX3_dropLine_8 : decode cX3_dropLine 8 = .ok (.iload_n 2, 1) := by decide +kernel
theorem dX3_dropLine_9 : decode cX3_dropLine 9 = .ok (.invokevirtual 33, 3) := by decide +kernel
theorem dX3_dropLine_12 : decode cX3_dropLine 12 = .ok (.ifCond .ne 6, 3) := by decide +kernel
theorem dX3_dropLine_15 : decode cX3_dropLine 15 = .ok (.bipush (-4), 2) := by decide +kernel
theorem dX3_dropLine_17 : decode cX3_dropLine 17 = .ok (.ireturn, 1) := by decide +kernel
theorem dX3_dropLine_18 : decode cX3_dropLine 18 = .ok (.aload_n 3, 1) := by decide +kernel
theorem dX3_dropLine_19 : decode cX3_dropLine 19 = .ok (.iload_n 2, 1) := by decide +kernel
theorem dX3_dropLine_20 : decode cX3_dropLine 20 = .ok (.invokevirtual 60, 3) := by decide +kernel
theorem dX3_dropLine_23 : decode cX3_dropLine 23 = .ok (.ifCond .eq 7, 3) := by decide +kernel
theorem dX3_dropLine_26 : decode cX3_dropLine 26 = .ok (.iconst 1, 1) := by decide +kernel
theorem dX3_dropLine_27 : decode cX3_dropLine 27 = .ok (.goto 4, 3) := by decide +kernel
theorem dX3_dropLine_30 : decode cX3_dropLine 30 = .ok (.iconst 0, 1) := by decide +kernel
theorem dX3_dropLine_31 : decode cX3_dropLine 31 = .ok (.istore 4, 2) := by decide +kernel
theorem dX3_dropLine_33 : decode cX3_dropLine 33 = .ok (.aload_n 0, 1) := by decide +kernel
theorem dX3_dropLine_34 : decode cX3_dropLine 34 = .ok (.aload_n 3, 1) := by decide +kernel
theorem dX3_dropLine_35 : decode cX3_dropLine 35 = .ok (.iload_n 2, 1) := by decide +kernel
theorem dX3_dropLine_36 : decode cX3_dropLine 36 = .ok (.invokestatic 29, 3) := by decide +kernel
theorem dX3_dropLine_39 : decode cX3_dropLine 39 = .ok (.invokevirtual 50, 3) := by decide +kernel
theorem dX3_dropLine_42 : decode cX3_dropLine 42 = .ok (.iload 4, 2) := by decide +kernel
theorem dX3_dropLine_44 : decode cX3_dropLine 44 = .ok (.ireturn, 1) := by decide +kernel
set_option maxRecDepth 20000 in
theorem ggX3_forgetOnPurpose_X0_hasNothingToForget : GoodIn wsX3_forgetOnPurpose wsX0_hasNothingToForget := goodIn_r _ [6, 7, 8, 9, 10, 5, 11, 12, 13, 14, 15, 16, 17, 18, 19, 20, 21, 22, 23, 24, 25, 26, 59, 60, 61, 62, 63, 64, 65, 66] (by decide +kernel) (by decide +kernel)
set_option maxRecDepth 20000 in
theorem gX3_forgetOnPurpose_X0_hasNothingToForget : GoodIn wsX3_forgetOnPurpose (wsV RX3 75 RX0 yX0_hasNothingToForget wsX0_hasNothingToForget) := goodIn_app (goodIn_of _ (by decide +kernel)) ggX3_forgetOnPurpose_X0_hasNothingToForget
set_option maxRecDepth 20000 in
theorem ggX3_forgetOnPurpose_X3_forgetAllBut : GoodIn wsX3_forgetOnPurpose wsX3_forgetAllBut := goodIn_r _ [31, 32, 33, 34, 35, 36, 37, 30, 38, 39, 40, 41, 42, 43, 44, 45, 5, 46, 12, 47, 48, 49, 50, 16, 51, 18, 52, 23, 59, 60, 61, 62, 63, 53, 54, 55, 56, 57, 58, 64, 65, 66] (by decide +kernel) (by decide +kernel)
set_option maxRecDepth 20000 in
theorem gX3_forgetOnPurpose_X3_forgetAllBut : GoodIn wsX3_forgetOnPurpose (wsV RX3 79 RX3 yX3_forgetAllBut wsX3_forgetAllBut) := goodIn_app (goodIn_of _ (by decide +kernel)) ggX3_forgetOnPurpose_X3_forgetAllBut
theorem dX3_forgetOnPurpose_0 : decode cX3_forgetOnPurpose 0 = .ok (.aload_n 0, 1) := by decide +kernel
theorem dX3_forgetOnPurpose_1 : decode cX3_forgetOnPurpose 1 = .ok (.getfield 17, 3) := by decide +kernel
theorem dX3_forgetOnPurpose_4 : decode cX3_forgetOnPurpose 4 = .ok (.iload_n 1, 1) := by decide +kernel
theorem dX3_forgetOnPurpose_5 : decode cX3_forgetOnPurpose 5 = .ok (.aaload, 1) := by decide +kernel
theorem dX3_forgetOnPurpose_6 : decode cX3_forgetOnPurpose 6 = .ok (.astore_n 2, 1) := by decide +kernel
theorem dX3_forgetOnPurpose_7 : decode cX3_forgetOnPurpose 7 = .ok (.aload_n 2, 1) := by decide +kernel
theorem dX3_forgetOnPurpose_8 : decode cX3_forgetOnPurpose 8 = .ok (.invokevirtual 75, 3) := by decide +kernel
theorem dX3_forgetOnPurpose_11 : decode cX3_forgetOnPurpose 11 = .ok (.ifCond .eq 8, 3) := by decide +kernel
theorem dX3_forgetOnPurpose_14 : decode cX3_forgetOnPurpose 14 = .ok (.bipush (-5), 2) := by decide +kernel
theorem dX3_forgetOnPurpose_16 : decode cX3_forgetOnPurpose 16 = .ok (.goto 9, 3) := by decide +kernel
theorem dX3_forgetOnPurpose_19 : decode cX3_forgetOnPurpose 19 = .ok (.aload_n 0, 1) := by decide +kernel
theorem dX3_forgetOnPurpose_20 : decode cX3_forgetOnPurpose 20 = .ok (.aload_n 2, 1) := by decide +kernel
theorem dX3_forgetOnPurpose_21 : decode cX3_forgetOnPurpose 21 = .ok (.iconst (-1), 1) := by decide +kernel
theorem dX3_forgetOnPurpose_22 : decode cX3_forgetOnPurpose 22 = .ok (.invokevirtual 79, 3) := by decide +kernel
theorem dX3_forgetOnPurpose_25 : decode cX3_forgetOnPurpose 25 = .ok (.ireturn, 1) := by decide +kernel
set_option maxRecDepth 20000 in
theorem ggX3_beginToHold_X0_fill : GoodIn wsX3_beginToHold wsX0_fill := goodIn_r _ [8, 9, 10, 11, 12, 13, 7, 14, 60, 61, 62, 63, 64] (by decide +kernel) (by decide +kernel)
set_option maxRecDepth 20000 in
theorem gX3_beginToHold_X0_fill : GoodIn wsX3_beginToHold (wsV RX3 67 RX0 yX0_fill wsX0_fill) := goodIn_app (goodIn_of _ (by decide +kernel)) ggX3_beginToHold_X0_fill
set_option maxRecDepth 20000 in
theorem ggX3_beginToHold_X1_add : GoodIn wsX3_beginToHold wsX1_add := goodIn_r _ [19, 20, 21, 22, 18, 23, 24, 25, 26, 27, 28, 29, 30, 31, 32, 71, 72, 73] (by decide +kernel) (by decide +kernel)
set_option maxRecDepth 20000 in
theorem gX3_beginToHold_X1_add : GoodIn wsX3_beginToHold (wsV RX3 87 RX1 yX1_add wsX1_add) := goodIn_app (goodIn_of _ (by decide +kernel)) ggX3_beginToHold_X1_add
set_option maxRecDepth 20000 in
theorem ggX3_beginToHold_X1_countersAboveZero : GoodIn wsX3_beginToHold wsX1_countersAboveZero := goodIn_r _ [36, 29, 71, 72, 73] (by decide +kernel) (by decide +kernel)
set_option maxRecDepth 20000 in
theorem gX3_beginToHold_X1_countersAboveZero : GoodIn wsX3_beginToHold (wsV RX3 93 RX1 yX1_countersAboveZero wsX1_countersAboveZero) := goodIn_app (goodIn_of _ (by decide +kernel)) ggX3_beginToHold_X1_countersAboveZero
set_option maxRecDepth 20000 in
theorem ggX3_beginToHold_X3_forgetAllBut : GoodIn wsX3_beginToHold wsX3_forgetAllBut := goodIn_r _ [41, 42, 1, 43, 44, 45, 46, 40, 47, 48, 49, 50, 51, 52, 53, 54, 7, 55, 9, 11, 56, 57, 58, 18, 59, 29, 28, 20, 60, 61, 62, 63, 64, 65, 66, 67, 68, 69, 70, 71, 72, 73] (by decide +kernel) (by decide +kernel)
set_option maxRecDepth 20000 in
theorem gX3_beginToHold_X3_forgetAllBut : GoodIn wsX3_beginToHold (wsV RX3 79 RX3 yX3_forgetAllBut wsX3_forgetAllBut) := goodIn_app (goodIn_of _ (by decide +kernel)) ggX3_beginToHold_X3_forgetAllBut
theorem dX3_beginToHold_0 : decode cX3_beginToHold 0 = .ok (.aload_n 1, 1) := by decide +kernel
theorem dX3_beginToHold_1 : decode cX3_beginToHold 1 = .ok (.iload_n 2, 1) := by decide +kernel
theorem dX3_beginToHold_2 : decode cX3_beginToHold 2 = .ok (.iload_n 3, 1) := by decide +kernel
theorem dX3_beginToHold_3 : decode cX3_beginToHold 3 = .ok (.iload 4, 2) := by decide +kernel
theorem dX3_beginToHold_5 : decode cX3_beginToHold 5 = .ok (.invokevirtual 67, 3) := by decide +kernel
theorem dX3_beginToHold_8 : decode cX3_beginToHold 8 = .ok (.aload_n 1, 1) := by decide +kernel
theorem dX3_beginToHold_9 : decode cX3_beginToHold 9 = .ok (.getfield 83, 3) := by decide +kernel
theorem dX3_beginToHold_12 : decode cX3_beginToHold 12 = .ok (.iload_n 2, 1) := by decide +kernel
theorem dX3_beginToHold_13 : decode cX3_beginToHold 13 = .ok (.aload_n 0, 1) := by decide +kernel
theorem dX3_beginToHold_14 : decode cX3_beginToHold 14 = .ok (.getfield 21, 3) := by decide +kernel
theorem dX3_beginToHold_17 : decode cX3_beginToHold 17 = .ok (.invokevirtual 87, 3) := by decide +kernel
theorem dX3_beginToHold_20 : decode cX3_beginToHold 20 = .ok (.aload_n 1, 1) := by decide +kernel
theorem dX3_beginToHold_21 : decode cX3_beginToHold 21 = .ok (.getfield 83, 3) := by decide +kernel
theorem dX3_beginToHold_24 : decode cX3_beginToHold 24 = .ok (.invokevirtual 93, 3) := by decide +kernel
theorem dX3_beginToHold_27 : decode cX3_beginToHold 27 = .ok (.aload_n 0, 1) := by decide +kernel
theorem dX3_beginToHold_28 : decode cX3_beginToHold 28 = .ok (.getfield 25, 3) := by decide +kernel
theorem dX3_beginToHold_31 : decode cX3_beginToHold 31 = .ok (.if_icmp .lt 22, 3) := by decide +kernel
theorem dX3_beginToHold_34 : decode cX3_beginToHold 34 = .ok (.aload_n 0, 1) := by decide +kernel
theorem dX3_beginToHold_35 : decode cX3_beginToHold 35 = .ok (.aload_n 1, 1) := by decide +kernel
theorem dX3_beginToHold_36 : decode cX3_beginToHold 36 = .ok (.iload_n 2, 1) := by decide +kernel
theorem dX3_beginToHold_37 : decode cX3_beginToHold 37 = .ok (.invokevirtual 79, 3) := by decide +kernel
theorem dX3_beginToHold_40 : decode cX3_beginToHold 40 = .ok (.pop, 1) := by decide +kernel
theorem dX3_beginToHold_41 : decode cX3_beginToHold 41 = .ok (.aload_n 1, 1) := by decide +kernel
theorem dX3_beginToHold_42 : decode cX3_beginToHold 42 = .ok (.getfield 83, 3) := by decide +kernel
theorem dX3_beginToHold_45 : decode cX3_beginToHold 45 = .ok (.iload_n 2, 1) := by decide +kernel
theorem dX3_beginToHold_46 : decode cX3_beginToHold 46 = .ok (.aload_n 0, 1) := by decide +kernel
theorem dX3_beginToHold_47 : decode cX3_beginToHold 47 = .ok (.getfield 21, 3) := by decide +kernel
theorem dX3_beginToHold_50 : decode cX3_beginToHold 50 = .ok (.invokevirtual 87, 3) := by decide +kernel
theorem dX3_beginToHold_53 : decode cX3_beginToHold 53 = .ok (.return_, 1) := by decide +kernel
set_option maxRecDepth 20000 in
theorem ggX3_forgetAllBut_X3_writeBack : GoodIn wsX3_forgetAllBut wsX3_writeBack := goodIn_r _ [8, 1, 9, 10, 11, 12, 28, 29, 30, 31, 32, 33, 34, 35, 36, 37, 38] (by decide +kernel) (by decide +kernel)
set_option maxRecDepth 20000 in
theorem gX3_forgetAllBut_X3_writeBack : GoodIn wsX3_forgetAllBut (wsV RX3 46 RX3 yX3_writeBack wsX3_writeBack) := goodIn_app (goodIn_of _ (by decide +kernel)) ggX3_forgetAllBut_X3_writeBack
set_option maxRecDepth 20000 in
theorem ggX3_forgetAllBut_X0_empty : GoodIn wsX3_forgetAllBut wsX0_empty := goodIn_r _ [17, 18, 19, 28, 29, 30, 31, 32] (by decide +kernel) (by decide +kernel)
set_option maxRecDepth 20000 in
theorem gX3_forgetAllBut_X0_empty : GoodIn wsX3_forgetAllBut (wsV RX3 100 RX0 yX0_empty wsX0_empty) := goodIn_app (goodIn_of _ (by decide +kernel)) ggX3_forgetAllBut_X0_empty
set_option maxRecDepth 20000 in
theorem ggX3_forgetAllBut_X1_wipe : GoodIn wsX3_forgetAllBut wsX1_wipe := goodIn_r _ [24, 25, 26, 27, 39, 40, 41] (by decide +kernel) (by decide +kernel)
set_option maxRecDepth 20000 in
theorem gX3_forgetAllBut_X1_wipe : GoodIn wsX3_forgetAllBut (wsV RX3 103 RX1 yX1_wipe wsX1_wipe) := goodIn_app (goodIn_of _ (by decide +kernel)) ggX3_forgetAllBut_X1_wipe
theorem dX3_forgetAllBut_0 : decode cX3_forgetAllBut 0 = .ok (.iconst 0, 1) := by decide +kernel
theorem dX3_forgetAllBut_1 : decode cX3_forgetAllBut 1 = .ok (.istore_n 3, 1) := by decide +kernel
theorem dX3_forgetAllBut_2 : decode cX3_forgetAllBut 2 = .ok (.iconst 0, 1) := by decide +kernel
theorem dX3_forgetAllBut_3 : decode cX3_forgetAllBut 3 = .ok (.istore 4, 2) := by decide +kernel
theorem dX3_forgetAllBut_5 : decode cX3_forgetAllBut 5 = .ok (.iload 4, 2) := by decide +kernel
theorem dX3_forgetAllBut_7 : decode cX3_forgetAllBut 7 = .ok (.bipush 8, 2) := by decide +kernel
theorem dX3_forgetAllBut_9 : decode cX3_forgetAllBut 9 = .ok (.if_icmp .ge 46, 3) := by decide +kernel
theorem dX3_forgetAllBut_12 : decode cX3_forgetAllBut 12 = .ok (.aload_n 1, 1) := by decide +kernel
theorem dX3_forgetAllBut_13 : decode cX3_forgetAllBut 13 = .ok (.getfield 97, 3) := by decide +kernel
theorem dX3_forgetAllBut_16 : decode cX3_forgetAllBut 16 = .ok (.iload 4, 2) := by decide +kernel
theorem dX3_forgetAllBut_18 : decode cX3_forgetAllBut 18 = .ok (.iaload, 1) := by decide +kernel
theorem dX3_forgetAllBut_19 : decode cX3_forgetAllBut 19 = .ok (.istore 5, 2) := by decide +kernel
theorem dX3_forgetAllBut_21 : decode cX3_forgetAllBut 21 = .ok (.iload 5, 2) := by decide +kernel
theorem dX3_forgetAllBut_23 : decode cX3_forgetAllBut 23 = .ok (.iconst (-1), 1) := by decide +kernel
theorem dX3_forgetAllBut_24 : decode cX3_forgetAllBut 24 = .ok (.if_icmp .eq 25, 3) := by decide +kernel
theorem dX3_forgetAllBut_27 : decode cX3_forgetAllBut 27 = .ok (.iload 5, 2) := by decide +kernel
theorem dX3_forgetAllBut_29 : decode cX3_forgetAllBut 29 = .ok (.iload_n 2, 1) := by decide +kernel
theorem dX3_forgetAllBut_30 : decode cX3_forgetAllBut 30 = .ok (.if_icmp .eq 19, 3) := by decide +kernel
theorem dX3_forgetAllBut_33 : decode cX3_forgetAllBut 33 = .ok (.aload_n 0, 1) := by decide +kernel
theorem dX3_forgetAllBut_34 : decode cX3_forgetAllBut 34 = .ok (.aload_n 1, 1) := by decide +kernel
theorem dX3_forgetAllBut_35 : decode cX3_forgetAllBut 35 = .ok (.iload 4, 2) := by decide +kernel
theorem dX3_forgetAllBut_37 : decode cX3_forgetAllBut 37 = .ok (.invokevirtual 46, 3) := by decide +kernel
theorem dX3_forgetAllBut_40 : decode cX3_forgetAllBut 40 = .ok (.aload_n 1, 1) := by decide +kernel
theorem dX3_forgetAllBut_41 : decode cX3_forgetAllBut 41 = .ok (.iload 4, 2) := by decide +kernel
theorem dX3_forgetAllBut_43 : decode cX3_forgetAllBut 43 = .ok (.invokevirtual 100, 3) := by decide +kernel
theorem dX3_forgetAllBut_46 : decode cX3_forgetAllBut 46 = .ok (.iinc 3 1, 3) := by decide +kernel
theorem dX3_forgetAllBut_49 : decode cX3_forgetAllBut 49 = .ok (.iinc 4 1, 3) := by decide +kernel
theorem dX3_forgetAllBut_52 : decode cX3_forgetAllBut 52 = .ok (.goto (-47), 3) := by decide +kernel
theorem dX3_forgetAllBut_55 : decode cX3_forgetAllBut 55 = .ok (.aload_n 1, 1) := by decide +kernel
theorem dX3_forgetAllBut_56 : decode cX3_forgetAllBut 56 = .ok (.getfield 83, 3) := by decide +kernel
theorem dX3_forgetAllBut_59 : decode cX3_forgetAllBut 59 = .ok (.invokevirtual 103, 3) := by decide +kernel
theorem dX3_forgetAllBut_62 : decode cX3_forgetAllBut 62 = .ok (.aload_n 1, 1) := by decide +kernel
theorem dX3_forgetAllBut_63 : decode cX3_forgetAllBut 63 = .ok (.getfield 37, 3) := by decide +kernel
theorem dX3_forgetAllBut_66 : decode cX3_forgetAllBut 66 = .ok (.iconst 5, 1) := by decide +kernel
theorem dX3_forgetAllBut_67 : decode cX3_forgetAllBut 67 = .ok (.dup2, 1) := by decide +kernel
theorem dX3_forgetAllBut_68 : decode cX3_forgetAllBut 68 = .ok (.iaload, 1) := by decide +kernel
theorem dX3_forgetAllBut_69 : decode cX3_forgetAllBut 69 = .ok (.iconst 1, 1) := by decide +kernel
theorem dX3_forgetAllBut_70 : decode cX3_forgetAllBut 70 = .ok (.iadd, 1) := by decide +kernel
theorem dX3_forgetAllBut_71 : decode cX3_forgetAllBut 71 = .ok (.iastore, 1) := by decide +kernel
theorem dX3_forgetAllBut_72 : decode cX3_forgetAllBut 72 = .ok (.iload_n 3, 1) := by decide +kernel
theorem dX3_forgetAllBut_73 : decode cX3_forgetAllBut 73 = .ok (.ireturn, 1) := by decide +kernel
set_option maxRecDepth 20000 in
theorem ggX3_vacate_X3_writeBack : GoodIn wsX3_vacate wsX3_writeBack := goodIn_r _ [6, 1, 7, 8, 9, 10, 43, 44, 45, 46, 47, 48, 49, 50, 51, 52, 53] (by decide +kernel) (by decide +kernel)
set_option maxRecDepth 20000 in
theorem gX3_vacate_X3_writeBack : GoodIn wsX3_vacate (wsV RX3 46 RX3 yX3_writeBack wsX3_writeBack) := goodIn_app (goodIn_of _ (by decide +kernel)) ggX3_vacate_X3_writeBack
set_option maxRecDepth 20000 in
theorem ggX3_vacate_X0_release : GoodIn wsX3_vacate wsX0_release := goodIn_r _ [15, 16, 17, 18, 19, 20, 21, 22, 23, 24, 25, 26, 27, 28, 29, 30, 31, 32, 33, 34, 35, 14, 36, 37, 38, 39, 40, 41, 42, 43, 44, 45, 46, 47, 54, 55, 56] (by decide +kernel) (by decide +kernel)
set_option maxRecDepth 20000 in
theorem gX3_vacate_X0_release : GoodIn wsX3_vacate (wsV RX3 71 RX0 yX0_release wsX0_release) := goodIn_app (goodIn_of _ (by decide +kernel)) ggX3_vacate_X0_release
theorem dX3_vacate_0 : decode cX3_vacate 0 = .ok (.aload_n 1, 1) := by decide +kernel
theorem dX3_vacate_1 : decode cX3_vacate 1 = .ok (.getfield 97, 3) := by decide +kernel
theorem dX3_vacate_4 : decode cX3_vacate 4 = .ok (.iload_n 2, 1) := by decide +kernel
theorem dX3_vacate_5 : decode cX3_vacate 5 = .ok (.iaload, 1) := by decide +kernel
theorem dX3_vacate_6 : decode cX3_vacate 6 = .ok (.istore_n 3, 1) := by decide +kernel
theorem dX3_vacate_7 : decode cX3_vacate 7 = .ok (.iload_n 3, 1) := by decide +kernel
theorem dX3_vacate_8 : decode cX3_vacate 8 = .ok (.iconst (-1), 1) := by decide +kernel
theorem dX3_vacate_9 : decode cX3_vacate 9 = .ok (.if_icmp .eq 14, 3) := by decide +kernel
theorem dX3_vacate_12 : decode cX3_vacate 12 = .ok (.aload_n 0, 1) := by decide +kernel
theorem dX3_vacate_13 : decode cX3_vacate 13 = .ok (.aload_n 1, 1) := by decide +kernel
theorem dX3_vacate_14 : decode cX3_vacate 14 = .ok (.iload_n 2, 1) := by decide +kernel
theorem dX3_vacate_15 : decode cX3_vacate 15 = .ok (.invokevirtual 46, 3) := by decide +kernel
theorem dX3_vacate_18 : decode cX3_vacate 18 = .ok (.aload_n 1, 1) := by decide +kernel
theorem dX3_vacate_19 : decode cX3_vacate 19 = .ok (.iload_n 3, 1) := by decide +kernel
theorem dX3_vacate_20 : decode cX3_vacate 20 = .ok (.invokevirtual 71, 3) := by decide +kernel
theorem dX3_vacate_23 : decode cX3_vacate 23 = .ok (.return_, 1) := by decide +kernel
theorem dX3_writeBack_0 : decode cX3_writeBack 0 = .ok (.aload_n 1, 1) := by decide +kernel
theorem dX3_writeBack_1 : decode cX3_writeBack 1 = .ok (.getfield 97, 3) := by decide +kernel
theorem dX3_writeBack_4 : decode cX3_writeBack 4 = .ok (.iload_n 2, 1) := by decide +kernel
theorem dX3_writeBack_5 : decode cX3_writeBack 5 = .ok (.iaload, 1) := by decide +kernel
theorem dX3_writeBack_6 : decode cX3_writeBack 6 = .ok (.istore_n 3, 1) := by decide +kernel
theorem dX3_writeBack_7 : decode cX3_writeBack 7 = .ok (.iload_n 3, 1) := by decide +kernel
theorem dX3_writeBack_8 : decode cX3_writeBack 8 = .ok (.iconst (-1), 1) := by decide +kernel
theorem dX3_writeBack_9 : decode cX3_writeBack 9 = .ok (.if_icmp .eq 41, 3) := by decide +kernel
theorem dX3_writeBack_12 : decode cX3_writeBack 12 = .ok (.aload_n 1, 1) := by decide +kernel
theorem dX3_writeBack_13 : decode cX3_writeBack 13 = .ok (.getfield 106, 3) := by decide +kernel
theorem dX3_writeBack_16 : decode cX3_writeBack 16 = .ok (.iload_n 2, 1) := by decide +kernel
theorem dX3_writeBack_17 : decode cX3_writeBack 17 = .ok (.baload, 1) := by decide +kernel
theorem dX3_writeBack_18 : decode cX3_writeBack 18 = .ok (.ifCond .eq 32, 3) := by decide +kernel
theorem dX3_writeBack_21 : decode cX3_writeBack 21 = .ok (.aload_n 0, 1) := by decide +kernel
theorem dX3_writeBack_22 : decode cX3_writeBack 22 = .ok (.getfield 9, 3) := by decide +kernel
theorem dX3_writeBack_25 : decode cX3_writeBack 25 = .ok (.iload_n 3, 1) := by decide +kernel
theorem dX3_writeBack_26 : decode cX3_writeBack 26 = .ok (.aload_n 1, 1) := by decide +kernel
theorem dX3_writeBack_27 : decode cX3_writeBack 27 = .ok (.getfield 40, 3) := by decide +kernel
theorem dX3_writeBack_30 : decode cX3_writeBack 30 = .ok (.iload_n 2, 1) := by decide +kernel
theorem dX3_writeBack_31 : decode cX3_writeBack 31 = .ok (.iaload, 1) := by decide +kernel
theorem dX3_writeBack_32 : decode cX3_writeBack 32 = .ok (.iastore, 1) := by decide +kernel
theorem dX3_writeBack_33 : decode cX3_writeBack 33 = .ok (.aload_n 1, 1) := by decide +kernel
theorem dX3_writeBack_34 : decode cX3_writeBack 34 = .ok (.getfield 106, 3) := by decide +kernel
theorem dX3_writeBack_37 : decode cX3_writeBack 37 = .ok (.iload_n 2, 1) := by decide +kernel
theorem dX3_writeBack_38 : decode cX3_writeBack 38 = .ok (.iconst 0, 1) := by decide +kernel
theorem dX3_writeBack_39 : decode cX3_writeBack 39 = .ok (.bastore, 1) := by decide +kernel
theorem dX3_writeBack_40 : decode cX3_writeBack 40 = .ok (.aload_n 0, 1) := by decide +kernel
theorem dX3_writeBack_41 : decode cX3_writeBack 41 = .ok (.dup, 1) := by decide +kernel
theorem dX3_writeBack_42 : decode cX3_writeBack 42 = .ok (.getfield 110, 3) := by decide +kernel
theorem dX3_writeBack_45 : decode cX3_writeBack 45 = .ok (.iconst 1, 1) := by decide +kernel
theorem dX3_writeBack_46 : decode cX3_writeBack 46 = .ok (.iadd, 1) := by decide +kernel
theorem dX3_writeBack_47 : decode cX3_writeBack 47 = .ok (.putfield 110, 3) := by decide +kernel
theorem dX3_writeBack_50 : decode cX3_writeBack 50 = .ok (.return_, 1) := by decide +kernel
set_option maxRecDepth 20000 in
theorem ggX3_valueForReader_X0_holds : GoodIn wsX3_valueForReader wsX0_holds := goodIn_r _ [8, 9, 10, 11, 7, 12, 20, 21, 22, 23, 24] (by decide +kernel) (by decide +kernel)
set_option maxRecDepth 20000 in
theorem gX3_valueForReader_X0_holds : GoodIn wsX3_valueForReader (wsV RX3 33 RX0 yX0_holds wsX0_holds) := goodIn_app (goodIn_of _ (by decide +kernel)) ggX3_valueForReader_X0_holds
set_option maxRecDepth 20000 in
theorem ggX3_valueForReader_X0_placeOf : GoodIn wsX3_valueForReader wsX0_placeOf := goodIn_r _ [12] (by decide +kernel) (by decide +kernel)
set_option maxRecDepth 20000 in
theorem gX3_valueForReader_X0_placeOf : GoodIn wsX3_valueForReader (va_wsS RX3 29 yX0_placeOf wsX0_placeOf) := goodIn_app (goodIn_of _ (by decide +kernel)) ggX3_valueForReader_X0_placeOf
theorem dX3_valueForReader_0 : decode cX3_valueForReader 0 = .ok (.iconst 0, 1) := by decide +kernel
theorem dX3_valueForReader_1 : decode cX3_valueForReader 1 = .ok (.istore_n 2, 1) := by decide +kernel
theorem dX3_valueForReader_2 : decode cX3_valueForReader 2 = .ok (.iload_n 2, 1) := by decide +kernel
theorem dX3_valueForReader_3 : decode cX3_valueForReader 3 = .ok (.iconst 4, 1) := by decide +kernel
theorem dX3_valueForReader_4 : decode cX3_valueForReader 4 = .ok (.if_icmp .ge 37, 3) := by decide +kernel
theorem dX3_valueForReader_7 : decode cX3_valueForReader 7 = .ok (.aload_n 0, 1) := by decide +kernel
theorem dX3_valueForReader_8 : decode cX3_valueForReader 8 = .ok (.getfield 17, 3) := by decide +kernel
theorem dX3_valueForReader_11 : decode cX3_valueForReader 11 = .ok (.iload_n 2, 1) := by decide +kernel
theorem dX3_valueForReader_12 : decode cX3_valueForReader 12 = .ok (.aaload, 1) := by decide +kernel
theorem dX3_valueForReader_13 : decode cX3_valueForReader 13 = .ok (.iload_n 1, 1) := by decide +kernel
theorem dX3_valueForReader_14 : decode cX3_valueForReader 14 = .ok (.invokevirtual 33, 3) := by decide +kernel
theorem dX3_valueForReader_17 : decode cX3_valueForReader 17 = .ok (.ifCond .eq 18, 3) := by decide +kernel
theorem dX3_valueForReader_20 : decode cX3_valueForReader 20 = .ok (.aload_n 0, 1) := by decide +kernel
theorem dX3_valueForReader_21 : decode cX3_valueForReader 21 = .ok (.getfield 17, 3) := by decide +kernel
theorem dX3_valueForReader_24 : decode cX3_valueForReader 24 = .ok (.iload_n 2, 1) := by decide +kernel
theorem dX3_valueForReader_25 : decode cX3_valueForReader 25 = .ok (.aaload, 1) := by decide +kernel
theorem dX3_valueForReader_26 : decode cX3_valueForReader 26 = .ok (.getfield 40, 3) := by decide +kernel
theorem dX3_valueForReader_29 : decode cX3_valueForReader 29 = .ok (.iload_n 1, 1) := by decide +kernel
theorem dX3_valueForReader_30 : decode cX3_valueForReader 30 = .ok (.invokestatic 29, 3) := by decide +kernel
theorem dX3_valueForReader_33 : decode cX3_valueForReader 33 = .ok (.iaload, 1) := by decide +kernel
theorem dX3_valueForReader_34 : decode cX3_valueForReader 34 = .ok (.ireturn, 1) := by decide +kernel
theorem dX3_valueForReader_35 : decode cX3_valueForReader 35 = .ok (.iinc 2 1, 3) := by decide +kernel
theorem dX3_valueForReader_38 : decode cX3_valueForReader 38 = .ok (.goto (-36), 3) := by decide +kernel
theorem dX3_valueForReader_41 : decode cX3_valueForReader 41 = .ok (.aload_n 0, 1) := by decide +kernel
theorem dX3_valueForReader_42 : decode cX3_valueForReader 42 = .ok (.getfield 9, 3) := by decide +kernel
theorem dX3_valueForReader_45 : decode cX3_valueForReader 45 = .ok (.iload_n 1, 1) := by decide +kernel
theorem dX3_valueForReader_46 : decode cX3_valueForReader 46 = .ok (.iaload, 1) := by decide +kernel
theorem dX3_valueForReader_47 : decode cX3_valueForReader 47 = .ok (.ireturn, 1) := by decide +kernel
set_option maxRecDepth 20000 in
theorem ggX3_holdersOf_X0_holds : GoodIn wsX3_holdersOf wsX0_holds := goodIn_r _ [6, 7, 8, 9, 5, 10, 17, 18, 19, 20, 21] (by decide +kernel) (by decide +kernel)
set_option maxRecDepth 20000 in
theorem gX3_holdersOf_X0_holds : GoodIn wsX3_holdersOf (wsV RX3 33 RX0 yX0_holds wsX0_holds) := goodIn_app (goodIn_of _ (by decide +kernel)) ggX3_holdersOf_X0_holds
theorem dX3_holdersOf_0 : decode cX3_holdersOf 0 = .ok (.iconst 0, 1) := by decide +kernel
theorem dX3_holdersOf_1 : decode cX3_holdersOf 1 = .ok (.istore_n 2, 1) := by decide +kernel
theorem dX3_holdersOf_2 : decode cX3_holdersOf 2 = .ok (.iconst 0, 1) := by decide +kernel
theorem dX3_holdersOf_3 : decode cX3_holdersOf 3 = .ok (.istore_n 3, 1) := by decide +kernel
theorem dX3_holdersOf_4 : decode cX3_holdersOf 4 = .ok (.iload_n 3, 1) := by decide +kernel
theorem dX3_holdersOf_5 : decode cX3_holdersOf 5 = .ok (.iconst 4, 1) := by decide +kernel
theorem dX3_holdersOf_6 : decode cX3_holdersOf 6 = .ok (.if_icmp .ge 28, 3) := by decide +kernel
theorem dX3_holdersOf_9 : decode cX3_holdersOf 9 = .ok (.aload_n 0, 1) := by decide +kernel
theorem dX3_holdersOf_10 : decode cX3_holdersOf 10 = .ok (.getfield 17, 3) := by decide +kernel
theorem dX3_holdersOf_13 : decode cX3_holdersOf 13 = .ok (.iload_n 3, 1) := by decide +kernel
theorem dX3_holdersOf_14 : decode cX3_holdersOf 14 = .ok (.aaload, 1) := by decide +kernel
theorem dX3_holdersOf_15 : decode cX3_holdersOf 15 = .ok (.iload_n 1, 1) := by decide +kernel
theorem dX3_holdersOf_16 : decode cX3_holdersOf 16 = .ok (.invokevirtual 33, 3) := by decide +kernel
theorem dX3_holdersOf_19 : decode cX3_holdersOf 19 = .ok (.ifCond .eq 9, 3) := by decide +kernel
theorem dX3_holdersOf_22 : decode cX3_holdersOf 22 = .ok (.iload_n 2, 1) := by decide +kernel
theorem dX3_holdersOf_23 : decode cX3_holdersOf 23 = .ok (.iconst 1, 1) := by decide +kernel
theorem dX3_holdersOf_24 : decode cX3_holdersOf 24 = .ok (.iload_n 3, 1) := by decide +kernel
theorem dX3_holdersOf_25 : decode cX3_holdersOf 25 = .ok (.ishl, 1) := by decide +kernel
theorem dX3_holdersOf_26 : decode cX3_holdersOf 26 = .ok (.ior, 1) := by decide +kernel
theorem dX3_holdersOf_27 : decode cX3_holdersOf 27 = .ok (.istore_n 2, 1) := by decide +kernel
theorem dX3_holdersOf_28 : decode cX3_holdersOf 28 = .ok (.iinc 3 1, 3) := by decide +kernel
theorem dX3_holdersOf_31 : decode cX3_holdersOf 31 = .ok (.goto (-27), 3) := by decide +kernel
theorem dX3_holdersOf_34 : decode cX3_holdersOf 34 = .ok (.iload_n 2, 1) := by decide +kernel
theorem dX3_holdersOf_35 : decode cX3_holdersOf 35 = .ok (.ireturn, 1) := by decide +kernel
set_option maxRecDepth 20000 in
theorem ggX3_coresThatMayHave_X1_mayHave : GoodIn wsX3_coresThatMayHave wsX1_mayHave := goodIn_r _ [7, 8, 9, 10, 11, 6, 12, 13, 14, 15, 16, 17, 18, 19, 31, 32, 33] (by decide +kernel) (by decide +kernel)
set_option maxRecDepth 20000 in
theorem gX3_coresThatMayHave_X1_mayHave : GoodIn wsX3_coresThatMayHave (wsV RX3 113 RX1 yX1_mayHave wsX1_mayHave) := goodIn_app (goodIn_of _ (by decide +kernel)) ggX3_coresThatMayHave_X1_mayHave
theorem dX3_coresThatMayHave_0 : decode cX3_coresThatMayHave 0 = .ok (.iconst 0, 1) := by decide +kernel
theorem dX3_coresThatMayHave_1 : decode cX3_coresThatMayHave 1 = .ok (.istore_n 2, 1) := by decide +kernel
theorem dX3_coresThatMayHave_2 : decode cX3_coresThatMayHave 2 = .ok (.iconst 0, 1) := by decide +kernel
theorem dX3_coresThatMayHave_3 : decode cX3_coresThatMayHave 3 = .ok (.istore_n 3, 1) := by decide +kernel
theorem dX3_coresThatMayHave_4 : decode cX3_coresThatMayHave 4 = .ok (.iload_n 3, 1) := by decide +kernel
theorem dX3_coresThatMayHave_5 : decode cX3_coresThatMayHave 5 = .ok (.iconst 4, 1) := by decide +kernel
theorem dX3_coresThatMayHave_6 : decode cX3_coresThatMayHave 6 = .ok (.if_icmp .ge 31, 3) := by decide +kernel
theorem dX3_coresThatMayHave_9 : decode cX3_coresThatMayHave 9 = .ok (.aload_n 0, 1) := by decide +kernel
theorem dX3_coresThatMayHave_10 : decode cX3_coresThatMayHave 10 = .ok (.getfield 17, 3) := by decide +kernel
theorem dX3_coresThatMayHave_13 : decode cX3_coresThatMayHave 13 = .ok (.iload_n 3, 1) := by decide +kernel
theorem dX3_coresThatMayHave_14 : decode cX3_coresThatMayHave 14 = .ok (.aaload, 1) := by decide +kernel
theorem dX3_coresThatMayHave_15 : decode cX3_coresThatMayHave 15 = .ok (.getfield 83, 3) := by decide +kernel
theorem dX3_coresThatMayHave_18 : decode cX3_coresThatMayHave 18 = .ok (.iload_n 1, 1) := by decide +kernel
theorem dX3_coresThatMayHave_19 : decode cX3_coresThatMayHave 19 = .ok (.invokevirtual 113, 3) := by decide +kernel
theorem dX3_coresThatMayHave_22 : decode cX3_coresThatMayHave 22 = .ok (.ifCond .eq 9, 3) := by decide +kernel
theorem dX3_coresThatMayHave_25 : decode cX3_coresThatMayHave 25 = .ok (.iload_n 2, 1) := by decide +kernel
theorem dX3_coresThatMayHave_26 : decode cX3_coresThatMayHave 26 = .ok (.iconst 1, 1) := by decide +kernel
theorem dX3_coresThatMayHave_27 : decode cX3_coresThatMayHave 27 = .ok (.iload_n 3, 1) := by decide +kernel
theorem dX3_coresThatMayHave_28 : decode cX3_coresThatMayHave 28 = .ok (.ishl, 1) := by decide +kernel
theorem dX3_coresThatMayHave_29 : decode cX3_coresThatMayHave 29 = .ok (.ior, 1) := by decide +kernel
theorem dX3_coresThatMayHave_30 : decode cX3_coresThatMayHave 30 = .ok (.istore_n 2, 1) := by decide +kernel
theorem dX3_coresThatMayHave_31 : decode cX3_coresThatMayHave 31 = .ok (.iinc 3 1, 3) := by decide +kernel
theorem dX3_coresThatMayHave_34 : decode cX3_coresThatMayHave 34 = .ok (.goto (-30), 3) := by decide +kernel
theorem dX3_coresThatMayHave_37 : decode cX3_coresThatMayHave 37 = .ok (.iload_n 2, 1) := by decide +kernel
theorem dX3_coresThatMayHave_38 : decode cX3_coresThatMayHave 38 = .ok (.ireturn, 1) := by decide +kernel
theorem dX3_sumOf_0 : decode cX3_sumOf 0 = .ok (.iconst 0, 1) := by decide +kernel
theorem dX3_sumOf_1 : decode cX3_sumOf 1 = .ok (.istore_n 2, 1) := by decide +kernel
theorem dX3_sumOf_2 : decode cX3_sumOf 2 = .ok (.iconst 0, 1) := by decide +kernel
theorem dX3_sumOf_3 : decode cX3_sumOf 3 = .ok (.istore_n 3, 1) := by decide +kernel
theorem dX3_sumOf_4 : decode cX3_sumOf 4 = .ok (.iload_n 3, 1) := by decide +kernel
theorem dX3_sumOf_5 : decode cX3_sumOf 5 = .ok (.iconst 4, 1) := by decide +kernel
theorem dX3_sumOf_6 : decode cX3_sumOf 6 = .ok (.if_icmp .ge 23, 3) := by decide +kernel
theorem dX3_sumOf_9 : decode cX3_sumOf 9 = .ok (.iload_n 2, 1) := by decide +kernel
theorem dX3_sumOf_10 : decode cX3_sumOf 10 = .ok (.aload_n 0, 1) := by decide +kernel
theorem dX3_sumOf_11 : decode cX3_sumOf 11 = .ok (.getfield 17, 3) := by decide +kernel
theorem dX3_sumOf_14 : decode cX3_sumOf 14 = .ok (.iload_n 3, 1) := by decide +kernel
theorem dX3_sumOf_15 : decode cX3_sumOf 15 = .ok (.aaload, 1) := by decide +kernel
theorem dX3_sumOf_16 : decode cX3_sumOf 16 = .ok (.getfield 37, 3) := by decide +kernel
theorem dX3_sumOf_19 : decode cX3_sumOf 19 = .ok (.iload_n 1, 1) := by decide +kernel
theorem dX3_sumOf_20 : decode cX3_sumOf 20 = .ok (.iaload, 1) := by decide +kernel
theorem dX3_sumOf_21 : decode cX3_sumOf 21 = .ok (.iadd, 1) := by decide +kernel
theorem dX3_sumOf_22 : decode cX3_sumOf 22 = .ok (.istore_n 2, 1) := by decide +kernel
theorem dX3_sumOf_23 : decode cX3_sumOf 23 = .ok (.iinc 3 1, 3) := by decide +kernel
theorem dX3_sumOf_26 : decode cX3_sumOf 26 = .ok (.goto (-22), 3) := by decide +kernel
theorem dX3_sumOf_29 : decode cX3_sumOf 29 = .ok (.iload_n 2, 1) := by decide +kernel
theorem dX3_sumOf_30 : decode cX3_sumOf 30 = .ok (.ireturn, 1) := by decide +kernel
set_option maxRecDepth 20000 in
theorem ggX3_heldByAll_X0_heldLines : GoodIn wsX3_heldByAll wsX0_heldLines := goodIn_r _ [6, 7, 14, 15, 16, 17, 18] (by decide +kernel) (by decide +kernel)
set_option maxRecDepth 20000 in
theorem gX3_heldByAll_X0_heldLines : GoodIn wsX3_heldByAll (wsV RX3 116 RX0 yX0_heldLines wsX0_heldLines) := goodIn_app (goodIn_of _ (by decide +kernel)) ggX3_heldByAll_X0_heldLines
theorem dX3_heldByAll_0 : decode cX3_heldByAll 0 = .ok (.iconst 0, 1) := by decide +kernel
theorem dX3_heldByAll_1 : decode cX3_heldByAll 1 = .ok (.istore_n 1, 1) := by decide +kernel
theorem dX3_heldByAll_2 : decode cX3_heldByAll 2 = .ok (.iconst 0, 1) := by decide +kernel
theorem dX3_heldByAll_3 : decode cX3_heldByAll 3 = .ok (.istore_n 2, 1) := by decide +kernel
theorem dX3_heldByAll_4 : decode cX3_heldByAll 4 = .ok (.iload_n 2, 1) := by decide +kernel
theorem dX3_heldByAll_5 : decode cX3_heldByAll 5 = .ok (.iconst 4, 1) := by decide +kernel
theorem dX3_heldByAll_6 : decode cX3_heldByAll 6 = .ok (.if_icmp .ge 21, 3) := by decide +kernel
theorem dX3_heldByAll_9 : decode cX3_heldByAll 9 = .ok (.iload_n 1, 1) := by decide +kernel
theorem dX3_heldByAll_10 : decode cX3_heldByAll 10 = .ok (.aload_n 0, 1) := by decide +kernel
theorem dX3_heldByAll_11 : decode cX3_heldByAll 11 = .ok (.getfield 17, 3) := by decide +kernel
theorem dX3_heldByAll_14 : decode cX3_heldByAll 14 = .ok (.iload_n 2, 1) := by decide +kernel
theorem dX3_heldByAll_15 : decode cX3_heldByAll 15 = .ok (.aaload, 1) := by decide +kernel
theorem dX3_heldByAll_16 : decode cX3_heldByAll 16 = .ok (.invokevirtual 116, 3) := by decide +kernel
theorem dX3_heldByAll_19 : decode cX3_heldByAll 19 = .ok (.iadd, 1) := by decide +kernel
theorem dX3_heldByAll_20 : decode cX3_heldByAll 20 = .ok (.istore_n 1, 1) := by decide +kernel
theorem dX3_heldByAll_21 : decode cX3_heldByAll 21 = .ok (.iinc 2 1, 3) := by decide +kernel
theorem dX3_heldByAll_24 : decode cX3_heldByAll 24 = .ok (.goto (-20), 3) := by decide +kernel
theorem dX3_heldByAll_27 : decode cX3_heldByAll 27 = .ok (.iload_n 1, 1) := by decide +kernel
theorem dX3_heldByAll_28 : decode cX3_heldByAll 28 = .ok (.ireturn, 1) := by decide +kernel
set_option maxRecDepth 20000 in
theorem ggX3_dirtyOfAll_X0_dirtyLines : GoodIn wsX3_dirtyOfAll wsX0_dirtyLines := goodIn_r _ [6, 7, 8, 9, 10, 17, 18, 19, 20, 21] (by decide +kernel) (by decide +kernel)
set_option maxRecDepth 20000 in
theorem gX3_dirtyOfAll_X0_dirtyLines : GoodIn wsX3_dirtyOfAll (wsV RX3 119 RX0 yX0_dirtyLines wsX0_dirtyLines) := goodIn_app (goodIn_of _ (by decide +kernel)) ggX3_dirtyOfAll_X0_dirtyLines
theorem dX3_dirtyOfAll_0 : decode cX3_dirtyOfAll 0 = .ok (.iconst 0, 1) := by decide +kernel
theorem dX3_dirtyOfAll_1 : decode cX3_dirtyOfAll 1 = .ok (.istore_n 1, 1) := by decide +kernel
theorem dX3_dirtyOfAll_2 : decode cX3_dirtyOfAll 2 = .ok (.iconst 0, 1) := by decide +kernel
theorem dX3_dirtyOfAll_3 : decode cX3_dirtyOfAll 3 = .ok (.istore_n 2, 1) := by decide +kernel
theorem dX3_dirtyOfAll_4 : decode cX3_dirtyOfAll 4 = .ok (.iload_n 2, 1) := by decide +kernel
theorem dX3_dirtyOfAll_5 : decode cX3_dirtyOfAll 5 = .ok (.iconst 4, 1) := by decide +kernel
theorem dX3_dirtyOfAll_6 : decode cX3_dirtyOfAll 6 = .ok (.if_icmp .ge 21, 3) := by decide +kernel
theorem dX3_dirtyOfAll_9 : decode cX3_dirtyOfAll 9 = .ok (.iload_n 1, 1) := by decide +kernel
theorem dX3_dirtyOfAll_10 : decode cX3_dirtyOfAll 10 = .ok (.aload_n 0, 1) := by decide +kernel
theorem dX3_dirtyOfAll_11 : decode cX3_dirtyOfAll 11 = .ok (.getfield 17, 3) := by decide +kernel
theorem dX3_dirtyOfAll_14 : decode cX3_dirtyOfAll 14 = .ok (.iload_n 2, 1) := by decide +kernel
theorem dX3_dirtyOfAll_15 : decode cX3_dirtyOfAll 15 = .ok (.aaload, 1) := by decide +kernel
theorem dX3_dirtyOfAll_16 : decode cX3_dirtyOfAll 16 = .ok (.invokevirtual 119, 3) := by decide +kernel
theorem dX3_dirtyOfAll_19 : decode cX3_dirtyOfAll 19 = .ok (.iadd, 1) := by decide +kernel
theorem dX3_dirtyOfAll_20 : decode cX3_dirtyOfAll 20 = .ok (.istore_n 1, 1) := by decide +kernel
theorem dX3_dirtyOfAll_21 : decode cX3_dirtyOfAll 21 = .ok (.iinc 2 1, 3) := by decide +kernel
theorem dX3_dirtyOfAll_24 : decode cX3_dirtyOfAll 24 = .ok (.goto (-20), 3) := by decide +kernel
theorem dX3_dirtyOfAll_27 : decode cX3_dirtyOfAll 27 = .ok (.iload_n 1, 1) := by decide +kernel
theorem dX3_dirtyOfAll_28 : decode cX3_dirtyOfAll 28 = .ok (.ireturn, 1) := by decide +kernel
set_option maxRecDepth 20000 in
theorem ggX3_copyFrom_X0_copyFrom : GoodIn wsX3_copyFrom wsX0_copyFrom := goodIn_r _ [15, 16, 17, 3, 4, 5, 18, 19, 20, 21, 22, 23, 24, 25, 26, 27, 28, 29, 30, 37, 38, 39, 40, 41, 42, 43, 44] (by decide +kernel) (by decide +kernel)
set_option maxRecDepth 20000 in
theorem gX3_copyFrom_X0_copyFrom : GoodIn wsX3_copyFrom (wsV RX3 128 RX0 yX0_copyFrom wsX0_copyFrom) := goodIn_app (goodIn_of _ (by decide +kernel)) ggX3_copyFrom_X0_copyFrom
theorem dX3_copyFrom_0 : decode cX3_copyFrom 0 = .ok (.aload_n 1, 1) := by decide +kernel
theorem dX3_copyFrom_1 : decode cX3_copyFrom 1 = .ok (.getfield 9, 3) := by decide +kernel
theorem dX3_copyFrom_4 : decode cX3_copyFrom 4 = .ok (.iconst 0, 1) := by decide +kernel
theorem dX3_copyFrom_5 : decode cX3_copyFrom 5 = .ok (.aload_n 0, 1) := by decide +kernel
theorem dX3_copyFrom_6 : decode cX3_copyFrom 6 = .ok (.getfield 9, 3) := by decide +kernel
theorem dX3_copyFrom_9 : decode cX3_copyFrom 9 = .ok (.iconst 0, 1) := by decide +kernel
theorem dX3_copyFrom_10 : decode cX3_copyFrom 10 = .ok (.sipush 256, 3) := by decide +kernel
theorem dX3_copyFrom_13 : decode cX3_copyFrom 13 = .ok (.invokestatic 122, 3) := by decide +kernel
theorem dX3_copyFrom_16 : decode cX3_copyFrom 16 = .ok (.iconst 0, 1) := by decide +kernel
theorem dX3_copyFrom_17 : decode cX3_copyFrom 17 = .ok (.istore_n 2, 1) := by decide +kernel
theorem dX3_copyFrom_18 : decode cX3_copyFrom 18 = .ok (.iload_n 2, 1) := by decide +kernel
theorem dX3_copyFrom_19 : decode cX3_copyFrom 19 = .ok (.iconst 4, 1) := by decide +kernel
theorem dX3_copyFrom_20 : decode cX3_copyFrom 20 = .ok (.if_icmp .ge 24, 3) := by decide +kernel
theorem dX3_copyFrom_23 : decode cX3_copyFrom 23 = .ok (.aload_n 0, 1) := by decide +kernel
theorem dX3_copyFrom_24 : decode cX3_copyFrom 24 = .ok (.getfield 17, 3) := by decide +kernel
theorem dX3_copyFrom_27 : decode cX3_copyFrom 27 = .ok (.iload_n 2, 1) := by decide +kernel
theorem dX3_copyFrom_28 : decode cX3_copyFrom 28 = .ok (.aaload, 1) := by decide +kernel
theorem dX3_copyFrom_29 : decode cX3_copyFrom 29 = .ok (.aload_n 1, 1) := by decide +kernel
theorem dX3_copyFrom_30 : decode cX3_copyFrom 30 = .ok (.getfield 17, 3) := by decide +kernel
theorem dX3_copyFrom_33 : decode cX3_copyFrom 33 = .ok (.iload_n 2, 1) := by decide +kernel
theorem dX3_copyFrom_34 : decode cX3_copyFrom 34 = .ok (.aaload, 1) := by decide +kernel
theorem dX3_copyFrom_35 : decode cX3_copyFrom 35 = .ok (.invokevirtual 128, 3) := by decide +kernel
theorem dX3_copyFrom_38 : decode cX3_copyFrom 38 = .ok (.iinc 2 1, 3) := by decide +kernel
theorem dX3_copyFrom_41 : decode cX3_copyFrom 41 = .ok (.goto (-23), 3) := by decide +kernel
theorem dX3_copyFrom_44 : decode cX3_copyFrom 44 = .ok (.aload_n 0, 1) := by decide +kernel
theorem dX3_copyFrom_45 : decode cX3_copyFrom 45 = .ok (.aload_n 1, 1) := by decide +kernel
theorem dX3_copyFrom_46 : decode cX3_copyFrom 46 = .ok (.getfield 21, 3) := by decide +kernel
theorem dX3_copyFrom_49 : decode cX3_copyFrom 49 = .ok (.putfield 21, 3) := by decide +kernel
theorem dX3_copyFrom_52 : decode cX3_copyFrom 52 = .ok (.aload_n 0, 1) := by decide +kernel
theorem dX3_copyFrom_53 : decode cX3_copyFrom 53 = .ok (.aload_n 1, 1) := by decide +kernel
theorem dX3_copyFrom_54 : decode cX3_copyFrom 54 = .ok (.getfield 25, 3) := by decide +kernel
theorem dX3_copyFrom_57 : decode cX3_copyFrom 57 = .ok (.putfield 25, 3) := by decide +kernel
theorem dX3_copyFrom_60 : decode cX3_copyFrom 60 = .ok (.aload_n 0, 1) := by decide +kernel
theorem dX3_copyFrom_61 : decode cX3_copyFrom 61 = .ok (.aload_n 1, 1) := by decide +kernel
theorem dX3_copyFrom_62 : decode cX3_copyFrom 62 = .ok (.getfield 110, 3) := by decide +kernel
theorem dX3_copyFrom_65 : decode cX3_copyFrom 65 = .ok (.putfield 110, 3) := by decide +kernel
theorem dX3_copyFrom_68 : decode cX3_copyFrom 68 = .ok (.aload_n 0, 1) := by decide +kernel
theorem dX3_copyFrom_69 : decode cX3_copyFrom 69 = .ok (.aload_n 1, 1) := by decide +kernel
theorem dX3_copyFrom_70 : decode cX3_copyFrom 70 = .ok (.getfield 57, 3) := by decide +kernel
theorem dX3_copyFrom_73 : decode cX3_copyFrom 73 = .ok (.putfield 57, 3) := by decide +kernel
theorem dX3_copyFrom_76 : decode cX3_copyFrom 76 = .ok (.return_, 1) := by decide +kernel
