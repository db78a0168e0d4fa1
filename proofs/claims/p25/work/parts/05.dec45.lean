theorem dX4_init_0 : decode cX4_init 0 = .ok (.aload_n 0, 1) := by decide +kernel
theorem dX4_init_1 : decode cX4_init 1 = .ok (.invokespecial 3, 3) := by decide +kernel
theorem dX4_init_4 : decode cX4_init 4 = .ok (.aload_n 0, 1) := by decide +kernel
theorem dX4_init_5 : decode cX4_init 5 = .ok (.bipush 80, 2) := by decide +kernel
theorem dX4_init_7 : decode cX4_init 7 = .ok (.newarray .char, 2) := by decide +kernel
theorem dX4_init_9 : decode cX4_init 9 = .ok (.putfield 9, 3) := by decide +kernel
theorem dX4_init_12 : decode cX4_init 12 = .ok (.aload_n 0, 1) := by decide +kernel
theorem dX4_init_13 : decode cX4_init 13 = .ok (.bipush 27, 2) := by decide +kernel
theorem dX4_init_15 : decode cX4_init 15 = .ok (.newarray .char, 2) := by decide +kernel
theorem dX4_init_17 : decode cX4_init 17 = .ok (.putfield 15, 3) := by decide +kernel
theorem dX4_init_20 : decode cX4_init 20 = .ok (.aload_n 0, 1) := by decide +kernel
theorem dX4_init_21 : decode cX4_init 21 = .ok (.bipush 27, 2) := by decide +kernel
theorem dX4_init_23 : decode cX4_init 23 = .ok (.newarray .int, 2) := by decide +kernel
theorem dX4_init_25 : decode cX4_init 25 = .ok (.putfield 18, 3) := by decide +kernel
theorem dX4_init_28 : decode cX4_init 28 = .ok (.aload_n 0, 1) := by decide +kernel
theorem dX4_init_29 : decode cX4_init 29 = .ok (.bipush 27, 2) := by decide +kernel
theorem dX4_init_31 : decode cX4_init 31 = .ok (.newarray .int, 2) := by decide +kernel
theorem dX4_init_33 : decode cX4_init 33 = .ok (.putfield 22, 3) := by decide +kernel
theorem dX4_init_36 : decode cX4_init 36 = .ok (.aload_n 0, 1) := by decide +kernel
theorem dX4_init_37 : decode cX4_init 37 = .ok (.bipush 27, 2) := by decide +kernel
theorem dX4_init_39 : decode cX4_init 39 = .ok (.newarray .int, 2) := by decide +kernel
theorem dX4_init_41 : decode cX4_init 41 = .ok (.putfield 25, 3) := by decide +kernel
theorem dX4_init_44 : decode cX4_init 44 = .ok (.return_, 1) := by decide +kernel
set_option maxRecDepth 20000 in
theorem ggX5_init_X3_init : GoodIn wsX5_init wsX3_init := goodIn_r _ [20, 21, 2, 3, 22, 23, 24, 25, 26, 27, 28, 29, 30, 31, 32, 33, 34, 35, 36, 37, 38, 39, 40, 41, 42, 43, 44, 45, 46, 47, 48, 65, 66, 67, 68, 69, 70, 91, 92, 93, 94, 95, 96, 97, 98] (by decide +kernel) (by decide +kernel)
set_option maxRecDepth 20000 in
theorem gX5_init_X3_init : GoodIn wsX5_init (wsX3_init) := ggX5_init_X3_init
set_option maxRecDepth 20000 in
theorem ggX5_init_X2_init : GoodIn wsX5_init wsX2_init := goodIn_r _ [51, 52, 2, 3, 53, 54, 5, 6, 55, 19, 20, 21, 22, 23, 24, 25, 26, 27, 28, 29, 30, 31, 32, 33, 34, 35, 36, 37, 38, 39, 40, 41, 42, 43, 44, 45, 46, 47, 48, 80, 81, 82, 65, 66, 67, 68, 69, 70, 91, 92, 93, 94, 95, 96, 97, 98] (by decide +kernel) (by decide +kernel)
set_option maxRecDepth 20000 in
theorem gX5_init_X2_init : GoodIn wsX5_init (wsX2_init) := ggX5_init_X2_init
set_option maxRecDepth 20000 in
theorem ggX5_init_X4_init : GoodIn wsX5_init wsX4_init := goodIn_r _ [57, 58, 2, 3, 59, 60, 61, 22, 62, 63, 64, 83, 84, 85, 86, 87, 88, 89, 90] (by decide +kernel) (by decide +kernel)
set_option maxRecDepth 20000 in
theorem gX5_init_X4_init_n31 : GoodIn wsX5_init (wsX4_init) := ggX5_init_X4_init
theorem dX5_init_0 : decode cX5_init 0 = .ok (.aload_n 0, 1) := by decide +kernel
theorem dX5_init_1 : decode cX5_init 1 = .ok (.invokespecial 3, 3) := by decide +kernel
theorem dX5_init_4 : decode cX5_init 4 = .ok (.aload_n 0, 1) := by decide +kernel
theorem dX5_init_5 : decode cX5_init 5 = .ok (.new 9, 3) := by decide +kernel
theorem dX5_init_8 : decode cX5_init 8 = .ok (.dup, 1) := by decide +kernel
theorem dX5_init_9 : decode cX5_init 9 = .ok (.invokespecial 11, 3) := by decide +kernel
theorem dX5_init_12 : decode cX5_init 12 = .ok (.putfield 12, 3) := by decide +kernel
theorem dX5_init_15 : decode cX5_init 15 = .ok (.aload_n 0, 1) := by decide +kernel
theorem dX5_init_16 : decode cX5_init 16 = .ok (.new 9, 3) := by decide +kernel
theorem dX5_init_19 : decode cX5_init 19 = .ok (.dup, 1) := by decide +kernel
theorem dX5_init_20 : decode cX5_init 20 = .ok (.invokespecial 11, 3) := by decide +kernel
theorem dX5_init_23 : decode cX5_init 23 = .ok (.putfield 16, 3) := by decide +kernel
theorem dX5_init_26 : decode cX5_init 26 = .ok (.aload_n 0, 1) := by decide +kernel
theorem dX5_init_27 : decode cX5_init 27 = .ok (.new 9, 3) := by decide +kernel
theorem dX5_init_30 : decode cX5_init 30 = .ok (.dup, 1) := by decide +kernel
theorem dX5_init_31 : decode cX5_init 31 = .ok (.invokespecial 11, 3) := by decide +kernel
theorem dX5_init_34 : decode cX5_init 34 = .ok (.putfield 19, 3) := by decide +kernel
theorem dX5_init_37 : decode cX5_init 37 = .ok (.aload_n 0, 1) := by decide +kernel
theorem dX5_init_38 : decode cX5_init 38 = .ok (.new 22, 3) := by decide +kernel
theorem dX5_init_41 : decode cX5_init 41 = .ok (.dup, 1) := by decide +kernel
theorem dX5_init_42 : decode cX5_init 42 = .ok (.invokespecial 24, 3) := by decide +kernel
theorem dX5_init_45 : decode cX5_init 45 = .ok (.putfield 25, 3) := by decide +kernel
theorem dX5_init_48 : decode cX5_init 48 = .ok (.aload_n 0, 1) := by decide +kernel
theorem dX5_init_49 : decode cX5_init 49 = .ok (.new 29, 3) := by decide +kernel
theorem dX5_init_52 : decode cX5_init 52 = .ok (.dup, 1) := by decide +kernel
theorem dX5_init_53 : decode cX5_init 53 = .ok (.invokespecial 31, 3) := by decide +kernel
theorem dX5_init_56 : decode cX5_init 56 = .ok (.putfield 32, 3) := by decide +kernel
theorem dX5_init_59 : decode cX5_init 59 = .ok (.return_, 1) := by decide +kernel
set_option maxRecDepth 20000 in
theorem ggX5_read_X5_isCore : GoodIn wsX5_read wsX5_isCore := goodIn_r _ [6, 7, 8, 5, 9] (by decide +kernel) (by decide +kernel)
set_option maxRecDepth 20000 in
theorem gX5_read_X5_isCore : GoodIn wsX5_read (va_wsS RX5 36 yX5_isCore wsX5_isCore) := goodIn_app (goodIn_of _ (by decide +kernel)) ggX5_read_X5_isCore
set_option maxRecDepth 20000 in
theorem ggX5_read_X5_isLine : GoodIn wsX5_read wsX5_isLine := goodIn_r _ [12, 7, 8, 5, 9] (by decide +kernel) (by decide +kernel)
set_option maxRecDepth 20000 in
theorem gX5_read_X5_isLine : GoodIn wsX5_read (va_wsS RX5 40 yX5_isLine wsX5_isLine) := goodIn_app (goodIn_of _ (by decide +kernel)) ggX5_read_X5_isLine
set_option maxRecDepth 20000 in
theorem ggX5_read_X2_record : GoodIn wsX5_read wsX2_record := goodIn_r _ [17, 18, 19, 20, 21, 22, 23, 24, 25, 26, 27, 28, 29, 30, 31, 32, 33, 34, 35, 36, 37, 38, 39, 40, 41, 42, 43, 44, 45, 46, 47, 48, 49, 50, 51, 52, 53, 54, 55, 154, 155, 156, 157, 158, 159, 160, 161, 162, 163, 164, 165, 166, 167, 168, 169, 170] (by decide +kernel) (by decide +kernel)
set_option maxRecDepth 20000 in
theorem gX5_read_X2_record : GoodIn wsX5_read (wsV RX5 43 RX2 yX2_record wsX2_record) := goodIn_app (goodIn_of _ (by decide +kernel)) ggX5_read_X2_record
set_option maxRecDepth 20000 in
theorem ggX5_read_X3_readLine : GoodIn wsX5_read wsX3_readLine := goodIn_r _ [59, 31, 60, 61, 26, 62, 63, 39, 64, 65, 66, 67, 68, 41, 69, 70, 71, 72, 73, 46, 45, 74, 75, 76, 50, 77, 52, 78, 79, 80, 81, 55, 82, 83, 84, 85, 86, 87, 88, 89, 90, 91, 24, 92, 93, 94, 34, 95, 96, 97, 98, 99, 100, 101, 102, 103, 104, 105, 106, 107, 108, 109, 110, 54, 111, 112, 113, 114, 44, 115, 116, 117, 118, 119, 32, 33, 120, 121, 122, 123, 43, 124, 125, 126, 127, 128, 129, 130, 131, 132, 133, 134, 135, 136, 137, 138, 139, 140, 141, 142, 143, 144, 157, 158, 159, 160, 161, 162, 163, 164, 165, 166, 167, 168, 169, 170] (by decide +kernel) (by decide +kernel)
set_option maxRecDepth 20000 in
theorem gX5_read_X3_readLine : GoodIn wsX5_read (wsV RX5 47 RX3 yX3_readLine wsX3_readLine) := goodIn_app (goodIn_of _ (by decide +kernel)) ggX5_read_X3_readLine
theorem dX5_read_0 : decode cX5_read 0 = .ok (.iload_n 1, 1) := by decide +kernel
theorem dX5_read_1 : decode cX5_read 1 = .ok (.invokestatic 36, 3) := by decide +kernel
theorem dX5_read_4 : decode cX5_read 4 = .ok (.ifCond .eq 10, 3) := by decide +kernel
theorem dX5_read_7 : decode cX5_read 7 = .ok (.iload_n 2, 1) := by decide +kernel
theorem dX5_read_8 : decode cX5_read 8 = .ok (.invokestatic 40, 3) := by decide +kernel
theorem dX5_read_11 : decode cX5_read 11 = .ok (.ifCond .ne 5, 3) := by decide +kernel
theorem dX5_read_14 : decode cX5_read 14 = .ok (.iconst (-1), 1) := by decide +kernel
theorem dX5_read_15 : decode cX5_read 15 = .ok (.ireturn, 1) := by decide +kernel
theorem dX5_read_16 : decode cX5_read 16 = .ok (.aload_n 0, 1) := by decide +kernel
theorem dX5_read_17 : decode cX5_read 17 = .ok (.getfield 25, 3) := by decide +kernel
theorem dX5_read_20 : decode cX5_read 20 = .ok (.aload_n 0, 1) := by decide +kernel
theorem dX5_read_21 : decode cX5_read 21 = .ok (.getfield 12, 3) := by decide +kernel
theorem dX5_read_24 : decode cX5_read 24 = .ok (.invokevirtual 43, 3) := by decide +kernel
theorem dX5_read_27 : decode cX5_read 27 = .ok (.aload_n 0, 1) := by decide +kernel
theorem dX5_read_28 : decode cX5_read 28 = .ok (.getfield 12, 3) := by decide +kernel
theorem dX5_read_31 : decode cX5_read 31 = .ok (.iload_n 1, 1) := by decide +kernel
theorem dX5_read_32 : decode cX5_read 32 = .ok (.iload_n 2, 1) := by decide +kernel
theorem dX5_read_33 : decode cX5_read 33 = .ok (.invokevirtual 47, 3) := by decide +kernel
theorem dX5_read_36 : decode cX5_read 36 = .ok (.ireturn, 1) := by decide +kernel
set_option maxRecDepth 20000 in
theorem ggX5_write_X5_isCore : GoodIn wsX5_write wsX5_isCore := goodIn_r _ [6, 7, 8, 5, 9] (by decide +kernel) (by decide +kernel)
set_option maxRecDepth 20000 in
theorem gX5_write_X5_isCore : GoodIn wsX5_write (va_wsS RX5 36 yX5_isCore wsX5_isCore) := goodIn_app (goodIn_of _ (by decide +kernel)) ggX5_write_X5_isCore
set_option maxRecDepth 20000 in
theorem ggX5_write_X5_isLine : GoodIn wsX5_write wsX5_isLine := goodIn_r _ [12, 7, 8, 5, 9] (by decide +kernel) (by decide +kernel)
set_option maxRecDepth 20000 in
theorem gX5_write_X5_isLine : GoodIn wsX5_write (va_wsS RX5 40 yX5_isLine wsX5_isLine) := goodIn_app (goodIn_of _ (by decide +kernel)) ggX5_write_X5_isLine
set_option maxRecDepth 20000 in
theorem ggX5_write_X5_isWithin : GoodIn wsX5_write wsX5_isWithin := goodIn_r _ [9] (by decide +kernel) (by decide +kernel)
set_option maxRecDepth 20000 in
theorem gX5_write_X5_isWithin : GoodIn wsX5_write (va_wsS RX5 51 yX5_isWithin wsX5_isWithin) := goodIn_app (goodIn_of _ (by decide +kernel)) ggX5_write_X5_isWithin
set_option maxRecDepth 20000 in
theorem ggX5_write_X2_record : GoodIn wsX5_write wsX2_record := goodIn_r _ [17, 18, 19, 20, 21, 22, 23, 24, 25, 26, 27, 28, 29, 30, 31, 32, 33, 34, 35, 36, 37, 38, 39, 40, 41, 42, 43, 44, 45, 46, 47, 48, 49, 50, 51, 52, 53, 54, 55, 162, 163, 164, 165, 166, 167, 168, 169, 170, 171, 172, 173, 174, 175, 176, 177, 178] (by decide +kernel) (by decide +kernel)
set_option maxRecDepth 20000 in
theorem gX5_write_X2_record : GoodIn wsX5_write (wsV RX5 43 RX2 yX2_record wsX2_record) := goodIn_app (goodIn_of _ (by decide +kernel)) ggX5_write_X2_record
set_option maxRecDepth 20000 in
theorem ggX5_write_X3_writeLine : GoodIn wsX5_write wsX3_writeLine := goodIn_r _ [59, 31, 35, 60, 61, 62, 39, 63, 44, 64, 65, 66, 67, 41, 68, 69, 70, 71, 72, 73, 24, 74, 75, 76, 77, 78, 46, 45, 79, 80, 81, 50, 82, 52, 83, 84, 85, 86, 55, 87, 88, 89, 90, 91, 92, 93, 94, 95, 96, 97, 98, 99, 100, 101, 102, 103, 104, 105, 54, 106, 107, 108, 109, 110, 111, 112, 113, 43, 114, 115, 116, 117, 118, 119, 120, 121, 122, 123, 124, 26, 125, 34, 126, 127, 128, 129, 130, 32, 33, 131, 132, 133, 134, 135, 136, 137, 138, 139, 140, 141, 142, 143, 144, 145, 146, 147, 148, 149, 150, 151, 152, 165, 166, 167, 168, 169, 170, 171, 172, 173, 174, 175, 176, 177, 178] (by decide +kernel) (by decide +kernel)
set_option maxRecDepth 20000 in
theorem gX5_write_X3_writeLine : GoodIn wsX5_write (wsV RX5 55 RX3 yX3_writeLine wsX3_writeLine) := goodIn_app (goodIn_of _ (by decide +kernel)) ggX5_write_X3_writeLine
theorem dX5_write_0 : decode cX5_write 0 = .ok (.iload_n 1, 1) := by decide +kernel
theorem dX5_write_1 : decode cX5_write 1 = .ok (.invokestatic 36, 3) := by decide +kernel
theorem dX5_write_4 : decode cX5_write 4 = .ok (.ifCond .eq 10, 3) := by decide +kernel
theorem dX5_write_7 : decode cX5_write 7 = .ok (.iload_n 2, 1) := by decide +kernel
theorem dX5_write_8 : decode cX5_write 8 = .ok (.invokestatic 40, 3) := by decide +kernel
theorem dX5_write_11 : decode cX5_write 11 = .ok (.ifCond .ne 5, 3) := by decide +kernel
theorem dX5_write_14 : decode cX5_write 14 = .ok (.iconst (-1), 1) := by decide +kernel
theorem dX5_write_15 : decode cX5_write 15 = .ok (.ireturn, 1) := by decide +kernel
theorem dX5_write_16 : decode cX5_write 16 = .ok (.iload_n 3, 1) := by decide +kernel
theorem dX5_write_17 : decode cX5_write 17 = .ok (.iconst 0, 1) := by decide +kernel
theorem dX5_write_18 : decode cX5_write 18 = .ok (.sipush 9999, 3) := by decide +kernel
theorem dX5_write_21 : decode cX5_write 21 = .ok (.invokestatic 51, 3) := by decide +kernel
theorem dX5_write_24 : decode cX5_write 24 = .ok (.ifCond .ne 6, 3) := by decide +kernel
theorem dX5_write_27 : decode cX5_write 27 = .ok (.bipush (-2), 2) := by decide +kernel
theorem dX5_write_29 : decode cX5_write 29 = .ok (.ireturn, 1) := by decide +kernel
theorem dX5_write_30 : decode cX5_write 30 = .ok (.aload_n 0, 1) := by decide +kernel
theorem dX5_write_31 : decode cX5_write 31 = .ok (.getfield 25, 3) := by decide +kernel
theorem dX5_write_34 : decode cX5_write 34 = .ok (.aload_n 0, 1) := by decide +kernel
theorem dX5_write_35 : decode cX5_write 35 = .ok (.getfield 12, 3) := by decide +kernel
theorem dX5_write_38 : decode cX5_write 38 = .ok (.invokevirtual 43, 3) := by decide +kernel
theorem dX5_write_41 : decode cX5_write 41 = .ok (.aload_n 0, 1) := by decide +kernel
theorem dX5_write_42 : decode cX5_write 42 = .ok (.getfield 12, 3) := by decide +kernel
theorem dX5_write_45 : decode cX5_write 45 = .ok (.iload_n 1, 1) := by decide +kernel
theorem dX5_write_46 : decode cX5_write 46 = .ok (.iload_n 2, 1) := by decide +kernel
theorem dX5_write_47 : decode cX5_write 47 = .ok (.iload_n 3, 1) := by decide +kernel
theorem dX5_write_48 : decode cX5_write 48 = .ok (.invokevirtual 55, 3) := by decide +kernel
theorem dX5_write_51 : decode cX5_write 51 = .ok (.ireturn, 1) := by decide +kernel
set_option maxRecDepth 20000 in
theorem ggX5_drop_X5_isCore : GoodIn wsX5_drop wsX5_isCore := goodIn_r _ [7, 8, 9, 6, 10] (by decide +kernel) (by decide +kernel)
set_option maxRecDepth 20000 in
theorem gX5_drop_X5_isCore : GoodIn wsX5_drop (va_wsS RX5 36 yX5_isCore wsX5_isCore) := goodIn_app (goodIn_of _ (by decide +kernel)) ggX5_drop_X5_isCore
set_option maxRecDepth 20000 in
theorem ggX5_drop_X5_isLine : GoodIn wsX5_drop wsX5_isLine := goodIn_r _ [13, 8, 9, 6, 10] (by decide +kernel) (by decide +kernel)
set_option maxRecDepth 20000 in
theorem gX5_drop_X5_isLine : GoodIn wsX5_drop (va_wsS RX5 40 yX5_isLine wsX5_isLine) := goodIn_app (goodIn_of _ (by decide +kernel)) ggX5_drop_X5_isLine
set_option maxRecDepth 20000 in
theorem ggX5_drop_X0_holds : GoodIn wsX5_drop wsX0_holds := goodIn_r _ [18, 19, 20, 21, 17, 22, 123, 124, 125, 126, 127] (by decide +kernel) (by decide +kernel)
set_option maxRecDepth 20000 in
theorem gX5_drop_X0_holds : GoodIn wsX5_drop (wsV RX5 63 RX0 yX0_holds wsX0_holds) := goodIn_app (goodIn_of _ (by decide +kernel)) ggX5_drop_X0_holds
set_option maxRecDepth 20000 in
theorem ggX5_drop_X2_record : GoodIn wsX5_drop wsX2_record := goodIn_r _ [27, 28, 29, 30, 31, 32, 33, 34, 35, 36, 37, 38, 39, 40, 41, 42, 43, 44, 45, 46, 47, 48, 17, 49, 19, 50, 51, 52, 53, 54, 55, 56, 57, 58, 59, 60, 61, 62, 63, 128, 129, 130, 117, 118, 119, 120, 121, 122, 123, 124, 125, 126, 127, 131, 132, 133] (by decide +kernel) (by decide +kernel)
set_option maxRecDepth 20000 in
theorem gX5_drop_X2_record : GoodIn wsX5_drop (wsV RX5 43 RX2 yX2_record wsX2_record) := goodIn_app (goodIn_of _ (by decide +kernel)) ggX5_drop_X2_record
set_option maxRecDepth 20000 in
theorem ggX5_drop_X3_dropLine : GoodIn wsX5_drop wsX3_dropLine := goodIn_r _ [67, 41, 68, 15, 16, 17, 18, 19, 20, 21, 22, 69, 70, 71, 72, 52, 73, 74, 75, 76, 77, 34, 78, 79, 80, 81, 82, 83, 84, 36, 85, 44, 86, 87, 88, 89, 54, 90, 91, 92, 58, 93, 94, 95, 96, 97, 98, 99, 100, 62, 60, 101, 102, 103, 104, 105, 106, 107, 117, 118, 119, 120, 121, 122, 123, 124, 125, 126, 127, 131, 132, 133] (by decide +kernel) (by decide +kernel)
set_option maxRecDepth 20000 in
theorem gX5_drop_X3_dropLine : GoodIn wsX5_drop (wsV RX5 68 RX3 yX3_dropLine wsX3_dropLine) := goodIn_app (goodIn_of _ (by decide +kernel)) ggX5_drop_X3_dropLine
theorem dX5_drop_0 : decode cX5_drop 0 = .ok (.iload_n 1, 1) := by decide +kernel
theorem dX5_drop_1 : decode cX5_drop 1 = .ok (.invokestatic 36, 3) := by decide +kernel
theorem dX5_drop_4 : decode cX5_drop 4 = .ok (.ifCond .eq 10, 3) := by decide +kernel
theorem dX5_drop_7 : decode cX5_drop 7 = .ok (.iload_n 2, 1) := by decide +kernel
theorem dX5_drop_8 : decode cX5_drop 8 = .ok (.invokestatic 40, 3) := by decide +kernel
theorem dX5_drop_11 : decode cX5_drop 11 = .ok (.ifCond .ne 5, 3) := by decide +kernel
theorem dX5_drop_14 : decode cX5_drop 14 = .ok (.iconst (-1), 1) := by decide +kernel
theorem dX5_drop_15 : decode cX5_drop 15 = .ok (.ireturn, 1) := by decide +kernel
theorem dX5_drop_16 : decode cX5_drop 16 = .ok (.aload_n 0, 1) := by decide +kernel
theorem dX5_drop_17 : decode cX5_drop 17 = .ok (.getfield 12, 3) := by decide +kernel
theorem dX5_drop_20 : decode cX5_drop 20 = .ok (.getfield 59, 3) := by decide +kernel
theorem dX5_drop_23 : decode cX5_drop 23 = .ok (.iload_n 1, 1) := by decide +kernel
theorem dX5_drop_24 : decode cX5_drop 24 = .ok (.aaload, 1) := by decide +kernel
theorem dX5_drop_25 : decode cX5_drop 25 = .ok (.iload_n 2, 1) := by decide +kernel
theorem dX5_drop_26 : decode cX5_drop 26 = .ok (.invokevirtual 63, 3) := by decide +kernel
theorem dX5_drop_29 : decode cX5_drop 29 = .ok (.ifCond .ne 6, 3) := by decide +kernel
theorem dX5_drop_32 : decode cX5_drop 32 = .ok (.bipush (-4), 2) := by decide +kernel
theorem dX5_drop_34 : decode cX5_drop 34 = .ok (.ireturn, 1) := by decide +kernel
theorem dX5_drop_35 : decode cX5_drop 35 = .ok (.aload_n 0, 1) := by decide +kernel
theorem dX5_drop_36 : decode cX5_drop 36 = .ok (.getfield 25, 3) := by decide +kernel
theorem dX5_drop_39 : decode cX5_drop 39 = .ok (.aload_n 0, 1) := by decide +kernel
theorem dX5_drop_40 : decode cX5_drop 40 = .ok (.getfield 12, 3) := by decide +kernel
theorem dX5_drop_43 : decode cX5_drop 43 = .ok (.invokevirtual 43, 3) := by decide +kernel
theorem dX5_drop_46 : decode cX5_drop 46 = .ok (.aload_n 0, 1) := by decide +kernel
theorem dX5_drop_47 : decode cX5_drop 47 = .ok (.getfield 12, 3) := by decide +kernel
theorem dX5_drop_50 : decode cX5_drop 50 = .ok (.iload_n 1, 1) := by decide +kernel
theorem dX5_drop_51 : decode cX5_drop 51 = .ok (.iload_n 2, 1) := by decide +kernel
theorem dX5_drop_52 : decode cX5_drop 52 = .ok (.invokevirtual 68, 3) := by decide +kernel
theorem dX5_drop_55 : decode cX5_drop 55 = .ok (.ireturn, 1) := by decide +kernel
set_option maxRecDepth 20000 in
theorem ggX5_forget_X5_isCore : GoodIn wsX5_forget wsX5_isCore := goodIn_r _ [7, 8, 9, 6, 10] (by decide +kernel) (by decide +kernel)
set_option maxRecDepth 20000 in
theorem gX5_forget_X5_isCore : GoodIn wsX5_forget (va_wsS RX5 36 yX5_isCore wsX5_isCore) := goodIn_app (goodIn_of _ (by decide +kernel)) ggX5_forget_X5_isCore
set_option maxRecDepth 20000 in
theorem ggX5_forget_X0_hasNothingToForget : GoodIn wsX5_forget wsX0_hasNothingToForget := goodIn_r _ [15, 16, 17, 18, 19, 14, 20, 21, 22, 23, 24, 25, 26, 27, 28, 29, 30, 31, 32, 33, 6, 34, 113, 114, 115, 116, 117, 118, 119, 120] (by decide +kernel) (by decide +kernel)
set_option maxRecDepth 20000 in
theorem gX5_forget_X0_hasNothingToForget : GoodIn wsX5_forget (wsV RX5 71 RX0 yX0_hasNothingToForget wsX0_hasNothingToForget) := goodIn_app (goodIn_of _ (by decide +kernel)) ggX5_forget_X0_hasNothingToForget
set_option maxRecDepth 20000 in
theorem ggX5_forget_X2_record : GoodIn wsX5_forget wsX2_record := goodIn_r _ [39, 40, 41, 42, 43, 44, 45, 46, 47, 48, 49, 50, 51, 52, 53, 54, 55, 56, 57, 58, 59, 60, 14, 61, 21, 62, 63, 64, 65, 16, 66, 67, 68, 25, 69, 27, 70, 71, 32, 121, 122, 123, 107, 108, 109, 110, 111, 112, 113, 114, 115, 116, 117, 118, 119, 120] (by decide +kernel) (by decide +kernel)
set_option maxRecDepth 20000 in
theorem gX5_forget_X2_record : GoodIn wsX5_forget (wsV RX5 43 RX2 yX2_record wsX2_record) := goodIn_app (goodIn_of _ (by decide +kernel)) ggX5_forget_X2_record
set_option maxRecDepth 20000 in
theorem ggX5_forget_X3_forgetOnPurpose : GoodIn wsX5_forget wsX3_forgetOnPurpose := goodIn_r _ [75, 53, 76, 12, 13, 14, 15, 16, 17, 18, 19, 20, 21, 22, 23, 24, 25, 26, 27, 28, 29, 30, 31, 32, 33, 6, 34, 77, 78, 79, 46, 80, 81, 82, 83, 84, 85, 86, 87, 88, 48, 89, 56, 90, 91, 92, 93, 64, 94, 95, 96, 97, 71, 107, 108, 109, 110, 111, 112, 113, 114, 115, 116, 117, 118, 119, 120] (by decide +kernel) (by decide +kernel)
set_option maxRecDepth 20000 in
theorem gX5_forget_X3_forgetOnPurpose : GoodIn wsX5_forget (wsV RX5 75 RX3 yX3_forgetOnPurpose wsX3_forgetOnPurpose) := goodIn_app (goodIn_of _ (by decide +kernel)) ggX5_forget_X3_forgetOnPurpose
theorem dX5_forget_0 : decode cX5_forget 0 = .ok (.iload_n 1, 1) := by decide +kernel
theorem dX5_forget_1 : decode cX5_forget 1 = .ok (.invokestatic 36, 3) := by decide +kernel
theorem dX5_forget_4 : decode cX5_forget 4 = .ok (.ifCond .ne 5, 3) := by decide +kernel
theorem dX5_forget_7 : decode cX5_forget 7 = .ok (.iconst (-1), 1) := by decide +kernel
theorem dX5_forget_8 : decode cX5_forget 8 = .ok (.ireturn, 1) := by decide +kernel
theorem dX5_forget_9 : decode cX5_forget 9 = .ok (.aload_n 0, 1) := by decide +kernel
theorem dX5_forget_10 : decode cX5_forget 10 = .ok (.getfield 12, 3) := by decide +kernel
theorem dX5_forget_13 : decode cX5_forget 13 = .ok (.getfield 59, 3) := by decide +kernel
theorem dX5_forget_16 : decode cX5_forget 16 = .ok (.iload_n 1, 1) := by decide +kernel
theorem dX5_forget_17 : decode cX5_forget 17 = .ok (.aaload, 1) := by decide +kernel
theorem dX5_forget_18 : decode cX5_forget 18 = .ok (.invokevirtual 71, 3) := by decide +kernel
theorem dX5_forget_21 : decode cX5_forget 21 = .ok (.ifCond .eq 6, 3) := by decide +kernel
theorem dX5_forget_24 : decode cX5_forget 24 = .ok (.bipush (-5), 2) := by decide +kernel
theorem dX5_forget_26 : decode cX5_forget 26 = .ok (.ireturn, 1) := by decide +kernel
theorem dX5_forget_27 : decode cX5_forget 27 = .ok (.aload_n 0, 1) := by decide +kernel
theorem dX5_forget_28 : decode cX5_forget 28 = .ok (.getfield 25, 3) := by decide +kernel
theorem dX5_forget_31 : decode cX5_forget 31 = .ok (.aload_n 0, 1) := by decide +kernel
theorem dX5_forget_32 : decode cX5_forget 32 = .ok (.getfield 12, 3) := by decide +kernel
theorem dX5_forget_35 : decode cX5_forget 35 = .ok (.invokevirtual 43, 3) := by decide +kernel
theorem dX5_forget_38 : decode cX5_forget 38 = .ok (.aload_n 0, 1) := by decide +kernel
theorem dX5_forget_39 : decode cX5_forget 39 = .ok (.getfield 12, 3) := by decide +kernel
theorem dX5_forget_42 : decode cX5_forget 42 = .ok (.iload_n 1, 1) := by decide +kernel
theorem dX5_forget_43 : decode cX5_forget 43 = .ok (.invokevirtual 75, 3) := by decide +kernel
theorem dX5_forget_46 : decode cX5_forget 46 = .ok (.ireturn, 1) := by decide +kernel
set_option maxRecDepth 20000 in
theorem ggX5_set_X5_isWithin : GoodIn wsX5_set wsX5_isWithin := goodIn_r _ [8] (by decide +kernel) (by decide +kernel)
set_option maxRecDepth 20000 in
theorem gX5_set_X5_isWithin : GoodIn wsX5_set (va_wsS RX5 51 yX5_isWithin wsX5_isWithin) := goodIn_app (goodIn_of _ (by decide +kernel)) ggX5_set_X5_isWithin
set_option maxRecDepth 20000 in
theorem ggX5_set_X2_record : GoodIn wsX5_set wsX2_record := goodIn_r _ [13, 14, 15, 16, 17, 18, 19, 20, 21, 22, 23, 24, 25, 26, 27, 28, 29, 30, 31, 32, 33, 34, 35, 36, 37, 38, 39, 40, 41, 42, 43, 44, 45, 46, 47, 48, 49, 50, 51, 67, 68, 69, 61, 62, 63, 64, 65, 66, 70, 71, 72, 73, 74, 75, 76, 77] (by decide +kernel) (by decide +kernel)
set_option maxRecDepth 20000 in
theorem gX5_set_X2_record : GoodIn wsX5_set (wsV RX5 43 RX2 yX2_record wsX2_record) := goodIn_app (goodIn_of _ (by decide +kernel)) ggX5_set_X2_record
theorem dX5_set_0 : decode cX5_set 0 = .ok (.iload_n 1, 1) := by decide +kernel
theorem dX5_set_1 : decode cX5_set 1 = .ok (.iconst 0, 1) := by decide +kernel
theorem dX5_set_2 : decode cX5_set 2 = .ok (.iconst 1, 1) := by decide +kernel
theorem dX5_set_3 : decode cX5_set 3 = .ok (.invokestatic 51, 3) := by decide +kernel
theorem dX5_set_6 : decode cX5_set 6 = .ok (.ifCond .ne 5, 3) := by decide +kernel
theorem dX5_set_9 : decode cX5_set 9 = .ok (.iconst (-1), 1) := by decide +kernel
theorem dX5_set_10 : decode cX5_set 10 = .ok (.ireturn, 1) := by decide +kernel
theorem dX5_set_11 : decode cX5_set 11 = .ok (.iload_n 2, 1) := by decide +kernel
theorem dX5_set_12 : decode cX5_set 12 = .ok (.iconst 1, 1) := by decide +kernel
theorem dX5_set_13 : decode cX5_set 13 = .ok (.iload_n 1, 1) := by decide +kernel
theorem dX5_set_14 : decode cX5_set 14 = .ok (.ifCond .ne 8, 3) := by decide +kernel
theorem dX5_set_17 : decode cX5_set 17 = .ok (.bipush 9, 2) := by decide +kernel
theorem dX5_set_19 : decode cX5_set 19 = .ok (.goto 5, 3) := by decide +kernel
theorem dX5_set_22 : decode cX5_set 22 = .ok (.bipush 24, 2) := by decide +kernel
theorem dX5_set_24 : decode cX5_set 24 = .ok (.invokestatic 51, 3) := by decide +kernel
theorem dX5_set_27 : decode cX5_set 27 = .ok (.ifCond .ne 6, 3) := by decide +kernel
theorem dX5_set_30 : decode cX5_set 30 = .ok (.bipush (-2), 2) := by decide +kernel
theorem dX5_set_32 : decode cX5_set 32 = .ok (.ireturn, 1) := by decide +kernel
theorem dX5_set_33 : decode cX5_set 33 = .ok (.iload_n 1, 1) := by decide +kernel
theorem dX5_set_34 : decode cX5_set 34 = .ok (.ifCond .ne 13, 3) := by decide +kernel
theorem dX5_set_37 : decode cX5_set 37 = .ok (.aload_n 0, 1) := by decide +kernel
theorem dX5_set_38 : decode cX5_set 38 = .ok (.getfield 12, 3) := by decide +kernel
theorem dX5_set_41 : decode cX5_set 41 = .ok (.getfield 79, 3) := by decide +kernel
theorem dX5_set_44 : decode cX5_set 44 = .ok (.goto 10, 3) := by decide +kernel
theorem dX5_set_47 : decode cX5_set 47 = .ok (.aload_n 0, 1) := by decide +kernel
theorem dX5_set_48 : decode cX5_set 48 = .ok (.getfield 12, 3) := by decide +kernel
theorem dX5_set_51 : decode cX5_set 51 = .ok (.getfield 83, 3) := by decide +kernel
theorem dX5_set_54 : decode cX5_set 54 = .ok (.istore_n 3, 1) := by decide +kernel
theorem dX5_set_55 : decode cX5_set 55 = .ok (.iload_n 3, 1) := by decide +kernel
theorem dX5_set_56 : decode cX5_set 56 = .ok (.iload_n 2, 1) := by decide +kernel
theorem dX5_set_57 : decode cX5_set 57 = .ok (.if_icmp .ne 6, 3) := by decide +kernel
theorem dX5_set_60 : decode cX5_set 60 = .ok (.bipush (-5), 2) := by decide +kernel
theorem dX5_set_62 : decode cX5_set 62 = .ok (.ireturn, 1) := by decide +kernel
theorem dX5_set_63 : decode cX5_set 63 = .ok (.aload_n 0, 1) := by decide +kernel
theorem dX5_set_64 : decode cX5_set 64 = .ok (.getfield 25, 3) := by decide +kernel
theorem dX5_set_67 : decode cX5_set 67 = .ok (.aload_n 0, 1) := by decide +kernel
theorem dX5_set_68 : decode cX5_set 68 = .ok (.getfield 12, 3) := by decide +kernel
theorem dX5_set_71 : decode cX5_set 71 = .ok (.invokevirtual 43, 3) := by decide +kernel
theorem dX5_set_74 : decode cX5_set 74 = .ok (.iload_n 1, 1) := by decide +kernel
theorem dX5_set_75 : decode cX5_set 75 = .ok (.ifCond .ne 14, 3) := by decide +kernel
theorem dX5_set_78 : decode cX5_set 78 = .ok (.aload_n 0, 1) := by decide +kernel
theorem dX5_set_79 : decode cX5_set 79 = .ok (.getfield 12, 3) := by decide +kernel
theorem dX5_set_82 : decode cX5_set 82 = .ok (.iload_n 2, 1) := by decide +kernel
theorem dX5_set_83 : decode cX5_set 83 = .ok (.putfield 79, 3) := by decide +kernel
theorem dX5_set_86 : decode cX5_set 86 = .ok (.goto 11, 3) := by decide +kernel
theorem dX5_set_89 : decode cX5_set 89 = .ok (.aload_n 0, 1) := by decide +kernel
theorem dX5_set_90 : decode cX5_set 90 = .ok (.getfield 12, 3) := by decide +kernel
theorem dX5_set_93 : decode cX5_set 93 = .ok (.iload_n 2, 1) := by decide +kernel
theorem dX5_set_94 : decode cX5_set 94 = .ok (.putfield 83, 3) := by decide +kernel
theorem dX5_set_97 : decode cX5_set 97 = .ok (.iload_n 3, 1) := by decide +kernel
theorem dX5_set_98 : decode cX5_set 98 = .ok (.ireturn, 1) := by decide +kernel
set_option maxRecDepth 20000 in
theorem ggX5_undo_X2_takeLatest : GoodIn wsX5_undo wsX2_takeLatest := goodIn_r _ [8, 9, 10, 11, 12, 13, 14, 15, 16, 17, 18, 19, 20, 21, 22, 23, 24, 25, 26, 27, 28, 29, 30, 31, 32, 33, 34, 35, 36, 37, 38, 39, 40, 41, 42, 43, 44, 45, 46, 56, 57, 58, 59, 60, 61, 62, 63, 64, 65, 66, 67, 68, 69, 70, 71, 72] (by decide +kernel) (by decide +kernel)
set_option maxRecDepth 20000 in
theorem gX5_undo_X2_takeLatest : GoodIn wsX5_undo (wsV RX5 127 RX2 yX2_takeLatest wsX2_takeLatest) := goodIn_app (goodIn_of _ (by decide +kernel)) ggX5_undo_X2_takeLatest
theorem dX5_undo_0 : decode cX5_undo 0 = .ok (.aload_n 0, 1) := by decide +kernel
theorem dX5_undo_1 : decode cX5_undo 1 = .ok (.getfield 25, 3) := by decide +kernel
theorem dX5_undo_4 : decode cX5_undo 4 = .ok (.getfield 124, 3) := by decide +kernel
theorem dX5_undo_7 : decode cX5_undo 7 = .ok (.ifCond .ne 6, 3) := by decide +kernel
theorem dX5_undo_10 : decode cX5_undo 10 = .ok (.bipush (-5), 2) := by decide +kernel
theorem dX5_undo_12 : decode cX5_undo 12 = .ok (.ireturn, 1) := by decide +kernel
theorem dX5_undo_13 : decode cX5_undo 13 = .ok (.aload_n 0, 1) := by decide +kernel
theorem dX5_undo_14 : decode cX5_undo 14 = .ok (.getfield 25, 3) := by decide +kernel
theorem dX5_undo_17 : decode cX5_undo 17 = .ok (.aload_n 0, 1) := by decide +kernel
theorem dX5_undo_18 : decode cX5_undo 18 = .ok (.getfield 12, 3) := by decide +kernel
theorem dX5_undo_21 : decode cX5_undo 21 = .ok (.invokevirtual 127, 3) := by decide +kernel
theorem dX5_undo_24 : decode cX5_undo 24 = .ok (.aload_n 0, 1) := by decide +kernel
theorem dX5_undo_25 : decode cX5_undo 25 = .ok (.getfield 25, 3) := by decide +kernel
theorem dX5_undo_28 : decode cX5_undo 28 = .ok (.getfield 124, 3) := by decide +kernel
theorem dX5_undo_31 : decode cX5_undo 31 = .ok (.ireturn, 1) := by decide +kernel
set_option maxRecDepth 20000 in
theorem ggX5_core_X5_isCore : GoodIn wsX5_core wsX5_isCore := goodIn_r _ [8, 9, 10, 7, 11] (by decide +kernel) (by decide +kernel)
set_option maxRecDepth 20000 in
theorem gX5_core_X5_isCore : GoodIn wsX5_core (va_wsS RX5 36 yX5_isCore wsX5_isCore) := goodIn_app (goodIn_of _ (by decide +kernel)) ggX5_core_X5_isCore
set_option maxRecDepth 20000 in
theorem ggX5_core_X5_isWithin : GoodIn wsX5_core wsX5_isWithin := goodIn_r _ [11] (by decide +kernel) (by decide +kernel)
set_option maxRecDepth 20000 in
theorem gX5_core_X5_isWithin : GoodIn wsX5_core (va_wsS RX5 51 yX5_isWithin wsX5_isWithin) := goodIn_app (goodIn_of _ (by decide +kernel)) ggX5_core_X5_isWithin
set_option maxRecDepth 20000 in
theorem ggX5_core_X0_heldLines : GoodIn wsX5_core wsX0_heldLines := goodIn_r _ [16, 17, 56, 57, 58, 59, 60] (by decide +kernel) (by decide +kernel)
set_option maxRecDepth 20000 in
theorem gX5_core_X0_heldLines : GoodIn wsX5_core (wsV RX5 136 RX0 yX0_heldLines wsX0_heldLines) := goodIn_app (goodIn_of _ (by decide +kernel)) ggX5_core_X0_heldLines
set_option maxRecDepth 20000 in
theorem ggX5_core_X0_dirtyLines : GoodIn wsX5_core wsX0_dirtyLines := goodIn_r _ [21, 22, 23, 7, 24, 56, 57, 58, 59, 60] (by decide +kernel) (by decide +kernel)
set_option maxRecDepth 20000 in
theorem gX5_core_X0_dirtyLines : GoodIn wsX5_core (wsV RX5 139 RX0 yX0_dirtyLines wsX0_dirtyLines) := goodIn_app (goodIn_of _ (by decide +kernel)) ggX5_core_X0_dirtyLines
set_option maxRecDepth 20000 in
theorem ggX5_core_X1_countersAboveZero : GoodIn wsX5_core wsX1_countersAboveZero := goodIn_r _ [29, 30, 61, 62, 63] (by decide +kernel) (by decide +kernel)
set_option maxRecDepth 20000 in
theorem gX5_core_X1_countersAboveZero : GoodIn wsX5_core (wsV RX5 146 RX1 yX1_countersAboveZero wsX1_countersAboveZero) := goodIn_app (goodIn_of _ (by decide +kernel)) ggX5_core_X1_countersAboveZero
set_option maxRecDepth 20000 in
theorem ggX5_core_X1_stuckCounters : GoodIn wsX5_core wsX1_stuckCounters := goodIn_r _ [34, 35, 23, 7, 24, 61, 62, 63] (by decide +kernel) (by decide +kernel)
set_option maxRecDepth 20000 in
theorem gX5_core_X1_stuckCounters : GoodIn wsX5_core (wsV RX5 151 RX1 yX1_stuckCounters wsX1_stuckCounters) := goodIn_app (goodIn_of _ (by decide +kernel)) ggX5_core_X1_stuckCounters
set_option maxRecDepth 20000 in
theorem ggX5_core_X1_bitsThatAreOne : GoodIn wsX5_core wsX1_bitsThatAreOne := goodIn_r _ [39, 40, 23, 7, 24, 61, 62, 63] (by decide +kernel) (by decide +kernel)
set_option maxRecDepth 20000 in
theorem gX5_core_X1_bitsThatAreOne : GoodIn wsX5_core (wsV RX5 154 RX1 yX1_bitsThatAreOne wsX1_bitsThatAreOne) := goodIn_app (goodIn_of _ (by decide +kernel)) ggX5_core_X1_bitsThatAreOne
theorem dX5_core_0 : decode cX5_core 0 = .ok (.iload_n 1, 1) := by decide +kernel
theorem dX5_core_1 : decode cX5_core 1 = .ok (.invokestatic 36, 3) := by decide +kernel
theorem dX5_core_4 : decode cX5_core 4 = .ok (.ifCond .ne 5, 3) := by decide +kernel
theorem dX5_core_7 : decode cX5_core 7 = .ok (.iconst (-1), 1) := by decide +kernel
theorem dX5_core_8 : decode cX5_core 8 = .ok (.ireturn, 1) := by decide +kernel
theorem dX5_core_9 : decode cX5_core 9 = .ok (.iload_n 2, 1) := by decide +kernel
theorem dX5_core_10 : decode cX5_core 10 = .ok (.iconst 0, 1) := by decide +kernel
theorem dX5_core_11 : decode cX5_core 11 = .ok (.bipush 10, 2) := by decide +kernel
theorem dX5_core_13 : decode cX5_core 13 = .ok (.invokestatic 51, 3) := by decide +kernel
theorem dX5_core_16 : decode cX5_core 16 = .ok (.ifCond .ne 6, 3) := by decide +kernel
theorem dX5_core_19 : decode cX5_core 19 = .ok (.bipush (-2), 2) := by decide +kernel
theorem dX5_core_21 : decode cX5_core 21 = .ok (.ireturn, 1) := by decide +kernel
theorem dX5_core_22 : decode cX5_core 22 = .ok (.aload_n 0, 1) := by decide +kernel
theorem dX5_core_23 : decode cX5_core 23 = .ok (.getfield 12, 3) := by decide +kernel
theorem dX5_core_26 : decode cX5_core 26 = .ok (.getfield 59, 3) := by decide +kernel
theorem dX5_core_29 : decode cX5_core 29 = .ok (.iload_n 1, 1) := by decide +kernel
theorem dX5_core_30 : decode cX5_core 30 = .ok (.aaload, 1) := by decide +kernel
theorem dX5_core_31 : decode cX5_core 31 = .ok (.astore_n 3, 1) := by decide +kernel
theorem dX5_core_32 : decode cX5_core 32 = .ok (.iload_n 2, 1) := by decide +kernel
theorem dX5_core_33 : decode cX5_core 33 = .ok (.tableswitch 69 0 4 #[35, 40, 45, 53, 61], 35) := by decide +kernel
theorem dX5_core_68 : decode cX5_core 68 = .ok (.aload_n 3, 1) := by decide +kernel
theorem dX5_core_69 : decode cX5_core 69 = .ok (.invokevirtual 136, 3) := by decide +kernel
theorem dX5_core_72 : decode cX5_core 72 = .ok (.ireturn, 1) := by decide +kernel
theorem dX5_core_73 : decode cX5_core 73 = .ok (.aload_n 3, 1) := by decide +kernel
theorem dX5_core_74 : decode cX5_core 74 = .ok (.invokevirtual 139, 3) := by decide +kernel
theorem dX5_core_77 : decode cX5_core 77 = .ok (.ireturn, 1) := by decide +kernel
theorem dX5_core_78 : decode cX5_core 78 = .ok (.aload_n 3, 1) := by decide +kernel
theorem dX5_core_79 : decode cX5_core 79 = .ok (.getfield 142, 3) := by decide +kernel
theorem dX5_core_82 : decode cX5_core 82 = .ok (.invokevirtual 146, 3) := by decide +kernel
theorem dX5_core_85 : decode cX5_core 85 = .ok (.ireturn, 1) := by decide +kernel
theorem dX5_core_86 : decode cX5_core 86 = .ok (.aload_n 3, 1) := by decide +kernel
theorem dX5_core_87 : decode cX5_core 87 = .ok (.getfield 142, 3) := by decide +kernel
theorem dX5_core_90 : decode cX5_core 90 = .ok (.invokevirtual 151, 3) := by decide +kernel
theorem dX5_core_93 : decode cX5_core 93 = .ok (.ireturn, 1) := by decide +kernel
theorem dX5_core_94 : decode cX5_core 94 = .ok (.aload_n 3, 1) := by decide +kernel
theorem dX5_core_95 : decode cX5_core 95 = .ok (.getfield 142, 3) := by decide +kernel
theorem dX5_core_98 : decode cX5_core 98 = .ok (.invokevirtual 154, 3) := by decide +kernel
theorem dX5_core_101 : decode cX5_core 101 = .ok (.ireturn, 1) := by decide +kernel
theorem dX5_core_102 : decode cX5_core 102 = .ok (.aload_n 3, 1) := by decide +kernel
theorem dX5_core_103 : decode cX5_core 103 = .ok (.getfield 157, 3) := by decide +kernel
theorem dX5_core_106 : decode cX5_core 106 = .ok (.iload_n 2, 1) := by decide +kernel
theorem dX5_core_107 : decode cX5_core 107 = .ok (.iconst 5, 1) := by decide +kernel
theorem dX5_core_108 : decode cX5_core 108 = .ok (.isub, 1) := by decide +kernel
theorem dX5_core_109 : decode cX5_core 109 = .ok (.iaload, 1) := by decide +kernel
theorem dX5_core_110 : decode cX5_core 110 = .ok (.ireturn, 1) := by decide +kernel
set_option maxRecDepth 20000 in
theorem ggX5_held_X5_isCore : GoodIn wsX5_held wsX5_isCore := goodIn_r _ [9, 10, 11, 8, 12] (by decide +kernel) (by decide +kernel)
set_option maxRecDepth 20000 in
theorem gX5_held_X5_isCore : GoodIn wsX5_held (va_wsS RX5 36 yX5_isCore wsX5_isCore) := goodIn_app (goodIn_of _ (by decide +kernel)) ggX5_held_X5_isCore
set_option maxRecDepth 20000 in
theorem ggX5_held_X5_isWithin : GoodIn wsX5_held wsX5_isWithin := goodIn_r _ [12] (by decide +kernel) (by decide +kernel)
set_option maxRecDepth 20000 in
theorem gX5_held_X5_isWithin : GoodIn wsX5_held (va_wsS RX5 51 yX5_isWithin wsX5_isWithin) := goodIn_app (goodIn_of _ (by decide +kernel)) ggX5_held_X5_isWithin
theorem dX5_held_0 : decode cX5_held 0 = .ok (.iload_n 1, 1) := by decide +kernel
theorem dX5_held_1 : decode cX5_held 1 = .ok (.invokestatic 36, 3) := by decide +kernel
theorem dX5_held_4 : decode cX5_held 4 = .ok (.ifCond .ne 5, 3) := by decide +kernel
theorem dX5_held_7 : decode cX5_held 7 = .ok (.iconst (-1), 1) := by decide +kernel
theorem dX5_held_8 : decode cX5_held 8 = .ok (.ireturn, 1) := by decide +kernel
theorem dX5_held_9 : decode cX5_held 9 = .ok (.iload_n 2, 1) := by decide +kernel
theorem dX5_held_10 : decode cX5_held 10 = .ok (.iconst 0, 1) := by decide +kernel
theorem dX5_held_11 : decode cX5_held 11 = .ok (.bipush 7, 2) := by decide +kernel
theorem dX5_held_13 : decode cX5_held 13 = .ok (.invokestatic 51, 3) := by decide +kernel
theorem dX5_held_16 : decode cX5_held 16 = .ok (.ifCond .eq 12, 3) := by decide +kernel
theorem dX5_held_19 : decode cX5_held 19 = .ok (.iload_n 3, 1) := by decide +kernel
theorem dX5_held_20 : decode cX5_held 20 = .ok (.iconst 0, 1) := by decide +kernel
theorem dX5_held_21 : decode cX5_held 21 = .ok (.iconst 2, 1) := by decide +kernel
theorem dX5_held_22 : decode cX5_held 22 = .ok (.invokestatic 51, 3) := by decide +kernel
theorem dX5_held_25 : decode cX5_held 25 = .ok (.ifCond .ne 6, 3) := by decide +kernel
theorem dX5_held_28 : decode cX5_held 28 = .ok (.bipush (-2), 2) := by decide +kernel
theorem dX5_held_30 : decode cX5_held 30 = .ok (.ireturn, 1) := by decide +kernel
theorem dX5_held_31 : decode cX5_held 31 = .ok (.aload_n 0, 1) := by decide +kernel
theorem dX5_held_32 : decode cX5_held 32 = .ok (.getfield 12, 3) := by decide +kernel
theorem dX5_held_35 : decode cX5_held 35 = .ok (.getfield 59, 3) := by decide +kernel
theorem dX5_held_38 : decode cX5_held 38 = .ok (.iload_n 1, 1) := by decide +kernel
theorem dX5_held_39 : decode cX5_held 39 = .ok (.aaload, 1) := by decide +kernel
theorem dX5_held_40 : decode cX5_held 40 = .ok (.astore 4, 2) := by decide +kernel
theorem dX5_held_42 : decode cX5_held 42 = .ok (.aload 4, 2) := by decide +kernel
theorem dX5_held_44 : decode cX5_held 44 = .ok (.getfield 161, 3) := by decide +kernel
theorem dX5_held_47 : decode cX5_held 47 = .ok (.iload_n 2, 1) := by decide +kernel
theorem dX5_held_48 : decode cX5_held 48 = .ok (.iaload, 1) := by decide +kernel
theorem dX5_held_49 : decode cX5_held 49 = .ok (.iconst (-1), 1) := by decide +kernel
theorem dX5_held_50 : decode cX5_held 50 = .ok (.if_icmp .ne 6, 3) := by decide +kernel
theorem dX5_held_53 : decode cX5_held 53 = .ok (.bipush (-5), 2) := by decide +kernel
theorem dX5_held_55 : decode cX5_held 55 = .ok (.ireturn, 1) := by decide +kernel
theorem dX5_held_56 : decode cX5_held 56 = .ok (.iload_n 3, 1) := by decide +kernel
theorem dX5_held_57 : decode cX5_held 57 = .ok (.lookupswitch 43 #[(0, 27), (1, 35)], 27) := by decide +kernel
theorem dX5_held_84 : decode cX5_held 84 = .ok (.aload 4, 2) := by decide +kernel
theorem dX5_held_86 : decode cX5_held 86 = .ok (.getfield 161, 3) := by decide +kernel
theorem dX5_held_89 : decode cX5_held 89 = .ok (.iload_n 2, 1) := by decide +kernel
theorem dX5_held_90 : decode cX5_held 90 = .ok (.iaload, 1) := by decide +kernel
theorem dX5_held_91 : decode cX5_held 91 = .ok (.ireturn, 1) := by decide +kernel
theorem dX5_held_92 : decode cX5_held 92 = .ok (.aload 4, 2) := by decide +kernel
theorem dX5_held_94 : decode cX5_held 94 = .ok (.getfield 164, 3) := by decide +kernel
theorem dX5_held_97 : decode cX5_held 97 = .ok (.iload_n 2, 1) := by decide +kernel
theorem dX5_held_98 : decode cX5_held 98 = .ok (.iaload, 1) := by decide +kernel
theorem dX5_held_99 : decode cX5_held 99 = .ok (.ireturn, 1) := by decide +kernel
theorem dX5_held_100 : decode cX5_held 100 = .ok (.aload 4, 2) := by decide +kernel
theorem dX5_held_102 : decode cX5_held 102 = .ok (.getfield 167, 3) := by decide +kernel
theorem dX5_held_105 : decode cX5_held 105 = .ok (.iload_n 2, 1) := by decide +kernel
theorem dX5_held_106 : decode cX5_held 106 = .ok (.baload, 1) := by decide +kernel
theorem dX5_held_107 : decode cX5_held 107 = .ok (.ifCond .eq 7, 3) := by decide +kernel
theorem dX5_held_110 : decode cX5_held 110 = .ok (.iconst 1, 1) := by decide +kernel
theorem dX5_held_111 : decode cX5_held 111 = .ok (.goto 4, 3) := by decide +kernel
theorem dX5_held_114 : decode cX5_held 114 = .ok (.iconst 0, 1) := by decide +kernel
theorem dX5_held_115 : decode cX5_held 115 = .ok (.ireturn, 1) := by decide +kernel
set_option maxRecDepth 20000 in
theorem ggX5_counter_X5_isCore : GoodIn wsX5_counter wsX5_isCore := goodIn_r _ [8, 9, 10, 7, 11] (by decide +kernel) (by decide +kernel)
set_option maxRecDepth 20000 in
theorem gX5_counter_X5_isCore : GoodIn wsX5_counter (va_wsS RX5 36 yX5_isCore wsX5_isCore) := goodIn_app (goodIn_of _ (by decide +kernel)) ggX5_counter_X5_isCore
set_option maxRecDepth 20000 in
theorem ggX5_counter_X5_isWithin : GoodIn wsX5_counter wsX5_isWithin := goodIn_r _ [11] (by decide +kernel) (by decide +kernel)
set_option maxRecDepth 20000 in
theorem gX5_counter_X5_isWithin : GoodIn wsX5_counter (va_wsS RX5 51 yX5_isWithin wsX5_isWithin) := goodIn_app (goodIn_of _ (by decide +kernel)) ggX5_counter_X5_isWithin
theorem dX5_counter_0 : decode cX5_counter 0 = .ok (.iload_n 1, 1) := by decide +kernel
theorem dX5_counter_1 : decode cX5_counter 1 = .ok (.invokestatic 36, 3) := by decide +kernel
theorem dX5_counter_4 : decode cX5_counter 4 = .ok (.ifCond .eq 13, 3) := by decide +kernel
theorem dX5_counter_7 : decode cX5_counter 7 = .ok (.iload_n 2, 1) := by decide +kernel
theorem dX5_counter_8 : decode cX5_counter 8 = .ok (.iconst 0, 1) := by decide +kernel
theorem dX5_counter_9 : decode cX5_counter 9 = .ok (.bipush 23, 2) := by decide +kernel
theorem dX5_counter_11 : decode cX5_counter 11 = .ok (.invokestatic 51, 3) := by decide +kernel
theorem dX5_counter_14 : decode cX5_counter 14 = .ok (.ifCond .ne 5, 3) := by decide +kernel
theorem dX5_counter_17 : decode cX5_counter 17 = .ok (.iconst (-1), 1) := by decide +kernel
theorem dX5_counter_18 : decode cX5_counter 18 = .ok (.ireturn, 1) := by decide +kernel
theorem dX5_counter_19 : decode cX5_counter 19 = .ok (.aload_n 0, 1) := by decide +kernel
theorem dX5_counter_20 : decode cX5_counter 20 = .ok (.getfield 12, 3) := by decide +kernel
theorem dX5_counter_23 : decode cX5_counter 23 = .ok (.getfield 59, 3) := by decide +kernel
theorem dX5_counter_26 : decode cX5_counter 26 = .ok (.iload_n 1, 1) := by decide +kernel
theorem dX5_counter_27 : decode cX5_counter 27 = .ok (.aaload, 1) := by decide +kernel
theorem dX5_counter_28 : decode cX5_counter 28 = .ok (.getfield 142, 3) := by decide +kernel
theorem dX5_counter_31 : decode cX5_counter 31 = .ok (.getfield 171, 3) := by decide +kernel
theorem dX5_counter_34 : decode cX5_counter 34 = .ok (.iload_n 2, 1) := by decide +kernel
theorem dX5_counter_35 : decode cX5_counter 35 = .ok (.iaload, 1) := by decide +kernel
theorem dX5_counter_36 : decode cX5_counter 36 = .ok (.ireturn, 1) := by decide +kernel
set_option maxRecDepth 20000 in
theorem ggX5_bit_X5_isCore : GoodIn wsX5_bit wsX5_isCore := goodIn_r _ [8, 9, 10, 7, 11] (by decide +kernel) (by decide +kernel)
set_option maxRecDepth 20000 in
theorem gX5_bit_X5_isCore : GoodIn wsX5_bit (va_wsS RX5 36 yX5_isCore wsX5_isCore) := goodIn_app (goodIn_of _ (by decide +kernel)) ggX5_bit_X5_isCore
set_option maxRecDepth 20000 in
theorem ggX5_bit_X5_isWithin : GoodIn wsX5_bit wsX5_isWithin := goodIn_r _ [11] (by decide +kernel) (by decide +kernel)
set_option maxRecDepth 20000 in
theorem gX5_bit_X5_isWithin : GoodIn wsX5_bit (va_wsS RX5 51 yX5_isWithin wsX5_isWithin) := goodIn_app (goodIn_of _ (by decide +kernel)) ggX5_bit_X5_isWithin
theorem dX5_bit_0 : decode cX5_bit 0 = .ok (.iload_n 1, 1) := by decide +kernel
theorem dX5_bit_1 : decode cX5_bit 1 = .ok (.invokestatic 36, 3) := by decide +kernel
theorem dX5_bit_4 : decode cX5_bit 4 = .ok (.ifCond .eq 13, 3) := by decide +kernel
theorem dX5_bit_7 : decode cX5_bit 7 = .ok (.iload_n 2, 1) := by decide +kernel
theorem dX5_bit_8 : decode cX5_bit 8 = .ok (.iconst 0, 1) := by decide +kernel
theorem dX5_bit_9 : decode cX5_bit 9 = .ok (.bipush 15, 2) := by decide +kernel
theorem dX5_bit_11 : decode cX5_bit 11 = .ok (.invokestatic 51, 3) := by decide +kernel
theorem dX5_bit_14 : decode cX5_bit 14 = .ok (.ifCond .ne 5, 3) := by decide +kernel
theorem dX5_bit_17 : decode cX5_bit 17 = .ok (.iconst (-1), 1) := by decide +kernel
theorem dX5_bit_18 : decode cX5_bit 18 = .ok (.ireturn, 1) := by decide +kernel
theorem dX5_bit_19 : decode cX5_bit 19 = .ok (.aload_n 0, 1) := by decide +kernel
theorem dX5_bit_20 : decode cX5_bit 20 = .ok (.getfield 12, 3) := by decide +kernel
theorem dX5_bit_23 : decode cX5_bit 23 = .ok (.getfield 59, 3) := by decide +kernel
theorem dX5_bit_26 : decode cX5_bit 26 = .ok (.iload_n 1, 1) := by decide +kernel
theorem dX5_bit_27 : decode cX5_bit 27 = .ok (.aaload, 1) := by decide +kernel
theorem dX5_bit_28 : decode cX5_bit 28 = .ok (.getfield 142, 3) := by decide +kernel
theorem dX5_bit_31 : decode cX5_bit 31 = .ok (.getfield 174, 3) := by decide +kernel
theorem dX5_bit_34 : decode cX5_bit 34 = .ok (.iload_n 2, 1) := by decide +kernel
theorem dX5_bit_35 : decode cX5_bit 35 = .ok (.baload, 1) := by decide +kernel
theorem dX5_bit_36 : decode cX5_bit 36 = .ok (.ifCond .eq 7, 3) := by decide +kernel
theorem dX5_bit_39 : decode cX5_bit 39 = .ok (.iconst 1, 1) := by decide +kernel
theorem dX5_bit_40 : decode cX5_bit 40 = .ok (.goto 4, 3) := by decide +kernel
theorem dX5_bit_43 : decode cX5_bit 43 = .ok (.iconst 0, 1) := by decide +kernel
theorem dX5_bit_44 : decode cX5_bit 44 = .ok (.ireturn, 1) := by decide +kernel
set_option maxRecDepth 20000 in
theorem ggX5_line_X5_isLine : GoodIn wsX5_line wsX5_isLine := goodIn_r _ [6, 7, 8, 5, 9] (by decide +kernel) (by decide +kernel)
set_option maxRecDepth 20000 in
theorem gX5_line_X5_isLine : GoodIn wsX5_line (va_wsS RX5 40 yX5_isLine wsX5_isLine) := goodIn_app (goodIn_of _ (by decide +kernel)) ggX5_line_X5_isLine
set_option maxRecDepth 20000 in
theorem ggX5_line_X3_valueForReader : GoodIn wsX5_line wsX3_valueForReader := goodIn_r _ [14, 15, 16, 17, 18, 19, 20, 21, 22, 23, 24, 25, 26, 27, 65, 66, 67, 68, 69, 70, 71, 72, 73, 74, 75] (by decide +kernel) (by decide +kernel)
set_option maxRecDepth 20000 in
theorem gX5_line_X3_valueForReader : GoodIn wsX5_line (wsV RX5 180 RX3 yX3_valueForReader wsX3_valueForReader) := goodIn_app (goodIn_of _ (by decide +kernel)) ggX5_line_X3_valueForReader
set_option maxRecDepth 20000 in
theorem ggX5_line_X3_holdersOf : GoodIn wsX5_line wsX3_holdersOf := goodIn_r _ [31, 15, 18, 19, 20, 21, 22, 23, 24, 25, 26, 65, 66, 67, 68, 69, 70, 71, 72, 73, 74, 75] (by decide +kernel) (by decide +kernel)
set_option maxRecDepth 20000 in
theorem gX5_line_X3_holdersOf : GoodIn wsX5_line (wsV RX5 183 RX3 yX3_holdersOf wsX3_holdersOf) := goodIn_app (goodIn_of _ (by decide +kernel)) ggX5_line_X3_holdersOf
set_option maxRecDepth 20000 in
theorem ggX5_line_X3_coresThatMayHave : GoodIn wsX5_line wsX3_coresThatMayHave := goodIn_r _ [35, 15, 36, 37, 38, 39, 40, 41, 42, 43, 44, 45, 46, 47, 48, 49, 50, 51, 52, 53, 65, 66, 67, 68, 69, 70, 71, 72, 73, 74, 75, 76, 77, 78] (by decide +kernel) (by decide +kernel)
set_option maxRecDepth 20000 in
theorem gX5_line_X3_coresThatMayHave : GoodIn wsX5_line (wsV RX5 186 RX3 yX3_coresThatMayHave wsX3_coresThatMayHave) := goodIn_app (goodIn_of _ (by decide +kernel)) ggX5_line_X3_coresThatMayHave
set_option maxRecDepth 20000 in
theorem ggX5_line_X1_firstCounter : GoodIn wsX5_line wsX1_firstCounter := goodIn_r _ [50] (by decide +kernel) (by decide +kernel)
set_option maxRecDepth 20000 in
theorem gX5_line_X1_firstCounter : GoodIn wsX5_line (va_wsS RX5 189 yX1_firstCounter wsX1_firstCounter) := goodIn_app (goodIn_of _ (by decide +kernel)) ggX5_line_X1_firstCounter
set_option maxRecDepth 20000 in
theorem ggX5_line_X1_secondCounter : GoodIn wsX5_line wsX1_secondCounter := goodIn_r _ [53] (by decide +kernel) (by decide +kernel)
set_option maxRecDepth 20000 in
theorem gX5_line_X1_secondCounter : GoodIn wsX5_line (va_wsS RX5 192 yX1_secondCounter wsX1_secondCounter) := goodIn_app (goodIn_of _ (by decide +kernel)) ggX5_line_X1_secondCounter
theorem dX5_line_0 : decode cX5_line 0 = .ok (.iload_n 1, 1) := by decide +kernel
theorem dX5_line_1 : decode cX5_line 1 = .ok (.invokestatic 40, 3) := by decide +kernel
theorem dX5_line_4 : decode cX5_line 4 = .ok (.ifCond .ne 5, 3) := by decide +kernel
theorem dX5_line_7 : decode cX5_line 7 = .ok (.iconst (-1), 1) := by decide +kernel
theorem dX5_line_8 : decode cX5_line 8 = .ok (.ireturn, 1) := by decide +kernel
theorem dX5_line_9 : decode cX5_line 9 = .ok (.iload_n 2, 1) := by decide +kernel
theorem dX5_line_10 : decode cX5_line 10 = .ok (.tableswitch 85 0 5 #[38, 48, 57, 66, 75, 80], 38) := by decide +kernel
theorem dX5_line_48 : decode cX5_line 48 = .ok (.aload_n 0, 1) := by decide +kernel
theorem dX5_line_49 : decode cX5_line 49 = .ok (.getfield 12, 3) := by decide +kernel
theorem dX5_line_52 : decode cX5_line 52 = .ok (.getfield 177, 3) := by decide +kernel
theorem dX5_line_55 : decode cX5_line 55 = .ok (.iload_n 1, 1) := by decide +kernel
theorem dX5_line_56 : decode cX5_line 56 = .ok (.iaload, 1) := by decide +kernel
theorem dX5_line_57 : decode cX5_line 57 = .ok (.ireturn, 1) := by decide +kernel
theorem dX5_line_58 : decode cX5_line 58 = .ok (.aload_n 0, 1) := by decide +kernel
theorem dX5_line_59 : decode cX5_line 59 = .ok (.getfield 12, 3) := by decide +kernel
theorem dX5_line_62 : decode cX5_line 62 = .ok (.iload_n 1, 1) := by decide +kernel
theorem dX5_line_63 : decode cX5_line 63 = .ok (.invokevirtual 180, 3) := by decide +kernel
theorem dX5_line_66 : decode cX5_line 66 = .ok (.ireturn, 1) := by decide +kernel
theorem dX5_line_67 : decode cX5_line 67 = .ok (.aload_n 0, 1) := by decide +kernel
theorem dX5_line_68 : decode cX5_line 68 = .ok (.getfield 12, 3) := by decide +kernel
theorem dX5_line_71 : decode cX5_line 71 = .ok (.iload_n 1, 1) := by decide +kernel
theorem dX5_line_72 : decode cX5_line 72 = .ok (.invokevirtual 183, 3) := by decide +kernel
theorem dX5_line_75 : decode cX5_line 75 = .ok (.ireturn, 1) := by decide +kernel
theorem dX5_line_76 : decode cX5_line 76 = .ok (.aload_n 0, 1) := by decide +kernel
theorem dX5_line_77 : decode cX5_line 77 = .ok (.getfield 12, 3) := by decide +kernel
theorem dX5_line_80 : decode cX5_line 80 = .ok (.iload_n 1, 1) := by decide +kernel
theorem dX5_line_81 : decode cX5_line 81 = .ok (.invokevirtual 186, 3) := by decide +kernel
theorem dX5_line_84 : decode cX5_line 84 = .ok (.ireturn, 1) := by decide +kernel
theorem dX5_line_85 : decode cX5_line 85 = .ok (.iload_n 1, 1) := by decide +kernel
theorem dX5_line_86 : decode cX5_line 86 = .ok (.invokestatic 189, 3) := by decide +kernel
theorem dX5_line_89 : decode cX5_line 89 = .ok (.ireturn, 1) := by decide +kernel
theorem dX5_line_90 : decode cX5_line 90 = .ok (.iload_n 1, 1) := by decide +kernel
theorem dX5_line_91 : decode cX5_line 91 = .ok (.invokestatic 192, 3) := by decide +kernel
theorem dX5_line_94 : decode cX5_line 94 = .ok (.ireturn, 1) := by decide +kernel
theorem dX5_line_95 : decode cX5_line 95 = .ok (.bipush (-2), 2) := by decide +kernel
theorem dX5_line_97 : decode cX5_line 97 = .ok (.ireturn, 1) := by decide +kernel
set_option maxRecDepth 20000 in
theorem ggX5_reason_X5_isCore : GoodIn wsX5_reason wsX5_isCore := goodIn_r _ [7, 8, 9, 6, 10] (by decide +kernel) (by decide +kernel)
set_option maxRecDepth 20000 in
theorem gX5_reason_X5_isCore : GoodIn wsX5_reason (va_wsS RX5 36 yX5_isCore wsX5_isCore) := goodIn_app (goodIn_of _ (by decide +kernel)) ggX5_reason_X5_isCore
set_option maxRecDepth 20000 in
theorem ggX5_reason_X5_isLine : GoodIn wsX5_reason wsX5_isLine := goodIn_r _ [13, 8, 9, 6, 10] (by decide +kernel) (by decide +kernel)
set_option maxRecDepth 20000 in
theorem gX5_reason_X5_isLine : GoodIn wsX5_reason (va_wsS RX5 40 yX5_isLine wsX5_isLine) := goodIn_app (goodIn_of _ (by decide +kernel)) ggX5_reason_X5_isLine
set_option maxRecDepth 20000 in
theorem ggX5_reason_X0_holds : GoodIn wsX5_reason wsX0_holds := goodIn_r _ [18, 19, 20, 21, 17, 22, 56, 57, 58, 59, 60] (by decide +kernel) (by decide +kernel)
set_option maxRecDepth 20000 in
theorem gX5_reason_X0_holds : GoodIn wsX5_reason (wsV RX5 63 RX0 yX0_holds wsX0_holds) := goodIn_app (goodIn_of _ (by decide +kernel)) ggX5_reason_X0_holds
set_option maxRecDepth 20000 in
theorem ggX5_reason_X1_mayHave : GoodIn wsX5_reason wsX1_mayHave := goodIn_r _ [27, 28, 29, 30, 31, 26, 32, 33, 34, 35, 36, 37, 38, 39, 61, 62, 63] (by decide +kernel) (by decide +kernel)
set_option maxRecDepth 20000 in
theorem gX5_reason_X1_mayHave : GoodIn wsX5_reason (wsV RX5 195 RX1 yX1_mayHave wsX1_mayHave) := goodIn_app (goodIn_of _ (by decide +kernel)) ggX5_reason_X1_mayHave
set_option maxRecDepth 20000 in
theorem ggX5_reason_X1_hasBitOf : GoodIn wsX5_reason wsX1_hasBitOf := goodIn_r _ [32, 33, 61, 62, 63] (by decide +kernel) (by decide +kernel)
set_option maxRecDepth 20000 in
theorem gX5_reason_X1_hasBitOf : GoodIn wsX5_reason (wsV RX5 198 RX1 yX1_hasBitOf wsX1_hasBitOf) := goodIn_app (goodIn_of _ (by decide +kernel)) ggX5_reason_X1_hasBitOf
theorem dX5_reason_0 : decode cX5_reason 0 = .ok (.iload_n 1, 1) := by decide +kernel
theorem dX5_reason_1 : decode cX5_reason 1 = .ok (.invokestatic 36, 3) := by decide +kernel
theorem dX5_reason_4 : decode cX5_reason 4 = .ok (.ifCond .eq 10, 3) := by decide +kernel
theorem dX5_reason_7 : decode cX5_reason 7 = .ok (.iload_n 2, 1) := by decide +kernel
theorem dX5_reason_8 : decode cX5_reason 8 = .ok (.invokestatic 40, 3) := by decide +kernel
theorem dX5_reason_11 : decode cX5_reason 11 = .ok (.ifCond .ne 5, 3) := by decide +kernel
theorem dX5_reason_14 : decode cX5_reason 14 = .ok (.iconst (-1), 1) := by decide +kernel
theorem dX5_reason_15 : decode cX5_reason 15 = .ok (.ireturn, 1) := by decide +kernel
theorem dX5_reason_16 : decode cX5_reason 16 = .ok (.aload_n 0, 1) := by decide +kernel
theorem dX5_reason_17 : decode cX5_reason 17 = .ok (.getfield 12, 3) := by decide +kernel
theorem dX5_reason_20 : decode cX5_reason 20 = .ok (.getfield 59, 3) := by decide +kernel
theorem dX5_reason_23 : decode cX5_reason 23 = .ok (.iload_n 1, 1) := by decide +kernel
theorem dX5_reason_24 : decode cX5_reason 24 = .ok (.aaload, 1) := by decide +kernel
theorem dX5_reason_25 : decode cX5_reason 25 = .ok (.astore_n 3, 1) := by decide +kernel
theorem dX5_reason_26 : decode cX5_reason 26 = .ok (.aload_n 3, 1) := by decide +kernel
theorem dX5_reason_27 : decode cX5_reason 27 = .ok (.iload_n 2, 1) := by decide +kernel
theorem dX5_reason_28 : decode cX5_reason 28 = .ok (.invokevirtual 63, 3) := by decide +kernel
theorem dX5_reason_31 : decode cX5_reason 31 = .ok (.ifCond .eq 5, 3) := by decide +kernel
theorem dX5_reason_34 : decode cX5_reason 34 = .ok (.iconst 0, 1) := by decide +kernel
theorem dX5_reason_35 : decode cX5_reason 35 = .ok (.ireturn, 1) := by decide +kernel
theorem dX5_reason_36 : decode cX5_reason 36 = .ok (.aload_n 3, 1) := by decide +kernel
theorem dX5_reason_37 : decode cX5_reason 37 = .ok (.getfield 142, 3) := by decide +kernel
theorem dX5_reason_40 : decode cX5_reason 40 = .ok (.iload_n 2, 1) := by decide +kernel
theorem dX5_reason_41 : decode cX5_reason 41 = .ok (.invokevirtual 195, 3) := by decide +kernel
theorem dX5_reason_44 : decode cX5_reason 44 = .ok (.ifCond .eq 5, 3) := by decide +kernel
theorem dX5_reason_47 : decode cX5_reason 47 = .ok (.iconst 1, 1) := by decide +kernel
theorem dX5_reason_48 : decode cX5_reason 48 = .ok (.ireturn, 1) := by decide +kernel
theorem dX5_reason_49 : decode cX5_reason 49 = .ok (.aload_n 3, 1) := by decide +kernel
theorem dX5_reason_50 : decode cX5_reason 50 = .ok (.getfield 142, 3) := by decide +kernel
theorem dX5_reason_53 : decode cX5_reason 53 = .ok (.iload_n 2, 1) := by decide +kernel
theorem dX5_reason_54 : decode cX5_reason 54 = .ok (.invokevirtual 198, 3) := by decide +kernel
theorem dX5_reason_57 : decode cX5_reason 57 = .ok (.ifCond .eq 7, 3) := by decide +kernel
theorem dX5_reason_60 : decode cX5_reason 60 = .ok (.iconst 3, 1) := by decide +kernel
theorem dX5_reason_61 : decode cX5_reason 61 = .ok (.goto 4, 3) := by decide +kernel
theorem dX5_reason_64 : decode cX5_reason 64 = .ok (.iconst 2, 1) := by decide +kernel
theorem dX5_reason_65 : decode cX5_reason 65 = .ok (.ireturn, 1) := by decide +kernel
set_option maxRecDepth 20000 in
theorem ggX5_cost_X5_isCore : GoodIn wsX5_cost wsX5_isCore := goodIn_r _ [7, 8, 9, 6, 10] (by decide +kernel) (by decide +kernel)
set_option maxRecDepth 20000 in
theorem gX5_cost_X5_isCore : GoodIn wsX5_cost (va_wsS RX5 36 yX5_isCore wsX5_isCore) := goodIn_app (goodIn_of _ (by decide +kernel)) ggX5_cost_X5_isCore
set_option maxRecDepth 20000 in
theorem ggX5_cost_X5_isLine : GoodIn wsX5_cost wsX5_isLine := goodIn_r _ [13, 8, 9, 6, 10] (by decide +kernel) (by decide +kernel)
set_option maxRecDepth 20000 in
theorem gX5_cost_X5_isLine : GoodIn wsX5_cost (va_wsS RX5 40 yX5_isLine wsX5_isLine) := goodIn_app (goodIn_of _ (by decide +kernel)) ggX5_cost_X5_isLine
set_option maxRecDepth 20000 in
theorem ggX5_cost_X5_isWithin : GoodIn wsX5_cost wsX5_isWithin := goodIn_r _ [10] (by decide +kernel) (by decide +kernel)
set_option maxRecDepth 20000 in
theorem gX5_cost_X5_isWithin : GoodIn wsX5_cost (va_wsS RX5 51 yX5_isWithin wsX5_isWithin) := goodIn_app (goodIn_of _ (by decide +kernel)) ggX5_cost_X5_isWithin
set_option maxRecDepth 20000 in
theorem ggX5_cost_X3_copyFrom : GoodIn wsX5_cost wsX3_copyFrom := goodIn_r _ [18, 19, 20, 21, 22, 23, 24, 25, 26, 27, 28, 29, 30, 31, 32, 33, 34, 35, 36, 37, 38, 39, 40, 41, 42, 43, 44, 45, 46, 47, 48, 163, 164, 165, 166, 167, 168, 169, 170, 171, 172, 173, 174, 175, 176] (by decide +kernel) (by decide +kernel)
set_option maxRecDepth 20000 in
theorem gX5_cost_X3_copyFrom : GoodIn wsX5_cost (wsV RX5 97 RX3 yX3_copyFrom wsX3_copyFrom) := goodIn_app (goodIn_of _ (by decide +kernel)) ggX5_cost_X3_copyFrom
set_option maxRecDepth 20000 in
theorem ggX5_cost_X3_writeLine : GoodIn wsX5_cost wsX3_writeLine := goodIn_r _ [52, 24, 28, 53, 54, 55, 32, 56, 37, 57, 58, 59, 60, 34, 61, 62, 63, 64, 65, 66, 17, 67, 68, 69, 70, 71, 39, 38, 72, 73, 74, 43, 75, 45, 76, 77, 78, 79, 48, 80, 81, 82, 83, 84, 85, 86, 87, 88, 89, 90, 91, 92, 93, 94, 95, 96, 97, 98, 47, 99, 100, 101, 102, 103, 104, 105, 106, 36, 107, 108, 109, 110, 111, 112, 113, 114, 115, 116, 117, 19, 118, 27, 119, 120, 121, 122, 123, 25, 26, 124, 125, 126, 127, 128, 129, 130, 131, 132, 133, 134, 135, 136, 137, 138, 139, 140, 141, 142, 143, 144, 145, 163, 164, 165, 166, 167, 168, 169, 170, 171, 172, 173, 174, 175, 176] (by decide +kernel) (by decide +kernel)
set_option maxRecDepth 20000 in
theorem gX5_cost_X3_writeLine : GoodIn wsX5_cost (wsV RX5 55 RX3 yX3_writeLine wsX3_writeLine) := goodIn_app (goodIn_of _ (by decide +kernel)) ggX5_cost_X3_writeLine
set_option maxRecDepth 20000 in
theorem ggX5_cost_X3_readLine : GoodIn wsX5_cost wsX3_readLine := goodIn_r _ [149, 24, 140, 118, 19, 107, 62, 32, 63, 86, 58, 59, 60, 34, 61, 68, 69, 70, 71, 39, 38, 72, 73, 74, 43, 75, 45, 76, 77, 78, 79, 48, 80, 81, 82, 83, 84, 85, 57, 113, 114, 115, 17, 116, 112, 117, 27, 108, 109, 110, 111, 87, 88, 89, 90, 91, 92, 93, 94, 95, 96, 97, 98, 47, 99, 100, 101, 102, 37, 119, 120, 121, 122, 123, 25, 26, 103, 104, 105, 106, 36, 124, 125, 126, 127, 128, 129, 130, 131, 132, 133, 134, 135, 136, 137, 138, 139, 141, 142, 143, 144, 145, 163, 164, 165, 166, 167, 168, 169, 170, 171, 172, 173, 174, 175, 176] (by decide +kernel) (by decide +kernel)
set_option maxRecDepth 20000 in
theorem gX5_cost_X3_readLine : GoodIn wsX5_cost (wsV RX5 47 RX3 yX3_readLine wsX3_readLine) := goodIn_app (goodIn_of _ (by decide +kernel)) ggX5_cost_X3_readLine
set_option maxRecDepth 20000 in
theorem ggX5_cost_X3_sumOf : GoodIn wsX5_cost wsX3_sumOf := goodIn_r _ [153, 24, 140, 163, 164, 165, 166, 167, 168, 169, 170, 171, 172, 173] (by decide +kernel) (by decide +kernel)
set_option maxRecDepth 20000 in
theorem gX5_cost_X3_sumOf : GoodIn wsX5_cost (wsV RX5 201 RX3 yX3_sumOf wsX3_sumOf) := goodIn_app (goodIn_of _ (by decide +kernel)) ggX5_cost_X3_sumOf
theorem dX5_cost_0 : decode cX5_cost 0 = .ok (.iload_n 1, 1) := by decide +kernel
theorem dX5_cost_1 : decode cX5_cost 1 = .ok (.invokestatic 36, 3) := by decide +kernel
theorem dX5_cost_4 : decode cX5_cost 4 = .ok (.ifCond .eq 10, 3) := by decide +kernel
theorem dX5_cost_7 : decode cX5_cost 7 = .ok (.iload_n 2, 1) := by decide +kernel
theorem dX5_cost_8 : decode cX5_cost 8 = .ok (.invokestatic 40, 3) := by decide +kernel
theorem dX5_cost_11 : decode cX5_cost 11 = .ok (.ifCond .ne 5, 3) := by decide +kernel
theorem dX5_cost_14 : decode cX5_cost 14 = .ok (.iconst (-1), 1) := by decide +kernel
theorem dX5_cost_15 : decode cX5_cost 15 = .ok (.ireturn, 1) := by decide +kernel
theorem dX5_cost_16 : decode cX5_cost 16 = .ok (.iload 4, 2) := by decide +kernel
theorem dX5_cost_18 : decode cX5_cost 18 = .ok (.iconst 0, 1) := by decide +kernel
theorem dX5_cost_19 : decode cX5_cost 19 = .ok (.iconst 3, 1) := by decide +kernel
theorem dX5_cost_20 : decode cX5_cost 20 = .ok (.invokestatic 51, 3) := by decide +kernel
theorem dX5_cost_23 : decode cX5_cost 23 = .ok (.ifCond .ne 6, 3) := by decide +kernel
theorem dX5_cost_26 : decode cX5_cost 26 = .ok (.bipush (-2), 2) := by decide +kernel
theorem dX5_cost_28 : decode cX5_cost 28 = .ok (.ireturn, 1) := by decide +kernel
theorem dX5_cost_29 : decode cX5_cost 29 = .ok (.aload_n 0, 1) := by decide +kernel
theorem dX5_cost_30 : decode cX5_cost 30 = .ok (.getfield 16, 3) := by decide +kernel
theorem dX5_cost_33 : decode cX5_cost 33 = .ok (.aload_n 0, 1) := by decide +kernel
theorem dX5_cost_34 : decode cX5_cost 34 = .ok (.getfield 12, 3) := by decide +kernel
theorem dX5_cost_37 : decode cX5_cost 37 = .ok (.invokevirtual 97, 3) := by decide +kernel
theorem dX5_cost_40 : decode cX5_cost 40 = .ok (.iload_n 3, 1) := by decide +kernel
theorem dX5_cost_41 : decode cX5_cost 41 = .ok (.ifCond .eq 17, 3) := by decide +kernel
theorem dX5_cost_44 : decode cX5_cost 44 = .ok (.aload_n 0, 1) := by decide +kernel
theorem dX5_cost_45 : decode cX5_cost 45 = .ok (.getfield 16, 3) := by decide +kernel
theorem dX5_cost_48 : decode cX5_cost 48 = .ok (.iload_n 1, 1) := by decide +kernel
theorem dX5_cost_49 : decode cX5_cost 49 = .ok (.iload_n 2, 1) := by decide +kernel
theorem dX5_cost_50 : decode cX5_cost 50 = .ok (.iconst 0, 1) := by decide +kernel
theorem dX5_cost_51 : decode cX5_cost 51 = .ok (.invokevirtual 55, 3) := by decide +kernel
theorem dX5_cost_54 : decode cX5_cost 54 = .ok (.pop, 1) := by decide +kernel
theorem dX5_cost_55 : decode cX5_cost 55 = .ok (.goto 13, 3) := by decide +kernel
theorem dX5_cost_58 : decode cX5_cost 58 = .ok (.aload_n 0, 1) := by decide +kernel
theorem dX5_cost_59 : decode cX5_cost 59 = .ok (.getfield 16, 3) := by decide +kernel
theorem dX5_cost_62 : decode cX5_cost 62 = .ok (.iload_n 1, 1) := by decide +kernel
theorem dX5_cost_63 : decode cX5_cost 63 = .ok (.iload_n 2, 1) := by decide +kernel
theorem dX5_cost_64 : decode cX5_cost 64 = .ok (.invokevirtual 47, 3) := by decide +kernel
theorem dX5_cost_67 : decode cX5_cost 67 = .ok (.pop, 1) := by decide +kernel
theorem dX5_cost_68 : decode cX5_cost 68 = .ok (.iload 4, 2) := by decide +kernel
theorem dX5_cost_70 : decode cX5_cost 70 = .ok (.tableswitch 78 0 2 #[26, 44, 62], 26) := by decide +kernel
theorem dX5_cost_96 : decode cX5_cost 96 = .ok (.aload_n 0, 1) := by decide +kernel
theorem dX5_cost_97 : decode cX5_cost 97 = .ok (.getfield 16, 3) := by decide +kernel
theorem dX5_cost_100 : decode cX5_cost 100 = .ok (.iconst 2, 1) := by decide +kernel
theorem dX5_cost_101 : decode cX5_cost 101 = .ok (.invokevirtual 201, 3) := by decide +kernel
theorem dX5_cost_104 : decode cX5_cost 104 = .ok (.aload_n 0, 1) := by decide +kernel
theorem dX5_cost_105 : decode cX5_cost 105 = .ok (.getfield 12, 3) := by decide +kernel
theorem dX5_cost_108 : decode cX5_cost 108 = .ok (.iconst 2, 1) := by decide +kernel
theorem dX5_cost_109 : decode cX5_cost 109 = .ok (.invokevirtual 201, 3) := by decide +kernel
theorem dX5_cost_112 : decode cX5_cost 112 = .ok (.isub, 1) := by decide +kernel
theorem dX5_cost_113 : decode cX5_cost 113 = .ok (.ireturn, 1) := by decide +kernel
theorem dX5_cost_114 : decode cX5_cost 114 = .ok (.aload_n 0, 1) := by decide +kernel
theorem dX5_cost_115 : decode cX5_cost 115 = .ok (.getfield 16, 3) := by decide +kernel
theorem dX5_cost_118 : decode cX5_cost 118 = .ok (.iconst 3, 1) := by decide +kernel
theorem dX5_cost_119 : decode cX5_cost 119 = .ok (.invokevirtual 201, 3) := by decide +kernel
theorem dX5_cost_122 : decode cX5_cost 122 = .ok (.aload_n 0, 1) := by decide +kernel
theorem dX5_cost_123 : decode cX5_cost 123 = .ok (.getfield 12, 3) := by decide +kernel
theorem dX5_cost_126 : decode cX5_cost 126 = .ok (.iconst 3, 1) := by decide +kernel
theorem dX5_cost_127 : decode cX5_cost 127 = .ok (.invokevirtual 201, 3) := by decide +kernel
theorem dX5_cost_130 : decode cX5_cost 130 = .ok (.isub, 1) := by decide +kernel
theorem dX5_cost_131 : decode cX5_cost 131 = .ok (.ireturn, 1) := by decide +kernel
theorem dX5_cost_132 : decode cX5_cost 132 = .ok (.aload_n 0, 1) := by decide +kernel
theorem dX5_cost_133 : decode cX5_cost 133 = .ok (.getfield 16, 3) := by decide +kernel
theorem dX5_cost_136 : decode cX5_cost 136 = .ok (.getfield 204, 3) := by decide +kernel
theorem dX5_cost_139 : decode cX5_cost 139 = .ok (.aload_n 0, 1) := by decide +kernel
theorem dX5_cost_140 : decode cX5_cost 140 = .ok (.getfield 12, 3) := by decide +kernel
theorem dX5_cost_143 : decode cX5_cost 143 = .ok (.getfield 204, 3) := by decide +kernel
theorem dX5_cost_146 : decode cX5_cost 146 = .ok (.isub, 1) := by decide +kernel
theorem dX5_cost_147 : decode cX5_cost 147 = .ok (.ireturn, 1) := by decide +kernel
theorem dX5_cost_148 : decode cX5_cost 148 = .ok (.aload_n 0, 1) := by decide +kernel
theorem dX5_cost_149 : decode cX5_cost 149 = .ok (.getfield 16, 3) := by decide +kernel
theorem dX5_cost_152 : decode cX5_cost 152 = .ok (.iconst 5, 1) := by decide +kernel
theorem dX5_cost_153 : decode cX5_cost 153 = .ok (.invokevirtual 201, 3) := by decide +kernel
theorem dX5_cost_156 : decode cX5_cost 156 = .ok (.aload_n 0, 1) := by decide +kernel
theorem dX5_cost_157 : decode cX5_cost 157 = .ok (.getfield 12, 3) := by decide +kernel
theorem dX5_cost_160 : decode cX5_cost 160 = .ok (.iconst 5, 1) := by decide +kernel
theorem dX5_cost_161 : decode cX5_cost 161 = .ok (.invokevirtual 201, 3) := by decide +kernel
theorem dX5_cost_164 : decode cX5_cost 164 = .ok (.isub, 1) := by decide +kernel
theorem dX5_cost_165 : decode cX5_cost 165 = .ok (.ireturn, 1) := by decide +kernel
theorem dX5_worst_0 : decode cX5_worst 0 = .ok (.bipush (-5), 2) := by decide +kernel
theorem dX5_worst_2 : decode cX5_worst 2 = .ok (.istore_n 1, 1) := by decide +kernel
theorem dX5_worst_3 : decode cX5_worst 3 = .ok (.iconst 0, 1) := by decide +kernel
theorem dX5_worst_4 : decode cX5_worst 4 = .ok (.istore_n 2, 1) := by decide +kernel
theorem dX5_worst_5 : decode cX5_worst 5 = .ok (.iconst 0, 1) := by decide +kernel
theorem dX5_worst_6 : decode cX5_worst 6 = .ok (.istore_n 3, 1) := by decide +kernel
theorem dX5_worst_7 : decode cX5_worst 7 = .ok (.iload_n 3, 1) := by decide +kernel
theorem dX5_worst_8 : decode cX5_worst 8 = .ok (.iconst 4, 1) := by decide +kernel
theorem dX5_worst_9 : decode cX5_worst 9 = .ok (.if_icmp .ge 36, 3) := by decide +kernel
theorem dX5_worst_12 : decode cX5_worst 12 = .ok (.aload_n 0, 1) := by decide +kernel
theorem dX5_worst_13 : decode cX5_worst 13 = .ok (.getfield 12, 3) := by decide +kernel
theorem dX5_worst_16 : decode cX5_worst 16 = .ok (.getfield 59, 3) := by decide +kernel
theorem dX5_worst_19 : decode cX5_worst 19 = .ok (.iload_n 3, 1) := by decide +kernel
theorem dX5_worst_20 : decode cX5_worst 20 = .ok (.aaload, 1) := by decide +kernel
theorem dX5_worst_21 : decode cX5_worst 21 = .ok (.getfield 157, 3) := by decide +kernel
theorem dX5_worst_24 : decode cX5_worst 24 = .ok (.iconst 3, 1) := by decide +kernel
theorem dX5_worst_25 : decode cX5_worst 25 = .ok (.iaload, 1) := by decide +kernel
theorem dX5_worst_26 : decode cX5_worst 26 = .ok (.istore 4, 2) := by decide +kernel
theorem dX5_worst_28 : decode cX5_worst 28 = .ok (.iload 4, 2) := by decide +kernel
theorem dX5_worst_30 : decode cX5_worst 30 = .ok (.iload_n 2, 1) := by decide +kernel
theorem dX5_worst_31 : decode cX5_worst 31 = .ok (.if_icmp .le 8, 3) := by decide +kernel
theorem dX5_worst_34 : decode cX5_worst 34 = .ok (.iload 4, 2) := by decide +kernel
theorem dX5_worst_36 : decode cX5_worst 36 = .ok (.istore_n 2, 1) := by decide +kernel
theorem dX5_worst_37 : decode cX5_worst 37 = .ok (.iload_n 3, 1) := by decide +kernel
theorem dX5_worst_38 : decode cX5_worst 38 = .ok (.istore_n 1, 1) := by decide +kernel
theorem dX5_worst_39 : decode cX5_worst 39 = .ok (.iinc 3 1, 3) := by decide +kernel
theorem dX5_worst_42 : decode cX5_worst 42 = .ok (.goto (-35), 3) := by decide +kernel
theorem dX5_worst_45 : decode cX5_worst 45 = .ok (.iload_n 1, 1) := by decide +kernel
theorem dX5_worst_46 : decode cX5_worst 46 = .ok (.ireturn, 1) := by decide +kernel
set_option maxRecDepth 20000 in
theorem ggX5_count_X3_heldByAll : GoodIn wsX5_count wsX3_heldByAll := goodIn_r _ [14, 15, 16, 17, 18, 19, 20, 21, 48, 49, 50, 51, 52, 53, 65, 66, 67, 68, 69] (by decide +kernel) (by decide +kernel)
set_option maxRecDepth 20000 in
theorem gX5_count_X3_heldByAll : GoodIn wsX5_count (wsV RX5 133 RX3 yX3_heldByAll wsX3_heldByAll) := goodIn_app (goodIn_of _ (by decide +kernel)) ggX5_count_X3_heldByAll
set_option maxRecDepth 20000 in
theorem ggX5_count_X3_dirtyOfAll : GoodIn wsX5_count wsX3_dirtyOfAll := goodIn_r _ [25, 15, 26, 27, 28, 19, 29, 30, 31, 32, 33, 48, 49, 50, 51, 52, 53, 65, 66, 67, 68, 69] (by decide +kernel) (by decide +kernel)
set_option maxRecDepth 20000 in
theorem gX5_count_X3_dirtyOfAll : GoodIn wsX5_count (wsV RX5 207 RX3 yX3_dirtyOfAll wsX3_dirtyOfAll) := goodIn_app (goodIn_of _ (by decide +kernel)) ggX5_count_X3_dirtyOfAll
set_option maxRecDepth 20000 in
theorem ggX5_count_X3_sumOf : GoodIn wsX5_count wsX3_sumOf := goodIn_r _ [37, 15, 38, 48, 49, 50, 51, 52, 53, 65, 66, 67, 68, 69] (by decide +kernel) (by decide +kernel)
set_option maxRecDepth 20000 in
theorem gX5_count_X3_sumOf : GoodIn wsX5_count (wsV RX5 201 RX3 yX3_sumOf wsX3_sumOf) := goodIn_app (goodIn_of _ (by decide +kernel)) ggX5_count_X3_sumOf
theorem dX5_count_0 : decode cX5_count 0 = .ok (.iload_n 1, 1) := by decide +kernel
theorem dX5_count_1 : decode cX5_count 1 = .ok (.tableswitch 189 0 13 #[71, 79, 87, 96, 105, 114, 122, 131, 140, 149, 157, 165, 173, 181], 71) := by decide +kernel
theorem dX5_count_72 : decode cX5_count 72 = .ok (.aload_n 0, 1) := by decide +kernel
theorem dX5_count_73 : decode cX5_count 73 = .ok (.getfield 12, 3) := by decide +kernel
theorem dX5_count_76 : decode cX5_count 76 = .ok (.invokevirtual 133, 3) := by decide +kernel
theorem dX5_count_79 : decode cX5_count 79 = .ok (.ireturn, 1) := by decide +kernel
theorem dX5_count_80 : decode cX5_count 80 = .ok (.aload_n 0, 1) := by decide +kernel
theorem dX5_count_81 : decode cX5_count 81 = .ok (.getfield 12, 3) := by decide +kernel
theorem dX5_count_84 : decode cX5_count 84 = .ok (.invokevirtual 207, 3) := by decide +kernel
theorem dX5_count_87 : decode cX5_count 87 = .ok (.ireturn, 1) := by decide +kernel
theorem dX5_count_88 : decode cX5_count 88 = .ok (.aload_n 0, 1) := by decide +kernel
theorem dX5_count_89 : decode cX5_count 89 = .ok (.getfield 12, 3) := by decide +kernel
theorem dX5_count_92 : decode cX5_count 92 = .ok (.iconst 2, 1) := by decide +kernel
theorem dX5_count_93 : decode cX5_count 93 = .ok (.invokevirtual 201, 3) := by decide +kernel
theorem dX5_count_96 : decode cX5_count 96 = .ok (.ireturn, 1) := by decide +kernel
theorem dX5_count_97 : decode cX5_count 97 = .ok (.aload_n 0, 1) := by decide +kernel
theorem dX5_count_98 : decode cX5_count 98 = .ok (.getfield 12, 3) := by decide +kernel
theorem dX5_count_101 : decode cX5_count 101 = .ok (.iconst 3, 1) := by decide +kernel
theorem dX5_count_102 : decode cX5_count 102 = .ok (.invokevirtual 201, 3) := by decide +kernel
theorem dX5_count_105 : decode cX5_count 105 = .ok (.ireturn, 1) := by decide +kernel
theorem dX5_count_106 : decode cX5_count 106 = .ok (.aload_n 0, 1) := by decide +kernel
theorem dX5_count_107 : decode cX5_count 107 = .ok (.getfield 12, 3) := by decide +kernel
theorem dX5_count_110 : decode cX5_count 110 = .ok (.iconst 4, 1) := by decide +kernel
theorem dX5_count_111 : decode cX5_count 111 = .ok (.invokevirtual 201, 3) := by decide +kernel
theorem dX5_count_114 : decode cX5_count 114 = .ok (.ireturn, 1) := by decide +kernel
theorem dX5_count_115 : decode cX5_count 115 = .ok (.aload_n 0, 1) := by decide +kernel
theorem dX5_count_116 : decode cX5_count 116 = .ok (.getfield 12, 3) := by decide +kernel
theorem dX5_count_119 : decode cX5_count 119 = .ok (.getfield 204, 3) := by decide +kernel
theorem dX5_count_122 : decode cX5_count 122 = .ok (.ireturn, 1) := by decide +kernel
theorem dX5_count_123 : decode cX5_count 123 = .ok (.aload_n 0, 1) := by decide +kernel
theorem dX5_count_124 : decode cX5_count 124 = .ok (.getfield 12, 3) := by decide +kernel
theorem dX5_count_127 : decode cX5_count 127 = .ok (.iconst 5, 1) := by decide +kernel
theorem dX5_count_128 : decode cX5_count 128 = .ok (.invokevirtual 201, 3) := by decide +kernel
theorem dX5_count_131 : decode cX5_count 131 = .ok (.ireturn, 1) := by decide +kernel
theorem dX5_count_132 : decode cX5_count 132 = .ok (.aload_n 0, 1) := by decide +kernel
theorem dX5_count_133 : decode cX5_count 133 = .ok (.getfield 12, 3) := by decide +kernel
theorem dX5_count_136 : decode cX5_count 136 = .ok (.iconst 0, 1) := by decide +kernel
theorem dX5_count_137 : decode cX5_count 137 = .ok (.invokevirtual 201, 3) := by decide +kernel
theorem dX5_count_140 : decode cX5_count 140 = .ok (.ireturn, 1) := by decide +kernel
theorem dX5_count_141 : decode cX5_count 141 = .ok (.aload_n 0, 1) := by decide +kernel
theorem dX5_count_142 : decode cX5_count 142 = .ok (.getfield 12, 3) := by decide +kernel
theorem dX5_count_145 : decode cX5_count 145 = .ok (.iconst 1, 1) := by decide +kernel
theorem dX5_count_146 : decode cX5_count 146 = .ok (.invokevirtual 201, 3) := by decide +kernel
theorem dX5_count_149 : decode cX5_count 149 = .ok (.ireturn, 1) := by decide +kernel
theorem dX5_count_150 : decode cX5_count 150 = .ok (.aload_n 0, 1) := by decide +kernel
theorem dX5_count_151 : decode cX5_count 151 = .ok (.getfield 12, 3) := by decide +kernel
theorem dX5_count_154 : decode cX5_count 154 = .ok (.getfield 210, 3) := by decide +kernel
theorem dX5_count_157 : decode cX5_count 157 = .ok (.ireturn, 1) := by decide +kernel
theorem dX5_count_158 : decode cX5_count 158 = .ok (.aload_n 0, 1) := by decide +kernel
theorem dX5_count_159 : decode cX5_count 159 = .ok (.getfield 12, 3) := by decide +kernel
theorem dX5_count_162 : decode cX5_count 162 = .ok (.getfield 79, 3) := by decide +kernel
theorem dX5_count_165 : decode cX5_count 165 = .ok (.ireturn, 1) := by decide +kernel
theorem dX5_count_166 : decode cX5_count 166 = .ok (.aload_n 0, 1) := by decide +kernel
theorem dX5_count_167 : decode cX5_count 167 = .ok (.getfield 12, 3) := by decide +kernel
theorem dX5_count_170 : decode cX5_count 170 = .ok (.getfield 83, 3) := by decide +kernel
theorem dX5_count_173 : decode cX5_count 173 = .ok (.ireturn, 1) := by decide +kernel
theorem dX5_count_174 : decode cX5_count 174 = .ok (.aload_n 0, 1) := by decide +kernel
theorem dX5_count_175 : decode cX5_count 175 = .ok (.getfield 25, 3) := by decide +kernel
theorem dX5_count_178 : decode cX5_count 178 = .ok (.getfield 124, 3) := by decide +kernel
theorem dX5_count_181 : decode cX5_count 181 = .ok (.ireturn, 1) := by decide +kernel
theorem dX5_count_182 : decode cX5_count 182 = .ok (.aload_n 0, 1) := by decide +kernel
theorem dX5_count_183 : decode cX5_count 183 = .ok (.getfield 32, 3) := by decide +kernel
theorem dX5_count_186 : decode cX5_count 186 = .ok (.getfield 90, 3) := by decide +kernel
theorem dX5_count_189 : decode cX5_count 189 = .ok (.ireturn, 1) := by decide +kernel
theorem dX5_count_190 : decode cX5_count 190 = .ok (.bipush (-2), 2) := by decide +kernel
theorem dX5_count_192 : decode cX5_count 192 = .ok (.ireturn, 1) := by decide +kernel
theorem dX5_isWithin_0 : decode cX5_isWithin 0 = .ok (.iload_n 0, 1) := by decide +kernel
theorem dX5_isWithin_1 : decode cX5_isWithin 1 = .ok (.iload_n 1, 1) := by decide +kernel
theorem dX5_isWithin_2 : decode cX5_isWithin 2 = .ok (.if_icmp .lt 12, 3) := by decide +kernel
theorem dX5_isWithin_5 : decode cX5_isWithin 5 = .ok (.iload_n 0, 1) := by decide +kernel
theorem dX5_isWithin_6 : decode cX5_isWithin 6 = .ok (.iload_n 2, 1) := by decide +kernel
theorem dX5_isWithin_7 : decode cX5_isWithin 7 = .ok (.if_icmp .gt 7, 3) := by decide +kernel
theorem dX5_isWithin_10 : decode cX5_isWithin 10 = .ok (.iconst 1, 1) := by decide +kernel
theorem dX5_isWithin_11 : decode cX5_isWithin 11 = .ok (.goto 4, 3) := by decide +kernel
theorem dX5_isWithin_14 : decode cX5_isWithin 14 = .ok (.iconst 0, 1) := by decide +kernel
theorem dX5_isWithin_15 : decode cX5_isWithin 15 = .ok (.ireturn, 1) := by decide +kernel
set_option maxRecDepth 20000 in
theorem ggX5_isCore_X5_isWithin : GoodIn wsX5_isCore wsX5_isWithin := goodIn_r _ [4] (by decide +kernel) (by decide +kernel)
set_option maxRecDepth 20000 in
theorem gX5_isCore_X5_isWithin : GoodIn wsX5_isCore (va_wsS RX5 51 yX5_isWithin wsX5_isWithin) := goodIn_app (goodIn_of _ (by decide +kernel)) ggX5_isCore_X5_isWithin
theorem dX5_isCore_0 : decode cX5_isCore 0 = .ok (.iload_n 0, 1) := by decide +kernel
theorem dX5_isCore_1 : decode cX5_isCore 1 = .ok (.iconst 0, 1) := by decide +kernel
theorem dX5_isCore_2 : decode cX5_isCore 2 = .ok (.iconst 3, 1) := by decide +kernel
theorem dX5_isCore_3 : decode cX5_isCore 3 = .ok (.invokestatic 51, 3) := by decide +kernel
theorem dX5_isCore_6 : decode cX5_isCore 6 = .ok (.ireturn, 1) := by decide +kernel
set_option maxRecDepth 20000 in
theorem ggX5_isLine_X5_isWithin : GoodIn wsX5_isLine wsX5_isWithin := goodIn_r _ [4] (by decide +kernel) (by decide +kernel)
set_option maxRecDepth 20000 in
theorem gX5_isLine_X5_isWithin : GoodIn wsX5_isLine (va_wsS RX5 51 yX5_isWithin wsX5_isWithin) := goodIn_app (goodIn_of _ (by decide +kernel)) ggX5_isLine_X5_isWithin
theorem dX5_isLine_0 : decode cX5_isLine 0 = .ok (.iload_n 0, 1) := by decide +kernel
theorem dX5_isLine_1 : decode cX5_isLine 1 = .ok (.iconst 0, 1) := by decide +kernel
theorem dX5_isLine_2 : decode cX5_isLine 2 = .ok (.sipush 255, 3) := by decide +kernel
theorem dX5_isLine_5 : decode cX5_isLine 5 = .ok (.invokestatic 51, 3) := by decide +kernel
theorem dX5_isLine_8 : decode cX5_isLine 8 = .ok (.ireturn, 1) := by decide +kernel
theorem dX5_howManyAreTrue_0 : decode cX5_howManyAreTrue 0 = .ok (.iconst 0, 1) := by decide +kernel
theorem dX5_howManyAreTrue_1 : decode cX5_howManyAreTrue 1 = .ok (.istore_n 1, 1) := by decide +kernel
theorem dX5_howManyAreTrue_2 : decode cX5_howManyAreTrue 2 = .ok (.aload_n 0, 1) := by decide +kernel
theorem dX5_howManyAreTrue_3 : decode cX5_howManyAreTrue 3 = .ok (.astore_n 2, 1) := by decide +kernel
theorem dX5_howManyAreTrue_4 : decode cX5_howManyAreTrue 4 = .ok (.aload_n 2, 1) := by decide +kernel
theorem dX5_howManyAreTrue_5 : decode cX5_howManyAreTrue 5 = .ok (.arraylength, 1) := by decide +kernel
theorem dX5_howManyAreTrue_6 : decode cX5_howManyAreTrue 6 = .ok (.istore_n 3, 1) := by decide +kernel
theorem dX5_howManyAreTrue_7 : decode cX5_howManyAreTrue 7 = .ok (.iconst 0, 1) := by decide +kernel
theorem dX5_howManyAreTrue_8 : decode cX5_howManyAreTrue 8 = .ok (.istore 4, 2) := by decide +kernel
theorem dX5_howManyAreTrue_10 : decode cX5_howManyAreTrue 10 = .ok (.iload 4, 2) := by decide +kernel
theorem dX5_howManyAreTrue_12 : decode cX5_howManyAreTrue 12 = .ok (.iload_n 3, 1) := by decide +kernel
theorem dX5_howManyAreTrue_13 : decode cX5_howManyAreTrue 13 = .ok (.if_icmp .ge 23, 3) := by decide +kernel
theorem dX5_howManyAreTrue_16 : decode cX5_howManyAreTrue 16 = .ok (.aload_n 2, 1) := by decide +kernel
theorem dX5_howManyAreTrue_17 : decode cX5_howManyAreTrue 17 = .ok (.iload 4, 2) := by decide +kernel
theorem dX5_howManyAreTrue_19 : decode cX5_howManyAreTrue 19 = .ok (.baload, 1) := by decide +kernel
theorem dX5_howManyAreTrue_20 : decode cX5_howManyAreTrue 20 = .ok (.istore 5, 2) := by decide +kernel
theorem dX5_howManyAreTrue_22 : decode cX5_howManyAreTrue 22 = .ok (.iload 5, 2) := by decide +kernel
theorem dX5_howManyAreTrue_24 : decode cX5_howManyAreTrue 24 = .ok (.ifCond .eq 6, 3) := by decide +kernel
theorem dX5_howManyAreTrue_27 : decode cX5_howManyAreTrue 27 = .ok (.iinc 1 1, 3) := by decide +kernel
theorem dX5_howManyAreTrue_30 : decode cX5_howManyAreTrue 30 = .ok (.iinc 4 1, 3) := by decide +kernel
theorem dX5_howManyAreTrue_33 : decode cX5_howManyAreTrue 33 = .ok (.goto (-23), 3) := by decide +kernel
theorem dX5_howManyAreTrue_36 : decode cX5_howManyAreTrue 36 = .ok (.iload_n 1, 1) := by decide +kernel
theorem dX5_howManyAreTrue_37 : decode cX5_howManyAreTrue 37 = .ok (.ireturn, 1) := by decide +kernel
