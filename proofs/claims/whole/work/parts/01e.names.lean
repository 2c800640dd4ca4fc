theorem dX5_mixedCollected_3 : decode cX5_mixedCollected 3 = .ok (.istore 5, 2) := by decide +kernel
theorem dX5_mixedCollected_5 : decode cX5_mixedCollected 5 = .ok (.iload 5, 2) := by decide +kernel
theorem dX5_mixedCollected_7 : decode cX5_mixedCollected 7 = .ok (.aload_n 0, 1) := by decide +kernel
theorem dX5_mixedCollected_8 : decode cX5_mixedCollected 8 = .ok (.getfield 20, 3) := by decide +kernel
theorem dX5_mixedCollected_11 : decode cX5_mixedCollected 11 = .ok (.iconst 1, 1) := by decide +kernel
theorem dX5_mixedCollected_12 : decode cX5_mixedCollected 12 = .ok (.invokevirtual 52, 3) := by decide +kernel
theorem dX5_mixedCollected_15 : decode cX5_mixedCollected 15 = .ok (.if_icmp .ge 49, 3) := by decide +kernel
theorem dX5_mixedCollected_18 : decode cX5_mixedCollected 18 = .ok (.iconst 0, 1) := by decide +kernel
theorem dX5_mixedCollected_19 : decode cX5_mixedCollected 19 = .ok (.istore 6, 2) := by decide +kernel
theorem dX5_mixedCollected_21 : decode cX5_mixedCollected 21 = .ok (.iload 6, 2) := by decide +kernel
theorem dX5_mixedCollected_23 : decode cX5_mixedCollected 23 = .ok (.aload_n 0, 1) := by decide +kernel
theorem dX5_mixedCollected_24 : decode cX5_mixedCollected 24 = .ok (.getfield 20, 3) := by decide +kernel
theorem dX5_mixedCollected_27 : decode cX5_mixedCollected 27 = .ok (.iconst 0, 1) := by decide +kernel
theorem dX5_mixedCollected_28 : decode cX5_mixedCollected 28 = .ok (.invokevirtual 52, 3) := by decide +kernel
theorem dX5_mixedCollected_31 : decode cX5_mixedCollected 31 = .ok (.if_icmp .ge 27, 3) := by decide +kernel
theorem dX5_mixedCollected_34 : decode cX5_mixedCollected 34 = .ok (.lload_n 3, 1) := by decide +kernel
theorem dX5_mixedCollected_35 : decode cX5_mixedCollected 35 = .ok (.aload_n 0, 1) := by decide +kernel
theorem dX5_mixedCollected_36 : decode cX5_mixedCollected 36 = .ok (.getfield 12, 3) := by decide +kernel
theorem dX5_mixedCollected_39 : decode cX5_mixedCollected 39 = .ok (.iload 5, 2) := by decide +kernel
theorem dX5_mixedCollected_41 : decode cX5_mixedCollected 41 = .ok (.iload 6, 2) := by decide +kernel
theorem dX5_mixedCollected_43 : decode cX5_mixedCollected 43 = .ok (.iconst 1, 1) := by decide +kernel
theorem dX5_mixedCollected_44 : decode cX5_mixedCollected 44 = .ok (.invokevirtual 198, 3) := by decide +kernel
theorem dX5_mixedCollected_47 : decode cX5_mixedCollected 47 = .ok (.i2l, 1) := by decide +kernel
theorem dX5_mixedCollected_48 : decode cX5_mixedCollected 48 = .ok (.invokestatic 215, 3) := by decide +kernel
theorem dX5_mixedCollected_51 : decode cX5_mixedCollected 51 = .ok (.lstore_n 3, 1) := by decide +kernel
theorem dX5_mixedCollected_52 : decode cX5_mixedCollected 52 = .ok (.iinc 6 1, 3) := by decide +kernel
theorem dX5_mixedCollected_55 : decode cX5_mixedCollected 55 = .ok (.goto (-34), 3) := by decide +kernel
theorem dX5_mixedCollected_58 : decode cX5_mixedCollected 58 = .ok (.iinc 5 1, 3) := by decide +kernel
theorem dX5_mixedCollected_61 : decode cX5_mixedCollected 61 = .ok (.goto (-56), 3) := by decide +kernel
theorem dX5_mixedCollected_64 : decode cX5_mixedCollected 64 = .ok (.lload_n 3, 1) := by decide +kernel
theorem dX5_mixedCollected_65 : decode cX5_mixedCollected 65 = .ok (.lreturn, 1) := by decide +kernel
set_option maxRecDepth 20000 in
theorem ggX5_mixedText_X3_length : GoodIn wsX5_mixedText wsX3_length := goodIn_r _ [5, 6, 23, 24, 25] (by decide +kernel) (by decide +kernel)
set_option maxRecDepth 20000 in
theorem gX5_mixedText_X3_length_n159 : GoodIn wsX5_mixedText (wsX3_length) := ggX5_mixedText_X3_length
set_option maxRecDepth 20000 in
theorem ggX5_mixedText_X5_mixed : GoodIn wsX5_mixedText wsX5_mixed := goodIn_r _ [10, 11] (by decide +kernel) (by decide +kernel)
set_option maxRecDepth 20000 in
theorem gX5_mixedText_X5_mixed : GoodIn wsX5_mixedText (va_wsS RX5 215 yX5_mixed wsX5_mixed) := goodIn_app (goodIn_of _ (by decide +kernel)) ggX5_mixedText_X5_mixed
set_option maxRecDepth 20000 in
theorem ggX5_mixedText_X3_codeAt : GoodIn wsX5_mixedText wsX3_codeAt := goodIn_r _ [14, 15, 16, 9, 17, 23, 24, 25] (by decide +kernel) (by decide +kernel)
set_option maxRecDepth 20000 in
theorem gX5_mixedText_X3_codeAt_n243 : GoodIn wsX5_mixedText (wsX3_codeAt) := ggX5_mixedText_X3_codeAt
theorem dX5_mixedText_0 : decode cX5_mixedText 0 = .ok (.lload_n 1, 1) := by decide +kernel
theorem dX5_mixedText_1 : decode cX5_mixedText 1 = .ok (.aload_n 0, 1) := by decide +kernel
theorem dX5_mixedText_2 : decode cX5_mixedText 2 = .ok (.getfield 33, 3) := by decide +kernel
theorem dX5_mixedText_5 : decode cX5_mixedText 5 = .ok (.invokevirtual 159, 3) := by decide +kernel
theorem dX5_mixedText_8 : decode cX5_mixedText 8 = .ok (.i2l, 1) := by decide +kernel
theorem dX5_mixedText_9 : decode cX5_mixedText 9 = .ok (.invokestatic 215, 3) := by decide +kernel
theorem dX5_mixedText_12 : decode cX5_mixedText 12 = .ok (.lstore_n 3, 1) := by decide +kernel
theorem dX5_mixedText_13 : decode cX5_mixedText 13 = .ok (.iconst 0, 1) := by decide +kernel
theorem dX5_mixedText_14 : decode cX5_mixedText 14 = .ok (.istore 5, 2) := by decide +kernel
theorem dX5_mixedText_16 : decode cX5_mixedText 16 = .ok (.iload 5, 2) := by decide +kernel
theorem dX5_mixedText_18 : decode cX5_mixedText 18 = .ok (.aload_n 0, 1) := by decide +kernel
theorem dX5_mixedText_19 : decode cX5_mixedText 19 = .ok (.getfield 33, 3) := by decide +kernel
theorem dX5_mixedText_22 : decode cX5_mixedText 22 = .ok (.invokevirtual 159, 3) := by decide +kernel
theorem dX5_mixedText_25 : decode cX5_mixedText 25 = .ok (.if_icmp .ge 24, 3) := by decide +kernel
theorem dX5_mixedText_28 : decode cX5_mixedText 28 = .ok (.lload_n 3, 1) := by decide +kernel
theorem dX5_mixedText_29 : decode cX5_mixedText 29 = .ok (.aload_n 0, 1) := by decide +kernel
theorem dX5_mixedText_30 : decode cX5_mixedText 30 = .ok (.getfield 33, 3) := by decide +kernel
theorem dX5_mixedText_33 : decode cX5_mixedText 33 = .ok (.iload 5, 2) := by decide +kernel
theorem dX5_mixedText_35 : decode cX5_mixedText 35 = .ok (.invokevirtual 243, 3) := by decide +kernel
theorem dX5_mixedText_38 : decode cX5_mixedText 38 = .ok (.i2l, 1) := by decide +kernel
theorem dX5_mixedText_39 : decode cX5_mixedText 39 = .ok (.invokestatic 215, 3) := by decide +kernel
theorem dX5_mixedText_42 : decode cX5_mixedText 42 = .ok (.lstore_n 3, 1) := by decide +kernel
theorem dX5_mixedText_43 : decode cX5_mixedText 43 = .ok (.iinc 5 1, 3) := by decide +kernel
theorem dX5_mixedText_46 : decode cX5_mixedText 46 = .ok (.goto (-30), 3) := by decide +kernel
theorem dX5_mixedText_49 : decode cX5_mixedText 49 = .ok (.lload_n 3, 1) := by decide +kernel
theorem dX5_mixedText_50 : decode cX5_mixedText 50 = .ok (.lreturn, 1) := by decide +kernel
theorem dX5_bitsOf_0 : decode cX5_bitsOf 0 = .ok (.dload_n 0, 1) := by decide +kernel
theorem dX5_bitsOf_1 : decode cX5_bitsOf 1 = .ok (.dconst 0, 1) := by decide +kernel
theorem dX5_bitsOf_2 : decode cX5_bitsOf 2 = .ok (.dcmp .l, 1) := by decide +kernel
theorem dX5_bitsOf_3 : decode cX5_bitsOf 3 = .ok (.ifCond .gt 5, 3) := by decide +kernel
theorem dX5_bitsOf_6 : decode cX5_bitsOf 6 = .ok (.lconst 0, 1) := by decide +kernel
theorem dX5_bitsOf_7 : decode cX5_bitsOf 7 = .ok (.lreturn, 1) := by decide +kernel
theorem dX5_bitsOf_8 : decode cX5_bitsOf 8 = .ok (.dload_n 0, 1) := by decide +kernel
theorem dX5_bitsOf_9 : decode cX5_bitsOf 9 = .ok (.dstore_n 2, 1) := by decide +kernel
theorem dX5_bitsOf_10 : decode cX5_bitsOf 10 = .ok (.ldc2_w 246, 3) := by decide +kernel
theorem dX5_bitsOf_13 : decode cX5_bitsOf 13 = .ok (.lstore 4, 2) := by decide +kernel
theorem dX5_bitsOf_15 : decode cX5_bitsOf 15 = .ok (.dload_n 2, 1) := by decide +kernel
theorem dX5_bitsOf_16 : decode cX5_bitsOf 16 = .ok (.dconst 1, 1) := by decide +kernel
theorem dX5_bitsOf_17 : decode cX5_bitsOf 17 = .ok (.dcmp .g, 1) := by decide +kernel
theorem dX5_bitsOf_18 : decode cX5_bitsOf 18 = .ok (.ifCond .ge 25, 3) := by decide +kernel
theorem dX5_bitsOf_21 : decode cX5_bitsOf 21 = .ok (.lload 4, 2) := by decide +kernel
theorem dX5_bitsOf_23 : decode cX5_bitsOf 23 = .ok (.lconst 1, 1) := by decide +kernel
theorem dX5_bitsOf_24 : decode cX5_bitsOf 24 = .ok (.lcmp, 1) := by decide +kernel
theorem dX5_bitsOf_25 : decode cX5_bitsOf 25 = .ok (.ifCond .le 18, 3) := by decide +kernel
theorem dX5_bitsOf_28 : decode cX5_bitsOf 28 = .ok (.dload_n 2, 1) := by decide +kernel
theorem dX5_bitsOf_29 : decode cX5_bitsOf 29 = .ok (.ldc2_w 248, 3) := by decide +kernel
theorem dX5_bitsOf_32 : decode cX5_bitsOf 32 = .ok (.dmul, 1) := by decide +kernel
theorem dX5_bitsOf_33 : decode cX5_bitsOf 33 = .ok (.dstore_n 2, 1) := by decide +kernel
theorem dX5_bitsOf_34 : decode cX5_bitsOf 34 = .ok (.lload 4, 2) := by decide +kernel
theorem dX5_bitsOf_36 : decode cX5_bitsOf 36 = .ok (.lconst 1, 1) := by decide +kernel
theorem dX5_bitsOf_37 : decode cX5_bitsOf 37 = .ok (.lsub, 1) := by decide +kernel
theorem dX5_bitsOf_38 : decode cX5_bitsOf 38 = .ok (.lstore 4, 2) := by decide +kernel
theorem dX5_bitsOf_40 : decode cX5_bitsOf 40 = .ok (.goto (-25), 3) := by decide +kernel
theorem dX5_bitsOf_43 : decode cX5_bitsOf 43 = .ok (.lload 4, 2) := by decide +kernel
theorem dX5_bitsOf_45 : decode cX5_bitsOf 45 = .ok (.bipush 52, 2) := by decide +kernel
theorem dX5_bitsOf_47 : decode cX5_bitsOf 47 = .ok (.lshl, 1) := by decide +kernel
theorem dX5_bitsOf_48 : decode cX5_bitsOf 48 = .ok (.dload_n 2, 1) := by decide +kernel
theorem dX5_bitsOf_49 : decode cX5_bitsOf 49 = .ok (.dconst 1, 1) := by decide +kernel
theorem dX5_bitsOf_50 : decode cX5_bitsOf 50 = .ok (.dsub, 1) := by decide +kernel
theorem dX5_bitsOf_51 : decode cX5_bitsOf 51 = .ok (.ldc2_w 250, 3) := by decide +kernel
theorem dX5_bitsOf_54 : decode cX5_bitsOf 54 = .ok (.dmul, 1) := by decide +kernel
theorem dX5_bitsOf_55 : decode cX5_bitsOf 55 = .ok (.d2l, 1) := by decide +kernel
theorem dX5_bitsOf_56 : decode cX5_bitsOf 56 = .ok (.ladd, 1) := by decide +kernel
theorem dX5_bitsOf_57 : decode cX5_bitsOf 57 = .ok (.lreturn, 1) := by decide +kernel
set_option maxRecDepth 20000 in
theorem ggX5_carryOutOrders_X0_begin : GoodIn wsX5_carryOutOrders wsX0_begin := goodIn_r _ [7, 8, 9, 10, 11, 12, 196, 197, 198, 199, 200] (by decide +kernel) (by decide +kernel)
set_option maxRecDepth 20000 in
theorem gX5_carryOutOrders_X0_begin_n252 : GoodIn wsX5_carryOutOrders (wsX0_begin) := ggX5_carryOutOrders_X0_begin
set_option maxRecDepth 20000 in
theorem ggX5_carryOutOrders_X3_length : GoodIn wsX5_carryOutOrders wsX3_length := goodIn_r _ [16, 17, 201, 202, 203] (by decide +kernel) (by decide +kernel)
set_option maxRecDepth 20000 in
theorem gX5_carryOutOrders_X3_length_n159 : GoodIn wsX5_carryOutOrders (wsX3_length) := ggX5_carryOutOrders_X3_length
set_option maxRecDepth 20000 in
theorem ggX5_carryOutOrders_X3_codeAt : GoodIn wsX5_carryOutOrders wsX3_codeAt := goodIn_r _ [20, 21, 22, 23, 24, 201, 202, 203] (by decide +kernel) (by decide +kernel)
set_option maxRecDepth 20000 in
theorem gX5_carryOutOrders_X3_codeAt_n243 : GoodIn wsX5_carryOutOrders (wsX3_codeAt) := ggX5_carryOutOrders_X3_codeAt
set_option maxRecDepth 20000 in
theorem ggX5_carryOutOrders_X0_first : GoodIn wsX5_carryOutOrders wsX0_first := goodIn_r _ [27, 10, 196, 197, 198, 199, 200] (by decide +kernel) (by decide +kernel)
set_option maxRecDepth 20000 in
theorem gX5_carryOutOrders_X0_first_n255 : GoodIn wsX5_carryOutOrders (wsX0_first) := ggX5_carryOutOrders_X0_first
set_option maxRecDepth 20000 in
theorem ggX5_carryOutOrders_X0_second : GoodIn wsX5_carryOutOrders wsX0_second := goodIn_r _ [30, 11, 196, 197, 198, 199, 200] (by decide +kernel) (by decide +kernel)
set_option maxRecDepth 20000 in
theorem gX5_carryOutOrders_X0_second_n258 : GoodIn wsX5_carryOutOrders (wsX0_second) := ggX5_carryOutOrders_X0_second
set_option maxRecDepth 20000 in
theorem ggX5_carryOutOrders_X0_number : GoodIn wsX5_carryOutOrders wsX0_number := goodIn_r _ [33, 12, 196, 197, 198, 199, 200] (by decide +kernel) (by decide +kernel)
set_option maxRecDepth 20000 in
theorem gX5_carryOutOrders_X0_number_n261 : GoodIn wsX5_carryOutOrders (wsX0_number) := ggX5_carryOutOrders_X0_number
set_option maxRecDepth 20000 in
theorem ggX5_carryOutOrders_X5_reasonAgainstOrder : GoodIn wsX5_carryOutOrders wsX5_reasonAgainstOrder := goodIn_r _ [37, 1, 38, 39, 40, 41, 23, 42, 43, 5, 44, 45, 9, 46, 47, 48, 49, 3, 50, 51, 52, 53, 54, 55, 56, 57, 58, 59, 60, 61, 62, 63, 64, 65, 66, 67, 68, 69, 70, 71, 72, 73, 74, 75, 76, 77, 78, 79, 80, 81, 82, 83, 84, 85, 86, 87, 88, 89, 90, 91, 92, 93, 94, 95, 96, 97, 98, 99, 100, 101, 102, 103, 104, 105, 106, 107, 191, 192, 193, 194, 195, 196, 197, 198, 199, 200, 204, 205, 206] (by decide +kernel) (by decide +kernel)
set_option maxRecDepth 20000 in
theorem gX5_carryOutOrders_X5_reasonAgainstOrder : GoodIn wsX5_carryOutOrders (wsV RX5 264 RX5 yX5_reasonAgainstOrder wsX5_reasonAgainstOrder) := goodIn_app (goodIn_of _ (by decide +kernel)) ggX5_carryOutOrders_X5_reasonAgainstOrder
set_option maxRecDepth 20000 in
theorem ggX5_carryOutOrders_X5_carryOutOrder : GoodIn wsX5_carryOutOrders wsX5_carryOutOrder := goodIn_r _ [111, 1, 38, 43, 5, 44, 45, 9, 112, 64, 113, 114, 67, 68, 51, 69, 70, 54, 55, 56, 57, 58, 78, 79, 80, 81, 82, 83, 84, 115, 116, 117, 118, 119, 120, 121, 122, 123, 124, 125, 126, 127, 128, 129, 130, 94, 95, 96, 97, 71, 72, 73, 131, 132, 133, 134, 135, 136, 137, 138, 139, 140, 50, 52, 53, 141, 142, 143, 144, 145, 146, 147, 148, 149, 150, 151, 152, 153, 154, 155, 156, 22, 23, 24, 191, 192, 193, 194, 195, 196, 197, 198, 199, 200, 205, 206, 204] (by decide +kernel) (by decide +kernel)
set_option maxRecDepth 20000 in
theorem gX5_carryOutOrders_X5_carryOutOrder : GoodIn wsX5_carryOutOrders (wsV RX5 267 RX5 yX5_carryOutOrder wsX5_carryOutOrder) := goodIn_app (goodIn_of _ (by decide +kernel)) ggX5_carryOutOrders_X5_carryOutOrder
set_option maxRecDepth 20000 in
theorem ggX5_carryOutOrders_X0_takes : GoodIn wsX5_carryOutOrders wsX0_takes := goodIn_r _ [159, 8, 160, 161, 162, 5, 163, 12, 164, 165, 166, 167, 168, 4, 6, 7, 9, 10, 11, 169, 170, 171, 172, 173, 174, 175, 176, 177, 178, 179, 180, 181, 182, 183, 184, 185, 186, 187, 196, 197, 198, 199, 200] (by decide +kernel) (by decide +kernel)
set_option maxRecDepth 20000 in
theorem gX5_carryOutOrders_X0_takes_n270 : GoodIn wsX5_carryOutOrders (wsX0_takes) := ggX5_carryOutOrders_X0_takes
set_option maxRecDepth 20000 in
theorem ggX5_carryOutOrders_X2_putAll : GoodIn wsX5_carryOutOrders wsX2_putAll := goodIn_r _ [190, 118, 119, 120, 51, 121, 58, 204] (by decide +kernel) (by decide +kernel)
set_option maxRecDepth 20000 in
theorem gX5_carryOutOrders_X2_putAll_n273 : GoodIn wsX5_carryOutOrders (wsX2_putAll) := ggX5_carryOutOrders_X2_putAll
theorem dX5_carryOutOrders_0 : decode cX5_carryOutOrders 0 = .ok (.iconst 0, 1) := by decide +kernel
theorem dX5_carryOutOrders_1 : decode cX5_carryOutOrders 1 = .ok (.istore_n 1, 1) := by decide +kernel
theorem dX5_carryOutOrders_2 : decode cX5_carryOutOrders 2 = .ok (.iconst 0, 1) := by decide +kernel
theorem dX5_carryOutOrders_3 : decode cX5_carryOutOrders 3 = .ok (.istore_n 2, 1) := by decide +kernel
theorem dX5_carryOutOrders_4 : decode cX5_carryOutOrders 4 = .ok (.aload_n 0, 1) := by decide +kernel
theorem dX5_carryOutOrders_5 : decode cX5_carryOutOrders 5 = .ok (.getfield 40, 3) := by decide +kernel
theorem dX5_carryOutOrders_8 : decode cX5_carryOutOrders 8 = .ok (.invokevirtual 252, 3) := by decide +kernel
theorem dX5_carryOutOrders_11 : decode cX5_carryOutOrders 11 = .ok (.iconst 0, 1) := by decide +kernel
theorem dX5_carryOutOrders_12 : decode cX5_carryOutOrders 12 = .ok (.istore_n 3, 1) := by decide +kernel
theorem dX5_carryOutOrders_13 : decode cX5_carryOutOrders 13 = .ok (.iload_n 3, 1) := by decide +kernel
theorem dX5_carryOutOrders_14 : decode cX5_carryOutOrders 14 = .ok (.aload_n 0, 1) := by decide +kernel
theorem dX5_carryOutOrders_15 : decode cX5_carryOutOrders 15 = .ok (.getfield 33, 3) := by decide +kernel
theorem dX5_carryOutOrders_18 : decode cX5_carryOutOrders 18 = .ok (.invokevirtual 159, 3) := by decide +kernel
theorem dX5_carryOutOrders_21 : decode cX5_carryOutOrders 21 = .ok (.if_icmp .gt 113, 3) := by decide +kernel
theorem dX5_carryOutOrders_24 : decode cX5_carryOutOrders 24 = .ok (.iload_n 3, 1) := by decide +kernel
theorem dX5_carryOutOrders_25 : decode cX5_carryOutOrders 25 = .ok (.aload_n 0, 1) := by decide +kernel
theorem dX5_carryOutOrders_26 : decode cX5_carryOutOrders 26 = .ok (.getfield 33, 3) := by decide +kernel
theorem dX5_carryOutOrders_29 : decode cX5_carryOutOrders 29 = .ok (.invokevirtual 159, 3) := by decide +kernel
theorem dX5_carryOutOrders_32 : decode cX5_carryOutOrders 32 = .ok (.if_icmp .ge 14, 3) := by decide +kernel
theorem dX5_carryOutOrders_35 : decode cX5_carryOutOrders 35 = .ok (.aload_n 0, 1) := by decide +kernel
theorem dX5_carryOutOrders_36 : decode cX5_carryOutOrders 36 = .ok (.getfield 33, 3) := by decide +kernel
theorem dX5_carryOutOrders_39 : decode cX5_carryOutOrders 39 = .ok (.iload_n 3, 1) := by decide +kernel
theorem dX5_carryOutOrders_40 : decode cX5_carryOutOrders 40 = .ok (.invokevirtual 243, 3) := by decide +kernel
theorem dX5_carryOutOrders_43 : decode cX5_carryOutOrders 43 = .ok (.goto 5, 3) := by decide +kernel
theorem dX5_carryOutOrders_46 : decode cX5_carryOutOrders 46 = .ok (.bipush 59, 2) := by decide +kernel
theorem dX5_carryOutOrders_48 : decode cX5_carryOutOrders 48 = .ok (.istore 4, 2) := by decide +kernel
theorem dX5_carryOutOrders_50 : decode cX5_carryOutOrders 50 = .ok (.iload 4, 2) := by decide +kernel
theorem dX5_carryOutOrders_52 : decode cX5_carryOutOrders 52 = .ok (.bipush 59, 2) := by decide +kernel
theorem dX5_carryOutOrders_54 : decode cX5_carryOutOrders 54 = .ok (.if_icmp .ne 64, 3) := by decide +kernel
theorem dX5_carryOutOrders_57 : decode cX5_carryOutOrders 57 = .ok (.aload_n 0, 1) := by decide +kernel
theorem dX5_carryOutOrders_58 : decode cX5_carryOutOrders 58 = .ok (.aload_n 0, 1) := by decide +kernel
theorem dX5_carryOutOrders_59 : decode cX5_carryOutOrders 59 = .ok (.getfield 40, 3) := by decide +kernel
theorem dX5_carryOutOrders_62 : decode cX5_carryOutOrders 62 = .ok (.invokevirtual 255, 3) := by decide +kernel
theorem dX5_carryOutOrders_65 : decode cX5_carryOutOrders 65 = .ok (.aload_n 0, 1) := by decide +kernel
theorem dX5_carryOutOrders_66 : decode cX5_carryOutOrders 66 = .ok (.getfield 40, 3) := by decide +kernel
theorem dX5_carryOutOrders_69 : decode cX5_carryOutOrders 69 = .ok (.invokevirtual 258, 3) := by decide +kernel
theorem dX5_carryOutOrders_72 : decode cX5_carryOutOrders 72 = .ok (.aload_n 0, 1) := by decide +kernel
theorem dX5_carryOutOrders_73 : decode cX5_carryOutOrders 73 = .ok (.getfield 40, 3) := by decide +kernel
theorem dX5_carryOutOrders_76 : decode cX5_carryOutOrders 76 = .ok (.invokevirtual 261, 3) := by decide +kernel
theorem dX5_carryOutOrders_79 : decode cX5_carryOutOrders 79 = .ok (.invokevirtual 264, 3) := by decide +kernel
theorem dX5_carryOutOrders_82 : decode cX5_carryOutOrders 82 = .ok (.istore_n 2, 1) := by decide +kernel
theorem dX5_carryOutOrders_83 : decode cX5_carryOutOrders 83 = .ok (.iload_n 2, 1) := by decide +kernel
theorem dX5_carryOutOrders_84 : decode cX5_carryOutOrders 84 = .ok (.ifCond .eq 6, 3) := by decide +kernel
theorem dX5_carryOutOrders_87 : decode cX5_carryOutOrders 87 = .ok (.goto 47, 3) := by decide +kernel
theorem dX5_carryOutOrders_90 : decode cX5_carryOutOrders 90 = .ok (.aload_n 0, 1) := by decide +kernel
theorem dX5_carryOutOrders_91 : decode cX5_carryOutOrders 91 = .ok (.aload_n 0, 1) := by decide +kernel
theorem dX5_carryOutOrders_92 : decode cX5_carryOutOrders 92 = .ok (.getfield 40, 3) := by decide +kernel
theorem dX5_carryOutOrders_95 : decode cX5_carryOutOrders 95 = .ok (.invokevirtual 255, 3) := by decide +kernel
theorem dX5_carryOutOrders_98 : decode cX5_carryOutOrders 98 = .ok (.aload_n 0, 1) := by decide +kernel
theorem dX5_carryOutOrders_99 : decode cX5_carryOutOrders 99 = .ok (.getfield 40, 3) := by decide +kernel
theorem dX5_carryOutOrders_102 : decode cX5_carryOutOrders 102 = .ok (.invokevirtual 258, 3) := by decide +kernel
theorem dX5_carryOutOrders_105 : decode cX5_carryOutOrders 105 = .ok (.aload_n 0, 1) := by decide +kernel
theorem dX5_carryOutOrders_106 : decode cX5_carryOutOrders 106 = .ok (.getfield 40, 3) := by decide +kernel
theorem dX5_carryOutOrders_109 : decode cX5_carryOutOrders 109 = .ok (.invokevirtual 261, 3) := by decide +kernel
theorem dX5_carryOutOrders_112 : decode cX5_carryOutOrders 112 = .ok (.invokevirtual 267, 3) := by decide +kernel
theorem dX5_carryOutOrders_115 : decode cX5_carryOutOrders 115 = .ok (.iinc 1 1, 3) := by decide +kernel
theorem dX5_carryOutOrders_118 : decode cX5_carryOutOrders 118 = .ok (.aload_n 0, 1) := by decide +kernel
theorem dX5_carryOutOrders_119 : decode cX5_carryOutOrders 119 = .ok (.getfield 40, 3) := by decide +kernel
theorem dX5_carryOutOrders_122 : decode cX5_carryOutOrders 122 = .ok (.iload 4, 2) := by decide +kernel
theorem dX5_carryOutOrders_124 : decode cX5_carryOutOrders 124 = .ok (.invokevirtual 270, 3) := by decide +kernel
theorem dX5_carryOutOrders_127 : decode cX5_carryOutOrders 127 = .ok (.pop, 1) := by decide +kernel
theorem dX5_carryOutOrders_128 : decode cX5_carryOutOrders 128 = .ok (.iinc 3 1, 3) := by decide +kernel
theorem dX5_carryOutOrders_131 : decode cX5_carryOutOrders 131 = .ok (.goto (-118), 3) := by decide +kernel
theorem dX5_carryOutOrders_134 : decode cX5_carryOutOrders 134 = .ok (.aload_n 0, 1) := by decide +kernel
theorem dX5_carryOutOrders_135 : decode cX5_carryOutOrders 135 = .ok (.getfield 20, 3) := by decide +kernel
theorem dX5_carryOutOrders_138 : decode cX5_carryOutOrders 138 = .ok (.bipush 9, 2) := by decide +kernel
theorem dX5_carryOutOrders_140 : decode cX5_carryOutOrders 140 = .ok (.iload_n 2, 1) := by decide +kernel
theorem dX5_carryOutOrders_141 : decode cX5_carryOutOrders 141 = .ok (.invokevirtual 273, 3) := by decide +kernel
theorem dX5_carryOutOrders_144 : decode cX5_carryOutOrders 144 = .ok (.iload_n 1, 1) := by decide +kernel
theorem dX5_carryOutOrders_145 : decode cX5_carryOutOrders 145 = .ok (.ireturn, 1) := by decide +kernel
set_option maxRecDepth 20000 in
theorem ggX5_reasonAgainstOrder_X5_areThere : GoodIn wsX5_reasonAgainstOrder wsX5_areThere := goodIn_r _ [7, 1, 8, 9, 10, 11, 12, 13, 14, 15, 6, 16, 17, 18, 19, 20, 21, 22, 23, 24, 25, 26, 27, 28, 29, 30, 76, 77, 78, 79, 80, 81, 82, 83, 84, 85, 86] (by decide +kernel) (by decide +kernel)
set_option maxRecDepth 20000 in
theorem gX5_reasonAgainstOrder_X5_areThere : GoodIn wsX5_reasonAgainstOrder (wsV RX5 276 RX5 yX5_areThere wsX5_areThere) := goodIn_app (goodIn_of _ (by decide +kernel)) ggX5_reasonAgainstOrder_X5_areThere
set_option maxRecDepth 20000 in
theorem ggX5_reasonAgainstOrder_X0_letter : GoodIn wsX5_reasonAgainstOrder wsX0_letter := goodIn_r _ [11, 12, 81, 82, 83, 84, 85] (by decide +kernel) (by decide +kernel)
set_option maxRecDepth 20000 in
theorem gX5_reasonAgainstOrder_X0_letter_n280 : GoodIn wsX5_reasonAgainstOrder (wsX0_letter) := ggX5_reasonAgainstOrder_X0_letter
set_option maxRecDepth 20000 in
theorem ggX5_reasonAgainstOrder_X4_deliverReason : GoodIn wsX5_reasonAgainstOrder wsX4_deliverReason := goodIn_r _ [34, 35, 36, 19, 37, 38, 22, 23, 24, 25, 26, 18, 20, 21, 39, 40, 41, 42, 43, 44, 32, 45, 46, 47, 48, 49, 50, 51, 52, 87, 88, 86] (by decide +kernel) (by decide +kernel)
set_option maxRecDepth 20000 in
theorem gX5_reasonAgainstOrder_X4_deliverReason_n113 : GoodIn wsX5_reasonAgainstOrder (wsX4_deliverReason) := ggX5_reasonAgainstOrder_X4_deliverReason
set_option maxRecDepth 20000 in
theorem ggX5_reasonAgainstOrder_X4_sellReason : GoodIn wsX5_reasonAgainstOrder wsX4_sellReason := goodIn_r _ [55, 35, 39, 19, 40, 41, 22, 23, 24, 25, 26, 56, 57, 32, 58, 87, 88, 86] (by decide +kernel) (by decide +kernel)
set_option maxRecDepth 20000 in
theorem gX5_reasonAgainstOrder_X4_sellReason_n120 : GoodIn wsX5_reasonAgainstOrder (wsX4_sellReason) := ggX5_reasonAgainstOrder_X4_sellReason
set_option maxRecDepth 20000 in
theorem ggX5_reasonAgainstOrder_X4_returnReason : GoodIn wsX5_reasonAgainstOrder wsX4_returnReason := goodIn_r _ [61, 35, 36, 19, 37, 38, 22, 23, 24, 25, 26, 39, 40, 41, 62, 63, 64, 32, 65, 50, 51, 52, 87, 88, 86] (by decide +kernel) (by decide +kernel)
set_option maxRecDepth 20000 in
theorem gX5_reasonAgainstOrder_X4_returnReason_n126 : GoodIn wsX5_reasonAgainstOrder (wsX4_returnReason) := ggX5_reasonAgainstOrder_X4_returnReason
set_option maxRecDepth 20000 in
theorem ggX5_reasonAgainstOrder_X4_breakReason : GoodIn wsX5_reasonAgainstOrder wsX4_breakReason := goodIn_r _ [68, 35, 39, 19, 40, 41, 22, 23, 24, 25, 26, 56, 57, 32, 58, 87, 88, 86] (by decide +kernel) (by decide +kernel)
set_option maxRecDepth 20000 in
theorem gX5_reasonAgainstOrder_X4_breakReason_n132 : GoodIn wsX5_reasonAgainstOrder (wsX4_breakReason) := ggX5_reasonAgainstOrder_X4_breakReason
set_option maxRecDepth 20000 in
theorem ggX5_reasonAgainstOrder_X4_collectReason : GoodIn wsX5_reasonAgainstOrder wsX4_collectReason := goodIn_r _ [71, 35, 72, 73, 74, 32, 75, 36, 19, 37, 38, 22, 23, 24, 25, 26, 39, 40, 41, 87, 88, 86] (by decide +kernel) (by decide +kernel)
set_option maxRecDepth 20000 in
theorem gX5_reasonAgainstOrder_X4_collectReason_n141 : GoodIn wsX5_reasonAgainstOrder (wsX4_collectReason) := ggX5_reasonAgainstOrder_X4_collectReason
theorem dX5_reasonAgainstOrder_0 : decode cX5_reasonAgainstOrder 0 = .ok (.aload_n 0, 1) := by decide +kernel
theorem dX5_reasonAgainstOrder_1 : decode cX5_reasonAgainstOrder 1 = .ok (.iload_n 1, 1) := by decide +kernel
theorem dX5_reasonAgainstOrder_2 : decode cX5_reasonAgainstOrder 2 = .ok (.iload_n 2, 1) := by decide +kernel
theorem dX5_reasonAgainstOrder_3 : decode cX5_reasonAgainstOrder 3 = .ok (.invokevirtual 276, 3) := by decide +kernel
theorem dX5_reasonAgainstOrder_6 : decode cX5_reasonAgainstOrder 6 = .ok (.ifCond .ne 5, 3) := by decide +kernel
theorem dX5_reasonAgainstOrder_9 : decode cX5_reasonAgainstOrder 9 = .ok (.iconst 4, 1) := by decide +kernel
theorem dX5_reasonAgainstOrder_10 : decode cX5_reasonAgainstOrder 10 = .ok (.ireturn, 1) := by decide +kernel
theorem dX5_reasonAgainstOrder_11 : decode cX5_reasonAgainstOrder 11 = .ok (.aload_n 0, 1) := by decide +kernel
theorem dX5_reasonAgainstOrder_12 : decode cX5_reasonAgainstOrder 12 = .ok (.getfield 40, 3) := by decide +kernel
theorem dX5_reasonAgainstOrder_15 : decode cX5_reasonAgainstOrder 15 = .ok (.invokevirtual 280, 3) := by decide +kernel
theorem dX5_reasonAgainstOrder_18 : decode cX5_reasonAgainstOrder 18 = .ok (.lookupswitch 86 #[(98, 75), (100, 42), (114, 64), (115, 53)], 42) := by decide +kernel
theorem dX5_reasonAgainstOrder_60 : decode cX5_reasonAgainstOrder 60 = .ok (.aload_n 0, 1) := by decide +kernel
theorem dX5_reasonAgainstOrder_61 : decode cX5_reasonAgainstOrder 61 = .ok (.getfield 12, 3) := by decide +kernel
theorem dX5_reasonAgainstOrder_64 : decode cX5_reasonAgainstOrder 64 = .ok (.iload_n 1, 1) := by decide +kernel
theorem dX5_reasonAgainstOrder_65 : decode cX5_reasonAgainstOrder 65 = .ok (.iload_n 2, 1) := by decide +kernel
theorem dX5_reasonAgainstOrder_66 : decode cX5_reasonAgainstOrder 66 = .ok (.iload_n 3, 1) := by decide +kernel
theorem dX5_reasonAgainstOrder_67 : decode cX5_reasonAgainstOrder 67 = .ok (.invokevirtual 113, 3) := by decide +kernel
theorem dX5_reasonAgainstOrder_70 : decode cX5_reasonAgainstOrder 70 = .ok (.ireturn, 1) := by decide +kernel
theorem dX5_reasonAgainstOrder_71 : decode cX5_reasonAgainstOrder 71 = .ok (.aload_n 0, 1) := by decide +kernel
theorem dX5_reasonAgainstOrder_72 : decode cX5_reasonAgainstOrder 72 = .ok (.getfield 12, 3) := by decide +kernel
theorem dX5_reasonAgainstOrder_75 : decode cX5_reasonAgainstOrder 75 = .ok (.iload_n 1, 1) := by decide +kernel
theorem dX5_reasonAgainstOrder_76 : decode cX5_reasonAgainstOrder 76 = .ok (.iload_n 2, 1) := by decide +kernel
theorem dX5_reasonAgainstOrder_77 : decode cX5_reasonAgainstOrder 77 = .ok (.iload_n 3, 1) := by decide +kernel
theorem dX5_reasonAgainstOrder_78 : decode cX5_reasonAgainstOrder 78 = .ok (.invokevirtual 120, 3) := by decide +kernel
theorem dX5_reasonAgainstOrder_81 : decode cX5_reasonAgainstOrder 81 = .ok (.ireturn, 1) := by decide +kernel
theorem dX5_reasonAgainstOrder_82 : decode cX5_reasonAgainstOrder 82 = .ok (.aload_n 0, 1) := by decide +kernel
theorem dX5_reasonAgainstOrder_83 : decode cX5_reasonAgainstOrder 83 = .ok (.getfield 12, 3) := by decide +kernel
theorem dX5_reasonAgainstOrder_86 : decode cX5_reasonAgainstOrder 86 = .ok (.iload_n 1, 1) := by decide +kernel
theorem dX5_reasonAgainstOrder_87 : decode cX5_reasonAgainstOrder 87 = .ok (.iload_n 2, 1) := by decide +kernel
theorem dX5_reasonAgainstOrder_88 : decode cX5_reasonAgainstOrder 88 = .ok (.iload_n 3, 1) := by decide +kernel
theorem dX5_reasonAgainstOrder_89 : decode cX5_reasonAgainstOrder 89 = .ok (.invokevirtual 126, 3) := by decide +kernel
theorem dX5_reasonAgainstOrder_92 : decode cX5_reasonAgainstOrder 92 = .ok (.ireturn, 1) := by decide +kernel
theorem dX5_reasonAgainstOrder_93 : decode cX5_reasonAgainstOrder 93 = .ok (.aload_n 0, 1) := by decide +kernel
theorem dX5_reasonAgainstOrder_94 : decode cX5_reasonAgainstOrder 94 = .ok (.getfield 12, 3) := by decide +kernel
theorem dX5_reasonAgainstOrder_97 : decode cX5_reasonAgainstOrder 97 = .ok (.iload_n 1, 1) := by decide +kernel
theorem dX5_reasonAgainstOrder_98 : decode cX5_reasonAgainstOrder 98 = .ok (.iload_n 2, 1) := by decide +kernel
theorem dX5_reasonAgainstOrder_99 : decode cX5_reasonAgainstOrder 99 = .ok (.iload_n 3, 1) := by decide +kernel
theorem dX5_reasonAgainstOrder_100 : decode cX5_reasonAgainstOrder 100 = .ok (.invokevirtual 132, 3) := by decide +kernel
theorem dX5_reasonAgainstOrder_103 : decode cX5_reasonAgainstOrder 103 = .ok (.ireturn, 1) := by decide +kernel
theorem dX5_reasonAgainstOrder_104 : decode cX5_reasonAgainstOrder 104 = .ok (.aload_n 0, 1) := by decide +kernel
theorem dX5_reasonAgainstOrder_105 : decode cX5_reasonAgainstOrder 105 = .ok (.getfield 12, 3) := by decide +kernel
theorem dX5_reasonAgainstOrder_108 : decode cX5_reasonAgainstOrder 108 = .ok (.iload_n 1, 1) := by decide +kernel
theorem dX5_reasonAgainstOrder_109 : decode cX5_reasonAgainstOrder 109 = .ok (.iload_n 2, 1) := by decide +kernel
theorem dX5_reasonAgainstOrder_110 : decode cX5_reasonAgainstOrder 110 = .ok (.iload_n 3, 1) := by decide +kernel
theorem dX5_reasonAgainstOrder_111 : decode cX5_reasonAgainstOrder 111 = .ok (.invokevirtual 141, 3) := by decide +kernel
theorem dX5_reasonAgainstOrder_114 : decode cX5_reasonAgainstOrder 114 = .ok (.ireturn, 1) := by decide +kernel
set_option maxRecDepth 20000 in
theorem ggX5_areThere_X0_letter : GoodIn wsX5_areThere wsX0_letter := goodIn_r _ [5, 6, 31, 32, 33, 34, 35] (by decide +kernel) (by decide +kernel)
set_option maxRecDepth 20000 in
theorem gX5_areThere_X0_letter_n280 : GoodIn wsX5_areThere (wsX0_letter) := ggX5_areThere_X0_letter
set_option maxRecDepth 20000 in
theorem ggX5_areThere_X5_isBrand : GoodIn wsX5_areThere wsX5_isBrand := goodIn_r _ [11, 12, 13, 14, 15, 16, 17, 18, 19, 20, 21, 26, 27, 28, 29, 30, 36] (by decide +kernel) (by decide +kernel)
set_option maxRecDepth 20000 in
theorem gX5_areThere_X5_isBrand : GoodIn wsX5_areThere (wsV RX5 283 RX5 yX5_isBrand wsX5_isBrand) := goodIn_app (goodIn_of _ (by decide +kernel)) ggX5_areThere_X5_isBrand
set_option maxRecDepth 20000 in
theorem ggX5_areThere_X5_isShop : GoodIn wsX5_areThere wsX5_isShop := goodIn_r _ [25, 12, 13, 14, 15, 16, 17, 18, 19, 20, 21, 26, 27, 28, 29, 30, 36] (by decide +kernel) (by decide +kernel)
set_option maxRecDepth 20000 in
theorem gX5_areThere_X5_isShop : GoodIn wsX5_areThere (wsV RX5 286 RX5 yX5_isShop wsX5_isShop) := goodIn_app (goodIn_of _ (by decide +kernel)) ggX5_areThere_X5_isShop
theorem dX5_areThere_0 : decode cX5_areThere 0 = .ok (.aload_n 0, 1) := by decide +kernel
theorem dX5_areThere_1 : decode cX5_areThere 1 = .ok (.getfield 40, 3) := by decide +kernel
theorem dX5_areThere_4 : decode cX5_areThere 4 = .ok (.invokevirtual 280, 3) := by decide +kernel
theorem dX5_areThere_7 : decode cX5_areThere 7 = .ok (.lookupswitch 53 #[(99, 47), (100, 25)], 25) := by decide +kernel
theorem dX5_areThere_32 : decode cX5_areThere 32 = .ok (.aload_n 0, 1) := by decide +kernel
theorem dX5_areThere_33 : decode cX5_areThere 33 = .ok (.iload_n 1, 1) := by decide +kernel
theorem dX5_areThere_34 : decode cX5_areThere 34 = .ok (.invokevirtual 283, 3) := by decide +kernel
theorem dX5_areThere_37 : decode cX5_areThere 37 = .ok (.ifCond .eq 15, 3) := by decide +kernel
theorem dX5_areThere_40 : decode cX5_areThere 40 = .ok (.aload_n 0, 1) := by decide +kernel
theorem dX5_areThere_41 : decode cX5_areThere 41 = .ok (.iload_n 2, 1) := by decide +kernel
theorem dX5_areThere_42 : decode cX5_areThere 42 = .ok (.invokevirtual 286, 3) := by decide +kernel
theorem dX5_areThere_45 : decode cX5_areThere 45 = .ok (.ifCond .eq 7, 3) := by decide +kernel
theorem dX5_areThere_48 : decode cX5_areThere 48 = .ok (.iconst 1, 1) := by decide +kernel
theorem dX5_areThere_49 : decode cX5_areThere 49 = .ok (.goto 4, 3) := by decide +kernel
theorem dX5_areThere_52 : decode cX5_areThere 52 = .ok (.iconst 0, 1) := by decide +kernel
theorem dX5_areThere_53 : decode cX5_areThere 53 = .ok (.ireturn, 1) := by decide +kernel
theorem dX5_areThere_54 : decode cX5_areThere 54 = .ok (.aload_n 0, 1) := by decide +kernel
theorem dX5_areThere_55 : decode cX5_areThere 55 = .ok (.iload_n 1, 1) := by decide +kernel
theorem dX5_areThere_56 : decode cX5_areThere 56 = .ok (.invokevirtual 286, 3) := by decide +kernel
theorem dX5_areThere_59 : decode cX5_areThere 59 = .ok (.ireturn, 1) := by decide +kernel
theorem dX5_areThere_60 : decode cX5_areThere 60 = .ok (.aload_n 0, 1) := by decide +kernel
theorem dX5_areThere_61 : decode cX5_areThere 61 = .ok (.iload_n 1, 1) := by decide +kernel
theorem dX5_areThere_62 : decode cX5_areThere 62 = .ok (.invokevirtual 286, 3) := by decide +kernel
theorem dX5_areThere_65 : decode cX5_areThere 65 = .ok (.ifCond .eq 15, 3) := by decide +kernel
theorem dX5_areThere_68 : decode cX5_areThere 68 = .ok (.aload_n 0, 1) := by decide +kernel
theorem dX5_areThere_69 : decode cX5_areThere 69 = .ok (.iload_n 2, 1) := by decide +kernel
theorem dX5_areThere_70 : decode cX5_areThere 70 = .ok (.invokevirtual 283, 3) := by decide +kernel
theorem dX5_areThere_73 : decode cX5_areThere 73 = .ok (.ifCond .eq 7, 3) := by decide +kernel
theorem dX5_areThere_76 : decode cX5_areThere 76 = .ok (.iconst 1, 1) := by decide +kernel
theorem dX5_areThere_77 : decode cX5_areThere 77 = .ok (.goto 4, 3) := by decide +kernel
theorem dX5_areThere_80 : decode cX5_areThere 80 = .ok (.iconst 0, 1) := by decide +kernel
theorem dX5_areThere_81 : decode cX5_areThere 81 = .ok (.ireturn, 1) := by decide +kernel
set_option maxRecDepth 20000 in
theorem ggX5_carryOutOrder_X0_letter : GoodIn wsX5_carryOutOrder wsX0_letter := goodIn_r _ [6, 7, 89, 90, 91, 92, 93] (by decide +kernel) (by decide +kernel)
set_option maxRecDepth 20000 in
theorem gX5_carryOutOrder_X0_letter_n280 : GoodIn wsX5_carryOutOrder (wsX0_letter) := ggX5_carryOutOrder_X0_letter
set_option maxRecDepth 20000 in
theorem ggX5_carryOutOrder_X4_deliverCrates : GoodIn wsX5_carryOutOrder wsX4_deliverCrates := goodIn_r _ [11, 12, 13, 14, 15, 16, 17, 18, 19, 20, 21, 22, 23, 24, 9, 25, 26, 27, 28, 29, 30, 31, 32, 33, 34, 35, 36, 37, 38, 39, 40, 41, 94, 95, 96] (by decide +kernel) (by decide +kernel)
set_option maxRecDepth 20000 in
theorem gX5_carryOutOrder_X4_deliverCrates_n117 : GoodIn wsX5_carryOutOrder (wsX4_deliverCrates) := ggX5_carryOutOrder_X4_deliverCrates
set_option maxRecDepth 20000 in
theorem ggX5_carryOutOrder_X4_sellBottles : GoodIn wsX5_carryOutOrder wsX4_sellBottles := goodIn_r _ [44, 12, 36, 14, 37, 38, 17, 18, 19, 20, 21, 32, 33, 34, 35, 29, 30, 31, 45, 46, 47, 9, 48, 13, 15, 16, 26, 27, 28, 49, 50, 51, 94, 95, 96] (by decide +kernel) (by decide +kernel)
set_option maxRecDepth 20000 in
theorem gX5_carryOutOrder_X4_sellBottles_n123 : GoodIn wsX5_carryOutOrder (wsX4_sellBottles) := ggX5_carryOutOrder_X4_sellBottles
set_option maxRecDepth 20000 in
theorem ggX5_carryOutOrder_X4_returnBottles : GoodIn wsX5_carryOutOrder wsX4_returnBottles := goodIn_r _ [54, 12, 29, 14, 30, 31, 17, 18, 19, 20, 21, 32, 33, 34, 35, 36, 37, 38, 45, 46, 47, 9, 48, 13, 15, 16, 26, 27, 28, 49, 50, 51, 94, 95, 96] (by decide +kernel) (by decide +kernel)
set_option maxRecDepth 20000 in
theorem gX5_carryOutOrder_X4_returnBottles_n129 : GoodIn wsX5_carryOutOrder (wsX4_returnBottles) := ggX5_carryOutOrder_X4_returnBottles
set_option maxRecDepth 20000 in
theorem ggX5_carryOutOrder_X4_breakBottles : GoodIn wsX5_carryOutOrder wsX4_breakBottles := goodIn_r _ [57, 12, 58, 59, 60, 61, 45, 46, 47, 9, 48, 13, 14, 15, 16, 17, 18, 19, 20, 21, 26, 27, 28, 62, 63, 64, 36, 37, 38, 32, 33, 34, 35, 29, 30, 31, 39, 40, 41, 94, 95, 96] (by decide +kernel) (by decide +kernel)
set_option maxRecDepth 20000 in
theorem gX5_carryOutOrder_X4_breakBottles_n135 : GoodIn wsX5_carryOutOrder (wsX4_breakBottles) := ggX5_carryOutOrder_X4_breakBottles
set_option maxRecDepth 20000 in
theorem ggX5_carryOutOrder_X4_collectCrates : GoodIn wsX5_carryOutOrder wsX4_collectCrates := goodIn_r _ [67, 12, 22, 23, 24, 9, 25, 26, 14, 27, 28, 17, 18, 19, 20, 21, 68, 69, 70, 71, 72, 13, 15, 16, 49, 50, 51, 73, 74, 75, 76, 77, 78, 79, 80, 81, 82, 83, 36, 37, 38, 32, 33, 34, 35, 29, 30, 31, 39, 40, 41, 94, 95, 96] (by decide +kernel) (by decide +kernel)
set_option maxRecDepth 20000 in
theorem gX5_carryOutOrder_X4_collectCrates_n144 : GoodIn wsX5_carryOutOrder (wsX4_collectCrates) := ggX5_carryOutOrder_X4_collectCrates
theorem dX5_carryOutOrder_0 : decode cX5_carryOutOrder 0 = .ok (.aload_n 0, 1) := by decide +kernel
theorem dX5_carryOutOrder_1 : decode cX5_carryOutOrder 1 = .ok (.getfield 40, 3) := by decide +kernel
theorem dX5_carryOutOrder_4 : decode cX5_carryOutOrder 4 = .ok (.invokevirtual 280, 3) := by decide +kernel
theorem dX5_carryOutOrder_7 : decode cX5_carryOutOrder 7 = .ok (.lookupswitch 97 #[(98, 83), (100, 41), (114, 69), (115, 55)], 41) := by decide +kernel
theorem dX5_carryOutOrder_48 : decode cX5_carryOutOrder 48 = .ok (.aload_n 0, 1) := by decide +kernel
theorem dX5_carryOutOrder_49 : decode cX5_carryOutOrder 49 = .ok (.getfield 12, 3) := by decide +kernel
theorem dX5_carryOutOrder_52 : decode cX5_carryOutOrder 52 = .ok (.iload_n 1, 1) := by decide +kernel
theorem dX5_carryOutOrder_53 : decode cX5_carryOutOrder 53 = .ok (.iload_n 2, 1) := by decide +kernel
theorem dX5_carryOutOrder_54 : decode cX5_carryOutOrder 54 = .ok (.iload_n 3, 1) := by decide +kernel
theorem dX5_carryOutOrder_55 : decode cX5_carryOutOrder 55 = .ok (.invokevirtual 117, 3) := by decide +kernel
theorem dX5_carryOutOrder_58 : decode cX5_carryOutOrder 58 = .ok (.pop, 1) := by decide +kernel
theorem dX5_carryOutOrder_59 : decode cX5_carryOutOrder 59 = .ok (.goto 56, 3) := by decide +kernel
theorem dX5_carryOutOrder_62 : decode cX5_carryOutOrder 62 = .ok (.aload_n 0, 1) := by decide +kernel
theorem dX5_carryOutOrder_63 : decode cX5_carryOutOrder 63 = .ok (.getfield 12, 3) := by decide +kernel
theorem dX5_carryOutOrder_66 : decode cX5_carryOutOrder 66 = .ok (.iload_n 1, 1) := by decide +kernel
theorem dX5_carryOutOrder_67 : decode cX5_carryOutOrder 67 = .ok (.iload_n 2, 1) := by decide +kernel
theorem dX5_carryOutOrder_68 : decode cX5_carryOutOrder 68 = .ok (.iload_n 3, 1) := by decide +kernel
theorem dX5_carryOutOrder_69 : decode cX5_carryOutOrder 69 = .ok (.invokevirtual 123, 3) := by decide +kernel
theorem dX5_carryOutOrder_72 : decode cX5_carryOutOrder 72 = .ok (.pop, 1) := by decide +kernel
theorem dX5_carryOutOrder_73 : decode cX5_carryOutOrder 73 = .ok (.goto 42, 3) := by decide +kernel
theorem dX5_carryOutOrder_76 : decode cX5_carryOutOrder 76 = .ok (.aload_n 0, 1) := by decide +kernel
theorem dX5_carryOutOrder_77 : decode cX5_carryOutOrder 77 = .ok (.getfield 12, 3) := by decide +kernel
theorem dX5_carryOutOrder_80 : decode cX5_carryOutOrder 80 = .ok (.iload_n 1, 1) := by decide +kernel
theorem dX5_carryOutOrder_81 : decode cX5_carryOutOrder 81 = .ok (.iload_n 2, 1) := by decide +kernel
theorem dX5_carryOutOrder_82 : decode cX5_carryOutOrder 82 = .ok (.iload_n 3, 1) := by decide +kernel
theorem dX5_carryOutOrder_83 : decode cX5_carryOutOrder 83 = .ok (.invokevirtual 129, 3) := by decide +kernel
theorem dX5_carryOutOrder_86 : decode cX5_carryOutOrder 86 = .ok (.pop, 1) := by decide +kernel
theorem dX5_carryOutOrder_87 : decode cX5_carryOutOrder 87 = .ok (.goto 28, 3) := by decide +kernel
theorem dX5_carryOutOrder_90 : decode cX5_carryOutOrder 90 = .ok (.aload_n 0, 1) := by decide +kernel
theorem dX5_carryOutOrder_91 : decode cX5_carryOutOrder 91 = .ok (.getfield 12, 3) := by decide +kernel
theorem dX5_carryOutOrder_94 : decode cX5_carryOutOrder 94 = .ok (.iload_n 1, 1) := by decide +kernel
theorem dX5_carryOutOrder_95 : decode cX5_carryOutOrder 95 = .ok (.iload_n 2, 1) := by decide +kernel
theorem dX5_carryOutOrder_96 : decode cX5_carryOutOrder 96 = .ok (.iload_n 3, 1) := by decide +kernel
theorem dX5_carryOutOrder_97 : decode cX5_carryOutOrder 97 = .ok (.invokevirtual 135, 3) := by decide +kernel
theorem dX5_carryOutOrder_100 : decode cX5_carryOutOrder 100 = .ok (.pop, 1) := by decide +kernel
theorem dX5_carryOutOrder_101 : decode cX5_carryOutOrder 101 = .ok (.goto 14, 3) := by decide +kernel
theorem dX5_carryOutOrder_104 : decode cX5_carryOutOrder 104 = .ok (.aload_n 0, 1) := by decide +kernel
theorem dX5_carryOutOrder_105 : decode cX5_carryOutOrder 105 = .ok (.getfield 12, 3) := by decide +kernel
theorem dX5_carryOutOrder_108 : decode cX5_carryOutOrder 108 = .ok (.iload_n 1, 1) := by decide +kernel
theorem dX5_carryOutOrder_109 : decode cX5_carryOutOrder 109 = .ok (.iload_n 2, 1) := by decide +kernel
theorem dX5_carryOutOrder_110 : decode cX5_carryOutOrder 110 = .ok (.iload_n 3, 1) := by decide +kernel
theorem dX5_carryOutOrder_111 : decode cX5_carryOutOrder 111 = .ok (.invokevirtual 144, 3) := by decide +kernel
theorem dX5_carryOutOrder_114 : decode cX5_carryOutOrder 114 = .ok (.pop, 1) := by decide +kernel
theorem dX5_carryOutOrder_115 : decode cX5_carryOutOrder 115 = .ok (.return_, 1) := by decide +kernel
set_option maxRecDepth 20000 in
theorem ggX5_isBrand_X2_ofAll : GoodIn wsX5_isBrand wsX2_ofAll := goodIn_r _ [5, 6, 7, 8, 3, 9, 10, 16] (by decide +kernel) (by decide +kernel)
set_option maxRecDepth 20000 in
theorem gX5_isBrand_X2_ofAll_n52 : GoodIn wsX5_isBrand (wsX2_ofAll) := ggX5_isBrand_X2_ofAll
theorem dX5_isBrand_0 : decode cX5_isBrand 0 = .ok (.iload_n 1, 1) := by decide +kernel
theorem dX5_isBrand_1 : decode cX5_isBrand 1 = .ok (.ifCond .lt 19, 3) := by decide +kernel
theorem dX5_isBrand_4 : decode cX5_isBrand 4 = .ok (.iload_n 1, 1) := by decide +kernel
theorem dX5_isBrand_5 : decode cX5_isBrand 5 = .ok (.aload_n 0, 1) := by decide +kernel
theorem dX5_isBrand_6 : decode cX5_isBrand 6 = .ok (.getfield 20, 3) := by decide +kernel
theorem dX5_isBrand_9 : decode cX5_isBrand 9 = .ok (.iconst 0, 1) := by decide +kernel
theorem dX5_isBrand_10 : decode cX5_isBrand 10 = .ok (.invokevirtual 52, 3) := by decide +kernel
theorem dX5_isBrand_13 : decode cX5_isBrand 13 = .ok (.if_icmp .ge 7, 3) := by decide +kernel
theorem dX5_isBrand_16 : decode cX5_isBrand 16 = .ok (.iconst 1, 1) := by decide +kernel
theorem dX5_isBrand_17 : decode cX5_isBrand 17 = .ok (.goto 4, 3) := by decide +kernel
theorem dX5_isBrand_20 : decode cX5_isBrand 20 = .ok (.iconst 0, 1) := by decide +kernel
theorem dX5_isBrand_21 : decode cX5_isBrand 21 = .ok (.ireturn, 1) := by decide +kernel
set_option maxRecDepth 20000 in
theorem ggX5_isShop_X2_ofAll : GoodIn wsX5_isShop wsX2_ofAll := goodIn_r _ [5, 6, 7, 8, 3, 9, 10, 16] (by decide +kernel) (by decide +kernel)
set_option maxRecDepth 20000 in
theorem gX5_isShop_X2_ofAll_n52 : GoodIn wsX5_isShop (wsX2_ofAll) := ggX5_isShop_X2_ofAll
theorem dX5_isShop_0 : decode cX5_isShop 0 = .ok (.iload_n 1, 1) := by decide +kernel
theorem dX5_isShop_1 : decode cX5_isShop 1 = .ok (.ifCond .lt 19, 3) := by decide +kernel
theorem dX5_isShop_4 : decode cX5_isShop 4 = .ok (.iload_n 1, 1) := by decide +kernel
theorem dX5_isShop_5 : decode cX5_isShop 5 = .ok (.aload_n 0, 1) := by decide +kernel
theorem dX5_isShop_6 : decode cX5_isShop 6 = .ok (.getfield 20, 3) := by decide +kernel
theorem dX5_isShop_9 : decode cX5_isShop 9 = .ok (.iconst 1, 1) := by decide +kernel
theorem dX5_isShop_10 : decode cX5_isShop 10 = .ok (.invokevirtual 52, 3) := by decide +kernel
theorem dX5_isShop_13 : decode cX5_isShop 13 = .ok (.if_icmp .ge 7, 3) := by decide +kernel
theorem dX5_isShop_16 : decode cX5_isShop 16 = .ok (.iconst 1, 1) := by decide +kernel
theorem dX5_isShop_17 : decode cX5_isShop 17 = .ok (.goto 4, 3) := by decide +kernel
theorem dX5_isShop_20 : decode cX5_isShop 20 = .ok (.iconst 0, 1) := by decide +kernel
theorem dX5_isShop_21 : decode cX5_isShop 21 = .ok (.ireturn, 1) := by decide +kernel
theorem dX5_isShopNumber_0 : decode cX5_isShopNumber 0 = .ok (.iload_n 0, 1) := by decide +kernel
theorem dX5_isShopNumber_1 : decode cX5_isShopNumber 1 = .ok (.ifCond .lt 9, 3) := by decide +kernel
theorem dX5_isShopNumber_4 : decode cX5_isShopNumber 4 = .ok (.iload_n 0, 1) := by decide +kernel
theorem dX5_isShopNumber_5 : decode cX5_isShopNumber 5 = .ok (.bipush 6, 2) := by decide +kernel
theorem dX5_isShopNumber_7 : decode cX5_isShopNumber 7 = .ok (.if_icmp .le 27, 3) := by decide +kernel
theorem dX5_isShopNumber_10 : decode cX5_isShopNumber 10 = .ok (.iload_n 0, 1) := by decide +kernel
theorem dX5_isShopNumber_11 : decode cX5_isShopNumber 11 = .ok (.bipush 10, 2) := by decide +kernel
theorem dX5_isShopNumber_13 : decode cX5_isShopNumber 13 = .ok (.if_icmp .lt 9, 3) := by decide +kernel
theorem dX5_isShopNumber_16 : decode cX5_isShopNumber 16 = .ok (.iload_n 0, 1) := by decide +kernel
theorem dX5_isShopNumber_17 : decode cX5_isShopNumber 17 = .ok (.bipush 18, 2) := by decide +kernel
theorem dX5_isShopNumber_19 : decode cX5_isShopNumber 19 = .ok (.if_icmp .lt 15, 3) := by decide +kernel
theorem dX5_isShopNumber_22 : decode cX5_isShopNumber 22 = .ok (.iload_n 0, 1) := by decide +kernel
theorem dX5_isShopNumber_23 : decode cX5_isShopNumber 23 = .ok (.bipush 20, 2) := by decide +kernel
theorem dX5_isShopNumber_25 : decode cX5_isShopNumber 25 = .ok (.if_icmp .lt 13, 3) := by decide +kernel
theorem dX5_isShopNumber_28 : decode cX5_isShopNumber 28 = .ok (.iload_n 0, 1) := by decide +kernel
theorem dX5_isShopNumber_29 : decode cX5_isShopNumber 29 = .ok (.bipush 28, 2) := by decide +kernel
theorem dX5_isShopNumber_31 : decode cX5_isShopNumber 31 = .ok (.if_icmp .ge 7, 3) := by decide +kernel
theorem dX5_isShopNumber_34 : decode cX5_isShopNumber 34 = .ok (.iconst 1, 1) := by decide +kernel
theorem dX5_isShopNumber_35 : decode cX5_isShopNumber 35 = .ok (.goto 4, 3) := by decide +kernel
theorem dX5_isShopNumber_38 : decode cX5_isShopNumber 38 = .ok (.iconst 0, 1) := by decide +kernel
theorem dX5_isShopNumber_39 : decode cX5_isShopNumber 39 = .ok (.ireturn, 1) := by decide +kernel
set_option maxRecDepth 20000 in
theorem ggX5_needBrand_X5_isBrand : GoodIn wsX5_needBrand wsX5_isBrand := goodIn_r _ [7, 8, 9, 10, 11, 12, 13, 14, 15, 16, 17, 18, 19, 20, 21, 22, 23] (by decide +kernel) (by decide +kernel)
set_option maxRecDepth 20000 in
theorem gX5_needBrand_X5_isBrand : GoodIn wsX5_needBrand (wsV RX5 283 RX5 yX5_isBrand wsX5_isBrand) := goodIn_app (goodIn_of _ (by decide +kernel)) ggX5_needBrand_X5_isBrand
theorem dX5_needBrand_0 : decode cX5_needBrand 0 = .ok (.aload_n 0, 1) := by decide +kernel
theorem dX5_needBrand_1 : decode cX5_needBrand 1 = .ok (.iload_n 1, 1) := by decide +kernel
theorem dX5_needBrand_2 : decode cX5_needBrand 2 = .ok (.invokevirtual 283, 3) := by decide +kernel
theorem dX5_needBrand_5 : decode cX5_needBrand 5 = .ok (.ifCond .ne 14, 3) := by decide +kernel
theorem dX5_needBrand_8 : decode cX5_needBrand 8 = .ok (.new 289, 3) := by decide +kernel
theorem dX5_needBrand_11 : decode cX5_needBrand 11 = .ok (.dup, 1) := by decide +kernel
theorem dX5_needBrand_12 : decode cX5_needBrand 12 = .ok (.ldc_w 291, 3) := by decide +kernel
theorem dX5_needBrand_15 : decode cX5_needBrand 15 = .ok (.invokespecial 293, 3) := by decide +kernel
theorem dX5_needBrand_18 : decode cX5_needBrand 18 = .ok (.athrow, 1) := by decide +kernel
theorem dX5_needBrand_19 : decode cX5_needBrand 19 = .ok (.return_, 1) := by decide +kernel
set_option maxRecDepth 20000 in
theorem ggX5_needShop_X5_isShop : GoodIn wsX5_needShop wsX5_isShop := goodIn_r _ [7, 8, 9, 10, 11, 12, 13, 14, 15, 16, 17, 18, 19, 20, 21, 22, 23] (by decide +kernel) (by decide +kernel)
set_option maxRecDepth 20000 in
theorem gX5_needShop_X5_isShop : GoodIn wsX5_needShop (wsV RX5 286 RX5 yX5_isShop wsX5_isShop) := goodIn_app (goodIn_of _ (by decide +kernel)) ggX5_needShop_X5_isShop
theorem dX5_needShop_0 : decode cX5_needShop 0 = .ok (.aload_n 0, 1) := by decide +kernel
theorem dX5_needShop_1 : decode cX5_needShop 1 = .ok (.iload_n 1, 1) := by decide +kernel
theorem dX5_needShop_2 : decode cX5_needShop 2 = .ok (.invokevirtual 286, 3) := by decide +kernel
theorem dX5_needShop_5 : decode cX5_needShop 5 = .ok (.ifCond .ne 14, 3) := by decide +kernel
theorem dX5_needShop_8 : decode cX5_needShop 8 = .ok (.new 289, 3) := by decide +kernel
theorem dX5_needShop_11 : decode cX5_needShop 11 = .ok (.dup, 1) := by decide +kernel
theorem dX5_needShop_12 : decode cX5_needShop 12 = .ok (.ldc_w 296, 3) := by decide +kernel
theorem dX5_needShop_15 : decode cX5_needShop 15 = .ok (.invokespecial 293, 3) := by decide +kernel
theorem dX5_needShop_18 : decode cX5_needShop 18 = .ok (.athrow, 1) := by decide +kernel
theorem dX5_needShop_19 : decode cX5_needShop 19 = .ok (.return_, 1) := by decide +kernel
theorem dX5_needSetting_0 : decode cX5_needSetting 0 = .ok (.iload_n 0, 1) := by decide +kernel
theorem dX5_needSetting_1 : decode cX5_needSetting 1 = .ok (.ifCond .lt 9, 3) := by decide +kernel
theorem dX5_needSetting_4 : decode cX5_needSetting 4 = .ok (.iload_n 0, 1) := by decide +kernel
theorem dX5_needSetting_5 : decode cX5_needSetting 5 = .ok (.bipush 6, 2) := by decide +kernel
theorem dX5_needSetting_7 : decode cX5_needSetting 7 = .ok (.if_icmp .lt 14, 3) := by decide +kernel
theorem dX5_needSetting_10 : decode cX5_needSetting 10 = .ok (.new 289, 3) := by decide +kernel
theorem dX5_needSetting_13 : decode cX5_needSetting 13 = .ok (.dup, 1) := by decide +kernel
theorem dX5_needSetting_14 : decode cX5_needSetting 14 = .ok (.ldc_w 298, 3) := by decide +kernel
theorem dX5_needSetting_17 : decode cX5_needSetting 17 = .ok (.invokespecial 293, 3) := by decide +kernel
theorem dX5_needSetting_20 : decode cX5_needSetting 20 = .ok (.athrow, 1) := by decide +kernel
theorem dX5_needSetting_21 : decode cX5_needSetting 21 = .ok (.return_, 1) := by decide +kernel
set_option maxRecDepth 20000 in
theorem ggX5_needKind_X5_needRange : GoodIn wsX5_needKind wsX5_needRange := goodIn_ca (goodIn_r _ [4, 5, 6, 3, 7, 8, 9] (by decide +kernel) (by decide +kernel)) (goodIn_sub (fun _ h => List.mem_cons_of_mem _ (List.mem_append_right _ h)) (by decide +kernel))
set_option maxRecDepth 20000 in
theorem gX5_needKind_X5_needRange : GoodIn wsX5_needKind (va_wsS RX5 48 yX5_needRange wsX5_needRange) := goodIn_app (goodIn_of _ (by decide +kernel)) ggX5_needKind_X5_needRange
theorem dX5_needKind_0 : decode cX5_needKind 0 = .ok (.iload_n 0, 1) := by decide +kernel
theorem dX5_needKind_1 : decode cX5_needKind 1 = .ok (.iconst 0, 1) := by decide +kernel
theorem dX5_needKind_2 : decode cX5_needKind 2 = .ok (.iconst 2, 1) := by decide +kernel
theorem dX5_needKind_3 : decode cX5_needKind 3 = .ok (.invokestatic 48, 3) := by decide +kernel
theorem dX5_needKind_6 : decode cX5_needKind 6 = .ok (.return_, 1) := by decide +kernel
set_option maxRecDepth 20000 in
theorem ggX5_needRange_X5_needArgument : GoodIn wsX5_needRange wsX5_needArgument := goodIn_ca (goodIn_r _ [4, 5, 6] (by decide +kernel) (by decide +kernel)) (goodIn_sub (fun _ h => List.mem_cons_of_mem _ (List.mem_append_right _ h)) (by decide +kernel))
set_option maxRecDepth 20000 in
theorem gX5_needRange_X5_needArgument : GoodIn wsX5_needRange (va_wsS RX5 153 yX5_needArgument wsX5_needArgument) := goodIn_app (goodIn_of _ (by decide +kernel)) ggX5_needRange_X5_needArgument
theorem dX5_needRange_0 : decode cX5_needRange 0 = .ok (.iload_n 0, 1) := by decide +kernel
theorem dX5_needRange_1 : decode cX5_needRange 1 = .ok (.iload_n 1, 1) := by decide +kernel
theorem dX5_needRange_2 : decode cX5_needRange 2 = .ok (.if_icmp .lt 12, 3) := by decide +kernel
theorem dX5_needRange_5 : decode cX5_needRange 5 = .ok (.iload_n 0, 1) := by decide +kernel
theorem dX5_needRange_6 : decode cX5_needRange 6 = .ok (.iload_n 2, 1) := by decide +kernel
theorem dX5_needRange_7 : decode cX5_needRange 7 = .ok (.if_icmp .gt 7, 3) := by decide +kernel
theorem dX5_needRange_10 : decode cX5_needRange 10 = .ok (.iconst 1, 1) := by decide +kernel
theorem dX5_needRange_11 : decode cX5_needRange 11 = .ok (.goto 4, 3) := by decide +kernel
theorem dX5_needRange_14 : decode cX5_needRange 14 = .ok (.iconst 0, 1) := by decide +kernel
theorem dX5_needRange_15 : decode cX5_needRange 15 = .ok (.invokestatic 153, 3) := by decide +kernel
theorem dX5_needRange_18 : decode cX5_needRange 18 = .ok (.return_, 1) := by decide +kernel
theorem dX5_needArgument_0 : decode cX5_needArgument 0 = .ok (.iload_n 0, 1) := by decide +kernel
theorem dX5_needArgument_1 : decode cX5_needArgument 1 = .ok (.ifCond .ne 14, 3) := by decide +kernel
theorem dX5_needArgument_4 : decode cX5_needArgument 4 = .ok (.new 300, 3) := by decide +kernel
theorem dX5_needArgument_7 : decode cX5_needArgument 7 = .ok (.dup, 1) := by decide +kernel
theorem dX5_needArgument_8 : decode cX5_needArgument 8 = .ok (.ldc_w 302, 3) := by decide +kernel
theorem dX5_needArgument_11 : decode cX5_needArgument 11 = .ok (.invokespecial 304, 3) := by decide +kernel
theorem dX5_needArgument_14 : decode cX5_needArgument 14 = .ok (.athrow, 1) := by decide +kernel
theorem dX5_needArgument_15 : decode cX5_needArgument 15 = .ok (.return_, 1) := by decide +kernel
theorem dX5_needState_0 : decode cX5_needState 0 = .ok (.iload_n 0, 1) := by decide +kernel
theorem dX5_needState_1 : decode cX5_needState 1 = .ok (.ifCond .ne 14, 3) := by decide +kernel
theorem dX5_needState_4 : decode cX5_needState 4 = .ok (.new 305, 3) := by decide +kernel
theorem dX5_needState_7 : decode cX5_needState 7 = .ok (.dup, 1) := by decide +kernel
theorem dX5_needState_8 : decode cX5_needState 8 = .ok (.ldc_w 307, 3) := by decide +kernel
theorem dX5_needState_11 : decode cX5_needState 11 = .ok (.invokespecial 309, 3) := by decide +kernel
theorem dX5_needState_14 : decode cX5_needState 14 = .ok (.athrow, 1) := by decide +kernel
theorem dX5_needState_15 : decode cX5_needState 15 = .ok (.return_, 1) := by decide +kernel
theorem dX5_entry_0 : decode cX5_entry 0 = .ok (.aload_n 0, 1) := by decide +kernel
theorem dX5_entry_1 : decode cX5_entry 1 = .ok (.ifnull 19, 3) := by decide +kernel
theorem dX5_entry_4 : decode cX5_entry 4 = .ok (.iload_n 1, 1) := by decide +kernel
theorem dX5_entry_5 : decode cX5_entry 5 = .ok (.ifCond .lt 15, 3) := by decide +kernel
theorem dX5_entry_8 : decode cX5_entry 8 = .ok (.iload_n 1, 1) := by decide +kernel
theorem dX5_entry_9 : decode cX5_entry 9 = .ok (.aload_n 0, 1) := by decide +kernel
theorem dX5_entry_10 : decode cX5_entry 10 = .ok (.arraylength, 1) := by decide +kernel
theorem dX5_entry_11 : decode cX5_entry 11 = .ok (.if_icmp .ge 9, 3) := by decide +kernel
theorem dX5_entry_14 : decode cX5_entry 14 = .ok (.aload_n 0, 1) := by decide +kernel
theorem dX5_entry_15 : decode cX5_entry 15 = .ok (.iload_n 1, 1) := by decide +kernel
theorem dX5_entry_16 : decode cX5_entry 16 = .ok (.iaload, 1) := by decide +kernel
theorem dX5_entry_17 : decode cX5_entry 17 = .ok (.goto 4, 3) := by decide +kernel
theorem dX5_entry_20 : decode cX5_entry 20 = .ok (.iconst 0, 1) := by decide +kernel
theorem dX5_entry_21 : decode cX5_entry 21 = .ok (.ireturn, 1) := by decide +kernel
theorem dX6_init_0 : decode cX6_init 0 = .ok (.aload_n 0, 1) := by decide +kernel
theorem dX6_init_1 : decode cX6_init 1 = .ok (.invokespecial 1, 3) := by decide +kernel
theorem dX6_init_4 : decode cX6_init 4 = .ok (.aload_n 0, 1) := by decide +kernel
theorem dX6_init_5 : decode cX6_init 5 = .ok (.sipush 283, 3) := by decide +kernel
theorem dX6_init_8 : decode cX6_init 8 = .ok (.newarray .int, 2) := by decide +kernel
theorem dX6_init_10 : decode cX6_init 10 = .ok (.putfield 7, 3) := by decide +kernel
theorem dX6_init_13 : decode cX6_init 13 = .ok (.aload_n 0, 1) := by decide +kernel
theorem dX6_init_14 : decode cX6_init 14 = .ok (.sipush 283, 3) := by decide +kernel
theorem dX6_init_17 : decode cX6_init 17 = .ok (.newarray .int, 2) := by decide +kernel
theorem dX6_init_19 : decode cX6_init 19 = .ok (.putfield 13, 3) := by decide +kernel
theorem dX6_init_22 : decode cX6_init 22 = .ok (.aload_n 0, 1) := by decide +kernel
theorem dX6_init_23 : decode cX6_init 23 = .ok (.sipush 1698, 3) := by decide +kernel
theorem dX6_init_26 : decode cX6_init 26 = .ok (.newarray .int, 2) := by decide +kernel
theorem dX6_init_28 : decode cX6_init 28 = .ok (.putfield 16, 3) := by decide +kernel
theorem dX6_init_31 : decode cX6_init 31 = .ok (.aload_n 0, 1) := by decide +kernel
theorem dX6_init_32 : decode cX6_init 32 = .ok (.bipush 60, 2) := by decide +kernel
theorem dX6_init_34 : decode cX6_init 34 = .ok (.newarray .int, 2) := by decide +kernel
theorem dX6_init_36 : decode cX6_init 36 = .ok (.putfield 19, 3) := by decide +kernel
theorem dX6_init_39 : decode cX6_init 39 = .ok (.aload_n 0, 1) := by decide +kernel
theorem dX6_init_40 : decode cX6_init 40 = .ok (.bipush 6, 2) := by decide +kernel
theorem dX6_init_42 : decode cX6_init 42 = .ok (.newarray .int, 2) := by decide +kernel
theorem dX6_init_44 : decode cX6_init 44 = .ok (.dup, 1) := by decide +kernel
theorem dX6_init_45 : decode cX6_init 45 = .ok (.iconst 0, 1) := by decide +kernel
theorem dX6_init_46 : decode cX6_init 46 = .ok (.iconst 1, 1) := by decide +kernel
theorem dX6_init_47 : decode cX6_init 47 = .ok (.iastore, 1) := by decide +kernel
theorem dX6_init_48 : decode cX6_init 48 = .ok (.dup, 1) := by decide +kernel
theorem dX6_init_49 : decode cX6_init 49 = .ok (.iconst 1, 1) := by decide +kernel
theorem dX6_init_50 : decode cX6_init 50 = .ok (.iconst 1, 1) := by decide +kernel
theorem dX6_init_51 : decode cX6_init 51 = .ok (.iastore, 1) := by decide +kernel
theorem dX6_init_52 : decode cX6_init 52 = .ok (.dup, 1) := by decide +kernel
theorem dX6_init_53 : decode cX6_init 53 = .ok (.iconst 2, 1) := by decide +kernel
theorem dX6_init_54 : decode cX6_init 54 = .ok (.iconst 1, 1) := by decide +kernel
theorem dX6_init_55 : decode cX6_init 55 = .ok (.iastore, 1) := by decide +kernel
theorem dX6_init_56 : decode cX6_init 56 = .ok (.dup, 1) := by decide +kernel
theorem dX6_init_57 : decode cX6_init 57 = .ok (.iconst 3, 1) := by decide +kernel
theorem dX6_init_58 : decode cX6_init 58 = .ok (.iconst 0, 1) := by decide +kernel
theorem dX6_init_59 : decode cX6_init 59 = .ok (.iastore, 1) := by decide +kernel
theorem dX6_init_60 : decode cX6_init 60 = .ok (.dup, 1) := by decide +kernel
theorem dX6_init_61 : decode cX6_init 61 = .ok (.iconst 4, 1) := by decide +kernel
theorem dX6_init_62 : decode cX6_init 62 = .ok (.iconst 0, 1) := by decide +kernel
theorem dX6_init_63 : decode cX6_init 63 = .ok (.iastore, 1) := by decide +kernel
theorem dX6_init_64 : decode cX6_init 64 = .ok (.dup, 1) := by decide +kernel
theorem dX6_init_65 : decode cX6_init 65 = .ok (.iconst 5, 1) := by decide +kernel
theorem dX6_init_66 : decode cX6_init 66 = .ok (.iconst 2, 1) := by decide +kernel
theorem dX6_init_67 : decode cX6_init 67 = .ok (.iastore, 1) := by decide +kernel
theorem dX6_init_68 : decode cX6_init 68 = .ok (.putfield 22, 3) := by decide +kernel
theorem dX6_init_71 : decode cX6_init 71 = .ok (.aload_n 0, 1) := by decide +kernel
theorem dX6_init_72 : decode cX6_init 72 = .ok (.bipush 6, 2) := by decide +kernel
theorem dX6_init_74 : decode cX6_init 74 = .ok (.newarray .int, 2) := by decide +kernel
theorem dX6_init_76 : decode cX6_init 76 = .ok (.dup, 1) := by decide +kernel
theorem dX6_init_77 : decode cX6_init 77 = .ok (.iconst 0, 1) := by decide +kernel
theorem dX6_init_78 : decode cX6_init 78 = .ok (.bipush 100, 2) := by decide +kernel
theorem dX6_init_80 : decode cX6_init 80 = .ok (.iastore, 1) := by decide +kernel
theorem dX6_init_81 : decode cX6_init 81 = .ok (.dup, 1) := by decide +kernel
theorem dX6_init_82 : decode cX6_init 82 = .ok (.iconst 1, 1) := by decide +kernel
theorem dX6_init_83 : decode cX6_init 83 = .ok (.bipush 100, 2) := by decide +kernel
theorem dX6_init_85 : decode cX6_init 85 = .ok (.iastore, 1) := by decide +kernel
theorem dX6_init_86 : decode cX6_init 86 = .ok (.dup, 1) := by decide +kernel
theorem dX6_init_87 : decode cX6_init 87 = .ok (.iconst 2, 1) := by decide +kernel
theorem dX6_init_88 : decode cX6_init 88 = .ok (.bipush 100, 2) := by decide +kernel
theorem dX6_init_90 : decode cX6_init 90 = .ok (.iastore, 1) := by decide +kernel
theorem dX6_init_91 : decode cX6_init 91 = .ok (.dup, 1) := by decide +kernel
theorem dX6_init_92 : decode cX6_init 92 = .ok (.iconst 3, 1) := by decide +kernel
theorem dX6_init_93 : decode cX6_init 93 = .ok (.sipush 500, 3) := by decide +kernel
theorem dX6_init_96 : decode cX6_init 96 = .ok (.iastore, 1) := by decide +kernel
theorem dX6_init_97 : decode cX6_init 97 = .ok (.dup, 1) := by decide +kernel
theorem dX6_init_98 : decode cX6_init 98 = .ok (.iconst 4, 1) := by decide +kernel
theorem dX6_init_99 : decode cX6_init 99 = .ok (.bipush 100, 2) := by decide +kernel
theorem dX6_init_101 : decode cX6_init 101 = .ok (.iastore, 1) := by decide +kernel
theorem dX6_init_102 : decode cX6_init 102 = .ok (.dup, 1) := by decide +kernel
theorem dX6_init_103 : decode cX6_init 103 = .ok (.iconst 5, 1) := by decide +kernel
theorem dX6_init_104 : decode cX6_init 104 = .ok (.sipush 1000, 3) := by decide +kernel
theorem dX6_init_107 : decode cX6_init 107 = .ok (.iastore, 1) := by decide +kernel
theorem dX6_init_108 : decode cX6_init 108 = .ok (.putfield 25, 3) := by decide +kernel
theorem dX6_init_111 : decode cX6_init 111 = .ok (.aload_n 0, 1) := by decide +kernel
theorem dX6_init_112 : decode cX6_init 112 = .ok (.getfield 7, 3) := by decide +kernel
theorem dX6_init_115 : decode cX6_init 115 = .ok (.bipush 7, 2) := by decide +kernel
theorem dX6_init_117 : decode cX6_init 117 = .ok (.bipush 8, 2) := by decide +kernel
theorem dX6_init_119 : decode cX6_init 119 = .ok (.iastore, 1) := by decide +kernel
theorem dX6_init_120 : decode cX6_init 120 = .ok (.aload_n 0, 1) := by decide +kernel
theorem dX6_init_121 : decode cX6_init 121 = .ok (.getfield 7, 3) := by decide +kernel
theorem dX6_init_124 : decode cX6_init 124 = .ok (.bipush 8, 2) := by decide +kernel
theorem dX6_init_126 : decode cX6_init 126 = .ok (.bipush 15, 2) := by decide +kernel
theorem dX6_init_128 : decode cX6_init 128 = .ok (.iastore, 1) := by decide +kernel
theorem dX6_init_129 : decode cX6_init 129 = .ok (.aload_n 0, 1) := by decide +kernel
theorem dX6_init_130 : decode cX6_init 130 = .ok (.getfield 7, 3) := by decide +kernel
theorem dX6_init_133 : decode cX6_init 133 = .ok (.bipush 9, 2) := by decide +kernel
theorem dX6_init_135 : decode cX6_init 135 = .ok (.bipush 25, 2) := by decide +kernel
theorem dX6_init_137 : decode cX6_init 137 = .ok (.iastore, 1) := by decide +kernel
theorem dX6_init_138 : decode cX6_init 138 = .ok (.aload_n 0, 1) := by decide +kernel
theorem dX6_init_139 : decode cX6_init 139 = .ok (.getfield 7, 3) := by decide +kernel
theorem dX6_init_142 : decode cX6_init 142 = .ok (.bipush 10, 2) := by decide +kernel
theorem dX6_init_144 : decode cX6_init 144 = .ok (.sipush 150, 3) := by decide +kernel
theorem dX6_init_147 : decode cX6_init 147 = .ok (.iastore, 1) := by decide +kernel
theorem dX6_init_148 : decode cX6_init 148 = .ok (.aload_n 0, 1) := by decide +kernel
theorem dX6_init_149 : decode cX6_init 149 = .ok (.getfield 7, 3) := by decide +kernel
theorem dX6_init_152 : decode cX6_init 152 = .ok (.bipush 11, 2) := by decide +kernel
theorem dX6_init_154 : decode cX6_init 154 = .ok (.bipush 6, 2) := by decide +kernel
theorem dX6_init_156 : decode cX6_init 156 = .ok (.iastore, 1) := by decide +kernel
theorem dX6_init_157 : decode cX6_init 157 = .ok (.aload_n 0, 1) := by decide +kernel
theorem dX6_init_158 : decode cX6_init 158 = .ok (.getfield 7, 3) := by decide +kernel
theorem dX6_init_161 : decode cX6_init 161 = .ok (.bipush 12, 2) := by decide +kernel
theorem dX6_init_163 : decode cX6_init 163 = .ok (.bipush 20, 2) := by decide +kernel
theorem dX6_init_165 : decode cX6_init 165 = .ok (.iastore, 1) := by decide +kernel
theorem dX6_init_166 : decode cX6_init 166 = .ok (.return_, 1) := by decide +kernel
theorem dX6_thrown_0 : decode cX6_thrown 0 = .ok (.aload_n 0, 1) := by decide +kernel
theorem dX6_thrown_1 : decode cX6_thrown 1 = .ok (.getfield 28, 3) := by decide +kernel
theorem dX6_thrown_4 : decode cX6_thrown 4 = .ok (.ireturn, 1) := by decide +kernel
theorem dX6_in_0 : decode cX6_in 0 = .ok (.iload_n 0, 1) := by decide +kernel
theorem dX6_in_1 : decode cX6_in 1 = .ok (.iload_n 1, 1) := by decide +kernel
theorem dX6_in_2 : decode cX6_in 2 = .ok (.if_icmp .lt 12, 3) := by decide +kernel
theorem dX6_in_5 : decode cX6_in 5 = .ok (.iload_n 0, 1) := by decide +kernel
theorem dX6_in_6 : decode cX6_in 6 = .ok (.iload_n 2, 1) := by decide +kernel
theorem dX6_in_7 : decode cX6_in 7 = .ok (.if_icmp .gt 7, 3) := by decide +kernel
theorem dX6_in_10 : decode cX6_in 10 = .ok (.iconst 1, 1) := by decide +kernel
theorem dX6_in_11 : decode cX6_in 11 = .ok (.goto 4, 3) := by decide +kernel
theorem dX6_in_14 : decode cX6_in 14 = .ok (.iconst 0, 1) := by decide +kernel
theorem dX6_in_15 : decode cX6_in 15 = .ok (.ireturn, 1) := by decide +kernel
theorem dX6_fails_0 : decode cX6_fails 0 = .ok (.aload_n 0, 1) := by decide +kernel
theorem dX6_fails_1 : decode cX6_fails 1 = .ok (.iload_n 1, 1) := by decide +kernel
theorem dX6_fails_2 : decode cX6_fails 2 = .ok (.putfield 28, 3) := by decide +kernel
theorem dX6_fails_5 : decode cX6_fails 5 = .ok (.iconst 0, 1) := by decide +kernel
theorem dX6_fails_6 : decode cX6_fails 6 = .ok (.ireturn, 1) := by decide +kernel
theorem dX6_save_0 : decode cX6_save 0 = .ok (.aload_n 0, 1) := by decide +kernel
theorem dX6_save_1 : decode cX6_save 1 = .ok (.getfield 32, 3) := by decide +kernel
theorem dX6_save_4 : decode cX6_save 4 = .ok (.bipush 6, 2) := by decide +kernel
theorem dX6_save_6 : decode cX6_save 6 = .ok (.if_icmp .ne 44, 3) := by decide +kernel
theorem dX6_save_9 : decode cX6_save 9 = .ok (.iconst 0, 1) := by decide +kernel
theorem dX6_save_10 : decode cX6_save 10 = .ok (.istore_n 1, 1) := by decide +kernel
theorem dX6_save_11 : decode cX6_save 11 = .ok (.iload_n 1, 1) := by decide +kernel
theorem dX6_save_12 : decode cX6_save 12 = .ok (.sipush 1415, 3) := by decide +kernel
theorem dX6_save_15 : decode cX6_save 15 = .ok (.if_icmp .ge 25, 3) := by decide +kernel
theorem dX6_save_18 : decode cX6_save 18 = .ok (.aload_n 0, 1) := by decide +kernel
theorem dX6_save_19 : decode cX6_save 19 = .ok (.getfield 16, 3) := by decide +kernel
theorem dX6_save_22 : decode cX6_save 22 = .ok (.iload_n 1, 1) := by decide +kernel
theorem dX6_save_23 : decode cX6_save 23 = .ok (.aload_n 0, 1) := by decide +kernel
theorem dX6_save_24 : decode cX6_save 24 = .ok (.getfield 16, 3) := by decide +kernel
theorem dX6_save_27 : decode cX6_save 27 = .ok (.iload_n 1, 1) := by decide +kernel
theorem dX6_save_28 : decode cX6_save 28 = .ok (.sipush 283, 3) := by decide +kernel
theorem dX6_save_31 : decode cX6_save 31 = .ok (.iadd, 1) := by decide +kernel
theorem dX6_save_32 : decode cX6_save 32 = .ok (.iaload, 1) := by decide +kernel
theorem dX6_save_33 : decode cX6_save 33 = .ok (.iastore, 1) := by decide +kernel
theorem dX6_save_34 : decode cX6_save 34 = .ok (.iinc 1 1, 3) := by decide +kernel
theorem dX6_save_37 : decode cX6_save 37 = .ok (.goto (-26), 3) := by decide +kernel
theorem dX6_save_40 : decode cX6_save 40 = .ok (.aload_n 0, 1) := by decide +kernel
theorem dX6_save_41 : decode cX6_save 41 = .ok (.dup, 1) := by decide +kernel
theorem dX6_save_42 : decode cX6_save 42 = .ok (.getfield 32, 3) := by decide +kernel
theorem dX6_save_45 : decode cX6_save 45 = .ok (.iconst 1, 1) := by decide +kernel
theorem dX6_save_46 : decode cX6_save 46 = .ok (.isub, 1) := by decide +kernel
theorem dX6_save_47 : decode cX6_save 47 = .ok (.putfield 32, 3) := by decide +kernel
theorem dX6_save_50 : decode cX6_save 50 = .ok (.iconst 0, 1) := by decide +kernel
theorem dX6_save_51 : decode cX6_save 51 = .ok (.istore_n 1, 1) := by decide +kernel
theorem dX6_save_52 : decode cX6_save 52 = .ok (.iload_n 1, 1) := by decide +kernel
theorem dX6_save_53 : decode cX6_save 53 = .ok (.sipush 283, 3) := by decide +kernel
theorem dX6_save_56 : decode cX6_save 56 = .ok (.if_icmp .ge 30, 3) := by decide +kernel
theorem dX6_save_59 : decode cX6_save 59 = .ok (.aload_n 0, 1) := by decide +kernel
theorem dX6_save_60 : decode cX6_save 60 = .ok (.getfield 16, 3) := by decide +kernel
theorem dX6_save_63 : decode cX6_save 63 = .ok (.sipush 283, 3) := by decide +kernel
theorem dX6_save_66 : decode cX6_save 66 = .ok (.aload_n 0, 1) := by decide +kernel
theorem dX6_save_67 : decode cX6_save 67 = .ok (.getfield 32, 3) := by decide +kernel
theorem dX6_save_70 : decode cX6_save 70 = .ok (.imul, 1) := by decide +kernel
theorem dX6_save_71 : decode cX6_save 71 = .ok (.iload_n 1, 1) := by decide +kernel
theorem dX6_save_72 : decode cX6_save 72 = .ok (.iadd, 1) := by decide +kernel
theorem dX6_save_73 : decode cX6_save 73 = .ok (.aload_n 0, 1) := by decide +kernel
theorem dX6_save_74 : decode cX6_save 74 = .ok (.getfield 7, 3) := by decide +kernel
theorem dX6_save_77 : decode cX6_save 77 = .ok (.iload_n 1, 1) := by decide +kernel
theorem dX6_save_78 : decode cX6_save 78 = .ok (.iaload, 1) := by decide +kernel
theorem dX6_save_79 : decode cX6_save 79 = .ok (.iastore, 1) := by decide +kernel
theorem dX6_save_80 : decode cX6_save 80 = .ok (.iinc 1 1, 3) := by decide +kernel
theorem dX6_save_83 : decode cX6_save 83 = .ok (.goto (-31), 3) := by decide +kernel
theorem dX6_save_86 : decode cX6_save 86 = .ok (.aload_n 0, 1) := by decide +kernel
theorem dX6_save_87 : decode cX6_save 87 = .ok (.dup, 1) := by decide +kernel
theorem dX6_save_88 : decode cX6_save 88 = .ok (.getfield 32, 3) := by decide +kernel
theorem dX6_save_91 : decode cX6_save 91 = .ok (.iconst 1, 1) := by decide +kernel
theorem dX6_save_92 : decode cX6_save 92 = .ok (.iadd, 1) := by decide +kernel
theorem dX6_save_93 : decode cX6_save 93 = .ok (.putfield 32, 3) := by decide +kernel
theorem dX6_save_96 : decode cX6_save 96 = .ok (.return_, 1) := by decide +kernel
set_option maxRecDepth 20000 in
theorem ggX6_isBrand_X6_in : GoodIn wsX6_isBrand wsX6_in := goodIn_r _ [5] (by decide +kernel) (by decide +kernel)
set_option maxRecDepth 20000 in
theorem gX6_isBrand_X6_in : GoodIn wsX6_isBrand (va_wsS RX6 35 yX6_in wsX6_in) := goodIn_app (goodIn_of _ (by decide +kernel)) ggX6_isBrand_X6_in
theorem dX6_isBrand_0 : decode cX6_isBrand 0 = .ok (.iload_n 1, 1) := by decide +kernel
theorem dX6_isBrand_1 : decode cX6_isBrand 1 = .ok (.iconst 0, 1) := by decide +kernel
theorem dX6_isBrand_2 : decode cX6_isBrand 2 = .ok (.aload_n 0, 1) := by decide +kernel
theorem dX6_isBrand_3 : decode cX6_isBrand 3 = .ok (.getfield 7, 3) := by decide +kernel
theorem dX6_isBrand_6 : decode cX6_isBrand 6 = .ok (.iconst 0, 1) := by decide +kernel
theorem dX6_isBrand_7 : decode cX6_isBrand 7 = .ok (.iaload, 1) := by decide +kernel
theorem dX6_isBrand_8 : decode cX6_isBrand 8 = .ok (.iconst 1, 1) := by decide +kernel
theorem dX6_isBrand_9 : decode cX6_isBrand 9 = .ok (.isub, 1) := by decide +kernel
theorem dX6_isBrand_10 : decode cX6_isBrand 10 = .ok (.invokestatic 35, 3) := by decide +kernel
theorem dX6_isBrand_13 : decode cX6_isBrand 13 = .ok (.ireturn, 1) := by decide +kernel
set_option maxRecDepth 20000 in
theorem ggX6_isShop_X6_in : GoodIn wsX6_isShop wsX6_in := goodIn_r _ [5] (by decide +kernel) (by decide +kernel)
set_option maxRecDepth 20000 in
theorem gX6_isShop_X6_in : GoodIn wsX6_isShop (va_wsS RX6 35 yX6_in wsX6_in) := goodIn_app (goodIn_of _ (by decide +kernel)) ggX6_isShop_X6_in
theorem dX6_isShop_0 : decode cX6_isShop 0 = .ok (.iload_n 1, 1) := by decide +kernel
theorem dX6_isShop_1 : decode cX6_isShop 1 = .ok (.iconst 0, 1) := by decide +kernel
theorem dX6_isShop_2 : decode cX6_isShop 2 = .ok (.aload_n 0, 1) := by decide +kernel
theorem dX6_isShop_3 : decode cX6_isShop 3 = .ok (.getfield 7, 3) := by decide +kernel
theorem dX6_isShop_6 : decode cX6_isShop 6 = .ok (.iconst 1, 1) := by decide +kernel
theorem dX6_isShop_7 : decode cX6_isShop 7 = .ok (.iaload, 1) := by decide +kernel
theorem dX6_isShop_8 : decode cX6_isShop 8 = .ok (.iconst 1, 1) := by decide +kernel
theorem dX6_isShop_9 : decode cX6_isShop 9 = .ok (.isub, 1) := by decide +kernel
theorem dX6_isShop_10 : decode cX6_isShop 10 = .ok (.invokestatic 35, 3) := by decide +kernel
theorem dX6_isShop_13 : decode cX6_isShop 13 = .ok (.ireturn, 1) := by decide +kernel
theorem dX6_brandAt_0 : decode cX6_brandAt 0 = .ok (.bipush 13, 2) := by decide +kernel
theorem dX6_brandAt_2 : decode cX6_brandAt 2 = .ok (.bipush 10, 2) := by decide +kernel
theorem dX6_brandAt_4 : decode cX6_brandAt 4 = .ok (.iload_n 0, 1) := by decide +kernel
theorem dX6_brandAt_5 : decode cX6_brandAt 5 = .ok (.imul, 1) := by decide +kernel
theorem dX6_brandAt_6 : decode cX6_brandAt 6 = .ok (.iadd, 1) := by decide +kernel
theorem dX6_brandAt_7 : decode cX6_brandAt 7 = .ok (.iload_n 1, 1) := by decide +kernel
theorem dX6_brandAt_8 : decode cX6_brandAt 8 = .ok (.iadd, 1) := by decide +kernel
theorem dX6_brandAt_9 : decode cX6_brandAt 9 = .ok (.ireturn, 1) := by decide +kernel
theorem dX6_shopAt_0 : decode cX6_shopAt 0 = .ok (.bipush 93, 2) := by decide +kernel
theorem dX6_shopAt_2 : decode cX6_shopAt 2 = .ok (.bipush 21, 2) := by decide +kernel
theorem dX6_shopAt_4 : decode cX6_shopAt 4 = .ok (.iload_n 0, 1) := by decide +kernel
theorem dX6_shopAt_5 : decode cX6_shopAt 5 = .ok (.imul, 1) := by decide +kernel
theorem dX6_shopAt_6 : decode cX6_shopAt 6 = .ok (.iadd, 1) := by decide +kernel
theorem dX6_shopAt_7 : decode cX6_shopAt 7 = .ok (.iload_n 1, 1) := by decide +kernel
theorem dX6_shopAt_8 : decode cX6_shopAt 8 = .ok (.iadd, 1) := by decide +kernel
theorem dX6_shopAt_9 : decode cX6_shopAt 9 = .ok (.ireturn, 1) := by decide +kernel
set_option maxRecDepth 20000 in
theorem ggX6_of_X6_brandAt : GoodIn wsX6_of wsX6_brandAt := goodIn_r _ [5] (by decide +kernel) (by decide +kernel)
set_option maxRecDepth 20000 in
theorem gX6_of_X6_brandAt : GoodIn wsX6_of (va_wsS RX6 39 yX6_brandAt wsX6_brandAt) := goodIn_app (goodIn_of _ (by decide +kernel)) ggX6_of_X6_brandAt
theorem dX6_of_0 : decode cX6_of 0 = .ok (.aload_n 0, 1) := by decide +kernel
theorem dX6_of_1 : decode cX6_of 1 = .ok (.getfield 7, 3) := by decide +kernel
theorem dX6_of_4 : decode cX6_of 4 = .ok (.iload_n 1, 1) := by decide +kernel
theorem dX6_of_5 : decode cX6_of 5 = .ok (.iload_n 2, 1) := by decide +kernel
theorem dX6_of_6 : decode cX6_of 6 = .ok (.invokestatic 39, 3) := by decide +kernel
theorem dX6_of_9 : decode cX6_of 9 = .ok (.iaload, 1) := by decide +kernel
theorem dX6_of_10 : decode cX6_of 10 = .ok (.ireturn, 1) := by decide +kernel
set_option maxRecDepth 20000 in
theorem ggX6_ofShop_X6_shopAt : GoodIn wsX6_ofShop wsX6_shopAt := goodIn_r _ [5] (by decide +kernel) (by decide +kernel)
set_option maxRecDepth 20000 in
theorem gX6_ofShop_X6_shopAt : GoodIn wsX6_ofShop (va_wsS RX6 43 yX6_shopAt wsX6_shopAt) := goodIn_app (goodIn_of _ (by decide +kernel)) ggX6_ofShop_X6_shopAt
theorem dX6_ofShop_0 : decode cX6_ofShop 0 = .ok (.aload_n 0, 1) := by decide +kernel
theorem dX6_ofShop_1 : decode cX6_ofShop 1 = .ok (.getfield 7, 3) := by decide +kernel
theorem dX6_ofShop_4 : decode cX6_ofShop 4 = .ok (.iload_n 1, 1) := by decide +kernel
theorem dX6_ofShop_5 : decode cX6_ofShop 5 = .ok (.iload_n 2, 1) := by decide +kernel
theorem dX6_ofShop_6 : decode cX6_ofShop 6 = .ok (.invokestatic 43, 3) := by decide +kernel
theorem dX6_ofShop_9 : decode cX6_ofShop 9 = .ok (.iaload, 1) := by decide +kernel
theorem dX6_ofShop_10 : decode cX6_ofShop 10 = .ok (.ireturn, 1) := by decide +kernel
set_option maxRecDepth 20000 in
theorem ggX6_deposit_X6_of : GoodIn wsX6_deposit wsX6_of := goodIn_r _ [6, 1, 7, 8, 5, 9, 10, 11, 12, 13, 14, 15, 16, 17, 18, 19, 20, 21, 22, 23, 24, 25] (by decide +kernel) (by decide +kernel)
set_option maxRecDepth 20000 in
theorem gX6_deposit_X6_of : GoodIn wsX6_deposit (wsV RX6 46 RX6 yX6_of wsX6_of) := goodIn_app (goodIn_of _ (by decide +kernel)) ggX6_deposit_X6_of
theorem dX6_deposit_0 : decode cX6_deposit 0 = .ok (.aload_n 0, 1) := by decide +kernel
theorem dX6_deposit_1 : decode cX6_deposit 1 = .ok (.getfield 7, 3) := by decide +kernel
theorem dX6_deposit_4 : decode cX6_deposit 4 = .ok (.bipush 7, 2) := by decide +kernel
theorem dX6_deposit_6 : decode cX6_deposit 6 = .ok (.aload_n 0, 1) := by decide +kernel
theorem dX6_deposit_7 : decode cX6_deposit 7 = .ok (.iload_n 1, 1) := by decide +kernel
theorem dX6_deposit_8 : decode cX6_deposit 8 = .ok (.iconst 0, 1) := by decide +kernel
theorem dX6_deposit_9 : decode cX6_deposit 9 = .ok (.invokevirtual 46, 3) := by decide +kernel
theorem dX6_deposit_12 : decode cX6_deposit 12 = .ok (.iadd, 1) := by decide +kernel
theorem dX6_deposit_13 : decode cX6_deposit 13 = .ok (.iaload, 1) := by decide +kernel
theorem dX6_deposit_14 : decode cX6_deposit 14 = .ok (.ireturn, 1) := by decide +kernel
theorem dX6_least_0 : decode cX6_least 0 = .ok (.iload_n 0, 1) := by decide +kernel
theorem dX6_least_1 : decode cX6_least 1 = .ok (.iload_n 1, 1) := by decide +kernel
theorem dX6_least_2 : decode cX6_least 2 = .ok (.if_icmp .ge 7, 3) := by decide +kernel
theorem dX6_least_5 : decode cX6_least 5 = .ok (.iload_n 0, 1) := by decide +kernel
theorem dX6_least_6 : decode cX6_least 6 = .ok (.goto 4, 3) := by decide +kernel
theorem dX6_least_9 : decode cX6_least 9 = .ok (.iload_n 1, 1) := by decide +kernel
theorem dX6_least_10 : decode cX6_least 10 = .ok (.ireturn, 1) := by decide +kernel
set_option maxRecDepth 20000 in
theorem ggX6_addBrand_X6_in : GoodIn wsX6_addBrand wsX6_in := goodIn_r _ [6] (by decide +kernel) (by decide +kernel)
set_option maxRecDepth 20000 in
theorem gX6_addBrand_X6_in : GoodIn wsX6_addBrand (va_wsS RX6 35 yX6_in wsX6_in) := goodIn_app (goodIn_of _ (by decide +kernel)) ggX6_addBrand_X6_in
set_option maxRecDepth 20000 in
theorem ggX6_addBrand_X6_fails : GoodIn wsX6_addBrand wsX6_fails := goodIn_r _ [10, 1, 20, 21, 22, 23, 24, 25, 26, 27, 28, 29, 30, 31, 32, 33, 34, 35] (by decide +kernel) (by decide +kernel)
set_option maxRecDepth 20000 in
theorem gX6_addBrand_X6_fails : GoodIn wsX6_addBrand (wsV RX6 49 RX6 yX6_fails wsX6_fails) := goodIn_app (goodIn_of _ (by decide +kernel)) ggX6_addBrand_X6_fails
set_option maxRecDepth 20000 in
theorem ggX6_addBrand_X6_save : GoodIn wsX6_addBrand wsX6_save := goodIn_r _ [14, 15, 16, 2, 20, 21, 22, 23, 24, 25, 26, 27, 28, 29, 30, 31, 32, 33, 34, 35] (by decide +kernel) (by decide +kernel)
set_option maxRecDepth 20000 in
theorem gX6_addBrand_X6_save : GoodIn wsX6_addBrand (wsV RX6 53 RX6 yX6_save wsX6_save) := goodIn_app (goodIn_of _ (by decide +kernel)) ggX6_addBrand_X6_save
set_option maxRecDepth 20000 in
theorem ggX6_addBrand_X6_brandAt : GoodIn wsX6_addBrand wsX6_brandAt := goodIn_r _ [19] (by decide +kernel) (by decide +kernel)
set_option maxRecDepth 20000 in
theorem gX6_addBrand_X6_brandAt : GoodIn wsX6_addBrand (va_wsS RX6 39 yX6_brandAt wsX6_brandAt) := goodIn_app (goodIn_of _ (by decide +kernel)) ggX6_addBrand_X6_brandAt
theorem dX6_addBrand_0 : decode cX6_addBrand 0 = .ok (.aload_n 0, 1) := by decide +kernel
theorem dX6_addBrand_1 : decode cX6_addBrand 1 = .ok (.iconst 0, 1) := by decide +kernel
theorem dX6_addBrand_2 : decode cX6_addBrand 2 = .ok (.putfield 28, 3) := by decide +kernel
theorem dX6_addBrand_5 : decode cX6_addBrand 5 = .ok (.iload_n 1, 1) := by decide +kernel
theorem dX6_addBrand_6 : decode cX6_addBrand 6 = .ok (.iconst 0, 1) := by decide +kernel
theorem dX6_addBrand_7 : decode cX6_addBrand 7 = .ok (.iconst 2, 1) := by decide +kernel
theorem dX6_addBrand_8 : decode cX6_addBrand 8 = .ok (.invokestatic 35, 3) := by decide +kernel
theorem dX6_addBrand_11 : decode cX6_addBrand 11 = .ok (.ifCond .eq 14, 3) := by decide +kernel
theorem dX6_addBrand_14 : decode cX6_addBrand 14 = .ok (.iload_n 2, 1) := by decide +kernel
theorem dX6_addBrand_15 : decode cX6_addBrand 15 = .ok (.iconst 0, 1) := by decide +kernel
theorem dX6_addBrand_16 : decode cX6_addBrand 16 = .ok (.sipush 5000, 3) := by decide +kernel
theorem dX6_addBrand_19 : decode cX6_addBrand 19 = .ok (.invokestatic 35, 3) := by decide +kernel
theorem dX6_addBrand_22 : decode cX6_addBrand 22 = .ok (.ifCond .ne 9, 3) := by decide +kernel
theorem dX6_addBrand_25 : decode cX6_addBrand 25 = .ok (.aload_n 0, 1) := by decide +kernel
theorem dX6_addBrand_26 : decode cX6_addBrand 26 = .ok (.iconst 1, 1) := by decide +kernel
theorem dX6_addBrand_27 : decode cX6_addBrand 27 = .ok (.invokevirtual 49, 3) := by decide +kernel
theorem dX6_addBrand_30 : decode cX6_addBrand 30 = .ok (.ireturn, 1) := by decide +kernel
theorem dX6_addBrand_31 : decode cX6_addBrand 31 = .ok (.aload_n 0, 1) := by decide +kernel
theorem dX6_addBrand_32 : decode cX6_addBrand 32 = .ok (.getfield 7, 3) := by decide +kernel
theorem dX6_addBrand_35 : decode cX6_addBrand 35 = .ok (.iconst 0, 1) := by decide +kernel
theorem dX6_addBrand_36 : decode cX6_addBrand 36 = .ok (.iaload, 1) := by decide +kernel
theorem dX6_addBrand_37 : decode cX6_addBrand 37 = .ok (.bipush 8, 2) := by decide +kernel
theorem dX6_addBrand_39 : decode cX6_addBrand 39 = .ok (.if_icmp .ne 9, 3) := by decide +kernel
theorem dX6_addBrand_42 : decode cX6_addBrand 42 = .ok (.aload_n 0, 1) := by decide +kernel
theorem dX6_addBrand_43 : decode cX6_addBrand 43 = .ok (.iconst 2, 1) := by decide +kernel
theorem dX6_addBrand_44 : decode cX6_addBrand 44 = .ok (.invokevirtual 49, 3) := by decide +kernel
theorem dX6_addBrand_47 : decode cX6_addBrand 47 = .ok (.ireturn, 1) := by decide +kernel
theorem dX6_addBrand_48 : decode cX6_addBrand 48 = .ok (.aload_n 0, 1) := by decide +kernel
theorem dX6_addBrand_49 : decode cX6_addBrand 49 = .ok (.invokevirtual 53, 3) := by decide +kernel
theorem dX6_addBrand_52 : decode cX6_addBrand 52 = .ok (.aload_n 0, 1) := by decide +kernel
theorem dX6_addBrand_53 : decode cX6_addBrand 53 = .ok (.getfield 7, 3) := by decide +kernel
theorem dX6_addBrand_56 : decode cX6_addBrand 56 = .ok (.aload_n 0, 1) := by decide +kernel
theorem dX6_addBrand_57 : decode cX6_addBrand 57 = .ok (.getfield 7, 3) := by decide +kernel
theorem dX6_addBrand_60 : decode cX6_addBrand 60 = .ok (.iconst 0, 1) := by decide +kernel
theorem dX6_addBrand_61 : decode cX6_addBrand 61 = .ok (.iaload, 1) := by decide +kernel
theorem dX6_addBrand_62 : decode cX6_addBrand 62 = .ok (.iconst 0, 1) := by decide +kernel
theorem dX6_addBrand_63 : decode cX6_addBrand 63 = .ok (.invokestatic 39, 3) := by decide +kernel
theorem dX6_addBrand_66 : decode cX6_addBrand 66 = .ok (.iload_n 1, 1) := by decide +kernel
theorem dX6_addBrand_67 : decode cX6_addBrand 67 = .ok (.iastore, 1) := by decide +kernel
theorem dX6_addBrand_68 : decode cX6_addBrand 68 = .ok (.aload_n 0, 1) := by decide +kernel
theorem dX6_addBrand_69 : decode cX6_addBrand 69 = .ok (.getfield 7, 3) := by decide +kernel
theorem dX6_addBrand_72 : decode cX6_addBrand 72 = .ok (.aload_n 0, 1) := by decide +kernel
theorem dX6_addBrand_73 : decode cX6_addBrand 73 = .ok (.getfield 7, 3) := by decide +kernel
theorem dX6_addBrand_76 : decode cX6_addBrand 76 = .ok (.iconst 0, 1) := by decide +kernel
theorem dX6_addBrand_77 : decode cX6_addBrand 77 = .ok (.iaload, 1) := by decide +kernel
theorem dX6_addBrand_78 : decode cX6_addBrand 78 = .ok (.iconst 1, 1) := by decide +kernel
theorem dX6_addBrand_79 : decode cX6_addBrand 79 = .ok (.invokestatic 39, 3) := by decide +kernel
theorem dX6_addBrand_82 : decode cX6_addBrand 82 = .ok (.iload_n 2, 1) := by decide +kernel
theorem dX6_addBrand_83 : decode cX6_addBrand 83 = .ok (.iastore, 1) := by decide +kernel
theorem dX6_addBrand_84 : decode cX6_addBrand 84 = .ok (.aload_n 0, 1) := by decide +kernel
theorem dX6_addBrand_85 : decode cX6_addBrand 85 = .ok (.getfield 7, 3) := by decide +kernel
theorem dX6_addBrand_88 : decode cX6_addBrand 88 = .ok (.iconst 0, 1) := by decide +kernel
theorem dX6_addBrand_89 : decode cX6_addBrand 89 = .ok (.dup2, 1) := by decide +kernel
theorem dX6_addBrand_90 : decode cX6_addBrand 90 = .ok (.iaload, 1) := by decide +kernel
theorem dX6_addBrand_91 : decode cX6_addBrand 91 = .ok (.iconst 1, 1) := by decide +kernel
theorem dX6_addBrand_92 : decode cX6_addBrand 92 = .ok (.iadd, 1) := by decide +kernel
theorem dX6_addBrand_93 : decode cX6_addBrand 93 = .ok (.iastore, 1) := by decide +kernel
theorem dX6_addBrand_94 : decode cX6_addBrand 94 = .ok (.aload_n 0, 1) := by decide +kernel
theorem dX6_addBrand_95 : decode cX6_addBrand 95 = .ok (.getfield 7, 3) := by decide +kernel
theorem dX6_addBrand_98 : decode cX6_addBrand 98 = .ok (.iconst 0, 1) := by decide +kernel
theorem dX6_addBrand_99 : decode cX6_addBrand 99 = .ok (.iaload, 1) := by decide +kernel
theorem dX6_addBrand_100 : decode cX6_addBrand 100 = .ok (.iconst 1, 1) := by decide +kernel
theorem dX6_addBrand_101 : decode cX6_addBrand 101 = .ok (.isub, 1) := by decide +kernel
theorem dX6_addBrand_102 : decode cX6_addBrand 102 = .ok (.ireturn, 1) := by decide +kernel
set_option maxRecDepth 20000 in
theorem ggX6_addShop_X6_in : GoodIn wsX6_addShop wsX6_in := goodIn_r _ [7] (by decide +kernel) (by decide +kernel)
set_option maxRecDepth 20000 in
theorem gX6_addShop_X6_in : GoodIn wsX6_addShop (va_wsS RX6 35 yX6_in wsX6_in) := goodIn_app (goodIn_of _ (by decide +kernel)) ggX6_addShop_X6_in
set_option maxRecDepth 20000 in
theorem ggX6_addShop_X6_fails : GoodIn wsX6_addShop wsX6_fails := goodIn_r _ [11, 1, 21, 22, 23, 24, 25, 26, 27, 28, 29, 30, 31, 32, 33, 34, 35, 36] (by decide +kernel) (by decide +kernel)
set_option maxRecDepth 20000 in
theorem gX6_addShop_X6_fails : GoodIn wsX6_addShop (wsV RX6 49 RX6 yX6_fails wsX6_fails) := goodIn_app (goodIn_of _ (by decide +kernel)) ggX6_addShop_X6_fails
set_option maxRecDepth 20000 in
theorem ggX6_addShop_X6_save : GoodIn wsX6_addShop wsX6_save := goodIn_r _ [15, 16, 17, 3, 21, 22, 23, 24, 25, 26, 27, 28, 29, 30, 31, 32, 33, 34, 35, 36] (by decide +kernel) (by decide +kernel)
set_option maxRecDepth 20000 in
theorem gX6_addShop_X6_save : GoodIn wsX6_addShop (wsV RX6 53 RX6 yX6_save wsX6_save) := goodIn_app (goodIn_of _ (by decide +kernel)) ggX6_addShop_X6_save
set_option maxRecDepth 20000 in
theorem ggX6_addShop_X6_shopAt : GoodIn wsX6_addShop wsX6_shopAt := goodIn_r _ [20] (by decide +kernel) (by decide +kernel)
set_option maxRecDepth 20000 in
theorem gX6_addShop_X6_shopAt : GoodIn wsX6_addShop (va_wsS RX6 43 yX6_shopAt wsX6_shopAt) := goodIn_app (goodIn_of _ (by decide +kernel)) ggX6_addShop_X6_shopAt
theorem dX6_addShop_0 : decode cX6_addShop 0 = .ok (.aload_n 0, 1) := by decide +kernel
theorem dX6_addShop_1 : decode cX6_addShop 1 = .ok (.iconst 0, 1) := by decide +kernel
theorem dX6_addShop_2 : decode cX6_addShop 2 = .ok (.putfield 28, 3) := by decide +kernel
theorem dX6_addShop_5 : decode cX6_addShop 5 = .ok (.iload_n 1, 1) := by decide +kernel
theorem dX6_addShop_6 : decode cX6_addShop 6 = .ok (.iconst 0, 1) := by decide +kernel
theorem dX6_addShop_7 : decode cX6_addShop 7 = .ok (.ldc 56, 2) := by decide +kernel
theorem dX6_addShop_9 : decode cX6_addShop 9 = .ok (.invokestatic 35, 3) := by decide +kernel
theorem dX6_addShop_12 : decode cX6_addShop 12 = .ok (.ifCond .ne 9, 3) := by decide +kernel
theorem dX6_addShop_15 : decode cX6_addShop 15 = .ok (.aload_n 0, 1) := by decide +kernel
theorem dX6_addShop_16 : decode cX6_addShop 16 = .ok (.iconst 1, 1) := by decide +kernel
theorem dX6_addShop_17 : decode cX6_addShop 17 = .ok (.invokevirtual 49, 3) := by decide +kernel
theorem dX6_addShop_20 : decode cX6_addShop 20 = .ok (.ireturn, 1) := by decide +kernel
theorem dX6_addShop_21 : decode cX6_addShop 21 = .ok (.aload_n 0, 1) := by decide +kernel
theorem dX6_addShop_22 : decode cX6_addShop 22 = .ok (.getfield 7, 3) := by decide +kernel
theorem dX6_addShop_25 : decode cX6_addShop 25 = .ok (.iconst 1, 1) := by decide +kernel
theorem dX6_addShop_26 : decode cX6_addShop 26 = .ok (.iaload, 1) := by decide +kernel
theorem dX6_addShop_27 : decode cX6_addShop 27 = .ok (.bipush 6, 2) := by decide +kernel
theorem dX6_addShop_29 : decode cX6_addShop 29 = .ok (.if_icmp .ne 9, 3) := by decide +kernel
theorem dX6_addShop_32 : decode cX6_addShop 32 = .ok (.aload_n 0, 1) := by decide +kernel
theorem dX6_addShop_33 : decode cX6_addShop 33 = .ok (.iconst 2, 1) := by decide +kernel
theorem dX6_addShop_34 : decode cX6_addShop 34 = .ok (.invokevirtual 49, 3) := by decide +kernel
theorem dX6_addShop_37 : decode cX6_addShop 37 = .ok (.ireturn, 1) := by decide +kernel
theorem dX6_addShop_38 : decode cX6_addShop 38 = .ok (.aload_n 0, 1) := by decide +kernel
theorem dX6_addShop_39 : decode cX6_addShop 39 = .ok (.invokevirtual 53, 3) := by decide +kernel
theorem dX6_addShop_42 : decode cX6_addShop 42 = .ok (.aload_n 0, 1) := by decide +kernel
theorem dX6_addShop_43 : decode cX6_addShop 43 = .ok (.getfield 7, 3) := by decide +kernel
theorem dX6_addShop_46 : decode cX6_addShop 46 = .ok (.aload_n 0, 1) := by decide +kernel
theorem dX6_addShop_47 : decode cX6_addShop 47 = .ok (.getfield 7, 3) := by decide +kernel
theorem dX6_addShop_50 : decode cX6_addShop 50 = .ok (.iconst 1, 1) := by decide +kernel
theorem dX6_addShop_51 : decode cX6_addShop 51 = .ok (.iaload, 1) := by decide +kernel
theorem dX6_addShop_52 : decode cX6_addShop 52 = .ok (.iconst 0, 1) := by decide +kernel
theorem dX6_addShop_53 : decode cX6_addShop 53 = .ok (.invokestatic 43, 3) := by decide +kernel
theorem dX6_addShop_56 : decode cX6_addShop 56 = .ok (.iload_n 1, 1) := by decide +kernel
theorem dX6_addShop_57 : decode cX6_addShop 57 = .ok (.iastore, 1) := by decide +kernel
theorem dX6_addShop_58 : decode cX6_addShop 58 = .ok (.aload_n 0, 1) := by decide +kernel
theorem dX6_addShop_59 : decode cX6_addShop 59 = .ok (.getfield 7, 3) := by decide +kernel
theorem dX6_addShop_62 : decode cX6_addShop 62 = .ok (.iconst 1, 1) := by decide +kernel
theorem dX6_addShop_63 : decode cX6_addShop 63 = .ok (.dup2, 1) := by decide +kernel
theorem dX6_addShop_64 : decode cX6_addShop 64 = .ok (.iaload, 1) := by decide +kernel
theorem dX6_addShop_65 : decode cX6_addShop 65 = .ok (.iconst 1, 1) := by decide +kernel
theorem dX6_addShop_66 : decode cX6_addShop 66 = .ok (.iadd, 1) := by decide +kernel
theorem dX6_addShop_67 : decode cX6_addShop 67 = .ok (.iastore, 1) := by decide +kernel
theorem dX6_addShop_68 : decode cX6_addShop 68 = .ok (.aload_n 0, 1) := by decide +kernel
theorem dX6_addShop_69 : decode cX6_addShop 69 = .ok (.getfield 7, 3) := by decide +kernel
theorem dX6_addShop_72 : decode cX6_addShop 72 = .ok (.iconst 1, 1) := by decide +kernel
theorem dX6_addShop_73 : decode cX6_addShop 73 = .ok (.iaload, 1) := by decide +kernel
theorem dX6_addShop_74 : decode cX6_addShop 74 = .ok (.iconst 1, 1) := by decide +kernel
theorem dX6_addShop_75 : decode cX6_addShop 75 = .ok (.isub, 1) := by decide +kernel
theorem dX6_addShop_76 : decode cX6_addShop 76 = .ok (.ireturn, 1) := by decide +kernel
set_option maxRecDepth 20000 in
theorem ggX6_cratesInShops_X6_ofShop : GoodIn wsX6_cratesInShops wsX6_ofShop := goodIn_r _ [6, 1, 7, 8, 5, 9, 10, 11, 12, 13, 14, 15, 16, 17, 18, 19, 20, 21, 22, 23, 24, 25] (by decide +kernel) (by decide +kernel)
set_option maxRecDepth 20000 in
theorem gX6_cratesInShops_X6_ofShop : GoodIn wsX6_cratesInShops (wsV RX6 57 RX6 yX6_ofShop wsX6_ofShop) := goodIn_app (goodIn_of _ (by decide +kernel)) ggX6_cratesInShops_X6_ofShop
theorem dX6_cratesInShops_0 : decode cX6_cratesInShops 0 = .ok (.iconst 0, 1) := by decide +kernel
theorem dX6_cratesInShops_1 : decode cX6_cratesInShops 1 = .ok (.istore_n 1, 1) := by decide +kernel
theorem dX6_cratesInShops_2 : decode cX6_cratesInShops 2 = .ok (.iconst 0, 1) := by decide +kernel
theorem dX6_cratesInShops_3 : decode cX6_cratesInShops 3 = .ok (.istore_n 2, 1) := by decide +kernel
theorem dX6_cratesInShops_4 : decode cX6_cratesInShops 4 = .ok (.iload_n 2, 1) := by decide +kernel
theorem dX6_cratesInShops_5 : decode cX6_cratesInShops 5 = .ok (.aload_n 0, 1) := by decide +kernel
theorem dX6_cratesInShops_6 : decode cX6_cratesInShops 6 = .ok (.getfield 7, 3) := by decide +kernel
theorem dX6_cratesInShops_9 : decode cX6_cratesInShops 9 = .ok (.iconst 1, 1) := by decide +kernel
theorem dX6_cratesInShops_10 : decode cX6_cratesInShops 10 = .ok (.iaload, 1) := by decide +kernel
theorem dX6_cratesInShops_11 : decode cX6_cratesInShops 11 = .ok (.if_icmp .ge 18, 3) := by decide +kernel
theorem dX6_cratesInShops_14 : decode cX6_cratesInShops 14 = .ok (.iload_n 1, 1) := by decide +kernel
theorem dX6_cratesInShops_15 : decode cX6_cratesInShops 15 = .ok (.aload_n 0, 1) := by decide +kernel
theorem dX6_cratesInShops_16 : decode cX6_cratesInShops 16 = .ok (.iload_n 2, 1) := by decide +kernel
theorem dX6_cratesInShops_17 : decode cX6_cratesInShops 17 = .ok (.iconst 1, 1) := by decide +kernel
theorem dX6_cratesInShops_18 : decode cX6_cratesInShops 18 = .ok (.invokevirtual 57, 3) := by decide +kernel
theorem dX6_cratesInShops_21 : decode cX6_cratesInShops 21 = .ok (.iadd, 1) := by decide +kernel
theorem dX6_cratesInShops_22 : decode cX6_cratesInShops 22 = .ok (.istore_n 1, 1) := by decide +kernel
theorem dX6_cratesInShops_23 : decode cX6_cratesInShops 23 = .ok (.iinc 2 1, 3) := by decide +kernel
theorem dX6_cratesInShops_26 : decode cX6_cratesInShops 26 = .ok (.goto (-22), 3) := by decide +kernel
theorem dX6_cratesInShops_29 : decode cX6_cratesInShops 29 = .ok (.iload_n 1, 1) := by decide +kernel
theorem dX6_cratesInShops_30 : decode cX6_cratesInShops 30 = .ok (.ireturn, 1) := by decide +kernel
set_option maxRecDepth 20000 in
theorem ggX6_buyCrates_X6_in : GoodIn wsX6_buyCrates wsX6_in := goodIn_r _ [6] (by decide +kernel) (by decide +kernel)
set_option maxRecDepth 20000 in
theorem gX6_buyCrates_X6_in : GoodIn wsX6_buyCrates (va_wsS RX6 35 yX6_in wsX6_in) := goodIn_app (goodIn_of _ (by decide +kernel)) ggX6_buyCrates_X6_in
set_option maxRecDepth 20000 in
theorem ggX6_buyCrates_X6_fails : GoodIn wsX6_buyCrates wsX6_fails := goodIn_r _ [10, 1, 28, 29, 30, 31, 32, 33, 34, 35, 36, 37, 38, 39, 40, 41, 42, 43] (by decide +kernel) (by decide +kernel)
set_option maxRecDepth 20000 in
theorem gX6_buyCrates_X6_fails : GoodIn wsX6_buyCrates (wsV RX6 49 RX6 yX6_fails wsX6_fails) := goodIn_app (goodIn_of _ (by decide +kernel)) ggX6_buyCrates_X6_fails
set_option maxRecDepth 20000 in
theorem ggX6_buyCrates_X6_cratesInShops : GoodIn wsX6_buyCrates wsX6_cratesInShops := goodIn_r _ [14, 2, 15, 16, 17, 5, 18, 19, 20, 21, 28, 29, 30, 31, 32, 33, 34, 35, 36, 37, 38, 39, 40, 41, 42, 43] (by decide +kernel) (by decide +kernel)
set_option maxRecDepth 20000 in
theorem gX6_buyCrates_X6_cratesInShops : GoodIn wsX6_buyCrates (wsV RX6 60 RX6 yX6_cratesInShops wsX6_cratesInShops) := goodIn_app (goodIn_of _ (by decide +kernel)) ggX6_buyCrates_X6_cratesInShops
set_option maxRecDepth 20000 in
theorem ggX6_buyCrates_X6_save : GoodIn wsX6_buyCrates wsX6_save := goodIn_r _ [25, 26, 27, 2, 28, 29, 30, 31, 32, 33, 34, 35, 36, 37, 38, 39, 40, 41, 42, 43] (by decide +kernel) (by decide +kernel)
set_option maxRecDepth 20000 in
theorem gX6_buyCrates_X6_save : GoodIn wsX6_buyCrates (wsV RX6 53 RX6 yX6_save wsX6_save) := goodIn_app (goodIn_of _ (by decide +kernel)) ggX6_buyCrates_X6_save
theorem dX6_buyCrates_0 : decode cX6_buyCrates 0 = .ok (.aload_n 0, 1) := by decide +kernel
theorem dX6_buyCrates_1 : decode cX6_buyCrates 1 = .ok (.iconst 0, 1) := by decide +kernel
theorem dX6_buyCrates_2 : decode cX6_buyCrates 2 = .ok (.putfield 28, 3) := by decide +kernel
theorem dX6_buyCrates_5 : decode cX6_buyCrates 5 = .ok (.iload_n 1, 1) := by decide +kernel
theorem dX6_buyCrates_6 : decode cX6_buyCrates 6 = .ok (.iconst 1, 1) := by decide +kernel
theorem dX6_buyCrates_7 : decode cX6_buyCrates 7 = .ok (.sipush 500, 3) := by decide +kernel
theorem dX6_buyCrates_10 : decode cX6_buyCrates 10 = .ok (.invokestatic 35, 3) := by decide +kernel
theorem dX6_buyCrates_13 : decode cX6_buyCrates 13 = .ok (.ifCond .ne 9, 3) := by decide +kernel
theorem dX6_buyCrates_16 : decode cX6_buyCrates 16 = .ok (.aload_n 0, 1) := by decide +kernel
theorem dX6_buyCrates_17 : decode cX6_buyCrates 17 = .ok (.iconst 1, 1) := by decide +kernel
theorem dX6_buyCrates_18 : decode cX6_buyCrates 18 = .ok (.invokevirtual 49, 3) := by decide +kernel
theorem dX6_buyCrates_21 : decode cX6_buyCrates 21 = .ok (.ireturn, 1) := by decide +kernel
theorem dX6_buyCrates_22 : decode cX6_buyCrates 22 = .ok (.aload_n 0, 1) := by decide +kernel
theorem dX6_buyCrates_23 : decode cX6_buyCrates 23 = .ok (.getfield 7, 3) := by decide +kernel
theorem dX6_buyCrates_26 : decode cX6_buyCrates 26 = .ok (.iconst 2, 1) := by decide +kernel
theorem dX6_buyCrates_27 : decode cX6_buyCrates 27 = .ok (.iaload, 1) := by decide +kernel
theorem dX6_buyCrates_28 : decode cX6_buyCrates 28 = .ok (.aload_n 0, 1) := by decide +kernel
theorem dX6_buyCrates_29 : decode cX6_buyCrates 29 = .ok (.invokevirtual 60, 3) := by decide +kernel
theorem dX6_buyCrates_32 : decode cX6_buyCrates 32 = .ok (.iadd, 1) := by decide +kernel
theorem dX6_buyCrates_33 : decode cX6_buyCrates 33 = .ok (.iload_n 1, 1) := by decide +kernel
theorem dX6_buyCrates_34 : decode cX6_buyCrates 34 = .ok (.iadd, 1) := by decide +kernel
theorem dX6_buyCrates_35 : decode cX6_buyCrates 35 = .ok (.sipush 1000, 3) := by decide +kernel
theorem dX6_buyCrates_38 : decode cX6_buyCrates 38 = .ok (.if_icmp .le 9, 3) := by decide +kernel
theorem dX6_buyCrates_41 : decode cX6_buyCrates 41 = .ok (.aload_n 0, 1) := by decide +kernel
theorem dX6_buyCrates_42 : decode cX6_buyCrates 42 = .ok (.iconst 2, 1) := by decide +kernel
theorem dX6_buyCrates_43 : decode cX6_buyCrates 43 = .ok (.invokevirtual 49, 3) := by decide +kernel
theorem dX6_buyCrates_46 : decode cX6_buyCrates 46 = .ok (.ireturn, 1) := by decide +kernel
theorem dX6_buyCrates_47 : decode cX6_buyCrates 47 = .ok (.aload_n 0, 1) := by decide +kernel
theorem dX6_buyCrates_48 : decode cX6_buyCrates 48 = .ok (.invokevirtual 53, 3) := by decide +kernel
theorem dX6_buyCrates_51 : decode cX6_buyCrates 51 = .ok (.aload_n 0, 1) := by decide +kernel
theorem dX6_buyCrates_52 : decode cX6_buyCrates 52 = .ok (.getfield 7, 3) := by decide +kernel
theorem dX6_buyCrates_55 : decode cX6_buyCrates 55 = .ok (.iconst 2, 1) := by decide +kernel
theorem dX6_buyCrates_56 : decode cX6_buyCrates 56 = .ok (.dup2, 1) := by decide +kernel
theorem dX6_buyCrates_57 : decode cX6_buyCrates 57 = .ok (.iaload, 1) := by decide +kernel
theorem dX6_buyCrates_58 : decode cX6_buyCrates 58 = .ok (.iload_n 1, 1) := by decide +kernel
theorem dX6_buyCrates_59 : decode cX6_buyCrates 59 = .ok (.iadd, 1) := by decide +kernel
theorem dX6_buyCrates_60 : decode cX6_buyCrates 60 = .ok (.iastore, 1) := by decide +kernel
theorem dX6_buyCrates_61 : decode cX6_buyCrates 61 = .ok (.aload_n 0, 1) := by decide +kernel
theorem dX6_buyCrates_62 : decode cX6_buyCrates 62 = .ok (.getfield 7, 3) := by decide +kernel
theorem dX6_buyCrates_65 : decode cX6_buyCrates 65 = .ok (.iconst 2, 1) := by decide +kernel
theorem dX6_buyCrates_66 : decode cX6_buyCrates 66 = .ok (.iaload, 1) := by decide +kernel
theorem dX6_buyCrates_67 : decode cX6_buyCrates 67 = .ok (.ireturn, 1) := by decide +kernel
set_option maxRecDepth 20000 in
theorem ggX6_set_X6_in : GoodIn wsX6_set wsX6_in := goodIn_r _ [8] (by decide +kernel) (by decide +kernel)
set_option maxRecDepth 20000 in
theorem gX6_set_X6_in : GoodIn wsX6_set (va_wsS RX6 35 yX6_in wsX6_in) := goodIn_app (goodIn_of _ (by decide +kernel)) ggX6_set_X6_in
set_option maxRecDepth 20000 in
theorem ggX6_set_X6_fails : GoodIn wsX6_set wsX6_fails := goodIn_r _ [12, 1, 19, 20, 21, 22, 23, 24, 25, 26, 27, 28, 29, 30, 31, 32, 33, 34] (by decide +kernel) (by decide +kernel)
set_option maxRecDepth 20000 in
theorem gX6_set_X6_fails : GoodIn wsX6_set (wsV RX6 49 RX6 yX6_fails wsX6_fails) := goodIn_app (goodIn_of _ (by decide +kernel)) ggX6_set_X6_fails
set_option maxRecDepth 20000 in
theorem ggX6_set_X6_save : GoodIn wsX6_set wsX6_save := goodIn_r _ [16, 17, 18, 4, 19, 20, 21, 22, 23, 24, 25, 26, 27, 28, 29, 30, 31, 32, 33, 34] (by decide +kernel) (by decide +kernel)
set_option maxRecDepth 20000 in
theorem gX6_set_X6_save : GoodIn wsX6_set (wsV RX6 53 RX6 yX6_save wsX6_save) := goodIn_app (goodIn_of _ (by decide +kernel)) ggX6_set_X6_save
theorem dX6_set_0 : decode cX6_set 0 = .ok (.aload_n 0, 1) := by decide +kernel
theorem dX6_set_1 : decode cX6_set 1 = .ok (.iconst 0, 1) := by decide +kernel
theorem dX6_set_2 : decode cX6_set 2 = .ok (.putfield 28, 3) := by decide +kernel
theorem dX6_set_5 : decode cX6_set 5 = .ok (.iload_n 1, 1) := by decide +kernel
theorem dX6_set_6 : decode cX6_set 6 = .ok (.iconst 0, 1) := by decide +kernel
theorem dX6_set_7 : decode cX6_set 7 = .ok (.iconst 5, 1) := by decide +kernel
theorem dX6_set_8 : decode cX6_set 8 = .ok (.invokestatic 35, 3) := by decide +kernel
theorem dX6_set_11 : decode cX6_set 11 = .ok (.ifCond .ne 9, 3) := by decide +kernel
theorem dX6_set_14 : decode cX6_set 14 = .ok (.aload_n 0, 1) := by decide +kernel
theorem dX6_set_15 : decode cX6_set 15 = .ok (.iconst 1, 1) := by decide +kernel
theorem dX6_set_16 : decode cX6_set 16 = .ok (.invokevirtual 49, 3) := by decide +kernel
theorem dX6_set_19 : decode cX6_set 19 = .ok (.ireturn, 1) := by decide +kernel
theorem dX6_set_20 : decode cX6_set 20 = .ok (.iload_n 2, 1) := by decide +kernel
theorem dX6_set_21 : decode cX6_set 21 = .ok (.aload_n 0, 1) := by decide +kernel
theorem dX6_set_22 : decode cX6_set 22 = .ok (.getfield 22, 3) := by decide +kernel
theorem dX6_set_25 : decode cX6_set 25 = .ok (.iload_n 1, 1) := by decide +kernel
theorem dX6_set_26 : decode cX6_set 26 = .ok (.iaload, 1) := by decide +kernel
theorem dX6_set_27 : decode cX6_set 27 = .ok (.aload_n 0, 1) := by decide +kernel
theorem dX6_set_28 : decode cX6_set 28 = .ok (.getfield 25, 3) := by decide +kernel
theorem dX6_set_31 : decode cX6_set 31 = .ok (.iload_n 1, 1) := by decide +kernel
theorem dX6_set_32 : decode cX6_set 32 = .ok (.iaload, 1) := by decide +kernel
theorem dX6_set_33 : decode cX6_set 33 = .ok (.invokestatic 35, 3) := by decide +kernel
theorem dX6_set_36 : decode cX6_set 36 = .ok (.ifCond .ne 9, 3) := by decide +kernel
theorem dX6_set_39 : decode cX6_set 39 = .ok (.aload_n 0, 1) := by decide +kernel
theorem dX6_set_40 : decode cX6_set 40 = .ok (.iconst 2, 1) := by decide +kernel
theorem dX6_set_41 : decode cX6_set 41 = .ok (.invokevirtual 49, 3) := by decide +kernel
theorem dX6_set_44 : decode cX6_set 44 = .ok (.ireturn, 1) := by decide +kernel
theorem dX6_set_45 : decode cX6_set 45 = .ok (.iload_n 1, 1) := by decide +kernel
theorem dX6_set_46 : decode cX6_set 46 = .ok (.iconst 4, 1) := by decide +kernel
theorem dX6_set_47 : decode cX6_set 47 = .ok (.if_icmp .ge 18, 3) := by decide +kernel
theorem dX6_set_50 : decode cX6_set 50 = .ok (.aload_n 0, 1) := by decide +kernel
theorem dX6_set_51 : decode cX6_set 51 = .ok (.getfield 7, 3) := by decide +kernel
theorem dX6_set_54 : decode cX6_set 54 = .ok (.iconst 3, 1) := by decide +kernel
theorem dX6_set_55 : decode cX6_set 55 = .ok (.iaload, 1) := by decide +kernel
theorem dX6_set_56 : decode cX6_set 56 = .ok (.ifCond .le 9, 3) := by decide +kernel
theorem dX6_set_59 : decode cX6_set 59 = .ok (.aload_n 0, 1) := by decide +kernel
theorem dX6_set_60 : decode cX6_set 60 = .ok (.iconst 3, 1) := by decide +kernel
theorem dX6_set_61 : decode cX6_set 61 = .ok (.invokevirtual 49, 3) := by decide +kernel
theorem dX6_set_64 : decode cX6_set 64 = .ok (.ireturn, 1) := by decide +kernel
theorem dX6_set_65 : decode cX6_set 65 = .ok (.aload_n 0, 1) := by decide +kernel
theorem dX6_set_66 : decode cX6_set 66 = .ok (.invokevirtual 53, 3) := by decide +kernel
theorem dX6_set_69 : decode cX6_set 69 = .ok (.aload_n 0, 1) := by decide +kernel
theorem dX6_set_70 : decode cX6_set 70 = .ok (.getfield 7, 3) := by decide +kernel
theorem dX6_set_73 : decode cX6_set 73 = .ok (.bipush 7, 2) := by decide +kernel
theorem dX6_set_75 : decode cX6_set 75 = .ok (.iload_n 1, 1) := by decide +kernel
theorem dX6_set_76 : decode cX6_set 76 = .ok (.iadd, 1) := by decide +kernel
theorem dX6_set_77 : decode cX6_set 77 = .ok (.iaload, 1) := by decide +kernel
theorem dX6_set_78 : decode cX6_set 78 = .ok (.istore_n 3, 1) := by decide +kernel
theorem dX6_set_79 : decode cX6_set 79 = .ok (.aload_n 0, 1) := by decide +kernel
theorem dX6_set_80 : decode cX6_set 80 = .ok (.getfield 7, 3) := by decide +kernel
theorem dX6_set_83 : decode cX6_set 83 = .ok (.bipush 7, 2) := by decide +kernel
theorem dX6_set_85 : decode cX6_set 85 = .ok (.iload_n 1, 1) := by decide +kernel
theorem dX6_set_86 : decode cX6_set 86 = .ok (.iadd, 1) := by decide +kernel
theorem dX6_set_87 : decode cX6_set 87 = .ok (.iload_n 2, 1) := by decide +kernel
theorem dX6_set_88 : decode cX6_set 88 = .ok (.iastore, 1) := by decide +kernel
theorem dX6_set_89 : decode cX6_set 89 = .ok (.iload_n 3, 1) := by decide +kernel
theorem dX6_set_90 : decode cX6_set 90 = .ok (.ireturn, 1) := by decide +kernel
set_option maxRecDepth 20000 in
theorem ggX6_full_X6_of : GoodIn wsX6_full wsX6_of := goodIn_r _ [6, 1, 7, 8, 5, 9, 10, 11, 12, 13, 14, 15, 16, 17, 18, 19, 20, 21, 22, 23, 24, 25] (by decide +kernel) (by decide +kernel)
set_option maxRecDepth 20000 in
theorem gX6_full_X6_of : GoodIn wsX6_full (wsV RX6 46 RX6 yX6_of wsX6_of) := goodIn_app (goodIn_of _ (by decide +kernel)) ggX6_full_X6_of
theorem dX6_full_0 : decode cX6_full 0 = .ok (.aload_n 0, 1) := by decide +kernel
theorem dX6_full_1 : decode cX6_full 1 = .ok (.getfield 7, 3) := by decide +kernel
theorem dX6_full_4 : decode cX6_full 4 = .ok (.bipush 12, 2) := by decide +kernel
theorem dX6_full_6 : decode cX6_full 6 = .ok (.iaload, 1) := by decide +kernel
theorem dX6_full_7 : decode cX6_full 7 = .ok (.istore_n 3, 1) := by decide +kernel
theorem dX6_full_8 : decode cX6_full 8 = .ok (.iload_n 2, 1) := by decide +kernel
theorem dX6_full_9 : decode cX6_full 9 = .ok (.aload_n 0, 1) := by decide +kernel
theorem dX6_full_10 : decode cX6_full 10 = .ok (.iload_n 1, 1) := by decide +kernel
theorem dX6_full_11 : decode cX6_full 11 = .ok (.bipush 8, 2) := by decide +kernel
theorem dX6_full_13 : decode cX6_full 13 = .ok (.invokevirtual 46, 3) := by decide +kernel
theorem dX6_full_16 : decode cX6_full 16 = .ok (.iload_n 2, 1) := by decide +kernel
theorem dX6_full_17 : decode cX6_full 17 = .ok (.iadd, 1) := by decide +kernel
theorem dX6_full_18 : decode cX6_full 18 = .ok (.iload_n 3, 1) := by decide +kernel
theorem dX6_full_19 : decode cX6_full 19 = .ok (.idiv, 1) := by decide +kernel
theorem dX6_full_20 : decode cX6_full 20 = .ok (.aload_n 0, 1) := by decide +kernel
theorem dX6_full_21 : decode cX6_full 21 = .ok (.iload_n 1, 1) := by decide +kernel
theorem dX6_full_22 : decode cX6_full 22 = .ok (.bipush 8, 2) := by decide +kernel
theorem dX6_full_24 : decode cX6_full 24 = .ok (.invokevirtual 46, 3) := by decide +kernel
theorem dX6_full_27 : decode cX6_full 27 = .ok (.iload_n 3, 1) := by decide +kernel
theorem dX6_full_28 : decode cX6_full 28 = .ok (.idiv, 1) := by decide +kernel
theorem dX6_full_29 : decode cX6_full 29 = .ok (.isub, 1) := by decide +kernel
theorem dX6_full_30 : decode cX6_full 30 = .ok (.isub, 1) := by decide +kernel
theorem dX6_full_31 : decode cX6_full 31 = .ok (.ireturn, 1) := by decide +kernel
set_option maxRecDepth 20000 in
theorem ggX6_fills_X6_full : GoodIn wsX6_fills wsX6_full := goodIn_r _ [6, 1, 7, 8, 9, 5, 10, 11, 12, 13, 14, 15, 16, 17, 18, 19, 20, 21, 22, 23, 24, 25, 26, 27, 28, 29] (by decide +kernel) (by decide +kernel)
set_option maxRecDepth 20000 in
theorem gX6_fills_X6_full : GoodIn wsX6_fills (wsV RX6 64 RX6 yX6_full wsX6_full) := goodIn_app (goodIn_of _ (by decide +kernel)) ggX6_fills_X6_full
set_option maxRecDepth 20000 in
theorem ggX6_fills_X6_brandAt : GoodIn wsX6_fills wsX6_brandAt := goodIn_r _ [13] (by decide +kernel) (by decide +kernel)
set_option maxRecDepth 20000 in
theorem gX6_fills_X6_brandAt : GoodIn wsX6_fills (va_wsS RX6 39 yX6_brandAt wsX6_brandAt) := goodIn_app (goodIn_of _ (by decide +kernel)) ggX6_fills_X6_brandAt
theorem dX6_fills_0 : decode cX6_fills 0 = .ok (.aload_n 0, 1) := by decide +kernel
theorem dX6_fills_1 : decode cX6_fills 1 = .ok (.iload_n 1, 1) := by decide +kernel
theorem dX6_fills_2 : decode cX6_fills 2 = .ok (.iload_n 2, 1) := by decide +kernel
theorem dX6_fills_3 : decode cX6_fills 3 = .ok (.invokevirtual 64, 3) := by decide +kernel
theorem dX6_fills_6 : decode cX6_fills 6 = .ok (.istore_n 3, 1) := by decide +kernel
theorem dX6_fills_7 : decode cX6_fills 7 = .ok (.aload_n 0, 1) := by decide +kernel
theorem dX6_fills_8 : decode cX6_fills 8 = .ok (.getfield 7, 3) := by decide +kernel
theorem dX6_fills_11 : decode cX6_fills 11 = .ok (.iload_n 1, 1) := by decide +kernel
theorem dX6_fills_12 : decode cX6_fills 12 = .ok (.iconst 1, 1) := by decide +kernel
theorem dX6_fills_13 : decode cX6_fills 13 = .ok (.invokestatic 39, 3) := by decide +kernel
theorem dX6_fills_16 : decode cX6_fills 16 = .ok (.dup2, 1) := by decide +kernel
theorem dX6_fills_17 : decode cX6_fills 17 = .ok (.iaload, 1) := by decide +kernel
theorem dX6_fills_18 : decode cX6_fills 18 = .ok (.iload_n 2, 1) := by decide +kernel
theorem dX6_fills_19 : decode cX6_fills 19 = .ok (.isub, 1) := by decide +kernel
theorem dX6_fills_20 : decode cX6_fills 20 = .ok (.iastore, 1) := by decide +kernel
theorem dX6_fills_21 : decode cX6_fills 21 = .ok (.aload_n 0, 1) := by decide +kernel
theorem dX6_fills_22 : decode cX6_fills 22 = .ok (.getfield 7, 3) := by decide +kernel
theorem dX6_fills_25 : decode cX6_fills 25 = .ok (.iload_n 1, 1) := by decide +kernel
theorem dX6_fills_26 : decode cX6_fills 26 = .ok (.iconst 2, 1) := by decide +kernel
theorem dX6_fills_27 : decode cX6_fills 27 = .ok (.invokestatic 39, 3) := by decide +kernel
theorem dX6_fills_30 : decode cX6_fills 30 = .ok (.dup2, 1) := by decide +kernel
theorem dX6_fills_31 : decode cX6_fills 31 = .ok (.iaload, 1) := by decide +kernel
theorem dX6_fills_32 : decode cX6_fills 32 = .ok (.iload_n 3, 1) := by decide +kernel
theorem dX6_fills_33 : decode cX6_fills 33 = .ok (.iadd, 1) := by decide +kernel
theorem dX6_fills_34 : decode cX6_fills 34 = .ok (.iastore, 1) := by decide +kernel
theorem dX6_fills_35 : decode cX6_fills 35 = .ok (.aload_n 0, 1) := by decide +kernel
theorem dX6_fills_36 : decode cX6_fills 36 = .ok (.getfield 7, 3) := by decide +kernel
theorem dX6_fills_39 : decode cX6_fills 39 = .ok (.iload_n 1, 1) := by decide +kernel
theorem dX6_fills_40 : decode cX6_fills 40 = .ok (.bipush 7, 2) := by decide +kernel
theorem dX6_fills_42 : decode cX6_fills 42 = .ok (.invokestatic 39, 3) := by decide +kernel
theorem dX6_fills_45 : decode cX6_fills 45 = .ok (.dup2, 1) := by decide +kernel
theorem dX6_fills_46 : decode cX6_fills 46 = .ok (.iaload, 1) := by decide +kernel
theorem dX6_fills_47 : decode cX6_fills 47 = .ok (.iload_n 2, 1) := by decide +kernel
theorem dX6_fills_48 : decode cX6_fills 48 = .ok (.iload_n 3, 1) := by decide +kernel
theorem dX6_fills_49 : decode cX6_fills 49 = .ok (.isub, 1) := by decide +kernel
theorem dX6_fills_50 : decode cX6_fills 50 = .ok (.iadd, 1) := by decide +kernel
theorem dX6_fills_51 : decode cX6_fills 51 = .ok (.iastore, 1) := by decide +kernel
theorem dX6_fills_52 : decode cX6_fills 52 = .ok (.aload_n 0, 1) := by decide +kernel
theorem dX6_fills_53 : decode cX6_fills 53 = .ok (.getfield 7, 3) := by decide +kernel
theorem dX6_fills_56 : decode cX6_fills 56 = .ok (.iload_n 1, 1) := by decide +kernel
theorem dX6_fills_57 : decode cX6_fills 57 = .ok (.bipush 8, 2) := by decide +kernel
theorem dX6_fills_59 : decode cX6_fills 59 = .ok (.invokestatic 39, 3) := by decide +kernel
theorem dX6_fills_62 : decode cX6_fills 62 = .ok (.dup2, 1) := by decide +kernel
theorem dX6_fills_63 : decode cX6_fills 63 = .ok (.iaload, 1) := by decide +kernel
theorem dX6_fills_64 : decode cX6_fills 64 = .ok (.iload_n 2, 1) := by decide +kernel
theorem dX6_fills_65 : decode cX6_fills 65 = .ok (.iadd, 1) := by decide +kernel
theorem dX6_fills_66 : decode cX6_fills 66 = .ok (.iastore, 1) := by decide +kernel
theorem dX6_fills_67 : decode cX6_fills 67 = .ok (.iload_n 3, 1) := by decide +kernel
theorem dX6_fills_68 : decode cX6_fills 68 = .ok (.ireturn, 1) := by decide +kernel
theorem dX6_depositsFor_0 : decode cX6_depositsFor 0 = .ok (.iload_n 2, 1) := by decide +kernel
theorem dX6_depositsFor_1 : decode cX6_depositsFor 1 = .ok (.bipush 12, 2) := by decide +kernel
theorem dX6_depositsFor_3 : decode cX6_depositsFor 3 = .ok (.aload_n 0, 1) := by decide +kernel
theorem dX6_depositsFor_4 : decode cX6_depositsFor 4 = .ok (.getfield 7, 3) := by decide +kernel
theorem dX6_depositsFor_7 : decode cX6_depositsFor 7 = .ok (.bipush 7, 2) := by decide +kernel
theorem dX6_depositsFor_9 : decode cX6_depositsFor 9 = .ok (.iload_n 1, 1) := by decide +kernel
theorem dX6_depositsFor_10 : decode cX6_depositsFor 10 = .ok (.iadd, 1) := by decide +kernel
theorem dX6_depositsFor_11 : decode cX6_depositsFor 11 = .ok (.iaload, 1) := by decide +kernel
theorem dX6_depositsFor_12 : decode cX6_depositsFor 12 = .ok (.imul, 1) := by decide +kernel
theorem dX6_depositsFor_13 : decode cX6_depositsFor 13 = .ok (.aload_n 0, 1) := by decide +kernel
theorem dX6_depositsFor_14 : decode cX6_depositsFor 14 = .ok (.getfield 7, 3) := by decide +kernel
theorem dX6_depositsFor_17 : decode cX6_depositsFor 17 = .ok (.bipush 10, 2) := by decide +kernel
theorem dX6_depositsFor_19 : decode cX6_depositsFor 19 = .ok (.iaload, 1) := by decide +kernel
theorem dX6_depositsFor_20 : decode cX6_depositsFor 20 = .ok (.iadd, 1) := by decide +kernel
theorem dX6_depositsFor_21 : decode cX6_depositsFor 21 = .ok (.imul, 1) := by decide +kernel
theorem dX6_depositsFor_22 : decode cX6_depositsFor 22 = .ok (.ireturn, 1) := by decide +kernel
set_option maxRecDepth 20000 in
theorem ggX6_priceFor_X6_of : GoodIn wsX6_priceFor wsX6_of := goodIn_r _ [6, 1, 7, 8, 5, 9, 14, 15, 16, 17, 18, 19, 20, 21, 22, 23, 24, 25, 26, 27, 28, 29] (by decide +kernel) (by decide +kernel)
set_option maxRecDepth 20000 in
theorem gX6_priceFor_X6_of : GoodIn wsX6_priceFor (wsV RX6 46 RX6 yX6_of wsX6_of) := goodIn_app (goodIn_of _ (by decide +kernel)) ggX6_priceFor_X6_of
set_option maxRecDepth 20000 in
theorem ggX6_priceFor_X6_depositsFor : GoodIn wsX6_priceFor wsX6_depositsFor := goodIn_r _ [13, 1, 14, 15, 16, 17, 18, 19, 20, 21, 22, 23, 24, 25, 26, 27, 28, 29] (by decide +kernel) (by decide +kernel)
set_option maxRecDepth 20000 in
theorem gX6_priceFor_X6_depositsFor : GoodIn wsX6_priceFor (wsV RX6 67 RX6 yX6_depositsFor wsX6_depositsFor) := goodIn_app (goodIn_of _ (by decide +kernel)) ggX6_priceFor_X6_depositsFor
theorem dX6_priceFor_0 : decode cX6_priceFor 0 = .ok (.aload_n 0, 1) := by decide +kernel
theorem dX6_priceFor_1 : decode cX6_priceFor 1 = .ok (.aload_n 0, 1) := by decide +kernel
theorem dX6_priceFor_2 : decode cX6_priceFor 2 = .ok (.iload_n 1, 1) := by decide +kernel
theorem dX6_priceFor_3 : decode cX6_priceFor 3 = .ok (.iconst 0, 1) := by decide +kernel
theorem dX6_priceFor_4 : decode cX6_priceFor 4 = .ok (.invokevirtual 46, 3) := by decide +kernel
theorem dX6_priceFor_7 : decode cX6_priceFor 7 = .ok (.iload_n 2, 1) := by decide +kernel
theorem dX6_priceFor_8 : decode cX6_priceFor 8 = .ok (.invokevirtual 67, 3) := by decide +kernel
theorem dX6_priceFor_11 : decode cX6_priceFor 11 = .ok (.iload_n 2, 1) := by decide +kernel
theorem dX6_priceFor_12 : decode cX6_priceFor 12 = .ok (.aload_n 0, 1) := by decide +kernel
theorem dX6_priceFor_13 : decode cX6_priceFor 13 = .ok (.getfield 7, 3) := by decide +kernel
theorem dX6_priceFor_16 : decode cX6_priceFor 16 = .ok (.bipush 11, 2) := by decide +kernel
theorem dX6_priceFor_18 : decode cX6_priceFor 18 = .ok (.iaload, 1) := by decide +kernel
theorem dX6_priceFor_19 : decode cX6_priceFor 19 = .ok (.imul, 1) := by decide +kernel
theorem dX6_priceFor_20 : decode cX6_priceFor 20 = .ok (.iadd, 1) := by decide +kernel
theorem dX6_priceFor_21 : decode cX6_priceFor 21 = .ok (.ireturn, 1) := by decide +kernel
set_option maxRecDepth 20000 in
theorem ggX6_againstDeliver_X6_of : GoodIn wsX6_againstDeliver wsX6_of := goodIn_r _ [6, 1, 7, 8, 5, 9, 25, 26, 27, 28, 29, 30, 31, 32, 33, 34, 35, 36, 37, 38, 39, 40] (by decide +kernel) (by decide +kernel)
set_option maxRecDepth 20000 in
theorem gX6_againstDeliver_X6_of : GoodIn wsX6_againstDeliver (wsV RX6 46 RX6 yX6_of wsX6_of) := goodIn_app (goodIn_of _ (by decide +kernel)) ggX6_againstDeliver_X6_of
set_option maxRecDepth 20000 in
theorem ggX6_againstDeliver_X6_ofShop : GoodIn wsX6_againstDeliver wsX6_ofShop := goodIn_r _ [13, 1, 14, 15, 5, 16, 25, 26, 27, 28, 29, 30, 31, 32, 33, 34, 35, 36, 37, 38, 39, 40] (by decide +kernel) (by decide +kernel)
set_option maxRecDepth 20000 in
theorem gX6_againstDeliver_X6_ofShop : GoodIn wsX6_againstDeliver (wsV RX6 57 RX6 yX6_ofShop wsX6_ofShop) := goodIn_app (goodIn_of _ (by decide +kernel)) ggX6_againstDeliver_X6_ofShop
set_option maxRecDepth 20000 in
theorem ggX6_againstDeliver_X6_priceFor : GoodIn wsX6_againstDeliver wsX6_priceFor := goodIn_r _ [20, 1, 2, 3, 4, 5, 6, 7, 8, 9, 21, 22, 23, 24, 25, 26, 27, 28, 29, 30, 31, 32, 33, 34, 35, 36, 37, 38, 39, 40] (by decide +kernel) (by decide +kernel)
set_option maxRecDepth 20000 in
theorem gX6_againstDeliver_X6_priceFor : GoodIn wsX6_againstDeliver (wsV RX6 70 RX6 yX6_priceFor wsX6_priceFor) := goodIn_app (goodIn_of _ (by decide +kernel)) ggX6_againstDeliver_X6_priceFor
theorem dX6_againstDeliver_0 : decode cX6_againstDeliver 0 = .ok (.aload_n 0, 1) := by decide +kernel
theorem dX6_againstDeliver_1 : decode cX6_againstDeliver 1 = .ok (.iload_n 1, 1) := by decide +kernel
theorem dX6_againstDeliver_2 : decode cX6_againstDeliver 2 = .ok (.iconst 2, 1) := by decide +kernel
theorem dX6_againstDeliver_3 : decode cX6_againstDeliver 3 = .ok (.invokevirtual 46, 3) := by decide +kernel
theorem dX6_againstDeliver_6 : decode cX6_againstDeliver 6 = .ok (.bipush 12, 2) := by decide +kernel
theorem dX6_againstDeliver_8 : decode cX6_againstDeliver 8 = .ok (.iload_n 3, 1) := by decide +kernel
theorem dX6_againstDeliver_9 : decode cX6_againstDeliver 9 = .ok (.imul, 1) := by decide +kernel
theorem dX6_againstDeliver_10 : decode cX6_againstDeliver 10 = .ok (.if_icmp .ge 7, 3) := by decide +kernel
theorem dX6_againstDeliver_13 : decode cX6_againstDeliver 13 = .ok (.iconst 1, 1) := by decide +kernel
theorem dX6_againstDeliver_14 : decode cX6_againstDeliver 14 = .ok (.goto 37, 3) := by decide +kernel
theorem dX6_againstDeliver_17 : decode cX6_againstDeliver 17 = .ok (.aload_n 0, 1) := by decide +kernel
theorem dX6_againstDeliver_18 : decode cX6_againstDeliver 18 = .ok (.getfield 7, 3) := by decide +kernel
theorem dX6_againstDeliver_21 : decode cX6_againstDeliver 21 = .ok (.iconst 2, 1) := by decide +kernel
theorem dX6_againstDeliver_22 : decode cX6_againstDeliver 22 = .ok (.iaload, 1) := by decide +kernel
theorem dX6_againstDeliver_23 : decode cX6_againstDeliver 23 = .ok (.iload_n 3, 1) := by decide +kernel
theorem dX6_againstDeliver_24 : decode cX6_againstDeliver 24 = .ok (.if_icmp .ge 7, 3) := by decide +kernel
theorem dX6_againstDeliver_27 : decode cX6_againstDeliver 27 = .ok (.iconst 2, 1) := by decide +kernel
theorem dX6_againstDeliver_28 : decode cX6_againstDeliver 28 = .ok (.goto 23, 3) := by decide +kernel
theorem dX6_againstDeliver_31 : decode cX6_againstDeliver 31 = .ok (.aload_n 0, 1) := by decide +kernel
theorem dX6_againstDeliver_32 : decode cX6_againstDeliver 32 = .ok (.iload_n 2, 1) := by decide +kernel
theorem dX6_againstDeliver_33 : decode cX6_againstDeliver 33 = .ok (.iconst 0, 1) := by decide +kernel
theorem dX6_againstDeliver_34 : decode cX6_againstDeliver 34 = .ok (.invokevirtual 57, 3) := by decide +kernel
theorem dX6_againstDeliver_37 : decode cX6_againstDeliver 37 = .ok (.aload_n 0, 1) := by decide +kernel
theorem dX6_againstDeliver_38 : decode cX6_againstDeliver 38 = .ok (.iload_n 1, 1) := by decide +kernel
theorem dX6_againstDeliver_39 : decode cX6_againstDeliver 39 = .ok (.iload_n 3, 1) := by decide +kernel
theorem dX6_againstDeliver_40 : decode cX6_againstDeliver 40 = .ok (.invokevirtual 70, 3) := by decide +kernel
theorem dX6_againstDeliver_43 : decode cX6_againstDeliver 43 = .ok (.if_icmp .ge 7, 3) := by decide +kernel
theorem dX6_againstDeliver_46 : decode cX6_againstDeliver 46 = .ok (.iconst 3, 1) := by decide +kernel
theorem dX6_againstDeliver_47 : decode cX6_againstDeliver 47 = .ok (.goto 4, 3) := by decide +kernel
theorem dX6_againstDeliver_50 : decode cX6_againstDeliver 50 = .ok (.iconst 0, 1) := by decide +kernel
theorem dX6_againstDeliver_51 : decode cX6_againstDeliver 51 = .ok (.ireturn, 1) := by decide +kernel
set_option maxRecDepth 20000 in
theorem ggX6_delivers_X6_of : GoodIn wsX6_delivers wsX6_of := goodIn_r _ [6, 1, 7, 8, 5, 9, 17, 18, 19, 20, 21, 22, 23, 24, 25, 26, 27, 28, 29, 30, 31, 32] (by decide +kernel) (by decide +kernel)
set_option maxRecDepth 20000 in
theorem gX6_delivers_X6_of : GoodIn wsX6_delivers (wsV RX6 46 RX6 yX6_of wsX6_of) := goodIn_app (goodIn_of _ (by decide +kernel)) ggX6_delivers_X6_of
set_option maxRecDepth 20000 in
theorem ggX6_delivers_X6_depositsFor : GoodIn wsX6_delivers wsX6_depositsFor := goodIn_r _ [13, 1, 17, 18, 19, 20, 21, 22, 23, 24, 25, 26, 27, 28, 29, 30, 31, 32] (by decide +kernel) (by decide +kernel)
set_option maxRecDepth 20000 in
theorem gX6_delivers_X6_depositsFor : GoodIn wsX6_delivers (wsV RX6 67 RX6 yX6_depositsFor wsX6_depositsFor) := goodIn_app (goodIn_of _ (by decide +kernel)) ggX6_delivers_X6_depositsFor
set_option maxRecDepth 20000 in
theorem ggX6_delivers_X6_brandAt : GoodIn wsX6_delivers wsX6_brandAt := goodIn_r _ [9] (by decide +kernel) (by decide +kernel)
set_option maxRecDepth 20000 in
theorem gX6_delivers_X6_brandAt : GoodIn wsX6_delivers (va_wsS RX6 39 yX6_brandAt wsX6_brandAt) := goodIn_app (goodIn_of _ (by decide +kernel)) ggX6_delivers_X6_brandAt
set_option maxRecDepth 20000 in
theorem ggX6_delivers_X6_shopAt : GoodIn wsX6_delivers wsX6_shopAt := goodIn_r _ [16] (by decide +kernel) (by decide +kernel)
set_option maxRecDepth 20000 in
theorem gX6_delivers_X6_shopAt : GoodIn wsX6_delivers (va_wsS RX6 43 yX6_shopAt wsX6_shopAt) := goodIn_app (goodIn_of _ (by decide +kernel)) ggX6_delivers_X6_shopAt
theorem dX6_delivers_0 : decode cX6_delivers 0 = .ok (.aload_n 0, 1) := by decide +kernel
theorem dX6_delivers_1 : decode cX6_delivers 1 = .ok (.aload_n 0, 1) := by decide +kernel
theorem dX6_delivers_2 : decode cX6_delivers 2 = .ok (.iload_n 1, 1) := by decide +kernel
theorem dX6_delivers_3 : decode cX6_delivers 3 = .ok (.iconst 0, 1) := by decide +kernel
theorem dX6_delivers_4 : decode cX6_delivers 4 = .ok (.invokevirtual 46, 3) := by decide +kernel
theorem dX6_delivers_7 : decode cX6_delivers 7 = .ok (.iload_n 3, 1) := by decide +kernel
theorem dX6_delivers_8 : decode cX6_delivers 8 = .ok (.invokevirtual 67, 3) := by decide +kernel
theorem dX6_delivers_11 : decode cX6_delivers 11 = .ok (.istore 4, 2) := by decide +kernel
theorem dX6_delivers_13 : decode cX6_delivers 13 = .ok (.iload_n 3, 1) := by decide +kernel
theorem dX6_delivers_14 : decode cX6_delivers 14 = .ok (.aload_n 0, 1) := by decide +kernel
theorem dX6_delivers_15 : decode cX6_delivers 15 = .ok (.getfield 7, 3) := by decide +kernel
theorem dX6_delivers_18 : decode cX6_delivers 18 = .ok (.bipush 11, 2) := by decide +kernel
theorem dX6_delivers_20 : decode cX6_delivers 20 = .ok (.iaload, 1) := by decide +kernel
theorem dX6_delivers_21 : decode cX6_delivers 21 = .ok (.imul, 1) := by decide +kernel
theorem dX6_delivers_22 : decode cX6_delivers 22 = .ok (.istore 5, 2) := by decide +kernel
theorem dX6_delivers_24 : decode cX6_delivers 24 = .ok (.aload_n 0, 1) := by decide +kernel
theorem dX6_delivers_25 : decode cX6_delivers 25 = .ok (.getfield 7, 3) := by decide +kernel
theorem dX6_delivers_28 : decode cX6_delivers 28 = .ok (.iload_n 1, 1) := by decide +kernel
theorem dX6_delivers_29 : decode cX6_delivers 29 = .ok (.iconst 2, 1) := by decide +kernel
theorem dX6_delivers_30 : decode cX6_delivers 30 = .ok (.invokestatic 39, 3) := by decide +kernel
theorem dX6_delivers_33 : decode cX6_delivers 33 = .ok (.dup2, 1) := by decide +kernel
theorem dX6_delivers_34 : decode cX6_delivers 34 = .ok (.iaload, 1) := by decide +kernel
theorem dX6_delivers_35 : decode cX6_delivers 35 = .ok (.bipush 12, 2) := by decide +kernel
theorem dX6_delivers_37 : decode cX6_delivers 37 = .ok (.iload_n 3, 1) := by decide +kernel
theorem dX6_delivers_38 : decode cX6_delivers 38 = .ok (.imul, 1) := by decide +kernel
theorem dX6_delivers_39 : decode cX6_delivers 39 = .ok (.isub, 1) := by decide +kernel
theorem dX6_delivers_40 : decode cX6_delivers 40 = .ok (.iastore, 1) := by decide +kernel
theorem dX6_delivers_41 : decode cX6_delivers 41 = .ok (.aload_n 0, 1) := by decide +kernel
theorem dX6_delivers_42 : decode cX6_delivers 42 = .ok (.getfield 7, 3) := by decide +kernel
theorem dX6_delivers_45 : decode cX6_delivers 45 = .ok (.iload_n 2, 1) := by decide +kernel
theorem dX6_delivers_46 : decode cX6_delivers 46 = .ok (.iconst 5, 1) := by decide +kernel
theorem dX6_delivers_47 : decode cX6_delivers 47 = .ok (.iload_n 1, 1) := by decide +kernel
theorem dX6_delivers_48 : decode cX6_delivers 48 = .ok (.iadd, 1) := by decide +kernel
theorem dX6_delivers_49 : decode cX6_delivers 49 = .ok (.invokestatic 43, 3) := by decide +kernel
theorem dX6_delivers_52 : decode cX6_delivers 52 = .ok (.dup2, 1) := by decide +kernel
theorem dX6_delivers_53 : decode cX6_delivers 53 = .ok (.iaload, 1) := by decide +kernel
theorem dX6_delivers_54 : decode cX6_delivers 54 = .ok (.bipush 12, 2) := by decide +kernel
theorem dX6_delivers_56 : decode cX6_delivers 56 = .ok (.iload_n 3, 1) := by decide +kernel
theorem dX6_delivers_57 : decode cX6_delivers 57 = .ok (.imul, 1) := by decide +kernel
theorem dX6_delivers_58 : decode cX6_delivers 58 = .ok (.iadd, 1) := by decide +kernel
theorem dX6_delivers_59 : decode cX6_delivers 59 = .ok (.iastore, 1) := by decide +kernel
theorem dX6_delivers_60 : decode cX6_delivers 60 = .ok (.aload_n 0, 1) := by decide +kernel
theorem dX6_delivers_61 : decode cX6_delivers 61 = .ok (.getfield 7, 3) := by decide +kernel
theorem dX6_delivers_64 : decode cX6_delivers 64 = .ok (.iconst 2, 1) := by decide +kernel
theorem dX6_delivers_65 : decode cX6_delivers 65 = .ok (.dup2, 1) := by decide +kernel
theorem dX6_delivers_66 : decode cX6_delivers 66 = .ok (.iaload, 1) := by decide +kernel
theorem dX6_delivers_67 : decode cX6_delivers 67 = .ok (.iload_n 3, 1) := by decide +kernel
theorem dX6_delivers_68 : decode cX6_delivers 68 = .ok (.isub, 1) := by decide +kernel
theorem dX6_delivers_69 : decode cX6_delivers 69 = .ok (.iastore, 1) := by decide +kernel
theorem dX6_delivers_70 : decode cX6_delivers 70 = .ok (.aload_n 0, 1) := by decide +kernel
theorem dX6_delivers_71 : decode cX6_delivers 71 = .ok (.getfield 7, 3) := by decide +kernel
theorem dX6_delivers_74 : decode cX6_delivers 74 = .ok (.iload_n 2, 1) := by decide +kernel
theorem dX6_delivers_75 : decode cX6_delivers 75 = .ok (.iconst 1, 1) := by decide +kernel
theorem dX6_delivers_76 : decode cX6_delivers 76 = .ok (.invokestatic 43, 3) := by decide +kernel
theorem dX6_delivers_79 : decode cX6_delivers 79 = .ok (.dup2, 1) := by decide +kernel
theorem dX6_delivers_80 : decode cX6_delivers 80 = .ok (.iaload, 1) := by decide +kernel
theorem dX6_delivers_81 : decode cX6_delivers 81 = .ok (.iload_n 3, 1) := by decide +kernel
theorem dX6_delivers_82 : decode cX6_delivers 82 = .ok (.iadd, 1) := by decide +kernel
theorem dX6_delivers_83 : decode cX6_delivers 83 = .ok (.iastore, 1) := by decide +kernel
theorem dX6_delivers_84 : decode cX6_delivers 84 = .ok (.aload_n 0, 1) := by decide +kernel
theorem dX6_delivers_85 : decode cX6_delivers 85 = .ok (.getfield 7, 3) := by decide +kernel
theorem dX6_delivers_88 : decode cX6_delivers 88 = .ok (.iload_n 2, 1) := by decide +kernel
theorem dX6_delivers_89 : decode cX6_delivers 89 = .ok (.iconst 0, 1) := by decide +kernel
theorem dX6_delivers_90 : decode cX6_delivers 90 = .ok (.invokestatic 43, 3) := by decide +kernel
theorem dX6_delivers_93 : decode cX6_delivers 93 = .ok (.dup2, 1) := by decide +kernel
theorem dX6_delivers_94 : decode cX6_delivers 94 = .ok (.iaload, 1) := by decide +kernel
theorem dX6_delivers_95 : decode cX6_delivers 95 = .ok (.iload 4, 2) := by decide +kernel
theorem dX6_delivers_97 : decode cX6_delivers 97 = .ok (.iload 5, 2) := by decide +kernel
theorem dX6_delivers_99 : decode cX6_delivers 99 = .ok (.iadd, 1) := by decide +kernel
theorem dX6_delivers_100 : decode cX6_delivers 100 = .ok (.isub, 1) := by decide +kernel
theorem dX6_delivers_101 : decode cX6_delivers 101 = .ok (.iastore, 1) := by decide +kernel
theorem dX6_delivers_102 : decode cX6_delivers 102 = .ok (.aload_n 0, 1) := by decide +kernel
theorem dX6_delivers_103 : decode cX6_delivers 103 = .ok (.getfield 7, 3) := by decide +kernel
theorem dX6_delivers_106 : decode cX6_delivers 106 = .ok (.iload_n 2, 1) := by decide +kernel
theorem dX6_delivers_107 : decode cX6_delivers 107 = .ok (.iconst 2, 1) := by decide +kernel
theorem dX6_delivers_108 : decode cX6_delivers 108 = .ok (.invokestatic 43, 3) := by decide +kernel
theorem dX6_delivers_111 : decode cX6_delivers 111 = .ok (.dup2, 1) := by decide +kernel
theorem dX6_delivers_112 : decode cX6_delivers 112 = .ok (.iaload, 1) := by decide +kernel
theorem dX6_delivers_113 : decode cX6_delivers 113 = .ok (.iload 4, 2) := by decide +kernel
theorem dX6_delivers_115 : decode cX6_delivers 115 = .ok (.iadd, 1) := by decide +kernel
theorem dX6_delivers_116 : decode cX6_delivers 116 = .ok (.iastore, 1) := by decide +kernel
theorem dX6_delivers_117 : decode cX6_delivers 117 = .ok (.aload_n 0, 1) := by decide +kernel
theorem dX6_delivers_118 : decode cX6_delivers 118 = .ok (.getfield 7, 3) := by decide +kernel
theorem dX6_delivers_121 : decode cX6_delivers 121 = .ok (.iload_n 2, 1) := by decide +kernel
theorem dX6_delivers_122 : decode cX6_delivers 122 = .ok (.iconst 3, 1) := by decide +kernel
theorem dX6_delivers_123 : decode cX6_delivers 123 = .ok (.invokestatic 43, 3) := by decide +kernel
theorem dX6_delivers_126 : decode cX6_delivers 126 = .ok (.dup2, 1) := by decide +kernel
theorem dX6_delivers_127 : decode cX6_delivers 127 = .ok (.iaload, 1) := by decide +kernel
theorem dX6_delivers_128 : decode cX6_delivers 128 = .ok (.iload 5, 2) := by decide +kernel
theorem dX6_delivers_130 : decode cX6_delivers 130 = .ok (.iadd, 1) := by decide +kernel
theorem dX6_delivers_131 : decode cX6_delivers 131 = .ok (.iastore, 1) := by decide +kernel
theorem dX6_delivers_132 : decode cX6_delivers 132 = .ok (.aload_n 0, 1) := by decide +kernel
theorem dX6_delivers_133 : decode cX6_delivers 133 = .ok (.getfield 7, 3) := by decide +kernel
theorem dX6_delivers_136 : decode cX6_delivers 136 = .ok (.iconst 3, 1) := by decide +kernel
theorem dX6_delivers_137 : decode cX6_delivers 137 = .ok (.dup2, 1) := by decide +kernel
theorem dX6_delivers_138 : decode cX6_delivers 138 = .ok (.iaload, 1) := by decide +kernel
theorem dX6_delivers_139 : decode cX6_delivers 139 = .ok (.iload 4, 2) := by decide +kernel
theorem dX6_delivers_141 : decode cX6_delivers 141 = .ok (.iadd, 1) := by decide +kernel
theorem dX6_delivers_142 : decode cX6_delivers 142 = .ok (.iastore, 1) := by decide +kernel
theorem dX6_delivers_143 : decode cX6_delivers 143 = .ok (.aload_n 0, 1) := by decide +kernel
theorem dX6_delivers_144 : decode cX6_delivers 144 = .ok (.getfield 7, 3) := by decide +kernel
theorem dX6_delivers_147 : decode cX6_delivers 147 = .ok (.iconst 5, 1) := by decide +kernel
theorem dX6_delivers_148 : decode cX6_delivers 148 = .ok (.dup2, 1) := by decide +kernel
theorem dX6_delivers_149 : decode cX6_delivers 149 = .ok (.iaload, 1) := by decide +kernel
theorem dX6_delivers_150 : decode cX6_delivers 150 = .ok (.iload 5, 2) := by decide +kernel
theorem dX6_delivers_152 : decode cX6_delivers 152 = .ok (.iadd, 1) := by decide +kernel
theorem dX6_delivers_153 : decode cX6_delivers 153 = .ok (.iastore, 1) := by decide +kernel
theorem dX6_delivers_154 : decode cX6_delivers 154 = .ok (.iload 4, 2) := by decide +kernel
theorem dX6_delivers_156 : decode cX6_delivers 156 = .ok (.iload 5, 2) := by decide +kernel
theorem dX6_delivers_158 : decode cX6_delivers 158 = .ok (.iadd, 1) := by decide +kernel
theorem dX6_delivers_159 : decode cX6_delivers 159 = .ok (.ireturn, 1) := by decide +kernel
set_option maxRecDepth 20000 in
theorem ggX6_againstSell_X6_ofShop : GoodIn wsX6_againstSell wsX6_ofShop := goodIn_r _ [5, 6, 7, 8, 4, 9, 10, 11, 12, 13, 14, 15, 16, 17, 18, 19, 20, 21, 22, 23, 24, 25] (by decide +kernel) (by decide +kernel)
set_option maxRecDepth 20000 in
theorem gX6_againstSell_X6_ofShop : GoodIn wsX6_againstSell (wsV RX6 57 RX6 yX6_ofShop wsX6_ofShop) := goodIn_app (goodIn_of _ (by decide +kernel)) ggX6_againstSell_X6_ofShop
theorem dX6_againstSell_0 : decode cX6_againstSell 0 = .ok (.aload_n 0, 1) := by decide +kernel
theorem dX6_againstSell_1 : decode cX6_againstSell 1 = .ok (.iload_n 1, 1) := by decide +kernel
theorem dX6_againstSell_2 : decode cX6_againstSell 2 = .ok (.iconst 5, 1) := by decide +kernel
theorem dX6_againstSell_3 : decode cX6_againstSell 3 = .ok (.iload_n 2, 1) := by decide +kernel
theorem dX6_againstSell_4 : decode cX6_againstSell 4 = .ok (.iadd, 1) := by decide +kernel
theorem dX6_againstSell_5 : decode cX6_againstSell 5 = .ok (.invokevirtual 57, 3) := by decide +kernel
theorem dX6_againstSell_8 : decode cX6_againstSell 8 = .ok (.iload_n 3, 1) := by decide +kernel
theorem dX6_againstSell_9 : decode cX6_againstSell 9 = .ok (.if_icmp .ge 7, 3) := by decide +kernel
theorem dX6_againstSell_12 : decode cX6_againstSell 12 = .ok (.iconst 1, 1) := by decide +kernel
theorem dX6_againstSell_13 : decode cX6_againstSell 13 = .ok (.goto 4, 3) := by decide +kernel
theorem dX6_againstSell_16 : decode cX6_againstSell 16 = .ok (.iconst 0, 1) := by decide +kernel
theorem dX6_againstSell_17 : decode cX6_againstSell 17 = .ok (.ireturn, 1) := by decide +kernel
set_option maxRecDepth 20000 in
theorem ggX6_sells_X6_shopAt : GoodIn wsX6_sells wsX6_shopAt := goodIn_r _ [5] (by decide +kernel) (by decide +kernel)
set_option maxRecDepth 20000 in
theorem gX6_sells_X6_shopAt : GoodIn wsX6_sells (va_wsS RX6 43 yX6_shopAt wsX6_shopAt) := goodIn_app (goodIn_of _ (by decide +kernel)) ggX6_sells_X6_shopAt
set_option maxRecDepth 20000 in
theorem ggX6_sells_X6_brandAt : GoodIn wsX6_sells wsX6_brandAt := goodIn_r _ [8] (by decide +kernel) (by decide +kernel)
set_option maxRecDepth 20000 in
theorem gX6_sells_X6_brandAt : GoodIn wsX6_sells (va_wsS RX6 39 yX6_brandAt wsX6_brandAt) := goodIn_app (goodIn_of _ (by decide +kernel)) ggX6_sells_X6_brandAt
set_option maxRecDepth 20000 in
theorem ggX6_sells_X6_deposit : GoodIn wsX6_sells wsX6_deposit := goodIn_r _ [12, 1, 13, 14, 15, 4, 16, 6, 7, 8, 21, 22, 23, 24, 25, 26, 27, 28, 29, 30, 31, 32, 33, 34, 35, 36] (by decide +kernel) (by decide +kernel)
set_option maxRecDepth 20000 in
theorem gX6_sells_X6_deposit : GoodIn wsX6_sells (wsV RX6 73 RX6 yX6_deposit wsX6_deposit) := goodIn_app (goodIn_of _ (by decide +kernel)) ggX6_sells_X6_deposit
set_option maxRecDepth 20000 in
theorem ggX6_sells_X6_ofShop : GoodIn wsX6_sells wsX6_ofShop := goodIn_r _ [20, 1, 2, 3, 4, 5, 21, 22, 23, 24, 25, 26, 27, 28, 29, 30, 31, 32, 33, 34, 35, 36] (by decide +kernel) (by decide +kernel)
set_option maxRecDepth 20000 in
theorem gX6_sells_X6_ofShop : GoodIn wsX6_sells (wsV RX6 57 RX6 yX6_ofShop wsX6_ofShop) := goodIn_app (goodIn_of _ (by decide +kernel)) ggX6_sells_X6_ofShop
theorem dX6_sells_0 : decode cX6_sells 0 = .ok (.aload_n 0, 1) := by decide +kernel
theorem dX6_sells_1 : decode cX6_sells 1 = .ok (.getfield 7, 3) := by decide +kernel
theorem dX6_sells_4 : decode cX6_sells 4 = .ok (.iload_n 1, 1) := by decide +kernel
theorem dX6_sells_5 : decode cX6_sells 5 = .ok (.iconst 5, 1) := by decide +kernel
theorem dX6_sells_6 : decode cX6_sells 6 = .ok (.iload_n 2, 1) := by decide +kernel
theorem dX6_sells_7 : decode cX6_sells 7 = .ok (.iadd, 1) := by decide +kernel
theorem dX6_sells_8 : decode cX6_sells 8 = .ok (.invokestatic 43, 3) := by decide +kernel
theorem dX6_sells_11 : decode cX6_sells 11 = .ok (.dup2, 1) := by decide +kernel
theorem dX6_sells_12 : decode cX6_sells 12 = .ok (.iaload, 1) := by decide +kernel
theorem dX6_sells_13 : decode cX6_sells 13 = .ok (.iload_n 3, 1) := by decide +kernel
theorem dX6_sells_14 : decode cX6_sells 14 = .ok (.isub, 1) := by decide +kernel
theorem dX6_sells_15 : decode cX6_sells 15 = .ok (.iastore, 1) := by decide +kernel
theorem dX6_sells_16 : decode cX6_sells 16 = .ok (.aload_n 0, 1) := by decide +kernel
theorem dX6_sells_17 : decode cX6_sells 17 = .ok (.getfield 7, 3) := by decide +kernel
theorem dX6_sells_20 : decode cX6_sells 20 = .ok (.iload_n 2, 1) := by decide +kernel
theorem dX6_sells_21 : decode cX6_sells 21 = .ok (.iconst 3, 1) := by decide +kernel
theorem dX6_sells_22 : decode cX6_sells 22 = .ok (.invokestatic 39, 3) := by decide +kernel
theorem dX6_sells_25 : decode cX6_sells 25 = .ok (.dup2, 1) := by decide +kernel
theorem dX6_sells_26 : decode cX6_sells 26 = .ok (.iaload, 1) := by decide +kernel
theorem dX6_sells_27 : decode cX6_sells 27 = .ok (.iload_n 3, 1) := by decide +kernel
theorem dX6_sells_28 : decode cX6_sells 28 = .ok (.iadd, 1) := by decide +kernel
theorem dX6_sells_29 : decode cX6_sells 29 = .ok (.iastore, 1) := by decide +kernel
theorem dX6_sells_30 : decode cX6_sells 30 = .ok (.aload_n 0, 1) := by decide +kernel
theorem dX6_sells_31 : decode cX6_sells 31 = .ok (.getfield 7, 3) := by decide +kernel
theorem dX6_sells_34 : decode cX6_sells 34 = .ok (.iload_n 1, 1) := by decide +kernel
theorem dX6_sells_35 : decode cX6_sells 35 = .ok (.iconst 4, 1) := by decide +kernel
theorem dX6_sells_36 : decode cX6_sells 36 = .ok (.invokestatic 43, 3) := by decide +kernel
theorem dX6_sells_39 : decode cX6_sells 39 = .ok (.dup2, 1) := by decide +kernel
theorem dX6_sells_40 : decode cX6_sells 40 = .ok (.iaload, 1) := by decide +kernel
theorem dX6_sells_41 : decode cX6_sells 41 = .ok (.iload_n 3, 1) := by decide +kernel
theorem dX6_sells_42 : decode cX6_sells 42 = .ok (.iadd, 1) := by decide +kernel
theorem dX6_sells_43 : decode cX6_sells 43 = .ok (.iastore, 1) := by decide +kernel
theorem dX6_sells_44 : decode cX6_sells 44 = .ok (.aload_n 0, 1) := by decide +kernel
theorem dX6_sells_45 : decode cX6_sells 45 = .ok (.getfield 7, 3) := by decide +kernel
theorem dX6_sells_48 : decode cX6_sells 48 = .ok (.iload_n 1, 1) := by decide +kernel
theorem dX6_sells_49 : decode cX6_sells 49 = .ok (.iconst 0, 1) := by decide +kernel
theorem dX6_sells_50 : decode cX6_sells 50 = .ok (.invokestatic 43, 3) := by decide +kernel
theorem dX6_sells_53 : decode cX6_sells 53 = .ok (.dup2, 1) := by decide +kernel
theorem dX6_sells_54 : decode cX6_sells 54 = .ok (.iaload, 1) := by decide +kernel
theorem dX6_sells_55 : decode cX6_sells 55 = .ok (.iload_n 3, 1) := by decide +kernel
theorem dX6_sells_56 : decode cX6_sells 56 = .ok (.aload_n 0, 1) := by decide +kernel
theorem dX6_sells_57 : decode cX6_sells 57 = .ok (.iload_n 2, 1) := by decide +kernel
theorem dX6_sells_58 : decode cX6_sells 58 = .ok (.invokevirtual 73, 3) := by decide +kernel
theorem dX6_sells_61 : decode cX6_sells 61 = .ok (.imul, 1) := by decide +kernel
theorem dX6_sells_62 : decode cX6_sells 62 = .ok (.iadd, 1) := by decide +kernel
theorem dX6_sells_63 : decode cX6_sells 63 = .ok (.iastore, 1) := by decide +kernel
theorem dX6_sells_64 : decode cX6_sells 64 = .ok (.aload_n 0, 1) := by decide +kernel
theorem dX6_sells_65 : decode cX6_sells 65 = .ok (.iload_n 1, 1) := by decide +kernel
theorem dX6_sells_66 : decode cX6_sells 66 = .ok (.iconst 0, 1) := by decide +kernel
theorem dX6_sells_67 : decode cX6_sells 67 = .ok (.invokevirtual 57, 3) := by decide +kernel
theorem dX6_sells_70 : decode cX6_sells 70 = .ok (.ireturn, 1) := by decide +kernel
set_option maxRecDepth 20000 in
theorem ggX6_againstTakeBack_X6_of : GoodIn wsX6_againstTakeBack wsX6_of := goodIn_r _ [5, 6, 7, 8, 4, 9, 21, 22, 23, 24, 25, 26, 27, 28, 29, 30, 31, 32, 33, 34, 35, 36] (by decide +kernel) (by decide +kernel)
set_option maxRecDepth 20000 in
theorem gX6_againstTakeBack_X6_of : GoodIn wsX6_againstTakeBack (wsV RX6 46 RX6 yX6_of wsX6_of) := goodIn_app (goodIn_of _ (by decide +kernel)) ggX6_againstTakeBack_X6_of
set_option maxRecDepth 20000 in
theorem ggX6_againstTakeBack_X6_ofShop : GoodIn wsX6_againstTakeBack wsX6_ofShop := goodIn_r _ [13, 6, 14, 15, 4, 16, 21, 22, 23, 24, 25, 26, 27, 28, 29, 30, 31, 32, 33, 34, 35, 36] (by decide +kernel) (by decide +kernel)
set_option maxRecDepth 20000 in
theorem gX6_againstTakeBack_X6_ofShop : GoodIn wsX6_againstTakeBack (wsV RX6 57 RX6 yX6_ofShop wsX6_ofShop) := goodIn_app (goodIn_of _ (by decide +kernel)) ggX6_againstTakeBack_X6_ofShop
set_option maxRecDepth 20000 in
theorem ggX6_againstTakeBack_X6_deposit : GoodIn wsX6_againstTakeBack wsX6_deposit := goodIn_r _ [20, 6, 1, 2, 3, 4, 5, 7, 8, 9, 21, 22, 23, 24, 25, 26, 27, 28, 29, 30, 31, 32, 33, 34, 35, 36] (by decide +kernel) (by decide +kernel)
set_option maxRecDepth 20000 in
theorem gX6_againstTakeBack_X6_deposit : GoodIn wsX6_againstTakeBack (wsV RX6 73 RX6 yX6_deposit wsX6_deposit) := goodIn_app (goodIn_of _ (by decide +kernel)) ggX6_againstTakeBack_X6_deposit
theorem dX6_againstTakeBack_0 : decode cX6_againstTakeBack 0 = .ok (.aload_n 0, 1) := by decide +kernel
theorem dX6_againstTakeBack_1 : decode cX6_againstTakeBack 1 = .ok (.iload_n 2, 1) := by decide +kernel
theorem dX6_againstTakeBack_2 : decode cX6_againstTakeBack 2 = .ok (.iconst 3, 1) := by decide +kernel
theorem dX6_againstTakeBack_3 : decode cX6_againstTakeBack 3 = .ok (.invokevirtual 46, 3) := by decide +kernel
theorem dX6_againstTakeBack_6 : decode cX6_againstTakeBack 6 = .ok (.iload_n 3, 1) := by decide +kernel
theorem dX6_againstTakeBack_7 : decode cX6_againstTakeBack 7 = .ok (.if_icmp .ge 7, 3) := by decide +kernel
theorem dX6_againstTakeBack_10 : decode cX6_againstTakeBack 10 = .ok (.iconst 1, 1) := by decide +kernel
theorem dX6_againstTakeBack_11 : decode cX6_againstTakeBack 11 = .ok (.goto 24, 3) := by decide +kernel
theorem dX6_againstTakeBack_14 : decode cX6_againstTakeBack 14 = .ok (.aload_n 0, 1) := by decide +kernel
theorem dX6_againstTakeBack_15 : decode cX6_againstTakeBack 15 = .ok (.iload_n 1, 1) := by decide +kernel
theorem dX6_againstTakeBack_16 : decode cX6_againstTakeBack 16 = .ok (.iconst 0, 1) := by decide +kernel
theorem dX6_againstTakeBack_17 : decode cX6_againstTakeBack 17 = .ok (.invokevirtual 57, 3) := by decide +kernel
theorem dX6_againstTakeBack_20 : decode cX6_againstTakeBack 20 = .ok (.iload_n 3, 1) := by decide +kernel
theorem dX6_againstTakeBack_21 : decode cX6_againstTakeBack 21 = .ok (.aload_n 0, 1) := by decide +kernel
theorem dX6_againstTakeBack_22 : decode cX6_againstTakeBack 22 = .ok (.iload_n 2, 1) := by decide +kernel
theorem dX6_againstTakeBack_23 : decode cX6_againstTakeBack 23 = .ok (.invokevirtual 73, 3) := by decide +kernel
theorem dX6_againstTakeBack_26 : decode cX6_againstTakeBack 26 = .ok (.imul, 1) := by decide +kernel
theorem dX6_againstTakeBack_27 : decode cX6_againstTakeBack 27 = .ok (.if_icmp .ge 7, 3) := by decide +kernel
theorem dX6_againstTakeBack_30 : decode cX6_againstTakeBack 30 = .ok (.iconst 3, 1) := by decide +kernel
theorem dX6_againstTakeBack_31 : decode cX6_againstTakeBack 31 = .ok (.goto 4, 3) := by decide +kernel
theorem dX6_againstTakeBack_34 : decode cX6_againstTakeBack 34 = .ok (.iconst 0, 1) := by decide +kernel
theorem dX6_againstTakeBack_35 : decode cX6_againstTakeBack 35 = .ok (.ireturn, 1) := by decide +kernel
set_option maxRecDepth 20000 in
theorem ggX6_takesBack_X6_brandAt : GoodIn wsX6_takesBack wsX6_brandAt := goodIn_r _ [5] (by decide +kernel) (by decide +kernel)
set_option maxRecDepth 20000 in
theorem gX6_takesBack_X6_brandAt : GoodIn wsX6_takesBack (va_wsS RX6 39 yX6_brandAt wsX6_brandAt) := goodIn_app (goodIn_of _ (by decide +kernel)) ggX6_takesBack_X6_brandAt
set_option maxRecDepth 20000 in
theorem ggX6_takesBack_X6_shopAt : GoodIn wsX6_takesBack wsX6_shopAt := goodIn_r _ [8] (by decide +kernel) (by decide +kernel)
set_option maxRecDepth 20000 in
theorem gX6_takesBack_X6_shopAt : GoodIn wsX6_takesBack (va_wsS RX6 43 yX6_shopAt wsX6_shopAt) := goodIn_app (goodIn_of _ (by decide +kernel)) ggX6_takesBack_X6_shopAt
set_option maxRecDepth 20000 in
theorem ggX6_takesBack_X6_deposit : GoodIn wsX6_takesBack wsX6_deposit := goodIn_r _ [12, 1, 13, 14, 15, 4, 16, 2, 3, 5, 21, 22, 23, 24, 25, 26, 27, 28, 29, 30, 31, 32, 33, 34, 35, 36] (by decide +kernel) (by decide +kernel)
set_option maxRecDepth 20000 in
theorem gX6_takesBack_X6_deposit : GoodIn wsX6_takesBack (wsV RX6 73 RX6 yX6_deposit wsX6_deposit) := goodIn_app (goodIn_of _ (by decide +kernel)) ggX6_takesBack_X6_deposit
set_option maxRecDepth 20000 in
theorem ggX6_takesBack_X6_ofShop : GoodIn wsX6_takesBack wsX6_ofShop := goodIn_r _ [20, 1, 6, 7, 4, 8, 21, 22, 23, 24, 25, 26, 27, 28, 29, 30, 31, 32, 33, 34, 35, 36] (by decide +kernel) (by decide +kernel)
set_option maxRecDepth 20000 in
theorem gX6_takesBack_X6_ofShop : GoodIn wsX6_takesBack (wsV RX6 57 RX6 yX6_ofShop wsX6_ofShop) := goodIn_app (goodIn_of _ (by decide +kernel)) ggX6_takesBack_X6_ofShop
theorem dX6_takesBack_0 : decode cX6_takesBack 0 = .ok (.aload_n 0, 1) := by decide +kernel
theorem dX6_takesBack_1 : decode cX6_takesBack 1 = .ok (.getfield 7, 3) := by decide +kernel
theorem dX6_takesBack_4 : decode cX6_takesBack 4 = .ok (.iload_n 2, 1) := by decide +kernel
theorem dX6_takesBack_5 : decode cX6_takesBack 5 = .ok (.iconst 3, 1) := by decide +kernel
theorem dX6_takesBack_6 : decode cX6_takesBack 6 = .ok (.invokestatic 39, 3) := by decide +kernel
theorem dX6_takesBack_9 : decode cX6_takesBack 9 = .ok (.dup2, 1) := by decide +kernel
theorem dX6_takesBack_10 : decode cX6_takesBack 10 = .ok (.iaload, 1) := by decide +kernel
theorem dX6_takesBack_11 : decode cX6_takesBack 11 = .ok (.iload_n 3, 1) := by decide +kernel
theorem dX6_takesBack_12 : decode cX6_takesBack 12 = .ok (.isub, 1) := by decide +kernel
theorem dX6_takesBack_13 : decode cX6_takesBack 13 = .ok (.iastore, 1) := by decide +kernel
theorem dX6_takesBack_14 : decode cX6_takesBack 14 = .ok (.aload_n 0, 1) := by decide +kernel
theorem dX6_takesBack_15 : decode cX6_takesBack 15 = .ok (.getfield 7, 3) := by decide +kernel
theorem dX6_takesBack_18 : decode cX6_takesBack 18 = .ok (.iload_n 1, 1) := by decide +kernel
theorem dX6_takesBack_19 : decode cX6_takesBack 19 = .ok (.bipush 13, 2) := by decide +kernel
theorem dX6_takesBack_21 : decode cX6_takesBack 21 = .ok (.iload_n 2, 1) := by decide +kernel
theorem dX6_takesBack_22 : decode cX6_takesBack 22 = .ok (.iadd, 1) := by decide +kernel
theorem dX6_takesBack_23 : decode cX6_takesBack 23 = .ok (.invokestatic 43, 3) := by decide +kernel
theorem dX6_takesBack_26 : decode cX6_takesBack 26 = .ok (.dup2, 1) := by decide +kernel
theorem dX6_takesBack_27 : decode cX6_takesBack 27 = .ok (.iaload, 1) := by decide +kernel
theorem dX6_takesBack_28 : decode cX6_takesBack 28 = .ok (.iload_n 3, 1) := by decide +kernel
theorem dX6_takesBack_29 : decode cX6_takesBack 29 = .ok (.iadd, 1) := by decide +kernel
theorem dX6_takesBack_30 : decode cX6_takesBack 30 = .ok (.iastore, 1) := by decide +kernel
theorem dX6_takesBack_31 : decode cX6_takesBack 31 = .ok (.aload_n 0, 1) := by decide +kernel
theorem dX6_takesBack_32 : decode cX6_takesBack 32 = .ok (.getfield 7, 3) := by decide +kernel
theorem dX6_takesBack_35 : decode cX6_takesBack 35 = .ok (.iload_n 1, 1) := by decide +kernel
theorem dX6_takesBack_36 : decode cX6_takesBack 36 = .ok (.iconst 4, 1) := by decide +kernel
theorem dX6_takesBack_37 : decode cX6_takesBack 37 = .ok (.invokestatic 43, 3) := by decide +kernel
theorem dX6_takesBack_40 : decode cX6_takesBack 40 = .ok (.dup2, 1) := by decide +kernel
theorem dX6_takesBack_41 : decode cX6_takesBack 41 = .ok (.iaload, 1) := by decide +kernel
theorem dX6_takesBack_42 : decode cX6_takesBack 42 = .ok (.iload_n 3, 1) := by decide +kernel
theorem dX6_takesBack_43 : decode cX6_takesBack 43 = .ok (.isub, 1) := by decide +kernel
theorem dX6_takesBack_44 : decode cX6_takesBack 44 = .ok (.iastore, 1) := by decide +kernel
theorem dX6_takesBack_45 : decode cX6_takesBack 45 = .ok (.aload_n 0, 1) := by decide +kernel
theorem dX6_takesBack_46 : decode cX6_takesBack 46 = .ok (.getfield 7, 3) := by decide +kernel
theorem dX6_takesBack_49 : decode cX6_takesBack 49 = .ok (.iload_n 1, 1) := by decide +kernel
theorem dX6_takesBack_50 : decode cX6_takesBack 50 = .ok (.iconst 0, 1) := by decide +kernel
theorem dX6_takesBack_51 : decode cX6_takesBack 51 = .ok (.invokestatic 43, 3) := by decide +kernel
theorem dX6_takesBack_54 : decode cX6_takesBack 54 = .ok (.dup2, 1) := by decide +kernel
theorem dX6_takesBack_55 : decode cX6_takesBack 55 = .ok (.iaload, 1) := by decide +kernel
theorem dX6_takesBack_56 : decode cX6_takesBack 56 = .ok (.iload_n 3, 1) := by decide +kernel
theorem dX6_takesBack_57 : decode cX6_takesBack 57 = .ok (.aload_n 0, 1) := by decide +kernel
theorem dX6_takesBack_58 : decode cX6_takesBack 58 = .ok (.iload_n 2, 1) := by decide +kernel
theorem dX6_takesBack_59 : decode cX6_takesBack 59 = .ok (.invokevirtual 73, 3) := by decide +kernel
theorem dX6_takesBack_62 : decode cX6_takesBack 62 = .ok (.imul, 1) := by decide +kernel
theorem dX6_takesBack_63 : decode cX6_takesBack 63 = .ok (.isub, 1) := by decide +kernel
theorem dX6_takesBack_64 : decode cX6_takesBack 64 = .ok (.iastore, 1) := by decide +kernel
theorem dX6_takesBack_65 : decode cX6_takesBack 65 = .ok (.aload_n 0, 1) := by decide +kernel
theorem dX6_takesBack_66 : decode cX6_takesBack 66 = .ok (.iload_n 1, 1) := by decide +kernel
theorem dX6_takesBack_67 : decode cX6_takesBack 67 = .ok (.iconst 0, 1) := by decide +kernel
theorem dX6_takesBack_68 : decode cX6_takesBack 68 = .ok (.invokevirtual 57, 3) := by decide +kernel
theorem dX6_takesBack_71 : decode cX6_takesBack 71 = .ok (.ireturn, 1) := by decide +kernel
set_option maxRecDepth 20000 in
theorem ggX6_againstBreak_X6_ofShop : GoodIn wsX6_againstBreak wsX6_ofShop := goodIn_r _ [5, 6, 7, 8, 4, 9, 10, 11, 12, 13, 14, 15, 16, 17, 18, 19, 20, 21, 22, 23, 24, 25] (by decide +kernel) (by decide +kernel)
set_option maxRecDepth 20000 in
theorem gX6_againstBreak_X6_ofShop : GoodIn wsX6_againstBreak (wsV RX6 57 RX6 yX6_ofShop wsX6_ofShop) := goodIn_app (goodIn_of _ (by decide +kernel)) ggX6_againstBreak_X6_ofShop
theorem dX6_againstBreak_0 : decode cX6_againstBreak 0 = .ok (.aload_n 0, 1) := by decide +kernel
theorem dX6_againstBreak_1 : decode cX6_againstBreak 1 = .ok (.iload_n 1, 1) := by decide +kernel
theorem dX6_againstBreak_2 : decode cX6_againstBreak 2 = .ok (.bipush 13, 2) := by decide +kernel
theorem dX6_againstBreak_4 : decode cX6_againstBreak 4 = .ok (.iload_n 2, 1) := by decide +kernel
theorem dX6_againstBreak_5 : decode cX6_againstBreak 5 = .ok (.iadd, 1) := by decide +kernel
theorem dX6_againstBreak_6 : decode cX6_againstBreak 6 = .ok (.invokevirtual 57, 3) := by decide +kernel
theorem dX6_againstBreak_9 : decode cX6_againstBreak 9 = .ok (.iload_n 3, 1) := by decide +kernel
theorem dX6_againstBreak_10 : decode cX6_againstBreak 10 = .ok (.if_icmp .ge 7, 3) := by decide +kernel
theorem dX6_againstBreak_13 : decode cX6_againstBreak 13 = .ok (.iconst 1, 1) := by decide +kernel
theorem dX6_againstBreak_14 : decode cX6_againstBreak 14 = .ok (.goto 4, 3) := by decide +kernel
theorem dX6_againstBreak_17 : decode cX6_againstBreak 17 = .ok (.iconst 0, 1) := by decide +kernel
theorem dX6_againstBreak_18 : decode cX6_againstBreak 18 = .ok (.ireturn, 1) := by decide +kernel
set_option maxRecDepth 20000 in
theorem ggX6_breaksThem_X6_deposit : GoodIn wsX6_breaksThem wsX6_deposit := goodIn_r _ [6, 1, 7, 8, 9, 5, 10, 11, 12, 13, 20, 21, 22, 23, 24, 25, 26, 27, 28, 29, 30, 31, 32, 33, 34, 35] (by decide +kernel) (by decide +kernel)
set_option maxRecDepth 20000 in
theorem gX6_breaksThem_X6_deposit : GoodIn wsX6_breaksThem (wsV RX6 73 RX6 yX6_deposit wsX6_deposit) := goodIn_app (goodIn_of _ (by decide +kernel)) ggX6_breaksThem_X6_deposit
set_option maxRecDepth 20000 in
theorem ggX6_breaksThem_X6_least : GoodIn wsX6_breaksThem wsX6_least := goodIn_r _ [16] (by decide +kernel) (by decide +kernel)
set_option maxRecDepth 20000 in
theorem gX6_breaksThem_X6_least : GoodIn wsX6_breaksThem (va_wsS RX6 76 yX6_least wsX6_least) := goodIn_app (goodIn_of _ (by decide +kernel)) ggX6_breaksThem_X6_least
set_option maxRecDepth 20000 in
theorem ggX6_breaksThem_X6_shopAt : GoodIn wsX6_breaksThem wsX6_shopAt := goodIn_r _ [19] (by decide +kernel) (by decide +kernel)
set_option maxRecDepth 20000 in
theorem gX6_breaksThem_X6_shopAt : GoodIn wsX6_breaksThem (va_wsS RX6 43 yX6_shopAt wsX6_shopAt) := goodIn_app (goodIn_of _ (by decide +kernel)) ggX6_breaksThem_X6_shopAt
set_option maxRecDepth 20000 in
theorem ggX6_breaksThem_X6_brandAt : GoodIn wsX6_breaksThem wsX6_brandAt := goodIn_r _ [13] (by decide +kernel) (by decide +kernel)
set_option maxRecDepth 20000 in
theorem gX6_breaksThem_X6_brandAt : GoodIn wsX6_breaksThem (va_wsS RX6 39 yX6_brandAt wsX6_brandAt) := goodIn_app (goodIn_of _ (by decide +kernel)) ggX6_breaksThem_X6_brandAt
theorem dX6_breaksThem_0 : decode cX6_breaksThem 0 = .ok (.iload_n 3, 1) := by decide +kernel
theorem dX6_breaksThem_1 : decode cX6_breaksThem 1 = .ok (.aload_n 0, 1) := by decide +kernel
theorem dX6_breaksThem_2 : decode cX6_breaksThem 2 = .ok (.iload_n 2, 1) := by decide +kernel
theorem dX6_breaksThem_3 : decode cX6_breaksThem 3 = .ok (.invokevirtual 73, 3) := by decide +kernel
theorem dX6_breaksThem_6 : decode cX6_breaksThem 6 = .ok (.imul, 1) := by decide +kernel
theorem dX6_breaksThem_7 : decode cX6_breaksThem 7 = .ok (.istore 4, 2) := by decide +kernel
theorem dX6_breaksThem_9 : decode cX6_breaksThem 9 = .ok (.iload 4, 2) := by decide +kernel
theorem dX6_breaksThem_11 : decode cX6_breaksThem 11 = .ok (.aload_n 0, 1) := by decide +kernel
theorem dX6_breaksThem_12 : decode cX6_breaksThem 12 = .ok (.getfield 7, 3) := by decide +kernel
theorem dX6_breaksThem_15 : decode cX6_breaksThem 15 = .ok (.iconst 5, 1) := by decide +kernel
theorem dX6_breaksThem_16 : decode cX6_breaksThem 16 = .ok (.iaload, 1) := by decide +kernel
