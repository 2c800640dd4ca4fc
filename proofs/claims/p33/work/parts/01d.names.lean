set_option maxRecDepth 20000 in
theorem gX5_fill_X5_needRange : GoodIn wsX5_fill (va_wsS RX5 48 yX5_needRange wsX5_needRange) := goodIn_app (goodIn_of _ (by decide +kernel)) ggX5_fill_X5_needRange
set_option maxRecDepth 20000 in
theorem ggX5_fill_X2_ofBrand : GoodIn wsX5_fill wsX2_ofBrand := goodIn_r _ [34, 19, 20, 21, 16, 22, 23, 82] (by decide +kernel) (by decide +kernel)
set_option maxRecDepth 20000 in
theorem gX5_fill_X2_ofBrand_n103 : GoodIn wsX5_fill (wsX2_ofBrand) := ggX5_fill_X2_ofBrand
set_option maxRecDepth 20000 in
theorem ggX5_fill_X5_needState : GoodIn wsX5_fill wsX5_needState := goodIn_ca (goodIn_r _ [37, 38, 39] (by decide +kernel) (by decide +kernel)) (goodIn_sub (fun _ h => List.mem_cons_of_mem _ (List.mem_append_right _ h)) (by decide +kernel))
set_option maxRecDepth 20000 in
theorem gX5_fill_X5_needState : GoodIn wsX5_fill (va_wsS RX5 58 yX5_needState wsX5_needState) := goodIn_app (goodIn_of _ (by decide +kernel)) ggX5_fill_X5_needState
set_option maxRecDepth 20000 in
theorem ggX5_fill_X1_keep : GoodIn wsX5_fill wsX1_keep := goodIn_r _ [43, 44, 45, 46, 47, 48, 41, 49, 50, 51, 16, 52, 53, 23, 54, 55, 56, 57, 83, 84, 85, 82] (by decide +kernel) (by decide +kernel)
set_option maxRecDepth 20000 in
theorem gX5_fill_X1_keep_n62 : GoodIn wsX5_fill (wsX1_keep) := ggX5_fill_X1_keep
set_option maxRecDepth 20000 in
theorem ggX5_fill_X4_fillBottles : GoodIn wsX5_fill wsX4_fillBottles := goodIn_r _ [61, 62, 63, 64, 65, 59, 66, 67, 16, 68, 69, 19, 20, 21, 22, 23, 32, 33, 34, 70, 71, 72, 73, 74, 75, 76, 86, 87, 82] (by decide +kernel) (by decide +kernel)
set_option maxRecDepth 20000 in
theorem gX5_fill_X4_fillBottles_n107 : GoodIn wsX5_fill (wsX4_fillBottles) := ggX5_fill_X4_fillBottles
theorem dX5_fill_0 : decode cX5_fill 0 = .ok (.aload_n 0, 1) := by decide +kernel
theorem dX5_fill_1 : decode cX5_fill 1 = .ok (.iload_n 1, 1) := by decide +kernel
theorem dX5_fill_2 : decode cX5_fill 2 = .ok (.invokevirtual 100, 3) := by decide +kernel
theorem dX5_fill_5 : decode cX5_fill 5 = .ok (.iload_n 2, 1) := by decide +kernel
theorem dX5_fill_6 : decode cX5_fill 6 = .ok (.iconst 1, 1) := by decide +kernel
theorem dX5_fill_7 : decode cX5_fill 7 = .ok (.sipush 5000, 3) := by decide +kernel
theorem dX5_fill_10 : decode cX5_fill 10 = .ok (.invokestatic 48, 3) := by decide +kernel
theorem dX5_fill_13 : decode cX5_fill 13 = .ok (.aload_n 0, 1) := by decide +kernel
theorem dX5_fill_14 : decode cX5_fill 14 = .ok (.getfield 20, 3) := by decide +kernel
theorem dX5_fill_17 : decode cX5_fill 17 = .ok (.iload_n 1, 1) := by decide +kernel
theorem dX5_fill_18 : decode cX5_fill 18 = .ok (.iconst 1, 1) := by decide +kernel
theorem dX5_fill_19 : decode cX5_fill 19 = .ok (.invokevirtual 103, 3) := by decide +kernel
theorem dX5_fill_22 : decode cX5_fill 22 = .ok (.iload_n 2, 1) := by decide +kernel
theorem dX5_fill_23 : decode cX5_fill 23 = .ok (.if_icmp .lt 7, 3) := by decide +kernel
theorem dX5_fill_26 : decode cX5_fill 26 = .ok (.iconst 1, 1) := by decide +kernel
theorem dX5_fill_27 : decode cX5_fill 27 = .ok (.goto 4, 3) := by decide +kernel
theorem dX5_fill_30 : decode cX5_fill 30 = .ok (.iconst 0, 1) := by decide +kernel
theorem dX5_fill_31 : decode cX5_fill 31 = .ok (.invokestatic 58, 3) := by decide +kernel
theorem dX5_fill_34 : decode cX5_fill 34 = .ok (.aload_n 0, 1) := by decide +kernel
theorem dX5_fill_35 : decode cX5_fill 35 = .ok (.getfield 26, 3) := by decide +kernel
theorem dX5_fill_38 : decode cX5_fill 38 = .ok (.aload_n 0, 1) := by decide +kernel
theorem dX5_fill_39 : decode cX5_fill 39 = .ok (.getfield 20, 3) := by decide +kernel
theorem dX5_fill_42 : decode cX5_fill 42 = .ok (.invokevirtual 62, 3) := by decide +kernel
theorem dX5_fill_45 : decode cX5_fill 45 = .ok (.aload_n 0, 1) := by decide +kernel
theorem dX5_fill_46 : decode cX5_fill 46 = .ok (.getfield 12, 3) := by decide +kernel
theorem dX5_fill_49 : decode cX5_fill 49 = .ok (.iload_n 1, 1) := by decide +kernel
theorem dX5_fill_50 : decode cX5_fill 50 = .ok (.iload_n 2, 1) := by decide +kernel
theorem dX5_fill_51 : decode cX5_fill 51 = .ok (.invokevirtual 107, 3) := by decide +kernel
theorem dX5_fill_54 : decode cX5_fill 54 = .ok (.ireturn, 1) := by decide +kernel
set_option maxRecDepth 20000 in
theorem ggX5_deliver_X5_needBrand : GoodIn wsX5_deliver wsX5_needBrand := goodIn_ca (goodIn_r _ [8, 9, 10, 11, 12, 13, 7, 14, 3, 15, 16, 17, 18, 19, 20, 21, 22, 23, 101, 102, 103, 104, 105, 106] (by decide +kernel) (by decide +kernel)) (goodIn_sub (fun _ h => List.mem_cons_of_mem _ (List.mem_append_left _ (List.mem_append_left _ (List.mem_append_right _ h)))) (by decide +kernel))
set_option maxRecDepth 20000 in
theorem gX5_deliver_X5_needBrand : GoodIn wsX5_deliver (wsV RX5 100 RX5 yX5_needBrand wsX5_needBrand) := goodIn_app (goodIn_of _ (by decide +kernel)) ggX5_deliver_X5_needBrand
set_option maxRecDepth 20000 in
theorem ggX5_deliver_X5_needShop : GoodIn wsX5_deliver wsX5_needShop := goodIn_ca (goodIn_r _ [27, 9, 10, 28, 29, 30, 7, 31, 3, 15, 16, 17, 18, 19, 20, 21, 22, 23, 101, 102, 103, 104, 105, 106] (by decide +kernel) (by decide +kernel)) (goodIn_sub (fun _ h => List.mem_cons_of_mem _ (List.mem_append_left _ (List.mem_append_left _ (List.mem_append_right _ h)))) (by decide +kernel))
set_option maxRecDepth 20000 in
theorem gX5_deliver_X5_needShop : GoodIn wsX5_deliver (wsV RX5 110 RX5 yX5_needShop wsX5_needShop) := goodIn_app (goodIn_of _ (by decide +kernel)) ggX5_deliver_X5_needShop
set_option maxRecDepth 20000 in
theorem ggX5_deliver_X5_needRange : GoodIn wsX5_deliver wsX5_needRange := goodIn_ca (goodIn_r _ [34, 35, 36, 7, 37, 38, 39] (by decide +kernel) (by decide +kernel)) (goodIn_sub (fun _ h => List.mem_cons_of_mem _ (List.mem_append_left _ (List.mem_append_right _ h))) (by decide +kernel))
set_option maxRecDepth 20000 in
theorem gX5_deliver_X5_needRange : GoodIn wsX5_deliver (va_wsS RX5 48 yX5_needRange wsX5_needRange) := goodIn_app (goodIn_of _ (by decide +kernel)) ggX5_deliver_X5_needRange
set_option maxRecDepth 20000 in
theorem ggX5_deliver_X4_deliverReason : GoodIn wsX5_deliver wsX4_deliverReason := goodIn_r _ [43, 44, 45, 16, 46, 47, 19, 20, 21, 22, 23, 15, 17, 18, 48, 49, 50, 51, 52, 53, 41, 54, 55, 56, 57, 58, 59, 60, 61, 107, 108, 106] (by decide +kernel) (by decide +kernel)
set_option maxRecDepth 20000 in
theorem gX5_deliver_X4_deliverReason_n113 : GoodIn wsX5_deliver (wsX4_deliverReason) := ggX5_deliver_X4_deliverReason
set_option maxRecDepth 20000 in
theorem ggX5_deliver_X5_needState : GoodIn wsX5_deliver wsX5_needState := goodIn_ca (goodIn_r _ [64, 65, 66] (by decide +kernel) (by decide +kernel)) (goodIn_sub (fun _ h => List.mem_cons_of_mem _ (List.mem_append_right _ h)) (by decide +kernel))
set_option maxRecDepth 20000 in
theorem gX5_deliver_X5_needState : GoodIn wsX5_deliver (va_wsS RX5 58 yX5_needState wsX5_needState) := goodIn_app (goodIn_of _ (by decide +kernel)) ggX5_deliver_X5_needState
set_option maxRecDepth 20000 in
theorem ggX5_deliver_X1_keep : GoodIn wsX5_deliver wsX1_keep := goodIn_r _ [70, 71, 72, 73, 74, 75, 68, 76, 77, 78, 16, 79, 80, 23, 81, 82, 83, 84, 109, 110, 111, 106] (by decide +kernel) (by decide +kernel)
set_option maxRecDepth 20000 in
theorem gX5_deliver_X1_keep_n62 : GoodIn wsX5_deliver (wsX1_keep) := ggX5_deliver_X1_keep
set_option maxRecDepth 20000 in
theorem ggX5_deliver_X4_deliverCrates : GoodIn wsX5_deliver wsX4_deliverCrates := goodIn_r _ [87, 44, 45, 16, 46, 47, 19, 20, 21, 22, 23, 55, 56, 57, 41, 58, 59, 60, 61, 88, 89, 90, 91, 92, 93, 94, 95, 96, 97, 98, 99, 100, 107, 108, 106] (by decide +kernel) (by decide +kernel)
set_option maxRecDepth 20000 in
theorem gX5_deliver_X4_deliverCrates_n117 : GoodIn wsX5_deliver (wsX4_deliverCrates) := ggX5_deliver_X4_deliverCrates
theorem dX5_deliver_0 : decode cX5_deliver 0 = .ok (.aload_n 0, 1) := by decide +kernel
theorem dX5_deliver_1 : decode cX5_deliver 1 = .ok (.iload_n 1, 1) := by decide +kernel
theorem dX5_deliver_2 : decode cX5_deliver 2 = .ok (.invokevirtual 100, 3) := by decide +kernel
theorem dX5_deliver_5 : decode cX5_deliver 5 = .ok (.aload_n 0, 1) := by decide +kernel
theorem dX5_deliver_6 : decode cX5_deliver 6 = .ok (.iload_n 2, 1) := by decide +kernel
theorem dX5_deliver_7 : decode cX5_deliver 7 = .ok (.invokevirtual 110, 3) := by decide +kernel
theorem dX5_deliver_10 : decode cX5_deliver 10 = .ok (.iload_n 3, 1) := by decide +kernel
theorem dX5_deliver_11 : decode cX5_deliver 11 = .ok (.iconst 1, 1) := by decide +kernel
theorem dX5_deliver_12 : decode cX5_deliver 12 = .ok (.bipush 50, 2) := by decide +kernel
theorem dX5_deliver_14 : decode cX5_deliver 14 = .ok (.invokestatic 48, 3) := by decide +kernel
theorem dX5_deliver_17 : decode cX5_deliver 17 = .ok (.aload_n 0, 1) := by decide +kernel
theorem dX5_deliver_18 : decode cX5_deliver 18 = .ok (.getfield 12, 3) := by decide +kernel
theorem dX5_deliver_21 : decode cX5_deliver 21 = .ok (.iload_n 1, 1) := by decide +kernel
theorem dX5_deliver_22 : decode cX5_deliver 22 = .ok (.iload_n 2, 1) := by decide +kernel
theorem dX5_deliver_23 : decode cX5_deliver 23 = .ok (.iload_n 3, 1) := by decide +kernel
theorem dX5_deliver_24 : decode cX5_deliver 24 = .ok (.invokevirtual 113, 3) := by decide +kernel
theorem dX5_deliver_27 : decode cX5_deliver 27 = .ok (.ifCond .ne 7, 3) := by decide +kernel
theorem dX5_deliver_30 : decode cX5_deliver 30 = .ok (.iconst 1, 1) := by decide +kernel
theorem dX5_deliver_31 : decode cX5_deliver 31 = .ok (.goto 4, 3) := by decide +kernel
theorem dX5_deliver_34 : decode cX5_deliver 34 = .ok (.iconst 0, 1) := by decide +kernel
theorem dX5_deliver_35 : decode cX5_deliver 35 = .ok (.invokestatic 58, 3) := by decide +kernel
theorem dX5_deliver_38 : decode cX5_deliver 38 = .ok (.aload_n 0, 1) := by decide +kernel
theorem dX5_deliver_39 : decode cX5_deliver 39 = .ok (.getfield 26, 3) := by decide +kernel
theorem dX5_deliver_42 : decode cX5_deliver 42 = .ok (.aload_n 0, 1) := by decide +kernel
theorem dX5_deliver_43 : decode cX5_deliver 43 = .ok (.getfield 20, 3) := by decide +kernel
theorem dX5_deliver_46 : decode cX5_deliver 46 = .ok (.invokevirtual 62, 3) := by decide +kernel
theorem dX5_deliver_49 : decode cX5_deliver 49 = .ok (.aload_n 0, 1) := by decide +kernel
theorem dX5_deliver_50 : decode cX5_deliver 50 = .ok (.getfield 12, 3) := by decide +kernel
theorem dX5_deliver_53 : decode cX5_deliver 53 = .ok (.iload_n 1, 1) := by decide +kernel
theorem dX5_deliver_54 : decode cX5_deliver 54 = .ok (.iload_n 2, 1) := by decide +kernel
theorem dX5_deliver_55 : decode cX5_deliver 55 = .ok (.iload_n 3, 1) := by decide +kernel
theorem dX5_deliver_56 : decode cX5_deliver 56 = .ok (.invokevirtual 117, 3) := by decide +kernel
theorem dX5_deliver_59 : decode cX5_deliver 59 = .ok (.ireturn, 1) := by decide +kernel
set_option maxRecDepth 20000 in
theorem ggX5_sell_X5_needShop : GoodIn wsX5_sell wsX5_needShop := goodIn_ca (goodIn_r _ [8, 9, 10, 11, 12, 13, 7, 14, 3, 15, 16, 17, 18, 19, 20, 21, 22, 23, 97, 98, 99, 100, 101, 102] (by decide +kernel) (by decide +kernel)) (goodIn_sub (fun _ h => List.mem_cons_of_mem _ (List.mem_append_left _ (List.mem_append_left _ (List.mem_append_right _ h)))) (by decide +kernel))
set_option maxRecDepth 20000 in
theorem gX5_sell_X5_needShop : GoodIn wsX5_sell (wsV RX5 110 RX5 yX5_needShop wsX5_needShop) := goodIn_app (goodIn_of _ (by decide +kernel)) ggX5_sell_X5_needShop
set_option maxRecDepth 20000 in
theorem ggX5_sell_X5_needBrand : GoodIn wsX5_sell wsX5_needBrand := goodIn_ca (goodIn_r _ [27, 9, 10, 28, 29, 30, 7, 31, 3, 15, 16, 17, 18, 19, 20, 21, 22, 23, 97, 98, 99, 100, 101, 102] (by decide +kernel) (by decide +kernel)) (goodIn_sub (fun _ h => List.mem_cons_of_mem _ (List.mem_append_left _ (List.mem_append_left _ (List.mem_append_right _ h)))) (by decide +kernel))
set_option maxRecDepth 20000 in
theorem gX5_sell_X5_needBrand : GoodIn wsX5_sell (wsV RX5 100 RX5 yX5_needBrand wsX5_needBrand) := goodIn_app (goodIn_of _ (by decide +kernel)) ggX5_sell_X5_needBrand
set_option maxRecDepth 20000 in
theorem ggX5_sell_X5_needRange : GoodIn wsX5_sell wsX5_needRange := goodIn_ca (goodIn_r _ [34, 35, 36, 7, 37, 38, 39] (by decide +kernel) (by decide +kernel)) (goodIn_sub (fun _ h => List.mem_cons_of_mem _ (List.mem_append_left _ (List.mem_append_right _ h))) (by decide +kernel))
set_option maxRecDepth 20000 in
theorem gX5_sell_X5_needRange : GoodIn wsX5_sell (va_wsS RX5 48 yX5_needRange wsX5_needRange) := goodIn_app (goodIn_of _ (by decide +kernel)) ggX5_sell_X5_needRange
set_option maxRecDepth 20000 in
theorem ggX5_sell_X4_sellReason : GoodIn wsX5_sell wsX4_sellReason := goodIn_r _ [43, 44, 45, 16, 46, 47, 19, 20, 21, 22, 23, 48, 49, 41, 50, 103, 104, 102] (by decide +kernel) (by decide +kernel)
set_option maxRecDepth 20000 in
theorem gX5_sell_X4_sellReason_n120 : GoodIn wsX5_sell (wsX4_sellReason) := ggX5_sell_X4_sellReason
set_option maxRecDepth 20000 in
theorem ggX5_sell_X5_needState : GoodIn wsX5_sell wsX5_needState := goodIn_ca (goodIn_r _ [53, 54, 55] (by decide +kernel) (by decide +kernel)) (goodIn_sub (fun _ h => List.mem_cons_of_mem _ (List.mem_append_right _ h)) (by decide +kernel))
set_option maxRecDepth 20000 in
theorem gX5_sell_X5_needState : GoodIn wsX5_sell (va_wsS RX5 58 yX5_needState wsX5_needState) := goodIn_app (goodIn_of _ (by decide +kernel)) ggX5_sell_X5_needState
set_option maxRecDepth 20000 in
theorem ggX5_sell_X1_keep : GoodIn wsX5_sell wsX1_keep := goodIn_r _ [59, 60, 61, 62, 63, 64, 57, 65, 66, 67, 16, 68, 69, 23, 70, 71, 72, 73, 105, 106, 107, 102] (by decide +kernel) (by decide +kernel)
set_option maxRecDepth 20000 in
theorem gX5_sell_X1_keep_n62 : GoodIn wsX5_sell (wsX1_keep) := ggX5_sell_X1_keep
set_option maxRecDepth 20000 in
theorem ggX5_sell_X4_sellBottles : GoodIn wsX5_sell wsX4_sellBottles := goodIn_r _ [76, 44, 77, 16, 78, 79, 19, 20, 21, 22, 23, 80, 81, 82, 83, 84, 85, 86, 87, 88, 89, 41, 90, 91, 92, 93, 94, 95, 96, 45, 46, 47, 103, 104, 102] (by decide +kernel) (by decide +kernel)
set_option maxRecDepth 20000 in
theorem gX5_sell_X4_sellBottles_n123 : GoodIn wsX5_sell (wsX4_sellBottles) := ggX5_sell_X4_sellBottles
theorem dX5_sell_0 : decode cX5_sell 0 = .ok (.aload_n 0, 1) := by decide +kernel
theorem dX5_sell_1 : decode cX5_sell 1 = .ok (.iload_n 1, 1) := by decide +kernel
theorem dX5_sell_2 : decode cX5_sell 2 = .ok (.invokevirtual 110, 3) := by decide +kernel
theorem dX5_sell_5 : decode cX5_sell 5 = .ok (.aload_n 0, 1) := by decide +kernel
theorem dX5_sell_6 : decode cX5_sell 6 = .ok (.iload_n 2, 1) := by decide +kernel
theorem dX5_sell_7 : decode cX5_sell 7 = .ok (.invokevirtual 100, 3) := by decide +kernel
theorem dX5_sell_10 : decode cX5_sell 10 = .ok (.iload_n 3, 1) := by decide +kernel
theorem dX5_sell_11 : decode cX5_sell 11 = .ok (.iconst 1, 1) := by decide +kernel
theorem dX5_sell_12 : decode cX5_sell 12 = .ok (.sipush 500, 3) := by decide +kernel
theorem dX5_sell_15 : decode cX5_sell 15 = .ok (.invokestatic 48, 3) := by decide +kernel
theorem dX5_sell_18 : decode cX5_sell 18 = .ok (.aload_n 0, 1) := by decide +kernel
theorem dX5_sell_19 : decode cX5_sell 19 = .ok (.getfield 12, 3) := by decide +kernel
theorem dX5_sell_22 : decode cX5_sell 22 = .ok (.iload_n 1, 1) := by decide +kernel
theorem dX5_sell_23 : decode cX5_sell 23 = .ok (.iload_n 2, 1) := by decide +kernel
theorem dX5_sell_24 : decode cX5_sell 24 = .ok (.iload_n 3, 1) := by decide +kernel
theorem dX5_sell_25 : decode cX5_sell 25 = .ok (.invokevirtual 120, 3) := by decide +kernel
theorem dX5_sell_28 : decode cX5_sell 28 = .ok (.ifCond .ne 7, 3) := by decide +kernel
theorem dX5_sell_31 : decode cX5_sell 31 = .ok (.iconst 1, 1) := by decide +kernel
theorem dX5_sell_32 : decode cX5_sell 32 = .ok (.goto 4, 3) := by decide +kernel
theorem dX5_sell_35 : decode cX5_sell 35 = .ok (.iconst 0, 1) := by decide +kernel
theorem dX5_sell_36 : decode cX5_sell 36 = .ok (.invokestatic 58, 3) := by decide +kernel
theorem dX5_sell_39 : decode cX5_sell 39 = .ok (.aload_n 0, 1) := by decide +kernel
theorem dX5_sell_40 : decode cX5_sell 40 = .ok (.getfield 26, 3) := by decide +kernel
theorem dX5_sell_43 : decode cX5_sell 43 = .ok (.aload_n 0, 1) := by decide +kernel
theorem dX5_sell_44 : decode cX5_sell 44 = .ok (.getfield 20, 3) := by decide +kernel
theorem dX5_sell_47 : decode cX5_sell 47 = .ok (.invokevirtual 62, 3) := by decide +kernel
theorem dX5_sell_50 : decode cX5_sell 50 = .ok (.aload_n 0, 1) := by decide +kernel
theorem dX5_sell_51 : decode cX5_sell 51 = .ok (.getfield 12, 3) := by decide +kernel
theorem dX5_sell_54 : decode cX5_sell 54 = .ok (.iload_n 1, 1) := by decide +kernel
theorem dX5_sell_55 : decode cX5_sell 55 = .ok (.iload_n 2, 1) := by decide +kernel
theorem dX5_sell_56 : decode cX5_sell 56 = .ok (.iload_n 3, 1) := by decide +kernel
theorem dX5_sell_57 : decode cX5_sell 57 = .ok (.invokevirtual 123, 3) := by decide +kernel
theorem dX5_sell_60 : decode cX5_sell 60 = .ok (.ireturn, 1) := by decide +kernel
set_option maxRecDepth 20000 in
theorem ggX5_takeBack_X5_needShop : GoodIn wsX5_takeBack wsX5_needShop := goodIn_ca (goodIn_r _ [8, 9, 10, 11, 12, 13, 7, 14, 3, 15, 16, 17, 18, 19, 20, 21, 22, 23, 94, 95, 96, 97, 98, 99] (by decide +kernel) (by decide +kernel)) (goodIn_sub (fun _ h => List.mem_cons_of_mem _ (List.mem_append_left _ (List.mem_append_left _ (List.mem_append_right _ h)))) (by decide +kernel))
set_option maxRecDepth 20000 in
theorem gX5_takeBack_X5_needShop : GoodIn wsX5_takeBack (wsV RX5 110 RX5 yX5_needShop wsX5_needShop) := goodIn_app (goodIn_of _ (by decide +kernel)) ggX5_takeBack_X5_needShop
set_option maxRecDepth 20000 in
theorem ggX5_takeBack_X5_needBrand : GoodIn wsX5_takeBack wsX5_needBrand := goodIn_ca (goodIn_r _ [27, 9, 10, 28, 29, 30, 7, 31, 3, 15, 16, 17, 18, 19, 20, 21, 22, 23, 94, 95, 96, 97, 98, 99] (by decide +kernel) (by decide +kernel)) (goodIn_sub (fun _ h => List.mem_cons_of_mem _ (List.mem_append_left _ (List.mem_append_left _ (List.mem_append_right _ h)))) (by decide +kernel))
set_option maxRecDepth 20000 in
theorem gX5_takeBack_X5_needBrand : GoodIn wsX5_takeBack (wsV RX5 100 RX5 yX5_needBrand wsX5_needBrand) := goodIn_app (goodIn_of _ (by decide +kernel)) ggX5_takeBack_X5_needBrand
set_option maxRecDepth 20000 in
theorem ggX5_takeBack_X5_needRange : GoodIn wsX5_takeBack wsX5_needRange := goodIn_ca (goodIn_r _ [34, 35, 36, 7, 37, 38, 39] (by decide +kernel) (by decide +kernel)) (goodIn_sub (fun _ h => List.mem_cons_of_mem _ (List.mem_append_left _ (List.mem_append_right _ h))) (by decide +kernel))
set_option maxRecDepth 20000 in
theorem gX5_takeBack_X5_needRange : GoodIn wsX5_takeBack (va_wsS RX5 48 yX5_needRange wsX5_needRange) := goodIn_app (goodIn_of _ (by decide +kernel)) ggX5_takeBack_X5_needRange
set_option maxRecDepth 20000 in
theorem ggX5_takeBack_X4_returnReason : GoodIn wsX5_takeBack wsX4_returnReason := goodIn_r _ [43, 44, 45, 16, 46, 47, 19, 20, 21, 22, 23, 48, 49, 50, 51, 52, 53, 41, 54, 55, 56, 57, 100, 101, 99] (by decide +kernel) (by decide +kernel)
set_option maxRecDepth 20000 in
theorem gX5_takeBack_X4_returnReason_n126 : GoodIn wsX5_takeBack (wsX4_returnReason) := ggX5_takeBack_X4_returnReason
set_option maxRecDepth 20000 in
theorem ggX5_takeBack_X5_needState : GoodIn wsX5_takeBack wsX5_needState := goodIn_ca (goodIn_r _ [60, 61, 62] (by decide +kernel) (by decide +kernel)) (goodIn_sub (fun _ h => List.mem_cons_of_mem _ (List.mem_append_right _ h)) (by decide +kernel))
set_option maxRecDepth 20000 in
theorem gX5_takeBack_X5_needState : GoodIn wsX5_takeBack (va_wsS RX5 58 yX5_needState wsX5_needState) := goodIn_app (goodIn_of _ (by decide +kernel)) ggX5_takeBack_X5_needState
set_option maxRecDepth 20000 in
theorem ggX5_takeBack_X1_keep : GoodIn wsX5_takeBack wsX1_keep := goodIn_r _ [66, 67, 68, 69, 70, 71, 64, 72, 73, 74, 16, 75, 76, 23, 77, 78, 79, 80, 102, 103, 104, 99] (by decide +kernel) (by decide +kernel)
set_option maxRecDepth 20000 in
theorem gX5_takeBack_X1_keep_n62 : GoodIn wsX5_takeBack (wsX1_keep) := ggX5_takeBack_X1_keep
set_option maxRecDepth 20000 in
theorem ggX5_takeBack_X4_returnBottles : GoodIn wsX5_takeBack wsX4_returnBottles := goodIn_r _ [83, 44, 84, 16, 85, 86, 19, 20, 21, 22, 23, 87, 88, 89, 90, 91, 92, 93, 51, 52, 53, 41, 54, 45, 46, 47, 55, 56, 57, 48, 49, 50, 100, 101, 99] (by decide +kernel) (by decide +kernel)
set_option maxRecDepth 20000 in
theorem gX5_takeBack_X4_returnBottles_n129 : GoodIn wsX5_takeBack (wsX4_returnBottles) := ggX5_takeBack_X4_returnBottles
theorem dX5_takeBack_0 : decode cX5_takeBack 0 = .ok (.aload_n 0, 1) := by decide +kernel
theorem dX5_takeBack_1 : decode cX5_takeBack 1 = .ok (.iload_n 1, 1) := by decide +kernel
theorem dX5_takeBack_2 : decode cX5_takeBack 2 = .ok (.invokevirtual 110, 3) := by decide +kernel
theorem dX5_takeBack_5 : decode cX5_takeBack 5 = .ok (.aload_n 0, 1) := by decide +kernel
theorem dX5_takeBack_6 : decode cX5_takeBack 6 = .ok (.iload_n 2, 1) := by decide +kernel
theorem dX5_takeBack_7 : decode cX5_takeBack 7 = .ok (.invokevirtual 100, 3) := by decide +kernel
theorem dX5_takeBack_10 : decode cX5_takeBack 10 = .ok (.iload_n 3, 1) := by decide +kernel
theorem dX5_takeBack_11 : decode cX5_takeBack 11 = .ok (.iconst 1, 1) := by decide +kernel
theorem dX5_takeBack_12 : decode cX5_takeBack 12 = .ok (.sipush 500, 3) := by decide +kernel
theorem dX5_takeBack_15 : decode cX5_takeBack 15 = .ok (.invokestatic 48, 3) := by decide +kernel
theorem dX5_takeBack_18 : decode cX5_takeBack 18 = .ok (.aload_n 0, 1) := by decide +kernel
theorem dX5_takeBack_19 : decode cX5_takeBack 19 = .ok (.getfield 12, 3) := by decide +kernel
theorem dX5_takeBack_22 : decode cX5_takeBack 22 = .ok (.iload_n 1, 1) := by decide +kernel
theorem dX5_takeBack_23 : decode cX5_takeBack 23 = .ok (.iload_n 2, 1) := by decide +kernel
theorem dX5_takeBack_24 : decode cX5_takeBack 24 = .ok (.iload_n 3, 1) := by decide +kernel
theorem dX5_takeBack_25 : decode cX5_takeBack 25 = .ok (.invokevirtual 126, 3) := by decide +kernel
theorem dX5_takeBack_28 : decode cX5_takeBack 28 = .ok (.ifCond .ne 7, 3) := by decide +kernel
theorem dX5_takeBack_31 : decode cX5_takeBack 31 = .ok (.iconst 1, 1) := by decide +kernel
theorem dX5_takeBack_32 : decode cX5_takeBack 32 = .ok (.goto 4, 3) := by decide +kernel
theorem dX5_takeBack_35 : decode cX5_takeBack 35 = .ok (.iconst 0, 1) := by decide +kernel
theorem dX5_takeBack_36 : decode cX5_takeBack 36 = .ok (.invokestatic 58, 3) := by decide +kernel
theorem dX5_takeBack_39 : decode cX5_takeBack 39 = .ok (.aload_n 0, 1) := by decide +kernel
theorem dX5_takeBack_40 : decode cX5_takeBack 40 = .ok (.getfield 26, 3) := by decide +kernel
theorem dX5_takeBack_43 : decode cX5_takeBack 43 = .ok (.aload_n 0, 1) := by decide +kernel
theorem dX5_takeBack_44 : decode cX5_takeBack 44 = .ok (.getfield 20, 3) := by decide +kernel
theorem dX5_takeBack_47 : decode cX5_takeBack 47 = .ok (.invokevirtual 62, 3) := by decide +kernel
theorem dX5_takeBack_50 : decode cX5_takeBack 50 = .ok (.aload_n 0, 1) := by decide +kernel
theorem dX5_takeBack_51 : decode cX5_takeBack 51 = .ok (.getfield 12, 3) := by decide +kernel
theorem dX5_takeBack_54 : decode cX5_takeBack 54 = .ok (.iload_n 1, 1) := by decide +kernel
theorem dX5_takeBack_55 : decode cX5_takeBack 55 = .ok (.iload_n 2, 1) := by decide +kernel
theorem dX5_takeBack_56 : decode cX5_takeBack 56 = .ok (.iload_n 3, 1) := by decide +kernel
theorem dX5_takeBack_57 : decode cX5_takeBack 57 = .ok (.invokevirtual 129, 3) := by decide +kernel
theorem dX5_takeBack_60 : decode cX5_takeBack 60 = .ok (.ireturn, 1) := by decide +kernel
set_option maxRecDepth 20000 in
theorem ggX5_breaks_X5_needShop : GoodIn wsX5_breaks wsX5_needShop := goodIn_ca (goodIn_r _ [8, 9, 10, 11, 12, 13, 7, 14, 3, 15, 16, 17, 18, 19, 20, 21, 22, 23, 104, 105, 106, 107, 108, 109] (by decide +kernel) (by decide +kernel)) (goodIn_sub (fun _ h => List.mem_cons_of_mem _ (List.mem_append_left _ (List.mem_append_left _ (List.mem_append_right _ h)))) (by decide +kernel))
set_option maxRecDepth 20000 in
theorem gX5_breaks_X5_needShop : GoodIn wsX5_breaks (wsV RX5 110 RX5 yX5_needShop wsX5_needShop) := goodIn_app (goodIn_of _ (by decide +kernel)) ggX5_breaks_X5_needShop
set_option maxRecDepth 20000 in
theorem ggX5_breaks_X5_needBrand : GoodIn wsX5_breaks wsX5_needBrand := goodIn_ca (goodIn_r _ [27, 9, 10, 28, 29, 30, 7, 31, 3, 15, 16, 17, 18, 19, 20, 21, 22, 23, 104, 105, 106, 107, 108, 109] (by decide +kernel) (by decide +kernel)) (goodIn_sub (fun _ h => List.mem_cons_of_mem _ (List.mem_append_left _ (List.mem_append_left _ (List.mem_append_right _ h)))) (by decide +kernel))
set_option maxRecDepth 20000 in
theorem gX5_breaks_X5_needBrand : GoodIn wsX5_breaks (wsV RX5 100 RX5 yX5_needBrand wsX5_needBrand) := goodIn_app (goodIn_of _ (by decide +kernel)) ggX5_breaks_X5_needBrand
set_option maxRecDepth 20000 in
theorem ggX5_breaks_X5_needRange : GoodIn wsX5_breaks wsX5_needRange := goodIn_ca (goodIn_r _ [34, 35, 36, 7, 37, 38, 39] (by decide +kernel) (by decide +kernel)) (goodIn_sub (fun _ h => List.mem_cons_of_mem _ (List.mem_append_left _ (List.mem_append_right _ h))) (by decide +kernel))
set_option maxRecDepth 20000 in
theorem gX5_breaks_X5_needRange : GoodIn wsX5_breaks (va_wsS RX5 48 yX5_needRange wsX5_needRange) := goodIn_app (goodIn_of _ (by decide +kernel)) ggX5_breaks_X5_needRange
set_option maxRecDepth 20000 in
theorem ggX5_breaks_X4_breakReason : GoodIn wsX5_breaks wsX4_breakReason := goodIn_r _ [43, 44, 45, 16, 46, 47, 19, 20, 21, 22, 23, 48, 49, 41, 50, 110, 111, 109] (by decide +kernel) (by decide +kernel)
set_option maxRecDepth 20000 in
theorem gX5_breaks_X4_breakReason_n132 : GoodIn wsX5_breaks (wsX4_breakReason) := ggX5_breaks_X4_breakReason
set_option maxRecDepth 20000 in
theorem ggX5_breaks_X5_needState : GoodIn wsX5_breaks wsX5_needState := goodIn_ca (goodIn_r _ [53, 54, 55] (by decide +kernel) (by decide +kernel)) (goodIn_sub (fun _ h => List.mem_cons_of_mem _ (List.mem_append_right _ h)) (by decide +kernel))
set_option maxRecDepth 20000 in
theorem gX5_breaks_X5_needState : GoodIn wsX5_breaks (va_wsS RX5 58 yX5_needState wsX5_needState) := goodIn_app (goodIn_of _ (by decide +kernel)) ggX5_breaks_X5_needState
set_option maxRecDepth 20000 in
theorem ggX5_breaks_X1_keep : GoodIn wsX5_breaks wsX1_keep := goodIn_r _ [59, 60, 61, 62, 63, 64, 57, 65, 66, 67, 16, 68, 69, 23, 70, 71, 72, 73, 112, 113, 114, 109] (by decide +kernel) (by decide +kernel)
set_option maxRecDepth 20000 in
theorem gX5_breaks_X1_keep_n62 : GoodIn wsX5_breaks (wsX1_keep) := ggX5_breaks_X1_keep
set_option maxRecDepth 20000 in
theorem ggX5_breaks_X4_breakBottles : GoodIn wsX5_breaks wsX4_breakBottles := goodIn_r _ [76, 44, 77, 78, 79, 80, 81, 82, 83, 41, 84, 85, 16, 86, 87, 19, 20, 21, 22, 23, 88, 89, 90, 15, 17, 18, 91, 92, 93, 94, 95, 96, 97, 98, 99, 100, 101, 102, 103, 110, 111, 109] (by decide +kernel) (by decide +kernel)
set_option maxRecDepth 20000 in
theorem gX5_breaks_X4_breakBottles_n135 : GoodIn wsX5_breaks (wsX4_breakBottles) := ggX5_breaks_X4_breakBottles
theorem dX5_breaks_0 : decode cX5_breaks 0 = .ok (.aload_n 0, 1) := by decide +kernel
theorem dX5_breaks_1 : decode cX5_breaks 1 = .ok (.iload_n 1, 1) := by decide +kernel
theorem dX5_breaks_2 : decode cX5_breaks 2 = .ok (.invokevirtual 110, 3) := by decide +kernel
theorem dX5_breaks_5 : decode cX5_breaks 5 = .ok (.aload_n 0, 1) := by decide +kernel
theorem dX5_breaks_6 : decode cX5_breaks 6 = .ok (.iload_n 2, 1) := by decide +kernel
theorem dX5_breaks_7 : decode cX5_breaks 7 = .ok (.invokevirtual 100, 3) := by decide +kernel
theorem dX5_breaks_10 : decode cX5_breaks 10 = .ok (.iload_n 3, 1) := by decide +kernel
theorem dX5_breaks_11 : decode cX5_breaks 11 = .ok (.iconst 1, 1) := by decide +kernel
theorem dX5_breaks_12 : decode cX5_breaks 12 = .ok (.sipush 500, 3) := by decide +kernel
theorem dX5_breaks_15 : decode cX5_breaks 15 = .ok (.invokestatic 48, 3) := by decide +kernel
theorem dX5_breaks_18 : decode cX5_breaks 18 = .ok (.aload_n 0, 1) := by decide +kernel
theorem dX5_breaks_19 : decode cX5_breaks 19 = .ok (.getfield 12, 3) := by decide +kernel
theorem dX5_breaks_22 : decode cX5_breaks 22 = .ok (.iload_n 1, 1) := by decide +kernel
theorem dX5_breaks_23 : decode cX5_breaks 23 = .ok (.iload_n 2, 1) := by decide +kernel
theorem dX5_breaks_24 : decode cX5_breaks 24 = .ok (.iload_n 3, 1) := by decide +kernel
theorem dX5_breaks_25 : decode cX5_breaks 25 = .ok (.invokevirtual 132, 3) := by decide +kernel
theorem dX5_breaks_28 : decode cX5_breaks 28 = .ok (.ifCond .ne 7, 3) := by decide +kernel
theorem dX5_breaks_31 : decode cX5_breaks 31 = .ok (.iconst 1, 1) := by decide +kernel
theorem dX5_breaks_32 : decode cX5_breaks 32 = .ok (.goto 4, 3) := by decide +kernel
theorem dX5_breaks_35 : decode cX5_breaks 35 = .ok (.iconst 0, 1) := by decide +kernel
theorem dX5_breaks_36 : decode cX5_breaks 36 = .ok (.invokestatic 58, 3) := by decide +kernel
theorem dX5_breaks_39 : decode cX5_breaks 39 = .ok (.aload_n 0, 1) := by decide +kernel
theorem dX5_breaks_40 : decode cX5_breaks 40 = .ok (.getfield 26, 3) := by decide +kernel
theorem dX5_breaks_43 : decode cX5_breaks 43 = .ok (.aload_n 0, 1) := by decide +kernel
theorem dX5_breaks_44 : decode cX5_breaks 44 = .ok (.getfield 20, 3) := by decide +kernel
theorem dX5_breaks_47 : decode cX5_breaks 47 = .ok (.invokevirtual 62, 3) := by decide +kernel
theorem dX5_breaks_50 : decode cX5_breaks 50 = .ok (.aload_n 0, 1) := by decide +kernel
theorem dX5_breaks_51 : decode cX5_breaks 51 = .ok (.getfield 12, 3) := by decide +kernel
theorem dX5_breaks_54 : decode cX5_breaks 54 = .ok (.iload_n 1, 1) := by decide +kernel
theorem dX5_breaks_55 : decode cX5_breaks 55 = .ok (.iload_n 2, 1) := by decide +kernel
theorem dX5_breaks_56 : decode cX5_breaks 56 = .ok (.iload_n 3, 1) := by decide +kernel
theorem dX5_breaks_57 : decode cX5_breaks 57 = .ok (.invokevirtual 135, 3) := by decide +kernel
theorem dX5_breaks_60 : decode cX5_breaks 60 = .ok (.ireturn, 1) := by decide +kernel
set_option maxRecDepth 20000 in
theorem ggX5_lose_X5_needBrand : GoodIn wsX5_lose wsX5_needBrand := goodIn_ca (goodIn_r _ [8, 9, 10, 11, 12, 13, 7, 14, 1, 15, 16, 17, 18, 19, 20, 21, 22, 23, 80, 81, 82, 83, 84, 85] (by decide +kernel) (by decide +kernel)) (goodIn_sub (fun _ h => List.mem_cons_of_mem _ (List.mem_append_left _ (List.mem_append_left _ (List.mem_append_right _ h)))) (by decide +kernel))
set_option maxRecDepth 20000 in
theorem gX5_lose_X5_needBrand : GoodIn wsX5_lose (wsV RX5 100 RX5 yX5_needBrand wsX5_needBrand) := goodIn_app (goodIn_of _ (by decide +kernel)) ggX5_lose_X5_needBrand
set_option maxRecDepth 20000 in
theorem ggX5_lose_X5_needRange : GoodIn wsX5_lose wsX5_needRange := goodIn_ca (goodIn_r _ [26, 27, 28, 7, 29, 30, 31] (by decide +kernel) (by decide +kernel)) (goodIn_sub (fun _ h => List.mem_cons_of_mem _ (List.mem_append_left _ (List.mem_append_right _ h))) (by decide +kernel))
set_option maxRecDepth 20000 in
theorem gX5_lose_X5_needRange : GoodIn wsX5_lose (va_wsS RX5 48 yX5_needRange wsX5_needRange) := goodIn_app (goodIn_of _ (by decide +kernel)) ggX5_lose_X5_needRange
set_option maxRecDepth 20000 in
theorem ggX5_lose_X2_ofBrand : GoodIn wsX5_lose wsX2_ofBrand := goodIn_r _ [34, 19, 20, 21, 16, 22, 23, 85] (by decide +kernel) (by decide +kernel)
set_option maxRecDepth 20000 in
theorem gX5_lose_X2_ofBrand_n103 : GoodIn wsX5_lose (wsX2_ofBrand) := ggX5_lose_X2_ofBrand
set_option maxRecDepth 20000 in
theorem ggX5_lose_X5_needState : GoodIn wsX5_lose wsX5_needState := goodIn_ca (goodIn_r _ [37, 38, 39] (by decide +kernel) (by decide +kernel)) (goodIn_sub (fun _ h => List.mem_cons_of_mem _ (List.mem_append_right _ h)) (by decide +kernel))
set_option maxRecDepth 20000 in
theorem gX5_lose_X5_needState : GoodIn wsX5_lose (va_wsS RX5 58 yX5_needState wsX5_needState) := goodIn_app (goodIn_of _ (by decide +kernel)) ggX5_lose_X5_needState
set_option maxRecDepth 20000 in
theorem ggX5_lose_X1_keep : GoodIn wsX5_lose wsX1_keep := goodIn_r _ [43, 44, 45, 46, 47, 48, 41, 49, 50, 51, 16, 52, 53, 23, 54, 55, 56, 57, 86, 87, 88, 85] (by decide +kernel) (by decide +kernel)
set_option maxRecDepth 20000 in
theorem gX5_lose_X1_keep_n62 : GoodIn wsX5_lose (wsX1_keep) := ggX5_lose_X1_keep
set_option maxRecDepth 20000 in
theorem ggX5_lose_X4_loseBottles : GoodIn wsX5_lose wsX4_loseBottles := goodIn_r _ [61, 62, 63, 16, 64, 65, 19, 20, 21, 22, 23, 66, 67, 68, 69, 70, 71, 72, 59, 73, 32, 33, 34, 74, 75, 76, 77, 78, 79, 89, 90, 85] (by decide +kernel) (by decide +kernel)
set_option maxRecDepth 20000 in
theorem gX5_lose_X4_loseBottles_n138 : GoodIn wsX5_lose (wsX4_loseBottles) := ggX5_lose_X4_loseBottles
theorem dX5_lose_0 : decode cX5_lose 0 = .ok (.aload_n 0, 1) := by decide +kernel
theorem dX5_lose_1 : decode cX5_lose 1 = .ok (.iload_n 1, 1) := by decide +kernel
theorem dX5_lose_2 : decode cX5_lose 2 = .ok (.invokevirtual 100, 3) := by decide +kernel
theorem dX5_lose_5 : decode cX5_lose 5 = .ok (.iload_n 2, 1) := by decide +kernel
theorem dX5_lose_6 : decode cX5_lose 6 = .ok (.iconst 1, 1) := by decide +kernel
theorem dX5_lose_7 : decode cX5_lose 7 = .ok (.sipush 5000, 3) := by decide +kernel
theorem dX5_lose_10 : decode cX5_lose 10 = .ok (.invokestatic 48, 3) := by decide +kernel
theorem dX5_lose_13 : decode cX5_lose 13 = .ok (.aload_n 0, 1) := by decide +kernel
theorem dX5_lose_14 : decode cX5_lose 14 = .ok (.getfield 20, 3) := by decide +kernel
theorem dX5_lose_17 : decode cX5_lose 17 = .ok (.iload_n 1, 1) := by decide +kernel
theorem dX5_lose_18 : decode cX5_lose 18 = .ok (.iconst 5, 1) := by decide +kernel
theorem dX5_lose_19 : decode cX5_lose 19 = .ok (.invokevirtual 103, 3) := by decide +kernel
theorem dX5_lose_22 : decode cX5_lose 22 = .ok (.iload_n 2, 1) := by decide +kernel
theorem dX5_lose_23 : decode cX5_lose 23 = .ok (.if_icmp .lt 7, 3) := by decide +kernel
theorem dX5_lose_26 : decode cX5_lose 26 = .ok (.iconst 1, 1) := by decide +kernel
theorem dX5_lose_27 : decode cX5_lose 27 = .ok (.goto 4, 3) := by decide +kernel
theorem dX5_lose_30 : decode cX5_lose 30 = .ok (.iconst 0, 1) := by decide +kernel
theorem dX5_lose_31 : decode cX5_lose 31 = .ok (.invokestatic 58, 3) := by decide +kernel
theorem dX5_lose_34 : decode cX5_lose 34 = .ok (.aload_n 0, 1) := by decide +kernel
theorem dX5_lose_35 : decode cX5_lose 35 = .ok (.getfield 26, 3) := by decide +kernel
theorem dX5_lose_38 : decode cX5_lose 38 = .ok (.aload_n 0, 1) := by decide +kernel
theorem dX5_lose_39 : decode cX5_lose 39 = .ok (.getfield 20, 3) := by decide +kernel
theorem dX5_lose_42 : decode cX5_lose 42 = .ok (.invokevirtual 62, 3) := by decide +kernel
theorem dX5_lose_45 : decode cX5_lose 45 = .ok (.aload_n 0, 1) := by decide +kernel
theorem dX5_lose_46 : decode cX5_lose 46 = .ok (.getfield 12, 3) := by decide +kernel
theorem dX5_lose_49 : decode cX5_lose 49 = .ok (.iload_n 1, 1) := by decide +kernel
theorem dX5_lose_50 : decode cX5_lose 50 = .ok (.iload_n 2, 1) := by decide +kernel
theorem dX5_lose_51 : decode cX5_lose 51 = .ok (.invokevirtual 138, 3) := by decide +kernel
theorem dX5_lose_54 : decode cX5_lose 54 = .ok (.ireturn, 1) := by decide +kernel
set_option maxRecDepth 20000 in
theorem ggX5_collect_X5_needShop : GoodIn wsX5_collect wsX5_needShop := goodIn_ca (goodIn_r _ [8, 9, 10, 11, 12, 13, 7, 14, 3, 15, 16, 17, 18, 19, 20, 21, 22, 23, 111, 112, 113, 114, 115, 116] (by decide +kernel) (by decide +kernel)) (goodIn_sub (fun _ h => List.mem_cons_of_mem _ (List.mem_append_left _ (List.mem_append_left _ (List.mem_append_right _ h)))) (by decide +kernel))
set_option maxRecDepth 20000 in
theorem gX5_collect_X5_needShop : GoodIn wsX5_collect (wsV RX5 110 RX5 yX5_needShop wsX5_needShop) := goodIn_app (goodIn_of _ (by decide +kernel)) ggX5_collect_X5_needShop
set_option maxRecDepth 20000 in
theorem ggX5_collect_X5_needKind : GoodIn wsX5_collect wsX5_needKind := goodIn_ca (goodIn_r _ [26, 27, 28, 7, 29, 30, 31, 32, 33, 34] (by decide +kernel) (by decide +kernel)) (goodIn_sub (fun _ h => List.mem_cons_of_mem _ (List.mem_append_left _ (List.mem_append_right _ h))) (by decide +kernel))
set_option maxRecDepth 20000 in
theorem gX5_collect_X5_needKind : GoodIn wsX5_collect (va_wsS RX5 44 yX5_needKind wsX5_needKind) := goodIn_app (goodIn_of _ (by decide +kernel)) ggX5_collect_X5_needKind
set_option maxRecDepth 20000 in
theorem ggX5_collect_X5_needRange : GoodIn wsX5_collect wsX5_needRange := goodIn_ca (goodIn_r _ [29, 30, 31, 7, 32, 33, 34] (by decide +kernel) (by decide +kernel)) (goodIn_sub (fun _ h => List.mem_cons_of_mem _ (List.mem_append_left _ (List.mem_append_right _ h))) (by decide +kernel))
set_option maxRecDepth 20000 in
theorem gX5_collect_X5_needRange : GoodIn wsX5_collect (va_wsS RX5 48 yX5_needRange wsX5_needRange) := goodIn_app (goodIn_of _ (by decide +kernel)) ggX5_collect_X5_needRange
set_option maxRecDepth 20000 in
theorem ggX5_collect_X4_collectReason : GoodIn wsX5_collect wsX4_collectReason := goodIn_r _ [38, 39, 40, 41, 42, 36, 43, 44, 16, 45, 46, 19, 20, 21, 22, 23, 47, 48, 49, 117, 118, 116] (by decide +kernel) (by decide +kernel)
set_option maxRecDepth 20000 in
theorem gX5_collect_X4_collectReason_n141 : GoodIn wsX5_collect (wsX4_collectReason) := ggX5_collect_X4_collectReason
set_option maxRecDepth 20000 in
theorem ggX5_collect_X5_needState : GoodIn wsX5_collect wsX5_needState := goodIn_ca (goodIn_r _ [52, 53, 54] (by decide +kernel) (by decide +kernel)) (goodIn_sub (fun _ h => List.mem_cons_of_mem _ (List.mem_append_right _ h)) (by decide +kernel))
set_option maxRecDepth 20000 in
theorem gX5_collect_X5_needState : GoodIn wsX5_collect (va_wsS RX5 58 yX5_needState wsX5_needState) := goodIn_app (goodIn_of _ (by decide +kernel)) ggX5_collect_X5_needState
set_option maxRecDepth 20000 in
theorem ggX5_collect_X1_keep : GoodIn wsX5_collect wsX1_keep := goodIn_r _ [58, 59, 60, 61, 62, 63, 56, 64, 65, 66, 16, 67, 68, 23, 69, 70, 71, 72, 119, 120, 121, 116] (by decide +kernel) (by decide +kernel)
set_option maxRecDepth 20000 in
theorem gX5_collect_X1_keep_n62 : GoodIn wsX5_collect (wsX1_keep) := ggX5_collect_X1_keep
set_option maxRecDepth 20000 in
theorem ggX5_collect_X4_collectCrates : GoodIn wsX5_collect wsX4_collectCrates := goodIn_r _ [75, 39, 76, 77, 78, 36, 79, 80, 16, 81, 82, 19, 20, 21, 22, 23, 83, 84, 85, 86, 87, 44, 45, 46, 47, 48, 49, 88, 89, 90, 91, 92, 93, 94, 95, 96, 7, 97, 98, 99, 100, 101, 102, 103, 104, 105, 106, 107, 108, 109, 110, 117, 118, 116] (by decide +kernel) (by decide +kernel)
set_option maxRecDepth 20000 in
theorem gX5_collect_X4_collectCrates_n144 : GoodIn wsX5_collect (wsX4_collectCrates) := ggX5_collect_X4_collectCrates
theorem dX5_collect_0 : decode cX5_collect 0 = .ok (.aload_n 0, 1) := by decide +kernel
theorem dX5_collect_1 : decode cX5_collect 1 = .ok (.iload_n 1, 1) := by decide +kernel
theorem dX5_collect_2 : decode cX5_collect 2 = .ok (.invokevirtual 110, 3) := by decide +kernel
theorem dX5_collect_5 : decode cX5_collect 5 = .ok (.iload_n 2, 1) := by decide +kernel
theorem dX5_collect_6 : decode cX5_collect 6 = .ok (.invokestatic 44, 3) := by decide +kernel
theorem dX5_collect_9 : decode cX5_collect 9 = .ok (.iload_n 3, 1) := by decide +kernel
theorem dX5_collect_10 : decode cX5_collect 10 = .ok (.iconst 1, 1) := by decide +kernel
theorem dX5_collect_11 : decode cX5_collect 11 = .ok (.bipush 50, 2) := by decide +kernel
theorem dX5_collect_13 : decode cX5_collect 13 = .ok (.invokestatic 48, 3) := by decide +kernel
theorem dX5_collect_16 : decode cX5_collect 16 = .ok (.aload_n 0, 1) := by decide +kernel
theorem dX5_collect_17 : decode cX5_collect 17 = .ok (.getfield 12, 3) := by decide +kernel
theorem dX5_collect_20 : decode cX5_collect 20 = .ok (.iload_n 1, 1) := by decide +kernel
theorem dX5_collect_21 : decode cX5_collect 21 = .ok (.iload_n 2, 1) := by decide +kernel
theorem dX5_collect_22 : decode cX5_collect 22 = .ok (.iload_n 3, 1) := by decide +kernel
theorem dX5_collect_23 : decode cX5_collect 23 = .ok (.invokevirtual 141, 3) := by decide +kernel
theorem dX5_collect_26 : decode cX5_collect 26 = .ok (.ifCond .ne 7, 3) := by decide +kernel
theorem dX5_collect_29 : decode cX5_collect 29 = .ok (.iconst 1, 1) := by decide +kernel
theorem dX5_collect_30 : decode cX5_collect 30 = .ok (.goto 4, 3) := by decide +kernel
theorem dX5_collect_33 : decode cX5_collect 33 = .ok (.iconst 0, 1) := by decide +kernel
theorem dX5_collect_34 : decode cX5_collect 34 = .ok (.invokestatic 58, 3) := by decide +kernel
theorem dX5_collect_37 : decode cX5_collect 37 = .ok (.aload_n 0, 1) := by decide +kernel
theorem dX5_collect_38 : decode cX5_collect 38 = .ok (.getfield 26, 3) := by decide +kernel
theorem dX5_collect_41 : decode cX5_collect 41 = .ok (.aload_n 0, 1) := by decide +kernel
theorem dX5_collect_42 : decode cX5_collect 42 = .ok (.getfield 20, 3) := by decide +kernel
theorem dX5_collect_45 : decode cX5_collect 45 = .ok (.invokevirtual 62, 3) := by decide +kernel
theorem dX5_collect_48 : decode cX5_collect 48 = .ok (.aload_n 0, 1) := by decide +kernel
theorem dX5_collect_49 : decode cX5_collect 49 = .ok (.getfield 12, 3) := by decide +kernel
theorem dX5_collect_52 : decode cX5_collect 52 = .ok (.iload_n 1, 1) := by decide +kernel
theorem dX5_collect_53 : decode cX5_collect 53 = .ok (.iload_n 2, 1) := by decide +kernel
theorem dX5_collect_54 : decode cX5_collect 54 = .ok (.iload_n 3, 1) := by decide +kernel
theorem dX5_collect_55 : decode cX5_collect 55 = .ok (.invokevirtual 144, 3) := by decide +kernel
theorem dX5_collect_58 : decode cX5_collect 58 = .ok (.ireturn, 1) := by decide +kernel
set_option maxRecDepth 20000 in
theorem ggX5_sort_X5_needKind : GoodIn wsX5_sort wsX5_needKind := goodIn_ca (goodIn_r _ [7, 8, 9, 6, 10, 11, 12, 13, 14, 15] (by decide +kernel) (by decide +kernel)) (goodIn_sub (fun _ h => List.mem_cons_of_mem _ (List.mem_append_left _ (List.mem_append_right _ h))) (by decide +kernel))
set_option maxRecDepth 20000 in
theorem gX5_sort_X5_needKind : GoodIn wsX5_sort (va_wsS RX5 44 yX5_needKind wsX5_needKind) := goodIn_app (goodIn_of _ (by decide +kernel)) ggX5_sort_X5_needKind
set_option maxRecDepth 20000 in
theorem ggX5_sort_X5_needRange : GoodIn wsX5_sort wsX5_needRange := goodIn_ca (goodIn_r _ [10, 11, 12, 6, 13, 14, 15] (by decide +kernel) (by decide +kernel)) (goodIn_sub (fun _ h => List.mem_cons_of_mem _ (List.mem_append_left _ (List.mem_append_right _ h))) (by decide +kernel))
set_option maxRecDepth 20000 in
theorem gX5_sort_X5_needRange : GoodIn wsX5_sort (va_wsS RX5 48 yX5_needRange wsX5_needRange) := goodIn_app (goodIn_of _ (by decide +kernel)) ggX5_sort_X5_needRange
set_option maxRecDepth 20000 in
theorem ggX5_sort_X4_yardOf : GoodIn wsX5_sort wsX4_yardOf := goodIn_r _ [19, 20, 21, 22, 23, 24, 25, 26, 27, 28, 29, 73, 74, 75] (by decide +kernel) (by decide +kernel)
set_option maxRecDepth 20000 in
theorem gX5_sort_X4_yardOf_n147 : GoodIn wsX5_sort (wsX4_yardOf) := ggX5_sort_X4_yardOf
set_option maxRecDepth 20000 in
theorem ggX5_sort_X5_needState : GoodIn wsX5_sort wsX5_needState := goodIn_ca (goodIn_r _ [32, 33, 34] (by decide +kernel) (by decide +kernel)) (goodIn_sub (fun _ h => List.mem_cons_of_mem _ (List.mem_append_right _ h)) (by decide +kernel))
set_option maxRecDepth 20000 in
theorem gX5_sort_X5_needState : GoodIn wsX5_sort (va_wsS RX5 58 yX5_needState wsX5_needState) := goodIn_app (goodIn_of _ (by decide +kernel)) ggX5_sort_X5_needState
set_option maxRecDepth 20000 in
theorem ggX5_sort_X1_keep : GoodIn wsX5_sort wsX1_keep := goodIn_r _ [38, 39, 40, 41, 42, 43, 36, 44, 45, 46, 22, 47, 48, 29, 49, 50, 51, 52, 76, 77, 78, 75] (by decide +kernel) (by decide +kernel)
set_option maxRecDepth 20000 in
theorem gX5_sort_X1_keep_n62 : GoodIn wsX5_sort (wsX1_keep) := ggX5_sort_X1_keep
set_option maxRecDepth 20000 in
theorem ggX5_sort_X4_sortBottles : GoodIn wsX5_sort wsX4_sortBottles := goodIn_r _ [55, 20, 56, 57, 58, 59, 21, 22, 23, 24, 25, 26, 27, 28, 29, 60, 61, 62, 63, 64, 65, 66, 67, 16, 18, 17, 19, 73, 74, 75] (by decide +kernel) (by decide +kernel)
set_option maxRecDepth 20000 in
theorem gX5_sort_X4_sortBottles_n150 : GoodIn wsX5_sort (wsX4_sortBottles) := ggX5_sort_X4_sortBottles
theorem dX5_sort_0 : decode cX5_sort 0 = .ok (.iload_n 1, 1) := by decide +kernel
theorem dX5_sort_1 : decode cX5_sort 1 = .ok (.invokestatic 44, 3) := by decide +kernel
theorem dX5_sort_4 : decode cX5_sort 4 = .ok (.iload_n 2, 1) := by decide +kernel
theorem dX5_sort_5 : decode cX5_sort 5 = .ok (.iconst 1, 1) := by decide +kernel
theorem dX5_sort_6 : decode cX5_sort 6 = .ok (.sipush 5000, 3) := by decide +kernel
theorem dX5_sort_9 : decode cX5_sort 9 = .ok (.invokestatic 48, 3) := by decide +kernel
theorem dX5_sort_12 : decode cX5_sort 12 = .ok (.aload_n 0, 1) := by decide +kernel
theorem dX5_sort_13 : decode cX5_sort 13 = .ok (.getfield 12, 3) := by decide +kernel
theorem dX5_sort_16 : decode cX5_sort 16 = .ok (.iload_n 1, 1) := by decide +kernel
theorem dX5_sort_17 : decode cX5_sort 17 = .ok (.invokevirtual 147, 3) := by decide +kernel
theorem dX5_sort_20 : decode cX5_sort 20 = .ok (.iload_n 2, 1) := by decide +kernel
theorem dX5_sort_21 : decode cX5_sort 21 = .ok (.if_icmp .lt 7, 3) := by decide +kernel
theorem dX5_sort_24 : decode cX5_sort 24 = .ok (.iconst 1, 1) := by decide +kernel
theorem dX5_sort_25 : decode cX5_sort 25 = .ok (.goto 4, 3) := by decide +kernel
theorem dX5_sort_28 : decode cX5_sort 28 = .ok (.iconst 0, 1) := by decide +kernel
theorem dX5_sort_29 : decode cX5_sort 29 = .ok (.invokestatic 58, 3) := by decide +kernel
theorem dX5_sort_32 : decode cX5_sort 32 = .ok (.aload_n 0, 1) := by decide +kernel
theorem dX5_sort_33 : decode cX5_sort 33 = .ok (.getfield 26, 3) := by decide +kernel
theorem dX5_sort_36 : decode cX5_sort 36 = .ok (.aload_n 0, 1) := by decide +kernel
theorem dX5_sort_37 : decode cX5_sort 37 = .ok (.getfield 20, 3) := by decide +kernel
theorem dX5_sort_40 : decode cX5_sort 40 = .ok (.invokevirtual 62, 3) := by decide +kernel
theorem dX5_sort_43 : decode cX5_sort 43 = .ok (.aload_n 0, 1) := by decide +kernel
theorem dX5_sort_44 : decode cX5_sort 44 = .ok (.getfield 12, 3) := by decide +kernel
theorem dX5_sort_47 : decode cX5_sort 47 = .ok (.iload_n 1, 1) := by decide +kernel
theorem dX5_sort_48 : decode cX5_sort 48 = .ok (.iload_n 2, 1) := by decide +kernel
theorem dX5_sort_49 : decode cX5_sort 49 = .ok (.invokevirtual 150, 3) := by decide +kernel
theorem dX5_sort_52 : decode cX5_sort 52 = .ok (.ireturn, 1) := by decide +kernel
set_option maxRecDepth 20000 in
theorem ggX5_swap_X5_needBrand : GoodIn wsX5_swap wsX5_needBrand := goodIn_ca (goodIn_r _ [8, 9, 10, 11, 12, 13, 7, 14, 1, 15, 16, 17, 18, 19, 20, 21, 22, 23, 76, 77, 78, 79, 80, 81] (by decide +kernel) (by decide +kernel)) (goodIn_sub (fun _ h => List.mem_cons_of_mem _ (List.mem_append_left _ (List.mem_append_left _ (List.mem_append_right _ h)))) (by decide +kernel))
set_option maxRecDepth 20000 in
theorem gX5_swap_X5_needBrand : GoodIn wsX5_swap (wsV RX5 100 RX5 yX5_needBrand wsX5_needBrand) := goodIn_app (goodIn_of _ (by decide +kernel)) ggX5_swap_X5_needBrand
set_option maxRecDepth 20000 in
theorem ggX5_swap_X2_ofBrand : GoodIn wsX5_swap wsX2_ofBrand := goodIn_r _ [26, 19, 20, 21, 16, 22, 23, 81] (by decide +kernel) (by decide +kernel)
set_option maxRecDepth 20000 in
theorem gX5_swap_X2_ofBrand_n103 : GoodIn wsX5_swap (wsX2_ofBrand) := ggX5_swap_X2_ofBrand
set_option maxRecDepth 20000 in
theorem ggX5_swap_X5_needArgument : GoodIn wsX5_swap wsX5_needArgument := goodIn_ca (goodIn_r _ [29, 30, 31] (by decide +kernel) (by decide +kernel)) (goodIn_sub (fun _ h => List.mem_cons_of_mem _ (List.mem_append_left _ (List.mem_append_right _ h))) (by decide +kernel))
set_option maxRecDepth 20000 in
theorem gX5_swap_X5_needArgument : GoodIn wsX5_swap (va_wsS RX5 153 yX5_needArgument wsX5_needArgument) := goodIn_app (goodIn_of _ (by decide +kernel)) ggX5_swap_X5_needArgument
set_option maxRecDepth 20000 in
theorem ggX5_swap_X5_needRange : GoodIn wsX5_swap wsX5_needRange := goodIn_ca (goodIn_r _ [34, 27, 28, 7, 29, 30, 31] (by decide +kernel) (by decide +kernel)) (goodIn_sub (fun _ h => List.mem_cons_of_mem _ (List.mem_append_left _ (List.mem_append_right _ h))) (by decide +kernel))
set_option maxRecDepth 20000 in
theorem gX5_swap_X5_needRange : GoodIn wsX5_swap (va_wsS RX5 48 yX5_needRange wsX5_needRange) := goodIn_app (goodIn_of _ (by decide +kernel)) ggX5_swap_X5_needRange
set_option maxRecDepth 20000 in
theorem ggX5_swap_X5_needState : GoodIn wsX5_swap wsX5_needState := goodIn_ca (goodIn_r _ [37, 38, 39] (by decide +kernel) (by decide +kernel)) (goodIn_sub (fun _ h => List.mem_cons_of_mem _ (List.mem_append_right _ h)) (by decide +kernel))
set_option maxRecDepth 20000 in
theorem gX5_swap_X5_needState : GoodIn wsX5_swap (va_wsS RX5 58 yX5_needState wsX5_needState) := goodIn_app (goodIn_of _ (by decide +kernel)) ggX5_swap_X5_needState
set_option maxRecDepth 20000 in
theorem ggX5_swap_X1_keep : GoodIn wsX5_swap wsX1_keep := goodIn_r _ [43, 44, 45, 46, 47, 48, 41, 49, 50, 51, 16, 52, 53, 23, 54, 55, 56, 57, 82, 83, 84, 81] (by decide +kernel) (by decide +kernel)
set_option maxRecDepth 20000 in
theorem gX5_swap_X1_keep_n62 : GoodIn wsX5_swap (wsX1_keep) := ggX5_swap_X1_keep
set_option maxRecDepth 20000 in
theorem ggX5_swap_X4_swapBottles : GoodIn wsX5_swap wsX4_swapBottles := goodIn_r _ [61, 62, 63, 16, 64, 65, 19, 20, 21, 22, 23, 66, 67, 68, 69, 70, 71, 72, 73, 74, 75, 85, 86, 81] (by decide +kernel) (by decide +kernel)
set_option maxRecDepth 20000 in
theorem gX5_swap_X4_swapBottles_n156 : GoodIn wsX5_swap (wsX4_swapBottles) := ggX5_swap_X4_swapBottles
theorem dX5_swap_0 : decode cX5_swap 0 = .ok (.aload_n 0, 1) := by decide +kernel
theorem dX5_swap_1 : decode cX5_swap 1 = .ok (.iload_n 1, 1) := by decide +kernel
theorem dX5_swap_2 : decode cX5_swap 2 = .ok (.invokevirtual 100, 3) := by decide +kernel
theorem dX5_swap_5 : decode cX5_swap 5 = .ok (.aload_n 0, 1) := by decide +kernel
theorem dX5_swap_6 : decode cX5_swap 6 = .ok (.iload_n 2, 1) := by decide +kernel
theorem dX5_swap_7 : decode cX5_swap 7 = .ok (.invokevirtual 100, 3) := by decide +kernel
theorem dX5_swap_10 : decode cX5_swap 10 = .ok (.iload_n 1, 1) := by decide +kernel
theorem dX5_swap_11 : decode cX5_swap 11 = .ok (.iload_n 2, 1) := by decide +kernel
theorem dX5_swap_12 : decode cX5_swap 12 = .ok (.if_icmp .eq 28, 3) := by decide +kernel
theorem dX5_swap_15 : decode cX5_swap 15 = .ok (.aload_n 0, 1) := by decide +kernel
theorem dX5_swap_16 : decode cX5_swap 16 = .ok (.getfield 20, 3) := by decide +kernel
theorem dX5_swap_19 : decode cX5_swap 19 = .ok (.iload_n 1, 1) := by decide +kernel
theorem dX5_swap_20 : decode cX5_swap 20 = .ok (.iconst 0, 1) := by decide +kernel
theorem dX5_swap_21 : decode cX5_swap 21 = .ok (.invokevirtual 103, 3) := by decide +kernel
theorem dX5_swap_24 : decode cX5_swap 24 = .ok (.aload_n 0, 1) := by decide +kernel
theorem dX5_swap_25 : decode cX5_swap 25 = .ok (.getfield 20, 3) := by decide +kernel
theorem dX5_swap_28 : decode cX5_swap 28 = .ok (.iload_n 2, 1) := by decide +kernel
theorem dX5_swap_29 : decode cX5_swap 29 = .ok (.iconst 0, 1) := by decide +kernel
theorem dX5_swap_30 : decode cX5_swap 30 = .ok (.invokevirtual 103, 3) := by decide +kernel
theorem dX5_swap_33 : decode cX5_swap 33 = .ok (.if_icmp .ne 7, 3) := by decide +kernel
theorem dX5_swap_36 : decode cX5_swap 36 = .ok (.iconst 1, 1) := by decide +kernel
theorem dX5_swap_37 : decode cX5_swap 37 = .ok (.goto 4, 3) := by decide +kernel
theorem dX5_swap_40 : decode cX5_swap 40 = .ok (.iconst 0, 1) := by decide +kernel
theorem dX5_swap_41 : decode cX5_swap 41 = .ok (.invokestatic 153, 3) := by decide +kernel
theorem dX5_swap_44 : decode cX5_swap 44 = .ok (.iload_n 3, 1) := by decide +kernel
theorem dX5_swap_45 : decode cX5_swap 45 = .ok (.iconst 1, 1) := by decide +kernel
theorem dX5_swap_46 : decode cX5_swap 46 = .ok (.sipush 5000, 3) := by decide +kernel
theorem dX5_swap_49 : decode cX5_swap 49 = .ok (.invokestatic 48, 3) := by decide +kernel
theorem dX5_swap_52 : decode cX5_swap 52 = .ok (.aload_n 0, 1) := by decide +kernel
theorem dX5_swap_53 : decode cX5_swap 53 = .ok (.getfield 20, 3) := by decide +kernel
theorem dX5_swap_56 : decode cX5_swap 56 = .ok (.iload_n 1, 1) := by decide +kernel
theorem dX5_swap_57 : decode cX5_swap 57 = .ok (.iconst 1, 1) := by decide +kernel
theorem dX5_swap_58 : decode cX5_swap 58 = .ok (.invokevirtual 103, 3) := by decide +kernel
theorem dX5_swap_61 : decode cX5_swap 61 = .ok (.iload_n 3, 1) := by decide +kernel
theorem dX5_swap_62 : decode cX5_swap 62 = .ok (.if_icmp .lt 7, 3) := by decide +kernel
theorem dX5_swap_65 : decode cX5_swap 65 = .ok (.iconst 1, 1) := by decide +kernel
theorem dX5_swap_66 : decode cX5_swap 66 = .ok (.goto 4, 3) := by decide +kernel
theorem dX5_swap_69 : decode cX5_swap 69 = .ok (.iconst 0, 1) := by decide +kernel
theorem dX5_swap_70 : decode cX5_swap 70 = .ok (.invokestatic 58, 3) := by decide +kernel
theorem dX5_swap_73 : decode cX5_swap 73 = .ok (.aload_n 0, 1) := by decide +kernel
theorem dX5_swap_74 : decode cX5_swap 74 = .ok (.getfield 26, 3) := by decide +kernel
theorem dX5_swap_77 : decode cX5_swap 77 = .ok (.aload_n 0, 1) := by decide +kernel
theorem dX5_swap_78 : decode cX5_swap 78 = .ok (.getfield 20, 3) := by decide +kernel
theorem dX5_swap_81 : decode cX5_swap 81 = .ok (.invokevirtual 62, 3) := by decide +kernel
theorem dX5_swap_84 : decode cX5_swap 84 = .ok (.aload_n 0, 1) := by decide +kernel
theorem dX5_swap_85 : decode cX5_swap 85 = .ok (.getfield 12, 3) := by decide +kernel
theorem dX5_swap_88 : decode cX5_swap 88 = .ok (.iload_n 1, 1) := by decide +kernel
theorem dX5_swap_89 : decode cX5_swap 89 = .ok (.iload_n 2, 1) := by decide +kernel
theorem dX5_swap_90 : decode cX5_swap 90 = .ok (.iload_n 3, 1) := by decide +kernel
theorem dX5_swap_91 : decode cX5_swap 91 = .ok (.invokevirtual 156, 3) := by decide +kernel
theorem dX5_swap_94 : decode cX5_swap 94 = .ok (.ireturn, 1) := by decide +kernel
set_option maxRecDepth 20000 in
theorem ggX5_undo_X1_kept : GoodIn wsX5_undo wsX1_kept := goodIn_r _ [6, 7, 37, 38, 39] (by decide +kernel) (by decide +kernel)
set_option maxRecDepth 20000 in
theorem gX5_undo_X1_kept_n179 : GoodIn wsX5_undo (wsX1_kept) := ggX5_undo_X1_kept
set_option maxRecDepth 20000 in
theorem ggX5_undo_X5_needState : GoodIn wsX5_undo wsX5_needState := goodIn_ca (goodIn_r _ [11, 12, 13] (by decide +kernel) (by decide +kernel)) (goodIn_sub (fun _ h => List.mem_cons_of_mem _ (List.mem_append_right _ h)) (by decide +kernel))
set_option maxRecDepth 20000 in
theorem gX5_undo_X5_needState : GoodIn wsX5_undo (va_wsS RX5 58 yX5_needState wsX5_needState) := goodIn_app (goodIn_of _ (by decide +kernel)) ggX5_undo_X5_needState
set_option maxRecDepth 20000 in
theorem ggX5_undo_X1_giveBack : GoodIn wsX5_undo wsX1_giveBack := goodIn_r _ [16, 7, 17, 18, 19, 20, 4, 21, 22, 23, 24, 25, 26, 27, 28, 29, 30, 31, 37, 38, 39, 40] (by decide +kernel) (by decide +kernel)
set_option maxRecDepth 20000 in
theorem gX5_undo_X1_giveBack_n182 : GoodIn wsX5_undo (wsX1_giveBack) := ggX5_undo_X1_giveBack
theorem dX5_undo_0 : decode cX5_undo 0 = .ok (.aload_n 0, 1) := by decide +kernel
theorem dX5_undo_1 : decode cX5_undo 1 = .ok (.getfield 26, 3) := by decide +kernel
theorem dX5_undo_4 : decode cX5_undo 4 = .ok (.invokevirtual 179, 3) := by decide +kernel
theorem dX5_undo_7 : decode cX5_undo 7 = .ok (.ifCond .le 7, 3) := by decide +kernel
theorem dX5_undo_10 : decode cX5_undo 10 = .ok (.iconst 1, 1) := by decide +kernel
theorem dX5_undo_11 : decode cX5_undo 11 = .ok (.goto 4, 3) := by decide +kernel
theorem dX5_undo_14 : decode cX5_undo 14 = .ok (.iconst 0, 1) := by decide +kernel
theorem dX5_undo_15 : decode cX5_undo 15 = .ok (.invokestatic 58, 3) := by decide +kernel
theorem dX5_undo_18 : decode cX5_undo 18 = .ok (.aload_n 0, 1) := by decide +kernel
theorem dX5_undo_19 : decode cX5_undo 19 = .ok (.getfield 26, 3) := by decide +kernel
theorem dX5_undo_22 : decode cX5_undo 22 = .ok (.aload_n 0, 1) := by decide +kernel
theorem dX5_undo_23 : decode cX5_undo 23 = .ok (.getfield 20, 3) := by decide +kernel
theorem dX5_undo_26 : decode cX5_undo 26 = .ok (.invokevirtual 182, 3) := by decide +kernel
theorem dX5_undo_29 : decode cX5_undo 29 = .ok (.aload_n 0, 1) := by decide +kernel
theorem dX5_undo_30 : decode cX5_undo 30 = .ok (.getfield 26, 3) := by decide +kernel
theorem dX5_undo_33 : decode cX5_undo 33 = .ok (.invokevirtual 179, 3) := by decide +kernel
theorem dX5_undo_36 : decode cX5_undo 36 = .ok (.ireturn, 1) := by decide +kernel
set_option maxRecDepth 20000 in
theorem ggX5_brand_X5_needBrand : GoodIn wsX5_brand wsX5_needBrand := goodIn_ca (goodIn_r _ [6, 7, 8, 9, 10, 11, 5, 12, 1, 13, 14, 15, 16, 17, 18, 19, 20, 21, 45, 46, 47, 48, 49, 50] (by decide +kernel) (by decide +kernel)) (goodIn_sub (fun _ h => List.mem_cons_of_mem _ (List.mem_append_left _ (List.mem_append_right _ h))) (by decide +kernel))
set_option maxRecDepth 20000 in
theorem gX5_brand_X5_needBrand : GoodIn wsX5_brand (wsV RX5 100 RX5 yX5_needBrand wsX5_needBrand) := goodIn_app (goodIn_of _ (by decide +kernel)) ggX5_brand_X5_needBrand
set_option maxRecDepth 20000 in
theorem ggX5_brand_X5_needRange : GoodIn wsX5_brand wsX5_needRange := goodIn_ca (goodIn_r _ [24, 25, 26, 5, 27, 28, 29] (by decide +kernel) (by decide +kernel)) (goodIn_sub (fun _ h => List.mem_cons_of_mem _ (List.mem_append_right _ h)) (by decide +kernel))
set_option maxRecDepth 20000 in
theorem gX5_brand_X5_needRange : GoodIn wsX5_brand (va_wsS RX5 48 yX5_needRange wsX5_needRange) := goodIn_app (goodIn_of _ (by decide +kernel)) ggX5_brand_X5_needRange
set_option maxRecDepth 20000 in
theorem ggX5_brand_X2_brandNumber : GoodIn wsX5_brand wsX2_brandNumber := goodIn_r _ [32, 33, 34, 35, 14, 36, 37, 38, 39, 40, 17, 18, 19, 20, 21, 41, 42, 43, 44, 50] (by decide +kernel) (by decide +kernel)
set_option maxRecDepth 20000 in
theorem gX5_brand_X2_brandNumber_n185 : GoodIn wsX5_brand (wsX2_brandNumber) := ggX5_brand_X2_brandNumber
theorem dX5_brand_0 : decode cX5_brand 0 = .ok (.aload_n 0, 1) := by decide +kernel
theorem dX5_brand_1 : decode cX5_brand 1 = .ok (.iload_n 1, 1) := by decide +kernel
theorem dX5_brand_2 : decode cX5_brand 2 = .ok (.invokevirtual 100, 3) := by decide +kernel
theorem dX5_brand_5 : decode cX5_brand 5 = .ok (.iload_n 2, 1) := by decide +kernel
theorem dX5_brand_6 : decode cX5_brand 6 = .ok (.iconst 0, 1) := by decide +kernel
theorem dX5_brand_7 : decode cX5_brand 7 = .ok (.bipush 11, 2) := by decide +kernel
theorem dX5_brand_9 : decode cX5_brand 9 = .ok (.invokestatic 48, 3) := by decide +kernel
theorem dX5_brand_12 : decode cX5_brand 12 = .ok (.aload_n 0, 1) := by decide +kernel
theorem dX5_brand_13 : decode cX5_brand 13 = .ok (.getfield 20, 3) := by decide +kernel
theorem dX5_brand_16 : decode cX5_brand 16 = .ok (.iload_n 1, 1) := by decide +kernel
theorem dX5_brand_17 : decode cX5_brand 17 = .ok (.iload_n 2, 1) := by decide +kernel
theorem dX5_brand_18 : decode cX5_brand 18 = .ok (.invokevirtual 185, 3) := by decide +kernel
theorem dX5_brand_21 : decode cX5_brand 21 = .ok (.ireturn, 1) := by decide +kernel
set_option maxRecDepth 20000 in
theorem ggX5_shop_X5_needShop : GoodIn wsX5_shop wsX5_needShop := goodIn_ca (goodIn_r _ [6, 7, 8, 9, 10, 11, 5, 12, 1, 13, 14, 15, 16, 17, 18, 19, 20, 21, 41, 42, 43, 44, 45, 46] (by decide +kernel) (by decide +kernel)) (goodIn_sub (fun _ h => List.mem_cons_of_mem _ (List.mem_append_left _ (List.mem_append_right _ h))) (by decide +kernel))
set_option maxRecDepth 20000 in
theorem gX5_shop_X5_needShop : GoodIn wsX5_shop (wsV RX5 110 RX5 yX5_needShop wsX5_needShop) := goodIn_app (goodIn_of _ (by decide +kernel)) ggX5_shop_X5_needShop
set_option maxRecDepth 20000 in
theorem ggX5_shop_X5_isShopNumber : GoodIn wsX5_shop wsX5_isShopNumber := goodIn_r _ [24] (by decide +kernel) (by decide +kernel)
set_option maxRecDepth 20000 in
theorem gX5_shop_X5_isShopNumber : GoodIn wsX5_shop (va_wsS RX5 188 yX5_isShopNumber wsX5_isShopNumber) := goodIn_app (goodIn_of _ (by decide +kernel)) ggX5_shop_X5_isShopNumber
set_option maxRecDepth 20000 in
theorem ggX5_shop_X5_needArgument : GoodIn wsX5_shop wsX5_needArgument := goodIn_ca (goodIn_r _ [27, 28, 29] (by decide +kernel) (by decide +kernel)) (goodIn_sub (fun _ h => List.mem_cons_of_mem _ (List.mem_append_right _ h)) (by decide +kernel))
set_option maxRecDepth 20000 in
theorem gX5_shop_X5_needArgument : GoodIn wsX5_shop (va_wsS RX5 153 yX5_needArgument wsX5_needArgument) := goodIn_app (goodIn_of _ (by decide +kernel)) ggX5_shop_X5_needArgument
set_option maxRecDepth 20000 in
theorem ggX5_shop_X2_shopNumber : GoodIn wsX5_shop wsX2_shopNumber := goodIn_r _ [32, 33, 34, 35, 14, 36, 37, 38, 39, 40, 17, 18, 19, 20, 21, 46] (by decide +kernel) (by decide +kernel)
set_option maxRecDepth 20000 in
theorem gX5_shop_X2_shopNumber_n192 : GoodIn wsX5_shop (wsX2_shopNumber) := ggX5_shop_X2_shopNumber
theorem dX5_shop_0 : decode cX5_shop 0 = .ok (.aload_n 0, 1) := by decide +kernel
theorem dX5_shop_1 : decode cX5_shop 1 = .ok (.iload_n 1, 1) := by decide +kernel
theorem dX5_shop_2 : decode cX5_shop 2 = .ok (.invokevirtual 110, 3) := by decide +kernel
theorem dX5_shop_5 : decode cX5_shop 5 = .ok (.iload_n 2, 1) := by decide +kernel
theorem dX5_shop_6 : decode cX5_shop 6 = .ok (.invokestatic 188, 3) := by decide +kernel
theorem dX5_shop_9 : decode cX5_shop 9 = .ok (.invokestatic 153, 3) := by decide +kernel
theorem dX5_shop_12 : decode cX5_shop 12 = .ok (.aload_n 0, 1) := by decide +kernel
theorem dX5_shop_13 : decode cX5_shop 13 = .ok (.getfield 20, 3) := by decide +kernel
theorem dX5_shop_16 : decode cX5_shop 16 = .ok (.iload_n 1, 1) := by decide +kernel
theorem dX5_shop_17 : decode cX5_shop 17 = .ok (.iload_n 2, 1) := by decide +kernel
theorem dX5_shop_18 : decode cX5_shop 18 = .ok (.invokevirtual 192, 3) := by decide +kernel
theorem dX5_shop_21 : decode cX5_shop 21 = .ok (.ireturn, 1) := by decide +kernel
set_option maxRecDepth 20000 in
theorem ggX5_count_X5_needRange : GoodIn wsX5_count wsX5_needRange := goodIn_ca (goodIn_r _ [6, 7, 8, 5, 9, 10, 11] (by decide +kernel) (by decide +kernel)) (goodIn_sub (fun _ h => List.mem_cons_of_mem _ (List.mem_append_right _ h)) (by decide +kernel))
set_option maxRecDepth 20000 in
theorem gX5_count_X5_needRange : GoodIn wsX5_count (va_wsS RX5 48 yX5_needRange wsX5_needRange) := goodIn_app (goodIn_of _ (by decide +kernel)) ggX5_count_X5_needRange
set_option maxRecDepth 20000 in
theorem ggX5_count_X1_kept : GoodIn wsX5_count wsX1_kept := goodIn_r _ [15, 16, 51, 52, 53] (by decide +kernel) (by decide +kernel)
set_option maxRecDepth 20000 in
theorem gX5_count_X1_kept_n179 : GoodIn wsX5_count (wsX1_kept) := ggX5_count_X1_kept
set_option maxRecDepth 20000 in
theorem ggX5_count_X2_countNumber : GoodIn wsX5_count wsX2_countNumber := goodIn_r _ [20, 21, 22, 23, 18, 24, 25, 26, 27, 28, 29, 30, 31, 32, 33, 34, 35, 36, 37, 38, 39, 40, 41, 42, 43, 44, 45, 54] (by decide +kernel) (by decide +kernel)
set_option maxRecDepth 20000 in
theorem gX5_count_X2_countNumber_n77 : GoodIn wsX5_count (wsX2_countNumber) := ggX5_count_X2_countNumber
theorem dX5_count_0 : decode cX5_count 0 = .ok (.iload_n 1, 1) := by decide +kernel
theorem dX5_count_1 : decode cX5_count 1 = .ok (.iconst 0, 1) := by decide +kernel
theorem dX5_count_2 : decode cX5_count 2 = .ok (.bipush 10, 2) := by decide +kernel
theorem dX5_count_4 : decode cX5_count 4 = .ok (.invokestatic 48, 3) := by decide +kernel
theorem dX5_count_7 : decode cX5_count 7 = .ok (.iload_n 1, 1) := by decide +kernel
theorem dX5_count_8 : decode cX5_count 8 = .ok (.bipush 10, 2) := by decide +kernel
theorem dX5_count_10 : decode cX5_count 10 = .ok (.if_icmp .ne 13, 3) := by decide +kernel
theorem dX5_count_13 : decode cX5_count 13 = .ok (.aload_n 0, 1) := by decide +kernel
theorem dX5_count_14 : decode cX5_count 14 = .ok (.getfield 26, 3) := by decide +kernel
theorem dX5_count_17 : decode cX5_count 17 = .ok (.invokevirtual 179, 3) := by decide +kernel
theorem dX5_count_20 : decode cX5_count 20 = .ok (.goto 11, 3) := by decide +kernel
theorem dX5_count_23 : decode cX5_count 23 = .ok (.aload_n 0, 1) := by decide +kernel
theorem dX5_count_24 : decode cX5_count 24 = .ok (.getfield 20, 3) := by decide +kernel
theorem dX5_count_27 : decode cX5_count 27 = .ok (.iload_n 1, 1) := by decide +kernel
theorem dX5_count_28 : decode cX5_count 28 = .ok (.invokevirtual 77, 3) := by decide +kernel
theorem dX5_count_31 : decode cX5_count 31 = .ok (.ireturn, 1) := by decide +kernel
set_option maxRecDepth 20000 in
theorem ggX5_setting_X5_needSetting : GoodIn wsX5_setting wsX5_needSetting := goodIn_ca (goodIn_r _ [5, 6, 7] (by decide +kernel) (by decide +kernel)) (goodIn_sub (fun _ h => List.mem_cons_of_mem _ (List.mem_append_right _ h)) (by decide +kernel))
set_option maxRecDepth 20000 in
theorem gX5_setting_X5_needSetting : GoodIn wsX5_setting (va_wsS RX5 80 yX5_needSetting wsX5_needSetting) := goodIn_app (goodIn_of _ (by decide +kernel)) ggX5_setting_X5_needSetting
set_option maxRecDepth 20000 in
theorem ggX5_setting_X2_ofSetting : GoodIn wsX5_setting wsX2_ofSetting := goodIn_r _ [11, 12, 13, 14, 9, 15, 16, 22] (by decide +kernel) (by decide +kernel)
set_option maxRecDepth 20000 in
theorem gX5_setting_X2_ofSetting_n94 : GoodIn wsX5_setting (wsX2_ofSetting) := ggX5_setting_X2_ofSetting
theorem dX5_setting_0 : decode cX5_setting 0 = .ok (.iload_n 1, 1) := by decide +kernel
theorem dX5_setting_1 : decode cX5_setting 1 = .ok (.invokestatic 80, 3) := by decide +kernel
theorem dX5_setting_4 : decode cX5_setting 4 = .ok (.aload_n 0, 1) := by decide +kernel
theorem dX5_setting_5 : decode cX5_setting 5 = .ok (.getfield 20, 3) := by decide +kernel
theorem dX5_setting_8 : decode cX5_setting 8 = .ok (.iload_n 1, 1) := by decide +kernel
theorem dX5_setting_9 : decode cX5_setting 9 = .ok (.invokevirtual 94, 3) := by decide +kernel
theorem dX5_setting_12 : decode cX5_setting 12 = .ok (.ireturn, 1) := by decide +kernel
set_option maxRecDepth 20000 in
theorem ggX5_whyNotDeliver_X5_needBrand : GoodIn wsX5_whyNotDeliver wsX5_needBrand := goodIn_ca (goodIn_r _ [6, 7, 8, 9, 10, 11, 5, 12, 13, 14, 15, 16, 17, 18, 19, 20, 21, 22, 61, 62, 63, 64, 65, 66] (by decide +kernel) (by decide +kernel)) (goodIn_sub (fun _ h => List.mem_cons_of_mem _ (List.mem_append_left _ (List.mem_append_right _ h))) (by decide +kernel))
set_option maxRecDepth 20000 in
theorem gX5_whyNotDeliver_X5_needBrand : GoodIn wsX5_whyNotDeliver (wsV RX5 100 RX5 yX5_needBrand wsX5_needBrand) := goodIn_app (goodIn_of _ (by decide +kernel)) ggX5_whyNotDeliver_X5_needBrand
set_option maxRecDepth 20000 in
theorem ggX5_whyNotDeliver_X5_needShop : GoodIn wsX5_whyNotDeliver wsX5_needShop := goodIn_ca (goodIn_r _ [26, 7, 8, 27, 28, 29, 5, 30, 13, 14, 15, 16, 17, 18, 19, 20, 21, 22, 61, 62, 63, 64, 65, 66] (by decide +kernel) (by decide +kernel)) (goodIn_sub (fun _ h => List.mem_cons_of_mem _ (List.mem_append_left _ (List.mem_append_right _ h))) (by decide +kernel))
set_option maxRecDepth 20000 in
theorem gX5_whyNotDeliver_X5_needShop : GoodIn wsX5_whyNotDeliver (wsV RX5 110 RX5 yX5_needShop wsX5_needShop) := goodIn_app (goodIn_of _ (by decide +kernel)) ggX5_whyNotDeliver_X5_needShop
set_option maxRecDepth 20000 in
theorem ggX5_whyNotDeliver_X5_needRange : GoodIn wsX5_whyNotDeliver wsX5_needRange := goodIn_ca (goodIn_r _ [33, 34, 35, 5, 36, 37, 38] (by decide +kernel) (by decide +kernel)) (goodIn_sub (fun _ h => List.mem_cons_of_mem _ (List.mem_append_right _ h)) (by decide +kernel))
set_option maxRecDepth 20000 in
theorem gX5_whyNotDeliver_X5_needRange : GoodIn wsX5_whyNotDeliver (va_wsS RX5 48 yX5_needRange wsX5_needRange) := goodIn_app (goodIn_of _ (by decide +kernel)) ggX5_whyNotDeliver_X5_needRange
set_option maxRecDepth 20000 in
theorem ggX5_whyNotDeliver_X4_deliverReason : GoodIn wsX5_whyNotDeliver wsX4_deliverReason := goodIn_r _ [42, 43, 44, 15, 45, 46, 18, 19, 20, 21, 22, 14, 16, 17, 47, 48, 49, 50, 51, 52, 40, 53, 54, 55, 56, 57, 58, 59, 60, 67, 68, 66] (by decide +kernel) (by decide +kernel)
set_option maxRecDepth 20000 in
theorem gX5_whyNotDeliver_X4_deliverReason_n113 : GoodIn wsX5_whyNotDeliver (wsX4_deliverReason) := ggX5_whyNotDeliver_X4_deliverReason
theorem dX5_whyNotDeliver_0 : decode cX5_whyNotDeliver 0 = .ok (.aload_n 0, 1) := by decide +kernel
theorem dX5_whyNotDeliver_1 : decode cX5_whyNotDeliver 1 = .ok (.iload_n 1, 1) := by decide +kernel
theorem dX5_whyNotDeliver_2 : decode cX5_whyNotDeliver 2 = .ok (.invokevirtual 100, 3) := by decide +kernel
theorem dX5_whyNotDeliver_5 : decode cX5_whyNotDeliver 5 = .ok (.aload_n 0, 1) := by decide +kernel
theorem dX5_whyNotDeliver_6 : decode cX5_whyNotDeliver 6 = .ok (.iload_n 2, 1) := by decide +kernel
theorem dX5_whyNotDeliver_7 : decode cX5_whyNotDeliver 7 = .ok (.invokevirtual 110, 3) := by decide +kernel
theorem dX5_whyNotDeliver_10 : decode cX5_whyNotDeliver 10 = .ok (.iload_n 3, 1) := by decide +kernel
theorem dX5_whyNotDeliver_11 : decode cX5_whyNotDeliver 11 = .ok (.iconst 1, 1) := by decide +kernel
theorem dX5_whyNotDeliver_12 : decode cX5_whyNotDeliver 12 = .ok (.bipush 50, 2) := by decide +kernel
theorem dX5_whyNotDeliver_14 : decode cX5_whyNotDeliver 14 = .ok (.invokestatic 48, 3) := by decide +kernel
theorem dX5_whyNotDeliver_17 : decode cX5_whyNotDeliver 17 = .ok (.aload_n 0, 1) := by decide +kernel
theorem dX5_whyNotDeliver_18 : decode cX5_whyNotDeliver 18 = .ok (.getfield 12, 3) := by decide +kernel
theorem dX5_whyNotDeliver_21 : decode cX5_whyNotDeliver 21 = .ok (.iload_n 1, 1) := by decide +kernel
theorem dX5_whyNotDeliver_22 : decode cX5_whyNotDeliver 22 = .ok (.iload_n 2, 1) := by decide +kernel
theorem dX5_whyNotDeliver_23 : decode cX5_whyNotDeliver 23 = .ok (.iload_n 3, 1) := by decide +kernel
theorem dX5_whyNotDeliver_24 : decode cX5_whyNotDeliver 24 = .ok (.invokevirtual 113, 3) := by decide +kernel
theorem dX5_whyNotDeliver_27 : decode cX5_whyNotDeliver 27 = .ok (.ireturn, 1) := by decide +kernel
set_option maxRecDepth 20000 in
theorem ggX5_whyNotCollect_X5_needShop : GoodIn wsX5_whyNotCollect wsX5_needShop := goodIn_ca (goodIn_r _ [6, 7, 8, 9, 10, 11, 5, 12, 13, 14, 15, 16, 17, 18, 19, 20, 21, 22, 49, 50, 51, 52, 53, 54] (by decide +kernel) (by decide +kernel)) (goodIn_sub (fun _ h => List.mem_cons_of_mem _ (List.mem_append_left _ (List.mem_append_right _ h))) (by decide +kernel))
set_option maxRecDepth 20000 in
theorem gX5_whyNotCollect_X5_needShop : GoodIn wsX5_whyNotCollect (wsV RX5 110 RX5 yX5_needShop wsX5_needShop) := goodIn_app (goodIn_of _ (by decide +kernel)) ggX5_whyNotCollect_X5_needShop
set_option maxRecDepth 20000 in
theorem ggX5_whyNotCollect_X5_needKind : GoodIn wsX5_whyNotCollect wsX5_needKind := goodIn_ca (goodIn_r _ [25, 26, 27, 5, 28, 29, 30, 31, 32, 33] (by decide +kernel) (by decide +kernel)) (goodIn_sub (fun _ h => List.mem_cons_of_mem _ (List.mem_append_right _ h)) (by decide +kernel))
set_option maxRecDepth 20000 in
theorem gX5_whyNotCollect_X5_needKind : GoodIn wsX5_whyNotCollect (va_wsS RX5 44 yX5_needKind wsX5_needKind) := goodIn_app (goodIn_of _ (by decide +kernel)) ggX5_whyNotCollect_X5_needKind
set_option maxRecDepth 20000 in
theorem ggX5_whyNotCollect_X5_needRange : GoodIn wsX5_whyNotCollect wsX5_needRange := goodIn_ca (goodIn_r _ [28, 29, 30, 5, 31, 32, 33] (by decide +kernel) (by decide +kernel)) (goodIn_sub (fun _ h => List.mem_cons_of_mem _ (List.mem_append_right _ h)) (by decide +kernel))
set_option maxRecDepth 20000 in
theorem gX5_whyNotCollect_X5_needRange : GoodIn wsX5_whyNotCollect (va_wsS RX5 48 yX5_needRange wsX5_needRange) := goodIn_app (goodIn_of _ (by decide +kernel)) ggX5_whyNotCollect_X5_needRange
set_option maxRecDepth 20000 in
theorem ggX5_whyNotCollect_X4_collectReason : GoodIn wsX5_whyNotCollect wsX4_collectReason := goodIn_r _ [37, 38, 39, 40, 41, 35, 42, 43, 15, 44, 45, 18, 19, 20, 21, 22, 46, 47, 48, 55, 56, 54] (by decide +kernel) (by decide +kernel)
set_option maxRecDepth 20000 in
theorem gX5_whyNotCollect_X4_collectReason_n141 : GoodIn wsX5_whyNotCollect (wsX4_collectReason) := ggX5_whyNotCollect_X4_collectReason
theorem dX5_whyNotCollect_0 : decode cX5_whyNotCollect 0 = .ok (.aload_n 0, 1) := by decide +kernel
theorem dX5_whyNotCollect_1 : decode cX5_whyNotCollect 1 = .ok (.iload_n 1, 1) := by decide +kernel
theorem dX5_whyNotCollect_2 : decode cX5_whyNotCollect 2 = .ok (.invokevirtual 110, 3) := by decide +kernel
theorem dX5_whyNotCollect_5 : decode cX5_whyNotCollect 5 = .ok (.iload_n 2, 1) := by decide +kernel
theorem dX5_whyNotCollect_6 : decode cX5_whyNotCollect 6 = .ok (.invokestatic 44, 3) := by decide +kernel
theorem dX5_whyNotCollect_9 : decode cX5_whyNotCollect 9 = .ok (.iload_n 3, 1) := by decide +kernel
theorem dX5_whyNotCollect_10 : decode cX5_whyNotCollect 10 = .ok (.iconst 1, 1) := by decide +kernel
theorem dX5_whyNotCollect_11 : decode cX5_whyNotCollect 11 = .ok (.bipush 50, 2) := by decide +kernel
theorem dX5_whyNotCollect_13 : decode cX5_whyNotCollect 13 = .ok (.invokestatic 48, 3) := by decide +kernel
theorem dX5_whyNotCollect_16 : decode cX5_whyNotCollect 16 = .ok (.aload_n 0, 1) := by decide +kernel
theorem dX5_whyNotCollect_17 : decode cX5_whyNotCollect 17 = .ok (.getfield 12, 3) := by decide +kernel
theorem dX5_whyNotCollect_20 : decode cX5_whyNotCollect 20 = .ok (.iload_n 1, 1) := by decide +kernel
theorem dX5_whyNotCollect_21 : decode cX5_whyNotCollect 21 = .ok (.iload_n 2, 1) := by decide +kernel
theorem dX5_whyNotCollect_22 : decode cX5_whyNotCollect 22 = .ok (.iload_n 3, 1) := by decide +kernel
theorem dX5_whyNotCollect_23 : decode cX5_whyNotCollect 23 = .ok (.invokevirtual 141, 3) := by decide +kernel
theorem dX5_whyNotCollect_26 : decode cX5_whyNotCollect 26 = .ok (.ireturn, 1) := by decide +kernel
set_option maxRecDepth 20000 in
theorem ggX5_mostCrates_X5_needBrand : GoodIn wsX5_mostCrates wsX5_needBrand := goodIn_ca (goodIn_r _ [6, 7, 8, 9, 10, 11, 5, 12, 13, 14, 15, 16, 17, 18, 19, 20, 21, 22, 57, 58, 59, 60, 61, 62] (by decide +kernel) (by decide +kernel)) (goodIn_sub (fun _ h => List.mem_cons_of_mem _ (List.mem_append_right _ h)) (by decide +kernel))
set_option maxRecDepth 20000 in
theorem gX5_mostCrates_X5_needBrand : GoodIn wsX5_mostCrates (wsV RX5 100 RX5 yX5_needBrand wsX5_needBrand) := goodIn_app (goodIn_of _ (by decide +kernel)) ggX5_mostCrates_X5_needBrand
set_option maxRecDepth 20000 in
theorem ggX5_mostCrates_X5_needShop : GoodIn wsX5_mostCrates wsX5_needShop := goodIn_ca (goodIn_r _ [26, 7, 8, 27, 28, 29, 5, 30, 13, 14, 15, 16, 17, 18, 19, 20, 21, 22, 57, 58, 59, 60, 61, 62] (by decide +kernel) (by decide +kernel)) (goodIn_sub (fun _ h => List.mem_cons_of_mem _ (List.mem_append_right _ h)) (by decide +kernel))
set_option maxRecDepth 20000 in
theorem gX5_mostCrates_X5_needShop : GoodIn wsX5_mostCrates (wsV RX5 110 RX5 yX5_needShop wsX5_needShop) := goodIn_app (goodIn_of _ (by decide +kernel)) ggX5_mostCrates_X5_needShop
set_option maxRecDepth 20000 in
theorem ggX5_mostCrates_X4_mostDeliverable : GoodIn wsX5_mostCrates wsX4_mostDeliverable := goodIn_r _ [34, 35, 36, 37, 38, 39, 40, 41, 42, 32, 43, 44, 15, 45, 46, 18, 19, 20, 21, 22, 47, 48, 49, 50, 51, 52, 53, 54, 55, 56, 14, 16, 17, 63, 64, 62] (by decide +kernel) (by decide +kernel)
set_option maxRecDepth 20000 in
theorem gX5_mostCrates_X4_mostDeliverable_n195 : GoodIn wsX5_mostCrates (wsX4_mostDeliverable) := ggX5_mostCrates_X4_mostDeliverable
theorem dX5_mostCrates_0 : decode cX5_mostCrates 0 = .ok (.aload_n 0, 1) := by decide +kernel
theorem dX5_mostCrates_1 : decode cX5_mostCrates 1 = .ok (.iload_n 1, 1) := by decide +kernel
theorem dX5_mostCrates_2 : decode cX5_mostCrates 2 = .ok (.invokevirtual 100, 3) := by decide +kernel
theorem dX5_mostCrates_5 : decode cX5_mostCrates 5 = .ok (.aload_n 0, 1) := by decide +kernel
theorem dX5_mostCrates_6 : decode cX5_mostCrates 6 = .ok (.iload_n 2, 1) := by decide +kernel
theorem dX5_mostCrates_7 : decode cX5_mostCrates 7 = .ok (.invokevirtual 110, 3) := by decide +kernel
theorem dX5_mostCrates_10 : decode cX5_mostCrates 10 = .ok (.aload_n 0, 1) := by decide +kernel
theorem dX5_mostCrates_11 : decode cX5_mostCrates 11 = .ok (.getfield 12, 3) := by decide +kernel
theorem dX5_mostCrates_14 : decode cX5_mostCrates 14 = .ok (.iload_n 1, 1) := by decide +kernel
theorem dX5_mostCrates_15 : decode cX5_mostCrates 15 = .ok (.iload_n 2, 1) := by decide +kernel
theorem dX5_mostCrates_16 : decode cX5_mostCrates 16 = .ok (.invokevirtual 195, 3) := by decide +kernel
theorem dX5_mostCrates_19 : decode cX5_mostCrates 19 = .ok (.ireturn, 1) := by decide +kernel
set_option maxRecDepth 20000 in
theorem ggX5_collected_X5_needShop : GoodIn wsX5_collected wsX5_needShop := goodIn_ca (goodIn_r _ [6, 7, 8, 9, 10, 11, 5, 12, 13, 14, 15, 16, 17, 18, 19, 20, 21, 22, 73, 74, 75, 76, 77, 78] (by decide +kernel) (by decide +kernel)) (goodIn_sub (fun _ h => List.mem_cons_of_mem _ (List.mem_append_left _ (List.mem_append_right _ h))) (by decide +kernel))
set_option maxRecDepth 20000 in
theorem gX5_collected_X5_needShop : GoodIn wsX5_collected (wsV RX5 110 RX5 yX5_needShop wsX5_needShop) := goodIn_app (goodIn_of _ (by decide +kernel)) ggX5_collected_X5_needShop
set_option maxRecDepth 20000 in
theorem ggX5_collected_X5_needBrand : GoodIn wsX5_collected wsX5_needBrand := goodIn_ca (goodIn_r _ [26, 7, 8, 27, 28, 29, 5, 30, 13, 14, 15, 16, 17, 18, 19, 20, 21, 22, 73, 74, 75, 76, 77, 78] (by decide +kernel) (by decide +kernel)) (goodIn_sub (fun _ h => List.mem_cons_of_mem _ (List.mem_append_left _ (List.mem_append_right _ h))) (by decide +kernel))
set_option maxRecDepth 20000 in
theorem gX5_collected_X5_needBrand : GoodIn wsX5_collected (wsV RX5 100 RX5 yX5_needBrand wsX5_needBrand) := goodIn_app (goodIn_of _ (by decide +kernel)) ggX5_collected_X5_needBrand
set_option maxRecDepth 20000 in
theorem ggX5_collected_X5_needRange : GoodIn wsX5_collected wsX5_needRange := goodIn_ca (goodIn_r _ [33, 34, 35, 5, 36, 37, 38] (by decide +kernel) (by decide +kernel)) (goodIn_sub (fun _ h => List.mem_cons_of_mem _ (List.mem_append_right _ h)) (by decide +kernel))
set_option maxRecDepth 20000 in
theorem gX5_collected_X5_needRange : GoodIn wsX5_collected (va_wsS RX5 48 yX5_needRange wsX5_needRange) := goodIn_app (goodIn_of _ (by decide +kernel)) ggX5_collected_X5_needRange
set_option maxRecDepth 20000 in
theorem ggX5_collected_X4_wouldCollect : GoodIn wsX5_collected wsX4_wouldCollect := goodIn_r _ [42, 43, 44, 15, 45, 46, 18, 19, 20, 21, 22, 47, 48, 49, 40, 50, 51, 52, 53, 54, 55, 56, 57, 58, 59, 60, 61, 62, 63, 64, 65, 66, 67, 68, 69, 70, 71, 5, 72, 79, 80, 78] (by decide +kernel) (by decide +kernel)
set_option maxRecDepth 20000 in
theorem gX5_collected_X4_wouldCollect_n198 : GoodIn wsX5_collected (wsX4_wouldCollect) := ggX5_collected_X4_wouldCollect
theorem dX5_collected_0 : decode cX5_collected 0 = .ok (.aload_n 0, 1) := by decide +kernel
theorem dX5_collected_1 : decode cX5_collected 1 = .ok (.iload_n 1, 1) := by decide +kernel
theorem dX5_collected_2 : decode cX5_collected 2 = .ok (.invokevirtual 110, 3) := by decide +kernel
theorem dX5_collected_5 : decode cX5_collected 5 = .ok (.aload_n 0, 1) := by decide +kernel
theorem dX5_collected_6 : decode cX5_collected 6 = .ok (.iload_n 2, 1) := by decide +kernel
theorem dX5_collected_7 : decode cX5_collected 7 = .ok (.invokevirtual 100, 3) := by decide +kernel
theorem dX5_collected_10 : decode cX5_collected 10 = .ok (.iload_n 3, 1) := by decide +kernel
theorem dX5_collected_11 : decode cX5_collected 11 = .ok (.iconst 1, 1) := by decide +kernel
theorem dX5_collected_12 : decode cX5_collected 12 = .ok (.bipush 50, 2) := by decide +kernel
theorem dX5_collected_14 : decode cX5_collected 14 = .ok (.invokestatic 48, 3) := by decide +kernel
theorem dX5_collected_17 : decode cX5_collected 17 = .ok (.aload_n 0, 1) := by decide +kernel
theorem dX5_collected_18 : decode cX5_collected 18 = .ok (.getfield 12, 3) := by decide +kernel
theorem dX5_collected_21 : decode cX5_collected 21 = .ok (.iload_n 1, 1) := by decide +kernel
theorem dX5_collected_22 : decode cX5_collected 22 = .ok (.iload_n 2, 1) := by decide +kernel
theorem dX5_collected_23 : decode cX5_collected 23 = .ok (.iload_n 3, 1) := by decide +kernel
theorem dX5_collected_24 : decode cX5_collected 24 = .ok (.invokevirtual 198, 3) := by decide +kernel
theorem dX5_collected_27 : decode cX5_collected 27 = .ok (.ireturn, 1) := by decide +kernel
set_option maxRecDepth 20000 in
theorem ggX5_filled_X5_needBrand : GoodIn wsX5_filled wsX5_needBrand := goodIn_ca (goodIn_r _ [6, 7, 8, 9, 10, 11, 5, 12, 13, 14, 15, 16, 17, 18, 19, 20, 21, 22, 42, 43, 44, 45, 46, 47] (by decide +kernel) (by decide +kernel)) (goodIn_sub (fun _ h => List.mem_cons_of_mem _ (List.mem_append_left _ (List.mem_append_right _ h))) (by decide +kernel))
set_option maxRecDepth 20000 in
theorem gX5_filled_X5_needBrand : GoodIn wsX5_filled (wsV RX5 100 RX5 yX5_needBrand wsX5_needBrand) := goodIn_app (goodIn_of _ (by decide +kernel)) ggX5_filled_X5_needBrand
set_option maxRecDepth 20000 in
theorem ggX5_filled_X5_needRange : GoodIn wsX5_filled wsX5_needRange := goodIn_ca (goodIn_r _ [25, 26, 27, 5, 28, 29, 30] (by decide +kernel) (by decide +kernel)) (goodIn_sub (fun _ h => List.mem_cons_of_mem _ (List.mem_append_right _ h)) (by decide +kernel))
set_option maxRecDepth 20000 in
theorem gX5_filled_X5_needRange : GoodIn wsX5_filled (va_wsS RX5 48 yX5_needRange wsX5_needRange) := goodIn_app (goodIn_of _ (by decide +kernel)) ggX5_filled_X5_needRange
set_option maxRecDepth 20000 in
theorem ggX5_filled_X4_wornBy : GoodIn wsX5_filled wsX4_wornBy := goodIn_r _ [34, 35, 36, 15, 37, 38, 18, 19, 20, 21, 22, 39, 40, 41, 48, 49, 47] (by decide +kernel) (by decide +kernel)
set_option maxRecDepth 20000 in
theorem gX5_filled_X4_wornBy_n201 : GoodIn wsX5_filled (wsX4_wornBy) := ggX5_filled_X4_wornBy
theorem dX5_filled_0 : decode cX5_filled 0 = .ok (.aload_n 0, 1) := by decide +kernel
theorem dX5_filled_1 : decode cX5_filled 1 = .ok (.iload_n 1, 1) := by decide +kernel
theorem dX5_filled_2 : decode cX5_filled 2 = .ok (.invokevirtual 100, 3) := by decide +kernel
theorem dX5_filled_5 : decode cX5_filled 5 = .ok (.iload_n 2, 1) := by decide +kernel
theorem dX5_filled_6 : decode cX5_filled 6 = .ok (.iconst 1, 1) := by decide +kernel
theorem dX5_filled_7 : decode cX5_filled 7 = .ok (.sipush 5000, 3) := by decide +kernel
theorem dX5_filled_10 : decode cX5_filled 10 = .ok (.invokestatic 48, 3) := by decide +kernel
theorem dX5_filled_13 : decode cX5_filled 13 = .ok (.iload_n 2, 1) := by decide +kernel
theorem dX5_filled_14 : decode cX5_filled 14 = .ok (.aload_n 0, 1) := by decide +kernel
theorem dX5_filled_15 : decode cX5_filled 15 = .ok (.getfield 12, 3) := by decide +kernel
theorem dX5_filled_18 : decode cX5_filled 18 = .ok (.iload_n 1, 1) := by decide +kernel
theorem dX5_filled_19 : decode cX5_filled 19 = .ok (.iload_n 2, 1) := by decide +kernel
theorem dX5_filled_20 : decode cX5_filled 20 = .ok (.invokevirtual 201, 3) := by decide +kernel
theorem dX5_filled_23 : decode cX5_filled 23 = .ok (.isub, 1) := by decide +kernel
theorem dX5_filled_24 : decode cX5_filled 24 = .ok (.ireturn, 1) := by decide +kernel
set_option maxRecDepth 20000 in
theorem ggX5_bestShop_X5_needKind : GoodIn wsX5_bestShop wsX5_needKind := goodIn_ca (goodIn_r _ [5, 6, 7, 4, 8, 9, 10, 11, 12, 13] (by decide +kernel) (by decide +kernel)) (goodIn_sub (fun _ h => List.mem_cons_of_mem _ (List.mem_append_right _ h)) (by decide +kernel))
set_option maxRecDepth 20000 in
theorem gX5_bestShop_X5_needKind : GoodIn wsX5_bestShop (va_wsS RX5 44 yX5_needKind wsX5_needKind) := goodIn_app (goodIn_of _ (by decide +kernel)) ggX5_bestShop_X5_needKind
set_option maxRecDepth 20000 in
theorem ggX5_bestShop_X4_bestToCollect : GoodIn wsX5_bestShop wsX4_bestToCollect := goodIn_r _ [17, 18, 19, 20, 15, 21, 22, 23, 24, 25, 26, 27, 28, 29, 30, 31, 32, 33, 34, 35, 36, 37, 38, 39, 40, 41, 42, 48, 49, 50] (by decide +kernel) (by decide +kernel)
set_option maxRecDepth 20000 in
theorem gX5_bestShop_X4_bestToCollect_n204 : GoodIn wsX5_bestShop (wsX4_bestToCollect) := ggX5_bestShop_X4_bestToCollect
theorem dX5_bestShop_0 : decode cX5_bestShop 0 = .ok (.iload_n 1, 1) := by decide +kernel
theorem dX5_bestShop_1 : decode cX5_bestShop 1 = .ok (.invokestatic 44, 3) := by decide +kernel
theorem dX5_bestShop_4 : decode cX5_bestShop 4 = .ok (.aload_n 0, 1) := by decide +kernel
theorem dX5_bestShop_5 : decode cX5_bestShop 5 = .ok (.getfield 12, 3) := by decide +kernel
theorem dX5_bestShop_8 : decode cX5_bestShop 8 = .ok (.iload_n 1, 1) := by decide +kernel
theorem dX5_bestShop_9 : decode cX5_bestShop 9 = .ok (.invokevirtual 204, 3) := by decide +kernel
theorem dX5_bestShop_12 : decode cX5_bestShop 12 = .ok (.ireturn, 1) := by decide +kernel
set_option maxRecDepth 20000 in
theorem ggX5_goneShare_X2_brandSum : GoodIn wsX5_goneShare wsX2_brandSum := goodIn_r _ [5, 6, 7, 8, 3, 9, 10, 11, 12, 13, 14, 15, 16, 17, 18, 19, 20, 21, 22, 23, 24, 25, 26, 32] (by decide +kernel) (by decide +kernel)
set_option maxRecDepth 20000 in
theorem gX5_goneShare_X2_brandSum_n207 : GoodIn wsX5_goneShare (wsX2_brandSum) := ggX5_goneShare_X2_brandSum
theorem dX5_goneShare_0 : decode cX5_goneShare 0 = .ok (.aload_n 0, 1) := by decide +kernel
theorem dX5_goneShare_1 : decode cX5_goneShare 1 = .ok (.getfield 20, 3) := by decide +kernel
theorem dX5_goneShare_4 : decode cX5_goneShare 4 = .ok (.iconst 1, 1) := by decide +kernel
theorem dX5_goneShare_5 : decode cX5_goneShare 5 = .ok (.bipush 9, 2) := by decide +kernel
theorem dX5_goneShare_7 : decode cX5_goneShare 7 = .ok (.invokevirtual 207, 3) := by decide +kernel
theorem dX5_goneShare_10 : decode cX5_goneShare 10 = .ok (.istore_n 1, 1) := by decide +kernel
theorem dX5_goneShare_11 : decode cX5_goneShare 11 = .ok (.iload_n 1, 1) := by decide +kernel
theorem dX5_goneShare_12 : decode cX5_goneShare 12 = .ok (.ifCond .le 21, 3) := by decide +kernel
theorem dX5_goneShare_15 : decode cX5_goneShare 15 = .ok (.aload_n 0, 1) := by decide +kernel
theorem dX5_goneShare_16 : decode cX5_goneShare 16 = .ok (.getfield 20, 3) := by decide +kernel
theorem dX5_goneShare_19 : decode cX5_goneShare 19 = .ok (.bipush 7, 2) := by decide +kernel
theorem dX5_goneShare_21 : decode cX5_goneShare 21 = .ok (.bipush 9, 2) := by decide +kernel
theorem dX5_goneShare_23 : decode cX5_goneShare 23 = .ok (.invokevirtual 207, 3) := by decide +kernel
theorem dX5_goneShare_26 : decode cX5_goneShare 26 = .ok (.i2d, 1) := by decide +kernel
theorem dX5_goneShare_27 : decode cX5_goneShare 27 = .ok (.iload_n 1, 1) := by decide +kernel
theorem dX5_goneShare_28 : decode cX5_goneShare 28 = .ok (.i2d, 1) := by decide +kernel
theorem dX5_goneShare_29 : decode cX5_goneShare 29 = .ok (.ddiv, 1) := by decide +kernel
theorem dX5_goneShare_30 : decode cX5_goneShare 30 = .ok (.goto 4, 3) := by decide +kernel
theorem dX5_goneShare_33 : decode cX5_goneShare 33 = .ok (.dconst 0, 1) := by decide +kernel
theorem dX5_goneShare_34 : decode cX5_goneShare 34 = .ok (.dreturn, 1) := by decide +kernel
set_option maxRecDepth 20000 in
theorem ggX5_isBrand_X2_ofAll : GoodIn wsX5_isBrand wsX2_ofAll := goodIn_r _ [5, 6, 7, 8, 3, 9, 10, 16] (by decide +kernel) (by decide +kernel)
set_option maxRecDepth 20000 in
theorem gX5_isBrand_X2_ofAll_n52 : GoodIn wsX5_isBrand (wsX2_ofAll) := ggX5_isBrand_X2_ofAll
theorem dX5_isBrand_0 : decode cX5_isBrand 0 = .ok (.iload_n 1, 1) := by decide +kernel
theorem dX5_isBrand_1 : decode cX5_isBrand 1 = .ok (.ifCond .lt 19, 3) := by decide +kernel
theorem dX5_isBrand_4 : decode cX5_isBrand 4 = .ok (.iload_n 1, 1) := by decide +kernel
theorem dX5_isBrand_5 : decode cX5_isBrand 5 = .ok (.aload_n 0, 1) := by decide +kernel
theorem dX5_isBrand_6 : decode cX5_isBrand 6 = .ok (.getfield 20, 3) := by decide +kernel
theorem dX5_isBrand_9 : decode cX5_isBrand 9 = .ok (.iconst 0, 1) := by decide +kernel
theorem dX5_isBrand_10 : decode cX5_isBrand 10 = .ok (.invokevirtual 52, 3) := by decide +kernel
theorem dX5_isBrand_13 : decode cX5_isBrand 13 = .ok (.if_icmp .ge 7, 3) := by decide +kernel
theorem dX5_isBrand_16 : decode cX5_isBrand 16 = .ok (.iconst 1, 1) := by decide +kernel
theorem dX5_isBrand_17 : decode cX5_isBrand 17 = .ok (.goto 4, 3) := by decide +kernel
theorem dX5_isBrand_20 : decode cX5_isBrand 20 = .ok (.iconst 0, 1) := by decide +kernel
theorem dX5_isBrand_21 : decode cX5_isBrand 21 = .ok (.ireturn, 1) := by decide +kernel
set_option maxRecDepth 20000 in
theorem ggX5_isShop_X2_ofAll : GoodIn wsX5_isShop wsX2_ofAll := goodIn_r _ [5, 6, 7, 8, 3, 9, 10, 16] (by decide +kernel) (by decide +kernel)
set_option maxRecDepth 20000 in
theorem gX5_isShop_X2_ofAll_n52 : GoodIn wsX5_isShop (wsX2_ofAll) := ggX5_isShop_X2_ofAll
theorem dX5_isShop_0 : decode cX5_isShop 0 = .ok (.iload_n 1, 1) := by decide +kernel
theorem dX5_isShop_1 : decode cX5_isShop 1 = .ok (.ifCond .lt 19, 3) := by decide +kernel
theorem dX5_isShop_4 : decode cX5_isShop 4 = .ok (.iload_n 1, 1) := by decide +kernel
theorem dX5_isShop_5 : decode cX5_isShop 5 = .ok (.aload_n 0, 1) := by decide +kernel
theorem dX5_isShop_6 : decode cX5_isShop 6 = .ok (.getfield 20, 3) := by decide +kernel
theorem dX5_isShop_9 : decode cX5_isShop 9 = .ok (.iconst 1, 1) := by decide +kernel
theorem dX5_isShop_10 : decode cX5_isShop 10 = .ok (.invokevirtual 52, 3) := by decide +kernel
theorem dX5_isShop_13 : decode cX5_isShop 13 = .ok (.if_icmp .ge 7, 3) := by decide +kernel
theorem dX5_isShop_16 : decode cX5_isShop 16 = .ok (.iconst 1, 1) := by decide +kernel
theorem dX5_isShop_17 : decode cX5_isShop 17 = .ok (.goto 4, 3) := by decide +kernel
theorem dX5_isShop_20 : decode cX5_isShop 20 = .ok (.iconst 0, 1) := by decide +kernel
theorem dX5_isShop_21 : decode cX5_isShop 21 = .ok (.ireturn, 1) := by decide +kernel
theorem dX5_isShopNumber_0 : decode cX5_isShopNumber 0 = .ok (.iload_n 0, 1) := by decide +kernel
theorem dX5_isShopNumber_1 : decode cX5_isShopNumber 1 = .ok (.ifCond .lt 9, 3) := by decide +kernel
theorem dX5_isShopNumber_4 : decode cX5_isShopNumber 4 = .ok (.iload_n 0, 1) := by decide +kernel
theorem dX5_isShopNumber_5 : decode cX5_isShopNumber 5 = .ok (.bipush 6, 2) := by decide +kernel
theorem dX5_isShopNumber_7 : decode cX5_isShopNumber 7 = .ok (.if_icmp .le 27, 3) := by decide +kernel
theorem dX5_isShopNumber_10 : decode cX5_isShopNumber 10 = .ok (.iload_n 0, 1) := by decide +kernel
theorem dX5_isShopNumber_11 : decode cX5_isShopNumber 11 = .ok (.bipush 10, 2) := by decide +kernel
theorem dX5_isShopNumber_13 : decode cX5_isShopNumber 13 = .ok (.if_icmp .lt 9, 3) := by decide +kernel
theorem dX5_isShopNumber_16 : decode cX5_isShopNumber 16 = .ok (.iload_n 0, 1) := by decide +kernel
theorem dX5_isShopNumber_17 : decode cX5_isShopNumber 17 = .ok (.bipush 18, 2) := by decide +kernel
theorem dX5_isShopNumber_19 : decode cX5_isShopNumber 19 = .ok (.if_icmp .lt 15, 3) := by decide +kernel
theorem dX5_isShopNumber_22 : decode cX5_isShopNumber 22 = .ok (.iload_n 0, 1) := by decide +kernel
theorem dX5_isShopNumber_23 : decode cX5_isShopNumber 23 = .ok (.bipush 20, 2) := by decide +kernel
theorem dX5_isShopNumber_25 : decode cX5_isShopNumber 25 = .ok (.if_icmp .lt 13, 3) := by decide +kernel
theorem dX5_isShopNumber_28 : decode cX5_isShopNumber 28 = .ok (.iload_n 0, 1) := by decide +kernel
theorem dX5_isShopNumber_29 : decode cX5_isShopNumber 29 = .ok (.bipush 28, 2) := by decide +kernel
theorem dX5_isShopNumber_31 : decode cX5_isShopNumber 31 = .ok (.if_icmp .ge 7, 3) := by decide +kernel
theorem dX5_isShopNumber_34 : decode cX5_isShopNumber 34 = .ok (.iconst 1, 1) := by decide +kernel
theorem dX5_isShopNumber_35 : decode cX5_isShopNumber 35 = .ok (.goto 4, 3) := by decide +kernel
theorem dX5_isShopNumber_38 : decode cX5_isShopNumber 38 = .ok (.iconst 0, 1) := by decide +kernel
theorem dX5_isShopNumber_39 : decode cX5_isShopNumber 39 = .ok (.ireturn, 1) := by decide +kernel
set_option maxRecDepth 20000 in
theorem ggX5_needBrand_X5_isBrand : GoodIn wsX5_needBrand wsX5_isBrand := goodIn_r _ [7, 8, 9, 10, 11, 12, 13, 14, 15, 16, 17, 18, 19, 20, 21, 22, 23] (by decide +kernel) (by decide +kernel)
set_option maxRecDepth 20000 in
theorem gX5_needBrand_X5_isBrand : GoodIn wsX5_needBrand (wsV RX5 283 RX5 yX5_isBrand wsX5_isBrand) := goodIn_app (goodIn_of _ (by decide +kernel)) ggX5_needBrand_X5_isBrand
theorem dX5_needBrand_0 : decode cX5_needBrand 0 = .ok (.aload_n 0, 1) := by decide +kernel
theorem dX5_needBrand_1 : decode cX5_needBrand 1 = .ok (.iload_n 1, 1) := by decide +kernel
theorem dX5_needBrand_2 : decode cX5_needBrand 2 = .ok (.invokevirtual 283, 3) := by decide +kernel
theorem dX5_needBrand_5 : decode cX5_needBrand 5 = .ok (.ifCond .ne 14, 3) := by decide +kernel
theorem dX5_needBrand_8 : decode cX5_needBrand 8 = .ok (.new 289, 3) := by decide +kernel
theorem dX5_needBrand_11 : decode cX5_needBrand 11 = .ok (.dup, 1) := by decide +kernel
theorem dX5_needBrand_12 : decode cX5_needBrand 12 = .ok (.ldc_w 291, 3) := by decide +kernel
theorem dX5_needBrand_15 : decode cX5_needBrand 15 = .ok (.invokespecial 293, 3) := by decide +kernel
theorem dX5_needBrand_18 : decode cX5_needBrand 18 = .ok (.athrow, 1) := by decide +kernel
theorem dX5_needBrand_19 : decode cX5_needBrand 19 = .ok (.return_, 1) := by decide +kernel
set_option maxRecDepth 20000 in
theorem ggX5_needShop_X5_isShop : GoodIn wsX5_needShop wsX5_isShop := goodIn_r _ [7, 8, 9, 10, 11, 12, 13, 14, 15, 16, 17, 18, 19, 20, 21, 22, 23] (by decide +kernel) (by decide +kernel)
set_option maxRecDepth 20000 in
theorem gX5_needShop_X5_isShop : GoodIn wsX5_needShop (wsV RX5 286 RX5 yX5_isShop wsX5_isShop) := goodIn_app (goodIn_of _ (by decide +kernel)) ggX5_needShop_X5_isShop
theorem dX5_needShop_0 : decode cX5_needShop 0 = .ok (.aload_n 0, 1) := by decide +kernel
theorem dX5_needShop_1 : decode cX5_needShop 1 = .ok (.iload_n 1, 1) := by decide +kernel
theorem dX5_needShop_2 : decode cX5_needShop 2 = .ok (.invokevirtual 286, 3) := by decide +kernel
theorem dX5_needShop_5 : decode cX5_needShop 5 = .ok (.ifCond .ne 14, 3) := by decide +kernel
theorem dX5_needShop_8 : decode cX5_needShop 8 = .ok (.new 289, 3) := by decide +kernel
theorem dX5_needShop_11 : decode cX5_needShop 11 = .ok (.dup, 1) := by decide +kernel
theorem dX5_needShop_12 : decode cX5_needShop 12 = .ok (.ldc_w 296, 3) := by decide +kernel
theorem dX5_needShop_15 : decode cX5_needShop 15 = .ok (.invokespecial 293, 3) := by decide +kernel
theorem dX5_needShop_18 : decode cX5_needShop 18 = .ok (.athrow, 1) := by decide +kernel
theorem dX5_needShop_19 : decode cX5_needShop 19 = .ok (.return_, 1) := by decide +kernel
theorem dX5_needSetting_0 : decode cX5_needSetting 0 = .ok (.iload_n 0, 1) := by decide +kernel
theorem dX5_needSetting_1 : decode cX5_needSetting 1 = .ok (.ifCond .lt 9, 3) := by decide +kernel
theorem dX5_needSetting_4 : decode cX5_needSetting 4 = .ok (.iload_n 0, 1) := by decide +kernel
theorem dX5_needSetting_5 : decode cX5_needSetting 5 = .ok (.bipush 6, 2) := by decide +kernel
theorem dX5_needSetting_7 : decode cX5_needSetting 7 = .ok (.if_icmp .lt 14, 3) := by decide +kernel
theorem dX5_needSetting_10 : decode cX5_needSetting 10 = .ok (.new 289, 3) := by decide +kernel
theorem dX5_needSetting_13 : decode cX5_needSetting 13 = .ok (.dup, 1) := by decide +kernel
theorem dX5_needSetting_14 : decode cX5_needSetting 14 = .ok (.ldc_w 298, 3) := by decide +kernel
theorem dX5_needSetting_17 : decode cX5_needSetting 17 = .ok (.invokespecial 293, 3) := by decide +kernel
theorem dX5_needSetting_20 : decode cX5_needSetting 20 = .ok (.athrow, 1) := by decide +kernel
theorem dX5_needSetting_21 : decode cX5_needSetting 21 = .ok (.return_, 1) := by decide +kernel
set_option maxRecDepth 20000 in
theorem ggX5_needKind_X5_needRange : GoodIn wsX5_needKind wsX5_needRange := goodIn_ca (goodIn_r _ [4, 5, 6, 3, 7, 8, 9] (by decide +kernel) (by decide +kernel)) (goodIn_sub (fun _ h => List.mem_cons_of_mem _ (List.mem_append_right _ h)) (by decide +kernel))
set_option maxRecDepth 20000 in
theorem gX5_needKind_X5_needRange : GoodIn wsX5_needKind (va_wsS RX5 48 yX5_needRange wsX5_needRange) := goodIn_app (goodIn_of _ (by decide +kernel)) ggX5_needKind_X5_needRange
theorem dX5_needKind_0 : decode cX5_needKind 0 = .ok (.iload_n 0, 1) := by decide +kernel
theorem dX5_needKind_1 : decode cX5_needKind 1 = .ok (.iconst 0, 1) := by decide +kernel
theorem dX5_needKind_2 : decode cX5_needKind 2 = .ok (.iconst 2, 1) := by decide +kernel
theorem dX5_needKind_3 : decode cX5_needKind 3 = .ok (.invokestatic 48, 3) := by decide +kernel
theorem dX5_needKind_6 : decode cX5_needKind 6 = .ok (.return_, 1) := by decide +kernel
set_option maxRecDepth 20000 in
theorem ggX5_needRange_X5_needArgument : GoodIn wsX5_needRange wsX5_needArgument := goodIn_ca (goodIn_r _ [4, 5, 6] (by decide +kernel) (by decide +kernel)) (goodIn_sub (fun _ h => List.mem_cons_of_mem _ (List.mem_append_right _ h)) (by decide +kernel))
set_option maxRecDepth 20000 in
theorem gX5_needRange_X5_needArgument : GoodIn wsX5_needRange (va_wsS RX5 153 yX5_needArgument wsX5_needArgument) := goodIn_app (goodIn_of _ (by decide +kernel)) ggX5_needRange_X5_needArgument
theorem dX5_needRange_0 : decode cX5_needRange 0 = .ok (.iload_n 0, 1) := by decide +kernel
theorem dX5_needRange_1 : decode cX5_needRange 1 = .ok (.iload_n 1, 1) := by decide +kernel
theorem dX5_needRange_2 : decode cX5_needRange 2 = .ok (.if_icmp .lt 12, 3) := by decide +kernel
theorem dX5_needRange_5 : decode cX5_needRange 5 = .ok (.iload_n 0, 1) := by decide +kernel
theorem dX5_needRange_6 : decode cX5_needRange 6 = .ok (.iload_n 2, 1) := by decide +kernel
theorem dX5_needRange_7 : decode cX5_needRange 7 = .ok (.if_icmp .gt 7, 3) := by decide +kernel
theorem dX5_needRange_10 : decode cX5_needRange 10 = .ok (.iconst 1, 1) := by decide +kernel
theorem dX5_needRange_11 : decode cX5_needRange 11 = .ok (.goto 4, 3) := by decide +kernel
theorem dX5_needRange_14 : decode cX5_needRange 14 = .ok (.iconst 0, 1) := by decide +kernel
theorem dX5_needRange_15 : decode cX5_needRange 15 = .ok (.invokestatic 153, 3) := by decide +kernel
theorem dX5_needRange_18 : decode cX5_needRange 18 = .ok (.return_, 1) := by decide +kernel
theorem dX5_needArgument_0 : decode cX5_needArgument 0 = .ok (.iload_n 0, 1) := by decide +kernel
theorem dX5_needArgument_1 : decode cX5_needArgument 1 = .ok (.ifCond .ne 14, 3) := by decide +kernel
theorem dX5_needArgument_4 : decode cX5_needArgument 4 = .ok (.new 300, 3) := by decide +kernel
theorem dX5_needArgument_7 : decode cX5_needArgument 7 = .ok (.dup, 1) := by decide +kernel
theorem dX5_needArgument_8 : decode cX5_needArgument 8 = .ok (.ldc_w 302, 3) := by decide +kernel
theorem dX5_needArgument_11 : decode cX5_needArgument 11 = .ok (.invokespecial 304, 3) := by decide +kernel
theorem dX5_needArgument_14 : decode cX5_needArgument 14 = .ok (.athrow, 1) := by decide +kernel
theorem dX5_needArgument_15 : decode cX5_needArgument 15 = .ok (.return_, 1) := by decide +kernel
theorem dX5_needState_0 : decode cX5_needState 0 = .ok (.iload_n 0, 1) := by decide +kernel
theorem dX5_needState_1 : decode cX5_needState 1 = .ok (.ifCond .ne 14, 3) := by decide +kernel
theorem dX5_needState_4 : decode cX5_needState 4 = .ok (.new 305, 3) := by decide +kernel
theorem dX5_needState_7 : decode cX5_needState 7 = .ok (.dup, 1) := by decide +kernel
theorem dX5_needState_8 : decode cX5_needState 8 = .ok (.ldc_w 307, 3) := by decide +kernel
theorem dX5_needState_11 : decode cX5_needState 11 = .ok (.invokespecial 309, 3) := by decide +kernel
theorem dX5_needState_14 : decode cX5_needState 14 = .ok (.athrow, 1) := by decide +kernel
theorem dX5_needState_15 : decode cX5_needState 15 = .ok (.return_, 1) := by decide +kernel
theorem dX5_entry_0 : decode cX5_entry 0 = .ok (.aload_n 0, 1) := by decide +kernel
theorem dX5_entry_1 : decode cX5_entry 1 = .ok (.ifnull 19, 3) := by decide +kernel
theorem dX5_entry_4 : decode cX5_entry 4 = .ok (.iload_n 1, 1) := by decide +kernel
theorem dX5_entry_5 : decode cX5_entry 5 = .ok (.ifCond .lt 15, 3) := by decide +kernel
theorem dX5_entry_8 : decode cX5_entry 8 = .ok (.iload_n 1, 1) := by decide +kernel
theorem dX5_entry_9 : decode cX5_entry 9 = .ok (.aload_n 0, 1) := by decide +kernel
theorem dX5_entry_10 : decode cX5_entry 10 = .ok (.arraylength, 1) := by decide +kernel
theorem dX5_entry_11 : decode cX5_entry 11 = .ok (.if_icmp .ge 9, 3) := by decide +kernel
theorem dX5_entry_14 : decode cX5_entry 14 = .ok (.aload_n 0, 1) := by decide +kernel
theorem dX5_entry_15 : decode cX5_entry 15 = .ok (.iload_n 1, 1) := by decide +kernel
theorem dX5_entry_16 : decode cX5_entry 16 = .ok (.iaload, 1) := by decide +kernel
theorem dX5_entry_17 : decode cX5_entry 17 = .ok (.goto 4, 3) := by decide +kernel
theorem dX5_entry_20 : decode cX5_entry 20 = .ok (.iconst 0, 1) := by decide +kernel
theorem dX5_entry_21 : decode cX5_entry 21 = .ok (.ireturn, 1) := by decide +kernel
theorem dJ9_min_7cf53_0 : decode cJ9_min_7cf53 0 = .ok (.iload_n 0, 1) := by decide +kernel
theorem dJ9_min_7cf53_1 : decode cJ9_min_7cf53 1 = .ok (.iload_n 1, 1) := by decide +kernel
theorem dJ9_min_7cf53_2 : decode cJ9_min_7cf53 2 = .ok (.if_icmp .gt 7, 3) := by decide +kernel
theorem dJ9_min_7cf53_5 : decode cJ9_min_7cf53 5 = .ok (.iload_n 0, 1) := by decide +kernel
theorem dJ9_min_7cf53_6 : decode cJ9_min_7cf53 6 = .ok (.goto 4, 3) := by decide +kernel
theorem dJ9_min_7cf53_9 : decode cJ9_min_7cf53 9 = .ok (.iload_n 1, 1) := by decide +kernel
theorem dJ9_min_7cf53_10 : decode cJ9_min_7cf53 10 = .ok (.ireturn, 1) := by decide +kernel
theorem dL_cell_0 : decode cL_cell 0 = .ok (.iload_n 1, 1) := by decide +kernel
theorem dL_cell_1 : decode cL_cell 1 = .ok (.aload_n 0, 1) := by decide +kernel
theorem dL_cell_2 : decode cL_cell 2 = .ok (.arraylength, 1) := by decide +kernel
theorem dL_cell_3 : decode cL_cell 3 = .ok (.if_icmp .ge 9, 3) := by decide +kernel
theorem dL_cell_6 : decode cL_cell 6 = .ok (.aload_n 0, 1) := by decide +kernel
theorem dL_cell_7 : decode cL_cell 7 = .ok (.iload_n 1, 1) := by decide +kernel
theorem dL_cell_8 : decode cL_cell 8 = .ok (.iaload, 1) := by decide +kernel
theorem dL_cell_9 : decode cL_cell 9 = .ok (.goto 11, 3) := by decide +kernel
theorem dL_cell_12 : decode cL_cell 12 = .ok (.ldc 7, 2) := by decide +kernel
theorem dL_cell_14 : decode cL_cell 14 = .ok (.iload_n 1, 1) := by decide +kernel
theorem dL_cell_15 : decode cL_cell 15 = .ok (.imul, 1) := by decide +kernel
theorem dL_cell_16 : decode cL_cell 16 = .ok (.sipush 1709, 3) := by decide +kernel
theorem dL_cell_19 : decode cL_cell 19 = .ok (.iadd, 1) := by decide +kernel
theorem dL_cell_20 : decode cL_cell 20 = .ok (.ldc 8, 2) := by decide +kernel
theorem dL_cell_22 : decode cL_cell 22 = .ok (.iand, 1) := by decide +kernel
theorem dL_cell_23 : decode cL_cell 23 = .ok (.ireturn, 1) := by decide +kernel
set_option maxRecDepth 20000 in
theorem ggL_brands_X5_count : GoodIn wsL_brands wsX5_count := goodIn_ca (goodIn_r _ [5, 6, 7, 8, 9, 4, 10, 11, 12, 13, 14, 15, 16, 17, 18, 19, 20, 21, 22, 23, 24, 25, 26, 27, 28, 29, 30, 31, 32, 33, 34, 35, 36, 37, 38, 39, 40, 41, 42, 43, 44, 45, 46, 47, 48, 49, 89, 90, 91, 92, 93, 94, 95, 96, 97] (by decide +kernel) (by decide +kernel)) (goodIn_sub (fun _ h => List.mem_cons_of_mem _ (List.mem_append_left _ (List.mem_append_right _ h))) (by decide +kernel))
set_option maxRecDepth 20000 in
theorem gL_brands_X5_count : GoodIn wsL_brands (wsV RL 9 RX5 yX5_count wsX5_count) := goodIn_app (goodIn_of _ (by decide +kernel)) ggL_brands_X5_count
set_option maxRecDepth 20000 in
theorem ggL_brands_X5_brand : GoodIn wsL_brands wsX5_brand := goodIn_ca (goodIn_ca (goodIn_r _ [53, 7, 54, 55, 56, 4, 57, 58, 59, 60, 61, 62, 63, 47, 22, 48, 49, 33, 34, 35, 36, 37, 8, 9, 10, 11, 12, 13, 14, 15, 64, 65, 66, 25, 26, 27, 28, 29, 30, 31, 32, 42, 43, 44, 45, 89, 90, 91, 92, 93, 97] (by decide +kernel) (by decide +kernel)) (goodIn_sub (fun _ h => List.mem_cons_of_mem _ (List.mem_append_right _ h)) (by decide +kernel))) (goodIn_sub (fun _ h => List.mem_cons_of_mem _ (List.mem_append_left _ (List.mem_append_right _ h))) (by decide +kernel))
set_option maxRecDepth 20000 in
theorem gL_brands_X5_brand : GoodIn wsL_brands (wsV RL 15 RX5 yX5_brand wsX5_brand) := goodIn_app (goodIn_of _ (by decide +kernel)) ggL_brands_X5_brand
set_option maxRecDepth 20000 in
theorem ggL_brands_X5_shop : GoodIn wsL_brands wsX5_shop := goodIn_ca (goodIn_ca (goodIn_r _ [70, 7, 71, 72, 73, 4, 74, 58, 59, 75, 76, 77, 78, 47, 22, 48, 49, 33, 34, 35, 36, 37, 79, 80, 81, 11, 12, 13, 14, 15, 82, 83, 84, 85, 86, 87, 88, 29, 30, 31, 32, 89, 90, 91, 92, 93, 97] (by decide +kernel) (by decide +kernel)) (goodIn_sub (fun _ h => List.mem_cons_of_mem _ (List.mem_append_right _ h)) (by decide +kernel))) (goodIn_sub (fun _ h => List.mem_cons_of_mem _ (List.mem_append_left _ (List.mem_append_right _ h))) (by decide +kernel))
set_option maxRecDepth 20000 in
theorem gL_brands_X5_shop : GoodIn wsL_brands (wsV RL 19 RX5 yX5_shop wsX5_shop) := goodIn_app (goodIn_of _ (by decide +kernel)) ggL_brands_X5_shop
theorem dL_brands_0 : decode cL_brands 0 = .ok (.iconst 0, 1) := by decide +kernel
theorem dL_brands_1 : decode cL_brands 1 = .ok (.istore_n 2, 1) := by decide +kernel
theorem dL_brands_2 : decode cL_brands 2 = .ok (.iconst 0, 1) := by decide +kernel
theorem dL_brands_3 : decode cL_brands 3 = .ok (.istore_n 3, 1) := by decide +kernel
theorem dL_brands_4 : decode cL_brands 4 = .ok (.iconst 1, 1) := by decide +kernel
theorem dL_brands_5 : decode cL_brands 5 = .ok (.istore 4, 2) := by decide +kernel
theorem dL_brands_7 : decode cL_brands 7 = .ok (.iconst 0, 1) := by decide +kernel
theorem dL_brands_8 : decode cL_brands 8 = .ok (.istore 5, 2) := by decide +kernel
theorem dL_brands_10 : decode cL_brands 10 = .ok (.iload 5, 2) := by decide +kernel
theorem dL_brands_12 : decode cL_brands 12 = .ok (.aload_n 0, 1) := by decide +kernel
theorem dL_brands_13 : decode cL_brands 13 = .ok (.iconst 0, 1) := by decide +kernel
theorem dL_brands_14 : decode cL_brands 14 = .ok (.invokevirtual 9, 3) := by decide +kernel
theorem dL_brands_17 : decode cL_brands 17 = .ok (.if_icmp .ge 260, 3) := by decide +kernel
theorem dL_brands_20 : decode cL_brands 20 = .ok (.iload 4, 2) := by decide +kernel
theorem dL_brands_22 : decode cL_brands 22 = .ok (.ifCond .eq 255, 3) := by decide +kernel
theorem dL_brands_25 : decode cL_brands 25 = .ok (.iconst 0, 1) := by decide +kernel
theorem dL_brands_26 : decode cL_brands 26 = .ok (.istore 6, 2) := by decide +kernel
theorem dL_brands_28 : decode cL_brands 28 = .ok (.iconst 0, 1) := by decide +kernel
theorem dL_brands_29 : decode cL_brands 29 = .ok (.istore 7, 2) := by decide +kernel
theorem dL_brands_31 : decode cL_brands 31 = .ok (.iconst 0, 1) := by decide +kernel
theorem dL_brands_32 : decode cL_brands 32 = .ok (.istore 8, 2) := by decide +kernel
theorem dL_brands_34 : decode cL_brands 34 = .ok (.iconst 1, 1) := by decide +kernel
theorem dL_brands_35 : decode cL_brands 35 = .ok (.istore 9, 2) := by decide +kernel
theorem dL_brands_37 : decode cL_brands 37 = .ok (.iload 9, 2) := by decide +kernel
theorem dL_brands_39 : decode cL_brands 39 = .ok (.bipush 10, 2) := by decide +kernel
theorem dL_brands_41 : decode cL_brands 41 = .ok (.if_icmp .ge 45, 3) := by decide +kernel
theorem dL_brands_44 : decode cL_brands 44 = .ok (.iload 6, 2) := by decide +kernel
theorem dL_brands_46 : decode cL_brands 46 = .ok (.aload_n 0, 1) := by decide +kernel
theorem dL_brands_47 : decode cL_brands 47 = .ok (.iload 5, 2) := by decide +kernel
theorem dL_brands_49 : decode cL_brands 49 = .ok (.iload 9, 2) := by decide +kernel
theorem dL_brands_51 : decode cL_brands 51 = .ok (.invokevirtual 15, 3) := by decide +kernel
theorem dL_brands_54 : decode cL_brands 54 = .ok (.iadd, 1) := by decide +kernel
theorem dL_brands_55 : decode cL_brands 55 = .ok (.istore 6, 2) := by decide +kernel
theorem dL_brands_57 : decode cL_brands 57 = .ok (.iload 4, 2) := by decide +kernel
theorem dL_brands_59 : decode cL_brands 59 = .ok (.ifCond .eq 18, 3) := by decide +kernel
theorem dL_brands_62 : decode cL_brands 62 = .ok (.aload_n 0, 1) := by decide +kernel
theorem dL_brands_63 : decode cL_brands 63 = .ok (.iload 5, 2) := by decide +kernel
theorem dL_brands_65 : decode cL_brands 65 = .ok (.iload 9, 2) := by decide +kernel
theorem dL_brands_67 : decode cL_brands 67 = .ok (.invokevirtual 15, 3) := by decide +kernel
theorem dL_brands_70 : decode cL_brands 70 = .ok (.ifCond .lt 7, 3) := by decide +kernel
theorem dL_brands_73 : decode cL_brands 73 = .ok (.iconst 1, 1) := by decide +kernel
theorem dL_brands_74 : decode cL_brands 74 = .ok (.goto 4, 3) := by decide +kernel
theorem dL_brands_77 : decode cL_brands 77 = .ok (.iconst 0, 1) := by decide +kernel
theorem dL_brands_78 : decode cL_brands 78 = .ok (.istore 4, 2) := by decide +kernel
theorem dL_brands_80 : decode cL_brands 80 = .ok (.iinc 9 1, 3) := by decide +kernel
theorem dL_brands_83 : decode cL_brands 83 = .ok (.goto (-46), 3) := by decide +kernel
theorem dL_brands_86 : decode cL_brands 86 = .ok (.iconst 0, 1) := by decide +kernel
theorem dL_brands_87 : decode cL_brands 87 = .ok (.istore 9, 2) := by decide +kernel
theorem dL_brands_89 : decode cL_brands 89 = .ok (.iload 9, 2) := by decide +kernel
theorem dL_brands_91 : decode cL_brands 91 = .ok (.aload_n 0, 1) := by decide +kernel
theorem dL_brands_92 : decode cL_brands 92 = .ok (.iconst 1, 1) := by decide +kernel
theorem dL_brands_93 : decode cL_brands 93 = .ok (.invokevirtual 9, 3) := by decide +kernel
theorem dL_brands_96 : decode cL_brands 96 = .ok (.if_icmp .ge 81, 3) := by decide +kernel
theorem dL_brands_99 : decode cL_brands 99 = .ok (.iload 7, 2) := by decide +kernel
theorem dL_brands_101 : decode cL_brands 101 = .ok (.aload_n 0, 1) := by decide +kernel
theorem dL_brands_102 : decode cL_brands 102 = .ok (.iload 9, 2) := by decide +kernel
theorem dL_brands_104 : decode cL_brands 104 = .ok (.bipush 10, 2) := by decide +kernel
theorem dL_brands_106 : decode cL_brands 106 = .ok (.iload 5, 2) := by decide +kernel
theorem dL_brands_108 : decode cL_brands 108 = .ok (.iadd, 1) := by decide +kernel
theorem dL_brands_109 : decode cL_brands 109 = .ok (.invokevirtual 19, 3) := by decide +kernel
theorem dL_brands_112 : decode cL_brands 112 = .ok (.iadd, 1) := by decide +kernel
theorem dL_brands_113 : decode cL_brands 113 = .ok (.istore 7, 2) := by decide +kernel
theorem dL_brands_115 : decode cL_brands 115 = .ok (.iload 8, 2) := by decide +kernel
theorem dL_brands_117 : decode cL_brands 117 = .ok (.aload_n 0, 1) := by decide +kernel
theorem dL_brands_118 : decode cL_brands 118 = .ok (.iload 9, 2) := by decide +kernel
theorem dL_brands_120 : decode cL_brands 120 = .ok (.bipush 20, 2) := by decide +kernel
theorem dL_brands_122 : decode cL_brands 122 = .ok (.iload 5, 2) := by decide +kernel
theorem dL_brands_124 : decode cL_brands 124 = .ok (.iadd, 1) := by decide +kernel
theorem dL_brands_125 : decode cL_brands 125 = .ok (.invokevirtual 19, 3) := by decide +kernel
theorem dL_brands_128 : decode cL_brands 128 = .ok (.iadd, 1) := by decide +kernel
theorem dL_brands_129 : decode cL_brands 129 = .ok (.istore 8, 2) := by decide +kernel
theorem dL_brands_131 : decode cL_brands 131 = .ok (.iload 4, 2) := by decide +kernel
theorem dL_brands_133 : decode cL_brands 133 = .ok (.ifCond .eq 35, 3) := by decide +kernel
theorem dL_brands_136 : decode cL_brands 136 = .ok (.aload_n 0, 1) := by decide +kernel
theorem dL_brands_137 : decode cL_brands 137 = .ok (.iload 9, 2) := by decide +kernel
theorem dL_brands_139 : decode cL_brands 139 = .ok (.bipush 10, 2) := by decide +kernel
theorem dL_brands_141 : decode cL_brands 141 = .ok (.iload 5, 2) := by decide +kernel
theorem dL_brands_143 : decode cL_brands 143 = .ok (.iadd, 1) := by decide +kernel
theorem dL_brands_144 : decode cL_brands 144 = .ok (.invokevirtual 19, 3) := by decide +kernel
theorem dL_brands_147 : decode cL_brands 147 = .ok (.ifCond .lt 21, 3) := by decide +kernel
theorem dL_brands_150 : decode cL_brands 150 = .ok (.aload_n 0, 1) := by decide +kernel
theorem dL_brands_151 : decode cL_brands 151 = .ok (.iload 9, 2) := by decide +kernel
theorem dL_brands_153 : decode cL_brands 153 = .ok (.bipush 20, 2) := by decide +kernel
theorem dL_brands_155 : decode cL_brands 155 = .ok (.iload 5, 2) := by decide +kernel
theorem dL_brands_157 : decode cL_brands 157 = .ok (.iadd, 1) := by decide +kernel
theorem dL_brands_158 : decode cL_brands 158 = .ok (.invokevirtual 19, 3) := by decide +kernel
theorem dL_brands_161 : decode cL_brands 161 = .ok (.ifCond .lt 7, 3) := by decide +kernel
theorem dL_brands_164 : decode cL_brands 164 = .ok (.iconst 1, 1) := by decide +kernel
theorem dL_brands_165 : decode cL_brands 165 = .ok (.goto 4, 3) := by decide +kernel
theorem dL_brands_168 : decode cL_brands 168 = .ok (.iconst 0, 1) := by decide +kernel
theorem dL_brands_169 : decode cL_brands 169 = .ok (.istore 4, 2) := by decide +kernel
theorem dL_brands_171 : decode cL_brands 171 = .ok (.iinc 9 1, 3) := by decide +kernel
theorem dL_brands_174 : decode cL_brands 174 = .ok (.goto (-85), 3) := by decide +kernel
theorem dL_brands_177 : decode cL_brands 177 = .ok (.iload_n 2, 1) := by decide +kernel
theorem dL_brands_178 : decode cL_brands 178 = .ok (.aload_n 0, 1) := by decide +kernel
theorem dL_brands_179 : decode cL_brands 179 = .ok (.iload 5, 2) := by decide +kernel
theorem dL_brands_181 : decode cL_brands 181 = .ok (.iconst 5, 1) := by decide +kernel
theorem dL_brands_182 : decode cL_brands 182 = .ok (.invokevirtual 15, 3) := by decide +kernel
theorem dL_brands_185 : decode cL_brands 185 = .ok (.iadd, 1) := by decide +kernel
theorem dL_brands_186 : decode cL_brands 186 = .ok (.istore_n 2, 1) := by decide +kernel
theorem dL_brands_187 : decode cL_brands 187 = .ok (.iload_n 3, 1) := by decide +kernel
theorem dL_brands_188 : decode cL_brands 188 = .ok (.aload_n 0, 1) := by decide +kernel
theorem dL_brands_189 : decode cL_brands 189 = .ok (.iload 5, 2) := by decide +kernel
theorem dL_brands_191 : decode cL_brands 191 = .ok (.bipush 6, 2) := by decide +kernel
theorem dL_brands_193 : decode cL_brands 193 = .ok (.invokevirtual 15, 3) := by decide +kernel
theorem dL_brands_196 : decode cL_brands 196 = .ok (.iadd, 1) := by decide +kernel
theorem dL_brands_197 : decode cL_brands 197 = .ok (.istore_n 3, 1) := by decide +kernel
theorem dL_brands_198 : decode cL_brands 198 = .ok (.iload 4, 2) := by decide +kernel
theorem dL_brands_200 : decode cL_brands 200 = .ok (.ifCond .eq 68, 3) := by decide +kernel
theorem dL_brands_203 : decode cL_brands 203 = .ok (.iload 6, 2) := by decide +kernel
theorem dL_brands_205 : decode cL_brands 205 = .ok (.aload_n 0, 1) := by decide +kernel
theorem dL_brands_206 : decode cL_brands 206 = .ok (.iload 5, 2) := by decide +kernel
theorem dL_brands_208 : decode cL_brands 208 = .ok (.bipush 11, 2) := by decide +kernel
theorem dL_brands_210 : decode cL_brands 210 = .ok (.invokevirtual 15, 3) := by decide +kernel
theorem dL_brands_213 : decode cL_brands 213 = .ok (.iadd, 1) := by decide +kernel
theorem dL_brands_214 : decode cL_brands 214 = .ok (.aload_n 1, 1) := by decide +kernel
theorem dL_brands_215 : decode cL_brands 215 = .ok (.iload 5, 2) := by decide +kernel
theorem dL_brands_217 : decode cL_brands 217 = .ok (.iaload, 1) := by decide +kernel
theorem dL_brands_218 : decode cL_brands 218 = .ok (.if_icmp .ne 50, 3) := by decide +kernel
theorem dL_brands_221 : decode cL_brands 221 = .ok (.iload 7, 2) := by decide +kernel
theorem dL_brands_223 : decode cL_brands 223 = .ok (.aload_n 0, 1) := by decide +kernel
theorem dL_brands_224 : decode cL_brands 224 = .ok (.iload 5, 2) := by decide +kernel
theorem dL_brands_226 : decode cL_brands 226 = .ok (.iconst 3, 1) := by decide +kernel
theorem dL_brands_227 : decode cL_brands 227 = .ok (.invokevirtual 15, 3) := by decide +kernel
theorem dL_brands_230 : decode cL_brands 230 = .ok (.if_icmp .ne 38, 3) := by decide +kernel
theorem dL_brands_233 : decode cL_brands 233 = .ok (.iload 8, 2) := by decide +kernel
theorem dL_brands_235 : decode cL_brands 235 = .ok (.aload_n 0, 1) := by decide +kernel
theorem dL_brands_236 : decode cL_brands 236 = .ok (.iload 5, 2) := by decide +kernel
theorem dL_brands_238 : decode cL_brands 238 = .ok (.iconst 4, 1) := by decide +kernel
theorem dL_brands_239 : decode cL_brands 239 = .ok (.invokevirtual 15, 3) := by decide +kernel
theorem dL_brands_242 : decode cL_brands 242 = .ok (.if_icmp .ne 26, 3) := by decide +kernel
theorem dL_brands_245 : decode cL_brands 245 = .ok (.aload_n 0, 1) := by decide +kernel
theorem dL_brands_246 : decode cL_brands 246 = .ok (.iload 5, 2) := by decide +kernel
theorem dL_brands_248 : decode cL_brands 248 = .ok (.bipush 9, 2) := by decide +kernel
theorem dL_brands_250 : decode cL_brands 250 = .ok (.invokevirtual 15, 3) := by decide +kernel
theorem dL_brands_253 : decode cL_brands 253 = .ok (.aload_n 0, 1) := by decide +kernel
theorem dL_brands_254 : decode cL_brands 254 = .ok (.iload 5, 2) := by decide +kernel
theorem dL_brands_256 : decode cL_brands 256 = .ok (.bipush 10, 2) := by decide +kernel
theorem dL_brands_258 : decode cL_brands 258 = .ok (.invokevirtual 15, 3) := by decide +kernel
theorem dL_brands_261 : decode cL_brands 261 = .ok (.if_icmp .gt 7, 3) := by decide +kernel
theorem dL_brands_264 : decode cL_brands 264 = .ok (.iconst 1, 1) := by decide +kernel
theorem dL_brands_265 : decode cL_brands 265 = .ok (.goto 4, 3) := by decide +kernel
theorem dL_brands_268 : decode cL_brands 268 = .ok (.iconst 0, 1) := by decide +kernel
theorem dL_brands_269 : decode cL_brands 269 = .ok (.istore 4, 2) := by decide +kernel
theorem dL_brands_271 : decode cL_brands 271 = .ok (.iinc 5 1, 3) := by decide +kernel
theorem dL_brands_274 : decode cL_brands 274 = .ok (.goto (-264), 3) := by decide +kernel
theorem dL_brands_277 : decode cL_brands 277 = .ok (.iload 4, 2) := by decide +kernel
theorem dL_brands_279 : decode cL_brands 279 = .ok (.ifCond .eq 27, 3) := by decide +kernel
theorem dL_brands_282 : decode cL_brands 282 = .ok (.iload_n 2, 1) := by decide +kernel
theorem dL_brands_283 : decode cL_brands 283 = .ok (.aload_n 0, 1) := by decide +kernel
theorem dL_brands_284 : decode cL_brands 284 = .ok (.bipush 7, 2) := by decide +kernel
theorem dL_brands_286 : decode cL_brands 286 = .ok (.invokevirtual 9, 3) := by decide +kernel
theorem dL_brands_289 : decode cL_brands 289 = .ok (.if_icmp .ne 17, 3) := by decide +kernel
theorem dL_brands_292 : decode cL_brands 292 = .ok (.iload_n 3, 1) := by decide +kernel
theorem dL_brands_293 : decode cL_brands 293 = .ok (.aload_n 0, 1) := by decide +kernel
theorem dL_brands_294 : decode cL_brands 294 = .ok (.bipush 8, 2) := by decide +kernel
theorem dL_brands_296 : decode cL_brands 296 = .ok (.invokevirtual 9, 3) := by decide +kernel
theorem dL_brands_299 : decode cL_brands 299 = .ok (.if_icmp .ne 7, 3) := by decide +kernel
theorem dL_brands_302 : decode cL_brands 302 = .ok (.iconst 1, 1) := by decide +kernel
theorem dL_brands_303 : decode cL_brands 303 = .ok (.goto 4, 3) := by decide +kernel
theorem dL_brands_306 : decode cL_brands 306 = .ok (.iconst 0, 1) := by decide +kernel
theorem dL_brands_307 : decode cL_brands 307 = .ok (.ireturn, 1) := by decide +kernel
set_option maxRecDepth 20000 in
theorem ggL_money_X5_count : GoodIn wsL_money wsX5_count := goodIn_ca (goodIn_r _ [5, 6, 7, 8, 9, 4, 10, 11, 12, 13, 14, 15, 16, 17, 18, 19, 20, 21, 22, 23, 24, 25, 26, 27, 28, 29, 30, 31, 32, 33, 34, 35, 36, 37, 38, 39, 40, 41, 42, 43, 44, 45, 46, 47, 48, 49, 99, 100, 101, 102, 103, 104, 105, 106, 107] (by decide +kernel) (by decide +kernel)) (goodIn_sub (fun _ h => List.mem_cons_of_mem _ (List.mem_append_left _ (List.mem_append_right _ h))) (by decide +kernel))
set_option maxRecDepth 20000 in
theorem gL_money_X5_count : GoodIn wsL_money (wsV RL 9 RX5 yX5_count wsX5_count) := goodIn_app (goodIn_of _ (by decide +kernel)) ggL_money_X5_count
set_option maxRecDepth 20000 in
theorem ggL_money_X5_setting : GoodIn wsL_money wsX5_setting := goodIn_ca (goodIn_r _ [53, 7, 54, 55, 4, 56, 57, 58, 59, 22, 60, 61, 33, 34, 35, 36, 37, 99, 100, 101, 102, 103, 107] (by decide +kernel) (by decide +kernel)) (goodIn_sub (fun _ h => List.mem_cons_of_mem _ (List.mem_append_right _ h)) (by decide +kernel))
set_option maxRecDepth 20000 in
theorem gL_money_X5_setting : GoodIn wsL_money (wsV RL 22 RX5 yX5_setting wsX5_setting) := goodIn_app (goodIn_of _ (by decide +kernel)) ggL_money_X5_setting
set_option maxRecDepth 20000 in
theorem ggL_money_X5_brand : GoodIn wsL_money wsX5_brand := goodIn_ca (goodIn_ca (goodIn_r _ [65, 7, 66, 67, 68, 4, 69, 57, 58, 70, 71, 72, 73, 47, 22, 48, 49, 33, 34, 35, 36, 37, 8, 9, 10, 11, 12, 13, 14, 15, 74, 75, 76, 25, 26, 27, 28, 29, 30, 31, 32, 42, 43, 44, 45, 99, 100, 101, 102, 103, 107] (by decide +kernel) (by decide +kernel)) (goodIn_sub (fun _ h => List.mem_cons_of_mem _ (List.mem_append_right _ h)) (by decide +kernel))) (goodIn_sub (fun _ h => List.mem_cons_of_mem _ (List.mem_append_left _ (List.mem_append_right _ h))) (by decide +kernel))
set_option maxRecDepth 20000 in
theorem gL_money_X5_brand : GoodIn wsL_money (wsV RL 15 RX5 yX5_brand wsX5_brand) := goodIn_app (goodIn_of _ (by decide +kernel)) ggL_money_X5_brand
set_option maxRecDepth 20000 in
theorem ggL_money_X5_shop : GoodIn wsL_money wsX5_shop := goodIn_ca (goodIn_ca (goodIn_r _ [80, 7, 81, 82, 83, 4, 84, 57, 58, 85, 86, 87, 88, 47, 22, 48, 49, 33, 34, 35, 36, 37, 89, 90, 91, 11, 12, 13, 14, 15, 92, 93, 94, 95, 96, 97, 98, 29, 30, 31, 32, 99, 100, 101, 102, 103, 107] (by decide +kernel) (by decide +kernel)) (goodIn_sub (fun _ h => List.mem_cons_of_mem _ (List.mem_append_right _ h)) (by decide +kernel))) (goodIn_sub (fun _ h => List.mem_cons_of_mem _ (List.mem_append_left _ (List.mem_append_right _ h))) (by decide +kernel))
set_option maxRecDepth 20000 in
theorem gL_money_X5_shop : GoodIn wsL_money (wsV RL 19 RX5 yX5_shop wsX5_shop) := goodIn_app (goodIn_of _ (by decide +kernel)) ggL_money_X5_shop
theorem dL_money_0 : decode cL_money 0 = .ok (.aload_n 0, 1) := by decide +kernel
theorem dL_money_1 : decode cL_money 1 = .ok (.iconst 3, 1) := by decide +kernel
theorem dL_money_2 : decode cL_money 2 = .ok (.invokevirtual 9, 3) := by decide +kernel
theorem dL_money_5 : decode cL_money 5 = .ok (.aload_n 0, 1) := by decide +kernel
theorem dL_money_6 : decode cL_money 6 = .ok (.iconst 3, 1) := by decide +kernel
theorem dL_money_7 : decode cL_money 7 = .ok (.invokevirtual 22, 3) := by decide +kernel
theorem dL_money_10 : decode cL_money 10 = .ok (.imul, 1) := by decide +kernel
theorem dL_money_11 : decode cL_money 11 = .ok (.aload_n 0, 1) := by decide +kernel
theorem dL_money_12 : decode cL_money 12 = .ok (.iconst 5, 1) := by decide +kernel
theorem dL_money_13 : decode cL_money 13 = .ok (.invokevirtual 9, 3) := by decide +kernel
theorem dL_money_16 : decode cL_money 16 = .ok (.iadd, 1) := by decide +kernel
theorem dL_money_17 : decode cL_money 17 = .ok (.istore_n 2, 1) := by decide +kernel
theorem dL_money_18 : decode cL_money 18 = .ok (.iconst 0, 1) := by decide +kernel
theorem dL_money_19 : decode cL_money 19 = .ok (.istore_n 3, 1) := by decide +kernel
theorem dL_money_20 : decode cL_money 20 = .ok (.iload_n 3, 1) := by decide +kernel
theorem dL_money_21 : decode cL_money 21 = .ok (.aload_n 0, 1) := by decide +kernel
theorem dL_money_22 : decode cL_money 22 = .ok (.iconst 0, 1) := by decide +kernel
theorem dL_money_23 : decode cL_money 23 = .ok (.invokevirtual 9, 3) := by decide +kernel
theorem dL_money_26 : decode cL_money 26 = .ok (.if_icmp .ge 43, 3) := by decide +kernel
theorem dL_money_29 : decode cL_money 29 = .ok (.iload_n 2, 1) := by decide +kernel
theorem dL_money_30 : decode cL_money 30 = .ok (.aload_n 0, 1) := by decide +kernel
theorem dL_money_31 : decode cL_money 31 = .ok (.iload_n 3, 1) := by decide +kernel
theorem dL_money_32 : decode cL_money 32 = .ok (.iconst 3, 1) := by decide +kernel
theorem dL_money_33 : decode cL_money 33 = .ok (.invokevirtual 15, 3) := by decide +kernel
theorem dL_money_36 : decode cL_money 36 = .ok (.aload_n 0, 1) := by decide +kernel
theorem dL_money_37 : decode cL_money 37 = .ok (.iload_n 3, 1) := by decide +kernel
theorem dL_money_38 : decode cL_money 38 = .ok (.iconst 4, 1) := by decide +kernel
theorem dL_money_39 : decode cL_money 39 = .ok (.invokevirtual 15, 3) := by decide +kernel
theorem dL_money_42 : decode cL_money 42 = .ok (.iadd, 1) := by decide +kernel
theorem dL_money_43 : decode cL_money 43 = .ok (.aload_n 0, 1) := by decide +kernel
theorem dL_money_44 : decode cL_money 44 = .ok (.iload_n 3, 1) := by decide +kernel
theorem dL_money_45 : decode cL_money 45 = .ok (.iconst 5, 1) := by decide +kernel
theorem dL_money_46 : decode cL_money 46 = .ok (.invokevirtual 15, 3) := by decide +kernel
theorem dL_money_49 : decode cL_money 49 = .ok (.iadd, 1) := by decide +kernel
theorem dL_money_50 : decode cL_money 50 = .ok (.aload_n 0, 1) := by decide +kernel
theorem dL_money_51 : decode cL_money 51 = .ok (.aload_n 0, 1) := by decide +kernel
theorem dL_money_52 : decode cL_money 52 = .ok (.iload_n 3, 1) := by decide +kernel
theorem dL_money_53 : decode cL_money 53 = .ok (.iconst 0, 1) := by decide +kernel
theorem dL_money_54 : decode cL_money 54 = .ok (.invokevirtual 15, 3) := by decide +kernel
theorem dL_money_57 : decode cL_money 57 = .ok (.invokevirtual 22, 3) := by decide +kernel
theorem dL_money_60 : decode cL_money 60 = .ok (.imul, 1) := by decide +kernel
theorem dL_money_61 : decode cL_money 61 = .ok (.iadd, 1) := by decide +kernel
theorem dL_money_62 : decode cL_money 62 = .ok (.istore_n 2, 1) := by decide +kernel
theorem dL_money_63 : decode cL_money 63 = .ok (.iinc 3 1, 3) := by decide +kernel
theorem dL_money_66 : decode cL_money 66 = .ok (.goto (-46), 3) := by decide +kernel
theorem dL_money_69 : decode cL_money 69 = .ok (.iconst 0, 1) := by decide +kernel
theorem dL_money_70 : decode cL_money 70 = .ok (.istore_n 3, 1) := by decide +kernel
theorem dL_money_71 : decode cL_money 71 = .ok (.iconst 0, 1) := by decide +kernel
theorem dL_money_72 : decode cL_money 72 = .ok (.istore 4, 2) := by decide +kernel
theorem dL_money_74 : decode cL_money 74 = .ok (.iconst 0, 1) := by decide +kernel
theorem dL_money_75 : decode cL_money 75 = .ok (.istore 5, 2) := by decide +kernel
theorem dL_money_77 : decode cL_money 77 = .ok (.iconst 0, 1) := by decide +kernel
theorem dL_money_78 : decode cL_money 78 = .ok (.istore 6, 2) := by decide +kernel
theorem dL_money_80 : decode cL_money 80 = .ok (.iconst 0, 1) := by decide +kernel
theorem dL_money_81 : decode cL_money 81 = .ok (.istore 7, 2) := by decide +kernel
theorem dL_money_83 : decode cL_money 83 = .ok (.iconst 0, 1) := by decide +kernel
theorem dL_money_84 : decode cL_money 84 = .ok (.istore 8, 2) := by decide +kernel
theorem dL_money_86 : decode cL_money 86 = .ok (.iconst 1, 1) := by decide +kernel
theorem dL_money_87 : decode cL_money 87 = .ok (.istore 9, 2) := by decide +kernel
theorem dL_money_89 : decode cL_money 89 = .ok (.iconst 0, 1) := by decide +kernel
theorem dL_money_90 : decode cL_money 90 = .ok (.istore 10, 2) := by decide +kernel
theorem dL_money_92 : decode cL_money 92 = .ok (.iload 10, 2) := by decide +kernel
theorem dL_money_94 : decode cL_money 94 = .ok (.aload_n 0, 1) := by decide +kernel
theorem dL_money_95 : decode cL_money 95 = .ok (.iconst 1, 1) := by decide +kernel
theorem dL_money_96 : decode cL_money 96 = .ok (.invokevirtual 9, 3) := by decide +kernel
theorem dL_money_99 : decode cL_money 99 = .ok (.if_icmp .ge 100, 3) := by decide +kernel
theorem dL_money_102 : decode cL_money 102 = .ok (.iload_n 3, 1) := by decide +kernel
theorem dL_money_103 : decode cL_money 103 = .ok (.aload_n 0, 1) := by decide +kernel
theorem dL_money_104 : decode cL_money 104 = .ok (.iload 10, 2) := by decide +kernel
theorem dL_money_106 : decode cL_money 106 = .ok (.iconst 0, 1) := by decide +kernel
theorem dL_money_107 : decode cL_money 107 = .ok (.invokevirtual 19, 3) := by decide +kernel
theorem dL_money_110 : decode cL_money 110 = .ok (.iadd, 1) := by decide +kernel
theorem dL_money_111 : decode cL_money 111 = .ok (.istore_n 3, 1) := by decide +kernel
theorem dL_money_112 : decode cL_money 112 = .ok (.iload 4, 2) := by decide +kernel
theorem dL_money_114 : decode cL_money 114 = .ok (.aload_n 0, 1) := by decide +kernel
theorem dL_money_115 : decode cL_money 115 = .ok (.iload 10, 2) := by decide +kernel
theorem dL_money_117 : decode cL_money 117 = .ok (.iconst 4, 1) := by decide +kernel
theorem dL_money_118 : decode cL_money 118 = .ok (.invokevirtual 19, 3) := by decide +kernel
theorem dL_money_121 : decode cL_money 121 = .ok (.iadd, 1) := by decide +kernel
theorem dL_money_122 : decode cL_money 122 = .ok (.istore 4, 2) := by decide +kernel
theorem dL_money_124 : decode cL_money 124 = .ok (.iload 5, 2) := by decide +kernel
theorem dL_money_126 : decode cL_money 126 = .ok (.aload_n 0, 1) := by decide +kernel
theorem dL_money_127 : decode cL_money 127 = .ok (.iload 10, 2) := by decide +kernel
theorem dL_money_129 : decode cL_money 129 = .ok (.iconst 5, 1) := by decide +kernel
theorem dL_money_130 : decode cL_money 130 = .ok (.invokevirtual 19, 3) := by decide +kernel
theorem dL_money_133 : decode cL_money 133 = .ok (.iadd, 1) := by decide +kernel
theorem dL_money_134 : decode cL_money 134 = .ok (.istore 5, 2) := by decide +kernel
theorem dL_money_136 : decode cL_money 136 = .ok (.iload 6, 2) := by decide +kernel
theorem dL_money_138 : decode cL_money 138 = .ok (.aload_n 0, 1) := by decide +kernel
theorem dL_money_139 : decode cL_money 139 = .ok (.iload 10, 2) := by decide +kernel
theorem dL_money_141 : decode cL_money 141 = .ok (.iconst 1, 1) := by decide +kernel
theorem dL_money_142 : decode cL_money 142 = .ok (.invokevirtual 19, 3) := by decide +kernel
theorem dL_money_145 : decode cL_money 145 = .ok (.iadd, 1) := by decide +kernel
theorem dL_money_146 : decode cL_money 146 = .ok (.istore 6, 2) := by decide +kernel
theorem dL_money_148 : decode cL_money 148 = .ok (.iload 7, 2) := by decide +kernel
theorem dL_money_150 : decode cL_money 150 = .ok (.aload_n 0, 1) := by decide +kernel
theorem dL_money_151 : decode cL_money 151 = .ok (.iload 10, 2) := by decide +kernel
theorem dL_money_153 : decode cL_money 153 = .ok (.bipush 6, 2) := by decide +kernel
theorem dL_money_155 : decode cL_money 155 = .ok (.invokevirtual 19, 3) := by decide +kernel
theorem dL_money_158 : decode cL_money 158 = .ok (.iadd, 1) := by decide +kernel
theorem dL_money_159 : decode cL_money 159 = .ok (.istore 7, 2) := by decide +kernel
theorem dL_money_161 : decode cL_money 161 = .ok (.iload 9, 2) := by decide +kernel
theorem dL_money_163 : decode cL_money 163 = .ok (.ifCond .eq 27, 3) := by decide +kernel
theorem dL_money_166 : decode cL_money 166 = .ok (.aload_n 0, 1) := by decide +kernel
theorem dL_money_167 : decode cL_money 167 = .ok (.iload 10, 2) := by decide +kernel
theorem dL_money_169 : decode cL_money 169 = .ok (.iconst 0, 1) := by decide +kernel
theorem dL_money_170 : decode cL_money 170 = .ok (.invokevirtual 19, 3) := by decide +kernel
theorem dL_money_173 : decode cL_money 173 = .ok (.ifCond .lt 17, 3) := by decide +kernel
theorem dL_money_176 : decode cL_money 176 = .ok (.aload_n 0, 1) := by decide +kernel
theorem dL_money_177 : decode cL_money 177 = .ok (.iload 10, 2) := by decide +kernel
theorem dL_money_179 : decode cL_money 179 = .ok (.iconst 1, 1) := by decide +kernel
theorem dL_money_180 : decode cL_money 180 = .ok (.invokevirtual 19, 3) := by decide +kernel
theorem dL_money_183 : decode cL_money 183 = .ok (.ifCond .lt 7, 3) := by decide +kernel
theorem dL_money_186 : decode cL_money 186 = .ok (.iconst 1, 1) := by decide +kernel
theorem dL_money_187 : decode cL_money 187 = .ok (.goto 4, 3) := by decide +kernel
theorem dL_money_190 : decode cL_money 190 = .ok (.iconst 0, 1) := by decide +kernel
theorem dL_money_191 : decode cL_money 191 = .ok (.istore 9, 2) := by decide +kernel
theorem dL_money_193 : decode cL_money 193 = .ok (.iinc 10 1, 3) := by decide +kernel
theorem dL_money_196 : decode cL_money 196 = .ok (.goto (-104), 3) := by decide +kernel
theorem dL_money_199 : decode cL_money 199 = .ok (.iconst 0, 1) := by decide +kernel
theorem dL_money_200 : decode cL_money 200 = .ok (.istore 10, 2) := by decide +kernel
theorem dL_money_202 : decode cL_money 202 = .ok (.iload 10, 2) := by decide +kernel
theorem dL_money_204 : decode cL_money 204 = .ok (.aload_n 0, 1) := by decide +kernel
theorem dL_money_205 : decode cL_money 205 = .ok (.iconst 0, 1) := by decide +kernel
theorem dL_money_206 : decode cL_money 206 = .ok (.invokevirtual 9, 3) := by decide +kernel
theorem dL_money_209 : decode cL_money 209 = .ok (.if_icmp .ge 63, 3) := by decide +kernel
theorem dL_money_212 : decode cL_money 212 = .ok (.iload 7, 2) := by decide +kernel
theorem dL_money_214 : decode cL_money 214 = .ok (.aload_n 0, 1) := by decide +kernel
theorem dL_money_215 : decode cL_money 215 = .ok (.iload 10, 2) := by decide +kernel
theorem dL_money_217 : decode cL_money 217 = .ok (.iconst 5, 1) := by decide +kernel
theorem dL_money_218 : decode cL_money 218 = .ok (.invokevirtual 15, 3) := by decide +kernel
theorem dL_money_221 : decode cL_money 221 = .ok (.aload_n 0, 1) := by decide +kernel
theorem dL_money_222 : decode cL_money 222 = .ok (.iload 10, 2) := by decide +kernel
theorem dL_money_224 : decode cL_money 224 = .ok (.bipush 8, 2) := by decide +kernel
theorem dL_money_226 : decode cL_money 226 = .ok (.invokevirtual 15, 3) := by decide +kernel
theorem dL_money_229 : decode cL_money 229 = .ok (.iadd, 1) := by decide +kernel
theorem dL_money_230 : decode cL_money 230 = .ok (.isub, 1) := by decide +kernel
theorem dL_money_231 : decode cL_money 231 = .ok (.istore 7, 2) := by decide +kernel
theorem dL_money_233 : decode cL_money 233 = .ok (.iload 8, 2) := by decide +kernel
theorem dL_money_235 : decode cL_money 235 = .ok (.aload_n 0, 1) := by decide +kernel
theorem dL_money_236 : decode cL_money 236 = .ok (.iload 10, 2) := by decide +kernel
theorem dL_money_238 : decode cL_money 238 = .ok (.iconst 5, 1) := by decide +kernel
theorem dL_money_239 : decode cL_money 239 = .ok (.invokevirtual 15, 3) := by decide +kernel
theorem dL_money_242 : decode cL_money 242 = .ok (.aload_n 0, 1) := by decide +kernel
theorem dL_money_243 : decode cL_money 243 = .ok (.iload 10, 2) := by decide +kernel
theorem dL_money_245 : decode cL_money 245 = .ok (.bipush 8, 2) := by decide +kernel
theorem dL_money_247 : decode cL_money 247 = .ok (.invokevirtual 15, 3) := by decide +kernel
theorem dL_money_250 : decode cL_money 250 = .ok (.iadd, 1) := by decide +kernel
theorem dL_money_251 : decode cL_money 251 = .ok (.aload_n 0, 1) := by decide +kernel
theorem dL_money_252 : decode cL_money 252 = .ok (.aload_n 0, 1) := by decide +kernel
theorem dL_money_253 : decode cL_money 253 = .ok (.iload 10, 2) := by decide +kernel
theorem dL_money_255 : decode cL_money 255 = .ok (.iconst 0, 1) := by decide +kernel
theorem dL_money_256 : decode cL_money 256 = .ok (.invokevirtual 15, 3) := by decide +kernel
theorem dL_money_259 : decode cL_money 259 = .ok (.invokevirtual 22, 3) := by decide +kernel
theorem dL_money_262 : decode cL_money 262 = .ok (.imul, 1) := by decide +kernel
theorem dL_money_263 : decode cL_money 263 = .ok (.iadd, 1) := by decide +kernel
theorem dL_money_264 : decode cL_money 264 = .ok (.istore 8, 2) := by decide +kernel
theorem dL_money_266 : decode cL_money 266 = .ok (.iinc 10 1, 3) := by decide +kernel
theorem dL_money_269 : decode cL_money 269 = .ok (.goto (-67), 3) := by decide +kernel
theorem dL_money_272 : decode cL_money 272 = .ok (.iload 9, 2) := by decide +kernel
theorem dL_money_274 : decode cL_money 274 = .ok (.ifCond .eq 75, 3) := by decide +kernel
theorem dL_money_277 : decode cL_money 277 = .ok (.iload_n 2, 1) := by decide +kernel
theorem dL_money_278 : decode cL_money 278 = .ok (.aload_n 0, 1) := by decide +kernel
theorem dL_money_279 : decode cL_money 279 = .ok (.iconst 4, 1) := by decide +kernel
theorem dL_money_280 : decode cL_money 280 = .ok (.invokevirtual 9, 3) := by decide +kernel
theorem dL_money_283 : decode cL_money 283 = .ok (.if_icmp .ne 66, 3) := by decide +kernel
theorem dL_money_286 : decode cL_money 286 = .ok (.iload 4, 2) := by decide +kernel
theorem dL_money_288 : decode cL_money 288 = .ok (.aload_n 0, 1) := by decide +kernel
theorem dL_money_289 : decode cL_money 289 = .ok (.iconst 4, 1) := by decide +kernel
theorem dL_money_290 : decode cL_money 290 = .ok (.invokevirtual 9, 3) := by decide +kernel
theorem dL_money_293 : decode cL_money 293 = .ok (.if_icmp .ne 56, 3) := by decide +kernel
theorem dL_money_296 : decode cL_money 296 = .ok (.iload 5, 2) := by decide +kernel
theorem dL_money_298 : decode cL_money 298 = .ok (.aload_n 0, 1) := by decide +kernel
theorem dL_money_299 : decode cL_money 299 = .ok (.bipush 6, 2) := by decide +kernel
theorem dL_money_301 : decode cL_money 301 = .ok (.invokevirtual 9, 3) := by decide +kernel
theorem dL_money_304 : decode cL_money 304 = .ok (.if_icmp .ne 45, 3) := by decide +kernel
theorem dL_money_307 : decode cL_money 307 = .ok (.aload_n 0, 1) := by decide +kernel
theorem dL_money_308 : decode cL_money 308 = .ok (.bipush 6, 2) := by decide +kernel
theorem dL_money_310 : decode cL_money 310 = .ok (.invokevirtual 9, 3) := by decide +kernel
theorem dL_money_313 : decode cL_money 313 = .ok (.ifCond .lt 36, 3) := by decide +kernel
theorem dL_money_316 : decode cL_money 316 = .ok (.iload 6, 2) := by decide +kernel
theorem dL_money_318 : decode cL_money 318 = .ok (.aload_n 0, 1) := by decide +kernel
theorem dL_money_319 : decode cL_money 319 = .ok (.iconst 3, 1) := by decide +kernel
theorem dL_money_320 : decode cL_money 320 = .ok (.invokevirtual 9, 3) := by decide +kernel
theorem dL_money_323 : decode cL_money 323 = .ok (.if_icmp .ne 26, 3) := by decide +kernel
theorem dL_money_326 : decode cL_money 326 = .ok (.iload 7, 2) := by decide +kernel
theorem dL_money_328 : decode cL_money 328 = .ok (.ifCond .ne 21, 3) := by decide +kernel
theorem dL_money_331 : decode cL_money 331 = .ok (.iload_n 3, 1) := by decide +kernel
theorem dL_money_332 : decode cL_money 332 = .ok (.iload_n 1, 1) := by decide +kernel
theorem dL_money_333 : decode cL_money 333 = .ok (.iload 4, 2) := by decide +kernel
theorem dL_money_335 : decode cL_money 335 = .ok (.isub, 1) := by decide +kernel
theorem dL_money_336 : decode cL_money 336 = .ok (.iload 5, 2) := by decide +kernel
theorem dL_money_338 : decode cL_money 338 = .ok (.isub, 1) := by decide +kernel
theorem dL_money_339 : decode cL_money 339 = .ok (.iload 8, 2) := by decide +kernel
theorem dL_money_341 : decode cL_money 341 = .ok (.iadd, 1) := by decide +kernel
theorem dL_money_342 : decode cL_money 342 = .ok (.if_icmp .ne 7, 3) := by decide +kernel
theorem dL_money_345 : decode cL_money 345 = .ok (.iconst 1, 1) := by decide +kernel
theorem dL_money_346 : decode cL_money 346 = .ok (.goto 4, 3) := by decide +kernel
theorem dL_money_349 : decode cL_money 349 = .ok (.iconst 0, 1) := by decide +kernel
theorem dL_money_350 : decode cL_money 350 = .ok (.ireturn, 1) := by decide +kernel
set_option maxRecDepth 20000 in
theorem ggL_swaps_X5_brand : GoodIn wsL_swaps wsX5_brand := goodIn_ca (goodIn_ca (goodIn_r _ [5, 6, 7, 8, 9, 4, 10, 11, 12, 13, 14, 15, 16, 17, 18, 19, 20, 21, 22, 23, 24, 25, 26, 27, 28, 29, 30, 31, 32, 33, 34, 35, 36, 37, 38, 39, 40, 41, 42, 43, 44, 45, 46, 47, 48, 96, 97, 98, 99, 100, 101] (by decide +kernel) (by decide +kernel)) (goodIn_sub (fun _ h => List.mem_cons_of_mem _ (List.mem_append_left _ (List.mem_append_left _ (List.mem_append_right _ h)))) (by decide +kernel))) (goodIn_sub (fun _ h => List.mem_cons_of_mem _ (List.mem_append_left _ (List.mem_append_right _ h))) (by decide +kernel))
set_option maxRecDepth 20000 in
theorem gL_swaps_X5_brand : GoodIn wsL_swaps (wsV RL 15 RX5 yX5_brand wsX5_brand) := goodIn_app (goodIn_of _ (by decide +kernel)) ggL_swaps_X5_brand
set_option maxRecDepth 20000 in
theorem ggL_swaps_X5_swap : GoodIn wsL_swaps wsX5_swap := goodIn_ca (goodIn_ca (goodIn_ca (goodIn_r _ [52, 6, 53, 54, 7, 8, 9, 4, 10, 11, 12, 13, 14, 15, 16, 17, 18, 19, 20, 21, 22, 23, 24, 25, 46, 47, 48, 29, 30, 31, 32, 33, 26, 27, 28, 55, 56, 57, 58, 59, 60, 61, 62, 63, 64, 65, 66, 67, 68, 69, 70, 71, 72, 73, 74, 75, 76, 77, 78, 79, 80, 81, 82, 83, 84, 85, 86, 87, 88, 89, 90, 91, 92, 93, 94, 95, 96, 97, 98, 99, 100, 101, 102, 103, 104, 105, 106] (by decide +kernel) (by decide +kernel)) (goodIn_sub (fun _ h => List.mem_cons_of_mem _ (List.mem_append_left _ (List.mem_append_left _ (List.mem_append_right _ h)))) (by decide +kernel))) (goodIn_sub (fun _ h => List.mem_cons_of_mem _ (List.mem_append_left _ (List.mem_append_right _ h))) (by decide +kernel))) (goodIn_sub (fun _ h => List.mem_cons_of_mem _ (List.mem_append_right _ h)) (by decide +kernel))
set_option maxRecDepth 20000 in
theorem gL_swaps_X5_swap : GoodIn wsL_swaps (wsV RL 25 RX5 yX5_swap wsX5_swap) := goodIn_app (goodIn_of _ (by decide +kernel)) ggL_swaps_X5_swap
theorem dL_swaps_0 : decode cL_swaps 0 = .ok (.aload_n 0, 1) := by decide +kernel
theorem dL_swaps_1 : decode cL_swaps 1 = .ok (.iload_n 2, 1) := by decide +kernel
theorem dL_swaps_2 : decode cL_swaps 2 = .ok (.iconst 1, 1) := by decide +kernel
theorem dL_swaps_3 : decode cL_swaps 3 = .ok (.invokevirtual 15, 3) := by decide +kernel
theorem dL_swaps_6 : decode cL_swaps 6 = .ok (.istore 4, 2) := by decide +kernel
theorem dL_swaps_8 : decode cL_swaps 8 = .ok (.aload_n 0, 1) := by decide +kernel
theorem dL_swaps_9 : decode cL_swaps 9 = .ok (.iload_n 1, 1) := by decide +kernel
theorem dL_swaps_10 : decode cL_swaps 10 = .ok (.iload_n 2, 1) := by decide +kernel
theorem dL_swaps_11 : decode cL_swaps 11 = .ok (.iload_n 3, 1) := by decide +kernel
theorem dL_swaps_12 : decode cL_swaps 12 = .ok (.invokevirtual 25, 3) := by decide +kernel
theorem dL_swaps_15 : decode cL_swaps 15 = .ok (.istore 5, 2) := by decide +kernel
theorem dL_swaps_17 : decode cL_swaps 17 = .ok (.iconst 1, 1) := by decide +kernel
theorem dL_swaps_18 : decode cL_swaps 18 = .ok (.iload_n 3, 1) := by decide +kernel
theorem dL_swaps_19 : decode cL_swaps 19 = .ok (.iconst 2, 1) := by decide +kernel
theorem dL_swaps_20 : decode cL_swaps 20 = .ok (.idiv, 1) := by decide +kernel
theorem dL_swaps_21 : decode cL_swaps 21 = .ok (.iadd, 1) := by decide +kernel
theorem dL_swaps_22 : decode cL_swaps 22 = .ok (.istore 6, 2) := by decide +kernel
theorem dL_swaps_24 : decode cL_swaps 24 = .ok (.aload_n 0, 1) := by decide +kernel
theorem dL_swaps_25 : decode cL_swaps 25 = .ok (.iload_n 2, 1) := by decide +kernel
theorem dL_swaps_26 : decode cL_swaps 26 = .ok (.iconst 1, 1) := by decide +kernel
theorem dL_swaps_27 : decode cL_swaps 27 = .ok (.invokevirtual 15, 3) := by decide +kernel
theorem dL_swaps_30 : decode cL_swaps 30 = .ok (.iload 4, 2) := by decide +kernel
theorem dL_swaps_32 : decode cL_swaps 32 = .ok (.iload_n 3, 1) := by decide +kernel
theorem dL_swaps_33 : decode cL_swaps 33 = .ok (.iadd, 1) := by decide +kernel
theorem dL_swaps_34 : decode cL_swaps 34 = .ok (.if_icmp .ne 39, 3) := by decide +kernel
theorem dL_swaps_37 : decode cL_swaps 37 = .ok (.aload_n 0, 1) := by decide +kernel
theorem dL_swaps_38 : decode cL_swaps 38 = .ok (.iload_n 2, 1) := by decide +kernel
theorem dL_swaps_39 : decode cL_swaps 39 = .ok (.iload_n 1, 1) := by decide +kernel
theorem dL_swaps_40 : decode cL_swaps 40 = .ok (.iload 6, 2) := by decide +kernel
theorem dL_swaps_42 : decode cL_swaps 42 = .ok (.invokevirtual 25, 3) := by decide +kernel
theorem dL_swaps_45 : decode cL_swaps 45 = .ok (.iload 6, 2) := by decide +kernel
theorem dL_swaps_47 : decode cL_swaps 47 = .ok (.iload 5, 2) := by decide +kernel
theorem dL_swaps_49 : decode cL_swaps 49 = .ok (.isub, 1) := by decide +kernel
theorem dL_swaps_50 : decode cL_swaps 50 = .ok (.if_icmp .ne 23, 3) := by decide +kernel
theorem dL_swaps_53 : decode cL_swaps 53 = .ok (.aload_n 0, 1) := by decide +kernel
theorem dL_swaps_54 : decode cL_swaps 54 = .ok (.iload_n 2, 1) := by decide +kernel
theorem dL_swaps_55 : decode cL_swaps 55 = .ok (.iconst 1, 1) := by decide +kernel
theorem dL_swaps_56 : decode cL_swaps 56 = .ok (.invokevirtual 15, 3) := by decide +kernel
theorem dL_swaps_59 : decode cL_swaps 59 = .ok (.iload 4, 2) := by decide +kernel
theorem dL_swaps_61 : decode cL_swaps 61 = .ok (.iload_n 3, 1) := by decide +kernel
theorem dL_swaps_62 : decode cL_swaps 62 = .ok (.iadd, 1) := by decide +kernel
theorem dL_swaps_63 : decode cL_swaps 63 = .ok (.iload 6, 2) := by decide +kernel
theorem dL_swaps_65 : decode cL_swaps 65 = .ok (.isub, 1) := by decide +kernel
theorem dL_swaps_66 : decode cL_swaps 66 = .ok (.if_icmp .ne 7, 3) := by decide +kernel
theorem dL_swaps_69 : decode cL_swaps 69 = .ok (.iconst 1, 1) := by decide +kernel
theorem dL_swaps_70 : decode cL_swaps 70 = .ok (.goto 4, 3) := by decide +kernel
theorem dL_swaps_73 : decode cL_swaps 73 = .ok (.iconst 0, 1) := by decide +kernel
theorem dL_swaps_74 : decode cL_swaps 74 = .ok (.ireturn, 1) := by decide +kernel
set_option maxRecDepth 20000 in
theorem ggL_acts_X5_count : GoodIn wsL_acts wsX5_count := goodIn_ca (goodIn_r _ [5, 6, 7, 8, 9, 4, 10, 11, 12, 13, 14, 15, 16, 17, 18, 19, 20, 21, 22, 23, 24, 25, 26, 27, 28, 29, 30, 31, 32, 33, 34, 35, 36, 37, 38, 39, 40, 41, 42, 43, 44, 45, 46, 47, 48, 49, 311, 312, 313, 314, 315, 316, 317, 318, 319] (by decide +kernel) (by decide +kernel)) (goodIn_sub (fun _ h => List.mem_cons_of_mem _ (List.mem_append_left _ (List.mem_append_left _ (List.mem_append_right _ h)))) (by decide +kernel))
set_option maxRecDepth 20000 in
theorem gL_acts_X5_count : GoodIn wsL_acts (wsV RL 9 RX5 yX5_count wsX5_count) := goodIn_app (goodIn_of _ (by decide +kernel)) ggL_acts_X5_count
set_option maxRecDepth 20000 in
theorem ggL_acts_X5_brand : GoodIn wsL_acts wsX5_brand := goodIn_ca (goodIn_ca (goodIn_r _ [53, 7, 54, 55, 56, 4, 57, 58, 59, 60, 61, 62, 63, 47, 22, 48, 49, 33, 34, 35, 36, 37, 8, 9, 10, 11, 12, 13, 14, 15, 64, 65, 66, 25, 26, 27, 28, 29, 30, 31, 32, 42, 43, 44, 45, 311, 312, 313, 314, 315, 319] (by decide +kernel) (by decide +kernel)) (goodIn_sub (fun _ h => List.mem_cons_of_mem _ (List.mem_append_left _ (List.mem_append_right _ h))) (by decide +kernel))) (goodIn_sub (fun _ h => List.mem_cons_of_mem _ (List.mem_append_left _ (List.mem_append_left _ (List.mem_append_right _ h)))) (by decide +kernel))
set_option maxRecDepth 20000 in
theorem gL_acts_X5_brand : GoodIn wsL_acts (wsV RL 15 RX5 yX5_brand wsX5_brand) := goodIn_app (goodIn_of _ (by decide +kernel)) ggL_acts_X5_brand
set_option maxRecDepth 20000 in
theorem ggL_acts_X5_filled : GoodIn wsL_acts wsX5_filled := goodIn_ca (goodIn_ca (goodIn_r _ [70, 71, 54, 55, 56, 4, 57, 58, 59, 60, 61, 62, 63, 7, 47, 22, 48, 49, 33, 34, 35, 36, 37, 8, 9, 10, 11, 12, 13, 14, 15, 72, 73, 74, 75, 76, 77, 78, 79, 43, 44, 45, 311, 312, 313, 314, 315, 319, 320, 321] (by decide +kernel) (by decide +kernel)) (goodIn_sub (fun _ h => List.mem_cons_of_mem _ (List.mem_append_left _ (List.mem_append_right _ h))) (by decide +kernel))) (goodIn_sub (fun _ h => List.mem_cons_of_mem _ (List.mem_append_left _ (List.mem_append_left _ (List.mem_append_right _ h)))) (by decide +kernel))
set_option maxRecDepth 20000 in
theorem gL_acts_X5_filled : GoodIn wsL_acts (wsV RL 29 RX5 yX5_filled wsX5_filled) := goodIn_app (goodIn_of _ (by decide +kernel)) ggL_acts_X5_filled
set_option maxRecDepth 20000 in
theorem ggL_acts_X5_fill : GoodIn wsL_acts wsX5_fill := goodIn_ca (goodIn_ca (goodIn_ca (goodIn_r _ [83, 7, 6, 71, 54, 55, 56, 4, 57, 58, 59, 60, 61, 62, 63, 47, 22, 48, 49, 33, 34, 35, 36, 37, 8, 9, 10, 11, 12, 13, 14, 15, 43, 44, 45, 84, 85, 86, 87, 88, 89, 17, 90, 91, 92, 20, 93, 94, 95, 96, 97, 98, 99, 100, 101, 102, 103, 104, 105, 73, 106, 107, 76, 108, 72, 74, 75, 77, 78, 79, 109, 110, 111, 112, 113, 114, 115, 311, 312, 313, 314, 315, 319, 316, 317, 318, 320, 321] (by decide +kernel) (by decide +kernel)) (goodIn_sub (fun _ h => List.mem_cons_of_mem _ (List.mem_append_left _ (List.mem_append_right _ h))) (by decide +kernel))) (goodIn_sub (fun _ h => List.mem_cons_of_mem _ (List.mem_append_left _ (List.mem_append_left _ (List.mem_append_right _ h)))) (by decide +kernel))) (goodIn_sub (fun _ h => List.mem_cons_of_mem _ (List.mem_append_right _ h)) (by decide +kernel))
set_option maxRecDepth 20000 in
theorem gL_acts_X5_fill : GoodIn wsL_acts (wsV RL 32 RX5 yX5_fill wsX5_fill) := goodIn_app (goodIn_of _ (by decide +kernel)) ggL_acts_X5_fill
set_option maxRecDepth 20000 in
theorem ggL_acts_X5_whyNotDeliver : GoodIn wsL_acts wsX5_whyNotDeliver := goodIn_ca (goodIn_ca (goodIn_r _ [119, 71, 54, 55, 56, 4, 57, 58, 59, 60, 61, 62, 63, 7, 47, 22, 48, 49, 33, 34, 35, 36, 37, 120, 121, 122, 123, 124, 125, 126, 127, 8, 9, 10, 11, 12, 13, 14, 15, 128, 73, 129, 130, 76, 43, 44, 45, 30, 31, 32, 131, 132, 133, 134, 135, 136, 137, 138, 77, 78, 79, 311, 312, 313, 314, 315, 319, 320, 321] (by decide +kernel) (by decide +kernel)) (goodIn_sub (fun _ h => List.mem_cons_of_mem _ (List.mem_append_left _ (List.mem_append_right _ h))) (by decide +kernel))) (goodIn_sub (fun _ h => List.mem_cons_of_mem _ (List.mem_append_left _ (List.mem_append_left _ (List.mem_append_right _ h)))) (by decide +kernel))
set_option maxRecDepth 20000 in
theorem gL_acts_X5_whyNotDeliver : GoodIn wsL_acts (wsV RL 35 RX5 yX5_whyNotDeliver wsX5_whyNotDeliver) := goodIn_app (goodIn_of _ (by decide +kernel)) ggL_acts_X5_whyNotDeliver
set_option maxRecDepth 20000 in
theorem ggL_acts_X5_mostCrates : GoodIn wsL_acts wsX5_mostCrates := goodIn_ca (goodIn_r _ [142, 71, 54, 55, 56, 4, 57, 58, 59, 60, 61, 62, 63, 7, 47, 22, 48, 49, 33, 34, 35, 36, 37, 120, 121, 122, 123, 124, 125, 126, 127, 143, 73, 144, 145, 76, 146, 147, 148, 149, 131, 132, 133, 134, 43, 44, 45, 135, 136, 137, 138, 77, 78, 79, 30, 31, 32, 311, 312, 313, 314, 315, 319, 320, 321] (by decide +kernel) (by decide +kernel)) (goodIn_sub (fun _ h => List.mem_cons_of_mem _ (List.mem_append_left _ (List.mem_append_right _ h))) (by decide +kernel))
set_option maxRecDepth 20000 in
theorem gL_acts_X5_mostCrates : GoodIn wsL_acts (wsV RL 38 RX5 yX5_mostCrates wsX5_mostCrates) := goodIn_app (goodIn_of _ (by decide +kernel)) ggL_acts_X5_mostCrates
set_option maxRecDepth 20000 in
theorem ggL_acts_X5_setting : GoodIn wsL_acts wsX5_setting := goodIn_ca (goodIn_r _ [153, 7, 154, 155, 4, 156, 58, 59, 77, 22, 78, 79, 33, 34, 35, 36, 37, 311, 312, 313, 314, 315, 319] (by decide +kernel) (by decide +kernel)) (goodIn_sub (fun _ h => List.mem_cons_of_mem _ (List.mem_append_left _ (List.mem_append_right _ h))) (by decide +kernel))
set_option maxRecDepth 20000 in
theorem gL_acts_X5_setting : GoodIn wsL_acts (wsV RL 22 RX5 yX5_setting wsX5_setting) := goodIn_app (goodIn_of _ (by decide +kernel)) ggL_acts_X5_setting
set_option maxRecDepth 20000 in
theorem ggL_acts_X5_deliver : GoodIn wsL_acts wsX5_deliver := goodIn_ca (goodIn_ca (goodIn_ca (goodIn_r _ [160, 71, 6, 7, 54, 55, 56, 4, 57, 58, 59, 60, 61, 62, 63, 47, 22, 48, 49, 33, 34, 35, 36, 37, 120, 121, 122, 123, 124, 125, 126, 127, 8, 9, 10, 11, 12, 13, 14, 15, 128, 73, 129, 130, 76, 43, 44, 45, 30, 31, 32, 131, 132, 133, 134, 135, 136, 137, 138, 77, 78, 79, 84, 85, 86, 87, 88, 89, 17, 90, 91, 92, 20, 93, 94, 95, 96, 97, 98, 99, 100, 101, 102, 103, 104, 161, 162, 163, 109, 110, 111, 112, 113, 114, 115, 164, 165, 166, 167, 168, 169, 311, 312, 313, 314, 315, 319, 320, 321, 316, 317, 318] (by decide +kernel) (by decide +kernel)) (goodIn_sub (fun _ h => List.mem_cons_of_mem _ (List.mem_append_left _ (List.mem_append_right _ h))) (by decide +kernel))) (goodIn_sub (fun _ h => List.mem_cons_of_mem _ (List.mem_append_left _ (List.mem_append_left _ (List.mem_append_right _ h)))) (by decide +kernel))) (goodIn_sub (fun _ h => List.mem_cons_of_mem _ (List.mem_append_right _ h)) (by decide +kernel))
set_option maxRecDepth 20000 in
theorem gL_acts_X5_deliver : GoodIn wsL_acts (wsV RL 41 RX5 yX5_deliver wsX5_deliver) := goodIn_app (goodIn_of _ (by decide +kernel)) ggL_acts_X5_deliver
set_option maxRecDepth 20000 in
theorem ggL_acts_X5_shop : GoodIn wsL_acts wsX5_shop := goodIn_ca (goodIn_ca (goodIn_r _ [173, 7, 120, 121, 122, 4, 123, 58, 59, 124, 125, 126, 127, 47, 22, 48, 49, 33, 34, 35, 36, 37, 174, 175, 176, 11, 12, 13, 14, 15, 177, 178, 179, 180, 181, 182, 183, 29, 30, 31, 32, 311, 312, 313, 314, 315, 319] (by decide +kernel) (by decide +kernel)) (goodIn_sub (fun _ h => List.mem_cons_of_mem _ (List.mem_append_left _ (List.mem_append_right _ h))) (by decide +kernel))) (goodIn_sub (fun _ h => List.mem_cons_of_mem _ (List.mem_append_left _ (List.mem_append_left _ (List.mem_append_right _ h)))) (by decide +kernel))
set_option maxRecDepth 20000 in
theorem gL_acts_X5_shop : GoodIn wsL_acts (wsV RL 19 RX5 yX5_shop wsX5_shop) := goodIn_app (goodIn_of _ (by decide +kernel)) ggL_acts_X5_shop
set_option maxRecDepth 20000 in
theorem ggL_acts_X5_sell : GoodIn wsL_acts wsX5_sell := goodIn_ca (goodIn_ca (goodIn_ca (goodIn_r _ [187, 71, 6, 7, 120, 121, 122, 4, 123, 58, 59, 124, 125, 126, 127, 47, 22, 48, 49, 33, 34, 35, 36, 37, 54, 55, 56, 57, 60, 61, 62, 63, 8, 9, 10, 11, 12, 13, 14, 15, 188, 73, 189, 190, 76, 30, 31, 32, 191, 192, 193, 84, 85, 86, 87, 88, 89, 17, 90, 91, 92, 20, 93, 94, 95, 96, 97, 98, 99, 100, 101, 102, 103, 104, 194, 195, 196, 164, 165, 166, 112, 113, 114, 115, 109, 110, 111, 197, 198, 199, 200, 43, 44, 45, 77, 78, 79, 311, 312, 313, 314, 315, 319, 320, 321, 316, 317, 318] (by decide +kernel) (by decide +kernel)) (goodIn_sub (fun _ h => List.mem_cons_of_mem _ (List.mem_append_left _ (List.mem_append_right _ h))) (by decide +kernel))) (goodIn_sub (fun _ h => List.mem_cons_of_mem _ (List.mem_append_left _ (List.mem_append_left _ (List.mem_append_right _ h)))) (by decide +kernel))) (goodIn_sub (fun _ h => List.mem_cons_of_mem _ (List.mem_append_right _ h)) (by decide +kernel))
set_option maxRecDepth 20000 in
theorem gL_acts_X5_sell : GoodIn wsL_acts (wsV RL 44 RX5 yX5_sell wsX5_sell) := goodIn_app (goodIn_of _ (by decide +kernel)) ggL_acts_X5_sell
set_option maxRecDepth 20000 in
theorem ggL_acts_X5_takeBack : GoodIn wsL_acts wsX5_takeBack := goodIn_ca (goodIn_ca (goodIn_ca (goodIn_r _ [204, 71, 6, 7, 120, 121, 122, 4, 123, 58, 59, 124, 125, 126, 127, 47, 22, 48, 49, 33, 34, 35, 36, 37, 54, 55, 56, 57, 60, 61, 62, 63, 8, 9, 10, 11, 12, 13, 14, 15, 205, 73, 206, 207, 76, 43, 44, 45, 30, 31, 32, 197, 198, 199, 200, 77, 78, 79, 84, 85, 86, 87, 88, 89, 17, 90, 91, 92, 20, 93, 94, 95, 96, 97, 98, 99, 100, 101, 102, 103, 104, 208, 209, 210, 109, 110, 111, 112, 113, 114, 115, 164, 165, 166, 311, 312, 313, 314, 315, 319, 320, 321, 316, 317, 318] (by decide +kernel) (by decide +kernel)) (goodIn_sub (fun _ h => List.mem_cons_of_mem _ (List.mem_append_left _ (List.mem_append_right _ h))) (by decide +kernel))) (goodIn_sub (fun _ h => List.mem_cons_of_mem _ (List.mem_append_left _ (List.mem_append_left _ (List.mem_append_right _ h)))) (by decide +kernel))) (goodIn_sub (fun _ h => List.mem_cons_of_mem _ (List.mem_append_right _ h)) (by decide +kernel))
set_option maxRecDepth 20000 in
theorem gL_acts_X5_takeBack : GoodIn wsL_acts (wsV RL 47 RX5 yX5_takeBack wsX5_takeBack) := goodIn_app (goodIn_of _ (by decide +kernel)) ggL_acts_X5_takeBack
set_option maxRecDepth 20000 in
theorem ggL_acts_X5_collected : GoodIn wsL_acts wsX5_collected := goodIn_ca (goodIn_ca (goodIn_r _ [214, 71, 120, 121, 122, 4, 123, 58, 59, 124, 125, 126, 127, 7, 47, 22, 48, 49, 33, 34, 35, 36, 37, 54, 55, 56, 57, 60, 61, 62, 63, 8, 9, 10, 11, 12, 13, 14, 15, 215, 73, 216, 217, 76, 43, 44, 45, 218, 219, 220, 221, 222, 223, 224, 225, 30, 31, 32, 226, 227, 228, 229, 230, 231, 232, 233, 234, 235, 236, 237, 238, 239, 240, 311, 312, 313, 314, 315, 319, 320, 321] (by decide +kernel) (by decide +kernel)) (goodIn_sub (fun _ h => List.mem_cons_of_mem _ (List.mem_append_left _ (List.mem_append_right _ h))) (by decide +kernel))) (goodIn_sub (fun _ h => List.mem_cons_of_mem _ (List.mem_append_left _ (List.mem_append_left _ (List.mem_append_right _ h)))) (by decide +kernel))
set_option maxRecDepth 20000 in
theorem gL_acts_X5_collected : GoodIn wsL_acts (wsV RL 50 RX5 yX5_collected wsX5_collected) := goodIn_app (goodIn_of _ (by decide +kernel)) ggL_acts_X5_collected
set_option maxRecDepth 20000 in
theorem ggL_acts_X5_whyNotCollect : GoodIn wsL_acts wsX5_whyNotCollect := goodIn_ca (goodIn_ca (goodIn_r _ [244, 71, 120, 121, 122, 4, 123, 58, 59, 124, 125, 126, 127, 7, 47, 22, 48, 49, 33, 34, 35, 36, 37, 245, 246, 247, 8, 9, 10, 11, 12, 13, 14, 15, 219, 73, 220, 221, 76, 222, 223, 224, 225, 43, 44, 45, 30, 31, 32, 311, 312, 313, 314, 315, 319, 320, 321] (by decide +kernel) (by decide +kernel)) (goodIn_sub (fun _ h => List.mem_cons_of_mem _ (List.mem_append_left _ (List.mem_append_right _ h))) (by decide +kernel))) (goodIn_sub (fun _ h => List.mem_cons_of_mem _ (List.mem_append_left _ (List.mem_append_left _ (List.mem_append_right _ h)))) (by decide +kernel))
set_option maxRecDepth 20000 in
theorem gL_acts_X5_whyNotCollect : GoodIn wsL_acts (wsV RL 53 RX5 yX5_whyNotCollect wsX5_whyNotCollect) := goodIn_app (goodIn_of _ (by decide +kernel)) ggL_acts_X5_whyNotCollect
set_option maxRecDepth 20000 in
theorem ggL_acts_X5_bestShop : GoodIn wsL_acts wsX5_bestShop := goodIn_ca (goodIn_r _ [251, 71, 245, 246, 4, 247, 8, 9, 10, 11, 12, 13, 14, 15, 252, 73, 253, 254, 255, 256, 257, 258, 76, 146, 147, 148, 149, 222, 223, 224, 225, 43, 22, 44, 45, 33, 34, 35, 36, 37, 30, 31, 32, 311, 312, 313, 314, 315, 320, 321, 319] (by decide +kernel) (by decide +kernel)) (goodIn_sub (fun _ h => List.mem_cons_of_mem _ (List.mem_append_left _ (List.mem_append_left _ (List.mem_append_right _ h)))) (by decide +kernel))
set_option maxRecDepth 20000 in
theorem gL_acts_X5_bestShop : GoodIn wsL_acts (wsV RL 56 RX5 yX5_bestShop wsX5_bestShop) := goodIn_app (goodIn_of _ (by decide +kernel)) ggL_acts_X5_bestShop
set_option maxRecDepth 20000 in
theorem ggL_acts_X5_collect : GoodIn wsL_acts wsX5_collect := goodIn_ca (goodIn_ca (goodIn_ca (goodIn_r _ [262, 71, 6, 7, 120, 121, 122, 4, 123, 58, 59, 124, 125, 126, 127, 47, 22, 48, 49, 33, 34, 35, 36, 37, 245, 246, 247, 8, 9, 10, 11, 12, 13, 14, 15, 219, 73, 220, 221, 76, 222, 223, 224, 225, 43, 44, 45, 30, 31, 32, 84, 85, 86, 87, 88, 89, 17, 90, 91, 92, 20, 93, 94, 95, 96, 97, 98, 99, 100, 101, 102, 103, 104, 263, 264, 265, 135, 136, 137, 138, 77, 78, 79, 226, 227, 228, 229, 230, 231, 232, 233, 234, 235, 236, 237, 238, 239, 240, 164, 165, 166, 112, 113, 114, 115, 109, 110, 111, 167, 168, 169, 311, 312, 313, 314, 315, 319, 320, 321, 316, 317, 318] (by decide +kernel) (by decide +kernel)) (goodIn_sub (fun _ h => List.mem_cons_of_mem _ (List.mem_append_left _ (List.mem_append_right _ h))) (by decide +kernel))) (goodIn_sub (fun _ h => List.mem_cons_of_mem _ (List.mem_append_left _ (List.mem_append_left _ (List.mem_append_right _ h)))) (by decide +kernel))) (goodIn_sub (fun _ h => List.mem_cons_of_mem _ (List.mem_append_right _ h)) (by decide +kernel))
set_option maxRecDepth 20000 in
theorem gL_acts_X5_collect : GoodIn wsL_acts (wsV RL 59 RX5 yX5_collect wsX5_collect) := goodIn_app (goodIn_of _ (by decide +kernel)) ggL_acts_X5_collect
set_option maxRecDepth 20000 in
theorem ggL_acts_X5_breaks : GoodIn wsL_acts wsX5_breaks := goodIn_ca (goodIn_ca (goodIn_ca (goodIn_r _ [269, 71, 6, 7, 120, 121, 122, 4, 123, 58, 59, 124, 125, 126, 127, 47, 22, 48, 49, 33, 34, 35, 36, 37, 54, 55, 56, 57, 60, 61, 62, 63, 8, 9, 10, 11, 12, 13, 14, 15, 270, 73, 271, 272, 76, 30, 31, 32, 191, 192, 193, 84, 85, 86, 87, 88, 89, 17, 90, 91, 92, 20, 93, 94, 95, 96, 97, 98, 99, 100, 101, 102, 103, 104, 273, 274, 275, 146, 147, 148, 149, 197, 198, 199, 200, 43, 44, 45, 77, 78, 79, 164, 165, 166, 112, 113, 114, 115, 109, 110, 111, 167, 168, 169, 311, 312, 313, 314, 315, 319, 320, 321, 316, 317, 318] (by decide +kernel) (by decide +kernel)) (goodIn_sub (fun _ h => List.mem_cons_of_mem _ (List.mem_append_left _ (List.mem_append_right _ h))) (by decide +kernel))) (goodIn_sub (fun _ h => List.mem_cons_of_mem _ (List.mem_append_left _ (List.mem_append_left _ (List.mem_append_right _ h)))) (by decide +kernel))) (goodIn_sub (fun _ h => List.mem_cons_of_mem _ (List.mem_append_right _ h)) (by decide +kernel))
set_option maxRecDepth 20000 in
theorem gL_acts_X5_breaks : GoodIn wsL_acts (wsV RL 62 RX5 yX5_breaks wsX5_breaks) := goodIn_app (goodIn_of _ (by decide +kernel)) ggL_acts_X5_breaks
set_option maxRecDepth 20000 in
theorem ggL_acts_X5_lose : GoodIn wsL_acts wsX5_lose := goodIn_ca (goodIn_ca (goodIn_ca (goodIn_r _ [279, 7, 6, 71, 54, 55, 56, 4, 57, 58, 59, 60, 61, 62, 63, 47, 22, 48, 49, 33, 34, 35, 36, 37, 8, 9, 10, 11, 12, 13, 14, 15, 43, 44, 45, 84, 85, 86, 87, 88, 89, 17, 90, 91, 92, 20, 93, 94, 95, 96, 97, 98, 99, 100, 101, 102, 103, 104, 280, 73, 281, 282, 76, 109, 110, 111, 112, 113, 114, 115, 197, 198, 199, 200, 77, 78, 79, 167, 168, 169, 311, 312, 313, 314, 315, 319, 316, 317, 318, 320, 321] (by decide +kernel) (by decide +kernel)) (goodIn_sub (fun _ h => List.mem_cons_of_mem _ (List.mem_append_left _ (List.mem_append_right _ h))) (by decide +kernel))) (goodIn_sub (fun _ h => List.mem_cons_of_mem _ (List.mem_append_left _ (List.mem_append_left _ (List.mem_append_right _ h)))) (by decide +kernel))) (goodIn_sub (fun _ h => List.mem_cons_of_mem _ (List.mem_append_right _ h)) (by decide +kernel))
set_option maxRecDepth 20000 in
theorem gL_acts_X5_lose : GoodIn wsL_acts (wsV RL 65 RX5 yX5_lose wsX5_lose) := goodIn_app (goodIn_of _ (by decide +kernel)) ggL_acts_X5_lose
set_option maxRecDepth 20000 in
theorem ggL_acts_X5_sort : GoodIn wsL_acts wsX5_sort := goodIn_ca (goodIn_ca (goodIn_r _ [286, 71, 6, 7, 245, 246, 4, 247, 8, 9, 10, 11, 12, 13, 14, 15, 287, 73, 288, 289, 76, 43, 22, 44, 45, 33, 34, 35, 36, 37, 84, 85, 86, 87, 88, 89, 17, 90, 91, 92, 20, 93, 94, 95, 96, 97, 98, 99, 100, 101, 102, 103, 104, 290, 291, 292, 146, 147, 148, 149, 109, 110, 111, 112, 113, 114, 115, 293, 311, 312, 313, 314, 315, 320, 321, 319, 316, 317, 318] (by decide +kernel) (by decide +kernel)) (goodIn_sub (fun _ h => List.mem_cons_of_mem _ (List.mem_append_left _ (List.mem_append_left _ (List.mem_append_right _ h)))) (by decide +kernel))) (goodIn_sub (fun _ h => List.mem_cons_of_mem _ (List.mem_append_right _ h)) (by decide +kernel))
set_option maxRecDepth 20000 in
theorem gL_acts_X5_sort : GoodIn wsL_acts (wsV RL 68 RX5 yX5_sort wsX5_sort) := goodIn_app (goodIn_of _ (by decide +kernel)) ggL_acts_X5_sort
set_option maxRecDepth 20000 in
theorem ggL_acts_L_swaps : GoodIn wsL_acts wsL_swaps := goodIn_ca (goodIn_ca (goodIn_ca (goodIn_r _ [297, 50, 51, 52, 4, 53, 7, 54, 55, 56, 57, 58, 59, 60, 61, 62, 63, 47, 22, 48, 49, 33, 34, 35, 36, 37, 8, 9, 10, 11, 12, 13, 14, 15, 64, 65, 66, 25, 26, 27, 28, 29, 30, 31, 32, 42, 43, 44, 45, 298, 299, 300, 301, 6, 71, 84, 85, 86, 87, 88, 89, 17, 90, 91, 92, 20, 93, 94, 95, 96, 97, 98, 99, 100, 101, 102, 103, 104, 302, 73, 303, 304, 76, 109, 110, 111, 112, 113, 114, 115, 305, 306, 307, 308, 309, 310, 311, 312, 313, 314, 315, 319, 316, 317, 318, 320, 321] (by decide +kernel) (by decide +kernel)) (goodIn_sub (fun _ h => List.mem_cons_of_mem _ (List.mem_append_left _ (List.mem_append_right _ h))) (by decide +kernel))) (goodIn_sub (fun _ h => List.mem_cons_of_mem _ (List.mem_append_left _ (List.mem_append_left _ (List.mem_append_right _ h)))) (by decide +kernel))) (goodIn_sub (fun _ h => List.mem_cons_of_mem _ (List.mem_append_right _ h)) (by decide +kernel))
set_option maxRecDepth 20000 in
theorem gL_acts_L_swaps : GoodIn wsL_acts (va_wsS RL 71 yL_swaps wsL_swaps) := goodIn_app (goodIn_of _ (by decide +kernel)) ggL_acts_L_swaps
theorem dL_acts_0 : decode cL_acts 0 = .ok (.iload_n 1, 1) := by decide +kernel
theorem dL_acts_1 : decode cL_acts 1 = .ok (.iconst 3, 1) := by decide +kernel
theorem dL_acts_2 : decode cL_acts 2 = .ok (.ishr, 1) := by decide +kernel
theorem dL_acts_3 : decode cL_acts 3 = .ok (.istore_n 2, 1) := by decide +kernel
theorem dL_acts_4 : decode cL_acts 4 = .ok (.iload_n 2, 1) := by decide +kernel
theorem dL_acts_5 : decode cL_acts 5 = .ok (.aload_n 0, 1) := by decide +kernel
theorem dL_acts_6 : decode cL_acts 6 = .ok (.iconst 0, 1) := by decide +kernel
theorem dL_acts_7 : decode cL_acts 7 = .ok (.invokevirtual 9, 3) := by decide +kernel
theorem dL_acts_10 : decode cL_acts 10 = .ok (.irem, 1) := by decide +kernel
theorem dL_acts_11 : decode cL_acts 11 = .ok (.istore_n 3, 1) := by decide +kernel
theorem dL_acts_12 : decode cL_acts 12 = .ok (.iload_n 2, 1) := by decide +kernel
theorem dL_acts_13 : decode cL_acts 13 = .ok (.iconst 4, 1) := by decide +kernel
theorem dL_acts_14 : decode cL_acts 14 = .ok (.ishr, 1) := by decide +kernel
theorem dL_acts_15 : decode cL_acts 15 = .ok (.aload_n 0, 1) := by decide +kernel
theorem dL_acts_16 : decode cL_acts 16 = .ok (.iconst 1, 1) := by decide +kernel
theorem dL_acts_17 : decode cL_acts 17 = .ok (.invokevirtual 9, 3) := by decide +kernel
theorem dL_acts_20 : decode cL_acts 20 = .ok (.irem, 1) := by decide +kernel
theorem dL_acts_21 : decode cL_acts 21 = .ok (.istore 4, 2) := by decide +kernel
theorem dL_acts_23 : decode cL_acts 23 = .ok (.iconst 1, 1) := by decide +kernel
theorem dL_acts_24 : decode cL_acts 24 = .ok (.iload_n 2, 1) := by decide +kernel
theorem dL_acts_25 : decode cL_acts 25 = .ok (.bipush 7, 2) := by decide +kernel
theorem dL_acts_27 : decode cL_acts 27 = .ok (.ishr, 1) := by decide +kernel
theorem dL_acts_28 : decode cL_acts 28 = .ok (.bipush 40, 2) := by decide +kernel
theorem dL_acts_30 : decode cL_acts 30 = .ok (.irem, 1) := by decide +kernel
theorem dL_acts_31 : decode cL_acts 31 = .ok (.iadd, 1) := by decide +kernel
theorem dL_acts_32 : decode cL_acts 32 = .ok (.istore 5, 2) := by decide +kernel
theorem dL_acts_34 : decode cL_acts 34 = .ok (.iload_n 1, 1) := by decide +kernel
theorem dL_acts_35 : decode cL_acts 35 = .ok (.bipush 7, 2) := by decide +kernel
theorem dL_acts_37 : decode cL_acts 37 = .ok (.iand, 1) := by decide +kernel
theorem dL_acts_38 : decode cL_acts 38 = .ok (.tableswitch 582 0 6 #[42, 98, 98, 208, 266, 331, 463], 42) := by decide +kernel
theorem dL_acts_80 : decode cL_acts 80 = .ok (.aload_n 0, 1) := by decide +kernel
theorem dL_acts_81 : decode cL_acts 81 = .ok (.iload_n 3, 1) := by decide +kernel
theorem dL_acts_82 : decode cL_acts 82 = .ok (.iconst 1, 1) := by decide +kernel
theorem dL_acts_83 : decode cL_acts 83 = .ok (.invokevirtual 15, 3) := by decide +kernel
theorem dL_acts_86 : decode cL_acts 86 = .ok (.istore 6, 2) := by decide +kernel
theorem dL_acts_88 : decode cL_acts 88 = .ok (.aload_n 0, 1) := by decide +kernel
theorem dL_acts_89 : decode cL_acts 89 = .ok (.iload_n 3, 1) := by decide +kernel
theorem dL_acts_90 : decode cL_acts 90 = .ok (.iload 5, 2) := by decide +kernel
theorem dL_acts_92 : decode cL_acts 92 = .ok (.invokevirtual 29, 3) := by decide +kernel
theorem dL_acts_95 : decode cL_acts 95 = .ok (.istore 7, 2) := by decide +kernel
theorem dL_acts_97 : decode cL_acts 97 = .ok (.iload 6, 2) := by decide +kernel
theorem dL_acts_99 : decode cL_acts 99 = .ok (.iload 5, 2) := by decide +kernel
theorem dL_acts_101 : decode cL_acts 101 = .ok (.if_icmp .lt 29, 3) := by decide +kernel
theorem dL_acts_104 : decode cL_acts 104 = .ok (.aload_n 0, 1) := by decide +kernel
theorem dL_acts_105 : decode cL_acts 105 = .ok (.iload_n 3, 1) := by decide +kernel
theorem dL_acts_106 : decode cL_acts 106 = .ok (.iload 5, 2) := by decide +kernel
theorem dL_acts_108 : decode cL_acts 108 = .ok (.invokevirtual 32, 3) := by decide +kernel
theorem dL_acts_111 : decode cL_acts 111 = .ok (.iload 7, 2) := by decide +kernel
theorem dL_acts_113 : decode cL_acts 113 = .ok (.if_icmp .ne 21, 3) := by decide +kernel
theorem dL_acts_116 : decode cL_acts 116 = .ok (.aload_n 0, 1) := by decide +kernel
theorem dL_acts_117 : decode cL_acts 117 = .ok (.iload_n 3, 1) := by decide +kernel
theorem dL_acts_118 : decode cL_acts 118 = .ok (.iconst 1, 1) := by decide +kernel
theorem dL_acts_119 : decode cL_acts 119 = .ok (.invokevirtual 15, 3) := by decide +kernel
theorem dL_acts_122 : decode cL_acts 122 = .ok (.iload 6, 2) := by decide +kernel
theorem dL_acts_124 : decode cL_acts 124 = .ok (.iload 5, 2) := by decide +kernel
theorem dL_acts_126 : decode cL_acts 126 = .ok (.isub, 1) := by decide +kernel
theorem dL_acts_127 : decode cL_acts 127 = .ok (.if_icmp .ne 7, 3) := by decide +kernel
theorem dL_acts_130 : decode cL_acts 130 = .ok (.iconst 1, 1) := by decide +kernel
theorem dL_acts_131 : decode cL_acts 131 = .ok (.goto 4, 3) := by decide +kernel
theorem dL_acts_134 : decode cL_acts 134 = .ok (.iconst 0, 1) := by decide +kernel
theorem dL_acts_135 : decode cL_acts 135 = .ok (.ireturn, 1) := by decide +kernel
theorem dL_acts_136 : decode cL_acts 136 = .ok (.iconst 1, 1) := by decide +kernel
theorem dL_acts_137 : decode cL_acts 137 = .ok (.iload_n 2, 1) := by decide +kernel
theorem dL_acts_138 : decode cL_acts 138 = .ok (.bipush 7, 2) := by decide +kernel
theorem dL_acts_140 : decode cL_acts 140 = .ok (.ishr, 1) := by decide +kernel
theorem dL_acts_141 : decode cL_acts 141 = .ok (.iconst 3, 1) := by decide +kernel
theorem dL_acts_142 : decode cL_acts 142 = .ok (.irem, 1) := by decide +kernel
theorem dL_acts_143 : decode cL_acts 143 = .ok (.iadd, 1) := by decide +kernel
theorem dL_acts_144 : decode cL_acts 144 = .ok (.istore 8, 2) := by decide +kernel
theorem dL_acts_146 : decode cL_acts 146 = .ok (.aload_n 0, 1) := by decide +kernel
theorem dL_acts_147 : decode cL_acts 147 = .ok (.iload_n 3, 1) := by decide +kernel
theorem dL_acts_148 : decode cL_acts 148 = .ok (.iload 4, 2) := by decide +kernel
theorem dL_acts_150 : decode cL_acts 150 = .ok (.iload 8, 2) := by decide +kernel
theorem dL_acts_152 : decode cL_acts 152 = .ok (.invokevirtual 35, 3) := by decide +kernel
theorem dL_acts_155 : decode cL_acts 155 = .ok (.istore 9, 2) := by decide +kernel
theorem dL_acts_157 : decode cL_acts 157 = .ok (.aload_n 0, 1) := by decide +kernel
theorem dL_acts_158 : decode cL_acts 158 = .ok (.iload_n 3, 1) := by decide +kernel
theorem dL_acts_159 : decode cL_acts 159 = .ok (.iload 4, 2) := by decide +kernel
theorem dL_acts_161 : decode cL_acts 161 = .ok (.invokevirtual 38, 3) := by decide +kernel
theorem dL_acts_164 : decode cL_acts 164 = .ok (.istore 10, 2) := by decide +kernel
theorem dL_acts_166 : decode cL_acts 166 = .ok (.bipush 12, 2) := by decide +kernel
theorem dL_acts_168 : decode cL_acts 168 = .ok (.aload_n 0, 1) := by decide +kernel
theorem dL_acts_169 : decode cL_acts 169 = .ok (.aload_n 0, 1) := by decide +kernel
theorem dL_acts_170 : decode cL_acts 170 = .ok (.iload_n 3, 1) := by decide +kernel
theorem dL_acts_171 : decode cL_acts 171 = .ok (.iconst 0, 1) := by decide +kernel
theorem dL_acts_172 : decode cL_acts 172 = .ok (.invokevirtual 15, 3) := by decide +kernel
theorem dL_acts_175 : decode cL_acts 175 = .ok (.invokevirtual 22, 3) := by decide +kernel
theorem dL_acts_178 : decode cL_acts 178 = .ok (.imul, 1) := by decide +kernel
theorem dL_acts_179 : decode cL_acts 179 = .ok (.aload_n 0, 1) := by decide +kernel
theorem dL_acts_180 : decode cL_acts 180 = .ok (.iconst 3, 1) := by decide +kernel
theorem dL_acts_181 : decode cL_acts 181 = .ok (.invokevirtual 22, 3) := by decide +kernel
theorem dL_acts_184 : decode cL_acts 184 = .ok (.iadd, 1) := by decide +kernel
