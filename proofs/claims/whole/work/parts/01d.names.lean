theorem dX4_mostDeliverable_20 : decode cX4_mostDeliverable 20 = .ok (.idiv, 1) := by decide +kernel
theorem dX4_mostDeliverable_21 : decode cX4_mostDeliverable 21 = .ok (.goto 5, 3) := by decide +kernel
theorem dX4_mostDeliverable_24 : decode cX4_mostDeliverable 24 = .ok (.bipush 50, 2) := by decide +kernel
theorem dX4_mostDeliverable_26 : decode cX4_mostDeliverable 26 = .ok (.istore 4, 2) := by decide +kernel
theorem dX4_mostDeliverable_28 : decode cX4_mostDeliverable 28 = .ok (.aload_n 0, 1) := by decide +kernel
theorem dX4_mostDeliverable_29 : decode cX4_mostDeliverable 29 = .ok (.getfield 12, 3) := by decide +kernel
theorem dX4_mostDeliverable_32 : decode cX4_mostDeliverable 32 = .ok (.iload_n 1, 1) := by decide +kernel
theorem dX4_mostDeliverable_33 : decode cX4_mostDeliverable 33 = .ok (.iconst 2, 1) := by decide +kernel
theorem dX4_mostDeliverable_34 : decode cX4_mostDeliverable 34 = .ok (.invokevirtual 22, 3) := by decide +kernel
theorem dX4_mostDeliverable_37 : decode cX4_mostDeliverable 37 = .ok (.bipush 12, 2) := by decide +kernel
theorem dX4_mostDeliverable_39 : decode cX4_mostDeliverable 39 = .ok (.idiv, 1) := by decide +kernel
theorem dX4_mostDeliverable_40 : decode cX4_mostDeliverable 40 = .ok (.aload_n 0, 1) := by decide +kernel
theorem dX4_mostDeliverable_41 : decode cX4_mostDeliverable 41 = .ok (.getfield 12, 3) := by decide +kernel
theorem dX4_mostDeliverable_44 : decode cX4_mostDeliverable 44 = .ok (.iconst 2, 1) := by decide +kernel
theorem dX4_mostDeliverable_45 : decode cX4_mostDeliverable 45 = .ok (.invokevirtual 33, 3) := by decide +kernel
theorem dX4_mostDeliverable_48 : decode cX4_mostDeliverable 48 = .ok (.invokestatic 65, 3) := by decide +kernel
theorem dX4_mostDeliverable_51 : decode cX4_mostDeliverable 51 = .ok (.istore 5, 2) := by decide +kernel
theorem dX4_mostDeliverable_53 : decode cX4_mostDeliverable 53 = .ok (.iload 5, 2) := by decide +kernel
theorem dX4_mostDeliverable_55 : decode cX4_mostDeliverable 55 = .ok (.iload 4, 2) := by decide +kernel
theorem dX4_mostDeliverable_57 : decode cX4_mostDeliverable 57 = .ok (.invokestatic 65, 3) := by decide +kernel
theorem dX4_mostDeliverable_60 : decode cX4_mostDeliverable 60 = .ok (.bipush 50, 2) := by decide +kernel
theorem dX4_mostDeliverable_62 : decode cX4_mostDeliverable 62 = .ok (.invokestatic 65, 3) := by decide +kernel
theorem dX4_mostDeliverable_65 : decode cX4_mostDeliverable 65 = .ok (.ireturn, 1) := by decide +kernel
set_option maxRecDepth 20000 in
theorem ggX4_mostCollectable_X4_emptiesOf : GoodIn wsX4_mostCollectable wsX4_emptiesOf := goodIn_r _ [10, 1, 11, 12, 13, 14, 15, 16, 17, 18, 19, 20, 21, 22, 23, 24, 25] (by decide +kernel) (by decide +kernel)
set_option maxRecDepth 20000 in
theorem gX4_mostCollectable_X4_emptiesOf : GoodIn wsX4_mostCollectable (wsV RX4 48 RX4 yX4_emptiesOf wsX4_emptiesOf) := goodIn_app (goodIn_of _ (by decide +kernel)) ggX4_mostCollectable_X4_emptiesOf
set_option maxRecDepth 20000 in
theorem ggX4_mostCollectable_X2_ofShop : GoodIn wsX4_mostCollectable wsX2_ofShop := goodIn_r _ [22, 15, 16, 17, 12, 18, 19, 25] (by decide +kernel) (by decide +kernel)
set_option maxRecDepth 20000 in
theorem gX4_mostCollectable_X2_ofShop_n36 : GoodIn wsX4_mostCollectable (wsX2_ofShop) := ggX4_mostCollectable_X2_ofShop
theorem dX4_mostCollectable_0 : decode cX4_mostCollectable 0 = .ok (.aload_n 0, 1) := by decide +kernel
theorem dX4_mostCollectable_1 : decode cX4_mostCollectable 1 = .ok (.iload_n 1, 1) := by decide +kernel
theorem dX4_mostCollectable_2 : decode cX4_mostCollectable 2 = .ok (.iload_n 2, 1) := by decide +kernel
theorem dX4_mostCollectable_3 : decode cX4_mostCollectable 3 = .ok (.invokevirtual 48, 3) := by decide +kernel
theorem dX4_mostCollectable_6 : decode cX4_mostCollectable 6 = .ok (.bipush 12, 2) := by decide +kernel
theorem dX4_mostCollectable_8 : decode cX4_mostCollectable 8 = .ok (.idiv, 1) := by decide +kernel
theorem dX4_mostCollectable_9 : decode cX4_mostCollectable 9 = .ok (.aload_n 0, 1) := by decide +kernel
theorem dX4_mostCollectable_10 : decode cX4_mostCollectable 10 = .ok (.getfield 12, 3) := by decide +kernel
theorem dX4_mostCollectable_13 : decode cX4_mostCollectable 13 = .ok (.iload_n 1, 1) := by decide +kernel
theorem dX4_mostCollectable_14 : decode cX4_mostCollectable 14 = .ok (.iconst 1, 1) := by decide +kernel
theorem dX4_mostCollectable_15 : decode cX4_mostCollectable 15 = .ok (.invokevirtual 36, 3) := by decide +kernel
theorem dX4_mostCollectable_18 : decode cX4_mostCollectable 18 = .ok (.invokestatic 65, 3) := by decide +kernel
theorem dX4_mostCollectable_21 : decode cX4_mostCollectable 21 = .ok (.istore_n 3, 1) := by decide +kernel
theorem dX4_mostCollectable_22 : decode cX4_mostCollectable 22 = .ok (.iload_n 3, 1) := by decide +kernel
theorem dX4_mostCollectable_23 : decode cX4_mostCollectable 23 = .ok (.bipush 50, 2) := by decide +kernel
theorem dX4_mostCollectable_25 : decode cX4_mostCollectable 25 = .ok (.invokestatic 65, 3) := by decide +kernel
theorem dX4_mostCollectable_28 : decode cX4_mostCollectable 28 = .ok (.ireturn, 1) := by decide +kernel
set_option maxRecDepth 20000 in
theorem ggX4_wouldCollect_X2_ofBrand : GoodIn wsX4_wouldCollect wsX2_ofBrand := goodIn_r _ [5, 6, 7, 8, 3, 9, 10, 41] (by decide +kernel) (by decide +kernel)
set_option maxRecDepth 20000 in
theorem gX4_wouldCollect_X2_ofBrand_n22 : GoodIn wsX4_wouldCollect (wsX2_ofBrand) := ggX4_wouldCollect_X2_ofBrand
set_option maxRecDepth 20000 in
theorem ggX4_wouldCollect_X4_collectReason : GoodIn wsX4_wouldCollect wsX4_collectReason := goodIn_r _ [15, 1, 16, 17, 18, 14, 19, 2, 3, 4, 5, 6, 7, 8, 9, 10, 20, 21, 22, 39, 40, 41] (by decide +kernel) (by decide +kernel)
set_option maxRecDepth 20000 in
theorem gX4_wouldCollect_X4_collectReason : GoodIn wsX4_wouldCollect (wsV RX4 92 RX4 yX4_collectReason wsX4_collectReason) := goodIn_app (goodIn_of _ (by decide +kernel)) ggX4_wouldCollect_X4_collectReason
set_option maxRecDepth 20000 in
theorem ggX4_wouldCollect_X4_pickEmpties : GoodIn wsX4_wouldCollect wsX4_pickEmpties := goodIn_r _ [26, 27, 1, 2, 3, 4, 5, 6, 7, 8, 9, 10, 20, 21, 22, 28, 29, 30, 14, 31, 39, 40, 41] (by decide +kernel) (by decide +kernel)
set_option maxRecDepth 20000 in
theorem gX4_wouldCollect_X4_pickEmpties : GoodIn wsX4_wouldCollect (wsV RX4 70 RX4 yX4_pickEmpties wsX4_pickEmpties) := goodIn_app (goodIn_of _ (by decide +kernel)) ggX4_wouldCollect_X4_pickEmpties
set_option maxRecDepth 20000 in
theorem ggX4_wouldCollect_X4_pickedOf : GoodIn wsX4_wouldCollect wsX4_pickedOf := goodIn_r _ [35, 1, 27, 20, 3, 21, 22, 6, 7, 8, 9, 10, 36, 37, 38, 39, 40, 41] (by decide +kernel) (by decide +kernel)
set_option maxRecDepth 20000 in
theorem gX4_wouldCollect_X4_pickedOf : GoodIn wsX4_wouldCollect (wsV RX4 73 RX4 yX4_pickedOf wsX4_pickedOf) := goodIn_app (goodIn_of _ (by decide +kernel)) ggX4_wouldCollect_X4_pickedOf
theorem dX4_wouldCollect_0 : decode cX4_wouldCollect 0 = .ok (.aload_n 0, 1) := by decide +kernel
theorem dX4_wouldCollect_1 : decode cX4_wouldCollect 1 = .ok (.getfield 12, 3) := by decide +kernel
theorem dX4_wouldCollect_4 : decode cX4_wouldCollect 4 = .ok (.iload_n 2, 1) := by decide +kernel
theorem dX4_wouldCollect_5 : decode cX4_wouldCollect 5 = .ok (.iconst 0, 1) := by decide +kernel
theorem dX4_wouldCollect_6 : decode cX4_wouldCollect 6 = .ok (.invokevirtual 22, 3) := by decide +kernel
theorem dX4_wouldCollect_9 : decode cX4_wouldCollect 9 = .ok (.istore 4, 2) := by decide +kernel
theorem dX4_wouldCollect_11 : decode cX4_wouldCollect 11 = .ok (.aload_n 0, 1) := by decide +kernel
theorem dX4_wouldCollect_12 : decode cX4_wouldCollect 12 = .ok (.iload_n 1, 1) := by decide +kernel
theorem dX4_wouldCollect_13 : decode cX4_wouldCollect 13 = .ok (.iload 4, 2) := by decide +kernel
theorem dX4_wouldCollect_15 : decode cX4_wouldCollect 15 = .ok (.iload_n 3, 1) := by decide +kernel
theorem dX4_wouldCollect_16 : decode cX4_wouldCollect 16 = .ok (.invokevirtual 92, 3) := by decide +kernel
theorem dX4_wouldCollect_19 : decode cX4_wouldCollect 19 = .ok (.ifCond .eq 5, 3) := by decide +kernel
theorem dX4_wouldCollect_22 : decode cX4_wouldCollect 22 = .ok (.iconst (-1), 1) := by decide +kernel
theorem dX4_wouldCollect_23 : decode cX4_wouldCollect 23 = .ok (.ireturn, 1) := by decide +kernel
theorem dX4_wouldCollect_24 : decode cX4_wouldCollect 24 = .ok (.aload_n 0, 1) := by decide +kernel
theorem dX4_wouldCollect_25 : decode cX4_wouldCollect 25 = .ok (.iload_n 1, 1) := by decide +kernel
theorem dX4_wouldCollect_26 : decode cX4_wouldCollect 26 = .ok (.iload 4, 2) := by decide +kernel
theorem dX4_wouldCollect_28 : decode cX4_wouldCollect 28 = .ok (.bipush 12, 2) := by decide +kernel
theorem dX4_wouldCollect_30 : decode cX4_wouldCollect 30 = .ok (.iload_n 3, 1) := by decide +kernel
theorem dX4_wouldCollect_31 : decode cX4_wouldCollect 31 = .ok (.imul, 1) := by decide +kernel
theorem dX4_wouldCollect_32 : decode cX4_wouldCollect 32 = .ok (.invokevirtual 70, 3) := by decide +kernel
theorem dX4_wouldCollect_35 : decode cX4_wouldCollect 35 = .ok (.aload_n 0, 1) := by decide +kernel
theorem dX4_wouldCollect_36 : decode cX4_wouldCollect 36 = .ok (.iload_n 1, 1) := by decide +kernel
theorem dX4_wouldCollect_37 : decode cX4_wouldCollect 37 = .ok (.iload_n 2, 1) := by decide +kernel
theorem dX4_wouldCollect_38 : decode cX4_wouldCollect 38 = .ok (.invokevirtual 73, 3) := by decide +kernel
theorem dX4_wouldCollect_41 : decode cX4_wouldCollect 41 = .ok (.ireturn, 1) := by decide +kernel
set_option maxRecDepth 20000 in
theorem ggX4_bestToCollect_X4_mostCollectable : GoodIn wsX4_bestToCollect wsX4_mostCollectable := goodIn_r _ [5, 6, 7, 8, 9, 10, 11, 12, 13, 4, 14, 15, 16, 17, 18, 19, 20, 21, 22, 23, 24, 25, 26, 27, 28, 29] (by decide +kernel) (by decide +kernel)
set_option maxRecDepth 20000 in
theorem gX4_bestToCollect_X4_mostCollectable : GoodIn wsX4_bestToCollect (wsV RX4 96 RX4 yX4_mostCollectable wsX4_mostCollectable) := goodIn_app (goodIn_of _ (by decide +kernel)) ggX4_bestToCollect_X4_mostCollectable
theorem dX4_bestToCollect_0 : decode cX4_bestToCollect 0 = .ok (.iconst (-1), 1) := by decide +kernel
theorem dX4_bestToCollect_1 : decode cX4_bestToCollect 1 = .ok (.istore_n 2, 1) := by decide +kernel
theorem dX4_bestToCollect_2 : decode cX4_bestToCollect 2 = .ok (.iconst 0, 1) := by decide +kernel
theorem dX4_bestToCollect_3 : decode cX4_bestToCollect 3 = .ok (.istore_n 3, 1) := by decide +kernel
theorem dX4_bestToCollect_4 : decode cX4_bestToCollect 4 = .ok (.iconst 0, 1) := by decide +kernel
theorem dX4_bestToCollect_5 : decode cX4_bestToCollect 5 = .ok (.istore 4, 2) := by decide +kernel
theorem dX4_bestToCollect_7 : decode cX4_bestToCollect 7 = .ok (.iload 4, 2) := by decide +kernel
theorem dX4_bestToCollect_9 : decode cX4_bestToCollect 9 = .ok (.bipush 6, 2) := by decide +kernel
theorem dX4_bestToCollect_11 : decode cX4_bestToCollect 11 = .ok (.if_icmp .ge 30, 3) := by decide +kernel
theorem dX4_bestToCollect_14 : decode cX4_bestToCollect 14 = .ok (.aload_n 0, 1) := by decide +kernel
theorem dX4_bestToCollect_15 : decode cX4_bestToCollect 15 = .ok (.iload 4, 2) := by decide +kernel
theorem dX4_bestToCollect_17 : decode cX4_bestToCollect 17 = .ok (.iload_n 1, 1) := by decide +kernel
theorem dX4_bestToCollect_18 : decode cX4_bestToCollect 18 = .ok (.invokevirtual 96, 3) := by decide +kernel
theorem dX4_bestToCollect_21 : decode cX4_bestToCollect 21 = .ok (.istore 5, 2) := by decide +kernel
theorem dX4_bestToCollect_23 : decode cX4_bestToCollect 23 = .ok (.iload 5, 2) := by decide +kernel
theorem dX4_bestToCollect_25 : decode cX4_bestToCollect 25 = .ok (.iload_n 3, 1) := by decide +kernel
theorem dX4_bestToCollect_26 : decode cX4_bestToCollect 26 = .ok (.if_icmp .le 9, 3) := by decide +kernel
theorem dX4_bestToCollect_29 : decode cX4_bestToCollect 29 = .ok (.iload 5, 2) := by decide +kernel
theorem dX4_bestToCollect_31 : decode cX4_bestToCollect 31 = .ok (.istore_n 3, 1) := by decide +kernel
theorem dX4_bestToCollect_32 : decode cX4_bestToCollect 32 = .ok (.iload 4, 2) := by decide +kernel
theorem dX4_bestToCollect_34 : decode cX4_bestToCollect 34 = .ok (.istore_n 2, 1) := by decide +kernel
theorem dX4_bestToCollect_35 : decode cX4_bestToCollect 35 = .ok (.iinc 4 1, 3) := by decide +kernel
theorem dX4_bestToCollect_38 : decode cX4_bestToCollect 38 = .ok (.goto (-31), 3) := by decide +kernel
theorem dX4_bestToCollect_41 : decode cX4_bestToCollect 41 = .ok (.iload_n 2, 1) := by decide +kernel
theorem dX4_bestToCollect_42 : decode cX4_bestToCollect 42 = .ok (.ireturn, 1) := by decide +kernel
set_option maxRecDepth 20000 in
theorem ggX5_init_X4_init : GoodIn wsX5_init wsX4_init := goodIn_r _ [22, 23, 2, 3, 24, 25, 26, 27, 28, 29, 30, 31, 32, 33, 34, 35, 36, 37, 38, 39, 40, 41, 42, 43, 44, 77, 59, 60] (by decide +kernel) (by decide +kernel)
set_option maxRecDepth 20000 in
theorem gX5_init_X4_init_n11 : GoodIn wsX5_init (wsX4_init) := ggX5_init_X4_init
set_option maxRecDepth 20000 in
theorem ggX5_init_X1_init : GoodIn wsX5_init wsX1_init := goodIn_r _ [46, 47, 2, 3, 48, 49, 25, 26, 30, 31, 32, 28, 33, 34, 35, 36, 37, 38, 39, 40, 41, 42, 43, 44, 66, 67, 68, 77] (by decide +kernel) (by decide +kernel)
set_option maxRecDepth 20000 in
theorem gX5_init_X1_init_n25 : GoodIn wsX5_init (wsX1_init) := ggX5_init_X1_init
set_option maxRecDepth 20000 in
theorem ggX5_init_X3_init : GoodIn wsX5_init wsX3_init := goodIn_r _ [51, 52, 2, 3, 28, 53, 54, 18, 19, 55, 56, 57, 58, 69, 70, 71, 72, 73, 74, 75, 76] (by decide +kernel) (by decide +kernel)
set_option maxRecDepth 20000 in
theorem gX5_init_X3_init_n32 : GoodIn wsX5_init (wsX3_init) := ggX5_init_X3_init
set_option maxRecDepth 20000 in
theorem ggX5_init_X0_init : GoodIn wsX5_init wsX0_init := goodIn_r _ [57, 58, 2, 3] (by decide +kernel) (by decide +kernel)
set_option maxRecDepth 20000 in
theorem gX5_init_X0_init_n39 : GoodIn wsX5_init (wsX0_init) := ggX5_init_X0_init
theorem dX5_init_0 : decode cX5_init 0 = .ok (.aload_n 0, 1) := by decide +kernel
theorem dX5_init_1 : decode cX5_init 1 = .ok (.invokespecial 3, 3) := by decide +kernel
theorem dX5_init_4 : decode cX5_init 4 = .ok (.aload_n 0, 1) := by decide +kernel
theorem dX5_init_5 : decode cX5_init 5 = .ok (.new 9, 3) := by decide +kernel
theorem dX5_init_8 : decode cX5_init 8 = .ok (.dup, 1) := by decide +kernel
theorem dX5_init_9 : decode cX5_init 9 = .ok (.invokespecial 11, 3) := by decide +kernel
theorem dX5_init_12 : decode cX5_init 12 = .ok (.putfield 12, 3) := by decide +kernel
theorem dX5_init_15 : decode cX5_init 15 = .ok (.aload_n 0, 1) := by decide +kernel
theorem dX5_init_16 : decode cX5_init 16 = .ok (.aload_n 0, 1) := by decide +kernel
theorem dX5_init_17 : decode cX5_init 17 = .ok (.getfield 12, 3) := by decide +kernel
theorem dX5_init_20 : decode cX5_init 20 = .ok (.getfield 16, 3) := by decide +kernel
theorem dX5_init_23 : decode cX5_init 23 = .ok (.putfield 20, 3) := by decide +kernel
theorem dX5_init_26 : decode cX5_init 26 = .ok (.aload_n 0, 1) := by decide +kernel
theorem dX5_init_27 : decode cX5_init 27 = .ok (.new 23, 3) := by decide +kernel
theorem dX5_init_30 : decode cX5_init 30 = .ok (.dup, 1) := by decide +kernel
theorem dX5_init_31 : decode cX5_init 31 = .ok (.invokespecial 25, 3) := by decide +kernel
theorem dX5_init_34 : decode cX5_init 34 = .ok (.putfield 26, 3) := by decide +kernel
theorem dX5_init_37 : decode cX5_init 37 = .ok (.aload_n 0, 1) := by decide +kernel
theorem dX5_init_38 : decode cX5_init 38 = .ok (.new 30, 3) := by decide +kernel
theorem dX5_init_41 : decode cX5_init 41 = .ok (.dup, 1) := by decide +kernel
theorem dX5_init_42 : decode cX5_init 42 = .ok (.invokespecial 32, 3) := by decide +kernel
theorem dX5_init_45 : decode cX5_init 45 = .ok (.putfield 33, 3) := by decide +kernel
theorem dX5_init_48 : decode cX5_init 48 = .ok (.aload_n 0, 1) := by decide +kernel
theorem dX5_init_49 : decode cX5_init 49 = .ok (.new 37, 3) := by decide +kernel
theorem dX5_init_52 : decode cX5_init 52 = .ok (.dup, 1) := by decide +kernel
theorem dX5_init_53 : decode cX5_init 53 = .ok (.invokespecial 39, 3) := by decide +kernel
theorem dX5_init_56 : decode cX5_init 56 = .ok (.putfield 40, 3) := by decide +kernel
theorem dX5_init_59 : decode cX5_init 59 = .ok (.return_, 1) := by decide +kernel
set_option maxRecDepth 20000 in
theorem ggX5_addBrand_X5_needKind : GoodIn wsX5_addBrand wsX5_needKind := goodIn_ca (goodIn_r _ [6, 7, 8, 5, 9, 10, 11, 12, 13, 14] (by decide +kernel) (by decide +kernel)) (goodIn_sub (fun _ h => List.mem_cons_of_mem _ (List.mem_append_left _ (List.mem_append_right _ h))) (by decide +kernel))
set_option maxRecDepth 20000 in
theorem gX5_addBrand_X5_needKind : GoodIn wsX5_addBrand (va_wsS RX5 44 yX5_needKind wsX5_needKind) := goodIn_app (goodIn_of _ (by decide +kernel)) ggX5_addBrand_X5_needKind
set_option maxRecDepth 20000 in
theorem ggX5_addBrand_X5_needRange : GoodIn wsX5_addBrand wsX5_needRange := goodIn_ca (goodIn_r _ [9, 10, 11, 5, 12, 13, 14] (by decide +kernel) (by decide +kernel)) (goodIn_sub (fun _ h => List.mem_cons_of_mem _ (List.mem_append_left _ (List.mem_append_right _ h))) (by decide +kernel))
set_option maxRecDepth 20000 in
theorem gX5_addBrand_X5_needRange : GoodIn wsX5_addBrand (va_wsS RX5 48 yX5_needRange wsX5_needRange) := goodIn_app (goodIn_of _ (by decide +kernel)) ggX5_addBrand_X5_needRange
set_option maxRecDepth 20000 in
theorem ggX5_addBrand_X2_ofAll : GoodIn wsX5_addBrand wsX2_ofAll := goodIn_r _ [18, 19, 20, 21, 16, 22, 23, 62] (by decide +kernel) (by decide +kernel)
set_option maxRecDepth 20000 in
theorem gX5_addBrand_X2_ofAll_n52 : GoodIn wsX5_addBrand (wsX2_ofAll) := ggX5_addBrand_X2_ofAll
set_option maxRecDepth 20000 in
theorem ggX5_addBrand_X5_needState : GoodIn wsX5_addBrand wsX5_needState := goodIn_ca (goodIn_r _ [26, 27, 28] (by decide +kernel) (by decide +kernel)) (goodIn_sub (fun _ h => List.mem_cons_of_mem _ (List.mem_append_right _ h)) (by decide +kernel))
set_option maxRecDepth 20000 in
theorem gX5_addBrand_X5_needState : GoodIn wsX5_addBrand (va_wsS RX5 58 yX5_needState wsX5_needState) := goodIn_app (goodIn_of _ (by decide +kernel)) ggX5_addBrand_X5_needState
set_option maxRecDepth 20000 in
theorem ggX5_addBrand_X1_keep : GoodIn wsX5_addBrand wsX1_keep := goodIn_r _ [32, 33, 34, 35, 36, 37, 30, 38, 39, 40, 16, 41, 42, 23, 43, 44, 45, 46, 63, 64, 65, 62] (by decide +kernel) (by decide +kernel)
set_option maxRecDepth 20000 in
theorem gX5_addBrand_X1_keep_n62 : GoodIn wsX5_addBrand (wsX1_keep) := ggX5_addBrand_X1_keep
set_option maxRecDepth 20000 in
theorem ggX5_addBrand_X2_addToAll : GoodIn wsX5_addBrand wsX2_addToAll := goodIn_r _ [49, 19, 20, 21, 16, 22, 23, 50, 51, 52, 53, 62] (by decide +kernel) (by decide +kernel)
set_option maxRecDepth 20000 in
theorem gX5_addBrand_X2_addToAll_n66 : GoodIn wsX5_addBrand (wsX2_addToAll) := ggX5_addBrand_X2_addToAll
set_option maxRecDepth 20000 in
theorem ggX5_addBrand_X2_addToBrand : GoodIn wsX5_addBrand wsX2_addToBrand := goodIn_r _ [56, 19, 20, 21, 16, 22, 23, 50, 51, 52, 53, 62] (by decide +kernel) (by decide +kernel)
set_option maxRecDepth 20000 in
theorem gX5_addBrand_X2_addToBrand_n70 : GoodIn wsX5_addBrand (wsX2_addToBrand) := ggX5_addBrand_X2_addToBrand
theorem dX5_addBrand_0 : decode cX5_addBrand 0 = .ok (.iload_n 1, 1) := by decide +kernel
theorem dX5_addBrand_1 : decode cX5_addBrand 1 = .ok (.invokestatic 44, 3) := by decide +kernel
theorem dX5_addBrand_4 : decode cX5_addBrand 4 = .ok (.iload_n 2, 1) := by decide +kernel
theorem dX5_addBrand_5 : decode cX5_addBrand 5 = .ok (.iconst 0, 1) := by decide +kernel
theorem dX5_addBrand_6 : decode cX5_addBrand 6 = .ok (.sipush 5000, 3) := by decide +kernel
theorem dX5_addBrand_9 : decode cX5_addBrand 9 = .ok (.invokestatic 48, 3) := by decide +kernel
theorem dX5_addBrand_12 : decode cX5_addBrand 12 = .ok (.aload_n 0, 1) := by decide +kernel
theorem dX5_addBrand_13 : decode cX5_addBrand 13 = .ok (.getfield 20, 3) := by decide +kernel
theorem dX5_addBrand_16 : decode cX5_addBrand 16 = .ok (.iconst 0, 1) := by decide +kernel
theorem dX5_addBrand_17 : decode cX5_addBrand 17 = .ok (.invokevirtual 52, 3) := by decide +kernel
theorem dX5_addBrand_20 : decode cX5_addBrand 20 = .ok (.istore_n 3, 1) := by decide +kernel
theorem dX5_addBrand_21 : decode cX5_addBrand 21 = .ok (.iload_n 3, 1) := by decide +kernel
theorem dX5_addBrand_22 : decode cX5_addBrand 22 = .ok (.bipush 8, 2) := by decide +kernel
theorem dX5_addBrand_24 : decode cX5_addBrand 24 = .ok (.if_icmp .ge 7, 3) := by decide +kernel
theorem dX5_addBrand_27 : decode cX5_addBrand 27 = .ok (.iconst 1, 1) := by decide +kernel
theorem dX5_addBrand_28 : decode cX5_addBrand 28 = .ok (.goto 4, 3) := by decide +kernel
theorem dX5_addBrand_31 : decode cX5_addBrand 31 = .ok (.iconst 0, 1) := by decide +kernel
theorem dX5_addBrand_32 : decode cX5_addBrand 32 = .ok (.invokestatic 58, 3) := by decide +kernel
theorem dX5_addBrand_35 : decode cX5_addBrand 35 = .ok (.aload_n 0, 1) := by decide +kernel
theorem dX5_addBrand_36 : decode cX5_addBrand 36 = .ok (.getfield 26, 3) := by decide +kernel
theorem dX5_addBrand_39 : decode cX5_addBrand 39 = .ok (.aload_n 0, 1) := by decide +kernel
theorem dX5_addBrand_40 : decode cX5_addBrand 40 = .ok (.getfield 20, 3) := by decide +kernel
theorem dX5_addBrand_43 : decode cX5_addBrand 43 = .ok (.invokevirtual 62, 3) := by decide +kernel
theorem dX5_addBrand_46 : decode cX5_addBrand 46 = .ok (.aload_n 0, 1) := by decide +kernel
theorem dX5_addBrand_47 : decode cX5_addBrand 47 = .ok (.getfield 20, 3) := by decide +kernel
theorem dX5_addBrand_50 : decode cX5_addBrand 50 = .ok (.iconst 0, 1) := by decide +kernel
theorem dX5_addBrand_51 : decode cX5_addBrand 51 = .ok (.iconst 1, 1) := by decide +kernel
theorem dX5_addBrand_52 : decode cX5_addBrand 52 = .ok (.invokevirtual 66, 3) := by decide +kernel
theorem dX5_addBrand_55 : decode cX5_addBrand 55 = .ok (.aload_n 0, 1) := by decide +kernel
theorem dX5_addBrand_56 : decode cX5_addBrand 56 = .ok (.getfield 20, 3) := by decide +kernel
theorem dX5_addBrand_59 : decode cX5_addBrand 59 = .ok (.iload_n 3, 1) := by decide +kernel
theorem dX5_addBrand_60 : decode cX5_addBrand 60 = .ok (.iconst 0, 1) := by decide +kernel
theorem dX5_addBrand_61 : decode cX5_addBrand 61 = .ok (.iload_n 1, 1) := by decide +kernel
theorem dX5_addBrand_62 : decode cX5_addBrand 62 = .ok (.invokevirtual 70, 3) := by decide +kernel
theorem dX5_addBrand_65 : decode cX5_addBrand 65 = .ok (.aload_n 0, 1) := by decide +kernel
theorem dX5_addBrand_66 : decode cX5_addBrand 66 = .ok (.getfield 20, 3) := by decide +kernel
theorem dX5_addBrand_69 : decode cX5_addBrand 69 = .ok (.iload_n 3, 1) := by decide +kernel
theorem dX5_addBrand_70 : decode cX5_addBrand 70 = .ok (.iconst 1, 1) := by decide +kernel
theorem dX5_addBrand_71 : decode cX5_addBrand 71 = .ok (.iload_n 2, 1) := by decide +kernel
theorem dX5_addBrand_72 : decode cX5_addBrand 72 = .ok (.invokevirtual 70, 3) := by decide +kernel
theorem dX5_addBrand_75 : decode cX5_addBrand 75 = .ok (.iload_n 3, 1) := by decide +kernel
theorem dX5_addBrand_76 : decode cX5_addBrand 76 = .ok (.ireturn, 1) := by decide +kernel
set_option maxRecDepth 20000 in
theorem ggX5_addShop_X5_needRange : GoodIn wsX5_addShop wsX5_needRange := goodIn_ca (goodIn_r _ [7, 8, 9, 6, 10, 11, 12] (by decide +kernel) (by decide +kernel)) (goodIn_sub (fun _ h => List.mem_cons_of_mem _ (List.mem_append_left _ (List.mem_append_right _ h))) (by decide +kernel))
set_option maxRecDepth 20000 in
theorem gX5_addShop_X5_needRange : GoodIn wsX5_addShop (va_wsS RX5 48 yX5_needRange wsX5_needRange) := goodIn_app (goodIn_of _ (by decide +kernel)) ggX5_addShop_X5_needRange
set_option maxRecDepth 20000 in
theorem ggX5_addShop_X2_ofAll : GoodIn wsX5_addShop wsX2_ofAll := goodIn_r _ [16, 17, 18, 19, 14, 20, 21, 60] (by decide +kernel) (by decide +kernel)
set_option maxRecDepth 20000 in
theorem gX5_addShop_X2_ofAll_n52 : GoodIn wsX5_addShop (wsX2_ofAll) := ggX5_addShop_X2_ofAll
set_option maxRecDepth 20000 in
theorem ggX5_addShop_X5_needState : GoodIn wsX5_addShop wsX5_needState := goodIn_ca (goodIn_r _ [24, 25, 26] (by decide +kernel) (by decide +kernel)) (goodIn_sub (fun _ h => List.mem_cons_of_mem _ (List.mem_append_right _ h)) (by decide +kernel))
set_option maxRecDepth 20000 in
theorem gX5_addShop_X5_needState : GoodIn wsX5_addShop (va_wsS RX5 58 yX5_needState wsX5_needState) := goodIn_app (goodIn_of _ (by decide +kernel)) ggX5_addShop_X5_needState
set_option maxRecDepth 20000 in
theorem ggX5_addShop_X1_keep : GoodIn wsX5_addShop wsX1_keep := goodIn_r _ [30, 31, 32, 33, 34, 35, 28, 36, 37, 38, 14, 39, 40, 21, 41, 42, 43, 44, 61, 62, 63, 60] (by decide +kernel) (by decide +kernel)
set_option maxRecDepth 20000 in
theorem gX5_addShop_X1_keep_n62 : GoodIn wsX5_addShop (wsX1_keep) := ggX5_addShop_X1_keep
set_option maxRecDepth 20000 in
theorem ggX5_addShop_X2_addToAll : GoodIn wsX5_addShop wsX2_addToAll := goodIn_r _ [47, 17, 18, 19, 14, 20, 21, 48, 49, 50, 51, 60] (by decide +kernel) (by decide +kernel)
set_option maxRecDepth 20000 in
theorem gX5_addShop_X2_addToAll_n66 : GoodIn wsX5_addShop (wsX2_addToAll) := ggX5_addShop_X2_addToAll
set_option maxRecDepth 20000 in
theorem ggX5_addShop_X2_addToShop : GoodIn wsX5_addShop wsX2_addToShop := goodIn_r _ [54, 17, 18, 19, 14, 20, 21, 48, 49, 50, 51, 60] (by decide +kernel) (by decide +kernel)
set_option maxRecDepth 20000 in
theorem gX5_addShop_X2_addToShop_n74 : GoodIn wsX5_addShop (wsX2_addToShop) := ggX5_addShop_X2_addToShop
theorem dX5_addShop_0 : decode cX5_addShop 0 = .ok (.iload_n 1, 1) := by decide +kernel
theorem dX5_addShop_1 : decode cX5_addShop 1 = .ok (.iconst 0, 1) := by decide +kernel
theorem dX5_addShop_2 : decode cX5_addShop 2 = .ok (.ldc 73, 2) := by decide +kernel
theorem dX5_addShop_4 : decode cX5_addShop 4 = .ok (.invokestatic 48, 3) := by decide +kernel
theorem dX5_addShop_7 : decode cX5_addShop 7 = .ok (.aload_n 0, 1) := by decide +kernel
theorem dX5_addShop_8 : decode cX5_addShop 8 = .ok (.getfield 20, 3) := by decide +kernel
theorem dX5_addShop_11 : decode cX5_addShop 11 = .ok (.iconst 1, 1) := by decide +kernel
theorem dX5_addShop_12 : decode cX5_addShop 12 = .ok (.invokevirtual 52, 3) := by decide +kernel
theorem dX5_addShop_15 : decode cX5_addShop 15 = .ok (.istore_n 2, 1) := by decide +kernel
theorem dX5_addShop_16 : decode cX5_addShop 16 = .ok (.iload_n 2, 1) := by decide +kernel
theorem dX5_addShop_17 : decode cX5_addShop 17 = .ok (.bipush 6, 2) := by decide +kernel
theorem dX5_addShop_19 : decode cX5_addShop 19 = .ok (.if_icmp .ge 7, 3) := by decide +kernel
theorem dX5_addShop_22 : decode cX5_addShop 22 = .ok (.iconst 1, 1) := by decide +kernel
theorem dX5_addShop_23 : decode cX5_addShop 23 = .ok (.goto 4, 3) := by decide +kernel
theorem dX5_addShop_26 : decode cX5_addShop 26 = .ok (.iconst 0, 1) := by decide +kernel
theorem dX5_addShop_27 : decode cX5_addShop 27 = .ok (.invokestatic 58, 3) := by decide +kernel
theorem dX5_addShop_30 : decode cX5_addShop 30 = .ok (.aload_n 0, 1) := by decide +kernel
theorem dX5_addShop_31 : decode cX5_addShop 31 = .ok (.getfield 26, 3) := by decide +kernel
theorem dX5_addShop_34 : decode cX5_addShop 34 = .ok (.aload_n 0, 1) := by decide +kernel
theorem dX5_addShop_35 : decode cX5_addShop 35 = .ok (.getfield 20, 3) := by decide +kernel
theorem dX5_addShop_38 : decode cX5_addShop 38 = .ok (.invokevirtual 62, 3) := by decide +kernel
theorem dX5_addShop_41 : decode cX5_addShop 41 = .ok (.aload_n 0, 1) := by decide +kernel
theorem dX5_addShop_42 : decode cX5_addShop 42 = .ok (.getfield 20, 3) := by decide +kernel
theorem dX5_addShop_45 : decode cX5_addShop 45 = .ok (.iconst 1, 1) := by decide +kernel
theorem dX5_addShop_46 : decode cX5_addShop 46 = .ok (.iconst 1, 1) := by decide +kernel
theorem dX5_addShop_47 : decode cX5_addShop 47 = .ok (.invokevirtual 66, 3) := by decide +kernel
theorem dX5_addShop_50 : decode cX5_addShop 50 = .ok (.aload_n 0, 1) := by decide +kernel
theorem dX5_addShop_51 : decode cX5_addShop 51 = .ok (.getfield 20, 3) := by decide +kernel
theorem dX5_addShop_54 : decode cX5_addShop 54 = .ok (.iload_n 2, 1) := by decide +kernel
theorem dX5_addShop_55 : decode cX5_addShop 55 = .ok (.iconst 0, 1) := by decide +kernel
theorem dX5_addShop_56 : decode cX5_addShop 56 = .ok (.iload_n 1, 1) := by decide +kernel
theorem dX5_addShop_57 : decode cX5_addShop 57 = .ok (.invokevirtual 74, 3) := by decide +kernel
theorem dX5_addShop_60 : decode cX5_addShop 60 = .ok (.iload_n 2, 1) := by decide +kernel
theorem dX5_addShop_61 : decode cX5_addShop 61 = .ok (.ireturn, 1) := by decide +kernel
set_option maxRecDepth 20000 in
theorem ggX5_buyCrates_X5_needRange : GoodIn wsX5_buyCrates wsX5_needRange := goodIn_ca (goodIn_r _ [6, 7, 8, 5, 9, 10, 11] (by decide +kernel) (by decide +kernel)) (goodIn_sub (fun _ h => List.mem_cons_of_mem _ (List.mem_append_left _ (List.mem_append_right _ h))) (by decide +kernel))
set_option maxRecDepth 20000 in
theorem gX5_buyCrates_X5_needRange : GoodIn wsX5_buyCrates (va_wsS RX5 48 yX5_needRange wsX5_needRange) := goodIn_app (goodIn_of _ (by decide +kernel)) ggX5_buyCrates_X5_needRange
set_option maxRecDepth 20000 in
theorem ggX5_buyCrates_X2_ofAll : GoodIn wsX5_buyCrates wsX2_ofAll := goodIn_r _ [15, 16, 17, 18, 13, 19, 20, 76] (by decide +kernel) (by decide +kernel)
set_option maxRecDepth 20000 in
theorem gX5_buyCrates_X2_ofAll_n52 : GoodIn wsX5_buyCrates (wsX2_ofAll) := ggX5_buyCrates_X2_ofAll
set_option maxRecDepth 20000 in
theorem ggX5_buyCrates_X2_countNumber : GoodIn wsX5_buyCrates wsX2_countNumber := goodIn_r _ [23, 24, 25, 26, 13, 27, 28, 29, 30, 31, 16, 17, 18, 19, 20, 32, 33, 34, 35, 36, 37, 38, 39, 40, 12, 14, 15, 76] (by decide +kernel) (by decide +kernel)
set_option maxRecDepth 20000 in
theorem gX5_buyCrates_X2_countNumber_n77 : GoodIn wsX5_buyCrates (wsX2_countNumber) := ggX5_buyCrates_X2_countNumber
set_option maxRecDepth 20000 in
theorem ggX5_buyCrates_X5_needState : GoodIn wsX5_buyCrates wsX5_needState := goodIn_ca (goodIn_r _ [43, 44, 45] (by decide +kernel) (by decide +kernel)) (goodIn_sub (fun _ h => List.mem_cons_of_mem _ (List.mem_append_right _ h)) (by decide +kernel))
set_option maxRecDepth 20000 in
theorem gX5_buyCrates_X5_needState : GoodIn wsX5_buyCrates (va_wsS RX5 58 yX5_needState wsX5_needState) := goodIn_app (goodIn_of _ (by decide +kernel)) ggX5_buyCrates_X5_needState
set_option maxRecDepth 20000 in
theorem ggX5_buyCrates_X1_keep : GoodIn wsX5_buyCrates wsX1_keep := goodIn_r _ [49, 50, 51, 52, 53, 54, 47, 55, 56, 57, 13, 58, 59, 20, 60, 61, 62, 63, 77, 78, 79, 76] (by decide +kernel) (by decide +kernel)
set_option maxRecDepth 20000 in
theorem gX5_buyCrates_X1_keep_n62 : GoodIn wsX5_buyCrates (wsX1_keep) := ggX5_buyCrates_X1_keep
set_option maxRecDepth 20000 in
theorem ggX5_buyCrates_X2_addToAll : GoodIn wsX5_buyCrates wsX2_addToAll := goodIn_r _ [66, 16, 17, 18, 13, 19, 20, 67, 68, 69, 70, 76] (by decide +kernel) (by decide +kernel)
set_option maxRecDepth 20000 in
theorem gX5_buyCrates_X2_addToAll_n66 : GoodIn wsX5_buyCrates (wsX2_addToAll) := ggX5_buyCrates_X2_addToAll
theorem dX5_buyCrates_0 : decode cX5_buyCrates 0 = .ok (.iload_n 1, 1) := by decide +kernel
theorem dX5_buyCrates_1 : decode cX5_buyCrates 1 = .ok (.iconst 1, 1) := by decide +kernel
theorem dX5_buyCrates_2 : decode cX5_buyCrates 2 = .ok (.sipush 500, 3) := by decide +kernel
theorem dX5_buyCrates_5 : decode cX5_buyCrates 5 = .ok (.invokestatic 48, 3) := by decide +kernel
theorem dX5_buyCrates_8 : decode cX5_buyCrates 8 = .ok (.aload_n 0, 1) := by decide +kernel
theorem dX5_buyCrates_9 : decode cX5_buyCrates 9 = .ok (.getfield 20, 3) := by decide +kernel
theorem dX5_buyCrates_12 : decode cX5_buyCrates 12 = .ok (.iconst 2, 1) := by decide +kernel
theorem dX5_buyCrates_13 : decode cX5_buyCrates 13 = .ok (.invokevirtual 52, 3) := by decide +kernel
theorem dX5_buyCrates_16 : decode cX5_buyCrates 16 = .ok (.aload_n 0, 1) := by decide +kernel
theorem dX5_buyCrates_17 : decode cX5_buyCrates 17 = .ok (.getfield 20, 3) := by decide +kernel
theorem dX5_buyCrates_20 : decode cX5_buyCrates 20 = .ok (.iconst 3, 1) := by decide +kernel
theorem dX5_buyCrates_21 : decode cX5_buyCrates 21 = .ok (.invokevirtual 77, 3) := by decide +kernel
theorem dX5_buyCrates_24 : decode cX5_buyCrates 24 = .ok (.iadd, 1) := by decide +kernel
theorem dX5_buyCrates_25 : decode cX5_buyCrates 25 = .ok (.iload_n 1, 1) := by decide +kernel
theorem dX5_buyCrates_26 : decode cX5_buyCrates 26 = .ok (.iadd, 1) := by decide +kernel
theorem dX5_buyCrates_27 : decode cX5_buyCrates 27 = .ok (.sipush 1000, 3) := by decide +kernel
theorem dX5_buyCrates_30 : decode cX5_buyCrates 30 = .ok (.if_icmp .gt 7, 3) := by decide +kernel
theorem dX5_buyCrates_33 : decode cX5_buyCrates 33 = .ok (.iconst 1, 1) := by decide +kernel
theorem dX5_buyCrates_34 : decode cX5_buyCrates 34 = .ok (.goto 4, 3) := by decide +kernel
theorem dX5_buyCrates_37 : decode cX5_buyCrates 37 = .ok (.iconst 0, 1) := by decide +kernel
theorem dX5_buyCrates_38 : decode cX5_buyCrates 38 = .ok (.invokestatic 58, 3) := by decide +kernel
theorem dX5_buyCrates_41 : decode cX5_buyCrates 41 = .ok (.aload_n 0, 1) := by decide +kernel
theorem dX5_buyCrates_42 : decode cX5_buyCrates 42 = .ok (.getfield 26, 3) := by decide +kernel
theorem dX5_buyCrates_45 : decode cX5_buyCrates 45 = .ok (.aload_n 0, 1) := by decide +kernel
theorem dX5_buyCrates_46 : decode cX5_buyCrates 46 = .ok (.getfield 20, 3) := by decide +kernel
theorem dX5_buyCrates_49 : decode cX5_buyCrates 49 = .ok (.invokevirtual 62, 3) := by decide +kernel
theorem dX5_buyCrates_52 : decode cX5_buyCrates 52 = .ok (.aload_n 0, 1) := by decide +kernel
theorem dX5_buyCrates_53 : decode cX5_buyCrates 53 = .ok (.getfield 20, 3) := by decide +kernel
theorem dX5_buyCrates_56 : decode cX5_buyCrates 56 = .ok (.iconst 2, 1) := by decide +kernel
theorem dX5_buyCrates_57 : decode cX5_buyCrates 57 = .ok (.iload_n 1, 1) := by decide +kernel
theorem dX5_buyCrates_58 : decode cX5_buyCrates 58 = .ok (.invokevirtual 66, 3) := by decide +kernel
theorem dX5_buyCrates_61 : decode cX5_buyCrates 61 = .ok (.aload_n 0, 1) := by decide +kernel
theorem dX5_buyCrates_62 : decode cX5_buyCrates 62 = .ok (.getfield 20, 3) := by decide +kernel
theorem dX5_buyCrates_65 : decode cX5_buyCrates 65 = .ok (.iconst 2, 1) := by decide +kernel
theorem dX5_buyCrates_66 : decode cX5_buyCrates 66 = .ok (.invokevirtual 52, 3) := by decide +kernel
theorem dX5_buyCrates_69 : decode cX5_buyCrates 69 = .ok (.ireturn, 1) := by decide +kernel
set_option maxRecDepth 20000 in
theorem ggX5_set_X5_needSetting : GoodIn wsX5_set wsX5_needSetting := goodIn_ca (goodIn_r _ [8, 9, 10] (by decide +kernel) (by decide +kernel)) (goodIn_sub (fun _ h => List.mem_cons_of_mem _ (List.mem_append_left _ (List.mem_append_left _ (List.mem_append_right _ h)))) (by decide +kernel))
set_option maxRecDepth 20000 in
theorem gX5_set_X5_needSetting : GoodIn wsX5_set (va_wsS RX5 80 yX5_needSetting wsX5_needSetting) := goodIn_app (goodIn_of _ (by decide +kernel)) ggX5_set_X5_needSetting
set_option maxRecDepth 20000 in
theorem ggX5_set_X5_entry : GoodIn wsX5_set wsX5_entry := goodIn_r _ [13] (by decide +kernel) (by decide +kernel)
set_option maxRecDepth 20000 in
theorem gX5_set_X5_entry : GoodIn wsX5_set (va_wsS RX5 87 yX5_entry wsX5_entry) := goodIn_app (goodIn_of _ (by decide +kernel)) ggX5_set_X5_entry
set_option maxRecDepth 20000 in
theorem ggX5_set_X5_needRange : GoodIn wsX5_set wsX5_needRange := goodIn_ca (goodIn_r _ [16, 17, 18, 7, 19, 20, 21] (by decide +kernel) (by decide +kernel)) (goodIn_sub (fun _ h => List.mem_cons_of_mem _ (List.mem_append_left _ (List.mem_append_right _ h))) (by decide +kernel))
set_option maxRecDepth 20000 in
theorem gX5_set_X5_needRange : GoodIn wsX5_set (va_wsS RX5 48 yX5_needRange wsX5_needRange) := goodIn_app (goodIn_of _ (by decide +kernel)) ggX5_set_X5_needRange
set_option maxRecDepth 20000 in
theorem ggX5_set_X2_ofAll : GoodIn wsX5_set wsX2_ofAll := goodIn_r _ [25, 26, 27, 28, 23, 29, 30, 69] (by decide +kernel) (by decide +kernel)
set_option maxRecDepth 20000 in
theorem gX5_set_X2_ofAll_n52 : GoodIn wsX5_set (wsX2_ofAll) := ggX5_set_X2_ofAll
set_option maxRecDepth 20000 in
theorem ggX5_set_X5_needState : GoodIn wsX5_set wsX5_needState := goodIn_ca (goodIn_r _ [33, 34, 35] (by decide +kernel) (by decide +kernel)) (goodIn_sub (fun _ h => List.mem_cons_of_mem _ (List.mem_append_right _ h)) (by decide +kernel))
set_option maxRecDepth 20000 in
theorem gX5_set_X5_needState : GoodIn wsX5_set (va_wsS RX5 58 yX5_needState wsX5_needState) := goodIn_app (goodIn_of _ (by decide +kernel)) ggX5_set_X5_needState
set_option maxRecDepth 20000 in
theorem ggX5_set_X1_keep : GoodIn wsX5_set wsX1_keep := goodIn_r _ [39, 40, 41, 42, 43, 44, 37, 45, 46, 47, 23, 48, 49, 30, 50, 51, 52, 53, 70, 71, 72, 69] (by decide +kernel) (by decide +kernel)
set_option maxRecDepth 20000 in
theorem gX5_set_X1_keep_n62 : GoodIn wsX5_set (wsX1_keep) := ggX5_set_X1_keep
set_option maxRecDepth 20000 in
theorem ggX5_set_X2_ofSetting : GoodIn wsX5_set wsX2_ofSetting := goodIn_r _ [56, 26, 27, 28, 23, 29, 30, 69] (by decide +kernel) (by decide +kernel)
set_option maxRecDepth 20000 in
theorem gX5_set_X2_ofSetting_n94 : GoodIn wsX5_set (wsX2_ofSetting) := ggX5_set_X2_ofSetting
set_option maxRecDepth 20000 in
theorem ggX5_set_X2_putSetting : GoodIn wsX5_set wsX2_putSetting := goodIn_r _ [59, 60, 61, 62, 23, 63, 30, 69] (by decide +kernel) (by decide +kernel)
set_option maxRecDepth 20000 in
theorem gX5_set_X2_putSetting_n97 : GoodIn wsX5_set (wsX2_putSetting) := ggX5_set_X2_putSetting
theorem dX5_set_0 : decode cX5_set 0 = .ok (.iload_n 1, 1) := by decide +kernel
theorem dX5_set_1 : decode cX5_set 1 = .ok (.invokestatic 80, 3) := by decide +kernel
theorem dX5_set_4 : decode cX5_set 4 = .ok (.iload_n 2, 1) := by decide +kernel
theorem dX5_set_5 : decode cX5_set 5 = .ok (.getstatic 83, 3) := by decide +kernel
theorem dX5_set_8 : decode cX5_set 8 = .ok (.iload_n 1, 1) := by decide +kernel
theorem dX5_set_9 : decode cX5_set 9 = .ok (.invokestatic 87, 3) := by decide +kernel
theorem dX5_set_12 : decode cX5_set 12 = .ok (.getstatic 91, 3) := by decide +kernel
theorem dX5_set_15 : decode cX5_set 15 = .ok (.iload_n 1, 1) := by decide +kernel
theorem dX5_set_16 : decode cX5_set 16 = .ok (.invokestatic 87, 3) := by decide +kernel
theorem dX5_set_19 : decode cX5_set 19 = .ok (.invokestatic 48, 3) := by decide +kernel
theorem dX5_set_22 : decode cX5_set 22 = .ok (.iload_n 1, 1) := by decide +kernel
theorem dX5_set_23 : decode cX5_set 23 = .ok (.iconst 3, 1) := by decide +kernel
theorem dX5_set_24 : decode cX5_set 24 = .ok (.if_icmp .gt 14, 3) := by decide +kernel
theorem dX5_set_27 : decode cX5_set 27 = .ok (.aload_n 0, 1) := by decide +kernel
theorem dX5_set_28 : decode cX5_set 28 = .ok (.getfield 20, 3) := by decide +kernel
theorem dX5_set_31 : decode cX5_set 31 = .ok (.iconst 4, 1) := by decide +kernel
theorem dX5_set_32 : decode cX5_set 32 = .ok (.invokevirtual 52, 3) := by decide +kernel
theorem dX5_set_35 : decode cX5_set 35 = .ok (.ifCond .ne 7, 3) := by decide +kernel
theorem dX5_set_38 : decode cX5_set 38 = .ok (.iconst 1, 1) := by decide +kernel
theorem dX5_set_39 : decode cX5_set 39 = .ok (.goto 4, 3) := by decide +kernel
theorem dX5_set_42 : decode cX5_set 42 = .ok (.iconst 0, 1) := by decide +kernel
theorem dX5_set_43 : decode cX5_set 43 = .ok (.invokestatic 58, 3) := by decide +kernel
theorem dX5_set_46 : decode cX5_set 46 = .ok (.aload_n 0, 1) := by decide +kernel
theorem dX5_set_47 : decode cX5_set 47 = .ok (.getfield 26, 3) := by decide +kernel
theorem dX5_set_50 : decode cX5_set 50 = .ok (.aload_n 0, 1) := by decide +kernel
theorem dX5_set_51 : decode cX5_set 51 = .ok (.getfield 20, 3) := by decide +kernel
theorem dX5_set_54 : decode cX5_set 54 = .ok (.invokevirtual 62, 3) := by decide +kernel
theorem dX5_set_57 : decode cX5_set 57 = .ok (.aload_n 0, 1) := by decide +kernel
theorem dX5_set_58 : decode cX5_set 58 = .ok (.getfield 20, 3) := by decide +kernel
theorem dX5_set_61 : decode cX5_set 61 = .ok (.iload_n 1, 1) := by decide +kernel
theorem dX5_set_62 : decode cX5_set 62 = .ok (.invokevirtual 94, 3) := by decide +kernel
theorem dX5_set_65 : decode cX5_set 65 = .ok (.istore_n 3, 1) := by decide +kernel
theorem dX5_set_66 : decode cX5_set 66 = .ok (.aload_n 0, 1) := by decide +kernel
theorem dX5_set_67 : decode cX5_set 67 = .ok (.getfield 20, 3) := by decide +kernel
theorem dX5_set_70 : decode cX5_set 70 = .ok (.iload_n 1, 1) := by decide +kernel
theorem dX5_set_71 : decode cX5_set 71 = .ok (.iload_n 2, 1) := by decide +kernel
theorem dX5_set_72 : decode cX5_set 72 = .ok (.invokevirtual 97, 3) := by decide +kernel
theorem dX5_set_75 : decode cX5_set 75 = .ok (.iload_n 3, 1) := by decide +kernel
theorem dX5_set_76 : decode cX5_set 76 = .ok (.ireturn, 1) := by decide +kernel
set_option maxRecDepth 20000 in
theorem ggX5_fill_X5_needBrand : GoodIn wsX5_fill wsX5_needBrand := goodIn_ca (goodIn_r _ [8, 9, 10, 11, 12, 13, 7, 14, 1, 15, 16, 17, 18, 19, 20, 21, 22, 23, 77, 78, 79, 80, 81, 82] (by decide +kernel) (by decide +kernel)) (goodIn_sub (fun _ h => List.mem_cons_of_mem _ (List.mem_append_left _ (List.mem_append_left _ (List.mem_append_right _ h)))) (by decide +kernel))
set_option maxRecDepth 20000 in
theorem gX5_fill_X5_needBrand : GoodIn wsX5_fill (wsV RX5 100 RX5 yX5_needBrand wsX5_needBrand) := goodIn_app (goodIn_of _ (by decide +kernel)) ggX5_fill_X5_needBrand
set_option maxRecDepth 20000 in
theorem ggX5_fill_X5_needRange : GoodIn wsX5_fill wsX5_needRange := goodIn_ca (goodIn_r _ [26, 27, 28, 7, 29, 30, 31] (by decide +kernel) (by decide +kernel)) (goodIn_sub (fun _ h => List.mem_cons_of_mem _ (List.mem_append_left _ (List.mem_append_right _ h))) (by decide +kernel))
set_option maxRecDepth 20000 in
theorem gX5_fill_X5_needRange : GoodIn wsX5_fill (va_wsS RX5 48 yX5_needRange wsX5_needRange) := goodIn_app (goodIn_of _ (by decide +kernel)) ggX5_fill_X5_needRange
set_option maxRecDepth 20000 in
theorem ggX5_fill_X2_ofBrand : GoodIn wsX5_fill wsX2_ofBrand := goodIn_r _ [34, 19, 20, 21, 16, 22, 23, 82] (by decide +kernel) (by decide +kernel)
set_option maxRecDepth 20000 in
theorem gX5_fill_X2_ofBrand_n103 : GoodIn wsX5_fill (wsX2_ofBrand) := ggX5_fill_X2_ofBrand
set_option maxRecDepth 20000 in
theorem ggX5_fill_X5_needState : GoodIn wsX5_fill wsX5_needState := goodIn_ca (goodIn_r _ [37, 38, 39] (by decide +kernel) (by decide +kernel)) (goodIn_sub (fun _ h => List.mem_cons_of_mem _ (List.mem_append_right _ h)) (by decide +kernel))
set_option maxRecDepth 20000 in
theorem gX5_fill_X5_needState : GoodIn wsX5_fill (va_wsS RX5 58 yX5_needState wsX5_needState) := goodIn_app (goodIn_of _ (by decide +kernel)) ggX5_fill_X5_needState
set_option maxRecDepth 20000 in
theorem ggX5_fill_X1_keep : GoodIn wsX5_fill wsX1_keep := goodIn_r _ [43, 44, 45, 46, 47, 48, 41, 49, 50, 51, 16, 52, 53, 23, 54, 55, 56, 57, 83, 84, 85, 82] (by decide +kernel) (by decide +kernel)
set_option maxRecDepth 20000 in
theorem gX5_fill_X1_keep_n62 : GoodIn wsX5_fill (wsX1_keep) := ggX5_fill_X1_keep
set_option maxRecDepth 20000 in
theorem ggX5_fill_X4_fillBottles : GoodIn wsX5_fill wsX4_fillBottles := goodIn_r _ [61, 62, 63, 64, 65, 59, 66, 67, 16, 68, 69, 19, 20, 21, 22, 23, 32, 33, 34, 70, 71, 72, 73, 74, 75, 76, 86, 87, 82] (by decide +kernel) (by decide +kernel)
set_option maxRecDepth 20000 in
theorem gX5_fill_X4_fillBottles_n107 : GoodIn wsX5_fill (wsX4_fillBottles) := ggX5_fill_X4_fillBottles
theorem dX5_fill_0 : decode cX5_fill 0 = .ok (.aload_n 0, 1) := by decide +kernel
theorem dX5_fill_1 : decode cX5_fill 1 = .ok (.iload_n 1, 1) := by decide +kernel
theorem dX5_fill_2 : decode cX5_fill 2 = .ok (.invokevirtual 100, 3) := by decide +kernel
theorem dX5_fill_5 : decode cX5_fill 5 = .ok (.iload_n 2, 1) := by decide +kernel
theorem dX5_fill_6 : decode cX5_fill 6 = .ok (.iconst 1, 1) := by decide +kernel
theorem dX5_fill_7 : decode cX5_fill 7 = .ok (.sipush 5000, 3) := by decide +kernel
theorem dX5_fill_10 : decode cX5_fill 10 = .ok (.invokestatic 48, 3) := by decide +kernel
theorem dX5_fill_13 : decode cX5_fill 13 = .ok (.aload_n 0, 1) := by decide +kernel
theorem dX5_fill_14 : decode cX5_fill 14 = .ok (.getfield 20, 3) := by decide +kernel
theorem dX5_fill_17 : decode cX5_fill 17 = .ok (.iload_n 1, 1) := by decide +kernel
theorem dX5_fill_18 : decode cX5_fill 18 = .ok (.iconst 1, 1) := by decide +kernel
theorem dX5_fill_19 : decode cX5_fill 19 = .ok (.invokevirtual 103, 3) := by decide +kernel
theorem dX5_fill_22 : decode cX5_fill 22 = .ok (.iload_n 2, 1) := by decide +kernel
theorem dX5_fill_23 : decode cX5_fill 23 = .ok (.if_icmp .lt 7, 3) := by decide +kernel
theorem dX5_fill_26 : decode cX5_fill 26 = .ok (.iconst 1, 1) := by decide +kernel
theorem dX5_fill_27 : decode cX5_fill 27 = .ok (.goto 4, 3) := by decide +kernel
theorem dX5_fill_30 : decode cX5_fill 30 = .ok (.iconst 0, 1) := by decide +kernel
theorem dX5_fill_31 : decode cX5_fill 31 = .ok (.invokestatic 58, 3) := by decide +kernel
theorem dX5_fill_34 : decode cX5_fill 34 = .ok (.aload_n 0, 1) := by decide +kernel
theorem dX5_fill_35 : decode cX5_fill 35 = .ok (.getfield 26, 3) := by decide +kernel
theorem dX5_fill_38 : decode cX5_fill 38 = .ok (.aload_n 0, 1) := by decide +kernel
theorem dX5_fill_39 : decode cX5_fill 39 = .ok (.getfield 20, 3) := by decide +kernel
theorem dX5_fill_42 : decode cX5_fill 42 = .ok (.invokevirtual 62, 3) := by decide +kernel
theorem dX5_fill_45 : decode cX5_fill 45 = .ok (.aload_n 0, 1) := by decide +kernel
theorem dX5_fill_46 : decode cX5_fill 46 = .ok (.getfield 12, 3) := by decide +kernel
theorem dX5_fill_49 : decode cX5_fill 49 = .ok (.iload_n 1, 1) := by decide +kernel
theorem dX5_fill_50 : decode cX5_fill 50 = .ok (.iload_n 2, 1) := by decide +kernel
theorem dX5_fill_51 : decode cX5_fill 51 = .ok (.invokevirtual 107, 3) := by decide +kernel
theorem dX5_fill_54 : decode cX5_fill 54 = .ok (.ireturn, 1) := by decide +kernel
set_option maxRecDepth 20000 in
theorem ggX5_deliver_X5_needBrand : GoodIn wsX5_deliver wsX5_needBrand := goodIn_ca (goodIn_r _ [8, 9, 10, 11, 12, 13, 7, 14, 3, 15, 16, 17, 18, 19, 20, 21, 22, 23, 101, 102, 103, 104, 105, 106] (by decide +kernel) (by decide +kernel)) (goodIn_sub (fun _ h => List.mem_cons_of_mem _ (List.mem_append_left _ (List.mem_append_left _ (List.mem_append_right _ h)))) (by decide +kernel))
set_option maxRecDepth 20000 in
theorem gX5_deliver_X5_needBrand : GoodIn wsX5_deliver (wsV RX5 100 RX5 yX5_needBrand wsX5_needBrand) := goodIn_app (goodIn_of _ (by decide +kernel)) ggX5_deliver_X5_needBrand
set_option maxRecDepth 20000 in
theorem ggX5_deliver_X5_needShop : GoodIn wsX5_deliver wsX5_needShop := goodIn_ca (goodIn_r _ [27, 9, 10, 28, 29, 30, 7, 31, 3, 15, 16, 17, 18, 19, 20, 21, 22, 23, 101, 102, 103, 104, 105, 106] (by decide +kernel) (by decide +kernel)) (goodIn_sub (fun _ h => List.mem_cons_of_mem _ (List.mem_append_left _ (List.mem_append_left _ (List.mem_append_right _ h)))) (by decide +kernel))
set_option maxRecDepth 20000 in
theorem gX5_deliver_X5_needShop : GoodIn wsX5_deliver (wsV RX5 110 RX5 yX5_needShop wsX5_needShop) := goodIn_app (goodIn_of _ (by decide +kernel)) ggX5_deliver_X5_needShop
set_option maxRecDepth 20000 in
theorem ggX5_deliver_X5_needRange : GoodIn wsX5_deliver wsX5_needRange := goodIn_ca (goodIn_r _ [34, 35, 36, 7, 37, 38, 39] (by decide +kernel) (by decide +kernel)) (goodIn_sub (fun _ h => List.mem_cons_of_mem _ (List.mem_append_left _ (List.mem_append_right _ h))) (by decide +kernel))
set_option maxRecDepth 20000 in
theorem gX5_deliver_X5_needRange : GoodIn wsX5_deliver (va_wsS RX5 48 yX5_needRange wsX5_needRange) := goodIn_app (goodIn_of _ (by decide +kernel)) ggX5_deliver_X5_needRange
set_option maxRecDepth 20000 in
theorem ggX5_deliver_X4_deliverReason : GoodIn wsX5_deliver wsX4_deliverReason := goodIn_r _ [43, 44, 45, 16, 46, 47, 19, 20, 21, 22, 23, 15, 17, 18, 48, 49, 50, 51, 52, 53, 41, 54, 55, 56, 57, 58, 59, 60, 61, 107, 108, 106] (by decide +kernel) (by decide +kernel)
set_option maxRecDepth 20000 in
theorem gX5_deliver_X4_deliverReason_n113 : GoodIn wsX5_deliver (wsX4_deliverReason) := ggX5_deliver_X4_deliverReason
set_option maxRecDepth 20000 in
theorem ggX5_deliver_X5_needState : GoodIn wsX5_deliver wsX5_needState := goodIn_ca (goodIn_r _ [64, 65, 66] (by decide +kernel) (by decide +kernel)) (goodIn_sub (fun _ h => List.mem_cons_of_mem _ (List.mem_append_right _ h)) (by decide +kernel))
set_option maxRecDepth 20000 in
theorem gX5_deliver_X5_needState : GoodIn wsX5_deliver (va_wsS RX5 58 yX5_needState wsX5_needState) := goodIn_app (goodIn_of _ (by decide +kernel)) ggX5_deliver_X5_needState
set_option maxRecDepth 20000 in
theorem ggX5_deliver_X1_keep : GoodIn wsX5_deliver wsX1_keep := goodIn_r _ [70, 71, 72, 73, 74, 75, 68, 76, 77, 78, 16, 79, 80, 23, 81, 82, 83, 84, 109, 110, 111, 106] (by decide +kernel) (by decide +kernel)
set_option maxRecDepth 20000 in
theorem gX5_deliver_X1_keep_n62 : GoodIn wsX5_deliver (wsX1_keep) := ggX5_deliver_X1_keep
set_option maxRecDepth 20000 in
theorem ggX5_deliver_X4_deliverCrates : GoodIn wsX5_deliver wsX4_deliverCrates := goodIn_r _ [87, 44, 45, 16, 46, 47, 19, 20, 21, 22, 23, 55, 56, 57, 41, 58, 59, 60, 61, 88, 89, 90, 91, 92, 93, 94, 95, 96, 97, 98, 99, 100, 107, 108, 106] (by decide +kernel) (by decide +kernel)
set_option maxRecDepth 20000 in
theorem gX5_deliver_X4_deliverCrates_n117 : GoodIn wsX5_deliver (wsX4_deliverCrates) := ggX5_deliver_X4_deliverCrates
theorem dX5_deliver_0 : decode cX5_deliver 0 = .ok (.aload_n 0, 1) := by decide +kernel
theorem dX5_deliver_1 : decode cX5_deliver 1 = .ok (.iload_n 1, 1) := by decide +kernel
theorem dX5_deliver_2 : decode cX5_deliver 2 = .ok (.invokevirtual 100, 3) := by decide +kernel
theorem dX5_deliver_5 : decode cX5_deliver 5 = .ok (.aload_n 0, 1) := by decide +kernel
theorem dX5_deliver_6 : decode cX5_deliver 6 = .ok (.iload_n 2, 1) := by decide +kernel
theorem dX5_deliver_7 : decode cX5_deliver 7 = .ok (.invokevirtual 110, 3) := by decide +kernel
theorem dX5_deliver_10 : decode cX5_deliver 10 = .ok (.iload_n 3, 1) := by decide +kernel
theorem dX5_deliver_11 : decode cX5_deliver 11 = .ok (.iconst 1, 1) := by decide +kernel
theorem dX5_deliver_12 : decode cX5_deliver 12 = .ok (.bipush 50, 2) := by decide +kernel
theorem dX5_deliver_14 : decode cX5_deliver 14 = .ok (.invokestatic 48, 3) := by decide +kernel
theorem dX5_deliver_17 : decode cX5_deliver 17 = .ok (.aload_n 0, 1) := by decide +kernel
theorem dX5_deliver_18 : decode cX5_deliver 18 = .ok (.getfield 12, 3) := by decide +kernel
theorem dX5_deliver_21 : decode cX5_deliver 21 = .ok (.iload_n 1, 1) := by decide +kernel
theorem dX5_deliver_22 : decode cX5_deliver 22 = .ok (.iload_n 2, 1) := by decide +kernel
theorem dX5_deliver_23 : decode cX5_deliver 23 = .ok (.iload_n 3, 1) := by decide +kernel
theorem dX5_deliver_24 : decode cX5_deliver 24 = .ok (.invokevirtual 113, 3) := by decide +kernel
theorem dX5_deliver_27 : decode cX5_deliver 27 = .ok (.ifCond .ne 7, 3) := by decide +kernel
theorem dX5_deliver_30 : decode cX5_deliver 30 = .ok (.iconst 1, 1) := by decide +kernel
theorem dX5_deliver_31 : decode cX5_deliver 31 = .ok (.goto 4, 3) := by decide +kernel
theorem dX5_deliver_34 : decode cX5_deliver 34 = .ok (.iconst 0, 1) := by decide +kernel
theorem dX5_deliver_35 : decode cX5_deliver 35 = .ok (.invokestatic 58, 3) := by decide +kernel
theorem dX5_deliver_38 : decode cX5_deliver 38 = .ok (.aload_n 0, 1) := by decide +kernel
theorem dX5_deliver_39 : decode cX5_deliver 39 = .ok (.getfield 26, 3) := by decide +kernel
theorem dX5_deliver_42 : decode cX5_deliver 42 = .ok (.aload_n 0, 1) := by decide +kernel
theorem dX5_deliver_43 : decode cX5_deliver 43 = .ok (.getfield 20, 3) := by decide +kernel
theorem dX5_deliver_46 : decode cX5_deliver 46 = .ok (.invokevirtual 62, 3) := by decide +kernel
theorem dX5_deliver_49 : decode cX5_deliver 49 = .ok (.aload_n 0, 1) := by decide +kernel
theorem dX5_deliver_50 : decode cX5_deliver 50 = .ok (.getfield 12, 3) := by decide +kernel
theorem dX5_deliver_53 : decode cX5_deliver 53 = .ok (.iload_n 1, 1) := by decide +kernel
theorem dX5_deliver_54 : decode cX5_deliver 54 = .ok (.iload_n 2, 1) := by decide +kernel
theorem dX5_deliver_55 : decode cX5_deliver 55 = .ok (.iload_n 3, 1) := by decide +kernel
theorem dX5_deliver_56 : decode cX5_deliver 56 = .ok (.invokevirtual 117, 3) := by decide +kernel
theorem dX5_deliver_59 : decode cX5_deliver 59 = .ok (.ireturn, 1) := by decide +kernel
set_option maxRecDepth 20000 in
theorem ggX5_sell_X5_needShop : GoodIn wsX5_sell wsX5_needShop := goodIn_ca (goodIn_r _ [8, 9, 10, 11, 12, 13, 7, 14, 3, 15, 16, 17, 18, 19, 20, 21, 22, 23, 97, 98, 99, 100, 101, 102] (by decide +kernel) (by decide +kernel)) (goodIn_sub (fun _ h => List.mem_cons_of_mem _ (List.mem_append_left _ (List.mem_append_left _ (List.mem_append_right _ h)))) (by decide +kernel))
set_option maxRecDepth 20000 in
theorem gX5_sell_X5_needShop : GoodIn wsX5_sell (wsV RX5 110 RX5 yX5_needShop wsX5_needShop) := goodIn_app (goodIn_of _ (by decide +kernel)) ggX5_sell_X5_needShop
set_option maxRecDepth 20000 in
theorem ggX5_sell_X5_needBrand : GoodIn wsX5_sell wsX5_needBrand := goodIn_ca (goodIn_r _ [27, 9, 10, 28, 29, 30, 7, 31, 3, 15, 16, 17, 18, 19, 20, 21, 22, 23, 97, 98, 99, 100, 101, 102] (by decide +kernel) (by decide +kernel)) (goodIn_sub (fun _ h => List.mem_cons_of_mem _ (List.mem_append_left _ (List.mem_append_left _ (List.mem_append_right _ h)))) (by decide +kernel))
set_option maxRecDepth 20000 in
theorem gX5_sell_X5_needBrand : GoodIn wsX5_sell (wsV RX5 100 RX5 yX5_needBrand wsX5_needBrand) := goodIn_app (goodIn_of _ (by decide +kernel)) ggX5_sell_X5_needBrand
set_option maxRecDepth 20000 in
theorem ggX5_sell_X5_needRange : GoodIn wsX5_sell wsX5_needRange := goodIn_ca (goodIn_r _ [34, 35, 36, 7, 37, 38, 39] (by decide +kernel) (by decide +kernel)) (goodIn_sub (fun _ h => List.mem_cons_of_mem _ (List.mem_append_left _ (List.mem_append_right _ h))) (by decide +kernel))
set_option maxRecDepth 20000 in
theorem gX5_sell_X5_needRange : GoodIn wsX5_sell (va_wsS RX5 48 yX5_needRange wsX5_needRange) := goodIn_app (goodIn_of _ (by decide +kernel)) ggX5_sell_X5_needRange
set_option maxRecDepth 20000 in
theorem ggX5_sell_X4_sellReason : GoodIn wsX5_sell wsX4_sellReason := goodIn_r _ [43, 44, 45, 16, 46, 47, 19, 20, 21, 22, 23, 48, 49, 41, 50, 103, 104, 102] (by decide +kernel) (by decide +kernel)
set_option maxRecDepth 20000 in
theorem gX5_sell_X4_sellReason_n120 : GoodIn wsX5_sell (wsX4_sellReason) := ggX5_sell_X4_sellReason
set_option maxRecDepth 20000 in
theorem ggX5_sell_X5_needState : GoodIn wsX5_sell wsX5_needState := goodIn_ca (goodIn_r _ [53, 54, 55] (by decide +kernel) (by decide +kernel)) (goodIn_sub (fun _ h => List.mem_cons_of_mem _ (List.mem_append_right _ h)) (by decide +kernel))
set_option maxRecDepth 20000 in
theorem gX5_sell_X5_needState : GoodIn wsX5_sell (va_wsS RX5 58 yX5_needState wsX5_needState) := goodIn_app (goodIn_of _ (by decide +kernel)) ggX5_sell_X5_needState
set_option maxRecDepth 20000 in
theorem ggX5_sell_X1_keep : GoodIn wsX5_sell wsX1_keep := goodIn_r _ [59, 60, 61, 62, 63, 64, 57, 65, 66, 67, 16, 68, 69, 23, 70, 71, 72, 73, 105, 106, 107, 102] (by decide +kernel) (by decide +kernel)
set_option maxRecDepth 20000 in
theorem gX5_sell_X1_keep_n62 : GoodIn wsX5_sell (wsX1_keep) := ggX5_sell_X1_keep
set_option maxRecDepth 20000 in
theorem ggX5_sell_X4_sellBottles : GoodIn wsX5_sell wsX4_sellBottles := goodIn_r _ [76, 44, 77, 16, 78, 79, 19, 20, 21, 22, 23, 80, 81, 82, 83, 84, 85, 86, 87, 88, 89, 41, 90, 91, 92, 93, 94, 95, 96, 45, 46, 47, 103, 104, 102] (by decide +kernel) (by decide +kernel)
set_option maxRecDepth 20000 in
theorem gX5_sell_X4_sellBottles_n123 : GoodIn wsX5_sell (wsX4_sellBottles) := ggX5_sell_X4_sellBottles
theorem dX5_sell_0 : decode cX5_sell 0 = .ok (.aload_n 0, 1) := by decide +kernel
theorem dX5_sell_1 : decode cX5_sell 1 = .ok (.iload_n 1, 1) := by decide +kernel
theorem dX5_sell_2 : decode cX5_sell 2 = .ok (.invokevirtual 110, 3) := by decide +kernel
theorem dX5_sell_5 : decode cX5_sell 5 = .ok (.aload_n 0, 1) := by decide +kernel
theorem dX5_sell_6 : decode cX5_sell 6 = .ok (.iload_n 2, 1) := by decide +kernel
theorem dX5_sell_7 : decode cX5_sell 7 = .ok (.invokevirtual 100, 3) := by decide +kernel
theorem dX5_sell_10 : decode cX5_sell 10 = .ok (.iload_n 3, 1) := by decide +kernel
theorem dX5_sell_11 : decode cX5_sell 11 = .ok (.iconst 1, 1) := by decide +kernel
theorem dX5_sell_12 : decode cX5_sell 12 = .ok (.sipush 500, 3) := by decide +kernel
theorem dX5_sell_15 : decode cX5_sell 15 = .ok (.invokestatic 48, 3) := by decide +kernel
theorem dX5_sell_18 : decode cX5_sell 18 = .ok (.aload_n 0, 1) := by decide +kernel
theorem dX5_sell_19 : decode cX5_sell 19 = .ok (.getfield 12, 3) := by decide +kernel
theorem dX5_sell_22 : decode cX5_sell 22 = .ok (.iload_n 1, 1) := by decide +kernel
theorem dX5_sell_23 : decode cX5_sell 23 = .ok (.iload_n 2, 1) := by decide +kernel
theorem dX5_sell_24 : decode cX5_sell 24 = .ok (.iload_n 3, 1) := by decide +kernel
theorem dX5_sell_25 : decode cX5_sell 25 = .ok (.invokevirtual 120, 3) := by decide +kernel
theorem dX5_sell_28 : decode cX5_sell 28 = .ok (.ifCond .ne 7, 3) := by decide +kernel
theorem dX5_sell_31 : decode cX5_sell 31 = .ok (.iconst 1, 1) := by decide +kernel
theorem dX5_sell_32 : decode cX5_sell 32 = .ok (.goto 4, 3) := by decide +kernel
theorem dX5_sell_35 : decode cX5_sell 35 = .ok (.iconst 0, 1) := by decide +kernel
theorem dX5_sell_36 : decode cX5_sell 36 = .ok (.invokestatic 58, 3) := by decide +kernel
theorem dX5_sell_39 : decode cX5_sell 39 = .ok (.aload_n 0, 1) := by decide +kernel
theorem dX5_sell_40 : decode cX5_sell 40 = .ok (.getfield 26, 3) := by decide +kernel
theorem dX5_sell_43 : decode cX5_sell 43 = .ok (.aload_n 0, 1) := by decide +kernel
theorem dX5_sell_44 : decode cX5_sell 44 = .ok (.getfield 20, 3) := by decide +kernel
theorem dX5_sell_47 : decode cX5_sell 47 = .ok (.invokevirtual 62, 3) := by decide +kernel
theorem dX5_sell_50 : decode cX5_sell 50 = .ok (.aload_n 0, 1) := by decide +kernel
theorem dX5_sell_51 : decode cX5_sell 51 = .ok (.getfield 12, 3) := by decide +kernel
theorem dX5_sell_54 : decode cX5_sell 54 = .ok (.iload_n 1, 1) := by decide +kernel
theorem dX5_sell_55 : decode cX5_sell 55 = .ok (.iload_n 2, 1) := by decide +kernel
theorem dX5_sell_56 : decode cX5_sell 56 = .ok (.iload_n 3, 1) := by decide +kernel
theorem dX5_sell_57 : decode cX5_sell 57 = .ok (.invokevirtual 123, 3) := by decide +kernel
theorem dX5_sell_60 : decode cX5_sell 60 = .ok (.ireturn, 1) := by decide +kernel
set_option maxRecDepth 20000 in
theorem ggX5_takeBack_X5_needShop : GoodIn wsX5_takeBack wsX5_needShop := goodIn_ca (goodIn_r _ [8, 9, 10, 11, 12, 13, 7, 14, 3, 15, 16, 17, 18, 19, 20, 21, 22, 23, 94, 95, 96, 97, 98, 99] (by decide +kernel) (by decide +kernel)) (goodIn_sub (fun _ h => List.mem_cons_of_mem _ (List.mem_append_left _ (List.mem_append_left _ (List.mem_append_right _ h)))) (by decide +kernel))
set_option maxRecDepth 20000 in
theorem gX5_takeBack_X5_needShop : GoodIn wsX5_takeBack (wsV RX5 110 RX5 yX5_needShop wsX5_needShop) := goodIn_app (goodIn_of _ (by decide +kernel)) ggX5_takeBack_X5_needShop
set_option maxRecDepth 20000 in
theorem ggX5_takeBack_X5_needBrand : GoodIn wsX5_takeBack wsX5_needBrand := goodIn_ca (goodIn_r _ [27, 9, 10, 28, 29, 30, 7, 31, 3, 15, 16, 17, 18, 19, 20, 21, 22, 23, 94, 95, 96, 97, 98, 99] (by decide +kernel) (by decide +kernel)) (goodIn_sub (fun _ h => List.mem_cons_of_mem _ (List.mem_append_left _ (List.mem_append_left _ (List.mem_append_right _ h)))) (by decide +kernel))
set_option maxRecDepth 20000 in
theorem gX5_takeBack_X5_needBrand : GoodIn wsX5_takeBack (wsV RX5 100 RX5 yX5_needBrand wsX5_needBrand) := goodIn_app (goodIn_of _ (by decide +kernel)) ggX5_takeBack_X5_needBrand
set_option maxRecDepth 20000 in
theorem ggX5_takeBack_X5_needRange : GoodIn wsX5_takeBack wsX5_needRange := goodIn_ca (goodIn_r _ [34, 35, 36, 7, 37, 38, 39] (by decide +kernel) (by decide +kernel)) (goodIn_sub (fun _ h => List.mem_cons_of_mem _ (List.mem_append_left _ (List.mem_append_right _ h))) (by decide +kernel))
set_option maxRecDepth 20000 in
theorem gX5_takeBack_X5_needRange : GoodIn wsX5_takeBack (va_wsS RX5 48 yX5_needRange wsX5_needRange) := goodIn_app (goodIn_of _ (by decide +kernel)) ggX5_takeBack_X5_needRange
set_option maxRecDepth 20000 in
theorem ggX5_takeBack_X4_returnReason : GoodIn wsX5_takeBack wsX4_returnReason := goodIn_r _ [43, 44, 45, 16, 46, 47, 19, 20, 21, 22, 23, 48, 49, 50, 51, 52, 53, 41, 54, 55, 56, 57, 100, 101, 99] (by decide +kernel) (by decide +kernel)
set_option maxRecDepth 20000 in
theorem gX5_takeBack_X4_returnReason_n126 : GoodIn wsX5_takeBack (wsX4_returnReason) := ggX5_takeBack_X4_returnReason
set_option maxRecDepth 20000 in
theorem ggX5_takeBack_X5_needState : GoodIn wsX5_takeBack wsX5_needState := goodIn_ca (goodIn_r _ [60, 61, 62] (by decide +kernel) (by decide +kernel)) (goodIn_sub (fun _ h => List.mem_cons_of_mem _ (List.mem_append_right _ h)) (by decide +kernel))
set_option maxRecDepth 20000 in
theorem gX5_takeBack_X5_needState : GoodIn wsX5_takeBack (va_wsS RX5 58 yX5_needState wsX5_needState) := goodIn_app (goodIn_of _ (by decide +kernel)) ggX5_takeBack_X5_needState
set_option maxRecDepth 20000 in
theorem ggX5_takeBack_X1_keep : GoodIn wsX5_takeBack wsX1_keep := goodIn_r _ [66, 67, 68, 69, 70, 71, 64, 72, 73, 74, 16, 75, 76, 23, 77, 78, 79, 80, 102, 103, 104, 99] (by decide +kernel) (by decide +kernel)
set_option maxRecDepth 20000 in
theorem gX5_takeBack_X1_keep_n62 : GoodIn wsX5_takeBack (wsX1_keep) := ggX5_takeBack_X1_keep
set_option maxRecDepth 20000 in
theorem ggX5_takeBack_X4_returnBottles : GoodIn wsX5_takeBack wsX4_returnBottles := goodIn_r _ [83, 44, 84, 16, 85, 86, 19, 20, 21, 22, 23, 87, 88, 89, 90, 91, 92, 93, 51, 52, 53, 41, 54, 45, 46, 47, 55, 56, 57, 48, 49, 50, 100, 101, 99] (by decide +kernel) (by decide +kernel)
set_option maxRecDepth 20000 in
theorem gX5_takeBack_X4_returnBottles_n129 : GoodIn wsX5_takeBack (wsX4_returnBottles) := ggX5_takeBack_X4_returnBottles
theorem dX5_takeBack_0 : decode cX5_takeBack 0 = .ok (.aload_n 0, 1) := by decide +kernel
theorem dX5_takeBack_1 : decode cX5_takeBack 1 = .ok (.iload_n 1, 1) := by decide +kernel
theorem dX5_takeBack_2 : decode cX5_takeBack 2 = .ok (.invokevirtual 110, 3) := by decide +kernel
theorem dX5_takeBack_5 : decode cX5_takeBack 5 = .ok (.aload_n 0, 1) := by decide +kernel
theorem dX5_takeBack_6 : decode cX5_takeBack 6 = .ok (.iload_n 2, 1) := by decide +kernel
theorem dX5_takeBack_7 : decode cX5_takeBack 7 = .ok (.invokevirtual 100, 3) := by decide +kernel
theorem dX5_takeBack_10 : decode cX5_takeBack 10 = .ok (.iload_n 3, 1) := by decide +kernel
theorem dX5_takeBack_11 : decode cX5_takeBack 11 = .ok (.iconst 1, 1) := by decide +kernel
theorem dX5_takeBack_12 : decode cX5_takeBack 12 = .ok (.sipush 500, 3) := by decide +kernel
theorem dX5_takeBack_15 : decode cX5_takeBack 15 = .ok (.invokestatic 48, 3) := by decide +kernel
theorem dX5_takeBack_18 : decode cX5_takeBack 18 = .ok (.aload_n 0, 1) := by decide +kernel
theorem dX5_takeBack_19 : decode cX5_takeBack 19 = .ok (.getfield 12, 3) := by decide +kernel
theorem dX5_takeBack_22 : decode cX5_takeBack 22 = .ok (.iload_n 1, 1) := by decide +kernel
theorem dX5_takeBack_23 : decode cX5_takeBack 23 = .ok (.iload_n 2, 1) := by decide +kernel
theorem dX5_takeBack_24 : decode cX5_takeBack 24 = .ok (.iload_n 3, 1) := by decide +kernel
theorem dX5_takeBack_25 : decode cX5_takeBack 25 = .ok (.invokevirtual 126, 3) := by decide +kernel
theorem dX5_takeBack_28 : decode cX5_takeBack 28 = .ok (.ifCond .ne 7, 3) := by decide +kernel
theorem dX5_takeBack_31 : decode cX5_takeBack 31 = .ok (.iconst 1, 1) := by decide +kernel
theorem dX5_takeBack_32 : decode cX5_takeBack 32 = .ok (.goto 4, 3) := by decide +kernel
theorem dX5_takeBack_35 : decode cX5_takeBack 35 = .ok (.iconst 0, 1) := by decide +kernel
theorem dX5_takeBack_36 : decode cX5_takeBack 36 = .ok (.invokestatic 58, 3) := by decide +kernel
theorem dX5_takeBack_39 : decode cX5_takeBack 39 = .ok (.aload_n 0, 1) := by decide +kernel
theorem dX5_takeBack_40 : decode cX5_takeBack 40 = .ok (.getfield 26, 3) := by decide +kernel
theorem dX5_takeBack_43 : decode cX5_takeBack 43 = .ok (.aload_n 0, 1) := by decide +kernel
theorem dX5_takeBack_44 : decode cX5_takeBack 44 = .ok (.getfield 20, 3) := by decide +kernel
theorem dX5_takeBack_47 : decode cX5_takeBack 47 = .ok (.invokevirtual 62, 3) := by decide +kernel
theorem dX5_takeBack_50 : decode cX5_takeBack 50 = .ok (.aload_n 0, 1) := by decide +kernel
theorem dX5_takeBack_51 : decode cX5_takeBack 51 = .ok (.getfield 12, 3) := by decide +kernel
theorem dX5_takeBack_54 : decode cX5_takeBack 54 = .ok (.iload_n 1, 1) := by decide +kernel
theorem dX5_takeBack_55 : decode cX5_takeBack 55 = .ok (.iload_n 2, 1) := by decide +kernel
theorem dX5_takeBack_56 : decode cX5_takeBack 56 = .ok (.iload_n 3, 1) := by decide +kernel
theorem dX5_takeBack_57 : decode cX5_takeBack 57 = .ok (.invokevirtual 129, 3) := by decide +kernel
theorem dX5_takeBack_60 : decode cX5_takeBack 60 = .ok (.ireturn, 1) := by decide +kernel
set_option maxRecDepth 20000 in
theorem ggX5_breaks_X5_needShop : GoodIn wsX5_breaks wsX5_needShop := goodIn_ca (goodIn_r _ [8, 9, 10, 11, 12, 13, 7, 14, 3, 15, 16, 17, 18, 19, 20, 21, 22, 23, 104, 105, 106, 107, 108, 109] (by decide +kernel) (by decide +kernel)) (goodIn_sub (fun _ h => List.mem_cons_of_mem _ (List.mem_append_left _ (List.mem_append_left _ (List.mem_append_right _ h)))) (by decide +kernel))
set_option maxRecDepth 20000 in
theorem gX5_breaks_X5_needShop : GoodIn wsX5_breaks (wsV RX5 110 RX5 yX5_needShop wsX5_needShop) := goodIn_app (goodIn_of _ (by decide +kernel)) ggX5_breaks_X5_needShop
set_option maxRecDepth 20000 in
theorem ggX5_breaks_X5_needBrand : GoodIn wsX5_breaks wsX5_needBrand := goodIn_ca (goodIn_r _ [27, 9, 10, 28, 29, 30, 7, 31, 3, 15, 16, 17, 18, 19, 20, 21, 22, 23, 104, 105, 106, 107, 108, 109] (by decide +kernel) (by decide +kernel)) (goodIn_sub (fun _ h => List.mem_cons_of_mem _ (List.mem_append_left _ (List.mem_append_left _ (List.mem_append_right _ h)))) (by decide +kernel))
set_option maxRecDepth 20000 in
theorem gX5_breaks_X5_needBrand : GoodIn wsX5_breaks (wsV RX5 100 RX5 yX5_needBrand wsX5_needBrand) := goodIn_app (goodIn_of _ (by decide +kernel)) ggX5_breaks_X5_needBrand
set_option maxRecDepth 20000 in
theorem ggX5_breaks_X5_needRange : GoodIn wsX5_breaks wsX5_needRange := goodIn_ca (goodIn_r _ [34, 35, 36, 7, 37, 38, 39] (by decide +kernel) (by decide +kernel)) (goodIn_sub (fun _ h => List.mem_cons_of_mem _ (List.mem_append_left _ (List.mem_append_right _ h))) (by decide +kernel))
set_option maxRecDepth 20000 in
theorem gX5_breaks_X5_needRange : GoodIn wsX5_breaks (va_wsS RX5 48 yX5_needRange wsX5_needRange) := goodIn_app (goodIn_of _ (by decide +kernel)) ggX5_breaks_X5_needRange
set_option maxRecDepth 20000 in
theorem ggX5_breaks_X4_breakReason : GoodIn wsX5_breaks wsX4_breakReason := goodIn_r _ [43, 44, 45, 16, 46, 47, 19, 20, 21, 22, 23, 48, 49, 41, 50, 110, 111, 109] (by decide +kernel) (by decide +kernel)
set_option maxRecDepth 20000 in
theorem gX5_breaks_X4_breakReason_n132 : GoodIn wsX5_breaks (wsX4_breakReason) := ggX5_breaks_X4_breakReason
set_option maxRecDepth 20000 in
theorem ggX5_breaks_X5_needState : GoodIn wsX5_breaks wsX5_needState := goodIn_ca (goodIn_r _ [53, 54, 55] (by decide +kernel) (by decide +kernel)) (goodIn_sub (fun _ h => List.mem_cons_of_mem _ (List.mem_append_right _ h)) (by decide +kernel))
set_option maxRecDepth 20000 in
theorem gX5_breaks_X5_needState : GoodIn wsX5_breaks (va_wsS RX5 58 yX5_needState wsX5_needState) := goodIn_app (goodIn_of _ (by decide +kernel)) ggX5_breaks_X5_needState
set_option maxRecDepth 20000 in
theorem ggX5_breaks_X1_keep : GoodIn wsX5_breaks wsX1_keep := goodIn_r _ [59, 60, 61, 62, 63, 64, 57, 65, 66, 67, 16, 68, 69, 23, 70, 71, 72, 73, 112, 113, 114, 109] (by decide +kernel) (by decide +kernel)
set_option maxRecDepth 20000 in
theorem gX5_breaks_X1_keep_n62 : GoodIn wsX5_breaks (wsX1_keep) := ggX5_breaks_X1_keep
set_option maxRecDepth 20000 in
theorem ggX5_breaks_X4_breakBottles : GoodIn wsX5_breaks wsX4_breakBottles := goodIn_r _ [76, 44, 77, 78, 79, 80, 81, 82, 83, 41, 84, 85, 16, 86, 87, 19, 20, 21, 22, 23, 88, 89, 90, 15, 17, 18, 91, 92, 93, 94, 95, 96, 97, 98, 99, 100, 101, 102, 103, 110, 111, 109] (by decide +kernel) (by decide +kernel)
set_option maxRecDepth 20000 in
theorem gX5_breaks_X4_breakBottles_n135 : GoodIn wsX5_breaks (wsX4_breakBottles) := ggX5_breaks_X4_breakBottles
theorem dX5_breaks_0 : decode cX5_breaks 0 = .ok (.aload_n 0, 1) := by decide +kernel
theorem dX5_breaks_1 : decode cX5_breaks 1 = .ok (.iload_n 1, 1) := by decide +kernel
theorem dX5_breaks_2 : decode cX5_breaks 2 = .ok (.invokevirtual 110, 3) := by decide +kernel
theorem dX5_breaks_5 : decode cX5_breaks 5 = .ok (.aload_n 0, 1) := by decide +kernel
theorem dX5_breaks_6 : decode cX5_breaks 6 = .ok (.iload_n 2, 1) := by decide +kernel
theorem dX5_breaks_7 : decode cX5_breaks 7 = .ok (.invokevirtual 100, 3) := by decide +kernel
theorem dX5_breaks_10 : decode cX5_breaks 10 = .ok (.iload_n 3, 1) := by decide +kernel
theorem dX5_breaks_11 : decode cX5_breaks 11 = .ok (.iconst 1, 1) := by decide +kernel
theorem dX5_breaks_12 : decode cX5_breaks 12 = .ok (.sipush 500, 3) := by decide +kernel
theorem dX5_breaks_15 : decode cX5_breaks 15 = .ok (.invokestatic 48, 3) := by decide +kernel
theorem dX5_breaks_18 : decode cX5_breaks 18 = .ok (.aload_n 0, 1) := by decide +kernel
theorem dX5_breaks_19 : decode cX5_breaks 19 = .ok (.getfield 12, 3) := by decide +kernel
theorem dX5_breaks_22 : decode cX5_breaks 22 = .ok (.iload_n 1, 1) := by decide +kernel
theorem dX5_breaks_23 : decode cX5_breaks 23 = .ok (.iload_n 2, 1) := by decide +kernel
theorem dX5_breaks_24 : decode cX5_breaks 24 = .ok (.iload_n 3, 1) := by decide +kernel
theorem dX5_breaks_25 : decode cX5_breaks 25 = .ok (.invokevirtual 132, 3) := by decide +kernel
theorem dX5_breaks_28 : decode cX5_breaks 28 = .ok (.ifCond .ne 7, 3) := by decide +kernel
theorem dX5_breaks_31 : decode cX5_breaks 31 = .ok (.iconst 1, 1) := by decide +kernel
theorem dX5_breaks_32 : decode cX5_breaks 32 = .ok (.goto 4, 3) := by decide +kernel
theorem dX5_breaks_35 : decode cX5_breaks 35 = .ok (.iconst 0, 1) := by decide +kernel
theorem dX5_breaks_36 : decode cX5_breaks 36 = .ok (.invokestatic 58, 3) := by decide +kernel
theorem dX5_breaks_39 : decode cX5_breaks 39 = .ok (.aload_n 0, 1) := by decide +kernel
theorem dX5_breaks_40 : decode cX5_breaks 40 = .ok (.getfield 26, 3) := by decide +kernel
theorem dX5_breaks_43 : decode cX5_breaks 43 = .ok (.aload_n 0, 1) := by decide +kernel
theorem dX5_breaks_44 : decode cX5_breaks 44 = .ok (.getfield 20, 3) := by decide +kernel
theorem dX5_breaks_47 : decode cX5_breaks 47 = .ok (.invokevirtual 62, 3) := by decide +kernel
theorem dX5_breaks_50 : decode cX5_breaks 50 = .ok (.aload_n 0, 1) := by decide +kernel
theorem dX5_breaks_51 : decode cX5_breaks 51 = .ok (.getfield 12, 3) := by decide +kernel
theorem dX5_breaks_54 : decode cX5_breaks 54 = .ok (.iload_n 1, 1) := by decide +kernel
theorem dX5_breaks_55 : decode cX5_breaks 55 = .ok (.iload_n 2, 1) := by decide +kernel
theorem dX5_breaks_56 : decode cX5_breaks 56 = .ok (.iload_n 3, 1) := by decide +kernel
theorem dX5_breaks_57 : decode cX5_breaks 57 = .ok (.invokevirtual 135, 3) := by decide +kernel
theorem dX5_breaks_60 : decode cX5_breaks 60 = .ok (.ireturn, 1) := by decide +kernel
set_option maxRecDepth 20000 in
theorem ggX5_lose_X5_needBrand : GoodIn wsX5_lose wsX5_needBrand := goodIn_ca (goodIn_r _ [8, 9, 10, 11, 12, 13, 7, 14, 1, 15, 16, 17, 18, 19, 20, 21, 22, 23, 80, 81, 82, 83, 84, 85] (by decide +kernel) (by decide +kernel)) (goodIn_sub (fun _ h => List.mem_cons_of_mem _ (List.mem_append_left _ (List.mem_append_left _ (List.mem_append_right _ h)))) (by decide +kernel))
set_option maxRecDepth 20000 in
theorem gX5_lose_X5_needBrand : GoodIn wsX5_lose (wsV RX5 100 RX5 yX5_needBrand wsX5_needBrand) := goodIn_app (goodIn_of _ (by decide +kernel)) ggX5_lose_X5_needBrand
set_option maxRecDepth 20000 in
theorem ggX5_lose_X5_needRange : GoodIn wsX5_lose wsX5_needRange := goodIn_ca (goodIn_r _ [26, 27, 28, 7, 29, 30, 31] (by decide +kernel) (by decide +kernel)) (goodIn_sub (fun _ h => List.mem_cons_of_mem _ (List.mem_append_left _ (List.mem_append_right _ h))) (by decide +kernel))
set_option maxRecDepth 20000 in
theorem gX5_lose_X5_needRange : GoodIn wsX5_lose (va_wsS RX5 48 yX5_needRange wsX5_needRange) := goodIn_app (goodIn_of _ (by decide +kernel)) ggX5_lose_X5_needRange
set_option maxRecDepth 20000 in
theorem ggX5_lose_X2_ofBrand : GoodIn wsX5_lose wsX2_ofBrand := goodIn_r _ [34, 19, 20, 21, 16, 22, 23, 85] (by decide +kernel) (by decide +kernel)
set_option maxRecDepth 20000 in
theorem gX5_lose_X2_ofBrand_n103 : GoodIn wsX5_lose (wsX2_ofBrand) := ggX5_lose_X2_ofBrand
set_option maxRecDepth 20000 in
theorem ggX5_lose_X5_needState : GoodIn wsX5_lose wsX5_needState := goodIn_ca (goodIn_r _ [37, 38, 39] (by decide +kernel) (by decide +kernel)) (goodIn_sub (fun _ h => List.mem_cons_of_mem _ (List.mem_append_right _ h)) (by decide +kernel))
set_option maxRecDepth 20000 in
theorem gX5_lose_X5_needState : GoodIn wsX5_lose (va_wsS RX5 58 yX5_needState wsX5_needState) := goodIn_app (goodIn_of _ (by decide +kernel)) ggX5_lose_X5_needState
set_option maxRecDepth 20000 in
theorem ggX5_lose_X1_keep : GoodIn wsX5_lose wsX1_keep := goodIn_r _ [43, 44, 45, 46, 47, 48, 41, 49, 50, 51, 16, 52, 53, 23, 54, 55, 56, 57, 86, 87, 88, 85] (by decide +kernel) (by decide +kernel)
set_option maxRecDepth 20000 in
theorem gX5_lose_X1_keep_n62 : GoodIn wsX5_lose (wsX1_keep) := ggX5_lose_X1_keep
set_option maxRecDepth 20000 in
theorem ggX5_lose_X4_loseBottles : GoodIn wsX5_lose wsX4_loseBottles := goodIn_r _ [61, 62, 63, 16, 64, 65, 19, 20, 21, 22, 23, 66, 67, 68, 69, 70, 71, 72, 59, 73, 32, 33, 34, 74, 75, 76, 77, 78, 79, 89, 90, 85] (by decide +kernel) (by decide +kernel)
set_option maxRecDepth 20000 in
theorem gX5_lose_X4_loseBottles_n138 : GoodIn wsX5_lose (wsX4_loseBottles) := ggX5_lose_X4_loseBottles
theorem dX5_lose_0 : decode cX5_lose 0 = .ok (.aload_n 0, 1) := by decide +kernel
theorem dX5_lose_1 : decode cX5_lose 1 = .ok (.iload_n 1, 1) := by decide +kernel
theorem dX5_lose_2 : decode cX5_lose 2 = .ok (.invokevirtual 100, 3) := by decide +kernel
theorem dX5_lose_5 : decode cX5_lose 5 = .ok (.iload_n 2, 1) := by decide +kernel
theorem dX5_lose_6 : decode cX5_lose 6 = .ok (.iconst 1, 1) := by decide +kernel
theorem dX5_lose_7 : decode cX5_lose 7 = .ok (.sipush 5000, 3) := by decide +kernel
theorem dX5_lose_10 : decode cX5_lose 10 = .ok (.invokestatic 48, 3) := by decide +kernel
theorem dX5_lose_13 : decode cX5_lose 13 = .ok (.aload_n 0, 1) := by decide +kernel
theorem dX5_lose_14 : decode cX5_lose 14 = .ok (.getfield 20, 3) := by decide +kernel
theorem dX5_lose_17 : decode cX5_lose 17 = .ok (.iload_n 1, 1) := by decide +kernel
theorem dX5_lose_18 : decode cX5_lose 18 = .ok (.iconst 5, 1) := by decide +kernel
theorem dX5_lose_19 : decode cX5_lose 19 = .ok (.invokevirtual 103, 3) := by decide +kernel
theorem dX5_lose_22 : decode cX5_lose 22 = .ok (.iload_n 2, 1) := by decide +kernel
theorem dX5_lose_23 : decode cX5_lose 23 = .ok (.if_icmp .lt 7, 3) := by decide +kernel
theorem dX5_lose_26 : decode cX5_lose 26 = .ok (.iconst 1, 1) := by decide +kernel
theorem dX5_lose_27 : decode cX5_lose 27 = .ok (.goto 4, 3) := by decide +kernel
theorem dX5_lose_30 : decode cX5_lose 30 = .ok (.iconst 0, 1) := by decide +kernel
theorem dX5_lose_31 : decode cX5_lose 31 = .ok (.invokestatic 58, 3) := by decide +kernel
theorem dX5_lose_34 : decode cX5_lose 34 = .ok (.aload_n 0, 1) := by decide +kernel
theorem dX5_lose_35 : decode cX5_lose 35 = .ok (.getfield 26, 3) := by decide +kernel
theorem dX5_lose_38 : decode cX5_lose 38 = .ok (.aload_n 0, 1) := by decide +kernel
theorem dX5_lose_39 : decode cX5_lose 39 = .ok (.getfield 20, 3) := by decide +kernel
theorem dX5_lose_42 : decode cX5_lose 42 = .ok (.invokevirtual 62, 3) := by decide +kernel
theorem dX5_lose_45 : decode cX5_lose 45 = .ok (.aload_n 0, 1) := by decide +kernel
theorem dX5_lose_46 : decode cX5_lose 46 = .ok (.getfield 12, 3) := by decide +kernel
theorem dX5_lose_49 : decode cX5_lose 49 = .ok (.iload_n 1, 1) := by decide +kernel
theorem dX5_lose_50 : decode cX5_lose 50 = .ok (.iload_n 2, 1) := by decide +kernel
theorem dX5_lose_51 : decode cX5_lose 51 = .ok (.invokevirtual 138, 3) := by decide +kernel
theorem dX5_lose_54 : decode cX5_lose 54 = .ok (.ireturn, 1) := by decide +kernel
set_option maxRecDepth 20000 in
theorem ggX5_collect_X5_needShop : GoodIn wsX5_collect wsX5_needShop := goodIn_ca (goodIn_r _ [8, 9, 10, 11, 12, 13, 7, 14, 3, 15, 16, 17, 18, 19, 20, 21, 22, 23, 111, 112, 113, 114, 115, 116] (by decide +kernel) (by decide +kernel)) (goodIn_sub (fun _ h => List.mem_cons_of_mem _ (List.mem_append_left _ (List.mem_append_left _ (List.mem_append_right _ h)))) (by decide +kernel))
set_option maxRecDepth 20000 in
theorem gX5_collect_X5_needShop : GoodIn wsX5_collect (wsV RX5 110 RX5 yX5_needShop wsX5_needShop) := goodIn_app (goodIn_of _ (by decide +kernel)) ggX5_collect_X5_needShop
set_option maxRecDepth 20000 in
theorem ggX5_collect_X5_needKind : GoodIn wsX5_collect wsX5_needKind := goodIn_ca (goodIn_r _ [26, 27, 28, 7, 29, 30, 31, 32, 33, 34] (by decide +kernel) (by decide +kernel)) (goodIn_sub (fun _ h => List.mem_cons_of_mem _ (List.mem_append_left _ (List.mem_append_right _ h))) (by decide +kernel))
set_option maxRecDepth 20000 in
theorem gX5_collect_X5_needKind : GoodIn wsX5_collect (va_wsS RX5 44 yX5_needKind wsX5_needKind) := goodIn_app (goodIn_of _ (by decide +kernel)) ggX5_collect_X5_needKind
set_option maxRecDepth 20000 in
theorem ggX5_collect_X5_needRange : GoodIn wsX5_collect wsX5_needRange := goodIn_ca (goodIn_r _ [29, 30, 31, 7, 32, 33, 34] (by decide +kernel) (by decide +kernel)) (goodIn_sub (fun _ h => List.mem_cons_of_mem _ (List.mem_append_left _ (List.mem_append_right _ h))) (by decide +kernel))
set_option maxRecDepth 20000 in
theorem gX5_collect_X5_needRange : GoodIn wsX5_collect (va_wsS RX5 48 yX5_needRange wsX5_needRange) := goodIn_app (goodIn_of _ (by decide +kernel)) ggX5_collect_X5_needRange
set_option maxRecDepth 20000 in
theorem ggX5_collect_X4_collectReason : GoodIn wsX5_collect wsX4_collectReason := goodIn_r _ [38, 39, 40, 41, 42, 36, 43, 44, 16, 45, 46, 19, 20, 21, 22, 23, 47, 48, 49, 117, 118, 116] (by decide +kernel) (by decide +kernel)
set_option maxRecDepth 20000 in
theorem gX5_collect_X4_collectReason_n141 : GoodIn wsX5_collect (wsX4_collectReason) := ggX5_collect_X4_collectReason
set_option maxRecDepth 20000 in
theorem ggX5_collect_X5_needState : GoodIn wsX5_collect wsX5_needState := goodIn_ca (goodIn_r _ [52, 53, 54] (by decide +kernel) (by decide +kernel)) (goodIn_sub (fun _ h => List.mem_cons_of_mem _ (List.mem_append_right _ h)) (by decide +kernel))
set_option maxRecDepth 20000 in
theorem gX5_collect_X5_needState : GoodIn wsX5_collect (va_wsS RX5 58 yX5_needState wsX5_needState) := goodIn_app (goodIn_of _ (by decide +kernel)) ggX5_collect_X5_needState
set_option maxRecDepth 20000 in
theorem ggX5_collect_X1_keep : GoodIn wsX5_collect wsX1_keep := goodIn_r _ [58, 59, 60, 61, 62, 63, 56, 64, 65, 66, 16, 67, 68, 23, 69, 70, 71, 72, 119, 120, 121, 116] (by decide +kernel) (by decide +kernel)
set_option maxRecDepth 20000 in
theorem gX5_collect_X1_keep_n62 : GoodIn wsX5_collect (wsX1_keep) := ggX5_collect_X1_keep
set_option maxRecDepth 20000 in
theorem ggX5_collect_X4_collectCrates : GoodIn wsX5_collect wsX4_collectCrates := goodIn_r _ [75, 39, 76, 77, 78, 36, 79, 80, 16, 81, 82, 19, 20, 21, 22, 23, 83, 84, 85, 86, 87, 44, 45, 46, 47, 48, 49, 88, 89, 90, 91, 92, 93, 94, 95, 96, 7, 97, 98, 99, 100, 101, 102, 103, 104, 105, 106, 107, 108, 109, 110, 117, 118, 116] (by decide +kernel) (by decide +kernel)
set_option maxRecDepth 20000 in
theorem gX5_collect_X4_collectCrates_n144 : GoodIn wsX5_collect (wsX4_collectCrates) := ggX5_collect_X4_collectCrates
theorem dX5_collect_0 : decode cX5_collect 0 = .ok (.aload_n 0, 1) := by decide +kernel
theorem dX5_collect_1 : decode cX5_collect 1 = .ok (.iload_n 1, 1) := by decide +kernel
theorem dX5_collect_2 : decode cX5_collect 2 = .ok (.invokevirtual 110, 3) := by decide +kernel
theorem dX5_collect_5 : decode cX5_collect 5 = .ok (.iload_n 2, 1) := by decide +kernel
theorem dX5_collect_6 : decode cX5_collect 6 = .ok (.invokestatic 44, 3) := by decide +kernel
theorem dX5_collect_9 : decode cX5_collect 9 = .ok (.iload_n 3, 1) := by decide +kernel
theorem dX5_collect_10 : decode cX5_collect 10 = .ok (.iconst 1, 1) := by decide +kernel
theorem dX5_collect_11 : decode cX5_collect 11 = .ok (.bipush 50, 2) := by decide +kernel
theorem dX5_collect_13 : decode cX5_collect 13 = .ok (.invokestatic 48, 3) := by decide +kernel
theorem dX5_collect_16 : decode cX5_collect 16 = .ok (.aload_n 0, 1) := by decide +kernel
theorem dX5_collect_17 : decode cX5_collect 17 = .ok (.getfield 12, 3) := by decide +kernel
theorem dX5_collect_20 : decode cX5_collect 20 = .ok (.iload_n 1, 1) := by decide +kernel
theorem dX5_collect_21 : decode cX5_collect 21 = .ok (.iload_n 2, 1) := by decide +kernel
theorem dX5_collect_22 : decode cX5_collect 22 = .ok (.iload_n 3, 1) := by decide +kernel
theorem dX5_collect_23 : decode cX5_collect 23 = .ok (.invokevirtual 141, 3) := by decide +kernel
theorem dX5_collect_26 : decode cX5_collect 26 = .ok (.ifCond .ne 7, 3) := by decide +kernel
theorem dX5_collect_29 : decode cX5_collect 29 = .ok (.iconst 1, 1) := by decide +kernel
theorem dX5_collect_30 : decode cX5_collect 30 = .ok (.goto 4, 3) := by decide +kernel
theorem dX5_collect_33 : decode cX5_collect 33 = .ok (.iconst 0, 1) := by decide +kernel
theorem dX5_collect_34 : decode cX5_collect 34 = .ok (.invokestatic 58, 3) := by decide +kernel
theorem dX5_collect_37 : decode cX5_collect 37 = .ok (.aload_n 0, 1) := by decide +kernel
theorem dX5_collect_38 : decode cX5_collect 38 = .ok (.getfield 26, 3) := by decide +kernel
theorem dX5_collect_41 : decode cX5_collect 41 = .ok (.aload_n 0, 1) := by decide +kernel
theorem dX5_collect_42 : decode cX5_collect 42 = .ok (.getfield 20, 3) := by decide +kernel
theorem dX5_collect_45 : decode cX5_collect 45 = .ok (.invokevirtual 62, 3) := by decide +kernel
theorem dX5_collect_48 : decode cX5_collect 48 = .ok (.aload_n 0, 1) := by decide +kernel
theorem dX5_collect_49 : decode cX5_collect 49 = .ok (.getfield 12, 3) := by decide +kernel
theorem dX5_collect_52 : decode cX5_collect 52 = .ok (.iload_n 1, 1) := by decide +kernel
theorem dX5_collect_53 : decode cX5_collect 53 = .ok (.iload_n 2, 1) := by decide +kernel
theorem dX5_collect_54 : decode cX5_collect 54 = .ok (.iload_n 3, 1) := by decide +kernel
theorem dX5_collect_55 : decode cX5_collect 55 = .ok (.invokevirtual 144, 3) := by decide +kernel
theorem dX5_collect_58 : decode cX5_collect 58 = .ok (.ireturn, 1) := by decide +kernel
set_option maxRecDepth 20000 in
theorem ggX5_sort_X5_needKind : GoodIn wsX5_sort wsX5_needKind := goodIn_ca (goodIn_r _ [7, 8, 9, 6, 10, 11, 12, 13, 14, 15] (by decide +kernel) (by decide +kernel)) (goodIn_sub (fun _ h => List.mem_cons_of_mem _ (List.mem_append_left _ (List.mem_append_right _ h))) (by decide +kernel))
set_option maxRecDepth 20000 in
theorem gX5_sort_X5_needKind : GoodIn wsX5_sort (va_wsS RX5 44 yX5_needKind wsX5_needKind) := goodIn_app (goodIn_of _ (by decide +kernel)) ggX5_sort_X5_needKind
set_option maxRecDepth 20000 in
theorem ggX5_sort_X5_needRange : GoodIn wsX5_sort wsX5_needRange := goodIn_ca (goodIn_r _ [10, 11, 12, 6, 13, 14, 15] (by decide +kernel) (by decide +kernel)) (goodIn_sub (fun _ h => List.mem_cons_of_mem _ (List.mem_append_left _ (List.mem_append_right _ h))) (by decide +kernel))
set_option maxRecDepth 20000 in
theorem gX5_sort_X5_needRange : GoodIn wsX5_sort (va_wsS RX5 48 yX5_needRange wsX5_needRange) := goodIn_app (goodIn_of _ (by decide +kernel)) ggX5_sort_X5_needRange
set_option maxRecDepth 20000 in
theorem ggX5_sort_X4_yardOf : GoodIn wsX5_sort wsX4_yardOf := goodIn_r _ [19, 20, 21, 22, 23, 24, 25, 26, 27, 28, 29, 73, 74, 75] (by decide +kernel) (by decide +kernel)
set_option maxRecDepth 20000 in
theorem gX5_sort_X4_yardOf_n147 : GoodIn wsX5_sort (wsX4_yardOf) := ggX5_sort_X4_yardOf
set_option maxRecDepth 20000 in
theorem ggX5_sort_X5_needState : GoodIn wsX5_sort wsX5_needState := goodIn_ca (goodIn_r _ [32, 33, 34] (by decide +kernel) (by decide +kernel)) (goodIn_sub (fun _ h => List.mem_cons_of_mem _ (List.mem_append_right _ h)) (by decide +kernel))
set_option maxRecDepth 20000 in
theorem gX5_sort_X5_needState : GoodIn wsX5_sort (va_wsS RX5 58 yX5_needState wsX5_needState) := goodIn_app (goodIn_of _ (by decide +kernel)) ggX5_sort_X5_needState
set_option maxRecDepth 20000 in
theorem ggX5_sort_X1_keep : GoodIn wsX5_sort wsX1_keep := goodIn_r _ [38, 39, 40, 41, 42, 43, 36, 44, 45, 46, 22, 47, 48, 29, 49, 50, 51, 52, 76, 77, 78, 75] (by decide +kernel) (by decide +kernel)
set_option maxRecDepth 20000 in
theorem gX5_sort_X1_keep_n62 : GoodIn wsX5_sort (wsX1_keep) := ggX5_sort_X1_keep
set_option maxRecDepth 20000 in
theorem ggX5_sort_X4_sortBottles : GoodIn wsX5_sort wsX4_sortBottles := goodIn_r _ [55, 20, 56, 57, 58, 59, 21, 22, 23, 24, 25, 26, 27, 28, 29, 60, 61, 62, 63, 64, 65, 66, 67, 16, 18, 17, 19, 73, 74, 75] (by decide +kernel) (by decide +kernel)
set_option maxRecDepth 20000 in
theorem gX5_sort_X4_sortBottles_n150 : GoodIn wsX5_sort (wsX4_sortBottles) := ggX5_sort_X4_sortBottles
theorem dX5_sort_0 : decode cX5_sort 0 = .ok (.iload_n 1, 1) := by decide +kernel
theorem dX5_sort_1 : decode cX5_sort 1 = .ok (.invokestatic 44, 3) := by decide +kernel
theorem dX5_sort_4 : decode cX5_sort 4 = .ok (.iload_n 2, 1) := by decide +kernel
theorem dX5_sort_5 : decode cX5_sort 5 = .ok (.iconst 1, 1) := by decide +kernel
theorem dX5_sort_6 : decode cX5_sort 6 = .ok (.sipush 5000, 3) := by decide +kernel
theorem dX5_sort_9 : decode cX5_sort 9 = .ok (.invokestatic 48, 3) := by decide +kernel
theorem dX5_sort_12 : decode cX5_sort 12 = .ok (.aload_n 0, 1) := by decide +kernel
theorem dX5_sort_13 : decode cX5_sort 13 = .ok (.getfield 12, 3) := by decide +kernel
theorem dX5_sort_16 : decode cX5_sort 16 = .ok (.iload_n 1, 1) := by decide +kernel
theorem dX5_sort_17 : decode cX5_sort 17 = .ok (.invokevirtual 147, 3) := by decide +kernel
theorem dX5_sort_20 : decode cX5_sort 20 = .ok (.iload_n 2, 1) := by decide +kernel
theorem dX5_sort_21 : decode cX5_sort 21 = .ok (.if_icmp .lt 7, 3) := by decide +kernel
theorem dX5_sort_24 : decode cX5_sort 24 = .ok (.iconst 1, 1) := by decide +kernel
theorem dX5_sort_25 : decode cX5_sort 25 = .ok (.goto 4, 3) := by decide +kernel
theorem dX5_sort_28 : decode cX5_sort 28 = .ok (.iconst 0, 1) := by decide +kernel
theorem dX5_sort_29 : decode cX5_sort 29 = .ok (.invokestatic 58, 3) := by decide +kernel
theorem dX5_sort_32 : decode cX5_sort 32 = .ok (.aload_n 0, 1) := by decide +kernel
theorem dX5_sort_33 : decode cX5_sort 33 = .ok (.getfield 26, 3) := by decide +kernel
theorem dX5_sort_36 : decode cX5_sort 36 = .ok (.aload_n 0, 1) := by decide +kernel
theorem dX5_sort_37 : decode cX5_sort 37 = .ok (.getfield 20, 3) := by decide +kernel
theorem dX5_sort_40 : decode cX5_sort 40 = .ok (.invokevirtual 62, 3) := by decide +kernel
theorem dX5_sort_43 : decode cX5_sort 43 = .ok (.aload_n 0, 1) := by decide +kernel
theorem dX5_sort_44 : decode cX5_sort 44 = .ok (.getfield 12, 3) := by decide +kernel
theorem dX5_sort_47 : decode cX5_sort 47 = .ok (.iload_n 1, 1) := by decide +kernel
theorem dX5_sort_48 : decode cX5_sort 48 = .ok (.iload_n 2, 1) := by decide +kernel
theorem dX5_sort_49 : decode cX5_sort 49 = .ok (.invokevirtual 150, 3) := by decide +kernel
theorem dX5_sort_52 : decode cX5_sort 52 = .ok (.ireturn, 1) := by decide +kernel
set_option maxRecDepth 20000 in
theorem ggX5_swap_X5_needBrand : GoodIn wsX5_swap wsX5_needBrand := goodIn_ca (goodIn_r _ [8, 9, 10, 11, 12, 13, 7, 14, 1, 15, 16, 17, 18, 19, 20, 21, 22, 23, 76, 77, 78, 79, 80, 81] (by decide +kernel) (by decide +kernel)) (goodIn_sub (fun _ h => List.mem_cons_of_mem _ (List.mem_append_left _ (List.mem_append_left _ (List.mem_append_right _ h)))) (by decide +kernel))
set_option maxRecDepth 20000 in
theorem gX5_swap_X5_needBrand : GoodIn wsX5_swap (wsV RX5 100 RX5 yX5_needBrand wsX5_needBrand) := goodIn_app (goodIn_of _ (by decide +kernel)) ggX5_swap_X5_needBrand
set_option maxRecDepth 20000 in
theorem ggX5_swap_X2_ofBrand : GoodIn wsX5_swap wsX2_ofBrand := goodIn_r _ [26, 19, 20, 21, 16, 22, 23, 81] (by decide +kernel) (by decide +kernel)
set_option maxRecDepth 20000 in
theorem gX5_swap_X2_ofBrand_n103 : GoodIn wsX5_swap (wsX2_ofBrand) := ggX5_swap_X2_ofBrand
set_option maxRecDepth 20000 in
theorem ggX5_swap_X5_needArgument : GoodIn wsX5_swap wsX5_needArgument := goodIn_ca (goodIn_r _ [29, 30, 31] (by decide +kernel) (by decide +kernel)) (goodIn_sub (fun _ h => List.mem_cons_of_mem _ (List.mem_append_left _ (List.mem_append_right _ h))) (by decide +kernel))
set_option maxRecDepth 20000 in
theorem gX5_swap_X5_needArgument : GoodIn wsX5_swap (va_wsS RX5 153 yX5_needArgument wsX5_needArgument) := goodIn_app (goodIn_of _ (by decide +kernel)) ggX5_swap_X5_needArgument
set_option maxRecDepth 20000 in
theorem ggX5_swap_X5_needRange : GoodIn wsX5_swap wsX5_needRange := goodIn_ca (goodIn_r _ [34, 27, 28, 7, 29, 30, 31] (by decide +kernel) (by decide +kernel)) (goodIn_sub (fun _ h => List.mem_cons_of_mem _ (List.mem_append_left _ (List.mem_append_right _ h))) (by decide +kernel))
set_option maxRecDepth 20000 in
theorem gX5_swap_X5_needRange : GoodIn wsX5_swap (va_wsS RX5 48 yX5_needRange wsX5_needRange) := goodIn_app (goodIn_of _ (by decide +kernel)) ggX5_swap_X5_needRange
set_option maxRecDepth 20000 in
theorem ggX5_swap_X5_needState : GoodIn wsX5_swap wsX5_needState := goodIn_ca (goodIn_r _ [37, 38, 39] (by decide +kernel) (by decide +kernel)) (goodIn_sub (fun _ h => List.mem_cons_of_mem _ (List.mem_append_right _ h)) (by decide +kernel))
set_option maxRecDepth 20000 in
theorem gX5_swap_X5_needState : GoodIn wsX5_swap (va_wsS RX5 58 yX5_needState wsX5_needState) := goodIn_app (goodIn_of _ (by decide +kernel)) ggX5_swap_X5_needState
set_option maxRecDepth 20000 in
theorem ggX5_swap_X1_keep : GoodIn wsX5_swap wsX1_keep := goodIn_r _ [43, 44, 45, 46, 47, 48, 41, 49, 50, 51, 16, 52, 53, 23, 54, 55, 56, 57, 82, 83, 84, 81] (by decide +kernel) (by decide +kernel)
set_option maxRecDepth 20000 in
theorem gX5_swap_X1_keep_n62 : GoodIn wsX5_swap (wsX1_keep) := ggX5_swap_X1_keep
set_option maxRecDepth 20000 in
theorem ggX5_swap_X4_swapBottles : GoodIn wsX5_swap wsX4_swapBottles := goodIn_r _ [61, 62, 63, 16, 64, 65, 19, 20, 21, 22, 23, 66, 67, 68, 69, 70, 71, 72, 73, 74, 75, 85, 86, 81] (by decide +kernel) (by decide +kernel)
set_option maxRecDepth 20000 in
theorem gX5_swap_X4_swapBottles_n156 : GoodIn wsX5_swap (wsX4_swapBottles) := ggX5_swap_X4_swapBottles
theorem dX5_swap_0 : decode cX5_swap 0 = .ok (.aload_n 0, 1) := by decide +kernel
theorem dX5_swap_1 : decode cX5_swap 1 = .ok (.iload_n 1, 1) := by decide +kernel
theorem dX5_swap_2 : decode cX5_swap 2 = .ok (.invokevirtual 100, 3) := by decide +kernel
theorem dX5_swap_5 : decode cX5_swap 5 = .ok (.aload_n 0, 1) := by decide +kernel
theorem dX5_swap_6 : decode cX5_swap 6 = .ok (.iload_n 2, 1) := by decide +kernel
theorem dX5_swap_7 : decode cX5_swap 7 = .ok (.invokevirtual 100, 3) := by decide +kernel
theorem dX5_swap_10 : decode cX5_swap 10 = .ok (.iload_n 1, 1) := by decide +kernel
theorem dX5_swap_11 : decode cX5_swap 11 = .ok (.iload_n 2, 1) := by decide +kernel
theorem dX5_swap_12 : decode cX5_swap 12 = .ok (.if_icmp .eq 28, 3) := by decide +kernel
theorem dX5_swap_15 : decode cX5_swap 15 = .ok (.aload_n 0, 1) := by decide +kernel
theorem dX5_swap_16 : decode cX5_swap 16 = .ok (.getfield 20, 3) := by decide +kernel
theorem dX5_swap_19 : decode cX5_swap 19 = .ok (.iload_n 1, 1) := by decide +kernel
theorem dX5_swap_20 : decode cX5_swap 20 = .ok (.iconst 0, 1) := by decide +kernel
theorem dX5_swap_21 : decode cX5_swap 21 = .ok (.invokevirtual 103, 3) := by decide +kernel
theorem dX5_swap_24 : decode cX5_swap 24 = .ok (.aload_n 0, 1) := by decide +kernel
theorem dX5_swap_25 : decode cX5_swap 25 = .ok (.getfield 20, 3) := by decide +kernel
theorem dX5_swap_28 : decode cX5_swap 28 = .ok (.iload_n 2, 1) := by decide +kernel
theorem dX5_swap_29 : decode cX5_swap 29 = .ok (.iconst 0, 1) := by decide +kernel
theorem dX5_swap_30 : decode cX5_swap 30 = .ok (.invokevirtual 103, 3) := by decide +kernel
theorem dX5_swap_33 : decode cX5_swap 33 = .ok (.if_icmp .ne 7, 3) := by decide +kernel
theorem dX5_swap_36 : decode cX5_swap 36 = .ok (.iconst 1, 1) := by decide +kernel
theorem dX5_swap_37 : decode cX5_swap 37 = .ok (.goto 4, 3) := by decide +kernel
theorem dX5_swap_40 : decode cX5_swap 40 = .ok (.iconst 0, 1) := by decide +kernel
theorem dX5_swap_41 : decode cX5_swap 41 = .ok (.invokestatic 153, 3) := by decide +kernel
theorem dX5_swap_44 : decode cX5_swap 44 = .ok (.iload_n 3, 1) := by decide +kernel
theorem dX5_swap_45 : decode cX5_swap 45 = .ok (.iconst 1, 1) := by decide +kernel
theorem dX5_swap_46 : decode cX5_swap 46 = .ok (.sipush 5000, 3) := by decide +kernel
theorem dX5_swap_49 : decode cX5_swap 49 = .ok (.invokestatic 48, 3) := by decide +kernel
theorem dX5_swap_52 : decode cX5_swap 52 = .ok (.aload_n 0, 1) := by decide +kernel
theorem dX5_swap_53 : decode cX5_swap 53 = .ok (.getfield 20, 3) := by decide +kernel
theorem dX5_swap_56 : decode cX5_swap 56 = .ok (.iload_n 1, 1) := by decide +kernel
theorem dX5_swap_57 : decode cX5_swap 57 = .ok (.iconst 1, 1) := by decide +kernel
theorem dX5_swap_58 : decode cX5_swap 58 = .ok (.invokevirtual 103, 3) := by decide +kernel
theorem dX5_swap_61 : decode cX5_swap 61 = .ok (.iload_n 3, 1) := by decide +kernel
theorem dX5_swap_62 : decode cX5_swap 62 = .ok (.if_icmp .lt 7, 3) := by decide +kernel
theorem dX5_swap_65 : decode cX5_swap 65 = .ok (.iconst 1, 1) := by decide +kernel
theorem dX5_swap_66 : decode cX5_swap 66 = .ok (.goto 4, 3) := by decide +kernel
theorem dX5_swap_69 : decode cX5_swap 69 = .ok (.iconst 0, 1) := by decide +kernel
theorem dX5_swap_70 : decode cX5_swap 70 = .ok (.invokestatic 58, 3) := by decide +kernel
theorem dX5_swap_73 : decode cX5_swap 73 = .ok (.aload_n 0, 1) := by decide +kernel
theorem dX5_swap_74 : decode cX5_swap 74 = .ok (.getfield 26, 3) := by decide +kernel
theorem dX5_swap_77 : decode cX5_swap 77 = .ok (.aload_n 0, 1) := by decide +kernel
theorem dX5_swap_78 : decode cX5_swap 78 = .ok (.getfield 20, 3) := by decide +kernel
theorem dX5_swap_81 : decode cX5_swap 81 = .ok (.invokevirtual 62, 3) := by decide +kernel
theorem dX5_swap_84 : decode cX5_swap 84 = .ok (.aload_n 0, 1) := by decide +kernel
theorem dX5_swap_85 : decode cX5_swap 85 = .ok (.getfield 12, 3) := by decide +kernel
theorem dX5_swap_88 : decode cX5_swap 88 = .ok (.iload_n 1, 1) := by decide +kernel
theorem dX5_swap_89 : decode cX5_swap 89 = .ok (.iload_n 2, 1) := by decide +kernel
theorem dX5_swap_90 : decode cX5_swap 90 = .ok (.iload_n 3, 1) := by decide +kernel
theorem dX5_swap_91 : decode cX5_swap 91 = .ok (.invokevirtual 156, 3) := by decide +kernel
theorem dX5_swap_94 : decode cX5_swap 94 = .ok (.ireturn, 1) := by decide +kernel
set_option maxRecDepth 20000 in
theorem ggX5_append_X5_needRange : GoodIn wsX5_append wsX5_needRange := goodIn_ca (goodIn_r _ [5, 6, 7, 4, 8, 9, 10] (by decide +kernel) (by decide +kernel)) (goodIn_sub (fun _ h => List.mem_cons_of_mem _ (List.mem_append_left _ (List.mem_append_right _ h))) (by decide +kernel))
set_option maxRecDepth 20000 in
theorem gX5_append_X5_needRange : GoodIn wsX5_append (va_wsS RX5 48 yX5_needRange wsX5_needRange) := goodIn_app (goodIn_of _ (by decide +kernel)) ggX5_append_X5_needRange
set_option maxRecDepth 20000 in
theorem ggX5_append_X3_length : GoodIn wsX5_append wsX3_length := goodIn_r _ [14, 15, 30, 31, 32] (by decide +kernel) (by decide +kernel)
set_option maxRecDepth 20000 in
theorem gX5_append_X3_length_n159 : GoodIn wsX5_append (wsX3_length) := ggX5_append_X3_length
set_option maxRecDepth 20000 in
theorem ggX5_append_X5_needState : GoodIn wsX5_append wsX5_needState := goodIn_ca (goodIn_r _ [18, 19, 20] (by decide +kernel) (by decide +kernel)) (goodIn_sub (fun _ h => List.mem_cons_of_mem _ (List.mem_append_right _ h)) (by decide +kernel))
set_option maxRecDepth 20000 in
theorem gX5_append_X5_needState : GoodIn wsX5_append (va_wsS RX5 58 yX5_needState wsX5_needState) := goodIn_app (goodIn_of _ (by decide +kernel)) ggX5_append_X5_needState
set_option maxRecDepth 20000 in
theorem ggX5_append_X3_add : GoodIn wsX5_append wsX3_add := goodIn_r _ [23, 15, 24, 30, 31, 32] (by decide +kernel) (by decide +kernel)
set_option maxRecDepth 20000 in
theorem gX5_append_X3_add_n163 : GoodIn wsX5_append (wsX3_add) := ggX5_append_X3_add
theorem dX5_append_0 : decode cX5_append 0 = .ok (.iload_n 1, 1) := by decide +kernel
theorem dX5_append_1 : decode cX5_append 1 = .ok (.bipush 33, 2) := by decide +kernel
theorem dX5_append_3 : decode cX5_append 3 = .ok (.bipush 126, 2) := by decide +kernel
theorem dX5_append_5 : decode cX5_append 5 = .ok (.invokestatic 48, 3) := by decide +kernel
theorem dX5_append_8 : decode cX5_append 8 = .ok (.aload_n 0, 1) := by decide +kernel
theorem dX5_append_9 : decode cX5_append 9 = .ok (.getfield 33, 3) := by decide +kernel
theorem dX5_append_12 : decode cX5_append 12 = .ok (.invokevirtual 159, 3) := by decide +kernel
theorem dX5_append_15 : decode cX5_append 15 = .ok (.bipush 60, 2) := by decide +kernel
theorem dX5_append_17 : decode cX5_append 17 = .ok (.if_icmp .ge 7, 3) := by decide +kernel
theorem dX5_append_20 : decode cX5_append 20 = .ok (.iconst 1, 1) := by decide +kernel
theorem dX5_append_21 : decode cX5_append 21 = .ok (.goto 4, 3) := by decide +kernel
theorem dX5_append_24 : decode cX5_append 24 = .ok (.iconst 0, 1) := by decide +kernel
theorem dX5_append_25 : decode cX5_append 25 = .ok (.invokestatic 58, 3) := by decide +kernel
theorem dX5_append_28 : decode cX5_append 28 = .ok (.aload_n 0, 1) := by decide +kernel
theorem dX5_append_29 : decode cX5_append 29 = .ok (.getfield 33, 3) := by decide +kernel
theorem dX5_append_32 : decode cX5_append 32 = .ok (.iload_n 1, 1) := by decide +kernel
theorem dX5_append_33 : decode cX5_append 33 = .ok (.invokevirtual 163, 3) := by decide +kernel
theorem dX5_append_36 : decode cX5_append 36 = .ok (.aload_n 0, 1) := by decide +kernel
theorem dX5_append_37 : decode cX5_append 37 = .ok (.getfield 33, 3) := by decide +kernel
theorem dX5_append_40 : decode cX5_append 40 = .ok (.invokevirtual 159, 3) := by decide +kernel
theorem dX5_append_43 : decode cX5_append 43 = .ok (.ireturn, 1) := by decide +kernel
set_option maxRecDepth 20000 in
theorem ggX5_clearBuffer_X3_length : GoodIn wsX5_clearBuffer wsX3_length := goodIn_r _ [5, 6, 15, 16, 17] (by decide +kernel) (by decide +kernel)
set_option maxRecDepth 20000 in
theorem gX5_clearBuffer_X3_length_n159 : GoodIn wsX5_clearBuffer (wsX3_length) := ggX5_clearBuffer_X3_length
set_option maxRecDepth 20000 in
theorem ggX5_clearBuffer_X3_clear : GoodIn wsX5_clearBuffer wsX3_clear := goodIn_r _ [9, 6, 15, 16, 17] (by decide +kernel) (by decide +kernel)
set_option maxRecDepth 20000 in
theorem gX5_clearBuffer_X3_clear_n166 : GoodIn wsX5_clearBuffer (wsX3_clear) := ggX5_clearBuffer_X3_clear
theorem dX5_clearBuffer_0 : decode cX5_clearBuffer 0 = .ok (.aload_n 0, 1) := by decide +kernel
theorem dX5_clearBuffer_1 : decode cX5_clearBuffer 1 = .ok (.getfield 33, 3) := by decide +kernel
theorem dX5_clearBuffer_4 : decode cX5_clearBuffer 4 = .ok (.invokevirtual 159, 3) := by decide +kernel
theorem dX5_clearBuffer_7 : decode cX5_clearBuffer 7 = .ok (.istore_n 1, 1) := by decide +kernel
theorem dX5_clearBuffer_8 : decode cX5_clearBuffer 8 = .ok (.aload_n 0, 1) := by decide +kernel
theorem dX5_clearBuffer_9 : decode cX5_clearBuffer 9 = .ok (.getfield 33, 3) := by decide +kernel
theorem dX5_clearBuffer_12 : decode cX5_clearBuffer 12 = .ok (.invokevirtual 166, 3) := by decide +kernel
theorem dX5_clearBuffer_15 : decode cX5_clearBuffer 15 = .ok (.iload_n 1, 1) := by decide +kernel
theorem dX5_clearBuffer_16 : decode cX5_clearBuffer 16 = .ok (.ireturn, 1) := by decide +kernel
set_option maxRecDepth 20000 in
theorem ggX5_firstError_X3_errorAt : GoodIn wsX5_firstError wsX3_errorAt := goodIn_r _ [5, 6, 7, 8, 9, 10, 11, 12, 13, 14, 15, 16, 17, 18, 19, 3, 20, 21, 22, 23, 24, 25, 26, 27, 28, 29, 30, 31, 32, 33, 34, 35, 36, 37, 38, 39, 40, 41, 42, 43, 44, 45, 46, 47, 48, 49, 50, 51, 52, 53, 54, 55, 61, 62, 63, 64, 65, 66, 67, 68] (by decide +kernel) (by decide +kernel)
set_option maxRecDepth 20000 in
theorem gX5_firstError_X3_errorAt_n169 : GoodIn wsX5_firstError (wsX3_errorAt) := ggX5_firstError_X3_errorAt
theorem dX5_firstError_0 : decode cX5_firstError 0 = .ok (.aload_n 0, 1) := by decide +kernel
theorem dX5_firstError_1 : decode cX5_firstError 1 = .ok (.getfield 33, 3) := by decide +kernel
theorem dX5_firstError_4 : decode cX5_firstError 4 = .ok (.invokevirtual 169, 3) := by decide +kernel
theorem dX5_firstError_7 : decode cX5_firstError 7 = .ok (.ireturn, 1) := by decide +kernel
set_option maxRecDepth 20000 in
theorem ggX5_run_X3_isRowOfOrders : GoodIn wsX5_run wsX3_isRowOfOrders := goodIn_r _ [7, 8, 9, 10, 11, 12, 5, 13, 14, 15, 16, 17, 18, 19, 20, 21, 22, 23, 24, 25, 26, 27, 28, 29, 30, 31, 32, 33, 34, 35, 36, 37, 38, 39, 40, 41, 42, 43, 44, 45, 46, 47, 48, 49, 50, 51, 52, 53, 54, 55, 56, 57, 58, 59, 60, 61, 236, 237, 238, 239, 240, 241, 242, 243] (by decide +kernel) (by decide +kernel)
set_option maxRecDepth 20000 in
theorem gX5_run_X3_isRowOfOrders_n172 : GoodIn wsX5_run (wsX3_isRowOfOrders) := ggX5_run_X3_isRowOfOrders
set_option maxRecDepth 20000 in
theorem ggX5_run_X5_needArgument : GoodIn wsX5_run wsX5_needArgument := goodIn_ca (goodIn_r _ [64, 65, 66] (by decide +kernel) (by decide +kernel)) (goodIn_sub (fun _ h => List.mem_cons_of_mem _ (List.mem_append_right _ h)) (by decide +kernel))
set_option maxRecDepth 20000 in
theorem gX5_run_X5_needArgument : GoodIn wsX5_run (va_wsS RX5 153 yX5_needArgument wsX5_needArgument) := goodIn_app (goodIn_of _ (by decide +kernel)) ggX5_run_X5_needArgument
set_option maxRecDepth 20000 in
theorem ggX5_run_X1_keep : GoodIn wsX5_run wsX1_keep := goodIn_r _ [70, 71, 72, 73, 74, 75, 68, 76, 77, 78, 79, 80, 81, 82, 83, 84, 85, 86, 244, 245, 246, 247] (by decide +kernel) (by decide +kernel)
set_option maxRecDepth 20000 in
theorem gX5_run_X1_keep_n62 : GoodIn wsX5_run (wsX1_keep) := ggX5_run_X1_keep
set_option maxRecDepth 20000 in
theorem ggX5_run_X5_carryOutOrders : GoodIn wsX5_run wsX5_carryOutOrders := goodIn_r _ [90, 91, 1, 3, 14, 15, 16, 17, 18, 19, 20, 21, 22, 92, 5, 93, 94, 8, 24, 25, 26, 27, 28, 29, 30, 95, 96, 97, 98, 99, 100, 101, 102, 103, 104, 105, 106, 107, 108, 109, 110, 111, 112, 113, 114, 115, 116, 117, 118, 119, 120, 79, 121, 122, 123, 124, 125, 126, 82, 127, 128, 129, 130, 131, 132, 133, 134, 135, 136, 137, 138, 139, 140, 141, 142, 143, 144, 145, 146, 147, 148, 149, 150, 151, 152, 153, 154, 155, 156, 157, 158, 159, 160, 161, 162, 163, 164, 165, 166, 167, 168, 169, 170, 171, 172, 173, 174, 175, 176, 177, 178, 179, 180, 181, 182, 183, 184, 185, 186, 187, 188, 189, 190, 191, 192, 193, 194, 195, 196, 197, 198, 199, 200, 201, 202, 203, 204, 205, 206, 207, 208, 209, 210, 211, 212, 213, 214, 215, 216, 217, 218, 219, 220, 221, 222, 223, 224, 31, 32, 33, 34, 35, 36, 37, 38, 39, 40, 41, 42, 43, 44, 45, 46, 47, 48, 49, 50, 51, 52, 53, 54, 55, 56, 57, 58, 59, 60, 61, 225, 226, 227, 231, 232, 233, 234, 235, 239, 240, 241, 242, 243, 236, 237, 238, 247, 248, 249] (by decide +kernel) (by decide +kernel)
set_option maxRecDepth 20000 in
theorem gX5_run_X5_carryOutOrders : GoodIn wsX5_run (wsV RX5 176 RX5 yX5_carryOutOrders wsX5_carryOutOrders) := goodIn_app (goodIn_of _ (by decide +kernel)) ggX5_run_X5_carryOutOrders
set_option maxRecDepth 20000 in
theorem ggX5_run_X3_clear : GoodIn wsX5_run wsX3_clear := goodIn_r _ [230, 8, 236, 237, 238] (by decide +kernel) (by decide +kernel)
set_option maxRecDepth 20000 in
theorem gX5_run_X3_clear_n166 : GoodIn wsX5_run (wsX3_clear) := ggX5_run_X3_clear
theorem dX5_run_0 : decode cX5_run 0 = .ok (.aload_n 0, 1) := by decide +kernel
theorem dX5_run_1 : decode cX5_run 1 = .ok (.getfield 33, 3) := by decide +kernel
theorem dX5_run_4 : decode cX5_run 4 = .ok (.invokevirtual 172, 3) := by decide +kernel
theorem dX5_run_7 : decode cX5_run 7 = .ok (.invokestatic 153, 3) := by decide +kernel
theorem dX5_run_10 : decode cX5_run 10 = .ok (.aload_n 0, 1) := by decide +kernel
theorem dX5_run_11 : decode cX5_run 11 = .ok (.getfield 26, 3) := by decide +kernel
theorem dX5_run_14 : decode cX5_run 14 = .ok (.aload_n 0, 1) := by decide +kernel
theorem dX5_run_15 : decode cX5_run 15 = .ok (.getfield 20, 3) := by decide +kernel
theorem dX5_run_18 : decode cX5_run 18 = .ok (.invokevirtual 62, 3) := by decide +kernel
theorem dX5_run_21 : decode cX5_run 21 = .ok (.aload_n 0, 1) := by decide +kernel
theorem dX5_run_22 : decode cX5_run 22 = .ok (.invokevirtual 176, 3) := by decide +kernel
theorem dX5_run_25 : decode cX5_run 25 = .ok (.istore_n 1, 1) := by decide +kernel
theorem dX5_run_26 : decode cX5_run 26 = .ok (.aload_n 0, 1) := by decide +kernel
theorem dX5_run_27 : decode cX5_run 27 = .ok (.getfield 33, 3) := by decide +kernel
theorem dX5_run_30 : decode cX5_run 30 = .ok (.invokevirtual 166, 3) := by decide +kernel
theorem dX5_run_33 : decode cX5_run 33 = .ok (.iload_n 1, 1) := by decide +kernel
theorem dX5_run_34 : decode cX5_run 34 = .ok (.ireturn, 1) := by decide +kernel
set_option maxRecDepth 20000 in
theorem ggX5_undo_X1_kept : GoodIn wsX5_undo wsX1_kept := goodIn_r _ [6, 7, 37, 38, 39] (by decide +kernel) (by decide +kernel)
set_option maxRecDepth 20000 in
theorem gX5_undo_X1_kept_n179 : GoodIn wsX5_undo (wsX1_kept) := ggX5_undo_X1_kept
set_option maxRecDepth 20000 in
theorem ggX5_undo_X5_needState : GoodIn wsX5_undo wsX5_needState := goodIn_ca (goodIn_r _ [11, 12, 13] (by decide +kernel) (by decide +kernel)) (goodIn_sub (fun _ h => List.mem_cons_of_mem _ (List.mem_append_right _ h)) (by decide +kernel))
set_option maxRecDepth 20000 in
theorem gX5_undo_X5_needState : GoodIn wsX5_undo (va_wsS RX5 58 yX5_needState wsX5_needState) := goodIn_app (goodIn_of _ (by decide +kernel)) ggX5_undo_X5_needState
set_option maxRecDepth 20000 in
theorem ggX5_undo_X1_giveBack : GoodIn wsX5_undo wsX1_giveBack := goodIn_r _ [16, 7, 17, 18, 19, 20, 4, 21, 22, 23, 24, 25, 26, 27, 28, 29, 30, 31, 37, 38, 39, 40] (by decide +kernel) (by decide +kernel)
set_option maxRecDepth 20000 in
theorem gX5_undo_X1_giveBack_n182 : GoodIn wsX5_undo (wsX1_giveBack) := ggX5_undo_X1_giveBack
theorem dX5_undo_0 : decode cX5_undo 0 = .ok (.aload_n 0, 1) := by decide +kernel
theorem dX5_undo_1 : decode cX5_undo 1 = .ok (.getfield 26, 3) := by decide +kernel
theorem dX5_undo_4 : decode cX5_undo 4 = .ok (.invokevirtual 179, 3) := by decide +kernel
theorem dX5_undo_7 : decode cX5_undo 7 = .ok (.ifCond .le 7, 3) := by decide +kernel
theorem dX5_undo_10 : decode cX5_undo 10 = .ok (.iconst 1, 1) := by decide +kernel
theorem dX5_undo_11 : decode cX5_undo 11 = .ok (.goto 4, 3) := by decide +kernel
theorem dX5_undo_14 : decode cX5_undo 14 = .ok (.iconst 0, 1) := by decide +kernel
theorem dX5_undo_15 : decode cX5_undo 15 = .ok (.invokestatic 58, 3) := by decide +kernel
theorem dX5_undo_18 : decode cX5_undo 18 = .ok (.aload_n 0, 1) := by decide +kernel
theorem dX5_undo_19 : decode cX5_undo 19 = .ok (.getfield 26, 3) := by decide +kernel
theorem dX5_undo_22 : decode cX5_undo 22 = .ok (.aload_n 0, 1) := by decide +kernel
theorem dX5_undo_23 : decode cX5_undo 23 = .ok (.getfield 20, 3) := by decide +kernel
theorem dX5_undo_26 : decode cX5_undo 26 = .ok (.invokevirtual 182, 3) := by decide +kernel
theorem dX5_undo_29 : decode cX5_undo 29 = .ok (.aload_n 0, 1) := by decide +kernel
theorem dX5_undo_30 : decode cX5_undo 30 = .ok (.getfield 26, 3) := by decide +kernel
theorem dX5_undo_33 : decode cX5_undo 33 = .ok (.invokevirtual 179, 3) := by decide +kernel
theorem dX5_undo_36 : decode cX5_undo 36 = .ok (.ireturn, 1) := by decide +kernel
set_option maxRecDepth 20000 in
theorem ggX5_brand_X5_needBrand : GoodIn wsX5_brand wsX5_needBrand := goodIn_ca (goodIn_r _ [6, 7, 8, 9, 10, 11, 5, 12, 1, 13, 14, 15, 16, 17, 18, 19, 20, 21, 45, 46, 47, 48, 49, 50] (by decide +kernel) (by decide +kernel)) (goodIn_sub (fun _ h => List.mem_cons_of_mem _ (List.mem_append_left _ (List.mem_append_right _ h))) (by decide +kernel))
set_option maxRecDepth 20000 in
theorem gX5_brand_X5_needBrand : GoodIn wsX5_brand (wsV RX5 100 RX5 yX5_needBrand wsX5_needBrand) := goodIn_app (goodIn_of _ (by decide +kernel)) ggX5_brand_X5_needBrand
set_option maxRecDepth 20000 in
theorem ggX5_brand_X5_needRange : GoodIn wsX5_brand wsX5_needRange := goodIn_ca (goodIn_r _ [24, 25, 26, 5, 27, 28, 29] (by decide +kernel) (by decide +kernel)) (goodIn_sub (fun _ h => List.mem_cons_of_mem _ (List.mem_append_right _ h)) (by decide +kernel))
set_option maxRecDepth 20000 in
theorem gX5_brand_X5_needRange : GoodIn wsX5_brand (va_wsS RX5 48 yX5_needRange wsX5_needRange) := goodIn_app (goodIn_of _ (by decide +kernel)) ggX5_brand_X5_needRange
set_option maxRecDepth 20000 in
theorem ggX5_brand_X2_brandNumber : GoodIn wsX5_brand wsX2_brandNumber := goodIn_r _ [32, 33, 34, 35, 14, 36, 37, 38, 39, 40, 17, 18, 19, 20, 21, 41, 42, 43, 44, 50] (by decide +kernel) (by decide +kernel)
set_option maxRecDepth 20000 in
theorem gX5_brand_X2_brandNumber_n185 : GoodIn wsX5_brand (wsX2_brandNumber) := ggX5_brand_X2_brandNumber
theorem dX5_brand_0 : decode cX5_brand 0 = .ok (.aload_n 0, 1) := by decide +kernel
theorem dX5_brand_1 : decode cX5_brand 1 = .ok (.iload_n 1, 1) := by decide +kernel
theorem dX5_brand_2 : decode cX5_brand 2 = .ok (.invokevirtual 100, 3) := by decide +kernel
theorem dX5_brand_5 : decode cX5_brand 5 = .ok (.iload_n 2, 1) := by decide +kernel
theorem dX5_brand_6 : decode cX5_brand 6 = .ok (.iconst 0, 1) := by decide +kernel
theorem dX5_brand_7 : decode cX5_brand 7 = .ok (.bipush 11, 2) := by decide +kernel
theorem dX5_brand_9 : decode cX5_brand 9 = .ok (.invokestatic 48, 3) := by decide +kernel
theorem dX5_brand_12 : decode cX5_brand 12 = .ok (.aload_n 0, 1) := by decide +kernel
theorem dX5_brand_13 : decode cX5_brand 13 = .ok (.getfield 20, 3) := by decide +kernel
theorem dX5_brand_16 : decode cX5_brand 16 = .ok (.iload_n 1, 1) := by decide +kernel
theorem dX5_brand_17 : decode cX5_brand 17 = .ok (.iload_n 2, 1) := by decide +kernel
theorem dX5_brand_18 : decode cX5_brand 18 = .ok (.invokevirtual 185, 3) := by decide +kernel
theorem dX5_brand_21 : decode cX5_brand 21 = .ok (.ireturn, 1) := by decide +kernel
set_option maxRecDepth 20000 in
theorem ggX5_shop_X5_needShop : GoodIn wsX5_shop wsX5_needShop := goodIn_ca (goodIn_r _ [6, 7, 8, 9, 10, 11, 5, 12, 1, 13, 14, 15, 16, 17, 18, 19, 20, 21, 41, 42, 43, 44, 45, 46] (by decide +kernel) (by decide +kernel)) (goodIn_sub (fun _ h => List.mem_cons_of_mem _ (List.mem_append_left _ (List.mem_append_right _ h))) (by decide +kernel))
set_option maxRecDepth 20000 in
theorem gX5_shop_X5_needShop : GoodIn wsX5_shop (wsV RX5 110 RX5 yX5_needShop wsX5_needShop) := goodIn_app (goodIn_of _ (by decide +kernel)) ggX5_shop_X5_needShop
set_option maxRecDepth 20000 in
theorem ggX5_shop_X5_isShopNumber : GoodIn wsX5_shop wsX5_isShopNumber := goodIn_r _ [24] (by decide +kernel) (by decide +kernel)
set_option maxRecDepth 20000 in
theorem gX5_shop_X5_isShopNumber : GoodIn wsX5_shop (va_wsS RX5 188 yX5_isShopNumber wsX5_isShopNumber) := goodIn_app (goodIn_of _ (by decide +kernel)) ggX5_shop_X5_isShopNumber
set_option maxRecDepth 20000 in
theorem ggX5_shop_X5_needArgument : GoodIn wsX5_shop wsX5_needArgument := goodIn_ca (goodIn_r _ [27, 28, 29] (by decide +kernel) (by decide +kernel)) (goodIn_sub (fun _ h => List.mem_cons_of_mem _ (List.mem_append_right _ h)) (by decide +kernel))
set_option maxRecDepth 20000 in
theorem gX5_shop_X5_needArgument : GoodIn wsX5_shop (va_wsS RX5 153 yX5_needArgument wsX5_needArgument) := goodIn_app (goodIn_of _ (by decide +kernel)) ggX5_shop_X5_needArgument
set_option maxRecDepth 20000 in
theorem ggX5_shop_X2_shopNumber : GoodIn wsX5_shop wsX2_shopNumber := goodIn_r _ [32, 33, 34, 35, 14, 36, 37, 38, 39, 40, 17, 18, 19, 20, 21, 46] (by decide +kernel) (by decide +kernel)
set_option maxRecDepth 20000 in
theorem gX5_shop_X2_shopNumber_n192 : GoodIn wsX5_shop (wsX2_shopNumber) := ggX5_shop_X2_shopNumber
theorem dX5_shop_0 : decode cX5_shop 0 = .ok (.aload_n 0, 1) := by decide +kernel
theorem dX5_shop_1 : decode cX5_shop 1 = .ok (.iload_n 1, 1) := by decide +kernel
theorem dX5_shop_2 : decode cX5_shop 2 = .ok (.invokevirtual 110, 3) := by decide +kernel
theorem dX5_shop_5 : decode cX5_shop 5 = .ok (.iload_n 2, 1) := by decide +kernel
theorem dX5_shop_6 : decode cX5_shop 6 = .ok (.invokestatic 188, 3) := by decide +kernel
theorem dX5_shop_9 : decode cX5_shop 9 = .ok (.invokestatic 153, 3) := by decide +kernel
theorem dX5_shop_12 : decode cX5_shop 12 = .ok (.aload_n 0, 1) := by decide +kernel
theorem dX5_shop_13 : decode cX5_shop 13 = .ok (.getfield 20, 3) := by decide +kernel
theorem dX5_shop_16 : decode cX5_shop 16 = .ok (.iload_n 1, 1) := by decide +kernel
theorem dX5_shop_17 : decode cX5_shop 17 = .ok (.iload_n 2, 1) := by decide +kernel
theorem dX5_shop_18 : decode cX5_shop 18 = .ok (.invokevirtual 192, 3) := by decide +kernel
theorem dX5_shop_21 : decode cX5_shop 21 = .ok (.ireturn, 1) := by decide +kernel
set_option maxRecDepth 20000 in
theorem ggX5_count_X5_needRange : GoodIn wsX5_count wsX5_needRange := goodIn_ca (goodIn_r _ [6, 7, 8, 5, 9, 10, 11] (by decide +kernel) (by decide +kernel)) (goodIn_sub (fun _ h => List.mem_cons_of_mem _ (List.mem_append_right _ h)) (by decide +kernel))
set_option maxRecDepth 20000 in
theorem gX5_count_X5_needRange : GoodIn wsX5_count (va_wsS RX5 48 yX5_needRange wsX5_needRange) := goodIn_app (goodIn_of _ (by decide +kernel)) ggX5_count_X5_needRange
set_option maxRecDepth 20000 in
theorem ggX5_count_X1_kept : GoodIn wsX5_count wsX1_kept := goodIn_r _ [15, 16, 51, 52, 53] (by decide +kernel) (by decide +kernel)
set_option maxRecDepth 20000 in
theorem gX5_count_X1_kept_n179 : GoodIn wsX5_count (wsX1_kept) := ggX5_count_X1_kept
set_option maxRecDepth 20000 in
theorem ggX5_count_X2_countNumber : GoodIn wsX5_count wsX2_countNumber := goodIn_r _ [20, 21, 22, 23, 18, 24, 25, 26, 27, 28, 29, 30, 31, 32, 33, 34, 35, 36, 37, 38, 39, 40, 41, 42, 43, 44, 45, 54] (by decide +kernel) (by decide +kernel)
set_option maxRecDepth 20000 in
theorem gX5_count_X2_countNumber_n77 : GoodIn wsX5_count (wsX2_countNumber) := ggX5_count_X2_countNumber
theorem dX5_count_0 : decode cX5_count 0 = .ok (.iload_n 1, 1) := by decide +kernel
theorem dX5_count_1 : decode cX5_count 1 = .ok (.iconst 0, 1) := by decide +kernel
theorem dX5_count_2 : decode cX5_count 2 = .ok (.bipush 10, 2) := by decide +kernel
theorem dX5_count_4 : decode cX5_count 4 = .ok (.invokestatic 48, 3) := by decide +kernel
theorem dX5_count_7 : decode cX5_count 7 = .ok (.iload_n 1, 1) := by decide +kernel
theorem dX5_count_8 : decode cX5_count 8 = .ok (.bipush 10, 2) := by decide +kernel
theorem dX5_count_10 : decode cX5_count 10 = .ok (.if_icmp .ne 13, 3) := by decide +kernel
theorem dX5_count_13 : decode cX5_count 13 = .ok (.aload_n 0, 1) := by decide +kernel
theorem dX5_count_14 : decode cX5_count 14 = .ok (.getfield 26, 3) := by decide +kernel
theorem dX5_count_17 : decode cX5_count 17 = .ok (.invokevirtual 179, 3) := by decide +kernel
theorem dX5_count_20 : decode cX5_count 20 = .ok (.goto 11, 3) := by decide +kernel
theorem dX5_count_23 : decode cX5_count 23 = .ok (.aload_n 0, 1) := by decide +kernel
theorem dX5_count_24 : decode cX5_count 24 = .ok (.getfield 20, 3) := by decide +kernel
theorem dX5_count_27 : decode cX5_count 27 = .ok (.iload_n 1, 1) := by decide +kernel
theorem dX5_count_28 : decode cX5_count 28 = .ok (.invokevirtual 77, 3) := by decide +kernel
theorem dX5_count_31 : decode cX5_count 31 = .ok (.ireturn, 1) := by decide +kernel
set_option maxRecDepth 20000 in
theorem ggX5_setting_X5_needSetting : GoodIn wsX5_setting wsX5_needSetting := goodIn_ca (goodIn_r _ [5, 6, 7] (by decide +kernel) (by decide +kernel)) (goodIn_sub (fun _ h => List.mem_cons_of_mem _ (List.mem_append_right _ h)) (by decide +kernel))
set_option maxRecDepth 20000 in
theorem gX5_setting_X5_needSetting : GoodIn wsX5_setting (va_wsS RX5 80 yX5_needSetting wsX5_needSetting) := goodIn_app (goodIn_of _ (by decide +kernel)) ggX5_setting_X5_needSetting
set_option maxRecDepth 20000 in
theorem ggX5_setting_X2_ofSetting : GoodIn wsX5_setting wsX2_ofSetting := goodIn_r _ [11, 12, 13, 14, 9, 15, 16, 22] (by decide +kernel) (by decide +kernel)
set_option maxRecDepth 20000 in
theorem gX5_setting_X2_ofSetting_n94 : GoodIn wsX5_setting (wsX2_ofSetting) := ggX5_setting_X2_ofSetting
theorem dX5_setting_0 : decode cX5_setting 0 = .ok (.iload_n 1, 1) := by decide +kernel
theorem dX5_setting_1 : decode cX5_setting 1 = .ok (.invokestatic 80, 3) := by decide +kernel
theorem dX5_setting_4 : decode cX5_setting 4 = .ok (.aload_n 0, 1) := by decide +kernel
theorem dX5_setting_5 : decode cX5_setting 5 = .ok (.getfield 20, 3) := by decide +kernel
theorem dX5_setting_8 : decode cX5_setting 8 = .ok (.iload_n 1, 1) := by decide +kernel
theorem dX5_setting_9 : decode cX5_setting 9 = .ok (.invokevirtual 94, 3) := by decide +kernel
theorem dX5_setting_12 : decode cX5_setting 12 = .ok (.ireturn, 1) := by decide +kernel
set_option maxRecDepth 20000 in
theorem ggX5_whyNotDeliver_X5_needBrand : GoodIn wsX5_whyNotDeliver wsX5_needBrand := goodIn_ca (goodIn_r _ [6, 7, 8, 9, 10, 11, 5, 12, 13, 14, 15, 16, 17, 18, 19, 20, 21, 22, 61, 62, 63, 64, 65, 66] (by decide +kernel) (by decide +kernel)) (goodIn_sub (fun _ h => List.mem_cons_of_mem _ (List.mem_append_left _ (List.mem_append_right _ h))) (by decide +kernel))
set_option maxRecDepth 20000 in
theorem gX5_whyNotDeliver_X5_needBrand : GoodIn wsX5_whyNotDeliver (wsV RX5 100 RX5 yX5_needBrand wsX5_needBrand) := goodIn_app (goodIn_of _ (by decide +kernel)) ggX5_whyNotDeliver_X5_needBrand
set_option maxRecDepth 20000 in
theorem ggX5_whyNotDeliver_X5_needShop : GoodIn wsX5_whyNotDeliver wsX5_needShop := goodIn_ca (goodIn_r _ [26, 7, 8, 27, 28, 29, 5, 30, 13, 14, 15, 16, 17, 18, 19, 20, 21, 22, 61, 62, 63, 64, 65, 66] (by decide +kernel) (by decide +kernel)) (goodIn_sub (fun _ h => List.mem_cons_of_mem _ (List.mem_append_left _ (List.mem_append_right _ h))) (by decide +kernel))
set_option maxRecDepth 20000 in
theorem gX5_whyNotDeliver_X5_needShop : GoodIn wsX5_whyNotDeliver (wsV RX5 110 RX5 yX5_needShop wsX5_needShop) := goodIn_app (goodIn_of _ (by decide +kernel)) ggX5_whyNotDeliver_X5_needShop
set_option maxRecDepth 20000 in
theorem ggX5_whyNotDeliver_X5_needRange : GoodIn wsX5_whyNotDeliver wsX5_needRange := goodIn_ca (goodIn_r _ [33, 34, 35, 5, 36, 37, 38] (by decide +kernel) (by decide +kernel)) (goodIn_sub (fun _ h => List.mem_cons_of_mem _ (List.mem_append_right _ h)) (by decide +kernel))
set_option maxRecDepth 20000 in
theorem gX5_whyNotDeliver_X5_needRange : GoodIn wsX5_whyNotDeliver (va_wsS RX5 48 yX5_needRange wsX5_needRange) := goodIn_app (goodIn_of _ (by decide +kernel)) ggX5_whyNotDeliver_X5_needRange
set_option maxRecDepth 20000 in
theorem ggX5_whyNotDeliver_X4_deliverReason : GoodIn wsX5_whyNotDeliver wsX4_deliverReason := goodIn_r _ [42, 43, 44, 15, 45, 46, 18, 19, 20, 21, 22, 14, 16, 17, 47, 48, 49, 50, 51, 52, 40, 53, 54, 55, 56, 57, 58, 59, 60, 67, 68, 66] (by decide +kernel) (by decide +kernel)
set_option maxRecDepth 20000 in
theorem gX5_whyNotDeliver_X4_deliverReason_n113 : GoodIn wsX5_whyNotDeliver (wsX4_deliverReason) := ggX5_whyNotDeliver_X4_deliverReason
theorem dX5_whyNotDeliver_0 : decode cX5_whyNotDeliver 0 = .ok (.aload_n 0, 1) := by decide +kernel
theorem dX5_whyNotDeliver_1 : decode cX5_whyNotDeliver 1 = .ok (.iload_n 1, 1) := by decide +kernel
theorem dX5_whyNotDeliver_2 : decode cX5_whyNotDeliver 2 = .ok (.invokevirtual 100, 3) := by decide +kernel
theorem dX5_whyNotDeliver_5 : decode cX5_whyNotDeliver 5 = .ok (.aload_n 0, 1) := by decide +kernel
theorem dX5_whyNotDeliver_6 : decode cX5_whyNotDeliver 6 = .ok (.iload_n 2, 1) := by decide +kernel
theorem dX5_whyNotDeliver_7 : decode cX5_whyNotDeliver 7 = .ok (.invokevirtual 110, 3) := by decide +kernel
theorem dX5_whyNotDeliver_10 : decode cX5_whyNotDeliver 10 = .ok (.iload_n 3, 1) := by decide +kernel
theorem dX5_whyNotDeliver_11 : decode cX5_whyNotDeliver 11 = .ok (.iconst 1, 1) := by decide +kernel
theorem dX5_whyNotDeliver_12 : decode cX5_whyNotDeliver 12 = .ok (.bipush 50, 2) := by decide +kernel
theorem dX5_whyNotDeliver_14 : decode cX5_whyNotDeliver 14 = .ok (.invokestatic 48, 3) := by decide +kernel
theorem dX5_whyNotDeliver_17 : decode cX5_whyNotDeliver 17 = .ok (.aload_n 0, 1) := by decide +kernel
theorem dX5_whyNotDeliver_18 : decode cX5_whyNotDeliver 18 = .ok (.getfield 12, 3) := by decide +kernel
theorem dX5_whyNotDeliver_21 : decode cX5_whyNotDeliver 21 = .ok (.iload_n 1, 1) := by decide +kernel
theorem dX5_whyNotDeliver_22 : decode cX5_whyNotDeliver 22 = .ok (.iload_n 2, 1) := by decide +kernel
theorem dX5_whyNotDeliver_23 : decode cX5_whyNotDeliver 23 = .ok (.iload_n 3, 1) := by decide +kernel
theorem dX5_whyNotDeliver_24 : decode cX5_whyNotDeliver 24 = .ok (.invokevirtual 113, 3) := by decide +kernel
theorem dX5_whyNotDeliver_27 : decode cX5_whyNotDeliver 27 = .ok (.ireturn, 1) := by decide +kernel
set_option maxRecDepth 20000 in
theorem ggX5_whyNotCollect_X5_needShop : GoodIn wsX5_whyNotCollect wsX5_needShop := goodIn_ca (goodIn_r _ [6, 7, 8, 9, 10, 11, 5, 12, 13, 14, 15, 16, 17, 18, 19, 20, 21, 22, 49, 50, 51, 52, 53, 54] (by decide +kernel) (by decide +kernel)) (goodIn_sub (fun _ h => List.mem_cons_of_mem _ (List.mem_append_left _ (List.mem_append_right _ h))) (by decide +kernel))
set_option maxRecDepth 20000 in
theorem gX5_whyNotCollect_X5_needShop : GoodIn wsX5_whyNotCollect (wsV RX5 110 RX5 yX5_needShop wsX5_needShop) := goodIn_app (goodIn_of _ (by decide +kernel)) ggX5_whyNotCollect_X5_needShop
set_option maxRecDepth 20000 in
theorem ggX5_whyNotCollect_X5_needKind : GoodIn wsX5_whyNotCollect wsX5_needKind := goodIn_ca (goodIn_r _ [25, 26, 27, 5, 28, 29, 30, 31, 32, 33] (by decide +kernel) (by decide +kernel)) (goodIn_sub (fun _ h => List.mem_cons_of_mem _ (List.mem_append_right _ h)) (by decide +kernel))
set_option maxRecDepth 20000 in
theorem gX5_whyNotCollect_X5_needKind : GoodIn wsX5_whyNotCollect (va_wsS RX5 44 yX5_needKind wsX5_needKind) := goodIn_app (goodIn_of _ (by decide +kernel)) ggX5_whyNotCollect_X5_needKind
set_option maxRecDepth 20000 in
theorem ggX5_whyNotCollect_X5_needRange : GoodIn wsX5_whyNotCollect wsX5_needRange := goodIn_ca (goodIn_r _ [28, 29, 30, 5, 31, 32, 33] (by decide +kernel) (by decide +kernel)) (goodIn_sub (fun _ h => List.mem_cons_of_mem _ (List.mem_append_right _ h)) (by decide +kernel))
set_option maxRecDepth 20000 in
theorem gX5_whyNotCollect_X5_needRange : GoodIn wsX5_whyNotCollect (va_wsS RX5 48 yX5_needRange wsX5_needRange) := goodIn_app (goodIn_of _ (by decide +kernel)) ggX5_whyNotCollect_X5_needRange
set_option maxRecDepth 20000 in
theorem ggX5_whyNotCollect_X4_collectReason : GoodIn wsX5_whyNotCollect wsX4_collectReason := goodIn_r _ [37, 38, 39, 40, 41, 35, 42, 43, 15, 44, 45, 18, 19, 20, 21, 22, 46, 47, 48, 55, 56, 54] (by decide +kernel) (by decide +kernel)
set_option maxRecDepth 20000 in
theorem gX5_whyNotCollect_X4_collectReason_n141 : GoodIn wsX5_whyNotCollect (wsX4_collectReason) := ggX5_whyNotCollect_X4_collectReason
theorem dX5_whyNotCollect_0 : decode cX5_whyNotCollect 0 = .ok (.aload_n 0, 1) := by decide +kernel
theorem dX5_whyNotCollect_1 : decode cX5_whyNotCollect 1 = .ok (.iload_n 1, 1) := by decide +kernel
theorem dX5_whyNotCollect_2 : decode cX5_whyNotCollect 2 = .ok (.invokevirtual 110, 3) := by decide +kernel
theorem dX5_whyNotCollect_5 : decode cX5_whyNotCollect 5 = .ok (.iload_n 2, 1) := by decide +kernel
theorem dX5_whyNotCollect_6 : decode cX5_whyNotCollect 6 = .ok (.invokestatic 44, 3) := by decide +kernel
theorem dX5_whyNotCollect_9 : decode cX5_whyNotCollect 9 = .ok (.iload_n 3, 1) := by decide +kernel
theorem dX5_whyNotCollect_10 : decode cX5_whyNotCollect 10 = .ok (.iconst 1, 1) := by decide +kernel
theorem dX5_whyNotCollect_11 : decode cX5_whyNotCollect 11 = .ok (.bipush 50, 2) := by decide +kernel
theorem dX5_whyNotCollect_13 : decode cX5_whyNotCollect 13 = .ok (.invokestatic 48, 3) := by decide +kernel
theorem dX5_whyNotCollect_16 : decode cX5_whyNotCollect 16 = .ok (.aload_n 0, 1) := by decide +kernel
theorem dX5_whyNotCollect_17 : decode cX5_whyNotCollect 17 = .ok (.getfield 12, 3) := by decide +kernel
theorem dX5_whyNotCollect_20 : decode cX5_whyNotCollect 20 = .ok (.iload_n 1, 1) := by decide +kernel
theorem dX5_whyNotCollect_21 : decode cX5_whyNotCollect 21 = .ok (.iload_n 2, 1) := by decide +kernel
theorem dX5_whyNotCollect_22 : decode cX5_whyNotCollect 22 = .ok (.iload_n 3, 1) := by decide +kernel
theorem dX5_whyNotCollect_23 : decode cX5_whyNotCollect 23 = .ok (.invokevirtual 141, 3) := by decide +kernel
theorem dX5_whyNotCollect_26 : decode cX5_whyNotCollect 26 = .ok (.ireturn, 1) := by decide +kernel
set_option maxRecDepth 20000 in
theorem ggX5_mostCrates_X5_needBrand : GoodIn wsX5_mostCrates wsX5_needBrand := goodIn_ca (goodIn_r _ [6, 7, 8, 9, 10, 11, 5, 12, 13, 14, 15, 16, 17, 18, 19, 20, 21, 22, 57, 58, 59, 60, 61, 62] (by decide +kernel) (by decide +kernel)) (goodIn_sub (fun _ h => List.mem_cons_of_mem _ (List.mem_append_right _ h)) (by decide +kernel))
set_option maxRecDepth 20000 in
theorem gX5_mostCrates_X5_needBrand : GoodIn wsX5_mostCrates (wsV RX5 100 RX5 yX5_needBrand wsX5_needBrand) := goodIn_app (goodIn_of _ (by decide +kernel)) ggX5_mostCrates_X5_needBrand
set_option maxRecDepth 20000 in
theorem ggX5_mostCrates_X5_needShop : GoodIn wsX5_mostCrates wsX5_needShop := goodIn_ca (goodIn_r _ [26, 7, 8, 27, 28, 29, 5, 30, 13, 14, 15, 16, 17, 18, 19, 20, 21, 22, 57, 58, 59, 60, 61, 62] (by decide +kernel) (by decide +kernel)) (goodIn_sub (fun _ h => List.mem_cons_of_mem _ (List.mem_append_right _ h)) (by decide +kernel))
set_option maxRecDepth 20000 in
theorem gX5_mostCrates_X5_needShop : GoodIn wsX5_mostCrates (wsV RX5 110 RX5 yX5_needShop wsX5_needShop) := goodIn_app (goodIn_of _ (by decide +kernel)) ggX5_mostCrates_X5_needShop
set_option maxRecDepth 20000 in
theorem ggX5_mostCrates_X4_mostDeliverable : GoodIn wsX5_mostCrates wsX4_mostDeliverable := goodIn_r _ [34, 35, 36, 37, 38, 39, 40, 41, 42, 32, 43, 44, 15, 45, 46, 18, 19, 20, 21, 22, 47, 48, 49, 50, 51, 52, 53, 54, 55, 56, 14, 16, 17, 63, 64, 62] (by decide +kernel) (by decide +kernel)
set_option maxRecDepth 20000 in
theorem gX5_mostCrates_X4_mostDeliverable_n195 : GoodIn wsX5_mostCrates (wsX4_mostDeliverable) := ggX5_mostCrates_X4_mostDeliverable
theorem dX5_mostCrates_0 : decode cX5_mostCrates 0 = .ok (.aload_n 0, 1) := by decide +kernel
theorem dX5_mostCrates_1 : decode cX5_mostCrates 1 = .ok (.iload_n 1, 1) := by decide +kernel
theorem dX5_mostCrates_2 : decode cX5_mostCrates 2 = .ok (.invokevirtual 100, 3) := by decide +kernel
theorem dX5_mostCrates_5 : decode cX5_mostCrates 5 = .ok (.aload_n 0, 1) := by decide +kernel
theorem dX5_mostCrates_6 : decode cX5_mostCrates 6 = .ok (.iload_n 2, 1) := by decide +kernel
theorem dX5_mostCrates_7 : decode cX5_mostCrates 7 = .ok (.invokevirtual 110, 3) := by decide +kernel
theorem dX5_mostCrates_10 : decode cX5_mostCrates 10 = .ok (.aload_n 0, 1) := by decide +kernel
theorem dX5_mostCrates_11 : decode cX5_mostCrates 11 = .ok (.getfield 12, 3) := by decide +kernel
theorem dX5_mostCrates_14 : decode cX5_mostCrates 14 = .ok (.iload_n 1, 1) := by decide +kernel
theorem dX5_mostCrates_15 : decode cX5_mostCrates 15 = .ok (.iload_n 2, 1) := by decide +kernel
theorem dX5_mostCrates_16 : decode cX5_mostCrates 16 = .ok (.invokevirtual 195, 3) := by decide +kernel
theorem dX5_mostCrates_19 : decode cX5_mostCrates 19 = .ok (.ireturn, 1) := by decide +kernel
set_option maxRecDepth 20000 in
theorem ggX5_collected_X5_needShop : GoodIn wsX5_collected wsX5_needShop := goodIn_ca (goodIn_r _ [6, 7, 8, 9, 10, 11, 5, 12, 13, 14, 15, 16, 17, 18, 19, 20, 21, 22, 73, 74, 75, 76, 77, 78] (by decide +kernel) (by decide +kernel)) (goodIn_sub (fun _ h => List.mem_cons_of_mem _ (List.mem_append_left _ (List.mem_append_right _ h))) (by decide +kernel))
set_option maxRecDepth 20000 in
theorem gX5_collected_X5_needShop : GoodIn wsX5_collected (wsV RX5 110 RX5 yX5_needShop wsX5_needShop) := goodIn_app (goodIn_of _ (by decide +kernel)) ggX5_collected_X5_needShop
set_option maxRecDepth 20000 in
theorem ggX5_collected_X5_needBrand : GoodIn wsX5_collected wsX5_needBrand := goodIn_ca (goodIn_r _ [26, 7, 8, 27, 28, 29, 5, 30, 13, 14, 15, 16, 17, 18, 19, 20, 21, 22, 73, 74, 75, 76, 77, 78] (by decide +kernel) (by decide +kernel)) (goodIn_sub (fun _ h => List.mem_cons_of_mem _ (List.mem_append_left _ (List.mem_append_right _ h))) (by decide +kernel))
set_option maxRecDepth 20000 in
theorem gX5_collected_X5_needBrand : GoodIn wsX5_collected (wsV RX5 100 RX5 yX5_needBrand wsX5_needBrand) := goodIn_app (goodIn_of _ (by decide +kernel)) ggX5_collected_X5_needBrand
set_option maxRecDepth 20000 in
theorem ggX5_collected_X5_needRange : GoodIn wsX5_collected wsX5_needRange := goodIn_ca (goodIn_r _ [33, 34, 35, 5, 36, 37, 38] (by decide +kernel) (by decide +kernel)) (goodIn_sub (fun _ h => List.mem_cons_of_mem _ (List.mem_append_right _ h)) (by decide +kernel))
set_option maxRecDepth 20000 in
theorem gX5_collected_X5_needRange : GoodIn wsX5_collected (va_wsS RX5 48 yX5_needRange wsX5_needRange) := goodIn_app (goodIn_of _ (by decide +kernel)) ggX5_collected_X5_needRange
set_option maxRecDepth 20000 in
theorem ggX5_collected_X4_wouldCollect : GoodIn wsX5_collected wsX4_wouldCollect := goodIn_r _ [42, 43, 44, 15, 45, 46, 18, 19, 20, 21, 22, 47, 48, 49, 40, 50, 51, 52, 53, 54, 55, 56, 57, 58, 59, 60, 61, 62, 63, 64, 65, 66, 67, 68, 69, 70, 71, 5, 72, 79, 80, 78] (by decide +kernel) (by decide +kernel)
set_option maxRecDepth 20000 in
theorem gX5_collected_X4_wouldCollect_n198 : GoodIn wsX5_collected (wsX4_wouldCollect) := ggX5_collected_X4_wouldCollect
theorem dX5_collected_0 : decode cX5_collected 0 = .ok (.aload_n 0, 1) := by decide +kernel
theorem dX5_collected_1 : decode cX5_collected 1 = .ok (.iload_n 1, 1) := by decide +kernel
theorem dX5_collected_2 : decode cX5_collected 2 = .ok (.invokevirtual 110, 3) := by decide +kernel
theorem dX5_collected_5 : decode cX5_collected 5 = .ok (.aload_n 0, 1) := by decide +kernel
theorem dX5_collected_6 : decode cX5_collected 6 = .ok (.iload_n 2, 1) := by decide +kernel
theorem dX5_collected_7 : decode cX5_collected 7 = .ok (.invokevirtual 100, 3) := by decide +kernel
theorem dX5_collected_10 : decode cX5_collected 10 = .ok (.iload_n 3, 1) := by decide +kernel
theorem dX5_collected_11 : decode cX5_collected 11 = .ok (.iconst 1, 1) := by decide +kernel
theorem dX5_collected_12 : decode cX5_collected 12 = .ok (.bipush 50, 2) := by decide +kernel
theorem dX5_collected_14 : decode cX5_collected 14 = .ok (.invokestatic 48, 3) := by decide +kernel
theorem dX5_collected_17 : decode cX5_collected 17 = .ok (.aload_n 0, 1) := by decide +kernel
theorem dX5_collected_18 : decode cX5_collected 18 = .ok (.getfield 12, 3) := by decide +kernel
theorem dX5_collected_21 : decode cX5_collected 21 = .ok (.iload_n 1, 1) := by decide +kernel
theorem dX5_collected_22 : decode cX5_collected 22 = .ok (.iload_n 2, 1) := by decide +kernel
theorem dX5_collected_23 : decode cX5_collected 23 = .ok (.iload_n 3, 1) := by decide +kernel
theorem dX5_collected_24 : decode cX5_collected 24 = .ok (.invokevirtual 198, 3) := by decide +kernel
theorem dX5_collected_27 : decode cX5_collected 27 = .ok (.ireturn, 1) := by decide +kernel
set_option maxRecDepth 20000 in
theorem ggX5_filled_X5_needBrand : GoodIn wsX5_filled wsX5_needBrand := goodIn_ca (goodIn_r _ [6, 7, 8, 9, 10, 11, 5, 12, 13, 14, 15, 16, 17, 18, 19, 20, 21, 22, 42, 43, 44, 45, 46, 47] (by decide +kernel) (by decide +kernel)) (goodIn_sub (fun _ h => List.mem_cons_of_mem _ (List.mem_append_left _ (List.mem_append_right _ h))) (by decide +kernel))
set_option maxRecDepth 20000 in
theorem gX5_filled_X5_needBrand : GoodIn wsX5_filled (wsV RX5 100 RX5 yX5_needBrand wsX5_needBrand) := goodIn_app (goodIn_of _ (by decide +kernel)) ggX5_filled_X5_needBrand
set_option maxRecDepth 20000 in
theorem ggX5_filled_X5_needRange : GoodIn wsX5_filled wsX5_needRange := goodIn_ca (goodIn_r _ [25, 26, 27, 5, 28, 29, 30] (by decide +kernel) (by decide +kernel)) (goodIn_sub (fun _ h => List.mem_cons_of_mem _ (List.mem_append_right _ h)) (by decide +kernel))
set_option maxRecDepth 20000 in
theorem gX5_filled_X5_needRange : GoodIn wsX5_filled (va_wsS RX5 48 yX5_needRange wsX5_needRange) := goodIn_app (goodIn_of _ (by decide +kernel)) ggX5_filled_X5_needRange
set_option maxRecDepth 20000 in
theorem ggX5_filled_X4_wornBy : GoodIn wsX5_filled wsX4_wornBy := goodIn_r _ [34, 35, 36, 15, 37, 38, 18, 19, 20, 21, 22, 39, 40, 41, 48, 49, 47] (by decide +kernel) (by decide +kernel)
set_option maxRecDepth 20000 in
theorem gX5_filled_X4_wornBy_n201 : GoodIn wsX5_filled (wsX4_wornBy) := ggX5_filled_X4_wornBy
theorem dX5_filled_0 : decode cX5_filled 0 = .ok (.aload_n 0, 1) := by decide +kernel
theorem dX5_filled_1 : decode cX5_filled 1 = .ok (.iload_n 1, 1) := by decide +kernel
theorem dX5_filled_2 : decode cX5_filled 2 = .ok (.invokevirtual 100, 3) := by decide +kernel
theorem dX5_filled_5 : decode cX5_filled 5 = .ok (.iload_n 2, 1) := by decide +kernel
theorem dX5_filled_6 : decode cX5_filled 6 = .ok (.iconst 1, 1) := by decide +kernel
theorem dX5_filled_7 : decode cX5_filled 7 = .ok (.sipush 5000, 3) := by decide +kernel
theorem dX5_filled_10 : decode cX5_filled 10 = .ok (.invokestatic 48, 3) := by decide +kernel
theorem dX5_filled_13 : decode cX5_filled 13 = .ok (.iload_n 2, 1) := by decide +kernel
theorem dX5_filled_14 : decode cX5_filled 14 = .ok (.aload_n 0, 1) := by decide +kernel
theorem dX5_filled_15 : decode cX5_filled 15 = .ok (.getfield 12, 3) := by decide +kernel
theorem dX5_filled_18 : decode cX5_filled 18 = .ok (.iload_n 1, 1) := by decide +kernel
theorem dX5_filled_19 : decode cX5_filled 19 = .ok (.iload_n 2, 1) := by decide +kernel
theorem dX5_filled_20 : decode cX5_filled 20 = .ok (.invokevirtual 201, 3) := by decide +kernel
theorem dX5_filled_23 : decode cX5_filled 23 = .ok (.isub, 1) := by decide +kernel
theorem dX5_filled_24 : decode cX5_filled 24 = .ok (.ireturn, 1) := by decide +kernel
set_option maxRecDepth 20000 in
theorem ggX5_bestShop_X5_needKind : GoodIn wsX5_bestShop wsX5_needKind := goodIn_ca (goodIn_r _ [5, 6, 7, 4, 8, 9, 10, 11, 12, 13] (by decide +kernel) (by decide +kernel)) (goodIn_sub (fun _ h => List.mem_cons_of_mem _ (List.mem_append_right _ h)) (by decide +kernel))
set_option maxRecDepth 20000 in
theorem gX5_bestShop_X5_needKind : GoodIn wsX5_bestShop (va_wsS RX5 44 yX5_needKind wsX5_needKind) := goodIn_app (goodIn_of _ (by decide +kernel)) ggX5_bestShop_X5_needKind
set_option maxRecDepth 20000 in
theorem ggX5_bestShop_X4_bestToCollect : GoodIn wsX5_bestShop wsX4_bestToCollect := goodIn_r _ [17, 18, 19, 20, 15, 21, 22, 23, 24, 25, 26, 27, 28, 29, 30, 31, 32, 33, 34, 35, 36, 37, 38, 39, 40, 41, 42, 48, 49, 50] (by decide +kernel) (by decide +kernel)
set_option maxRecDepth 20000 in
theorem gX5_bestShop_X4_bestToCollect_n204 : GoodIn wsX5_bestShop (wsX4_bestToCollect) := ggX5_bestShop_X4_bestToCollect
theorem dX5_bestShop_0 : decode cX5_bestShop 0 = .ok (.iload_n 1, 1) := by decide +kernel
theorem dX5_bestShop_1 : decode cX5_bestShop 1 = .ok (.invokestatic 44, 3) := by decide +kernel
theorem dX5_bestShop_4 : decode cX5_bestShop 4 = .ok (.aload_n 0, 1) := by decide +kernel
theorem dX5_bestShop_5 : decode cX5_bestShop 5 = .ok (.getfield 12, 3) := by decide +kernel
theorem dX5_bestShop_8 : decode cX5_bestShop 8 = .ok (.iload_n 1, 1) := by decide +kernel
theorem dX5_bestShop_9 : decode cX5_bestShop 9 = .ok (.invokevirtual 204, 3) := by decide +kernel
theorem dX5_bestShop_12 : decode cX5_bestShop 12 = .ok (.ireturn, 1) := by decide +kernel
set_option maxRecDepth 20000 in
theorem ggX5_goneShare_X2_brandSum : GoodIn wsX5_goneShare wsX2_brandSum := goodIn_r _ [5, 6, 7, 8, 3, 9, 10, 11, 12, 13, 14, 15, 16, 17, 18, 19, 20, 21, 22, 23, 24, 25, 26, 32] (by decide +kernel) (by decide +kernel)
set_option maxRecDepth 20000 in
theorem gX5_goneShare_X2_brandSum_n207 : GoodIn wsX5_goneShare (wsX2_brandSum) := ggX5_goneShare_X2_brandSum
theorem dX5_goneShare_0 : decode cX5_goneShare 0 = .ok (.aload_n 0, 1) := by decide +kernel
theorem dX5_goneShare_1 : decode cX5_goneShare 1 = .ok (.getfield 20, 3) := by decide +kernel
theorem dX5_goneShare_4 : decode cX5_goneShare 4 = .ok (.iconst 1, 1) := by decide +kernel
theorem dX5_goneShare_5 : decode cX5_goneShare 5 = .ok (.bipush 9, 2) := by decide +kernel
theorem dX5_goneShare_7 : decode cX5_goneShare 7 = .ok (.invokevirtual 207, 3) := by decide +kernel
theorem dX5_goneShare_10 : decode cX5_goneShare 10 = .ok (.istore_n 1, 1) := by decide +kernel
theorem dX5_goneShare_11 : decode cX5_goneShare 11 = .ok (.iload_n 1, 1) := by decide +kernel
theorem dX5_goneShare_12 : decode cX5_goneShare 12 = .ok (.ifCond .le 21, 3) := by decide +kernel
theorem dX5_goneShare_15 : decode cX5_goneShare 15 = .ok (.aload_n 0, 1) := by decide +kernel
theorem dX5_goneShare_16 : decode cX5_goneShare 16 = .ok (.getfield 20, 3) := by decide +kernel
theorem dX5_goneShare_19 : decode cX5_goneShare 19 = .ok (.bipush 7, 2) := by decide +kernel
theorem dX5_goneShare_21 : decode cX5_goneShare 21 = .ok (.bipush 9, 2) := by decide +kernel
theorem dX5_goneShare_23 : decode cX5_goneShare 23 = .ok (.invokevirtual 207, 3) := by decide +kernel
theorem dX5_goneShare_26 : decode cX5_goneShare 26 = .ok (.i2d, 1) := by decide +kernel
theorem dX5_goneShare_27 : decode cX5_goneShare 27 = .ok (.iload_n 1, 1) := by decide +kernel
theorem dX5_goneShare_28 : decode cX5_goneShare 28 = .ok (.i2d, 1) := by decide +kernel
theorem dX5_goneShare_29 : decode cX5_goneShare 29 = .ok (.ddiv, 1) := by decide +kernel
theorem dX5_goneShare_30 : decode cX5_goneShare 30 = .ok (.goto 4, 3) := by decide +kernel
theorem dX5_goneShare_33 : decode cX5_goneShare 33 = .ok (.dconst 0, 1) := by decide +kernel
theorem dX5_goneShare_34 : decode cX5_goneShare 34 = .ok (.dreturn, 1) := by decide +kernel
set_option maxRecDepth 20000 in
theorem ggX5_digest_X5_count : GoodIn wsX5_digest wsX5_count := goodIn_ca (goodIn_r _ [8, 9, 2, 10, 11, 7, 12, 13, 14, 15, 16, 17, 18, 19, 20, 21, 22, 23, 24, 25, 26, 27, 28, 29, 30, 31, 32, 33, 34, 35, 36, 37, 38, 39, 40, 41, 42, 43, 44, 45, 46, 47, 48, 49, 50, 51, 165, 166, 167, 168, 169, 170, 171, 172, 173] (by decide +kernel) (by decide +kernel)) (goodIn_sub (fun _ h => List.mem_cons_of_mem _ (List.mem_append_right _ h)) (by decide +kernel))
set_option maxRecDepth 20000 in
theorem gX5_digest_X5_count : GoodIn wsX5_digest (wsV RX5 212 RX5 yX5_count wsX5_count) := goodIn_app (goodIn_of _ (by decide +kernel)) ggX5_digest_X5_count
set_option maxRecDepth 20000 in
theorem ggX5_digest_X5_mixed : GoodIn wsX5_digest wsX5_mixed := goodIn_r _ [54, 55] (by decide +kernel) (by decide +kernel)
set_option maxRecDepth 20000 in
theorem gX5_digest_X5_mixed : GoodIn wsX5_digest (va_wsS RX5 215 yX5_mixed wsX5_mixed) := goodIn_app (goodIn_of _ (by decide +kernel)) ggX5_digest_X5_mixed
set_option maxRecDepth 20000 in
theorem ggX5_digest_X2_ofSetting : GoodIn wsX5_digest wsX2_ofSetting := goodIn_r _ [58, 35, 36, 37, 24, 38, 39, 173] (by decide +kernel) (by decide +kernel)
set_option maxRecDepth 20000 in
theorem gX5_digest_X2_ofSetting_n94 : GoodIn wsX5_digest (wsX2_ofSetting) := ggX5_digest_X2_ofSetting
set_option maxRecDepth 20000 in
theorem ggX5_digest_X2_ofAll : GoodIn wsX5_digest wsX2_ofAll := goodIn_r _ [51, 35, 36, 37, 24, 38, 39, 173] (by decide +kernel) (by decide +kernel)
set_option maxRecDepth 20000 in
theorem gX5_digest_X2_ofAll_n52 : GoodIn wsX5_digest (wsX2_ofAll) := ggX5_digest_X2_ofAll
set_option maxRecDepth 20000 in
theorem ggX5_digest_X5_mixedBrand : GoodIn wsX5_digest wsX5_mixedBrand := goodIn_r _ [62, 2, 3, 63, 24, 64, 65, 27, 28, 29, 30, 31, 32, 33, 34, 35, 36, 37, 38, 39, 44, 45, 46, 47, 52, 53, 7, 54, 55, 66, 67, 68, 69, 70, 56, 57, 58, 49, 50, 51, 71, 72, 73, 74, 75, 76, 77, 78, 79, 80, 81, 82, 83, 84, 85, 165, 166, 167, 168, 169, 173, 174, 175] (by decide +kernel) (by decide +kernel)
set_option maxRecDepth 20000 in
theorem gX5_digest_X5_mixedBrand : GoodIn wsX5_digest (wsV RX5 219 RX5 yX5_mixedBrand wsX5_mixedBrand) := goodIn_app (goodIn_of _ (by decide +kernel)) ggX5_digest_X5_mixedBrand
set_option maxRecDepth 20000 in
theorem ggX5_digest_X5_mixedShop : GoodIn wsX5_digest wsX5_mixedShop := goodIn_r _ [89, 2, 90, 91, 7, 92, 93, 24, 94, 95, 96, 97, 98, 99, 31, 32, 33, 34, 35, 36, 37, 38, 39, 52, 53, 54, 55, 165, 166, 167, 168, 169, 173] (by decide +kernel) (by decide +kernel)
set_option maxRecDepth 20000 in
theorem gX5_digest_X5_mixedShop : GoodIn wsX5_digest (wsV RX5 223 RX5 yX5_mixedShop wsX5_mixedShop) := goodIn_app (goodIn_of _ (by decide +kernel)) ggX5_digest_X5_mixedShop
set_option maxRecDepth 20000 in
theorem ggX5_digest_X4_bestToCollect : GoodIn wsX5_digest wsX4_bestToCollect := goodIn_r _ [102, 103, 104, 105, 67, 106, 70, 74, 75, 76, 77, 107, 108, 109, 110, 45, 24, 46, 47, 35, 36, 37, 38, 39, 32, 33, 34, 174, 175, 173] (by decide +kernel) (by decide +kernel)
set_option maxRecDepth 20000 in
theorem gX5_digest_X4_bestToCollect_n204 : GoodIn wsX5_digest (wsX4_bestToCollect) := ggX5_digest_X4_bestToCollect
set_option maxRecDepth 20000 in
theorem ggX5_digest_X5_mixedCollected : GoodIn wsX5_digest wsX5_mixedCollected := goodIn_r _ [114, 2, 3, 49, 24, 50, 51, 35, 36, 37, 38, 39, 115, 67, 116, 117, 70, 45, 46, 47, 118, 119, 120, 121, 107, 108, 109, 110, 32, 33, 34, 122, 123, 124, 125, 126, 127, 128, 129, 130, 131, 132, 133, 134, 135, 7, 136, 52, 53, 54, 55, 165, 166, 167, 168, 169, 173, 174, 175] (by decide +kernel) (by decide +kernel)
set_option maxRecDepth 20000 in
theorem gX5_digest_X5_mixedCollected : GoodIn wsX5_digest (wsV RX5 226 RX5 yX5_mixedCollected wsX5_mixedCollected) := goodIn_app (goodIn_of _ (by decide +kernel)) ggX5_digest_X5_mixedCollected
set_option maxRecDepth 20000 in
theorem ggX5_digest_X5_goneShare : GoodIn wsX5_digest wsX5_goneShare := goodIn_r _ [140, 2, 141, 24, 142, 143, 144, 63, 64, 65, 27, 28, 29, 30, 31, 32, 33, 34, 35, 36, 37, 38, 39, 44, 45, 46, 47, 165, 166, 167, 168, 169, 173] (by decide +kernel) (by decide +kernel)
set_option maxRecDepth 20000 in
theorem gX5_digest_X5_goneShare : GoodIn wsX5_digest (wsV RX5 230 RX5 yX5_goneShare wsX5_goneShare) := goodIn_app (goodIn_of _ (by decide +kernel)) ggX5_digest_X5_goneShare
set_option maxRecDepth 20000 in
theorem ggX5_digest_X5_bitsOf : GoodIn wsX5_digest wsX5_bitsOf := goodIn_r _ [147, 148, 149, 150] (by decide +kernel) (by decide +kernel)
set_option maxRecDepth 20000 in
theorem gX5_digest_X5_bitsOf : GoodIn wsX5_digest (va_wsS RX5 234 yX5_bitsOf wsX5_bitsOf) := goodIn_app (goodIn_of _ (by decide +kernel)) ggX5_digest_X5_bitsOf
set_option maxRecDepth 20000 in
theorem ggX5_digest_X5_mixedText : GoodIn wsX5_digest wsX5_mixedText := goodIn_r _ [154, 155, 156, 157, 158, 159, 160, 52, 53, 7, 54, 55, 161, 162, 163, 164, 135, 136, 165, 166, 167, 168, 169, 176, 177, 178] (by decide +kernel) (by decide +kernel)
set_option maxRecDepth 20000 in
theorem gX5_digest_X5_mixedText : GoodIn wsX5_digest (wsV RX5 238 RX5 yX5_mixedText wsX5_mixedText) := goodIn_app (goodIn_of _ (by decide +kernel)) ggX5_digest_X5_mixedText
theorem dX5_digest_0 : decode cX5_digest 0 = .ok (.ldc2_w 210, 3) := by decide +kernel
theorem dX5_digest_3 : decode cX5_digest 3 = .ok (.lstore_n 1, 1) := by decide +kernel
theorem dX5_digest_4 : decode cX5_digest 4 = .ok (.iconst 0, 1) := by decide +kernel
theorem dX5_digest_5 : decode cX5_digest 5 = .ok (.istore_n 3, 1) := by decide +kernel
theorem dX5_digest_6 : decode cX5_digest 6 = .ok (.iload_n 3, 1) := by decide +kernel
theorem dX5_digest_7 : decode cX5_digest 7 = .ok (.bipush 11, 2) := by decide +kernel
theorem dX5_digest_9 : decode cX5_digest 9 = .ok (.if_icmp .ge 20, 3) := by decide +kernel
theorem dX5_digest_12 : decode cX5_digest 12 = .ok (.lload_n 1, 1) := by decide +kernel
theorem dX5_digest_13 : decode cX5_digest 13 = .ok (.aload_n 0, 1) := by decide +kernel
theorem dX5_digest_14 : decode cX5_digest 14 = .ok (.iload_n 3, 1) := by decide +kernel
theorem dX5_digest_15 : decode cX5_digest 15 = .ok (.invokevirtual 212, 3) := by decide +kernel
theorem dX5_digest_18 : decode cX5_digest 18 = .ok (.i2l, 1) := by decide +kernel
theorem dX5_digest_19 : decode cX5_digest 19 = .ok (.invokestatic 215, 3) := by decide +kernel
theorem dX5_digest_22 : decode cX5_digest 22 = .ok (.lstore_n 1, 1) := by decide +kernel
theorem dX5_digest_23 : decode cX5_digest 23 = .ok (.iinc 3 1, 3) := by decide +kernel
theorem dX5_digest_26 : decode cX5_digest 26 = .ok (.goto (-20), 3) := by decide +kernel
theorem dX5_digest_29 : decode cX5_digest 29 = .ok (.iconst 0, 1) := by decide +kernel
theorem dX5_digest_30 : decode cX5_digest 30 = .ok (.istore_n 3, 1) := by decide +kernel
theorem dX5_digest_31 : decode cX5_digest 31 = .ok (.iload_n 3, 1) := by decide +kernel
theorem dX5_digest_32 : decode cX5_digest 32 = .ok (.bipush 6, 2) := by decide +kernel
theorem dX5_digest_34 : decode cX5_digest 34 = .ok (.if_icmp .ge 23, 3) := by decide +kernel
theorem dX5_digest_37 : decode cX5_digest 37 = .ok (.lload_n 1, 1) := by decide +kernel
theorem dX5_digest_38 : decode cX5_digest 38 = .ok (.aload_n 0, 1) := by decide +kernel
theorem dX5_digest_39 : decode cX5_digest 39 = .ok (.getfield 20, 3) := by decide +kernel
theorem dX5_digest_42 : decode cX5_digest 42 = .ok (.iload_n 3, 1) := by decide +kernel
theorem dX5_digest_43 : decode cX5_digest 43 = .ok (.invokevirtual 94, 3) := by decide +kernel
theorem dX5_digest_46 : decode cX5_digest 46 = .ok (.i2l, 1) := by decide +kernel
theorem dX5_digest_47 : decode cX5_digest 47 = .ok (.invokestatic 215, 3) := by decide +kernel
theorem dX5_digest_50 : decode cX5_digest 50 = .ok (.lstore_n 1, 1) := by decide +kernel
theorem dX5_digest_51 : decode cX5_digest 51 = .ok (.iinc 3 1, 3) := by decide +kernel
theorem dX5_digest_54 : decode cX5_digest 54 = .ok (.goto (-23), 3) := by decide +kernel
theorem dX5_digest_57 : decode cX5_digest 57 = .ok (.iconst 0, 1) := by decide +kernel
theorem dX5_digest_58 : decode cX5_digest 58 = .ok (.istore_n 3, 1) := by decide +kernel
theorem dX5_digest_59 : decode cX5_digest 59 = .ok (.iload_n 3, 1) := by decide +kernel
theorem dX5_digest_60 : decode cX5_digest 60 = .ok (.aload_n 0, 1) := by decide +kernel
theorem dX5_digest_61 : decode cX5_digest 61 = .ok (.getfield 20, 3) := by decide +kernel
theorem dX5_digest_64 : decode cX5_digest 64 = .ok (.iconst 0, 1) := by decide +kernel
theorem dX5_digest_65 : decode cX5_digest 65 = .ok (.invokevirtual 52, 3) := by decide +kernel
theorem dX5_digest_68 : decode cX5_digest 68 = .ok (.if_icmp .ge 16, 3) := by decide +kernel
theorem dX5_digest_71 : decode cX5_digest 71 = .ok (.aload_n 0, 1) := by decide +kernel
theorem dX5_digest_72 : decode cX5_digest 72 = .ok (.lload_n 1, 1) := by decide +kernel
theorem dX5_digest_73 : decode cX5_digest 73 = .ok (.iload_n 3, 1) := by decide +kernel
theorem dX5_digest_74 : decode cX5_digest 74 = .ok (.invokevirtual 219, 3) := by decide +kernel
theorem dX5_digest_77 : decode cX5_digest 77 = .ok (.lstore_n 1, 1) := by decide +kernel
theorem dX5_digest_78 : decode cX5_digest 78 = .ok (.iinc 3 1, 3) := by decide +kernel
theorem dX5_digest_81 : decode cX5_digest 81 = .ok (.goto (-22), 3) := by decide +kernel
theorem dX5_digest_84 : decode cX5_digest 84 = .ok (.iconst 0, 1) := by decide +kernel
theorem dX5_digest_85 : decode cX5_digest 85 = .ok (.istore_n 3, 1) := by decide +kernel
theorem dX5_digest_86 : decode cX5_digest 86 = .ok (.iload_n 3, 1) := by decide +kernel
theorem dX5_digest_87 : decode cX5_digest 87 = .ok (.aload_n 0, 1) := by decide +kernel
theorem dX5_digest_88 : decode cX5_digest 88 = .ok (.getfield 20, 3) := by decide +kernel
theorem dX5_digest_91 : decode cX5_digest 91 = .ok (.iconst 1, 1) := by decide +kernel
theorem dX5_digest_92 : decode cX5_digest 92 = .ok (.invokevirtual 52, 3) := by decide +kernel
theorem dX5_digest_95 : decode cX5_digest 95 = .ok (.if_icmp .ge 16, 3) := by decide +kernel
theorem dX5_digest_98 : decode cX5_digest 98 = .ok (.aload_n 0, 1) := by decide +kernel
theorem dX5_digest_99 : decode cX5_digest 99 = .ok (.lload_n 1, 1) := by decide +kernel
theorem dX5_digest_100 : decode cX5_digest 100 = .ok (.iload_n 3, 1) := by decide +kernel
theorem dX5_digest_101 : decode cX5_digest 101 = .ok (.invokevirtual 223, 3) := by decide +kernel
theorem dX5_digest_104 : decode cX5_digest 104 = .ok (.lstore_n 1, 1) := by decide +kernel
theorem dX5_digest_105 : decode cX5_digest 105 = .ok (.iinc 3 1, 3) := by decide +kernel
theorem dX5_digest_108 : decode cX5_digest 108 = .ok (.goto (-22), 3) := by decide +kernel
theorem dX5_digest_111 : decode cX5_digest 111 = .ok (.iconst 0, 1) := by decide +kernel
theorem dX5_digest_112 : decode cX5_digest 112 = .ok (.istore_n 3, 1) := by decide +kernel
theorem dX5_digest_113 : decode cX5_digest 113 = .ok (.iload_n 3, 1) := by decide +kernel
theorem dX5_digest_114 : decode cX5_digest 114 = .ok (.iconst 3, 1) := by decide +kernel
theorem dX5_digest_115 : decode cX5_digest 115 = .ok (.if_icmp .ge 23, 3) := by decide +kernel
theorem dX5_digest_118 : decode cX5_digest 118 = .ok (.lload_n 1, 1) := by decide +kernel
theorem dX5_digest_119 : decode cX5_digest 119 = .ok (.aload_n 0, 1) := by decide +kernel
theorem dX5_digest_120 : decode cX5_digest 120 = .ok (.getfield 12, 3) := by decide +kernel
theorem dX5_digest_123 : decode cX5_digest 123 = .ok (.iload_n 3, 1) := by decide +kernel
theorem dX5_digest_124 : decode cX5_digest 124 = .ok (.invokevirtual 204, 3) := by decide +kernel
theorem dX5_digest_127 : decode cX5_digest 127 = .ok (.i2l, 1) := by decide +kernel
theorem dX5_digest_128 : decode cX5_digest 128 = .ok (.invokestatic 215, 3) := by decide +kernel
theorem dX5_digest_131 : decode cX5_digest 131 = .ok (.lstore_n 1, 1) := by decide +kernel
theorem dX5_digest_132 : decode cX5_digest 132 = .ok (.iinc 3 1, 3) := by decide +kernel
theorem dX5_digest_135 : decode cX5_digest 135 = .ok (.goto (-22), 3) := by decide +kernel
theorem dX5_digest_138 : decode cX5_digest 138 = .ok (.aload_n 0, 1) := by decide +kernel
theorem dX5_digest_139 : decode cX5_digest 139 = .ok (.aload_n 0, 1) := by decide +kernel
theorem dX5_digest_140 : decode cX5_digest 140 = .ok (.lload_n 1, 1) := by decide +kernel
theorem dX5_digest_141 : decode cX5_digest 141 = .ok (.invokevirtual 226, 3) := by decide +kernel
theorem dX5_digest_144 : decode cX5_digest 144 = .ok (.aload_n 0, 1) := by decide +kernel
theorem dX5_digest_145 : decode cX5_digest 145 = .ok (.invokevirtual 230, 3) := by decide +kernel
theorem dX5_digest_148 : decode cX5_digest 148 = .ok (.invokestatic 234, 3) := by decide +kernel
theorem dX5_digest_151 : decode cX5_digest 151 = .ok (.invokestatic 215, 3) := by decide +kernel
theorem dX5_digest_154 : decode cX5_digest 154 = .ok (.invokevirtual 238, 3) := by decide +kernel
theorem dX5_digest_157 : decode cX5_digest 157 = .ok (.lreturn, 1) := by decide +kernel
theorem dX5_mixed_0 : decode cX5_mixed 0 = .ok (.ldc2_w 241, 3) := by decide +kernel
theorem dX5_mixed_3 : decode cX5_mixed 3 = .ok (.lload_n 0, 1) := by decide +kernel
theorem dX5_mixed_4 : decode cX5_mixed 4 = .ok (.lmul, 1) := by decide +kernel
theorem dX5_mixed_5 : decode cX5_mixed 5 = .ok (.lload_n 2, 1) := by decide +kernel
theorem dX5_mixed_6 : decode cX5_mixed 6 = .ok (.ladd, 1) := by decide +kernel
theorem dX5_mixed_7 : decode cX5_mixed 7 = .ok (.lreturn, 1) := by decide +kernel
set_option maxRecDepth 20000 in
theorem ggX5_mixedBrand_X2_brandNumber : GoodIn wsX5_mixedBrand wsX2_brandNumber := goodIn_r _ [6, 7, 8, 9, 4, 10, 11, 12, 13, 14, 15, 16, 17, 18, 19, 20, 21, 22, 23, 60] (by decide +kernel) (by decide +kernel)
set_option maxRecDepth 20000 in
theorem gX5_mixedBrand_X2_brandNumber_n185 : GoodIn wsX5_mixedBrand (wsX2_brandNumber) := ggX5_mixedBrand_X2_brandNumber
set_option maxRecDepth 20000 in
theorem ggX5_mixedBrand_X5_mixed : GoodIn wsX5_mixedBrand wsX5_mixed := goodIn_r _ [27, 28] (by decide +kernel) (by decide +kernel)
set_option maxRecDepth 20000 in
theorem gX5_mixedBrand_X5_mixed : GoodIn wsX5_mixedBrand (va_wsS RX5 215 yX5_mixed wsX5_mixed) := goodIn_app (goodIn_of _ (by decide +kernel)) ggX5_mixedBrand_X5_mixed
set_option maxRecDepth 20000 in
theorem ggX5_mixedBrand_X4_wornBy : GoodIn wsX5_mixedBrand wsX4_wornBy := goodIn_r _ [32, 33, 34, 4, 35, 36, 15, 16, 17, 18, 19, 21, 22, 23, 61, 62, 60] (by decide +kernel) (by decide +kernel)
set_option maxRecDepth 20000 in
theorem gX5_mixedBrand_X4_wornBy_n201 : GoodIn wsX5_mixedBrand (wsX4_wornBy) := ggX5_mixedBrand_X4_wornBy
set_option maxRecDepth 20000 in
theorem ggX5_mixedBrand_X2_ofAll : GoodIn wsX5_mixedBrand wsX2_ofAll := goodIn_r _ [39, 15, 16, 17, 4, 18, 19, 60] (by decide +kernel) (by decide +kernel)
set_option maxRecDepth 20000 in
theorem gX5_mixedBrand_X2_ofAll_n52 : GoodIn wsX5_mixedBrand (wsX2_ofAll) := ggX5_mixedBrand_X2_ofAll
set_option maxRecDepth 20000 in
theorem ggX5_mixedBrand_X4_mostDeliverable : GoodIn wsX5_mixedBrand wsX4_mostDeliverable := goodIn_r _ [42, 33, 43, 44, 45, 46, 47, 48, 49, 30, 50, 21, 4, 22, 23, 15, 16, 17, 18, 19, 51, 52, 53, 54, 34, 35, 36, 12, 13, 14, 37, 38, 39, 61, 62, 60] (by decide +kernel) (by decide +kernel)
set_option maxRecDepth 20000 in
theorem gX5_mixedBrand_X4_mostDeliverable_n195 : GoodIn wsX5_mixedBrand (wsX4_mostDeliverable) := ggX5_mixedBrand_X4_mostDeliverable
theorem dX5_mixedBrand_0 : decode cX5_mixedBrand 0 = .ok (.lload_n 1, 1) := by decide +kernel
theorem dX5_mixedBrand_1 : decode cX5_mixedBrand 1 = .ok (.lstore 4, 2) := by decide +kernel
theorem dX5_mixedBrand_3 : decode cX5_mixedBrand 3 = .ok (.iconst 0, 1) := by decide +kernel
theorem dX5_mixedBrand_4 : decode cX5_mixedBrand 4 = .ok (.istore 6, 2) := by decide +kernel
theorem dX5_mixedBrand_6 : decode cX5_mixedBrand 6 = .ok (.iload 6, 2) := by decide +kernel
theorem dX5_mixedBrand_8 : decode cX5_mixedBrand 8 = .ok (.bipush 12, 2) := by decide +kernel
theorem dX5_mixedBrand_10 : decode cX5_mixedBrand 10 = .ok (.if_icmp .ge 27, 3) := by decide +kernel
theorem dX5_mixedBrand_13 : decode cX5_mixedBrand 13 = .ok (.lload 4, 2) := by decide +kernel
theorem dX5_mixedBrand_15 : decode cX5_mixedBrand 15 = .ok (.aload_n 0, 1) := by decide +kernel
theorem dX5_mixedBrand_16 : decode cX5_mixedBrand 16 = .ok (.getfield 20, 3) := by decide +kernel
theorem dX5_mixedBrand_19 : decode cX5_mixedBrand 19 = .ok (.iload_n 3, 1) := by decide +kernel
theorem dX5_mixedBrand_20 : decode cX5_mixedBrand 20 = .ok (.iload 6, 2) := by decide +kernel
theorem dX5_mixedBrand_22 : decode cX5_mixedBrand 22 = .ok (.invokevirtual 185, 3) := by decide +kernel
theorem dX5_mixedBrand_25 : decode cX5_mixedBrand 25 = .ok (.i2l, 1) := by decide +kernel
theorem dX5_mixedBrand_26 : decode cX5_mixedBrand 26 = .ok (.invokestatic 215, 3) := by decide +kernel
theorem dX5_mixedBrand_29 : decode cX5_mixedBrand 29 = .ok (.lstore 4, 2) := by decide +kernel
theorem dX5_mixedBrand_31 : decode cX5_mixedBrand 31 = .ok (.iinc 6 1, 3) := by decide +kernel
theorem dX5_mixedBrand_34 : decode cX5_mixedBrand 34 = .ok (.goto (-28), 3) := by decide +kernel
theorem dX5_mixedBrand_37 : decode cX5_mixedBrand 37 = .ok (.lload 4, 2) := by decide +kernel
theorem dX5_mixedBrand_39 : decode cX5_mixedBrand 39 = .ok (.bipush 25, 2) := by decide +kernel
theorem dX5_mixedBrand_41 : decode cX5_mixedBrand 41 = .ok (.aload_n 0, 1) := by decide +kernel
theorem dX5_mixedBrand_42 : decode cX5_mixedBrand 42 = .ok (.getfield 12, 3) := by decide +kernel
theorem dX5_mixedBrand_45 : decode cX5_mixedBrand 45 = .ok (.iload_n 3, 1) := by decide +kernel
theorem dX5_mixedBrand_46 : decode cX5_mixedBrand 46 = .ok (.bipush 25, 2) := by decide +kernel
theorem dX5_mixedBrand_48 : decode cX5_mixedBrand 48 = .ok (.invokevirtual 201, 3) := by decide +kernel
theorem dX5_mixedBrand_51 : decode cX5_mixedBrand 51 = .ok (.isub, 1) := by decide +kernel
theorem dX5_mixedBrand_52 : decode cX5_mixedBrand 52 = .ok (.i2l, 1) := by decide +kernel
theorem dX5_mixedBrand_53 : decode cX5_mixedBrand 53 = .ok (.invokestatic 215, 3) := by decide +kernel
theorem dX5_mixedBrand_56 : decode cX5_mixedBrand 56 = .ok (.lstore 4, 2) := by decide +kernel
theorem dX5_mixedBrand_58 : decode cX5_mixedBrand 58 = .ok (.iconst 0, 1) := by decide +kernel
theorem dX5_mixedBrand_59 : decode cX5_mixedBrand 59 = .ok (.istore 6, 2) := by decide +kernel
theorem dX5_mixedBrand_61 : decode cX5_mixedBrand 61 = .ok (.iload 6, 2) := by decide +kernel
theorem dX5_mixedBrand_63 : decode cX5_mixedBrand 63 = .ok (.aload_n 0, 1) := by decide +kernel
theorem dX5_mixedBrand_64 : decode cX5_mixedBrand 64 = .ok (.getfield 20, 3) := by decide +kernel
theorem dX5_mixedBrand_67 : decode cX5_mixedBrand 67 = .ok (.iconst 1, 1) := by decide +kernel
theorem dX5_mixedBrand_68 : decode cX5_mixedBrand 68 = .ok (.invokevirtual 52, 3) := by decide +kernel
theorem dX5_mixedBrand_71 : decode cX5_mixedBrand 71 = .ok (.if_icmp .ge 27, 3) := by decide +kernel
theorem dX5_mixedBrand_74 : decode cX5_mixedBrand 74 = .ok (.lload 4, 2) := by decide +kernel
theorem dX5_mixedBrand_76 : decode cX5_mixedBrand 76 = .ok (.aload_n 0, 1) := by decide +kernel
theorem dX5_mixedBrand_77 : decode cX5_mixedBrand 77 = .ok (.getfield 12, 3) := by decide +kernel
theorem dX5_mixedBrand_80 : decode cX5_mixedBrand 80 = .ok (.iload_n 3, 1) := by decide +kernel
theorem dX5_mixedBrand_81 : decode cX5_mixedBrand 81 = .ok (.iload 6, 2) := by decide +kernel
theorem dX5_mixedBrand_83 : decode cX5_mixedBrand 83 = .ok (.invokevirtual 195, 3) := by decide +kernel
theorem dX5_mixedBrand_86 : decode cX5_mixedBrand 86 = .ok (.i2l, 1) := by decide +kernel
theorem dX5_mixedBrand_87 : decode cX5_mixedBrand 87 = .ok (.invokestatic 215, 3) := by decide +kernel
theorem dX5_mixedBrand_90 : decode cX5_mixedBrand 90 = .ok (.lstore 4, 2) := by decide +kernel
theorem dX5_mixedBrand_92 : decode cX5_mixedBrand 92 = .ok (.iinc 6 1, 3) := by decide +kernel
theorem dX5_mixedBrand_95 : decode cX5_mixedBrand 95 = .ok (.goto (-34), 3) := by decide +kernel
theorem dX5_mixedBrand_98 : decode cX5_mixedBrand 98 = .ok (.lload 4, 2) := by decide +kernel
theorem dX5_mixedBrand_100 : decode cX5_mixedBrand 100 = .ok (.lreturn, 1) := by decide +kernel
set_option maxRecDepth 20000 in
theorem ggX5_mixedShop_X5_isShopNumber : GoodIn wsX5_mixedShop wsX5_isShopNumber := goodIn_r _ [5] (by decide +kernel) (by decide +kernel)
set_option maxRecDepth 20000 in
theorem gX5_mixedShop_X5_isShopNumber : GoodIn wsX5_mixedShop (va_wsS RX5 188 yX5_isShopNumber wsX5_isShopNumber) := goodIn_app (goodIn_of _ (by decide +kernel)) ggX5_mixedShop_X5_isShopNumber
set_option maxRecDepth 20000 in
theorem ggX5_mixedShop_X2_shopNumber : GoodIn wsX5_mixedShop wsX2_shopNumber := goodIn_r _ [9, 10, 11, 12, 7, 13, 14, 15, 16, 17, 18, 19, 20, 21, 22, 32] (by decide +kernel) (by decide +kernel)
set_option maxRecDepth 20000 in
theorem gX5_mixedShop_X2_shopNumber_n192 : GoodIn wsX5_mixedShop (wsX2_shopNumber) := ggX5_mixedShop_X2_shopNumber
set_option maxRecDepth 20000 in
theorem ggX5_mixedShop_X5_mixed : GoodIn wsX5_mixedShop wsX5_mixed := goodIn_r _ [25, 26] (by decide +kernel) (by decide +kernel)
set_option maxRecDepth 20000 in
theorem gX5_mixedShop_X5_mixed : GoodIn wsX5_mixedShop (va_wsS RX5 215 yX5_mixed wsX5_mixed) := goodIn_app (goodIn_of _ (by decide +kernel)) ggX5_mixedShop_X5_mixed
theorem dX5_mixedShop_0 : decode cX5_mixedShop 0 = .ok (.lload_n 1, 1) := by decide +kernel
theorem dX5_mixedShop_1 : decode cX5_mixedShop 1 = .ok (.lstore 4, 2) := by decide +kernel
theorem dX5_mixedShop_3 : decode cX5_mixedShop 3 = .ok (.iconst 0, 1) := by decide +kernel
theorem dX5_mixedShop_4 : decode cX5_mixedShop 4 = .ok (.istore 6, 2) := by decide +kernel
theorem dX5_mixedShop_6 : decode cX5_mixedShop 6 = .ok (.iload 6, 2) := by decide +kernel
theorem dX5_mixedShop_8 : decode cX5_mixedShop 8 = .ok (.bipush 28, 2) := by decide +kernel
theorem dX5_mixedShop_10 : decode cX5_mixedShop 10 = .ok (.if_icmp .ge 35, 3) := by decide +kernel
theorem dX5_mixedShop_13 : decode cX5_mixedShop 13 = .ok (.iload 6, 2) := by decide +kernel
theorem dX5_mixedShop_15 : decode cX5_mixedShop 15 = .ok (.invokestatic 188, 3) := by decide +kernel
theorem dX5_mixedShop_18 : decode cX5_mixedShop 18 = .ok (.ifCond .eq 21, 3) := by decide +kernel
theorem dX5_mixedShop_21 : decode cX5_mixedShop 21 = .ok (.lload 4, 2) := by decide +kernel
theorem dX5_mixedShop_23 : decode cX5_mixedShop 23 = .ok (.aload_n 0, 1) := by decide +kernel
theorem dX5_mixedShop_24 : decode cX5_mixedShop 24 = .ok (.getfield 20, 3) := by decide +kernel
theorem dX5_mixedShop_27 : decode cX5_mixedShop 27 = .ok (.iload_n 3, 1) := by decide +kernel
theorem dX5_mixedShop_28 : decode cX5_mixedShop 28 = .ok (.iload 6, 2) := by decide +kernel
theorem dX5_mixedShop_30 : decode cX5_mixedShop 30 = .ok (.invokevirtual 192, 3) := by decide +kernel
theorem dX5_mixedShop_33 : decode cX5_mixedShop 33 = .ok (.i2l, 1) := by decide +kernel
theorem dX5_mixedShop_34 : decode cX5_mixedShop 34 = .ok (.invokestatic 215, 3) := by decide +kernel
theorem dX5_mixedShop_37 : decode cX5_mixedShop 37 = .ok (.lstore 4, 2) := by decide +kernel
theorem dX5_mixedShop_39 : decode cX5_mixedShop 39 = .ok (.iinc 6 1, 3) := by decide +kernel
theorem dX5_mixedShop_42 : decode cX5_mixedShop 42 = .ok (.goto (-36), 3) := by decide +kernel
theorem dX5_mixedShop_45 : decode cX5_mixedShop 45 = .ok (.lload 4, 2) := by decide +kernel
theorem dX5_mixedShop_47 : decode cX5_mixedShop 47 = .ok (.lreturn, 1) := by decide +kernel
set_option maxRecDepth 20000 in
theorem ggX5_mixedCollected_X2_ofAll : GoodIn wsX5_mixedCollected wsX2_ofAll := goodIn_r _ [6, 7, 8, 9, 4, 10, 11, 56] (by decide +kernel) (by decide +kernel)
set_option maxRecDepth 20000 in
theorem gX5_mixedCollected_X2_ofAll_n52 : GoodIn wsX5_mixedCollected (wsX2_ofAll) := ggX5_mixedCollected_X2_ofAll
set_option maxRecDepth 20000 in
theorem ggX5_mixedCollected_X4_wouldCollect : GoodIn wsX5_mixedCollected wsX4_wouldCollect := goodIn_r _ [15, 16, 17, 4, 18, 19, 7, 8, 9, 10, 11, 20, 21, 22, 13, 23, 24, 25, 26, 27, 28, 29, 30, 31, 32, 33, 34, 35, 36, 37, 38, 39, 40, 41, 42, 43, 44, 45, 46, 57, 58, 56] (by decide +kernel) (by decide +kernel)
set_option maxRecDepth 20000 in
theorem gX5_mixedCollected_X4_wouldCollect_n198 : GoodIn wsX5_mixedCollected (wsX4_wouldCollect) := ggX5_mixedCollected_X4_wouldCollect
set_option maxRecDepth 20000 in
theorem ggX5_mixedCollected_X5_mixed : GoodIn wsX5_mixedCollected wsX5_mixed := goodIn_r _ [49, 50] (by decide +kernel) (by decide +kernel)
set_option maxRecDepth 20000 in
theorem gX5_mixedCollected_X5_mixed : GoodIn wsX5_mixedCollected (va_wsS RX5 215 yX5_mixed wsX5_mixed) := goodIn_app (goodIn_of _ (by decide +kernel)) ggX5_mixedCollected_X5_mixed
theorem dX5_mixedCollected_0 : decode cX5_mixedCollected 0 = .ok (.lload_n 1, 1) := by decide +kernel
theorem dX5_mixedCollected_1 : decode cX5_mixedCollected 1 = .ok (.lstore_n 3, 1) := by decide +kernel
theorem dX5_mixedCollected_2 : decode cX5_mixedCollected 2 = .ok (.iconst 0, 1) := by decide +kernel
