set_option maxRecDepth 20000 in
theorem ggX6_run_X6_readOrder : GoodIn wsX6_run wsX6_readOrder := goodIn_r _ [14, 3, 5, 2, 15, 16, 17, 18, 19, 20, 21, 22, 9, 23, 24, 25, 26, 27, 28, 29, 30, 31, 32, 33, 34, 35, 139, 140, 141, 142, 143, 144, 145, 146, 147, 148, 149, 150, 151, 152, 153, 154] (by decide +kernel) (by decide +kernel)
set_option maxRecDepth 20000 in
theorem gX6_run_X6_readOrder : GoodIn wsX6_run (wsV RX6 163 RX6 yX6_readOrder wsX6_readOrder) := goodIn_app (goodIn_of _ (by decide +kernel)) ggX6_run_X6_readOrder
set_option maxRecDepth 20000 in
theorem ggX6_run_X6_againstOrder : GoodIn wsX6_run wsX6_againstOrder := goodIn_r _ [49, 16, 19, 18, 35, 50, 51, 52, 9, 53, 4, 24, 25, 26, 54, 55, 56, 57, 58, 59, 60, 61, 62, 63, 64, 65, 66, 67, 68, 69, 70, 71, 72, 73, 74, 75, 76, 77, 78, 79, 80, 81, 82, 83, 84, 85, 86, 87, 88, 89, 90, 91, 92, 93, 94, 95, 96, 97, 98, 99, 100, 101, 102, 103, 104, 105, 106, 107, 139, 140, 141, 142, 143, 144, 145, 146, 147, 148, 149, 150, 151, 152, 153, 154] (by decide +kernel) (by decide +kernel)
set_option maxRecDepth 20000 in
theorem gX6_run_X6_againstOrder : GoodIn wsX6_run (wsV RX6 170 RX6 yX6_againstOrder wsX6_againstOrder) := goodIn_app (goodIn_of _ (by decide +kernel)) ggX6_run_X6_againstOrder
set_option maxRecDepth 20000 in
theorem ggX6_run_X6_doOrder : GoodIn wsX6_run wsX6_doOrder := goodIn_r _ [111, 16, 18, 19, 35, 112, 113, 114, 9, 115, 4, 62, 63, 64, 65, 66, 67, 68, 80, 81, 82, 83, 73, 74, 75, 116, 117, 118, 119, 92, 93, 94, 95, 69, 70, 71, 72, 120, 121, 122, 123, 124, 125, 126, 127, 128, 129, 130, 131, 132, 133, 134, 135, 136, 137, 138, 139, 140, 141, 142, 143, 144, 145, 146, 147, 148, 149, 150, 151, 152, 153, 154] (by decide +kernel) (by decide +kernel)
set_option maxRecDepth 20000 in
theorem gX6_run_X6_doOrder : GoodIn wsX6_run (wsV RX6 173 RX6 yX6_doOrder wsX6_doOrder) := goodIn_app (goodIn_of _ (by decide +kernel)) ggX6_run_X6_doOrder
theorem dX6_run_0 : decode cX6_run 0 = .ok (.aload_n 0, 1) := by decide +kernel
theorem dX6_run_1 : decode cX6_run 1 = .ok (.iconst 0, 1) := by decide +kernel
theorem dX6_run_2 : decode cX6_run 2 = .ok (.putfield 28, 3) := by decide +kernel
theorem dX6_run_5 : decode cX6_run 5 = .ok (.aload_n 0, 1) := by decide +kernel
theorem dX6_run_6 : decode cX6_run 6 = .ok (.invokevirtual 167, 3) := by decide +kernel
theorem dX6_run_9 : decode cX6_run 9 = .ok (.aload_n 0, 1) := by decide +kernel
theorem dX6_run_10 : decode cX6_run 10 = .ok (.getfield 129, 3) := by decide +kernel
theorem dX6_run_13 : decode cX6_run 13 = .ok (.if_icmp .lt 10, 3) := by decide +kernel
theorem dX6_run_16 : decode cX6_run 16 = .ok (.aload_n 0, 1) := by decide +kernel
theorem dX6_run_17 : decode cX6_run 17 = .ok (.getfield 141, 3) := by decide +kernel
theorem dX6_run_20 : decode cX6_run 20 = .ok (.ifCond .ne 9, 3) := by decide +kernel
theorem dX6_run_23 : decode cX6_run 23 = .ok (.aload_n 0, 1) := by decide +kernel
theorem dX6_run_24 : decode cX6_run 24 = .ok (.iconst 1, 1) := by decide +kernel
theorem dX6_run_25 : decode cX6_run 25 = .ok (.invokevirtual 49, 3) := by decide +kernel
theorem dX6_run_28 : decode cX6_run 28 = .ok (.ireturn, 1) := by decide +kernel
theorem dX6_run_29 : decode cX6_run 29 = .ok (.aload_n 0, 1) := by decide +kernel
theorem dX6_run_30 : decode cX6_run 30 = .ok (.invokevirtual 53, 3) := by decide +kernel
theorem dX6_run_33 : decode cX6_run 33 = .ok (.aload_n 0, 1) := by decide +kernel
theorem dX6_run_34 : decode cX6_run 34 = .ok (.getfield 7, 3) := by decide +kernel
theorem dX6_run_37 : decode cX6_run 37 = .ok (.bipush 6, 2) := by decide +kernel
theorem dX6_run_39 : decode cX6_run 39 = .ok (.iconst 0, 1) := by decide +kernel
theorem dX6_run_40 : decode cX6_run 40 = .ok (.iastore, 1) := by decide +kernel
theorem dX6_run_41 : decode cX6_run 41 = .ok (.aload_n 0, 1) := by decide +kernel
theorem dX6_run_42 : decode cX6_run 42 = .ok (.iconst 0, 1) := by decide +kernel
theorem dX6_run_43 : decode cX6_run 43 = .ok (.putfield 132, 3) := by decide +kernel
theorem dX6_run_46 : decode cX6_run 46 = .ok (.iconst 0, 1) := by decide +kernel
theorem dX6_run_47 : decode cX6_run 47 = .ok (.istore_n 1, 1) := by decide +kernel
theorem dX6_run_48 : decode cX6_run 48 = .ok (.iconst 1, 1) := by decide +kernel
theorem dX6_run_49 : decode cX6_run 49 = .ok (.istore_n 2, 1) := by decide +kernel
theorem dX6_run_50 : decode cX6_run 50 = .ok (.iload_n 2, 1) := by decide +kernel
theorem dX6_run_51 : decode cX6_run 51 = .ok (.ifCond .eq 44, 3) := by decide +kernel
theorem dX6_run_54 : decode cX6_run 54 = .ok (.aload_n 0, 1) := by decide +kernel
theorem dX6_run_55 : decode cX6_run 55 = .ok (.invokevirtual 163, 3) := by decide +kernel
theorem dX6_run_58 : decode cX6_run 58 = .ok (.istore_n 2, 1) := by decide +kernel
theorem dX6_run_59 : decode cX6_run 59 = .ok (.aload_n 0, 1) := by decide +kernel
theorem dX6_run_60 : decode cX6_run 60 = .ok (.getfield 7, 3) := by decide +kernel
theorem dX6_run_63 : decode cX6_run 63 = .ok (.bipush 6, 2) := by decide +kernel
theorem dX6_run_65 : decode cX6_run 65 = .ok (.aload_n 0, 1) := by decide +kernel
theorem dX6_run_66 : decode cX6_run 66 = .ok (.invokevirtual 170, 3) := by decide +kernel
theorem dX6_run_69 : decode cX6_run 69 = .ok (.iastore, 1) := by decide +kernel
theorem dX6_run_70 : decode cX6_run 70 = .ok (.aload_n 0, 1) := by decide +kernel
theorem dX6_run_71 : decode cX6_run 71 = .ok (.getfield 7, 3) := by decide +kernel
theorem dX6_run_74 : decode cX6_run 74 = .ok (.bipush 6, 2) := by decide +kernel
theorem dX6_run_76 : decode cX6_run 76 = .ok (.iaload, 1) := by decide +kernel
theorem dX6_run_77 : decode cX6_run 77 = .ok (.ifCond .ne 13, 3) := by decide +kernel
theorem dX6_run_80 : decode cX6_run 80 = .ok (.aload_n 0, 1) := by decide +kernel
theorem dX6_run_81 : decode cX6_run 81 = .ok (.invokevirtual 173, 3) := by decide +kernel
theorem dX6_run_84 : decode cX6_run 84 = .ok (.iinc 1 1, 3) := by decide +kernel
theorem dX6_run_87 : decode cX6_run 87 = .ok (.goto (-37), 3) := by decide +kernel
theorem dX6_run_90 : decode cX6_run 90 = .ok (.iconst 0, 1) := by decide +kernel
theorem dX6_run_91 : decode cX6_run 91 = .ok (.istore_n 2, 1) := by decide +kernel
theorem dX6_run_92 : decode cX6_run 92 = .ok (.goto (-42), 3) := by decide +kernel
theorem dX6_run_95 : decode cX6_run 95 = .ok (.aload_n 0, 1) := by decide +kernel
theorem dX6_run_96 : decode cX6_run 96 = .ok (.iconst 0, 1) := by decide +kernel
theorem dX6_run_97 : decode cX6_run 97 = .ok (.putfield 129, 3) := by decide +kernel
theorem dX6_run_100 : decode cX6_run 100 = .ok (.iload_n 1, 1) := by decide +kernel
theorem dX6_run_101 : decode cX6_run 101 = .ok (.ireturn, 1) := by decide +kernel
set_option maxRecDepth 20000 in
theorem ggX6_undo_X6_fails : GoodIn wsX6_undo wsX6_fails := goodIn_r _ [9, 1, 10, 11, 12, 13, 14, 15, 16, 17, 18, 19, 20, 21, 22, 23, 24, 25] (by decide +kernel) (by decide +kernel)
set_option maxRecDepth 20000 in
theorem gX6_undo_X6_fails : GoodIn wsX6_undo (wsV RX6 49 RX6 yX6_fails wsX6_fails) := goodIn_app (goodIn_of _ (by decide +kernel)) ggX6_undo_X6_fails
theorem dX6_undo_0 : decode cX6_undo 0 = .ok (.aload_n 0, 1) := by decide +kernel
theorem dX6_undo_1 : decode cX6_undo 1 = .ok (.iconst 0, 1) := by decide +kernel
theorem dX6_undo_2 : decode cX6_undo 2 = .ok (.putfield 28, 3) := by decide +kernel
theorem dX6_undo_5 : decode cX6_undo 5 = .ok (.aload_n 0, 1) := by decide +kernel
theorem dX6_undo_6 : decode cX6_undo 6 = .ok (.getfield 32, 3) := by decide +kernel
theorem dX6_undo_9 : decode cX6_undo 9 = .ok (.ifCond .ne 9, 3) := by decide +kernel
theorem dX6_undo_12 : decode cX6_undo 12 = .ok (.aload_n 0, 1) := by decide +kernel
theorem dX6_undo_13 : decode cX6_undo 13 = .ok (.iconst 1, 1) := by decide +kernel
theorem dX6_undo_14 : decode cX6_undo 14 = .ok (.invokevirtual 49, 3) := by decide +kernel
theorem dX6_undo_17 : decode cX6_undo 17 = .ok (.ireturn, 1) := by decide +kernel
theorem dX6_undo_18 : decode cX6_undo 18 = .ok (.aload_n 0, 1) := by decide +kernel
theorem dX6_undo_19 : decode cX6_undo 19 = .ok (.dup, 1) := by decide +kernel
theorem dX6_undo_20 : decode cX6_undo 20 = .ok (.getfield 32, 3) := by decide +kernel
theorem dX6_undo_23 : decode cX6_undo 23 = .ok (.iconst 1, 1) := by decide +kernel
theorem dX6_undo_24 : decode cX6_undo 24 = .ok (.isub, 1) := by decide +kernel
theorem dX6_undo_25 : decode cX6_undo 25 = .ok (.putfield 32, 3) := by decide +kernel
theorem dX6_undo_28 : decode cX6_undo 28 = .ok (.iconst 0, 1) := by decide +kernel
theorem dX6_undo_29 : decode cX6_undo 29 = .ok (.istore_n 1, 1) := by decide +kernel
theorem dX6_undo_30 : decode cX6_undo 30 = .ok (.iload_n 1, 1) := by decide +kernel
theorem dX6_undo_31 : decode cX6_undo 31 = .ok (.sipush 283, 3) := by decide +kernel
theorem dX6_undo_34 : decode cX6_undo 34 = .ok (.if_icmp .ge 30, 3) := by decide +kernel
theorem dX6_undo_37 : decode cX6_undo 37 = .ok (.aload_n 0, 1) := by decide +kernel
theorem dX6_undo_38 : decode cX6_undo 38 = .ok (.getfield 7, 3) := by decide +kernel
theorem dX6_undo_41 : decode cX6_undo 41 = .ok (.iload_n 1, 1) := by decide +kernel
theorem dX6_undo_42 : decode cX6_undo 42 = .ok (.aload_n 0, 1) := by decide +kernel
theorem dX6_undo_43 : decode cX6_undo 43 = .ok (.getfield 16, 3) := by decide +kernel
theorem dX6_undo_46 : decode cX6_undo 46 = .ok (.sipush 283, 3) := by decide +kernel
theorem dX6_undo_49 : decode cX6_undo 49 = .ok (.aload_n 0, 1) := by decide +kernel
theorem dX6_undo_50 : decode cX6_undo 50 = .ok (.getfield 32, 3) := by decide +kernel
theorem dX6_undo_53 : decode cX6_undo 53 = .ok (.imul, 1) := by decide +kernel
theorem dX6_undo_54 : decode cX6_undo 54 = .ok (.iload_n 1, 1) := by decide +kernel
theorem dX6_undo_55 : decode cX6_undo 55 = .ok (.iadd, 1) := by decide +kernel
theorem dX6_undo_56 : decode cX6_undo 56 = .ok (.iaload, 1) := by decide +kernel
theorem dX6_undo_57 : decode cX6_undo 57 = .ok (.iastore, 1) := by decide +kernel
theorem dX6_undo_58 : decode cX6_undo 58 = .ok (.iinc 1 1, 3) := by decide +kernel
theorem dX6_undo_61 : decode cX6_undo 61 = .ok (.goto (-31), 3) := by decide +kernel
theorem dX6_undo_64 : decode cX6_undo 64 = .ok (.aload_n 0, 1) := by decide +kernel
theorem dX6_undo_65 : decode cX6_undo 65 = .ok (.getfield 32, 3) := by decide +kernel
theorem dX6_undo_68 : decode cX6_undo 68 = .ok (.ireturn, 1) := by decide +kernel
set_option maxRecDepth 20000 in
theorem ggX6_inShops_X6_ofShop : GoodIn wsX6_inShops wsX6_ofShop := goodIn_r _ [6, 1, 7, 8, 5, 9, 10, 11, 12, 13, 14, 15, 16, 17, 18, 19, 20, 21, 22, 23, 24, 25] (by decide +kernel) (by decide +kernel)
set_option maxRecDepth 20000 in
theorem gX6_inShops_X6_ofShop : GoodIn wsX6_inShops (wsV RX6 57 RX6 yX6_ofShop wsX6_ofShop) := goodIn_app (goodIn_of _ (by decide +kernel)) ggX6_inShops_X6_ofShop
theorem dX6_inShops_0 : decode cX6_inShops 0 = .ok (.iconst 0, 1) := by decide +kernel
theorem dX6_inShops_1 : decode cX6_inShops 1 = .ok (.istore_n 3, 1) := by decide +kernel
theorem dX6_inShops_2 : decode cX6_inShops 2 = .ok (.iconst 0, 1) := by decide +kernel
theorem dX6_inShops_3 : decode cX6_inShops 3 = .ok (.istore 4, 2) := by decide +kernel
theorem dX6_inShops_5 : decode cX6_inShops 5 = .ok (.iload 4, 2) := by decide +kernel
theorem dX6_inShops_7 : decode cX6_inShops 7 = .ok (.aload_n 0, 1) := by decide +kernel
theorem dX6_inShops_8 : decode cX6_inShops 8 = .ok (.getfield 7, 3) := by decide +kernel
theorem dX6_inShops_11 : decode cX6_inShops 11 = .ok (.iconst 1, 1) := by decide +kernel
theorem dX6_inShops_12 : decode cX6_inShops 12 = .ok (.iaload, 1) := by decide +kernel
theorem dX6_inShops_13 : decode cX6_inShops 13 = .ok (.if_icmp .ge 21, 3) := by decide +kernel
theorem dX6_inShops_16 : decode cX6_inShops 16 = .ok (.iload_n 3, 1) := by decide +kernel
theorem dX6_inShops_17 : decode cX6_inShops 17 = .ok (.aload_n 0, 1) := by decide +kernel
theorem dX6_inShops_18 : decode cX6_inShops 18 = .ok (.iload 4, 2) := by decide +kernel
theorem dX6_inShops_20 : decode cX6_inShops 20 = .ok (.iload_n 2, 1) := by decide +kernel
theorem dX6_inShops_21 : decode cX6_inShops 21 = .ok (.iload_n 1, 1) := by decide +kernel
theorem dX6_inShops_22 : decode cX6_inShops 22 = .ok (.iadd, 1) := by decide +kernel
theorem dX6_inShops_23 : decode cX6_inShops 23 = .ok (.invokevirtual 57, 3) := by decide +kernel
theorem dX6_inShops_26 : decode cX6_inShops 26 = .ok (.iadd, 1) := by decide +kernel
theorem dX6_inShops_27 : decode cX6_inShops 27 = .ok (.istore_n 3, 1) := by decide +kernel
theorem dX6_inShops_28 : decode cX6_inShops 28 = .ok (.iinc 4 1, 3) := by decide +kernel
theorem dX6_inShops_31 : decode cX6_inShops 31 = .ok (.goto (-26), 3) := by decide +kernel
theorem dX6_inShops_34 : decode cX6_inShops 34 = .ok (.iload_n 3, 1) := by decide +kernel
theorem dX6_inShops_35 : decode cX6_inShops 35 = .ok (.ireturn, 1) := by decide +kernel
set_option maxRecDepth 20000 in
theorem ggX6_aboutBrand_X6_of : GoodIn wsX6_aboutBrand wsX6_of := goodIn_r _ [5, 6, 7, 8, 4, 9, 21, 22, 23, 24, 25, 26, 27, 28, 29, 30, 31, 32, 33, 34, 35, 36] (by decide +kernel) (by decide +kernel)
set_option maxRecDepth 20000 in
theorem gX6_aboutBrand_X6_of : GoodIn wsX6_aboutBrand (wsV RX6 46 RX6 yX6_of wsX6_of) := goodIn_app (goodIn_of _ (by decide +kernel)) ggX6_aboutBrand_X6_of
set_option maxRecDepth 20000 in
theorem ggX6_aboutBrand_X6_inShops : GoodIn wsX6_aboutBrand wsX6_inShops := goodIn_r _ [13, 6, 14, 15, 16, 4, 17, 18, 19, 20, 21, 22, 23, 24, 25, 26, 27, 28, 29, 30, 31, 32, 33, 34, 35, 36] (by decide +kernel) (by decide +kernel)
set_option maxRecDepth 20000 in
theorem gX6_aboutBrand_X6_inShops : GoodIn wsX6_aboutBrand (wsV RX6 176 RX6 yX6_inShops wsX6_inShops) := goodIn_app (goodIn_of _ (by decide +kernel)) ggX6_aboutBrand_X6_inShops
theorem dX6_aboutBrand_0 : decode cX6_aboutBrand 0 = .ok (.iload_n 2, 1) := by decide +kernel
theorem dX6_aboutBrand_1 : decode cX6_aboutBrand 1 = .ok (.iconst 3, 1) := by decide +kernel
theorem dX6_aboutBrand_2 : decode cX6_aboutBrand 2 = .ok (.if_icmp .ge 12, 3) := by decide +kernel
theorem dX6_aboutBrand_5 : decode cX6_aboutBrand 5 = .ok (.aload_n 0, 1) := by decide +kernel
theorem dX6_aboutBrand_6 : decode cX6_aboutBrand 6 = .ok (.iload_n 1, 1) := by decide +kernel
theorem dX6_aboutBrand_7 : decode cX6_aboutBrand 7 = .ok (.iload_n 2, 1) := by decide +kernel
theorem dX6_aboutBrand_8 : decode cX6_aboutBrand 8 = .ok (.invokevirtual 46, 3) := by decide +kernel
theorem dX6_aboutBrand_11 : decode cX6_aboutBrand 11 = .ok (.goto 40, 3) := by decide +kernel
theorem dX6_aboutBrand_14 : decode cX6_aboutBrand 14 = .ok (.iload_n 2, 1) := by decide +kernel
theorem dX6_aboutBrand_15 : decode cX6_aboutBrand 15 = .ok (.iconst 3, 1) := by decide +kernel
theorem dX6_aboutBrand_16 : decode cX6_aboutBrand 16 = .ok (.if_icmp .ne 12, 3) := by decide +kernel
theorem dX6_aboutBrand_19 : decode cX6_aboutBrand 19 = .ok (.aload_n 0, 1) := by decide +kernel
theorem dX6_aboutBrand_20 : decode cX6_aboutBrand 20 = .ok (.iload_n 1, 1) := by decide +kernel
theorem dX6_aboutBrand_21 : decode cX6_aboutBrand 21 = .ok (.iconst 5, 1) := by decide +kernel
theorem dX6_aboutBrand_22 : decode cX6_aboutBrand 22 = .ok (.invokevirtual 176, 3) := by decide +kernel
theorem dX6_aboutBrand_25 : decode cX6_aboutBrand 25 = .ok (.goto 26, 3) := by decide +kernel
theorem dX6_aboutBrand_28 : decode cX6_aboutBrand 28 = .ok (.iload_n 2, 1) := by decide +kernel
theorem dX6_aboutBrand_29 : decode cX6_aboutBrand 29 = .ok (.iconst 4, 1) := by decide +kernel
theorem dX6_aboutBrand_30 : decode cX6_aboutBrand 30 = .ok (.if_icmp .ne 13, 3) := by decide +kernel
theorem dX6_aboutBrand_33 : decode cX6_aboutBrand 33 = .ok (.aload_n 0, 1) := by decide +kernel
theorem dX6_aboutBrand_34 : decode cX6_aboutBrand 34 = .ok (.iload_n 1, 1) := by decide +kernel
theorem dX6_aboutBrand_35 : decode cX6_aboutBrand 35 = .ok (.bipush 13, 2) := by decide +kernel
theorem dX6_aboutBrand_37 : decode cX6_aboutBrand 37 = .ok (.invokevirtual 176, 3) := by decide +kernel
theorem dX6_aboutBrand_40 : decode cX6_aboutBrand 40 = .ok (.goto 11, 3) := by decide +kernel
theorem dX6_aboutBrand_43 : decode cX6_aboutBrand 43 = .ok (.aload_n 0, 1) := by decide +kernel
theorem dX6_aboutBrand_44 : decode cX6_aboutBrand 44 = .ok (.iload_n 1, 1) := by decide +kernel
theorem dX6_aboutBrand_45 : decode cX6_aboutBrand 45 = .ok (.iload_n 2, 1) := by decide +kernel
theorem dX6_aboutBrand_46 : decode cX6_aboutBrand 46 = .ok (.iconst 2, 1) := by decide +kernel
theorem dX6_aboutBrand_47 : decode cX6_aboutBrand 47 = .ok (.isub, 1) := by decide +kernel
theorem dX6_aboutBrand_48 : decode cX6_aboutBrand 48 = .ok (.invokevirtual 46, 3) := by decide +kernel
theorem dX6_aboutBrand_51 : decode cX6_aboutBrand 51 = .ok (.ireturn, 1) := by decide +kernel
set_option maxRecDepth 20000 in
theorem ggX6_brand_X6_isBrand : GoodIn wsX6_brand wsX6_isBrand := goodIn_r _ [6, 7, 8, 9, 5, 10, 37, 38, 39, 40, 41, 42, 43, 44, 45, 46, 47, 48, 49, 50, 51, 52] (by decide +kernel) (by decide +kernel)
set_option maxRecDepth 20000 in
theorem gX6_brand_X6_isBrand : GoodIn wsX6_brand (wsV RX6 85 RX6 yX6_isBrand wsX6_isBrand) := goodIn_app (goodIn_of _ (by decide +kernel)) ggX6_brand_X6_isBrand
set_option maxRecDepth 20000 in
theorem ggX6_brand_X6_fails : GoodIn wsX6_brand wsX6_fails := goodIn_r _ [14, 1, 37, 38, 39, 40, 41, 42, 43, 44, 45, 46, 47, 48, 49, 50, 51, 52] (by decide +kernel) (by decide +kernel)
set_option maxRecDepth 20000 in
theorem gX6_brand_X6_fails : GoodIn wsX6_brand (wsV RX6 49 RX6 yX6_fails wsX6_fails) := goodIn_app (goodIn_of _ (by decide +kernel)) ggX6_brand_X6_fails
set_option maxRecDepth 20000 in
theorem ggX6_brand_X6_in : GoodIn wsX6_brand wsX6_in := goodIn_r _ [10] (by decide +kernel) (by decide +kernel)
set_option maxRecDepth 20000 in
theorem gX6_brand_X6_in : GoodIn wsX6_brand (va_wsS RX6 35 yX6_in wsX6_in) := goodIn_app (goodIn_of _ (by decide +kernel)) ggX6_brand_X6_in
set_option maxRecDepth 20000 in
theorem ggX6_brand_X6_aboutBrand : GoodIn wsX6_brand wsX6_aboutBrand := goodIn_r _ [18, 19, 20, 21, 5, 22, 7, 23, 24, 25, 26, 27, 28, 29, 30, 31, 32, 33, 34, 35, 36, 37, 38, 39, 40, 41, 42, 43, 44, 45, 46, 47, 48, 49, 50, 51, 52] (by decide +kernel) (by decide +kernel)
set_option maxRecDepth 20000 in
theorem gX6_brand_X6_aboutBrand : GoodIn wsX6_brand (wsV RX6 179 RX6 yX6_aboutBrand wsX6_aboutBrand) := goodIn_app (goodIn_of _ (by decide +kernel)) ggX6_brand_X6_aboutBrand
theorem dX6_brand_0 : decode cX6_brand 0 = .ok (.aload_n 0, 1) := by decide +kernel
theorem dX6_brand_1 : decode cX6_brand 1 = .ok (.iconst 0, 1) := by decide +kernel
theorem dX6_brand_2 : decode cX6_brand 2 = .ok (.putfield 28, 3) := by decide +kernel
theorem dX6_brand_5 : decode cX6_brand 5 = .ok (.aload_n 0, 1) := by decide +kernel
theorem dX6_brand_6 : decode cX6_brand 6 = .ok (.iload_n 1, 1) := by decide +kernel
theorem dX6_brand_7 : decode cX6_brand 7 = .ok (.invokevirtual 85, 3) := by decide +kernel
theorem dX6_brand_10 : decode cX6_brand 10 = .ok (.ifCond .ne 9, 3) := by decide +kernel
theorem dX6_brand_13 : decode cX6_brand 13 = .ok (.aload_n 0, 1) := by decide +kernel
theorem dX6_brand_14 : decode cX6_brand 14 = .ok (.iconst 1, 1) := by decide +kernel
theorem dX6_brand_15 : decode cX6_brand 15 = .ok (.invokevirtual 49, 3) := by decide +kernel
theorem dX6_brand_18 : decode cX6_brand 18 = .ok (.ireturn, 1) := by decide +kernel
theorem dX6_brand_19 : decode cX6_brand 19 = .ok (.iload_n 2, 1) := by decide +kernel
theorem dX6_brand_20 : decode cX6_brand 20 = .ok (.iconst 0, 1) := by decide +kernel
theorem dX6_brand_21 : decode cX6_brand 21 = .ok (.bipush 11, 2) := by decide +kernel
theorem dX6_brand_23 : decode cX6_brand 23 = .ok (.invokestatic 35, 3) := by decide +kernel
theorem dX6_brand_26 : decode cX6_brand 26 = .ok (.ifCond .eq 12, 3) := by decide +kernel
theorem dX6_brand_29 : decode cX6_brand 29 = .ok (.aload_n 0, 1) := by decide +kernel
theorem dX6_brand_30 : decode cX6_brand 30 = .ok (.iload_n 1, 1) := by decide +kernel
theorem dX6_brand_31 : decode cX6_brand 31 = .ok (.iload_n 2, 1) := by decide +kernel
theorem dX6_brand_32 : decode cX6_brand 32 = .ok (.invokevirtual 179, 3) := by decide +kernel
theorem dX6_brand_35 : decode cX6_brand 35 = .ok (.goto 8, 3) := by decide +kernel
theorem dX6_brand_38 : decode cX6_brand 38 = .ok (.aload_n 0, 1) := by decide +kernel
theorem dX6_brand_39 : decode cX6_brand 39 = .ok (.iconst 2, 1) := by decide +kernel
theorem dX6_brand_40 : decode cX6_brand 40 = .ok (.invokevirtual 49, 3) := by decide +kernel
theorem dX6_brand_43 : decode cX6_brand 43 = .ok (.ireturn, 1) := by decide +kernel
set_option maxRecDepth 20000 in
theorem ggX6_sumOf_X6_ofShop : GoodIn wsX6_sumOf wsX6_ofShop := goodIn_r _ [5, 6, 7, 8, 4, 9, 10, 11, 12, 13, 14, 15, 16, 17, 18, 19, 20, 21, 22, 23, 24, 25] (by decide +kernel) (by decide +kernel)
set_option maxRecDepth 20000 in
theorem gX6_sumOf_X6_ofShop : GoodIn wsX6_sumOf (wsV RX6 57 RX6 yX6_ofShop wsX6_ofShop) := goodIn_app (goodIn_of _ (by decide +kernel)) ggX6_sumOf_X6_ofShop
theorem dX6_sumOf_0 : decode cX6_sumOf 0 = .ok (.iconst 0, 1) := by decide +kernel
theorem dX6_sumOf_1 : decode cX6_sumOf 1 = .ok (.istore_n 3, 1) := by decide +kernel
theorem dX6_sumOf_2 : decode cX6_sumOf 2 = .ok (.iconst 0, 1) := by decide +kernel
theorem dX6_sumOf_3 : decode cX6_sumOf 3 = .ok (.istore 4, 2) := by decide +kernel
theorem dX6_sumOf_5 : decode cX6_sumOf 5 = .ok (.iload 4, 2) := by decide +kernel
theorem dX6_sumOf_7 : decode cX6_sumOf 7 = .ok (.bipush 8, 2) := by decide +kernel
theorem dX6_sumOf_9 : decode cX6_sumOf 9 = .ok (.if_icmp .ge 21, 3) := by decide +kernel
theorem dX6_sumOf_12 : decode cX6_sumOf 12 = .ok (.iload_n 3, 1) := by decide +kernel
theorem dX6_sumOf_13 : decode cX6_sumOf 13 = .ok (.aload_n 0, 1) := by decide +kernel
theorem dX6_sumOf_14 : decode cX6_sumOf 14 = .ok (.iload_n 1, 1) := by decide +kernel
theorem dX6_sumOf_15 : decode cX6_sumOf 15 = .ok (.iload_n 2, 1) := by decide +kernel
theorem dX6_sumOf_16 : decode cX6_sumOf 16 = .ok (.iload 4, 2) := by decide +kernel
theorem dX6_sumOf_18 : decode cX6_sumOf 18 = .ok (.iadd, 1) := by decide +kernel
theorem dX6_sumOf_19 : decode cX6_sumOf 19 = .ok (.invokevirtual 57, 3) := by decide +kernel
theorem dX6_sumOf_22 : decode cX6_sumOf 22 = .ok (.iadd, 1) := by decide +kernel
theorem dX6_sumOf_23 : decode cX6_sumOf 23 = .ok (.istore_n 3, 1) := by decide +kernel
theorem dX6_sumOf_24 : decode cX6_sumOf 24 = .ok (.iinc 4 1, 3) := by decide +kernel
theorem dX6_sumOf_27 : decode cX6_sumOf 27 = .ok (.goto (-22), 3) := by decide +kernel
theorem dX6_sumOf_30 : decode cX6_sumOf 30 = .ok (.iload_n 3, 1) := by decide +kernel
theorem dX6_sumOf_31 : decode cX6_sumOf 31 = .ok (.ireturn, 1) := by decide +kernel
set_option maxRecDepth 20000 in
theorem ggX6_aboutShop_X6_ofShop : GoodIn wsX6_aboutShop wsX6_ofShop := goodIn_r _ [5, 6, 7, 8, 4, 9, 14, 15, 16, 17, 18, 19, 20, 21, 22, 23, 24, 25, 26, 27, 28, 29] (by decide +kernel) (by decide +kernel)
set_option maxRecDepth 20000 in
theorem gX6_aboutShop_X6_ofShop : GoodIn wsX6_aboutShop (wsV RX6 57 RX6 yX6_ofShop wsX6_ofShop) := goodIn_app (goodIn_of _ (by decide +kernel)) ggX6_aboutShop_X6_ofShop
set_option maxRecDepth 20000 in
theorem ggX6_aboutShop_X6_sumOf : GoodIn wsX6_aboutShop wsX6_sumOf := goodIn_r _ [13, 1, 2, 3, 4, 5, 6, 7, 8, 9, 14, 15, 16, 17, 18, 19, 20, 21, 22, 23, 24, 25, 26, 27, 28, 29] (by decide +kernel) (by decide +kernel)
set_option maxRecDepth 20000 in
theorem gX6_aboutShop_X6_sumOf : GoodIn wsX6_aboutShop (wsV RX6 182 RX6 yX6_sumOf wsX6_sumOf) := goodIn_app (goodIn_of _ (by decide +kernel)) ggX6_aboutShop_X6_sumOf
theorem dX6_aboutShop_0 : decode cX6_aboutShop 0 = .ok (.iload_n 2, 1) := by decide +kernel
theorem dX6_aboutShop_1 : decode cX6_aboutShop 1 = .ok (.bipush 9, 2) := by decide +kernel
theorem dX6_aboutShop_3 : decode cX6_aboutShop 3 = .ok (.if_icmp .le 26, 3) := by decide +kernel
theorem dX6_aboutShop_6 : decode cX6_aboutShop 6 = .ok (.aload_n 0, 1) := by decide +kernel
theorem dX6_aboutShop_7 : decode cX6_aboutShop 7 = .ok (.iload_n 1, 1) := by decide +kernel
theorem dX6_aboutShop_8 : decode cX6_aboutShop 8 = .ok (.iload_n 2, 1) := by decide +kernel
theorem dX6_aboutShop_9 : decode cX6_aboutShop 9 = .ok (.bipush 20, 2) := by decide +kernel
theorem dX6_aboutShop_11 : decode cX6_aboutShop 11 = .ok (.if_icmp .ge 7, 3) := by decide +kernel
theorem dX6_aboutShop_14 : decode cX6_aboutShop 14 = .ok (.iconst 5, 1) := by decide +kernel
theorem dX6_aboutShop_15 : decode cX6_aboutShop 15 = .ok (.goto 5, 3) := by decide +kernel
theorem dX6_aboutShop_18 : decode cX6_aboutShop 18 = .ok (.bipush 13, 2) := by decide +kernel
theorem dX6_aboutShop_20 : decode cX6_aboutShop 20 = .ok (.iload_n 2, 1) := by decide +kernel
theorem dX6_aboutShop_21 : decode cX6_aboutShop 21 = .ok (.bipush 10, 2) := by decide +kernel
theorem dX6_aboutShop_23 : decode cX6_aboutShop 23 = .ok (.irem, 1) := by decide +kernel
theorem dX6_aboutShop_24 : decode cX6_aboutShop 24 = .ok (.iadd, 1) := by decide +kernel
theorem dX6_aboutShop_25 : decode cX6_aboutShop 25 = .ok (.invokevirtual 57, 3) := by decide +kernel
theorem dX6_aboutShop_28 : decode cX6_aboutShop 28 = .ok (.ireturn, 1) := by decide +kernel
theorem dX6_aboutShop_29 : decode cX6_aboutShop 29 = .ok (.iload_n 2, 1) := by decide +kernel
theorem dX6_aboutShop_30 : decode cX6_aboutShop 30 = .ok (.iconst 2, 1) := by decide +kernel
theorem dX6_aboutShop_31 : decode cX6_aboutShop 31 = .ok (.if_icmp .ne 12, 3) := by decide +kernel
theorem dX6_aboutShop_34 : decode cX6_aboutShop 34 = .ok (.aload_n 0, 1) := by decide +kernel
theorem dX6_aboutShop_35 : decode cX6_aboutShop 35 = .ok (.iload_n 1, 1) := by decide +kernel
theorem dX6_aboutShop_36 : decode cX6_aboutShop 36 = .ok (.iconst 5, 1) := by decide +kernel
theorem dX6_aboutShop_37 : decode cX6_aboutShop 37 = .ok (.invokevirtual 182, 3) := by decide +kernel
theorem dX6_aboutShop_40 : decode cX6_aboutShop 40 = .ok (.goto 35, 3) := by decide +kernel
theorem dX6_aboutShop_43 : decode cX6_aboutShop 43 = .ok (.iload_n 2, 1) := by decide +kernel
theorem dX6_aboutShop_44 : decode cX6_aboutShop 44 = .ok (.iconst 3, 1) := by decide +kernel
theorem dX6_aboutShop_45 : decode cX6_aboutShop 45 = .ok (.if_icmp .ne 13, 3) := by decide +kernel
theorem dX6_aboutShop_48 : decode cX6_aboutShop 48 = .ok (.aload_n 0, 1) := by decide +kernel
theorem dX6_aboutShop_49 : decode cX6_aboutShop 49 = .ok (.iload_n 1, 1) := by decide +kernel
theorem dX6_aboutShop_50 : decode cX6_aboutShop 50 = .ok (.bipush 13, 2) := by decide +kernel
theorem dX6_aboutShop_52 : decode cX6_aboutShop 52 = .ok (.invokevirtual 182, 3) := by decide +kernel
theorem dX6_aboutShop_55 : decode cX6_aboutShop 55 = .ok (.goto 20, 3) := by decide +kernel
theorem dX6_aboutShop_58 : decode cX6_aboutShop 58 = .ok (.aload_n 0, 1) := by decide +kernel
theorem dX6_aboutShop_59 : decode cX6_aboutShop 59 = .ok (.iload_n 1, 1) := by decide +kernel
theorem dX6_aboutShop_60 : decode cX6_aboutShop 60 = .ok (.iload_n 2, 1) := by decide +kernel
theorem dX6_aboutShop_61 : decode cX6_aboutShop 61 = .ok (.iconst 2, 1) := by decide +kernel
theorem dX6_aboutShop_62 : decode cX6_aboutShop 62 = .ok (.if_icmp .ge 7, 3) := by decide +kernel
theorem dX6_aboutShop_65 : decode cX6_aboutShop 65 = .ok (.iload_n 2, 1) := by decide +kernel
theorem dX6_aboutShop_66 : decode cX6_aboutShop 66 = .ok (.goto 6, 3) := by decide +kernel
theorem dX6_aboutShop_69 : decode cX6_aboutShop 69 = .ok (.iload_n 2, 1) := by decide +kernel
theorem dX6_aboutShop_70 : decode cX6_aboutShop 70 = .ok (.iconst 2, 1) := by decide +kernel
theorem dX6_aboutShop_71 : decode cX6_aboutShop 71 = .ok (.isub, 1) := by decide +kernel
theorem dX6_aboutShop_72 : decode cX6_aboutShop 72 = .ok (.invokevirtual 57, 3) := by decide +kernel
theorem dX6_aboutShop_75 : decode cX6_aboutShop 75 = .ok (.ireturn, 1) := by decide +kernel
set_option maxRecDepth 20000 in
theorem ggX6_shop_X6_isShop : GoodIn wsX6_shop wsX6_isShop := goodIn_r _ [6, 7, 8, 9, 5, 10, 30, 31, 32, 33, 34, 35, 36, 37, 38, 39, 40, 41, 42, 43, 44, 45] (by decide +kernel) (by decide +kernel)
set_option maxRecDepth 20000 in
theorem gX6_shop_X6_isShop : GoodIn wsX6_shop (wsV RX6 92 RX6 yX6_isShop wsX6_isShop) := goodIn_app (goodIn_of _ (by decide +kernel)) ggX6_shop_X6_isShop
set_option maxRecDepth 20000 in
theorem ggX6_shop_X6_fails : GoodIn wsX6_shop wsX6_fails := goodIn_r _ [14, 1, 30, 31, 32, 33, 34, 35, 36, 37, 38, 39, 40, 41, 42, 43, 44, 45] (by decide +kernel) (by decide +kernel)
set_option maxRecDepth 20000 in
theorem gX6_shop_X6_fails : GoodIn wsX6_shop (wsV RX6 49 RX6 yX6_fails wsX6_fails) := goodIn_app (goodIn_of _ (by decide +kernel)) ggX6_shop_X6_fails
set_option maxRecDepth 20000 in
theorem ggX6_shop_X6_in : GoodIn wsX6_shop wsX6_in := goodIn_r _ [10] (by decide +kernel) (by decide +kernel)
set_option maxRecDepth 20000 in
theorem gX6_shop_X6_in : GoodIn wsX6_shop (va_wsS RX6 35 yX6_in wsX6_in) := goodIn_app (goodIn_of _ (by decide +kernel)) ggX6_shop_X6_in
set_option maxRecDepth 20000 in
theorem ggX6_shop_X6_aboutShop : GoodIn wsX6_shop wsX6_aboutShop := goodIn_r _ [18, 19, 20, 21, 5, 22, 7, 23, 24, 25, 26, 27, 28, 29, 30, 31, 32, 33, 34, 35, 36, 37, 38, 39, 40, 41, 42, 43, 44, 45] (by decide +kernel) (by decide +kernel)
set_option maxRecDepth 20000 in
theorem gX6_shop_X6_aboutShop : GoodIn wsX6_shop (wsV RX6 185 RX6 yX6_aboutShop wsX6_aboutShop) := goodIn_app (goodIn_of _ (by decide +kernel)) ggX6_shop_X6_aboutShop
theorem dX6_shop_0 : decode cX6_shop 0 = .ok (.aload_n 0, 1) := by decide +kernel
theorem dX6_shop_1 : decode cX6_shop 1 = .ok (.iconst 0, 1) := by decide +kernel
theorem dX6_shop_2 : decode cX6_shop 2 = .ok (.putfield 28, 3) := by decide +kernel
theorem dX6_shop_5 : decode cX6_shop 5 = .ok (.aload_n 0, 1) := by decide +kernel
theorem dX6_shop_6 : decode cX6_shop 6 = .ok (.iload_n 1, 1) := by decide +kernel
theorem dX6_shop_7 : decode cX6_shop 7 = .ok (.invokevirtual 92, 3) := by decide +kernel
theorem dX6_shop_10 : decode cX6_shop 10 = .ok (.ifCond .ne 9, 3) := by decide +kernel
theorem dX6_shop_13 : decode cX6_shop 13 = .ok (.aload_n 0, 1) := by decide +kernel
theorem dX6_shop_14 : decode cX6_shop 14 = .ok (.iconst 1, 1) := by decide +kernel
theorem dX6_shop_15 : decode cX6_shop 15 = .ok (.invokevirtual 49, 3) := by decide +kernel
theorem dX6_shop_18 : decode cX6_shop 18 = .ok (.ireturn, 1) := by decide +kernel
theorem dX6_shop_19 : decode cX6_shop 19 = .ok (.iload_n 2, 1) := by decide +kernel
theorem dX6_shop_20 : decode cX6_shop 20 = .ok (.iconst 0, 1) := by decide +kernel
theorem dX6_shop_21 : decode cX6_shop 21 = .ok (.bipush 6, 2) := by decide +kernel
theorem dX6_shop_23 : decode cX6_shop 23 = .ok (.invokestatic 35, 3) := by decide +kernel
theorem dX6_shop_26 : decode cX6_shop 26 = .ok (.ifCond .ne 25, 3) := by decide +kernel
theorem dX6_shop_29 : decode cX6_shop 29 = .ok (.iload_n 2, 1) := by decide +kernel
theorem dX6_shop_30 : decode cX6_shop 30 = .ok (.bipush 10, 2) := by decide +kernel
theorem dX6_shop_32 : decode cX6_shop 32 = .ok (.bipush 17, 2) := by decide +kernel
theorem dX6_shop_34 : decode cX6_shop 34 = .ok (.invokestatic 35, 3) := by decide +kernel
theorem dX6_shop_37 : decode cX6_shop 37 = .ok (.ifCond .ne 14, 3) := by decide +kernel
theorem dX6_shop_40 : decode cX6_shop 40 = .ok (.iload_n 2, 1) := by decide +kernel
theorem dX6_shop_41 : decode cX6_shop 41 = .ok (.bipush 20, 2) := by decide +kernel
theorem dX6_shop_43 : decode cX6_shop 43 = .ok (.bipush 27, 2) := by decide +kernel
theorem dX6_shop_45 : decode cX6_shop 45 = .ok (.invokestatic 35, 3) := by decide +kernel
theorem dX6_shop_48 : decode cX6_shop 48 = .ok (.ifCond .eq 12, 3) := by decide +kernel
theorem dX6_shop_51 : decode cX6_shop 51 = .ok (.aload_n 0, 1) := by decide +kernel
theorem dX6_shop_52 : decode cX6_shop 52 = .ok (.iload_n 1, 1) := by decide +kernel
theorem dX6_shop_53 : decode cX6_shop 53 = .ok (.iload_n 2, 1) := by decide +kernel
theorem dX6_shop_54 : decode cX6_shop 54 = .ok (.invokevirtual 185, 3) := by decide +kernel
theorem dX6_shop_57 : decode cX6_shop 57 = .ok (.goto 8, 3) := by decide +kernel
theorem dX6_shop_60 : decode cX6_shop 60 = .ok (.aload_n 0, 1) := by decide +kernel
theorem dX6_shop_61 : decode cX6_shop 61 = .ok (.iconst 2, 1) := by decide +kernel
theorem dX6_shop_62 : decode cX6_shop 62 = .ok (.invokevirtual 49, 3) := by decide +kernel
theorem dX6_shop_65 : decode cX6_shop 65 = .ok (.ireturn, 1) := by decide +kernel
set_option maxRecDepth 20000 in
theorem ggX6_number_X6_of : GoodIn wsX6_number wsX6_of := goodIn_r _ [7, 1, 8, 9, 6, 10, 22, 23, 24, 25, 26, 27, 28, 29, 30, 31, 32, 33, 34, 35, 36, 37] (by decide +kernel) (by decide +kernel)
set_option maxRecDepth 20000 in
theorem gX6_number_X6_of : GoodIn wsX6_number (wsV RX6 46 RX6 yX6_of wsX6_of) := goodIn_app (goodIn_of _ (by decide +kernel)) ggX6_number_X6_of
set_option maxRecDepth 20000 in
theorem ggX6_number_X6_cratesInShops : GoodIn wsX6_number wsX6_cratesInShops := goodIn_r _ [14, 1, 15, 16, 17, 6, 18, 19, 20, 21, 22, 23, 24, 25, 26, 27, 28, 29, 30, 31, 32, 33, 34, 35, 36, 37] (by decide +kernel) (by decide +kernel)
set_option maxRecDepth 20000 in
theorem gX6_number_X6_cratesInShops : GoodIn wsX6_number (wsV RX6 60 RX6 yX6_cratesInShops wsX6_cratesInShops) := goodIn_app (goodIn_of _ (by decide +kernel)) ggX6_number_X6_cratesInShops
theorem dX6_number_0 : decode cX6_number 0 = .ok (.iconst 0, 1) := by decide +kernel
theorem dX6_number_1 : decode cX6_number 1 = .ok (.istore_n 2, 1) := by decide +kernel
theorem dX6_number_2 : decode cX6_number 2 = .ok (.iconst 0, 1) := by decide +kernel
theorem dX6_number_3 : decode cX6_number 3 = .ok (.istore_n 3, 1) := by decide +kernel
theorem dX6_number_4 : decode cX6_number 4 = .ok (.iconst 0, 1) := by decide +kernel
theorem dX6_number_5 : decode cX6_number 5 = .ok (.istore 4, 2) := by decide +kernel
theorem dX6_number_7 : decode cX6_number 7 = .ok (.iload 4, 2) := by decide +kernel
theorem dX6_number_9 : decode cX6_number 9 = .ok (.aload_n 0, 1) := by decide +kernel
theorem dX6_number_10 : decode cX6_number 10 = .ok (.getfield 7, 3) := by decide +kernel
theorem dX6_number_13 : decode cX6_number 13 = .ok (.iconst 0, 1) := by decide +kernel
theorem dX6_number_14 : decode cX6_number 14 = .ok (.iaload, 1) := by decide +kernel
theorem dX6_number_15 : decode cX6_number 15 = .ok (.if_icmp .ge 29, 3) := by decide +kernel
theorem dX6_number_18 : decode cX6_number 18 = .ok (.iload_n 2, 1) := by decide +kernel
theorem dX6_number_19 : decode cX6_number 19 = .ok (.aload_n 0, 1) := by decide +kernel
theorem dX6_number_20 : decode cX6_number 20 = .ok (.iload 4, 2) := by decide +kernel
theorem dX6_number_22 : decode cX6_number 22 = .ok (.iconst 3, 1) := by decide +kernel
theorem dX6_number_23 : decode cX6_number 23 = .ok (.invokevirtual 46, 3) := by decide +kernel
theorem dX6_number_26 : decode cX6_number 26 = .ok (.iadd, 1) := by decide +kernel
theorem dX6_number_27 : decode cX6_number 27 = .ok (.istore_n 2, 1) := by decide +kernel
theorem dX6_number_28 : decode cX6_number 28 = .ok (.iload_n 3, 1) := by decide +kernel
theorem dX6_number_29 : decode cX6_number 29 = .ok (.aload_n 0, 1) := by decide +kernel
theorem dX6_number_30 : decode cX6_number 30 = .ok (.iload 4, 2) := by decide +kernel
theorem dX6_number_32 : decode cX6_number 32 = .ok (.iconst 4, 1) := by decide +kernel
theorem dX6_number_33 : decode cX6_number 33 = .ok (.invokevirtual 46, 3) := by decide +kernel
theorem dX6_number_36 : decode cX6_number 36 = .ok (.iadd, 1) := by decide +kernel
theorem dX6_number_37 : decode cX6_number 37 = .ok (.istore_n 3, 1) := by decide +kernel
theorem dX6_number_38 : decode cX6_number 38 = .ok (.iinc 4 1, 3) := by decide +kernel
theorem dX6_number_41 : decode cX6_number 41 = .ok (.goto (-34), 3) := by decide +kernel
theorem dX6_number_44 : decode cX6_number 44 = .ok (.iload_n 1, 1) := by decide +kernel
theorem dX6_number_45 : decode cX6_number 45 = .ok (.tableswitch 88 0 9 #[55, 55, 55, 62, 67, 67, 67, 76, 78, 80], 55) := by decide +kernel
theorem dX6_number_100 : decode cX6_number 100 = .ok (.aload_n 0, 1) := by decide +kernel
theorem dX6_number_101 : decode cX6_number 101 = .ok (.getfield 7, 3) := by decide +kernel
theorem dX6_number_104 : decode cX6_number 104 = .ok (.iload_n 1, 1) := by decide +kernel
theorem dX6_number_105 : decode cX6_number 105 = .ok (.iaload, 1) := by decide +kernel
theorem dX6_number_106 : decode cX6_number 106 = .ok (.ireturn, 1) := by decide +kernel
theorem dX6_number_107 : decode cX6_number 107 = .ok (.aload_n 0, 1) := by decide +kernel
theorem dX6_number_108 : decode cX6_number 108 = .ok (.invokevirtual 60, 3) := by decide +kernel
theorem dX6_number_111 : decode cX6_number 111 = .ok (.ireturn, 1) := by decide +kernel
theorem dX6_number_112 : decode cX6_number 112 = .ok (.aload_n 0, 1) := by decide +kernel
theorem dX6_number_113 : decode cX6_number 113 = .ok (.getfield 7, 3) := by decide +kernel
theorem dX6_number_116 : decode cX6_number 116 = .ok (.iload_n 1, 1) := by decide +kernel
theorem dX6_number_117 : decode cX6_number 117 = .ok (.iconst 1, 1) := by decide +kernel
theorem dX6_number_118 : decode cX6_number 118 = .ok (.isub, 1) := by decide +kernel
theorem dX6_number_119 : decode cX6_number 119 = .ok (.iaload, 1) := by decide +kernel
theorem dX6_number_120 : decode cX6_number 120 = .ok (.ireturn, 1) := by decide +kernel
theorem dX6_number_121 : decode cX6_number 121 = .ok (.iload_n 2, 1) := by decide +kernel
theorem dX6_number_122 : decode cX6_number 122 = .ok (.ireturn, 1) := by decide +kernel
theorem dX6_number_123 : decode cX6_number 123 = .ok (.iload_n 3, 1) := by decide +kernel
theorem dX6_number_124 : decode cX6_number 124 = .ok (.ireturn, 1) := by decide +kernel
theorem dX6_number_125 : decode cX6_number 125 = .ok (.aload_n 0, 1) := by decide +kernel
theorem dX6_number_126 : decode cX6_number 126 = .ok (.getfield 7, 3) := by decide +kernel
theorem dX6_number_129 : decode cX6_number 129 = .ok (.bipush 6, 2) := by decide +kernel
theorem dX6_number_131 : decode cX6_number 131 = .ok (.iaload, 1) := by decide +kernel
theorem dX6_number_132 : decode cX6_number 132 = .ok (.ireturn, 1) := by decide +kernel
theorem dX6_number_133 : decode cX6_number 133 = .ok (.aload_n 0, 1) := by decide +kernel
theorem dX6_number_134 : decode cX6_number 134 = .ok (.getfield 32, 3) := by decide +kernel
theorem dX6_number_137 : decode cX6_number 137 = .ok (.ireturn, 1) := by decide +kernel
set_option maxRecDepth 20000 in
theorem ggX6_count_X6_in : GoodIn wsX6_count wsX6_in := goodIn_r _ [5] (by decide +kernel) (by decide +kernel)
set_option maxRecDepth 20000 in
theorem gX6_count_X6_in : GoodIn wsX6_count (va_wsS RX6 35 yX6_in wsX6_in) := goodIn_app (goodIn_of _ (by decide +kernel)) ggX6_count_X6_in
set_option maxRecDepth 20000 in
theorem ggX6_count_X6_number : GoodIn wsX6_count wsX6_number := goodIn_r _ [9, 10, 11, 12, 13, 14, 4, 15, 16, 17, 18, 19, 20, 21, 22, 23, 24, 25, 26, 27, 28, 29, 34, 35, 36, 37, 38, 39, 40, 41, 42, 43, 44, 45, 46, 47, 48, 49] (by decide +kernel) (by decide +kernel)
set_option maxRecDepth 20000 in
theorem gX6_count_X6_number : GoodIn wsX6_count (wsV RX6 188 RX6 yX6_number wsX6_number) := goodIn_app (goodIn_of _ (by decide +kernel)) ggX6_count_X6_number
set_option maxRecDepth 20000 in
theorem ggX6_count_X6_fails : GoodIn wsX6_count wsX6_fails := goodIn_r _ [33, 1, 34, 35, 36, 37, 38, 39, 40, 41, 42, 43, 44, 45, 46, 47, 48, 49] (by decide +kernel) (by decide +kernel)
set_option maxRecDepth 20000 in
theorem gX6_count_X6_fails : GoodIn wsX6_count (wsV RX6 49 RX6 yX6_fails wsX6_fails) := goodIn_app (goodIn_of _ (by decide +kernel)) ggX6_count_X6_fails
theorem dX6_count_0 : decode cX6_count 0 = .ok (.aload_n 0, 1) := by decide +kernel
theorem dX6_count_1 : decode cX6_count 1 = .ok (.iconst 0, 1) := by decide +kernel
theorem dX6_count_2 : decode cX6_count 2 = .ok (.putfield 28, 3) := by decide +kernel
theorem dX6_count_5 : decode cX6_count 5 = .ok (.iload_n 1, 1) := by decide +kernel
theorem dX6_count_6 : decode cX6_count 6 = .ok (.iconst 0, 1) := by decide +kernel
theorem dX6_count_7 : decode cX6_count 7 = .ok (.bipush 10, 2) := by decide +kernel
theorem dX6_count_9 : decode cX6_count 9 = .ok (.invokestatic 35, 3) := by decide +kernel
theorem dX6_count_12 : decode cX6_count 12 = .ok (.ifCond .eq 11, 3) := by decide +kernel
theorem dX6_count_15 : decode cX6_count 15 = .ok (.aload_n 0, 1) := by decide +kernel
theorem dX6_count_16 : decode cX6_count 16 = .ok (.iload_n 1, 1) := by decide +kernel
theorem dX6_count_17 : decode cX6_count 17 = .ok (.invokevirtual 188, 3) := by decide +kernel
theorem dX6_count_20 : decode cX6_count 20 = .ok (.goto 8, 3) := by decide +kernel
theorem dX6_count_23 : decode cX6_count 23 = .ok (.aload_n 0, 1) := by decide +kernel
theorem dX6_count_24 : decode cX6_count 24 = .ok (.iconst 1, 1) := by decide +kernel
theorem dX6_count_25 : decode cX6_count 25 = .ok (.invokevirtual 49, 3) := by decide +kernel
theorem dX6_count_28 : decode cX6_count 28 = .ok (.ireturn, 1) := by decide +kernel
set_option maxRecDepth 20000 in
theorem ggX6_setting_X6_in : GoodIn wsX6_setting wsX6_in := goodIn_r _ [6] (by decide +kernel) (by decide +kernel)
set_option maxRecDepth 20000 in
theorem gX6_setting_X6_in : GoodIn wsX6_setting (va_wsS RX6 35 yX6_in wsX6_in) := goodIn_app (goodIn_of _ (by decide +kernel)) ggX6_setting_X6_in
set_option maxRecDepth 20000 in
theorem ggX6_setting_X6_fails : GoodIn wsX6_setting wsX6_fails := goodIn_r _ [10, 1, 11, 12, 13, 14, 15, 16, 17, 18, 19, 20, 21, 22, 23, 24, 25, 26] (by decide +kernel) (by decide +kernel)
set_option maxRecDepth 20000 in
theorem gX6_setting_X6_fails : GoodIn wsX6_setting (wsV RX6 49 RX6 yX6_fails wsX6_fails) := goodIn_app (goodIn_of _ (by decide +kernel)) ggX6_setting_X6_fails
theorem dX6_setting_0 : decode cX6_setting 0 = .ok (.aload_n 0, 1) := by decide +kernel
theorem dX6_setting_1 : decode cX6_setting 1 = .ok (.iconst 0, 1) := by decide +kernel
theorem dX6_setting_2 : decode cX6_setting 2 = .ok (.putfield 28, 3) := by decide +kernel
theorem dX6_setting_5 : decode cX6_setting 5 = .ok (.iload_n 1, 1) := by decide +kernel
theorem dX6_setting_6 : decode cX6_setting 6 = .ok (.iconst 0, 1) := by decide +kernel
theorem dX6_setting_7 : decode cX6_setting 7 = .ok (.iconst 5, 1) := by decide +kernel
theorem dX6_setting_8 : decode cX6_setting 8 = .ok (.invokestatic 35, 3) := by decide +kernel
theorem dX6_setting_11 : decode cX6_setting 11 = .ok (.ifCond .eq 15, 3) := by decide +kernel
theorem dX6_setting_14 : decode cX6_setting 14 = .ok (.aload_n 0, 1) := by decide +kernel
theorem dX6_setting_15 : decode cX6_setting 15 = .ok (.getfield 7, 3) := by decide +kernel
theorem dX6_setting_18 : decode cX6_setting 18 = .ok (.bipush 7, 2) := by decide +kernel
theorem dX6_setting_20 : decode cX6_setting 20 = .ok (.iload_n 1, 1) := by decide +kernel
theorem dX6_setting_21 : decode cX6_setting 21 = .ok (.iadd, 1) := by decide +kernel
theorem dX6_setting_22 : decode cX6_setting 22 = .ok (.iaload, 1) := by decide +kernel
theorem dX6_setting_23 : decode cX6_setting 23 = .ok (.goto 8, 3) := by decide +kernel
theorem dX6_setting_26 : decode cX6_setting 26 = .ok (.aload_n 0, 1) := by decide +kernel
theorem dX6_setting_27 : decode cX6_setting 27 = .ok (.iconst 1, 1) := by decide +kernel
theorem dX6_setting_28 : decode cX6_setting 28 = .ok (.invokevirtual 49, 3) := by decide +kernel
theorem dX6_setting_31 : decode cX6_setting 31 = .ok (.ireturn, 1) := by decide +kernel
set_option maxRecDepth 20000 in
theorem ggX6_whyNotDeliver_X6_isBrand : GoodIn wsX6_whyNotDeliver wsX6_isBrand := goodIn_r _ [6, 7, 8, 9, 5, 10, 45, 46, 47, 48, 49, 50, 51, 52, 53, 54, 55, 56, 57, 58, 59, 60] (by decide +kernel) (by decide +kernel)
set_option maxRecDepth 20000 in
theorem gX6_whyNotDeliver_X6_isBrand : GoodIn wsX6_whyNotDeliver (wsV RX6 85 RX6 yX6_isBrand wsX6_isBrand) := goodIn_app (goodIn_of _ (by decide +kernel)) ggX6_whyNotDeliver_X6_isBrand
set_option maxRecDepth 20000 in
theorem ggX6_whyNotDeliver_X6_isShop : GoodIn wsX6_whyNotDeliver wsX6_isShop := goodIn_r _ [14, 7, 8, 9, 5, 10, 45, 46, 47, 48, 49, 50, 51, 52, 53, 54, 55, 56, 57, 58, 59, 60] (by decide +kernel) (by decide +kernel)
set_option maxRecDepth 20000 in
theorem gX6_whyNotDeliver_X6_isShop : GoodIn wsX6_whyNotDeliver (wsV RX6 92 RX6 yX6_isShop wsX6_isShop) := goodIn_app (goodIn_of _ (by decide +kernel)) ggX6_whyNotDeliver_X6_isShop
set_option maxRecDepth 20000 in
theorem ggX6_whyNotDeliver_X6_fails : GoodIn wsX6_whyNotDeliver wsX6_fails := goodIn_r _ [18, 1, 45, 46, 47, 48, 49, 50, 51, 52, 53, 54, 55, 56, 57, 58, 59, 60] (by decide +kernel) (by decide +kernel)
set_option maxRecDepth 20000 in
theorem gX6_whyNotDeliver_X6_fails : GoodIn wsX6_whyNotDeliver (wsV RX6 49 RX6 yX6_fails wsX6_fails) := goodIn_app (goodIn_of _ (by decide +kernel)) ggX6_whyNotDeliver_X6_fails
set_option maxRecDepth 20000 in
theorem ggX6_whyNotDeliver_X6_in : GoodIn wsX6_whyNotDeliver wsX6_in := goodIn_r _ [10] (by decide +kernel) (by decide +kernel)
set_option maxRecDepth 20000 in
theorem gX6_whyNotDeliver_X6_in : GoodIn wsX6_whyNotDeliver (va_wsS RX6 35 yX6_in wsX6_in) := goodIn_app (goodIn_of _ (by decide +kernel)) ggX6_whyNotDeliver_X6_in
set_option maxRecDepth 20000 in
theorem ggX6_whyNotDeliver_X6_againstDeliver : GoodIn wsX6_whyNotDeliver wsX6_againstDeliver := goodIn_r _ [22, 7, 23, 24, 25, 5, 26, 27, 28, 29, 30, 31, 32, 33, 34, 35, 36, 37, 38, 39, 40, 41, 42, 43, 44, 45, 46, 47, 48, 49, 50, 51, 52, 53, 54, 55, 56, 57, 58, 59, 60] (by decide +kernel) (by decide +kernel)
set_option maxRecDepth 20000 in
theorem gX6_whyNotDeliver_X6_againstDeliver : GoodIn wsX6_whyNotDeliver (wsV RX6 95 RX6 yX6_againstDeliver wsX6_againstDeliver) := goodIn_app (goodIn_of _ (by decide +kernel)) ggX6_whyNotDeliver_X6_againstDeliver
theorem dX6_whyNotDeliver_0 : decode cX6_whyNotDeliver 0 = .ok (.aload_n 0, 1) := by decide +kernel
theorem dX6_whyNotDeliver_1 : decode cX6_whyNotDeliver 1 = .ok (.iconst 0, 1) := by decide +kernel
theorem dX6_whyNotDeliver_2 : decode cX6_whyNotDeliver 2 = .ok (.putfield 28, 3) := by decide +kernel
theorem dX6_whyNotDeliver_5 : decode cX6_whyNotDeliver 5 = .ok (.aload_n 0, 1) := by decide +kernel
theorem dX6_whyNotDeliver_6 : decode cX6_whyNotDeliver 6 = .ok (.iload_n 1, 1) := by decide +kernel
theorem dX6_whyNotDeliver_7 : decode cX6_whyNotDeliver 7 = .ok (.invokevirtual 85, 3) := by decide +kernel
theorem dX6_whyNotDeliver_10 : decode cX6_whyNotDeliver 10 = .ok (.ifCond .eq 11, 3) := by decide +kernel
theorem dX6_whyNotDeliver_13 : decode cX6_whyNotDeliver 13 = .ok (.aload_n 0, 1) := by decide +kernel
theorem dX6_whyNotDeliver_14 : decode cX6_whyNotDeliver 14 = .ok (.iload_n 2, 1) := by decide +kernel
theorem dX6_whyNotDeliver_15 : decode cX6_whyNotDeliver 15 = .ok (.invokevirtual 92, 3) := by decide +kernel
theorem dX6_whyNotDeliver_18 : decode cX6_whyNotDeliver 18 = .ok (.ifCond .ne 9, 3) := by decide +kernel
theorem dX6_whyNotDeliver_21 : decode cX6_whyNotDeliver 21 = .ok (.aload_n 0, 1) := by decide +kernel
theorem dX6_whyNotDeliver_22 : decode cX6_whyNotDeliver 22 = .ok (.iconst 1, 1) := by decide +kernel
theorem dX6_whyNotDeliver_23 : decode cX6_whyNotDeliver 23 = .ok (.invokevirtual 49, 3) := by decide +kernel
theorem dX6_whyNotDeliver_26 : decode cX6_whyNotDeliver 26 = .ok (.ireturn, 1) := by decide +kernel
theorem dX6_whyNotDeliver_27 : decode cX6_whyNotDeliver 27 = .ok (.iload_n 3, 1) := by decide +kernel
theorem dX6_whyNotDeliver_28 : decode cX6_whyNotDeliver 28 = .ok (.iconst 1, 1) := by decide +kernel
theorem dX6_whyNotDeliver_29 : decode cX6_whyNotDeliver 29 = .ok (.bipush 50, 2) := by decide +kernel
theorem dX6_whyNotDeliver_31 : decode cX6_whyNotDeliver 31 = .ok (.invokestatic 35, 3) := by decide +kernel
theorem dX6_whyNotDeliver_34 : decode cX6_whyNotDeliver 34 = .ok (.ifCond .eq 13, 3) := by decide +kernel
theorem dX6_whyNotDeliver_37 : decode cX6_whyNotDeliver 37 = .ok (.aload_n 0, 1) := by decide +kernel
theorem dX6_whyNotDeliver_38 : decode cX6_whyNotDeliver 38 = .ok (.iload_n 1, 1) := by decide +kernel
theorem dX6_whyNotDeliver_39 : decode cX6_whyNotDeliver 39 = .ok (.iload_n 2, 1) := by decide +kernel
theorem dX6_whyNotDeliver_40 : decode cX6_whyNotDeliver 40 = .ok (.iload_n 3, 1) := by decide +kernel
theorem dX6_whyNotDeliver_41 : decode cX6_whyNotDeliver 41 = .ok (.invokevirtual 95, 3) := by decide +kernel
theorem dX6_whyNotDeliver_44 : decode cX6_whyNotDeliver 44 = .ok (.goto 8, 3) := by decide +kernel
theorem dX6_whyNotDeliver_47 : decode cX6_whyNotDeliver 47 = .ok (.aload_n 0, 1) := by decide +kernel
theorem dX6_whyNotDeliver_48 : decode cX6_whyNotDeliver 48 = .ok (.iconst 2, 1) := by decide +kernel
theorem dX6_whyNotDeliver_49 : decode cX6_whyNotDeliver 49 = .ok (.invokevirtual 49, 3) := by decide +kernel
theorem dX6_whyNotDeliver_52 : decode cX6_whyNotDeliver 52 = .ok (.ireturn, 1) := by decide +kernel
set_option maxRecDepth 20000 in
theorem ggX6_whyNotCollect_X6_isShop : GoodIn wsX6_whyNotCollect wsX6_isShop := goodIn_r _ [6, 7, 8, 9, 5, 10, 37, 38, 39, 40, 41, 42, 43, 44, 45, 46, 47, 48, 49, 50, 51, 52] (by decide +kernel) (by decide +kernel)
set_option maxRecDepth 20000 in
theorem gX6_whyNotCollect_X6_isShop : GoodIn wsX6_whyNotCollect (wsV RX6 92 RX6 yX6_isShop wsX6_isShop) := goodIn_app (goodIn_of _ (by decide +kernel)) ggX6_whyNotCollect_X6_isShop
set_option maxRecDepth 20000 in
theorem ggX6_whyNotCollect_X6_fails : GoodIn wsX6_whyNotCollect wsX6_fails := goodIn_r _ [14, 1, 37, 38, 39, 40, 41, 42, 43, 44, 45, 46, 47, 48, 49, 50, 51, 52] (by decide +kernel) (by decide +kernel)
set_option maxRecDepth 20000 in
theorem gX6_whyNotCollect_X6_fails : GoodIn wsX6_whyNotCollect (wsV RX6 49 RX6 yX6_fails wsX6_fails) := goodIn_app (goodIn_of _ (by decide +kernel)) ggX6_whyNotCollect_X6_fails
set_option maxRecDepth 20000 in
theorem ggX6_whyNotCollect_X6_in : GoodIn wsX6_whyNotCollect wsX6_in := goodIn_r _ [10] (by decide +kernel) (by decide +kernel)
set_option maxRecDepth 20000 in
theorem gX6_whyNotCollect_X6_in : GoodIn wsX6_whyNotCollect (va_wsS RX6 35 yX6_in wsX6_in) := goodIn_app (goodIn_of _ (by decide +kernel)) ggX6_whyNotCollect_X6_in
set_option maxRecDepth 20000 in
theorem ggX6_whyNotCollect_X6_againstCollect : GoodIn wsX6_whyNotCollect wsX6_againstCollect := goodIn_r _ [18, 19, 20, 21, 5, 22, 7, 23, 24, 25, 26, 27, 28, 29, 30, 31, 32, 33, 34, 35, 36, 37, 38, 39, 40, 41, 42, 43, 44, 45, 46, 47, 48, 49, 50, 51, 52] (by decide +kernel) (by decide +kernel)
set_option maxRecDepth 20000 in
theorem gX6_whyNotCollect_X6_againstCollect : GoodIn wsX6_whyNotCollect (wsV RX6 120 RX6 yX6_againstCollect wsX6_againstCollect) := goodIn_app (goodIn_of _ (by decide +kernel)) ggX6_whyNotCollect_X6_againstCollect
theorem dX6_whyNotCollect_0 : decode cX6_whyNotCollect 0 = .ok (.aload_n 0, 1) := by decide +kernel
theorem dX6_whyNotCollect_1 : decode cX6_whyNotCollect 1 = .ok (.iconst 0, 1) := by decide +kernel
theorem dX6_whyNotCollect_2 : decode cX6_whyNotCollect 2 = .ok (.putfield 28, 3) := by decide +kernel
theorem dX6_whyNotCollect_5 : decode cX6_whyNotCollect 5 = .ok (.aload_n 0, 1) := by decide +kernel
theorem dX6_whyNotCollect_6 : decode cX6_whyNotCollect 6 = .ok (.iload_n 1, 1) := by decide +kernel
theorem dX6_whyNotCollect_7 : decode cX6_whyNotCollect 7 = .ok (.invokevirtual 92, 3) := by decide +kernel
theorem dX6_whyNotCollect_10 : decode cX6_whyNotCollect 10 = .ok (.ifCond .ne 9, 3) := by decide +kernel
theorem dX6_whyNotCollect_13 : decode cX6_whyNotCollect 13 = .ok (.aload_n 0, 1) := by decide +kernel
theorem dX6_whyNotCollect_14 : decode cX6_whyNotCollect 14 = .ok (.iconst 1, 1) := by decide +kernel
theorem dX6_whyNotCollect_15 : decode cX6_whyNotCollect 15 = .ok (.invokevirtual 49, 3) := by decide +kernel
theorem dX6_whyNotCollect_18 : decode cX6_whyNotCollect 18 = .ok (.ireturn, 1) := by decide +kernel
theorem dX6_whyNotCollect_19 : decode cX6_whyNotCollect 19 = .ok (.iload_n 2, 1) := by decide +kernel
theorem dX6_whyNotCollect_20 : decode cX6_whyNotCollect 20 = .ok (.iconst 0, 1) := by decide +kernel
theorem dX6_whyNotCollect_21 : decode cX6_whyNotCollect 21 = .ok (.iconst 2, 1) := by decide +kernel
theorem dX6_whyNotCollect_22 : decode cX6_whyNotCollect 22 = .ok (.invokestatic 35, 3) := by decide +kernel
theorem dX6_whyNotCollect_25 : decode cX6_whyNotCollect 25 = .ok (.ifCond .eq 23, 3) := by decide +kernel
theorem dX6_whyNotCollect_28 : decode cX6_whyNotCollect 28 = .ok (.iload_n 3, 1) := by decide +kernel
theorem dX6_whyNotCollect_29 : decode cX6_whyNotCollect 29 = .ok (.iconst 1, 1) := by decide +kernel
theorem dX6_whyNotCollect_30 : decode cX6_whyNotCollect 30 = .ok (.bipush 50, 2) := by decide +kernel
theorem dX6_whyNotCollect_32 : decode cX6_whyNotCollect 32 = .ok (.invokestatic 35, 3) := by decide +kernel
theorem dX6_whyNotCollect_35 : decode cX6_whyNotCollect 35 = .ok (.ifCond .eq 13, 3) := by decide +kernel
theorem dX6_whyNotCollect_38 : decode cX6_whyNotCollect 38 = .ok (.aload_n 0, 1) := by decide +kernel
theorem dX6_whyNotCollect_39 : decode cX6_whyNotCollect 39 = .ok (.iload_n 1, 1) := by decide +kernel
theorem dX6_whyNotCollect_40 : decode cX6_whyNotCollect 40 = .ok (.iload_n 2, 1) := by decide +kernel
theorem dX6_whyNotCollect_41 : decode cX6_whyNotCollect 41 = .ok (.iload_n 3, 1) := by decide +kernel
theorem dX6_whyNotCollect_42 : decode cX6_whyNotCollect 42 = .ok (.invokevirtual 120, 3) := by decide +kernel
theorem dX6_whyNotCollect_45 : decode cX6_whyNotCollect 45 = .ok (.goto 8, 3) := by decide +kernel
theorem dX6_whyNotCollect_48 : decode cX6_whyNotCollect 48 = .ok (.aload_n 0, 1) := by decide +kernel
theorem dX6_whyNotCollect_49 : decode cX6_whyNotCollect 49 = .ok (.iconst 2, 1) := by decide +kernel
theorem dX6_whyNotCollect_50 : decode cX6_whyNotCollect 50 = .ok (.invokevirtual 49, 3) := by decide +kernel
theorem dX6_whyNotCollect_53 : decode cX6_whyNotCollect 53 = .ok (.ireturn, 1) := by decide +kernel
set_option maxRecDepth 20000 in
theorem ggX6_deliverable_X6_againstDeliver : GoodIn wsX6_deliverable wsX6_againstDeliver := goodIn_r _ [5, 6, 7, 8, 9, 4, 10, 11, 12, 13, 14, 15, 16, 17, 18, 19, 20, 21, 22, 23, 24, 25, 26, 27, 28, 29, 30, 31, 32, 33, 34, 35, 36, 37, 38, 39, 40, 41, 42, 43, 44] (by decide +kernel) (by decide +kernel)
set_option maxRecDepth 20000 in
theorem gX6_deliverable_X6_againstDeliver : GoodIn wsX6_deliverable (wsV RX6 95 RX6 yX6_againstDeliver wsX6_againstDeliver) := goodIn_app (goodIn_of _ (by decide +kernel)) ggX6_deliverable_X6_againstDeliver
theorem dX6_deliverable_0 : decode cX6_deliverable 0 = .ok (.iconst 0, 1) := by decide +kernel
theorem dX6_deliverable_1 : decode cX6_deliverable 1 = .ok (.istore_n 3, 1) := by decide +kernel
theorem dX6_deliverable_2 : decode cX6_deliverable 2 = .ok (.iload_n 3, 1) := by decide +kernel
theorem dX6_deliverable_3 : decode cX6_deliverable 3 = .ok (.bipush 50, 2) := by decide +kernel
theorem dX6_deliverable_5 : decode cX6_deliverable 5 = .ok (.if_icmp .ge 21, 3) := by decide +kernel
theorem dX6_deliverable_8 : decode cX6_deliverable 8 = .ok (.aload_n 0, 1) := by decide +kernel
theorem dX6_deliverable_9 : decode cX6_deliverable 9 = .ok (.iload_n 1, 1) := by decide +kernel
theorem dX6_deliverable_10 : decode cX6_deliverable 10 = .ok (.iload_n 2, 1) := by decide +kernel
theorem dX6_deliverable_11 : decode cX6_deliverable 11 = .ok (.iload_n 3, 1) := by decide +kernel
theorem dX6_deliverable_12 : decode cX6_deliverable 12 = .ok (.iconst 1, 1) := by decide +kernel
theorem dX6_deliverable_13 : decode cX6_deliverable 13 = .ok (.iadd, 1) := by decide +kernel
theorem dX6_deliverable_14 : decode cX6_deliverable 14 = .ok (.invokevirtual 95, 3) := by decide +kernel
theorem dX6_deliverable_17 : decode cX6_deliverable 17 = .ok (.ifCond .ne 9, 3) := by decide +kernel
theorem dX6_deliverable_20 : decode cX6_deliverable 20 = .ok (.iinc 3 1, 3) := by decide +kernel
theorem dX6_deliverable_23 : decode cX6_deliverable 23 = .ok (.goto (-21), 3) := by decide +kernel
theorem dX6_deliverable_26 : decode cX6_deliverable 26 = .ok (.iload_n 3, 1) := by decide +kernel
theorem dX6_deliverable_27 : decode cX6_deliverable 27 = .ok (.ireturn, 1) := by decide +kernel
set_option maxRecDepth 20000 in
theorem ggX6_mostCrates_X6_isBrand : GoodIn wsX6_mostCrates wsX6_isBrand := goodIn_r _ [6, 7, 8, 9, 5, 10, 49, 50, 51, 52, 53, 54, 55, 56, 57, 58, 59, 60, 61, 62, 63, 64] (by decide +kernel) (by decide +kernel)
set_option maxRecDepth 20000 in
theorem gX6_mostCrates_X6_isBrand : GoodIn wsX6_mostCrates (wsV RX6 85 RX6 yX6_isBrand wsX6_isBrand) := goodIn_app (goodIn_of _ (by decide +kernel)) ggX6_mostCrates_X6_isBrand
set_option maxRecDepth 20000 in
theorem ggX6_mostCrates_X6_isShop : GoodIn wsX6_mostCrates wsX6_isShop := goodIn_r _ [14, 7, 8, 9, 5, 10, 49, 50, 51, 52, 53, 54, 55, 56, 57, 58, 59, 60, 61, 62, 63, 64] (by decide +kernel) (by decide +kernel)
set_option maxRecDepth 20000 in
theorem gX6_mostCrates_X6_isShop : GoodIn wsX6_mostCrates (wsV RX6 92 RX6 yX6_isShop wsX6_isShop) := goodIn_app (goodIn_of _ (by decide +kernel)) ggX6_mostCrates_X6_isShop
set_option maxRecDepth 20000 in
theorem ggX6_mostCrates_X6_deliverable : GoodIn wsX6_mostCrates wsX6_deliverable := goodIn_r _ [18, 19, 20, 21, 5, 22, 7, 23, 24, 25, 26, 27, 28, 29, 30, 31, 32, 33, 34, 35, 36, 37, 38, 39, 40, 41, 42, 43, 44, 49, 50, 51, 52, 53, 54, 55, 56, 57, 58, 59, 60, 61, 62, 63, 64] (by decide +kernel) (by decide +kernel)
set_option maxRecDepth 20000 in
theorem gX6_mostCrates_X6_deliverable : GoodIn wsX6_mostCrates (wsV RX6 190 RX6 yX6_deliverable wsX6_deliverable) := goodIn_app (goodIn_of _ (by decide +kernel)) ggX6_mostCrates_X6_deliverable
set_option maxRecDepth 20000 in
theorem ggX6_mostCrates_X6_fails : GoodIn wsX6_mostCrates wsX6_fails := goodIn_r _ [48, 1, 49, 50, 51, 52, 53, 54, 55, 56, 57, 58, 59, 60, 61, 62, 63, 64] (by decide +kernel) (by decide +kernel)
set_option maxRecDepth 20000 in
theorem gX6_mostCrates_X6_fails : GoodIn wsX6_mostCrates (wsV RX6 49 RX6 yX6_fails wsX6_fails) := goodIn_app (goodIn_of _ (by decide +kernel)) ggX6_mostCrates_X6_fails
theorem dX6_mostCrates_0 : decode cX6_mostCrates 0 = .ok (.aload_n 0, 1) := by decide +kernel
theorem dX6_mostCrates_1 : decode cX6_mostCrates 1 = .ok (.iconst 0, 1) := by decide +kernel
theorem dX6_mostCrates_2 : decode cX6_mostCrates 2 = .ok (.putfield 28, 3) := by decide +kernel
theorem dX6_mostCrates_5 : decode cX6_mostCrates 5 = .ok (.aload_n 0, 1) := by decide +kernel
theorem dX6_mostCrates_6 : decode cX6_mostCrates 6 = .ok (.iload_n 1, 1) := by decide +kernel
theorem dX6_mostCrates_7 : decode cX6_mostCrates 7 = .ok (.invokevirtual 85, 3) := by decide +kernel
theorem dX6_mostCrates_10 : decode cX6_mostCrates 10 = .ok (.ifCond .eq 20, 3) := by decide +kernel
theorem dX6_mostCrates_13 : decode cX6_mostCrates 13 = .ok (.aload_n 0, 1) := by decide +kernel
theorem dX6_mostCrates_14 : decode cX6_mostCrates 14 = .ok (.iload_n 2, 1) := by decide +kernel
theorem dX6_mostCrates_15 : decode cX6_mostCrates 15 = .ok (.invokevirtual 92, 3) := by decide +kernel
theorem dX6_mostCrates_18 : decode cX6_mostCrates 18 = .ok (.ifCond .eq 12, 3) := by decide +kernel
theorem dX6_mostCrates_21 : decode cX6_mostCrates 21 = .ok (.aload_n 0, 1) := by decide +kernel
theorem dX6_mostCrates_22 : decode cX6_mostCrates 22 = .ok (.iload_n 1, 1) := by decide +kernel
theorem dX6_mostCrates_23 : decode cX6_mostCrates 23 = .ok (.iload_n 2, 1) := by decide +kernel
theorem dX6_mostCrates_24 : decode cX6_mostCrates 24 = .ok (.invokevirtual 190, 3) := by decide +kernel
theorem dX6_mostCrates_27 : decode cX6_mostCrates 27 = .ok (.goto 8, 3) := by decide +kernel
theorem dX6_mostCrates_30 : decode cX6_mostCrates 30 = .ok (.aload_n 0, 1) := by decide +kernel
theorem dX6_mostCrates_31 : decode cX6_mostCrates 31 = .ok (.iconst 1, 1) := by decide +kernel
theorem dX6_mostCrates_32 : decode cX6_mostCrates 32 = .ok (.invokevirtual 49, 3) := by decide +kernel
theorem dX6_mostCrates_35 : decode cX6_mostCrates 35 = .ok (.ireturn, 1) := by decide +kernel
set_option maxRecDepth 20000 in
theorem ggX6_wouldCollect_X6_of : GoodIn wsX6_wouldCollect wsX6_of := goodIn_r _ [7, 2, 8, 9, 6, 10, 38, 39, 40, 41, 42, 43, 44, 45, 46, 47, 48, 49, 50, 51, 52, 53] (by decide +kernel) (by decide +kernel)
set_option maxRecDepth 20000 in
theorem gX6_wouldCollect_X6_of : GoodIn wsX6_wouldCollect (wsV RX6 46 RX6 yX6_of wsX6_of) := goodIn_app (goodIn_of _ (by decide +kernel)) ggX6_wouldCollect_X6_of
set_option maxRecDepth 20000 in
theorem ggX6_wouldCollect_X6_againstCollect : GoodIn wsX6_wouldCollect wsX6_againstCollect := goodIn_r _ [14, 15, 16, 17, 6, 18, 2, 3, 4, 5, 7, 8, 9, 10, 19, 20, 21, 22, 23, 24, 25, 38, 39, 40, 41, 42, 43, 44, 45, 46, 47, 48, 49, 50, 51, 52, 53] (by decide +kernel) (by decide +kernel)
set_option maxRecDepth 20000 in
theorem gX6_wouldCollect_X6_againstCollect : GoodIn wsX6_wouldCollect (wsV RX6 120 RX6 yX6_againstCollect wsX6_againstCollect) := goodIn_app (goodIn_of _ (by decide +kernel)) ggX6_wouldCollect_X6_againstCollect
set_option maxRecDepth 20000 in
theorem ggX6_wouldCollect_X6_collects : GoodIn wsX6_wouldCollect wsX6_collects := goodIn_r _ [29, 2, 30, 31, 32, 6, 33, 3, 4, 5, 7, 8, 9, 10, 19, 20, 21, 22, 23, 24, 25, 34, 35, 36, 37, 38, 39, 40, 41, 42, 43, 44, 45, 46, 47, 48, 49, 50, 51, 52, 53] (by decide +kernel) (by decide +kernel)
set_option maxRecDepth 20000 in
theorem gX6_wouldCollect_X6_collects : GoodIn wsX6_wouldCollect (wsV RX6 123 RX6 yX6_collects wsX6_collects) := goodIn_app (goodIn_of _ (by decide +kernel)) ggX6_wouldCollect_X6_collects
theorem dX6_wouldCollect_0 : decode cX6_wouldCollect 0 = .ok (.aload_n 0, 1) := by decide +kernel
theorem dX6_wouldCollect_1 : decode cX6_wouldCollect 1 = .ok (.iload_n 2, 1) := by decide +kernel
theorem dX6_wouldCollect_2 : decode cX6_wouldCollect 2 = .ok (.iconst 0, 1) := by decide +kernel
theorem dX6_wouldCollect_3 : decode cX6_wouldCollect 3 = .ok (.invokevirtual 46, 3) := by decide +kernel
theorem dX6_wouldCollect_6 : decode cX6_wouldCollect 6 = .ok (.istore 4, 2) := by decide +kernel
theorem dX6_wouldCollect_8 : decode cX6_wouldCollect 8 = .ok (.aload_n 0, 1) := by decide +kernel
theorem dX6_wouldCollect_9 : decode cX6_wouldCollect 9 = .ok (.iload_n 1, 1) := by decide +kernel
theorem dX6_wouldCollect_10 : decode cX6_wouldCollect 10 = .ok (.iload 4, 2) := by decide +kernel
theorem dX6_wouldCollect_12 : decode cX6_wouldCollect 12 = .ok (.iload_n 3, 1) := by decide +kernel
theorem dX6_wouldCollect_13 : decode cX6_wouldCollect 13 = .ok (.invokevirtual 120, 3) := by decide +kernel
theorem dX6_wouldCollect_16 : decode cX6_wouldCollect 16 = .ok (.ifCond .le 5, 3) := by decide +kernel
theorem dX6_wouldCollect_19 : decode cX6_wouldCollect 19 = .ok (.iconst (-1), 1) := by decide +kernel
theorem dX6_wouldCollect_20 : decode cX6_wouldCollect 20 = .ok (.ireturn, 1) := by decide +kernel
theorem dX6_wouldCollect_21 : decode cX6_wouldCollect 21 = .ok (.iconst 0, 1) := by decide +kernel
theorem dX6_wouldCollect_22 : decode cX6_wouldCollect 22 = .ok (.istore 5, 2) := by decide +kernel
theorem dX6_wouldCollect_24 : decode cX6_wouldCollect 24 = .ok (.iload 5, 2) := by decide +kernel
theorem dX6_wouldCollect_26 : decode cX6_wouldCollect 26 = .ok (.sipush 283, 3) := by decide +kernel
theorem dX6_wouldCollect_29 : decode cX6_wouldCollect 29 = .ok (.if_icmp .ge 23, 3) := by decide +kernel
theorem dX6_wouldCollect_32 : decode cX6_wouldCollect 32 = .ok (.aload_n 0, 1) := by decide +kernel
theorem dX6_wouldCollect_33 : decode cX6_wouldCollect 33 = .ok (.getfield 13, 3) := by decide +kernel
theorem dX6_wouldCollect_36 : decode cX6_wouldCollect 36 = .ok (.iload 5, 2) := by decide +kernel
theorem dX6_wouldCollect_38 : decode cX6_wouldCollect 38 = .ok (.aload_n 0, 1) := by decide +kernel
theorem dX6_wouldCollect_39 : decode cX6_wouldCollect 39 = .ok (.getfield 7, 3) := by decide +kernel
theorem dX6_wouldCollect_42 : decode cX6_wouldCollect 42 = .ok (.iload 5, 2) := by decide +kernel
theorem dX6_wouldCollect_44 : decode cX6_wouldCollect 44 = .ok (.iaload, 1) := by decide +kernel
theorem dX6_wouldCollect_45 : decode cX6_wouldCollect 45 = .ok (.iastore, 1) := by decide +kernel
theorem dX6_wouldCollect_46 : decode cX6_wouldCollect 46 = .ok (.iinc 5 1, 3) := by decide +kernel
theorem dX6_wouldCollect_49 : decode cX6_wouldCollect 49 = .ok (.goto (-25), 3) := by decide +kernel
theorem dX6_wouldCollect_52 : decode cX6_wouldCollect 52 = .ok (.aload_n 0, 1) := by decide +kernel
theorem dX6_wouldCollect_53 : decode cX6_wouldCollect 53 = .ok (.iload_n 1, 1) := by decide +kernel
theorem dX6_wouldCollect_54 : decode cX6_wouldCollect 54 = .ok (.iload 4, 2) := by decide +kernel
theorem dX6_wouldCollect_56 : decode cX6_wouldCollect 56 = .ok (.iload_n 3, 1) := by decide +kernel
theorem dX6_wouldCollect_57 : decode cX6_wouldCollect 57 = .ok (.invokevirtual 123, 3) := by decide +kernel
theorem dX6_wouldCollect_60 : decode cX6_wouldCollect 60 = .ok (.pop, 1) := by decide +kernel
theorem dX6_wouldCollect_61 : decode cX6_wouldCollect 61 = .ok (.aload_n 0, 1) := by decide +kernel
theorem dX6_wouldCollect_62 : decode cX6_wouldCollect 62 = .ok (.iload_n 2, 1) := by decide +kernel
theorem dX6_wouldCollect_63 : decode cX6_wouldCollect 63 = .ok (.iconst 4, 1) := by decide +kernel
theorem dX6_wouldCollect_64 : decode cX6_wouldCollect 64 = .ok (.invokevirtual 46, 3) := by decide +kernel
theorem dX6_wouldCollect_67 : decode cX6_wouldCollect 67 = .ok (.istore 5, 2) := by decide +kernel
theorem dX6_wouldCollect_69 : decode cX6_wouldCollect 69 = .ok (.iconst 0, 1) := by decide +kernel
theorem dX6_wouldCollect_70 : decode cX6_wouldCollect 70 = .ok (.istore 6, 2) := by decide +kernel
theorem dX6_wouldCollect_72 : decode cX6_wouldCollect 72 = .ok (.iload 6, 2) := by decide +kernel
theorem dX6_wouldCollect_74 : decode cX6_wouldCollect 74 = .ok (.sipush 283, 3) := by decide +kernel
theorem dX6_wouldCollect_77 : decode cX6_wouldCollect 77 = .ok (.if_icmp .ge 23, 3) := by decide +kernel
theorem dX6_wouldCollect_80 : decode cX6_wouldCollect 80 = .ok (.aload_n 0, 1) := by decide +kernel
theorem dX6_wouldCollect_81 : decode cX6_wouldCollect 81 = .ok (.getfield 7, 3) := by decide +kernel
theorem dX6_wouldCollect_84 : decode cX6_wouldCollect 84 = .ok (.iload 6, 2) := by decide +kernel
theorem dX6_wouldCollect_86 : decode cX6_wouldCollect 86 = .ok (.aload_n 0, 1) := by decide +kernel
theorem dX6_wouldCollect_87 : decode cX6_wouldCollect 87 = .ok (.getfield 13, 3) := by decide +kernel
theorem dX6_wouldCollect_90 : decode cX6_wouldCollect 90 = .ok (.iload 6, 2) := by decide +kernel
theorem dX6_wouldCollect_92 : decode cX6_wouldCollect 92 = .ok (.iaload, 1) := by decide +kernel
theorem dX6_wouldCollect_93 : decode cX6_wouldCollect 93 = .ok (.iastore, 1) := by decide +kernel
theorem dX6_wouldCollect_94 : decode cX6_wouldCollect 94 = .ok (.iinc 6 1, 3) := by decide +kernel
theorem dX6_wouldCollect_97 : decode cX6_wouldCollect 97 = .ok (.goto (-25), 3) := by decide +kernel
theorem dX6_wouldCollect_100 : decode cX6_wouldCollect 100 = .ok (.iload 5, 2) := by decide +kernel
theorem dX6_wouldCollect_102 : decode cX6_wouldCollect 102 = .ok (.aload_n 0, 1) := by decide +kernel
theorem dX6_wouldCollect_103 : decode cX6_wouldCollect 103 = .ok (.iload_n 2, 1) := by decide +kernel
theorem dX6_wouldCollect_104 : decode cX6_wouldCollect 104 = .ok (.iconst 4, 1) := by decide +kernel
theorem dX6_wouldCollect_105 : decode cX6_wouldCollect 105 = .ok (.invokevirtual 46, 3) := by decide +kernel
theorem dX6_wouldCollect_108 : decode cX6_wouldCollect 108 = .ok (.isub, 1) := by decide +kernel
theorem dX6_wouldCollect_109 : decode cX6_wouldCollect 109 = .ok (.ireturn, 1) := by decide +kernel
set_option maxRecDepth 20000 in
theorem ggX6_collected_X6_isShop : GoodIn wsX6_collected wsX6_isShop := goodIn_r _ [6, 7, 8, 9, 5, 10, 58, 59, 60, 61, 62, 63, 64, 65, 66, 67, 68, 69, 70, 71, 72, 73] (by decide +kernel) (by decide +kernel)
set_option maxRecDepth 20000 in
theorem gX6_collected_X6_isShop : GoodIn wsX6_collected (wsV RX6 92 RX6 yX6_isShop wsX6_isShop) := goodIn_app (goodIn_of _ (by decide +kernel)) ggX6_collected_X6_isShop
set_option maxRecDepth 20000 in
theorem ggX6_collected_X6_isBrand : GoodIn wsX6_collected wsX6_isBrand := goodIn_r _ [14, 7, 8, 9, 5, 10, 58, 59, 60, 61, 62, 63, 64, 65, 66, 67, 68, 69, 70, 71, 72, 73] (by decide +kernel) (by decide +kernel)
set_option maxRecDepth 20000 in
theorem gX6_collected_X6_isBrand : GoodIn wsX6_collected (wsV RX6 85 RX6 yX6_isBrand wsX6_isBrand) := goodIn_app (goodIn_of _ (by decide +kernel)) ggX6_collected_X6_isBrand
set_option maxRecDepth 20000 in
theorem ggX6_collected_X6_fails : GoodIn wsX6_collected wsX6_fails := goodIn_r _ [18, 1, 58, 59, 60, 61, 62, 63, 64, 65, 66, 67, 68, 69, 70, 71, 72, 73] (by decide +kernel) (by decide +kernel)
set_option maxRecDepth 20000 in
theorem gX6_collected_X6_fails : GoodIn wsX6_collected (wsV RX6 49 RX6 yX6_fails wsX6_fails) := goodIn_app (goodIn_of _ (by decide +kernel)) ggX6_collected_X6_fails
set_option maxRecDepth 20000 in
theorem ggX6_collected_X6_in : GoodIn wsX6_collected wsX6_in := goodIn_r _ [10] (by decide +kernel) (by decide +kernel)
set_option maxRecDepth 20000 in
theorem gX6_collected_X6_in : GoodIn wsX6_collected (va_wsS RX6 35 yX6_in wsX6_in) := goodIn_app (goodIn_of _ (by decide +kernel)) ggX6_collected_X6_in
set_option maxRecDepth 20000 in
theorem ggX6_collected_X6_wouldCollect : GoodIn wsX6_collected wsX6_wouldCollect := goodIn_r _ [22, 23, 7, 24, 25, 26, 5, 27, 28, 29, 30, 31, 32, 33, 34, 35, 36, 37, 38, 39, 40, 41, 42, 43, 44, 45, 46, 47, 48, 49, 50, 51, 52, 53, 54, 55, 56, 57, 58, 59, 60, 61, 62, 63, 64, 65, 66, 67, 68, 69, 70, 71, 72, 73] (by decide +kernel) (by decide +kernel)
set_option maxRecDepth 20000 in
theorem gX6_collected_X6_wouldCollect : GoodIn wsX6_collected (wsV RX6 193 RX6 yX6_wouldCollect wsX6_wouldCollect) := goodIn_app (goodIn_of _ (by decide +kernel)) ggX6_collected_X6_wouldCollect
theorem dX6_collected_0 : decode cX6_collected 0 = .ok (.aload_n 0, 1) := by decide +kernel
theorem dX6_collected_1 : decode cX6_collected 1 = .ok (.iconst 0, 1) := by decide +kernel
theorem dX6_collected_2 : decode cX6_collected 2 = .ok (.putfield 28, 3) := by decide +kernel
theorem dX6_collected_5 : decode cX6_collected 5 = .ok (.aload_n 0, 1) := by decide +kernel
theorem dX6_collected_6 : decode cX6_collected 6 = .ok (.iload_n 1, 1) := by decide +kernel
theorem dX6_collected_7 : decode cX6_collected 7 = .ok (.invokevirtual 92, 3) := by decide +kernel
theorem dX6_collected_10 : decode cX6_collected 10 = .ok (.ifCond .eq 11, 3) := by decide +kernel
theorem dX6_collected_13 : decode cX6_collected 13 = .ok (.aload_n 0, 1) := by decide +kernel
theorem dX6_collected_14 : decode cX6_collected 14 = .ok (.iload_n 2, 1) := by decide +kernel
theorem dX6_collected_15 : decode cX6_collected 15 = .ok (.invokevirtual 85, 3) := by decide +kernel
theorem dX6_collected_18 : decode cX6_collected 18 = .ok (.ifCond .ne 9, 3) := by decide +kernel
theorem dX6_collected_21 : decode cX6_collected 21 = .ok (.aload_n 0, 1) := by decide +kernel
theorem dX6_collected_22 : decode cX6_collected 22 = .ok (.iconst 1, 1) := by decide +kernel
theorem dX6_collected_23 : decode cX6_collected 23 = .ok (.invokevirtual 49, 3) := by decide +kernel
theorem dX6_collected_26 : decode cX6_collected 26 = .ok (.ireturn, 1) := by decide +kernel
theorem dX6_collected_27 : decode cX6_collected 27 = .ok (.iload_n 3, 1) := by decide +kernel
theorem dX6_collected_28 : decode cX6_collected 28 = .ok (.iconst 1, 1) := by decide +kernel
theorem dX6_collected_29 : decode cX6_collected 29 = .ok (.bipush 50, 2) := by decide +kernel
theorem dX6_collected_31 : decode cX6_collected 31 = .ok (.invokestatic 35, 3) := by decide +kernel
theorem dX6_collected_34 : decode cX6_collected 34 = .ok (.ifCond .eq 13, 3) := by decide +kernel
theorem dX6_collected_37 : decode cX6_collected 37 = .ok (.aload_n 0, 1) := by decide +kernel
theorem dX6_collected_38 : decode cX6_collected 38 = .ok (.iload_n 1, 1) := by decide +kernel
theorem dX6_collected_39 : decode cX6_collected 39 = .ok (.iload_n 2, 1) := by decide +kernel
theorem dX6_collected_40 : decode cX6_collected 40 = .ok (.iload_n 3, 1) := by decide +kernel
theorem dX6_collected_41 : decode cX6_collected 41 = .ok (.invokevirtual 193, 3) := by decide +kernel
theorem dX6_collected_44 : decode cX6_collected 44 = .ok (.goto 8, 3) := by decide +kernel
theorem dX6_collected_47 : decode cX6_collected 47 = .ok (.aload_n 0, 1) := by decide +kernel
theorem dX6_collected_48 : decode cX6_collected 48 = .ok (.iconst 2, 1) := by decide +kernel
theorem dX6_collected_49 : decode cX6_collected 49 = .ok (.invokevirtual 49, 3) := by decide +kernel
theorem dX6_collected_52 : decode cX6_collected 52 = .ok (.ireturn, 1) := by decide +kernel
set_option maxRecDepth 20000 in
theorem ggX6_filled_X6_isBrand : GoodIn wsX6_filled wsX6_isBrand := goodIn_r _ [6, 7, 8, 9, 5, 10, 26, 27, 28, 29, 30, 31, 32, 33, 34, 35, 36, 37, 38, 39, 40, 41] (by decide +kernel) (by decide +kernel)
set_option maxRecDepth 20000 in
theorem gX6_filled_X6_isBrand : GoodIn wsX6_filled (wsV RX6 85 RX6 yX6_isBrand wsX6_isBrand) := goodIn_app (goodIn_of _ (by decide +kernel)) ggX6_filled_X6_isBrand
set_option maxRecDepth 20000 in
theorem ggX6_filled_X6_fails : GoodIn wsX6_filled wsX6_fails := goodIn_r _ [14, 1, 26, 27, 28, 29, 30, 31, 32, 33, 34, 35, 36, 37, 38, 39, 40, 41] (by decide +kernel) (by decide +kernel)
set_option maxRecDepth 20000 in
theorem gX6_filled_X6_fails : GoodIn wsX6_filled (wsV RX6 49 RX6 yX6_fails wsX6_fails) := goodIn_app (goodIn_of _ (by decide +kernel)) ggX6_filled_X6_fails
set_option maxRecDepth 20000 in
theorem ggX6_filled_X6_in : GoodIn wsX6_filled wsX6_in := goodIn_r _ [10] (by decide +kernel) (by decide +kernel)
set_option maxRecDepth 20000 in
theorem gX6_filled_X6_in : GoodIn wsX6_filled (va_wsS RX6 35 yX6_in wsX6_in) := goodIn_app (goodIn_of _ (by decide +kernel)) ggX6_filled_X6_in
set_option maxRecDepth 20000 in
theorem ggX6_filled_X6_full : GoodIn wsX6_filled wsX6_full := goodIn_r _ [18, 7, 19, 20, 21, 5, 22, 23, 24, 25, 26, 27, 28, 29, 30, 31, 32, 33, 34, 35, 36, 37, 38, 39, 40, 41] (by decide +kernel) (by decide +kernel)
set_option maxRecDepth 20000 in
theorem gX6_filled_X6_full : GoodIn wsX6_filled (wsV RX6 64 RX6 yX6_full wsX6_full) := goodIn_app (goodIn_of _ (by decide +kernel)) ggX6_filled_X6_full
theorem dX6_filled_0 : decode cX6_filled 0 = .ok (.aload_n 0, 1) := by decide +kernel
theorem dX6_filled_1 : decode cX6_filled 1 = .ok (.iconst 0, 1) := by decide +kernel
theorem dX6_filled_2 : decode cX6_filled 2 = .ok (.putfield 28, 3) := by decide +kernel
theorem dX6_filled_5 : decode cX6_filled 5 = .ok (.aload_n 0, 1) := by decide +kernel
theorem dX6_filled_6 : decode cX6_filled 6 = .ok (.iload_n 1, 1) := by decide +kernel
theorem dX6_filled_7 : decode cX6_filled 7 = .ok (.invokevirtual 85, 3) := by decide +kernel
theorem dX6_filled_10 : decode cX6_filled 10 = .ok (.ifCond .ne 9, 3) := by decide +kernel
theorem dX6_filled_13 : decode cX6_filled 13 = .ok (.aload_n 0, 1) := by decide +kernel
theorem dX6_filled_14 : decode cX6_filled 14 = .ok (.iconst 1, 1) := by decide +kernel
theorem dX6_filled_15 : decode cX6_filled 15 = .ok (.invokevirtual 49, 3) := by decide +kernel
theorem dX6_filled_18 : decode cX6_filled 18 = .ok (.ireturn, 1) := by decide +kernel
theorem dX6_filled_19 : decode cX6_filled 19 = .ok (.iload_n 2, 1) := by decide +kernel
theorem dX6_filled_20 : decode cX6_filled 20 = .ok (.iconst 1, 1) := by decide +kernel
theorem dX6_filled_21 : decode cX6_filled 21 = .ok (.sipush 5000, 3) := by decide +kernel
theorem dX6_filled_24 : decode cX6_filled 24 = .ok (.invokestatic 35, 3) := by decide +kernel
theorem dX6_filled_27 : decode cX6_filled 27 = .ok (.ifCond .eq 12, 3) := by decide +kernel
theorem dX6_filled_30 : decode cX6_filled 30 = .ok (.aload_n 0, 1) := by decide +kernel
theorem dX6_filled_31 : decode cX6_filled 31 = .ok (.iload_n 1, 1) := by decide +kernel
theorem dX6_filled_32 : decode cX6_filled 32 = .ok (.iload_n 2, 1) := by decide +kernel
theorem dX6_filled_33 : decode cX6_filled 33 = .ok (.invokevirtual 64, 3) := by decide +kernel
theorem dX6_filled_36 : decode cX6_filled 36 = .ok (.goto 8, 3) := by decide +kernel
theorem dX6_filled_39 : decode cX6_filled 39 = .ok (.aload_n 0, 1) := by decide +kernel
theorem dX6_filled_40 : decode cX6_filled 40 = .ok (.iconst 2, 1) := by decide +kernel
theorem dX6_filled_41 : decode cX6_filled 41 = .ok (.invokevirtual 49, 3) := by decide +kernel
theorem dX6_filled_44 : decode cX6_filled 44 = .ok (.ireturn, 1) := by decide +kernel
set_option maxRecDepth 20000 in
theorem ggX6_shopFor_X6_emptiesOf : GoodIn wsX6_shopFor wsX6_emptiesOf := goodIn_r _ [6, 1, 7, 8, 9, 5, 10, 11, 12, 13, 14, 15, 16, 17, 18, 19, 20, 24, 25, 26, 27, 28, 29, 30, 31, 32, 33, 34, 35, 36, 37, 38, 39] (by decide +kernel) (by decide +kernel)
set_option maxRecDepth 20000 in
theorem gX6_shopFor_X6_emptiesOf : GoodIn wsX6_shopFor (wsV RX6 79 RX6 yX6_emptiesOf wsX6_emptiesOf) := goodIn_app (goodIn_of _ (by decide +kernel)) ggX6_shopFor_X6_emptiesOf
set_option maxRecDepth 20000 in
theorem ggX6_shopFor_X6_ofShop : GoodIn wsX6_shopFor wsX6_ofShop := goodIn_r _ [17, 1, 18, 19, 5, 20, 24, 25, 26, 27, 28, 29, 30, 31, 32, 33, 34, 35, 36, 37, 38, 39] (by decide +kernel) (by decide +kernel)
set_option maxRecDepth 20000 in
theorem gX6_shopFor_X6_ofShop : GoodIn wsX6_shopFor (wsV RX6 57 RX6 yX6_ofShop wsX6_ofShop) := goodIn_app (goodIn_of _ (by decide +kernel)) ggX6_shopFor_X6_ofShop
set_option maxRecDepth 20000 in
theorem ggX6_shopFor_X6_least : GoodIn wsX6_shopFor wsX6_least := goodIn_r _ [23] (by decide +kernel) (by decide +kernel)
set_option maxRecDepth 20000 in
theorem gX6_shopFor_X6_least : GoodIn wsX6_shopFor (va_wsS RX6 76 yX6_least wsX6_least) := goodIn_app (goodIn_of _ (by decide +kernel)) ggX6_shopFor_X6_least
theorem dX6_shopFor_0 : decode cX6_shopFor 0 = .ok (.iconst (-1), 1) := by decide +kernel
theorem dX6_shopFor_1 : decode cX6_shopFor 1 = .ok (.istore_n 2, 1) := by decide +kernel
theorem dX6_shopFor_2 : decode cX6_shopFor 2 = .ok (.iconst 0, 1) := by decide +kernel
theorem dX6_shopFor_3 : decode cX6_shopFor 3 = .ok (.istore_n 3, 1) := by decide +kernel
theorem dX6_shopFor_4 : decode cX6_shopFor 4 = .ok (.iconst 0, 1) := by decide +kernel
theorem dX6_shopFor_5 : decode cX6_shopFor 5 = .ok (.istore 4, 2) := by decide +kernel
theorem dX6_shopFor_7 : decode cX6_shopFor 7 = .ok (.iload 4, 2) := by decide +kernel
theorem dX6_shopFor_9 : decode cX6_shopFor 9 = .ok (.aload_n 0, 1) := by decide +kernel
theorem dX6_shopFor_10 : decode cX6_shopFor 10 = .ok (.getfield 7, 3) := by decide +kernel
theorem dX6_shopFor_13 : decode cX6_shopFor 13 = .ok (.iconst 1, 1) := by decide +kernel
theorem dX6_shopFor_14 : decode cX6_shopFor 14 = .ok (.iaload, 1) := by decide +kernel
theorem dX6_shopFor_15 : decode cX6_shopFor 15 = .ok (.if_icmp .ge 62, 3) := by decide +kernel
theorem dX6_shopFor_18 : decode cX6_shopFor 18 = .ok (.bipush 50, 2) := by decide +kernel
theorem dX6_shopFor_20 : decode cX6_shopFor 20 = .ok (.aload_n 0, 1) := by decide +kernel
theorem dX6_shopFor_21 : decode cX6_shopFor 21 = .ok (.iload 4, 2) := by decide +kernel
theorem dX6_shopFor_23 : decode cX6_shopFor 23 = .ok (.iload_n 1, 1) := by decide +kernel
theorem dX6_shopFor_24 : decode cX6_shopFor 24 = .ok (.invokevirtual 79, 3) := by decide +kernel
theorem dX6_shopFor_27 : decode cX6_shopFor 27 = .ok (.bipush 12, 2) := by decide +kernel
theorem dX6_shopFor_29 : decode cX6_shopFor 29 = .ok (.idiv, 1) := by decide +kernel
theorem dX6_shopFor_30 : decode cX6_shopFor 30 = .ok (.aload_n 0, 1) := by decide +kernel
theorem dX6_shopFor_31 : decode cX6_shopFor 31 = .ok (.iload 4, 2) := by decide +kernel
theorem dX6_shopFor_33 : decode cX6_shopFor 33 = .ok (.iconst 1, 1) := by decide +kernel
theorem dX6_shopFor_34 : decode cX6_shopFor 34 = .ok (.invokevirtual 57, 3) := by decide +kernel
theorem dX6_shopFor_37 : decode cX6_shopFor 37 = .ok (.invokestatic 76, 3) := by decide +kernel
theorem dX6_shopFor_40 : decode cX6_shopFor 40 = .ok (.invokestatic 76, 3) := by decide +kernel
theorem dX6_shopFor_43 : decode cX6_shopFor 43 = .ok (.istore 5, 2) := by decide +kernel
theorem dX6_shopFor_45 : decode cX6_shopFor 45 = .ok (.iload 5, 2) := by decide +kernel
theorem dX6_shopFor_47 : decode cX6_shopFor 47 = .ok (.iload_n 3, 1) := by decide +kernel
theorem dX6_shopFor_48 : decode cX6_shopFor 48 = .ok (.if_icmp .le 8, 3) := by decide +kernel
theorem dX6_shopFor_51 : decode cX6_shopFor 51 = .ok (.iload 4, 2) := by decide +kernel
theorem dX6_shopFor_53 : decode cX6_shopFor 53 = .ok (.goto 4, 3) := by decide +kernel
theorem dX6_shopFor_56 : decode cX6_shopFor 56 = .ok (.iload_n 2, 1) := by decide +kernel
theorem dX6_shopFor_57 : decode cX6_shopFor 57 = .ok (.istore_n 2, 1) := by decide +kernel
theorem dX6_shopFor_58 : decode cX6_shopFor 58 = .ok (.iload 5, 2) := by decide +kernel
theorem dX6_shopFor_60 : decode cX6_shopFor 60 = .ok (.iload_n 3, 1) := by decide +kernel
theorem dX6_shopFor_61 : decode cX6_shopFor 61 = .ok (.if_icmp .le 8, 3) := by decide +kernel
theorem dX6_shopFor_64 : decode cX6_shopFor 64 = .ok (.iload 5, 2) := by decide +kernel
theorem dX6_shopFor_66 : decode cX6_shopFor 66 = .ok (.goto 4, 3) := by decide +kernel
theorem dX6_shopFor_69 : decode cX6_shopFor 69 = .ok (.iload_n 3, 1) := by decide +kernel
theorem dX6_shopFor_70 : decode cX6_shopFor 70 = .ok (.istore_n 3, 1) := by decide +kernel
theorem dX6_shopFor_71 : decode cX6_shopFor 71 = .ok (.iinc 4 1, 3) := by decide +kernel
theorem dX6_shopFor_74 : decode cX6_shopFor 74 = .ok (.goto (-67), 3) := by decide +kernel
theorem dX6_shopFor_77 : decode cX6_shopFor 77 = .ok (.iload_n 2, 1) := by decide +kernel
theorem dX6_shopFor_78 : decode cX6_shopFor 78 = .ok (.ireturn, 1) := by decide +kernel
set_option maxRecDepth 20000 in
theorem ggX6_bestShop_X6_in : GoodIn wsX6_bestShop wsX6_in := goodIn_r _ [5] (by decide +kernel) (by decide +kernel)
set_option maxRecDepth 20000 in
theorem gX6_bestShop_X6_in : GoodIn wsX6_bestShop (va_wsS RX6 35 yX6_in wsX6_in) := goodIn_app (goodIn_of _ (by decide +kernel)) ggX6_bestShop_X6_in
set_option maxRecDepth 20000 in
theorem ggX6_bestShop_X6_shopFor : GoodIn wsX6_bestShop wsX6_shopFor := goodIn_r _ [9, 10, 11, 12, 13, 4, 14, 15, 16, 17, 18, 19, 20, 21, 22, 23, 24, 25, 26, 27, 28, 29, 30, 31, 36, 37, 38, 39, 40, 41, 42, 43, 44, 45, 46, 47, 48, 49, 50, 51] (by decide +kernel) (by decide +kernel)
set_option maxRecDepth 20000 in
theorem gX6_bestShop_X6_shopFor : GoodIn wsX6_bestShop (wsV RX6 196 RX6 yX6_shopFor wsX6_shopFor) := goodIn_app (goodIn_of _ (by decide +kernel)) ggX6_bestShop_X6_shopFor
set_option maxRecDepth 20000 in
theorem ggX6_bestShop_X6_fails : GoodIn wsX6_bestShop wsX6_fails := goodIn_r _ [35, 1, 36, 37, 38, 39, 40, 41, 42, 43, 44, 45, 46, 47, 48, 49, 50, 51] (by decide +kernel) (by decide +kernel)
set_option maxRecDepth 20000 in
theorem gX6_bestShop_X6_fails : GoodIn wsX6_bestShop (wsV RX6 49 RX6 yX6_fails wsX6_fails) := goodIn_app (goodIn_of _ (by decide +kernel)) ggX6_bestShop_X6_fails
theorem dX6_bestShop_0 : decode cX6_bestShop 0 = .ok (.aload_n 0, 1) := by decide +kernel
theorem dX6_bestShop_1 : decode cX6_bestShop 1 = .ok (.iconst 0, 1) := by decide +kernel
theorem dX6_bestShop_2 : decode cX6_bestShop 2 = .ok (.putfield 28, 3) := by decide +kernel
theorem dX6_bestShop_5 : decode cX6_bestShop 5 = .ok (.iload_n 1, 1) := by decide +kernel
theorem dX6_bestShop_6 : decode cX6_bestShop 6 = .ok (.iconst 0, 1) := by decide +kernel
theorem dX6_bestShop_7 : decode cX6_bestShop 7 = .ok (.iconst 2, 1) := by decide +kernel
theorem dX6_bestShop_8 : decode cX6_bestShop 8 = .ok (.invokestatic 35, 3) := by decide +kernel
theorem dX6_bestShop_11 : decode cX6_bestShop 11 = .ok (.ifCond .eq 11, 3) := by decide +kernel
theorem dX6_bestShop_14 : decode cX6_bestShop 14 = .ok (.aload_n 0, 1) := by decide +kernel
theorem dX6_bestShop_15 : decode cX6_bestShop 15 = .ok (.iload_n 1, 1) := by decide +kernel
theorem dX6_bestShop_16 : decode cX6_bestShop 16 = .ok (.invokevirtual 196, 3) := by decide +kernel
theorem dX6_bestShop_19 : decode cX6_bestShop 19 = .ok (.goto 8, 3) := by decide +kernel
theorem dX6_bestShop_22 : decode cX6_bestShop 22 = .ok (.aload_n 0, 1) := by decide +kernel
theorem dX6_bestShop_23 : decode cX6_bestShop 23 = .ok (.iconst 1, 1) := by decide +kernel
theorem dX6_bestShop_24 : decode cX6_bestShop 24 = .ok (.invokevirtual 49, 3) := by decide +kernel
theorem dX6_bestShop_27 : decode cX6_bestShop 27 = .ok (.ireturn, 1) := by decide +kernel
set_option maxRecDepth 20000 in
theorem ggX6_gone_X6_aboutBrand : GoodIn wsX6_gone wsX6_aboutBrand := goodIn_r _ [6, 7, 8, 9, 5, 10, 1, 11, 12, 13, 14, 15, 16, 17, 18, 19, 20, 21, 22, 23, 24, 25, 26, 27, 28, 29, 30, 31, 32, 33, 34, 35, 36, 37, 38, 39, 40] (by decide +kernel) (by decide +kernel)
set_option maxRecDepth 20000 in
theorem gX6_gone_X6_aboutBrand : GoodIn wsX6_gone (wsV RX6 179 RX6 yX6_aboutBrand wsX6_aboutBrand) := goodIn_app (goodIn_of _ (by decide +kernel)) ggX6_gone_X6_aboutBrand
theorem dX6_gone_0 : decode cX6_gone 0 = .ok (.iconst 0, 1) := by decide +kernel
theorem dX6_gone_1 : decode cX6_gone 1 = .ok (.istore_n 1, 1) := by decide +kernel
theorem dX6_gone_2 : decode cX6_gone 2 = .ok (.iconst 0, 1) := by decide +kernel
theorem dX6_gone_3 : decode cX6_gone 3 = .ok (.istore_n 2, 1) := by decide +kernel
theorem dX6_gone_4 : decode cX6_gone 4 = .ok (.iconst 0, 1) := by decide +kernel
theorem dX6_gone_5 : decode cX6_gone 5 = .ok (.istore_n 3, 1) := by decide +kernel
theorem dX6_gone_6 : decode cX6_gone 6 = .ok (.iload_n 3, 1) := by decide +kernel
theorem dX6_gone_7 : decode cX6_gone 7 = .ok (.aload_n 0, 1) := by decide +kernel
theorem dX6_gone_8 : decode cX6_gone 8 = .ok (.getfield 7, 3) := by decide +kernel
theorem dX6_gone_11 : decode cX6_gone 11 = .ok (.iconst 0, 1) := by decide +kernel
theorem dX6_gone_12 : decode cX6_gone 12 = .ok (.iaload, 1) := by decide +kernel
theorem dX6_gone_13 : decode cX6_gone 13 = .ok (.if_icmp .ge 56, 3) := by decide +kernel
theorem dX6_gone_16 : decode cX6_gone 16 = .ok (.iconst 1, 1) := by decide +kernel
theorem dX6_gone_17 : decode cX6_gone 17 = .ok (.istore 4, 2) := by decide +kernel
theorem dX6_gone_19 : decode cX6_gone 19 = .ok (.iload 4, 2) := by decide +kernel
theorem dX6_gone_21 : decode cX6_gone 21 = .ok (.bipush 10, 2) := by decide +kernel
theorem dX6_gone_23 : decode cX6_gone 23 = .ok (.if_icmp .ge 40, 3) := by decide +kernel
theorem dX6_gone_26 : decode cX6_gone 26 = .ok (.iload_n 1, 1) := by decide +kernel
theorem dX6_gone_27 : decode cX6_gone 27 = .ok (.aload_n 0, 1) := by decide +kernel
theorem dX6_gone_28 : decode cX6_gone 28 = .ok (.iload_n 3, 1) := by decide +kernel
theorem dX6_gone_29 : decode cX6_gone 29 = .ok (.iload 4, 2) := by decide +kernel
theorem dX6_gone_31 : decode cX6_gone 31 = .ok (.invokevirtual 179, 3) := by decide +kernel
theorem dX6_gone_34 : decode cX6_gone 34 = .ok (.iadd, 1) := by decide +kernel
theorem dX6_gone_35 : decode cX6_gone 35 = .ok (.istore_n 1, 1) := by decide +kernel
theorem dX6_gone_36 : decode cX6_gone 36 = .ok (.iload_n 2, 1) := by decide +kernel
theorem dX6_gone_37 : decode cX6_gone 37 = .ok (.iload 4, 2) := by decide +kernel
theorem dX6_gone_39 : decode cX6_gone 39 = .ok (.bipush 6, 2) := by decide +kernel
theorem dX6_gone_41 : decode cX6_gone 41 = .ok (.if_icmp .le 13, 3) := by decide +kernel
theorem dX6_gone_44 : decode cX6_gone 44 = .ok (.aload_n 0, 1) := by decide +kernel
theorem dX6_gone_45 : decode cX6_gone 45 = .ok (.iload_n 3, 1) := by decide +kernel
theorem dX6_gone_46 : decode cX6_gone 46 = .ok (.iload 4, 2) := by decide +kernel
theorem dX6_gone_48 : decode cX6_gone 48 = .ok (.invokevirtual 179, 3) := by decide +kernel
theorem dX6_gone_51 : decode cX6_gone 51 = .ok (.goto 4, 3) := by decide +kernel
theorem dX6_gone_54 : decode cX6_gone 54 = .ok (.iconst 0, 1) := by decide +kernel
theorem dX6_gone_55 : decode cX6_gone 55 = .ok (.iadd, 1) := by decide +kernel
theorem dX6_gone_56 : decode cX6_gone 56 = .ok (.istore_n 2, 1) := by decide +kernel
theorem dX6_gone_57 : decode cX6_gone 57 = .ok (.iinc 4 1, 3) := by decide +kernel
theorem dX6_gone_60 : decode cX6_gone 60 = .ok (.goto (-41), 3) := by decide +kernel
theorem dX6_gone_63 : decode cX6_gone 63 = .ok (.iinc 3 1, 3) := by decide +kernel
theorem dX6_gone_66 : decode cX6_gone 66 = .ok (.goto (-60), 3) := by decide +kernel
theorem dX6_gone_69 : decode cX6_gone 69 = .ok (.iload_n 1, 1) := by decide +kernel
theorem dX6_gone_70 : decode cX6_gone 70 = .ok (.ifCond .ne 7, 3) := by decide +kernel
theorem dX6_gone_73 : decode cX6_gone 73 = .ok (.dconst 0, 1) := by decide +kernel
theorem dX6_gone_74 : decode cX6_gone 74 = .ok (.goto 8, 3) := by decide +kernel
theorem dX6_gone_77 : decode cX6_gone 77 = .ok (.iload_n 2, 1) := by decide +kernel
theorem dX6_gone_78 : decode cX6_gone 78 = .ok (.i2d, 1) := by decide +kernel
theorem dX6_gone_79 : decode cX6_gone 79 = .ok (.iload_n 1, 1) := by decide +kernel
theorem dX6_gone_80 : decode cX6_gone 80 = .ok (.i2d, 1) := by decide +kernel
theorem dX6_gone_81 : decode cX6_gone 81 = .ok (.ddiv, 1) := by decide +kernel
theorem dX6_gone_82 : decode cX6_gone 82 = .ok (.dreturn, 1) := by decide +kernel
set_option maxRecDepth 20000 in
theorem ggX6_goneShare_X6_gone : GoodIn wsX6_goneShare wsX6_gone := goodIn_r _ [6, 7, 8, 9, 10, 5, 11, 12, 13, 14, 15, 16, 17, 18, 19, 20, 21, 22, 23, 24, 25, 26, 27, 28, 29, 30, 31, 32, 33, 34, 35, 36, 37, 38, 39, 40, 41, 42, 43, 44, 45] (by decide +kernel) (by decide +kernel)
set_option maxRecDepth 20000 in
theorem gX6_goneShare_X6_gone : GoodIn wsX6_goneShare (wsV RX6 199 RX6 yX6_gone wsX6_gone) := goodIn_app (goodIn_of _ (by decide +kernel)) ggX6_goneShare_X6_gone
theorem dX6_goneShare_0 : decode cX6_goneShare 0 = .ok (.aload_n 0, 1) := by decide +kernel
theorem dX6_goneShare_1 : decode cX6_goneShare 1 = .ok (.iconst 0, 1) := by decide +kernel
theorem dX6_goneShare_2 : decode cX6_goneShare 2 = .ok (.putfield 28, 3) := by decide +kernel
theorem dX6_goneShare_5 : decode cX6_goneShare 5 = .ok (.aload_n 0, 1) := by decide +kernel
theorem dX6_goneShare_6 : decode cX6_goneShare 6 = .ok (.invokevirtual 199, 3) := by decide +kernel
theorem dX6_goneShare_9 : decode cX6_goneShare 9 = .ok (.dreturn, 1) := by decide +kernel
set_option maxRecDepth 20000 in
theorem ggX6_digest_X6_number : GoodIn wsX6_digest wsX6_number := goodIn_r _ [11, 4, 12, 13, 14, 15, 10, 16, 17, 18, 19, 20, 21, 22, 23, 24, 25, 26, 27, 28, 29, 30, 111, 112, 113, 114, 115, 116, 117, 118, 119, 120, 121, 122, 123, 124, 125, 126] (by decide +kernel) (by decide +kernel)
set_option maxRecDepth 20000 in
theorem gX6_digest_X6_number : GoodIn wsX6_digest (wsV RX6 188 RX6 yX6_number wsX6_number) := goodIn_app (goodIn_of _ (by decide +kernel)) ggX6_digest_X6_number
set_option maxRecDepth 20000 in
theorem ggX6_digest_X6_aboutBrand : GoodIn wsX6_digest wsX6_aboutBrand := goodIn_r _ [34, 13, 14, 15, 10, 16, 4, 17, 18, 19, 35, 36, 37, 38, 24, 25, 26, 27, 28, 29, 30, 111, 112, 113, 114, 115, 116, 117, 118, 119, 120, 121, 122, 123, 124, 125, 126] (by decide +kernel) (by decide +kernel)
set_option maxRecDepth 20000 in
theorem gX6_digest_X6_aboutBrand : GoodIn wsX6_digest (wsV RX6 179 RX6 yX6_aboutBrand wsX6_aboutBrand) := goodIn_app (goodIn_of _ (by decide +kernel)) ggX6_digest_X6_aboutBrand
set_option maxRecDepth 20000 in
theorem ggX6_digest_X6_full : GoodIn wsX6_digest wsX6_full := goodIn_r _ [42, 4, 13, 14, 15, 10, 16, 17, 18, 19, 111, 112, 113, 114, 115, 116, 117, 118, 119, 120, 121, 122, 123, 124, 125, 126] (by decide +kernel) (by decide +kernel)
set_option maxRecDepth 20000 in
theorem gX6_digest_X6_full : GoodIn wsX6_digest (wsV RX6 64 RX6 yX6_full wsX6_full) := goodIn_app (goodIn_of _ (by decide +kernel)) ggX6_digest_X6_full
set_option maxRecDepth 20000 in
theorem ggX6_digest_X6_deliverable : GoodIn wsX6_digest wsX6_deliverable := goodIn_r _ [46, 47, 48, 49, 10, 50, 4, 13, 14, 15, 16, 17, 18, 19, 24, 25, 26, 27, 28, 29, 30, 51, 52, 53, 54, 55, 56, 57, 58, 111, 112, 113, 114, 115, 116, 117, 118, 119, 120, 121, 122, 123, 124, 125, 126] (by decide +kernel) (by decide +kernel)
set_option maxRecDepth 20000 in
theorem gX6_digest_X6_deliverable : GoodIn wsX6_digest (wsV RX6 190 RX6 yX6_deliverable wsX6_deliverable) := goodIn_app (goodIn_of _ (by decide +kernel)) ggX6_digest_X6_deliverable
set_option maxRecDepth 20000 in
theorem ggX6_digest_X6_aboutShop : GoodIn wsX6_digest wsX6_aboutShop := goodIn_r _ [62, 24, 25, 26, 10, 27, 4, 28, 29, 30, 63, 64, 65, 66, 111, 112, 113, 114, 115, 116, 117, 118, 119, 120, 121, 122, 123, 124, 125, 126] (by decide +kernel) (by decide +kernel)
set_option maxRecDepth 20000 in
theorem gX6_digest_X6_aboutShop : GoodIn wsX6_digest (wsV RX6 185 RX6 yX6_aboutShop wsX6_aboutShop) := goodIn_app (goodIn_of _ (by decide +kernel)) ggX6_digest_X6_aboutShop
set_option maxRecDepth 20000 in
theorem ggX6_digest_X6_shopFor : GoodIn wsX6_digest wsX6_shopFor := goodIn_r _ [70, 4, 71, 72, 73, 10, 74, 13, 14, 15, 16, 17, 18, 19, 24, 25, 26, 27, 28, 29, 30, 75, 76, 77, 111, 112, 113, 114, 115, 116, 117, 118, 119, 120, 121, 122, 123, 124, 125, 126] (by decide +kernel) (by decide +kernel)
set_option maxRecDepth 20000 in
theorem gX6_digest_X6_shopFor : GoodIn wsX6_digest (wsV RX6 196 RX6 yX6_shopFor wsX6_shopFor) := goodIn_app (goodIn_of _ (by decide +kernel)) ggX6_digest_X6_shopFor
set_option maxRecDepth 20000 in
theorem ggX6_digest_X6_wouldCollect : GoodIn wsX6_digest wsX6_wouldCollect := goodIn_r _ [81, 82, 4, 13, 14, 15, 10, 16, 17, 18, 19, 83, 84, 85, 86, 71, 72, 73, 74, 24, 25, 26, 27, 28, 29, 30, 87, 88, 89, 90, 91, 92, 93, 94, 55, 56, 57, 58, 111, 112, 113, 114, 115, 116, 117, 118, 119, 120, 121, 122, 123, 124, 125, 126] (by decide +kernel) (by decide +kernel)
set_option maxRecDepth 20000 in
theorem gX6_digest_X6_wouldCollect : GoodIn wsX6_digest (wsV RX6 193 RX6 yX6_wouldCollect wsX6_wouldCollect) := goodIn_app (goodIn_of _ (by decide +kernel)) ggX6_digest_X6_wouldCollect
set_option maxRecDepth 20000 in
theorem ggX6_digest_X6_gone : GoodIn wsX6_digest wsX6_gone := goodIn_r _ [98, 4, 31, 32, 33, 10, 34, 13, 14, 15, 16, 17, 18, 19, 35, 36, 37, 38, 24, 25, 26, 27, 28, 29, 30, 111, 112, 113, 114, 115, 116, 117, 118, 119, 120, 121, 122, 123, 124, 125, 126] (by decide +kernel) (by decide +kernel)
set_option maxRecDepth 20000 in
theorem gX6_digest_X6_gone : GoodIn wsX6_digest (wsV RX6 199 RX6 yX6_gone wsX6_gone) := goodIn_app (goodIn_of _ (by decide +kernel)) ggX6_digest_X6_gone
set_option maxRecDepth 20000 in
theorem ggX6_digest_Jxe99ae_doubleToLongBits_ccdee : GoodIn wsX6_digest wsJxe99ae_doubleToLongBits_ccdee := goodIn_r _ [102, 103, 104, 105, 106, 107, 108, 109, 101, 110] (by decide +kernel) (by decide +kernel)
set_option maxRecDepth 20000 in
theorem gX6_digest_Jxe99ae_doubleToLongBits_ccdee : GoodIn wsX6_digest (va_wsS RX6 207 yJxe99ae_doubleToLongBits_ccdee wsJxe99ae_doubleToLongBits_ccdee) := goodIn_app (goodIn_of _ (by decide +kernel)) ggX6_digest_Jxe99ae_doubleToLongBits_ccdee
theorem dX6_digest_0 : decode cX6_digest 0 = .ok (.aload_n 0, 1) := by decide +kernel
theorem dX6_digest_1 : decode cX6_digest 1 = .ok (.iconst 0, 1) := by decide +kernel
theorem dX6_digest_2 : decode cX6_digest 2 = .ok (.putfield 28, 3) := by decide +kernel
theorem dX6_digest_5 : decode cX6_digest 5 = .ok (.ldc2_w 203, 3) := by decide +kernel
theorem dX6_digest_8 : decode cX6_digest 8 = .ok (.lstore_n 1, 1) := by decide +kernel
theorem dX6_digest_9 : decode cX6_digest 9 = .ok (.iconst 0, 1) := by decide +kernel
theorem dX6_digest_10 : decode cX6_digest 10 = .ok (.istore_n 3, 1) := by decide +kernel
theorem dX6_digest_11 : decode cX6_digest 11 = .ok (.iload_n 3, 1) := by decide +kernel
theorem dX6_digest_12 : decode cX6_digest 12 = .ok (.bipush 11, 2) := by decide +kernel
theorem dX6_digest_14 : decode cX6_digest 14 = .ok (.if_icmp .ge 22, 3) := by decide +kernel
theorem dX6_digest_17 : decode cX6_digest 17 = .ok (.ldc2_w 205, 3) := by decide +kernel
theorem dX6_digest_20 : decode cX6_digest 20 = .ok (.lload_n 1, 1) := by decide +kernel
theorem dX6_digest_21 : decode cX6_digest 21 = .ok (.lmul, 1) := by decide +kernel
theorem dX6_digest_22 : decode cX6_digest 22 = .ok (.aload_n 0, 1) := by decide +kernel
theorem dX6_digest_23 : decode cX6_digest 23 = .ok (.iload_n 3, 1) := by decide +kernel
theorem dX6_digest_24 : decode cX6_digest 24 = .ok (.invokevirtual 188, 3) := by decide +kernel
theorem dX6_digest_27 : decode cX6_digest 27 = .ok (.i2l, 1) := by decide +kernel
theorem dX6_digest_28 : decode cX6_digest 28 = .ok (.ladd, 1) := by decide +kernel
theorem dX6_digest_29 : decode cX6_digest 29 = .ok (.lstore_n 1, 1) := by decide +kernel
theorem dX6_digest_30 : decode cX6_digest 30 = .ok (.iinc 3 1, 3) := by decide +kernel
theorem dX6_digest_33 : decode cX6_digest 33 = .ok (.goto (-22), 3) := by decide +kernel
theorem dX6_digest_36 : decode cX6_digest 36 = .ok (.iconst 0, 1) := by decide +kernel
theorem dX6_digest_37 : decode cX6_digest 37 = .ok (.istore_n 3, 1) := by decide +kernel
theorem dX6_digest_38 : decode cX6_digest 38 = .ok (.iload_n 3, 1) := by decide +kernel
theorem dX6_digest_39 : decode cX6_digest 39 = .ok (.bipush 6, 2) := by decide +kernel
theorem dX6_digest_41 : decode cX6_digest 41 = .ok (.if_icmp .ge 26, 3) := by decide +kernel
theorem dX6_digest_44 : decode cX6_digest 44 = .ok (.ldc2_w 205, 3) := by decide +kernel
theorem dX6_digest_47 : decode cX6_digest 47 = .ok (.lload_n 1, 1) := by decide +kernel
theorem dX6_digest_48 : decode cX6_digest 48 = .ok (.lmul, 1) := by decide +kernel
theorem dX6_digest_49 : decode cX6_digest 49 = .ok (.aload_n 0, 1) := by decide +kernel
theorem dX6_digest_50 : decode cX6_digest 50 = .ok (.getfield 7, 3) := by decide +kernel
theorem dX6_digest_53 : decode cX6_digest 53 = .ok (.bipush 7, 2) := by decide +kernel
theorem dX6_digest_55 : decode cX6_digest 55 = .ok (.iload_n 3, 1) := by decide +kernel
theorem dX6_digest_56 : decode cX6_digest 56 = .ok (.iadd, 1) := by decide +kernel
theorem dX6_digest_57 : decode cX6_digest 57 = .ok (.iaload, 1) := by decide +kernel
theorem dX6_digest_58 : decode cX6_digest 58 = .ok (.i2l, 1) := by decide +kernel
theorem dX6_digest_59 : decode cX6_digest 59 = .ok (.ladd, 1) := by decide +kernel
theorem dX6_digest_60 : decode cX6_digest 60 = .ok (.lstore_n 1, 1) := by decide +kernel
theorem dX6_digest_61 : decode cX6_digest 61 = .ok (.iinc 3 1, 3) := by decide +kernel
theorem dX6_digest_64 : decode cX6_digest 64 = .ok (.goto (-26), 3) := by decide +kernel
theorem dX6_digest_67 : decode cX6_digest 67 = .ok (.iconst 0, 1) := by decide +kernel
theorem dX6_digest_68 : decode cX6_digest 68 = .ok (.istore_n 3, 1) := by decide +kernel
theorem dX6_digest_69 : decode cX6_digest 69 = .ok (.iload_n 3, 1) := by decide +kernel
theorem dX6_digest_70 : decode cX6_digest 70 = .ok (.aload_n 0, 1) := by decide +kernel
theorem dX6_digest_71 : decode cX6_digest 71 = .ok (.getfield 7, 3) := by decide +kernel
theorem dX6_digest_74 : decode cX6_digest 74 = .ok (.iconst 0, 1) := by decide +kernel
theorem dX6_digest_75 : decode cX6_digest 75 = .ok (.iaload, 1) := by decide +kernel
theorem dX6_digest_76 : decode cX6_digest 76 = .ok (.if_icmp .ge 90, 3) := by decide +kernel
theorem dX6_digest_79 : decode cX6_digest 79 = .ok (.iconst 0, 1) := by decide +kernel
theorem dX6_digest_80 : decode cX6_digest 80 = .ok (.istore 4, 2) := by decide +kernel
theorem dX6_digest_82 : decode cX6_digest 82 = .ok (.iload 4, 2) := by decide +kernel
theorem dX6_digest_84 : decode cX6_digest 84 = .ok (.bipush 12, 2) := by decide +kernel
theorem dX6_digest_86 : decode cX6_digest 86 = .ok (.if_icmp .ge 24, 3) := by decide +kernel
theorem dX6_digest_89 : decode cX6_digest 89 = .ok (.ldc2_w 205, 3) := by decide +kernel
theorem dX6_digest_92 : decode cX6_digest 92 = .ok (.lload_n 1, 1) := by decide +kernel
theorem dX6_digest_93 : decode cX6_digest 93 = .ok (.lmul, 1) := by decide +kernel
theorem dX6_digest_94 : decode cX6_digest 94 = .ok (.aload_n 0, 1) := by decide +kernel
theorem dX6_digest_95 : decode cX6_digest 95 = .ok (.iload_n 3, 1) := by decide +kernel
theorem dX6_digest_96 : decode cX6_digest 96 = .ok (.iload 4, 2) := by decide +kernel
theorem dX6_digest_98 : decode cX6_digest 98 = .ok (.invokevirtual 179, 3) := by decide +kernel
theorem dX6_digest_101 : decode cX6_digest 101 = .ok (.i2l, 1) := by decide +kernel
theorem dX6_digest_102 : decode cX6_digest 102 = .ok (.ladd, 1) := by decide +kernel
theorem dX6_digest_103 : decode cX6_digest 103 = .ok (.lstore_n 1, 1) := by decide +kernel
theorem dX6_digest_104 : decode cX6_digest 104 = .ok (.iinc 4 1, 3) := by decide +kernel
theorem dX6_digest_107 : decode cX6_digest 107 = .ok (.goto (-25), 3) := by decide +kernel
theorem dX6_digest_110 : decode cX6_digest 110 = .ok (.ldc2_w 205, 3) := by decide +kernel
theorem dX6_digest_113 : decode cX6_digest 113 = .ok (.lload_n 1, 1) := by decide +kernel
theorem dX6_digest_114 : decode cX6_digest 114 = .ok (.lmul, 1) := by decide +kernel
theorem dX6_digest_115 : decode cX6_digest 115 = .ok (.aload_n 0, 1) := by decide +kernel
theorem dX6_digest_116 : decode cX6_digest 116 = .ok (.iload_n 3, 1) := by decide +kernel
theorem dX6_digest_117 : decode cX6_digest 117 = .ok (.bipush 25, 2) := by decide +kernel
theorem dX6_digest_119 : decode cX6_digest 119 = .ok (.invokevirtual 64, 3) := by decide +kernel
theorem dX6_digest_122 : decode cX6_digest 122 = .ok (.i2l, 1) := by decide +kernel
theorem dX6_digest_123 : decode cX6_digest 123 = .ok (.ladd, 1) := by decide +kernel
theorem dX6_digest_124 : decode cX6_digest 124 = .ok (.lstore_n 1, 1) := by decide +kernel
theorem dX6_digest_125 : decode cX6_digest 125 = .ok (.iconst 0, 1) := by decide +kernel
theorem dX6_digest_126 : decode cX6_digest 126 = .ok (.istore 4, 2) := by decide +kernel
theorem dX6_digest_128 : decode cX6_digest 128 = .ok (.iload 4, 2) := by decide +kernel
theorem dX6_digest_130 : decode cX6_digest 130 = .ok (.aload_n 0, 1) := by decide +kernel
theorem dX6_digest_131 : decode cX6_digest 131 = .ok (.getfield 7, 3) := by decide +kernel
theorem dX6_digest_134 : decode cX6_digest 134 = .ok (.iconst 1, 1) := by decide +kernel
theorem dX6_digest_135 : decode cX6_digest 135 = .ok (.iaload, 1) := by decide +kernel
theorem dX6_digest_136 : decode cX6_digest 136 = .ok (.if_icmp .ge 24, 3) := by decide +kernel
theorem dX6_digest_139 : decode cX6_digest 139 = .ok (.ldc2_w 205, 3) := by decide +kernel
theorem dX6_digest_142 : decode cX6_digest 142 = .ok (.lload_n 1, 1) := by decide +kernel
theorem dX6_digest_143 : decode cX6_digest 143 = .ok (.lmul, 1) := by decide +kernel
theorem dX6_digest_144 : decode cX6_digest 144 = .ok (.aload_n 0, 1) := by decide +kernel
theorem dX6_digest_145 : decode cX6_digest 145 = .ok (.iload_n 3, 1) := by decide +kernel
theorem dX6_digest_146 : decode cX6_digest 146 = .ok (.iload 4, 2) := by decide +kernel
theorem dX6_digest_148 : decode cX6_digest 148 = .ok (.invokevirtual 190, 3) := by decide +kernel
theorem dX6_digest_151 : decode cX6_digest 151 = .ok (.i2l, 1) := by decide +kernel
theorem dX6_digest_152 : decode cX6_digest 152 = .ok (.ladd, 1) := by decide +kernel
theorem dX6_digest_153 : decode cX6_digest 153 = .ok (.lstore_n 1, 1) := by decide +kernel
theorem dX6_digest_154 : decode cX6_digest 154 = .ok (.iinc 4 1, 3) := by decide +kernel
theorem dX6_digest_157 : decode cX6_digest 157 = .ok (.goto (-29), 3) := by decide +kernel
theorem dX6_digest_160 : decode cX6_digest 160 = .ok (.iinc 3 1, 3) := by decide +kernel
theorem dX6_digest_163 : decode cX6_digest 163 = .ok (.goto (-94), 3) := by decide +kernel
theorem dX6_digest_166 : decode cX6_digest 166 = .ok (.iconst 0, 1) := by decide +kernel
theorem dX6_digest_167 : decode cX6_digest 167 = .ok (.istore_n 3, 1) := by decide +kernel
theorem dX6_digest_168 : decode cX6_digest 168 = .ok (.iload_n 3, 1) := by decide +kernel
theorem dX6_digest_169 : decode cX6_digest 169 = .ok (.aload_n 0, 1) := by decide +kernel
theorem dX6_digest_170 : decode cX6_digest 170 = .ok (.getfield 7, 3) := by decide +kernel
theorem dX6_digest_173 : decode cX6_digest 173 = .ok (.iconst 1, 1) := by decide +kernel
theorem dX6_digest_174 : decode cX6_digest 174 = .ok (.iaload, 1) := by decide +kernel
theorem dX6_digest_175 : decode cX6_digest 175 = .ok (.if_icmp .ge 68, 3) := by decide +kernel
theorem dX6_digest_178 : decode cX6_digest 178 = .ok (.iconst 0, 1) := by decide +kernel
theorem dX6_digest_179 : decode cX6_digest 179 = .ok (.istore 4, 2) := by decide +kernel
theorem dX6_digest_181 : decode cX6_digest 181 = .ok (.iload 4, 2) := by decide +kernel
theorem dX6_digest_183 : decode cX6_digest 183 = .ok (.bipush 28, 2) := by decide +kernel
theorem dX6_digest_185 : decode cX6_digest 185 = .ok (.if_icmp .ge 52, 3) := by decide +kernel
theorem dX6_digest_188 : decode cX6_digest 188 = .ok (.iload 4, 2) := by decide +kernel
theorem dX6_digest_190 : decode cX6_digest 190 = .ok (.bipush 7, 2) := by decide +kernel
theorem dX6_digest_192 : decode cX6_digest 192 = .ok (.if_icmp .lt 20, 3) := by decide +kernel
theorem dX6_digest_195 : decode cX6_digest 195 = .ok (.iload 4, 2) := by decide +kernel
theorem dX6_digest_197 : decode cX6_digest 197 = .ok (.bipush 10, 2) := by decide +kernel
theorem dX6_digest_199 : decode cX6_digest 199 = .ok (.irem, 1) := by decide +kernel
theorem dX6_digest_200 : decode cX6_digest 200 = .ok (.bipush 8, 2) := by decide +kernel
theorem dX6_digest_202 : decode cX6_digest 202 = .ok (.if_icmp .ge 27, 3) := by decide +kernel
theorem dX6_digest_205 : decode cX6_digest 205 = .ok (.iload 4, 2) := by decide +kernel
theorem dX6_digest_207 : decode cX6_digest 207 = .ok (.bipush 9, 2) := by decide +kernel
theorem dX6_digest_209 : decode cX6_digest 209 = .ok (.if_icmp .le 20, 3) := by decide +kernel
theorem dX6_digest_212 : decode cX6_digest 212 = .ok (.ldc2_w 205, 3) := by decide +kernel
theorem dX6_digest_215 : decode cX6_digest 215 = .ok (.lload_n 1, 1) := by decide +kernel
theorem dX6_digest_216 : decode cX6_digest 216 = .ok (.lmul, 1) := by decide +kernel
theorem dX6_digest_217 : decode cX6_digest 217 = .ok (.aload_n 0, 1) := by decide +kernel
theorem dX6_digest_218 : decode cX6_digest 218 = .ok (.iload_n 3, 1) := by decide +kernel
theorem dX6_digest_219 : decode cX6_digest 219 = .ok (.iload 4, 2) := by decide +kernel
theorem dX6_digest_221 : decode cX6_digest 221 = .ok (.invokevirtual 185, 3) := by decide +kernel
theorem dX6_digest_224 : decode cX6_digest 224 = .ok (.i2l, 1) := by decide +kernel
theorem dX6_digest_225 : decode cX6_digest 225 = .ok (.ladd, 1) := by decide +kernel
theorem dX6_digest_226 : decode cX6_digest 226 = .ok (.goto 4, 3) := by decide +kernel
theorem dX6_digest_229 : decode cX6_digest 229 = .ok (.lload_n 1, 1) := by decide +kernel
theorem dX6_digest_230 : decode cX6_digest 230 = .ok (.lstore_n 1, 1) := by decide +kernel
theorem dX6_digest_231 : decode cX6_digest 231 = .ok (.iinc 4 1, 3) := by decide +kernel
theorem dX6_digest_234 : decode cX6_digest 234 = .ok (.goto (-53), 3) := by decide +kernel
theorem dX6_digest_237 : decode cX6_digest 237 = .ok (.iinc 3 1, 3) := by decide +kernel
theorem dX6_digest_240 : decode cX6_digest 240 = .ok (.goto (-72), 3) := by decide +kernel
theorem dX6_digest_243 : decode cX6_digest 243 = .ok (.iconst 0, 1) := by decide +kernel
theorem dX6_digest_244 : decode cX6_digest 244 = .ok (.istore_n 3, 1) := by decide +kernel
theorem dX6_digest_245 : decode cX6_digest 245 = .ok (.iload_n 3, 1) := by decide +kernel
theorem dX6_digest_246 : decode cX6_digest 246 = .ok (.iconst 3, 1) := by decide +kernel
theorem dX6_digest_247 : decode cX6_digest 247 = .ok (.if_icmp .ge 22, 3) := by decide +kernel
theorem dX6_digest_250 : decode cX6_digest 250 = .ok (.ldc2_w 205, 3) := by decide +kernel
theorem dX6_digest_253 : decode cX6_digest 253 = .ok (.lload_n 1, 1) := by decide +kernel
theorem dX6_digest_254 : decode cX6_digest 254 = .ok (.lmul, 1) := by decide +kernel
theorem dX6_digest_255 : decode cX6_digest 255 = .ok (.aload_n 0, 1) := by decide +kernel
theorem dX6_digest_256 : decode cX6_digest 256 = .ok (.iload_n 3, 1) := by decide +kernel
theorem dX6_digest_257 : decode cX6_digest 257 = .ok (.invokevirtual 196, 3) := by decide +kernel
theorem dX6_digest_260 : decode cX6_digest 260 = .ok (.i2l, 1) := by decide +kernel
theorem dX6_digest_261 : decode cX6_digest 261 = .ok (.ladd, 1) := by decide +kernel
theorem dX6_digest_262 : decode cX6_digest 262 = .ok (.lstore_n 1, 1) := by decide +kernel
theorem dX6_digest_263 : decode cX6_digest 263 = .ok (.iinc 3 1, 3) := by decide +kernel
theorem dX6_digest_266 : decode cX6_digest 266 = .ok (.goto (-21), 3) := by decide +kernel
theorem dX6_digest_269 : decode cX6_digest 269 = .ok (.iconst 0, 1) := by decide +kernel
theorem dX6_digest_270 : decode cX6_digest 270 = .ok (.istore_n 3, 1) := by decide +kernel
theorem dX6_digest_271 : decode cX6_digest 271 = .ok (.iload_n 3, 1) := by decide +kernel
theorem dX6_digest_272 : decode cX6_digest 272 = .ok (.aload_n 0, 1) := by decide +kernel
theorem dX6_digest_273 : decode cX6_digest 273 = .ok (.getfield 7, 3) := by decide +kernel
theorem dX6_digest_276 : decode cX6_digest 276 = .ok (.iconst 1, 1) := by decide +kernel
theorem dX6_digest_277 : decode cX6_digest 277 = .ok (.iaload, 1) := by decide +kernel
theorem dX6_digest_278 : decode cX6_digest 278 = .ok (.if_icmp .ge 45, 3) := by decide +kernel
theorem dX6_digest_281 : decode cX6_digest 281 = .ok (.iconst 0, 1) := by decide +kernel
theorem dX6_digest_282 : decode cX6_digest 282 = .ok (.istore 4, 2) := by decide +kernel
theorem dX6_digest_284 : decode cX6_digest 284 = .ok (.iload 4, 2) := by decide +kernel
theorem dX6_digest_286 : decode cX6_digest 286 = .ok (.aload_n 0, 1) := by decide +kernel
theorem dX6_digest_287 : decode cX6_digest 287 = .ok (.getfield 7, 3) := by decide +kernel
theorem dX6_digest_290 : decode cX6_digest 290 = .ok (.iconst 0, 1) := by decide +kernel
theorem dX6_digest_291 : decode cX6_digest 291 = .ok (.iaload, 1) := by decide +kernel
theorem dX6_digest_292 : decode cX6_digest 292 = .ok (.if_icmp .ge 25, 3) := by decide +kernel
theorem dX6_digest_295 : decode cX6_digest 295 = .ok (.ldc2_w 205, 3) := by decide +kernel
theorem dX6_digest_298 : decode cX6_digest 298 = .ok (.lload_n 1, 1) := by decide +kernel
theorem dX6_digest_299 : decode cX6_digest 299 = .ok (.lmul, 1) := by decide +kernel
theorem dX6_digest_300 : decode cX6_digest 300 = .ok (.aload_n 0, 1) := by decide +kernel
theorem dX6_digest_301 : decode cX6_digest 301 = .ok (.iload_n 3, 1) := by decide +kernel
theorem dX6_digest_302 : decode cX6_digest 302 = .ok (.iload 4, 2) := by decide +kernel
theorem dX6_digest_304 : decode cX6_digest 304 = .ok (.iconst 1, 1) := by decide +kernel
theorem dX6_digest_305 : decode cX6_digest 305 = .ok (.invokevirtual 193, 3) := by decide +kernel
theorem dX6_digest_308 : decode cX6_digest 308 = .ok (.i2l, 1) := by decide +kernel
theorem dX6_digest_309 : decode cX6_digest 309 = .ok (.ladd, 1) := by decide +kernel
theorem dX6_digest_310 : decode cX6_digest 310 = .ok (.lstore_n 1, 1) := by decide +kernel
theorem dX6_digest_311 : decode cX6_digest 311 = .ok (.iinc 4 1, 3) := by decide +kernel
theorem dX6_digest_314 : decode cX6_digest 314 = .ok (.goto (-30), 3) := by decide +kernel
theorem dX6_digest_317 : decode cX6_digest 317 = .ok (.iinc 3 1, 3) := by decide +kernel
theorem dX6_digest_320 : decode cX6_digest 320 = .ok (.goto (-49), 3) := by decide +kernel
theorem dX6_digest_323 : decode cX6_digest 323 = .ok (.ldc2_w 205, 3) := by decide +kernel
theorem dX6_digest_326 : decode cX6_digest 326 = .ok (.lload_n 1, 1) := by decide +kernel
theorem dX6_digest_327 : decode cX6_digest 327 = .ok (.lmul, 1) := by decide +kernel
theorem dX6_digest_328 : decode cX6_digest 328 = .ok (.aload_n 0, 1) := by decide +kernel
theorem dX6_digest_329 : decode cX6_digest 329 = .ok (.invokevirtual 199, 3) := by decide +kernel
theorem dX6_digest_332 : decode cX6_digest 332 = .ok (.invokestatic 207, 3) := by decide +kernel
theorem dX6_digest_335 : decode cX6_digest 335 = .ok (.ladd, 1) := by decide +kernel
theorem dX6_digest_336 : decode cX6_digest 336 = .ok (.lstore_n 1, 1) := by decide +kernel
theorem dX6_digest_337 : decode cX6_digest 337 = .ok (.ldc2_w 205, 3) := by decide +kernel
theorem dX6_digest_340 : decode cX6_digest 340 = .ok (.lload_n 1, 1) := by decide +kernel
theorem dX6_digest_341 : decode cX6_digest 341 = .ok (.lmul, 1) := by decide +kernel
theorem dX6_digest_342 : decode cX6_digest 342 = .ok (.aload_n 0, 1) := by decide +kernel
theorem dX6_digest_343 : decode cX6_digest 343 = .ok (.getfield 129, 3) := by decide +kernel
theorem dX6_digest_346 : decode cX6_digest 346 = .ok (.i2l, 1) := by decide +kernel
theorem dX6_digest_347 : decode cX6_digest 347 = .ok (.ladd, 1) := by decide +kernel
theorem dX6_digest_348 : decode cX6_digest 348 = .ok (.lstore_n 1, 1) := by decide +kernel
theorem dX6_digest_349 : decode cX6_digest 349 = .ok (.iconst 0, 1) := by decide +kernel
theorem dX6_digest_350 : decode cX6_digest 350 = .ok (.istore_n 3, 1) := by decide +kernel
theorem dX6_digest_351 : decode cX6_digest 351 = .ok (.iload_n 3, 1) := by decide +kernel
theorem dX6_digest_352 : decode cX6_digest 352 = .ok (.aload_n 0, 1) := by decide +kernel
theorem dX6_digest_353 : decode cX6_digest 353 = .ok (.getfield 129, 3) := by decide +kernel
theorem dX6_digest_356 : decode cX6_digest 356 = .ok (.if_icmp .ge 23, 3) := by decide +kernel
theorem dX6_digest_359 : decode cX6_digest 359 = .ok (.ldc2_w 205, 3) := by decide +kernel
theorem dX6_digest_362 : decode cX6_digest 362 = .ok (.lload_n 1, 1) := by decide +kernel
theorem dX6_digest_363 : decode cX6_digest 363 = .ok (.lmul, 1) := by decide +kernel
theorem dX6_digest_364 : decode cX6_digest 364 = .ok (.aload_n 0, 1) := by decide +kernel
theorem dX6_digest_365 : decode cX6_digest 365 = .ok (.getfield 19, 3) := by decide +kernel
theorem dX6_digest_368 : decode cX6_digest 368 = .ok (.iload_n 3, 1) := by decide +kernel
theorem dX6_digest_369 : decode cX6_digest 369 = .ok (.iaload, 1) := by decide +kernel
theorem dX6_digest_370 : decode cX6_digest 370 = .ok (.i2l, 1) := by decide +kernel
theorem dX6_digest_371 : decode cX6_digest 371 = .ok (.ladd, 1) := by decide +kernel
theorem dX6_digest_372 : decode cX6_digest 372 = .ok (.lstore_n 1, 1) := by decide +kernel
theorem dX6_digest_373 : decode cX6_digest 373 = .ok (.iinc 3 1, 3) := by decide +kernel
theorem dX6_digest_376 : decode cX6_digest 376 = .ok (.goto (-25), 3) := by decide +kernel
theorem dX6_digest_379 : decode cX6_digest 379 = .ok (.lload_n 1, 1) := by decide +kernel
theorem dX6_digest_380 : decode cX6_digest 380 = .ok (.lreturn, 1) := by decide +kernel
theorem dJxe99ae_isNaN_b9ae7_0 : decode cJxe99ae_isNaN_b9ae7 0 = .ok (.dload_n 0, 1) := by decide +kernel
theorem dJxe99ae_isNaN_b9ae7_1 : decode cJxe99ae_isNaN_b9ae7 1 = .ok (.dload_n 0, 1) := by decide +kernel
theorem dJxe99ae_isNaN_b9ae7_2 : decode cJxe99ae_isNaN_b9ae7 2 = .ok (.dcmp .l, 1) := by decide +kernel
theorem dJxe99ae_isNaN_b9ae7_3 : decode cJxe99ae_isNaN_b9ae7 3 = .ok (.ifCond .eq 7, 3) := by decide +kernel
theorem dJxe99ae_isNaN_b9ae7_6 : decode cJxe99ae_isNaN_b9ae7 6 = .ok (.iconst 1, 1) := by decide +kernel
theorem dJxe99ae_isNaN_b9ae7_7 : decode cJxe99ae_isNaN_b9ae7 7 = .ok (.goto 4, 3) := by decide +kernel
theorem dJxe99ae_isNaN_b9ae7_10 : decode cJxe99ae_isNaN_b9ae7 10 = .ok (.iconst 0, 1) := by decide +kernel
theorem dJxe99ae_isNaN_b9ae7_11 : decode cJxe99ae_isNaN_b9ae7 11 = .ok (.ireturn, 1) := by decide +kernel
set_option maxRecDepth 20000 in
theorem ggJxe99ae_doubleToLongBits_ccdee_Jxe99ae_isNaN_b9ae7 : GoodIn wsJxe99ae_doubleToLongBits_ccdee wsJxe99ae_isNaN_b9ae7 := goodIn_r _ [9] (by decide +kernel) (by decide +kernel)
set_option maxRecDepth 20000 in
theorem gJxe99ae_doubleToLongBits_ccdee_Jxe99ae_isNaN_b9ae7 : GoodIn wsJxe99ae_doubleToLongBits_ccdee (va_wsS RJxe99ae 122 yJxe99ae_isNaN_b9ae7 wsJxe99ae_isNaN_b9ae7) := goodIn_app (goodIn_of _ (by decide +kernel)) ggJxe99ae_doubleToLongBits_ccdee_Jxe99ae_isNaN_b9ae7
theorem dJxe99ae_doubleToLongBits_ccdee_0 : decode cJxe99ae_doubleToLongBits_ccdee 0 = .ok (.dload_n 0, 1) := by decide +kernel
theorem dJxe99ae_doubleToLongBits_ccdee_1 : decode cJxe99ae_doubleToLongBits_ccdee 1 = .ok (.invokestatic 122, 3) := by decide +kernel
theorem dJxe99ae_doubleToLongBits_ccdee_4 : decode cJxe99ae_doubleToLongBits_ccdee 4 = .ok (.ifCond .ne 8, 3) := by decide +kernel
theorem dJxe99ae_doubleToLongBits_ccdee_7 : decode cJxe99ae_doubleToLongBits_ccdee 7 = .ok (.dload_n 0, 1) := by decide +kernel
theorem dJxe99ae_doubleToLongBits_ccdee_8 : decode cJxe99ae_doubleToLongBits_ccdee 8 = .ok (.invokestatic 134, 3) := by decide +kernel
theorem dJxe99ae_doubleToLongBits_ccdee_11 : decode cJxe99ae_doubleToLongBits_ccdee 11 = .ok (.lreturn, 1) := by decide +kernel
theorem dJxe99ae_doubleToLongBits_ccdee_12 : decode cJxe99ae_doubleToLongBits_ccdee 12 = .ok (.ldc2_w 137, 3) := by decide +kernel
theorem dJxe99ae_doubleToLongBits_ccdee_15 : decode cJxe99ae_doubleToLongBits_ccdee 15 = .ok (.lreturn, 1) := by decide +kernel
theorem dJ9_min_7cf53_0 : decode cJ9_min_7cf53 0 = .ok (.iload_n 0, 1) := by decide +kernel
theorem dJ9_min_7cf53_1 : decode cJ9_min_7cf53 1 = .ok (.iload_n 1, 1) := by decide +kernel
theorem dJ9_min_7cf53_2 : decode cJ9_min_7cf53 2 = .ok (.if_icmp .gt 7, 3) := by decide +kernel
theorem dJ9_min_7cf53_5 : decode cJ9_min_7cf53 5 = .ok (.iload_n 0, 1) := by decide +kernel
theorem dJ9_min_7cf53_6 : decode cJ9_min_7cf53 6 = .ok (.goto 4, 3) := by decide +kernel
theorem dJ9_min_7cf53_9 : decode cJ9_min_7cf53 9 = .ok (.iload_n 1, 1) := by decide +kernel
theorem dJ9_min_7cf53_10 : decode cJ9_min_7cf53 10 = .ok (.ireturn, 1) := by decide +kernel
set_option maxRecDepth 20000 in
theorem ggL_addBrand_X5_addBrand : GoodIn wsL_addBrand wsX5_addBrand := goodIn_ca (goodIn_ca (goodIn_r _ [7, 8, 9, 10, 11, 6, 12, 13, 14, 15, 16, 17, 18, 19, 20, 21, 22, 23, 24, 25, 26, 27, 28, 29, 30, 31, 32, 33, 34, 35, 36, 37, 38, 39, 40, 41, 42, 43, 44, 45, 46, 47, 48, 49, 50, 51, 52, 53, 54, 55, 56, 57, 58, 59, 60, 61, 62, 63, 64, 65, 66, 67, 68, 69, 70, 71] (by decide +kernel) (by decide +kernel)) (goodIn_sub (fun _ h => List.mem_cons_of_mem _ (List.mem_append_left _ (List.mem_append_right _ h))) (by decide +kernel))) (goodIn_sub (fun _ h => List.mem_cons_of_mem _ (List.mem_append_right _ h)) (by decide +kernel))
set_option maxRecDepth 20000 in
theorem gL_addBrand_X5_addBrand : GoodIn wsL_addBrand (wsV RL 7 RX5 yX5_addBrand wsX5_addBrand) := goodIn_app (goodIn_of _ (by decide +kernel)) ggL_addBrand_X5_addBrand
theorem dL_addBrand_0 : decode cL_addBrand 0 = .ok (.aload_n 3, 1) := by decide +kernel
theorem dL_addBrand_1 : decode cL_addBrand 1 = .ok (.iconst 0, 1) := by decide +kernel
theorem dL_addBrand_2 : decode cL_addBrand 2 = .ok (.aload_n 0, 1) := by decide +kernel
theorem dL_addBrand_3 : decode cL_addBrand 3 = .ok (.iload_n 1, 1) := by decide +kernel
theorem dL_addBrand_4 : decode cL_addBrand 4 = .ok (.iload_n 2, 1) := by decide +kernel
theorem dL_addBrand_5 : decode cL_addBrand 5 = .ok (.invokevirtual 7, 3) := by decide +kernel
theorem dL_addBrand_8 : decode cL_addBrand 8 = .ok (.i2l, 1) := by decide +kernel
theorem dL_addBrand_9 : decode cL_addBrand 9 = .ok (.lastore, 1) := by decide +kernel
theorem dL_addBrand_10 : decode cL_addBrand 10 = .ok (.goto 11, 3) := by decide +kernel
theorem dL_addBrand_13 : decode cL_addBrand 13 = .ok (.astore 4, 2) := by decide +kernel
theorem dL_addBrand_15 : decode cL_addBrand 15 = .ok (.iconst 1, 1) := by decide +kernel
theorem dL_addBrand_16 : decode cL_addBrand 16 = .ok (.ireturn, 1) := by decide +kernel
theorem dL_addBrand_17 : decode cL_addBrand 17 = .ok (.astore 4, 2) := by decide +kernel
theorem dL_addBrand_19 : decode cL_addBrand 19 = .ok (.iconst 2, 1) := by decide +kernel
theorem dL_addBrand_20 : decode cL_addBrand 20 = .ok (.ireturn, 1) := by decide +kernel
theorem dL_addBrand_21 : decode cL_addBrand 21 = .ok (.iconst 0, 1) := by decide +kernel
theorem dL_addBrand_22 : decode cL_addBrand 22 = .ok (.ireturn, 1) := by decide +kernel
set_option maxRecDepth 20000 in
theorem ggL_addShop_X5_addShop : GoodIn wsL_addShop wsX5_addShop := goodIn_ca (goodIn_ca (goodIn_r _ [7, 8, 9, 10, 11, 12, 6, 13, 14, 15, 16, 17, 18, 19, 20, 21, 22, 23, 24, 25, 26, 27, 28, 29, 30, 31, 32, 33, 34, 35, 36, 37, 38, 39, 40, 41, 42, 43, 44, 45, 46, 47, 48, 49, 50, 51, 52, 53, 54, 55, 56, 57, 58, 59, 60, 61, 62, 63, 64, 65, 66, 67, 68, 69] (by decide +kernel) (by decide +kernel)) (goodIn_sub (fun _ h => List.mem_cons_of_mem _ (List.mem_append_left _ (List.mem_append_right _ h))) (by decide +kernel))) (goodIn_sub (fun _ h => List.mem_cons_of_mem _ (List.mem_append_right _ h)) (by decide +kernel))
set_option maxRecDepth 20000 in
theorem gL_addShop_X5_addShop : GoodIn wsL_addShop (wsV RL 17 RX5 yX5_addShop wsX5_addShop) := goodIn_app (goodIn_of _ (by decide +kernel)) ggL_addShop_X5_addShop
theorem dL_addShop_0 : decode cL_addShop 0 = .ok (.aload_n 2, 1) := by decide +kernel
theorem dL_addShop_1 : decode cL_addShop 1 = .ok (.iconst 0, 1) := by decide +kernel
theorem dL_addShop_2 : decode cL_addShop 2 = .ok (.aload_n 0, 1) := by decide +kernel
theorem dL_addShop_3 : decode cL_addShop 3 = .ok (.iload_n 1, 1) := by decide +kernel
theorem dL_addShop_4 : decode cL_addShop 4 = .ok (.invokevirtual 17, 3) := by decide +kernel
theorem dL_addShop_7 : decode cL_addShop 7 = .ok (.i2l, 1) := by decide +kernel
theorem dL_addShop_8 : decode cL_addShop 8 = .ok (.lastore, 1) := by decide +kernel
theorem dL_addShop_9 : decode cL_addShop 9 = .ok (.goto 9, 3) := by decide +kernel
theorem dL_addShop_12 : decode cL_addShop 12 = .ok (.astore_n 3, 1) := by decide +kernel
theorem dL_addShop_13 : decode cL_addShop 13 = .ok (.iconst 1, 1) := by decide +kernel
theorem dL_addShop_14 : decode cL_addShop 14 = .ok (.ireturn, 1) := by decide +kernel
theorem dL_addShop_15 : decode cL_addShop 15 = .ok (.astore_n 3, 1) := by decide +kernel
theorem dL_addShop_16 : decode cL_addShop 16 = .ok (.iconst 2, 1) := by decide +kernel
theorem dL_addShop_17 : decode cL_addShop 17 = .ok (.ireturn, 1) := by decide +kernel
theorem dL_addShop_18 : decode cL_addShop 18 = .ok (.iconst 0, 1) := by decide +kernel
theorem dL_addShop_19 : decode cL_addShop 19 = .ok (.ireturn, 1) := by decide +kernel
set_option maxRecDepth 20000 in
theorem ggL_buyCrates_X5_buyCrates : GoodIn wsL_buyCrates wsX5_buyCrates := goodIn_ca (goodIn_ca (goodIn_r _ [7, 8, 9, 10, 11, 6, 12, 13, 14, 15, 16, 17, 18, 19, 20, 21, 22, 23, 24, 25, 26, 27, 28, 29, 30, 31, 32, 33, 34, 35, 36, 37, 38, 39, 40, 41, 42, 43, 44, 45, 46, 47, 48, 49, 50, 51, 52, 53, 54, 55, 56, 57, 58, 59, 60, 61, 62, 63, 64, 65, 66, 67, 68, 69, 70, 71, 72, 73, 74, 75, 76, 77, 78, 79, 80, 81, 82, 83, 84, 85] (by decide +kernel) (by decide +kernel)) (goodIn_sub (fun _ h => List.mem_cons_of_mem _ (List.mem_append_left _ (List.mem_append_right _ h))) (by decide +kernel))) (goodIn_sub (fun _ h => List.mem_cons_of_mem _ (List.mem_append_right _ h)) (by decide +kernel))
set_option maxRecDepth 20000 in
theorem gL_buyCrates_X5_buyCrates : GoodIn wsL_buyCrates (wsV RL 21 RX5 yX5_buyCrates wsX5_buyCrates) := goodIn_app (goodIn_of _ (by decide +kernel)) ggL_buyCrates_X5_buyCrates
theorem dL_buyCrates_0 : decode cL_buyCrates 0 = .ok (.aload_n 2, 1) := by decide +kernel
theorem dL_buyCrates_1 : decode cL_buyCrates 1 = .ok (.iconst 0, 1) := by decide +kernel
theorem dL_buyCrates_2 : decode cL_buyCrates 2 = .ok (.aload_n 0, 1) := by decide +kernel
theorem dL_buyCrates_3 : decode cL_buyCrates 3 = .ok (.iload_n 1, 1) := by decide +kernel
theorem dL_buyCrates_4 : decode cL_buyCrates 4 = .ok (.invokevirtual 21, 3) := by decide +kernel
theorem dL_buyCrates_7 : decode cL_buyCrates 7 = .ok (.i2l, 1) := by decide +kernel
theorem dL_buyCrates_8 : decode cL_buyCrates 8 = .ok (.lastore, 1) := by decide +kernel
theorem dL_buyCrates_9 : decode cL_buyCrates 9 = .ok (.goto 9, 3) := by decide +kernel
theorem dL_buyCrates_12 : decode cL_buyCrates 12 = .ok (.astore_n 3, 1) := by decide +kernel
theorem dL_buyCrates_13 : decode cL_buyCrates 13 = .ok (.iconst 1, 1) := by decide +kernel
theorem dL_buyCrates_14 : decode cL_buyCrates 14 = .ok (.ireturn, 1) := by decide +kernel
theorem dL_buyCrates_15 : decode cL_buyCrates 15 = .ok (.astore_n 3, 1) := by decide +kernel
theorem dL_buyCrates_16 : decode cL_buyCrates 16 = .ok (.iconst 2, 1) := by decide +kernel
theorem dL_buyCrates_17 : decode cL_buyCrates 17 = .ok (.ireturn, 1) := by decide +kernel
theorem dL_buyCrates_18 : decode cL_buyCrates 18 = .ok (.iconst 0, 1) := by decide +kernel
theorem dL_buyCrates_19 : decode cL_buyCrates 19 = .ok (.ireturn, 1) := by decide +kernel
set_option maxRecDepth 20000 in
theorem ggL_set_X5_set : GoodIn wsL_set wsX5_set := goodIn_ca (goodIn_ca (goodIn_ca (goodIn_r _ [8, 9, 10, 11, 12, 13, 14, 7, 15, 16, 17, 18, 19, 20, 21, 22, 23, 24, 25, 26, 27, 28, 29, 30, 31, 32, 33, 34, 35, 36, 37, 38, 39, 40, 41, 42, 43, 44, 45, 46, 47, 48, 49, 50, 51, 52, 53, 54, 55, 56, 57, 58, 59, 60, 61, 62, 63, 64, 65, 66, 67, 68, 69, 70, 71, 72, 73, 74, 75, 76, 77, 78, 79] (by decide +kernel) (by decide +kernel)) (goodIn_sub (fun _ h => List.mem_cons_of_mem _ (List.mem_append_left _ (List.mem_append_left _ (List.mem_append_right _ h)))) (by decide +kernel))) (goodIn_sub (fun _ h => List.mem_cons_of_mem _ (List.mem_append_left _ (List.mem_append_right _ h))) (by decide +kernel))) (goodIn_sub (fun _ h => List.mem_cons_of_mem _ (List.mem_append_right _ h)) (by decide +kernel))
set_option maxRecDepth 20000 in
theorem gL_set_X5_set : GoodIn wsL_set (wsV RL 24 RX5 yX5_set wsX5_set) := goodIn_app (goodIn_of _ (by decide +kernel)) ggL_set_X5_set
theorem dL_set_0 : decode cL_set 0 = .ok (.aload_n 3, 1) := by decide +kernel
theorem dL_set_1 : decode cL_set 1 = .ok (.iconst 0, 1) := by decide +kernel
theorem dL_set_2 : decode cL_set 2 = .ok (.aload_n 0, 1) := by decide +kernel
theorem dL_set_3 : decode cL_set 3 = .ok (.iload_n 1, 1) := by decide +kernel
theorem dL_set_4 : decode cL_set 4 = .ok (.iload_n 2, 1) := by decide +kernel
theorem dL_set_5 : decode cL_set 5 = .ok (.invokevirtual 24, 3) := by decide +kernel
theorem dL_set_8 : decode cL_set 8 = .ok (.i2l, 1) := by decide +kernel
theorem dL_set_9 : decode cL_set 9 = .ok (.lastore, 1) := by decide +kernel
theorem dL_set_10 : decode cL_set 10 = .ok (.goto 15, 3) := by decide +kernel
theorem dL_set_13 : decode cL_set 13 = .ok (.astore 4, 2) := by decide +kernel
theorem dL_set_15 : decode cL_set 15 = .ok (.iconst 1, 1) := by decide +kernel
theorem dL_set_16 : decode cL_set 16 = .ok (.ireturn, 1) := by decide +kernel
theorem dL_set_17 : decode cL_set 17 = .ok (.astore 4, 2) := by decide +kernel
theorem dL_set_19 : decode cL_set 19 = .ok (.iconst 2, 1) := by decide +kernel
theorem dL_set_20 : decode cL_set 20 = .ok (.ireturn, 1) := by decide +kernel
theorem dL_set_21 : decode cL_set 21 = .ok (.astore 4, 2) := by decide +kernel
theorem dL_set_23 : decode cL_set 23 = .ok (.iconst 3, 1) := by decide +kernel
theorem dL_set_24 : decode cL_set 24 = .ok (.ireturn, 1) := by decide +kernel
theorem dL_set_25 : decode cL_set 25 = .ok (.iconst 0, 1) := by decide +kernel
theorem dL_set_26 : decode cL_set 26 = .ok (.ireturn, 1) := by decide +kernel
set_option maxRecDepth 20000 in
theorem ggL_fill_X5_fill : GoodIn wsL_fill wsX5_fill := goodIn_ca (goodIn_ca (goodIn_ca (goodIn_r _ [8, 9, 10, 11, 12, 13, 14, 7, 15, 16, 17, 18, 19, 20, 21, 22, 23, 24, 25, 26, 27, 28, 29, 30, 31, 32, 33, 34, 35, 36, 37, 38, 39, 40, 41, 42, 43, 44, 45, 46, 47, 48, 49, 50, 51, 52, 53, 54, 55, 56, 57, 58, 59, 60, 61, 62, 63, 64, 65, 66, 67, 68, 69, 70, 71, 72, 73, 74, 75, 76, 77, 78, 79, 80, 81, 82, 83, 84, 85, 86, 87, 88, 89, 90, 91, 92, 93, 94] (by decide +kernel) (by decide +kernel)) (goodIn_sub (fun _ h => List.mem_cons_of_mem _ (List.mem_append_left _ (List.mem_append_left _ (List.mem_append_right _ h)))) (by decide +kernel))) (goodIn_sub (fun _ h => List.mem_cons_of_mem _ (List.mem_append_left _ (List.mem_append_right _ h))) (by decide +kernel))) (goodIn_sub (fun _ h => List.mem_cons_of_mem _ (List.mem_append_right _ h)) (by decide +kernel))
set_option maxRecDepth 20000 in
theorem gL_fill_X5_fill : GoodIn wsL_fill (wsV RL 29 RX5 yX5_fill wsX5_fill) := goodIn_app (goodIn_of _ (by decide +kernel)) ggL_fill_X5_fill
theorem dL_fill_0 : decode cL_fill 0 = .ok (.aload_n 3, 1) := by decide +kernel
theorem dL_fill_1 : decode cL_fill 1 = .ok (.iconst 0, 1) := by decide +kernel
theorem dL_fill_2 : decode cL_fill 2 = .ok (.aload_n 0, 1) := by decide +kernel
theorem dL_fill_3 : decode cL_fill 3 = .ok (.iload_n 1, 1) := by decide +kernel
theorem dL_fill_4 : decode cL_fill 4 = .ok (.iload_n 2, 1) := by decide +kernel
theorem dL_fill_5 : decode cL_fill 5 = .ok (.invokevirtual 29, 3) := by decide +kernel
theorem dL_fill_8 : decode cL_fill 8 = .ok (.i2l, 1) := by decide +kernel
theorem dL_fill_9 : decode cL_fill 9 = .ok (.lastore, 1) := by decide +kernel
theorem dL_fill_10 : decode cL_fill 10 = .ok (.goto 15, 3) := by decide +kernel
theorem dL_fill_13 : decode cL_fill 13 = .ok (.astore 4, 2) := by decide +kernel
theorem dL_fill_15 : decode cL_fill 15 = .ok (.iconst 1, 1) := by decide +kernel
theorem dL_fill_16 : decode cL_fill 16 = .ok (.ireturn, 1) := by decide +kernel
theorem dL_fill_17 : decode cL_fill 17 = .ok (.astore 4, 2) := by decide +kernel
theorem dL_fill_19 : decode cL_fill 19 = .ok (.iconst 2, 1) := by decide +kernel
theorem dL_fill_20 : decode cL_fill 20 = .ok (.ireturn, 1) := by decide +kernel
theorem dL_fill_21 : decode cL_fill 21 = .ok (.astore 4, 2) := by decide +kernel
theorem dL_fill_23 : decode cL_fill 23 = .ok (.iconst 3, 1) := by decide +kernel
theorem dL_fill_24 : decode cL_fill 24 = .ok (.ireturn, 1) := by decide +kernel
theorem dL_fill_25 : decode cL_fill 25 = .ok (.iconst 0, 1) := by decide +kernel
theorem dL_fill_26 : decode cL_fill 26 = .ok (.ireturn, 1) := by decide +kernel
set_option maxRecDepth 20000 in
theorem ggL_deliver_X5_deliver : GoodIn wsL_deliver wsX5_deliver := goodIn_ca (goodIn_ca (goodIn_ca (goodIn_r _ [8, 9, 10, 11, 12, 13, 14, 7, 15, 16, 17, 18, 19, 20, 21, 22, 23, 24, 25, 26, 27, 28, 29, 30, 31, 32, 33, 34, 35, 36, 37, 38, 39, 40, 41, 42, 43, 44, 45, 46, 47, 48, 49, 50, 51, 52, 53, 54, 55, 56, 57, 58, 59, 60, 61, 62, 63, 64, 65, 66, 67, 68, 69, 70, 71, 72, 73, 74, 75, 76, 77, 78, 79, 80, 81, 82, 83, 84, 85, 86, 87, 88, 89, 90, 91, 92, 93, 94, 95, 96, 97, 98, 99, 100, 101, 102, 103, 104, 105, 106, 107, 108, 109, 110, 111, 112, 113, 114, 115, 116, 117, 118] (by decide +kernel) (by decide +kernel)) (goodIn_sub (fun _ h => List.mem_cons_of_mem _ (List.mem_append_left _ (List.mem_append_left _ (List.mem_append_right _ h)))) (by decide +kernel))) (goodIn_sub (fun _ h => List.mem_cons_of_mem _ (List.mem_append_left _ (List.mem_append_right _ h))) (by decide +kernel))) (goodIn_sub (fun _ h => List.mem_cons_of_mem _ (List.mem_append_right _ h)) (by decide +kernel))
set_option maxRecDepth 20000 in
theorem gL_deliver_X5_deliver : GoodIn wsL_deliver (wsV RL 32 RX5 yX5_deliver wsX5_deliver) := goodIn_app (goodIn_of _ (by decide +kernel)) ggL_deliver_X5_deliver
theorem dL_deliver_0 : decode cL_deliver 0 = .ok (.aload 4, 2) := by decide +kernel
theorem dL_deliver_2 : decode cL_deliver 2 = .ok (.iconst 0, 1) := by decide +kernel
theorem dL_deliver_3 : decode cL_deliver 3 = .ok (.aload_n 0, 1) := by decide +kernel
theorem dL_deliver_4 : decode cL_deliver 4 = .ok (.iload_n 1, 1) := by decide +kernel
theorem dL_deliver_5 : decode cL_deliver 5 = .ok (.iload_n 2, 1) := by decide +kernel
theorem dL_deliver_6 : decode cL_deliver 6 = .ok (.iload_n 3, 1) := by decide +kernel
theorem dL_deliver_7 : decode cL_deliver 7 = .ok (.invokevirtual 32, 3) := by decide +kernel
theorem dL_deliver_10 : decode cL_deliver 10 = .ok (.i2l, 1) := by decide +kernel
theorem dL_deliver_11 : decode cL_deliver 11 = .ok (.lastore, 1) := by decide +kernel
theorem dL_deliver_12 : decode cL_deliver 12 = .ok (.goto 15, 3) := by decide +kernel
theorem dL_deliver_15 : decode cL_deliver 15 = .ok (.astore 5, 2) := by decide +kernel
theorem dL_deliver_17 : decode cL_deliver 17 = .ok (.iconst 1, 1) := by decide +kernel
theorem dL_deliver_18 : decode cL_deliver 18 = .ok (.ireturn, 1) := by decide +kernel
theorem dL_deliver_19 : decode cL_deliver 19 = .ok (.astore 5, 2) := by decide +kernel
theorem dL_deliver_21 : decode cL_deliver 21 = .ok (.iconst 2, 1) := by decide +kernel
theorem dL_deliver_22 : decode cL_deliver 22 = .ok (.ireturn, 1) := by decide +kernel
theorem dL_deliver_23 : decode cL_deliver 23 = .ok (.astore 5, 2) := by decide +kernel
theorem dL_deliver_25 : decode cL_deliver 25 = .ok (.iconst 3, 1) := by decide +kernel
theorem dL_deliver_26 : decode cL_deliver 26 = .ok (.ireturn, 1) := by decide +kernel
theorem dL_deliver_27 : decode cL_deliver 27 = .ok (.iconst 0, 1) := by decide +kernel
theorem dL_deliver_28 : decode cL_deliver 28 = .ok (.ireturn, 1) := by decide +kernel
set_option maxRecDepth 20000 in
theorem ggL_sell_X5_sell : GoodIn wsL_sell wsX5_sell := goodIn_ca (goodIn_ca (goodIn_ca (goodIn_r _ [8, 9, 10, 11, 12, 13, 14, 7, 15, 16, 17, 18, 19, 20, 21, 22, 23, 24, 25, 26, 27, 28, 29, 30, 31, 32, 33, 34, 35, 36, 37, 38, 39, 40, 41, 42, 43, 44, 45, 46, 47, 48, 49, 50, 51, 52, 53, 54, 55, 56, 57, 58, 59, 60, 61, 62, 63, 64, 65, 66, 67, 68, 69, 70, 71, 72, 73, 74, 75, 76, 77, 78, 79, 80, 81, 82, 83, 84, 85, 86, 87, 88, 89, 90, 91, 92, 93, 94, 95, 96, 97, 98, 99, 100, 101, 102, 103, 104, 105, 106, 107, 108, 109, 110, 111, 112, 113, 114] (by decide +kernel) (by decide +kernel)) (goodIn_sub (fun _ h => List.mem_cons_of_mem _ (List.mem_append_left _ (List.mem_append_left _ (List.mem_append_right _ h)))) (by decide +kernel))) (goodIn_sub (fun _ h => List.mem_cons_of_mem _ (List.mem_append_left _ (List.mem_append_right _ h))) (by decide +kernel))) (goodIn_sub (fun _ h => List.mem_cons_of_mem _ (List.mem_append_right _ h)) (by decide +kernel))
set_option maxRecDepth 20000 in
theorem gL_sell_X5_sell : GoodIn wsL_sell (wsV RL 36 RX5 yX5_sell wsX5_sell) := goodIn_app (goodIn_of _ (by decide +kernel)) ggL_sell_X5_sell
theorem dL_sell_0 : decode cL_sell 0 = .ok (.aload 4, 2) := by decide +kernel
theorem dL_sell_2 : decode cL_sell 2 = .ok (.iconst 0, 1) := by decide +kernel
theorem dL_sell_3 : decode cL_sell 3 = .ok (.aload_n 0, 1) := by decide +kernel
theorem dL_sell_4 : decode cL_sell 4 = .ok (.iload_n 1, 1) := by decide +kernel
theorem dL_sell_5 : decode cL_sell 5 = .ok (.iload_n 2, 1) := by decide +kernel
theorem dL_sell_6 : decode cL_sell 6 = .ok (.iload_n 3, 1) := by decide +kernel
theorem dL_sell_7 : decode cL_sell 7 = .ok (.invokevirtual 36, 3) := by decide +kernel
theorem dL_sell_10 : decode cL_sell 10 = .ok (.i2l, 1) := by decide +kernel
theorem dL_sell_11 : decode cL_sell 11 = .ok (.lastore, 1) := by decide +kernel
theorem dL_sell_12 : decode cL_sell 12 = .ok (.goto 15, 3) := by decide +kernel
theorem dL_sell_15 : decode cL_sell 15 = .ok (.astore 5, 2) := by decide +kernel
theorem dL_sell_17 : decode cL_sell 17 = .ok (.iconst 1, 1) := by decide +kernel
theorem dL_sell_18 : decode cL_sell 18 = .ok (.ireturn, 1) := by decide +kernel
theorem dL_sell_19 : decode cL_sell 19 = .ok (.astore 5, 2) := by decide +kernel
theorem dL_sell_21 : decode cL_sell 21 = .ok (.iconst 2, 1) := by decide +kernel
theorem dL_sell_22 : decode cL_sell 22 = .ok (.ireturn, 1) := by decide +kernel
theorem dL_sell_23 : decode cL_sell 23 = .ok (.astore 5, 2) := by decide +kernel
theorem dL_sell_25 : decode cL_sell 25 = .ok (.iconst 3, 1) := by decide +kernel
theorem dL_sell_26 : decode cL_sell 26 = .ok (.ireturn, 1) := by decide +kernel
theorem dL_sell_27 : decode cL_sell 27 = .ok (.iconst 0, 1) := by decide +kernel
theorem dL_sell_28 : decode cL_sell 28 = .ok (.ireturn, 1) := by decide +kernel
set_option maxRecDepth 20000 in
theorem ggL_takeBack_X5_takeBack : GoodIn wsL_takeBack wsX5_takeBack := goodIn_ca (goodIn_ca (goodIn_ca (goodIn_r _ [8, 9, 10, 11, 12, 13, 14, 7, 15, 16, 17, 18, 19, 20, 21, 22, 23, 24, 25, 26, 27, 28, 29, 30, 31, 32, 33, 34, 35, 36, 37, 38, 39, 40, 41, 42, 43, 44, 45, 46, 47, 48, 49, 50, 51, 52, 53, 54, 55, 56, 57, 58, 59, 60, 61, 62, 63, 64, 65, 66, 67, 68, 69, 70, 71, 72, 73, 74, 75, 76, 77, 78, 79, 80, 81, 82, 83, 84, 85, 86, 87, 88, 89, 90, 91, 92, 93, 94, 95, 96, 97, 98, 99, 100, 101, 102, 103, 104, 105, 106, 107, 108, 109, 110, 111] (by decide +kernel) (by decide +kernel)) (goodIn_sub (fun _ h => List.mem_cons_of_mem _ (List.mem_append_left _ (List.mem_append_left _ (List.mem_append_right _ h)))) (by decide +kernel))) (goodIn_sub (fun _ h => List.mem_cons_of_mem _ (List.mem_append_left _ (List.mem_append_right _ h))) (by decide +kernel))) (goodIn_sub (fun _ h => List.mem_cons_of_mem _ (List.mem_append_right _ h)) (by decide +kernel))
set_option maxRecDepth 20000 in
theorem gL_takeBack_X5_takeBack : GoodIn wsL_takeBack (wsV RL 39 RX5 yX5_takeBack wsX5_takeBack) := goodIn_app (goodIn_of _ (by decide +kernel)) ggL_takeBack_X5_takeBack
theorem dL_takeBack_0 : decode cL_takeBack 0 = .ok (.aload 4, 2) := by decide +kernel
theorem dL_takeBack_2 : decode cL_takeBack 2 = .ok (.iconst 0, 1) := by decide +kernel
theorem dL_takeBack_3 : decode cL_takeBack 3 = .ok (.aload_n 0, 1) := by decide +kernel
theorem dL_takeBack_4 : decode cL_takeBack 4 = .ok (.iload_n 1, 1) := by decide +kernel
theorem dL_takeBack_5 : decode cL_takeBack 5 = .ok (.iload_n 2, 1) := by decide +kernel
theorem dL_takeBack_6 : decode cL_takeBack 6 = .ok (.iload_n 3, 1) := by decide +kernel
theorem dL_takeBack_7 : decode cL_takeBack 7 = .ok (.invokevirtual 39, 3) := by decide +kernel
theorem dL_takeBack_10 : decode cL_takeBack 10 = .ok (.i2l, 1) := by decide +kernel
theorem dL_takeBack_11 : decode cL_takeBack 11 = .ok (.lastore, 1) := by decide +kernel
theorem dL_takeBack_12 : decode cL_takeBack 12 = .ok (.goto 15, 3) := by decide +kernel
theorem dL_takeBack_15 : decode cL_takeBack 15 = .ok (.astore 5, 2) := by decide +kernel
theorem dL_takeBack_17 : decode cL_takeBack 17 = .ok (.iconst 1, 1) := by decide +kernel
theorem dL_takeBack_18 : decode cL_takeBack 18 = .ok (.ireturn, 1) := by decide +kernel
theorem dL_takeBack_19 : decode cL_takeBack 19 = .ok (.astore 5, 2) := by decide +kernel
theorem dL_takeBack_21 : decode cL_takeBack 21 = .ok (.iconst 2, 1) := by decide +kernel
theorem dL_takeBack_22 : decode cL_takeBack 22 = .ok (.ireturn, 1) := by decide +kernel
theorem dL_takeBack_23 : decode cL_takeBack 23 = .ok (.astore 5, 2) := by decide +kernel
theorem dL_takeBack_25 : decode cL_takeBack 25 = .ok (.iconst 3, 1) := by decide +kernel
theorem dL_takeBack_26 : decode cL_takeBack 26 = .ok (.ireturn, 1) := by decide +kernel
theorem dL_takeBack_27 : decode cL_takeBack 27 = .ok (.iconst 0, 1) := by decide +kernel
theorem dL_takeBack_28 : decode cL_takeBack 28 = .ok (.ireturn, 1) := by decide +kernel
set_option maxRecDepth 20000 in
theorem ggL_breaks_X5_breaks : GoodIn wsL_breaks wsX5_breaks := goodIn_ca (goodIn_ca (goodIn_ca (goodIn_r _ [8, 9, 10, 11, 12, 13, 14, 7, 15, 16, 17, 18, 19, 20, 21, 22, 23, 24, 25, 26, 27, 28, 29, 30, 31, 32, 33, 34, 35, 36, 37, 38, 39, 40, 41, 42, 43, 44, 45, 46, 47, 48, 49, 50, 51, 52, 53, 54, 55, 56, 57, 58, 59, 60, 61, 62, 63, 64, 65, 66, 67, 68, 69, 70, 71, 72, 73, 74, 75, 76, 77, 78, 79, 80, 81, 82, 83, 84, 85, 86, 87, 88, 89, 90, 91, 92, 93, 94, 95, 96, 97, 98, 99, 100, 101, 102, 103, 104, 105, 106, 107, 108, 109, 110, 111, 112, 113, 114, 115, 116, 117, 118, 119, 120, 121] (by decide +kernel) (by decide +kernel)) (goodIn_sub (fun _ h => List.mem_cons_of_mem _ (List.mem_append_left _ (List.mem_append_left _ (List.mem_append_right _ h)))) (by decide +kernel))) (goodIn_sub (fun _ h => List.mem_cons_of_mem _ (List.mem_append_left _ (List.mem_append_right _ h))) (by decide +kernel))) (goodIn_sub (fun _ h => List.mem_cons_of_mem _ (List.mem_append_right _ h)) (by decide +kernel))
set_option maxRecDepth 20000 in
theorem gL_breaks_X5_breaks : GoodIn wsL_breaks (wsV RL 42 RX5 yX5_breaks wsX5_breaks) := goodIn_app (goodIn_of _ (by decide +kernel)) ggL_breaks_X5_breaks
theorem dL_breaks_0 : decode cL_breaks 0 = .ok (.aload 4, 2) := by decide +kernel
theorem dL_breaks_2 : decode cL_breaks 2 = .ok (.iconst 0, 1) := by decide +kernel
theorem dL_breaks_3 : decode cL_breaks 3 = .ok (.aload_n 0, 1) := by decide +kernel
theorem dL_breaks_4 : decode cL_breaks 4 = .ok (.iload_n 1, 1) := by decide +kernel
theorem dL_breaks_5 : decode cL_breaks 5 = .ok (.iload_n 2, 1) := by decide +kernel
theorem dL_breaks_6 : decode cL_breaks 6 = .ok (.iload_n 3, 1) := by decide +kernel
theorem dL_breaks_7 : decode cL_breaks 7 = .ok (.invokevirtual 42, 3) := by decide +kernel
theorem dL_breaks_10 : decode cL_breaks 10 = .ok (.i2l, 1) := by decide +kernel
theorem dL_breaks_11 : decode cL_breaks 11 = .ok (.lastore, 1) := by decide +kernel
theorem dL_breaks_12 : decode cL_breaks 12 = .ok (.goto 15, 3) := by decide +kernel
theorem dL_breaks_15 : decode cL_breaks 15 = .ok (.astore 5, 2) := by decide +kernel
theorem dL_breaks_17 : decode cL_breaks 17 = .ok (.iconst 1, 1) := by decide +kernel
theorem dL_breaks_18 : decode cL_breaks 18 = .ok (.ireturn, 1) := by decide +kernel
theorem dL_breaks_19 : decode cL_breaks 19 = .ok (.astore 5, 2) := by decide +kernel
theorem dL_breaks_21 : decode cL_breaks 21 = .ok (.iconst 2, 1) := by decide +kernel
theorem dL_breaks_22 : decode cL_breaks 22 = .ok (.ireturn, 1) := by decide +kernel
theorem dL_breaks_23 : decode cL_breaks 23 = .ok (.astore 5, 2) := by decide +kernel
theorem dL_breaks_25 : decode cL_breaks 25 = .ok (.iconst 3, 1) := by decide +kernel
theorem dL_breaks_26 : decode cL_breaks 26 = .ok (.ireturn, 1) := by decide +kernel
theorem dL_breaks_27 : decode cL_breaks 27 = .ok (.iconst 0, 1) := by decide +kernel
theorem dL_breaks_28 : decode cL_breaks 28 = .ok (.ireturn, 1) := by decide +kernel
set_option maxRecDepth 20000 in
theorem ggL_lose_X5_lose : GoodIn wsL_lose wsX5_lose := goodIn_ca (goodIn_ca (goodIn_ca (goodIn_r _ [8, 9, 10, 11, 12, 13, 14, 7, 15, 16, 17, 18, 19, 20, 21, 22, 23, 24, 25, 26, 27, 28, 29, 30, 31, 32, 33, 34, 35, 36, 37, 38, 39, 40, 41, 42, 43, 44, 45, 46, 47, 48, 49, 50, 51, 52, 53, 54, 55, 56, 57, 58, 59, 60, 61, 62, 63, 64, 65, 66, 67, 68, 69, 70, 71, 72, 73, 74, 75, 76, 77, 78, 79, 80, 81, 82, 83, 84, 85, 86, 87, 88, 89, 90, 91, 92, 93, 94, 95, 96, 97] (by decide +kernel) (by decide +kernel)) (goodIn_sub (fun _ h => List.mem_cons_of_mem _ (List.mem_append_left _ (List.mem_append_left _ (List.mem_append_right _ h)))) (by decide +kernel))) (goodIn_sub (fun _ h => List.mem_cons_of_mem _ (List.mem_append_left _ (List.mem_append_right _ h))) (by decide +kernel))) (goodIn_sub (fun _ h => List.mem_cons_of_mem _ (List.mem_append_right _ h)) (by decide +kernel))
set_option maxRecDepth 20000 in
theorem gL_lose_X5_lose : GoodIn wsL_lose (wsV RL 45 RX5 yX5_lose wsX5_lose) := goodIn_app (goodIn_of _ (by decide +kernel)) ggL_lose_X5_lose
theorem dL_lose_0 : decode cL_lose 0 = .ok (.aload_n 3, 1) := by decide +kernel
theorem dL_lose_1 : decode cL_lose 1 = .ok (.iconst 0, 1) := by decide +kernel
theorem dL_lose_2 : decode cL_lose 2 = .ok (.aload_n 0, 1) := by decide +kernel
theorem dL_lose_3 : decode cL_lose 3 = .ok (.iload_n 1, 1) := by decide +kernel
theorem dL_lose_4 : decode cL_lose 4 = .ok (.iload_n 2, 1) := by decide +kernel
theorem dL_lose_5 : decode cL_lose 5 = .ok (.invokevirtual 45, 3) := by decide +kernel
theorem dL_lose_8 : decode cL_lose 8 = .ok (.i2l, 1) := by decide +kernel
theorem dL_lose_9 : decode cL_lose 9 = .ok (.lastore, 1) := by decide +kernel
theorem dL_lose_10 : decode cL_lose 10 = .ok (.goto 15, 3) := by decide +kernel
theorem dL_lose_13 : decode cL_lose 13 = .ok (.astore 4, 2) := by decide +kernel
theorem dL_lose_15 : decode cL_lose 15 = .ok (.iconst 1, 1) := by decide +kernel
theorem dL_lose_16 : decode cL_lose 16 = .ok (.ireturn, 1) := by decide +kernel
theorem dL_lose_17 : decode cL_lose 17 = .ok (.astore 4, 2) := by decide +kernel
theorem dL_lose_19 : decode cL_lose 19 = .ok (.iconst 2, 1) := by decide +kernel
theorem dL_lose_20 : decode cL_lose 20 = .ok (.ireturn, 1) := by decide +kernel
theorem dL_lose_21 : decode cL_lose 21 = .ok (.astore 4, 2) := by decide +kernel
theorem dL_lose_23 : decode cL_lose 23 = .ok (.iconst 3, 1) := by decide +kernel
theorem dL_lose_24 : decode cL_lose 24 = .ok (.ireturn, 1) := by decide +kernel
theorem dL_lose_25 : decode cL_lose 25 = .ok (.iconst 0, 1) := by decide +kernel
theorem dL_lose_26 : decode cL_lose 26 = .ok (.ireturn, 1) := by decide +kernel
set_option maxRecDepth 20000 in
theorem ggL_collect_X5_collect : GoodIn wsL_collect wsX5_collect := goodIn_ca (goodIn_ca (goodIn_ca (goodIn_r _ [8, 9, 10, 11, 12, 13, 14, 7, 15, 16, 17, 18, 19, 20, 21, 22, 23, 24, 25, 26, 27, 28, 29, 30, 31, 32, 33, 34, 35, 36, 37, 38, 39, 40, 41, 42, 43, 44, 45, 46, 47, 48, 49, 50, 51, 52, 53, 54, 55, 56, 57, 58, 59, 60, 61, 62, 63, 64, 65, 66, 67, 68, 69, 70, 71, 72, 73, 74, 75, 76, 77, 78, 79, 80, 81, 82, 83, 84, 85, 86, 87, 88, 89, 90, 91, 92, 93, 94, 95, 96, 97, 98, 99, 100, 101, 102, 103, 104, 105, 106, 107, 108, 109, 110, 111, 112, 113, 114, 115, 116, 117, 118, 119, 120, 121, 122, 123, 124, 125, 126, 127, 128] (by decide +kernel) (by decide +kernel)) (goodIn_sub (fun _ h => List.mem_cons_of_mem _ (List.mem_append_left _ (List.mem_append_left _ (List.mem_append_right _ h)))) (by decide +kernel))) (goodIn_sub (fun _ h => List.mem_cons_of_mem _ (List.mem_append_left _ (List.mem_append_right _ h))) (by decide +kernel))) (goodIn_sub (fun _ h => List.mem_cons_of_mem _ (List.mem_append_right _ h)) (by decide +kernel))
set_option maxRecDepth 20000 in
theorem gL_collect_X5_collect : GoodIn wsL_collect (wsV RL 48 RX5 yX5_collect wsX5_collect) := goodIn_app (goodIn_of _ (by decide +kernel)) ggL_collect_X5_collect
theorem dL_collect_0 : decode cL_collect 0 = .ok (.aload 4, 2) := by decide +kernel
theorem dL_collect_2 : decode cL_collect 2 = .ok (.iconst 0, 1) := by decide +kernel
theorem dL_collect_3 : decode cL_collect 3 = .ok (.aload_n 0, 1) := by decide +kernel
theorem dL_collect_4 : decode cL_collect 4 = .ok (.iload_n 1, 1) := by decide +kernel
theorem dL_collect_5 : decode cL_collect 5 = .ok (.iload_n 2, 1) := by decide +kernel
theorem dL_collect_6 : decode cL_collect 6 = .ok (.iload_n 3, 1) := by decide +kernel
theorem dL_collect_7 : decode cL_collect 7 = .ok (.invokevirtual 48, 3) := by decide +kernel
theorem dL_collect_10 : decode cL_collect 10 = .ok (.i2l, 1) := by decide +kernel
theorem dL_collect_11 : decode cL_collect 11 = .ok (.lastore, 1) := by decide +kernel
theorem dL_collect_12 : decode cL_collect 12 = .ok (.goto 15, 3) := by decide +kernel
theorem dL_collect_15 : decode cL_collect 15 = .ok (.astore 5, 2) := by decide +kernel
theorem dL_collect_17 : decode cL_collect 17 = .ok (.iconst 1, 1) := by decide +kernel
theorem dL_collect_18 : decode cL_collect 18 = .ok (.ireturn, 1) := by decide +kernel
theorem dL_collect_19 : decode cL_collect 19 = .ok (.astore 5, 2) := by decide +kernel
theorem dL_collect_21 : decode cL_collect 21 = .ok (.iconst 2, 1) := by decide +kernel
theorem dL_collect_22 : decode cL_collect 22 = .ok (.ireturn, 1) := by decide +kernel
theorem dL_collect_23 : decode cL_collect 23 = .ok (.astore 5, 2) := by decide +kernel
theorem dL_collect_25 : decode cL_collect 25 = .ok (.iconst 3, 1) := by decide +kernel
theorem dL_collect_26 : decode cL_collect 26 = .ok (.ireturn, 1) := by decide +kernel
theorem dL_collect_27 : decode cL_collect 27 = .ok (.iconst 0, 1) := by decide +kernel
theorem dL_collect_28 : decode cL_collect 28 = .ok (.ireturn, 1) := by decide +kernel
set_option maxRecDepth 20000 in
theorem ggL_sort_X5_sort : GoodIn wsL_sort wsX5_sort := goodIn_ca (goodIn_ca (goodIn_r _ [7, 8, 9, 10, 11, 12, 6, 13, 14, 15, 16, 17, 18, 19, 20, 21, 22, 23, 24, 25, 26, 27, 28, 29, 30, 31, 32, 33, 34, 35, 36, 37, 38, 39, 40, 41, 42, 43, 44, 45, 46, 47, 48, 49, 50, 51, 52, 53, 54, 55, 56, 57, 58, 59, 60, 61, 62, 63, 64, 65, 66, 67, 68, 69, 70, 71, 72, 73, 74, 75, 76, 77, 78, 79, 80, 81, 82, 83, 84] (by decide +kernel) (by decide +kernel)) (goodIn_sub (fun _ h => List.mem_cons_of_mem _ (List.mem_append_left _ (List.mem_append_right _ h))) (by decide +kernel))) (goodIn_sub (fun _ h => List.mem_cons_of_mem _ (List.mem_append_right _ h)) (by decide +kernel))
set_option maxRecDepth 20000 in
theorem gL_sort_X5_sort : GoodIn wsL_sort (wsV RL 51 RX5 yX5_sort wsX5_sort) := goodIn_app (goodIn_of _ (by decide +kernel)) ggL_sort_X5_sort
theorem dL_sort_0 : decode cL_sort 0 = .ok (.aload_n 3, 1) := by decide +kernel
theorem dL_sort_1 : decode cL_sort 1 = .ok (.iconst 0, 1) := by decide +kernel
theorem dL_sort_2 : decode cL_sort 2 = .ok (.aload_n 0, 1) := by decide +kernel
theorem dL_sort_3 : decode cL_sort 3 = .ok (.iload_n 1, 1) := by decide +kernel
theorem dL_sort_4 : decode cL_sort 4 = .ok (.iload_n 2, 1) := by decide +kernel
theorem dL_sort_5 : decode cL_sort 5 = .ok (.invokevirtual 51, 3) := by decide +kernel
theorem dL_sort_8 : decode cL_sort 8 = .ok (.i2l, 1) := by decide +kernel
theorem dL_sort_9 : decode cL_sort 9 = .ok (.lastore, 1) := by decide +kernel
theorem dL_sort_10 : decode cL_sort 10 = .ok (.goto 11, 3) := by decide +kernel
theorem dL_sort_13 : decode cL_sort 13 = .ok (.astore 4, 2) := by decide +kernel
theorem dL_sort_15 : decode cL_sort 15 = .ok (.iconst 1, 1) := by decide +kernel
theorem dL_sort_16 : decode cL_sort 16 = .ok (.ireturn, 1) := by decide +kernel
theorem dL_sort_17 : decode cL_sort 17 = .ok (.astore 4, 2) := by decide +kernel
theorem dL_sort_19 : decode cL_sort 19 = .ok (.iconst 2, 1) := by decide +kernel
theorem dL_sort_20 : decode cL_sort 20 = .ok (.ireturn, 1) := by decide +kernel
theorem dL_sort_21 : decode cL_sort 21 = .ok (.iconst 0, 1) := by decide +kernel
theorem dL_sort_22 : decode cL_sort 22 = .ok (.ireturn, 1) := by decide +kernel
set_option maxRecDepth 20000 in
theorem ggL_swap_X5_swap : GoodIn wsL_swap wsX5_swap := goodIn_ca (goodIn_ca (goodIn_ca (goodIn_r _ [8, 9, 10, 11, 12, 13, 14, 7, 15, 16, 17, 18, 19, 20, 21, 22, 23, 24, 25, 26, 27, 28, 29, 30, 31, 32, 33, 34, 35, 36, 37, 38, 39, 40, 41, 42, 43, 44, 45, 46, 47, 48, 49, 50, 51, 52, 53, 54, 55, 56, 57, 58, 59, 60, 61, 62, 63, 64, 65, 66, 67, 68, 69, 70, 71, 72, 73, 74, 75, 76, 77, 78, 79, 80, 81, 82, 83, 84, 85, 86, 87, 88, 89, 90, 91, 92, 93] (by decide +kernel) (by decide +kernel)) (goodIn_sub (fun _ h => List.mem_cons_of_mem _ (List.mem_append_left _ (List.mem_append_left _ (List.mem_append_right _ h)))) (by decide +kernel))) (goodIn_sub (fun _ h => List.mem_cons_of_mem _ (List.mem_append_left _ (List.mem_append_right _ h))) (by decide +kernel))) (goodIn_sub (fun _ h => List.mem_cons_of_mem _ (List.mem_append_right _ h)) (by decide +kernel))
set_option maxRecDepth 20000 in
theorem gL_swap_X5_swap : GoodIn wsL_swap (wsV RL 54 RX5 yX5_swap wsX5_swap) := goodIn_app (goodIn_of _ (by decide +kernel)) ggL_swap_X5_swap
theorem dL_swap_0 : decode cL_swap 0 = .ok (.aload 4, 2) := by decide +kernel
theorem dL_swap_2 : decode cL_swap 2 = .ok (.iconst 0, 1) := by decide +kernel
theorem dL_swap_3 : decode cL_swap 3 = .ok (.aload_n 0, 1) := by decide +kernel
theorem dL_swap_4 : decode cL_swap 4 = .ok (.iload_n 1, 1) := by decide +kernel
theorem dL_swap_5 : decode cL_swap 5 = .ok (.iload_n 2, 1) := by decide +kernel
theorem dL_swap_6 : decode cL_swap 6 = .ok (.iload_n 3, 1) := by decide +kernel
theorem dL_swap_7 : decode cL_swap 7 = .ok (.invokevirtual 54, 3) := by decide +kernel
theorem dL_swap_10 : decode cL_swap 10 = .ok (.i2l, 1) := by decide +kernel
theorem dL_swap_11 : decode cL_swap 11 = .ok (.lastore, 1) := by decide +kernel
theorem dL_swap_12 : decode cL_swap 12 = .ok (.goto 15, 3) := by decide +kernel
theorem dL_swap_15 : decode cL_swap 15 = .ok (.astore 5, 2) := by decide +kernel
theorem dL_swap_17 : decode cL_swap 17 = .ok (.iconst 1, 1) := by decide +kernel
theorem dL_swap_18 : decode cL_swap 18 = .ok (.ireturn, 1) := by decide +kernel
theorem dL_swap_19 : decode cL_swap 19 = .ok (.astore 5, 2) := by decide +kernel
theorem dL_swap_21 : decode cL_swap 21 = .ok (.iconst 2, 1) := by decide +kernel
theorem dL_swap_22 : decode cL_swap 22 = .ok (.ireturn, 1) := by decide +kernel
theorem dL_swap_23 : decode cL_swap 23 = .ok (.astore 5, 2) := by decide +kernel
theorem dL_swap_25 : decode cL_swap 25 = .ok (.iconst 3, 1) := by decide +kernel
theorem dL_swap_26 : decode cL_swap 26 = .ok (.ireturn, 1) := by decide +kernel
theorem dL_swap_27 : decode cL_swap 27 = .ok (.iconst 0, 1) := by decide +kernel
theorem dL_swap_28 : decode cL_swap 28 = .ok (.ireturn, 1) := by decide +kernel
set_option maxRecDepth 20000 in
theorem ggL_append_X5_append : GoodIn wsL_append wsX5_append := goodIn_ca (goodIn_ca (goodIn_r _ [7, 8, 9, 10, 6, 11, 12, 13, 14, 15, 16, 17, 18, 19, 20, 21, 22, 23, 24, 25, 26, 27, 28, 29, 30, 31, 32, 33, 34, 35, 36, 37, 38] (by decide +kernel) (by decide +kernel)) (goodIn_sub (fun _ h => List.mem_cons_of_mem _ (List.mem_append_left _ (List.mem_append_right _ h))) (by decide +kernel))) (goodIn_sub (fun _ h => List.mem_cons_of_mem _ (List.mem_append_right _ h)) (by decide +kernel))
set_option maxRecDepth 20000 in
theorem gL_append_X5_append : GoodIn wsL_append (wsV RL 57 RX5 yX5_append wsX5_append) := goodIn_app (goodIn_of _ (by decide +kernel)) ggL_append_X5_append
theorem dL_append_0 : decode cL_append 0 = .ok (.aload_n 2, 1) := by decide +kernel
theorem dL_append_1 : decode cL_append 1 = .ok (.iconst 0, 1) := by decide +kernel
theorem dL_append_2 : decode cL_append 2 = .ok (.aload_n 0, 1) := by decide +kernel
theorem dL_append_3 : decode cL_append 3 = .ok (.iload_n 1, 1) := by decide +kernel
theorem dL_append_4 : decode cL_append 4 = .ok (.invokevirtual 57, 3) := by decide +kernel
theorem dL_append_7 : decode cL_append 7 = .ok (.i2l, 1) := by decide +kernel
theorem dL_append_8 : decode cL_append 8 = .ok (.lastore, 1) := by decide +kernel
theorem dL_append_9 : decode cL_append 9 = .ok (.goto 9, 3) := by decide +kernel
theorem dL_append_12 : decode cL_append 12 = .ok (.astore_n 3, 1) := by decide +kernel
theorem dL_append_13 : decode cL_append 13 = .ok (.iconst 1, 1) := by decide +kernel
theorem dL_append_14 : decode cL_append 14 = .ok (.ireturn, 1) := by decide +kernel
theorem dL_append_15 : decode cL_append 15 = .ok (.astore_n 3, 1) := by decide +kernel
theorem dL_append_16 : decode cL_append 16 = .ok (.iconst 2, 1) := by decide +kernel
theorem dL_append_17 : decode cL_append 17 = .ok (.ireturn, 1) := by decide +kernel
theorem dL_append_18 : decode cL_append 18 = .ok (.iconst 0, 1) := by decide +kernel
theorem dL_append_19 : decode cL_append 19 = .ok (.ireturn, 1) := by decide +kernel
set_option maxRecDepth 20000 in
theorem ggL_run_X5_run : GoodIn wsL_run wsX5_run := goodIn_ca (goodIn_r _ [6, 7, 8, 9, 10, 11, 12, 13, 14, 15, 16, 17, 18, 19, 20, 21, 22, 23, 24, 25, 26, 27, 28, 29, 30, 31, 32, 33, 34, 5, 35, 36, 37, 38, 39, 40, 41, 42, 43, 44, 45, 46, 47, 48, 49, 50, 51, 52, 53, 54, 55, 56, 57, 58, 59, 60, 61, 62, 63, 64, 65, 66, 67, 68, 69, 70, 71, 72, 73, 74, 75, 76, 77, 78, 79, 80, 81, 82, 83, 84, 85, 86, 87, 88, 89, 90, 91, 92, 93, 94, 95, 96, 97, 98, 99, 100, 101, 102, 103, 104, 105, 106, 107, 108, 109, 110, 111, 112, 113, 114, 115, 116, 117, 118, 119, 120, 121, 122, 123, 124, 125, 126, 127, 128, 129, 130, 131, 132, 133, 134, 135, 136, 137, 138, 139, 140, 141, 142, 143, 144, 145, 146, 147, 148, 149, 150, 151, 152, 153, 154, 155, 156, 157, 158, 159, 160, 161, 162, 163, 164, 165, 166, 167, 168, 169, 170, 171, 172, 173, 174, 175, 176, 177, 178, 179, 180, 181, 182, 183, 184, 185, 186, 187, 188, 189, 190, 191, 192, 193, 194, 195, 196, 197, 198, 199, 200, 201, 202, 203, 204, 205, 206, 207, 208, 209, 210, 211, 212, 213, 214, 215, 216, 217, 218, 219, 220, 221, 222, 223, 224, 225, 226, 227, 228, 229, 230, 231, 232, 233, 234, 235, 236, 237, 238, 239, 240, 241, 242, 243, 244, 245, 246, 247, 248, 249, 250, 251, 252, 253, 254] (by decide +kernel) (by decide +kernel)) (goodIn_sub (fun _ h => List.mem_cons_of_mem _ (List.mem_append_right _ h)) (by decide +kernel))
set_option maxRecDepth 20000 in
theorem gL_run_X5_run : GoodIn wsL_run (wsV RL 60 RX5 yX5_run wsX5_run) := goodIn_app (goodIn_of _ (by decide +kernel)) ggL_run_X5_run
theorem dL_run_0 : decode cL_run 0 = .ok (.aload_n 1, 1) := by decide +kernel
theorem dL_run_1 : decode cL_run 1 = .ok (.iconst 0, 1) := by decide +kernel
theorem dL_run_2 : decode cL_run 2 = .ok (.aload_n 0, 1) := by decide +kernel
theorem dL_run_3 : decode cL_run 3 = .ok (.invokevirtual 60, 3) := by decide +kernel
theorem dL_run_6 : decode cL_run 6 = .ok (.i2l, 1) := by decide +kernel
theorem dL_run_7 : decode cL_run 7 = .ok (.lastore, 1) := by decide +kernel
theorem dL_run_8 : decode cL_run 8 = .ok (.goto 6, 3) := by decide +kernel
theorem dL_run_11 : decode cL_run 11 = .ok (.astore_n 2, 1) := by decide +kernel
theorem dL_run_12 : decode cL_run 12 = .ok (.iconst 1, 1) := by decide +kernel
theorem dL_run_13 : decode cL_run 13 = .ok (.ireturn, 1) := by decide +kernel
theorem dL_run_14 : decode cL_run 14 = .ok (.iconst 0, 1) := by decide +kernel
theorem dL_run_15 : decode cL_run 15 = .ok (.ireturn, 1) := by decide +kernel
set_option maxRecDepth 20000 in
theorem ggL_undo_X5_undo : GoodIn wsL_undo wsX5_undo := goodIn_ca (goodIn_r _ [6, 7, 8, 9, 10, 11, 12, 13, 14, 15, 5, 16, 17, 18, 19, 20, 21, 22, 23, 24, 25, 26, 27, 28, 29, 30, 31, 32, 33, 34, 35, 36, 37, 38, 39, 40, 41, 42, 43, 44, 45] (by decide +kernel) (by decide +kernel)) (goodIn_sub (fun _ h => List.mem_cons_of_mem _ (List.mem_append_right _ h)) (by decide +kernel))
set_option maxRecDepth 20000 in
theorem gL_undo_X5_undo : GoodIn wsL_undo (wsV RL 64 RX5 yX5_undo wsX5_undo) := goodIn_app (goodIn_of _ (by decide +kernel)) ggL_undo_X5_undo
theorem dL_undo_0 : decode cL_undo 0 = .ok (.aload_n 1, 1) := by decide +kernel
theorem dL_undo_1 : decode cL_undo 1 = .ok (.iconst 0, 1) := by decide +kernel
theorem dL_undo_2 : decode cL_undo 2 = .ok (.aload_n 0, 1) := by decide +kernel
theorem dL_undo_3 : decode cL_undo 3 = .ok (.invokevirtual 64, 3) := by decide +kernel
theorem dL_undo_6 : decode cL_undo 6 = .ok (.i2l, 1) := by decide +kernel
theorem dL_undo_7 : decode cL_undo 7 = .ok (.lastore, 1) := by decide +kernel
theorem dL_undo_8 : decode cL_undo 8 = .ok (.goto 6, 3) := by decide +kernel
theorem dL_undo_11 : decode cL_undo 11 = .ok (.astore_n 2, 1) := by decide +kernel
theorem dL_undo_12 : decode cL_undo 12 = .ok (.iconst 1, 1) := by decide +kernel
theorem dL_undo_13 : decode cL_undo 13 = .ok (.ireturn, 1) := by decide +kernel
theorem dL_undo_14 : decode cL_undo 14 = .ok (.iconst 0, 1) := by decide +kernel
theorem dL_undo_15 : decode cL_undo 15 = .ok (.ireturn, 1) := by decide +kernel
set_option maxRecDepth 20000 in
theorem ggL_brand_X5_brand : GoodIn wsL_brand wsX5_brand := goodIn_ca (goodIn_ca (goodIn_r _ [7, 8, 9, 10, 11, 6, 12, 13, 14, 15, 16, 17, 18, 19, 20, 21, 22, 23, 24, 25, 26, 27, 28, 29, 30, 31, 32, 33, 34, 35, 36, 37, 38, 39, 40, 41, 42, 43, 44, 45, 46, 47, 48, 49, 50, 51, 52, 53, 54, 55, 56] (by decide +kernel) (by decide +kernel)) (goodIn_sub (fun _ h => List.mem_cons_of_mem _ (List.mem_append_left _ (List.mem_append_right _ h))) (by decide +kernel))) (goodIn_sub (fun _ h => List.mem_cons_of_mem _ (List.mem_append_right _ h)) (by decide +kernel))
set_option maxRecDepth 20000 in
theorem gL_brand_X5_brand : GoodIn wsL_brand (wsV RL 67 RX5 yX5_brand wsX5_brand) := goodIn_app (goodIn_of _ (by decide +kernel)) ggL_brand_X5_brand
theorem dL_brand_0 : decode cL_brand 0 = .ok (.aload_n 3, 1) := by decide +kernel
theorem dL_brand_1 : decode cL_brand 1 = .ok (.iconst 0, 1) := by decide +kernel
theorem dL_brand_2 : decode cL_brand 2 = .ok (.aload_n 0, 1) := by decide +kernel
theorem dL_brand_3 : decode cL_brand 3 = .ok (.iload_n 1, 1) := by decide +kernel
theorem dL_brand_4 : decode cL_brand 4 = .ok (.iload_n 2, 1) := by decide +kernel
theorem dL_brand_5 : decode cL_brand 5 = .ok (.invokevirtual 67, 3) := by decide +kernel
theorem dL_brand_8 : decode cL_brand 8 = .ok (.i2l, 1) := by decide +kernel
theorem dL_brand_9 : decode cL_brand 9 = .ok (.lastore, 1) := by decide +kernel
theorem dL_brand_10 : decode cL_brand 10 = .ok (.goto 11, 3) := by decide +kernel
theorem dL_brand_13 : decode cL_brand 13 = .ok (.astore 4, 2) := by decide +kernel
theorem dL_brand_15 : decode cL_brand 15 = .ok (.iconst 1, 1) := by decide +kernel
theorem dL_brand_16 : decode cL_brand 16 = .ok (.ireturn, 1) := by decide +kernel
theorem dL_brand_17 : decode cL_brand 17 = .ok (.astore 4, 2) := by decide +kernel
theorem dL_brand_19 : decode cL_brand 19 = .ok (.iconst 2, 1) := by decide +kernel
theorem dL_brand_20 : decode cL_brand 20 = .ok (.ireturn, 1) := by decide +kernel
theorem dL_brand_21 : decode cL_brand 21 = .ok (.iconst 0, 1) := by decide +kernel
theorem dL_brand_22 : decode cL_brand 22 = .ok (.ireturn, 1) := by decide +kernel
set_option maxRecDepth 20000 in
theorem ggL_shop_X5_shop : GoodIn wsL_shop wsX5_shop := goodIn_ca (goodIn_ca (goodIn_r _ [7, 8, 9, 10, 11, 6, 12, 13, 14, 15, 16, 17, 18, 19, 20, 21, 22, 23, 24, 25, 26, 27, 28, 29, 30, 31, 32, 33, 34, 35, 36, 37, 38, 39, 40, 41, 42, 43, 44, 45, 46, 47, 48, 49, 50, 51, 52] (by decide +kernel) (by decide +kernel)) (goodIn_sub (fun _ h => List.mem_cons_of_mem _ (List.mem_append_left _ (List.mem_append_right _ h))) (by decide +kernel))) (goodIn_sub (fun _ h => List.mem_cons_of_mem _ (List.mem_append_right _ h)) (by decide +kernel))
set_option maxRecDepth 20000 in
theorem gL_shop_X5_shop : GoodIn wsL_shop (wsV RL 70 RX5 yX5_shop wsX5_shop) := goodIn_app (goodIn_of _ (by decide +kernel)) ggL_shop_X5_shop
theorem dL_shop_0 : decode cL_shop 0 = .ok (.aload_n 3, 1) := by decide +kernel
theorem dL_shop_1 : decode cL_shop 1 = .ok (.iconst 0, 1) := by decide +kernel
theorem dL_shop_2 : decode cL_shop 2 = .ok (.aload_n 0, 1) := by decide +kernel
theorem dL_shop_3 : decode cL_shop 3 = .ok (.iload_n 1, 1) := by decide +kernel
theorem dL_shop_4 : decode cL_shop 4 = .ok (.iload_n 2, 1) := by decide +kernel
theorem dL_shop_5 : decode cL_shop 5 = .ok (.invokevirtual 70, 3) := by decide +kernel
theorem dL_shop_8 : decode cL_shop 8 = .ok (.i2l, 1) := by decide +kernel
theorem dL_shop_9 : decode cL_shop 9 = .ok (.lastore, 1) := by decide +kernel
theorem dL_shop_10 : decode cL_shop 10 = .ok (.goto 11, 3) := by decide +kernel
theorem dL_shop_13 : decode cL_shop 13 = .ok (.astore 4, 2) := by decide +kernel
theorem dL_shop_15 : decode cL_shop 15 = .ok (.iconst 1, 1) := by decide +kernel
theorem dL_shop_16 : decode cL_shop 16 = .ok (.ireturn, 1) := by decide +kernel
theorem dL_shop_17 : decode cL_shop 17 = .ok (.astore 4, 2) := by decide +kernel
theorem dL_shop_19 : decode cL_shop 19 = .ok (.iconst 2, 1) := by decide +kernel
theorem dL_shop_20 : decode cL_shop 20 = .ok (.ireturn, 1) := by decide +kernel
theorem dL_shop_21 : decode cL_shop 21 = .ok (.iconst 0, 1) := by decide +kernel
theorem dL_shop_22 : decode cL_shop 22 = .ok (.ireturn, 1) := by decide +kernel
set_option maxRecDepth 20000 in
theorem ggL_count_X5_count : GoodIn wsL_count wsX5_count := goodIn_ca (goodIn_r _ [6, 7, 8, 9, 10, 5, 11, 12, 13, 14, 15, 16, 17, 18, 19, 20, 21, 22, 23, 24, 25, 26, 27, 28, 29, 30, 31, 32, 33, 34, 35, 36, 37, 38, 39, 40, 41, 42, 43, 44, 45, 46, 47, 48, 49, 50, 51, 52, 53, 54, 55, 56, 57, 58, 59] (by decide +kernel) (by decide +kernel)) (goodIn_sub (fun _ h => List.mem_cons_of_mem _ (List.mem_append_right _ h)) (by decide +kernel))
set_option maxRecDepth 20000 in
theorem gL_count_X5_count : GoodIn wsL_count (wsV RL 73 RX5 yX5_count wsX5_count) := goodIn_app (goodIn_of _ (by decide +kernel)) ggL_count_X5_count
theorem dL_count_0 : decode cL_count 0 = .ok (.aload_n 2, 1) := by decide +kernel
theorem dL_count_1 : decode cL_count 1 = .ok (.iconst 0, 1) := by decide +kernel
theorem dL_count_2 : decode cL_count 2 = .ok (.aload_n 0, 1) := by decide +kernel
theorem dL_count_3 : decode cL_count 3 = .ok (.iload_n 1, 1) := by decide +kernel
theorem dL_count_4 : decode cL_count 4 = .ok (.invokevirtual 73, 3) := by decide +kernel
theorem dL_count_7 : decode cL_count 7 = .ok (.i2l, 1) := by decide +kernel
theorem dL_count_8 : decode cL_count 8 = .ok (.lastore, 1) := by decide +kernel
theorem dL_count_9 : decode cL_count 9 = .ok (.goto 6, 3) := by decide +kernel
theorem dL_count_12 : decode cL_count 12 = .ok (.astore_n 3, 1) := by decide +kernel
theorem dL_count_13 : decode cL_count 13 = .ok (.iconst 1, 1) := by decide +kernel
theorem dL_count_14 : decode cL_count 14 = .ok (.ireturn, 1) := by decide +kernel
theorem dL_count_15 : decode cL_count 15 = .ok (.iconst 0, 1) := by decide +kernel
